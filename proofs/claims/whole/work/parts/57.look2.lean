/-! more calls that look; flag, tick, back (wip/whole/pure) -/
theorem st_scriptOf (x1 x2 : Int32) : S2 INV (Rd (F_Bs_scriptOf x1 x2)) (F_M_scriptOf x1 x2) := by
  refine S2.rs fun δ I => ?_
  obtain ⟨⟨v, g, h1, h2, h4⟩, -⟩ := I
  obtain ⟨δ', s, es, F, m, M', sh, os, R, hc⟩ := m_shows h1 h2 h4
  obtain ⟨W, C, M⟩ := h1
  have hM := W.2.1
  obtain ⟨i, rfl, hi⟩ := zi_ex x1
  obtain ⟨j, rfl, hj⟩ := zi_ex x2
  have ms := m_isScript M W hi
  have cs := c_isScript C W hi
  by_cases q : 0 ≤ i ∧ i < v.2.1
  · rw [if_pos q, zl1] at ms cs
    obtain ⟨m0, m1, m2, m3, m4⟩ := M'.2.2.2.2 i q.1 q.2
    have ci := fun l l0 l5 => C.2.2.2.2 i l q.1 q.2 l0 l5
    by_cases q5 : 0 ≤ j ∧ j < 5
    · have c5 := ci j q5.1 q5.2
      refine ⟨zi (v.2.2.2.2 i j), δ', ?_, ?_, F⟩
      · have cp : F_Pr_scriptPart 1 (zi i) (zi j) δ = some (zi (v.2.2.2.2 i j)) := by simp (disch := omega) only [F_Pr_scriptPart, C.2.1, c5, ↓reduceIte, inb, zl, zi_add, zi_sub, zi_mul, zi_neg, zi_le_t, zi_le_f, zi_lt_t, zi_lt_f, zi_eq_t, zi_eq_f, if_true, if_false, ite_true, ite_false, true_and, and_true, false_and, and_false, not_true_eq_false, not_false_eq_true, true_or, or_true, false_or, or_false, and_self, ge_iff_le, gt_iff_lt]
        simp (disch := omega) only [F_Bs_scriptOf, ↓bnd_eq, bd2, bn2, Option.bind_some, Option.bind_none, cs, ↓bse cp, ↓reduceIte, inb, zl, zi_add, zi_sub, zi_mul, zi_neg, zi_le_t, zi_le_f, zi_lt_t, zi_lt_f, zi_eq_t, zi_eq_f, if_true, if_false, ite_true, ite_false, true_and, and_true, false_and, and_false, not_true_eq_false, not_false_eq_true, true_or, or_true, false_or, or_false, and_self, ge_iff_le, gt_iff_lt]
      · rcases (show j = 0 ∨ j = 1 ∨ j = 2 ∨ j = 3 ∨ j = 4 by omega) with rfl | rfl | rfl | rfl | rfl
        · simp (disch := omega) only [F_M_scriptOf, ↓bnd_eq, bd2, bn2, Option.bind_some, Option.bind_none, ms, ↓bse es, m0, ↓reduceIte, inb, zl, zi_add, zi_sub, zi_mul, zi_neg, zi_le_t, zi_le_f, zi_lt_t, zi_lt_f, zi_eq_t, zi_eq_f, if_true, if_false, ite_true, ite_false, true_and, and_true, false_and, and_false, not_true_eq_false, not_false_eq_true, true_or, or_true, false_or, or_false, and_self, ge_iff_le, gt_iff_lt]
        · simp (disch := omega) only [F_M_scriptOf, ↓bnd_eq, bd2, bn2, Option.bind_some, Option.bind_none, ms, ↓bse es, m1, ↓reduceIte, inb, zl, zi_add, zi_sub, zi_mul, zi_neg, zi_le_t, zi_le_f, zi_lt_t, zi_lt_f, zi_eq_t, zi_eq_f, if_true, if_false, ite_true, ite_false, true_and, and_true, false_and, and_false, not_true_eq_false, not_false_eq_true, true_or, or_true, false_or, or_false, and_self, ge_iff_le, gt_iff_lt]
        · simp (disch := omega) only [F_M_scriptOf, ↓bnd_eq, bd2, bn2, Option.bind_some, Option.bind_none, ms, ↓bse es, m2, ↓reduceIte, inb, zl, zi_add, zi_sub, zi_mul, zi_neg, zi_le_t, zi_le_f, zi_lt_t, zi_lt_f, zi_eq_t, zi_eq_f, if_true, if_false, ite_true, ite_false, true_and, and_true, false_and, and_false, not_true_eq_false, not_false_eq_true, true_or, or_true, false_or, or_false, and_self, ge_iff_le, gt_iff_lt]
        · simp (disch := omega) only [F_M_scriptOf, ↓bnd_eq, bd2, bn2, Option.bind_some, Option.bind_none, ms, ↓bse es, m3, ↓reduceIte, inb, zl, zi_add, zi_sub, zi_mul, zi_neg, zi_le_t, zi_le_f, zi_lt_t, zi_lt_f, zi_eq_t, zi_eq_f, if_true, if_false, ite_true, ite_false, true_and, and_true, false_and, and_false, not_true_eq_false, not_false_eq_true, true_or, or_true, false_or, or_false, and_self, ge_iff_le, gt_iff_lt]
        · simp (disch := omega) only [F_M_scriptOf, ↓bnd_eq, bd2, bn2, Option.bind_some, Option.bind_none, ms, ↓bse es, m4, ↓reduceIte, inb, zl, zi_add, zi_sub, zi_mul, zi_neg, zi_le_t, zi_le_f, zi_lt_t, zi_lt_f, zi_eq_t, zi_eq_f, if_true, if_false, ite_true, ite_false, true_and, and_true, false_and, and_false, not_true_eq_false, not_false_eq_true, true_or, or_true, false_or, or_false, and_self, ge_iff_le, gt_iff_lt]
    · by_cases q8 : 5 ≤ j ∧ j < 8
      · rcases hc with ⟨on, sh', -, h6⟩ | ⟨on, t, ht, h43, sh', RR⟩
        · obtain ⟨a1, a2, a3⟩ := h6 i q.1 (by omega)
          rcases (show j = 5 ∨ j = 6 ∨ j = 7 by omega) with rfl | rfl | rfl
          · refine ⟨zi 0, δ', ?_, ?_, F⟩
            · simp (disch := omega) only [F_Bs_scriptOf, ↓bnd_eq, bd2, bn2, Option.bind_some, Option.bind_none, cs, on, ↓reduceIte, inb, zl, zi_add, zi_sub, zi_mul, zi_neg, zi_le_t, zi_le_f, zi_lt_t, zi_lt_f, zi_eq_t, zi_eq_f, if_true, if_false, ite_true, ite_false, true_and, and_true, false_and, and_false, not_true_eq_false, not_false_eq_true, true_or, or_true, false_or, or_false, and_self, ge_iff_le, gt_iff_lt]
            · simp (disch := omega) only [F_M_scriptOf, ↓bnd_eq, bd2, bn2, Option.bind_some, Option.bind_none, ms, ↓bse es, a1, ↓reduceIte, inb, zl, zi_add, zi_sub, zi_mul, zi_neg, zi_le_t, zi_le_f, zi_lt_t, zi_lt_f, zi_eq_t, zi_eq_f, if_true, if_false, ite_true, ite_false, true_and, and_true, false_and, and_false, not_true_eq_false, not_false_eq_true, true_or, or_true, false_or, or_false, and_self, ge_iff_le, gt_iff_lt]
          · refine ⟨zi (-1), δ', ?_, ?_, F⟩
            · simp (disch := omega) only [F_Bs_scriptOf, ↓bnd_eq, bd2, bn2, Option.bind_some, Option.bind_none, cs, on, ↓reduceIte, inb, zl, zi_add, zi_sub, zi_mul, zi_neg, zi_le_t, zi_le_f, zi_lt_t, zi_lt_f, zi_eq_t, zi_eq_f, if_true, if_false, ite_true, ite_false, true_and, and_true, false_and, and_false, not_true_eq_false, not_false_eq_true, true_or, or_true, false_or, or_false, and_self, ge_iff_le, gt_iff_lt]
            · simp (disch := omega) only [F_M_scriptOf, ↓bnd_eq, bd2, bn2, Option.bind_some, Option.bind_none, ms, ↓bse es, a2, ↓reduceIte, inb, zl, zi_add, zi_sub, zi_mul, zi_neg, zi_le_t, zi_le_f, zi_lt_t, zi_lt_f, zi_eq_t, zi_eq_f, if_true, if_false, ite_true, ite_false, true_and, and_true, false_and, and_false, not_true_eq_false, not_false_eq_true, true_or, or_true, false_or, or_false, and_self, ge_iff_le, gt_iff_lt]
          · refine ⟨zi 0, δ', ?_, ?_, F⟩
            · simp (disch := omega) only [F_Bs_scriptOf, ↓bnd_eq, bd2, bn2, Option.bind_some, Option.bind_none, cs, on, ↓reduceIte, inb, zl, zi_add, zi_sub, zi_mul, zi_neg, zi_le_t, zi_le_f, zi_lt_t, zi_lt_f, zi_eq_t, zi_eq_f, if_true, if_false, ite_true, ite_false, true_and, and_true, false_and, and_false, not_true_eq_false, not_false_eq_true, true_or, or_true, false_or, or_false, and_self, ge_iff_le, gt_iff_lt]
            · simp (disch := omega) only [F_M_scriptOf, ↓bnd_eq, bd2, bn2, Option.bind_some, Option.bind_none, ms, ↓bse es, a3, ↓reduceIte, inb, zl, zi_add, zi_sub, zi_mul, zi_neg, zi_le_t, zi_le_f, zi_lt_t, zi_lt_f, zi_eq_t, zi_eq_f, if_true, if_false, ite_true, ite_false, true_and, and_true, false_and, and_false, not_true_eq_false, not_false_eq_true, true_or, or_true, false_or, or_false, and_self, ge_iff_le, gt_iff_lt]
        · obtain ⟨st, hst, a1, a2, a3, a4, a5⟩ := RR.2.2.2.2.2.2 i q.1 (by omega)
          clear a5
          rcases (show j = 5 ∨ j = 6 ∨ j = 7 by omega) with rfl | rfl | rfl
          · refine ⟨zi st, δ', ?_, ?_, F⟩
            · have cp : F_Ru_stateOf 8 (zi i) δ = some (zi st) := by simp (disch := omega) only [F_Ru_stateOf, a1, ↓reduceIte, inb, zl, zi_add, zi_sub, zi_mul, zi_neg, zi_le_t, zi_le_f, zi_lt_t, zi_lt_f, zi_eq_t, zi_eq_f, if_true, if_false, ite_true, ite_false, true_and, and_true, false_and, and_false, not_true_eq_false, not_false_eq_true, true_or, or_true, false_or, or_false, and_self, ge_iff_le, gt_iff_lt]
              simp (disch := omega) only [F_Bs_scriptOf, ↓bnd_eq, bd2, bn2, Option.bind_some, Option.bind_none, cs, on, ↓bse cp, ↓reduceIte, inb, zl, zi_add, zi_sub, zi_mul, zi_neg, zi_le_t, zi_le_f, zi_lt_t, zi_lt_f, zi_eq_t, zi_eq_f, if_true, if_false, ite_true, ite_false, true_and, and_true, false_and, and_false, not_true_eq_false, not_false_eq_true, true_or, or_true, false_or, or_false, and_self, ge_iff_le, gt_iff_lt]
            · simp (disch := omega) only [F_M_scriptOf, ↓bnd_eq, bd2, bn2, Option.bind_some, Option.bind_none, ms, ↓bse es, a2, ↓reduceIte, inb, zl, zi_add, zi_sub, zi_mul, zi_neg, zi_le_t, zi_le_f, zi_lt_t, zi_lt_f, zi_eq_t, zi_eq_f, if_true, if_false, ite_true, ite_false, true_and, and_true, false_and, and_false, not_true_eq_false, not_false_eq_true, true_or, or_true, false_or, or_false, and_self, ge_iff_le, gt_iff_lt]
          · refine ⟨δ'.2.1 142 23 (zi i), δ', ?_, ?_, F⟩
            · have cp : F_Ru_placeOf 8 (zi i) δ = some (δ'.2.1 142 23 (zi i)) := by simp (disch := omega) only [F_Ru_placeOf, a3, ↓reduceIte, inb, zl, zi_add, zi_sub, zi_mul, zi_neg, zi_le_t, zi_le_f, zi_lt_t, zi_lt_f, zi_eq_t, zi_eq_f, if_true, if_false, ite_true, ite_false, true_and, and_true, false_and, and_false, not_true_eq_false, not_false_eq_true, true_or, or_true, false_or, or_false, and_self, ge_iff_le, gt_iff_lt]
              simp (disch := omega) only [F_Bs_scriptOf, ↓bnd_eq, bd2, bn2, Option.bind_some, Option.bind_none, cs, on, ↓bse cp, ↓reduceIte, inb, zl, zi_add, zi_sub, zi_mul, zi_neg, zi_le_t, zi_le_f, zi_lt_t, zi_lt_f, zi_eq_t, zi_eq_f, if_true, if_false, ite_true, ite_false, true_and, and_true, false_and, and_false, not_true_eq_false, not_false_eq_true, true_or, or_true, false_or, or_false, and_self, ge_iff_le, gt_iff_lt]
            · simp (disch := omega) only [F_M_scriptOf, ↓bnd_eq, bd2, bn2, Option.bind_some, Option.bind_none, ms, ↓bse es, ↓reduceIte, inb, zl, zi_add, zi_sub, zi_mul, zi_neg, zi_le_t, zi_le_f, zi_lt_t, zi_lt_f, zi_eq_t, zi_eq_f, if_true, if_false, ite_true, ite_false, true_and, and_true, false_and, and_false, not_true_eq_false, not_false_eq_true, true_or, or_true, false_or, or_false, and_self, ge_iff_le, gt_iff_lt]
          · refine ⟨δ'.2.1 143 23 (zi i), δ', ?_, ?_, F⟩
            · have cp : F_Ru_refusalOf 8 (zi i) δ = some (δ'.2.1 143 23 (zi i)) := by simp (disch := omega) only [F_Ru_refusalOf, a4, ↓reduceIte, inb, zl, zi_add, zi_sub, zi_mul, zi_neg, zi_le_t, zi_le_f, zi_lt_t, zi_lt_f, zi_eq_t, zi_eq_f, if_true, if_false, ite_true, ite_false, true_and, and_true, false_and, and_false, not_true_eq_false, not_false_eq_true, true_or, or_true, false_or, or_false, and_self, ge_iff_le, gt_iff_lt]
              simp (disch := omega) only [F_Bs_scriptOf, ↓bnd_eq, bd2, bn2, Option.bind_some, Option.bind_none, cs, on, ↓bse cp, ↓reduceIte, inb, zl, zi_add, zi_sub, zi_mul, zi_neg, zi_le_t, zi_le_f, zi_lt_t, zi_lt_f, zi_eq_t, zi_eq_f, if_true, if_false, ite_true, ite_false, true_and, and_true, false_and, and_false, not_true_eq_false, not_false_eq_true, true_or, or_true, false_or, or_false, and_self, ge_iff_le, gt_iff_lt]
            · simp (disch := omega) only [F_M_scriptOf, ↓bnd_eq, bd2, bn2, Option.bind_some, Option.bind_none, ms, ↓bse es, ↓reduceIte, inb, zl, zi_add, zi_sub, zi_mul, zi_neg, zi_le_t, zi_le_f, zi_lt_t, zi_lt_f, zi_eq_t, zi_eq_f, if_true, if_false, ite_true, ite_false, true_and, and_true, false_and, and_false, not_true_eq_false, not_false_eq_true, true_or, or_true, false_or, or_false, and_self, ge_iff_le, gt_iff_lt]
      · refine ⟨zi (-2147483648), δ', ?_, ?_, F⟩
        · have cp : F_Pr_scriptPart 1 (zi i) (zi j) δ = some (zi (-2147483648)) := by
            by_cases q0 : j < 0
            · simp (disch := omega) only [F_Pr_scriptPart, C.2.1, ↓reduceIte, inb, zl, zi_add, zi_sub, zi_mul, zi_neg, zi_le_t, zi_le_f, zi_lt_t, zi_lt_f, zi_eq_t, zi_eq_f, if_true, if_false, ite_true, ite_false, true_and, and_true, false_and, and_false, not_true_eq_false, not_false_eq_true, true_or, or_true, false_or, or_false, and_self, ge_iff_le, gt_iff_lt]
            · simp (disch := omega) only [F_Pr_scriptPart, C.2.1, ↓reduceIte, inb, zl, zi_add, zi_sub, zi_mul, zi_neg, zi_le_t, zi_le_f, zi_lt_t, zi_lt_f, zi_eq_t, zi_eq_f, if_true, if_false, ite_true, ite_false, true_and, and_true, false_and, and_false, not_true_eq_false, not_false_eq_true, true_or, or_true, false_or, or_false, and_self, ge_iff_le, gt_iff_lt]
          simp (disch := omega) only [F_Bs_scriptOf, ↓bnd_eq, bd2, bn2, Option.bind_some, Option.bind_none, cs, ↓bse cp, ↓reduceIte, inb, zl, zi_add, zi_sub, zi_mul, zi_neg, zi_le_t, zi_le_f, zi_lt_t, zi_lt_f, zi_eq_t, zi_eq_f, if_true, if_false, ite_true, ite_false, true_and, and_true, false_and, and_false, not_true_eq_false, not_false_eq_true, true_or, or_true, false_or, or_false, and_self, ge_iff_le, gt_iff_lt]
        · simp (disch := omega) only [F_M_scriptOf, ↓bnd_eq, bd2, bn2, Option.bind_some, Option.bind_none, ms, ↓bse es, ↓reduceIte, inb, zl, zi_add, zi_sub, zi_mul, zi_neg, zi_le_t, zi_le_f, zi_lt_t, zi_lt_f, zi_eq_t, zi_eq_f, if_true, if_false, ite_true, ite_false, true_and, and_true, false_and, and_false, not_true_eq_false, not_false_eq_true, true_or, or_true, false_or, or_false, and_self, ge_iff_le, gt_iff_lt]
  · rw [if_neg q, zl0] at ms cs
    refine ⟨zi (-2147483648), δ, ?_, ?_, Fr.rf⟩
    · simp (disch := omega) only [F_Bs_scriptOf, ↓bnd_eq, bd2, bn2, Option.bind_some, Option.bind_none, cs, ↓reduceIte, inb, zl, zi_add, zi_sub, zi_mul, zi_neg, zi_le_t, zi_le_f, zi_lt_t, zi_lt_f, zi_eq_t, zi_eq_f, if_true, if_false, ite_true, ite_false, true_and, and_true, false_and, and_false, not_true_eq_false, not_false_eq_true, true_or, or_true, false_or, or_false, and_self, ge_iff_le, gt_iff_lt]
    · simp (disch := omega) only [F_M_scriptOf, ↓bnd_eq, bd2, bn2, Option.bind_some, Option.bind_none, ms, ↓reduceIte, inb, zl, zi_add, zi_sub, zi_mul, zi_neg, zi_le_t, zi_le_f, zi_lt_t, zi_lt_f, zi_eq_t, zi_eq_f, if_true, if_false, ite_true, ite_false, true_and, and_true, false_and, and_false, not_true_eq_false, not_false_eq_true, true_or, or_true, false_or, or_false, and_self, ge_iff_le, gt_iff_lt]
theorem st_taken (x1 x2 : Int32) : S2 INV (Rd (F_Bs_taken x1 x2)) (Rd (F_M_taken x1 x2)) := by
  refine S2.rr fun δ I => ?_
  obtain ⟨⟨v, g, ⟨W, C, M⟩, -⟩, -⟩ := I
  have hN := W.1
  obtain ⟨b, rfl, hb⟩ := zi_ex x1
  obtain ⟨k, rfl, hk⟩ := zi_ex x2
  have mb := m_isBlock M W hb
  have cb := c_isBlock C W hb
  by_cases qk : 0 ≤ k ∧ k ≤ 4
  · by_cases q : 0 ≤ b ∧ b < v.1
    · rw [if_pos q, zl1] at mb cb
      have ck := c_kind C W q.1 q.2
      have hkk := W.k q.1 q.2
      obtain ⟨f0, -⟩ := M.2.2.1 b q.1 q.2
      have gen : ∀ z : Int, (z = v.2.2.1 b 0 ∨ z = -13) → (F_Bs_isOfFamily (zi (v.2.2.1 b 0)) (zi k) = if z = -13 then zi 0 else zi 1) → F_Bs_taken (zi b) (zi k) δ = some (zi z) := by
        intro z hz e
        rcases hz with rfl | rfl
        · rw [if_neg (by omega)] at e
          simp (disch := omega) only [F_Bs_taken, ↓bnd_eq, bd2, bn2, Option.bind_some, Option.bind_none, cb, ↓bse ck, e, ↓reduceIte, inb, zl, zi_add, zi_sub, zi_mul, zi_neg, zi_le_t, zi_le_f, zi_lt_t, zi_lt_f, zi_eq_t, zi_eq_f, if_true, if_false, ite_true, ite_false, true_and, and_true, false_and, and_false, not_true_eq_false, not_false_eq_true, true_or, or_true, false_or, or_false, and_self, ge_iff_le, gt_iff_lt]
        · rw [if_pos rfl] at e
          simp (disch := omega) only [F_Bs_taken, ↓bnd_eq, bd2, bn2, Option.bind_some, Option.bind_none, cb, ↓bse ck, e, ↓reduceIte, inb, zl, zi_add, zi_sub, zi_mul, zi_neg, zi_le_t, zi_le_f, zi_lt_t, zi_lt_f, zi_eq_t, zi_eq_f, if_true, if_false, ite_true, ite_false, true_and, and_true, false_and, and_false, not_true_eq_false, not_false_eq_true, true_or, or_true, false_or, or_false, and_self, ge_iff_le, gt_iff_lt]
      rcases (show k = 0 ∨ k = 1 ∨ k = 2 ∨ k = 3 ∨ k = 4 by omega) with rfl | rfl | rfl | rfl | rfl
      · refine ⟨zi (v.2.2.1 b 0), gen _ (Or.inl rfl) ?_, ?_⟩
        · rw [if_neg (by omega)]; simp (disch := omega) only [F_Bs_isOfFamily, ↓reduceIte, inb, zl, zi_add, zi_sub, zi_mul, zi_neg, zi_le_t, zi_le_f, zi_lt_t, zi_lt_f, zi_eq_t, zi_eq_f, if_true, if_false, ite_true, ite_false, true_and, and_true, false_and, and_false, not_true_eq_false, not_false_eq_true, true_or, or_true, false_or, or_false, and_self, ge_iff_le, gt_iff_lt]
        · simp (disch := omega) only [F_M_taken, F_M_taken_82, F_M_taken_87, F_M_within, ↓bnd_eq, bd2, bn2, Option.bind_some, Option.bind_none, mb, f0, ↓reduceIte, inb, zl, zi_add, zi_sub, zi_mul, zi_neg, zi_le_t, zi_le_f, zi_lt_t, zi_lt_f, zi_eq_t, zi_eq_f, if_true, if_false, ite_true, ite_false, true_and, and_true, false_and, and_false, not_true_eq_false, not_false_eq_true, true_or, or_true, false_or, or_false, and_self, ge_iff_le, gt_iff_lt]
      · by_cases q1 : v.2.2.1 b 0 ≤ 12
        · refine ⟨zi (v.2.2.1 b 0), gen _ (Or.inl rfl) ?_, ?_⟩
          · rw [if_neg (by omega)]; simp (disch := omega) only [F_Bs_isOfFamily, F_Bs_isOrder, ↓bnd_eq, bd2, bn2, Option.bind_some, Option.bind_none, ↓reduceIte, inb, zl, zi_add, zi_sub, zi_mul, zi_neg, zi_le_t, zi_le_f, zi_lt_t, zi_lt_f, zi_eq_t, zi_eq_f, if_true, if_false, ite_true, ite_false, true_and, and_true, false_and, and_false, not_true_eq_false, not_false_eq_true, true_or, or_true, false_or, or_false, and_self, ge_iff_le, gt_iff_lt]
          · simp (disch := omega) only [F_M_taken, F_M_taken_82, F_M_taken_87, F_M_within, F_M_isOrder, ↓bnd_eq, bd2, bn2, Option.bind_some, Option.bind_none, mb, f0, ↓reduceIte, inb, zl, zi_add, zi_sub, zi_mul, zi_neg, zi_le_t, zi_le_f, zi_lt_t, zi_lt_f, zi_eq_t, zi_eq_f, if_true, if_false, ite_true, ite_false, true_and, and_true, false_and, and_false, not_true_eq_false, not_false_eq_true, true_or, or_true, false_or, or_false, and_self, ge_iff_le, gt_iff_lt]
        · refine ⟨zi (-13), gen _ (Or.inr rfl) ?_, ?_⟩
          · rw [if_pos rfl]; simp (disch := omega) only [F_Bs_isOfFamily, F_Bs_isOrder, ↓bnd_eq, bd2, bn2, Option.bind_some, Option.bind_none, ↓reduceIte, inb, zl, zi_add, zi_sub, zi_mul, zi_neg, zi_le_t, zi_le_f, zi_lt_t, zi_lt_f, zi_eq_t, zi_eq_f, if_true, if_false, ite_true, ite_false, true_and, and_true, false_and, and_false, not_true_eq_false, not_false_eq_true, true_or, or_true, false_or, or_false, and_self, ge_iff_le, gt_iff_lt]
          · simp (disch := omega) only [F_M_taken, F_M_taken_46, F_M_taken_58, F_M_taken_70, F_M_taken_86, F_M_taken_87, F_M_within, F_M_isOrder, ↓bnd_eq, bd2, bn2, Option.bind_some, Option.bind_none, mb, f0, ↓reduceIte, inb, zl, zi_add, zi_sub, zi_mul, zi_neg, zi_le_t, zi_le_f, zi_lt_t, zi_lt_f, zi_eq_t, zi_eq_f, if_true, if_false, ite_true, ite_false, true_and, and_true, false_and, and_false, not_true_eq_false, not_false_eq_true, true_or, or_true, false_or, or_false, and_self, ge_iff_le, gt_iff_lt]
      · by_cases q1 : 10 ≤ v.2.2.1 b 0 ∧ v.2.2.1 b 0 ≤ 12
        · refine ⟨zi (v.2.2.1 b 0), gen _ (Or.inl rfl) ?_, ?_⟩
          · rw [if_neg (by omega)]; simp (disch := omega) only [F_Bs_isOfFamily, F_Bs_isShell, ↓bnd_eq, bd2, bn2, Option.bind_some, Option.bind_none, ↓reduceIte, inb, zl, zi_add, zi_sub, zi_mul, zi_neg, zi_le_t, zi_le_f, zi_lt_t, zi_lt_f, zi_eq_t, zi_eq_f, if_true, if_false, ite_true, ite_false, true_and, and_true, false_and, and_false, not_true_eq_false, not_false_eq_true, true_or, or_true, false_or, or_false, and_self, ge_iff_le, gt_iff_lt]
          · simp (disch := omega) only [F_M_taken, F_M_taken_46, F_M_taken_82, F_M_taken_87, F_M_within, F_M_isShell, ↓bnd_eq, bd2, bn2, Option.bind_some, Option.bind_none, mb, f0, ↓reduceIte, inb, zl, zi_add, zi_sub, zi_mul, zi_neg, zi_le_t, zi_le_f, zi_lt_t, zi_lt_f, zi_eq_t, zi_eq_f, if_true, if_false, ite_true, ite_false, true_and, and_true, false_and, and_false, not_true_eq_false, not_false_eq_true, true_or, or_true, false_or, or_false, and_self, ge_iff_le, gt_iff_lt]
        · refine ⟨zi (-13), gen _ (Or.inr rfl) ?_, ?_⟩
          · rw [if_pos rfl]
            by_cases q2 : v.2.2.1 b 0 < 10
            · simp (disch := omega) only [F_Bs_isOfFamily, F_Bs_isShell, ↓bnd_eq, bd2, bn2, Option.bind_some, Option.bind_none, ↓reduceIte, inb, zl, zi_add, zi_sub, zi_mul, zi_neg, zi_le_t, zi_le_f, zi_lt_t, zi_lt_f, zi_eq_t, zi_eq_f, if_true, if_false, ite_true, ite_false, true_and, and_true, false_and, and_false, not_true_eq_false, not_false_eq_true, true_or, or_true, false_or, or_false, and_self, ge_iff_le, gt_iff_lt]
            · simp (disch := omega) only [F_Bs_isOfFamily, F_Bs_isShell, ↓bnd_eq, bd2, bn2, Option.bind_some, Option.bind_none, ↓reduceIte, inb, zl, zi_add, zi_sub, zi_mul, zi_neg, zi_le_t, zi_le_f, zi_lt_t, zi_lt_f, zi_eq_t, zi_eq_f, if_true, if_false, ite_true, ite_false, true_and, and_true, false_and, and_false, not_true_eq_false, not_false_eq_true, true_or, or_true, false_or, or_false, and_self, ge_iff_le, gt_iff_lt]
          · by_cases q2 : v.2.2.1 b 0 < 10
            · simp (disch := omega) only [F_M_taken, F_M_taken_46, F_M_taken_58, F_M_taken_70, F_M_taken_86, F_M_taken_87, F_M_within, F_M_isShell, ↓bnd_eq, bd2, bn2, Option.bind_some, Option.bind_none, mb, f0, ↓reduceIte, inb, zl, zi_add, zi_sub, zi_mul, zi_neg, zi_le_t, zi_le_f, zi_lt_t, zi_lt_f, zi_eq_t, zi_eq_f, if_true, if_false, ite_true, ite_false, true_and, and_true, false_and, and_false, not_true_eq_false, not_false_eq_true, true_or, or_true, false_or, or_false, and_self, ge_iff_le, gt_iff_lt]
            · simp (disch := omega) only [F_M_taken, F_M_taken_46, F_M_taken_58, F_M_taken_70, F_M_taken_86, F_M_taken_87, F_M_within, F_M_isShell, ↓bnd_eq, bd2, bn2, Option.bind_some, Option.bind_none, mb, f0, ↓reduceIte, inb, zl, zi_add, zi_sub, zi_mul, zi_neg, zi_le_t, zi_le_f, zi_lt_t, zi_lt_f, zi_eq_t, zi_eq_f, if_true, if_false, ite_true, ite_false, true_and, and_true, false_and, and_false, not_true_eq_false, not_false_eq_true, true_or, or_true, false_or, or_false, and_self, ge_iff_le, gt_iff_lt]
      · by_cases q1 : 13 ≤ v.2.2.1 b 0
        · refine ⟨zi (v.2.2.1 b 0), gen _ (Or.inl rfl) ?_, ?_⟩
          · rw [if_neg (by omega)]; simp (disch := omega) only [F_Bs_isOfFamily, F_Bs_isRound, ↓bnd_eq, bd2, bn2, Option.bind_some, Option.bind_none, ↓reduceIte, inb, zl, zi_add, zi_sub, zi_mul, zi_neg, zi_le_t, zi_le_f, zi_lt_t, zi_lt_f, zi_eq_t, zi_eq_f, if_true, if_false, ite_true, ite_false, true_and, and_true, false_and, and_false, not_true_eq_false, not_false_eq_true, true_or, or_true, false_or, or_false, and_self, ge_iff_le, gt_iff_lt]
          · simp (disch := omega) only [F_M_taken, F_M_taken_46, F_M_taken_58, F_M_taken_82, F_M_taken_87, F_M_within, F_M_isOrder, ↓bnd_eq, bd2, bn2, Option.bind_some, Option.bind_none, mb, f0, ↓reduceIte, inb, zl, zi_add, zi_sub, zi_mul, zi_neg, zi_le_t, zi_le_f, zi_lt_t, zi_lt_f, zi_eq_t, zi_eq_f, if_true, if_false, ite_true, ite_false, true_and, and_true, false_and, and_false, not_true_eq_false, not_false_eq_true, true_or, or_true, false_or, or_false, and_self, ge_iff_le, gt_iff_lt]
        · refine ⟨zi (-13), gen _ (Or.inr rfl) ?_, ?_⟩
          · rw [if_pos rfl]; simp (disch := omega) only [F_Bs_isOfFamily, F_Bs_isRound, ↓bnd_eq, bd2, bn2, Option.bind_some, Option.bind_none, ↓reduceIte, inb, zl, zi_add, zi_sub, zi_mul, zi_neg, zi_le_t, zi_le_f, zi_lt_t, zi_lt_f, zi_eq_t, zi_eq_f, if_true, if_false, ite_true, ite_false, true_and, and_true, false_and, and_false, not_true_eq_false, not_false_eq_true, true_or, or_true, false_or, or_false, and_self, ge_iff_le, gt_iff_lt]
          · simp (disch := omega) only [F_M_taken, F_M_taken_46, F_M_taken_58, F_M_taken_70, F_M_taken_86, F_M_taken_87, F_M_within, F_M_isOrder, ↓bnd_eq, bd2, bn2, Option.bind_some, Option.bind_none, mb, f0, ↓reduceIte, inb, zl, zi_add, zi_sub, zi_mul, zi_neg, zi_le_t, zi_le_f, zi_lt_t, zi_lt_f, zi_eq_t, zi_eq_f, if_true, if_false, ite_true, ite_false, true_and, and_true, false_and, and_false, not_true_eq_false, not_false_eq_true, true_or, or_true, false_or, or_false, and_self, ge_iff_le, gt_iff_lt]
      · by_cases q1 : 19 ≤ v.2.2.1 b 0
        · refine ⟨zi (v.2.2.1 b 0), gen _ (Or.inl rfl) ?_, ?_⟩
          · rw [if_neg (by omega)]; simp (disch := omega) only [F_Bs_isOfFamily, F_Bs_isSharp, ↓bnd_eq, bd2, bn2, Option.bind_some, Option.bind_none, ↓reduceIte, inb, zl, zi_add, zi_sub, zi_mul, zi_neg, zi_le_t, zi_le_f, zi_lt_t, zi_lt_f, zi_eq_t, zi_eq_f, if_true, if_false, ite_true, ite_false, true_and, and_true, false_and, and_false, not_true_eq_false, not_false_eq_true, true_or, or_true, false_or, or_false, and_self, ge_iff_le, gt_iff_lt]
          · simp (disch := omega) only [F_M_taken, F_M_taken_46, F_M_taken_58, F_M_taken_70, F_M_taken_82, F_M_taken_87, F_M_within, F_M_isSharp, ↓bnd_eq, bd2, bn2, Option.bind_some, Option.bind_none, mb, f0, ↓reduceIte, inb, zl, zi_add, zi_sub, zi_mul, zi_neg, zi_le_t, zi_le_f, zi_lt_t, zi_lt_f, zi_eq_t, zi_eq_f, if_true, if_false, ite_true, ite_false, true_and, and_true, false_and, and_false, not_true_eq_false, not_false_eq_true, true_or, or_true, false_or, or_false, and_self, ge_iff_le, gt_iff_lt]
        · refine ⟨zi (-13), gen _ (Or.inr rfl) ?_, ?_⟩
          · rw [if_pos rfl]; simp (disch := omega) only [F_Bs_isOfFamily, F_Bs_isSharp, ↓bnd_eq, bd2, bn2, Option.bind_some, Option.bind_none, ↓reduceIte, inb, zl, zi_add, zi_sub, zi_mul, zi_neg, zi_le_t, zi_le_f, zi_lt_t, zi_lt_f, zi_eq_t, zi_eq_f, if_true, if_false, ite_true, ite_false, true_and, and_true, false_and, and_false, not_true_eq_false, not_false_eq_true, true_or, or_true, false_or, or_false, and_self, ge_iff_le, gt_iff_lt]
          · simp (disch := omega) only [F_M_taken, F_M_taken_46, F_M_taken_58, F_M_taken_70, F_M_taken_86, F_M_taken_87, F_M_within, F_M_isSharp, ↓bnd_eq, bd2, bn2, Option.bind_some, Option.bind_none, mb, f0, ↓reduceIte, inb, zl, zi_add, zi_sub, zi_mul, zi_neg, zi_le_t, zi_le_f, zi_lt_t, zi_lt_f, zi_eq_t, zi_eq_f, if_true, if_false, ite_true, ite_false, true_and, and_true, false_and, and_false, not_true_eq_false, not_false_eq_true, true_or, or_true, false_or, or_false, and_self, ge_iff_le, gt_iff_lt]
    · rw [if_neg q, zl0] at mb cb
      refine ⟨zi (-11), ?_, ?_⟩
      · simp (disch := omega) only [F_Bs_taken, ↓bnd_eq, bd2, bn2, Option.bind_some, Option.bind_none, cb, ↓reduceIte, inb, zl, zi_add, zi_sub, zi_mul, zi_neg, zi_le_t, zi_le_f, zi_lt_t, zi_lt_f, zi_eq_t, zi_eq_f, if_true, if_false, ite_true, ite_false, true_and, and_true, false_and, and_false, not_true_eq_false, not_false_eq_true, true_or, or_true, false_or, or_false, and_self, ge_iff_le, gt_iff_lt]
      · simp (disch := omega) only [F_M_taken, F_M_within, ↓bnd_eq, bd2, bn2, Option.bind_some, Option.bind_none, mb, ↓reduceIte, inb, zl, zi_add, zi_sub, zi_mul, zi_neg, zi_le_t, zi_le_f, zi_lt_t, zi_lt_f, zi_eq_t, zi_eq_f, if_true, if_false, ite_true, ite_false, true_and, and_true, false_and, and_false, not_true_eq_false, not_false_eq_true, true_or, or_true, false_or, or_false, and_self, ge_iff_le, gt_iff_lt]
  · refine ⟨zi (-2), ?_, ?_⟩
    · by_cases q0 : k < 0
      · simp (disch := omega) only [F_Bs_taken, ↓reduceIte, inb, zl, zi_add, zi_sub, zi_mul, zi_neg, zi_le_t, zi_le_f, zi_lt_t, zi_lt_f, zi_eq_t, zi_eq_f, if_true, if_false, ite_true, ite_false, true_and, and_true, false_and, and_false, not_true_eq_false, not_false_eq_true, true_or, or_true, false_or, or_false, and_self, ge_iff_le, gt_iff_lt]
      · simp (disch := omega) only [F_Bs_taken, ↓reduceIte, inb, zl, zi_add, zi_sub, zi_mul, zi_neg, zi_le_t, zi_le_f, zi_lt_t, zi_lt_f, zi_eq_t, zi_eq_f, if_true, if_false, ite_true, ite_false, true_and, and_true, false_and, and_false, not_true_eq_false, not_false_eq_true, true_or, or_true, false_or, or_false, and_self, ge_iff_le, gt_iff_lt]
    · by_cases q0 : k < 0
      · simp (disch := omega) only [F_M_taken, F_M_within, ↓bnd_eq, bd2, bn2, Option.bind_some, Option.bind_none, ↓reduceIte, inb, zl, zi_add, zi_sub, zi_mul, zi_neg, zi_le_t, zi_le_f, zi_lt_t, zi_lt_f, zi_eq_t, zi_eq_f, if_true, if_false, ite_true, ite_false, true_and, and_true, false_and, and_false, not_true_eq_false, not_false_eq_true, true_or, or_true, false_or, or_false, and_self, ge_iff_le, gt_iff_lt]
      · simp (disch := omega) only [F_M_taken, F_M_within, ↓bnd_eq, bd2, bn2, Option.bind_some, Option.bind_none, ↓reduceIte, inb, zl, zi_add, zi_sub, zi_mul, zi_neg, zi_le_t, zi_le_f, zi_lt_t, zi_lt_f, zi_eq_t, zi_eq_f, if_true, if_false, ite_true, ite_false, true_and, and_true, false_and, and_false, not_true_eq_false, not_false_eq_true, true_or, or_true, false_or, or_false, and_self, ge_iff_le, gt_iff_lt]
theorem st_trace (x1 : Int32) : S2 INV (Rd (F_Bs_trace x1)) (Rd (F_M_trace x1)) := by
  refine S2.rr fun δ I => ?_
  obtain ⟨-, -, -, -, -, -, -, h10, -⟩ := I
  obtain ⟨i, rfl, hi⟩ := zi_ex x1
  rcases h10 with ⟨e1, e2⟩ | ⟨q, n, hq, e1, hn, e2, e3, e4⟩
  · refine ⟨zi (-1), ?_, ?_⟩
    · unfold F_Bs_trace
      rw [e1, if_pos rfl]; rfl
    · by_cases q3 : i < 0
      · simp (disch := omega) only [F_M_trace, F_M_trace_20, F_M_within, ↓bnd_eq, bd2, bn2, Option.bind_some, Option.bind_none, e2, ↓reduceIte, inb, zl, zi_add, zi_sub, zi_mul, zi_neg, zi_le_t, zi_le_f, zi_lt_t, zi_lt_f, zi_eq_t, zi_eq_f, if_true, if_false, ite_true, ite_false, true_and, and_true, false_and, and_false, not_true_eq_false, not_false_eq_true, true_or, or_true, false_or, or_false, and_self, ge_iff_le, gt_iff_lt]
      · simp (disch := omega) only [F_M_trace, F_M_trace_20, F_M_within, ↓bnd_eq, bd2, bn2, Option.bind_some, Option.bind_none, e2, ↓reduceIte, inb, zl, zi_add, zi_sub, zi_mul, zi_neg, zi_le_t, zi_le_f, zi_lt_t, zi_lt_f, zi_eq_t, zi_eq_f, if_true, if_false, ite_true, ite_false, true_and, and_true, false_and, and_false, not_true_eq_false, not_false_eq_true, true_or, or_true, false_or, or_false, and_self, ge_iff_le, gt_iff_lt]
  · have cw : ∀ u, F_Fa_bodyAt_2 q (zi i) δ = some u → F_Bs_trace (zi i) δ = some u := fun u e => by
      unfold F_Bs_trace
      rw [e1, if_neg (show ¬ (0 : Nat) = 1 by decide)]
      exact e
    by_cases qi : 0 ≤ i ∧ i < n ∧ i < 30
    · have := e4 i qi.1 qi.2.1 qi.2.2
      refine ⟨δ.2.1 170 23 (zi i), cw _ ?_, ?_⟩
      · simp (disch := omega) only [F_Fa_bodyAt_2, e2, this, ↓reduceIte, inb, zl, zi_add, zi_sub, zi_mul, zi_neg, zi_le_t, zi_le_f, zi_lt_t, zi_lt_f, zi_eq_t, zi_eq_f, if_true, if_false, ite_true, ite_false, true_and, and_true, false_and, and_false, not_true_eq_false, not_false_eq_true, true_or, or_true, false_or, or_false, and_self, ge_iff_le, gt_iff_lt]
      · by_cases q30 : 30 ≤ n
        · simp (disch := omega) only [F_M_trace, F_M_trace_20, F_M_within, ↓bnd_eq, bd2, bn2, Option.bind_some, Option.bind_none, e3, ↓reduceIte, inb, zl, zi_add, zi_sub, zi_mul, zi_neg, zi_le_t, zi_le_f, zi_lt_t, zi_lt_f, zi_eq_t, zi_eq_f, if_true, if_false, ite_true, ite_false, true_and, and_true, false_and, and_false, not_true_eq_false, not_false_eq_true, true_or, or_true, false_or, or_false, and_self, ge_iff_le, gt_iff_lt]
        · simp (disch := omega) only [F_M_trace, F_M_trace_20, F_M_within, ↓bnd_eq, bd2, bn2, Option.bind_some, Option.bind_none, e3, ↓reduceIte, inb, zl, zi_add, zi_sub, zi_mul, zi_neg, zi_le_t, zi_le_f, zi_lt_t, zi_lt_f, zi_eq_t, zi_eq_f, if_true, if_false, ite_true, ite_false, true_and, and_true, false_and, and_false, not_true_eq_false, not_false_eq_true, true_or, or_true, false_or, or_false, and_self, ge_iff_le, gt_iff_lt]
    · refine ⟨zi (-1), cw _ ?_, ?_⟩
      · by_cases q3 : i < 0
        · simp (disch := omega) only [F_Fa_bodyAt_2, e2, ↓reduceIte, inb, zl, zi_add, zi_sub, zi_mul, zi_neg, zi_le_t, zi_le_f, zi_lt_t, zi_lt_f, zi_eq_t, zi_eq_f, if_true, if_false, ite_true, ite_false, true_and, and_true, false_and, and_false, not_true_eq_false, not_false_eq_true, true_or, or_true, false_or, or_false, and_self, ge_iff_le, gt_iff_lt]
        · by_cases q4 : n ≤ i
          · simp (disch := omega) only [F_Fa_bodyAt_2, e2, ↓reduceIte, inb, zl, zi_add, zi_sub, zi_mul, zi_neg, zi_le_t, zi_le_f, zi_lt_t, zi_lt_f, zi_eq_t, zi_eq_f, if_true, if_false, ite_true, ite_false, true_and, and_true, false_and, and_false, not_true_eq_false, not_false_eq_true, true_or, or_true, false_or, or_false, and_self, ge_iff_le, gt_iff_lt]
          · simp (disch := omega) only [F_Fa_bodyAt_2, e2, ↓reduceIte, inb, zl, zi_add, zi_sub, zi_mul, zi_neg, zi_le_t, zi_le_f, zi_lt_t, zi_lt_f, zi_eq_t, zi_eq_f, if_true, if_false, ite_true, ite_false, true_and, and_true, false_and, and_false, not_true_eq_false, not_false_eq_true, true_or, or_true, false_or, or_false, and_self, ge_iff_le, gt_iff_lt]
      · by_cases q30 : 30 ≤ n
        · by_cases q3 : i < 0
          · simp (disch := omega) only [F_M_trace, F_M_trace_20, F_M_within, ↓bnd_eq, bd2, bn2, Option.bind_some, Option.bind_none, e3, ↓reduceIte, inb, zl, zi_add, zi_sub, zi_mul, zi_neg, zi_le_t, zi_le_f, zi_lt_t, zi_lt_f, zi_eq_t, zi_eq_f, if_true, if_false, ite_true, ite_false, true_and, and_true, false_and, and_false, not_true_eq_false, not_false_eq_true, true_or, or_true, false_or, or_false, and_self, ge_iff_le, gt_iff_lt]
          · simp (disch := omega) only [F_M_trace, F_M_trace_20, F_M_within, ↓bnd_eq, bd2, bn2, Option.bind_some, Option.bind_none, e3, ↓reduceIte, inb, zl, zi_add, zi_sub, zi_mul, zi_neg, zi_le_t, zi_le_f, zi_lt_t, zi_lt_f, zi_eq_t, zi_eq_f, if_true, if_false, ite_true, ite_false, true_and, and_true, false_and, and_false, not_true_eq_false, not_false_eq_true, true_or, or_true, false_or, or_false, and_self, ge_iff_le, gt_iff_lt]
        · by_cases q3 : i < 0
          · simp (disch := omega) only [F_M_trace, F_M_trace_20, F_M_within, ↓bnd_eq, bd2, bn2, Option.bind_some, Option.bind_none, e3, ↓reduceIte, inb, zl, zi_add, zi_sub, zi_mul, zi_neg, zi_le_t, zi_le_f, zi_lt_t, zi_lt_f, zi_eq_t, zi_eq_f, if_true, if_false, ite_true, ite_false, true_and, and_true, false_and, and_false, not_true_eq_false, not_false_eq_true, true_or, or_true, false_or, or_false, and_self, ge_iff_le, gt_iff_lt]
          · simp (disch := omega) only [F_M_trace, F_M_trace_20, F_M_within, ↓bnd_eq, bd2, bn2, Option.bind_some, Option.bind_none, e3, ↓reduceIte, inb, zl, zi_add, zi_sub, zi_mul, zi_neg, zi_le_t, zi_le_f, zi_lt_t, zi_lt_f, zi_eq_t, zi_eq_f, if_true, if_false, ite_true, ite_false, true_and, and_true, false_and, and_false, not_true_eq_false, not_false_eq_true, true_or, or_true, false_or, or_false, and_self, ge_iff_le, gt_iff_lt]
/-! all things on a stage -/
section AT
variable {s : Nat} {g : SG} {δc δm : Dl} {k : Int}
/-- what a place adds -/
def ps (u : Int32) : Int32 := if u ≤ zi 0 then zi 0 else u
theorem at_step (k0 : Int) (h0 : 0 ≤ k0) (h1 : k0 < 100) (acc : Int32) (fu : Nat) : F_St_allThings_4 s (fu + 1) acc (zi k0) δc = F_St_allThings_4 s fu (acc + ps (δc.2.1 73 s (zi k0))) (zi (k0 + 1)) δc := by
  unfold ps
  by_cases q : δc.2.1 73 s (zi k0) ≤ zi 0
  · rw [if_pos q, add_z]
    simp (disch := omega) only [F_St_allThings_4, F_St_allThings_4_b, F_St_allThings_31, q, ↓reduceIte, inb, zl, zi_add, zi_sub, zi_mul, zi_neg, zi_le_t, zi_le_f, zi_lt_t, zi_lt_f, zi_eq_t, zi_eq_f, if_true, if_false, ite_true, ite_false, true_and, and_true, false_and, and_false, not_true_eq_false, not_false_eq_true, true_or, or_true, false_or, or_false, and_self, ge_iff_le, gt_iff_lt]
  · rw [if_neg q]
    simp (disch := omega) only [F_St_allThings_4, F_St_allThings_4_b, F_St_allThings_31, q, ↓reduceIte, inb, zl, zi_add, zi_sub, zi_mul, zi_neg, zi_le_t, zi_le_f, zi_lt_t, zi_lt_f, zi_eq_t, zi_eq_f, if_true, if_false, ite_true, ite_false, true_and, and_true, false_and, and_false, not_true_eq_false, not_false_eq_true, true_or, or_true, false_or, or_false, and_self, ge_iff_le, gt_iff_lt]
/-- over the border nothing is added -/
theorem at_skip (h : RS s g δc δm) : ∀ (n : Nat) (k0 : Int) (acc : Int32) (fu : Nat), 0 ≤ k0 → k0 + n ≤ 100 → (∀ j, k0 ≤ j → j < k0 + n → bd (g.1) (g.2.1) j) → F_St_allThings_4 s (fu + n) acc (zi k0) δc = F_St_allThings_4 s fu acc (zi (k0 + n)) δc := by
  intro n
  induction n with
  | zero => intro k0 acc fu h0 h1 hb; rw [show k0 + ((0 : Nat) : Int) = k0 by omega]; rfl
  | succ n ih =>
    intro k0 acc fu h0 h1 hb
    have e := h.2.2.2.2.1 k0 h0 (by omega) (hb k0 (by omega) (by omega))
    rw [show fu + (n + 1) = (fu + n) + 1 by omega, at_step k0 h0 (by omega), e, show ps (zi (-1)) = zi 0 by decide, add_z, ih (k0 + 1) acc fu (by omega) (by omega) (fun j j0 j1 => hb j (by omega) (by omega)), show k0 + 1 + (n : Int) = k0 + ((n + 1 : Nat) : Int) by omega]
/-- a row of cells -/
theorem at_row (wg : WG g) (h : RS s g δc δm) (m : RM k g δm) {k4 : Int32 → Int32 → Dl → Option Int32} {y : Int} (y0 : 0 ≤ y) (y1 : y < g.2.1) : ∀ (n : Nat) (x : Int) (acc : Int32) (fu f2 : Nat), 0 ≤ x → x + n = g.1 → n < f2 →
    ∃ acc', F_St_allThings_4 s (fu + n) acc (zi ((y + 1) * 10 + x + 1)) δc = F_St_allThings_4 s fu acc' (zi ((y + 1) * 10 + g.1 + 1)) δc ∧ F_M_thingsOf_19 k4 f2 acc (zi y) (zi x) δm = k4 acc' (zi (y + 1)) δm := by
  intro n
  have hw := wg.1
  have hh := wg.2.1
  have hk := m.1
  induction n with
  | zero =>
    intro x acc fu f2 x0 hx hf
    obtain ⟨f2, rfl⟩ : ∃ q, f2 = q + 1 := ⟨f2 - 1, by omega⟩
    have : x = g.1 := by omega
    subst this
    refine ⟨acc, rfl, ?_⟩
    simp (disch := omega) only [F_M_thingsOf_19, F_M_thingsOf_19_b, m.2.1, m.2.2.1, ↓reduceIte, inb, zl, zi_add, zi_sub, zi_mul, zi_neg, zi_le_t, zi_le_f, zi_lt_t, zi_lt_f, zi_eq_t, zi_eq_f, if_true, if_false, ite_true, ite_false, true_and, and_true, false_and, and_false, not_true_eq_false, not_false_eq_true, true_or, or_true, false_or, or_false, and_self, ge_iff_le, gt_iff_lt]
  | succ n ih =>
    intro x acc fu f2 x0 hx hf
    obtain ⟨f2, rfl⟩ : ∃ q, f2 = q + 1 := ⟨f2 - 1, by omega⟩
    have ec := h.2.2.2.1 x y x0 (by omega) y0 y1
    obtain ⟨acc', e1, e2⟩ := ih (x + 1) (acc + ps (δm.2.1 133 23 (zi (8 * y + x)))) fu f2 (by omega) (by omega) (by omega)
    refine ⟨acc', ?_, ?_⟩
    · rw [← e1, show fu + (n + 1) = (fu + n) + 1 by omega, at_step _ (by omega) (by omega), ec, show (y + 1) * 10 + x + 1 + 1 = (y + 1) * 10 + (x + 1) + 1 by omega]
    · rw [← e2]
      unfold ps
      by_cases q : δm.2.1 133 23 (zi (8 * y + x)) ≤ zi 0
      · rw [if_pos q]
        simp (disch := omega) only [F_M_thingsOf_19, F_M_thingsOf_19_b, F_M_thingsOf_62, m.2.1, m.2.2.1, q, ↓reduceIte, inb, zl, zi_add, zi_sub, zi_mul, zi_neg, zi_le_t, zi_le_f, zi_lt_t, zi_lt_f, zi_eq_t, zi_eq_f, if_true, if_false, ite_true, ite_false, true_and, and_true, false_and, and_false, not_true_eq_false, not_false_eq_true, true_or, or_true, false_or, or_false, and_self, ge_iff_le, gt_iff_lt]
      · rw [if_neg q]
        simp (disch := omega) only [F_M_thingsOf_19, F_M_thingsOf_19_b, F_M_thingsOf_62, m.2.1, m.2.2.1, q, ↓reduceIte, inb, zl, zi_add, zi_sub, zi_mul, zi_neg, zi_le_t, zi_le_f, zi_lt_t, zi_lt_f, zi_eq_t, zi_eq_f, if_true, if_false, ite_true, ite_false, true_and, and_true, false_and, and_false, not_true_eq_false, not_false_eq_true, true_or, or_true, false_or, or_false, and_self, ge_iff_le, gt_iff_lt]
/-- row by row -/
theorem at_rows (wg : WG g) (h : RS s g δc δm) (m : RM k g δm) : ∀ (n : Nat) (y : Int) (acc : Int32) (F f2 : Nat), 0 ≤ y → y + n = g.2.1 → n < f2 →
    ∃ acc', F_St_allThings_4 s (F + 10 * n) acc (zi ((y + 1) * 10)) δc = F_St_allThings_4 s F acc' (zi ((g.2.1 + 1) * 10)) δc ∧ F_M_thingsOf_4 f2 acc (zi y) δm = some acc' := by
  intro n
  have hw := wg.1
  have hh := wg.2.1
  have hk := m.1
  induction n with
  | zero =>
    intro y acc F f2 y0 hy hf
    obtain ⟨f2, rfl⟩ : ∃ q, f2 = q + 1 := ⟨f2 - 1, by omega⟩
    have : y = g.2.1 := by omega
    subst this
    refine ⟨acc, rfl, ?_⟩
    simp (disch := omega) only [F_M_thingsOf_4, F_M_thingsOf_4_b, m.2.1, m.2.2.2.1, ↓reduceIte, inb, zl, zi_add, zi_sub, zi_mul, zi_neg, zi_le_t, zi_le_f, zi_lt_t, zi_lt_f, zi_eq_t, zi_eq_f, if_true, if_false, ite_true, ite_false, true_and, and_true, false_and, and_false, not_true_eq_false, not_false_eq_true, true_or, or_true, false_or, or_false, and_self, ge_iff_le, gt_iff_lt]
  | succ n ih =>
    intro y acc F f2 y0 hy hf
    obtain ⟨f2, rfl⟩ : ∃ q, f2 = q + 1 := ⟨f2 - 1, by omega⟩
    have s1 := at_skip h 1 ((y + 1) * 10) acc (F + 10 * n + (9 - (g.1).toNat) + (g.1).toNat) (by omega) (by omega) (fun j j0 j1 => by unfold bd; omega)
    obtain ⟨acc1, r1, r2⟩ := at_row wg h m (k4 := F_M_thingsOf_4 f2) y0 (by omega) (g.1).toNat 0 acc (F + 10 * n + (9 - (g.1).toNat)) FU (by omega) (by omega) (by unfold FU; omega)
    have s2 := at_skip h (9 - (g.1).toNat) ((y + 1) * 10 + g.1 + 1) acc1 (F + 10 * n) (by omega) (by omega) (fun j j0 j1 => by unfold bd; omega)
    obtain ⟨acc2, i1, i2⟩ := ih (y + 1) acc1 F f2 (by omega) (by omega) (by omega)
    refine ⟨acc2, ?_, ?_⟩
    · rw [← i1, show (y + 1 + 1) * 10 = (y + 1) * 10 + g.1 + 1 + ((9 - (g.1).toNat : Nat) : Int) by omega, ← s2, ← r1, show (y + 1) * 10 + 0 + 1 = (y + 1) * 10 + ((1 : Nat) : Int) by omega, ← s1]
      congr 1
      omega
    · rw [← i2, ← r2]
      simp (disch := omega) only [F_M_thingsOf_4, F_M_thingsOf_4_b, m.2.1, m.2.2.2.1, ↓reduceIte, inb, zl, zi_add, zi_sub, zi_mul, zi_neg, zi_le_t, zi_le_f, zi_lt_t, zi_lt_f, zi_eq_t, zi_eq_f, if_true, if_false, ite_true, ite_false, true_and, and_true, false_and, and_false, not_true_eq_false, not_false_eq_true, true_or, or_true, false_or, or_false, and_self, ge_iff_le, gt_iff_lt]
theorem at_all (wg : WG g) (h : RS s g δc δm) (m : RM k g δm) : ∃ u, F_St_allThings s δc = some u ∧ F_M_thingsOf δm = some u := by
  have hw := wg.1
  have hh := wg.2.1
  obtain ⟨acc, r1, r2⟩ := at_rows wg h m (g.2.1).toNat 0 (zi 0) (FU - 10 - 10 * (g.2.1).toNat) FU (by omega) (by omega) (by unfold FU; omega)
  have s1 := at_skip h 10 0 (zi 0) (FU - 10) (by omega) (by omega) (fun j j0 j1 => by unfold bd; omega)
  have hFU : 1000 < FU := by unfold FU; omega
  have s2 := at_skip h (100 - ((g.2.1).toNat + 1) * 10) ((g.2.1 + 1) * 10) acc (FU - 10 - 10 * (g.2.1).toNat - (100 - ((g.2.1).toNat + 1) * 10)) (by omega) (by omega) (fun j j0 j1 => by unfold bd; omega)
  refine ⟨acc, ?_, ?_⟩
  · unfold F_St_allThings
    rw [zl0]
    rw [show FU - 10 + 10 = FU by omega] at s1
    rw [s1, show (0 : Int) + ((10 : Nat) : Int) = (0 + 1) * 10 by omega]
    rw [show FU - 10 - 10 * (g.2.1).toNat + 10 * (g.2.1).toNat = FU - 10 by omega] at r1
    rw [r1]
    rw [show FU - 10 - 10 * (g.2.1).toNat - (100 - ((g.2.1).toNat + 1) * 10) + (100 - ((g.2.1).toNat + 1) * 10) = FU - 10 - 10 * (g.2.1).toNat by omega] at s2
    rw [s2, show (g.2.1 + 1) * 10 + ((100 - ((g.2.1).toNat + 1) * 10 : Nat) : Int) = 100 by omega]
    generalize hf : FU - 10 - 10 * (g.2.1).toNat - (100 - ((g.2.1).toNat + 1) * 10) = f
    obtain ⟨f, rfl⟩ : ∃ q, f = q + 1 := ⟨f - 1, by omega⟩
    simp (disch := omega) only [F_St_allThings_4, F_St_allThings_4_b, ↓reduceIte, inb, zl, zi_add, zi_sub, zi_mul, zi_neg, zi_le_t, zi_le_f, zi_lt_t, zi_lt_f, zi_eq_t, zi_eq_f, if_true, if_false, ite_true, ite_false, true_and, and_true, false_and, and_false, not_true_eq_false, not_false_eq_true, true_or, or_true, false_or, or_false, and_self, ge_iff_le, gt_iff_lt]
  · unfold F_M_thingsOf
    rw [zl0]
    exact r2
end AT
theorem st_count (x1 : Int32) : S2 INV (Rd (F_Bs_count x1)) (F_M_count x1) := by
  refine S2.rs fun δ I => ?_
  obtain ⟨⟨v, g, h1, h2, h4⟩, ⟨kn, gk, h3⟩, h5, h6, h7, h8, h9, h10, h11, h13, hx⟩ := I
  obtain ⟨δ', s, es, F, m, M', sh, os, R, hc⟩ := m_shows h1 h2 h4
  obtain ⟨W, C, M⟩ := h1
  have wg := h2.1
  obtain ⟨j, rfl, hj⟩ := zi_ex x1
  by_cases q : 0 ≤ j ∧ j < 10
  · rcases (show j = 0 ∨ j = 1 ∨ j = 2 ∨ j = 3 ∨ j = 4 ∨ j = 5 ∨ j = 6 ∨ j = 7 ∨ j = 8 ∨ j = 9 by omega) with rfl | rfl | rfl | rfl | rfl | rfl | rfl | rfl | rfl | rfl
    · refine ⟨zi (v.1), δ, ?_, ?_, Fr.rf⟩
      · simp (disch := omega) only [F_Bs_count, C.1, ↓reduceIte, inb, zl, zi_add, zi_sub, zi_mul, zi_neg, zi_le_t, zi_le_f, zi_lt_t, zi_lt_f, zi_eq_t, zi_eq_f, if_true, if_false, ite_true, ite_false, true_and, and_true, false_and, and_false, not_true_eq_false, not_false_eq_true, true_or, or_true, false_or, or_false, and_self, ge_iff_le, gt_iff_lt]
      · simp (disch := omega) only [F_M_count, M.1, ↓reduceIte, inb, zl, zi_add, zi_sub, zi_mul, zi_neg, zi_le_t, zi_le_f, zi_lt_t, zi_lt_f, zi_eq_t, zi_eq_f, if_true, if_false, ite_true, ite_false, true_and, and_true, false_and, and_false, not_true_eq_false, not_false_eq_true, true_or, or_true, false_or, or_false, and_self, ge_iff_le, gt_iff_lt]
    · refine ⟨zi (v.2.1), δ, ?_, ?_, Fr.rf⟩
      · simp (disch := omega) only [F_Bs_count, C.2.1, ↓reduceIte, inb, zl, zi_add, zi_sub, zi_mul, zi_neg, zi_le_t, zi_le_f, zi_lt_t, zi_lt_f, zi_eq_t, zi_eq_f, if_true, if_false, ite_true, ite_false, true_and, and_true, false_and, and_false, not_true_eq_false, not_false_eq_true, true_or, or_true, false_or, or_false, and_self, ge_iff_le, gt_iff_lt]
      · simp (disch := omega) only [F_M_count, M.2.1, ↓reduceIte, inb, zl, zi_add, zi_sub, zi_mul, zi_neg, zi_le_t, zi_le_f, zi_lt_t, zi_lt_f, zi_eq_t, zi_eq_f, if_true, if_false, ite_true, ite_false, true_and, and_true, false_and, and_false, not_true_eq_false, not_false_eq_true, true_or, or_true, false_or, or_false, and_self, ge_iff_le, gt_iff_lt]
    · refine ⟨zi (g.2.2.1), δ, ?_, ?_, Fr.rf⟩
      · simp (disch := omega) only [F_Bs_count, h2.2.1.2.2.1, ↓reduceIte, inb, zl, zi_add, zi_sub, zi_mul, zi_neg, zi_le_t, zi_le_f, zi_lt_t, zi_lt_f, zi_eq_t, zi_eq_f, if_true, if_false, ite_true, ite_false, true_and, and_true, false_and, and_false, not_true_eq_false, not_false_eq_true, true_or, or_true, false_or, or_false, and_self, ge_iff_le, gt_iff_lt]
      · simp (disch := omega) only [F_M_count, h2.2.2.2.2.1, ↓reduceIte, inb, zl, zi_add, zi_sub, zi_mul, zi_neg, zi_le_t, zi_le_f, zi_lt_t, zi_lt_f, zi_eq_t, zi_eq_f, if_true, if_false, ite_true, ite_false, true_and, and_true, false_and, and_false, not_true_eq_false, not_false_eq_true, true_or, or_true, false_or, or_false, and_self, ge_iff_le, gt_iff_lt]
    · refine ⟨zi kn, δ, ?_, ?_, Fr.rf⟩
      · simp (disch := omega) only [F_Bs_count, h3.2.1, ↓reduceIte, inb, zl, zi_add, zi_sub, zi_mul, zi_neg, zi_le_t, zi_le_f, zi_lt_t, zi_lt_f, zi_eq_t, zi_eq_f, if_true, if_false, ite_true, ite_false, true_and, and_true, false_and, and_false, not_true_eq_false, not_false_eq_true, true_or, or_true, false_or, or_false, and_self, ge_iff_le, gt_iff_lt]
      · simp (disch := omega) only [F_M_count, h3.2.2.1, ↓reduceIte, inb, zl, zi_add, zi_sub, zi_mul, zi_neg, zi_le_t, zi_le_f, zi_lt_t, zi_lt_f, zi_eq_t, zi_eq_f, if_true, if_false, ite_true, ite_false, true_and, and_true, false_and, and_false, not_true_eq_false, not_false_eq_true, true_or, or_true, false_or, or_false, and_self, ge_iff_le, gt_iff_lt]
    · rcases hc with ⟨on, sh', -⟩ | ⟨on, t, ht, h43, sh', RR⟩
      · refine ⟨zi (-1), δ, ?_, ?_, Fr.rf⟩
        · simp (disch := omega) only [F_Bs_count, on, ↓reduceIte, inb, zl, zi_add, zi_sub, zi_mul, zi_neg, zi_le_t, zi_le_f, zi_lt_t, zi_lt_f, zi_eq_t, zi_eq_f, if_true, if_false, ite_true, ite_false, true_and, and_true, false_and, and_false, not_true_eq_false, not_false_eq_true, true_or, or_true, false_or, or_false, and_self, ge_iff_le, gt_iff_lt]
        · simp (disch := omega) only [F_M_count, sh', ↓reduceIte, inb, zl, zi_add, zi_sub, zi_mul, zi_neg, zi_le_t, zi_le_f, zi_lt_t, zi_lt_f, zi_eq_t, zi_eq_f, if_true, if_false, ite_true, ite_false, true_and, and_true, false_and, and_false, not_true_eq_false, not_false_eq_true, true_or, or_true, false_or, or_false, and_self, ge_iff_le, gt_iff_lt]
      · refine ⟨zi t, δ, ?_, ?_, Fr.rf⟩
        · simp (disch := omega) only [F_Bs_count, on, h43, ↓reduceIte, inb, zl, zi_add, zi_sub, zi_mul, zi_neg, zi_le_t, zi_le_f, zi_lt_t, zi_lt_f, zi_eq_t, zi_eq_f, if_true, if_false, ite_true, ite_false, true_and, and_true, false_and, and_false, not_true_eq_false, not_false_eq_true, true_or, or_true, false_or, or_false, and_self, ge_iff_le, gt_iff_lt]
        · simp (disch := omega) only [F_M_count, sh', ↓reduceIte, inb, zl, zi_add, zi_sub, zi_mul, zi_neg, zi_le_t, zi_le_f, zi_lt_t, zi_lt_f, zi_eq_t, zi_eq_f, if_true, if_false, ite_true, ite_false, true_and, and_true, false_and, and_false, not_true_eq_false, not_false_eq_true, true_or, or_true, false_or, or_false, and_self, ge_iff_le, gt_iff_lt]
    · rcases hc with ⟨on, sh', h148, -⟩ | ⟨on, t, ht, h43, sh', RR⟩
      · refine ⟨zi 0, δ', ?_, ?_, F⟩
        · simp (disch := omega) only [F_Bs_count, on, ↓reduceIte, inb, zl, zi_add, zi_sub, zi_mul, zi_neg, zi_le_t, zi_le_f, zi_lt_t, zi_lt_f, zi_eq_t, zi_eq_f, if_true, if_false, ite_true, ite_false, true_and, and_true, false_and, and_false, not_true_eq_false, not_false_eq_true, true_or, or_true, false_or, or_false, and_self, ge_iff_le, gt_iff_lt]
        · simp (disch := omega) only [F_M_count, ↓bse es, h148, ↓reduceIte, inb, zl, zi_add, zi_sub, zi_mul, zi_neg, zi_le_t, zi_le_f, zi_lt_t, zi_lt_f, zi_eq_t, zi_eq_f, if_true, if_false, ite_true, ite_false, true_and, and_true, false_and, and_false, not_true_eq_false, not_false_eq_true, true_or, or_true, false_or, or_false, and_self, ge_iff_le, gt_iff_lt]
      · obtain ⟨n, hn, y1, y2, y3, y4, y5⟩ := RR.2.2.2.2.2.1
        refine ⟨zi n, δ', ?_, ?_, F⟩
        · simp (disch := omega) only [F_Bs_count, on, y3, ↓reduceIte, inb, zl, zi_add, zi_sub, zi_mul, zi_neg, zi_le_t, zi_le_f, zi_lt_t, zi_lt_f, zi_eq_t, zi_eq_f, if_true, if_false, ite_true, ite_false, true_and, and_true, false_and, and_false, not_true_eq_false, not_false_eq_true, true_or, or_true, false_or, or_false, and_self, ge_iff_le, gt_iff_lt]
        · simp (disch := omega) only [F_M_count, ↓bse es, y4, ↓reduceIte, inb, zl, zi_add, zi_sub, zi_mul, zi_neg, zi_le_t, zi_le_f, zi_lt_t, zi_lt_f, zi_eq_t, zi_eq_f, if_true, if_false, ite_true, ite_false, true_and, and_true, false_and, and_false, not_true_eq_false, not_false_eq_true, true_or, or_true, false_or, or_false, and_self, ge_iff_le, gt_iff_lt]
    · obtain ⟨n, hn, a1, a2, -⟩ := h5
      refine ⟨zi n, δ, ?_, ?_, Fr.rf⟩
      · simp (disch := omega) only [F_Bs_count, a1, ↓reduceIte, inb, zl, zi_add, zi_sub, zi_mul, zi_neg, zi_le_t, zi_le_f, zi_lt_t, zi_lt_f, zi_eq_t, zi_eq_f, if_true, if_false, ite_true, ite_false, true_and, and_true, false_and, and_false, not_true_eq_false, not_false_eq_true, true_or, or_true, false_or, or_false, and_self, ge_iff_le, gt_iff_lt]
      · simp (disch := omega) only [F_M_count, a2, ↓reduceIte, inb, zl, zi_add, zi_sub, zi_mul, zi_neg, zi_le_t, zi_le_f, zi_lt_t, zi_lt_f, zi_eq_t, zi_eq_f, if_true, if_false, ite_true, ite_false, true_and, and_true, false_and, and_false, not_true_eq_false, not_false_eq_true, true_or, or_true, false_or, or_false, and_self, ge_iff_le, gt_iff_lt]
    · obtain ⟨w, w', n, hw, hn, a1, a2, a3, a4, -⟩ := h6
      have ow : Oc w 10 := by
        rcases hw with ⟨rfl, rfl⟩ | ⟨rfl, rfl⟩ <;> decide
      refine ⟨zi n, δ, ?_, ?_, Fr.rf⟩
      · have e : F_Bs_count 7 δ = some (zi n) := by
          unfold F_Bs_count
          rw [if_neg (by decide), if_neg (by decide), if_neg (by decide), if_neg (by decide), if_neg (by decide), if_neg (by decide), if_neg (by decide), if_pos rfl, a1, if_pos ⟨rfl, ow⟩, a3]
        exact e
      · simp (disch := omega) only [F_M_count, a4, ↓reduceIte, inb, zl, zi_add, zi_sub, zi_mul, zi_neg, zi_le_t, zi_le_f, zi_lt_t, zi_lt_f, zi_eq_t, zi_eq_f, if_true, if_false, ite_true, ite_false, true_and, and_true, false_and, and_false, not_true_eq_false, not_false_eq_true, true_or, or_true, false_or, or_false, and_self, ge_iff_le, gt_iff_lt]
    · obtain ⟨u, c1, c2⟩ := at_all wg R m
      refine ⟨u, δ', ?_, ?_, F⟩
      · have e : F_Bs_count 8 δ = some u := by
          unfold F_Bs_count
          rw [if_neg (by decide), if_neg (by decide), if_neg (by decide), if_neg (by decide), if_neg (by decide), if_neg (by decide), if_neg (by decide), if_neg (by decide), if_pos rfl, bnd_eq, sh, if_pos ⟨rfl, os⟩, c1]
          rfl
        exact e
      · simp (disch := omega) only [F_M_count, ↓bse es, ↓bse c2, ↓reduceIte, inb, zl, zi_add, zi_sub, zi_mul, zi_neg, zi_le_t, zi_le_f, zi_lt_t, zi_lt_f, zi_eq_t, zi_eq_f, if_true, if_false, ite_true, ite_false, true_and, and_true, false_and, and_false, not_true_eq_false, not_false_eq_true, true_or, or_true, false_or, or_false, and_self, ge_iff_le, gt_iff_lt]
    · rcases h10 with ⟨e1, e2⟩ | ⟨q, n, hq, e1, hn, e2, e3, e4⟩
      · refine ⟨zi 0, δ, ?_, ?_, Fr.rf⟩
        · have e : F_cnt9 δ = some (zi 0) := by
            unfold F_cnt9
            rw [e1, if_pos rfl, zl0]
          simp (disch := omega) only [F_Bs_count, e, ↓reduceIte, inb, zl, zi_add, zi_sub, zi_mul, zi_neg, zi_le_t, zi_le_f, zi_lt_t, zi_lt_f, zi_eq_t, zi_eq_f, if_true, if_false, ite_true, ite_false, true_and, and_true, false_and, and_false, not_true_eq_false, not_false_eq_true, true_or, or_true, false_or, or_false, and_self, ge_iff_le, gt_iff_lt]
        · simp (disch := omega) only [F_M_count, e2, ↓reduceIte, inb, zl, zi_add, zi_sub, zi_mul, zi_neg, zi_le_t, zi_le_f, zi_lt_t, zi_lt_f, zi_eq_t, zi_eq_f, if_true, if_false, ite_true, ite_false, true_and, and_true, false_and, and_false, not_true_eq_false, not_false_eq_true, true_or, or_true, false_or, or_false, and_self, ge_iff_le, gt_iff_lt]
      · refine ⟨zi n, δ, ?_, ?_, Fr.rf⟩
        · have e : F_cnt9 δ = some (zi n) := by
            unfold F_cnt9
            rw [e1, if_neg (show ¬ (0 : Nat) = 1 by decide), e2]
          simp (disch := omega) only [F_Bs_count, e, ↓reduceIte, inb, zl, zi_add, zi_sub, zi_mul, zi_neg, zi_le_t, zi_le_f, zi_lt_t, zi_lt_f, zi_eq_t, zi_eq_f, if_true, if_false, ite_true, ite_false, true_and, and_true, false_and, and_false, not_true_eq_false, not_false_eq_true, true_or, or_true, false_or, or_false, and_self, ge_iff_le, gt_iff_lt]
        · simp (disch := omega) only [F_M_count, e3, ↓reduceIte, inb, zl, zi_add, zi_sub, zi_mul, zi_neg, zi_le_t, zi_le_f, zi_lt_t, zi_lt_f, zi_eq_t, zi_eq_f, if_true, if_false, ite_true, ite_false, true_and, and_true, false_and, and_false, not_true_eq_false, not_false_eq_true, true_or, or_true, false_or, or_false, and_self, ge_iff_le, gt_iff_lt]
  · refine ⟨zi (-2), δ, ?_, ?_, Fr.rf⟩
    · simp (disch := omega) only [F_Bs_count, ↓reduceIte, inb, zl, zi_add, zi_sub, zi_mul, zi_neg, zi_le_t, zi_le_f, zi_lt_t, zi_lt_f, zi_eq_t, zi_eq_f, if_true, if_false, ite_true, ite_false, true_and, and_true, false_and, and_false, not_true_eq_false, not_false_eq_true, true_or, or_true, false_or, or_false, and_self, ge_iff_le, gt_iff_lt]
    · simp (disch := omega) only [F_M_count, ↓reduceIte, inb, zl, zi_add, zi_sub, zi_mul, zi_neg, zi_le_t, zi_le_f, zi_lt_t, zi_lt_f, zi_eq_t, zi_eq_f, if_true, if_false, ite_true, ite_false, true_and, and_true, false_and, and_false, not_true_eq_false, not_false_eq_true, true_or, or_true, false_or, or_false, and_self, ge_iff_le, gt_iff_lt]
