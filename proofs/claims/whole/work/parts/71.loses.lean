/-! pieces of loses (wip/whole/pure) -/
/-- the least of what is not -1 -/
def mnL (L : Int → Int) : Nat → Int → Int → Int
  | 0, _, c => c
  | n + 1, i, c => mnL L n (i + 1) (if L i = -1 then c else if c = -1 then L i else if c ≤ L i then c else L i)
theorem m_l64 {δ : Dl} {n : Int} {L : Int → Int} {x1 x2 : Int32} (hn : 0 ≤ n ∧ n ≤ 4) (e155 : δ.1 155 23 = zi n) (hL : ∀ i, 0 ≤ i → i < n → (-1 ≤ L i ∧ L i ≤ 40) ∧ δ.2.1 183 23 (zi i) = zi (L i)) : ∀ (j : Nat) (i c : Int) (fu : Nat), 0 ≤ i → i + j = n → j < fu → (-1 ≤ c ∧ c ≤ 40) → F_M_loses_64 x1 x2 fu (zi c) (zi i) δ = some (zi (mnL L j i c), δ) := by
  intro j
  induction j with
  | zero =>
    intro i c fu i0 hi hf hc
    obtain ⟨fu, rfl⟩ : ∃ q, fu = q + 1 := ⟨fu - 1, by omega⟩
    simp (disch := omega) only [F_M_loses_64, F_M_loses_64_b, e155, mnL, ↓reduceIte, inb, zl, zi_add, zi_sub, zi_mul, zi_neg, zi_le_t, zi_le_f, zi_lt_t, zi_lt_f, zi_eq_t, zi_eq_f, if_true, if_false, ite_true, ite_false, true_and, and_true, false_and, and_false, not_true_eq_false, not_false_eq_true, true_or, or_true, false_or, or_false, and_self, ge_iff_le, gt_iff_lt]
  | succ j ih =>
    intro i c fu i0 hi hf hc
    obtain ⟨fu, rfl⟩ : ∃ q, fu = q + 1 := ⟨fu - 1, by omega⟩
    obtain ⟨h1, h2⟩ := hL i i0 (by omega)
    show _ = some (zi (mnL L j (i + 1) (if L i = -1 then c else if c = -1 then L i else if c ≤ L i then c else L i)), δ)
    by_cases q1 : L i = -1
    · rw [if_pos q1, ← ih (i + 1) c fu (by omega) (by omega) (by omega) hc]
      simp (disch := omega) only [F_M_loses_64, F_M_loses_64_b, F_M_loses_110, F_M_loses_111, e155, h2, ↓reduceIte, inb, zl, zi_add, zi_sub, zi_mul, zi_neg, zi_le_t, zi_le_f, zi_lt_t, zi_lt_f, zi_eq_t, zi_eq_f, if_true, if_false, ite_true, ite_false, true_and, and_true, false_and, and_false, not_true_eq_false, not_false_eq_true, true_or, or_true, false_or, or_false, and_self, ge_iff_le, gt_iff_lt]
    · rw [if_neg q1]
      by_cases q2 : c = -1
      · rw [if_pos q2, ← ih (i + 1) (L i) fu (by omega) (by omega) (by omega) h1]
        simp (disch := omega) only [F_M_loses_64, F_M_loses_64_b, F_M_loses_100, F_M_loses_111, e155, h2, ↓reduceIte, inb, zl, zi_add, zi_sub, zi_mul, zi_neg, zi_le_t, zi_le_f, zi_lt_t, zi_lt_f, zi_eq_t, zi_eq_f, if_true, if_false, ite_true, ite_false, true_and, and_true, false_and, and_false, not_true_eq_false, not_false_eq_true, true_or, or_true, false_or, or_false, and_self, ge_iff_le, gt_iff_lt]
      · rw [if_neg q2]
        by_cases q3 : c ≤ L i
        · rw [if_pos q3, ← ih (i + 1) c fu (by omega) (by omega) (by omega) hc]
          simp (disch := omega) only [F_M_loses_64, F_M_loses_64_b, F_M_loses_110, F_M_loses_111, e155, h2, ↓reduceIte, inb, zl, zi_add, zi_sub, zi_mul, zi_neg, zi_le_t, zi_le_f, zi_lt_t, zi_lt_f, zi_eq_t, zi_eq_f, if_true, if_false, ite_true, ite_false, true_and, and_true, false_and, and_false, not_true_eq_false, not_false_eq_true, true_or, or_true, false_or, or_false, and_self, ge_iff_le, gt_iff_lt]
        · rw [if_neg q3, ← ih (i + 1) (L i) fu (by omega) (by omega) (by omega) h1]
          simp (disch := omega) only [F_M_loses_64, F_M_loses_64_b, F_M_loses_100, F_M_loses_111, e155, h2, ↓reduceIte, inb, zl, zi_add, zi_sub, zi_mul, zi_neg, zi_le_t, zi_le_f, zi_lt_t, zi_lt_f, zi_eq_t, zi_eq_f, if_true, if_false, ite_true, ite_false, true_and, and_true, false_and, and_false, not_true_eq_false, not_false_eq_true, true_or, or_true, false_or, or_false, and_self, ge_iff_le, gt_iff_lt]
theorem m_l2 {x1 x2 : Int32} : ∀ (j : Nat) (i : Int) (fu : Nat) (δ : Dl), 0 ≤ i → i + j = 4 → j < fu → ∃ δ', F_M_loses_2 x1 x2 fu (zi i) δ = (F_M_starts x1 δ').bind (fun δ29 => (F_M_looks x2 δ29).bind fun δ34 => F_M_loses_39 x1 x2 FU (zi 0) δ34) ∧ Fr S183 δ δ' ∧ ∀ c, 0 ≤ c → c < 4 → δ'.2.1 183 23 (zi c) = (if i ≤ c then zi (-1) else δ.2.1 183 23 (zi c)) ∧ δ'.2.1 184 23 (zi c) = (if i ≤ c then zi 0 else δ.2.1 184 23 (zi c)) := by
  have a0 : zi 0 &&& zi 1 = zi 0 := by decide
  intro j
  induction j with
  | zero =>
    intro i fu δ i0 hi hf
    obtain ⟨fu, rfl⟩ : ∃ q, fu = q + 1 := ⟨fu - 1, by omega⟩
    refine ⟨δ, ?_, Fr.rf, fun c c0 c4 => ⟨by rw [if_neg (by omega)], by rw [if_neg (by omega)]⟩⟩
    simp (disch := omega) only [F_M_loses_2, F_M_loses_2_b, ↓reduceIte, inb, zl, zi_add, zi_sub, zi_mul, zi_neg, zi_le_t, zi_le_f, zi_lt_t, zi_lt_f, zi_eq_t, zi_eq_f, if_true, if_false, ite_true, ite_false, true_and, and_true, false_and, and_false, not_true_eq_false, not_false_eq_true, true_or, or_true, false_or, or_false, and_self, ge_iff_le, gt_iff_lt]
  | succ j ih =>
    intro i fu δ i0 hi hf
    obtain ⟨fu, rfl⟩ : ∃ q, fu = q + 1 := ⟨fu - 1, by omega⟩
    obtain ⟨δ', e, F, r⟩ := ih (i + 1) fu (sA (sA δ 183 23 (zi i) (zi (-1))) 184 23 (zi i) (zi 0)) (by omega) (by omega) (by omega)
    refine ⟨δ', ?_, ((Fr.sA (S := S183) Fr.rf ⟨rfl, by decide, by decide⟩).sA ⟨rfl, by decide, by decide⟩).tr F, fun c c0 c4 => ?_⟩
    · rw [← e]
      simp (disch := omega) only [F_M_loses_2, F_M_loses_2_b, a0, ↓bnd_eq, bd2, bn2, Option.bind_some, Option.bind_none, ↓reduceIte, inb, zl, zi_add, zi_sub, zi_mul, zi_neg, zi_le_t, zi_le_f, zi_lt_t, zi_lt_f, zi_eq_t, zi_eq_f, if_true, if_false, ite_true, ite_false, true_and, and_true, false_and, and_false, not_true_eq_false, not_false_eq_true, true_or, or_true, false_or, or_false, and_self, ge_iff_le, gt_iff_lt]
    · obtain ⟨r1, r2⟩ := r c c0 c4
      rw [r1, r2, rAi, rA (by decide), rAi, rA (by decide)]
      by_cases q1 : i + 1 ≤ c
      · rw [if_pos q1, if_pos q1, if_pos (by omega), if_pos (by omega)]; exact ⟨rfl, rfl⟩
      · rw [if_neg q1, if_neg q1]
        by_cases q2 : c = i
        · subst q2; simp
        · have hz : ¬ zi c = zi i := fun e => q2 (zi_inj e (by omega) (by omega))
          rw [if_neg hz, if_neg hz, if_neg (by omega), if_neg (by omega)]; exact ⟨rfl, rfl⟩
