/-! the calls that look (wip/whole/pure) -/
theorem zl0 : (0 : Int32) = zi 0 := zl 0
theorem zl1 : (1 : Int32) = zi 1 := zl 1
section LK
variable {δ : Dl} {v : PG} {g : SG}
theorem m_isBlock (M : MP δ v) (W : PW v) {b : Int} (hr : -2147483648 ≤ b ∧ b < 2147483648) : F_M_isBlock (zi b) δ = if 0 ≤ b ∧ b < v.1 then 1 else 0 := by
  have := W.1
  by_cases h0 : 0 ≤ b
  · by_cases h1 : b < v.1
    · rw [if_pos ⟨h0, h1⟩]; simp (disch := omega) only [F_M_isBlock, F_M_within, ↓bnd_eq, bd2, bn2, Option.bind_some, Option.bind_none, M.1, ↓reduceIte, inb, zl, zi_add, zi_sub, zi_mul, zi_neg, zi_le_t, zi_le_f, zi_lt_t, zi_lt_f, zi_eq_t, zi_eq_f, if_true, if_false, ite_true, ite_false, true_and, and_true, false_and, and_false, not_true_eq_false, not_false_eq_true, true_or, or_true, false_or, or_false, and_self, ge_iff_le, gt_iff_lt]
    · rw [if_neg (fun e => h1 e.2)]; simp (disch := omega) only [F_M_isBlock, F_M_within, ↓bnd_eq, bd2, bn2, Option.bind_some, Option.bind_none, M.1, ↓reduceIte, inb, zl, zi_add, zi_sub, zi_mul, zi_neg, zi_le_t, zi_le_f, zi_lt_t, zi_lt_f, zi_eq_t, zi_eq_f, if_true, if_false, ite_true, ite_false, true_and, and_true, false_and, and_false, not_true_eq_false, not_false_eq_true, true_or, or_true, false_or, or_false, and_self, ge_iff_le, gt_iff_lt]
  · rw [if_neg (fun e => h0 e.1)]; simp (disch := omega) only [F_M_isBlock, F_M_within, ↓bnd_eq, bd2, bn2, Option.bind_some, Option.bind_none, M.1, ↓reduceIte, inb, zl, zi_add, zi_sub, zi_mul, zi_neg, zi_le_t, zi_le_f, zi_lt_t, zi_lt_f, zi_eq_t, zi_eq_f, if_true, if_false, ite_true, ite_false, true_and, and_true, false_and, and_false, not_true_eq_false, not_false_eq_true, true_or, or_true, false_or, or_false, and_self, ge_iff_le, gt_iff_lt]
theorem m_isScript (M : MP δ v) (W : PW v) {b : Int} (hr : -2147483648 ≤ b ∧ b < 2147483648) : F_M_isScript (zi b) δ = if 0 ≤ b ∧ b < v.2.1 then 1 else 0 := by
  have := W.2.1
  by_cases h0 : 0 ≤ b
  · by_cases h1 : b < v.2.1
    · rw [if_pos ⟨h0, h1⟩]; simp (disch := omega) only [F_M_isScript, F_M_within, ↓bnd_eq, bd2, bn2, Option.bind_some, Option.bind_none, M.2.1, ↓reduceIte, inb, zl, zi_add, zi_sub, zi_mul, zi_neg, zi_le_t, zi_le_f, zi_lt_t, zi_lt_f, zi_eq_t, zi_eq_f, if_true, if_false, ite_true, ite_false, true_and, and_true, false_and, and_false, not_true_eq_false, not_false_eq_true, true_or, or_true, false_or, or_false, and_self, ge_iff_le, gt_iff_lt]
    · rw [if_neg (fun e => h1 e.2)]; simp (disch := omega) only [F_M_isScript, F_M_within, ↓bnd_eq, bd2, bn2, Option.bind_some, Option.bind_none, M.2.1, ↓reduceIte, inb, zl, zi_add, zi_sub, zi_mul, zi_neg, zi_le_t, zi_le_f, zi_lt_t, zi_lt_f, zi_eq_t, zi_eq_f, if_true, if_false, ite_true, ite_false, true_and, and_true, false_and, and_false, not_true_eq_false, not_false_eq_true, true_or, or_true, false_or, or_false, and_self, ge_iff_le, gt_iff_lt]
  · rw [if_neg (fun e => h0 e.1)]; simp (disch := omega) only [F_M_isScript, F_M_within, ↓bnd_eq, bd2, bn2, Option.bind_some, Option.bind_none, M.2.1, ↓reduceIte, inb, zl, zi_add, zi_sub, zi_mul, zi_neg, zi_le_t, zi_le_f, zi_lt_t, zi_lt_f, zi_eq_t, zi_eq_f, if_true, if_false, ite_true, ite_false, true_and, and_true, false_and, and_false, not_true_eq_false, not_false_eq_true, true_or, or_true, false_or, or_false, and_self, ge_iff_le, gt_iff_lt]
theorem c_cell_in (wg : WG g) {s : Nat} (e1 : δ.1 70 s = zi (g.1)) (e2 : δ.1 71 s = zi (g.2.1)) {x y : Int} (hx : 0 ≤ x ∧ x < g.1) (hy : 0 ≤ y ∧ y < g.2.1) : F_St_cellAt s (zi x) (zi y) δ = some (δ.2.1 73 s (zi ((y + 1) * 10 + x + 1))) := by
  have hw := wg.1
  have hh := wg.2.1
  simp (disch := omega) only [F_St_cellAt, F_St_placeOf, ↓bnd_eq, bd2, bn2, Option.bind_some, Option.bind_none, e1, e2, ↓reduceIte, inb, zl, zi_add, zi_sub, zi_mul, zi_neg, zi_le_t, zi_le_f, zi_lt_t, zi_lt_f, zi_eq_t, zi_eq_f, if_true, if_false, ite_true, ite_false, true_and, and_true, false_and, and_false, not_true_eq_false, not_false_eq_true, true_or, or_true, false_or, or_false, and_self, ge_iff_le, gt_iff_lt]
theorem c_cell_out (wg : WG g) {s : Nat} (e1 : δ.1 70 s = zi (g.1)) (e2 : δ.1 71 s = zi (g.2.1)) {x y : Int} (hx : -2147483648 ≤ x ∧ x < 2147483648) (hy : -2147483648 ≤ y ∧ y < 2147483648) (h : ¬ ((0 ≤ x ∧ x < g.1) ∧ (0 ≤ y ∧ y < g.2.1))) : F_St_cellAt s (zi x) (zi y) δ = some (zi (-5)) := by
  have hw := wg.1
  have hh := wg.2.1
  by_cases q1 : x < 0
  · simp (disch := omega) only [F_St_cellAt, F_St_placeOf, ↓bnd_eq, bd2, bn2, Option.bind_some, Option.bind_none, e1, e2, ↓reduceIte, inb, zl, zi_add, zi_sub, zi_mul, zi_neg, zi_le_t, zi_le_f, zi_lt_t, zi_lt_f, zi_eq_t, zi_eq_f, if_true, if_false, ite_true, ite_false, true_and, and_true, false_and, and_false, not_true_eq_false, not_false_eq_true, true_or, or_true, false_or, or_false, and_self, ge_iff_le, gt_iff_lt]
  · by_cases q2 : y < 0
    · simp (disch := omega) only [F_St_cellAt, F_St_placeOf, ↓bnd_eq, bd2, bn2, Option.bind_some, Option.bind_none, e1, e2, ↓reduceIte, inb, zl, zi_add, zi_sub, zi_mul, zi_neg, zi_le_t, zi_le_f, zi_lt_t, zi_lt_f, zi_eq_t, zi_eq_f, if_true, if_false, ite_true, ite_false, true_and, and_true, false_and, and_false, not_true_eq_false, not_false_eq_true, true_or, or_true, false_or, or_false, and_self, ge_iff_le, gt_iff_lt]
    · by_cases q3 : g.1 ≤ x
      · simp (disch := omega) only [F_St_cellAt, F_St_placeOf, ↓bnd_eq, bd2, bn2, Option.bind_some, Option.bind_none, e1, e2, ↓reduceIte, inb, zl, zi_add, zi_sub, zi_mul, zi_neg, zi_le_t, zi_le_f, zi_lt_t, zi_lt_f, zi_eq_t, zi_eq_f, if_true, if_false, ite_true, ite_false, true_and, and_true, false_and, and_false, not_true_eq_false, not_false_eq_true, true_or, or_true, false_or, or_false, and_self, ge_iff_le, gt_iff_lt]
      · simp (disch := omega) only [F_St_cellAt, F_St_placeOf, ↓bnd_eq, bd2, bn2, Option.bind_some, Option.bind_none, e1, e2, ↓reduceIte, inb, zl, zi_add, zi_sub, zi_mul, zi_neg, zi_le_t, zi_le_f, zi_lt_t, zi_lt_f, zi_eq_t, zi_eq_f, if_true, if_false, ite_true, ite_false, true_and, and_true, false_and, and_false, not_true_eq_false, not_false_eq_true, true_or, or_true, false_or, or_false, and_self, ge_iff_le, gt_iff_lt]
theorem m_cell_in (wg : WG g) (Mg : MG 4 δ g) {x y : Int} (hx : 0 ≤ x ∧ x < g.1) (hy : 0 ≤ y ∧ y < g.2.1) : F_M_isCell (zi x) (zi y) δ = some (zi 1) := by
  have hw := wg.1
  have hh := wg.2.1
  simp (disch := omega) only [F_M_isCell, F_M_within, ↓bnd_eq, bd2, bn2, Option.bind_some, Option.bind_none, Mg.1, Mg.2.1, ↓reduceIte, inb, zl, zi_add, zi_sub, zi_mul, zi_neg, zi_le_t, zi_le_f, zi_lt_t, zi_lt_f, zi_eq_t, zi_eq_f, if_true, if_false, ite_true, ite_false, true_and, and_true, false_and, and_false, not_true_eq_false, not_false_eq_true, true_or, or_true, false_or, or_false, and_self, ge_iff_le, gt_iff_lt]
theorem m_cell_out (wg : WG g) (Mg : MG 4 δ g) {x y : Int} (hx : -2147483648 ≤ x ∧ x < 2147483648) (hy : -2147483648 ≤ y ∧ y < 2147483648) (h : ¬ ((0 ≤ x ∧ x < g.1) ∧ (0 ≤ y ∧ y < g.2.1))) : F_M_isCell (zi x) (zi y) δ = some (zi 0) := by
  have hw := wg.1
  have hh := wg.2.1
  by_cases q1 : x < 0
  · simp (disch := omega) only [F_M_isCell, F_M_within, ↓bnd_eq, bd2, bn2, Option.bind_some, Option.bind_none, Mg.1, Mg.2.1, ↓reduceIte, inb, zl, zi_add, zi_sub, zi_mul, zi_neg, zi_le_t, zi_le_f, zi_lt_t, zi_lt_f, zi_eq_t, zi_eq_f, if_true, if_false, ite_true, ite_false, true_and, and_true, false_and, and_false, not_true_eq_false, not_false_eq_true, true_or, or_true, false_or, or_false, and_self, ge_iff_le, gt_iff_lt]
  · by_cases q3 : g.1 ≤ x
    · simp (disch := omega) only [F_M_isCell, F_M_within, ↓bnd_eq, bd2, bn2, Option.bind_some, Option.bind_none, Mg.1, Mg.2.1, ↓reduceIte, inb, zl, zi_add, zi_sub, zi_mul, zi_neg, zi_le_t, zi_le_f, zi_lt_t, zi_lt_f, zi_eq_t, zi_eq_f, if_true, if_false, ite_true, ite_false, true_and, and_true, false_and, and_false, not_true_eq_false, not_false_eq_true, true_or, or_true, false_or, or_false, and_self, ge_iff_le, gt_iff_lt]
    · by_cases q2 : y < 0
      · simp (disch := omega) only [F_M_isCell, F_M_within, ↓bnd_eq, bd2, bn2, Option.bind_some, Option.bind_none, Mg.1, Mg.2.1, ↓reduceIte, inb, zl, zi_add, zi_sub, zi_mul, zi_neg, zi_le_t, zi_le_f, zi_lt_t, zi_lt_f, zi_eq_t, zi_eq_f, if_true, if_false, ite_true, ite_false, true_and, and_true, false_and, and_false, not_true_eq_false, not_false_eq_true, true_or, or_true, false_or, or_false, and_self, ge_iff_le, gt_iff_lt]
      · simp (disch := omega) only [F_M_isCell, F_M_within, ↓bnd_eq, bd2, bn2, Option.bind_some, Option.bind_none, Mg.1, Mg.2.1, ↓reduceIte, inb, zl, zi_add, zi_sub, zi_mul, zi_neg, zi_le_t, zi_le_f, zi_lt_t, zi_lt_f, zi_eq_t, zi_eq_f, if_true, if_false, ite_true, ite_false, true_and, and_true, false_and, and_false, not_true_eq_false, not_false_eq_true, true_or, or_true, false_or, or_false, and_self, ge_iff_le, gt_iff_lt]
end LK
theorem st_look (x1 x2 : Int32) : S2 INV (Rd (F_Bs_look x1 x2)) (F_M_look x1 x2) := by
  refine S2.rs fun δ I => ?_
  obtain ⟨⟨v, g, h1, h2, h4⟩, -⟩ := I
  obtain ⟨δ', s, es, F, m, M', sh, os, R, -⟩ := m_shows h1 h2 h4
  obtain ⟨x, rfl, hx⟩ := zi_ex x1
  obtain ⟨y, rfl, hy⟩ := zi_ex x2
  have wg := h2.1
  have hw := wg.1
  have hh := wg.2.1
  by_cases q : (0 ≤ x ∧ x < g.1) ∧ (0 ≤ y ∧ y < g.2.1)
  · have c := c_cell_in wg R.1 R.2.1 q.1 q.2
    have mm := m_cell_in wg h2.2.2 q.1 q.2
    refine ⟨δ'.2.1 133 23 (zi (8 * y + x)), δ', ?_, ?_, F⟩
    · unfold F_Bs_look
      rw [bnd_eq, sh, if_pos ⟨rfl, os⟩, c, R.2.2.2.1 x y q.1.1 q.1.2 q.2.1 q.2.2]
      rfl
    · simp (disch := omega) only [F_M_look, ↓bse mm, ↓bse es, ↓reduceIte, inb, zl, zi_add, zi_sub, zi_mul, zi_neg, zi_le_t, zi_le_f, zi_lt_t, zi_lt_f, zi_eq_t, zi_eq_f, if_true, if_false, ite_true, ite_false, true_and, and_true, false_and, and_false, not_true_eq_false, not_false_eq_true, true_or, or_true, false_or, or_false, and_self, ge_iff_le, gt_iff_lt]
  · have c := c_cell_out wg R.1 R.2.1 hx hy q
    have mm := m_cell_out wg h2.2.2 hx hy q
    refine ⟨zi (-5), δ, ?_, ?_, Fr.rf⟩
    · unfold F_Bs_look
      rw [bnd_eq, sh, if_pos ⟨rfl, os⟩, c]
      rfl
    · simp (disch := omega) only [F_M_look, ↓bse mm, ↓reduceIte, inb, zl, zi_add, zi_sub, zi_mul, zi_neg, zi_le_t, zi_le_f, zi_lt_t, zi_lt_f, zi_eq_t, zi_eq_f, if_true, if_false, ite_true, ite_false, true_and, and_true, false_and, and_false, not_true_eq_false, not_false_eq_true, true_or, or_true, false_or, or_false, and_self, ge_iff_le, gt_iff_lt]
theorem st_hole (x1 x2 : Int32) : S2 INV (Rd (F_Bs_hole x1 x2)) (Rd (F_M_hole x1 x2)) := by
  refine S2.rr fun δ I => ?_
  obtain ⟨⟨v, g, ⟨W, C, M⟩, -⟩, -⟩ := I
  have hN := W.1
  obtain ⟨b, rfl, hb⟩ := zi_ex x1
  obtain ⟨h, rfl, hh⟩ := zi_ex x2
  have mb := m_isBlock M W hb
  by_cases q : 0 ≤ b ∧ b < v.1
  · rw [if_pos q, zl1] at mb
    have ch := c_hasHole C W q.1 q.2 hh
    obtain ⟨f0, -⟩ := M.2.2.1 b q.1 q.2
    rcases m_hasHole (W.k q.1 q.2) hh with ⟨e, e'⟩ | ⟨e, e'⟩
    · rw [e, zl1] at ch
      rw [zl1] at e
      have h5 : 0 ≤ h ∧ h < 5 := by unfold HH at e'; omega
      have ci := c_inHole C W q.1 q.2 h5.1 h5.2
      have gh := M.2.2.2.1 b h q.1 q.2 h5.1 h5.2
      refine ⟨zi (v.2.2.2.1 b h), ?_, ?_⟩
      · simp (disch := omega) only [F_Bs_hole, ↓bse ch, ↓bse ci, ↓reduceIte, inb, zl, zi_add, zi_sub, zi_mul, zi_neg, zi_le_t, zi_le_f, zi_lt_t, zi_lt_f, zi_eq_t, zi_eq_f, if_true, if_false, ite_true, ite_false, true_and, and_true, false_and, and_false, not_true_eq_false, not_false_eq_true, true_or, or_true, false_or, or_false, and_self, ge_iff_le, gt_iff_lt]
      · simp (disch := omega) only [F_M_hole, ↓bnd_eq, bd2, bn2, Option.bind_some, Option.bind_none, mb, f0, e, gh, ↓reduceIte, inb, zl, zi_add, zi_sub, zi_mul, zi_neg, zi_le_t, zi_le_f, zi_lt_t, zi_lt_f, zi_eq_t, zi_eq_f, if_true, if_false, ite_true, ite_false, true_and, and_true, false_and, and_false, not_true_eq_false, not_false_eq_true, true_or, or_true, false_or, or_false, and_self, ge_iff_le, gt_iff_lt]
    · rw [e, zl0] at ch
      rw [zl0] at e
      refine ⟨zi (-5), ?_, ?_⟩
      · simp (disch := omega) only [F_Bs_hole, ↓bse ch, ↓reduceIte, inb, zl, zi_add, zi_sub, zi_mul, zi_neg, zi_le_t, zi_le_f, zi_lt_t, zi_lt_f, zi_eq_t, zi_eq_f, if_true, if_false, ite_true, ite_false, true_and, and_true, false_and, and_false, not_true_eq_false, not_false_eq_true, true_or, or_true, false_or, or_false, and_self, ge_iff_le, gt_iff_lt]
      · simp (disch := omega) only [F_M_hole, ↓bnd_eq, bd2, bn2, Option.bind_some, Option.bind_none, mb, f0, e, ↓reduceIte, inb, zl, zi_add, zi_sub, zi_mul, zi_neg, zi_le_t, zi_le_f, zi_lt_t, zi_lt_f, zi_eq_t, zi_eq_f, if_true, if_false, ite_true, ite_false, true_and, and_true, false_and, and_false, not_true_eq_false, not_false_eq_true, true_or, or_true, false_or, or_false, and_self, ge_iff_le, gt_iff_lt]
  · rw [if_neg q, zl0] at mb
    have ch := c_hasHoleN C W (x := zi h) q hb
    rw [zl0] at ch
    refine ⟨zi (-5), ?_, ?_⟩
    · simp (disch := omega) only [F_Bs_hole, ↓bse ch, ↓reduceIte, inb, zl, zi_add, zi_sub, zi_mul, zi_neg, zi_le_t, zi_le_f, zi_lt_t, zi_lt_f, zi_eq_t, zi_eq_f, if_true, if_false, ite_true, ite_false, true_and, and_true, false_and, and_false, not_true_eq_false, not_false_eq_true, true_or, or_true, false_or, or_false, and_self, ge_iff_le, gt_iff_lt]
    · simp (disch := omega) only [F_M_hole, ↓bnd_eq, bd2, bn2, Option.bind_some, Option.bind_none, mb, ↓reduceIte, inb, zl, zi_add, zi_sub, zi_mul, zi_neg, zi_le_t, zi_le_f, zi_lt_t, zi_lt_f, zi_eq_t, zi_eq_f, if_true, if_false, ite_true, ite_false, true_and, and_true, false_and, and_false, not_true_eq_false, not_false_eq_true, true_or, or_true, false_or, or_false, and_self, ge_iff_le, gt_iff_lt]
theorem c_bpart {δ : Dl} {p : Nat} {v : PG} (C : CP p δ v) (W : PW v) {b j : Int} (b0 : 0 ≤ b) (b1 : b < v.1) (j0 : 0 ≤ j) (j5 : j < 5) : F_Pr_blockPart p (zi b) (zi j) δ = some (zi (v.2.2.1 b j)) := by
  have hN := W.1
  have e := C.2.2.1 b j b0 b1 j0 j5
  simp (disch := omega) only [F_Pr_blockPart, C.1, e, ↓reduceIte, inb, zl, zi_add, zi_sub, zi_mul, zi_neg, zi_le_t, zi_le_f, zi_lt_t, zi_lt_f, zi_eq_t, zi_eq_f, if_true, if_false, ite_true, ite_false, true_and, and_true, false_and, and_false, not_true_eq_false, not_false_eq_true, true_or, or_true, false_or, or_false, and_self, ge_iff_le, gt_iff_lt]
theorem st_of (x1 x2 : Int32) : S2 INV (Rd (F_Bs_of x1 x2)) (Rd (F_M_of x1 x2)) := by
  refine S2.rr fun δ I => ?_
  obtain ⟨⟨v, g, ⟨W, C, M⟩, -⟩, -⟩ := I
  have hN := W.1
  obtain ⟨b, rfl, hb⟩ := zi_ex x1
  obtain ⟨h, rfl, hh⟩ := zi_ex x2
  have mb := m_isBlock M W hb
  by_cases q : 0 ≤ b ∧ b < v.1
  · rw [if_pos q, zl1] at mb
    obtain ⟨f0, f1, f2, f3, f4⟩ := M.2.2.1 b q.1 q.2
    by_cases h5 : 0 ≤ h ∧ h < 5
    · have ci := c_bpart C W q.1 q.2 h5.1 h5.2
      refine ⟨zi (v.2.2.1 b h), ?_, ?_⟩
      · simp (disch := omega) only [F_Bs_of, ↓bse ci, ↓reduceIte, inb, zl, zi_add, zi_sub, zi_mul, zi_neg, zi_le_t, zi_le_f, zi_lt_t, zi_lt_f, zi_eq_t, zi_eq_f, if_true, if_false, ite_true, ite_false, true_and, and_true, false_and, and_false, not_true_eq_false, not_false_eq_true, true_or, or_true, false_or, or_false, and_self, ge_iff_le, gt_iff_lt]
      · rcases (show h = 0 ∨ h = 1 ∨ h = 2 ∨ h = 3 ∨ h = 4 by omega) with rfl | rfl | rfl | rfl | rfl
        · simp (disch := omega) only [F_M_of, ↓bnd_eq, bd2, bn2, Option.bind_some, Option.bind_none, mb, f0, ↓reduceIte, inb, zl, zi_add, zi_sub, zi_mul, zi_neg, zi_le_t, zi_le_f, zi_lt_t, zi_lt_f, zi_eq_t, zi_eq_f, if_true, if_false, ite_true, ite_false, true_and, and_true, false_and, and_false, not_true_eq_false, not_false_eq_true, true_or, or_true, false_or, or_false, and_self, ge_iff_le, gt_iff_lt]
        · simp (disch := omega) only [F_M_of, ↓bnd_eq, bd2, bn2, Option.bind_some, Option.bind_none, mb, f1, ↓reduceIte, inb, zl, zi_add, zi_sub, zi_mul, zi_neg, zi_le_t, zi_le_f, zi_lt_t, zi_lt_f, zi_eq_t, zi_eq_f, if_true, if_false, ite_true, ite_false, true_and, and_true, false_and, and_false, not_true_eq_false, not_false_eq_true, true_or, or_true, false_or, or_false, and_self, ge_iff_le, gt_iff_lt]
        · simp (disch := omega) only [F_M_of, ↓bnd_eq, bd2, bn2, Option.bind_some, Option.bind_none, mb, f2, ↓reduceIte, inb, zl, zi_add, zi_sub, zi_mul, zi_neg, zi_le_t, zi_le_f, zi_lt_t, zi_lt_f, zi_eq_t, zi_eq_f, if_true, if_false, ite_true, ite_false, true_and, and_true, false_and, and_false, not_true_eq_false, not_false_eq_true, true_or, or_true, false_or, or_false, and_self, ge_iff_le, gt_iff_lt]
        · simp (disch := omega) only [F_M_of, ↓bnd_eq, bd2, bn2, Option.bind_some, Option.bind_none, mb, f3, ↓reduceIte, inb, zl, zi_add, zi_sub, zi_mul, zi_neg, zi_le_t, zi_le_f, zi_lt_t, zi_lt_f, zi_eq_t, zi_eq_f, if_true, if_false, ite_true, ite_false, true_and, and_true, false_and, and_false, not_true_eq_false, not_false_eq_true, true_or, or_true, false_or, or_false, and_self, ge_iff_le, gt_iff_lt]
        · simp (disch := omega) only [F_M_of, ↓bnd_eq, bd2, bn2, Option.bind_some, Option.bind_none, mb, f4, ↓reduceIte, inb, zl, zi_add, zi_sub, zi_mul, zi_neg, zi_le_t, zi_le_f, zi_lt_t, zi_lt_f, zi_eq_t, zi_eq_f, if_true, if_false, ite_true, ite_false, true_and, and_true, false_and, and_false, not_true_eq_false, not_false_eq_true, true_or, or_true, false_or, or_false, and_self, ge_iff_le, gt_iff_lt]
    · refine ⟨zi (-2147483648), ?_, ?_⟩
      · by_cases h0 : h < 0
        · have ci : F_Pr_blockPart 1 (zi b) (zi h) δ = some (zi (-2147483648)) := by simp (disch := omega) only [F_Pr_blockPart, C.1, ↓reduceIte, inb, zl, zi_add, zi_sub, zi_mul, zi_neg, zi_le_t, zi_le_f, zi_lt_t, zi_lt_f, zi_eq_t, zi_eq_f, if_true, if_false, ite_true, ite_false, true_and, and_true, false_and, and_false, not_true_eq_false, not_false_eq_true, true_or, or_true, false_or, or_false, and_self, ge_iff_le, gt_iff_lt]
          simp (disch := omega) only [F_Bs_of, ↓bse ci, ↓reduceIte, inb, zl, zi_add, zi_sub, zi_mul, zi_neg, zi_le_t, zi_le_f, zi_lt_t, zi_lt_f, zi_eq_t, zi_eq_f, if_true, if_false, ite_true, ite_false, true_and, and_true, false_and, and_false, not_true_eq_false, not_false_eq_true, true_or, or_true, false_or, or_false, and_self, ge_iff_le, gt_iff_lt]
        · have ci : F_Pr_blockPart 1 (zi b) (zi h) δ = some (zi (-2147483648)) := by simp (disch := omega) only [F_Pr_blockPart, C.1, ↓reduceIte, inb, zl, zi_add, zi_sub, zi_mul, zi_neg, zi_le_t, zi_le_f, zi_lt_t, zi_lt_f, zi_eq_t, zi_eq_f, if_true, if_false, ite_true, ite_false, true_and, and_true, false_and, and_false, not_true_eq_false, not_false_eq_true, true_or, or_true, false_or, or_false, and_self, ge_iff_le, gt_iff_lt]
          simp (disch := omega) only [F_Bs_of, ↓bse ci, ↓reduceIte, inb, zl, zi_add, zi_sub, zi_mul, zi_neg, zi_le_t, zi_le_f, zi_lt_t, zi_lt_f, zi_eq_t, zi_eq_f, if_true, if_false, ite_true, ite_false, true_and, and_true, false_and, and_false, not_true_eq_false, not_false_eq_true, true_or, or_true, false_or, or_false, and_self, ge_iff_le, gt_iff_lt]
      · simp (disch := omega) only [F_M_of, ↓bnd_eq, bd2, bn2, Option.bind_some, Option.bind_none, mb, ↓reduceIte, inb, zl, zi_add, zi_sub, zi_mul, zi_neg, zi_le_t, zi_le_f, zi_lt_t, zi_lt_f, zi_eq_t, zi_eq_f, if_true, if_false, ite_true, ite_false, true_and, and_true, false_and, and_false, not_true_eq_false, not_false_eq_true, true_or, or_true, false_or, or_false, and_self, ge_iff_le, gt_iff_lt]
  · rw [if_neg q, zl0] at mb
    refine ⟨zi (-2147483648), ?_, ?_⟩
    · have ci : F_Pr_blockPart 1 (zi b) (zi h) δ = some (zi (-2147483648)) := by
        by_cases h0 : b < 0
        · simp (disch := omega) only [F_Pr_blockPart, C.1, ↓reduceIte, inb, zl, zi_add, zi_sub, zi_mul, zi_neg, zi_le_t, zi_le_f, zi_lt_t, zi_lt_f, zi_eq_t, zi_eq_f, if_true, if_false, ite_true, ite_false, true_and, and_true, false_and, and_false, not_true_eq_false, not_false_eq_true, true_or, or_true, false_or, or_false, and_self, ge_iff_le, gt_iff_lt]
        · simp (disch := omega) only [F_Pr_blockPart, C.1, ↓reduceIte, inb, zl, zi_add, zi_sub, zi_mul, zi_neg, zi_le_t, zi_le_f, zi_lt_t, zi_lt_f, zi_eq_t, zi_eq_f, if_true, if_false, ite_true, ite_false, true_and, and_true, false_and, and_false, not_true_eq_false, not_false_eq_true, true_or, or_true, false_or, or_false, and_self, ge_iff_le, gt_iff_lt]
      simp (disch := omega) only [F_Bs_of, ↓bse ci, ↓reduceIte, inb, zl, zi_add, zi_sub, zi_mul, zi_neg, zi_le_t, zi_le_f, zi_lt_t, zi_lt_f, zi_eq_t, zi_eq_f, if_true, if_false, ite_true, ite_false, true_and, and_true, false_and, and_false, not_true_eq_false, not_false_eq_true, true_or, or_true, false_or, or_false, and_self, ge_iff_le, gt_iff_lt]
    · simp (disch := omega) only [F_M_of, ↓bnd_eq, bd2, bn2, Option.bind_some, Option.bind_none, mb, ↓reduceIte, inb, zl, zi_add, zi_sub, zi_mul, zi_neg, zi_le_t, zi_le_f, zi_lt_t, zi_lt_f, zi_eq_t, zi_eq_f, if_true, if_false, ite_true, ite_false, true_and, and_true, false_and, and_false, not_true_eq_false, not_false_eq_true, true_or, or_true, false_or, or_false, and_self, ge_iff_le, gt_iff_lt]
theorem st_who (x1 x2 : Int32) : S2 INV (Rd (F_Bs_who x1 x2)) (F_M_who x1 x2) := by
  refine S2.rs fun δ I => ?_
  obtain ⟨⟨v, g, h1, h2, h4⟩, -⟩ := I
  obtain ⟨δ', s, es, F, m, M', sh, os, R, -⟩ := m_shows h1 h2 h4
  obtain ⟨i, rfl, hi⟩ := zi_ex x1
  obtain ⟨j, rfl, hj⟩ := zi_ex x2
  have wg := h2.1
  have hw := wg.1
  have hh := wg.2.1
  have ha := wg.2.2.1
  have cw : ∀ u, F_St_actorPart s (zi i) (zi j) δ = some u → F_Bs_who (zi i) (zi j) δ = some u := fun u e => by
    unfold F_Bs_who
    rw [bnd_eq, sh, if_pos ⟨rfl, os⟩, e]
    rfl
  by_cases q : 0 ≤ i ∧ i < g.2.2.1
  · obtain ⟨x, y, d, r, hx, hy, hd, hr, e74, e134, e135, e75, e136, e76, e77, e78, e139, e79⟩ := R.2.2.2.2.2 i q.1 q.2
    by_cases qj : 0 ≤ j ∧ j < 6
    · rcases (show j = 0 ∨ j = 1 ∨ j = 2 ∨ j = 3 ∨ j = 4 ∨ j = 5 by omega) with rfl | rfl | rfl | rfl | rfl | rfl
      · refine ⟨zi x, δ', cw _ ?_, ?_, F⟩
        · have e1 : zi ((y + 1) * 10 + x + 1) / zi 10 = zi (y + 1) := by
            rw [zi_div (by omega), show ((y + 1) * 10 + x + 1) / 10 = y + 1 by omega]
          have e2 : (y + 1) * 10 + x + 1 - (y + 1) * 10 - 1 = x := by omega
          simp (disch := omega) only [F_St_actorPart, R.2.2.1, e74, e1, e2, ↓reduceIte, inb, zl, zi_add, zi_sub, zi_mul, zi_neg, zi_le_t, zi_le_f, zi_lt_t, zi_lt_f, zi_eq_t, zi_eq_f, if_true, if_false, ite_true, ite_false, true_and, and_true, false_and, and_false, not_true_eq_false, not_false_eq_true, true_or, or_true, false_or, or_false, and_self, ge_iff_le, gt_iff_lt]
        · simp (disch := omega) only [F_M_who, F_M_within, ↓bnd_eq, bd2, bn2, Option.bind_some, Option.bind_none, h2.2.2.2.2.1, ↓bse es, e134, ↓reduceIte, inb, zl, zi_add, zi_sub, zi_mul, zi_neg, zi_le_t, zi_le_f, zi_lt_t, zi_lt_f, zi_eq_t, zi_eq_f, if_true, if_false, ite_true, ite_false, true_and, and_true, false_and, and_false, not_true_eq_false, not_false_eq_true, true_or, or_true, false_or, or_false, and_self, ge_iff_le, gt_iff_lt]
      · refine ⟨zi y, δ', cw _ ?_, ?_, F⟩
        · have e1 : zi ((y + 1) * 10 + x + 1) / zi 10 = zi (y + 1) := by
            rw [zi_div (by omega), show ((y + 1) * 10 + x + 1) / 10 = y + 1 by omega]
          have e2 : y + 1 - 1 = y := by omega
          simp (disch := omega) only [F_St_actorPart, R.2.2.1, e74, e1, e2, ↓reduceIte, inb, zl, zi_add, zi_sub, zi_mul, zi_neg, zi_le_t, zi_le_f, zi_lt_t, zi_lt_f, zi_eq_t, zi_eq_f, if_true, if_false, ite_true, ite_false, true_and, and_true, false_and, and_false, not_true_eq_false, not_false_eq_true, true_or, or_true, false_or, or_false, and_self, ge_iff_le, gt_iff_lt]
        · simp (disch := omega) only [F_M_who, F_M_within, ↓bnd_eq, bd2, bn2, Option.bind_some, Option.bind_none, h2.2.2.2.2.1, ↓bse es, e135, ↓reduceIte, inb, zl, zi_add, zi_sub, zi_mul, zi_neg, zi_le_t, zi_le_f, zi_lt_t, zi_lt_f, zi_eq_t, zi_eq_f, if_true, if_false, ite_true, ite_false, true_and, and_true, false_and, and_false, not_true_eq_false, not_false_eq_true, true_or, or_true, false_or, or_false, and_self, ge_iff_le, gt_iff_lt]
      · refine ⟨zi d, δ', cw _ ?_, ?_, F⟩
        · simp (disch := omega) only [F_St_actorPart, R.2.2.1, e75, ↓reduceIte, inb, zl, zi_add, zi_sub, zi_mul, zi_neg, zi_le_t, zi_le_f, zi_lt_t, zi_lt_f, zi_eq_t, zi_eq_f, if_true, if_false, ite_true, ite_false, true_and, and_true, false_and, and_false, not_true_eq_false, not_false_eq_true, true_or, or_true, false_or, or_false, and_self, ge_iff_le, gt_iff_lt]
        · simp (disch := omega) only [F_M_who, F_M_within, ↓bnd_eq, bd2, bn2, Option.bind_some, Option.bind_none, h2.2.2.2.2.1, ↓bse es, e136, ↓reduceIte, inb, zl, zi_add, zi_sub, zi_mul, zi_neg, zi_le_t, zi_le_f, zi_lt_t, zi_lt_f, zi_eq_t, zi_eq_f, if_true, if_false, ite_true, ite_false, true_and, and_true, false_and, and_false, not_true_eq_false, not_false_eq_true, true_or, or_true, false_or, or_false, and_self, ge_iff_le, gt_iff_lt]
      · refine ⟨δ'.2.1 137 23 (zi i), δ', cw _ ?_, ?_, F⟩
        · simp (disch := omega) only [F_St_actorPart, R.2.2.1, e76, ↓reduceIte, inb, zl, zi_add, zi_sub, zi_mul, zi_neg, zi_le_t, zi_le_f, zi_lt_t, zi_lt_f, zi_eq_t, zi_eq_f, if_true, if_false, ite_true, ite_false, true_and, and_true, false_and, and_false, not_true_eq_false, not_false_eq_true, true_or, or_true, false_or, or_false, and_self, ge_iff_le, gt_iff_lt]
        · simp (disch := omega) only [F_M_who, F_M_within, ↓bnd_eq, bd2, bn2, Option.bind_some, Option.bind_none, h2.2.2.2.2.1, ↓bse es, ↓reduceIte, inb, zl, zi_add, zi_sub, zi_mul, zi_neg, zi_le_t, zi_le_f, zi_lt_t, zi_lt_f, zi_eq_t, zi_eq_f, if_true, if_false, ite_true, ite_false, true_and, and_true, false_and, and_false, not_true_eq_false, not_false_eq_true, true_or, or_true, false_or, or_false, and_self, ge_iff_le, gt_iff_lt]
      · refine ⟨δ'.2.1 138 23 (zi i), δ', cw _ ?_, ?_, F⟩
        · simp (disch := omega) only [F_St_actorPart, R.2.2.1, e77, ↓reduceIte, inb, zl, zi_add, zi_sub, zi_mul, zi_neg, zi_le_t, zi_le_f, zi_lt_t, zi_lt_f, zi_eq_t, zi_eq_f, if_true, if_false, ite_true, ite_false, true_and, and_true, false_and, and_false, not_true_eq_false, not_false_eq_true, true_or, or_true, false_or, or_false, and_self, ge_iff_le, gt_iff_lt]
        · simp (disch := omega) only [F_M_who, F_M_within, ↓bnd_eq, bd2, bn2, Option.bind_some, Option.bind_none, h2.2.2.2.2.1, ↓bse es, ↓reduceIte, inb, zl, zi_add, zi_sub, zi_mul, zi_neg, zi_le_t, zi_le_f, zi_lt_t, zi_lt_f, zi_eq_t, zi_eq_f, if_true, if_false, ite_true, ite_false, true_and, and_true, false_and, and_false, not_true_eq_false, not_false_eq_true, true_or, or_true, false_or, or_false, and_self, ge_iff_le, gt_iff_lt]
      · refine ⟨zi r, δ', cw _ ?_, ?_, F⟩
        · simp (disch := omega) only [F_St_actorPart, R.2.2.1, e78, ↓reduceIte, inb, zl, zi_add, zi_sub, zi_mul, zi_neg, zi_le_t, zi_le_f, zi_lt_t, zi_lt_f, zi_eq_t, zi_eq_f, if_true, if_false, ite_true, ite_false, true_and, and_true, false_and, and_false, not_true_eq_false, not_false_eq_true, true_or, or_true, false_or, or_false, and_self, ge_iff_le, gt_iff_lt]
        · simp (disch := omega) only [F_M_who, F_M_within, ↓bnd_eq, bd2, bn2, Option.bind_some, Option.bind_none, h2.2.2.2.2.1, ↓bse es, e139, ↓reduceIte, inb, zl, zi_add, zi_sub, zi_mul, zi_neg, zi_le_t, zi_le_f, zi_lt_t, zi_lt_f, zi_eq_t, zi_eq_f, if_true, if_false, ite_true, ite_false, true_and, and_true, false_and, and_false, not_true_eq_false, not_false_eq_true, true_or, or_true, false_or, or_false, and_self, ge_iff_le, gt_iff_lt]
    · refine ⟨zi (-2147483648), δ', cw _ ?_, ?_, F⟩
      · simp (disch := omega) only [F_St_actorPart, R.2.2.1, ↓reduceIte, inb, zl, zi_add, zi_sub, zi_mul, zi_neg, zi_le_t, zi_le_f, zi_lt_t, zi_lt_f, zi_eq_t, zi_eq_f, if_true, if_false, ite_true, ite_false, true_and, and_true, false_and, and_false, not_true_eq_false, not_false_eq_true, true_or, or_true, false_or, or_false, and_self, ge_iff_le, gt_iff_lt]
      · simp (disch := omega) only [F_M_who, F_M_within, ↓bnd_eq, bd2, bn2, Option.bind_some, Option.bind_none, h2.2.2.2.2.1, ↓bse es, ↓reduceIte, inb, zl, zi_add, zi_sub, zi_mul, zi_neg, zi_le_t, zi_le_f, zi_lt_t, zi_lt_f, zi_eq_t, zi_eq_f, if_true, if_false, ite_true, ite_false, true_and, and_true, false_and, and_false, not_true_eq_false, not_false_eq_true, true_or, or_true, false_or, or_false, and_self, ge_iff_le, gt_iff_lt]
  · refine ⟨zi (-2147483648), δ, cw _ ?_, ?_, Fr.rf⟩
    · by_cases q0 : i < 0
      · simp (disch := omega) only [F_St_actorPart, R.2.2.1, ↓reduceIte, inb, zl, zi_add, zi_sub, zi_mul, zi_neg, zi_le_t, zi_le_f, zi_lt_t, zi_lt_f, zi_eq_t, zi_eq_f, if_true, if_false, ite_true, ite_false, true_and, and_true, false_and, and_false, not_true_eq_false, not_false_eq_true, true_or, or_true, false_or, or_false, and_self, ge_iff_le, gt_iff_lt]
      · simp (disch := omega) only [F_St_actorPart, R.2.2.1, ↓reduceIte, inb, zl, zi_add, zi_sub, zi_mul, zi_neg, zi_le_t, zi_le_f, zi_lt_t, zi_lt_f, zi_eq_t, zi_eq_f, if_true, if_false, ite_true, ite_false, true_and, and_true, false_and, and_false, not_true_eq_false, not_false_eq_true, true_or, or_true, false_or, or_false, and_self, ge_iff_le, gt_iff_lt]
    · by_cases q0 : i < 0
      · simp (disch := omega) only [F_M_who, F_M_within, ↓bnd_eq, bd2, bn2, Option.bind_some, Option.bind_none, h2.2.2.2.2.1, ↓reduceIte, inb, zl, zi_add, zi_sub, zi_mul, zi_neg, zi_le_t, zi_le_f, zi_lt_t, zi_lt_f, zi_eq_t, zi_eq_f, if_true, if_false, ite_true, ite_false, true_and, and_true, false_and, and_false, not_true_eq_false, not_false_eq_true, true_or, or_true, false_or, or_false, and_self, ge_iff_le, gt_iff_lt]
      · simp (disch := omega) only [F_M_who, F_M_within, ↓bnd_eq, bd2, bn2, Option.bind_some, Option.bind_none, h2.2.2.2.2.1, ↓reduceIte, inb, zl, zi_add, zi_sub, zi_mul, zi_neg, zi_le_t, zi_le_f, zi_lt_t, zi_lt_f, zi_eq_t, zi_eq_f, if_true, if_false, ite_true, ite_false, true_and, and_true, false_and, and_false, not_true_eq_false, not_false_eq_true, true_or, or_true, false_or, or_false, and_self, ge_iff_le, gt_iff_lt]
theorem st_item (x1 x2 : Int32) : S2 INV (Rd (F_Bs_item x1 x2)) (F_M_item x1 x2) := by
  refine S2.rs fun δ I => ?_
  obtain ⟨⟨v, g, h1, h2, h4⟩, -⟩ := I
  obtain ⟨δ', s, es, F, m, M', sh, os, R, -⟩ := m_shows h1 h2 h4
  obtain ⟨i, rfl, hi⟩ := zi_ex x1
  obtain ⟨j, rfl, hj⟩ := zi_ex x2
  have wg := h2.1
  have ha := wg.2.2.1
  have cw : ∀ u, F_St_itemAt s (zi i) (zi j) δ = some u → F_Bs_item (zi i) (zi j) δ = some u := fun u e => by
    unfold F_Bs_item
    rw [bnd_eq, sh, if_pos ⟨rfl, os⟩, e]
    rfl
  by_cases q : 0 ≤ i ∧ i < g.2.2.1
  · obtain ⟨x, y, d, r, hx, hy, hd, hr, e74, e134, e135, e75, e136, e76, e77, e78, e139, e79⟩ := R.2.2.2.2.2 i q.1 q.2
    by_cases qj : 0 ≤ j ∧ j < r
    · have := e79 j qj.1 qj.2
      refine ⟨δ'.2.1 140 23 (zi (20 * i + j)), δ', cw _ ?_, ?_, F⟩
      · simp (disch := omega) only [F_St_itemAt, R.2.2.1, e78, this, ↓reduceIte, inb, zl, zi_add, zi_sub, zi_mul, zi_neg, zi_le_t, zi_le_f, zi_lt_t, zi_lt_f, zi_eq_t, zi_eq_f, if_true, if_false, ite_true, ite_false, true_and, and_true, false_and, and_false, not_true_eq_false, not_false_eq_true, true_or, or_true, false_or, or_false, and_self, ge_iff_le, gt_iff_lt]
      · simp (disch := omega) only [F_M_item, F_M_within, ↓bnd_eq, bd2, bn2, Option.bind_some, Option.bind_none, h2.2.2.2.2.1, ↓bse es, e139, ↓reduceIte, inb, zl, zi_add, zi_sub, zi_mul, zi_neg, zi_le_t, zi_le_f, zi_lt_t, zi_lt_f, zi_eq_t, zi_eq_f, if_true, if_false, ite_true, ite_false, true_and, and_true, false_and, and_false, not_true_eq_false, not_false_eq_true, true_or, or_true, false_or, or_false, and_self, ge_iff_le, gt_iff_lt]
    · refine ⟨zi (-2147483648), δ', cw _ ?_, ?_, F⟩
      · by_cases q0 : j < 0
        · simp (disch := omega) only [F_St_itemAt, R.2.2.1, e78, ↓reduceIte, inb, zl, zi_add, zi_sub, zi_mul, zi_neg, zi_le_t, zi_le_f, zi_lt_t, zi_lt_f, zi_eq_t, zi_eq_f, if_true, if_false, ite_true, ite_false, true_and, and_true, false_and, and_false, not_true_eq_false, not_false_eq_true, true_or, or_true, false_or, or_false, and_self, ge_iff_le, gt_iff_lt]
        · simp (disch := omega) only [F_St_itemAt, R.2.2.1, e78, ↓reduceIte, inb, zl, zi_add, zi_sub, zi_mul, zi_neg, zi_le_t, zi_le_f, zi_lt_t, zi_lt_f, zi_eq_t, zi_eq_f, if_true, if_false, ite_true, ite_false, true_and, and_true, false_and, and_false, not_true_eq_false, not_false_eq_true, true_or, or_true, false_or, or_false, and_self, ge_iff_le, gt_iff_lt]
      · by_cases q0 : j < 0
        · simp (disch := omega) only [F_M_item, F_M_within, ↓bnd_eq, bd2, bn2, Option.bind_some, Option.bind_none, h2.2.2.2.2.1, ↓bse es, e139, ↓reduceIte, inb, zl, zi_add, zi_sub, zi_mul, zi_neg, zi_le_t, zi_le_f, zi_lt_t, zi_lt_f, zi_eq_t, zi_eq_f, if_true, if_false, ite_true, ite_false, true_and, and_true, false_and, and_false, not_true_eq_false, not_false_eq_true, true_or, or_true, false_or, or_false, and_self, ge_iff_le, gt_iff_lt]
        · simp (disch := omega) only [F_M_item, F_M_within, ↓bnd_eq, bd2, bn2, Option.bind_some, Option.bind_none, h2.2.2.2.2.1, ↓bse es, e139, ↓reduceIte, inb, zl, zi_add, zi_sub, zi_mul, zi_neg, zi_le_t, zi_le_f, zi_lt_t, zi_lt_f, zi_eq_t, zi_eq_f, if_true, if_false, ite_true, ite_false, true_and, and_true, false_and, and_false, not_true_eq_false, not_false_eq_true, true_or, or_true, false_or, or_false, and_self, ge_iff_le, gt_iff_lt]
  · refine ⟨zi (-2147483648), δ, cw _ ?_, ?_, Fr.rf⟩
    · by_cases q0 : i < 0
      · simp (disch := omega) only [F_St_itemAt, R.2.2.1, ↓reduceIte, inb, zl, zi_add, zi_sub, zi_mul, zi_neg, zi_le_t, zi_le_f, zi_lt_t, zi_lt_f, zi_eq_t, zi_eq_f, if_true, if_false, ite_true, ite_false, true_and, and_true, false_and, and_false, not_true_eq_false, not_false_eq_true, true_or, or_true, false_or, or_false, and_self, ge_iff_le, gt_iff_lt]
      · simp (disch := omega) only [F_St_itemAt, R.2.2.1, ↓reduceIte, inb, zl, zi_add, zi_sub, zi_mul, zi_neg, zi_le_t, zi_le_f, zi_lt_t, zi_lt_f, zi_eq_t, zi_eq_f, if_true, if_false, ite_true, ite_false, true_and, and_true, false_and, and_false, not_true_eq_false, not_false_eq_true, true_or, or_true, false_or, or_false, and_self, ge_iff_le, gt_iff_lt]
    · by_cases q0 : i < 0
      · simp (disch := omega) only [F_M_item, F_M_within, ↓bnd_eq, bd2, bn2, Option.bind_some, Option.bind_none, h2.2.2.2.2.1, ↓reduceIte, inb, zl, zi_add, zi_sub, zi_mul, zi_neg, zi_le_t, zi_le_f, zi_lt_t, zi_lt_f, zi_eq_t, zi_eq_f, if_true, if_false, ite_true, ite_false, true_and, and_true, false_and, and_false, not_true_eq_false, not_false_eq_true, true_or, or_true, false_or, or_false, and_self, ge_iff_le, gt_iff_lt]
      · simp (disch := omega) only [F_M_item, F_M_within, ↓bnd_eq, bd2, bn2, Option.bind_some, Option.bind_none, h2.2.2.2.2.1, ↓reduceIte, inb, zl, zi_add, zi_sub, zi_mul, zi_neg, zi_le_t, zi_le_f, zi_lt_t, zi_lt_f, zi_eq_t, zi_eq_f, if_true, if_false, ite_true, ite_false, true_and, and_true, false_and, and_false, not_true_eq_false, not_false_eq_true, true_or, or_true, false_or, or_false, and_self, ge_iff_le, gt_iff_lt]
theorem st_said (x1 x2 : Int32) : S2 INV (Rd (F_Bs_said x1 x2)) (F_M_said x1 x2) := by
  refine S2.rs fun δ I => ?_
  obtain ⟨⟨v, g, h1, h2, h4⟩, -⟩ := I
  obtain ⟨δ', s, es, F, m, M', sh, os, R, hc⟩ := m_shows h1 h2 h4
  obtain ⟨i, rfl, hi⟩ := zi_ex x1
  obtain ⟨j, rfl, hj⟩ := zi_ex x2
  rcases hc with ⟨on, sh', -⟩ | ⟨on, t, ht, h43, sh', RR⟩
  · refine ⟨zi (-2147483648), δ, ?_, ?_, Fr.rf⟩
    · simp (disch := omega) only [F_Bs_said, on, ↓reduceIte, inb, zl, zi_add, zi_sub, zi_mul, zi_neg, zi_le_t, zi_le_f, zi_lt_t, zi_lt_f, zi_eq_t, zi_eq_f, if_true, if_false, ite_true, ite_false, true_and, and_true, false_and, and_false, not_true_eq_false, not_false_eq_true, true_or, or_true, false_or, or_false, and_self, ge_iff_le, gt_iff_lt]
    · simp (disch := omega) only [F_M_said, sh', ↓reduceIte, inb, zl, zi_add, zi_sub, zi_mul, zi_neg, zi_le_t, zi_le_f, zi_lt_t, zi_lt_f, zi_eq_t, zi_eq_f, if_true, if_false, ite_true, ite_false, true_and, and_true, false_and, and_false, not_true_eq_false, not_false_eq_true, true_or, or_true, false_or, or_false, and_self, ge_iff_le, gt_iff_lt]
  · obtain ⟨n, hn, y1, y2, y3, y4, y5⟩ := RR.2.2.2.2.2.1
    have cw : ∀ u, F_Ru_sayingPart 8 (zi i) (zi j) δ = some u → F_Bs_said (zi i) (zi j) δ = some u := fun u e => by
      simp (disch := omega) only [F_Bs_said, on, ↓bse e, ↓reduceIte, inb, zl, zi_add, zi_sub, zi_mul, zi_neg, zi_le_t, zi_le_f, zi_lt_t, zi_lt_f, zi_eq_t, zi_eq_f, if_true, if_false, ite_true, ite_false, true_and, and_true, false_and, and_false, not_true_eq_false, not_false_eq_true, true_or, or_true, false_or, or_false, and_self, ge_iff_le, gt_iff_lt]
    by_cases qj : 0 ≤ j ∧ j ≤ 2
    · by_cases qi : 0 ≤ i ∧ i < n ∧ i < 50
      · obtain ⟨a1, a2, a3⟩ := y5 i qi.1 qi.2.1 qi.2.2
        rcases (show j = 0 ∨ j = 1 ∨ j = 2 by omega) with rfl | rfl | rfl
        · refine ⟨δ'.2.1 149 23 (zi i), δ', cw _ ?_, ?_, F⟩
          · simp (disch := omega) only [F_Ru_sayingPart, y3, Int.add_zero, a1, ↓reduceIte, inb, zl, zi_add, zi_sub, zi_mul, zi_neg, zi_le_t, zi_le_f, zi_lt_t, zi_lt_f, zi_eq_t, zi_eq_f, if_true, if_false, ite_true, ite_false, true_and, and_true, false_and, and_false, not_true_eq_false, not_false_eq_true, true_or, or_true, false_or, or_false, and_self, ge_iff_le, gt_iff_lt]
          · by_cases q50 : 50 ≤ n
            · simp (disch := omega) only [F_M_said, F_M_said_45, F_M_within, ↓bnd_eq, bd2, bn2, Option.bind_some, Option.bind_none, sh', ↓bse es, y4, ↓reduceIte, inb, zl, zi_add, zi_sub, zi_mul, zi_neg, zi_le_t, zi_le_f, zi_lt_t, zi_lt_f, zi_eq_t, zi_eq_f, if_true, if_false, ite_true, ite_false, true_and, and_true, false_and, and_false, not_true_eq_false, not_false_eq_true, true_or, or_true, false_or, or_false, and_self, ge_iff_le, gt_iff_lt]
            · simp (disch := omega) only [F_M_said, F_M_said_45, F_M_within, ↓bnd_eq, bd2, bn2, Option.bind_some, Option.bind_none, sh', ↓bse es, y4, ↓reduceIte, inb, zl, zi_add, zi_sub, zi_mul, zi_neg, zi_le_t, zi_le_f, zi_lt_t, zi_lt_f, zi_eq_t, zi_eq_f, if_true, if_false, ite_true, ite_false, true_and, and_true, false_and, and_false, not_true_eq_false, not_false_eq_true, true_or, or_true, false_or, or_false, and_self, ge_iff_le, gt_iff_lt]
        · refine ⟨δ'.2.1 150 23 (zi i), δ', cw _ ?_, ?_, F⟩
          · simp (disch := omega) only [F_Ru_sayingPart, y3, a2, ↓reduceIte, inb, zl, zi_add, zi_sub, zi_mul, zi_neg, zi_le_t, zi_le_f, zi_lt_t, zi_lt_f, zi_eq_t, zi_eq_f, if_true, if_false, ite_true, ite_false, true_and, and_true, false_and, and_false, not_true_eq_false, not_false_eq_true, true_or, or_true, false_or, or_false, and_self, ge_iff_le, gt_iff_lt]
          · by_cases q50 : 50 ≤ n
            · simp (disch := omega) only [F_M_said, F_M_said_45, F_M_within, ↓bnd_eq, bd2, bn2, Option.bind_some, Option.bind_none, sh', ↓bse es, y4, ↓reduceIte, inb, zl, zi_add, zi_sub, zi_mul, zi_neg, zi_le_t, zi_le_f, zi_lt_t, zi_lt_f, zi_eq_t, zi_eq_f, if_true, if_false, ite_true, ite_false, true_and, and_true, false_and, and_false, not_true_eq_false, not_false_eq_true, true_or, or_true, false_or, or_false, and_self, ge_iff_le, gt_iff_lt]
            · simp (disch := omega) only [F_M_said, F_M_said_45, F_M_within, ↓bnd_eq, bd2, bn2, Option.bind_some, Option.bind_none, sh', ↓bse es, y4, ↓reduceIte, inb, zl, zi_add, zi_sub, zi_mul, zi_neg, zi_le_t, zi_le_f, zi_lt_t, zi_lt_f, zi_eq_t, zi_eq_f, if_true, if_false, ite_true, ite_false, true_and, and_true, false_and, and_false, not_true_eq_false, not_false_eq_true, true_or, or_true, false_or, or_false, and_self, ge_iff_le, gt_iff_lt]
        · refine ⟨δ'.2.1 151 23 (zi i), δ', cw _ ?_, ?_, F⟩
          · simp (disch := omega) only [F_Ru_sayingPart, y3, a3, ↓reduceIte, inb, zl, zi_add, zi_sub, zi_mul, zi_neg, zi_le_t, zi_le_f, zi_lt_t, zi_lt_f, zi_eq_t, zi_eq_f, if_true, if_false, ite_true, ite_false, true_and, and_true, false_and, and_false, not_true_eq_false, not_false_eq_true, true_or, or_true, false_or, or_false, and_self, ge_iff_le, gt_iff_lt]
          · by_cases q50 : 50 ≤ n
            · simp (disch := omega) only [F_M_said, F_M_said_45, F_M_within, ↓bnd_eq, bd2, bn2, Option.bind_some, Option.bind_none, sh', ↓bse es, y4, ↓reduceIte, inb, zl, zi_add, zi_sub, zi_mul, zi_neg, zi_le_t, zi_le_f, zi_lt_t, zi_lt_f, zi_eq_t, zi_eq_f, if_true, if_false, ite_true, ite_false, true_and, and_true, false_and, and_false, not_true_eq_false, not_false_eq_true, true_or, or_true, false_or, or_false, and_self, ge_iff_le, gt_iff_lt]
            · simp (disch := omega) only [F_M_said, F_M_said_45, F_M_within, ↓bnd_eq, bd2, bn2, Option.bind_some, Option.bind_none, sh', ↓bse es, y4, ↓reduceIte, inb, zl, zi_add, zi_sub, zi_mul, zi_neg, zi_le_t, zi_le_f, zi_lt_t, zi_lt_f, zi_eq_t, zi_eq_f, if_true, if_false, ite_true, ite_false, true_and, and_true, false_and, and_false, not_true_eq_false, not_false_eq_true, true_or, or_true, false_or, or_false, and_self, ge_iff_le, gt_iff_lt]
      · refine ⟨zi (-2147483648), δ', cw _ ?_, ?_, F⟩
        · by_cases q0 : i < 0
          · simp (disch := omega) only [F_Ru_sayingPart, y3, ↓reduceIte, inb, zl, zi_add, zi_sub, zi_mul, zi_neg, zi_le_t, zi_le_f, zi_lt_t, zi_lt_f, zi_eq_t, zi_eq_f, if_true, if_false, ite_true, ite_false, true_and, and_true, false_and, and_false, not_true_eq_false, not_false_eq_true, true_or, or_true, false_or, or_false, and_self, ge_iff_le, gt_iff_lt]
          · by_cases q1 : n ≤ i
            · simp (disch := omega) only [F_Ru_sayingPart, y3, ↓reduceIte, inb, zl, zi_add, zi_sub, zi_mul, zi_neg, zi_le_t, zi_le_f, zi_lt_t, zi_lt_f, zi_eq_t, zi_eq_f, if_true, if_false, ite_true, ite_false, true_and, and_true, false_and, and_false, not_true_eq_false, not_false_eq_true, true_or, or_true, false_or, or_false, and_self, ge_iff_le, gt_iff_lt]
            · simp (disch := omega) only [F_Ru_sayingPart, y3, ↓reduceIte, inb, zl, zi_add, zi_sub, zi_mul, zi_neg, zi_le_t, zi_le_f, zi_lt_t, zi_lt_f, zi_eq_t, zi_eq_f, if_true, if_false, ite_true, ite_false, true_and, and_true, false_and, and_false, not_true_eq_false, not_false_eq_true, true_or, or_true, false_or, or_false, and_self, ge_iff_le, gt_iff_lt]
        · by_cases q0 : i < 0
          · by_cases q50 : 50 ≤ n
            · simp (disch := omega) only [F_M_said, F_M_said_45, F_M_within, ↓bnd_eq, bd2, bn2, Option.bind_some, Option.bind_none, sh', ↓bse es, y4, ↓reduceIte, inb, zl, zi_add, zi_sub, zi_mul, zi_neg, zi_le_t, zi_le_f, zi_lt_t, zi_lt_f, zi_eq_t, zi_eq_f, if_true, if_false, ite_true, ite_false, true_and, and_true, false_and, and_false, not_true_eq_false, not_false_eq_true, true_or, or_true, false_or, or_false, and_self, ge_iff_le, gt_iff_lt]
            · simp (disch := omega) only [F_M_said, F_M_said_45, F_M_within, ↓bnd_eq, bd2, bn2, Option.bind_some, Option.bind_none, sh', ↓bse es, y4, ↓reduceIte, inb, zl, zi_add, zi_sub, zi_mul, zi_neg, zi_le_t, zi_le_f, zi_lt_t, zi_lt_f, zi_eq_t, zi_eq_f, if_true, if_false, ite_true, ite_false, true_and, and_true, false_and, and_false, not_true_eq_false, not_false_eq_true, true_or, or_true, false_or, or_false, and_self, ge_iff_le, gt_iff_lt]
          · by_cases q50 : 50 ≤ n
            · simp (disch := omega) only [F_M_said, F_M_said_45, F_M_within, ↓bnd_eq, bd2, bn2, Option.bind_some, Option.bind_none, sh', ↓bse es, y4, ↓reduceIte, inb, zl, zi_add, zi_sub, zi_mul, zi_neg, zi_le_t, zi_le_f, zi_lt_t, zi_lt_f, zi_eq_t, zi_eq_f, if_true, if_false, ite_true, ite_false, true_and, and_true, false_and, and_false, not_true_eq_false, not_false_eq_true, true_or, or_true, false_or, or_false, and_self, ge_iff_le, gt_iff_lt]
            · simp (disch := omega) only [F_M_said, F_M_said_45, F_M_within, ↓bnd_eq, bd2, bn2, Option.bind_some, Option.bind_none, sh', ↓bse es, y4, ↓reduceIte, inb, zl, zi_add, zi_sub, zi_mul, zi_neg, zi_le_t, zi_le_f, zi_lt_t, zi_lt_f, zi_eq_t, zi_eq_f, if_true, if_false, ite_true, ite_false, true_and, and_true, false_and, and_false, not_true_eq_false, not_false_eq_true, true_or, or_true, false_or, or_false, and_self, ge_iff_le, gt_iff_lt]
    · refine ⟨zi (-2147483648), δ, cw _ ?_, ?_, Fr.rf⟩
      · by_cases q0 : i < 0
        · simp (disch := omega) only [F_Ru_sayingPart, y3, ↓reduceIte, inb, zl, zi_add, zi_sub, zi_mul, zi_neg, zi_le_t, zi_le_f, zi_lt_t, zi_lt_f, zi_eq_t, zi_eq_f, if_true, if_false, ite_true, ite_false, true_and, and_true, false_and, and_false, not_true_eq_false, not_false_eq_true, true_or, or_true, false_or, or_false, and_self, ge_iff_le, gt_iff_lt]
        · by_cases q1 : n ≤ i
          · simp (disch := omega) only [F_Ru_sayingPart, y3, ↓reduceIte, inb, zl, zi_add, zi_sub, zi_mul, zi_neg, zi_le_t, zi_le_f, zi_lt_t, zi_lt_f, zi_eq_t, zi_eq_f, if_true, if_false, ite_true, ite_false, true_and, and_true, false_and, and_false, not_true_eq_false, not_false_eq_true, true_or, or_true, false_or, or_false, and_self, ge_iff_le, gt_iff_lt]
          · by_cases q2 : i < 50
            · by_cases q3 : j < 0
              · simp (disch := omega) only [F_Ru_sayingPart, y3, ↓reduceIte, inb, zl, zi_add, zi_sub, zi_mul, zi_neg, zi_le_t, zi_le_f, zi_lt_t, zi_lt_f, zi_eq_t, zi_eq_f, if_true, if_false, ite_true, ite_false, true_and, and_true, false_and, and_false, not_true_eq_false, not_false_eq_true, true_or, or_true, false_or, or_false, and_self, ge_iff_le, gt_iff_lt]
              · simp (disch := omega) only [F_Ru_sayingPart, y3, ↓reduceIte, inb, zl, zi_add, zi_sub, zi_mul, zi_neg, zi_le_t, zi_le_f, zi_lt_t, zi_lt_f, zi_eq_t, zi_eq_f, if_true, if_false, ite_true, ite_false, true_and, and_true, false_and, and_false, not_true_eq_false, not_false_eq_true, true_or, or_true, false_or, or_false, and_self, ge_iff_le, gt_iff_lt]
            · simp (disch := omega) only [F_Ru_sayingPart, y3, ↓reduceIte, inb, zl, zi_add, zi_sub, zi_mul, zi_neg, zi_le_t, zi_le_f, zi_lt_t, zi_lt_f, zi_eq_t, zi_eq_f, if_true, if_false, ite_true, ite_false, true_and, and_true, false_and, and_false, not_true_eq_false, not_false_eq_true, true_or, or_true, false_or, or_false, and_self, ge_iff_le, gt_iff_lt]
      · by_cases q3 : j < 0
        · simp (disch := omega) only [F_M_said, F_M_within, ↓bnd_eq, bd2, bn2, Option.bind_some, Option.bind_none, sh', ↓reduceIte, inb, zl, zi_add, zi_sub, zi_mul, zi_neg, zi_le_t, zi_le_f, zi_lt_t, zi_lt_f, zi_eq_t, zi_eq_f, if_true, if_false, ite_true, ite_false, true_and, and_true, false_and, and_false, not_true_eq_false, not_false_eq_true, true_or, or_true, false_or, or_false, and_self, ge_iff_le, gt_iff_lt]
        · simp (disch := omega) only [F_M_said, F_M_within, ↓bnd_eq, bd2, bn2, Option.bind_some, Option.bind_none, sh', ↓reduceIte, inb, zl, zi_add, zi_sub, zi_mul, zi_neg, zi_le_t, zi_le_f, zi_lt_t, zi_lt_f, zi_eq_t, zi_eq_f, if_true, if_false, ite_true, ite_false, true_and, and_true, false_and, and_false, not_true_eq_false, not_false_eq_true, true_or, or_true, false_or, or_false, and_self, ge_iff_le, gt_iff_lt]
theorem st_fails (x1 : Int32) : S2 INV (Rt (F_Bs_fails x1)) (Rt (F_M_fails x1)) := by
  intro δ I
  obtain ⟨-, -, -, -, ⟨a1, a2, a3⟩, -⟩ := id I
  refine ⟨F_Bs_fails x1 δ, δ, δ, rfl, ?_, I, rfl⟩
  unfold Rt F_Bs_fails F_M_fails
  rw [a1, a2, a3]
theorem st_hint (x1 x2 : Int32) : S2 INV (Rd (F_Bs_hint x1 x2)) (Rd (F_M_hint x1 x2)) := by
  refine S2.rr fun δ I => ?_
  obtain ⟨-, -, -, -, -, ⟨n, hn, a1, a2, a3⟩, -⟩ := I
  obtain ⟨i, rfl, hi⟩ := zi_ex x1
  obtain ⟨j, rfl, hj⟩ := zi_ex x2
  by_cases q : 0 ≤ i ∧ i < n
  · obtain ⟨b1, b2⟩ := a3 i q.1 q.2
    by_cases qj : 0 ≤ j ∧ j ≤ 1
    · rcases (show j = 0 ∨ j = 1 by omega) with rfl | rfl
      · refine ⟨δ.2.1 165 23 (zi i), ?_, ?_⟩
        · simp (disch := omega) only [F_Bs_hint, a1, Int.add_zero, b1, ↓reduceIte, inb, zl, zi_add, zi_sub, zi_mul, zi_neg, zi_le_t, zi_le_f, zi_lt_t, zi_lt_f, zi_eq_t, zi_eq_f, if_true, if_false, ite_true, ite_false, true_and, and_true, false_and, and_false, not_true_eq_false, not_false_eq_true, true_or, or_true, false_or, or_false, and_self, ge_iff_le, gt_iff_lt]
        · simp (disch := omega) only [F_M_hint, F_M_within, ↓bnd_eq, bd2, bn2, Option.bind_some, Option.bind_none, a2, ↓reduceIte, inb, zl, zi_add, zi_sub, zi_mul, zi_neg, zi_le_t, zi_le_f, zi_lt_t, zi_lt_f, zi_eq_t, zi_eq_f, if_true, if_false, ite_true, ite_false, true_and, and_true, false_and, and_false, not_true_eq_false, not_false_eq_true, true_or, or_true, false_or, or_false, and_self, ge_iff_le, gt_iff_lt]
      · refine ⟨δ.2.1 166 23 (zi i), ?_, ?_⟩
        · simp (disch := omega) only [F_Bs_hint, a1, b2, ↓reduceIte, inb, zl, zi_add, zi_sub, zi_mul, zi_neg, zi_le_t, zi_le_f, zi_lt_t, zi_lt_f, zi_eq_t, zi_eq_f, if_true, if_false, ite_true, ite_false, true_and, and_true, false_and, and_false, not_true_eq_false, not_false_eq_true, true_or, or_true, false_or, or_false, and_self, ge_iff_le, gt_iff_lt]
        · simp (disch := omega) only [F_M_hint, F_M_within, ↓bnd_eq, bd2, bn2, Option.bind_some, Option.bind_none, a2, ↓reduceIte, inb, zl, zi_add, zi_sub, zi_mul, zi_neg, zi_le_t, zi_le_f, zi_lt_t, zi_lt_f, zi_eq_t, zi_eq_f, if_true, if_false, ite_true, ite_false, true_and, and_true, false_and, and_false, not_true_eq_false, not_false_eq_true, true_or, or_true, false_or, or_false, and_self, ge_iff_le, gt_iff_lt]
    · refine ⟨zi (-5), ?_, ?_⟩
      · by_cases q3 : j < 0
        · simp (disch := omega) only [F_Bs_hint, a1, ↓reduceIte, inb, zl, zi_add, zi_sub, zi_mul, zi_neg, zi_le_t, zi_le_f, zi_lt_t, zi_lt_f, zi_eq_t, zi_eq_f, if_true, if_false, ite_true, ite_false, true_and, and_true, false_and, and_false, not_true_eq_false, not_false_eq_true, true_or, or_true, false_or, or_false, and_self, ge_iff_le, gt_iff_lt]
        · simp (disch := omega) only [F_Bs_hint, a1, ↓reduceIte, inb, zl, zi_add, zi_sub, zi_mul, zi_neg, zi_le_t, zi_le_f, zi_lt_t, zi_lt_f, zi_eq_t, zi_eq_f, if_true, if_false, ite_true, ite_false, true_and, and_true, false_and, and_false, not_true_eq_false, not_false_eq_true, true_or, or_true, false_or, or_false, and_self, ge_iff_le, gt_iff_lt]
      · by_cases q3 : j < 0
        · simp (disch := omega) only [F_M_hint, F_M_within, ↓bnd_eq, bd2, bn2, Option.bind_some, Option.bind_none, a2, ↓reduceIte, inb, zl, zi_add, zi_sub, zi_mul, zi_neg, zi_le_t, zi_le_f, zi_lt_t, zi_lt_f, zi_eq_t, zi_eq_f, if_true, if_false, ite_true, ite_false, true_and, and_true, false_and, and_false, not_true_eq_false, not_false_eq_true, true_or, or_true, false_or, or_false, and_self, ge_iff_le, gt_iff_lt]
        · simp (disch := omega) only [F_M_hint, F_M_within, ↓bnd_eq, bd2, bn2, Option.bind_some, Option.bind_none, a2, ↓reduceIte, inb, zl, zi_add, zi_sub, zi_mul, zi_neg, zi_le_t, zi_le_f, zi_lt_t, zi_lt_f, zi_eq_t, zi_eq_f, if_true, if_false, ite_true, ite_false, true_and, and_true, false_and, and_false, not_true_eq_false, not_false_eq_true, true_or, or_true, false_or, or_false, and_self, ge_iff_le, gt_iff_lt]
  · refine ⟨zi (-5), ?_, ?_⟩
    · by_cases q3 : i < 0
      · simp (disch := omega) only [F_Bs_hint, a1, ↓reduceIte, inb, zl, zi_add, zi_sub, zi_mul, zi_neg, zi_le_t, zi_le_f, zi_lt_t, zi_lt_f, zi_eq_t, zi_eq_f, if_true, if_false, ite_true, ite_false, true_and, and_true, false_and, and_false, not_true_eq_false, not_false_eq_true, true_or, or_true, false_or, or_false, and_self, ge_iff_le, gt_iff_lt]
      · simp (disch := omega) only [F_Bs_hint, a1, ↓reduceIte, inb, zl, zi_add, zi_sub, zi_mul, zi_neg, zi_le_t, zi_le_f, zi_lt_t, zi_lt_f, zi_eq_t, zi_eq_f, if_true, if_false, ite_true, ite_false, true_and, and_true, false_and, and_false, not_true_eq_false, not_false_eq_true, true_or, or_true, false_or, or_false, and_self, ge_iff_le, gt_iff_lt]
    · by_cases q3 : i < 0
      · simp (disch := omega) only [F_M_hint, F_M_within, ↓bnd_eq, bd2, bn2, Option.bind_some, Option.bind_none, a2, ↓reduceIte, inb, zl, zi_add, zi_sub, zi_mul, zi_neg, zi_le_t, zi_le_f, zi_lt_t, zi_lt_f, zi_eq_t, zi_eq_f, if_true, if_false, ite_true, ite_false, true_and, and_true, false_and, and_false, not_true_eq_false, not_false_eq_true, true_or, or_true, false_or, or_false, and_self, ge_iff_le, gt_iff_lt]
      · simp (disch := omega) only [F_M_hint, F_M_within, ↓bnd_eq, bd2, bn2, Option.bind_some, Option.bind_none, a2, ↓reduceIte, inb, zl, zi_add, zi_sub, zi_mul, zi_neg, zi_le_t, zi_le_f, zi_lt_t, zi_lt_f, zi_eq_t, zi_eq_f, if_true, if_false, ite_true, ite_false, true_and, and_true, false_and, and_false, not_true_eq_false, not_false_eq_true, true_or, or_true, false_or, or_false, and_self, ge_iff_le, gt_iff_lt]
theorem st_text (x1 : Int32) : S2 INV (Rd (F_Bs_text x1)) (Rd (F_M_text x1)) := by
  refine S2.rr fun δ I => ?_
  obtain ⟨-, -, -, -, -, -, ⟨n, hn, a1, a2, a3⟩, -⟩ := I
  obtain ⟨i, rfl, hi⟩ := zi_ex x1
  have l15 : lenB 15 = zi 300 := by decide
  by_cases q : 0 ≤ i ∧ i < n
  · refine ⟨δ.2.1 167 23 (zi i), ?_, ?_⟩
    · have e := a3 i q.1 q.2
      have c : F_By_byteAt 15 (zi i) δ = some (δ.2.1 167 23 (zi i)) := by simp (disch := omega) only [F_By_byteAt, a1, l15, e, ↓reduceIte, inb, zl, zi_add, zi_sub, zi_mul, zi_neg, zi_le_t, zi_le_f, zi_lt_t, zi_lt_f, zi_eq_t, zi_eq_f, if_true, if_false, ite_true, ite_false, true_and, and_true, false_and, and_false, not_true_eq_false, not_false_eq_true, true_or, or_true, false_or, or_false, and_self, ge_iff_le, gt_iff_lt]
      simp (disch := omega) only [F_Bs_text, ↓bse c, ↓reduceIte, inb, zl, zi_add, zi_sub, zi_mul, zi_neg, zi_le_t, zi_le_f, zi_lt_t, zi_lt_f, zi_eq_t, zi_eq_f, if_true, if_false, ite_true, ite_false, true_and, and_true, false_and, and_false, not_true_eq_false, not_false_eq_true, true_or, or_true, false_or, or_false, and_self, ge_iff_le, gt_iff_lt]
    · simp (disch := omega) only [F_M_text, F_M_within, ↓bnd_eq, bd2, bn2, Option.bind_some, Option.bind_none, a2, ↓reduceIte, inb, zl, zi_add, zi_sub, zi_mul, zi_neg, zi_le_t, zi_le_f, zi_lt_t, zi_lt_f, zi_eq_t, zi_eq_f, if_true, if_false, ite_true, ite_false, true_and, and_true, false_and, and_false, not_true_eq_false, not_false_eq_true, true_or, or_true, false_or, or_false, and_self, ge_iff_le, gt_iff_lt]
  · refine ⟨zi (-1), ?_, ?_⟩
    · have c : F_By_byteAt 15 (zi i) δ = some (zi (-1)) := by
        by_cases q3 : i < 0
        · simp (disch := omega) only [F_By_byteAt, a1, l15, ↓reduceIte, inb, zl, zi_add, zi_sub, zi_mul, zi_neg, zi_le_t, zi_le_f, zi_lt_t, zi_lt_f, zi_eq_t, zi_eq_f, if_true, if_false, ite_true, ite_false, true_and, and_true, false_and, and_false, not_true_eq_false, not_false_eq_true, true_or, or_true, false_or, or_false, and_self, ge_iff_le, gt_iff_lt]
        · simp (disch := omega) only [F_By_byteAt, a1, l15, ↓reduceIte, inb, zl, zi_add, zi_sub, zi_mul, zi_neg, zi_le_t, zi_le_f, zi_lt_t, zi_lt_f, zi_eq_t, zi_eq_f, if_true, if_false, ite_true, ite_false, true_and, and_true, false_and, and_false, not_true_eq_false, not_false_eq_true, true_or, or_true, false_or, or_false, and_self, ge_iff_le, gt_iff_lt]
      simp (disch := omega) only [F_Bs_text, ↓bse c, ↓reduceIte, inb, zl, zi_add, zi_sub, zi_mul, zi_neg, zi_le_t, zi_le_f, zi_lt_t, zi_lt_f, zi_eq_t, zi_eq_f, if_true, if_false, ite_true, ite_false, true_and, and_true, false_and, and_false, not_true_eq_false, not_false_eq_true, true_or, or_true, false_or, or_false, and_self, ge_iff_le, gt_iff_lt]
    · by_cases q3 : i < 0
      · simp (disch := omega) only [F_M_text, F_M_within, ↓bnd_eq, bd2, bn2, Option.bind_some, Option.bind_none, a2, ↓reduceIte, inb, zl, zi_add, zi_sub, zi_mul, zi_neg, zi_le_t, zi_le_f, zi_lt_t, zi_lt_f, zi_eq_t, zi_eq_f, if_true, if_false, ite_true, ite_false, true_and, and_true, false_and, and_false, not_true_eq_false, not_false_eq_true, true_or, or_true, false_or, or_false, and_self, ge_iff_le, gt_iff_lt]
      · simp (disch := omega) only [F_M_text, F_M_within, ↓bnd_eq, bd2, bn2, Option.bind_some, Option.bind_none, a2, ↓reduceIte, inb, zl, zi_add, zi_sub, zi_mul, zi_neg, zi_le_t, zi_le_f, zi_lt_t, zi_lt_f, zi_eq_t, zi_eq_f, if_true, if_false, ite_true, ite_false, true_and, and_true, false_and, and_false, not_true_eq_false, not_false_eq_true, true_or, or_true, false_or, or_false, and_self, ge_iff_le, gt_iff_lt]
