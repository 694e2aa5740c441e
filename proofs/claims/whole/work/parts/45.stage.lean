/-! stages: what both sides hold (wip/whole/pure) -/
abbrev SG : Type := Int × Int × Int × (Int → Int → Int) × (Int → Int) × (Int → Int) × (Int → Int)
def WG (g : SG) : Prop := (1 ≤ g.1 ∧ g.1 ≤ 8) ∧ (1 ≤ g.2.1 ∧ g.2.1 ≤ 8) ∧ (0 ≤ g.2.2.1 ∧ g.2.2.1 ≤ 3) ∧ (∀ x y, 0 ≤ x → x < g.1 → 0 ≤ y → y < g.2.1 → -1 ≤ g.2.2.2.1 x y ∧ g.2.2.2.1 x y ≤ 9) ∧
  (∀ i, 0 ≤ i → i < g.2.2.1 → (0 ≤ g.2.2.2.2.1 i ∧ g.2.2.2.2.1 i < g.1) ∧ (0 ≤ g.2.2.2.2.2.1 i ∧ g.2.2.2.2.2.1 i < g.2.1) ∧ (0 ≤ g.2.2.2.2.2.2 i ∧ g.2.2.2.2.2.2 i ≤ 3))
/-- a place of the border (or beyond the stage) -/
def bd (w h k : Int) : Prop := k % 10 = 0 ∨ w < k % 10 ∨ k / 10 = 0 ∨ h < k / 10
/-- a stage of the class at rest -/
def CG (s : Nat) (δ : Dl) (g : SG) : Prop :=
  δ.1 70 s = zi (g.1) ∧ δ.1 71 s = zi (g.2.1) ∧ δ.1 72 s = zi (g.2.2.1) ∧
  (∀ x y, 0 ≤ x → x < g.1 → 0 ≤ y → y < g.2.1 → δ.2.1 73 s (zi ((y + 1) * 10 + x + 1)) = zi (g.2.2.2.1 x y)) ∧
  (∀ k, 0 ≤ k → k < 100 → bd (g.1) (g.2.1) k → δ.2.1 73 s (zi k) = zi (-1)) ∧
  (∀ i, 0 ≤ i → i < g.2.2.1 → δ.2.1 74 s (zi i) = zi ((g.2.2.2.2.2.1 i + 1) * 10 + g.2.2.2.2.1 i + 1) ∧ δ.2.1 75 s (zi i) = zi (g.2.2.2.2.2.2 i) ∧ δ.2.1 76 s (zi i) = zi 0 ∧ δ.2.1 77 s (zi i) = zi 0 ∧ δ.2.1 78 s (zi i) = zi (-1))
/-- a stage of the reference at rest -/
def MG (k : Int) (δ : Dl) (g : SG) : Prop :=
  δ.2.1 110 23 (zi k) = zi (g.1) ∧ δ.2.1 111 23 (zi k) = zi (g.2.1) ∧ δ.2.1 113 23 (zi k) = zi (g.2.2.1) ∧
  (∀ x y, 0 ≤ x → x < g.1 → 0 ≤ y → y < g.2.1 → δ.2.1 112 23 (zi (64 * k + (8 * y + x))) = zi (g.2.2.2.1 x y)) ∧
  (∀ i, 0 ≤ i → i < g.2.2.1 → δ.2.1 114 23 (zi (3 * k + i)) = zi (g.2.2.2.2.1 i) ∧ δ.2.1 115 23 (zi (3 * k + i)) = zi (g.2.2.2.2.2.1 i) ∧ δ.2.1 116 23 (zi (3 * k + i)) = zi (g.2.2.2.2.2.2 i))
/-- an actor of the two runs -/
def AC (s : Nat) (g : SG) (δc δm : Dl) (i : Int) : Prop :=
  ∃ x y d r : Int, (0 ≤ x ∧ x < g.1) ∧ (0 ≤ y ∧ y < g.2.1) ∧ (0 ≤ d ∧ d ≤ 3) ∧ (-1 ≤ r ∧ r ≤ 20) ∧ δc.2.1 74 s (zi i) = zi ((y + 1) * 10 + x + 1) ∧ δm.2.1 134 23 (zi i) = zi x ∧ δm.2.1 135 23 (zi i) = zi y ∧
    δc.2.1 75 s (zi i) = zi d ∧ δm.2.1 136 23 (zi i) = zi d ∧ δc.2.1 76 s (zi i) = δm.2.1 137 23 (zi i) ∧ δc.2.1 77 s (zi i) = δm.2.1 138 23 (zi i) ∧ δc.2.1 78 s (zi i) = zi r ∧ δm.2.1 139 23 (zi i) = zi r ∧
    (∀ j, 0 ≤ j → j < r → δc.2.1 79 s (zi (i * 20 + j)) = δm.2.1 140 23 (zi (20 * i + j)))
/-- the stages of the two runs -/
def RS (s : Nat) (g : SG) (δc δm : Dl) : Prop :=
  δc.1 70 s = zi (g.1) ∧ δc.1 71 s = zi (g.2.1) ∧ δc.1 72 s = zi (g.2.2.1) ∧
  (∀ x y, 0 ≤ x → x < g.1 → 0 ≤ y → y < g.2.1 → δc.2.1 73 s (zi ((y + 1) * 10 + x + 1)) = δm.2.1 133 23 (zi (8 * y + x))) ∧
  (∀ k, 0 ≤ k → k < 100 → bd (g.1) (g.2.1) k → δc.2.1 73 s (zi k) = zi (-1)) ∧
  (∀ i, 0 ≤ i → i < g.2.2.1 → AC s g δc δm i)
/-- the reference's run is on the stage of number k -/
def RM (k : Int) (g : SG) (δ : Dl) : Prop := (0 ≤ k ∧ k ≤ 4) ∧ δ.1 131 23 = zi k ∧ δ.2.1 110 23 (zi k) = zi (g.1) ∧ δ.2.1 111 23 (zi k) = zi (g.2.1) ∧ δ.2.1 113 23 (zi k) = zi (g.2.2.1)
def dx (d : Int) : Int := if d = 1 then 1 else if d = 3 then -1 else 0
def dy (d : Int) : Int := if d = 2 then 1 else if d = 0 then -1 else 0
theorem and3 {d : Int} (h : 0 ≤ d ∧ d ≤ 3) : zi d &&& zi 3 = zi d := by
  rcases (show d = 0 ∨ d = 1 ∨ d = 2 ∨ d = 3 by omega) with rfl | rfl | rfl | rfl <;> decide
theorem tst {d : Int} (h : 0 ≤ d ∧ d ≤ 3) : tST (zi d) = zi (10 * dy d + dx d) := by
  rcases (show d = 0 ∨ d = 1 ∨ d = 2 ∨ d = 3 by omega) with rfl | rfl | rfl | rfl <;> decide +kernel
theorem dxy {d : Int} (h : 0 ≤ d ∧ d ≤ 3) : (dx d = 0 ∧ dy d = -1) ∨ (dx d = 1 ∧ dy d = 0) ∨ (dx d = 0 ∧ dy d = 1) ∨ (dx d = -1 ∧ dy d = 0) := by
  rcases (show d = 0 ∨ d = 1 ∨ d = 2 ∨ d = 3 by omega) with rfl | rfl | rfl | rfl <;> decide
section ST
variable {s : Nat} {g : SG} {δc δm : Dl} {k : Int}
theorem RS.sI (h : RS s g δc δm) {a : Nat} {r r' : Int32} : RS s g (sI δc 53 a r) (sI δm 174 23 r') := h
theorem m_aheadX {i x d : Int} (hi : 0 ≤ i ∧ i < 3) (ex : δm.2.1 134 23 (zi i) = zi x) (ed : δm.2.1 136 23 (zi i) = zi d) (hd : 0 ≤ d ∧ d ≤ 3) : F_M_aheadX (zi i) δm = some (zi (x + dx d)) := by
  unfold dx
  rcases (show d = 0 ∨ d = 1 ∨ d = 2 ∨ d = 3 by omega) with rfl | rfl | rfl | rfl <;> simp (disch := omega) only [F_M_aheadX, ex, ed, ↓reduceIte, inb, zl, zi_add, zi_sub, zi_mul, zi_neg, zi_le_t, zi_le_f, zi_lt_t, zi_lt_f, zi_eq_t, zi_eq_f, if_true, if_false, ite_true, ite_false, true_and, and_true, false_and, and_false, not_true_eq_false, not_false_eq_true, true_or, or_true, false_or, or_false, and_self, ge_iff_le, gt_iff_lt] <;> rfl
theorem m_aheadY {i x d : Int} (hi : 0 ≤ i ∧ i < 3) (ex : δm.2.1 135 23 (zi i) = zi x) (ed : δm.2.1 136 23 (zi i) = zi d) (hd : 0 ≤ d ∧ d ≤ 3) : F_M_aheadY (zi i) δm = some (zi (x + dy d)) := by
  unfold dy
  rcases (show d = 0 ∨ d = 1 ∨ d = 2 ∨ d = 3 by omega) with rfl | rfl | rfl | rfl <;> simp (disch := omega) only [F_M_aheadY, ex, ed, ↓reduceIte, inb, zl, zi_add, zi_sub, zi_mul, zi_neg, zi_le_t, zi_le_f, zi_lt_t, zi_lt_f, zi_eq_t, zi_eq_f, if_true, if_false, ite_true, ite_false, true_and, and_true, false_and, and_false, not_true_eq_false, not_false_eq_true, true_or, or_true, false_or, or_false, and_self, ge_iff_le, gt_iff_lt] <;> rfl
/-- the cell ahead: a wall on both sides, or on none -/
theorem lk_walled (wg : WG g) (h : RS s g δc δm) (m : RM k g δm) {i : Int} (i0 : 0 ≤ i) (i1 : i < g.2.2.1) : ∃ u, (u = zi 0 ∨ u = zi 1) ∧ F_St_walledOf s (zi i) δc = some u ∧ F_M_isWalled (zi i) δm = some u := by
  obtain ⟨x, y, d, r, hx, hy, hd, hr, e74, e134, e135, e75, e136, -⟩ := h.2.2.2.2.2 i i0 i1
  have hw := wg.1
  have hh := wg.2.1
  have ha := wg.2.2.1
  have hk := m.1
  have q := dxy hd
  have aX := m_aheadX (δm := δm) ⟨i0, by omega⟩ e134 e136 hd
  have aY := m_aheadY (δm := δm) ⟨i0, by omega⟩ e135 e136 hd
  by_cases hin : (0 ≤ x + dx d ∧ x + dx d < g.1) ∧ (0 ≤ y + dy d ∧ y + dy d < g.2.1)
  · have ec := h.2.2.2.1 _ _ hin.1.1 hin.1.2 hin.2.1 hin.2.2
    have ep : (y + 1) * 10 + x + 1 + (10 * dy d + dx d) = (y + dy d + 1) * 10 + (x + dx d) + 1 := by omega
    have hc : F_St_walledOf s (zi i) δc = if δm.2.1 133 23 (zi (8 * (y + dy d) + (x + dx d))) = zi (-1) then some (zi 1) else some (zi 0) := by
      simp (disch := omega) only [F_St_walledOf, bnd, bd2, bn2, Option.bind_some, Option.bind_none, h.2.2.1, e74, e75, and3, tst, ep, ec, ↓reduceIte, inb, zl, zi_add, zi_sub, zi_mul, zi_neg, zi_le_t, zi_le_f, zi_lt_t, zi_lt_f, zi_eq_t, zi_eq_f, if_true, if_false, ite_true, ite_false, true_and, and_true, false_and, and_false, not_true_eq_false, not_false_eq_true, true_or, or_true, false_or, or_false, and_self, ge_iff_le, gt_iff_lt]
    have hm : F_M_isWalled (zi i) δm = if δm.2.1 133 23 (zi (8 * (y + dy d) + (x + dx d))) = zi (-1) then some (zi 1) else some (zi 0) := by
      simp (disch := omega) only [F_M_isWalled, F_M_within, bnd, bd2, bn2, Option.bind_some, Option.bind_none, aX, aY, m.2.1, m.2.2.1, m.2.2.2.1, ↓reduceIte, inb, zl, zi_add, zi_sub, zi_mul, zi_neg, zi_le_t, zi_le_f, zi_lt_t, zi_lt_f, zi_eq_t, zi_eq_f, if_true, if_false, ite_true, ite_false, true_and, and_true, false_and, and_false, not_true_eq_false, not_false_eq_true, true_or, or_true, false_or, or_false, and_self, ge_iff_le, gt_iff_lt]
    rw [hc, hm]
    by_cases qc : δm.2.1 133 23 (zi (8 * (y + dy d) + (x + dx d))) = zi (-1)
    · rw [if_pos qc]; exact ⟨zi 1, Or.inr rfl, rfl, rfl⟩
    · rw [if_neg qc]; exact ⟨zi 0, Or.inl rfl, rfl, rfl⟩
  · have eb := h.2.2.2.2.1 ((y + 1) * 10 + x + 1 + (10 * dy d + dx d)) (by omega) (by omega) (by unfold bd; omega)
    refine ⟨zi 1, Or.inr rfl, ?_, ?_⟩
    · simp (disch := omega) only [F_St_walledOf, bnd, bd2, bn2, Option.bind_some, Option.bind_none, h.2.2.1, e74, e75, and3, tst, eb, ↓reduceIte, inb, zl, zi_add, zi_sub, zi_mul, zi_neg, zi_le_t, zi_le_f, zi_lt_t, zi_lt_f, zi_eq_t, zi_eq_f, if_true, if_false, ite_true, ite_false, true_and, and_true, false_and, and_false, not_true_eq_false, not_false_eq_true, true_or, or_true, false_or, or_false, and_self, ge_iff_le, gt_iff_lt]
    · by_cases q1 : 0 ≤ x + dx d
      · by_cases q2 : x + dx d < g.1
        · by_cases q3 : 0 ≤ y + dy d
          · simp (disch := omega) only [F_M_isWalled, F_M_within, bnd, bd2, bn2, Option.bind_some, Option.bind_none, aX, aY, m.2.1, m.2.2.1, m.2.2.2.1, ↓reduceIte, inb, zl, zi_add, zi_sub, zi_mul, zi_neg, zi_le_t, zi_le_f, zi_lt_t, zi_lt_f, zi_eq_t, zi_eq_f, if_true, if_false, ite_true, ite_false, true_and, and_true, false_and, and_false, not_true_eq_false, not_false_eq_true, true_or, or_true, false_or, or_false, and_self, ge_iff_le, gt_iff_lt]
          · simp (disch := omega) only [F_M_isWalled, F_M_within, bnd, bd2, bn2, Option.bind_some, Option.bind_none, aX, aY, m.2.1, m.2.2.1, m.2.2.2.1, ↓reduceIte, inb, zl, zi_add, zi_sub, zi_mul, zi_neg, zi_le_t, zi_le_f, zi_lt_t, zi_lt_f, zi_eq_t, zi_eq_f, if_true, if_false, ite_true, ite_false, true_and, and_true, false_and, and_false, not_true_eq_false, not_false_eq_true, true_or, or_true, false_or, or_false, and_self, ge_iff_le, gt_iff_lt]
        · simp (disch := omega) only [F_M_isWalled, F_M_within, bnd, bd2, bn2, Option.bind_some, Option.bind_none, aX, aY, m.2.1, m.2.2.1, m.2.2.2.1, ↓reduceIte, inb, zl, zi_add, zi_sub, zi_mul, zi_neg, zi_le_t, zi_le_f, zi_lt_t, zi_lt_f, zi_eq_t, zi_eq_f, if_true, if_false, ite_true, ite_false, true_and, and_true, false_and, and_false, not_true_eq_false, not_false_eq_true, true_or, or_true, false_or, or_false, and_self, ge_iff_le, gt_iff_lt]
      · simp (disch := omega) only [F_M_isWalled, F_M_within, bnd, bd2, bn2, Option.bind_some, Option.bind_none, aX, aY, m.2.1, m.2.2.1, m.2.2.2.1, ↓reduceIte, inb, zl, zi_add, zi_sub, zi_mul, zi_neg, zi_le_t, zi_le_f, zi_lt_t, zi_lt_f, zi_eq_t, zi_eq_f, if_true, if_false, ite_true, ite_false, true_and, and_true, false_and, and_false, not_true_eq_false, not_false_eq_true, true_or, or_true, false_or, or_false, and_self, ge_iff_le, gt_iff_lt]
theorem c_here (wg : WG g) (h : RS s g δc δm) {i x y : Int} (i0 : 0 ≤ i) (i1 : i < g.2.2.1) (hx : 0 ≤ x ∧ x < g.1) (hy : 0 ≤ y ∧ y < g.2.1) (e74 : δc.2.1 74 s (zi i) = zi ((y + 1) * 10 + x + 1)) : F_St_hereOf s (zi i) δc = some (δm.2.1 133 23 (zi (8 * y + x))) := by
  have hw := wg.1
  have hh := wg.2.1
  have ha := wg.2.2.1
  have ec := h.2.2.2.1 x y hx.1 hx.2 hy.1 hy.2
  simp (disch := omega) only [F_St_hereOf, bnd, bd2, bn2, Option.bind_some, Option.bind_none, h.2.2.1, e74, ec, ↓reduceIte, inb, zl, zi_add, zi_sub, zi_mul, zi_neg, zi_le_t, zi_le_f, zi_lt_t, zi_lt_f, zi_eq_t, zi_eq_f, if_true, if_false, ite_true, ite_false, true_and, and_true, false_and, and_false, not_true_eq_false, not_false_eq_true, true_or, or_true, false_or, or_false, and_self, ge_iff_le, gt_iff_lt]
/-- meetings -/
theorem lk_meets_l (wg : WG g) (h : RS s g δc δm) (m : RM k g δm) {i : Int} (i0 : 0 ≤ i) (i1 : i < g.2.2.1) : ∀ (n : Nat) (b : Int) (f1 f2 : Nat), 0 ≤ b → b ≤ g.2.2.1 → (g.2.2.1 - b).toNat ≤ n → n < f1 → n < f2 →
    (∃ u, (u = zi 0 ∨ u = zi 1) ∧ F_St_metOf_16 s (zi i) f1 (zi b) δc = some u ∧ F_M_meets_4 (zi i) f2 (zi 0) (zi b) δm = some u) ∧ F_M_meets_4 (zi i) f2 (zi 1) (zi b) δm = some (zi 1) := by
  intro n
  have ha := wg.2.2.1
  have hw := wg.1
  have hh := wg.2.1
  have hk := m.1
  obtain ⟨x, y, d, r, hx, hy, hd, hr, e74, e134, e135, -⟩ := h.2.2.2.2.2 i i0 i1
  have done : ∀ (b : Int) (f1 f2 : Nat), b = g.2.2.1 → 0 < f1 → 0 < f2 → (F_St_metOf_16 s (zi i) f1 (zi b) δc = some (zi 0) ∧ F_M_meets_4 (zi i) f2 (zi 0) (zi b) δm = some (zi 0)) ∧ F_M_meets_4 (zi i) f2 (zi 1) (zi b) δm = some (zi 1) := by
    intro b f1 f2 hb h1 h2
    obtain ⟨f1, rfl⟩ : ∃ q, f1 = q + 1 := ⟨f1 - 1, by omega⟩
    obtain ⟨f2, rfl⟩ : ∃ q, f2 = q + 1 := ⟨f2 - 1, by omega⟩
    refine ⟨⟨?_, ?_⟩, ?_⟩
    · simp (disch := omega) only [F_St_metOf_16, F_St_metOf_16_b, h.2.2.1, ↓reduceIte, inb, zl, zi_add, zi_sub, zi_mul, zi_neg, zi_le_t, zi_le_f, zi_lt_t, zi_lt_f, zi_eq_t, zi_eq_f, if_true, if_false, ite_true, ite_false, true_and, and_true, false_and, and_false, not_true_eq_false, not_false_eq_true, true_or, or_true, false_or, or_false, and_self, ge_iff_le, gt_iff_lt]
    · simp (disch := omega) only [F_M_meets_4, F_M_meets_4_b, m.2.1, m.2.2.2.2, ↓reduceIte, inb, zl, zi_add, zi_sub, zi_mul, zi_neg, zi_le_t, zi_le_f, zi_lt_t, zi_lt_f, zi_eq_t, zi_eq_f, if_true, if_false, ite_true, ite_false, true_and, and_true, false_and, and_false, not_true_eq_false, not_false_eq_true, true_or, or_true, false_or, or_false, and_self, ge_iff_le, gt_iff_lt]
    · simp (disch := omega) only [F_M_meets_4, F_M_meets_4_b, m.2.1, m.2.2.2.2, ↓reduceIte, inb, zl, zi_add, zi_sub, zi_mul, zi_neg, zi_le_t, zi_le_f, zi_lt_t, zi_lt_f, zi_eq_t, zi_eq_f, if_true, if_false, ite_true, ite_false, true_and, and_true, false_and, and_false, not_true_eq_false, not_false_eq_true, true_or, or_true, false_or, or_false, and_self, ge_iff_le, gt_iff_lt]
  induction n with
  | zero =>
    intro b f1 f2 b0 b1 hb h1 h2
    have := done b f1 f2 (by omega) h1 h2
    exact ⟨⟨zi 0, Or.inl rfl, this.1⟩, this.2⟩
  | succ n ih =>
    intro b f1 f2 b0 b1 hb h1 h2
    by_cases q : b = g.2.2.1
    · have := done b f1 f2 q (by omega) (by omega)
      exact ⟨⟨zi 0, Or.inl rfl, this.1⟩, this.2⟩
    · obtain ⟨f1, rfl⟩ : ∃ q, f1 = q + 1 := ⟨f1 - 1, by omega⟩
      obtain ⟨f2, rfl⟩ : ∃ q, f2 = q + 1 := ⟨f2 - 1, by omega⟩
      obtain ⟨x', y', d', r', hx', hy', hd', hr', e74', e134', e135', -⟩ := h.2.2.2.2.2 b b0 (by omega)
      obtain ⟨⟨u, hu, u1, u2⟩, u3⟩ := ih (b + 1) f1 f2 (by omega) (by omega) (by omega) (by omega) (by omega)
      have o1 : F_M_meets_4 (zi i) (f2 + 1) (zi 1) (zi b) δm = some (zi 1) := by
        simp (disch := omega) only [F_M_meets_4, F_M_meets_4_b, F_M_meets_56, F_M_meets_61, m.2.1, m.2.2.2.2, u3, ↓reduceIte, inb, zl, zi_add, zi_sub, zi_mul, zi_neg, zi_le_t, zi_le_f, zi_lt_t, zi_lt_f, zi_eq_t, zi_eq_f, if_true, if_false, ite_true, ite_false, true_and, and_true, false_and, and_false, not_true_eq_false, not_false_eq_true, true_or, or_true, false_or, or_false, and_self, ge_iff_le, gt_iff_lt]
      refine ⟨?_, o1⟩
      by_cases e : b = i
      · refine ⟨u, hu, ?_, ?_⟩
        · simp (disch := omega) only [F_St_metOf_16, F_St_metOf_16_b, F_St_metOf_46, h.2.2.1, u1, ↓reduceIte, inb, zl, zi_add, zi_sub, zi_mul, zi_neg, zi_le_t, zi_le_f, zi_lt_t, zi_lt_f, zi_eq_t, zi_eq_f, if_true, if_false, ite_true, ite_false, true_and, and_true, false_and, and_false, not_true_eq_false, not_false_eq_true, true_or, or_true, false_or, or_false, and_self, ge_iff_le, gt_iff_lt]
        · simp (disch := omega) only [F_M_meets_4, F_M_meets_4_b, F_M_meets_60, F_M_meets_61, m.2.1, m.2.2.2.2, u2, ↓reduceIte, inb, zl, zi_add, zi_sub, zi_mul, zi_neg, zi_le_t, zi_le_f, zi_lt_t, zi_lt_f, zi_eq_t, zi_eq_f, if_true, if_false, ite_true, ite_false, true_and, and_true, false_and, and_false, not_true_eq_false, not_false_eq_true, true_or, or_true, false_or, or_false, and_self, ge_iff_le, gt_iff_lt]
      · by_cases ex : x' = x
        · by_cases ey : y' = y
          · refine ⟨zi 1, Or.inr rfl, ?_, ?_⟩
            · simp (disch := omega) only [F_St_metOf_16, F_St_metOf_16_b, F_St_metOf_46, h.2.2.1, e74, e74', u1, ↓reduceIte, inb, zl, zi_add, zi_sub, zi_mul, zi_neg, zi_le_t, zi_le_f, zi_lt_t, zi_lt_f, zi_eq_t, zi_eq_f, if_true, if_false, ite_true, ite_false, true_and, and_true, false_and, and_false, not_true_eq_false, not_false_eq_true, true_or, or_true, false_or, or_false, and_self, ge_iff_le, gt_iff_lt]
            · simp (disch := omega) only [F_M_meets_4, F_M_meets_4_b, F_M_meets_56, F_M_meets_60, F_M_meets_61, m.2.1, m.2.2.2.2, e134, e134', e135, e135', u3, ↓reduceIte, inb, zl, zi_add, zi_sub, zi_mul, zi_neg, zi_le_t, zi_le_f, zi_lt_t, zi_lt_f, zi_eq_t, zi_eq_f, if_true, if_false, ite_true, ite_false, true_and, and_true, false_and, and_false, not_true_eq_false, not_false_eq_true, true_or, or_true, false_or, or_false, and_self, ge_iff_le, gt_iff_lt]
          · refine ⟨u, hu, ?_, ?_⟩
            · simp (disch := omega) only [F_St_metOf_16, F_St_metOf_16_b, F_St_metOf_46, h.2.2.1, e74, e74', u1, ↓reduceIte, inb, zl, zi_add, zi_sub, zi_mul, zi_neg, zi_le_t, zi_le_f, zi_lt_t, zi_lt_f, zi_eq_t, zi_eq_f, if_true, if_false, ite_true, ite_false, true_and, and_true, false_and, and_false, not_true_eq_false, not_false_eq_true, true_or, or_true, false_or, or_false, and_self, ge_iff_le, gt_iff_lt]
            · simp (disch := omega) only [F_M_meets_4, F_M_meets_4_b, F_M_meets_56, F_M_meets_60, F_M_meets_61, m.2.1, m.2.2.2.2, e134, e134', e135, e135', u2, ↓reduceIte, inb, zl, zi_add, zi_sub, zi_mul, zi_neg, zi_le_t, zi_le_f, zi_lt_t, zi_lt_f, zi_eq_t, zi_eq_f, if_true, if_false, ite_true, ite_false, true_and, and_true, false_and, and_false, not_true_eq_false, not_false_eq_true, true_or, or_true, false_or, or_false, and_self, ge_iff_le, gt_iff_lt]
        · refine ⟨u, hu, ?_, ?_⟩
          · simp (disch := omega) only [F_St_metOf_16, F_St_metOf_16_b, F_St_metOf_46, h.2.2.1, e74, e74', u1, ↓reduceIte, inb, zl, zi_add, zi_sub, zi_mul, zi_neg, zi_le_t, zi_le_f, zi_lt_t, zi_lt_f, zi_eq_t, zi_eq_f, if_true, if_false, ite_true, ite_false, true_and, and_true, false_and, and_false, not_true_eq_false, not_false_eq_true, true_or, or_true, false_or, or_false, and_self, ge_iff_le, gt_iff_lt]
          · simp (disch := omega) only [F_M_meets_4, F_M_meets_4_b, F_M_meets_56, F_M_meets_60, F_M_meets_61, m.2.1, m.2.2.2.2, e134, e134', e135, e135', u2, ↓reduceIte, inb, zl, zi_add, zi_sub, zi_mul, zi_neg, zi_le_t, zi_le_f, zi_lt_t, zi_lt_f, zi_eq_t, zi_eq_f, if_true, if_false, ite_true, ite_false, true_and, and_true, false_and, and_false, not_true_eq_false, not_false_eq_true, true_or, or_true, false_or, or_false, and_self, ge_iff_le, gt_iff_lt]
theorem lk_meets (wg : WG g) (h : RS s g δc δm) (m : RM k g δm) {i : Int} (i0 : 0 ≤ i) (i1 : i < g.2.2.1) : ∃ u, (u = zi 0 ∨ u = zi 1) ∧ F_St_metOf s (zi i) δc = some u ∧ F_M_meets (zi i) δm = some u := by
  have ha := wg.2.2.1
  obtain ⟨⟨u, hu, u1, u2⟩, -⟩ := lk_meets_l wg h m i0 i1 3 0 FU FU (by omega) (by omega) (by omega) (by unfold FU; omega) (by unfold FU; omega)
  refine ⟨u, hu, ?_, ?_⟩
  · simp (disch := omega) only [F_St_metOf, h.2.2.1, u1, ↓reduceIte, inb, zl, zi_add, zi_sub, zi_mul, zi_neg, zi_le_t, zi_le_f, zi_lt_t, zi_lt_f, zi_eq_t, zi_eq_f, if_true, if_false, ite_true, ite_false, true_and, and_true, false_and, and_false, not_true_eq_false, not_false_eq_true, true_or, or_true, false_or, or_false, and_self, ge_iff_le, gt_iff_lt]
  · have z0 : (0 : Int32) = zi 0 := zl 0
    unfold F_M_meets
    rw [z0]
    exact u2
/-! changes of the two stages -/
theorem RS.cell (wg : WG g) (h : RS s g δc δm) {x y : Int} (hx : 0 ≤ x ∧ x < g.1) (hy : 0 ≤ y ∧ y < g.2.1) {u : Int32} : RS s g (sA δc 73 s (zi ((y + 1) * 10 + x + 1)) u) (sA δm 133 23 (zi (8 * y + x)) u) := by
  have hw := wg.1
  have hh := wg.2.1
  refine ⟨h.1, h.2.1, h.2.2.1, fun x' y' x0 x1 y0 y1 => ?_, fun j j0 j1 jb => ?_, h.2.2.2.2.2⟩
  · rw [rAi, rAi]
    by_cases q : x' = x ∧ y' = y
    · rw [q.1, q.2, if_pos rfl, if_pos rfl]
    · rw [if_neg (fun e => q (by have := zi_inj e (by omega) (by omega); omega)), if_neg (fun e => q (by have := zi_inj e (by omega) (by omega); omega))]
      exact h.2.2.2.1 x' y' x0 x1 y0 y1
  · rw [rAi, if_neg (fun e => ?_)]
    · exact h.2.2.2.2.1 j j0 j1 jb
    · have := zi_inj e (by omega) (by omega)
      unfold bd at jb
      omega
theorem RS.val (wg : WG g) (h : RS s g δc δm) {i : Int} (hi : 0 ≤ i ∧ i < g.2.2.1) {u : Int32} : RS s g (sA δc 76 s (zi i) u) (sA δm 137 23 (zi i) u) := by
  have ha := wg.2.2.1
  refine ⟨h.1, h.2.1, h.2.2.1, h.2.2.2.1, h.2.2.2.2.1, fun j j0 j1 => ?_⟩
  obtain ⟨x, y, d, r, hx, hy, hd, hr, e74, e134, e135, e75, e136, e76, e77, e78, e139, e79⟩ := h.2.2.2.2.2 j j0 j1
  refine ⟨x, y, d, r, hx, hy, hd, hr, e74, e134, e135, e75, e136, ?_, e77, e78, e139, e79⟩
  rw [rAi, rAi, e76]
theorem RS.bump (wg : WG g) (h : RS s g δc δm) {i : Int} (hi : 0 ≤ i ∧ i < g.2.2.1) {u : Int32} : RS s g (sA δc 77 s (zi i) u) (sA δm 138 23 (zi i) u) := by
  refine ⟨h.1, h.2.1, h.2.2.1, h.2.2.2.1, h.2.2.2.2.1, fun j j0 j1 => ?_⟩
  obtain ⟨x, y, d, r, hx, hy, hd, hr, e74, e134, e135, e75, e136, e76, e77, e78, e139, e79⟩ := h.2.2.2.2.2 j j0 j1
  refine ⟨x, y, d, r, hx, hy, hd, hr, e74, e134, e135, e75, e136, e76, ?_, e78, e139, e79⟩
  rw [rAi, rAi, e77]
theorem RS.head (wg : WG g) (h : RS s g δc δm) {i : Int} (hi : 0 ≤ i ∧ i < g.2.2.1) {u : Int} (hu : 0 ≤ u ∧ u ≤ 3) : RS s g (sA δc 75 s (zi i) (zi u)) (sA δm 136 23 (zi i) (zi u)) := by
  have ha := wg.2.2.1
  refine ⟨h.1, h.2.1, h.2.2.1, h.2.2.2.1, h.2.2.2.2.1, fun j j0 j1 => ?_⟩
  obtain ⟨x, y, d, r, hx, hy, hd, hr, e74, e134, e135, e75, e136, e76, e77, e78, e139, e79⟩ := h.2.2.2.2.2 j j0 j1
  by_cases q : j = i
  · subst q
    refine ⟨x, y, u, r, hx, hy, hu, hr, e74, e134, e135, ?_, ?_, e76, e77, e78, e139, e79⟩
    · rw [rAi, if_pos rfl]
    · rw [rAi, if_pos rfl]
  · refine ⟨x, y, d, r, hx, hy, hd, hr, e74, e134, e135, ?_, ?_, e76, e77, e78, e139, e79⟩
    · rw [rAi, if_neg (fun e => q (zi_inj e (by omega) (by omega)))]; exact e75
    · rw [rAi, if_neg (fun e => q (zi_inj e (by omega) (by omega)))]; exact e136
theorem RS.place (wg : WG g) (h : RS s g δc δm) {i : Int} (hi : 0 ≤ i ∧ i < g.2.2.1) {u v : Int} (hu : 0 ≤ u ∧ u < g.1) (hv : 0 ≤ v ∧ v < g.2.1) : RS s g (sA δc 74 s (zi i) (zi ((v + 1) * 10 + u + 1))) (sA (sA δm 135 23 (zi i) (zi v)) 134 23 (zi i) (zi u)) := by
  have ha := wg.2.2.1
  refine ⟨h.1, h.2.1, h.2.2.1, h.2.2.2.1, h.2.2.2.2.1, fun j j0 j1 => ?_⟩
  obtain ⟨x, y, d, r, hx, hy, hd, hr, e74, e134, e135, e75, e136, e76, e77, e78, e139, e79⟩ := h.2.2.2.2.2 j j0 j1
  by_cases q : j = i
  · subst q
    refine ⟨u, v, d, r, hu, hv, hd, hr, ?_, ?_, ?_, e75, e136, e76, e77, e78, e139, e79⟩
    · rw [rAi, if_pos rfl]
    · rw [rAi, if_pos rfl]
    · rw [rA (by decide), rAi, if_pos rfl]
  · refine ⟨x, y, d, r, hx, hy, hd, hr, ?_, ?_, ?_, e75, e136, e76, e77, e78, e139, e79⟩
    · rw [rAi, if_neg (fun e => q (zi_inj e (by omega) (by omega)))]; exact e74
    · rw [rAi, if_neg (fun e => q (zi_inj e (by omega) (by omega))), rA (by decide)]; exact e134
    · rw [rA (by decide), rAi, if_neg (fun e => q (zi_inj e (by omega) (by omega)))]; exact e135
theorem RS.item (wg : WG g) (h : RS s g δc δm) {i f : Int} (hi : 0 ≤ i ∧ i < g.2.2.1) (hf : 0 ≤ f ∧ f < 20) {u : Int32} : RS s g (sA δc 79 s (zi (i * 20 + f)) u) (sA δm 140 23 (zi (20 * i + f)) u) := by
  have ha := wg.2.2.1
  refine ⟨h.1, h.2.1, h.2.2.1, h.2.2.2.1, h.2.2.2.2.1, fun j j0 j1 => ?_⟩
  obtain ⟨x, y, d, r, hx, hy, hd, hr, e74, e134, e135, e75, e136, e76, e77, e78, e139, e79⟩ := h.2.2.2.2.2 j j0 j1
  refine ⟨x, y, d, r, hx, hy, hd, hr, e74, e134, e135, e75, e136, e76, e77, e78, e139, fun l l0 l1 => ?_⟩
  rw [rAi, rAi]
  by_cases q : j = i ∧ l = f
  · rw [q.1, q.2, if_pos rfl, if_pos rfl]
  · rw [if_neg (fun e => q (by have := zi_inj e (by omega) (by omega); omega)), if_neg (fun e => q (by have := zi_inj e (by omega) (by omega); omega))]
    exact e79 l l0 l1
end ST
