/-! the reference looks at the wish (wip/whole/pure) -/
abbrev S183 : Nat → Nat → Prop := fun f a => a = 23 ∧ 183 ≤ f ∧ f ≤ 184
section HF
variable {δ δ' : Dl}
theorem th19F (r131 : δ'.1 131 23 = δ.1 131 23) (r110 : δ'.2.1 110 23 = δ.2.1 110 23) (r133 : δ'.2.1 133 23 = δ.2.1 133 23) {k4 : Int32 → Int32 → Dl → Option Int32} (hk : ∀ u y, k4 u y δ' = k4 u y δ) : ∀ (n : Nat) (u y x : Int32), F_M_thingsOf_19 k4 n u y x δ' = F_M_thingsOf_19 k4 n u y x δ := by
  intro n
  induction n with
  | zero => intro u y x; rfl
  | succ n ih =>
    intro u y x
    simp only [F_M_thingsOf_19, F_M_thingsOf_19_b, F_M_thingsOf_62, r131, r110, r133, ih, hk]
theorem th4F (r131 : δ'.1 131 23 = δ.1 131 23) (r110 : δ'.2.1 110 23 = δ.2.1 110 23) (r111 : δ'.2.1 111 23 = δ.2.1 111 23) (r133 : δ'.2.1 133 23 = δ.2.1 133 23) : ∀ (n : Nat) (u y : Int32), F_M_thingsOf_4 n u y δ' = F_M_thingsOf_4 n u y δ := by
  intro n
  induction n with
  | zero => intro u y; rfl
  | succ n ih =>
    intro u y
    have e := th19F (δ := δ) (δ' := δ') r131 r110 r133 (k4 := F_M_thingsOf_4 n) ih
    simp only [F_M_thingsOf_4, F_M_thingsOf_4_b, r131, r111, e]
theorem holdsF (F : Fr S183 δ δ') (i : Int32) : F_M_holds i δ' = F_M_holds i δ := by
  have r := fun (f : Nat) (hf : f < 183) => (F.2 f 23 (fun e => by omega))
  have e4 := th4F (r 131 (by decide)).1 (r 110 (by decide)).2 (r 111 (by decide)).2 (r 133 (by decide)).2
  have et : F_M_thingsOf δ' = F_M_thingsOf δ := e4 FU 0 0
  simp only [F_M_holds, F_M_holds_23, F_M_holds_24, F_M_holds_53, F_M_holds_187, et, (r 157 (by decide)).2, (r 158 (by decide)).2, (r 131 (by decide)).1, (r 113 (by decide)).2, (r 138 (by decide)).2, (r 136 (by decide)).2, (r 137 (by decide)).2, (r 134 (by decide)).2, (r 135 (by decide)).2, (r 148 (by decide)).1, (r 159 (by decide)).2, (r 160 (by decide)).2]
end HF
/-- what one look makes of a part: whether it was ever so, and since when it is lost -/
def onceN (o r : Int) : Int := if o = 0 ∧ r = 0 then 0 else 1
def lostA (wh r L t : Int) : Int := if ((wh = 1 ∧ r = 0) ∨ (wh = 2 ∧ r = 1)) ∧ L = -1 then t else L
def lostN (wh r o L t x : Int) : Int := if t = x ∧ ((wh = 0 ∧ r = 0) ∨ (wh = 3 ∧ onceN o r = 0)) then x else lostA wh r L t
theorem m_look1 {δ : Dl} {n i x t wh o r L : Int} {k2 : Int32 → Dl → Option Dl} (hn : n ≤ 4) (hi : 0 ≤ i ∧ i < n) (hx : 0 ≤ x ∧ x ≤ 40) (ht : 0 ≤ t ∧ t ≤ 40) (hwh : 0 ≤ wh ∧ wh ≤ 3) (ho : o = 0 ∨ o = 1) (hr : r = 0 ∨ r = 1) (hL : -1 ≤ L ∧ L ≤ 40) (e155 : δ.1 155 23 = zi n) (e132 : δ.1 132 23 = zi t) (e156 : δ.2.1 156 23 (zi i) = zi wh) (e183 : δ.2.1 183 23 (zi i) = zi L) (e184 : δ.2.1 184 23 (zi i) = zi o) (eh : F_M_holds (zi i) δ = some (zi r)) :
    ∃ δ', F_M_looks_2_b (zi x) k2 (zi i) δ = k2 (zi (i + 1)) δ' ∧ Fr S183 δ δ' ∧ (∀ j, 0 ≤ j → j < 4 → δ'.2.1 183 23 (zi j) = if j = i then zi (lostN wh r o L t x) else δ.2.1 183 23 (zi j)) ∧ (∀ j, 0 ≤ j → j < 4 → δ'.2.1 184 23 (zi j) = if j = i then zi (onceN o r) else δ.2.1 184 23 (zi j)) := by
  have a0 : zi 0 &&& zi 1 = zi 0 := by decide
  have a1 : zi 1 &&& zi 1 = zi 1 := by decide
  have ons : onceN o r = 0 ∨ onceN o r = 1 := by unfold onceN; split <;> simp
  have laR : -1 ≤ lostA wh r L t ∧ lostA wh r L t ≤ 40 := by unfold lostA; split <;> omega
  -- the first: ever so
  have s1 : F_M_looks_2_b (zi x) k2 (zi i) δ = F_M_looks_39 (zi x) k2 (zi i) (zi r) (zi (onceN o r)) (zi i) δ := by
    unfold onceN
    rcases ho with rfl | rfl <;> rcases hr with rfl | rfl <;> simp (disch := omega) only [F_M_looks_2_b, F_M_looks_34, e155, e184, ↓bse eh, Int.reduceEq, ↓reduceIte, inb, zl, zi_add, zi_sub, zi_mul, zi_neg, zi_le_t, zi_le_f, zi_lt_t, zi_lt_f, zi_eq_t, zi_eq_f, if_true, if_false, ite_true, ite_false, true_and, and_true, false_and, and_false, not_true_eq_false, not_false_eq_true, true_or, or_true, false_or, or_false, and_self, ge_iff_le, gt_iff_lt]
  have s2 : F_M_looks_39 (zi x) k2 (zi i) (zi r) (zi (onceN o r)) (zi i) δ = F_M_looks_108 (zi x) k2 (zi i) (zi r) (zi (lostA wh r L t)) (zi i) (sA δ 184 23 (zi i) (zi (onceN o r))) := by
    have an : zi (onceN o r) &&& zi 1 = zi (onceN o r) := by rcases ons with e | e <;> rw [e] <;> decide
    have b156 : ∀ u, (sA δ 184 23 (zi i) u).2.1 156 23 (zi i) = zi wh := fun u => by rw [rA (by decide)]; exact e156
    have b183 : ∀ u, (sA δ 184 23 (zi i) u).2.1 183 23 (zi i) = zi L := fun u => by rw [rA (by decide)]; exact e183
    have b132 : ∀ u, (sA δ 184 23 (zi i) u).1 132 23 = zi t := fun u => e132
    generalize onceN o r = O at *
    by_cases qL : L = -1
    · subst qL
      rcases (show wh = 0 ∨ wh = 1 ∨ wh = 2 ∨ wh = 3 by omega) with rfl | rfl | rfl | rfl <;> rcases hr with rfl | rfl <;> simp (disch := omega) only [F_M_looks_39, F_M_looks_54, F_M_looks_68, F_M_looks_72, F_M_looks_73, F_M_looks_102, ↓bnd_eq, bd2, bn2, Option.bind_some, Option.bind_none, an, b156, b183, b132, lostA, reduceCtorEq, Int.reduceEq, ↓reduceIte, inb, zl, zi_add, zi_sub, zi_mul, zi_neg, zi_le_t, zi_le_f, zi_lt_t, zi_lt_f, zi_eq_t, zi_eq_f, if_true, if_false, ite_true, ite_false, true_and, and_true, false_and, and_false, not_true_eq_false, not_false_eq_true, true_or, or_true, false_or, or_false, and_self, ge_iff_le, gt_iff_lt]
    · rcases (show wh = 0 ∨ wh = 1 ∨ wh = 2 ∨ wh = 3 by omega) with rfl | rfl | rfl | rfl <;> rcases hr with rfl | rfl <;> simp (disch := omega) only [F_M_looks_39, F_M_looks_54, F_M_looks_68, F_M_looks_72, F_M_looks_73, F_M_looks_102, ↓bnd_eq, bd2, bn2, Option.bind_some, Option.bind_none, an, b156, b183, b132, lostA, qL, reduceCtorEq, Int.reduceEq, ↓reduceIte, inb, zl, zi_add, zi_sub, zi_mul, zi_neg, zi_le_t, zi_le_f, zi_lt_t, zi_lt_f, zi_eq_t, zi_eq_f, if_true, if_false, ite_true, ite_false, true_and, and_true, false_and, and_false, not_true_eq_false, not_false_eq_true, true_or, or_true, false_or, or_false, and_self, ge_iff_le, gt_iff_lt]
  have rows : ∀ (d : Dl), (∀ j, 0 ≤ j → j < 4 → d.2.1 183 23 (zi j) = if j = i then zi (lostN wh r o L t x) else δ.2.1 183 23 (zi j)) → d.2.1 184 23 = (sA δ 184 23 (zi i) (zi (onceN o r))).2.1 184 23 → (∀ j, 0 ≤ j → j < 4 → d.2.1 183 23 (zi j) = if j = i then zi (lostN wh r o L t x) else δ.2.1 183 23 (zi j)) ∧ (∀ j, 0 ≤ j → j < 4 → d.2.1 184 23 (zi j) = if j = i then zi (onceN o r) else δ.2.1 184 23 (zi j)) := by
    intro d h1 h2
    refine ⟨h1, fun j j0 j1 => ?_⟩
    rw [h2, rAi]
    by_cases q : j = i
    · rw [if_pos (by rw [q]), if_pos q]
    · rw [if_neg (fun e => q (zi_inj e (by omega) (by omega))), if_neg q]
  rw [s1, s2]
  have c156 : ∀ u u', (sA (sA δ 184 23 (zi i) u) 183 23 (zi i) u').2.1 156 23 (zi i) = zi wh := fun u u' => by rw [rA (by decide), rA (by decide)]; exact e156
  have c132 : ∀ u u', (sA (sA δ 184 23 (zi i) u) 183 23 (zi i) u').1 132 23 = zi t := fun u u' => e132
  have c184 : ∀ u u', (sA (sA δ 184 23 (zi i) u) 183 23 (zi i) u').2.1 184 23 (zi i) = u := fun u u' => by rw [rA (by decide), rAi, if_pos rfl]
  have c183 : ∀ u u', (sA (sA δ 184 23 (zi i) u) 183 23 (zi i) u').2.1 183 23 (zi i) = u' := fun u u' => by rw [rAi, if_pos rfl]
  by_cases qt : t = x
  · refine ⟨sA (sA (sA δ 184 23 (zi i) (zi (onceN o r))) 183 23 (zi i) (zi (lostA wh r L t))) 183 23 (zi i) (zi (lostN wh r o L t x)), ?_, ((Fr.rf.sA ⟨rfl, by decide, by decide⟩).sA ⟨rfl, by decide, by decide⟩).sA ⟨rfl, by decide, by decide⟩, rows _ (fun j j0 j1 => ?_) ?_⟩
    · have lt : lostN wh r o L t x = if (wh = 0 ∧ r = 0) ∨ (wh = 3 ∧ onceN o r = 0) then x else lostA wh r L t := by
        unfold lostN
        by_cases q : (wh = 0 ∧ r = 0) ∨ (wh = 3 ∧ onceN o r = 0)
        · rw [if_pos ⟨qt, q⟩, if_pos q]
        · rw [if_neg (fun e => q e.2), if_neg q]
      rw [lt]
      generalize lostA wh r L t = A at *
      generalize onceN o r = O at *
      rcases (show wh = 0 ∨ wh = 1 ∨ wh = 2 ∨ wh = 3 by omega) with rfl | rfl | rfl | rfl <;> rcases hr with rfl | rfl <;> rcases ons with rfl | rfl <;> simp (disch := omega) only [F_M_looks_108, F_M_looks_130, F_M_looks_149, F_M_looks_153, F_M_looks_154, F_M_looks_176, F_M_looks_177, ↓bnd_eq, bd2, bn2, Option.bind_some, Option.bind_none, c156, c132, c184, c183, Int.reduceEq, ↓reduceIte, inb, zl, zi_add, zi_sub, zi_mul, zi_neg, zi_le_t, zi_le_f, zi_lt_t, zi_lt_f, zi_eq_t, zi_eq_f, if_true, if_false, ite_true, ite_false, true_and, and_true, false_and, and_false, not_true_eq_false, not_false_eq_true, true_or, or_true, false_or, or_false, and_self, ge_iff_le, gt_iff_lt]
    · rw [rAi]
      by_cases q : j = i
      · rw [if_pos (by rw [q]), if_pos q]
      · rw [if_neg (fun e => q (zi_inj e (by omega) (by omega))), if_neg q, rAi, if_neg (fun e => q (zi_inj e (by omega) (by omega))), rA (by decide)]
    · funext j
      rw [rA (by decide), rA (by decide)]
  · refine ⟨sA (sA δ 184 23 (zi i) (zi (onceN o r))) 183 23 (zi i) (zi (lostA wh r L t)), ?_, (Fr.rf.sA ⟨rfl, by decide, by decide⟩).sA ⟨rfl, by decide, by decide⟩, rows _ (fun j j0 j1 => ?_) ?_⟩
    · simp (disch := omega) only [F_M_looks_108, F_M_looks_177, ↓bnd_eq, bd2, bn2, Option.bind_some, Option.bind_none, c132, ↓reduceIte, inb, zl, zi_add, zi_sub, zi_mul, zi_neg, zi_le_t, zi_le_f, zi_lt_t, zi_lt_f, zi_eq_t, zi_eq_f, if_true, if_false, ite_true, ite_false, true_and, and_true, false_and, and_false, not_true_eq_false, not_false_eq_true, true_or, or_true, false_or, or_false, and_self, ge_iff_le, gt_iff_lt]
    · have lt : lostN wh r o L t x = lostA wh r L t := if_neg (fun e => qt e.1)
      rw [rAi, lt]
      by_cases q : j = i
      · rw [if_pos (by rw [q]), if_pos q]
      · rw [if_neg (fun e => q (zi_inj e (by omega) (by omega))), if_neg q, rA (by decide)]
    · funext j
      rw [rA (by decide)]
