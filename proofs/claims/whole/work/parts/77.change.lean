/-! the changes of a program, on both sides (wip/whole/pure) -/
section LVC
variable {v : PG} {b x j : Int}
theorem lv_Bo (h : x ≠ b) : (lvV v b).2.2.1 x j = v.2.2.1 x j := by rw [lvV_B, if_neg (fun e => h e.2)]
theorem lv_B0 : (lvV v b).2.2.1 x 0 = v.2.2.1 x 0 := by rw [lvV_B, if_neg (fun e => by have := e.1; omega)]
theorem lv_Hm (h : v.2.2.2.1 x j = -1) : (lvV v b).2.2.2.1 x j = -1 := by
  rw [lvV_H]
  split
  · rfl
  · exact h
theorem lv_Bm (h : v.2.2.1 x j = -1) : (lvV v b).2.2.1 x j = -1 := by
  rw [lvV_B]
  split
  · rfl
  · exact h
theorem lv_Sm (h : v.2.2.2.2 x j = -1) : (lvV v b).2.2.2.2 x j = -1 := by
  rw [lvV_S]
  split
  · rfl
  · exact h
theorem lv_H0 (h2 : v.2.2.1 b 2 = x) (hx : x ≠ -1) (h3 : v.2.2.1 b 3 = j) : (lvV v b).2.2.2.1 x j = -1 := by
  rw [lvV_H, if_pos ⟨by rw [h2]; exact hx, h3.symm, h2.symm⟩]
theorem lv_S0 (h4 : v.2.2.1 b 4 = x) (hx : x ≠ -1) : (lvV v b).2.2.2.2 x 4 = -1 := by
  rw [lvV_S, if_pos ⟨by rw [h4]; exact hx, rfl, h4.symm⟩]
theorem lv_B2 : (lvV v b).2.2.1 x 2 = -1 ∨ (lvV v b).2.2.1 x 2 = v.2.2.1 x 2 := by
  rw [lvV_B]
  split
  · exact Or.inl rfl
  · exact Or.inr rfl
theorem lv_Bs : (lvV v b).2.2.1 b 2 = -1 ∧ (lvV v b).2.2.1 b 3 = -1 ∧ (lvV v b).2.2.1 b 4 = -1 := by
  refine ⟨?_, ?_, ?_⟩
  · rw [lvV_B, if_pos ⟨by decide, rfl⟩]
  · rw [lvV_B, if_pos ⟨by decide, rfl⟩]
  · rw [lvV_B, if_pos ⟨by decide, rfl⟩]
theorem if_sw {α : Type} {p q : Prop} [Decidable p] [Decidable q] {a u : α} : (if p then a else if q then a else u) = if q then a else if p then a else u := by
  by_cases hp : p
  · by_cases hq : q
    · rw [if_pos hp, if_pos hq]
    · rw [if_pos hp, if_neg hq, if_pos hp]
  · by_cases hq : q
    · rw [if_neg hp, if_pos hq, if_pos hq]
    · rw [if_neg hp, if_neg hq, if_neg hq, if_neg hp]
/-- two blocks taken out, in either order -/
theorem lv_comm {c : Int} (h : b ≠ c) : lvV (lvV v b) c = lvV (lvV v c) b := by
  have hc : ∀ j, (lvV v b).2.2.1 c j = v.2.2.1 c j := fun j => lv_Bo (fun e => h e.symm)
  have hb : ∀ j, (lvV v c).2.2.1 b j = v.2.2.1 b j := fun j => lv_Bo h
  refine Prod.ext ?_ (Prod.ext ?_ (Prod.ext (funext fun x => funext fun j => ?_) (Prod.ext (funext fun x => funext fun j => ?_) (funext fun x => funext fun j => ?_))))
  · show (lvV (lvV v b) c).1 = (lvV (lvV v c) b).1
    rw [lvV_N, lvV_N, lvV_N, lvV_N]
  · show (lvV (lvV v b) c).2.1 = (lvV (lvV v c) b).2.1
    rw [lvV_M, lvV_M, lvV_M, lvV_M]
  · show (lvV (lvV v b) c).2.2.1 x j = (lvV (lvV v c) b).2.2.1 x j
    rw [lvV_B, lvV_B, lvV_B, lvV_B]
    exact if_sw
  · show (lvV (lvV v b) c).2.2.2.1 x j = (lvV (lvV v c) b).2.2.2.1 x j
    rw [lvV_H (v := lvV v b) (b := c), hc, hc, lvV_H (v := v) (b := b), lvV_H (v := lvV v c) (b := b), hb, hb, lvV_H (v := v) (b := c)]
    exact if_sw
  · show (lvV (lvV v b) c).2.2.2.2 x j = (lvV (lvV v c) b).2.2.2.2 x j
    rw [lvV_S (v := lvV v b) (b := c), hc, lvV_S (v := v) (b := b), lvV_S (v := lvV v c) (b := b), hb, lvV_S (v := v) (b := c)]
    exact if_sw
end LVC
/-- a block stands where another was -/
def stdV (v : PG) (o host hole s : Int) : PG := if host = -1 then topV v s o else attV v host hole o
abbrev SMx : Nat → Nat → Prop := fun f a => a = 23 ∧ ((120 ≤ f ∧ f ≤ 124) ∨ f = 130)
section CH
variable {p : Nat} {c m : Dl} {v : PG}
/-- where a block stands -/
def Plc (v : PG) (host hole s : Int) : Prop := (host = -1 ∧ hole = -1 ∧ (0 ≤ s ∧ s < v.2.1)) ∨ ((0 ≤ host ∧ host < v.1) ∧ (0 ≤ hole ∧ hole < 5) ∧ s = -1)
theorem c_bpartX (C : CP p c v) (W : PW v) {b j : Int} (b0 : 0 ≤ b) (b1 : b < v.1) (j0 : 0 ≤ j) (j5 : j < 5) : F_Pr_blockPart p (zi b) (zi j) c = some (zi (v.2.2.1 b j)) := by
  have := W.1
  have e := C.2.2.1 b j b0 b1 j0 j5
  simp (disch := omega) only [F_Pr_blockPart, C.1, e, ↓reduceIte, inb, zl, zi_add, zi_sub, zi_mul, zi_neg, zi_le_t, zi_le_f, zi_lt_t, zi_lt_f, zi_eq_t, zi_eq_f, if_true, if_false, ite_true, ite_false, true_and, and_true, false_and, and_false, not_true_eq_false, not_false_eq_true, true_or, or_true, false_or, or_false, and_self, ge_iff_le, gt_iff_lt]
theorem c_std (C : CP p c v) (W : PW v) {o host hole s : Int} (P : Plc v host hole s) (o0 : 0 ≤ o) (o1 : o < v.1) : ∃ c' c2, F_Pr_attach p (zi host) (zi hole) (zi o) c = some c' ∧ F_Pr_attachTop p (zi s) (zi o) c' = some c2 ∧ CP p c2 (stdV v o host hole s) ∧ Fr (SP p) c c2 := by
  have hN := W.1
  have hM := W.2.1
  rcases P with ⟨rfl, rfl, s0, s1⟩ | ⟨⟨h0, h1⟩, ⟨j0, j5⟩, rfl⟩
  · obtain ⟨c2, e, C2, F⟩ := c_attachTop C hN.2 hM.2 s0 s1 o0 o1
    refine ⟨c, c2, c_attachN C (Or.inl rfl) (by omega) (by omega) (by omega) hN, e, ?_, F⟩
    unfold stdV
    rw [if_pos rfl]
    exact C2
  · obtain ⟨c2, e, C2, F⟩ := c_attach C hN.2 h0 h1 j0 j5 o0 o1
    refine ⟨c2, c2, e, c_attachTopN C2 (Or.inl rfl) (by omega) (by omega) hM hN, ?_, F⟩
    unfold stdV
    rw [if_neg (by omega)]
    exact C2
theorem m_putsX (C : MP m v) (hN : v.1 ≤ 30) {b h o : Int} (b0 : 0 ≤ b) (b1 : b < v.1) (h0 : 0 ≤ h) (h1 : h < 5) (o0 : 0 ≤ o) (o1 : o < v.1) : ∃ m', F_M_puts (zi o) (zi h) (zi b) m = some m' ∧ MP m' (attV v b h o) ∧ Fr SMx m m' := by
  have E : F_M_puts (zi o) (zi h) (zi b) m = some (sA (sA (sA m 121 23 (zi (5 * b + h)) (zi o)) 122 23 (zi o) (zi b)) 123 23 (zi o) (zi h)) := by
    simp (disch := omega) only [F_M_puts, ↓bnd_eq, bd2, bn2, Option.bind_some, Option.bind_none, ↓reduceIte, inb, zl, zi_add, zi_sub, zi_mul, zi_neg, zi_le_t, zi_le_f, zi_lt_t, zi_lt_f, zi_eq_t, zi_eq_f, if_true, if_false, ite_true, ite_false, true_and, and_true, false_and, and_false, not_true_eq_false, not_false_eq_true, true_or, or_true, false_or, or_false, and_self, ge_iff_le, gt_iff_lt]
  refine ⟨_, E, ?_, ((Fr.rf.sA ⟨rfl, by decide⟩).sA ⟨rfl, by decide⟩).sA ⟨rfl, by decide⟩⟩
  exact ((C.h hN o b0 b1 h0 h1).u hN b o0 o1).w hN h o0 o1
theorem m_leavesX (C : MP m v) (W : PW v) {b : Int} (b0 : 0 ≤ b) (b1 : b < v.1) : ∃ m', F_M_leaves (zi b) m = some m' ∧ MP m' (lvV v b) ∧ Fr SMx m m' := by
  have hN := W.1
  have hM := W.2.1
  obtain ⟨e0, e1, e2, e3, e4⟩ := C.2.2.1 b b0 b1
  have w := (W.2.2.1 b b0 b1).2.2.1
  have t := (W.2.2.1 b b0 b1).2.2.2.1
  have wu := W.u b0 b1
  have ww := W.w b0 b1
  have wt := W.t b0 b1
  obtain ⟨m', e, mm, -⟩ := m_leaves C W b0 b1
  refine ⟨m', e, mm, ?_⟩
  by_cases q2 : v.2.2.1 b 2 = -1
  · by_cases q4 : v.2.2.1 b 4 = -1
    · have E : F_M_leaves (zi b) m = some (sA (sA (sA m 122 23 (zi b) (zi (-1))) 123 23 (zi b) (zi (-1))) 124 23 (zi b) (zi (-1))) := by
        simp (disch := omega) only [F_M_leaves, F_M_leaves_31, F_M_leaves_53, ↓bnd_eq, bd2, bn2, Option.bind_some, Option.bind_none, e2, e3, e4, rA, ↓reduceIte, inb, zl, zi_add, zi_sub, zi_mul, zi_neg, zi_le_t, zi_le_f, zi_lt_t, zi_lt_f, zi_eq_t, zi_eq_f, if_true, if_false, ite_true, ite_false, true_and, and_true, false_and, and_false, not_true_eq_false, not_false_eq_true, true_or, or_true, false_or, or_false, and_self, ge_iff_le, gt_iff_lt]
      cases e.symm.trans E
      exact ((Fr.rf.sA ⟨rfl, by decide⟩).sA ⟨rfl, by decide⟩).sA ⟨rfl, by decide⟩
    · have E : F_M_leaves (zi b) m = some (sA (sA (sA (sA m 130 23 (zi (v.2.2.1 b 4)) (zi (-1))) 122 23 (zi b) (zi (-1))) 123 23 (zi b) (zi (-1))) 124 23 (zi b) (zi (-1))) := by
        simp (disch := omega) only [F_M_leaves, F_M_leaves_31, F_M_leaves_53, ↓bnd_eq, bd2, bn2, Option.bind_some, Option.bind_none, e2, e3, e4, rA, ↓reduceIte, inb, zl, zi_add, zi_sub, zi_mul, zi_neg, zi_le_t, zi_le_f, zi_lt_t, zi_lt_f, zi_eq_t, zi_eq_f, if_true, if_false, ite_true, ite_false, true_and, and_true, false_and, and_false, not_true_eq_false, not_false_eq_true, true_or, or_true, false_or, or_false, and_self, ge_iff_le, gt_iff_lt]
      cases e.symm.trans E
      exact (((Fr.rf.sA ⟨rfl, by decide⟩).sA ⟨rfl, by decide⟩).sA ⟨rfl, by decide⟩).sA ⟨rfl, by decide⟩
  · by_cases q4 : v.2.2.1 b 4 = -1
    · have E : F_M_leaves (zi b) m = some (sA (sA (sA (sA m 121 23 (zi (5 * v.2.2.1 b 2 + v.2.2.1 b 3)) (zi (-1))) 122 23 (zi b) (zi (-1))) 123 23 (zi b) (zi (-1))) 124 23 (zi b) (zi (-1))) := by
        simp (disch := omega) only [F_M_leaves, F_M_leaves_31, F_M_leaves_53, ↓bnd_eq, bd2, bn2, Option.bind_some, Option.bind_none, e2, e3, e4, rA, ↓reduceIte, inb, zl, zi_add, zi_sub, zi_mul, zi_neg, zi_le_t, zi_le_f, zi_lt_t, zi_lt_f, zi_eq_t, zi_eq_f, if_true, if_false, ite_true, ite_false, true_and, and_true, false_and, and_false, not_true_eq_false, not_false_eq_true, true_or, or_true, false_or, or_false, and_self, ge_iff_le, gt_iff_lt]
      cases e.symm.trans E
      exact (((Fr.rf.sA ⟨rfl, by decide⟩).sA ⟨rfl, by decide⟩).sA ⟨rfl, by decide⟩).sA ⟨rfl, by decide⟩
    · exfalso; omega
theorem m_std (M : MP m v) (W : PW v) {o host hole s : Int} (P : Plc v host hole s) (o0 : 0 ≤ o) (o1 : o < v.1) : ∃ m', F_M_standsIn (zi o) (zi host) (zi hole) (zi s) m = some m' ∧ MP m' (stdV v o host hole s) ∧ Fr SMx m m' := by
  have hN := W.1
  have hM := W.2.1
  rcases P with ⟨rfl, rfl, s0, s1⟩ | ⟨⟨h0, h1⟩, ⟨j0, j5⟩, rfl⟩
  · refine ⟨sA (sA m 130 23 (zi s) (zi o)) 124 23 (zi o) (zi s), ?_, ?_, (Fr.rf.sA ⟨rfl, by decide⟩).sA ⟨rfl, by decide⟩⟩
    · simp (disch := omega) only [F_M_standsIn, ↓bnd_eq, bd2, bn2, Option.bind_some, Option.bind_none, ↓reduceIte, inb, zl, zi_add, zi_sub, zi_mul, zi_neg, zi_le_t, zi_le_f, zi_lt_t, zi_lt_f, zi_eq_t, zi_eq_f, if_true, if_false, ite_true, ite_false, true_and, and_true, false_and, and_false, not_true_eq_false, not_false_eq_true, true_or, or_true, false_or, or_false, and_self, ge_iff_le, gt_iff_lt]
    · unfold stdV
      rw [if_pos rfl]
      exact (M.tp hM.2 o s0 s1).t hN.2 s o0 o1
  · obtain ⟨m', e, M', F⟩ := m_putsX M hN.2 h0 h1 j0 j5 o0 o1
    refine ⟨m', ?_, ?_, F⟩
    · simp (disch := omega) only [F_M_standsIn, ↓bse e, ↓reduceIte, inb, zl, zi_add, zi_sub, zi_mul, zi_neg, zi_le_t, zi_le_f, zi_lt_t, zi_lt_f, zi_eq_t, zi_eq_f, if_true, if_false, ite_true, ite_false, true_and, and_true, false_and, and_false, not_true_eq_false, not_false_eq_true, true_or, or_true, false_or, or_false, and_self, ge_iff_le, gt_iff_lt]
    · unfold stdV
      rw [if_neg (by omega)]
      exact M'
/-- a block that isn't loose stands somewhere -/
theorem plc_of (W : PW v) {b : Int} (b0 : 0 ≤ b) (b1 : b < v.1) (hl : ¬ (v.2.2.1 b 2 = -1 ∧ v.2.2.1 b 4 = -1)) : Plc v (v.2.2.1 b 2) (v.2.2.1 b 3) (v.2.2.1 b 4) := by
  have h := W.2.2.1 b b0 b1
  rcases h.2.2.1 with ⟨h2, h3⟩ | ⟨h2, h3, -, h4, -⟩
  · left
    have h4 : ¬ v.2.2.1 b 4 = -1 := fun e => hl ⟨h2, e⟩
    rcases h.2.2.2.1 with e | ⟨e, -⟩
    · exact absurd e h4
    · exact ⟨h2, h3, e⟩
  · exact Or.inr ⟨h2, h3, h4⟩
theorem Plc.lv {x host hole s : Int} (P : Plc v host hole s) : Plc (lvV v x) host hole s := by
  unfold Plc at P ⊢
  rw [lvV_N, lvV_M]
  exact P
theorem c_putIn (C : CP p c v) (W : PW v) {b o : Int} (b0 : 0 ≤ b) (b1 : b < v.1) (hl : ¬ (v.2.2.1 b 2 = -1 ∧ v.2.2.1 b 4 = -1)) (o0 : 0 ≤ o) (o1 : o < v.1) : ∃ c', F_Pr_putInPlace p (zi b) (zi o) c = some c' ∧ CP p c' (stdV (lvV v b) o (v.2.2.1 b 2) (v.2.2.1 b 3) (v.2.2.1 b 4)) ∧ Fr (SP p) c c' := by
  have p2 := c_bpartX C W b0 b1 (j := 2) (by decide) (by decide)
  have p3 := c_bpartX C W b0 b1 (j := 3) (by decide) (by decide)
  have p4 := c_bpartX C W b0 b1 (j := 4) (by decide) (by decide)
  obtain ⟨c1, e1, C1, F1⟩ := c_detach C W b0 b1
  obtain ⟨c2, c3, e2, e3, C3, F3⟩ := c_std C1 (W.lv b0 b1) (plc_of W b0 b1 hl).lv o0 (by rw [lvV_N]; exact o1)
  refine ⟨c3, ?_, C3, F1.tr F3⟩
  unfold F_Pr_putInPlace
  rw [show (2 : Int32) = zi 2 from zl 2, show (3 : Int32) = zi 3 from zl 3, show (4 : Int32) = zi 4 from zl 4, p2, Option.bind_some, p3, Option.bind_some, p4, Option.bind_some, e1, Option.bind_some, e2, Option.bind_some, e3, Option.bind_some]
theorem c_putInN (C : CP p c v) (W : PW v) {b : Int} (b0 : 0 ≤ b) (b1 : b < v.1) : ∃ c', F_Pr_putInPlace p (zi b) (zi (-1)) c = some c' ∧ CP p c' (lvV v b) ∧ Fr (SP p) c c' := by
  have hN := W.1
  have hM := W.2.1
  have p2 := c_bpartX C W b0 b1 (j := 2) (by decide) (by decide)
  have p3 := c_bpartX C W b0 b1 (j := 3) (by decide) (by decide)
  have p4 := c_bpartX C W b0 b1 (j := 4) (by decide) (by decide)
  have u := W.u b0 b1
  have w := W.w b0 b1
  have t := W.t b0 b1
  obtain ⟨c1, e1, C1, F1⟩ := c_detach C W b0 b1
  have hN1 : 0 ≤ (lvV v b).1 ∧ (lvV v b).1 ≤ 30 := by rw [lvV_N]; exact hN
  have hM1 : 0 ≤ (lvV v b).2.1 ∧ (lvV v b).2.1 ≤ 6 := by rw [lvV_M]; exact hM
  have e2 := c_attachN C1 (b := v.2.2.1 b 2) (h := v.2.2.1 b 3) (o := -1) (Or.inr rfl) (by omega) (by omega) (by omega) hN1
  have e3 := c_attachTopN C1 (s := v.2.2.1 b 4) (b := -1) (Or.inr rfl) (by omega) (by omega) hM1 hN1
  refine ⟨c1, ?_, C1, F1⟩
  unfold F_Pr_putInPlace
  rw [show (2 : Int32) = zi 2 from zl 2, show (3 : Int32) = zi 3 from zl 3, show (4 : Int32) = zi 4 from zl 4, p2, Option.bind_some, p3, Option.bind_some, p4, Option.bind_some, e1, Option.bind_some, e2, Option.bind_some, e3, Option.bind_some]
theorem num4 {n d : Int} (hn : 0 ≤ n ∧ n ≤ 3) (hd : d = -1 ∨ d = 1) : ∃ n' : Int, (0 ≤ n' ∧ n' ≤ 3) ∧ zi (n + d) &&& zi 3 = zi n' ∧ zi (n + d + 4) - zi (n + d + 4) / zi 4 * zi 4 = zi n' := by
  refine ⟨(n + d + 4) % 4, by omega, ?_, ?_⟩
  · rcases (show n = 0 ∨ n = 1 ∨ n = 2 ∨ n = 3 by omega) with rfl | rfl | rfl | rfl <;> rcases hd with rfl | rfl <;> decide +kernel
  · rcases (show n = 0 ∨ n = 1 ∨ n = 2 ∨ n = 3 by omega) with rfl | rfl | rfl | rfl <;> rcases hd with rfl | rfl <;> decide +kernel
/-- what a change leaves: nothing done, or a program on both sides -/
def Chg (p : Nat) (v : PG) (c m : Dl) (fc fm : Option (Int32 × Dl)) : Prop := (fc = some (zi 0, c) ∧ fm = some (zi 0, m)) ∨ ∃ (v' : PG) (c' m' : Dl), fc = some (zi 1, c') ∧ fm = some (zi 1, m') ∧ CP p c' v' ∧ MP m' v' ∧ PW v' ∧ (v'.1 = v.1 ∧ v'.2.1 = v.2.1 ∧ (∀ x, v'.2.2.1 x 0 = v.2.2.1 x 0) ∧ ∀ s j, j ≠ 4 → v'.2.2.2.2 s j = v.2.2.2.2 s j) ∧ Fr (SP p) c c' ∧ Fr SMx m m'
theorem lk_chNum (C : CP p c v) (M : MP m v) (W : PW v) {b d : Int} {x2 : Int32} (b0 : 0 ≤ b) (b1 : b < v.1) (hd : d = -1 ∨ d = 1) : Chg p v c m (F_Pr_changeNumber p (zi b) (zi d) c) (F_M_changes_37 (zi b) x2 (zi d) (zi (v.2.2.1 b 1)) m) := by
  have hN := W.1
  have ck := c_kind C W b0 b1
  have cn := c_num C W b0 b1
  have hk := W.k b0 b1
  have hn := W.n b0 b1
  have f0 := (M.2.2.1 b b0 b1).1
  have set : ∀ n, F_Pr_changeNumber_46 p (zi b) (zi d) (zi n) c = some (zi 1, sA c 32 p (zi (b * 5 + 1)) (zi n)) := fun n => by
    simp (disch := omega) only [F_Pr_changeNumber_46, F_Pr_setNumber, ↓bnd_eq, bd2, bn2, Option.bind_some, Option.bind_none, C.1, ↓reduceIte, inb, zl, zi_add, zi_sub, zi_mul, zi_neg, zi_le_t, zi_le_f, zi_lt_t, zi_lt_f, zi_eq_t, zi_eq_f, if_true, if_false, ite_true, ite_false, true_and, and_true, false_and, and_false, not_true_eq_false, not_false_eq_true, true_or, or_true, false_or, or_false, and_self, ge_iff_le, gt_iff_lt]
  have fin : ∀ n, (-99 ≤ n ∧ n ≤ 99) → (v.2.2.1 b 0 = 1 ∨ v.2.2.1 b 0 = 6 → 0 ≤ n ∧ n ≤ 3) → F_Pr_changeNumber p (zi b) (zi d) c = F_Pr_changeNumber_46 p (zi b) (zi d) (zi n) c → F_M_changes_37 (zi b) x2 (zi d) (zi (v.2.2.1 b 1)) m = some (zi 1, sA m 120 23 (zi b) (zi n)) → Chg p v c m (F_Pr_changeNumber p (zi b) (zi d) c) (F_M_changes_37 (zi b) x2 (zi d) (zi (v.2.2.1 b 1)) m) := by
    intro n n1 n2 e1 e2
    refine Or.inr ⟨vset v b 1 n, _, _, e1.trans (set n), e2, C.vset hN.2 n b0 b1 (by decide) (by decide), M.n hN.2 n b0 b1, W.num b0 b1 n1 n2, ⟨rfl, rfl, fun x => ?_, fun _ _ _ => rfl⟩, Fr.rf.sA ⟨rfl, by omega, by omega⟩, Fr.rf.sA ⟨rfl, by decide⟩⟩
    show (if (0 : Int) = 1 ∧ x = b then n else v.2.2.1 x 0) = _
    rw [if_neg (fun e => absurd e.1 (by decide))]
  by_cases q1 : v.2.2.1 b 0 = 1
  · obtain ⟨n', h1, h2, h3⟩ := num4 (n := v.2.2.1 b 1) ((W.2.2.1 b b0 b1).2.1.2 (Or.inl q1)) hd
    rw [q1] at ck f0
    refine fin n' (by omega) (fun _ => h1) ?_ ?_
    · simp (disch := omega) only [F_Pr_changeNumber, ↓bse ck, ↓bse cn, h2, ↓reduceIte, inb, zl, zi_add, zi_sub, zi_mul, zi_neg, zi_le_t, zi_le_f, zi_lt_t, zi_lt_f, zi_eq_t, zi_eq_f, if_true, if_false, ite_true, ite_false, true_and, and_true, false_and, and_false, not_true_eq_false, not_false_eq_true, true_or, or_true, false_or, or_false, and_self, ge_iff_le, gt_iff_lt]
    · simp (disch := omega) only [F_M_changes_37, f0, h3, ↓bnd_eq, bd2, bn2, Option.bind_some, Option.bind_none, ↓reduceIte, inb, zl, zi_add, zi_sub, zi_mul, zi_neg, zi_le_t, zi_le_f, zi_lt_t, zi_lt_f, zi_eq_t, zi_eq_f, if_true, if_false, ite_true, ite_false, true_and, and_true, false_and, and_false, not_true_eq_false, not_false_eq_true, true_or, or_true, false_or, or_false, and_self, ge_iff_le, gt_iff_lt]
  · by_cases q13 : v.2.2.1 b 0 = 13
    · rw [q13] at ck f0
      by_cases qr : -99 ≤ v.2.2.1 b 1 + d ∧ v.2.2.1 b 1 + d ≤ 99
      · refine fin (v.2.2.1 b 1 + d) qr (fun e => by omega) ?_ ?_
        · simp (disch := omega) only [F_Pr_changeNumber, F_Bs_isNumberOf, ↓bnd_eq, bd2, bn2, Option.bind_some, Option.bind_none, ↓bse ck, ↓bse cn, ↓reduceIte, inb, zl, zi_add, zi_sub, zi_mul, zi_neg, zi_le_t, zi_le_f, zi_lt_t, zi_lt_f, zi_eq_t, zi_eq_f, if_true, if_false, ite_true, ite_false, true_and, and_true, false_and, and_false, not_true_eq_false, not_false_eq_true, true_or, or_true, false_or, or_false, and_self, ge_iff_le, gt_iff_lt]
        · simp (disch := omega) only [F_M_changes_37, F_M_within, f0, ↓bnd_eq, bd2, bn2, Option.bind_some, Option.bind_none, ↓reduceIte, inb, zl, zi_add, zi_sub, zi_mul, zi_neg, zi_le_t, zi_le_f, zi_lt_t, zi_lt_f, zi_eq_t, zi_eq_f, if_true, if_false, ite_true, ite_false, true_and, and_true, false_and, and_false, not_true_eq_false, not_false_eq_true, true_or, or_true, false_or, or_false, and_self, ge_iff_le, gt_iff_lt]
      · left
        by_cases q0 : v.2.2.1 b 1 + d < -99
        · constructor
          · simp (disch := omega) only [F_Pr_changeNumber, F_Bs_isNumberOf, ↓bnd_eq, bd2, bn2, Option.bind_some, Option.bind_none, ↓bse ck, ↓bse cn, ↓reduceIte, inb, zl, zi_add, zi_sub, zi_mul, zi_neg, zi_le_t, zi_le_f, zi_lt_t, zi_lt_f, zi_eq_t, zi_eq_f, if_true, if_false, ite_true, ite_false, true_and, and_true, false_and, and_false, not_true_eq_false, not_false_eq_true, true_or, or_true, false_or, or_false, and_self, ge_iff_le, gt_iff_lt]
          · simp (disch := omega) only [F_M_changes_37, F_M_within, f0, ↓bnd_eq, bd2, bn2, Option.bind_some, Option.bind_none, ↓reduceIte, inb, zl, zi_add, zi_sub, zi_mul, zi_neg, zi_le_t, zi_le_f, zi_lt_t, zi_lt_f, zi_eq_t, zi_eq_f, if_true, if_false, ite_true, ite_false, true_and, and_true, false_and, and_false, not_true_eq_false, not_false_eq_true, true_or, or_true, false_or, or_false, and_self, ge_iff_le, gt_iff_lt]
        · constructor
          · simp (disch := omega) only [F_Pr_changeNumber, F_Bs_isNumberOf, ↓bnd_eq, bd2, bn2, Option.bind_some, Option.bind_none, ↓bse ck, ↓bse cn, ↓reduceIte, inb, zl, zi_add, zi_sub, zi_mul, zi_neg, zi_le_t, zi_le_f, zi_lt_t, zi_lt_f, zi_eq_t, zi_eq_f, if_true, if_false, ite_true, ite_false, true_and, and_true, false_and, and_false, not_true_eq_false, not_false_eq_true, true_or, or_true, false_or, or_false, and_self, ge_iff_le, gt_iff_lt]
          · simp (disch := omega) only [F_M_changes_37, F_M_within, f0, ↓bnd_eq, bd2, bn2, Option.bind_some, Option.bind_none, ↓reduceIte, inb, zl, zi_add, zi_sub, zi_mul, zi_neg, zi_le_t, zi_le_f, zi_lt_t, zi_lt_f, zi_eq_t, zi_eq_f, if_true, if_false, ite_true, ite_false, true_and, and_true, false_and, and_false, not_true_eq_false, not_false_eq_true, true_or, or_true, false_or, or_false, and_self, ge_iff_le, gt_iff_lt]
    · left
      constructor
      · simp (disch := omega) only [F_Pr_changeNumber, ↓bnd_eq, bd2, bn2, Option.bind_some, Option.bind_none, ↓bse ck, ↓bse cn, ↓reduceIte, inb, zl, zi_add, zi_sub, zi_mul, zi_neg, zi_le_t, zi_le_f, zi_lt_t, zi_lt_f, zi_eq_t, zi_eq_f, if_true, if_false, ite_true, ite_false, true_and, and_true, false_and, and_false, not_true_eq_false, not_false_eq_true, true_or, or_true, false_or, or_false, and_self, ge_iff_le, gt_iff_lt]
      · simp (disch := omega) only [F_M_changes_37, f0, ↓bnd_eq, bd2, bn2, Option.bind_some, Option.bind_none, ↓reduceIte, inb, zl, zi_add, zi_sub, zi_mul, zi_neg, zi_le_t, zi_le_f, zi_lt_t, zi_lt_f, zi_eq_t, zi_eq_f, if_true, if_false, ite_true, ite_false, true_and, and_true, false_and, and_false, not_true_eq_false, not_false_eq_true, true_or, or_true, false_or, or_false, and_self, ge_iff_le, gt_iff_lt]
end CH
