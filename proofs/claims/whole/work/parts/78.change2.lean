/-! a change of an order's place, on both sides (wip/whole/pure) -/
section CH2
variable {p : Nat} {c m : Dl} {v : PG}
/-- putting a loose order where an order stood keeps the program whole -/
theorem PW.std {v v3 : PG} {rk : Int → Nat} {b o : Int} (W3 : PW v3) (R : RKd v rk) (hN : v3.1 = v.1) (h2 : ∀ x, v3.2.2.1 x 2 = -1 ∨ v3.2.2.1 x 2 = v.2.2.1 x 2) (o0 : 0 ≤ o) (o1 : o < v3.1) (hu : v3.2.2.1 o 2 = -1) (ht : v3.2.2.1 o 4 = -1) (hk : v3.2.2.1 o 0 ≤ 12) {host hole s : Int} (ro : rk o < rk b)
    (P : (host = -1 ∧ (0 ≤ s ∧ s < v3.2.1) ∧ v3.2.2.2.2 s 4 = -1) ∨ ((0 ≤ host ∧ host < v3.1) ∧ (0 ≤ hole ∧ hole ≤ 2) ∧ v3.2.2.2.1 host hole = -1 ∧ HH (v3.2.2.1 host 0) hole ∧ rk b < rk host)) : PW (stdV v3 o host hole s) := by
  unfold stdV
  rcases P with ⟨e, ⟨s0, s1⟩, e4⟩ | ⟨⟨g0, g1⟩, ⟨j0, j2⟩, eh, hh, rh⟩
  · rw [if_pos e]
    exact W3.top s0 s1 o0 o1 e4 hu ht hk
  · rw [if_neg (by omega)]
    refine W3.att g0 g1 j0 (by omega) o0 o1 eh hu ht hh (fun _ => hk) (fun e => by omega) (fun x => rk b < rk x) rh (fun x x0 x1 hA hx => ?_) (fun e => by omega)
    have h2x : v3.2.2.1 x 2 = v.2.2.1 x 2 := (h2 x).resolve_left hx
    rw [h2x] at hx ⊢
    have := R x x0 (by rw [← hN]; exact x1) hx
    omega
theorem std_B {v : PG} {o host hole s x : Int} : (stdV v o host hole s).2.2.1 x 0 = v.2.2.1 x 0 := by
  unfold stdV
  split
  · show (if (0 : Int) = 4 ∧ x = o then s else v.2.2.1 x 0) = _
    rw [if_neg (fun e => absurd e.1 (by decide))]
  · show (if (0 : Int) = 3 ∧ x = o then hole else if (0 : Int) = 2 ∧ x = o then host else v.2.2.1 x 0) = _
    rw [if_neg (fun e => absurd e.1 (by decide)), if_neg (fun e => absurd e.1 (by decide))]
theorem std_N {v : PG} {o host hole s : Int} : (stdV v o host hole s).1 = v.1 ∧ (stdV v o host hole s).2.1 = v.2.1 := by
  unfold stdV
  split <;> exact ⟨rfl, rfl⟩
theorem std_S {v : PG} {o host hole s x j : Int} (hj : j ≠ 4) : (stdV v o host hole s).2.2.2.2 x j = v.2.2.2.2 x j := by
  unfold stdV
  split
  · show (if j = 4 ∧ x = s then o else v.2.2.2.2 x j) = _
    rw [if_neg (fun e => hj e.1)]
  · rfl
theorem lv_S4 {v : PG} {b x j : Int} (hj : j ≠ 4) : (lvV v b).2.2.2.2 x j = v.2.2.2.2 x j := by rw [lvV_S, if_neg (fun e => hj e.2.1)]
theorem att_B {v : PG} {b h o x : Int} : (attV v b h o).2.2.1 x 0 = v.2.2.1 x 0 := by
  show (if (0 : Int) = 3 ∧ x = o then h else if (0 : Int) = 2 ∧ x = o then b else v.2.2.1 x 0) = _
  rw [if_neg (fun e => absurd e.1 (by decide)), if_neg (fun e => absurd e.1 (by decide))]
/-- where an order stands, when it has been taken out (and more) -/
theorem plc_lv (W : PW v) {rk : Int → Nat} (R : RKd v rk) {b : Int} (b0 : 0 ≤ b) (b1 : b < v.1) (hk : v.2.2.1 b 0 ≤ 12) (hl : ¬ (v.2.2.1 b 2 = -1 ∧ v.2.2.1 b 4 = -1)) : (v.2.2.1 b 2 = -1 ∧ (0 ≤ v.2.2.1 b 4 ∧ v.2.2.1 b 4 < v.2.1) ∧ (lvV v b).2.2.2.2 (v.2.2.1 b 4) 4 = -1) ∨ ((0 ≤ v.2.2.1 b 2 ∧ v.2.2.1 b 2 < v.1) ∧ (0 ≤ v.2.2.1 b 3 ∧ v.2.2.1 b 3 ≤ 2) ∧ (lvV v b).2.2.2.1 (v.2.2.1 b 2) (v.2.2.1 b 3) = -1 ∧ HH (v.2.2.1 (v.2.2.1 b 2) 0) (v.2.2.1 b 3) ∧ rk b < rk (v.2.2.1 b 2)) := by
  have h := W.2.2.1 b b0 b1
  rcases h.2.2.1 with ⟨h2, h3⟩ | ⟨h2, h3, -, h4, h5, h6, h7⟩
  · left
    have h4 : ¬ v.2.2.1 b 4 = -1 := fun e => hl ⟨h2, e⟩
    rcases h.2.2.2.1 with e | ⟨e, -⟩
    · exact absurd e h4
    · exact ⟨h2, e, lv_S0 rfl h4⟩
  · right
    have hj : v.2.2.1 b 3 ≤ 2 := by
      by_cases q : v.2.2.1 b 3 ≤ 2
      · exact q
      · have := h7 (by omega); omega
    exact ⟨h2, ⟨h3.1, hj⟩, lv_H0 rfl (by omega) rfl, h5, R b b0 b1 (by omega)⟩
theorem lk_out (C : CP p c v) (M : MP m v) (W : PW v) {b : Int} (b0 : 0 ≤ b) (b1 : b < v.1) : Chg p v c m (F_Pr_change p (zi b) (zi 0) c) (F_M_outs (zi b) m) := by
  have hN := W.1
  have hM := W.2.1
  obtain ⟨rk, R⟩ := W.2.2.2.2
  have ck := c_kind C W b0 b1
  have hk := W.k b0 b1
  have cl := c_isLoose C W b0 b1
  have ml := m_isIn M W b0 b1
  obtain ⟨f0, -, f2, f3, f4⟩ := M.2.2.1 b b0 b1
  have ci := c_inHole C W b0 b1 (j := 0) (by decide) (by decide)
  have fh := M.2.2.2.1 b 0 b0 b1 (by decide) (by decide)
  have hh := W.h b0 b1 (j := 0) (by decide) (by decide)
  have u := W.u b0 b1
  have w := W.w b0 b1
  have t := W.t b0 b1
  by_cases qk : v.2.2.1 b 0 ≤ 12
  · have co : F_Bs_isOrder (zi (v.2.2.1 b 0)) = zi 1 := by simp (disch := omega) only [F_Bs_isOrder, ↓reduceIte, inb, zl, zi_add, zi_sub, zi_mul, zi_neg, zi_le_t, zi_le_f, zi_lt_t, zi_lt_f, zi_eq_t, zi_eq_f, if_true, if_false, ite_true, ite_false, true_and, and_true, false_and, and_false, not_true_eq_false, not_false_eq_true, true_or, or_true, false_or, or_false, and_self, ge_iff_le, gt_iff_lt]
    have mo : F_M_isOrder (zi (v.2.2.1 b 0)) = zi 1 := by simp (disch := omega) only [F_M_isOrder, ↓reduceIte, inb, zl, zi_add, zi_sub, zi_mul, zi_neg, zi_le_t, zi_le_f, zi_lt_t, zi_lt_f, zi_eq_t, zi_eq_f, if_true, if_false, ite_true, ite_false, true_and, and_true, false_and, and_false, not_true_eq_false, not_false_eq_true, true_or, or_true, false_or, or_false, and_self, ge_iff_le, gt_iff_lt]
    by_cases ql : v.2.2.1 b 2 = -1 ∧ v.2.2.1 b 4 = -1
    · rw [if_pos ql, zl1] at cl
      rw [if_pos ql] at ml
      left
      constructor
      · simp (disch := omega) only [F_Pr_change, ↓bnd_eq, bd2, bn2, Option.bind_some, Option.bind_none, ↓bse ck, co, ↓bse cl, ↓reduceIte, inb, zl, zi_add, zi_sub, zi_mul, zi_neg, zi_le_t, zi_le_f, zi_lt_t, zi_lt_f, zi_eq_t, zi_eq_f, if_true, if_false, ite_true, ite_false, true_and, and_true, false_and, and_false, not_true_eq_false, not_false_eq_true, true_or, or_true, false_or, or_false, and_self, ge_iff_le, gt_iff_lt]
      · simp (disch := omega) only [F_M_outs, ↓bnd_eq, bd2, bn2, Option.bind_some, Option.bind_none, f0, mo, ↓bse ml, ↓reduceIte, inb, zl, zi_add, zi_sub, zi_mul, zi_neg, zi_le_t, zi_le_f, zi_lt_t, zi_lt_f, zi_eq_t, zi_eq_f, if_true, if_false, ite_true, ite_false, true_and, and_true, false_and, and_false, not_true_eq_false, not_false_eq_true, true_or, or_true, false_or, or_false, and_self, ge_iff_le, gt_iff_lt]
    · rw [if_neg ql, zl0] at cl
      rw [if_neg ql] at ml
      right
      obtain ⟨m1, e1, M1, F1⟩ := m_leavesX M W b0 b1
      by_cases qn : v.2.2.2.1 b 0 = -1
      · rw [qn] at ci fh
        obtain ⟨c1, d1, C1, G1⟩ := c_putInN C W b0 b1
        have dn := c_detachN C (b := -1) rfl
        refine ⟨lvV v b, c1, m1, ?_, ?_, C1, M1, W.lv b0 b1, ⟨lvV_N, lvV_M, fun x => lv_B0, fun s j hj => lv_S4 hj⟩, G1, F1⟩
        · simp (disch := omega) only [F_Pr_change, ↓bnd_eq, bd2, bn2, Option.bind_some, Option.bind_none, ↓bse ck, co, ↓bse cl, ↓bse ci, ↓bse dn, ↓bse d1, ↓reduceIte, inb, zl, zi_add, zi_sub, zi_mul, zi_neg, zi_le_t, zi_le_f, zi_lt_t, zi_lt_f, zi_eq_t, zi_eq_f, if_true, if_false, ite_true, ite_false, true_and, and_true, false_and, and_false, not_true_eq_false, not_false_eq_true, true_or, or_true, false_or, or_false, and_self, ge_iff_le, gt_iff_lt]
        · simp (disch := omega) only [F_M_outs, ↓bnd_eq, bd2, bn2, Option.bind_some, Option.bind_none, f0, mo, ↓bse ml, fh, ↓bse e1, ↓reduceIte, inb, zl, zi_add, zi_sub, zi_mul, zi_neg, zi_le_t, zi_le_f, zi_lt_t, zi_lt_f, zi_eq_t, zi_eq_f, if_true, if_false, ite_true, ite_false, true_and, and_true, false_and, and_false, not_true_eq_false, not_false_eq_true, true_or, or_true, false_or, or_false, and_self, ge_iff_le, gt_iff_lt]
      · have n0 : 0 ≤ v.2.2.2.1 b 0 := by omega
        obtain ⟨-, n2, n3⟩ := ((W.2.2.1 b b0 b1).2.2.2.2 0 (by decide) (by decide)).resolve_left qn
        have nw := (W.2.2.1 _ n0 hh.2)
        have hne : v.2.2.2.1 b 0 ≠ b := fun e => by
          have := R b b0 b1 (by rw [← e, n2]; omega)
          rw [← e, n2] at this
          rw [e] at this
          omega
        have nk : v.2.2.1 (v.2.2.2.1 b 0) 0 ≤ 12 := by
          rcases nw.2.2.1 with ⟨e, -⟩ | ⟨-, -, -, -, -, h6, -⟩
          · omega
          · exact h6 (by omega)
        have rn : rk (v.2.2.2.1 b 0) < rk b := by
          have := R _ n0 hh.2 (by omega)
          rw [n2] at this
          exact this
        generalize v.2.2.2.1 b 0 = o at *
        -- the class
        obtain ⟨c1, d1, C1, G1⟩ := c_detach C W n0 hh.2
        have W1 := W.lv n0 hh.2
        have eb : ∀ j, (lvV v o).2.2.1 b j = v.2.2.1 b j := fun j => lv_Bo (fun e => hne e.symm)
        obtain ⟨c2, d2, C2, G2⟩ := c_putIn C1 W1 (b := b) (o := o) b0 (by rw [lvV_N]; exact b1) (by rw [eb, eb]; exact ql) n0 (by rw [lvV_N]; exact hh.2)
        rw [eb, eb, eb, lv_comm hne] at C2
        -- the reference
        have W2 := W.lv b0 b1
        obtain ⟨m2, e2, M2, F2⟩ := m_leavesX M1 W2 n0 (by rw [lvV_N]; exact hh.2)
        have W3 := W2.lv n0 (by rw [lvV_N]; exact hh.2)
        obtain ⟨m3, e3, M3, F3⟩ := m_std M2 W3 (o := o) (plc_of W b0 b1 ql).lv.lv n0 (by rw [lvV_N, lvV_N]; exact hh.2)
        have W4 : PW (stdV (lvV (lvV v b) o) o (v.2.2.1 b 2) (v.2.2.1 b 3) (v.2.2.1 b 4)) := by
          refine PW.std (v := v) (b := b) W3 R (by rw [lvV_N, lvV_N]) (fun x => ?_) n0 (by rw [lvV_N, lvV_N]; exact hh.2) lv_Bs.1 lv_Bs.2.2 (by rw [lv_B0, lv_B0]; exact nk) rn ?_
          · rcases lv_B2 (v := lvV v b) (b := o) (x := x) with e | e
            · exact Or.inl e
            · rw [e]; exact lv_B2
          · rcases plc_lv W R b0 b1 qk ql with ⟨a1, a2, a3⟩ | ⟨a1, a2, a3, a4, a5⟩
            · left
              rw [lvV_M, lvV_M]
              exact ⟨a1, a2, lv_Sm a3⟩
            · right
              rw [lvV_N, lvV_N, lv_B0, lv_B0]
              exact ⟨a1, a2, lv_Hm a3, a4, a5⟩
        refine ⟨_, c2, m3, ?_, ?_, C2, M3, W4, ⟨by rw [std_N.1, lvV_N, lvV_N], by rw [std_N.2, lvV_M, lvV_M], fun x => by rw [std_B, lv_B0, lv_B0], fun s j hj => by rw [std_S hj, lv_S4 hj, lv_S4 hj]⟩, G1.tr G2, (F1.tr F2).tr F3⟩
        · simp (disch := omega) only [F_Pr_change, ↓bnd_eq, bd2, bn2, Option.bind_some, Option.bind_none, ↓bse ck, co, ↓bse cl, ↓bse ci, ↓bse d1, ↓bse d2, ↓reduceIte, inb, zl, zi_add, zi_sub, zi_mul, zi_neg, zi_le_t, zi_le_f, zi_lt_t, zi_lt_f, zi_eq_t, zi_eq_f, if_true, if_false, ite_true, ite_false, true_and, and_true, false_and, and_false, not_true_eq_false, not_false_eq_true, true_or, or_true, false_or, or_false, and_self, ge_iff_le, gt_iff_lt]
        · simp (disch := omega) only [F_M_outs, ↓bnd_eq, bd2, bn2, Option.bind_some, Option.bind_none, f0, mo, ↓bse ml, fh, ↓bse e1, ↓bse e2, f2, f3, f4, ↓bse e3, ↓reduceIte, inb, zl, zi_add, zi_sub, zi_mul, zi_neg, zi_le_t, zi_le_f, zi_lt_t, zi_lt_f, zi_eq_t, zi_eq_f, if_true, if_false, ite_true, ite_false, true_and, and_true, false_and, and_false, not_true_eq_false, not_false_eq_true, true_or, or_true, false_or, or_false, and_self, ge_iff_le, gt_iff_lt]
  · have co : F_Bs_isOrder (zi (v.2.2.1 b 0)) = zi 0 := by simp (disch := omega) only [F_Bs_isOrder, ↓reduceIte, inb, zl, zi_add, zi_sub, zi_mul, zi_neg, zi_le_t, zi_le_f, zi_lt_t, zi_lt_f, zi_eq_t, zi_eq_f, if_true, if_false, ite_true, ite_false, true_and, and_true, false_and, and_false, not_true_eq_false, not_false_eq_true, true_or, or_true, false_or, or_false, and_self, ge_iff_le, gt_iff_lt]
    have mo : F_M_isOrder (zi (v.2.2.1 b 0)) = zi 0 := by simp (disch := omega) only [F_M_isOrder, ↓reduceIte, inb, zl, zi_add, zi_sub, zi_mul, zi_neg, zi_le_t, zi_le_f, zi_lt_t, zi_lt_f, zi_eq_t, zi_eq_f, if_true, if_false, ite_true, ite_false, true_and, and_true, false_and, and_false, not_true_eq_false, not_false_eq_true, true_or, or_true, false_or, or_false, and_self, ge_iff_le, gt_iff_lt]
    left
    constructor
    · simp (disch := omega) only [F_Pr_change, ↓bnd_eq, bd2, bn2, Option.bind_some, Option.bind_none, ↓bse ck, co, ↓reduceIte, inb, zl, zi_add, zi_sub, zi_mul, zi_neg, zi_le_t, zi_le_f, zi_lt_t, zi_lt_f, zi_eq_t, zi_eq_f, if_true, if_false, ite_true, ite_false, true_and, and_true, false_and, and_false, not_true_eq_false, not_false_eq_true, true_or, or_true, false_or, or_false, and_self, ge_iff_le, gt_iff_lt]
    · simp (disch := omega) only [F_M_outs, ↓bnd_eq, bd2, bn2, Option.bind_some, Option.bind_none, f0, mo, ↓reduceIte, inb, zl, zi_add, zi_sub, zi_mul, zi_neg, zi_le_t, zi_le_f, zi_lt_t, zi_lt_f, zi_eq_t, zi_eq_f, if_true, if_false, ite_true, ite_false, true_and, and_true, false_and, and_false, not_true_eq_false, not_false_eq_true, true_or, or_true, false_or, or_false, and_self, ge_iff_le, gt_iff_lt]
end CH2
