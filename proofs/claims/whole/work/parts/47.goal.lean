/-! where a script goes on: both sides alike (wip/whole/pure) -/
/-- what the reference does at a goal -/
def resM (s G : Int) (δ : Dl) : Dl :=
  if G = -1 then sA (sA δ 141 23 (zi s) (zi 0)) 142 23 (zi s) (zi (-1))
  else if 0 ≤ G then sA (sA δ 142 23 (zi s) (zi G)) 145 23 (zi s) (zi 1)
  else sA (sA δ 142 23 (zi s) (zi (-2 - G))) 145 23 (zi s) (zi 0)
/-- a set of blocks closed upwards, of whose shells' turns T holds -/
def Cl (v : PG) (T S : Int → Prop) : Prop := ∀ x, 0 ≤ x → x < v.1 → S x → v.2.2.1 x 2 ≠ -1 → S (v.2.2.1 x 2) ∧ (v.2.2.1 x 3 ≠ 0 → v.2.2.1 (v.2.2.1 x 2) 0 = 10 → T (v.2.2.1 x 2))
/-- a goal: asleep, a block from above, a shell come back to -/
def Go (v : PG) (T S : Int → Prop) (G : Int) : Prop :=
  G = -1 ∨ ((0 ≤ G ∧ G < v.1) ∧ v.2.2.1 G 0 ≤ 12 ∧ v.2.2.1 G 2 ≠ -1 ∧ S (v.2.2.1 G 2) ∧ (v.2.2.1 G 3 ≠ 0 → v.2.2.1 (v.2.2.1 G 2) 0 = 10 → T (v.2.2.1 G 2))) ∨
  (G ≤ -2 ∧ (0 ≤ -2 - G ∧ -2 - G < v.1) ∧ S (-2 - G) ∧ (10 ≤ v.2.2.1 (-2 - G) 0 ∧ v.2.2.1 (-2 - G) 0 ≤ 11) ∧ (v.2.2.1 (-2 - G) 0 = 10 → T (-2 - G)))
section GO
variable {p : Nat} {v : PG} {δc δm : Dl}
theorem m_goesTo {s b f : Int} {δ : Dl} (hs : 0 ≤ s ∧ s < 6) (hf : f = 0 ∨ f = 1) : F_M_goesTo (zi s) (zi b) (zi f) δ = some (sA (sA δ 142 23 (zi s) (zi b)) 145 23 (zi s) (zi f)) := by
  have e : zi f &&& zi 1 = zi f := by rcases hf with rfl | rfl <;> decide
  simp (disch := omega) only [F_M_goesTo, bnd, bd2, bn2, Option.bind_some, Option.bind_none, e, ↓reduceIte, inb, zl, zi_add, zi_sub, zi_mul, zi_neg, zi_le_t, zi_le_f, zi_lt_t, zi_lt_f, zi_eq_t, zi_eq_f, if_true, if_false, ite_true, ite_false, true_and, and_true, false_and, and_false, not_true_eq_false, not_false_eq_true, true_or, or_true, false_or, or_false, and_self, ge_iff_le, gt_iff_lt]
/-- from the way up to the way on -/
theorem lk_goalA (C : CP p δc v) (M : MP δm v) (W : PW v) {T S : Int → Prop} (hS : Cl v T S) {x : Int32} {x2 : Int32} {s : Int} (hs : 0 ≤ s ∧ s < 6) {n : Nat} {b : Int} (b0 : 0 ≤ b) (b1 : b < v.1) (hk : v.2.2.1 b 0 ≤ 12) (hSb : S b)
    (B : ∀ (i : Int) (f1 fo fi : Nat), 0 ≤ i → i + n < 30 → n + 1 < f1 → n < fo → n < fi → ∃ G, Go v T S G ∧ F_Pr_goalBehind_7 p x f1 (zi b) (zi 0) (zi i) δc = some (zi G) ∧ F_M_goesOn_33 (zi s) x2 (F_M_goesOn_2 (zi s) x2 fo) fi (zi b) δm = some (resM s G δm)) :
    ∀ (i : Int) (f1 fo : Nat), 0 ≤ i → i + n < 30 → n + 1 < f1 → n + 1 < fo → ∃ G, Go v T S G ∧ F_Pr_goalBehind_7 p x f1 (zi b) (zi 1) (zi i) δc = some (zi G) ∧ F_M_goesOn_2 (zi s) x2 fo (zi b) δm = some (resM s G δm) := by
  intro i f1 fo i0 i1 h1 h2
  have hN := W.1
  have e0 := C.2.2.2.1 b 0 b0 b1 (by omega) (by omega)
  have g0 := M.2.2.2.1 b 0 b0 b1 (by omega) (by omega)
  have hh := W.h b0 b1 (j := 0) (by decide) (by decide)
  obtain ⟨fo, rfl⟩ : ∃ q, fo = q + 1 := ⟨fo - 1, by omega⟩
  by_cases q : v.2.2.2.1 b 0 = -1
  · obtain ⟨G, hG, c1, c2⟩ := B i f1 fo FU i0 i1 h1 (by omega) (by unfold FU; omega)
    refine ⟨G, hG, ?_, ?_⟩
    · rw [← c1]
      obtain ⟨f1, rfl⟩ : ∃ q, f1 = q + 1 := ⟨f1 - 1, by omega⟩
      rw [q] at e0
      simp (disch := omega) only [F_Pr_goalBehind_7, F_Pr_goalBehind_7_b, bnd, bd2, bn2, Option.bind_some, Option.bind_none, C.1, e0, ↓reduceIte, inb, zl, zi_add, zi_sub, zi_mul, zi_neg, zi_le_t, zi_le_f, zi_lt_t, zi_lt_f, zi_eq_t, zi_eq_f, if_true, if_false, ite_true, ite_false, true_and, and_true, false_and, and_false, not_true_eq_false, not_false_eq_true, true_or, or_true, false_or, or_false, and_self, ge_iff_le, gt_iff_lt]
    · rw [← c2]
      rw [q] at g0
      simp (disch := omega) only [F_M_goesOn_2, F_M_goesOn_2_b, bnd, bd2, bn2, Option.bind_some, Option.bind_none, g0, ↓reduceIte, inb, zl, zi_add, zi_sub, zi_mul, zi_neg, zi_le_t, zi_le_f, zi_lt_t, zi_lt_f, zi_eq_t, zi_eq_f, if_true, if_false, ite_true, ite_false, true_and, and_true, false_and, and_false, not_true_eq_false, not_false_eq_true, true_or, or_true, false_or, or_false, and_self, ge_iff_le, gt_iff_lt]
  · obtain ⟨k1, k2, k3, k4, k5, k6⟩ := hole_kind W b0 b1 (h := 0) (by decide) (by decide) q
    refine ⟨v.2.2.2.1 b 0, Or.inr (Or.inl ⟨k1, k4 (by decide), by omega, by rw [k2]; exact hSb, fun e => absurd k3 e⟩), ?_, ?_⟩
    · obtain ⟨f1, rfl⟩ : ∃ q, f1 = q + 1 := ⟨f1 - 1, by omega⟩
      simp (disch := omega) only [F_Pr_goalBehind_7, F_Pr_goalBehind_7_b, bnd, bd2, bn2, Option.bind_some, Option.bind_none, C.1, e0, ↓reduceIte, inb, zl, zi_add, zi_sub, zi_mul, zi_neg, zi_le_t, zi_le_f, zi_lt_t, zi_lt_f, zi_eq_t, zi_eq_f, if_true, if_false, ite_true, ite_false, true_and, and_true, false_and, and_false, not_true_eq_false, not_false_eq_true, true_or, or_true, false_or, or_false, and_self, ge_iff_le, gt_iff_lt]
    · have hm := m_goesTo (b := v.2.2.2.1 b 0) (δ := δm) hs (Or.inr rfl)
      unfold resM
      rw [if_neg q, if_pos k1.1]
      simp (disch := omega) only [F_M_goesOn_2, F_M_goesOn_2_b, bnd, bd2, bn2, Option.bind_some, Option.bind_none, g0, hm, ↓reduceIte, inb, zl, zi_add, zi_sub, zi_mul, zi_neg, zi_le_t, zi_le_f, zi_lt_t, zi_lt_f, zi_eq_t, zi_eq_f, if_true, if_false, ite_true, ite_false, true_and, and_true, false_and, and_false, not_true_eq_false, not_false_eq_true, true_or, or_true, false_or, or_false, and_self, ge_iff_le, gt_iff_lt]
set_option maxHeartbeats 4000000 in
theorem lk_goal_l (C : CP p δc v) (M : MP δm v) (W : PW v) {T S : Int → Prop} (hS : Cl v T S) {x : Int32} {x2 : Int32} {s : Int} (hs : 0 ≤ s ∧ s < 6) : ∀ (n : Nat) (b : Int), (∀ j, j ≤ n → 0 ≤ anc v b j ∧ anc v b j < v.1) → anc v b (n + 1) = -1 → v.2.2.1 b 0 ≤ 12 → S b →
    ∀ (i : Int) (f1 fo fi : Nat), 0 ≤ i → i + n < 30 → n + 1 < f1 → n < fo → n < fi → ∃ G, Go v T S G ∧ F_Pr_goalBehind_7 p x f1 (zi b) (zi 0) (zi i) δc = some (zi G) ∧ F_M_goesOn_33 (zi s) x2 (F_M_goesOn_2 (zi s) x2 fo) fi (zi b) δm = some (resM s G δm) := by
  intro n
  have hN := W.1
  induction n with
  | zero =>
    intro b hc hr hk hSb i f1 fo fi i0 i1 h1 h2 h3
    have hb : 0 ≤ b ∧ b < v.1 := hc 0 (Nat.le_refl _)
    have hr : v.2.2.1 b 2 = -1 := hr
    have hw3 : v.2.2.1 b 3 = -1 := by
      rcases (W.2.2.1 b hb.1 hb.2).2.2.1 with e | e
      · exact e.2
      · omega
    have e0 := C.2.2.2.1 b 0 hb.1 hb.2 (by omega) (by omega)
    have e2 := C.2.2.1 b 2 hb.1 hb.2 (by omega) (by omega)
    have e3 := C.2.2.1 b 3 hb.1 hb.2 (by omega) (by omega)
    rw [hr] at e2
    rw [hw3] at e3
    obtain ⟨f0, f1', f2, f3, f4⟩ := M.2.2.1 b hb.1 hb.2
    rw [hr] at f2
    rw [hw3] at f3
    obtain ⟨f1, rfl⟩ : ∃ q, f1 = q + 1 + 1 := ⟨f1 - 2, by omega⟩
    obtain ⟨fi, rfl⟩ : ∃ q, fi = q + 1 := ⟨fi - 1, by omega⟩
    refine ⟨-1, Or.inl rfl, ?_, ?_⟩
    · by_cases q : 30 ≤ i + 1
      · simp (disch := omega) only [F_Pr_goalBehind_7, F_Pr_goalBehind_7_b, F_Pr_goalBehind_51, F_Pr_goalBehind_81, F_Pr_goalBehind_122, bnd, bd2, bn2, Option.bind_some, Option.bind_none, C.1, e0, e2, e3, ↓reduceIte, inb, zl, zi_add, zi_sub, zi_mul, zi_neg, zi_le_t, zi_le_f, zi_lt_t, zi_lt_f, zi_eq_t, zi_eq_f, if_true, if_false, ite_true, ite_false, true_and, and_true, false_and, and_false, not_true_eq_false, not_false_eq_true, true_or, or_true, false_or, or_false, and_self, ge_iff_le, gt_iff_lt]
      · simp (disch := omega) only [F_Pr_goalBehind_7, F_Pr_goalBehind_7_b, F_Pr_goalBehind_51, F_Pr_goalBehind_81, F_Pr_goalBehind_122, bnd, bd2, bn2, Option.bind_some, Option.bind_none, C.1, e0, e2, e3, ↓reduceIte, inb, zl, zi_add, zi_sub, zi_mul, zi_neg, zi_le_t, zi_le_f, zi_lt_t, zi_lt_f, zi_eq_t, zi_eq_f, if_true, if_false, ite_true, ite_false, true_and, and_true, false_and, and_false, not_true_eq_false, not_false_eq_true, true_or, or_true, false_or, or_false, and_self, ge_iff_le, gt_iff_lt]
    · unfold resM
      rw [if_pos rfl]
      simp (disch := omega) only [F_M_goesOn_33, F_M_goesOn_33_b, F_M_goesOn_62, bnd, bd2, bn2, Option.bind_some, Option.bind_none, f2, f3, ↓reduceIte, inb, zl, zi_add, zi_sub, zi_mul, zi_neg, zi_le_t, zi_le_f, zi_lt_t, zi_lt_f, zi_eq_t, zi_eq_f, if_true, if_false, ite_true, ite_false, true_and, and_true, false_and, and_false, not_true_eq_false, not_false_eq_true, true_or, or_true, false_or, or_false, and_self, ge_iff_le, gt_iff_lt]
  | succ n ih =>
    intro b hc hr hk hSb i f1 fo fi i0 i1 h1 h2 h3
    have hb : 0 ≤ b ∧ b < v.1 := hc 0 (Nat.zero_le _)
    have hu : 0 ≤ v.2.2.1 b 2 ∧ v.2.2.1 b 2 < v.1 := hc 1 (by omega)
    have e0 := C.2.2.2.1 b 0 hb.1 hb.2 (by omega) (by omega)
    have e2 := C.2.2.1 b 2 hb.1 hb.2 (by omega) (by omega)
    have e3 := C.2.2.1 b 3 hb.1 hb.2 (by omega) (by omega)
    have ek := C.2.2.1 (v.2.2.1 b 2) 0 hu.1 hu.2 (by omega) (by omega)
    obtain ⟨f0, f1', f2, f3, f4⟩ := M.2.2.1 b hb.1 hb.2
    obtain ⟨k0, -⟩ := M.2.2.1 (v.2.2.1 b 2) hu.1 hu.2
    have hku := W.k hu.1 hu.2
    obtain ⟨f1, rfl⟩ : ∃ q, f1 = q + 1 := ⟨f1 - 1, by omega⟩
    obtain ⟨fi, rfl⟩ : ∃ q, fi = q + 1 := ⟨fi - 1, by omega⟩
    have cl := hS b hb.1 hb.2 hSb (by omega)
    rcases (W.2.2.1 b hb.1 hb.2).2.2.1 with e | ⟨-, w1, w2, w3, w4, w5, w6⟩
    · omega
    have hw : v.2.2.1 b 3 ≤ 2 := by omega
    have hchain : ∀ j, j ≤ n → 0 ≤ anc v (v.2.2.1 b 2) j ∧ anc v (v.2.2.1 b 2) j < v.1 := fun j hj => by rw [← anc_s]; exact hc (j + 1) (by omega)
    have hroot : anc v (v.2.2.1 b 2) (n + 1) = -1 := by rw [← anc_s]; exact hr
    have hku12 : v.2.2.1 (v.2.2.1 b 2) 0 ≤ 12 := by unfold HH at w4; omega
    by_cases q0 : v.2.2.1 b 3 = 0
    · obtain ⟨G, hG, c1, c2⟩ := ih (v.2.2.1 b 2) hchain hroot hku12 cl.1 (i + 1) f1 fo fi (by omega) (by omega) (by omega) (by omega) (by omega)
      refine ⟨G, hG, ?_, ?_⟩
      · rw [← c1]
        rw [q0] at e3
        simp (disch := omega) only [F_Pr_goalBehind_7, F_Pr_goalBehind_7_b, F_Pr_goalBehind_51, F_Pr_goalBehind_81, F_Pr_goalBehind_122, bnd, bd2, bn2, Option.bind_some, Option.bind_none, C.1, e0, e2, e3, ↓reduceIte, inb, zl, zi_add, zi_sub, zi_mul, zi_neg, zi_le_t, zi_le_f, zi_lt_t, zi_lt_f, zi_eq_t, zi_eq_f, if_true, if_false, ite_true, ite_false, true_and, and_true, false_and, and_false, not_true_eq_false, not_false_eq_true, true_or, or_true, false_or, or_false, and_self, ge_iff_le, gt_iff_lt]
      · rw [← c2]
        rw [q0] at f3
        simp (disch := omega) only [F_M_goesOn_33, F_M_goesOn_33_b, bnd, bd2, bn2, Option.bind_some, Option.bind_none, f2, f3, ↓reduceIte, inb, zl, zi_add, zi_sub, zi_mul, zi_neg, zi_le_t, zi_le_f, zi_lt_t, zi_lt_f, zi_eq_t, zi_eq_f, if_true, if_false, ite_true, ite_false, true_and, and_true, false_and, and_false, not_true_eq_false, not_false_eq_true, true_or, or_true, false_or, or_false, and_self, ge_iff_le, gt_iff_lt]
    · by_cases q12 : v.2.2.1 (v.2.2.1 b 2) 0 = 12
      · obtain ⟨G, hG, c1, c2⟩ := lk_goalA C M W hS hs (x := x) (x2 := x2) hu.1 hu.2 hku12 cl.1 (ih (v.2.2.1 b 2) hchain hroot hku12 cl.1) (i + 1) f1 fo (by omega) (by omega) (by omega) (by omega)
        refine ⟨G, hG, ?_, ?_⟩
        · rw [← c1]
          rw [q12] at ek
          simp (disch := omega) only [F_Pr_goalBehind_7, F_Pr_goalBehind_7_b, F_Pr_goalBehind_51, F_Pr_goalBehind_81, F_Pr_goalBehind_122, bnd, bd2, bn2, Option.bind_some, Option.bind_none, C.1, e0, e2, e3, ek, ↓reduceIte, inb, zl, zi_add, zi_sub, zi_mul, zi_neg, zi_le_t, zi_le_f, zi_lt_t, zi_lt_f, zi_eq_t, zi_eq_f, if_true, if_false, ite_true, ite_false, true_and, and_true, false_and, and_false, not_true_eq_false, not_false_eq_true, true_or, or_true, false_or, or_false, and_self, ge_iff_le, gt_iff_lt]
        · rw [← c2]
          rw [q12] at k0
          simp (disch := omega) only [F_M_goesOn_33, F_M_goesOn_33_b, F_M_goesOn_62, bnd, bd2, bn2, Option.bind_some, Option.bind_none, f2, f3, k0, ↓reduceIte, inb, zl, zi_add, zi_sub, zi_mul, zi_neg, zi_le_t, zi_le_f, zi_lt_t, zi_lt_f, zi_eq_t, zi_eq_f, if_true, if_false, ite_true, ite_false, true_and, and_true, false_and, and_false, not_true_eq_false, not_false_eq_true, true_or, or_true, false_or, or_false, and_self, ge_iff_le, gt_iff_lt]
      · have h10 : 10 ≤ v.2.2.1 (v.2.2.1 b 2) 0 := by unfold HH at w4; omega
        refine ⟨-2 - v.2.2.1 b 2, Or.inr (Or.inr ⟨by omega, by omega, by rw [show -2 - (-2 - v.2.2.1 b 2) = v.2.2.1 b 2 by omega]; exact cl.1, by rw [show -2 - (-2 - v.2.2.1 b 2) = v.2.2.1 b 2 by omega]; omega, fun e => by rw [show -2 - (-2 - v.2.2.1 b 2) = v.2.2.1 b 2 by omega] at e ⊢; exact cl.2 q0 e⟩), ?_, ?_⟩
        · simp (disch := omega) only [F_Pr_goalBehind_7, F_Pr_goalBehind_7_b, F_Pr_goalBehind_51, F_Pr_goalBehind_81, F_Pr_goalBehind_122, bnd, bd2, bn2, Option.bind_some, Option.bind_none, C.1, e0, e2, e3, ek, ↓reduceIte, inb, zl, zi_add, zi_sub, zi_mul, zi_neg, zi_le_t, zi_le_f, zi_lt_t, zi_lt_f, zi_eq_t, zi_eq_f, if_true, if_false, ite_true, ite_false, true_and, and_true, false_and, and_false, not_true_eq_false, not_false_eq_true, true_or, or_true, false_or, or_false, and_self, ge_iff_le, gt_iff_lt]
        · have hm := m_goesTo (b := v.2.2.1 b 2) (δ := δm) hs (Or.inl rfl)
          unfold resM
          rw [if_neg (by omega), if_neg (by omega), show -2 - (-2 - v.2.2.1 b 2) = v.2.2.1 b 2 by omega]
          simp (disch := omega) only [F_M_goesOn_33, F_M_goesOn_33_b, F_M_goesOn_62, bnd, bd2, bn2, Option.bind_some, Option.bind_none, f2, f3, k0, hm, ↓reduceIte, inb, zl, zi_add, zi_sub, zi_mul, zi_neg, zi_le_t, zi_le_f, zi_lt_t, zi_lt_f, zi_eq_t, zi_eq_f, if_true, if_false, ite_true, ite_false, true_and, and_true, false_and, and_false, not_true_eq_false, not_false_eq_true, true_or, or_true, false_or, or_false, and_self, ge_iff_le, gt_iff_lt]
/-- goalBehind and goesOn -/
theorem lk_goal (C : CP p δc v) (M : MP δm v) (W : PW v) {T S : Int → Prop} (hS : Cl v T S) {s b : Int} (hs : 0 ≤ s ∧ s < 6) (b0 : 0 ≤ b) (b1 : b < v.1) (hk : v.2.2.1 b 0 ≤ 12) (hSb : S b) : ∃ G, Go v T S G ∧ F_Pr_goalBehind p (zi b) δc = some (zi G) ∧ F_M_goesOn (zi s) (zi b) δm = some (resM s G δm) := by
  obtain ⟨n, n1, n2, n3⟩ := root_ex W b0 b1
  obtain ⟨G, hG, c1, c2⟩ := lk_goalA C M W hS hs (x := zi b) (x2 := zi b) b0 b1 hk hSb (lk_goal_l C M W hS hs n b n2 n3 hk hSb) 0 FU FU (by omega) (by omega) (by unfold FU; omega) (by unfold FU; omega)
  refine ⟨G, hG, ?_, c2⟩
  rw [← c1]
  have z1 : (1 : Int32) = zi 1 := zl 1
  have z0 : (0 : Int32) = zi 0 := zl 0
  unfold F_Pr_goalBehind
  rw [z1, z0]
end GO
