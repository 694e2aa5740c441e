/-! a step of a script: both sides alike (wip/whole/pure) -/
section SH
variable {a p s : Nat} {v : PG} {g : SG} {δc δm : Dl} {k : Int}
theorem Cl.mono {T T' S : Int → Prop} (h : Cl v T S) (ht : ∀ x, T x → T' x) : Cl v T' S := fun x x0 x1 hx hu => ⟨(h x x0 x1 hx hu).1, fun e e' => ht _ ((h x x0 x1 hx hu).2 e e')⟩
theorem Go.mono {T T' S : Int → Prop} {G : Int} (h : Go v T S G) (ht : ∀ x, T x → T' x) : Go v T' S G := by
  rcases h with e | ⟨e1, e2, e3, e4, e5⟩ | ⟨e1, e2, e3, e4, e5⟩
  · exact Or.inl e
  · exact Or.inr (Or.inl ⟨e1, e2, e3, e4, fun a b => ht _ (e5 a b)⟩)
  · exact Or.inr (Or.inr ⟨e1, e2, e3, e4, fun a => ht _ (e5 a)⟩)
theorem TE.set {b t : Int} (ht : 0 ≤ t ∧ t ≤ 99) {x : Int} (h : TE a δc δm x) : TE a (sA δc 50 a (zi b) (zi t)) (sA δm 144 23 (zi b) (zi t)) x := by
  obtain ⟨t', h', e1, e2⟩ := h
  by_cases q : zi x = zi b
  · exact ⟨t, ht, by rw [rAi, if_pos q], by rw [rAi, if_pos q]⟩
  · exact ⟨t', h', by rw [rAi, if_neg q]; exact e1, by rw [rAi, if_neg q]; exact e2⟩
theorem TE.at {b t : Int} (ht : 0 ≤ t ∧ t ≤ 99) : TE a (sA δc 50 a (zi b) (zi t)) (sA δm 144 23 (zi b) (zi t)) b :=
  ⟨t, ht, by rw [rAi, if_pos rfl], by rw [rAi, if_pos rfl]⟩
/-- turns may have moved -/
def TU (a : Nat) (b : Int) (δc δm δc' δm' : Dl) : Prop := (δc' = δc ∧ δm' = δm) ∨ ∃ t : Int, (0 ≤ t ∧ t ≤ 99) ∧ δc' = sA δc 50 a (zi b) (zi t) ∧ δm' = sA δm 144 23 (zi b) (zi t)
theorem sA_sA {δ : Dl} {f a : Nat} {i x y : Int32} : sA (sA δ f a i x) f a i y = sA δ f a i y := by
  have e : (sA (sA δ f a i x) f a i y).2.1 = (sA δ f a i y).2.1 := by
    funext g' b' j'
    rw [q2A, q2A, q2A]
    by_cases h1 : g' = f ∧ b' = a ∧ j' = i
    · rw [if_pos h1, if_pos h1]
    · rw [if_neg h1, if_neg h1, if_neg h1]
  exact Prod.ext rfl (Prod.ext e rfl)
theorem TU.te {b x : Int} {δc' δm' : Dl} (h : TU a b δc δm δc' δm') (ht : TE a δc δm x) : TE a δc' δm' x := by
  rcases h with ⟨rfl, rfl⟩ | ⟨t, h, rfl, rfl⟩
  · exact ht
  · exact ht.set h
/-- REPEAT, its turns told -/
theorem lk_rep (C : CP p δc v) (M : MP δm v) (W : PW v) (hp : wsr 40 a = p) {S : Int → Prop} (hS : Cl v (TE a δc δm) S) {sc b tt : Int} (hsc : 0 ≤ sc ∧ sc < 6) (b0 : 0 ≤ b) (b1 : b < v.1) (hk : v.2.2.1 b 0 = 10) (hSb : S b) (ht : 0 ≤ tt ∧ tt ≤ 99) (e1 : δc.2.1 50 a (zi b) = zi tt) (e2 : δm.2.1 144 23 (zi b) = zi tt) {f fa : Int32} :
    ∃ G δc' δm', Go v (TE a δc' δm') S G ∧ TU a b δc δm δc' δm' ∧ F_Ru_goalOfShell_63 a (zi b) f fa (zi 10) δc = some (zi G, δc') ∧ F_M_shells_46 (zi sc) (zi b) f δm = some (resM sc G δm') := by
  have hN := W.1
  have h2 := hole_none W b0 b1 (h := 2) (by decide) (by decide) (by unfold HH; omega)
  have ch2 := c_inHole C W b0 b1 (j := 2) (by decide) (by decide)
  rw [h2] at ch2
  obtain ⟨f0, -⟩ := M.2.2.1 b b0 b1
  have g1 := M.2.2.2.1 b 1 b0 b1 (by decide) (by decide)
  rw [hk] at f0
  by_cases q : tt = 0
  · subst q
    obtain ⟨G, hG, c1, c2⟩ := lk_goal C M W hS hsc b0 b1 (by omega) hSb
    refine ⟨G, δc, δm, hG, Or.inl ⟨rfl, rfl⟩, ?_, ?_⟩
    · simp only [F_Ru_goalOfShell_63, F_Ru_goalOfShell_77, F_Ru_goalOfShell_94, F_Ru_goalOfShell_109, F_Ru_goalOfShell_142, hp, zl, zi_add, zi_sub, zi_mul, zi_neg]
      simp (disch := omega) only [↓bnd_eq, bd2, bn2, Option.bind_some, Option.bind_none, e1, ↓bse ch2, ↓bse c1, ↓reduceIte, inb, zl, zi_add, zi_sub, zi_mul, zi_neg, zi_le_t, zi_le_f, zi_lt_t, zi_lt_f, zi_eq_t, zi_eq_f, if_true, if_false, ite_true, ite_false, true_and, and_true, false_and, and_false, not_true_eq_false, not_false_eq_true, true_or, or_true, false_or, or_false, and_self, ge_iff_le, gt_iff_lt]
    · have i1 : sA δm 144 23 (zi b) (zi 0) = δm := by rw [← e2, sA_id]
      simp (disch := omega) only [F_M_shells_46, F_M_shells_60, F_M_shells_79, F_M_intoOr, F_M_intoOr_19, F_M_intoOr_63, ↓bnd_eq, bd2, bn2, Option.bind_some, Option.bind_none, e2, Int.sub_zero, i1, c2, ↓reduceIte, inb, zl, zi_add, zi_sub, zi_mul, zi_neg, zi_le_t, zi_le_f, zi_lt_t, zi_lt_f, zi_eq_t, zi_eq_f, if_true, if_false, ite_true, ite_false, true_and, and_true, false_and, and_false, not_true_eq_false, not_false_eq_true, true_or, or_true, false_or, or_false, and_self, ge_iff_le, gt_iff_lt]
  · have ch1 := c_inHole (δ := sA δc 50 a (zi b) (zi (tt - 1))) (show CP p (sA δc 50 a (zi b) (zi (tt - 1))) v from C) W b0 b1 (j := 1) (by decide) (by decide)
    have hu := W.h b0 b1 (j := 1) (by decide) (by decide)
    by_cases qh : v.2.2.2.1 b 1 = -1
    · refine ⟨-2 - b, sA δc 50 a (zi b) (zi (tt - 1)), sA δm 144 23 (zi b) (zi (tt - 1)), Or.inr (Or.inr ⟨by omega, by omega, by rw [show -2 - (-2 - b) = b by omega]; exact hSb, by rw [show -2 - (-2 - b) = b by omega]; omega, fun _ => by rw [show -2 - (-2 - b) = b by omega]; exact TE.at (by omega)⟩), Or.inr ⟨tt - 1, by omega, rfl, rfl⟩, ?_, ?_⟩
      · simp only [F_Ru_goalOfShell_63, F_Ru_goalOfShell_77, F_Ru_goalOfShell_94, F_Ru_goalOfShell_109, F_Ru_goalOfShell_142, hp, zl, zi_add, zi_sub, zi_mul, zi_neg]
        rw [qh] at ch1
        simp (disch := omega) only [↓bnd_eq, bd2, bn2, Option.bind_some, Option.bind_none, e1, ↓bse ch1, ↓reduceIte, inb, zl, zi_add, zi_sub, zi_mul, zi_neg, zi_le_t, zi_le_f, zi_lt_t, zi_lt_f, zi_eq_t, zi_eq_f, if_true, if_false, ite_true, ite_false, true_and, and_true, false_and, and_false, not_true_eq_false, not_false_eq_true, true_or, or_true, false_or, or_false, and_self, ge_iff_le, gt_iff_lt]
      · unfold resM
        rw [if_neg (by omega), if_neg (by omega), show -2 - (-2 - b) = b by omega]
        have hm := m_goesTo (b := b) (δ := sA δm 144 23 (zi b) (zi (tt - 1))) hsc (Or.inl rfl)
        have g1' : (sA δm 144 23 (zi b) (zi (tt - 1))).2.1 121 23 (zi (5 * b + 1)) = zi (-1) := by rw [rA (by decide), g1, qh]
        have f0' : (sA δm 144 23 (zi b) (zi (tt - 1))).2.1 119 23 (zi b) = zi 10 := by rw [rA (by decide), f0]
        simp (disch := omega) only [F_M_shells_46, F_M_shells_60, F_M_shells_79, F_M_intoOr, F_M_intoOr_19, F_M_intoOr_63, ↓bnd_eq, bd2, bn2, Option.bind_some, Option.bind_none, e2, g1', f0', hm, ↓reduceIte, inb, zl, zi_add, zi_sub, zi_mul, zi_neg, zi_le_t, zi_le_f, zi_lt_t, zi_lt_f, zi_eq_t, zi_eq_f, if_true, if_false, ite_true, ite_false, true_and, and_true, false_and, and_false, not_true_eq_false, not_false_eq_true, true_or, or_true, false_or, or_false, and_self, ge_iff_le, gt_iff_lt]
    · obtain ⟨k1, k2, k3, k4, k5, k6⟩ := hole_kind W b0 b1 (h := 1) (by decide) (by decide) qh
      refine ⟨v.2.2.2.1 b 1, sA δc 50 a (zi b) (zi (tt - 1)), sA δm 144 23 (zi b) (zi (tt - 1)), Or.inr (Or.inl ⟨k1, k4 (by decide), by omega, by rw [k2]; exact hSb, fun _ _ => by rw [k2]; exact TE.at (by omega)⟩), Or.inr ⟨tt - 1, by omega, rfl, rfl⟩, ?_, ?_⟩
      · simp only [F_Ru_goalOfShell_63, F_Ru_goalOfShell_77, F_Ru_goalOfShell_94, F_Ru_goalOfShell_109, F_Ru_goalOfShell_142, hp, zl, zi_add, zi_sub, zi_mul, zi_neg]
        simp (disch := omega) only [↓bnd_eq, bd2, bn2, Option.bind_some, Option.bind_none, e1, ↓bse ch1, ↓reduceIte, inb, zl, zi_add, zi_sub, zi_mul, zi_neg, zi_le_t, zi_le_f, zi_lt_t, zi_lt_f, zi_eq_t, zi_eq_f, if_true, if_false, ite_true, ite_false, true_and, and_true, false_and, and_false, not_true_eq_false, not_false_eq_true, true_or, or_true, false_or, or_false, and_self, ge_iff_le, gt_iff_lt]
      · unfold resM
        rw [if_neg qh, if_pos k1.1]
        have hm := m_goesTo (b := v.2.2.2.1 b 1) (δ := sA δm 144 23 (zi b) (zi (tt - 1))) hsc (Or.inr rfl)
        have g1' : (sA δm 144 23 (zi b) (zi (tt - 1))).2.1 121 23 (zi (5 * b + 1)) = zi (v.2.2.2.1 b 1) := by rw [rA (by decide), g1]
        simp (disch := omega) only [F_M_shells_46, F_M_shells_60, F_M_shells_79, F_M_intoOr, F_M_intoOr_19, F_M_intoOr_63, ↓bnd_eq, bd2, bn2, Option.bind_some, Option.bind_none, e2, g1', hm, ↓reduceIte, inb, zl, zi_add, zi_sub, zi_mul, zi_neg, zi_le_t, zi_le_f, zi_lt_t, zi_lt_f, zi_eq_t, zi_eq_f, if_true, if_false, ite_true, ite_false, true_and, and_true, false_and, and_false, not_true_eq_false, not_false_eq_true, true_or, or_true, false_or, or_false, and_self, ge_iff_le, gt_iff_lt]
/-- a shell -/
theorem lk_shell (C : CP p δc v) (M : MP δm v) (W : PW v) (hp : wsr 40 a = p) {S : Int → Prop} (hS : Cl v (TE a δc δm) S) {sc b fa : Int} (hsc : 0 ≤ sc ∧ sc < 6) (b0 : 0 ≤ b) (b1 : b < v.1) (hk : 10 ≤ v.2.2.1 b 0 ∧ v.2.2.1 b 0 ≤ 12) (hSb : S b) (hfa : fa = 0 ∨ fa = 1) (hTE : fa = 0 → v.2.2.1 b 0 = 10 → TE a δc δm b) (em : δm.2.1 145 23 (zi sc) = zi fa) (f : Int32) :
    ∃ G δc' δm', Go v (TE a δc' δm') S G ∧ TU a b δc δm δc' δm' ∧ F_Ru_goalOfShell a (zi b) f (zi fa) δc = some (zi G, δc') ∧ F_M_shells (zi sc) (zi b) f δm = some (resM sc G δm') := by
  have hN := W.1
  have ck := c_kind C W b0 b1
  obtain ⟨f0, -⟩ := M.2.2.1 b b0 b1
  have ch := fun j j0 j5 => c_inHole C W b0 b1 (j := j) j0 j5
  have gh := fun j j0 j5 => M.2.2.2.1 b j b0 b1 j0 j5
  -- a block in a hole, from above
  have into : ∀ h : Int, 1 ≤ h → h ≤ 2 → v.2.2.1 b 0 ≠ 10 → v.2.2.2.1 b h ≠ -1 → Go v (TE a δc δm) S (v.2.2.2.1 b h) ∧ resM sc (v.2.2.2.1 b h) δm = sA (sA δm 142 23 (zi sc) (zi (v.2.2.2.1 b h))) 145 23 (zi sc) (zi 1) := by
    intro h h1 h2 h10 hne
    obtain ⟨k1, k2, k3, k4, k5, k6⟩ := hole_kind W b0 b1 (h := h) (by omega) (by omega) hne
    refine ⟨Or.inr (Or.inl ⟨k1, k4 (by omega), by omega, by rw [k2]; exact hSb, fun _ e => by rw [k2] at e; exact absurd e h10⟩), ?_⟩
    unfold resM
    rw [if_neg hne, if_pos k1.1]
  rcases (show v.2.2.1 b 0 = 10 ∨ v.2.2.1 b 0 = 11 ∨ v.2.2.1 b 0 = 12 by omega) with q | q | q
  · -- REPEAT
    have ck0 := ck.trans (by rw [q])
    rw [q] at f0
    rcases hfa with rfl | rfl
    · obtain ⟨tt, ht, e1, e2⟩ := hTE rfl q
      obtain ⟨G, δc', δm', hG, hU, c1, c2⟩ := lk_rep C M W hp hS hsc b0 b1 q hSb ht e1 e2 (f := f) (fa := zi 0)
      refine ⟨G, δc', δm', hG, hU, ?_, ?_⟩
      · rw [← c1]
        simp only [F_Ru_goalOfShell, hp, zl, zi_add, zi_sub, zi_mul, zi_neg]
        by_cases qf : f = zi 0
        · simp (disch := omega) only [↓bnd_eq, bd2, bn2, Option.bind_some, Option.bind_none, ↓bse ck0, qf, F_Ru_goalOfShell_34, ↓reduceIte, inb, zl, zi_add, zi_sub, zi_mul, zi_neg, zi_le_t, zi_le_f, zi_lt_t, zi_lt_f, zi_eq_t, zi_eq_f, if_true, if_false, ite_true, ite_false, true_and, and_true, false_and, and_false, not_true_eq_false, not_false_eq_true, true_or, or_true, false_or, or_false, and_self, ge_iff_le, gt_iff_lt]
        · simp (disch := omega) only [↓bnd_eq, bd2, bn2, Option.bind_some, Option.bind_none, ↓bse ck0, qf, F_Ru_goalOfShell_34, ↓reduceIte, inb, zl, zi_add, zi_sub, zi_mul, zi_neg, zi_le_t, zi_le_f, zi_lt_t, zi_lt_f, zi_eq_t, zi_eq_f, if_true, if_false, ite_true, ite_false, true_and, and_true, false_and, and_false, not_true_eq_false, not_false_eq_true, true_or, or_true, false_or, or_false, and_self, ge_iff_le, gt_iff_lt]
      · rw [← c2]
        simp (disch := omega) only [F_M_shells, ↓bnd_eq, bd2, bn2, Option.bind_some, Option.bind_none, f0, em, ↓reduceIte, inb, zl, zi_add, zi_sub, zi_mul, zi_neg, zi_le_t, zi_le_f, zi_lt_t, zi_lt_f, zi_eq_t, zi_eq_f, if_true, if_false, ite_true, ite_false, true_and, and_true, false_and, and_false, not_true_eq_false, not_false_eq_true, true_or, or_true, false_or, or_false, and_self, ge_iff_le, gt_iff_lt]
    · have hc : ∃ tt : Int, (0 ≤ tt ∧ tt ≤ 99) ∧ F_Ma_max (zi 0) (F_Ma_min f (zi 99)) = zi tt ∧ F_M_shells (zi sc) (zi b) f δm = F_M_shells_46 (zi sc) (zi b) f (sA δm 144 23 (zi b) (zi tt)) := by
        obtain ⟨j, rfl, hj⟩ := zi_ex f
        by_cases q1 : j ≤ 0
        · refine ⟨0, by omega, ?_, ?_⟩
          · simp (disch := omega) only [F_Ma_max, F_Ma_min, ↓reduceIte, inb, zl, zi_add, zi_sub, zi_mul, zi_neg, zi_le_t, zi_le_f, zi_lt_t, zi_lt_f, zi_eq_t, zi_eq_f, if_true, if_false, ite_true, ite_false, true_and, and_true, false_and, and_false, not_true_eq_false, not_false_eq_true, true_or, or_true, false_or, or_false, and_self, ge_iff_le, gt_iff_lt]
          · by_cases q0 : j = 0
            · subst q0
              simp (disch := omega) only [F_M_shells, F_M_shells_45, ↓bnd_eq, bd2, bn2, Option.bind_some, Option.bind_none, f0, em, ↓reduceIte, inb, zl, zi_add, zi_sub, zi_mul, zi_neg, zi_le_t, zi_le_f, zi_lt_t, zi_lt_f, zi_eq_t, zi_eq_f, if_true, if_false, ite_true, ite_false, true_and, and_true, false_and, and_false, not_true_eq_false, not_false_eq_true, true_or, or_true, false_or, or_false, and_self, ge_iff_le, gt_iff_lt]
            · simp (disch := omega) only [F_M_shells, F_M_shells_45, ↓bnd_eq, bd2, bn2, Option.bind_some, Option.bind_none, f0, em, ↓reduceIte, inb, zl, zi_add, zi_sub, zi_mul, zi_neg, zi_le_t, zi_le_f, zi_lt_t, zi_lt_f, zi_eq_t, zi_eq_f, if_true, if_false, ite_true, ite_false, true_and, and_true, false_and, and_false, not_true_eq_false, not_false_eq_true, true_or, or_true, false_or, or_false, and_self, ge_iff_le, gt_iff_lt]
        · by_cases q2 : j ≤ 99
          · refine ⟨j, by omega, ?_, ?_⟩
            · simp (disch := omega) only [F_Ma_max, F_Ma_min, ↓reduceIte, inb, zl, zi_add, zi_sub, zi_mul, zi_neg, zi_le_t, zi_le_f, zi_lt_t, zi_lt_f, zi_eq_t, zi_eq_f, if_true, if_false, ite_true, ite_false, true_and, and_true, false_and, and_false, not_true_eq_false, not_false_eq_true, true_or, or_true, false_or, or_false, and_self, ge_iff_le, gt_iff_lt]
            · simp (disch := omega) only [F_M_shells, F_M_shells_45, ↓bnd_eq, bd2, bn2, Option.bind_some, Option.bind_none, f0, em, ↓reduceIte, inb, zl, zi_add, zi_sub, zi_mul, zi_neg, zi_le_t, zi_le_f, zi_lt_t, zi_lt_f, zi_eq_t, zi_eq_f, if_true, if_false, ite_true, ite_false, true_and, and_true, false_and, and_false, not_true_eq_false, not_false_eq_true, true_or, or_true, false_or, or_false, and_self, ge_iff_le, gt_iff_lt]
          · refine ⟨99, by omega, ?_, ?_⟩
            · simp (disch := omega) only [F_Ma_max, F_Ma_min, ↓reduceIte, inb, zl, zi_add, zi_sub, zi_mul, zi_neg, zi_le_t, zi_le_f, zi_lt_t, zi_lt_f, zi_eq_t, zi_eq_f, if_true, if_false, ite_true, ite_false, true_and, and_true, false_and, and_false, not_true_eq_false, not_false_eq_true, true_or, or_true, false_or, or_false, and_self, ge_iff_le, gt_iff_lt]
            · simp (disch := omega) only [F_M_shells, F_M_shells_45, ↓bnd_eq, bd2, bn2, Option.bind_some, Option.bind_none, f0, em, ↓reduceIte, inb, zl, zi_add, zi_sub, zi_mul, zi_neg, zi_le_t, zi_le_f, zi_lt_t, zi_lt_f, zi_eq_t, zi_eq_f, if_true, if_false, ite_true, ite_false, true_and, and_true, false_and, and_false, not_true_eq_false, not_false_eq_true, true_or, or_true, false_or, or_false, and_self, ge_iff_le, gt_iff_lt]
      obtain ⟨tt, ht, hc1, hc2⟩ := hc
      have hS' : Cl v (TE a (sA δc 50 a (zi b) (zi tt)) (sA δm 144 23 (zi b) (zi tt))) S := hS.mono (fun x h => h.set ht)
      obtain ⟨G, δc', δm', hG, hU, c1, c2⟩ := lk_rep (δc := sA δc 50 a (zi b) (zi tt)) (δm := sA δm 144 23 (zi b) (zi tt)) C M W hp hS' hsc b0 b1 q hSb ht (by rw [rAi, if_pos rfl]) (by rw [rAi, if_pos rfl]) (f := f) (fa := zi 1)
      refine ⟨G, δc', δm', hG, ?_, ?_, hc2.trans c2⟩
      · rcases hU with ⟨rfl, rfl⟩ | ⟨t, h, rfl, rfl⟩
        · exact Or.inr ⟨tt, ht, rfl, rfl⟩
        · exact Or.inr ⟨t, h, sA_sA, sA_sA⟩
      · rw [← c1]
        simp only [F_Ru_goalOfShell, hp, zl, zi_add, zi_sub, zi_mul, zi_neg]
        by_cases qf : f = zi 0
        · rw [qf] at hc1
          simp (disch := omega) only [↓bnd_eq, bd2, bn2, Option.bind_some, Option.bind_none, ↓bse ck0, qf, F_Ru_goalOfShell_34, hc1, ↓reduceIte, inb, zl, zi_add, zi_sub, zi_mul, zi_neg, zi_le_t, zi_le_f, zi_lt_t, zi_lt_f, zi_eq_t, zi_eq_f, if_true, if_false, ite_true, ite_false, true_and, and_true, false_and, and_false, not_true_eq_false, not_false_eq_true, true_or, or_true, false_or, or_false, and_self, ge_iff_le, gt_iff_lt]
        · simp (disch := omega) only [↓bnd_eq, bd2, bn2, Option.bind_some, Option.bind_none, ↓bse ck0, qf, F_Ru_goalOfShell_34, hc1, ↓reduceIte, inb, zl, zi_add, zi_sub, zi_mul, zi_neg, zi_le_t, zi_le_f, zi_lt_t, zi_lt_f, zi_eq_t, zi_eq_f, if_true, if_false, ite_true, ite_false, true_and, and_true, false_and, and_false, not_true_eq_false, not_false_eq_true, true_or, or_true, false_or, or_false, and_self, ge_iff_le, gt_iff_lt]
  · -- WHILE
    have ck0 := ck.trans (by rw [q])
    rw [q] at f0
    by_cases qf : f = zi 0
    · subst qf
      have h2 := hole_none W b0 b1 (h := 2) (by decide) (by decide) (by unfold HH; omega)
      have ch2 := ch 2 (by decide) (by decide)
      rw [h2] at ch2
      obtain ⟨G, hG, c1, c2⟩ := lk_goal C M W hS hsc b0 b1 (by omega) hSb
      refine ⟨G, δc, δm, hG, Or.inl ⟨rfl, rfl⟩, ?_, ?_⟩
      · simp only [F_Ru_goalOfShell, F_Ru_goalOfShell_34, F_Ru_goalOfShell_94, F_Ru_goalOfShell_109, F_Ru_goalOfShell_142, hp, zl, zi_add, zi_sub, zi_mul, zi_neg]
        simp (disch := omega) only [↓bnd_eq, bd2, bn2, Option.bind_some, Option.bind_none, ↓bse ck0, ↓bse ch2, ↓bse c1, ↓reduceIte, inb, zl, zi_add, zi_sub, zi_mul, zi_neg, zi_le_t, zi_le_f, zi_lt_t, zi_lt_f, zi_eq_t, zi_eq_f, if_true, if_false, ite_true, ite_false, true_and, and_true, false_and, and_false, not_true_eq_false, not_false_eq_true, true_or, or_true, false_or, or_false, and_self, ge_iff_le, gt_iff_lt]
      · simp (disch := omega) only [F_M_shells, F_M_shells_116, F_M_intoOr, F_M_intoOr_19, F_M_intoOr_63, ↓bnd_eq, bd2, bn2, Option.bind_some, Option.bind_none, f0, c2, ↓reduceIte, inb, zl, zi_add, zi_sub, zi_mul, zi_neg, zi_le_t, zi_le_f, zi_lt_t, zi_lt_f, zi_eq_t, zi_eq_f, if_true, if_false, ite_true, ite_false, true_and, and_true, false_and, and_false, not_true_eq_false, not_false_eq_true, true_or, or_true, false_or, or_false, and_self, ge_iff_le, gt_iff_lt]
    · have ch1 := ch 1 (by decide) (by decide)
      have gh1 := gh 1 (by decide) (by decide)
      have hu := W.h b0 b1 (j := 1) (by decide) (by decide)
      by_cases qh : v.2.2.2.1 b 1 = -1
      · refine ⟨-2 - b, δc, δm, Or.inr (Or.inr ⟨by omega, by omega, by rw [show -2 - (-2 - b) = b by omega]; exact hSb, by rw [show -2 - (-2 - b) = b by omega]; omega, fun e => by rw [show -2 - (-2 - b) = b by omega] at e; omega⟩), Or.inl ⟨rfl, rfl⟩, ?_, ?_⟩
        · simp only [F_Ru_goalOfShell, F_Ru_goalOfShell_34, F_Ru_goalOfShell_94, F_Ru_goalOfShell_109, F_Ru_goalOfShell_142, hp, zl, zi_add, zi_sub, zi_mul, zi_neg]
          rw [qh] at ch1
          simp (disch := omega) only [↓bnd_eq, bd2, bn2, Option.bind_some, Option.bind_none, ↓bse ck0, ↓bse ch1, qf, ↓reduceIte, inb, zl, zi_add, zi_sub, zi_mul, zi_neg, zi_le_t, zi_le_f, zi_lt_t, zi_lt_f, zi_eq_t, zi_eq_f, if_true, if_false, ite_true, ite_false, true_and, and_true, false_and, and_false, not_true_eq_false, not_false_eq_true, true_or, or_true, false_or, or_false, and_self, ge_iff_le, gt_iff_lt]
        · unfold resM
          rw [if_neg (by omega), if_neg (by omega), show -2 - (-2 - b) = b by omega]
          have hm := m_goesTo (b := b) (δ := δm) hsc (Or.inl rfl)
          rw [qh] at gh1
          simp (disch := omega) only [F_M_shells, F_M_shells_116, F_M_intoOr, F_M_intoOr_19, F_M_intoOr_63, ↓bnd_eq, bd2, bn2, Option.bind_some, Option.bind_none, f0, gh1, hm, qf, ↓reduceIte, inb, zl, zi_add, zi_sub, zi_mul, zi_neg, zi_le_t, zi_le_f, zi_lt_t, zi_lt_f, zi_eq_t, zi_eq_f, if_true, if_false, ite_true, ite_false, true_and, and_true, false_and, and_false, not_true_eq_false, not_false_eq_true, true_or, or_true, false_or, or_false, and_self, ge_iff_le, gt_iff_lt]
      · obtain ⟨hG, hr⟩ := into 1 (by decide) (by decide) (by omega) qh
        refine ⟨v.2.2.2.1 b 1, δc, δm, hG, Or.inl ⟨rfl, rfl⟩, ?_, ?_⟩
        · simp only [F_Ru_goalOfShell, F_Ru_goalOfShell_34, F_Ru_goalOfShell_94, F_Ru_goalOfShell_109, F_Ru_goalOfShell_142, hp, zl, zi_add, zi_sub, zi_mul, zi_neg]
          simp (disch := omega) only [↓bnd_eq, bd2, bn2, Option.bind_some, Option.bind_none, ↓bse ck0, ↓bse ch1, qf, ↓reduceIte, inb, zl, zi_add, zi_sub, zi_mul, zi_neg, zi_le_t, zi_le_f, zi_lt_t, zi_lt_f, zi_eq_t, zi_eq_f, if_true, if_false, ite_true, ite_false, true_and, and_true, false_and, and_false, not_true_eq_false, not_false_eq_true, true_or, or_true, false_or, or_false, and_self, ge_iff_le, gt_iff_lt]
        · rw [hr]
          have hm := m_goesTo (b := v.2.2.2.1 b 1) (δ := δm) hsc (Or.inr rfl)
          simp (disch := omega) only [F_M_shells, F_M_shells_116, F_M_intoOr, F_M_intoOr_19, F_M_intoOr_63, ↓bnd_eq, bd2, bn2, Option.bind_some, Option.bind_none, f0, gh1, hm, qf, ↓reduceIte, inb, zl, zi_add, zi_sub, zi_mul, zi_neg, zi_le_t, zi_le_f, zi_lt_t, zi_lt_f, zi_eq_t, zi_eq_f, if_true, if_false, ite_true, ite_false, true_and, and_true, false_and, and_false, not_true_eq_false, not_false_eq_true, true_or, or_true, false_or, or_false, and_self, ge_iff_le, gt_iff_lt]
  · -- IF
    have ck0 := ck.trans (by rw [q])
    rw [q] at f0
    have gen : ∀ h : Int, (h = 1 ∨ h = 2) → (h = 2 ↔ f = zi 0) → ∃ G δc' δm', Go v (TE a δc' δm') S G ∧ TU a b δc δm δc' δm' ∧ F_Ru_goalOfShell a (zi b) f (zi fa) δc = some (zi G, δc') ∧ F_M_shells (zi sc) (zi b) f δm = some (resM sc G δm') := by
      intro h hh hf
      have chh := ch h (by omega) (by omega)
      have ghh := gh h (by omega) (by omega)
      have hu := W.h b0 b1 (j := h) (by omega) (by omega)
      by_cases qh : v.2.2.2.1 b h = -1
      · obtain ⟨G, hG, c1, c2⟩ := lk_goal C M W hS hsc b0 b1 (by omega) hSb
        rw [qh] at chh ghh
        refine ⟨G, δc, δm, hG, Or.inl ⟨rfl, rfl⟩, ?_, ?_⟩
        · simp only [F_Ru_goalOfShell, F_Ru_goalOfShell_34, F_Ru_goalOfShell_94, F_Ru_goalOfShell_109, F_Ru_goalOfShell_142, hp, zl, zi_add, zi_sub, zi_mul, zi_neg]
          rcases hh with rfl | rfl
          · have qf : ¬ f = zi 0 := fun e => absurd (hf.mpr e) (by decide)
            simp (disch := omega) only [↓bnd_eq, bd2, bn2, Option.bind_some, Option.bind_none, ↓bse ck0, ↓bse chh, ↓bse c1, qf, ↓reduceIte, inb, zl, zi_add, zi_sub, zi_mul, zi_neg, zi_le_t, zi_le_f, zi_lt_t, zi_lt_f, zi_eq_t, zi_eq_f, if_true, if_false, ite_true, ite_false, true_and, and_true, false_and, and_false, not_true_eq_false, not_false_eq_true, true_or, or_true, false_or, or_false, and_self, ge_iff_le, gt_iff_lt]
          · have qf : f = zi 0 := hf.mp rfl
            subst qf
            simp (disch := omega) only [↓bnd_eq, bd2, bn2, Option.bind_some, Option.bind_none, ↓bse ck0, ↓bse chh, ↓bse c1, ↓reduceIte, inb, zl, zi_add, zi_sub, zi_mul, zi_neg, zi_le_t, zi_le_f, zi_lt_t, zi_lt_f, zi_eq_t, zi_eq_f, if_true, if_false, ite_true, ite_false, true_and, and_true, false_and, and_false, not_true_eq_false, not_false_eq_true, true_or, or_true, false_or, or_false, and_self, ge_iff_le, gt_iff_lt]
        · rcases hh with rfl | rfl
          · have qf : ¬ f = zi 0 := fun e => absurd (hf.mpr e) (by decide)
            simp (disch := omega) only [F_M_shells, F_M_shells_136, F_M_intoOr, F_M_intoOr_19, F_M_intoOr_63, ↓bnd_eq, bd2, bn2, Option.bind_some, Option.bind_none, f0, ghh, c2, qf, ↓reduceIte, inb, zl, zi_add, zi_sub, zi_mul, zi_neg, zi_le_t, zi_le_f, zi_lt_t, zi_lt_f, zi_eq_t, zi_eq_f, if_true, if_false, ite_true, ite_false, true_and, and_true, false_and, and_false, not_true_eq_false, not_false_eq_true, true_or, or_true, false_or, or_false, and_self, ge_iff_le, gt_iff_lt]
          · have qf : f = zi 0 := hf.mp rfl
            subst qf
            simp (disch := omega) only [F_M_shells, F_M_shells_136, F_M_intoOr, F_M_intoOr_19, F_M_intoOr_63, ↓bnd_eq, bd2, bn2, Option.bind_some, Option.bind_none, f0, ghh, c2, ↓reduceIte, inb, zl, zi_add, zi_sub, zi_mul, zi_neg, zi_le_t, zi_le_f, zi_lt_t, zi_lt_f, zi_eq_t, zi_eq_f, if_true, if_false, ite_true, ite_false, true_and, and_true, false_and, and_false, not_true_eq_false, not_false_eq_true, true_or, or_true, false_or, or_false, and_self, ge_iff_le, gt_iff_lt]
      · obtain ⟨hG, hr⟩ := into h (by omega) (by omega) (by omega) qh
        refine ⟨v.2.2.2.1 b h, δc, δm, hG, Or.inl ⟨rfl, rfl⟩, ?_, ?_⟩
        · simp only [F_Ru_goalOfShell, F_Ru_goalOfShell_34, F_Ru_goalOfShell_94, F_Ru_goalOfShell_109, F_Ru_goalOfShell_142, hp, zl, zi_add, zi_sub, zi_mul, zi_neg]
          rcases hh with rfl | rfl
          · have qf : ¬ f = zi 0 := fun e => absurd (hf.mpr e) (by decide)
            simp (disch := omega) only [↓bnd_eq, bd2, bn2, Option.bind_some, Option.bind_none, ↓bse ck0, ↓bse chh, qf, ↓reduceIte, inb, zl, zi_add, zi_sub, zi_mul, zi_neg, zi_le_t, zi_le_f, zi_lt_t, zi_lt_f, zi_eq_t, zi_eq_f, if_true, if_false, ite_true, ite_false, true_and, and_true, false_and, and_false, not_true_eq_false, not_false_eq_true, true_or, or_true, false_or, or_false, and_self, ge_iff_le, gt_iff_lt]
          · have qf : f = zi 0 := hf.mp rfl
            subst qf
            simp (disch := omega) only [↓bnd_eq, bd2, bn2, Option.bind_some, Option.bind_none, ↓bse ck0, ↓bse chh, ↓reduceIte, inb, zl, zi_add, zi_sub, zi_mul, zi_neg, zi_le_t, zi_le_f, zi_lt_t, zi_lt_f, zi_eq_t, zi_eq_f, if_true, if_false, ite_true, ite_false, true_and, and_true, false_and, and_false, not_true_eq_false, not_false_eq_true, true_or, or_true, false_or, or_false, and_self, ge_iff_le, gt_iff_lt]
        · rw [hr]
          have hm := m_goesTo (b := v.2.2.2.1 b h) (δ := δm) hsc (Or.inr rfl)
          rcases hh with rfl | rfl
          · have qf : ¬ f = zi 0 := fun e => absurd (hf.mpr e) (by decide)
            simp (disch := omega) only [F_M_shells, F_M_shells_136, F_M_intoOr, F_M_intoOr_19, F_M_intoOr_63, ↓bnd_eq, bd2, bn2, Option.bind_some, Option.bind_none, f0, ghh, hm, qf, ↓reduceIte, inb, zl, zi_add, zi_sub, zi_mul, zi_neg, zi_le_t, zi_le_f, zi_lt_t, zi_lt_f, zi_eq_t, zi_eq_f, if_true, if_false, ite_true, ite_false, true_and, and_true, false_and, and_false, not_true_eq_false, not_false_eq_true, true_or, or_true, false_or, or_false, and_self, ge_iff_le, gt_iff_lt]
          · have qf : f = zi 0 := hf.mp rfl
            subst qf
            simp (disch := omega) only [F_M_shells, F_M_shells_136, F_M_intoOr, F_M_intoOr_19, F_M_intoOr_63, ↓bnd_eq, bd2, bn2, Option.bind_some, Option.bind_none, f0, ghh, hm, ↓reduceIte, inb, zl, zi_add, zi_sub, zi_mul, zi_neg, zi_le_t, zi_le_f, zi_lt_t, zi_lt_f, zi_eq_t, zi_eq_f, if_true, if_false, ite_true, ite_false, true_and, and_true, false_and, and_false, not_true_eq_false, not_false_eq_true, true_or, or_true, false_or, or_false, and_self, ge_iff_le, gt_iff_lt]
    by_cases qf : f = zi 0
    · exact gen 2 (Or.inr rfl) ⟨fun _ => qf, fun _ => rfl⟩
    · exact gen 1 (Or.inl rfl) ⟨fun e => absurd e (by decide), fun e => absurd e qf⟩
end SH
