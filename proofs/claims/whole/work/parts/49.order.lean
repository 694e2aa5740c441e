/-! an order of no shell: both sides alike (wip/whole/pure) -/
theorem sA_comm {δ : Dl} {f a g b : Nat} {i x j y : Int32} (h : f ≠ g) : sA (sA δ f a i x) g b j y = sA (sA δ g b j y) f a i x := by
  have e : (sA (sA δ f a i x) g b j y).2.1 = (sA (sA δ g b j y) f a i x).2.1 := by
    funext g' b' j'
    rw [q2A, q2A, q2A, q2A]
    by_cases h1 : g' = g ∧ b' = b ∧ j' = j
    · rw [if_pos h1, if_neg (fun e => h (e.1.symm.trans h1.1)), if_pos h1]
    · rw [if_neg h1, if_neg h1]
  exact Prod.ext rfl (Prod.ext e rfl)
theorem add_z (x : Int32) : x + zi 0 = x := by rw [← zl 0]; exact Int32.add_zero x
theorem sub_z (x : Int32) : x - zi 0 = x := by rw [← zl 0]; exact Int32.sub_zero x
section FRS
variable {a p s : Nat} {v : PG} {g : SG} {δc δm δc' δm' : Dl} {k : Int} {S S' : Nat → Nat → Prop}
theorem RM.fr (h : RM k g δm) (F : Fr S' δm δm') (n : ¬ S' 131 23 ∧ ¬ S' 110 23 ∧ ¬ S' 111 23 ∧ ¬ S' 113 23) : RM k g δm' := by
  obtain ⟨h0, h1, h2, h3, h4⟩ := h
  exact ⟨h0, by rw [(F.2 131 23 n.1).1]; exact h1, by rw [(F.2 110 23 n.2.1).2]; exact h2, by rw [(F.2 111 23 n.2.2.1).2]; exact h3, by rw [(F.2 113 23 n.2.2.2).2]; exact h4⟩
theorem RT.fr (h : RT a δc δm) (F : Fr S δc δc') (F' : Fr S' δm δm') (n : ¬ S 51 a ∧ ¬ S 52 a) (n' : ¬ S' 146 23 ∧ ¬ S' 147 23) : RT a δc' δm' := by
  obtain ⟨x, y, hx, hy, e1, e2, e3⟩ := h
  refine ⟨x, y, hx, hy, by rw [(F.2 51 a n.1).1]; exact e1, by rw [(F.2 52 a n.2).1]; exact e2, ?_⟩
  rw [(F'.2 146 23 n'.1).2, (F'.2 147 23 n'.2).2]
  exact e3
theorem RY.fr {t Q : Int} (h : RY a t Q δc δm) (F : Fr S δc δc') (F' : Fr S' δm δm') (n : ¬ S 43 a ∧ ¬ S 44 a ∧ ¬ S 45 a) (n' : ¬ S' 132 23 ∧ ¬ S' 148 23 ∧ ¬ S' 149 23 ∧ ¬ S' 150 23 ∧ ¬ S' 151 23) : RY a t Q δc' δm' := by
  obtain ⟨q, hq, e1, e2, e3, e4, e5⟩ := h
  refine ⟨q, hq, by rw [(F.2 43 a n.1).1]; exact e1, by rw [(F'.2 132 23 n'.1).1]; exact e2, by rw [(F.2 44 a n.2.1).1]; exact e3, by rw [(F'.2 148 23 n'.2.1).1]; exact e4, ?_⟩
  rw [(F.2 45 a n.2.2).2, (F'.2 149 23 n'.2.2.1).2, (F'.2 150 23 n'.2.2.2.1).2, (F'.2 151 23 n'.2.2.2.2).2]
  exact e5
theorem RY.up {t Q Q' : Int} (h : RY a t Q δc δm) (hq : Q ≤ Q') : RY a t Q' δc δm := by
  obtain ⟨q, hq', e⟩ := h
  exact ⟨q, by omega, e⟩
theorem TE.fr {b : Int} (h : TE a δc δm b) (e1 : δc'.2.1 50 a = δc.2.1 50 a) (e2 : δm'.2.1 144 23 = δm.2.1 144 23) : TE a δc' δm' b := by
  unfold TE at h ⊢
  rw [e1, e2]; exact h
theorem RSC.fr (h : RSC a v g δc δm) (F : Fr S δc δc') (F' : Fr S' δm δm') (n : ∀ f, 46 ≤ f → f ≤ 50 → ¬ S f a) (n' : ∀ f, 141 ≤ f → f ≤ 145 → ¬ S' f 23) : RSC a v g δc' δm' := by
  have f := fun g h1 h2 => (F.2 g a (n g h1 h2)).2
  have f' := fun g h1 h2 => (F'.2 g 23 (n' g h1 h2)).2
  intro s s0 s1
  have h := h s s0 s1
  unfold SCR TE at h ⊢
  rw [f 46 (by decide) (by decide), f 47 (by decide) (by decide), f 48 (by decide) (by decide), f 49 (by decide) (by decide), f 50 (by decide) (by decide), f' 141 (by decide) (by decide), f' 142 (by decide) (by decide), f' 143 (by decide) (by decide), f' 144 (by decide) (by decide), f' 145 (by decide) (by decide)]
  exact h
theorem RS.fr (h : RS s g δc δm) (F : Fr S δc δc') (F' : Fr S' δm δm') (n : ∀ f, 70 ≤ f → f ≤ 79 → ¬ S f s) (n' : ∀ f, 133 ≤ f → f ≤ 140 → ¬ S' f 23) : RS s g δc' δm' := by
  have f := fun g h1 h2 => (F.2 g s (n g h1 h2))
  have f' := fun g h1 h2 => (F'.2 g 23 (n' g h1 h2)).2
  unfold RS AC at h ⊢
  rw [(f 70 (by decide) (by decide)).1, (f 71 (by decide) (by decide)).1, (f 72 (by decide) (by decide)).1, (f 73 (by decide) (by decide)).2, (f 74 (by decide) (by decide)).2, (f 75 (by decide) (by decide)).2, (f 76 (by decide) (by decide)).2, (f 77 (by decide) (by decide)).2, (f 78 (by decide) (by decide)).2, (f 79 (by decide) (by decide)).2,
    f' 133 (by decide) (by decide), f' 134 (by decide) (by decide), f' 135 (by decide) (by decide), f' 136 (by decide) (by decide), f' 137 (by decide) (by decide), f' 138 (by decide) (by decide), f' 139 (by decide) (by decide), f' 140 (by decide) (by decide)]
  exact h
end FRS
abbrev SEc (a s : Nat) : Nat → Nat → Prop := fun g b => (b = s ∧ 73 ≤ g ∧ g ≤ 79) ∨ (b = a ∧ (g = 44 ∨ g = 45 ∨ g = 51 ∨ g = 53))
abbrev SEm : Nat → Nat → Prop := fun g _ => (133 ≤ g ∧ g ≤ 140) ∨ g = 146 ∨ (148 ≤ g ∧ g ≤ 151) ∨ g = 174
section DS
variable {a p s : Nat} {v : PG} {g : SG} {δc δm : Dl} {k : Int}
set_option maxHeartbeats 4000000 in
theorem lk_does (W : PW v) (wg : WG g) (C : CP p δc v) (M : MP δm v) (R : RS s g δc δm) (m : RM k g δm) (hp : wsr 40 a = p) (hs : wsr 41 a = s) {t Q : Int} (hT : RT a δc δm) (hY : RY a t Q δc δm) (hQ : Q ≤ 10000) (z : δc.1 53 a = zi 0) (z' : δm.1 174 23 = zi 0)
    {b i : Int} (b0 : 0 ≤ b) (b1 : b < v.1) (hk : v.2.2.1 b 0 ≤ 9) (i0 : 0 ≤ i) (i1 : i < g.2.2.1) (f u : Int32) :
    ∃ δc' δm', F_Ru_doOrder a (zi b) (zi i) f u δc = some δc' ∧ F_M_does (zi b) (zi i) f u δm = some δm' ∧ δc'.1 53 a = δm'.1 174 23 ∧ RS s g δc' δm' ∧ RT a δc' δm' ∧ RY a t (Q + 1) δc' δm' ∧ Fr (SEc a s) δc δc' ∧ Fr SEm δm δm' := by
  have ha := wg.2.2.1
  have hw := wg.1
  have hh := wg.2.1
  have hN := W.1
  obtain ⟨x, y, d, rl, hx, hy, hd, hr, e74, e134, e135, e75, e136, e76, e77, e78, e139, e79⟩ := R.2.2.2.2.2 i i0 i1
  have ec := R.2.2.2.1 x y hx.1 hx.2 hy.1 hy.2
  have ck := c_kind C W b0 b1
  have cn := c_num C W b0 b1
  obtain ⟨f0, f1, -⟩ := M.2.2.1 b b0 b1
  have hkk := W.k b0 b1
  have hY1 : RY a t (Q + 1) δc δm := hY.up (by omega)
  have rA' := @rA
  rcases (show v.2.2.1 b 0 = 0 ∨ v.2.2.1 b 0 = 1 ∨ v.2.2.1 b 0 = 2 ∨ v.2.2.1 b 0 = 3 ∨ v.2.2.1 b 0 = 4 ∨ v.2.2.1 b 0 = 5 ∨ v.2.2.1 b 0 = 6 ∨ v.2.2.1 b 0 = 7 ∨ v.2.2.1 b 0 = 8 ∨ v.2.2.1 b 0 = 9 by omega) with q | q | q | q | q | q | q | q | q | q
  all_goals (rw [q] at f0; have ck0 := ck.trans (by rw [q]))
  · -- GO
    obtain ⟨δc', δm', g1, g2, g3, g4, g5⟩ := lk_go wg R m i0 i1
    have F1 : Fr (SEc a s) δc δc' := g3.to (fun _ _ e => Or.inl e)
    have F2 : Fr SEm δm δm' := g4.to (fun _ _ e => Or.inl e)
    refine ⟨δc', δm', ?_, ?_, ?_, g2, ?_, ?_, F1, F2⟩
    · simp only [F_Ru_doOrder, hp, hs, zl, zi_add, zi_sub, zi_mul, zi_neg]
      simp (disch := omega) only [↓bnd_eq, bd2, bn2, Option.bind_some, Option.bind_none, ↓bse ck0, ↓bse g1, ↓reduceIte, inb, zl, zi_add, zi_sub, zi_mul, zi_neg, zi_le_t, zi_le_f, zi_lt_t, zi_lt_f, zi_eq_t, zi_eq_f, if_true, if_false, ite_true, ite_false, true_and, and_true, false_and, and_false, not_true_eq_false, not_false_eq_true, true_or, or_true, false_or, or_false, and_self, ge_iff_le, gt_iff_lt]
    · rcases g5 with ⟨w1, X, Y, w2, w3, w4⟩ | ⟨w1, w4⟩
      · rw [w4]
        simp (disch := omega) only [F_M_does, ↓bnd_eq, bd2, bn2, Option.bind_some, Option.bind_none, f0, e134, e135, ↓bse w1, ↓bse w2, ↓bse w3, ↓reduceIte, inb, zl, zi_add, zi_sub, zi_mul, zi_neg, zi_le_t, zi_le_f, zi_lt_t, zi_lt_f, zi_eq_t, zi_eq_f, if_true, if_false, ite_true, ite_false, true_and, and_true, false_and, and_false, not_true_eq_false, not_false_eq_true, true_or, or_true, false_or, or_false, and_self, ge_iff_le, gt_iff_lt]
      · rw [w4]
        simp (disch := omega) only [F_M_does, ↓bnd_eq, bd2, bn2, Option.bind_some, Option.bind_none, f0, e134, e135, ↓bse w1, ↓reduceIte, inb, zl, zi_add, zi_sub, zi_mul, zi_neg, zi_le_t, zi_le_f, zi_lt_t, zi_lt_f, zi_eq_t, zi_eq_f, if_true, if_false, ite_true, ite_false, true_and, and_true, false_and, and_false, not_true_eq_false, not_false_eq_true, true_or, or_true, false_or, or_false, and_self, ge_iff_le, gt_iff_lt]
    · rw [(g3.2 53 a (fun e => absurd e.2.1 (by decide))).1, (g4.2 174 23 (fun e => absurd e.2 (by decide))).1, z, z']
    · exact hT.fr g3 g4 ⟨fun e => absurd e.2.1 (by decide), fun e => absurd e.2.1 (by decide)⟩ ⟨fun e => absurd e.2 (by decide), fun e => absurd e.2 (by decide)⟩
    · exact hY1.fr g3 g4 ⟨fun e => absurd e.2.1 (by decide), fun e => absurd e.2.1 (by decide), fun e => absurd e.2.1 (by decide)⟩ ⟨fun e => absurd e.1 (by decide), fun e => absurd e.2 (by decide), fun e => absurd e.2 (by decide), fun e => absurd e.2 (by decide), fun e => absurd e.2 (by decide)⟩
  · -- TURN
    have hn := (W.2.2.1 b b0 b1).2.1.2 (Or.inl q)
    have E1 : F_St_turnBy s (zi i) (zi (v.2.2.1 b 1)) δc = some (sA δc 75 s (zi i) (zi ((d + v.2.2.1 b 1) - (d + v.2.2.1 b 1) / 4 * 4))) := by
      simp (disch := omega) only [F_St_turnBy, ↓bnd_eq, bd2, bn2, Option.bind_some, Option.bind_none, R.2.2.1, e75, and3', ↓reduceIte, inb, zl, zi_add, zi_sub, zi_mul, zi_neg, zi_le_t, zi_le_f, zi_lt_t, zi_lt_f, zi_eq_t, zi_eq_f, if_true, if_false, ite_true, ite_false, true_and, and_true, false_and, and_false, not_true_eq_false, not_false_eq_true, true_or, or_true, false_or, or_false, and_self, ge_iff_le, gt_iff_lt]
    refine ⟨_, sA δm 136 23 (zi i) (zi ((d + v.2.2.1 b 1) - (d + v.2.2.1 b 1) / 4 * 4)), ?_, ?_, ?_, R.head wg ⟨i0, i1⟩ (by omega), hT, hY1, Fr.rf.sA (Or.inl ⟨rfl, by decide, by decide⟩), Fr.rf.sA (Or.inl ⟨by decide, by decide⟩)⟩
    · simp only [F_Ru_doOrder, hp, hs, zl, zi_add, zi_sub, zi_mul, zi_neg]
      simp (disch := omega) only [↓bnd_eq, bd2, bn2, Option.bind_some, Option.bind_none, ↓bse ck0, ↓bse cn, ↓bse E1, ↓reduceIte, inb, zl, zi_add, zi_sub, zi_mul, zi_neg, zi_le_t, zi_le_f, zi_lt_t, zi_lt_f, zi_eq_t, zi_eq_f, if_true, if_false, ite_true, ite_false, true_and, and_true, false_and, and_false, not_true_eq_false, not_false_eq_true, true_or, or_true, false_or, or_false, and_self, ge_iff_le, gt_iff_lt]
    · simp (disch := omega) only [F_M_does, ↓bnd_eq, bd2, bn2, Option.bind_some, Option.bind_none, f0, f1, e134, e135, e136, zi_div, ↓reduceIte, inb, zl, zi_add, zi_sub, zi_mul, zi_neg, zi_le_t, zi_le_f, zi_lt_t, zi_lt_f, zi_eq_t, zi_eq_f, if_true, if_false, ite_true, ite_false, true_and, and_true, false_and, and_false, not_true_eq_false, not_false_eq_true, true_or, or_true, false_or, or_false, and_self, ge_iff_le, gt_iff_lt]
    · exact z.trans z'.symm
  · -- TAKE
    by_cases qc : zi 0 < δm.2.1 133 23 (zi (8 * y + x))
    · have qn : ¬ δm.2.1 133 23 (zi (8 * y + x)) ≤ zi 0 := Int32.not_le.mpr qc
      have E1 : F_St_takeThing s (zi i) δc = some (sA (sA δc 73 s (zi ((y + 1) * 10 + x + 1)) (δm.2.1 133 23 (zi (8 * y + x)) - zi 1)) 76 s (zi i) (δm.2.1 137 23 (zi i) + zi 1)) := by
        have e76' : (sA δc 73 s (zi ((y + 1) * 10 + x + 1)) (δm.2.1 133 23 (zi (8 * y + x)) - zi 1)).2.1 76 s (zi i) = δm.2.1 137 23 (zi i) := (rA (by decide)).trans e76
        simp (disch := omega) only [F_St_takeThing, ↓bnd_eq, bd2, bn2, Option.bind_some, Option.bind_none, R.2.2.1, e74, ec, qc, e76', ↓reduceIte, inb, zl, zi_add, zi_sub, zi_mul, zi_neg, zi_le_t, zi_le_f, zi_lt_t, zi_lt_f, zi_eq_t, zi_eq_f, if_true, if_false, ite_true, ite_false, true_and, and_true, false_and, and_false, not_true_eq_false, not_false_eq_true, true_or, or_true, false_or, or_false, and_self, ge_iff_le, gt_iff_lt]
      have hR : RS s g (sA (sA δc 73 s (zi ((y + 1) * 10 + x + 1)) (δm.2.1 133 23 (zi (8 * y + x)) - zi 1)) 76 s (zi i) (δm.2.1 137 23 (zi i) + zi 1)) (sA (sA δm 133 23 (zi (8 * y + x)) (δm.2.1 133 23 (zi (8 * y + x)) - zi 1)) 137 23 (zi i) (δm.2.1 137 23 (zi i) + zi 1)) := (R.cell wg hx hy).val wg ⟨i0, i1⟩
      refine ⟨_, sA (sA δm 133 23 (zi (8 * y + x)) (δm.2.1 133 23 (zi (8 * y + x)) - zi 1)) 137 23 (zi i) (δm.2.1 137 23 (zi i) + zi 1), ?_, ?_, ?_, hR, hT, hY1, (Fr.rf.sA (Or.inl ⟨rfl, by decide, by decide⟩)).sA (Or.inl ⟨rfl, by decide, by decide⟩), (Fr.rf.sA (Or.inl ⟨by decide, by decide⟩)).sA (Or.inl ⟨by decide, by decide⟩)⟩
      · simp only [F_Ru_doOrder, hp, hs, zl, zi_add, zi_sub, zi_mul, zi_neg]
        simp (disch := omega) only [↓bnd_eq, bd2, bn2, Option.bind_some, Option.bind_none, ↓bse ck0, ↓bse E1, ↓reduceIte, inb, zl, zi_add, zi_sub, zi_mul, zi_neg, zi_le_t, zi_le_f, zi_lt_t, zi_lt_f, zi_eq_t, zi_eq_f, if_true, if_false, ite_true, ite_false, true_and, and_true, false_and, and_false, not_true_eq_false, not_false_eq_true, true_or, or_true, false_or, or_false, and_self, ge_iff_le, gt_iff_lt]
      · rw [sA_comm (f := 133) (g := 137) (by decide)]
        have e133' : (sA δm 137 23 (zi i) (δm.2.1 137 23 (zi i) + zi 1)).2.1 133 23 (zi (8 * y + x)) = δm.2.1 133 23 (zi (8 * y + x)) := rA (by decide)
        simp (disch := omega) only [F_M_does, F_M_does_176, F_M_does_201, ↓bnd_eq, bd2, bn2, Option.bind_some, Option.bind_none, f0, e134, e135, qn, e133', ↓reduceIte, inb, zl, zi_add, zi_sub, zi_mul, zi_neg, zi_le_t, zi_le_f, zi_lt_t, zi_lt_f, zi_eq_t, zi_eq_f, if_true, if_false, ite_true, ite_false, true_and, and_true, false_and, and_false, not_true_eq_false, not_false_eq_true, true_or, or_true, false_or, or_false, and_self, ge_iff_le, gt_iff_lt]
      · exact z.trans z'.symm
    · have qn : δm.2.1 133 23 (zi (8 * y + x)) ≤ zi 0 := Int32.not_lt.mp qc
      have E1 : F_St_takeThing s (zi i) δc = some δc := by
        simp (disch := omega) only [F_St_takeThing, ↓bnd_eq, bd2, bn2, Option.bind_some, Option.bind_none, R.2.2.1, e74, ec, qc, ↓reduceIte, inb, zl, zi_add, zi_sub, zi_mul, zi_neg, zi_le_t, zi_le_f, zi_lt_t, zi_lt_f, zi_eq_t, zi_eq_f, if_true, if_false, ite_true, ite_false, true_and, and_true, false_and, and_false, not_true_eq_false, not_false_eq_true, true_or, or_true, false_or, or_false, and_self, ge_iff_le, gt_iff_lt]
      refine ⟨δc, δm, ?_, ?_, z.trans z'.symm, R, hT, hY1, Fr.rf, Fr.rf⟩
      · simp only [F_Ru_doOrder, hp, hs, zl, zi_add, zi_sub, zi_mul, zi_neg]
        simp (disch := omega) only [↓bnd_eq, bd2, bn2, Option.bind_some, Option.bind_none, ↓bse ck0, ↓bse E1, ↓reduceIte, inb, zl, zi_add, zi_sub, zi_mul, zi_neg, zi_le_t, zi_le_f, zi_lt_t, zi_lt_f, zi_eq_t, zi_eq_f, if_true, if_false, ite_true, ite_false, true_and, and_true, false_and, and_false, not_true_eq_false, not_false_eq_true, true_or, or_true, false_or, or_false, and_self, ge_iff_le, gt_iff_lt]
      · have e1 : sA δm 137 23 (zi i) (δm.2.1 137 23 (zi i) + zi 0) = δm := by rw [add_z, sA_id]
        have e2 : sA δm 133 23 (zi (8 * y + x)) (δm.2.1 133 23 (zi (8 * y + x)) - zi 0) = δm := by rw [sub_z, sA_id]
        simp (disch := omega) only [F_M_does, F_M_does_176, F_M_does_201, ↓bnd_eq, bd2, bn2, Option.bind_some, Option.bind_none, f0, e134, e135, qn, e1, e2, ↓reduceIte, inb, zl, zi_add, zi_sub, zi_mul, zi_neg, zi_le_t, zi_le_f, zi_lt_t, zi_lt_f, zi_eq_t, zi_eq_f, if_true, if_false, ite_true, ite_false, true_and, and_true, false_and, and_false, not_true_eq_false, not_false_eq_true, true_or, or_true, false_or, or_false, and_self, ge_iff_le, gt_iff_lt]
  · -- PUT
    by_cases qv : zi 0 < δm.2.1 137 23 (zi i)
    · have qvn : ¬ δm.2.1 137 23 (zi i) ≤ zi 0 := Int32.not_le.mpr qv
      by_cases qc : δm.2.1 133 23 (zi (8 * y + x)) < zi 9
      · have qn : ¬ zi 9 ≤ δm.2.1 133 23 (zi (8 * y + x)) := Int32.not_le.mpr qc
        have E1 : F_St_putThing s (zi i) δc = some (sA (sA δc 73 s (zi ((y + 1) * 10 + x + 1)) (δm.2.1 133 23 (zi (8 * y + x)) + zi 1)) 76 s (zi i) (δm.2.1 137 23 (zi i) - zi 1)) := by
          have e76' : (sA δc 73 s (zi ((y + 1) * 10 + x + 1)) (δm.2.1 133 23 (zi (8 * y + x)) + zi 1)).2.1 76 s (zi i) = δm.2.1 137 23 (zi i) := (rA (by decide)).trans e76
          simp (disch := omega) only [F_St_putThing, ↓bnd_eq, bd2, bn2, Option.bind_some, Option.bind_none, R.2.2.1, e74, ec, e76, qv, qc, e76', ↓reduceIte, inb, zl, zi_add, zi_sub, zi_mul, zi_neg, zi_le_t, zi_le_f, zi_lt_t, zi_lt_f, zi_eq_t, zi_eq_f, if_true, if_false, ite_true, ite_false, true_and, and_true, false_and, and_false, not_true_eq_false, not_false_eq_true, true_or, or_true, false_or, or_false, and_self, ge_iff_le, gt_iff_lt]
        refine ⟨_, sA (sA δm 133 23 (zi (8 * y + x)) (δm.2.1 133 23 (zi (8 * y + x)) + zi 1)) 137 23 (zi i) (δm.2.1 137 23 (zi i) - zi 1), ?_, ?_, ?_, (R.cell wg hx hy).val wg ⟨i0, i1⟩, hT, hY1, (Fr.rf.sA (Or.inl ⟨rfl, by decide, by decide⟩)).sA (Or.inl ⟨rfl, by decide, by decide⟩), (Fr.rf.sA (Or.inl ⟨by decide, by decide⟩)).sA (Or.inl ⟨by decide, by decide⟩)⟩
        · simp only [F_Ru_doOrder, hp, hs, zl, zi_add, zi_sub, zi_mul, zi_neg]
          simp (disch := omega) only [↓bnd_eq, bd2, bn2, Option.bind_some, Option.bind_none, ↓bse ck0, ↓bse E1, ↓reduceIte, inb, zl, zi_add, zi_sub, zi_mul, zi_neg, zi_le_t, zi_le_f, zi_lt_t, zi_lt_f, zi_eq_t, zi_eq_f, if_true, if_false, ite_true, ite_false, true_and, and_true, false_and, and_false, not_true_eq_false, not_false_eq_true, true_or, or_true, false_or, or_false, and_self, ge_iff_le, gt_iff_lt]
        · have e137' : (sA δm 133 23 (zi (8 * y + x)) (δm.2.1 133 23 (zi (8 * y + x)) + zi 1)).2.1 137 23 (zi i) = δm.2.1 137 23 (zi i) := rA (by decide)
          simp (disch := omega) only [F_M_does, ↓bnd_eq, bd2, bn2, Option.bind_some, Option.bind_none, f0, e134, e135, qvn, qn, e137', ↓reduceIte, inb, zl, zi_add, zi_sub, zi_mul, zi_neg, zi_le_t, zi_le_f, zi_lt_t, zi_lt_f, zi_eq_t, zi_eq_f, if_true, if_false, ite_true, ite_false, true_and, and_true, false_and, and_false, not_true_eq_false, not_false_eq_true, true_or, or_true, false_or, or_false, and_self, ge_iff_le, gt_iff_lt]
        · exact z.trans z'.symm
      · have qn : zi 9 ≤ δm.2.1 133 23 (zi (8 * y + x)) := Int32.not_lt.mp qc
        have E1 : F_St_putThing s (zi i) δc = some δc := by
          simp (disch := omega) only [F_St_putThing, ↓bnd_eq, bd2, bn2, Option.bind_some, Option.bind_none, R.2.2.1, e74, ec, e76, qv, qc, ↓reduceIte, inb, zl, zi_add, zi_sub, zi_mul, zi_neg, zi_le_t, zi_le_f, zi_lt_t, zi_lt_f, zi_eq_t, zi_eq_f, if_true, if_false, ite_true, ite_false, true_and, and_true, false_and, and_false, not_true_eq_false, not_false_eq_true, true_or, or_true, false_or, or_false, and_self, ge_iff_le, gt_iff_lt]
        refine ⟨δc, δm, ?_, ?_, z.trans z'.symm, R, hT, hY1, Fr.rf, Fr.rf⟩
        · simp only [F_Ru_doOrder, hp, hs, zl, zi_add, zi_sub, zi_mul, zi_neg]
          simp (disch := omega) only [↓bnd_eq, bd2, bn2, Option.bind_some, Option.bind_none, ↓bse ck0, ↓bse E1, ↓reduceIte, inb, zl, zi_add, zi_sub, zi_mul, zi_neg, zi_le_t, zi_le_f, zi_lt_t, zi_lt_f, zi_eq_t, zi_eq_f, if_true, if_false, ite_true, ite_false, true_and, and_true, false_and, and_false, not_true_eq_false, not_false_eq_true, true_or, or_true, false_or, or_false, and_self, ge_iff_le, gt_iff_lt]
        · simp (disch := omega) only [F_M_does, ↓bnd_eq, bd2, bn2, Option.bind_some, Option.bind_none, f0, e134, e135, qvn, qn, ↓reduceIte, inb, zl, zi_add, zi_sub, zi_mul, zi_neg, zi_le_t, zi_le_f, zi_lt_t, zi_lt_f, zi_eq_t, zi_eq_f, if_true, if_false, ite_true, ite_false, true_and, and_true, false_and, and_false, not_true_eq_false, not_false_eq_true, true_or, or_true, false_or, or_false, and_self, ge_iff_le, gt_iff_lt]
    · have qvn : δm.2.1 137 23 (zi i) ≤ zi 0 := Int32.not_lt.mp qv
      have E1 : F_St_putThing s (zi i) δc = some δc := by
        simp (disch := omega) only [F_St_putThing, ↓bnd_eq, bd2, bn2, Option.bind_some, Option.bind_none, R.2.2.1, e74, ec, e76, qv, ↓reduceIte, inb, zl, zi_add, zi_sub, zi_mul, zi_neg, zi_le_t, zi_le_f, zi_lt_t, zi_lt_f, zi_eq_t, zi_eq_f, if_true, if_false, ite_true, ite_false, true_and, and_true, false_and, and_false, not_true_eq_false, not_false_eq_true, true_or, or_true, false_or, or_false, and_self, ge_iff_le, gt_iff_lt]
      refine ⟨δc, δm, ?_, ?_, z.trans z'.symm, R, hT, hY1, Fr.rf, Fr.rf⟩
      · simp only [F_Ru_doOrder, hp, hs, zl, zi_add, zi_sub, zi_mul, zi_neg]
        simp (disch := omega) only [↓bnd_eq, bd2, bn2, Option.bind_some, Option.bind_none, ↓bse ck0, ↓bse E1, ↓reduceIte, inb, zl, zi_add, zi_sub, zi_mul, zi_neg, zi_le_t, zi_le_f, zi_lt_t, zi_lt_f, zi_eq_t, zi_eq_f, if_true, if_false, ite_true, ite_false, true_and, and_true, false_and, and_false, not_true_eq_false, not_false_eq_true, true_or, or_true, false_or, or_false, and_self, ge_iff_le, gt_iff_lt]
      · simp (disch := omega) only [F_M_does, ↓bnd_eq, bd2, bn2, Option.bind_some, Option.bind_none, f0, e134, e135, qvn, ↓reduceIte, inb, zl, zi_add, zi_sub, zi_mul, zi_neg, zi_le_t, zi_le_f, zi_lt_t, zi_lt_f, zi_eq_t, zi_eq_f, if_true, if_false, ite_true, ite_false, true_and, and_true, false_and, and_false, not_true_eq_false, not_false_eq_true, true_or, or_true, false_or, or_false, and_self, ge_iff_le, gt_iff_lt]
  · -- SET
    have E1 : F_St_setValue s (zi i) f δc = some (sA δc 76 s (zi i) f) := by
      simp (disch := omega) only [F_St_setValue, ↓bnd_eq, bd2, bn2, Option.bind_some, Option.bind_none, R.2.2.1, ↓reduceIte, inb, zl, zi_add, zi_sub, zi_mul, zi_neg, zi_le_t, zi_le_f, zi_lt_t, zi_lt_f, zi_eq_t, zi_eq_f, if_true, if_false, ite_true, ite_false, true_and, and_true, false_and, and_false, not_true_eq_false, not_false_eq_true, true_or, or_true, false_or, or_false, and_self, ge_iff_le, gt_iff_lt]
    refine ⟨sA δc 76 s (zi i) f, sA δm 137 23 (zi i) f, ?_, ?_, z.trans z'.symm, R.val wg ⟨i0, i1⟩, hT, hY1, Fr.rf.sA (Or.inl ⟨rfl, by decide, by decide⟩), Fr.rf.sA (Or.inl ⟨by decide, by decide⟩)⟩
    · simp only [F_Ru_doOrder, hp, hs, zl, zi_add, zi_sub, zi_mul, zi_neg]
      simp (disch := omega) only [↓bnd_eq, bd2, bn2, Option.bind_some, Option.bind_none, ↓bse ck0, ↓bse E1, ↓reduceIte, inb, zl, zi_add, zi_sub, zi_mul, zi_neg, zi_le_t, zi_le_f, zi_lt_t, zi_lt_f, zi_eq_t, zi_eq_f, if_true, if_false, ite_true, ite_false, true_and, and_true, false_and, and_false, not_true_eq_false, not_false_eq_true, true_or, or_true, false_or, or_false, and_self, ge_iff_le, gt_iff_lt]
    · simp (disch := omega) only [F_M_does, ↓bnd_eq, bd2, bn2, Option.bind_some, Option.bind_none, f0, e134, e135, ↓reduceIte, inb, zl, zi_add, zi_sub, zi_mul, zi_neg, zi_le_t, zi_le_f, zi_lt_t, zi_lt_f, zi_eq_t, zi_eq_f, if_true, if_false, ite_true, ite_false, true_and, and_true, false_and, and_false, not_true_eq_false, not_false_eq_true, true_or, or_true, false_or, or_false, and_self, ge_iff_le, gt_iff_lt]
  · -- SAY
    obtain ⟨n, hn, y1, y2, y3, y4, y5⟩ := hY
    by_cases q50 : n < 50
    · have E1 : F_Ru_addSaying a (zi i) f δc = some (sI (sA (sA (sA δc 45 a (zi (n * 3)) (zi i)) 45 a (zi (n * 3 + 1)) f) 45 a (zi (n * 3 + 2)) (zi t)) 44 a (zi (n + 1))) := by
        simp (disch := omega) only [F_Ru_addSaying, F_Ru_addSaying_59, ↓bnd_eq, bd2, bn2, Option.bind_some, Option.bind_none, q1A, y1, y3, ↓reduceIte, inb, zl, zi_add, zi_sub, zi_mul, zi_neg, zi_le_t, zi_le_f, zi_lt_t, zi_lt_f, zi_eq_t, zi_eq_f, if_true, if_false, ite_true, ite_false, true_and, and_true, false_and, and_false, not_true_eq_false, not_false_eq_true, true_or, or_true, false_or, or_false, and_self, ge_iff_le, gt_iff_lt]
      have E2 : F_M_says (zi i) f δm = some (sI (sA (sA (sA δm 149 23 (zi n) (zi i)) 150 23 (zi n) f) 151 23 (zi n) (zi t)) 148 23 (zi (n + 1))) := by
        simp (disch := omega) only [F_M_says, F_M_says_42, ↓bnd_eq, bd2, bn2, Option.bind_some, Option.bind_none, q1A, y2, y4, ↓reduceIte, inb, zl, zi_add, zi_sub, zi_mul, zi_neg, zi_le_t, zi_le_f, zi_lt_t, zi_lt_f, zi_eq_t, zi_eq_f, if_true, if_false, ite_true, ite_false, true_and, and_true, false_and, and_false, not_true_eq_false, not_false_eq_true, true_or, or_true, false_or, or_false, and_self, ge_iff_le, gt_iff_lt]
      refine ⟨sI (sA (sA (sA δc 45 a (zi (n * 3)) (zi i)) 45 a (zi (n * 3 + 1)) f) 45 a (zi (n * 3 + 2)) (zi t)) 44 a (zi (n + 1)), sI (sA (sA (sA δm 149 23 (zi n) (zi i)) 150 23 (zi n) f) 151 23 (zi n) (zi t)) 148 23 (zi (n + 1)), ?_, ?_, ?_, ?_, ?_, ⟨n + 1, by omega, ?_, ?_, sI_at, sI_at, fun j j0 j1 j2 => ?_⟩, ?_, ?_⟩
      · simp only [F_Ru_doOrder, hp, hs, zl, zi_add, zi_sub, zi_mul, zi_neg]
        simp (disch := omega) only [↓bnd_eq, bd2, bn2, Option.bind_some, Option.bind_none, ↓bse ck0, ↓bse E1, ↓reduceIte, inb, zl, zi_add, zi_sub, zi_mul, zi_neg, zi_le_t, zi_le_f, zi_lt_t, zi_lt_f, zi_eq_t, zi_eq_f, if_true, if_false, ite_true, ite_false, true_and, and_true, false_and, and_false, not_true_eq_false, not_false_eq_true, true_or, or_true, false_or, or_false, and_self, ge_iff_le, gt_iff_lt]
      · simp (disch := omega) only [F_M_does, ↓bnd_eq, bd2, bn2, Option.bind_some, Option.bind_none, f0, e134, e135, ↓bse E2, ↓reduceIte, inb, zl, zi_add, zi_sub, zi_mul, zi_neg, zi_le_t, zi_le_f, zi_lt_t, zi_lt_f, zi_eq_t, zi_eq_f, if_true, if_false, ite_true, ite_false, true_and, and_true, false_and, and_false, not_true_eq_false, not_false_eq_true, true_or, or_true, false_or, or_false, and_self, ge_iff_le, gt_iff_lt]
      · exact z.trans z'.symm
      · exact R
      · exact hT
      · exact y1
      · exact y2
      · have w1 : ∀ l : Int, 0 ≤ l → l < 150 → (sI (sA (sA (sA δc 45 a (zi (n * 3)) (zi i)) 45 a (zi (n * 3 + 1)) f) 45 a (zi (n * 3 + 2)) (zi t)) 44 a (zi (n + 1))).2.1 45 a (zi l) = if l = n * 3 + 2 then zi t else if l = n * 3 + 1 then f else if l = n * 3 then zi i else δc.2.1 45 a (zi l) := by
          intro l l0 l1
          have b1 := zi_eq (a := l) (b := n * 3 + 2) (by omega) (by omega)
          have b2 := zi_eq (a := l) (b := n * 3 + 1) (by omega) (by omega)
          have b3 := zi_eq (a := l) (b := n * 3) (by omega) (by omega)
          simp only [q2I, rAi, b1, b2, b3]
        have w2 : (sI (sA (sA (sA δm 149 23 (zi n) (zi i)) 150 23 (zi n) f) 151 23 (zi n) (zi t)) 148 23 (zi (n + 1))).2.1 149 23 (zi j) = if j = n then zi i else δm.2.1 149 23 (zi j) := by
          have b1 := zi_eq (a := j) (b := n) (by omega) (by omega)
          rw [q2I, rA (by decide), rA (by decide), rAi]
          simp only [b1]
        have w3 : (sI (sA (sA (sA δm 149 23 (zi n) (zi i)) 150 23 (zi n) f) 151 23 (zi n) (zi t)) 148 23 (zi (n + 1))).2.1 150 23 (zi j) = if j = n then f else δm.2.1 150 23 (zi j) := by
          have b1 := zi_eq (a := j) (b := n) (by omega) (by omega)
          rw [q2I, rA (by decide), rAi, rA (by decide)]
          simp only [b1]
        have w4 : (sI (sA (sA (sA δm 149 23 (zi n) (zi i)) 150 23 (zi n) f) 151 23 (zi n) (zi t)) 148 23 (zi (n + 1))).2.1 151 23 (zi j) = if j = n then zi t else δm.2.1 151 23 (zi j) := by
          have b1 := zi_eq (a := j) (b := n) (by omega) (by omega)
          rw [q2I, rAi, rA (by decide), rA (by decide)]
          simp only [b1]
        rw [w1 _ (by omega) (by omega), w1 _ (by omega) (by omega), w1 _ (by omega) (by omega), w2, w3, w4]
        by_cases qj : j = n
        · subst qj
          simp only [if_true]
          refine ⟨?_, ?_, ?_⟩
          · rw [if_neg (by omega), if_neg (by omega)]
          · rw [if_neg (by omega)]
          · trivial
        · rw [if_neg qj, if_neg qj, if_neg qj, if_neg (by omega), if_neg (by omega), if_neg (by omega), if_neg (by omega), if_neg (by omega), if_neg (by omega), if_neg (by omega), if_neg (by omega), if_neg (by omega)]
          exact y5 j j0 (by omega) j2
      · exact ((((Fr.rf.sA (Or.inr ⟨rfl, by decide⟩)).sA (Or.inr ⟨rfl, by decide⟩)).sA (Or.inr ⟨rfl, by decide⟩)).sI (Or.inr ⟨rfl, by decide⟩))
      · exact ((((Fr.rf.sA (by decide)).sA (by decide)).sA (by decide)).sI (by decide))
    · have E1 : F_Ru_addSaying a (zi i) f δc = some (sI δc 44 a (zi (n + 1))) := by
        simp (disch := omega) only [F_Ru_addSaying, F_Ru_addSaying_59, ↓bnd_eq, bd2, bn2, Option.bind_some, Option.bind_none, y1, y3, ↓reduceIte, inb, zl, zi_add, zi_sub, zi_mul, zi_neg, zi_le_t, zi_le_f, zi_lt_t, zi_lt_f, zi_eq_t, zi_eq_f, if_true, if_false, ite_true, ite_false, true_and, and_true, false_and, and_false, not_true_eq_false, not_false_eq_true, true_or, or_true, false_or, or_false, and_self, ge_iff_le, gt_iff_lt]
      have E2 : F_M_says (zi i) f δm = some (sI δm 148 23 (zi (n + 1))) := by
        simp (disch := omega) only [F_M_says, F_M_says_42, ↓bnd_eq, bd2, bn2, Option.bind_some, Option.bind_none, y2, y4, ↓reduceIte, inb, zl, zi_add, zi_sub, zi_mul, zi_neg, zi_le_t, zi_le_f, zi_lt_t, zi_lt_f, zi_eq_t, zi_eq_f, if_true, if_false, ite_true, ite_false, true_and, and_true, false_and, and_false, not_true_eq_false, not_false_eq_true, true_or, or_true, false_or, or_false, and_self, ge_iff_le, gt_iff_lt]
      refine ⟨sI δc 44 a (zi (n + 1)), sI δm 148 23 (zi (n + 1)), ?_, ?_, z.trans z'.symm, R, hT, ⟨n + 1, by omega, y1, y2, sI_at, sI_at, fun j j0 j1 j2 => y5 j j0 (by omega) j2⟩, Fr.rf.sI (Or.inr ⟨rfl, by decide⟩), Fr.rf.sI (by decide)⟩
      · simp only [F_Ru_doOrder, hp, hs, zl, zi_add, zi_sub, zi_mul, zi_neg]
        simp (disch := omega) only [↓bnd_eq, bd2, bn2, Option.bind_some, Option.bind_none, ↓bse ck0, ↓bse E1, ↓reduceIte, inb, zl, zi_add, zi_sub, zi_mul, zi_neg, zi_le_t, zi_le_f, zi_lt_t, zi_lt_f, zi_eq_t, zi_eq_f, if_true, if_false, ite_true, ite_false, true_and, and_true, false_and, and_false, not_true_eq_false, not_false_eq_true, true_or, or_true, false_or, or_false, and_self, ge_iff_le, gt_iff_lt]
      · simp (disch := omega) only [F_M_does, ↓bnd_eq, bd2, bn2, Option.bind_some, Option.bind_none, f0, e134, e135, ↓bse E2, ↓reduceIte, inb, zl, zi_add, zi_sub, zi_mul, zi_neg, zi_le_t, zi_le_f, zi_lt_t, zi_lt_f, zi_eq_t, zi_eq_f, if_true, if_false, ite_true, ite_false, true_and, and_true, false_and, and_false, not_true_eq_false, not_false_eq_true, true_or, or_true, false_or, or_false, and_self, ge_iff_le, gt_iff_lt]
  · -- CALL
    have hn := (W.2.2.1 b b0 b1).2.1.2 (Or.inr q)
    obtain ⟨m1, m2, h1, h2, t1, t2, t3⟩ := hT
    obtain ⟨m', h1', o1, o2⟩ := bI_or (n := v.2.2.1 b 1) h1 (by omega)
    have e11 : zi 1 &&& zi 1 = zi 1 := by decide
    refine ⟨sI δc 51 a (zi m'), sA δm 146 23 (zi (v.2.2.1 b 1)) (zi 1), ?_, ?_, z.trans z'.symm, R, ⟨m', m2, h1', h2, sI_at, t2, fun c c0 c4 => ⟨?_, ?_⟩⟩, hY1, Fr.rf.sI (Or.inr ⟨rfl, by decide⟩), Fr.rf.sA (by decide)⟩
    · simp only [F_Ru_doOrder, hp, hs, zl, zi_add, zi_sub, zi_mul, zi_neg]
      simp (disch := omega) only [↓bnd_eq, bd2, bn2, Option.bind_some, Option.bind_none, ↓bse ck0, ↓bse cn, t1, o1, ↓reduceIte, inb, zl, zi_add, zi_sub, zi_mul, zi_neg, zi_le_t, zi_le_f, zi_lt_t, zi_lt_f, zi_eq_t, zi_eq_f, if_true, if_false, ite_true, ite_false, true_and, and_true, false_and, and_false, not_true_eq_false, not_false_eq_true, true_or, or_true, false_or, or_false, and_self, ge_iff_le, gt_iff_lt]
    · simp (disch := omega) only [F_M_does, ↓bnd_eq, bd2, bn2, Option.bind_some, Option.bind_none, f0, f1, e134, e135, e11, ↓reduceIte, inb, zl, zi_add, zi_sub, zi_mul, zi_neg, zi_le_t, zi_le_f, zi_lt_t, zi_lt_f, zi_eq_t, zi_eq_f, if_true, if_false, ite_true, ite_false, true_and, and_true, false_and, and_false, not_true_eq_false, not_false_eq_true, true_or, or_true, false_or, or_false, and_self, ge_iff_le, gt_iff_lt]
    · rw [rAi, o2 c c0 c4]
      by_cases qc : c = v.2.2.1 b 1
      · rw [if_pos qc, if_pos (by rw [qc])]
      · rw [if_neg qc, if_neg (fun e => qc (zi_inj e (by omega) (by omega)))]
        exact (t3 c c0 c4).1
    · rw [rA (by decide)]
      exact (t3 c c0 c4).2
  · -- WAIT
    refine ⟨δc, δm, ?_, ?_, z.trans z'.symm, R, hT, hY1, Fr.rf, Fr.rf⟩
    · simp only [F_Ru_doOrder, hp, hs, zl, zi_add, zi_sub, zi_mul, zi_neg]
      simp (disch := omega) only [↓bnd_eq, bd2, bn2, Option.bind_some, Option.bind_none, ↓bse ck0, ↓reduceIte, inb, zl, zi_add, zi_sub, zi_mul, zi_neg, zi_le_t, zi_le_f, zi_lt_t, zi_lt_f, zi_eq_t, zi_eq_f, if_true, if_false, ite_true, ite_false, true_and, and_true, false_and, and_false, not_true_eq_false, not_false_eq_true, true_or, or_true, false_or, or_false, and_self, ge_iff_le, gt_iff_lt]
    · simp (disch := omega) only [F_M_does, ↓bnd_eq, bd2, bn2, Option.bind_some, Option.bind_none, f0, e134, e135, ↓reduceIte, inb, zl, zi_add, zi_sub, zi_mul, zi_neg, zi_le_t, zi_le_f, zi_lt_t, zi_lt_f, zi_eq_t, zi_eq_f, if_true, if_false, ite_true, ite_false, true_and, and_true, false_and, and_false, not_true_eq_false, not_false_eq_true, true_or, or_true, false_or, or_false, and_self, ge_iff_le, gt_iff_lt]
  · -- MAKE
    obtain ⟨j, rfl, hj⟩ := zi_ex f
    by_cases qj : j < 0
    · have E1 : F_St_makeRow s (zi i) (zi j) δc = some (zi (-14), δc) := by
        simp (disch := omega) only [F_St_makeRow, ↓bnd_eq, bd2, bn2, Option.bind_some, Option.bind_none, ↓reduceIte, inb, zl, zi_add, zi_sub, zi_mul, zi_neg, zi_le_t, zi_le_f, zi_lt_t, zi_lt_f, zi_eq_t, zi_eq_f, if_true, if_false, ite_true, ite_false, true_and, and_true, false_and, and_false, not_true_eq_false, not_false_eq_true, true_or, or_true, false_or, or_false, and_self, ge_iff_le, gt_iff_lt]
      have E2 : F_M_makes (zi i) (zi j) δm = some (sI δm 174 23 (zi (-14))) := by
        simp (disch := omega) only [F_M_makes, ↓bnd_eq, bd2, bn2, Option.bind_some, Option.bind_none, ↓reduceIte, inb, zl, zi_add, zi_sub, zi_mul, zi_neg, zi_le_t, zi_le_f, zi_lt_t, zi_lt_f, zi_eq_t, zi_eq_f, if_true, if_false, ite_true, ite_false, true_and, and_true, false_and, and_false, not_true_eq_false, not_false_eq_true, true_or, or_true, false_or, or_false, and_self, ge_iff_le, gt_iff_lt]
      refine ⟨sI δc 53 a (zi (-14)), sI δm 174 23 (zi (-14)), ?_, ?_, sI_at.trans sI_at.symm, R, hT, hY1, Fr.rf.sI (Or.inr ⟨rfl, by decide⟩), Fr.rf.sI (by decide)⟩
      · simp only [F_Ru_doOrder, hp, hs, zl, zi_add, zi_sub, zi_mul, zi_neg]
        simp (disch := omega) only [↓bnd_eq, bd2, bn2, Option.bind_some, Option.bind_none, ↓bse ck0, ↓b2e E1, ↓reduceIte, inb, zl, zi_add, zi_sub, zi_mul, zi_neg, zi_le_t, zi_le_f, zi_lt_t, zi_lt_f, zi_eq_t, zi_eq_f, if_true, if_false, ite_true, ite_false, true_and, and_true, false_and, and_false, not_true_eq_false, not_false_eq_true, true_or, or_true, false_or, or_false, and_self, ge_iff_le, gt_iff_lt]
      · simp (disch := omega) only [F_M_does, ↓bnd_eq, bd2, bn2, Option.bind_some, Option.bind_none, f0, e134, e135, ↓bse E2, ↓reduceIte, inb, zl, zi_add, zi_sub, zi_mul, zi_neg, zi_le_t, zi_le_f, zi_lt_t, zi_lt_f, zi_eq_t, zi_eq_f, if_true, if_false, ite_true, ite_false, true_and, and_true, false_and, and_false, not_true_eq_false, not_false_eq_true, true_or, or_true, false_or, or_false, and_self, ge_iff_le, gt_iff_lt]
    · have E0 : ∃ r, (0 ≤ r ∧ r ≤ 20) ∧ F_St_makeRow s (zi i) (zi j) δc = some (zi 0, sW (sA δc 78 s (zi i) (zi r)) 79 s (fr1 (δc.2.1 79 s) (i * 20) (i * 20 + 20) (zi 0))) ∧ F_M_makes (zi i) (zi j) δm = some (sW (sA δm 139 23 (zi i) (zi r)) 140 23 (fr1 (δm.2.1 140 23) (20 * i + 0) (20 * i + 20) (zi 0))) := by
        have fm := fun r => makes_l (x2 := zi j) (i := i) ⟨i0, by omega⟩ 20 0 FU (sA δm 139 23 (zi i) (zi r)) (by omega) (by omega) (by omega) (by unfold FU; omega)
        have fc := fun r => fill4 (f := 79) (a := s) (N := 60) (lo := i * 20) (hi := i * 20 + 20) (u := zi 0) (δ := sA δc 78 s (zi i) (zi r)) (by omega) (by omega) (by omega) (by omega)
        by_cases q20 : j ≤ 20
        · refine ⟨j, by omega, ?_, ?_⟩
          · have fc := fc j
            simp (disch := omega) only [F_St_makeRow, F_Ma_min, ↓bnd_eq, bd2, bn2, Option.bind_some, Option.bind_none, R.2.2.1, fc, ↓reduceIte, inb, zl, zi_add, zi_sub, zi_mul, zi_neg, zi_le_t, zi_le_f, zi_lt_t, zi_lt_f, zi_eq_t, zi_eq_f, if_true, if_false, ite_true, ite_false, true_and, and_true, false_and, and_false, not_true_eq_false, not_false_eq_true, true_or, or_true, false_or, or_false, and_self, ge_iff_le, gt_iff_lt]
            rfl
          · have fm := fm j
            simp (disch := omega) only [F_M_makes, F_M_makes_28, ↓bnd_eq, bd2, bn2, Option.bind_some, Option.bind_none, fm, ↓reduceIte, inb, zl, zi_add, zi_sub, zi_mul, zi_neg, zi_le_t, zi_le_f, zi_lt_t, zi_lt_f, zi_eq_t, zi_eq_f, if_true, if_false, ite_true, ite_false, true_and, and_true, false_and, and_false, not_true_eq_false, not_false_eq_true, true_or, or_true, false_or, or_false, and_self, ge_iff_le, gt_iff_lt]
            rfl
        · refine ⟨20, by omega, ?_, ?_⟩
          · have fc := fc 20
            simp (disch := omega) only [F_St_makeRow, F_Ma_min, ↓bnd_eq, bd2, bn2, Option.bind_some, Option.bind_none, R.2.2.1, fc, ↓reduceIte, inb, zl, zi_add, zi_sub, zi_mul, zi_neg, zi_le_t, zi_le_f, zi_lt_t, zi_lt_f, zi_eq_t, zi_eq_f, if_true, if_false, ite_true, ite_false, true_and, and_true, false_and, and_false, not_true_eq_false, not_false_eq_true, true_or, or_true, false_or, or_false, and_self, ge_iff_le, gt_iff_lt]
            rfl
          · have fm := fm 20
            simp (disch := omega) only [F_M_makes, F_M_makes_28, ↓bnd_eq, bd2, bn2, Option.bind_some, Option.bind_none, fm, ↓reduceIte, inb, zl, zi_add, zi_sub, zi_mul, zi_neg, zi_le_t, zi_le_f, zi_lt_t, zi_lt_f, zi_eq_t, zi_eq_f, if_true, if_false, ite_true, ite_false, true_and, and_true, false_and, and_false, not_true_eq_false, not_false_eq_true, true_or, or_true, false_or, or_false, and_self, ge_iff_le, gt_iff_lt]
            rfl
      obtain ⟨r, hr, E1, E2⟩ := E0
      refine ⟨sI (sW (sA δc 78 s (zi i) (zi r)) 79 s (fr1 (δc.2.1 79 s) (i * 20) (i * 20 + 20) (zi 0))) 53 a (zi 0), sW (sA δm 139 23 (zi i) (zi r)) 140 23 (fr1 (δm.2.1 140 23) (20 * i + 0) (20 * i + 20) (zi 0)), ?_, ?_, sI_at.trans z'.symm, R.make wg ⟨i0, i1⟩ hr, hT, hY1, (((Fr.rf.sA (Or.inl ⟨rfl, by decide, by decide⟩)).sW (Or.inl ⟨rfl, by decide, by decide⟩)).sI (Or.inr ⟨rfl, by decide⟩)), ((Fr.rf.sA (by decide)).sW (by decide))⟩
      · simp only [F_Ru_doOrder, hp, hs, zl, zi_add, zi_sub, zi_mul, zi_neg]
        simp (disch := omega) only [↓bnd_eq, bd2, bn2, Option.bind_some, Option.bind_none, ↓bse ck0, ↓b2e E1, ↓reduceIte, inb, zl, zi_add, zi_sub, zi_mul, zi_neg, zi_le_t, zi_le_f, zi_lt_t, zi_lt_f, zi_eq_t, zi_eq_f, if_true, if_false, ite_true, ite_false, true_and, and_true, false_and, and_false, not_true_eq_false, not_false_eq_true, true_or, or_true, false_or, or_false, and_self, ge_iff_le, gt_iff_lt]
      · simp (disch := omega) only [F_M_does, ↓bnd_eq, bd2, bn2, Option.bind_some, Option.bind_none, f0, e134, e135, ↓bse E2, ↓reduceIte, inb, zl, zi_add, zi_sub, zi_mul, zi_neg, zi_le_t, zi_le_f, zi_lt_t, zi_lt_f, zi_eq_t, zi_eq_f, if_true, if_false, ite_true, ite_false, true_and, and_true, false_and, and_false, not_true_eq_false, not_false_eq_true, true_or, or_true, false_or, or_false, and_self, ge_iff_le, gt_iff_lt]
  · -- LAY
    by_cases q1 : rl = -1
    · subst q1
      have c1 : F_St_refusalOfItem s (zi i) f δc = some (zi (-11)) := by
        simp (disch := omega) only [F_St_refusalOfItem, ↓bnd_eq, bd2, bn2, Option.bind_some, Option.bind_none, R.2.2.1, e78, ↓reduceIte, inb, zl, zi_add, zi_sub, zi_mul, zi_neg, zi_le_t, zi_le_f, zi_lt_t, zi_lt_f, zi_eq_t, zi_eq_f, if_true, if_false, ite_true, ite_false, true_and, and_true, false_and, and_false, not_true_eq_false, not_false_eq_true, true_or, or_true, false_or, or_false, and_self, ge_iff_le, gt_iff_lt]
      have c2 : F_St_setItem s (zi i) f u (sI δc 53 a (zi (-11))) = some (sI δc 53 a (zi (-11))) := by
        have r1 : (sI δc 53 a (zi (-11))).1 72 s = zi (g.2.2.1) := R.2.2.1
        obtain ⟨j, rfl, hj⟩ := zi_ex f
        by_cases qj : j < 0
        · simp (disch := omega) only [F_St_setItem, ↓bnd_eq, bd2, bn2, Option.bind_some, Option.bind_none, r1, q2I, e78, ↓reduceIte, inb, zl, zi_add, zi_sub, zi_mul, zi_neg, zi_le_t, zi_le_f, zi_lt_t, zi_lt_f, zi_eq_t, zi_eq_f, if_true, if_false, ite_true, ite_false, true_and, and_true, false_and, and_false, not_true_eq_false, not_false_eq_true, true_or, or_true, false_or, or_false, and_self, ge_iff_le, gt_iff_lt]
        · simp (disch := omega) only [F_St_setItem, ↓bnd_eq, bd2, bn2, Option.bind_some, Option.bind_none, r1, q2I, e78, ↓reduceIte, inb, zl, zi_add, zi_sub, zi_mul, zi_neg, zi_le_t, zi_le_f, zi_lt_t, zi_lt_f, zi_eq_t, zi_eq_f, if_true, if_false, ite_true, ite_false, true_and, and_true, false_and, and_false, not_true_eq_false, not_false_eq_true, true_or, or_true, false_or, or_false, and_self, ge_iff_le, gt_iff_lt]
      refine ⟨sI δc 53 a (zi (-11)), sI δm 174 23 (zi (-11)), ?_, ?_, sI_at.trans sI_at.symm, R, hT, hY1, Fr.rf.sI (Or.inr ⟨rfl, by decide⟩), Fr.rf.sI (by decide)⟩
      · simp only [F_Ru_doOrder, hp, hs, zl, zi_add, zi_sub, zi_mul, zi_neg]
        simp (disch := omega) only [↓bnd_eq, bd2, bn2, Option.bind_some, Option.bind_none, ↓bse ck0, ↓bse c1, ↓bse c2, ↓reduceIte, inb, zl, zi_add, zi_sub, zi_mul, zi_neg, zi_le_t, zi_le_f, zi_lt_t, zi_lt_f, zi_eq_t, zi_eq_f, if_true, if_false, ite_true, ite_false, true_and, and_true, false_and, and_false, not_true_eq_false, not_false_eq_true, true_or, or_true, false_or, or_false, and_self, ge_iff_le, gt_iff_lt]
      · simp (disch := omega) only [F_M_does, F_M_lays, ↓bnd_eq, bd2, bn2, Option.bind_some, Option.bind_none, f0, e134, e135, e139, ↓reduceIte, inb, zl, zi_add, zi_sub, zi_mul, zi_neg, zi_le_t, zi_le_f, zi_lt_t, zi_lt_f, zi_eq_t, zi_eq_f, if_true, if_false, ite_true, ite_false, true_and, and_true, false_and, and_false, not_true_eq_false, not_false_eq_true, true_or, or_true, false_or, or_false, and_self, ge_iff_le, gt_iff_lt]
    · obtain ⟨j, rfl, hj⟩ := zi_ex f
      by_cases qj : 0 ≤ j ∧ j < rl
      · have c1 : F_St_refusalOfItem s (zi i) (zi j) δc = some (zi 0) := by
          simp (disch := omega) only [F_St_refusalOfItem, ↓bnd_eq, bd2, bn2, Option.bind_some, Option.bind_none, R.2.2.1, e78, ↓reduceIte, inb, zl, zi_add, zi_sub, zi_mul, zi_neg, zi_le_t, zi_le_f, zi_lt_t, zi_lt_f, zi_eq_t, zi_eq_f, if_true, if_false, ite_true, ite_false, true_and, and_true, false_and, and_false, not_true_eq_false, not_false_eq_true, true_or, or_true, false_or, or_false, and_self, ge_iff_le, gt_iff_lt]
        have c2 : F_St_setItem s (zi i) (zi j) u (sI δc 53 a (zi 0)) = some (sI (sA δc 79 s (zi (i * 20 + j)) u) 53 a (zi 0)) := by
          have r1 : (sI δc 53 a (zi 0)).1 72 s = zi (g.2.2.1) := R.2.2.1
          simp (disch := omega) only [F_St_setItem, ↓bnd_eq, bd2, bn2, Option.bind_some, Option.bind_none, r1, q2I, e78, sA_sI, ↓reduceIte, inb, zl, zi_add, zi_sub, zi_mul, zi_neg, zi_le_t, zi_le_f, zi_lt_t, zi_lt_f, zi_eq_t, zi_eq_f, if_true, if_false, ite_true, ite_false, true_and, and_true, false_and, and_false, not_true_eq_false, not_false_eq_true, true_or, or_true, false_or, or_false, and_self, ge_iff_le, gt_iff_lt]
        refine ⟨sI (sA δc 79 s (zi (i * 20 + j)) u) 53 a (zi 0), sA δm 140 23 (zi (20 * i + j)) u, ?_, ?_, sI_at.trans z'.symm, R.item wg ⟨i0, i1⟩ (by omega), hT, hY1, (Fr.rf.sA (Or.inl ⟨rfl, by decide, by decide⟩)).sI (Or.inr ⟨rfl, by decide⟩), Fr.rf.sA (by decide)⟩
        · simp only [F_Ru_doOrder, hp, hs, zl, zi_add, zi_sub, zi_mul, zi_neg]
          simp (disch := omega) only [↓bnd_eq, bd2, bn2, Option.bind_some, Option.bind_none, ↓bse ck0, ↓bse c1, ↓bse c2, ↓reduceIte, inb, zl, zi_add, zi_sub, zi_mul, zi_neg, zi_le_t, zi_le_f, zi_lt_t, zi_lt_f, zi_eq_t, zi_eq_f, if_true, if_false, ite_true, ite_false, true_and, and_true, false_and, and_false, not_true_eq_false, not_false_eq_true, true_or, or_true, false_or, or_false, and_self, ge_iff_le, gt_iff_lt]
        · simp (disch := omega) only [F_M_does, F_M_lays, F_M_within, ↓bnd_eq, bd2, bn2, Option.bind_some, Option.bind_none, f0, e134, e135, e139, ↓reduceIte, inb, zl, zi_add, zi_sub, zi_mul, zi_neg, zi_le_t, zi_le_f, zi_lt_t, zi_lt_f, zi_eq_t, zi_eq_f, if_true, if_false, ite_true, ite_false, true_and, and_true, false_and, and_false, not_true_eq_false, not_false_eq_true, true_or, or_true, false_or, or_false, and_self, ge_iff_le, gt_iff_lt]
      · have c1 : F_St_refusalOfItem s (zi i) (zi j) δc = some (zi (-12)) := by
          by_cases qj0 : j < 0
          · simp (disch := omega) only [F_St_refusalOfItem, ↓bnd_eq, bd2, bn2, Option.bind_some, Option.bind_none, R.2.2.1, e78, ↓reduceIte, inb, zl, zi_add, zi_sub, zi_mul, zi_neg, zi_le_t, zi_le_f, zi_lt_t, zi_lt_f, zi_eq_t, zi_eq_f, if_true, if_false, ite_true, ite_false, true_and, and_true, false_and, and_false, not_true_eq_false, not_false_eq_true, true_or, or_true, false_or, or_false, and_self, ge_iff_le, gt_iff_lt]
          · simp (disch := omega) only [F_St_refusalOfItem, ↓bnd_eq, bd2, bn2, Option.bind_some, Option.bind_none, R.2.2.1, e78, ↓reduceIte, inb, zl, zi_add, zi_sub, zi_mul, zi_neg, zi_le_t, zi_le_f, zi_lt_t, zi_lt_f, zi_eq_t, zi_eq_f, if_true, if_false, ite_true, ite_false, true_and, and_true, false_and, and_false, not_true_eq_false, not_false_eq_true, true_or, or_true, false_or, or_false, and_self, ge_iff_le, gt_iff_lt]
        have c2 : F_St_setItem s (zi i) (zi j) u (sI δc 53 a (zi (-12))) = some (sI δc 53 a (zi (-12))) := by
          have r1 : (sI δc 53 a (zi (-12))).1 72 s = zi (g.2.2.1) := R.2.2.1
          by_cases qj0 : j < 0
          · simp (disch := omega) only [F_St_setItem, ↓bnd_eq, bd2, bn2, Option.bind_some, Option.bind_none, r1, q2I, e78, ↓reduceIte, inb, zl, zi_add, zi_sub, zi_mul, zi_neg, zi_le_t, zi_le_f, zi_lt_t, zi_lt_f, zi_eq_t, zi_eq_f, if_true, if_false, ite_true, ite_false, true_and, and_true, false_and, and_false, not_true_eq_false, not_false_eq_true, true_or, or_true, false_or, or_false, and_self, ge_iff_le, gt_iff_lt]
          · simp (disch := omega) only [F_St_setItem, ↓bnd_eq, bd2, bn2, Option.bind_some, Option.bind_none, r1, q2I, e78, ↓reduceIte, inb, zl, zi_add, zi_sub, zi_mul, zi_neg, zi_le_t, zi_le_f, zi_lt_t, zi_lt_f, zi_eq_t, zi_eq_f, if_true, if_false, ite_true, ite_false, true_and, and_true, false_and, and_false, not_true_eq_false, not_false_eq_true, true_or, or_true, false_or, or_false, and_self, ge_iff_le, gt_iff_lt]
        refine ⟨sI δc 53 a (zi (-12)), sI δm 174 23 (zi (-12)), ?_, ?_, sI_at.trans sI_at.symm, R, hT, hY1, Fr.rf.sI (Or.inr ⟨rfl, by decide⟩), Fr.rf.sI (by decide)⟩
        · simp only [F_Ru_doOrder, hp, hs, zl, zi_add, zi_sub, zi_mul, zi_neg]
          simp (disch := omega) only [↓bnd_eq, bd2, bn2, Option.bind_some, Option.bind_none, ↓bse ck0, ↓bse c1, ↓bse c2, ↓reduceIte, inb, zl, zi_add, zi_sub, zi_mul, zi_neg, zi_le_t, zi_le_f, zi_lt_t, zi_lt_f, zi_eq_t, zi_eq_f, if_true, if_false, ite_true, ite_false, true_and, and_true, false_and, and_false, not_true_eq_false, not_false_eq_true, true_or, or_true, false_or, or_false, and_self, ge_iff_le, gt_iff_lt]
        · by_cases qj0 : j < 0
          · simp (disch := omega) only [F_M_does, F_M_lays, F_M_within, ↓bnd_eq, bd2, bn2, Option.bind_some, Option.bind_none, f0, e134, e135, e139, ↓reduceIte, inb, zl, zi_add, zi_sub, zi_mul, zi_neg, zi_le_t, zi_le_f, zi_lt_t, zi_lt_f, zi_eq_t, zi_eq_f, if_true, if_false, ite_true, ite_false, true_and, and_true, false_and, and_false, not_true_eq_false, not_false_eq_true, true_or, or_true, false_or, or_false, and_self, ge_iff_le, gt_iff_lt]
          · simp (disch := omega) only [F_M_does, F_M_lays, F_M_within, ↓bnd_eq, bd2, bn2, Option.bind_some, Option.bind_none, f0, e134, e135, e139, ↓reduceIte, inb, zl, zi_add, zi_sub, zi_mul, zi_neg, zi_le_t, zi_le_f, zi_lt_t, zi_lt_f, zi_eq_t, zi_eq_f, if_true, if_false, ite_true, ite_false, true_and, and_true, false_and, and_false, not_true_eq_false, not_false_eq_true, true_or, or_true, false_or, or_false, and_self, ge_iff_le, gt_iff_lt]
end DS
