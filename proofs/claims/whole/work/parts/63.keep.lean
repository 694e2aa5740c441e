/-! lay, keep, use (wip/whole/pure) -/
theorem st_lay (x1 x2 x3 : Int32) : S2 INV (F_Bs_lay x1 x2 x3) (F_M_lay x1 x2 x3) := by
  intro δ I
  obtain ⟨⟨v, g, h1, h2, h4⟩, ⟨kn, gk, h3⟩, hr⟩ := id I
  obtain ⟨wg, G, Mg⟩ := id h2
  have hw := wg.1
  have hh := wg.2.1
  have hm := kw wg.1 wg.2.1
  obtain ⟨s, rfl, hs0⟩ := zi_ex x1
  obtain ⟨t, rfl, ht0⟩ := zi_ex x2
  obtain ⟨o, rfl, ho0⟩ := zi_ex x3
  by_cases qs : 0 ≤ s ∧ s < 3
  · have w1 : F_M_isSheet (zi s) = zi 1 := by simp (disch := omega) only [F_M_isSheet, F_M_within, ↓bnd_eq, bd2, bn2, Option.bind_some, Option.bind_none, ↓reduceIte, inb, zl, zi_add, zi_sub, zi_mul, zi_neg, zi_le_t, zi_le_f, zi_lt_t, zi_lt_f, zi_eq_t, zi_eq_f, if_true, if_false, ite_true, ite_false, true_and, and_true, false_and, and_false, not_true_eq_false, not_false_eq_true, true_or, or_true, false_or, or_false, and_self, ge_iff_le, gt_iff_lt]
    have w1' : F_Sh_isSheet (zi s) = zi 1 := by simp (disch := omega) only [F_Sh_isSheet, ↓reduceIte, inb, zl, zi_add, zi_sub, zi_mul, zi_neg, zi_le_t, zi_le_f, zi_lt_t, zi_lt_f, zi_eq_t, zi_eq_f, if_true, if_false, ite_true, ite_false, true_and, and_true, false_and, and_false, not_true_eq_false, not_false_eq_true, true_or, or_true, false_or, or_false, and_self, ge_iff_le, gt_iff_lt]
    by_cases qt : 0 ≤ t ∧ t < 3
    · have w2 : F_M_within (zi t) (zi 0) (zi 2) = zi 1 := by simp (disch := omega) only [F_M_within, ↓reduceIte, inb, zl, zi_add, zi_sub, zi_mul, zi_neg, zi_le_t, zi_le_f, zi_lt_t, zi_lt_f, zi_eq_t, zi_eq_f, if_true, if_false, ite_true, ite_false, true_and, and_true, false_and, and_false, not_true_eq_false, not_false_eq_true, true_or, or_true, false_or, or_false, and_self, ge_iff_le, gt_iff_lt]
      have w2' : F_Sh_isSort (zi t) = zi 1 := by simp (disch := omega) only [F_Sh_isSort, ↓reduceIte, inb, zl, zi_add, zi_sub, zi_mul, zi_neg, zi_le_t, zi_le_f, zi_lt_t, zi_lt_f, zi_eq_t, zi_eq_f, if_true, if_false, ite_true, ite_false, true_and, and_true, false_and, and_false, not_true_eq_false, not_false_eq_true, true_or, or_true, false_or, or_false, and_self, ge_iff_le, gt_iff_lt]
      obtain ⟨so, n, hso, hn, e60, e171, e61, e172, ei⟩ := hr.2.2.2.2.2.2.1 s qs.1 qs.2
      have cs : F_Sh_sortOf 18 (zi s) δ = some (zi so) := by simp (disch := omega) only [F_Sh_sortOf, e60, ↓reduceIte, inb, zl, zi_add, zi_sub, zi_mul, zi_neg, zi_le_t, zi_le_f, zi_lt_t, zi_lt_f, zi_eq_t, zi_eq_f, if_true, if_false, ite_true, ite_false, true_and, and_true, false_and, and_false, not_true_eq_false, not_false_eq_true, true_or, or_true, false_or, or_false, and_self, ge_iff_le, gt_iff_lt]
      by_cases q1 : so = -1
      · subst q1
        refine ⟨zi (-11), δ, δ, ?_, ?_, I, rfl⟩
        · simp (disch := omega) only [F_Bs_lay, F_Sh_isMissing, ↓bnd_eq, bd2, bn2, Option.bind_some, Option.bind_none, w1', w2', ↓bse cs, ↓reduceIte, inb, zl, zi_add, zi_sub, zi_mul, zi_neg, zi_le_t, zi_le_f, zi_lt_t, zi_lt_f, zi_eq_t, zi_eq_f, if_true, if_false, ite_true, ite_false, true_and, and_true, false_and, and_false, not_true_eq_false, not_false_eq_true, true_or, or_true, false_or, or_false, and_self, ge_iff_le, gt_iff_lt]
        · simp (disch := omega) only [F_M_lay, F_M_lay_42, ↓bnd_eq, bd2, bn2, Option.bind_some, Option.bind_none, w1, w2, e171, ↓reduceIte, inb, zl, zi_add, zi_sub, zi_mul, zi_neg, zi_le_t, zi_le_f, zi_lt_t, zi_lt_f, zi_eq_t, zi_eq_f, if_true, if_false, ite_true, ite_false, true_and, and_true, false_and, and_false, not_true_eq_false, not_false_eq_true, true_or, or_true, false_or, or_false, and_self, ge_iff_le, gt_iff_lt]
      · by_cases q2 : so = t
        · subst q2
          have mlx : ∀ δm : Dl, δm.2.1 171 23 = δ.2.1 171 23 → F_M_lay (zi s) (zi so) (zi o) δm = F_M_lay_42 (zi s) (zi so) (zi o) δm := by
            intro δm e
            have e171' : δm.2.1 171 23 (zi s) = zi so := by rw [e]; exact e171
            simp (disch := omega) only [F_M_lay, ↓bnd_eq, bd2, bn2, Option.bind_some, Option.bind_none, w1, w2, e171', ↓reduceIte, inb, zl, zi_add, zi_sub, zi_mul, zi_neg, zi_le_t, zi_le_f, zi_lt_t, zi_lt_f, zi_eq_t, zi_eq_f, if_true, if_false, ite_true, ite_false, true_and, and_true, false_and, and_false, not_true_eq_false, not_false_eq_true, true_or, or_true, false_or, or_false, and_self, ge_iff_le, gt_iff_lt]
          have cm : F_Sh_isMissing 18 (zi s) δ = some (zi 0) := by simp (disch := omega) only [F_Sh_isMissing, ↓bse cs, ↓reduceIte, inb, zl, zi_add, zi_sub, zi_mul, zi_neg, zi_le_t, zi_le_f, zi_lt_t, zi_lt_f, zi_eq_t, zi_eq_f, if_true, if_false, ite_true, ite_false, true_and, and_true, false_and, and_false, not_true_eq_false, not_false_eq_true, true_or, or_true, false_or, or_false, and_self, ge_iff_le, gt_iff_lt]
          have g110 : δ.2.1 110 23 (zi 4) = zi (g.1) := Mg.1
          have g111 : δ.2.1 111 23 (zi 4) = zi (g.2.1) := Mg.2.1
          by_cases q3 : 0 ≤ o ∧ o + g.1 * g.2.1 ≤ n
          · have ch : F_Sh_hasItems 18 (zi s) (zi o) (zi (g.1 * g.2.1)) δ = some (zi 1) := by simp (disch := omega) only [F_Sh_hasItems, e61, ↓reduceIte, inb, zl, zi_add, zi_sub, zi_mul, zi_neg, zi_le_t, zi_le_f, zi_lt_t, zi_lt_f, zi_eq_t, zi_eq_f, if_true, if_false, ite_true, ite_false, true_and, and_true, false_and, and_false, not_true_eq_false, not_false_eq_true, true_or, or_true, false_or, or_false, and_self, ge_iff_le, gt_iff_lt]
            have hI : Itm g s o (fun k => (δ.2.1 173 23 (zi (70 * s + o + k))).toInt) δ := by
              intro k k0 k1
              refine ⟨?_, zi_of _, Int32.le_toInt _, Int32.toInt_lt _⟩
              rw [c_itemAt qs e61 hn ⟨by omega, by omega⟩, ei (o + k) (by omega) (by omega), show 70 * s + (o + k) = 70 * s + o + k by omega, ← zi_of]
            have ml : ∀ δm : Dl, δm.2.1 171 23 = δ.2.1 171 23 → δm.2.1 172 23 = δ.2.1 172 23 → δm.2.1 110 23 = δ.2.1 110 23 → δm.2.1 111 23 = δ.2.1 111 23 → F_M_lay (zi s) (zi so) (zi o) δm = F_M_lay_97 (zi s) (zi so) (zi o) FU (zi (g.1)) (zi (g.1 * g.2.1)) (zi 0) δm := by
              intro δm e1 e2 e3 e4
              rw [mlx δm e1]
              have e171' : δm.2.1 171 23 (zi s) = zi so := by rw [e1]; exact e171
              have e172' : δm.2.1 172 23 (zi s) = zi n := by rw [e2]; exact e172
              have e110' : δm.2.1 110 23 (zi 4) = zi (g.1) := by rw [e3]; exact g110
              have e111' : δm.2.1 111 23 (zi 4) = zi (g.2.1) := by rw [e4]; exact g111
              unfold F_M_lay_42
              rw [bnd_eq]
              simp (disch := omega) only [e171', e172', e110', e111', ↓reduceIte, inb, zl, zi_add, zi_sub, zi_mul, zi_neg, zi_le_t, zi_le_f, zi_lt_t, zi_lt_f, zi_eq_t, zi_eq_f, if_true, if_false, ite_true, ite_false, true_and, and_true, false_and, and_false, not_true_eq_false, not_false_eq_true, true_or, or_true, false_or, or_false, and_self, ge_iff_le, gt_iff_lt]
            have tc : F_St_takesCells 3 18 (zi s) (zi o) δ = F_St_takesCells_3 3 18 (zi s) (zi o) FU (zi 0) δ := by unfold F_St_takesCells; rw [zl0]
            have r := lay_ch wg G Mg qs ⟨q3.1, by omega⟩ hI (δm := δ) (fun _ _ => rfl) rfl (x2 := zi so) 8 0 FU FU (by omega) (by omega) (by omega) (by unfold FU; omega) (by unfold FU; omega)
            rw [show 0 * g.1 = 0 by omega] at r
            rcases r with ⟨c0, m0⟩ | ⟨c1, m1, hit⟩
            · refine ⟨zi (-3), δ, δ, ?_, ?_, I, rfl⟩
              · rw [← tc] at c0
                simp (disch := omega) only [F_Bs_lay, ↓bnd_eq, bd2, bn2, Option.bind_some, Option.bind_none, w1', w2', ↓bse cm, ↓bse cs, G.1, G.2.1, ↓bse ch, ↓bse c0, ↓reduceIte, inb, zl, zi_add, zi_sub, zi_mul, zi_neg, zi_le_t, zi_le_f, zi_lt_t, zi_lt_f, zi_eq_t, zi_eq_f, if_true, if_false, ite_true, ite_false, true_and, and_true, false_and, and_false, not_true_eq_false, not_false_eq_true, true_or, or_true, false_or, or_false, and_self, ge_iff_le, gt_iff_lt]
              · rw [ml δ rfl rfl rfl rfl, m0]
            · have wl : WG (lgG g (fun k => (δ.2.1 173 23 (zi (70 * s + o + k))).toInt) (g.1 * g.2.1)) := wg.lg (fun j j0 j1 => hit j (by omega) j1)
              have hit' : ∀ j, 0 ≤ j → j < g.1 * g.2.1 → -1 ≤ (δ.2.1 173 23 (zi (70 * s + o + j))).toInt ∧ (δ.2.1 173 23 (zi (70 * s + o + j))).toInt ≤ 9 := fun j j0 j1 => hit j (by omega) j1
              have l0 : ∀ x y, 0 ≤ x → x < g.1 → 0 ≤ y → y < g.2.1 → ∀ it : Int → Int, g.2.2.2.1 x y = (lgG g it 0).2.2.2.1 x y := by
                intro x y x0 x1 y0 y1 it
                have := kf wg.1 wg.2.1 ⟨x0, x1⟩ ⟨y0, y1⟩
                show g.2.2.2.1 x y = if y * g.1 + x < 0 then it (y * g.1 + x) else g.2.2.2.1 x y
                rw [if_neg (by omega)]
              obtain ⟨d1, e1, C1, F1⟩ := lay_set (s := s) (o := o) wg hI hit' 8 0 FU δ (by omega) (by omega) (by omega) (by unfold FU; omega) (by rw [show 0 * g.1 = 0 by omega]; exact G.cg rfl rfl rfl (fun x y x0 x1 y0 y1 => l0 x y x0 x1 y0 y1 _) rfl rfl rfl) Fr.rf
              have F1' : Fr (fun f a => (a = 3 ∧ f = 73) ∨ (f = 42 ∧ a = 8)) δ (sI d1 42 8 (zi 0)) := (Fr.to (S' := fun f a => (a = 3 ∧ f = 73) ∨ (f = 42 ∧ a = 8)) F1 (fun f a e => Or.inl e)).sI (Or.inr ⟨rfl, rfl⟩)
              have r23 : ∀ f, (sI d1 42 8 (zi 0)).2.1 f 23 = δ.2.1 f 23 := fun f => (F1'.2 f 23 (fun e => by omega)).2
              have Md : MG 4 (sI d1 42 8 (zi 0)) g := Mg.fr F1' (fun f q1 q2 e => by omega)
              have r2 := lay_ch wg G Mg qs ⟨q3.1, by omega⟩ hI (δm := sI d1 42 8 (zi 0)) (fun x y => m_standsF (r23 113) (r23 114) (r23 115)) (r23 173) (x2 := zi so) 8 0 FU FU (by omega) (by omega) (by omega) (by unfold FU; omega) (by unfold FU; omega)
              rw [show 0 * g.1 = 0 by omega, c1] at r2
              have m2 : F_M_lay_97 (zi s) (zi so) (zi o) FU (zi (g.1)) (zi (g.1 * g.2.1)) (zi 0) (sI d1 42 8 (zi 0)) = F_M_lay_166 (zi s) (zi so) (zi o) FU (zi (g.1)) (zi (g.1 * g.2.1)) (zi 0) (sI d1 42 8 (zi 0)) := by
                rcases r2 with ⟨c0, -⟩ | ⟨-, m2, -⟩
                · exact absurd (zi_inj (Option.some.inj c0) (by omega) (by omega)) (by decide)
                · exact m2
              obtain ⟨d2, e2, M2, F2, K2⟩ := lay_m (δ := sI d1 42 8 (zi 0)) wg qs ⟨q3.1, by omega⟩ (it := fun k => (δ.2.1 173 23 (zi (70 * s + o + k))).toInt) (fun k k0 k1 => by rw [r23 173]; exact zi_of _) hit' (x2 := zi so) 64 0 FU (sI d1 42 8 (zi 0)) (by omega) (by omega) (by omega) (by unfold FU; omega) (Md.cg rfl rfl rfl (fun x y x0 x1 y0 y1 => l0 x y x0 x1 y0 y1 _) rfl rfl rfl) Fr.rf
              have F : Fr SBg δ (sI d2 152 23 (zi (-1))) := ((Fr.to (S' := SBg) F1' (fun f a e => by
                rcases e with e | e
                · exact Or.inl ⟨e.1, by omega, by omega⟩
                · exact Or.inr (Or.inl e))).tr (Fr.to (S' := SBg) F2 (fun f a e => Or.inr (Or.inr ⟨e.1, Or.inl ⟨by omega, by omega⟩⟩)))).sI (Or.inr (Or.inr ⟨rfl, Or.inr rfl⟩))
              have K : MK 4 δ (sI d2 152 23 (zi (-1))) := ((MK.rf.fr F1' (fun f q1 q2 e => by omega)).tr K2).sI
              have C1' : CG 3 (sI d1 42 8 (zi 0)) (lgG g (fun k => (δ.2.1 173 23 (zi (70 * s + o + k))).toInt) (g.1 * g.2.1)) := C1
              have C2 : CG 3 d2 (lgG g (fun k => (δ.2.1 173 23 (zi (70 * s + o + k))).toInt) (g.1 * g.2.1)) := C1'.fr F2 (fun f q1 q2 e => absurd e.1 (by decide))
              refine ⟨zi 1, sI d1 42 8 (zi 0), sI d2 152 23 (zi (-1)), ?_, ?_, INV.beg h1 h3 hr F K ⟨wl, C2, M2⟩ ?_ sI_at, by rw [F.1]⟩
              · rw [← tc] at c1
                have sc : F_St_setCells 3 18 (zi s) (zi o) δ = some d1 := by unfold F_St_setCells; rw [zl0]; exact e1
                simp (disch := omega) only [F_Bs_lay, ↓bnd_eq, bd2, bn2, Option.bind_some, Option.bind_none, w1', w2', ↓bse cm, ↓bse cs, G.1, G.2.1, ↓bse ch, ↓bse c1, ↓bse sc, ↓reduceIte, inb, zl, zi_add, zi_sub, zi_mul, zi_neg, zi_le_t, zi_le_f, zi_lt_t, zi_lt_f, zi_eq_t, zi_eq_f, if_true, if_false, ite_true, ite_false, true_and, and_true, false_and, and_false, not_true_eq_false, not_false_eq_true, true_or, or_true, false_or, or_false, and_self, ge_iff_le, gt_iff_lt]
              · rw [ml _ (r23 171) (r23 172) (r23 110) (r23 111), m2, e2]
              · show d2.1 42 8 = zi 0
                rw [(F2.2 42 8 (fun e => absurd e.1 (by decide))).1, sI_at]
          · have m42 : F_M_lay_42 (zi s) (zi so) (zi o) δ = some (zi (-12), δ) := by
              unfold F_M_lay_42
              rw [bnd_eq]
              by_cases q4 : o < 0
              · simp (disch := omega) only [e171, e172, g110, g111, ↓reduceIte, inb, zl, zi_add, zi_sub, zi_mul, zi_neg, zi_le_t, zi_le_f, zi_lt_t, zi_lt_f, zi_eq_t, zi_eq_f, if_true, if_false, ite_true, ite_false, true_and, and_true, false_and, and_false, not_true_eq_false, not_false_eq_true, true_or, or_true, false_or, or_false, and_self, ge_iff_le, gt_iff_lt]
              · simp (disch := omega) only [e171, e172, g110, g111, ↓reduceIte, inb, zl, zi_add, zi_sub, zi_mul, zi_neg, zi_le_t, zi_le_f, zi_lt_t, zi_lt_f, zi_eq_t, zi_eq_f, if_true, if_false, ite_true, ite_false, true_and, and_true, false_and, and_false, not_true_eq_false, not_false_eq_true, true_or, or_true, false_or, or_false, and_self, ge_iff_le, gt_iff_lt]
            have ch : F_Sh_hasItems 18 (zi s) (zi o) (zi (g.1 * g.2.1)) δ = some (zi 0) := by
              by_cases q4 : o < 0
              · simp (disch := omega) only [F_Sh_hasItems, e61, ↓reduceIte, inb, zl, zi_add, zi_sub, zi_mul, zi_neg, zi_le_t, zi_le_f, zi_lt_t, zi_lt_f, zi_eq_t, zi_eq_f, if_true, if_false, ite_true, ite_false, true_and, and_true, false_and, and_false, not_true_eq_false, not_false_eq_true, true_or, or_true, false_or, or_false, and_self, ge_iff_le, gt_iff_lt]
              · by_cases q5 : n < o
                · simp (disch := omega) only [F_Sh_hasItems, e61, ↓reduceIte, inb, zl, zi_add, zi_sub, zi_mul, zi_neg, zi_le_t, zi_le_f, zi_lt_t, zi_lt_f, zi_eq_t, zi_eq_f, if_true, if_false, ite_true, ite_false, true_and, and_true, false_and, and_false, not_true_eq_false, not_false_eq_true, true_or, or_true, false_or, or_false, and_self, ge_iff_le, gt_iff_lt]
                · simp (disch := omega) only [F_Sh_hasItems, e61, ↓reduceIte, inb, zl, zi_add, zi_sub, zi_mul, zi_neg, zi_le_t, zi_le_f, zi_lt_t, zi_lt_f, zi_eq_t, zi_eq_f, if_true, if_false, ite_true, ite_false, true_and, and_true, false_and, and_false, not_true_eq_false, not_false_eq_true, true_or, or_true, false_or, or_false, and_self, ge_iff_le, gt_iff_lt]
            refine ⟨zi (-12), δ, δ, ?_, ?_, I, rfl⟩
            · simp (disch := omega) only [F_Bs_lay, ↓bnd_eq, bd2, bn2, Option.bind_some, Option.bind_none, w1', w2', ↓bse cm, ↓bse cs, G.1, G.2.1, ↓bse ch, ↓reduceIte, inb, zl, zi_add, zi_sub, zi_mul, zi_neg, zi_le_t, zi_le_f, zi_lt_t, zi_lt_f, zi_eq_t, zi_eq_f, if_true, if_false, ite_true, ite_false, true_and, and_true, false_and, and_false, not_true_eq_false, not_false_eq_true, true_or, or_true, false_or, or_false, and_self, ge_iff_le, gt_iff_lt]
            · rw [mlx δ rfl, m42]
        · refine ⟨zi (-13), δ, δ, ?_, ?_, I, rfl⟩
          · have cm : F_Sh_isMissing 18 (zi s) δ = some (zi 0) := by simp (disch := omega) only [F_Sh_isMissing, ↓bse cs, ↓reduceIte, inb, zl, zi_add, zi_sub, zi_mul, zi_neg, zi_le_t, zi_le_f, zi_lt_t, zi_lt_f, zi_eq_t, zi_eq_f, if_true, if_false, ite_true, ite_false, true_and, and_true, false_and, and_false, not_true_eq_false, not_false_eq_true, true_or, or_true, false_or, or_false, and_self, ge_iff_le, gt_iff_lt]
            simp (disch := omega) only [F_Bs_lay, ↓bnd_eq, bd2, bn2, Option.bind_some, Option.bind_none, w1', w2', ↓bse cm, ↓bse cs, ↓reduceIte, inb, zl, zi_add, zi_sub, zi_mul, zi_neg, zi_le_t, zi_le_f, zi_lt_t, zi_lt_f, zi_eq_t, zi_eq_f, if_true, if_false, ite_true, ite_false, true_and, and_true, false_and, and_false, not_true_eq_false, not_false_eq_true, true_or, or_true, false_or, or_false, and_self, ge_iff_le, gt_iff_lt]
          · simp (disch := omega) only [F_M_lay, ↓bnd_eq, bd2, bn2, Option.bind_some, Option.bind_none, w1, w2, e171, ↓reduceIte, inb, zl, zi_add, zi_sub, zi_mul, zi_neg, zi_le_t, zi_le_f, zi_lt_t, zi_lt_f, zi_eq_t, zi_eq_f, if_true, if_false, ite_true, ite_false, true_and, and_true, false_and, and_false, not_true_eq_false, not_false_eq_true, true_or, or_true, false_or, or_false, and_self, ge_iff_le, gt_iff_lt]
    · have w2 : F_M_within (zi t) (zi 0) (zi 2) = zi 0 := by
        by_cases q0 : t < 0
        · simp (disch := omega) only [F_M_within, ↓reduceIte, inb, zl, zi_add, zi_sub, zi_mul, zi_neg, zi_le_t, zi_le_f, zi_lt_t, zi_lt_f, zi_eq_t, zi_eq_f, if_true, if_false, ite_true, ite_false, true_and, and_true, false_and, and_false, not_true_eq_false, not_false_eq_true, true_or, or_true, false_or, or_false, and_self, ge_iff_le, gt_iff_lt]
        · simp (disch := omega) only [F_M_within, ↓reduceIte, inb, zl, zi_add, zi_sub, zi_mul, zi_neg, zi_le_t, zi_le_f, zi_lt_t, zi_lt_f, zi_eq_t, zi_eq_f, if_true, if_false, ite_true, ite_false, true_and, and_true, false_and, and_false, not_true_eq_false, not_false_eq_true, true_or, or_true, false_or, or_false, and_self, ge_iff_le, gt_iff_lt]
      have w2' : F_Sh_isSort (zi t) = zi 0 := by
        by_cases q0 : t < 0
        · simp (disch := omega) only [F_Sh_isSort, ↓reduceIte, inb, zl, zi_add, zi_sub, zi_mul, zi_neg, zi_le_t, zi_le_f, zi_lt_t, zi_lt_f, zi_eq_t, zi_eq_f, if_true, if_false, ite_true, ite_false, true_and, and_true, false_and, and_false, not_true_eq_false, not_false_eq_true, true_or, or_true, false_or, or_false, and_self, ge_iff_le, gt_iff_lt]
        · simp (disch := omega) only [F_Sh_isSort, ↓reduceIte, inb, zl, zi_add, zi_sub, zi_mul, zi_neg, zi_le_t, zi_le_f, zi_lt_t, zi_lt_f, zi_eq_t, zi_eq_f, if_true, if_false, ite_true, ite_false, true_and, and_true, false_and, and_false, not_true_eq_false, not_false_eq_true, true_or, or_true, false_or, or_false, and_self, ge_iff_le, gt_iff_lt]
      refine ⟨zi (-2), δ, δ, ?_, ?_, I, rfl⟩
      · simp (disch := omega) only [F_Bs_lay, ↓bnd_eq, bd2, bn2, Option.bind_some, Option.bind_none, w1', w2', ↓reduceIte, inb, zl, zi_add, zi_sub, zi_mul, zi_neg, zi_le_t, zi_le_f, zi_lt_t, zi_lt_f, zi_eq_t, zi_eq_f, if_true, if_false, ite_true, ite_false, true_and, and_true, false_and, and_false, not_true_eq_false, not_false_eq_true, true_or, or_true, false_or, or_false, and_self, ge_iff_le, gt_iff_lt]
      · simp (disch := omega) only [F_M_lay, ↓bnd_eq, bd2, bn2, Option.bind_some, Option.bind_none, w1, w2, ↓reduceIte, inb, zl, zi_add, zi_sub, zi_mul, zi_neg, zi_le_t, zi_le_f, zi_lt_t, zi_lt_f, zi_eq_t, zi_eq_f, if_true, if_false, ite_true, ite_false, true_and, and_true, false_and, and_false, not_true_eq_false, not_false_eq_true, true_or, or_true, false_or, or_false, and_self, ge_iff_le, gt_iff_lt]
  · have w1 : F_M_isSheet (zi s) = zi 0 := by
      by_cases q0 : s < 0
      · simp (disch := omega) only [F_M_isSheet, F_M_within, ↓bnd_eq, bd2, bn2, Option.bind_some, Option.bind_none, ↓reduceIte, inb, zl, zi_add, zi_sub, zi_mul, zi_neg, zi_le_t, zi_le_f, zi_lt_t, zi_lt_f, zi_eq_t, zi_eq_f, if_true, if_false, ite_true, ite_false, true_and, and_true, false_and, and_false, not_true_eq_false, not_false_eq_true, true_or, or_true, false_or, or_false, and_self, ge_iff_le, gt_iff_lt]
      · simp (disch := omega) only [F_M_isSheet, F_M_within, ↓bnd_eq, bd2, bn2, Option.bind_some, Option.bind_none, ↓reduceIte, inb, zl, zi_add, zi_sub, zi_mul, zi_neg, zi_le_t, zi_le_f, zi_lt_t, zi_lt_f, zi_eq_t, zi_eq_f, if_true, if_false, ite_true, ite_false, true_and, and_true, false_and, and_false, not_true_eq_false, not_false_eq_true, true_or, or_true, false_or, or_false, and_self, ge_iff_le, gt_iff_lt]
    have w1' : F_Sh_isSheet (zi s) = zi 0 := by
      by_cases q0 : s < 0
      · simp (disch := omega) only [F_Sh_isSheet, ↓reduceIte, inb, zl, zi_add, zi_sub, zi_mul, zi_neg, zi_le_t, zi_le_f, zi_lt_t, zi_lt_f, zi_eq_t, zi_eq_f, if_true, if_false, ite_true, ite_false, true_and, and_true, false_and, and_false, not_true_eq_false, not_false_eq_true, true_or, or_true, false_or, or_false, and_self, ge_iff_le, gt_iff_lt]
      · simp (disch := omega) only [F_Sh_isSheet, ↓reduceIte, inb, zl, zi_add, zi_sub, zi_mul, zi_neg, zi_le_t, zi_le_f, zi_lt_t, zi_lt_f, zi_eq_t, zi_eq_f, if_true, if_false, ite_true, ite_false, true_and, and_true, false_and, and_false, not_true_eq_false, not_false_eq_true, true_or, or_true, false_or, or_false, and_self, ge_iff_le, gt_iff_lt]
    refine ⟨zi (-2), δ, δ, ?_, ?_, I, rfl⟩
    · simp (disch := omega) only [F_Bs_lay, ↓bnd_eq, bd2, bn2, Option.bind_some, Option.bind_none, w1', ↓reduceIte, inb, zl, zi_add, zi_sub, zi_mul, zi_neg, zi_le_t, zi_le_f, zi_lt_t, zi_lt_f, zi_eq_t, zi_eq_f, if_true, if_false, ite_true, ite_false, true_and, and_true, false_and, and_false, not_true_eq_false, not_false_eq_true, true_or, or_true, false_or, or_false, and_self, ge_iff_le, gt_iff_lt]
    · simp (disch := omega) only [F_M_lay, ↓bnd_eq, bd2, bn2, Option.bind_some, Option.bind_none, w1, ↓reduceIte, inb, zl, zi_add, zi_sub, zi_mul, zi_neg, zi_le_t, zi_le_f, zi_lt_t, zi_lt_f, zi_eq_t, zi_eq_f, if_true, if_false, ite_true, ite_false, true_and, and_true, false_and, and_false, not_true_eq_false, not_false_eq_true, true_or, or_true, false_or, or_false, and_self, ge_iff_le, gt_iff_lt]
/-! the reference's copy of a stage -/
section MC
variable {k l : Int}
theorem m_cp1 (hk : 0 ≤ k ∧ k ≤ 4) (hl : 0 ≤ l ∧ l ≤ 4) (hne : k ≠ l) : ∀ (n : Nat) (i : Int) (fu : Nat) (δ : Dl), 0 ≤ i → i ≤ 64 → (64 - i).toNat ≤ n → n < fu → ∃ δ', F_M_copies_38 (zi k) (zi l) fu (zi i) δ = F_M_copies_74 (zi k) (zi l) FU (zi 0) δ' ∧ Fr S112 δ δ' ∧ MK l δ δ' ∧ ∀ j, 0 ≤ j → j < 64 → δ'.2.1 112 23 (zi (64 * l + j)) = if i ≤ j then δ.2.1 112 23 (zi (64 * k + j)) else δ.2.1 112 23 (zi (64 * l + j)) := by
  intro n
  have done : ∀ (fu : Nat) (δ : Dl), 0 < fu → ∃ δ', F_M_copies_38 (zi k) (zi l) fu (zi 64) δ = F_M_copies_74 (zi k) (zi l) FU (zi 0) δ' ∧ Fr S112 δ δ' ∧ MK l δ δ' ∧ ∀ j, 0 ≤ j → j < 64 → δ'.2.1 112 23 (zi (64 * l + j)) = if (64 : Int) ≤ j then δ.2.1 112 23 (zi (64 * k + j)) else δ.2.1 112 23 (zi (64 * l + j)) := by
    intro fu δ hf
    obtain ⟨fu, rfl⟩ : ∃ q, fu = q + 1 := ⟨fu - 1, by omega⟩
    refine ⟨δ, ?_, Fr.rf, MK.rf, fun j j0 j1 => by rw [if_neg (by omega)]⟩
    simp (disch := omega) only [F_M_copies_38, F_M_copies_38_b, ↓reduceIte, inb, zl, zi_add, zi_sub, zi_mul, zi_neg, zi_le_t, zi_le_f, zi_lt_t, zi_lt_f, zi_eq_t, zi_eq_f, if_true, if_false, ite_true, ite_false, true_and, and_true, false_and, and_false, not_true_eq_false, not_false_eq_true, true_or, or_true, false_or, or_false, and_self, ge_iff_le, gt_iff_lt]
  induction n with
  | zero => intro i fu δ i0 i1 hn hf; have : i = 64 := by omega
            subst this; exact done fu δ hf
  | succ n ih =>
    intro i fu δ i0 i1 hn hf
    by_cases q : i = 64
    · subst q; exact done fu δ (by omega)
    · obtain ⟨fu, rfl⟩ : ∃ q, fu = q + 1 := ⟨fu - 1, by omega⟩
      obtain ⟨δ', e, F, K, r⟩ := ih (i + 1) fu (sA δ 112 23 (zi (64 * l + i)) (δ.2.1 112 23 (zi (64 * k + i)))) (by omega) (by omega) (by omega) (by omega)
      refine ⟨δ', ?_, (Fr.sA (S := S112) Fr.rf ⟨rfl, rfl⟩).tr F, (MK.rf.sA (fun e => by omega) (by omega)).tr K, fun j j0 j1 => ?_⟩
      · rw [← e]
        simp (disch := omega) only [F_M_copies_38, F_M_copies_38_b, ↓bnd_eq, bd2, bn2, Option.bind_some, Option.bind_none, ↓reduceIte, inb, zl, zi_add, zi_sub, zi_mul, zi_neg, zi_le_t, zi_le_f, zi_lt_t, zi_lt_f, zi_eq_t, zi_eq_f, if_true, if_false, ite_true, ite_false, true_and, and_true, false_and, and_false, not_true_eq_false, not_false_eq_true, true_or, or_true, false_or, or_false, and_self, ge_iff_le, gt_iff_lt]
      · have nk : ¬ zi (64 * k + j) = zi (64 * l + i) := fun e => by have := zi_inj e (by omega) (by omega); omega
        rw [r j j0 j1, rAi, rAi, if_neg nk]
        by_cases q1 : i + 1 ≤ j
        · rw [if_pos q1, if_pos (by omega)]
        · rw [if_neg q1]
          by_cases q2 : j = i
          · rw [if_pos (by rw [q2]), if_pos (by omega), q2]
          · rw [if_neg (fun e => q2 (by have := zi_inj e (by omega) (by omega); omega)), if_neg (by omega)]
theorem m_cp2 (hk : 0 ≤ k ∧ k ≤ 4) (hl : 0 ≤ l ∧ l ≤ 4) (hne : k ≠ l) : ∀ (n : Nat) (i : Int) (fu : Nat) (δ : Dl), 0 ≤ i → i ≤ 3 → (3 - i).toNat ≤ n → n < fu → ∃ δ', F_M_copies_74 (zi k) (zi l) fu (zi i) δ = some δ' ∧ Fr (fun f a => a = 23 ∧ 114 ≤ f ∧ f ≤ 116) δ δ' ∧ MK l δ δ' ∧ ∀ f, (f = 114 ∨ f = 115 ∨ f = 116) → ∀ j, 0 ≤ j → j < 3 → δ'.2.1 f 23 (zi (3 * l + j)) = if i ≤ j then δ.2.1 f 23 (zi (3 * k + j)) else δ.2.1 f 23 (zi (3 * l + j)) := by
  intro n
  have done : ∀ (fu : Nat) (δ : Dl), 0 < fu → ∃ δ', F_M_copies_74 (zi k) (zi l) fu (zi 3) δ = some δ' ∧ Fr (fun f a => a = 23 ∧ 114 ≤ f ∧ f ≤ 116) δ δ' ∧ MK l δ δ' ∧ ∀ f, (f = 114 ∨ f = 115 ∨ f = 116) → ∀ j, 0 ≤ j → j < 3 → δ'.2.1 f 23 (zi (3 * l + j)) = if (3 : Int) ≤ j then δ.2.1 f 23 (zi (3 * k + j)) else δ.2.1 f 23 (zi (3 * l + j)) := by
    intro fu δ hf
    obtain ⟨fu, rfl⟩ : ∃ q, fu = q + 1 := ⟨fu - 1, by omega⟩
    refine ⟨δ, ?_, Fr.rf, MK.rf, fun f hf j j0 j1 => by rw [if_neg (by omega)]⟩
    simp (disch := omega) only [F_M_copies_74, F_M_copies_74_b, ↓reduceIte, inb, zl, zi_add, zi_sub, zi_mul, zi_neg, zi_le_t, zi_le_f, zi_lt_t, zi_lt_f, zi_eq_t, zi_eq_f, if_true, if_false, ite_true, ite_false, true_and, and_true, false_and, and_false, not_true_eq_false, not_false_eq_true, true_or, or_true, false_or, or_false, and_self, ge_iff_le, gt_iff_lt]
  induction n with
  | zero => intro i fu δ i0 i1 hn hf; have : i = 3 := by omega
            subst this; exact done fu δ hf
  | succ n ih =>
    intro i fu δ i0 i1 hn hf
    by_cases q : i = 3
    · subst q; exact done fu δ (by omega)
    · obtain ⟨fu, rfl⟩ : ∃ q, fu = q + 1 := ⟨fu - 1, by omega⟩
      obtain ⟨δ', e, F, K, r⟩ := ih (i + 1) fu (sA (sA (sA δ 114 23 (zi (3 * l + i)) (δ.2.1 114 23 (zi (3 * k + i)))) 115 23 (zi (3 * l + i)) (δ.2.1 115 23 (zi (3 * k + i)))) 116 23 (zi (3 * l + i)) (δ.2.1 116 23 (zi (3 * k + i)))) (by omega) (by omega) (by omega) (by omega)
      refine ⟨δ', ?_, (((Fr.sA (S := fun f a => a = 23 ∧ 114 ≤ f ∧ f ≤ 116) Fr.rf ⟨rfl, by decide, by decide⟩).sA ⟨rfl, by decide, by decide⟩).sA ⟨rfl, by decide, by decide⟩).tr F, (((MK.rf.sA (fun e => by omega) (by omega)).sA (fun e => by omega) (by omega)).sA (fun e => by omega) (by omega)).tr K, fun f hf j j0 j1 => ?_⟩
      · rw [← e]
        have e115 : ∀ u, (sA δ 114 23 (zi (3 * l + i)) u).2.1 115 23 (zi (3 * k + i)) = δ.2.1 115 23 (zi (3 * k + i)) := fun u => rA (by decide)
        have e116 : ∀ u u', (sA (sA δ 114 23 (zi (3 * l + i)) u) 115 23 (zi (3 * l + i)) u').2.1 116 23 (zi (3 * k + i)) = δ.2.1 116 23 (zi (3 * k + i)) := fun u u' => by rw [rA (by decide), rA (by decide)]
        simp (disch := omega) only [F_M_copies_74, F_M_copies_74_b, ↓bnd_eq, bd2, bn2, Option.bind_some, Option.bind_none, e115, e116, ↓reduceIte, inb, zl, zi_add, zi_sub, zi_mul, zi_neg, zi_le_t, zi_le_f, zi_lt_t, zi_lt_f, zi_eq_t, zi_eq_f, if_true, if_false, ite_true, ite_false, true_and, and_true, false_and, and_false, not_true_eq_false, not_false_eq_true, true_or, or_true, false_or, or_false, and_self, ge_iff_le, gt_iff_lt]
      · rw [r f hf j j0 j1]
        have nk : ¬ zi (3 * k + j) = zi (3 * l + i) := fun e => by have := zi_inj e (by omega) (by omega); omega
        by_cases q1 : i + 1 ≤ j
        · rw [if_pos q1, if_pos (by omega)]
          rcases hf with rfl | rfl | rfl <;> simp [rA, rAi, nk]
        · rw [if_neg q1]
          by_cases q2 : j = i
          · rw [if_pos (by omega), q2]
            rcases hf with rfl | rfl | rfl <;> simp [rA, rAi]
          · have nl : ¬ zi (3 * l + j) = zi (3 * l + i) := fun e => q2 (by have := zi_inj e (by omega) (by omega); omega)
            rw [if_neg (by omega)]
            rcases hf with rfl | rfl | rfl <;> simp [rA, rAi, nl]
theorem m_copies {δ : Dl} {g : SG} (wg : WG g) (M : MG k δ g) (hk : 0 ≤ k ∧ k ≤ 4) (hl : 0 ≤ l ∧ l ≤ 4) (hne : k ≠ l) : ∃ δ', F_M_copies (zi k) (zi l) δ = some δ' ∧ Fr (fun f a => a = 23 ∧ 110 ≤ f ∧ f ≤ 116) δ δ' ∧ MK l δ δ' ∧ MG l δ' g := by
  have hw := wg.1
  have hh := wg.2.1
  have ha := wg.2.2.1
  obtain ⟨m1, m2, m3, m4, m5⟩ := id M
  have hd : ∃ d, d = sA (sA (sA δ 110 23 (zi l) (zi (g.1))) 111 23 (zi l) (zi (g.2.1))) 113 23 (zi l) (zi (g.2.2.1)) := ⟨_, rfl⟩
  obtain ⟨d, ed⟩ := hd
  have E : F_M_copies (zi k) (zi l) δ = F_M_copies_38 (zi k) (zi l) FU (zi 0) d := by
    unfold F_M_copies
    rw [if_pos (by unfold inb; rw [zl0, show (5 : Int32) = zi 5 from zl 5, zi_le (by omega) (by omega), zi_lt (by omega) (by omega)]; omega), if_pos (by unfold inb; rw [zl0, show (5 : Int32) = zi 5 from zl 5, zi_le (by omega) (by omega), zi_lt (by omega) (by omega)]; omega), bnd_eq, if_pos (by unfold inb; rw [zl0, show (5 : Int32) = zi 5 from zl 5, zi_le (by omega) (by omega), zi_lt (by omega) (by omega)]; omega), if_pos (by unfold inb; rw [zl0, show (5 : Int32) = zi 5 from zl 5, zi_le (by omega) (by omega), zi_lt (by omega) (by omega)]; omega), bnd_eq, if_pos (by unfold inb; rw [zl0, show (5 : Int32) = zi 5 from zl 5, zi_le (by omega) (by omega), zi_lt (by omega) (by omega)]; omega), if_pos (by unfold inb; rw [zl0, show (5 : Int32) = zi 5 from zl 5, zi_le (by omega) (by omega), zi_lt (by omega) (by omega)]; omega), bnd_eq, m1, rA (by decide), m2, rA (by decide), rA (by decide), m3, zl0, ed]
  have Fd : Fr (fun f a => a = 23 ∧ 110 ≤ f ∧ f ≤ 116) δ d := by
    rw [ed]
    exact ((Fr.rf.sA ⟨rfl, by decide, by decide⟩).sA ⟨rfl, by decide, by decide⟩).sA ⟨rfl, by decide, by decide⟩
  have Kd : MK l δ d := by
    rw [ed]
    exact ((MK.rf.sA (fun e => by omega) (by omega)).sA (fun e => by omega) (by omega)).sA (fun e => by omega) (by omega)
  obtain ⟨d1, e1, F1, K1, r1⟩ := m_cp1 hk hl hne 64 0 FU d (by omega) (by omega) (by omega) (by unfold FU; omega)
  obtain ⟨d2, e2, F2, K2, r2⟩ := m_cp2 hk hl hne 3 0 FU d1 (by omega) (by omega) (by omega) (by unfold FU; omega)
  have o1 : ∀ f, f = 110 ∨ f = 111 ∨ f = 113 → d2.2.1 f 23 = d.2.1 f 23 := fun f hf => by
    rw [(F2.2 f 23 (fun e => by omega)).2, (F1.2 f 23 (fun e => by omega)).2]
  have Md := M.mk wg Kd hk hne hl
  refine ⟨d2, by rw [E, e1, e2], Fd.tr ((Fr.to (S' := fun f a => a = 23 ∧ 110 ≤ f ∧ f ≤ 116) F1 (fun f a e => ⟨e.1, by omega, by omega⟩)).tr (F2.to (fun f a e => ⟨e.1, by omega, by omega⟩))), (Kd.tr K1).tr K2, ?_, ?_, ?_, fun x y x0 x1 y0 y1 => ?_, fun i i0 i1 => ?_⟩
  · rw [o1 110 (by decide), ed, rA (by decide), rA (by decide), rAi, if_pos rfl]
  · rw [o1 111 (by decide), ed, rA (by decide), rAi, if_pos rfl]
  · rw [o1 113 (by decide), ed, rAi, if_pos rfl]
  · rw [(F2.2 112 23 (fun e => by omega)).2, r1 _ (by omega) (by omega), if_pos (by omega)]
    exact Md.2.2.2.1 x y x0 x1 y0 y1
  · obtain ⟨b1, b2, b3⟩ := Md.2.2.2.2 i i0 i1
    rw [r2 114 (by decide) i (by omega) (by omega), if_pos (by omega), r2 115 (by decide) i (by omega) (by omega), if_pos (by omega), r2 116 (by decide) i (by omega) (by omega), if_pos (by omega), (F1.2 114 23 (fun e => by omega)).2, (F1.2 115 23 (fun e => by omega)).2, (F1.2 116 23 (fun e => by omega)).2]
    exact ⟨b1, b2, b3⟩
end MC
theorem tnc {i : Int} (h : 0 ≤ i ∧ i < 2147483648) : (zi i).toNatClampNeg = i.toNat := by
  show (zi i).toInt.toNat = _
  rw [zi_toInt (by omega)]
theorem oc9 : ∀ i : Nat, i < 4 → Oc (4 + i) 9 := by decide
theorem st_keep : S2 INV F_Bs_keep F_M_keep := by
  intro δ I
  obtain ⟨⟨v, g, h1, h2, h4⟩, ⟨n, gk, h3⟩, hr⟩ := id I
  obtain ⟨wg, G, Mg⟩ := id h2
  obtain ⟨a0, a1, a2, a3, a4⟩ := id h3
  by_cases q : n < 4
  · have hi := a3 n.toNat (by omega)
    have hoc := oc9 n.toNat (by omega)
    obtain ⟨d1, e1, C1, F1⟩ := c_stcopyG (s := 4 + n.toNat) (o := 3) (by omega) wg G
    have hn : (n.toNat : Int) = n := by omega
    have b94 : d1.1 94 0 = zi n := by rw [(F1.2 94 0 (fun e => by omega)).1]; exact a1
    have Fa : Fr (fun f a => (a = 4 + n.toNat ∧ 70 ≤ f ∧ f ≤ 79) ∨ (f = 94 ∧ a = 0)) δ (sI d1 94 0 (zi (n + 1))) := (Fr.to (S' := fun f a => (a = 4 + n.toNat ∧ 70 ≤ f ∧ f ≤ 79) ∨ (f = 94 ∧ a = 0)) F1 (fun f a e => Or.inl e)).sI (Or.inr ⟨rfl, rfl⟩)
    have Ma : MG 4 (sI d1 94 0 (zi (n + 1))) g := Mg.fr Fa (fun f q1 q2 e => by omega)
    obtain ⟨d2, e2, F2, K2, M2⟩ := m_copies (k := 4) (l := n) wg Ma (by omega) (by omega) (by omega)
    have b117 : (sI d1 94 0 (zi (n + 1))).1 117 23 = zi n := by rw [(Fa.2 117 23 (fun e => by omega)).1]; exact a2
    have b117' : d2.1 117 23 = zi n := by rw [(F2.2 117 23 (fun e => by omega)).1]; exact b117
    have F : Fr (fun f a => (a = 4 + n.toNat ∧ 70 ≤ f ∧ f ≤ 79) ∨ (f = 94 ∧ a = 0) ∨ (a = 23 ∧ 110 ≤ f ∧ f ≤ 117)) δ (sI d2 117 23 (zi (n + 1))) := ((Fr.to (S' := fun f a => (a = 4 + n.toNat ∧ 70 ≤ f ∧ f ≤ 79) ∨ (f = 94 ∧ a = 0) ∨ (a = 23 ∧ 110 ≤ f ∧ f ≤ 117)) Fa (fun f a e => by
      rcases e with e | e
      · exact Or.inl e
      · exact Or.inr (Or.inl e))).tr (F2.to (fun f a e => Or.inr (Or.inr ⟨e.1, by omega, by omega⟩)))).sI (Or.inr (Or.inr ⟨rfl, by decide, by decide⟩))
    have K : MK n δ (sI d2 117 23 (zi (n + 1))) := ((MK.rf.fr Fa (fun f q1 q2 e => by omega)).tr K2).sI
    refine ⟨zi n, sI d1 94 0 (zi (n + 1)), sI d2 117 23 (zi (n + 1)), ?_, ?_, ⟨⟨v, g, h1.fr F (fun f a q e => by omega), ⟨wg, G.fr F (fun f q1 q2 e => by omega), Mg.mk wg K (by omega) (by omega) (by omega)⟩, h4.fr F (fun f a q e => by omega)⟩, ⟨n + 1, fun i : Int => if i = n then g else gk i, ⟨by omega, by omega⟩, ?_, sI_at, ?_, fun i hi => ?_⟩, hr.fr F (fun f a q e => ?_)⟩, by rw [F.1]⟩
    · simp (disch := omega) only [F_Bs_keep, ↓bnd_eq, bd2, bn2, Option.bind_some, Option.bind_none, a1, tnc, hi, hoc, ↓bse e1, b94, q1I, ↓reduceIte, inb, zl, zi_add, zi_sub, zi_mul, zi_neg, zi_le_t, zi_le_f, zi_lt_t, zi_lt_f, zi_eq_t, zi_eq_f, if_true, if_false, ite_true, ite_false, true_and, and_true, false_and, and_false, not_true_eq_false, not_false_eq_true, true_or, or_true, false_or, or_false, and_self, ge_iff_le, gt_iff_lt]
      rw [if_neg (by decide), if_pos hoc, show n + 1 - 1 = n by omega]
    · simp (disch := omega) only [F_M_keep, ↓bnd_eq, bd2, bn2, Option.bind_some, Option.bind_none, b117, ↓bse e2, b117', q1I, ↓reduceIte, inb, zl, zi_add, zi_sub, zi_mul, zi_neg, zi_le_t, zi_le_f, zi_lt_t, zi_lt_f, zi_eq_t, zi_eq_f, if_true, if_false, ite_true, ite_false, true_and, and_true, false_and, and_false, not_true_eq_false, not_false_eq_true, true_or, or_true, false_or, or_false, and_self, ge_iff_le, gt_iff_lt]
      rw [show n + 1 - 1 = n by omega]
    · show d2.1 94 0 = zi (n + 1)
      rw [(F2.2 94 0 (fun e => by omega)).1, sI_at]
    · rw [F.1]; exact a3
    · by_cases qi : (i : Int) = n
      · rw [show (fun i : Int => if i = n then g else gk i) (i : Int) = g from if_pos qi]
        have hin : n.toNat = i := by omega
        rw [hin] at C1
        have C1' : CG (4 + i) (sI d1 94 0 (zi (n + 1))) g := C1
        have C2 : CG (4 + i) d2 g := C1'.fr F2 (fun f q1 q2 e => by omega)
        rw [← qi] at M2
        exact ⟨wg, C2, M2⟩
      · rw [show (fun i : Int => if i = n then g else gk i) (i : Int) = gk i from if_neg qi]
        obtain ⟨b1, b2, b3⟩ := a4 i (by omega)
        exact ⟨b1, b2.fr F (fun f q1 q2 e => by omega), b3.mk b1 K (by omega) (by omega) (by omega)⟩
    · have q' : (a = 14 ∧ 10 ≤ f ∧ f ≤ 11) ∨ (16 ≤ a ∧ a ≤ 17 ∧ 80 ≤ f ∧ f ≤ 85) ∨ (a = 0 ∧ 103 ≤ f ∧ f ≤ 107) ∨ (a = 15 ∧ 10 ≤ f ∧ f ≤ 11) ∨ (19 ≤ a ∧ a ≤ 22 ∧ 22 ≤ f ∧ f ≤ 23) ∨ (a = 18 ∧ 60 ≤ f ∧ f ≤ 62) ∨ (a = 23 ∧ ((153 ≤ f ∧ f ≤ 173) ∨ f = 177)) := q
      omega
  · have q4 : n = 4 := by omega
    subst q4
    refine ⟨zi (-4), δ, δ, ?_, ?_, I, rfl⟩
    · simp (disch := omega) only [F_Bs_keep, ↓bnd_eq, bd2, bn2, Option.bind_some, Option.bind_none, a1, ↓reduceIte, inb, zl, zi_add, zi_sub, zi_mul, zi_neg, zi_le_t, zi_le_f, zi_lt_t, zi_lt_f, zi_eq_t, zi_eq_f, if_true, if_false, ite_true, ite_false, true_and, and_true, false_and, and_false, not_true_eq_false, not_false_eq_true, true_or, or_true, false_or, or_false, and_self, ge_iff_le, gt_iff_lt]
    · simp (disch := omega) only [F_M_keep, ↓bnd_eq, bd2, bn2, Option.bind_some, Option.bind_none, a2, ↓reduceIte, inb, zl, zi_add, zi_sub, zi_mul, zi_neg, zi_le_t, zi_le_f, zi_lt_t, zi_lt_f, zi_eq_t, zi_eq_f, if_true, if_false, ite_true, ite_false, true_and, and_true, false_and, and_false, not_true_eq_false, not_false_eq_true, true_or, or_true, false_or, or_false, and_self, ge_iff_le, gt_iff_lt]
theorem st_use (x1 : Int32) : S2 INV (F_Bs_use x1) (F_M_use x1) := by
  intro δ I
  obtain ⟨⟨v, g, h1, h2, h4⟩, ⟨n, gk, h3⟩, hr⟩ := id I
  obtain ⟨a0, a1, a2, a3, a4⟩ := id h3
  obtain ⟨i, rfl, hi0⟩ := zi_ex x1
  by_cases q : 0 ≤ i ∧ i < n
  · have hoc := oc9 i.toNat (by omega)
    have hi := a3 i.toNat (by omega)
    obtain ⟨b1, b2, b3⟩ := a4 i.toNat (by omega)
    have hit : (i.toNat : Int) = i := by omega
    rw [hit] at b1 b2 b3
    obtain ⟨d1, e1, C1, F1⟩ := c_stcopyG (s := 3) (o := 4 + i.toNat) (by omega) b1 b2
    have Fa : Fr SBg δ (sI d1 42 8 (zi 0)) := (Fr.to (S' := SBg) F1 (fun f a e => Or.inl ⟨e.1, e.2.1, e.2.2⟩)).sI (Or.inr (Or.inl ⟨rfl, rfl⟩))
    have Fa' : Fr (fun f a => (a = 3 ∧ 70 ≤ f ∧ f ≤ 79) ∨ (f = 42 ∧ a = 8)) δ (sI d1 42 8 (zi 0)) := (Fr.to (S' := fun f a => (a = 3 ∧ 70 ≤ f ∧ f ≤ 79) ∨ (f = 42 ∧ a = 8)) F1 (fun f a e => Or.inl e)).sI (Or.inr ⟨rfl, rfl⟩)
    have Ma : MG i (sI d1 42 8 (zi 0)) (gk i) := b3.fr Fa' (fun f q1 q2 e => by omega)
    obtain ⟨d2, e2, F2, K2, M2⟩ := m_copies (k := i) (l := 4) b1 Ma (by omega) (by omega) (by omega)
    have F : Fr SBg δ (sI d2 152 23 (zi (-1))) := (Fa.tr (Fr.to (S' := SBg) F2 (fun f a e => Or.inr (Or.inr ⟨e.1, Or.inl e.2⟩)))).sI (Or.inr (Or.inr ⟨rfl, Or.inr rfl⟩))
    have K : MK 4 δ (sI d2 152 23 (zi (-1))) := ((MK.rf.fr Fa' (fun f q1 q2 e => by omega)).tr K2).sI
    have C1' : CG 3 (sI d1 42 8 (zi 0)) (gk i) := C1
    have C2 : CG 3 d2 (gk i) := C1'.fr F2 (fun f q1 q2 e => absurd e.1 (by decide))
    have b117 : (sI d1 42 8 (zi 0)).1 117 23 = zi n := by rw [(Fa'.2 117 23 (fun e => by omega)).1]; exact a2
    refine ⟨zi 1, sI d1 42 8 (zi 0), sI d2 152 23 (zi (-1)), ?_, ?_, INV.beg h1 h3 hr F K ⟨b1, C2, M2⟩ ?_ sI_at, by rw [F.1]⟩
    · have ek : F_Bs_keptAt (zi i) δ = some (0, 4 + i.toNat) := by simp (disch := omega) only [F_Bs_keptAt, a1, tnc, hi, ↓reduceIte, inb, zl, zi_add, zi_sub, zi_mul, zi_neg, zi_le_t, zi_le_f, zi_lt_t, zi_lt_f, zi_eq_t, zi_eq_f, if_true, if_false, ite_true, ite_false, true_and, and_true, false_and, and_false, not_true_eq_false, not_false_eq_true, true_or, or_true, false_or, or_false, and_self, ge_iff_le, gt_iff_lt]
      simp (disch := omega) only [F_Bs_use, ↓bnd_eq, bd2, bn2, Option.bind_some, Option.bind_none, ↓bse ek, hoc, ↓bse e1, ↓reduceIte, inb, zl, zi_add, zi_sub, zi_mul, zi_neg, zi_le_t, zi_le_f, zi_lt_t, zi_lt_f, zi_eq_t, zi_eq_f, if_true, if_false, ite_true, ite_false, true_and, and_true, false_and, and_false, not_true_eq_false, not_false_eq_true, true_or, or_true, false_or, or_false, and_self, ge_iff_le, gt_iff_lt]
      rw [if_neg (by decide), if_pos hoc]
    · simp (disch := omega) only [F_M_use, F_M_within, ↓bnd_eq, bd2, bn2, Option.bind_some, Option.bind_none, b117, ↓bse e2, ↓reduceIte, inb, zl, zi_add, zi_sub, zi_mul, zi_neg, zi_le_t, zi_le_f, zi_lt_t, zi_lt_f, zi_eq_t, zi_eq_f, if_true, if_false, ite_true, ite_false, true_and, and_true, false_and, and_false, not_true_eq_false, not_false_eq_true, true_or, or_true, false_or, or_false, and_self, ge_iff_le, gt_iff_lt]
    · show d2.1 42 8 = zi 0
      rw [(F2.2 42 8 (fun e => absurd e.1 (by decide))).1, sI_at]
  · have ek : F_Bs_keptAt (zi i) δ = some (1, 0) := by
      by_cases q0 : i < 0
      · simp (disch := omega) only [F_Bs_keptAt, a1, ↓reduceIte, inb, zl, zi_add, zi_sub, zi_mul, zi_neg, zi_le_t, zi_le_f, zi_lt_t, zi_lt_f, zi_eq_t, zi_eq_f, if_true, if_false, ite_true, ite_false, true_and, and_true, false_and, and_false, not_true_eq_false, not_false_eq_true, true_or, or_true, false_or, or_false, and_self, ge_iff_le, gt_iff_lt]
      · simp (disch := omega) only [F_Bs_keptAt, a1, ↓reduceIte, inb, zl, zi_add, zi_sub, zi_mul, zi_neg, zi_le_t, zi_le_f, zi_lt_t, zi_lt_f, zi_eq_t, zi_eq_f, if_true, if_false, ite_true, ite_false, true_and, and_true, false_and, and_false, not_true_eq_false, not_false_eq_true, true_or, or_true, false_or, or_false, and_self, ge_iff_le, gt_iff_lt]
    refine ⟨zi (-1), δ, δ, ?_, ?_, I, rfl⟩
    · simp (disch := omega) only [F_Bs_use, ↓bnd_eq, bd2, bn2, Option.bind_some, Option.bind_none, ↓bse ek, ↓reduceIte, inb, zl, zi_add, zi_sub, zi_mul, zi_neg, zi_le_t, zi_le_f, zi_lt_t, zi_lt_f, zi_eq_t, zi_eq_f, if_true, if_false, ite_true, ite_false, true_and, and_true, false_and, and_false, not_true_eq_false, not_false_eq_true, true_or, or_true, false_or, or_false, and_self, ge_iff_le, gt_iff_lt]
    · by_cases q0 : i < 0
      · simp (disch := omega) only [F_M_use, F_M_within, ↓bnd_eq, bd2, bn2, Option.bind_some, Option.bind_none, a2, ↓reduceIte, inb, zl, zi_add, zi_sub, zi_mul, zi_neg, zi_le_t, zi_le_f, zi_lt_t, zi_lt_f, zi_eq_t, zi_eq_f, if_true, if_false, ite_true, ite_false, true_and, and_true, false_and, and_false, not_true_eq_false, not_false_eq_true, true_or, or_true, false_or, or_false, and_self, ge_iff_le, gt_iff_lt]
      · simp (disch := omega) only [F_M_use, F_M_within, ↓bnd_eq, bd2, bn2, Option.bind_some, Option.bind_none, a2, ↓reduceIte, inb, zl, zi_add, zi_sub, zi_mul, zi_neg, zi_le_t, zi_le_f, zi_lt_t, zi_lt_f, zi_eq_t, zi_eq_f, if_true, if_false, ite_true, ite_false, true_and, and_true, false_and, and_false, not_true_eq_false, not_false_eq_true, true_or, or_true, false_or, or_false, and_self, ge_iff_le, gt_iff_lt]
