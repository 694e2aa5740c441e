/-! a step, whole (wip/whole/pure) -/
abbrev SRc (a s : Nat) : Nat → Nat → Prop := fun g b => (b = s ∧ 73 ≤ g ∧ g ≤ 79) ∨ (b = a ∧ 43 ≤ g ∧ g ≤ 53)
abbrev SRm : Nat → Nat → Prop := fun g _ => (132 ≤ g ∧ g ≤ 151) ∨ g = 174
/-- the two runs, whole -/
def RR (a p s : Nat) (v : PG) (g : SG) (k t Q : Int) (δc δm : Dl) : Prop := CP p δc v ∧ MP δm v ∧ RM k g δm ∧ RS s g δc δm ∧ RT a δc δm ∧ RY a t Q δc δm ∧ RSC a v g δc δm
def finC (a : Nat) (s G : Int) (δ : Dl) : Dl :=
  if G = -1 then sA (sA (sA δ 48 a (zi s) (zi 0)) 47 a (zi s) (zi (-1))) 46 a (zi s) (zi 0)
  else if 0 ≤ G then sA (sA δ 48 a (zi s) (zi 1)) 47 a (zi s) (zi G)
  else sA (sA δ 48 a (zi s) (zi 0)) 47 a (zi s) (zi (-2 - G))
theorem rAn {δ : Dl} {f g a b : Nat} {i j v : Int32} (h : ¬ j = i) : (sA δ f a i v).2.1 g b j = δ.2.1 g b j := by rw [q2A, if_neg (fun e => h e.2.2)]
section TK
variable {a p s : Nat} {v : PG} {g : SG} {δc δm : Dl} {k : Int}
theorem step_fin {sc G : Int} {δ : Dl} (hsc : 0 ≤ sc ∧ sc < 6) (hG : -100 ≤ G ∧ G ≤ 100) : F_Ru_step_182 a (zi sc) (zi G) δ = some (finC a sc G δ) := by
  have z1 : zi 1 &&& zi 1 = zi 1 := by decide
  have z0 : zi 0 &&& zi 1 = zi 0 := by decide
  unfold finC
  by_cases q : G = -1
  · rw [if_pos q]
    subst q
    simp (disch := omega) only [F_Ru_step_182, F_Ru_step_199, F_Ru_step_222, ↓bnd_eq, bd2, bn2, Option.bind_some, Option.bind_none, z0, z1, ↓reduceIte, inb, zl, zi_add, zi_sub, zi_mul, zi_neg, zi_le_t, zi_le_f, zi_lt_t, zi_lt_f, zi_eq_t, zi_eq_f, if_true, if_false, ite_true, ite_false, true_and, and_true, false_and, and_false, not_true_eq_false, not_false_eq_true, true_or, or_true, false_or, or_false, and_self, ge_iff_le, gt_iff_lt]
  · rw [if_neg q]
    by_cases q0 : 0 ≤ G
    · rw [if_pos q0]
      simp (disch := omega) only [F_Ru_step_182, F_Ru_step_199, F_Ru_step_222, ↓bnd_eq, bd2, bn2, Option.bind_some, Option.bind_none, z0, z1, ↓reduceIte, inb, zl, zi_add, zi_sub, zi_mul, zi_neg, zi_le_t, zi_le_f, zi_lt_t, zi_lt_f, zi_eq_t, zi_eq_f, if_true, if_false, ite_true, ite_false, true_and, and_true, false_and, and_false, not_true_eq_false, not_false_eq_true, true_or, or_true, false_or, or_false, and_self, ge_iff_le, gt_iff_lt]
    · rw [if_neg q0]
      simp (disch := omega) only [F_Ru_step_182, F_Ru_step_199, F_Ru_step_222, ↓bnd_eq, bd2, bn2, Option.bind_some, Option.bind_none, z0, z1, ↓reduceIte, inb, zl, zi_add, zi_sub, zi_mul, zi_neg, zi_le_t, zi_le_f, zi_lt_t, zi_lt_f, zi_eq_t, zi_eq_f, if_true, if_false, ite_true, ite_false, true_and, and_true, false_and, and_false, not_true_eq_false, not_false_eq_true, true_or, or_true, false_or, or_false, and_self, ge_iff_le, gt_iff_lt]
theorem finC_fr {sc G : Int} {δ : Dl} : Fr (SRc a s) δ (finC a sc G δ) := by
  unfold finC
  split
  · exact ((Fr.rf.sA (Or.inr ⟨rfl, by decide, by decide⟩)).sA (Or.inr ⟨rfl, by decide, by decide⟩)).sA (Or.inr ⟨rfl, by decide, by decide⟩)
  · split
    · exact (Fr.rf.sA (Or.inr ⟨rfl, by decide, by decide⟩)).sA (Or.inr ⟨rfl, by decide, by decide⟩)
    · exact (Fr.rf.sA (Or.inr ⟨rfl, by decide, by decide⟩)).sA (Or.inr ⟨rfl, by decide, by decide⟩)
theorem resM_fr {sc G : Int} {δ : Dl} : Fr SRm δ (resM sc G δ) := by
  unfold resM
  split
  · exact (Fr.rf.sA (Or.inl ⟨by decide, by decide⟩)).sA (Or.inl ⟨by decide, by decide⟩)
  · split
    · exact (Fr.rf.sA (Or.inl ⟨by decide, by decide⟩)).sA (Or.inl ⟨by decide, by decide⟩)
    · exact (Fr.rf.sA (Or.inl ⟨by decide, by decide⟩)).sA (Or.inl ⟨by decide, by decide⟩)
theorem Go.rng (W : PW v) {T S : Int → Prop} {G : Int} (h : Go v T S G) : -100 ≤ G ∧ G ≤ 100 := by
  have := W.1
  rcases h with e | ⟨e1, -⟩ | ⟨e1, e2, -⟩ <;> omega
/-- behind a goal the scripts are alike again -/
theorem fin_sc (W : PW v) (h : RSC a v g δc δm) {S : Int → Prop} (hS : Cl v (TE a δc δm) S) {sc G : Int} (hsc : 0 ≤ sc ∧ sc < 6) (h1 : sc < v.2.1) (h2 : v.2.2.2.2 sc 0 < g.2.2.1) (e46 : δc.2.1 46 a (zi sc) = zi 1) (e141 : δm.2.1 141 23 (zi sc) = zi 1) (hG : Go v (TE a δc δm) S G) : RSC a v g (finC a sc G δc) (resM sc G δm) := by
  intro j j0 j6
  by_cases q : j = sc
  · subst q
    obtain ⟨st, hst, x46, x141, x47, x49, -⟩ := h j j0 j6
    rcases hG with e | ⟨e1, e2, e3, e4, e5⟩ | ⟨e1, e2, e3, e4, e5⟩
    · unfold finC resM
      rw [if_pos e, if_pos e]
      refine ⟨0, by omega, ?_, ?_, ?_, ?_, fun e => absurd e (by decide)⟩
      · rw [rAi, if_pos rfl]
      · rw [rA (by decide), rAi, if_pos rfl]
      · rw [rA (by decide), rAi, if_pos rfl, rAi, if_pos rfl]
      · rw [rA (by decide), rA (by decide), rA (by decide), rA (by decide), rA (by decide)]; exact x49
    · unfold finC resM
      rw [if_neg (show ¬ G = -1 by omega), if_neg (show ¬ G = -1 by omega), if_pos e1.1, if_pos e1.1]
      refine ⟨1, by omega, ?_, ?_, ?_, ?_, fun _ => ⟨h1, h2, G, 1, e1, e2, ?_, ?_, ?_, Or.inr rfl, fun e => absurd e (by decide), fun x => S x ∨ x = G, Or.inr rfl, fun x x0 x1 hx hu => ?_⟩⟩
      · rw [rA (by decide), rA (by decide)]; exact e46
      · rw [rA (by decide), rA (by decide)]; exact e141
      · rw [rAi, if_pos rfl, rA (by decide), rAi, if_pos rfl]
      · rw [rA (by decide), rA (by decide), rA (by decide), rA (by decide)]; exact x49
      · rw [rAi, if_pos rfl]
      · rw [rA (by decide), rAi, if_pos rfl]
      · rw [rAi, if_pos rfl]
      · rcases hx with hx | rfl
        · exact ⟨Or.inl (hS x x0 x1 hx hu).1, (hS x x0 x1 hx hu).2⟩
        · exact ⟨Or.inl e4, e5⟩
    · unfold finC resM
      rw [if_neg (by omega), if_neg (by omega), if_neg (by omega), if_neg (by omega)]
      refine ⟨1, by omega, ?_, ?_, ?_, ?_, fun _ => ⟨h1, h2, -2 - G, 0, e2, by omega, ?_, ?_, ?_, Or.inl rfl, fun _ e => e5 e, S, e3, hS⟩⟩
      · rw [rA (by decide), rA (by decide)]; exact e46
      · rw [rA (by decide), rA (by decide)]; exact e141
      · rw [rAi, if_pos rfl, rA (by decide), rAi, if_pos rfl]
      · rw [rA (by decide), rA (by decide), rA (by decide), rA (by decide)]; exact x49
      · rw [rAi, if_pos rfl]
      · rw [rA (by decide), rAi, if_pos rfl]
      · rw [rAi, if_pos rfl]
  · have hne : ¬ zi j = zi sc := fun e => q (zi_inj e (by omega) (by omega))
    have hj := h j j0 j6
    unfold finC resM
    rcases (show G = -1 ∨ (¬ G = -1 ∧ 0 ≤ G) ∨ (¬ G = -1 ∧ ¬ 0 ≤ G) by omega) with e | ⟨e, e'⟩ | ⟨e, e'⟩
    · rw [if_pos e, if_pos e]
      unfold SCR at hj ⊢
      rw [rAn hne, rAn hne, rAn hne, rAn hne, rAn hne, rAn hne, rAn hne, rAn hne, rAn hne, rAn hne, rAn hne, rAn hne, rAn hne, rAn hne, rAn hne, rAn hne, rAn hne, rAn hne]
      exact hj
    · rw [if_neg e, if_neg e, if_pos e', if_pos e']
      unfold SCR at hj ⊢
      simp only [rAn hne]
      exact hj
    · rw [if_neg e, if_neg e, if_neg e', if_neg e']
      unfold SCR at hj ⊢
      simp only [rAn hne]
      exact hj
/-- a script that is lit -/
theorem lit_sc (h : RSC a v g δc δm) {sc : Int} (hsc : 0 ≤ sc ∧ sc < 6) (r : Int32) : RSC a v g (sA (sA δc 46 a (zi sc) (zi 2)) 49 a (zi sc) r) (sA (sA δm 141 23 (zi sc) (zi 2)) 143 23 (zi sc) r) := by
  intro j j0 j6
  by_cases q : j = sc
  · subst q
    obtain ⟨st, hst, x46, x141, x47, x49, -⟩ := h j j0 j6
    refine ⟨2, by omega, ?_, ?_, ?_, ?_, fun e => absurd e (by decide)⟩
    · rw [rA (by decide), rAi, if_pos rfl]
    · rw [rA (by decide), rAi, if_pos rfl]
    · rw [rA (by decide), rA (by decide), rA (by decide), rA (by decide)]; exact x47
    · rw [rAi, if_pos rfl, rAi, if_pos rfl]
  · have hne : ¬ zi j = zi sc := fun e => q (zi_inj e (by omega) (by omega))
    have hj := h j j0 j6
    unfold SCR at hj ⊢
    simp only [rAn hne]
    exact hj
theorem RR.up {t Q Q' : Int} (h : RR a p s v g k t Q δc δm) (hq : Q ≤ Q') : RR a p s v g k t Q' δc δm := ⟨h.1, h.2.1, h.2.2.1, h.2.2.2.1, h.2.2.2.2.1, h.2.2.2.2.2.1.up hq, h.2.2.2.2.2.2⟩
/-- whether a hole is there, for the reference's two questions -/
theorem m_ask (W : PW v) (M : MP δm v) {b h i : Int} (b0 : 0 ≤ b) (b1 : b < v.1) (h0 : 3 ≤ h) (h1 : h < 5) {u' r' r : Int32} (hw : F_M_worth RF (zi (v.2.2.2.1 b h)) (zi i) (sI δm 174 23 r) = some (u', sI δm 174 23 r')) : (F_M_hasHole (zi (v.2.2.1 b 0)) (zi h) = zi 1) ∨ (F_M_hasHole (zi (v.2.2.1 b 0)) (zi h) = zi 0 ∧ u' = zi 0 ∧ sI δm 174 23 r' = sI δm 174 23 r) := by
  rcases m_hasHole (k := v.2.2.1 b 0) (h := h) (W.k b0 b1) (by omega) with ⟨q, -⟩ | ⟨q, q'⟩
  · exact Or.inl (q.trans (zl 1))
  · have e := hole_none W b0 b1 (h := h) (by omega) h1 q'
    rw [e, show RF = 39 + 1 from rfl, m_worthN] at hw
    obtain ⟨e1, e2⟩ := Prod.mk.inj (Option.some.inj hw)
    exact Or.inr ⟨q.trans (zl 0), e1.symm, e2.symm⟩
set_option maxHeartbeats 4000000 in
theorem lk_step (W : PW v) (wg : WG g) (hp : wsr 40 a = p) (hs : wsr 41 a = s) {t Q : Int} (H : RR a p s v g k t Q δc δm) (hQ : Q ≤ 10000) {sc : Int} (hsc : 0 ≤ sc ∧ sc < 6) (e46 : δc.2.1 46 a (zi sc) = zi 1) :
    ∃ δc' δm', F_Ru_step a (zi sc) δc = some δc' ∧ F_M_steps (zi sc) δm = some δm' ∧ RR a p s v g k t (Q + 1) δc' δm' ∧ Fr (SRc a s) δc δc' ∧ Fr SRm δm δm' := by
  obtain ⟨C, M, m, R, hT, hY, hC⟩ := H
  have ha := wg.2.2.1
  have hN := W.1
  have hM := W.2.1
  obtain ⟨st, hst, x46, x141, x47, x49, hst1⟩ := hC sc hsc.1 hsc.2
  have st1 : st = 1 := zi_inj (x46.symm.trans e46) (by omega) (by omega)
  subst st1
  obtain ⟨s1, s2, b, fa, ⟨b0, b1⟩, hk12, e47, e48, e145, hfa, hTE, S, hSb, hS⟩ := hst1 rfl
  have e142 : δm.2.1 142 23 (zi sc) = zi b := x47.symm.trans e47
  have hsw := W.2.2.2.1 sc hsc.1 s1
  have i0 : 0 ≤ v.2.2.2.2 sc 0 := hsw.1.1
  have hkk := W.k b0 b1
  have ca := c_actorOf C W hsc.1 s1
  have ck := c_kind C W b0 b1
  obtain ⟨f0, -⟩ := M.2.2.1 b b0 b1
  have g3 := M.2.2.2.1 b 3 b0 b1 (by decide) (by decide)
  have g4 := M.2.2.2.1 b 4 b0 b1 (by decide) (by decide)
  obtain ⟨m126, -⟩ := M.2.2.2.2 sc hsc.1 s1
  have ch3 := fun r => c_inHole (δ := sI δc 53 a r) (show CP p (sI δc 53 a r) v from C) W b0 b1 (j := 3) (by decide) (by decide)
  have ch4 := fun r => c_inHole (δ := sI δc 53 a r) (show CP p (sI δc 53 a r) v from C) W b0 b1 (j := 4) (by decide) (by decide)
  have rd : ∀ h : Int, 3 ≤ h → h < 5 → RDp v (v.2.2.2.1 b h) 0 := fun h h0 h5 => by
    by_cases q : v.2.2.2.1 b h = -1
    · exact Or.inl q
    · obtain ⟨k1, k2, k3, k4, k5, k6⟩ := hole_kind W b0 b1 (h := h) (by omega) h5 q
      exact Or.inr ⟨k1, k5 h0, fun i hi => by
        have : i = 0 := by omega
        subst this; exact k1⟩
  have rf : (32 : Int) ≤ 0 + RF := by unfold RF; decide
  -- FIRST
  have hF : ∃ u u' r, F_Ru_step a (zi sc) δc = F_Ru_step_89 a (zi sc) (zi b) (zi (v.2.2.2.2 sc 0)) (zi (v.2.2.1 b 0)) u (sI δc 53 a r) ∧ F_M_steps (zi sc) δm = F_M_steps_83 (zi sc) (zi b) (zi (v.2.2.2.2 sc 0)) u' (sI δm 174 23 r) ∧ (r = zi 0 → u = u') := by
    by_cases qa : v.2.2.1 b 0 = 10 ∧ fa = 0
    · refine ⟨zi 0, zi 0, zi 0, ?_, ?_, fun _ => rfl⟩
      · simp only [F_Ru_step, hp, e47, zl, zi_add, zi_sub, zi_mul, zi_neg]
        have e48' := e48
        rw [qa.2] at e48'
        have ck' := ck.trans (by rw [qa.1])
        rw [qa.1]
        simp (disch := omega) only [↓bnd_eq, bd2, bn2, Option.bind_some, Option.bind_none, ↓bse ca, ↓bse ck', q2I, e48', F_Ru_step_63, ↓reduceIte, inb, zl, zi_add, zi_sub, zi_mul, zi_neg, zi_le_t, zi_le_f, zi_lt_t, zi_lt_f, zi_eq_t, zi_eq_f, if_true, if_false, ite_true, ite_false, true_and, and_true, false_and, and_false, not_true_eq_false, not_false_eq_true, true_or, or_true, false_or, or_false, and_self, ge_iff_le, gt_iff_lt]
      · rw [qa.1] at f0
        rw [qa.2] at e145
        simp (disch := omega) only [F_M_steps, ↓bnd_eq, bd2, bn2, Option.bind_some, Option.bind_none, q2I, e142, m126, f0, e145, F_M_steps_44, F_M_steps_82, ↓reduceIte, inb, zl, zi_add, zi_sub, zi_mul, zi_neg, zi_le_t, zi_le_f, zi_lt_t, zi_lt_f, zi_eq_t, zi_eq_f, if_true, if_false, ite_true, ite_false, true_and, and_true, false_and, and_false, not_true_eq_false, not_false_eq_true, true_or, or_true, false_or, or_false, and_self, ge_iff_le, gt_iff_lt]
    · obtain ⟨u, u', r', w1, w2, w3, -⟩ := lk_worth W wg C M R m hp hs i0 s2 RF (v.2.2.2.1 b 3) 0 (zi 0) (rd 3 (by decide) (by decide)) (by decide) (by decide) rf
      refine ⟨u, u', r', ?_, ?_, w3⟩
      · have e : F_Ru_step a (zi sc) δc = F_Ru_step_62 a (zi sc) (zi b) (zi (v.2.2.2.2 sc 0)) (zi (v.2.2.1 b 0)) (sI δc 53 a (zi 0)) := by
          simp only [F_Ru_step, hp, e47, zl, zi_add, zi_sub, zi_mul, zi_neg]
          by_cases q10 : v.2.2.1 b 0 = 10
          · have q48 : fa = 1 := by omega
            rw [q48] at e48
            have ck' := ck.trans (by rw [q10])
            rw [q10]
            simp (disch := omega) only [↓bnd_eq, bd2, bn2, Option.bind_some, Option.bind_none, ↓bse ca, ↓bse ck', q2I, e48, ↓reduceIte, inb, zl, zi_add, zi_sub, zi_mul, zi_neg, zi_le_t, zi_le_f, zi_lt_t, zi_lt_f, zi_eq_t, zi_eq_f, if_true, if_false, ite_true, ite_false, true_and, and_true, false_and, and_false, not_true_eq_false, not_false_eq_true, true_or, or_true, false_or, or_false, and_self, ge_iff_le, gt_iff_lt]
          · simp (disch := omega) only [↓bnd_eq, bd2, bn2, Option.bind_some, Option.bind_none, ↓bse ca, ↓bse ck, q2I, ↓reduceIte, inb, zl, zi_add, zi_sub, zi_mul, zi_neg, zi_le_t, zi_le_f, zi_lt_t, zi_lt_f, zi_eq_t, zi_eq_f, if_true, if_false, ite_true, ite_false, true_and, and_true, false_and, and_false, not_true_eq_false, not_false_eq_true, true_or, or_true, false_or, or_false, and_self, ge_iff_le, gt_iff_lt]
        rw [e]
        simp only [F_Ru_step_62, F_Ru_step_63, hp, zl, zi_add, zi_sub, zi_mul, zi_neg]
        simp (disch := omega) only [↓bnd_eq, bd2, bn2, Option.bind_some, Option.bind_none, ↓bse (ch3 (zi 0)), ↓b2e w1, ↓reduceIte, inb, zl, zi_add, zi_sub, zi_mul, zi_neg, zi_le_t, zi_le_f, zi_lt_t, zi_lt_f, zi_eq_t, zi_eq_f, if_true, if_false, ite_true, ite_false, true_and, and_true, false_and, and_false, not_true_eq_false, not_false_eq_true, true_or, or_true, false_or, or_false, and_self, ge_iff_le, gt_iff_lt]
      · have e : F_M_steps (zi sc) δm = F_M_steps_44 (zi sc) (zi b) (zi (v.2.2.2.2 sc 0)) (zi 1) (sI δm 174 23 (zi 0)) := by
          by_cases q10 : v.2.2.1 b 0 = 10
          · have q48 : fa = 1 := by omega
            rw [q48] at e145
            rw [q10] at f0
            simp (disch := omega) only [F_M_steps, F_M_steps_39, ↓bnd_eq, bd2, bn2, Option.bind_some, Option.bind_none, q2I, e142, m126, f0, e145, ↓reduceIte, inb, zl, zi_add, zi_sub, zi_mul, zi_neg, zi_le_t, zi_le_f, zi_lt_t, zi_lt_f, zi_eq_t, zi_eq_f, if_true, if_false, ite_true, ite_false, true_and, and_true, false_and, and_false, not_true_eq_false, not_false_eq_true, true_or, or_true, false_or, or_false, and_self, ge_iff_le, gt_iff_lt]
          · simp (disch := omega) only [F_M_steps, F_M_steps_39, ↓bnd_eq, bd2, bn2, Option.bind_some, Option.bind_none, q2I, e142, m126, f0, ↓reduceIte, inb, zl, zi_add, zi_sub, zi_mul, zi_neg, zi_le_t, zi_le_f, zi_lt_t, zi_lt_f, zi_eq_t, zi_eq_f, if_true, if_false, ite_true, ite_false, true_and, and_true, false_and, and_false, not_true_eq_false, not_false_eq_true, true_or, or_true, false_or, or_false, and_self, ge_iff_le, gt_iff_lt]
        rw [e]
        rcases m_ask W M b0 b1 (h := 3) (by decide) (by decide) w2 with q | ⟨q, rfl, q2⟩
        · simp (disch := omega) only [F_M_steps_44, F_M_steps_82, ↓bnd_eq, bd2, bn2, Option.bind_some, Option.bind_none, q2I, f0, q, g3, w2, ↓reduceIte, inb, zl, zi_add, zi_sub, zi_mul, zi_neg, zi_le_t, zi_le_f, zi_lt_t, zi_lt_f, zi_eq_t, zi_eq_f, if_true, if_false, ite_true, ite_false, true_and, and_true, false_and, and_false, not_true_eq_false, not_false_eq_true, true_or, or_true, false_or, or_false, and_self, ge_iff_le, gt_iff_lt]
        · rw [q2]
          simp (disch := omega) only [F_M_steps_44, F_M_steps_82, ↓bnd_eq, bd2, bn2, Option.bind_some, Option.bind_none, q2I, f0, q, ↓reduceIte, inb, zl, zi_add, zi_sub, zi_mul, zi_neg, zi_le_t, zi_le_f, zi_lt_t, zi_lt_f, zi_eq_t, zi_eq_f, if_true, if_false, ite_true, ite_false, true_and, and_true, false_and, and_false, not_true_eq_false, not_false_eq_true, true_or, or_true, false_or, or_false, and_self, ge_iff_le, gt_iff_lt]
  obtain ⟨u, u', r, hF1, hF2, hF3⟩ := hF
  rw [hF1, hF2]
  -- SECOND
  obtain ⟨w, w', r4, w1, w2, w3, w4⟩ := lk_worth W wg C M R m hp hs i0 s2 RF (v.2.2.2.1 b 4) 0 r (rd 4 (by decide) (by decide)) (by decide) (by decide) rf
  have hm2 : F_M_steps_83 (zi sc) (zi b) (zi (v.2.2.2.2 sc 0)) u' (sI δm 174 23 r) = F_M_steps_117 (zi sc) (zi b) (zi (v.2.2.2.2 sc 0)) u' w' (sI δm 174 23 r4) := by
    rcases m_ask W M b0 b1 (h := 4) (by decide) (by decide) w2 with q | ⟨q, rfl, q2⟩
    · simp (disch := omega) only [F_M_steps_83, ↓bnd_eq, bd2, bn2, Option.bind_some, Option.bind_none, q2I, f0, q, g4, w2, ↓reduceIte, inb, zl, zi_add, zi_sub, zi_mul, zi_neg, zi_le_t, zi_le_f, zi_lt_t, zi_lt_f, zi_eq_t, zi_eq_f, if_true, if_false, ite_true, ite_false, true_and, and_true, false_and, and_false, not_true_eq_false, not_false_eq_true, true_or, or_true, false_or, or_false, and_self, ge_iff_le, gt_iff_lt]
    · rw [q2]
      simp (disch := omega) only [F_M_steps_83, ↓bnd_eq, bd2, bn2, Option.bind_some, Option.bind_none, q2I, f0, q, ↓reduceIte, inb, zl, zi_add, zi_sub, zi_mul, zi_neg, zi_le_t, zi_le_f, zi_lt_t, zi_lt_f, zi_eq_t, zi_eq_f, if_true, if_false, ite_true, ite_false, true_and, and_true, false_and, and_false, not_true_eq_false, not_false_eq_true, true_or, or_true, false_or, or_false, and_self, ge_iff_le, gt_iff_lt]
  rw [hm2]
  have k2 := c_kind (δ := sI δc 53 a r4) (show CP p (sI δc 53 a r4) v from C) W b0 b1
  by_cases q4 : r4 = zi 0
  · have q0 : r = zi 0 := by
      by_cases q0 : r = zi 0
      · exact q0
      · exact absurd (w4 q0 ▸ q4) q0
    subst q4; subst q0
    have e1 := hF3 rfl
    have e2 := w3 rfl
    subst e1; subst e2
    by_cases q9 : v.2.2.1 b 0 ≤ 9
    · obtain ⟨δ1, δ2, d1, d2, d3, d4, d5, d6, d7, d8⟩ := lk_does (δc := sI δc 53 a (zi 0)) (δm := sI δm 174 23 (zi 0)) W wg C M R m hp hs hT hY hQ sI_at sI_at b0 b1 q9 i0 s2 u w
      have F1 : Fr (SRc a s) δc δ1 := (Fr.rf.sI (Or.inr ⟨rfl, by decide, by decide⟩)).tr (d7.to (fun x y e => by
        rcases e with e | ⟨e, e'⟩
        · exact Or.inl e
        · exact Or.inr ⟨e, by omega, by omega⟩))
      have F2 : Fr SRm δm δ2 := (Fr.rf.sI (Or.inr rfl)).tr (d8.to (fun x y e => by
        show (132 ≤ x ∧ x ≤ 151) ∨ x = 174
        omega))
      have n1 : ∀ f, 46 ≤ f → f ≤ 50 → ¬ SEc a s f a := fun f h1 h2 e => by
        rcases e with e | e
        · omega
        · omega
      have n2 : ∀ f, 141 ≤ f → f ≤ 145 → ¬ SEm f 23 := fun f h1 h2 e => by
        have : (133 ≤ f ∧ f ≤ 140) ∨ f = 146 ∨ (148 ≤ f ∧ f ≤ 151) ∨ f = 174 := e
        omega
      have hC0 : RSC a v g (sI δc 53 a (zi 0)) (sI δm 174 23 (zi 0)) := hC
      have hC1 := hC0.fr d7 d8 n1 n2
      have C1 : CP p δ1 v := C.fr F1 (fun f h1 h2 e => by rcases e with e | e <;> omega)
      have M1 : MP δ2 v := M.fr F2 (fun f h1 h2 e => by
        have : (132 ≤ f ∧ f ≤ 151) ∨ f = 174 := e
        omega)
      have m1 : RM k g δ2 := m.fr F2 ⟨by decide, by decide, by decide, by decide⟩
      have kk1 := c_kind C1 W b0 b1
      obtain ⟨f01, -⟩ := M1.2.2.1 b b0 b1
      have hc : F_Ru_step_89 a (zi sc) (zi b) (zi (v.2.2.2.2 sc 0)) (zi (v.2.2.1 b 0)) u (sI δc 53 a (zi 0)) = F_Ru_step_125 a (zi sc) (zi b) (zi (v.2.2.1 b 0)) u δ1 := by
        simp only [F_Ru_step_89, hp, zl, zi_add, zi_sub, zi_mul, zi_neg]
        simp (disch := omega) only [↓bnd_eq, bd2, bn2, Option.bind_some, Option.bind_none, ↓bse (ch4 (zi 0)), ↓b2e w1, sI_at, ↓bse d1, ↓reduceIte, inb, zl, zi_add, zi_sub, zi_mul, zi_neg, zi_le_t, zi_le_f, zi_lt_t, zi_lt_f, zi_eq_t, zi_eq_f, if_true, if_false, ite_true, ite_false, true_and, and_true, false_and, and_false, not_true_eq_false, not_false_eq_true, true_or, or_true, false_or, or_false, and_self, ge_iff_le, gt_iff_lt]
      have hm : F_M_steps_117 (zi sc) (zi b) (zi (v.2.2.2.2 sc 0)) u w (sI δm 174 23 (zi 0)) = F_M_steps_148 (zi sc) (zi b) u δ2 := by
        simp (disch := omega) only [F_M_steps_117, F_M_isShell, F_M_within, ↓bnd_eq, bd2, bn2, Option.bind_some, Option.bind_none, sI_at, q2I, f0, d2, ↓reduceIte, inb, zl, zi_add, zi_sub, zi_mul, zi_neg, zi_le_t, zi_le_f, zi_lt_t, zi_lt_f, zi_eq_t, zi_eq_f, if_true, if_false, ite_true, ite_false, true_and, and_true, false_and, and_false, not_true_eq_false, not_false_eq_true, true_or, or_true, false_or, or_false, and_self, ge_iff_le, gt_iff_lt]
      rw [hc, hm]
      by_cases qr : δ1.1 53 a = zi 0
      · have qr' : δ2.1 174 23 = zi 0 := d3 ▸ qr
        have e50 : δ1.2.1 50 a = δc.2.1 50 a := (d7.2 50 a (n1 50 (by decide) (by decide))).2
        have e144 : δ2.2.1 144 23 = δm.2.1 144 23 := (d8.2 144 23 (n2 144 (by decide) (by decide))).2
        have hS1 : Cl v (TE a δ1 δ2) S := hS.mono (fun x h => h.fr e50 e144)
        obtain ⟨G, hG, c1, c2⟩ := lk_goal C1 M1 W hS1 hsc b0 b1 hk12 hSb
        have hf := step_fin (a := a) (sc := sc) (G := G) (δ := δ1) hsc (hG.rng W)
        refine ⟨finC a sc G δ1, resM sc G δ2, ?_, ?_, ⟨C1.fr (finC_fr (s := s)) (fun f h1 h2 e => by rcases e with e | e <;> omega), M1.fr resM_fr (fun f h1 h2 e => by
          have : (132 ≤ f ∧ f ≤ 151) ∨ f = 174 := e
          omega), m1.fr resM_fr ⟨by decide, by decide, by decide, by decide⟩, ?_, ?_, ?_, ?_⟩, F1.tr finC_fr, F2.tr resM_fr⟩
        · simp only [F_Ru_step_125, F_Bs_isShell, hp, zl, zi_add, zi_sub, zi_mul, zi_neg]
          simp (disch := omega) only [↓bnd_eq, bd2, bn2, Option.bind_some, Option.bind_none, qr, ↓bse c1, hf, ↓reduceIte, inb, zl, zi_add, zi_sub, zi_mul, zi_neg, zi_le_t, zi_le_f, zi_lt_t, zi_lt_f, zi_eq_t, zi_eq_f, if_true, if_false, ite_true, ite_false, true_and, and_true, false_and, and_false, not_true_eq_false, not_false_eq_true, true_or, or_true, false_or, or_false, and_self, ge_iff_le, gt_iff_lt]
        · simp (disch := omega) only [F_M_steps_148, F_M_isShell, F_M_within, ↓bnd_eq, bd2, bn2, Option.bind_some, Option.bind_none, qr', f01, c2, ↓reduceIte, inb, zl, zi_add, zi_sub, zi_mul, zi_neg, zi_le_t, zi_le_f, zi_lt_t, zi_lt_f, zi_eq_t, zi_eq_f, if_true, if_false, ite_true, ite_false, true_and, and_true, false_and, and_false, not_true_eq_false, not_false_eq_true, true_or, or_true, false_or, or_false, and_self, ge_iff_le, gt_iff_lt]
        · unfold finC resM
          rcases (show G = -1 ∨ (¬ G = -1 ∧ 0 ≤ G) ∨ (¬ G = -1 ∧ ¬ 0 ≤ G) by omega) with e | ⟨e, e'⟩ | ⟨e, e'⟩
          · rw [if_pos e, if_pos e]; exact d4
          · rw [if_neg e, if_neg e, if_pos e', if_pos e']; exact d4
          · rw [if_neg e, if_neg e, if_neg e', if_neg e']; exact d4
        · unfold finC resM
          rcases (show G = -1 ∨ (¬ G = -1 ∧ 0 ≤ G) ∨ (¬ G = -1 ∧ ¬ 0 ≤ G) by omega) with e | ⟨e, e'⟩ | ⟨e, e'⟩
          · rw [if_pos e, if_pos e]; exact d5
          · rw [if_neg e, if_neg e, if_pos e', if_pos e']; exact d5
          · rw [if_neg e, if_neg e, if_neg e', if_neg e']; exact d5
        · unfold finC resM
          rcases (show G = -1 ∨ (¬ G = -1 ∧ 0 ≤ G) ∨ (¬ G = -1 ∧ ¬ 0 ≤ G) by omega) with e | ⟨e, e'⟩ | ⟨e, e'⟩
          · rw [if_pos e, if_pos e]; exact d6
          · rw [if_neg e, if_neg e, if_pos e', if_pos e']; exact d6
          · rw [if_neg e, if_neg e, if_neg e', if_neg e']; exact d6
        · exact fin_sc W hC1 hS1 hsc s1 s2 (by rw [(d7.2 46 a (n1 46 (by decide) (by decide))).2]; exact e46) (by rw [(d8.2 141 23 (n2 141 (by decide) (by decide))).2]; exact x141) hG
      · have qr' : ¬ δ2.1 174 23 = zi 0 := fun e => qr (d3.trans e)
        refine ⟨sA (sA δ1 46 a (zi sc) (zi 2)) 49 a (zi sc) (δ1.1 53 a), sA (sA δ2 141 23 (zi sc) (zi 2)) 143 23 (zi sc) (δ1.1 53 a), ?_, ?_, ⟨C1, M1, m1, d4, d5, d6, lit_sc hC1 hsc _⟩, (F1.sA (Or.inr ⟨rfl, by decide, by decide⟩)).sA (Or.inr ⟨rfl, by decide, by decide⟩), (F2.sA (Or.inl ⟨by decide, by decide⟩)).sA (Or.inl ⟨by decide, by decide⟩)⟩
        · simp only [F_Ru_step_125, zl, zi_add, zi_sub, zi_mul, zi_neg]
          simp (disch := omega) only [↓bnd_eq, bd2, bn2, Option.bind_some, Option.bind_none, qr, q1A, ↓reduceIte, inb, zl, zi_add, zi_sub, zi_mul, zi_neg, zi_le_t, zi_le_f, zi_lt_t, zi_lt_f, zi_eq_t, zi_eq_f, if_true, if_false, ite_true, ite_false, true_and, and_true, false_and, and_false, not_true_eq_false, not_false_eq_true, true_or, or_true, false_or, or_false, and_self, ge_iff_le, gt_iff_lt]
        · simp (disch := omega) only [F_M_steps_148, ↓bnd_eq, bd2, bn2, Option.bind_some, Option.bind_none, qr', q1A, d3, ↓reduceIte, inb, zl, zi_add, zi_sub, zi_mul, zi_neg, zi_le_t, zi_le_f, zi_lt_t, zi_lt_f, zi_eq_t, zi_eq_f, if_true, if_false, ite_true, ite_false, true_and, and_true, false_and, and_false, not_true_eq_false, not_false_eq_true, true_or, or_true, false_or, or_false, and_self, ge_iff_le, gt_iff_lt]
    · -- shells
      have hk10 : 10 ≤ v.2.2.1 b 0 := by omega
      have hS0 : Cl v (TE a (sI δc 53 a (zi 0)) (sI δm 174 23 (zi 0))) S := hS
      obtain ⟨G, δ1, δ2, hG, hU, c1, c2⟩ := lk_shell (δc := sI δc 53 a (zi 0)) (δm := sI δm 174 23 (zi 0)) C M W hp hS0 hsc b0 b1 ⟨hk10, hk12⟩ hSb hfa hTE e145 u
      have hS1 : Cl v (TE a δ1 δ2) S := hS0.mono (fun x h => hU.te h)
      have hf := step_fin (a := a) (sc := sc) (G := G) (δ := δ1) hsc (hG.rng W)
      have F1 : Fr (SRc a s) δc δ1 := by
        rcases hU with ⟨rfl, rfl⟩ | ⟨tt, ht, rfl, rfl⟩
        · exact Fr.rf.sI (Or.inr ⟨rfl, by decide, by decide⟩)
        · exact (Fr.rf.sI (Or.inr ⟨rfl, by decide, by decide⟩)).sA (Or.inr ⟨rfl, by decide, by decide⟩)
      have F2 : Fr SRm δm δ2 := by
        rcases hU with ⟨rfl, rfl⟩ | ⟨tt, ht, rfl, rfl⟩
        · exact Fr.rf.sI (Or.inr rfl)
        · exact (Fr.rf.sI (Or.inr rfl)).sA (Or.inl ⟨by decide, by decide⟩)
      have hh : RS s g δ1 δ2 ∧ RT a δ1 δ2 ∧ RY a t (Q + 1) δ1 δ2 ∧ δ1.2.1 46 a (zi sc) = zi 1 ∧ δ2.2.1 141 23 (zi sc) = zi 1 := by
        rcases hU with ⟨rfl, rfl⟩ | ⟨tt, ht, rfl, rfl⟩
        · exact ⟨R, hT, hY.up (by omega), e46, x141⟩
        · exact ⟨R, hT, hY.up (by omega), e46, x141⟩
      have hC1 : RSC a v g δ1 δ2 := by
        have hUt := fun x (h : TE a (sI δc 53 a (zi 0)) (sI δm 174 23 (zi 0)) x) => hU.te h
        intro j j0 j6
        obtain ⟨st, hst, y1, y2, y3, y4, y5⟩ := hC j j0 j6
        rcases hU with ⟨rfl, rfl⟩ | ⟨tt, ht, rfl, rfl⟩
        · exact ⟨st, hst, y1, y2, y3, y4, y5⟩
        · refine ⟨st, hst, y1, y2, y3, y4, fun e => ?_⟩
          obtain ⟨z1, z2, b', f', z3, z4, z5, z6, z7, z8, z9, S', z10, z11⟩ := y5 e
          exact ⟨z1, z2, b', f', z3, z4, z5, z6, z7, z8, fun q1 q2 => hUt _ (z9 q1 q2), S', z10, z11.mono hUt⟩
      have C1 : CP p δ1 v := C.fr F1 (fun f h1 h2 e => by rcases e with e | e <;> omega)
      have M1 : MP δ2 v := M.fr F2 (fun f h1 h2 e => by
        have : (132 ≤ f ∧ f ≤ 151) ∨ f = 174 := e
        omega)
      have m1 : RM k g δ2 := m.fr F2 ⟨by decide, by decide, by decide, by decide⟩
      have cd : F_Ru_doOrder a (zi b) (zi (v.2.2.2.2 sc 0)) u w (sI δc 53 a (zi 0)) = some (sI δc 53 a (zi 0)) := by
        simp only [F_Ru_doOrder, hp, zl, zi_add, zi_sub, zi_mul, zi_neg]
        simp (disch := omega) only [↓bnd_eq, bd2, bn2, Option.bind_some, Option.bind_none, ↓bse k2, ↓reduceIte, inb, zl, zi_add, zi_sub, zi_mul, zi_neg, zi_le_t, zi_le_f, zi_lt_t, zi_lt_f, zi_eq_t, zi_eq_f, if_true, if_false, ite_true, ite_false, true_and, and_true, false_and, and_false, not_true_eq_false, not_false_eq_true, true_or, or_true, false_or, or_false, and_self, ge_iff_le, gt_iff_lt]
      have hc : F_Ru_step_89 a (zi sc) (zi b) (zi (v.2.2.2.2 sc 0)) (zi (v.2.2.1 b 0)) u (sI δc 53 a (zi 0)) = F_Ru_step_125 a (zi sc) (zi b) (zi (v.2.2.1 b 0)) u (sI δc 53 a (zi 0)) := by
        simp only [F_Ru_step_89, hp, zl, zi_add, zi_sub, zi_mul, zi_neg]
        simp (disch := omega) only [↓bnd_eq, bd2, bn2, Option.bind_some, Option.bind_none, ↓bse (ch4 (zi 0)), ↓b2e w1, sI_at, ↓bse cd, ↓reduceIte, inb, zl, zi_add, zi_sub, zi_mul, zi_neg, zi_le_t, zi_le_f, zi_lt_t, zi_lt_f, zi_eq_t, zi_eq_f, if_true, if_false, ite_true, ite_false, true_and, and_true, false_and, and_false, not_true_eq_false, not_false_eq_true, true_or, or_true, false_or, or_false, and_self, ge_iff_le, gt_iff_lt]
      have hm : F_M_steps_117 (zi sc) (zi b) (zi (v.2.2.2.2 sc 0)) u w (sI δm 174 23 (zi 0)) = F_M_steps_148 (zi sc) (zi b) u (sI δm 174 23 (zi 0)) := by
        simp (disch := omega) only [F_M_steps_117, F_M_isShell, F_M_within, ↓bnd_eq, bd2, bn2, Option.bind_some, Option.bind_none, sI_at, q2I, f0, ↓reduceIte, inb, zl, zi_add, zi_sub, zi_mul, zi_neg, zi_le_t, zi_le_f, zi_lt_t, zi_lt_f, zi_eq_t, zi_eq_f, if_true, if_false, ite_true, ite_false, true_and, and_true, false_and, and_false, not_true_eq_false, not_false_eq_true, true_or, or_true, false_or, or_false, and_self, ge_iff_le, gt_iff_lt]
      rw [hc, hm]
      refine ⟨finC a sc G δ1, resM sc G δ2, ?_, ?_, ⟨C1.fr (finC_fr (s := s)) (fun f h1 h2 e => by rcases e with e | e <;> omega), M1.fr resM_fr (fun f h1 h2 e => by
        have : (132 ≤ f ∧ f ≤ 151) ∨ f = 174 := e
        omega), m1.fr resM_fr ⟨by decide, by decide, by decide, by decide⟩, ?_, ?_, ?_, ?_⟩, F1.tr finC_fr, F2.tr resM_fr⟩
      · simp only [F_Ru_step_125, F_Bs_isShell, hp, zl, zi_add, zi_sub, zi_mul, zi_neg]
        simp (disch := omega) only [↓bnd_eq, bd2, bn2, Option.bind_some, Option.bind_none, sI_at, q2I, e48, c1, hf, ↓reduceIte, inb, zl, zi_add, zi_sub, zi_mul, zi_neg, zi_le_t, zi_le_f, zi_lt_t, zi_lt_f, zi_eq_t, zi_eq_f, if_true, if_false, ite_true, ite_false, true_and, and_true, false_and, and_false, not_true_eq_false, not_false_eq_true, true_or, or_true, false_or, or_false, and_self, ge_iff_le, gt_iff_lt]
      · simp (disch := omega) only [F_M_steps_148, F_M_isShell, F_M_within, ↓bnd_eq, bd2, bn2, Option.bind_some, Option.bind_none, sI_at, q2I, f0, c2, ↓reduceIte, inb, zl, zi_add, zi_sub, zi_mul, zi_neg, zi_le_t, zi_le_f, zi_lt_t, zi_lt_f, zi_eq_t, zi_eq_f, if_true, if_false, ite_true, ite_false, true_and, and_true, false_and, and_false, not_true_eq_false, not_false_eq_true, true_or, or_true, false_or, or_false, and_self, ge_iff_le, gt_iff_lt]
      · unfold finC resM
        rcases (show G = -1 ∨ (¬ G = -1 ∧ 0 ≤ G) ∨ (¬ G = -1 ∧ ¬ 0 ≤ G) by omega) with e | ⟨e, e'⟩ | ⟨e, e'⟩
        · rw [if_pos e, if_pos e]; exact hh.1
        · rw [if_neg e, if_neg e, if_pos e', if_pos e']; exact hh.1
        · rw [if_neg e, if_neg e, if_neg e', if_neg e']; exact hh.1
      · unfold finC resM
        rcases (show G = -1 ∨ (¬ G = -1 ∧ 0 ≤ G) ∨ (¬ G = -1 ∧ ¬ 0 ≤ G) by omega) with e | ⟨e, e'⟩ | ⟨e, e'⟩
        · rw [if_pos e, if_pos e]; exact hh.2.1
        · rw [if_neg e, if_neg e, if_pos e', if_pos e']; exact hh.2.1
        · rw [if_neg e, if_neg e, if_neg e', if_neg e']; exact hh.2.1
      · unfold finC resM
        rcases (show G = -1 ∨ (¬ G = -1 ∧ 0 ≤ G) ∨ (¬ G = -1 ∧ ¬ 0 ≤ G) by omega) with e | ⟨e, e'⟩ | ⟨e, e'⟩
        · rw [if_pos e, if_pos e]; exact hh.2.2.1
        · rw [if_neg e, if_neg e, if_pos e', if_pos e']; exact hh.2.2.1
        · rw [if_neg e, if_neg e, if_neg e', if_neg e']; exact hh.2.2.1
      · exact fin_sc W hC1 hS1 hsc s1 s2 hh.2.2.2.1 hh.2.2.2.2 hG
  · have hC0 : RSC a v g (sI δc 53 a r4) (sI δm 174 23 r4) := hC
    refine ⟨sA (sA (sI δc 53 a r4) 46 a (zi sc) (zi 2)) 49 a (zi sc) r4, sA (sA (sI δm 174 23 r4) 141 23 (zi sc) (zi 2)) 143 23 (zi sc) r4, ?_, ?_, ⟨C, M, m, R, hT, hY.up (by omega), lit_sc hC0 hsc _⟩, ((Fr.rf.sI (Or.inr ⟨rfl, by decide, by decide⟩)).sA (Or.inr ⟨rfl, by decide, by decide⟩)).sA (Or.inr ⟨rfl, by decide, by decide⟩), ((Fr.rf.sI (Or.inr rfl)).sA (Or.inl ⟨by decide, by decide⟩)).sA (Or.inl ⟨by decide, by decide⟩)⟩
    · simp only [F_Ru_step_89, F_Ru_step_125, hp, zl, zi_add, zi_sub, zi_mul, zi_neg]
      simp (disch := omega) only [↓bnd_eq, bd2, bn2, Option.bind_some, Option.bind_none, ↓bse (ch4 r), ↓b2e w1, sI_at, q4, q1A, ↓reduceIte, inb, zl, zi_add, zi_sub, zi_mul, zi_neg, zi_le_t, zi_le_f, zi_lt_t, zi_lt_f, zi_eq_t, zi_eq_f, if_true, if_false, ite_true, ite_false, true_and, and_true, false_and, and_false, not_true_eq_false, not_false_eq_true, true_or, or_true, false_or, or_false, and_self, ge_iff_le, gt_iff_lt]
    · simp (disch := omega) only [F_M_steps_117, F_M_steps_148, ↓bnd_eq, bd2, bn2, Option.bind_some, Option.bind_none, sI_at, q4, q1A, ↓reduceIte, inb, zl, zi_add, zi_sub, zi_mul, zi_neg, zi_le_t, zi_le_f, zi_lt_t, zi_lt_f, zi_eq_t, zi_eq_f, if_true, if_false, ite_true, ite_false, true_and, and_true, false_and, and_false, not_true_eq_false, not_false_eq_true, true_or, or_true, false_or, or_false, and_self, ge_iff_le, gt_iff_lt]
end TK
