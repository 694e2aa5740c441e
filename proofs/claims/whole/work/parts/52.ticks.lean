/-! a tick, whole (wip/whole/pure) -/
theorem and31 {c : Int} (h : 0 ≤ c ∧ c < 4) : zi c &&& zi 31 = zi c := by
  rcases (show c = 0 ∨ c = 1 ∨ c = 2 ∨ c = 3 by omega) with rfl | rfl | rfl | rfl <;> decide
theorem bI01_dec : ∀ m : Nat, m < 16 → ∀ c : Nat, c < 4 → (bI m c = zi 0 ∨ bI m c = zi 1) ∧ (bI m c &&& zi 1 = bI m c) := by decide +kernel
theorem bI01 {m c : Int} (hm : 0 ≤ m ∧ m < 16) (hc : 0 ≤ c ∧ c < 4) : (bI m c = zi 0 ∨ bI m c = zi 1) ∧ (bI m c &&& zi 1 = bI m c) := by
  have := bI01_dec m.toNat (by omega) c.toNat (by omega)
  rw [Int.toNat_of_nonneg hm.1, Int.toNat_of_nonneg hc.1] at this
  exact this
theorem bI0 : ∀ c : Nat, c < 4 → bI 0 c = zi 0 := by decide +kernel
section TK
variable {a p s : Nat} {v : PG} {g : SG} {δc δm : Dl} {k : Int}
theorem lk_hit (W : PW v) (wg : WG g) (hp : wsr 40 a = p) (hs : wsr 41 a = s) {t Q : Int} (H : RR a p s v g k t Q δc δm) (ht : 0 ≤ t ∧ t ≤ 2000) {sc : Int} (s0 : 0 ≤ sc) (s1 : sc < v.2.1) :
    ((v.2.2.2.2 sc 4 = -1 ∨ g.2.2.1 ≤ v.2.2.2.2 sc 0) ∧ F_Ru_isHit a (zi sc) δc = some (zi 0)) ∨ ((v.2.2.2.2 sc 4 ≠ -1 ∧ v.2.2.2.2 sc 0 < g.2.2.1) ∧ ∃ u, (u = zi 0 ∨ u = zi 1) ∧ F_Ru_isHit a (zi sc) δc = some u ∧ F_M_isCalled (zi sc) δm = some u) := by
  obtain ⟨C, M, m, R, hT, hY, hC⟩ := H
  have hN := W.1
  have hM := W.2.1
  have hsw := W.2.2.2.1 sc s0 s1
  unfold SW at hsw
  have htp := W.tp s0 s1
  have ca := c_actorOf C W s0 s1
  have ct := c_topOf C W s0 s1
  have cc := c_capOf C W s0 s1
  have cn := c_ncap C W s0 s1
  obtain ⟨m0, m1, m2, m3, m4⟩ := M.2.2.2.2 sc s0 s1
  have ha := wg.2.2.1
  by_cases q4 : v.2.2.2.2 sc 4 = -1
  · refine Or.inl ⟨Or.inl q4, ?_⟩
    rw [q4] at ct
    simp only [F_Ru_isHit, hp, hs, zl, zi_add, zi_sub, zi_mul, zi_neg]
    simp (disch := omega) only [↓bnd_eq, bd2, bn2, Option.bind_some, Option.bind_none, ↓bse ca, ↓bse ct, ↓reduceIte, inb, zl, zi_add, zi_sub, zi_mul, zi_neg, zi_le_t, zi_le_f, zi_lt_t, zi_lt_f, zi_eq_t, zi_eq_f, if_true, if_false, ite_true, ite_false, true_and, and_true, false_and, and_false, not_true_eq_false, not_false_eq_true, true_or, or_true, false_or, or_false, and_self, ge_iff_le, gt_iff_lt]
  · by_cases qa : g.2.2.1 ≤ v.2.2.2.2 sc 0
    · refine Or.inl ⟨Or.inr qa, ?_⟩
      simp only [F_Ru_isHit, hp, hs, zl, zi_add, zi_sub, zi_mul, zi_neg]
      simp (disch := omega) only [↓bnd_eq, bd2, bn2, Option.bind_some, Option.bind_none, ↓bse ca, ↓bse ct, F_St_isActor, R.2.2.1, ↓reduceIte, inb, zl, zi_add, zi_sub, zi_mul, zi_neg, zi_le_t, zi_le_f, zi_lt_t, zi_lt_f, zi_eq_t, zi_eq_f, if_true, if_false, ite_true, ite_false, true_and, and_true, false_and, and_false, not_true_eq_false, not_false_eq_true, true_or, or_true, false_or, or_false, and_self, ge_iff_le, gt_iff_lt]
    · refine Or.inr ⟨⟨q4, by omega⟩, ?_⟩
      rcases (show v.2.2.2.2 sc 1 = 0 ∨ v.2.2.2.2 sc 1 = 1 ∨ v.2.2.2.2 sc 1 = 2 ∨ v.2.2.2.2 sc 1 = 3 by omega) with q | q | q | q
      all_goals (rw [q] at m1; have cc0 := cc.trans (by rw [q]))
      · obtain ⟨n, hn, y1, y2, -⟩ := hY
        by_cases qt : t = 1
        · subst qt
          refine ⟨zi 1, Or.inr rfl, ?_, ?_⟩
          · simp only [F_Ru_isHit, hp, hs, zl, zi_add, zi_sub, zi_mul, zi_neg]
            simp (disch := omega) only [↓bnd_eq, bd2, bn2, Option.bind_some, Option.bind_none, ↓bse ca, ↓bse ct, ↓bse cn, ↓bse cc0, F_St_isActor, R.2.2.1, y1, ↓reduceIte, inb, zl, zi_add, zi_sub, zi_mul, zi_neg, zi_le_t, zi_le_f, zi_lt_t, zi_lt_f, zi_eq_t, zi_eq_f, if_true, if_false, ite_true, ite_false, true_and, and_true, false_and, and_false, not_true_eq_false, not_false_eq_true, true_or, or_true, false_or, or_false, and_self, ge_iff_le, gt_iff_lt]
          · simp (disch := omega) only [F_M_isCalled, ↓bnd_eq, bd2, bn2, Option.bind_some, Option.bind_none, m1, y2, ↓reduceIte, inb, zl, zi_add, zi_sub, zi_mul, zi_neg, zi_le_t, zi_le_f, zi_lt_t, zi_lt_f, zi_eq_t, zi_eq_f, if_true, if_false, ite_true, ite_false, true_and, and_true, false_and, and_false, not_true_eq_false, not_false_eq_true, true_or, or_true, false_or, or_false, and_self, ge_iff_le, gt_iff_lt]
        · refine ⟨zi 0, Or.inl rfl, ?_, ?_⟩
          · simp only [F_Ru_isHit, hp, hs, zl, zi_add, zi_sub, zi_mul, zi_neg]
            simp (disch := omega) only [↓bnd_eq, bd2, bn2, Option.bind_some, Option.bind_none, ↓bse ca, ↓bse ct, ↓bse cn, ↓bse cc0, F_St_isActor, R.2.2.1, y1, ↓reduceIte, inb, zl, zi_add, zi_sub, zi_mul, zi_neg, zi_le_t, zi_le_f, zi_lt_t, zi_lt_f, zi_eq_t, zi_eq_f, if_true, if_false, ite_true, ite_false, true_and, and_true, false_and, and_false, not_true_eq_false, not_false_eq_true, true_or, or_true, false_or, or_false, and_self, ge_iff_le, gt_iff_lt]
          · simp (disch := omega) only [F_M_isCalled, ↓bnd_eq, bd2, bn2, Option.bind_some, Option.bind_none, m1, y2, ↓reduceIte, inb, zl, zi_add, zi_sub, zi_mul, zi_neg, zi_le_t, zi_le_f, zi_lt_t, zi_lt_f, zi_eq_t, zi_eq_f, if_true, if_false, ite_true, ite_false, true_and, and_true, false_and, and_false, not_true_eq_false, not_false_eq_true, true_or, or_true, false_or, or_false, and_self, ge_iff_le, gt_iff_lt]
      · obtain ⟨x, n, hx, hn, t1, t2, t3⟩ := hT
        have hc4 : 0 ≤ v.2.2.2.2 sc 2 ∧ v.2.2.2.2 sc 2 < 4 := by omega
        have h147 := (t3 (v.2.2.2.2 sc 2) hc4.1 hc4.2).2
        have h31 := and31 hc4
        obtain ⟨b01, -⟩ := bI01 hn hc4
        have hb : (zi n >>> zi (v.2.2.2.2 sc 2)) &&& zi 1 = bI n (v.2.2.2.2 sc 2) := rfl
        rcases b01 with e | e
        · rw [e] at h147 hb
          refine ⟨zi 0, Or.inl rfl, ?_, ?_⟩
          · simp only [F_Ru_isHit, hp, hs, zl, zi_add, zi_sub, zi_mul, zi_neg]
            simp (disch := omega) only [↓bnd_eq, bd2, bn2, Option.bind_some, Option.bind_none, ↓bse ca, ↓bse ct, ↓bse cn, ↓bse cc0, F_St_isActor, R.2.2.1, t2, h31, hb, ↓reduceIte, inb, zl, zi_add, zi_sub, zi_mul, zi_neg, zi_le_t, zi_le_f, zi_lt_t, zi_lt_f, zi_eq_t, zi_eq_f, if_true, if_false, ite_true, ite_false, true_and, and_true, false_and, and_false, not_true_eq_false, not_false_eq_true, true_or, or_true, false_or, or_false, and_self, ge_iff_le, gt_iff_lt]
          · simp (disch := omega) only [F_M_isCalled, ↓bnd_eq, bd2, bn2, Option.bind_some, Option.bind_none, m1, m2, h147, ↓reduceIte, inb, zl, zi_add, zi_sub, zi_mul, zi_neg, zi_le_t, zi_le_f, zi_lt_t, zi_lt_f, zi_eq_t, zi_eq_f, if_true, if_false, ite_true, ite_false, true_and, and_true, false_and, and_false, not_true_eq_false, not_false_eq_true, true_or, or_true, false_or, or_false, and_self, ge_iff_le, gt_iff_lt]
        · rw [e] at h147 hb
          refine ⟨zi 1, Or.inr rfl, ?_, ?_⟩
          · simp only [F_Ru_isHit, hp, hs, zl, zi_add, zi_sub, zi_mul, zi_neg]
            simp (disch := omega) only [↓bnd_eq, bd2, bn2, Option.bind_some, Option.bind_none, ↓bse ca, ↓bse ct, ↓bse cn, ↓bse cc0, F_St_isActor, R.2.2.1, t2, h31, hb, ↓reduceIte, inb, zl, zi_add, zi_sub, zi_mul, zi_neg, zi_le_t, zi_le_f, zi_lt_t, zi_lt_f, zi_eq_t, zi_eq_f, if_true, if_false, ite_true, ite_false, true_and, and_true, false_and, and_false, not_true_eq_false, not_false_eq_true, true_or, or_true, false_or, or_false, and_self, ge_iff_le, gt_iff_lt]
          · simp (disch := omega) only [F_M_isCalled, ↓bnd_eq, bd2, bn2, Option.bind_some, Option.bind_none, m1, m2, h147, ↓reduceIte, inb, zl, zi_add, zi_sub, zi_mul, zi_neg, zi_le_t, zi_le_f, zi_lt_t, zi_lt_f, zi_eq_t, zi_eq_f, if_true, if_false, ite_true, ite_false, true_and, and_true, false_and, and_false, not_true_eq_false, not_false_eq_true, true_or, or_true, false_or, or_false, and_self, ge_iff_le, gt_iff_lt]
      · obtain ⟨n, hn, y1, y2, -⟩ := hY
        have h1 : 1 ≤ v.2.2.2.2 sc 2 := hsw.2.2.2.2.1 q
        have hc0 : ¬ (zi (v.2.2.2.2 sc 2) = zi 0) := by rw [zi_eq (by omega) (by omega)]; omega
        by_cases qt : zi t - zi t / zi (v.2.2.2.2 sc 2) * zi (v.2.2.2.2 sc 2) = zi 0
        · refine ⟨zi 1, Or.inr rfl, ?_, ?_⟩
          · simp only [F_Ru_isHit, hp, hs, zl, zi_neg]
            simp (disch := omega) only [↓bnd_eq, bse ca, ↓bse ca, ↓bse ct, ↓bse cn, ↓bse cc0, F_St_isActor, R.2.2.1, y1, qt, hc0, ↓reduceIte, zl, zi_neg, zi_le_t, zi_le_f, zi_lt_t, zi_lt_f, zi_eq_t, zi_eq_f, not_false_eq_true]
          · simp (disch := omega) only [F_M_isCalled, inb, m1, m2, y2, qt, hc0, ↓reduceIte, zl, zi_neg, zi_le_t, zi_le_f, zi_lt_t, zi_lt_f, zi_eq_t, zi_eq_f, not_false_eq_true, and_self]
        · refine ⟨zi 0, Or.inl rfl, ?_, ?_⟩
          · simp only [F_Ru_isHit, hp, hs, zl, zi_neg]
            simp (disch := omega) only [↓bnd_eq, bse ca, ↓bse ca, ↓bse ct, ↓bse cn, ↓bse cc0, F_St_isActor, R.2.2.1, y1, qt, hc0, ↓reduceIte, zl, zi_neg, zi_le_t, zi_le_f, zi_lt_t, zi_lt_f, zi_eq_t, zi_eq_f, not_false_eq_true]
          · simp (disch := omega) only [F_M_isCalled, inb, m1, m2, y2, qt, hc0, ↓reduceIte, zl, zi_neg, zi_le_t, zi_le_f, zi_lt_t, zi_lt_f, zi_eq_t, zi_eq_f, not_false_eq_true, and_self]
      · obtain ⟨u, hu, c1, c2⟩ := lk_meets wg R m (i := v.2.2.2.2 sc 0) (by omega) (by omega)
        refine ⟨u, hu, ?_, ?_⟩
        · simp only [F_Ru_isHit, hp, hs, zl, zi_add, zi_sub, zi_mul, zi_neg]
          rcases hu with rfl | rfl
          · simp (disch := omega) only [↓bnd_eq, bd2, bn2, Option.bind_some, Option.bind_none, ↓bse ca, ↓bse ct, ↓bse cn, ↓bse cc0, F_St_isActor, R.2.2.1, ↓bse c1, ↓reduceIte, inb, zl, zi_add, zi_sub, zi_mul, zi_neg, zi_le_t, zi_le_f, zi_lt_t, zi_lt_f, zi_eq_t, zi_eq_f, if_true, if_false, ite_true, ite_false, true_and, and_true, false_and, and_false, not_true_eq_false, not_false_eq_true, true_or, or_true, false_or, or_false, and_self, ge_iff_le, gt_iff_lt]
          · simp (disch := omega) only [↓bnd_eq, bd2, bn2, Option.bind_some, Option.bind_none, ↓bse ca, ↓bse ct, ↓bse cn, ↓bse cc0, F_St_isActor, R.2.2.1, ↓bse c1, ↓reduceIte, inb, zl, zi_add, zi_sub, zi_mul, zi_neg, zi_le_t, zi_le_f, zi_lt_t, zi_lt_f, zi_eq_t, zi_eq_f, if_true, if_false, ite_true, ite_false, true_and, and_true, false_and, and_false, not_true_eq_false, not_false_eq_true, true_or, or_true, false_or, or_false, and_self, ge_iff_le, gt_iff_lt]
        · rcases hu with rfl | rfl
          · simp (disch := omega) only [F_M_isCalled, ↓bnd_eq, bd2, bn2, Option.bind_some, Option.bind_none, m1, m0, ↓bse c2, ↓reduceIte, inb, zl, zi_add, zi_sub, zi_mul, zi_neg, zi_le_t, zi_le_f, zi_lt_t, zi_lt_f, zi_eq_t, zi_eq_f, if_true, if_false, ite_true, ite_false, true_and, and_true, false_and, and_false, not_true_eq_false, not_false_eq_true, true_or, or_true, false_or, or_false, and_self, ge_iff_le, gt_iff_lt]
          · simp (disch := omega) only [F_M_isCalled, ↓bnd_eq, bd2, bn2, Option.bind_some, Option.bind_none, m1, m0, ↓bse c2, ↓reduceIte, inb, zl, zi_add, zi_sub, zi_mul, zi_neg, zi_le_t, zi_le_f, zi_lt_t, zi_lt_f, zi_eq_t, zi_eq_f, if_true, if_false, ite_true, ite_false, true_and, and_true, false_and, and_false, not_true_eq_false, not_false_eq_true, true_or, or_true, false_or, or_false, and_self, ge_iff_le, gt_iff_lt]
/-- waking -/
theorem wake_sc (W : PW v) (h : RSC a v g δc δm) {sc : Int} (s0 : 0 ≤ sc) (s1 : sc < v.2.1) (h2 : v.2.2.2.2 sc 0 < g.2.2.1) (ht : v.2.2.2.2 sc 4 ≠ -1) : RSC a v g (sA (sA (sA δc 46 a (zi sc) (zi 1)) 47 a (zi sc) (zi (v.2.2.2.2 sc 4))) 48 a (zi sc) (zi 1)) (sA (sA (sA δm 141 23 (zi sc) (zi 1)) 142 23 (zi sc) (zi (v.2.2.2.2 sc 4))) 145 23 (zi sc) (zi 1)) := by
  have hM := W.2.1
  intro j j0 j6
  by_cases q : j = sc
  · subst q
    obtain ⟨st, hst, x46, x141, x47, x49, -⟩ := h j j0 j6
    have hsw := (W.2.2.2.1 j s0 s1).2.2.2.2.2.2
    have htp : (0 ≤ v.2.2.2.2 j 4 ∧ v.2.2.2.2 j 4 < v.1) ∧ v.2.2.1 (v.2.2.2.2 j 4) 4 = j := by
      rcases hsw with e | e
      · exact absurd e ht
      · exact e
    have hbw := W.2.2.1 _ htp.1.1 htp.1.2
    have hk : v.2.2.1 (v.2.2.2.2 j 4) 0 ≤ 12 := by
      rcases hbw.2.2.2.1 with e | e
      · omega
      · exact e.2.2
    have hu : v.2.2.1 (v.2.2.2.2 j 4) 2 = -1 := by
      rcases hbw.2.2.1 with e | e
      · exact e.1
      · omega
    refine ⟨1, by omega, ?_, ?_, ?_, ?_, fun _ => ⟨s1, h2, v.2.2.2.2 j 4, 1, htp.1, hk, ?_, ?_, ?_, Or.inr rfl, fun e => absurd e (by decide), fun x => x = v.2.2.2.2 j 4, rfl, fun x x0 x1 hx hxu => ?_⟩⟩
    · rw [rA (by decide), rA (by decide), rAi, if_pos rfl]
    · rw [rA (by decide), rA (by decide), rAi, if_pos rfl]
    · rw [rA (by decide), rAi, if_pos rfl, rA (by decide), rAi, if_pos rfl]
    · rw [rA (by decide), rA (by decide), rA (by decide), rA (by decide), rA (by decide), rA (by decide)]; exact x49
    · rw [rA (by decide), rAi, if_pos rfl]
    · rw [rAi, if_pos rfl]
    · rw [rAi, if_pos rfl]
    · subst hx; exact absurd hu hxu
  · have hne : ¬ zi j = zi sc := fun e => q (zi_inj e (by omega) (by omega))
    have hj := h j j0 j6
    unfold SCR at hj ⊢
    simp only [rAn hne]
    exact hj
/-- one script's turn to wake -/
theorem lk_wake (W : PW v) (wg : WG g) (hp : wsr 40 a = p) (hs : wsr 41 a = s) {t Q : Int} (H : RR a p s v g k t Q δc δm) (ht : 0 ≤ t ∧ t ≤ 2000) {sc : Int} (s0 : 0 ≤ sc) (s1 : sc < v.2.1) (kc km : Int32 → Dl → Option Dl) :
    ∃ δc' δm', F_Ru_oneTick_25_b a kc (zi sc) δc = kc (zi (sc + 1)) δc' ∧ F_M_ticks_44_b km (zi sc) δm = km (zi (sc + 1)) δm' ∧ RR a p s v g k t Q δc' δm' ∧ Fr (SRc a s) δc δc' ∧ Fr SRm δm δm' := by
  have hM := W.2.1
  have hN := W.1
  have ha := wg.2.2.1
  have hit := lk_hit W wg hp hs H ht s0 s1
  obtain ⟨C, M, m, R, hT, hY, hC⟩ := H
  have hk := m.1
  have hsw := W.2.2.2.1 sc s0 s1
  unfold SW at hsw
  have htp := W.tp s0 s1
  have H : RR a p s v g k t Q δc δm := ⟨C, M, m, R, hT, hY, hC⟩
  obtain ⟨st, hst, x46, x141, x47, x49, hst1⟩ := hC sc s0 (by omega)
  clear hst1
  obtain ⟨m0, m1, m2, m3, m4⟩ := M.2.2.2.2 sc s0 s1
  have cg := c_again C W s0 s1
  have ct := c_topOf (δ := sA δc 46 a (zi sc) (zi 1)) (show CP p (sA δc 46 a (zi sc) (zi 1)) v from C) W s0 s1
  have e11 : zi 1 &&& zi 1 = zi 1 := by decide
  -- nothing happens
  have skip : (F_Ru_oneTick_25_b a kc (zi sc) δc = kc (zi (sc + 1)) δc ∧ F_M_ticks_44_b km (zi sc) δm = km (zi (sc + 1)) δm) → ∃ δc' δm', F_Ru_oneTick_25_b a kc (zi sc) δc = kc (zi (sc + 1)) δc' ∧ F_M_ticks_44_b km (zi sc) δm = km (zi (sc + 1)) δm' ∧ RR a p s v g k t Q δc' δm' ∧ Fr (SRc a s) δc δc' ∧ Fr SRm δm δm' := fun e => ⟨δc, δm, e.1, e.2, H, Fr.rf, Fr.rf⟩
  have mk4 := m_goesTo (s := sc) (b := v.2.2.2.2 sc 4) (f := 1) (δ := sA δm 141 23 (zi sc) (zi 1)) ⟨s0, by omega⟩ (Or.inr rfl)
  have m4' : (sA δm 141 23 (zi sc) (zi 1)).2.1 130 23 (zi sc) = zi (v.2.2.2.2 sc 4) := by rw [rA (by decide)]; exact m4
  rcases hit with ⟨h1, h2⟩ | ⟨⟨h1, h2⟩, u, hu, h3, h4⟩
  · apply skip
    constructor
    · simp only [F_Ru_oneTick_25_b, hp, zl, zi_add, zi_sub, zi_mul, zi_neg]
      by_cases q2 : st = 2
      · rw [q2] at x46
        simp (disch := omega) only [↓bnd_eq, bd2, bn2, Option.bind_some, Option.bind_none, C.2.1, x46, F_Ru_oneTick_115, ↓reduceIte, inb, zl, zi_add, zi_sub, zi_mul, zi_neg, zi_le_t, zi_le_f, zi_lt_t, zi_lt_f, zi_eq_t, zi_eq_f, if_true, if_false, ite_true, ite_false, true_and, and_true, false_and, and_false, not_true_eq_false, not_false_eq_true, true_or, or_true, false_or, or_false, and_self, ge_iff_le, gt_iff_lt]
      · simp (disch := omega) only [↓bnd_eq, bd2, bn2, Option.bind_some, Option.bind_none, C.2.1, x46, ↓bse h2, F_Ru_oneTick_115, ↓reduceIte, inb, zl, zi_add, zi_sub, zi_mul, zi_neg, zi_le_t, zi_le_f, zi_lt_t, zi_lt_f, zi_eq_t, zi_eq_f, if_true, if_false, ite_true, ite_false, true_and, and_true, false_and, and_false, not_true_eq_false, not_false_eq_true, true_or, or_true, false_or, or_false, and_self, ge_iff_le, gt_iff_lt]
    · rcases h1 with h1 | h1
      · rw [h1] at m4
        simp (disch := omega) only [F_M_ticks_44_b, F_M_ticks_102, F_M_ticks_103, F_M_ticks_146, ↓bnd_eq, bd2, bn2, Option.bind_some, Option.bind_none, M.2.1, m4, ↓reduceIte, inb, zl, zi_add, zi_sub, zi_mul, zi_neg, zi_le_t, zi_le_f, zi_lt_t, zi_lt_f, zi_eq_t, zi_eq_f, if_true, if_false, ite_true, ite_false, true_and, and_true, false_and, and_false, not_true_eq_false, not_false_eq_true, true_or, or_true, false_or, or_false, and_self, ge_iff_le, gt_iff_lt]
      · by_cases q4 : v.2.2.2.2 sc 4 = -1
        · rw [q4] at m4
          simp (disch := omega) only [F_M_ticks_44_b, F_M_ticks_102, F_M_ticks_103, F_M_ticks_146, ↓bnd_eq, bd2, bn2, Option.bind_some, Option.bind_none, M.2.1, m4, ↓reduceIte, inb, zl, zi_add, zi_sub, zi_mul, zi_neg, zi_le_t, zi_le_f, zi_lt_t, zi_lt_f, zi_eq_t, zi_eq_f, if_true, if_false, ite_true, ite_false, true_and, and_true, false_and, and_false, not_true_eq_false, not_false_eq_true, true_or, or_true, false_or, or_false, and_self, ge_iff_le, gt_iff_lt]
        · simp (disch := omega) only [F_M_ticks_44_b, F_M_ticks_102, F_M_ticks_103, F_M_ticks_146, ↓bnd_eq, bd2, bn2, Option.bind_some, Option.bind_none, M.2.1, m4, m0, m.2.1, m.2.2.2.2, ↓reduceIte, inb, zl, zi_add, zi_sub, zi_mul, zi_neg, zi_le_t, zi_le_f, zi_lt_t, zi_lt_f, zi_eq_t, zi_eq_f, if_true, if_false, ite_true, ite_false, true_and, and_true, false_and, and_false, not_true_eq_false, not_false_eq_true, true_or, or_true, false_or, or_false, and_self, ge_iff_le, gt_iff_lt]
  · by_cases q2 : st = 2
    · apply skip
      rw [q2] at x46 x141
      constructor
      · simp only [F_Ru_oneTick_25_b, hp, zl, zi_add, zi_sub, zi_mul, zi_neg]
        simp (disch := omega) only [↓bnd_eq, bd2, bn2, Option.bind_some, Option.bind_none, C.2.1, x46, F_Ru_oneTick_115, ↓reduceIte, inb, zl, zi_add, zi_sub, zi_mul, zi_neg, zi_le_t, zi_le_f, zi_lt_t, zi_lt_f, zi_eq_t, zi_eq_f, if_true, if_false, ite_true, ite_false, true_and, and_true, false_and, and_false, not_true_eq_false, not_false_eq_true, true_or, or_true, false_or, or_false, and_self, ge_iff_le, gt_iff_lt]
      · simp (disch := omega) only [F_M_ticks_44_b, F_M_ticks_102, F_M_ticks_103, F_M_ticks_146, ↓bnd_eq, bd2, bn2, Option.bind_some, Option.bind_none, M.2.1, m4, m0, m.2.1, m.2.2.2.2, x141, ↓reduceIte, inb, zl, zi_add, zi_sub, zi_mul, zi_neg, zi_le_t, zi_le_f, zi_lt_t, zi_lt_f, zi_eq_t, zi_eq_f, if_true, if_false, ite_true, ite_false, true_and, and_true, false_and, and_false, not_true_eq_false, not_false_eq_true, true_or, or_true, false_or, or_false, and_self, ge_iff_le, gt_iff_lt]
    · rcases hu with rfl | rfl
      · apply skip
        constructor
        · simp only [F_Ru_oneTick_25_b, hp, zl, zi_add, zi_sub, zi_mul, zi_neg]
          simp (disch := omega) only [↓bnd_eq, bd2, bn2, Option.bind_some, Option.bind_none, C.2.1, x46, ↓bse h3, F_Ru_oneTick_115, ↓reduceIte, inb, zl, zi_add, zi_sub, zi_mul, zi_neg, zi_le_t, zi_le_f, zi_lt_t, zi_lt_f, zi_eq_t, zi_eq_f, if_true, if_false, ite_true, ite_false, true_and, and_true, false_and, and_false, not_true_eq_false, not_false_eq_true, true_or, or_true, false_or, or_false, and_self, ge_iff_le, gt_iff_lt]
        · simp (disch := omega) only [F_M_ticks_44_b, F_M_ticks_102, F_M_ticks_103, F_M_ticks_146, ↓bnd_eq, bd2, bn2, Option.bind_some, Option.bind_none, M.2.1, m4, m0, m.2.1, m.2.2.2.2, x141, ↓bse h4, ↓reduceIte, inb, zl, zi_add, zi_sub, zi_mul, zi_neg, zi_le_t, zi_le_f, zi_lt_t, zi_lt_f, zi_eq_t, zi_eq_f, if_true, if_false, ite_true, ite_false, true_and, and_true, false_and, and_false, not_true_eq_false, not_false_eq_true, true_or, or_true, false_or, or_false, and_self, ge_iff_le, gt_iff_lt]
      · have hw : RR a p s v g k t Q (sA (sA (sA δc 46 a (zi sc) (zi 1)) 47 a (zi sc) (zi (v.2.2.2.2 sc 4))) 48 a (zi sc) (zi 1)) (sA (sA (sA δm 141 23 (zi sc) (zi 1)) 142 23 (zi sc) (zi (v.2.2.2.2 sc 4))) 145 23 (zi sc) (zi 1)) :=
          ⟨C, M, m, R, hT, hY, wake_sc W hC s0 s1 h2 h1⟩
        have wk : ∀ (e1 : F_Ru_oneTick_25_b a kc (zi sc) δc = F_Ru_oneTick_87 a kc (zi sc) δc) (e2 : F_M_ticks_44_b km (zi sc) δm = F_M_ticks_127 km (zi sc) δm), ∃ δc' δm', F_Ru_oneTick_25_b a kc (zi sc) δc = kc (zi (sc + 1)) δc' ∧ F_M_ticks_44_b km (zi sc) δm = km (zi (sc + 1)) δm' ∧ RR a p s v g k t Q δc' δm' ∧ Fr (SRc a s) δc δc' ∧ Fr SRm δm δm' := by
          intro e1 e2
          refine ⟨_, _, ?_, ?_, hw, ((Fr.rf.sA (Or.inr ⟨rfl, by decide, by decide⟩)).sA (Or.inr ⟨rfl, by decide, by decide⟩)).sA (Or.inr ⟨rfl, by decide, by decide⟩), ((Fr.rf.sA (Or.inl ⟨by decide, by decide⟩)).sA (Or.inl ⟨by decide, by decide⟩)).sA (Or.inl ⟨by decide, by decide⟩)⟩
          · rw [e1]
            simp only [F_Ru_oneTick_87, hp, zl, zi_add, zi_sub, zi_mul, zi_neg]
            simp (disch := omega) only [↓bnd_eq, bd2, bn2, Option.bind_some, Option.bind_none, ↓bse ct, F_Ru_oneTick_115, e11, ↓reduceIte, inb, zl, zi_add, zi_sub, zi_mul, zi_neg, zi_le_t, zi_le_f, zi_lt_t, zi_lt_f, zi_eq_t, zi_eq_f, if_true, if_false, ite_true, ite_false, true_and, and_true, false_and, and_false, not_true_eq_false, not_false_eq_true, true_or, or_true, false_or, or_false, and_self, ge_iff_le, gt_iff_lt]
          · rw [e2]
            simp (disch := omega) only [F_M_ticks_127, F_M_ticks_146, ↓bnd_eq, bd2, bn2, Option.bind_some, Option.bind_none, m4', ↓bse mk4, ↓reduceIte, inb, zl, zi_add, zi_sub, zi_mul, zi_neg, zi_le_t, zi_le_f, zi_lt_t, zi_lt_f, zi_eq_t, zi_eq_f, if_true, if_false, ite_true, ite_false, true_and, and_true, false_and, and_false, not_true_eq_false, not_false_eq_true, true_or, or_true, false_or, or_false, and_self, ge_iff_le, gt_iff_lt]
        by_cases q1 : st = 1
        · rw [q1] at x46 x141
          rcases (show v.2.2.2.2 sc 3 = 0 ∨ v.2.2.2.2 sc 3 = 1 by omega) with qg | qg
          · apply skip
            rw [qg] at cg m3
            constructor
            · simp only [F_Ru_oneTick_25_b, hp, zl, zi_add, zi_sub, zi_mul, zi_neg]
              simp (disch := omega) only [↓bnd_eq, bd2, bn2, Option.bind_some, Option.bind_none, C.2.1, x46, ↓bse h3, ↓bse cg, F_Ru_oneTick_115, ↓reduceIte, inb, zl, zi_add, zi_sub, zi_mul, zi_neg, zi_le_t, zi_le_f, zi_lt_t, zi_lt_f, zi_eq_t, zi_eq_f, if_true, if_false, ite_true, ite_false, true_and, and_true, false_and, and_false, not_true_eq_false, not_false_eq_true, true_or, or_true, false_or, or_false, and_self, ge_iff_le, gt_iff_lt]
            · simp (disch := omega) only [F_M_ticks_44_b, F_M_ticks_102, F_M_ticks_103, F_M_ticks_146, ↓bnd_eq, bd2, bn2, Option.bind_some, Option.bind_none, M.2.1, m4, m0, m.2.1, m.2.2.2.2, x141, m3, ↓bse h4, ↓reduceIte, inb, zl, zi_add, zi_sub, zi_mul, zi_neg, zi_le_t, zi_le_f, zi_lt_t, zi_lt_f, zi_eq_t, zi_eq_f, if_true, if_false, ite_true, ite_false, true_and, and_true, false_and, and_false, not_true_eq_false, not_false_eq_true, true_or, or_true, false_or, or_false, and_self, ge_iff_le, gt_iff_lt]
          · apply wk
            · rw [qg] at cg
              simp only [F_Ru_oneTick_25_b, hp, zl, zi_add, zi_sub, zi_mul, zi_neg]
              simp (disch := omega) only [↓bnd_eq, bd2, bn2, Option.bind_some, Option.bind_none, C.2.1, x46, ↓bse h3, ↓bse cg, ↓reduceIte, inb, zl, zi_add, zi_sub, zi_mul, zi_neg, zi_le_t, zi_le_f, zi_lt_t, zi_lt_f, zi_eq_t, zi_eq_f, if_true, if_false, ite_true, ite_false, true_and, and_true, false_and, and_false, not_true_eq_false, not_false_eq_true, true_or, or_true, false_or, or_false, and_self, ge_iff_le, gt_iff_lt]
            · rw [qg] at m3
              simp (disch := omega) only [F_M_ticks_44_b, F_M_ticks_102, F_M_ticks_103, F_M_ticks_146, ↓bnd_eq, bd2, bn2, Option.bind_some, Option.bind_none, M.2.1, m4, m0, m.2.1, m.2.2.2.2, x141, m3, ↓bse h4, ↓reduceIte, inb, zl, zi_add, zi_sub, zi_mul, zi_neg, zi_le_t, zi_le_f, zi_lt_t, zi_lt_f, zi_eq_t, zi_eq_f, if_true, if_false, ite_true, ite_false, true_and, and_true, false_and, and_false, not_true_eq_false, not_false_eq_true, true_or, or_true, false_or, or_false, and_self, ge_iff_le, gt_iff_lt]
        · have q0 : st = 0 := by omega
          rw [q0] at x46 x141
          apply wk
          · simp only [F_Ru_oneTick_25_b, hp, zl, zi_add, zi_sub, zi_mul, zi_neg]
            simp (disch := omega) only [↓bnd_eq, bd2, bn2, Option.bind_some, Option.bind_none, C.2.1, x46, ↓bse h3, ↓reduceIte, inb, zl, zi_add, zi_sub, zi_mul, zi_neg, zi_le_t, zi_le_f, zi_lt_t, zi_lt_f, zi_eq_t, zi_eq_f, if_true, if_false, ite_true, ite_false, true_and, and_true, false_and, and_false, not_true_eq_false, not_false_eq_true, true_or, or_true, false_or, or_false, and_self, ge_iff_le, gt_iff_lt]
          · simp (disch := omega) only [F_M_ticks_44_b, F_M_ticks_102, F_M_ticks_103, F_M_ticks_146, ↓bnd_eq, bd2, bn2, Option.bind_some, Option.bind_none, M.2.1, m4, m0, m.2.1, m.2.2.2.2, x141, ↓bse h4, ↓reduceIte, inb, zl, zi_add, zi_sub, zi_mul, zi_neg, zi_le_t, zi_le_f, zi_lt_t, zi_lt_f, zi_eq_t, zi_eq_f, if_true, if_false, ite_true, ite_false, true_and, and_true, false_and, and_false, not_true_eq_false, not_false_eq_true, true_or, or_true, false_or, or_false, and_self, ge_iff_le, gt_iff_lt]
/-- the steps of all scripts -/
theorem lk_steps (W : PW v) (wg : WG g) (hp : wsr 40 a = p) (hs : wsr 41 a = s) {t : Int} : ∀ (n : Nat) (sc Q : Int) (f1 f2 : Nat) (δc δm : Dl), RR a p s v g k t Q δc δm → 0 ≤ sc → sc ≤ v.2.1 → (v.2.1 - sc).toNat ≤ n → n < f1 → n < f2 → Q + n ≤ 10000 →
    ∃ δc' δm', F_Ru_oneTick_123 a f1 (zi sc) δc = some δc' ∧ F_M_ticks_154 f2 (zi sc) δm = some δm' ∧ RR a p s v g k t (Q + n) δc' δm' ∧ Fr (SRc a s) δc δc' ∧ Fr SRm δm δm' := by
  intro n
  have hM := W.2.1
  have done : ∀ (sc Q : Int) (n f1 f2 : Nat) (δc δm : Dl), RR a p s v g k t Q δc δm → sc = v.2.1 → 0 < f1 → 0 < f2 → ∃ δc' δm', F_Ru_oneTick_123 a f1 (zi sc) δc = some δc' ∧ F_M_ticks_154 f2 (zi sc) δm = some δm' ∧ RR a p s v g k t (Q + n) δc' δm' ∧ Fr (SRc a s) δc δc' ∧ Fr SRm δm δm' := by
    intro sc Q n f1 f2 δc δm H e h1 h2
    obtain ⟨f1, rfl⟩ : ∃ q, f1 = q + 1 := ⟨f1 - 1, by omega⟩
    obtain ⟨f2, rfl⟩ : ∃ q, f2 = q + 1 := ⟨f2 - 1, by omega⟩
    refine ⟨δc, δm, ?_, ?_, H.up (by omega), Fr.rf, Fr.rf⟩
    · simp only [F_Ru_oneTick_123, F_Ru_oneTick_123_b, hp, zl, zi_add, zi_sub, zi_mul, zi_neg]
      simp (disch := omega) only [↓bnd_eq, bd2, bn2, Option.bind_some, Option.bind_none, H.1.2.1, ↓reduceIte, inb, zl, zi_add, zi_sub, zi_mul, zi_neg, zi_le_t, zi_le_f, zi_lt_t, zi_lt_f, zi_eq_t, zi_eq_f, if_true, if_false, ite_true, ite_false, true_and, and_true, false_and, and_false, not_true_eq_false, not_false_eq_true, true_or, or_true, false_or, or_false, and_self, ge_iff_le, gt_iff_lt]
    · simp (disch := omega) only [F_M_ticks_154, F_M_ticks_154_b, ↓bnd_eq, bd2, bn2, Option.bind_some, Option.bind_none, H.2.1.2.1, ↓reduceIte, inb, zl, zi_add, zi_sub, zi_mul, zi_neg, zi_le_t, zi_le_f, zi_lt_t, zi_lt_f, zi_eq_t, zi_eq_f, if_true, if_false, ite_true, ite_false, true_and, and_true, false_and, and_false, not_true_eq_false, not_false_eq_true, true_or, or_true, false_or, or_false, and_self, ge_iff_le, gt_iff_lt]
  induction n with
  | zero => intro sc Q f1 f2 δc δm H s0 s1 hn h1 h2 hQ; exact done sc Q 0 f1 f2 δc δm H (by omega) h1 h2
  | succ n ih =>
    intro sc Q f1 f2 δc δm H s0 s1 hn h1 h2 hQ
    by_cases q : sc = v.2.1
    · exact done sc Q (n + 1) f1 f2 δc δm H q (by omega) (by omega)
    · obtain ⟨f1, rfl⟩ : ∃ q, f1 = q + 1 := ⟨f1 - 1, by omega⟩
      obtain ⟨f2, rfl⟩ : ∃ q, f2 = q + 1 := ⟨f2 - 1, by omega⟩
      obtain ⟨st, hst, x46, x141, x47, x49, hst1⟩ := H.2.2.2.2.2.2 sc s0 (by omega)
      clear hst1
      by_cases q1 : st = 1
      · rw [q1] at x46 x141
        obtain ⟨d1, d2, e1, e2, H2, F1, F2⟩ := lk_step W wg hp hs H (by omega) ⟨s0, by omega⟩ x46
        obtain ⟨c1, c2, e3, e4, H3, F3, F4⟩ := ih (sc + 1) (Q + 1) f1 f2 d1 d2 H2 (by omega) (by omega) (by omega) (by omega) (by omega) (by omega)
        refine ⟨c1, c2, ?_, ?_, H3.up (by omega), F1.tr F3, F2.tr F4⟩
        · rw [← e3]
          simp only [F_Ru_oneTick_123, F_Ru_oneTick_123_b, F_Ru_oneTick_155, hp, zl, zi_add, zi_sub, zi_mul, zi_neg]
          simp (disch := omega) only [↓bnd_eq, bd2, bn2, Option.bind_some, Option.bind_none, H.1.2.1, x46, ↓bse e1, ↓reduceIte, inb, zl, zi_add, zi_sub, zi_mul, zi_neg, zi_le_t, zi_le_f, zi_lt_t, zi_lt_f, zi_eq_t, zi_eq_f, if_true, if_false, ite_true, ite_false, true_and, and_true, false_and, and_false, not_true_eq_false, not_false_eq_true, true_or, or_true, false_or, or_false, and_self, ge_iff_le, gt_iff_lt]
        · rw [← e4]
          simp (disch := omega) only [F_M_ticks_154, F_M_ticks_154_b, F_M_ticks_177, ↓bnd_eq, bd2, bn2, Option.bind_some, Option.bind_none, H.2.1.2.1, x141, ↓bse e2, ↓reduceIte, inb, zl, zi_add, zi_sub, zi_mul, zi_neg, zi_le_t, zi_le_f, zi_lt_t, zi_lt_f, zi_eq_t, zi_eq_f, if_true, if_false, ite_true, ite_false, true_and, and_true, false_and, and_false, not_true_eq_false, not_false_eq_true, true_or, or_true, false_or, or_false, and_self, ge_iff_le, gt_iff_lt]
      · obtain ⟨c1, c2, e3, e4, H3, F3, F4⟩ := ih (sc + 1) Q f1 f2 δc δm H (by omega) (by omega) (by omega) (by omega) (by omega) (by omega)
        refine ⟨c1, c2, ?_, ?_, H3.up (by omega), F3, F4⟩
        · rw [← e3]
          simp only [F_Ru_oneTick_123, F_Ru_oneTick_123_b, F_Ru_oneTick_155, hp, zl, zi_add, zi_sub, zi_mul, zi_neg]
          simp (disch := omega) only [↓bnd_eq, bd2, bn2, Option.bind_some, Option.bind_none, H.1.2.1, x46, ↓reduceIte, inb, zl, zi_add, zi_sub, zi_mul, zi_neg, zi_le_t, zi_le_f, zi_lt_t, zi_lt_f, zi_eq_t, zi_eq_f, if_true, if_false, ite_true, ite_false, true_and, and_true, false_and, and_false, not_true_eq_false, not_false_eq_true, true_or, or_true, false_or, or_false, and_self, ge_iff_le, gt_iff_lt]
        · rw [← e4]
          simp (disch := omega) only [F_M_ticks_154, F_M_ticks_154_b, F_M_ticks_177, ↓bnd_eq, bd2, bn2, Option.bind_some, Option.bind_none, H.2.1.2.1, x141, ↓reduceIte, inb, zl, zi_add, zi_sub, zi_mul, zi_neg, zi_le_t, zi_le_f, zi_lt_t, zi_lt_f, zi_eq_t, zi_eq_f, if_true, if_false, ite_true, ite_false, true_and, and_true, false_and, and_false, not_true_eq_false, not_false_eq_true, true_or, or_true, false_or, or_false, and_self, ge_iff_le, gt_iff_lt]
/-- the waking of all scripts, and their steps -/
theorem lk_wakes (W : PW v) (wg : WG g) (hp : wsr 40 a = p) (hs : wsr 41 a = s) {t Q : Int} (ht : 0 ≤ t ∧ t ≤ 2000) (hQ : Q ≤ 9000) : ∀ (n : Nat) (sc : Int) (f1 f2 : Nat) (δc δm : Dl), RR a p s v g k t Q δc δm → 0 ≤ sc → sc ≤ v.2.1 → (v.2.1 - sc).toNat ≤ n → n < f1 → n < f2 →
    ∃ δc' δm', F_Ru_oneTick_25 a f1 (zi sc) δc = some δc' ∧ F_M_ticks_44 f2 (zi sc) δm = some δm' ∧ RR a p s v g k t (Q + 6) δc' δm' ∧ Fr (SRc a s) δc δc' ∧ Fr SRm δm δm' := by
  intro n
  have hM := W.2.1
  have done : ∀ (sc : Int) (f1 f2 : Nat) (δc δm : Dl), RR a p s v g k t Q δc δm → sc = v.2.1 → 0 < f1 → 0 < f2 → ∃ δc' δm', F_Ru_oneTick_25 a f1 (zi sc) δc = some δc' ∧ F_M_ticks_44 f2 (zi sc) δm = some δm' ∧ RR a p s v g k t (Q + 6) δc' δm' ∧ Fr (SRc a s) δc δc' ∧ Fr SRm δm δm' := by
    intro sc f1 f2 δc δm H e h1 h2
    obtain ⟨f1, rfl⟩ : ∃ q, f1 = q + 1 := ⟨f1 - 1, by omega⟩
    obtain ⟨f2, rfl⟩ : ∃ q, f2 = q + 1 := ⟨f2 - 1, by omega⟩
    obtain ⟨c1, c2, e3, e4, H3, F3, F4⟩ := lk_steps W wg hp hs (v.2.1).toNat 0 Q FU FU δc δm H (by omega) (by omega) (by omega) (by unfold FU; omega) (by unfold FU; omega) (by omega)
    refine ⟨c1, c2, ?_, ?_, H3.up (by omega), F3, F4⟩
    · rw [← e3]
      simp only [F_Ru_oneTick_25, F_Ru_oneTick_25_b, F_Ru_oneTick_121, hp, zl, zi_add, zi_sub, zi_mul, zi_neg]
      simp (disch := omega) only [↓bnd_eq, bd2, bn2, Option.bind_some, Option.bind_none, H.1.2.1, ↓reduceIte, inb, zl, zi_add, zi_sub, zi_mul, zi_neg, zi_le_t, zi_le_f, zi_lt_t, zi_lt_f, zi_eq_t, zi_eq_f, if_true, if_false, ite_true, ite_false, true_and, and_true, false_and, and_false, not_true_eq_false, not_false_eq_true, true_or, or_true, false_or, or_false, and_self, ge_iff_le, gt_iff_lt]
    · rw [← e4]
      simp (disch := omega) only [F_M_ticks_44, F_M_ticks_44_b, ↓bnd_eq, bd2, bn2, Option.bind_some, Option.bind_none, H.2.1.2.1, ↓reduceIte, inb, zl, zi_add, zi_sub, zi_mul, zi_neg, zi_le_t, zi_le_f, zi_lt_t, zi_lt_f, zi_eq_t, zi_eq_f, if_true, if_false, ite_true, ite_false, true_and, and_true, false_and, and_false, not_true_eq_false, not_false_eq_true, true_or, or_true, false_or, or_false, and_self, ge_iff_le, gt_iff_lt]
  induction n with
  | zero => intro sc f1 f2 δc δm H s0 s1 hn h1 h2; exact done sc f1 f2 δc δm H (by omega) h1 h2
  | succ n ih =>
    intro sc f1 f2 δc δm H s0 s1 hn h1 h2
    by_cases q : sc = v.2.1
    · exact done sc f1 f2 δc δm H q (by omega) (by omega)
    · obtain ⟨f1, rfl⟩ : ∃ q, f1 = q + 1 := ⟨f1 - 1, by omega⟩
      obtain ⟨f2, rfl⟩ : ∃ q, f2 = q + 1 := ⟨f2 - 1, by omega⟩
      obtain ⟨d1, d2, e1, e2, H2, F1, F2⟩ := lk_wake W wg hp hs H ht s0 (by omega) (F_Ru_oneTick_25 a f1) (F_M_ticks_44 f2)
      obtain ⟨c1, c2, e3, e4, H3, F3, F4⟩ := ih (sc + 1) f1 f2 d1 d2 H2 (by omega) (by omega) (by omega) (by omega) (by omega)
      exact ⟨c1, c2, by rw [← e3, ← e1]; rfl, by rw [← e4, ← e2]; rfl, H3, F1.tr F3, F2.tr F4⟩
/-- the reference's flags move on -/
def tkM (x t : Int) (δm : Dl) : Dl := sA (sA (sA (sA (sA (sA (sA (sA (sI δm 132 23 (zi (t + 1))) 147 23 (zi 0) (bI x 0)) 146 23 (zi 0) (zi 0)) 147 23 (zi 1) (bI x 1)) 146 23 (zi 1) (zi 0)) 147 23 (zi 2) (bI x 2)) 146 23 (zi 2) (zi 0)) 147 23 (zi 3) (bI x 3)) 146 23 (zi 3) (zi 0)
theorem tk_M1 {fu : Nat} {c x : Int} {δ : Dl} (c0 : 0 ≤ c) (c4 : c < 4) (hx : 0 ≤ x ∧ x < 16) (h : δ.2.1 146 23 (zi c) = bI x c) : F_M_ticks_12 (fu + 1) (zi c) δ = F_M_ticks_12 fu (zi (c + 1)) (sA (sA δ 147 23 (zi c) (bI x c)) 146 23 (zi c) (zi 0)) := by
  have b0 := bI01 hx (c := c) ⟨c0, c4⟩
  have z00 : zi 0 &&& zi 1 = zi 0 := by decide
  simp (disch := omega) only [F_M_ticks_12, F_M_ticks_12_b, ↓bnd_eq, bd2, bn2, Option.bind_some, Option.bind_none, h, b0.2, z00, ↓reduceIte, inb, zl, zi_add, zi_sub, zi_mul, zi_neg, zi_le_t, zi_le_f, zi_lt_t, zi_lt_f, zi_eq_t, zi_eq_f, if_true, if_false, ite_true, ite_false, true_and, and_true, false_and, and_false, not_true_eq_false, not_false_eq_true, true_or, or_true, false_or, or_false, and_self, ge_iff_le, gt_iff_lt]
theorem tk_M2 {fu : Nat} {δ : Dl} : F_M_ticks_12 (fu + 1) (zi 4) δ = F_M_ticks_44 FU (zi 0) δ := by
  simp (disch := omega) only [F_M_ticks_12, F_M_ticks_12_b, ↓bnd_eq, bd2, bn2, Option.bind_some, Option.bind_none, ↓reduceIte, inb, zl, zi_add, zi_sub, zi_mul, zi_neg, zi_le_t, zi_le_f, zi_lt_t, zi_lt_f, zi_eq_t, zi_eq_f, if_true, if_false, ite_true, ite_false, true_and, and_true, false_and, and_false, not_true_eq_false, not_false_eq_true, true_or, or_true, false_or, or_false, and_self, ge_iff_le, gt_iff_lt]
theorem tk_M3 {x t : Int} (hx : 0 ≤ x ∧ x < 16) (h0 : δm.2.1 146 23 (zi 0) = bI x 0) (h1 : δm.2.1 146 23 (zi 1) = bI x 1) (h2 : δm.2.1 146 23 (zi 2) = bI x 2) (h3 : δm.2.1 146 23 (zi 3) = bI x 3) (fu : Nat) : F_M_ticks_12 (fu + 1 + 1 + 1 + 1 + 1) (zi 0) (sI δm 132 23 (zi (t + 1))) = F_M_ticks_44 FU (zi 0) (tkM x t δm) := by
  have n1 : ¬ zi 1 = zi 0 := by decide
  have n2 : ¬ zi 2 = zi 0 := by decide
  have n3 : ¬ zi 2 = zi 1 := by decide
  have n4 : ¬ zi 3 = zi 0 := by decide
  have n5 : ¬ zi 3 = zi 1 := by decide
  have n6 : ¬ zi 3 = zi 2 := by decide
  rw [tk_M1 (δ := sI δm 132 23 (zi (t + 1))) (c := 0) (by decide) (by decide) hx h0]
  rw [tk_M1 (c := 0 + 1) (by decide) (by decide) hx (by rw [show (0 : Int) + 1 = 1 from rfl, rAn n1, rAn n1]; exact h1)]
  rw [tk_M1 (c := 0 + 1 + 1) (by decide) (by decide) hx (by rw [show (0 : Int) + 1 + 1 = 2 from rfl, show (0 : Int) + 1 = 1 from rfl, rAn n3, rAn n3, rAn n2, rAn n2]; exact h2)]
  rw [tk_M1 (c := 0 + 1 + 1 + 1) (by decide) (by decide) hx (by rw [show (0 : Int) + 1 + 1 + 1 = 3 from rfl, show (0 : Int) + 1 + 1 = 2 from rfl, show (0 : Int) + 1 = 1 from rfl, rAn n6, rAn n6, rAn n5, rAn n5, rAn n4, rAn n4]; exact h3)]
  exact tk_M2
theorem tk_M {x t : Int} (hx : 0 ≤ x ∧ x < 16) (ht : 0 ≤ t ∧ t ≤ 1000) (y2 : δm.1 132 23 = zi t) (h0 : δm.2.1 146 23 (zi 0) = bI x 0) (h1 : δm.2.1 146 23 (zi 1) = bI x 1) (h2 : δm.2.1 146 23 (zi 2) = bI x 2) (h3 : δm.2.1 146 23 (zi 3) = bI x 3) : F_M_ticks δm = F_M_ticks_44 FU (zi 0) (tkM x t δm) := by
  have gen : ∀ fu : Nat, 5 ≤ fu → F_M_ticks_12 fu (zi 0) (sI δm 132 23 (zi (t + 1))) = F_M_ticks_44 FU (zi 0) (tkM x t δm) := by
    intro fu hf
    obtain ⟨fu, rfl⟩ : ∃ q, fu = q + 1 + 1 + 1 + 1 + 1 := ⟨fu - 5, by omega⟩
    exact tk_M3 hx h0 h1 h2 h3 fu
  have z1 : (1 : Int32) = zi 1 := zl 1
  have z0 : (0 : Int32) = zi 0 := zl 0
  have e : F_M_ticks δm = F_M_ticks_12 FU (zi 0) (sI δm 132 23 (zi (t + 1))) := by
    unfold F_M_ticks
    rw [bnd_eq, y2, z1, z0, zi_add]
  have h5 : 5 ≤ FU := Nat.le_of_ble_eq_true rfl
  exact e.trans (gen FU h5)
theorem tk_rows {x t c : Int} (c0 : 0 ≤ c) (c4 : c < 4) : (tkM x t δm).2.1 146 23 (zi c) = bI 0 c ∧ (tkM x t δm).2.1 147 23 (zi c) = bI x c := by
  unfold tkM
  rcases (show c = 0 ∨ c = 1 ∨ c = 2 ∨ c = 3 by omega) with rfl | rfl | rfl | rfl
  · constructor
    · simp (disch := omega) only [q2A, q2I, Nat.reduceEqDiff, ↓reduceIte, inb, zl, zi_add, zi_sub, zi_mul, zi_neg, zi_le_t, zi_le_f, zi_lt_t, zi_lt_f, zi_eq_t, zi_eq_f, if_true, if_false, ite_true, ite_false, true_and, and_true, false_and, and_false, not_true_eq_false, not_false_eq_true, true_or, or_true, false_or, or_false, and_self, ge_iff_le, gt_iff_lt]; exact (bI0 0 (by decide)).symm
    · simp (disch := omega) only [q2A, q2I, Nat.reduceEqDiff, ↓reduceIte, inb, zl, zi_add, zi_sub, zi_mul, zi_neg, zi_le_t, zi_le_f, zi_lt_t, zi_lt_f, zi_eq_t, zi_eq_f, if_true, if_false, ite_true, ite_false, true_and, and_true, false_and, and_false, not_true_eq_false, not_false_eq_true, true_or, or_true, false_or, or_false, and_self, ge_iff_le, gt_iff_lt]
  · constructor
    · simp (disch := omega) only [q2A, q2I, Nat.reduceEqDiff, ↓reduceIte, inb, zl, zi_add, zi_sub, zi_mul, zi_neg, zi_le_t, zi_le_f, zi_lt_t, zi_lt_f, zi_eq_t, zi_eq_f, if_true, if_false, ite_true, ite_false, true_and, and_true, false_and, and_false, not_true_eq_false, not_false_eq_true, true_or, or_true, false_or, or_false, and_self, ge_iff_le, gt_iff_lt]; exact (bI0 1 (by decide)).symm
    · simp (disch := omega) only [q2A, q2I, Nat.reduceEqDiff, ↓reduceIte, inb, zl, zi_add, zi_sub, zi_mul, zi_neg, zi_le_t, zi_le_f, zi_lt_t, zi_lt_f, zi_eq_t, zi_eq_f, if_true, if_false, ite_true, ite_false, true_and, and_true, false_and, and_false, not_true_eq_false, not_false_eq_true, true_or, or_true, false_or, or_false, and_self, ge_iff_le, gt_iff_lt]
  · constructor
    · simp (disch := omega) only [q2A, q2I, Nat.reduceEqDiff, ↓reduceIte, inb, zl, zi_add, zi_sub, zi_mul, zi_neg, zi_le_t, zi_le_f, zi_lt_t, zi_lt_f, zi_eq_t, zi_eq_f, if_true, if_false, ite_true, ite_false, true_and, and_true, false_and, and_false, not_true_eq_false, not_false_eq_true, true_or, or_true, false_or, or_false, and_self, ge_iff_le, gt_iff_lt]; exact (bI0 2 (by decide)).symm
    · simp (disch := omega) only [q2A, q2I, Nat.reduceEqDiff, ↓reduceIte, inb, zl, zi_add, zi_sub, zi_mul, zi_neg, zi_le_t, zi_le_f, zi_lt_t, zi_lt_f, zi_eq_t, zi_eq_f, if_true, if_false, ite_true, ite_false, true_and, and_true, false_and, and_false, not_true_eq_false, not_false_eq_true, true_or, or_true, false_or, or_false, and_self, ge_iff_le, gt_iff_lt]
  · constructor
    · simp (disch := omega) only [q2A, q2I, Nat.reduceEqDiff, ↓reduceIte, inb, zl, zi_add, zi_sub, zi_mul, zi_neg, zi_le_t, zi_le_f, zi_lt_t, zi_lt_f, zi_eq_t, zi_eq_f, if_true, if_false, ite_true, ite_false, true_and, and_true, false_and, and_false, not_true_eq_false, not_false_eq_true, true_or, or_true, false_or, or_false, and_self, ge_iff_le, gt_iff_lt]; exact (bI0 3 (by decide)).symm
    · simp (disch := omega) only [q2A, q2I, Nat.reduceEqDiff, ↓reduceIte, inb, zl, zi_add, zi_sub, zi_mul, zi_neg, zi_le_t, zi_le_f, zi_lt_t, zi_lt_f, zi_eq_t, zi_eq_f, if_true, if_false, ite_true, ite_false, true_and, and_true, false_and, and_false, not_true_eq_false, not_false_eq_true, true_or, or_true, false_or, or_false, and_self, ge_iff_le, gt_iff_lt]
theorem tk_fr {x t : Int} : Fr (fun g _ => g = 132 ∨ g = 146 ∨ g = 147) δm (tkM x t δm) := ((((((((Fr.rf.sI (by decide)).sA (by decide)).sA (by decide)).sA (by decide)).sA (by decide)).sA (by decide)).sA (by decide)).sA (by decide)).sA (by decide)
theorem tk_1 {x t : Int} : (tkM x t δm).1 = (sI δm 132 23 (zi (t + 1))).1 := rfl
def tkC (a : Nat) (x t : Int) (δc : Dl) : Dl := sI (sI (sI δc 43 a (zi (t + 1))) 52 a (zi x)) 51 a (zi 0)
theorem tc_fr {x t : Int} : Fr (fun g b => b = a ∧ (g = 43 ∨ g = 51 ∨ g = 52)) δc (tkC a x t δc) := ((Fr.rf.sI ⟨rfl, by decide⟩).sI ⟨rfl, by decide⟩).sI ⟨rfl, by decide⟩
theorem tk_R {x n t Q : Int} (C : CP p δc v) (M : MP δm v) (m : RM k g δm) (R : RS s g δc δm) (hx : 0 ≤ x ∧ x < 16) (hY : RY a t Q δc δm) (hC : RSC a v g δc δm) : RR a p s v g k (t + 1) Q (tkC a x t δc) (tkM x t δm) := by
  have F1 : Fr (fun g b => b = a ∧ (g = 43 ∨ g = 51 ∨ g = 52)) δc (tkC a x t δc) := tc_fr
  have F2 : Fr (fun g _ => g = 132 ∨ g = 146 ∨ g = 147) δm (tkM x t δm) := tk_fr
  obtain ⟨q, hq, y1, y2, y3, y4, y5⟩ := hY
  refine ⟨C.fr F1 (fun f h1 h2 e => by omega), M.fr F2 (fun f h1 h2 e => by omega), m.fr F2 ⟨by omega, by omega, by omega, by omega⟩, R.fr F1 F2 (fun f h1 h2 e => by omega) (fun f h1 h2 e => by omega), ⟨0, x, by omega, hx, ?_, ?_, fun c c0 c4 => tk_rows c0 c4⟩, ⟨q, hq, ?_, ?_, ?_, ?_, ?_⟩, hC.fr F1 F2 (fun f h1 h2 e => by omega) (fun f h1 h2 e => by omega)⟩
  · unfold tkC; rw [sI_at]
  · unfold tkC; rw [q1I, if_neg (fun e => absurd e.1 (by decide)), sI_at]
  · unfold tkC; rw [q1I, if_neg (fun e => absurd e.1 (by decide)), q1I, if_neg (fun e => absurd e.1 (by decide)), sI_at]
  · rw [tk_1, sI_at]
  · rw [(F1.2 44 a (fun e => by omega)).1]; exact y3
  · rw [(F2.2 148 23 (fun e => by omega)).1]; exact y4
  · rw [(F1.2 45 a (fun e => by omega)).2, (F2.2 149 23 (fun e => by omega)).2, (F2.2 150 23 (fun e => by omega)).2, (F2.2 151 23 (fun e => by omega)).2]; exact y5
/-- between ticks: what was sent in the tick ahead is of no weight -/
def RT0 (a : Nat) (δc δm : Dl) : Prop := ∃ m : Int, (0 ≤ m ∧ m < 16) ∧ δc.1 51 a = zi m ∧ ∀ c, 0 ≤ c → c < 4 → δm.2.1 146 23 (zi c) = bI m c
def RR0 (a p s : Nat) (v : PG) (g : SG) (k t Q : Int) (δc δm : Dl) : Prop := CP p δc v ∧ MP δm v ∧ RM k g δm ∧ RS s g δc δm ∧ RT0 a δc δm ∧ RY a t Q δc δm ∧ RSC a v g δc δm
theorem RR.r0 {t Q : Int} (h : RR a p s v g k t Q δc δm) : RR0 a p s v g k t Q δc δm := by
  obtain ⟨C, M, m, R, ⟨x, n, hx, hn, t1, t2, t3⟩, hY, hC⟩ := h
  exact ⟨C, M, m, R, ⟨x, hx, t1, fun c c0 c4 => (t3 c c0 c4).1⟩, hY, hC⟩
/-- a tick -/
theorem lk_tick (W : PW v) (wg : WG g) (hp : wsr 40 a = p) (hs : wsr 41 a = s) {t Q : Int} (H : RR0 a p s v g k t Q δc δm) (ht : 0 ≤ t ∧ t ≤ 1000) (hQ : Q ≤ 9000) :
    ∃ δc' δm', F_Ru_oneTick a δc = some δc' ∧ F_M_ticks δm = some δm' ∧ RR0 a p s v g k (t + 1) (Q + 6) δc' δm' ∧ Fr (SRc a s) δc δc' ∧ Fr SRm δm δm' := by
  have hM := W.2.1
  obtain ⟨C, M, m, R, hT, hY, hC⟩ := H
  obtain ⟨x, hx, t1, t3⟩ := hT
  have H' : RR a p s v g k (t + 1) Q (tkC a x t δc) (tkM x t δm) := tk_R (n := 0) C M m R hx hY hC
  obtain ⟨q, hq, y1, y2, y3, y4, y5⟩ := hY
  have eC : F_Ru_oneTick a δc = F_Ru_oneTick_25 a FU (zi 0) (tkC a x t δc) := by
    unfold tkC
    simp (disch := omega) only [F_Ru_oneTick, ↓bnd_eq, bd2, bn2, Option.bind_some, Option.bind_none, y1, q1I, t1, Nat.reduceEqDiff, ↓reduceIte, inb, zl, zi_add, zi_sub, zi_mul, zi_neg, zi_le_t, zi_le_f, zi_lt_t, zi_lt_f, zi_eq_t, zi_eq_f, if_true, if_false, ite_true, ite_false, true_and, and_true, false_and, and_false, not_true_eq_false, not_false_eq_true, true_or, or_true, false_or, or_false, and_self, ge_iff_le, gt_iff_lt]
  have eM := tk_M hx ht y2 (t3 0 (by decide) (by decide)) (t3 1 (by decide) (by decide)) (t3 2 (by decide) (by decide)) (t3 3 (by decide) (by decide))
  obtain ⟨c1, c2, e3, e4, H3, F3, F4⟩ := lk_wakes W wg hp hs (t := t + 1) (Q := Q) (by omega) hQ (v.2.1).toNat 0 FU FU _ _ H' (by omega) (by omega) (by omega) (by unfold FU; omega) (by unfold FU; omega)
  exact ⟨c1, c2, eC.trans e3, eM.trans e4, H3.r0, (tc_fr.to (fun x y e => Or.inr ⟨e.1, by omega, by omega⟩)).tr F3, (tk_fr.to (fun x y e => by
    show (132 ≤ x ∧ x ≤ 151) ∨ x = 174
    omega)).tr F4⟩
end TK
