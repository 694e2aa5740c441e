/-! mark, the call (wip/whole/pure) -/
section MK3
variable {v : PG} {gk : Int → SG} {n nw : Int} {w : Nat} {wh : Int → Int}
theorem lk_mark {c m : Dl} (x1 : Int32) (W : PW v) (hn : 0 ≤ n ∧ n ≤ 4) (wg : ∀ i : Nat, (i : Int) < n → WG (gk i)) (hw : w = 16 ∨ w = 17) (hnw : 0 ≤ nw ∧ nw ≤ 4) (C1 : CP 1 c v) (h1 : c.1 94 0 = zi n) (h2 : ∀ i : Nat, i < 4 → c.2.2 93 i = (0, 4 + i)) (h3 : ∀ i : Nat, (i : Int) < n → CG (4 + i) c (gk i)) (h4 : c.2.2 99 0 = (0, w)) (hm : MHm v n gk m) (hS : WS w nw wh c m) :
    ∃ (r : Int32) (c' m' : Dl), F_Bs_mark x1 c = some (r, c') ∧ F_M_mark x1 m = some (r, m') ∧ ((c' = c ∧ m' = m) ∨ (c'.1 103 0 = m'.1 161 23 ∧ c'.1 104 0 = m'.1 162 23 ∧ c'.1 105 0 = m'.1 163 23)) ∧ Fr SKc c c' ∧ Fr SKm m m' := by
  obtain ⟨x, rfl, hx⟩ := zi_ex x1
  have how := oc10 hw
  have e117 := hm.2.1
  have e80 := hS.1
  have e155 := hS.2.1
  by_cases q1 : x < 1
  · refine ⟨zi (-2), c, m, ?_, ?_, Or.inl ⟨rfl, rfl⟩, Fr.rf, Fr.rf⟩
    · simp (disch := omega) only [F_Bs_mark, ↓reduceIte, inb, zl, zi_add, zi_sub, zi_mul, zi_neg, zi_le_t, zi_le_f, zi_lt_t, zi_lt_f, zi_eq_t, zi_eq_f, if_true, if_false, ite_true, ite_false, true_and, and_true, false_and, and_false, not_true_eq_false, not_false_eq_true, true_or, or_true, false_or, or_false, and_self, ge_iff_le, gt_iff_lt]
    · simp (disch := omega) only [F_M_mark, F_M_within, ↓bnd_eq, bd2, bn2, Option.bind_some, Option.bind_none, ↓reduceIte, inb, zl, zi_add, zi_sub, zi_mul, zi_neg, zi_le_t, zi_le_f, zi_lt_t, zi_lt_f, zi_eq_t, zi_eq_f, if_true, if_false, ite_true, ite_false, true_and, and_true, false_and, and_false, not_true_eq_false, not_false_eq_true, true_or, or_true, false_or, or_false, and_self, ge_iff_le, gt_iff_lt]
  · by_cases q2 : 40 < x
    · refine ⟨zi (-2), c, m, ?_, ?_, Or.inl ⟨rfl, rfl⟩, Fr.rf, Fr.rf⟩
      · simp (disch := omega) only [F_Bs_mark, ↓reduceIte, inb, zl, zi_add, zi_sub, zi_mul, zi_neg, zi_le_t, zi_le_f, zi_lt_t, zi_lt_f, zi_eq_t, zi_eq_f, if_true, if_false, ite_true, ite_false, true_and, and_true, false_and, and_false, not_true_eq_false, not_false_eq_true, true_or, or_true, false_or, or_false, and_self, ge_iff_le, gt_iff_lt]
      · simp (disch := omega) only [F_M_mark, F_M_within, ↓bnd_eq, bd2, bn2, Option.bind_some, Option.bind_none, ↓reduceIte, inb, zl, zi_add, zi_sub, zi_mul, zi_neg, zi_le_t, zi_le_f, zi_lt_t, zi_lt_f, zi_eq_t, zi_eq_f, if_true, if_false, ite_true, ite_false, true_and, and_true, false_and, and_false, not_true_eq_false, not_false_eq_true, true_or, or_true, false_or, or_false, and_self, ge_iff_le, gt_iff_lt]
    · by_cases q3 : nw = 0
      · rw [q3] at e80 e155
        have ec : F_Bs_canMark c = some (zi 0) := by
          unfold F_Bs_canMark
          rw [h4, if_pos ⟨rfl, how⟩, e80, zl0, if_pos (by decide)]
        refine ⟨zi (-3), c, m, ?_, ?_, Or.inl ⟨rfl, rfl⟩, Fr.rf, Fr.rf⟩
        · simp (disch := omega) only [F_Bs_mark, ↓bse ec, ↓reduceIte, inb, zl, zi_add, zi_sub, zi_mul, zi_neg, zi_le_t, zi_le_f, zi_lt_t, zi_lt_f, zi_eq_t, zi_eq_f, if_true, if_false, ite_true, ite_false, true_and, and_true, false_and, and_false, not_true_eq_false, not_false_eq_true, true_or, or_true, false_or, or_false, and_self, ge_iff_le, gt_iff_lt]
        · simp (disch := omega) only [F_M_mark, F_M_within, ↓bnd_eq, bd2, bn2, Option.bind_some, Option.bind_none, e155, ↓reduceIte, inb, zl, zi_add, zi_sub, zi_mul, zi_neg, zi_le_t, zi_le_f, zi_lt_t, zi_lt_f, zi_eq_t, zi_eq_f, if_true, if_false, ite_true, ite_false, true_and, and_true, false_and, and_false, not_true_eq_false, not_false_eq_true, true_or, or_true, false_or, or_false, and_self, ge_iff_le, gt_iff_lt]
      · by_cases q4 : n = 0
        · rw [q4] at h1 e117
          have ec : F_Bs_canMark c = some (zi 0) := by
            unfold F_Bs_canMark
            rw [h4, if_pos ⟨rfl, how⟩, e80, zl0, if_neg (by rw [zi_le (by omega) (by omega)]; omega), h1, if_pos (by decide)]
          refine ⟨zi (-3), c, m, ?_, ?_, Or.inl ⟨rfl, rfl⟩, Fr.rf, Fr.rf⟩
          · simp (disch := omega) only [F_Bs_mark, ↓bse ec, ↓reduceIte, inb, zl, zi_add, zi_sub, zi_mul, zi_neg, zi_le_t, zi_le_f, zi_lt_t, zi_lt_f, zi_eq_t, zi_eq_f, if_true, if_false, ite_true, ite_false, true_and, and_true, false_and, and_false, not_true_eq_false, not_false_eq_true, true_or, or_true, false_or, or_false, and_self, ge_iff_le, gt_iff_lt]
          · simp (disch := omega) only [F_M_mark, F_M_within, ↓bnd_eq, bd2, bn2, Option.bind_some, Option.bind_none, e155, e117, ↓reduceIte, inb, zl, zi_add, zi_sub, zi_mul, zi_neg, zi_le_t, zi_le_f, zi_lt_t, zi_lt_f, zi_eq_t, zi_eq_f, if_true, if_false, ite_true, ite_false, true_and, and_true, false_and, and_false, not_true_eq_false, not_false_eq_true, true_or, or_true, false_or, or_false, and_self, ge_iff_le, gt_iff_lt]
        · have ec : F_Bs_canMark c = some (zi 1) := by
            unfold F_Bs_canMark
            rw [h4, if_pos ⟨rfl, how⟩, e80, zl0, if_neg (by rw [zi_le (by omega) (by omega)]; omega), h1, if_neg (by rw [zi_le (by omega) (by omega)]; omega), show (1 : Int32) = zi 1 from zl 1]
          obtain ⟨d1, e1, C12, F1⟩ := c_pcopy (p := 12) (o := 1) (by decide) W C1
          have Fc : Fr SKc c (sI (sI (sI d1 103 0 (zi 1)) 104 0 (zi (-1))) 105 0 (zi (-1))) := (((Fr.to (S' := SKc) F1 (fun f a e => Or.inr (Or.inr (Or.inl ⟨e.1, e.2⟩)))).sI (by decide)).sI (by decide)).sI (by decide)
          have Fm : Fr SKm m (sI (sI (sI m 161 23 (zi 1)) 162 23 (zi (-1))) 163 23 (zi (-1))) := (((Fr.rf (S := SKm)).sI (by decide)).sI (by decide)).sI (by decide)
          have hc' : MHc v n gk w (sI (sI (sI d1 103 0 (zi 1)) 104 0 (zi (-1))) 105 0 (zi (-1))) := by
            refine ⟨C12, by rw [(Fc.2 94 0 (by decide)).1]; exact h1, by rw [Fc.1]; exact h2, fun i hi => (h3 i hi).fr Fc (fun f a b e => ?_), by rw [Fc.1]; exact h4⟩
            have : (4 + i = 13 ∧ 70 ≤ f ∧ f ≤ 79) ∨ (4 + i = 11 ∧ 42 ≤ f ∧ f ≤ 53) ∨ (4 + i = 12 ∧ 30 ≤ f ∧ f ≤ 34) ∨ (4 + i = 0 ∧ 103 ≤ f ∧ f ≤ 105) := e
            omega
          have hm' := hm.fr Fm (fun f h1 h2 e => by
            have : (131 ≤ f ∧ f ≤ 151) ∨ f = 174 ∨ (183 ≤ f ∧ f ≤ 184) ∨ (161 ≤ f ∧ f ≤ 163) := e
            omega)
          have hS' := hS.fr Fc Fm (fun f h1 h2 e => by
            have : (w = 13 ∧ 70 ≤ f ∧ f ≤ 79) ∨ (w = 11 ∧ 42 ≤ f ∧ f ≤ 53) ∨ (w = 12 ∧ 30 ≤ f ∧ f ≤ 34) ∨ (w = 0 ∧ 103 ≤ f ∧ f ≤ 105) := e
            omega) (fun f h1 h2 e => by
            have : (131 ≤ f ∧ f ≤ 151) ∨ f = 174 ∨ (183 ≤ f ∧ f ≤ 184) ∨ (161 ≤ f ∧ f ≤ 163) := e
            omega)
          have k103 : (sI (sI (sI d1 103 0 (zi 1)) 104 0 (zi (-1))) 105 0 (zi (-1))).1 103 0 = zi 1 := rfl
          have k161 : (sI (sI (sI m 161 23 (zi 1)) 162 23 (zi (-1))) 163 23 (zi (-1))).1 161 23 = zi 1 := rfl
          obtain ⟨r, c', m', g1, g2, g3, g4, g5, g6, G1, G2⟩ := lk_marks (x := x) W hn wg hw hnw (by omega) n.toNat 0 FU FU _ _ (by omega) (by omega) (by unfold FU; omega) (by unfold FU; omega) hc' hm' hS' rfl rfl rfl rfl
          refine ⟨r, c', m', ?_, ?_, Or.inr ⟨?_, g5, g6⟩, Fc.tr G1, Fm.tr G2⟩
          · rw [← g1]
            simp (disch := omega) only [F_Bs_mark, ↓bse ec, ↓bse e1, ↓bnd_eq, bd2, bn2, Option.bind_some, Option.bind_none, ↓reduceIte, inb, zl, zi_add, zi_sub, zi_mul, zi_neg, zi_le_t, zi_le_f, zi_lt_t, zi_lt_f, zi_eq_t, zi_eq_f, if_true, if_false, ite_true, ite_false, true_and, and_true, false_and, and_false, not_true_eq_false, not_false_eq_true, true_or, or_true, false_or, or_false, and_self, ge_iff_le, gt_iff_lt]
          · rw [← g2]
            simp (disch := omega) only [F_M_mark, F_M_within, ↓bnd_eq, bd2, bn2, Option.bind_some, Option.bind_none, e155, e117, ↓reduceIte, inb, zl, zi_add, zi_sub, zi_mul, zi_neg, zi_le_t, zi_le_f, zi_lt_t, zi_lt_f, zi_eq_t, zi_eq_f, if_true, if_false, ite_true, ite_false, true_and, and_true, false_and, and_false, not_true_eq_false, not_false_eq_true, true_or, or_true, false_or, or_false, and_self, ge_iff_le, gt_iff_lt]
          · rw [g3, g4, k103, k161]
end MK3
theorem st_mark (x1 : Int32) : S2 INV (F_Bs_mark x1) (F_M_mark x1) := by
  intro δ I
  obtain ⟨⟨v, g, h1, h2, h4⟩, ⟨n, gk, h3⟩, hr⟩ := id I
  obtain ⟨W, C, M⟩ := h1
  obtain ⟨hn, a1, a2, a3, a4⟩ := h3
  obtain ⟨w, w', nw, hw, hnw, r99, -, e80, e155, P, B⟩ := hr.2.1
  have hw' : w = 16 ∨ w = 17 := by omega
  have hS : WS w nw (fun i => (δ.2.1 156 23 (zi i)).toInt) δ δ := by
    refine ⟨e80, e155, P, B, fun i i0 i1 => ?_⟩
    obtain ⟨wh, f, x, o, b, h0, -, -, -, -, e, -⟩ := P i i0 i1
    show (0 ≤ (δ.2.1 156 23 (zi i)).toInt ∧ (δ.2.1 156 23 (zi i)).toInt ≤ 3) ∧ δ.2.1 156 23 (zi i) = zi (δ.2.1 156 23 (zi i)).toInt
    rw [e, zi_toInt (by omega)]
    exact ⟨h0, rfl⟩
  have hm : MHm v n gk δ := ⟨M, a2, fun i hi => (a4 i hi).2.2⟩
  obtain ⟨r, c1, m1, e1, -, -, F1, -⟩ := lk_mark x1 W hn (fun i hi => (a4 i hi).1) hw' hnw C a1 a3 (fun i hi => (a4 i hi).2.1) r99 hm hS
  have hm1 : MHm v n gk c1 := hm.fr F1 (fun f q1 q2 e => by
    have : ((23 : Nat) = 13 ∧ 70 ≤ f ∧ f ≤ 79) ∨ ((23 : Nat) = 11 ∧ 42 ≤ f ∧ f ≤ 53) ∨ ((23 : Nat) = 12 ∧ 30 ≤ f ∧ f ≤ 34) ∨ ((23 : Nat) = 0 ∧ 103 ≤ f ∧ f ≤ 105) := e
    omega)
  have hS1 : WS w nw (fun i => (δ.2.1 156 23 (zi i)).toInt) δ c1 := hS.fr (Fr.rf (S := fun _ _ => False)) F1 (fun f q1 q2 e => e) (fun f q1 q2 e => by
    have : ((23 : Nat) = 13 ∧ 70 ≤ f ∧ f ≤ 79) ∨ ((23 : Nat) = 11 ∧ 42 ≤ f ∧ f ≤ 53) ∨ ((23 : Nat) = 12 ∧ 30 ≤ f ∧ f ≤ 34) ∨ ((23 : Nat) = 0 ∧ 103 ≤ f ∧ f ≤ 105) := e
    omega)
  obtain ⟨r2, c2, m2, e2, e3, J, -, F2⟩ := lk_mark x1 W hn (fun i hi => (a4 i hi).1) hw' hnw C a1 a3 (fun i hi => (a4 i hi).2.1) r99 hm1 hS1
  have h12 : (r2, c2) = (r, c1) := Option.some.inj (e2.symm.trans e1)
  have hr2 : r2 = r := congrArg Prod.fst h12
  have hc2 : c2 = c1 := congrArg Prod.snd h12
  subst hr2
  subst hc2
  have F : Fr (fun f a => SKc f a ∨ SKm f a) δ m2 := (Fr.to (S' := fun f a => SKc f a ∨ SKm f a) F1 (fun f a e => Or.inl e)).tr (F2.to (fun f a e => Or.inr e))
  refine ⟨r2, c2, m2, e1, e3, ?_, by rw [F.1]⟩
  rcases J with ⟨j1, j2⟩ | ⟨j1, j2, j3⟩
  · subst j1; subst j2; exact I
  · have k : ∀ f, 103 ≤ f → f ≤ 105 → m2.1 f 0 = c2.1 f 0 := fun f f1 f2 => (F2.2 f 0 (fun e => by
      have : (131 ≤ f ∧ f ≤ 151) ∨ f = 174 ∨ (183 ≤ f ∧ f ≤ 184) ∨ (161 ≤ f ∧ f ≤ 163) := e
      omega)).1
    have q' : ∀ f a, SKc f a ∨ SKm f a → ((a = 13 ∧ 70 ≤ f ∧ f ≤ 79) ∨ (a = 11 ∧ 42 ≤ f ∧ f ≤ 53) ∨ (a = 12 ∧ 30 ≤ f ∧ f ≤ 34) ∨ (a = 0 ∧ 103 ≤ f ∧ f ≤ 105)) ∨ ((131 ≤ f ∧ f ≤ 151) ∨ f = 174 ∨ (183 ≤ f ∧ f ≤ 184) ∨ (161 ≤ f ∧ f ≤ 163)) := fun f a e => e
    refine I.any F (fun f a e e2 => ?_) (hr.g7 F (fun f a e e2 => ?_) ⟨by rw [k 103 (by decide) (by decide)]; exact j1, by rw [k 104 (by decide) (by decide)]; exact j2, by rw [k 105 (by decide) (by decide)]; exact j3⟩)
    · have e' : (a = 1 ∧ 30 ≤ f ∧ f ≤ 34) ∨ (a = 23 ∧ 110 ≤ f ∧ f ≤ 130) ∨ (a = 3 ∧ 70 ≤ f ∧ f ≤ 79) ∨ (a = 8 ∧ 42 ≤ f ∧ f ≤ 53) ∨ (a = 9 ∧ 30 ≤ f ∧ f ≤ 34) ∨ (a = 10 ∧ 70 ≤ f ∧ f ≤ 79) ∨ (f = 152 ∧ a = 23) ∨ (f = 94 ∧ a = 0) ∨ (4 ≤ a ∧ a ≤ 7 ∧ 70 ≤ f ∧ f ≤ 79) := e
      have := q' f a e2
      omega
    · have e' : (a = 14 ∧ 10 ≤ f ∧ f ≤ 11) ∨ (16 ≤ a ∧ a ≤ 17 ∧ 80 ≤ f ∧ f ≤ 85) ∨ (a = 0 ∧ 103 ≤ f ∧ f ≤ 107) ∨ (a = 15 ∧ 10 ≤ f ∧ f ≤ 11) ∨ (19 ≤ a ∧ a ≤ 22 ∧ 22 ≤ f ∧ f ≤ 23) ∨ (a = 18 ∧ 60 ≤ f ∧ f ≤ 62) ∨ (a = 23 ∧ ((153 ≤ f ∧ f ≤ 173) ∨ f = 177)) := e2
      have := q' f a e
      omega
