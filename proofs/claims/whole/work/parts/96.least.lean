/-! least (wip/whole/pure) -/
theorem JR.g8 {δ δ' : Dl} {S : Nat → Nat → Prop} (hr : JR δ) (F : Fr S δ δ') (n : ∀ f a, S f a → SJR f a → (a = 0 ∧ 106 ≤ f ∧ f ≤ 107) ∨ (a = 23 ∧ 164 ≤ f ∧ f ≤ 166)) (h : J8 δ') : JR δ' := by
  obtain ⟨h5, h6, h7, h8, h9, h10, h11, h13, hx⟩ := hr
  have c1 : ∀ f a, (a = 14 ∧ 10 ≤ f ∧ f ≤ 11) → ¬ S f a := fun f a e s => by have := n f a s (Or.inl e); omega
  have c2 : ∀ f a, (16 ≤ a ∧ a ≤ 17 ∧ 80 ≤ f ∧ f ≤ 85) → ¬ S f a := fun f a e s => by have := n f a s (Or.inr (Or.inl e)); omega
  have c3 : ∀ f a, (a = 0 ∧ 103 ≤ f ∧ f ≤ 105) → ¬ S f a := fun f a e s => by have := n f a s (Or.inr (Or.inr (Or.inl ⟨e.1, e.2.1, by omega⟩))); omega
  have c4 : ∀ f a, (a = 15 ∧ 10 ≤ f ∧ f ≤ 11) → ¬ S f a := fun f a e s => by have := n f a s (Or.inr (Or.inr (Or.inr (Or.inl e)))); omega
  have c5 : ∀ f a, (19 ≤ a ∧ a ≤ 22 ∧ 22 ≤ f ∧ f ≤ 23) → ¬ S f a := fun f a e s => by have := n f a s (Or.inr (Or.inr (Or.inr (Or.inr (Or.inl e))))); omega
  have c6 : ∀ f a, (a = 18 ∧ 60 ≤ f ∧ f ≤ 62) → ¬ S f a := fun f a e s => by have := n f a s (Or.inr (Or.inr (Or.inr (Or.inr (Or.inr (Or.inl e)))))); omega
  have c7 : ∀ f a, a = 23 → ((153 ≤ f ∧ f ≤ 163) ∨ (167 ≤ f ∧ f ≤ 173) ∨ f = 177) → ¬ S f a := fun f a ea e s => by have := n f a s (Or.inr (Or.inr (Or.inr (Or.inr (Or.inr (Or.inr ⟨ea, by omega⟩)))))); omega
  refine ⟨h5.fr F (fun f a q => ?_), h6.fr F (fun f a q => ?_), h7.fr F (fun f a q => ?_), h, h9.fr F (fun f a q => ?_), h10.fr F (fun f a q => ?_), h11.fr F (fun f a q => ?_), h13.fr F (c7 177 23 rfl (by decide)), hx.fr F⟩
  · rcases q with q | q
    · exact c1 f a q
    · exact c7 f a q.1 (by omega)
  · rcases q with q | q
    · exact c2 f a q
    · exact c7 f a q.1 (by omega)
  · rcases q with q | q
    · exact c3 f a q
    · exact c7 f a q.1 (by omega)
  · rcases q with q | q
    · exact c4 f a q
    · exact c7 f a q.1 (by omega)
  · rcases q with q | q
    · exact c5 f a q
    · exact c7 f a q.1 (by omega)
  · rcases q with q | q
    · exact c6 f a q
    · exact c7 f a q.1 (by omega)
section LST
variable {v : PG} {gk : Int → SG} {n nw : Int} {w : Nat} {wh : Int → Int}
theorem lk_least {c m : Dl} (x1 : Int32) (W : PW v) (hn : 0 ≤ n ∧ n ≤ 4) (wg : ∀ i : Nat, (i : Int) < n → WG (gk i)) (hw : w = 16 ∨ w = 17) (hnw : 0 ≤ nw ∧ nw ≤ 4) (C1 : CP 1 c v) (M : MP m v) (H : CX n gk w nw wh c m) :
    ∃ (r : Int32) (c' m' : Dl), F_Bs_least x1 c = some (r, c') ∧ F_M_least x1 m = some (r, m') ∧ ((c' = c ∧ m' = m) ∨ ∃ k, (0 ≤ k ∧ k ≤ 2) ∧ HI k c' m') ∧ MP m' v ∧ Fr SOc c c' ∧ Fr SOm m m' := by
  obtain ⟨x, rfl, hx⟩ := zi_ex x1
  have hN := W.1
  have how := oc10 hw
  have h1 := H.1
  have h4 := H.2.2.2.1
  have e117 := H.2.2.2.2.1
  have e80 := H.2.2.2.2.2.2.1
  have e155 := H.2.2.2.2.2.2.2.1
  have e30 := C1.1
  have e118 := M.1
  by_cases q1 : x < 1
  · refine ⟨zi (-2), c, m, ?_, ?_, Or.inl ⟨rfl, rfl⟩, M, Fr.rf, Fr.rf⟩
    · simp (disch := omega) only [F_Bs_least, ↓reduceIte, inb, zl, zi_add, zi_sub, zi_mul, zi_neg, zi_le_t, zi_le_f, zi_lt_t, zi_lt_f, zi_eq_t, zi_eq_f, if_true, if_false, ite_true, ite_false, true_and, and_true, false_and, and_false, not_true_eq_false, not_false_eq_true, true_or, or_true, false_or, or_false, and_self, ge_iff_le, gt_iff_lt]
    · simp (disch := omega) only [F_M_least, F_M_within, ↓bnd_eq, bd2, bn2, Option.bind_some, Option.bind_none, ↓reduceIte, inb, zl, zi_add, zi_sub, zi_mul, zi_neg, zi_le_t, zi_le_f, zi_lt_t, zi_lt_f, zi_eq_t, zi_eq_f, if_true, if_false, ite_true, ite_false, true_and, and_true, false_and, and_false, not_true_eq_false, not_false_eq_true, true_or, or_true, false_or, or_false, and_self, ge_iff_le, gt_iff_lt]
  · by_cases q2 : 40 < x
    · refine ⟨zi (-2), c, m, ?_, ?_, Or.inl ⟨rfl, rfl⟩, M, Fr.rf, Fr.rf⟩
      · simp (disch := omega) only [F_Bs_least, ↓reduceIte, inb, zl, zi_add, zi_sub, zi_mul, zi_neg, zi_le_t, zi_le_f, zi_lt_t, zi_lt_f, zi_eq_t, zi_eq_f, if_true, if_false, ite_true, ite_false, true_and, and_true, false_and, and_false, not_true_eq_false, not_false_eq_true, true_or, or_true, false_or, or_false, and_self, ge_iff_le, gt_iff_lt]
      · simp (disch := omega) only [F_M_least, F_M_within, ↓bnd_eq, bd2, bn2, Option.bind_some, Option.bind_none, ↓reduceIte, inb, zl, zi_add, zi_sub, zi_mul, zi_neg, zi_le_t, zi_le_f, zi_lt_t, zi_lt_f, zi_eq_t, zi_eq_f, if_true, if_false, ite_true, ite_false, true_and, and_true, false_and, and_false, not_true_eq_false, not_false_eq_true, true_or, or_true, false_or, or_false, and_self, ge_iff_le, gt_iff_lt]
    · by_cases q3 : nw = 0
      · rw [q3] at e80 e155
        have ec : F_Bs_canMark c = some (zi 0) := by
          unfold F_Bs_canMark
          rw [h4, if_pos ⟨rfl, how⟩, e80, zl0, if_pos (by decide)]
        refine ⟨zi (-3), c, m, ?_, ?_, Or.inl ⟨rfl, rfl⟩, M, Fr.rf, Fr.rf⟩
        · simp (disch := omega) only [F_Bs_least, ↓bse ec, ↓reduceIte, inb, zl, zi_add, zi_sub, zi_mul, zi_neg, zi_le_t, zi_le_f, zi_lt_t, zi_lt_f, zi_eq_t, zi_eq_f, if_true, if_false, ite_true, ite_false, true_and, and_true, false_and, and_false, not_true_eq_false, not_false_eq_true, true_or, or_true, false_or, or_false, and_self, ge_iff_le, gt_iff_lt]
        · simp (disch := omega) only [F_M_least, F_M_within, ↓bnd_eq, bd2, bn2, Option.bind_some, Option.bind_none, e155, ↓reduceIte, inb, zl, zi_add, zi_sub, zi_mul, zi_neg, zi_le_t, zi_le_f, zi_lt_t, zi_lt_f, zi_eq_t, zi_eq_f, if_true, if_false, ite_true, ite_false, true_and, and_true, false_and, and_false, not_true_eq_false, not_false_eq_true, true_or, or_true, false_or, or_false, and_self, ge_iff_le, gt_iff_lt]
      · by_cases q4 : n = 0
        · rw [q4] at h1 e117
          have ec : F_Bs_canMark c = some (zi 0) := by
            unfold F_Bs_canMark
            rw [h4, if_pos ⟨rfl, how⟩, e80, zl0, if_neg (by rw [zi_le (by omega) (by omega)]; omega), h1, if_pos (by decide)]
          refine ⟨zi (-3), c, m, ?_, ?_, Or.inl ⟨rfl, rfl⟩, M, Fr.rf, Fr.rf⟩
          · simp (disch := omega) only [F_Bs_least, ↓bse ec, ↓reduceIte, inb, zl, zi_add, zi_sub, zi_mul, zi_neg, zi_le_t, zi_le_f, zi_lt_t, zi_lt_f, zi_eq_t, zi_eq_f, if_true, if_false, ite_true, ite_false, true_and, and_true, false_and, and_false, not_true_eq_false, not_false_eq_true, true_or, or_true, false_or, or_false, and_self, ge_iff_le, gt_iff_lt]
          · simp (disch := omega) only [F_M_least, F_M_within, ↓bnd_eq, bd2, bn2, Option.bind_some, Option.bind_none, e155, e117, ↓reduceIte, inb, zl, zi_add, zi_sub, zi_mul, zi_neg, zi_le_t, zi_le_f, zi_lt_t, zi_lt_f, zi_eq_t, zi_eq_f, if_true, if_false, ite_true, ite_false, true_and, and_true, false_and, and_false, not_true_eq_false, not_false_eq_true, true_or, or_true, false_or, or_false, and_self, ge_iff_le, gt_iff_lt]
        · have ec : F_Bs_canMark c = some (zi 1) := by
            unfold F_Bs_canMark
            rw [h4, if_pos ⟨rfl, how⟩, e80, zl0, if_neg (by rw [zi_le (by omega) (by omega)]; omega), h1, if_neg (by rw [zi_le (by omega) (by omega)]; omega), show (1 : Int32) = zi 1 from zl 1]
          by_cases q8 : v.1 ≤ 8
          · have C1' : CP 1 (sI c 107 0 (zi 0)) v := C1
            obtain ⟨c1, d1, C12, F1⟩ := c_pcopy (p := 12) (o := 1) (by decide) W C1'
            have Fc : Fr SOc c c1 := (Fr.sI (S := SOc) Fr.rf (by decide)).tr (socP (Or.inl rfl) F1)
            have Fm : Fr SOm m (sI m 164 23 (zi 0)) := (Fr.rf (S := SOm)).sI (by decide)
            have Mm : MP (sI m 164 23 (zi 0)) v := M
            have H1 := H.so hn.2 hw Fc Fm
            obtain ⟨r, c2, m2, hr, g1, g2, G1, G2⟩ := lk_right (x := x) (c := c1) (m := sI m 164 23 (zi 0)) W hn wg hw hnw (by omega) C12 Mm H1
            have Fc2 : Fr SOc c c2 := Fc.tr (socB G1)
            have Fm2 : Fr SOm m m2 := Fm.tr (somL G2)
            have M2 := mp_L Mm G2
            have k107 : c2.1 107 0 = zi 0 := by
              rw [(G1.2 107 0 (by decide)).1, (F1.2 107 0 (by decide)).1]; exact sI_at
            have k164 : m2.1 164 23 = zi 0 := by
              rw [(G2.2 164 23 (by decide)).1]; exact sI_at
            have Ec : F_Bs_least (zi x) c = if r = 0 then (bd2 (F_Bs_isRightByOne (zi x) c2) fun v67 δ67 => if v67 = 0 then (bd2 (F_Bs_isRightByTwo (zi x) δ67) fun v77 δ77 => if v77 = 0 then (some ((-1), δ77)) else (some (2, δ77))) else (some (1, δ67))) else some (0, c2) := by
              unfold F_Bs_least
              rw [if_neg (by rw [show (1 : Int32) = zi 1 from zl 1, zi_lt (by omega) (by omega)]; omega), if_pos (by rw [show (40 : Int32) = zi 40 from zl 40, zi_le (by omega) (by omega)]; omega), bse ec, if_neg (by decide), e30, if_pos (by rw [show (8 : Int32) = zi 8 from zl 8, zi_le (by omega) (by omega)]; omega), bnd_eq]
              rw [show sI c 107 0 0 = sI c 107 0 (zi 0) by rw [zl0], bse d1, b2e g1]
            have Em : F_M_least (zi x) m = if r = 0 then ((F_M_saves 0 m2).bind fun δ56 => bd2 (F_M_seeksOne (zi x) δ56) fun v61 δ61 => if v61 = 0 then (bd2 (F_M_seeksTwo (zi x) δ61) fun v69 δ69 => if v69 = 0 then (some ((-1), δ69)) else (F_M_least_75 (zi x) δ69)) else (F_M_least_75 (zi x) δ61)) else some (0, m2) := by
              have ew : F_M_within (zi x) 1 40 = zi 1 := by simp (disch := omega) only [F_M_within, ↓reduceIte, inb, zl, zi_add, zi_sub, zi_mul, zi_neg, zi_le_t, zi_le_f, zi_lt_t, zi_lt_f, zi_eq_t, zi_eq_f, if_true, if_false, ite_true, ite_false, true_and, and_true, false_and, and_false, not_true_eq_false, not_false_eq_true, true_or, or_true, false_or, or_false, and_self, ge_iff_le, gt_iff_lt]
              unfold F_M_least
              rw [bnd_eq, ew, if_neg (by decide), e155, zl0, if_neg (by rw [zi_eq (by omega) (by omega)]; omega), e117, if_neg (by rw [zi_eq (by omega) (by omega)]; omega), e118, if_pos (by rw [show (8 : Int32) = zi 8 from zl 8, zi_le (by omega) (by omega)]; omega), bnd_eq, b2e g2]
            rcases hr with rfl | rfl
            · obtain ⟨m3, s1, S3, -, F3⟩ := m_saves (k := 0) (by decide) W M2
              have M3 : MP m3 v := M2.fr F3 (fun f a b e => by
                have : (23 : Nat) = 23 ∧ (185 ≤ f ∧ f ≤ 190) := e
                omega)
              have k3 : m3.1 164 23 = zi 0 := ((F3.2 164 23 (by decide)).1).trans k164
              have Fm3 := Fm2.tr (somS F3)
              have C13 := cp1_so C1 Fc2
              have e303 := C13.1
              obtain ⟨r1, c4, m4, h0, h1', h2', M4, S4, G3, G4⟩ := lk_one (x := x) W q8 hn wg hw hnw (by omega) (v.1 * 4).toNat 0 FU FU c2 m3 (by omega) (by omega) (by unfold FU; omega) (by unfold FU; omega) C13 M3 S3 (H.so hn.2 hw Fc2 Fm3)
              have Fc4 := Fc2.tr G3
              have Fm4 := Fm3.tr G4
              have o1 : F_Bs_isRightByOne (zi x) c2 = some (r1, c4) := by
                unfold F_Bs_isRightByOne
                rw [e303, show (4 : Int32) = zi 4 from zl 4, zi_mul, zl0]
                exact h1'
              have o2 : F_M_seeksOne (zi x) m3 = some (r1, m4) := by
                unfold F_M_seeksOne
                rw [zl0]
                exact h2'
              rcases h0 with ⟨rfl, b1, b2⟩ | ⟨rfl, hh⟩
              · have C14 := cp1_so C1 Fc4
                have e304 := C14.1
                obtain ⟨r2, c5, m5, h0, h1'', h2'', M5, G5, G6⟩ := lk_two (x := x) W q8 hn wg hw hnw (by omega) (v.1 * 4).toNat 0 FU FU c4 m4 (by omega) (by omega) (by unfold FU; omega) (by unfold FU; omega) C14 M4 S4 (H.so hn.2 hw Fc4 Fm4)
                have o3 : F_Bs_isRightByTwo (zi x) c4 = some (r2, c5) := by
                  unfold F_Bs_isRightByTwo
                  rw [e304, show (4 : Int32) = zi 4 from zl 4, zi_mul, zl0]
                  exact h1''
                have o4 : F_M_seeksTwo (zi x) m4 = some (r2, m5) := by
                  unfold F_M_seeksTwo
                  rw [zl0]
                  exact h2''
                have Fc5 := Fc4.tr G5
                have Fm5 := Fm4.tr G6
                rcases h0 with ⟨rfl, b3, b4⟩ | ⟨rfl, hh⟩
                · refine ⟨zi (-1), c5, m5, ?_, ?_, Or.inr ⟨0, by decide, b3.trans (b1.trans k107), b4.trans (b2.trans k3), fun i i0 i1 => by omega⟩, M5, Fc5, Fm5⟩
                  · rw [Ec, if_pos (by decide), b2e o1, if_pos (by decide), b2e o3, if_pos (by decide), show (-1 : Int32) = zi (-1) by decide]
                  · rw [Em, if_pos (by decide), zl0, bse s1, b2e o2, if_pos rfl, b2e o4, if_pos rfl, show (-1 : Int32) = zi (-1) by decide]
                · refine ⟨zi 2, c5, m5, ?_, ?_, Or.inr ⟨2, by decide, hh⟩, M5, Fc5, Fm5⟩
                  · rw [Ec, if_pos (by decide), b2e o1, if_pos (by decide), b2e o3, if_neg (by decide), show (2 : Int32) = zi 2 from zl 2]
                  · rw [Em, if_pos (by decide), zl0, bse s1, b2e o2, if_pos rfl, b2e o4, if_neg (by decide)]
                    unfold F_M_least_75
                    rw [hh.2.1]
              · refine ⟨zi 1, c4, m4, ?_, ?_, Or.inr ⟨1, by decide, hh⟩, M4, Fc4, Fm4⟩
                · rw [Ec, if_pos (by decide), b2e o1, if_neg (by decide), show (1 : Int32) = zi 1 from zl 1]
                · rw [Em, if_pos (by decide), zl0, bse s1, b2e o2, if_neg (by decide)]
                  unfold F_M_least_75
                  rw [hh.2.1]
            · refine ⟨zi 0, c2, m2, ?_, ?_, Or.inr ⟨0, by decide, k107, k164, fun i i0 i1 => by omega⟩, M2, Fc2, Fm2⟩
              · rw [Ec, if_neg (by decide), zl0]
              · rw [Em, if_neg (by decide), zl0]
          · refine ⟨zi (-3), c, m, ?_, ?_, Or.inl ⟨rfl, rfl⟩, M, Fr.rf, Fr.rf⟩
            · simp (disch := omega) only [F_Bs_least, ↓bse ec, e30, ↓reduceIte, inb, zl, zi_add, zi_sub, zi_mul, zi_neg, zi_le_t, zi_le_f, zi_lt_t, zi_lt_f, zi_eq_t, zi_eq_f, if_true, if_false, ite_true, ite_false, true_and, and_true, false_and, and_false, not_true_eq_false, not_false_eq_true, true_or, or_true, false_or, or_false, and_self, ge_iff_le, gt_iff_lt]
            · simp (disch := omega) only [F_M_least, F_M_within, ↓bnd_eq, bd2, bn2, Option.bind_some, Option.bind_none, e155, e117, e118, ↓reduceIte, inb, zl, zi_add, zi_sub, zi_mul, zi_neg, zi_le_t, zi_le_f, zi_lt_t, zi_lt_f, zi_eq_t, zi_eq_f, if_true, if_false, ite_true, ite_false, true_and, and_true, false_and, and_false, not_true_eq_false, not_false_eq_true, true_or, or_true, false_or, or_false, and_self, ge_iff_le, gt_iff_lt]
end LST
theorem st_least (x1 : Int32) : S2 INV (F_Bs_least x1) (F_M_least x1) := by
  intro δ I
  obtain ⟨⟨v, g, h1, h2, h4⟩, ⟨n, gk, h3⟩, hr⟩ := id I
  obtain ⟨W, C, M⟩ := id h1
  obtain ⟨hn, a1, a2, a3, a4⟩ := id h3
  obtain ⟨w, w', nw, hw, hnw, r99, -, e80, e155, P, B⟩ := hr.2.1
  have hw' : w = 16 ∨ w = 17 := by omega
  have hS : WS w nw (fun i => (δ.2.1 156 23 (zi i)).toInt) δ δ := by
    refine ⟨e80, e155, P, B, fun i i0 i1 => ?_⟩
    obtain ⟨wh, f, x, o, b, h0, -, -, -, -, e, -⟩ := P i i0 i1
    show (0 ≤ (δ.2.1 156 23 (zi i)).toInt ∧ (δ.2.1 156 23 (zi i)).toInt ≤ 3) ∧ δ.2.1 156 23 (zi i) = zi (δ.2.1 156 23 (zi i)).toInt
    rw [e, zi_toInt (by omega)]
    exact ⟨h0, rfl⟩
  have H : CX n gk w nw (fun i => (δ.2.1 156 23 (zi i)).toInt) δ δ := ⟨a1, a3, fun i hi => (a4 i hi).2.1, r99, a2, fun i hi => (a4 i hi).2.2, hS⟩
  obtain ⟨r, c1, m1, e1, -, -, -, F1, -⟩ := lk_least x1 W hn (fun i hi => (a4 i hi).1) hw' hnw C M H
  have nc : ∀ f, SOc f 23 → False := fun f e => by
    have : ((23 : Nat) = 13 ∧ 70 ≤ f ∧ f ≤ 79) ∨ ((23 : Nat) = 11 ∧ 42 ≤ f ∧ f ≤ 53) ∨ ((23 : Nat) = 12 ∧ 30 ≤ f ∧ f ≤ 34) ∨ ((23 : Nat) = 2 ∧ 30 ≤ f ∧ f ≤ 34) ∨ ((23 : Nat) = 0 ∧ 106 ≤ f ∧ f ≤ 107) := e
    omega
  have H1 : CX n gk w nw (fun i => (δ.2.1 156 23 (zi i)).toInt) δ c1 := ⟨a1, a3, fun i hi => (a4 i hi).2.1, r99, by rw [(F1.2 117 23 (nc 117)).1]; exact a2, fun i hi => (a4 i hi).2.2.fr F1 (fun f _ _ => nc f), hS.fr (Fr.rf (S := fun _ _ => False)) F1 (fun f q1 q2 e => e) (fun f _ _ => nc f)⟩
  obtain ⟨r2, c2, m2, e2, e3, J, M2, -, F2⟩ := lk_least x1 W hn (fun i hi => (a4 i hi).1) hw' hnw C (M.fr F1 (fun f _ _ => nc f)) H1
  have h12 : (r2, c2) = (r, c1) := Option.some.inj (e2.symm.trans e1)
  have hr2 : r2 = r := congrArg Prod.fst h12
  have hc2 : c2 = c1 := congrArg Prod.snd h12
  subst hr2
  subst hc2
  have F : Fr (fun f a => SOc f a ∨ SOm f a) δ m2 := (Fr.to (S' := fun f a => SOc f a ∨ SOm f a) F1 (fun f a e => Or.inl e)).tr (F2.to (fun f a e => Or.inr e))
  refine ⟨r2, c2, m2, e1, e3, ?_, by rw [F.1]⟩
  rcases J with ⟨j1, j2⟩ | ⟨k, hk, j1, j2, j3⟩
  · subst j1; subst j2; exact I
  · have q' : ∀ f a, SOc f a ∨ SOm f a → ((a = 13 ∧ 70 ≤ f ∧ f ≤ 79) ∨ (a = 11 ∧ 42 ≤ f ∧ f ≤ 53) ∨ (a = 12 ∧ 30 ≤ f ∧ f ≤ 34) ∨ (a = 2 ∧ 30 ≤ f ∧ f ≤ 34) ∨ (a = 0 ∧ 106 ≤ f ∧ f ≤ 107)) ∨ ((131 ≤ f ∧ f ≤ 151) ∨ f = 174 ∨ (183 ≤ f ∧ f ≤ 190) ∨ (120 ≤ f ∧ f ≤ 124) ∨ f = 130 ∨ (164 ≤ f ∧ f ≤ 166)) := fun f a e => e
    have k106 : m2.2.1 106 0 = c2.2.1 106 0 := (F2.2 106 0 (by decide)).2
    have k107 : m2.1 107 0 = c2.1 107 0 := (F2.2 107 0 (by decide)).1
    have C2 : CP 1 m2 v := C.fr F (fun f a b e => by have := q' f 1 e; omega)
    refine ⟨⟨v, g, ⟨W, C2, M2⟩, h2.fr F (fun f a q e => by have := q' f a e; omega), h4.fr F (fun f a q e => by have := q' f a e; omega)⟩, ⟨n, gk, h3.fr F (fun f a q e => by have := q' f a e; omega)⟩, hr.g8 F (fun f a e e2 => ?_) ⟨k, hk, by rw [k107]; exact j1, j2, fun i i0 i1 => by rw [k106]; exact j3 i i0 i1⟩⟩
    have e' : (a = 14 ∧ 10 ≤ f ∧ f ≤ 11) ∨ (16 ≤ a ∧ a ≤ 17 ∧ 80 ≤ f ∧ f ≤ 85) ∨ (a = 0 ∧ 103 ≤ f ∧ f ≤ 107) ∨ (a = 15 ∧ 10 ≤ f ∧ f ≤ 11) ∨ (19 ≤ a ∧ a ≤ 22 ∧ 22 ≤ f ∧ f ≤ 23) ∨ (a = 18 ∧ 60 ≤ f ∧ f ≤ 62) ∨ (a = 23 ∧ ((153 ≤ f ∧ f ≤ 173) ∨ f = 177)) := e2
    have := q' f a e
    omega
