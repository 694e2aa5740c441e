/-! the calls of sheets (wip/whole/pure) -/
abbrev S18 : Nat → Nat → Prop := fun f a => a = 18 ∧ 60 ≤ f ∧ f ≤ 62
abbrev S171 : Nat → Nat → Prop := fun f a => a = 23 ∧ 171 ≤ f ∧ f ≤ 173
section SH
variable {s n : Int}
theorem c_remake {so : Int} {δ : Dl} (hs : 0 ≤ s ∧ s < 3) (hn : 0 ≤ n ∧ n ≤ 70) : ∃ δ', F_Sh_remake 18 (zi s) (zi so) (zi n) δ = some δ' ∧ Fr S18 δ δ' ∧ (∀ r, 0 ≤ r → r < 3 → δ'.2.1 60 18 (zi r) = if r = s then zi so else δ.2.1 60 18 (zi r)) ∧ (∀ r, 0 ≤ r → r < 3 → δ'.2.1 61 18 (zi r) = if r = s then zi n else δ.2.1 61 18 (zi r)) ∧ (∀ i, 0 ≤ i → i < 210 → δ'.2.1 62 18 (zi i) = if 70 * s ≤ i ∧ i < 70 * s + n then zi 0 else δ.2.1 62 18 (zi i)) := by
  have f := fill4 (f := 62) (a := 18) (N := 210) (lo := s * 70) (hi := s * 70 + n) (u := zi 0) (δ := sA (sA δ 60 18 (zi s) (zi so)) 61 18 (zi s) (zi n)) (by decide) (by omega) (by omega) (by omega)
  refine ⟨sW (sA (sA δ 60 18 (zi s) (zi so)) 61 18 (zi s) (zi n)) 62 18 (fr1 ((sA (sA δ 60 18 (zi s) (zi so)) 61 18 (zi s) (zi n)).2.1 62 18) (s * 70) (s * 70 + n) (zi 0)), ?_, ((Fr.rf.sA ⟨rfl, by decide, by decide⟩).sA ⟨rfl, by decide, by decide⟩).sW ⟨rfl, by decide, by decide⟩, fun r r0 r1 => ?_, fun r r0 r1 => ?_, fun i i0 i1 => ?_⟩
  · simp (disch := omega) only [F_Sh_remake, ↓bnd_eq, bd2, bn2, Option.bind_some, Option.bind_none, ↓bse f, ↓reduceIte, inb, zl, zi_add, zi_sub, zi_mul, zi_neg, zi_le_t, zi_le_f, zi_lt_t, zi_lt_f, zi_eq_t, zi_eq_f, if_true, if_false, ite_true, ite_false, true_and, and_true, false_and, and_false, not_true_eq_false, not_false_eq_true, true_or, or_true, false_or, or_false, and_self, ge_iff_le, gt_iff_lt]
  · rw [rW (by decide), rA (by decide), rAi]
    by_cases q : r = s
    · rw [if_pos (by rw [q]), if_pos q]
    · rw [if_neg (fun e => q (zi_inj e (by omega) (by omega))), if_neg q]
  · rw [rW (by decide), rAi, rA (by decide)]
    by_cases q : r = s
    · rw [if_pos (by rw [q]), if_pos q]
    · rw [if_neg (fun e => q (zi_inj e (by omega) (by omega))), if_neg q]
  · rw [rWi]
    by_cases q : 70 * s ≤ i ∧ i < 70 * s + n
    · rw [if_pos q, fr1_in (by omega)]
    · rw [if_neg q, fr1_out (by omega), rA (by decide), rA (by decide)]
theorem m_sh71 (hs : 0 ≤ s ∧ s < 3) {x2 x3 : Int32} : ∀ (m : Nat) (i : Int) (fu : Nat) (δ : Dl), 70 * s ≤ i → i ≤ 70 * s + 70 → (70 * s + 70 - i).toNat ≤ m → m < fu → ∃ δ', F_M_sheet_71 (zi s) x2 x3 fu (zi i) δ = some (zi 1, δ') ∧ Fr (fun f a => a = 23 ∧ f = 173) δ δ' ∧ ∀ j, 0 ≤ j → j < 210 → δ'.2.1 173 23 (zi j) = if i ≤ j ∧ j < 70 * s + 70 then zi 0 else δ.2.1 173 23 (zi j) := by
  intro m
  have done : ∀ (i : Int) (fu : Nat) (δ : Dl), i = 70 * s + 70 → 0 < fu → ∃ δ', F_M_sheet_71 (zi s) x2 x3 fu (zi i) δ = some (zi 1, δ') ∧ Fr (fun f a => a = 23 ∧ f = 173) δ δ' ∧ ∀ j, 0 ≤ j → j < 210 → δ'.2.1 173 23 (zi j) = if i ≤ j ∧ j < 70 * s + 70 then zi 0 else δ.2.1 173 23 (zi j) := by
    intro i fu δ hi hf
    obtain ⟨fu, rfl⟩ : ∃ q, fu = q + 1 := ⟨fu - 1, by omega⟩
    refine ⟨δ, ?_, Fr.rf, fun j j0 j1 => by rw [if_neg (by omega)]⟩
    simp (disch := omega) only [F_M_sheet_71, F_M_sheet_71_b, ↓reduceIte, inb, zl, zi_add, zi_sub, zi_mul, zi_neg, zi_le_t, zi_le_f, zi_lt_t, zi_lt_f, zi_eq_t, zi_eq_f, if_true, if_false, ite_true, ite_false, true_and, and_true, false_and, and_false, not_true_eq_false, not_false_eq_true, true_or, or_true, false_or, or_false, and_self, ge_iff_le, gt_iff_lt]
  induction m with
  | zero => intro i fu δ i0 i1 hn hf; exact done i fu δ (by omega) hf
  | succ n ih =>
    intro i fu δ i0 i1 hn hf
    by_cases q : i = 70 * s + 70
    · exact done i fu δ q (by omega)
    · obtain ⟨fu, rfl⟩ : ∃ q, fu = q + 1 := ⟨fu - 1, by omega⟩
      obtain ⟨δ', e, F, r⟩ := ih (i + 1) fu (sA δ 173 23 (zi i) (zi 0)) (by omega) (by omega) (by omega) (by omega)
      refine ⟨δ', ?_, (Fr.sA (S := fun f a => a = 23 ∧ f = 173) Fr.rf ⟨rfl, rfl⟩).tr F, fun j j0 j1 => ?_⟩
      · rw [← e]
        simp (disch := omega) only [F_M_sheet_71, F_M_sheet_71_b, ↓bnd_eq, bd2, bn2, Option.bind_some, Option.bind_none, ↓reduceIte, inb, zl, zi_add, zi_sub, zi_mul, zi_neg, zi_le_t, zi_le_f, zi_lt_t, zi_lt_f, zi_eq_t, zi_eq_f, if_true, if_false, ite_true, ite_false, true_and, and_true, false_and, and_false, not_true_eq_false, not_false_eq_true, true_or, or_true, false_or, or_false, and_self, ge_iff_le, gt_iff_lt]
      · rw [r j j0 j1, rAi]
        by_cases q1 : i + 1 ≤ j ∧ j < 70 * s + 70
        · rw [if_pos q1, if_pos (by omega)]
        · rw [if_neg q1]
          by_cases q2 : j = i
          · rw [if_pos (by rw [q2]), if_pos (by omega)]
          · rw [if_neg (fun e => q2 (zi_inj e (by omega) (by omega))), if_neg (by omega)]
theorem m_remake {t : Int} {x3 : Int32} {δ : Dl} (hs : 0 ≤ s ∧ s < 3) (ht : -1 ≤ t ∧ t ≤ 2) (hn : 0 ≤ n ∧ n ≤ 70) (hx : (t = -1 ∧ n = 0) ∨ (t ≠ -1 ∧ x3 = zi n)) : ∃ δ', F_M_sheet_42 (zi s) (zi t) x3 δ = some (zi 1, δ') ∧ Fr S171 δ δ' ∧ (∀ r, 0 ≤ r → r < 3 → δ'.2.1 171 23 (zi r) = if r = s then zi t else δ.2.1 171 23 (zi r)) ∧ (∀ r, 0 ≤ r → r < 3 → δ'.2.1 172 23 (zi r) = if r = s then zi n else δ.2.1 172 23 (zi r)) ∧ (∀ i, 0 ≤ i → i < 210 → δ'.2.1 173 23 (zi i) = if 70 * s ≤ i ∧ i < 70 * s + 70 then zi 0 else δ.2.1 173 23 (zi i)) := by
  obtain ⟨δ', e, F, r⟩ := m_sh71 hs (x2 := zi t) (x3 := x3) 70 (70 * s) FU (sA (sA δ 171 23 (zi s) (zi t)) 172 23 (zi s) (zi n)) (by omega) (by omega) (by omega) (by unfold FU; omega)
  refine ⟨δ', ?_, (((Fr.sA (S := S171) Fr.rf ⟨rfl, by decide, by decide⟩).sA ⟨rfl, by decide, by decide⟩).tr (F.to (fun f a e => ⟨e.1, by omega, by omega⟩))), fun r r0 r1 => ?_, fun r r0 r1 => ?_, fun i i0 i1 => ?_⟩
  · rw [← e]
    rcases hx with ⟨h1, h2⟩ | ⟨h1, h2⟩
    · subst h1
      subst h2
      unfold F_M_sheet_42 F_M_sheet_64
      simp (disch := omega) only [bnd_eq, ↓reduceIte, inb, zl, zi_add, zi_sub, zi_mul, zi_neg, zi_le_t, zi_le_f, zi_lt_t, zi_lt_f, zi_eq_t, zi_eq_f, if_true, if_false, ite_true, ite_false, true_and, and_true, false_and, and_false, not_true_eq_false, not_false_eq_true, true_or, or_true, false_or, or_false, and_self, ge_iff_le, gt_iff_lt]
    · subst h2
      unfold F_M_sheet_42 F_M_sheet_64
      simp (disch := omega) only [bnd_eq, ↓reduceIte, inb, zl, zi_add, zi_sub, zi_mul, zi_neg, zi_le_t, zi_le_f, zi_lt_t, zi_lt_f, zi_eq_t, zi_eq_f, if_true, if_false, ite_true, ite_false, true_and, and_true, false_and, and_false, not_true_eq_false, not_false_eq_true, true_or, or_true, false_or, or_false, and_self, ge_iff_le, gt_iff_lt]
  · rw [(F.2 171 23 (fun e => by omega)).2, rA (by decide), rAi]
    by_cases q : r = s
    · rw [if_pos (by rw [q]), if_pos q]
    · rw [if_neg (fun e => q (zi_inj e (by omega) (by omega))), if_neg q]
  · rw [(F.2 172 23 (fun e => by omega)).2, rAi, rA (by decide)]
    by_cases q : r = s
    · rw [if_pos (by rw [q]), if_pos q]
    · rw [if_neg (fun e => q (zi_inj e (by omega) (by omega))), if_neg q]
  · rw [r i i0 i1, rA (by decide), rA (by decide)]
abbrev SS2 : Nat → Nat → Prop := fun f a => ((a = 18 ∧ 60 ≤ f ∧ f ≤ 62) ∨ (a = 23 ∧ 171 ≤ f ∧ f ≤ 173)) ∨ (a = 23 ∧ 178 ≤ f)
theorem INV.sh {δ δ2 : Dl} (I : INV δ) (F : Fr SS2 δ δ2) (h : J11 δ2) : INV δ2 := by
  have e' : ∀ f a, SS2 f a → ((a = 18 ∧ 60 ≤ f ∧ f ≤ 62) ∨ (a = 23 ∧ 171 ≤ f ∧ f ≤ 173)) ∨ (a = 23 ∧ 178 ≤ f) := fun f a e => e
  refine I.jr F (fun f a e => ?_) (I.2.2.s11 F (fun f a e => e) h)
  show ((a = 14 ∧ 10 ≤ f ∧ f ≤ 11) ∨ (16 ≤ a ∧ a ≤ 17 ∧ 80 ≤ f ∧ f ≤ 85) ∨ (a = 0 ∧ 103 ≤ f ∧ f ≤ 107) ∨ (a = 15 ∧ 10 ≤ f ∧ f ≤ 11) ∨ (19 ≤ a ∧ a ≤ 22 ∧ 22 ≤ f ∧ f ≤ 23) ∨ (a = 18 ∧ 60 ≤ f ∧ f ≤ 62) ∨ (a = 23 ∧ ((153 ≤ f ∧ f ≤ 173) ∨ f = 177))) ∨ (a = 23 ∧ 178 ≤ f)
  have := e' f a e
  omega
theorem sh_new {so t : Int} {x3 : Int32} {δ : Dl} (I : INV δ) (hs : 0 ≤ s ∧ s < 3) (ht : -1 ≤ t ∧ t ≤ 2) (hn : 0 ≤ n ∧ n ≤ 70) (hx : (t = -1 ∧ n = 0) ∨ (t ≠ -1 ∧ x3 = zi n)) : ∃ d1 d2, F_Sh_remake 18 (zi s) (zi t) (zi n) δ = some d1 ∧ F_M_sheet_42 (zi s) (zi t) x3 d1 = some (zi 1, d2) ∧ INV d2 ∧ d2.2.2 102 0 = δ.2.2 102 0 := by
  obtain ⟨d1, e1, F1, a1, a2, a3⟩ := c_remake (so := t) (δ := δ) hs hn
  obtain ⟨d2, e2, F2, b1, b2, b3⟩ := m_remake (δ := d1) hs ht hn hx
  have F : Fr SS2 δ d2 := (Fr.to (S' := SS2) F1 (fun f a e => Or.inl (Or.inl e))).tr (F2.to (fun f a e => Or.inl (Or.inr e)))
  refine ⟨d1, d2, e1, e2, I.sh F (fun r r0 r1 => ?_), by rw [F.1]⟩
  have o60 : d2.2.1 60 18 = d1.2.1 60 18 := (F2.2 60 18 (fun e => absurd e.1 (by decide))).2
  have o61 : d2.2.1 61 18 = d1.2.1 61 18 := (F2.2 61 18 (fun e => absurd e.1 (by decide))).2
  have o62 : d2.2.1 62 18 = d1.2.1 62 18 := (F2.2 62 18 (fun e => absurd e.1 (by decide))).2
  have p171 : d1.2.1 171 23 = δ.2.1 171 23 := (F1.2 171 23 (fun e => absurd e.1 (by decide))).2
  have p172 : d1.2.1 172 23 = δ.2.1 172 23 := (F1.2 172 23 (fun e => absurd e.1 (by decide))).2
  have p173 : d1.2.1 173 23 = δ.2.1 173 23 := (F1.2 173 23 (fun e => absurd e.1 (by decide))).2
  rw [o60, o61, o62, a1 r r0 r1, a2 r r0 r1, b1 r r0 r1, b2 r r0 r1, p171, p172]
  by_cases q : r = s
  · subst q
    refine ⟨t, n, ht, hn, by rw [if_pos rfl], by rw [if_pos rfl], by rw [if_pos rfl], by rw [if_pos rfl], fun i i0 i1 => ?_⟩
    rw [a3 _ (by omega) (by omega), b3 _ (by omega) (by omega), if_pos (by omega), if_pos (by omega)]
  · obtain ⟨so', n', h1, h2, e60, e171, e61, e172, ei⟩ := I.2.2.2.2.2.2.2.2.1 r r0 r1
    refine ⟨so', n', h1, h2, by rw [if_neg q]; exact e60, by rw [if_neg q]; exact e171, by rw [if_neg q]; exact e61, by rw [if_neg q]; exact e172, fun i i0 i1 => ?_⟩
    rw [a3 _ (by omega) (by omega), b3 _ (by omega) (by omega), if_neg (by omega), if_neg (by omega), p173]
    exact ei i i0 i1
theorem is_sheetY {x : Int} (q : 0 ≤ x ∧ x < 3) : F_M_isSheet (zi x) = zi 1 ∧ F_Sh_isSheet (zi x) = zi 1 := by
  constructor
  · simp (disch := omega) only [F_M_isSheet, F_M_within, ↓bnd_eq, bd2, bn2, Option.bind_some, Option.bind_none, ↓reduceIte, inb, zl, zi_add, zi_sub, zi_mul, zi_neg, zi_le_t, zi_le_f, zi_lt_t, zi_lt_f, zi_eq_t, zi_eq_f, if_true, if_false, ite_true, ite_false, true_and, and_true, false_and, and_false, not_true_eq_false, not_false_eq_true, true_or, or_true, false_or, or_false, and_self, ge_iff_le, gt_iff_lt]
  · simp (disch := omega) only [F_Sh_isSheet, ↓reduceIte, inb, zl, zi_add, zi_sub, zi_mul, zi_neg, zi_le_t, zi_le_f, zi_lt_t, zi_lt_f, zi_eq_t, zi_eq_f, if_true, if_false, ite_true, ite_false, true_and, and_true, false_and, and_false, not_true_eq_false, not_false_eq_true, true_or, or_true, false_or, or_false, and_self, ge_iff_le, gt_iff_lt]
theorem is_sheetN {x : Int} (h : -2147483648 ≤ x ∧ x < 2147483648) (q : ¬ (0 ≤ x ∧ x < 3)) : F_M_isSheet (zi x) = zi 0 ∧ F_Sh_isSheet (zi x) = zi 0 := by
  by_cases q0 : x < 0
  · constructor
    · simp (disch := omega) only [F_M_isSheet, F_M_within, ↓bnd_eq, bd2, bn2, Option.bind_some, Option.bind_none, ↓reduceIte, inb, zl, zi_add, zi_sub, zi_mul, zi_neg, zi_le_t, zi_le_f, zi_lt_t, zi_lt_f, zi_eq_t, zi_eq_f, if_true, if_false, ite_true, ite_false, true_and, and_true, false_and, and_false, not_true_eq_false, not_false_eq_true, true_or, or_true, false_or, or_false, and_self, ge_iff_le, gt_iff_lt]
    · simp (disch := omega) only [F_Sh_isSheet, ↓reduceIte, inb, zl, zi_add, zi_sub, zi_mul, zi_neg, zi_le_t, zi_le_f, zi_lt_t, zi_lt_f, zi_eq_t, zi_eq_f, if_true, if_false, ite_true, ite_false, true_and, and_true, false_and, and_false, not_true_eq_false, not_false_eq_true, true_or, or_true, false_or, or_false, and_self, ge_iff_le, gt_iff_lt]
  · constructor
    · simp (disch := omega) only [F_M_isSheet, F_M_within, ↓bnd_eq, bd2, bn2, Option.bind_some, Option.bind_none, ↓reduceIte, inb, zl, zi_add, zi_sub, zi_mul, zi_neg, zi_le_t, zi_le_f, zi_lt_t, zi_lt_f, zi_eq_t, zi_eq_f, if_true, if_false, ite_true, ite_false, true_and, and_true, false_and, and_false, not_true_eq_false, not_false_eq_true, true_or, or_true, false_or, or_false, and_self, ge_iff_le, gt_iff_lt]
    · simp (disch := omega) only [F_Sh_isSheet, ↓reduceIte, inb, zl, zi_add, zi_sub, zi_mul, zi_neg, zi_le_t, zi_le_f, zi_lt_t, zi_lt_f, zi_eq_t, zi_eq_f, if_true, if_false, ite_true, ite_false, true_and, and_true, false_and, and_false, not_true_eq_false, not_false_eq_true, true_or, or_true, false_or, or_false, and_self, ge_iff_le, gt_iff_lt]
end SH
theorem st_sheet (x1 x2 x3 : Int32) : S2 INV (F_Bs_sheet x1 x2 x3) (F_M_sheet x1 x2 x3) := by
  intro δ I
  obtain ⟨s, rfl, hs⟩ := zi_ex x1
  obtain ⟨t, rfl, ht⟩ := zi_ex x2
  obtain ⟨n, rfl, hn⟩ := zi_ex x3
  by_cases qs : 0 ≤ s ∧ s < 3
  · obtain ⟨w1, w1'⟩ := is_sheetY qs
    by_cases q1 : t = -1
    · subst q1
      have w2 : F_M_within (zi (-1)) (zi (-1)) (zi 2) = zi 1 := by simp (disch := omega) only [F_M_within, ↓reduceIte, inb, zl, zi_add, zi_sub, zi_mul, zi_neg, zi_le_t, zi_le_f, zi_lt_t, zi_lt_f, zi_eq_t, zi_eq_f, if_true, if_false, ite_true, ite_false, true_and, and_true, false_and, and_false, not_true_eq_false, not_false_eq_true, true_or, or_true, false_or, or_false, and_self, ge_iff_le, gt_iff_lt]
      obtain ⟨d1, d2, e1, e2, I2, h102⟩ := sh_new (s := s) (n := 0) (t := -1) (x3 := zi n) (δ := δ) (so := 0) I qs (by decide) (by decide) (Or.inl ⟨rfl, rfl⟩)
      refine ⟨zi 1, d1, d2, ?_, ?_, I2, h102⟩
      · simp (disch := omega) only [F_Bs_sheet, ↓bnd_eq, bd2, bn2, Option.bind_some, Option.bind_none, w1', ↓bse e1, ↓reduceIte, inb, zl, zi_add, zi_sub, zi_mul, zi_neg, zi_le_t, zi_le_f, zi_lt_t, zi_lt_f, zi_eq_t, zi_eq_f, if_true, if_false, ite_true, ite_false, true_and, and_true, false_and, and_false, not_true_eq_false, not_false_eq_true, true_or, or_true, false_or, or_false, and_self, ge_iff_le, gt_iff_lt]
      · simp (disch := omega) only [F_M_sheet, F_M_sheet_30, ↓bnd_eq, bd2, bn2, Option.bind_some, Option.bind_none, w1, w2, e2, ↓reduceIte, inb, zl, zi_add, zi_sub, zi_mul, zi_neg, zi_le_t, zi_le_f, zi_lt_t, zi_lt_f, zi_eq_t, zi_eq_f, if_true, if_false, ite_true, ite_false, true_and, and_true, false_and, and_false, not_true_eq_false, not_false_eq_true, true_or, or_true, false_or, or_false, and_self, ge_iff_le, gt_iff_lt]
    · by_cases qt : 0 ≤ t ∧ t < 3
      · have w2 : F_M_within (zi t) (zi (-1)) (zi 2) = zi 1 := by simp (disch := omega) only [F_M_within, ↓reduceIte, inb, zl, zi_add, zi_sub, zi_mul, zi_neg, zi_le_t, zi_le_f, zi_lt_t, zi_lt_f, zi_eq_t, zi_eq_f, if_true, if_false, ite_true, ite_false, true_and, and_true, false_and, and_false, not_true_eq_false, not_false_eq_true, true_or, or_true, false_or, or_false, and_self, ge_iff_le, gt_iff_lt]
        have w2' : F_Sh_isSort (zi t) = zi 1 := by simp (disch := omega) only [F_Sh_isSort, ↓reduceIte, inb, zl, zi_add, zi_sub, zi_mul, zi_neg, zi_le_t, zi_le_f, zi_lt_t, zi_lt_f, zi_eq_t, zi_eq_f, if_true, if_false, ite_true, ite_false, true_and, and_true, false_and, and_false, not_true_eq_false, not_false_eq_true, true_or, or_true, false_or, or_false, and_self, ge_iff_le, gt_iff_lt]
        by_cases qn : n ≤ 70
        · by_cases q0 : 0 ≤ n
          · obtain ⟨d1, d2, e1, e2, I2, h102⟩ := sh_new (s := s) (n := n) (t := t) (x3 := zi n) (δ := δ) (so := 0) I qs (by omega) ⟨q0, qn⟩ (Or.inr ⟨q1, rfl⟩)
            refine ⟨zi 1, d1, d2, ?_, ?_, I2, h102⟩
            · simp (disch := omega) only [F_Bs_sheet, ↓bnd_eq, bd2, bn2, Option.bind_some, Option.bind_none, w1', w2', ↓bse e1, ↓reduceIte, inb, zl, zi_add, zi_sub, zi_mul, zi_neg, zi_le_t, zi_le_f, zi_lt_t, zi_lt_f, zi_eq_t, zi_eq_f, if_true, if_false, ite_true, ite_false, true_and, and_true, false_and, and_false, not_true_eq_false, not_false_eq_true, true_or, or_true, false_or, or_false, and_self, ge_iff_le, gt_iff_lt]
            · simp (disch := omega) only [F_M_sheet, F_M_sheet_30, ↓bnd_eq, bd2, bn2, Option.bind_some, Option.bind_none, w1, w2, e2, ↓reduceIte, inb, zl, zi_add, zi_sub, zi_mul, zi_neg, zi_le_t, zi_le_f, zi_lt_t, zi_lt_f, zi_eq_t, zi_eq_f, if_true, if_false, ite_true, ite_false, true_and, and_true, false_and, and_false, not_true_eq_false, not_false_eq_true, true_or, or_true, false_or, or_false, and_self, ge_iff_le, gt_iff_lt]
          · refine ⟨zi (-14), δ, δ, ?_, ?_, I, rfl⟩
            · simp (disch := omega) only [F_Bs_sheet, ↓bnd_eq, bd2, bn2, Option.bind_some, Option.bind_none, w1', w2', ↓reduceIte, inb, zl, zi_add, zi_sub, zi_mul, zi_neg, zi_le_t, zi_le_f, zi_lt_t, zi_lt_f, zi_eq_t, zi_eq_f, if_true, if_false, ite_true, ite_false, true_and, and_true, false_and, and_false, not_true_eq_false, not_false_eq_true, true_or, or_true, false_or, or_false, and_self, ge_iff_le, gt_iff_lt]
            · simp (disch := omega) only [F_M_sheet, F_M_sheet_30, ↓bnd_eq, bd2, bn2, Option.bind_some, Option.bind_none, w1, w2, ↓reduceIte, inb, zl, zi_add, zi_sub, zi_mul, zi_neg, zi_le_t, zi_le_f, zi_lt_t, zi_lt_f, zi_eq_t, zi_eq_f, if_true, if_false, ite_true, ite_false, true_and, and_true, false_and, and_false, not_true_eq_false, not_false_eq_true, true_or, or_true, false_or, or_false, and_self, ge_iff_le, gt_iff_lt]
        · refine ⟨zi (-2), δ, δ, ?_, ?_, I, rfl⟩
          · simp (disch := omega) only [F_Bs_sheet, ↓bnd_eq, bd2, bn2, Option.bind_some, Option.bind_none, w1', w2', ↓reduceIte, inb, zl, zi_add, zi_sub, zi_mul, zi_neg, zi_le_t, zi_le_f, zi_lt_t, zi_lt_f, zi_eq_t, zi_eq_f, if_true, if_false, ite_true, ite_false, true_and, and_true, false_and, and_false, not_true_eq_false, not_false_eq_true, true_or, or_true, false_or, or_false, and_self, ge_iff_le, gt_iff_lt]
          · simp (disch := omega) only [F_M_sheet, ↓bnd_eq, bd2, bn2, Option.bind_some, Option.bind_none, w1, w2, ↓reduceIte, inb, zl, zi_add, zi_sub, zi_mul, zi_neg, zi_le_t, zi_le_f, zi_lt_t, zi_lt_f, zi_eq_t, zi_eq_f, if_true, if_false, ite_true, ite_false, true_and, and_true, false_and, and_false, not_true_eq_false, not_false_eq_true, true_or, or_true, false_or, or_false, and_self, ge_iff_le, gt_iff_lt]
      · have w2 : F_M_within (zi t) (zi (-1)) (zi 2) = zi 0 := by
          by_cases q0 : t < -1
          · simp (disch := omega) only [F_M_within, ↓reduceIte, inb, zl, zi_add, zi_sub, zi_mul, zi_neg, zi_le_t, zi_le_f, zi_lt_t, zi_lt_f, zi_eq_t, zi_eq_f, if_true, if_false, ite_true, ite_false, true_and, and_true, false_and, and_false, not_true_eq_false, not_false_eq_true, true_or, or_true, false_or, or_false, and_self, ge_iff_le, gt_iff_lt]
          · simp (disch := omega) only [F_M_within, ↓reduceIte, inb, zl, zi_add, zi_sub, zi_mul, zi_neg, zi_le_t, zi_le_f, zi_lt_t, zi_lt_f, zi_eq_t, zi_eq_f, if_true, if_false, ite_true, ite_false, true_and, and_true, false_and, and_false, not_true_eq_false, not_false_eq_true, true_or, or_true, false_or, or_false, and_self, ge_iff_le, gt_iff_lt]
        have w2' : F_Sh_isSort (zi t) = zi 0 := by
          by_cases q0 : t < 0
          · simp (disch := omega) only [F_Sh_isSort, ↓reduceIte, inb, zl, zi_add, zi_sub, zi_mul, zi_neg, zi_le_t, zi_le_f, zi_lt_t, zi_lt_f, zi_eq_t, zi_eq_f, if_true, if_false, ite_true, ite_false, true_and, and_true, false_and, and_false, not_true_eq_false, not_false_eq_true, true_or, or_true, false_or, or_false, and_self, ge_iff_le, gt_iff_lt]
          · simp (disch := omega) only [F_Sh_isSort, ↓reduceIte, inb, zl, zi_add, zi_sub, zi_mul, zi_neg, zi_le_t, zi_le_f, zi_lt_t, zi_lt_f, zi_eq_t, zi_eq_f, if_true, if_false, ite_true, ite_false, true_and, and_true, false_and, and_false, not_true_eq_false, not_false_eq_true, true_or, or_true, false_or, or_false, and_self, ge_iff_le, gt_iff_lt]
        refine ⟨zi (-2), δ, δ, ?_, ?_, I, rfl⟩
        · simp (disch := omega) only [F_Bs_sheet, ↓bnd_eq, bd2, bn2, Option.bind_some, Option.bind_none, w1', w2', ↓reduceIte, inb, zl, zi_add, zi_sub, zi_mul, zi_neg, zi_le_t, zi_le_f, zi_lt_t, zi_lt_f, zi_eq_t, zi_eq_f, if_true, if_false, ite_true, ite_false, true_and, and_true, false_and, and_false, not_true_eq_false, not_false_eq_true, true_or, or_true, false_or, or_false, and_self, ge_iff_le, gt_iff_lt]
        · simp (disch := omega) only [F_M_sheet, ↓bnd_eq, bd2, bn2, Option.bind_some, Option.bind_none, w1, w2, ↓reduceIte, inb, zl, zi_add, zi_sub, zi_mul, zi_neg, zi_le_t, zi_le_f, zi_lt_t, zi_lt_f, zi_eq_t, zi_eq_f, if_true, if_false, ite_true, ite_false, true_and, and_true, false_and, and_false, not_true_eq_false, not_false_eq_true, true_or, or_true, false_or, or_false, and_self, ge_iff_le, gt_iff_lt]
  · obtain ⟨w1, w1'⟩ := is_sheetN hs qs
    refine ⟨zi (-2), δ, δ, ?_, ?_, I, rfl⟩
    · simp (disch := omega) only [F_Bs_sheet, ↓bnd_eq, bd2, bn2, Option.bind_some, Option.bind_none, w1', ↓reduceIte, inb, zl, zi_add, zi_sub, zi_mul, zi_neg, zi_le_t, zi_le_f, zi_lt_t, zi_lt_f, zi_eq_t, zi_eq_f, if_true, if_false, ite_true, ite_false, true_and, and_true, false_and, and_false, not_true_eq_false, not_false_eq_true, true_or, or_true, false_or, or_false, and_self, ge_iff_le, gt_iff_lt]
    · simp (disch := omega) only [F_M_sheet, ↓bnd_eq, bd2, bn2, Option.bind_some, Option.bind_none, w1, ↓reduceIte, inb, zl, zi_add, zi_sub, zi_mul, zi_neg, zi_le_t, zi_le_f, zi_lt_t, zi_lt_f, zi_eq_t, zi_eq_f, if_true, if_false, ite_true, ite_false, true_and, and_true, false_and, and_false, not_true_eq_false, not_false_eq_true, true_or, or_true, false_or, or_false, and_self, ge_iff_le, gt_iff_lt]
theorem has_of {δ : Dl} {s n i m : Int} (hs : 0 ≤ s ∧ s < 3) (e61 : δ.2.1 61 18 (zi s) = zi n) (hn : 0 ≤ n ∧ n ≤ 70) (hi : -2147483648 ≤ i ∧ i < 2147483648) (hm : -2147483648 ≤ m ∧ m < 2147483648) : F_Sh_hasItems 18 (zi s) (zi i) (zi m) δ = some (if 0 ≤ i ∧ 0 ≤ m ∧ i + m ≤ n then zi 1 else zi 0) := by
  by_cases q1 : 0 ≤ i
  · by_cases q2 : 0 ≤ m
    · by_cases q3 : n < i
      · rw [if_neg (by omega)]; simp (disch := omega) only [F_Sh_hasItems, e61, ↓reduceIte, inb, zl, zi_add, zi_sub, zi_mul, zi_neg, zi_le_t, zi_le_f, zi_lt_t, zi_lt_f, zi_eq_t, zi_eq_f, if_true, if_false, ite_true, ite_false, true_and, and_true, false_and, and_false, not_true_eq_false, not_false_eq_true, true_or, or_true, false_or, or_false, and_self, ge_iff_le, gt_iff_lt]
      · by_cases q4 : n - i < m
        · rw [if_neg (by omega)]; simp (disch := omega) only [F_Sh_hasItems, e61, ↓reduceIte, inb, zl, zi_add, zi_sub, zi_mul, zi_neg, zi_le_t, zi_le_f, zi_lt_t, zi_lt_f, zi_eq_t, zi_eq_f, if_true, if_false, ite_true, ite_false, true_and, and_true, false_and, and_false, not_true_eq_false, not_false_eq_true, true_or, or_true, false_or, or_false, and_self, ge_iff_le, gt_iff_lt]
        · rw [if_pos (by omega)]; simp (disch := omega) only [F_Sh_hasItems, e61, ↓reduceIte, inb, zl, zi_add, zi_sub, zi_mul, zi_neg, zi_le_t, zi_le_f, zi_lt_t, zi_lt_f, zi_eq_t, zi_eq_f, if_true, if_false, ite_true, ite_false, true_and, and_true, false_and, and_false, not_true_eq_false, not_false_eq_true, true_or, or_true, false_or, or_false, and_self, ge_iff_le, gt_iff_lt]
    · rw [if_neg (by omega)]; simp (disch := omega) only [F_Sh_hasItems, e61, ↓reduceIte, inb, zl, zi_add, zi_sub, zi_mul, zi_neg, zi_le_t, zi_le_f, zi_lt_t, zi_lt_f, zi_eq_t, zi_eq_f, if_true, if_false, ite_true, ite_false, true_and, and_true, false_and, and_false, not_true_eq_false, not_false_eq_true, true_or, or_true, false_or, or_false, and_self, ge_iff_le, gt_iff_lt]
  · rw [if_neg (by omega)]; simp (disch := omega) only [F_Sh_hasItems, e61, ↓reduceIte, inb, zl, zi_add, zi_sub, zi_mul, zi_neg, zi_le_t, zi_le_f, zi_lt_t, zi_lt_f, zi_eq_t, zi_eq_f, if_true, if_false, ite_true, ite_false, true_and, and_true, false_and, and_false, not_true_eq_false, not_false_eq_true, true_or, or_true, false_or, or_false, and_self, ge_iff_le, gt_iff_lt]
theorem st_cell (x1 x2 x3 : Int32) : S2 INV (F_Bs_cell x1 x2 x3) (F_M_cell x1 x2 x3) := by
  intro δ I
  obtain ⟨s, rfl, hs⟩ := zi_ex x1
  obtain ⟨i, rfl, hi⟩ := zi_ex x2
  by_cases qs : 0 ≤ s ∧ s < 3
  · obtain ⟨w1, w1'⟩ := is_sheetY qs
    have J := I.2.2.2.2.2.2.2.2.1
    obtain ⟨so, n, hso, hn, e60, e171, e61, e172, ei⟩ := J s qs.1 qs.2
    have cs : F_Sh_sortOf 18 (zi s) δ = some (zi so) := by simp (disch := omega) only [F_Sh_sortOf, e60, ↓reduceIte, inb, zl, zi_add, zi_sub, zi_mul, zi_neg, zi_le_t, zi_le_f, zi_lt_t, zi_lt_f, zi_eq_t, zi_eq_f, if_true, if_false, ite_true, ite_false, true_and, and_true, false_and, and_false, not_true_eq_false, not_false_eq_true, true_or, or_true, false_or, or_false, and_self, ge_iff_le, gt_iff_lt]
    have ch := has_of (i := i) (m := 1) qs e61 hn hi (by decide)
    by_cases q1 : so = -1
    · subst q1
      refine ⟨zi (-11), δ, δ, ?_, ?_, I, rfl⟩
      · simp (disch := omega) only [F_Bs_cell, F_Sh_isMissing, ↓bnd_eq, bd2, bn2, Option.bind_some, Option.bind_none, w1', ↓bse cs, ↓reduceIte, inb, zl, zi_add, zi_sub, zi_mul, zi_neg, zi_le_t, zi_le_f, zi_lt_t, zi_lt_f, zi_eq_t, zi_eq_f, if_true, if_false, ite_true, ite_false, true_and, and_true, false_and, and_false, not_true_eq_false, not_false_eq_true, true_or, or_true, false_or, or_false, and_self, ge_iff_le, gt_iff_lt]
      · simp (disch := omega) only [F_M_cell, ↓bnd_eq, bd2, bn2, Option.bind_some, Option.bind_none, w1, e171, ↓reduceIte, inb, zl, zi_add, zi_sub, zi_mul, zi_neg, zi_le_t, zi_le_f, zi_lt_t, zi_lt_f, zi_eq_t, zi_eq_f, if_true, if_false, ite_true, ite_false, true_and, and_true, false_and, and_false, not_true_eq_false, not_false_eq_true, true_or, or_true, false_or, or_false, and_self, ge_iff_le, gt_iff_lt]
    · have cm : F_Sh_isMissing 18 (zi s) δ = some (zi 0) := by simp (disch := omega) only [F_Sh_isMissing, ↓bse cs, ↓reduceIte, inb, zl, zi_add, zi_sub, zi_mul, zi_neg, zi_le_t, zi_le_f, zi_lt_t, zi_lt_f, zi_eq_t, zi_eq_f, if_true, if_false, ite_true, ite_false, true_and, and_true, false_and, and_false, not_true_eq_false, not_false_eq_true, true_or, or_true, false_or, or_false, and_self, ge_iff_le, gt_iff_lt]
      by_cases q2 : 0 ≤ i ∧ i < n
      · rw [if_pos (by omega)] at ch
        have w2 : F_M_within (zi i) (zi 0) (zi (n - 1)) = zi 1 := by simp (disch := omega) only [F_M_within, ↓reduceIte, inb, zl, zi_add, zi_sub, zi_mul, zi_neg, zi_le_t, zi_le_f, zi_lt_t, zi_lt_f, zi_eq_t, zi_eq_f, if_true, if_false, ite_true, ite_false, true_and, and_true, false_and, and_false, not_true_eq_false, not_false_eq_true, true_or, or_true, false_or, or_false, and_self, ge_iff_le, gt_iff_lt]
        obtain ⟨u, c1, c2⟩ : ∃ u : Int32, F_Sh_setItem 18 (zi s) (zi i) x3 δ = some (sA δ 62 18 (zi (s * 70 + i)) u) ∧ F_M_cell (zi s) (zi i) x3 (sA δ 62 18 (zi (s * 70 + i)) u) = some (zi 1, sA (sA δ 62 18 (zi (s * 70 + i)) u) 173 23 (zi (70 * s + i)) u) := by
          have f171 : ∀ u, (sA δ 62 18 (zi (s * 70 + i)) u).2.1 171 23 (zi s) = zi so := fun u => by rw [rA (by decide)]; exact e171
          have f172 : ∀ u, (sA δ 62 18 (zi (s * 70 + i)) u).2.1 172 23 (zi s) = zi n := fun u => by rw [rA (by decide)]; exact e172
          by_cases s0 : so = 0
          · subst s0
            refine ⟨x3.toInt8.toInt32, ?_, ?_⟩
            · simp (disch := omega) only [F_Sh_setItem, F_Sh_setItem_50, ↓bnd_eq, bd2, bn2, Option.bind_some, Option.bind_none, ↓bse ch, ↓bse cs, ↓reduceIte, inb, zl, zi_add, zi_sub, zi_mul, zi_neg, zi_le_t, zi_le_f, zi_lt_t, zi_lt_f, zi_eq_t, zi_eq_f, if_true, if_false, ite_true, ite_false, true_and, and_true, false_and, and_false, not_true_eq_false, not_false_eq_true, true_or, or_true, false_or, or_false, and_self, ge_iff_le, gt_iff_lt]
            · simp (disch := omega) only [F_M_cell, F_M_cell_82, ↓bnd_eq, bd2, bn2, Option.bind_some, Option.bind_none, w1, w2, f171, f172, ↓reduceIte, inb, zl, zi_add, zi_sub, zi_mul, zi_neg, zi_le_t, zi_le_f, zi_lt_t, zi_lt_f, zi_eq_t, zi_eq_f, if_true, if_false, ite_true, ite_false, true_and, and_true, false_and, and_false, not_true_eq_false, not_false_eq_true, true_or, or_true, false_or, or_false, and_self, ge_iff_le, gt_iff_lt]
          · by_cases s1 : so = 1
            · subst s1
              refine ⟨x3.toInt16.toInt32, ?_, ?_⟩
              · simp (disch := omega) only [F_Sh_setItem, F_Sh_setItem_50, ↓bnd_eq, bd2, bn2, Option.bind_some, Option.bind_none, ↓bse ch, ↓bse cs, ↓reduceIte, inb, zl, zi_add, zi_sub, zi_mul, zi_neg, zi_le_t, zi_le_f, zi_lt_t, zi_lt_f, zi_eq_t, zi_eq_f, if_true, if_false, ite_true, ite_false, true_and, and_true, false_and, and_false, not_true_eq_false, not_false_eq_true, true_or, or_true, false_or, or_false, and_self, ge_iff_le, gt_iff_lt]
              · simp (disch := omega) only [F_M_cell, F_M_cell_82, ↓bnd_eq, bd2, bn2, Option.bind_some, Option.bind_none, w1, w2, f171, f172, ↓reduceIte, inb, zl, zi_add, zi_sub, zi_mul, zi_neg, zi_le_t, zi_le_f, zi_lt_t, zi_lt_f, zi_eq_t, zi_eq_f, if_true, if_false, ite_true, ite_false, true_and, and_true, false_and, and_false, not_true_eq_false, not_false_eq_true, true_or, or_true, false_or, or_false, and_self, ge_iff_le, gt_iff_lt]
            · refine ⟨x3, ?_, ?_⟩
              · simp (disch := omega) only [F_Sh_setItem, F_Sh_setItem_50, ↓bnd_eq, bd2, bn2, Option.bind_some, Option.bind_none, ↓bse ch, ↓bse cs, ↓reduceIte, inb, zl, zi_add, zi_sub, zi_mul, zi_neg, zi_le_t, zi_le_f, zi_lt_t, zi_lt_f, zi_eq_t, zi_eq_f, if_true, if_false, ite_true, ite_false, true_and, and_true, false_and, and_false, not_true_eq_false, not_false_eq_true, true_or, or_true, false_or, or_false, and_self, ge_iff_le, gt_iff_lt]
              · simp (disch := omega) only [F_M_cell, F_M_cell_82, ↓bnd_eq, bd2, bn2, Option.bind_some, Option.bind_none, w1, w2, f171, f172, ↓reduceIte, inb, zl, zi_add, zi_sub, zi_mul, zi_neg, zi_le_t, zi_le_f, zi_lt_t, zi_lt_f, zi_eq_t, zi_eq_f, if_true, if_false, ite_true, ite_false, true_and, and_true, false_and, and_false, not_true_eq_false, not_false_eq_true, true_or, or_true, false_or, or_false, and_self, ge_iff_le, gt_iff_lt]
        have F : Fr SS2 δ (sA (sA δ 62 18 (zi (s * 70 + i)) u) 173 23 (zi (70 * s + i)) u) := (Fr.rf.sA (Or.inl (Or.inl ⟨rfl, by decide, by decide⟩))).sA (Or.inl (Or.inr ⟨rfl, by decide, by decide⟩))
        refine ⟨zi 1, sA δ 62 18 (zi (s * 70 + i)) u, sA (sA δ 62 18 (zi (s * 70 + i)) u) 173 23 (zi (70 * s + i)) u, ?_, c2, I.sh F (fun r r0 r1 => ?_), rfl⟩
        · simp (disch := omega) only [F_Bs_cell, ↓bnd_eq, bd2, bn2, Option.bind_some, Option.bind_none, w1', ↓bse cm, ↓bse ch, ↓bse c1, ↓reduceIte, inb, zl, zi_add, zi_sub, zi_mul, zi_neg, zi_le_t, zi_le_f, zi_lt_t, zi_lt_f, zi_eq_t, zi_eq_f, if_true, if_false, ite_true, ite_false, true_and, and_true, false_and, and_false, not_true_eq_false, not_false_eq_true, true_or, or_true, false_or, or_false, and_self, ge_iff_le, gt_iff_lt]
        · obtain ⟨so', n', h1, h2, f60, f171, f61, f172, fi⟩ := J r r0 r1
          refine ⟨so', n', h1, h2, f60, f171, f61, f172, fun k k0 k1 => ?_⟩
          show (sA δ 62 18 (zi (s * 70 + i)) u).2.1 62 18 (zi (r * 70 + k)) = (sA (sA δ 62 18 (zi (s * 70 + i)) u) 173 23 (zi (70 * s + i)) u).2.1 173 23 (zi (70 * r + k))
          rw [rAi, rAi, rA (by decide)]
          by_cases q : r = s ∧ k = i
          · rw [q.1, q.2, if_pos rfl, if_pos rfl]
          · rw [if_neg (fun e => q (by have := zi_inj e (by omega) (by omega); omega)), if_neg (fun e => q (by have := zi_inj e (by omega) (by omega); omega))]
            exact fi k k0 k1
      · rw [if_neg (by omega)] at ch
        have w2 : F_M_within (zi i) (zi 0) (zi (n - 1)) = zi 0 := by
          by_cases q0 : i < 0
          · simp (disch := omega) only [F_M_within, ↓reduceIte, inb, zl, zi_add, zi_sub, zi_mul, zi_neg, zi_le_t, zi_le_f, zi_lt_t, zi_lt_f, zi_eq_t, zi_eq_f, if_true, if_false, ite_true, ite_false, true_and, and_true, false_and, and_false, not_true_eq_false, not_false_eq_true, true_or, or_true, false_or, or_false, and_self, ge_iff_le, gt_iff_lt]
          · simp (disch := omega) only [F_M_within, ↓reduceIte, inb, zl, zi_add, zi_sub, zi_mul, zi_neg, zi_le_t, zi_le_f, zi_lt_t, zi_lt_f, zi_eq_t, zi_eq_f, if_true, if_false, ite_true, ite_false, true_and, and_true, false_and, and_false, not_true_eq_false, not_false_eq_true, true_or, or_true, false_or, or_false, and_self, ge_iff_le, gt_iff_lt]
        refine ⟨zi (-12), δ, δ, ?_, ?_, I, rfl⟩
        · simp (disch := omega) only [F_Bs_cell, ↓bnd_eq, bd2, bn2, Option.bind_some, Option.bind_none, w1', ↓bse cm, ↓bse ch, ↓reduceIte, inb, zl, zi_add, zi_sub, zi_mul, zi_neg, zi_le_t, zi_le_f, zi_lt_t, zi_lt_f, zi_eq_t, zi_eq_f, if_true, if_false, ite_true, ite_false, true_and, and_true, false_and, and_false, not_true_eq_false, not_false_eq_true, true_or, or_true, false_or, or_false, and_self, ge_iff_le, gt_iff_lt]
        · simp (disch := omega) only [F_M_cell, ↓bnd_eq, bd2, bn2, Option.bind_some, Option.bind_none, w1, e171, e172, w2, ↓reduceIte, inb, zl, zi_add, zi_sub, zi_mul, zi_neg, zi_le_t, zi_le_f, zi_lt_t, zi_lt_f, zi_eq_t, zi_eq_f, if_true, if_false, ite_true, ite_false, true_and, and_true, false_and, and_false, not_true_eq_false, not_false_eq_true, true_or, or_true, false_or, or_false, and_self, ge_iff_le, gt_iff_lt]
  · obtain ⟨w1, w1'⟩ := is_sheetN hs qs
    refine ⟨zi (-2), δ, δ, ?_, ?_, I, rfl⟩
    · simp (disch := omega) only [F_Bs_cell, ↓bnd_eq, bd2, bn2, Option.bind_some, Option.bind_none, w1', ↓reduceIte, inb, zl, zi_add, zi_sub, zi_mul, zi_neg, zi_le_t, zi_le_f, zi_lt_t, zi_lt_f, zi_eq_t, zi_eq_f, if_true, if_false, ite_true, ite_false, true_and, and_true, false_and, and_false, not_true_eq_false, not_false_eq_true, true_or, or_true, false_or, or_false, and_self, ge_iff_le, gt_iff_lt]
    · simp (disch := omega) only [F_M_cell, ↓bnd_eq, bd2, bn2, Option.bind_some, Option.bind_none, w1, ↓reduceIte, inb, zl, zi_add, zi_sub, zi_mul, zi_neg, zi_le_t, zi_le_f, zi_lt_t, zi_lt_f, zi_eq_t, zi_eq_f, if_true, if_false, ite_true, ite_false, true_and, and_true, false_and, and_false, not_true_eq_false, not_false_eq_true, true_or, or_true, false_or, or_false, and_self, ge_iff_le, gt_iff_lt]
section CY
variable {s1 i1 s2 i2 m : Int}
theorem m_cy1 (h1 : 0 ≤ s1 ∧ s1 < 3) (hi1 : 0 ≤ i1 ∧ i1 + m ≤ 70) {x3 x4 : Int32} : ∀ (n : Nat) (k : Int) (fu : Nat) (δ : Dl), 0 ≤ k → k ≤ m → (m - k).toNat ≤ n → n < fu → ∃ δ', F_M_copy_105 (zi s1) (zi i1) x3 x4 (zi m) fu (zi k) δ = F_M_copy_142 (zi s1) (zi i1) x3 x4 (zi m) FU (zi 0) δ' ∧ Fr (fun f a => a = 23 ∧ f = 191) δ δ' ∧ ∀ j, 0 ≤ j → j < m → δ'.2.1 191 23 (zi j) = if k ≤ j then δ.2.1 173 23 (zi (70 * s1 + i1 + j)) else δ.2.1 191 23 (zi j) := by
  intro n
  have done : ∀ (k : Int) (fu : Nat) (δ : Dl), k = m → 0 ≤ k → 0 < fu → ∃ δ', F_M_copy_105 (zi s1) (zi i1) x3 x4 (zi m) fu (zi k) δ = F_M_copy_142 (zi s1) (zi i1) x3 x4 (zi m) FU (zi 0) δ' ∧ Fr (fun f a => a = 23 ∧ f = 191) δ δ' ∧ ∀ j, 0 ≤ j → j < m → δ'.2.1 191 23 (zi j) = if k ≤ j then δ.2.1 173 23 (zi (70 * s1 + i1 + j)) else δ.2.1 191 23 (zi j) := by
    intro k fu δ hk k0 hf
    obtain ⟨fu, rfl⟩ : ∃ q, fu = q + 1 := ⟨fu - 1, by omega⟩
    refine ⟨δ, ?_, Fr.rf, fun j j0 j1 => by rw [if_neg (by omega)]⟩
    simp (disch := omega) only [F_M_copy_105, F_M_copy_105_b, ↓reduceIte, inb, zl, zi_add, zi_sub, zi_mul, zi_neg, zi_le_t, zi_le_f, zi_lt_t, zi_lt_f, zi_eq_t, zi_eq_f, if_true, if_false, ite_true, ite_false, true_and, and_true, false_and, and_false, not_true_eq_false, not_false_eq_true, true_or, or_true, false_or, or_false, and_self, ge_iff_le, gt_iff_lt]
  induction n with
  | zero => intro k fu δ i0 i1 hn hf; exact done k fu δ (by omega) i0 hf
  | succ n ih =>
    intro k fu δ k0 k1 hn hf
    by_cases q : k = m
    · exact done k fu δ q k0 (by omega)
    · obtain ⟨fu, rfl⟩ : ∃ q, fu = q + 1 := ⟨fu - 1, by omega⟩
      obtain ⟨δ', e, F, r⟩ := ih (k + 1) fu (sA δ 191 23 (zi k) (δ.2.1 173 23 (zi (70 * s1 + i1 + k)))) (by omega) (by omega) (by omega) (by omega)
      refine ⟨δ', ?_, (Fr.sA (S := fun f a => a = 23 ∧ f = 191) Fr.rf ⟨rfl, rfl⟩).tr F, fun j j0 j1 => ?_⟩
      · rw [← e]
        simp (disch := omega) only [F_M_copy_105, F_M_copy_105_b, ↓bnd_eq, bd2, bn2, Option.bind_some, Option.bind_none, ↓reduceIte, inb, zl, zi_add, zi_sub, zi_mul, zi_neg, zi_le_t, zi_le_f, zi_lt_t, zi_lt_f, zi_eq_t, zi_eq_f, if_true, if_false, ite_true, ite_false, true_and, and_true, false_and, and_false, not_true_eq_false, not_false_eq_true, true_or, or_true, false_or, or_false, and_self, ge_iff_le, gt_iff_lt]
      · rw [r j j0 j1, rA (by decide), rAi]
        by_cases q1 : k + 1 ≤ j
        · rw [if_pos q1, if_pos (by omega)]
        · rw [if_neg q1]
          by_cases q2 : j = k
          · rw [if_pos (by rw [q2]), if_pos (by omega), q2]
          · rw [if_neg (fun e => q2 (zi_inj e (by omega) (by omega))), if_neg (by omega)]
theorem m_cy2 (h2 : 0 ≤ s2 ∧ s2 < 3) (hi2 : 0 ≤ i2 ∧ i2 + m ≤ 70) {x1 x2 : Int32} : ∀ (n : Nat) (k : Int) (fu : Nat) (δ : Dl), 0 ≤ k → k ≤ m → (m - k).toNat ≤ n → n < fu → ∃ δ', F_M_copy_142 x1 x2 (zi s2) (zi i2) (zi m) fu (zi k) δ = some (zi m, δ') ∧ Fr (fun f a => a = 23 ∧ f = 173) δ δ' ∧ ∀ j, 0 ≤ j → j < 210 → δ'.2.1 173 23 (zi j) = if 70 * s2 + i2 + k ≤ j ∧ j < 70 * s2 + i2 + m then δ.2.1 191 23 (zi (j - (70 * s2 + i2))) else δ.2.1 173 23 (zi j) := by
  intro n
  have done : ∀ (k : Int) (fu : Nat) (δ : Dl), k = m → 0 ≤ k → 0 < fu → ∃ δ', F_M_copy_142 x1 x2 (zi s2) (zi i2) (zi m) fu (zi k) δ = some (zi m, δ') ∧ Fr (fun f a => a = 23 ∧ f = 173) δ δ' ∧ ∀ j, 0 ≤ j → j < 210 → δ'.2.1 173 23 (zi j) = if 70 * s2 + i2 + k ≤ j ∧ j < 70 * s2 + i2 + m then δ.2.1 191 23 (zi (j - (70 * s2 + i2))) else δ.2.1 173 23 (zi j) := by
    intro k fu δ hk k0 hf
    obtain ⟨fu, rfl⟩ : ∃ q, fu = q + 1 := ⟨fu - 1, by omega⟩
    refine ⟨δ, ?_, Fr.rf, fun j j0 j1 => by rw [if_neg (by omega)]⟩
    simp (disch := omega) only [F_M_copy_142, F_M_copy_142_b, ↓reduceIte, inb, zl, zi_add, zi_sub, zi_mul, zi_neg, zi_le_t, zi_le_f, zi_lt_t, zi_lt_f, zi_eq_t, zi_eq_f, if_true, if_false, ite_true, ite_false, true_and, and_true, false_and, and_false, not_true_eq_false, not_false_eq_true, true_or, or_true, false_or, or_false, and_self, ge_iff_le, gt_iff_lt]
  induction n with
  | zero => intro k fu δ i0 i1 hn hf; exact done k fu δ (by omega) i0 hf
  | succ n ih =>
    intro k fu δ k0 k1 hn hf
    by_cases q : k = m
    · exact done k fu δ q k0 (by omega)
    · obtain ⟨fu, rfl⟩ : ∃ q, fu = q + 1 := ⟨fu - 1, by omega⟩
      obtain ⟨δ', e, F, r⟩ := ih (k + 1) fu (sA δ 173 23 (zi (70 * s2 + i2 + k)) (δ.2.1 191 23 (zi k))) (by omega) (by omega) (by omega) (by omega)
      refine ⟨δ', ?_, (Fr.sA (S := fun f a => a = 23 ∧ f = 173) Fr.rf ⟨rfl, rfl⟩).tr F, fun j j0 j1 => ?_⟩
      · rw [← e]
        simp (disch := omega) only [F_M_copy_142, F_M_copy_142_b, ↓bnd_eq, bd2, bn2, Option.bind_some, Option.bind_none, ↓reduceIte, inb, zl, zi_add, zi_sub, zi_mul, zi_neg, zi_le_t, zi_le_f, zi_lt_t, zi_lt_f, zi_eq_t, zi_eq_f, if_true, if_false, ite_true, ite_false, true_and, and_true, false_and, and_false, not_true_eq_false, not_false_eq_true, true_or, or_true, false_or, or_false, and_self, ge_iff_le, gt_iff_lt]
      · rw [r j j0 j1, rA (by decide), rAi]
        by_cases q1 : 70 * s2 + i2 + (k + 1) ≤ j ∧ j < 70 * s2 + i2 + m
        · rw [if_pos q1, if_pos (by omega)]
        · rw [if_neg q1]
          by_cases q2 : j = 70 * s2 + i2 + k
          · rw [if_pos (by rw [q2]), if_pos (by omega), q2, show 70 * s2 + i2 + k - (70 * s2 + i2) = k by omega]
          · rw [if_neg (fun e => q2 (zi_inj e (by omega) (by omega))), if_neg (by omega)]
theorem cp_g {δ : Dl} {f a g b : Nat} {i j n x : Int} (hi : 0 ≤ i ∧ i < 90000) (hj : 0 ≤ j ∧ j < 90000) (hn : 0 ≤ n ∧ n < 90000) (hx : 0 ≤ x ∧ x < 90000) : (cpA δ f a (zi i) g b (zi j) (zi n)).2.1 g b (zi x) = if j ≤ x ∧ x < j + n then δ.2.1 f a (zi (i + (x - j))) else δ.2.1 g b (zi x) := by
  rw [cp_r, rWi]
  show (if zi j ≤ zi x ∧ zi x < zi j + zi n then δ.2.1 f a (zi i + (zi x - zi j)) else δ.2.1 g b (zi x)) = _
  rw [zi_add, zi_sub, zi_add]
  by_cases q : j ≤ x ∧ x < j + n
  · rw [if_pos q]
    exact if_pos ⟨by rw [zi_le (by omega) (by omega)]; omega, by rw [zi_lt (by omega) (by omega)]; omega⟩
  · rw [if_neg q]
    exact if_neg (fun e => by
      rw [zi_le (by omega) (by omega), zi_lt (by omega) (by omega)] at e
      exact q e)
end CY
theorem st_copy (x1 x2 x3 x4 x5 : Int32) : S2 INV (F_Bs_copy x1 x2 x3 x4 x5) (F_M_copy x1 x2 x3 x4 x5) := by
  intro δ I
  obtain ⟨s1, rfl, hs1⟩ := zi_ex x1
  obtain ⟨i1, rfl, hi1⟩ := zi_ex x2
  obtain ⟨s2, rfl, hs2⟩ := zi_ex x3
  obtain ⟨i2, rfl, hi2⟩ := zi_ex x4
  obtain ⟨m, rfl, hm⟩ := zi_ex x5
  by_cases q1 : 0 ≤ s1 ∧ s1 < 3
  · obtain ⟨w1, w1'⟩ := is_sheetY q1
    by_cases q2 : 0 ≤ s2 ∧ s2 < 3
    · obtain ⟨w2, w2'⟩ := is_sheetY q2
      have J := I.2.2.2.2.2.2.2.2.1
      obtain ⟨so1, n1, hso1, hn1, a60, a171, a61, a172, ai⟩ := J s1 q1.1 q1.2
      obtain ⟨so2, n2, hso2, hn2, b60, b171, b61, b172, bi⟩ := J s2 q2.1 q2.2
      have cs1 : F_Sh_sortOf 18 (zi s1) δ = some (zi so1) := by simp (disch := omega) only [F_Sh_sortOf, a60, ↓reduceIte, inb, zl, zi_add, zi_sub, zi_mul, zi_neg, zi_le_t, zi_le_f, zi_lt_t, zi_lt_f, zi_eq_t, zi_eq_f, if_true, if_false, ite_true, ite_false, true_and, and_true, false_and, and_false, not_true_eq_false, not_false_eq_true, true_or, or_true, false_or, or_false, and_self, ge_iff_le, gt_iff_lt]
      have cs2 : F_Sh_sortOf 18 (zi s2) δ = some (zi so2) := by simp (disch := omega) only [F_Sh_sortOf, b60, ↓reduceIte, inb, zl, zi_add, zi_sub, zi_mul, zi_neg, zi_le_t, zi_le_f, zi_lt_t, zi_lt_f, zi_eq_t, zi_eq_f, if_true, if_false, ite_true, ite_false, true_and, and_true, false_and, and_false, not_true_eq_false, not_false_eq_true, true_or, or_true, false_or, or_false, and_self, ge_iff_le, gt_iff_lt]
      by_cases p1 : so1 = -1
      · subst p1
        refine ⟨zi (-11), δ, δ, ?_, ?_, I, rfl⟩
        · simp (disch := omega) only [F_Bs_copy, F_Sh_isMissing, ↓bnd_eq, bd2, bn2, Option.bind_some, Option.bind_none, w1', w2', ↓bse cs1, ↓reduceIte, inb, zl, zi_add, zi_sub, zi_mul, zi_neg, zi_le_t, zi_le_f, zi_lt_t, zi_lt_f, zi_eq_t, zi_eq_f, if_true, if_false, ite_true, ite_false, true_and, and_true, false_and, and_false, not_true_eq_false, not_false_eq_true, true_or, or_true, false_or, or_false, and_self, ge_iff_le, gt_iff_lt]
        · simp (disch := omega) only [F_M_copy, ↓bnd_eq, bd2, bn2, Option.bind_some, Option.bind_none, w1, w2, a171, ↓reduceIte, inb, zl, zi_add, zi_sub, zi_mul, zi_neg, zi_le_t, zi_le_f, zi_lt_t, zi_lt_f, zi_eq_t, zi_eq_f, if_true, if_false, ite_true, ite_false, true_and, and_true, false_and, and_false, not_true_eq_false, not_false_eq_true, true_or, or_true, false_or, or_false, and_self, ge_iff_le, gt_iff_lt]
      · have cm1 : F_Sh_isMissing 18 (zi s1) δ = some (zi 0) := by simp (disch := omega) only [F_Sh_isMissing, ↓bse cs1, ↓reduceIte, inb, zl, zi_add, zi_sub, zi_mul, zi_neg, zi_le_t, zi_le_f, zi_lt_t, zi_lt_f, zi_eq_t, zi_eq_f, if_true, if_false, ite_true, ite_false, true_and, and_true, false_and, and_false, not_true_eq_false, not_false_eq_true, true_or, or_true, false_or, or_false, and_self, ge_iff_le, gt_iff_lt]
        by_cases p2 : so2 = -1
        · subst p2
          have cm2 : F_Sh_isMissing 18 (zi s2) δ = some (zi 1) := by simp (disch := omega) only [F_Sh_isMissing, ↓bse cs2, ↓reduceIte, inb, zl, zi_add, zi_sub, zi_mul, zi_neg, zi_le_t, zi_le_f, zi_lt_t, zi_lt_f, zi_eq_t, zi_eq_f, if_true, if_false, ite_true, ite_false, true_and, and_true, false_and, and_false, not_true_eq_false, not_false_eq_true, true_or, or_true, false_or, or_false, and_self, ge_iff_le, gt_iff_lt]
          refine ⟨zi (-11), δ, δ, ?_, ?_, I, rfl⟩
          · simp (disch := omega) only [F_Bs_copy, ↓bnd_eq, bd2, bn2, Option.bind_some, Option.bind_none, w1', w2', ↓bse cm1, ↓bse cm2, ↓reduceIte, inb, zl, zi_add, zi_sub, zi_mul, zi_neg, zi_le_t, zi_le_f, zi_lt_t, zi_lt_f, zi_eq_t, zi_eq_f, if_true, if_false, ite_true, ite_false, true_and, and_true, false_and, and_false, not_true_eq_false, not_false_eq_true, true_or, or_true, false_or, or_false, and_self, ge_iff_le, gt_iff_lt]
          · simp (disch := omega) only [F_M_copy, ↓bnd_eq, bd2, bn2, Option.bind_some, Option.bind_none, w1, w2, a171, b171, ↓reduceIte, inb, zl, zi_add, zi_sub, zi_mul, zi_neg, zi_le_t, zi_le_f, zi_lt_t, zi_lt_f, zi_eq_t, zi_eq_f, if_true, if_false, ite_true, ite_false, true_and, and_true, false_and, and_false, not_true_eq_false, not_false_eq_true, true_or, or_true, false_or, or_false, and_self, ge_iff_le, gt_iff_lt]
        · have cm2 : F_Sh_isMissing 18 (zi s2) δ = some (zi 0) := by simp (disch := omega) only [F_Sh_isMissing, ↓bse cs2, ↓reduceIte, inb, zl, zi_add, zi_sub, zi_mul, zi_neg, zi_le_t, zi_le_f, zi_lt_t, zi_lt_f, zi_eq_t, zi_eq_f, if_true, if_false, ite_true, ite_false, true_and, and_true, false_and, and_false, not_true_eq_false, not_false_eq_true, true_or, or_true, false_or, or_false, and_self, ge_iff_le, gt_iff_lt]
          by_cases p3 : so1 = so2
          · have c1 := has_of (i := i1) (m := m) q1 a61 hn1 hi1 hm
            have c2 := has_of (i := i2) (m := m) q2 b61 hn2 hi2 hm
            by_cases p4 : 0 ≤ i1 ∧ 0 ≤ m ∧ i1 + m ≤ n1
            · rw [if_pos p4] at c1
              by_cases p5 : 0 ≤ i2 ∧ 0 ≤ m ∧ i2 + m ≤ n2
              · rw [if_pos p5] at c2
                obtain ⟨d1, hd1⟩ : ∃ d1, d1 = cpA δ 62 18 (zi (s1 * 70 + i1)) 62 18 (zi (s2 * 70 + i2)) (zi m) := ⟨_, rfl⟩
                have F1 : Fr SS2 δ d1 := by rw [hd1]; exact Fr.rf.cp (Or.inl (Or.inl ⟨rfl, by decide, by decide⟩))
                have F1' : Fr S18 δ d1 := by rw [hd1]; exact Fr.rf.cp ⟨rfl, by decide, by decide⟩
                have r23 : ∀ f, d1.2.1 f 23 = δ.2.1 f 23 := fun f => (F1'.2 f 23 (fun e => absurd e.1 (by decide))).2
                have mv : F_Sh_move 18 (zi s1) (zi i1) (zi s2) (zi i2) (zi m) δ = some d1 := by
                  rw [hd1]
                  simp (disch := omega) only [F_Sh_move, inbs, ↓bnd_eq, bd2, bn2, Option.bind_some, Option.bind_none, ↓bse c1, ↓bse c2, ↓reduceIte, inb, zl, zi_add, zi_sub, zi_mul, zi_neg, zi_le_t, zi_le_f, zi_lt_t, zi_lt_f, zi_eq_t, zi_eq_f, if_true, if_false, ite_true, ite_false, true_and, and_true, false_and, and_false, not_true_eq_false, not_false_eq_true, true_or, or_true, false_or, or_false, and_self, ge_iff_le, gt_iff_lt]
                obtain ⟨d2, e2, F2, r2⟩ := m_cy1 (s1 := s1) (i1 := i1) (m := m) q1 ⟨p4.1, by omega⟩ (x3 := zi s2) (x4 := zi i2) 70 0 FU d1 (by omega) (by omega) (by omega) (by unfold FU; omega)
                obtain ⟨d3, e3, F3, r3⟩ := m_cy2 (s2 := s2) (i2 := i2) (m := m) q2 ⟨p5.1, by omega⟩ (x1 := zi s1) (x2 := zi i1) 70 0 FU d2 (by omega) (by omega) (by omega) (by unfold FU; omega)
                have F : Fr SS2 δ d3 := (F1.tr (F2.to (fun f a e => Or.inr ⟨e.1, by omega⟩))).tr (F3.to (fun f a e => Or.inl (Or.inr ⟨e.1, by omega, by omega⟩)))
                have t18 : ∀ f, d3.2.1 f 18 = d1.2.1 f 18 := fun f => by rw [(F3.2 f 18 (fun e => absurd e.1 (by decide))).2, (F2.2 f 18 (fun e => absurd e.1 (by decide))).2]
                have t171 : d3.2.1 171 23 = δ.2.1 171 23 := by rw [(F3.2 171 23 (fun e => by omega)).2, (F2.2 171 23 (fun e => by omega)).2, r23]
                have t172 : d3.2.1 172 23 = δ.2.1 172 23 := by rw [(F3.2 172 23 (fun e => by omega)).2, (F2.2 172 23 (fun e => by omega)).2, r23]
                have t173 : d2.2.1 173 23 = δ.2.1 173 23 := by rw [(F2.2 173 23 (fun e => by omega)).2, r23]
                refine ⟨zi m, d1, d3, ?_, ?_, I.sh F (fun r r0 r1 => ?_), by rw [F.1]⟩
                · simp (disch := omega) only [F_Bs_copy, ↓bnd_eq, bd2, bn2, Option.bind_some, Option.bind_none, w1', w2', ↓bse cm1, ↓bse cm2, ↓bse cs1, ↓bse cs2, ↓bse c1, ↓bse c2, ↓bse mv, ↓reduceIte, inb, zl, zi_add, zi_sub, zi_mul, zi_neg, zi_le_t, zi_le_f, zi_lt_t, zi_lt_f, zi_eq_t, zi_eq_f, if_true, if_false, ite_true, ite_false, true_and, and_true, false_and, and_false, not_true_eq_false, not_false_eq_true, true_or, or_true, false_or, or_false, and_self, ge_iff_le, gt_iff_lt]
                · rw [← e3, ← e2]
                  have g1 : d1.2.1 171 23 (zi s1) = zi so1 := by rw [r23]; exact a171
                  have g2 : d1.2.1 171 23 (zi s2) = zi so2 := by rw [r23]; exact b171
                  have g3 : d1.2.1 172 23 (zi s1) = zi n1 := by rw [r23]; exact a172
                  have g4 : d1.2.1 172 23 (zi s2) = zi n2 := by rw [r23]; exact b172
                  simp (disch := omega) only [F_M_copy, ↓bnd_eq, bd2, bn2, Option.bind_some, Option.bind_none, w1, w2, g1, g2, g3, g4, ↓reduceIte, inb, zl, zi_add, zi_sub, zi_mul, zi_neg, zi_le_t, zi_le_f, zi_lt_t, zi_lt_f, zi_eq_t, zi_eq_f, if_true, if_false, ite_true, ite_false, true_and, and_true, false_and, and_false, not_true_eq_false, not_false_eq_true, true_or, or_true, false_or, or_false, and_self, ge_iff_le, gt_iff_lt]
                · obtain ⟨so', n', h1, h2, f60, f171, f61, f172, fi⟩ := J r r0 r1
                  rw [t18 60, t18 61, t18 62, t171, t172]
                  have u60 : d1.2.1 60 18 = δ.2.1 60 18 := by rw [hd1]; exact cp_ne (fun e => absurd e.1 (by decide))
                  have u61 : d1.2.1 61 18 = δ.2.1 61 18 := by rw [hd1]; exact cp_ne (fun e => absurd e.1 (by decide))
                  refine ⟨so', n', h1, h2, by rw [u60]; exact f60, f171, by rw [u61]; exact f61, f172, fun k k0 k1 => ?_⟩
                  rw [r3 _ (by omega) (by omega), hd1, cp_g (by omega) (by omega) (by omega) (by omega)]
                  by_cases qk : r = s2 ∧ i2 ≤ k ∧ k < i2 + m
                  · rw [if_pos (by omega), if_pos (by omega), r2 _ (by omega) (by omega), if_pos (by omega), r23, show s1 * 70 + i1 + (r * 70 + k - (s2 * 70 + i2)) = s1 * 70 + (i1 + (k - i2)) by omega, ai (i1 + (k - i2)) (by omega) (by omega), show 70 * s1 + i1 + (70 * r + k - (70 * s2 + i2)) = 70 * s1 + (i1 + (k - i2)) by omega]
                  · rw [if_neg (by omega), if_neg (by omega), t173]
                    exact fi k k0 k1
              · rw [if_neg p5] at c2
                refine ⟨zi (-12), δ, δ, ?_, ?_, I, rfl⟩
                · simp (disch := omega) only [F_Bs_copy, ↓bnd_eq, bd2, bn2, Option.bind_some, Option.bind_none, w1', w2', ↓bse cm1, ↓bse cm2, ↓bse cs1, ↓bse cs2, ↓bse c1, ↓bse c2, ↓reduceIte, inb, zl, zi_add, zi_sub, zi_mul, zi_neg, zi_le_t, zi_le_f, zi_lt_t, zi_lt_f, zi_eq_t, zi_eq_f, if_true, if_false, ite_true, ite_false, true_and, and_true, false_and, and_false, not_true_eq_false, not_false_eq_true, true_or, or_true, false_or, or_false, and_self, ge_iff_le, gt_iff_lt]
                · by_cases z2 : i2 < 0
                  · simp (disch := omega) only [F_M_copy, ↓bnd_eq, bd2, bn2, Option.bind_some, Option.bind_none, w1, w2, a171, b171, a172, b172, ↓reduceIte, inb, zl, zi_add, zi_sub, zi_mul, zi_neg, zi_le_t, zi_le_f, zi_lt_t, zi_lt_f, zi_eq_t, zi_eq_f, if_true, if_false, ite_true, ite_false, true_and, and_true, false_and, and_false, not_true_eq_false, not_false_eq_true, true_or, or_true, false_or, or_false, and_self, ge_iff_le, gt_iff_lt]
                  · simp (disch := omega) only [F_M_copy, ↓bnd_eq, bd2, bn2, Option.bind_some, Option.bind_none, w1, w2, a171, b171, a172, b172, ↓reduceIte, inb, zl, zi_add, zi_sub, zi_mul, zi_neg, zi_le_t, zi_le_f, zi_lt_t, zi_lt_f, zi_eq_t, zi_eq_f, if_true, if_false, ite_true, ite_false, true_and, and_true, false_and, and_false, not_true_eq_false, not_false_eq_true, true_or, or_true, false_or, or_false, and_self, ge_iff_le, gt_iff_lt]
            · rw [if_neg p4] at c1
              refine ⟨zi (-12), δ, δ, ?_, ?_, I, rfl⟩
              · simp (disch := omega) only [F_Bs_copy, ↓bnd_eq, bd2, bn2, Option.bind_some, Option.bind_none, w1', w2', ↓bse cm1, ↓bse cm2, ↓bse cs1, ↓bse cs2, ↓bse c1, ↓reduceIte, inb, zl, zi_add, zi_sub, zi_mul, zi_neg, zi_le_t, zi_le_f, zi_lt_t, zi_lt_f, zi_eq_t, zi_eq_f, if_true, if_false, ite_true, ite_false, true_and, and_true, false_and, and_false, not_true_eq_false, not_false_eq_true, true_or, or_true, false_or, or_false, and_self, ge_iff_le, gt_iff_lt]
              · by_cases z0 : m < 0
                · simp (disch := omega) only [F_M_copy, ↓bnd_eq, bd2, bn2, Option.bind_some, Option.bind_none, w1, w2, a171, b171, a172, b172, ↓reduceIte, inb, zl, zi_add, zi_sub, zi_mul, zi_neg, zi_le_t, zi_le_f, zi_lt_t, zi_lt_f, zi_eq_t, zi_eq_f, if_true, if_false, ite_true, ite_false, true_and, and_true, false_and, and_false, not_true_eq_false, not_false_eq_true, true_or, or_true, false_or, or_false, and_self, ge_iff_le, gt_iff_lt]
                · by_cases z1 : i1 < 0
                  · simp (disch := omega) only [F_M_copy, ↓bnd_eq, bd2, bn2, Option.bind_some, Option.bind_none, w1, w2, a171, b171, a172, b172, ↓reduceIte, inb, zl, zi_add, zi_sub, zi_mul, zi_neg, zi_le_t, zi_le_f, zi_lt_t, zi_lt_f, zi_eq_t, zi_eq_f, if_true, if_false, ite_true, ite_false, true_and, and_true, false_and, and_false, not_true_eq_false, not_false_eq_true, true_or, or_true, false_or, or_false, and_self, ge_iff_le, gt_iff_lt]
                  · by_cases z2 : i2 < 0
                    · simp (disch := omega) only [F_M_copy, ↓bnd_eq, bd2, bn2, Option.bind_some, Option.bind_none, w1, w2, a171, b171, a172, b172, ↓reduceIte, inb, zl, zi_add, zi_sub, zi_mul, zi_neg, zi_le_t, zi_le_f, zi_lt_t, zi_lt_f, zi_eq_t, zi_eq_f, if_true, if_false, ite_true, ite_false, true_and, and_true, false_and, and_false, not_true_eq_false, not_false_eq_true, true_or, or_true, false_or, or_false, and_self, ge_iff_le, gt_iff_lt]
                    · simp (disch := omega) only [F_M_copy, ↓bnd_eq, bd2, bn2, Option.bind_some, Option.bind_none, w1, w2, a171, b171, a172, b172, ↓reduceIte, inb, zl, zi_add, zi_sub, zi_mul, zi_neg, zi_le_t, zi_le_f, zi_lt_t, zi_lt_f, zi_eq_t, zi_eq_f, if_true, if_false, ite_true, ite_false, true_and, and_true, false_and, and_false, not_true_eq_false, not_false_eq_true, true_or, or_true, false_or, or_false, and_self, ge_iff_le, gt_iff_lt]
          · refine ⟨zi (-13), δ, δ, ?_, ?_, I, rfl⟩
            · simp (disch := omega) only [F_Bs_copy, ↓bnd_eq, bd2, bn2, Option.bind_some, Option.bind_none, w1', w2', ↓bse cm1, ↓bse cm2, ↓bse cs1, ↓bse cs2, ↓reduceIte, inb, zl, zi_add, zi_sub, zi_mul, zi_neg, zi_le_t, zi_le_f, zi_lt_t, zi_lt_f, zi_eq_t, zi_eq_f, if_true, if_false, ite_true, ite_false, true_and, and_true, false_and, and_false, not_true_eq_false, not_false_eq_true, true_or, or_true, false_or, or_false, and_self, ge_iff_le, gt_iff_lt]
            · simp (disch := omega) only [F_M_copy, ↓bnd_eq, bd2, bn2, Option.bind_some, Option.bind_none, w1, w2, a171, b171, ↓reduceIte, inb, zl, zi_add, zi_sub, zi_mul, zi_neg, zi_le_t, zi_le_f, zi_lt_t, zi_lt_f, zi_eq_t, zi_eq_f, if_true, if_false, ite_true, ite_false, true_and, and_true, false_and, and_false, not_true_eq_false, not_false_eq_true, true_or, or_true, false_or, or_false, and_self, ge_iff_le, gt_iff_lt]
    · obtain ⟨w2, w2'⟩ := is_sheetN hs2 q2
      refine ⟨zi (-2), δ, δ, ?_, ?_, I, rfl⟩
      · simp (disch := omega) only [F_Bs_copy, ↓bnd_eq, bd2, bn2, Option.bind_some, Option.bind_none, w1', w2', ↓reduceIte, inb, zl, zi_add, zi_sub, zi_mul, zi_neg, zi_le_t, zi_le_f, zi_lt_t, zi_lt_f, zi_eq_t, zi_eq_f, if_true, if_false, ite_true, ite_false, true_and, and_true, false_and, and_false, not_true_eq_false, not_false_eq_true, true_or, or_true, false_or, or_false, and_self, ge_iff_le, gt_iff_lt]
      · simp (disch := omega) only [F_M_copy, ↓bnd_eq, bd2, bn2, Option.bind_some, Option.bind_none, w1, w2, ↓reduceIte, inb, zl, zi_add, zi_sub, zi_mul, zi_neg, zi_le_t, zi_le_f, zi_lt_t, zi_lt_f, zi_eq_t, zi_eq_f, if_true, if_false, ite_true, ite_false, true_and, and_true, false_and, and_false, not_true_eq_false, not_false_eq_true, true_or, or_true, false_or, or_false, and_self, ge_iff_le, gt_iff_lt]
  · obtain ⟨w1, w1'⟩ := is_sheetN hs1 q1
    refine ⟨zi (-2), δ, δ, ?_, ?_, I, rfl⟩
    · simp (disch := omega) only [F_Bs_copy, ↓bnd_eq, bd2, bn2, Option.bind_some, Option.bind_none, w1', ↓reduceIte, inb, zl, zi_add, zi_sub, zi_mul, zi_neg, zi_le_t, zi_le_f, zi_lt_t, zi_lt_f, zi_eq_t, zi_eq_f, if_true, if_false, ite_true, ite_false, true_and, and_true, false_and, and_false, not_true_eq_false, not_false_eq_true, true_or, or_true, false_or, or_false, and_self, ge_iff_le, gt_iff_lt]
    · simp (disch := omega) only [F_M_copy, ↓bnd_eq, bd2, bn2, Option.bind_some, Option.bind_none, w1, ↓reduceIte, inb, zl, zi_add, zi_sub, zi_mul, zi_neg, zi_le_t, zi_le_f, zi_lt_t, zi_lt_f, zi_eq_t, zi_eq_f, if_true, if_false, ite_true, ite_false, true_and, and_true, false_and, and_false, not_true_eq_false, not_false_eq_true, true_or, or_true, false_or, or_false, and_self, ge_iff_le, gt_iff_lt]
