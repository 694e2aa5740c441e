/-! the calls of blocks: a new block, a new script (wip/whole/pure) -/
def addV (v : PG) (k n : Int) : PG := (v.1 + 1, v.2.1, fun b j => if b = v.1 then (if j = 0 then k else if j = 1 then n else -1) else v.2.2.1 b j, fun b j => if b = v.1 then -1 else v.2.2.2.1 b j, v.2.2.2.2)
def addS (v : PG) (a c n r : Int) : PG := (v.1, v.2.1 + 1, v.2.2.1, v.2.2.2.1, fun b j => if b = v.2.1 then (if j = 0 then a else if j = 1 then c else if j = 2 then n else if j = 3 then r else -1) else v.2.2.2.2 b j)
theorem PW.add {v : PG} (W : PW v) {k n : Int} (hN : v.1 < 30) (hk : 0 ≤ k ∧ k ≤ 22) (hn : -99 ≤ n ∧ n ≤ 99) (h16 : k = 1 ∨ k = 6 → 0 ≤ n ∧ n ≤ 3) : PW (addV v k n) := by
  obtain ⟨wN, wM, wB, wS, rk, wR⟩ := W
  have eB : ∀ x j, (addV v k n).2.2.1 x j = if x = v.1 then (if j = 0 then k else if j = 1 then n else -1) else v.2.2.1 x j := fun _ _ => rfl
  have eH : ∀ x j, (addV v k n).2.2.2.1 x j = if x = v.1 then -1 else v.2.2.2.1 x j := fun _ _ => rfl
  have eS : ∀ x j, (addV v k n).2.2.2.2 x j = v.2.2.2.2 x j := fun _ _ => rfl
  have eN : (addV v k n).1 = v.1 + 1 := rfl
  have eM : (addV v k n).2.1 = v.2.1 := rfl
  have bo : ∀ x j, x ≠ v.1 → (addV v k n).2.2.1 x j = v.2.2.1 x j := fun x j h => by rw [eB, if_neg h]
  have ho : ∀ x j, x ≠ v.1 → (addV v k n).2.2.2.1 x j = v.2.2.2.1 x j := fun x j h => by rw [eH, if_neg h]
  refine ⟨⟨by rw [eN]; omega, by rw [eN]; omega⟩, wM, fun x x0 x1 => ?_, fun s s0 s1 => ?_, rk, fun x x0 x1 hx => ?_⟩
  · rw [eN] at x1
    by_cases q : x = v.1
    · have b0 : (addV v k n).2.2.1 x 0 = k := by rw [eB, if_pos q]; rfl
      have b1 : (addV v k n).2.2.1 x 1 = n := by rw [eB, if_pos q]; rfl
      have b2 : (addV v k n).2.2.1 x 2 = -1 := by rw [eB, if_pos q]; rfl
      have b3 : (addV v k n).2.2.1 x 3 = -1 := by rw [eB, if_pos q]; rfl
      have b4 : (addV v k n).2.2.1 x 4 = -1 := by rw [eB, if_pos q]; rfl
      refine ⟨by rw [b0]; exact hk, by rw [b0, b1]; exact ⟨hn, h16⟩, Or.inl ⟨b2, b3⟩, Or.inl b4, fun j j0 j5 => Or.inl ?_⟩
      rw [eH, if_pos q]
    · obtain ⟨k1, n1, u1, t1, l1⟩ := wB x x0 (by omega)
      refine ⟨by rw [bo x 0 q]; exact k1, by rw [bo x 0 q, bo x 1 q]; exact n1, ?_, ?_, fun j j0 j5 => ?_⟩
      · rw [bo x 2 q, bo x 3 q, bo x 4 q, bo x 0 q]
        rcases u1 with u1 | ⟨u2, u3, u4, u5, u6, u7, u8⟩
        · exact Or.inl u1
        · right
          have hne : v.2.2.1 x 2 ≠ v.1 := by omega
          rw [eN, ho _ _ hne, bo _ 0 hne]
          exact ⟨⟨u2.1, by omega⟩, u3, u4, u5, u6, u7, u8⟩
      · rw [bo x 4 q, bo x 0 q]
        exact t1
      · rw [ho x j q]
        rcases l1 j j0 j5 with e | ⟨l2, l3, l4⟩
        · exact Or.inl e
        · right
          have hne : v.2.2.2.1 x j ≠ v.1 := by omega
          rw [eN, bo _ 2 hne, bo _ 3 hne]
          exact ⟨⟨l2.1, by omega⟩, l3, l4⟩
  · obtain ⟨s1', s2, s3, s4, s5, s6, s7⟩ := wS s s0 s1
    refine ⟨s1', s2, s3, s4, s5, s6, ?_⟩
    rw [eS]
    rcases s7 with e | ⟨s8, s9⟩
    · exact Or.inl e
    · right
      have hne : v.2.2.2.2 s 4 ≠ v.1 := by omega
      rw [eN, bo _ 4 hne]
      exact ⟨⟨s8.1, by omega⟩, s9⟩
  · rw [eN] at x1
    by_cases q : x = v.1
    · exfalso; apply hx; rw [eB, if_pos q]; rfl
    · rw [bo x 2 q] at hx ⊢
      exact wR x x0 (by omega) hx
theorem PW.adds {v : PG} (W : PW v) {a c n r : Int} (hM : v.2.1 < 6) (ha : 0 ≤ a ∧ a ≤ 2) (hc : 0 ≤ c ∧ c ≤ 3) (hn : 0 ≤ n ∧ n ≤ 9) (h1 : c = 1 → n ≤ 3) (h2 : c = 2 → 1 ≤ n) (hr : 0 ≤ r ∧ r ≤ 1) : PW (addS v a c n r) := by
  obtain ⟨wN, wM, wB, wS, rk, wR⟩ := W
  have eS : ∀ x j, (addS v a c n r).2.2.2.2 x j = if x = v.2.1 then (if j = 0 then a else if j = 1 then c else if j = 2 then n else if j = 3 then r else -1) else v.2.2.2.2 x j := fun _ _ => rfl
  have eM : (addS v a c n r).2.1 = v.2.1 + 1 := rfl
  have so : ∀ x j, x ≠ v.2.1 → (addS v a c n r).2.2.2.2 x j = v.2.2.2.2 x j := fun x j h => by rw [eS, if_neg h]
  refine ⟨wN, ⟨by rw [eM]; omega, by rw [eM]; omega⟩, fun x x0 x1 => ?_, fun s s0 s1 => ?_, rk, wR⟩
  · obtain ⟨k1, n1, u1, t1, l1⟩ := wB x x0 x1
    refine ⟨k1, n1, u1, ?_, l1⟩
    rcases t1 with e | ⟨t2, t3, t4⟩
    · exact Or.inl e
    · right
      have t2' : 0 ≤ v.2.2.1 x 4 ∧ v.2.2.1 x 4 < v.2.1 := t2
      have hne : v.2.2.1 x 4 ≠ v.2.1 := by omega
      refine ⟨⟨t2.1, ?_⟩, ?_, t4⟩
      · rw [eM]; show v.2.2.1 x 4 < _; omega
      · show (addS v a c n r).2.2.2.2 (v.2.2.1 x 4) 4 = x
        rw [so _ 4 hne]; exact t3
  · rw [eM] at s1
    by_cases q : s = v.2.1
    · have b0 : (addS v a c n r).2.2.2.2 s 0 = a := by rw [eS, if_pos q]; rfl
      have b1 : (addS v a c n r).2.2.2.2 s 1 = c := by rw [eS, if_pos q]; rfl
      have b2 : (addS v a c n r).2.2.2.2 s 2 = n := by rw [eS, if_pos q]; rfl
      have b3 : (addS v a c n r).2.2.2.2 s 3 = r := by rw [eS, if_pos q]; rfl
      have b4 : (addS v a c n r).2.2.2.2 s 4 = -1 := by rw [eS, if_pos q]; rfl
      unfold SW
      rw [b0, b1, b2, b3, b4]
      exact ⟨ha, hc, hn, h1, h2, hr, Or.inl rfl⟩
    · have := wS s s0 (by omega)
      unfold SW at this ⊢
      rw [so s 0 q, so s 1 q, so s 2 q, so s 3 q, so s 4 q]
      exact this
section AD
variable {δ : Dl} {v : PG}
abbrev SPa : Nat → Nat → Prop := fun f a => a = 1 ∧ 30 ≤ f ∧ f ≤ 34
abbrev SMa : Nat → Nat → Prop := fun f a => a = 23 ∧ ((118 ≤ f ∧ f ≤ 130) ∨ f = 152)
theorem c_add (C : CP 1 δ v) (hN : 0 ≤ v.1 ∧ v.1 < 30) {k n : Int} : ∃ δ', F_Pr_addBlock 1 (zi k) (zi n) δ = some (zi v.1, δ') ∧ CP 1 δ' (addV v k n) ∧ Fr SPa δ δ' := by
  have E : F_Pr_addBlock 1 (zi k) (zi n) δ = some (zi v.1, sI (sW (sA (sA (sA (sA (sA δ 32 1 (zi (v.1 * 5 + 0)) (zi k)) 32 1 (zi (v.1 * 5 + 1)) (zi n)) 32 1 (zi (v.1 * 5 + 2)) (zi (-1))) 32 1 (zi (v.1 * 5 + 3)) (zi (-1))) 32 1 (zi (v.1 * 5 + 4)) (zi (-1))) 33 1 (fr1 (δ.2.1 33 1) (v.1 * 5) (v.1 * 5 + 5) (zi (-1)))) 30 1 (zi (v.1 + 1))) := by
    have f := fill4 (f := 33) (a := 1) (N := 150) (lo := v.1 * 5) (hi := v.1 * 5 + 5) (u := zi (-1)) (δ := sA (sA (sA (sA (sA δ 32 1 (zi (v.1 * 5 + 0)) (zi k)) 32 1 (zi (v.1 * 5 + 1)) (zi n)) 32 1 (zi (v.1 * 5 + 2)) (zi (-1))) 32 1 (zi (v.1 * 5 + 3)) (zi (-1))) 32 1 (zi (v.1 * 5 + 4)) (zi (-1))) (by decide) (by omega) (by omega) (by omega)
    simp (disch := omega) only [F_Pr_addBlock, ↓bnd_eq, bd2, bn2, Option.bind_some, Option.bind_none, C.1, ↓bse f, ↓reduceIte, inb, zl, zi_add, zi_sub, zi_mul, zi_neg, zi_le_t, zi_le_f, zi_lt_t, zi_lt_f, zi_eq_t, zi_eq_f, if_true, if_false, ite_true, ite_false, true_and, and_true, false_and, and_false, not_true_eq_false, not_false_eq_true, true_or, or_true, false_or, or_false, and_self, ge_iff_le, gt_iff_lt]
    rfl
  refine ⟨_, E, ⟨sI_at, C.2.1, fun b j b0 b1 j0 j5 => ?_, fun b j b0 b1 j0 j5 => ?_, C.2.2.2.2⟩, ((((((Fr.rf.sA ⟨rfl, by decide, by decide⟩).sA ⟨rfl, by decide, by decide⟩).sA ⟨rfl, by decide, by decide⟩).sA ⟨rfl, by decide, by decide⟩).sA ⟨rfl, by decide, by decide⟩).sW ⟨rfl, by decide, by decide⟩).sI ⟨rfl, by decide, by decide⟩⟩
  · have b1 : b < v.1 + 1 := b1
    show (sA (sA (sA (sA (sA δ 32 1 (zi (v.1 * 5 + 0)) (zi k)) 32 1 (zi (v.1 * 5 + 1)) (zi n)) 32 1 (zi (v.1 * 5 + 2)) (zi (-1))) 32 1 (zi (v.1 * 5 + 3)) (zi (-1))) 32 1 (zi (v.1 * 5 + 4)) (zi (-1))).2.1 32 1 (zi (b * 5 + j)) = zi (if b = v.1 then (if j = 0 then k else if j = 1 then n else -1) else v.2.2.1 b j)
    simp only [rAi]
    by_cases q : b = v.1
    · subst q
      rw [if_pos rfl]
      rcases (show j = 0 ∨ j = 1 ∨ j = 2 ∨ j = 3 ∨ j = 4 by omega) with rfl | rfl | rfl | rfl | rfl
      · simp (disch := omega) only [↓reduceIte, inb, zl, zi_add, zi_sub, zi_mul, zi_neg, zi_le_t, zi_le_f, zi_lt_t, zi_lt_f, zi_eq_t, zi_eq_f, if_true, if_false, ite_true, ite_false, true_and, and_true, false_and, and_false, not_true_eq_false, not_false_eq_true, true_or, or_true, false_or, or_false, and_self, ge_iff_le, gt_iff_lt]
      · simp (disch := omega) only [↓reduceIte, inb, zl, zi_add, zi_sub, zi_mul, zi_neg, zi_le_t, zi_le_f, zi_lt_t, zi_lt_f, zi_eq_t, zi_eq_f, if_true, if_false, ite_true, ite_false, true_and, and_true, false_and, and_false, not_true_eq_false, not_false_eq_true, true_or, or_true, false_or, or_false, and_self, ge_iff_le, gt_iff_lt]
      · simp (disch := omega) only [↓reduceIte, inb, zl, zi_add, zi_sub, zi_mul, zi_neg, zi_le_t, zi_le_f, zi_lt_t, zi_lt_f, zi_eq_t, zi_eq_f, if_true, if_false, ite_true, ite_false, true_and, and_true, false_and, and_false, not_true_eq_false, not_false_eq_true, true_or, or_true, false_or, or_false, and_self, ge_iff_le, gt_iff_lt]
      · simp (disch := omega) only [↓reduceIte, inb, zl, zi_add, zi_sub, zi_mul, zi_neg, zi_le_t, zi_le_f, zi_lt_t, zi_lt_f, zi_eq_t, zi_eq_f, if_true, if_false, ite_true, ite_false, true_and, and_true, false_and, and_false, not_true_eq_false, not_false_eq_true, true_or, or_true, false_or, or_false, and_self, ge_iff_le, gt_iff_lt]
      · simp (disch := omega) only [↓reduceIte, inb, zl, zi_add, zi_sub, zi_mul, zi_neg, zi_le_t, zi_le_f, zi_lt_t, zi_lt_f, zi_eq_t, zi_eq_f, if_true, if_false, ite_true, ite_false, true_and, and_true, false_and, and_false, not_true_eq_false, not_false_eq_true, true_or, or_true, false_or, or_false, and_self, ge_iff_le, gt_iff_lt]
    · rw [if_neg q]
      have := C.2.2.1 b j b0 (by omega) j0 j5
      simp (disch := omega) only [↓reduceIte, inb, zl, zi_add, zi_sub, zi_mul, zi_neg, zi_le_t, zi_le_f, zi_lt_t, zi_lt_f, zi_eq_t, zi_eq_f, if_true, if_false, ite_true, ite_false, true_and, and_true, false_and, and_false, not_true_eq_false, not_false_eq_true, true_or, or_true, false_or, or_false, and_self, ge_iff_le, gt_iff_lt]
      exact this
  · have b1 : b < v.1 + 1 := b1
    show fr1 (δ.2.1 33 1) (v.1 * 5) (v.1 * 5 + 5) (zi (-1)) (zi (b * 5 + j)) = zi (if b = v.1 then -1 else v.2.2.2.1 b j)
    by_cases q : b = v.1
    · rw [if_pos q, fr1_in (by omega)]
    · rw [if_neg q, fr1_out (by omega)]
      exact C.2.2.2.1 b j b0 (by omega) j0 j5
theorem m_add (M : MP δ v) (hN : 0 ≤ v.1 ∧ v.1 < 30) {x1 x2 : Int32} {k n : Int} : ∃ δ', F_M_block_55 x1 x2 FU (zi 0) (sA (sA δ 119 23 (zi v.1) (zi k)) 120 23 (zi v.1) (zi n)) = some (zi v.1, sI δ' 152 23 (zi (-1))) ∧ MP δ' (addV v k n) ∧ Fr SMa δ δ' := by
  have E : F_M_block_55 x1 x2 (5 + 1 + (FU - 6)) (zi 0) (sA (sA δ 119 23 (zi v.1) (zi k)) 120 23 (zi v.1) (zi n)) = some (zi v.1, sI (sI (sA (sA (sA (sA (sA (sA (sA (sA (sA (sA δ 119 23 (zi v.1) (zi k)) 120 23 (zi v.1) (zi n)) 121 23 (zi (5 * v.1 + 0)) (zi (-1))) 121 23 (zi (5 * v.1 + 1)) (zi (-1))) 121 23 (zi (5 * v.1 + 2)) (zi (-1))) 121 23 (zi (5 * v.1 + 3)) (zi (-1))) 121 23 (zi (5 * v.1 + 4)) (zi (-1))) 122 23 (zi v.1) (zi (-1))) 123 23 (zi v.1) (zi (-1))) 124 23 (zi v.1) (zi (-1))) 118 23 (zi (v.1 + 1))) 152 23 (zi (-1))) := by
    generalize FU - 6 = q
    have e1 := M.1
    rw [show 5 + 1 + q = q + 1 + 1 + 1 + 1 + 1 + 1 by omega]
    simp (disch := omega) only [F_M_block_55, F_M_block_55_b, ↓bnd_eq, bd2, bn2, Option.bind_some, Option.bind_none, q1A, q1I, e1, ↓reduceIte, inb, zl, zi_add, zi_sub, zi_mul, zi_neg, zi_le_t, zi_le_f, zi_lt_t, zi_lt_f, zi_eq_t, zi_eq_f, if_true, if_false, ite_true, ite_false, true_and, and_true, false_and, and_false, not_true_eq_false, not_false_eq_true, true_or, or_true, false_or, or_false, and_self, ge_iff_le, gt_iff_lt]
    simp (disch := omega) only [Int.reduceAdd, Nat.reduceEqDiff, if_false, ite_false, reduceCtorEq, zi_sub, show v.1 + 1 - 1 = v.1 by omega, zl]
  rw [show 5 + 1 + (FU - 6) = FU by unfold FU; omega] at E
  refine ⟨_, E, ⟨sI_at, M.2.1, fun b b0 b1 => ?_, fun b j b0 b1 j0 j5 => ?_, M.2.2.2.2⟩, ?_⟩
  · have b1 : b < v.1 + 1 := b1
    show (sA (sA (sA (sA (sA (sA (sA (sA (sA (sA δ 119 23 (zi v.1) (zi k)) 120 23 (zi v.1) (zi n)) 121 23 (zi (5 * v.1 + 0)) (zi (-1))) 121 23 (zi (5 * v.1 + 1)) (zi (-1))) 121 23 (zi (5 * v.1 + 2)) (zi (-1))) 121 23 (zi (5 * v.1 + 3)) (zi (-1))) 121 23 (zi (5 * v.1 + 4)) (zi (-1))) 122 23 (zi v.1) (zi (-1))) 123 23 (zi v.1) (zi (-1))) 124 23 (zi v.1) (zi (-1))).2.1 119 23 (zi b) = _ ∧ (sA (sA (sA (sA (sA (sA (sA (sA (sA (sA δ 119 23 (zi v.1) (zi k)) 120 23 (zi v.1) (zi n)) 121 23 (zi (5 * v.1 + 0)) (zi (-1))) 121 23 (zi (5 * v.1 + 1)) (zi (-1))) 121 23 (zi (5 * v.1 + 2)) (zi (-1))) 121 23 (zi (5 * v.1 + 3)) (zi (-1))) 121 23 (zi (5 * v.1 + 4)) (zi (-1))) 122 23 (zi v.1) (zi (-1))) 123 23 (zi v.1) (zi (-1))) 124 23 (zi v.1) (zi (-1))).2.1 120 23 (zi b) = _ ∧ (sA (sA (sA (sA (sA (sA (sA (sA (sA (sA δ 119 23 (zi v.1) (zi k)) 120 23 (zi v.1) (zi n)) 121 23 (zi (5 * v.1 + 0)) (zi (-1))) 121 23 (zi (5 * v.1 + 1)) (zi (-1))) 121 23 (zi (5 * v.1 + 2)) (zi (-1))) 121 23 (zi (5 * v.1 + 3)) (zi (-1))) 121 23 (zi (5 * v.1 + 4)) (zi (-1))) 122 23 (zi v.1) (zi (-1))) 123 23 (zi v.1) (zi (-1))) 124 23 (zi v.1) (zi (-1))).2.1 122 23 (zi b) = _ ∧ (sA (sA (sA (sA (sA (sA (sA (sA (sA (sA δ 119 23 (zi v.1) (zi k)) 120 23 (zi v.1) (zi n)) 121 23 (zi (5 * v.1 + 0)) (zi (-1))) 121 23 (zi (5 * v.1 + 1)) (zi (-1))) 121 23 (zi (5 * v.1 + 2)) (zi (-1))) 121 23 (zi (5 * v.1 + 3)) (zi (-1))) 121 23 (zi (5 * v.1 + 4)) (zi (-1))) 122 23 (zi v.1) (zi (-1))) 123 23 (zi v.1) (zi (-1))) 124 23 (zi v.1) (zi (-1))).2.1 123 23 (zi b) = _ ∧ (sA (sA (sA (sA (sA (sA (sA (sA (sA (sA δ 119 23 (zi v.1) (zi k)) 120 23 (zi v.1) (zi n)) 121 23 (zi (5 * v.1 + 0)) (zi (-1))) 121 23 (zi (5 * v.1 + 1)) (zi (-1))) 121 23 (zi (5 * v.1 + 2)) (zi (-1))) 121 23 (zi (5 * v.1 + 3)) (zi (-1))) 121 23 (zi (5 * v.1 + 4)) (zi (-1))) 122 23 (zi v.1) (zi (-1))) 123 23 (zi v.1) (zi (-1))) 124 23 (zi v.1) (zi (-1))).2.1 124 23 (zi b) = _
    by_cases q : b = v.1
    · subst q
      have a0 : (addV v k n).2.2.1 v.1 0 = k := by show (if v.1 = v.1 then _ else _) = _; rw [if_pos rfl]; rfl
      have a1 : (addV v k n).2.2.1 v.1 1 = n := by show (if v.1 = v.1 then _ else _) = _; rw [if_pos rfl]; rfl
      have a2 : (addV v k n).2.2.1 v.1 2 = -1 := by show (if v.1 = v.1 then _ else _) = _; rw [if_pos rfl]; rfl
      have a3 : (addV v k n).2.2.1 v.1 3 = -1 := by show (if v.1 = v.1 then _ else _) = _; rw [if_pos rfl]; rfl
      have a4 : (addV v k n).2.2.1 v.1 4 = -1 := by show (if v.1 = v.1 then _ else _) = _; rw [if_pos rfl]; rfl
      rw [a0, a1, a2, a3, a4]
      refine ⟨?_, ?_, ?_, ?_, ?_⟩ <;> simp [rA, rAi]
    · have hb : ∀ j, (addV v k n).2.2.1 b j = v.2.2.1 b j := fun j => if_neg q
      have hz : ¬ zi b = zi v.1 := fun e => q (zi_inj e (by omega) (by omega))
      obtain ⟨e0, e1, e2, e3, e4⟩ := M.2.2.1 b b0 (by omega)
      rw [hb, hb, hb, hb, hb]
      refine ⟨?_, ?_, ?_, ?_, ?_⟩ <;> simp [rA, rAi, hz] <;> assumption
  · have b1 : b < v.1 + 1 := b1
    show (sA (sA (sA (sA (sA δ 121 23 (zi (5 * v.1 + 0)) (zi (-1))) 121 23 (zi (5 * v.1 + 1)) (zi (-1))) 121 23 (zi (5 * v.1 + 2)) (zi (-1))) 121 23 (zi (5 * v.1 + 3)) (zi (-1))) 121 23 (zi (5 * v.1 + 4)) (zi (-1))).2.1 121 23 (zi (5 * b + j)) = zi (if b = v.1 then -1 else v.2.2.2.1 b j)
    simp only [rAi]
    by_cases q : b = v.1
    · subst q
      rw [if_pos rfl]
      rcases (show j = 0 ∨ j = 1 ∨ j = 2 ∨ j = 3 ∨ j = 4 by omega) with rfl | rfl | rfl | rfl | rfl
      · simp (disch := omega) only [↓reduceIte, inb, zl, zi_add, zi_sub, zi_mul, zi_neg, zi_le_t, zi_le_f, zi_lt_t, zi_lt_f, zi_eq_t, zi_eq_f, if_true, if_false, ite_true, ite_false, true_and, and_true, false_and, and_false, not_true_eq_false, not_false_eq_true, true_or, or_true, false_or, or_false, and_self, ge_iff_le, gt_iff_lt]
      · simp (disch := omega) only [↓reduceIte, inb, zl, zi_add, zi_sub, zi_mul, zi_neg, zi_le_t, zi_le_f, zi_lt_t, zi_lt_f, zi_eq_t, zi_eq_f, if_true, if_false, ite_true, ite_false, true_and, and_true, false_and, and_false, not_true_eq_false, not_false_eq_true, true_or, or_true, false_or, or_false, and_self, ge_iff_le, gt_iff_lt]
      · simp (disch := omega) only [↓reduceIte, inb, zl, zi_add, zi_sub, zi_mul, zi_neg, zi_le_t, zi_le_f, zi_lt_t, zi_lt_f, zi_eq_t, zi_eq_f, if_true, if_false, ite_true, ite_false, true_and, and_true, false_and, and_false, not_true_eq_false, not_false_eq_true, true_or, or_true, false_or, or_false, and_self, ge_iff_le, gt_iff_lt]
      · simp (disch := omega) only [↓reduceIte, inb, zl, zi_add, zi_sub, zi_mul, zi_neg, zi_le_t, zi_le_f, zi_lt_t, zi_lt_f, zi_eq_t, zi_eq_f, if_true, if_false, ite_true, ite_false, true_and, and_true, false_and, and_false, not_true_eq_false, not_false_eq_true, true_or, or_true, false_or, or_false, and_self, ge_iff_le, gt_iff_lt]
      · simp (disch := omega) only [↓reduceIte, inb, zl, zi_add, zi_sub, zi_mul, zi_neg, zi_le_t, zi_le_f, zi_lt_t, zi_lt_f, zi_eq_t, zi_eq_f, if_true, if_false, ite_true, ite_false, true_and, and_true, false_and, and_false, not_true_eq_false, not_false_eq_true, true_or, or_true, false_or, or_false, and_self, ge_iff_le, gt_iff_lt]
    · rw [if_neg q]
      have := M.2.2.2.1 b j b0 (by omega) j0 j5
      simp (disch := omega) only [↓reduceIte, inb, zl, zi_add, zi_sub, zi_mul, zi_neg, zi_le_t, zi_le_f, zi_lt_t, zi_lt_f, zi_eq_t, zi_eq_f, if_true, if_false, ite_true, ite_false, true_and, and_true, false_and, and_false, not_true_eq_false, not_false_eq_true, true_or, or_true, false_or, or_false, and_self, ge_iff_le, gt_iff_lt]
      exact this
  · exact (((((((((((Fr.rf.sA ⟨rfl, by decide⟩).sA ⟨rfl, by decide⟩).sA ⟨rfl, by decide⟩).sA ⟨rfl, by decide⟩).sA ⟨rfl, by decide⟩).sA ⟨rfl, by decide⟩).sA ⟨rfl, by decide⟩).sA ⟨rfl, by decide⟩).sA ⟨rfl, by decide⟩).sA ⟨rfl, by decide⟩).sI ⟨rfl, by decide⟩)
end AD
theorem frPa {δ δ' : Dl} (F : Fr SPa δ δ') : Fr SPr δ δ' := F.to (fun x y e => Or.inl ⟨e.1, e.2.1, e.2.2⟩)
theorem frMa {δ δ' : Dl} (F : Fr SMa δ δ') : Fr SPr δ δ' := F.to (fun x y e => Or.inr (Or.inr ⟨e.1, e.2⟩))
theorem st_block (x1 x2 : Int32) : S2 INV (F_Bs_block x1 x2) (F_M_block x1 x2) := by
  intro δ I
  obtain ⟨⟨v, g, h1, h2, h4⟩, ⟨kn, gk, h3⟩, hr⟩ := id I
  obtain ⟨W, C, M⟩ := id h1
  have hN := W.1
  obtain ⟨k, rfl, hk⟩ := zi_ex x1
  obtain ⟨n, rfl, hn⟩ := zi_ex x2
  by_cases qk : 0 ≤ k ∧ k ≤ 22
  · have mw : F_M_within (zi k) (zi 0) (zi 22) = zi 1 := by simp (disch := omega) only [F_M_within, ↓reduceIte, inb, zl, zi_add, zi_sub, zi_mul, zi_neg, zi_le_t, zi_le_f, zi_lt_t, zi_lt_f, zi_eq_t, zi_eq_f, if_true, if_false, ite_true, ite_false, true_and, and_true, false_and, and_false, not_true_eq_false, not_false_eq_true, true_or, or_true, false_or, or_false, and_self, ge_iff_le, gt_iff_lt]
    rcases num_of qk hn with ⟨a1, a2, a3, a4⟩ | ⟨a1, a2⟩
    · by_cases qn : v.1 < 30
      · have c30 : (sI δ 42 8 (zi 0)).1 30 1 = zi v.1 := C.1
        have C0 : CP 1 (sI δ 42 8 (zi 0)) v := C
        obtain ⟨d1, e1, C1, F1⟩ := c_add (k := k) (n := n) C0 ⟨hN.1, qn⟩
        have M1 : MP d1 v := MP.fr (δ := sI δ 42 8 (zi 0)) M F1 (fun f q1 q2 e => absurd e.1 (by decide))
        obtain ⟨d2, e2, M2, F2⟩ := m_add (x1 := zi k) (x2 := zi n) (k := k) (n := n) M1 ⟨hN.1, qn⟩
        have C2 : CP 1 d2 (addV v k n) := C1.fr F2 (fun f q1 q2 e => absurd e.1 (by decide))
        have F : Fr SPr δ (sI d2 152 23 (zi (-1))) := (((Fr.rf.sI (Or.inr (Or.inl ⟨rfl, rfl⟩))).tr (frPa F1)).tr (frMa F2)).sI (Or.inr (Or.inr ⟨rfl, Or.inr rfl⟩))
        refine ⟨zi v.1, d1, sI d2 152 23 (zi (-1)), ?_, ?_, INV.prog h2 h3 hr F ⟨W.add qn qk a3 a4, C2, M2⟩ ?_ sI_at, by show d2.2.2 102 0 = _; rw [F2.1, F1.1]; rfl⟩
        · simp only [F_Bs_block, zl, zi_add, zi_sub, zi_mul, zi_neg]
          simp (disch := omega) only [↓bnd_eq, bd2, bn2, Option.bind_some, Option.bind_none, a1, C.1, ↓b2e e1, ↓reduceIte, inb, zl, zi_add, zi_sub, zi_mul, zi_neg, zi_le_t, zi_le_f, zi_lt_t, zi_lt_f, zi_eq_t, zi_eq_f, if_true, if_false, ite_true, ite_false, true_and, and_true, false_and, and_false, not_true_eq_false, not_false_eq_true, true_or, or_true, false_or, or_false, and_self, ge_iff_le, gt_iff_lt]
        · have m0 := M1.1
          simp (disch := omega) only [F_M_block, ↓bnd_eq, bd2, bn2, Option.bind_some, Option.bind_none, mw, a2, m0, q1A, ↓reduceIte, inb, zl, zi_add, zi_sub, zi_mul, zi_neg, zi_le_t, zi_le_f, zi_lt_t, zi_lt_f, zi_eq_t, zi_eq_f, if_true, if_false, ite_true, ite_false, true_and, and_true, false_and, and_false, not_true_eq_false, not_false_eq_true, true_or, or_true, false_or, or_false, and_self, ge_iff_le, gt_iff_lt]
          exact e2
        · show d2.1 42 8 = zi 0
          rw [(F2.2 42 8 (fun e => absurd e.1 (by decide))).1, (F1.2 42 8 (fun e => absurd e.1 (by decide))).1, sI_at]
      · have q30 : v.1 = 30 := by have := hN.2; omega
        refine ⟨zi (-4), δ, δ, ?_, ?_, I, rfl⟩
        · simp (disch := omega) only [F_Bs_block, ↓bnd_eq, bd2, bn2, Option.bind_some, Option.bind_none, a1, C.1, ↓reduceIte, inb, zl, zi_add, zi_sub, zi_mul, zi_neg, zi_le_t, zi_le_f, zi_lt_t, zi_lt_f, zi_eq_t, zi_eq_f, if_true, if_false, ite_true, ite_false, true_and, and_true, false_and, and_false, not_true_eq_false, not_false_eq_true, true_or, or_true, false_or, or_false, and_self, ge_iff_le, gt_iff_lt]
        · have m0 := M.1
          simp (disch := omega) only [F_M_block, ↓bnd_eq, bd2, bn2, Option.bind_some, Option.bind_none, mw, a2, m0, ↓reduceIte, inb, zl, zi_add, zi_sub, zi_mul, zi_neg, zi_le_t, zi_le_f, zi_lt_t, zi_lt_f, zi_eq_t, zi_eq_f, if_true, if_false, ite_true, ite_false, true_and, and_true, false_and, and_false, not_true_eq_false, not_false_eq_true, true_or, or_true, false_or, or_false, and_self, ge_iff_le, gt_iff_lt]
    · refine ⟨zi (-2), δ, δ, ?_, ?_, I, rfl⟩
      · simp (disch := omega) only [F_Bs_block, ↓bnd_eq, bd2, bn2, Option.bind_some, Option.bind_none, a1, ↓reduceIte, inb, zl, zi_add, zi_sub, zi_mul, zi_neg, zi_le_t, zi_le_f, zi_lt_t, zi_lt_f, zi_eq_t, zi_eq_f, if_true, if_false, ite_true, ite_false, true_and, and_true, false_and, and_false, not_true_eq_false, not_false_eq_true, true_or, or_true, false_or, or_false, and_self, ge_iff_le, gt_iff_lt]
      · simp (disch := omega) only [F_M_block, ↓bnd_eq, bd2, bn2, Option.bind_some, Option.bind_none, mw, a2, ↓reduceIte, inb, zl, zi_add, zi_sub, zi_mul, zi_neg, zi_le_t, zi_le_f, zi_lt_t, zi_lt_f, zi_eq_t, zi_eq_f, if_true, if_false, ite_true, ite_false, true_and, and_true, false_and, and_false, not_true_eq_false, not_false_eq_true, true_or, or_true, false_or, or_false, and_self, ge_iff_le, gt_iff_lt]
  · refine ⟨zi (-2), δ, δ, ?_, ?_, I, rfl⟩
    · by_cases q0 : k < 0
      · simp (disch := omega) only [F_Bs_block, ↓reduceIte, inb, zl, zi_add, zi_sub, zi_mul, zi_neg, zi_le_t, zi_le_f, zi_lt_t, zi_lt_f, zi_eq_t, zi_eq_f, if_true, if_false, ite_true, ite_false, true_and, and_true, false_and, and_false, not_true_eq_false, not_false_eq_true, true_or, or_true, false_or, or_false, and_self, ge_iff_le, gt_iff_lt]
      · simp (disch := omega) only [F_Bs_block, ↓reduceIte, inb, zl, zi_add, zi_sub, zi_mul, zi_neg, zi_le_t, zi_le_f, zi_lt_t, zi_lt_f, zi_eq_t, zi_eq_f, if_true, if_false, ite_true, ite_false, true_and, and_true, false_and, and_false, not_true_eq_false, not_false_eq_true, true_or, or_true, false_or, or_false, and_self, ge_iff_le, gt_iff_lt]
    · by_cases q0 : k < 0
      · simp (disch := omega) only [F_M_block, F_M_within, ↓bnd_eq, bd2, bn2, Option.bind_some, Option.bind_none, ↓reduceIte, inb, zl, zi_add, zi_sub, zi_mul, zi_neg, zi_le_t, zi_le_f, zi_lt_t, zi_lt_f, zi_eq_t, zi_eq_f, if_true, if_false, ite_true, ite_false, true_and, and_true, false_and, and_false, not_true_eq_false, not_false_eq_true, true_or, or_true, false_or, or_false, and_self, ge_iff_le, gt_iff_lt]
      · simp (disch := omega) only [F_M_block, F_M_within, ↓bnd_eq, bd2, bn2, Option.bind_some, Option.bind_none, ↓reduceIte, inb, zl, zi_add, zi_sub, zi_mul, zi_neg, zi_le_t, zi_le_f, zi_lt_t, zi_lt_f, zi_eq_t, zi_eq_f, if_true, if_false, ite_true, ite_false, true_and, and_true, false_and, and_false, not_true_eq_false, not_false_eq_true, true_or, or_true, false_or, or_false, and_self, ge_iff_le, gt_iff_lt]
section AS
variable {δ : Dl} {v : PG}
theorem c_adds (C : CP 1 δ v) (hM : 0 ≤ v.2.1 ∧ v.2.1 < 6) {a c n r : Int} : ∃ δ', F_Pr_addScript 1 (zi a) (zi c) (zi n) (zi r) δ = some (zi v.2.1, δ') ∧ CP 1 δ' (addS v a c n r) ∧ Fr SPa δ δ' := by
  have E : F_Pr_addScript 1 (zi a) (zi c) (zi n) (zi r) δ = some (zi v.2.1, sI (sA (sA (sA (sA (sA δ 34 1 (zi (v.2.1 * 5 + 0)) (zi a)) 34 1 (zi (v.2.1 * 5 + 1)) (zi c)) 34 1 (zi (v.2.1 * 5 + 2)) (zi n)) 34 1 (zi (v.2.1 * 5 + 3)) (zi r)) 34 1 (zi (v.2.1 * 5 + 4)) (zi (-1))) 31 1 (zi (v.2.1 + 1))) := by
    simp (disch := omega) only [F_Pr_addScript, ↓bnd_eq, bd2, bn2, Option.bind_some, Option.bind_none, C.2.1, ↓reduceIte, inb, zl, zi_add, zi_sub, zi_mul, zi_neg, zi_le_t, zi_le_f, zi_lt_t, zi_lt_f, zi_eq_t, zi_eq_f, if_true, if_false, ite_true, ite_false, true_and, and_true, false_and, and_false, not_true_eq_false, not_false_eq_true, true_or, or_true, false_or, or_false, and_self, ge_iff_le, gt_iff_lt]
  refine ⟨_, E, ⟨C.1, sI_at, C.2.2.1, C.2.2.2.1, fun b j b0 b1 j0 j5 => ?_⟩, (((((Fr.rf.sA ⟨rfl, by decide, by decide⟩).sA ⟨rfl, by decide, by decide⟩).sA ⟨rfl, by decide, by decide⟩).sA ⟨rfl, by decide, by decide⟩).sA ⟨rfl, by decide, by decide⟩).sI ⟨rfl, by decide, by decide⟩⟩
  have b1 : b < v.2.1 + 1 := b1
  show (sA (sA (sA (sA (sA δ 34 1 (zi (v.2.1 * 5 + 0)) (zi a)) 34 1 (zi (v.2.1 * 5 + 1)) (zi c)) 34 1 (zi (v.2.1 * 5 + 2)) (zi n)) 34 1 (zi (v.2.1 * 5 + 3)) (zi r)) 34 1 (zi (v.2.1 * 5 + 4)) (zi (-1))).2.1 34 1 (zi (b * 5 + j)) = zi (if b = v.2.1 then (if j = 0 then a else if j = 1 then c else if j = 2 then n else if j = 3 then r else -1) else v.2.2.2.2 b j)
  simp only [rAi]
  by_cases q : b = v.2.1
  · subst q
    rw [if_pos rfl]
    rcases (show j = 0 ∨ j = 1 ∨ j = 2 ∨ j = 3 ∨ j = 4 by omega) with rfl | rfl | rfl | rfl | rfl
    · simp (disch := omega) only [↓reduceIte, inb, zl, zi_add, zi_sub, zi_mul, zi_neg, zi_le_t, zi_le_f, zi_lt_t, zi_lt_f, zi_eq_t, zi_eq_f, if_true, if_false, ite_true, ite_false, true_and, and_true, false_and, and_false, not_true_eq_false, not_false_eq_true, true_or, or_true, false_or, or_false, and_self, ge_iff_le, gt_iff_lt]
    · simp (disch := omega) only [↓reduceIte, inb, zl, zi_add, zi_sub, zi_mul, zi_neg, zi_le_t, zi_le_f, zi_lt_t, zi_lt_f, zi_eq_t, zi_eq_f, if_true, if_false, ite_true, ite_false, true_and, and_true, false_and, and_false, not_true_eq_false, not_false_eq_true, true_or, or_true, false_or, or_false, and_self, ge_iff_le, gt_iff_lt]
    · simp (disch := omega) only [↓reduceIte, inb, zl, zi_add, zi_sub, zi_mul, zi_neg, zi_le_t, zi_le_f, zi_lt_t, zi_lt_f, zi_eq_t, zi_eq_f, if_true, if_false, ite_true, ite_false, true_and, and_true, false_and, and_false, not_true_eq_false, not_false_eq_true, true_or, or_true, false_or, or_false, and_self, ge_iff_le, gt_iff_lt]
    · simp (disch := omega) only [↓reduceIte, inb, zl, zi_add, zi_sub, zi_mul, zi_neg, zi_le_t, zi_le_f, zi_lt_t, zi_lt_f, zi_eq_t, zi_eq_f, if_true, if_false, ite_true, ite_false, true_and, and_true, false_and, and_false, not_true_eq_false, not_false_eq_true, true_or, or_true, false_or, or_false, and_self, ge_iff_le, gt_iff_lt]
    · simp (disch := omega) only [↓reduceIte, inb, zl, zi_add, zi_sub, zi_mul, zi_neg, zi_le_t, zi_le_f, zi_lt_t, zi_lt_f, zi_eq_t, zi_eq_f, if_true, if_false, ite_true, ite_false, true_and, and_true, false_and, and_false, not_true_eq_false, not_false_eq_true, true_or, or_true, false_or, or_false, and_self, ge_iff_le, gt_iff_lt]
  · rw [if_neg q]
    have := C.2.2.2.2 b j b0 (by omega) j0 j5
    simp (disch := omega) only [↓reduceIte, inb, zl, zi_add, zi_sub, zi_mul, zi_neg, zi_le_t, zi_le_f, zi_lt_t, zi_lt_f, zi_eq_t, zi_eq_f, if_true, if_false, ite_true, ite_false, true_and, and_true, false_and, and_false, not_true_eq_false, not_false_eq_true, true_or, or_true, false_or, or_false, and_self, ge_iff_le, gt_iff_lt]
    exact this
theorem m_adds (M : MP δ v) (hM : 0 ≤ v.2.1 ∧ v.2.1 < 6) {a c n r : Int} (hr : 0 ≤ r ∧ r ≤ 1) : ∃ δ', F_M_cue_64 (zi a) (zi c) (zi n) (zi r) (zi 1) δ = some (zi v.2.1, sI δ' 152 23 (zi (-1))) ∧ MP δ' (addS v a c n r) ∧ Fr SMa δ δ' := by
  have mw : F_M_within (zi r) (zi 0) (zi 1) = zi 1 := by simp (disch := omega) only [F_M_within, ↓reduceIte, inb, zl, zi_add, zi_sub, zi_mul, zi_neg, zi_le_t, zi_le_f, zi_lt_t, zi_lt_f, zi_eq_t, zi_eq_f, if_true, if_false, ite_true, ite_false, true_and, and_true, false_and, and_false, not_true_eq_false, not_false_eq_true, true_or, or_true, false_or, or_false, and_self, ge_iff_le, gt_iff_lt]
  have E : F_M_cue_64 (zi a) (zi c) (zi n) (zi r) (zi 1) δ = some (zi v.2.1, sI (sI (sA (sA (sA (sA (sA δ 126 23 (zi v.2.1) (zi a)) 127 23 (zi v.2.1) (zi c)) 128 23 (zi v.2.1) (zi n)) 129 23 (zi v.2.1) (zi r)) 130 23 (zi v.2.1) (zi (-1))) 125 23 (zi (v.2.1 + 1))) 152 23 (zi (-1))) := by
    have e1 := M.2.1
    simp (disch := omega) only [F_M_cue_64, ↓bnd_eq, bd2, bn2, Option.bind_some, Option.bind_none, mw, q1A, q1I, e1, ↓reduceIte, inb, zl, zi_add, zi_sub, zi_mul, zi_neg, zi_le_t, zi_le_f, zi_lt_t, zi_lt_f, zi_eq_t, zi_eq_f, if_true, if_false, ite_true, ite_false, true_and, and_true, false_and, and_false, not_true_eq_false, not_false_eq_true, true_or, or_true, false_or, or_false, and_self, ge_iff_le, gt_iff_lt]
    simp (disch := omega) only [Int.reduceAdd, Nat.reduceEqDiff, if_false, ite_false, reduceCtorEq, zi_sub, show v.2.1 + 1 - 1 = v.2.1 by omega, zl]
  refine ⟨_, E, ⟨M.1, sI_at, M.2.2.1, M.2.2.2.1, fun b b0 b1 => ?_⟩, (((((Fr.rf.sA ⟨rfl, by decide⟩).sA ⟨rfl, by decide⟩).sA ⟨rfl, by decide⟩).sA ⟨rfl, by decide⟩).sA ⟨rfl, by decide⟩).sI ⟨rfl, by decide⟩⟩
  have b1 : b < v.2.1 + 1 := b1
  have key : ∀ f, (sI (sA (sA (sA (sA (sA δ 126 23 (zi v.2.1) (zi a)) 127 23 (zi v.2.1) (zi c)) 128 23 (zi v.2.1) (zi n)) 129 23 (zi v.2.1) (zi r)) 130 23 (zi v.2.1) (zi (-1))) 125 23 (zi (v.2.1 + 1))).2.1 f 23 (zi b) = (sA (sA (sA (sA (sA δ 126 23 (zi v.2.1) (zi a)) 127 23 (zi v.2.1) (zi c)) 128 23 (zi v.2.1) (zi n)) 129 23 (zi v.2.1) (zi r)) 130 23 (zi v.2.1) (zi (-1))).2.1 f 23 (zi b) := fun _ => rfl
  rw [key, key, key, key, key]
  by_cases q : b = v.2.1
  · subst q
    have a0 : (addS v a c n r).2.2.2.2 v.2.1 0 = a := by show (if v.2.1 = v.2.1 then _ else _) = _; rw [if_pos rfl]; rfl
    have a1 : (addS v a c n r).2.2.2.2 v.2.1 1 = c := by show (if v.2.1 = v.2.1 then _ else _) = _; rw [if_pos rfl]; rfl
    have a2 : (addS v a c n r).2.2.2.2 v.2.1 2 = n := by show (if v.2.1 = v.2.1 then _ else _) = _; rw [if_pos rfl]; rfl
    have a3 : (addS v a c n r).2.2.2.2 v.2.1 3 = r := by show (if v.2.1 = v.2.1 then _ else _) = _; rw [if_pos rfl]; rfl
    have a4 : (addS v a c n r).2.2.2.2 v.2.1 4 = -1 := by show (if v.2.1 = v.2.1 then _ else _) = _; rw [if_pos rfl]; rfl
    rw [a0, a1, a2, a3, a4]
    refine ⟨?_, ?_, ?_, ?_, ?_⟩ <;> simp [rA, rAi]
  · have hb : ∀ j, (addS v a c n r).2.2.2.2 b j = v.2.2.2.2 b j := fun j => if_neg q
    have hz : ¬ zi b = zi v.2.1 := fun e => q (zi_inj e (by omega) (by omega))
    obtain ⟨e0, e1, e2, e3, e4⟩ := M.2.2.2.2 b b0 (by omega)
    rw [hb, hb, hb, hb, hb]
    refine ⟨?_, ?_, ?_, ?_, ?_⟩ <;> simp [rA, rAi, hz] <;> assumption
/-- the number of a cap, on both sides -/
theorem cap_of {c n : Int} (hc : 0 ≤ c ∧ c ≤ 3) (hn : -2147483648 ≤ n ∧ n < 2147483648) : (F_Bs_isNumberOfCap (zi c) (zi n) = zi 1 ∧ (0 ≤ n ∧ n ≤ 9) ∧ (c = 1 → n ≤ 3) ∧ (c = 2 → 1 ≤ n) ∧ ((c = 1 ∧ F_M_within (zi n) (zi 0) (zi 3) = zi 1) ∨ (c = 2 ∧ F_M_within (zi n) (zi 1) (zi 9) = zi 1) ∨ (c ≠ 1 ∧ c ≠ 2 ∧ n = 0))) ∨ (F_Bs_isNumberOfCap (zi c) (zi n) = zi 0 ∧ ((c = 1 ∧ F_M_within (zi n) (zi 0) (zi 3) = zi 0) ∨ (c = 2 ∧ F_M_within (zi n) (zi 1) (zi 9) = zi 0) ∨ (c ≠ 1 ∧ c ≠ 2 ∧ n ≠ 0))) := by
  by_cases c1 : c = 1
  · by_cases q : n < 0
    · right; refine ⟨?_, Or.inl ⟨c1, ?_⟩⟩
      · simp (disch := omega) only [F_Bs_isNumberOfCap, ↓reduceIte, inb, zl, zi_add, zi_sub, zi_mul, zi_neg, zi_le_t, zi_le_f, zi_lt_t, zi_lt_f, zi_eq_t, zi_eq_f, if_true, if_false, ite_true, ite_false, true_and, and_true, false_and, and_false, not_true_eq_false, not_false_eq_true, true_or, or_true, false_or, or_false, and_self, ge_iff_le, gt_iff_lt]
      · simp (disch := omega) only [F_M_within, ↓reduceIte, inb, zl, zi_add, zi_sub, zi_mul, zi_neg, zi_le_t, zi_le_f, zi_lt_t, zi_lt_f, zi_eq_t, zi_eq_f, if_true, if_false, ite_true, ite_false, true_and, and_true, false_and, and_false, not_true_eq_false, not_false_eq_true, true_or, or_true, false_or, or_false, and_self, ge_iff_le, gt_iff_lt]
    · by_cases q2 : 3 < n
      · right; refine ⟨?_, Or.inl ⟨c1, ?_⟩⟩
        · simp (disch := omega) only [F_Bs_isNumberOfCap, ↓reduceIte, inb, zl, zi_add, zi_sub, zi_mul, zi_neg, zi_le_t, zi_le_f, zi_lt_t, zi_lt_f, zi_eq_t, zi_eq_f, if_true, if_false, ite_true, ite_false, true_and, and_true, false_and, and_false, not_true_eq_false, not_false_eq_true, true_or, or_true, false_or, or_false, and_self, ge_iff_le, gt_iff_lt]
        · simp (disch := omega) only [F_M_within, ↓reduceIte, inb, zl, zi_add, zi_sub, zi_mul, zi_neg, zi_le_t, zi_le_f, zi_lt_t, zi_lt_f, zi_eq_t, zi_eq_f, if_true, if_false, ite_true, ite_false, true_and, and_true, false_and, and_false, not_true_eq_false, not_false_eq_true, true_or, or_true, false_or, or_false, and_self, ge_iff_le, gt_iff_lt]
      · left; refine ⟨?_, by omega, by omega, by omega, Or.inl ⟨c1, ?_⟩⟩
        · simp (disch := omega) only [F_Bs_isNumberOfCap, ↓reduceIte, inb, zl, zi_add, zi_sub, zi_mul, zi_neg, zi_le_t, zi_le_f, zi_lt_t, zi_lt_f, zi_eq_t, zi_eq_f, if_true, if_false, ite_true, ite_false, true_and, and_true, false_and, and_false, not_true_eq_false, not_false_eq_true, true_or, or_true, false_or, or_false, and_self, ge_iff_le, gt_iff_lt]
        · simp (disch := omega) only [F_M_within, ↓reduceIte, inb, zl, zi_add, zi_sub, zi_mul, zi_neg, zi_le_t, zi_le_f, zi_lt_t, zi_lt_f, zi_eq_t, zi_eq_f, if_true, if_false, ite_true, ite_false, true_and, and_true, false_and, and_false, not_true_eq_false, not_false_eq_true, true_or, or_true, false_or, or_false, and_self, ge_iff_le, gt_iff_lt]
  · by_cases c2 : c = 2
    · by_cases q : n < 1
      · right; refine ⟨?_, Or.inr (Or.inl ⟨c2, ?_⟩)⟩
        · simp (disch := omega) only [F_Bs_isNumberOfCap, ↓reduceIte, inb, zl, zi_add, zi_sub, zi_mul, zi_neg, zi_le_t, zi_le_f, zi_lt_t, zi_lt_f, zi_eq_t, zi_eq_f, if_true, if_false, ite_true, ite_false, true_and, and_true, false_and, and_false, not_true_eq_false, not_false_eq_true, true_or, or_true, false_or, or_false, and_self, ge_iff_le, gt_iff_lt]
        · simp (disch := omega) only [F_M_within, ↓reduceIte, inb, zl, zi_add, zi_sub, zi_mul, zi_neg, zi_le_t, zi_le_f, zi_lt_t, zi_lt_f, zi_eq_t, zi_eq_f, if_true, if_false, ite_true, ite_false, true_and, and_true, false_and, and_false, not_true_eq_false, not_false_eq_true, true_or, or_true, false_or, or_false, and_self, ge_iff_le, gt_iff_lt]
      · by_cases q2 : 9 < n
        · right; refine ⟨?_, Or.inr (Or.inl ⟨c2, ?_⟩)⟩
          · simp (disch := omega) only [F_Bs_isNumberOfCap, ↓reduceIte, inb, zl, zi_add, zi_sub, zi_mul, zi_neg, zi_le_t, zi_le_f, zi_lt_t, zi_lt_f, zi_eq_t, zi_eq_f, if_true, if_false, ite_true, ite_false, true_and, and_true, false_and, and_false, not_true_eq_false, not_false_eq_true, true_or, or_true, false_or, or_false, and_self, ge_iff_le, gt_iff_lt]
          · simp (disch := omega) only [F_M_within, ↓reduceIte, inb, zl, zi_add, zi_sub, zi_mul, zi_neg, zi_le_t, zi_le_f, zi_lt_t, zi_lt_f, zi_eq_t, zi_eq_f, if_true, if_false, ite_true, ite_false, true_and, and_true, false_and, and_false, not_true_eq_false, not_false_eq_true, true_or, or_true, false_or, or_false, and_self, ge_iff_le, gt_iff_lt]
        · left; refine ⟨?_, by omega, by omega, by omega, Or.inr (Or.inl ⟨c2, ?_⟩)⟩
          · simp (disch := omega) only [F_Bs_isNumberOfCap, ↓reduceIte, inb, zl, zi_add, zi_sub, zi_mul, zi_neg, zi_le_t, zi_le_f, zi_lt_t, zi_lt_f, zi_eq_t, zi_eq_f, if_true, if_false, ite_true, ite_false, true_and, and_true, false_and, and_false, not_true_eq_false, not_false_eq_true, true_or, or_true, false_or, or_false, and_self, ge_iff_le, gt_iff_lt]
          · simp (disch := omega) only [F_M_within, ↓reduceIte, inb, zl, zi_add, zi_sub, zi_mul, zi_neg, zi_le_t, zi_le_f, zi_lt_t, zi_lt_f, zi_eq_t, zi_eq_f, if_true, if_false, ite_true, ite_false, true_and, and_true, false_and, and_false, not_true_eq_false, not_false_eq_true, true_or, or_true, false_or, or_false, and_self, ge_iff_le, gt_iff_lt]
    · by_cases q : n = 0
      · left; refine ⟨?_, by omega, by omega, by omega, Or.inr (Or.inr ⟨c1, c2, q⟩)⟩
        simp (disch := omega) only [F_Bs_isNumberOfCap, ↓reduceIte, inb, zl, zi_add, zi_sub, zi_mul, zi_neg, zi_le_t, zi_le_f, zi_lt_t, zi_lt_f, zi_eq_t, zi_eq_f, if_true, if_false, ite_true, ite_false, true_and, and_true, false_and, and_false, not_true_eq_false, not_false_eq_true, true_or, or_true, false_or, or_false, and_self, ge_iff_le, gt_iff_lt]
      · right; refine ⟨?_, Or.inr (Or.inr ⟨c1, c2, q⟩)⟩
        simp (disch := omega) only [F_Bs_isNumberOfCap, ↓reduceIte, inb, zl, zi_add, zi_sub, zi_mul, zi_neg, zi_le_t, zi_le_f, zi_lt_t, zi_lt_f, zi_eq_t, zi_eq_f, if_true, if_false, ite_true, ite_false, true_and, and_true, false_and, and_false, not_true_eq_false, not_false_eq_true, true_or, or_true, false_or, or_false, and_self, ge_iff_le, gt_iff_lt]
theorem m_cueY {a c n r : Int} {δ' : Dl} (ha : 0 ≤ a ∧ a ≤ 2) (hc : 0 ≤ c ∧ c ≤ 3) (h : (c = 1 ∧ F_M_within (zi n) (zi 0) (zi 3) = zi 1) ∨ (c = 2 ∧ F_M_within (zi n) (zi 1) (zi 9) = zi 1) ∨ (c ≠ 1 ∧ c ≠ 2 ∧ n = 0)) : F_M_cue (zi a) (zi c) (zi n) (zi r) δ' = F_M_cue_64 (zi a) (zi c) (zi n) (zi r) (zi 1) δ' := by
  have w1 : F_M_within (zi a) (zi 0) (zi 2) = zi 1 := by simp (disch := omega) only [F_M_within, ↓reduceIte, inb, zl, zi_add, zi_sub, zi_mul, zi_neg, zi_le_t, zi_le_f, zi_lt_t, zi_lt_f, zi_eq_t, zi_eq_f, if_true, if_false, ite_true, ite_false, true_and, and_true, false_and, and_false, not_true_eq_false, not_false_eq_true, true_or, or_true, false_or, or_false, and_self, ge_iff_le, gt_iff_lt]
  have w2 : F_M_within (zi c) (zi 0) (zi 3) = zi 1 := by simp (disch := omega) only [F_M_within, ↓reduceIte, inb, zl, zi_add, zi_sub, zi_mul, zi_neg, zi_le_t, zi_le_f, zi_lt_t, zi_lt_f, zi_eq_t, zi_eq_f, if_true, if_false, ite_true, ite_false, true_and, and_true, false_and, and_false, not_true_eq_false, not_false_eq_true, true_or, or_true, false_or, or_false, and_self, ge_iff_le, gt_iff_lt]
  rcases h with ⟨h1, h2⟩ | ⟨h1, h2⟩ | ⟨h1, h2, h3⟩
  · simp (disch := omega) only [F_M_cue, F_M_cue_59, ↓bnd_eq, bd2, bn2, Option.bind_some, Option.bind_none, w1, w2, h2, ↓reduceIte, inb, zl, zi_add, zi_sub, zi_mul, zi_neg, zi_le_t, zi_le_f, zi_lt_t, zi_lt_f, zi_eq_t, zi_eq_f, if_true, if_false, ite_true, ite_false, true_and, and_true, false_and, and_false, not_true_eq_false, not_false_eq_true, true_or, or_true, false_or, or_false, and_self, ge_iff_le, gt_iff_lt]
  · simp (disch := omega) only [F_M_cue, F_M_cue_59, ↓bnd_eq, bd2, bn2, Option.bind_some, Option.bind_none, w1, w2, h2, ↓reduceIte, inb, zl, zi_add, zi_sub, zi_mul, zi_neg, zi_le_t, zi_le_f, zi_lt_t, zi_lt_f, zi_eq_t, zi_eq_f, if_true, if_false, ite_true, ite_false, true_and, and_true, false_and, and_false, not_true_eq_false, not_false_eq_true, true_or, or_true, false_or, or_false, and_self, ge_iff_le, gt_iff_lt]
  · simp (disch := omega) only [F_M_cue, F_M_cue_59, ↓bnd_eq, bd2, bn2, Option.bind_some, Option.bind_none, w1, w2, ↓reduceIte, inb, zl, zi_add, zi_sub, zi_mul, zi_neg, zi_le_t, zi_le_f, zi_lt_t, zi_lt_f, zi_eq_t, zi_eq_f, if_true, if_false, ite_true, ite_false, true_and, and_true, false_and, and_false, not_true_eq_false, not_false_eq_true, true_or, or_true, false_or, or_false, and_self, ge_iff_le, gt_iff_lt]
theorem m_cueN {a c n r : Int} {δ' : Dl} (ha : 0 ≤ a ∧ a ≤ 2) (hc : 0 ≤ c ∧ c ≤ 3) (hn : -2147483648 ≤ n ∧ n < 2147483648) (h : (c = 1 ∧ F_M_within (zi n) (zi 0) (zi 3) = zi 0) ∨ (c = 2 ∧ F_M_within (zi n) (zi 1) (zi 9) = zi 0) ∨ (c ≠ 1 ∧ c ≠ 2 ∧ n ≠ 0)) : F_M_cue (zi a) (zi c) (zi n) (zi r) δ' = some (zi (-2), δ') := by
  have w1 : F_M_within (zi a) (zi 0) (zi 2) = zi 1 := by simp (disch := omega) only [F_M_within, ↓reduceIte, inb, zl, zi_add, zi_sub, zi_mul, zi_neg, zi_le_t, zi_le_f, zi_lt_t, zi_lt_f, zi_eq_t, zi_eq_f, if_true, if_false, ite_true, ite_false, true_and, and_true, false_and, and_false, not_true_eq_false, not_false_eq_true, true_or, or_true, false_or, or_false, and_self, ge_iff_le, gt_iff_lt]
  have w2 : F_M_within (zi c) (zi 0) (zi 3) = zi 1 := by simp (disch := omega) only [F_M_within, ↓reduceIte, inb, zl, zi_add, zi_sub, zi_mul, zi_neg, zi_le_t, zi_le_f, zi_lt_t, zi_lt_f, zi_eq_t, zi_eq_f, if_true, if_false, ite_true, ite_false, true_and, and_true, false_and, and_false, not_true_eq_false, not_false_eq_true, true_or, or_true, false_or, or_false, and_self, ge_iff_le, gt_iff_lt]
  rcases h with ⟨h1, h2⟩ | ⟨h1, h2⟩ | ⟨h1, h2, h3⟩
  · simp (disch := omega) only [F_M_cue, F_M_cue_63, F_M_cue_64, ↓bnd_eq, bd2, bn2, Option.bind_some, Option.bind_none, w1, w2, h2, ↓reduceIte, inb, zl, zi_add, zi_sub, zi_mul, zi_neg, zi_le_t, zi_le_f, zi_lt_t, zi_lt_f, zi_eq_t, zi_eq_f, if_true, if_false, ite_true, ite_false, true_and, and_true, false_and, and_false, not_true_eq_false, not_false_eq_true, true_or, or_true, false_or, or_false, and_self, ge_iff_le, gt_iff_lt]
  · simp (disch := omega) only [F_M_cue, F_M_cue_63, F_M_cue_64, ↓bnd_eq, bd2, bn2, Option.bind_some, Option.bind_none, w1, w2, h2, ↓reduceIte, inb, zl, zi_add, zi_sub, zi_mul, zi_neg, zi_le_t, zi_le_f, zi_lt_t, zi_lt_f, zi_eq_t, zi_eq_f, if_true, if_false, ite_true, ite_false, true_and, and_true, false_and, and_false, not_true_eq_false, not_false_eq_true, true_or, or_true, false_or, or_false, and_self, ge_iff_le, gt_iff_lt]
  · simp (disch := omega) only [F_M_cue, F_M_cue_63, F_M_cue_64, ↓bnd_eq, bd2, bn2, Option.bind_some, Option.bind_none, w1, w2, ↓reduceIte, inb, zl, zi_add, zi_sub, zi_mul, zi_neg, zi_le_t, zi_le_f, zi_lt_t, zi_lt_f, zi_eq_t, zi_eq_f, if_true, if_false, ite_true, ite_false, true_and, and_true, false_and, and_false, not_true_eq_false, not_false_eq_true, true_or, or_true, false_or, or_false, and_self, ge_iff_le, gt_iff_lt]
end AS
theorem st_cue (x1 x2 x3 x4 : Int32) : S2 INV (F_Bs_cue x1 x2 x3 x4) (F_M_cue x1 x2 x3 x4) := by
  intro δ I
  obtain ⟨⟨v, g, h1, h2, h4⟩, ⟨kn, gk, h3⟩, hr⟩ := id I
  obtain ⟨W, C, M⟩ := id h1
  have hM := W.2.1
  obtain ⟨a, rfl, ha⟩ := zi_ex x1
  obtain ⟨c, rfl, hc⟩ := zi_ex x2
  obtain ⟨n, rfl, hn⟩ := zi_ex x3
  obtain ⟨r, rfl, hr4⟩ := zi_ex x4
  by_cases qa : 0 ≤ a ∧ a ≤ 2
  · have w1 : F_M_within (zi a) (zi 0) (zi 2) = zi 1 := by simp (disch := omega) only [F_M_within, ↓reduceIte, inb, zl, zi_add, zi_sub, zi_mul, zi_neg, zi_le_t, zi_le_f, zi_lt_t, zi_lt_f, zi_eq_t, zi_eq_f, if_true, if_false, ite_true, ite_false, true_and, and_true, false_and, and_false, not_true_eq_false, not_false_eq_true, true_or, or_true, false_or, or_false, and_self, ge_iff_le, gt_iff_lt]
    by_cases qc : 0 ≤ c ∧ c ≤ 3
    · rcases cap_of qc hn with ⟨a1, a2, a3, a4, a5⟩ | ⟨a1, a5⟩
      · have my := fun δ' => m_cueY (r := r) (δ' := δ') qa qc a5
        by_cases qr : 0 ≤ r ∧ r ≤ 1
        · have cq : F_Bs_cue (zi a) (zi c) (zi n) (zi r) δ = F_Bs_cue_45 (zi a) (zi c) (zi n) (zi r) δ := by
            rcases (show r = 0 ∨ r = 1 by omega) with rfl | rfl
            · simp (disch := omega) only [F_Bs_cue, ↓bnd_eq, bd2, bn2, Option.bind_some, Option.bind_none, a1, ↓reduceIte, inb, zl, zi_add, zi_sub, zi_mul, zi_neg, zi_le_t, zi_le_f, zi_lt_t, zi_lt_f, zi_eq_t, zi_eq_f, if_true, if_false, ite_true, ite_false, true_and, and_true, false_and, and_false, not_true_eq_false, not_false_eq_true, true_or, or_true, false_or, or_false, and_self, ge_iff_le, gt_iff_lt]
            · simp (disch := omega) only [F_Bs_cue, ↓bnd_eq, bd2, bn2, Option.bind_some, Option.bind_none, a1, ↓reduceIte, inb, zl, zi_add, zi_sub, zi_mul, zi_neg, zi_le_t, zi_le_f, zi_lt_t, zi_lt_f, zi_eq_t, zi_eq_f, if_true, if_false, ite_true, ite_false, true_and, and_true, false_and, and_false, not_true_eq_false, not_false_eq_true, true_or, or_true, false_or, or_false, and_self, ge_iff_le, gt_iff_lt]
          by_cases qn : v.2.1 < 6
          · have C0 : CP 1 (sI δ 42 8 (zi 0)) v := C
            obtain ⟨d1, e1, C1, F1⟩ := c_adds (a := a) (c := c) (n := n) (r := r) C0 ⟨hM.1, qn⟩
            have M1 : MP d1 v := MP.fr (δ := sI δ 42 8 (zi 0)) M F1 (fun f q1 q2 e => absurd e.1 (by decide))
            obtain ⟨d2, e2, M2, F2⟩ := m_adds (a := a) (c := c) (n := n) (r := r) M1 ⟨hM.1, qn⟩ qr
            have C2 : CP 1 d2 (addS v a c n r) := C1.fr F2 (fun f q1 q2 e => absurd e.1 (by decide))
            have F : Fr SPr δ (sI d2 152 23 (zi (-1))) := (((Fr.rf.sI (Or.inr (Or.inl ⟨rfl, rfl⟩))).tr (frPa F1)).tr (frMa F2)).sI (Or.inr (Or.inr ⟨rfl, Or.inr rfl⟩))
            refine ⟨zi v.2.1, d1, sI d2 152 23 (zi (-1)), ?_, ?_, INV.prog h2 h3 hr F ⟨W.adds qn qa qc a2 a3 a4 qr, C2, M2⟩ ?_ sI_at, by show d2.2.2 102 0 = _; rw [F2.1, F1.1]; rfl⟩
            · rw [cq]
              simp only [F_Bs_cue_45, zl, zi_add, zi_sub, zi_mul, zi_neg]
              simp (disch := omega) only [↓bnd_eq, bd2, bn2, Option.bind_some, Option.bind_none, C.2.1, ↓b2e e1, ↓reduceIte, inb, zl, zi_add, zi_sub, zi_mul, zi_neg, zi_le_t, zi_le_f, zi_lt_t, zi_lt_f, zi_eq_t, zi_eq_f, if_true, if_false, ite_true, ite_false, true_and, and_true, false_and, and_false, not_true_eq_false, not_false_eq_true, true_or, or_true, false_or, or_false, and_self, ge_iff_le, gt_iff_lt]
            · rw [my]; exact e2
            · show d2.1 42 8 = zi 0
              rw [(F2.2 42 8 (fun e => absurd e.1 (by decide))).1, (F1.2 42 8 (fun e => absurd e.1 (by decide))).1, sI_at]
          · have q30 : v.2.1 = 6 := by have := hM.2; omega
            have mw : F_M_within (zi r) (zi 0) (zi 1) = zi 1 := by simp (disch := omega) only [F_M_within, ↓reduceIte, inb, zl, zi_add, zi_sub, zi_mul, zi_neg, zi_le_t, zi_le_f, zi_lt_t, zi_lt_f, zi_eq_t, zi_eq_f, if_true, if_false, ite_true, ite_false, true_and, and_true, false_and, and_false, not_true_eq_false, not_false_eq_true, true_or, or_true, false_or, or_false, and_self, ge_iff_le, gt_iff_lt]
            have m0 := M.2.1
            refine ⟨zi (-4), δ, δ, ?_, ?_, I, rfl⟩
            · rw [cq]
              simp (disch := omega) only [F_Bs_cue_45, ↓bnd_eq, bd2, bn2, Option.bind_some, Option.bind_none, C.2.1, ↓reduceIte, inb, zl, zi_add, zi_sub, zi_mul, zi_neg, zi_le_t, zi_le_f, zi_lt_t, zi_lt_f, zi_eq_t, zi_eq_f, if_true, if_false, ite_true, ite_false, true_and, and_true, false_and, and_false, not_true_eq_false, not_false_eq_true, true_or, or_true, false_or, or_false, and_self, ge_iff_le, gt_iff_lt]
            · rw [my]
              simp (disch := omega) only [F_M_cue_64, ↓bnd_eq, bd2, bn2, Option.bind_some, Option.bind_none, mw, m0, ↓reduceIte, inb, zl, zi_add, zi_sub, zi_mul, zi_neg, zi_le_t, zi_le_f, zi_lt_t, zi_lt_f, zi_eq_t, zi_eq_f, if_true, if_false, ite_true, ite_false, true_and, and_true, false_and, and_false, not_true_eq_false, not_false_eq_true, true_or, or_true, false_or, or_false, and_self, ge_iff_le, gt_iff_lt]
        · have mw : F_M_within (zi r) (zi 0) (zi 1) = zi 0 := by
            by_cases q0 : r < 0
            · simp (disch := omega) only [F_M_within, ↓reduceIte, inb, zl, zi_add, zi_sub, zi_mul, zi_neg, zi_le_t, zi_le_f, zi_lt_t, zi_lt_f, zi_eq_t, zi_eq_f, if_true, if_false, ite_true, ite_false, true_and, and_true, false_and, and_false, not_true_eq_false, not_false_eq_true, true_or, or_true, false_or, or_false, and_self, ge_iff_le, gt_iff_lt]
            · simp (disch := omega) only [F_M_within, ↓reduceIte, inb, zl, zi_add, zi_sub, zi_mul, zi_neg, zi_le_t, zi_le_f, zi_lt_t, zi_lt_f, zi_eq_t, zi_eq_f, if_true, if_false, ite_true, ite_false, true_and, and_true, false_and, and_false, not_true_eq_false, not_false_eq_true, true_or, or_true, false_or, or_false, and_self, ge_iff_le, gt_iff_lt]
          refine ⟨zi (-2), δ, δ, ?_, ?_, I, rfl⟩
          · simp (disch := omega) only [F_Bs_cue, ↓bnd_eq, bd2, bn2, Option.bind_some, Option.bind_none, a1, ↓reduceIte, inb, zl, zi_add, zi_sub, zi_mul, zi_neg, zi_le_t, zi_le_f, zi_lt_t, zi_lt_f, zi_eq_t, zi_eq_f, if_true, if_false, ite_true, ite_false, true_and, and_true, false_and, and_false, not_true_eq_false, not_false_eq_true, true_or, or_true, false_or, or_false, and_self, ge_iff_le, gt_iff_lt]
          · rw [my]
            simp (disch := omega) only [F_M_cue_64, ↓bnd_eq, bd2, bn2, Option.bind_some, Option.bind_none, mw, ↓reduceIte, inb, zl, zi_add, zi_sub, zi_mul, zi_neg, zi_le_t, zi_le_f, zi_lt_t, zi_lt_f, zi_eq_t, zi_eq_f, if_true, if_false, ite_true, ite_false, true_and, and_true, false_and, and_false, not_true_eq_false, not_false_eq_true, true_or, or_true, false_or, or_false, and_self, ge_iff_le, gt_iff_lt]
      · refine ⟨zi (-2), δ, δ, ?_, m_cueN qa qc hn a5, I, rfl⟩
        simp (disch := omega) only [F_Bs_cue, ↓bnd_eq, bd2, bn2, Option.bind_some, Option.bind_none, a1, ↓reduceIte, inb, zl, zi_add, zi_sub, zi_mul, zi_neg, zi_le_t, zi_le_f, zi_lt_t, zi_lt_f, zi_eq_t, zi_eq_f, if_true, if_false, ite_true, ite_false, true_and, and_true, false_and, and_false, not_true_eq_false, not_false_eq_true, true_or, or_true, false_or, or_false, and_self, ge_iff_le, gt_iff_lt]
    · refine ⟨zi (-2), δ, δ, ?_, ?_, I, rfl⟩
      · by_cases q0 : c < 0
        · simp (disch := omega) only [F_Bs_cue, ↓reduceIte, inb, zl, zi_add, zi_sub, zi_mul, zi_neg, zi_le_t, zi_le_f, zi_lt_t, zi_lt_f, zi_eq_t, zi_eq_f, if_true, if_false, ite_true, ite_false, true_and, and_true, false_and, and_false, not_true_eq_false, not_false_eq_true, true_or, or_true, false_or, or_false, and_self, ge_iff_le, gt_iff_lt]
        · simp (disch := omega) only [F_Bs_cue, ↓reduceIte, inb, zl, zi_add, zi_sub, zi_mul, zi_neg, zi_le_t, zi_le_f, zi_lt_t, zi_lt_f, zi_eq_t, zi_eq_f, if_true, if_false, ite_true, ite_false, true_and, and_true, false_and, and_false, not_true_eq_false, not_false_eq_true, true_or, or_true, false_or, or_false, and_self, ge_iff_le, gt_iff_lt]
      · have w2 : F_M_within (zi c) (zi 0) (zi 3) = zi 0 := by
          by_cases q0 : c < 0
          · simp (disch := omega) only [F_M_within, ↓reduceIte, inb, zl, zi_add, zi_sub, zi_mul, zi_neg, zi_le_t, zi_le_f, zi_lt_t, zi_lt_f, zi_eq_t, zi_eq_f, if_true, if_false, ite_true, ite_false, true_and, and_true, false_and, and_false, not_true_eq_false, not_false_eq_true, true_or, or_true, false_or, or_false, and_self, ge_iff_le, gt_iff_lt]
          · simp (disch := omega) only [F_M_within, ↓reduceIte, inb, zl, zi_add, zi_sub, zi_mul, zi_neg, zi_le_t, zi_le_f, zi_lt_t, zi_lt_f, zi_eq_t, zi_eq_f, if_true, if_false, ite_true, ite_false, true_and, and_true, false_and, and_false, not_true_eq_false, not_false_eq_true, true_or, or_true, false_or, or_false, and_self, ge_iff_le, gt_iff_lt]
        simp (disch := omega) only [F_M_cue, F_M_cue_63, F_M_cue_64, ↓bnd_eq, bd2, bn2, Option.bind_some, Option.bind_none, w1, w2, ↓reduceIte, inb, zl, zi_add, zi_sub, zi_mul, zi_neg, zi_le_t, zi_le_f, zi_lt_t, zi_lt_f, zi_eq_t, zi_eq_f, if_true, if_false, ite_true, ite_false, true_and, and_true, false_and, and_false, not_true_eq_false, not_false_eq_true, true_or, or_true, false_or, or_false, and_self, ge_iff_le, gt_iff_lt]
  · refine ⟨zi (-1), δ, δ, ?_, ?_, I, rfl⟩
    · by_cases q0 : a < 0
      · simp (disch := omega) only [F_Bs_cue, ↓reduceIte, inb, zl, zi_add, zi_sub, zi_mul, zi_neg, zi_le_t, zi_le_f, zi_lt_t, zi_lt_f, zi_eq_t, zi_eq_f, if_true, if_false, ite_true, ite_false, true_and, and_true, false_and, and_false, not_true_eq_false, not_false_eq_true, true_or, or_true, false_or, or_false, and_self, ge_iff_le, gt_iff_lt]
      · simp (disch := omega) only [F_Bs_cue, ↓reduceIte, inb, zl, zi_add, zi_sub, zi_mul, zi_neg, zi_le_t, zi_le_f, zi_lt_t, zi_lt_f, zi_eq_t, zi_eq_f, if_true, if_false, ite_true, ite_false, true_and, and_true, false_and, and_false, not_true_eq_false, not_false_eq_true, true_or, or_true, false_or, or_false, and_self, ge_iff_le, gt_iff_lt]
    · by_cases q0 : a < 0
      · simp (disch := omega) only [F_M_cue, F_M_within, ↓bnd_eq, bd2, bn2, Option.bind_some, Option.bind_none, ↓reduceIte, inb, zl, zi_add, zi_sub, zi_mul, zi_neg, zi_le_t, zi_le_f, zi_lt_t, zi_lt_f, zi_eq_t, zi_eq_f, if_true, if_false, ite_true, ite_false, true_and, and_true, false_and, and_false, not_true_eq_false, not_false_eq_true, true_or, or_true, false_or, or_false, and_self, ge_iff_le, gt_iff_lt]
      · simp (disch := omega) only [F_M_cue, F_M_within, ↓bnd_eq, bd2, bn2, Option.bind_some, Option.bind_none, ↓reduceIte, inb, zl, zi_add, zi_sub, zi_mul, zi_neg, zi_le_t, zi_le_f, zi_lt_t, zi_lt_f, zi_eq_t, zi_eq_f, if_true, if_false, ite_true, ite_false, true_and, and_true, false_and, and_false, not_true_eq_false, not_false_eq_true, true_or, or_true, false_or, or_false, and_self, ge_iff_le, gt_iff_lt]
