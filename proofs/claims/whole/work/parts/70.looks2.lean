/-! the reference looks at all parts (wip/whole/pure) -/
theorem m_looks {δ : Dl} {n x t : Int} {wh o r L : Int → Int} (hn : 0 ≤ n ∧ n ≤ 4) (hx : 0 ≤ x ∧ x ≤ 40) (ht : 0 ≤ t ∧ t ≤ 40) (e155 : δ.1 155 23 = zi n) (e132 : δ.1 132 23 = zi t)
    (hwh : ∀ i, 0 ≤ i → i < n → (0 ≤ wh i ∧ wh i ≤ 3) ∧ (o i = 0 ∨ o i = 1) ∧ (r i = 0 ∨ r i = 1) ∧ (-1 ≤ L i ∧ L i ≤ 40) ∧ δ.2.1 156 23 (zi i) = zi (wh i) ∧ δ.2.1 183 23 (zi i) = zi (L i) ∧ δ.2.1 184 23 (zi i) = zi (o i) ∧ F_M_holds (zi i) δ = some (zi (r i))) :
    ∃ δ', F_M_looks (zi x) δ = some δ' ∧ Fr S183 δ δ' ∧ ∀ i, 0 ≤ i → i < n → δ'.2.1 183 23 (zi i) = zi (lostN (wh i) (r i) (o i) (L i) t x) ∧ δ'.2.1 184 23 (zi i) = zi (onceN (o i) (r i)) := by
  have key : ∀ (j : Nat) (i : Int) (fu : Nat) (d : Dl), 0 ≤ i → i + j = n → j < fu → Fr S183 δ d → (∀ c, 0 ≤ c → c < i → d.2.1 183 23 (zi c) = zi (lostN (wh c) (r c) (o c) (L c) t x) ∧ d.2.1 184 23 (zi c) = zi (onceN (o c) (r c))) → (∀ c, i ≤ c → c < n → d.2.1 183 23 (zi c) = zi (L c) ∧ d.2.1 184 23 (zi c) = zi (o c)) → ∃ δ', F_M_looks_2 (zi x) fu (zi i) d = some δ' ∧ Fr S183 δ δ' ∧ ∀ c, 0 ≤ c → c < n → δ'.2.1 183 23 (zi c) = zi (lostN (wh c) (r c) (o c) (L c) t x) ∧ δ'.2.1 184 23 (zi c) = zi (onceN (o c) (r c)) := by
    intro j
    induction j with
    | zero =>
      intro i fu d i0 hi hf F h1 h2
      obtain ⟨fu, rfl⟩ : ∃ q, fu = q + 1 := ⟨fu - 1, by omega⟩
      have d155 : d.1 155 23 = zi n := by rw [(F.2 155 23 (fun e => by have : (23 : Nat) = 23 ∧ 183 ≤ 155 ∧ 155 ≤ 184 := e; omega)).1]; exact e155
      refine ⟨d, ?_, F, fun c c0 c1 => h1 c c0 (by omega)⟩
      simp (disch := omega) only [F_M_looks_2, F_M_looks_2_b, d155, ↓reduceIte, inb, zl, zi_add, zi_sub, zi_mul, zi_neg, zi_le_t, zi_le_f, zi_lt_t, zi_lt_f, zi_eq_t, zi_eq_f, if_true, if_false, ite_true, ite_false, true_and, and_true, false_and, and_false, not_true_eq_false, not_false_eq_true, true_or, or_true, false_or, or_false, and_self, ge_iff_le, gt_iff_lt]
    | succ j ih =>
      intro i fu d i0 hi hf F h1 h2
      obtain ⟨fu, rfl⟩ : ∃ q, fu = q + 1 := ⟨fu - 1, by omega⟩
      obtain ⟨w1, w2, w3, w4, w5, w6, w7, w8⟩ := hwh i i0 (by omega)
      have d155 : d.1 155 23 = zi n := by rw [(F.2 155 23 (fun e => by have : (23 : Nat) = 23 ∧ 183 ≤ 155 ∧ 155 ≤ 184 := e; omega)).1]; exact e155
      have d132 : d.1 132 23 = zi t := by rw [(F.2 132 23 (fun e => by have : (23 : Nat) = 23 ∧ 183 ≤ 132 ∧ 132 ≤ 184 := e; omega)).1]; exact e132
      have d156 : d.2.1 156 23 (zi i) = zi (wh i) := by rw [(F.2 156 23 (fun e => by have : (23 : Nat) = 23 ∧ 183 ≤ 156 ∧ 156 ≤ 184 := e; omega)).2]; exact w5
      obtain ⟨p1, p2⟩ := h2 i (Int.le_refl _) (by omega)
      obtain ⟨d1, e1, F1, r1, r2⟩ := m_look1 (k2 := F_M_looks_2 (zi x) fu) hn.2 ⟨i0, by omega⟩ hx ht w1 w2 w3 w4 d155 d132 d156 p1 p2 (by rw [holdsF F]; exact w8)
      obtain ⟨δ', e2, F2, r3⟩ := ih (i + 1) fu d1 (by omega) (by omega) (by omega) (F.tr F1) (fun c c0 c1 => by
        rw [r1 c c0 (by omega), r2 c c0 (by omega)]
        by_cases q : c = i
        · subst q; rw [if_pos rfl, if_pos rfl]; exact ⟨rfl, rfl⟩
        · rw [if_neg q, if_neg q]; exact h1 c c0 (by omega)) (fun c c0 c1 => by
        rw [r1 c (by omega) (by omega), r2 c (by omega) (by omega), if_neg (by omega), if_neg (by omega)]
        exact h2 c (by omega) c1)
      refine ⟨δ', ?_, F2, r3⟩
      rw [← e2, ← e1]
      rfl
  obtain ⟨δ', e, F, h⟩ := key n.toNat 0 FU δ (by omega) (by omega) (by unfold FU; omega) Fr.rf (fun c c0 c1 => by omega) (fun c c0 c1 => ⟨(hwh c c0 c1).2.2.2.2.2.1, (hwh c c0 c1).2.2.2.2.2.2.1⟩)
  refine ⟨δ', ?_, F, h⟩
  unfold F_M_looks
  rw [zl0]
  exact e
