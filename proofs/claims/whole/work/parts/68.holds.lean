/-! what a part of the wish looks at (wip/whole/pure) -/
def cvS (row : Int32 → Int32) : Nat → Int → Int32 → Int32
  | 0, _, u => u
  | n + 1, k, u => cvS row n (k + 1) (if row (zi k) ≤ zi 0 then u else u + row (zi k))
theorem cvS_skip {row : Int32 → Int32} : ∀ (n m : Nat) (k : Int) (u : Int32), (∀ j, k ≤ j → j < k + n → row (zi j) = zi (-1)) → cvS row (n + m) k u = cvS row m (k + n) u := by
  intro n
  induction n with
  | zero => intro m k u h; rw [Nat.zero_add, show k + ((0 : Nat) : Int) = k by omega]
  | succ n ih =>
    intro m k u h
    rw [show n + 1 + m = (n + m) + 1 by omega]
    show cvS row (n + m) (k + 1) (if row (zi k) ≤ zi 0 then u else u + row (zi k)) = _
    rw [h k (by omega) (by omega), if_pos (by decide), ih m (k + 1) u (fun j j0 j1 => h j (by omega) (by omega)), show k + 1 + (n : Int) = k + ((n + 1 : Nat) : Int) by omega]
section HO
variable {s : Nat} {g : SG} {δc δm : Dl} {k : Int}
theorem c_sum : ∀ (n : Nat) (k : Int) (u : Int32) (fu : Nat), 0 ≤ k → k + n = 100 → n < fu → F_St_allThings_4 s fu u (zi k) δc = some (cvS (δc.2.1 73 s) n k u) := by
  intro n
  induction n with
  | zero =>
    intro k u fu k0 hk hf
    obtain ⟨fu, rfl⟩ : ∃ q, fu = q + 1 := ⟨fu - 1, by omega⟩
    have : k = 100 := by omega
    subst this
    simp (disch := omega) only [F_St_allThings_4, F_St_allThings_4_b, cvS, ↓reduceIte, inb, zl, zi_add, zi_sub, zi_mul, zi_neg, zi_le_t, zi_le_f, zi_lt_t, zi_lt_f, zi_eq_t, zi_eq_f, if_true, if_false, ite_true, ite_false, true_and, and_true, false_and, and_false, not_true_eq_false, not_false_eq_true, true_or, or_true, false_or, or_false, and_self, ge_iff_le, gt_iff_lt]
  | succ n ih =>
    intro k u fu k0 hk hf
    obtain ⟨fu, rfl⟩ : ∃ q, fu = q + 1 := ⟨fu - 1, by omega⟩
    show F_St_allThings_4 s (fu + 1) u (zi k) δc = some (cvS (δc.2.1 73 s) n (k + 1) (if δc.2.1 73 s (zi k) ≤ zi 0 then u else u + δc.2.1 73 s (zi k)))
    by_cases q : δc.2.1 73 s (zi k) ≤ zi 0
    · rw [if_pos q, ← ih (k + 1) u fu (by omega) (by omega) (by omega)]
      simp (disch := omega) only [F_St_allThings_4, F_St_allThings_4_b, F_St_allThings_31, q, ↓reduceIte, inb, zl, zi_add, zi_sub, zi_mul, zi_neg, zi_le_t, zi_le_f, zi_lt_t, zi_lt_f, zi_eq_t, zi_eq_f, if_true, if_false, ite_true, ite_false, true_and, and_true, false_and, and_false, not_true_eq_false, not_false_eq_true, true_or, or_true, false_or, or_false, and_self, ge_iff_le, gt_iff_lt]
    · rw [if_neg q, ← ih (k + 1) (u + δc.2.1 73 s (zi k)) fu (by omega) (by omega) (by omega)]
      simp (disch := omega) only [F_St_allThings_4, F_St_allThings_4_b, F_St_allThings_31, q, ↓reduceIte, inb, zl, zi_add, zi_sub, zi_mul, zi_neg, zi_le_t, zi_le_f, zi_lt_t, zi_lt_f, zi_eq_t, zi_eq_f, if_true, if_false, ite_true, ite_false, true_and, and_true, false_and, and_false, not_true_eq_false, not_false_eq_true, true_or, or_true, false_or, or_false, and_self, ge_iff_le, gt_iff_lt]
theorem m_sum_in (wg : WG g) (h : RS s g δc δm) (m : RM k g δm) {y : Int} (hy : 0 ≤ y ∧ y < g.2.1) {k4 : Int32 → Int32 → Dl → Option Int32}
    (cont : ∀ u, k4 u (zi (y + 1)) δm = some (cvS (δc.2.1 73 s) (100 - ((y + 2) * 10 + 1)).toNat ((y + 2) * 10 + 1) u)) :
    ∀ (n : Nat) (x : Int) (u : Int32) (fu : Nat), 0 ≤ x → x ≤ g.1 → (g.1 - x).toNat ≤ n → n < fu → F_M_thingsOf_19 k4 fu u (zi y) (zi x) δm = some (cvS (δc.2.1 73 s) (100 - ((y + 1) * 10 + x + 1)).toNat ((y + 1) * 10 + x + 1) u) := by
  have hw := wg.1
  have hh := wg.2.1
  have hk := m.1
  have done : ∀ (u : Int32) (fu : Nat), 0 < fu → F_M_thingsOf_19 k4 fu u (zi y) (zi (g.1)) δm = some (cvS (δc.2.1 73 s) (100 - ((y + 1) * 10 + g.1 + 1)).toNat ((y + 1) * 10 + g.1 + 1) u) := by
    intro u fu hf
    obtain ⟨fu, rfl⟩ : ∃ q, fu = q + 1 := ⟨fu - 1, by omega⟩
    have sk := cvS_skip (row := δc.2.1 73 s) (10 - g.1).toNat (100 - ((y + 2) * 10 + 1)).toNat ((y + 1) * 10 + g.1 + 1) u (fun j j0 j1 => h.2.2.2.2.1 j (by omega) (by omega) (by unfold bd; omega))
    rw [show (10 - g.1).toNat + (100 - ((y + 2) * 10 + 1)).toNat = (100 - ((y + 1) * 10 + g.1 + 1)).toNat by omega, show (y + 1) * 10 + g.1 + 1 + ((10 - g.1).toNat : Int) = (y + 2) * 10 + 1 by omega] at sk
    rw [sk, ← cont u]
    simp (disch := omega) only [F_M_thingsOf_19, F_M_thingsOf_19_b, m.2.1, m.2.2.1, ↓reduceIte, inb, zl, zi_add, zi_sub, zi_mul, zi_neg, zi_le_t, zi_le_f, zi_lt_t, zi_lt_f, zi_eq_t, zi_eq_f, if_true, if_false, ite_true, ite_false, true_and, and_true, false_and, and_false, not_true_eq_false, not_false_eq_true, true_or, or_true, false_or, or_false, and_self, ge_iff_le, gt_iff_lt]
  intro n
  induction n with
  | zero => intro x u fu i0 i1 hn hf; have : x = g.1 := by omega
            subst this; exact done u fu (by omega)
  | succ n ih =>
    intro x u fu i0 i1 hn hf
    by_cases q : x = g.1
    · subst q; exact done u fu (by omega)
    · obtain ⟨fu, rfl⟩ : ∃ q, fu = q + 1 := ⟨fu - 1, by omega⟩
      have e := h.2.2.2.1 x y i0 (by omega) hy.1 hy.2
      rw [show (100 - ((y + 1) * 10 + x + 1)).toNat = (100 - ((y + 1) * 10 + (x + 1) + 1)).toNat + 1 by omega]
      show _ = some (cvS (δc.2.1 73 s) (100 - ((y + 1) * 10 + (x + 1) + 1)).toNat ((y + 1) * 10 + x + 1 + 1) (if δc.2.1 73 s (zi ((y + 1) * 10 + x + 1)) ≤ zi 0 then u else u + δc.2.1 73 s (zi ((y + 1) * 10 + x + 1))))
      rw [show (y + 1) * 10 + x + 1 + 1 = (y + 1) * 10 + (x + 1) + 1 by omega, e]
      by_cases qv : δm.2.1 133 23 (zi (8 * y + x)) ≤ zi 0
      · rw [if_pos qv, ← ih (x + 1) u fu (by omega) (by omega) (by omega) (by omega)]
        have z : u + zi 0 = u := Int32.add_zero u
        simp (disch := omega) only [F_M_thingsOf_19, F_M_thingsOf_19_b, F_M_thingsOf_62, m.2.1, m.2.2.1, qv, z, ↓reduceIte, inb, zl, zi_add, zi_sub, zi_mul, zi_neg, zi_le_t, zi_le_f, zi_lt_t, zi_lt_f, zi_eq_t, zi_eq_f, if_true, if_false, ite_true, ite_false, true_and, and_true, false_and, and_false, not_true_eq_false, not_false_eq_true, true_or, or_true, false_or, or_false, and_self, ge_iff_le, gt_iff_lt]
      · rw [if_neg qv, ← ih (x + 1) (u + δm.2.1 133 23 (zi (8 * y + x))) fu (by omega) (by omega) (by omega) (by omega)]
        simp (disch := omega) only [F_M_thingsOf_19, F_M_thingsOf_19_b, F_M_thingsOf_62, m.2.1, m.2.2.1, qv, ↓reduceIte, inb, zl, zi_add, zi_sub, zi_mul, zi_neg, zi_le_t, zi_le_f, zi_lt_t, zi_lt_f, zi_eq_t, zi_eq_f, if_true, if_false, ite_true, ite_false, true_and, and_true, false_and, and_false, not_true_eq_false, not_false_eq_true, true_or, or_true, false_or, or_false, and_self, ge_iff_le, gt_iff_lt]
theorem m_sum (wg : WG g) (h : RS s g δc δm) (m : RM k g δm) : ∀ (n : Nat) (y : Int) (u : Int32) (fu : Nat), 0 ≤ y → y ≤ g.2.1 → (g.2.1 - y).toNat ≤ n → n < fu → F_M_thingsOf_4 fu u (zi y) δm = some (cvS (δc.2.1 73 s) (100 - ((y + 1) * 10 + 1)).toNat ((y + 1) * 10 + 1) u) := by
  have hw := wg.1
  have hh := wg.2.1
  have hk := m.1
  have done : ∀ (u : Int32) (fu : Nat), 0 < fu → F_M_thingsOf_4 fu u (zi (g.2.1)) δm = some (cvS (δc.2.1 73 s) (100 - ((g.2.1 + 1) * 10 + 1)).toNat ((g.2.1 + 1) * 10 + 1) u) := by
    intro u fu hf
    obtain ⟨fu, rfl⟩ : ∃ q, fu = q + 1 := ⟨fu - 1, by omega⟩
    have sk := cvS_skip (row := δc.2.1 73 s) (100 - ((g.2.1 + 1) * 10 + 1)).toNat 0 ((g.2.1 + 1) * 10 + 1) u (fun j j0 j1 => h.2.2.2.2.1 j (by omega) (by omega) (by unfold bd; omega))
    rw [Nat.add_zero] at sk
    rw [sk]
    show _ = some u
    simp (disch := omega) only [F_M_thingsOf_4, F_M_thingsOf_4_b, m.2.1, m.2.2.2.1, ↓reduceIte, inb, zl, zi_add, zi_sub, zi_mul, zi_neg, zi_le_t, zi_le_f, zi_lt_t, zi_lt_f, zi_eq_t, zi_eq_f, if_true, if_false, ite_true, ite_false, true_and, and_true, false_and, and_false, not_true_eq_false, not_false_eq_true, true_or, or_true, false_or, or_false, and_self, ge_iff_le, gt_iff_lt]
  intro n
  induction n with
  | zero => intro y u fu i0 i1 hn hf; have : y = g.2.1 := by omega
            subst this; exact done u fu (by omega)
  | succ n ih =>
    intro y u fu i0 i1 hn hf
    by_cases q : y = g.2.1
    · subst q; exact done u fu (by omega)
    · obtain ⟨fu, rfl⟩ : ∃ q, fu = q + 1 := ⟨fu - 1, by omega⟩
      have r := m_sum_in wg h m (y := y) ⟨i0, by omega⟩ (k4 := F_M_thingsOf_4 fu) (fun u => by
        rw [ih (y + 1) u fu (by omega) (by omega) (by omega) (by omega), show y + 1 + 1 = y + 2 by omega]) 8 0 u FU (by omega) (by omega) (by omega) (by unfold FU; omega)
      rw [show (y + 1) * 10 + 0 + 1 = (y + 1) * 10 + 1 by omega] at r
      rw [← r]
      show F_M_thingsOf_4_b (F_M_thingsOf_4 fu) u (zi y) δm = _
      unfold F_M_thingsOf_4_b
      rw [m.2.1, m.2.2.2.1, if_pos (by unfold inb; rw [zl0, show (5 : Int32) = zi 5 from zl 5, zi_le (by omega) (by omega), zi_lt (by omega) (by omega)]; omega), if_neg (by rw [zi_le (by omega) (by omega)]; omega), zl0]
/-- all things on the stage, alike -/
theorem lk_things (wg : WG g) (h : RS s g δc δm) (m : RM k g δm) : ∃ u, F_St_allThings s δc = some u ∧ F_M_thingsOf δm = some u := by
  have hw := wg.1
  have hh := wg.2.1
  have c := c_sum (s := s) (δc := δc) 100 0 (zi 0) FU (by omega) (by omega) (by unfold FU; omega)
  have r := m_sum wg h m 8 0 (zi 0) FU (by omega) (by omega) (by omega) (by unfold FU; omega)
  have sk := cvS_skip (row := δc.2.1 73 s) 11 89 0 (zi 0) (fun j j0 j1 => h.2.2.2.2.1 j (by omega) (by omega) (by unfold bd; omega))
  rw [show (100 - ((0 + 1) * 10 + 1) : Int).toNat = 89 from rfl, show ((0 : Int) + 1) * 10 + 1 = 0 + ((11 : Nat) : Int) from rfl, ← sk] at r
  refine ⟨cvS (δc.2.1 73 s) (11 + 89) 0 (zi 0), ?_, ?_⟩
  · unfold F_St_allThings
    rw [zl0]
    exact c
  · unfold F_M_thingsOf
    rw [zl0]
    exact r
end HO
/-- a part of the wish, the class's side in one state, the reference's in another -/
def WP2 (w : Nat) (δc δm : Dl) (i : Int) : Prop := ∃ wh f x o b : Int, (0 ≤ wh ∧ wh ≤ 3) ∧ (0 ≤ f ∧ f ≤ 6) ∧ (f ≤ 4 → 0 ≤ x ∧ x ≤ 2) ∧ (o = 60 ∨ o = 61 ∨ o = 62) ∧ (-999 ≤ b ∧ b ≤ 999) ∧
  δm.2.1 156 23 (zi i) = zi wh ∧ δm.2.1 157 23 (zi i) = zi (fch f) ∧ δc.2.1 82 w (zi i) = zi f ∧ (f ≤ 4 → δm.2.1 158 23 (zi i) = zi x ∧ δc.2.1 83 w (zi i) = zi x) ∧ δm.2.1 159 23 (zi i) = zi o ∧ δc.2.1 84 w (zi i) = zi o ∧ δm.2.1 160 23 (zi i) = zi b ∧ δc.2.1 85 w (zi i) = zi b
theorem wsr11 : wsr 41 11 = 13 := by decide
section HL
variable {v : PG} {g : SG} {δc δm : Dl} {k t Q : Int} {w : Nat}
theorem lk_sign {i o b : Int} {u : Int32} (hi : 0 ≤ i ∧ i < 4) (ho : o = 60 ∨ o = 61 ∨ o = 62) (e159 : δm.2.1 159 23 (zi i) = zi o) (e84 : δc.2.1 84 w (zi i) = zi o) (e160 : δm.2.1 160 23 (zi i) = zi b) (e85 : δc.2.1 85 w (zi i) = zi b) (ef : F_Wi_fieldIn 11 (δc.2.1 82 w (zi i)) (δc.2.1 83 w (zi i)) δc = some u) :
    ∃ r, (r = zi 0 ∨ r = zi 1) ∧ F_M_holds_187 (zi i) u δm = some r ∧ ∀ k4 so, F_Wi_partsSo_46 w 11 k4 so (zi i) δc = F_Wi_partsSo_140 w 11 k4 so (zi i) r δc := by
  rcases ho with rfl | rfl | rfl
  · by_cases q : zi b ≤ u
    · refine ⟨zi 0, Or.inl rfl, ?_, fun k4 so => ?_⟩
      · simp (disch := omega) only [F_M_holds_187, e159, e160, q, ↓reduceIte, inb, zl, zi_add, zi_sub, zi_mul, zi_neg, zi_le_t, zi_le_f, zi_lt_t, zi_lt_f, zi_eq_t, zi_eq_f, if_true, if_false, ite_true, ite_false, true_and, and_true, false_and, and_false, not_true_eq_false, not_false_eq_true, true_or, or_true, false_or, or_false, and_self, ge_iff_le, gt_iff_lt]
      · simp (disch := omega) only [F_Wi_partsSo_46, ↓bse ef, e84, e85, q, ↓reduceIte, inb, zl, zi_add, zi_sub, zi_mul, zi_neg, zi_le_t, zi_le_f, zi_lt_t, zi_lt_f, zi_eq_t, zi_eq_f, if_true, if_false, ite_true, ite_false, true_and, and_true, false_and, and_false, not_true_eq_false, not_false_eq_true, true_or, or_true, false_or, or_false, and_self, ge_iff_le, gt_iff_lt]
    · refine ⟨zi 1, Or.inr rfl, ?_, fun k4 so => ?_⟩
      · simp (disch := omega) only [F_M_holds_187, e159, e160, q, ↓reduceIte, inb, zl, zi_add, zi_sub, zi_mul, zi_neg, zi_le_t, zi_le_f, zi_lt_t, zi_lt_f, zi_eq_t, zi_eq_f, if_true, if_false, ite_true, ite_false, true_and, and_true, false_and, and_false, not_true_eq_false, not_false_eq_true, true_or, or_true, false_or, or_false, and_self, ge_iff_le, gt_iff_lt]
      · simp (disch := omega) only [F_Wi_partsSo_46, ↓bse ef, e84, e85, q, ↓reduceIte, inb, zl, zi_add, zi_sub, zi_mul, zi_neg, zi_le_t, zi_le_f, zi_lt_t, zi_lt_f, zi_eq_t, zi_eq_f, if_true, if_false, ite_true, ite_false, true_and, and_true, false_and, and_false, not_true_eq_false, not_false_eq_true, true_or, or_true, false_or, or_false, and_self, ge_iff_le, gt_iff_lt]
  · by_cases q : u = zi b
    · refine ⟨zi 1, Or.inr rfl, ?_, fun k4 so => ?_⟩
      · simp (disch := omega) only [F_M_holds_187, e159, e160, q, ↓reduceIte, inb, zl, zi_add, zi_sub, zi_mul, zi_neg, zi_le_t, zi_le_f, zi_lt_t, zi_lt_f, zi_eq_t, zi_eq_f, if_true, if_false, ite_true, ite_false, true_and, and_true, false_and, and_false, not_true_eq_false, not_false_eq_true, true_or, or_true, false_or, or_false, and_self, ge_iff_le, gt_iff_lt]
      · simp (disch := omega) only [F_Wi_partsSo_46, ↓bse ef, e84, e85, q, ↓reduceIte, inb, zl, zi_add, zi_sub, zi_mul, zi_neg, zi_le_t, zi_le_f, zi_lt_t, zi_lt_f, zi_eq_t, zi_eq_f, if_true, if_false, ite_true, ite_false, true_and, and_true, false_and, and_false, not_true_eq_false, not_false_eq_true, true_or, or_true, false_or, or_false, and_self, ge_iff_le, gt_iff_lt]
    · refine ⟨zi 0, Or.inl rfl, ?_, fun k4 so => ?_⟩
      · simp (disch := omega) only [F_M_holds_187, e159, e160, q, ↓reduceIte, inb, zl, zi_add, zi_sub, zi_mul, zi_neg, zi_le_t, zi_le_f, zi_lt_t, zi_lt_f, zi_eq_t, zi_eq_f, if_true, if_false, ite_true, ite_false, true_and, and_true, false_and, and_false, not_true_eq_false, not_false_eq_true, true_or, or_true, false_or, or_false, and_self, ge_iff_le, gt_iff_lt]
      · simp (disch := omega) only [F_Wi_partsSo_46, ↓bse ef, e84, e85, q, ↓reduceIte, inb, zl, zi_add, zi_sub, zi_mul, zi_neg, zi_le_t, zi_le_f, zi_lt_t, zi_lt_f, zi_eq_t, zi_eq_f, if_true, if_false, ite_true, ite_false, true_and, and_true, false_and, and_false, not_true_eq_false, not_false_eq_true, true_or, or_true, false_or, or_false, and_self, ge_iff_le, gt_iff_lt]
  · by_cases q : u ≤ zi b
    · refine ⟨zi 0, Or.inl rfl, ?_, fun k4 so => ?_⟩
      · simp (disch := omega) only [F_M_holds_187, e159, e160, q, ↓reduceIte, inb, zl, zi_add, zi_sub, zi_mul, zi_neg, zi_le_t, zi_le_f, zi_lt_t, zi_lt_f, zi_eq_t, zi_eq_f, if_true, if_false, ite_true, ite_false, true_and, and_true, false_and, and_false, not_true_eq_false, not_false_eq_true, true_or, or_true, false_or, or_false, and_self, ge_iff_le, gt_iff_lt]
      · simp (disch := omega) only [F_Wi_partsSo_46, ↓bse ef, e84, e85, q, ↓reduceIte, inb, zl, zi_add, zi_sub, zi_mul, zi_neg, zi_le_t, zi_le_f, zi_lt_t, zi_lt_f, zi_eq_t, zi_eq_f, if_true, if_false, ite_true, ite_false, true_and, and_true, false_and, and_false, not_true_eq_false, not_false_eq_true, true_or, or_true, false_or, or_false, and_self, ge_iff_le, gt_iff_lt]
    · refine ⟨zi 1, Or.inr rfl, ?_, fun k4 so => ?_⟩
      · simp (disch := omega) only [F_M_holds_187, e159, e160, q, ↓reduceIte, inb, zl, zi_add, zi_sub, zi_mul, zi_neg, zi_le_t, zi_le_f, zi_lt_t, zi_lt_f, zi_eq_t, zi_eq_f, if_true, if_false, ite_true, ite_false, true_and, and_true, false_and, and_false, not_true_eq_false, not_false_eq_true, true_or, or_true, false_or, or_false, and_self, ge_iff_le, gt_iff_lt]
      · simp (disch := omega) only [F_Wi_partsSo_46, ↓bse ef, e84, e85, q, ↓reduceIte, inb, zl, zi_add, zi_sub, zi_mul, zi_neg, zi_le_t, zi_le_f, zi_lt_t, zi_lt_f, zi_eq_t, zi_eq_f, if_true, if_false, ite_true, ite_false, true_and, and_true, false_and, and_false, not_true_eq_false, not_false_eq_true, true_or, or_true, false_or, or_false, and_self, ge_iff_le, gt_iff_lt]
theorem lk_field (wg : WG g) (H : RR0 11 12 13 v g k t Q δc δm) {f x i : Int} {x' : Int32} (hf : 0 ≤ f ∧ f ≤ 6) (hx : f ≤ 4 → (0 ≤ x ∧ x < g.2.2.1) ∧ x' = zi x) : ∃ u, F_Wi_fieldIn 11 (zi f) x' δc = some u ∧ ∀ y : Int32, (f ≤ 4 → y = zi x) → F_M_holds_53 (zi i) (zi (fch f)) y δm = F_M_holds_187 (zi i) u δm := by
  obtain ⟨-, -, m, R, -, ⟨q, hq, -, -, c44, m148, -⟩, -⟩ := H
  have hw := wg.1
  have hh := wg.2.1
  have ha := wg.2.2.1
  by_cases q5 : f = 5
  · subst q5
    obtain ⟨u, u1, u2⟩ := lk_things wg R m
    refine ⟨u, ?_, fun y _ => ?_⟩
    · simp (disch := omega) only [F_Wi_fieldIn, wsr11, ↓bse u1, ↓reduceIte, inb, zl, zi_add, zi_sub, zi_mul, zi_neg, zi_le_t, zi_le_f, zi_lt_t, zi_lt_f, zi_eq_t, zi_eq_f, if_true, if_false, ite_true, ite_false, true_and, and_true, false_and, and_false, not_true_eq_false, not_false_eq_true, true_or, or_true, false_or, or_false, and_self, ge_iff_le, gt_iff_lt]
    · rw [show fch 5 = 103 from rfl]
      simp (disch := omega) only [F_M_holds_53, ↓bse u2, ↓reduceIte, inb, zl, zi_add, zi_sub, zi_mul, zi_neg, zi_le_t, zi_le_f, zi_lt_t, zi_lt_f, zi_eq_t, zi_eq_f, if_true, if_false, ite_true, ite_false, true_and, and_true, false_and, and_false, not_true_eq_false, not_false_eq_true, true_or, or_true, false_or, or_false, and_self, ge_iff_le, gt_iff_lt]
  · by_cases q6 : f = 6
    · subst q6
      refine ⟨zi q, ?_, fun y _ => ?_⟩
      · simp (disch := omega) only [F_Wi_fieldIn, c44, ↓reduceIte, inb, zl, zi_add, zi_sub, zi_mul, zi_neg, zi_le_t, zi_le_f, zi_lt_t, zi_lt_f, zi_eq_t, zi_eq_f, if_true, if_false, ite_true, ite_false, true_and, and_true, false_and, and_false, not_true_eq_false, not_false_eq_true, true_or, or_true, false_or, or_false, and_self, ge_iff_le, gt_iff_lt]
      · rw [show fch 6 = 115 from rfl]
        simp (disch := omega) only [F_M_holds_53, m148, ↓reduceIte, inb, zl, zi_add, zi_sub, zi_mul, zi_neg, zi_le_t, zi_le_f, zi_lt_t, zi_lt_f, zi_eq_t, zi_eq_f, if_true, if_false, ite_true, ite_false, true_and, and_true, false_and, and_false, not_true_eq_false, not_false_eq_true, true_or, or_true, false_or, or_false, and_self, ge_iff_le, gt_iff_lt]
    · obtain ⟨⟨x0, x1⟩, rfl⟩ := hx (by omega)
      obtain ⟨X, Y, d, r, hX, hY, hd, hr, e74, e134, e135, e75, e136, e76, e77, -⟩ := R.2.2.2.2.2 x x0 x1
      have g72 := R.2.2.1
      rcases (show f = 0 ∨ f = 1 ∨ f = 2 ∨ f = 3 ∨ f = 4 by omega) with rfl | rfl | rfl | rfl | rfl
      · refine ⟨zi X, ?_, fun y hy => ?_⟩
        · simp (disch := omega) only [F_Wi_fieldIn, F_St_actorPart, Option.bind_some, wsr11, g72, e74, zi_div, ↓reduceIte, inb, zl, zi_add, zi_sub, zi_mul, zi_neg, zi_le_t, zi_le_f, zi_lt_t, zi_lt_f, zi_eq_t, zi_eq_f, if_true, if_false, ite_true, ite_false, true_and, and_true, false_and, and_false, not_true_eq_false, not_false_eq_true, true_or, or_true, false_or, or_false, and_self, ge_iff_le, gt_iff_lt]
          rw [show (Y + 1) * 10 + X + 1 - ((Y + 1) * 10 + X + 1) / 10 * 10 - 1 = X by omega]
        · rw [show fch 0 = 120 from rfl, hy (by decide)]
          simp (disch := omega) only [F_M_holds_53, e134, ↓reduceIte, inb, zl, zi_add, zi_sub, zi_mul, zi_neg, zi_le_t, zi_le_f, zi_lt_t, zi_lt_f, zi_eq_t, zi_eq_f, if_true, if_false, ite_true, ite_false, true_and, and_true, false_and, and_false, not_true_eq_false, not_false_eq_true, true_or, or_true, false_or, or_false, and_self, ge_iff_le, gt_iff_lt]
      · refine ⟨zi Y, ?_, fun y hy => ?_⟩
        · simp (disch := omega) only [F_Wi_fieldIn, F_St_actorPart, Option.bind_some, wsr11, g72, e74, zi_div, ↓reduceIte, inb, zl, zi_add, zi_sub, zi_mul, zi_neg, zi_le_t, zi_le_f, zi_lt_t, zi_lt_f, zi_eq_t, zi_eq_f, if_true, if_false, ite_true, ite_false, true_and, and_true, false_and, and_false, not_true_eq_false, not_false_eq_true, true_or, or_true, false_or, or_false, and_self, ge_iff_le, gt_iff_lt]
          rw [show ((Y + 1) * 10 + X + 1) / 10 - 1 = Y by omega]
        · rw [show fch 1 = 121 from rfl, hy (by decide)]
          simp (disch := omega) only [F_M_holds_53, e135, ↓reduceIte, inb, zl, zi_add, zi_sub, zi_mul, zi_neg, zi_le_t, zi_le_f, zi_lt_t, zi_lt_f, zi_eq_t, zi_eq_f, if_true, if_false, ite_true, ite_false, true_and, and_true, false_and, and_false, not_true_eq_false, not_false_eq_true, true_or, or_true, false_or, or_false, and_self, ge_iff_le, gt_iff_lt]
      · refine ⟨zi d, ?_, fun y hy => ?_⟩
        · simp (disch := omega) only [F_Wi_fieldIn, F_St_actorPart, Option.bind_some, wsr11, g72, e75, ↓reduceIte, inb, zl, zi_add, zi_sub, zi_mul, zi_neg, zi_le_t, zi_le_f, zi_lt_t, zi_lt_f, zi_eq_t, zi_eq_f, if_true, if_false, ite_true, ite_false, true_and, and_true, false_and, and_false, not_true_eq_false, not_false_eq_true, true_or, or_true, false_or, or_false, and_self, ge_iff_le, gt_iff_lt]
        · rw [show fch 2 = 104 from rfl, hy (by decide)]
          simp (disch := omega) only [F_M_holds_53, e136, ↓reduceIte, inb, zl, zi_add, zi_sub, zi_mul, zi_neg, zi_le_t, zi_le_f, zi_lt_t, zi_lt_f, zi_eq_t, zi_eq_f, if_true, if_false, ite_true, ite_false, true_and, and_true, false_and, and_false, not_true_eq_false, not_false_eq_true, true_or, or_true, false_or, or_false, and_self, ge_iff_le, gt_iff_lt]
      · refine ⟨δm.2.1 137 23 (zi x), ?_, fun y hy => ?_⟩
        · simp (disch := omega) only [F_Wi_fieldIn, F_St_actorPart, Option.bind_some, wsr11, g72, e76, ↓reduceIte, inb, zl, zi_add, zi_sub, zi_mul, zi_neg, zi_le_t, zi_le_f, zi_lt_t, zi_lt_f, zi_eq_t, zi_eq_f, if_true, if_false, ite_true, ite_false, true_and, and_true, false_and, and_false, not_true_eq_false, not_false_eq_true, true_or, or_true, false_or, or_false, and_self, ge_iff_le, gt_iff_lt]
        · rw [show fch 3 = 118 from rfl, hy (by decide)]
          simp (disch := omega) only [F_M_holds_53, ↓reduceIte, inb, zl, zi_add, zi_sub, zi_mul, zi_neg, zi_le_t, zi_le_f, zi_lt_t, zi_lt_f, zi_eq_t, zi_eq_f, if_true, if_false, ite_true, ite_false, true_and, and_true, false_and, and_false, not_true_eq_false, not_false_eq_true, true_or, or_true, false_or, or_false, and_self, ge_iff_le, gt_iff_lt]
      · refine ⟨δm.2.1 138 23 (zi x), ?_, fun y hy => ?_⟩
        · simp (disch := omega) only [F_Wi_fieldIn, F_St_actorPart, Option.bind_some, wsr11, g72, e77, ↓reduceIte, inb, zl, zi_add, zi_sub, zi_mul, zi_neg, zi_le_t, zi_le_f, zi_lt_t, zi_lt_f, zi_eq_t, zi_eq_f, if_true, if_false, ite_true, ite_false, true_and, and_true, false_and, and_false, not_true_eq_false, not_false_eq_true, true_or, or_true, false_or, or_false, and_self, ge_iff_le, gt_iff_lt]
        · rw [show fch 4 = 98 from rfl, hy (by decide)]
          simp (disch := omega) only [F_M_holds_53, ↓reduceIte, inb, zl, zi_add, zi_sub, zi_mul, zi_neg, zi_le_t, zi_le_f, zi_lt_t, zi_lt_f, zi_eq_t, zi_eq_f, if_true, if_false, ite_true, ite_false, true_and, and_true, false_and, and_false, not_true_eq_false, not_false_eq_true, true_or, or_true, false_or, or_false, and_self, ge_iff_le, gt_iff_lt]
/-- a part of the wish, so or not so, on both sides -/
theorem lk_holds (wg : WG g) (H : RR0 11 12 13 v g k t Q δc δm) {n i : Int} (hn : n ≤ 4) (hi : 0 ≤ i ∧ i < n) (e80 : δc.1 80 w = zi n) (P : WP2 w δc δm i) : ∃ r, (r = zi 0 ∨ r = zi 1) ∧ F_M_holds (zi i) δm = some r ∧ ∀ fu so, F_Wi_partsSo_4 w 11 (fu + 1) so (zi i) δc = F_Wi_partsSo_4 w 11 fu (if r = zi 0 then so else so ||| (zi 1 <<< (zi i &&& zi 31))) (zi (i + 1)) δc := by
  obtain ⟨wh, f, x, o, b, h1, hf, hx, ho, hb, a156, a157, a82, a83, a159, a84, a160, a85⟩ := P
  have ha := wg.2.2.1
  have hm := H.2.2.1
  have hk := hm.1
  have g72 := H.2.2.2.1.2.2.1
  have stepY : ∀ r, (r = zi 0 ∨ r = zi 1) → (∀ k4 so, F_Wi_partsSo_46 w 11 k4 so (zi i) δc = F_Wi_partsSo_140 w 11 k4 so (zi i) r δc) → (4 < f ∨ F_St_isActor 13 (zi x) δc = zi 1) → ∀ fu so, F_Wi_partsSo_4 w 11 (fu + 1) so (zi i) δc = F_Wi_partsSo_4 w 11 fu (if r = zi 0 then so else so ||| (zi 1 <<< (zi i &&& zi 31))) (zi (i + 1)) δc := by
    intro r hr h46 hact fu so
    have e1 : F_Wi_partsSo_4 w 11 (fu + 1) so (zi i) δc = F_Wi_partsSo_46 w 11 (F_Wi_partsSo_4 w 11 fu) so (zi i) δc := by
      by_cases q4 : 4 < f
      · simp (disch := omega) only [F_Wi_partsSo_4, F_Wi_partsSo_4_b, e80, a82, ↓reduceIte, inb, zl, zi_add, zi_sub, zi_mul, zi_neg, zi_le_t, zi_le_f, zi_lt_t, zi_lt_f, zi_eq_t, zi_eq_f, if_true, if_false, ite_true, ite_false, true_and, and_true, false_and, and_false, not_true_eq_false, not_false_eq_true, true_or, or_true, false_or, or_false, and_self, ge_iff_le, gt_iff_lt]
      · have ea := hact.resolve_left q4
        have a83' := (a83 (by omega)).2
        simp (disch := omega) only [F_Wi_partsSo_4, F_Wi_partsSo_4_b, e80, a82, a83', wsr11, ea, ↓bnd_eq, bd2, bn2, Option.bind_some, Option.bind_none, ↓reduceIte, inb, zl, zi_add, zi_sub, zi_mul, zi_neg, zi_le_t, zi_le_f, zi_lt_t, zi_lt_f, zi_eq_t, zi_eq_f, if_true, if_false, ite_true, ite_false, true_and, and_true, false_and, and_false, not_true_eq_false, not_false_eq_true, true_or, or_true, false_or, or_false, and_self, ge_iff_le, gt_iff_lt]
    rw [e1, h46]
    rcases hr with rfl | rfl
    · simp (disch := omega) only [F_Wi_partsSo_140, F_Wi_partsSo_153, ↓reduceIte, inb, zl, zi_add, zi_sub, zi_mul, zi_neg, zi_le_t, zi_le_f, zi_lt_t, zi_lt_f, zi_eq_t, zi_eq_f, if_true, if_false, ite_true, ite_false, true_and, and_true, false_and, and_false, not_true_eq_false, not_false_eq_true, true_or, or_true, false_or, or_false, and_self, ge_iff_le, gt_iff_lt]
    · simp (disch := omega) only [F_Wi_partsSo_140, F_Wi_partsSo_153, ↓bnd_eq, bd2, bn2, Option.bind_some, Option.bind_none, ↓reduceIte, inb, zl, zi_add, zi_sub, zi_mul, zi_neg, zi_le_t, zi_le_f, zi_lt_t, zi_lt_f, zi_eq_t, zi_eq_f, if_true, if_false, ite_true, ite_false, true_and, and_true, false_and, and_false, not_true_eq_false, not_false_eq_true, true_or, or_true, false_or, or_false, and_self, ge_iff_le, gt_iff_lt]
  by_cases q4 : 4 < f
  · obtain ⟨u, u1, u2⟩ := lk_field (x := 0) (i := i) (x' := δc.2.1 83 w (zi i)) wg H hf (fun e => by omega)
    rw [← a82] at u1
    obtain ⟨r, hr, r1, r2⟩ := lk_sign ⟨hi.1, by omega⟩ ho a159 a84 a160 a85 u1
    refine ⟨r, hr, ?_, stepY r hr r2 (Or.inl q4)⟩
    rw [← r1, ← u2 (δm.2.1 158 23 (zi i)) (fun e => by omega)]
    rcases (show f = 5 ∨ f = 6 by omega) with rfl | rfl
    · rw [show fch 5 = 103 from rfl] at a157 ⊢
      simp (disch := omega) only [F_M_holds, F_M_holds_23, F_M_holds_24, a157, ↓reduceIte, inb, zl, zi_add, zi_sub, zi_mul, zi_neg, zi_le_t, zi_le_f, zi_lt_t, zi_lt_f, zi_eq_t, zi_eq_f, if_true, if_false, ite_true, ite_false, true_and, and_true, false_and, and_false, not_true_eq_false, not_false_eq_true, true_or, or_true, false_or, or_false, and_self, ge_iff_le, gt_iff_lt]
    · rw [show fch 6 = 115 from rfl] at a157 ⊢
      simp (disch := omega) only [F_M_holds, F_M_holds_23, F_M_holds_24, a157, ↓reduceIte, inb, zl, zi_add, zi_sub, zi_mul, zi_neg, zi_le_t, zi_le_f, zi_lt_t, zi_lt_f, zi_eq_t, zi_eq_f, if_true, if_false, ite_true, ite_false, true_and, and_true, false_and, and_false, not_true_eq_false, not_false_eq_true, true_or, or_true, false_or, or_false, and_self, ge_iff_le, gt_iff_lt]
  · obtain ⟨b158, b83⟩ := a83 (by omega)
    have hx' := hx (by omega)
    have hne : fch f ≠ 103 ∧ fch f ≠ 115 ∧ (0 ≤ fch f ∧ fch f < 200) := by
      rcases (show f = 0 ∨ f = 1 ∨ f = 2 ∨ f = 3 ∨ f = 4 by omega) with rfl | rfl | rfl | rfl | rfl <;> decide
    have e24 : F_M_holds (zi i) δm = F_M_holds_24 (zi i) (zi (fch f)) (zi 1) δm := by
      simp (disch := omega) only [F_M_holds, a157, ↓reduceIte, inb, zl, zi_add, zi_sub, zi_mul, zi_neg, zi_le_t, zi_le_f, zi_lt_t, zi_lt_f, zi_eq_t, zi_eq_f, if_true, if_false, ite_true, ite_false, true_and, and_true, false_and, and_false, not_true_eq_false, not_false_eq_true, true_or, or_true, false_or, or_false, and_self, ge_iff_le, gt_iff_lt]
    by_cases qa : x < g.2.2.1
    · obtain ⟨u, u1, u2⟩ := lk_field (x := x) (i := i) (x' := zi x) wg H hf (fun _ => ⟨⟨hx'.1, qa⟩, rfl⟩)
      rw [← a82, ← b83] at u1
      obtain ⟨r, hr, r1, r2⟩ := lk_sign ⟨hi.1, by omega⟩ ho a159 a84 a160 a85 u1
      have ea : F_St_isActor 13 (zi x) δc = zi 1 := by simp (disch := omega) only [F_St_isActor, g72, ↓reduceIte, inb, zl, zi_add, zi_sub, zi_mul, zi_neg, zi_le_t, zi_le_f, zi_lt_t, zi_lt_f, zi_eq_t, zi_eq_f, if_true, if_false, ite_true, ite_false, true_and, and_true, false_and, and_false, not_true_eq_false, not_false_eq_true, true_or, or_true, false_or, or_false, and_self, ge_iff_le, gt_iff_lt]
      refine ⟨r, hr, ?_, stepY r hr r2 (Or.inr ea)⟩
      rw [e24, ← r1, ← u2 (zi x) (fun _ => rfl)]
      simp (disch := omega) only [F_M_holds_24, b158, hm.2.1, hm.2.2.2.2, ↓reduceIte, inb, zl, zi_add, zi_sub, zi_mul, zi_neg, zi_le_t, zi_le_f, zi_lt_t, zi_lt_f, zi_eq_t, zi_eq_f, if_true, if_false, ite_true, ite_false, true_and, and_true, false_and, and_false, not_true_eq_false, not_false_eq_true, true_or, or_true, false_or, or_false, and_self, ge_iff_le, gt_iff_lt]
    · have ea : F_St_isActor 13 (zi x) δc = zi 0 := by simp (disch := omega) only [F_St_isActor, g72, ↓reduceIte, inb, zl, zi_add, zi_sub, zi_mul, zi_neg, zi_le_t, zi_le_f, zi_lt_t, zi_lt_f, zi_eq_t, zi_eq_f, if_true, if_false, ite_true, ite_false, true_and, and_true, false_and, and_false, not_true_eq_false, not_false_eq_true, true_or, or_true, false_or, or_false, and_self, ge_iff_le, gt_iff_lt]
      refine ⟨zi 0, Or.inl rfl, ?_, fun fu so => ?_⟩
      · rw [e24]
        simp (disch := omega) only [F_M_holds_24, b158, hm.2.1, hm.2.2.2.2, ↓reduceIte, inb, zl, zi_add, zi_sub, zi_mul, zi_neg, zi_le_t, zi_le_f, zi_lt_t, zi_lt_f, zi_eq_t, zi_eq_f, if_true, if_false, ite_true, ite_false, true_and, and_true, false_and, and_false, not_true_eq_false, not_false_eq_true, true_or, or_true, false_or, or_false, and_self, ge_iff_le, gt_iff_lt]
      · rw [if_pos rfl]
        simp (disch := omega) only [F_Wi_partsSo_4, F_Wi_partsSo_4_b, F_Wi_partsSo_153, e80, a82, b83, wsr11, ea, ↓bnd_eq, bd2, bn2, Option.bind_some, Option.bind_none, ↓reduceIte, inb, zl, zi_add, zi_sub, zi_mul, zi_neg, zi_le_t, zi_le_f, zi_lt_t, zi_lt_f, zi_eq_t, zi_eq_f, if_true, if_false, ite_true, ite_false, true_and, and_true, false_and, and_false, not_true_eq_false, not_false_eq_true, true_or, or_true, false_or, or_false, and_self, ge_iff_le, gt_iff_lt]
end HL
section SO
variable {v : PG} {g : SG} {δc δm : Dl} {k t Q : Int} {w : Nat}
/-- which parts are so, as bits -/
theorem lk_parts (wg : WG g) (H : RR0 11 12 13 v g k t Q δc δm) {n : Int} (hn : 0 ≤ n ∧ n ≤ 4) (e80 : δc.1 80 w = zi n) (P : ∀ i, 0 ≤ i → i < n → WP2 w δc δm i) : ∃ m : Int, (0 ≤ m ∧ m < 16) ∧ F_Wi_partsSo w 11 δc = some (zi m) ∧ ∀ i, 0 ≤ i → i < 4 → (i < n → F_M_holds (zi i) δm = some (bI m i)) ∧ (n ≤ i → bI m i = zi 0) := by
  have key : ∀ (j : Nat) (i m : Int) (fu : Nat), 0 ≤ i → i + j = n → (0 ≤ m ∧ m < 16) → j < fu → (∀ c, i ≤ c → c < 4 → bI m c = zi 0) → ∃ m' : Int, (0 ≤ m' ∧ m' < 16) ∧ F_Wi_partsSo_4 w 11 fu (zi m) (zi i) δc = some (zi m') ∧ (∀ c, 0 ≤ c → c < i → c < 4 → bI m' c = bI m c) ∧ ∀ c, i ≤ c → c < 4 → (c < n → F_M_holds (zi c) δm = some (bI m' c)) ∧ (n ≤ c → bI m' c = zi 0) := by
    intro j
    induction j with
    | zero =>
      intro i m fu i0 hi hm hf hz
      obtain ⟨fu, rfl⟩ : ∃ q, fu = q + 1 := ⟨fu - 1, by omega⟩
      refine ⟨m, hm, ?_, fun _ _ _ _ => rfl, fun c c0 c4 => ⟨fun h => by omega, fun _ => hz c c0 c4⟩⟩
      simp (disch := omega) only [F_Wi_partsSo_4, F_Wi_partsSo_4_b, e80, ↓reduceIte, inb, zl, zi_add, zi_sub, zi_mul, zi_neg, zi_le_t, zi_le_f, zi_lt_t, zi_lt_f, zi_eq_t, zi_eq_f, if_true, if_false, ite_true, ite_false, true_and, and_true, false_and, and_false, not_true_eq_false, not_false_eq_true, true_or, or_true, false_or, or_false, and_self, ge_iff_le, gt_iff_lt]
    | succ j ih =>
      intro i m fu i0 hi hm hf hz
      obtain ⟨fu, rfl⟩ : ∃ q, fu = q + 1 := ⟨fu - 1, by omega⟩
      obtain ⟨r, hr, r1, r2⟩ := lk_holds wg H (w := w) hn.2 (i := i) ⟨i0, by omega⟩ e80 (P i i0 (by omega))
      rcases hr with rfl | rfl
      · obtain ⟨m', h1, h2, h3, h4⟩ := ih (i + 1) m fu (by omega) (by omega) hm (by omega) (fun c c0 c4 => hz c (by omega) c4)
        refine ⟨m', h1, ?_, fun c c0 c1 c4 => h3 c c0 (by omega) c4, fun c c0 c4 => ?_⟩
        · rw [r2, if_pos rfl]; exact h2
        · by_cases q : c = i
          · subst q
            refine ⟨fun _ => ?_, fun h => by omega⟩
            rw [h3 c i0 (by omega) c4, hz c (Int.le_refl _) c4]; exact r1
          · exact h4 c (by omega) c4
      · obtain ⟨m2, g1, g2, g3⟩ := bI_or hm (n := i) ⟨i0, by omega⟩
        obtain ⟨m', h1, h2, h3, h4⟩ := ih (i + 1) m2 fu (by omega) (by omega) g1 (by omega) (fun c c0 c4 => by rw [g3 c (by omega) c4, if_neg (by omega)]; exact hz c (by omega) c4)
        refine ⟨m', h1, ?_, fun c c0 c1 c4 => ?_, fun c c0 c4 => ?_⟩
        · rw [r2, if_neg (by decide), g2]; exact h2
        · rw [h3 c c0 (by omega) c4, g3 c c0 c4, if_neg (by omega)]
        · by_cases q : c = i
          · subst q
            refine ⟨fun _ => ?_, fun h => by omega⟩
            rw [h3 c i0 (by omega) c4, g3 c i0 c4, if_pos rfl]; exact r1
          · exact h4 c (by omega) c4
  obtain ⟨m, h1, h2, -, h4⟩ := key n.toNat 0 0 FU (by omega) (by omega) (by decide) (by unfold FU; omega) (fun c c0 c4 => by
    rcases (show c = 0 ∨ c = 1 ∨ c = 2 ∨ c = 3 by omega) with rfl | rfl | rfl | rfl <;> decide)
  refine ⟨m, h1, ?_, fun i i0 i4 => h4 i i0 i4⟩
  unfold F_Wi_partsSo
  rw [zl0]
  exact h2
/-- masks -/
def mskB (a b : Int) : Bool := decide (∀ c : Nat, c < 4 → bI a c = zi 1 → bI b c = zi 1)
theorem msk_sub : ∀ a : Nat, a < 16 → ∀ b : Nat, b < 16 → decide ((zi a &&& (zi b ^^^ zi (-1))) = zi 0) = mskB a b := by decide +kernel
def mskN (a b : Int) : Bool := decide (∀ c : Nat, c < 4 → bI a c = zi 1 → bI b c = zi 0)
theorem msk_dis : ∀ a : Nat, a < 16 → ∀ b : Nat, b < 16 → decide ((zi a &&& zi b) = zi 0) = mskN a b := by decide +kernel
theorem msk_or : ∀ a : Nat, a < 16 → ∀ b : Nat, b < 16 → (zi a ||| zi b) = zi ((a ||| b : Nat) : Int) ∧ (a ||| b) < 16 ∧ ∀ c : Nat, c < 4 → bI ((a ||| b : Nat) : Int) c = if bI a c = zi 1 then zi 1 else bI b c := by decide +kernel
end SO
