/-! a program tried on all kept stages; a change sought (wip/whole/pure) -/
abbrev SOc : Nat → Nat → Prop := fun f a => (a = 13 ∧ 70 ≤ f ∧ f ≤ 79) ∨ (a = 11 ∧ 42 ≤ f ∧ f ≤ 53) ∨ (a = 12 ∧ 30 ≤ f ∧ f ≤ 34) ∨ (a = 2 ∧ 30 ≤ f ∧ f ≤ 34) ∨ (a = 0 ∧ 106 ≤ f ∧ f ≤ 107)
abbrev SOm : Nat → Nat → Prop := fun f _ => (131 ≤ f ∧ f ≤ 151) ∨ f = 174 ∨ (183 ≤ f ∧ f ≤ 190) ∨ (120 ≤ f ∧ f ≤ 124) ∨ f = 130 ∨ (164 ≤ f ∧ f ≤ 166)
section SO
variable {δ δ' : Dl}
theorem socB (F : Fr (SBc 11 13) δ δ') : Fr SOc δ δ' := F.to (fun f a e => by
  have : (a = 13 ∧ 70 ≤ f ∧ f ≤ 79) ∨ (a = 11 ∧ 42 ≤ f ∧ f ≤ 53) := e
  show (a = 13 ∧ 70 ≤ f ∧ f ≤ 79) ∨ (a = 11 ∧ 42 ≤ f ∧ f ≤ 53) ∨ (a = 12 ∧ 30 ≤ f ∧ f ≤ 34) ∨ (a = 2 ∧ 30 ≤ f ∧ f ≤ 34) ∨ (a = 0 ∧ 106 ≤ f ∧ f ≤ 107)
  omega)
theorem socP {p : Nat} (hp : p = 12 ∨ p = 2) (F : Fr (fun g b => b = p ∧ 30 ≤ g ∧ g ≤ 34) δ δ') : Fr SOc δ δ' := F.to (fun f a e => by
  have : a = p ∧ 30 ≤ f ∧ f ≤ 34 := e
  show (a = 13 ∧ 70 ≤ f ∧ f ≤ 79) ∨ (a = 11 ∧ 42 ≤ f ∧ f ≤ 53) ∨ (a = 12 ∧ 30 ≤ f ∧ f ≤ 34) ∨ (a = 2 ∧ 30 ≤ f ∧ f ≤ 34) ∨ (a = 0 ∧ 106 ≤ f ∧ f ≤ 107)
  omega)
theorem socC {p : Nat} (hp : p = 12 ∨ p = 2) (F : Fr (SP p) δ δ') : Fr SOc δ δ' := F.to (fun f a e => by
  have : a = p ∧ 32 ≤ f ∧ f ≤ 34 := e
  show (a = 13 ∧ 70 ≤ f ∧ f ≤ 79) ∨ (a = 11 ∧ 42 ≤ f ∧ f ≤ 53) ∨ (a = 12 ∧ 30 ≤ f ∧ f ≤ 34) ∨ (a = 2 ∧ 30 ≤ f ∧ f ≤ 34) ∨ (a = 0 ∧ 106 ≤ f ∧ f ≤ 107)
  omega)
theorem somL (F : Fr SLm δ δ') : Fr SOm δ δ' := F.to (fun f a e => by
  have : (131 ≤ f ∧ f ≤ 151) ∨ f = 174 ∨ (183 ≤ f ∧ f ≤ 184) := e
  show (131 ≤ f ∧ f ≤ 151) ∨ f = 174 ∨ (183 ≤ f ∧ f ≤ 190) ∨ (120 ≤ f ∧ f ≤ 124) ∨ f = 130 ∨ (164 ≤ f ∧ f ≤ 166)
  omega)
theorem somX (F : Fr SMx δ δ') : Fr SOm δ δ' := F.to (fun f a e => by
  have : a = 23 ∧ ((120 ≤ f ∧ f ≤ 124) ∨ f = 130) := e
  show (131 ≤ f ∧ f ≤ 151) ∨ f = 174 ∨ (183 ≤ f ∧ f ≤ 190) ∨ (120 ≤ f ∧ f ≤ 124) ∨ f = 130 ∨ (164 ≤ f ∧ f ≤ 166)
  omega)
theorem somS (F : Fr SSv δ δ') : Fr SOm δ δ' := F.to (fun f a e => by
  have : a = 23 ∧ (185 ≤ f ∧ f ≤ 190) := e
  show (131 ≤ f ∧ f ≤ 151) ∨ f = 174 ∨ (183 ≤ f ∧ f ≤ 190) ∨ (120 ≤ f ∧ f ≤ 124) ∨ f = 130 ∨ (164 ≤ f ∧ f ≤ 166)
  omega)
end SO
/-- what trying wants, the programs aside -/
def CX (n : Int) (gk : Int → SG) (w : Nat) (nw : Int) (wh : Int → Int) (c m : Dl) : Prop := c.1 94 0 = zi n ∧ (∀ i : Nat, i < 4 → c.2.2 93 i = (0, 4 + i)) ∧ (∀ i : Nat, (i : Int) < n → CG (4 + i) c (gk i)) ∧ c.2.2 99 0 = (0, w) ∧ m.1 117 23 = zi n ∧ (∀ i : Nat, (i : Int) < n → MG i m (gk i)) ∧ WS w nw wh c m
section RT
variable {v : PG} {gk : Int → SG} {x n nw : Int} {w : Nat} {wh : Int → Int}
theorem CX.so {c c' m m' : Dl} (h : CX n gk w nw wh c m) (hn : n ≤ 4) (hw : w = 16 ∨ w = 17) (F : Fr SOc c c') (F' : Fr SOm m m') : CX n gk w nw wh c' m' := by
  obtain ⟨h1, h2, h3, h4, h5, h6, h7⟩ := h
  have sc : ∀ f a, SOc f a → (a = 13 ∧ 70 ≤ f ∧ f ≤ 79) ∨ (a = 11 ∧ 42 ≤ f ∧ f ≤ 53) ∨ (a = 12 ∧ 30 ≤ f ∧ f ≤ 34) ∨ (a = 2 ∧ 30 ≤ f ∧ f ≤ 34) ∨ (a = 0 ∧ 106 ≤ f ∧ f ≤ 107) := fun f a e => e
  have sm : ∀ f a, SOm f a → (131 ≤ f ∧ f ≤ 151) ∨ f = 174 ∨ (183 ≤ f ∧ f ≤ 190) ∨ (120 ≤ f ∧ f ≤ 124) ∨ f = 130 ∨ (164 ≤ f ∧ f ≤ 166) := fun f a e => e
  refine ⟨by rw [(F.2 94 0 (by decide)).1]; exact h1, by rw [F.1]; exact h2, fun i hi => (h3 i hi).fr F (fun f a b e => ?_), by rw [F.1]; exact h4, by rw [(F'.2 117 23 (by decide)).1]; exact h5, fun i hi => (h6 i hi).fr F' (fun f a b e => ?_), h7.fr F F' (fun f a b e => ?_) (fun f a b e => ?_)⟩
  · have := sc f (4 + i) e; omega
  · have := sm f 23 e; omega
  · have := sc f w e; omega
  · have := sm f 23 e; omega
theorem cp1_so {c c' : Dl} (h : CP 1 c v) (F : Fr SOc c c') : CP 1 c' v := h.fr F (fun f a b e => by
  have : ((1 : Nat) = 13 ∧ 70 ≤ f ∧ f ≤ 79) ∨ ((1 : Nat) = 11 ∧ 42 ≤ f ∧ f ≤ 53) ∨ ((1 : Nat) = 12 ∧ 30 ≤ f ∧ f ≤ 34) ∨ ((1 : Nat) = 2 ∧ 30 ≤ f ∧ f ≤ 34) ∨ ((1 : Nat) = 0 ∧ 106 ≤ f ∧ f ≤ 107) := e
  omega)
theorem mp_L {m m' : Dl} (h : MP m v) (F : Fr SLm m m') : MP m' v := h.fr F (fun f a b e => by
  have : (131 ≤ f ∧ f ≤ 151) ∨ f = 174 ∨ (183 ≤ f ∧ f ≤ 184) := e
  omega)
theorem sv_L {k : Int} {m m' : Dl} (h : SV k v m) (F : Fr SLm m m') : SV k v m' := h.fr F (fun f a b e => by
  have : (131 ≤ f ∧ f ≤ 151) ∨ f = 174 ∨ (183 ≤ f ∧ f ≤ 184) := e
  omega)
theorem sv_X {k : Int} {m m' : Dl} (h : SV k v m) (F : Fr SMx m m') : SV k v m' := h.fr F (fun f a b e => by
  have : (23 : Nat) = 23 ∧ ((120 ≤ f ∧ f ≤ 124) ∨ f = 130) := e
  omega)
theorem lk_right_l (W : PW v) (hn : 0 ≤ n ∧ n ≤ 4) (wg : ∀ i : Nat, (i : Int) < n → WG (gk i)) (hw : w = 16 ∨ w = 17) (hnw : 0 ≤ nw ∧ nw ≤ 4) (hx : 0 ≤ x ∧ x ≤ 40) : ∀ (j : Nat) (i : Int) (fu f2 : Nat) (c m : Dl), 0 ≤ i → i + j = n → j < fu → j < f2 → CP 12 c v → MP m v → CX n gk w nw wh c m →
    ∃ (r : Int32) (c' m' : Dl), (r = zi 0 ∨ r = zi 1) ∧ F_Bs_isRight_2 (zi x) fu (zi i) c = some (r, c') ∧ F_M_isRight_2 (zi x) f2 (zi i) m = some (r, m') ∧ Fr (SBc 11 13) c c' ∧ Fr SLm m m' := by
  intro j
  induction j with
  | zero =>
    intro i fu f2 c m i0 hi hf hf2 C12 M H
    obtain ⟨fu, rfl⟩ : ∃ q, fu = q + 1 := ⟨fu - 1, by omega⟩
    obtain ⟨f2, rfl⟩ : ∃ q, f2 = q + 1 := ⟨f2 - 1, by omega⟩
    have e94 := H.1
    have e117 := H.2.2.2.2.1
    refine ⟨zi 1, c, m, Or.inr rfl, ?_, ?_, Fr.rf, Fr.rf⟩
    · simp (disch := omega) only [F_Bs_isRight_2, F_Bs_isRight_2_b, e94, ↓reduceIte, inb, zl, zi_add, zi_sub, zi_mul, zi_neg, zi_le_t, zi_le_f, zi_lt_t, zi_lt_f, zi_eq_t, zi_eq_f, if_true, if_false, ite_true, ite_false, true_and, and_true, false_and, and_false, not_true_eq_false, not_false_eq_true, true_or, or_true, false_or, or_false, and_self, ge_iff_le, gt_iff_lt]
    · simp (disch := omega) only [F_M_isRight_2, F_M_isRight_2_b, e117, ↓reduceIte, inb, zl, zi_add, zi_sub, zi_mul, zi_neg, zi_le_t, zi_le_f, zi_lt_t, zi_lt_f, zi_eq_t, zi_eq_f, if_true, if_false, ite_true, ite_false, true_and, and_true, false_and, and_false, not_true_eq_false, not_false_eq_true, true_or, or_true, false_or, or_false, and_self, ge_iff_le, gt_iff_lt]
  | succ j ih =>
    intro i fu f2 c m i0 hi hf hf2 C12 M H
    obtain ⟨fu, rfl⟩ : ∃ q, fu = q + 1 := ⟨fu - 1, by omega⟩
    obtain ⟨f2, rfl⟩ : ∃ q, f2 = q + 1 := ⟨f2 - 1, by omega⟩
    obtain ⟨e94, e93, hk, e99, e117, hkm, hS⟩ := id H
    have hit : (i.toNat : Int) = i := by omega
    have b1 := wg i.toNat (by omega)
    have b2 := hk i.toNat (by omega)
    have b3 := hkm i.toNat (by omega)
    rw [hit] at b1 b2 b3
    have hr93 := e93 i.toNat (by omega)
    have ek : F_Bs_keptAt (zi i) c = some (0, 4 + i.toNat) := by simp (disch := omega) only [F_Bs_keptAt, e94, tnc, hr93, ↓reduceIte, inb, zl, zi_add, zi_sub, zi_mul, zi_neg, zi_le_t, zi_le_f, zi_lt_t, zi_lt_f, zi_eq_t, zi_eq_f, if_true, if_false, ite_true, ite_false, true_and, and_true, false_and, and_false, not_true_eq_false, not_false_eq_true, true_or, or_true, false_or, or_false, and_self, ge_iff_le, gt_iff_lt]
    obtain ⟨r, c1, m1, hr, g1, g2, F1, F2⟩ := lk_loses (o := 4 + i.toNat) W b1 hw hnw hx (k := i) (by omega) (by omega) C12 b2 M b3 hS
    have hoc := oc9 i.toNat (by omega)
    have how := oc10 hw
    have z1 : (-1 : Int32) = zi (-1) := by decide
    have ec : F_Bs_isRight_2 (zi x) (fu + 1) (zi i) c = if zi r = zi (-1) then F_Bs_isRight_39 (zi x) (F_Bs_isRight_2 (zi x) fu) (zi i) c1 else some (0, c1) := by
      show F_Bs_isRight_2_b (zi x) (F_Bs_isRight_2 (zi x) fu) (zi i) c = _
      unfold F_Bs_isRight_2_b
      rw [e94, if_neg (by rw [zi_le (by omega) (by omega)]; omega), ek, Option.bind_some, if_neg (fun e => absurd e (show ¬ (0 : Nat) = 1 by decide)), e99, if_pos ⟨rfl, how⟩, if_pos ⟨rfl, hoc⟩, g1, z1]
      rfl
    have em : F_M_isRight_2 (zi x) (f2 + 1) (zi i) m = if zi r = zi (-1) then F_M_isRight_2 (zi x) f2 (zi (i + 1)) m1 else some (0, m1) := by
      show F_M_isRight_2_b (zi x) (F_M_isRight_2 (zi x) f2) (zi i) m = _
      unfold F_M_isRight_2_b
      rw [e117, if_neg (by rw [zi_le (by omega) (by omega)]; omega), g2, z1, show (1 : Int32) = zi 1 from zl 1, zi_add]
      rfl
    by_cases q : r = -1
    · subst q
      obtain ⟨r', c', m', h0, h1, h2, G1, G2⟩ := ih (i + 1) fu f2 c1 m1 (by omega) (by omega) (by omega) (by omega) (C12.fr F1 (fun f a b e => by
        have : ((12 : Nat) = 13 ∧ 70 ≤ f ∧ f ≤ 79) ∨ ((12 : Nat) = 11 ∧ 42 ≤ f ∧ f ≤ 53) := e
        omega)) (mp_L M F2) (H.so hn.2 hw (socB F1) (somL F2))
      refine ⟨r', c', m', h0, ?_, ?_, F1.tr G1, F2.tr G2⟩
      · rw [ec, if_pos rfl, ← h1]
        simp (disch := omega) only [F_Bs_isRight_39, ↓reduceIte, inb, zl, zi_add, zi_sub, zi_mul, zi_neg, zi_le_t, zi_le_f, zi_lt_t, zi_lt_f, zi_eq_t, zi_eq_f, if_true, if_false, ite_true, ite_false, true_and, and_true, false_and, and_false, not_true_eq_false, not_false_eq_true, true_or, or_true, false_or, or_false, and_self, ge_iff_le, gt_iff_lt]
      · rw [em, if_pos rfl, ← h2]
    · have hz : ¬ zi r = zi (-1) := fun e => q (zi_inj e (by omega) (by omega))
      rw [if_neg hz, zl0] at ec em
      exact ⟨zi 0, c1, m1, Or.inl rfl, ec, em, F1, F2⟩
theorem lk_right {c m : Dl} (W : PW v) (hn : 0 ≤ n ∧ n ≤ 4) (wg : ∀ i : Nat, (i : Int) < n → WG (gk i)) (hw : w = 16 ∨ w = 17) (hnw : 0 ≤ nw ∧ nw ≤ 4) (hx : 0 ≤ x ∧ x ≤ 40) (C12 : CP 12 c v) (M : MP m v) (H : CX n gk w nw wh c m) :
    ∃ (r : Int32) (c' m' : Dl), (r = zi 0 ∨ r = zi 1) ∧ F_Bs_isRight (zi x) c = some (r, c') ∧ F_M_isRight (zi x) m = some (r, m') ∧ Fr (SBc 11 13) c c' ∧ Fr SLm m m' := by
  obtain ⟨r, c', m', h0, h1, h2, F1, F2⟩ := lk_right_l W hn wg hw hnw hx n.toNat 0 FU FU c m (by omega) (by omega) (by unfold FU; omega) (by unfold FU; omega) C12 M H
  refine ⟨r, c', m', h0, ?_, ?_, F1, F2⟩
  · unfold F_Bs_isRight
    rw [zl0]
    exact h1
  · unfold F_M_isRight
    rw [zl0]
    exact h2
/-- the hints told, alike -/
def HI (k : Int) (c m : Dl) : Prop := c.1 107 0 = zi k ∧ m.1 164 23 = zi k ∧ ∀ i, 0 ≤ i → i < k → c.2.1 106 0 (zi (2 * i)) = m.2.1 165 23 (zi i) ∧ c.2.1 106 0 (zi (2 * i + 1)) = m.2.1 166 23 (zi i)
theorem r4 {row : Int} (h : 0 ≤ row ∧ row < 1000) : zi row / 4 = zi (row / 4) := by rw [show (4 : Int32) = zi 4 from zl 4, zi_div (by omega)]
theorem r4m {row : Int} : zi row - zi (row / 4) * 4 = zi (row - row / 4 * 4) := by rw [show (4 : Int32) = zi 4 from zl 4, zi_mul, zi_sub]
theorem c_hint {c : Dl} {i row : Int} (hi : 0 ≤ i ∧ i ≤ 1) (hr : 0 ≤ row ∧ row < 1000) : F_Bs_setHint (zi i) (zi row) c = some (sA (sA c 106 0 (zi (2 * i)) (zi (row / 4))) 106 0 (zi (2 * i + 1)) (zi (row - row / 4 * 4))) := by
  simp (disch := omega) only [F_Bs_setHint, ↓bnd_eq, bd2, bn2, Option.bind_some, Option.bind_none, zi_div, ↓reduceIte, inb, zl, zi_add, zi_sub, zi_mul, zi_neg, zi_le_t, zi_le_f, zi_lt_t, zi_lt_f, zi_eq_t, zi_eq_f, if_true, if_false, ite_true, ite_false, true_and, and_true, false_and, and_false, not_true_eq_false, not_false_eq_true, true_or, or_true, false_or, or_false, and_self, ge_iff_le, gt_iff_lt]
theorem lk_one (W : PW v) (hN8 : v.1 ≤ 8) (hn : 0 ≤ n ∧ n ≤ 4) (wg : ∀ i : Nat, (i : Int) < n → WG (gk i)) (hw : w = 16 ∨ w = 17) (hnw : 0 ≤ nw ∧ nw ≤ 4) (hx : 0 ≤ x ∧ x ≤ 40) : ∀ (j : Nat) (row : Int) (fu f2 : Nat) (c m : Dl), 0 ≤ row → row + j = v.1 * 4 → j < fu → j < f2 → CP 1 c v → MP m v → SV 0 v m → CX n gk w nw wh c m →
    ∃ (r : Int32) (c' m' : Dl), ((r = zi 0 ∧ c'.1 107 0 = c.1 107 0 ∧ m'.1 164 23 = m.1 164 23) ∨ (r = zi 1 ∧ HI 1 c' m')) ∧ F_Bs_isRightByOne_12 (zi x) fu (zi (v.1 * 4)) (zi row) c = some (r, c') ∧ F_M_seeksOne_2 (zi x) f2 (zi row) m = some (r, m') ∧ MP m' v ∧ SV 0 v m' ∧ Fr SOc c c' ∧ Fr SOm m m' := by
  have hN := W.1
  intro j
  induction j with
  | zero =>
    intro row fu f2 c m i0 hi hf hf2 C1 M S H
    obtain ⟨fu, rfl⟩ : ∃ q, fu = q + 1 := ⟨fu - 1, by omega⟩
    obtain ⟨f2, rfl⟩ : ∃ q, f2 = q + 1 := ⟨f2 - 1, by omega⟩
    have e118 := M.1
    refine ⟨zi 0, c, m, Or.inl ⟨rfl, rfl, rfl⟩, ?_, ?_, M, S, Fr.rf, Fr.rf⟩
    · simp (disch := omega) only [F_Bs_isRightByOne_12, F_Bs_isRightByOne_12_b, ↓reduceIte, inb, zl, zi_add, zi_sub, zi_mul, zi_neg, zi_le_t, zi_le_f, zi_lt_t, zi_lt_f, zi_eq_t, zi_eq_f, if_true, if_false, ite_true, ite_false, true_and, and_true, false_and, and_false, not_true_eq_false, not_false_eq_true, true_or, or_true, false_or, or_false, and_self, ge_iff_le, gt_iff_lt]
    · simp (disch := omega) only [F_M_seeksOne_2, F_M_seeksOne_2_b, e118, ↓reduceIte, inb, zl, zi_add, zi_sub, zi_mul, zi_neg, zi_le_t, zi_le_f, zi_lt_t, zi_lt_f, zi_eq_t, zi_eq_f, if_true, if_false, ite_true, ite_false, true_and, and_true, false_and, and_false, not_true_eq_false, not_false_eq_true, true_or, or_true, false_or, or_false, and_self, ge_iff_le, gt_iff_lt]
  | succ j ih =>
    intro row fu f2 c m i0 hi hf hf2 C1 M S H
    obtain ⟨fu, rfl⟩ : ∃ q, fu = q + 1 := ⟨fu - 1, by omega⟩
    obtain ⟨f2, rfl⟩ : ∃ q, f2 = q + 1 := ⟨f2 - 1, by omega⟩
    have e118 := M.1
    have hr4 : 0 ≤ row ∧ row < 1000 := by omega
    have z1 : (1 : Int32) = zi 1 := zl 1
    have hle : ¬ zi (v.1 * 4) ≤ zi row := by rw [zi_le (by omega) (by omega)]; omega
    have hle2 : ¬ 4 * m.1 118 23 ≤ zi row := by rw [e118, show (4 : Int32) = zi 4 from zl 4, zi_mul, zi_le (by omega) (by omega)]; omega
    obtain ⟨c1, d1, C12, F1⟩ := c_pcopy (p := 12) (o := 1) (by decide) W C1
    have Ec : ∀ (r : Int32) (d : Dl), F_Pr_change 12 (zi (row / 4)) (zi (row - row / 4 * 4)) c1 = some (r, d) → F_Bs_isRightByOne_12 (zi x) (fu + 1) (zi (v.1 * 4)) (zi row) c = if r = 0 then F_Bs_isRightByOne_71 (zi x) (F_Bs_isRightByOne_12 (zi x) fu) (zi (v.1 * 4)) (zi row) d else bd2 (F_Bs_isRight (zi x) d) fun v52 δ52 => if v52 = 0 then F_Bs_isRightByOne_71 (zi x) (F_Bs_isRightByOne_12 (zi x) fu) (zi (v.1 * 4)) (zi row) δ52 else (F_Bs_setHint 0 (zi row) δ52).bind fun δ61 => bnd (sI δ61 107 0 1) fun δ66 => some (1, δ66) := by
      intro r d e
      show F_Bs_isRightByOne_12_b (zi x) (F_Bs_isRightByOne_12 (zi x) fu) (zi (v.1 * 4)) (zi row) c = _
      unfold F_Bs_isRightByOne_12_b
      rw [if_neg hle, bse d1, r4 hr4, r4m, b2e e]
    have Em : ∀ (r : Int32) (d : Dl), F_M_changes (zi (row / 4)) (zi (row - row / 4 * 4)) m = some (r, d) → F_M_seeksOne_2 (zi x) (f2 + 1) (zi row) m = if r = 0 then F_M_seeksOne_37 (zi x) (F_M_seeksOne_2 (zi x) f2) (zi row) d else bd2 (F_M_isRight (zi x) d) fun v27 δ27 => if v27 = 0 then F_M_seeksOne_37 (zi x) (F_M_seeksOne_2 (zi x) f2) (zi row) δ27 else F_M_seeksOne_38 (zi x) (F_M_seeksOne_2 (zi x) f2) (zi row) 1 δ27 := by
      intro r d e
      show F_M_seeksOne_2_b (zi x) (F_M_seeksOne_2 (zi x) f2) (zi row) m = _
      unfold F_M_seeksOne_2_b
      rw [if_neg hle2, r4 hr4, r4m, b2e e]
    -- going on after a row that was of no use
    have next : ∀ (c2 m2 m3 : Dl) (u : PG), F_Bs_isRightByOne_12 (zi x) (fu + 1) (zi (v.1 * 4)) (zi row) c = F_Bs_isRightByOne_71 (zi x) (F_Bs_isRightByOne_12 (zi x) fu) (zi (v.1 * 4)) (zi row) c2 → F_M_seeksOne_2 (zi x) (f2 + 1) (zi row) m = F_M_seeksOne_37 (zi x) (F_M_seeksOne_2 (zi x) f2) (zi row) m2 → MP m2 u → (u.1 = v.1 ∧ u.2.1 = v.2.1 ∧ (∀ x, u.2.2.1 x 0 = v.2.2.1 x 0) ∧ ∀ s j, j ≠ 4 → u.2.2.2.2 s j = v.2.2.2.2 s j) → SV 0 v m2 → Fr SOc c c2 → Fr SOm m m2 → c2.1 107 0 = c.1 107 0 → m2.1 164 23 = m.1 164 23 →
        ∃ (r : Int32) (c' m' : Dl), ((r = zi 0 ∧ c'.1 107 0 = c.1 107 0 ∧ m'.1 164 23 = m.1 164 23) ∨ (r = zi 1 ∧ HI 1 c' m')) ∧ F_Bs_isRightByOne_12 (zi x) (fu + 1) (zi (v.1 * 4)) (zi row) c = some (r, c') ∧ F_M_seeksOne_2 (zi x) (f2 + 1) (zi row) m = some (r, m') ∧ MP m' v ∧ SV 0 v m' ∧ Fr SOc c c' ∧ Fr SOm m m' := by
      intro c2 m2 m3 u ec em Mu hu Su Fc Fm hc hm
      obtain ⟨m4, g1, M4, F4⟩ := m_restores (k := 0) (by decide) W Su Mu hu
      obtain ⟨r, c', m', h0, h1, h2, h3, h4, G1, G2⟩ := ih (row + 1) fu f2 c2 m4 (by omega) (by omega) (by omega) (by omega) (cp1_so C1 Fc) M4 (sv_X Su F4) (H.so hn.2 hw Fc (Fm.tr (somX F4)))
      refine ⟨r, c', m', ?_, ?_, ?_, h3, h4, Fc.tr G1, (Fm.tr (somX F4)).tr G2⟩
      · rcases h0 with ⟨a1, a2, a3⟩ | h0
        · exact Or.inl ⟨a1, a2.trans hc, a3.trans (((F4.2 164 23 (by decide)).1).trans hm)⟩
        · exact Or.inr h0
      · rw [ec, ← h1]
        unfold F_Bs_isRightByOne_71
        rw [z1, zi_add]
      · rw [em, ← h2]
        unfold F_M_seeksOne_37 F_M_seeksOne_38
        rw [zl0, bse g1, if_pos rfl, z1, zi_add]
    have hch := lk_change (p := 12) (b := row / 4) (k := row - row / 4 * 4) C12 M W (by omega) (by omega) (by omega)
    have F1' : Fr SOc c c1 := socP (Or.inl rfl) F1
    have h107 : c1.1 107 0 = c.1 107 0 := (F1.2 107 0 (by decide)).1
    rcases hch with ⟨a1, a2⟩ | ⟨u, c2, m2, a1, a2, a3, a4, a5, a6, a7, a8⟩
    · refine next c1 m m v ?_ ?_ M ⟨rfl, rfl, fun _ => rfl, fun _ _ _ => rfl⟩ S F1' Fr.rf h107 rfl
      · rw [Ec _ _ a1, if_pos (by decide)]
      · rw [Em _ _ a2, if_pos (by decide)]
    · have Fc2 : Fr SOc c c2 := F1'.tr (socC (Or.inl rfl) a7)
      have Fm2 : Fr SOm m m2 := somX a8
      obtain ⟨r, c3, m3, hr, g1, g2, G1, G2⟩ := lk_right (c := c2) (m := m2) a5 hn wg hw hnw hx a3 a4 (H.so hn.2 hw Fc2 Fm2)
      have Fc3 : Fr SOc c c3 := Fc2.tr (socB G1)
      have Fm3 : Fr SOm m m3 := Fm2.tr (somL G2)
      have M3 := mp_L a4 G2
      have S3 := sv_L (sv_X S a8) G2
      rcases hr with rfl | rfl
      · refine next c3 m3 m3 u ?_ ?_ M3 a6 S3 Fc3 Fm3 ?_ ?_
        · rw [Ec _ _ a1, if_neg (by decide), b2e g1, if_pos (by decide)]
        · rw [Em _ _ a2, if_neg (by decide), b2e g2, if_pos (by decide)]
        · rw [(G1.2 107 0 (by decide)).1, (a7.2 107 0 (by decide)).1]; exact h107
        · rw [(G2.2 164 23 (by decide)).1, (a8.2 164 23 (by decide)).1]
      · obtain ⟨m4, g4, M4, F4⟩ := m_restores (k := 0) (by decide) W S3 M3 a6
        have ch := c_hint (c := c3) (i := 0) (row := row) (by decide) (by omega)
        have fc : Fr SOc c (sI (sA (sA c3 106 0 (zi (2 * 0)) (zi (row / 4))) 106 0 (zi (2 * 0 + 1)) (zi (row - row / 4 * 4))) 107 0 (zi 1)) := ((Fc3.sA (by decide)).sA (by decide)).sI (by decide)
        have fm : Fr (fun f a => a = 23 ∧ 164 ≤ f ∧ f ≤ 166) m4 (sA (sA (sI m4 164 23 (zi 1)) 165 23 (zi 0) (zi (row / 4))) 166 23 (zi 0) (zi (row - row / 4 * 4))) := ((Fr.rf.sI ⟨rfl, by decide, by decide⟩).sA ⟨rfl, by decide, by decide⟩).sA ⟨rfl, by decide, by decide⟩
        refine ⟨zi 1, _, _, Or.inr ⟨rfl, ?_⟩, ?_, ?_, M4.fr fm (fun f a b e => by omega), (sv_X S3 F4).fr fm (fun f a b e => by omega), fc, (Fm3.tr (somX F4)).tr (fm.to (fun f a e => ?_))⟩
        · refine ⟨sI_at, ?_, fun i i0 i1 => ?_⟩
          · show (sI m4 164 23 (zi 1)).1 164 23 = zi 1
            exact sI_at
          · have : i = 0 := by omega
            subst this
            constructor
            · show (sA (sA c3 106 0 (zi (2 * 0)) (zi (row / 4))) 106 0 (zi (2 * 0 + 1)) (zi (row - row / 4 * 4))).2.1 106 0 (zi (2 * 0)) = _
              rw [rAi, if_neg (by decide), rAi, if_pos rfl, rA (by decide), rAi, if_pos rfl]
            · show (sA (sA c3 106 0 (zi (2 * 0)) (zi (row / 4))) 106 0 (zi (2 * 0 + 1)) (zi (row - row / 4 * 4))).2.1 106 0 (zi (2 * 0 + 1)) = _
              rw [rAi, if_pos rfl, rAi, if_pos rfl]
        · rw [Ec _ _ a1, if_neg (by decide), b2e g1, if_neg (by decide), zl0, bse ch, bnd_eq, z1]
        · rw [Em _ _ a2, if_neg (by decide), b2e g2, if_neg (by decide)]
          unfold F_M_seeksOne_38
          rw [zl0, bse g4, if_neg (by decide), bnd_eq, bnd_eq, bnd_eq, r4 hr4, r4m, z1]
        · have : a = 23 ∧ 164 ≤ f ∧ f ≤ 166 := e
          show (131 ≤ f ∧ f ≤ 151) ∨ f = 174 ∨ (183 ≤ f ∧ f ≤ 190) ∨ (120 ≤ f ∧ f ≤ 124) ∨ f = 130 ∨ (164 ≤ f ∧ f ≤ 166)
          omega
end RT
