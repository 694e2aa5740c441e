/-! a sheet is laid on the stage (wip/whole/pure) -/
theorem kf {w h x y : Int} (hw : 1 ≤ w ∧ w ≤ 8) (hh : 1 ≤ h ∧ h ≤ 8) (hx : 0 ≤ x ∧ x < w) (hy : 0 ≤ y ∧ y < h) : (y * w + x) / w = y ∧ y * w + x - y * w = x ∧ 0 ≤ y * w ∧ y * w + x < w * h ∧ w * h ≤ 64 ∧ y * w + w = (y + 1) * w ∧ (y + 1) * w ≤ w * h := by
  rcases (show w = 1 ∨ w = 2 ∨ w = 3 ∨ w = 4 ∨ w = 5 ∨ w = 6 ∨ w = 7 ∨ w = 8 by omega) with rfl | rfl | rfl | rfl | rfl | rfl | rfl | rfl <;> omega
theorem kd {w h k : Int} (hw : 1 ≤ w ∧ w ≤ 8) (hh : 1 ≤ h ∧ h ≤ 8) (hk : 0 ≤ k ∧ k < w * h) : (0 ≤ k / w ∧ k / w < h) ∧ (0 ≤ k - k / w * w ∧ k - k / w * w < w) ∧ k / w * w + (k - k / w * w) = k ∧ w * h ≤ 64 := by
  rcases (show w = 1 ∨ w = 2 ∨ w = 3 ∨ w = 4 ∨ w = 5 ∨ w = 6 ∨ w = 7 ∨ w = 8 by omega) with rfl | rfl | rfl | rfl | rfl | rfl | rfl | rfl <;> omega
theorem kj {w x y x' y' : Int} (hw : 1 ≤ w ∧ w ≤ 8) (hx : 0 ≤ x ∧ x < w) (hx' : 0 ≤ x' ∧ x' < w) (e : y' * w + x' = y * w + x) : x' = x ∧ y' = y := by
  rcases (show w = 1 ∨ w = 2 ∨ w = 3 ∨ w = 4 ∨ w = 5 ∨ w = 6 ∨ w = 7 ∨ w = 8 by omega) with rfl | rfl | rfl | rfl | rfl | rfl | rfl | rfl <;> omega
theorem kw {w h : Int} (hw : 1 ≤ w ∧ w ≤ 8) (hh : 1 ≤ h ∧ h ≤ 8) : 1 ≤ w * h ∧ w * h ≤ 64 := by
  rcases (show w = 1 ∨ w = 2 ∨ w = 3 ∨ w = 4 ∨ w = 5 ∨ w = 6 ∨ w = 7 ∨ w = 8 by omega) with rfl | rfl | rfl | rfl | rfl | rfl | rfl | rfl <;> omega
def lgG (g : SG) (it : Int → Int) (k : Int) : SG := (g.1, g.2.1, g.2.2.1, fun x y => if y * g.1 + x < k then it (y * g.1 + x) else g.2.2.2.1 x y, g.2.2.2.2.1, g.2.2.2.2.2.1, g.2.2.2.2.2.2)
theorem WG.lg {g : SG} (wg : WG g) {it : Int → Int} {k : Int} (h : ∀ j, 0 ≤ j → j < g.1 * g.2.1 → -1 ≤ it j ∧ it j ≤ 9) : WG (lgG g it k) := ⟨wg.1, wg.2.1, wg.2.2.1, fun x y x0 x1 y0 y1 => by
  show -1 ≤ (if y * g.1 + x < k then it (y * g.1 + x) else g.2.2.2.1 x y) ∧ (if y * g.1 + x < k then it (y * g.1 + x) else g.2.2.2.1 x y) ≤ 9
  have := kf wg.1 wg.2.1 ⟨x0, x1⟩ ⟨y0, y1⟩
  by_cases q : y * g.1 + x < k
  · rw [if_pos q]; exact h _ (by omega) (by omega)
  · rw [if_neg q]; exact wg.2.2.2.1 x y x0 x1 y0 y1, wg.2.2.2.2⟩
theorem lg_step {g : SG} (wg : WG g) {it : Int → Int} {x y : Int} (hx : 0 ≤ x ∧ x < g.1) : ∀ x' y', 0 ≤ x' → x' < g.1 → (cellG (lgG g it (y * g.1 + x)) x y (it (y * g.1 + x))).2.2.2.1 x' y' = (lgG g it (y * g.1 + x + 1)).2.2.2.1 x' y' := by
  intro x' y' x0 x1
  show (if x' = x ∧ y' = y then it (y * g.1 + x) else if y' * g.1 + x' < y * g.1 + x then it (y' * g.1 + x') else g.2.2.2.1 x' y') = if y' * g.1 + x' < y * g.1 + x + 1 then it (y' * g.1 + x') else g.2.2.2.1 x' y'
  by_cases q : x' = x ∧ y' = y
  · rw [if_pos q, q.1, q.2, if_pos (by omega)]
  · rw [if_neg q]
    have : ¬ y' * g.1 + x' = y * g.1 + x := fun e => q (kj wg.1 hx ⟨x0, x1⟩ e)
    by_cases q2 : y' * g.1 + x' < y * g.1 + x
    · rw [if_pos q2, if_pos (by omega)]
    · rw [if_neg q2, if_neg (by omega)]
theorem CG.cg {s : Nat} {δ : Dl} {g g' : SG} (h : CG s δ g) (e1 : g.1 = g'.1) (e2 : g.2.1 = g'.2.1) (e3 : g.2.2.1 = g'.2.2.1) (e4 : ∀ x y, 0 ≤ x → x < g'.1 → 0 ≤ y → y < g'.2.1 → g.2.2.2.1 x y = g'.2.2.2.1 x y) (e5 : g.2.2.2.2.1 = g'.2.2.2.2.1) (e6 : g.2.2.2.2.2.1 = g'.2.2.2.2.2.1) (e7 : g.2.2.2.2.2.2 = g'.2.2.2.2.2.2) : CG s δ g' := by
  obtain ⟨h1, h2, h3, h4, h5, h6⟩ := h
  rw [e1] at h1
  rw [e2] at h2
  rw [e3] at h3
  refine ⟨h1, h2, h3, fun x y x0 x1 y0 y1 => ?_, ?_, ?_⟩
  · rw [← e4 x y x0 x1 y0 y1]
    exact h4 x y x0 (by rw [e1]; exact x1) y0 (by rw [e2]; exact y1)
  · rw [← e1, ← e2]; exact h5
  · rw [← e3, ← e5, ← e6, ← e7]; exact h6
theorem MG.cg {k : Int} {δ : Dl} {g g' : SG} (h : MG k δ g) (e1 : g.1 = g'.1) (e2 : g.2.1 = g'.2.1) (e3 : g.2.2.1 = g'.2.2.1) (e4 : ∀ x y, 0 ≤ x → x < g'.1 → 0 ≤ y → y < g'.2.1 → g.2.2.2.1 x y = g'.2.2.2.1 x y) (e5 : g.2.2.2.2.1 = g'.2.2.2.2.1) (e6 : g.2.2.2.2.2.1 = g'.2.2.2.2.2.1) (e7 : g.2.2.2.2.2.2 = g'.2.2.2.2.2.2) : MG k δ g' := by
  obtain ⟨h1, h2, h3, h4, h5⟩ := h
  rw [e1] at h1
  rw [e2] at h2
  rw [e3] at h3
  refine ⟨h1, h2, h3, fun x y x0 x1 y0 y1 => ?_, ?_⟩
  · rw [← e4 x y x0 x1 y0 y1]
    exact h4 x y x0 (by rw [e1]; exact x1) y0 (by rw [e2]; exact y1)
  · rw [← e3, ← e5, ← e6, ← e7]; exact h5
theorem c_itemAt {δ : Dl} {s n k : Int} (hs : 0 ≤ s ∧ s < 3) (e61 : δ.2.1 61 18 (zi s) = zi n) (hn : 0 ≤ n ∧ n ≤ 70) (hk : 0 ≤ k ∧ k < n) : F_Sh_itemAt 18 (zi s) (zi k) δ = some (δ.2.1 62 18 (zi (s * 70 + k))) := by
  simp (disch := omega) only [F_Sh_itemAt, F_Sh_hasItems, ↓bnd_eq, bd2, bn2, Option.bind_some, Option.bind_none, e61, ↓reduceIte, inb, zl, zi_add, zi_sub, zi_mul, zi_neg, zi_le_t, zi_le_f, zi_lt_t, zi_lt_f, zi_eq_t, zi_eq_f, if_true, if_false, ite_true, ite_false, true_and, and_true, false_and, and_false, not_true_eq_false, not_false_eq_true, true_or, or_true, false_or, or_false, and_self, ge_iff_le, gt_iff_lt]
theorem itemAt_fr {S : Nat → Nat → Prop} {δ δ' : Dl} (F : Fr S δ δ') (n : ∀ f, 60 ≤ f → f ≤ 62 → ¬ S f 18) {x y : Int32} : F_Sh_itemAt 18 x y δ' = F_Sh_itemAt 18 x y δ := by
  have e61 := (F.2 61 18 (n 61 (by decide) (by decide))).2
  have e62 := (F.2 62 18 (n 62 (by decide) (by decide))).2
  simp only [F_Sh_itemAt, F_Sh_hasItems, e61, e62]
section LY
variable {δ : Dl} {g : SG} {s o : Int} {it : Int → Int}
def Itm (g : SG) (s o : Int) (it : Int → Int) (δ : Dl) : Prop := ∀ k, 0 ≤ k → k < g.1 * g.2.1 → F_Sh_itemAt 18 (zi s) (zi (o + k)) δ = some (zi (it k)) ∧ δ.2.1 173 23 (zi (70 * s + o + k)) = zi (it k) ∧ (-2147483648 ≤ it k ∧ it k < 2147483648)
def RLy (g : SG) (s o : Int) (it : Int → Int) (δm : Dl) (x2 : Int32) (k : Int) (c : Option Int32) (m : Option (Int32 × Dl)) : Prop := (c = some (zi 0) ∧ m = some (zi (-3), δm)) ∨ (c = some (zi 1) ∧ m = F_M_lay_166 (zi s) x2 (zi o) FU (zi (g.1)) (zi (g.1 * g.2.1)) (zi 0) δm ∧ ∀ j, k ≤ j → j < g.1 * g.2.1 → -1 ≤ it j ∧ it j ≤ 9)
theorem lay_in (wg : WG g) (G : CG 3 δ g) (Mg : MG 4 δ g) (hs : 0 ≤ s ∧ s < 3) (ho : 0 ≤ o ∧ o + g.1 * g.2.1 ≤ 70) (hI : Itm g s o it δ) {δm : Dl} (hS : ∀ x y, F_M_hasActor x y δm = F_M_hasActor x y δ) (h173 : δm.2.1 173 23 = δ.2.1 173 23) {x2 : Int32} {y : Int} (hy : 0 ≤ y ∧ y < g.2.1) {f : Nat}
    (cont : ∀ f2, (64 - (y + 1) * g.1).toNat < f2 → RLy g s o it δm x2 ((y + 1) * g.1) (F_St_takesCells_3 3 18 (zi s) (zi o) f (zi (y + 1)) δ) (F_M_lay_97 (zi s) x2 (zi o) f2 (zi (g.1)) (zi (g.1 * g.2.1)) (zi ((y + 1) * g.1)) δm)) :
    ∀ (n : Nat) (x : Int) (f1 f2 : Nat), 0 ≤ x → x ≤ g.1 → (g.1 - x).toNat ≤ n → n < f1 → (64 - (y * g.1 + x)).toNat < f2 → RLy g s o it δm x2 (y * g.1 + x) (F_St_takesCells_15 3 18 (zi s) (zi o) (F_St_takesCells_3 3 18 (zi s) (zi o) f) f1 (zi y) (zi x) δ) (F_M_lay_97 (zi s) x2 (zi o) f2 (zi (g.1)) (zi (g.1 * g.2.1)) (zi (y * g.1 + x)) δm) := by
  have hw := wg.1
  have hh := wg.2.1
  have hm := kw wg.1 wg.2.1
  have done : ∀ (f1 f2 : Nat), 0 < f1 → (64 - (y * g.1 + g.1)).toNat < f2 → RLy g s o it δm x2 (y * g.1 + g.1) (F_St_takesCells_15 3 18 (zi s) (zi o) (F_St_takesCells_3 3 18 (zi s) (zi o) f) f1 (zi y) (zi (g.1)) δ) (F_M_lay_97 (zi s) x2 (zi o) f2 (zi (g.1)) (zi (g.1 * g.2.1)) (zi (y * g.1 + g.1)) δm) := by
    intro f1 f2 h1 h2
    obtain ⟨f1, rfl⟩ : ∃ q, f1 = q + 1 := ⟨f1 - 1, by omega⟩
    have e : y * g.1 + g.1 = (y + 1) * g.1 := by rw [Int.add_mul, Int.one_mul]
    rw [e] at h2 ⊢
    have c := cont f2 h2
    have ec : F_St_takesCells_15 3 18 (zi s) (zi o) (F_St_takesCells_3 3 18 (zi s) (zi o) f) (f1 + 1) (zi y) (zi (g.1)) δ = F_St_takesCells_3 3 18 (zi s) (zi o) f (zi (y + 1)) δ := by
      simp (disch := omega) only [F_St_takesCells_15, F_St_takesCells_15_b, G.1, ↓reduceIte, inb, zl, zi_add, zi_sub, zi_mul, zi_neg, zi_le_t, zi_le_f, zi_lt_t, zi_lt_f, zi_eq_t, zi_eq_f, if_true, if_false, ite_true, ite_false, true_and, and_true, false_and, and_false, not_true_eq_false, not_false_eq_true, true_or, or_true, false_or, or_false, and_self, ge_iff_le, gt_iff_lt]
    rw [ec]
    exact c
  intro n
  induction n with
  | zero => intro x f1 f2 i0 i1 hn h1 h2; have : x = g.1 := by omega
            subst this; exact done f1 f2 (by omega) h2
  | succ n ih =>
    intro x f1 f2 i0 i1 hn h1 h2
    by_cases q : x = g.1
    · subst q; exact done f1 f2 (by omega) h2
    · have K := kf wg.1 wg.2.1 (x := x) (y := y) ⟨i0, by omega⟩ hy
      obtain ⟨f1, rfl⟩ : ∃ q, f1 = q + 1 := ⟨f1 - 1, by omega⟩
      obtain ⟨f2, rfl⟩ : ∃ q, f2 = q + 1 := ⟨f2 - 1, by omega⟩
      obtain ⟨t1, t2, t3⟩ := hI (y * g.1 + x) (by omega) (by omega)
      rw [show o + (y * g.1 + x) = o + y * g.1 + x by omega] at t1
      rw [← h173] at t2
      have hr := ih (x + 1) f1 f2 (by omega) (by omega) (by omega) (by omega) (by omega)
      rw [show y * g.1 + (x + 1) = y * g.1 + x + 1 by omega] at hr
      obtain ⟨ed, es, e3, e4, e5, -⟩ := K
      generalize hv : it (y * g.1 + x) = v at t1 t2 t3
      by_cases q1 : v < -1
      · left
        constructor
        · simp (disch := omega) only [F_St_takesCells_15, F_St_takesCells_15_b, G.1, t1, ↓bnd_eq, bd2, bn2, Option.bind_some, Option.bind_none, ↓reduceIte, inb, zl, zi_add, zi_sub, zi_mul, zi_neg, zi_le_t, zi_le_f, zi_lt_t, zi_lt_f, zi_eq_t, zi_eq_f, if_true, if_false, ite_true, ite_false, true_and, and_true, false_and, and_false, not_true_eq_false, not_false_eq_true, true_or, or_true, false_or, or_false, and_self, ge_iff_le, gt_iff_lt]
        · simp (disch := omega) only [F_M_lay_97, F_M_lay_97_b, F_M_within, t2, ↓bnd_eq, bd2, bn2, Option.bind_some, Option.bind_none, ↓reduceIte, inb, zl, zi_add, zi_sub, zi_mul, zi_neg, zi_le_t, zi_le_f, zi_lt_t, zi_lt_f, zi_eq_t, zi_eq_f, if_true, if_false, ite_true, ite_false, true_and, and_true, false_and, and_false, not_true_eq_false, not_false_eq_true, true_or, or_true, false_or, or_false, and_self, ge_iff_le, gt_iff_lt]
      · by_cases q9 : 9 < v
        · left
          constructor
          · simp (disch := omega) only [F_St_takesCells_15, F_St_takesCells_15_b, G.1, t1, ↓bnd_eq, bd2, bn2, Option.bind_some, Option.bind_none, ↓reduceIte, inb, zl, zi_add, zi_sub, zi_mul, zi_neg, zi_le_t, zi_le_f, zi_lt_t, zi_lt_f, zi_eq_t, zi_eq_f, if_true, if_false, ite_true, ite_false, true_and, and_true, false_and, and_false, not_true_eq_false, not_false_eq_true, true_or, or_true, false_or, or_false, and_self, ge_iff_le, gt_iff_lt]
          · simp (disch := omega) only [F_M_lay_97, F_M_lay_97_b, F_M_within, t2, ↓bnd_eq, bd2, bn2, Option.bind_some, Option.bind_none, ↓reduceIte, inb, zl, zi_add, zi_sub, zi_mul, zi_neg, zi_le_t, zi_le_f, zi_lt_t, zi_lt_f, zi_eq_t, zi_eq_f, if_true, if_false, ite_true, ite_false, true_and, and_true, false_and, and_false, not_true_eq_false, not_false_eq_true, true_or, or_true, false_or, or_false, and_self, ge_iff_le, gt_iff_lt]
        · have up : ∀ c m, RLy g s o it δm x2 (y * g.1 + x + 1) c m → RLy g s o it δm x2 (y * g.1 + x) c m := by
            intro c m hc
            rcases hc with hc | ⟨c1, c2, c3⟩
            · exact Or.inl hc
            · refine Or.inr ⟨c1, c2, fun j j0 j1 => ?_⟩
              by_cases qj : j = y * g.1 + x
              · rw [qj, hv]; omega
              · exact c3 j (by omega) j1
          by_cases qv : v = -1
          · subst qv
            obtain ⟨u, hu, u1, u2⟩ := lk_stands wg G Mg (x := x) (y := y) ⟨i0, by omega⟩ hy
            rw [← hS] at u2
            rcases hu with rfl | rfl
            · have ec : F_St_takesCells_15 3 18 (zi s) (zi o) (F_St_takesCells_3 3 18 (zi s) (zi o) f) (f1 + 1) (zi y) (zi x) δ = F_St_takesCells_15 3 18 (zi s) (zi o) (F_St_takesCells_3 3 18 (zi s) (zi o) f) f1 (zi y) (zi (x + 1)) δ := by
                simp (disch := omega) only [F_St_takesCells_15, F_St_takesCells_15_b, F_St_takesCells_77, G.1, t1, u1, ↓bnd_eq, bd2, bn2, Option.bind_some, Option.bind_none, ↓reduceIte, inb, zl, zi_add, zi_sub, zi_mul, zi_neg, zi_le_t, zi_le_f, zi_lt_t, zi_lt_f, zi_eq_t, zi_eq_f, if_true, if_false, ite_true, ite_false, true_and, and_true, false_and, and_false, not_true_eq_false, not_false_eq_true, true_or, or_true, false_or, or_false, and_self, ge_iff_le, gt_iff_lt]
              have em : F_M_lay_97 (zi s) x2 (zi o) (f2 + 1) (zi (g.1)) (zi (g.1 * g.2.1)) (zi (y * g.1 + x)) δm = F_M_lay_97 (zi s) x2 (zi o) f2 (zi (g.1)) (zi (g.1 * g.2.1)) (zi (y * g.1 + x + 1)) δm := by
                simp (disch := omega) only [F_M_lay_97, F_M_lay_97_b, F_M_lay_157, F_M_within, t2, zi_div, ed, es, u2, ↓bnd_eq, bd2, bn2, Option.bind_some, Option.bind_none, ↓reduceIte, inb, zl, zi_add, zi_sub, zi_mul, zi_neg, zi_le_t, zi_le_f, zi_lt_t, zi_lt_f, zi_eq_t, zi_eq_f, if_true, if_false, ite_true, ite_false, true_and, and_true, false_and, and_false, not_true_eq_false, not_false_eq_true, true_or, or_true, false_or, or_false, and_self, ge_iff_le, gt_iff_lt]
              rw [ec, em]
              exact up _ _ hr
            · left
              constructor
              · simp (disch := omega) only [F_St_takesCells_15, F_St_takesCells_15_b, F_St_takesCells_77, G.1, t1, u1, ↓bnd_eq, bd2, bn2, Option.bind_some, Option.bind_none, ↓reduceIte, inb, zl, zi_add, zi_sub, zi_mul, zi_neg, zi_le_t, zi_le_f, zi_lt_t, zi_lt_f, zi_eq_t, zi_eq_f, if_true, if_false, ite_true, ite_false, true_and, and_true, false_and, and_false, not_true_eq_false, not_false_eq_true, true_or, or_true, false_or, or_false, and_self, ge_iff_le, gt_iff_lt]
              · simp (disch := omega) only [F_M_lay_97, F_M_lay_97_b, F_M_lay_157, F_M_within, t2, zi_div, ed, es, u2, ↓bnd_eq, bd2, bn2, Option.bind_some, Option.bind_none, ↓reduceIte, inb, zl, zi_add, zi_sub, zi_mul, zi_neg, zi_le_t, zi_le_f, zi_lt_t, zi_lt_f, zi_eq_t, zi_eq_f, if_true, if_false, ite_true, ite_false, true_and, and_true, false_and, and_false, not_true_eq_false, not_false_eq_true, true_or, or_true, false_or, or_false, and_self, ge_iff_le, gt_iff_lt]
          · have ec : F_St_takesCells_15 3 18 (zi s) (zi o) (F_St_takesCells_3 3 18 (zi s) (zi o) f) (f1 + 1) (zi y) (zi x) δ = F_St_takesCells_15 3 18 (zi s) (zi o) (F_St_takesCells_3 3 18 (zi s) (zi o) f) f1 (zi y) (zi (x + 1)) δ := by
              simp (disch := omega) only [F_St_takesCells_15, F_St_takesCells_15_b, F_St_takesCells_77, G.1, t1, ↓bnd_eq, bd2, bn2, Option.bind_some, Option.bind_none, ↓reduceIte, inb, zl, zi_add, zi_sub, zi_mul, zi_neg, zi_le_t, zi_le_f, zi_lt_t, zi_lt_f, zi_eq_t, zi_eq_f, if_true, if_false, ite_true, ite_false, true_and, and_true, false_and, and_false, not_true_eq_false, not_false_eq_true, true_or, or_true, false_or, or_false, and_self, ge_iff_le, gt_iff_lt]
            have em : F_M_lay_97 (zi s) x2 (zi o) (f2 + 1) (zi (g.1)) (zi (g.1 * g.2.1)) (zi (y * g.1 + x)) δm = F_M_lay_97 (zi s) x2 (zi o) f2 (zi (g.1)) (zi (g.1 * g.2.1)) (zi (y * g.1 + x + 1)) δm := by
              simp (disch := omega) only [F_M_lay_97, F_M_lay_97_b, F_M_lay_157, F_M_within, t2, ↓bnd_eq, bd2, bn2, Option.bind_some, Option.bind_none, ↓reduceIte, inb, zl, zi_add, zi_sub, zi_mul, zi_neg, zi_le_t, zi_le_f, zi_lt_t, zi_lt_f, zi_eq_t, zi_eq_f, if_true, if_false, ite_true, ite_false, true_and, and_true, false_and, and_false, not_true_eq_false, not_false_eq_true, true_or, or_true, false_or, or_false, and_self, ge_iff_le, gt_iff_lt]
            rw [ec, em]
            exact up _ _ hr
theorem lay_ch (wg : WG g) (G : CG 3 δ g) (Mg : MG 4 δ g) (hs : 0 ≤ s ∧ s < 3) (ho : 0 ≤ o ∧ o + g.1 * g.2.1 ≤ 70) (hI : Itm g s o it δ) {δm : Dl} (hS : ∀ x y, F_M_hasActor x y δm = F_M_hasActor x y δ) (h173 : δm.2.1 173 23 = δ.2.1 173 23) {x2 : Int32} : ∀ (n : Nat) (y : Int) (f1 f2 : Nat), 0 ≤ y → y ≤ g.2.1 → (g.2.1 - y).toNat ≤ n → n < f1 → (64 - y * g.1).toNat < f2 → RLy g s o it δm x2 (y * g.1) (F_St_takesCells_3 3 18 (zi s) (zi o) f1 (zi y) δ) (F_M_lay_97 (zi s) x2 (zi o) f2 (zi (g.1)) (zi (g.1 * g.2.1)) (zi (y * g.1)) δm) := by
  have hw := wg.1
  have hh := wg.2.1
  have hm := kw wg.1 wg.2.1
  have done : ∀ (y : Int) (f1 f2 : Nat), y = g.2.1 → 0 < f1 → 0 < f2 → RLy g s o it δm x2 (y * g.1) (F_St_takesCells_3 3 18 (zi s) (zi o) f1 (zi y) δ) (F_M_lay_97 (zi s) x2 (zi o) f2 (zi (g.1)) (zi (g.1 * g.2.1)) (zi (y * g.1)) δm) := by
    intro y f1 f2 hy h1 h2
    obtain ⟨f1, rfl⟩ : ∃ q, f1 = q + 1 := ⟨f1 - 1, by omega⟩
    obtain ⟨f2, rfl⟩ : ∃ q, f2 = q + 1 := ⟨f2 - 1, by omega⟩
    right
    rw [hy, Int.mul_comm (g.2.1)]
    refine ⟨?_, ?_, fun j j0 j1 => by omega⟩
    · simp (disch := omega) only [F_St_takesCells_3, F_St_takesCells_3_b, G.2.1, ↓reduceIte, inb, zl, zi_add, zi_sub, zi_mul, zi_neg, zi_le_t, zi_le_f, zi_lt_t, zi_lt_f, zi_eq_t, zi_eq_f, if_true, if_false, ite_true, ite_false, true_and, and_true, false_and, and_false, not_true_eq_false, not_false_eq_true, true_or, or_true, false_or, or_false, and_self, ge_iff_le, gt_iff_lt]
    · simp only [F_M_lay_97, zl, zi_add, zi_sub, zi_mul, zi_neg]
      unfold F_M_lay_97_b
      rw [if_pos (by rw [zi_le (by omega) (by omega)]; omega), zl0]
  intro n
  induction n with
  | zero => intro y f1 f2 i0 i1 hn h1 h2; exact done y f1 f2 (by omega) (by omega) (by omega)
  | succ n ih =>
    intro y f1 f2 i0 i1 hn h1 h2
    by_cases q : y = g.2.1
    · exact done y f1 f2 q (by omega) (by omega)
    · obtain ⟨f1, rfl⟩ : ∃ q, f1 = q + 1 := ⟨f1 - 1, by omega⟩
      have r := lay_in wg G Mg hs ho hI hS h173 (x2 := x2) (y := y) ⟨i0, by omega⟩ (f := f1) (fun f2 h => ih (y + 1) f1 f2 (by omega) (by omega) (by omega) (by omega) h) 8 0 FU f2 (by omega) (by omega) (by omega) (by unfold FU; omega) (by omega)
      rw [show y * g.1 + 0 = y * g.1 by omega] at r
      have ec : F_St_takesCells_3 3 18 (zi s) (zi o) (f1 + 1) (zi y) δ = F_St_takesCells_15 3 18 (zi s) (zi o) (F_St_takesCells_3 3 18 (zi s) (zi o) f1) FU (zi y) (zi 0) δ := by
        show F_St_takesCells_3_b 3 18 (zi s) (zi o) (F_St_takesCells_3 3 18 (zi s) (zi o) f1) (zi y) δ = _
        unfold F_St_takesCells_3_b
        rw [G.2.1, if_neg (by rw [zi_le (by omega) (by omega)]; omega), zl0]
      rw [ec]
      exact r
abbrev S73 : Nat → Nat → Prop := fun f a => a = 3 ∧ f = 73
abbrev S112 : Nat → Nat → Prop := fun f a => a = 23 ∧ f = 112
theorem lay_set_in (wg : WG g) (hI : Itm g s o it δ) (hit : ∀ j, 0 ≤ j → j < g.1 * g.2.1 → -1 ≤ it j ∧ it j ≤ 9) {y : Int} (hy : 0 ≤ y ∧ y < g.2.1) {k3 : Int32 → Dl → Option Dl} : ∀ (n : Nat) (x : Int) (f1 : Nat) (δ' : Dl), 0 ≤ x → x ≤ g.1 → (g.1 - x).toNat ≤ n → n < f1 → CG 3 δ' (lgG g it (y * g.1 + x)) → Fr S73 δ δ' → ∃ δ'', F_St_setCells_15 3 18 (zi s) (zi o) k3 f1 (zi y) (zi x) δ' = k3 (zi (y + 1)) δ'' ∧ CG 3 δ'' (lgG g it ((y + 1) * g.1)) ∧ Fr S73 δ δ'' := by
  have hw := wg.1
  have hh := wg.2.1
  have hm := kw wg.1 wg.2.1
  have done : ∀ (f1 : Nat) (δ' : Dl), 0 < f1 → CG 3 δ' (lgG g it (y * g.1 + g.1)) → Fr S73 δ δ' → ∃ δ'', F_St_setCells_15 3 18 (zi s) (zi o) k3 f1 (zi y) (zi (g.1)) δ' = k3 (zi (y + 1)) δ'' ∧ CG 3 δ'' (lgG g it ((y + 1) * g.1)) ∧ Fr S73 δ δ'' := by
    intro f1 δ' h1 C F
    obtain ⟨f1, rfl⟩ : ∃ q, f1 = q + 1 := ⟨f1 - 1, by omega⟩
    have e : y * g.1 + g.1 = (y + 1) * g.1 := by rw [Int.add_mul, Int.one_mul]
    rw [e] at C
    have g70 : δ'.1 70 3 = zi (g.1) := C.1
    refine ⟨δ', ?_, C, F⟩
    simp (disch := omega) only [F_St_setCells_15, F_St_setCells_15_b, g70, ↓reduceIte, inb, zl, zi_add, zi_sub, zi_mul, zi_neg, zi_le_t, zi_le_f, zi_lt_t, zi_lt_f, zi_eq_t, zi_eq_f, if_true, if_false, ite_true, ite_false, true_and, and_true, false_and, and_false, not_true_eq_false, not_false_eq_true, true_or, or_true, false_or, or_false, and_self, ge_iff_le, gt_iff_lt]
  intro n
  induction n with
  | zero => intro x f1 δ' i0 i1 hn h1 C F; have : x = g.1 := by omega
            subst this; exact done f1 δ' (by omega) C F
  | succ n ih =>
    intro x f1 δ' i0 i1 hn h1 C F
    by_cases q : x = g.1
    · subst q; exact done f1 δ' (by omega) C F
    · have K := kf wg.1 wg.2.1 (x := x) (y := y) ⟨i0, by omega⟩ hy
      obtain ⟨f1, rfl⟩ : ∃ q, f1 = q + 1 := ⟨f1 - 1, by omega⟩
      have t1 := (hI (y * g.1 + x) (by omega) (by omega)).1
      rw [show o + (y * g.1 + x) = o + y * g.1 + x by omega, ← itemAt_fr F (fun f _ _ e => absurd e.1 (by decide))] at t1
      have wl : WG (lgG g it (y * g.1 + x)) := wg.lg hit
      have es := c_set (u := zi (it (y * g.1 + x))) C wl (x := x) (y := y) ⟨i0, by show x < g.1; omega⟩ hy
      have C2 := C.cell (u := it (y * g.1 + x)) wl (x := x) (y := y) ⟨i0, by show x < g.1; omega⟩ hy
      have C3 : CG 3 _ (lgG g it (y * g.1 + (x + 1))) := C2.cg rfl rfl rfl (by rw [show y * g.1 + (x + 1) = y * g.1 + x + 1 by omega]; exact fun x' y' a b _ _ => lg_step wg ⟨i0, by omega⟩ x' y' a b) rfl rfl rfl
      obtain ⟨δ'', e, Cn, Fn⟩ := ih (x + 1) f1 _ (by omega) (by omega) (by omega) (by omega) C3 (F.sA ⟨rfl, rfl⟩)
      refine ⟨δ'', ?_, Cn, Fn⟩
      rw [← e]
      have g70 : δ'.1 70 3 = zi (g.1) := C.1
      simp (disch := omega) only [F_St_setCells_15, F_St_setCells_15_b, g70, ↓bse t1, ↓bse es, ↓bnd_eq, bd2, bn2, Option.bind_some, Option.bind_none, ↓reduceIte, inb, zl, zi_add, zi_sub, zi_mul, zi_neg, zi_le_t, zi_le_f, zi_lt_t, zi_lt_f, zi_eq_t, zi_eq_f, if_true, if_false, ite_true, ite_false, true_and, and_true, false_and, and_false, not_true_eq_false, not_false_eq_true, true_or, or_true, false_or, or_false, and_self, ge_iff_le, gt_iff_lt]
theorem lay_set (wg : WG g) (hI : Itm g s o it δ) (hit : ∀ j, 0 ≤ j → j < g.1 * g.2.1 → -1 ≤ it j ∧ it j ≤ 9) : ∀ (n : Nat) (y : Int) (f1 : Nat) (δ' : Dl), 0 ≤ y → y ≤ g.2.1 → (g.2.1 - y).toNat ≤ n → n < f1 → CG 3 δ' (lgG g it (y * g.1)) → Fr S73 δ δ' → ∃ δ'', F_St_setCells_3 3 18 (zi s) (zi o) f1 (zi y) δ' = some δ'' ∧ CG 3 δ'' (lgG g it (g.1 * g.2.1)) ∧ Fr S73 δ δ'' := by
  have hw := wg.1
  have hh := wg.2.1
  have hm := kw wg.1 wg.2.1
  have done : ∀ (y : Int) (f1 : Nat) (δ' : Dl), y = g.2.1 → 0 < f1 → CG 3 δ' (lgG g it (y * g.1)) → Fr S73 δ δ' → ∃ δ'', F_St_setCells_3 3 18 (zi s) (zi o) f1 (zi y) δ' = some δ'' ∧ CG 3 δ'' (lgG g it (g.1 * g.2.1)) ∧ Fr S73 δ δ'' := by
    intro y f1 δ' hy h1 C F
    obtain ⟨f1, rfl⟩ : ∃ q, f1 = q + 1 := ⟨f1 - 1, by omega⟩
    rw [hy, Int.mul_comm (g.2.1)] at C
    have g71 : δ'.1 71 3 = zi (g.2.1) := C.2.1
    refine ⟨δ', ?_, C, F⟩
    simp (disch := omega) only [F_St_setCells_3, F_St_setCells_3_b, g71, ↓reduceIte, inb, zl, zi_add, zi_sub, zi_mul, zi_neg, zi_le_t, zi_le_f, zi_lt_t, zi_lt_f, zi_eq_t, zi_eq_f, if_true, if_false, ite_true, ite_false, true_and, and_true, false_and, and_false, not_true_eq_false, not_false_eq_true, true_or, or_true, false_or, or_false, and_self, ge_iff_le, gt_iff_lt]
  intro n
  induction n with
  | zero => intro y f1 δ' i0 i1 hn h1 C F; exact done y f1 δ' (by omega) (by omega) C F
  | succ n ih =>
    intro y f1 δ' i0 i1 hn h1 C F
    by_cases q : y = g.2.1
    · exact done y f1 δ' q (by omega) C F
    · obtain ⟨f1, rfl⟩ : ∃ q, f1 = q + 1 := ⟨f1 - 1, by omega⟩
      obtain ⟨δ1, e1, C1, F1⟩ := lay_set_in (δ := δ) wg hI hit (y := y) ⟨i0, by omega⟩ (k3 := F_St_setCells_3 3 18 (zi s) (zi o) f1) 8 0 FU δ' (by omega) (by omega) (by omega) (by unfold FU; omega) (by rw [show y * g.1 + 0 = y * g.1 by omega]; exact C) F
      obtain ⟨δ'', e, Cn, Fn⟩ := ih (y + 1) f1 δ1 (by omega) (by omega) (by omega) (by omega) C1 F1
      refine ⟨δ'', ?_, Cn, Fn⟩
      rw [← e, ← e1]
      show F_St_setCells_3_b 3 18 (zi s) (zi o) (F_St_setCells_3 3 18 (zi s) (zi o) f1) (zi y) δ' = _
      have g71 : δ'.1 71 3 = zi (g.2.1) := C.2.1
      unfold F_St_setCells_3_b
      rw [g71, if_neg (by rw [zi_le (by omega) (by omega)]; omega), zl0]
theorem lay_m (wg : WG g) (hs : 0 ≤ s ∧ s < 3) (ho : 0 ≤ o ∧ o + g.1 * g.2.1 ≤ 70) (hI : ∀ k, 0 ≤ k → k < g.1 * g.2.1 → δ.2.1 173 23 (zi (70 * s + o + k)) = zi (it k)) (hit : ∀ j, 0 ≤ j → j < g.1 * g.2.1 → -1 ≤ it j ∧ it j ≤ 9) {x2 : Int32} : ∀ (n : Nat) (k : Int) (f : Nat) (δ' : Dl), 0 ≤ k → k ≤ g.1 * g.2.1 → (g.1 * g.2.1 - k).toNat ≤ n → n < f → MG 4 δ' (lgG g it k) → Fr S112 δ δ' → ∃ δ'', F_M_lay_166 (zi s) x2 (zi o) f (zi (g.1)) (zi (g.1 * g.2.1)) (zi k) δ' = some (zi 1, sI δ'' 152 23 (zi (-1))) ∧ MG 4 δ'' (lgG g it (g.1 * g.2.1)) ∧ Fr S112 δ δ'' ∧ MK 4 δ' δ'' := by
  have hw := wg.1
  have hh := wg.2.1
  have hm := kw wg.1 wg.2.1
  have done : ∀ (f : Nat) (δ' : Dl), 0 < f → MG 4 δ' (lgG g it (g.1 * g.2.1)) → Fr S112 δ δ' → ∃ δ'', F_M_lay_166 (zi s) x2 (zi o) f (zi (g.1)) (zi (g.1 * g.2.1)) (zi (g.1 * g.2.1)) δ' = some (zi 1, sI δ'' 152 23 (zi (-1))) ∧ MG 4 δ'' (lgG g it (g.1 * g.2.1)) ∧ Fr S112 δ δ'' ∧ MK 4 δ' δ'' := by
    intro f δ' h1 C F
    obtain ⟨f, rfl⟩ : ∃ q, f = q + 1 := ⟨f - 1, by omega⟩
    refine ⟨δ', ?_, C, F, MK.rf⟩
    simp (disch := omega) only [F_M_lay_166, F_M_lay_166_b, ↓bnd_eq, bd2, bn2, Option.bind_some, Option.bind_none, ↓reduceIte, inb, zl, zi_add, zi_sub, zi_mul, zi_neg, zi_le_t, zi_le_f, zi_lt_t, zi_lt_f, zi_eq_t, zi_eq_f, if_true, if_false, ite_true, ite_false, true_and, and_true, false_and, and_false, not_true_eq_false, not_false_eq_true, true_or, or_true, false_or, or_false, and_self, ge_iff_le, gt_iff_lt]
  intro n
  induction n with
  | zero => intro k f δ' i0 i1 hn h1 C F; have : k = g.1 * g.2.1 := by omega
            rw [this] at C ⊢; exact done f δ' (by omega) C F
  | succ n ih =>
    intro k f δ' i0 i1 hn h1 C F
    by_cases q : k = g.1 * g.2.1
    · rw [q] at C ⊢; exact done f δ' (by omega) C F
    · obtain ⟨d1, d2, d3, d4⟩ := kd wg.1 wg.2.1 (k := k) ⟨i0, by omega⟩
      obtain ⟨f, rfl⟩ : ∃ q, f = q + 1 := ⟨f - 1, by omega⟩
      have t1 := hI k i0 (by omega)
      rw [← (F.2 173 23 (fun e => absurd e.2 (by decide))).2] at t1
      have wl : WG (lgG g it k) := wg.lg hit
      have C2 := C.cell (u := it k) wl (by decide) (x := k - k / g.1 * g.1) (y := k / g.1) d2 d1
      have st := lg_step (it := it) wg (x := k - k / g.1 * g.1) (y := k / g.1) d2
      rw [d3] at st
      have C3 : MG 4 _ (lgG g it (k + 1)) := C2.cg rfl rfl rfl (fun x' y' a b _ _ => st x' y' a b) rfl rfl rfl
      obtain ⟨δ'', e, Cn, Fn, Kn⟩ := ih (k + 1) f _ (by omega) (by omega) (by omega) (by omega) C3 (F.sA ⟨rfl, rfl⟩)
      refine ⟨δ'', ?_, Cn, Fn, (MK.rf.sA (fun e => by omega) (by omega)).tr Kn⟩
      rw [← e]
      have ei : 64 * 4 + (8 * (k / g.1) + (k - k / g.1 * g.1)) = 256 + 8 * (k / g.1) + (k - k / g.1 * g.1) := by omega
      rw [ei]
      simp (disch := omega) only [F_M_lay_166, F_M_lay_166_b, F_M_spot, zi_div, t1, ↓bnd_eq, bd2, bn2, Option.bind_some, Option.bind_none, ↓reduceIte, inb, zl, zi_add, zi_sub, zi_mul, zi_neg, zi_le_t, zi_le_f, zi_lt_t, zi_lt_f, zi_eq_t, zi_eq_f, if_true, if_false, ite_true, ite_false, true_and, and_true, false_and, and_false, not_true_eq_false, not_false_eq_true, true_or, or_true, false_or, or_false, and_self, ge_iff_le, gt_iff_lt]
end LY
