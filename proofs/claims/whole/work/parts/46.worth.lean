/-! what a round is worth: both sides alike (wip/whole/pure) -/
theorem sI_id {δ : Dl} {f a : Nat} : sI δ f a (δ.1 f a) = δ := by
  unfold sI
  have : (fun g b => if g = f ∧ b = a then δ.1 f a else δ.1 g b) = δ.1 := by
    funext g b
    by_cases h : g = f ∧ b = a
    · rw [if_pos h, h.1, h.2]
    · rw [if_neg h]
  rw [this]
theorem sI_sI {δ : Dl} {f a : Nat} {x y : Int32} : sI (sI δ f a x) f a y = sI δ f a y := by
  unfold sI
  have : (fun g b => if g = f ∧ b = a then y else (fun g b => if g = f ∧ b = a then x else δ.1 g b) g b) = (fun g b => if g = f ∧ b = a then y else δ.1 g b) := by
    funext g b
    by_cases h : g = f ∧ b = a
    · rw [if_pos h, if_pos h]
    · rw [if_neg h, if_neg h]; show (if g = f ∧ b = a then x else δ.1 g b) = _; rw [if_neg h]
  show (_, _) = (_, _)
  rw [this]
theorem sI_at {δ : Dl} {f a : Nat} {x : Int32} : (sI δ f a x).1 f a = x := if_pos ⟨rfl, rfl⟩
theorem div_m1 (x : Int32) : x / zi (-1) = -x := by
  have e : zi (-1) = -1 := by decide
  rw [e]
  apply Int32.toInt_inj.mp
  have e1 : (-1 : Int32).toInt = -1 := by decide
  rw [Int32.toInt_div, e1, Int32.toInt_neg, Int.tdiv_neg, Int.tdiv_one]
section WO
variable {a p s : Nat} {v : PG} {g : SG} {δc δm : Dl} {k : Int}
theorem hole_none (W : PW v) {b h : Int} (b0 : 0 ≤ b) (b1 : b < v.1) (h0 : 0 ≤ h) (h1 : h < 5) (hn : ¬ HH (v.2.2.1 b 0) h) : v.2.2.2.1 b h = -1 := by
  rcases (W.2.2.1 b b0 b1).2.2.2.2 h h0 h1 with e | ⟨l1, l2, l3⟩
  · exact e
  · exfalso
    have := (W.2.2.1 _ l1.1 l1.2).2.2.1
    rcases this with ⟨e, -⟩ | ⟨-, -, -, -, e, -⟩
    · omega
    · rw [l2, l3] at e; exact hn e
theorem hole_kind (W : PW v) {b h : Int} (b0 : 0 ≤ b) (b1 : b < v.1) (h0 : 0 ≤ h) (h1 : h < 5) (hn : v.2.2.2.1 b h ≠ -1) : (0 ≤ v.2.2.2.1 b h ∧ v.2.2.2.1 b h < v.1) ∧ v.2.2.1 (v.2.2.2.1 b h) 2 = b ∧ v.2.2.1 (v.2.2.2.1 b h) 3 = h ∧ (h ≤ 2 → v.2.2.1 (v.2.2.2.1 b h) 0 ≤ 12) ∧ (3 ≤ h → 13 ≤ v.2.2.1 (v.2.2.2.1 b h) 0) ∧ HH (v.2.2.1 b 0) h := by
  rcases (W.2.2.1 b b0 b1).2.2.2.2 h h0 h1 with e | ⟨l1, l2, l3⟩
  · exact absurd e hn
  · have := (W.2.2.1 _ l1.1 l1.2).2.2.1
    rcases this with ⟨e, -⟩ | ⟨-, -, -, -, e, e1, e2⟩
    · omega
    · rw [l3] at e1 e2; rw [l2, l3] at e; exact ⟨l1, l2, l3, e1, e2, e⟩
/-- a round that can be worked out d deep -/
def RDp (v : PG) (b d : Int) : Prop := b = -1 ∨ ((0 ≤ b ∧ b < v.1) ∧ 13 ≤ v.2.2.1 b 0 ∧ ∀ i : Nat, (i : Int) ≤ d → 0 ≤ anc v b i ∧ anc v b i < v.1)
theorem RDp.down {b d h : Int} (W : PW v) (b0 : 0 ≤ b) (b1 : b < v.1) (hc : ∀ i : Nat, (i : Int) ≤ d → 0 ≤ anc v b i ∧ anc v b i < v.1) (h0 : 3 ≤ h) (h1 : h < 5) : RDp v (v.2.2.2.1 b h) (d + 1) := by
  by_cases q : v.2.2.2.1 b h = -1
  · exact Or.inl q
  · obtain ⟨k1, k2, k3, k4, k5, k6⟩ := hole_kind W b0 b1 (by omega) h1 q
    refine Or.inr ⟨k1, k5 h0, fun i hi => ?_⟩
    cases i with
    | zero => exact k1
    | succ i => rw [anc_s, k2]; exact hc i (by omega)
theorem RDp.d {b d : Int} (W : PW v) (h : RDp v b d) (hb : b ≠ -1) (d0 : 0 ≤ d) : d < 30 := by
  rcases h with e | ⟨-, -, h⟩
  · exact absurd e hb
  · have := anc_lt W (n := d.toNat) (b := b) (fun i hi => h i (by omega))
    omega
theorem c_worthN (C : CP p δc v) {n : Nat} {x y : Int32} (hp : wsr 40 a = p) : F_Ru_worth (n + 1) a (zi (-1)) x y δc = some (zi 0, δc) := by
  simp only [F_Ru_worth, F_Ru_worth_b, hp, zl, zi_add, zi_sub, zi_mul, zi_neg]
  simp (disch := omega) only [↓bnd_eq, bd2, bn2, Option.bind_some, Option.bind_none, ↓bse (c_kindN C rfl), ↓reduceIte, inb, zl, zi_add, zi_sub, zi_mul, zi_neg, zi_le_t, zi_le_f, zi_lt_t, zi_lt_f, zi_eq_t, zi_eq_f, if_true, if_false, ite_true, ite_false, true_and, and_true, false_and, and_false, not_true_eq_false, not_false_eq_true, true_or, or_true, false_or, or_false, and_self, ge_iff_le, gt_iff_lt]
theorem m_worthN {n : Nat} {x : Int32} {δ : Dl} : F_M_worth (n + 1) (zi (-1)) x δ = some (zi 0, δ) := by
  simp (disch := omega) only [F_M_worth, F_M_worth_b, ↓bnd_eq, bd2, bn2, Option.bind_some, Option.bind_none, ↓reduceIte, inb, zl, zi_add, zi_sub, zi_mul, zi_neg, zi_le_t, zi_le_f, zi_lt_t, zi_lt_f, zi_eq_t, zi_eq_f, if_true, if_false, ite_true, ite_false, true_and, and_true, false_and, and_false, not_true_eq_false, not_false_eq_true, true_or, or_true, false_or, or_false, and_self, ge_iff_le, gt_iff_lt]
set_option maxHeartbeats 4000000 in
theorem lk_worth (W : PW v) (wg : WG g) (C : CP p δc v) (M : MP δm v) (R : RS s g δc δm) (m : RM k g δm) (hp : wsr 40 a = p) (hs : wsr 41 a = s) {i : Int} (i0 : 0 ≤ i) (i1 : i < g.2.2.1) : ∀ (n : Nat) (b d : Int) (r : Int32), RDp v b d → 0 ≤ d → d ≤ 30 → 32 ≤ d + n →
    ∃ u u' r', F_Ru_worth n a (zi b) (zi i) (zi d) (sI δc 53 a r) = some (u, sI δc 53 a r') ∧ F_M_worth n (zi b) (zi i) (sI δm 174 23 r) = some (u', sI δm 174 23 r') ∧ (r' = zi 0 → u = u') ∧ (r ≠ zi 0 → r' = r) := by
  intro n
  have ha := wg.2.2.1
  have hw := wg.1
  have hh := wg.2.1
  have hN := W.1
  have C' : ∀ r, CP p (sI δc 53 a r) v := fun r => C
  have M' : ∀ r, MP (sI δm 174 23 r) v := fun r => M
  have R' : ∀ r r', RS s g (sI δc 53 a r) (sI δm 174 23 r') := fun r r' => R
  have m' : ∀ r, RM k g (sI δm 174 23 r) := fun r => m
  obtain ⟨x, y, dd, rl, hx, hy, hd, hr, e74, e134, e135, e75, e136, e76, e77, e78, e139, e79⟩ := R.2.2.2.2.2 i i0 i1
  induction n with
  | zero => intro b d r hb d0 d1 hn; omega
  | succ n ih =>
    intro b d r hb d0 d1 hn
    by_cases qb : b = -1
    · subst qb
      exact ⟨zi 0, zi 0, r, c_worthN (C' r) hp, m_worthN, fun _ => rfl, fun _ => rfl⟩
    · have hd30 := hb.d W qb d0
      rcases hb with e | ⟨⟨b0, b1⟩, hk13, hc⟩
      · exact absurd e qb
      have hk := W.k b0 b1
      have ck := fun r => c_kind (C' r) W b0 b1
      obtain ⟨f0, f1, f2, f3, f4⟩ := M.2.2.1 b b0 b1
      have g3 := M.2.2.2.1 b 3 b0 b1 (by decide) (by decide)
      have g4 := M.2.2.2.1 b 4 b0 b1 (by decide) (by decide)
      by_cases qr : r = zi 0
      · subst qr
        obtain ⟨n', rfl⟩ : ∃ q, n = q + 1 := ⟨n - 1, by omega⟩
        obtain ⟨u3, u3', r3, w3, w3', k3, k3'⟩ := ih (v.2.2.2.1 b 3) (d + 1) (zi 0) (RDp.down W b0 b1 hc (by decide) (by decide)) (by omega) (by omega) (by omega)
        obtain ⟨u4, u4', r4, w4, w4', k4, k4'⟩ := ih (v.2.2.2.1 b 4) (d + 1) r3 (RDp.down W b0 b1 hc (by decide) (by decide)) (by omega) (by omega) (by omega)
        have h3 := c_inHole (C' (zi 0)) W b0 b1 (j := 3) (by decide) (by decide)
        have h4 := c_inHole (C' r3) W b0 b1 (j := 4) (by decide) (by decide)
        -- the reference's two
        have m4 : F_M_worth_46 (F_M_worth (n' + 1)) (zi b) (zi i) u3' (sI δm 174 23 r3) = F_M_worth_79 (F_M_worth (n' + 1)) (zi b) (zi i) u3' u4' (sI δm 174 23 r4) := by
          rcases m_hasHole (k := v.2.2.1 b 0) (h := 4) hk (by omega) with ⟨q, q'⟩ | ⟨q, q'⟩
          · have z1 : (1 : Int32) = zi 1 := zl 1
            rw [z1] at q
            simp (disch := omega) only [F_M_worth_46, ↓bnd_eq, bd2, bn2, Option.bind_some, Option.bind_none, q2I, f0, q, g4, w4', ↓reduceIte, inb, zl, zi_add, zi_sub, zi_mul, zi_neg, zi_le_t, zi_le_f, zi_lt_t, zi_lt_f, zi_eq_t, zi_eq_f, if_true, if_false, ite_true, ite_false, true_and, and_true, false_and, and_false, not_true_eq_false, not_false_eq_true, true_or, or_true, false_or, or_false, and_self, ge_iff_le, gt_iff_lt]
          · have z0 : (0 : Int32) = zi 0 := zl 0
            rw [z0] at q
            have e := hole_none W b0 b1 (h := 4) (by decide) (by decide) q'
            rw [e, m_worthN] at w4'
            obtain ⟨e1, e2⟩ := Prod.mk.inj (Option.some.inj w4')
            rw [← e1, ← e2]
            simp (disch := omega) only [F_M_worth_46, ↓bnd_eq, bd2, bn2, Option.bind_some, Option.bind_none, q2I, f0, q, ↓reduceIte, inb, zl, zi_add, zi_sub, zi_mul, zi_neg, zi_le_t, zi_le_f, zi_lt_t, zi_lt_f, zi_eq_t, zi_eq_f, if_true, if_false, ite_true, ite_false, true_and, and_true, false_and, and_false, not_true_eq_false, not_false_eq_true, true_or, or_true, false_or, or_false, and_self, ge_iff_le, gt_iff_lt]
        have m3 : F_M_worth (n' + 1 + 1) (zi b) (zi i) (sI δm 174 23 (zi 0)) = F_M_worth_79 (F_M_worth (n' + 1)) (zi b) (zi i) u3' u4' (sI δm 174 23 r4) := by
          rw [← m4]
          rcases m_hasHole (k := v.2.2.1 b 0) (h := 3) hk (by omega) with ⟨q, q'⟩ | ⟨q, q'⟩
          · have z1 : (1 : Int32) = zi 1 := zl 1
            rw [z1] at q
            show F_M_worth_b (F_M_worth (n' + 1)) (zi b) (zi i) (sI δm 174 23 (zi 0)) = _
            simp (disch := omega) only [F_M_worth_b, ↓bnd_eq, bd2, bn2, Option.bind_some, Option.bind_none, q2I, sI_at, f0, q, g3, w3', ↓reduceIte, inb, zl, zi_add, zi_sub, zi_mul, zi_neg, zi_le_t, zi_le_f, zi_lt_t, zi_lt_f, zi_eq_t, zi_eq_f, if_true, if_false, ite_true, ite_false, true_and, and_true, false_and, and_false, not_true_eq_false, not_false_eq_true, true_or, or_true, false_or, or_false, and_self, ge_iff_le, gt_iff_lt]
          · have z0 : (0 : Int32) = zi 0 := zl 0
            rw [z0] at q
            have e := hole_none W b0 b1 (h := 3) (by decide) (by decide) q'
            rw [e, m_worthN] at w3'
            obtain ⟨e1, e2⟩ := Prod.mk.inj (Option.some.inj w3')
            rw [← e1, ← e2]
            show F_M_worth_b (F_M_worth (n' + 1)) (zi b) (zi i) (sI δm 174 23 (zi 0)) = _
            simp (disch := omega) only [F_M_worth_b, ↓bnd_eq, bd2, bn2, Option.bind_some, Option.bind_none, q2I, sI_at, f0, q, ↓reduceIte, inb, zl, zi_add, zi_sub, zi_mul, zi_neg, zi_le_t, zi_le_f, zi_lt_t, zi_lt_f, zi_eq_t, zi_eq_f, if_true, if_false, ite_true, ite_false, true_and, and_true, false_and, and_false, not_true_eq_false, not_false_eq_true, true_or, or_true, false_or, or_false, and_self, ge_iff_le, gt_iff_lt]
        rw [m3]
        show ∃ u u' r', F_Ru_worth_b (F_Ru_worth (n' + 1)) a (zi b) (zi i) (zi d) (sI δc 53 a (zi 0)) = _ ∧ _
        by_cases q4 : r4 = zi 0
        · have q3 : r3 = zi 0 := by
            by_cases q3 : r3 = zi 0
            · exact q3
            · exact absurd (k4' q3 ▸ q4) q3
          subst q3; subst q4
          have e3 := k3 rfl
          have e4 := k4 rfl
          subst e3; subst e4
          obtain ⟨uw, huw, cw, mw⟩ := lk_walled wg (R' (zi 0) (zi 0)) (m' (zi 0)) i0 i1
          obtain ⟨um, hum, cm, mm⟩ := lk_meets wg (R' (zi 0) (zi 0)) (m' (zi 0)) i0 i1
          have cn := c_num (C' (zi 0)) W b0 b1
          have ch := c_here wg (R' (zi 0) (zi 0)) i0 i1 hx hy e74
          rcases (show v.2.2.1 b 0 = 13 ∨ v.2.2.1 b 0 = 14 ∨ v.2.2.1 b 0 = 15 ∨ v.2.2.1 b 0 = 16 ∨ v.2.2.1 b 0 = 17 ∨ v.2.2.1 b 0 = 18 ∨ v.2.2.1 b 0 = 19 ∨ v.2.2.1 b 0 = 20 ∨ v.2.2.1 b 0 = 21 ∨ v.2.2.1 b 0 = 22 by omega) with q | q | q | q | q | q | q | q | q | q
          all_goals (rw [q] at f0; have ck0 := (ck (zi 0)).trans (by rw [q]))
          · refine ⟨zi (v.2.2.1 b 1), zi (v.2.2.1 b 1), zi 0, ?_, ?_, fun _ => rfl, fun h => absurd rfl h⟩
            · simp only [F_Ru_worth_b, F_Ru_worth_205, hp, hs, zl, zi_add, zi_sub, zi_mul, zi_neg]
              simp (disch := omega) only [↓bnd_eq, bd2, bn2, Option.bind_some, Option.bind_none, ↓bse ck0, ↓bse h3, ↓b2e w3, ↓bse h4, ↓b2e w4, sI_at, ↓bse cn, ↓reduceIte, inb, zl, zi_add, zi_sub, zi_mul, zi_neg, zi_le_t, zi_le_f, zi_lt_t, zi_lt_f, zi_eq_t, zi_eq_f, if_true, if_false, ite_true, ite_false, true_and, and_true, false_and, and_false, not_true_eq_false, not_false_eq_true, true_or, or_true, false_or, or_false, and_self, ge_iff_le, gt_iff_lt]
            · simp (disch := omega) only [F_M_worth_79, ↓bnd_eq, bd2, bn2, Option.bind_some, Option.bind_none, q2I, sI_at, f0, f1, ↓reduceIte, inb, zl, zi_add, zi_sub, zi_mul, zi_neg, zi_le_t, zi_le_f, zi_lt_t, zi_lt_f, zi_eq_t, zi_eq_f, if_true, if_false, ite_true, ite_false, true_and, and_true, false_and, and_false, not_true_eq_false, not_false_eq_true, true_or, or_true, false_or, or_false, and_self, ge_iff_le, gt_iff_lt]
          · refine ⟨δm.2.1 137 23 (zi i), δm.2.1 137 23 (zi i), zi 0, ?_, ?_, fun _ => rfl, fun h => absurd rfl h⟩
            · simp only [F_Ru_worth_b, F_Ru_worth_205, hp, hs, zl, zi_add, zi_sub, zi_mul, zi_neg]
              simp (disch := omega) only [↓bnd_eq, bd2, bn2, Option.bind_some, Option.bind_none, ↓bse ck0, ↓bse h3, ↓b2e w3, ↓bse h4, ↓b2e w4, F_St_valueOf, q1I, q2I, sI_at, R.2.2.1, e76, Nat.reduceEqDiff, ↓reduceIte, inb, zl, zi_add, zi_sub, zi_mul, zi_neg, zi_le_t, zi_le_f, zi_lt_t, zi_lt_f, zi_eq_t, zi_eq_f, if_true, if_false, ite_true, ite_false, true_and, and_true, false_and, and_false, not_true_eq_false, not_false_eq_true, true_or, or_true, false_or, or_false, and_self, ge_iff_le, gt_iff_lt]
            · simp (disch := omega) only [F_M_worth_79, ↓bnd_eq, bd2, bn2, Option.bind_some, Option.bind_none, q2I, sI_at, f0, f1, ↓reduceIte, inb, zl, zi_add, zi_sub, zi_mul, zi_neg, zi_le_t, zi_le_f, zi_lt_t, zi_lt_f, zi_eq_t, zi_eq_f, if_true, if_false, ite_true, ite_false, true_and, and_true, false_and, and_false, not_true_eq_false, not_false_eq_true, true_or, or_true, false_or, or_false, and_self, ge_iff_le, gt_iff_lt]
          · refine ⟨u3 + u4, u3 + u4, zi 0, ?_, ?_, fun _ => rfl, fun h => absurd rfl h⟩
            · simp only [F_Ru_worth_b, F_Ru_worth_205, hp, hs, zl, zi_add, zi_sub, zi_mul, zi_neg]
              simp (disch := omega) only [↓bnd_eq, bd2, bn2, Option.bind_some, Option.bind_none, ↓bse ck0, ↓bse h3, ↓b2e w3, ↓bse h4, ↓b2e w4, sI_at, ↓bse cn, ↓reduceIte, inb, zl, zi_add, zi_sub, zi_mul, zi_neg, zi_le_t, zi_le_f, zi_lt_t, zi_lt_f, zi_eq_t, zi_eq_f, if_true, if_false, ite_true, ite_false, true_and, and_true, false_and, and_false, not_true_eq_false, not_false_eq_true, true_or, or_true, false_or, or_false, and_self, ge_iff_le, gt_iff_lt]
            · simp (disch := omega) only [F_M_worth_79, ↓bnd_eq, bd2, bn2, Option.bind_some, Option.bind_none, q2I, sI_at, f0, f1, ↓reduceIte, inb, zl, zi_add, zi_sub, zi_mul, zi_neg, zi_le_t, zi_le_f, zi_lt_t, zi_lt_f, zi_eq_t, zi_eq_f, if_true, if_false, ite_true, ite_false, true_and, and_true, false_and, and_false, not_true_eq_false, not_false_eq_true, true_or, or_true, false_or, or_false, and_self, ge_iff_le, gt_iff_lt]
          · refine ⟨δm.2.1 133 23 (zi (8 * y + x)), δm.2.1 133 23 (zi (8 * y + x)), zi 0, ?_, ?_, fun _ => rfl, fun h => absurd rfl h⟩
            · simp only [F_Ru_worth_b, F_Ru_worth_205, hp, hs, zl, zi_add, zi_sub, zi_mul, zi_neg]
              simp (disch := omega) only [↓bnd_eq, bd2, bn2, Option.bind_some, Option.bind_none, ↓bse ck0, ↓bse h3, ↓b2e w3, ↓bse h4, ↓b2e w4, q2I, sI_at, ↓bse ch, ↓reduceIte, inb, zl, zi_add, zi_sub, zi_mul, zi_neg, zi_le_t, zi_le_f, zi_lt_t, zi_lt_f, zi_eq_t, zi_eq_f, if_true, if_false, ite_true, ite_false, true_and, and_true, false_and, and_false, not_true_eq_false, not_false_eq_true, true_or, or_true, false_or, or_false, and_self, ge_iff_le, gt_iff_lt]
            · simp (disch := omega) only [F_M_worth_79, ↓bnd_eq, bd2, bn2, Option.bind_some, Option.bind_none, q2I, sI_at, f0, e134, e135, ↓reduceIte, inb, zl, zi_add, zi_sub, zi_mul, zi_neg, zi_le_t, zi_le_f, zi_lt_t, zi_lt_f, zi_eq_t, zi_eq_f, if_true, if_false, ite_true, ite_false, true_and, and_true, false_and, and_false, not_true_eq_false, not_false_eq_true, true_or, or_true, false_or, or_false, and_self, ge_iff_le, gt_iff_lt]
          · -- ITEM
            by_cases q1 : rl = -1
            · subst q1
              have c1 : F_St_refusalOfItem s (zi i) u3 (sI δc 53 a (zi 0)) = some (zi (-11)) := by
                simp (disch := omega) only [F_St_refusalOfItem, ↓bnd_eq, bd2, bn2, Option.bind_some, Option.bind_none, q1I, q2I, R.2.2.1, e78, Nat.reduceEqDiff, ↓reduceIte, inb, zl, zi_add, zi_sub, zi_mul, zi_neg, zi_le_t, zi_le_f, zi_lt_t, zi_lt_f, zi_eq_t, zi_eq_f, if_true, if_false, ite_true, ite_false, true_and, and_true, false_and, and_false, not_true_eq_false, not_false_eq_true, true_or, or_true, false_or, or_false, and_self, ge_iff_le, gt_iff_lt]
              have c2 : ∃ z, F_St_itemAt s (zi i) u3 (sI δc 53 a (zi (-11))) = some z := by
                obtain ⟨j, rfl, hj⟩ := zi_ex u3
                by_cases qj : j < 0
                · exact ⟨zi (-2147483648), by simp (disch := omega) only [F_St_itemAt, ↓bnd_eq, bd2, bn2, Option.bind_some, Option.bind_none, q1I, q2I, R.2.2.1, e78, Nat.reduceEqDiff, ↓reduceIte, inb, zl, zi_add, zi_sub, zi_mul, zi_neg, zi_le_t, zi_le_f, zi_lt_t, zi_lt_f, zi_eq_t, zi_eq_f, if_true, if_false, ite_true, ite_false, true_and, and_true, false_and, and_false, not_true_eq_false, not_false_eq_true, true_or, or_true, false_or, or_false, and_self, ge_iff_le, gt_iff_lt]⟩
                · exact ⟨zi (-2147483648), by simp (disch := omega) only [F_St_itemAt, ↓bnd_eq, bd2, bn2, Option.bind_some, Option.bind_none, q1I, q2I, R.2.2.1, e78, Nat.reduceEqDiff, ↓reduceIte, inb, zl, zi_add, zi_sub, zi_mul, zi_neg, zi_le_t, zi_le_f, zi_lt_t, zi_lt_f, zi_eq_t, zi_eq_f, if_true, if_false, ite_true, ite_false, true_and, and_true, false_and, and_false, not_true_eq_false, not_false_eq_true, true_or, or_true, false_or, or_false, and_self, ge_iff_le, gt_iff_lt]⟩
              obtain ⟨z, c2⟩ := c2
              refine ⟨z, zi 0, zi (-11), ?_, ?_, fun e => absurd e (by decide), fun h => absurd rfl h⟩
              · simp only [F_Ru_worth_b, F_Ru_worth_205, hp, hs, zl, zi_add, zi_sub, zi_mul, zi_neg]
                simp (disch := omega) only [↓bnd_eq, bd2, bn2, Option.bind_some, Option.bind_none, ↓bse ck0, ↓bse h3, ↓b2e w3, ↓bse h4, ↓b2e w4, sI_at, ↓bse c1, c2, sI_sI, ↓reduceIte, inb, zl, zi_add, zi_sub, zi_mul, zi_neg, zi_le_t, zi_le_f, zi_lt_t, zi_lt_f, zi_eq_t, zi_eq_f, if_true, if_false, ite_true, ite_false, true_and, and_true, false_and, and_false, not_true_eq_false, not_false_eq_true, true_or, or_true, false_or, or_false, and_self, ge_iff_le, gt_iff_lt]
              · simp (disch := omega) only [F_M_worth_79, F_M_refuses, ↓bnd_eq, bd2, bn2, Option.bind_some, Option.bind_none, q2I, sI_at, sI_sI, f0, e139, ↓reduceIte, inb, zl, zi_add, zi_sub, zi_mul, zi_neg, zi_le_t, zi_le_f, zi_lt_t, zi_lt_f, zi_eq_t, zi_eq_f, if_true, if_false, ite_true, ite_false, true_and, and_true, false_and, and_false, not_true_eq_false, not_false_eq_true, true_or, or_true, false_or, or_false, and_self, ge_iff_le, gt_iff_lt]
            · obtain ⟨j, rfl, hj⟩ := zi_ex u3
              by_cases qj : 0 ≤ j ∧ j < rl
              · have c1 : F_St_refusalOfItem s (zi i) (zi j) (sI δc 53 a (zi 0)) = some (zi 0) := by
                  simp (disch := omega) only [F_St_refusalOfItem, ↓bnd_eq, bd2, bn2, Option.bind_some, Option.bind_none, q1I, q2I, R.2.2.1, e78, Nat.reduceEqDiff, ↓reduceIte, inb, zl, zi_add, zi_sub, zi_mul, zi_neg, zi_le_t, zi_le_f, zi_lt_t, zi_lt_f, zi_eq_t, zi_eq_f, if_true, if_false, ite_true, ite_false, true_and, and_true, false_and, and_false, not_true_eq_false, not_false_eq_true, true_or, or_true, false_or, or_false, and_self, ge_iff_le, gt_iff_lt]
                have c2 : F_St_itemAt s (zi i) (zi j) (sI δc 53 a (zi 0)) = some (δm.2.1 140 23 (zi (20 * i + j))) := by
                  have := e79 j qj.1 qj.2
                  simp (disch := omega) only [F_St_itemAt, ↓bnd_eq, bd2, bn2, Option.bind_some, Option.bind_none, q1I, q2I, R.2.2.1, e78, this, Nat.reduceEqDiff, ↓reduceIte, inb, zl, zi_add, zi_sub, zi_mul, zi_neg, zi_le_t, zi_le_f, zi_lt_t, zi_lt_f, zi_eq_t, zi_eq_f, if_true, if_false, ite_true, ite_false, true_and, and_true, false_and, and_false, not_true_eq_false, not_false_eq_true, true_or, or_true, false_or, or_false, and_self, ge_iff_le, gt_iff_lt]
                refine ⟨δm.2.1 140 23 (zi (20 * i + j)), δm.2.1 140 23 (zi (20 * i + j)), zi 0, ?_, ?_, fun _ => rfl, fun h => absurd rfl h⟩
                · simp only [F_Ru_worth_b, F_Ru_worth_205, hp, hs, zl, zi_add, zi_sub, zi_mul, zi_neg]
                  simp (disch := omega) only [↓bnd_eq, bd2, bn2, Option.bind_some, Option.bind_none, ↓bse ck0, ↓bse h3, ↓b2e w3, ↓bse h4, ↓b2e w4, sI_at, ↓bse c1, c2, sI_sI, ↓reduceIte, inb, zl, zi_add, zi_sub, zi_mul, zi_neg, zi_le_t, zi_le_f, zi_lt_t, zi_lt_f, zi_eq_t, zi_eq_f, if_true, if_false, ite_true, ite_false, true_and, and_true, false_and, and_false, not_true_eq_false, not_false_eq_true, true_or, or_true, false_or, or_false, and_self, ge_iff_le, gt_iff_lt]
                · simp (disch := omega) only [F_M_worth_79, F_M_within, ↓bnd_eq, bd2, bn2, Option.bind_some, Option.bind_none, q2I, sI_at, sI_sI, f0, e139, ↓reduceIte, inb, zl, zi_add, zi_sub, zi_mul, zi_neg, zi_le_t, zi_le_f, zi_lt_t, zi_lt_f, zi_eq_t, zi_eq_f, if_true, if_false, ite_true, ite_false, true_and, and_true, false_and, and_false, not_true_eq_false, not_false_eq_true, true_or, or_true, false_or, or_false, and_self, ge_iff_le, gt_iff_lt]
              · have c1 : F_St_refusalOfItem s (zi i) (zi j) (sI δc 53 a (zi 0)) = some (zi (-12)) := by
                  by_cases qj0 : j < 0
                  · simp (disch := omega) only [F_St_refusalOfItem, ↓bnd_eq, bd2, bn2, Option.bind_some, Option.bind_none, q1I, q2I, R.2.2.1, e78, Nat.reduceEqDiff, ↓reduceIte, inb, zl, zi_add, zi_sub, zi_mul, zi_neg, zi_le_t, zi_le_f, zi_lt_t, zi_lt_f, zi_eq_t, zi_eq_f, if_true, if_false, ite_true, ite_false, true_and, and_true, false_and, and_false, not_true_eq_false, not_false_eq_true, true_or, or_true, false_or, or_false, and_self, ge_iff_le, gt_iff_lt]
                  · simp (disch := omega) only [F_St_refusalOfItem, ↓bnd_eq, bd2, bn2, Option.bind_some, Option.bind_none, q1I, q2I, R.2.2.1, e78, Nat.reduceEqDiff, ↓reduceIte, inb, zl, zi_add, zi_sub, zi_mul, zi_neg, zi_le_t, zi_le_f, zi_lt_t, zi_lt_f, zi_eq_t, zi_eq_f, if_true, if_false, ite_true, ite_false, true_and, and_true, false_and, and_false, not_true_eq_false, not_false_eq_true, true_or, or_true, false_or, or_false, and_self, ge_iff_le, gt_iff_lt]
                have c2 : ∃ z, F_St_itemAt s (zi i) (zi j) (sI δc 53 a (zi (-12))) = some z := by
                  by_cases qj0 : j < 0
                  · exact ⟨zi (-2147483648), by simp (disch := omega) only [F_St_itemAt, ↓bnd_eq, bd2, bn2, Option.bind_some, Option.bind_none, q1I, q2I, R.2.2.1, e78, Nat.reduceEqDiff, ↓reduceIte, inb, zl, zi_add, zi_sub, zi_mul, zi_neg, zi_le_t, zi_le_f, zi_lt_t, zi_lt_f, zi_eq_t, zi_eq_f, if_true, if_false, ite_true, ite_false, true_and, and_true, false_and, and_false, not_true_eq_false, not_false_eq_true, true_or, or_true, false_or, or_false, and_self, ge_iff_le, gt_iff_lt]⟩
                  · exact ⟨zi (-2147483648), by simp (disch := omega) only [F_St_itemAt, ↓bnd_eq, bd2, bn2, Option.bind_some, Option.bind_none, q1I, q2I, R.2.2.1, e78, Nat.reduceEqDiff, ↓reduceIte, inb, zl, zi_add, zi_sub, zi_mul, zi_neg, zi_le_t, zi_le_f, zi_lt_t, zi_lt_f, zi_eq_t, zi_eq_f, if_true, if_false, ite_true, ite_false, true_and, and_true, false_and, and_false, not_true_eq_false, not_false_eq_true, true_or, or_true, false_or, or_false, and_self, ge_iff_le, gt_iff_lt]⟩
                obtain ⟨z, c2⟩ := c2
                refine ⟨z, zi 0, zi (-12), ?_, ?_, fun e => absurd e (by decide), fun h => absurd rfl h⟩
                · simp only [F_Ru_worth_b, F_Ru_worth_205, hp, hs, zl, zi_add, zi_sub, zi_mul, zi_neg]
                  simp (disch := omega) only [↓bnd_eq, bd2, bn2, Option.bind_some, Option.bind_none, ↓bse ck0, ↓bse h3, ↓b2e w3, ↓bse h4, ↓b2e w4, sI_at, ↓bse c1, c2, sI_sI, ↓reduceIte, inb, zl, zi_add, zi_sub, zi_mul, zi_neg, zi_le_t, zi_le_f, zi_lt_t, zi_lt_f, zi_eq_t, zi_eq_f, if_true, if_false, ite_true, ite_false, true_and, and_true, false_and, and_false, not_true_eq_false, not_false_eq_true, true_or, or_true, false_or, or_false, and_self, ge_iff_le, gt_iff_lt]
                · by_cases qj0 : j < 0
                  · simp (disch := omega) only [F_M_worth_79, F_M_within, F_M_refuses, ↓bnd_eq, bd2, bn2, Option.bind_some, Option.bind_none, q2I, sI_at, sI_sI, f0, e139, ↓reduceIte, inb, zl, zi_add, zi_sub, zi_mul, zi_neg, zi_le_t, zi_le_f, zi_lt_t, zi_lt_f, zi_eq_t, zi_eq_f, if_true, if_false, ite_true, ite_false, true_and, and_true, false_and, and_false, not_true_eq_false, not_false_eq_true, true_or, or_true, false_or, or_false, and_self, ge_iff_le, gt_iff_lt]
                  · simp (disch := omega) only [F_M_worth_79, F_M_within, F_M_refuses, ↓bnd_eq, bd2, bn2, Option.bind_some, Option.bind_none, q2I, sI_at, sI_sI, f0, e139, ↓reduceIte, inb, zl, zi_add, zi_sub, zi_mul, zi_neg, zi_le_t, zi_le_f, zi_lt_t, zi_lt_f, zi_eq_t, zi_eq_f, if_true, if_false, ite_true, ite_false, true_and, and_true, false_and, and_false, not_true_eq_false, not_false_eq_true, true_or, or_true, false_or, or_false, and_self, ge_iff_le, gt_iff_lt]
          · -- PART
            by_cases q1 : u4 = zi 0
            · subst q1
              refine ⟨zi 0, zi 0, zi (-15), ?_, ?_, fun _ => rfl, fun h => absurd rfl h⟩
              · simp only [F_Ru_worth_b, F_Ru_worth_205, hp, hs, zl, zi_add, zi_sub, zi_mul, zi_neg]
                simp (disch := omega) only [↓bnd_eq, bd2, bn2, Option.bind_some, Option.bind_none, ↓bse ck0, ↓bse h3, ↓b2e w3, ↓bse h4, ↓b2e w4, sI_at, sI_sI, ↓reduceIte, inb, zl, zi_add, zi_sub, zi_mul, zi_neg, zi_le_t, zi_le_f, zi_lt_t, zi_lt_f, zi_eq_t, zi_eq_f, if_true, if_false, ite_true, ite_false, true_and, and_true, false_and, and_false, not_true_eq_false, not_false_eq_true, true_or, or_true, false_or, or_false, and_self, ge_iff_le, gt_iff_lt]
              · simp (disch := omega) only [F_M_worth_79, F_M_refuses, ↓bnd_eq, bd2, bn2, Option.bind_some, Option.bind_none, q2I, sI_at, sI_sI, f0, ↓reduceIte, inb, zl, zi_add, zi_sub, zi_mul, zi_neg, zi_le_t, zi_le_f, zi_lt_t, zi_lt_f, zi_eq_t, zi_eq_f, if_true, if_false, ite_true, ite_false, true_and, and_true, false_and, and_false, not_true_eq_false, not_false_eq_true, true_or, or_true, false_or, or_false, and_self, ge_iff_le, gt_iff_lt]
            · refine ⟨u3 / u4, u3 / u4, zi 0, ?_, ?_, fun _ => rfl, fun h => absurd rfl h⟩
              · simp only [F_Ru_worth_b, F_Ru_worth_205, hp, hs, zl, zi_add, zi_sub, zi_mul, zi_neg]
                simp (disch := omega) only [↓bnd_eq, bd2, bn2, Option.bind_some, Option.bind_none, ↓bse ck0, ↓bse h3, ↓b2e w3, ↓bse h4, ↓b2e w4, sI_at, sI_sI, q1, ↓reduceIte, inb, zl, zi_add, zi_sub, zi_mul, zi_neg, zi_le_t, zi_le_f, zi_lt_t, zi_lt_f, zi_eq_t, zi_eq_f, if_true, if_false, ite_true, ite_false, true_and, and_true, false_and, and_false, not_true_eq_false, not_false_eq_true, true_or, or_true, false_or, or_false, and_self, ge_iff_le, gt_iff_lt]
              · by_cases q2 : u4 = zi (-1)
                · subst q2
                  simp (disch := omega) only [F_M_worth_79, F_M_refuses, ↓bnd_eq, bd2, bn2, Option.bind_some, Option.bind_none, q2I, sI_at, sI_sI, f0, div_m1, ↓reduceIte, inb, zl, zi_add, zi_sub, zi_mul, zi_neg, zi_le_t, zi_le_f, zi_lt_t, zi_lt_f, zi_eq_t, zi_eq_f, if_true, if_false, ite_true, ite_false, true_and, and_true, false_and, and_false, not_true_eq_false, not_false_eq_true, true_or, or_true, false_or, or_false, and_self, ge_iff_le, gt_iff_lt]
                · simp (disch := omega) only [F_M_worth_79, F_M_refuses, ↓bnd_eq, bd2, bn2, Option.bind_some, Option.bind_none, q2I, sI_at, sI_sI, f0, q1, q2, ↓reduceIte, inb, zl, zi_add, zi_sub, zi_mul, zi_neg, zi_le_t, zi_le_f, zi_lt_t, zi_lt_f, zi_eq_t, zi_eq_f, if_true, if_false, ite_true, ite_false, true_and, and_true, false_and, and_false, not_true_eq_false, not_false_eq_true, true_or, or_true, false_or, or_false, and_self, ge_iff_le, gt_iff_lt]
          · refine ⟨uw, uw, zi 0, ?_, ?_, fun _ => rfl, fun h => absurd rfl h⟩
            · simp only [F_Ru_worth_b, F_Ru_worth_205, hp, hs, zl, zi_add, zi_sub, zi_mul, zi_neg]
              simp (disch := omega) only [↓bnd_eq, bd2, bn2, Option.bind_some, Option.bind_none, ↓bse ck0, ↓bse h3, ↓b2e w3, ↓bse h4, ↓b2e w4, sI_at, ↓bse cw, ↓reduceIte, inb, zl, zi_add, zi_sub, zi_mul, zi_neg, zi_le_t, zi_le_f, zi_lt_t, zi_lt_f, zi_eq_t, zi_eq_f, if_true, if_false, ite_true, ite_false, true_and, and_true, false_and, and_false, not_true_eq_false, not_false_eq_true, true_or, or_true, false_or, or_false, and_self, ge_iff_le, gt_iff_lt]
            · rcases huw with rfl | rfl <;> simp (disch := omega) only [F_M_worth_79, ↓bnd_eq, bd2, bn2, Option.bind_some, Option.bind_none, q2I, sI_at, f0, mw, ↓reduceIte, inb, zl, zi_add, zi_sub, zi_mul, zi_neg, zi_le_t, zi_le_f, zi_lt_t, zi_lt_f, zi_eq_t, zi_eq_f, if_true, if_false, ite_true, ite_false, true_and, and_true, false_and, and_false, not_true_eq_false, not_false_eq_true, true_or, or_true, false_or, or_false, and_self, ge_iff_le, gt_iff_lt]
          · by_cases q1 : u4 ≤ u3
            · refine ⟨zi 0, zi 0, zi 0, ?_, ?_, fun _ => rfl, fun h => absurd rfl h⟩
              · simp only [F_Ru_worth_b, F_Ru_worth_205, hp, hs, zl, zi_add, zi_sub, zi_mul, zi_neg]
                simp (disch := omega) only [↓bnd_eq, bd2, bn2, Option.bind_some, Option.bind_none, ↓bse ck0, ↓bse h3, ↓b2e w3, ↓bse h4, ↓b2e w4, sI_at, q1, ↓reduceIte, inb, zl, zi_add, zi_sub, zi_mul, zi_neg, zi_le_t, zi_le_f, zi_lt_t, zi_lt_f, zi_eq_t, zi_eq_f, if_true, if_false, ite_true, ite_false, true_and, and_true, false_and, and_false, not_true_eq_false, not_false_eq_true, true_or, or_true, false_or, or_false, and_self, ge_iff_le, gt_iff_lt]
              · simp (disch := omega) only [F_M_worth_79, ↓bnd_eq, bd2, bn2, Option.bind_some, Option.bind_none, q2I, sI_at, f0, q1, ↓reduceIte, inb, zl, zi_add, zi_sub, zi_mul, zi_neg, zi_le_t, zi_le_f, zi_lt_t, zi_lt_f, zi_eq_t, zi_eq_f, if_true, if_false, ite_true, ite_false, true_and, and_true, false_and, and_false, not_true_eq_false, not_false_eq_true, true_or, or_true, false_or, or_false, and_self, ge_iff_le, gt_iff_lt]
            · refine ⟨zi 1, zi 1, zi 0, ?_, ?_, fun _ => rfl, fun h => absurd rfl h⟩
              · simp only [F_Ru_worth_b, F_Ru_worth_205, hp, hs, zl, zi_add, zi_sub, zi_mul, zi_neg]
                simp (disch := omega) only [↓bnd_eq, bd2, bn2, Option.bind_some, Option.bind_none, ↓bse ck0, ↓bse h3, ↓b2e w3, ↓bse h4, ↓b2e w4, sI_at, q1, ↓reduceIte, inb, zl, zi_add, zi_sub, zi_mul, zi_neg, zi_le_t, zi_le_f, zi_lt_t, zi_lt_f, zi_eq_t, zi_eq_f, if_true, if_false, ite_true, ite_false, true_and, and_true, false_and, and_false, not_true_eq_false, not_false_eq_true, true_or, or_true, false_or, or_false, and_self, ge_iff_le, gt_iff_lt]
              · simp (disch := omega) only [F_M_worth_79, ↓bnd_eq, bd2, bn2, Option.bind_some, Option.bind_none, q2I, sI_at, f0, q1, ↓reduceIte, inb, zl, zi_add, zi_sub, zi_mul, zi_neg, zi_le_t, zi_le_f, zi_lt_t, zi_lt_f, zi_eq_t, zi_eq_f, if_true, if_false, ite_true, ite_false, true_and, and_true, false_and, and_false, not_true_eq_false, not_false_eq_true, true_or, or_true, false_or, or_false, and_self, ge_iff_le, gt_iff_lt]
          · by_cases q1 : u3 = zi 0
            · refine ⟨zi 1, zi 1, zi 0, ?_, ?_, fun _ => rfl, fun h => absurd rfl h⟩
              · simp only [F_Ru_worth_b, F_Ru_worth_205, hp, hs, zl, zi_add, zi_sub, zi_mul, zi_neg]
                simp (disch := omega) only [↓bnd_eq, bd2, bn2, Option.bind_some, Option.bind_none, ↓bse ck0, ↓bse h3, ↓b2e w3, ↓bse h4, ↓b2e w4, sI_at, q1, ↓reduceIte, inb, zl, zi_add, zi_sub, zi_mul, zi_neg, zi_le_t, zi_le_f, zi_lt_t, zi_lt_f, zi_eq_t, zi_eq_f, if_true, if_false, ite_true, ite_false, true_and, and_true, false_and, and_false, not_true_eq_false, not_false_eq_true, true_or, or_true, false_or, or_false, and_self, ge_iff_le, gt_iff_lt]
              · simp (disch := omega) only [F_M_worth_79, ↓bnd_eq, bd2, bn2, Option.bind_some, Option.bind_none, q2I, sI_at, f0, q1, ↓reduceIte, inb, zl, zi_add, zi_sub, zi_mul, zi_neg, zi_le_t, zi_le_f, zi_lt_t, zi_lt_f, zi_eq_t, zi_eq_f, if_true, if_false, ite_true, ite_false, true_and, and_true, false_and, and_false, not_true_eq_false, not_false_eq_true, true_or, or_true, false_or, or_false, and_self, ge_iff_le, gt_iff_lt]
            · refine ⟨zi 0, zi 0, zi 0, ?_, ?_, fun _ => rfl, fun h => absurd rfl h⟩
              · simp only [F_Ru_worth_b, F_Ru_worth_205, hp, hs, zl, zi_add, zi_sub, zi_mul, zi_neg]
                simp (disch := omega) only [↓bnd_eq, bd2, bn2, Option.bind_some, Option.bind_none, ↓bse ck0, ↓bse h3, ↓b2e w3, ↓bse h4, ↓b2e w4, sI_at, q1, ↓reduceIte, inb, zl, zi_add, zi_sub, zi_mul, zi_neg, zi_le_t, zi_le_f, zi_lt_t, zi_lt_f, zi_eq_t, zi_eq_f, if_true, if_false, ite_true, ite_false, true_and, and_true, false_and, and_false, not_true_eq_false, not_false_eq_true, true_or, or_true, false_or, or_false, and_self, ge_iff_le, gt_iff_lt]
              · simp (disch := omega) only [F_M_worth_79, ↓bnd_eq, bd2, bn2, Option.bind_some, Option.bind_none, q2I, sI_at, f0, q1, ↓reduceIte, inb, zl, zi_add, zi_sub, zi_mul, zi_neg, zi_le_t, zi_le_f, zi_lt_t, zi_lt_f, zi_eq_t, zi_eq_f, if_true, if_false, ite_true, ite_false, true_and, and_true, false_and, and_false, not_true_eq_false, not_false_eq_true, true_or, or_true, false_or, or_false, and_self, ge_iff_le, gt_iff_lt]
          · refine ⟨um, um, zi 0, ?_, ?_, fun _ => rfl, fun h => absurd rfl h⟩
            · simp only [F_Ru_worth_b, F_Ru_worth_205, hp, hs, zl, zi_add, zi_sub, zi_mul, zi_neg]
              simp (disch := omega) only [↓bnd_eq, bd2, bn2, Option.bind_some, Option.bind_none, ↓bse ck0, ↓bse h3, ↓b2e w3, ↓bse h4, ↓b2e w4, sI_at, ↓bse cm, ↓reduceIte, inb, zl, zi_add, zi_sub, zi_mul, zi_neg, zi_le_t, zi_le_f, zi_lt_t, zi_lt_f, zi_eq_t, zi_eq_f, if_true, if_false, ite_true, ite_false, true_and, and_true, false_and, and_false, not_true_eq_false, not_false_eq_true, true_or, or_true, false_or, or_false, and_self, ge_iff_le, gt_iff_lt]
            · rcases hum with rfl | rfl <;> simp (disch := omega) only [F_M_worth_79, ↓bnd_eq, bd2, bn2, Option.bind_some, Option.bind_none, q2I, sI_at, f0, mm, ↓reduceIte, inb, zl, zi_add, zi_sub, zi_mul, zi_neg, zi_le_t, zi_le_f, zi_lt_t, zi_lt_f, zi_eq_t, zi_eq_f, if_true, if_false, ite_true, ite_false, true_and, and_true, false_and, and_false, not_true_eq_false, not_false_eq_true, true_or, or_true, false_or, or_false, and_self, ge_iff_le, gt_iff_lt]
        · refine ⟨zi 0, zi 0, r4, ?_, ?_, fun _ => rfl, fun h => absurd rfl h⟩
          · have hk1 : ¬ (zi (v.2.2.1 b 0) = zi (-1)) := by rw [zi_eq (by omega) (by omega)]; omega
            simp only [F_Ru_worth_b, F_Ru_worth_205, hp, hs, zl, zi_add, zi_sub, zi_mul, zi_neg]
            simp (disch := omega) only [↓bnd_eq, bd2, bn2, Option.bind_some, Option.bind_none, ↓bse (ck (zi 0)), ↓bse h3, ↓b2e w3, ↓bse h4, ↓b2e w4, sI_at, q4, ↓reduceIte, inb, zl, zi_add, zi_sub, zi_mul, zi_neg, zi_le_t, zi_le_f, zi_lt_t, zi_lt_f, zi_eq_t, zi_eq_f, if_true, if_false, ite_true, ite_false, true_and, and_true, false_and, and_false, not_true_eq_false, not_false_eq_true, true_or, or_true, false_or, or_false, and_self, ge_iff_le, gt_iff_lt]
          · simp (disch := omega) only [F_M_worth_79, ↓bnd_eq, bd2, bn2, Option.bind_some, Option.bind_none, q2I, sI_at, q4, ↓reduceIte, inb, zl, zi_add, zi_sub, zi_mul, zi_neg, zi_le_t, zi_le_f, zi_lt_t, zi_lt_f, zi_eq_t, zi_eq_f, if_true, if_false, ite_true, ite_false, true_and, and_true, false_and, and_false, not_true_eq_false, not_false_eq_true, true_or, or_true, false_or, or_false, and_self, ge_iff_le, gt_iff_lt]
      · refine ⟨zi 0, zi 0, r, ?_, ?_, fun _ => rfl, fun _ => rfl⟩
        · simp only [F_Ru_worth, F_Ru_worth_b, hp, hs, zl, zi_add, zi_sub, zi_mul, zi_neg]
          simp (disch := omega) only [↓bnd_eq, bd2, bn2, Option.bind_some, Option.bind_none, ↓bse (ck r), sI_at, qr, ↓reduceIte, inb, zl, zi_add, zi_sub, zi_mul, zi_neg, zi_le_t, zi_le_f, zi_lt_t, zi_lt_f, zi_eq_t, zi_eq_f, if_true, if_false, ite_true, ite_false, true_and, and_true, false_and, and_false, not_true_eq_false, not_false_eq_true, true_or, or_true, false_or, or_false, and_self, ge_iff_le, gt_iff_lt]
        · simp (disch := omega) only [F_M_worth, F_M_worth_b, ↓bnd_eq, bd2, bn2, Option.bind_some, Option.bind_none, q2I, sI_at, qr, ↓reduceIte, inb, zl, zi_add, zi_sub, zi_mul, zi_neg, zi_le_t, zi_le_f, zi_lt_t, zi_lt_f, zi_eq_t, zi_eq_f, if_true, if_false, ite_true, ite_false, true_and, and_true, false_and, and_false, not_true_eq_false, not_false_eq_true, true_or, or_true, false_or, or_false, and_self, ge_iff_le, gt_iff_lt]
end WO
