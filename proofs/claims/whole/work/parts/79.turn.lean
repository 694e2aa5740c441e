/-! two orders change places, on both sides (wip/whole/pure) -/
section TU
variable {p : Nat} {c m : Dl} {v : PG}
theorem std_B2 {v : PG} {o host hole s x : Int} : (stdV v o host hole s).2.2.1 x 2 = if x = o ∧ host ≠ -1 then host else v.2.2.1 x 2 := by
  unfold stdV
  by_cases q : host = -1
  · rw [if_pos q, if_neg (fun e => e.2 q)]
    show (if (2 : Int) = 4 ∧ x = o then s else v.2.2.1 x 2) = _
    rw [if_neg (fun e => absurd e.1 (by decide))]
  · rw [if_neg q]
    show (if (2 : Int) = 3 ∧ x = o then hole else if (2 : Int) = 2 ∧ x = o then host else v.2.2.1 x 2) = _
    rw [if_neg (fun e => absurd e.1 (by decide))]
    by_cases q2 : x = o
    · rw [if_pos ⟨rfl, q2⟩, if_pos ⟨q2, q⟩]
    · rw [if_neg (fun e => q2 e.2), if_neg (fun e => q2 e.1)]
theorem std_B4 {v : PG} {o host hole s x : Int} (hx : x ≠ o) : (stdV v o host hole s).2.2.1 x 4 = v.2.2.1 x 4 := by
  unfold stdV
  by_cases q : host = -1
  · rw [if_pos q]
    show (if (4 : Int) = 4 ∧ x = o then s else v.2.2.1 x 4) = _
    rw [if_neg (fun e => hx e.2)]
  · rw [if_neg q]
    show (if (4 : Int) = 3 ∧ x = o then hole else if (4 : Int) = 2 ∧ x = o then host else v.2.2.1 x 4) = _
    rw [if_neg (fun e => absurd e.1 (by decide)), if_neg (fun e => absurd e.1 (by decide))]
theorem std_H {v : PG} {o host hole s x j : Int} (hx : x ≠ host) : (stdV v o host hole s).2.2.2.1 x j = v.2.2.2.1 x j := by
  unfold stdV
  by_cases q : host = -1
  · rw [if_pos q]
    rfl
  · rw [if_neg q]
    show (if j = hole ∧ x = host then o else v.2.2.2.1 x j) = _
    rw [if_neg (fun e => hx e.2)]
theorem att_B2 {v : PG} {b h o x : Int} : (attV v b h o).2.2.1 x 2 = if x = o then b else v.2.2.1 x 2 := by
  show (if (2 : Int) = 3 ∧ x = o then h else if (2 : Int) = 2 ∧ x = o then b else v.2.2.1 x 2) = _
  rw [if_neg (fun e => absurd e.1 (by decide))]
  by_cases q : x = o
  · rw [if_pos ⟨rfl, q⟩, if_pos q]
  · rw [if_neg (fun e => q e.2), if_neg q]
theorem att_B4 {v : PG} {b h o x : Int} : (attV v b h o).2.2.1 x 4 = v.2.2.1 x 4 := by
  show (if (4 : Int) = 3 ∧ x = o then h else if (4 : Int) = 2 ∧ x = o then b else v.2.2.1 x 4) = _
  rw [if_neg (fun e => absurd e.1 (by decide)), if_neg (fun e => absurd e.1 (by decide))]
theorem att_H {v : PG} {b h o x j : Int} (hx : x ≠ b) : (attV v b h o).2.2.2.1 x j = v.2.2.2.1 x j := by
  show (if j = h ∧ x = b then o else v.2.2.2.1 x j) = _
  rw [if_neg (fun e => hx e.2)]
theorem turn_mid {rk : Int → Nat} (R : RKd v rk) {b o : Int} (b0 : 0 ≤ b) (b1 : b < v.1) (o0 : 0 ≤ o) (o1 : o < v.1) (ro : rk o < rk b) (nk : v.2.2.1 o 0 ≤ 12) (qk : v.2.2.1 b 0 ≤ 12) (ql : ¬ (v.2.2.1 b 2 = -1 ∧ v.2.2.1 b 4 = -1)) (PL3 : Plc v (v.2.2.1 b 2) (v.2.2.1 b 3) (v.2.2.1 b 4))
    {V2 V3 : PG} (C2 : CP p c V2) (W2 : PW V2) (N2 : V2.1 = v.1) (eb : ∀ j, V2.2.2.1 b j = v.2.2.1 b j) (e23 : lvV V2 b = V3) (M2 : MP m V3) (W3 : PW V3) (N3 : V3.1 = v.1) (L3 : V3.2.1 = v.2.1) (B0 : ∀ x, V3.2.2.1 x 0 = v.2.2.1 x 0) (B2 : ∀ x, V3.2.2.1 x 2 = -1 ∨ V3.2.2.1 x 2 = v.2.2.1 x 2) (S4 : ∀ s j, j ≠ 4 → V3.2.2.2.2 s j = v.2.2.2.2 s j)
    (ob : V3.2.2.1 b 2 = -1 ∧ V3.2.2.1 b 4 = -1) (oo : V3.2.2.1 o 2 = -1 ∧ V3.2.2.1 o 4 = -1) (H1 : V3.2.2.2.1 b 0 = -1) (H2 : V3.2.2.2.1 o 0 = -1)
    (P3 : (v.2.2.1 b 2 = -1 ∧ (0 ≤ v.2.2.1 b 4 ∧ v.2.2.1 b 4 < v.2.1) ∧ V3.2.2.2.2 (v.2.2.1 b 4) 4 = -1) ∨ ((0 ≤ v.2.2.1 b 2 ∧ v.2.2.1 b 2 < v.1) ∧ (0 ≤ v.2.2.1 b 3 ∧ v.2.2.1 b 3 ≤ 2) ∧ V3.2.2.2.1 (v.2.2.1 b 2) (v.2.2.1 b 3) = -1 ∧ HH (v.2.2.1 (v.2.2.1 b 2) 0) (v.2.2.1 b 3) ∧ rk b < rk (v.2.2.1 b 2))) :
    ∃ (c3 c4 m3 m4 : Dl) (V5 : PG), F_Pr_putInPlace p (zi b) (zi o) c = some c3 ∧ F_Pr_attach p (zi o) (zi 0) (zi b) c3 = some c4 ∧ F_M_standsIn (zi o) (zi (v.2.2.1 b 2)) (zi (v.2.2.1 b 3)) (zi (v.2.2.1 b 4)) m = some m3 ∧ F_M_puts (zi b) (zi 0) (zi o) m3 = some m4 ∧ CP p c4 V5 ∧ MP m4 V5 ∧ PW V5 ∧ (V5.1 = v.1 ∧ V5.2.1 = v.2.1 ∧ (∀ x, V5.2.2.1 x 0 = v.2.2.1 x 0) ∧ ∀ s j, j ≠ 4 → V5.2.2.2.2 s j = v.2.2.2.2 s j) ∧ V5.2.2.2.1 b 0 = -1 ∧ (∀ x, x ≠ b → x ≠ o → V5.2.2.1 x 2 = V3.2.2.1 x 2 ∧ V5.2.2.1 x 4 = V3.2.2.1 x 4) ∧
      (∀ x, 0 ≤ x → x < v.1 → (x = b ∨ x = o ∨ rk b < rk x) → V5.2.2.1 x 2 ≠ -1 → (V5.2.2.1 x 2 = b ∨ V5.2.2.1 x 2 = o ∨ rk b < rk (V5.2.2.1 x 2))) ∧ Fr (SP p) c c4 ∧ Fr SMx m m4 := by
  have hN := W2.1
  have hne : o ≠ b := fun e => by rw [e] at ro; omega
  obtain ⟨c3, d3, C3, G3⟩ := c_putIn C2 W2 (b := b) (o := o) b0 (by omega) (by rw [eb, eb]; exact ql) o0 (by omega)
  rw [eb, eb, eb, e23] at C3
  have P3' : Plc V3 (v.2.2.1 b 2) (v.2.2.1 b 3) (v.2.2.1 b 4) := by
    unfold Plc at PL3 ⊢
    rw [N3, L3]
    exact PL3
  obtain ⟨m3, e3, M3, F3⟩ := m_std M2 W3 P3' o0 (by omega)
  have W4 : PW (stdV V3 o (v.2.2.1 b 2) (v.2.2.1 b 3) (v.2.2.1 b 4)) := by
    refine PW.std (v := v) (b := b) W3 R N3 B2 o0 (by omega) oo.1 oo.2 (by rw [B0]; exact nk) ro ?_
    rcases P3 with ⟨a1, a2, a3⟩ | ⟨a1, a2, a3, a4, a5⟩
    · exact Or.inl ⟨a1, by omega, a3⟩
    · exact Or.inr ⟨by omega, a2, a3, by rw [B0]; exact a4, a5⟩
  have hostb : v.2.2.1 b 2 ≠ b ∧ v.2.2.1 b 2 ≠ o := by
    rcases P3 with ⟨a1, -⟩ | ⟨a1, -, -, -, a5⟩
    · omega
    · exact ⟨fun e => by rw [e] at a5; omega, fun e => by rw [e] at a5; omega⟩
  have hrk : v.2.2.1 b 2 ≠ -1 → rk b < rk (v.2.2.1 b 2) := fun h => by
    rcases P3 with ⟨a1, -⟩ | ⟨a1, -, -, -, a5⟩
    · exact absurd a1 h
    · exact a5
  have nN := (std_N (v := V3) (o := o) (host := v.2.2.1 b 2) (hole := v.2.2.1 b 3) (s := v.2.2.1 b 4))
  have fB0 := fun x => (std_B (v := V3) (o := o) (host := v.2.2.1 b 2) (hole := v.2.2.1 b 3) (s := v.2.2.1 b 4) (x := x))
  have fB2 := fun x => (std_B2 (v := V3) (o := o) (host := v.2.2.1 b 2) (hole := v.2.2.1 b 3) (s := v.2.2.1 b 4) (x := x))
  have fB4 := fun x hx => (std_B4 (v := V3) (o := o) (host := v.2.2.1 b 2) (hole := v.2.2.1 b 3) (s := v.2.2.1 b 4) (x := x) hx)
  have fH := fun x j hx => (std_H (v := V3) (o := o) (host := v.2.2.1 b 2) (hole := v.2.2.1 b 3) (s := v.2.2.1 b 4) (x := x) (j := j) hx)
  have fS := fun x j hj => (std_S (v := V3) (o := o) (host := v.2.2.1 b 2) (hole := v.2.2.1 b 3) (s := v.2.2.1 b 4) (x := x) (j := j) hj)
  generalize stdV V3 o (v.2.2.1 b 2) (v.2.2.1 b 3) (v.2.2.1 b 4) = V4 at *
  obtain ⟨c4, d4, C4, G4⟩ := c_attach C3 W4.1.2 (b := o) (h := 0) (o := b) o0 (by omega) (by decide) (by decide) b0 (by omega)
  obtain ⟨m4, e4, M4, F4⟩ := m_putsX M3 W4.1.2 (b := o) (h := 0) (o := b) o0 (by omega) (by decide) (by decide) b0 (by omega)
  have clo : ∀ x, 0 ≤ x → x < v.1 → (x = o ∨ rk b < rk x) → V4.2.2.1 x 2 ≠ -1 → (V4.2.2.1 x 2 = o ∨ rk b < rk (V4.2.2.1 x 2)) := by
    intro x x0 x1 hA hx
    rw [fB2] at hx ⊢
    by_cases q : x = o ∧ v.2.2.1 b 2 ≠ -1
    · rw [if_pos q]
      exact Or.inr (hrk q.2)
    · rw [if_neg q] at hx ⊢
      by_cases qo : x = o
      · rw [qo] at hx
        exact absurd oo.1 hx
      · have h2x := (B2 x).resolve_left hx
        rw [h2x] at hx ⊢
        have := R x x0 x1 hx
        right
        omega
  have W5 : PW (attV V4 o 0 b) := by
    refine W4.att o0 (by omega) (by decide) (by decide) b0 (by omega) ?_ ?_ ?_ ?_ (fun _ => by rw [fB0, B0]; exact qk) (fun e => absurd e (by decide)) (fun x => x = o ∨ rk b < rk x) (Or.inl rfl) (fun x x0 x1 => clo x x0 (by omega)) (fun e => by omega)
    · rw [fH o 0 (fun e => hostb.2 e.symm)]; exact H2
    · rw [fB2, if_neg (fun e => hne e.1.symm)]; exact ob.1
    · rw [fB4 b (fun e => hne e.symm)]; exact ob.2
    · exact Or.inl ⟨rfl, by rw [fB0, B0]; exact nk⟩
  refine ⟨c3, c4, m3, m4, attV V4 o 0 b, d3, d4, e3, e4, C4, M4, W5, ⟨nN.1.trans N3, nN.2.trans L3, fun x => by rw [att_B, fB0, B0], fun s j hj => ?_⟩, ?_, fun x h1 h2 => ⟨?_, ?_⟩, fun x x0 x1 hA hx => ?_, G3.tr G4, F3.tr F4⟩
  · show V4.2.2.2.2 s j = _
    rw [fS s j hj, S4 s j hj]
  · rw [att_H (fun e => hne e.symm), fH b 0 (fun e => hostb.1 e.symm)]
    exact H1
  · rw [att_B2, if_neg h1, fB2, if_neg (fun e => h2 e.1)]
  · rw [att_B4, fB4 x h2]
  · rw [att_B2] at hx ⊢
    by_cases q : x = b
    · rw [if_pos q]
      exact Or.inr (Or.inl rfl)
    · rw [if_neg q] at hx ⊢
      exact Or.inr (clo x x0 x1 (by omega) hx)
theorem lk_turn (C : CP p c v) (M : MP m v) (W : PW v) {b : Int} (b0 : 0 ≤ b) (b1 : b < v.1) : Chg p v c m (F_Pr_change p (zi b) (zi 3) c) (F_M_turnsAbout (zi b) m) := by
  have hN := W.1
  have hM := W.2.1
  obtain ⟨rk, R⟩ := W.2.2.2.2
  have ck := c_kind C W b0 b1
  have hk := W.k b0 b1
  have cl := c_isLoose C W b0 b1
  have ml := m_isIn M W b0 b1
  obtain ⟨f0, -, f2, f3, f4⟩ := M.2.2.1 b b0 b1
  have ci := c_inHole C W b0 b1 (j := 0) (by decide) (by decide)
  have fh := M.2.2.2.1 b 0 b0 b1 (by decide) (by decide)
  have hh := W.h b0 b1 (j := 0) (by decide) (by decide)
  have u := W.u b0 b1
  have w := W.w b0 b1
  have t := W.t b0 b1
  by_cases qk : v.2.2.1 b 0 ≤ 12
  · have co : F_Bs_isOrder (zi (v.2.2.1 b 0)) = zi 1 := by simp (disch := omega) only [F_Bs_isOrder, ↓reduceIte, inb, zl, zi_add, zi_sub, zi_mul, zi_neg, zi_le_t, zi_le_f, zi_lt_t, zi_lt_f, zi_eq_t, zi_eq_f, if_true, if_false, ite_true, ite_false, true_and, and_true, false_and, and_false, not_true_eq_false, not_false_eq_true, true_or, or_true, false_or, or_false, and_self, ge_iff_le, gt_iff_lt]
    have mo : F_M_isOrder (zi (v.2.2.1 b 0)) = zi 1 := by simp (disch := omega) only [F_M_isOrder, ↓reduceIte, inb, zl, zi_add, zi_sub, zi_mul, zi_neg, zi_le_t, zi_le_f, zi_lt_t, zi_lt_f, zi_eq_t, zi_eq_f, if_true, if_false, ite_true, ite_false, true_and, and_true, false_and, and_false, not_true_eq_false, not_false_eq_true, true_or, or_true, false_or, or_false, and_self, ge_iff_le, gt_iff_lt]
    by_cases ql : v.2.2.1 b 2 = -1 ∧ v.2.2.1 b 4 = -1
    · rw [if_pos ql, zl1] at cl
      rw [if_pos ql] at ml
      left
      constructor
      · simp (disch := omega) only [F_Pr_change, ↓bnd_eq, bd2, bn2, Option.bind_some, Option.bind_none, ↓bse ck, co, ↓bse cl, ↓reduceIte, inb, zl, zi_add, zi_sub, zi_mul, zi_neg, zi_le_t, zi_le_f, zi_lt_t, zi_lt_f, zi_eq_t, zi_eq_f, if_true, if_false, ite_true, ite_false, true_and, and_true, false_and, and_false, not_true_eq_false, not_false_eq_true, true_or, or_true, false_or, or_false, and_self, ge_iff_le, gt_iff_lt]
      · simp (disch := omega) only [F_M_turnsAbout, ↓bnd_eq, bd2, bn2, Option.bind_some, Option.bind_none, f0, mo, ↓bse ml, ↓reduceIte, inb, zl, zi_add, zi_sub, zi_mul, zi_neg, zi_le_t, zi_le_f, zi_lt_t, zi_lt_f, zi_eq_t, zi_eq_f, if_true, if_false, ite_true, ite_false, true_and, and_true, false_and, and_false, not_true_eq_false, not_false_eq_true, true_or, or_true, false_or, or_false, and_self, ge_iff_le, gt_iff_lt]
    · rw [if_neg ql, zl0] at cl
      rw [if_neg ql] at ml
      by_cases qn : v.2.2.2.1 b 0 = -1
      · rw [qn] at ci fh
        left
        constructor
        · simp (disch := omega) only [F_Pr_change, ↓bnd_eq, bd2, bn2, Option.bind_some, Option.bind_none, ↓bse ck, co, ↓bse cl, ↓bse ci, ↓reduceIte, inb, zl, zi_add, zi_sub, zi_mul, zi_neg, zi_le_t, zi_le_f, zi_lt_t, zi_lt_f, zi_eq_t, zi_eq_f, if_true, if_false, ite_true, ite_false, true_and, and_true, false_and, and_false, not_true_eq_false, not_false_eq_true, true_or, or_true, false_or, or_false, and_self, ge_iff_le, gt_iff_lt]
        · simp (disch := omega) only [F_M_turnsAbout, ↓bnd_eq, bd2, bn2, Option.bind_some, Option.bind_none, f0, mo, ↓bse ml, fh, ↓reduceIte, inb, zl, zi_add, zi_sub, zi_mul, zi_neg, zi_le_t, zi_le_f, zi_lt_t, zi_lt_f, zi_eq_t, zi_eq_f, if_true, if_false, ite_true, ite_false, true_and, and_true, false_and, and_false, not_true_eq_false, not_false_eq_true, true_or, or_true, false_or, or_false, and_self, ge_iff_le, gt_iff_lt]
      · right
        have n0 : 0 ≤ v.2.2.2.1 b 0 := by omega
        obtain ⟨-, n2, n3⟩ := ((W.2.2.1 b b0 b1).2.2.2.2 0 (by decide) (by decide)).resolve_left qn
        have nw := (W.2.2.1 _ n0 hh.2)
        have nk : v.2.2.1 (v.2.2.2.1 b 0) 0 ≤ 12 := by
          rcases nw.2.2.1 with ⟨e, -⟩ | ⟨-, -, -, -, -, h6, -⟩
          · omega
          · exact h6 (by omega)
        have rn : rk (v.2.2.2.1 b 0) < rk b := by
          have := R _ n0 hh.2 (by omega)
          rw [n2] at this
          exact this
        have cio := c_inHole C W n0 hh.2 (j := 0) (by decide) (by decide)
        have fho := M.2.2.2.1 (v.2.2.2.1 b 0) 0 n0 hh.2 (by decide) (by decide)
        have hho := W.h n0 hh.2 (j := 0) (by decide) (by decide)
        have nt := nw.2.2.2.2 0 (by decide) (by decide)
        generalize v.2.2.2.1 b 0 = o at *
        have hne : o ≠ b := fun e => by rw [e] at rn; omega
        obtain ⟨c1, d1, C1, G1⟩ := c_detach C W n0 hh.2
        have Wo := W.lv n0 hh.2
        obtain ⟨m1, e1, M1, F1⟩ := m_leavesX M W b0 b1
        have Wb := W.lv b0 b1
        obtain ⟨m2, e2, M2, F2⟩ := m_leavesX M1 Wb n0 (by rw [lvV_N]; exact hh.2)
        have Wbo := Wb.lv n0 (by rw [lvV_N]; exact hh.2)
        have hBo : ∀ j, (lvV v b).2.2.1 o j = v.2.2.1 o j := fun j => lv_Bo hne
        have H1 : (lvV (lvV v b) o).2.2.2.1 b 0 = -1 := lv_H0 (by rw [hBo]; exact n2) (by omega) (by rw [hBo]; exact n3)
        have Pb := plc_lv W R b0 b1 qk ql
        by_cases qt : v.2.2.2.1 o 0 = -1
        · rw [qt] at cio fho
          have dn := c_detachN C1 (b := -1) rfl
          obtain ⟨c3, c4, m3, m4, V5, g1, g2, g3, g4, C5, M5, W5, r1, -, -, -, G5, F5⟩ := turn_mid (v := v) (V2 := lvV v o) (V3 := lvV (lvV v b) o) R b0 b1 n0 hh.2 rn nk qk ql (plc_of W b0 b1 ql) C1 Wo lvV_N (fun j => lv_Bo (fun e => hne e.symm)) (lv_comm hne) M2 Wbo (by rw [lvV_N, lvV_N]) (by rw [lvV_M, lvV_M]) (fun x => by rw [lv_B0, lv_B0]) (fun x => by
            rcases lv_B2 (v := lvV v b) (b := o) (x := x) with e | e
            · exact Or.inl e
            · rw [e]; exact lv_B2) (fun s j hj => by rw [lv_S4 hj, lv_S4 hj]) ⟨lv_Bm lv_Bs.1, lv_Bm lv_Bs.2.2⟩ ⟨lv_Bs.1, lv_Bs.2.2⟩ H1 (lv_Hm (lv_Hm qt)) (by
            rcases Pb with ⟨a1, a2, a3⟩ | ⟨a1, a2, a3, a4, a5⟩
            · exact Or.inl ⟨a1, a2, lv_Sm a3⟩
            · exact Or.inr ⟨a1, a2, lv_Hm a3, a4, a5⟩)
          have an := c_attachN C5 (b := b) (h := 0) (o := -1) (Or.inr rfl) (by omega) (by omega) (by omega) W5.1
          refine ⟨V5, c4, m4, ?_, ?_, C5, M5, W5, r1, G1.tr G5, (F1.tr F2).tr F5⟩
          · simp (disch := omega) only [F_Pr_change, ↓bnd_eq, bd2, bn2, Option.bind_some, Option.bind_none, ↓bse ck, co, ↓bse cl, ↓bse ci, ↓bse cio, ↓bse d1, ↓bse dn, ↓bse g1, ↓bse g2, ↓bse an, ↓reduceIte, inb, zl, zi_add, zi_sub, zi_mul, zi_neg, zi_le_t, zi_le_f, zi_lt_t, zi_lt_f, zi_eq_t, zi_eq_f, if_true, if_false, ite_true, ite_false, true_and, and_true, false_and, and_false, not_true_eq_false, not_false_eq_true, true_or, or_true, false_or, or_false, and_self, ge_iff_le, gt_iff_lt]
          · simp (disch := omega) only [F_M_turnsAbout, F_M_turnsAbout_102, ↓bnd_eq, bd2, bn2, Option.bind_some, Option.bind_none, f0, mo, ↓bse ml, fh, fho, ↓bse e1, ↓bse e2, f2, f3, f4, ↓bse g3, ↓bse g4, ↓reduceIte, inb, zl, zi_add, zi_sub, zi_mul, zi_neg, zi_le_t, zi_le_f, zi_lt_t, zi_lt_f, zi_eq_t, zi_eq_f, if_true, if_false, ite_true, ite_false, true_and, and_true, false_and, and_false, not_true_eq_false, not_false_eq_true, true_or, or_true, false_or, or_false, and_self, ge_iff_le, gt_iff_lt]
        · obtain ⟨t0, t2, t3⟩ := nt.resolve_left qt
          have rt : rk (v.2.2.2.1 o 0) < rk o := by
            have := R _ t0.1 t0.2 (by omega)
            rw [t2] at this
            exact this
          have tk : v.2.2.1 (v.2.2.2.1 o 0) 0 ≤ 12 := by
            rcases (W.2.2.1 _ t0.1 t0.2).2.2.1 with ⟨e, -⟩ | ⟨-, -, -, -, -, h6, -⟩
            · omega
            · exact h6 (by omega)
          generalize v.2.2.2.1 o 0 = d at *
          have hdo : d ≠ o := fun e => by rw [e] at rt; omega
          have hdb : d ≠ b := fun e => by rw [e] at rt; omega
          have dB1 : ∀ j, (lvV v o).2.2.1 d j = v.2.2.1 d j := fun j => lv_Bo hdo
          have dB2 : ∀ j, (lvV (lvV v b) o).2.2.1 d j = v.2.2.1 d j := fun j => by rw [lv_Bo hdo, lv_Bo hdb]
          obtain ⟨c2, d2, C2, G2⟩ := c_detach C1 Wo t0.1 (by rw [lvV_N]; exact t0.2)
          have Wod := Wo.lv t0.1 (by rw [lvV_N]; exact t0.2)
          obtain ⟨m3', e3', M3', F3'⟩ := m_leavesX M2 Wbo t0.1 (by rw [lvV_N, lvV_N]; exact t0.2)
          have W3 := Wbo.lv t0.1 (by rw [lvV_N, lvV_N]; exact t0.2)
          obtain ⟨c3, c4, m3, m4, V5, g1, g2, g3, g4, C5, M5, W5, ⟨r1, r2, r3, r4⟩, r5, r6, r7, G5, F5⟩ := turn_mid (v := v) (V2 := lvV (lvV v o) d) (V3 := lvV (lvV (lvV v b) o) d) R b0 b1 n0 hh.2 rn nk qk ql (plc_of W b0 b1 ql) C2 Wod (by rw [lvV_N, lvV_N]) (fun j => by rw [lv_Bo (fun e => hdb e.symm), lv_Bo (fun e => hne e.symm)]) (by rw [lv_comm hdb, lv_comm hne]) M3' W3 (by rw [lvV_N, lvV_N, lvV_N]) (by rw [lvV_M, lvV_M, lvV_M]) (fun x => by rw [lv_B0, lv_B0, lv_B0]) (fun x => by
            rcases lv_B2 (v := lvV (lvV v b) o) (b := d) (x := x) with e | e
            · exact Or.inl e
            · rw [e]
              rcases lv_B2 (v := lvV v b) (b := o) (x := x) with e | e
              · exact Or.inl e
              · rw [e]; exact lv_B2) (fun s j hj => by rw [lv_S4 hj, lv_S4 hj, lv_S4 hj]) ⟨lv_Bm (lv_Bm lv_Bs.1), lv_Bm (lv_Bm lv_Bs.2.2)⟩ ⟨lv_Bm lv_Bs.1, lv_Bm lv_Bs.2.2⟩ (lv_Hm H1) (lv_H0 (by rw [dB2]; exact t2) (by omega) (by rw [dB2]; exact t3)) (by
            rcases Pb with ⟨a1, a2, a3⟩ | ⟨a1, a2, a3, a4, a5⟩
            · exact Or.inl ⟨a1, a2, lv_Sm (lv_Sm a3)⟩
            · exact Or.inr ⟨a1, a2, lv_Hm (lv_Hm a3), a4, a5⟩)
          obtain ⟨d5a, d5b⟩ := r6 d hdb hdo
          have ds := lv_Bs (v := lvV (lvV v b) o) (b := d)
          obtain ⟨c5, g5, C6, G6⟩ := c_attach C5 W5.1.2 (b := b) (h := 0) (o := d) b0 (by omega) (by decide) (by decide) t0.1 (by omega)
          obtain ⟨m5, h5, M6, F6⟩ := m_putsX M5 W5.1.2 (b := b) (h := 0) (o := d) b0 (by omega) (by decide) (by decide) t0.1 (by omega)
          have W6 : PW (attV V5 b 0 d) := by
            refine W5.att b0 (by omega) (by decide) (by decide) t0.1 (by omega) r5 (by rw [d5a]; exact ds.1) (by rw [d5b]; exact ds.2.2) (Or.inl ⟨rfl, by rw [r3]; exact qk⟩) (fun _ => by rw [r3]; exact tk) (fun e => absurd e (by decide)) (fun x => x = b ∨ x = o ∨ rk b < rk x) (Or.inl rfl) (fun x x0 x1 => r7 x x0 (by omega)) (fun e => by omega)
          refine ⟨attV V5 b 0 d, c5, m5, ?_, ?_, C6, M6, W6, ⟨r1, r2, fun x => by rw [att_B, r3], fun s j hj => r4 s j hj⟩, ((G1.tr G2).tr G5).tr G6, (((F1.tr F2).tr F3').tr F5).tr F6⟩
          · simp (disch := omega) only [F_Pr_change, ↓bnd_eq, bd2, bn2, Option.bind_some, Option.bind_none, ↓bse ck, co, ↓bse cl, ↓bse ci, ↓bse cio, ↓bse d1, ↓bse d2, ↓bse g1, ↓bse g2, ↓bse g5, ↓reduceIte, inb, zl, zi_add, zi_sub, zi_mul, zi_neg, zi_le_t, zi_le_f, zi_lt_t, zi_lt_f, zi_eq_t, zi_eq_f, if_true, if_false, ite_true, ite_false, true_and, and_true, false_and, and_false, not_true_eq_false, not_false_eq_true, true_or, or_true, false_or, or_false, and_self, ge_iff_le, gt_iff_lt]
          · simp (disch := omega) only [F_M_turnsAbout, F_M_turnsAbout_102, ↓bnd_eq, bd2, bn2, Option.bind_some, Option.bind_none, f0, mo, ↓bse ml, fh, fho, ↓bse e1, ↓bse e2, ↓bse e3', f2, f3, f4, ↓bse g3, ↓bse g4, ↓bse h5, ↓reduceIte, inb, zl, zi_add, zi_sub, zi_mul, zi_neg, zi_le_t, zi_le_f, zi_lt_t, zi_lt_f, zi_eq_t, zi_eq_f, if_true, if_false, ite_true, ite_false, true_and, and_true, false_and, and_false, not_true_eq_false, not_false_eq_true, true_or, or_true, false_or, or_false, and_self, ge_iff_le, gt_iff_lt]
  · have co : F_Bs_isOrder (zi (v.2.2.1 b 0)) = zi 0 := by simp (disch := omega) only [F_Bs_isOrder, ↓reduceIte, inb, zl, zi_add, zi_sub, zi_mul, zi_neg, zi_le_t, zi_le_f, zi_lt_t, zi_lt_f, zi_eq_t, zi_eq_f, if_true, if_false, ite_true, ite_false, true_and, and_true, false_and, and_false, not_true_eq_false, not_false_eq_true, true_or, or_true, false_or, or_false, and_self, ge_iff_le, gt_iff_lt]
    have mo : F_M_isOrder (zi (v.2.2.1 b 0)) = zi 0 := by simp (disch := omega) only [F_M_isOrder, ↓reduceIte, inb, zl, zi_add, zi_sub, zi_mul, zi_neg, zi_le_t, zi_le_f, zi_lt_t, zi_lt_f, zi_eq_t, zi_eq_f, if_true, if_false, ite_true, ite_false, true_and, and_true, false_and, and_false, not_true_eq_false, not_false_eq_true, true_or, or_true, false_or, or_false, and_self, ge_iff_le, gt_iff_lt]
    left
    constructor
    · simp (disch := omega) only [F_Pr_change, ↓bnd_eq, bd2, bn2, Option.bind_some, Option.bind_none, ↓bse ck, co, ↓reduceIte, inb, zl, zi_add, zi_sub, zi_mul, zi_neg, zi_le_t, zi_le_f, zi_lt_t, zi_lt_f, zi_eq_t, zi_eq_f, if_true, if_false, ite_true, ite_false, true_and, and_true, false_and, and_false, not_true_eq_false, not_false_eq_true, true_or, or_true, false_or, or_false, and_self, ge_iff_le, gt_iff_lt]
    · simp (disch := omega) only [F_M_turnsAbout, ↓bnd_eq, bd2, bn2, Option.bind_some, Option.bind_none, f0, mo, ↓reduceIte, inb, zl, zi_add, zi_sub, zi_mul, zi_neg, zi_le_t, zi_le_f, zi_lt_t, zi_lt_f, zi_eq_t, zi_eq_f, if_true, if_false, ite_true, ite_false, true_and, and_true, false_and, and_false, not_true_eq_false, not_false_eq_true, true_or, or_true, false_or, or_false, and_self, ge_iff_le, gt_iff_lt]
/-- a change, on both sides -/
theorem lk_change (C : CP p c v) (M : MP m v) (W : PW v) {b k : Int} (b0 : 0 ≤ b) (b1 : b < v.1) (hk : 0 ≤ k ∧ k ≤ 3) : Chg p v c m (F_Pr_change p (zi b) (zi k) c) (F_M_changes (zi b) (zi k) m) := by
  have hN := W.1
  have f1 := (M.2.2.1 b b0 b1).2.1
  have w01 : ∀ (f : Option (Int32 × Dl)) (d : Dl) (F : Option (Int32 × Dl)), (f = some (zi 0, d) ∨ ∃ d', f = some (zi 1, d')) → F = bd2 f (fun v6 δ6 => if v6 = 0 ∨ v6 = 1 then some (v6, δ6) else none) → F = f := by
    intro f d F hf e
    rcases hf with h | ⟨d', h⟩
    · rw [e, h]; rfl
    · rw [e, h]; rfl
  have cg : ∀ (fc fm fc' fm' : Option (Int32 × Dl)), fc' = fc → fm' = fm → Chg p v c m fc fm → Chg p v c m fc' fm' := fun _ _ _ _ h1 h2 h => by rw [h1, h2]; exact h
  have cs : ∀ {fc fm : Option (Int32 × Dl)}, Chg p v c m fc fm → (fc = some (zi 0, c) ∨ ∃ d', fc = some (zi 1, d')) ∧ (fm = some (zi 0, m) ∨ ∃ d', fm = some (zi 1, d')) := fun h => by
    rcases h with ⟨h1, h2⟩ | ⟨v', c', m', h1, h2, -⟩
    · exact ⟨Or.inl h1, Or.inl h2⟩
    · exact ⟨Or.inr ⟨c', h1⟩, Or.inr ⟨m', h2⟩⟩
  have z1 : (1 : Int32) = zi 1 := zl 1
  have zm : (-1 : Int32) = zi (-1) := by decide
  rcases (show k = 0 ∨ k = 1 ∨ k = 2 ∨ k = 3 by omega) with rfl | rfl | rfl | rfl
  · have h := lk_out C M W b0 b1
    refine cg _ _ _ _ rfl (w01 _ m _ (cs h).2 ?_) h
    unfold F_M_changes
    rw [if_pos (by decide)]
  · have h := lk_chNum (x2 := zi 1) C M W b0 b1 (Or.inl rfl)
    refine cg _ _ _ _ (w01 _ c _ (cs h).1 ?_) ?_ h
    · unfold F_Pr_change
      rw [if_pos (by decide), zm]
    · unfold F_M_changes
      rw [if_neg (by decide), if_neg (by decide), if_pos (by simp (disch := omega) only [↓reduceIte, inb, zl, zi_add, zi_sub, zi_mul, zi_neg, zi_le_t, zi_le_f, zi_lt_t, zi_lt_f, zi_eq_t, zi_eq_f, if_true, if_false, ite_true, ite_false, true_and, and_true, false_and, and_false, not_true_eq_false, not_false_eq_true, true_or, or_true, false_or, or_false, and_self, ge_iff_le, gt_iff_lt]), if_pos (by decide), f1, zm]
  · have h := lk_chNum (x2 := zi 2) C M W b0 b1 (Or.inr rfl)
    refine cg _ _ _ _ (w01 _ c _ (cs h).1 ?_) ?_ h
    · unfold F_Pr_change
      rw [if_neg (by decide), if_pos (by decide), z1]
    · unfold F_M_changes
      rw [if_neg (by decide), if_neg (by decide), if_pos (by simp (disch := omega) only [↓reduceIte, inb, zl, zi_add, zi_sub, zi_mul, zi_neg, zi_le_t, zi_le_f, zi_lt_t, zi_lt_f, zi_eq_t, zi_eq_f, if_true, if_false, ite_true, ite_false, true_and, and_true, false_and, and_false, not_true_eq_false, not_false_eq_true, true_or, or_true, false_or, or_false, and_self, ge_iff_le, gt_iff_lt]), if_neg (by decide), f1, z1]
  · have h := lk_turn C M W b0 b1
    refine cg _ _ _ _ rfl (w01 _ m _ (cs h).2 ?_) h
    unfold F_M_changes
    rw [if_neg (by decide), if_pos (by decide)]
end TU
