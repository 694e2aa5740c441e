/-! runs begun, ticked, gone back; the reference's show (wip/whole/pure) -/
theorem w40 : wsr 40 8 = 9 := by decide
theorem w41 : wsr 41 8 = 10 := by decide
section RU
variable {δ : Dl} {v : PG} {g : SG}
theorem run_begin (W : PW v) (wg : WG g) (C : CP 9 δ v) (G : CG 3 δ g) (M : MP δ v) (Mg : MG 4 δ g) : ∃ c, F_Ru_begin 8 3 δ = some c ∧ PL v g 0 c ∧ c.1 42 8 = zi 1 ∧ c.1 43 8 = zi 0 ∧ Fr (SBc 8 10) δ c := by
  obtain ⟨c, m, e1, e2, R, h42, F1, F2⟩ := lk_begin (a := 8) W wg w40 w41 (o := 3) (by decide) C M G Mg (by decide)
  refine ⟨c, e1, fun δm Mm Gm => ?_, h42, ?_, F1⟩
  · obtain ⟨c', m', e1', e2', R', h42', F1', F2'⟩ := lk_begin (a := 8) W wg w40 w41 (o := 3) (by decide) C Mm G Gm (by decide)
    have : c' = c := Option.some.inj (e1'.symm.trans e1)
    subst this
    exact ⟨fun _ => m', e2', fun i hi => absurd hi (Nat.not_lt_zero _), R', F2'⟩
  · obtain ⟨q, hq, y1, -⟩ := R.2.2.2.2.2.1
    exact y1
theorem run_tick (W : PW v) (wg : WG g) {t : Int} {c δi : Dl} (P : PL v g t c) (ht : 0 ≤ t ∧ t ≤ 1000) (M : MP δi v) (Mg : MG 4 δi g) : ∃ c', F_Ru_oneTick 8 c = some c' ∧ PL v g (t + 1) c' ∧ c'.1 43 8 = zi (t + 1) ∧ Fr (SRc 8 10) c c' := by
  obtain ⟨d, a1, a2, a3, a4⟩ := P δi M Mg
  obtain ⟨c', m', e1, e2, R, F1, F2⟩ := lk_tick W wg w40 w41 a3 (by omega) (by omega)
  refine ⟨c', e1, fun δm Mm Gm => ?_, ?_, F1⟩
  · obtain ⟨d, a1, a2, a3, a4⟩ := P δm Mm Gm
    obtain ⟨c'', m', e1', e2', R', F1', F2'⟩ := lk_tick W wg w40 w41 a3 (by omega) (by omega)
    have : c'' = c' := Option.some.inj (e1'.symm.trans e1)
    subst this
    have en : (t + 1).toNat = t.toNat + 1 := by omega
    obtain ⟨D, D1, D2⟩ : ∃ D : Nat → Dl, (∀ i, i ≤ t.toNat → D i = d i) ∧ D (t.toNat + 1) = m' := ⟨fun i => if i ≤ t.toNat then d i else m', fun i hi => if_pos hi, if_neg (by omega)⟩
    refine ⟨D, by rw [D1 0 (Nat.zero_le _)]; exact a1, fun i hi => ?_, ?_, by rw [D1 0 (Nat.zero_le _)]; exact a4⟩
    · by_cases q : i < t.toNat
      · rw [D1 i (by omega), D1 (i + 1) (by omega)]
        exact a2 i q
      · have : i = t.toNat := by omega
        subst this
        rw [D1 _ (Nat.le_refl _), D2]
        exact ⟨e2', F2'⟩
    · rw [en, D2, show 6 * (t + 1) = 6 * t + 6 by omega]
      exact R'
  · obtain ⟨q, hq, y1, -⟩ := R.2.2.2.2.2.1
    exact y1
/-- n ticks of the class's run -/
theorem run_ticks (W : PW v) (wg : WG g) {δi : Dl} (M : MP δi v) (Mg : MG 4 δi g) {x1 : Int32} {N : Int} : ∀ (n : Nat) (i : Int) (fu : Nat) (t : Int) (c : Dl), PL v g t c → c.1 43 8 = zi t → 0 ≤ t → t + n ≤ 1000 → 0 ≤ i → i + n = N → N ≤ 1000 → n < fu →
    ∃ c', (F_Bs_tick_47 (zi N) fu (zi i) c = some (zi (t + n), c') ∧ F_Bs_back_54 x1 fu (zi N) (zi i) c = some (zi N, c')) ∧ PL v g (t + n) c' ∧ c'.1 43 8 = zi (t + n) ∧ Fr (SRc 8 10) c c' := by
  intro n
  induction n with
  | zero =>
    intro i fu t c P h43 t0 t1 i0 hi hN hf
    obtain ⟨fu, rfl⟩ : ∃ q, fu = q + 1 := ⟨fu - 1, by omega⟩
    have : i = N := by omega
    subst this
    have e0 : t + ((0 : Nat) : Int) = t := by omega
    rw [e0]
    refine ⟨c, ⟨?_, ?_⟩, P, h43, Fr.rf⟩
    · simp (disch := omega) only [F_Bs_tick_47, F_Bs_tick_47_b, h43, ↓reduceIte, inb, zl, zi_add, zi_sub, zi_mul, zi_neg, zi_le_t, zi_le_f, zi_lt_t, zi_lt_f, zi_eq_t, zi_eq_f, if_true, if_false, ite_true, ite_false, true_and, and_true, false_and, and_false, not_true_eq_false, not_false_eq_true, true_or, or_true, false_or, or_false, and_self, ge_iff_le, gt_iff_lt]
    · simp (disch := omega) only [F_Bs_back_54, F_Bs_back_54_b, ↓reduceIte, inb, zl, zi_add, zi_sub, zi_mul, zi_neg, zi_le_t, zi_le_f, zi_lt_t, zi_lt_f, zi_eq_t, zi_eq_f, if_true, if_false, ite_true, ite_false, true_and, and_true, false_and, and_false, not_true_eq_false, not_false_eq_true, true_or, or_true, false_or, or_false, and_self, ge_iff_le, gt_iff_lt]
  | succ n ih =>
    intro i fu t c P h43 t0 t1 i0 hi hN hf
    obtain ⟨fu, rfl⟩ : ∃ q, fu = q + 1 := ⟨fu - 1, by omega⟩
    obtain ⟨c1, e1, P1, h1, F1⟩ := run_tick W wg P (by omega) M Mg
    obtain ⟨c', ⟨e2, e3⟩, P2, h2, F2⟩ := ih (i + 1) fu (t + 1) c1 P1 h1 (by omega) (by omega) (by omega) (by omega) hN (by omega)
    have en : t + 1 + (n : Int) = t + ((n + 1 : Nat) : Int) := by omega
    rw [en] at e2 P2 h2
    refine ⟨c', ⟨?_, ?_⟩, P2, h2, F1.tr F2⟩
    · rw [← e2]
      simp (disch := omega) only [F_Bs_tick_47, F_Bs_tick_47_b, ↓bse e1, ↓reduceIte, inb, zl, zi_add, zi_sub, zi_mul, zi_neg, zi_le_t, zi_le_f, zi_lt_t, zi_lt_f, zi_eq_t, zi_eq_f, if_true, if_false, ite_true, ite_false, true_and, and_true, false_and, and_false, not_true_eq_false, not_false_eq_true, true_or, or_true, false_or, or_false, and_self, ge_iff_le, gt_iff_lt]
    · rw [← e3]
      simp (disch := omega) only [F_Bs_back_54, F_Bs_back_54_b, ↓bse e1, ↓reduceIte, inb, zl, zi_add, zi_sub, zi_mul, zi_neg, zi_le_t, zi_le_f, zi_lt_t, zi_lt_f, zi_eq_t, zi_eq_f, if_true, if_false, ite_true, ite_false, true_and, and_true, false_and, and_false, not_true_eq_false, not_false_eq_true, true_or, or_true, false_or, or_false, and_self, ge_iff_le, gt_iff_lt]
/-- the reference's loop over its ticks -/
theorem m_shows_l {t : Int} {d : Nat → Dl} (ht : 0 ≤ t ∧ t ≤ 1000) (h : ∀ i, i < t.toNat → F_M_ticks (d i) = some (d (i + 1)) ∧ Fr SRm (d i) (d (i + 1))) (h0 : (d 0).1 152 23 = zi t) : ∀ (n i fu : Nat), i + n = t.toNat → n < fu → (d i).1 152 23 = zi t → F_M_shows_7 fu (zi i) (d i) = some (d t.toNat) := by
  intro n
  induction n with
  | zero =>
    intro i fu hi hf hd
    obtain ⟨fu, rfl⟩ : ∃ q, fu = q + 1 := ⟨fu - 1, by omega⟩
    have : i = t.toNat := by omega
    subst this
    simp (disch := omega) only [F_M_shows_7, F_M_shows_7_b, hd, ↓reduceIte, inb, zl, zi_add, zi_sub, zi_mul, zi_neg, zi_le_t, zi_le_f, zi_lt_t, zi_lt_f, zi_eq_t, zi_eq_f, if_true, if_false, ite_true, ite_false, true_and, and_true, false_and, and_false, not_true_eq_false, not_false_eq_true, true_or, or_true, false_or, or_false, and_self, ge_iff_le, gt_iff_lt]
  | succ n ih =>
    intro i fu hi hf hd
    obtain ⟨fu, rfl⟩ : ∃ q, fu = q + 1 := ⟨fu - 1, by omega⟩
    obtain ⟨a1, a2⟩ := h i (by omega)
    have hd' : (d (i + 1)).1 152 23 = zi t := by rw [(a2.2 152 23 (by decide)).1]; exact hd
    rw [← ih (i + 1) fu (by omega) (by omega) hd']
    have ei : ((i + 1 : Nat) : Int) = (i : Int) + 1 := by omega
    rw [ei]
    simp (disch := omega) only [F_M_shows_7, F_M_shows_7_b, hd, ↓bse a1, ↓reduceIte, inb, zl, zi_add, zi_sub, zi_mul, zi_neg, zi_le_t, zi_le_f, zi_lt_t, zi_lt_f, zi_eq_t, zi_eq_f, if_true, if_false, ite_true, ite_false, true_and, and_true, false_and, and_false, not_true_eq_false, not_false_eq_true, true_or, or_true, false_or, or_false, and_self, ge_iff_le, gt_iff_lt]
theorem d_fr {t : Nat} {d : Nat → Dl} (h : ∀ i, i < t → F_M_ticks (d i) = some (d (i + 1)) ∧ Fr SRm (d i) (d (i + 1))) : ∀ i, i ≤ t → Fr SRm (d 0) (d i) := by
  intro i
  induction i with
  | zero => intro _; exact Fr.rf
  | succ i ih => intro hi; exact (ih (by omega)).tr (h i (by omega)).2
/-- the reference's show: what is looked at, on both sides -/
theorem m_shows (h1 : J1 v δ) (h2 : J2 g δ) (h4 : J4 v g δ) : ∃ δ' s, F_M_shows δ = some δ' ∧ Fr SBm δ δ' ∧ RM 4 g δ' ∧ MP δ' v ∧ F_Bs_shown δ = (0, s) ∧ Oc s 9 ∧ RS s g δ δ' ∧
    ((δ.1 42 8 = zi 0 ∧ δ.1 152 23 = zi (-1) ∧ δ'.1 148 23 = zi 0 ∧ ∀ j, 0 ≤ j → j < 6 → δ'.2.1 141 23 (zi j) = zi 0 ∧ δ'.2.1 142 23 (zi j) = zi (-1) ∧ δ'.2.1 143 23 (zi j) = zi 0) ∨
     (δ.1 42 8 = zi 1 ∧ ∃ t : Int, (0 ≤ t ∧ t ≤ 300) ∧ δ.1 43 8 = zi t ∧ δ.1 152 23 = zi t ∧ RR0 8 9 10 v g 4 t (6 * t) δ δ')) := by
  obtain ⟨W, C, M⟩ := h1
  obtain ⟨wg, G, Mg⟩ := h2
  have z4 : (4 : Int32) = zi 4 := zl 4
  have z0 : (0 : Int32) = zi 0 := zl 0
  have hw := wg.1
  have hh := wg.2.1
  have ha := wg.2.2.1
  rcases h4 with ⟨on, sh⟩ | ⟨on, t, ht, h43, sh, C9, P⟩
  · obtain ⟨d, e, F, m1, m2, m3, m4, m5, m6, m7⟩ := m_starts (k := 4) (by decide) δ
    have sh' : d.1 152 23 = zi (-1) := by rw [(F.2 152 23 (by decide)).1]; exact sh
    have es : F_M_shows δ = some d := by
      have e7 : ∀ fu, 0 < fu → F_M_shows_7 fu (zi 0) d = some d := by
        intro fu hf
        obtain ⟨fu, rfl⟩ : ∃ q, fu = q + 1 := ⟨fu - 1, by omega⟩
        simp (disch := omega) only [F_M_shows_7, F_M_shows_7_b, sh', ↓reduceIte, inb, zl, zi_add, zi_sub, zi_mul, zi_neg, zi_le_t, zi_le_f, zi_lt_t, zi_lt_f, zi_eq_t, zi_eq_f, if_true, if_false, ite_true, ite_false, true_and, and_true, false_and, and_false, not_true_eq_false, not_false_eq_true, true_or, or_true, false_or, or_false, and_self, ge_iff_le, gt_iff_lt]
      unfold F_M_shows
      rw [z4, e, Option.bind_some, z0]
      exact e7 FU (by unfold FU; omega)
    have F' : Fr SBm δ d := F.to (fun x y e => Or.inl ⟨e.1, by omega⟩)
    refine ⟨d, 3, es, F', ⟨by decide, m1, ?_, ?_, ?_⟩, M.fr F' (fun f q1 q2 e => by
      have : (131 ≤ f ∧ f ≤ 151) ∨ f = 174 := e
      omega), ?_, by decide, ?_, Or.inl ⟨on, sh, m3, m6⟩⟩
    · rw [(F.2 110 23 (by decide)).2]; exact Mg.1
    · rw [(F.2 111 23 (by decide)).2]; exact Mg.2.1
    · rw [(F.2 113 23 (by decide)).2]; exact Mg.2.2.1
    · simp (disch := omega) only [F_Bs_shown, on, ↓reduceIte, inb, zl, zi_add, zi_sub, zi_mul, zi_neg, zi_le_t, zi_le_f, zi_lt_t, zi_lt_f, zi_eq_t, zi_eq_f, if_true, if_false, ite_true, ite_false, true_and, and_true, false_and, and_false, not_true_eq_false, not_false_eq_true, true_or, or_true, false_or, or_false, and_self, ge_iff_le, gt_iff_lt]
    · refine ⟨G.1, G.2.1, G.2.2.1, fun x y x0 x1 y0 y1 => ?_, G.2.2.2.2.1, fun i i0 i1 => ?_⟩
      · rw [G.2.2.2.1 x y x0 x1 y0 y1, m4 (8 * y + x) (by omega) (by omega), Mg.2.2.2.1 x y x0 x1 y0 y1]
      · obtain ⟨q1, q2, q3, q4, q5⟩ := G.2.2.2.2.2 i i0 i1
        obtain ⟨l1, l2, l3, l4, l5, l6⟩ := m5 i i0 (by omega)
        obtain ⟨n1, n2, n3⟩ := Mg.2.2.2.2 i i0 i1
        obtain ⟨w1, w2, w3⟩ := wg.2.2.2.2 i i0 i1
        exact ⟨g.2.2.2.2.1 i, g.2.2.2.2.2.1 i, g.2.2.2.2.2.2 i, -1, w1, w2, w3, by omega, q1, l1.trans n1, l2.trans n2, q2, l3.trans n3, q3.trans l4.symm, q4.trans l5.symm, q5, l6, fun j j0 j1 => by omega⟩
  · obtain ⟨d, e, a2, R, F0⟩ := P δ M Mg
    have h0 : (d 0).1 152 23 = zi t := by rw [(F0.2 152 23 (by decide)).1]; exact sh
    have es : F_M_shows δ = some (d t.toNat) := by
      unfold F_M_shows
      rw [z4, e, Option.bind_some, z0]
      exact m_shows_l (t := t) ⟨ht.1, by omega⟩ a2 h0 t.toNat 0 FU (by omega) (by unfold FU; omega) h0
    have F1 : Fr SBm δ (d t.toNat) := F0.tr ((d_fr a2 t.toNat (Nat.le_refl _)).to (fun x y e => by
      have : (132 ≤ x ∧ x ≤ 151) ∨ x = 174 := e
      show (131 ≤ x ∧ x ≤ 151) ∨ x = 174
      omega))
    refine ⟨d t.toNat, 10, es, F1, R.2.2.1, R.2.1, ?_, by decide, R.2.2.2.1, Or.inr ⟨on, t, ht, h43, sh, R⟩⟩
    simp (disch := omega) only [F_Bs_shown, on, ↓reduceIte, inb, zl, zi_add, zi_sub, zi_mul, zi_neg, zi_le_t, zi_le_f, zi_lt_t, zi_lt_f, zi_eq_t, zi_eq_f, if_true, if_false, ite_true, ite_false, true_and, and_true, false_and, and_false, not_true_eq_false, not_false_eq_true, true_or, or_true, false_or, or_false, and_self, ge_iff_le, gt_iff_lt]
end RU
/-! steps of the law that read alone -/
theorem S2.rr {f h : Dl → Option Int32} (H : ∀ δ, INV δ → ∃ u, f δ = some u ∧ h δ = some u) : S2 INV (Rd f) (Rd h) := by
  intro δ I
  obtain ⟨u, e1, e2⟩ := H δ I
  exact ⟨u, δ, δ, by unfold Rd; rw [e1]; rfl, by unfold Rd; rw [e2]; rfl, I, rfl⟩
theorem S2.rs {f : Dl → Option Int32} {h : Dl → Option (Int32 × Dl)} (H : ∀ δ, INV δ → ∃ u δ2, f δ = some u ∧ h δ = some (u, δ2) ∧ Fr SBm δ δ2) : S2 INV (Rd f) h := by
  intro δ I
  obtain ⟨u, δ2, e1, e2, F⟩ := H δ I
  exact ⟨u, δ, δ2, by unfold Rd; rw [e1]; rfl, e2, I.run F, by rw [F.1]⟩
theorem pb_dec : ∀ k : Nat, k < 23 → (F_Bs_isOrder (zi k) = F_M_isOrder (zi k) ∧ F_Bs_isShell (zi k) = F_M_isShell (zi k) ∧ F_Bs_isSharp (zi k) = F_M_isSharp (zi k)) := by decide +kernel
