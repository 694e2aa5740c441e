/-! flag, tick, back (wip/whole/pure) -/
abbrev SLv : Nat → Nat → Prop := fun f a => (a = 9 ∧ 30 ≤ f ∧ f ≤ 34) ∨ (a = 10 ∧ 70 ≤ f ∧ f ≤ 79) ∨ (a = 8 ∧ 42 ≤ f ∧ f ≤ 53) ∨ (f = 152 ∧ a = 23)
theorem INV.live {δ δ2 : Dl} {v : PG} {g : SG} {n : Int} {gk : Int → SG} (h1 : J1 v δ) (h2 : J2 g δ) (h3 : J3 n gk δ) (hr : JR δ) (F : Fr SLv δ δ2) (h4 : J4 v g δ2) : INV δ2 := by
  have e' : ∀ f a, SLv f a → (a = 9 ∧ 30 ≤ f ∧ f ≤ 34) ∨ (a = 10 ∧ 70 ≤ f ∧ f ≤ 79) ∨ (a = 8 ∧ 42 ≤ f ∧ f ≤ 53) ∨ (f = 152 ∧ a = 23) := fun f a e => e
  exact ⟨⟨v, g, h1.fr F (fun f a q e => by have := e' f a e; omega), h2.fr F (fun f a q e => by have := e' f a e; omega), h4⟩, ⟨n, gk, h3.fr F (fun f a q e => by have := e' f a e; omega)⟩, hr.fr F (fun f a q e => by
    have q' : (a = 14 ∧ 10 ≤ f ∧ f ≤ 11) ∨ (16 ≤ a ∧ a ≤ 17 ∧ 80 ≤ f ∧ f ≤ 85) ∨ (a = 0 ∧ 103 ≤ f ∧ f ≤ 107) ∨ (a = 15 ∧ 10 ≤ f ∧ f ≤ 11) ∨ (19 ≤ a ∧ a ≤ 22 ∧ 22 ≤ f ∧ f ≤ 23) ∨ (a = 18 ∧ 60 ≤ f ∧ f ≤ 62) ∨ (a = 23 ∧ ((153 ≤ f ∧ f ≤ 173) ∨ f = 177)) := q
    have := e' f a e
    omega)⟩
theorem fr_b {δ δ' : Dl} (F : Fr (SBc 8 10) δ δ') : Fr SLv δ δ' := F.to (fun x y e => by
  rcases e with e | e
  · exact Or.inr (Or.inl ⟨e.1, e.2.1, e.2.2⟩)
  · exact Or.inr (Or.inr (Or.inl ⟨e.1, by omega, by omega⟩)))
theorem fr_r {δ δ' : Dl} (F : Fr (SRc 8 10) δ δ') : Fr SLv δ δ' := F.to (fun x y e => by
  rcases e with e | e
  · exact Or.inr (Or.inl ⟨e.1, by omega, by omega⟩)
  · exact Or.inr (Or.inr (Or.inl ⟨e.1, by omega, by omega⟩)))
theorem PL.s152 {v : PG} {g : SG} {t : Int} {δ : Dl} {u : Int32} (h : PL v g t δ) : PL v g t (sI δ 152 23 u) :=
  h.fr (S := fun f a => f = 152 ∧ a = 23) (Fr.rf.sI ⟨rfl, rfl⟩) (fun f a q e => by omega)
theorem st_flag : S2 INV F_Bs_flag (Tt F_M_flag) := by
  intro δ I
  obtain ⟨⟨v, g, h1, h2, h4⟩, ⟨kn, gk, h3⟩, hr⟩ := I
  obtain ⟨W, C, M⟩ := id h1
  obtain ⟨wg, G, Mg⟩ := id h2
  obtain ⟨d1, e1, C9, F1⟩ := c_pcopy (p := 9) (o := 1) (by decide) W C
  have Fa : Fr SLv δ d1 := F1.to (fun x y e => Or.inl e)
  obtain ⟨d2, e2, P, h42, h43, F2⟩ := run_begin W wg C9 (G.fr F1 (fun f q1 q2 e => by omega)) (M.fr F1 (fun f q1 q2 e => by omega)) (Mg.fr F1 (fun f q1 q2 e => by omega))
  have Fb := Fa.tr (fr_b F2)
  refine ⟨zi 1, d2, sI d2 152 23 (zi 0), ?_, ?_, INV.live h1 h2 h3 hr (Fb.sI (Or.inr (Or.inr (Or.inr ⟨rfl, rfl⟩)))) (Or.inr ⟨h42, 0, by decide, h43, sI_at, ?_, P.s152⟩), ?_⟩
  · unfold F_Bs_flag
    rw [e1, Option.bind_some, e2, Option.bind_some, zl1]
  · unfold Tt F_M_flag
    rw [bnd_eq, zl0, zl1]
  · show CP 9 d2 v
    exact C9.fr F2 (fun f q1 q2 e => by rcases e with e | e <;> omega)
  · show d2.2.2 102 0 = δ.2.2 102 0
    rw [Fb.1]
theorem st_tick (x1 : Int32) : S2 INV (F_Bs_tick x1) (Tt (F_M_tick x1)) := by
  intro δ I
  obtain ⟨⟨v, g, h1, h2, h4⟩, ⟨kn, gk, h3⟩, hr⟩ := id I
  obtain ⟨W, C, M⟩ := id h1
  obtain ⟨wg, G, Mg⟩ := id h2
  obtain ⟨n, rfl, hn⟩ := zi_ex x1
  rcases h4 with ⟨on, sh⟩ | ⟨on, t, ht, h43, sh, C9, P⟩
  · refine ⟨zi (-3), δ, δ, ?_, ?_, I, rfl⟩
    · simp (disch := omega) only [F_Bs_tick, on, ↓reduceIte, inb, zl, zi_add, zi_sub, zi_mul, zi_neg, zi_le_t, zi_le_f, zi_lt_t, zi_lt_f, zi_eq_t, zi_eq_f, if_true, if_false, ite_true, ite_false, true_and, and_true, false_and, and_false, not_true_eq_false, not_false_eq_true, true_or, or_true, false_or, or_false, and_self, ge_iff_le, gt_iff_lt]
    · simp (disch := omega) only [Tt, F_M_tick, sh, ↓reduceIte, inb, zl, zi_add, zi_sub, zi_mul, zi_neg, zi_le_t, zi_le_f, zi_lt_t, zi_lt_f, zi_eq_t, zi_eq_f, if_true, if_false, ite_true, ite_false, true_and, and_true, false_and, and_false, not_true_eq_false, not_false_eq_true, true_or, or_true, false_or, or_false, and_self, ge_iff_le, gt_iff_lt]
  · by_cases q : 1 ≤ n ∧ n ≤ 100
    · by_cases q3 : t + n ≤ 300
      · obtain ⟨c, ⟨e1, -⟩, P', h43', F⟩ := run_ticks W wg M Mg (x1 := zi n) (N := n) n.toNat 0 FU t δ P h43 ht.1 (by omega) (by omega) (by omega) (by omega) (by unfold FU; omega)
        rw [show t + (n.toNat : Int) = t + n by omega] at e1 P' h43'
        have sh' : c.1 152 23 = zi t := by rw [(F.2 152 23 (fun e => by rcases e with e | e <;> omega)).1]; exact sh
        refine ⟨zi (t + n), c, sI c 152 23 (zi (t + n)), ?_, ?_, INV.live h1 h2 h3 hr ((fr_r F).sI (Or.inr (Or.inr (Or.inr ⟨rfl, rfl⟩)))) (Or.inr ⟨?_, t + n, by omega, h43', sI_at, ?_, P'.s152⟩), ?_⟩
        · rw [← e1]
          simp (disch := omega) only [F_Bs_tick, on, h43, ↓reduceIte, inb, zl, zi_add, zi_sub, zi_mul, zi_neg, zi_le_t, zi_le_f, zi_lt_t, zi_lt_f, zi_eq_t, zi_eq_f, if_true, if_false, ite_true, ite_false, true_and, and_true, false_and, and_false, not_true_eq_false, not_false_eq_true, true_or, or_true, false_or, or_false, and_self, ge_iff_le, gt_iff_lt]
        · simp (disch := omega) only [Tt, F_M_tick, F_M_within, ↓bnd_eq, bd2, bn2, Option.bind_some, Option.bind_none, sh', sI_at, ↓reduceIte, inb, zl, zi_add, zi_sub, zi_mul, zi_neg, zi_le_t, zi_le_f, zi_lt_t, zi_lt_f, zi_eq_t, zi_eq_f, if_true, if_false, ite_true, ite_false, true_and, and_true, false_and, and_false, not_true_eq_false, not_false_eq_true, true_or, or_true, false_or, or_false, and_self, ge_iff_le, gt_iff_lt]
        · show c.1 42 8 = zi 1
          rw [(F.2 42 8 (fun e => by rcases e with e | e <;> omega)).1]; exact on
        · show CP 9 c v
          exact C9.fr F (fun f q1 q2 e => by rcases e with e | e <;> omega)
        · show c.2.2 102 0 = δ.2.2 102 0
          rw [F.1]
      · refine ⟨zi (-4), δ, δ, ?_, ?_, I, rfl⟩
        · simp (disch := omega) only [F_Bs_tick, on, h43, ↓reduceIte, inb, zl, zi_add, zi_sub, zi_mul, zi_neg, zi_le_t, zi_le_f, zi_lt_t, zi_lt_f, zi_eq_t, zi_eq_f, if_true, if_false, ite_true, ite_false, true_and, and_true, false_and, and_false, not_true_eq_false, not_false_eq_true, true_or, or_true, false_or, or_false, and_self, ge_iff_le, gt_iff_lt]
        · simp (disch := omega) only [Tt, F_M_tick, F_M_within, ↓bnd_eq, bd2, bn2, Option.bind_some, Option.bind_none, sh, ↓reduceIte, inb, zl, zi_add, zi_sub, zi_mul, zi_neg, zi_le_t, zi_le_f, zi_lt_t, zi_lt_f, zi_eq_t, zi_eq_f, if_true, if_false, ite_true, ite_false, true_and, and_true, false_and, and_false, not_true_eq_false, not_false_eq_true, true_or, or_true, false_or, or_false, and_self, ge_iff_le, gt_iff_lt]
    · refine ⟨zi (-2), δ, δ, ?_, ?_, I, rfl⟩
      · by_cases q0 : n < 1
        · simp (disch := omega) only [F_Bs_tick, on, ↓reduceIte, inb, zl, zi_add, zi_sub, zi_mul, zi_neg, zi_le_t, zi_le_f, zi_lt_t, zi_lt_f, zi_eq_t, zi_eq_f, if_true, if_false, ite_true, ite_false, true_and, and_true, false_and, and_false, not_true_eq_false, not_false_eq_true, true_or, or_true, false_or, or_false, and_self, ge_iff_le, gt_iff_lt]
        · simp (disch := omega) only [F_Bs_tick, on, ↓reduceIte, inb, zl, zi_add, zi_sub, zi_mul, zi_neg, zi_le_t, zi_le_f, zi_lt_t, zi_lt_f, zi_eq_t, zi_eq_f, if_true, if_false, ite_true, ite_false, true_and, and_true, false_and, and_false, not_true_eq_false, not_false_eq_true, true_or, or_true, false_or, or_false, and_self, ge_iff_le, gt_iff_lt]
      · by_cases q0 : n < 1
        · simp (disch := omega) only [Tt, F_M_tick, F_M_within, ↓bnd_eq, bd2, bn2, Option.bind_some, Option.bind_none, sh, ↓reduceIte, inb, zl, zi_add, zi_sub, zi_mul, zi_neg, zi_le_t, zi_le_f, zi_lt_t, zi_lt_f, zi_eq_t, zi_eq_f, if_true, if_false, ite_true, ite_false, true_and, and_true, false_and, and_false, not_true_eq_false, not_false_eq_true, true_or, or_true, false_or, or_false, and_self, ge_iff_le, gt_iff_lt]
        · simp (disch := omega) only [Tt, F_M_tick, F_M_within, ↓bnd_eq, bd2, bn2, Option.bind_some, Option.bind_none, sh, ↓reduceIte, inb, zl, zi_add, zi_sub, zi_mul, zi_neg, zi_le_t, zi_le_f, zi_lt_t, zi_lt_f, zi_eq_t, zi_eq_f, if_true, if_false, ite_true, ite_false, true_and, and_true, false_and, and_false, not_true_eq_false, not_false_eq_true, true_or, or_true, false_or, or_false, and_self, ge_iff_le, gt_iff_lt]
theorem st_back (x1 : Int32) : S2 INV (F_Bs_back x1) (Tt (F_M_back x1)) := by
  intro δ I
  obtain ⟨⟨v, g, h1, h2, h4⟩, ⟨kn, gk, h3⟩, hr⟩ := id I
  obtain ⟨W, C, M⟩ := id h1
  obtain ⟨wg, G, Mg⟩ := id h2
  obtain ⟨n, rfl, hn⟩ := zi_ex x1
  rcases h4 with ⟨on, sh⟩ | ⟨on, t, ht, h43, sh, C9, P⟩
  · refine ⟨zi (-3), δ, δ, ?_, ?_, I, rfl⟩
    · simp (disch := omega) only [F_Bs_back, on, ↓reduceIte, inb, zl, zi_add, zi_sub, zi_mul, zi_neg, zi_le_t, zi_le_f, zi_lt_t, zi_lt_f, zi_eq_t, zi_eq_f, if_true, if_false, ite_true, ite_false, true_and, and_true, false_and, and_false, not_true_eq_false, not_false_eq_true, true_or, or_true, false_or, or_false, and_self, ge_iff_le, gt_iff_lt]
    · simp (disch := omega) only [Tt, F_M_back, sh, ↓reduceIte, inb, zl, zi_add, zi_sub, zi_mul, zi_neg, zi_le_t, zi_le_f, zi_lt_t, zi_lt_f, zi_eq_t, zi_eq_f, if_true, if_false, ite_true, ite_false, true_and, and_true, false_and, and_false, not_true_eq_false, not_false_eq_true, true_or, or_true, false_or, or_false, and_self, ge_iff_le, gt_iff_lt]
  · by_cases q : 0 ≤ n ∧ n ≤ t
    · obtain ⟨d, e0, P0, h42, h43', F0⟩ := run_begin W wg C9 G M Mg
      obtain ⟨c, ⟨-, e1⟩, P', h43'', F⟩ := run_ticks W wg M Mg (x1 := zi n) (N := t - n) (t - n).toNat 0 FU 0 d P0 h43' (by omega) (by omega) (by omega) (by omega) (by omega) (by unfold FU; omega)
      rw [show 0 + ((t - n).toNat : Int) = t - n by omega] at P' h43''
      have Ft := (fr_b F0).tr (fr_r F)
      have sh' : c.1 152 23 = zi t := by rw [(F.2 152 23 (fun e => by rcases e with e | e <;> omega)).1, (F0.2 152 23 (fun e => by rcases e with e | e <;> omega)).1]; exact sh
      refine ⟨zi (t - n), c, sI c 152 23 (zi (t - n)), ?_, ?_, INV.live h1 h2 h3 hr (Ft.sI (Or.inr (Or.inr (Or.inr ⟨rfl, rfl⟩)))) (Or.inr ⟨?_, t - n, by omega, h43'', sI_at, ?_, P'.s152⟩), ?_⟩
      · rw [← e1]
        simp (disch := omega) only [F_Bs_back, on, h43, ↓bse e0, ↓reduceIte, inb, zl, zi_add, zi_sub, zi_mul, zi_neg, zi_le_t, zi_le_f, zi_lt_t, zi_lt_f, zi_eq_t, zi_eq_f, if_true, if_false, ite_true, ite_false, true_and, and_true, false_and, and_false, not_true_eq_false, not_false_eq_true, true_or, or_true, false_or, or_false, and_self, ge_iff_le, gt_iff_lt]
      · simp (disch := omega) only [Tt, F_M_back, F_M_within, ↓bnd_eq, bd2, bn2, Option.bind_some, Option.bind_none, sh', sI_at, ↓reduceIte, inb, zl, zi_add, zi_sub, zi_mul, zi_neg, zi_le_t, zi_le_f, zi_lt_t, zi_lt_f, zi_eq_t, zi_eq_f, if_true, if_false, ite_true, ite_false, true_and, and_true, false_and, and_false, not_true_eq_false, not_false_eq_true, true_or, or_true, false_or, or_false, and_self, ge_iff_le, gt_iff_lt]
      · show c.1 42 8 = zi 1
        rw [(F.2 42 8 (fun e => by rcases e with e | e <;> omega)).1]; exact h42
      · show CP 9 c v
        exact (C9.fr F0 (fun f q1 q2 e => by rcases e with e | e <;> omega)).fr F (fun f q1 q2 e => by rcases e with e | e <;> omega)
      · show c.2.2 102 0 = δ.2.2 102 0
        rw [Ft.1]
    · refine ⟨zi (-2), δ, δ, ?_, ?_, I, rfl⟩
      · by_cases q0 : n < 0
        · simp (disch := omega) only [F_Bs_back, on, ↓reduceIte, inb, zl, zi_add, zi_sub, zi_mul, zi_neg, zi_le_t, zi_le_f, zi_lt_t, zi_lt_f, zi_eq_t, zi_eq_f, if_true, if_false, ite_true, ite_false, true_and, and_true, false_and, and_false, not_true_eq_false, not_false_eq_true, true_or, or_true, false_or, or_false, and_self, ge_iff_le, gt_iff_lt]
        · simp (disch := omega) only [F_Bs_back, on, h43, ↓reduceIte, inb, zl, zi_add, zi_sub, zi_mul, zi_neg, zi_le_t, zi_le_f, zi_lt_t, zi_lt_f, zi_eq_t, zi_eq_f, if_true, if_false, ite_true, ite_false, true_and, and_true, false_and, and_false, not_true_eq_false, not_false_eq_true, true_or, or_true, false_or, or_false, and_self, ge_iff_le, gt_iff_lt]
      · by_cases q0 : n < 0
        · simp (disch := omega) only [Tt, F_M_back, F_M_within, ↓bnd_eq, bd2, bn2, Option.bind_some, Option.bind_none, sh, ↓reduceIte, inb, zl, zi_add, zi_sub, zi_mul, zi_neg, zi_le_t, zi_le_f, zi_lt_t, zi_lt_f, zi_eq_t, zi_eq_f, if_true, if_false, ite_true, ite_false, true_and, and_true, false_and, and_false, not_true_eq_false, not_false_eq_true, true_or, or_true, false_or, or_false, and_self, ge_iff_le, gt_iff_lt]
        · simp (disch := omega) only [Tt, F_M_back, F_M_within, ↓bnd_eq, bd2, bn2, Option.bind_some, Option.bind_none, sh, ↓reduceIte, inb, zl, zi_add, zi_sub, zi_mul, zi_neg, zi_le_t, zi_le_f, zi_lt_t, zi_lt_f, zi_eq_t, zi_eq_f, if_true, if_false, ite_true, ite_false, true_and, and_true, false_and, and_false, not_true_eq_false, not_false_eq_true, true_or, or_true, false_or, or_false, and_self, ge_iff_le, gt_iff_lt]
