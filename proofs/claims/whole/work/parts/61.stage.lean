/-! the calls of the beginning (wip/whole/pure) -/
/-- of the reference's stages only that of number k was written -/
def MK (k : Int) (δ δ' : Dl) : Prop := ∀ f, 110 ≤ f → f ≤ 116 → ∀ j : Int, 0 ≤ j → j < 320 → (f = 110 ∨ f = 111 ∨ f = 113 → j ≠ k) → (f = 112 → ¬ (64 * k ≤ j ∧ j < 64 * k + 64)) → (114 ≤ f → ¬ (3 * k ≤ j ∧ j < 3 * k + 3)) → δ'.2.1 f 23 (zi j) = δ.2.1 f 23 (zi j)
theorem MK.rf {k : Int} {δ : Dl} : MK k δ δ := fun _ _ _ _ _ _ _ _ _ => rfl
theorem MK.tr {k : Int} {δ δ1 δ2 : Dl} (h : MK k δ δ1) (h' : MK k δ1 δ2) : MK k δ δ2 := fun f a b j c d e1 e2 e3 => (h' f a b j c d e1 e2 e3).trans (h f a b j c d e1 e2 e3)
theorem MK.sA {k i : Int} {δ δ1 : Dl} {f a : Nat} {u : Int32} (h : MK k δ δ1) (hs : a = 23 → ((f = 110 ∨ f = 111 ∨ f = 113) ∧ i = k) ∨ (f = 112 ∧ 64 * k ≤ i ∧ i < 64 * k + 64) ∨ ((f = 114 ∨ f = 115 ∨ f = 116) ∧ 3 * k ≤ i ∧ i < 3 * k + 3) ∨ f < 110 ∨ 116 < f) (hi : 0 ≤ i ∧ i < 2147483648) : MK k δ (sA δ1 f a (zi i) u) := by
  intro f' a1 b1 j c d e1 e2 e3
  rw [q2A, if_neg]
  · exact h f' a1 b1 j c d e1 e2 e3
  · intro e
    obtain ⟨rfl, h23, ej⟩ := e
    have := zi_inj ej (by omega) (by omega)
    have := hs h23.symm
    omega
theorem MK.sI {k : Int} {δ δ1 : Dl} {f a : Nat} {u : Int32} (h : MK k δ δ1) : MK k δ (sI δ1 f a u) := h
theorem MK.fr {S : Nat → Nat → Prop} {k : Int} {δ δ1 δ2 : Dl} (h : MK k δ δ1) (F : Fr S δ1 δ2) (n : ∀ f, 110 ≤ f → f ≤ 116 → ¬ S f 23) : MK k δ δ2 := by
  intro f a1 b1 j c d e1 e2 e3
  rw [(F.2 f 23 (n f a1 b1)).2]
  exact h f a1 b1 j c d e1 e2 e3
theorem MG.mk {k i : Int} {δ δ' : Dl} {g : SG} (h : MG i δ g) (wg : WG g) (K : MK k δ δ') (hi : 0 ≤ i ∧ i ≤ 4) (hk : i ≠ k) (hk4 : 0 ≤ k ∧ k ≤ 4) : MG i δ' g := by
  obtain ⟨h1, h2, h3, h4, h5⟩ := h
  have hw := wg.1
  have hh := wg.2.1
  have ha := wg.2.2.1
  refine ⟨?_, ?_, ?_, fun x y x0 x1 y0 y1 => ?_, fun j j0 j1 => ?_⟩
  · rw [K 110 (by decide) (by decide) i (by omega) (by omega) (by omega) (by omega) (by omega)]; exact h1
  · rw [K 111 (by decide) (by decide) i (by omega) (by omega) (by omega) (by omega) (by omega)]; exact h2
  · rw [K 113 (by decide) (by decide) i (by omega) (by omega) (by omega) (by omega) (by omega)]; exact h3
  · rw [K 112 (by decide) (by decide) (64 * i + (8 * y + x)) (by omega) (by omega) (by omega) (by omega) (by omega)]; exact h4 x y x0 x1 y0 y1
  · rw [K 114 (by decide) (by decide) (3 * i + j) (by omega) (by omega) (by omega) (by omega) (by omega), K 115 (by decide) (by decide) (3 * i + j) (by omega) (by omega) (by omega) (by omega) (by omega), K 116 (by decide) (by decide) (3 * i + j) (by omega) (by omega) (by omega) (by omega) (by omega)]; exact h5 j j0 j1
abbrev SBg : Nat → Nat → Prop := fun f a => (a = 3 ∧ 70 ≤ f ∧ f ≤ 79) ∨ (f = 42 ∧ a = 8) ∨ (a = 23 ∧ ((110 ≤ f ∧ f ≤ 116) ∨ f = 152))
theorem INV.beg {δ δ2 : Dl} {v : PG} {g : SG} {n : Int} {gk : Int → SG} (h1 : J1 v δ) (h3 : J3 n gk δ) (hr : JR δ) (F : Fr SBg δ δ2) (K : MK 4 δ δ2) (h2 : J2 g δ2) (o1 : δ2.1 42 8 = zi 0) (o2 : δ2.1 152 23 = zi (-1)) : INV δ2 := by
  have e' : ∀ f a, SBg f a → (a = 3 ∧ 70 ≤ f ∧ f ≤ 79) ∨ (f = 42 ∧ a = 8) ∨ (a = 23 ∧ ((110 ≤ f ∧ f ≤ 116) ∨ f = 152)) := fun f a e => e
  refine ⟨⟨v, g, h1.fr F (fun f a q e => by have := e' f a e; omega), h2, Or.inl ⟨o1, o2⟩⟩, ⟨n, gk, ?_⟩, hr.fr F (fun f a q e => by
    have q' : (a = 14 ∧ 10 ≤ f ∧ f ≤ 11) ∨ (16 ≤ a ∧ a ≤ 17 ∧ 80 ≤ f ∧ f ≤ 85) ∨ (a = 0 ∧ 103 ≤ f ∧ f ≤ 107) ∨ (a = 15 ∧ 10 ≤ f ∧ f ≤ 11) ∨ (19 ≤ a ∧ a ≤ 22 ∧ 22 ≤ f ∧ f ≤ 23) ∨ (a = 18 ∧ 60 ≤ f ∧ f ≤ 62) ∨ (a = 23 ∧ ((153 ≤ f ∧ f ≤ 173) ∨ f = 177)) := q
    have := e' f a e
    omega)⟩
  obtain ⟨a0, a1, a2, a3, a4⟩ := h3
  refine ⟨a0, by rw [(F.2 94 0 (fun e => by have := e' _ _ e; omega)).1]; exact a1, by rw [(F.2 117 23 (fun e => by have := e' _ _ e; omega)).1]; exact a2, by rw [F.1]; exact a3, fun i hi => ?_⟩
  obtain ⟨b1, b2, b3⟩ := a4 i hi
  exact ⟨b1, b2.fr F (fun f q1 q2 e => by have := e' _ _ e; omega), b3.mk b1 K (by omega) (by omega) (by omega)⟩
def emptyG (w h : Int) : SG := (w, h, 0, fun _ _ => 0, fun _ => 0, fun _ => 0, fun _ => 0)
def cellG (g : SG) (x y u : Int) : SG := (g.1, g.2.1, g.2.2.1, fun x' y' => if x' = x ∧ y' = y then u else g.2.2.2.1 x' y', g.2.2.2.2.1, g.2.2.2.2.2.1, g.2.2.2.2.2.2)
def actG (g : SG) (x y d : Int) : SG := (g.1, g.2.1, g.2.2.1 + 1, g.2.2.2.1, fun i => if i = g.2.2.1 then x else g.2.2.2.2.1 i, fun i => if i = g.2.2.1 then y else g.2.2.2.2.2.1 i, fun i => if i = g.2.2.1 then d else g.2.2.2.2.2.2 i)
theorem WG.empty {w h : Int} (hw : 1 ≤ w ∧ w ≤ 8) (hh : 1 ≤ h ∧ h ≤ 8) : WG (emptyG w h) := ⟨hw, hh, ⟨Int.le_refl 0, (by decide : (0 : Int) ≤ 3)⟩, fun _ _ _ _ _ _ => ⟨(by decide : (-1 : Int) ≤ 0), (by decide : (0 : Int) ≤ 9)⟩, fun i i0 i1 => by
  have i1 : i < 0 := i1
  omega⟩
theorem WG.cell {g : SG} (wg : WG g) {x y u : Int} (hu : -1 ≤ u ∧ u ≤ 9) : WG (cellG g x y u) := ⟨wg.1, wg.2.1, wg.2.2.1, fun x' y' a b c d => by
  show -1 ≤ (if x' = x ∧ y' = y then u else g.2.2.2.1 x' y') ∧ (if x' = x ∧ y' = y then u else g.2.2.2.1 x' y') ≤ 9
  by_cases q : x' = x ∧ y' = y
  · rw [if_pos q]; exact hu
  · rw [if_neg q]; exact wg.2.2.2.1 x' y' a b c d, wg.2.2.2.2⟩
theorem WG.act {g : SG} (wg : WG g) {x y d : Int} (ha : g.2.2.1 < 3) (hx : 0 ≤ x ∧ x < g.1) (hy : 0 ≤ y ∧ y < g.2.1) (hd : 0 ≤ d ∧ d ≤ 3) : WG (actG g x y d) := by
  have h3 := wg.2.2.1
  refine ⟨wg.1, wg.2.1, ⟨by show 0 ≤ g.2.2.1 + 1; omega, by show g.2.2.1 + 1 ≤ 3; omega⟩, wg.2.2.2.1, fun i i0 i1 => ?_⟩
  have i1 : i < g.2.2.1 + 1 := i1
  show (0 ≤ (if i = g.2.2.1 then x else g.2.2.2.2.1 i) ∧ (if i = g.2.2.1 then x else g.2.2.2.2.1 i) < g.1) ∧ (0 ≤ (if i = g.2.2.1 then y else g.2.2.2.2.2.1 i) ∧ (if i = g.2.2.1 then y else g.2.2.2.2.2.1 i) < g.2.1) ∧ (0 ≤ (if i = g.2.2.1 then d else g.2.2.2.2.2.2 i) ∧ (if i = g.2.2.1 then d else g.2.2.2.2.2.2 i) ≤ 3)
  by_cases q : i = g.2.2.1
  · rw [if_pos q, if_pos q, if_pos q]; exact ⟨hx, hy, hd⟩
  · rw [if_neg q, if_neg q, if_neg q]; exact wg.2.2.2.2 i i0 (by omega)
section GS
variable {δ : Dl} {g : SG}
theorem CG.cell {s : Nat} (h : CG s δ g) (wg : WG g) {x y u : Int} (hx : 0 ≤ x ∧ x < g.1) (hy : 0 ≤ y ∧ y < g.2.1) : CG s (sA δ 73 s (zi ((y + 1) * 10 + x + 1)) (zi u)) (cellG g x y u) := by
  have hw := wg.1
  have hh := wg.2.1
  refine ⟨h.1, h.2.1, h.2.2.1, fun x' y' x0 x1 y0 y1 => ?_, fun j j0 j1 jb => ?_, h.2.2.2.2.2⟩
  · have x1 : x' < g.1 := x1
    have y1 : y' < g.2.1 := y1
    show _ = zi (if x' = x ∧ y' = y then u else g.2.2.2.1 x' y')
    rw [rAi]
    by_cases q : x' = x ∧ y' = y
    · rw [if_pos q, q.1, q.2, if_pos rfl]
    · rw [if_neg q, if_neg (fun e => q (by have := zi_inj e (by omega) (by omega); omega))]
      exact h.2.2.2.1 x' y' x0 x1 y0 y1
  · have jb : bd (g.1) (g.2.1) j := jb
    rw [rAi, if_neg (fun e => ?_)]
    · exact h.2.2.2.2.1 j j0 j1 jb
    · have := zi_inj e (by omega) (by omega)
      unfold bd at jb
      omega
theorem MG.cell {k : Int} (h : MG k δ g) (wg : WG g) (hk : 0 ≤ k ∧ k ≤ 4) {x y u : Int} (hx : 0 ≤ x ∧ x < g.1) (hy : 0 ≤ y ∧ y < g.2.1) : MG k (sA δ 112 23 (zi (64 * k + (8 * y + x))) (zi u)) (cellG g x y u) := by
  have hw := wg.1
  have hh := wg.2.1
  refine ⟨h.1, h.2.1, h.2.2.1, fun x' y' x0 x1 y0 y1 => ?_, h.2.2.2.2⟩
  have x1 : x' < g.1 := x1
  have y1 : y' < g.2.1 := y1
  show _ = zi (if x' = x ∧ y' = y then u else g.2.2.2.1 x' y')
  rw [rAi]
  by_cases q : x' = x ∧ y' = y
  · rw [if_pos q, q.1, q.2, if_pos rfl]
  · rw [if_neg q, if_neg (fun e => q (by have := zi_inj e (by omega) (by omega); omega))]
    exact h.2.2.2.1 x' y' x0 x1 y0 y1
theorem c_set (h : CG 3 δ g) (wg : WG g) {x y : Int} {u : Int32} (hx : 0 ≤ x ∧ x < g.1) (hy : 0 ≤ y ∧ y < g.2.1) : F_St_setCell 3 (zi x) (zi y) u δ = some (sA δ 73 3 (zi ((y + 1) * 10 + x + 1)) u) := by
  have hw := wg.1
  have hh := wg.2.1
  simp (disch := omega) only [F_St_setCell, F_St_placeOf, ↓bnd_eq, bd2, bn2, Option.bind_some, Option.bind_none, h.1, h.2.1, ↓reduceIte, inb, zl, zi_add, zi_sub, zi_mul, zi_neg, zi_le_t, zi_le_f, zi_lt_t, zi_lt_f, zi_eq_t, zi_eq_f, if_true, if_false, ite_true, ite_false, true_and, and_true, false_and, and_false, not_true_eq_false, not_false_eq_true, true_or, or_true, false_or, or_false, and_self, ge_iff_le, gt_iff_lt]
/-- an actor stands there, on both sides -/
theorem lk_stands_l (wg : WG g) (h : CG 3 δ g) (m : MG 4 δ g) {x y : Int} (hx : 0 ≤ x ∧ x < g.1) (hy : 0 ≤ y ∧ y < g.2.1) : ∀ (n : Nat) (b : Int) (f1 f2 : Nat), 0 ≤ b → b ≤ g.2.2.1 → (g.2.2.1 - b).toNat ≤ n → n < f1 → n < f2 →
    (∃ u, (u = zi 0 ∨ u = zi 1) ∧ F_St_hasActorAt_10 3 (zi x) (zi y) f1 (zi ((y + 1) * 10 + x + 1)) (zi b) δ = some u ∧ F_M_hasActor_5 (zi x) (zi y) f2 (zi 0) (zi b) δ = some u) ∧ F_M_hasActor_5 (zi x) (zi y) f2 (zi 1) (zi b) δ = some (zi 1) := by
  intro n
  have ha := wg.2.2.1
  have hw := wg.1
  have hh := wg.2.1
  have e113 : δ.2.1 113 23 (zi 4) = zi (g.2.2.1) := m.2.2.1
  have done : ∀ (b : Int) (f1 f2 : Nat), b = g.2.2.1 → 0 < f1 → 0 < f2 → (F_St_hasActorAt_10 3 (zi x) (zi y) f1 (zi ((y + 1) * 10 + x + 1)) (zi b) δ = some (zi 0) ∧ F_M_hasActor_5 (zi x) (zi y) f2 (zi 0) (zi b) δ = some (zi 0)) ∧ F_M_hasActor_5 (zi x) (zi y) f2 (zi 1) (zi b) δ = some (zi 1) := by
    intro b f1 f2 hb h1 h2
    obtain ⟨f1, rfl⟩ : ∃ q, f1 = q + 1 := ⟨f1 - 1, by omega⟩
    obtain ⟨f2, rfl⟩ : ∃ q, f2 = q + 1 := ⟨f2 - 1, by omega⟩
    refine ⟨⟨?_, ?_⟩, ?_⟩
    · simp (disch := omega) only [F_St_hasActorAt_10, F_St_hasActorAt_10_b, h.2.2.1, ↓reduceIte, inb, zl, zi_add, zi_sub, zi_mul, zi_neg, zi_le_t, zi_le_f, zi_lt_t, zi_lt_f, zi_eq_t, zi_eq_f, if_true, if_false, ite_true, ite_false, true_and, and_true, false_and, and_false, not_true_eq_false, not_false_eq_true, true_or, or_true, false_or, or_false, and_self, ge_iff_le, gt_iff_lt]
    · simp (disch := omega) only [F_M_hasActor_5, F_M_hasActor_5_b, e113, ↓reduceIte, inb, zl, zi_add, zi_sub, zi_mul, zi_neg, zi_le_t, zi_le_f, zi_lt_t, zi_lt_f, zi_eq_t, zi_eq_f, if_true, if_false, ite_true, ite_false, true_and, and_true, false_and, and_false, not_true_eq_false, not_false_eq_true, true_or, or_true, false_or, or_false, and_self, ge_iff_le, gt_iff_lt]
    · simp (disch := omega) only [F_M_hasActor_5, F_M_hasActor_5_b, e113, ↓reduceIte, inb, zl, zi_add, zi_sub, zi_mul, zi_neg, zi_le_t, zi_le_f, zi_lt_t, zi_lt_f, zi_eq_t, zi_eq_f, if_true, if_false, ite_true, ite_false, true_and, and_true, false_and, and_false, not_true_eq_false, not_false_eq_true, true_or, or_true, false_or, or_false, and_self, ge_iff_le, gt_iff_lt]
  induction n with
  | zero =>
    intro b f1 f2 b0 b1 hb h1 h2
    have := done b f1 f2 (by omega) h1 h2
    exact ⟨⟨zi 0, Or.inl rfl, this.1⟩, this.2⟩
  | succ n ih =>
    intro b f1 f2 b0 b1 hb h1 h2
    by_cases q : b = g.2.2.1
    · have := done b f1 f2 q (by omega) (by omega)
      exact ⟨⟨zi 0, Or.inl rfl, this.1⟩, this.2⟩
    · obtain ⟨f1, rfl⟩ : ∃ q, f1 = q + 1 := ⟨f1 - 1, by omega⟩
      obtain ⟨f2, rfl⟩ : ∃ q, f2 = q + 1 := ⟨f2 - 1, by omega⟩
      obtain ⟨e74, -⟩ := h.2.2.2.2.2 b b0 (by omega)
      obtain ⟨e114, e115, -⟩ := m.2.2.2.2 b b0 (by omega)
      rw [show 3 * 4 + b = 12 + b by omega] at e114 e115
      obtain ⟨hX, hY, -⟩ := wg.2.2.2.2 b b0 (by omega)
      obtain ⟨⟨u, hu, u1, u2⟩, u3⟩ := ih (b + 1) f1 f2 (by omega) (by omega) (by omega) (by omega) (by omega)
      have o1 : F_M_hasActor_5 (zi x) (zi y) (f2 + 1) (zi 1) (zi b) δ = some (zi 1) := by
        simp (disch := omega) only [F_M_hasActor_5, F_M_hasActor_5_b, F_M_hasActor_48, F_M_hasActor_53, e113, u3, ↓reduceIte, inb, zl, zi_add, zi_sub, zi_mul, zi_neg, zi_le_t, zi_le_f, zi_lt_t, zi_lt_f, zi_eq_t, zi_eq_f, if_true, if_false, ite_true, ite_false, true_and, and_true, false_and, and_false, not_true_eq_false, not_false_eq_true, true_or, or_true, false_or, or_false, and_self, ge_iff_le, gt_iff_lt]
      refine ⟨?_, o1⟩
      by_cases ex : g.2.2.2.2.1 b = x
      · by_cases ey : g.2.2.2.2.2.1 b = y
        · refine ⟨zi 1, Or.inr rfl, ?_, ?_⟩
          · simp (disch := omega) only [F_St_hasActorAt_10, F_St_hasActorAt_10_b, h.2.2.1, e74, ↓reduceIte, inb, zl, zi_add, zi_sub, zi_mul, zi_neg, zi_le_t, zi_le_f, zi_lt_t, zi_lt_f, zi_eq_t, zi_eq_f, if_true, if_false, ite_true, ite_false, true_and, and_true, false_and, and_false, not_true_eq_false, not_false_eq_true, true_or, or_true, false_or, or_false, and_self, ge_iff_le, gt_iff_lt]
          · simp (disch := omega) only [F_M_hasActor_5, F_M_hasActor_5_b, F_M_hasActor_48, F_M_hasActor_53, e113, e114, e115, u3, ↓reduceIte, inb, zl, zi_add, zi_sub, zi_mul, zi_neg, zi_le_t, zi_le_f, zi_lt_t, zi_lt_f, zi_eq_t, zi_eq_f, if_true, if_false, ite_true, ite_false, true_and, and_true, false_and, and_false, not_true_eq_false, not_false_eq_true, true_or, or_true, false_or, or_false, and_self, ge_iff_le, gt_iff_lt]
        · refine ⟨u, hu, ?_, ?_⟩
          · simp (disch := omega) only [F_St_hasActorAt_10, F_St_hasActorAt_10_b, h.2.2.1, e74, u1, ↓reduceIte, inb, zl, zi_add, zi_sub, zi_mul, zi_neg, zi_le_t, zi_le_f, zi_lt_t, zi_lt_f, zi_eq_t, zi_eq_f, if_true, if_false, ite_true, ite_false, true_and, and_true, false_and, and_false, not_true_eq_false, not_false_eq_true, true_or, or_true, false_or, or_false, and_self, ge_iff_le, gt_iff_lt]
          · simp (disch := omega) only [F_M_hasActor_5, F_M_hasActor_5_b, F_M_hasActor_52, F_M_hasActor_53, e113, e114, e115, u2, ↓reduceIte, inb, zl, zi_add, zi_sub, zi_mul, zi_neg, zi_le_t, zi_le_f, zi_lt_t, zi_lt_f, zi_eq_t, zi_eq_f, if_true, if_false, ite_true, ite_false, true_and, and_true, false_and, and_false, not_true_eq_false, not_false_eq_true, true_or, or_true, false_or, or_false, and_self, ge_iff_le, gt_iff_lt]
      · refine ⟨u, hu, ?_, ?_⟩
        · simp (disch := omega) only [F_St_hasActorAt_10, F_St_hasActorAt_10_b, h.2.2.1, e74, u1, ↓reduceIte, inb, zl, zi_add, zi_sub, zi_mul, zi_neg, zi_le_t, zi_le_f, zi_lt_t, zi_lt_f, zi_eq_t, zi_eq_f, if_true, if_false, ite_true, ite_false, true_and, and_true, false_and, and_false, not_true_eq_false, not_false_eq_true, true_or, or_true, false_or, or_false, and_self, ge_iff_le, gt_iff_lt]
        · simp (disch := omega) only [F_M_hasActor_5, F_M_hasActor_5_b, F_M_hasActor_52, F_M_hasActor_53, e113, e114, e115, u2, ↓reduceIte, inb, zl, zi_add, zi_sub, zi_mul, zi_neg, zi_le_t, zi_le_f, zi_lt_t, zi_lt_f, zi_eq_t, zi_eq_f, if_true, if_false, ite_true, ite_false, true_and, and_true, false_and, and_false, not_true_eq_false, not_false_eq_true, true_or, or_true, false_or, or_false, and_self, ge_iff_le, gt_iff_lt]
theorem lk_stands (wg : WG g) (h : CG 3 δ g) (m : MG 4 δ g) {x y : Int} (hx : 0 ≤ x ∧ x < g.1) (hy : 0 ≤ y ∧ y < g.2.1) : ∃ u, (u = zi 0 ∨ u = zi 1) ∧ F_St_hasActorAt 3 (zi x) (zi y) δ = some u ∧ F_M_hasActor (zi x) (zi y) δ = some u := by
  have ha := wg.2.2.1
  have hw := wg.1
  have hh := wg.2.1
  obtain ⟨⟨u, hu, u1, u2⟩, -⟩ := lk_stands_l wg h m hx hy 3 0 FU FU (by omega) (by omega) (by omega) (by unfold FU; omega) (by unfold FU; omega)
  refine ⟨u, hu, ?_, ?_⟩
  · have ep : F_St_placeOf 3 (zi x) (zi y) δ = zi ((y + 1) * 10 + x + 1) := by simp (disch := omega) only [F_St_placeOf, h.1, h.2.1, ↓reduceIte, inb, zl, zi_add, zi_sub, zi_mul, zi_neg, zi_le_t, zi_le_f, zi_lt_t, zi_lt_f, zi_eq_t, zi_eq_f, if_true, if_false, ite_true, ite_false, true_and, and_true, false_and, and_false, not_true_eq_false, not_false_eq_true, true_or, or_true, false_or, or_false, and_self, ge_iff_le, gt_iff_lt]
    unfold F_St_hasActorAt
    rw [ep, bnd_eq, zl0]
    exact u1
  · unfold F_M_hasActor
    rw [zl0]
    exact u2
end GS
theorem m_standsF {δ δ' : Dl} {x y : Int32} (e113 : δ'.2.1 113 23 = δ.2.1 113 23) (e114 : δ'.2.1 114 23 = δ.2.1 114 23) (e115 : δ'.2.1 115 23 = δ.2.1 115 23) : F_M_hasActor x y δ' = F_M_hasActor x y δ := by
  have key : ∀ (n : Nat) (a b : Int32), F_M_hasActor_5 x y n a b δ' = F_M_hasActor_5 x y n a b δ := by
    intro n
    induction n with
    | zero => intro a b; rfl
    | succ n ih =>
      intro a b
      simp only [F_M_hasActor_5, F_M_hasActor_5_b, F_M_hasActor_48, F_M_hasActor_52, F_M_hasActor_53, e113, e114, e115, ih]
  exact key FU 0 0
theorem frG {δ δ1 : Dl} {f a : Nat} {i v : Int32} (h : Fr SBg δ δ1) (hs : SBg f a) : Fr SBg δ (sA δ1 f a i v) := h.sA hs
theorem st_things (x1 x2 x3 : Int32) : S2 INV (F_Bs_things x1 x2 x3) (F_M_things x1 x2 x3) := by
  intro δ I
  obtain ⟨⟨v, g, h1, h2, h4⟩, ⟨kn, gk, h3⟩, hr⟩ := id I
  obtain ⟨wg, G, Mg⟩ := id h2
  have hw := wg.1
  have hh := wg.2.1
  obtain ⟨x, rfl, hx⟩ := zi_ex x1
  obtain ⟨y, rfl, hy⟩ := zi_ex x2
  obtain ⟨u, rfl, hu⟩ := zi_ex x3
  by_cases q : (0 ≤ x ∧ x < g.1) ∧ (0 ≤ y ∧ y < g.2.1)
  · have c := c_cell_in wg G.1 G.2.1 q.1 q.2
    have mm := m_cell_in wg Mg q.1 q.2
    have e73 := G.2.2.2.1 x y q.1.1 q.1.2 q.2.1 q.2.2
    have e112 := Mg.2.2.2.1 x y q.1.1 q.1.2 q.2.1 q.2.2
    have hc := wg.2.2.2.1 x y q.1.1 q.1.2 q.2.1 q.2.2
    rw [show 64 * 4 + (8 * y + x) = 256 + 8 * y + x by omega] at e112
    by_cases qu : 0 ≤ u ∧ u ≤ 9
    · by_cases qw : g.2.2.2.1 x y = -1
      · rw [qw] at e73 e112
        refine ⟨zi (-3), δ, δ, ?_, ?_, I, rfl⟩
        · simp (disch := omega) only [F_Bs_things, ↓bnd_eq, bd2, bn2, Option.bind_some, Option.bind_none, ↓bse c, e73, ↓reduceIte, inb, zl, zi_add, zi_sub, zi_mul, zi_neg, zi_le_t, zi_le_f, zi_lt_t, zi_lt_f, zi_eq_t, zi_eq_f, if_true, if_false, ite_true, ite_false, true_and, and_true, false_and, and_false, not_true_eq_false, not_false_eq_true, true_or, or_true, false_or, or_false, and_self, ge_iff_le, gt_iff_lt]
        · simp (disch := omega) only [F_M_things, F_M_within, F_M_spot, ↓bnd_eq, bd2, bn2, Option.bind_some, Option.bind_none, ↓bse mm, e112, ↓reduceIte, inb, zl, zi_add, zi_sub, zi_mul, zi_neg, zi_le_t, zi_le_f, zi_lt_t, zi_lt_f, zi_eq_t, zi_eq_f, if_true, if_false, ite_true, ite_false, true_and, and_true, false_and, and_false, not_true_eq_false, not_false_eq_true, true_or, or_true, false_or, or_false, and_self, ge_iff_le, gt_iff_lt]
      · have es := c_set (u := zi u) G wg q.1 q.2
        have F : Fr SBg δ (sI (sA (sI (sA δ 73 3 (zi ((y + 1) * 10 + x + 1)) (zi u)) 42 8 (zi 0)) 112 23 (zi (256 + 8 * y + x)) (zi u)) 152 23 (zi (-1))) := (((Fr.rf.sA (Or.inl ⟨rfl, by decide, by decide⟩)).sI (Or.inr (Or.inl ⟨rfl, rfl⟩))).sA (Or.inr (Or.inr ⟨rfl, Or.inl ⟨by decide, by decide⟩⟩))).sI (Or.inr (Or.inr ⟨rfl, Or.inr rfl⟩))
        have K : MK 4 δ (sI (sA (sI (sA δ 73 3 (zi ((y + 1) * 10 + x + 1)) (zi u)) 42 8 (zi 0)) 112 23 (zi (256 + 8 * y + x)) (zi u)) 152 23 (zi (-1))) := (((MK.rf.sA (fun e => by omega) (by omega)).sI).sA (fun e => by omega) (by omega)).sI
        have Gn := G.cell (u := u) wg q.1 q.2
        have Mn := Mg.cell (u := u) wg (by decide) q.1 q.2
        rw [show 64 * 4 + (8 * y + x) = 256 + 8 * y + x by omega] at Mn
        refine ⟨zi (g.2.2.2.1 x y), sI (sA δ 73 3 (zi ((y + 1) * 10 + x + 1)) (zi u)) 42 8 (zi 0), sI (sA (sI (sA δ 73 3 (zi ((y + 1) * 10 + x + 1)) (zi u)) 42 8 (zi 0)) 112 23 (zi (256 + 8 * y + x)) (zi u)) 152 23 (zi (-1)), ?_, ?_, INV.beg h1 h3 hr F K ⟨wg.cell (by omega), Gn, Mn⟩ rfl sI_at, rfl⟩
        · simp (disch := omega) only [F_Bs_things, ↓bnd_eq, bd2, bn2, Option.bind_some, Option.bind_none, ↓bse c, e73, ↓bse es, ↓reduceIte, inb, zl, zi_add, zi_sub, zi_mul, zi_neg, zi_le_t, zi_le_f, zi_lt_t, zi_lt_f, zi_eq_t, zi_eq_f, if_true, if_false, ite_true, ite_false, true_and, and_true, false_and, and_false, not_true_eq_false, not_false_eq_true, true_or, or_true, false_or, or_false, and_self, ge_iff_le, gt_iff_lt]
        · have mm' : F_M_isCell (zi x) (zi y) (sI (sA δ 73 3 (zi ((y + 1) * 10 + x + 1)) (zi u)) 42 8 (zi 0)) = some (zi 1) := mm
          have e112' : (sI (sA δ 73 3 (zi ((y + 1) * 10 + x + 1)) (zi u)) 42 8 (zi 0)).2.1 112 23 (zi (256 + 8 * y + x)) = zi (g.2.2.2.1 x y) := e112
          simp (disch := omega) only [F_M_things, F_M_within, F_M_spot, ↓bnd_eq, bd2, bn2, Option.bind_some, Option.bind_none, ↓bse mm', e112', ↓reduceIte, inb, zl, zi_add, zi_sub, zi_mul, zi_neg, zi_le_t, zi_le_f, zi_lt_t, zi_lt_f, zi_eq_t, zi_eq_f, if_true, if_false, ite_true, ite_false, true_and, and_true, false_and, and_false, not_true_eq_false, not_false_eq_true, true_or, or_true, false_or, or_false, and_self, ge_iff_le, gt_iff_lt]
    · refine ⟨zi (-2), δ, δ, ?_, ?_, I, rfl⟩
      · by_cases q0 : u < 0
        · simp (disch := omega) only [F_Bs_things, ↓bnd_eq, bd2, bn2, Option.bind_some, Option.bind_none, ↓bse c, e73, ↓reduceIte, inb, zl, zi_add, zi_sub, zi_mul, zi_neg, zi_le_t, zi_le_f, zi_lt_t, zi_lt_f, zi_eq_t, zi_eq_f, if_true, if_false, ite_true, ite_false, true_and, and_true, false_and, and_false, not_true_eq_false, not_false_eq_true, true_or, or_true, false_or, or_false, and_self, ge_iff_le, gt_iff_lt]
        · simp (disch := omega) only [F_Bs_things, ↓bnd_eq, bd2, bn2, Option.bind_some, Option.bind_none, ↓bse c, e73, ↓reduceIte, inb, zl, zi_add, zi_sub, zi_mul, zi_neg, zi_le_t, zi_le_f, zi_lt_t, zi_lt_f, zi_eq_t, zi_eq_f, if_true, if_false, ite_true, ite_false, true_and, and_true, false_and, and_false, not_true_eq_false, not_false_eq_true, true_or, or_true, false_or, or_false, and_self, ge_iff_le, gt_iff_lt]
      · by_cases q0 : u < 0
        · simp (disch := omega) only [F_M_things, F_M_within, ↓bnd_eq, bd2, bn2, Option.bind_some, Option.bind_none, ↓bse mm, ↓reduceIte, inb, zl, zi_add, zi_sub, zi_mul, zi_neg, zi_le_t, zi_le_f, zi_lt_t, zi_lt_f, zi_eq_t, zi_eq_f, if_true, if_false, ite_true, ite_false, true_and, and_true, false_and, and_false, not_true_eq_false, not_false_eq_true, true_or, or_true, false_or, or_false, and_self, ge_iff_le, gt_iff_lt]
        · simp (disch := omega) only [F_M_things, F_M_within, ↓bnd_eq, bd2, bn2, Option.bind_some, Option.bind_none, ↓bse mm, ↓reduceIte, inb, zl, zi_add, zi_sub, zi_mul, zi_neg, zi_le_t, zi_le_f, zi_lt_t, zi_lt_f, zi_eq_t, zi_eq_f, if_true, if_false, ite_true, ite_false, true_and, and_true, false_and, and_false, not_true_eq_false, not_false_eq_true, true_or, or_true, false_or, or_false, and_self, ge_iff_le, gt_iff_lt]
  · have c := c_cell_out wg G.1 G.2.1 hx hy q
    have mm := m_cell_out wg Mg hx hy q
    refine ⟨zi (-1), δ, δ, ?_, ?_, I, rfl⟩
    · simp (disch := omega) only [F_Bs_things, ↓bnd_eq, bd2, bn2, Option.bind_some, Option.bind_none, ↓bse c, ↓reduceIte, inb, zl, zi_add, zi_sub, zi_mul, zi_neg, zi_le_t, zi_le_f, zi_lt_t, zi_lt_f, zi_eq_t, zi_eq_f, if_true, if_false, ite_true, ite_false, true_and, and_true, false_and, and_false, not_true_eq_false, not_false_eq_true, true_or, or_true, false_or, or_false, and_self, ge_iff_le, gt_iff_lt]
    · simp (disch := omega) only [F_M_things, ↓bnd_eq, bd2, bn2, Option.bind_some, Option.bind_none, ↓bse mm, ↓reduceIte, inb, zl, zi_add, zi_sub, zi_mul, zi_neg, zi_le_t, zi_le_f, zi_lt_t, zi_lt_f, zi_eq_t, zi_eq_f, if_true, if_false, ite_true, ite_false, true_and, and_true, false_and, and_false, not_true_eq_false, not_false_eq_true, true_or, or_true, false_or, or_false, and_self, ge_iff_le, gt_iff_lt]
theorem st_wall (x1 x2 x3 : Int32) : S2 INV (F_Bs_wall x1 x2 x3) (F_M_wall x1 x2 x3) := by
  intro δ I
  obtain ⟨⟨v, g, h1, h2, h4⟩, ⟨kn, gk, h3⟩, hr⟩ := id I
  obtain ⟨wg, G, Mg⟩ := id h2
  have hw := wg.1
  have hh := wg.2.1
  obtain ⟨x, rfl, hx⟩ := zi_ex x1
  obtain ⟨y, rfl, hy⟩ := zi_ex x2
  obtain ⟨u, rfl, hu⟩ := zi_ex x3
  by_cases q : (0 ≤ x ∧ x < g.1) ∧ (0 ≤ y ∧ y < g.2.1)
  · have c := c_cell_in wg G.1 G.2.1 q.1 q.2
    have mm := m_cell_in wg Mg q.1 q.2
    have e73 := G.2.2.2.1 x y q.1.1 q.1.2 q.2.1 q.2.2
    have e112 := Mg.2.2.2.1 x y q.1.1 q.1.2 q.2.1 q.2.2
    have hc := wg.2.2.2.1 x y q.1.1 q.1.2 q.2.1 q.2.2
    rw [show 64 * 4 + (8 * y + x) = 256 + 8 * y + x by omega] at e112
    by_cases qu : 0 ≤ u ∧ u ≤ 1
    · have cw : F_Bs_wall (zi x) (zi y) (zi u) δ = F_Bs_wall_32 (zi x) (zi y) (zi u) (zi (g.2.2.2.1 x y)) δ := by
        rcases (show u = 0 ∨ u = 1 by omega) with rfl | rfl
        · simp (disch := omega) only [F_Bs_wall, ↓bnd_eq, bd2, bn2, Option.bind_some, Option.bind_none, ↓bse c, e73, ↓reduceIte, inb, zl, zi_add, zi_sub, zi_mul, zi_neg, zi_le_t, zi_le_f, zi_lt_t, zi_lt_f, zi_eq_t, zi_eq_f, if_true, if_false, ite_true, ite_false, true_and, and_true, false_and, and_false, not_true_eq_false, not_false_eq_true, true_or, or_true, false_or, or_false, and_self, ge_iff_le, gt_iff_lt]
        · simp (disch := omega) only [F_Bs_wall, ↓bnd_eq, bd2, bn2, Option.bind_some, Option.bind_none, ↓bse c, e73, ↓reduceIte, inb, zl, zi_add, zi_sub, zi_mul, zi_neg, zi_le_t, zi_le_f, zi_lt_t, zi_lt_f, zi_eq_t, zi_eq_f, if_true, if_false, ite_true, ite_false, true_and, and_true, false_and, and_false, not_true_eq_false, not_false_eq_true, true_or, or_true, false_or, or_false, and_self, ge_iff_le, gt_iff_lt]
      obtain ⟨s, hs, s1, s2⟩ := lk_stands wg G Mg q.1 q.2
      by_cases qc : 0 < g.2.2.2.1 x y
      · refine ⟨zi (-3), δ, δ, ?_, ?_, I, rfl⟩
        · rw [cw]; simp (disch := omega) only [F_Bs_wall_32, ↓bnd_eq, bd2, bn2, Option.bind_some, Option.bind_none, ↓reduceIte, inb, zl, zi_add, zi_sub, zi_mul, zi_neg, zi_le_t, zi_le_f, zi_lt_t, zi_lt_f, zi_eq_t, zi_eq_f, if_true, if_false, ite_true, ite_false, true_and, and_true, false_and, and_false, not_true_eq_false, not_false_eq_true, true_or, or_true, false_or, or_false, and_self, ge_iff_le, gt_iff_lt]
        · rcases hs with rfl | rfl
          · simp (disch := omega) only [F_M_wall, F_M_within, F_M_spot, ↓bnd_eq, bd2, bn2, Option.bind_some, Option.bind_none, ↓bse mm, ↓bse s2, e112, ↓reduceIte, inb, zl, zi_add, zi_sub, zi_mul, zi_neg, zi_le_t, zi_le_f, zi_lt_t, zi_lt_f, zi_eq_t, zi_eq_f, if_true, if_false, ite_true, ite_false, true_and, and_true, false_and, and_false, not_true_eq_false, not_false_eq_true, true_or, or_true, false_or, or_false, and_self, ge_iff_le, gt_iff_lt]
          · simp (disch := omega) only [F_M_wall, F_M_within, F_M_spot, ↓bnd_eq, bd2, bn2, Option.bind_some, Option.bind_none, ↓bse mm, ↓bse s2, e112, ↓reduceIte, inb, zl, zi_add, zi_sub, zi_mul, zi_neg, zi_le_t, zi_le_f, zi_lt_t, zi_lt_f, zi_eq_t, zi_eq_f, if_true, if_false, ite_true, ite_false, true_and, and_true, false_and, and_false, not_true_eq_false, not_false_eq_true, true_or, or_true, false_or, or_false, and_self, ge_iff_le, gt_iff_lt]
      · rcases hs with rfl | rfl
        · obtain ⟨n, hn, n1, n2⟩ : ∃ n : Int, (-1 ≤ n ∧ n ≤ 9) ∧ (∀ δ', F_Bs_wall_32 (zi x) (zi y) (zi u) (zi (g.2.2.2.1 x y)) δ' = if 0 < zi (g.2.2.2.1 x y) then some (-3, δ') else (F_St_hasActorAt 3 (zi x) (zi y) δ').bind fun v43 => if v43 = 0 then F_Bs_wall_68 (zi x) (zi y) (zi u) (zi (g.2.2.2.1 x y)) (zi n) (zi y) (zi x) δ' else some (-3, δ')) ∧ (∀ s0 δ', F_M_wall_69 (zi x) (zi y) (zi u) s0 δ' = F_M_wall_91 (zi x) (zi y) (zi u) s0 (zi n) (zi (256 + 8 * y + x)) δ') := by
            rcases (show u = 0 ∨ u = 1 by omega) with rfl | rfl
            · refine ⟨0, by decide, fun δ' => ?_, fun s0 δ' => ?_⟩
              · simp (disch := omega) only [F_Bs_wall_32, ↓reduceIte, inb, zl, zi_add, zi_sub, zi_mul, zi_neg, zi_le_t, zi_le_f, zi_lt_t, zi_lt_f, zi_eq_t, zi_eq_f, if_true, if_false, ite_true, ite_false, true_and, and_true, false_and, and_false, not_true_eq_false, not_false_eq_true, true_or, or_true, false_or, or_false, and_self, ge_iff_le, gt_iff_lt]
              · simp (disch := omega) only [F_M_wall_69, F_M_spot, ↓bnd_eq, bd2, bn2, Option.bind_some, Option.bind_none, ↓reduceIte, inb, zl, zi_add, zi_sub, zi_mul, zi_neg, zi_le_t, zi_le_f, zi_lt_t, zi_lt_f, zi_eq_t, zi_eq_f, if_true, if_false, ite_true, ite_false, true_and, and_true, false_and, and_false, not_true_eq_false, not_false_eq_true, true_or, or_true, false_or, or_false, and_self, ge_iff_le, gt_iff_lt]
            · refine ⟨-1, by decide, fun δ' => ?_, fun s0 δ' => ?_⟩
              · simp (disch := omega) only [F_Bs_wall_32, ↓reduceIte, inb, zl, zi_add, zi_sub, zi_mul, zi_neg, zi_le_t, zi_le_f, zi_lt_t, zi_lt_f, zi_eq_t, zi_eq_f, if_true, if_false, ite_true, ite_false, true_and, and_true, false_and, and_false, not_true_eq_false, not_false_eq_true, true_or, or_true, false_or, or_false, and_self, ge_iff_le, gt_iff_lt]
              · simp (disch := omega) only [F_M_wall_69, F_M_spot, ↓bnd_eq, bd2, bn2, Option.bind_some, Option.bind_none, ↓reduceIte, inb, zl, zi_add, zi_sub, zi_mul, zi_neg, zi_le_t, zi_le_f, zi_lt_t, zi_lt_f, zi_eq_t, zi_eq_f, if_true, if_false, ite_true, ite_false, true_and, and_true, false_and, and_false, not_true_eq_false, not_false_eq_true, true_or, or_true, false_or, or_false, and_self, ge_iff_le, gt_iff_lt]
          have es := c_set (u := zi n) G wg q.1 q.2
          have F : Fr SBg δ (sI (sA (sI (sA δ 73 3 (zi ((y + 1) * 10 + x + 1)) (zi n)) 42 8 (zi 0)) 112 23 (zi (256 + 8 * y + x)) (zi n)) 152 23 (zi (-1))) := (((Fr.rf.sA (Or.inl ⟨rfl, by decide, by decide⟩)).sI (Or.inr (Or.inl ⟨rfl, rfl⟩))).sA (Or.inr (Or.inr ⟨rfl, Or.inl ⟨by decide, by decide⟩⟩))).sI (Or.inr (Or.inr ⟨rfl, Or.inr rfl⟩))
          have K : MK 4 δ (sI (sA (sI (sA δ 73 3 (zi ((y + 1) * 10 + x + 1)) (zi n)) 42 8 (zi 0)) 112 23 (zi (256 + 8 * y + x)) (zi n)) 152 23 (zi (-1))) := (((MK.rf.sA (fun e => by omega) (by omega)).sI).sA (fun e => by omega) (by omega)).sI
          have Gn := G.cell (u := n) wg q.1 q.2
          have Mn := Mg.cell (u := n) wg (by decide) q.1 q.2
          rw [show 64 * 4 + (8 * y + x) = 256 + 8 * y + x by omega] at Mn
          have mm' : F_M_isCell (zi x) (zi y) (sI (sA δ 73 3 (zi ((y + 1) * 10 + x + 1)) (zi n)) 42 8 (zi 0)) = some (zi 1) := mm
          have e112' : (sI (sA δ 73 3 (zi ((y + 1) * 10 + x + 1)) (zi n)) 42 8 (zi 0)).2.1 112 23 (zi (256 + 8 * y + x)) = zi (g.2.2.2.1 x y) := e112
          have s2' : F_M_hasActor (zi x) (zi y) (sI (sA δ 73 3 (zi ((y + 1) * 10 + x + 1)) (zi n)) 42 8 (zi 0)) = some (zi 0) := by
            have ms := m_standsF (δ := δ) (δ' := sI (sA δ 73 3 (zi ((y + 1) * 10 + x + 1)) (zi n)) 42 8 (zi 0)) (x := zi x) (y := zi y) rfl rfl rfl
            rw [ms]
            exact s2
          by_cases q1 : g.2.2.2.1 x y = -1
          · refine ⟨zi 1, sI (sA δ 73 3 (zi ((y + 1) * 10 + x + 1)) (zi n)) 42 8 (zi 0), sI (sA (sI (sA δ 73 3 (zi ((y + 1) * 10 + x + 1)) (zi n)) 42 8 (zi 0)) 112 23 (zi (256 + 8 * y + x)) (zi n)) 152 23 (zi (-1)), ?_, ?_, INV.beg h1 h3 hr F K ⟨wg.cell (by omega), Gn, Mn⟩ rfl sI_at, rfl⟩
            · rw [cw, n1]
              simp (disch := omega) only [F_Bs_wall_68, ↓bnd_eq, bd2, bn2, Option.bind_some, Option.bind_none, ↓bse s1, ↓bse es, ↓reduceIte, inb, zl, zi_add, zi_sub, zi_mul, zi_neg, zi_le_t, zi_le_f, zi_lt_t, zi_lt_f, zi_eq_t, zi_eq_f, if_true, if_false, ite_true, ite_false, true_and, and_true, false_and, and_false, not_true_eq_false, not_false_eq_true, true_or, or_true, false_or, or_false, and_self, ge_iff_le, gt_iff_lt]
            · simp (disch := omega) only [F_M_wall, F_M_within, F_M_spot, n2, F_M_wall_91, ↓bnd_eq, bd2, bn2, Option.bind_some, Option.bind_none, ↓bse mm', ↓bse s2', e112', ↓reduceIte, inb, zl, zi_add, zi_sub, zi_mul, zi_neg, zi_le_t, zi_le_f, zi_lt_t, zi_lt_f, zi_eq_t, zi_eq_f, if_true, if_false, ite_true, ite_false, true_and, and_true, false_and, and_false, not_true_eq_false, not_false_eq_true, true_or, or_true, false_or, or_false, and_self, ge_iff_le, gt_iff_lt]
          · refine ⟨zi 0, sI (sA δ 73 3 (zi ((y + 1) * 10 + x + 1)) (zi n)) 42 8 (zi 0), sI (sA (sI (sA δ 73 3 (zi ((y + 1) * 10 + x + 1)) (zi n)) 42 8 (zi 0)) 112 23 (zi (256 + 8 * y + x)) (zi n)) 152 23 (zi (-1)), ?_, ?_, INV.beg h1 h3 hr F K ⟨wg.cell (by omega), Gn, Mn⟩ rfl sI_at, rfl⟩
            · rw [cw, n1]
              simp (disch := omega) only [F_Bs_wall_68, ↓bnd_eq, bd2, bn2, Option.bind_some, Option.bind_none, ↓bse s1, ↓bse es, ↓reduceIte, inb, zl, zi_add, zi_sub, zi_mul, zi_neg, zi_le_t, zi_le_f, zi_lt_t, zi_lt_f, zi_eq_t, zi_eq_f, if_true, if_false, ite_true, ite_false, true_and, and_true, false_and, and_false, not_true_eq_false, not_false_eq_true, true_or, or_true, false_or, or_false, and_self, ge_iff_le, gt_iff_lt]
            · simp (disch := omega) only [F_M_wall, F_M_within, F_M_spot, n2, F_M_wall_91, ↓bnd_eq, bd2, bn2, Option.bind_some, Option.bind_none, ↓bse mm', ↓bse s2', e112', ↓reduceIte, inb, zl, zi_add, zi_sub, zi_mul, zi_neg, zi_le_t, zi_le_f, zi_lt_t, zi_lt_f, zi_eq_t, zi_eq_f, if_true, if_false, ite_true, ite_false, true_and, and_true, false_and, and_false, not_true_eq_false, not_false_eq_true, true_or, or_true, false_or, or_false, and_self, ge_iff_le, gt_iff_lt]
        · refine ⟨zi (-3), δ, δ, ?_, ?_, I, rfl⟩
          · rw [cw]; simp (disch := omega) only [F_Bs_wall_32, ↓bnd_eq, bd2, bn2, Option.bind_some, Option.bind_none, ↓bse s1, ↓reduceIte, inb, zl, zi_add, zi_sub, zi_mul, zi_neg, zi_le_t, zi_le_f, zi_lt_t, zi_lt_f, zi_eq_t, zi_eq_f, if_true, if_false, ite_true, ite_false, true_and, and_true, false_and, and_false, not_true_eq_false, not_false_eq_true, true_or, or_true, false_or, or_false, and_self, ge_iff_le, gt_iff_lt]
          · simp (disch := omega) only [F_M_wall, F_M_within, F_M_spot, ↓bnd_eq, bd2, bn2, Option.bind_some, Option.bind_none, ↓bse mm, ↓bse s2, e112, ↓reduceIte, inb, zl, zi_add, zi_sub, zi_mul, zi_neg, zi_le_t, zi_le_f, zi_lt_t, zi_lt_f, zi_eq_t, zi_eq_f, if_true, if_false, ite_true, ite_false, true_and, and_true, false_and, and_false, not_true_eq_false, not_false_eq_true, true_or, or_true, false_or, or_false, and_self, ge_iff_le, gt_iff_lt]
    · refine ⟨zi (-2), δ, δ, ?_, ?_, I, rfl⟩
      · simp (disch := omega) only [F_Bs_wall, ↓bnd_eq, bd2, bn2, Option.bind_some, Option.bind_none, ↓bse c, e73, ↓reduceIte, inb, zl, zi_add, zi_sub, zi_mul, zi_neg, zi_le_t, zi_le_f, zi_lt_t, zi_lt_f, zi_eq_t, zi_eq_f, if_true, if_false, ite_true, ite_false, true_and, and_true, false_and, and_false, not_true_eq_false, not_false_eq_true, true_or, or_true, false_or, or_false, and_self, ge_iff_le, gt_iff_lt]
      · by_cases q0 : u < 0
        · simp (disch := omega) only [F_M_wall, F_M_within, ↓bnd_eq, bd2, bn2, Option.bind_some, Option.bind_none, ↓bse mm, ↓reduceIte, inb, zl, zi_add, zi_sub, zi_mul, zi_neg, zi_le_t, zi_le_f, zi_lt_t, zi_lt_f, zi_eq_t, zi_eq_f, if_true, if_false, ite_true, ite_false, true_and, and_true, false_and, and_false, not_true_eq_false, not_false_eq_true, true_or, or_true, false_or, or_false, and_self, ge_iff_le, gt_iff_lt]
        · simp (disch := omega) only [F_M_wall, F_M_within, ↓bnd_eq, bd2, bn2, Option.bind_some, Option.bind_none, ↓bse mm, ↓reduceIte, inb, zl, zi_add, zi_sub, zi_mul, zi_neg, zi_le_t, zi_le_f, zi_lt_t, zi_lt_f, zi_eq_t, zi_eq_f, if_true, if_false, ite_true, ite_false, true_and, and_true, false_and, and_false, not_true_eq_false, not_false_eq_true, true_or, or_true, false_or, or_false, and_self, ge_iff_le, gt_iff_lt]
  · have c := c_cell_out wg G.1 G.2.1 hx hy q
    have mm := m_cell_out wg Mg hx hy q
    refine ⟨zi (-1), δ, δ, ?_, ?_, I, rfl⟩
    · simp (disch := omega) only [F_Bs_wall, ↓bnd_eq, bd2, bn2, Option.bind_some, Option.bind_none, ↓bse c, ↓reduceIte, inb, zl, zi_add, zi_sub, zi_mul, zi_neg, zi_le_t, zi_le_f, zi_lt_t, zi_lt_f, zi_eq_t, zi_eq_f, if_true, if_false, ite_true, ite_false, true_and, and_true, false_and, and_false, not_true_eq_false, not_false_eq_true, true_or, or_true, false_or, or_false, and_self, ge_iff_le, gt_iff_lt]
    · simp (disch := omega) only [F_M_wall, ↓bnd_eq, bd2, bn2, Option.bind_some, Option.bind_none, ↓bse mm, ↓reduceIte, inb, zl, zi_add, zi_sub, zi_mul, zi_neg, zi_le_t, zi_le_f, zi_lt_t, zi_lt_f, zi_eq_t, zi_eq_f, if_true, if_false, ite_true, ite_false, true_and, and_true, false_and, and_false, not_true_eq_false, not_false_eq_true, true_or, or_true, false_or, or_false, and_self, ge_iff_le, gt_iff_lt]
theorem st_actor (x1 x2 x3 : Int32) : S2 INV (F_Bs_actor x1 x2 x3) (F_M_actor x1 x2 x3) := by
  intro δ I
  obtain ⟨⟨v, g, h1, h2, h4⟩, ⟨kn, gk, h3⟩, hr⟩ := id I
  obtain ⟨wg, G, Mg⟩ := id h2
  have hw := wg.1
  have hh := wg.2.1
  have ha := wg.2.2.1
  obtain ⟨x, rfl, hx⟩ := zi_ex x1
  obtain ⟨y, rfl, hy⟩ := zi_ex x2
  obtain ⟨u, rfl, hu⟩ := zi_ex x3
  by_cases q : (0 ≤ x ∧ x < g.1) ∧ (0 ≤ y ∧ y < g.2.1)
  · have c := c_cell_in wg G.1 G.2.1 q.1 q.2
    have mm := m_cell_in wg Mg q.1 q.2
    have e73 := G.2.2.2.1 x y q.1.1 q.1.2 q.2.1 q.2.2
    have e112 := Mg.2.2.2.1 x y q.1.1 q.1.2 q.2.1 q.2.2
    have hc := wg.2.2.2.1 x y q.1.1 q.1.2 q.2.1 q.2.2
    rw [show 64 * 4 + (8 * y + x) = 256 + 8 * y + x by omega] at e112
    have e113 : δ.2.1 113 23 (zi 4) = zi (g.2.2.1) := Mg.2.2.1
    by_cases qu : 0 ≤ u ∧ u ≤ 3
    · by_cases qw : g.2.2.2.1 x y = -1
      · rw [qw] at e73 e112
        refine ⟨zi (-3), δ, δ, ?_, ?_, I, rfl⟩
        · simp (disch := omega) only [F_Bs_actor, ↓bnd_eq, bd2, bn2, Option.bind_some, Option.bind_none, ↓bse c, e73, ↓reduceIte, inb, zl, zi_add, zi_sub, zi_mul, zi_neg, zi_le_t, zi_le_f, zi_lt_t, zi_lt_f, zi_eq_t, zi_eq_f, if_true, if_false, ite_true, ite_false, true_and, and_true, false_and, and_false, not_true_eq_false, not_false_eq_true, true_or, or_true, false_or, or_false, and_self, ge_iff_le, gt_iff_lt]
        · simp (disch := omega) only [F_M_actor, F_M_within, F_M_spot, ↓bnd_eq, bd2, bn2, Option.bind_some, Option.bind_none, ↓bse mm, e112, ↓reduceIte, inb, zl, zi_add, zi_sub, zi_mul, zi_neg, zi_le_t, zi_le_f, zi_lt_t, zi_lt_f, zi_eq_t, zi_eq_f, if_true, if_false, ite_true, ite_false, true_and, and_true, false_and, and_false, not_true_eq_false, not_false_eq_true, true_or, or_true, false_or, or_false, and_self, ge_iff_le, gt_iff_lt]
      · by_cases qa : g.2.2.1 < 3
        · obtain ⟨d1, ed1⟩ : ∃ d1, d1 = sI (sA (sA (sA (sA (sA (sI δ 42 8 (zi 0)) 74 3 (zi (g.2.2.1)) (zi ((y + 1) * 10 + x + 1))) 75 3 (zi (g.2.2.1)) (zi u)) 76 3 (zi (g.2.2.1)) (zi 0)) 77 3 (zi (g.2.2.1)) (zi 0)) 78 3 (zi (g.2.2.1)) (zi (-1))) 72 3 (zi (g.2.2.1 + 1)) := ⟨_, rfl⟩
          have E : F_St_addActor 3 (zi x) (zi y) (zi u) (sI δ 42 8 (zi 0)) = some (zi (g.2.2.1), d1) := by
            have g70 : (sI δ 42 8 (zi 0)).1 70 3 = zi (g.1) := G.1
            have g71 : (sI δ 42 8 (zi 0)).1 71 3 = zi (g.2.1) := G.2.1
            have g72 : (sI δ 42 8 (zi 0)).1 72 3 = zi (g.2.2.1) := G.2.2.1
            rw [ed1]
            simp (disch := omega) only [F_St_addActor, F_St_placeOf, ↓bnd_eq, bd2, bn2, Option.bind_some, Option.bind_none, g70, g71, g72, ↓reduceIte, inb, zl, zi_add, zi_sub, zi_mul, zi_neg, zi_le_t, zi_le_f, zi_lt_t, zi_lt_f, zi_eq_t, zi_eq_f, if_true, if_false, ite_true, ite_false, true_and, and_true, false_and, and_false, not_true_eq_false, not_false_eq_true, true_or, or_true, false_or, or_false, and_self, ge_iff_le, gt_iff_lt]
          have F1 : Fr SBg δ d1 := by
            rw [ed1]
            exact ((((((Fr.rf.sI (Or.inr (Or.inl ⟨rfl, rfl⟩))).sA (Or.inl ⟨rfl, by decide, by decide⟩)).sA (Or.inl ⟨rfl, by decide, by decide⟩)).sA (Or.inl ⟨rfl, by decide, by decide⟩)).sA (Or.inl ⟨rfl, by decide, by decide⟩)).sA (Or.inl ⟨rfl, by decide, by decide⟩)).sI (Or.inl ⟨rfl, by decide, by decide⟩)
          have Fc : Fr (fun f a => (a = 3 ∧ 70 ≤ f ∧ f ≤ 79) ∨ (f = 42 ∧ a = 8)) δ d1 := by
            rw [ed1]
            exact ((((((Fr.rf.sI (Or.inr ⟨rfl, rfl⟩)).sA (Or.inl ⟨rfl, by decide, by decide⟩)).sA (Or.inl ⟨rfl, by decide, by decide⟩)).sA (Or.inl ⟨rfl, by decide, by decide⟩)).sA (Or.inl ⟨rfl, by decide, by decide⟩)).sA (Or.inl ⟨rfl, by decide, by decide⟩)).sI (Or.inl ⟨rfl, by decide, by decide⟩)
          have Md : MG 4 d1 g := Mg.fr Fc (fun f q1 q2 e => by omega)
          have Gd : CG 3 d1 (actG g x y u) := by
            rw [ed1]
            refine ⟨G.1, G.2.1, sI_at, G.2.2.2.1, G.2.2.2.2.1, fun i i0 i1 => ?_⟩
            have i1 : i < g.2.2.1 + 1 := i1
            have key : ∀ f, (sI (sA (sA (sA (sA (sA (sI δ 42 8 (zi 0)) 74 3 (zi (g.2.2.1)) (zi ((y + 1) * 10 + x + 1))) 75 3 (zi (g.2.2.1)) (zi u)) 76 3 (zi (g.2.2.1)) (zi 0)) 77 3 (zi (g.2.2.1)) (zi 0)) 78 3 (zi (g.2.2.1)) (zi (-1))) 72 3 (zi (g.2.2.1 + 1))).2.1 f 3 (zi i) = (sA (sA (sA (sA (sA δ 74 3 (zi (g.2.2.1)) (zi ((y + 1) * 10 + x + 1))) 75 3 (zi (g.2.2.1)) (zi u)) 76 3 (zi (g.2.2.1)) (zi 0)) 77 3 (zi (g.2.2.1)) (zi 0)) 78 3 (zi (g.2.2.1)) (zi (-1))).2.1 f 3 (zi i) := fun _ => rfl
            rw [key, key, key, key, key]
            show _ = zi (((if i = g.2.2.1 then y else g.2.2.2.2.2.1 i) + 1) * 10 + (if i = g.2.2.1 then x else g.2.2.2.2.1 i) + 1) ∧ _ = zi (if i = g.2.2.1 then u else g.2.2.2.2.2.2 i) ∧ _
            by_cases qi : i = g.2.2.1
            · rw [if_pos qi, if_pos qi, if_pos qi, qi]
              refine ⟨?_, ?_, ?_, ?_, ?_⟩ <;> simp [rA, rAi]
            · have hz : ¬ zi i = zi (g.2.2.1) := fun e => qi (zi_inj e (by omega) (by omega))
              obtain ⟨b1, b2, b3, b4, b5⟩ := G.2.2.2.2.2 i i0 (by omega)
              rw [if_neg qi, if_neg qi, if_neg qi]
              refine ⟨?_, ?_, ?_, ?_, ?_⟩ <;> simp [rA, rAi, hz] <;> assumption
          have F : Fr SBg δ (sI (sA (sA (sA (sA d1 114 23 (zi (12 + g.2.2.1)) (zi x)) 115 23 (zi (12 + g.2.2.1)) (zi y)) 116 23 (zi (12 + g.2.2.1)) (zi u)) 113 23 (zi 4) (zi (g.2.2.1 + 1))) 152 23 (zi (-1))) := ((((F1.sA (Or.inr (Or.inr ⟨rfl, Or.inl ⟨by decide, by decide⟩⟩))).sA (Or.inr (Or.inr ⟨rfl, Or.inl ⟨by decide, by decide⟩⟩))).sA (Or.inr (Or.inr ⟨rfl, Or.inl ⟨by decide, by decide⟩⟩))).sA (Or.inr (Or.inr ⟨rfl, Or.inl ⟨by decide, by decide⟩⟩))).sI (Or.inr (Or.inr ⟨rfl, Or.inr rfl⟩))
          have K1 : MK 4 δ d1 := MK.rf.fr Fc (fun f q1 q2 e => by omega)
          have K : MK 4 δ (sI (sA (sA (sA (sA d1 114 23 (zi (12 + g.2.2.1)) (zi x)) 115 23 (zi (12 + g.2.2.1)) (zi y)) 116 23 (zi (12 + g.2.2.1)) (zi u)) 113 23 (zi 4) (zi (g.2.2.1 + 1))) 152 23 (zi (-1))) := ((((K1.sA (fun e => by omega) (by omega)).sA (fun e => by omega) (by omega)).sA (fun e => by omega) (by omega)).sA (fun e => by omega) (by omega)).sI
          have Gn : CG 3 (sI (sA (sA (sA (sA d1 114 23 (zi (12 + g.2.2.1)) (zi x)) 115 23 (zi (12 + g.2.2.1)) (zi y)) 116 23 (zi (12 + g.2.2.1)) (zi u)) 113 23 (zi 4) (zi (g.2.2.1 + 1))) 152 23 (zi (-1))) (actG g x y u) := Gd
          have Mn : MG 4 (sI (sA (sA (sA (sA d1 114 23 (zi (12 + g.2.2.1)) (zi x)) 115 23 (zi (12 + g.2.2.1)) (zi y)) 116 23 (zi (12 + g.2.2.1)) (zi u)) 113 23 (zi 4) (zi (g.2.2.1 + 1))) 152 23 (zi (-1))) (actG g x y u) := by
            refine ⟨Md.1, Md.2.1, ?_, Md.2.2.2.1, fun i i0 i1 => ?_⟩
            · show (sA (sA (sA (sA d1 114 23 (zi (12 + g.2.2.1)) (zi x)) 115 23 (zi (12 + g.2.2.1)) (zi y)) 116 23 (zi (12 + g.2.2.1)) (zi u)) 113 23 (zi 4) (zi (g.2.2.1 + 1))).2.1 113 23 (zi 4) = zi (g.2.2.1 + 1)
              rw [rAi, if_pos rfl]
            · have i1 : i < g.2.2.1 + 1 := i1
              have key : ∀ f, (sI (sA (sA (sA (sA d1 114 23 (zi (12 + g.2.2.1)) (zi x)) 115 23 (zi (12 + g.2.2.1)) (zi y)) 116 23 (zi (12 + g.2.2.1)) (zi u)) 113 23 (zi 4) (zi (g.2.2.1 + 1))) 152 23 (zi (-1))).2.1 f 23 (zi (3 * 4 + i)) = (sA (sA (sA (sA d1 114 23 (zi (12 + g.2.2.1)) (zi x)) 115 23 (zi (12 + g.2.2.1)) (zi y)) 116 23 (zi (12 + g.2.2.1)) (zi u)) 113 23 (zi 4) (zi (g.2.2.1 + 1))).2.1 f 23 (zi (12 + i)) := fun _ => rfl
              rw [key, key, key]
              show _ = zi (if i = g.2.2.1 then x else g.2.2.2.2.1 i) ∧ _ = zi (if i = g.2.2.1 then y else g.2.2.2.2.2.1 i) ∧ _ = zi (if i = g.2.2.1 then u else g.2.2.2.2.2.2 i)
              by_cases qi : i = g.2.2.1
              · rw [if_pos qi, if_pos qi, if_pos qi, qi]
                refine ⟨?_, ?_, ?_⟩ <;> simp [rA, rAi]
              · have hz : ¬ zi (12 + i) = zi (12 + g.2.2.1) := fun e => qi (by have := zi_inj e (by omega) (by omega); omega)
                obtain ⟨b1, b2, b3⟩ := Md.2.2.2.2 i i0 (by omega)
                rw [show 3 * 4 + i = 12 + i by omega] at b1 b2 b3
                rw [if_neg qi, if_neg qi, if_neg qi]
                refine ⟨?_, ?_, ?_⟩ <;> simp [rA, rAi, hz] <;> assumption
          refine ⟨zi (g.2.2.1), d1, _, ?_, ?_, INV.beg h1 h3 hr F K ⟨wg.act qa q.1 q.2 qu, Gn, Mn⟩ ?_ sI_at, ?_⟩
          · simp only [F_Bs_actor, zl, zi_add, zi_sub, zi_mul, zi_neg]
            simp (disch := omega) only [↓bnd_eq, bd2, bn2, Option.bind_some, Option.bind_none, ↓bse c, e73, G.2.2.1, ↓b2e E, ↓reduceIte, inb, zl, zi_add, zi_sub, zi_mul, zi_neg, zi_le_t, zi_le_f, zi_lt_t, zi_lt_f, zi_eq_t, zi_eq_f, if_true, if_false, ite_true, ite_false, true_and, and_true, false_and, and_false, not_true_eq_false, not_false_eq_true, true_or, or_true, false_or, or_false, and_self, ge_iff_le, gt_iff_lt]
          · have mm' := m_cell_in wg Md q.1 q.2
            have e112' := Md.2.2.2.1 x y q.1.1 q.1.2 q.2.1 q.2.2
            rw [show 64 * 4 + (8 * y + x) = 256 + 8 * y + x by omega] at e112'
            have e113' : d1.2.1 113 23 (zi 4) = zi (g.2.2.1) := Md.2.2.1
            simp (disch := omega) only [F_M_actor, F_M_within, F_M_spot, ↓bnd_eq, bd2, bn2, Option.bind_some, Option.bind_none, ↓bse mm', e112', e113', rA, rAi, q1A, q2I, ↓reduceIte, inb, zl, zi_add, zi_sub, zi_mul, zi_neg, zi_le_t, zi_le_f, zi_lt_t, zi_lt_f, zi_eq_t, zi_eq_f, if_true, if_false, ite_true, ite_false, true_and, and_true, false_and, and_false, not_true_eq_false, not_false_eq_true, true_or, or_true, false_or, or_false, and_self, ge_iff_le, gt_iff_lt]
            simp (disch := omega) only [show g.2.2.1 + 1 - 1 = g.2.2.1 by omega]
          · show d1.1 42 8 = zi 0
            rw [ed1]; rfl
          · show d1.2.2 102 0 = _
            rw [F1.1]
        · have qa3 : g.2.2.1 = 3 := by omega
          rw [qa3] at e113
          have g72 := G.2.2.1
          rw [qa3] at g72
          refine ⟨zi (-4), δ, δ, ?_, ?_, I, rfl⟩
          · simp (disch := omega) only [F_Bs_actor, ↓bnd_eq, bd2, bn2, Option.bind_some, Option.bind_none, ↓bse c, e73, g72, ↓reduceIte, inb, zl, zi_add, zi_sub, zi_mul, zi_neg, zi_le_t, zi_le_f, zi_lt_t, zi_lt_f, zi_eq_t, zi_eq_f, if_true, if_false, ite_true, ite_false, true_and, and_true, false_and, and_false, not_true_eq_false, not_false_eq_true, true_or, or_true, false_or, or_false, and_self, ge_iff_le, gt_iff_lt]
          · simp (disch := omega) only [F_M_actor, F_M_within, F_M_spot, ↓bnd_eq, bd2, bn2, Option.bind_some, Option.bind_none, ↓bse mm, e112, e113, ↓reduceIte, inb, zl, zi_add, zi_sub, zi_mul, zi_neg, zi_le_t, zi_le_f, zi_lt_t, zi_lt_f, zi_eq_t, zi_eq_f, if_true, if_false, ite_true, ite_false, true_and, and_true, false_and, and_false, not_true_eq_false, not_false_eq_true, true_or, or_true, false_or, or_false, and_self, ge_iff_le, gt_iff_lt]
    · refine ⟨zi (-2), δ, δ, ?_, ?_, I, rfl⟩
      · by_cases q0 : u < 0
        · simp (disch := omega) only [F_Bs_actor, ↓bnd_eq, bd2, bn2, Option.bind_some, Option.bind_none, ↓bse c, e73, ↓reduceIte, inb, zl, zi_add, zi_sub, zi_mul, zi_neg, zi_le_t, zi_le_f, zi_lt_t, zi_lt_f, zi_eq_t, zi_eq_f, if_true, if_false, ite_true, ite_false, true_and, and_true, false_and, and_false, not_true_eq_false, not_false_eq_true, true_or, or_true, false_or, or_false, and_self, ge_iff_le, gt_iff_lt]
        · simp (disch := omega) only [F_Bs_actor, ↓bnd_eq, bd2, bn2, Option.bind_some, Option.bind_none, ↓bse c, e73, ↓reduceIte, inb, zl, zi_add, zi_sub, zi_mul, zi_neg, zi_le_t, zi_le_f, zi_lt_t, zi_lt_f, zi_eq_t, zi_eq_f, if_true, if_false, ite_true, ite_false, true_and, and_true, false_and, and_false, not_true_eq_false, not_false_eq_true, true_or, or_true, false_or, or_false, and_self, ge_iff_le, gt_iff_lt]
      · by_cases q0 : u < 0
        · simp (disch := omega) only [F_M_actor, F_M_within, ↓bnd_eq, bd2, bn2, Option.bind_some, Option.bind_none, ↓bse mm, ↓reduceIte, inb, zl, zi_add, zi_sub, zi_mul, zi_neg, zi_le_t, zi_le_f, zi_lt_t, zi_lt_f, zi_eq_t, zi_eq_f, if_true, if_false, ite_true, ite_false, true_and, and_true, false_and, and_false, not_true_eq_false, not_false_eq_true, true_or, or_true, false_or, or_false, and_self, ge_iff_le, gt_iff_lt]
        · simp (disch := omega) only [F_M_actor, F_M_within, ↓bnd_eq, bd2, bn2, Option.bind_some, Option.bind_none, ↓bse mm, ↓reduceIte, inb, zl, zi_add, zi_sub, zi_mul, zi_neg, zi_le_t, zi_le_f, zi_lt_t, zi_lt_f, zi_eq_t, zi_eq_f, if_true, if_false, ite_true, ite_false, true_and, and_true, false_and, and_false, not_true_eq_false, not_false_eq_true, true_or, or_true, false_or, or_false, and_self, ge_iff_le, gt_iff_lt]
  · have c := c_cell_out wg G.1 G.2.1 hx hy q
    have mm := m_cell_out wg Mg hx hy q
    refine ⟨zi (-1), δ, δ, ?_, ?_, I, rfl⟩
    · simp (disch := omega) only [F_Bs_actor, ↓bnd_eq, bd2, bn2, Option.bind_some, Option.bind_none, ↓bse c, ↓reduceIte, inb, zl, zi_add, zi_sub, zi_mul, zi_neg, zi_le_t, zi_le_f, zi_lt_t, zi_lt_f, zi_eq_t, zi_eq_f, if_true, if_false, ite_true, ite_false, true_and, and_true, false_and, and_false, not_true_eq_false, not_false_eq_true, true_or, or_true, false_or, or_false, and_self, ge_iff_le, gt_iff_lt]
    · simp (disch := omega) only [F_M_actor, ↓bnd_eq, bd2, bn2, Option.bind_some, Option.bind_none, ↓bse mm, ↓reduceIte, inb, zl, zi_add, zi_sub, zi_mul, zi_neg, zi_le_t, zi_le_f, zi_lt_t, zi_lt_f, zi_eq_t, zi_eq_f, if_true, if_false, ite_true, ite_false, true_and, and_true, false_and, and_false, not_true_eq_false, not_false_eq_true, true_or, or_true, false_or, or_false, and_self, ge_iff_le, gt_iff_lt]
/-! an empty stage -/
section EM
variable {w h : Int}
theorem c_em33 (hw : 1 ≤ w ∧ w ≤ 8) (hh : 1 ≤ h ∧ h ≤ 8) {y : Int} (hy : 0 ≤ y ∧ y < h) {k : Int32 → Dl → Option Dl} : ∀ (n : Nat) (x : Int) (fu : Nat) (δ : Dl), δ.1 70 3 = zi w → δ.1 71 3 = zi h → 0 ≤ x → x ≤ w → (w - x).toNat ≤ n → n < fu → ∃ δ', F_St_empty_33 3 (zi w) (zi h) k fu (zi y) (zi x) δ = k (zi (y + 1)) δ' ∧ Fr (fun f a => a = 3 ∧ f = 73) δ δ' ∧ δ'.1 = δ.1 ∧ ∀ j, 0 ≤ j → j < 100 → δ'.2.1 73 3 (zi j) = if (y + 1) * 10 + x + 1 ≤ j ∧ j ≤ (y + 1) * 10 + w then zi 0 else δ.2.1 73 3 (zi j) := by
  intro n
  have done : ∀ (fu : Nat) (δ : Dl), 0 < fu → ∃ δ', F_St_empty_33 3 (zi w) (zi h) k fu (zi y) (zi w) δ = k (zi (y + 1)) δ' ∧ Fr (fun f a => a = 3 ∧ f = 73) δ δ' ∧ δ'.1 = δ.1 ∧ ∀ j, 0 ≤ j → j < 100 → δ'.2.1 73 3 (zi j) = if (y + 1) * 10 + w + 1 ≤ j ∧ j ≤ (y + 1) * 10 + w then zi 0 else δ.2.1 73 3 (zi j) := by
    intro fu δ hf
    obtain ⟨fu, rfl⟩ : ∃ q, fu = q + 1 := ⟨fu - 1, by omega⟩
    refine ⟨δ, ?_, Fr.rf, rfl, fun j j0 j1 => by rw [if_neg (by omega)]⟩
    simp (disch := omega) only [F_St_empty_33, F_St_empty_33_b, ↓reduceIte, inb, zl, zi_add, zi_sub, zi_mul, zi_neg, zi_le_t, zi_le_f, zi_lt_t, zi_lt_f, zi_eq_t, zi_eq_f, if_true, if_false, ite_true, ite_false, true_and, and_true, false_and, and_false, not_true_eq_false, not_false_eq_true, true_or, or_true, false_or, or_false, and_self, ge_iff_le, gt_iff_lt]
  induction n with
  | zero => intro x fu δ e1 e2 i0 i1 hn hf; have : x = w := by omega
            subst this; exact done fu δ hf
  | succ n ih =>
    intro x fu δ e1 e2 i0 i1 hn hf
    by_cases q : x = w
    · subst q; exact done fu δ (by omega)
    · obtain ⟨fu, rfl⟩ : ∃ q, fu = q + 1 := ⟨fu - 1, by omega⟩
      obtain ⟨δ', e, F, e1', r⟩ := ih (x + 1) fu (sA δ 73 3 (zi ((y + 1) * 10 + x + 1)) (zi 0)) e1 e2 (by omega) (by omega) (by omega) (by omega)
      refine ⟨δ', ?_, (Fr.sA (S := fun f a => a = 3 ∧ f = 73) Fr.rf ⟨rfl, rfl⟩).tr F, e1', fun j j0 j1 => ?_⟩
      · rw [← e]
        simp (disch := omega) only [F_St_empty_33, F_St_empty_33_b, F_St_setCell, F_St_placeOf, ↓bnd_eq, bd2, bn2, Option.bind_some, Option.bind_none, e1, e2, ↓reduceIte, inb, zl, zi_add, zi_sub, zi_mul, zi_neg, zi_le_t, zi_le_f, zi_lt_t, zi_lt_f, zi_eq_t, zi_eq_f, if_true, if_false, ite_true, ite_false, true_and, and_true, false_and, and_false, not_true_eq_false, not_false_eq_true, true_or, or_true, false_or, or_false, and_self, ge_iff_le, gt_iff_lt]
      · rw [r j j0 j1, rAi]
        by_cases q1 : (y + 1) * 10 + (x + 1) + 1 ≤ j ∧ j ≤ (y + 1) * 10 + w
        · rw [if_pos q1, if_pos (by omega)]
        · rw [if_neg q1]
          by_cases q2 : j = (y + 1) * 10 + x + 1
          · rw [if_pos (by rw [q2]), if_pos (by omega)]
          · rw [if_neg (fun e => q2 (zi_inj e (by omega) (by omega))), if_neg (by omega)]
theorem c_em25 (hw : 1 ≤ w ∧ w ≤ 8) (hh : 1 ≤ h ∧ h ≤ 8) : ∀ (n : Nat) (y : Int) (fu : Nat) (δ : Dl), δ.1 70 3 = zi w → δ.1 71 3 = zi h → 0 ≤ y → y ≤ h → (h - y).toNat ≤ n → n < fu → ∃ δ', F_St_empty_25 3 (zi w) (zi h) fu (zi y) δ = some δ' ∧ Fr (fun f a => a = 3 ∧ f = 73) δ δ' ∧ δ'.1 = δ.1 ∧ ∀ j, 0 ≤ j → j < 100 → δ'.2.1 73 3 (zi j) = if y + 1 ≤ j / 10 ∧ j / 10 ≤ h ∧ 1 ≤ j % 10 ∧ j % 10 ≤ w then zi 0 else δ.2.1 73 3 (zi j) := by
  intro n
  have done : ∀ (fu : Nat) (δ : Dl), 0 < fu → ∃ δ', F_St_empty_25 3 (zi w) (zi h) fu (zi h) δ = some δ' ∧ Fr (fun f a => a = 3 ∧ f = 73) δ δ' ∧ δ'.1 = δ.1 ∧ ∀ j, 0 ≤ j → j < 100 → δ'.2.1 73 3 (zi j) = if h + 1 ≤ j / 10 ∧ j / 10 ≤ h ∧ 1 ≤ j % 10 ∧ j % 10 ≤ w then zi 0 else δ.2.1 73 3 (zi j) := by
    intro fu δ hf
    obtain ⟨fu, rfl⟩ : ∃ q, fu = q + 1 := ⟨fu - 1, by omega⟩
    refine ⟨δ, ?_, Fr.rf, rfl, fun j j0 j1 => by rw [if_neg (by omega)]⟩
    simp (disch := omega) only [F_St_empty_25, F_St_empty_25_b, ↓reduceIte, inb, zl, zi_add, zi_sub, zi_mul, zi_neg, zi_le_t, zi_le_f, zi_lt_t, zi_lt_f, zi_eq_t, zi_eq_f, if_true, if_false, ite_true, ite_false, true_and, and_true, false_and, and_false, not_true_eq_false, not_false_eq_true, true_or, or_true, false_or, or_false, and_self, ge_iff_le, gt_iff_lt]
  induction n with
  | zero => intro x fu δ e1 e2 i0 i1 hn hf; have : x = h := by omega
            subst this; exact done fu δ hf
  | succ n ih =>
    intro y fu δ e1 e2 i0 i1 hn hf
    by_cases q : y = h
    · subst q; exact done fu δ (by omega)
    · obtain ⟨fu, rfl⟩ : ∃ q, fu = q + 1 := ⟨fu - 1, by omega⟩
      obtain ⟨δ1, ea, Fa, e1a, ra⟩ := c_em33 hw hh (y := y) ⟨i0, by omega⟩ (k := F_St_empty_25 3 (zi w) (zi h) fu) 8 0 FU δ e1 e2 (by omega) (by omega) (by omega) (by unfold FU; omega)
      obtain ⟨δ', e, F, e1', r⟩ := ih (y + 1) fu δ1 (by rw [e1a]; exact e1) (by rw [e1a]; exact e2) (by omega) (by omega) (by omega) (by omega)
      refine ⟨δ', ?_, Fa.tr F, e1'.trans e1a, fun j j0 j1 => ?_⟩
      · rw [← e, ← ea, ← zl0]
        show F_St_empty_25_b 3 (zi w) (zi h) (F_St_empty_25 3 (zi w) (zi h) fu) (zi y) δ = _
        unfold F_St_empty_25_b
        rw [if_neg (by rw [zi_le (by omega) (by omega)]; omega)]
      · rw [r j j0 j1, ra j j0 j1]
        by_cases q1 : y + 1 + 1 ≤ j / 10 ∧ j / 10 ≤ h ∧ 1 ≤ j % 10 ∧ j % 10 ≤ w
        · rw [if_pos q1, if_pos (by omega)]
        · rw [if_neg q1]
          by_cases q2 : (y + 1) * 10 + 0 + 1 ≤ j ∧ j ≤ (y + 1) * 10 + w
          · rw [if_pos q2, if_pos (by omega)]
          · rw [if_neg q2, if_neg (by omega)]
theorem c_empty {δ : Dl} (hw : 1 ≤ w ∧ w ≤ 8) (hh : 1 ≤ h ∧ h ≤ 8) : ∃ δ', F_St_empty 3 (zi w) (zi h) δ = some δ' ∧ Fr (fun f a => a = 3 ∧ 70 ≤ f ∧ f ≤ 79) δ δ' ∧ CG 3 δ' (emptyG w h) := by
  have f2 := fill2 (f := 73) (a := 3) (N := 100) (u := zi (-1)) (δ := sI (sI (sI δ 70 3 (zi w)) 71 3 (zi h)) 72 3 (zi 0)) (by decide)
  obtain ⟨δ', e, F, e1, r⟩ := c_em25 hw hh 8 0 FU (sW (sI (sI (sI δ 70 3 (zi w)) 71 3 (zi h)) 72 3 (zi 0)) 73 3 (fr1 ((sI (sI (sI δ 70 3 (zi w)) 71 3 (zi h)) 72 3 (zi 0)).2.1 73 3) 0 100 (zi (-1)))) rfl rfl (by omega) (by omega) (by omega) (by unfold FU; omega)
  refine ⟨δ', ?_, ((((Fr.rf.sI ⟨rfl, by decide, by decide⟩).sI ⟨rfl, by decide, by decide⟩).sI ⟨rfl, by decide, by decide⟩).sW ⟨rfl, by decide, by decide⟩).tr (F.to (fun f a e => ⟨e.1, by omega, by omega⟩)), ?_, ?_, ?_, fun x y x0 x1 y0 y1 => ?_, fun j j0 j1 jb => ?_, fun i i0 i1 => ?_⟩
  · rw [← e]
    simp (disch := omega) only [F_St_empty, ↓bnd_eq, bd2, bn2, Option.bind_some, Option.bind_none, ↓bse f2, ↓reduceIte, inb, zl, zi_add, zi_sub, zi_mul, zi_neg, zi_le_t, zi_le_f, zi_lt_t, zi_lt_f, zi_eq_t, zi_eq_f, if_true, if_false, ite_true, ite_false, true_and, and_true, false_and, and_false, not_true_eq_false, not_false_eq_true, true_or, or_true, false_or, or_false, and_self, ge_iff_le, gt_iff_lt]
  · rw [e1]; rfl
  · rw [e1]; rfl
  · rw [e1]; rfl
  · have x1 : x < w := x1
    have y1 : y < h := y1
    rw [r _ (by omega) (by omega), if_pos (by omega)]; rfl
  · have jb : bd w h j := jb
    unfold bd at jb
    rw [r j j0 j1, if_neg (by omega), rWi, fr1_in (by omega)]
  · have i1 : i < 0 := i1
    omega
theorem m_cl (hw : 1 ≤ w ∧ w ≤ 8) (hh : 1 ≤ h ∧ h ≤ 8) : ∀ (n : Nat) (i : Int) (fu : Nat) (δ : Dl), 0 ≤ i → i ≤ 64 → (64 - i).toNat ≤ n → n < fu → ∃ δ', F_M_clears_23 (zi w) (zi h) fu (zi i) δ = some δ' ∧ Fr (fun f a => a = 23 ∧ f = 112) δ δ' ∧ MK 4 δ δ' ∧ ∀ j, 0 ≤ j → j < 64 → δ'.2.1 112 23 (zi (256 + j)) = if i ≤ j then zi 0 else δ.2.1 112 23 (zi (256 + j)) := by
  intro n
  have done : ∀ (fu : Nat) (δ : Dl), 0 < fu → ∃ δ', F_M_clears_23 (zi w) (zi h) fu (zi 64) δ = some δ' ∧ Fr (fun f a => a = 23 ∧ f = 112) δ δ' ∧ MK 4 δ δ' ∧ ∀ j, 0 ≤ j → j < 64 → δ'.2.1 112 23 (zi (256 + j)) = if (64 : Int) ≤ j then zi 0 else δ.2.1 112 23 (zi (256 + j)) := by
    intro fu δ hf
    obtain ⟨fu, rfl⟩ : ∃ q, fu = q + 1 := ⟨fu - 1, by omega⟩
    refine ⟨δ, ?_, Fr.rf, MK.rf, fun j j0 j1 => by rw [if_neg (by omega)]⟩
    simp (disch := omega) only [F_M_clears_23, F_M_clears_23_b, ↓reduceIte, inb, zl, zi_add, zi_sub, zi_mul, zi_neg, zi_le_t, zi_le_f, zi_lt_t, zi_lt_f, zi_eq_t, zi_eq_f, if_true, if_false, ite_true, ite_false, true_and, and_true, false_and, and_false, not_true_eq_false, not_false_eq_true, true_or, or_true, false_or, or_false, and_self, ge_iff_le, gt_iff_lt]
  induction n with
  | zero => intro x fu δ i0 i1 hn hf; have : x = 64 := by omega
            subst this; exact done fu δ hf
  | succ n ih =>
    intro i fu δ i0 i1 hn hf
    by_cases q : i = 64
    · subst q; exact done fu δ (by omega)
    · obtain ⟨fu, rfl⟩ : ∃ q, fu = q + 1 := ⟨fu - 1, by omega⟩
      obtain ⟨δ', e, F, K, r⟩ := ih (i + 1) fu (sA δ 112 23 (zi (256 + i)) (zi 0)) (by omega) (by omega) (by omega) (by omega)
      refine ⟨δ', ?_, (Fr.sA (S := fun f a => a = 23 ∧ f = 112) Fr.rf ⟨rfl, rfl⟩).tr F, (MK.rf.sA (fun e => by omega) (by omega)).tr K, fun j j0 j1 => ?_⟩
      · rw [← e]
        simp (disch := omega) only [F_M_clears_23, F_M_clears_23_b, ↓bnd_eq, bd2, bn2, Option.bind_some, Option.bind_none, ↓reduceIte, inb, zl, zi_add, zi_sub, zi_mul, zi_neg, zi_le_t, zi_le_f, zi_lt_t, zi_lt_f, zi_eq_t, zi_eq_f, if_true, if_false, ite_true, ite_false, true_and, and_true, false_and, and_false, not_true_eq_false, not_false_eq_true, true_or, or_true, false_or, or_false, and_self, ge_iff_le, gt_iff_lt]
      · rw [r j j0 j1, rAi]
        by_cases q1 : i + 1 ≤ j
        · rw [if_pos q1, if_pos (by omega)]
        · rw [if_neg q1]
          by_cases q2 : j = i
          · rw [if_pos (by rw [q2]), if_pos (by omega)]
          · rw [if_neg (fun e => q2 (by have := zi_inj e (by omega) (by omega); omega)), if_neg (by omega)]
theorem m_clears {δ : Dl} (hw : 1 ≤ w ∧ w ≤ 8) (hh : 1 ≤ h ∧ h ≤ 8) : ∃ δ', F_M_clears (zi w) (zi h) δ = some δ' ∧ Fr (fun f a => a = 23 ∧ 110 ≤ f ∧ f ≤ 116) δ δ' ∧ MK 4 δ δ' ∧ MG 4 δ' (emptyG w h) := by
  obtain ⟨δ', e, F, K, r⟩ := m_cl hw hh 64 0 FU (sA (sA (sA δ 110 23 (zi 4) (zi w)) 111 23 (zi 4) (zi h)) 113 23 (zi 4) (zi 0)) (by omega) (by omega) (by omega) (by unfold FU; omega)
  have o : ∀ f, f ≠ 112 → δ'.2.1 f 23 = (sA (sA (sA δ 110 23 (zi 4) (zi w)) 111 23 (zi 4) (zi h)) 113 23 (zi 4) (zi 0)).2.1 f 23 := fun f hf => (F.2 f 23 (fun e => hf e.2)).2
  refine ⟨δ', ?_, (((Fr.rf.sA ⟨rfl, by decide, by decide⟩).sA ⟨rfl, by decide, by decide⟩).sA ⟨rfl, by decide, by decide⟩).tr (F.to (fun f a e => ⟨e.1, by omega, by omega⟩)), (((MK.rf.sA (fun e => by omega) (by omega)).sA (fun e => by omega) (by omega)).sA (fun e => by omega) (by omega)).tr K, ?_, ?_, ?_, fun x y x0 x1 y0 y1 => ?_, fun i i0 i1 => ?_⟩
  · unfold F_M_clears
    rw [bnd_eq, bnd_eq, bnd_eq, zl0, show (4 : Int32) = zi 4 from zl 4]
    exact e
  · rw [o 110 (by decide), rA (by decide), rA (by decide), rAi, if_pos rfl]; rfl
  · rw [o 111 (by decide), rA (by decide), rAi, if_pos rfl]; rfl
  · rw [o 113 (by decide), rAi, if_pos rfl]; rfl
  · have x1 : x < w := x1
    have y1 : y < h := y1
    rw [show 64 * 4 + (8 * y + x) = 256 + (8 * y + x) by omega, r _ (by omega) (by omega), if_pos (by omega)]; rfl
  · have i1 : i < 0 := i1
    omega
end EM
theorem st_stage (x1 x2 : Int32) : S2 INV (F_Bs_stage x1 x2) (F_M_stage x1 x2) := by
  intro δ I
  obtain ⟨⟨v, g, h1, h2, h4⟩, ⟨kn, gk, h3⟩, hr⟩ := id I
  obtain ⟨w, rfl, hx⟩ := zi_ex x1
  obtain ⟨h, rfl, hy⟩ := zi_ex x2
  by_cases qw : 1 ≤ w ∧ w ≤ 8
  · have w1 : F_M_within (zi w) (zi 1) (zi 8) = zi 1 := by simp (disch := omega) only [F_M_within, ↓reduceIte, inb, zl, zi_add, zi_sub, zi_mul, zi_neg, zi_le_t, zi_le_f, zi_lt_t, zi_lt_f, zi_eq_t, zi_eq_f, if_true, if_false, ite_true, ite_false, true_and, and_true, false_and, and_false, not_true_eq_false, not_false_eq_true, true_or, or_true, false_or, or_false, and_self, ge_iff_le, gt_iff_lt]
    by_cases qh : 1 ≤ h ∧ h ≤ 8
    · have w2 : F_M_within (zi h) (zi 1) (zi 8) = zi 1 := by simp (disch := omega) only [F_M_within, ↓reduceIte, inb, zl, zi_add, zi_sub, zi_mul, zi_neg, zi_le_t, zi_le_f, zi_lt_t, zi_lt_f, zi_eq_t, zi_eq_f, if_true, if_false, ite_true, ite_false, true_and, and_true, false_and, and_false, not_true_eq_false, not_false_eq_true, true_or, or_true, false_or, or_false, and_self, ge_iff_le, gt_iff_lt]
      obtain ⟨d1, e1, F1, G1⟩ := c_empty (δ := δ) qw qh
      obtain ⟨d2, e2, F2, K2, M2⟩ := m_clears (δ := sI d1 42 8 (zi 0)) qw qh
      have F : Fr SBg δ (sI d2 152 23 (zi (-1))) := (((Fr.to (S' := SBg) F1 (fun f a e => Or.inl e)).sI (Or.inr (Or.inl ⟨rfl, rfl⟩))).tr (Fr.to (S' := SBg) F2 (fun f a e => Or.inr (Or.inr ⟨e.1, Or.inl e.2⟩)))).sI (Or.inr (Or.inr ⟨rfl, Or.inr rfl⟩))
      have K1 : MK 4 δ (sI d1 42 8 (zi 0)) := (MK.rf.fr F1 (fun f q1 q2 e => absurd e.1 (by decide))).sI
      have K : MK 4 δ (sI d2 152 23 (zi (-1))) := (K1.tr K2).sI
      have G1' : CG 3 (sI d1 42 8 (zi 0)) (emptyG w h) := G1
      have G2 : CG 3 d2 (emptyG w h) := G1'.fr F2 (fun f q1 q2 e => absurd e.1 (by decide))
      refine ⟨zi 1, sI d1 42 8 (zi 0), sI d2 152 23 (zi (-1)), ?_, ?_, INV.beg h1 h3 hr F K ⟨WG.empty qw qh, G2, M2⟩ ?_ sI_at, ?_⟩
      · simp (disch := omega) only [F_Bs_stage, ↓bnd_eq, bd2, bn2, Option.bind_some, Option.bind_none, ↓bse e1, ↓reduceIte, inb, zl, zi_add, zi_sub, zi_mul, zi_neg, zi_le_t, zi_le_f, zi_lt_t, zi_lt_f, zi_eq_t, zi_eq_f, if_true, if_false, ite_true, ite_false, true_and, and_true, false_and, and_false, not_true_eq_false, not_false_eq_true, true_or, or_true, false_or, or_false, and_self, ge_iff_le, gt_iff_lt]
      · simp (disch := omega) only [F_M_stage, ↓bnd_eq, bd2, bn2, Option.bind_some, Option.bind_none, w1, w2, ↓bse e2, ↓reduceIte, inb, zl, zi_add, zi_sub, zi_mul, zi_neg, zi_le_t, zi_le_f, zi_lt_t, zi_lt_f, zi_eq_t, zi_eq_f, if_true, if_false, ite_true, ite_false, true_and, and_true, false_and, and_false, not_true_eq_false, not_false_eq_true, true_or, or_true, false_or, or_false, and_self, ge_iff_le, gt_iff_lt]
      · show d2.1 42 8 = zi 0
        rw [(F2.2 42 8 (fun e => absurd e.1 (by decide))).1, sI_at]
      · rw [F.1]
    · have w2 : F_M_within (zi h) (zi 1) (zi 8) = zi 0 := by
        by_cases q0 : h < 1
        · simp (disch := omega) only [F_M_within, ↓reduceIte, inb, zl, zi_add, zi_sub, zi_mul, zi_neg, zi_le_t, zi_le_f, zi_lt_t, zi_lt_f, zi_eq_t, zi_eq_f, if_true, if_false, ite_true, ite_false, true_and, and_true, false_and, and_false, not_true_eq_false, not_false_eq_true, true_or, or_true, false_or, or_false, and_self, ge_iff_le, gt_iff_lt]
        · simp (disch := omega) only [F_M_within, ↓reduceIte, inb, zl, zi_add, zi_sub, zi_mul, zi_neg, zi_le_t, zi_le_f, zi_lt_t, zi_lt_f, zi_eq_t, zi_eq_f, if_true, if_false, ite_true, ite_false, true_and, and_true, false_and, and_false, not_true_eq_false, not_false_eq_true, true_or, or_true, false_or, or_false, and_self, ge_iff_le, gt_iff_lt]
      refine ⟨zi (-2), δ, δ, ?_, ?_, I, rfl⟩
      · by_cases q0 : h < 1
        · simp (disch := omega) only [F_Bs_stage, ↓reduceIte, inb, zl, zi_add, zi_sub, zi_mul, zi_neg, zi_le_t, zi_le_f, zi_lt_t, zi_lt_f, zi_eq_t, zi_eq_f, if_true, if_false, ite_true, ite_false, true_and, and_true, false_and, and_false, not_true_eq_false, not_false_eq_true, true_or, or_true, false_or, or_false, and_self, ge_iff_le, gt_iff_lt]
        · simp (disch := omega) only [F_Bs_stage, ↓reduceIte, inb, zl, zi_add, zi_sub, zi_mul, zi_neg, zi_le_t, zi_le_f, zi_lt_t, zi_lt_f, zi_eq_t, zi_eq_f, if_true, if_false, ite_true, ite_false, true_and, and_true, false_and, and_false, not_true_eq_false, not_false_eq_true, true_or, or_true, false_or, or_false, and_self, ge_iff_le, gt_iff_lt]
      · simp (disch := omega) only [F_M_stage, ↓bnd_eq, bd2, bn2, Option.bind_some, Option.bind_none, w1, w2, ↓reduceIte, inb, zl, zi_add, zi_sub, zi_mul, zi_neg, zi_le_t, zi_le_f, zi_lt_t, zi_lt_f, zi_eq_t, zi_eq_f, if_true, if_false, ite_true, ite_false, true_and, and_true, false_and, and_false, not_true_eq_false, not_false_eq_true, true_or, or_true, false_or, or_false, and_self, ge_iff_le, gt_iff_lt]
  · have w1 : F_M_within (zi w) (zi 1) (zi 8) = zi 0 := by
      by_cases q0 : w < 1
      · simp (disch := omega) only [F_M_within, ↓reduceIte, inb, zl, zi_add, zi_sub, zi_mul, zi_neg, zi_le_t, zi_le_f, zi_lt_t, zi_lt_f, zi_eq_t, zi_eq_f, if_true, if_false, ite_true, ite_false, true_and, and_true, false_and, and_false, not_true_eq_false, not_false_eq_true, true_or, or_true, false_or, or_false, and_self, ge_iff_le, gt_iff_lt]
      · simp (disch := omega) only [F_M_within, ↓reduceIte, inb, zl, zi_add, zi_sub, zi_mul, zi_neg, zi_le_t, zi_le_f, zi_lt_t, zi_lt_f, zi_eq_t, zi_eq_f, if_true, if_false, ite_true, ite_false, true_and, and_true, false_and, and_false, not_true_eq_false, not_false_eq_true, true_or, or_true, false_or, or_false, and_self, ge_iff_le, gt_iff_lt]
    refine ⟨zi (-2), δ, δ, ?_, ?_, I, rfl⟩
    · by_cases q0 : w < 1
      · simp (disch := omega) only [F_Bs_stage, ↓reduceIte, inb, zl, zi_add, zi_sub, zi_mul, zi_neg, zi_le_t, zi_le_f, zi_lt_t, zi_lt_f, zi_eq_t, zi_eq_f, if_true, if_false, ite_true, ite_false, true_and, and_true, false_and, and_false, not_true_eq_false, not_false_eq_true, true_or, or_true, false_or, or_false, and_self, ge_iff_le, gt_iff_lt]
      · simp (disch := omega) only [F_Bs_stage, ↓reduceIte, inb, zl, zi_add, zi_sub, zi_mul, zi_neg, zi_le_t, zi_le_f, zi_lt_t, zi_lt_f, zi_eq_t, zi_eq_f, if_true, if_false, ite_true, ite_false, true_and, and_true, false_and, and_false, not_true_eq_false, not_false_eq_true, true_or, or_true, false_or, or_false, and_self, ge_iff_le, gt_iff_lt]
    · simp (disch := omega) only [F_M_stage, ↓bnd_eq, bd2, bn2, Option.bind_some, Option.bind_none, w1, ↓reduceIte, inb, zl, zi_add, zi_sub, zi_mul, zi_neg, zi_le_t, zi_le_f, zi_lt_t, zi_lt_f, zi_eq_t, zi_eq_f, if_true, if_false, ite_true, ite_false, true_and, and_true, false_and, and_false, not_true_eq_false, not_false_eq_true, true_or, or_true, false_or, or_false, and_self, ge_iff_le, gt_iff_lt]
