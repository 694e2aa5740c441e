/-! the first states (wip/whole/pure) -/
section ES
variable {w h : Int} {s : Nat}
theorem c_eS33 (hw : 1 ≤ w ∧ w ≤ 8) (hh : 1 ≤ h ∧ h ≤ 8) {y : Int} (hy : 0 ≤ y ∧ y < h) {k : Int32 → Dl → Option Dl} : ∀ (n : Nat) (x : Int) (fu : Nat) (δ : Dl), δ.1 70 s = zi w → δ.1 71 s = zi h → 0 ≤ x → x ≤ w → (w - x).toNat ≤ n → n < fu → ∃ δ', F_St_empty_33 s (zi w) (zi h) k fu (zi y) (zi x) δ = k (zi (y + 1)) δ' ∧ Fr (fun f a => a = s ∧ f = 73) δ δ' ∧ δ'.1 = δ.1 ∧ ∀ j, 0 ≤ j → j < 100 → δ'.2.1 73 s (zi j) = if (y + 1) * 10 + x + 1 ≤ j ∧ j ≤ (y + 1) * 10 + w then zi 0 else δ.2.1 73 s (zi j) := by
  intro n
  have done : ∀ (fu : Nat) (δ : Dl), 0 < fu → ∃ δ', F_St_empty_33 s (zi w) (zi h) k fu (zi y) (zi w) δ = k (zi (y + 1)) δ' ∧ Fr (fun f a => a = s ∧ f = 73) δ δ' ∧ δ'.1 = δ.1 ∧ ∀ j, 0 ≤ j → j < 100 → δ'.2.1 73 s (zi j) = if (y + 1) * 10 + w + 1 ≤ j ∧ j ≤ (y + 1) * 10 + w then zi 0 else δ.2.1 73 s (zi j) := by
    intro fu δ hf
    obtain ⟨fu, rfl⟩ : ∃ q, fu = q + 1 := ⟨fu - 1, by omega⟩
    refine ⟨δ, ?_, Fr.rf, rfl, fun j j0 j1 => by rw [if_neg (by omega)]⟩
    simp (disch := omega) only [F_St_empty_33, F_St_empty_33_b, ↓reduceIte, inb, zl, zi_add, zi_sub, zi_mul, zi_neg, zi_le_t, zi_le_f, zi_lt_t, zi_lt_f, zi_eq_t, zi_eq_f, if_true, if_false, ite_true, ite_false, true_and, and_true, false_and, and_false, not_true_eq_false, not_false_eq_true, true_or, or_true, false_or, or_false, and_self, ge_iff_le, gt_iff_lt]
  induction n with
  | zero => intro x fu δ e1 e2 i0 i1 hn hf; have : x = w := by omega
            subst this; exact done fu δ hf
  | succ n ih =>
    intro x fu δ e1 e2 i0 i1 hn hf
    by_cases q : x = w
    · subst q; exact done fu δ (by omega)
    · obtain ⟨fu, rfl⟩ : ∃ q, fu = q + 1 := ⟨fu - 1, by omega⟩
      obtain ⟨δ', e, F, e1', r⟩ := ih (x + 1) fu (sA δ 73 s (zi ((y + 1) * 10 + x + 1)) (zi 0)) e1 e2 (by omega) (by omega) (by omega) (by omega)
      refine ⟨δ', ?_, (Fr.sA (S := fun f a => a = s ∧ f = 73) Fr.rf ⟨rfl, rfl⟩).tr F, e1', fun j j0 j1 => ?_⟩
      · rw [← e]
        simp (disch := omega) only [F_St_empty_33, F_St_empty_33_b, F_St_setCell, F_St_placeOf, ↓bnd_eq, bd2, bn2, Option.bind_some, Option.bind_none, e1, e2, ↓reduceIte, inb, zl, zi_add, zi_sub, zi_mul, zi_neg, zi_le_t, zi_le_f, zi_lt_t, zi_lt_f, zi_eq_t, zi_eq_f, if_true, if_false, ite_true, ite_false, true_and, and_true, false_and, and_false, not_true_eq_false, not_false_eq_true, true_or, or_true, false_or, or_false, and_self, ge_iff_le, gt_iff_lt]
      · rw [r j j0 j1, rAi]
        by_cases q1 : (y + 1) * 10 + (x + 1) + 1 ≤ j ∧ j ≤ (y + 1) * 10 + w
        · rw [if_pos q1, if_pos (by omega)]
        · rw [if_neg q1]
          by_cases q2 : j = (y + 1) * 10 + x + 1
          · rw [if_pos (by rw [q2]), if_pos (by omega)]
          · rw [if_neg (fun e => q2 (zi_inj e (by omega) (by omega))), if_neg (by omega)]
theorem c_eS25 (hw : 1 ≤ w ∧ w ≤ 8) (hh : 1 ≤ h ∧ h ≤ 8) : ∀ (n : Nat) (y : Int) (fu : Nat) (δ : Dl), δ.1 70 s = zi w → δ.1 71 s = zi h → 0 ≤ y → y ≤ h → (h - y).toNat ≤ n → n < fu → ∃ δ', F_St_empty_25 s (zi w) (zi h) fu (zi y) δ = some δ' ∧ Fr (fun f a => a = s ∧ f = 73) δ δ' ∧ δ'.1 = δ.1 ∧ ∀ j, 0 ≤ j → j < 100 → δ'.2.1 73 s (zi j) = if y + 1 ≤ j / 10 ∧ j / 10 ≤ h ∧ 1 ≤ j % 10 ∧ j % 10 ≤ w then zi 0 else δ.2.1 73 s (zi j) := by
  intro n
  have done : ∀ (fu : Nat) (δ : Dl), 0 < fu → ∃ δ', F_St_empty_25 s (zi w) (zi h) fu (zi h) δ = some δ' ∧ Fr (fun f a => a = s ∧ f = 73) δ δ' ∧ δ'.1 = δ.1 ∧ ∀ j, 0 ≤ j → j < 100 → δ'.2.1 73 s (zi j) = if h + 1 ≤ j / 10 ∧ j / 10 ≤ h ∧ 1 ≤ j % 10 ∧ j % 10 ≤ w then zi 0 else δ.2.1 73 s (zi j) := by
    intro fu δ hf
    obtain ⟨fu, rfl⟩ : ∃ q, fu = q + 1 := ⟨fu - 1, by omega⟩
    refine ⟨δ, ?_, Fr.rf, rfl, fun j j0 j1 => by rw [if_neg (by omega)]⟩
    simp (disch := omega) only [F_St_empty_25, F_St_empty_25_b, ↓reduceIte, inb, zl, zi_add, zi_sub, zi_mul, zi_neg, zi_le_t, zi_le_f, zi_lt_t, zi_lt_f, zi_eq_t, zi_eq_f, if_true, if_false, ite_true, ite_false, true_and, and_true, false_and, and_false, not_true_eq_false, not_false_eq_true, true_or, or_true, false_or, or_false, and_self, ge_iff_le, gt_iff_lt]
  induction n with
  | zero => intro x fu δ e1 e2 i0 i1 hn hf; have : x = h := by omega
            subst this; exact done fu δ hf
  | succ n ih =>
    intro y fu δ e1 e2 i0 i1 hn hf
    by_cases q : y = h
    · subst q; exact done fu δ (by omega)
    · obtain ⟨fu, rfl⟩ : ∃ q, fu = q + 1 := ⟨fu - 1, by omega⟩
      obtain ⟨δ1, ea, Fa, e1a, ra⟩ := c_eS33 hw hh (y := y) ⟨i0, by omega⟩ (k := F_St_empty_25 s (zi w) (zi h) fu) 8 0 FU δ e1 e2 (by omega) (by omega) (by omega) (by unfold FU; omega)
      obtain ⟨δ', e, F, e1', r⟩ := ih (y + 1) fu δ1 (by rw [e1a]; exact e1) (by rw [e1a]; exact e2) (by omega) (by omega) (by omega) (by omega)
      refine ⟨δ', ?_, Fa.tr F, e1'.trans e1a, fun j j0 j1 => ?_⟩
      · rw [← e, ← ea, ← zl0]
        show F_St_empty_25_b s (zi w) (zi h) (F_St_empty_25 s (zi w) (zi h) fu) (zi y) δ = _
        unfold F_St_empty_25_b
        rw [if_neg (by rw [zi_le (by omega) (by omega)]; omega)]
      · rw [r j j0 j1, ra j j0 j1]
        by_cases q1 : y + 1 + 1 ≤ j / 10 ∧ j / 10 ≤ h ∧ 1 ≤ j % 10 ∧ j % 10 ≤ w
        · rw [if_pos q1, if_pos (by omega)]
        · rw [if_neg q1]
          by_cases q2 : (y + 1) * 10 + 0 + 1 ≤ j ∧ j ≤ (y + 1) * 10 + w
          · rw [if_pos q2, if_pos (by omega)]
          · rw [if_neg q2, if_neg (by omega)]
theorem c_emptyS {δ : Dl} (hw : 1 ≤ w ∧ w ≤ 8) (hh : 1 ≤ h ∧ h ≤ 8) : ∃ δ', F_St_empty s (zi w) (zi h) δ = some δ' ∧ Fr (fun f a => a = s ∧ 70 ≤ f ∧ f ≤ 79) δ δ' := by
  have f2 := fill2 (f := 73) (a := s) (N := 100) (u := zi (-1)) (δ := sI (sI (sI δ 70 s (zi w)) 71 s (zi h)) 72 s (zi 0)) (by decide)
  have e70 : (sI (sI (sI δ 70 s (zi w)) 71 s (zi h)) 72 s (zi 0)).1 70 s = zi w := by
    rw [q1I, if_neg (fun e => absurd e.1 (by decide)), q1I, if_neg (fun e => absurd e.1 (by decide)), sI_at]
  have e71 : (sI (sI (sI δ 70 s (zi w)) 71 s (zi h)) 72 s (zi 0)).1 71 s = zi h := by
    rw [q1I, if_neg (fun e => absurd e.1 (by decide)), sI_at]
  obtain ⟨δ', e, F, e1, r⟩ := c_eS25 hw hh 8 0 FU (sW (sI (sI (sI δ 70 s (zi w)) 71 s (zi h)) 72 s (zi 0)) 73 s (fr1 ((sI (sI (sI δ 70 s (zi w)) 71 s (zi h)) 72 s (zi 0)).2.1 73 s) 0 100 (zi (-1)))) e70 e71 (by omega) (by omega) (by omega) (by unfold FU; omega)
  refine ⟨δ', ?_, ((((Fr.rf.sI ⟨rfl, by decide, by decide⟩).sI ⟨rfl, by decide, by decide⟩).sI ⟨rfl, by decide, by decide⟩).sW ⟨rfl, by decide, by decide⟩).tr (F.to (fun f a e => ⟨e.1, by omega, by omega⟩))⟩
  rw [← e]
  simp (disch := omega) only [F_St_empty, ↓bnd_eq, bd2, bn2, Option.bind_some, Option.bind_none, ↓bse f2, ↓reduceIte, inb, zl, zi_add, zi_sub, zi_mul, zi_neg, zi_le_t, zi_le_f, zi_lt_t, zi_lt_f, zi_eq_t, zi_eq_f, if_true, if_false, ite_true, ite_false, true_and, and_true, false_and, and_false, not_true_eq_false, not_false_eq_true, true_or, or_true, false_or, or_false, and_self, ge_iff_le, gt_iff_lt]
end ES
/-- numbers and rows stay, references aside -/
def FI (S : Nat → Nat → Prop) (δ δ' : Dl) : Prop := ∀ g b, ¬ S g b → δ'.1 g b = δ.1 g b ∧ δ'.2.1 g b = δ.2.1 g b
section FIs
variable {S S' : Nat → Nat → Prop} {δ δ1 δ2 : Dl}
theorem FI.rf : FI S δ δ := fun _ _ _ => ⟨rfl, rfl⟩
theorem FI.tr (h : FI S δ δ1) (h' : FI S δ1 δ2) : FI S δ δ2 := fun g b hn => ⟨(h' g b hn).1.trans (h g b hn).1, (h' g b hn).2.trans (h g b hn).2⟩
theorem FI.to (h : FI S δ δ1) (hs : ∀ g b, S g b → S' g b) : FI S' δ δ1 := fun g b hn => h g b (fun e => hn (hs g b e))
theorem FI.of (h : Fr S δ δ1) : FI S δ δ1 := h.2
theorem FI.sI (h : FI S δ δ1) {f a : Nat} {x : Int32} (hs : S f a) : FI S δ (sI δ1 f a x) := fun g b hn => ⟨by
  rw [q1I, if_neg (fun e => hn (by rw [e.1, e.2]; exact hs))]; exact (h g b hn).1, (h g b hn).2⟩
theorem FI.sA (h : FI S δ δ1) {f a : Nat} {i x : Int32} (hs : S f a) : FI S δ (sA δ1 f a i x) := fun g b hn => ⟨(h g b hn).1, by
  show (if g = f ∧ b = a then _ else δ1.2.1 g b) = _
  rw [if_neg (fun e => hn (by rw [e.1, e.2]; exact hs))]; exact (h g b hn).2⟩
theorem FI.aD (h : FI S δ δ1) {f a : Nat} (hs : S f a) : FI S δ (aD δ1 f a) := fun g b hn => ⟨(h g b hn).1, by
  show (if g = f ∧ b = a then _ else δ1.2.1 g b) = _
  rw [if_neg (fun e => hn (by rw [e.1, e.2]; exact hs))]; exact (h g b hn).2⟩
theorem FI.nD (h : FI S δ δ1) {b ci n : Nat} (hs : ∀ f, S f b) : FI S δ (nD δ1 b ci n) := fun g a hn => ⟨by
  show (if a = b ∧ _ then (0 : Int32) else δ1.1 g a) = _
  rw [if_neg (fun e => hn (by rw [e.1]; exact hs g))]; exact (h g a hn).1, (h g a hn).2⟩
theorem FI.sR (h : FI S δ δ1) {f a : Nat} {q : Nat × Nat} : FI S δ (sR δ1 f a q) := h
theorem FI.qD (h : FI S δ δ1) {f : Nat} : FI S δ (qD δ1 f) := h
end FIs
theorem st_init3 (δ : Dl) : ∃ δ', F_St_init 3 δ = some δ' ∧ FI (fun _ a => a = 3) δ δ' ∧ CG 3 δ' (emptyG 4 4) := by
  obtain ⟨δ', e, F, G⟩ := c_empty (w := 4) (h := 4) (δ := (aD (aD (aD (aD (aD (aD (aD (sI (sI (sI δ 70 3 0) 71 3 0) 72 3 0) 73 3) 74 3) 75 3) 76 3) 77 3) 78 3) 79 3)) (by decide) (by decide)
  refine ⟨δ', ?_, (((((((((((FI.rf (S := fun _ a => a = 3)).sI rfl).sI rfl).sI rfl).aD rfl).aD rfl).aD rfl).aD rfl).aD rfl).aD rfl).aD rfl).tr ((FI.of F).to (fun f a e => e.1)), G⟩
  unfold F_St_init
  rw [show (4 : Int32) = zi 4 from zl 4]
  exact e
theorem st_initS (s : Nat) (δ : Dl) : ∃ δ', F_St_init s δ = some δ' ∧ FI (fun _ a => a = s) δ δ' := by
  obtain ⟨δ', e, F⟩ := c_emptyS (s := s) (w := 4) (h := 4) (δ := (aD (aD (aD (aD (aD (aD (aD (sI (sI (sI δ 70 s 0) 71 s 0) 72 s 0) 73 s) 74 s) 75 s) 76 s) 77 s) 78 s) 79 s)) (by decide) (by decide)
  refine ⟨δ', ?_, (((((((((((FI.rf (S := fun _ a => a = s)).sI rfl).sI rfl).sI rfl).aD rfl).aD rfl).aD rfl).aD rfl).aD rfl).aD rfl).aD rfl).tr ((FI.of F).to (fun f a e => e.1))⟩
  unfold F_St_init
  rw [show (4 : Int32) = zi 4 from zl 4]
  exact e
theorem pr_init (p : Nat) (δ : Dl) : FI (fun _ a => a = p) δ (F_Pr_init p (nD δ p 3 5)) := ((((((FI.rf (S := fun _ a => a = p)).nD (fun _ => rfl)).sI rfl).sI rfl).aD rfl).aD rfl).aD rfl
theorem ru_init8 (δ : Dl) : ∃ δ', F_Ru_init8 δ = some δ' ∧ FI (fun _ a => 8 ≤ a ∧ a ≤ 10) δ δ' ∧ δ'.1 42 8 = 0 := by
  obtain ⟨δ1, e1, F1⟩ := st_initS 10 (nD (F_Pr_init 9 (nD δ 9 3 5)) 10 9 10)
  have F0 : FI (fun _ a => 8 ≤ a ∧ a ≤ 10) δ δ1 := (((pr_init 9 δ).to (fun f a e => by have : a = 9 := e; show 8 ≤ a ∧ a ≤ 10; omega)).nD (fun _ => by decide)).tr (F1.to (fun f a e => by have : a = 10 := e; show 8 ≤ a ∧ a ≤ 10; omega))
  refine ⟨_, by unfold F_Ru_init8; rw [e1, Option.bind_some], ((((((((((((F0.sI (by decide)).sI (by decide)).sI (by decide)).aD (by decide)).aD (by decide)).aD (by decide)).aD (by decide)).aD (by decide)).aD (by decide)).sI (by decide)).sI (by decide)).sI (by decide)), rfl⟩
theorem ru_init11 (δ : Dl) : ∃ δ', F_Ru_init11 δ = some δ' ∧ FI (fun _ a => 11 ≤ a ∧ a ≤ 13) δ δ' := by
  obtain ⟨δ1, e1, F1⟩ := st_initS 13 (nD (F_Pr_init 12 (nD δ 12 3 5)) 13 9 10)
  have F0 : FI (fun _ a => 11 ≤ a ∧ a ≤ 13) δ δ1 := (((pr_init 12 δ).to (fun f a e => by have : a = 12 := e; show 11 ≤ a ∧ a ≤ 13; omega)).nD (fun _ => by decide)).tr (F1.to (fun f a e => by have : a = 13 := e; show 11 ≤ a ∧ a ≤ 13; omega))
  exact ⟨_, by unfold F_Ru_init11; rw [e1, Option.bind_some], ((((((((((((F0.sI (by decide)).sI (by decide)).sI (by decide)).aD (by decide)).aD (by decide)).aD (by decide)).aD (by decide)).aD (by decide)).aD (by decide)).sI (by decide)).sI (by decide)).sI (by decide))⟩
/-- what is written behind the making of object k -/
abbrev WK (k : Nat) : Nat → Nat → Prop := fun f a => k ≤ a ∨ (4 ≤ a ∧ a ≤ 7) ∨ (a = 0 ∧ 103 ≤ f ∧ f ≤ 107)
/-- what the class's first state holds -/
def CF (r : Dl) : Prop := (r.1 30 1 = 0 ∧ r.1 31 1 = 0) ∧ CG 3 r (emptyG 4 4) ∧ r.1 94 0 = 0 ∧ r.1 42 8 = 0 ∧ r.1 10 14 = 0 ∧ r.1 10 15 = 0 ∧ (r.1 80 16 = 0 ∧ r.2.1 81 16 = fun _ => 0) ∧ (r.1 103 0 = 0 ∧ r.1 104 0 = -1 ∧ r.1 105 0 = -1 ∧ r.1 107 0 = 0) ∧ (r.2.1 60 18 0 = -1 ∧ r.2.1 60 18 1 = -1 ∧ r.2.1 60 18 2 = -1 ∧ r.2.1 61 18 = fun _ => 0) ∧
  (r.2.2 93 0 = (0, 4) ∧ r.2.2 93 1 = (0, 5) ∧ r.2.2 93 2 = (0, 6) ∧ r.2.2 93 3 = (0, 7)) ∧ r.2.2 99 0 = (0, 16) ∧ r.2.2 100 0 = (0, 17) ∧ r.2.2 102 0 = (1, 0) ∧ RI r [(0, 7), (0, 6), (0, 5), (0, 4), (1, 0), (0, 17), (0, 16)]
theorem first_c (δ : Dl) (hR : RI δ []) : ∃ r, F_Bs_init δ = some r ∧ CF r := by
  obtain ⟨A3, e3, F3, G3⟩ := st_init3 (nD (F_Pr_init 2 (nD (F_Pr_init 1 (nD δ 1 3 5)) 2 3 5)) 3 9 10)
  have r3 := fr_St_init e3
  obtain ⟨A5, e5, F5, z42⟩ := ru_init8 (nD (sI (qD A3 93) 94 0 0) 8 5 14)
  have r5 := fr_Ru_init8 e5
  obtain ⟨A6, e6, F6⟩ := ru_init11 (nD A5 11 5 14)
  have r6 := fr_Ru_init11 e6
  -- the rest, one after another
  obtain ⟨A7, h7⟩ : ∃ d, d = F_By_init14 (nD A6 14 0 2) := ⟨_, rfl⟩
  obtain ⟨A8, h8⟩ : ∃ d, d = F_By_init15 (nD A7 15 0 2) := ⟨_, rfl⟩
  obtain ⟨A9, h9⟩ : ∃ d, d = F_Wi_init 16 (nD A8 16 10 7) := ⟨_, rfl⟩
  obtain ⟨A10, h10⟩ : ∃ d, d = F_Wi_init 17 (nD (sR A9 99 0 (0, 16)) 17 10 7) := ⟨_, rfl⟩
  obtain ⟨A11, h11⟩ : ∃ d, d = F_Sh_init 18 (nD (sR A10 100 0 (0, 17)) 18 7 3) := ⟨_, rfl⟩
  obtain ⟨A12, h12⟩ : ∃ d, d = sI (aD (sI (sI (sI (sR A11 102 0 (1, 0)) 103 0 0) 104 0 (-1)) 105 0 (-1)) 106 0) 107 0 0 := ⟨_, rfl⟩
  obtain ⟨B4, b4, f4⟩ := st_initS 4 (nD A12 4 9 10)
  obtain ⟨B5, b5, f5⟩ := st_initS 5 (nD (sR B4 93 (0 : Int32).toNatClampNeg (0, 4)) 5 9 10)
  obtain ⟨B6, b6, f6⟩ := st_initS 6 (nD (sR B5 93 (1 : Int32).toNatClampNeg (0, 5)) 6 9 10)
  obtain ⟨B7, b7, f7⟩ := st_initS 7 (nD (sR B6 93 (2 : Int32).toNatClampNeg (0, 6)) 7 9 10)
  have q4 := fr_St_init b4
  have q5 := fr_St_init b5
  have q6 := fr_St_init b6
  have q7 := fr_St_init b7
  have eF : F_Bs_init δ = some (sR B7 93 (3 : Int32).toNatClampNeg (0, 7)) := by
    unfold F_Bs_init
    rw [e3, Option.bind_some, e5, Option.bind_some, e6, Option.bind_some, ← h7, ← h8, ← h9, ← h10, ← h11, ← h12, b4, Option.bind_some, b5, Option.bind_some, b6, Option.bind_some, b7, Option.bind_some]
  -- frames to the end
  have t13 : FI (fun _ a => 4 ≤ a ∧ a ≤ 7) A12 (sR B7 93 (3 : Int32).toNatClampNeg (0, 7)) := by
    have g4 : FI (fun _ a => 4 ≤ a ∧ a ≤ 7) A12 B4 := (FI.rf.nD (fun _ => by decide)).tr (f4.to (fun f a e => by have : a = 4 := e; show 4 ≤ a ∧ a ≤ 7; omega))
    have g5 : FI (fun _ a => 4 ≤ a ∧ a ≤ 7) A12 B5 := ((g4.sR).nD (fun _ => by decide)).tr (f5.to (fun f a e => by have : a = 5 := e; show 4 ≤ a ∧ a ≤ 7; omega))
    have g6 : FI (fun _ a => 4 ≤ a ∧ a ≤ 7) A12 B6 := ((g5.sR).nD (fun _ => by decide)).tr (f6.to (fun f a e => by have : a = 6 := e; show 4 ≤ a ∧ a ≤ 7; omega))
    exact (((g6.sR).nD (fun _ => by decide)).tr (f7.to (fun f a e => by have : a = 7 := e; show 4 ≤ a ∧ a ≤ 7; omega))).sR
  generalize hr : sR B7 93 (3 : Int32).toNatClampNeg (0, 7) = r at *
  have t12 : ∀ k, FI (WK k) A12 r := fun k => t13.to (fun f a e => Or.inr (Or.inl e))
  have t11 : ∀ k, FI (WK k) A11 r := fun k => by
    have : FI (WK k) A11 A12 := by
      rw [h12]
      exact (((((FI.rf.sR).sI (Or.inr (Or.inr (by decide)))).sI (Or.inr (Or.inr (by decide)))).sI (Or.inr (Or.inr (by decide)))).aD (Or.inr (Or.inr (by decide)))).sI (Or.inr (Or.inr (by decide)))
    exact this.tr (t12 k)
  have t10 : ∀ k, k ≤ 18 → FI (WK k) A10 r := fun k hk => by
    have : FI (WK k) A10 A11 := by
      rw [h11]
      exact (((((((FI.rf.sR).nD (fun _ => Or.inl hk)).aD (Or.inl hk)).sA (Or.inl hk)).sA (Or.inl hk)).sA (Or.inl hk)).aD (Or.inl hk)).aD (Or.inl hk)
    exact this.tr (t11 k)
  have wi : ∀ (k q : Nat) (d : Dl), k ≤ q → FI (WK k) d (F_Wi_init q (nD d q 10 7)) := fun k q d hk => (((((((FI.rf.nD (fun _ => Or.inl hk)).sI (Or.inl hk)).aD (Or.inl hk)).aD (Or.inl hk)).aD (Or.inl hk)).aD (Or.inl hk)).aD (Or.inl hk)).sI (Or.inl hk)
  have t9 : ∀ k, k ≤ 17 → FI (WK k) A9 r := fun k hk => by
    have : FI (WK k) A9 A10 := by
      rw [h10]
      exact wi k 17 (sR A9 99 0 (0, 16)) hk
    exact this.tr (t10 k (by omega))
  have t8 : ∀ k, k ≤ 16 → FI (WK k) A8 r := fun k hk => by
    have : FI (WK k) A8 A9 := by
      rw [h9]
      exact wi k 16 A8 hk
    exact this.tr (t9 k (by omega))
  have t7 : ∀ k, k ≤ 15 → FI (WK k) A7 r := fun k hk => by
    have : FI (WK k) A7 A8 := by
      rw [h8]
      exact ((FI.rf.nD (fun _ => Or.inl hk)).sI (Or.inl hk)).aD (Or.inl hk)
    exact this.tr (t8 k (by omega))
  have t6 : ∀ k, k ≤ 14 → FI (WK k) A6 r := fun k hk => by
    have : FI (WK k) A6 A7 := by
      rw [h7]
      exact ((FI.rf.nD (fun _ => Or.inl hk)).sI (Or.inl hk)).aD (Or.inl hk)
    exact this.tr (t7 k (by omega))
  have t5 : ∀ k, k ≤ 11 → FI (WK k) A5 r := fun k hk => by
    have : FI (WK k) A5 A6 := (FI.rf.nD (fun _ => Or.inl hk)).tr (F6.to (fun f a e => Or.inl (by have : 11 ≤ a ∧ a ≤ 13 := e; omega)))
    exact this.tr (t6 k (by omega))
  have t4 : FI (WK 8) (sI (qD A3 93) 94 0 0) r := by
    have : FI (WK 8) (sI (qD A3 93) 94 0 0) A5 := (FI.rf.nD (fun _ => Or.inl (by decide))).tr (F5.to (fun f a e => Or.inl (by have : 8 ≤ a ∧ a ≤ 10 := e; omega)))
    exact this.tr (t5 8 (by decide))
  have t3 : FI (fun f a => 4 ≤ a ∨ a = 0) A3 r := by
    have : FI (fun f a => 4 ≤ a ∨ a = 0) A3 (sI (qD A3 93) 94 0 0) := (FI.qD (FI.rf (δ := A3))).sI (Or.inr rfl)
    exact this.tr (t4.to (fun f a e => by
      have : 8 ≤ a ∨ (4 ≤ a ∧ a ≤ 7) ∨ (a = 0 ∧ 103 ≤ f ∧ f ≤ 107) := e
      show 4 ≤ a ∨ a = 0
      omega))
  have t1 : FI (fun f a => a ≠ 1) (F_Pr_init 1 (nD δ 1 3 5)) r := by
    have : FI (fun f a => a ≠ 1) (F_Pr_init 1 (nD δ 1 3 5)) A3 := (((pr_init 2 (F_Pr_init 1 (nD δ 1 3 5))).to (fun f a e => by have : a = 2 := e; show a ≠ 1; omega)).nD (fun _ => by decide)).tr (F3.to (fun f a e => by have : a = 3 := e; show a ≠ 1; omega))
    exact this.tr (t3.to (fun f a e => by have : 4 ≤ a ∨ a = 0 := e; show a ≠ 1; omega))
  refine ⟨r, eF, ⟨?_, ?_⟩, ?_, ?_, ?_, ?_, ?_, ⟨?_, ?_⟩, ⟨?_, ?_, ?_, ?_⟩, ⟨?_, ?_, ?_, ?_⟩, ?_⟩
  · rw [(t1 30 1 (fun e => e rfl)).1]; rfl
  · rw [(t1 31 1 (fun e => e rfl)).1]; rfl
  · have k : ∀ f, r.1 f 3 = A3.1 f 3 ∧ r.2.1 f 3 = A3.2.1 f 3 := fun f => t3 f 3 (fun e => by have : (4 : Nat) ≤ 3 ∨ (3 : Nat) = 0 := e; omega)
    unfold CG at G3 ⊢
    rw [(k 70).1, (k 71).1, (k 72).1, (k 73).2, (k 74).2, (k 75).2, (k 76).2, (k 77).2, (k 78).2]
    exact G3
  · rw [(t4 94 0 (by decide)).1]; rfl
  · rw [(t5 11 (by decide) 42 8 (by decide)).1]; exact z42
  · rw [(t7 15 (by decide) 10 14 (by decide)).1, h7]; rfl
  · rw [(t8 16 (by decide) 10 15 (by decide)).1, h8]; rfl
  · rw [(t9 17 (by decide) 80 16 (by decide)).1, h9]; rfl
  · rw [(t9 17 (by decide) 81 16 (by decide)).2, h9]; rfl
  · rw [(t13 103 0 (by decide)).1, h12]; rfl
  · rw [(t13 104 0 (by decide)).1, h12]; rfl
  · rw [(t13 105 0 (by decide)).1, h12]; rfl
  · rw [(t13 107 0 (by decide)).1, h12]; rfl
  · rw [(t11 19 60 18 (by decide)).2, h11]; rfl
  · rw [(t11 19 60 18 (by decide)).2, h11]; rfl
  · rw [(t11 19 60 18 (by decide)).2, h11]; rfl
  · rw [(t11 19 61 18 (by decide)).2, h11]; rfl
  -- the references
  have nr : ∀ {d : Dl} {b ci n f a : Nat}, ¬ (wfb ci ≤ f ∧ f < wfb ci + n) → (nD d b ci n).2.2 f a = d.2.2 f a := fun {d b ci n f a} hn => by
    show (if a = b ∧ wfb ci ≤ f ∧ f < wfb ci + n then (1, 0) else d.2.2 f a) = _
    rw [if_neg (fun e => hn e.2)]
  have k0 : (0 : Int32).toNatClampNeg = 0 := by decide
  have k1 : (1 : Int32).toNatClampNeg = 1 := by decide
  have k2 : (2 : Int32).toNatClampNeg = 2 := by decide
  have k3 : (3 : Int32).toNatClampNeg = 3 := by decide
  have eR : ∀ f a, r.2.2 f a = if f = 93 ∧ a = 3 then (0, 7) else B7.2.2 f a := fun f a => by rw [← hr, k3]; rfl
  have e7 : ∀ f a, ¬ (70 ≤ f ∧ f < 80) → B7.2.2 f a = if f = 93 ∧ a = 2 then (0, 6) else B6.2.2 f a := fun f a hf => by rw [q7, nr (by show ¬ (70 ≤ f ∧ f < 70 + 10); omega), k2]; rfl
  have e6' : ∀ f a, ¬ (70 ≤ f ∧ f < 80) → B6.2.2 f a = if f = 93 ∧ a = 1 then (0, 5) else B5.2.2 f a := fun f a hf => by rw [q6, nr (by show ¬ (70 ≤ f ∧ f < 70 + 10); omega), k1]; rfl
  have e5' : ∀ f a, ¬ (70 ≤ f ∧ f < 80) → B5.2.2 f a = if f = 93 ∧ a = 0 then (0, 4) else B4.2.2 f a := fun f a hf => by rw [q5, nr (by show ¬ (70 ≤ f ∧ f < 70 + 10); omega), k0]; rfl
  have e4' : ∀ f a, ¬ (70 ≤ f ∧ f < 80) → B4.2.2 f a = A12.2.2 f a := fun f a hf => by rw [q4, nr (by show ¬ (70 ≤ f ∧ f < 70 + 10); omega)]
  have e12 : ∀ f a, A12.2.2 f a = if f = 102 ∧ a = 0 then (1, 0) else A11.2.2 f a := fun f a => by rw [h12]; rfl
  have e11 : ∀ f a, ¬ (60 ≤ f ∧ f < 63) → A11.2.2 f a = if f = 100 ∧ a = 0 then (0, 17) else A10.2.2 f a := fun f a hf => by rw [h11, fr_Sh_init, nr (by show ¬ (60 ≤ f ∧ f < 60 + 3); omega)]; rfl
  have e10 : ∀ f a, ¬ (80 ≤ f ∧ f < 87) → A10.2.2 f a = if f = 99 ∧ a = 0 then (0, 16) else A9.2.2 f a := fun f a hf => by rw [h10, fr_Wi_init, nr (by show ¬ (80 ≤ f ∧ f < 80 + 7); omega)]; rfl
  refine ⟨⟨?_, ?_, ?_, ?_⟩, ?_, ?_, ?_, ?_⟩
  · rw [eR, if_neg (by decide), e7 _ _ (by decide), if_neg (by decide), e6' _ _ (by decide), if_neg (by decide), e5' _ _ (by decide), if_pos (by decide)]
  · rw [eR, if_neg (by decide), e7 _ _ (by decide), if_neg (by decide), e6' _ _ (by decide), if_pos (by decide)]
  · rw [eR, if_neg (by decide), e7 _ _ (by decide), if_pos (by decide)]
  · rw [eR, if_pos (by decide)]
  · rw [eR, if_neg (by decide), e7 _ _ (by decide), if_neg (by decide), e6' _ _ (by decide), if_neg (by decide), e5' _ _ (by decide), if_neg (by decide), e4' _ _ (by decide), e12, if_neg (by decide), e11 _ _ (by decide), if_neg (by decide), e10 _ _ (by decide), if_pos (by decide)]
  · rw [eR, if_neg (by decide), e7 _ _ (by decide), if_neg (by decide), e6' _ _ (by decide), if_neg (by decide), e5' _ _ (by decide), if_neg (by decide), e4' _ _ (by decide), e12, if_neg (by decide), e11 _ _ (by decide), if_pos (by decide)]
  · rw [eR, if_neg (by decide), e7 _ _ (by decide), if_neg (by decide), e6' _ _ (by decide), if_neg (by decide), e5' _ _ (by decide), if_neg (by decide), e4' _ _ (by decide), e12, if_pos (by decide)]
  · have R1 : RI (nD (F_Pr_init 2 (nD (F_Pr_init 1 (nD δ 1 3 5)) 2 3 5)) 3 9 10) [] := RI.nD (RI.of (RI.nD (RI.of (RI.nD hR) fr_Pr_init)) fr_Pr_init)
    have R3 : RI A3 [] := RI.of R1 r3
    have R4 : RI (nD (nD (nD (sI (qD A3 93) 94 0 0) 8 5 14) 9 3 5) 10 9 10) [] := RI.nD (RI.nD (RI.nD (RI.sI (RI.qD R3))))
    have R5 : RI A5 [] := RI.of R4 r5
    have R5' : RI (nD (nD (nD A5 11 5 14) 12 3 5) 13 9 10) [] := RI.nD (RI.nD (RI.nD R5))
    have R6 : RI A6 [] := RI.of R5' r6
    have R7 : RI A7 [] := by rw [h7]; exact RI.of (RI.nD R6) fr_By_init14
    have R8 : RI A8 [] := by rw [h8]; exact RI.of (RI.nD R7) fr_By_init15
    have R9 : RI A9 [] := by rw [h9]; exact RI.of (RI.nD R8) fr_Wi_init
    have R10 : RI A10 [(0, 16)] := by rw [h10]; exact RI.of (RI.nD (RI.sR R9)) fr_Wi_init
    have R11 : RI A11 [(0, 17), (0, 16)] := by rw [h11]; exact RI.of (RI.nD (RI.sR R10)) fr_Sh_init
    have R12 : RI A12 [(1, 0), (0, 17), (0, 16)] := by rw [h12]; exact RI.of (δ := sR A11 102 0 (1, 0)) (RI.sR R11) rfl
    have S4 : RI B4 [(1, 0), (0, 17), (0, 16)] := RI.of (RI.nD R12) q4
    have S5 : RI B5 [(0, 4), (1, 0), (0, 17), (0, 16)] := RI.of (RI.nD (RI.sR S4)) q5
    have S6 : RI B6 [(0, 5), (0, 4), (1, 0), (0, 17), (0, 16)] := RI.of (RI.nD (RI.sR S5)) q6
    have S7 : RI B7 [(0, 6), (0, 5), (0, 4), (1, 0), (0, 17), (0, 16)] := RI.of (RI.nD (RI.sR S6)) q7
    rw [← hr]
    exact RI.sR S7
