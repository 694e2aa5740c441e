/-! a run begins (wip/whole/pure) -/
theorem cp_r {δ : Dl} {f a g b : Nat} {i j n : Int32} : cpA δ f a i g b j n = sW δ g b (fun x => if j ≤ x ∧ x < j + n then δ.2.1 f a (i + (x - j)) else δ.2.1 g b x) := rfl
theorem cp_in {δ : Dl} {f a g b : Nat} {n k : Int} (h : 0 ≤ k ∧ k < n ∧ n < 90000) : (cpA δ f a (zi 0) g b (zi 0) (zi n)).2.1 g b (zi k) = δ.2.1 f a (zi k) := by
  rw [cp_r, rWi]
  show (if zi 0 ≤ zi k ∧ zi k < zi 0 + zi n then δ.2.1 f a (zi 0 + (zi k - zi 0)) else δ.2.1 g b (zi k)) = _
  rw [if_pos ⟨by rw [zi_le (by omega) (by omega)]; omega, by rw [zi_add, zi_lt (by omega) (by omega)]; omega⟩, zi_sub, zi_add, show 0 + (k - 0) = k by omega]
theorem cp_1 {δ : Dl} {f a g b : Nat} {i j n : Int32} : (cpA δ f a i g b j n).1 = δ.1 := rfl
theorem cp_ne {δ : Dl} {f a g b f' a' : Nat} {i j n : Int32} (h : ¬ (f' = g ∧ a' = b)) : (cpA δ f a i g b j n).2.1 f' a' = δ.2.1 f' a' := by
  rw [cp_r]
  exact if_neg h
theorem Fr.cp {S : Nat → Nat → Prop} {δ δ1 : Dl} {f a g b : Nat} {i j n : Int32} (h : Fr S δ δ1) (hs : S g b) : Fr S δ (cpA δ1 f a i g b j n) := by
  rw [cp_r]
  exact h.sW hs
/-- a stage is copied -/
theorem c_stcopy {s o : Nat} (hos : o ≠ s) (δ : Dl) : ∃ δ', F_St_copyFrom s o δ = some δ' ∧ Fr (fun g b => b = s ∧ 70 ≤ g ∧ g ≤ 79) δ δ' ∧ (δ'.1 70 s = δ.1 70 o ∧ δ'.1 71 s = δ.1 71 o ∧ δ'.1 72 s = δ.1 72 o) ∧
    (∀ k, 0 ≤ k → k < 100 → δ'.2.1 73 s (zi k) = δ.2.1 73 o (zi k)) ∧
    (∀ k, 0 ≤ k → k < 3 → δ'.2.1 74 s (zi k) = δ.2.1 74 o (zi k) ∧ δ'.2.1 75 s (zi k) = δ.2.1 75 o (zi k) ∧ δ'.2.1 76 s (zi k) = δ.2.1 76 o (zi k) ∧ δ'.2.1 77 s (zi k) = δ.2.1 77 o (zi k) ∧ δ'.2.1 78 s (zi k) = δ.2.1 78 o (zi k)) := by
  have hso : ∀ f : Nat, ¬ (f = f ∧ o = s) := fun f e => hos e.2
  have z0 : (0 : Int32) = zi 0 := zl 0
  have z3 : (3 : Int32) = zi 3 := zl 3
  have z60 : (60 : Int32) = zi 60 := zl 60
  have z100 : (100 : Int32) = zi 100 := zl 100
  refine ⟨_, rfl, ?_, ?_, ?_, ?_⟩
  · exact (((((((((Fr.rf.sI ⟨rfl, by decide⟩).sI ⟨rfl, by decide⟩).sI ⟨rfl, by decide⟩).cp ⟨rfl, by decide⟩).cp ⟨rfl, by decide⟩).cp ⟨rfl, by decide⟩).cp ⟨rfl, by decide⟩).cp ⟨rfl, by decide⟩).cp ⟨rfl, by decide⟩).cp ⟨rfl, by decide⟩
  · simp only [bnd, cp_1, q1I, hos, and_false, if_false, and_true, if_true, Nat.reduceEqDiff, ↓reduceIte, and_self]
  · intro k k0 k1
    rw [cp_ne (fun e => absurd e.1 (by decide)), cp_ne (fun e => absurd e.1 (by decide)), cp_ne (fun e => absurd e.1 (by decide)), cp_ne (fun e => absurd e.1 (by decide)), cp_ne (fun e => absurd e.1 (by decide)), cp_ne (fun e => absurd e.1 (by decide)), z0, z100, cp_in ⟨k0, k1, by decide⟩]
    rfl
  · intro k k0 k1
    simp only [bnd, z0, z3, z60, z100]
    refine ⟨?_, ?_, ?_, ?_, ?_⟩
    · rw [cp_ne (fun e => absurd e.1 (by decide)), cp_ne (fun e => absurd e.1 (by decide)), cp_ne (fun e => absurd e.1 (by decide)), cp_ne (fun e => absurd e.1 (by decide)), cp_ne (fun e => absurd e.1 (by decide)), cp_in ⟨k0, k1, by decide⟩, cp_ne (fun e => absurd e.1 (by decide))]
      rfl
    · rw [cp_ne (fun e => absurd e.1 (by decide)), cp_ne (fun e => absurd e.1 (by decide)), cp_ne (fun e => absurd e.1 (by decide)), cp_ne (fun e => absurd e.1 (by decide)), cp_in ⟨k0, k1, by decide⟩, cp_ne (fun e => absurd e.1 (by decide)), cp_ne (fun e => absurd e.1 (by decide))]
      rfl
    · rw [cp_ne (fun e => absurd e.1 (by decide)), cp_ne (fun e => absurd e.1 (by decide)), cp_ne (fun e => absurd e.1 (by decide)), cp_in ⟨k0, k1, by decide⟩, cp_ne (fun e => absurd e.1 (by decide)), cp_ne (fun e => absurd e.1 (by decide)), cp_ne (fun e => absurd e.1 (by decide))]
      rfl
    · rw [cp_ne (fun e => absurd e.1 (by decide)), cp_ne (fun e => absurd e.1 (by decide)), cp_in ⟨k0, k1, by decide⟩, cp_ne (fun e => absurd e.1 (by decide)), cp_ne (fun e => absurd e.1 (by decide)), cp_ne (fun e => absurd e.1 (by decide)), cp_ne (fun e => absurd e.1 (by decide))]
      rfl
    · rw [cp_ne (fun e => absurd e.1 (by decide)), cp_in ⟨k0, k1, by decide⟩, cp_ne (fun e => absurd e.1 (by decide)), cp_ne (fun e => absurd e.1 (by decide)), cp_ne (fun e => absurd e.1 (by decide)), cp_ne (fun e => absurd e.1 (by decide)), cp_ne (fun e => absurd e.1 (by decide))]
      rfl
theorem CG.fr {S : Nat → Nat → Prop} {o : Nat} {g : SG} {δ δ' : Dl} (h : CG o δ g) (F : Fr S δ δ') (n : ∀ f, 70 ≤ f → f ≤ 79 → ¬ S f o) : CG o δ' g := by
  have f := fun g h1 h2 => F.2 g o (n g h1 h2)
  unfold CG at h ⊢
  rw [(f 70 (by decide) (by decide)).1, (f 71 (by decide) (by decide)).1, (f 72 (by decide) (by decide)).1, (f 73 (by decide) (by decide)).2, (f 74 (by decide) (by decide)).2, (f 75 (by decide) (by decide)).2, (f 76 (by decide) (by decide)).2, (f 77 (by decide) (by decide)).2, (f 78 (by decide) (by decide)).2]
  exact h
theorem MG.fr {S : Nat → Nat → Prop} {k : Int} {g : SG} {δ δ' : Dl} (h : MG k δ g) (F : Fr S δ δ') (n : ∀ f, 110 ≤ f → f ≤ 116 → ¬ S f 23) : MG k δ' g := by
  have f := fun g h1 h2 => (F.2 g 23 (n g h1 h2)).2
  unfold MG at h ⊢
  rw [f 110 (by decide) (by decide), f 111 (by decide) (by decide), f 112 (by decide) (by decide), f 113 (by decide) (by decide), f 114 (by decide) (by decide), f 115 (by decide) (by decide), f 116 (by decide) (by decide)]
  exact h
/-- the copy of a stage is that stage -/
theorem c_stcopyG {s o : Nat} (hos : o ≠ s) {δ : Dl} {g : SG} (wg : WG g) (h : CG o δ g) : ∃ δ', F_St_copyFrom s o δ = some δ' ∧ CG s δ' g ∧ Fr (fun g b => b = s ∧ 70 ≤ g ∧ g ≤ 79) δ δ' := by
  obtain ⟨δ', e, F, ⟨a1, a2, a3⟩, a4, a5⟩ := c_stcopy hos δ
  have hw := wg.1
  have hh := wg.2.1
  have ha := wg.2.2.1
  refine ⟨δ', e, ⟨a1.trans h.1, a2.trans h.2.1, a3.trans h.2.2.1, fun x y x0 x1 y0 y1 => (a4 _ (by omega) (by omega)).trans (h.2.2.2.1 x y x0 x1 y0 y1), fun k k0 k1 kb => (a4 k k0 k1).trans (h.2.2.2.2.1 k k0 k1 kb), fun i i0 i1 => ?_⟩, F⟩
  obtain ⟨b1, b2, b3, b4, b5⟩ := a5 i i0 (by omega)
  obtain ⟨c1, c2, c3, c4, c5⟩ := h.2.2.2.2.2 i i0 i1
  exact ⟨b1.trans c1, b2.trans c2, b3.trans c3, b4.trans c4, b5.trans c5⟩
/-- a program is copied -/
theorem c_pcopy {p o : Nat} (hop : o ≠ p) {δ : Dl} {v : PG} (W : PW v) (h : CP o δ v) : ∃ δ', F_Pr_copyFrom p o δ = some δ' ∧ CP p δ' v ∧ Fr (fun g b => b = p ∧ 30 ≤ g ∧ g ≤ 34) δ δ' := by
  have hN := W.1
  have hM := W.2.1
  have z0 : (0 : Int32) = zi 0 := zl 0
  have z30 : (30 : Int32) = zi 30 := zl 30
  have z150 : (150 : Int32) = zi 150 := zl 150
  refine ⟨_, rfl, ⟨?_, ?_, ?_, ?_, ?_⟩, ?_⟩
  · simp only [bnd, cp_1, q1I, hop, and_false, if_false, and_true, if_true, Nat.reduceEqDiff, ↓reduceIte, and_self]
    exact h.1
  · simp only [bnd, cp_1, q1I, hop, and_false, if_false, and_true, if_true, Nat.reduceEqDiff, ↓reduceIte, and_self]
    exact h.2.1
  · intro b j b0 b1 j0 j1
    simp only [bnd, z0, z30, z150]
    rw [cp_ne (fun e => absurd e.1 (by decide)), cp_ne (fun e => absurd e.1 (by decide)), cp_in ⟨by omega, by omega, by decide⟩]
    exact h.2.2.1 b j b0 b1 j0 j1
  · intro b j b0 b1 j0 j1
    simp only [bnd, z0, z30, z150]
    rw [cp_ne (fun e => absurd e.1 (by decide)), cp_in ⟨by omega, by omega, by decide⟩, cp_ne (fun e => absurd e.1 (by decide))]
    exact h.2.2.2.1 b j b0 b1 j0 j1
  · intro b j b0 b1 j0 j1
    simp only [bnd, z0, z30, z150]
    rw [cp_in ⟨by omega, by omega, by decide⟩, cp_ne (fun e => absurd e.1 (by decide)), cp_ne (fun e => absurd e.1 (by decide))]
    exact h.2.2.2.2 b j b0 b1 j0 j1
  · exact ((((Fr.rf.sI ⟨rfl, by decide⟩).sI ⟨rfl, by decide⟩).cp ⟨rfl, by decide⟩).cp ⟨rfl, by decide⟩).cp ⟨rfl, by decide⟩
/-! the reference's start -/
section SM
variable {δm : Dl} {k : Int}
theorem m_st1 (hk : 0 ≤ k ∧ k ≤ 4) : ∀ (n : Nat) (i : Int) (fu : Nat) (δ : Dl), 0 ≤ i → i ≤ 64 → (64 - i).toNat ≤ n → n < fu → ∃ δ', F_M_starts_17 (zi k) fu (zi i) δ = F_M_starts_48 (zi k) FU (zi 0) δ' ∧ Fr (fun g _ => g = 133) δ δ' ∧ ∀ j, 0 ≤ j → j < 64 → δ'.2.1 133 23 (zi j) = if i ≤ j then δ.2.1 112 23 (zi (64 * k + j)) else δ.2.1 133 23 (zi j) := by
  intro n
  have done : ∀ (fu : Nat) (δ : Dl), 0 < fu → ∃ δ', F_M_starts_17 (zi k) fu (zi 64) δ = F_M_starts_48 (zi k) FU (zi 0) δ' ∧ Fr (fun g _ => g = 133) δ δ' ∧ ∀ j, 0 ≤ j → j < 64 → δ'.2.1 133 23 (zi j) = if (64 : Int) ≤ j then δ.2.1 112 23 (zi (64 * k + j)) else δ.2.1 133 23 (zi j) := by
    intro fu δ hf
    obtain ⟨fu, rfl⟩ : ∃ q, fu = q + 1 := ⟨fu - 1, by omega⟩
    refine ⟨δ, ?_, Fr.rf, fun j j0 j1 => by rw [if_neg (by omega)]⟩
    simp (disch := omega) only [F_M_starts_17, F_M_starts_17_b, ↓reduceIte, inb, zl, zi_add, zi_sub, zi_mul, zi_neg, zi_le_t, zi_le_f, zi_lt_t, zi_lt_f, zi_eq_t, zi_eq_f, if_true, if_false, ite_true, ite_false, true_and, and_true, false_and, and_false, not_true_eq_false, not_false_eq_true, true_or, or_true, false_or, or_false, and_self, ge_iff_le, gt_iff_lt]
  induction n with
  | zero => intro i fu δ i0 i1 hn hf; have : i = 64 := by omega
            subst this; exact done fu δ hf
  | succ n ih =>
    intro i fu δ i0 i1 hn hf
    by_cases q : i = 64
    · subst q; exact done fu δ (by omega)
    · obtain ⟨fu, rfl⟩ : ∃ q, fu = q + 1 := ⟨fu - 1, by omega⟩
      obtain ⟨δ', e, F, r⟩ := ih (i + 1) fu (sA δ 133 23 (zi i) (δ.2.1 112 23 (zi (64 * k + i)))) (by omega) (by omega) (by omega) (by omega)
      refine ⟨δ', ?_, (Fr.sA (S := fun g _ => g = 133) Fr.rf rfl).tr F, fun j j0 j1 => ?_⟩
      · rw [← e]
        simp (disch := omega) only [F_M_starts_17, F_M_starts_17_b, ↓bnd_eq, bd2, bn2, Option.bind_some, Option.bind_none, ↓reduceIte, inb, zl, zi_add, zi_sub, zi_mul, zi_neg, zi_le_t, zi_le_f, zi_lt_t, zi_lt_f, zi_eq_t, zi_eq_f, if_true, if_false, ite_true, ite_false, true_and, and_true, false_and, and_false, not_true_eq_false, not_false_eq_true, true_or, or_true, false_or, or_false, and_self, ge_iff_le, gt_iff_lt]
      · rw [r j j0 j1, rA (by decide), rAi]
        by_cases q1 : i + 1 ≤ j
        · rw [if_pos q1, if_pos (by omega)]
        · rw [if_neg q1]
          by_cases q2 : j = i
          · rw [if_pos (by rw [q2]), if_pos (by omega), q2]
          · rw [if_neg (fun e => q2 (zi_inj e (by omega) (by omega))), if_neg (by omega)]
theorem m_st2 (hk : 0 ≤ k ∧ k ≤ 4) : ∀ (n : Nat) (i : Int) (fu : Nat) (δ : Dl), 0 ≤ i → i ≤ 3 → (3 - i).toNat ≤ n → n < fu → ∃ δ', F_M_starts_48 (zi k) fu (zi i) δ = F_M_starts_130 (zi k) FU (zi 0) δ' ∧ Fr (fun g _ => 134 ≤ g ∧ g ≤ 139) δ δ' ∧ ∀ j, 0 ≤ j → j < 3 → δ'.2.1 134 23 (zi j) = (if i ≤ j then δ.2.1 114 23 (zi (3 * k + j)) else δ.2.1 134 23 (zi j)) ∧ δ'.2.1 135 23 (zi j) = (if i ≤ j then δ.2.1 115 23 (zi (3 * k + j)) else δ.2.1 135 23 (zi j)) ∧ δ'.2.1 136 23 (zi j) = (if i ≤ j then δ.2.1 116 23 (zi (3 * k + j)) else δ.2.1 136 23 (zi j)) ∧ δ'.2.1 137 23 (zi j) = (if i ≤ j then zi 0 else δ.2.1 137 23 (zi j)) ∧ δ'.2.1 138 23 (zi j) = (if i ≤ j then zi 0 else δ.2.1 138 23 (zi j)) ∧ δ'.2.1 139 23 (zi j) = (if i ≤ j then zi (-1) else δ.2.1 139 23 (zi j)) := by
  intro n
  have done : ∀ (fu : Nat) (δ : Dl), 0 < fu → ∃ δ', F_M_starts_48 (zi k) fu (zi 3) δ = F_M_starts_130 (zi k) FU (zi 0) δ' ∧ Fr (fun g _ => 134 ≤ g ∧ g ≤ 139) δ δ' ∧ ∀ j, 0 ≤ j → j < 3 → δ'.2.1 134 23 (zi j) = (if (3 : Int) ≤ j then δ.2.1 114 23 (zi (3 * k + j)) else δ.2.1 134 23 (zi j)) ∧ δ'.2.1 135 23 (zi j) = (if (3 : Int) ≤ j then δ.2.1 115 23 (zi (3 * k + j)) else δ.2.1 135 23 (zi j)) ∧ δ'.2.1 136 23 (zi j) = (if (3 : Int) ≤ j then δ.2.1 116 23 (zi (3 * k + j)) else δ.2.1 136 23 (zi j)) ∧ δ'.2.1 137 23 (zi j) = (if (3 : Int) ≤ j then zi 0 else δ.2.1 137 23 (zi j)) ∧ δ'.2.1 138 23 (zi j) = (if (3 : Int) ≤ j then zi 0 else δ.2.1 138 23 (zi j)) ∧ δ'.2.1 139 23 (zi j) = (if (3 : Int) ≤ j then zi (-1) else δ.2.1 139 23 (zi j)) := by
    intro fu δ hf
    obtain ⟨fu, rfl⟩ : ∃ q, fu = q + 1 := ⟨fu - 1, by omega⟩
    refine ⟨δ, ?_, Fr.rf, fun j j0 j1 => ?_⟩
    · simp (disch := omega) only [F_M_starts_48, F_M_starts_48_b, ↓reduceIte, inb, zl, zi_add, zi_sub, zi_mul, zi_neg, zi_le_t, zi_le_f, zi_lt_t, zi_lt_f, zi_eq_t, zi_eq_f, if_true, if_false, ite_true, ite_false, true_and, and_true, false_and, and_false, not_true_eq_false, not_false_eq_true, true_or, or_true, false_or, or_false, and_self, ge_iff_le, gt_iff_lt]
    · simp only [if_neg (show ¬ (3 : Int) ≤ j by omega), and_self]
  induction n with
  | zero =>
    intro i fu δ i0 i1 hn hf
    have : i = 3 := by omega
    subst this
    exact done fu δ hf
  | succ n ih =>
    intro i fu δ i0 i1 hn hf
    by_cases q : i = 3
    · subst q; exact done fu δ (by omega)
    · obtain ⟨fu, rfl⟩ : ∃ q, fu = q + 1 := ⟨fu - 1, by omega⟩
      obtain ⟨δ', e, F, r⟩ := ih (i + 1) fu (sA (sA (sA (sA (sA (sA δ 134 23 (zi i) (δ.2.1 114 23 (zi (3 * k + i)))) 135 23 (zi i) (δ.2.1 115 23 (zi (3 * k + i)))) 136 23 (zi i) (δ.2.1 116 23 (zi (3 * k + i)))) 137 23 (zi i) (zi 0)) 138 23 (zi i) (zi 0)) 139 23 (zi i) (zi (-1))) (by omega) (by omega) (by omega) (by omega)
      refine ⟨δ', ?_, (((((((Fr.rf (S := fun g _ => 134 ≤ g ∧ g ≤ 139)).sA (by decide)).sA (by decide)).sA (by decide)).sA (by decide)).sA (by decide)).sA (by decide)).tr F, fun j j0 j1 => ?_⟩
      · rw [← e]
        simp (disch := omega) only [F_M_starts_48, F_M_starts_48_b, ↓bnd_eq, bd2, bn2, Option.bind_some, Option.bind_none, q2A, Nat.reduceEqDiff,  ↓reduceIte, inb, zl, zi_add, zi_sub, zi_mul, zi_neg, zi_le_t, zi_le_f, zi_lt_t, zi_lt_f, zi_eq_t, zi_eq_f, if_true, if_false, ite_true, ite_false, true_and, and_true, false_and, and_false, not_true_eq_false, not_false_eq_true, true_or, or_true, false_or, or_false, and_self, ge_iff_le, gt_iff_lt]
      · have r := r j j0 j1
        by_cases q1 : i + 1 ≤ j
        · simp only [if_pos q1] at r
          simp only [if_pos (show i ≤ j by omega)]
          exact r
        · simp only [if_neg q1] at r
          by_cases q2 : j = i
          · subst q2
            simp only [if_pos (Int.le_refl j)]
            simp only [q2A, Nat.reduceEqDiff, false_and, and_self, if_true, if_false, ↓reduceIte, true_and] at r
            exact r
          · have hne : ¬ zi j = zi i := fun e => q2 (zi_inj e (by omega) (by omega))
            simp only [if_neg (show ¬ i ≤ j by omega)]
            simp only [rAn hne] at r
            exact r
theorem m_st3 (hk : 0 ≤ k ∧ k ≤ 4) : ∀ (n : Nat) (i : Int) (fu : Nat) (δ : Dl), 0 ≤ i → i ≤ 6 → (6 - i).toNat ≤ n → n < fu → ∃ δ', F_M_starts_130 (zi k) fu (zi i) δ = F_M_starts_165 (zi k) FU (zi 0) δ' ∧ Fr (fun g _ => 141 ≤ g ∧ g ≤ 143) δ δ' ∧ ∀ j, 0 ≤ j → j < 6 → δ'.2.1 141 23 (zi j) = (if i ≤ j then zi 0 else δ.2.1 141 23 (zi j)) ∧ δ'.2.1 142 23 (zi j) = (if i ≤ j then zi (-1) else δ.2.1 142 23 (zi j)) ∧ δ'.2.1 143 23 (zi j) = (if i ≤ j then zi 0 else δ.2.1 143 23 (zi j)) := by
  intro n
  have done : ∀ (fu : Nat) (δ : Dl), 0 < fu → ∃ δ', F_M_starts_130 (zi k) fu (zi 6) δ = F_M_starts_165 (zi k) FU (zi 0) δ' ∧ Fr (fun g _ => 141 ≤ g ∧ g ≤ 143) δ δ' ∧ ∀ j, 0 ≤ j → j < 6 → δ'.2.1 141 23 (zi j) = (if (6 : Int) ≤ j then zi 0 else δ.2.1 141 23 (zi j)) ∧ δ'.2.1 142 23 (zi j) = (if (6 : Int) ≤ j then zi (-1) else δ.2.1 142 23 (zi j)) ∧ δ'.2.1 143 23 (zi j) = (if (6 : Int) ≤ j then zi 0 else δ.2.1 143 23 (zi j)) := by
    intro fu δ hf
    obtain ⟨fu, rfl⟩ : ∃ q, fu = q + 1 := ⟨fu - 1, by omega⟩
    refine ⟨δ, ?_, Fr.rf, fun j j0 j1 => ?_⟩
    · simp (disch := omega) only [F_M_starts_130, F_M_starts_130_b, ↓reduceIte, inb, zl, zi_add, zi_sub, zi_mul, zi_neg, zi_le_t, zi_le_f, zi_lt_t, zi_lt_f, zi_eq_t, zi_eq_f, if_true, if_false, ite_true, ite_false, true_and, and_true, false_and, and_false, not_true_eq_false, not_false_eq_true, true_or, or_true, false_or, or_false, and_self, ge_iff_le, gt_iff_lt]
    · simp only [if_neg (show ¬ (6 : Int) ≤ j by omega), and_self]
  induction n with
  | zero =>
    intro i fu δ i0 i1 hn hf
    have : i = 6 := by omega
    subst this
    exact done fu δ hf
  | succ n ih =>
    intro i fu δ i0 i1 hn hf
    by_cases q : i = 6
    · subst q; exact done fu δ (by omega)
    · obtain ⟨fu, rfl⟩ : ∃ q, fu = q + 1 := ⟨fu - 1, by omega⟩
      obtain ⟨δ', e, F, r⟩ := ih (i + 1) fu (sA (sA (sA δ 141 23 (zi i) (zi 0)) 142 23 (zi i) (zi (-1))) 143 23 (zi i) (zi 0)) (by omega) (by omega) (by omega) (by omega)
      refine ⟨δ', ?_, ((((Fr.rf (S := fun g _ => 141 ≤ g ∧ g ≤ 143)).sA (by decide)).sA (by decide)).sA (by decide)).tr F, fun j j0 j1 => ?_⟩
      · rw [← e]
        simp (disch := omega) only [F_M_starts_130, F_M_starts_130_b, ↓bnd_eq, bd2, bn2, Option.bind_some, Option.bind_none, q2A, Nat.reduceEqDiff,  ↓reduceIte, inb, zl, zi_add, zi_sub, zi_mul, zi_neg, zi_le_t, zi_le_f, zi_lt_t, zi_lt_f, zi_eq_t, zi_eq_f, if_true, if_false, ite_true, ite_false, true_and, and_true, false_and, and_false, not_true_eq_false, not_false_eq_true, true_or, or_true, false_or, or_false, and_self, ge_iff_le, gt_iff_lt]
      · have r := r j j0 j1
        by_cases q1 : i + 1 ≤ j
        · simp only [if_pos q1] at r
          simp only [if_pos (show i ≤ j by omega)]
          exact r
        · simp only [if_neg q1] at r
          by_cases q2 : j = i
          · subst q2
            simp only [if_pos (Int.le_refl j)]
            simp only [q2A, Nat.reduceEqDiff, false_and, and_self, if_true, if_false, ↓reduceIte, true_and] at r
            exact r
          · have hne : ¬ zi j = zi i := fun e => q2 (zi_inj e (by omega) (by omega))
            simp only [if_neg (show ¬ i ≤ j by omega)]
            simp only [rAn hne] at r
            exact r
theorem z00' : zi 0 &&& zi 1 = zi 0 := by decide
theorem m_st4 (hk : 0 ≤ k ∧ k ≤ 4) : ∀ (n : Nat) (i : Int) (fu : Nat) (δ : Dl), 0 ≤ i → i ≤ 4 → (4 - i).toNat ≤ n → n < fu → ∃ δ', F_M_starts_165 (zi k) fu (zi i) δ = some δ' ∧ Fr (fun g _ => g = 146) δ δ' ∧ ∀ j, 0 ≤ j → j < 4 → δ'.2.1 146 23 (zi j) = (if i ≤ j then zi 0 else δ.2.1 146 23 (zi j)) := by
  intro n
  have done : ∀ (fu : Nat) (δ : Dl), 0 < fu → ∃ δ', F_M_starts_165 (zi k) fu (zi 4) δ = some δ' ∧ Fr (fun g _ => g = 146) δ δ' ∧ ∀ j, 0 ≤ j → j < 4 → δ'.2.1 146 23 (zi j) = (if (4 : Int) ≤ j then zi 0 else δ.2.1 146 23 (zi j)) := by
    intro fu δ hf
    obtain ⟨fu, rfl⟩ : ∃ q, fu = q + 1 := ⟨fu - 1, by omega⟩
    refine ⟨δ, ?_, Fr.rf, fun j j0 j1 => ?_⟩
    · simp (disch := omega) only [F_M_starts_165, F_M_starts_165_b, ↓reduceIte, inb, zl, zi_add, zi_sub, zi_mul, zi_neg, zi_le_t, zi_le_f, zi_lt_t, zi_lt_f, zi_eq_t, zi_eq_f, if_true, if_false, ite_true, ite_false, true_and, and_true, false_and, and_false, not_true_eq_false, not_false_eq_true, true_or, or_true, false_or, or_false, and_self, ge_iff_le, gt_iff_lt]
    · simp only [if_neg (show ¬ (4 : Int) ≤ j by omega), and_self]
  induction n with
  | zero =>
    intro i fu δ i0 i1 hn hf
    have : i = 4 := by omega
    subst this
    exact done fu δ hf
  | succ n ih =>
    intro i fu δ i0 i1 hn hf
    by_cases q : i = 4
    · subst q; exact done fu δ (by omega)
    · obtain ⟨fu, rfl⟩ : ∃ q, fu = q + 1 := ⟨fu - 1, by omega⟩
      obtain ⟨δ', e, F, r⟩ := ih (i + 1) fu (sA δ 146 23 (zi i) (zi 0)) (by omega) (by omega) (by omega) (by omega)
      refine ⟨δ', ?_, ((Fr.rf (S := fun g _ => g = 146)).sA (by decide)).tr F, fun j j0 j1 => ?_⟩
      · rw [← e]
        simp (disch := omega) only [F_M_starts_165, F_M_starts_165_b, ↓bnd_eq, bd2, bn2, Option.bind_some, Option.bind_none, q2A, Nat.reduceEqDiff, z00', ↓reduceIte, inb, zl, zi_add, zi_sub, zi_mul, zi_neg, zi_le_t, zi_le_f, zi_lt_t, zi_lt_f, zi_eq_t, zi_eq_f, if_true, if_false, ite_true, ite_false, true_and, and_true, false_and, and_false, not_true_eq_false, not_false_eq_true, true_or, or_true, false_or, or_false, and_self, ge_iff_le, gt_iff_lt]
      · have r := r j j0 j1
        by_cases q1 : i + 1 ≤ j
        · simp only [if_pos q1] at r
          simp only [if_pos (show i ≤ j by omega)]
          exact r
        · simp only [if_neg q1] at r
          by_cases q2 : j = i
          · subst q2
            simp only [if_pos (Int.le_refl j)]
            simp only [q2A, Nat.reduceEqDiff, false_and, and_self, if_true, if_false, ↓reduceIte, true_and] at r
            exact r
          · have hne : ¬ zi j = zi i := fun e => q2 (zi_inj e (by omega) (by omega))
            simp only [if_neg (show ¬ i ≤ j by omega)]
            simp only [rAn hne] at r
            exact r
/-- a start of the reference -/
theorem m_starts (hk : 0 ≤ k ∧ k ≤ 4) (δ : Dl) : ∃ δ', F_M_starts (zi k) δ = some δ' ∧ Fr (fun g _ => 131 ≤ g ∧ g ≤ 148) δ δ' ∧ δ'.1 131 23 = zi k ∧ δ'.1 132 23 = zi 0 ∧ δ'.1 148 23 = zi 0 ∧
    (∀ j, 0 ≤ j → j < 64 → δ'.2.1 133 23 (zi j) = δ.2.1 112 23 (zi (64 * k + j))) ∧
    (∀ j, 0 ≤ j → j < 3 → δ'.2.1 134 23 (zi j) = δ.2.1 114 23 (zi (3 * k + j)) ∧ δ'.2.1 135 23 (zi j) = δ.2.1 115 23 (zi (3 * k + j)) ∧ δ'.2.1 136 23 (zi j) = δ.2.1 116 23 (zi (3 * k + j)) ∧ δ'.2.1 137 23 (zi j) = zi 0 ∧ δ'.2.1 138 23 (zi j) = zi 0 ∧ δ'.2.1 139 23 (zi j) = zi (-1)) ∧
    (∀ j, 0 ≤ j → j < 6 → δ'.2.1 141 23 (zi j) = zi 0 ∧ δ'.2.1 142 23 (zi j) = zi (-1) ∧ δ'.2.1 143 23 (zi j) = zi 0) ∧ (∀ j, 0 ≤ j → j < 4 → δ'.2.1 146 23 (zi j) = zi 0) := by
  obtain ⟨d1, e1, F1, r1⟩ := m_st1 hk 64 0 FU (sI (sI (sI δ 131 23 (zi k)) 132 23 (zi 0)) 148 23 (zi 0)) (by omega) (by omega) (by omega) (by unfold FU; omega)
  obtain ⟨d2, e2, F2, r2⟩ := m_st2 hk 3 0 FU d1 (by omega) (by omega) (by omega) (by unfold FU; omega)
  obtain ⟨d3, e3, F3, r3⟩ := m_st3 hk 6 0 FU d2 (by omega) (by omega) (by omega) (by unfold FU; omega)
  obtain ⟨d4, e4, F4, r4⟩ := m_st4 hk 4 0 FU d3 (by omega) (by omega) (by omega) (by unfold FU; omega)
  have z0 : (0 : Int32) = zi 0 := zl 0
  have e : F_M_starts (zi k) δ = some d4 := by
    unfold F_M_starts
    rw [bnd_eq, bnd_eq, bnd_eq, z0, e1, e2, e3, e4]
  have F0 : Fr (fun g _ => 131 ≤ g ∧ g ≤ 148) δ (sI (sI (sI δ 131 23 (zi k)) 132 23 (zi 0)) 148 23 (zi 0)) := ((Fr.rf.sI (by decide)).sI (by decide)).sI (by decide)
  have G1 : Fr (fun g _ => 131 ≤ g ∧ g ≤ 148) _ d1 := F1.to (fun x y e => by omega)
  have G2 : Fr (fun g _ => 131 ≤ g ∧ g ≤ 148) _ d2 := F2.to (fun x y e => by omega)
  have G3 : Fr (fun g _ => 131 ≤ g ∧ g ≤ 148) _ d3 := F3.to (fun x y e => by omega)
  have G4 : Fr (fun g _ => 131 ≤ g ∧ g ≤ 148) _ d4 := F4.to (fun x y e => by omega)
  have n1 : ∀ f, f = 131 ∨ f = 132 ∨ f = 148 → d4.1 f 23 = (sI (sI (sI δ 131 23 (zi k)) 132 23 (zi 0)) 148 23 (zi 0)).1 f 23 := fun f hf => by
    rw [(F4.2 f 23 (fun e => by omega)).1, (F3.2 f 23 (fun e => by omega)).1, (F2.2 f 23 (fun e => by omega)).1, (F1.2 f 23 (fun e => by omega)).1]
  refine ⟨d4, e, (((F0.tr G1).tr G2).tr G3).tr G4, ?_, ?_, ?_, fun j j0 j1 => ?_, fun j j0 j1 => ?_, fun j j0 j1 => ?_, fun j j0 j1 => ?_⟩
  · rw [n1 131 (by decide)]; rfl
  · rw [n1 132 (by decide)]; rfl
  · rw [n1 148 (by decide)]; rfl
  · have := r1 j j0 j1
    rw [(F4.2 133 23 (fun e => by omega)).2, (F3.2 133 23 (fun e => by omega)).2, (F2.2 133 23 (fun e => by omega)).2, this, if_pos j0]
    rfl
  · have := r2 j j0 j1
    simp only [if_pos j0] at this
    rw [(F4.2 134 23 (fun e => by omega)).2, (F3.2 134 23 (fun e => by omega)).2, (F4.2 135 23 (fun e => by omega)).2, (F3.2 135 23 (fun e => by omega)).2, (F4.2 136 23 (fun e => by omega)).2, (F3.2 136 23 (fun e => by omega)).2, (F4.2 137 23 (fun e => by omega)).2, (F3.2 137 23 (fun e => by omega)).2, (F4.2 138 23 (fun e => by omega)).2, (F3.2 138 23 (fun e => by omega)).2, (F4.2 139 23 (fun e => by omega)).2, (F3.2 139 23 (fun e => by omega)).2]
    rw [(F1.2 114 23 (fun e => by omega)).2, (F1.2 115 23 (fun e => by omega)).2, (F1.2 116 23 (fun e => by omega)).2] at this
    exact this
  · have := r3 j j0 j1
    simp only [if_pos j0] at this
    rw [(F4.2 141 23 (fun e => by omega)).2, (F4.2 142 23 (fun e => by omega)).2, (F4.2 143 23 (fun e => by omega)).2]
    exact this
  · have := r4 j j0 j1
    simp only [if_pos j0] at this
    exact this
end SM
section BG
variable {a p s : Nat} {v : PG} {g : SG} {δc δm : Dl} {k : Int}
abbrev SBc (a s : Nat) : Nat → Nat → Prop := fun g b => (b = s ∧ 70 ≤ g ∧ g ≤ 79) ∨ (b = a ∧ 42 ≤ g ∧ g ≤ 53)
abbrev SBm : Nat → Nat → Prop := fun g _ => (131 ≤ g ∧ g ≤ 151) ∨ g = 174
/-- a run begins, on both sides -/
theorem lk_begin (W : PW v) (wg : WG g) (hp : wsr 40 a = p) (hs : wsr 41 a = s) {o : Nat} (hos : o ≠ s) (C : CP p δc v) (M : MP δm v) (G : CG o δc g) (Gm : MG k δm g) (hk : 0 ≤ k ∧ k ≤ 4) :
    ∃ δc' δm', F_Ru_begin a o δc = some δc' ∧ F_M_starts (zi k) δm = some δm' ∧ RR0 a p s v g k 0 0 δc' δm' ∧ δc'.1 42 a = zi 1 ∧ Fr (SBc a s) δc δc' ∧ Fr SBm δm δm' := by
  have hw := wg.1
  have hh := wg.2.1
  have ha := wg.2.2.1
  obtain ⟨d0, e0, G0, F0⟩ := c_stcopyG hos wg G
  obtain ⟨dm, em, Fm, m1, m2, m3, m4, m5, m6, m7⟩ := m_starts hk δm
  have z0 : (0 : Int32) = zi 0 := zl 0
  have z1 : (1 : Int32) = zi 1 := zl 1
  have z6 : (6 : Int32) = zi 6 := zl 6
  have z30 : (30 : Int32) = zi 30 := zl 30
  have zm : (-1 : Int32) = zi (-1) := by decide
  have ec : F_Ru_begin a o δc = some (sW (sW (sW (sW (sI (sI (sI (sI (sI (sI d0 42 a (zi 1)) 43 a (zi 0)) 44 a (zi 0)) 51 a (zi 0)) 52 a (zi 0)) 53 a (zi 0)) 46 a (fr1 (d0.2.1 46 a) 0 6 (zi 0))) 47 a (fr1 (d0.2.1 47 a) 0 6 (zi (-1)))) 49 a (fr1 (d0.2.1 49 a) 0 6 (zi 0))) 50 a (fr1 (d0.2.1 50 a) 0 30 (zi 0))) := by
    unfold F_Ru_begin
    rw [hs, e0, Option.bind_some]
    simp only [bnd_eq, z0, z1, z6, z30, zm]
    rw [fill2 (by omega), Option.bind_some, fill2 (by omega), Option.bind_some, fill2 (by omega), Option.bind_some, fill2 (by omega), Option.bind_some]
    rfl
  have Fc : Fr (SBc a s) d0 (sW (sW (sW (sW (sI (sI (sI (sI (sI (sI d0 42 a (zi 1)) 43 a (zi 0)) 44 a (zi 0)) 51 a (zi 0)) 52 a (zi 0)) 53 a (zi 0)) 46 a (fr1 (d0.2.1 46 a) 0 6 (zi 0))) 47 a (fr1 (d0.2.1 47 a) 0 6 (zi (-1)))) 49 a (fr1 (d0.2.1 49 a) 0 6 (zi 0))) 50 a (fr1 (d0.2.1 50 a) 0 30 (zi 0))) :=
    (((((((((Fr.rf.sI (Or.inr ⟨rfl, by decide, by decide⟩)).sI (Or.inr ⟨rfl, by decide, by decide⟩)).sI (Or.inr ⟨rfl, by decide, by decide⟩)).sI (Or.inr ⟨rfl, by decide, by decide⟩)).sI (Or.inr ⟨rfl, by decide, by decide⟩)).sI (Or.inr ⟨rfl, by decide, by decide⟩)).sW (Or.inr ⟨rfl, by decide, by decide⟩)).sW (Or.inr ⟨rfl, by decide, by decide⟩)).sW (Or.inr ⟨rfl, by decide, by decide⟩)).sW (Or.inr ⟨rfl, by decide, by decide⟩)
  have Fc2 : Fr (fun g b => b = a ∧ 42 ≤ g ∧ g ≤ 53) d0 (sW (sW (sW (sW (sI (sI (sI (sI (sI (sI d0 42 a (zi 1)) 43 a (zi 0)) 44 a (zi 0)) 51 a (zi 0)) 52 a (zi 0)) 53 a (zi 0)) 46 a (fr1 (d0.2.1 46 a) 0 6 (zi 0))) 47 a (fr1 (d0.2.1 47 a) 0 6 (zi (-1)))) 49 a (fr1 (d0.2.1 49 a) 0 6 (zi 0))) 50 a (fr1 (d0.2.1 50 a) 0 30 (zi 0))) :=
    (((((((((Fr.rf.sI ⟨rfl, by decide, by decide⟩).sI ⟨rfl, by decide, by decide⟩).sI ⟨rfl, by decide, by decide⟩).sI ⟨rfl, by decide, by decide⟩).sI ⟨rfl, by decide, by decide⟩).sI ⟨rfl, by decide, by decide⟩).sW ⟨rfl, by decide, by decide⟩).sW ⟨rfl, by decide, by decide⟩).sW ⟨rfl, by decide, by decide⟩).sW ⟨rfl, by decide, by decide⟩
  generalize hD : (sW (sW (sW (sW (sI (sI (sI (sI (sI (sI d0 42 a (zi 1)) 43 a (zi 0)) 44 a (zi 0)) 51 a (zi 0)) 52 a (zi 0)) 53 a (zi 0)) 46 a (fr1 (d0.2.1 46 a) 0 6 (zi 0))) 47 a (fr1 (d0.2.1 47 a) 0 6 (zi (-1)))) 49 a (fr1 (d0.2.1 49 a) 0 6 (zi 0))) 50 a (fr1 (d0.2.1 50 a) 0 30 (zi 0))) = D at ec Fc Fc2
  have G1 : CG s D g := G0.fr Fc2 (fun f h1 h2 e => by omega)
  have i42 : D.1 42 a = zi 1 := by subst hD; simp [q1I, sW]
  have i43 : D.1 43 a = zi 0 := by subst hD; simp [q1I, sW]
  have i44 : D.1 44 a = zi 0 := by subst hD; simp [q1I, sW]
  have i51 : D.1 51 a = zi 0 := by subst hD; simp [q1I, sW]
  have i52 : D.1 52 a = zi 0 := by subst hD; simp [q1I, sW]
  have r46 : ∀ j, 0 ≤ j → j < 6 → D.2.1 46 a (zi j) = zi 0 := fun j j0 j6 => by subst hD; rw [rW (by decide), rW (by decide), rW (by decide), rWi, fr1_in (by omega)]
  have r47 : ∀ j, 0 ≤ j → j < 6 → D.2.1 47 a (zi j) = zi (-1) := fun j j0 j6 => by subst hD; rw [rW (by decide), rW (by decide), rWi, fr1_in (by omega)]
  have r49 : ∀ j, 0 ≤ j → j < 6 → D.2.1 49 a (zi j) = zi 0 := fun j j0 j6 => by subst hD; rw [rW (by decide), rWi, fr1_in (by omega)]
  have Fm' : Fr SBm δm dm := Fm.to (fun x y e => Or.inl ⟨e.1, by omega⟩)
  refine ⟨D, dm, ec, em, ⟨?_, ?_, ?_, ?_, ?_, ?_, ?_⟩, i42, (F0.to (fun x y e => Or.inl e)).tr Fc, Fm'⟩
  · exact (C.fr F0 (fun f h1 h2 e => by omega)).fr Fc2 (fun f h1 h2 e => by omega)
  · exact M.fr Fm (fun f h1 h2 e => by omega)
  · exact ⟨hk, m1, by rw [(Fm.2 110 23 (fun e => by omega)).2]; exact Gm.1, by rw [(Fm.2 111 23 (fun e => by omega)).2]; exact Gm.2.1, by rw [(Fm.2 113 23 (fun e => by omega)).2]; exact Gm.2.2.1⟩
  · refine ⟨G1.1, G1.2.1, G1.2.2.1, fun x y x0 x1 y0 y1 => ?_, G1.2.2.2.2.1, fun i i0 i1 => ?_⟩
    · rw [G1.2.2.2.1 x y x0 x1 y0 y1, m4 (8 * y + x) (by omega) (by omega), Gm.2.2.2.1 x y x0 x1 y0 y1]
    · obtain ⟨q1, q2, q3, q4, q5⟩ := G1.2.2.2.2.2 i i0 i1
      obtain ⟨l1, l2, l3, l4, l5, l6⟩ := m5 i i0 (by omega)
      obtain ⟨n1, n2, n3⟩ := Gm.2.2.2.2 i i0 i1
      obtain ⟨w1, w2, w3⟩ := wg.2.2.2.2 i i0 i1
      exact ⟨g.2.2.2.2.1 i, g.2.2.2.2.2.1 i, g.2.2.2.2.2.2 i, -1, w1, w2, w3, by omega, q1, l1.trans n1, l2.trans n2, q2, l3.trans n3, q3.trans l4.symm, q4.trans l5.symm, q5, l6, fun j j0 j1 => by omega⟩
  · refine ⟨0, by omega, i51, fun c c0 c4 => ?_⟩
    rw [m7 c c0 c4]
    have := bI0 c.toNat (by omega)
    rw [Int.toNat_of_nonneg c0] at this
    exact this.symm
  · exact ⟨0, by omega, i43, m2, i44, m3, fun i i0 i1 => by omega⟩
  · intro j j0 j6
    obtain ⟨l1, l2, l3⟩ := m6 j j0 j6
    exact ⟨0, by omega, r46 j j0 j6, l1, (r47 j j0 j6).trans l2.symm, (r49 j j0 j6).trans l3.symm, fun e => absurd e (by decide)⟩
end BG
