/-! the reference saves and restores a program (wip/whole/pure) -/
def SV (k : Int) (v : PG) (m : Dl) : Prop := (∀ b, 0 ≤ b → b < v.1 → m.2.1 185 23 (zi (30 * k + b)) = zi (v.2.2.1 b 1) ∧ m.2.1 187 23 (zi (30 * k + b)) = zi (v.2.2.1 b 2) ∧ m.2.1 188 23 (zi (30 * k + b)) = zi (v.2.2.1 b 3) ∧ m.2.1 189 23 (zi (30 * k + b)) = zi (v.2.2.1 b 4)) ∧ (∀ b j, 0 ≤ b → b < v.1 → 0 ≤ j → j < 5 → m.2.1 186 23 (zi (150 * k + (5 * b + j))) = zi (v.2.2.2.1 b j)) ∧ ∀ s, 0 ≤ s → s < v.2.1 → m.2.1 190 23 (zi (6 * k + s)) = zi (v.2.2.2.2 s 4)
theorem SV.fr {S : Nat → Nat → Prop} {k : Int} {v : PG} {m m' : Dl} (h : SV k v m) (F : Fr S m m') (q : ∀ f, 185 ≤ f → f ≤ 190 → ¬ S f 23) : SV k v m' := by
  unfold SV at h ⊢
  rw [(F.2 185 23 (q 185 (by decide) (by decide))).2, (F.2 186 23 (q 186 (by decide) (by decide))).2, (F.2 187 23 (q 187 (by decide) (by decide))).2, (F.2 188 23 (q 188 (by decide) (by decide))).2, (F.2 189 23 (q 189 (by decide) (by decide))).2, (F.2 190 23 (q 190 (by decide) (by decide))).2]
  exact h
section SVS
variable {k : Int}
abbrev SSv : Nat → Nat → Prop := fun f a => a = 23 ∧ (185 ≤ f ∧ f ≤ 190)
abbrev SA1 : Nat → Nat → Prop := fun f a => a = 23 ∧ (f = 185 ∨ (187 ≤ f ∧ f ≤ 189))
abbrev SA2 : Nat → Nat → Prop := fun f a => a = 23 ∧ f = 186
abbrev SA3 : Nat → Nat → Prop := fun f a => a = 23 ∧ f = 190
abbrev SB1 : Nat → Nat → Prop := fun f a => a = 23 ∧ (f = 120 ∨ (122 ≤ f ∧ f ≤ 124))
abbrev SB2 : Nat → Nat → Prop := fun f a => a = 23 ∧ f = 121
abbrev SB3 : Nat → Nat → Prop := fun f a => a = 23 ∧ f = 130
theorem m_sv1 (hk : 0 ≤ k ∧ k ≤ 1) : ∀ (n : Nat) (i : Int) (fu : Nat) (δ : Dl), 0 ≤ i → i ≤ 30 → (30 - i).toNat ≤ n → n < fu → ∃ δ', F_M_saves_2 (zi k) fu (zi i) δ = F_M_saves_84 (zi k) FU (zi 0) δ' ∧ Fr SA1 δ δ' ∧ ∀ q, 0 ≤ q → q < 60 → δ'.2.1 185 23 (zi q) = (if 30 * k + i ≤ q ∧ q < 30 * k + 30 then δ.2.1 120 23 (zi (q - 30 * k)) else δ.2.1 185 23 (zi q)) ∧ δ'.2.1 187 23 (zi q) = (if 30 * k + i ≤ q ∧ q < 30 * k + 30 then δ.2.1 122 23 (zi (q - 30 * k)) else δ.2.1 187 23 (zi q)) ∧ δ'.2.1 188 23 (zi q) = (if 30 * k + i ≤ q ∧ q < 30 * k + 30 then δ.2.1 123 23 (zi (q - 30 * k)) else δ.2.1 188 23 (zi q)) ∧ δ'.2.1 189 23 (zi q) = (if 30 * k + i ≤ q ∧ q < 30 * k + 30 then δ.2.1 124 23 (zi (q - 30 * k)) else δ.2.1 189 23 (zi q)) := by
  intro n
  have done : ∀ (fu : Nat) (δ : Dl), 0 < fu → ∃ δ', F_M_saves_2 (zi k) fu (zi 30) δ = F_M_saves_84 (zi k) FU (zi 0) δ' ∧ Fr SA1 δ δ' ∧ ∀ q, 0 ≤ q → q < 60 → δ'.2.1 185 23 (zi q) = (if 30 * k + 30 ≤ q ∧ q < 30 * k + 30 then δ.2.1 120 23 (zi (q - 30 * k)) else δ.2.1 185 23 (zi q)) ∧ δ'.2.1 187 23 (zi q) = (if 30 * k + 30 ≤ q ∧ q < 30 * k + 30 then δ.2.1 122 23 (zi (q - 30 * k)) else δ.2.1 187 23 (zi q)) ∧ δ'.2.1 188 23 (zi q) = (if 30 * k + 30 ≤ q ∧ q < 30 * k + 30 then δ.2.1 123 23 (zi (q - 30 * k)) else δ.2.1 188 23 (zi q)) ∧ δ'.2.1 189 23 (zi q) = (if 30 * k + 30 ≤ q ∧ q < 30 * k + 30 then δ.2.1 124 23 (zi (q - 30 * k)) else δ.2.1 189 23 (zi q)) := by
    intro fu δ hf
    obtain ⟨fu, rfl⟩ : ∃ q, fu = q + 1 := ⟨fu - 1, by omega⟩
    refine ⟨δ, ?_, Fr.rf, fun q q0 q60 => ?_⟩
    · simp (disch := omega) only [F_M_saves_2, F_M_saves_2_b, ↓reduceIte, inb, zl, zi_add, zi_sub, zi_mul, zi_neg, zi_le_t, zi_le_f, zi_lt_t, zi_lt_f, zi_eq_t, zi_eq_f, if_true, if_false, ite_true, ite_false, true_and, and_true, false_and, and_false, not_true_eq_false, not_false_eq_true, true_or, or_true, false_or, or_false, and_self, ge_iff_le, gt_iff_lt]
    · simp only [if_neg (show ¬ (30 * k + 30 ≤ q ∧ q < 30 * k + 30) by omega), and_self]
  induction n with
  | zero =>
    intro i fu δ i0 i1 hn hf
    have : i = 30 := by omega
    subst this
    exact done fu δ hf
  | succ n ih =>
    intro i fu δ i0 i1 hn hf
    by_cases q : i = 30
    · subst q; exact done fu δ (by omega)
    · obtain ⟨fu, rfl⟩ : ∃ q, fu = q + 1 := ⟨fu - 1, by omega⟩
      obtain ⟨δ', e, F, r⟩ := ih (i + 1) fu (sA (sA (sA (sA δ 185 23 (zi (30 * k + i)) (δ.2.1 120 23 (zi i))) 187 23 (zi (30 * k + i)) (δ.2.1 122 23 (zi i))) 188 23 (zi (30 * k + i)) (δ.2.1 123 23 (zi i))) 189 23 (zi (30 * k + i)) (δ.2.1 124 23 (zi i))) (by omega) (by omega) (by omega) (by omega)
      refine ⟨δ', ?_, (((((Fr.rf (S := SA1)).sA ⟨rfl, by decide⟩).sA ⟨rfl, by decide⟩).sA ⟨rfl, by decide⟩).sA ⟨rfl, by decide⟩).tr F, fun q q0 q60 => ?_⟩
      · rw [← e]
        simp (disch := omega) only [F_M_saves_2, F_M_saves_2_b, ↓bnd_eq, bd2, bn2, Option.bind_some, Option.bind_none, q2A, Nat.reduceEqDiff, ↓reduceIte, inb, zl, zi_add, zi_sub, zi_mul, zi_neg, zi_le_t, zi_le_f, zi_lt_t, zi_lt_f, zi_eq_t, zi_eq_f, if_true, if_false, ite_true, ite_false, true_and, and_true, false_and, and_false, not_true_eq_false, not_false_eq_true, true_or, or_true, false_or, or_false, and_self, ge_iff_le, gt_iff_lt]
      · obtain ⟨r0, r1, r2, r3⟩ := r q q0 q60
        have key : ∀ (d s : Nat), ((sA (sA (sA (sA δ 185 23 (zi (30 * k + i)) (δ.2.1 120 23 (zi i))) 187 23 (zi (30 * k + i)) (δ.2.1 122 23 (zi i))) 188 23 (zi (30 * k + i)) (δ.2.1 123 23 (zi i))) 189 23 (zi (30 * k + i)) (δ.2.1 124 23 (zi i))).2.1 d 23 (zi q) = if zi q = zi (30 * k + i) then δ.2.1 s 23 (zi i) else δ.2.1 d 23 (zi q)) → (∀ x : Int32, (sA (sA (sA (sA δ 185 23 (zi (30 * k + i)) (δ.2.1 120 23 (zi i))) 187 23 (zi (30 * k + i)) (δ.2.1 122 23 (zi i))) 188 23 (zi (30 * k + i)) (δ.2.1 123 23 (zi i))) 189 23 (zi (30 * k + i)) (δ.2.1 124 23 (zi i))).2.1 s 23 x = δ.2.1 s 23 x) → (if 30 * k + (i + 1) ≤ q ∧ q < 30 * k + 30 then (sA (sA (sA (sA δ 185 23 (zi (30 * k + i)) (δ.2.1 120 23 (zi i))) 187 23 (zi (30 * k + i)) (δ.2.1 122 23 (zi i))) 188 23 (zi (30 * k + i)) (δ.2.1 123 23 (zi i))) 189 23 (zi (30 * k + i)) (δ.2.1 124 23 (zi i))).2.1 s 23 (zi (q - 30 * k)) else (sA (sA (sA (sA δ 185 23 (zi (30 * k + i)) (δ.2.1 120 23 (zi i))) 187 23 (zi (30 * k + i)) (δ.2.1 122 23 (zi i))) 188 23 (zi (30 * k + i)) (δ.2.1 123 23 (zi i))) 189 23 (zi (30 * k + i)) (δ.2.1 124 23 (zi i))).2.1 d 23 (zi q)) = if 30 * k + i ≤ q ∧ q < 30 * k + 30 then δ.2.1 s 23 (zi (q - 30 * k)) else δ.2.1 d 23 (zi q) := by
          intro d s h1 h2
          rw [h1, h2]
          by_cases q1 : 30 * k + (i + 1) ≤ q ∧ q < 30 * k + 30
          · rw [if_pos q1, if_pos (by omega)]
          · rw [if_neg q1]
            by_cases q2 : q = 30 * k + i
            · rw [if_pos (by rw [q2]), if_pos (by omega), q2, show 30 * k + i - 30 * k = i by omega]
            · rw [if_neg (fun e => q2 (zi_inj e (by omega) (by omega))), if_neg (by omega)]
        refine ⟨?_, ?_, ?_, ?_⟩
        · rw [r0]
          exact key 185 120 (by simp only [q2A, Nat.reduceEqDiff, false_and, and_self, if_true, if_false, ↓reduceIte, true_and]) (fun x => by simp only [q2A, Nat.reduceEqDiff, false_and, and_self, if_true, if_false, ↓reduceIte, true_and])
        · rw [r1]
          exact key 187 122 (by simp only [q2A, Nat.reduceEqDiff, false_and, and_self, if_true, if_false, ↓reduceIte, true_and]) (fun x => by simp only [q2A, Nat.reduceEqDiff, false_and, and_self, if_true, if_false, ↓reduceIte, true_and])
        · rw [r2]
          exact key 188 123 (by simp only [q2A, Nat.reduceEqDiff, false_and, and_self, if_true, if_false, ↓reduceIte, true_and]) (fun x => by simp only [q2A, Nat.reduceEqDiff, false_and, and_self, if_true, if_false, ↓reduceIte, true_and])
        · rw [r3]
          exact key 189 124 (by simp only [q2A, Nat.reduceEqDiff, false_and, and_self, if_true, if_false, ↓reduceIte, true_and]) (fun x => by simp only [q2A, Nat.reduceEqDiff, false_and, and_self, if_true, if_false, ↓reduceIte, true_and])
theorem m_sv2 (hk : 0 ≤ k ∧ k ≤ 1) : ∀ (n : Nat) (i : Int) (fu : Nat) (δ : Dl), 0 ≤ i → i ≤ 150 → (150 - i).toNat ≤ n → n < fu → ∃ δ', F_M_saves_84 (zi k) fu (zi i) δ = F_M_saves_117 (zi k) FU (zi 0) δ' ∧ Fr SA2 δ δ' ∧ ∀ q, 0 ≤ q → q < 300 → δ'.2.1 186 23 (zi q) = (if 150 * k + i ≤ q ∧ q < 150 * k + 150 then δ.2.1 121 23 (zi (q - 150 * k)) else δ.2.1 186 23 (zi q)) := by
  intro n
  have done : ∀ (fu : Nat) (δ : Dl), 0 < fu → ∃ δ', F_M_saves_84 (zi k) fu (zi 150) δ = F_M_saves_117 (zi k) FU (zi 0) δ' ∧ Fr SA2 δ δ' ∧ ∀ q, 0 ≤ q → q < 300 → δ'.2.1 186 23 (zi q) = (if 150 * k + 150 ≤ q ∧ q < 150 * k + 150 then δ.2.1 121 23 (zi (q - 150 * k)) else δ.2.1 186 23 (zi q)) := by
    intro fu δ hf
    obtain ⟨fu, rfl⟩ : ∃ q, fu = q + 1 := ⟨fu - 1, by omega⟩
    refine ⟨δ, ?_, Fr.rf, fun q q0 q60 => ?_⟩
    · simp (disch := omega) only [F_M_saves_84, F_M_saves_84_b, ↓reduceIte, inb, zl, zi_add, zi_sub, zi_mul, zi_neg, zi_le_t, zi_le_f, zi_lt_t, zi_lt_f, zi_eq_t, zi_eq_f, if_true, if_false, ite_true, ite_false, true_and, and_true, false_and, and_false, not_true_eq_false, not_false_eq_true, true_or, or_true, false_or, or_false, and_self, ge_iff_le, gt_iff_lt]
    · simp only [if_neg (show ¬ (150 * k + 150 ≤ q ∧ q < 150 * k + 150) by omega), and_self]
  induction n with
  | zero =>
    intro i fu δ i0 i1 hn hf
    have : i = 150 := by omega
    subst this
    exact done fu δ hf
  | succ n ih =>
    intro i fu δ i0 i1 hn hf
    by_cases q : i = 150
    · subst q; exact done fu δ (by omega)
    · obtain ⟨fu, rfl⟩ : ∃ q, fu = q + 1 := ⟨fu - 1, by omega⟩
      obtain ⟨δ', e, F, r⟩ := ih (i + 1) fu (sA δ 186 23 (zi (150 * k + i)) (δ.2.1 121 23 (zi i))) (by omega) (by omega) (by omega) (by omega)
      refine ⟨δ', ?_, ((Fr.rf (S := SA2)).sA ⟨rfl, by decide⟩).tr F, fun q q0 q60 => ?_⟩
      · rw [← e]
        simp (disch := omega) only [F_M_saves_84, F_M_saves_84_b, ↓bnd_eq, bd2, bn2, Option.bind_some, Option.bind_none, q2A, Nat.reduceEqDiff, ↓reduceIte, inb, zl, zi_add, zi_sub, zi_mul, zi_neg, zi_le_t, zi_le_f, zi_lt_t, zi_lt_f, zi_eq_t, zi_eq_f, if_true, if_false, ite_true, ite_false, true_and, and_true, false_and, and_false, not_true_eq_false, not_false_eq_true, true_or, or_true, false_or, or_false, and_self, ge_iff_le, gt_iff_lt]
      · have r0 := r q q0 q60
        have key : ∀ (d s : Nat), ((sA δ 186 23 (zi (150 * k + i)) (δ.2.1 121 23 (zi i))).2.1 d 23 (zi q) = if zi q = zi (150 * k + i) then δ.2.1 s 23 (zi i) else δ.2.1 d 23 (zi q)) → (∀ x : Int32, (sA δ 186 23 (zi (150 * k + i)) (δ.2.1 121 23 (zi i))).2.1 s 23 x = δ.2.1 s 23 x) → (if 150 * k + (i + 1) ≤ q ∧ q < 150 * k + 150 then (sA δ 186 23 (zi (150 * k + i)) (δ.2.1 121 23 (zi i))).2.1 s 23 (zi (q - 150 * k)) else (sA δ 186 23 (zi (150 * k + i)) (δ.2.1 121 23 (zi i))).2.1 d 23 (zi q)) = if 150 * k + i ≤ q ∧ q < 150 * k + 150 then δ.2.1 s 23 (zi (q - 150 * k)) else δ.2.1 d 23 (zi q) := by
          intro d s h1 h2
          rw [h1, h2]
          by_cases q1 : 150 * k + (i + 1) ≤ q ∧ q < 150 * k + 150
          · rw [if_pos q1, if_pos (by omega)]
          · rw [if_neg q1]
            by_cases q2 : q = 150 * k + i
            · rw [if_pos (by rw [q2]), if_pos (by omega), q2, show 150 * k + i - 150 * k = i by omega]
            · rw [if_neg (fun e => q2 (zi_inj e (by omega) (by omega))), if_neg (by omega)]
        rw [r0]
        exact key 186 121 (by simp only [q2A, Nat.reduceEqDiff, false_and, and_self, if_true, if_false, ↓reduceIte, true_and]) (fun x => by simp only [q2A, Nat.reduceEqDiff, false_and, and_self, if_true, if_false, ↓reduceIte, true_and])
theorem m_sv3 (hk : 0 ≤ k ∧ k ≤ 1) : ∀ (n : Nat) (i : Int) (fu : Nat) (δ : Dl), 0 ≤ i → i ≤ 6 → (6 - i).toNat ≤ n → n < fu → ∃ δ', F_M_saves_117 (zi k) fu (zi i) δ = some δ' ∧ Fr SA3 δ δ' ∧ ∀ q, 0 ≤ q → q < 12 → δ'.2.1 190 23 (zi q) = (if 6 * k + i ≤ q ∧ q < 6 * k + 6 then δ.2.1 130 23 (zi (q - 6 * k)) else δ.2.1 190 23 (zi q)) := by
  intro n
  have done : ∀ (fu : Nat) (δ : Dl), 0 < fu → ∃ δ', F_M_saves_117 (zi k) fu (zi 6) δ = some δ' ∧ Fr SA3 δ δ' ∧ ∀ q, 0 ≤ q → q < 12 → δ'.2.1 190 23 (zi q) = (if 6 * k + 6 ≤ q ∧ q < 6 * k + 6 then δ.2.1 130 23 (zi (q - 6 * k)) else δ.2.1 190 23 (zi q)) := by
    intro fu δ hf
    obtain ⟨fu, rfl⟩ : ∃ q, fu = q + 1 := ⟨fu - 1, by omega⟩
    refine ⟨δ, ?_, Fr.rf, fun q q0 q60 => ?_⟩
    · simp (disch := omega) only [F_M_saves_117, F_M_saves_117_b, ↓reduceIte, inb, zl, zi_add, zi_sub, zi_mul, zi_neg, zi_le_t, zi_le_f, zi_lt_t, zi_lt_f, zi_eq_t, zi_eq_f, if_true, if_false, ite_true, ite_false, true_and, and_true, false_and, and_false, not_true_eq_false, not_false_eq_true, true_or, or_true, false_or, or_false, and_self, ge_iff_le, gt_iff_lt]
    · simp only [if_neg (show ¬ (6 * k + 6 ≤ q ∧ q < 6 * k + 6) by omega), and_self]
  induction n with
  | zero =>
    intro i fu δ i0 i1 hn hf
    have : i = 6 := by omega
    subst this
    exact done fu δ hf
  | succ n ih =>
    intro i fu δ i0 i1 hn hf
    by_cases q : i = 6
    · subst q; exact done fu δ (by omega)
    · obtain ⟨fu, rfl⟩ : ∃ q, fu = q + 1 := ⟨fu - 1, by omega⟩
      obtain ⟨δ', e, F, r⟩ := ih (i + 1) fu (sA δ 190 23 (zi (6 * k + i)) (δ.2.1 130 23 (zi i))) (by omega) (by omega) (by omega) (by omega)
      refine ⟨δ', ?_, ((Fr.rf (S := SA3)).sA ⟨rfl, by decide⟩).tr F, fun q q0 q60 => ?_⟩
      · rw [← e]
        simp (disch := omega) only [F_M_saves_117, F_M_saves_117_b, ↓bnd_eq, bd2, bn2, Option.bind_some, Option.bind_none, q2A, Nat.reduceEqDiff, ↓reduceIte, inb, zl, zi_add, zi_sub, zi_mul, zi_neg, zi_le_t, zi_le_f, zi_lt_t, zi_lt_f, zi_eq_t, zi_eq_f, if_true, if_false, ite_true, ite_false, true_and, and_true, false_and, and_false, not_true_eq_false, not_false_eq_true, true_or, or_true, false_or, or_false, and_self, ge_iff_le, gt_iff_lt]
      · have r0 := r q q0 q60
        have key : ∀ (d s : Nat), ((sA δ 190 23 (zi (6 * k + i)) (δ.2.1 130 23 (zi i))).2.1 d 23 (zi q) = if zi q = zi (6 * k + i) then δ.2.1 s 23 (zi i) else δ.2.1 d 23 (zi q)) → (∀ x : Int32, (sA δ 190 23 (zi (6 * k + i)) (δ.2.1 130 23 (zi i))).2.1 s 23 x = δ.2.1 s 23 x) → (if 6 * k + (i + 1) ≤ q ∧ q < 6 * k + 6 then (sA δ 190 23 (zi (6 * k + i)) (δ.2.1 130 23 (zi i))).2.1 s 23 (zi (q - 6 * k)) else (sA δ 190 23 (zi (6 * k + i)) (δ.2.1 130 23 (zi i))).2.1 d 23 (zi q)) = if 6 * k + i ≤ q ∧ q < 6 * k + 6 then δ.2.1 s 23 (zi (q - 6 * k)) else δ.2.1 d 23 (zi q) := by
          intro d s h1 h2
          rw [h1, h2]
          by_cases q1 : 6 * k + (i + 1) ≤ q ∧ q < 6 * k + 6
          · rw [if_pos q1, if_pos (by omega)]
          · rw [if_neg q1]
            by_cases q2 : q = 6 * k + i
            · rw [if_pos (by rw [q2]), if_pos (by omega), q2, show 6 * k + i - 6 * k = i by omega]
            · rw [if_neg (fun e => q2 (zi_inj e (by omega) (by omega))), if_neg (by omega)]
        rw [r0]
        exact key 190 130 (by simp only [q2A, Nat.reduceEqDiff, false_and, and_self, if_true, if_false, ↓reduceIte, true_and]) (fun x => by simp only [q2A, Nat.reduceEqDiff, false_and, and_self, if_true, if_false, ↓reduceIte, true_and])
theorem m_rs1 (hk : 0 ≤ k ∧ k ≤ 1) : ∀ (n : Nat) (i : Int) (fu : Nat) (δ : Dl), 0 ≤ i → i ≤ 30 → (30 - i).toNat ≤ n → n < fu → ∃ δ', F_M_restores_2 (zi k) fu (zi i) δ = F_M_restores_84 (zi k) FU (zi 0) δ' ∧ Fr SB1 δ δ' ∧ ∀ q, 0 ≤ q → q < 30 → δ'.2.1 120 23 (zi q) = (if i ≤ q then δ.2.1 185 23 (zi (30 * k + q)) else δ.2.1 120 23 (zi q)) ∧ δ'.2.1 122 23 (zi q) = (if i ≤ q then δ.2.1 187 23 (zi (30 * k + q)) else δ.2.1 122 23 (zi q)) ∧ δ'.2.1 123 23 (zi q) = (if i ≤ q then δ.2.1 188 23 (zi (30 * k + q)) else δ.2.1 123 23 (zi q)) ∧ δ'.2.1 124 23 (zi q) = (if i ≤ q then δ.2.1 189 23 (zi (30 * k + q)) else δ.2.1 124 23 (zi q)) := by
  intro n
  have done : ∀ (fu : Nat) (δ : Dl), 0 < fu → ∃ δ', F_M_restores_2 (zi k) fu (zi 30) δ = F_M_restores_84 (zi k) FU (zi 0) δ' ∧ Fr SB1 δ δ' ∧ ∀ q, 0 ≤ q → q < 30 → δ'.2.1 120 23 (zi q) = (if (30 : Int) ≤ q then δ.2.1 185 23 (zi (30 * k + q)) else δ.2.1 120 23 (zi q)) ∧ δ'.2.1 122 23 (zi q) = (if (30 : Int) ≤ q then δ.2.1 187 23 (zi (30 * k + q)) else δ.2.1 122 23 (zi q)) ∧ δ'.2.1 123 23 (zi q) = (if (30 : Int) ≤ q then δ.2.1 188 23 (zi (30 * k + q)) else δ.2.1 123 23 (zi q)) ∧ δ'.2.1 124 23 (zi q) = (if (30 : Int) ≤ q then δ.2.1 189 23 (zi (30 * k + q)) else δ.2.1 124 23 (zi q)) := by
    intro fu δ hf
    obtain ⟨fu, rfl⟩ : ∃ q, fu = q + 1 := ⟨fu - 1, by omega⟩
    refine ⟨δ, ?_, Fr.rf, fun q q0 q60 => ?_⟩
    · simp (disch := omega) only [F_M_restores_2, F_M_restores_2_b, ↓reduceIte, inb, zl, zi_add, zi_sub, zi_mul, zi_neg, zi_le_t, zi_le_f, zi_lt_t, zi_lt_f, zi_eq_t, zi_eq_f, if_true, if_false, ite_true, ite_false, true_and, and_true, false_and, and_false, not_true_eq_false, not_false_eq_true, true_or, or_true, false_or, or_false, and_self, ge_iff_le, gt_iff_lt]
    · simp only [if_neg (show ¬ (30 : Int) ≤ q by omega), and_self]
  induction n with
  | zero =>
    intro i fu δ i0 i1 hn hf
    have : i = 30 := by omega
    subst this
    exact done fu δ hf
  | succ n ih =>
    intro i fu δ i0 i1 hn hf
    by_cases q : i = 30
    · subst q; exact done fu δ (by omega)
    · obtain ⟨fu, rfl⟩ : ∃ q, fu = q + 1 := ⟨fu - 1, by omega⟩
      obtain ⟨δ', e, F, r⟩ := ih (i + 1) fu (sA (sA (sA (sA δ 120 23 (zi i) (δ.2.1 185 23 (zi (30 * k + i)))) 122 23 (zi i) (δ.2.1 187 23 (zi (30 * k + i)))) 123 23 (zi i) (δ.2.1 188 23 (zi (30 * k + i)))) 124 23 (zi i) (δ.2.1 189 23 (zi (30 * k + i)))) (by omega) (by omega) (by omega) (by omega)
      refine ⟨δ', ?_, (((((Fr.rf (S := SB1)).sA ⟨rfl, by decide⟩).sA ⟨rfl, by decide⟩).sA ⟨rfl, by decide⟩).sA ⟨rfl, by decide⟩).tr F, fun q q0 q60 => ?_⟩
      · rw [← e]
        simp (disch := omega) only [F_M_restores_2, F_M_restores_2_b, ↓bnd_eq, bd2, bn2, Option.bind_some, Option.bind_none, q2A, Nat.reduceEqDiff, ↓reduceIte, inb, zl, zi_add, zi_sub, zi_mul, zi_neg, zi_le_t, zi_le_f, zi_lt_t, zi_lt_f, zi_eq_t, zi_eq_f, if_true, if_false, ite_true, ite_false, true_and, and_true, false_and, and_false, not_true_eq_false, not_false_eq_true, true_or, or_true, false_or, or_false, and_self, ge_iff_le, gt_iff_lt]
      · obtain ⟨r0, r1, r2, r3⟩ := r q q0 q60
        have key : ∀ (d s : Nat), ((sA (sA (sA (sA δ 120 23 (zi i) (δ.2.1 185 23 (zi (30 * k + i)))) 122 23 (zi i) (δ.2.1 187 23 (zi (30 * k + i)))) 123 23 (zi i) (δ.2.1 188 23 (zi (30 * k + i)))) 124 23 (zi i) (δ.2.1 189 23 (zi (30 * k + i)))).2.1 d 23 (zi q) = if zi q = zi i then δ.2.1 s 23 (zi (30 * k + i)) else δ.2.1 d 23 (zi q)) → (∀ x : Int32, (sA (sA (sA (sA δ 120 23 (zi i) (δ.2.1 185 23 (zi (30 * k + i)))) 122 23 (zi i) (δ.2.1 187 23 (zi (30 * k + i)))) 123 23 (zi i) (δ.2.1 188 23 (zi (30 * k + i)))) 124 23 (zi i) (δ.2.1 189 23 (zi (30 * k + i)))).2.1 s 23 x = δ.2.1 s 23 x) → (if i + 1 ≤ q then (sA (sA (sA (sA δ 120 23 (zi i) (δ.2.1 185 23 (zi (30 * k + i)))) 122 23 (zi i) (δ.2.1 187 23 (zi (30 * k + i)))) 123 23 (zi i) (δ.2.1 188 23 (zi (30 * k + i)))) 124 23 (zi i) (δ.2.1 189 23 (zi (30 * k + i)))).2.1 s 23 (zi (30 * k + q)) else (sA (sA (sA (sA δ 120 23 (zi i) (δ.2.1 185 23 (zi (30 * k + i)))) 122 23 (zi i) (δ.2.1 187 23 (zi (30 * k + i)))) 123 23 (zi i) (δ.2.1 188 23 (zi (30 * k + i)))) 124 23 (zi i) (δ.2.1 189 23 (zi (30 * k + i)))).2.1 d 23 (zi q)) = if i ≤ q then δ.2.1 s 23 (zi (30 * k + q)) else δ.2.1 d 23 (zi q) := by
          intro d s h1 h2
          rw [h1, h2]
          by_cases q1 : i + 1 ≤ q
          · rw [if_pos q1, if_pos (by omega)]
          · rw [if_neg q1]
            by_cases q2 : q = i
            · rw [if_pos (by rw [q2]), if_pos (by omega), q2]
            · rw [if_neg (fun e => q2 (zi_inj e (by omega) (by omega))), if_neg (by omega)]
        refine ⟨?_, ?_, ?_, ?_⟩
        · rw [r0]
          exact key 120 185 (by simp only [q2A, Nat.reduceEqDiff, false_and, and_self, if_true, if_false, ↓reduceIte, true_and]) (fun x => by simp only [q2A, Nat.reduceEqDiff, false_and, and_self, if_true, if_false, ↓reduceIte, true_and])
        · rw [r1]
          exact key 122 187 (by simp only [q2A, Nat.reduceEqDiff, false_and, and_self, if_true, if_false, ↓reduceIte, true_and]) (fun x => by simp only [q2A, Nat.reduceEqDiff, false_and, and_self, if_true, if_false, ↓reduceIte, true_and])
        · rw [r2]
          exact key 123 188 (by simp only [q2A, Nat.reduceEqDiff, false_and, and_self, if_true, if_false, ↓reduceIte, true_and]) (fun x => by simp only [q2A, Nat.reduceEqDiff, false_and, and_self, if_true, if_false, ↓reduceIte, true_and])
        · rw [r3]
          exact key 124 189 (by simp only [q2A, Nat.reduceEqDiff, false_and, and_self, if_true, if_false, ↓reduceIte, true_and]) (fun x => by simp only [q2A, Nat.reduceEqDiff, false_and, and_self, if_true, if_false, ↓reduceIte, true_and])
theorem m_rs2 (hk : 0 ≤ k ∧ k ≤ 1) : ∀ (n : Nat) (i : Int) (fu : Nat) (δ : Dl), 0 ≤ i → i ≤ 150 → (150 - i).toNat ≤ n → n < fu → ∃ δ', F_M_restores_84 (zi k) fu (zi i) δ = F_M_restores_117 (zi k) FU (zi 0) δ' ∧ Fr SB2 δ δ' ∧ ∀ q, 0 ≤ q → q < 150 → δ'.2.1 121 23 (zi q) = (if i ≤ q then δ.2.1 186 23 (zi (150 * k + q)) else δ.2.1 121 23 (zi q)) := by
  intro n
  have done : ∀ (fu : Nat) (δ : Dl), 0 < fu → ∃ δ', F_M_restores_84 (zi k) fu (zi 150) δ = F_M_restores_117 (zi k) FU (zi 0) δ' ∧ Fr SB2 δ δ' ∧ ∀ q, 0 ≤ q → q < 150 → δ'.2.1 121 23 (zi q) = (if (150 : Int) ≤ q then δ.2.1 186 23 (zi (150 * k + q)) else δ.2.1 121 23 (zi q)) := by
    intro fu δ hf
    obtain ⟨fu, rfl⟩ : ∃ q, fu = q + 1 := ⟨fu - 1, by omega⟩
    refine ⟨δ, ?_, Fr.rf, fun q q0 q60 => ?_⟩
    · simp (disch := omega) only [F_M_restores_84, F_M_restores_84_b, ↓reduceIte, inb, zl, zi_add, zi_sub, zi_mul, zi_neg, zi_le_t, zi_le_f, zi_lt_t, zi_lt_f, zi_eq_t, zi_eq_f, if_true, if_false, ite_true, ite_false, true_and, and_true, false_and, and_false, not_true_eq_false, not_false_eq_true, true_or, or_true, false_or, or_false, and_self, ge_iff_le, gt_iff_lt]
    · simp only [if_neg (show ¬ (150 : Int) ≤ q by omega), and_self]
  induction n with
  | zero =>
    intro i fu δ i0 i1 hn hf
    have : i = 150 := by omega
    subst this
    exact done fu δ hf
  | succ n ih =>
    intro i fu δ i0 i1 hn hf
    by_cases q : i = 150
    · subst q; exact done fu δ (by omega)
    · obtain ⟨fu, rfl⟩ : ∃ q, fu = q + 1 := ⟨fu - 1, by omega⟩
      obtain ⟨δ', e, F, r⟩ := ih (i + 1) fu (sA δ 121 23 (zi i) (δ.2.1 186 23 (zi (150 * k + i)))) (by omega) (by omega) (by omega) (by omega)
      refine ⟨δ', ?_, ((Fr.rf (S := SB2)).sA ⟨rfl, by decide⟩).tr F, fun q q0 q60 => ?_⟩
      · rw [← e]
        simp (disch := omega) only [F_M_restores_84, F_M_restores_84_b, ↓bnd_eq, bd2, bn2, Option.bind_some, Option.bind_none, q2A, Nat.reduceEqDiff, ↓reduceIte, inb, zl, zi_add, zi_sub, zi_mul, zi_neg, zi_le_t, zi_le_f, zi_lt_t, zi_lt_f, zi_eq_t, zi_eq_f, if_true, if_false, ite_true, ite_false, true_and, and_true, false_and, and_false, not_true_eq_false, not_false_eq_true, true_or, or_true, false_or, or_false, and_self, ge_iff_le, gt_iff_lt]
      · have r0 := r q q0 q60
        have key : ∀ (d s : Nat), ((sA δ 121 23 (zi i) (δ.2.1 186 23 (zi (150 * k + i)))).2.1 d 23 (zi q) = if zi q = zi i then δ.2.1 s 23 (zi (150 * k + i)) else δ.2.1 d 23 (zi q)) → (∀ x : Int32, (sA δ 121 23 (zi i) (δ.2.1 186 23 (zi (150 * k + i)))).2.1 s 23 x = δ.2.1 s 23 x) → (if i + 1 ≤ q then (sA δ 121 23 (zi i) (δ.2.1 186 23 (zi (150 * k + i)))).2.1 s 23 (zi (150 * k + q)) else (sA δ 121 23 (zi i) (δ.2.1 186 23 (zi (150 * k + i)))).2.1 d 23 (zi q)) = if i ≤ q then δ.2.1 s 23 (zi (150 * k + q)) else δ.2.1 d 23 (zi q) := by
          intro d s h1 h2
          rw [h1, h2]
          by_cases q1 : i + 1 ≤ q
          · rw [if_pos q1, if_pos (by omega)]
          · rw [if_neg q1]
            by_cases q2 : q = i
            · rw [if_pos (by rw [q2]), if_pos (by omega), q2]
            · rw [if_neg (fun e => q2 (zi_inj e (by omega) (by omega))), if_neg (by omega)]
        rw [r0]
        exact key 121 186 (by simp only [q2A, Nat.reduceEqDiff, false_and, and_self, if_true, if_false, ↓reduceIte, true_and]) (fun x => by simp only [q2A, Nat.reduceEqDiff, false_and, and_self, if_true, if_false, ↓reduceIte, true_and])
theorem m_rs3 (hk : 0 ≤ k ∧ k ≤ 1) : ∀ (n : Nat) (i : Int) (fu : Nat) (δ : Dl), 0 ≤ i → i ≤ 6 → (6 - i).toNat ≤ n → n < fu → ∃ δ', F_M_restores_117 (zi k) fu (zi i) δ = some δ' ∧ Fr SB3 δ δ' ∧ ∀ q, 0 ≤ q → q < 6 → δ'.2.1 130 23 (zi q) = (if i ≤ q then δ.2.1 190 23 (zi (6 * k + q)) else δ.2.1 130 23 (zi q)) := by
  intro n
  have done : ∀ (fu : Nat) (δ : Dl), 0 < fu → ∃ δ', F_M_restores_117 (zi k) fu (zi 6) δ = some δ' ∧ Fr SB3 δ δ' ∧ ∀ q, 0 ≤ q → q < 6 → δ'.2.1 130 23 (zi q) = (if (6 : Int) ≤ q then δ.2.1 190 23 (zi (6 * k + q)) else δ.2.1 130 23 (zi q)) := by
    intro fu δ hf
    obtain ⟨fu, rfl⟩ : ∃ q, fu = q + 1 := ⟨fu - 1, by omega⟩
    refine ⟨δ, ?_, Fr.rf, fun q q0 q60 => ?_⟩
    · simp (disch := omega) only [F_M_restores_117, F_M_restores_117_b, ↓reduceIte, inb, zl, zi_add, zi_sub, zi_mul, zi_neg, zi_le_t, zi_le_f, zi_lt_t, zi_lt_f, zi_eq_t, zi_eq_f, if_true, if_false, ite_true, ite_false, true_and, and_true, false_and, and_false, not_true_eq_false, not_false_eq_true, true_or, or_true, false_or, or_false, and_self, ge_iff_le, gt_iff_lt]
    · simp only [if_neg (show ¬ (6 : Int) ≤ q by omega), and_self]
  induction n with
  | zero =>
    intro i fu δ i0 i1 hn hf
    have : i = 6 := by omega
    subst this
    exact done fu δ hf
  | succ n ih =>
    intro i fu δ i0 i1 hn hf
    by_cases q : i = 6
    · subst q; exact done fu δ (by omega)
    · obtain ⟨fu, rfl⟩ : ∃ q, fu = q + 1 := ⟨fu - 1, by omega⟩
      obtain ⟨δ', e, F, r⟩ := ih (i + 1) fu (sA δ 130 23 (zi i) (δ.2.1 190 23 (zi (6 * k + i)))) (by omega) (by omega) (by omega) (by omega)
      refine ⟨δ', ?_, ((Fr.rf (S := SB3)).sA ⟨rfl, by decide⟩).tr F, fun q q0 q60 => ?_⟩
      · rw [← e]
        simp (disch := omega) only [F_M_restores_117, F_M_restores_117_b, ↓bnd_eq, bd2, bn2, Option.bind_some, Option.bind_none, q2A, Nat.reduceEqDiff, ↓reduceIte, inb, zl, zi_add, zi_sub, zi_mul, zi_neg, zi_le_t, zi_le_f, zi_lt_t, zi_lt_f, zi_eq_t, zi_eq_f, if_true, if_false, ite_true, ite_false, true_and, and_true, false_and, and_false, not_true_eq_false, not_false_eq_true, true_or, or_true, false_or, or_false, and_self, ge_iff_le, gt_iff_lt]
      · have r0 := r q q0 q60
        have key : ∀ (d s : Nat), ((sA δ 130 23 (zi i) (δ.2.1 190 23 (zi (6 * k + i)))).2.1 d 23 (zi q) = if zi q = zi i then δ.2.1 s 23 (zi (6 * k + i)) else δ.2.1 d 23 (zi q)) → (∀ x : Int32, (sA δ 130 23 (zi i) (δ.2.1 190 23 (zi (6 * k + i)))).2.1 s 23 x = δ.2.1 s 23 x) → (if i + 1 ≤ q then (sA δ 130 23 (zi i) (δ.2.1 190 23 (zi (6 * k + i)))).2.1 s 23 (zi (6 * k + q)) else (sA δ 130 23 (zi i) (δ.2.1 190 23 (zi (6 * k + i)))).2.1 d 23 (zi q)) = if i ≤ q then δ.2.1 s 23 (zi (6 * k + q)) else δ.2.1 d 23 (zi q) := by
          intro d s h1 h2
          rw [h1, h2]
          by_cases q1 : i + 1 ≤ q
          · rw [if_pos q1, if_pos (by omega)]
          · rw [if_neg q1]
            by_cases q2 : q = i
            · rw [if_pos (by rw [q2]), if_pos (by omega), q2]
            · rw [if_neg (fun e => q2 (zi_inj e (by omega) (by omega))), if_neg (by omega)]
        rw [r0]
        exact key 130 190 (by simp only [q2A, Nat.reduceEqDiff, false_and, and_self, if_true, if_false, ↓reduceIte, true_and]) (fun x => by simp only [q2A, Nat.reduceEqDiff, false_and, and_self, if_true, if_false, ↓reduceIte, true_and])
theorem m_saves {m : Dl} {v : PG} (hk : 0 ≤ k ∧ k ≤ 1) (W : PW v) (M : MP m v) : ∃ m', F_M_saves (zi k) m = some m' ∧ SV k v m' ∧ (∀ l u, (0 ≤ l ∧ l ≤ 1) → l ≠ k → PW u → SV l u m → SV l u m') ∧ Fr SSv m m' := by
  have hN := W.1
  have hM := W.2.1
  obtain ⟨d1, e1, F1, r1⟩ := m_sv1 hk 30 0 FU m (by omega) (by omega) (by omega) (by unfold FU; omega)
  obtain ⟨d2, e2, F2, r2⟩ := m_sv2 hk 150 0 FU d1 (by omega) (by omega) (by omega) (by unfold FU; omega)
  obtain ⟨d3, e3, F3, r3⟩ := m_sv3 hk 6 0 FU d2 (by omega) (by omega) (by omega) (by unfold FU; omega)
  have t1 : ∀ f, f ≠ 190 → d3.2.1 f 23 = d2.2.1 f 23 := fun f hf => (F3.2 f 23 (fun e => hf e.2)).2
  have t2 : ∀ f, f ≠ 186 → d2.2.1 f 23 = d1.2.1 f 23 := fun f hf => (F2.2 f 23 (fun e => hf e.2)).2
  have t3 : ∀ f, (f < 185 ∨ f = 186 ∨ f = 190) → d1.2.1 f 23 = m.2.1 f 23 := fun f hf => (F1.2 f 23 (fun e => by
    have : (23 : Nat) = 23 ∧ (f = 185 ∨ (187 ≤ f ∧ f ≤ 189)) := e
    omega)).2
  have H2 : ∀ q, 0 ≤ q → q < 300 → d3.2.1 186 23 (zi q) = if 150 * k + 0 ≤ q ∧ q < 150 * k + 150 then m.2.1 121 23 (zi (q - 150 * k)) else m.2.1 186 23 (zi q) := fun q q0 q1 => by
    rw [t1 186 (by decide), r2 q q0 q1, t3 121 (by decide), t3 186 (by decide)]
  have H3 : ∀ q, 0 ≤ q → q < 12 → d3.2.1 190 23 (zi q) = if 6 * k + 0 ≤ q ∧ q < 6 * k + 6 then m.2.1 130 23 (zi (q - 6 * k)) else m.2.1 190 23 (zi q) := fun q q0 q1 => by
    rw [r3 q q0 q1, t2 130 (by decide), t3 130 (by decide), t2 190 (by decide), t3 190 (by decide)]
  refine ⟨d3, ?_, ⟨fun b b0 b1 => ?_, fun b j b0 b1 j0 j5 => ?_, fun s s0 s1 => ?_⟩, fun l u hl hlk Wu h => ?_, ((F1.to (fun f a e => ?_)).tr (F2.to (fun f a e => ?_))).tr (F3.to (fun f a e => ?_))⟩
  · unfold F_M_saves
    rw [zl0, e1, e2, e3]
  · obtain ⟨g1, g2, g3, g4⟩ := r1 (30 * k + b) (by omega) (by omega)
    obtain ⟨-, f1, f2, f3, f4⟩ := M.2.2.1 b b0 b1
    rw [if_pos (by omega), show 30 * k + b - 30 * k = b by omega] at g1 g2 g3 g4
    rw [t1 185 (by decide), t1 187 (by decide), t1 188 (by decide), t1 189 (by decide), t2 185 (by decide), t2 187 (by decide), t2 188 (by decide), t2 189 (by decide), g1, g2, g3, g4]
    exact ⟨f1, f2, f3, f4⟩
  · rw [H2 (150 * k + (5 * b + j)) (by omega) (by omega), if_pos (by omega), show 150 * k + (5 * b + j) - 150 * k = 5 * b + j by omega]
    exact M.2.2.2.1 b j b0 b1 j0 j5
  · rw [H3 (6 * k + s) (by omega) (by omega), if_pos (by omega), show 6 * k + s - 6 * k = s by omega]
    exact (M.2.2.2.2 s s0 s1).2.2.2.2
  · have hNu := Wu.1
    have hMu := Wu.2.1
    refine ⟨fun b b0 b1 => ?_, fun b j b0 b1 j0 j5 => ?_, fun s s0 s1 => ?_⟩
    · obtain ⟨g1, g2, g3, g4⟩ := r1 (30 * l + b) (by omega) (by omega)
      rw [if_neg (by omega)] at g1 g2 g3 g4
      rw [t1 185 (by decide), t1 187 (by decide), t1 188 (by decide), t1 189 (by decide), t2 185 (by decide), t2 187 (by decide), t2 188 (by decide), t2 189 (by decide), g1, g2, g3, g4]
      exact h.1 b b0 b1
    · rw [H2 (150 * l + (5 * b + j)) (by omega) (by omega), if_neg (by omega)]
      exact h.2.1 b j b0 b1 j0 j5
    · rw [H3 (6 * l + s) (by omega) (by omega), if_neg (by omega)]
      exact h.2.2 s s0 s1
  · have : a = 23 ∧ (f = 185 ∨ (187 ≤ f ∧ f ≤ 189)) := e
    exact ⟨this.1, by omega, by omega⟩
  · have : a = 23 ∧ f = 186 := e
    exact ⟨this.1, by omega, by omega⟩
  · have : a = 23 ∧ f = 190 := e
    exact ⟨this.1, by omega, by omega⟩
theorem m_restores {m : Dl} {v u : PG} (hk : 0 ≤ k ∧ k ≤ 1) (W : PW v) (S : SV k v m) (M : MP m u) (hu : u.1 = v.1 ∧ u.2.1 = v.2.1 ∧ (∀ x, u.2.2.1 x 0 = v.2.2.1 x 0) ∧ ∀ s j, j ≠ 4 → u.2.2.2.2 s j = v.2.2.2.2 s j) : ∃ m', F_M_restores (zi k) m = some m' ∧ MP m' v ∧ Fr SMx m m' := by
  have hN := W.1
  have hM := W.2.1
  obtain ⟨d1, e1, F1, r1⟩ := m_rs1 hk 30 0 FU m (by omega) (by omega) (by omega) (by unfold FU; omega)
  obtain ⟨d2, e2, F2, r2⟩ := m_rs2 hk 150 0 FU d1 (by omega) (by omega) (by omega) (by unfold FU; omega)
  obtain ⟨d3, e3, F3, r3⟩ := m_rs3 hk 6 0 FU d2 (by omega) (by omega) (by omega) (by unfold FU; omega)
  have t1 : ∀ f, f ≠ 130 → d3.2.1 f 23 = d2.2.1 f 23 := fun f hf => (F3.2 f 23 (fun e => hf e.2)).2
  have t2 : ∀ f, f ≠ 121 → d2.2.1 f 23 = d1.2.1 f 23 := fun f hf => (F2.2 f 23 (fun e => hf e.2)).2
  have t3 : ∀ f, ¬ (f = 120 ∨ (122 ≤ f ∧ f ≤ 124)) → d1.2.1 f 23 = m.2.1 f 23 := fun f hf => (F1.2 f 23 (fun e => hf e.2)).2
  have F : Fr SMx m d3 := ((F1.to (fun f a e => by
    have : a = 23 ∧ (f = 120 ∨ (122 ≤ f ∧ f ≤ 124)) := e
    show a = 23 ∧ ((120 ≤ f ∧ f ≤ 124) ∨ f = 130)
    omega)).tr (F2.to (fun f a e => by
    have : a = 23 ∧ f = 121 := e
    show a = 23 ∧ ((120 ≤ f ∧ f ≤ 124) ∨ f = 130)
    omega))).tr (F3.to (fun f a e => by
    have : a = 23 ∧ f = 130 := e
    show a = 23 ∧ ((120 ≤ f ∧ f ≤ 124) ∨ f = 130)
    omega))
  have nf : ∀ f, ¬ ((120 ≤ f ∧ f ≤ 124) ∨ f = 130) → ¬ SMx f 23 := fun f hf e => hf e.2
  obtain ⟨u1, u2, u3, u4⟩ := hu
  obtain ⟨a1, a2, a3, a4, a5⟩ := M
  refine ⟨d3, ?_, ⟨?_, ?_, fun b b0 b1 => ?_, fun b j b0 b1 j0 j5 => ?_, fun s s0 s1 => ?_⟩, F⟩
  · unfold F_M_restores
    rw [zl0, e1, e2, e3]
  · rw [(F.2 118 23 (nf 118 (by decide))).1, a1, u1]
  · rw [(F.2 125 23 (nf 125 (by decide))).1, a2, u2]
  · obtain ⟨g1, g2, g3, g4⟩ := r1 b b0 (by omega)
    obtain ⟨h1, h2, h3, h4⟩ := S.1 b b0 b1
    rw [if_pos b0] at g1 g2 g3 g4
    rw [(F.2 119 23 (nf 119 (by decide))).2, (a3 b b0 (by omega)).1, u3, t1 120 (by decide), t1 122 (by decide), t1 123 (by decide), t1 124 (by decide), t2 120 (by decide), t2 122 (by decide), t2 123 (by decide), t2 124 (by decide), g1, g2, g3, g4]
    exact ⟨rfl, h1, h2, h3, h4⟩
  · rw [t1 121 (by decide), r2 (5 * b + j) (by omega) (by omega), if_pos (by omega), t3 186 (by decide)]
    exact S.2.1 b j b0 b1 j0 j5
  · obtain ⟨h0, h1, h2, h3, -⟩ := a5 s s0 (by omega)
    rw [(F.2 126 23 (nf 126 (by decide))).2, (F.2 127 23 (nf 127 (by decide))).2, (F.2 128 23 (nf 128 (by decide))).2, (F.2 129 23 (nf 129 (by decide))).2, h0, h1, h2, h3, u4 s 0 (by decide), u4 s 1 (by decide), u4 s 2 (by decide), u4 s 3 (by decide), r3 s s0 (by omega), if_pos s0, t2 190 (by decide), t3 190 (by decide)]
    exact ⟨rfl, rfl, rfl, rfl, S.2.2 s s0 s1⟩
end SVS
