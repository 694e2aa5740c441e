/-! the calls of bytes and sheets (wip/whole/pure) -/
/-- what neither side's standing holds -/
abbrev SSc : Nat → Nat → Prop := fun f a => a = 23 ∧ 178 ≤ f
theorem INV.jr {δ δ2 : Dl} {S : Nat → Nat → Prop} (I : INV δ) (F : Fr S δ δ2) (n : ∀ f a, S f a → SJR f a ∨ (a = 23 ∧ 178 ≤ f)) (hr : JR δ2) : INV δ2 := by
  obtain ⟨⟨v, g, h1, h2, h4⟩, ⟨kn, gk, h3⟩, -⟩ := I
  have n' : ∀ f a, S f a → ((a = 14 ∧ 10 ≤ f ∧ f ≤ 11) ∨ (16 ≤ a ∧ a ≤ 17 ∧ 80 ≤ f ∧ f ≤ 85) ∨ (a = 0 ∧ 103 ≤ f ∧ f ≤ 107) ∨ (a = 15 ∧ 10 ≤ f ∧ f ≤ 11) ∨ (19 ≤ a ∧ a ≤ 22 ∧ 22 ≤ f ∧ f ≤ 23) ∨ (a = 18 ∧ 60 ≤ f ∧ f ≤ 62) ∨ (a = 23 ∧ ((153 ≤ f ∧ f ≤ 173) ∨ f = 177))) ∨ (a = 23 ∧ 178 ≤ f) := n
  exact ⟨⟨v, g, h1.fr F (fun f a q e => by have := n' f a e; omega), h2.fr F (fun f a q e => by have := n' f a e; omega), h4.fr F (fun f a q e => by have := n' f a e; omega)⟩, ⟨kn, gk, h3.fr F (fun f a q e => by have := n' f a e; omega)⟩, hr⟩
theorem JR.s5 {δ δ' : Dl} {S : Nat → Nat → Prop} (hr : JR δ) (F : Fr S δ δ') (n : ∀ f a, S f a → ((a = 14 ∧ 10 ≤ f ∧ f ≤ 11) ∨ (a = 23 ∧ 153 ≤ f ∧ f ≤ 154)) ∨ (a = 23 ∧ 178 ≤ f)) (h : J5 δ') : JR δ' := by
  obtain ⟨h5, h6, h7, h8, h9, h10, h11, h13, hx⟩ := hr
  exact ⟨h, h6.fr F (fun f a q e => by have := n f a e; omega), h7.fr F (fun f a q e => by have := n f a e; omega), h8.fr F (fun f a q e => by have := n f a e; omega), h9.fr F (fun f a q e => by have := n f a e; omega), h10.fr F (fun f a q e => by have := n f a e; omega), h11.fr F (fun f a q e => by have := n f a e; omega), h13.fr F (fun e => by have := n 177 23 e; omega), hx.fr F⟩
theorem JR.s6 {δ δ' : Dl} {S : Nat → Nat → Prop} (hr : JR δ) (F : Fr S δ δ') (n : ∀ f a, S f a → ((16 ≤ a ∧ a ≤ 17 ∧ 80 ≤ f ∧ f ≤ 85) ∨ (a = 23 ∧ 155 ≤ f ∧ f ≤ 160)) ∨ (a = 23 ∧ 178 ≤ f)) (h : J6 δ') : JR δ' := by
  obtain ⟨h5, h6, h7, h8, h9, h10, h11, h13, hx⟩ := hr
  exact ⟨h5.fr F (fun f a q e => by have := n f a e; omega), h, h7.fr F (fun f a q e => by have := n f a e; omega), h8.fr F (fun f a q e => by have := n f a e; omega), h9.fr F (fun f a q e => by have := n f a e; omega), h10.fr F (fun f a q e => by have := n f a e; omega), h11.fr F (fun f a q e => by have := n f a e; omega), h13.fr F (fun e => by have := n 177 23 e; omega), hx.fr F⟩
theorem JR.s7 {δ δ' : Dl} {S : Nat → Nat → Prop} (hr : JR δ) (F : Fr S δ δ') (n : ∀ f a, S f a → ((a = 0 ∧ 103 ≤ f ∧ f ≤ 105) ∨ (a = 23 ∧ 161 ≤ f ∧ f ≤ 163)) ∨ (a = 23 ∧ 178 ≤ f)) (h : J7 δ') : JR δ' := by
  obtain ⟨h5, h6, h7, h8, h9, h10, h11, h13, hx⟩ := hr
  exact ⟨h5.fr F (fun f a q e => by have := n f a e; omega), h6.fr F (fun f a q e => by have := n f a e; omega), h, h8.fr F (fun f a q e => by have := n f a e; omega), h9.fr F (fun f a q e => by have := n f a e; omega), h10.fr F (fun f a q e => by have := n f a e; omega), h11.fr F (fun f a q e => by have := n f a e; omega), h13.fr F (fun e => by have := n 177 23 e; omega), hx.fr F⟩
theorem JR.s8 {δ δ' : Dl} {S : Nat → Nat → Prop} (hr : JR δ) (F : Fr S δ δ') (n : ∀ f a, S f a → ((a = 0 ∧ 106 ≤ f ∧ f ≤ 107) ∨ (a = 23 ∧ 164 ≤ f ∧ f ≤ 166)) ∨ (a = 23 ∧ 178 ≤ f)) (h : J8 δ') : JR δ' := by
  obtain ⟨h5, h6, h7, h8, h9, h10, h11, h13, hx⟩ := hr
  exact ⟨h5.fr F (fun f a q e => by have := n f a e; omega), h6.fr F (fun f a q e => by have := n f a e; omega), h7.fr F (fun f a q e => by have := n f a e; omega), h, h9.fr F (fun f a q e => by have := n f a e; omega), h10.fr F (fun f a q e => by have := n f a e; omega), h11.fr F (fun f a q e => by have := n f a e; omega), h13.fr F (fun e => by have := n 177 23 e; omega), hx.fr F⟩
theorem JR.s9 {δ δ' : Dl} {S : Nat → Nat → Prop} (hr : JR δ) (F : Fr S δ δ') (n : ∀ f a, S f a → ((a = 15 ∧ 10 ≤ f ∧ f ≤ 11) ∨ (a = 23 ∧ 167 ≤ f ∧ f ≤ 168)) ∨ (a = 23 ∧ 178 ≤ f)) (h : J9 δ') : JR δ' := by
  obtain ⟨h5, h6, h7, h8, h9, h10, h11, h13, hx⟩ := hr
  exact ⟨h5.fr F (fun f a q e => by have := n f a e; omega), h6.fr F (fun f a q e => by have := n f a e; omega), h7.fr F (fun f a q e => by have := n f a e; omega), h8.fr F (fun f a q e => by have := n f a e; omega), h, h10.fr F (fun f a q e => by have := n f a e; omega), h11.fr F (fun f a q e => by have := n f a e; omega), h13.fr F (fun e => by have := n 177 23 e; omega), hx.fr F⟩
theorem JR.s10 {δ δ' : Dl} {S : Nat → Nat → Prop} (hr : JR δ) (F : Fr S δ δ') (n : ∀ f a, S f a → ((19 ≤ a ∧ a ≤ 22 ∧ 22 ≤ f ∧ f ≤ 23) ∨ (a = 23 ∧ 169 ≤ f ∧ f ≤ 170)) ∨ (a = 23 ∧ 178 ≤ f)) (h : J10 δ') : JR δ' := by
  obtain ⟨h5, h6, h7, h8, h9, h10, h11, h13, hx⟩ := hr
  exact ⟨h5.fr F (fun f a q e => by have := n f a e; omega), h6.fr F (fun f a q e => by have := n f a e; omega), h7.fr F (fun f a q e => by have := n f a e; omega), h8.fr F (fun f a q e => by have := n f a e; omega), h9.fr F (fun f a q e => by have := n f a e; omega), h, h11.fr F (fun f a q e => by have := n f a e; omega), h13.fr F (fun e => by have := n 177 23 e; omega), hx.fr F⟩
theorem JR.s11 {δ δ' : Dl} {S : Nat → Nat → Prop} (hr : JR δ) (F : Fr S δ δ') (n : ∀ f a, S f a → ((a = 18 ∧ 60 ≤ f ∧ f ≤ 62) ∨ (a = 23 ∧ 171 ≤ f ∧ f ≤ 173)) ∨ (a = 23 ∧ 178 ≤ f)) (h : J11 δ') : JR δ' := by
  obtain ⟨h5, h6, h7, h8, h9, h10, h11, h13, hx⟩ := hr
  exact ⟨h5.fr F (fun f a q e => by have := n f a e; omega), h6.fr F (fun f a q e => by have := n f a e; omega), h7.fr F (fun f a q e => by have := n f a e; omega), h8.fr F (fun f a q e => by have := n f a e; omega), h9.fr F (fun f a q e => by have := n f a e; omega), h10.fr F (fun f a q e => by have := n f a e; omega), h, h13.fr F (fun e => by have := n 177 23 e; omega), hx.fr F⟩
theorem and255 (x : Int32) : ∃ c : Int, (0 ≤ c ∧ c ≤ 255) ∧ x &&& zi 255 = zi c := by
  refine ⟨(x &&& zi 255).toInt, ?_, zi_of _⟩
  have h : (x &&& zi 255).toBitVec.toNat ≤ 255 := by
    rw [Int32.toBitVec_and, BitVec.toNat_and]
    exact Nat.le_trans Nat.and_le_right (by decide)
  have e : (x &&& zi 255).toInt = ((x &&& zi 255).toBitVec.toNat : Int) := by
    show (x &&& zi 255).toBitVec.toInt = _
    rw [BitVec.toInt_eq_toNat_of_lt (by omega)]
  omega
def bv (x : Int32) (k : Int) : Int32 := (x >>> (zi (8 * k) &&& zi 31)) &&& zi 255
theorem lenB14 : lenB 14 = zi 80 := by decide
section FE
variable {x1 x2 : Int32}
abbrev S14 : Nat → Nat → Prop := fun f a => a = 14 ∧ 10 ≤ f ∧ f ≤ 11
abbrev S153 : Nat → Nat → Prop := fun f a => a = 23 ∧ 153 ≤ f ∧ f ≤ 154
theorem c_feed : ∀ (n : Nat) (k N : Int) (fu : Nat) (δ : Dl), δ.1 10 14 = zi N → 0 ≤ N → -1 ≤ k → k ≤ 3 → N + k + 1 ≤ 80 → (k + 1).toNat ≤ n → n < fu → ∃ δ', F_Bs_feed_33 x1 x2 fu (zi k) δ = some (zi (N + k + 1), δ') ∧ Fr S14 δ δ' ∧ δ'.1 10 14 = zi (N + k + 1) ∧ ∀ i, 0 ≤ i → i < N + k + 1 → δ'.2.1 11 14 (zi i) = if i < N then δ.2.1 11 14 (zi i) else bv x1 (k - (i - N)) := by
  intro n
  have done : ∀ (N : Int) (fu : Nat) (δ : Dl), δ.1 10 14 = zi N → 0 < fu → ∃ δ', F_Bs_feed_33 x1 x2 fu (zi (-1)) δ = some (zi (N + -1 + 1), δ') ∧ Fr S14 δ δ' ∧ δ'.1 10 14 = zi (N + -1 + 1) ∧ ∀ i, 0 ≤ i → i < N + -1 + 1 → δ'.2.1 11 14 (zi i) = if i < N then δ.2.1 11 14 (zi i) else bv x1 (-1 - (i - N)) := by
    intro N fu δ e hf
    obtain ⟨fu, rfl⟩ : ∃ q, fu = q + 1 := ⟨fu - 1, by omega⟩
    rw [show N + -1 + 1 = N by omega]
    refine ⟨δ, ?_, Fr.rf, e, fun i i0 i1 => by rw [if_pos i1]⟩
    simp (disch := omega) only [F_Bs_feed_33, F_Bs_feed_33_b, e, ↓reduceIte, inb, zl, zi_add, zi_sub, zi_mul, zi_neg, zi_le_t, zi_le_f, zi_lt_t, zi_lt_f, zi_eq_t, zi_eq_f, if_true, if_false, ite_true, ite_false, true_and, and_true, false_and, and_false, not_true_eq_false, not_false_eq_true, true_or, or_true, false_or, or_false, and_self, ge_iff_le, gt_iff_lt]
  induction n with
  | zero => intro k N fu δ e n0 k0 k3 hN hn hf; have : k = -1 := by omega
            subst this; exact done N fu δ e hf
  | succ n ih =>
    intro k N fu δ e n0 k0 k3 hN hn hf
    by_cases q : k = -1
    · subst q; exact done N fu δ e (by omega)
    · obtain ⟨fu, rfl⟩ : ∃ q, fu = q + 1 := ⟨fu - 1, by omega⟩
      obtain ⟨δ', e1, F, e2, r⟩ := ih (k - 1) (N + 1) fu (sI (sA δ 11 14 (zi N) (bv x1 k)) 10 14 (zi (N + 1))) sI_at (by omega) (by omega) (by omega) (by omega) (by omega) (by omega)
      rw [show N + 1 + (k - 1) + 1 = N + k + 1 by omega] at e1 e2 r
      refine ⟨δ', ?_, ((Fr.sA (S := S14) Fr.rf ⟨rfl, by decide, by decide⟩).sI ⟨rfl, by decide, by decide⟩).tr F, e2, fun i i0 i1 => ?_⟩
      · rw [← e1]
        simp (disch := omega) only [F_Bs_feed_33, F_Bs_feed_33_b, F_By_add, lenB14, e, q1A, bv, ↓bnd_eq, bd2, bn2, Option.bind_some, Option.bind_none, ↓reduceIte, inb, zl, zi_add, zi_sub, zi_mul, zi_neg, zi_le_t, zi_le_f, zi_lt_t, zi_lt_f, zi_eq_t, zi_eq_f, if_true, if_false, ite_true, ite_false, true_and, and_true, false_and, and_false, not_true_eq_false, not_false_eq_true, true_or, or_true, false_or, or_false, and_self, ge_iff_le, gt_iff_lt]
        rw [show k + -1 = k - 1 by omega]
      · rw [r i i0 i1]
        show (if i < N + 1 then (sA δ 11 14 (zi N) (bv x1 k)).2.1 11 14 (zi i) else bv x1 (k - 1 - (i - (N + 1)))) = _
        rw [rAi]
        by_cases q1 : i < N
        · rw [if_pos (by omega), if_neg (fun e => by have := zi_inj e (by omega) (by omega); omega), if_pos q1]
        · rw [if_neg q1]
          by_cases q2 : i = N
          · rw [if_pos (by omega), if_pos (by rw [q2]), show k - (i - N) = k by omega]
          · rw [if_neg (by omega), show k - 1 - (i - (N + 1)) = k - (i - N) by omega]
theorem m_feed : ∀ (n : Nat) (k N : Int) (fu : Nat) (δ : Dl), δ.1 154 23 = zi N → 0 ≤ N → -1 ≤ k → k ≤ 3 → N + k + 1 ≤ 80 → (k + 1).toNat ≤ n → n < fu → ∃ δ', F_M_feed_30 x1 x2 fu (zi k) δ = some (zi (N + k + 1), δ') ∧ Fr S153 δ δ' ∧ δ'.1 154 23 = zi (N + k + 1) ∧ ∀ i, 0 ≤ i → i < N + k + 1 → δ'.2.1 153 23 (zi i) = if i < N then δ.2.1 153 23 (zi i) else bv x1 (k - (i - N)) := by
  intro n
  have done : ∀ (N : Int) (fu : Nat) (δ : Dl), δ.1 154 23 = zi N → 0 < fu → ∃ δ', F_M_feed_30 x1 x2 fu (zi (-1)) δ = some (zi (N + -1 + 1), δ') ∧ Fr S153 δ δ' ∧ δ'.1 154 23 = zi (N + -1 + 1) ∧ ∀ i, 0 ≤ i → i < N + -1 + 1 → δ'.2.1 153 23 (zi i) = if i < N then δ.2.1 153 23 (zi i) else bv x1 (-1 - (i - N)) := by
    intro N fu δ e hf
    obtain ⟨fu, rfl⟩ : ∃ q, fu = q + 1 := ⟨fu - 1, by omega⟩
    rw [show N + -1 + 1 = N by omega]
    refine ⟨δ, ?_, Fr.rf, e, fun i i0 i1 => by rw [if_pos i1]⟩
    simp (disch := omega) only [F_M_feed_30, F_M_feed_30_b, e, ↓reduceIte, inb, zl, zi_add, zi_sub, zi_mul, zi_neg, zi_le_t, zi_le_f, zi_lt_t, zi_lt_f, zi_eq_t, zi_eq_f, if_true, if_false, ite_true, ite_false, true_and, and_true, false_and, and_false, not_true_eq_false, not_false_eq_true, true_or, or_true, false_or, or_false, and_self, ge_iff_le, gt_iff_lt]
  induction n with
  | zero => intro k N fu δ e n0 k0 k3 hN hn hf; have : k = -1 := by omega
            subst this; exact done N fu δ e hf
  | succ n ih =>
    intro k N fu δ e n0 k0 k3 hN hn hf
    by_cases q : k = -1
    · subst q; exact done N fu δ e (by omega)
    · obtain ⟨fu, rfl⟩ : ∃ q, fu = q + 1 := ⟨fu - 1, by omega⟩
      obtain ⟨δ', e1, F, e2, r⟩ := ih (k - 1) (N + 1) fu (sI (sA δ 153 23 (zi N) (bv x1 k)) 154 23 (zi (N + 1))) sI_at (by omega) (by omega) (by omega) (by omega) (by omega) (by omega)
      rw [show N + 1 + (k - 1) + 1 = N + k + 1 by omega] at e1 e2 r
      refine ⟨δ', ?_, ((Fr.sA (S := S153) Fr.rf ⟨rfl, by decide, by decide⟩).sI ⟨rfl, by decide, by decide⟩).tr F, e2, fun i i0 i1 => ?_⟩
      · rw [← e1]
        simp (disch := omega) only [F_M_feed_30, F_M_feed_30_b, e, q1A, bv, ↓bnd_eq, bd2, bn2, Option.bind_some, Option.bind_none, ↓reduceIte, inb, zl, zi_add, zi_sub, zi_mul, zi_neg, zi_le_t, zi_le_f, zi_lt_t, zi_lt_f, zi_eq_t, zi_eq_f, if_true, if_false, ite_true, ite_false, true_and, and_true, false_and, and_false, not_true_eq_false, not_false_eq_true, true_or, or_true, false_or, or_false, and_self, ge_iff_le, gt_iff_lt]
        rw [show k + -1 = k - 1 by omega]
      · rw [r i i0 i1]
        show (if i < N + 1 then (sA δ 153 23 (zi N) (bv x1 k)).2.1 153 23 (zi i) else bv x1 (k - 1 - (i - (N + 1)))) = _
        rw [rAi]
        by_cases q1 : i < N
        · rw [if_pos (by omega), if_neg (fun e => by have := zi_inj e (by omega) (by omega); omega), if_pos q1]
        · rw [if_neg q1]
          by_cases q2 : i = N
          · rw [if_pos (by omega), if_pos (by rw [q2]), show k - (i - N) = k by omega]
          · rw [if_neg (by omega), show k - 1 - (i - (N + 1)) = k - (i - N) by omega]
end FE
theorem st_feed (x1 x2 : Int32) : S2 INV (F_Bs_feed x1 x2) (F_M_feed x1 x2) := by
  intro δ I
  obtain ⟨n, hn, e10, e154, ei⟩ := I.2.2.1
  obtain ⟨k, rfl, hk⟩ := zi_ex x2
  by_cases qk : 0 ≤ k ∧ k ≤ 4
  · have w1 : F_M_within (zi k) (zi 0) (zi 4) = zi 1 := by simp (disch := omega) only [F_M_within, ↓reduceIte, inb, zl, zi_add, zi_sub, zi_mul, zi_neg, zi_le_t, zi_le_f, zi_lt_t, zi_lt_f, zi_eq_t, zi_eq_f, if_true, if_false, ite_true, ite_false, true_and, and_true, false_and, and_false, not_true_eq_false, not_false_eq_true, true_or, or_true, false_or, or_false, and_self, ge_iff_le, gt_iff_lt]
    by_cases q : n + k ≤ 80
    · obtain ⟨d1, e1, F1, c1, r1⟩ := c_feed (x1 := x1) (x2 := zi k) 4 (k - 1) n FU δ e10 hn.1 (by omega) (by omega) (by omega) (by omega) (by unfold FU; omega)
      obtain ⟨d2, e2, F2, c2, r2⟩ := m_feed (x1 := x1) (x2 := zi k) 4 (k - 1) n FU d1 (by rw [(F1.2 154 23 (fun e => absurd e.1 (by decide))).1]; exact e154) hn.1 (by omega) (by omega) (by omega) (by omega) (by unfold FU; omega)
      have F : Fr (fun f a => (a = 14 ∧ 10 ≤ f ∧ f ≤ 11) ∨ (a = 23 ∧ 153 ≤ f ∧ f ≤ 154)) δ d2 := (Fr.to (S' := fun f a => (a = 14 ∧ 10 ≤ f ∧ f ≤ 11) ∨ (a = 23 ∧ 153 ≤ f ∧ f ≤ 154)) F1 (fun f a e => Or.inl e)).tr (F2.to (fun f a e => Or.inr e))
      refine ⟨zi (n + (k - 1) + 1), d1, d2, ?_, ?_, I.jr F (fun f a e => Or.inl ?_) (I.2.2.s5 F (fun f a e => Or.inl e) ⟨n + (k - 1) + 1, ⟨by omega, by omega⟩, ?_, c2, fun i i0 i1 => ?_⟩), by rw [F.1]⟩
      · simp (disch := omega) only [F_Bs_feed, e10, e1, ↓reduceIte, inb, zl, zi_add, zi_sub, zi_mul, zi_neg, zi_le_t, zi_le_f, zi_lt_t, zi_lt_f, zi_eq_t, zi_eq_f, if_true, if_false, ite_true, ite_false, true_and, and_true, false_and, and_false, not_true_eq_false, not_false_eq_true, true_or, or_true, false_or, or_false, and_self, ge_iff_le, gt_iff_lt]
      · have e154' : d1.1 154 23 = zi n := by rw [(F1.2 154 23 (fun e => absurd e.1 (by decide))).1]; exact e154
        simp (disch := omega) only [F_M_feed, ↓bnd_eq, bd2, bn2, Option.bind_some, Option.bind_none, w1, e154', e2, ↓reduceIte, inb, zl, zi_add, zi_sub, zi_mul, zi_neg, zi_le_t, zi_le_f, zi_lt_t, zi_lt_f, zi_eq_t, zi_eq_f, if_true, if_false, ite_true, ite_false, true_and, and_true, false_and, and_false, not_true_eq_false, not_false_eq_true, true_or, or_true, false_or, or_false, and_self, ge_iff_le, gt_iff_lt]
      · show (a = 14 ∧ 10 ≤ f ∧ f ≤ 11) ∨ (16 ≤ a ∧ a ≤ 17 ∧ 80 ≤ f ∧ f ≤ 85) ∨ (a = 0 ∧ 103 ≤ f ∧ f ≤ 107) ∨ (a = 15 ∧ 10 ≤ f ∧ f ≤ 11) ∨ (19 ≤ a ∧ a ≤ 22 ∧ 22 ≤ f ∧ f ≤ 23) ∨ (a = 18 ∧ 60 ≤ f ∧ f ≤ 62) ∨ (a = 23 ∧ ((153 ≤ f ∧ f ≤ 173) ∨ f = 177))
        omega
      · rw [(F2.2 10 14 (fun e => absurd e.1 (by decide))).1]; exact c1
      · have a1 := r1 i i0 i1
        have a2 := r2 i i0 i1
        rw [(F2.2 11 14 (fun e => absurd e.1 (by decide))).2]
        rw [(F1.2 153 23 (fun e => absurd e.1 (by decide))).2] at a2
        rw [a1, a2]
        by_cases qi : i < n
        · rw [if_pos qi, if_pos qi]
          exact ei i i0 qi
        · rw [if_neg qi, if_neg qi]
          obtain ⟨c, hc, e⟩ := and255 (x1 >>> (zi (8 * (k - 1 - (i - n))) &&& zi 31))
          exact ⟨c, hc, e, e⟩
    · refine ⟨zi (-4), δ, δ, ?_, ?_, I, rfl⟩
      · simp (disch := omega) only [F_Bs_feed, e10, ↓reduceIte, inb, zl, zi_add, zi_sub, zi_mul, zi_neg, zi_le_t, zi_le_f, zi_lt_t, zi_lt_f, zi_eq_t, zi_eq_f, if_true, if_false, ite_true, ite_false, true_and, and_true, false_and, and_false, not_true_eq_false, not_false_eq_true, true_or, or_true, false_or, or_false, and_self, ge_iff_le, gt_iff_lt]
      · simp (disch := omega) only [F_M_feed, ↓bnd_eq, bd2, bn2, Option.bind_some, Option.bind_none, w1, e154, ↓reduceIte, inb, zl, zi_add, zi_sub, zi_mul, zi_neg, zi_le_t, zi_le_f, zi_lt_t, zi_lt_f, zi_eq_t, zi_eq_f, if_true, if_false, ite_true, ite_false, true_and, and_true, false_and, and_false, not_true_eq_false, not_false_eq_true, true_or, or_true, false_or, or_false, and_self, ge_iff_le, gt_iff_lt]
  · refine ⟨zi (-2), δ, δ, ?_, ?_, I, rfl⟩
    · by_cases q0 : k < 0
      · simp (disch := omega) only [F_Bs_feed, ↓reduceIte, inb, zl, zi_add, zi_sub, zi_mul, zi_neg, zi_le_t, zi_le_f, zi_lt_t, zi_lt_f, zi_eq_t, zi_eq_f, if_true, if_false, ite_true, ite_false, true_and, and_true, false_and, and_false, not_true_eq_false, not_false_eq_true, true_or, or_true, false_or, or_false, and_self, ge_iff_le, gt_iff_lt]
      · simp (disch := omega) only [F_Bs_feed, ↓reduceIte, inb, zl, zi_add, zi_sub, zi_mul, zi_neg, zi_le_t, zi_le_f, zi_lt_t, zi_lt_f, zi_eq_t, zi_eq_f, if_true, if_false, ite_true, ite_false, true_and, and_true, false_and, and_false, not_true_eq_false, not_false_eq_true, true_or, or_true, false_or, or_false, and_self, ge_iff_le, gt_iff_lt]
    · by_cases q0 : k < 0
      · simp (disch := omega) only [F_M_feed, F_M_within, ↓bnd_eq, bd2, bn2, Option.bind_some, Option.bind_none, ↓reduceIte, inb, zl, zi_add, zi_sub, zi_mul, zi_neg, zi_le_t, zi_le_f, zi_lt_t, zi_lt_f, zi_eq_t, zi_eq_f, if_true, if_false, ite_true, ite_false, true_and, and_true, false_and, and_false, not_true_eq_false, not_false_eq_true, true_or, or_true, false_or, or_false, and_self, ge_iff_le, gt_iff_lt]
      · simp (disch := omega) only [F_M_feed, F_M_within, ↓bnd_eq, bd2, bn2, Option.bind_some, Option.bind_none, ↓reduceIte, inb, zl, zi_add, zi_sub, zi_mul, zi_neg, zi_le_t, zi_le_f, zi_lt_t, zi_lt_f, zi_eq_t, zi_eq_f, if_true, if_false, ite_true, ite_false, true_and, and_true, false_and, and_false, not_true_eq_false, not_false_eq_true, true_or, or_true, false_or, or_false, and_self, ge_iff_le, gt_iff_lt]
