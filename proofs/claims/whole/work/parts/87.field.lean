/-! reading a field, a whole part, on both sides (wip/whole/pure) -/
def fO (b : Int) : Int := if b = 120 then 0 else if b = 121 then 1 else if b = 104 then 2 else if b = 118 then 3 else if b = 98 then 4 else if b = 103 then 5 else if b = 115 then 6 else -1
theorem fO_dec : ∀ k : Nat, k < 257 → F_Wi_fieldOf (zi ((k : Int) - 1)) = zi (fO ((k : Int) - 1)) := by decide +kernel
theorem fO_of {b : Int} (hb : -1 ≤ b ∧ b ≤ 255) : F_Wi_fieldOf (zi b) = zi (fO b) := by
  have := fO_dec (b + 1).toNat (by omega)
  rw [show (((b + 1).toNat : Nat) : Int) - 1 = b by omega] at this
  exact this
theorem fO_ch {b : Int} : (fO b = -1 ∧ b ≠ 120 ∧ b ≠ 121 ∧ b ≠ 118 ∧ b ≠ 104 ∧ b ≠ 98 ∧ b ≠ 103 ∧ b ≠ 115) ∨ ((0 ≤ fO b ∧ fO b ≤ 4) ∧ fch (fO b) = b ∧ (b = 120 ∨ b = 121 ∨ b = 118 ∨ b = 104 ∨ b = 98)) ∨ ((5 ≤ fO b ∧ fO b ≤ 6) ∧ fch (fO b) = b ∧ (b = 103 ∨ b = 115)) := by
  by_cases h1 : b = 120
  · subst h1; exact Or.inr (Or.inl (by decide))
  by_cases h2 : b = 121
  · subst h2; exact Or.inr (Or.inl (by decide))
  by_cases h3 : b = 104
  · subst h3; exact Or.inr (Or.inl (by decide))
  by_cases h4 : b = 118
  · subst h4; exact Or.inr (Or.inl (by decide))
  by_cases h5 : b = 98
  · subst h5; exact Or.inr (Or.inl (by decide))
  by_cases h6 : b = 103
  · subst h6; exact Or.inr (Or.inr (by decide))
  by_cases h7 : b = 115
  · subst h7; exact Or.inr (Or.inr (by decide))
  refine Or.inl ⟨?_, h1, h2, h4, h3, h5, h6, h7⟩
  unfold fO
  rw [if_neg h1, if_neg h2, if_neg h3, if_neg h4, if_neg h5, if_neg h6, if_neg h7]
section FD
variable {n : Int} {T : Int → Int} {c m : Dl} {w : Nat} {i : Int}
/-- a part read, on both sides -/
def PP (w : Nat) (i : Int) (x2 : Int32) (c c' m m' : Dl) : Prop := ∃ f x o b : Int, (0 ≤ f ∧ f ≤ 6) ∧ (f ≤ 4 → 0 ≤ x ∧ x ≤ 2) ∧ (o = 60 ∨ o = 61 ∨ o = 62) ∧ (-999 ≤ b ∧ b ≤ 999) ∧ m'.2.1 178 23 (zi i) = x2 ∧ m'.2.1 179 23 (zi i) = zi (fch f) ∧ c'.2.1 82 w (zi i) = zi f ∧ (f ≤ 4 → m'.2.1 180 23 (zi i) = zi x ∧ c'.2.1 83 w (zi i) = zi x) ∧ m'.2.1 181 23 (zi i) = zi o ∧ c'.2.1 84 w (zi i) = zi o ∧ m'.2.1 182 23 (zi i) = zi b ∧ c'.2.1 85 w (zi i) = zi b ∧
  (∀ f, 82 ≤ f → f ≤ 85 → ∀ j, 0 ≤ j → j < 4 → j ≠ i → c'.2.1 f w (zi j) = c.2.1 f w (zi j)) ∧ ∀ f, 178 ≤ f → f ≤ 182 → ∀ j, 0 ≤ j → j < 4 → j ≠ i → m'.2.1 f 23 (zi j) = m.2.1 f 23 (zi j)
/-- the class's rest of a part, from the field on -/
def cE (w : Nat) (i : Int) (δ24 : Dl) : Option (Int32 × Dl) := bd2 (F_Wi_readField w 14 (zi i) δ24) fun v33 δ33 => if v33 = 0 then (some (0, δ33)) else (bd2 (F_Wi_readSign w 14 (zi i) δ33) fun v42 δ42 => if v42 = 0 then (some (0, δ42)) else (bd2 (F_Wi_readNumber w 14 (zi i) δ42) fun v51 δ51 => if v51 = 0 then (some (0, δ51)) else (some (1, δ51))))
abbrev SWr (w : Nat) : Nat → Nat → Prop := fun f a => a = w ∧ 82 ≤ f ∧ f ≤ 86
theorem lk_fd (tw : TW n T) (hw : w = 16 ∨ w = 17) (hi : 0 ≤ i ∧ i < 4) {x2 : Int32} {p : Int} (hc : TPc n T c) (hm : TPm n T m) (p0 : 0 ≤ p) (p1 : p ≤ n) (e86 : c.1 86 w = zi p) (R : RD p 0 m) :
    ∃ (p' : Int) (ok : Bool) (c' m' : Dl), (p ≤ p' ∧ p' ≤ n) ∧ cE w i c = some (zi (oz ok), c') ∧ rE (zi i) x2 m = some m' ∧ c'.1 86 w = zi p' ∧ RD p' (fz ok) m' ∧ Fr (SWr w) c c' ∧ Fr SPm m m' ∧ (ok = true → PP w i x2 c c' m m') := by
  have hn := tw.1
  have ec := c_at tw hc p0 p1
  have em := m_at tw hm p0 p1
  have hb := bt_b tw p0
  have hf := fO_of (b := bt n T p) ⟨hb.1, hb.2.1⟩
  have z1 : (1 : Int32) = zi 1 := zl 1
  have toN : ∀ {k : Int} {x : Int32}, x = zi k → (-2147483648 ≤ k ∧ k < 2147483648) → bt n T p ≠ k → ¬ zi (bt n T p) = x := fun hx hk h e => h (zi_inj (e.trans hx) (by omega) hk)
  -- the reference's way into the field
  obtain ⟨R1, F1⟩ := rd176 (x := zi 0) R rfl
  obtain ⟨R2, F2⟩ := rd175 (x := zi p + zi 1) R1 (u := p + 1) (zi_add p 1)
  have hm2 := (hm.s175 F1).s175 F2
  have e185 : ∀ x3 x4, F_M_readsPart_185 (zi i) x2 x3 x4 m = F_M_readsPart_206 (zi i) x2 x3 x4 (zi 1) (zi p) (sI m 176 23 (zi 0)) := by
    intro x3 x4
    unfold F_M_readsPart_185 F_M_readsPart_186
    rw [zl0, if_pos (by decide), bnd_eq, R1.2, if_pos rfl, R1.1, z1]
  have eE : rE (zi i) x2 m = if (bt n T p = 120 ∨ bt n T p = 121 ∨ bt n T p = 118 ∨ bt n T p = 104 ∨ bt n T p = 98) then F_M_readsPart_154 (zi i) x2 (zi (bt n T p)) (zi 1) m else F_M_readsPart_154 (zi i) x2 (zi (bt n T p)) (zi 0) m := by
    unfold rE F_M_readsPart_149
    rw [R.1, bse em, z1, zl0]
    by_cases q1 : bt n T p = 120
    · rw [if_pos (by rw [q1]; decide), if_pos (Or.inl q1)]
    rw [if_neg (toN (zl 120) (by decide) q1)]
    by_cases q2 : bt n T p = 121
    · rw [if_pos (by rw [q2]; decide), if_pos (Or.inr (Or.inl q2))]
    rw [if_neg (toN (zl 121) (by decide) q2)]
    by_cases q3 : bt n T p = 118
    · rw [if_pos (by rw [q3]; decide), if_pos (Or.inr (Or.inr (Or.inl q3)))]
    rw [if_neg (toN (zl 118) (by decide) q3)]
    by_cases q4 : bt n T p = 104
    · rw [if_pos (by rw [q4]; decide), if_pos (Or.inr (Or.inr (Or.inr (Or.inl q4))))]
    rw [if_neg (toN (zl 104) (by decide) q4)]
    by_cases q5 : bt n T p = 98
    · rw [if_pos (by rw [q5]; decide), if_pos (Or.inr (Or.inr (Or.inr (Or.inr q5))))]
    rw [if_neg (toN (zl 98) (by decide) q5), if_neg (by omega)]
  rcases fO_ch (b := bt n T p) with ⟨h1, n1, n2, n3, n4, n5, n6, n7⟩ | ⟨h1, h2, h3⟩ | ⟨h1, h2, h3⟩
  · -- no field
    rw [h1] at hf
    have ef : F_Wi_readField w 14 (zi i) c = some (zi 0, c) := by
      simp (disch := omega) only [F_Wi_readField, e86, ↓bse ec, hf, ↓bnd_eq, bd2, bn2, Option.bind_some, Option.bind_none, ↓reduceIte, inb, zl, zi_add, zi_sub, zi_mul, zi_neg, zi_le_t, zi_le_f, zi_lt_t, zi_lt_f, zi_eq_t, zi_eq_f, if_true, if_false, ite_true, ite_false, true_and, and_true, false_and, and_false, not_true_eq_false, not_false_eq_true, true_or, or_true, false_or, or_false, and_self, ge_iff_le, gt_iff_lt]
    obtain ⟨m', g1, g2, g3⟩ := m_206_no (x2 := x2) (x3 := zi (bt n T p)) (x4 := zi 0) tw hm hi p0 p1 R
    refine ⟨p, false, c, m', ⟨Int.le_refl _, p1⟩, ?_, ?_, e86, g2, Fr.rf, g3, fun e => absurd e (by decide)⟩
    · unfold cE
      rw [b2e ef, if_pos (by decide), zl0]
      rfl
    · rw [eE, if_neg (by omega)]
      unfold F_M_readsPart_154
      rw [R.2, if_pos (by decide), if_pos (by decide), if_neg (toN (zl 103) (by decide) n6), if_neg (toN (zl 115) (by decide) n7)]
      exact g1
  · -- a field of an actor
    have hpn : p < n := by have := hb.2.2.2; omega
    have ec1 := c_at tw hc (p := p + 1) (by omega) (by omega)
    have em1 := m_at tw hm2 (p := p + 1) (by omega) (by omega)
    have hb1 := bt_b tw (p := p + 1) (by omega)
    have e154 : F_M_readsPart_154 (zi i) x2 (zi (bt n T p)) (zi 1) m = F_M_readsPart_206 (zi i) x2 (zi (bt n T p)) (zi 1) (zi 1) (zi p) (sI m 176 23 (zi 0)) := by
      unfold F_M_readsPart_154
      rw [R.2, if_pos (by decide), if_neg (by decide), e185]
    have FC : Fr (SWr w) c (sA (sI c 86 w (zi (p + 1))) 82 w (zi i) (zi (fO (bt n T p)))) := (Fr.rf.sI ⟨rfl, by decide, by decide⟩).sA ⟨rfl, by decide, by decide⟩
    by_cases qa : 48 ≤ bt n T (p + 1) ∧ bt n T (p + 1) ≤ 50
    · have hp2 : p + 1 < n := by have := hb1.2.2.2; omega
      have FC2 : Fr (SWr w) c (sA (sI (sA (sI c 86 w (zi (p + 1))) 82 w (zi i) (zi (fO (bt n T p)))) 86 w (zi (p + 1 + 1))) 83 w (zi i) (zi (bt n T (p + 1) - 48))) := (FC.sI ⟨rfl, by decide, by decide⟩).sA ⟨rfl, by decide, by decide⟩
      have ef : F_Wi_readField w 14 (zi i) c = some (zi 1, sA (sI (sA (sI c 86 w (zi (p + 1))) 82 w (zi i) (zi (fO (bt n T p)))) 86 w (zi (p + 1 + 1))) 83 w (zi i) (zi (bt n T (p + 1) - 48))) := by
        have ec1' := c_at (c := sA (sI c 86 w (zi (p + 1))) 82 w (zi i) (zi (fO (bt n T p)))) tw (hc.fr FC (fun e => absurd e.2 (by decide)) (fun e => absurd e.2 (by decide))) (p := p + 1) (by omega) (by omega)
        have e86' : (sA (sI c 86 w (zi (p + 1))) 82 w (zi i) (zi (fO (bt n T p)))).1 86 w = zi (p + 1) := sI_at
        simp (disch := omega) only [F_Wi_readField, e86, ↓bse ec, hf, q1A, sI_at, ↓bse ec1', ↓bnd_eq, bd2, bn2, Option.bind_some, Option.bind_none, ↓reduceIte, inb, zl, zi_add, zi_sub, zi_mul, zi_neg, zi_le_t, zi_le_f, zi_lt_t, zi_lt_f, zi_eq_t, zi_eq_f, if_true, if_false, ite_true, ite_false, true_and, and_true, false_and, and_false, not_true_eq_false, not_false_eq_true, true_or, or_true, false_or, or_false, and_self, ge_iff_le, gt_iff_lt]
      obtain ⟨R3, F3⟩ := rd176 (x := zi 0) R2 rfl
      obtain ⟨R4, F4⟩ := rd175 (x := zi (p + 1) + zi 1) R3 (u := p + 1 + 1) (zi_add (p + 1) 1)
      obtain ⟨p', ok, c', m', k1, k2, k3, k4, k5, k6, k7, k8⟩ := lk_sn (x2 := x2) (x3 := zi (bt n T p)) (x5 := zi (bt n T (p + 1))) tw hw hi (p := p + 1 + 1) (hc.fr FC2 (fun e => absurd e.2 (by decide)) (fun e => absurd e.2 (by decide))) ((hm2.s175 F3).s175 F4) (by omega) (by omega) (show (sI (sA (sI c 86 w (zi (p + 1))) 82 w (zi i) (zi (fO (bt n T p)))) 86 w (zi (p + 1 + 1))).1 86 w = _ from sI_at) R4
      have FC3 : Fr (SWr w) c c' := FC2.tr (k6.to (fun f a e => ⟨e.1, by omega, e.2.2⟩))
      refine ⟨p', ok, c', m', ⟨by omega, k1.2⟩, ?_, ?_, k4, k5, FC3, (((spm F1).tr (spm F2)).tr ((spm F3).tr (spm F4))).tr k7, fun hok => ?_⟩
      · unfold cE
        rw [b2e ef, if_neg (by decide)]
        exact k2
      · rw [eE, if_pos h3, e154]
        unfold F_M_readsPart_206
        rw [bnd_eq, R2.1, bse em1, if_neg (by decide), R2.2, if_pos (by decide), bnd_eq]
        have ew : F_M_within (zi (bt n T (p + 1))) 48 50 = zi 1 := by simp (disch := omega) only [F_M_within, ↓reduceIte, inb, zl, zi_add, zi_sub, zi_mul, zi_neg, zi_le_t, zi_le_f, zi_lt_t, zi_lt_f, zi_eq_t, zi_eq_f, if_true, if_false, ite_true, ite_false, true_and, and_true, false_and, and_false, not_true_eq_false, not_false_eq_true, true_or, or_true, false_or, or_false, and_self, ge_iff_le, gt_iff_lt]
        rw [ew, if_neg (by decide)]
        unfold F_M_readsPart_250
        rw [zl0, z1, if_pos (by decide), bnd_eq, R3.2, if_pos rfl, R3.1]
        unfold F_M_readsPart_270
        rw [bnd_eq]
        exact k3
      · obtain ⟨o, b, y1, y2, ⟨y3, y4, y5, y6, y7, y8⟩, y9, y10, y11⟩ := k8 hok
        refine ⟨fO (bt n T p), bt n T (p + 1) - 48, o, b, by omega, fun _ => by omega, y1, y2, y3, by rw [h2]; exact y4, ?_, fun _ => ⟨by rw [y5, zi_sub], ?_⟩, y6, y9, y7, y10, fun f f0 f1 j j0 j4 hj => ?_, fun f f0 f1 j j0 j4 hj => ?_⟩
        · rw [(k6.2 82 w (fun e => by omega)).2, rA (by decide)]
          show (sA (sI c 86 w (zi (p + 1))) 82 w (zi i) (zi (fO (bt n T p)))).2.1 82 w (zi i) = _
          rw [rAi, if_pos rfl]
        · rw [(k6.2 83 w (fun e => by omega)).2, rAi, if_pos rfl]
        · have hne : ¬ zi j = zi i := fun e => hj (zi_inj e (by omega) (by omega))
          have base : (sA (sI (sA (sI c 86 w (zi (p + 1))) 82 w (zi i) (zi (fO (bt n T p)))) 86 w (zi (p + 1 + 1))) 83 w (zi i) (zi (bt n T (p + 1) - 48))).2.1 f w (zi j) = c.2.1 f w (zi j) := by
            rw [rAn hne]
            show (sA (sI c 86 w (zi (p + 1))) 82 w (zi i) (zi (fO (bt n T p)))).2.1 f w (zi j) = _
            rw [rAn hne]
            rfl
          by_cases q : 84 ≤ f
          · rw [y11 f q f1 j j0 j4 hj, base]
          · rw [(k6.2 f w (fun e => by omega)).2, base]
        · rw [y8 f f0 f1 j j0 j4 hj]
          rfl
    · have ef : F_Wi_readField w 14 (zi i) c = some (zi 0, sA (sI c 86 w (zi (p + 1))) 82 w (zi i) (zi (fO (bt n T p)))) := by
        have ec1' := c_at (c := sA (sI c 86 w (zi (p + 1))) 82 w (zi i) (zi (fO (bt n T p)))) tw (hc.fr FC (fun e => absurd e.2 (by decide)) (fun e => absurd e.2 (by decide))) (p := p + 1) (by omega) (by omega)
        have e86' : (sA (sI c 86 w (zi (p + 1))) 82 w (zi i) (zi (fO (bt n T p)))).1 86 w = zi (p + 1) := sI_at
        by_cases q0 : bt n T (p + 1) < 48
        · simp (disch := omega) only [F_Wi_readField, e86, ↓bse ec, hf, q1A, sI_at, ↓bse ec1', ↓bnd_eq, bd2, bn2, Option.bind_some, Option.bind_none, ↓reduceIte, inb, zl, zi_add, zi_sub, zi_mul, zi_neg, zi_le_t, zi_le_f, zi_lt_t, zi_lt_f, zi_eq_t, zi_eq_f, if_true, if_false, ite_true, ite_false, true_and, and_true, false_and, and_false, not_true_eq_false, not_false_eq_true, true_or, or_true, false_or, or_false, and_self, ge_iff_le, gt_iff_lt]
        · simp (disch := omega) only [F_Wi_readField, e86, ↓bse ec, hf, q1A, sI_at, ↓bse ec1', ↓bnd_eq, bd2, bn2, Option.bind_some, Option.bind_none, ↓reduceIte, inb, zl, zi_add, zi_sub, zi_mul, zi_neg, zi_le_t, zi_le_f, zi_lt_t, zi_lt_f, zi_eq_t, zi_eq_f, if_true, if_false, ite_true, ite_false, true_and, and_true, false_and, and_false, not_true_eq_false, not_false_eq_true, true_or, or_true, false_or, or_false, and_self, ge_iff_le, gt_iff_lt]
      obtain ⟨m', g1, g2, g3⟩ := m_250_no (x2 := x2) (x3 := zi (bt n T p)) (x5 := zi (bt n T (p + 1))) tw hm2 hi (p := p + 1) (by omega) (by omega) R2
      refine ⟨p + 1, false, sA (sI c 86 w (zi (p + 1))) 82 w (zi i) (zi (fO (bt n T p))), m', ⟨by omega, by omega⟩, ?_, ?_, (show (sI c 86 w (zi (p + 1))).1 86 w = zi (p + 1) from sI_at), g2, FC, ((spm F1).tr (spm F2)).tr g3, fun e => absurd e (by decide)⟩
      · unfold cE
        rw [b2e ef, if_pos (by decide), zl0]
        rfl
      · rw [eE, if_pos h3, e154]
        unfold F_M_readsPart_206
        rw [bnd_eq, R2.1, bse em1, if_neg (by decide), R2.2, if_pos (by decide), bnd_eq]
        have ew : F_M_within (zi (bt n T (p + 1))) 48 50 = zi 0 := by
          by_cases q0 : bt n T (p + 1) < 48
          · simp (disch := omega) only [F_M_within, ↓reduceIte, inb, zl, zi_add, zi_sub, zi_mul, zi_neg, zi_le_t, zi_le_f, zi_lt_t, zi_lt_f, zi_eq_t, zi_eq_f, if_true, if_false, ite_true, ite_false, true_and, and_true, false_and, and_false, not_true_eq_false, not_false_eq_true, true_or, or_true, false_or, or_false, and_self, ge_iff_le, gt_iff_lt]
          · simp (disch := omega) only [F_M_within, ↓reduceIte, inb, zl, zi_add, zi_sub, zi_mul, zi_neg, zi_le_t, zi_le_f, zi_lt_t, zi_lt_f, zi_eq_t, zi_eq_f, if_true, if_false, ite_true, ite_false, true_and, and_true, false_and, and_false, not_true_eq_false, not_false_eq_true, true_or, or_true, false_or, or_false, and_self, ge_iff_le, gt_iff_lt]
        rw [ew, if_pos (by decide)]
        exact g1
  · -- a field of the stage
    have hpn : p < n := by have := hb.2.2.2; omega
    have em1 := m_at tw hm2 (p := p + 1) (by omega) (by omega)
    have FC : Fr (SWr w) c (sA (sI c 86 w (zi (p + 1))) 82 w (zi i) (zi (fO (bt n T p)))) := (Fr.rf.sI ⟨rfl, by decide, by decide⟩).sA ⟨rfl, by decide, by decide⟩
    have ef : F_Wi_readField w 14 (zi i) c = some (zi 1, sA (sI c 86 w (zi (p + 1))) 82 w (zi i) (zi (fO (bt n T p)))) := by
      simp (disch := omega) only [F_Wi_readField, e86, ↓bse ec, hf, q1A, sI_at, ↓bnd_eq, bd2, bn2, Option.bind_some, Option.bind_none, ↓reduceIte, inb, zl, zi_add, zi_sub, zi_mul, zi_neg, zi_le_t, zi_le_f, zi_lt_t, zi_lt_f, zi_eq_t, zi_eq_f, if_true, if_false, ite_true, ite_false, true_and, and_true, false_and, and_false, not_true_eq_false, not_false_eq_true, true_or, or_true, false_or, or_false, and_self, ge_iff_le, gt_iff_lt]
    obtain ⟨p', ok, c', m', k1, k2, k3, k4, k5, k6, k7, k8⟩ := lk_sn (x2 := x2) (x3 := zi (bt n T p)) (x5 := zi (bt n T (p + 1))) tw hw hi (p := p + 1) (hc.fr FC (fun e => absurd e.2 (by decide)) (fun e => absurd e.2 (by decide))) hm2 (by omega) (by omega) (show (sI c 86 w (zi (p + 1))).1 86 w = _ from sI_at) R2
    have FC3 : Fr (SWr w) c c' := FC.tr (k6.to (fun f a e => ⟨e.1, by omega, e.2.2⟩))
    refine ⟨p', ok, c', m', ⟨by omega, k1.2⟩, ?_, ?_, k4, k5, FC3, ((spm F1).tr (spm F2)).tr k7, fun hok => ?_⟩
    · unfold cE
      rw [b2e ef, if_neg (by decide)]
      exact k2
    · rw [eE, if_neg (by omega)]
      unfold F_M_readsPart_154
      rw [R.2, if_pos (by decide), if_pos (by decide)]
      have e206 : F_M_readsPart_206 (zi i) x2 (zi (bt n T p)) (zi 0) (zi 1) (zi p) (sI m 176 23 (zi 0)) = some m' := by
        unfold F_M_readsPart_206
        rw [bnd_eq, R2.1, bse em1, if_pos (by decide)]
        exact k3
      rcases h3 with h3 | h3
      · rw [if_pos (by rw [h3]; decide), e185]
        exact e206
      · rw [if_neg (by rw [h3]; decide), if_pos (by rw [h3]; decide), e185]
        exact e206
    · obtain ⟨o, b, y1, y2, ⟨y3, y4, y5, y6, y7, y8⟩, y9, y10, y11⟩ := k8 hok
      refine ⟨fO (bt n T p), 0, o, b, by omega, fun _ => by omega, y1, y2, y3, by rw [h2]; exact y4, ?_, fun e => by omega, y6, y9, y7, y10, fun f f0 f1 j j0 j4 hj => ?_, fun f f0 f1 j j0 j4 hj => ?_⟩
      · rw [(k6.2 82 w (fun e => by omega)).2, rAi, if_pos rfl]
      · have hne : ¬ zi j = zi i := fun e => hj (zi_inj e (by omega) (by omega))
        have base : (sA (sI c 86 w (zi (p + 1))) 82 w (zi i) (zi (fO (bt n T p)))).2.1 f w (zi j) = c.2.1 f w (zi j) := by
          rw [rAn hne]
          rfl
        by_cases q : 84 ≤ f
        · rw [y11 f q f1 j j0 j4 hj, base]
        · rw [(k6.2 f w (fun e => by omega)).2, base]
      · rw [y8 f f0 f1 j j0 j4 hj]
        rfl
end FD
