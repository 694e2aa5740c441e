/-! reading a number, a sign, a field, on both sides (wip/whole/pure) -/
/-- the reference's state of reading -/
def RD (p fl : Int) (m : Dl) : Prop := m.1 175 23 = zi p ∧ m.1 176 23 = zi fl
section NU
variable {n : Int} {T : Int → Int} {c m : Dl} {w : Nat} {i : Int}
theorem rd175 {p : Int} {fl : Int} (h : RD p fl m) {x : Int32} {u : Int} (hx : x = zi u) : RD u fl (sI m 175 23 x) ∧ Fr S175 m (sI m 175 23 x) := by
  refine ⟨⟨by rw [sI_at, hx], by rw [q1I, if_neg (by decide)]; exact h.2⟩, Fr.rf.sI ⟨rfl, by decide, by decide⟩⟩
theorem rd176 {p : Int} {fl : Int} (h : RD p fl m) {x : Int32} {u : Int} (hx : x = zi u) : RD p u (sI m 176 23 x) ∧ Fr S175 m (sI m 176 23 x) := by
  refine ⟨⟨by rw [q1I, if_neg (by decide)]; exact h.1, by rw [sI_at, hx]⟩, Fr.rf.sI ⟨rfl, by decide, by decide⟩⟩
/-- the reference's number, read in a faulted state -/
theorem m_num_no {p : Int} (hp : 0 ≤ p ∧ p ≤ 80) (R : RD p 1 m) : ∃ b m', F_M_readsNumber m = some (b, m') ∧ RD p 1 m' ∧ Fr S175 m m' := by
  obtain ⟨R1, F1⟩ := rd175 (x := zi (p + 0)) R (show zi (p + 0) = zi p by rw [Int.add_zero])
  obtain ⟨R2, F2⟩ := rd176 (x := zi 1) R1 rfl
  have e175 := R.1
  have e176 := R.2
  have k176 := R1.2
  refine ⟨zi 0, sI (sI m 175 23 (zi (p + 0))) 176 23 (zi 1), ?_, R2, F1.tr F2⟩
  have e48 : ∀ f, 0 < f → F_M_readsNumber_48 f (zi 0) (zi 0) (zi 0) (sI m 175 23 (zi (p + 0))) = some (zi 0, sI (sI m 175 23 (zi (p + 0))) 176 23 (zi 1)) := by
    intro f hf
    obtain ⟨f, rfl⟩ : ∃ q, f = q + 1 := ⟨f - 1, by omega⟩
    show F_M_readsNumber_48_b (F_M_readsNumber_48 f) (zi 0) (zi 0) (zi 0) (sI m 175 23 (zi (p + 0))) = _
    unfold F_M_readsNumber_48_b F_M_readsNumber_111 F_M_readsNumber_123 F_M_readsNumber_128
    rw [k176, if_neg (by decide), if_neg (by decide), if_pos (by decide), bnd_eq, if_pos (by decide), show (1 : Int32) = zi 1 from zl 1]
  unfold F_M_readsNumber F_M_readsNumber_24 F_M_readsNumber_25
  rw [e176, if_neg (by decide), if_pos (by decide), e175]
  unfold F_M_readsNumber_40
  rw [bnd_eq, zl0, zi_add]
  exact e48 FU (by unfold FU; omega)
/-- the digits -/
theorem lk_digits (tw : TW n T) (hw : w = 16 ∨ w = 17) (hi : 0 ≤ i ∧ i < 4) {s : Int} (hs : s = 0 ∨ s = 1) : ∀ (j : Nat) (d u p : Int) (fu f2 : Nat) (c m : Dl), d + j = 3 → j < fu → j < f2 → 0 ≤ d → TPc n T c → TPm n T m → 0 ≤ p → p ≤ n → c.1 86 w = zi p → RD p 0 m → (d = 0 ∧ u = 0 ∨ d = 1 ∧ 0 ≤ u ∧ u ≤ 9 ∨ d = 2 ∧ 0 ≤ u ∧ u ≤ 99 ∨ d = 3 ∧ 0 ≤ u ∧ u ≤ 999) →
    ∃ (b p' : Int) (ok : Bool) (c' m' : Dl), (-999 ≤ b ∧ b ≤ 999) ∧ (p ≤ p' ∧ p' ≤ n) ∧ F_Wi_readNumber_50 w 14 (zi i) fu (zi s) (zi u) (zi d) c = some (zi (oz ok), c') ∧ F_M_readsNumber_48 f2 (zi s) (zi u) (zi d) m = some (zi b, m') ∧ c'.1 86 w = zi p' ∧ RD p' (fz ok) m' ∧ c'.2.1 85 w (zi i) = zi b ∧ (∀ j, 0 ≤ j → j < 4 → j ≠ i → c'.2.1 85 w (zi j) = c.2.1 85 w (zi j)) ∧ Fr (fun f a => a = w ∧ 85 ≤ f ∧ f ≤ 86) c c' ∧ Fr S175 m m' := by
  have hn := tw.1
  have z1 : (1 : Int32) = zi 1 := zl 1
  -- the end
  have fin : ∀ (d u p : Int) (c m : Dl), 0 ≤ d → d ≤ 3 → 0 ≤ p → p ≤ n → c.1 86 w = zi p → RD p 0 m → (d = 0 ∧ u = 0 ∨ d = 1 ∧ 0 ≤ u ∧ u ≤ 9 ∨ d = 2 ∧ 0 ≤ u ∧ u ≤ 99 ∨ d = 3 ∧ 0 ≤ u ∧ u ≤ 999) →
      ∃ (b p' : Int) (ok : Bool) (c' m' : Dl), (-999 ≤ b ∧ b ≤ 999) ∧ (p ≤ p' ∧ p' ≤ n) ∧ F_Wi_readNumber_117 w 14 (zi i) (zi s) (zi u) (zi d) c = some (zi (oz ok), c') ∧ F_M_readsNumber_111 (zi s) (zi u) (zi d) m = some (zi b, m') ∧ c'.1 86 w = zi p' ∧ RD p' (fz ok) m' ∧ c'.2.1 85 w (zi i) = zi b ∧ (∀ j, 0 ≤ j → j < 4 → j ≠ i → c'.2.1 85 w (zi j) = c.2.1 85 w (zi j)) ∧ Fr (fun f a => a = w ∧ 85 ≤ f ∧ f ≤ 86) c c' ∧ Fr S175 m m' := by
    intro d u p c m d0 d3 p0 p1 e86 R hu
    have e176 := R.2
    have hb : -999 ≤ (if s = 0 then u else -u) ∧ (if s = 0 then u else -u) ≤ 999 := by
      rcases hs with rfl | rfl
      · rw [if_pos rfl]; omega
      · rw [if_neg (by decide)]; omega
    refine ⟨if s = 0 then u else -u, p, decide (0 < d), sA c 85 w (zi i) (zi (if s = 0 then u else -u)), sI m 176 23 (zi (fz (decide (0 < d)))), hb, ⟨Int.le_refl _, p1⟩, ?_, ?_, e86, (rd176 R rfl).1, by rw [rAi, if_pos rfl], fun j j0 j4 hj => by rw [rAi, if_neg (fun e => hj (zi_inj e (by omega) (by omega)))], Fr.rf.sA ⟨rfl, by decide, by decide⟩, (rd176 R rfl).2⟩
    · rcases hs with rfl | rfl
      · rw [if_pos rfl]
        by_cases qd : d = 0
        · subst qd
          simp (disch := omega) only [F_Wi_readNumber_117, F_Wi_readNumber_134, ↓bnd_eq, bd2, bn2, Option.bind_some, Option.bind_none, ↓reduceIte, inb, zl, zi_add, zi_sub, zi_mul, zi_neg, zi_le_t, zi_le_f, zi_lt_t, zi_lt_f, zi_eq_t, zi_eq_f, if_true, if_false, ite_true, ite_false, true_and, and_true, false_and, and_false, not_true_eq_false, not_false_eq_true, true_or, or_true, false_or, or_false, and_self, ge_iff_le, gt_iff_lt]
          rfl
        · rw [decide_eq_true (show 0 < d by omega)]
          simp (disch := omega) only [F_Wi_readNumber_117, F_Wi_readNumber_134, ↓bnd_eq, bd2, bn2, Option.bind_some, Option.bind_none, ↓reduceIte, inb, zl, zi_add, zi_sub, zi_mul, zi_neg, zi_le_t, zi_le_f, zi_lt_t, zi_lt_f, zi_eq_t, zi_eq_f, if_true, if_false, ite_true, ite_false, true_and, and_true, false_and, and_false, not_true_eq_false, not_false_eq_true, true_or, or_true, false_or, or_false, and_self, ge_iff_le, gt_iff_lt]
          rfl
      · rw [if_neg (by decide)]
        by_cases qd : d = 0
        · subst qd
          simp (disch := omega) only [F_Wi_readNumber_117, F_Wi_readNumber_134, ↓bnd_eq, bd2, bn2, Option.bind_some, Option.bind_none, ↓reduceIte, inb, zl, zi_add, zi_sub, zi_mul, zi_neg, zi_le_t, zi_le_f, zi_lt_t, zi_lt_f, zi_eq_t, zi_eq_f, if_true, if_false, ite_true, ite_false, true_and, and_true, false_and, and_false, not_true_eq_false, not_false_eq_true, true_or, or_true, false_or, or_false, and_self, ge_iff_le, gt_iff_lt]
          rfl
        · rw [decide_eq_true (show 0 < d by omega)]
          simp (disch := omega) only [F_Wi_readNumber_117, F_Wi_readNumber_134, ↓bnd_eq, bd2, bn2, Option.bind_some, Option.bind_none, ↓reduceIte, inb, zl, zi_add, zi_sub, zi_mul, zi_neg, zi_le_t, zi_le_f, zi_lt_t, zi_lt_f, zi_eq_t, zi_eq_f, if_true, if_false, ite_true, ite_false, true_and, and_true, false_and, and_false, not_true_eq_false, not_false_eq_true, true_or, or_true, false_or, or_false, and_self, ge_iff_le, gt_iff_lt]
          rfl
    · rcases hs with rfl | rfl
      · rw [if_pos rfl]
        by_cases qd : d = 0
        · subst qd
          show F_M_readsNumber_111 (zi 0) (zi u) (zi 0) m = some (zi u, sI m 176 23 (zi 1))
          simp (disch := omega) only [F_M_readsNumber_111, F_M_readsNumber_123, F_M_readsNumber_128, e176, ↓bnd_eq, bd2, bn2, Option.bind_some, Option.bind_none, ↓reduceIte, inb, zl, zi_add, zi_sub, zi_mul, zi_neg, zi_le_t, zi_le_f, zi_lt_t, zi_lt_f, zi_eq_t, zi_eq_f, if_true, if_false, ite_true, ite_false, true_and, and_true, false_and, and_false, not_true_eq_false, not_false_eq_true, true_or, or_true, false_or, or_false, and_self, ge_iff_le, gt_iff_lt]
        · rw [decide_eq_true (show 0 < d by omega)]
          show F_M_readsNumber_111 (zi 0) (zi u) (zi d) m = some (zi u, sI m 176 23 (zi 0))
          simp (disch := omega) only [F_M_readsNumber_111, F_M_readsNumber_128, e176, ↓bnd_eq, bd2, bn2, Option.bind_some, Option.bind_none, ↓reduceIte, inb, zl, zi_add, zi_sub, zi_mul, zi_neg, zi_le_t, zi_le_f, zi_lt_t, zi_lt_f, zi_eq_t, zi_eq_f, if_true, if_false, ite_true, ite_false, true_and, and_true, false_and, and_false, not_true_eq_false, not_false_eq_true, true_or, or_true, false_or, or_false, and_self, ge_iff_le, gt_iff_lt]
      · rw [if_neg (by decide)]
        by_cases qd : d = 0
        · subst qd
          show F_M_readsNumber_111 (zi 1) (zi u) (zi 0) m = some (zi (-u), sI m 176 23 (zi 1))
          simp (disch := omega) only [F_M_readsNumber_111, F_M_readsNumber_123, F_M_readsNumber_128, e176, ↓bnd_eq, bd2, bn2, Option.bind_some, Option.bind_none, ↓reduceIte, inb, zl, zi_add, zi_sub, zi_mul, zi_neg, zi_le_t, zi_le_f, zi_lt_t, zi_lt_f, zi_eq_t, zi_eq_f, if_true, if_false, ite_true, ite_false, true_and, and_true, false_and, and_false, not_true_eq_false, not_false_eq_true, true_or, or_true, false_or, or_false, and_self, ge_iff_le, gt_iff_lt]
        · rw [decide_eq_true (show 0 < d by omega)]
          show F_M_readsNumber_111 (zi 1) (zi u) (zi d) m = some (zi (-u), sI m 176 23 (zi 0))
          simp (disch := omega) only [F_M_readsNumber_111, F_M_readsNumber_128, e176, ↓bnd_eq, bd2, bn2, Option.bind_some, Option.bind_none, ↓reduceIte, inb, zl, zi_add, zi_sub, zi_mul, zi_neg, zi_le_t, zi_le_f, zi_lt_t, zi_lt_f, zi_eq_t, zi_eq_f, if_true, if_false, ite_true, ite_false, true_and, and_true, false_and, and_false, not_true_eq_false, not_false_eq_true, true_or, or_true, false_or, or_false, and_self, ge_iff_le, gt_iff_lt]
  intro j
  induction j with
  | zero =>
    intro d u p fu f2 c m hd hf hf2 d0 hc hm p0 p1 e86 R hu
    obtain ⟨fu, rfl⟩ : ∃ q, fu = q + 1 := ⟨fu - 1, by omega⟩
    obtain ⟨f2, rfl⟩ : ∃ q, f2 = q + 1 := ⟨f2 - 1, by omega⟩
    obtain ⟨b, p', ok, c', m', h1, h2, h3, h4, h5⟩ := fin d u p c m d0 (by omega) p0 p1 e86 R hu
    have e176 := R.2
    refine ⟨b, p', ok, c', m', h1, h2, ?_, ?_, h5⟩
    · rw [← h3]
      simp (disch := omega) only [F_Wi_readNumber_50, F_Wi_readNumber_50_b, ↓reduceIte, inb, zl, zi_add, zi_sub, zi_mul, zi_neg, zi_le_t, zi_le_f, zi_lt_t, zi_lt_f, zi_eq_t, zi_eq_f, if_true, if_false, ite_true, ite_false, true_and, and_true, false_and, and_false, not_true_eq_false, not_false_eq_true, true_or, or_true, false_or, or_false, and_self, ge_iff_le, gt_iff_lt]
    · rw [← h4]
      simp (disch := omega) only [F_M_readsNumber_48, F_M_readsNumber_48_b, e176, ↓reduceIte, inb, zl, zi_add, zi_sub, zi_mul, zi_neg, zi_le_t, zi_le_f, zi_lt_t, zi_lt_f, zi_eq_t, zi_eq_f, if_true, if_false, ite_true, ite_false, true_and, and_true, false_and, and_false, not_true_eq_false, not_false_eq_true, true_or, or_true, false_or, or_false, and_self, ge_iff_le, gt_iff_lt]
  | succ j ih =>
    intro d u p fu f2 c m hd hf hf2 d0 hc hm p0 p1 e86 R hu
    obtain ⟨fu, rfl⟩ : ∃ q, fu = q + 1 := ⟨fu - 1, by omega⟩
    obtain ⟨f2, rfl⟩ : ∃ q, f2 = q + 1 := ⟨f2 - 1, by omega⟩
    have e175 := R.1
    have e176 := R.2
    have ec := c_at tw hc p0 p1
    have em := m_at tw hm p0 p1
    have hb := bt_b tw p0
    by_cases q : 48 ≤ bt n T p ∧ bt n T p ≤ 57
    · have R1 := rd175 (x := zi (p + 1)) R rfl
      obtain ⟨b, p', ok, c', m', h1, h2, h3, h4, h5, h6, h7, h8, h9, h10⟩ := ih (d + 1) (10 * u + bt n T p - 48) (p + 1) fu f2 (sI c 86 w (zi (p + 1))) (sI m 175 23 (zi (p + 1))) (by omega) (by omega) (by omega) (by omega) (hc.fr (S := S86 w) (Fr.rf.sI ⟨rfl, rfl⟩) (fun e => absurd e.2 (by decide)) (fun e => absurd e.2 (by decide))) (hm.s175 R1.2) (by omega) (by omega) sI_at R1.1 (by omega)
      refine ⟨b, p', ok, c', m', h1, ⟨by omega, h2.2⟩, ?_, ?_, h5, h6, h7, h8, (Fr.sI (S := fun f a => a = w ∧ 85 ≤ f ∧ f ≤ 86) Fr.rf ⟨rfl, by decide, by decide⟩).tr h9, R1.2.tr h10⟩
      · rw [← h3]
        simp (disch := omega) only [F_Wi_readNumber_50, F_Wi_readNumber_50_b, e86, ↓bse ec, ↓bnd_eq, bd2, bn2, Option.bind_some, Option.bind_none, ↓reduceIte, inb, zl, zi_add, zi_sub, zi_mul, zi_neg, zi_le_t, zi_le_f, zi_lt_t, zi_lt_f, zi_eq_t, zi_eq_f, if_true, if_false, ite_true, ite_false, true_and, and_true, false_and, and_false, not_true_eq_false, not_false_eq_true, true_or, or_true, false_or, or_false, and_self, ge_iff_le, gt_iff_lt]
      · rw [← h4]
        simp (disch := omega) only [F_M_readsNumber_48, F_M_readsNumber_48_b, F_M_within, e175, e176, ↓bse em, ↓bnd_eq, bd2, bn2, Option.bind_some, Option.bind_none, ↓reduceIte, inb, zl, zi_add, zi_sub, zi_mul, zi_neg, zi_le_t, zi_le_f, zi_lt_t, zi_lt_f, zi_eq_t, zi_eq_f, if_true, if_false, ite_true, ite_false, true_and, and_true, false_and, and_false, not_true_eq_false, not_false_eq_true, true_or, or_true, false_or, or_false, and_self, ge_iff_le, gt_iff_lt]
    · obtain ⟨b, p', ok, c', m', h1, h2, h3, h4, h5⟩ := fin d u p c m d0 (by omega) p0 p1 e86 R hu
      refine ⟨b, p', ok, c', m', h1, h2, ?_, ?_, h5⟩
      · rw [← h3]
        by_cases q1 : bt n T p < 48
        · simp (disch := omega) only [F_Wi_readNumber_50, F_Wi_readNumber_50_b, e86, ↓bse ec, ↓bnd_eq, bd2, bn2, Option.bind_some, Option.bind_none, ↓reduceIte, inb, zl, zi_add, zi_sub, zi_mul, zi_neg, zi_le_t, zi_le_f, zi_lt_t, zi_lt_f, zi_eq_t, zi_eq_f, if_true, if_false, ite_true, ite_false, true_and, and_true, false_and, and_false, not_true_eq_false, not_false_eq_true, true_or, or_true, false_or, or_false, and_self, ge_iff_le, gt_iff_lt]
        · simp (disch := omega) only [F_Wi_readNumber_50, F_Wi_readNumber_50_b, e86, ↓bse ec, ↓bnd_eq, bd2, bn2, Option.bind_some, Option.bind_none, ↓reduceIte, inb, zl, zi_add, zi_sub, zi_mul, zi_neg, zi_le_t, zi_le_f, zi_lt_t, zi_lt_f, zi_eq_t, zi_eq_f, if_true, if_false, ite_true, ite_false, true_and, and_true, false_and, and_false, not_true_eq_false, not_false_eq_true, true_or, or_true, false_or, or_false, and_self, ge_iff_le, gt_iff_lt]
      · rw [← h4]
        by_cases q1 : bt n T p < 48
        · simp (disch := omega) only [F_M_readsNumber_48, F_M_readsNumber_48_b, F_M_within, e175, e176, ↓bse em, ↓bnd_eq, bd2, bn2, Option.bind_some, Option.bind_none, ↓reduceIte, inb, zl, zi_add, zi_sub, zi_mul, zi_neg, zi_le_t, zi_le_f, zi_lt_t, zi_lt_f, zi_eq_t, zi_eq_f, if_true, if_false, ite_true, ite_false, true_and, and_true, false_and, and_false, not_true_eq_false, not_false_eq_true, true_or, or_true, false_or, or_false, and_self, ge_iff_le, gt_iff_lt]
        · simp (disch := omega) only [F_M_readsNumber_48, F_M_readsNumber_48_b, F_M_within, e175, e176, ↓bse em, ↓bnd_eq, bd2, bn2, Option.bind_some, Option.bind_none, ↓reduceIte, inb, zl, zi_add, zi_sub, zi_mul, zi_neg, zi_le_t, zi_le_f, zi_lt_t, zi_lt_f, zi_eq_t, zi_eq_f, if_true, if_false, ite_true, ite_false, true_and, and_true, false_and, and_false, not_true_eq_false, not_false_eq_true, true_or, or_true, false_or, or_false, and_self, ge_iff_le, gt_iff_lt]
/-- a number, read -/
theorem lk_num (tw : TW n T) (hw : w = 16 ∨ w = 17) (hi : 0 ≤ i ∧ i < 4) {p : Int} (hc : TPc n T c) (hm : TPm n T m) (p0 : 0 ≤ p) (p1 : p ≤ n) (e86 : c.1 86 w = zi p) (R : RD p 0 m) :
    ∃ (b p' : Int) (ok : Bool) (c' m' : Dl), (-999 ≤ b ∧ b ≤ 999) ∧ (p ≤ p' ∧ p' ≤ n) ∧ F_Wi_readNumber w 14 (zi i) c = some (zi (oz ok), c') ∧ F_M_readsNumber m = some (zi b, m') ∧ c'.1 86 w = zi p' ∧ RD p' (fz ok) m' ∧ c'.2.1 85 w (zi i) = zi b ∧ (∀ j, 0 ≤ j → j < 4 → j ≠ i → c'.2.1 85 w (zi j) = c.2.1 85 w (zi j)) ∧ Fr (fun f a => a = w ∧ 85 ≤ f ∧ f ≤ 86) c c' ∧ Fr S175 m m' := by
  have hn := tw.1
  have ec := c_at tw hc p0 p1
  have em := m_at tw hm p0 p1
  have hb := bt_b tw p0
  have e175 := R.1
  have e176 := R.2
  by_cases q : bt n T p = 45
  · have hpn : p < n := by omega
    rw [q] at ec em
    have R1 := rd175 (x := zi (p + 1)) R rfl
    obtain ⟨b, p', ok, c', m', h1, h2, h3, h4, h5, h6, h7, h8, h9, h10⟩ := lk_digits tw hw hi (s := 1) (Or.inr rfl) 3 0 0 (p + 1) FU FU (sI c 86 w (zi (p + 1))) (sI m 175 23 (zi (p + 1))) (by omega) (by unfold FU; omega) (by unfold FU; omega) (by omega) (hc.fr (S := S86 w) (Fr.rf.sI ⟨rfl, rfl⟩) (fun e => absurd e.2 (by decide)) (fun e => absurd e.2 (by decide))) (hm.s175 R1.2) (by omega) (by omega) sI_at R1.1 (Or.inl ⟨rfl, rfl⟩)
    refine ⟨b, p', ok, c', m', h1, ⟨by omega, h2.2⟩, ?_, ?_, h5, h6, h7, h8, (Fr.sI (S := fun f a => a = w ∧ 85 ≤ f ∧ f ≤ 86) Fr.rf ⟨rfl, by decide, by decide⟩).tr h9, R1.2.tr h10⟩
    · rw [← h3]
      simp (disch := omega) only [F_Wi_readNumber, F_Wi_readNumber_29, F_Wi_readNumber_44, e86, ↓bse ec, ↓bnd_eq, bd2, bn2, Option.bind_some, Option.bind_none, ↓reduceIte, inb, zl, zi_add, zi_sub, zi_mul, zi_neg, zi_le_t, zi_le_f, zi_lt_t, zi_lt_f, zi_eq_t, zi_eq_f, if_true, if_false, ite_true, ite_false, true_and, and_true, false_and, and_false, not_true_eq_false, not_false_eq_true, true_or, or_true, false_or, or_false, and_self, ge_iff_le, gt_iff_lt]
    · rw [← h4]
      simp (disch := omega) only [F_M_readsNumber, F_M_readsNumber_25, F_M_readsNumber_40, e175, e176, ↓bse em, ↓bnd_eq, bd2, bn2, Option.bind_some, Option.bind_none, ↓reduceIte, inb, zl, zi_add, zi_sub, zi_mul, zi_neg, zi_le_t, zi_le_f, zi_lt_t, zi_lt_f, zi_eq_t, zi_eq_f, if_true, if_false, ite_true, ite_false, true_and, and_true, false_and, and_false, not_true_eq_false, not_false_eq_true, true_or, or_true, false_or, or_false, and_self, ge_iff_le, gt_iff_lt]
  · have R1 := rd175 (x := zi (p + 0)) R (show zi (p + 0) = zi p by rw [Int.add_zero])
    obtain ⟨b, p', ok, c', m', h1, h2, h3, h4, h5, h6, h7, h8, h9, h10⟩ := lk_digits tw hw hi (s := 0) (Or.inl rfl) 3 0 0 p FU FU c (sI m 175 23 (zi (p + 0))) (by omega) (by unfold FU; omega) (by unfold FU; omega) (by omega) hc (hm.s175 R1.2) p0 p1 e86 R1.1 (Or.inl ⟨rfl, rfl⟩)
    refine ⟨b, p', ok, c', m', h1, h2, ?_, ?_, h5, h6, h7, h8, h9, R1.2.tr h10⟩
    · rw [← h3]
      simp (disch := omega) only [F_Wi_readNumber, F_Wi_readNumber_29, F_Wi_readNumber_44, e86, ↓bse ec, ↓bnd_eq, bd2, bn2, Option.bind_some, Option.bind_none, ↓reduceIte, inb, zl, zi_add, zi_sub, zi_mul, zi_neg, zi_le_t, zi_le_f, zi_lt_t, zi_lt_f, zi_eq_t, zi_eq_f, if_true, if_false, ite_true, ite_false, true_and, and_true, false_and, and_false, not_true_eq_false, not_false_eq_true, true_or, or_true, false_or, or_false, and_self, ge_iff_le, gt_iff_lt]
    · rw [← h4]
      simp (disch := omega) only [F_M_readsNumber, F_M_readsNumber_24, F_M_readsNumber_25, F_M_readsNumber_40, e175, e176, ↓bse em, ↓bnd_eq, bd2, bn2, Option.bind_some, Option.bind_none, ↓reduceIte, inb, zl, zi_add, zi_sub, zi_mul, zi_neg, zi_le_t, zi_le_f, zi_lt_t, zi_lt_f, zi_eq_t, zi_eq_f, if_true, if_false, ite_true, ite_false, true_and, and_true, false_and, and_false, not_true_eq_false, not_false_eq_true, true_or, or_true, false_or, or_false, and_self, ge_iff_le, gt_iff_lt]
end NU
