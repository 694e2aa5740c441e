/-! reading words from the tape, on both sides (wip/whole/pure) -/
/-- the byte at a place, or -1 behind the end -/
def bt (n : Int) (T : Int → Int) (p : Int) : Int := if p < n then T p else -1
def TPc (n : Int) (T : Int → Int) (c : Dl) : Prop := c.1 10 14 = zi n ∧ ∀ i, 0 ≤ i → i < n → c.2.1 11 14 (zi i) = zi (T i)
def TPm (n : Int) (T : Int → Int) (m : Dl) : Prop := m.1 154 23 = zi n ∧ ∀ i, 0 ≤ i → i < n → m.2.1 153 23 (zi i) = zi (T i)
/-- a tape -/
def TW (n : Int) (T : Int → Int) : Prop := (0 ≤ n ∧ n ≤ 80) ∧ ∀ i, 0 ≤ i → i < n → 0 ≤ T i ∧ T i ≤ 255
def rdL (f : Int → Int) : List Int → Int → Int
  | [], p => p
  | u :: us, p => if f p = u then rdL f us (p + 1) else p
def okL (f : Int → Int) : List Int → Int → Bool
  | [], _ => true
  | u :: us, p => if f p = u then okL f us (p + 1) else false
def oz (b : Bool) : Int := if b then 1 else 0
def fz (b : Bool) : Int := if b then 0 else 1
abbrev S175 : Nat → Nat → Prop := fun f a => a = 23 ∧ 175 ≤ f ∧ f ≤ 176
section WD
variable {n : Int} {T : Int → Int} {c m : Dl} {w : Nat}
theorem bt_b (tw : TW n T) {p : Int} (p0 : 0 ≤ p) : -1 ≤ bt n T p ∧ bt n T p ≤ 255 ∧ (p < n → 0 ≤ bt n T p) ∧ (n ≤ p → bt n T p = -1) := by
  unfold bt
  by_cases q : p < n
  · have := tw.2 p p0 q
    rw [if_pos q]
    omega
  · rw [if_neg q]
    omega
theorem rdL_le (tw : TW n T) : ∀ (L : List Int) (p : Int), 0 ≤ p → p ≤ n → (∀ u, u ∈ L → 0 ≤ u) → p ≤ rdL (bt n T) L p ∧ rdL (bt n T) L p ≤ n := by
  intro L
  induction L with
  | nil => intro p p0 p1 _; exact ⟨Int.le_refl _, p1⟩
  | cons u us ih =>
    intro p p0 p1 h
    show p ≤ (if bt n T p = u then rdL (bt n T) us (p + 1) else p) ∧ (if bt n T p = u then rdL (bt n T) us (p + 1) else p) ≤ n
    by_cases q : bt n T p = u
    · rw [if_pos q]
      have hu := h u (List.mem_cons_self ..)
      have hb := bt_b tw p0
      have := ih (p + 1) (by omega) (by omega) (fun u hu => h u (List.mem_cons_of_mem _ hu))
      omega
    · rw [if_neg q]
      omega
theorem c_at (tw : TW n T) (h : TPc n T c) {p : Int} (p0 : 0 ≤ p) (p1 : p ≤ n) : F_By_byteAt 14 (zi p) c = some (zi (bt n T p)) := by
  have hn := tw.1
  have e10 := h.1
  by_cases q : p < n
  · have e := h.2 p p0 q
    unfold bt
    rw [if_pos q]
    simp (disch := omega) only [F_By_byteAt, lenB14, e10, e, ↓reduceIte, inb, zl, zi_add, zi_sub, zi_mul, zi_neg, zi_le_t, zi_le_f, zi_lt_t, zi_lt_f, zi_eq_t, zi_eq_f, if_true, if_false, ite_true, ite_false, true_and, and_true, false_and, and_false, not_true_eq_false, not_false_eq_true, true_or, or_true, false_or, or_false, and_self, ge_iff_le, gt_iff_lt]
  · unfold bt
    rw [if_neg q]
    simp (disch := omega) only [F_By_byteAt, e10, ↓reduceIte, inb, zl, zi_add, zi_sub, zi_mul, zi_neg, zi_le_t, zi_le_f, zi_lt_t, zi_lt_f, zi_eq_t, zi_eq_f, if_true, if_false, ite_true, ite_false, true_and, and_true, false_and, and_false, not_true_eq_false, not_false_eq_true, true_or, or_true, false_or, or_false, and_self, ge_iff_le, gt_iff_lt]
theorem m_at (tw : TW n T) (h : TPm n T m) {p : Int} (p0 : 0 ≤ p) (p1 : p ≤ n) : F_M_byteAt (zi p) m = some (zi (bt n T p)) := by
  have hn := tw.1
  have e10 := h.1
  by_cases q : p < n
  · have e := h.2 p p0 q
    unfold bt
    rw [if_pos q]
    simp (disch := omega) only [F_M_byteAt, e10, e, ↓reduceIte, inb, zl, zi_add, zi_sub, zi_mul, zi_neg, zi_le_t, zi_le_f, zi_lt_t, zi_lt_f, zi_eq_t, zi_eq_f, if_true, if_false, ite_true, ite_false, true_and, and_true, false_and, and_false, not_true_eq_false, not_false_eq_true, true_or, or_true, false_or, or_false, and_self, ge_iff_le, gt_iff_lt]
  · unfold bt
    rw [if_neg q]
    simp (disch := omega) only [F_M_byteAt, e10, ↓reduceIte, inb, zl, zi_add, zi_sub, zi_mul, zi_neg, zi_le_t, zi_le_f, zi_lt_t, zi_lt_f, zi_eq_t, zi_eq_f, if_true, if_false, ite_true, ite_false, true_and, and_true, false_and, and_false, not_true_eq_false, not_false_eq_true, true_or, or_true, false_or, or_false, and_self, ge_iff_le, gt_iff_lt]
theorem TPm.fr {S : Nat → Nat → Prop} {m' : Dl} (h : TPm n T m) (F : Fr S m m') (h1 : ¬ S 154 23) (h2 : ¬ S 153 23) : TPm n T m' := by
  unfold TPm at h ⊢
  rw [(F.2 154 23 h1).1, (F.2 153 23 h2).2]
  exact h
theorem TPc.fr {S : Nat → Nat → Prop} {c' : Dl} (h : TPc n T c) (F : Fr S c c') (h1 : ¬ S 10 14) (h2 : ¬ S 11 14) : TPc n T c' := by
  unfold TPc at h ⊢
  rw [(F.2 10 14 h1).1, (F.2 11 14 h2).2]
  exact h
theorem TPm.s175 {m' : Dl} (h : TPm n T m) (F : Fr S175 m m') : TPm n T m' := h.fr F (by decide) (by decide)
/-- a byte that must stand here: none, when there was a fault before -/
theorem m_must_no {u : Int32} {p : Int} (e175 : m.1 175 23 = zi p) (e176 : m.1 176 23 = zi 1) : ∃ m', F_M_must u m = some m' ∧ Fr S175 m m' ∧ m'.1 175 23 = zi p ∧ m'.1 176 23 = zi 1 := by
  refine ⟨sI (sI m 176 23 (zi 1)) 175 23 (zi (p + 0)), ?_, (Fr.rf.sI ⟨rfl, by decide, by decide⟩).sI ⟨rfl, by decide, by decide⟩, by rw [sI_at, Int.add_zero], ?_⟩
  · simp (disch := omega) only [F_M_must, F_M_must_20, F_M_must_25, F_M_must_45, e176, e175, sI_at, q1I, Nat.reduceEqDiff, ↓bnd_eq, bd2, bn2, Option.bind_some, Option.bind_none, ↓reduceIte, inb, zl, zi_add, zi_sub, zi_mul, zi_neg, zi_le_t, zi_le_f, zi_lt_t, zi_lt_f, zi_eq_t, zi_eq_f, if_true, if_false, ite_true, ite_false, true_and, and_true, false_and, and_false, not_true_eq_false, not_false_eq_true, true_or, or_true, false_or, or_false, and_self, ge_iff_le, gt_iff_lt]
  · rw [q1I, if_neg (by decide), sI_at]
theorem m_must (tw : TW n T) (h : TPm n T m) {u p : Int} (p0 : 0 ≤ p) (p1 : p ≤ n) (hu : 0 ≤ u ∧ u ≤ 255) (e175 : m.1 175 23 = zi p) (e176 : m.1 176 23 = zi 0) : ∃ m', F_M_must (zi u) m = some m' ∧ Fr S175 m m' ∧ m'.1 175 23 = zi (if bt n T p = u then p + 1 else p) ∧ m'.1 176 23 = zi (if bt n T p = u then 0 else 1) := by
  have ea := m_at tw h p0 p1
  have hb := bt_b tw p0
  have hn := tw.1
  by_cases q : bt n T p = u
  · rw [if_pos q, if_pos q]
    refine ⟨sI (sI m 176 23 (zi 0)) 175 23 (zi (p + 1)), ?_, (Fr.rf.sI ⟨rfl, by decide, by decide⟩).sI ⟨rfl, by decide, by decide⟩, sI_at, ?_⟩
    · simp (disch := omega) only [F_M_must, F_M_must_25, F_M_must_45, e176, e175, ↓bse ea, q, sI_at, q1I, Nat.reduceEqDiff, ↓bnd_eq, bd2, bn2, Option.bind_some, Option.bind_none, ↓reduceIte, inb, zl, zi_add, zi_sub, zi_mul, zi_neg, zi_le_t, zi_le_f, zi_lt_t, zi_lt_f, zi_eq_t, zi_eq_f, if_true, if_false, ite_true, ite_false, true_and, and_true, false_and, and_false, not_true_eq_false, not_false_eq_true, true_or, or_true, false_or, or_false, and_self, ge_iff_le, gt_iff_lt]
    · rw [q1I, if_neg (by decide), sI_at]
  · rw [if_neg q, if_neg q]
    refine ⟨sI (sI m 176 23 (zi 1)) 175 23 (zi (p + 0)), ?_, (Fr.rf.sI ⟨rfl, by decide, by decide⟩).sI ⟨rfl, by decide, by decide⟩, by rw [sI_at, Int.add_zero], ?_⟩
    · simp (disch := omega) only [F_M_must, F_M_must_20, F_M_must_25, F_M_must_45, e176, e175, ↓bse ea, sI_at, q1I, Nat.reduceEqDiff, ↓bnd_eq, bd2, bn2, Option.bind_some, Option.bind_none, ↓reduceIte, inb, zl, zi_add, zi_sub, zi_mul, zi_neg, zi_le_t, zi_le_f, zi_lt_t, zi_lt_f, zi_eq_t, zi_eq_f, if_true, if_false, ite_true, ite_false, true_and, and_true, false_and, and_false, not_true_eq_false, not_false_eq_true, true_or, or_true, false_or, or_false, and_self, ge_iff_le, gt_iff_lt]
    · rw [q1I, if_neg (by decide), sI_at]
def mustL : List Int → Dl → Option Dl
  | [], m => some m
  | u :: us, m => (F_M_must (zi u) m).bind (mustL us)
theorem mustL_no : ∀ (L : List Int) (m : Dl) (p : Int), m.1 175 23 = zi p → m.1 176 23 = zi 1 → ∃ m', mustL L m = some m' ∧ Fr S175 m m' ∧ m'.1 175 23 = zi p ∧ m'.1 176 23 = zi 1 := by
  intro L
  induction L with
  | nil => intro m p h1 h2; exact ⟨m, rfl, Fr.rf, h1, h2⟩
  | cons u us ih =>
    intro m p h1 h2
    obtain ⟨m1, e1, F1, a1, a2⟩ := m_must_no (u := zi u) h1 h2
    obtain ⟨m2, e2, F2, b1, b2⟩ := ih m1 p a1 a2
    refine ⟨m2, ?_, F1.tr F2, b1, b2⟩
    show (F_M_must (zi u) m).bind (mustL us) = _
    rw [e1]
    exact e2
theorem mustL_ok (tw : TW n T) : ∀ (L : List Int) (m : Dl) (p : Int), TPm n T m → 0 ≤ p → p ≤ n → (∀ u, u ∈ L → 0 ≤ u ∧ u ≤ 255) → m.1 175 23 = zi p → m.1 176 23 = zi 0 → ∃ m', mustL L m = some m' ∧ Fr S175 m m' ∧ m'.1 175 23 = zi (rdL (bt n T) L p) ∧ m'.1 176 23 = zi (fz (okL (bt n T) L p)) := by
  intro L
  induction L with
  | nil => intro m p _ _ _ _ h1 h2; exact ⟨m, rfl, Fr.rf, h1, h2⟩
  | cons u us ih =>
    intro m p hT p0 p1 hu h1 h2
    have hu' := hu u (List.mem_cons_self ..)
    have hb := bt_b tw p0
    obtain ⟨m1, e1, F1, a1, a2⟩ := m_must tw hT p0 p1 hu' h1 h2
    show ∃ m', (F_M_must (zi u) m).bind (mustL us) = some m' ∧ Fr S175 m m' ∧ m'.1 175 23 = zi (if bt n T p = u then rdL (bt n T) us (p + 1) else p) ∧ m'.1 176 23 = zi (fz (if bt n T p = u then okL (bt n T) us (p + 1) else false))
    rw [e1]
    by_cases q : bt n T p = u
    · rw [if_pos q] at a1 a2 ⊢
      rw [if_pos q]
      obtain ⟨m2, e2, F2, b1, b2⟩ := ih m1 (p + 1) (hT.s175 F1) (by omega) (by omega) (fun u hu2 => hu u (List.mem_cons_of_mem _ hu2)) a1 a2
      exact ⟨m2, e2, F1.tr F2, b1, b2⟩
    · rw [if_neg q] at a1 a2 ⊢
      rw [if_neg q]
      obtain ⟨m2, e2, F2, b1, b2⟩ := mustL_no us m1 p a1 a2
      exact ⟨m2, e2, F1.tr F2, b1, b2⟩
/-- the words -/
def wl : Nat → List Int
  | 0 => [32, 97, 110, 100, 32]
  | 1 => [101, 110, 100]
  | 2 => [97, 108, 119, 97, 121, 115]
  | 3 => [110, 101, 118, 101, 114]
  | 4 => [111, 110, 99, 101]
  | _ => [32]
theorem js_len : ∀ q : Nat, q < 6 → F_Js_length q = zi (wl q).length := by decide +kernel
theorem js_at : ∀ q : Nat, q < 6 → ∀ k : Nat, k < (wl q).length → F_Js_charAt q (zi k) = some (zi ((wl q).getD k 0)) := by decide +kernel
theorem wl_b : ∀ q : Nat, q < 6 → (wl q).length ≤ 6 ∧ ∀ u, u ∈ wl q → 0 ≤ u ∧ u ≤ 255 := by decide +kernel
theorem wl_d : ∀ q : Nat, q < 6 → ∀ k : Nat, k < (wl q).length → (wl q).drop k = (wl q).getD k 0 :: (wl q).drop (k + 1) ∧ 0 ≤ (wl q).getD k 0 ∧ (wl q).getD k 0 ≤ 255 := by decide +kernel
abbrev S86 (w : Nat) : Nat → Nat → Prop := fun f a => a = w ∧ f = 86
theorem c_word_l (tw : TW n T) {q : Nat} (hq : q < 6) (hw : w = 16 ∨ w = 17) : ∀ (j k fu : Nat) (c : Dl) (p : Int), k + j = (wl q).length → j < fu → TPc n T c → 0 ≤ p → p ≤ n → c.1 86 w = zi p → ∃ c', F_Wi_readWord_2 w 14 q fu (zi k) c = some (zi (oz (okL (bt n T) ((wl q).drop k) p)), c') ∧ Fr (S86 w) c c' ∧ c'.1 86 w = zi (rdL (bt n T) ((wl q).drop k) p) := by
  have hlen := js_len q hq
  have hl := wl_b q hq
  intro j
  induction j with
  | zero =>
    intro k fu c p hk hf hT p0 p1 e86
    obtain ⟨fu, rfl⟩ : ∃ q, fu = q + 1 := ⟨fu - 1, by omega⟩
    have hd : (wl q).drop k = [] := List.drop_eq_nil_of_le (by omega)
    rw [hd]
    refine ⟨c, ?_, Fr.rf, e86⟩
    show F_Wi_readWord_2_b w 14 q (F_Wi_readWord_2 w 14 q fu) (zi k) c = some (zi 1, c)
    unfold F_Wi_readWord_2_b
    rw [bnd_eq, hlen, if_pos (by rw [zi_le (by omega) (by omega)]; omega), show (1 : Int32) = zi 1 from zl 1]
  | succ j ih =>
    intro k fu c p hk hf hT p0 p1 e86
    obtain ⟨fu, rfl⟩ : ∃ q, fu = q + 1 := ⟨fu - 1, by omega⟩
    have hkl : k < (wl q).length := by omega
    have hch := js_at q hq k hkl
    obtain ⟨hd, hu⟩ := wl_d q hq k hkl
    have hb := bt_b tw p0
    have ea := c_at tw hT p0 p1
    have hn := tw.1
    rw [hd]
    show ∃ c', F_Wi_readWord_2_b w 14 q (F_Wi_readWord_2 w 14 q fu) (zi k) c = some (zi (oz (if bt n T p = (wl q).getD k 0 then okL (bt n T) ((wl q).drop (k + 1)) (p + 1) else false)), c') ∧ Fr (S86 w) c c' ∧ c'.1 86 w = zi (if bt n T p = (wl q).getD k 0 then rdL (bt n T) ((wl q).drop (k + 1)) (p + 1) else p)
    unfold F_Wi_readWord_2_b
    rw [bnd_eq, hlen, if_neg (by rw [zi_le (by omega) (by omega)]; omega), e86, bse ea, bse hch]
    by_cases qb : bt n T p = (wl q).getD k 0
    · rw [if_pos qb, if_pos qb, if_pos (by rw [qb]), bnd_eq]
      obtain ⟨c', e, F, r⟩ := ih (k + 1) fu (sI c 86 w (zi p + 1)) (p + 1) (by omega) (by omega) (hT.fr (S := S86 w) (Fr.rf.sI ⟨rfl, rfl⟩) (fun e => absurd e.2 (by decide)) (fun e => absurd e.2 (by decide))) (by omega) (by omega) (by rw [sI_at, show (1 : Int32) = zi 1 from zl 1, zi_add])
      refine ⟨c', ?_, (Fr.sI (S := S86 w) Fr.rf ⟨rfl, rfl⟩).tr F, r⟩
      rw [← e, show zi (k : Int) + 1 = zi ((k + 1 : Nat) : Int) by rw [show (1 : Int32) = zi 1 from zl 1, zi_add]; rfl]
    · rw [if_neg qb, if_neg qb, if_neg (fun e => qb (zi_inj e (by omega) (by omega)))]
      exact ⟨c, by rw [zl0]; rfl, Fr.rf, e86⟩
theorem c_word (tw : TW n T) {q : Nat} (hq : q < 6) (hw : w = 16 ∨ w = 17) {p : Int} (hT : TPc n T c) (p0 : 0 ≤ p) (p1 : p ≤ n) (e86 : c.1 86 w = zi p) : ∃ c', F_Wi_readWord w 14 q c = some (zi (oz (okL (bt n T) (wl q) p)), c') ∧ Fr (S86 w) c c' ∧ c'.1 86 w = zi (rdL (bt n T) (wl q) p) := by
  have hl := wl_b q hq
  obtain ⟨c', e, F, r⟩ := c_word_l tw hq hw (wl q).length 0 FU c p (by omega) (by unfold FU; omega) hT p0 p1 e86
  refine ⟨c', ?_, F, r⟩
  unfold F_Wi_readWord
  rw [zl0]
  exact e
end WD
