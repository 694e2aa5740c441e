/-! reading a part of a wish, on both sides (wip/whole/pure) -/
section PT
variable {n : Int} {T : Int → Int} {c m : Dl} {w : Nat} {i : Int}
/-- what reading a part in the reference changes -/
abbrev SPm : Nat → Nat → Prop := fun f a => a = 23 ∧ ((175 ≤ f ∧ f ≤ 176) ∨ (178 ≤ f ∧ f ≤ 182))
theorem spm {m m' : Dl} (F : Fr S175 m m') : Fr SPm m m' := F.to (fun f a e => by
  have : a = 23 ∧ 175 ≤ f ∧ f ≤ 176 := e
  show a = 23 ∧ ((175 ≤ f ∧ f ≤ 176) ∨ (178 ≤ f ∧ f ≤ 182))
  omega)
/-- what the reference holds of the part read -/
def PM (i : Int) (x2 x3 x5 x6 b : Int32) (m m' : Dl) : Prop := m'.2.1 178 23 (zi i) = x2 ∧ m'.2.1 179 23 (zi i) = x3 ∧ m'.2.1 180 23 (zi i) = x5 ∧ m'.2.1 181 23 (zi i) = x6 ∧ m'.2.1 182 23 (zi i) = b ∧ ∀ f, 178 ≤ f → f ≤ 182 → ∀ j, 0 ≤ j → j < 4 → j ≠ i → m'.2.1 f 23 (zi j) = m.2.1 f 23 (zi j)
theorem m_338 (hi : 0 ≤ i ∧ i < 4) {x2 x3 x5 x6 s0 s1 b : Int32} {fl p' : Int} {m1 : Dl} (e : F_M_readsNumber (sI m 175 23 (s1 + s0)) = some (b, m1)) (F : Fr S175 m m1) (R : RD p' fl m1) : ∃ m', F_M_readsPart_338 (zi i) x2 x3 x5 x6 s0 s1 m = some m' ∧ RD p' fl m' ∧ PM i x2 x3 (x5 - zi 48) x6 b m m' ∧ Fr SPm m m' := by
  refine ⟨sA (sA (sA (sA (sA m1 178 23 (zi i) x2) 179 23 (zi i) x3) 180 23 (zi i) (x5 - zi 48)) 181 23 (zi i) x6) 182 23 (zi i) b, ?_, R, ⟨?_, ?_, ?_, ?_, ?_, fun f f0 f1 j j0 j4 hj => ?_⟩, (((((spm F).sA ⟨rfl, by decide⟩).sA ⟨rfl, by decide⟩).sA ⟨rfl, by decide⟩).sA ⟨rfl, by decide⟩).sA ⟨rfl, by decide⟩⟩
  · unfold F_M_readsPart_338
    rw [bnd_eq, b2e e]
    simp (disch := omega) only [↓bnd_eq, bd2, bn2, Option.bind_some, Option.bind_none, ↓reduceIte, inb, zl, zi_add, zi_sub, zi_mul, zi_neg, zi_le_t, zi_le_f, zi_lt_t, zi_lt_f, zi_eq_t, zi_eq_f, if_true, if_false, ite_true, ite_false, true_and, and_true, false_and, and_false, not_true_eq_false, not_false_eq_true, true_or, or_true, false_or, or_false, and_self, ge_iff_le, gt_iff_lt]
  · rw [rA (by decide), rA (by decide), rA (by decide), rA (by decide), rAi, if_pos rfl]
  · rw [rA (by decide), rA (by decide), rA (by decide), rAi, if_pos rfl]
  · rw [rA (by decide), rA (by decide), rAi, if_pos rfl]
  · rw [rA (by decide), rAi, if_pos rfl]
  · rw [rAi, if_pos rfl]
  · have hne : ¬ zi j = zi i := fun e => hj (zi_inj e (by omega) (by omega))
    rw [rAn hne, rAn hne, rAn hne, rAn hne, rAn hne, (F.2 f 23 (fun e => by
      have : (23 : Nat) = 23 ∧ 175 ≤ f ∧ f ≤ 176 := e
      omega)).2]
/-- behind a fault nothing is read, to the end of the part -/
theorem m_318_no (hi : 0 ≤ i ∧ i < 4) {x2 x3 x5 x6 : Int32} {p fl : Int} (hp : 0 ≤ p ∧ p ≤ 80) (R : RD p fl m) : ∃ m', F_M_readsPart_318 (zi i) x2 x3 x5 x6 (zi 1) m = some m' ∧ RD p 1 m' ∧ Fr SPm m m' := by
  obtain ⟨R1, F1⟩ := rd176 (x := zi 1) R rfl
  obtain ⟨R2, F2⟩ := rd175 (x := zi p + zi 0) R1 (show zi p + zi 0 = zi p by rw [zi_add, Int.add_zero])
  obtain ⟨b, m1, e, R3, F3⟩ := m_num_no hp R2
  obtain ⟨m', e', R4, -, F4⟩ := m_338 (x2 := x2) (x3 := x3) (x5 := x5) (x6 := x6) (s0 := zi 0) (s1 := zi p) hi e (F2.tr F3) R3
  refine ⟨m', ?_, R4, (spm F1).tr F4⟩
  unfold F_M_readsPart_318
  rw [if_pos (by decide), bnd_eq, R1.2, if_neg (by decide), R1.1, zl0]
  exact e'
theorem m_274_no (tw : TW n T) (hm : TPm n T m) (hi : 0 ≤ i ∧ i < 4) {x2 x3 x5 : Int32} {p : Int} (p0 : 0 ≤ p) (p1 : p ≤ n) (R : RD p 1 m) : ∃ m', F_M_readsPart_274 (zi i) x2 x3 x5 m = some m' ∧ RD p 1 m' ∧ Fr SPm m m' := by
  have em := m_at tw hm p0 p1
  obtain ⟨m', e, R1, F⟩ := m_318_no (x2 := x2) (x3 := x3) (x5 := x5) (x6 := zi (bt n T p)) hi (p := p) ⟨p0, by have := tw.1; omega⟩ R
  refine ⟨m', ?_, R1, F⟩
  unfold F_M_readsPart_274
  rw [R.1, bse em, R.2, if_neg (by decide)]
  unfold F_M_readsPart_313
  rw [show (1 : Int32) = zi 1 from zl 1]
  exact e
theorem m_250_no (tw : TW n T) (hm : TPm n T m) (hi : 0 ≤ i ∧ i < 4) {x2 x3 x5 : Int32} {p fl : Int} (p0 : 0 ≤ p) (p1 : p ≤ n) (R : RD p fl m) : ∃ m', F_M_readsPart_245 (zi i) x2 x3 x5 m = some m' ∧ RD p 1 m' ∧ Fr SPm m m' := by
  obtain ⟨R1, F1⟩ := rd176 (x := zi 1) R rfl
  obtain ⟨R2, F2⟩ := rd175 (x := zi p + zi 0) R1 (show zi p + zi 0 = zi p by rw [zi_add, Int.add_zero])
  obtain ⟨m', e, R3, F3⟩ := m_274_no (x2 := x2) (x3 := x3) (x5 := x5) tw ((hm.s175 F1).s175 F2) hi p0 p1 R2
  refine ⟨m', ?_, R3, ((spm F1).tr (spm F2)).tr F3⟩
  unfold F_M_readsPart_245 F_M_readsPart_250
  rw [show (1 : Int32) = zi 1 from zl 1, if_pos (by decide), bnd_eq, R1.2, if_neg (by decide), R1.1, zl0]
  unfold F_M_readsPart_270
  rw [bnd_eq]
  exact e
theorem m_206_no (tw : TW n T) (hm : TPm n T m) (hi : 0 ≤ i ∧ i < 4) {x2 x3 x4 : Int32} {p fl : Int} (p0 : 0 ≤ p) (p1 : p ≤ n) (R : RD p fl m) : ∃ m', F_M_readsPart_181 (zi i) x2 x3 x4 m = some m' ∧ RD p 1 m' ∧ Fr SPm m m' := by
  obtain ⟨R1, F1⟩ := rd176 (x := zi 1) R rfl
  obtain ⟨R2, F2⟩ := rd175 (x := zi p + zi 0) R1 (show zi p + zi 0 = zi p by rw [zi_add, Int.add_zero])
  have hm2 := (hm.s175 F1).s175 F2
  have em := m_at tw hm2 p0 p1
  have e : ∃ m', F_M_readsPart_206 (zi i) x2 x3 x4 (zi 0) (zi p) (sI m 176 23 (zi 1)) = some m' ∧ RD p 1 m' ∧ Fr SPm (sI (sI m 176 23 (zi 1)) 175 23 (zi p + zi 0)) m' := by
    unfold F_M_readsPart_206
    rw [bnd_eq, R2.1, bse em]
    by_cases q : x4 = 0
    · rw [if_pos q]
      exact m_274_no tw hm2 hi p0 p1 R2
    · rw [if_neg q, R2.2, if_neg (by decide)]
      exact m_250_no tw hm2 hi p0 p1 R2
  obtain ⟨m', e, R3, F3⟩ := e
  refine ⟨m', ?_, R3, ((spm F1).tr (spm F2)).tr F3⟩
  unfold F_M_readsPart_181 F_M_readsPart_186
  rw [show (1 : Int32) = zi 1 from zl 1, if_pos (by decide), bnd_eq, R1.2, if_neg (by decide), R1.1, zl0]
  exact e
theorem m_154_no (tw : TW n T) (hm : TPm n T m) (hi : 0 ≤ i ∧ i < 4) {x2 x3 s0 : Int32} {p : Int} (p0 : 0 ≤ p) (p1 : p ≤ n) (R : RD p 1 m) : ∃ m', F_M_readsPart_154 (zi i) x2 x3 s0 m = some m' ∧ RD p 1 m' ∧ Fr SPm m m' := by
  obtain ⟨m', e, R1, F⟩ := m_206_no (x2 := x2) (x3 := x3) (x4 := s0) tw hm hi p0 p1 R
  refine ⟨m', ?_, R1, F⟩
  unfold F_M_readsPart_154
  rw [R.2, if_neg (by decide)]
  exact e
def rE (x1 x2 : Int32) (δ107 : Dl) : Option Dl := (F_M_byteAt (δ107.1 175 23) δ107).bind fun v115 => if v115 = 120 then (F_M_readsPart_149 x1 x2 v115 δ107) else (if v115 = 121 then (F_M_readsPart_149 x1 x2 v115 δ107) else (if v115 = 118 then (F_M_readsPart_149 x1 x2 v115 δ107) else (if v115 = 104 then (F_M_readsPart_149 x1 x2 v115 δ107) else (if v115 = 98 then (F_M_readsPart_149 x1 x2 v115 δ107) else (F_M_readsPart_154 x1 x2 v115 0 δ107)))))
theorem e104 {x1 x2 : Int32} {δ : Dl} : F_M_readsPart_104 x1 x2 δ = (F_M_must 32 δ).bind (rE x1 x2) := rfl
theorem m_E_no (tw : TW n T) (hm : TPm n T m) (hi : 0 ≤ i ∧ i < 4) {x2 : Int32} {p : Int} (p0 : 0 ≤ p) (p1 : p ≤ n) (R : RD p 1 m) : ∃ m', rE (zi i) x2 m = some m' ∧ RD p 1 m' ∧ Fr SPm m m' := by
  have em := m_at tw hm p0 p1
  have all : ∀ x3 s0, ∃ m', F_M_readsPart_154 (zi i) x2 x3 s0 m = some m' ∧ RD p 1 m' ∧ Fr SPm m m' := fun x3 s0 => m_154_no tw hm hi p0 p1 R
  unfold rE F_M_readsPart_149
  rw [R.1, bse em]
  by_cases q1 : zi (bt n T p) = 120
  · rw [if_pos q1]; exact all _ _
  · rw [if_neg q1]
    by_cases q2 : zi (bt n T p) = 121
    · rw [if_pos q2]; exact all _ _
    · rw [if_neg q2]
      by_cases q3 : zi (bt n T p) = 118
      · rw [if_pos q3]; exact all _ _
      · rw [if_neg q3]
        by_cases q4 : zi (bt n T p) = 104
        · rw [if_pos q4]; exact all _ _
        · rw [if_neg q4]
          by_cases q5 : zi (bt n T p) = 98
          · rw [if_pos q5]; exact all _ _
          · rw [if_neg q5]; exact all _ _
theorem m_104_no (tw : TW n T) (hm : TPm n T m) (hi : 0 ≤ i ∧ i < 4) {x2 : Int32} {p : Int} (p0 : 0 ≤ p) (p1 : p ≤ n) (R : RD p 1 m) : ∃ m', F_M_readsPart_104 (zi i) x2 m = some m' ∧ RD p 1 m' ∧ Fr SPm m m' := by
  obtain ⟨m1, e1, F1, a1, a2⟩ := m_must_no (u := zi 32) R.1 R.2
  obtain ⟨m', e, R1, F⟩ := m_E_no (x2 := x2) tw (hm.s175 F1) hi p0 p1 ⟨a1, a2⟩
  refine ⟨m', ?_, R1, (spm F1).tr F⟩
  rw [e104, show (32 : Int32) = zi 32 from zl 32, e1]
  exact e
/-- the sign and the number -/
theorem lk_sn (tw : TW n T) (hw : w = 16 ∨ w = 17) (hi : 0 ≤ i ∧ i < 4) {x2 x3 x5 : Int32} {p : Int} (hc : TPc n T c) (hm : TPm n T m) (p0 : 0 ≤ p) (p1 : p ≤ n) (e86 : c.1 86 w = zi p) (R : RD p 0 m) :
    ∃ (p' : Int) (ok : Bool) (c' m' : Dl), (p ≤ p' ∧ p' ≤ n) ∧ (bd2 (F_Wi_readSign w 14 (zi i) c) fun v42 δ42 => if v42 = 0 then (some (0, δ42)) else (bd2 (F_Wi_readNumber w 14 (zi i) δ42) fun v51 δ51 => if v51 = 0 then (some (0, δ51)) else (some (1, δ51)))) = some (zi (oz ok), c') ∧ F_M_readsPart_274 (zi i) x2 x3 x5 m = some m' ∧ c'.1 86 w = zi p' ∧ RD p' (fz ok) m' ∧ Fr (fun f a => a = w ∧ 84 ≤ f ∧ f ≤ 86) c c' ∧ Fr SPm m m' ∧
      (ok = true → ∃ o b : Int, (o = 60 ∨ o = 61 ∨ o = 62) ∧ (-999 ≤ b ∧ b ≤ 999) ∧ PM i x2 x3 (x5 - zi 48) (zi o) (zi b) m m' ∧ c'.2.1 84 w (zi i) = zi o ∧ c'.2.1 85 w (zi i) = zi b ∧ ∀ f, 84 ≤ f → f ≤ 85 → ∀ j, 0 ≤ j → j < 4 → j ≠ i → c'.2.1 f w (zi j) = c.2.1 f w (zi j)) := by
  have hn := tw.1
  have ec := c_at tw hc p0 p1
  have em := m_at tw hm p0 p1
  have hb := bt_b tw p0
  have z1 : (1 : Int32) = zi 1 := zl 1
  by_cases q : bt n T p = 60 ∨ bt n T p = 61 ∨ bt n T p = 62
  · have es : F_Wi_readSign w 14 (zi i) c = some (zi 1, sA (sI c 86 w (zi (p + 1))) 84 w (zi i) (zi (bt n T p))) := by
      rcases q with q | q | q <;> rw [q] at ec ⊢ <;> simp (disch := omega) only [F_Wi_readSign, F_Wi_readSign_40, e86, ↓bse ec, ↓bnd_eq, bd2, bn2, Option.bind_some, Option.bind_none, ↓reduceIte, inb, zl, zi_add, zi_sub, zi_mul, zi_neg, zi_le_t, zi_le_f, zi_lt_t, zi_lt_f, zi_eq_t, zi_eq_f, if_true, if_false, ite_true, ite_false, true_and, and_true, false_and, and_false, not_true_eq_false, not_false_eq_true, true_or, or_true, false_or, or_false, and_self, ge_iff_le, gt_iff_lt]
    have FC : Fr (fun f a => a = w ∧ 84 ≤ f ∧ f ≤ 86) c (sA (sI c 86 w (zi (p + 1))) 84 w (zi i) (zi (bt n T p))) := (Fr.rf.sI ⟨rfl, by decide, by decide⟩).sA ⟨rfl, by decide, by decide⟩
    have hc1 : TPc n T (sA (sI c 86 w (zi (p + 1))) 84 w (zi i) (zi (bt n T p))) := hc.fr FC (fun e => absurd e.2 (by decide)) (fun e => absurd e.2 (by decide))
    obtain ⟨R1, F1⟩ := rd176 (x := zi 0) R rfl
    obtain ⟨R2, F2⟩ := rd175 (x := zi p + zi 1) R1 (u := p + 1) (zi_add p 1)
    obtain ⟨b, p', ok, c', m2, h1, h2, h3, h4, h5, h6, h7, h8, h9, h10⟩ := lk_num tw hw hi (p := p + 1) hc1 ((hm.s175 F1).s175 F2) (by omega) (by omega) (show (sI c 86 w (zi (p + 1))).1 86 w = _ from sI_at) R2
    obtain ⟨m', g1, g2, g3, g4⟩ := m_338 (m := sI m 176 23 (zi 0)) (x2 := x2) (x3 := x3) (x5 := x5) (x6 := zi (bt n T p)) (s0 := zi 1) (s1 := zi p) hi h4 (F2.tr h10) h6
    have FC2 : Fr (fun f a => a = w ∧ 84 ≤ f ∧ f ≤ 86) c c' := FC.tr (h9.to (fun f a e => ⟨e.1, by omega, e.2.2⟩))
    have fz' : ∀ x6, zi (bt n T p) = x6 → F_M_readsPart_317 (zi i) x2 x3 x5 x6 m = some m' := by
      intro x6 hx6
      subst hx6
      unfold F_M_readsPart_317 F_M_readsPart_318
      rw [zl0, if_pos (by decide), bnd_eq, R1.2, if_pos rfl, R1.1, z1]
      exact g1
    refine ⟨p', ok, c', m', ⟨by omega, h2.2⟩, ?_, ?_, h5, g2, FC2, (spm F1).tr g4, fun hok => ⟨bt n T p, b, q, h1, ⟨g3.1, g3.2.1, g3.2.2.1, g3.2.2.2.1, g3.2.2.2.2.1, g3.2.2.2.2.2⟩, ?_, h7, fun f f0 f1 j j0 j4 hj => ?_⟩⟩
    · rw [b2e es, if_neg (by decide), b2e h3]
      cases ok
      · rw [show oz false = 0 from rfl, if_pos (by decide), zl0]
      · rw [show oz true = 1 from rfl, if_neg (by decide), z1]
    · unfold F_M_readsPart_274
      rw [R.1, bse em, R.2, if_pos (by decide)]
      rcases q with q | q | q
      · rw [if_pos (by rw [q]; decide)]
        exact fz' _ rfl
      · rw [if_neg (by rw [q]; decide), if_pos (by rw [q]; decide)]
        exact fz' _ rfl
      · rw [if_neg (by rw [q]; decide), if_neg (by rw [q]; decide), if_pos (by rw [q]; decide)]
        exact fz' _ rfl
    · rw [(h9.2 84 w (fun e => by omega)).2, rAi, if_pos rfl]
    · have hne : ¬ zi j = zi i := fun e => hj (zi_inj e (by omega) (by omega))
      rcases (show f = 84 ∨ f = 85 by omega) with rfl | rfl
      · rw [(h9.2 84 w (fun e => by omega)).2, rAn hne]
        rfl
      · rw [h8 j j0 j4 hj, rA (by decide)]
        rfl
  · have es : F_Wi_readSign w 14 (zi i) c = some (zi 0, c) := by
      simp (disch := omega) only [F_Wi_readSign, e86, ↓bse ec, ↓reduceIte, inb, zl, zi_add, zi_sub, zi_mul, zi_neg, zi_le_t, zi_le_f, zi_lt_t, zi_lt_f, zi_eq_t, zi_eq_f, if_true, if_false, ite_true, ite_false, true_and, and_true, false_and, and_false, not_true_eq_false, not_false_eq_true, true_or, or_true, false_or, or_false, and_self, ge_iff_le, gt_iff_lt]
    obtain ⟨m', g1, g2, g3⟩ := m_318_no (x2 := x2) (x3 := x3) (x5 := x5) (x6 := zi (bt n T p)) hi (p := p) (by omega) R
    refine ⟨p, false, c, m', ⟨Int.le_refl _, p1⟩, ?_, ?_, e86, g2, Fr.rf, g3, fun e => absurd e (by decide)⟩
    · rw [b2e es, if_pos (by decide), zl0]
      rfl
    · unfold F_M_readsPart_274 F_M_readsPart_313
      rw [R.1, bse em, R.2, if_pos (by decide), if_neg (fun e => q (Or.inl (zi_inj (e.trans (zl 60)) (by omega) (by decide)))), if_neg (fun e => q (Or.inr (Or.inl (zi_inj (e.trans (zl 61)) (by omega) (by decide))))), if_neg (fun e => q (Or.inr (Or.inr (zi_inj (e.trans (zl 62)) (by omega) (by decide))))), z1]
      exact g1
end PT
