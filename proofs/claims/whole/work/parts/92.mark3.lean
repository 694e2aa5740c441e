/-! mark (wip/whole/pure) -/
/-- what the program, the beginning, the kept and the live run hold -/
abbrev SCo : Nat → Nat → Prop := fun f a => (a = 1 ∧ 30 ≤ f ∧ f ≤ 34) ∨ (a = 23 ∧ 110 ≤ f ∧ f ≤ 130) ∨ (a = 3 ∧ 70 ≤ f ∧ f ≤ 79) ∨ (a = 8 ∧ 42 ≤ f ∧ f ≤ 53) ∨ (a = 9 ∧ 30 ≤ f ∧ f ≤ 34) ∨ (a = 10 ∧ 70 ≤ f ∧ f ≤ 79) ∨ (f = 152 ∧ a = 23) ∨ (f = 94 ∧ a = 0) ∨ (4 ≤ a ∧ a ≤ 7 ∧ 70 ≤ f ∧ f ≤ 79)
theorem INV.any {δ δ2 : Dl} {S : Nat → Nat → Prop} (I : INV δ) (F : Fr S δ δ2) (n : ∀ f a, SCo f a → ¬ S f a) (hr : JR δ2) : INV δ2 := by
  obtain ⟨⟨v, g, h1, h2, h4⟩, ⟨kn, gk, h3⟩, -⟩ := I
  have c1 : ∀ f a, (a = 1 ∧ 30 ≤ f ∧ f ≤ 34) → ¬ S f a := fun f a e => n f a (Or.inl e)
  have c2 : ∀ f a, (a = 23 ∧ 110 ≤ f ∧ f ≤ 130) → ¬ S f a := fun f a e => n f a (Or.inr (Or.inl e))
  have c3 : ∀ f a, (a = 3 ∧ 70 ≤ f ∧ f ≤ 79) → ¬ S f a := fun f a e => n f a (Or.inr (Or.inr (Or.inl e)))
  have c4 : ∀ f a, (a = 8 ∧ 42 ≤ f ∧ f ≤ 53) → ¬ S f a := fun f a e => n f a (Or.inr (Or.inr (Or.inr (Or.inl e))))
  have c5 : ∀ f a, (a = 9 ∧ 30 ≤ f ∧ f ≤ 34) → ¬ S f a := fun f a e => n f a (Or.inr (Or.inr (Or.inr (Or.inr (Or.inl e)))))
  have c6 : ∀ f a, (a = 10 ∧ 70 ≤ f ∧ f ≤ 79) → ¬ S f a := fun f a e => n f a (Or.inr (Or.inr (Or.inr (Or.inr (Or.inr (Or.inl e))))))
  have c7 : ∀ f a, (f = 152 ∧ a = 23) → ¬ S f a := fun f a e => n f a (Or.inr (Or.inr (Or.inr (Or.inr (Or.inr (Or.inr (Or.inl e)))))))
  have c8 : ∀ f a, (f = 94 ∧ a = 0) → ¬ S f a := fun f a e => n f a (Or.inr (Or.inr (Or.inr (Or.inr (Or.inr (Or.inr (Or.inr (Or.inl e))))))))
  have c9 : ∀ f a, (4 ≤ a ∧ a ≤ 7 ∧ 70 ≤ f ∧ f ≤ 79) → ¬ S f a := fun f a e => n f a (Or.inr (Or.inr (Or.inr (Or.inr (Or.inr (Or.inr (Or.inr (Or.inr e))))))))
  refine ⟨⟨v, g, h1.fr F (fun f a q => ?_), h2.fr F (fun f a q => ?_), h4.fr F (fun f a q => ?_)⟩, ⟨kn, gk, h3.fr F (fun f a q => ?_)⟩, hr⟩
  · rcases q with q | q
    · exact c1 f a q
    · exact c2 f a ⟨q.1, by omega, q.2.2⟩
  · rcases q with q | q
    · exact c3 f a q
    · exact c2 f a ⟨q.1, q.2.1, by omega⟩
  · rcases q with q | q | q | q
    · exact c4 f a q
    · exact c5 f a q
    · exact c6 f a q
    · exact c7 f a q
  · rcases q with q | q | q
    · exact c8 f a q
    · exact c9 f a q
    · exact c2 f a ⟨q.1, by omega, by omega⟩
theorem JR.g7 {δ δ' : Dl} {S : Nat → Nat → Prop} (hr : JR δ) (F : Fr S δ δ') (n : ∀ f a, S f a → SJR f a → (a = 0 ∧ 103 ≤ f ∧ f ≤ 105) ∨ (a = 23 ∧ 161 ≤ f ∧ f ≤ 163)) (h : J7 δ') : JR δ' := by
  obtain ⟨h5, h6, h7, h8, h9, h10, h11, h13, hx⟩ := hr
  have c1 : ∀ f a, (a = 14 ∧ 10 ≤ f ∧ f ≤ 11) → ¬ S f a := fun f a e s => by have := n f a s (Or.inl e); omega
  have c2 : ∀ f a, (16 ≤ a ∧ a ≤ 17 ∧ 80 ≤ f ∧ f ≤ 85) → ¬ S f a := fun f a e s => by have := n f a s (Or.inr (Or.inl e)); omega
  have c3 : ∀ f a, (a = 0 ∧ 106 ≤ f ∧ f ≤ 107) → ¬ S f a := fun f a e s => by have := n f a s (Or.inr (Or.inr (Or.inl ⟨e.1, by omega, e.2.2⟩))); omega
  have c4 : ∀ f a, (a = 15 ∧ 10 ≤ f ∧ f ≤ 11) → ¬ S f a := fun f a e s => by have := n f a s (Or.inr (Or.inr (Or.inr (Or.inl e)))); omega
  have c5 : ∀ f a, (19 ≤ a ∧ a ≤ 22 ∧ 22 ≤ f ∧ f ≤ 23) → ¬ S f a := fun f a e s => by have := n f a s (Or.inr (Or.inr (Or.inr (Or.inr (Or.inl e))))); omega
  have c6 : ∀ f a, (a = 18 ∧ 60 ≤ f ∧ f ≤ 62) → ¬ S f a := fun f a e s => by have := n f a s (Or.inr (Or.inr (Or.inr (Or.inr (Or.inr (Or.inl e)))))); omega
  have c7 : ∀ f a, a = 23 → ((153 ≤ f ∧ f ≤ 160) ∨ (164 ≤ f ∧ f ≤ 173) ∨ f = 177) → ¬ S f a := fun f a ea e s => by have := n f a s (Or.inr (Or.inr (Or.inr (Or.inr (Or.inr (Or.inr ⟨ea, by omega⟩)))))); omega
  refine ⟨h5.fr F (fun f a q => ?_), h6.fr F (fun f a q => ?_), h, h8.fr F (fun f a q => ?_), h9.fr F (fun f a q => ?_), h10.fr F (fun f a q => ?_), h11.fr F (fun f a q => ?_), h13.fr F (c7 177 23 rfl (by decide)), hx.fr F⟩
  · rcases q with q | q
    · exact c1 f a q
    · exact c7 f a q.1 (by omega)
  · rcases q with q | q
    · exact c2 f a q
    · exact c7 f a q.1 (by omega)
  · rcases q with q | q
    · exact c3 f a q
    · exact c7 f a q.1 (by omega)
  · rcases q with q | q
    · exact c4 f a q
    · exact c7 f a q.1 (by omega)
  · rcases q with q | q
    · exact c5 f a q
    · exact c7 f a q.1 (by omega)
  · rcases q with q | q
    · exact c6 f a q
    · exact c7 f a q.1 (by omega)
abbrev SKc : Nat → Nat → Prop := fun f a => (a = 13 ∧ 70 ≤ f ∧ f ≤ 79) ∨ (a = 11 ∧ 42 ≤ f ∧ f ≤ 53) ∨ (a = 12 ∧ 30 ≤ f ∧ f ≤ 34) ∨ (a = 0 ∧ 103 ≤ f ∧ f ≤ 105)
abbrev SKm : Nat → Nat → Prop := fun f _ => (131 ≤ f ∧ f ≤ 151) ∨ f = 174 ∨ (183 ≤ f ∧ f ≤ 184) ∨ (161 ≤ f ∧ f ≤ 163)
theorem skc {δ δ' : Dl} (F : Fr (SBc 11 13) δ δ') : Fr SKc δ δ' := F.to (fun f a e => by
  have : (a = 13 ∧ 70 ≤ f ∧ f ≤ 79) ∨ (a = 11 ∧ 42 ≤ f ∧ f ≤ 53) := e
  show (a = 13 ∧ 70 ≤ f ∧ f ≤ 79) ∨ (a = 11 ∧ 42 ≤ f ∧ f ≤ 53) ∨ (a = 12 ∧ 30 ≤ f ∧ f ≤ 34) ∨ (a = 0 ∧ 103 ≤ f ∧ f ≤ 105)
  omega)
theorem skm {δ δ' : Dl} (F : Fr SLm δ δ') : Fr SKm δ δ' := F.to (fun f a e => by
  have : (131 ≤ f ∧ f ≤ 151) ∨ f = 174 ∨ (183 ≤ f ∧ f ≤ 184) := e
  show (131 ≤ f ∧ f ≤ 151) ∨ f = 174 ∨ (183 ≤ f ∧ f ≤ 184) ∨ (161 ≤ f ∧ f ≤ 163)
  omega)
/-- what mark wants of the two sides' states -/
def MHc (v : PG) (n : Int) (gk : Int → SG) (w : Nat) (c : Dl) : Prop := CP 12 c v ∧ c.1 94 0 = zi n ∧ (∀ i : Nat, i < 4 → c.2.2 93 i = (0, 4 + i)) ∧ (∀ i : Nat, (i : Int) < n → CG (4 + i) c (gk i)) ∧ c.2.2 99 0 = (0, w)
def MHm (v : PG) (n : Int) (gk : Int → SG) (m : Dl) : Prop := MP m v ∧ m.1 117 23 = zi n ∧ ∀ i : Nat, (i : Int) < n → MG i m (gk i)
section MK2
variable {v : PG} {gk : Int → SG} {x n nw : Int} {w : Nat} {wh : Int → Int}
theorem MHc.fr {S : Nat → Nat → Prop} {c c' : Dl} (h : MHc v n gk w c) (F : Fr S c c') (q : ∀ f a, (a = 12 ∧ 30 ≤ f ∧ f ≤ 34) ∨ (f = 94 ∧ a = 0) ∨ (4 ≤ a ∧ a ≤ 7 ∧ 70 ≤ f ∧ f ≤ 79) → ¬ S f a) (hn : n ≤ 4) : MHc v n gk w c' := by
  obtain ⟨h1, h2, h3, h4, h5⟩ := h
  exact ⟨h1.fr F (fun f a b => q f 12 (by omega)), by rw [(F.2 94 0 (q 94 0 (by omega))).1]; exact h2, by rw [F.1]; exact h3, fun i hi => (h4 i hi).fr F (fun f a b => q f (4 + i) (by omega)), by rw [F.1]; exact h5⟩
theorem MHm.fr {S : Nat → Nat → Prop} {m m' : Dl} (h : MHm v n gk m) (F : Fr S m m') (q : ∀ f, 110 ≤ f → f ≤ 130 → ¬ S f 23) : MHm v n gk m' := by
  obtain ⟨h1, h2, h4⟩ := h
  exact ⟨h1.fr F (fun f a b => q f (by omega) (by omega)), by rw [(F.2 117 23 (q 117 (by omega) (by omega))).1]; exact h2, fun i hi => (h4 i hi).fr F (fun f a b => q f (by omega) (by omega))⟩
theorem lk_marks (W : PW v) (hn : 0 ≤ n ∧ n ≤ 4) (wg : ∀ i : Nat, (i : Int) < n → WG (gk i)) (hw : w = 16 ∨ w = 17) (hnw : 0 ≤ nw ∧ nw ≤ 4) (hx : 0 ≤ x ∧ x ≤ 40) : ∀ (j : Nat) (i : Int) (fu f2 : Nat) (c m : Dl), 0 ≤ i → i + j = n → j < fu → j < f2 → MHc v n gk w c → MHm v n gk m → WS w nw wh c m → c.1 104 0 = zi (-1) → c.1 105 0 = zi (-1) → m.1 162 23 = zi (-1) → m.1 163 23 = zi (-1) →
    ∃ (r : Int32) (c' m' : Dl), F_Bs_mark_55 (zi x) fu (zi i) c = some (r, c') ∧ F_M_mark_47 (zi x) f2 (zi i) m = some (r, m') ∧ c'.1 103 0 = c.1 103 0 ∧ m'.1 161 23 = m.1 161 23 ∧ c'.1 104 0 = m'.1 162 23 ∧ c'.1 105 0 = m'.1 163 23 ∧ Fr SKc c c' ∧ Fr SKm m m' := by
  intro j
  induction j with
  | zero =>
    intro i fu f2 c m i0 hi hf hf2 hc hm hS e104 e105 e162 e163
    obtain ⟨fu, rfl⟩ : ∃ q, fu = q + 1 := ⟨fu - 1, by omega⟩
    obtain ⟨f2, rfl⟩ : ∃ q, f2 = q + 1 := ⟨f2 - 1, by omega⟩
    have e94 := hc.2.1
    have e117 := hm.2.1
    refine ⟨zi 1, c, m, ?_, ?_, rfl, rfl, by rw [e104, e162], by rw [e105, e163], Fr.rf, Fr.rf⟩
    · simp (disch := omega) only [F_Bs_mark_55, F_Bs_mark_55_b, e94, ↓reduceIte, inb, zl, zi_add, zi_sub, zi_mul, zi_neg, zi_le_t, zi_le_f, zi_lt_t, zi_lt_f, zi_eq_t, zi_eq_f, if_true, if_false, ite_true, ite_false, true_and, and_true, false_and, and_false, not_true_eq_false, not_false_eq_true, true_or, or_true, false_or, or_false, and_self, ge_iff_le, gt_iff_lt]
    · simp (disch := omega) only [F_M_mark_47, F_M_mark_47_b, F_M_mark_96, e117, e162, ↓reduceIte, inb, zl, zi_add, zi_sub, zi_mul, zi_neg, zi_le_t, zi_le_f, zi_lt_t, zi_lt_f, zi_eq_t, zi_eq_f, if_true, if_false, ite_true, ite_false, true_and, and_true, false_and, and_false, not_true_eq_false, not_false_eq_true, true_or, or_true, false_or, or_false, and_self, ge_iff_le, gt_iff_lt]
  | succ j ih =>
    intro i fu f2 c m i0 hi hf hf2 hc hm hS e104 e105 e162 e163
    obtain ⟨fu, rfl⟩ : ∃ q, fu = q + 1 := ⟨fu - 1, by omega⟩
    obtain ⟨f2, rfl⟩ : ∃ q, f2 = q + 1 := ⟨f2 - 1, by omega⟩
    obtain ⟨C12, e94, e93, hk, e99⟩ := id hc
    obtain ⟨M, e117, hkm⟩ := id hm
    have hit : (i.toNat : Int) = i := by omega
    have b1 := wg i.toNat (by omega)
    have b2 := hk i.toNat (by omega)
    have b3 := hkm i.toNat (by omega)
    rw [hit] at b1 b2 b3
    have hr93 := e93 i.toNat (by omega)
    have ek : F_Bs_keptAt (zi i) c = some (0, 4 + i.toNat) := by simp (disch := omega) only [F_Bs_keptAt, e94, tnc, hr93, ↓reduceIte, inb, zl, zi_add, zi_sub, zi_mul, zi_neg, zi_le_t, zi_le_f, zi_lt_t, zi_lt_f, zi_eq_t, zi_eq_f, if_true, if_false, ite_true, ite_false, true_and, and_true, false_and, and_false, not_true_eq_false, not_false_eq_true, true_or, or_true, false_or, or_false, and_self, ge_iff_le, gt_iff_lt]
    obtain ⟨r, c1, m1, hr, g1, g2, F1, F2⟩ := lk_loses (o := 4 + i.toNat) W b1 hw hnw hx (k := i) (by omega) (by omega) C12 b2 M b3 hS
    have hoc := oc9 i.toNat (by omega)
    have how := oc10 hw
    have ec : F_Bs_mark_55 (zi x) (fu + 1) (zi i) c = F_Bs_mark_90 (zi x) (F_Bs_mark_55 (zi x) fu) (zi i) (zi r) c1 := by
      show F_Bs_mark_55_b (zi x) (F_Bs_mark_55 (zi x) fu) (zi i) c = _
      unfold F_Bs_mark_55_b
      rw [e94, if_neg (by rw [zi_le (by omega) (by omega)]; omega), ek, Option.bind_some, if_neg (fun e => absurd e (show ¬ (0 : Nat) = 1 by decide)), e99, if_pos ⟨rfl, how⟩, if_pos ⟨rfl, hoc⟩, g1]
      rfl
    have n162 : m1.1 162 23 = zi (-1) := by rw [(F2.2 162 23 (by decide)).1]; exact e162
    have n161 : m1.1 161 23 = m.1 161 23 := (F2.2 161 23 (by decide)).1
    have n103 : c1.1 103 0 = c.1 103 0 := (F1.2 103 0 (by decide)).1
    have em : ∀ s, (r = -1 → s = zi (-1)) → (r ≠ -1 → s = zi i) → F_M_mark_47 (zi x) (f2 + 1) (zi i) m = F_M_mark_47 (zi x) f2 (zi (i + 1)) (sI (sI m1 163 23 (zi r)) 162 23 s) := by
      intro s h1 h2
      by_cases q : r = -1
      · rw [h1 q]
        subst q
        simp (disch := omega) only [F_M_mark_47, F_M_mark_47_b, F_M_mark_87, e117, e162, g2, sI_at, ↓bnd_eq, bd2, bn2, Option.bind_some, Option.bind_none, ↓reduceIte, inb, zl, zi_add, zi_sub, zi_mul, zi_neg, zi_le_t, zi_le_f, zi_lt_t, zi_lt_f, zi_eq_t, zi_eq_f, if_true, if_false, ite_true, ite_false, true_and, and_true, false_and, and_false, not_true_eq_false, not_false_eq_true, true_or, or_true, false_or, or_false, and_self, ge_iff_le, gt_iff_lt]
      · rw [h2 q]
        simp (disch := omega) only [F_M_mark_47, F_M_mark_47_b, F_M_mark_87, e117, e162, g2, sI_at, ↓bnd_eq, bd2, bn2, Option.bind_some, Option.bind_none, ↓reduceIte, inb, zl, zi_add, zi_sub, zi_mul, zi_neg, zi_le_t, zi_le_f, zi_lt_t, zi_lt_f, zi_eq_t, zi_eq_f, if_true, if_false, ite_true, ite_false, true_and, and_true, false_and, and_false, not_true_eq_false, not_false_eq_true, true_or, or_true, false_or, or_false, and_self, ge_iff_le, gt_iff_lt]
    by_cases q : r = -1
    · subst q
      have fm : Fr SKm m (sI (sI m1 163 23 (zi (-1))) 162 23 (zi (-1))) := ((skm F2).sI (by decide)).sI (by decide)
      obtain ⟨r', c', m', h1, h2, h3, h4, h5, h6, G1, G2⟩ := ih (i + 1) fu f2 c1 (sI (sI m1 163 23 (zi (-1))) 162 23 (zi (-1))) (by omega) (by omega) (by omega) (by omega) (hc.fr F1 (fun f a e1 e2 => by
        have : (a = 13 ∧ 70 ≤ f ∧ f ≤ 79) ∨ (a = 11 ∧ 42 ≤ f ∧ f ≤ 53) := e2
        omega) hn.2) (hm.fr fm (fun f h1 h2 e => by
        have : (131 ≤ f ∧ f ≤ 151) ∨ f = 174 ∨ (183 ≤ f ∧ f ≤ 184) ∨ (161 ≤ f ∧ f ≤ 163) := e
        omega)) (hS.fr F1 fm (fun f h1 h2 e => by
        have : (w = 13 ∧ 70 ≤ f ∧ f ≤ 79) ∨ (w = 11 ∧ 42 ≤ f ∧ f ≤ 53) := e
        omega) (fun f h1 h2 e => by
        have : (131 ≤ f ∧ f ≤ 151) ∨ f = 174 ∨ (183 ≤ f ∧ f ≤ 184) ∨ (161 ≤ f ∧ f ≤ 163) := e
        omega)) (by rw [(F1.2 104 0 (by decide)).1]; exact e104) (by rw [(F1.2 105 0 (by decide)).1]; exact e105) sI_at (by
        rw [q1I, if_neg (by decide)]; exact sI_at)
      refine ⟨r', c', m', ?_, ?_, by rw [h3, n103], ?_, h5, h6, (skc F1).tr G1, fm.tr G2⟩
      · rw [ec, ← h1]
        simp (disch := omega) only [F_Bs_mark_90, ↓reduceIte, inb, zl, zi_add, zi_sub, zi_mul, zi_neg, zi_le_t, zi_le_f, zi_lt_t, zi_lt_f, zi_eq_t, zi_eq_f, if_true, if_false, ite_true, ite_false, true_and, and_true, false_and, and_false, not_true_eq_false, not_false_eq_true, true_or, or_true, false_or, or_false, and_self, ge_iff_le, gt_iff_lt]
      · rw [em (zi (-1)) (fun _ => rfl) (fun e => absurd rfl e), h2]
      · rw [h4, q1I, if_neg (by decide), q1I, if_neg (by decide), n161]
    · have fm : Fr SKm m (sI (sI m1 163 23 (zi r)) 162 23 (zi i)) := ((skm F2).sI (by decide)).sI (by decide)
      refine ⟨zi 0, sI (sI c1 104 0 (zi i)) 105 0 (zi r), sI (sI m1 163 23 (zi r)) 162 23 (zi i), ?_, ?_, ?_, ?_, ?_, ?_, ((skc F1).sI (by decide)).sI (by decide), fm⟩
      · rw [ec]
        simp (disch := omega) only [F_Bs_mark_90, ↓bnd_eq, bd2, bn2, Option.bind_some, Option.bind_none, ↓reduceIte, inb, zl, zi_add, zi_sub, zi_mul, zi_neg, zi_le_t, zi_le_f, zi_lt_t, zi_lt_f, zi_eq_t, zi_eq_f, if_true, if_false, ite_true, ite_false, true_and, and_true, false_and, and_false, not_true_eq_false, not_false_eq_true, true_or, or_true, false_or, or_false, and_self, ge_iff_le, gt_iff_lt]
      · rw [em (zi i) (fun e => absurd e q) (fun _ => rfl)]
        obtain ⟨f2, rfl⟩ : ∃ q, f2 = q + 1 := ⟨f2 - 1, by omega⟩
        have k162 : (sI (sI m1 163 23 (zi r)) 162 23 (zi i)).1 162 23 = zi i := sI_at
        have k117 : (sI (sI m1 163 23 (zi r)) 162 23 (zi i)).1 117 23 = zi n := by
          rw [(fm.2 117 23 (by decide)).1]; exact e117
        generalize (sI (sI m1 163 23 (zi r)) 162 23 (zi i)) = D at *
        by_cases q2 : n ≤ i + 1
        · simp (disch := omega) only [F_M_mark_47, F_M_mark_47_b, F_M_mark_96, k117, k162, ↓reduceIte, inb, zl, zi_add, zi_sub, zi_mul, zi_neg, zi_le_t, zi_le_f, zi_lt_t, zi_lt_f, zi_eq_t, zi_eq_f, if_true, if_false, ite_true, ite_false, true_and, and_true, false_and, and_false, not_true_eq_false, not_false_eq_true, true_or, or_true, false_or, or_false, and_self, ge_iff_le, gt_iff_lt]
        · simp (disch := omega) only [F_M_mark_47, F_M_mark_47_b, F_M_mark_96, k117, k162, ↓reduceIte, inb, zl, zi_add, zi_sub, zi_mul, zi_neg, zi_le_t, zi_le_f, zi_lt_t, zi_lt_f, zi_eq_t, zi_eq_f, if_true, if_false, ite_true, ite_false, true_and, and_true, false_and, and_false, not_true_eq_false, not_false_eq_true, true_or, or_true, false_or, or_false, and_self, ge_iff_le, gt_iff_lt]
      · rw [q1I, if_neg (by decide), q1I, if_neg (by decide), n103]
      · rw [q1I, if_neg (by decide), q1I, if_neg (by decide), n161]
      · rw [q1I, if_neg (by decide), sI_at, sI_at]
      · rw [sI_at, q1I, if_neg (by decide), sI_at]
end MK2
