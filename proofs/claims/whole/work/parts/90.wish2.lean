/-! wish (wip/whole/pure) -/
section W2
variable {n : Int} {T : Int → Int} {w : Nat}
abbrev S156 : Nat → Nat → Prop := fun f a => a = 23 ∧ 156 ≤ f ∧ f ≤ 160
theorem m_143 {N : Int} (hN : N ≤ 4) : ∀ (j : Nat) (i : Int) (fu : Nat) (m : Dl), i + j = N → j < fu → 0 ≤ i → ∃ m', F_M_wish_143 fu (zi N) (zi i) m = some (m.1 155 23, m') ∧ Fr S156 m m' ∧ ∀ q, 0 ≤ q → q < N → m'.2.1 156 23 (zi q) = (if i ≤ q then m.2.1 178 23 (zi q) else m.2.1 156 23 (zi q)) ∧ m'.2.1 157 23 (zi q) = (if i ≤ q then m.2.1 179 23 (zi q) else m.2.1 157 23 (zi q)) ∧ m'.2.1 158 23 (zi q) = (if i ≤ q then m.2.1 180 23 (zi q) else m.2.1 158 23 (zi q)) ∧ m'.2.1 159 23 (zi q) = (if i ≤ q then m.2.1 181 23 (zi q) else m.2.1 159 23 (zi q)) ∧ m'.2.1 160 23 (zi q) = (if i ≤ q then m.2.1 182 23 (zi q) else m.2.1 160 23 (zi q)) := by
  intro j
  induction j with
  | zero =>
    intro i fu m hi hf i0
    obtain ⟨fu, rfl⟩ : ∃ q, fu = q + 1 := ⟨fu - 1, by omega⟩
    refine ⟨m, ?_, Fr.rf, fun q q0 q1 => ?_⟩
    · simp (disch := omega) only [F_M_wish_143, F_M_wish_143_b, ↓reduceIte, inb, zl, zi_add, zi_sub, zi_mul, zi_neg, zi_le_t, zi_le_f, zi_lt_t, zi_lt_f, zi_eq_t, zi_eq_f, if_true, if_false, ite_true, ite_false, true_and, and_true, false_and, and_false, not_true_eq_false, not_false_eq_true, true_or, or_true, false_or, or_false, and_self, ge_iff_le, gt_iff_lt]
    · simp only [if_neg (show ¬ i ≤ q by omega), and_self]
  | succ j ih =>
    intro i fu m hi hf i0
    obtain ⟨fu, rfl⟩ : ∃ q, fu = q + 1 := ⟨fu - 1, by omega⟩
    obtain ⟨m', e, F, r⟩ := ih (i + 1) fu (sA (sA (sA (sA (sA m 156 23 (zi i) (m.2.1 178 23 (zi i))) 157 23 (zi i) (m.2.1 179 23 (zi i))) 158 23 (zi i) (m.2.1 180 23 (zi i))) 159 23 (zi i) (m.2.1 181 23 (zi i))) 160 23 (zi i) (m.2.1 182 23 (zi i))) (by omega) (by omega) (by omega)
    refine ⟨m', ?_, ((((((Fr.rf (S := S156)).sA ⟨rfl, by decide, by decide⟩).sA ⟨rfl, by decide, by decide⟩).sA ⟨rfl, by decide, by decide⟩).sA ⟨rfl, by decide, by decide⟩).sA ⟨rfl, by decide, by decide⟩).tr F, fun q q0 q1 => ?_⟩
    · rw [show m.1 155 23 = (sA (sA (sA (sA (sA m 156 23 (zi i) (m.2.1 178 23 (zi i))) 157 23 (zi i) (m.2.1 179 23 (zi i))) 158 23 (zi i) (m.2.1 180 23 (zi i))) 159 23 (zi i) (m.2.1 181 23 (zi i))) 160 23 (zi i) (m.2.1 182 23 (zi i))).1 155 23 from rfl, ← e]
      simp (disch := omega) only [F_M_wish_143, F_M_wish_143_b, ↓bnd_eq, bd2, bn2, Option.bind_some, Option.bind_none, q2A, Nat.reduceEqDiff, ↓reduceIte, inb, zl, zi_add, zi_sub, zi_mul, zi_neg, zi_le_t, zi_le_f, zi_lt_t, zi_lt_f, zi_eq_t, zi_eq_f, if_true, if_false, ite_true, ite_false, true_and, and_true, false_and, and_false, not_true_eq_false, not_false_eq_true, true_or, or_true, false_or, or_false, and_self, ge_iff_le, gt_iff_lt]
    · have r := r q q0 q1
      by_cases q1' : i + 1 ≤ q
      · simp only [if_pos q1'] at r
        simp only [if_pos (show i ≤ q by omega)]
        simp only [q2A, Nat.reduceEqDiff, false_and, and_self, if_true, if_false, ↓reduceIte, true_and] at r
        exact r
      · simp only [if_neg q1'] at r
        by_cases q2 : q = i
        · subst q2
          simp only [if_pos (Int.le_refl q)]
          simp only [q2A, Nat.reduceEqDiff, false_and, and_self, if_true, if_false, ↓reduceIte, true_and] at r
          exact r
        · have hne : ¬ zi q = zi i := fun e => q2 (zi_inj e (by omega) (by omega))
          simp only [if_neg (show ¬ i ≤ q by omega)]
          simp only [rAn hne] at r
          exact r
theorem lk_wish {c m : Dl} (tw : TW n T) (hw : w = 16 ∨ w = 17) (hc : TPc n T c) (hm : TPm n T m) (h13 : J13 m) : RO n w c m (F_Wi_read w 14 c) (F_M_wish m) := by
  have hn := tw.1
  have FC : Fr (SVc w) c (sW (sI (sI c 80 w (zi 0)) 86 w (zi 0)) 81 w (fr1 ((sI (sI c 80 w (zi 0)) 86 w (zi 0)).2.1 81 w) 0 4 (zi 0))) := ((Fr.rf.sI ⟨rfl, by decide, by decide⟩).sI ⟨rfl, by decide, by decide⟩).sW ⟨rfl, by decide, by decide⟩
  have FM : Fr SPm m (sI (sI m 175 23 (zi 0)) 176 23 (zi 0)) := (Fr.rf.sI ⟨rfl, by decide⟩).sI ⟨rfl, by decide⟩
  obtain ⟨f, hf⟩ : ∃ f, FU = f + 1 := ⟨FU - 1, by unfold FU; omega⟩
  have hfl : 1000 ≤ f := by unfold FU at hf; omega
  have ec : F_Wi_read w 14 c = F_Wi_read_44 w 14 (F_Wi_read_20 w 14 f) (zi 0) (sW (sI (sI c 80 w (zi 0)) 86 w (zi 0)) 81 w (fr1 ((sI (sI c 80 w (zi 0)) 86 w (zi 0)).2.1 81 w) 0 4 (zi 0))) := by
    unfold F_Wi_read
    rw [bnd_eq, bnd_eq, zl0, show (4 : Int32) = zi 4 from zl 4, fill2 (by omega), Option.bind_some, hf]
    show F_Wi_read_20_b w 14 (F_Wi_read_20 w 14 f) (zi 0) _ = _
    unfold F_Wi_read_20_b
    rw [if_neg (by decide), if_pos (by decide)]
  have em : F_M_wish m = F_M_wish_14 FU (zi 0) (zi 1) (sI (sI m 175 23 (zi 0)) 176 23 (zi 0)) := by
    unfold F_M_wish
    rw [bnd_eq, bnd_eq, zl0, show (1 : Int32) = zi 1 from zl 1]
  have r := lk_read_l tw hw 4 0 0 (fun _ => 0) f FU (sW (sI (sI c 80 w (zi 0)) 86 w (zi 0)) 81 w (fr1 ((sI (sI c 80 w (zi 0)) 86 w (zi 0)).2.1 81 w) 0 4 (zi 0))) (sI (sI m 175 23 (zi 0)) 176 23 (zi 0)) (F_Wi_read_20 w 14 f) (by omega) (by omega) (by omega) (by unfold FU; omega) (by omega) rfl (hc.fr FC (fun e => by have := e.1; omega) (fun e => by have := e.1; omega)) (hm.fr FM (by decide) (by decide)) (h13.s175 FM) (by omega) (by omega) (show (sI (sI c 80 w (zi 0)) 86 w (zi 0)).1 86 w = zi 0 from sI_at) ⟨rfl, rfl⟩ (fun q q0 q1 => by omega) (fun q q0 q4 => ⟨0, by decide, by
    rw [rWi, fr1_in (by omega)], fun y y0 y4 => by
    have := bI0 y.toNat (by omega)
    rw [Int.toNat_of_nonneg y0] at this
    rw [this, if_neg (fun h => by have := h.1; omega)]⟩)
  rw [ec, em]
  rcases r with ⟨pp, c', m', r1, r2, r3, r4, r5⟩ | ⟨N, wh', c', m', r1, r2, r3, r4, r5, r6, r7, r8⟩
  · exact Or.inl ⟨pp, c', m', r1, r2, r3, FC.tr r4, FM.tr r5⟩
  · exact Or.inr ⟨N, wh', c', m', r1, r2, r3, r4, r5, r6, FC.tr r7, FM.tr r8⟩
end W2
theorem rx_s {δ : Dl} (h : RX δ) {f0 a0 : Nat} {q : Nat × Nat} (h1 : q.1 ≤ 1) (h2 : q.2 < 19) : RX (sR δ f0 a0 q) := by
  intro f a
  show (if f = f0 ∧ a = a0 then q else δ.2.2 f a).1 ≤ 1 ∧ (¬ (f = 102 ∧ a = 0) → (if f = f0 ∧ a = a0 then q else δ.2.2 f a).1 = 0 → (if f = f0 ∧ a = a0 then q else δ.2.2 f a).2 < 19)
  by_cases e : f = f0 ∧ a = a0
  · rw [if_pos e]; exact ⟨h1, fun _ _ => h2⟩
  · rw [if_neg e]; exact h f a
theorem INV.wi {δ δ2 : Dl} {S : Nat → Nat → Prop} (I : INV δ) (F : Fr S δ (δ2.1, δ2.2.1, δ.2.2)) (n : ∀ f a, S f a → (16 ≤ a ∧ a ≤ 17 ∧ 80 ≤ f ∧ f ≤ 86) ∨ (f = 10 ∧ a = 14) ∨ (a = 23 ∧ ((154 ≤ f ∧ f ≤ 160) ∨ (175 ≤ f ∧ f ≤ 176) ∨ (178 ≤ f ∧ f ≤ 182)))) (e93 : ∀ i : Nat, i < 4 → δ2.2.2 93 i = δ.2.2 93 i) (e102 : δ2.2.2 102 0 = δ.2.2 102 0) (hx : RX δ2) (j5 : J5 δ2) (j6 : J6 δ2) : INV δ2 := by
  obtain ⟨⟨v, g, h1, h2, h4⟩, ⟨kn, gk, h3⟩, -, -, h7, h8, h9, h10, h11, h13, -⟩ := I
  have k1 : J1 v (δ2.1, δ2.2.1, δ.2.2) := h1.fr F (fun f a q e => by have := n f a e; omega)
  have k2 : J2 g (δ2.1, δ2.2.1, δ.2.2) := h2.fr F (fun f a q e => by have := n f a e; omega)
  have k4 : J4 v g (δ2.1, δ2.2.1, δ.2.2) := h4.fr F (fun f a q e => by have := n f a e; omega)
  obtain ⟨b0, b1, b2, b3, b4⟩ : J3 kn gk (δ2.1, δ2.2.1, δ.2.2) := h3.fr F (fun f a q e => by have := n f a e; omega)
  have k7 : J7 (δ2.1, δ2.2.1, δ.2.2) := h7.fr F (fun f a q e => by have := n f a e; omega)
  have k8 : J8 (δ2.1, δ2.2.1, δ.2.2) := h8.fr F (fun f a q e => by have := n f a e; omega)
  have k9 : J9 (δ2.1, δ2.2.1, δ.2.2) := h9.fr F (fun f a q e => by have := n f a e; omega)
  have k10 : J10 (δ2.1, δ2.2.1, δ.2.2) := h10.fr F (fun f a q e => by have := n f a e; omega)
  have k11 : J11 (δ2.1, δ2.2.1, δ.2.2) := h11.fr F (fun f a q e => by have := n f a e; omega)
  have k13 : J13 (δ2.1, δ2.2.1, δ.2.2) := h13.fr F (fun e => by have := n 177 23 e; omega)
  refine ⟨⟨v, g, k1, k2, k4⟩, ⟨kn, gk, ⟨b0, b1, b2, fun i hi => (e93 i hi).trans (b3 i hi), b4⟩⟩, j5, j6, k7, k8, k9, ?_, k11, k13, hx⟩
  rcases k10 with ⟨c1, c2⟩ | ⟨q, m, hq, c1, c2⟩
  · exact Or.inl ⟨e102.trans c1, c2⟩
  · exact Or.inr ⟨q, m, hq, e102.trans c1, c2⟩
theorem st_wish : S2 INV F_Bs_wish F_M_wish := by
  intro δ I
  obtain ⟨nt, hnt, t10, t154, tt⟩ := I.2.2.1
  obtain ⟨w, w', nw, hw, hnw, r99, r100, e80, e155, P, B⟩ := I.2.2.2.1
  have h13 := I.2.2.2.2.2.2.2.2.2.1
  have hx := I.2.2.2.2.2.2.2.2.2.2
  have hw' : w' = 16 ∨ w' = 17 := by omega
  have hww : w ≠ w' := by omega
  have how := oc10 hw'
  -- the tape
  have tw : TW nt (fun i => (δ.2.1 11 14 (zi i)).toInt) := ⟨hnt, fun i i0 i1 => by
    obtain ⟨x, hx, e1, -⟩ := tt i i0 i1
    show 0 ≤ (δ.2.1 11 14 (zi i)).toInt ∧ (δ.2.1 11 14 (zi i)).toInt ≤ 255
    rw [e1, zi_toInt (by omega)]
    exact hx⟩
  have tpc : TPc nt (fun i => (δ.2.1 11 14 (zi i)).toInt) δ := ⟨t10, fun i i0 i1 => zi_of _⟩
  have tpm : TPm nt (fun i => (δ.2.1 11 14 (zi i)).toInt) δ := ⟨t154, fun i i0 i1 => by
    obtain ⟨x, hx, e1, e2⟩ := tt i i0 i1
    show _ = zi (δ.2.1 11 14 (zi i)).toInt
    rw [e1, zi_toInt (by omega)]
    exact e2⟩
  generalize (fun i => (δ.2.1 11 14 (zi i)).toInt) = T at *
  have z10 : (-10 : Int32) = zi (-10) := by decide
  have zm1 : (-1 : Int32) = zi (-1) := by decide
  have eB : ∀ v8 δ8, F_Wi_read w' 14 δ = some (v8, δ8) → F_Bs_wish δ = bnd (sI δ8 10 14 (zi 0)) fun δ16 => if v8 = (-1) then (bnd (sR δ16 99 0 (δ16.2.2 100 0)) fun δ39 => bnd (sR δ39 100 0 (δ16.2.2 99 0)) fun δ44 => if ((δ44.2.2 99 0)).1 = 0 ∧ Oc ((δ44.2.2 99 0)).2 10 then some ((δ44.1 80 ((δ44.2.2 99 0)).2), δ44) else none) else (some (((-10) - v8), δ16)) := by
    intro v8 δ8 e
    unfold F_Bs_wish
    rw [r100, if_pos ⟨rfl, how⟩, b2e e]
    unfold F_By_clear
    rw [zl0]
    rfl
  rcases lk_wish tw hw' tpc tpm h13 with ⟨p, c', m', hp, f1, -, F1, -⟩ | ⟨N, wh, c', m', hN, f1, -, -, -, -, F1, -⟩
  · -- a fault
    have Fc : Fr (fun f a => (a = w' ∧ 80 ≤ f ∧ f ≤ 86) ∨ (f = 10 ∧ a = 14)) δ (sI c' 10 14 (zi 0)) := (Fr.to (S' := fun f a => (a = w' ∧ 80 ≤ f ∧ f ≤ 86) ∨ (f = 10 ∧ a = 14)) F1 (fun f a e => Or.inl e)).sI (Or.inr ⟨rfl, rfl⟩)
    have tpm1 : TPm nt T (sI c' 10 14 (zi 0)) := tpm.fr Fc (fun e => by omega) (fun e => by omega)
    have h131 : J13 (sI c' 10 14 (zi 0)) := h13.fr Fc (fun e => by omega)
    rcases lk_wish tw hw' tpc tpm1 h131 with ⟨p2, c2, m2, hp2, g1, g2, -, F2⟩ | ⟨N, wh, c2, m2, hN, g1, -, -, -, -, -, -⟩
    · have h12 : (zi p2, c2) = (zi p, c') := Option.some.inj (g1.symm.trans f1)
      have hpe : p2 = p := zi_inj (congrArg Prod.fst h12) (by omega) (by omega)
      rw [hpe] at g2
      have F : Fr (fun f a => (a = w' ∧ 80 ≤ f ∧ f ≤ 86) ∨ (f = 10 ∧ a = 14) ∨ (a = 23 ∧ (f = 154 ∨ (175 ≤ f ∧ f ≤ 176) ∨ (178 ≤ f ∧ f ≤ 182)))) δ (sI m2 154 23 (zi 0)) := ((Fc.to (fun f a e => by
        have : (a = w' ∧ 80 ≤ f ∧ f ≤ 86) ∨ (f = 10 ∧ a = 14) := e
        show (a = w' ∧ 80 ≤ f ∧ f ≤ 86) ∨ (f = 10 ∧ a = 14) ∨ (a = 23 ∧ (f = 154 ∨ (175 ≤ f ∧ f ≤ 176) ∨ (178 ≤ f ∧ f ≤ 182)))
        omega)).tr (F2.to (fun f a e => by
        have : a = 23 ∧ ((175 ≤ f ∧ f ≤ 176) ∨ (178 ≤ f ∧ f ≤ 182)) := e
        show (a = w' ∧ 80 ≤ f ∧ f ≤ 86) ∨ (f = 10 ∧ a = 14) ∨ (a = 23 ∧ (f = 154 ∨ (175 ≤ f ∧ f ≤ 176) ∨ (178 ≤ f ∧ f ≤ 182)))
        omega))).sI (Or.inr (Or.inr ⟨rfl, Or.inl rfl⟩))
      have Fx : Fr (fun f a => (a = w' ∧ 80 ≤ f ∧ f ≤ 86) ∨ (f = 10 ∧ a = 14) ∨ (a = 23 ∧ (f = 154 ∨ (175 ≤ f ∧ f ≤ 176) ∨ (178 ≤ f ∧ f ≤ 182)))) δ ((sI m2 154 23 (zi 0)).1, (sI m2 154 23 (zi 0)).2.1, δ.2.2) := ⟨rfl, F.2⟩
      refine ⟨zi (-10 - p), sI c' 10 14 (zi 0), sI m2 154 23 (zi 0), ?_, g2, INV.wi I Fx (fun f a e => ?_) (fun i _ => by rw [F.1]) (by rw [F.1]) (by unfold RX at hx ⊢; rw [F.1]; exact hx) ⟨0, by decide, ?_, sI_at, fun i i0 i1 => by omega⟩ ⟨w, w', nw, hw, hnw, by rw [F.1]; exact r99, by rw [F.1]; exact r100, by rw [(F.2 80 w (fun e => by omega)).1]; exact e80, by rw [(F.2 155 23 (fun e => by omega)).1]; exact e155, fun i i0 i1 => (P i i0 i1).fr F (fun f a q e => by omega), B.fr F (fun f a q e => by omega)⟩, by rw [F.1]⟩
      · rw [eB _ _ f1, bnd_eq, if_neg (by rw [zm1, zi_eq (by omega) (by omega)]; omega), z10, zi_sub]
      · have : (a = w' ∧ 80 ≤ f ∧ f ≤ 86) ∨ (f = 10 ∧ a = 14) ∨ (a = 23 ∧ (f = 154 ∨ (175 ≤ f ∧ f ≤ 176) ∨ (178 ≤ f ∧ f ≤ 182))) := e
        omega
      · show m2.1 10 14 = zi 0
        rw [(F2.2 10 14 (by decide)).1, sI_at]
    · exfalso
      have h12 : (zi (-1), c2) = (zi p, c') := Option.some.inj (g1.symm.trans f1)
      have := zi_inj (congrArg Prod.fst h12) (by omega) (by omega)
      omega
  · -- a wish
    have Fc : Fr (fun f a => (a = w' ∧ 80 ≤ f ∧ f ≤ 86) ∨ (f = 10 ∧ a = 14)) δ (sI c' 10 14 (zi 0)) := (Fr.to (S' := fun f a => (a = w' ∧ 80 ≤ f ∧ f ≤ 86) ∨ (f = 10 ∧ a = 14)) F1 (fun f a e => Or.inl e)).sI (Or.inr ⟨rfl, rfl⟩)
    have k99 : (sI c' 10 14 (zi 0)).2.2 99 0 = (0, w) := by rw [Fc.1]; exact r99
    have k100 : (sI c' 10 14 (zi 0)).2.2 100 0 = (0, w') := by rw [Fc.1]; exact r100
    have tpm1 : TPm nt T (sR (sR (sI c' 10 14 (zi 0)) 99 0 (0, w')) 100 0 (0, w)) := tpm.fr (m' := sI c' 10 14 (zi 0)) Fc (fun e => by omega) (fun e => by omega)
    have h131 : J13 (sR (sR (sI c' 10 14 (zi 0)) 99 0 (0, w')) 100 0 (0, w)) := h13.fr (δ' := sI c' 10 14 (zi 0)) Fc (fun e => by omega)
    rcases lk_wish tw hw' tpc tpm1 h131 with ⟨p2, c2, m2, hp2, g1, -, -, -⟩ | ⟨N2, wh2, c2, m2, hN2, g1, g2, g3, g4, g5, -, F2⟩
    · exfalso
      have h12 : (zi p2, c2) = (zi (-1), c') := Option.some.inj (g1.symm.trans f1)
      have := zi_inj (congrArg Prod.fst h12) (by omega) (by omega)
      omega
    · have h12 : (zi (-1), c2) = (zi (-1), c') := Option.some.inj (g1.symm.trans f1)
      have hce : c2 = c' := congrArg Prod.snd h12
      rw [hce] at g3 g4 g5
      obtain ⟨m3, q1, F3, q2⟩ := m_143 hN2.2 N2.toNat 0 FU (sI (sI m2 154 23 (zi 0)) 155 23 (zi N2)) (by omega) (by unfold FU; omega) (by omega)
      have e3 : m3.2.2 = (sR (sR (sI c' 10 14 (zi 0)) 99 0 (0, w')) 100 0 (0, w)).2.2 := by rw [F3.1]; exact F2.1
      have Fm : Fr (fun f a => a = 23 ∧ ((154 ≤ f ∧ f ≤ 160) ∨ (175 ≤ f ∧ f ≤ 176) ∨ (178 ≤ f ∧ f ≤ 182))) (sR (sR (sI c' 10 14 (zi 0)) 99 0 (0, w')) 100 0 (0, w)) m3 := (((F2.to (fun f a e => by
        have : a = 23 ∧ ((175 ≤ f ∧ f ≤ 176) ∨ (178 ≤ f ∧ f ≤ 182)) := e
        show a = 23 ∧ ((154 ≤ f ∧ f ≤ 160) ∨ (175 ≤ f ∧ f ≤ 176) ∨ (178 ≤ f ∧ f ≤ 182))
        omega)).sI ⟨rfl, by decide⟩).sI ⟨rfl, by decide⟩).tr (F3.to (fun f a e => by
        have : a = 23 ∧ 156 ≤ f ∧ f ≤ 160 := e
        show a = 23 ∧ ((154 ≤ f ∧ f ≤ 160) ∨ (175 ≤ f ∧ f ≤ 176) ∨ (178 ≤ f ∧ f ≤ 182))
        omega))
      have Fx : Fr (fun f a => (a = w' ∧ 80 ≤ f ∧ f ≤ 86) ∨ (f = 10 ∧ a = 14) ∨ (a = 23 ∧ ((154 ≤ f ∧ f ≤ 160) ∨ (175 ≤ f ∧ f ≤ 176) ∨ (178 ≤ f ∧ f ≤ 182)))) δ (m3.1, m3.2.1, δ.2.2) := by
        refine ⟨rfl, fun f a hn => ?_⟩
        have hn' : ¬ ((a = w' ∧ 80 ≤ f ∧ f ≤ 86) ∨ (f = 10 ∧ a = 14) ∨ (a = 23 ∧ ((154 ≤ f ∧ f ≤ 160) ∨ (175 ≤ f ∧ f ≤ 176) ∨ (178 ≤ f ∧ f ≤ 182)))) := hn
        have a1 := Fm.2 f a (fun e => by omega)
        have a2 := Fc.2 f a (fun e => by omega)
        exact ⟨a1.1.trans a2.1, a1.2.trans a2.2⟩
      have cr : ∀ f, 80 ≤ f → f ≤ 85 → m3.1 f w' = c'.1 f w' ∧ m3.2.1 f w' = c'.2.1 f w' := fun f f0 f1 => by
        have a1 := Fm.2 f w' (fun e => by omega)
        refine ⟨a1.1.trans ?_, a1.2⟩
        show (sI c' 10 14 (zi 0)).1 f w' = _
        rw [q1I, if_neg (fun e => by omega)]
      have k155 : m3.1 155 23 = zi N2 := by
        rw [(F3.2 155 23 (by decide)).1]
        exact sI_at
      have mr : ∀ q, 0 ≤ q → q < N2 → m3.2.1 156 23 (zi q) = m2.2.1 178 23 (zi q) ∧ m3.2.1 157 23 (zi q) = m2.2.1 179 23 (zi q) ∧ m3.2.1 158 23 (zi q) = m2.2.1 180 23 (zi q) ∧ m3.2.1 159 23 (zi q) = m2.2.1 181 23 (zi q) ∧ m3.2.1 160 23 (zi q) = m2.2.1 182 23 (zi q) := fun q q0 q1 => by
        have r := q2 q q0 q1
        simp only [if_pos q0] at r
        exact r
      refine ⟨zi N2, sR (sR (sI c' 10 14 (zi 0)) 99 0 (0, w')) 100 0 (0, w), m3, ?_, ?_, INV.wi I Fx (fun f a e => ?_) (fun i hi => ?_) ?_ ?_ ⟨0, by decide, ?_, ?_, fun i i0 i1 => by omega⟩ ⟨w', w, N2, by omega, by omega, ?_, ?_, by rw [(cr 80 (by decide) (by decide)).1]; exact g3, k155, fun i i0 i1 => ?_, fun q q0 q4 => ?_⟩, ?_⟩
      · rw [eB _ _ f1, bnd_eq, if_pos zm1.symm, bnd_eq, bnd_eq, k99, k100]
        have : (sR (sR (sI c' 10 14 (zi 0)) 99 0 (0, w')) 100 0 (0, w)).2.2 99 0 = (0, w') := rfl
        rw [this, if_pos ⟨rfl, how⟩]
        have h80 : (sR (sR (sI c' 10 14 (zi 0)) 99 0 (0, w')) 100 0 (0, w)).1 80 w' = zi N2 := by
          show (sI c' 10 14 (zi 0)).1 80 w' = _
          rw [q1I, if_neg (fun e => absurd e.1 (by decide))]
          exact g3
        rw [h80]
      · rw [g2, q1, sI_at]
      · have : (a = w' ∧ 80 ≤ f ∧ f ≤ 86) ∨ (f = 10 ∧ a = 14) ∨ (a = 23 ∧ ((154 ≤ f ∧ f ≤ 160) ∨ (175 ≤ f ∧ f ≤ 176) ∨ (178 ≤ f ∧ f ≤ 182))) := e
        omega
      · rw [e3]
        show (if (93 : Nat) = 100 ∧ i = 0 then (0, w) else if (93 : Nat) = 99 ∧ i = 0 then (0, w') else (sI c' 10 14 (zi 0)).2.2 93 i) = _
        rw [if_neg (fun e => absurd e.1 (by decide)), if_neg (fun e => absurd e.1 (by decide)), Fc.1]
      · rw [e3]
        show (sI c' 10 14 (zi 0)).2.2 102 0 = _
        rw [Fc.1]
      · have h1 : RX (sI c' 10 14 (zi 0)) := by unfold RX at hx ⊢; rw [Fc.1]; exact hx
        have h2 := rx_s (f0 := 100) (a0 := 0) (q := (0, w)) (rx_s (f0 := 99) (a0 := 0) (q := (0, w')) h1 (Nat.zero_le 1) (show w' < 19 by omega)) (Nat.zero_le 1) (show w < 19 by omega)
        unfold RX at h2 ⊢
        rw [e3]
        exact h2
      · rw [(Fm.2 10 14 (fun e => absurd e.1 (by decide))).1]
        show (sI c' 10 14 (zi 0)).1 10 14 = zi 0
        exact sI_at
      · rw [(F3.2 154 23 (by decide)).1]
        show (sI (sI m2 154 23 (zi 0)) 155 23 (zi N2)).1 154 23 = zi 0
        rw [q1I, if_neg (by decide), sI_at]
      · rw [e3]
        rfl
      · rw [e3]
        rfl
      · obtain ⟨u1, f, x, o, b, u2, u3, u4, u5, u6, u7, u8, u9, u10, u11, u12, u13⟩ := g4 i i0 i1
        obtain ⟨v1, v2, v3, v4, v5⟩ := mr i i0 i1
        exact ⟨wh2 i, f, x, o, b, u1, u2, u3, u4, u5, v1.trans u6, v2.trans u7, by rw [(cr 82 (by decide) (by decide)).2]; exact u8, fun hf => ⟨v3.trans (u9 hf).1, by rw [(cr 83 (by decide) (by decide)).2]; exact (u9 hf).2⟩, v4.trans u10, by rw [(cr 84 (by decide) (by decide)).2]; exact u11, v5.trans u12, by rw [(cr 85 (by decide) (by decide)).2]; exact u13⟩
      · obtain ⟨mm, d1, d2, d3⟩ := g5 q q0 q4
        refine ⟨mm, d1, by rw [(cr 81 (by decide) (by decide)).2]; exact d2, fun i i0 i4 => ?_⟩
        rw [d3 i i0 i4]
        by_cases qi : i < N2
        · have v1 := (mr i i0 qi).1
          have u6 := (g4 i i0 qi).2
          obtain ⟨f, x, o, b, -, -, -, -, u6, -⟩ := u6
          have hwi := (g4 i i0 qi).1
          rw [v1, u6]
          by_cases qq : wh2 i = q
          · rw [if_pos ⟨qi, qq⟩, if_pos ⟨qi, by rw [qq]⟩]
          · rw [if_neg (fun e => qq e.2), if_neg (fun e => qq (zi_inj e.2 (by omega) (by omega)))]
        · rw [if_neg (fun e => qi e.1), if_neg (fun e => qi e.1)]
      · rw [e3]
        show (sI c' 10 14 (zi 0)).2.2 102 0 = _
        rw [Fc.1]
