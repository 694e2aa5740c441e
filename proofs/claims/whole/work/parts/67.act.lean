/-! the families (wip/whole/pure) -/
def TF (a : Nat) (b m : Int) (F : Dl → Option (Int32 × Dl)) (r : Int32) (L : List Int32) : Prop := ∀ δ n, δ.1 20 a = zi b → δ.1 21 a = zi m → δ.1 22 a = zi n → 0 ≤ n → n + L.length ≤ 30 → ∃ δ', F δ = some (r, δ') ∧ Ap 22 23 a L n δ δ'
def TM (v : PG) (F : Dl → Option (Int32 × Dl)) (r : Int32) (L : List Int32) : Prop := ∀ δ n, MP δ v → δ.1 169 23 = zi n → 0 ≤ n → n + L.length ≤ 30 → ∃ δ', F δ = some (r, δ') ∧ Ap 169 170 23 L n δ δ'
section TFM
variable {a : Nat} {b m : Int} {v : PG} {r r1 : Int32} {L L1 L2 : List Int32}
theorem Ap.k20 {n : Int} {δ δ' : Dl} (h : Ap 22 23 a L n δ δ') : δ'.1 20 a = δ.1 20 a ∧ δ'.1 21 a = δ.1 21 a := ⟨(h.2.1.2 20 a (fun e => by have := e.2; omega)).1, (h.2.1.2 21 a (fun e => by have := e.2; omega)).1⟩
theorem TF.b {id : Int32} {G : Dl → Option (Int32 × Dl)} (h : TF a b m G r L) : TF a b m (fun δ => (F_Fa_begins_2 a id δ).bind G) r ([id] ++ L) := by
  intro δ n e20 e21 e22 h0 hl
  rw [List.length_append] at hl
  have hl' : n + ((1 + L.length : Nat) : Int) ≤ 30 := hl
  have e : F_Fa_begins_2 a id δ = some (sI (sA δ 23 a (zi n) id) 22 a (zi (n + 1))) := by
    simp (disch := omega) only [F_Fa_begins_2, e22, q1A, ↓reduceIte, inb, zl, zi_add, zi_sub, zi_mul, zi_neg, zi_le_t, zi_le_f, zi_lt_t, zi_lt_f, zi_eq_t, zi_eq_f, if_true, if_false, ite_true, ite_false, true_and, and_true, false_and, and_false, not_true_eq_false, not_false_eq_true, true_or, or_true, false_or, or_false, and_self, ge_iff_le, gt_iff_lt]
  have A1 : Ap 22 23 a [id] n δ (sI (sA δ 23 a (zi n) id) 22 a (zi (n + 1))) := Ap.one ⟨h0, by omega⟩
  obtain ⟨d2, e2, A2⟩ := h (sI (sA δ 23 a (zi n) id) 22 a (zi (n + 1))) (n + 1) (by rw [A1.k20.1]; exact e20) (by rw [A1.k20.2]; exact e21) sI_at (by omega) (by omega)
  exact ⟨d2, by show (F_Fa_begins_2 a id δ).bind G = _; rw [e]; exact e2, Ap.ap h0 A1 A2⟩
theorem TF.s {F : Dl → Option (Int32 × Dl)} {G : Int32 → Dl → Option (Int32 × Dl)} (h1 : TF a b m F r1 L1) (h2 : TF a b m (G r1) r L2) : TF a b m (fun δ => bd2 (F δ) G) r (L1 ++ L2) := by
  intro δ n e20 e21 e22 h0 hl
  rw [List.length_append] at hl
  obtain ⟨d1, e1, A1⟩ := h1 δ n e20 e21 e22 h0 (by omega)
  obtain ⟨d2, e2, A2⟩ := h2 d1 (n + L1.length) (by rw [A1.k20.1]; exact e20) (by rw [A1.k20.2]; exact e21) A1.1 (by omega) (by omega)
  exact ⟨d2, by show bd2 (F δ) G = _; rw [b2e e1]; exact e2, Ap.ap h0 A1 A2⟩
theorem TF.r {u : Dl → Int32} (h : ∀ δ, δ.1 20 a = zi b → δ.1 21 a = zi m → u δ = r) : TF a b m (fun δ => some (u δ, δ)) r [] := fun δ n e20 e21 e22 _ _ => ⟨δ, by show some (u δ, δ) = _; rw [h δ e20 e21], Ap.nil e22⟩
theorem TF.cg {F F' : Dl → Option (Int32 × Dl)} (e : ∀ δ, δ.1 20 a = zi b → δ.1 21 a = zi m → F δ = F' δ) (h : TF a b m F' r L) : TF a b m F r L := fun δ n e20 e21 e22 h0 hl => by rw [e δ e20 e21]; exact h δ n e20 e21 e22 h0 hl
theorem TM.b {id : Int32} {G : Dl → Option (Int32 × Dl)} (h : TM v G r L) : TM v (fun δ => (F_M_body id δ).bind G) r ([id] ++ L) := by
  intro δ n M e22 h0 hl
  rw [List.length_append] at hl
  have hl' : n + ((1 + L.length : Nat) : Int) ≤ 30 := hl
  have e : F_M_body id δ = some (sI (sA δ 170 23 (zi n) id) 169 23 (zi (n + 1))) := by
    simp (disch := omega) only [F_M_body, F_M_body_19, ↓bnd_eq, bd2, bn2, Option.bind_some, Option.bind_none, e22, q1A, ↓reduceIte, inb, zl, zi_add, zi_sub, zi_mul, zi_neg, zi_le_t, zi_le_f, zi_lt_t, zi_lt_f, zi_eq_t, zi_eq_f, if_true, if_false, ite_true, ite_false, true_and, and_true, false_and, and_false, not_true_eq_false, not_false_eq_true, true_or, or_true, false_or, or_false, and_self, ge_iff_le, gt_iff_lt]
  have A1 : Ap 169 170 23 [id] n δ (sI (sA δ 170 23 (zi n) id) 169 23 (zi (n + 1))) := Ap.one ⟨h0, by omega⟩
  obtain ⟨d2, e2, A2⟩ := h (sI (sA δ 170 23 (zi n) id) 169 23 (zi (n + 1))) (n + 1) (M.fr A1.2.1 (fun f q1 q2 e => by have := e.2; omega)) sI_at (by omega) (by omega)
  exact ⟨d2, by show (F_M_body id δ).bind G = _; rw [e]; exact e2, Ap.ap h0 A1 A2⟩
theorem TM.s {F : Dl → Option (Int32 × Dl)} {G : Int32 → Dl → Option (Int32 × Dl)} (h1 : TM v F r1 L1) (h2 : TM v (G r1) r L2) : TM v (fun δ => bd2 (F δ) G) r (L1 ++ L2) := by
  intro δ n M e22 h0 hl
  rw [List.length_append] at hl
  obtain ⟨d1, e1, A1⟩ := h1 δ n M e22 h0 (by omega)
  obtain ⟨d2, e2, A2⟩ := h2 d1 (n + L1.length) (M.fr A1.2.1 (fun f q1 q2 e => by have := e.2; omega)) A1.1 (by omega) (by omega)
  exact ⟨d2, by show bd2 (F δ) G = _; rw [b2e e1]; exact e2, Ap.ap h0 A1 A2⟩
theorem TM.r {u : Dl → Int32} (h : ∀ δ, MP δ v → u δ = r) : TM v (fun δ => some (u δ, δ)) r [] := fun δ n M e22 _ _ => ⟨δ, by show some (u δ, δ) = _; rw [h δ M], Ap.nil e22⟩
theorem TM.cg {F F' : Dl → Option (Int32 × Dl)} (e : ∀ δ, MP δ v → F δ = F' δ) (h : TM v F' r L) : TM v F r L := fun δ n M e22 h0 hl => by rw [e δ M]; exact h δ n M e22 h0 hl
/-- the class's ways -/
theorem b24 : F_Fa_begins_4 = F_Fa_begins_2 := rfl
theorem b26 : F_Fa_begins_6 = F_Fa_begins_2 := rfl
theorem b28 : F_Fa_begins_8 = F_Fa_begins_2 := rfl
theorem TF.b4 {id : Int32} {G : Dl → Option (Int32 × Dl)} (h : TF a b m G r L) : TF a b m (fun δ => (F_Fa_begins_4 a id δ).bind G) r ([id] ++ L) := b24 ▸ TF.b h
theorem TF.b6 {id : Int32} {G : Dl → Option (Int32 × Dl)} (h : TF a b m G r L) : TF a b m (fun δ => (F_Fa_begins_6 a id δ).bind G) r ([id] ++ L) := b26 ▸ TF.b h
theorem TF.b8 {id : Int32} {G : Dl → Option (Int32 × Dl)} (h : TF a b m G r L) : TF a b m (fun δ => (F_Fa_begins_8 a id δ).bind G) r ([id] ++ L) := b28 ▸ TF.b h
theorem o_runs (x : Int32) : TF a b m (F_Or_runs_2 a x) (x + zi b - zi m) [20, 10] := TF.b (TF.s (TF.b (TF.r (fun δ e _ => by rw [e]))) (TF.r (fun δ _ e => by rw [e])))
theorem o_costs (x : Int32) : TF a b m (F_Fa_costs_2 a x) ((x + zi b - zi m) * 2) [11, 20, 10] := TF.b (TF.s (o_runs x) (TF.r (fun δ _ _ => rfl)))
theorem o_tells (x : Int32) : TF a b m (F_Fa_tells_2 a x) (((x + zi b - zi m) * 2) ^^^ (x + zi m + zi b - zi m)) [12, 11, 20, 10, 20, 10] := TF.b (TF.s (o_costs x) (TF.cg (fun δ _ e => by show bd2 (F_Or_runs_2 a (x + (δ.1 21 a)) δ) _ = _; rw [e]) (TF.s (o_runs (x + zi m)) (TF.r (fun δ _ _ => rfl)))))
theorem p_runs (x : Int32) : TF a b m (F_Fa_runs_4 a x) (x + zi b) [10] := TF.b4 (TF.r (fun δ e _ => by rw [e]))
theorem p_costs (x : Int32) : TF a b m (F_Ro_costs_4 a x) ((x + zi b) * 2 * 3) [40, 11, 10] := TF.b4 (TF.s (TF.b4 (TF.s (p_runs x) (TF.r (fun δ _ _ => rfl)))) (TF.r (fun δ _ _ => rfl)))
theorem p_tells (x : Int32) : TF a b m (F_Fa_tells_4 a x) (((x + zi b) * 2 * 3) ^^^ (x + zi m + zi b)) [12, 40, 11, 10, 10] := TF.b4 (TF.s (p_costs x) (TF.cg (fun δ _ e => by show bd2 (F_Fa_runs_4 a (x + (δ.1 21 a)) δ) _ = _; rw [e]) (TF.s (p_runs (x + zi m)) (TF.r (fun δ _ _ => rfl)))))
theorem s_runs (x : Int32) : TF a b m (F_Sp_runs_6 a x) ((x + zi b) ^^^ 7) [50, 10] := TF.b6 (TF.s (TF.b6 (TF.r (fun δ e _ => by rw [e]))) (TF.r (fun δ _ e => rfl)))
theorem s_costs (x : Int32) : TF a b m (F_Ro_costs_6 a x) (((x + zi b) ^^^ 7) * 2 * 3) [40, 11, 50, 10] := TF.b6 (TF.s (TF.b6 (TF.s (s_runs x) (TF.r (fun δ _ _ => rfl)))) (TF.r (fun δ _ _ => rfl)))
theorem s_tells0 (x : Int32) : TF a b m (F_Fa_tells_6 a x) ((((x + zi b) ^^^ 7) * 2 * 3) ^^^ ((x + zi m + zi b) ^^^ 7)) [12, 40, 11, 50, 10, 50, 10] := TF.b6 (TF.s (s_costs x) (TF.cg (fun δ _ e => by show bd2 (F_Sp_runs_6 a (x + (δ.1 21 a)) δ) _ = _; rw [e]) (TF.s (s_runs (x + zi m)) (TF.r (fun δ _ _ => rfl)))))
theorem s_tells (x : Int32) : TF a b m (F_Sp_tells_6 a x) ((((x + zi b) ^^^ 7) * 2 * 3) - ((((x + zi b) ^^^ 7) * 2 * 3) ^^^ ((x + zi m + zi b) ^^^ 7))) [51, 40, 11, 50, 10, 12, 40, 11, 50, 10, 50, 10] := TF.b6 (TF.s (s_costs x) (TF.s (s_tells0 x) (TF.r (fun δ _ _ => rfl))))
theorem h_runs (x : Int32) : TF a b m (F_Or_runs_8 a x) (x + zi b - zi m) [20, 10] := TF.b8 (TF.s (TF.b8 (TF.r (fun δ e _ => by rw [e]))) (TF.r (fun δ _ e => by rw [e])))
theorem h_costs (x : Int32) : TF a b m (F_Se_costs_8 a x) ((x + zi b - zi m) * 2 + 3) [30, 11, 20, 10] := TF.b8 (TF.s (TF.b8 (TF.s (h_runs x) (TF.r (fun δ _ _ => rfl)))) (TF.r (fun δ _ _ => rfl)))
theorem h_tells0 (x : Int32) : TF a b m (F_Fa_tells_8 a x) (((x + zi b - zi m) * 2 + 3) ^^^ (x + zi m + zi b - zi m)) [12, 30, 11, 20, 10, 20, 10] := TF.b8 (TF.s (h_costs x) (TF.cg (fun δ _ e => by show bd2 (F_Or_runs_8 a (x + (δ.1 21 a)) δ) _ = _; rw [e]) (TF.s (h_runs (x + zi m)) (TF.r (fun δ _ _ => rfl)))))
theorem h_tells (x : Int32) : TF a b m (F_Se_tells_8 a x) (((x + 1 + zi b - zi m) * 2 + 3) ^^^ (x + 1 + zi m + zi b - zi m)) [31, 12, 30, 11, 20, 10, 20, 10] := TF.b8 (TF.s (h_tells0 (x + 1)) (TF.r (fun δ _ _ => rfl)))
end TFM
/-- the reference's ways -/
section TMM
variable {v : PG} {b m k : Int}
theorem z10 : ((1 : Int32) = 0) = False := eq_false (by decide)
theorem m_any {rr : Int32 → Int32} {LR : List Int32} (hR : ∀ x, TM v (F_M_runs (zi b) x) (rr x) LR) (x : Int32) : TM v (F_M_costsAny (zi b) x) (rr x * 2) ([11] ++ (LR ++ [])) := TM.b (TM.s (hR x) (TM.r (fun _ _ => rfl)))
theorem m_tany (W : PW v) (b0 : 0 ≤ b) (b1 : b < v.1) {rr cc : Int32 → Int32} {LR LC : List Int32} (hR : ∀ x, TM v (F_M_runs (zi b) x) (rr x) LR) (hC : ∀ x, TM v (F_M_costs (zi b) x) (cc x) LC) (x : Int32) : TM v (F_M_tellsAny (zi b) x) (cc x ^^^ rr (x + zi (v.2.2.1 b 1))) ([12] ++ (LC ++ (LR ++ []))) := by
  have hN := W.1
  refine TM.b (TM.s (hC x) (TM.cg (F' := fun δ9 => bd2 (F_M_runs (zi b) (x + zi (v.2.2.1 b 1)) δ9) fun v24 δ24 => some ((cc x ^^^ v24), δ24)) (fun δ M => ?_) (TM.s (hR (x + zi (v.2.2.1 b 1))) (TM.r (fun _ _ => rfl)))))
  have f1 := (M.2.2.1 b b0 b1).2.1
  have ib : inb (zi b) 30 := by
    unfold inb
    rw [zl0, show (30 : Int32) = zi 30 from zl 30, zi_le (by omega) (by omega), zi_lt (by omega) (by omega)]; omega
  show (if inb (zi b) 30 then _ else none) = _
  rw [if_pos ib, f1]
theorem m_rany (x : Int32) : TM v (F_M_runsAny (zi b) x) (x + zi b) ([10] ++ []) := TM.b (TM.r (fun _ _ => rfl))
theorem inb30 (W : PW v) (b0 : 0 ≤ b) (b1 : b < v.1) : inb (zi b) 30 := by
  have hN := W.1
  unfold inb
  rw [zl0, show (30 : Int32) = zi 30 from zl 30, zi_le (by omega) (by omega), zi_lt (by omega) (by omega)]; omega
theorem mr_o (W : PW v) (b0 : 0 ≤ b) (b1 : b < v.1) (hk : v.2.2.1 b 0 ≤ 12) (x : Int32) : TM v (F_M_runs (zi b) x) (x + zi b - zi (v.2.2.1 b 1)) [20, 10] := by
  have hkk := W.k b0 b1
  have ib := inb30 W b0 b1
  have io : F_M_isOrder (zi (v.2.2.1 b 0)) = 1 := by simp (disch := omega) only [F_M_isOrder, ↓reduceIte, inb, zl, zi_add, zi_sub, zi_mul, zi_neg, zi_le_t, zi_le_f, zi_lt_t, zi_lt_f, zi_eq_t, zi_eq_f, if_true, if_false, ite_true, ite_false, true_and, and_true, false_and, and_false, not_true_eq_false, not_false_eq_true, true_or, or_true, false_or, or_false, and_self, ge_iff_le, gt_iff_lt]
  refine TM.cg (F' := fun δ => (F_M_body 20 δ).bind fun δ15 => bd2 (F_M_runsAny (zi b) x δ15) fun v21 δ21 => if inb (zi b) 30 then some ((v21 - (δ21.2.1 120 23 (zi b))), δ21) else none) (fun δ M => ?_) (TM.b (TM.s (m_rany x) (TM.cg (F' := fun δ => some (x + zi b - zi (v.2.2.1 b 1), δ)) (fun δ M => ?_) (TM.r (fun _ _ => rfl)))))
  · have f0 := (M.2.2.1 b b0 b1).1
    unfold F_M_runs
    rw [if_pos ib, bnd_eq, f0, io, if_neg (by decide)]
  · have f1 := (M.2.2.1 b b0 b1).2.1
    show (if inb (zi b) 30 then _ else none) = _
    rw [if_pos ib, f1]
theorem mr_p (W : PW v) (b0 : 0 ≤ b) (b1 : b < v.1) (hk : 12 < v.2.2.1 b 0 ∧ v.2.2.1 b 0 < 19) (x : Int32) : TM v (F_M_runs (zi b) x) (x + zi b) [10] := by
  have ib := inb30 W b0 b1
  have io : F_M_isOrder (zi (v.2.2.1 b 0)) = 0 := by simp (disch := omega) only [F_M_isOrder, ↓reduceIte, inb, zl, zi_add, zi_sub, zi_mul, zi_neg, zi_le_t, zi_le_f, zi_lt_t, zi_lt_f, zi_eq_t, zi_eq_f, if_true, if_false, ite_true, ite_false, true_and, and_true, false_and, and_false, not_true_eq_false, not_false_eq_true, true_or, or_true, false_or, or_false, and_self, ge_iff_le, gt_iff_lt]
  have is : F_M_isSharp (zi (v.2.2.1 b 0)) = 0 := by simp (disch := omega) only [F_M_isSharp, ↓reduceIte, inb, zl, zi_add, zi_sub, zi_mul, zi_neg, zi_le_t, zi_le_f, zi_lt_t, zi_lt_f, zi_eq_t, zi_eq_f, if_true, if_false, ite_true, ite_false, true_and, and_true, false_and, and_false, not_true_eq_false, not_false_eq_true, true_or, or_true, false_or, or_false, and_self, ge_iff_le, gt_iff_lt]
  refine TM.cg (F' := fun δ => bd2 (F_M_runsAny (zi b) x δ) fun v63 δ63 => some (v63, δ63)) (fun δ M => ?_) (TM.s (m_rany x) (TM.r (fun _ _ => rfl)))
  have f0 := (M.2.2.1 b b0 b1).1
  unfold F_M_runs
  rw [if_pos ib, bnd_eq, f0, io, if_pos rfl, if_pos ib, bnd_eq, is, if_pos rfl]
theorem mr_s (W : PW v) (b0 : 0 ≤ b) (b1 : b < v.1) (hk : 19 ≤ v.2.2.1 b 0) (x : Int32) : TM v (F_M_runs (zi b) x) ((x + zi b) ^^^ 7) [50, 10] := by
  have hkk := W.k b0 b1
  have ib := inb30 W b0 b1
  have io : F_M_isOrder (zi (v.2.2.1 b 0)) = 0 := by simp (disch := omega) only [F_M_isOrder, ↓reduceIte, inb, zl, zi_add, zi_sub, zi_mul, zi_neg, zi_le_t, zi_le_f, zi_lt_t, zi_lt_f, zi_eq_t, zi_eq_f, if_true, if_false, ite_true, ite_false, true_and, and_true, false_and, and_false, not_true_eq_false, not_false_eq_true, true_or, or_true, false_or, or_false, and_self, ge_iff_le, gt_iff_lt]
  have is : F_M_isSharp (zi (v.2.2.1 b 0)) = 1 := by simp (disch := omega) only [F_M_isSharp, ↓reduceIte, inb, zl, zi_add, zi_sub, zi_mul, zi_neg, zi_le_t, zi_le_f, zi_lt_t, zi_lt_f, zi_eq_t, zi_eq_f, if_true, if_false, ite_true, ite_false, true_and, and_true, false_and, and_false, not_true_eq_false, not_false_eq_true, true_or, or_true, false_or, or_false, and_self, ge_iff_le, gt_iff_lt]
  refine TM.cg (F' := fun δ => (F_M_body 50 δ).bind fun δ47 => bd2 (F_M_runsAny (zi b) x δ47) fun v53 δ53 => some ((v53 ^^^ 7), δ53)) (fun δ M => ?_) (TM.b (TM.s (m_rany x) (TM.r (fun _ _ => rfl))))
  have f0 := (M.2.2.1 b b0 b1).1
  unfold F_M_runs
  rw [if_pos ib, bnd_eq, f0, io, if_pos rfl, if_pos ib, bnd_eq, is, if_neg (by decide)]
theorem mc_o (W : PW v) (b0 : 0 ≤ b) (b1 : b < v.1) (hk : v.2.2.1 b 0 ≤ 9) (x : Int32) : TM v (F_M_costs (zi b) x) ((x + zi b - zi (v.2.2.1 b 1)) * 2) [11, 20, 10] := by
  have hkk := W.k b0 b1
  have ib := inb30 W b0 b1
  have io : F_M_isOrder (zi (v.2.2.1 b 0)) = 1 := by simp (disch := omega) only [F_M_isOrder, ↓reduceIte, inb, zl, zi_add, zi_sub, zi_mul, zi_neg, zi_le_t, zi_le_f, zi_lt_t, zi_lt_f, zi_eq_t, zi_eq_f, if_true, if_false, ite_true, ite_false, true_and, and_true, false_and, and_false, not_true_eq_false, not_false_eq_true, true_or, or_true, false_or, or_false, and_self, ge_iff_le, gt_iff_lt]
  have is : F_M_isShell (zi (v.2.2.1 b 0)) = 0 := by simp (disch := omega) only [F_M_isShell, F_M_within, ↓bnd_eq, bd2, bn2, Option.bind_some, Option.bind_none, ↓reduceIte, inb, zl, zi_add, zi_sub, zi_mul, zi_neg, zi_le_t, zi_le_f, zi_lt_t, zi_lt_f, zi_eq_t, zi_eq_f, if_true, if_false, ite_true, ite_false, true_and, and_true, false_and, and_false, not_true_eq_false, not_false_eq_true, true_or, or_true, false_or, or_false, and_self, ge_iff_le, gt_iff_lt]
  refine TM.cg (F' := fun δ => bd2 (F_M_costsAny (zi b) x δ) fun v57 δ57 => some (v57, δ57)) (fun δ M => ?_) (TM.s (m_any (mr_o W b0 b1 (by omega)) x) (TM.r (fun _ _ => rfl)))
  have f0 := (M.2.2.1 b b0 b1).1
  unfold F_M_costs
  rw [if_pos ib, bnd_eq, f0, is, if_pos rfl, if_pos ib, bnd_eq, io, if_neg (by decide)]
theorem mc_r (W : PW v) (b0 : 0 ≤ b) (b1 : b < v.1) (hk : 12 < v.2.2.1 b 0) {rr : Int32 → Int32} {LR : List Int32} (hR : ∀ x, TM v (F_M_runs (zi b) x) (rr x) LR) (x : Int32) : TM v (F_M_costs (zi b) x) (rr x * 2 * 3) ([40] ++ (([11] ++ (LR ++ [])) ++ [])) := by
  have hkk := W.k b0 b1
  have ib := inb30 W b0 b1
  have io : F_M_isOrder (zi (v.2.2.1 b 0)) = 0 := by simp (disch := omega) only [F_M_isOrder, ↓reduceIte, inb, zl, zi_add, zi_sub, zi_mul, zi_neg, zi_le_t, zi_le_f, zi_lt_t, zi_lt_f, zi_eq_t, zi_eq_f, if_true, if_false, ite_true, ite_false, true_and, and_true, false_and, and_false, not_true_eq_false, not_false_eq_true, true_or, or_true, false_or, or_false, and_self, ge_iff_le, gt_iff_lt]
  have is : F_M_isShell (zi (v.2.2.1 b 0)) = 0 := by simp (disch := omega) only [F_M_isShell, F_M_within, ↓bnd_eq, bd2, bn2, Option.bind_some, Option.bind_none, ↓reduceIte, inb, zl, zi_add, zi_sub, zi_mul, zi_neg, zi_le_t, zi_le_f, zi_lt_t, zi_lt_f, zi_eq_t, zi_eq_f, if_true, if_false, ite_true, ite_false, true_and, and_true, false_and, and_false, not_true_eq_false, not_false_eq_true, true_or, or_true, false_or, or_false, and_self, ge_iff_le, gt_iff_lt]
  refine TM.cg (F' := fun δ => (F_M_body 40 δ).bind fun δ42 => bd2 (F_M_costsAny (zi b) x δ42) fun v48 δ48 => some ((v48 * 3), δ48)) (fun δ M => ?_) (TM.b (TM.s (m_any hR x) (TM.r (fun _ _ => rfl))))
  have f0 := (M.2.2.1 b b0 b1).1
  unfold F_M_costs
  rw [if_pos ib, bnd_eq, f0, is, if_pos rfl, if_pos ib, bnd_eq, io, if_pos rfl]
theorem mc_h (W : PW v) (b0 : 0 ≤ b) (b1 : b < v.1) (hk : 10 ≤ v.2.2.1 b 0 ∧ v.2.2.1 b 0 ≤ 12) (x : Int32) : TM v (F_M_costs (zi b) x) ((x + zi b - zi (v.2.2.1 b 1)) * 2 + 3) [30, 11, 20, 10] := by
  have ib := inb30 W b0 b1
  have is : F_M_isShell (zi (v.2.2.1 b 0)) = 1 := by simp (disch := omega) only [F_M_isShell, F_M_within, ↓bnd_eq, bd2, bn2, Option.bind_some, Option.bind_none, ↓reduceIte, inb, zl, zi_add, zi_sub, zi_mul, zi_neg, zi_le_t, zi_le_f, zi_lt_t, zi_lt_f, zi_eq_t, zi_eq_f, if_true, if_false, ite_true, ite_false, true_and, and_true, false_and, and_false, not_true_eq_false, not_false_eq_true, true_or, or_true, false_or, or_false, and_self, ge_iff_le, gt_iff_lt]
  refine TM.cg (F' := fun δ => (F_M_body 30 δ).bind fun δ15 => bd2 (F_M_costsAny (zi b) x δ15) fun v21 δ21 => some ((v21 + 3), δ21)) (fun δ M => ?_) (TM.b (TM.s (m_any (mr_o W b0 b1 hk.2) x) (TM.r (fun _ _ => rfl))))
  have f0 := (M.2.2.1 b b0 b1).1
  unfold F_M_costs
  rw [if_pos ib, bnd_eq, f0, is, if_neg (by decide)]
theorem mt_a (W : PW v) (b0 : 0 ≤ b) (b1 : b < v.1) (hk : v.2.2.1 b 0 ≤ 9 ∨ (12 < v.2.2.1 b 0 ∧ v.2.2.1 b 0 < 19)) {rr cc : Int32 → Int32} {LR LC : List Int32} (hR : ∀ x, TM v (F_M_runs (zi b) x) (rr x) LR) (hC : ∀ x, TM v (F_M_costs (zi b) x) (cc x) LC) (x : Int32) : TM v (F_M_tells (zi b) x) (cc x ^^^ rr (x + zi (v.2.2.1 b 1))) (([12] ++ (LC ++ (LR ++ []))) ++ []) := by
  have hkk := W.k b0 b1
  have ib := inb30 W b0 b1
  have ip : F_M_isSharp (zi (v.2.2.1 b 0)) = 0 := by simp (disch := omega) only [F_M_isSharp, ↓reduceIte, inb, zl, zi_add, zi_sub, zi_mul, zi_neg, zi_le_t, zi_le_f, zi_lt_t, zi_lt_f, zi_eq_t, zi_eq_f, if_true, if_false, ite_true, ite_false, true_and, and_true, false_and, and_false, not_true_eq_false, not_false_eq_true, true_or, or_true, false_or, or_false, and_self, ge_iff_le, gt_iff_lt]
  have is : F_M_isShell (zi (v.2.2.1 b 0)) = 0 := by
    rcases hk with h | h
    · simp (disch := omega) only [F_M_isShell, F_M_within, ↓bnd_eq, bd2, bn2, Option.bind_some, Option.bind_none, ↓reduceIte, inb, zl, zi_add, zi_sub, zi_mul, zi_neg, zi_le_t, zi_le_f, zi_lt_t, zi_lt_f, zi_eq_t, zi_eq_f, if_true, if_false, ite_true, ite_false, true_and, and_true, false_and, and_false, not_true_eq_false, not_false_eq_true, true_or, or_true, false_or, or_false, and_self, ge_iff_le, gt_iff_lt]
    · simp (disch := omega) only [F_M_isShell, F_M_within, ↓bnd_eq, bd2, bn2, Option.bind_some, Option.bind_none, ↓reduceIte, inb, zl, zi_add, zi_sub, zi_mul, zi_neg, zi_le_t, zi_le_f, zi_lt_t, zi_lt_f, zi_eq_t, zi_eq_f, if_true, if_false, ite_true, ite_false, true_and, and_true, false_and, and_false, not_true_eq_false, not_false_eq_true, true_or, or_true, false_or, or_false, and_self, ge_iff_le, gt_iff_lt]
  refine TM.cg (F' := fun δ => bd2 (F_M_tellsAny (zi b) x δ) fun v64 δ64 => some (v64, δ64)) (fun δ M => ?_) (TM.s (m_tany W b0 b1 hR hC x) (TM.r (fun _ _ => rfl)))
  have f0 := (M.2.2.1 b b0 b1).1
  unfold F_M_tells
  rw [if_pos ib, bnd_eq, f0, is, if_pos rfl, if_pos ib, bnd_eq, ip, if_pos rfl]
theorem mt_s (W : PW v) (b0 : 0 ≤ b) (b1 : b < v.1) (hk : 19 ≤ v.2.2.1 b 0) {rr cc : Int32 → Int32} {LR LC : List Int32} (hR : ∀ x, TM v (F_M_runs (zi b) x) (rr x) LR) (hC : ∀ x, TM v (F_M_costs (zi b) x) (cc x) LC) (x : Int32) : TM v (F_M_tells (zi b) x) (cc x - (cc x ^^^ rr (x + zi (v.2.2.1 b 1)))) ([51] ++ (LC ++ (([12] ++ (LC ++ (LR ++ []))) ++ []))) := by
  have hkk := W.k b0 b1
  have ib := inb30 W b0 b1
  have ip : F_M_isSharp (zi (v.2.2.1 b 0)) = 1 := by simp (disch := omega) only [F_M_isSharp, ↓reduceIte, inb, zl, zi_add, zi_sub, zi_mul, zi_neg, zi_le_t, zi_le_f, zi_lt_t, zi_lt_f, zi_eq_t, zi_eq_f, if_true, if_false, ite_true, ite_false, true_and, and_true, false_and, and_false, not_true_eq_false, not_false_eq_true, true_or, or_true, false_or, or_false, and_self, ge_iff_le, gt_iff_lt]
  have is : F_M_isShell (zi (v.2.2.1 b 0)) = 0 := by simp (disch := omega) only [F_M_isShell, F_M_within, ↓bnd_eq, bd2, bn2, Option.bind_some, Option.bind_none, ↓reduceIte, inb, zl, zi_add, zi_sub, zi_mul, zi_neg, zi_le_t, zi_le_f, zi_lt_t, zi_lt_f, zi_eq_t, zi_eq_f, if_true, if_false, ite_true, ite_false, true_and, and_true, false_and, and_false, not_true_eq_false, not_false_eq_true, true_or, or_true, false_or, or_false, and_self, ge_iff_le, gt_iff_lt]
  refine TM.cg (F' := fun δ => (F_M_body 51 δ).bind fun δ42 => bd2 (F_M_costs (zi b) x δ42) fun v48 δ48 => bd2 (F_M_tellsAny (zi b) x δ48) fun v56 δ56 => some ((v48 - v56), δ56)) (fun δ M => ?_) (TM.b (TM.s (hC x) (TM.s (m_tany W b0 b1 hR hC x) (TM.r (fun _ _ => rfl)))))
  have f0 := (M.2.2.1 b b0 b1).1
  unfold F_M_tells
  rw [if_pos ib, bnd_eq, f0, is, if_pos rfl, if_pos ib, bnd_eq, ip, if_neg (by decide)]
theorem mt_h (W : PW v) (b0 : 0 ≤ b) (b1 : b < v.1) (hk : 10 ≤ v.2.2.1 b 0 ∧ v.2.2.1 b 0 ≤ 12) {rr cc : Int32 → Int32} {LR LC : List Int32} (hR : ∀ x, TM v (F_M_runs (zi b) x) (rr x) LR) (hC : ∀ x, TM v (F_M_costs (zi b) x) (cc x) LC) (x : Int32) : TM v (F_M_tells (zi b) x) (cc (x + 1) ^^^ rr (x + 1 + zi (v.2.2.1 b 1))) ([31] ++ (([12] ++ (LC ++ (LR ++ []))) ++ [])) := by
  have ib := inb30 W b0 b1
  have is : F_M_isShell (zi (v.2.2.1 b 0)) = 1 := by simp (disch := omega) only [F_M_isShell, F_M_within, ↓bnd_eq, bd2, bn2, Option.bind_some, Option.bind_none, ↓reduceIte, inb, zl, zi_add, zi_sub, zi_mul, zi_neg, zi_le_t, zi_le_f, zi_lt_t, zi_lt_f, zi_eq_t, zi_eq_f, if_true, if_false, ite_true, ite_false, true_and, and_true, false_and, and_false, not_true_eq_false, not_false_eq_true, true_or, or_true, false_or, or_false, and_self, ge_iff_le, gt_iff_lt]
  refine TM.cg (F' := fun δ => (F_M_body 31 δ).bind fun δ15 => bd2 (F_M_tellsAny (zi b) (x + 1) δ15) fun v23 δ23 => some (v23, δ23)) (fun δ M => ?_) (TM.b (TM.s (m_tany W b0 b1 hR hC (x + 1)) (TM.r (fun _ _ => rfl))))
  have f0 := (M.2.2.1 b b0 b1).1
  unfold F_M_tells
  rw [if_pos ib, bnd_eq, f0, is, if_neg (by decide)]
end TMM
