/-! the families (wip/whole/pure) -/
def TF (a : Nat) (b m : Int) (F : Dl → Option (Int32 × Dl)) (r : Int32) (L : List Int32) : Prop := ∀ δ n, δ.1 20 a = zi b → δ.1 21 a = zi m → δ.1 22 a = zi n → 0 ≤ n → n + L.length ≤ 30 → ∃ δ', F δ = some (r, δ') ∧ Ap 22 23 a L n δ δ'
def TM (v : PG) (F : Dl → Option (Int32 × Dl)) (r : Int32) (L : List Int32) : Prop := ∀ δ n, MP δ v → δ.1 169 23 = zi n → 0 ≤ n → n + L.length ≤ 30 → ∃ δ', F δ = some (r, δ') ∧ Ap 169 170 23 L n δ δ'
section TFM
variable {a : Nat} {b m : Int} {v : PG} {r r1 : Int32} {L L1 L2 : List Int32}
theorem Ap.k20 {n : Int} {δ δ' : Dl} (h : Ap 22 23 a L n δ δ') : δ'.1 20 a = δ.1 20 a ∧ δ'.1 21 a = δ.1 21 a := ⟨(h.2.1.2 20 a (fun e => by have := e.2; omega)).1, (h.2.1.2 21 a (fun e => by have := e.2; omega)).1⟩
theorem TF.bg {id : Int32} {G : Dl → Option (Int32 × Dl)} (h : TF a b m G r L) : TF a b m (fun δ => (F_Fa_begins_2 a id δ).bind G) r ([id] ++ L) := by
  intro δ n e20 e21 e22 h0 hl
  rw [List.length_append] at hl
  have hl' : n + ((1 + L.length : Nat) : Int) ≤ 30 := hl
  have e : F_Fa_begins_2 a id δ = some (sI (sA δ 23 a (zi n) id) 22 a (zi (n + 1))) := by
    simp (disch := omega) only [F_Fa_begins_2, e22, q1A, ↓reduceIte, inb, zl, zi_add, zi_sub, zi_mul, zi_neg, zi_le_t, zi_le_f, zi_lt_t, zi_lt_f, zi_eq_t, zi_eq_f, if_true, if_false, ite_true, ite_false, true_and, and_true, false_and, and_false, not_true_eq_false, not_false_eq_true, true_or, or_true, false_or, or_false, and_self, ge_iff_le, gt_iff_lt]
  have A1 : Ap 22 23 a [id] n δ (sI (sA δ 23 a (zi n) id) 22 a (zi (n + 1))) := Ap.one ⟨h0, by omega⟩
  obtain ⟨d2, e2, A2⟩ := h (sI (sA δ 23 a (zi n) id) 22 a (zi (n + 1))) (n + 1) (by rw [A1.k20.1]; exact e20) (by rw [A1.k20.2]; exact e21) sI_at (by omega) (by omega)
  exact ⟨d2, by show (F_Fa_begins_2 a id δ).bind G = _; rw [e]; exact e2, Ap.ap h0 A1 A2⟩
theorem TF.s {F : Dl → Option (Int32 × Dl)} {G : Int32 → Dl → Option (Int32 × Dl)} (h1 : TF a b m F r1 L1) (h2 : TF a b m (G r1) r L2) : TF a b m (fun δ => bd2 (F δ) G) r (L1 ++ L2) := by
  intro δ n e20 e21 e22 h0 hl
  rw [List.length_append] at hl
  obtain ⟨d1, e1, A1⟩ := h1 δ n e20 e21 e22 h0 (by omega)
  obtain ⟨d2, e2, A2⟩ := h2 d1 (n + L1.length) (by rw [A1.k20.1]; exact e20) (by rw [A1.k20.2]; exact e21) A1.1 (by omega) (by omega)
  exact ⟨d2, by show bd2 (F δ) G = _; rw [b2e e1]; exact e2, Ap.ap h0 A1 A2⟩
theorem TF.rt {u : Dl → Int32} (h : ∀ δ, δ.1 20 a = zi b → δ.1 21 a = zi m → u δ = r) : TF a b m (fun δ => some (u δ, δ)) r [] := fun δ n e20 e21 e22 _ _ => ⟨δ, by show some (u δ, δ) = _; rw [h δ e20 e21], Ap.nil e22⟩
theorem TF.cg {F F' : Dl → Option (Int32 × Dl)} (e : ∀ δ, δ.1 20 a = zi b → δ.1 21 a = zi m → F δ = F' δ) (h : TF a b m F' r L) : TF a b m F r L := fun δ n e20 e21 e22 h0 hl => by rw [e δ e20 e21]; exact h δ n e20 e21 e22 h0 hl
theorem TM.bg {id : Int32} {G : Dl → Option (Int32 × Dl)} (h : TM v G r L) : TM v (fun δ => (F_M_body id δ).bind G) r ([id] ++ L) := by
  intro δ n M e22 h0 hl
  rw [List.length_append] at hl
  have hl' : n + ((1 + L.length : Nat) : Int) ≤ 30 := hl
  have e : F_M_body id δ = some (sI (sA δ 170 23 (zi n) id) 169 23 (zi (n + 1))) := by
    simp (disch := omega) only [F_M_body, F_M_body_19, ↓bnd_eq, bd2, bn2, Option.bind_some, Option.bind_none, e22, q1A, ↓reduceIte, inb, zl, zi_add, zi_sub, zi_mul, zi_neg, zi_le_t, zi_le_f, zi_lt_t, zi_lt_f, zi_eq_t, zi_eq_f, if_true, if_false, ite_true, ite_false, true_and, and_true, false_and, and_false, not_true_eq_false, not_false_eq_true, true_or, or_true, false_or, or_false, and_self, ge_iff_le, gt_iff_lt]
  have A1 : Ap 169 170 23 [id] n δ (sI (sA δ 170 23 (zi n) id) 169 23 (zi (n + 1))) := Ap.one ⟨h0, by omega⟩
  obtain ⟨d2, e2, A2⟩ := h (sI (sA δ 170 23 (zi n) id) 169 23 (zi (n + 1))) (n + 1) (M.fr A1.2.1 (fun f q1 q2 e => by have := e.2; omega)) sI_at (by omega) (by omega)
  exact ⟨d2, by show (F_M_body id δ).bind G = _; rw [e]; exact e2, Ap.ap h0 A1 A2⟩
theorem TM.s {F : Dl → Option (Int32 × Dl)} {G : Int32 → Dl → Option (Int32 × Dl)} (h1 : TM v F r1 L1) (h2 : TM v (G r1) r L2) : TM v (fun δ => bd2 (F δ) G) r (L1 ++ L2) := by
  intro δ n M e22 h0 hl
  rw [List.length_append] at hl
  obtain ⟨d1, e1, A1⟩ := h1 δ n M e22 h0 (by omega)
  obtain ⟨d2, e2, A2⟩ := h2 d1 (n + L1.length) (M.fr A1.2.1 (fun f q1 q2 e => by have := e.2; omega)) A1.1 (by omega) (by omega)
  exact ⟨d2, by show bd2 (F δ) G = _; rw [b2e e1]; exact e2, Ap.ap h0 A1 A2⟩
theorem TM.rt {u : Dl → Int32} (h : ∀ δ, MP δ v → u δ = r) : TM v (fun δ => some (u δ, δ)) r [] := fun δ n M e22 _ _ => ⟨δ, by show some (u δ, δ) = _; rw [h δ M], Ap.nil e22⟩
theorem TM.cg {F F' : Dl → Option (Int32 × Dl)} (e : ∀ δ, MP δ v → F δ = F' δ) (h : TM v F' r L) : TM v F r L := fun δ n M e22 h0 hl => by rw [e δ M]; exact h δ n M e22 h0 hl
/-- the class's ways -/
theorem b24 : F_Fa_begins_4 = F_Fa_begins_2 := rfl
theorem b26 : F_Fa_begins_6 = F_Fa_begins_2 := rfl
theorem b28 : F_Fa_begins_8 = F_Fa_begins_2 := rfl
theorem TF.b4 {id : Int32} {G : Dl → Option (Int32 × Dl)} (h : TF a b m G r L) : TF a b m (fun δ => (F_Fa_begins_4 a id δ).bind G) r ([id] ++ L) := b24 ▸ TF.bg h
theorem TF.b6 {id : Int32} {G : Dl → Option (Int32 × Dl)} (h : TF a b m G r L) : TF a b m (fun δ => (F_Fa_begins_6 a id δ).bind G) r ([id] ++ L) := b26 ▸ TF.bg h
theorem TF.b8 {id : Int32} {G : Dl → Option (Int32 × Dl)} (h : TF a b m G r L) : TF a b m (fun δ => (F_Fa_begins_8 a id δ).bind G) r ([id] ++ L) := b28 ▸ TF.bg h
theorem o_runs (x : Int32) : TF a b m (F_Or_runs_2 a x) (x + zi b - zi m) [20, 10] := TF.bg (TF.s (TF.bg (TF.rt (fun δ e _ => by rw [e]))) (TF.rt (fun δ _ e => by rw [e])))
theorem o_costs (x : Int32) : TF a b m (F_Fa_costs_2 a x) ((x + zi b - zi m) * 2) [11, 20, 10] := TF.bg (TF.s (o_runs x) (TF.rt (fun δ _ _ => rfl)))
theorem o_tells (x : Int32) : TF a b m (F_Fa_tells_2 a x) (((x + zi b - zi m) * 2) ^^^ (x + zi m + zi b - zi m)) [12, 11, 20, 10, 20, 10] := TF.bg (TF.s (o_costs x) (TF.cg (fun δ _ e => by show bd2 (F_Or_runs_2 a (x + (δ.1 21 a)) δ) _ = _; rw [e]) (TF.s (o_runs (x + zi m)) (TF.rt (fun δ _ _ => rfl)))))
theorem p_runs (x : Int32) : TF a b m (F_Fa_runs_4 a x) (x + zi b) [10] := TF.b4 (TF.rt (fun δ e _ => by rw [e]))
theorem p_costs0 (x : Int32) : TF a b m (F_Fa_costs_4 a x) ((x + zi b) * 2) [11, 10] := TF.b4 (TF.s (p_runs x) (TF.rt (fun δ _ _ => rfl)))
theorem p_costs (x : Int32) : TF a b m (F_Ro_costs_4 a x) ((x + zi b) * 2 * 3) [40, 11, 10] := TF.b4 (TF.s (p_costs0 x) (TF.rt (fun δ _ _ => rfl)))
theorem p_tells (x : Int32) : TF a b m (F_Fa_tells_4 a x) (((x + zi b) * 2 * 3) ^^^ (x + zi m + zi b)) [12, 40, 11, 10, 10] := TF.b4 (TF.s (p_costs x) (TF.cg (fun δ _ e => by show bd2 (F_Fa_runs_4 a (x + (δ.1 21 a)) δ) _ = _; rw [e]) (TF.s (p_runs (x + zi m)) (TF.rt (fun δ _ _ => rfl)))))
theorem s_runs (x : Int32) : TF a b m (F_Sp_runs_6 a x) ((x + zi b) ^^^ 7) [50, 10] := TF.b6 (TF.s (TF.b6 (TF.rt (fun δ e _ => by rw [e]))) (TF.rt (fun δ _ e => rfl)))
theorem s_costs0 (x : Int32) : TF a b m (F_Fa_costs_6 a x) (((x + zi b) ^^^ 7) * 2) [11, 50, 10] := TF.b6 (TF.s (s_runs x) (TF.rt (fun δ _ _ => rfl)))
theorem s_costs (x : Int32) : TF a b m (F_Ro_costs_6 a x) (((x + zi b) ^^^ 7) * 2 * 3) [40, 11, 50, 10] := TF.b6 (TF.s (s_costs0 x) (TF.rt (fun δ _ _ => rfl)))
theorem s_tells0 (x : Int32) : TF a b m (F_Fa_tells_6 a x) ((((x + zi b) ^^^ 7) * 2 * 3) ^^^ ((x + zi m + zi b) ^^^ 7)) [12, 40, 11, 50, 10, 50, 10] := TF.b6 (TF.s (s_costs x) (TF.cg (fun δ _ e => by show bd2 (F_Sp_runs_6 a (x + (δ.1 21 a)) δ) _ = _; rw [e]) (TF.s (s_runs (x + zi m)) (TF.rt (fun δ _ _ => rfl)))))
theorem s_tells (x : Int32) : TF a b m (F_Sp_tells_6 a x) ((((x + zi b) ^^^ 7) * 2 * 3) - ((((x + zi b) ^^^ 7) * 2 * 3) ^^^ ((x + zi m + zi b) ^^^ 7))) [51, 40, 11, 50, 10, 12, 40, 11, 50, 10, 50, 10] := TF.b6 (TF.s (s_costs x) (TF.s (s_tells0 x) (TF.rt (fun δ _ _ => rfl))))
theorem h_runs (x : Int32) : TF a b m (F_Or_runs_8 a x) (x + zi b - zi m) [20, 10] := TF.b8 (TF.s (TF.b8 (TF.rt (fun δ e _ => by rw [e]))) (TF.rt (fun δ _ e => by rw [e])))
theorem h_costs0 (x : Int32) : TF a b m (F_Fa_costs_8 a x) ((x + zi b - zi m) * 2) [11, 20, 10] := TF.b8 (TF.s (h_runs x) (TF.rt (fun δ _ _ => rfl)))
theorem h_costs (x : Int32) : TF a b m (F_Se_costs_8 a x) ((x + zi b - zi m) * 2 + 3) [30, 11, 20, 10] := TF.b8 (TF.s (h_costs0 x) (TF.rt (fun δ _ _ => rfl)))
theorem h_tells0 (x : Int32) : TF a b m (F_Fa_tells_8 a x) (((x + zi b - zi m) * 2 + 3) ^^^ (x + zi m + zi b - zi m)) [12, 30, 11, 20, 10, 20, 10] := TF.b8 (TF.s (h_costs x) (TF.cg (fun δ _ e => by show bd2 (F_Or_runs_8 a (x + (δ.1 21 a)) δ) _ = _; rw [e]) (TF.s (h_runs (x + zi m)) (TF.rt (fun δ _ _ => rfl)))))
theorem h_tells (x : Int32) : TF a b m (F_Se_tells_8 a x) (((x + 1 + zi b - zi m) * 2 + 3) ^^^ (x + 1 + zi m + zi b - zi m)) [31, 12, 30, 11, 20, 10, 20, 10] := TF.b8 (TF.s (h_tells0 (x + 1)) (TF.rt (fun δ _ _ => rfl)))
end TFM
/-! the reference's ways -/
section TMM
variable {v : PG} {b m k : Int}
theorem z10 : ((1 : Int32) = 0) = False := eq_false (by decide)
theorem m_any {rr : Int32 → Int32} {LR : List Int32} (hR : ∀ x, TM v (F_M_runs (zi b) x) (rr x) LR) (x : Int32) : TM v (F_M_costsAny (zi b) x) (rr x * 2) ([11] ++ (LR ++ [])) := TM.bg (TM.s (hR x) (TM.rt (fun _ _ => rfl)))
theorem m_tany (W : PW v) (b0 : 0 ≤ b) (b1 : b < v.1) {rr cc : Int32 → Int32} {LR LC : List Int32} (hR : ∀ x, TM v (F_M_runs (zi b) x) (rr x) LR) (hC : ∀ x, TM v (F_M_costs (zi b) x) (cc x) LC) (x : Int32) : TM v (F_M_tellsAny (zi b) x) (cc x ^^^ rr (x + zi (v.2.2.1 b 1))) ([12] ++ (LC ++ (LR ++ []))) := by
  have hN := W.1
  refine TM.bg (TM.s (hC x) (TM.cg (F' := fun δ9 => bd2 (F_M_runs (zi b) (x + zi (v.2.2.1 b 1)) δ9) fun v24 δ24 => some ((cc x ^^^ v24), δ24)) (fun δ M => ?_) (TM.s (hR (x + zi (v.2.2.1 b 1))) (TM.rt (fun _ _ => rfl)))))
  have f1 := (M.2.2.1 b b0 b1).2.1
  have ib : inb (zi b) 30 := by
    unfold inb
    rw [zl0, show (30 : Int32) = zi 30 from zl 30, zi_le (by omega) (by omega), zi_lt (by omega) (by omega)]; omega
  show (if inb (zi b) 30 then _ else none) = _
  rw [if_pos ib, f1]
theorem m_rany (x : Int32) : TM v (F_M_runsAny (zi b) x) (x + zi b) ([10] ++ []) := TM.bg (TM.rt (fun _ _ => rfl))
theorem inb30 (W : PW v) (b0 : 0 ≤ b) (b1 : b < v.1) : inb (zi b) 30 := by
  have hN := W.1
  unfold inb
  rw [zl0, show (30 : Int32) = zi 30 from zl 30, zi_le (by omega) (by omega), zi_lt (by omega) (by omega)]; omega
theorem mr_o (W : PW v) (b0 : 0 ≤ b) (b1 : b < v.1) (hk : v.2.2.1 b 0 ≤ 12) (x : Int32) : TM v (F_M_runs (zi b) x) (x + zi b - zi (v.2.2.1 b 1)) [20, 10] := by
  have hkk := W.k b0 b1
  have ib := inb30 W b0 b1
  have io : F_M_isOrder (zi (v.2.2.1 b 0)) = 1 := by simp (disch := omega) only [F_M_isOrder, ↓reduceIte, inb, zl, zi_add, zi_sub, zi_mul, zi_neg, zi_le_t, zi_le_f, zi_lt_t, zi_lt_f, zi_eq_t, zi_eq_f, if_true, if_false, ite_true, ite_false, true_and, and_true, false_and, and_false, not_true_eq_false, not_false_eq_true, true_or, or_true, false_or, or_false, and_self, ge_iff_le, gt_iff_lt]
  refine TM.cg (F' := fun δ => (F_M_body 20 δ).bind fun δ15 => bd2 (F_M_runsAny (zi b) x δ15) fun v21 δ21 => if inb (zi b) 30 then some ((v21 - (δ21.2.1 120 23 (zi b))), δ21) else none) (fun δ M => ?_) (TM.bg (TM.s (m_rany x) (TM.cg (F' := fun δ => some (x + zi b - zi (v.2.2.1 b 1), δ)) (fun δ M => ?_) (TM.rt (fun _ _ => rfl)))))
  · have f0 := (M.2.2.1 b b0 b1).1
    unfold F_M_runs
    rw [if_pos ib, bnd_eq, f0, io, if_neg (by decide)]
  · have f1 := (M.2.2.1 b b0 b1).2.1
    show (if inb (zi b) 30 then _ else none) = _
    rw [if_pos ib, f1]
theorem mr_p (W : PW v) (b0 : 0 ≤ b) (b1 : b < v.1) (hk : 12 < v.2.2.1 b 0 ∧ v.2.2.1 b 0 < 19) (x : Int32) : TM v (F_M_runs (zi b) x) (x + zi b) [10] := by
  have ib := inb30 W b0 b1
  have io : F_M_isOrder (zi (v.2.2.1 b 0)) = 0 := by simp (disch := omega) only [F_M_isOrder, ↓reduceIte, inb, zl, zi_add, zi_sub, zi_mul, zi_neg, zi_le_t, zi_le_f, zi_lt_t, zi_lt_f, zi_eq_t, zi_eq_f, if_true, if_false, ite_true, ite_false, true_and, and_true, false_and, and_false, not_true_eq_false, not_false_eq_true, true_or, or_true, false_or, or_false, and_self, ge_iff_le, gt_iff_lt]
  have is : F_M_isSharp (zi (v.2.2.1 b 0)) = 0 := by simp (disch := omega) only [F_M_isSharp, ↓reduceIte, inb, zl, zi_add, zi_sub, zi_mul, zi_neg, zi_le_t, zi_le_f, zi_lt_t, zi_lt_f, zi_eq_t, zi_eq_f, if_true, if_false, ite_true, ite_false, true_and, and_true, false_and, and_false, not_true_eq_false, not_false_eq_true, true_or, or_true, false_or, or_false, and_self, ge_iff_le, gt_iff_lt]
  refine TM.cg (F' := fun δ => bd2 (F_M_runsAny (zi b) x δ) fun v63 δ63 => some (v63, δ63)) (fun δ M => ?_) (TM.s (m_rany x) (TM.rt (fun _ _ => rfl)))
  have f0 := (M.2.2.1 b b0 b1).1
  unfold F_M_runs
  rw [if_pos ib, bnd_eq, f0, io, if_pos rfl, if_pos ib, bnd_eq, is, if_pos rfl]
theorem mr_s (W : PW v) (b0 : 0 ≤ b) (b1 : b < v.1) (hk : 19 ≤ v.2.2.1 b 0) (x : Int32) : TM v (F_M_runs (zi b) x) ((x + zi b) ^^^ 7) [50, 10] := by
  have hkk := W.k b0 b1
  have ib := inb30 W b0 b1
  have io : F_M_isOrder (zi (v.2.2.1 b 0)) = 0 := by simp (disch := omega) only [F_M_isOrder, ↓reduceIte, inb, zl, zi_add, zi_sub, zi_mul, zi_neg, zi_le_t, zi_le_f, zi_lt_t, zi_lt_f, zi_eq_t, zi_eq_f, if_true, if_false, ite_true, ite_false, true_and, and_true, false_and, and_false, not_true_eq_false, not_false_eq_true, true_or, or_true, false_or, or_false, and_self, ge_iff_le, gt_iff_lt]
  have is : F_M_isSharp (zi (v.2.2.1 b 0)) = 1 := by simp (disch := omega) only [F_M_isSharp, ↓reduceIte, inb, zl, zi_add, zi_sub, zi_mul, zi_neg, zi_le_t, zi_le_f, zi_lt_t, zi_lt_f, zi_eq_t, zi_eq_f, if_true, if_false, ite_true, ite_false, true_and, and_true, false_and, and_false, not_true_eq_false, not_false_eq_true, true_or, or_true, false_or, or_false, and_self, ge_iff_le, gt_iff_lt]
  refine TM.cg (F' := fun δ => (F_M_body 50 δ).bind fun δ47 => bd2 (F_M_runsAny (zi b) x δ47) fun v53 δ53 => some ((v53 ^^^ 7), δ53)) (fun δ M => ?_) (TM.bg (TM.s (m_rany x) (TM.rt (fun _ _ => rfl))))
  have f0 := (M.2.2.1 b b0 b1).1
  unfold F_M_runs
  rw [if_pos ib, bnd_eq, f0, io, if_pos rfl, if_pos ib, bnd_eq, is, if_neg (by decide)]
theorem mc_o (W : PW v) (b0 : 0 ≤ b) (b1 : b < v.1) (hk : v.2.2.1 b 0 ≤ 9) (x : Int32) : TM v (F_M_costs (zi b) x) ((x + zi b - zi (v.2.2.1 b 1)) * 2) [11, 20, 10] := by
  have hkk := W.k b0 b1
  have ib := inb30 W b0 b1
  have io : F_M_isOrder (zi (v.2.2.1 b 0)) = 1 := by simp (disch := omega) only [F_M_isOrder, ↓reduceIte, inb, zl, zi_add, zi_sub, zi_mul, zi_neg, zi_le_t, zi_le_f, zi_lt_t, zi_lt_f, zi_eq_t, zi_eq_f, if_true, if_false, ite_true, ite_false, true_and, and_true, false_and, and_false, not_true_eq_false, not_false_eq_true, true_or, or_true, false_or, or_false, and_self, ge_iff_le, gt_iff_lt]
  have is : F_M_isShell (zi (v.2.2.1 b 0)) = 0 := by simp (disch := omega) only [F_M_isShell, F_M_within, ↓bnd_eq, bd2, bn2, Option.bind_some, Option.bind_none, ↓reduceIte, inb, zl, zi_add, zi_sub, zi_mul, zi_neg, zi_le_t, zi_le_f, zi_lt_t, zi_lt_f, zi_eq_t, zi_eq_f, if_true, if_false, ite_true, ite_false, true_and, and_true, false_and, and_false, not_true_eq_false, not_false_eq_true, true_or, or_true, false_or, or_false, and_self, ge_iff_le, gt_iff_lt]
  refine TM.cg (F' := fun δ => bd2 (F_M_costsAny (zi b) x δ) fun v57 δ57 => some (v57, δ57)) (fun δ M => ?_) (TM.s (m_any (mr_o W b0 b1 (by omega)) x) (TM.rt (fun _ _ => rfl)))
  have f0 := (M.2.2.1 b b0 b1).1
  unfold F_M_costs
  rw [if_pos ib, bnd_eq, f0, is, if_pos rfl, if_pos ib, bnd_eq, io, if_neg (by decide)]
theorem mc_r (W : PW v) (b0 : 0 ≤ b) (b1 : b < v.1) (hk : 12 < v.2.2.1 b 0) {rr : Int32 → Int32} {LR : List Int32} (hR : ∀ x, TM v (F_M_runs (zi b) x) (rr x) LR) (x : Int32) : TM v (F_M_costs (zi b) x) (rr x * 2 * 3) ([40] ++ (([11] ++ (LR ++ [])) ++ [])) := by
  have hkk := W.k b0 b1
  have ib := inb30 W b0 b1
  have io : F_M_isOrder (zi (v.2.2.1 b 0)) = 0 := by simp (disch := omega) only [F_M_isOrder, ↓reduceIte, inb, zl, zi_add, zi_sub, zi_mul, zi_neg, zi_le_t, zi_le_f, zi_lt_t, zi_lt_f, zi_eq_t, zi_eq_f, if_true, if_false, ite_true, ite_false, true_and, and_true, false_and, and_false, not_true_eq_false, not_false_eq_true, true_or, or_true, false_or, or_false, and_self, ge_iff_le, gt_iff_lt]
  have is : F_M_isShell (zi (v.2.2.1 b 0)) = 0 := by simp (disch := omega) only [F_M_isShell, F_M_within, ↓bnd_eq, bd2, bn2, Option.bind_some, Option.bind_none, ↓reduceIte, inb, zl, zi_add, zi_sub, zi_mul, zi_neg, zi_le_t, zi_le_f, zi_lt_t, zi_lt_f, zi_eq_t, zi_eq_f, if_true, if_false, ite_true, ite_false, true_and, and_true, false_and, and_false, not_true_eq_false, not_false_eq_true, true_or, or_true, false_or, or_false, and_self, ge_iff_le, gt_iff_lt]
  refine TM.cg (F' := fun δ => (F_M_body 40 δ).bind fun δ42 => bd2 (F_M_costsAny (zi b) x δ42) fun v48 δ48 => some ((v48 * 3), δ48)) (fun δ M => ?_) (TM.bg (TM.s (m_any hR x) (TM.rt (fun _ _ => rfl))))
  have f0 := (M.2.2.1 b b0 b1).1
  unfold F_M_costs
  rw [if_pos ib, bnd_eq, f0, is, if_pos rfl, if_pos ib, bnd_eq, io, if_pos rfl]
theorem mc_h (W : PW v) (b0 : 0 ≤ b) (b1 : b < v.1) (hk : 10 ≤ v.2.2.1 b 0 ∧ v.2.2.1 b 0 ≤ 12) (x : Int32) : TM v (F_M_costs (zi b) x) ((x + zi b - zi (v.2.2.1 b 1)) * 2 + 3) [30, 11, 20, 10] := by
  have ib := inb30 W b0 b1
  have is : F_M_isShell (zi (v.2.2.1 b 0)) = 1 := by simp (disch := omega) only [F_M_isShell, F_M_within, ↓bnd_eq, bd2, bn2, Option.bind_some, Option.bind_none, ↓reduceIte, inb, zl, zi_add, zi_sub, zi_mul, zi_neg, zi_le_t, zi_le_f, zi_lt_t, zi_lt_f, zi_eq_t, zi_eq_f, if_true, if_false, ite_true, ite_false, true_and, and_true, false_and, and_false, not_true_eq_false, not_false_eq_true, true_or, or_true, false_or, or_false, and_self, ge_iff_le, gt_iff_lt]
  refine TM.cg (F' := fun δ => (F_M_body 30 δ).bind fun δ15 => bd2 (F_M_costsAny (zi b) x δ15) fun v21 δ21 => some ((v21 + 3), δ21)) (fun δ M => ?_) (TM.bg (TM.s (m_any (mr_o W b0 b1 hk.2) x) (TM.rt (fun _ _ => rfl))))
  have f0 := (M.2.2.1 b b0 b1).1
  unfold F_M_costs
  rw [if_pos ib, bnd_eq, f0, is, if_neg (by decide)]
theorem mt_a (W : PW v) (b0 : 0 ≤ b) (b1 : b < v.1) (hk : v.2.2.1 b 0 ≤ 9 ∨ (12 < v.2.2.1 b 0 ∧ v.2.2.1 b 0 < 19)) {rr cc : Int32 → Int32} {LR LC : List Int32} (hR : ∀ x, TM v (F_M_runs (zi b) x) (rr x) LR) (hC : ∀ x, TM v (F_M_costs (zi b) x) (cc x) LC) (x : Int32) : TM v (F_M_tells (zi b) x) (cc x ^^^ rr (x + zi (v.2.2.1 b 1))) (([12] ++ (LC ++ (LR ++ []))) ++ []) := by
  have hkk := W.k b0 b1
  have ib := inb30 W b0 b1
  have ip : F_M_isSharp (zi (v.2.2.1 b 0)) = 0 := by simp (disch := omega) only [F_M_isSharp, ↓reduceIte, inb, zl, zi_add, zi_sub, zi_mul, zi_neg, zi_le_t, zi_le_f, zi_lt_t, zi_lt_f, zi_eq_t, zi_eq_f, if_true, if_false, ite_true, ite_false, true_and, and_true, false_and, and_false, not_true_eq_false, not_false_eq_true, true_or, or_true, false_or, or_false, and_self, ge_iff_le, gt_iff_lt]
  have is : F_M_isShell (zi (v.2.2.1 b 0)) = 0 := by
    rcases hk with h | h
    · simp (disch := omega) only [F_M_isShell, F_M_within, ↓bnd_eq, bd2, bn2, Option.bind_some, Option.bind_none, ↓reduceIte, inb, zl, zi_add, zi_sub, zi_mul, zi_neg, zi_le_t, zi_le_f, zi_lt_t, zi_lt_f, zi_eq_t, zi_eq_f, if_true, if_false, ite_true, ite_false, true_and, and_true, false_and, and_false, not_true_eq_false, not_false_eq_true, true_or, or_true, false_or, or_false, and_self, ge_iff_le, gt_iff_lt]
    · simp (disch := omega) only [F_M_isShell, F_M_within, ↓bnd_eq, bd2, bn2, Option.bind_some, Option.bind_none, ↓reduceIte, inb, zl, zi_add, zi_sub, zi_mul, zi_neg, zi_le_t, zi_le_f, zi_lt_t, zi_lt_f, zi_eq_t, zi_eq_f, if_true, if_false, ite_true, ite_false, true_and, and_true, false_and, and_false, not_true_eq_false, not_false_eq_true, true_or, or_true, false_or, or_false, and_self, ge_iff_le, gt_iff_lt]
  refine TM.cg (F' := fun δ => bd2 (F_M_tellsAny (zi b) x δ) fun v64 δ64 => some (v64, δ64)) (fun δ M => ?_) (TM.s (m_tany W b0 b1 hR hC x) (TM.rt (fun _ _ => rfl)))
  have f0 := (M.2.2.1 b b0 b1).1
  unfold F_M_tells
  rw [if_pos ib, bnd_eq, f0, is, if_pos rfl, if_pos ib, bnd_eq, ip, if_pos rfl]
theorem mt_s (W : PW v) (b0 : 0 ≤ b) (b1 : b < v.1) (hk : 19 ≤ v.2.2.1 b 0) {rr cc : Int32 → Int32} {LR LC : List Int32} (hR : ∀ x, TM v (F_M_runs (zi b) x) (rr x) LR) (hC : ∀ x, TM v (F_M_costs (zi b) x) (cc x) LC) (x : Int32) : TM v (F_M_tells (zi b) x) (cc x - (cc x ^^^ rr (x + zi (v.2.2.1 b 1)))) ([51] ++ (LC ++ (([12] ++ (LC ++ (LR ++ []))) ++ []))) := by
  have hkk := W.k b0 b1
  have ib := inb30 W b0 b1
  have ip : F_M_isSharp (zi (v.2.2.1 b 0)) = 1 := by simp (disch := omega) only [F_M_isSharp, ↓reduceIte, inb, zl, zi_add, zi_sub, zi_mul, zi_neg, zi_le_t, zi_le_f, zi_lt_t, zi_lt_f, zi_eq_t, zi_eq_f, if_true, if_false, ite_true, ite_false, true_and, and_true, false_and, and_false, not_true_eq_false, not_false_eq_true, true_or, or_true, false_or, or_false, and_self, ge_iff_le, gt_iff_lt]
  have is : F_M_isShell (zi (v.2.2.1 b 0)) = 0 := by simp (disch := omega) only [F_M_isShell, F_M_within, ↓bnd_eq, bd2, bn2, Option.bind_some, Option.bind_none, ↓reduceIte, inb, zl, zi_add, zi_sub, zi_mul, zi_neg, zi_le_t, zi_le_f, zi_lt_t, zi_lt_f, zi_eq_t, zi_eq_f, if_true, if_false, ite_true, ite_false, true_and, and_true, false_and, and_false, not_true_eq_false, not_false_eq_true, true_or, or_true, false_or, or_false, and_self, ge_iff_le, gt_iff_lt]
  refine TM.cg (F' := fun δ => (F_M_body 51 δ).bind fun δ42 => bd2 (F_M_costs (zi b) x δ42) fun v48 δ48 => bd2 (F_M_tellsAny (zi b) x δ48) fun v56 δ56 => some ((v48 - v56), δ56)) (fun δ M => ?_) (TM.bg (TM.s (hC x) (TM.s (m_tany W b0 b1 hR hC x) (TM.rt (fun _ _ => rfl)))))
  have f0 := (M.2.2.1 b b0 b1).1
  unfold F_M_tells
  rw [if_pos ib, bnd_eq, f0, is, if_pos rfl, if_pos ib, bnd_eq, ip, if_neg (by decide)]
theorem mt_h (W : PW v) (b0 : 0 ≤ b) (b1 : b < v.1) (hk : 10 ≤ v.2.2.1 b 0 ∧ v.2.2.1 b 0 ≤ 12) {rr cc : Int32 → Int32} {LR LC : List Int32} (hR : ∀ x, TM v (F_M_runs (zi b) x) (rr x) LR) (hC : ∀ x, TM v (F_M_costs (zi b) x) (cc x) LC) (x : Int32) : TM v (F_M_tells (zi b) x) (cc (x + 1) ^^^ rr (x + 1 + zi (v.2.2.1 b 1))) ([31] ++ (([12] ++ (LC ++ (LR ++ []))) ++ [])) := by
  have ib := inb30 W b0 b1
  have is : F_M_isShell (zi (v.2.2.1 b 0)) = 1 := by simp (disch := omega) only [F_M_isShell, F_M_within, ↓bnd_eq, bd2, bn2, Option.bind_some, Option.bind_none, ↓reduceIte, inb, zl, zi_add, zi_sub, zi_mul, zi_neg, zi_le_t, zi_le_f, zi_lt_t, zi_lt_f, zi_eq_t, zi_eq_f, if_true, if_false, ite_true, ite_false, true_and, and_true, false_and, and_false, not_true_eq_false, not_false_eq_true, true_or, or_true, false_or, or_false, and_self, ge_iff_le, gt_iff_lt]
  refine TM.cg (F' := fun δ => (F_M_body 31 δ).bind fun δ15 => bd2 (F_M_tellsAny (zi b) (x + 1) δ15) fun v23 δ23 => some (v23, δ23)) (fun δ M => ?_) (TM.bg (TM.s (m_tany W b0 b1 hR hC (x + 1)) (TM.rt (fun _ _ => rfl))))
  have f0 := (M.2.2.1 b b0 b1).1
  unfold F_M_tells
  rw [if_pos ib, bnd_eq, f0, is, if_neg (by decide)]
end TMM
theorem fam_19_0 (x : Int32) (δ : Dl) : F_fam 19 (zi 0) x δ = F_Or_runs_2 19 x δ := by unfold F_fam; rw [if_pos rfl, if_pos (by decide)]
theorem fam_19_1 (x : Int32) (δ : Dl) : F_fam 19 (zi 1) x δ = F_Fa_costs_2 19 x δ := by unfold F_fam; rw [if_pos rfl, if_neg (by decide), if_pos (by decide)]
theorem fam_19_2 (x : Int32) (δ : Dl) : F_fam 19 (zi 2) x δ = F_Fa_tells_2 19 x δ := by unfold F_fam; rw [if_pos rfl, if_neg (by decide), if_neg (by decide)]
theorem fam_20_0 (x : Int32) (δ : Dl) : F_fam 20 (zi 0) x δ = F_Fa_runs_4 20 x δ := by unfold F_fam; rw [if_neg (by decide), if_pos rfl, if_pos (by decide)]
theorem fam_20_1 (x : Int32) (δ : Dl) : F_fam 20 (zi 1) x δ = F_Ro_costs_4 20 x δ := by unfold F_fam; rw [if_neg (by decide), if_pos rfl, if_neg (by decide), if_pos (by decide)]
theorem fam_20_2 (x : Int32) (δ : Dl) : F_fam 20 (zi 2) x δ = F_Fa_tells_4 20 x δ := by unfold F_fam; rw [if_neg (by decide), if_pos rfl, if_neg (by decide), if_neg (by decide)]
theorem fam_21_0 (x : Int32) (δ : Dl) : F_fam 21 (zi 0) x δ = F_Sp_runs_6 21 x δ := by unfold F_fam; rw [if_neg (by decide), if_neg (by decide), if_pos rfl, if_pos (by decide)]
theorem fam_21_1 (x : Int32) (δ : Dl) : F_fam 21 (zi 1) x δ = F_Ro_costs_6 21 x δ := by unfold F_fam; rw [if_neg (by decide), if_neg (by decide), if_pos rfl, if_neg (by decide), if_pos (by decide)]
theorem fam_21_2 (x : Int32) (δ : Dl) : F_fam 21 (zi 2) x δ = F_Sp_tells_6 21 x δ := by unfold F_fam; rw [if_neg (by decide), if_neg (by decide), if_pos rfl, if_neg (by decide), if_neg (by decide)]
theorem fam_22_0 (x : Int32) (δ : Dl) : F_fam 22 (zi 0) x δ = F_Or_runs_8 22 x δ := by unfold F_fam; rw [if_neg (by decide), if_neg (by decide), if_neg (by decide), if_pos (by decide)]
theorem fam_22_1 (x : Int32) (δ : Dl) : F_fam 22 (zi 1) x δ = F_Se_costs_8 22 x δ := by unfold F_fam; rw [if_neg (by decide), if_neg (by decide), if_neg (by decide), if_neg (by decide), if_pos (by decide)]
theorem fam_22_2 (x : Int32) (δ : Dl) : F_fam 22 (zi 2) x δ = F_Se_tells_8 22 x δ := by unfold F_fam; rw [if_neg (by decide), if_neg (by decide), if_neg (by decide), if_neg (by decide), if_neg (by decide)]
theorem INV.act {δ δ2 : Dl} {S : Nat → Nat → Prop} (I : INV δ) (F : Fr S δ (δ2.1, δ2.2.1, δ.2.2)) (n : ∀ f a, S f a → (19 ≤ a ∧ a ≤ 22 ∧ 20 ≤ f ∧ f ≤ 23) ∨ (a = 23 ∧ 169 ≤ f ∧ f ≤ 170)) (e93 : ∀ i : Nat, i < 4 → δ2.2.2 93 i = δ.2.2 93 i) (e99 : δ2.2.2 99 0 = δ.2.2 99 0) (e100 : δ2.2.2 100 0 = δ.2.2 100 0) (hx : RX δ2) (h10 : J10 δ2) : INV δ2 := by
  obtain ⟨⟨v, g, h1, h2, h4⟩, ⟨kn, gk, h3⟩, h5, h6, h7, h8, h9, -, h11, h13, -⟩ := I
  have k1 : J1 v (δ2.1, δ2.2.1, δ.2.2) := h1.fr F (fun f a q e => by have := n f a e; omega)
  have k2 : J2 g (δ2.1, δ2.2.1, δ.2.2) := h2.fr F (fun f a q e => by have := n f a e; omega)
  have k4 : J4 v g (δ2.1, δ2.2.1, δ.2.2) := h4.fr F (fun f a q e => by have := n f a e; omega)
  obtain ⟨b0, b1, b2, b3, b4⟩ : J3 kn gk (δ2.1, δ2.2.1, δ.2.2) := h3.fr F (fun f a q e => by have := n f a e; omega)
  have k5 : J5 (δ2.1, δ2.2.1, δ.2.2) := h5.fr F (fun f a q e => by have := n f a e; omega)
  obtain ⟨w, w', m, c1, c2, c3, c4, c5⟩ : J6 (δ2.1, δ2.2.1, δ.2.2) := h6.fr F (fun f a q e => by have := n f a e; omega)
  have k7 : J7 (δ2.1, δ2.2.1, δ.2.2) := h7.fr F (fun f a q e => by have := n f a e; omega)
  have k8 : J8 (δ2.1, δ2.2.1, δ.2.2) := h8.fr F (fun f a q e => by have := n f a e; omega)
  have k9 : J9 (δ2.1, δ2.2.1, δ.2.2) := h9.fr F (fun f a q e => by have := n f a e; omega)
  have k11 : J11 (δ2.1, δ2.2.1, δ.2.2) := h11.fr F (fun f a q e => by have := n f a e; omega)
  have k13 : J13 (δ2.1, δ2.2.1, δ.2.2) := h13.fr F (fun e => by have := n 177 23 e; omega)
  exact ⟨⟨v, g, k1, k2, k4⟩, ⟨kn, gk, ⟨b0, b1, b2, fun i hi => (e93 i hi).trans (b3 i hi), b4⟩⟩, k5, ⟨w, w', m, c1, c2, e99.trans c3, e100.trans c4, c5⟩, k7, k8, k9, h10, k11, k13, hx⟩
theorem rx_q {δ : Dl} (h : RX δ) {q : Nat × Nat} (hq : q.1 ≤ 1) : RX (sR δ 102 0 q) := by
  intro f a
  show (if f = 102 ∧ a = 0 then q else δ.2.2 f a).1 ≤ 1 ∧ (¬ (f = 102 ∧ a = 0) → (if f = 102 ∧ a = 0 then q else δ.2.2 f a).1 = 0 → (if f = 102 ∧ a = 0 then q else δ.2.2 f a).2 < 19)
  by_cases e : f = 102 ∧ a = 0
  · rw [if_pos e]; exact ⟨hq, fun n => absurd e n⟩
  · rw [if_neg e]; exact h f a
theorem rx_n {δ : Dl} (h : RX δ) {b ci n : Nat} : RX (nD δ b ci n) := by
  intro f a
  show (if a = b ∧ wfb ci ≤ f ∧ f < wfb ci + n then (1, 0) else δ.2.2 f a).1 ≤ 1 ∧ (¬ (f = 102 ∧ a = 0) → (if a = b ∧ wfb ci ≤ f ∧ f < wfb ci + n then (1, 0) else δ.2.2 f a).1 = 0 → (if a = b ∧ wfb ci ≤ f ∧ f < wfb ci + n then (1, 0) else δ.2.2 f a).2 < 19)
  by_cases e : a = b ∧ wfb ci ≤ f ∧ f < wfb ci + n
  · rw [if_pos e]; exact ⟨by decide, fun _ e => absurd e (by decide)⟩
  · rw [if_neg e]; exact h f a
def actD (δ : Dl) (q ci : Nat) (x m : Int32) : Dl := sR (F_Fa_init q x m (nD (sR δ 102 0 (1, 0)) q ci 4)) 102 0 (0, q)
section AD
variable {δ : Dl} {q ci : Nat} {x m : Int32}
theorem ad_1 {f a : Nat} : (actD δ q ci x m).1 f a = if f = 21 ∧ a = q then m else if f = 20 ∧ a = q then x else if f = 22 ∧ a = q then 0 else if a = q ∧ wfb ci ≤ f ∧ f < wfb ci + 4 then 0 else δ.1 f a := rfl
theorem ad_2 {f a : Nat} : (actD δ q ci x m).2.1 f a = if f = 23 ∧ a = q then (fun _ => 0) else δ.2.1 f a := rfl
theorem ad_3 {f a : Nat} : (actD δ q ci x m).2.2 f a = if f = 102 ∧ a = 0 then (0, q) else if a = q ∧ wfb ci ≤ f ∧ f < wfb ci + 4 then (1, 0) else if f = 102 ∧ a = 0 then (1, 0) else δ.2.2 f a := rfl
theorem ad_fr (hc : wfb ci = 20) : Fr (fun f a => a = q ∧ 20 ≤ f ∧ f ≤ 23) δ ((actD δ q ci x m).1, (actD δ q ci x m).2.1, δ.2.2) := by
  refine ⟨rfl, fun f a hn => ⟨?_, ?_⟩⟩
  · show (actD δ q ci x m).1 f a = δ.1 f a
    have hn' : ¬ (a = q ∧ 20 ≤ f ∧ f ≤ 23) := hn
    rw [ad_1, if_neg (by omega), if_neg (by omega), if_neg (by omega), if_neg (by omega)]
  · show (actD δ q ci x m).2.1 f a = δ.2.1 f a
    have hn' : ¬ (a = q ∧ 20 ≤ f ∧ f ≤ 23) := hn
    rw [ad_2, if_neg (by omega)]
end AD
theorem act_fin {δ : Dl} {v : PG} {b m t : Int} {x3 r : Int32} {L : List Int32} {q ci : Nat} {MF : Dl → Option (Int32 × Dl)} (I : INV δ) (M : MP δ v) (hq : q = 19 ∨ q = 20 ∨ q = 21 ∨ q = 22) (hc : wfb ci = 20) (hL : L.length ≤ 30)
    (hf : F_Bs_act (zi b) (zi t) x3 δ = bd2 (F_fam q (zi t) x3 (actD δ q ci (zi b) (zi m))) fun v δ4 => some (v, q, δ4)) (hT : TF q b m (F_fam q (zi t) x3) r L) (hm : ∀ δ', MP δ' v → F_M_act (zi b) (zi t) x3 δ' = MF (sI δ' 169 23 (zi 0))) (hM : TM v MF r L) :
    ∃ v q δ1 δ2, F_Bs_act (zi b) (zi t) x3 δ = some (v, q, δ1) ∧ F_M_act (zi b) (zi t) x3 δ1 = some (v, δ2) ∧ INV δ2 ∧ ((q = 0 ∧ δ2.2.2 102 0 = (1, 0)) ∨ ((q = 19 ∨ q = 20 ∨ q = 21 ∨ q = 22) ∧ δ2.2.2 102 0 = (0, q))) := by
  have d20 : (actD δ q ci (zi b) (zi m)).1 20 q = zi b := by rw [ad_1, if_neg (fun e => absurd e.1 (by decide)), if_pos ⟨rfl, rfl⟩]
  have d21 : (actD δ q ci (zi b) (zi m)).1 21 q = zi m := by rw [ad_1, if_pos ⟨rfl, rfl⟩]
  have d22 : (actD δ q ci (zi b) (zi m)).1 22 q = zi 0 := by rw [ad_1, if_neg (fun e => absurd e.1 (by decide)), if_neg (fun e => absurd e.1 (by decide)), if_pos ⟨rfl, rfl⟩, zl0]
  obtain ⟨d4, e4, A4⟩ := hT _ 0 d20 d21 d22 (Int.le_refl 0) (by omega)
  have F37 := ad_fr (δ := δ) (q := q) (x := zi b) (m := zi m) hc
  have Mx : MP ((actD δ q ci (zi b) (zi m)).1, (actD δ q ci (zi b) (zi m)).2.1, δ.2.2) v := M.fr F37 (fun f q1 q2 e => by have : 23 = q := e.1; omega)
  have Md : MP (actD δ q ci (zi b) (zi m)) v := Mx
  have M4 : MP d4 v := Md.fr A4.2.1 (fun f q1 q2 e => by have : 23 = q := e.1; omega)
  have M5 : MP (sI d4 169 23 (zi 0)) v := M4
  obtain ⟨d6, e6, A6⟩ := hM _ 0 M5 sI_at (Int.le_refl 0) (by omega)
  have F46 : Fr (fun f a => a = 23 ∧ (f = 169 ∨ f = 170)) d4 d6 := (Fr.sI (S := fun f a => a = 23 ∧ (f = 169 ∨ f = 170)) Fr.rf ⟨rfl, Or.inl rfl⟩).tr A6.2.1
  have er : d6.2.2 = (actD δ q ci (zi b) (zi m)).2.2 := F46.1.trans A4.2.1.1
  have F : Fr (fun f a => (a = q ∧ 20 ≤ f ∧ f ≤ 23) ∨ (a = 23 ∧ 169 ≤ f ∧ f ≤ 170)) δ (d6.1, d6.2.1, δ.2.2) := by
    refine ⟨rfl, fun f a hn => ?_⟩
    have hn' : ¬ ((a = q ∧ 20 ≤ f ∧ f ≤ 23) ∨ (a = 23 ∧ 169 ≤ f ∧ f ≤ 170)) := hn
    have a1 := F46.2 f a (fun e => by have : a = 23 ∧ (f = 169 ∨ f = 170) := e; omega)
    have a2 := A4.2.1.2 f a (fun e => by have : a = q ∧ (f = 22 ∨ f = 23) := e; omega)
    have a3 := F37.2 f a (fun e => by have : a = q ∧ 20 ≤ f ∧ f ≤ 23 := e; omega)
    exact ⟨(a1.1.trans a2.1).trans a3.1, (a1.2.trans a2.2).trans a3.2⟩
  have e102 : d6.2.2 102 0 = (0, q) := by rw [er, ad_3, if_pos ⟨rfl, rfl⟩]
  have oth : ∀ f a : Nat, f ≠ 102 → (f < 20 ∨ 24 ≤ f) → d6.2.2 f a = δ.2.2 f a := by
    intro f a h1 h2
    rw [er, ad_3, if_neg (by omega), if_neg (by omega), if_neg (by omega)]
  have hx : RX d6 := by
    have : RX (actD δ q ci (zi b) (zi m)) := rx_q (q := (0, q)) (rx_n (rx_q (q := (1, 0)) I.2.2.2.2.2.2.2.2.2.2 (by decide))) (show (0 : Nat) ≤ 1 from Nat.zero_le 1)
    unfold RX at this ⊢
    rw [er]
    exact this
  have c22 : d6.1 22 q = zi L.length := by
    rw [(F46.2 22 q (fun e => by have : q = 23 ∧ _ := e; omega)).1, A4.1]; congr 1; omega
  have c169 : d6.1 169 23 = zi L.length := by rw [A6.1]; congr 1; omega
  have j10 : J10 d6 := by
    refine Or.inr ⟨q, L.length, hq, e102, ⟨by omega, by omega⟩, c22, c169, fun i i0 i1 i3 => ?_⟩
    obtain ⟨j, rfl⟩ : ∃ j : Nat, i = j := ⟨i.toNat, by omega⟩
    have u1 := A4.2.2.2 j (by omega)
    have u2 := A6.2.2.2 j (by omega)
    rw [show (0 : Int) + j = j by omega] at u1 u2
    rw [(F46.2 23 q (fun e => by have : q = 23 ∧ _ := e; omega)).2, u1, u2]
  refine ⟨r, q, d4, d6, by rw [hf, b2e e4], by rw [hm d4 M4, e6], INV.act I F (fun f a e => ?_) (fun i _ => oth 93 i (by decide) (by decide)) (oth 99 0 (by decide) (by decide)) (oth 100 0 (by decide) (by decide)) hx j10, Or.inr ⟨hq, e102⟩⟩
  have : (a = q ∧ 20 ≤ f ∧ f ≤ 23) ∨ (a = 23 ∧ 169 ≤ f ∧ f ≤ 170) := e
  omega
theorem act_no {δ : Dl} {x1 x2 x3 : Int32} (I : INV δ) (hf : F_Bs_act x1 x2 x3 δ = some (0, 0, sR δ 102 0 (1, 0))) (hm : F_M_act x1 x2 x3 (sR δ 102 0 (1, 0)) = some (0, sI (sR δ 102 0 (1, 0)) 169 23 (zi 0))) :
    ∃ v q δ1 δ2, F_Bs_act x1 x2 x3 δ = some (v, q, δ1) ∧ F_M_act x1 x2 x3 δ1 = some (v, δ2) ∧ INV δ2 ∧ ((q = 0 ∧ δ2.2.2 102 0 = (1, 0)) ∨ ((q = 19 ∨ q = 20 ∨ q = 21 ∨ q = 22) ∧ δ2.2.2 102 0 = (0, q))) := by
  have F : Fr (fun f a => a = 23 ∧ f = 169) δ ((sI (sR δ 102 0 (1, 0)) 169 23 (zi 0)).1, (sI (sR δ 102 0 (1, 0)) 169 23 (zi 0)).2.1, δ.2.2) := Fr.sI (δ1 := δ) Fr.rf ⟨rfl, rfl⟩
  refine ⟨0, 0, sR δ 102 0 (1, 0), sI (sR δ 102 0 (1, 0)) 169 23 (zi 0), hf, hm, INV.act I F (fun f a e => ?_) (fun i _ => rfl) rfl rfl (rx_q (q := (1, 0)) I.2.2.2.2.2.2.2.2.2.2 (by decide)) (Or.inl ⟨rfl, sI_at⟩), Or.inl ⟨rfl, rfl⟩⟩
  have : a = 23 ∧ f = 169 := e
  omega
theorem st_act (x1 x2 x3 : Int32) : SAct INV x1 x2 x3 := by
  intro δ I
  obtain ⟨⟨v, g, h1, h2, h4⟩, -⟩ := id I
  obtain ⟨W, C, M⟩ := id h1
  have hN := W.1
  obtain ⟨b, rfl, hb⟩ := zi_ex x1
  obtain ⟨t, rfl, ht⟩ := zi_ex x2
  have C2 : CP 1 (sR δ 102 0 (1, 0)) v := C
  have M2 : MP (sI (sR δ 102 0 (1, 0)) 169 23 (zi 0)) v := M
  have cb := c_isBlock C2 W hb
  by_cases q : 0 ≤ b ∧ b < v.1
  · rw [if_pos q, zl1] at cb
    by_cases qt : 0 ≤ t ∧ t ≤ 2
    · have ck := c_kind C2 W q.1 q.2
      have cn := c_num C2 W q.1 q.2
      have hk := W.k q.1 q.2
      have hfO : ∀ (qq ci : Nat), F_Bs_familyOf (zi b) (sR δ 102 0 (1, 0)) = some (qq, F_Fa_init qq (zi b) (zi (v.2.2.1 b 1)) (nD (sR δ 102 0 (1, 0)) qq ci 4)) → F_Bs_act (zi b) (zi t) x3 δ = bd2 (F_fam qq (zi t) x3 (actD δ qq ci (zi b) (zi (v.2.2.1 b 1)))) fun v δ4 => some (v, qq, δ4) := by
        intro qq ci fam
        unfold F_Bs_act actD
        rw [bnd_eq, bnd_eq, cb, if_neg (by decide), zl0, if_neg (by rw [zi_lt (by omega) (by omega)]; omega), show (2 : Int32) = zi 2 from zl 2, if_pos (by rw [zi_le (by omega) (by omega)]; omega), b2e fam, bnd_eq]
      have hm0 : ∀ δ', MP δ' v → F_M_act (zi b) (zi t) x3 δ' = if zi t = zi 0 then bd2 (F_M_runs (zi b) x3 (sI δ' 169 23 (zi 0))) (fun v31 δ31 => some (v31, δ31)) else if zi t = zi 1 then bd2 (F_M_costs (zi b) x3 (sI δ' 169 23 (zi 0))) (fun v45 δ45 => some (v45, δ45)) else bd2 (F_M_tells (zi b) x3 (sI δ' 169 23 (zi 0))) (fun v54 δ54 => some (v54, δ54)) := by
        intro δ' M'
        have M'' : MP (sI δ' 169 23 (zi 0)) v := M'
        have mb := m_isBlock M'' W hb
        rw [if_pos q, zl1] at mb
        have mw : F_M_within (zi t) (zi 0) (zi 2) = zi 1 := by simp (disch := omega) only [F_M_within, ↓reduceIte, inb, zl, zi_add, zi_sub, zi_mul, zi_neg, zi_le_t, zi_le_f, zi_lt_t, zi_lt_f, zi_eq_t, zi_eq_f, if_true, if_false, ite_true, ite_false, true_and, and_true, false_and, and_false, not_true_eq_false, not_false_eq_true, true_or, or_true, false_or, or_false, and_self, ge_iff_le, gt_iff_lt]
        unfold F_M_act
        rw [bnd_eq, zl0, bnd_eq, mb, if_neg (by decide), show (2 : Int32) = zi 2 from zl 2, bnd_eq, mw, if_neg (by decide), zl1]
      rcases (show v.2.2.1 b 0 ≤ 9 ∨ (12 < v.2.2.1 b 0 ∧ v.2.2.1 b 0 < 19) ∨ 19 ≤ v.2.2.1 b 0 ∨ (10 ≤ v.2.2.1 b 0 ∧ v.2.2.1 b 0 ≤ 12) by omega) with hk1 | hk1 | hk1 | hk1
      · have is0 : F_Bs_isShell (zi (v.2.2.1 b 0)) = zi 0 := by simp (disch := omega) only [F_Bs_isShell, ↓reduceIte, inb, zl, zi_add, zi_sub, zi_mul, zi_neg, zi_le_t, zi_le_f, zi_lt_t, zi_lt_f, zi_eq_t, zi_eq_f, if_true, if_false, ite_true, ite_false, true_and, and_true, false_and, and_false, not_true_eq_false, not_false_eq_true, true_or, or_true, false_or, or_false, and_self, ge_iff_le, gt_iff_lt]
        have io1 : F_Bs_isOrder (zi (v.2.2.1 b 0)) = zi 1 := by simp (disch := omega) only [F_Bs_isOrder, ↓reduceIte, inb, zl, zi_add, zi_sub, zi_mul, zi_neg, zi_le_t, zi_le_f, zi_lt_t, zi_lt_f, zi_eq_t, zi_eq_f, if_true, if_false, ite_true, ite_false, true_and, and_true, false_and, and_false, not_true_eq_false, not_false_eq_true, true_or, or_true, false_or, or_false, and_self, ge_iff_le, gt_iff_lt]
        have fam : F_Bs_familyOf (zi b) (sR δ 102 0 (1, 0)) = some (19, F_Fa_init 19 (zi b) (zi (v.2.2.1 b 1)) (nD (sR δ 102 0 (1, 0)) 19 2 4)) := by
          unfold F_Bs_familyOf
          rw [bse ck, bse cn, bnd_eq, is0, if_pos (by decide), bnd_eq, io1, if_neg (by decide)]
        rcases (show t = 0 ∨ t = 1 ∨ t = 2 by omega) with rfl | rfl | rfl
        · exact act_fin I M (q := 19) (ci := 2) (m := v.2.2.1 b 1) (MF := fun δ => bd2 (F_M_runs (zi b) x3 δ) fun v δ => some (v, δ)) (Or.inl rfl) rfl (by decide) (hfO 19 2 fam) (TF.cg (fun δ _ _ => fam_19_0 x3 δ) (o_runs x3)) (fun δ' M' => by rw [hm0 δ' M', if_pos rfl]) (TM.s (mr_o W q.1 q.2 (by omega) x3) (TM.rt (fun _ _ => rfl)))
        · exact act_fin I M (q := 19) (ci := 2) (m := v.2.2.1 b 1) (MF := fun δ => bd2 (F_M_costs (zi b) x3 δ) fun v δ => some (v, δ)) (Or.inl rfl) rfl (by decide) (hfO 19 2 fam) (TF.cg (fun δ _ _ => fam_19_1 x3 δ) (o_costs x3)) (fun δ' M' => by rw [hm0 δ' M', if_neg (by decide), if_pos rfl]) (TM.s (mc_o W q.1 q.2 hk1 x3) (TM.rt (fun _ _ => rfl)))
        · exact act_fin I M (q := 19) (ci := 2) (m := v.2.2.1 b 1) (MF := fun δ => bd2 (F_M_tells (zi b) x3 δ) fun v δ => some (v, δ)) (Or.inl rfl) rfl (by decide) (hfO 19 2 fam) (TF.cg (fun δ _ _ => fam_19_2 x3 δ) (o_tells x3)) (fun δ' M' => by rw [hm0 δ' M', if_neg (by decide), if_neg (by decide)]) (TM.s (mt_a W q.1 q.2 (Or.inl hk1) (mr_o W q.1 q.2 (by omega)) (mc_o W q.1 q.2 hk1) x3) (TM.rt (fun _ _ => rfl)))
      · have is0 : F_Bs_isShell (zi (v.2.2.1 b 0)) = zi 0 := by simp (disch := omega) only [F_Bs_isShell, ↓reduceIte, inb, zl, zi_add, zi_sub, zi_mul, zi_neg, zi_le_t, zi_le_f, zi_lt_t, zi_lt_f, zi_eq_t, zi_eq_f, if_true, if_false, ite_true, ite_false, true_and, and_true, false_and, and_false, not_true_eq_false, not_false_eq_true, true_or, or_true, false_or, or_false, and_self, ge_iff_le, gt_iff_lt]
        have io0 : F_Bs_isOrder (zi (v.2.2.1 b 0)) = zi 0 := by simp (disch := omega) only [F_Bs_isOrder, ↓reduceIte, inb, zl, zi_add, zi_sub, zi_mul, zi_neg, zi_le_t, zi_le_f, zi_lt_t, zi_lt_f, zi_eq_t, zi_eq_f, if_true, if_false, ite_true, ite_false, true_and, and_true, false_and, and_false, not_true_eq_false, not_false_eq_true, true_or, or_true, false_or, or_false, and_self, ge_iff_le, gt_iff_lt]
        have ip0 : F_Bs_isSharp (zi (v.2.2.1 b 0)) = zi 0 := by simp (disch := omega) only [F_Bs_isSharp, ↓reduceIte, inb, zl, zi_add, zi_sub, zi_mul, zi_neg, zi_le_t, zi_le_f, zi_lt_t, zi_lt_f, zi_eq_t, zi_eq_f, if_true, if_false, ite_true, ite_false, true_and, and_true, false_and, and_false, not_true_eq_false, not_false_eq_true, true_or, or_true, false_or, or_false, and_self, ge_iff_le, gt_iff_lt]
        have fam : F_Bs_familyOf (zi b) (sR δ 102 0 (1, 0)) = some (20, F_Fa_init 20 (zi b) (zi (v.2.2.1 b 1)) (nD (sR δ 102 0 (1, 0)) 20 4 4)) := by
          unfold F_Bs_familyOf
          rw [bse ck, bse cn, bnd_eq, is0, if_pos (by decide), bnd_eq, io0, if_pos (by decide), bnd_eq, ip0, if_pos (by decide)]
        rcases (show t = 0 ∨ t = 1 ∨ t = 2 by omega) with rfl | rfl | rfl
        · exact act_fin I M (q := 20) (ci := 4) (m := v.2.2.1 b 1) (MF := fun δ => bd2 (F_M_runs (zi b) x3 δ) fun v δ => some (v, δ)) (Or.inr (Or.inl rfl)) rfl (by decide) (hfO 20 4 fam) (TF.cg (fun δ _ _ => fam_20_0 x3 δ) (p_runs x3)) (fun δ' M' => by rw [hm0 δ' M', if_pos rfl]) (TM.s (mr_p W q.1 q.2 hk1 x3) (TM.rt (fun _ _ => rfl)))
        · exact act_fin I M (q := 20) (ci := 4) (m := v.2.2.1 b 1) (MF := fun δ => bd2 (F_M_costs (zi b) x3 δ) fun v δ => some (v, δ)) (Or.inr (Or.inl rfl)) rfl (by decide) (hfO 20 4 fam) (TF.cg (fun δ _ _ => fam_20_1 x3 δ) (p_costs x3)) (fun δ' M' => by rw [hm0 δ' M', if_neg (by decide), if_pos rfl]) (TM.s (mc_r W q.1 q.2 hk1.1 (mr_p W q.1 q.2 hk1) x3) (TM.rt (fun _ _ => rfl)))
        · exact act_fin I M (q := 20) (ci := 4) (m := v.2.2.1 b 1) (MF := fun δ => bd2 (F_M_tells (zi b) x3 δ) fun v δ => some (v, δ)) (Or.inr (Or.inl rfl)) rfl (by decide) (hfO 20 4 fam) (TF.cg (fun δ _ _ => fam_20_2 x3 δ) (p_tells x3)) (fun δ' M' => by rw [hm0 δ' M', if_neg (by decide), if_neg (by decide)]) (TM.s (mt_a W q.1 q.2 (Or.inr hk1) (mr_p W q.1 q.2 hk1) (mc_r W q.1 q.2 hk1.1 (mr_p W q.1 q.2 hk1)) x3) (TM.rt (fun _ _ => rfl)))
      · have is0 : F_Bs_isShell (zi (v.2.2.1 b 0)) = zi 0 := by simp (disch := omega) only [F_Bs_isShell, ↓reduceIte, inb, zl, zi_add, zi_sub, zi_mul, zi_neg, zi_le_t, zi_le_f, zi_lt_t, zi_lt_f, zi_eq_t, zi_eq_f, if_true, if_false, ite_true, ite_false, true_and, and_true, false_and, and_false, not_true_eq_false, not_false_eq_true, true_or, or_true, false_or, or_false, and_self, ge_iff_le, gt_iff_lt]
        have io0 : F_Bs_isOrder (zi (v.2.2.1 b 0)) = zi 0 := by simp (disch := omega) only [F_Bs_isOrder, ↓reduceIte, inb, zl, zi_add, zi_sub, zi_mul, zi_neg, zi_le_t, zi_le_f, zi_lt_t, zi_lt_f, zi_eq_t, zi_eq_f, if_true, if_false, ite_true, ite_false, true_and, and_true, false_and, and_false, not_true_eq_false, not_false_eq_true, true_or, or_true, false_or, or_false, and_self, ge_iff_le, gt_iff_lt]
        have ip1 : F_Bs_isSharp (zi (v.2.2.1 b 0)) = zi 1 := by simp (disch := omega) only [F_Bs_isSharp, ↓reduceIte, inb, zl, zi_add, zi_sub, zi_mul, zi_neg, zi_le_t, zi_le_f, zi_lt_t, zi_lt_f, zi_eq_t, zi_eq_f, if_true, if_false, ite_true, ite_false, true_and, and_true, false_and, and_false, not_true_eq_false, not_false_eq_true, true_or, or_true, false_or, or_false, and_self, ge_iff_le, gt_iff_lt]
        have fam : F_Bs_familyOf (zi b) (sR δ 102 0 (1, 0)) = some (21, F_Fa_init 21 (zi b) (zi (v.2.2.1 b 1)) (nD (sR δ 102 0 (1, 0)) 21 6 4)) := by
          unfold F_Bs_familyOf
          rw [bse ck, bse cn, bnd_eq, is0, if_pos (by decide), bnd_eq, io0, if_pos (by decide), bnd_eq, ip1, if_neg (by decide)]
        rcases (show t = 0 ∨ t = 1 ∨ t = 2 by omega) with rfl | rfl | rfl
        · exact act_fin I M (q := 21) (ci := 6) (m := v.2.2.1 b 1) (MF := fun δ => bd2 (F_M_runs (zi b) x3 δ) fun v δ => some (v, δ)) (Or.inr (Or.inr (Or.inl rfl))) rfl (by decide) (hfO 21 6 fam) (TF.cg (fun δ _ _ => fam_21_0 x3 δ) (s_runs x3)) (fun δ' M' => by rw [hm0 δ' M', if_pos rfl]) (TM.s (mr_s W q.1 q.2 hk1 x3) (TM.rt (fun _ _ => rfl)))
        · exact act_fin I M (q := 21) (ci := 6) (m := v.2.2.1 b 1) (MF := fun δ => bd2 (F_M_costs (zi b) x3 δ) fun v δ => some (v, δ)) (Or.inr (Or.inr (Or.inl rfl))) rfl (by decide) (hfO 21 6 fam) (TF.cg (fun δ _ _ => fam_21_1 x3 δ) (s_costs x3)) (fun δ' M' => by rw [hm0 δ' M', if_neg (by decide), if_pos rfl]) (TM.s (mc_r W q.1 q.2 (by omega) (mr_s W q.1 q.2 hk1) x3) (TM.rt (fun _ _ => rfl)))
        · exact act_fin I M (q := 21) (ci := 6) (m := v.2.2.1 b 1) (MF := fun δ => bd2 (F_M_tells (zi b) x3 δ) fun v δ => some (v, δ)) (Or.inr (Or.inr (Or.inl rfl))) rfl (by decide) (hfO 21 6 fam) (TF.cg (fun δ _ _ => fam_21_2 x3 δ) (s_tells x3)) (fun δ' M' => by rw [hm0 δ' M', if_neg (by decide), if_neg (by decide)]) (TM.s (mt_s W q.1 q.2 hk1 (mr_s W q.1 q.2 hk1) (mc_r W q.1 q.2 (by omega) (mr_s W q.1 q.2 hk1)) x3) (TM.rt (fun _ _ => rfl)))
      · have is1 : F_Bs_isShell (zi (v.2.2.1 b 0)) = zi 1 := by simp (disch := omega) only [F_Bs_isShell, ↓reduceIte, inb, zl, zi_add, zi_sub, zi_mul, zi_neg, zi_le_t, zi_le_f, zi_lt_t, zi_lt_f, zi_eq_t, zi_eq_f, if_true, if_false, ite_true, ite_false, true_and, and_true, false_and, and_false, not_true_eq_false, not_false_eq_true, true_or, or_true, false_or, or_false, and_self, ge_iff_le, gt_iff_lt]
        have fam : F_Bs_familyOf (zi b) (sR δ 102 0 (1, 0)) = some (22, F_Fa_init 22 (zi b) (zi (v.2.2.1 b 1)) (nD (sR δ 102 0 (1, 0)) 22 8 4)) := by
          unfold F_Bs_familyOf
          rw [bse ck, bse cn, bnd_eq, is1, if_neg (by decide)]
        rcases (show t = 0 ∨ t = 1 ∨ t = 2 by omega) with rfl | rfl | rfl
        · exact act_fin I M (q := 22) (ci := 8) (m := v.2.2.1 b 1) (MF := fun δ => bd2 (F_M_runs (zi b) x3 δ) fun v δ => some (v, δ)) (Or.inr (Or.inr (Or.inr rfl))) rfl (by decide) (hfO 22 8 fam) (TF.cg (fun δ _ _ => fam_22_0 x3 δ) (h_runs x3)) (fun δ' M' => by rw [hm0 δ' M', if_pos rfl]) (TM.s (mr_o W q.1 q.2 hk1.2 x3) (TM.rt (fun _ _ => rfl)))
        · exact act_fin I M (q := 22) (ci := 8) (m := v.2.2.1 b 1) (MF := fun δ => bd2 (F_M_costs (zi b) x3 δ) fun v δ => some (v, δ)) (Or.inr (Or.inr (Or.inr rfl))) rfl (by decide) (hfO 22 8 fam) (TF.cg (fun δ _ _ => fam_22_1 x3 δ) (h_costs x3)) (fun δ' M' => by rw [hm0 δ' M', if_neg (by decide), if_pos rfl]) (TM.s (mc_h W q.1 q.2 hk1 x3) (TM.rt (fun _ _ => rfl)))
        · exact act_fin I M (q := 22) (ci := 8) (m := v.2.2.1 b 1) (MF := fun δ => bd2 (F_M_tells (zi b) x3 δ) fun v δ => some (v, δ)) (Or.inr (Or.inr (Or.inr rfl))) rfl (by decide) (hfO 22 8 fam) (TF.cg (fun δ _ _ => fam_22_2 x3 δ) (h_tells x3)) (fun δ' M' => by rw [hm0 δ' M', if_neg (by decide), if_neg (by decide)]) (TM.s (mt_h W q.1 q.2 hk1 (mr_o W q.1 q.2 hk1.2) (mc_h W q.1 q.2 hk1) x3) (TM.rt (fun _ _ => rfl)))
    · have mw : F_M_within (zi t) (zi 0) (zi 2) = zi 0 := by
        by_cases q0 : t < 0
        · simp (disch := omega) only [F_M_within, ↓reduceIte, inb, zl, zi_add, zi_sub, zi_mul, zi_neg, zi_le_t, zi_le_f, zi_lt_t, zi_lt_f, zi_eq_t, zi_eq_f, if_true, if_false, ite_true, ite_false, true_and, and_true, false_and, and_false, not_true_eq_false, not_false_eq_true, true_or, or_true, false_or, or_false, and_self, ge_iff_le, gt_iff_lt]
        · simp (disch := omega) only [F_M_within, ↓reduceIte, inb, zl, zi_add, zi_sub, zi_mul, zi_neg, zi_le_t, zi_le_f, zi_lt_t, zi_lt_f, zi_eq_t, zi_eq_f, if_true, if_false, ite_true, ite_false, true_and, and_true, false_and, and_false, not_true_eq_false, not_false_eq_true, true_or, or_true, false_or, or_false, and_self, ge_iff_le, gt_iff_lt]
      have mb := m_isBlock M2 W hb
      rw [if_pos q, zl1] at mb
      refine act_no I ?_ ?_
      · by_cases q0 : t < 0
        · simp (disch := omega) only [F_Bs_act, ↓bnd_eq, bd2, bn2, Option.bind_some, Option.bind_none, cb, ↓reduceIte, inb, zl, zi_add, zi_sub, zi_mul, zi_neg, zi_le_t, zi_le_f, zi_lt_t, zi_lt_f, zi_eq_t, zi_eq_f, if_true, if_false, ite_true, ite_false, true_and, and_true, false_and, and_false, not_true_eq_false, not_false_eq_true, true_or, or_true, false_or, or_false, and_self, ge_iff_le, gt_iff_lt]
        · simp (disch := omega) only [F_Bs_act, ↓bnd_eq, bd2, bn2, Option.bind_some, Option.bind_none, cb, ↓reduceIte, inb, zl, zi_add, zi_sub, zi_mul, zi_neg, zi_le_t, zi_le_f, zi_lt_t, zi_lt_f, zi_eq_t, zi_eq_f, if_true, if_false, ite_true, ite_false, true_and, and_true, false_and, and_false, not_true_eq_false, not_false_eq_true, true_or, or_true, false_or, or_false, and_self, ge_iff_le, gt_iff_lt]
      · simp (disch := omega) only [F_M_act, ↓bnd_eq, bd2, bn2, Option.bind_some, Option.bind_none, mb, mw, ↓reduceIte, inb, zl, zi_add, zi_sub, zi_mul, zi_neg, zi_le_t, zi_le_f, zi_lt_t, zi_lt_f, zi_eq_t, zi_eq_f, if_true, if_false, ite_true, ite_false, true_and, and_true, false_and, and_false, not_true_eq_false, not_false_eq_true, true_or, or_true, false_or, or_false, and_self, ge_iff_le, gt_iff_lt]
  · rw [if_neg q, zl0] at cb
    have mb := m_isBlock M2 W hb
    rw [if_neg q, zl0] at mb
    refine act_no I ?_ ?_
    · simp (disch := omega) only [F_Bs_act, ↓bnd_eq, bd2, bn2, Option.bind_some, Option.bind_none, cb, ↓reduceIte, inb, zl, zi_add, zi_sub, zi_mul, zi_neg, zi_le_t, zi_le_f, zi_lt_t, zi_lt_f, zi_eq_t, zi_eq_f, if_true, if_false, ite_true, ite_false, true_and, and_true, false_and, and_false, not_true_eq_false, not_false_eq_true, true_or, or_true, false_or, or_false, and_self, ge_iff_le, gt_iff_lt]
    · simp (disch := omega) only [F_M_act, ↓bnd_eq, bd2, bn2, Option.bind_some, Option.bind_none, mb, ↓reduceIte, inb, zl, zi_add, zi_sub, zi_mul, zi_neg, zi_le_t, zi_le_f, zi_lt_t, zi_lt_f, zi_eq_t, zi_eq_f, if_true, if_false, ite_true, ite_false, true_and, and_true, false_and, and_false, not_true_eq_false, not_false_eq_true, true_or, or_true, false_or, or_false, and_self, ge_iff_le, gt_iff_lt]
