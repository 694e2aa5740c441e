/-! broken on the class's side, part by part (wip/whole/pure) -/
def WB2 (w : Nat) (n : Int) (δc δm : Dl) : Prop := ∀ q, 0 ≤ q → q < 4 → ∃ m : Int, (0 ≤ m ∧ m < 16) ∧ δc.2.1 81 w (zi q) = zi m ∧ ∀ i, 0 ≤ i → i < 4 → bI m i = if i < n ∧ δm.2.1 156 23 (zi i) = zi q then zi 1 else zi 0
theorem sub_iff {a b : Int} (ha : 0 ≤ a ∧ a < 16) (hb : 0 ≤ b ∧ b < 16) : (zi a &&& (zi b ^^^ zi (-1))) = zi 0 ↔ ∀ i, 0 ≤ i → i < 4 → bI a i = zi 1 → bI b i = zi 1 := by
  have h := msk_sub a.toNat (by omega) b.toNat (by omega)
  rw [Int.toNat_of_nonneg ha.1, Int.toNat_of_nonneg hb.1] at h
  have h' : (zi a &&& (zi b ^^^ zi (-1))) = zi 0 ↔ mskB a b = true := by rw [← h, decide_eq_true_iff]
  rw [h']
  unfold mskB
  rw [decide_eq_true_iff]
  refine ⟨fun g i i0 i4 e => ?_, fun g c hc e => g c (by omega) (by omega) e⟩
  have := g i.toNat (by omega)
  rw [Int.toNat_of_nonneg i0] at this
  exact this e
theorem dis_iff {a b : Int} (ha : 0 ≤ a ∧ a < 16) (hb : 0 ≤ b ∧ b < 16) : (zi a &&& zi b) = zi 0 ↔ ∀ i, 0 ≤ i → i < 4 → bI a i = zi 1 → bI b i = zi 0 := by
  have h := msk_dis a.toNat (by omega) b.toNat (by omega)
  rw [Int.toNat_of_nonneg ha.1, Int.toNat_of_nonneg hb.1] at h
  have h' : (zi a &&& zi b) = zi 0 ↔ mskN a b = true := by rw [← h, decide_eq_true_iff]
  rw [h']
  unfold mskN
  rw [decide_eq_true_iff]
  refine ⟨fun g i i0 i4 e => ?_, fun g c hc e => g c (by omega) (by omega) e⟩
  have := g i.toNat (by omega)
  rw [Int.toNat_of_nonneg i0] at this
  exact this e
section BR
variable {δc δm : Dl} {w : Nat} {n M : Int} {wh : Int → Int}
theorem wb_bit (B : WB2 w n δc δm) (hn : n ≤ 4) (hwh : ∀ i, 0 ≤ i → i < n → (0 ≤ wh i ∧ wh i ≤ 3) ∧ δm.2.1 156 23 (zi i) = zi (wh i)) {q : Int} (hq : 0 ≤ q ∧ q < 4) : ∃ m : Int, (0 ≤ m ∧ m < 16) ∧ δc.2.1 81 w (zi q) = zi m ∧ ∀ i, 0 ≤ i → i < 4 → (bI m i = zi 1 ↔ i < n ∧ wh i = q) := by
  obtain ⟨m, h1, h2, h3⟩ := B q hq.1 hq.2
  refine ⟨m, h1, h2, fun i i0 i4 => ?_⟩
  rw [h3 i i0 i4]
  by_cases c : i < n
  · obtain ⟨w1, w2⟩ := hwh i i0 c
    by_cases d : wh i = q
    · rw [if_pos ⟨c, by rw [w2, d]⟩]; exact ⟨fun _ => ⟨c, d⟩, fun _ => rfl⟩
    · rw [if_neg (fun e => d (by rw [w2] at e; exact zi_inj e.2 (by omega) (by omega)))]
      exact ⟨fun e => absurd e (by decide), fun e => absurd e.2 d⟩
  · rw [if_neg (fun e => c e.1)]
    exact ⟨fun e => absurd e (by decide), fun e => absurd e.1 c⟩
theorem lk_broken (B : WB2 w n δc δm) (hn : n ≤ 4) (hM : 0 ≤ M ∧ M < 16) (hwh : ∀ i, 0 ≤ i → i < n → (0 ≤ wh i ∧ wh i ≤ 3) ∧ δm.2.1 156 23 (zi i) = zi (wh i)) :
    (F_Wi_isBroken w (zi M) δc = some (zi 0) ∧ ∀ i, 0 ≤ i → i < n → ¬ ((wh i = 1 ∧ bI M i = zi 0) ∨ (wh i = 2 ∧ bI M i = zi 1))) ∨ (F_Wi_isBroken w (zi M) δc = some (zi 1) ∧ ∃ i, (0 ≤ i ∧ i < n) ∧ ((wh i = 1 ∧ bI M i = zi 0) ∨ (wh i = 2 ∧ bI M i = zi 1))) := by
  obtain ⟨m1, a1, a2, a3⟩ := wb_bit B hn hwh (q := 1) (by decide)
  obtain ⟨m2, b1, b2, b3⟩ := wb_bit B hn hwh (q := 2) (by decide)
  by_cases c1 : ∀ i, 0 ≤ i → i < 4 → bI m1 i = zi 1 → bI M i = zi 1
  · have e1 := (sub_iff a1 hM).mpr c1
    by_cases c2 : ∀ i, 0 ≤ i → i < 4 → bI m2 i = zi 1 → bI M i = zi 0
    · have e2 := (dis_iff b1 hM).mpr c2
      left
      refine ⟨?_, fun i i0 i1 hb => ?_⟩
      · unfold F_Wi_isBroken
        rw [show (1 : Int32) = zi 1 from zl 1, show (2 : Int32) = zi 2 from zl 2, show -zi 1 = zi (-1) from zi_neg 1, show (0 : Int32) = zi 0 from zl 0, a2, b2, if_pos e1, if_pos e2]
      · rcases hb with ⟨h1, h2⟩ | ⟨h1, h2⟩
        · have := c1 i i0 (by omega) ((a3 i i0 (by omega)).mpr ⟨i1, h1⟩)
          rw [h2] at this
          exact absurd this (by decide)
        · have := c2 i i0 (by omega) ((b3 i i0 (by omega)).mpr ⟨i1, h1⟩)
          rw [h2] at this
          exact absurd this (by decide)
    · right
      refine ⟨?_, ?_⟩
      · unfold F_Wi_isBroken
        rw [show (1 : Int32) = zi 1 from zl 1, show (2 : Int32) = zi 2 from zl 2, show -zi 1 = zi (-1) from zi_neg 1, show (0 : Int32) = zi 0 from zl 0, a2, b2, if_pos e1, if_neg (fun e => c2 ((dis_iff b1 hM).mp e))]
      · refine Classical.byContradiction (fun hne => c2 (fun i i0 i4 hb => ?_))
        rcases bI01 hM ⟨i0, i4⟩ with e | e
        · exact e
        · obtain ⟨i1, h1⟩ := (b3 i i0 i4).mp hb
          exact absurd ⟨i, ⟨i0, i1⟩, Or.inr ⟨h1, e⟩⟩ hne
  · right
    refine ⟨?_, ?_⟩
    · unfold F_Wi_isBroken
      rw [show (1 : Int32) = zi 1 from zl 1, show -zi 1 = zi (-1) from zi_neg 1, show (0 : Int32) = zi 0 from zl 0, a2, if_neg (fun e => c1 ((sub_iff a1 hM).mp e))]
    · refine Classical.byContradiction (fun hne => c1 (fun i i0 i4 hb => ?_))
      rcases bI01 hM ⟨i0, i4⟩ with e | e
      · obtain ⟨i1, h1⟩ := (a3 i i0 i4).mp hb
        exact absurd ⟨i, ⟨i0, i1⟩, Or.inl ⟨h1, e⟩⟩ hne
      · exact e
end BR
