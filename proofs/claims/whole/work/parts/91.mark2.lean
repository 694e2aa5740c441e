/-! lostIn and loses, whole (wip/whole/pure) -/
section ML2
variable {v : PG} {g : SG} {k x n : Int} {w o : Nat} {wh : Int → Int}
theorem lostA_no {wh r t : Int} (h : ¬ ((wh = 1 ∧ r = 0) ∨ (wh = 2 ∧ r = 1))) : lostA wh r (-1) t = -1 := by
  unfold lostA
  rw [if_neg (fun e => h e.1)]
theorem lostN_lt {wh r o L t x : Int} (h : t ≠ x) : lostN wh r o L t x = lostA wh r L t := by
  unfold lostN
  rw [if_neg (fun e => h e.1)]
/-- the class's answer at the end, when nothing is broken -/
theorem lk_end {c m : Dl} {M s2 : Int} {kk : Int32 → Int32 → Dl → Option (Int32 × Dl)} {so : Int} (hn : 0 ≤ n ∧ n ≤ 4) (hx : 0 ≤ x ∧ x ≤ 40) (hS : WS w n wh c m) (hM : 0 ≤ M ∧ M < 16) (hs2 : 0 ≤ s2 ∧ s2 < 16) (eM : F_Wi_partsSo w 11 c = some (zi M)) (eo : zi so ||| zi M = zi s2) (eb : F_Wi_isBroken w (zi M) c = some (zi 0)) :
    (F_Wi_lostIn_11_b w 11 o (zi x) kk (zi so) (zi x) c = some (zi (-1), c) ∧ ∀ i, 0 ≤ i → i < n → ¬ ((wh i = 0 ∧ oI M i = 0) ∨ (wh i = 3 ∧ oI s2 i = 0))) ∨ (F_Wi_lostIn_11_b w 11 o (zi x) kk (zi so) (zi x) c = some (zi x, c) ∧ ∃ i, (0 ≤ i ∧ i < n) ∧ ((wh i = 0 ∧ oI M i = 0) ∨ (wh i = 3 ∧ oI s2 i = 0))) := by
  obtain ⟨m0, a1, a2, a3⟩ := wb_bit hS.2.2.2.1 hn.2 hS.2.2.2.2 (q := 0) (by decide)
  obtain ⟨m3, b1, b2, b3⟩ := wb_bit hS.2.2.2.1 hn.2 hS.2.2.2.2 (q := 3) (by decide)
  have o1 : ∀ {M' i : Int}, (0 ≤ M' ∧ M' < 16) → 0 ≤ i → i < 4 → (bI M' i = zi 1 ↔ ¬ oI M' i = 0) := fun {M' i} _ _ _ => by
    unfold oI
    by_cases q : bI M' i = zi 1
    · rw [if_pos q]; exact ⟨fun _ => by decide, fun _ => q⟩
    · rw [if_neg q]; exact ⟨fun e => absurd e q, fun e => absurd rfl e⟩
  have n1 : (-1 : Int32) = zi (-1) := by decide
  by_cases c1 : ∀ i, 0 ≤ i → i < 4 → bI m0 i = zi 1 → bI M i = zi 1
  · have e1 := (sub_iff a1 hM).mpr c1
    by_cases c2 : ∀ i, 0 ≤ i → i < 4 → bI m3 i = zi 1 → bI s2 i = zi 1
    · have e2 := (sub_iff b1 hs2).mpr c2
      left
      refine ⟨?_, fun i i0 i1 hb => ?_⟩
      · unfold F_Wi_lostIn_11_b
        rw [if_pos (by rw [zi_le (by omega) (by omega)]; omega), eM, Option.bind_some, eb, Option.bind_some, if_pos (by decide), zl0, n1, a2, show (3 : Int32) = zi 3 from zl 3, b2, eo, if_pos e1, if_pos e2]
      · rcases hb with ⟨h1, h2⟩ | ⟨h1, h2⟩
        · exact ((o1 hM i0 (by omega)).mp (c1 i i0 (by omega) ((a3 i i0 (by omega)).mpr ⟨i1, h1⟩))) h2
        · exact ((o1 hs2 i0 (by omega)).mp (c2 i i0 (by omega) ((b3 i i0 (by omega)).mpr ⟨i1, h1⟩))) h2
    · right
      refine ⟨?_, ?_⟩
      · unfold F_Wi_lostIn_11_b
        rw [if_pos (by rw [zi_le (by omega) (by omega)]; omega), eM, Option.bind_some, eb, Option.bind_some, if_pos (by decide), zl0, n1, a2, show (3 : Int32) = zi 3 from zl 3, b2, eo, if_pos e1, if_neg (fun e => c2 ((sub_iff b1 hs2).mp e))]
      · refine Classical.byContradiction (fun hne => c2 (fun i i0 i4 hb => ?_))
        obtain ⟨i1, h1⟩ := (b3 i i0 i4).mp hb
        refine (o1 hs2 i0 i4).mpr (fun e => hne ⟨i, ⟨i0, i1⟩, Or.inr ⟨h1, e⟩⟩)
  · right
    refine ⟨?_, ?_⟩
    · unfold F_Wi_lostIn_11_b
      rw [if_pos (by rw [zi_le (by omega) (by omega)]; omega), eM, Option.bind_some, eb, Option.bind_some, if_pos (by decide), zl0, n1, a2, if_neg (fun e => c1 ((sub_iff a1 hM).mp e))]
    · refine Classical.byContradiction (fun hne => c1 (fun i i0 i4 hb => ?_))
      obtain ⟨i1, h1⟩ := (a3 i i0 i4).mp hb
      refine (o1 hM i0 i4).mpr (fun e => hne ⟨i, ⟨i0, i1⟩, Or.inl ⟨h1, e⟩⟩)
theorem lk_lost_l (W : PW v) (wg : WG g) (hw : w = 16 ∨ w = 17) (hn : 0 ≤ n ∧ n ≤ 4) (hx : 0 ≤ x ∧ x ≤ 40) : ∀ (j : Nat) (t so : Int) (fu f2 : Nat) (c m : Dl), t + j = x → j < fu → j < f2 → 0 ≤ t → RR0 11 12 13 v g k t (6 * t) c m → WS w n wh c m → (0 ≤ so ∧ so < 16) → (∀ i, 0 ≤ i → i < n → m.2.1 183 23 (zi i) = zi (-1) ∧ m.2.1 184 23 (zi i) = zi (oI so i)) →
    ∃ (r : Int) (c' m' m2 : Dl), (-1 ≤ r ∧ r ≤ 40) ∧ F_Wi_lostIn_11 w 11 o (zi x) fu (zi so) (zi t) c = some (zi r, c') ∧ F_M_looks (zi x) m = some m' ∧ F_M_loses_39 (zi k) (zi x) f2 (zi t) m' = some (zi r, m2) ∧ Fr (SBc 11 13) c c' ∧ Fr SLm m m2 := by
  intro j
  induction j with
  | zero =>
    intro t so fu f2 c m hj hf hf2 t0 H hS hso hL
    obtain ⟨fu, rfl⟩ : ∃ q, fu = q + 1 := ⟨fu - 1, by omega⟩
    obtain ⟨M, m1, s2, hM, e1, e4, F4, hs2, eo, on, r5, H2, S2⟩ := lk_look (L := fun _ => -1) (so := so) wg hn hS H (by omega) hx hso (fun i i0 i1 => ⟨by omega, hL i i0 i1⟩)
    have ht : t = x := by omega
    subst ht
    have fin : ∀ (r : Int) (L : Int → Int), (-1 ≤ r ∧ r ≤ 40) → (∀ i, 0 ≤ i → i < n → (-1 ≤ L i ∧ L i ≤ 40) ∧ m1.2.1 183 23 (zi i) = zi (L i)) → mnL L n.toNat 0 (-1) = r → F_M_loses_39 (zi k) (zi t) f2 (zi t) m1 = some (zi r, m1) := by
      intro r L hr hL2 em
      obtain ⟨f2, rfl⟩ : ∃ q, f2 = q + 1 := ⟨f2 - 1, by omega⟩
      have e := m_l64 (x1 := zi k) (x2 := zi t) (L := L) hn S2.2.1 hL2 n.toNat 0 (-1) FU (by omega) (by omega) (by unfold FU; omega) (by omega)
      rw [em] at e
      rw [← e]
      show F_M_loses_39_b (zi k) (zi t) (F_M_loses_39 (zi k) (zi t) f2) (zi t) m1 = _
      unfold F_M_loses_39_b
      rw [if_pos (by rw [zi_le (by omega) (by omega)]; omega)]
      rfl
    have lN : ∀ i, -1 ≤ lostN (wh i) (oI M i) (oI so i) (-1) t t ∧ lostN (wh i) (oI M i) (oI so i) (-1) t t ≤ 40 ∧ (lostN (wh i) (oI M i) (oI so i) (-1) t t = -1 ∨ t ≤ lostN (wh i) (oI M i) (oI so i) (-1) t t) := fun i => by
      unfold lostN lostA
      split
      · omega
      · split <;> omega
    have lR : ∀ i, 0 ≤ i → i < n → (-1 ≤ lostN (wh i) (oI M i) (oI so i) (-1) t t ∧ lostN (wh i) (oI M i) (oI so i) (-1) t t ≤ 40) ∧ m1.2.1 183 23 (zi i) = zi (lostN (wh i) (oI M i) (oI so i) (-1) t t) := fun i i0 i1 => ⟨⟨(lN i).1, (lN i).2.1⟩, (r5 i i0 i1).1⟩
    rcases lk_broken hS.2.2.2.1 hn.2 hM hS.2.2.2.2 with ⟨b1, b2⟩ | ⟨b1, i, hi, b2⟩
    · rcases lk_end (o := o) (kk := F_Wi_lostIn_11 w 11 o (zi t) fu) hn hx hS hM hs2 e1 eo b1 with ⟨d1, d2⟩ | ⟨d1, i, hi, d2⟩
      · refine ⟨-1, c, m1, m1, by omega, d1, e4, fin (-1) _ (by omega) lR ?_, Fr.rf, slm183 F4⟩
        refine mnL_no _ _ _ (fun i i0 i1 => ?_)
        have h2 := d2 i i0 (by omega)
        have h1 := b2 i i0 (by omega)
        have hb := oI_e hM (i := i) ⟨i0, by omega⟩
        rw [hb.1] at h1
        rw [on i i0 (by omega)] at h2
        unfold lostN
        rw [if_neg (fun e => h2 e.2)]
        refine lostA_no (fun e => h1 ?_)
        rcases e with ⟨e1, e2⟩ | ⟨e1, e2⟩ <;> rw [e2]
        · exact Or.inl ⟨e1, rfl⟩
        · exact Or.inr ⟨e1, rfl⟩
      · refine ⟨t, c, m1, m1, by omega, d1, e4, fin t _ (by omega) lR ?_, Fr.rf, slm183 F4⟩
        refine mnL_is t0 _ _ _ (fun i _ _ => (lN i).2.2) (Or.inl rfl) (Or.inr ⟨i, ⟨hi.1, by omega⟩, ?_⟩)
        rw [on i hi.1 (by omega)] at d2
        unfold lostN
        rw [if_pos ⟨rfl, d2⟩]
    · refine ⟨t, c, m1, m1, by omega, ?_, e4, fin t _ (by omega) lR ?_, Fr.rf, slm183 F4⟩
      · show F_Wi_lostIn_11_b w 11 o (zi t) (F_Wi_lostIn_11 w 11 o (zi t) fu) (zi so) (zi t) c = _
        unfold F_Wi_lostIn_11_b
        rw [if_pos (by rw [zi_le (by omega) (by omega)]; omega), e1, Option.bind_some, b1, Option.bind_some, if_neg (by decide)]
      · refine mnL_is t0 _ _ _ (fun i _ _ => (lN i).2.2) (Or.inl rfl) (Or.inr ⟨i, ⟨hi.1, by omega⟩, ?_⟩)
        have hb := oI_e hM (i := i) ⟨hi.1, by omega⟩
        have z01 : ¬ zi 0 = zi 1 := by decide
        have z10 : ¬ zi 1 = zi 0 := by decide
        unfold lostN lostA
        rcases b2 with ⟨w1, w2⟩ | ⟨w1, w2⟩
        · rw [hb.1] at w2
          rcases hb.2 with e | e <;> rw [e] at w2
          · rw [if_neg (by omega), if_pos ⟨Or.inl ⟨w1, e⟩, rfl⟩]
          · exact absurd w2 z10
        · rw [hb.1] at w2
          rcases hb.2 with e | e <;> rw [e] at w2
          · exact absurd w2 z01
          · rw [if_neg (by omega), if_pos ⟨Or.inr ⟨w1, e⟩, rfl⟩]
  | succ j ih =>
    intro t so fu f2 c m hj hf hf2 t0 H hS hso hL
    obtain ⟨fu, rfl⟩ : ∃ q, fu = q + 1 := ⟨fu - 1, by omega⟩
    obtain ⟨M, m1, s2, hM, e1, e4, F4, hs2, eo, on, r5, H2, S2⟩ := lk_look (L := fun _ => -1) (so := so) wg hn hS H (by omega) hx hso (fun i i0 i1 => ⟨by omega, hL i i0 i1⟩)
    rcases lk_broken hS.2.2.2.1 hn.2 hM hS.2.2.2.2 with ⟨b1, b2⟩ | ⟨b1, i, hi, b2⟩
    · obtain ⟨f2, rfl⟩ : ∃ q, f2 = q + 1 := ⟨f2 - 1, by omega⟩
      obtain ⟨c2, m2, t1, t2, H3, S3, r3, r4, F1, F2⟩ := lk_tick2 W wg hw S2 H2 (by omega)
      obtain ⟨r, c', m', m3, hr, g1, g2, g3, G1, G2⟩ := ih (t + 1) s2 fu f2 c2 m2 (by omega) (by omega) (by omega) (by omega) H3 S3 hs2 (fun i i0 i1 => by
        have h1 := b2 i i0 i1
        have hb := oI_e hM (i := i) ⟨i0, by omega⟩
        rw [hb.1] at h1
        rw [r3, r4]
        refine ⟨?_, (r5 i i0 i1).2⟩
        rw [(r5 i i0 i1).1, lostN_lt (by omega), lostA_no (fun e => h1 (by
          rcases e with ⟨e1, e2⟩ | ⟨e1, e2⟩ <;> rw [e2]
          · exact Or.inl ⟨e1, rfl⟩
          · exact Or.inr ⟨e1, rfl⟩))])
      refine ⟨r, c', m1, m3, hr, ?_, e4, ?_, (slcR F1).tr G1, ((slm183 F4).tr (slmR F2)).tr G2⟩
      · rw [← g1]
        show F_Wi_lostIn_11_b w 11 o (zi x) (F_Wi_lostIn_11 w 11 o (zi x) fu) (zi so) (zi t) c = _
        unfold F_Wi_lostIn_11_b
        rw [if_neg (by rw [zi_le (by omega) (by omega)]; omega), e1, Option.bind_some, b1, Option.bind_some, if_pos (by decide), t1, Option.bind_some, eo, show (1 : Int32) = zi 1 from zl 1, zi_add]
      · rw [← g3]
        simp (disch := omega) only [F_M_loses_39, F_M_loses_39_b, ↓bse t2, ↓bse g2, ↓reduceIte, inb, zl, zi_add, zi_sub, zi_mul, zi_neg, zi_le_t, zi_le_f, zi_lt_t, zi_lt_f, zi_eq_t, zi_eq_f, if_true, if_false, ite_true, ite_false, true_and, and_true, false_and, and_false, not_true_eq_false, not_false_eq_true, true_or, or_true, false_or, or_false, and_self, ge_iff_le, gt_iff_lt]
    · have hb := oI_e hM (i := i) ⟨hi.1, by omega⟩
      have z01 : ¬ zi 0 = zi 1 := by decide
      have z10 : ¬ zi 1 = zi 0 := by decide
      have hwi : ((wh i = 1 ∧ oI M i = 0) ∨ (wh i = 2 ∧ oI M i = 1)) := by
        rcases b2 with ⟨w1, w2⟩ | ⟨w1, w2⟩
        · rw [hb.1] at w2
          rcases hb.2 with e | e
          · exact Or.inl ⟨w1, e⟩
          · rw [e] at w2; exact absurd w2 z10
        · rw [hb.1] at w2
          rcases hb.2 with e | e
          · rw [e] at w2; exact absurd w2 z01
          · exact Or.inr ⟨w1, e⟩
      obtain ⟨m', g1, G1⟩ := lk_goes (t0 := t) W wg hw hn hx (j + 1) t s2 f2 c m1 (fun i => lostN (wh i) (oI M i) (oI so i) (-1) t x) hj (by omega) ⟨t0, Int.le_refl _⟩ H2 S2 hs2 (fun i i0 i1 => ⟨by
        show (lostN _ _ _ _ _ _ = -1 ∨ t ≤ lostN _ _ _ _ _ _) ∧ lostN _ _ _ _ _ _ ≤ 40
        unfold lostN lostA
        split
        · omega
        · split <;> omega, r5 i i0 i1⟩) ⟨i, hi, by
        show lostN _ _ _ _ _ _ = t
        rw [lostN_lt (by omega)]
        unfold lostA
        rw [if_pos ⟨hwi, rfl⟩], by omega⟩
      refine ⟨t, c, m1, m', by omega, ?_, e4, g1, Fr.rf, (slm183 F4).tr G1⟩
      show F_Wi_lostIn_11_b w 11 o (zi x) (F_Wi_lostIn_11 w 11 o (zi x) fu) (zi so) (zi t) c = _
      unfold F_Wi_lostIn_11_b
      rw [if_neg (by rw [zi_le (by omega) (by omega)]; omega), e1, Option.bind_some, b1, Option.bind_some, if_neg (by decide)]
/-- a kept stage, marked: when it is lost (or -1), on both sides -/
theorem lk_loses {c m : Dl} (W : PW v) (wg : WG g) (hw : w = 16 ∨ w = 17) (hn : 0 ≤ n ∧ n ≤ 4) (hx : 0 ≤ x ∧ x ≤ 40) (hk : 0 ≤ k ∧ k ≤ 4) (ho : o ≠ 13) (C : CP 12 c v) (G : CG o c g) (M : MP m v) (Gm : MG k m g) (hS : WS w n wh c m) :
    ∃ (r : Int) (c' m' : Dl), (-1 ≤ r ∧ r ≤ 40) ∧ F_Wi_lostIn w 11 o (zi x) c = some (zi r, c') ∧ F_M_loses (zi k) (zi x) m = some (zi r, m') ∧ Fr (SBc 11 13) c c' ∧ Fr SLm m m' := by
  obtain ⟨m1, e1, F1, r1⟩ := m_l2 (x1 := zi k) (x2 := zi x) 4 0 FU m (by omega) (by omega) (by unfold FU; omega)
  have n183 : ∀ f, ¬ (183 ≤ f ∧ f ≤ 184) → ¬ S183 f 23 := fun f h e => h e.2
  obtain ⟨c2, m2, e2, e3, H, -, F2, F3⟩ := lk_begin (a := 11) W wg w4011 wsr11 ho C (M.fr F1 (fun f h1 h2 => n183 f (by omega))) G (Gm.fr F1 (fun f h1 h2 => n183 f (by omega))) hk
  have S1 : WS w n wh c2 m2 := (hS.fr (Fr.rf (S := fun _ _ => False)) F1 (fun f q1 q2 e => e) (fun f h1 h2 => n183 f (by omega))).fr F2 F3 (fun f q1 q2 e => by
    have : (w = 13 ∧ 70 ≤ f ∧ f ≤ 79) ∨ (w = 11 ∧ 42 ≤ f ∧ f ≤ 53) := e
    omega) (fun f q1 q2 e => by
    have : (131 ≤ f ∧ f ≤ 151) ∨ f = 174 := e
    omega)
  obtain ⟨r, c', m', m3, hr, g1, g2, g3, G1, G2⟩ := lk_lost_l (o := o) W wg hw hn hx x.toNat 0 0 FU FU c2 m2 (by omega) (by unfold FU; omega) (by unfold FU; omega) (by omega) H S1 (by decide) (fun i i0 i1 => by
    obtain ⟨p1, p2⟩ := r1 i i0 (by omega)
    have b0 := bI0 i.toNat (by omega)
    rw [Int.toNat_of_nonneg i0] at b0
    rw [(F3.2 183 23 (by decide)).2, (F3.2 184 23 (by decide)).2, p1, p2, if_pos i0, if_pos i0]
    refine ⟨rfl, ?_⟩
    unfold oI
    rw [b0, if_neg (by decide)])
  refine ⟨r, c', m3, hr, ?_, ?_, F2.tr G1, ((slm183 F1).tr (slmB F3)).tr G2⟩
  · unfold F_Wi_lostIn
    rw [e2, Option.bind_some, zl0]
    exact g1
  · unfold F_M_loses
    rw [zl0, e1, e3, Option.bind_some, g2, Option.bind_some]
    exact g3
end ML2
