/-! two changes sought; least (wip/whole/pure) -/
/-- the same blocks and scripts, otherwise put together -/
def Sim (u v : PG) : Prop := u.1 = v.1 ∧ u.2.1 = v.2.1 ∧ (∀ x, u.2.2.1 x 0 = v.2.2.1 x 0) ∧ ∀ s j, j ≠ 4 → u.2.2.2.2 s j = v.2.2.2.2 s j
theorem Sim.tr {u v z : PG} (h : Sim u v) (h' : Sim v z) : Sim u z := ⟨h.1.trans h'.1, h.2.1.trans h'.2.1, fun x => (h.2.2.1 x).trans (h'.2.2.1 x), fun s j hj => (h.2.2.2 s j hj).trans (h'.2.2.2 s j hj)⟩
section TW
variable {v : PG} {gk : Int → SG} {x n nw : Int} {w : Nat} {wh : Int → Int}
theorem cp2_so12 {c c' : Dl} {v1 : PG} (h : CP 2 c v1) (F : Fr (fun g b => b = 12 ∧ 30 ≤ g ∧ g ≤ 34) c c') : CP 2 c' v1 := h.fr F (fun f a b e => by
  have : (2 : Nat) = 12 ∧ 30 ≤ f ∧ f ≤ 34 := e
  omega)
theorem cp2_C12 {c c' : Dl} {v1 : PG} (h : CP 2 c v1) (F : Fr (SP 12) c c') : CP 2 c' v1 := h.fr F (fun f a b e => by
  have : (2 : Nat) = 12 ∧ 32 ≤ f ∧ f ≤ 34 := e
  omega)
theorem cp2_B {c c' : Dl} {v1 : PG} (h : CP 2 c v1) (F : Fr (SBc 11 13) c c') : CP 2 c' v1 := h.fr F (fun f a b e => by
  have : ((2 : Nat) = 13 ∧ 70 ≤ f ∧ f ≤ 79) ∨ ((2 : Nat) = 11 ∧ 42 ≤ f ∧ f ≤ 53) := e
  omega)
theorem lk_in {v1 : PG} {kc : Int32 → Int32 → Dl → Option (Int32 × Dl)} {km : Int32 → Dl → Option (Int32 × Dl)} {one : Int} (W : PW v) (W1 : PW v1) (hs : Sim v1 v) (hN8 : v.1 ≤ 8) (hn : 0 ≤ n ∧ n ≤ 4) (wg : ∀ i : Nat, (i : Int) < n → WG (gk i)) (hw : w = 16 ∨ w = 17) (hnw : 0 ≤ nw ∧ nw ≤ 4) (hx : 0 ≤ x ∧ x ≤ 40) (h1r : 0 ≤ one ∧ one < 1000) : ∀ (j : Nat) (row : Int) (fu f2 : Nat) (c m : Dl), 0 ≤ row → row + j = v.1 * 4 → j < fu → j < f2 → CP 2 c v1 → MP m v1 → SV 0 v m → SV 1 v1 m → CX n gk w nw wh c m →
    ∃ (c' m' : Dl), MP m' v ∧ SV 0 v m' ∧ Fr SOc c c' ∧ Fr SOm m m' ∧ ((F_Bs_isRightByTwo_50 (zi x) kc fu (zi (v.1 * 4)) (zi one) (zi row) c = kc (zi (v.1 * 4)) (zi (one + 1)) c' ∧ F_M_seeksTwo_32 (zi x) km f2 (zi one) (zi row) m = km (zi (one + 1)) m' ∧ c'.1 107 0 = c.1 107 0 ∧ m'.1 164 23 = m.1 164 23) ∨ (F_Bs_isRightByTwo_50 (zi x) kc fu (zi (v.1 * 4)) (zi one) (zi row) c = some (zi 1, c') ∧ F_M_seeksTwo_32 (zi x) km f2 (zi one) (zi row) m = some (zi 1, m') ∧ HI 2 c' m')) := by
  have hN := W.1
  have hN1 : v1.1 = v.1 := hs.1
  have z1 : (1 : Int32) = zi 1 := zl 1
  intro j
  induction j with
  | zero =>
    intro row fu f2 c m i0 hi hf hf2 C2 M S S1 H
    obtain ⟨fu, rfl⟩ : ∃ q, fu = q + 1 := ⟨fu - 1, by omega⟩
    obtain ⟨f2, rfl⟩ : ∃ q, f2 = q + 1 := ⟨f2 - 1, by omega⟩
    have e118 := M.1
    obtain ⟨m', g1, M', F'⟩ := m_restores (k := 0) (by decide) W S M hs
    refine ⟨c, m', M', sv_X S F', Fr.rf, somX F', Or.inl ⟨?_, ?_, rfl, (F'.2 164 23 (by decide)).1⟩⟩
    · show F_Bs_isRightByTwo_50_b (zi x) kc (F_Bs_isRightByTwo_50 (zi x) kc fu) (zi (v.1 * 4)) (zi one) (zi row) c = _
      unfold F_Bs_isRightByTwo_50_b F_Bs_isRightByTwo_125
      rw [if_pos (by rw [zi_le (by omega) (by omega)]; omega), z1, zi_add]
    · show F_M_seeksTwo_32_b (zi x) km (F_M_seeksTwo_32 (zi x) km f2) (zi one) (zi row) m = _
      unfold F_M_seeksTwo_32_b F_M_seeksTwo_134
      rw [if_pos (by rw [e118, show (4 : Int32) = zi 4 from zl 4, zi_mul, zi_le (by omega) (by omega)]; omega), zl0, bse g1, z1, zi_add]
  | succ j ih =>
    intro row fu f2 c m i0 hi hf hf2 C2 M S S1 H
    obtain ⟨fu, rfl⟩ : ∃ q, fu = q + 1 := ⟨fu - 1, by omega⟩
    obtain ⟨f2, rfl⟩ : ∃ q, f2 = q + 1 := ⟨f2 - 1, by omega⟩
    have e118 := M.1
    have hr4 : 0 ≤ row ∧ row < 1000 := by omega
    have hle : ¬ zi (v.1 * 4) ≤ zi row := by rw [zi_le (by omega) (by omega)]; omega
    have hle2 : ¬ 4 * m.1 118 23 ≤ zi row := by rw [e118, show (4 : Int32) = zi 4 from zl 4, zi_mul, zi_le (by omega) (by omega)]; omega
    obtain ⟨c1, d1, C12, F1⟩ := c_pcopy (p := 12) (o := 2) (by decide) W1 C2
    have C2' := cp2_so12 C2 F1
    have Ec : ∀ (r : Int32) (d : Dl), F_Pr_change 12 (zi (row / 4)) (zi (row - row / 4 * 4)) c1 = some (r, d) → F_Bs_isRightByTwo_50 (zi x) kc (fu + 1) (zi (v.1 * 4)) (zi one) (zi row) c = if r = 0 then F_Bs_isRightByTwo_119 (zi x) kc (F_Bs_isRightByTwo_50 (zi x) kc fu) (zi (v.1 * 4)) (zi one) (zi row) d else bd2 (F_Bs_isRight (zi x) d) fun v93 δ93 => if v93 = 0 then F_Bs_isRightByTwo_119 (zi x) kc (F_Bs_isRightByTwo_50 (zi x) kc fu) (zi (v.1 * 4)) (zi one) (zi row) δ93 else (F_Bs_setHint 0 (zi one) δ93).bind fun δ102 => (F_Bs_setHint 1 (zi row) δ102).bind fun δ109 => bnd (sI δ109 107 0 2) fun δ114 => some (1, δ114) := by
      intro r d e
      show F_Bs_isRightByTwo_50_b (zi x) kc (F_Bs_isRightByTwo_50 (zi x) kc fu) (zi (v.1 * 4)) (zi one) (zi row) c = _
      unfold F_Bs_isRightByTwo_50_b
      rw [if_neg hle, bse d1, r4 hr4, r4m, b2e e]
    have Em : ∀ (r : Int32) (d : Dl), F_M_changes (zi (row / 4)) (zi (row - row / 4 * 4)) m = some (r, d) → F_M_seeksTwo_32 (zi x) km (f2 + 1) (zi one) (zi row) m = if r = 0 then F_M_seeksTwo_67 (zi x) km (F_M_seeksTwo_32 (zi x) km f2) (zi one) (zi row) d else bd2 (F_M_isRight (zi x) d) fun v57 δ57 => if v57 = 0 then F_M_seeksTwo_67 (zi x) km (F_M_seeksTwo_32 (zi x) km f2) (zi one) (zi row) δ57 else F_M_seeksTwo_68 (zi x) km (F_M_seeksTwo_32 (zi x) km f2) (zi one) (zi row) 1 δ57 := by
      intro r d e
      show F_M_seeksTwo_32_b (zi x) km (F_M_seeksTwo_32 (zi x) km f2) (zi one) (zi row) m = _
      unfold F_M_seeksTwo_32_b
      rw [if_neg hle2, r4 hr4, r4m, b2e e]
    have next : ∀ (c2 m2 : Dl) (u : PG), F_Bs_isRightByTwo_50 (zi x) kc (fu + 1) (zi (v.1 * 4)) (zi one) (zi row) c = F_Bs_isRightByTwo_119 (zi x) kc (F_Bs_isRightByTwo_50 (zi x) kc fu) (zi (v.1 * 4)) (zi one) (zi row) c2 → F_M_seeksTwo_32 (zi x) km (f2 + 1) (zi one) (zi row) m = F_M_seeksTwo_67 (zi x) km (F_M_seeksTwo_32 (zi x) km f2) (zi one) (zi row) m2 → CP 2 c2 v1 → MP m2 u → Sim u v1 → SV 0 v m2 → SV 1 v1 m2 → Fr SOc c c2 → Fr SOm m m2 → c2.1 107 0 = c.1 107 0 → m2.1 164 23 = m.1 164 23 →
        ∃ (c' m' : Dl), MP m' v ∧ SV 0 v m' ∧ Fr SOc c c' ∧ Fr SOm m m' ∧ ((F_Bs_isRightByTwo_50 (zi x) kc (fu + 1) (zi (v.1 * 4)) (zi one) (zi row) c = kc (zi (v.1 * 4)) (zi (one + 1)) c' ∧ F_M_seeksTwo_32 (zi x) km (f2 + 1) (zi one) (zi row) m = km (zi (one + 1)) m' ∧ c'.1 107 0 = c.1 107 0 ∧ m'.1 164 23 = m.1 164 23) ∨ (F_Bs_isRightByTwo_50 (zi x) kc (fu + 1) (zi (v.1 * 4)) (zi one) (zi row) c = some (zi 1, c') ∧ F_M_seeksTwo_32 (zi x) km (f2 + 1) (zi one) (zi row) m = some (zi 1, m') ∧ HI 2 c' m')) := by
      intro c2 m2 u ec em Cu Mu hu Su Su1 Fc Fm hc hm
      obtain ⟨m4, g1, M4, F4⟩ := m_restores (k := 1) (by decide) W1 Su1 Mu hu
      obtain ⟨c', m', h3, h4, G1, G2, h0⟩ := ih (row + 1) fu f2 c2 m4 (by omega) (by omega) (by omega) (by omega) Cu M4 (sv_X Su F4) (sv_X Su1 F4) (H.so hn.2 hw Fc (Fm.tr (somX F4)))
      have ec' : F_Bs_isRightByTwo_50 (zi x) kc (fu + 1) (zi (v.1 * 4)) (zi one) (zi row) c = F_Bs_isRightByTwo_50 (zi x) kc fu (zi (v.1 * 4)) (zi one) (zi (row + 1)) c2 := by
        rw [ec]
        unfold F_Bs_isRightByTwo_119
        rw [z1, zi_add]
      have em' : F_M_seeksTwo_32 (zi x) km (f2 + 1) (zi one) (zi row) m = F_M_seeksTwo_32 (zi x) km f2 (zi one) (zi (row + 1)) m4 := by
        rw [em]
        unfold F_M_seeksTwo_67 F_M_seeksTwo_68
        rw [z1, zl0, bse g1, if_pos rfl, zi_add]
      rw [ec', em']
      refine ⟨c', m', h3, h4, Fc.tr G1, (Fm.tr (somX F4)).tr G2, ?_⟩
      rcases h0 with ⟨a1, a2, a3, a4⟩ | h0
      · exact Or.inl ⟨a1, a2, a3.trans hc, a4.trans (((F4.2 164 23 (by decide)).1).trans hm)⟩
      · exact Or.inr h0
    have hch := lk_change (p := 12) (b := row / 4) (k := row - row / 4 * 4) C12 M W1 (by omega) (by omega) (by omega)
    have F1' : Fr SOc c c1 := socP (Or.inl rfl) F1
    have h107 : c1.1 107 0 = c.1 107 0 := (F1.2 107 0 (by decide)).1
    rcases hch with ⟨a1, a2⟩ | ⟨u, c2, m2, a1, a2, a3, a4, a5, a6, a7, a8⟩
    · refine next c1 m v1 ?_ ?_ C2' M ⟨rfl, rfl, fun _ => rfl, fun _ _ _ => rfl⟩ S S1 F1' Fr.rf h107 rfl
      · rw [Ec _ _ a1, if_pos (by decide)]
      · rw [Em _ _ a2, if_pos (by decide)]
    · have Fc2 : Fr SOc c c2 := F1'.tr (socC (Or.inl rfl) a7)
      have Fm2 : Fr SOm m m2 := somX a8
      obtain ⟨r, c3, m3, hr, g1, g2, G1, G2⟩ := lk_right (c := c2) (m := m2) a5 hn wg hw hnw hx a3 a4 (H.so hn.2 hw Fc2 Fm2)
      have Fc3 : Fr SOc c c3 := Fc2.tr (socB G1)
      have Fm3 : Fr SOm m m3 := Fm2.tr (somL G2)
      have M3 := mp_L a4 G2
      have S3 := sv_L (sv_X S a8) G2
      have S31 := sv_L (sv_X S1 a8) G2
      have C23 := cp2_B (cp2_C12 C2' a7) G1
      rcases hr with rfl | rfl
      · refine next c3 m3 u ?_ ?_ C23 M3 a6 S3 S31 Fc3 Fm3 ?_ ?_
        · rw [Ec _ _ a1, if_neg (by decide), b2e g1, if_pos (by decide)]
        · rw [Em _ _ a2, if_neg (by decide), b2e g2, if_pos (by decide)]
        · rw [(G1.2 107 0 (by decide)).1, (a7.2 107 0 (by decide)).1]; exact h107
        · rw [(G2.2 164 23 (by decide)).1, (a8.2 164 23 (by decide)).1]
      · obtain ⟨m4, g4, M4, F4⟩ := m_restores (k := 1) (by decide) W1 S31 M3 a6
        have S4 := sv_X S3 F4
        obtain ⟨m5, g5, M5, F5⟩ := m_restores (k := 0) (by decide) W S4 M4 hs
        have ch := c_hint (c := c3) (i := 0) (row := one) (by decide) h1r
        have ch2 := c_hint (c := sA (sA c3 106 0 (zi (2 * 0)) (zi (one / 4))) 106 0 (zi (2 * 0 + 1)) (zi (one - one / 4 * 4))) (i := 1) (row := row) (by decide) hr4
        have fc : Fr SOc c (sI (sA (sA (sA (sA c3 106 0 (zi (2 * 0)) (zi (one / 4))) 106 0 (zi (2 * 0 + 1)) (zi (one - one / 4 * 4))) 106 0 (zi (2 * 1)) (zi (row / 4))) 106 0 (zi (2 * 1 + 1)) (zi (row - row / 4 * 4))) 107 0 (zi 2)) := ((((Fc3.sA (by decide)).sA (by decide)).sA (by decide)).sA (by decide)).sI (by decide)
        have fm : Fr (fun f a => a = 23 ∧ 164 ≤ f ∧ f ≤ 166) m5 (sA (sA (sA (sA (sI m5 164 23 (zi 2)) 165 23 (zi 0) (zi (one / 4))) 166 23 (zi 0) (zi (one - one / 4 * 4))) 165 23 (zi 1) (zi (row / 4))) 166 23 (zi 1) (zi (row - row / 4 * 4))) := ((((Fr.rf.sI ⟨rfl, by decide, by decide⟩).sA ⟨rfl, by decide, by decide⟩).sA ⟨rfl, by decide, by decide⟩).sA ⟨rfl, by decide, by decide⟩).sA ⟨rfl, by decide, by decide⟩
        refine ⟨_, _, M5.fr fm (fun f a b e => by omega), (sv_X S4 F5).fr fm (fun f a b e => by omega), fc, (((Fm3.tr (somX F4)).tr (somX F5))).tr (fm.to (fun f a e => ?_)), Or.inr ⟨?_, ?_, ?_⟩⟩
        · have : a = 23 ∧ 164 ≤ f ∧ f ≤ 166 := e
          show (131 ≤ f ∧ f ≤ 151) ∨ f = 174 ∨ (183 ≤ f ∧ f ≤ 190) ∨ (120 ≤ f ∧ f ≤ 124) ∨ f = 130 ∨ (164 ≤ f ∧ f ≤ 166)
          omega
        · rw [Ec _ _ a1, if_neg (by decide), b2e g1, if_neg (by decide), zl0, bse ch, z1, bse ch2, bnd_eq, show (2 : Int32) = zi 2 from zl 2]
        · rw [Em _ _ a2, if_neg (by decide), b2e g2, if_neg (by decide)]
          unfold F_M_seeksTwo_68
          rw [z1, zl0, bse g4, if_neg (by decide), bse g5, bnd_eq, bnd_eq, bnd_eq, bnd_eq, bnd_eq, r4 hr4, r4m, r4 h1r, r4m, show (2 : Int32) = zi 2 from zl 2]
        · refine ⟨sI_at, ?_, fun i i0 i1 => ?_⟩
          · show (sI m5 164 23 (zi 2)).1 164 23 = zi 2
            exact sI_at
          · have n1 : ∀ a b : Int, 0 ≤ a → a < 10 → 0 ≤ b → b < 10 → a ≠ b → ¬ zi a = zi b := fun a b a0 a1 b0 b1 h e => h (zi_inj e (by omega) (by omega))
            rcases (show i = 0 ∨ i = 1 by omega) with rfl | rfl
            · constructor
              · show (sA (sA (sA (sA c3 106 0 (zi (2 * 0)) (zi (one / 4))) 106 0 (zi (2 * 0 + 1)) (zi (one - one / 4 * 4))) 106 0 (zi (2 * 1)) (zi (row / 4))) 106 0 (zi (2 * 1 + 1)) (zi (row - row / 4 * 4))).2.1 106 0 (zi (2 * 0)) = _
                rw [rAi, if_neg (n1 _ _ (by decide) (by decide) (by decide) (by decide) (by decide)), rAi, if_neg (n1 _ _ (by decide) (by decide) (by decide) (by decide) (by decide)), rAi, if_neg (n1 _ _ (by decide) (by decide) (by decide) (by decide) (by decide)), rAi, if_pos rfl, rA (by decide), rAi, if_neg (n1 _ _ (by decide) (by decide) (by decide) (by decide) (by decide)), rA (by decide), rAi, if_pos rfl]
              · show (sA (sA (sA (sA c3 106 0 (zi (2 * 0)) (zi (one / 4))) 106 0 (zi (2 * 0 + 1)) (zi (one - one / 4 * 4))) 106 0 (zi (2 * 1)) (zi (row / 4))) 106 0 (zi (2 * 1 + 1)) (zi (row - row / 4 * 4))).2.1 106 0 (zi (2 * 0 + 1)) = _
                rw [rAi, if_neg (n1 _ _ (by decide) (by decide) (by decide) (by decide) (by decide)), rAi, if_neg (n1 _ _ (by decide) (by decide) (by decide) (by decide) (by decide)), rAi, if_pos rfl, rAi, if_neg (n1 _ _ (by decide) (by decide) (by decide) (by decide) (by decide)), rA (by decide), rAi, if_pos rfl]
            · constructor
              · show (sA (sA (sA (sA c3 106 0 (zi (2 * 0)) (zi (one / 4))) 106 0 (zi (2 * 0 + 1)) (zi (one - one / 4 * 4))) 106 0 (zi (2 * 1)) (zi (row / 4))) 106 0 (zi (2 * 1 + 1)) (zi (row - row / 4 * 4))).2.1 106 0 (zi (2 * 1)) = _
                rw [rAi, if_neg (n1 _ _ (by decide) (by decide) (by decide) (by decide) (by decide)), rAi, if_pos rfl, rA (by decide), rAi, if_pos rfl]
              · show (sA (sA (sA (sA c3 106 0 (zi (2 * 0)) (zi (one / 4))) 106 0 (zi (2 * 0 + 1)) (zi (one - one / 4 * 4))) 106 0 (zi (2 * 1)) (zi (row / 4))) 106 0 (zi (2 * 1 + 1)) (zi (row - row / 4 * 4))).2.1 106 0 (zi (2 * 1 + 1)) = _
                rw [rAi, if_pos rfl, rAi, if_pos rfl]
theorem lk_two (W : PW v) (hN8 : v.1 ≤ 8) (hn : 0 ≤ n ∧ n ≤ 4) (wg : ∀ i : Nat, (i : Int) < n → WG (gk i)) (hw : w = 16 ∨ w = 17) (hnw : 0 ≤ nw ∧ nw ≤ 4) (hx : 0 ≤ x ∧ x ≤ 40) : ∀ (j : Nat) (row : Int) (fu f2 : Nat) (c m : Dl), 0 ≤ row → row + j = v.1 * 4 → j < fu → j < f2 → CP 1 c v → MP m v → SV 0 v m → CX n gk w nw wh c m →
    ∃ (r : Int32) (c' m' : Dl), ((r = zi 0 ∧ c'.1 107 0 = c.1 107 0 ∧ m'.1 164 23 = m.1 164 23) ∨ (r = zi 1 ∧ HI 2 c' m')) ∧ F_Bs_isRightByTwo_12 (zi x) fu (zi (v.1 * 4)) (zi row) c = some (r, c') ∧ F_M_seeksTwo_2 (zi x) f2 (zi row) m = some (r, m') ∧ MP m' v ∧ Fr SOc c c' ∧ Fr SOm m m' := by
  have hN := W.1
  have z1 : (1 : Int32) = zi 1 := zl 1
  intro j
  induction j with
  | zero =>
    intro row fu f2 c m i0 hi hf hf2 C1 M S H
    obtain ⟨fu, rfl⟩ : ∃ q, fu = q + 1 := ⟨fu - 1, by omega⟩
    obtain ⟨f2, rfl⟩ : ∃ q, f2 = q + 1 := ⟨f2 - 1, by omega⟩
    have e118 := M.1
    refine ⟨zi 0, c, m, Or.inl ⟨rfl, rfl, rfl⟩, ?_, ?_, M, Fr.rf, Fr.rf⟩
    · show F_Bs_isRightByTwo_12_b (zi x) (F_Bs_isRightByTwo_12 (zi x) fu) (zi (v.1 * 4)) (zi row) c = _
      unfold F_Bs_isRightByTwo_12_b
      rw [if_pos (by rw [zi_le (by omega) (by omega)]; omega), zl0]
    · show F_M_seeksTwo_2_b (zi x) (F_M_seeksTwo_2 (zi x) f2) (zi row) m = _
      unfold F_M_seeksTwo_2_b
      rw [if_pos (by rw [e118, show (4 : Int32) = zi 4 from zl 4, zi_mul, zi_le (by omega) (by omega)]; omega), zl0]
  | succ j ih =>
    intro row fu f2 c m i0 hi hf hf2 C1 M S H
    obtain ⟨fu, rfl⟩ : ∃ q, fu = q + 1 := ⟨fu - 1, by omega⟩
    obtain ⟨f2, rfl⟩ : ∃ q, f2 = q + 1 := ⟨f2 - 1, by omega⟩
    have e118 := M.1
    have hr4 : 0 ≤ row ∧ row < 1000 := by omega
    have hle : ¬ zi (v.1 * 4) ≤ zi row := by rw [zi_le (by omega) (by omega)]; omega
    have hle2 : ¬ 4 * m.1 118 23 ≤ zi row := by rw [e118, show (4 : Int32) = zi 4 from zl 4, zi_mul, zi_le (by omega) (by omega)]; omega
    obtain ⟨c1, d1, C2, F1⟩ := c_pcopy (p := 2) (o := 1) (by decide) W C1
    have Ec : ∀ (r : Int32) (d : Dl), F_Pr_change 2 (zi (row / 4)) (zi (row - row / 4 * 4)) c1 = some (r, d) → F_Bs_isRightByTwo_12 (zi x) (fu + 1) (zi (v.1 * 4)) (zi row) c = if r = 0 then F_Bs_isRightByTwo_125 (zi x) (F_Bs_isRightByTwo_12 (zi x) fu) (zi (v.1 * 4)) (zi row) d else F_Bs_isRightByTwo_50 (zi x) (F_Bs_isRightByTwo_12 (zi x) fu) FU (zi (v.1 * 4)) (zi row) 0 d := by
      intro r d e
      show F_Bs_isRightByTwo_12_b (zi x) (F_Bs_isRightByTwo_12 (zi x) fu) (zi (v.1 * 4)) (zi row) c = _
      unfold F_Bs_isRightByTwo_12_b
      rw [if_neg hle, bse d1, r4 hr4, r4m, b2e e]
    have Em : ∀ (r : Int32) (d : Dl), F_M_changes (zi (row / 4)) (zi (row - row / 4 * 4)) m = some (r, d) → F_M_seeksTwo_2 (zi x) (f2 + 1) (zi row) m = if r = 0 then F_M_seeksTwo_134 (zi x) (F_M_seeksTwo_2 (zi x) f2) (zi row) d else (F_M_saves 1 d).bind fun δ27 => F_M_seeksTwo_32 (zi x) (F_M_seeksTwo_2 (zi x) f2) FU (zi row) 0 δ27 := by
      intro r d e
      show F_M_seeksTwo_2_b (zi x) (F_M_seeksTwo_2 (zi x) f2) (zi row) m = _
      unfold F_M_seeksTwo_2_b
      rw [if_neg hle2, r4 hr4, r4m, b2e e]
    have hch := lk_change (p := 2) (b := row / 4) (k := row - row / 4 * 4) C2 M W (by omega) (by omega) (by omega)
    have F1' : Fr SOc c c1 := socP (Or.inr rfl) F1
    have h107 : c1.1 107 0 = c.1 107 0 := (F1.2 107 0 (by decide)).1
    -- going on to the next row
    have next : ∀ (c2 m2 : Dl), F_Bs_isRightByTwo_12 (zi x) (fu + 1) (zi (v.1 * 4)) (zi row) c = F_Bs_isRightByTwo_12 (zi x) fu (zi (v.1 * 4)) (zi (row + 1)) c2 → F_M_seeksTwo_2 (zi x) (f2 + 1) (zi row) m = F_M_seeksTwo_2 (zi x) f2 (zi (row + 1)) m2 → MP m2 v → SV 0 v m2 → Fr SOc c c2 → Fr SOm m m2 → c2.1 107 0 = c.1 107 0 → m2.1 164 23 = m.1 164 23 →
        ∃ (r : Int32) (c' m' : Dl), ((r = zi 0 ∧ c'.1 107 0 = c.1 107 0 ∧ m'.1 164 23 = m.1 164 23) ∨ (r = zi 1 ∧ HI 2 c' m')) ∧ F_Bs_isRightByTwo_12 (zi x) (fu + 1) (zi (v.1 * 4)) (zi row) c = some (r, c') ∧ F_M_seeksTwo_2 (zi x) (f2 + 1) (zi row) m = some (r, m') ∧ MP m' v ∧ Fr SOc c c' ∧ Fr SOm m m' := by
      intro c2 m2 ec em M2 S2 Fc Fm hc hm
      obtain ⟨r, c', m', h0, h1, h2, h3, G1, G2⟩ := ih (row + 1) fu f2 c2 m2 (by omega) (by omega) (by omega) (by omega) (cp1_so C1 Fc) M2 S2 (H.so hn.2 hw Fc Fm)
      refine ⟨r, c', m', ?_, ec.trans h1, em.trans h2, h3, Fc.tr G1, Fm.tr G2⟩
      rcases h0 with ⟨a1, a2, a3⟩ | h0
      · exact Or.inl ⟨a1, a2.trans hc, a3.trans hm⟩
      · exact Or.inr h0
    rcases hch with ⟨a1, a2⟩ | ⟨u, c2, m2, a1, a2, a3, a4, a5, a6, a7, a8⟩
    · obtain ⟨m4, g1, M4, F4⟩ := m_restores (k := 0) (by decide) W S M ⟨rfl, rfl, fun _ => rfl, fun _ _ _ => rfl⟩
      refine next c1 m4 ?_ ?_ M4 (sv_X S F4) F1' (somX F4) h107 (F4.2 164 23 (by decide)).1
      · rw [Ec _ _ a1, if_pos (by decide)]
        unfold F_Bs_isRightByTwo_125
        rw [z1, zi_add]
      · rw [Em _ _ a2, if_pos (by decide)]
        unfold F_M_seeksTwo_134
        rw [zl0, bse g1, z1, zi_add]
    · obtain ⟨m3, g3, S31, S3k, F3⟩ := m_saves (k := 1) (by decide) a5 a4
      have S3 : SV 0 v m3 := S3k 0 v (by decide) (by decide) W (sv_X S a8)
      have M3 : MP m3 u := a4.fr F3 (fun f a b e => by
        have : (23 : Nat) = 23 ∧ (185 ≤ f ∧ f ≤ 190) := e
        omega)
      have Fc2 : Fr SOc c c2 := F1'.tr (socC (Or.inr rfl) a7)
      have Fm3 : Fr SOm m m3 := (somX a8).tr (somS F3)
      obtain ⟨c', m', h3, h4, G1, G2, h0⟩ := lk_in (v1 := u) (kc := F_Bs_isRightByTwo_12 (zi x) fu) (km := F_M_seeksTwo_2 (zi x) f2) (one := row) W a5 a6 hN8 hn wg hw hnw hx hr4 (v.1 * 4).toNat 0 FU FU c2 m3 (by omega) (by omega) (by unfold FU; omega) (by unfold FU; omega) a3 M3 S3 S31 (H.so hn.2 hw Fc2 Fm3)
      have k107 : c2.1 107 0 = c.1 107 0 := ((a7.2 107 0 (by decide)).1).trans h107
      have k164 : m3.1 164 23 = m.1 164 23 := ((F3.2 164 23 (by decide)).1).trans (a8.2 164 23 (by decide)).1
      rcases h0 with ⟨b1, b2, b3, b4⟩ | ⟨b1, b2, b3⟩
      · refine next c' m' ?_ ?_ h3 h4 (Fc2.tr G1) (Fm3.tr G2) (b3.trans k107) (b4.trans k164)
        · rw [Ec _ _ a1, if_neg (by decide), zl0]
          exact b1
        · rw [Em _ _ a2, if_neg (by decide), z1, zl0, bse g3]
          exact b2
      · refine ⟨zi 1, c', m', Or.inr ⟨rfl, b3⟩, ?_, ?_, h3, Fc2.tr G1, Fm3.tr G2⟩
        · rw [Ec _ _ a1, if_neg (by decide), zl0]
          exact b1
        · rw [Em _ _ a2, if_neg (by decide), z1, zl0, bse g3]
          exact b2
end TW
