/-! count (wip/whole/gen28.py) -/
-- BlockStage.count(I)I
theorem d_Bs_count_0 : decode M_Bs_count.2.1 0 = .ok (.iload_n 1, 1) := by decide +kernel
theorem d_Bs_count_1 : decode M_Bs_count.2.1 1 = .ok (.tableswitch 171 0 9 #[55, 63, 71, 79, 84, 106, 128, 136, 144, 152], 55) := by decide +kernel
theorem d_Bs_count_56 : decode M_Bs_count.2.1 56 = .ok (.aload_n 0, 1) := by decide +kernel
theorem d_Bs_count_57 : decode M_Bs_count.2.1 57 = .ok (.getfield 14, 3) := by decide +kernel
theorem d_Bs_count_60 : decode M_Bs_count.2.1 60 = .ok (.getfield 165, 3) := by decide +kernel
theorem d_Bs_count_63 : decode M_Bs_count.2.1 63 = .ok (.ireturn, 1) := by decide +kernel
theorem d_Bs_count_64 : decode M_Bs_count.2.1 64 = .ok (.aload_n 0, 1) := by decide +kernel
theorem d_Bs_count_65 : decode M_Bs_count.2.1 65 = .ok (.getfield 14, 3) := by decide +kernel
theorem d_Bs_count_68 : decode M_Bs_count.2.1 68 = .ok (.getfield 210, 3) := by decide +kernel
theorem d_Bs_count_71 : decode M_Bs_count.2.1 71 = .ok (.ireturn, 1) := by decide +kernel
theorem d_Bs_count_72 : decode M_Bs_count.2.1 72 = .ok (.aload_n 0, 1) := by decide +kernel
theorem d_Bs_count_73 : decode M_Bs_count.2.1 73 = .ok (.getfield 24, 3) := by decide +kernel
theorem d_Bs_count_76 : decode M_Bs_count.2.1 76 = .ok (.getfield 115, 3) := by decide +kernel
theorem d_Bs_count_79 : decode M_Bs_count.2.1 79 = .ok (.ireturn, 1) := by decide +kernel
theorem d_Bs_count_80 : decode M_Bs_count.2.1 80 = .ok (.aload_n 0, 1) := by decide +kernel
theorem d_Bs_count_81 : decode M_Bs_count.2.1 81 = .ok (.getfield 32, 3) := by decide +kernel
theorem d_Bs_count_84 : decode M_Bs_count.2.1 84 = .ok (.ireturn, 1) := by decide +kernel
theorem d_Bs_count_85 : decode M_Bs_count.2.1 85 = .ok (.aload_n 0, 1) := by decide +kernel
theorem d_Bs_count_86 : decode M_Bs_count.2.1 86 = .ok (.getfield 39, 3) := by decide +kernel
theorem d_Bs_count_89 : decode M_Bs_count.2.1 89 = .ok (.getfield 100, 3) := by decide +kernel
theorem d_Bs_count_92 : decode M_Bs_count.2.1 92 = .ok (.ifCond .eq 13, 3) := by decide +kernel
theorem d_Bs_count_95 : decode M_Bs_count.2.1 95 = .ok (.aload_n 0, 1) := by decide +kernel
theorem d_Bs_count_96 : decode M_Bs_count.2.1 96 = .ok (.getfield 39, 3) := by decide +kernel
theorem d_Bs_count_99 : decode M_Bs_count.2.1 99 = .ok (.getfield 259, 3) := by decide +kernel
theorem d_Bs_count_102 : decode M_Bs_count.2.1 102 = .ok (.goto 4, 3) := by decide +kernel
theorem d_Bs_count_105 : decode M_Bs_count.2.1 105 = .ok (.iconst (-1), 1) := by decide +kernel
theorem d_Bs_count_106 : decode M_Bs_count.2.1 106 = .ok (.ireturn, 1) := by decide +kernel
theorem d_Bs_count_107 : decode M_Bs_count.2.1 107 = .ok (.aload_n 0, 1) := by decide +kernel
theorem d_Bs_count_108 : decode M_Bs_count.2.1 108 = .ok (.getfield 39, 3) := by decide +kernel
theorem d_Bs_count_111 : decode M_Bs_count.2.1 111 = .ok (.getfield 100, 3) := by decide +kernel
theorem d_Bs_count_114 : decode M_Bs_count.2.1 114 = .ok (.ifCond .eq 13, 3) := by decide +kernel
theorem d_Bs_count_117 : decode M_Bs_count.2.1 117 = .ok (.aload_n 0, 1) := by decide +kernel
theorem d_Bs_count_118 : decode M_Bs_count.2.1 118 = .ok (.getfield 39, 3) := by decide +kernel
theorem d_Bs_count_121 : decode M_Bs_count.2.1 121 = .ok (.getfield 341, 3) := by decide +kernel
theorem d_Bs_count_124 : decode M_Bs_count.2.1 124 = .ok (.goto 4, 3) := by decide +kernel
theorem d_Bs_count_127 : decode M_Bs_count.2.1 127 = .ok (.iconst 0, 1) := by decide +kernel
theorem d_Bs_count_128 : decode M_Bs_count.2.1 128 = .ok (.ireturn, 1) := by decide +kernel
theorem d_Bs_count_129 : decode M_Bs_count.2.1 129 = .ok (.aload_n 0, 1) := by decide +kernel
theorem d_Bs_count_130 : decode M_Bs_count.2.1 130 = .ok (.getfield 51, 3) := by decide +kernel
theorem d_Bs_count_133 : decode M_Bs_count.2.1 133 = .ok (.getfield 274, 3) := by decide +kernel
theorem d_Bs_count_136 : decode M_Bs_count.2.1 136 = .ok (.ireturn, 1) := by decide +kernel
theorem d_Bs_count_137 : decode M_Bs_count.2.1 137 = .ok (.aload_n 0, 1) := by decide +kernel
theorem d_Bs_count_138 : decode M_Bs_count.2.1 138 = .ok (.getfield 61, 3) := by decide +kernel
theorem d_Bs_count_141 : decode M_Bs_count.2.1 141 = .ok (.getfield 287, 3) := by decide +kernel
theorem d_Bs_count_144 : decode M_Bs_count.2.1 144 = .ok (.ireturn, 1) := by decide +kernel
theorem d_Bs_count_145 : decode M_Bs_count.2.1 145 = .ok (.aload_n 0, 1) := by decide +kernel
theorem d_Bs_count_146 : decode M_Bs_count.2.1 146 = .ok (.invokevirtual 229, 3) := by decide +kernel
theorem d_Bs_count_149 : decode M_Bs_count.2.1 149 = .ok (.invokevirtual 344, 3) := by decide +kernel
theorem d_Bs_count_152 : decode M_Bs_count.2.1 152 = .ok (.ireturn, 1) := by decide +kernel
theorem d_Bs_count_172 : decode M_Bs_count.2.1 172 = .ok (.bipush (-2), 2) := by decide +kernel
theorem d_Bs_count_174 : decode M_Bs_count.2.1 174 = .ok (.ireturn, 1) := by decide +kernel
theorem d_Bs_count_153 : decode M_Bs_count.2.1 153 = .ok (.aload_n 0, 1) := by decide +kernel
theorem d_Bs_count_154 : decode M_Bs_count.2.1 154 = .ok (.getfield 75, 3) := by decide +kernel
theorem d_Bs_count_157 : decode M_Bs_count.2.1 157 = .ok (.ifnonnull 7, 3) := by decide +kernel
theorem d_Bs_count_160 : decode M_Bs_count.2.1 160 = .ok (.iconst 0, 1) := by decide +kernel
theorem d_Bs_count_161 : decode M_Bs_count.2.1 161 = .ok (.goto 10, 3) := by decide +kernel
theorem d_Bs_count_164 : decode M_Bs_count.2.1 164 = .ok (.aload_n 0, 1) := by decide +kernel
theorem d_Bs_count_165 : decode M_Bs_count.2.1 165 = .ok (.getfield 75, 3) := by decide +kernel
theorem d_Bs_count_168 : decode M_Bs_count.2.1 168 = .ok (.getfield 348, 3) := by decide +kernel
theorem d_Bs_count_171 : decode M_Bs_count.2.1 171 = .ok (.ireturn, 1) := by decide +kernel
theorem gl_Bs_341_5 : GL RX11 341 5 4 := ⟨RX5, TX5, 14, RX5, rfl, by decide, (lwg_at 132 (by decide +kernel) rfl), Or.inl rfl, gl_w inX5⟩
theorem cs_Bs_344 : CV RX11 344 RX9 M_St_allThings 0 := ⟨(lwg_at 1078 (by decide +kernel) rfl), (lwg_at 825 (by decide +kernel) rfl), (lwg_at 826 (by decide +kernel) rfl), mi_St_allThings⟩
theorem gl_Bs_348_2 : GL RX11 348 2 2 := ⟨RX2, TX2, 4, RX1, rfl, by decide, (lwg_at 941 (by decide +kernel) rfl), Or.inl rfl, gl_w inX2⟩
theorem gl_Bs_348_4 : GL RX11 348 4 2 := ⟨RX4, TX4, 4, RX1, rfl, by decide, (lwg_at 941 (by decide +kernel) rfl), Or.inl rfl, gl_w inX4⟩
theorem gl_Bs_348_6 : GL RX11 348 6 2 := ⟨RX6, TX6, 4, RX1, rfl, by decide, (lwg_at 941 (by decide +kernel) rfl), Or.inl rfl, gl_w inX6⟩
theorem gl_Bs_348_8 : GL RX11 348 8 2 := ⟨RX8, TX8, 4, RX1, rfl, by decide, (lwg_at 941 (by decide +kernel) rfl), Or.inl rfl, gl_w inX8⟩
def F_cnt9 (δ : Dl) : Option Int32 := if (δ.2.2 102 0).1 = 1 then some 0 else some (δ.1 22 (δ.2.2 102 0).2)
theorem t_cnt9 {l : Launch} {d : Nat} {Γ : Gm} (hG : GC Γ) {δ : Dl} (hL : LA Γ δ) {o : Option AV} (r : Int32) (h : F_cnt9 δ = some r) : Xe l M_Bs_count d 0 0 NF 153 [some (.inr (0, 0)), o] [] 0 0 Γ δ (some (.inl r), Γ, δ) := by
  refine x_aload_n (i := 0) d_Bs_count_153 rfl rfl ?_
  refine x_getR (f := 102) gl_Bs_75_11 rfl (by decide) (hG.ob oc_0) d_Bs_count_154 ?_
  unfold F_cnt9 at h
  rcases hL with hn | hL
  · rw [hn] at h ⊢
    cases h
    refine x_ifnonnull (tgt := 164) d_Bs_count_157 (by decide) (fun c => absurd rfl c) (fun _ => ?_)
    refine x_ic (v := 0) d_Bs_count_160 (by decide) ?_
    refine x_goto (tgt := 171) d_Bs_count_161 (by decide) ?_
    exact x_iret rfl d_Bs_count_171 (by decide) (by decide)
  rcases hL with hn | hn | hn | hn
  · obtain ⟨hn, oq⟩ := hn
    rw [hn] at h
    have h : some (δ.1 22 19) = some r := h
    cases h
    rw [hn]
    refine x_ifnonnull (tgt := 164) d_Bs_count_157 (by decide) (fun _ => ?_) (fun c => absurd (by decide) c)
    refine x_aload_n (i := 0) d_Bs_count_164 rfl rfl ?_
    refine x_getR (f := 102) gl_Bs_75_11 rfl (by decide) (hG.ob oc_0) d_Bs_count_165 ?_
    rw [hn]
    refine x_getI (f := 22) gl_Bs_348_2 rfl (by decide) oq d_Bs_count_168 ?_
    exact x_iret rfl d_Bs_count_171 (by decide) (by decide)
  · obtain ⟨hn, oq⟩ := hn
    rw [hn] at h
    have h : some (δ.1 22 20) = some r := h
    cases h
    rw [hn]
    refine x_ifnonnull (tgt := 164) d_Bs_count_157 (by decide) (fun _ => ?_) (fun c => absurd (by decide) c)
    refine x_aload_n (i := 0) d_Bs_count_164 rfl rfl ?_
    refine x_getR (f := 102) gl_Bs_75_11 rfl (by decide) (hG.ob oc_0) d_Bs_count_165 ?_
    rw [hn]
    refine x_getI (f := 22) gl_Bs_348_4 rfl (by decide) oq d_Bs_count_168 ?_
    exact x_iret rfl d_Bs_count_171 (by decide) (by decide)
  · obtain ⟨hn, oq⟩ := hn
    rw [hn] at h
    have h : some (δ.1 22 21) = some r := h
    cases h
    rw [hn]
    refine x_ifnonnull (tgt := 164) d_Bs_count_157 (by decide) (fun _ => ?_) (fun c => absurd (by decide) c)
    refine x_aload_n (i := 0) d_Bs_count_164 rfl rfl ?_
    refine x_getR (f := 102) gl_Bs_75_11 rfl (by decide) (hG.ob oc_0) d_Bs_count_165 ?_
    rw [hn]
    refine x_getI (f := 22) gl_Bs_348_6 rfl (by decide) oq d_Bs_count_168 ?_
    exact x_iret rfl d_Bs_count_171 (by decide) (by decide)
  · obtain ⟨hn, oq⟩ := hn
    rw [hn] at h
    have h : some (δ.1 22 22) = some r := h
    cases h
    rw [hn]
    refine x_ifnonnull (tgt := 164) d_Bs_count_157 (by decide) (fun _ => ?_) (fun c => absurd (by decide) c)
    refine x_aload_n (i := 0) d_Bs_count_164 rfl rfl ?_
    refine x_getR (f := 102) gl_Bs_75_11 rfl (by decide) (hG.ob oc_0) d_Bs_count_165 ?_
    rw [hn]
    refine x_getI (f := 22) gl_Bs_348_8 rfl (by decide) oq d_Bs_count_168 ?_
    exact x_iret rfl d_Bs_count_171 (by decide) (by decide)
def F_Bs_count (x1 : Int32) (δ : Dl) : Option (Int32) :=
  if x1 = 0 then (some (δ.1 30 1)) else if x1 = 1 then (some (δ.1 31 1)) else if x1 = 2 then (some (δ.1 72 3)) else if x1 = 3 then (some (δ.1 94 0)) else if x1 = 4 then (if (δ.1 42 8) = 0 then (some (-1)) else (some (δ.1 43 8))) else if x1 = 5 then (if (δ.1 42 8) = 0 then (some 0) else (some (δ.1 44 8))) else if x1 = 6 then (some (δ.1 10 14)) else if x1 = 7 then (if ((δ.2.2 99 0)).1 = 0 ∧ Oc ((δ.2.2 99 0)).2 10 then some (δ.1 80 ((δ.2.2 99 0)).2) else none) else if x1 = 8 then (bnd (F_Bs_shown δ) fun v146 => if v146.1 = 0 ∧ Oc v146.2 9 then (F_St_allThings v146.2 δ).bind fun v149 => some v149 else none) else if x1 = 9 then ((F_cnt9 δ)) else (some (-2))
set_option maxRecDepth 20000 in
set_option maxHeartbeats 4000000 in
theorem c_Bs_count {l : Launch} {Γ : Gm} (hG : GC Γ) (x1 : Int32) (δ : Dl) (hL : LA Γ δ) (r : Int32) (h : F_Bs_count x1  δ = some r) : Ct l M_Bs_count 1 0 0 NF [.inr (0, 0), .inl x1] Γ δ (some (.inl r), Γ, δ) := by
  unfold F_Bs_count at h
  refine Ct.of2 (n := 0) (ls := [some (.inr (0, 0)), some (.inl x1)]) rfl (by decide +kernel) (Nat.le_of_ble_eq_true rfl) ?_
  refine x_iload_n (i := 1) d_Bs_count_0 rfl rfl ?_
  by_cases c1_0 : x1 = 0
  · have h := if_t c1_0 h
    refine x_tin (v := 0) (off := 55) (tgt := 56) d_Bs_count_1 c1_0 (by decide +kernel) ?_
    refine x_aload_n (i := 0) d_Bs_count_56 rfl rfl ?_
    refine x_getS (f := 90) (b := 1) gl_Bs_14_11 rfl kf_90 rfl (hG.ob oc_0) d_Bs_count_57 ?_
    refine x_getI (f := 30) gl_Bs_165_3 rfl kf_30 (hG.ob oc_1) d_Bs_count_60 ?_
    replace h := Option.some.inj h; subst h
    exact x_iret rfl d_Bs_count_63 (Nat.le_refl 0) (Nat.le_refl 0)
  have h := if_f c1_0 h
  by_cases c1_1 : x1 = 1
  · have h := if_t c1_1 h
    refine x_tin (v := 1) (off := 63) (tgt := 64) d_Bs_count_1 c1_1 (by decide +kernel) ?_
    refine x_aload_n (i := 0) d_Bs_count_64 rfl rfl ?_
    refine x_getS (f := 90) (b := 1) gl_Bs_14_11 rfl kf_90 rfl (hG.ob oc_0) d_Bs_count_65 ?_
    refine x_getI (f := 31) gl_Bs_210_3 rfl kf_31 (hG.ob oc_1) d_Bs_count_68 ?_
    replace h := Option.some.inj h; subst h
    exact x_iret rfl d_Bs_count_71 (Nat.le_refl 0) (Nat.le_refl 0)
  have h := if_f c1_1 h
  by_cases c1_2 : x1 = 2
  · have h := if_t c1_2 h
    refine x_tin (v := 2) (off := 71) (tgt := 72) d_Bs_count_1 c1_2 (by decide +kernel) ?_
    refine x_aload_n (i := 0) d_Bs_count_72 rfl rfl ?_
    refine x_getS (f := 92) (b := 3) gl_Bs_24_11 rfl kf_92 rfl (hG.ob oc_0) d_Bs_count_73 ?_
    refine x_getI (f := 72) gl_Bs_115_9 rfl kf_72 (hG.ob oc_3) d_Bs_count_76 ?_
    replace h := Option.some.inj h; subst h
    exact x_iret rfl d_Bs_count_79 (Nat.le_refl 0) (Nat.le_refl 0)
  have h := if_f c1_2 h
  by_cases c1_3 : x1 = 3
  · have h := if_t c1_3 h
    refine x_tin (v := 3) (off := 79) (tgt := 80) d_Bs_count_1 c1_3 (by decide +kernel) ?_
    refine x_aload_n (i := 0) d_Bs_count_80 rfl rfl ?_
    refine x_getI (f := 94) gl_Bs_32_11 rfl kf_94 (hG.ob oc_0) d_Bs_count_81 ?_
    replace h := Option.some.inj h; subst h
    exact x_iret rfl d_Bs_count_84 (Nat.le_refl 0) (Nat.le_refl 0)
  have h := if_f c1_3 h
  by_cases c1_4 : x1 = 4
  · have h := if_t c1_4 h
    refine x_tin (v := 4) (off := 84) (tgt := 85) d_Bs_count_1 c1_4 (by decide +kernel) ?_
    refine x_aload_n (i := 0) d_Bs_count_85 rfl rfl ?_
    refine x_getS (f := 95) (b := 8) gl_Bs_39_11 rfl kf_95 rfl (hG.ob oc_0) d_Bs_count_86 ?_
    refine x_getI (f := 42) gl_Bs_100_5 rfl kf_42 (hG.ob oc_8) d_Bs_count_89 ?_
    refine x_if_eq (tgt := 105) d_Bs_count_92 (by decide) (fun c92 => ?_) (fun c92 => ?_)
    · have h := if_t c92 h
      refine x_ic (v := -1) d_Bs_count_105 (by decide) ?_
      replace h := Option.some.inj h; subst h
      exact x_iret rfl d_Bs_count_106 (Nat.le_refl 0) (Nat.le_refl 0)
    · have h := if_f c92 h
      refine x_aload_n (i := 0) d_Bs_count_95 rfl rfl ?_
      refine x_getS (f := 95) (b := 8) gl_Bs_39_11 rfl kf_95 rfl (hG.ob oc_0) d_Bs_count_96 ?_
      refine x_getI (f := 43) gl_Bs_259_5 rfl kf_43 (hG.ob oc_8) d_Bs_count_99 ?_
      refine x_goto (tgt := 106) d_Bs_count_102 (by decide) ?_
      replace h := Option.some.inj h; subst h
      exact x_iret rfl d_Bs_count_106 (Nat.le_refl 0) (Nat.le_refl 0)
  have h := if_f c1_4 h
  by_cases c1_5 : x1 = 5
  · have h := if_t c1_5 h
    refine x_tin (v := 5) (off := 106) (tgt := 107) d_Bs_count_1 c1_5 (by decide +kernel) ?_
    refine x_aload_n (i := 0) d_Bs_count_107 rfl rfl ?_
    refine x_getS (f := 95) (b := 8) gl_Bs_39_11 rfl kf_95 rfl (hG.ob oc_0) d_Bs_count_108 ?_
    refine x_getI (f := 42) gl_Bs_100_5 rfl kf_42 (hG.ob oc_8) d_Bs_count_111 ?_
    refine x_if_eq (tgt := 127) d_Bs_count_114 (by decide) (fun c114 => ?_) (fun c114 => ?_)
    · have h := if_t c114 h
      refine x_ic (v := 0) d_Bs_count_127 (by decide) ?_
      replace h := Option.some.inj h; subst h
      exact x_iret rfl d_Bs_count_128 (Nat.le_refl 0) (Nat.le_refl 0)
    · have h := if_f c114 h
      refine x_aload_n (i := 0) d_Bs_count_117 rfl rfl ?_
      refine x_getS (f := 95) (b := 8) gl_Bs_39_11 rfl kf_95 rfl (hG.ob oc_0) d_Bs_count_118 ?_
      refine x_getI (f := 44) gl_Bs_341_5 rfl kf_44 (hG.ob oc_8) d_Bs_count_121 ?_
      refine x_goto (tgt := 128) d_Bs_count_124 (by decide) ?_
      replace h := Option.some.inj h; subst h
      exact x_iret rfl d_Bs_count_128 (Nat.le_refl 0) (Nat.le_refl 0)
  have h := if_f c1_5 h
  by_cases c1_6 : x1 = 6
  · have h := if_t c1_6 h
    refine x_tin (v := 6) (off := 128) (tgt := 129) d_Bs_count_1 c1_6 (by decide +kernel) ?_
    refine x_aload_n (i := 0) d_Bs_count_129 rfl rfl ?_
    refine x_getS (f := 97) (b := 14) gl_Bs_51_11 rfl kf_97 rfl (hG.ob oc_0) d_Bs_count_130 ?_
    refine x_getI (f := 10) gl_Bs_274_0 rfl kf_10 (hG.ob oc_14) d_Bs_count_133 ?_
    replace h := Option.some.inj h; subst h
    exact x_iret rfl d_Bs_count_136 (Nat.le_refl 0) (Nat.le_refl 0)
  have h := if_f c1_6 h
  by_cases c1_7 : x1 = 7
  · have h := if_t c1_7 h
    refine x_tin (v := 7) (off := 136) (tgt := 137) d_Bs_count_1 c1_7 (by decide +kernel) ?_
    refine x_aload_n (i := 0) d_Bs_count_137 rfl rfl ?_
    refine x_getR (f := 99) gl_Bs_61_11 rfl kf_99 (hG.ob oc_0) d_Bs_count_138 ?_
    obtain ⟨q141, h⟩ := gd_e h
    rw [prod0 q141.1]
    refine x_getI (f := 80) gl_Bs_287_10 rfl kf_80 (hG.ob q141.2) d_Bs_count_141 ?_
    replace h := Option.some.inj h; subst h
    exact x_iret rfl d_Bs_count_144 (Nat.le_refl 0) (Nat.le_refl 0)
  have h := if_f c1_7 h
  by_cases c1_8 : x1 = 8
  · have h := if_t c1_8 h
    refine x_tin (v := 8) (off := 144) (tgt := 145) d_Bs_count_1 c1_8 (by decide +kernel) ?_
    refine x_aload_n (i := 0) d_Bs_count_145 rfl rfl ?_
    obtain ⟨v146, ev146, h⟩ := bn_e h
    refine y_V0 cs_Bs_229 rfl (hG.ob oc_0) (by first | decide | omega) (Nat.le_of_ble_eq_true rfl) d_Bs_count_146 (c_Bs_shown hG   δ v146 ev146) (Nat.le_refl 0) (Nat.le_refl 0) ?_
    obtain ⟨q149_0, h⟩ := gd_e h
    rw [prod0 q149_0.1]
    obtain ⟨v149, ev149, h⟩ := bd_e h
    refine y_V0 cs_Bs_344 rfl (hG.ob q149_0.2) (by first | decide | omega) (Nat.le_of_ble_eq_true rfl) d_Bs_count_149 (c_St_allThings hG v146.2 q149_0.2 δ v149 ev149) (Nat.le_refl 0) (Nat.le_refl 0) ?_
    replace h := Option.some.inj h; subst h
    exact x_iret rfl d_Bs_count_152 (Nat.le_refl 0) (Nat.le_refl 0)
  have h := if_f c1_8 h
  by_cases c1_9 : x1 = 9
  · have h := if_t c1_9 h
    refine x_tin (v := 9) (off := 152) (tgt := 153) d_Bs_count_1 c1_9 (by decide +kernel) ?_
    exact t_cnt9 hG hL r h
  have h := if_f c1_9 h
  have n1_0 := lv_neT (a := 0) c1_0 (by decide)
  have n1_1 := lv_neT (a := 1) c1_1 (by decide)
  have n1_2 := lv_neT (a := 2) c1_2 (by decide)
  have n1_3 := lv_neT (a := 3) c1_3 (by decide)
  have n1_4 := lv_neT (a := 4) c1_4 (by decide)
  have n1_5 := lv_neT (a := 5) c1_5 (by decide)
  have n1_6 := lv_neT (a := 6) c1_6 (by decide)
  have n1_7 := lv_neT (a := 7) c1_7 (by decide)
  have n1_8 := lv_neT (a := 8) c1_8 (by decide)
  have n1_9 := lv_neT (a := 9) c1_9 (by decide)
  refine x_tout (tgt := 172) d_Bs_count_1 (by omega) (by decide) ?_
  refine x_bi (v := -2) d_Bs_count_172 (by decide) ?_
  replace h := Option.some.inj h; subst h
  exact x_iret rfl d_Bs_count_174 (Nat.le_refl 0) (Nat.le_refl 0)
