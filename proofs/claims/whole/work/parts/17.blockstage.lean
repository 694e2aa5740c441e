/-! walks by program (wip/whole/gen.py): 17.blockstage -/
abbrev M_Bs_stage : MM := (⟨RX11, "stage", "(II)I"⟩, prog_1_method_2_code, 3, (some .int))
abbrev M_Bs_wall : MM := (⟨RX11, "wall", "(III)I"⟩, prog_1_method_3_code, 5, (some .int))
abbrev M_Bs_things : MM := (⟨RX11, "things", "(III)I"⟩, prog_1_method_4_code, 5, (some .int))
abbrev M_Bs_actor : MM := (⟨RX11, "actor", "(III)I"⟩, prog_1_method_5_code, 5, (some .int))
abbrev M_Bs_lay : MM := (⟨RX11, "lay", "(III)I"⟩, prog_1_method_6_code, 4, (some .int))
abbrev M_Bs_keep : MM := (⟨RX11, "keep", "()I"⟩, prog_1_method_7_code, 2, (some .int))
abbrev M_Bs_keptAt : MM := (⟨RX11, "keptAt", "(I)LBlockStage$Stage;"⟩, prog_1_method_9_code, 2, (some (.object "BlockStage$Stage")))
abbrev M_Bs_use : MM := (⟨RX11, "use", "(I)I"⟩, prog_1_method_8_code, 3, (some .int))
abbrev M_Bs_block : MM := (⟨RX11, "block", "(II)I"⟩, prog_1_method_10_code, 3, (some .int))
abbrev M_Bs_join : MM := (⟨RX11, "join", "(III)I"⟩, prog_1_method_11_code, 4, (some .int))
abbrev M_Bs_take : MM := (⟨RX11, "take", "(I)I"⟩, prog_1_method_12_code, 2, (some .int))
abbrev M_Bs_number : MM := (⟨RX11, "number", "(II)I"⟩, prog_1_method_13_code, 5, (some .int))
abbrev M_Bs_cue : MM := (⟨RX11, "cue", "(IIII)I"⟩, prog_1_method_14_code, 5, (some .int))
abbrev M_Bs_top : MM := (⟨RX11, "top", "(II)I"⟩, prog_1_method_15_code, 3, (some .int))
abbrev M_Bs_shown : MM := (⟨RX11, "shown", "()LBlockStage$Stage;"⟩, prog_1_method_20_code, 1, (some (.object "BlockStage$Stage")))
abbrev M_Bs_look : MM := (⟨RX11, "look", "(II)I"⟩, prog_1_method_16_code, 3, (some .int))
abbrev M_Bs_hole : MM := (⟨RX11, "hole", "(II)I"⟩, prog_1_method_17_code, 3, (some .int))
abbrev M_Bs_of : MM := (⟨RX11, "of", "(II)I"⟩, prog_1_method_18_code, 3, (some .int))
abbrev M_Bs_scriptOf : MM := (⟨RX11, "scriptOf", "(II)I"⟩, prog_1_method_19_code, 3, (some .int))
abbrev M_Bs_flag : MM := (⟨RX11, "flag", "()I"⟩, prog_1_method_21_code, 1, (some .int))
abbrev M_Bs_tick : MM := (⟨RX11, "tick", "(I)I"⟩, prog_1_method_22_code, 3, (some .int))
abbrev M_Bs_back : MM := (⟨RX11, "back", "(I)I"⟩, prog_1_method_23_code, 4, (some .int))
abbrev M_Bs_who : MM := (⟨RX11, "who", "(II)I"⟩, prog_1_method_24_code, 3, (some .int))
abbrev M_Bs_item : MM := (⟨RX11, "item", "(II)I"⟩, prog_1_method_25_code, 3, (some .int))
abbrev M_Bs_said : MM := (⟨RX11, "said", "(II)I"⟩, prog_1_method_26_code, 3, (some .int))
abbrev M_Bs_feed : MM := (⟨RX11, "feed", "(II)I"⟩, prog_1_method_27_code, 4, (some .int))
abbrev M_Bs_wish : MM := (⟨RX11, "wish", "()I"⟩, prog_1_method_28_code, 3, (some .int))
abbrev M_Bs_canMark : MM := (⟨RX11, "canMark", "()Z"⟩, prog_1_method_33_code, 1, (some .boolean))
abbrev M_Bs_mark : MM := (⟨RX11, "mark", "(I)I"⟩, prog_1_method_29_code, 5, (some .int))
abbrev M_Bs_fails : MM := (⟨RX11, "fails", "(I)I"⟩, prog_1_method_30_code, 2, (some .int))
abbrev M_Bs_isRight : MM := (⟨RX11, "isRight", "(I)Z"⟩, prog_1_method_34_code, 4, (some .boolean))
abbrev M_Bs_setHint : MM := (⟨RX11, "setHint", "(II)V"⟩, prog_1_method_37_code, 3, none)
abbrev M_Bs_isRightByOne : MM := (⟨RX11, "isRightByOne", "(I)Z"⟩, prog_1_method_35_code, 4, (some .boolean))
abbrev M_Bs_isRightByTwo : MM := (⟨RX11, "isRightByTwo", "(I)Z"⟩, prog_1_method_36_code, 5, (some .boolean))
abbrev M_Bs_least : MM := (⟨RX11, "least", "(I)I"⟩, prog_1_method_31_code, 2, (some .int))
abbrev M_Bs_hint : MM := (⟨RX11, "hint", "(II)I"⟩, prog_1_method_32_code, 4, (some .int))
abbrev M_Bs_write : MM := (⟨RX11, "write", "(I)I"⟩, prog_1_method_38_code, 3, (some .int))
abbrev M_Bs_text : MM := (⟨RX11, "text", "(I)I"⟩, prog_1_method_39_code, 2, (some .int))
abbrev M_Bs_familyOf : MM := (⟨RX11, "familyOf", "(I)LBlockStage$Family;"⟩, prog_1_method_44_code, 4, (some (.object "BlockStage$Family")))
abbrev M_Bs_act : MM := (⟨RX11, "act", "(III)I"⟩, prog_1_method_40_code, 5, (some .int))
abbrev M_Bs_trace : MM := (⟨RX11, "trace", "(I)I"⟩, prog_1_method_41_code, 2, (some .int))
abbrev M_Bs_taken : MM := (⟨RX11, "taken", "(II)I"⟩, prog_1_method_42_code, 4, (some .int))
abbrev M_Bs_count : MM := (⟨RX11, "count", "(I)I"⟩, prog_1_method_43_code, 2, (some .int))
abbrev M_Bs_sheet : MM := (⟨RX11, "sheet", "(III)I"⟩, prog_1_method_45_code, 4, (some .int))
abbrev M_Bs_cell : MM := (⟨RX11, "cell", "(III)I"⟩, prog_1_method_46_code, 4, (some .int))
abbrev M_Bs_copy : MM := (⟨RX11, "copy", "(IIIII)I"⟩, prog_1_method_47_code, 6, (some .int))
-- BlockStage.stage(II)I
theorem d_Bs_stage_0 : decode M_Bs_stage.2.1 0 = .ok (.iload_n 1, 1) := by decide +kernel
theorem d_Bs_stage_1 : decode M_Bs_stage.2.1 1 = .ok (.iconst 1, 1) := by decide +kernel
theorem d_Bs_stage_2 : decode M_Bs_stage.2.1 2 = .ok (.if_icmp .lt 20, 3) := by decide +kernel
theorem d_Bs_stage_5 : decode M_Bs_stage.2.1 5 = .ok (.iload_n 1, 1) := by decide +kernel
theorem d_Bs_stage_6 : decode M_Bs_stage.2.1 6 = .ok (.bipush 8, 2) := by decide +kernel
theorem d_Bs_stage_8 : decode M_Bs_stage.2.1 8 = .ok (.if_icmp .gt 14, 3) := by decide +kernel
theorem d_Bs_stage_11 : decode M_Bs_stage.2.1 11 = .ok (.iload_n 2, 1) := by decide +kernel
theorem d_Bs_stage_12 : decode M_Bs_stage.2.1 12 = .ok (.iconst 1, 1) := by decide +kernel
theorem d_Bs_stage_13 : decode M_Bs_stage.2.1 13 = .ok (.if_icmp .lt 9, 3) := by decide +kernel
theorem d_Bs_stage_16 : decode M_Bs_stage.2.1 16 = .ok (.iload_n 2, 1) := by decide +kernel
theorem d_Bs_stage_17 : decode M_Bs_stage.2.1 17 = .ok (.bipush 8, 2) := by decide +kernel
theorem d_Bs_stage_19 : decode M_Bs_stage.2.1 19 = .ok (.if_icmp .le 6, 3) := by decide +kernel
theorem d_Bs_stage_22 : decode M_Bs_stage.2.1 22 = .ok (.bipush (-2), 2) := by decide +kernel
theorem d_Bs_stage_24 : decode M_Bs_stage.2.1 24 = .ok (.ireturn, 1) := by decide +kernel
theorem d_Bs_stage_25 : decode M_Bs_stage.2.1 25 = .ok (.aload_n 0, 1) := by decide +kernel
theorem d_Bs_stage_26 : decode M_Bs_stage.2.1 26 = .ok (.getfield 24, 3) := by decide +kernel
theorem d_Bs_stage_29 : decode M_Bs_stage.2.1 29 = .ok (.iload_n 1, 1) := by decide +kernel
theorem d_Bs_stage_30 : decode M_Bs_stage.2.1 30 = .ok (.iload_n 2, 1) := by decide +kernel
theorem d_Bs_stage_31 : decode M_Bs_stage.2.1 31 = .ok (.invokevirtual 96, 3) := by decide +kernel
theorem d_Bs_stage_34 : decode M_Bs_stage.2.1 34 = .ok (.aload_n 0, 1) := by decide +kernel
theorem d_Bs_stage_35 : decode M_Bs_stage.2.1 35 = .ok (.getfield 39, 3) := by decide +kernel
theorem d_Bs_stage_38 : decode M_Bs_stage.2.1 38 = .ok (.iconst 0, 1) := by decide +kernel
theorem d_Bs_stage_39 : decode M_Bs_stage.2.1 39 = .ok (.putfield 100, 3) := by decide +kernel
theorem d_Bs_stage_42 : decode M_Bs_stage.2.1 42 = .ok (.iconst 1, 1) := by decide +kernel
theorem d_Bs_stage_43 : decode M_Bs_stage.2.1 43 = .ok (.ireturn, 1) := by decide +kernel
theorem oc_0 : Oc 0 11 := by decide
theorem gl_Bs_24_11 : GL RX11 24 11 2 := ⟨RX11, TX11, 18, RX11, rfl, by decide, (lwg_at 237 (by decide +kernel) rfl), Or.inl rfl, gl_w inX11⟩
theorem oc_3 : Oc 3 9 := by decide
theorem mi_St_empty : MI M_St_empty 2 := ⟨(lwg_at 3 (by decide +kernel) rfl), (lwg_at 64 (by decide +kernel) rfl), ⟨by decide +kernel, by decide +kernel⟩, by decide +kernel, by decide⟩
theorem cs_Bs_96 : CV RX11 96 RX9 M_St_empty 2 := ⟨(lwg_at 294 (by decide +kernel) rfl), (lwg_at 62 (by decide +kernel) rfl), (lwg_at 63 (by decide +kernel) rfl), mi_St_empty⟩
theorem gl_Bs_39_11 : GL RX11 39 11 5 := ⟨RX11, TX11, 18, RX11, rfl, by decide, (lwg_at 240 (by decide +kernel) rfl), Or.inl rfl, gl_w inX11⟩
theorem oc_8 : Oc 8 5 := by decide
theorem gp_Bs_100_5 : GP RX11 100 5 2 false .boolean := ⟨RX5, TX5, 14, RX5, tyX5, rfl, by decide, (lwg_at 127 (by decide +kernel) rfl), rfl, gl_w inX5, tyX5_ok, nmX5, rfl, by decide +kernel, fun h => by first | rfl | cases h⟩
def F_Bs_stage (x1 : Int32) (x2 : Int32) (δ : Dl) : Option (Int32 × Dl) :=
  if x1 < 1 then (some ((-2), δ)) else (if 8 < x1 then (some ((-2), δ)) else (if x2 < 1 then (some ((-2), δ)) else (if x2 ≤ 8 then ((F_St_empty 3 x1 x2 δ).bind fun δ31 => bnd (sI δ31 42 8 0) fun δ39 => some (1, δ39)) else (some ((-2), δ)))))
set_option maxRecDepth 20000 in
set_option maxHeartbeats 4000000 in
theorem c_Bs_stage {l : Launch} {Γ : Gm} (hG : GC Γ) (x1 : Int32) (x2 : Int32) (δ : Dl) (r : Int32 × Dl) (h : F_Bs_stage x1 x2  δ = some r) : Ct l M_Bs_stage 3 0 0 NF [.inr (0, 0), .inl x1, .inl x2] Γ δ (some (.inl r.1), Γ, r.2) := by
  unfold F_Bs_stage at h
  refine Ct.of2 (n := 0) (ls := [some (.inr (0, 0)), some (.inl x1), some (.inl x2)]) rfl (by decide +kernel) (Nat.le_of_ble_eq_true rfl) ?_
  refine x_iload_n (i := 1) d_Bs_stage_0 rfl rfl ?_
  refine x_ic (v := 1) d_Bs_stage_1 (by decide) ?_
  refine x_cmp_lt (tgt := 22) d_Bs_stage_2 (by decide) (fun c2 => ?_) (fun c2 => ?_)
  · have h := if_t c2 h
    refine x_bi (v := -2) d_Bs_stage_22 (by decide) ?_
    replace h := Option.some.inj h; subst h
    exact x_iret rfl d_Bs_stage_24 (Nat.le_refl 0) (Nat.le_refl 0)
  · have h := if_f c2 h
    refine x_iload_n (i := 1) d_Bs_stage_5 rfl rfl ?_
    refine x_bi (v := 8) d_Bs_stage_6 (by decide) ?_
    refine x_cmp_gt (tgt := 22) d_Bs_stage_8 (by decide) (fun c8 => ?_) (fun c8 => ?_)
    · have h := if_t c8 h
      refine x_bi (v := -2) d_Bs_stage_22 (by decide) ?_
      replace h := Option.some.inj h; subst h
      exact x_iret rfl d_Bs_stage_24 (Nat.le_refl 0) (Nat.le_refl 0)
    · have h := if_f c8 h
      refine x_iload_n (i := 2) d_Bs_stage_11 rfl rfl ?_
      refine x_ic (v := 1) d_Bs_stage_12 (by decide) ?_
      refine x_cmp_lt (tgt := 22) d_Bs_stage_13 (by decide) (fun c13 => ?_) (fun c13 => ?_)
      · have h := if_t c13 h
        refine x_bi (v := -2) d_Bs_stage_22 (by decide) ?_
        replace h := Option.some.inj h; subst h
        exact x_iret rfl d_Bs_stage_24 (Nat.le_refl 0) (Nat.le_refl 0)
      · have h := if_f c13 h
        refine x_iload_n (i := 2) d_Bs_stage_16 rfl rfl ?_
        refine x_bi (v := 8) d_Bs_stage_17 (by decide) ?_
        refine x_cmp_le (tgt := 25) d_Bs_stage_19 (by decide) (fun c19 => ?_) (fun c19 => ?_)
        · have h := if_t c19 h
          refine x_aload_n (i := 0) d_Bs_stage_25 rfl rfl ?_
          refine x_getS (f := 92) (b := 3) gl_Bs_24_11 rfl kf_92 rfl (hG.ob oc_0) d_Bs_stage_26 ?_
          refine x_iload_n (i := 1) d_Bs_stage_29 rfl rfl ?_
          refine x_iload_n (i := 2) d_Bs_stage_30 rfl rfl ?_
          obtain ⟨δ31, eδ31, h⟩ := bd_e h
          refine y_V2v cs_Bs_96 rfl (hG.ob oc_3) (by first | decide | omega) (Nat.le_of_ble_eq_true rfl) d_Bs_stage_31 (c_St_empty hG 3 x1 x2 oc_3 δ δ31 eδ31) (Nat.le_refl 0) (Nat.le_refl 0) ?_
          refine x_aload_n (i := 0) d_Bs_stage_34 rfl rfl ?_
          refine x_getS (f := 95) (b := 8) gl_Bs_39_11 rfl kf_95 rfl (hG.ob oc_0) d_Bs_stage_35 ?_
          refine x_ic (v := 0) d_Bs_stage_38 (by decide) ?_
          obtain ⟨δ39, eδ39, h⟩ := bn_e h
          refine x_putI (f := 42) gp_Bs_100_5 rfl kf_42 (fun h => by cases h) rfl rfl (hG.ob oc_8).1 (hG.ob oc_8).z d_Bs_stage_39 (Xe.cδ eδ39 ?_)
          refine x_ic (v := 1) d_Bs_stage_42 (by decide) ?_
          replace h := Option.some.inj h; subst h
          exact x_iret rfl d_Bs_stage_43 (Nat.le_refl 0) (Nat.le_refl 0)
        · have h := if_f c19 h
          refine x_bi (v := -2) d_Bs_stage_22 (by decide) ?_
          replace h := Option.some.inj h; subst h
          exact x_iret rfl d_Bs_stage_24 (Nat.le_refl 0) (Nat.le_refl 0)
-- BlockStage.wall(III)I
theorem d_Bs_wall_0 : decode M_Bs_wall.2.1 0 = .ok (.aload_n 0, 1) := by decide +kernel
theorem d_Bs_wall_1 : decode M_Bs_wall.2.1 1 = .ok (.getfield 24, 3) := by decide +kernel
theorem d_Bs_wall_4 : decode M_Bs_wall.2.1 4 = .ok (.iload_n 1, 1) := by decide +kernel
theorem d_Bs_wall_5 : decode M_Bs_wall.2.1 5 = .ok (.iload_n 2, 1) := by decide +kernel
theorem d_Bs_wall_6 : decode M_Bs_wall.2.1 6 = .ok (.invokevirtual 103, 3) := by decide +kernel
theorem d_Bs_wall_9 : decode M_Bs_wall.2.1 9 = .ok (.istore 4, 2) := by decide +kernel
theorem d_Bs_wall_11 : decode M_Bs_wall.2.1 11 = .ok (.iload 4, 2) := by decide +kernel
theorem d_Bs_wall_13 : decode M_Bs_wall.2.1 13 = .ok (.bipush (-5), 2) := by decide +kernel
theorem d_Bs_wall_15 : decode M_Bs_wall.2.1 15 = .ok (.if_icmp .ne 5, 3) := by decide +kernel
theorem d_Bs_wall_18 : decode M_Bs_wall.2.1 18 = .ok (.iconst (-1), 1) := by decide +kernel
theorem d_Bs_wall_19 : decode M_Bs_wall.2.1 19 = .ok (.ireturn, 1) := by decide +kernel
theorem d_Bs_wall_20 : decode M_Bs_wall.2.1 20 = .ok (.iload_n 3, 1) := by decide +kernel
theorem d_Bs_wall_21 : decode M_Bs_wall.2.1 21 = .ok (.ifCond .eq 11, 3) := by decide +kernel
theorem d_Bs_wall_24 : decode M_Bs_wall.2.1 24 = .ok (.iload_n 3, 1) := by decide +kernel
theorem d_Bs_wall_25 : decode M_Bs_wall.2.1 25 = .ok (.iconst 1, 1) := by decide +kernel
theorem d_Bs_wall_26 : decode M_Bs_wall.2.1 26 = .ok (.if_icmp .eq 6, 3) := by decide +kernel
theorem d_Bs_wall_29 : decode M_Bs_wall.2.1 29 = .ok (.bipush (-2), 2) := by decide +kernel
theorem d_Bs_wall_31 : decode M_Bs_wall.2.1 31 = .ok (.ireturn, 1) := by decide +kernel
theorem d_Bs_wall_32 : decode M_Bs_wall.2.1 32 = .ok (.iload 4, 2) := by decide +kernel
theorem d_Bs_wall_34 : decode M_Bs_wall.2.1 34 = .ok (.ifCond .gt 15, 3) := by decide +kernel
theorem d_Bs_wall_37 : decode M_Bs_wall.2.1 37 = .ok (.aload_n 0, 1) := by decide +kernel
theorem d_Bs_wall_38 : decode M_Bs_wall.2.1 38 = .ok (.getfield 24, 3) := by decide +kernel
theorem d_Bs_wall_41 : decode M_Bs_wall.2.1 41 = .ok (.iload_n 1, 1) := by decide +kernel
theorem d_Bs_wall_42 : decode M_Bs_wall.2.1 42 = .ok (.iload_n 2, 1) := by decide +kernel
theorem d_Bs_wall_43 : decode M_Bs_wall.2.1 43 = .ok (.invokevirtual 107, 3) := by decide +kernel
theorem d_Bs_wall_46 : decode M_Bs_wall.2.1 46 = .ok (.ifCond .eq 6, 3) := by decide +kernel
theorem d_Bs_wall_49 : decode M_Bs_wall.2.1 49 = .ok (.bipush (-3), 2) := by decide +kernel
theorem d_Bs_wall_51 : decode M_Bs_wall.2.1 51 = .ok (.ireturn, 1) := by decide +kernel
theorem d_Bs_wall_52 : decode M_Bs_wall.2.1 52 = .ok (.aload_n 0, 1) := by decide +kernel
theorem d_Bs_wall_53 : decode M_Bs_wall.2.1 53 = .ok (.getfield 24, 3) := by decide +kernel
theorem d_Bs_wall_56 : decode M_Bs_wall.2.1 56 = .ok (.iload_n 1, 1) := by decide +kernel
theorem d_Bs_wall_57 : decode M_Bs_wall.2.1 57 = .ok (.iload_n 2, 1) := by decide +kernel
theorem d_Bs_wall_58 : decode M_Bs_wall.2.1 58 = .ok (.iload_n 3, 1) := by decide +kernel
theorem d_Bs_wall_59 : decode M_Bs_wall.2.1 59 = .ok (.iconst 1, 1) := by decide +kernel
theorem d_Bs_wall_60 : decode M_Bs_wall.2.1 60 = .ok (.if_icmp .ne 7, 3) := by decide +kernel
theorem d_Bs_wall_63 : decode M_Bs_wall.2.1 63 = .ok (.iconst (-1), 1) := by decide +kernel
theorem d_Bs_wall_64 : decode M_Bs_wall.2.1 64 = .ok (.goto 4, 3) := by decide +kernel
theorem d_Bs_wall_67 : decode M_Bs_wall.2.1 67 = .ok (.iconst 0, 1) := by decide +kernel
theorem d_Bs_wall_68 : decode M_Bs_wall.2.1 68 = .ok (.invokevirtual 111, 3) := by decide +kernel
theorem d_Bs_wall_71 : decode M_Bs_wall.2.1 71 = .ok (.aload_n 0, 1) := by decide +kernel
theorem d_Bs_wall_72 : decode M_Bs_wall.2.1 72 = .ok (.getfield 39, 3) := by decide +kernel
theorem d_Bs_wall_75 : decode M_Bs_wall.2.1 75 = .ok (.iconst 0, 1) := by decide +kernel
theorem d_Bs_wall_76 : decode M_Bs_wall.2.1 76 = .ok (.putfield 100, 3) := by decide +kernel
theorem d_Bs_wall_79 : decode M_Bs_wall.2.1 79 = .ok (.iload 4, 2) := by decide +kernel
theorem d_Bs_wall_81 : decode M_Bs_wall.2.1 81 = .ok (.iconst (-1), 1) := by decide +kernel
theorem d_Bs_wall_82 : decode M_Bs_wall.2.1 82 = .ok (.if_icmp .ne 7, 3) := by decide +kernel
theorem d_Bs_wall_85 : decode M_Bs_wall.2.1 85 = .ok (.iconst 1, 1) := by decide +kernel
theorem d_Bs_wall_86 : decode M_Bs_wall.2.1 86 = .ok (.goto 4, 3) := by decide +kernel
theorem d_Bs_wall_89 : decode M_Bs_wall.2.1 89 = .ok (.iconst 0, 1) := by decide +kernel
theorem d_Bs_wall_90 : decode M_Bs_wall.2.1 90 = .ok (.ireturn, 1) := by decide +kernel
theorem mi_St_cellAt : MI M_St_cellAt 2 := ⟨(lwg_at 3 (by decide +kernel) rfl), (lwg_at 302 (by decide +kernel) rfl), ⟨by decide +kernel, by decide +kernel⟩, by decide +kernel, by decide⟩
theorem cs_Bs_103 : CV RX11 103 RX9 M_St_cellAt 2 := ⟨(lwg_at 299 (by decide +kernel) rfl), (lwg_at 300 (by decide +kernel) rfl), (lwg_at 301 (by decide +kernel) rfl), mi_St_cellAt⟩
theorem cs_Bs_107 : CV RX11 107 RX9 M_St_hasActorAt 2 := ⟨(lwg_at 303 (by decide +kernel) rfl), (lwg_at 304 (by decide +kernel) rfl), (lwg_at 305 (by decide +kernel) rfl), mi_St_hasActorAt⟩
theorem cs_Bs_111 : CV RX11 111 RX9 M_St_setCell 3 := ⟨(lwg_at 307 (by decide +kernel) rfl), (lwg_at 69 (by decide +kernel) rfl), (lwg_at 70 (by decide +kernel) rfl), mi_St_setCell⟩
def F_Bs_wall_68 (x1 : Int32) (x2 : Int32) (x3 : Int32) (x4 : Int32) (s0 : Int32) (s1 : Int32) (s2 : Int32) (δ : Dl) : Option (Int32 × Dl) :=
  (F_St_setCell 3 s2 s1 s0 δ).bind fun δ68 => bnd (sI δ68 42 8 0) fun δ76 => if x4 = (-1) then (some (1, δ76)) else (some (0, δ76))
set_option maxRecDepth 20000 in
set_option maxHeartbeats 4000000 in
theorem j_Bs_wall_68 {l : Launch} {Γ : Gm} (hG : GC Γ) (x1 : Int32) (x2 : Int32) (x3 : Int32) (x4 : Int32) (s0 : Int32) (s1 : Int32) (s2 : Int32) (δ : Dl) (r : Int32 × Dl) (h : F_Bs_wall_68 x1 x2 x3 x4 s0 s1 s2 δ = some r) : Xe l M_Bs_wall 2 0 0 NF 68 [some (.inr (0, 0)), none, none, none, some (.inl x4)] [.inl s0, .inl s1, .inl s2, .inr (0, 3)] 0 0 Γ δ (some (.inl r.1), Γ, r.2) := by
  unfold F_Bs_wall_68 at h
  obtain ⟨δ68, eδ68, h⟩ := bd_e h
  refine y_V3v cs_Bs_111 rfl (hG.ob oc_3) (by first | decide | omega) (Nat.le_of_ble_eq_true rfl) d_Bs_wall_68 (c_St_setCell hG 3 s2 s1 s0 oc_3 δ δ68 eδ68) (Nat.le_refl 0) (Nat.le_refl 0) ?_
  refine x_aload_n (i := 0) d_Bs_wall_71 rfl rfl ?_
  refine x_getS (f := 95) (b := 8) gl_Bs_39_11 rfl kf_95 rfl (hG.ob oc_0) d_Bs_wall_72 ?_
  refine x_ic (v := 0) d_Bs_wall_75 (by decide) ?_
  obtain ⟨δ76, eδ76, h⟩ := bn_e h
  refine x_putI (f := 42) gp_Bs_100_5 rfl kf_42 (fun h => by cases h) rfl rfl (hG.ob oc_8).1 (hG.ob oc_8).z d_Bs_wall_76 (Xe.cδ eδ76 ?_)
  refine x_iload (i := 4) d_Bs_wall_79 rfl ?_
  refine x_ic (v := -1) d_Bs_wall_81 (by decide) ?_
  refine x_cmp_ne (tgt := 89) d_Bs_wall_82 (by decide) (fun c82 => ?_) (fun c82 => ?_)
  · have h := if_f c82 h
    refine x_ic (v := 0) d_Bs_wall_89 (by decide) ?_
    replace h := Option.some.inj h; subst h
    exact x_iret rfl d_Bs_wall_90 (Nat.le_refl 0) (Nat.le_refl 0)
  · have h := if_t c82 h
    refine x_ic (v := 1) d_Bs_wall_85 (by decide) ?_
    refine x_goto (tgt := 90) d_Bs_wall_86 (by decide) ?_
    replace h := Option.some.inj h; subst h
    exact x_iret rfl d_Bs_wall_90 (Nat.le_refl 0) (Nat.le_refl 0)
def F_Bs_wall_32 (x1 : Int32) (x2 : Int32) (x3 : Int32) (x4 : Int32) (δ : Dl) : Option (Int32 × Dl) :=
  if 0 < x4 then (some ((-3), δ)) else ((F_St_hasActorAt 3 x1 x2 δ).bind fun v43 => if v43 = 0 then (if x3 = 1 then (F_Bs_wall_68 x1 x2 x3 x4 (-1) x2 x1 δ) else (F_Bs_wall_68 x1 x2 x3 x4 0 x2 x1 δ)) else (some ((-3), δ)))
set_option maxRecDepth 20000 in
set_option maxHeartbeats 4000000 in
theorem j_Bs_wall_32 {l : Launch} {Γ : Gm} (hG : GC Γ) (x1 : Int32) (x2 : Int32) (x3 : Int32) (x4 : Int32) (δ : Dl) (r : Int32 × Dl) (h : F_Bs_wall_32 x1 x2 x3 x4 δ = some r) : Xe l M_Bs_wall 2 0 0 NF 32 [some (.inr (0, 0)), some (.inl x1), some (.inl x2), some (.inl x3), some (.inl x4)] [] 0 0 Γ δ (some (.inl r.1), Γ, r.2) := by
  unfold F_Bs_wall_32 at h
  refine x_iload (i := 4) d_Bs_wall_32 rfl ?_
  refine x_if_gt (tgt := 49) d_Bs_wall_34 (by decide) (fun c34 => ?_) (fun c34 => ?_)
  · have h := if_t c34 h
    refine x_bi (v := -3) d_Bs_wall_49 (by decide) ?_
    replace h := Option.some.inj h; subst h
    exact x_iret rfl d_Bs_wall_51 (Nat.le_refl 0) (Nat.le_refl 0)
  · have h := if_f c34 h
    refine x_aload_n (i := 0) d_Bs_wall_37 rfl rfl ?_
    refine x_getS (f := 92) (b := 3) gl_Bs_24_11 rfl kf_92 rfl (hG.ob oc_0) d_Bs_wall_38 ?_
    refine x_iload_n (i := 1) d_Bs_wall_41 rfl rfl ?_
    refine x_iload_n (i := 2) d_Bs_wall_42 rfl rfl ?_
    obtain ⟨v43, ev43, h⟩ := bd_e h
    refine y_V2 cs_Bs_107 rfl (hG.ob oc_3) (by first | decide | omega) (Nat.le_of_ble_eq_true rfl) d_Bs_wall_43 (c_St_hasActorAt hG 3 x1 x2 oc_3 δ v43 ev43) (Nat.le_refl 0) (Nat.le_refl 0) ?_
    refine x_if_eq (tgt := 52) d_Bs_wall_46 (by decide) (fun c46 => ?_) (fun c46 => ?_)
    · have h := if_t c46 h
      refine x_aload_n (i := 0) d_Bs_wall_52 rfl rfl ?_
      refine x_getS (f := 92) (b := 3) gl_Bs_24_11 rfl kf_92 rfl (hG.ob oc_0) d_Bs_wall_53 ?_
      refine x_iload_n (i := 1) d_Bs_wall_56 rfl rfl ?_
      refine x_iload_n (i := 2) d_Bs_wall_57 rfl rfl ?_
      refine x_iload_n (i := 3) d_Bs_wall_58 rfl rfl ?_
      refine x_ic (v := 1) d_Bs_wall_59 (by decide) ?_
      refine x_cmp_ne (tgt := 67) d_Bs_wall_60 (by decide) (fun c60 => ?_) (fun c60 => ?_)
      · have h := if_f c60 h
        refine x_ic (v := 0) d_Bs_wall_67 (by decide) ?_
        refine x_wk (ls' := [some (.inr (0, 0)), none, none, none, some (.inl x4)]) ⟨Or.inr rfl, Or.inl rfl, Or.inl rfl, Or.inl rfl, Or.inr rfl, trivial⟩ ?_
        exact j_Bs_wall_68 hG x1 x2 x3 x4 0 x2 x1 δ r h
      · have h := if_t c60 h
        refine x_ic (v := -1) d_Bs_wall_63 (by decide) ?_
        refine x_goto (tgt := 68) d_Bs_wall_64 (by decide) ?_
        refine x_wk (ls' := [some (.inr (0, 0)), none, none, none, some (.inl x4)]) ⟨Or.inr rfl, Or.inl rfl, Or.inl rfl, Or.inl rfl, Or.inr rfl, trivial⟩ ?_
        exact j_Bs_wall_68 hG x1 x2 x3 x4 (-1) x2 x1 δ r h
    · have h := if_f c46 h
      refine x_bi (v := -3) d_Bs_wall_49 (by decide) ?_
      replace h := Option.some.inj h; subst h
      exact x_iret rfl d_Bs_wall_51 (Nat.le_refl 0) (Nat.le_refl 0)
def F_Bs_wall (x1 : Int32) (x2 : Int32) (x3 : Int32) (δ : Dl) : Option (Int32 × Dl) :=
  (F_St_cellAt 3 x1 x2 δ).bind fun v6 => if v6 = (-5) then (some ((-1), δ)) else (if x3 = 0 then (F_Bs_wall_32 x1 x2 x3 v6 δ) else (if x3 = 1 then (F_Bs_wall_32 x1 x2 x3 v6 δ) else (some ((-2), δ))))
set_option maxRecDepth 20000 in
set_option maxHeartbeats 4000000 in
theorem c_Bs_wall {l : Launch} {Γ : Gm} (hG : GC Γ) (x1 : Int32) (x2 : Int32) (x3 : Int32) (δ : Dl) (r : Int32 × Dl) (h : F_Bs_wall x1 x2 x3  δ = some r) : Ct l M_Bs_wall 2 0 0 NF [.inr (0, 0), .inl x1, .inl x2, .inl x3] Γ δ (some (.inl r.1), Γ, r.2) := by
  unfold F_Bs_wall at h
  refine Ct.of2 (n := 1) (ls := [some (.inr (0, 0)), some (.inl x1), some (.inl x2), some (.inl x3), none]) rfl (by decide +kernel) (Nat.le_of_ble_eq_true rfl) ?_
  refine x_aload_n (i := 0) d_Bs_wall_0 rfl rfl ?_
  refine x_getS (f := 92) (b := 3) gl_Bs_24_11 rfl kf_92 rfl (hG.ob oc_0) d_Bs_wall_1 ?_
  refine x_iload_n (i := 1) d_Bs_wall_4 rfl rfl ?_
  refine x_iload_n (i := 2) d_Bs_wall_5 rfl rfl ?_
  obtain ⟨v6, ev6, h⟩ := bd_e h
  refine y_V2 cs_Bs_103 rfl (hG.ob oc_3) (by first | decide | omega) (Nat.le_of_ble_eq_true rfl) d_Bs_wall_6 (c_St_cellAt hG 3 x1 x2 oc_3 δ v6 ev6) (Nat.le_refl 0) (Nat.le_refl 0) ?_
  refine x_stw (i := 4) (ls' := [some (.inr (0, 0)), some (.inl x1), some (.inl x2), some (.inl x3), some (.inl v6)]) d_Bs_wall_9 (by decide) rfl ?_
  refine x_iload (i := 4) d_Bs_wall_11 rfl ?_
  refine x_bi (v := -5) d_Bs_wall_13 (by decide) ?_
  refine x_cmp_ne (tgt := 20) d_Bs_wall_15 (by decide) (fun c15 => ?_) (fun c15 => ?_)
  · have h := if_f c15 h
    refine x_iload_n (i := 3) d_Bs_wall_20 rfl rfl ?_
    refine x_if_eq (tgt := 32) d_Bs_wall_21 (by decide) (fun c21 => ?_) (fun c21 => ?_)
    · have h := if_t c21 h
      exact j_Bs_wall_32 hG x1 x2 x3 v6 δ r h
    · have h := if_f c21 h
      refine x_iload_n (i := 3) d_Bs_wall_24 rfl rfl ?_
      refine x_ic (v := 1) d_Bs_wall_25 (by decide) ?_
      refine x_cmp_eq (tgt := 32) d_Bs_wall_26 (by decide) (fun c26 => ?_) (fun c26 => ?_)
      · have h := if_t c26 h
        exact j_Bs_wall_32 hG x1 x2 x3 v6 δ r h
      · have h := if_f c26 h
        refine x_bi (v := -2) d_Bs_wall_29 (by decide) ?_
        replace h := Option.some.inj h; subst h
        exact x_iret rfl d_Bs_wall_31 (Nat.le_refl 0) (Nat.le_refl 0)
  · have h := if_t c15 h
    refine x_ic (v := -1) d_Bs_wall_18 (by decide) ?_
    replace h := Option.some.inj h; subst h
    exact x_iret rfl d_Bs_wall_19 (Nat.le_refl 0) (Nat.le_refl 0)
-- BlockStage.things(III)I
theorem d_Bs_things_0 : decode M_Bs_things.2.1 0 = .ok (.aload_n 0, 1) := by decide +kernel
theorem d_Bs_things_1 : decode M_Bs_things.2.1 1 = .ok (.getfield 24, 3) := by decide +kernel
theorem d_Bs_things_4 : decode M_Bs_things.2.1 4 = .ok (.iload_n 1, 1) := by decide +kernel
theorem d_Bs_things_5 : decode M_Bs_things.2.1 5 = .ok (.iload_n 2, 1) := by decide +kernel
theorem d_Bs_things_6 : decode M_Bs_things.2.1 6 = .ok (.invokevirtual 103, 3) := by decide +kernel
theorem d_Bs_things_9 : decode M_Bs_things.2.1 9 = .ok (.istore 4, 2) := by decide +kernel
theorem d_Bs_things_11 : decode M_Bs_things.2.1 11 = .ok (.iload 4, 2) := by decide +kernel
theorem d_Bs_things_13 : decode M_Bs_things.2.1 13 = .ok (.bipush (-5), 2) := by decide +kernel
theorem d_Bs_things_15 : decode M_Bs_things.2.1 15 = .ok (.if_icmp .ne 5, 3) := by decide +kernel
theorem d_Bs_things_18 : decode M_Bs_things.2.1 18 = .ok (.iconst (-1), 1) := by decide +kernel
theorem d_Bs_things_19 : decode M_Bs_things.2.1 19 = .ok (.ireturn, 1) := by decide +kernel
theorem d_Bs_things_20 : decode M_Bs_things.2.1 20 = .ok (.iload_n 3, 1) := by decide +kernel
theorem d_Bs_things_21 : decode M_Bs_things.2.1 21 = .ok (.ifCond .lt 9, 3) := by decide +kernel
theorem d_Bs_things_24 : decode M_Bs_things.2.1 24 = .ok (.iload_n 3, 1) := by decide +kernel
theorem d_Bs_things_25 : decode M_Bs_things.2.1 25 = .ok (.bipush 9, 2) := by decide +kernel
theorem d_Bs_things_27 : decode M_Bs_things.2.1 27 = .ok (.if_icmp .le 6, 3) := by decide +kernel
theorem d_Bs_things_30 : decode M_Bs_things.2.1 30 = .ok (.bipush (-2), 2) := by decide +kernel
theorem d_Bs_things_32 : decode M_Bs_things.2.1 32 = .ok (.ireturn, 1) := by decide +kernel
theorem d_Bs_things_33 : decode M_Bs_things.2.1 33 = .ok (.iload 4, 2) := by decide +kernel
theorem d_Bs_things_35 : decode M_Bs_things.2.1 35 = .ok (.iconst (-1), 1) := by decide +kernel
theorem d_Bs_things_36 : decode M_Bs_things.2.1 36 = .ok (.if_icmp .ne 6, 3) := by decide +kernel
theorem d_Bs_things_39 : decode M_Bs_things.2.1 39 = .ok (.bipush (-3), 2) := by decide +kernel
theorem d_Bs_things_41 : decode M_Bs_things.2.1 41 = .ok (.ireturn, 1) := by decide +kernel
theorem d_Bs_things_42 : decode M_Bs_things.2.1 42 = .ok (.aload_n 0, 1) := by decide +kernel
theorem d_Bs_things_43 : decode M_Bs_things.2.1 43 = .ok (.getfield 24, 3) := by decide +kernel
theorem d_Bs_things_46 : decode M_Bs_things.2.1 46 = .ok (.iload_n 1, 1) := by decide +kernel
theorem d_Bs_things_47 : decode M_Bs_things.2.1 47 = .ok (.iload_n 2, 1) := by decide +kernel
theorem d_Bs_things_48 : decode M_Bs_things.2.1 48 = .ok (.iload_n 3, 1) := by decide +kernel
theorem d_Bs_things_49 : decode M_Bs_things.2.1 49 = .ok (.invokevirtual 111, 3) := by decide +kernel
theorem d_Bs_things_52 : decode M_Bs_things.2.1 52 = .ok (.aload_n 0, 1) := by decide +kernel
theorem d_Bs_things_53 : decode M_Bs_things.2.1 53 = .ok (.getfield 39, 3) := by decide +kernel
theorem d_Bs_things_56 : decode M_Bs_things.2.1 56 = .ok (.iconst 0, 1) := by decide +kernel
theorem d_Bs_things_57 : decode M_Bs_things.2.1 57 = .ok (.putfield 100, 3) := by decide +kernel
theorem d_Bs_things_60 : decode M_Bs_things.2.1 60 = .ok (.iload 4, 2) := by decide +kernel
theorem d_Bs_things_62 : decode M_Bs_things.2.1 62 = .ok (.ireturn, 1) := by decide +kernel
def F_Bs_things (x1 : Int32) (x2 : Int32) (x3 : Int32) (δ : Dl) : Option (Int32 × Dl) :=
  (F_St_cellAt 3 x1 x2 δ).bind fun v6 => if v6 = (-5) then (some ((-1), δ)) else (if x3 < 0 then (some ((-2), δ)) else (if x3 ≤ 9 then (if v6 = (-1) then (some ((-3), δ)) else ((F_St_setCell 3 x1 x2 x3 δ).bind fun δ49 => bnd (sI δ49 42 8 0) fun δ57 => some (v6, δ57))) else (some ((-2), δ))))
set_option maxRecDepth 20000 in
set_option maxHeartbeats 4000000 in
theorem c_Bs_things {l : Launch} {Γ : Gm} (hG : GC Γ) (x1 : Int32) (x2 : Int32) (x3 : Int32) (δ : Dl) (r : Int32 × Dl) (h : F_Bs_things x1 x2 x3  δ = some r) : Ct l M_Bs_things 2 0 0 NF [.inr (0, 0), .inl x1, .inl x2, .inl x3] Γ δ (some (.inl r.1), Γ, r.2) := by
  unfold F_Bs_things at h
  refine Ct.of2 (n := 1) (ls := [some (.inr (0, 0)), some (.inl x1), some (.inl x2), some (.inl x3), none]) rfl (by decide +kernel) (Nat.le_of_ble_eq_true rfl) ?_
  refine x_aload_n (i := 0) d_Bs_things_0 rfl rfl ?_
  refine x_getS (f := 92) (b := 3) gl_Bs_24_11 rfl kf_92 rfl (hG.ob oc_0) d_Bs_things_1 ?_
  refine x_iload_n (i := 1) d_Bs_things_4 rfl rfl ?_
  refine x_iload_n (i := 2) d_Bs_things_5 rfl rfl ?_
  obtain ⟨v6, ev6, h⟩ := bd_e h
  refine y_V2 cs_Bs_103 rfl (hG.ob oc_3) (by first | decide | omega) (Nat.le_of_ble_eq_true rfl) d_Bs_things_6 (c_St_cellAt hG 3 x1 x2 oc_3 δ v6 ev6) (Nat.le_refl 0) (Nat.le_refl 0) ?_
  refine x_stw (i := 4) (ls' := [some (.inr (0, 0)), some (.inl x1), some (.inl x2), some (.inl x3), some (.inl v6)]) d_Bs_things_9 (by decide) rfl ?_
  refine x_iload (i := 4) d_Bs_things_11 rfl ?_
  refine x_bi (v := -5) d_Bs_things_13 (by decide) ?_
  refine x_cmp_ne (tgt := 20) d_Bs_things_15 (by decide) (fun c15 => ?_) (fun c15 => ?_)
  · have h := if_f c15 h
    refine x_iload_n (i := 3) d_Bs_things_20 rfl rfl ?_
    refine x_if_lt (tgt := 30) d_Bs_things_21 (by decide) (fun c21 => ?_) (fun c21 => ?_)
    · have h := if_t c21 h
      refine x_bi (v := -2) d_Bs_things_30 (by decide) ?_
      replace h := Option.some.inj h; subst h
      exact x_iret rfl d_Bs_things_32 (Nat.le_refl 0) (Nat.le_refl 0)
    · have h := if_f c21 h
      refine x_iload_n (i := 3) d_Bs_things_24 rfl rfl ?_
      refine x_bi (v := 9) d_Bs_things_25 (by decide) ?_
      refine x_cmp_le (tgt := 33) d_Bs_things_27 (by decide) (fun c27 => ?_) (fun c27 => ?_)
      · have h := if_t c27 h
        refine x_iload (i := 4) d_Bs_things_33 rfl ?_
        refine x_ic (v := -1) d_Bs_things_35 (by decide) ?_
        refine x_cmp_ne (tgt := 42) d_Bs_things_36 (by decide) (fun c36 => ?_) (fun c36 => ?_)
        · have h := if_f c36 h
          refine x_aload_n (i := 0) d_Bs_things_42 rfl rfl ?_
          refine x_getS (f := 92) (b := 3) gl_Bs_24_11 rfl kf_92 rfl (hG.ob oc_0) d_Bs_things_43 ?_
          refine x_iload_n (i := 1) d_Bs_things_46 rfl rfl ?_
          refine x_iload_n (i := 2) d_Bs_things_47 rfl rfl ?_
          refine x_iload_n (i := 3) d_Bs_things_48 rfl rfl ?_
          obtain ⟨δ49, eδ49, h⟩ := bd_e h
          refine y_V3v cs_Bs_111 rfl (hG.ob oc_3) (by first | decide | omega) (Nat.le_of_ble_eq_true rfl) d_Bs_things_49 (c_St_setCell hG 3 x1 x2 x3 oc_3 δ δ49 eδ49) (Nat.le_refl 0) (Nat.le_refl 0) ?_
          refine x_aload_n (i := 0) d_Bs_things_52 rfl rfl ?_
          refine x_getS (f := 95) (b := 8) gl_Bs_39_11 rfl kf_95 rfl (hG.ob oc_0) d_Bs_things_53 ?_
          refine x_ic (v := 0) d_Bs_things_56 (by decide) ?_
          obtain ⟨δ57, eδ57, h⟩ := bn_e h
          refine x_putI (f := 42) gp_Bs_100_5 rfl kf_42 (fun h => by cases h) rfl rfl (hG.ob oc_8).1 (hG.ob oc_8).z d_Bs_things_57 (Xe.cδ eδ57 ?_)
          refine x_iload (i := 4) d_Bs_things_60 rfl ?_
          replace h := Option.some.inj h; subst h
          exact x_iret rfl d_Bs_things_62 (Nat.le_refl 0) (Nat.le_refl 0)
        · have h := if_t c36 h
          refine x_bi (v := -3) d_Bs_things_39 (by decide) ?_
          replace h := Option.some.inj h; subst h
          exact x_iret rfl d_Bs_things_41 (Nat.le_refl 0) (Nat.le_refl 0)
      · have h := if_f c27 h
        refine x_bi (v := -2) d_Bs_things_30 (by decide) ?_
        replace h := Option.some.inj h; subst h
        exact x_iret rfl d_Bs_things_32 (Nat.le_refl 0) (Nat.le_refl 0)
  · have h := if_t c15 h
    refine x_ic (v := -1) d_Bs_things_18 (by decide) ?_
    replace h := Option.some.inj h; subst h
    exact x_iret rfl d_Bs_things_19 (Nat.le_refl 0) (Nat.le_refl 0)
-- BlockStage.actor(III)I
theorem d_Bs_actor_0 : decode M_Bs_actor.2.1 0 = .ok (.aload_n 0, 1) := by decide +kernel
theorem d_Bs_actor_1 : decode M_Bs_actor.2.1 1 = .ok (.getfield 24, 3) := by decide +kernel
theorem d_Bs_actor_4 : decode M_Bs_actor.2.1 4 = .ok (.iload_n 1, 1) := by decide +kernel
theorem d_Bs_actor_5 : decode M_Bs_actor.2.1 5 = .ok (.iload_n 2, 1) := by decide +kernel
theorem d_Bs_actor_6 : decode M_Bs_actor.2.1 6 = .ok (.invokevirtual 103, 3) := by decide +kernel
theorem d_Bs_actor_9 : decode M_Bs_actor.2.1 9 = .ok (.istore 4, 2) := by decide +kernel
theorem d_Bs_actor_11 : decode M_Bs_actor.2.1 11 = .ok (.iload 4, 2) := by decide +kernel
theorem d_Bs_actor_13 : decode M_Bs_actor.2.1 13 = .ok (.bipush (-5), 2) := by decide +kernel
theorem d_Bs_actor_15 : decode M_Bs_actor.2.1 15 = .ok (.if_icmp .ne 5, 3) := by decide +kernel
theorem d_Bs_actor_18 : decode M_Bs_actor.2.1 18 = .ok (.iconst (-1), 1) := by decide +kernel
theorem d_Bs_actor_19 : decode M_Bs_actor.2.1 19 = .ok (.ireturn, 1) := by decide +kernel
theorem d_Bs_actor_20 : decode M_Bs_actor.2.1 20 = .ok (.iload_n 3, 1) := by decide +kernel
theorem d_Bs_actor_21 : decode M_Bs_actor.2.1 21 = .ok (.ifCond .lt 8, 3) := by decide +kernel
theorem d_Bs_actor_24 : decode M_Bs_actor.2.1 24 = .ok (.iload_n 3, 1) := by decide +kernel
theorem d_Bs_actor_25 : decode M_Bs_actor.2.1 25 = .ok (.iconst 3, 1) := by decide +kernel
theorem d_Bs_actor_26 : decode M_Bs_actor.2.1 26 = .ok (.if_icmp .le 6, 3) := by decide +kernel
theorem d_Bs_actor_29 : decode M_Bs_actor.2.1 29 = .ok (.bipush (-2), 2) := by decide +kernel
theorem d_Bs_actor_31 : decode M_Bs_actor.2.1 31 = .ok (.ireturn, 1) := by decide +kernel
theorem d_Bs_actor_32 : decode M_Bs_actor.2.1 32 = .ok (.iload 4, 2) := by decide +kernel
theorem d_Bs_actor_34 : decode M_Bs_actor.2.1 34 = .ok (.iconst (-1), 1) := by decide +kernel
theorem d_Bs_actor_35 : decode M_Bs_actor.2.1 35 = .ok (.if_icmp .ne 6, 3) := by decide +kernel
theorem d_Bs_actor_38 : decode M_Bs_actor.2.1 38 = .ok (.bipush (-3), 2) := by decide +kernel
theorem d_Bs_actor_40 : decode M_Bs_actor.2.1 40 = .ok (.ireturn, 1) := by decide +kernel
theorem d_Bs_actor_41 : decode M_Bs_actor.2.1 41 = .ok (.aload_n 0, 1) := by decide +kernel
theorem d_Bs_actor_42 : decode M_Bs_actor.2.1 42 = .ok (.getfield 24, 3) := by decide +kernel
theorem d_Bs_actor_45 : decode M_Bs_actor.2.1 45 = .ok (.getfield 115, 3) := by decide +kernel
theorem d_Bs_actor_48 : decode M_Bs_actor.2.1 48 = .ok (.iconst 3, 1) := by decide +kernel
theorem d_Bs_actor_49 : decode M_Bs_actor.2.1 49 = .ok (.if_icmp .lt 6, 3) := by decide +kernel
theorem d_Bs_actor_52 : decode M_Bs_actor.2.1 52 = .ok (.bipush (-4), 2) := by decide +kernel
theorem d_Bs_actor_54 : decode M_Bs_actor.2.1 54 = .ok (.ireturn, 1) := by decide +kernel
theorem d_Bs_actor_55 : decode M_Bs_actor.2.1 55 = .ok (.aload_n 0, 1) := by decide +kernel
theorem d_Bs_actor_56 : decode M_Bs_actor.2.1 56 = .ok (.getfield 39, 3) := by decide +kernel
theorem d_Bs_actor_59 : decode M_Bs_actor.2.1 59 = .ok (.iconst 0, 1) := by decide +kernel
theorem d_Bs_actor_60 : decode M_Bs_actor.2.1 60 = .ok (.putfield 100, 3) := by decide +kernel
theorem d_Bs_actor_63 : decode M_Bs_actor.2.1 63 = .ok (.aload_n 0, 1) := by decide +kernel
theorem d_Bs_actor_64 : decode M_Bs_actor.2.1 64 = .ok (.getfield 24, 3) := by decide +kernel
theorem d_Bs_actor_67 : decode M_Bs_actor.2.1 67 = .ok (.iload_n 1, 1) := by decide +kernel
theorem d_Bs_actor_68 : decode M_Bs_actor.2.1 68 = .ok (.iload_n 2, 1) := by decide +kernel
theorem d_Bs_actor_69 : decode M_Bs_actor.2.1 69 = .ok (.iload_n 3, 1) := by decide +kernel
theorem d_Bs_actor_70 : decode M_Bs_actor.2.1 70 = .ok (.invokevirtual 118, 3) := by decide +kernel
theorem d_Bs_actor_73 : decode M_Bs_actor.2.1 73 = .ok (.ireturn, 1) := by decide +kernel
theorem gl_Bs_115_9 : GL RX11 115 9 2 := ⟨RX9, TX9, 10, RX9, rfl, by decide, (lwg_at 81 (by decide +kernel) rfl), Or.inl rfl, gl_w inX9⟩
theorem mi_St_addActor : MI M_St_addActor 3 := ⟨(lwg_at 3 (by decide +kernel) rfl), (lwg_at 319 (by decide +kernel) rfl), ⟨by decide +kernel, by decide +kernel⟩, by decide +kernel, by decide⟩
theorem cs_Bs_118 : CV RX11 118 RX9 M_St_addActor 3 := ⟨(lwg_at 316 (by decide +kernel) rfl), (lwg_at 317 (by decide +kernel) rfl), (lwg_at 318 (by decide +kernel) rfl), mi_St_addActor⟩
def F_Bs_actor (x1 : Int32) (x2 : Int32) (x3 : Int32) (δ : Dl) : Option (Int32 × Dl) :=
  (F_St_cellAt 3 x1 x2 δ).bind fun v6 => if v6 = (-5) then (some ((-1), δ)) else (if x3 < 0 then (some ((-2), δ)) else (if x3 ≤ 3 then (if v6 = (-1) then (some ((-3), δ)) else (if (δ.1 72 3) < 3 then (bnd (sI δ 42 8 0) fun δ60 => bd2 (F_St_addActor 3 x1 x2 x3 δ60) fun v70 δ70 => some (v70, δ70)) else (some ((-4), δ)))) else (some ((-2), δ))))
set_option maxRecDepth 20000 in
set_option maxHeartbeats 4000000 in
theorem c_Bs_actor {l : Launch} {Γ : Gm} (hG : GC Γ) (x1 : Int32) (x2 : Int32) (x3 : Int32) (δ : Dl) (r : Int32 × Dl) (h : F_Bs_actor x1 x2 x3  δ = some r) : Ct l M_Bs_actor 2 0 0 NF [.inr (0, 0), .inl x1, .inl x2, .inl x3] Γ δ (some (.inl r.1), Γ, r.2) := by
  unfold F_Bs_actor at h
  refine Ct.of2 (n := 1) (ls := [some (.inr (0, 0)), some (.inl x1), some (.inl x2), some (.inl x3), none]) rfl (by decide +kernel) (Nat.le_of_ble_eq_true rfl) ?_
  refine x_aload_n (i := 0) d_Bs_actor_0 rfl rfl ?_
  refine x_getS (f := 92) (b := 3) gl_Bs_24_11 rfl kf_92 rfl (hG.ob oc_0) d_Bs_actor_1 ?_
  refine x_iload_n (i := 1) d_Bs_actor_4 rfl rfl ?_
  refine x_iload_n (i := 2) d_Bs_actor_5 rfl rfl ?_
  obtain ⟨v6, ev6, h⟩ := bd_e h
  refine y_V2 cs_Bs_103 rfl (hG.ob oc_3) (by first | decide | omega) (Nat.le_of_ble_eq_true rfl) d_Bs_actor_6 (c_St_cellAt hG 3 x1 x2 oc_3 δ v6 ev6) (Nat.le_refl 0) (Nat.le_refl 0) ?_
  refine x_stw (i := 4) (ls' := [some (.inr (0, 0)), some (.inl x1), some (.inl x2), some (.inl x3), some (.inl v6)]) d_Bs_actor_9 (by decide) rfl ?_
  refine x_iload (i := 4) d_Bs_actor_11 rfl ?_
  refine x_bi (v := -5) d_Bs_actor_13 (by decide) ?_
  refine x_cmp_ne (tgt := 20) d_Bs_actor_15 (by decide) (fun c15 => ?_) (fun c15 => ?_)
  · have h := if_f c15 h
    refine x_iload_n (i := 3) d_Bs_actor_20 rfl rfl ?_
    refine x_if_lt (tgt := 29) d_Bs_actor_21 (by decide) (fun c21 => ?_) (fun c21 => ?_)
    · have h := if_t c21 h
      refine x_bi (v := -2) d_Bs_actor_29 (by decide) ?_
      replace h := Option.some.inj h; subst h
      exact x_iret rfl d_Bs_actor_31 (Nat.le_refl 0) (Nat.le_refl 0)
    · have h := if_f c21 h
      refine x_iload_n (i := 3) d_Bs_actor_24 rfl rfl ?_
      refine x_ic (v := 3) d_Bs_actor_25 (by decide) ?_
      refine x_cmp_le (tgt := 32) d_Bs_actor_26 (by decide) (fun c26 => ?_) (fun c26 => ?_)
      · have h := if_t c26 h
        refine x_iload (i := 4) d_Bs_actor_32 rfl ?_
        refine x_ic (v := -1) d_Bs_actor_34 (by decide) ?_
        refine x_cmp_ne (tgt := 41) d_Bs_actor_35 (by decide) (fun c35 => ?_) (fun c35 => ?_)
        · have h := if_f c35 h
          refine x_aload_n (i := 0) d_Bs_actor_41 rfl rfl ?_
          refine x_getS (f := 92) (b := 3) gl_Bs_24_11 rfl kf_92 rfl (hG.ob oc_0) d_Bs_actor_42 ?_
          refine x_getI (f := 72) gl_Bs_115_9 rfl kf_72 (hG.ob oc_3) d_Bs_actor_45 ?_
          refine x_ic (v := 3) d_Bs_actor_48 (by decide) ?_
          refine x_cmp_lt (tgt := 55) d_Bs_actor_49 (by decide) (fun c49 => ?_) (fun c49 => ?_)
          · have h := if_t c49 h
            refine x_aload_n (i := 0) d_Bs_actor_55 rfl rfl ?_
            refine x_getS (f := 95) (b := 8) gl_Bs_39_11 rfl kf_95 rfl (hG.ob oc_0) d_Bs_actor_56 ?_
            refine x_ic (v := 0) d_Bs_actor_59 (by decide) ?_
            obtain ⟨δ60, eδ60, h⟩ := bn_e h
            refine x_putI (f := 42) gp_Bs_100_5 rfl kf_42 (fun h => by cases h) rfl rfl (hG.ob oc_8).1 (hG.ob oc_8).z d_Bs_actor_60 (Xe.cδ eδ60 ?_)
            refine x_aload_n (i := 0) d_Bs_actor_63 rfl rfl ?_
            refine x_getS (f := 92) (b := 3) gl_Bs_24_11 rfl kf_92 rfl (hG.ob oc_0) d_Bs_actor_64 ?_
            refine x_iload_n (i := 1) d_Bs_actor_67 rfl rfl ?_
            refine x_iload_n (i := 2) d_Bs_actor_68 rfl rfl ?_
            refine x_iload_n (i := 3) d_Bs_actor_69 rfl rfl ?_
            obtain ⟨v70, δ70, eδ70, h⟩ := bd2_e h
            refine y_V3 cs_Bs_118 rfl (hG.ob oc_3) (by first | decide | omega) (Nat.le_of_ble_eq_true rfl) d_Bs_actor_70 (c_St_addActor hG 3 x1 x2 x3 oc_3 δ60 (v70, δ70) eδ70) (Nat.le_refl 0) (Nat.le_refl 0) ?_
            replace h := Option.some.inj h; subst h
            exact x_iret rfl d_Bs_actor_73 (Nat.le_refl 0) (Nat.le_refl 0)
          · have h := if_f c49 h
            refine x_bi (v := -4) d_Bs_actor_52 (by decide) ?_
            replace h := Option.some.inj h; subst h
            exact x_iret rfl d_Bs_actor_54 (Nat.le_refl 0) (Nat.le_refl 0)
        · have h := if_t c35 h
          refine x_bi (v := -3) d_Bs_actor_38 (by decide) ?_
          replace h := Option.some.inj h; subst h
          exact x_iret rfl d_Bs_actor_40 (Nat.le_refl 0) (Nat.le_refl 0)
      · have h := if_f c26 h
        refine x_bi (v := -2) d_Bs_actor_29 (by decide) ?_
        replace h := Option.some.inj h; subst h
        exact x_iret rfl d_Bs_actor_31 (Nat.le_refl 0) (Nat.le_refl 0)
  · have h := if_t c15 h
    refine x_ic (v := -1) d_Bs_actor_18 (by decide) ?_
    replace h := Option.some.inj h; subst h
    exact x_iret rfl d_Bs_actor_19 (Nat.le_refl 0) (Nat.le_refl 0)
-- BlockStage.lay(III)I
theorem d_Bs_lay_0 : decode M_Bs_lay.2.1 0 = .ok (.iload_n 1, 1) := by decide +kernel
theorem d_Bs_lay_1 : decode M_Bs_lay.2.1 1 = .ok (.invokestatic 122, 3) := by decide +kernel
theorem d_Bs_lay_4 : decode M_Bs_lay.2.1 4 = .ok (.ifCond .eq 10, 3) := by decide +kernel
theorem d_Bs_lay_7 : decode M_Bs_lay.2.1 7 = .ok (.iload_n 2, 1) := by decide +kernel
theorem d_Bs_lay_8 : decode M_Bs_lay.2.1 8 = .ok (.invokestatic 126, 3) := by decide +kernel
theorem d_Bs_lay_11 : decode M_Bs_lay.2.1 11 = .ok (.ifCond .ne 6, 3) := by decide +kernel
theorem d_Bs_lay_14 : decode M_Bs_lay.2.1 14 = .ok (.bipush (-2), 2) := by decide +kernel
theorem d_Bs_lay_16 : decode M_Bs_lay.2.1 16 = .ok (.ireturn, 1) := by decide +kernel
theorem d_Bs_lay_17 : decode M_Bs_lay.2.1 17 = .ok (.aload_n 0, 1) := by decide +kernel
theorem d_Bs_lay_18 : decode M_Bs_lay.2.1 18 = .ok (.getfield 71, 3) := by decide +kernel
theorem d_Bs_lay_21 : decode M_Bs_lay.2.1 21 = .ok (.iload_n 1, 1) := by decide +kernel
theorem d_Bs_lay_22 : decode M_Bs_lay.2.1 22 = .ok (.invokevirtual 129, 3) := by decide +kernel
theorem d_Bs_lay_25 : decode M_Bs_lay.2.1 25 = .ok (.ifCond .eq 6, 3) := by decide +kernel
theorem d_Bs_lay_28 : decode M_Bs_lay.2.1 28 = .ok (.bipush (-11), 2) := by decide +kernel
theorem d_Bs_lay_30 : decode M_Bs_lay.2.1 30 = .ok (.ireturn, 1) := by decide +kernel
theorem d_Bs_lay_31 : decode M_Bs_lay.2.1 31 = .ok (.aload_n 0, 1) := by decide +kernel
theorem d_Bs_lay_32 : decode M_Bs_lay.2.1 32 = .ok (.getfield 71, 3) := by decide +kernel
theorem d_Bs_lay_35 : decode M_Bs_lay.2.1 35 = .ok (.iload_n 1, 1) := by decide +kernel
theorem d_Bs_lay_36 : decode M_Bs_lay.2.1 36 = .ok (.invokevirtual 132, 3) := by decide +kernel
theorem d_Bs_lay_39 : decode M_Bs_lay.2.1 39 = .ok (.iload_n 2, 1) := by decide +kernel
theorem d_Bs_lay_40 : decode M_Bs_lay.2.1 40 = .ok (.if_icmp .eq 6, 3) := by decide +kernel
theorem d_Bs_lay_43 : decode M_Bs_lay.2.1 43 = .ok (.bipush (-13), 2) := by decide +kernel
theorem d_Bs_lay_45 : decode M_Bs_lay.2.1 45 = .ok (.ireturn, 1) := by decide +kernel
theorem d_Bs_lay_46 : decode M_Bs_lay.2.1 46 = .ok (.aload_n 0, 1) := by decide +kernel
theorem d_Bs_lay_47 : decode M_Bs_lay.2.1 47 = .ok (.getfield 71, 3) := by decide +kernel
theorem d_Bs_lay_50 : decode M_Bs_lay.2.1 50 = .ok (.iload_n 1, 1) := by decide +kernel
theorem d_Bs_lay_51 : decode M_Bs_lay.2.1 51 = .ok (.iload_n 3, 1) := by decide +kernel
theorem d_Bs_lay_52 : decode M_Bs_lay.2.1 52 = .ok (.aload_n 0, 1) := by decide +kernel
theorem d_Bs_lay_53 : decode M_Bs_lay.2.1 53 = .ok (.getfield 24, 3) := by decide +kernel
theorem d_Bs_lay_56 : decode M_Bs_lay.2.1 56 = .ok (.getfield 136, 3) := by decide +kernel
theorem d_Bs_lay_59 : decode M_Bs_lay.2.1 59 = .ok (.aload_n 0, 1) := by decide +kernel
theorem d_Bs_lay_60 : decode M_Bs_lay.2.1 60 = .ok (.getfield 24, 3) := by decide +kernel
theorem d_Bs_lay_63 : decode M_Bs_lay.2.1 63 = .ok (.getfield 139, 3) := by decide +kernel
theorem d_Bs_lay_66 : decode M_Bs_lay.2.1 66 = .ok (.imul, 1) := by decide +kernel
theorem d_Bs_lay_67 : decode M_Bs_lay.2.1 67 = .ok (.invokevirtual 142, 3) := by decide +kernel
theorem d_Bs_lay_70 : decode M_Bs_lay.2.1 70 = .ok (.ifCond .ne 6, 3) := by decide +kernel
theorem d_Bs_lay_73 : decode M_Bs_lay.2.1 73 = .ok (.bipush (-12), 2) := by decide +kernel
theorem d_Bs_lay_75 : decode M_Bs_lay.2.1 75 = .ok (.ireturn, 1) := by decide +kernel
theorem d_Bs_lay_76 : decode M_Bs_lay.2.1 76 = .ok (.aload_n 0, 1) := by decide +kernel
theorem d_Bs_lay_77 : decode M_Bs_lay.2.1 77 = .ok (.getfield 24, 3) := by decide +kernel
theorem d_Bs_lay_80 : decode M_Bs_lay.2.1 80 = .ok (.aload_n 0, 1) := by decide +kernel
theorem d_Bs_lay_81 : decode M_Bs_lay.2.1 81 = .ok (.getfield 71, 3) := by decide +kernel
theorem d_Bs_lay_84 : decode M_Bs_lay.2.1 84 = .ok (.iload_n 1, 1) := by decide +kernel
theorem d_Bs_lay_85 : decode M_Bs_lay.2.1 85 = .ok (.iload_n 3, 1) := by decide +kernel
theorem d_Bs_lay_86 : decode M_Bs_lay.2.1 86 = .ok (.invokevirtual 146, 3) := by decide +kernel
theorem d_Bs_lay_89 : decode M_Bs_lay.2.1 89 = .ok (.ifCond .ne 6, 3) := by decide +kernel
theorem d_Bs_lay_92 : decode M_Bs_lay.2.1 92 = .ok (.bipush (-3), 2) := by decide +kernel
theorem d_Bs_lay_94 : decode M_Bs_lay.2.1 94 = .ok (.ireturn, 1) := by decide +kernel
theorem d_Bs_lay_95 : decode M_Bs_lay.2.1 95 = .ok (.aload_n 0, 1) := by decide +kernel
theorem d_Bs_lay_96 : decode M_Bs_lay.2.1 96 = .ok (.getfield 24, 3) := by decide +kernel
theorem d_Bs_lay_99 : decode M_Bs_lay.2.1 99 = .ok (.aload_n 0, 1) := by decide +kernel
theorem d_Bs_lay_100 : decode M_Bs_lay.2.1 100 = .ok (.getfield 71, 3) := by decide +kernel
theorem d_Bs_lay_103 : decode M_Bs_lay.2.1 103 = .ok (.iload_n 1, 1) := by decide +kernel
theorem d_Bs_lay_104 : decode M_Bs_lay.2.1 104 = .ok (.iload_n 3, 1) := by decide +kernel
theorem d_Bs_lay_105 : decode M_Bs_lay.2.1 105 = .ok (.invokevirtual 150, 3) := by decide +kernel
theorem d_Bs_lay_108 : decode M_Bs_lay.2.1 108 = .ok (.aload_n 0, 1) := by decide +kernel
theorem d_Bs_lay_109 : decode M_Bs_lay.2.1 109 = .ok (.getfield 39, 3) := by decide +kernel
theorem d_Bs_lay_112 : decode M_Bs_lay.2.1 112 = .ok (.iconst 0, 1) := by decide +kernel
theorem d_Bs_lay_113 : decode M_Bs_lay.2.1 113 = .ok (.putfield 100, 3) := by decide +kernel
theorem d_Bs_lay_116 : decode M_Bs_lay.2.1 116 = .ok (.iconst 1, 1) := by decide +kernel
theorem d_Bs_lay_117 : decode M_Bs_lay.2.1 117 = .ok (.ireturn, 1) := by decide +kernel
theorem mi_Sh_isSheet : MI M_Sh_isSheet 1 := ⟨(lwg_at 9 (by decide +kernel) rfl), (lwg_at 326 (by decide +kernel) rfl), ⟨by decide +kernel, by decide +kernel⟩, by decide +kernel, by decide⟩
theorem cs_Bs_122 : CS RX11 122 M_Sh_isSheet 1 := ⟨(lwg_at 324 (by decide +kernel) rfl), (lwg_at 325 (by decide +kernel) rfl), mi_Sh_isSheet⟩
theorem mi_Sh_isSort : MI M_Sh_isSort 1 := ⟨(lwg_at 9 (by decide +kernel) rfl), (lwg_at 329 (by decide +kernel) rfl), ⟨by decide +kernel, by decide +kernel⟩, by decide +kernel, by decide⟩
theorem cs_Bs_126 : CS RX11 126 M_Sh_isSort 1 := ⟨(lwg_at 327 (by decide +kernel) rfl), (lwg_at 328 (by decide +kernel) rfl), mi_Sh_isSort⟩
theorem gl_Bs_71_11 : GL RX11 71 11 11 := ⟨RX11, TX11, 18, RX11, rfl, by decide, (lwg_at 246 (by decide +kernel) rfl), Or.inl rfl, gl_w inX11⟩
theorem oc_18 : Oc 18 7 := by decide
theorem mi_Sh_isMissing : MI M_Sh_isMissing 1 := ⟨(lwg_at 9 (by decide +kernel) rfl), (lwg_at 333 (by decide +kernel) rfl), ⟨by decide +kernel, by decide +kernel⟩, by decide +kernel, by decide⟩
theorem cs_Bs_129 : CV RX11 129 RX7 M_Sh_isMissing 1 := ⟨(lwg_at 330 (by decide +kernel) rfl), (lwg_at 331 (by decide +kernel) rfl), (lwg_at 332 (by decide +kernel) rfl), mi_Sh_isMissing⟩
theorem cs_Bs_132 : CV RX11 132 RX7 M_Sh_sortOf 1 := ⟨(lwg_at 338 (by decide +kernel) rfl), (lwg_at 335 (by decide +kernel) rfl), (lwg_at 336 (by decide +kernel) rfl), mi_Sh_sortOf⟩
theorem gl_Bs_136_9 : GL RX11 136 9 0 := ⟨RX9, TX9, 10, RX9, rfl, by decide, (lwg_at 77 (by decide +kernel) rfl), Or.inl rfl, gl_w inX9⟩
theorem gl_Bs_139_9 : GL RX11 139 9 1 := ⟨RX9, TX9, 10, RX9, rfl, by decide, (lwg_at 79 (by decide +kernel) rfl), Or.inl rfl, gl_w inX9⟩
theorem cs_Bs_142 : CV RX11 142 RX7 M_Sh_hasItems 3 := ⟨(lwg_at 339 (by decide +kernel) rfl), (lwg_at 340 (by decide +kernel) rfl), (lwg_at 341 (by decide +kernel) rfl), mi_Sh_hasItems⟩
theorem mi_St_takesCells : MI M_St_takesCells 3 := ⟨(lwg_at 3 (by decide +kernel) rfl), (lwg_at 346 (by decide +kernel) rfl), ⟨by decide +kernel, by decide +kernel⟩, by decide +kernel, by decide⟩
theorem cs_Bs_146 : CV RX11 146 RX9 M_St_takesCells 3 := ⟨(lwg_at 343 (by decide +kernel) rfl), (lwg_at 344 (by decide +kernel) rfl), (lwg_at 345 (by decide +kernel) rfl), mi_St_takesCells⟩
theorem mi_St_setCells : MI M_St_setCells 3 := ⟨(lwg_at 3 (by decide +kernel) rfl), (lwg_at 356 (by decide +kernel) rfl), ⟨by decide +kernel, by decide +kernel⟩, by decide +kernel, by decide⟩
theorem cs_Bs_150 : CV RX11 150 RX9 M_St_setCells 3 := ⟨(lwg_at 353 (by decide +kernel) rfl), (lwg_at 354 (by decide +kernel) rfl), (lwg_at 355 (by decide +kernel) rfl), mi_St_setCells⟩
def F_Bs_lay (x1 : Int32) (x2 : Int32) (x3 : Int32) (δ : Dl) : Option (Int32 × Dl) :=
  bnd (F_Sh_isSheet x1) fun v1 => if v1 = 0 then (some ((-2), δ)) else (bnd (F_Sh_isSort x2) fun v8 => if v8 = 0 then (some ((-2), δ)) else ((F_Sh_isMissing 18 x1 δ).bind fun v22 => if v22 = 0 then ((F_Sh_sortOf 18 x1 δ).bind fun v36 => if v36 = x2 then ((F_Sh_hasItems 18 x1 x3 ((δ.1 70 3) * (δ.1 71 3)) δ).bind fun v67 => if v67 = 0 then (some ((-12), δ)) else ((F_St_takesCells 3 18 x1 x3 δ).bind fun v86 => if v86 = 0 then (some ((-3), δ)) else ((F_St_setCells 3 18 x1 x3 δ).bind fun δ105 => bnd (sI δ105 42 8 0) fun δ113 => some (1, δ113)))) else (some ((-13), δ))) else (some ((-11), δ))))
set_option maxRecDepth 20000 in
set_option maxHeartbeats 4000000 in
theorem c_Bs_lay {l : Launch} {Γ : Gm} (hG : GC Γ) (x1 : Int32) (x2 : Int32) (x3 : Int32) (δ : Dl) (r : Int32 × Dl) (h : F_Bs_lay x1 x2 x3  δ = some r) : Ct l M_Bs_lay 3 0 0 NF [.inr (0, 0), .inl x1, .inl x2, .inl x3] Γ δ (some (.inl r.1), Γ, r.2) := by
  unfold F_Bs_lay at h
  refine Ct.of2 (n := 0) (ls := [some (.inr (0, 0)), some (.inl x1), some (.inl x2), some (.inl x3)]) rfl (by decide +kernel) (Nat.le_of_ble_eq_true rfl) ?_
  refine x_iload_n (i := 1) d_Bs_lay_0 rfl rfl ?_
  obtain ⟨v1, ev1, h⟩ := bn_e h
  refine y_S1 cs_Bs_122 (by first | decide | omega) (Nat.le_of_ble_eq_true rfl) d_Bs_lay_1 (c_Sh_isSheet x1  δ v1 ev1) (Nat.le_refl 0) (Nat.le_refl 0) ?_
  refine x_if_eq (tgt := 14) d_Bs_lay_4 (by decide) (fun c4 => ?_) (fun c4 => ?_)
  · have h := if_t c4 h
    refine x_bi (v := -2) d_Bs_lay_14 (by decide) ?_
    replace h := Option.some.inj h; subst h
    exact x_iret rfl d_Bs_lay_16 (Nat.le_refl 0) (Nat.le_refl 0)
  · have h := if_f c4 h
    refine x_iload_n (i := 2) d_Bs_lay_7 rfl rfl ?_
    obtain ⟨v8, ev8, h⟩ := bn_e h
    refine y_S1 cs_Bs_126 (by first | decide | omega) (Nat.le_of_ble_eq_true rfl) d_Bs_lay_8 (c_Sh_isSort x2  δ v8 ev8) (Nat.le_refl 0) (Nat.le_refl 0) ?_
    refine x_if_ne (tgt := 17) d_Bs_lay_11 (by decide) (fun c11 => ?_) (fun c11 => ?_)
    · have h := if_f c11 h
      refine x_aload_n (i := 0) d_Bs_lay_17 rfl rfl ?_
      refine x_getS (f := 101) (b := 18) gl_Bs_71_11 rfl kf_101 rfl (hG.ob oc_0) d_Bs_lay_18 ?_
      refine x_iload_n (i := 1) d_Bs_lay_21 rfl rfl ?_
      obtain ⟨v22, ev22, h⟩ := bd_e h
      refine y_V1 cs_Bs_129 rfl (hG.ob oc_18) (by first | decide | omega) (Nat.le_of_ble_eq_true rfl) d_Bs_lay_22 (c_Sh_isMissing hG 18 x1 oc_18 δ v22 ev22) (Nat.le_refl 0) (Nat.le_refl 0) ?_
      refine x_if_eq (tgt := 31) d_Bs_lay_25 (by decide) (fun c25 => ?_) (fun c25 => ?_)
      · have h := if_t c25 h
        refine x_aload_n (i := 0) d_Bs_lay_31 rfl rfl ?_
        refine x_getS (f := 101) (b := 18) gl_Bs_71_11 rfl kf_101 rfl (hG.ob oc_0) d_Bs_lay_32 ?_
        refine x_iload_n (i := 1) d_Bs_lay_35 rfl rfl ?_
        obtain ⟨v36, ev36, h⟩ := bd_e h
        refine y_V1 cs_Bs_132 rfl (hG.ob oc_18) (by first | decide | omega) (Nat.le_of_ble_eq_true rfl) d_Bs_lay_36 (c_Sh_sortOf hG 18 x1 oc_18 δ v36 ev36) (Nat.le_refl 0) (Nat.le_refl 0) ?_
        refine x_iload_n (i := 2) d_Bs_lay_39 rfl rfl ?_
        refine x_cmp_eq (tgt := 46) d_Bs_lay_40 (by decide) (fun c40 => ?_) (fun c40 => ?_)
        · have h := if_t c40 h
          refine x_aload_n (i := 0) d_Bs_lay_46 rfl rfl ?_
          refine x_getS (f := 101) (b := 18) gl_Bs_71_11 rfl kf_101 rfl (hG.ob oc_0) d_Bs_lay_47 ?_
          refine x_iload_n (i := 1) d_Bs_lay_50 rfl rfl ?_
          refine x_iload_n (i := 3) d_Bs_lay_51 rfl rfl ?_
          refine x_aload_n (i := 0) d_Bs_lay_52 rfl rfl ?_
          refine x_getS (f := 92) (b := 3) gl_Bs_24_11 rfl kf_92 rfl (hG.ob oc_0) d_Bs_lay_53 ?_
          refine x_getI (f := 70) gl_Bs_136_9 rfl kf_70 (hG.ob oc_3) d_Bs_lay_56 ?_
          refine x_aload_n (i := 0) d_Bs_lay_59 rfl rfl ?_
          refine x_getS (f := 92) (b := 3) gl_Bs_24_11 rfl kf_92 rfl (hG.ob oc_0) d_Bs_lay_60 ?_
          refine x_getI (f := 71) gl_Bs_139_9 rfl kf_71 (hG.ob oc_3) d_Bs_lay_63 ?_
          refine x_imul d_Bs_lay_66 ?_
          obtain ⟨v67, ev67, h⟩ := bd_e h
          refine y_V3 cs_Bs_142 rfl (hG.ob oc_18) (by first | decide | omega) (Nat.le_of_ble_eq_true rfl) d_Bs_lay_67 (c_Sh_hasItems hG 18 x1 x3 ((δ.1 70 3) * (δ.1 71 3)) oc_18 δ v67 ev67) (Nat.le_refl 0) (Nat.le_refl 0) ?_
          refine x_if_ne (tgt := 76) d_Bs_lay_70 (by decide) (fun c70 => ?_) (fun c70 => ?_)
          · have h := if_f c70 h
            refine x_aload_n (i := 0) d_Bs_lay_76 rfl rfl ?_
            refine x_getS (f := 92) (b := 3) gl_Bs_24_11 rfl kf_92 rfl (hG.ob oc_0) d_Bs_lay_77 ?_
            refine x_aload_n (i := 0) d_Bs_lay_80 rfl rfl ?_
            refine x_getS (f := 101) (b := 18) gl_Bs_71_11 rfl kf_101 rfl (hG.ob oc_0) d_Bs_lay_81 ?_
            refine x_iload_n (i := 1) d_Bs_lay_84 rfl rfl ?_
            refine x_iload_n (i := 3) d_Bs_lay_85 rfl rfl ?_
            obtain ⟨v86, ev86, h⟩ := bd_e h
            refine y_V3 cs_Bs_146 rfl (hG.ob oc_3) (by first | decide | omega) (Nat.le_of_ble_eq_true rfl) d_Bs_lay_86 (c_St_takesCells hG 3 18 x1 x3 oc_3 oc_18 δ v86 ev86) (Nat.le_refl 0) (Nat.le_refl 0) ?_
            refine x_if_ne (tgt := 95) d_Bs_lay_89 (by decide) (fun c89 => ?_) (fun c89 => ?_)
            · have h := if_f c89 h
              refine x_aload_n (i := 0) d_Bs_lay_95 rfl rfl ?_
              refine x_getS (f := 92) (b := 3) gl_Bs_24_11 rfl kf_92 rfl (hG.ob oc_0) d_Bs_lay_96 ?_
              refine x_aload_n (i := 0) d_Bs_lay_99 rfl rfl ?_
              refine x_getS (f := 101) (b := 18) gl_Bs_71_11 rfl kf_101 rfl (hG.ob oc_0) d_Bs_lay_100 ?_
              refine x_iload_n (i := 1) d_Bs_lay_103 rfl rfl ?_
              refine x_iload_n (i := 3) d_Bs_lay_104 rfl rfl ?_
              obtain ⟨δ105, eδ105, h⟩ := bd_e h
              refine y_V3v cs_Bs_150 rfl (hG.ob oc_3) (by first | decide | omega) (Nat.le_of_ble_eq_true rfl) d_Bs_lay_105 (c_St_setCells hG 3 18 x1 x3 oc_3 oc_18 δ δ105 eδ105) (Nat.le_refl 0) (Nat.le_refl 0) ?_
              refine x_aload_n (i := 0) d_Bs_lay_108 rfl rfl ?_
              refine x_getS (f := 95) (b := 8) gl_Bs_39_11 rfl kf_95 rfl (hG.ob oc_0) d_Bs_lay_109 ?_
              refine x_ic (v := 0) d_Bs_lay_112 (by decide) ?_
              obtain ⟨δ113, eδ113, h⟩ := bn_e h
              refine x_putI (f := 42) gp_Bs_100_5 rfl kf_42 (fun h => by cases h) rfl rfl (hG.ob oc_8).1 (hG.ob oc_8).z d_Bs_lay_113 (Xe.cδ eδ113 ?_)
              refine x_ic (v := 1) d_Bs_lay_116 (by decide) ?_
              replace h := Option.some.inj h; subst h
              exact x_iret rfl d_Bs_lay_117 (Nat.le_refl 0) (Nat.le_refl 0)
            · have h := if_t c89 h
              refine x_bi (v := -3) d_Bs_lay_92 (by decide) ?_
              replace h := Option.some.inj h; subst h
              exact x_iret rfl d_Bs_lay_94 (Nat.le_refl 0) (Nat.le_refl 0)
          · have h := if_t c70 h
            refine x_bi (v := -12) d_Bs_lay_73 (by decide) ?_
            replace h := Option.some.inj h; subst h
            exact x_iret rfl d_Bs_lay_75 (Nat.le_refl 0) (Nat.le_refl 0)
        · have h := if_f c40 h
          refine x_bi (v := -13) d_Bs_lay_43 (by decide) ?_
          replace h := Option.some.inj h; subst h
          exact x_iret rfl d_Bs_lay_45 (Nat.le_refl 0) (Nat.le_refl 0)
      · have h := if_f c25 h
        refine x_bi (v := -11) d_Bs_lay_28 (by decide) ?_
        replace h := Option.some.inj h; subst h
        exact x_iret rfl d_Bs_lay_30 (Nat.le_refl 0) (Nat.le_refl 0)
    · have h := if_t c11 h
      refine x_bi (v := -2) d_Bs_lay_14 (by decide) ?_
      replace h := Option.some.inj h; subst h
      exact x_iret rfl d_Bs_lay_16 (Nat.le_refl 0) (Nat.le_refl 0)
-- BlockStage.keep()I
theorem d_Bs_keep_0 : decode M_Bs_keep.2.1 0 = .ok (.aload_n 0, 1) := by decide +kernel
theorem d_Bs_keep_1 : decode M_Bs_keep.2.1 1 = .ok (.getfield 32, 3) := by decide +kernel
theorem d_Bs_keep_4 : decode M_Bs_keep.2.1 4 = .ok (.ifCond .lt 11, 3) := by decide +kernel
theorem d_Bs_keep_7 : decode M_Bs_keep.2.1 7 = .ok (.aload_n 0, 1) := by decide +kernel
theorem d_Bs_keep_8 : decode M_Bs_keep.2.1 8 = .ok (.getfield 32, 3) := by decide +kernel
theorem d_Bs_keep_11 : decode M_Bs_keep.2.1 11 = .ok (.iconst 4, 1) := by decide +kernel
theorem d_Bs_keep_12 : decode M_Bs_keep.2.1 12 = .ok (.if_icmp .lt 6, 3) := by decide +kernel
theorem d_Bs_keep_15 : decode M_Bs_keep.2.1 15 = .ok (.bipush (-4), 2) := by decide +kernel
theorem d_Bs_keep_17 : decode M_Bs_keep.2.1 17 = .ok (.ireturn, 1) := by decide +kernel
theorem d_Bs_keep_18 : decode M_Bs_keep.2.1 18 = .ok (.aload_n 0, 1) := by decide +kernel
theorem d_Bs_keep_19 : decode M_Bs_keep.2.1 19 = .ok (.getfield 28, 3) := by decide +kernel
theorem d_Bs_keep_22 : decode M_Bs_keep.2.1 22 = .ok (.aload_n 0, 1) := by decide +kernel
theorem d_Bs_keep_23 : decode M_Bs_keep.2.1 23 = .ok (.getfield 32, 3) := by decide +kernel
theorem d_Bs_keep_26 : decode M_Bs_keep.2.1 26 = .ok (.aaload, 1) := by decide +kernel
theorem d_Bs_keep_27 : decode M_Bs_keep.2.1 27 = .ok (.astore_n 1, 1) := by decide +kernel
theorem d_Bs_keep_28 : decode M_Bs_keep.2.1 28 = .ok (.aload_n 1, 1) := by decide +kernel
theorem d_Bs_keep_29 : decode M_Bs_keep.2.1 29 = .ok (.ifnonnull 6, 3) := by decide +kernel
theorem d_Bs_keep_32 : decode M_Bs_keep.2.1 32 = .ok (.bipush (-4), 2) := by decide +kernel
theorem d_Bs_keep_34 : decode M_Bs_keep.2.1 34 = .ok (.ireturn, 1) := by decide +kernel
theorem d_Bs_keep_35 : decode M_Bs_keep.2.1 35 = .ok (.aload_n 1, 1) := by decide +kernel
theorem d_Bs_keep_36 : decode M_Bs_keep.2.1 36 = .ok (.aload_n 0, 1) := by decide +kernel
theorem d_Bs_keep_37 : decode M_Bs_keep.2.1 37 = .ok (.getfield 24, 3) := by decide +kernel
theorem d_Bs_keep_40 : decode M_Bs_keep.2.1 40 = .ok (.invokevirtual 154, 3) := by decide +kernel
theorem d_Bs_keep_43 : decode M_Bs_keep.2.1 43 = .ok (.aload_n 0, 1) := by decide +kernel
theorem d_Bs_keep_44 : decode M_Bs_keep.2.1 44 = .ok (.dup, 1) := by decide +kernel
theorem d_Bs_keep_45 : decode M_Bs_keep.2.1 45 = .ok (.getfield 32, 3) := by decide +kernel
theorem d_Bs_keep_48 : decode M_Bs_keep.2.1 48 = .ok (.iconst 1, 1) := by decide +kernel
theorem d_Bs_keep_49 : decode M_Bs_keep.2.1 49 = .ok (.iadd, 1) := by decide +kernel
theorem d_Bs_keep_50 : decode M_Bs_keep.2.1 50 = .ok (.putfield 32, 3) := by decide +kernel
theorem d_Bs_keep_53 : decode M_Bs_keep.2.1 53 = .ok (.aload_n 0, 1) := by decide +kernel
theorem d_Bs_keep_54 : decode M_Bs_keep.2.1 54 = .ok (.getfield 32, 3) := by decide +kernel
theorem d_Bs_keep_57 : decode M_Bs_keep.2.1 57 = .ok (.iconst 1, 1) := by decide +kernel
theorem d_Bs_keep_58 : decode M_Bs_keep.2.1 58 = .ok (.isub, 1) := by decide +kernel
theorem d_Bs_keep_59 : decode M_Bs_keep.2.1 59 = .ok (.ireturn, 1) := by decide +kernel
theorem gl_Bs_32_11 : GL RX11 32 11 4 := ⟨RX11, TX11, 18, RX11, rfl, by decide, (lwg_at 239 (by decide +kernel) rfl), Or.inl rfl, gl_w inX11⟩
theorem gl_Bs_28_11 : GL RX11 28 11 3 := ⟨RX11, TX11, 18, RX11, rfl, by decide, (lwg_at 238 (by decide +kernel) rfl), Or.inl rfl, gl_w inX11⟩
theorem cs_Bs_154 : CV RX11 154 RX9 M_St_copyFrom 1 := ⟨(lwg_at 361 (by decide +kernel) rfl), (lwg_at 362 (by decide +kernel) rfl), (lwg_at 363 (by decide +kernel) rfl), mi_St_copyFrom⟩
theorem gp_Bs_32_11 : GP RX11 32 11 4 false .int := ⟨RX11, TX11, 18, RX11, tyX11, rfl, by decide, (lwg_at 239 (by decide +kernel) rfl), rfl, gl_w inX11, tyX11_ok, nmX11, rfl, by decide +kernel, fun h => by first | rfl | cases h⟩
def F_Bs_keep (δ : Dl) : Option (Int32 × Dl) :=
  if (δ.1 94 0) < 0 then (some ((-4), δ)) else (if (δ.1 94 0) < 4 then (if inb (δ.1 94 0) 4 then if ((δ.2.2 93 (δ.1 94 0).toNatClampNeg)).1 = 1 then (some ((-4), δ)) else (if ((δ.2.2 93 (δ.1 94 0).toNatClampNeg)).1 = 0 ∧ Oc ((δ.2.2 93 (δ.1 94 0).toNatClampNeg)).2 9 then (F_St_copyFrom ((δ.2.2 93 (δ.1 94 0).toNatClampNeg)).2 3 δ).bind fun δ40 => bnd (sI δ40 94 0 ((δ40.1 94 0) + 1)) fun δ50 => some (((δ50.1 94 0) - 1), δ50) else none) else none) else (some ((-4), δ)))
set_option maxRecDepth 20000 in
set_option maxHeartbeats 4000000 in
theorem c_Bs_keep {l : Launch} {Γ : Gm} (hG : GC Γ) (δ : Dl) (r : Int32 × Dl) (h : F_Bs_keep  δ = some r) : Ct l M_Bs_keep 2 0 0 NF [.inr (0, 0)] Γ δ (some (.inl r.1), Γ, r.2) := by
  unfold F_Bs_keep at h
  refine Ct.of2 (n := 1) (ls := [some (.inr (0, 0)), none]) rfl (by decide +kernel) (Nat.le_of_ble_eq_true rfl) ?_
  refine x_aload_n (i := 0) d_Bs_keep_0 rfl rfl ?_
  refine x_getI (f := 94) gl_Bs_32_11 rfl kf_94 (hG.ob oc_0) d_Bs_keep_1 ?_
  refine x_if_lt (tgt := 15) d_Bs_keep_4 (by decide) (fun c4 => ?_) (fun c4 => ?_)
  · have h := if_t c4 h
    refine x_bi (v := -4) d_Bs_keep_15 (by decide) ?_
    replace h := Option.some.inj h; subst h
    exact x_iret rfl d_Bs_keep_17 (Nat.le_refl 0) (Nat.le_refl 0)
  · have h := if_f c4 h
    refine x_aload_n (i := 0) d_Bs_keep_7 rfl rfl ?_
    refine x_getI (f := 94) gl_Bs_32_11 rfl kf_94 (hG.ob oc_0) d_Bs_keep_8 ?_
    refine x_ic (v := 4) d_Bs_keep_11 (by decide) ?_
    refine x_cmp_lt (tgt := 18) d_Bs_keep_12 (by decide) (fun c12 => ?_) (fun c12 => ?_)
    · have h := if_t c12 h
      refine x_aload_n (i := 0) d_Bs_keep_18 rfl rfl ?_
      refine x_getA (f := 93) gl_Bs_28_11 rfl (by rw [kf_93]; decide) (hG.ob oc_0) d_Bs_keep_19 ?_
      refine x_aload_n (i := 0) d_Bs_keep_22 rfl rfl ?_
      refine x_getI (f := 94) gl_Bs_32_11 rfl kf_94 (hG.ob oc_0) d_Bs_keep_23 ?_
      obtain ⟨g26, h⟩ := gd_e h
      refine x_aald (n := 4) kf_93 (oz_93 (hG.ob oc_0)) (ln_93 _) g26 d_Bs_keep_26 ?_
      refine x_asn (i := 1) (ls' := [some (.inr (0, 0)), some (.inr (δ.2.2 93 (δ.1 94 0).toNatClampNeg))]) d_Bs_keep_27 rfl (by decide) rfl ?_
      refine x_aload_n (i := 1) d_Bs_keep_28 rfl rfl ?_
      refine x_ifnonnull (tgt := 35) d_Bs_keep_29 (by decide) (fun c29 => ?_) (fun c29 => ?_)
      · have h := if_f c29 h
        refine x_aload_n (i := 1) d_Bs_keep_35 rfl rfl ?_
        refine x_aload_n (i := 0) d_Bs_keep_36 rfl rfl ?_
        refine x_getS (f := 92) (b := 3) gl_Bs_24_11 rfl kf_92 rfl (hG.ob oc_0) d_Bs_keep_37 ?_
        obtain ⟨q40_0, h⟩ := gd_e h
        rw [prod0 q40_0.1]
        obtain ⟨δ40, eδ40, h⟩ := bd_e h
        refine y_V1v cs_Bs_154 rfl (hG.ob q40_0.2) (by first | decide | omega) (Nat.le_of_ble_eq_true rfl) d_Bs_keep_40 (c_St_copyFrom hG ((δ.2.2 93 (δ.1 94 0).toNatClampNeg)).2 3 q40_0.2 oc_3 δ δ40 eδ40) (Nat.le_refl 0) (Nat.le_refl 0) ?_
        refine x_aload_n (i := 0) d_Bs_keep_43 rfl rfl ?_
        refine x_dup d_Bs_keep_44 ?_
        refine x_getI (f := 94) gl_Bs_32_11 rfl kf_94 (hG.ob oc_0) d_Bs_keep_45 ?_
        refine x_ic (v := 1) d_Bs_keep_48 (by decide) ?_
        refine x_iadd d_Bs_keep_49 ?_
        obtain ⟨δ50, eδ50, h⟩ := bn_e h
        refine x_putI (f := 94) gp_Bs_32_11 rfl kf_94 (fun h => by cases h) rfl rfl (hG.ob oc_0).1 (hG.ob oc_0).z d_Bs_keep_50 (Xe.cδ eδ50 ?_)
        refine x_aload_n (i := 0) d_Bs_keep_53 rfl rfl ?_
        refine x_getI (f := 94) gl_Bs_32_11 rfl kf_94 (hG.ob oc_0) d_Bs_keep_54 ?_
        refine x_ic (v := 1) d_Bs_keep_57 (by decide) ?_
        refine x_isub d_Bs_keep_58 ?_
        replace h := Option.some.inj h; subst h
        exact x_iret rfl d_Bs_keep_59 (Nat.le_refl 0) (Nat.le_refl 0)
      · have h := if_t (Decidable.not_not.mp c29) h
        refine x_bi (v := -4) d_Bs_keep_32 (by decide) ?_
        replace h := Option.some.inj h; subst h
        exact x_iret rfl d_Bs_keep_34 (Nat.le_refl 0) (Nat.le_refl 0)
    · have h := if_f c12 h
      refine x_bi (v := -4) d_Bs_keep_15 (by decide) ?_
      replace h := Option.some.inj h; subst h
      exact x_iret rfl d_Bs_keep_17 (Nat.le_refl 0) (Nat.le_refl 0)
-- BlockStage.keptAt(I)LBlockStage$Stage;
theorem d_Bs_keptAt_0 : decode M_Bs_keptAt.2.1 0 = .ok (.iload_n 1, 1) := by decide +kernel
theorem d_Bs_keptAt_1 : decode M_Bs_keptAt.2.1 1 = .ok (.ifCond .lt 16, 3) := by decide +kernel
theorem d_Bs_keptAt_4 : decode M_Bs_keptAt.2.1 4 = .ok (.iload_n 1, 1) := by decide +kernel
theorem d_Bs_keptAt_5 : decode M_Bs_keptAt.2.1 5 = .ok (.aload_n 0, 1) := by decide +kernel
theorem d_Bs_keptAt_6 : decode M_Bs_keptAt.2.1 6 = .ok (.getfield 32, 3) := by decide +kernel
theorem d_Bs_keptAt_9 : decode M_Bs_keptAt.2.1 9 = .ok (.if_icmp .ge 8, 3) := by decide +kernel
theorem d_Bs_keptAt_12 : decode M_Bs_keptAt.2.1 12 = .ok (.iload_n 1, 1) := by decide +kernel
theorem d_Bs_keptAt_13 : decode M_Bs_keptAt.2.1 13 = .ok (.iconst 4, 1) := by decide +kernel
theorem d_Bs_keptAt_14 : decode M_Bs_keptAt.2.1 14 = .ok (.if_icmp .lt 5, 3) := by decide +kernel
theorem d_Bs_keptAt_17 : decode M_Bs_keptAt.2.1 17 = .ok (.aconst_null, 1) := by decide +kernel
theorem d_Bs_keptAt_18 : decode M_Bs_keptAt.2.1 18 = .ok (.areturn, 1) := by decide +kernel
theorem d_Bs_keptAt_19 : decode M_Bs_keptAt.2.1 19 = .ok (.aload_n 0, 1) := by decide +kernel
theorem d_Bs_keptAt_20 : decode M_Bs_keptAt.2.1 20 = .ok (.getfield 28, 3) := by decide +kernel
theorem d_Bs_keptAt_23 : decode M_Bs_keptAt.2.1 23 = .ok (.iload_n 1, 1) := by decide +kernel
theorem d_Bs_keptAt_24 : decode M_Bs_keptAt.2.1 24 = .ok (.aaload, 1) := by decide +kernel
theorem d_Bs_keptAt_25 : decode M_Bs_keptAt.2.1 25 = .ok (.areturn, 1) := by decide +kernel
def F_Bs_keptAt (x1 : Int32) (δ : Dl) : Option ((Nat × Nat)) :=
  if x1 < 0 then (some (1, 0)) else (if (δ.1 94 0) ≤ x1 then (some (1, 0)) else (if x1 < 4 then (if inb x1 4 then some (δ.2.2 93 x1.toNatClampNeg) else none) else (some (1, 0))))
set_option maxRecDepth 20000 in
set_option maxHeartbeats 4000000 in
theorem c_Bs_keptAt {l : Launch} {Γ : Gm} (hG : GC Γ) (x1 : Int32) (δ : Dl) (r : (Nat × Nat)) (h : F_Bs_keptAt x1  δ = some r) : Ct l M_Bs_keptAt 0 0 0 NF [.inr (0, 0), .inl x1] Γ δ (some (.inr r), Γ, δ) := by
  unfold F_Bs_keptAt at h
  refine Ct.of2 (n := 0) (ls := [some (.inr (0, 0)), some (.inl x1)]) rfl (by decide +kernel) (Nat.le_of_ble_eq_true rfl) ?_
  refine x_iload_n (i := 1) d_Bs_keptAt_0 rfl rfl ?_
  refine x_if_lt (tgt := 17) d_Bs_keptAt_1 (by decide) (fun c1 => ?_) (fun c1 => ?_)
  · have h := if_t c1 h
    refine x_null d_Bs_keptAt_17 ?_
    replace h := Option.some.inj h; subst h
    exact x_aret rfl d_Bs_keptAt_18 (Nat.le_refl 0) (Nat.le_refl 0)
  · have h := if_f c1 h
    refine x_iload_n (i := 1) d_Bs_keptAt_4 rfl rfl ?_
    refine x_aload_n (i := 0) d_Bs_keptAt_5 rfl rfl ?_
    refine x_getI (f := 94) gl_Bs_32_11 rfl kf_94 (hG.ob oc_0) d_Bs_keptAt_6 ?_
    refine x_cmp_ge (tgt := 17) d_Bs_keptAt_9 (by decide) (fun c9 => ?_) (fun c9 => ?_)
    · have h := if_t c9 h
      refine x_null d_Bs_keptAt_17 ?_
      replace h := Option.some.inj h; subst h
      exact x_aret rfl d_Bs_keptAt_18 (Nat.le_refl 0) (Nat.le_refl 0)
    · have h := if_f c9 h
      refine x_iload_n (i := 1) d_Bs_keptAt_12 rfl rfl ?_
      refine x_ic (v := 4) d_Bs_keptAt_13 (by decide) ?_
      refine x_cmp_lt (tgt := 19) d_Bs_keptAt_14 (by decide) (fun c14 => ?_) (fun c14 => ?_)
      · have h := if_t c14 h
        refine x_aload_n (i := 0) d_Bs_keptAt_19 rfl rfl ?_
        refine x_getA (f := 93) gl_Bs_28_11 rfl (by rw [kf_93]; decide) (hG.ob oc_0) d_Bs_keptAt_20 ?_
        refine x_iload_n (i := 1) d_Bs_keptAt_23 rfl rfl ?_
        obtain ⟨g24, h⟩ := gd_e h
        refine x_aald (n := 4) kf_93 (oz_93 (hG.ob oc_0)) (ln_93 _) g24 d_Bs_keptAt_24 ?_
        replace h := Option.some.inj h; subst h
        exact x_aret rfl d_Bs_keptAt_25 (Nat.le_refl 0) (Nat.le_refl 0)
      · have h := if_f c14 h
        refine x_null d_Bs_keptAt_17 ?_
        replace h := Option.some.inj h; subst h
        exact x_aret rfl d_Bs_keptAt_18 (Nat.le_refl 0) (Nat.le_refl 0)
-- BlockStage.use(I)I
theorem d_Bs_use_0 : decode M_Bs_use.2.1 0 = .ok (.aload_n 0, 1) := by decide +kernel
theorem d_Bs_use_1 : decode M_Bs_use.2.1 1 = .ok (.iload_n 1, 1) := by decide +kernel
theorem d_Bs_use_2 : decode M_Bs_use.2.1 2 = .ok (.invokevirtual 158, 3) := by decide +kernel
theorem d_Bs_use_5 : decode M_Bs_use.2.1 5 = .ok (.astore_n 2, 1) := by decide +kernel
theorem d_Bs_use_6 : decode M_Bs_use.2.1 6 = .ok (.aload_n 2, 1) := by decide +kernel
theorem d_Bs_use_7 : decode M_Bs_use.2.1 7 = .ok (.ifnonnull 5, 3) := by decide +kernel
theorem d_Bs_use_10 : decode M_Bs_use.2.1 10 = .ok (.iconst (-1), 1) := by decide +kernel
theorem d_Bs_use_11 : decode M_Bs_use.2.1 11 = .ok (.ireturn, 1) := by decide +kernel
theorem d_Bs_use_12 : decode M_Bs_use.2.1 12 = .ok (.aload_n 0, 1) := by decide +kernel
theorem d_Bs_use_13 : decode M_Bs_use.2.1 13 = .ok (.getfield 24, 3) := by decide +kernel
theorem d_Bs_use_16 : decode M_Bs_use.2.1 16 = .ok (.aload_n 2, 1) := by decide +kernel
theorem d_Bs_use_17 : decode M_Bs_use.2.1 17 = .ok (.invokevirtual 154, 3) := by decide +kernel
theorem d_Bs_use_20 : decode M_Bs_use.2.1 20 = .ok (.aload_n 0, 1) := by decide +kernel
theorem d_Bs_use_21 : decode M_Bs_use.2.1 21 = .ok (.getfield 39, 3) := by decide +kernel
theorem d_Bs_use_24 : decode M_Bs_use.2.1 24 = .ok (.iconst 0, 1) := by decide +kernel
theorem d_Bs_use_25 : decode M_Bs_use.2.1 25 = .ok (.putfield 100, 3) := by decide +kernel
theorem d_Bs_use_28 : decode M_Bs_use.2.1 28 = .ok (.iconst 1, 1) := by decide +kernel
theorem d_Bs_use_29 : decode M_Bs_use.2.1 29 = .ok (.ireturn, 1) := by decide +kernel
theorem mi_Bs_keptAt : MI M_Bs_keptAt 1 := ⟨(lwg_at 1 (by decide +kernel) rfl), (lwg_at 375 (by decide +kernel) rfl), ⟨by decide +kernel, by decide +kernel⟩, by decide +kernel, by decide⟩
theorem cs_Bs_158 : CV RX11 158 RX11 M_Bs_keptAt 1 := ⟨(lwg_at 372 (by decide +kernel) rfl), (lwg_at 374 (by decide +kernel) rfl), (lwg_priv 1 (y := M_Bs_keptAt.1) (n := 18) (by decide +kernel)), mi_Bs_keptAt⟩
def F_Bs_use (x1 : Int32) (δ : Dl) : Option (Int32 × Dl) :=
  (F_Bs_keptAt x1 δ).bind fun v2 => if v2.1 = 1 then (some ((-1), δ)) else (if v2.1 = 0 ∧ Oc v2.2 9 then (F_St_copyFrom 3 v2.2 δ).bind fun δ17 => bnd (sI δ17 42 8 0) fun δ25 => some (1, δ25) else none)
set_option maxRecDepth 20000 in
set_option maxHeartbeats 4000000 in
theorem c_Bs_use {l : Launch} {Γ : Gm} (hG : GC Γ) (x1 : Int32) (δ : Dl) (r : Int32 × Dl) (h : F_Bs_use x1  δ = some r) : Ct l M_Bs_use 2 0 0 NF [.inr (0, 0), .inl x1] Γ δ (some (.inl r.1), Γ, r.2) := by
  unfold F_Bs_use at h
  refine Ct.of2 (n := 1) (ls := [some (.inr (0, 0)), some (.inl x1), none]) rfl (by decide +kernel) (Nat.le_of_ble_eq_true rfl) ?_
  refine x_aload_n (i := 0) d_Bs_use_0 rfl rfl ?_
  refine x_iload_n (i := 1) d_Bs_use_1 rfl rfl ?_
  obtain ⟨v2, ev2, h⟩ := bd_e h
  refine y_V1 cs_Bs_158 rfl (hG.ob oc_0) (by first | decide | omega) (Nat.le_of_ble_eq_true rfl) d_Bs_use_2 (c_Bs_keptAt hG x1  δ v2 ev2) (Nat.le_refl 0) (Nat.le_refl 0) ?_
  refine x_asn (i := 2) (ls' := [some (.inr (0, 0)), some (.inl x1), some (.inr v2)]) d_Bs_use_5 rfl (by decide) rfl ?_
  refine x_aload_n (i := 2) d_Bs_use_6 rfl rfl ?_
  refine x_ifnonnull (tgt := 12) d_Bs_use_7 (by decide) (fun c7 => ?_) (fun c7 => ?_)
  · have h := if_f c7 h
    refine x_aload_n (i := 0) d_Bs_use_12 rfl rfl ?_
    refine x_getS (f := 92) (b := 3) gl_Bs_24_11 rfl kf_92 rfl (hG.ob oc_0) d_Bs_use_13 ?_
    refine x_aload_n (i := 2) d_Bs_use_16 rfl rfl ?_
    obtain ⟨q17_1, h⟩ := gd_e h
    rw [prod0 q17_1.1]
    obtain ⟨δ17, eδ17, h⟩ := bd_e h
    refine y_V1v cs_Bs_154 rfl (hG.ob oc_3) (by first | decide | omega) (Nat.le_of_ble_eq_true rfl) d_Bs_use_17 (c_St_copyFrom hG 3 v2.2 oc_3 q17_1.2 δ δ17 eδ17) (Nat.le_refl 0) (Nat.le_refl 0) ?_
    refine x_aload_n (i := 0) d_Bs_use_20 rfl rfl ?_
    refine x_getS (f := 95) (b := 8) gl_Bs_39_11 rfl kf_95 rfl (hG.ob oc_0) d_Bs_use_21 ?_
    refine x_ic (v := 0) d_Bs_use_24 (by decide) ?_
    obtain ⟨δ25, eδ25, h⟩ := bn_e h
    refine x_putI (f := 42) gp_Bs_100_5 rfl kf_42 (fun h => by cases h) rfl rfl (hG.ob oc_8).1 (hG.ob oc_8).z d_Bs_use_25 (Xe.cδ eδ25 ?_)
    refine x_ic (v := 1) d_Bs_use_28 (by decide) ?_
    replace h := Option.some.inj h; subst h
    exact x_iret rfl d_Bs_use_29 (Nat.le_refl 0) (Nat.le_refl 0)
  · have h := if_t (Decidable.not_not.mp c7) h
    refine x_ic (v := -1) d_Bs_use_10 (by decide) ?_
    replace h := Option.some.inj h; subst h
    exact x_iret rfl d_Bs_use_11 (Nat.le_refl 0) (Nat.le_refl 0)
-- BlockStage.block(II)I
theorem d_Bs_block_0 : decode M_Bs_block.2.1 0 = .ok (.iload_n 1, 1) := by decide +kernel
theorem d_Bs_block_1 : decode M_Bs_block.2.1 1 = .ok (.ifCond .lt 17, 3) := by decide +kernel
theorem d_Bs_block_4 : decode M_Bs_block.2.1 4 = .ok (.iload_n 1, 1) := by decide +kernel
theorem d_Bs_block_5 : decode M_Bs_block.2.1 5 = .ok (.bipush 23, 2) := by decide +kernel
theorem d_Bs_block_7 : decode M_Bs_block.2.1 7 = .ok (.if_icmp .ge 11, 3) := by decide +kernel
theorem d_Bs_block_10 : decode M_Bs_block.2.1 10 = .ok (.iload_n 1, 1) := by decide +kernel
theorem d_Bs_block_11 : decode M_Bs_block.2.1 11 = .ok (.iload_n 2, 1) := by decide +kernel
theorem d_Bs_block_12 : decode M_Bs_block.2.1 12 = .ok (.invokestatic 162, 3) := by decide +kernel
theorem d_Bs_block_15 : decode M_Bs_block.2.1 15 = .ok (.ifCond .ne 6, 3) := by decide +kernel
theorem d_Bs_block_18 : decode M_Bs_block.2.1 18 = .ok (.bipush (-2), 2) := by decide +kernel
theorem d_Bs_block_20 : decode M_Bs_block.2.1 20 = .ok (.ireturn, 1) := by decide +kernel
theorem d_Bs_block_21 : decode M_Bs_block.2.1 21 = .ok (.aload_n 0, 1) := by decide +kernel
theorem d_Bs_block_22 : decode M_Bs_block.2.1 22 = .ok (.getfield 14, 3) := by decide +kernel
theorem d_Bs_block_25 : decode M_Bs_block.2.1 25 = .ok (.getfield 165, 3) := by decide +kernel
theorem d_Bs_block_28 : decode M_Bs_block.2.1 28 = .ok (.bipush 30, 2) := by decide +kernel
theorem d_Bs_block_30 : decode M_Bs_block.2.1 30 = .ok (.if_icmp .lt 6, 3) := by decide +kernel
theorem d_Bs_block_33 : decode M_Bs_block.2.1 33 = .ok (.bipush (-4), 2) := by decide +kernel
theorem d_Bs_block_35 : decode M_Bs_block.2.1 35 = .ok (.ireturn, 1) := by decide +kernel
theorem d_Bs_block_36 : decode M_Bs_block.2.1 36 = .ok (.aload_n 0, 1) := by decide +kernel
theorem d_Bs_block_37 : decode M_Bs_block.2.1 37 = .ok (.getfield 39, 3) := by decide +kernel
theorem d_Bs_block_40 : decode M_Bs_block.2.1 40 = .ok (.iconst 0, 1) := by decide +kernel
theorem d_Bs_block_41 : decode M_Bs_block.2.1 41 = .ok (.putfield 100, 3) := by decide +kernel
theorem d_Bs_block_44 : decode M_Bs_block.2.1 44 = .ok (.aload_n 0, 1) := by decide +kernel
theorem d_Bs_block_45 : decode M_Bs_block.2.1 45 = .ok (.getfield 14, 3) := by decide +kernel
theorem d_Bs_block_48 : decode M_Bs_block.2.1 48 = .ok (.iload_n 1, 1) := by decide +kernel
theorem d_Bs_block_49 : decode M_Bs_block.2.1 49 = .ok (.iload_n 2, 1) := by decide +kernel
theorem d_Bs_block_50 : decode M_Bs_block.2.1 50 = .ok (.invokevirtual 168, 3) := by decide +kernel
theorem d_Bs_block_53 : decode M_Bs_block.2.1 53 = .ok (.ireturn, 1) := by decide +kernel
theorem cs_Bs_162 : CS RX11 162 M_Bs_isNumberOf 2 := ⟨(lwg_at 380 (by decide +kernel) rfl), (lwg_at 381 (by decide +kernel) rfl), mi_Bs_isNumberOf⟩
theorem gl_Bs_14_11 : GL RX11 14 11 0 := ⟨RX11, TX11, 18, RX11, rfl, by decide, (lwg_at 235 (by decide +kernel) rfl), Or.inl rfl, gl_w inX11⟩
theorem oc_1 : Oc 1 3 := by decide
theorem gl_Bs_165_3 : GL RX11 165 3 0 := ⟨RX3, TX3, 5, RX3, rfl, by decide, (lwg_at 36 (by decide +kernel) rfl), Or.inl rfl, gl_w inX3⟩
theorem mi_Pr_addBlock : MI M_Pr_addBlock 2 := ⟨(lwg_at 2 (by decide +kernel) rfl), (lwg_at 386 (by decide +kernel) rfl), ⟨by decide +kernel, by decide +kernel⟩, by decide +kernel, by decide⟩
theorem cs_Bs_168 : CV RX11 168 RX3 M_Pr_addBlock 2 := ⟨(lwg_at 383 (by decide +kernel) rfl), (lwg_at 384 (by decide +kernel) rfl), (lwg_at 385 (by decide +kernel) rfl), mi_Pr_addBlock⟩
def F_Bs_block (x1 : Int32) (x2 : Int32) (δ : Dl) : Option (Int32 × Dl) :=
  if x1 < 0 then (some ((-2), δ)) else (if 23 ≤ x1 then (some ((-2), δ)) else (bnd (F_Bs_isNumberOf x1 x2) fun v12 => if v12 = 0 then (some ((-2), δ)) else (if (δ.1 30 1) < 30 then (bnd (sI δ 42 8 0) fun δ41 => bd2 (F_Pr_addBlock 1 x1 x2 δ41) fun v50 δ50 => some (v50, δ50)) else (some ((-4), δ)))))
set_option maxRecDepth 20000 in
set_option maxHeartbeats 4000000 in
theorem c_Bs_block {l : Launch} {Γ : Gm} (hG : GC Γ) (x1 : Int32) (x2 : Int32) (δ : Dl) (r : Int32 × Dl) (h : F_Bs_block x1 x2  δ = some r) : Ct l M_Bs_block 3 0 0 NF [.inr (0, 0), .inl x1, .inl x2] Γ δ (some (.inl r.1), Γ, r.2) := by
  unfold F_Bs_block at h
  refine Ct.of2 (n := 0) (ls := [some (.inr (0, 0)), some (.inl x1), some (.inl x2)]) rfl (by decide +kernel) (Nat.le_of_ble_eq_true rfl) ?_
  refine x_iload_n (i := 1) d_Bs_block_0 rfl rfl ?_
  refine x_if_lt (tgt := 18) d_Bs_block_1 (by decide) (fun c1 => ?_) (fun c1 => ?_)
  · have h := if_t c1 h
    refine x_bi (v := -2) d_Bs_block_18 (by decide) ?_
    replace h := Option.some.inj h; subst h
    exact x_iret rfl d_Bs_block_20 (Nat.le_refl 0) (Nat.le_refl 0)
  · have h := if_f c1 h
    refine x_iload_n (i := 1) d_Bs_block_4 rfl rfl ?_
    refine x_bi (v := 23) d_Bs_block_5 (by decide) ?_
    refine x_cmp_ge (tgt := 18) d_Bs_block_7 (by decide) (fun c7 => ?_) (fun c7 => ?_)
    · have h := if_t c7 h
      refine x_bi (v := -2) d_Bs_block_18 (by decide) ?_
      replace h := Option.some.inj h; subst h
      exact x_iret rfl d_Bs_block_20 (Nat.le_refl 0) (Nat.le_refl 0)
    · have h := if_f c7 h
      refine x_iload_n (i := 1) d_Bs_block_10 rfl rfl ?_
      refine x_iload_n (i := 2) d_Bs_block_11 rfl rfl ?_
      obtain ⟨v12, ev12, h⟩ := bn_e h
      refine y_S2 cs_Bs_162 (by first | decide | omega) (Nat.le_of_ble_eq_true rfl) d_Bs_block_12 (c_Bs_isNumberOf x1 x2  δ v12 ev12) (Nat.le_refl 0) (Nat.le_refl 0) ?_
      refine x_if_ne (tgt := 21) d_Bs_block_15 (by decide) (fun c15 => ?_) (fun c15 => ?_)
      · have h := if_f c15 h
        refine x_aload_n (i := 0) d_Bs_block_21 rfl rfl ?_
        refine x_getS (f := 90) (b := 1) gl_Bs_14_11 rfl kf_90 rfl (hG.ob oc_0) d_Bs_block_22 ?_
        refine x_getI (f := 30) gl_Bs_165_3 rfl kf_30 (hG.ob oc_1) d_Bs_block_25 ?_
        refine x_bi (v := 30) d_Bs_block_28 (by decide) ?_
        refine x_cmp_lt (tgt := 36) d_Bs_block_30 (by decide) (fun c30 => ?_) (fun c30 => ?_)
        · have h := if_t c30 h
          refine x_aload_n (i := 0) d_Bs_block_36 rfl rfl ?_
          refine x_getS (f := 95) (b := 8) gl_Bs_39_11 rfl kf_95 rfl (hG.ob oc_0) d_Bs_block_37 ?_
          refine x_ic (v := 0) d_Bs_block_40 (by decide) ?_
          obtain ⟨δ41, eδ41, h⟩ := bn_e h
          refine x_putI (f := 42) gp_Bs_100_5 rfl kf_42 (fun h => by cases h) rfl rfl (hG.ob oc_8).1 (hG.ob oc_8).z d_Bs_block_41 (Xe.cδ eδ41 ?_)
          refine x_aload_n (i := 0) d_Bs_block_44 rfl rfl ?_
          refine x_getS (f := 90) (b := 1) gl_Bs_14_11 rfl kf_90 rfl (hG.ob oc_0) d_Bs_block_45 ?_
          refine x_iload_n (i := 1) d_Bs_block_48 rfl rfl ?_
          refine x_iload_n (i := 2) d_Bs_block_49 rfl rfl ?_
          obtain ⟨v50, δ50, eδ50, h⟩ := bd2_e h
          refine y_V2 cs_Bs_168 rfl (hG.ob oc_1) (by first | decide | omega) (Nat.le_of_ble_eq_true rfl) d_Bs_block_50 (c_Pr_addBlock hG 1 x1 x2 oc_1 δ41 (v50, δ50) eδ50) (Nat.le_refl 0) (Nat.le_refl 0) ?_
          replace h := Option.some.inj h; subst h
          exact x_iret rfl d_Bs_block_53 (Nat.le_refl 0) (Nat.le_refl 0)
        · have h := if_f c30 h
          refine x_bi (v := -4) d_Bs_block_33 (by decide) ?_
          replace h := Option.some.inj h; subst h
          exact x_iret rfl d_Bs_block_35 (Nat.le_refl 0) (Nat.le_refl 0)
      · have h := if_t c15 h
        refine x_bi (v := -2) d_Bs_block_18 (by decide) ?_
        replace h := Option.some.inj h; subst h
        exact x_iret rfl d_Bs_block_20 (Nat.le_refl 0) (Nat.le_refl 0)
-- BlockStage.join(III)I
theorem d_Bs_join_0 : decode M_Bs_join.2.1 0 = .ok (.aload_n 0, 1) := by decide +kernel
theorem d_Bs_join_1 : decode M_Bs_join.2.1 1 = .ok (.getfield 14, 3) := by decide +kernel
theorem d_Bs_join_4 : decode M_Bs_join.2.1 4 = .ok (.iload_n 1, 1) := by decide +kernel
theorem d_Bs_join_5 : decode M_Bs_join.2.1 5 = .ok (.invokevirtual 171, 3) := by decide +kernel
theorem d_Bs_join_8 : decode M_Bs_join.2.1 8 = .ok (.ifCond .eq 14, 3) := by decide +kernel
theorem d_Bs_join_11 : decode M_Bs_join.2.1 11 = .ok (.aload_n 0, 1) := by decide +kernel
theorem d_Bs_join_12 : decode M_Bs_join.2.1 12 = .ok (.getfield 14, 3) := by decide +kernel
theorem d_Bs_join_15 : decode M_Bs_join.2.1 15 = .ok (.iload_n 3, 1) := by decide +kernel
theorem d_Bs_join_16 : decode M_Bs_join.2.1 16 = .ok (.invokevirtual 171, 3) := by decide +kernel
theorem d_Bs_join_19 : decode M_Bs_join.2.1 19 = .ok (.ifCond .ne 5, 3) := by decide +kernel
theorem d_Bs_join_22 : decode M_Bs_join.2.1 22 = .ok (.iconst (-1), 1) := by decide +kernel
theorem d_Bs_join_23 : decode M_Bs_join.2.1 23 = .ok (.ireturn, 1) := by decide +kernel
theorem d_Bs_join_24 : decode M_Bs_join.2.1 24 = .ok (.aload_n 0, 1) := by decide +kernel
theorem d_Bs_join_25 : decode M_Bs_join.2.1 25 = .ok (.getfield 14, 3) := by decide +kernel
theorem d_Bs_join_28 : decode M_Bs_join.2.1 28 = .ok (.iload_n 1, 1) := by decide +kernel
theorem d_Bs_join_29 : decode M_Bs_join.2.1 29 = .ok (.iload_n 2, 1) := by decide +kernel
theorem d_Bs_join_30 : decode M_Bs_join.2.1 30 = .ok (.invokevirtual 174, 3) := by decide +kernel
theorem d_Bs_join_33 : decode M_Bs_join.2.1 33 = .ok (.ifCond .ne 5, 3) := by decide +kernel
theorem d_Bs_join_36 : decode M_Bs_join.2.1 36 = .ok (.iconst (-1), 1) := by decide +kernel
theorem d_Bs_join_37 : decode M_Bs_join.2.1 37 = .ok (.ireturn, 1) := by decide +kernel
theorem d_Bs_join_38 : decode M_Bs_join.2.1 38 = .ok (.aload_n 0, 1) := by decide +kernel
theorem d_Bs_join_39 : decode M_Bs_join.2.1 39 = .ok (.getfield 14, 3) := by decide +kernel
theorem d_Bs_join_42 : decode M_Bs_join.2.1 42 = .ok (.iload_n 1, 1) := by decide +kernel
theorem d_Bs_join_43 : decode M_Bs_join.2.1 43 = .ok (.iload_n 2, 1) := by decide +kernel
theorem d_Bs_join_44 : decode M_Bs_join.2.1 44 = .ok (.invokevirtual 177, 3) := by decide +kernel
theorem d_Bs_join_47 : decode M_Bs_join.2.1 47 = .ok (.iconst (-1), 1) := by decide +kernel
theorem d_Bs_join_48 : decode M_Bs_join.2.1 48 = .ok (.if_icmp .ne 14, 3) := by decide +kernel
theorem d_Bs_join_51 : decode M_Bs_join.2.1 51 = .ok (.aload_n 0, 1) := by decide +kernel
theorem d_Bs_join_52 : decode M_Bs_join.2.1 52 = .ok (.getfield 14, 3) := by decide +kernel
theorem d_Bs_join_55 : decode M_Bs_join.2.1 55 = .ok (.iload_n 3, 1) := by decide +kernel
theorem d_Bs_join_56 : decode M_Bs_join.2.1 56 = .ok (.invokevirtual 180, 3) := by decide +kernel
theorem d_Bs_join_59 : decode M_Bs_join.2.1 59 = .ok (.ifCond .ne 6, 3) := by decide +kernel
theorem d_Bs_join_62 : decode M_Bs_join.2.1 62 = .ok (.bipush (-3), 2) := by decide +kernel
theorem d_Bs_join_64 : decode M_Bs_join.2.1 64 = .ok (.ireturn, 1) := by decide +kernel
theorem d_Bs_join_65 : decode M_Bs_join.2.1 65 = .ok (.aload_n 0, 1) := by decide +kernel
theorem d_Bs_join_66 : decode M_Bs_join.2.1 66 = .ok (.getfield 14, 3) := by decide +kernel
theorem d_Bs_join_69 : decode M_Bs_join.2.1 69 = .ok (.iload_n 1, 1) := by decide +kernel
theorem d_Bs_join_70 : decode M_Bs_join.2.1 70 = .ok (.invokevirtual 183, 3) := by decide +kernel
theorem d_Bs_join_73 : decode M_Bs_join.2.1 73 = .ok (.iload_n 2, 1) := by decide +kernel
theorem d_Bs_join_74 : decode M_Bs_join.2.1 74 = .ok (.aload_n 0, 1) := by decide +kernel
theorem d_Bs_join_75 : decode M_Bs_join.2.1 75 = .ok (.getfield 14, 3) := by decide +kernel
theorem d_Bs_join_78 : decode M_Bs_join.2.1 78 = .ok (.iload_n 3, 1) := by decide +kernel
theorem d_Bs_join_79 : decode M_Bs_join.2.1 79 = .ok (.invokevirtual 183, 3) := by decide +kernel
theorem d_Bs_join_82 : decode M_Bs_join.2.1 82 = .ok (.invokestatic 186, 3) := by decide +kernel
theorem d_Bs_join_85 : decode M_Bs_join.2.1 85 = .ok (.ifCond .ne 6, 3) := by decide +kernel
theorem d_Bs_join_88 : decode M_Bs_join.2.1 88 = .ok (.bipush (-2), 2) := by decide +kernel
theorem d_Bs_join_90 : decode M_Bs_join.2.1 90 = .ok (.ireturn, 1) := by decide +kernel
theorem d_Bs_join_91 : decode M_Bs_join.2.1 91 = .ok (.aload_n 0, 1) := by decide +kernel
theorem d_Bs_join_92 : decode M_Bs_join.2.1 92 = .ok (.getfield 14, 3) := by decide +kernel
theorem d_Bs_join_95 : decode M_Bs_join.2.1 95 = .ok (.iload_n 1, 1) := by decide +kernel
theorem d_Bs_join_96 : decode M_Bs_join.2.1 96 = .ok (.iload_n 3, 1) := by decide +kernel
theorem d_Bs_join_97 : decode M_Bs_join.2.1 97 = .ok (.invokevirtual 189, 3) := by decide +kernel
theorem d_Bs_join_100 : decode M_Bs_join.2.1 100 = .ok (.ifCond .eq 6, 3) := by decide +kernel
theorem d_Bs_join_103 : decode M_Bs_join.2.1 103 = .ok (.bipush (-2), 2) := by decide +kernel
theorem d_Bs_join_105 : decode M_Bs_join.2.1 105 = .ok (.ireturn, 1) := by decide +kernel
theorem d_Bs_join_106 : decode M_Bs_join.2.1 106 = .ok (.aload_n 0, 1) := by decide +kernel
theorem d_Bs_join_107 : decode M_Bs_join.2.1 107 = .ok (.getfield 14, 3) := by decide +kernel
theorem d_Bs_join_110 : decode M_Bs_join.2.1 110 = .ok (.iload_n 1, 1) := by decide +kernel
theorem d_Bs_join_111 : decode M_Bs_join.2.1 111 = .ok (.iload_n 2, 1) := by decide +kernel
theorem d_Bs_join_112 : decode M_Bs_join.2.1 112 = .ok (.iload_n 3, 1) := by decide +kernel
theorem d_Bs_join_113 : decode M_Bs_join.2.1 113 = .ok (.invokevirtual 192, 3) := by decide +kernel
theorem d_Bs_join_116 : decode M_Bs_join.2.1 116 = .ok (.aload_n 0, 1) := by decide +kernel
theorem d_Bs_join_117 : decode M_Bs_join.2.1 117 = .ok (.getfield 39, 3) := by decide +kernel
theorem d_Bs_join_120 : decode M_Bs_join.2.1 120 = .ok (.iconst 0, 1) := by decide +kernel
theorem d_Bs_join_121 : decode M_Bs_join.2.1 121 = .ok (.putfield 100, 3) := by decide +kernel
theorem d_Bs_join_124 : decode M_Bs_join.2.1 124 = .ok (.iconst 1, 1) := by decide +kernel
theorem d_Bs_join_125 : decode M_Bs_join.2.1 125 = .ok (.ireturn, 1) := by decide +kernel
theorem cs_Bs_171 : CV RX11 171 RX3 M_Pr_isBlock 1 := ⟨(lwg_at 397 (by decide +kernel) rfl), (lwg_at 398 (by decide +kernel) rfl), (lwg_at 399 (by decide +kernel) rfl), mi_Pr_isBlock⟩
theorem cs_Bs_174 : CV RX11 174 RX3 M_Pr_hasHole 2 := ⟨(lwg_at 401 (by decide +kernel) rfl), (lwg_at 402 (by decide +kernel) rfl), (lwg_at 403 (by decide +kernel) rfl), mi_Pr_hasHole⟩
theorem cs_Bs_177 : CV RX11 177 RX3 M_Pr_inHole 2 := ⟨(lwg_at 407 (by decide +kernel) rfl), (lwg_at 408 (by decide +kernel) rfl), (lwg_at 409 (by decide +kernel) rfl), mi_Pr_inHole⟩
theorem cs_Bs_180 : CV RX11 180 RX3 M_Pr_isLoose 1 := ⟨(lwg_at 411 (by decide +kernel) rfl), (lwg_at 412 (by decide +kernel) rfl), (lwg_at 413 (by decide +kernel) rfl), mi_Pr_isLoose⟩
theorem cs_Bs_183 : CV RX11 183 RX3 M_Pr_kindOf 1 := ⟨(lwg_at 415 (by decide +kernel) rfl), (lwg_at 416 (by decide +kernel) rfl), (lwg_at 417 (by decide +kernel) rfl), mi_Pr_kindOf⟩
theorem mi_Bs_fits : MI M_Bs_fits 3 := ⟨(lwg_at 1 (by decide +kernel) rfl), (lwg_at 421 (by decide +kernel) rfl), ⟨by decide +kernel, by decide +kernel⟩, by decide +kernel, by decide⟩
theorem cs_Bs_186 : CS RX11 186 M_Bs_fits 3 := ⟨(lwg_at 419 (by decide +kernel) rfl), (lwg_at 420 (by decide +kernel) rfl), mi_Bs_fits⟩
theorem mi_Pr_isWithin : MI M_Pr_isWithin 2 := ⟨(lwg_at 2 (by decide +kernel) rfl), (lwg_at 434 (by decide +kernel) rfl), ⟨by decide +kernel, by decide +kernel⟩, by decide +kernel, by decide⟩
theorem cs_Bs_189 : CV RX11 189 RX3 M_Pr_isWithin 2 := ⟨(lwg_at 431 (by decide +kernel) rfl), (lwg_at 432 (by decide +kernel) rfl), (lwg_at 433 (by decide +kernel) rfl), mi_Pr_isWithin⟩
theorem cs_Bs_192 : CV RX11 192 RX3 M_Pr_attach 3 := ⟨(lwg_at 435 (by decide +kernel) rfl), (lwg_at 436 (by decide +kernel) rfl), (lwg_at 437 (by decide +kernel) rfl), mi_Pr_attach⟩
def F_Bs_join (x1 : Int32) (x2 : Int32) (x3 : Int32) (δ : Dl) : Option (Int32 × Dl) :=
  bnd (F_Pr_isBlock 1 x1 δ) fun v5 => if v5 = 0 then (some ((-1), δ)) else (bnd (F_Pr_isBlock 1 x3 δ) fun v16 => if v16 = 0 then (some ((-1), δ)) else ((F_Pr_hasHole 1 x1 x2 δ).bind fun v30 => if v30 = 0 then (some ((-1), δ)) else ((F_Pr_inHole 1 x1 x2 δ).bind fun v44 => if v44 = (-1) then ((F_Pr_isLoose 1 x3 δ).bind fun v56 => if v56 = 0 then (some ((-3), δ)) else ((F_Pr_kindOf 1 x1 δ).bind fun v70 => (F_Pr_kindOf 1 x3 δ).bind fun v79 => bnd (F_Bs_fits v70 x2 v79) fun v82 => if v82 = 0 then (some ((-2), δ)) else ((F_Pr_isWithin 1 x1 x3 δ).bind fun v97 => if v97 = 0 then ((F_Pr_attach 1 x1 x2 x3 δ).bind fun δ113 => bnd (sI δ113 42 8 0) fun δ121 => some (1, δ121)) else (some ((-2), δ))))) else (some ((-3), δ)))))
set_option maxRecDepth 20000 in
set_option maxHeartbeats 4000000 in
theorem c_Bs_join {l : Launch} {Γ : Gm} (hG : GC Γ) (x1 : Int32) (x2 : Int32) (x3 : Int32) (δ : Dl) (r : Int32 × Dl) (h : F_Bs_join x1 x2 x3  δ = some r) : Ct l M_Bs_join 2 0 0 NF [.inr (0, 0), .inl x1, .inl x2, .inl x3] Γ δ (some (.inl r.1), Γ, r.2) := by
  unfold F_Bs_join at h
  refine Ct.of2 (n := 0) (ls := [some (.inr (0, 0)), some (.inl x1), some (.inl x2), some (.inl x3)]) rfl (by decide +kernel) (Nat.le_of_ble_eq_true rfl) ?_
  refine x_aload_n (i := 0) d_Bs_join_0 rfl rfl ?_
  refine x_getS (f := 90) (b := 1) gl_Bs_14_11 rfl kf_90 rfl (hG.ob oc_0) d_Bs_join_1 ?_
  refine x_iload_n (i := 1) d_Bs_join_4 rfl rfl ?_
  obtain ⟨v5, ev5, h⟩ := bn_e h
  refine y_V1 cs_Bs_171 rfl (hG.ob oc_1) (by first | decide | omega) (Nat.le_of_ble_eq_true rfl) d_Bs_join_5 (c_Pr_isBlock hG 1 x1 oc_1 δ v5 ev5) (Nat.le_refl 0) (Nat.le_refl 0) ?_
  refine x_if_eq (tgt := 22) d_Bs_join_8 (by decide) (fun c8 => ?_) (fun c8 => ?_)
  · have h := if_t c8 h
    refine x_ic (v := -1) d_Bs_join_22 (by decide) ?_
    replace h := Option.some.inj h; subst h
    exact x_iret rfl d_Bs_join_23 (Nat.le_refl 0) (Nat.le_refl 0)
  · have h := if_f c8 h
    refine x_aload_n (i := 0) d_Bs_join_11 rfl rfl ?_
    refine x_getS (f := 90) (b := 1) gl_Bs_14_11 rfl kf_90 rfl (hG.ob oc_0) d_Bs_join_12 ?_
    refine x_iload_n (i := 3) d_Bs_join_15 rfl rfl ?_
    obtain ⟨v16, ev16, h⟩ := bn_e h
    refine y_V1 cs_Bs_171 rfl (hG.ob oc_1) (by first | decide | omega) (Nat.le_of_ble_eq_true rfl) d_Bs_join_16 (c_Pr_isBlock hG 1 x3 oc_1 δ v16 ev16) (Nat.le_refl 0) (Nat.le_refl 0) ?_
    refine x_if_ne (tgt := 24) d_Bs_join_19 (by decide) (fun c19 => ?_) (fun c19 => ?_)
    · have h := if_f c19 h
      refine x_aload_n (i := 0) d_Bs_join_24 rfl rfl ?_
      refine x_getS (f := 90) (b := 1) gl_Bs_14_11 rfl kf_90 rfl (hG.ob oc_0) d_Bs_join_25 ?_
      refine x_iload_n (i := 1) d_Bs_join_28 rfl rfl ?_
      refine x_iload_n (i := 2) d_Bs_join_29 rfl rfl ?_
      obtain ⟨v30, ev30, h⟩ := bd_e h
      refine y_V2 cs_Bs_174 rfl (hG.ob oc_1) (by first | decide | omega) (Nat.le_of_ble_eq_true rfl) d_Bs_join_30 (c_Pr_hasHole hG 1 x1 x2 oc_1 δ v30 ev30) (Nat.le_refl 0) (Nat.le_refl 0) ?_
      refine x_if_ne (tgt := 38) d_Bs_join_33 (by decide) (fun c33 => ?_) (fun c33 => ?_)
      · have h := if_f c33 h
        refine x_aload_n (i := 0) d_Bs_join_38 rfl rfl ?_
        refine x_getS (f := 90) (b := 1) gl_Bs_14_11 rfl kf_90 rfl (hG.ob oc_0) d_Bs_join_39 ?_
        refine x_iload_n (i := 1) d_Bs_join_42 rfl rfl ?_
        refine x_iload_n (i := 2) d_Bs_join_43 rfl rfl ?_
        obtain ⟨v44, ev44, h⟩ := bd_e h
        refine y_V2 cs_Bs_177 rfl (hG.ob oc_1) (by first | decide | omega) (Nat.le_of_ble_eq_true rfl) d_Bs_join_44 (c_Pr_inHole hG 1 x1 x2 oc_1 δ v44 ev44) (Nat.le_refl 0) (Nat.le_refl 0) ?_
        refine x_ic (v := -1) d_Bs_join_47 (by decide) ?_
        refine x_cmp_ne (tgt := 62) d_Bs_join_48 (by decide) (fun c48 => ?_) (fun c48 => ?_)
        · have h := if_f c48 h
          refine x_bi (v := -3) d_Bs_join_62 (by decide) ?_
          replace h := Option.some.inj h; subst h
          exact x_iret rfl d_Bs_join_64 (Nat.le_refl 0) (Nat.le_refl 0)
        · have h := if_t c48 h
          refine x_aload_n (i := 0) d_Bs_join_51 rfl rfl ?_
          refine x_getS (f := 90) (b := 1) gl_Bs_14_11 rfl kf_90 rfl (hG.ob oc_0) d_Bs_join_52 ?_
          refine x_iload_n (i := 3) d_Bs_join_55 rfl rfl ?_
          obtain ⟨v56, ev56, h⟩ := bd_e h
          refine y_V1 cs_Bs_180 rfl (hG.ob oc_1) (by first | decide | omega) (Nat.le_of_ble_eq_true rfl) d_Bs_join_56 (c_Pr_isLoose hG 1 x3 oc_1 δ v56 ev56) (Nat.le_refl 0) (Nat.le_refl 0) ?_
          refine x_if_ne (tgt := 65) d_Bs_join_59 (by decide) (fun c59 => ?_) (fun c59 => ?_)
          · have h := if_f c59 h
            refine x_aload_n (i := 0) d_Bs_join_65 rfl rfl ?_
            refine x_getS (f := 90) (b := 1) gl_Bs_14_11 rfl kf_90 rfl (hG.ob oc_0) d_Bs_join_66 ?_
            refine x_iload_n (i := 1) d_Bs_join_69 rfl rfl ?_
            obtain ⟨v70, ev70, h⟩ := bd_e h
            refine y_V1 cs_Bs_183 rfl (hG.ob oc_1) (by first | decide | omega) (Nat.le_of_ble_eq_true rfl) d_Bs_join_70 (c_Pr_kindOf hG 1 x1 oc_1 δ v70 ev70) (Nat.le_refl 0) (Nat.le_refl 0) ?_
            refine x_iload_n (i := 2) d_Bs_join_73 rfl rfl ?_
            refine x_aload_n (i := 0) d_Bs_join_74 rfl rfl ?_
            refine x_getS (f := 90) (b := 1) gl_Bs_14_11 rfl kf_90 rfl (hG.ob oc_0) d_Bs_join_75 ?_
            refine x_iload_n (i := 3) d_Bs_join_78 rfl rfl ?_
            obtain ⟨v79, ev79, h⟩ := bd_e h
            refine y_V1 cs_Bs_183 rfl (hG.ob oc_1) (by first | decide | omega) (Nat.le_of_ble_eq_true rfl) d_Bs_join_79 (c_Pr_kindOf hG 1 x3 oc_1 δ v79 ev79) (Nat.le_refl 0) (Nat.le_refl 0) ?_
            obtain ⟨v82, ev82, h⟩ := bn_e h
            refine y_S3 cs_Bs_186 (by first | decide | omega) (Nat.le_of_ble_eq_true rfl) d_Bs_join_82 (c_Bs_fits v70 x2 v79  δ v82 ev82) (Nat.le_refl 0) (Nat.le_refl 0) ?_
            refine x_if_ne (tgt := 91) d_Bs_join_85 (by decide) (fun c85 => ?_) (fun c85 => ?_)
            · have h := if_f c85 h
              refine x_aload_n (i := 0) d_Bs_join_91 rfl rfl ?_
              refine x_getS (f := 90) (b := 1) gl_Bs_14_11 rfl kf_90 rfl (hG.ob oc_0) d_Bs_join_92 ?_
              refine x_iload_n (i := 1) d_Bs_join_95 rfl rfl ?_
              refine x_iload_n (i := 3) d_Bs_join_96 rfl rfl ?_
              obtain ⟨v97, ev97, h⟩ := bd_e h
              refine y_V2 cs_Bs_189 rfl (hG.ob oc_1) (by first | decide | omega) (Nat.le_of_ble_eq_true rfl) d_Bs_join_97 (c_Pr_isWithin hG 1 x1 x3 oc_1 δ v97 ev97) (Nat.le_refl 0) (Nat.le_refl 0) ?_
              refine x_if_eq (tgt := 106) d_Bs_join_100 (by decide) (fun c100 => ?_) (fun c100 => ?_)
              · have h := if_t c100 h
                refine x_aload_n (i := 0) d_Bs_join_106 rfl rfl ?_
                refine x_getS (f := 90) (b := 1) gl_Bs_14_11 rfl kf_90 rfl (hG.ob oc_0) d_Bs_join_107 ?_
                refine x_iload_n (i := 1) d_Bs_join_110 rfl rfl ?_
                refine x_iload_n (i := 2) d_Bs_join_111 rfl rfl ?_
                refine x_iload_n (i := 3) d_Bs_join_112 rfl rfl ?_
                obtain ⟨δ113, eδ113, h⟩ := bd_e h
                refine y_V3v cs_Bs_192 rfl (hG.ob oc_1) (by first | decide | omega) (Nat.le_of_ble_eq_true rfl) d_Bs_join_113 (c_Pr_attach hG 1 x1 x2 x3 oc_1 δ δ113 eδ113) (Nat.le_refl 0) (Nat.le_refl 0) ?_
                refine x_aload_n (i := 0) d_Bs_join_116 rfl rfl ?_
                refine x_getS (f := 95) (b := 8) gl_Bs_39_11 rfl kf_95 rfl (hG.ob oc_0) d_Bs_join_117 ?_
                refine x_ic (v := 0) d_Bs_join_120 (by decide) ?_
                obtain ⟨δ121, eδ121, h⟩ := bn_e h
                refine x_putI (f := 42) gp_Bs_100_5 rfl kf_42 (fun h => by cases h) rfl rfl (hG.ob oc_8).1 (hG.ob oc_8).z d_Bs_join_121 (Xe.cδ eδ121 ?_)
                refine x_ic (v := 1) d_Bs_join_124 (by decide) ?_
                replace h := Option.some.inj h; subst h
                exact x_iret rfl d_Bs_join_125 (Nat.le_refl 0) (Nat.le_refl 0)
              · have h := if_f c100 h
                refine x_bi (v := -2) d_Bs_join_103 (by decide) ?_
                replace h := Option.some.inj h; subst h
                exact x_iret rfl d_Bs_join_105 (Nat.le_refl 0) (Nat.le_refl 0)
            · have h := if_t c85 h
              refine x_bi (v := -2) d_Bs_join_88 (by decide) ?_
              replace h := Option.some.inj h; subst h
              exact x_iret rfl d_Bs_join_90 (Nat.le_refl 0) (Nat.le_refl 0)
          · have h := if_t c59 h
            refine x_bi (v := -3) d_Bs_join_62 (by decide) ?_
            replace h := Option.some.inj h; subst h
            exact x_iret rfl d_Bs_join_64 (Nat.le_refl 0) (Nat.le_refl 0)
      · have h := if_t c33 h
        refine x_ic (v := -1) d_Bs_join_36 (by decide) ?_
        replace h := Option.some.inj h; subst h
        exact x_iret rfl d_Bs_join_37 (Nat.le_refl 0) (Nat.le_refl 0)
    · have h := if_t c19 h
      refine x_ic (v := -1) d_Bs_join_22 (by decide) ?_
      replace h := Option.some.inj h; subst h
      exact x_iret rfl d_Bs_join_23 (Nat.le_refl 0) (Nat.le_refl 0)
-- BlockStage.take(I)I
theorem d_Bs_take_0 : decode M_Bs_take.2.1 0 = .ok (.aload_n 0, 1) := by decide +kernel
theorem d_Bs_take_1 : decode M_Bs_take.2.1 1 = .ok (.getfield 14, 3) := by decide +kernel
theorem d_Bs_take_4 : decode M_Bs_take.2.1 4 = .ok (.iload_n 1, 1) := by decide +kernel
theorem d_Bs_take_5 : decode M_Bs_take.2.1 5 = .ok (.invokevirtual 171, 3) := by decide +kernel
theorem d_Bs_take_8 : decode M_Bs_take.2.1 8 = .ok (.ifCond .ne 5, 3) := by decide +kernel
theorem d_Bs_take_11 : decode M_Bs_take.2.1 11 = .ok (.iconst (-1), 1) := by decide +kernel
theorem d_Bs_take_12 : decode M_Bs_take.2.1 12 = .ok (.ireturn, 1) := by decide +kernel
theorem d_Bs_take_13 : decode M_Bs_take.2.1 13 = .ok (.aload_n 0, 1) := by decide +kernel
theorem d_Bs_take_14 : decode M_Bs_take.2.1 14 = .ok (.getfield 14, 3) := by decide +kernel
theorem d_Bs_take_17 : decode M_Bs_take.2.1 17 = .ok (.iload_n 1, 1) := by decide +kernel
theorem d_Bs_take_18 : decode M_Bs_take.2.1 18 = .ok (.invokevirtual 180, 3) := by decide +kernel
theorem d_Bs_take_21 : decode M_Bs_take.2.1 21 = .ok (.ifCond .eq 6, 3) := by decide +kernel
theorem d_Bs_take_24 : decode M_Bs_take.2.1 24 = .ok (.bipush (-3), 2) := by decide +kernel
theorem d_Bs_take_26 : decode M_Bs_take.2.1 26 = .ok (.ireturn, 1) := by decide +kernel
theorem d_Bs_take_27 : decode M_Bs_take.2.1 27 = .ok (.aload_n 0, 1) := by decide +kernel
theorem d_Bs_take_28 : decode M_Bs_take.2.1 28 = .ok (.getfield 14, 3) := by decide +kernel
theorem d_Bs_take_31 : decode M_Bs_take.2.1 31 = .ok (.iload_n 1, 1) := by decide +kernel
theorem d_Bs_take_32 : decode M_Bs_take.2.1 32 = .ok (.invokevirtual 195, 3) := by decide +kernel
theorem d_Bs_take_35 : decode M_Bs_take.2.1 35 = .ok (.aload_n 0, 1) := by decide +kernel
theorem d_Bs_take_36 : decode M_Bs_take.2.1 36 = .ok (.getfield 39, 3) := by decide +kernel
theorem d_Bs_take_39 : decode M_Bs_take.2.1 39 = .ok (.iconst 0, 1) := by decide +kernel
theorem d_Bs_take_40 : decode M_Bs_take.2.1 40 = .ok (.putfield 100, 3) := by decide +kernel
theorem d_Bs_take_43 : decode M_Bs_take.2.1 43 = .ok (.iconst 1, 1) := by decide +kernel
theorem d_Bs_take_44 : decode M_Bs_take.2.1 44 = .ok (.ireturn, 1) := by decide +kernel
theorem cs_Bs_195 : CV RX11 195 RX3 M_Pr_detach 1 := ⟨(lwg_at 443 (by decide +kernel) rfl), (lwg_at 444 (by decide +kernel) rfl), (lwg_at 445 (by decide +kernel) rfl), mi_Pr_detach⟩
def F_Bs_take (x1 : Int32) (δ : Dl) : Option (Int32 × Dl) :=
  bnd (F_Pr_isBlock 1 x1 δ) fun v5 => if v5 = 0 then (some ((-1), δ)) else ((F_Pr_isLoose 1 x1 δ).bind fun v18 => if v18 = 0 then ((F_Pr_detach 1 x1 δ).bind fun δ32 => bnd (sI δ32 42 8 0) fun δ40 => some (1, δ40)) else (some ((-3), δ)))
set_option maxRecDepth 20000 in
set_option maxHeartbeats 4000000 in
theorem c_Bs_take {l : Launch} {Γ : Gm} (hG : GC Γ) (x1 : Int32) (δ : Dl) (r : Int32 × Dl) (h : F_Bs_take x1  δ = some r) : Ct l M_Bs_take 1 0 0 NF [.inr (0, 0), .inl x1] Γ δ (some (.inl r.1), Γ, r.2) := by
  unfold F_Bs_take at h
  refine Ct.of2 (n := 0) (ls := [some (.inr (0, 0)), some (.inl x1)]) rfl (by decide +kernel) (Nat.le_of_ble_eq_true rfl) ?_
  refine x_aload_n (i := 0) d_Bs_take_0 rfl rfl ?_
  refine x_getS (f := 90) (b := 1) gl_Bs_14_11 rfl kf_90 rfl (hG.ob oc_0) d_Bs_take_1 ?_
  refine x_iload_n (i := 1) d_Bs_take_4 rfl rfl ?_
  obtain ⟨v5, ev5, h⟩ := bn_e h
  refine y_V1 cs_Bs_171 rfl (hG.ob oc_1) (by first | decide | omega) (Nat.le_of_ble_eq_true rfl) d_Bs_take_5 (c_Pr_isBlock hG 1 x1 oc_1 δ v5 ev5) (Nat.le_refl 0) (Nat.le_refl 0) ?_
  refine x_if_ne (tgt := 13) d_Bs_take_8 (by decide) (fun c8 => ?_) (fun c8 => ?_)
  · have h := if_f c8 h
    refine x_aload_n (i := 0) d_Bs_take_13 rfl rfl ?_
    refine x_getS (f := 90) (b := 1) gl_Bs_14_11 rfl kf_90 rfl (hG.ob oc_0) d_Bs_take_14 ?_
    refine x_iload_n (i := 1) d_Bs_take_17 rfl rfl ?_
    obtain ⟨v18, ev18, h⟩ := bd_e h
    refine y_V1 cs_Bs_180 rfl (hG.ob oc_1) (by first | decide | omega) (Nat.le_of_ble_eq_true rfl) d_Bs_take_18 (c_Pr_isLoose hG 1 x1 oc_1 δ v18 ev18) (Nat.le_refl 0) (Nat.le_refl 0) ?_
    refine x_if_eq (tgt := 27) d_Bs_take_21 (by decide) (fun c21 => ?_) (fun c21 => ?_)
    · have h := if_t c21 h
      refine x_aload_n (i := 0) d_Bs_take_27 rfl rfl ?_
      refine x_getS (f := 90) (b := 1) gl_Bs_14_11 rfl kf_90 rfl (hG.ob oc_0) d_Bs_take_28 ?_
      refine x_iload_n (i := 1) d_Bs_take_31 rfl rfl ?_
      obtain ⟨δ32, eδ32, h⟩ := bd_e h
      refine y_V1v cs_Bs_195 rfl (hG.ob oc_1) (by first | decide | omega) (Nat.le_of_ble_eq_true rfl) d_Bs_take_32 (c_Pr_detach hG 1 x1 oc_1 δ δ32 eδ32) (Nat.le_refl 0) (Nat.le_refl 0) ?_
      refine x_aload_n (i := 0) d_Bs_take_35 rfl rfl ?_
      refine x_getS (f := 95) (b := 8) gl_Bs_39_11 rfl kf_95 rfl (hG.ob oc_0) d_Bs_take_36 ?_
      refine x_ic (v := 0) d_Bs_take_39 (by decide) ?_
      obtain ⟨δ40, eδ40, h⟩ := bn_e h
      refine x_putI (f := 42) gp_Bs_100_5 rfl kf_42 (fun h => by cases h) rfl rfl (hG.ob oc_8).1 (hG.ob oc_8).z d_Bs_take_40 (Xe.cδ eδ40 ?_)
      refine x_ic (v := 1) d_Bs_take_43 (by decide) ?_
      replace h := Option.some.inj h; subst h
      exact x_iret rfl d_Bs_take_44 (Nat.le_refl 0) (Nat.le_refl 0)
    · have h := if_f c21 h
      refine x_bi (v := -3) d_Bs_take_24 (by decide) ?_
      replace h := Option.some.inj h; subst h
      exact x_iret rfl d_Bs_take_26 (Nat.le_refl 0) (Nat.le_refl 0)
  · have h := if_t c8 h
    refine x_ic (v := -1) d_Bs_take_11 (by decide) ?_
    replace h := Option.some.inj h; subst h
    exact x_iret rfl d_Bs_take_12 (Nat.le_refl 0) (Nat.le_refl 0)
-- BlockStage.number(II)I
theorem d_Bs_number_0 : decode M_Bs_number.2.1 0 = .ok (.aload_n 0, 1) := by decide +kernel
theorem d_Bs_number_1 : decode M_Bs_number.2.1 1 = .ok (.getfield 14, 3) := by decide +kernel
theorem d_Bs_number_4 : decode M_Bs_number.2.1 4 = .ok (.iload_n 1, 1) := by decide +kernel
theorem d_Bs_number_5 : decode M_Bs_number.2.1 5 = .ok (.invokevirtual 171, 3) := by decide +kernel
theorem d_Bs_number_8 : decode M_Bs_number.2.1 8 = .ok (.ifCond .ne 5, 3) := by decide +kernel
theorem d_Bs_number_11 : decode M_Bs_number.2.1 11 = .ok (.iconst (-1), 1) := by decide +kernel
theorem d_Bs_number_12 : decode M_Bs_number.2.1 12 = .ok (.ireturn, 1) := by decide +kernel
theorem d_Bs_number_13 : decode M_Bs_number.2.1 13 = .ok (.aload_n 0, 1) := by decide +kernel
theorem d_Bs_number_14 : decode M_Bs_number.2.1 14 = .ok (.getfield 14, 3) := by decide +kernel
theorem d_Bs_number_17 : decode M_Bs_number.2.1 17 = .ok (.iload_n 1, 1) := by decide +kernel
theorem d_Bs_number_18 : decode M_Bs_number.2.1 18 = .ok (.invokevirtual 183, 3) := by decide +kernel
theorem d_Bs_number_21 : decode M_Bs_number.2.1 21 = .ok (.istore_n 3, 1) := by decide +kernel
theorem d_Bs_number_22 : decode M_Bs_number.2.1 22 = .ok (.iload_n 3, 1) := by decide +kernel
theorem d_Bs_number_23 : decode M_Bs_number.2.1 23 = .ok (.invokestatic 198, 3) := by decide +kernel
theorem d_Bs_number_26 : decode M_Bs_number.2.1 26 = .ok (.ifCond .eq 11, 3) := by decide +kernel
theorem d_Bs_number_29 : decode M_Bs_number.2.1 29 = .ok (.iload_n 3, 1) := by decide +kernel
theorem d_Bs_number_30 : decode M_Bs_number.2.1 30 = .ok (.iload_n 2, 1) := by decide +kernel
theorem d_Bs_number_31 : decode M_Bs_number.2.1 31 = .ok (.invokestatic 162, 3) := by decide +kernel
theorem d_Bs_number_34 : decode M_Bs_number.2.1 34 = .ok (.ifCond .ne 6, 3) := by decide +kernel
theorem d_Bs_number_37 : decode M_Bs_number.2.1 37 = .ok (.bipush (-2), 2) := by decide +kernel
theorem d_Bs_number_39 : decode M_Bs_number.2.1 39 = .ok (.ireturn, 1) := by decide +kernel
theorem d_Bs_number_40 : decode M_Bs_number.2.1 40 = .ok (.aload_n 0, 1) := by decide +kernel
theorem d_Bs_number_41 : decode M_Bs_number.2.1 41 = .ok (.getfield 14, 3) := by decide +kernel
theorem d_Bs_number_44 : decode M_Bs_number.2.1 44 = .ok (.iload_n 1, 1) := by decide +kernel
theorem d_Bs_number_45 : decode M_Bs_number.2.1 45 = .ok (.invokevirtual 201, 3) := by decide +kernel
theorem d_Bs_number_48 : decode M_Bs_number.2.1 48 = .ok (.istore 4, 2) := by decide +kernel
theorem d_Bs_number_50 : decode M_Bs_number.2.1 50 = .ok (.aload_n 0, 1) := by decide +kernel
theorem d_Bs_number_51 : decode M_Bs_number.2.1 51 = .ok (.getfield 14, 3) := by decide +kernel
theorem d_Bs_number_54 : decode M_Bs_number.2.1 54 = .ok (.iload_n 1, 1) := by decide +kernel
theorem d_Bs_number_55 : decode M_Bs_number.2.1 55 = .ok (.iload_n 2, 1) := by decide +kernel
theorem d_Bs_number_56 : decode M_Bs_number.2.1 56 = .ok (.invokevirtual 204, 3) := by decide +kernel
theorem d_Bs_number_59 : decode M_Bs_number.2.1 59 = .ok (.aload_n 0, 1) := by decide +kernel
theorem d_Bs_number_60 : decode M_Bs_number.2.1 60 = .ok (.getfield 39, 3) := by decide +kernel
theorem d_Bs_number_63 : decode M_Bs_number.2.1 63 = .ok (.iconst 0, 1) := by decide +kernel
theorem d_Bs_number_64 : decode M_Bs_number.2.1 64 = .ok (.putfield 100, 3) := by decide +kernel
theorem d_Bs_number_67 : decode M_Bs_number.2.1 67 = .ok (.iload 4, 2) := by decide +kernel
theorem d_Bs_number_69 : decode M_Bs_number.2.1 69 = .ok (.ireturn, 1) := by decide +kernel
theorem cs_Bs_198 : CS RX11 198 M_Bs_hasNumber 1 := ⟨(lwg_at 451 (by decide +kernel) rfl), (lwg_at 452 (by decide +kernel) rfl), mi_Bs_hasNumber⟩
theorem cs_Bs_201 : CV RX11 201 RX3 M_Pr_numberOf 1 := ⟨(lwg_at 454 (by decide +kernel) rfl), (lwg_at 455 (by decide +kernel) rfl), (lwg_at 456 (by decide +kernel) rfl), mi_Pr_numberOf⟩
theorem cs_Bs_204 : CV RX11 204 RX3 M_Pr_setNumber 2 := ⟨(lwg_at 458 (by decide +kernel) rfl), (lwg_at 459 (by decide +kernel) rfl), (lwg_at 460 (by decide +kernel) rfl), mi_Pr_setNumber⟩
def F_Bs_number (x1 : Int32) (x2 : Int32) (δ : Dl) : Option (Int32 × Dl) :=
  bnd (F_Pr_isBlock 1 x1 δ) fun v5 => if v5 = 0 then (some ((-1), δ)) else ((F_Pr_kindOf 1 x1 δ).bind fun v18 => bnd (F_Bs_hasNumber v18) fun v23 => if v23 = 0 then (some ((-2), δ)) else (bnd (F_Bs_isNumberOf v18 x2) fun v31 => if v31 = 0 then (some ((-2), δ)) else ((F_Pr_numberOf 1 x1 δ).bind fun v45 => (F_Pr_setNumber 1 x1 x2 δ).bind fun δ56 => bnd (sI δ56 42 8 0) fun δ64 => some (v45, δ64))))
set_option maxRecDepth 20000 in
set_option maxHeartbeats 4000000 in
theorem c_Bs_number {l : Launch} {Γ : Gm} (hG : GC Γ) (x1 : Int32) (x2 : Int32) (δ : Dl) (r : Int32 × Dl) (h : F_Bs_number x1 x2  δ = some r) : Ct l M_Bs_number 1 0 0 NF [.inr (0, 0), .inl x1, .inl x2] Γ δ (some (.inl r.1), Γ, r.2) := by
  unfold F_Bs_number at h
  refine Ct.of2 (n := 2) (ls := [some (.inr (0, 0)), some (.inl x1), some (.inl x2), none, none]) rfl (by decide +kernel) (Nat.le_of_ble_eq_true rfl) ?_
  refine x_aload_n (i := 0) d_Bs_number_0 rfl rfl ?_
  refine x_getS (f := 90) (b := 1) gl_Bs_14_11 rfl kf_90 rfl (hG.ob oc_0) d_Bs_number_1 ?_
  refine x_iload_n (i := 1) d_Bs_number_4 rfl rfl ?_
  obtain ⟨v5, ev5, h⟩ := bn_e h
  refine y_V1 cs_Bs_171 rfl (hG.ob oc_1) (by first | decide | omega) (Nat.le_of_ble_eq_true rfl) d_Bs_number_5 (c_Pr_isBlock hG 1 x1 oc_1 δ v5 ev5) (Nat.le_refl 0) (Nat.le_refl 0) ?_
  refine x_if_ne (tgt := 13) d_Bs_number_8 (by decide) (fun c8 => ?_) (fun c8 => ?_)
  · have h := if_f c8 h
    refine x_aload_n (i := 0) d_Bs_number_13 rfl rfl ?_
    refine x_getS (f := 90) (b := 1) gl_Bs_14_11 rfl kf_90 rfl (hG.ob oc_0) d_Bs_number_14 ?_
    refine x_iload_n (i := 1) d_Bs_number_17 rfl rfl ?_
    obtain ⟨v18, ev18, h⟩ := bd_e h
    refine y_V1 cs_Bs_183 rfl (hG.ob oc_1) (by first | decide | omega) (Nat.le_of_ble_eq_true rfl) d_Bs_number_18 (c_Pr_kindOf hG 1 x1 oc_1 δ v18 ev18) (Nat.le_refl 0) (Nat.le_refl 0) ?_
    refine x_stn (i := 3) (ls' := [some (.inr (0, 0)), some (.inl x1), some (.inl x2), some (.inl v18), none]) d_Bs_number_21 rfl (by decide) rfl ?_
    refine x_iload_n (i := 3) d_Bs_number_22 rfl rfl ?_
    obtain ⟨v23, ev23, h⟩ := bn_e h
    refine y_S1 cs_Bs_198 (by first | decide | omega) (Nat.le_of_ble_eq_true rfl) d_Bs_number_23 (c_Bs_hasNumber v18  δ v23 ev23) (Nat.le_refl 0) (Nat.le_refl 0) ?_
    refine x_if_eq (tgt := 37) d_Bs_number_26 (by decide) (fun c26 => ?_) (fun c26 => ?_)
    · have h := if_t c26 h
      refine x_bi (v := -2) d_Bs_number_37 (by decide) ?_
      replace h := Option.some.inj h; subst h
      exact x_iret rfl d_Bs_number_39 (Nat.le_refl 0) (Nat.le_refl 0)
    · have h := if_f c26 h
      refine x_iload_n (i := 3) d_Bs_number_29 rfl rfl ?_
      refine x_iload_n (i := 2) d_Bs_number_30 rfl rfl ?_
      obtain ⟨v31, ev31, h⟩ := bn_e h
      refine y_S2 cs_Bs_162 (by first | decide | omega) (Nat.le_of_ble_eq_true rfl) d_Bs_number_31 (c_Bs_isNumberOf v18 x2  δ v31 ev31) (Nat.le_refl 0) (Nat.le_refl 0) ?_
      refine x_if_ne (tgt := 40) d_Bs_number_34 (by decide) (fun c34 => ?_) (fun c34 => ?_)
      · have h := if_f c34 h
        refine x_aload_n (i := 0) d_Bs_number_40 rfl rfl ?_
        refine x_getS (f := 90) (b := 1) gl_Bs_14_11 rfl kf_90 rfl (hG.ob oc_0) d_Bs_number_41 ?_
        refine x_iload_n (i := 1) d_Bs_number_44 rfl rfl ?_
        obtain ⟨v45, ev45, h⟩ := bd_e h
        refine y_V1 cs_Bs_201 rfl (hG.ob oc_1) (by first | decide | omega) (Nat.le_of_ble_eq_true rfl) d_Bs_number_45 (c_Pr_numberOf hG 1 x1 oc_1 δ v45 ev45) (Nat.le_refl 0) (Nat.le_refl 0) ?_
        refine x_stw (i := 4) (ls' := [some (.inr (0, 0)), some (.inl x1), some (.inl x2), some (.inl v18), some (.inl v45)]) d_Bs_number_48 (by decide) rfl ?_
        refine x_aload_n (i := 0) d_Bs_number_50 rfl rfl ?_
        refine x_getS (f := 90) (b := 1) gl_Bs_14_11 rfl kf_90 rfl (hG.ob oc_0) d_Bs_number_51 ?_
        refine x_iload_n (i := 1) d_Bs_number_54 rfl rfl ?_
        refine x_iload_n (i := 2) d_Bs_number_55 rfl rfl ?_
        obtain ⟨δ56, eδ56, h⟩ := bd_e h
        refine y_V2v cs_Bs_204 rfl (hG.ob oc_1) (by first | decide | omega) (Nat.le_of_ble_eq_true rfl) d_Bs_number_56 (c_Pr_setNumber hG 1 x1 x2 oc_1 δ δ56 eδ56) (Nat.le_refl 0) (Nat.le_refl 0) ?_
        refine x_aload_n (i := 0) d_Bs_number_59 rfl rfl ?_
        refine x_getS (f := 95) (b := 8) gl_Bs_39_11 rfl kf_95 rfl (hG.ob oc_0) d_Bs_number_60 ?_
        refine x_ic (v := 0) d_Bs_number_63 (by decide) ?_
        obtain ⟨δ64, eδ64, h⟩ := bn_e h
        refine x_putI (f := 42) gp_Bs_100_5 rfl kf_42 (fun h => by cases h) rfl rfl (hG.ob oc_8).1 (hG.ob oc_8).z d_Bs_number_64 (Xe.cδ eδ64 ?_)
        refine x_iload (i := 4) d_Bs_number_67 rfl ?_
        replace h := Option.some.inj h; subst h
        exact x_iret rfl d_Bs_number_69 (Nat.le_refl 0) (Nat.le_refl 0)
      · have h := if_t c34 h
        refine x_bi (v := -2) d_Bs_number_37 (by decide) ?_
        replace h := Option.some.inj h; subst h
        exact x_iret rfl d_Bs_number_39 (Nat.le_refl 0) (Nat.le_refl 0)
  · have h := if_t c8 h
    refine x_ic (v := -1) d_Bs_number_11 (by decide) ?_
    replace h := Option.some.inj h; subst h
    exact x_iret rfl d_Bs_number_12 (Nat.le_refl 0) (Nat.le_refl 0)
-- BlockStage.cue(IIII)I
theorem d_Bs_cue_0 : decode M_Bs_cue.2.1 0 = .ok (.iload_n 1, 1) := by decide +kernel
theorem d_Bs_cue_1 : decode M_Bs_cue.2.1 1 = .ok (.ifCond .lt 8, 3) := by decide +kernel
theorem d_Bs_cue_4 : decode M_Bs_cue.2.1 4 = .ok (.iload_n 1, 1) := by decide +kernel
theorem d_Bs_cue_5 : decode M_Bs_cue.2.1 5 = .ok (.iconst 3, 1) := by decide +kernel
theorem d_Bs_cue_6 : decode M_Bs_cue.2.1 6 = .ok (.if_icmp .lt 5, 3) := by decide +kernel
theorem d_Bs_cue_9 : decode M_Bs_cue.2.1 9 = .ok (.iconst (-1), 1) := by decide +kernel
theorem d_Bs_cue_10 : decode M_Bs_cue.2.1 10 = .ok (.ireturn, 1) := by decide +kernel
theorem d_Bs_cue_11 : decode M_Bs_cue.2.1 11 = .ok (.iload_n 2, 1) := by decide +kernel
theorem d_Bs_cue_12 : decode M_Bs_cue.2.1 12 = .ok (.ifCond .lt 16, 3) := by decide +kernel
theorem d_Bs_cue_15 : decode M_Bs_cue.2.1 15 = .ok (.iload_n 2, 1) := by decide +kernel
theorem d_Bs_cue_16 : decode M_Bs_cue.2.1 16 = .ok (.iconst 3, 1) := by decide +kernel
theorem d_Bs_cue_17 : decode M_Bs_cue.2.1 17 = .ok (.if_icmp .gt 11, 3) := by decide +kernel
theorem d_Bs_cue_20 : decode M_Bs_cue.2.1 20 = .ok (.iload_n 2, 1) := by decide +kernel
theorem d_Bs_cue_21 : decode M_Bs_cue.2.1 21 = .ok (.iload_n 3, 1) := by decide +kernel
theorem d_Bs_cue_22 : decode M_Bs_cue.2.1 22 = .ok (.invokestatic 207, 3) := by decide +kernel
theorem d_Bs_cue_25 : decode M_Bs_cue.2.1 25 = .ok (.ifCond .ne 6, 3) := by decide +kernel
theorem d_Bs_cue_28 : decode M_Bs_cue.2.1 28 = .ok (.bipush (-2), 2) := by decide +kernel
theorem d_Bs_cue_30 : decode M_Bs_cue.2.1 30 = .ok (.ireturn, 1) := by decide +kernel
theorem d_Bs_cue_31 : decode M_Bs_cue.2.1 31 = .ok (.iload 4, 2) := by decide +kernel
theorem d_Bs_cue_33 : decode M_Bs_cue.2.1 33 = .ok (.ifCond .eq 12, 3) := by decide +kernel
theorem d_Bs_cue_36 : decode M_Bs_cue.2.1 36 = .ok (.iload 4, 2) := by decide +kernel
theorem d_Bs_cue_38 : decode M_Bs_cue.2.1 38 = .ok (.iconst 1, 1) := by decide +kernel
theorem d_Bs_cue_39 : decode M_Bs_cue.2.1 39 = .ok (.if_icmp .eq 6, 3) := by decide +kernel
theorem d_Bs_cue_42 : decode M_Bs_cue.2.1 42 = .ok (.bipush (-2), 2) := by decide +kernel
theorem d_Bs_cue_44 : decode M_Bs_cue.2.1 44 = .ok (.ireturn, 1) := by decide +kernel
theorem d_Bs_cue_45 : decode M_Bs_cue.2.1 45 = .ok (.aload_n 0, 1) := by decide +kernel
theorem d_Bs_cue_46 : decode M_Bs_cue.2.1 46 = .ok (.getfield 14, 3) := by decide +kernel
theorem d_Bs_cue_49 : decode M_Bs_cue.2.1 49 = .ok (.getfield 210, 3) := by decide +kernel
theorem d_Bs_cue_52 : decode M_Bs_cue.2.1 52 = .ok (.bipush 6, 2) := by decide +kernel
theorem d_Bs_cue_54 : decode M_Bs_cue.2.1 54 = .ok (.if_icmp .lt 6, 3) := by decide +kernel
theorem d_Bs_cue_57 : decode M_Bs_cue.2.1 57 = .ok (.bipush (-4), 2) := by decide +kernel
theorem d_Bs_cue_59 : decode M_Bs_cue.2.1 59 = .ok (.ireturn, 1) := by decide +kernel
theorem d_Bs_cue_60 : decode M_Bs_cue.2.1 60 = .ok (.aload_n 0, 1) := by decide +kernel
theorem d_Bs_cue_61 : decode M_Bs_cue.2.1 61 = .ok (.getfield 39, 3) := by decide +kernel
theorem d_Bs_cue_64 : decode M_Bs_cue.2.1 64 = .ok (.iconst 0, 1) := by decide +kernel
theorem d_Bs_cue_65 : decode M_Bs_cue.2.1 65 = .ok (.putfield 100, 3) := by decide +kernel
theorem d_Bs_cue_68 : decode M_Bs_cue.2.1 68 = .ok (.aload_n 0, 1) := by decide +kernel
theorem d_Bs_cue_69 : decode M_Bs_cue.2.1 69 = .ok (.getfield 14, 3) := by decide +kernel
theorem d_Bs_cue_72 : decode M_Bs_cue.2.1 72 = .ok (.iload_n 1, 1) := by decide +kernel
theorem d_Bs_cue_73 : decode M_Bs_cue.2.1 73 = .ok (.iload_n 2, 1) := by decide +kernel
theorem d_Bs_cue_74 : decode M_Bs_cue.2.1 74 = .ok (.iload_n 3, 1) := by decide +kernel
theorem d_Bs_cue_75 : decode M_Bs_cue.2.1 75 = .ok (.iload 4, 2) := by decide +kernel
theorem d_Bs_cue_77 : decode M_Bs_cue.2.1 77 = .ok (.invokevirtual 213, 3) := by decide +kernel
theorem d_Bs_cue_80 : decode M_Bs_cue.2.1 80 = .ok (.ireturn, 1) := by decide +kernel
theorem mi_Bs_isNumberOfCap : MI M_Bs_isNumberOfCap 2 := ⟨(lwg_at 1 (by decide +kernel) rfl), (lwg_at 468 (by decide +kernel) rfl), ⟨by decide +kernel, by decide +kernel⟩, by decide +kernel, by decide⟩
theorem cs_Bs_207 : CS RX11 207 M_Bs_isNumberOfCap 2 := ⟨(lwg_at 466 (by decide +kernel) rfl), (lwg_at 467 (by decide +kernel) rfl), mi_Bs_isNumberOfCap⟩
theorem gl_Bs_210_3 : GL RX11 210 3 1 := ⟨RX3, TX3, 5, RX3, rfl, by decide, (lwg_at 39 (by decide +kernel) rfl), Or.inl rfl, gl_w inX3⟩
theorem mi_Pr_addScript : MI M_Pr_addScript 4 := ⟨(lwg_at 2 (by decide +kernel) rfl), (lwg_at 472 (by decide +kernel) rfl), ⟨by decide +kernel, by decide +kernel⟩, by decide +kernel, by decide⟩
theorem cs_Bs_213 : CV RX11 213 RX3 M_Pr_addScript 4 := ⟨(lwg_at 469 (by decide +kernel) rfl), (lwg_at 470 (by decide +kernel) rfl), (lwg_at 471 (by decide +kernel) rfl), mi_Pr_addScript⟩
def F_Bs_cue_45 (x1 : Int32) (x2 : Int32) (x3 : Int32) (x4 : Int32) (δ : Dl) : Option (Int32 × Dl) :=
  if (δ.1 31 1) < 6 then (bnd (sI δ 42 8 0) fun δ65 => bd2 (F_Pr_addScript 1 x1 x2 x3 x4 δ65) fun v77 δ77 => some (v77, δ77)) else (some ((-4), δ))
set_option maxRecDepth 20000 in
set_option maxHeartbeats 4000000 in
theorem j_Bs_cue_45 {l : Launch} {Γ : Gm} (hG : GC Γ) (x1 : Int32) (x2 : Int32) (x3 : Int32) (x4 : Int32) (δ : Dl) (r : Int32 × Dl) (h : F_Bs_cue_45 x1 x2 x3 x4  δ = some r) : Xe l M_Bs_cue 1 0 0 NF 45 [some (.inr (0, 0)), some (.inl x1), some (.inl x2), some (.inl x3), some (.inl x4)] [] 0 0 Γ δ (some (.inl r.1), Γ, r.2) := by
  unfold F_Bs_cue_45 at h
  refine x_aload_n (i := 0) d_Bs_cue_45 rfl rfl ?_
  refine x_getS (f := 90) (b := 1) gl_Bs_14_11 rfl kf_90 rfl (hG.ob oc_0) d_Bs_cue_46 ?_
  refine x_getI (f := 31) gl_Bs_210_3 rfl kf_31 (hG.ob oc_1) d_Bs_cue_49 ?_
  refine x_bi (v := 6) d_Bs_cue_52 (by decide) ?_
  refine x_cmp_lt (tgt := 60) d_Bs_cue_54 (by decide) (fun c54 => ?_) (fun c54 => ?_)
  · have h := if_t c54 h
    refine x_aload_n (i := 0) d_Bs_cue_60 rfl rfl ?_
    refine x_getS (f := 95) (b := 8) gl_Bs_39_11 rfl kf_95 rfl (hG.ob oc_0) d_Bs_cue_61 ?_
    refine x_ic (v := 0) d_Bs_cue_64 (by decide) ?_
    obtain ⟨δ65, eδ65, h⟩ := bn_e h
    refine x_putI (f := 42) gp_Bs_100_5 rfl kf_42 (fun h => by cases h) rfl rfl (hG.ob oc_8).1 (hG.ob oc_8).z d_Bs_cue_65 (Xe.cδ eδ65 ?_)
    refine x_aload_n (i := 0) d_Bs_cue_68 rfl rfl ?_
    refine x_getS (f := 90) (b := 1) gl_Bs_14_11 rfl kf_90 rfl (hG.ob oc_0) d_Bs_cue_69 ?_
    refine x_iload_n (i := 1) d_Bs_cue_72 rfl rfl ?_
    refine x_iload_n (i := 2) d_Bs_cue_73 rfl rfl ?_
    refine x_iload_n (i := 3) d_Bs_cue_74 rfl rfl ?_
    refine x_iload (i := 4) d_Bs_cue_75 rfl ?_
    obtain ⟨v77, δ77, eδ77, h⟩ := bd2_e h
    refine y_V4 cs_Bs_213 rfl (hG.ob oc_1) (by first | decide | omega) (Nat.le_of_ble_eq_true rfl) d_Bs_cue_77 (c_Pr_addScript hG 1 x1 x2 x3 x4 oc_1 δ65 (v77, δ77) eδ77) (Nat.le_refl 0) (Nat.le_refl 0) ?_
    replace h := Option.some.inj h; subst h
    exact x_iret rfl d_Bs_cue_80 (Nat.le_refl 0) (Nat.le_refl 0)
  · have h := if_f c54 h
    refine x_bi (v := -4) d_Bs_cue_57 (by decide) ?_
    replace h := Option.some.inj h; subst h
    exact x_iret rfl d_Bs_cue_59 (Nat.le_refl 0) (Nat.le_refl 0)
def F_Bs_cue (x1 : Int32) (x2 : Int32) (x3 : Int32) (x4 : Int32) (δ : Dl) : Option (Int32 × Dl) :=
  if x1 < 0 then (some ((-1), δ)) else (if x1 < 3 then (if x2 < 0 then (some ((-2), δ)) else (if 3 < x2 then (some ((-2), δ)) else (bnd (F_Bs_isNumberOfCap x2 x3) fun v22 => if v22 = 0 then (some ((-2), δ)) else (if x4 = 0 then (F_Bs_cue_45 x1 x2 x3 x4 δ) else (if x4 = 1 then (F_Bs_cue_45 x1 x2 x3 x4 δ) else (some ((-2), δ))))))) else (some ((-1), δ)))
set_option maxRecDepth 20000 in
set_option maxHeartbeats 4000000 in
theorem c_Bs_cue {l : Launch} {Γ : Gm} (hG : GC Γ) (x1 : Int32) (x2 : Int32) (x3 : Int32) (x4 : Int32) (δ : Dl) (r : Int32 × Dl) (h : F_Bs_cue x1 x2 x3 x4  δ = some r) : Ct l M_Bs_cue 1 0 0 NF [.inr (0, 0), .inl x1, .inl x2, .inl x3, .inl x4] Γ δ (some (.inl r.1), Γ, r.2) := by
  unfold F_Bs_cue at h
  refine Ct.of2 (n := 0) (ls := [some (.inr (0, 0)), some (.inl x1), some (.inl x2), some (.inl x3), some (.inl x4)]) rfl (by decide +kernel) (Nat.le_of_ble_eq_true rfl) ?_
  refine x_iload_n (i := 1) d_Bs_cue_0 rfl rfl ?_
  refine x_if_lt (tgt := 9) d_Bs_cue_1 (by decide) (fun c1 => ?_) (fun c1 => ?_)
  · have h := if_t c1 h
    refine x_ic (v := -1) d_Bs_cue_9 (by decide) ?_
    replace h := Option.some.inj h; subst h
    exact x_iret rfl d_Bs_cue_10 (Nat.le_refl 0) (Nat.le_refl 0)
  · have h := if_f c1 h
    refine x_iload_n (i := 1) d_Bs_cue_4 rfl rfl ?_
    refine x_ic (v := 3) d_Bs_cue_5 (by decide) ?_
    refine x_cmp_lt (tgt := 11) d_Bs_cue_6 (by decide) (fun c6 => ?_) (fun c6 => ?_)
    · have h := if_t c6 h
      refine x_iload_n (i := 2) d_Bs_cue_11 rfl rfl ?_
      refine x_if_lt (tgt := 28) d_Bs_cue_12 (by decide) (fun c12 => ?_) (fun c12 => ?_)
      · have h := if_t c12 h
        refine x_bi (v := -2) d_Bs_cue_28 (by decide) ?_
        replace h := Option.some.inj h; subst h
        exact x_iret rfl d_Bs_cue_30 (Nat.le_refl 0) (Nat.le_refl 0)
      · have h := if_f c12 h
        refine x_iload_n (i := 2) d_Bs_cue_15 rfl rfl ?_
        refine x_ic (v := 3) d_Bs_cue_16 (by decide) ?_
        refine x_cmp_gt (tgt := 28) d_Bs_cue_17 (by decide) (fun c17 => ?_) (fun c17 => ?_)
        · have h := if_t c17 h
          refine x_bi (v := -2) d_Bs_cue_28 (by decide) ?_
          replace h := Option.some.inj h; subst h
          exact x_iret rfl d_Bs_cue_30 (Nat.le_refl 0) (Nat.le_refl 0)
        · have h := if_f c17 h
          refine x_iload_n (i := 2) d_Bs_cue_20 rfl rfl ?_
          refine x_iload_n (i := 3) d_Bs_cue_21 rfl rfl ?_
          obtain ⟨v22, ev22, h⟩ := bn_e h
          refine y_S2 cs_Bs_207 (by first | decide | omega) (Nat.le_of_ble_eq_true rfl) d_Bs_cue_22 (c_Bs_isNumberOfCap x2 x3  δ v22 ev22) (Nat.le_refl 0) (Nat.le_refl 0) ?_
          refine x_if_ne (tgt := 31) d_Bs_cue_25 (by decide) (fun c25 => ?_) (fun c25 => ?_)
          · have h := if_f c25 h
            refine x_iload (i := 4) d_Bs_cue_31 rfl ?_
            refine x_if_eq (tgt := 45) d_Bs_cue_33 (by decide) (fun c33 => ?_) (fun c33 => ?_)
            · have h := if_t c33 h
              exact j_Bs_cue_45 hG x1 x2 x3 x4  δ r h
            · have h := if_f c33 h
              refine x_iload (i := 4) d_Bs_cue_36 rfl ?_
              refine x_ic (v := 1) d_Bs_cue_38 (by decide) ?_
              refine x_cmp_eq (tgt := 45) d_Bs_cue_39 (by decide) (fun c39 => ?_) (fun c39 => ?_)
              · have h := if_t c39 h
                exact j_Bs_cue_45 hG x1 x2 x3 x4  δ r h
              · have h := if_f c39 h
                refine x_bi (v := -2) d_Bs_cue_42 (by decide) ?_
                replace h := Option.some.inj h; subst h
                exact x_iret rfl d_Bs_cue_44 (Nat.le_refl 0) (Nat.le_refl 0)
          · have h := if_t c25 h
            refine x_bi (v := -2) d_Bs_cue_28 (by decide) ?_
            replace h := Option.some.inj h; subst h
            exact x_iret rfl d_Bs_cue_30 (Nat.le_refl 0) (Nat.le_refl 0)
    · have h := if_f c6 h
      refine x_ic (v := -1) d_Bs_cue_9 (by decide) ?_
      replace h := Option.some.inj h; subst h
      exact x_iret rfl d_Bs_cue_10 (Nat.le_refl 0) (Nat.le_refl 0)
-- BlockStage.top(II)I
theorem d_Bs_top_0 : decode M_Bs_top.2.1 0 = .ok (.aload_n 0, 1) := by decide +kernel
theorem d_Bs_top_1 : decode M_Bs_top.2.1 1 = .ok (.getfield 14, 3) := by decide +kernel
theorem d_Bs_top_4 : decode M_Bs_top.2.1 4 = .ok (.iload_n 1, 1) := by decide +kernel
theorem d_Bs_top_5 : decode M_Bs_top.2.1 5 = .ok (.invokevirtual 217, 3) := by decide +kernel
theorem d_Bs_top_8 : decode M_Bs_top.2.1 8 = .ok (.ifCond .eq 14, 3) := by decide +kernel
theorem d_Bs_top_11 : decode M_Bs_top.2.1 11 = .ok (.aload_n 0, 1) := by decide +kernel
theorem d_Bs_top_12 : decode M_Bs_top.2.1 12 = .ok (.getfield 14, 3) := by decide +kernel
theorem d_Bs_top_15 : decode M_Bs_top.2.1 15 = .ok (.iload_n 2, 1) := by decide +kernel
theorem d_Bs_top_16 : decode M_Bs_top.2.1 16 = .ok (.invokevirtual 171, 3) := by decide +kernel
theorem d_Bs_top_19 : decode M_Bs_top.2.1 19 = .ok (.ifCond .ne 5, 3) := by decide +kernel
theorem d_Bs_top_22 : decode M_Bs_top.2.1 22 = .ok (.iconst (-1), 1) := by decide +kernel
theorem d_Bs_top_23 : decode M_Bs_top.2.1 23 = .ok (.ireturn, 1) := by decide +kernel
theorem d_Bs_top_24 : decode M_Bs_top.2.1 24 = .ok (.aload_n 0, 1) := by decide +kernel
theorem d_Bs_top_25 : decode M_Bs_top.2.1 25 = .ok (.getfield 14, 3) := by decide +kernel
theorem d_Bs_top_28 : decode M_Bs_top.2.1 28 = .ok (.iload_n 1, 1) := by decide +kernel
theorem d_Bs_top_29 : decode M_Bs_top.2.1 29 = .ok (.invokevirtual 220, 3) := by decide +kernel
theorem d_Bs_top_32 : decode M_Bs_top.2.1 32 = .ok (.iconst (-1), 1) := by decide +kernel
theorem d_Bs_top_33 : decode M_Bs_top.2.1 33 = .ok (.if_icmp .ne 14, 3) := by decide +kernel
theorem d_Bs_top_36 : decode M_Bs_top.2.1 36 = .ok (.aload_n 0, 1) := by decide +kernel
theorem d_Bs_top_37 : decode M_Bs_top.2.1 37 = .ok (.getfield 14, 3) := by decide +kernel
theorem d_Bs_top_40 : decode M_Bs_top.2.1 40 = .ok (.iload_n 2, 1) := by decide +kernel
theorem d_Bs_top_41 : decode M_Bs_top.2.1 41 = .ok (.invokevirtual 180, 3) := by decide +kernel
theorem d_Bs_top_44 : decode M_Bs_top.2.1 44 = .ok (.ifCond .ne 6, 3) := by decide +kernel
theorem d_Bs_top_47 : decode M_Bs_top.2.1 47 = .ok (.bipush (-3), 2) := by decide +kernel
theorem d_Bs_top_49 : decode M_Bs_top.2.1 49 = .ok (.ireturn, 1) := by decide +kernel
theorem d_Bs_top_50 : decode M_Bs_top.2.1 50 = .ok (.aload_n 0, 1) := by decide +kernel
theorem d_Bs_top_51 : decode M_Bs_top.2.1 51 = .ok (.getfield 14, 3) := by decide +kernel
theorem d_Bs_top_54 : decode M_Bs_top.2.1 54 = .ok (.iload_n 2, 1) := by decide +kernel
theorem d_Bs_top_55 : decode M_Bs_top.2.1 55 = .ok (.invokevirtual 183, 3) := by decide +kernel
theorem d_Bs_top_58 : decode M_Bs_top.2.1 58 = .ok (.invokestatic 223, 3) := by decide +kernel
theorem d_Bs_top_61 : decode M_Bs_top.2.1 61 = .ok (.ifCond .ne 6, 3) := by decide +kernel
theorem d_Bs_top_64 : decode M_Bs_top.2.1 64 = .ok (.bipush (-2), 2) := by decide +kernel
theorem d_Bs_top_66 : decode M_Bs_top.2.1 66 = .ok (.ireturn, 1) := by decide +kernel
theorem d_Bs_top_67 : decode M_Bs_top.2.1 67 = .ok (.aload_n 0, 1) := by decide +kernel
theorem d_Bs_top_68 : decode M_Bs_top.2.1 68 = .ok (.getfield 14, 3) := by decide +kernel
theorem d_Bs_top_71 : decode M_Bs_top.2.1 71 = .ok (.iload_n 1, 1) := by decide +kernel
theorem d_Bs_top_72 : decode M_Bs_top.2.1 72 = .ok (.iload_n 2, 1) := by decide +kernel
theorem d_Bs_top_73 : decode M_Bs_top.2.1 73 = .ok (.invokevirtual 226, 3) := by decide +kernel
theorem d_Bs_top_76 : decode M_Bs_top.2.1 76 = .ok (.aload_n 0, 1) := by decide +kernel
theorem d_Bs_top_77 : decode M_Bs_top.2.1 77 = .ok (.getfield 39, 3) := by decide +kernel
theorem d_Bs_top_80 : decode M_Bs_top.2.1 80 = .ok (.iconst 0, 1) := by decide +kernel
theorem d_Bs_top_81 : decode M_Bs_top.2.1 81 = .ok (.putfield 100, 3) := by decide +kernel
theorem d_Bs_top_84 : decode M_Bs_top.2.1 84 = .ok (.iconst 1, 1) := by decide +kernel
theorem d_Bs_top_85 : decode M_Bs_top.2.1 85 = .ok (.ireturn, 1) := by decide +kernel
theorem mi_Pr_isScript : MI M_Pr_isScript 1 := ⟨(lwg_at 2 (by decide +kernel) rfl), (lwg_at 480 (by decide +kernel) rfl), ⟨by decide +kernel, by decide +kernel⟩, by decide +kernel, by decide⟩
theorem cs_Bs_217 : CV RX11 217 RX3 M_Pr_isScript 1 := ⟨(lwg_at 477 (by decide +kernel) rfl), (lwg_at 478 (by decide +kernel) rfl), (lwg_at 479 (by decide +kernel) rfl), mi_Pr_isScript⟩
theorem cs_Bs_220 : CV RX11 220 RX3 M_Pr_topOf 1 := ⟨(lwg_at 481 (by decide +kernel) rfl), (lwg_at 482 (by decide +kernel) rfl), (lwg_at 483 (by decide +kernel) rfl), mi_Pr_topOf⟩
theorem cs_Bs_226 : CV RX11 226 RX3 M_Pr_attachTop 2 := ⟨(lwg_at 485 (by decide +kernel) rfl), (lwg_at 486 (by decide +kernel) rfl), (lwg_at 487 (by decide +kernel) rfl), mi_Pr_attachTop⟩
def F_Bs_top (x1 : Int32) (x2 : Int32) (δ : Dl) : Option (Int32 × Dl) :=
  bnd (F_Pr_isScript 1 x1 δ) fun v5 => if v5 = 0 then (some ((-1), δ)) else (bnd (F_Pr_isBlock 1 x2 δ) fun v16 => if v16 = 0 then (some ((-1), δ)) else ((F_Pr_topOf 1 x1 δ).bind fun v29 => if v29 = (-1) then ((F_Pr_isLoose 1 x2 δ).bind fun v41 => if v41 = 0 then (some ((-3), δ)) else ((F_Pr_kindOf 1 x2 δ).bind fun v55 => bnd (F_Bs_isOrder v55) fun v58 => if v58 = 0 then (some ((-2), δ)) else ((F_Pr_attachTop 1 x1 x2 δ).bind fun δ73 => bnd (sI δ73 42 8 0) fun δ81 => some (1, δ81)))) else (some ((-3), δ))))
set_option maxRecDepth 20000 in
set_option maxHeartbeats 4000000 in
theorem c_Bs_top {l : Launch} {Γ : Gm} (hG : GC Γ) (x1 : Int32) (x2 : Int32) (δ : Dl) (r : Int32 × Dl) (h : F_Bs_top x1 x2  δ = some r) : Ct l M_Bs_top 1 0 0 NF [.inr (0, 0), .inl x1, .inl x2] Γ δ (some (.inl r.1), Γ, r.2) := by
  unfold F_Bs_top at h
  refine Ct.of2 (n := 0) (ls := [some (.inr (0, 0)), some (.inl x1), some (.inl x2)]) rfl (by decide +kernel) (Nat.le_of_ble_eq_true rfl) ?_
  refine x_aload_n (i := 0) d_Bs_top_0 rfl rfl ?_
  refine x_getS (f := 90) (b := 1) gl_Bs_14_11 rfl kf_90 rfl (hG.ob oc_0) d_Bs_top_1 ?_
  refine x_iload_n (i := 1) d_Bs_top_4 rfl rfl ?_
  obtain ⟨v5, ev5, h⟩ := bn_e h
  refine y_V1 cs_Bs_217 rfl (hG.ob oc_1) (by first | decide | omega) (Nat.le_of_ble_eq_true rfl) d_Bs_top_5 (c_Pr_isScript hG 1 x1 oc_1 δ v5 ev5) (Nat.le_refl 0) (Nat.le_refl 0) ?_
  refine x_if_eq (tgt := 22) d_Bs_top_8 (by decide) (fun c8 => ?_) (fun c8 => ?_)
  · have h := if_t c8 h
    refine x_ic (v := -1) d_Bs_top_22 (by decide) ?_
    replace h := Option.some.inj h; subst h
    exact x_iret rfl d_Bs_top_23 (Nat.le_refl 0) (Nat.le_refl 0)
  · have h := if_f c8 h
    refine x_aload_n (i := 0) d_Bs_top_11 rfl rfl ?_
    refine x_getS (f := 90) (b := 1) gl_Bs_14_11 rfl kf_90 rfl (hG.ob oc_0) d_Bs_top_12 ?_
    refine x_iload_n (i := 2) d_Bs_top_15 rfl rfl ?_
    obtain ⟨v16, ev16, h⟩ := bn_e h
    refine y_V1 cs_Bs_171 rfl (hG.ob oc_1) (by first | decide | omega) (Nat.le_of_ble_eq_true rfl) d_Bs_top_16 (c_Pr_isBlock hG 1 x2 oc_1 δ v16 ev16) (Nat.le_refl 0) (Nat.le_refl 0) ?_
    refine x_if_ne (tgt := 24) d_Bs_top_19 (by decide) (fun c19 => ?_) (fun c19 => ?_)
    · have h := if_f c19 h
      refine x_aload_n (i := 0) d_Bs_top_24 rfl rfl ?_
      refine x_getS (f := 90) (b := 1) gl_Bs_14_11 rfl kf_90 rfl (hG.ob oc_0) d_Bs_top_25 ?_
      refine x_iload_n (i := 1) d_Bs_top_28 rfl rfl ?_
      obtain ⟨v29, ev29, h⟩ := bd_e h
      refine y_V1 cs_Bs_220 rfl (hG.ob oc_1) (by first | decide | omega) (Nat.le_of_ble_eq_true rfl) d_Bs_top_29 (c_Pr_topOf hG 1 x1 oc_1 δ v29 ev29) (Nat.le_refl 0) (Nat.le_refl 0) ?_
      refine x_ic (v := -1) d_Bs_top_32 (by decide) ?_
      refine x_cmp_ne (tgt := 47) d_Bs_top_33 (by decide) (fun c33 => ?_) (fun c33 => ?_)
      · have h := if_f c33 h
        refine x_bi (v := -3) d_Bs_top_47 (by decide) ?_
        replace h := Option.some.inj h; subst h
        exact x_iret rfl d_Bs_top_49 (Nat.le_refl 0) (Nat.le_refl 0)
      · have h := if_t c33 h
        refine x_aload_n (i := 0) d_Bs_top_36 rfl rfl ?_
        refine x_getS (f := 90) (b := 1) gl_Bs_14_11 rfl kf_90 rfl (hG.ob oc_0) d_Bs_top_37 ?_
        refine x_iload_n (i := 2) d_Bs_top_40 rfl rfl ?_
        obtain ⟨v41, ev41, h⟩ := bd_e h
        refine y_V1 cs_Bs_180 rfl (hG.ob oc_1) (by first | decide | omega) (Nat.le_of_ble_eq_true rfl) d_Bs_top_41 (c_Pr_isLoose hG 1 x2 oc_1 δ v41 ev41) (Nat.le_refl 0) (Nat.le_refl 0) ?_
        refine x_if_ne (tgt := 50) d_Bs_top_44 (by decide) (fun c44 => ?_) (fun c44 => ?_)
        · have h := if_f c44 h
          refine x_aload_n (i := 0) d_Bs_top_50 rfl rfl ?_
          refine x_getS (f := 90) (b := 1) gl_Bs_14_11 rfl kf_90 rfl (hG.ob oc_0) d_Bs_top_51 ?_
          refine x_iload_n (i := 2) d_Bs_top_54 rfl rfl ?_
          obtain ⟨v55, ev55, h⟩ := bd_e h
          refine y_V1 cs_Bs_183 rfl (hG.ob oc_1) (by first | decide | omega) (Nat.le_of_ble_eq_true rfl) d_Bs_top_55 (c_Pr_kindOf hG 1 x2 oc_1 δ v55 ev55) (Nat.le_refl 0) (Nat.le_refl 0) ?_
          obtain ⟨v58, ev58, h⟩ := bn_e h
          refine y_S1 cs_Bs_223 (by first | decide | omega) (Nat.le_of_ble_eq_true rfl) d_Bs_top_58 (c_Bs_isOrder v55  δ v58 ev58) (Nat.le_refl 0) (Nat.le_refl 0) ?_
          refine x_if_ne (tgt := 67) d_Bs_top_61 (by decide) (fun c61 => ?_) (fun c61 => ?_)
          · have h := if_f c61 h
            refine x_aload_n (i := 0) d_Bs_top_67 rfl rfl ?_
            refine x_getS (f := 90) (b := 1) gl_Bs_14_11 rfl kf_90 rfl (hG.ob oc_0) d_Bs_top_68 ?_
            refine x_iload_n (i := 1) d_Bs_top_71 rfl rfl ?_
            refine x_iload_n (i := 2) d_Bs_top_72 rfl rfl ?_
            obtain ⟨δ73, eδ73, h⟩ := bd_e h
            refine y_V2v cs_Bs_226 rfl (hG.ob oc_1) (by first | decide | omega) (Nat.le_of_ble_eq_true rfl) d_Bs_top_73 (c_Pr_attachTop hG 1 x1 x2 oc_1 δ δ73 eδ73) (Nat.le_refl 0) (Nat.le_refl 0) ?_
            refine x_aload_n (i := 0) d_Bs_top_76 rfl rfl ?_
            refine x_getS (f := 95) (b := 8) gl_Bs_39_11 rfl kf_95 rfl (hG.ob oc_0) d_Bs_top_77 ?_
            refine x_ic (v := 0) d_Bs_top_80 (by decide) ?_
            obtain ⟨δ81, eδ81, h⟩ := bn_e h
            refine x_putI (f := 42) gp_Bs_100_5 rfl kf_42 (fun h => by cases h) rfl rfl (hG.ob oc_8).1 (hG.ob oc_8).z d_Bs_top_81 (Xe.cδ eδ81 ?_)
            refine x_ic (v := 1) d_Bs_top_84 (by decide) ?_
            replace h := Option.some.inj h; subst h
            exact x_iret rfl d_Bs_top_85 (Nat.le_refl 0) (Nat.le_refl 0)
          · have h := if_t c61 h
            refine x_bi (v := -2) d_Bs_top_64 (by decide) ?_
            replace h := Option.some.inj h; subst h
            exact x_iret rfl d_Bs_top_66 (Nat.le_refl 0) (Nat.le_refl 0)
        · have h := if_t c44 h
          refine x_bi (v := -3) d_Bs_top_47 (by decide) ?_
          replace h := Option.some.inj h; subst h
          exact x_iret rfl d_Bs_top_49 (Nat.le_refl 0) (Nat.le_refl 0)
    · have h := if_t c19 h
      refine x_ic (v := -1) d_Bs_top_22 (by decide) ?_
      replace h := Option.some.inj h; subst h
      exact x_iret rfl d_Bs_top_23 (Nat.le_refl 0) (Nat.le_refl 0)
-- BlockStage.shown()LBlockStage$Stage;
theorem d_Bs_shown_0 : decode M_Bs_shown.2.1 0 = .ok (.aload_n 0, 1) := by decide +kernel
theorem d_Bs_shown_1 : decode M_Bs_shown.2.1 1 = .ok (.getfield 39, 3) := by decide +kernel
theorem d_Bs_shown_4 : decode M_Bs_shown.2.1 4 = .ok (.getfield 100, 3) := by decide +kernel
theorem d_Bs_shown_7 : decode M_Bs_shown.2.1 7 = .ok (.ifCond .eq 13, 3) := by decide +kernel
theorem d_Bs_shown_10 : decode M_Bs_shown.2.1 10 = .ok (.aload_n 0, 1) := by decide +kernel
theorem d_Bs_shown_11 : decode M_Bs_shown.2.1 11 = .ok (.getfield 39, 3) := by decide +kernel
theorem d_Bs_shown_14 : decode M_Bs_shown.2.1 14 = .ok (.getfield 249, 3) := by decide +kernel
theorem d_Bs_shown_17 : decode M_Bs_shown.2.1 17 = .ok (.goto 7, 3) := by decide +kernel
theorem d_Bs_shown_20 : decode M_Bs_shown.2.1 20 = .ok (.aload_n 0, 1) := by decide +kernel
theorem d_Bs_shown_21 : decode M_Bs_shown.2.1 21 = .ok (.getfield 24, 3) := by decide +kernel
theorem d_Bs_shown_24 : decode M_Bs_shown.2.1 24 = .ok (.areturn, 1) := by decide +kernel
theorem gl_Bs_100_5 : GL RX11 100 5 2 := ⟨RX5, TX5, 14, RX5, rfl, by decide, (lwg_at 127 (by decide +kernel) rfl), Or.inl rfl, gl_w inX5⟩
theorem gl_Bs_249_5 : GL RX11 249 5 1 := ⟨RX5, TX5, 14, RX5, rfl, by decide, (lwg_at 125 (by decide +kernel) rfl), Or.inl rfl, gl_w inX5⟩
theorem oc_10 : Oc 10 9 := by decide
def F_Bs_shown (δ : Dl) : (Nat × Nat) :=
  if (δ.1 42 8) = 0 then ((0, 3)) else ((0, 10))
set_option maxRecDepth 20000 in
set_option maxHeartbeats 4000000 in
theorem c_Bs_shown {l : Launch} {Γ : Gm} (hG : GC Γ) (δ : Dl) (r : (Nat × Nat)) (h : F_Bs_shown  δ = r) : Ct l M_Bs_shown 0 0 0 NF [.inr (0, 0)] Γ δ (some (.inr r), Γ, δ) := by
  unfold F_Bs_shown at h
  refine Ct.of2 (n := 0) (ls := [some (.inr (0, 0))]) rfl (by decide +kernel) (Nat.le_of_ble_eq_true rfl) ?_
  refine x_aload_n (i := 0) d_Bs_shown_0 rfl rfl ?_
  refine x_getS (f := 95) (b := 8) gl_Bs_39_11 rfl kf_95 rfl (hG.ob oc_0) d_Bs_shown_1 ?_
  refine x_getI (f := 42) gl_Bs_100_5 rfl kf_42 (hG.ob oc_8) d_Bs_shown_4 ?_
  refine x_if_eq (tgt := 20) d_Bs_shown_7 (by decide) (fun c7 => ?_) (fun c7 => ?_)
  · have h := if_t c7 h
    refine x_aload_n (i := 0) d_Bs_shown_20 rfl rfl ?_
    refine x_getS (f := 92) (b := 3) gl_Bs_24_11 rfl kf_92 rfl (hG.ob oc_0) d_Bs_shown_21 ?_
    subst h
    exact x_aret rfl d_Bs_shown_24 (Nat.le_refl 0) (Nat.le_refl 0)
  · have h := if_f c7 h
    refine x_aload_n (i := 0) d_Bs_shown_10 rfl rfl ?_
    refine x_getS (f := 95) (b := 8) gl_Bs_39_11 rfl kf_95 rfl (hG.ob oc_0) d_Bs_shown_11 ?_
    refine x_getS (f := 41) (b := 10) gl_Bs_249_5 rfl kf_41 rfl (hG.ob oc_8) d_Bs_shown_14 ?_
    refine x_goto (tgt := 24) d_Bs_shown_17 (by decide) ?_
    subst h
    exact x_aret rfl d_Bs_shown_24 (Nat.le_refl 0) (Nat.le_refl 0)
-- BlockStage.look(II)I
theorem d_Bs_look_0 : decode M_Bs_look.2.1 0 = .ok (.aload_n 0, 1) := by decide +kernel
theorem d_Bs_look_1 : decode M_Bs_look.2.1 1 = .ok (.invokevirtual 229, 3) := by decide +kernel
theorem d_Bs_look_4 : decode M_Bs_look.2.1 4 = .ok (.iload_n 1, 1) := by decide +kernel
theorem d_Bs_look_5 : decode M_Bs_look.2.1 5 = .ok (.iload_n 2, 1) := by decide +kernel
theorem d_Bs_look_6 : decode M_Bs_look.2.1 6 = .ok (.invokevirtual 103, 3) := by decide +kernel
theorem d_Bs_look_9 : decode M_Bs_look.2.1 9 = .ok (.ireturn, 1) := by decide +kernel
theorem mi_Bs_shown : MI M_Bs_shown 0 := ⟨(lwg_at 1 (by decide +kernel) rfl), (lwg_at 496 (by decide +kernel) rfl), ⟨by decide +kernel, by decide +kernel⟩, by decide +kernel, by decide⟩
theorem cs_Bs_229 : CV RX11 229 RX11 M_Bs_shown 0 := ⟨(lwg_at 493 (by decide +kernel) rfl), (lwg_at 495 (by decide +kernel) rfl), (lwg_priv 2 (y := M_Bs_shown.1) (n := 18) (by decide +kernel)), mi_Bs_shown⟩
def F_Bs_look (x1 : Int32) (x2 : Int32) (δ : Dl) : Option (Int32) :=
  bnd (F_Bs_shown δ) fun v1 => if v1.1 = 0 ∧ Oc v1.2 9 then (F_St_cellAt v1.2 x1 x2 δ).bind fun v6 => some v6 else none
set_option maxRecDepth 20000 in
set_option maxHeartbeats 4000000 in
theorem c_Bs_look {l : Launch} {Γ : Gm} (hG : GC Γ) (x1 : Int32) (x2 : Int32) (δ : Dl) (r : Int32) (h : F_Bs_look x1 x2  δ = some r) : Ct l M_Bs_look 2 0 0 NF [.inr (0, 0), .inl x1, .inl x2] Γ δ (some (.inl r), Γ, δ) := by
  unfold F_Bs_look at h
  refine Ct.of2 (n := 0) (ls := [some (.inr (0, 0)), some (.inl x1), some (.inl x2)]) rfl (by decide +kernel) (Nat.le_of_ble_eq_true rfl) ?_
  refine x_aload_n (i := 0) d_Bs_look_0 rfl rfl ?_
  obtain ⟨v1, ev1, h⟩ := bn_e h
  refine y_V0 cs_Bs_229 rfl (hG.ob oc_0) (by first | decide | omega) (Nat.le_of_ble_eq_true rfl) d_Bs_look_1 (c_Bs_shown hG   δ v1 ev1) (Nat.le_refl 0) (Nat.le_refl 0) ?_
  refine x_iload_n (i := 1) d_Bs_look_4 rfl rfl ?_
  refine x_iload_n (i := 2) d_Bs_look_5 rfl rfl ?_
  obtain ⟨q6_0, h⟩ := gd_e h
  rw [prod0 q6_0.1]
  obtain ⟨v6, ev6, h⟩ := bd_e h
  refine y_V2 cs_Bs_103 rfl (hG.ob q6_0.2) (by first | decide | omega) (Nat.le_of_ble_eq_true rfl) d_Bs_look_6 (c_St_cellAt hG v1.2 x1 x2 q6_0.2 δ v6 ev6) (Nat.le_refl 0) (Nat.le_refl 0) ?_
  replace h := Option.some.inj h; subst h
  exact x_iret rfl d_Bs_look_9 (Nat.le_refl 0) (Nat.le_refl 0)
-- BlockStage.hole(II)I
theorem d_Bs_hole_0 : decode M_Bs_hole.2.1 0 = .ok (.aload_n 0, 1) := by decide +kernel
theorem d_Bs_hole_1 : decode M_Bs_hole.2.1 1 = .ok (.getfield 14, 3) := by decide +kernel
theorem d_Bs_hole_4 : decode M_Bs_hole.2.1 4 = .ok (.iload_n 1, 1) := by decide +kernel
theorem d_Bs_hole_5 : decode M_Bs_hole.2.1 5 = .ok (.iload_n 2, 1) := by decide +kernel
theorem d_Bs_hole_6 : decode M_Bs_hole.2.1 6 = .ok (.invokevirtual 174, 3) := by decide +kernel
theorem d_Bs_hole_9 : decode M_Bs_hole.2.1 9 = .ok (.ifCond .ne 6, 3) := by decide +kernel
theorem d_Bs_hole_12 : decode M_Bs_hole.2.1 12 = .ok (.bipush (-5), 2) := by decide +kernel
theorem d_Bs_hole_14 : decode M_Bs_hole.2.1 14 = .ok (.ireturn, 1) := by decide +kernel
theorem d_Bs_hole_15 : decode M_Bs_hole.2.1 15 = .ok (.aload_n 0, 1) := by decide +kernel
theorem d_Bs_hole_16 : decode M_Bs_hole.2.1 16 = .ok (.getfield 14, 3) := by decide +kernel
theorem d_Bs_hole_19 : decode M_Bs_hole.2.1 19 = .ok (.iload_n 1, 1) := by decide +kernel
theorem d_Bs_hole_20 : decode M_Bs_hole.2.1 20 = .ok (.iload_n 2, 1) := by decide +kernel
theorem d_Bs_hole_21 : decode M_Bs_hole.2.1 21 = .ok (.invokevirtual 177, 3) := by decide +kernel
theorem d_Bs_hole_24 : decode M_Bs_hole.2.1 24 = .ok (.ireturn, 1) := by decide +kernel
def F_Bs_hole (x1 : Int32) (x2 : Int32) (δ : Dl) : Option (Int32) :=
  (F_Pr_hasHole 1 x1 x2 δ).bind fun v6 => if v6 = 0 then (some (-5)) else ((F_Pr_inHole 1 x1 x2 δ).bind fun v21 => some v21)
set_option maxRecDepth 20000 in
set_option maxHeartbeats 4000000 in
theorem c_Bs_hole {l : Launch} {Γ : Gm} (hG : GC Γ) (x1 : Int32) (x2 : Int32) (δ : Dl) (r : Int32) (h : F_Bs_hole x1 x2  δ = some r) : Ct l M_Bs_hole 1 0 0 NF [.inr (0, 0), .inl x1, .inl x2] Γ δ (some (.inl r), Γ, δ) := by
  unfold F_Bs_hole at h
  refine Ct.of2 (n := 0) (ls := [some (.inr (0, 0)), some (.inl x1), some (.inl x2)]) rfl (by decide +kernel) (Nat.le_of_ble_eq_true rfl) ?_
  refine x_aload_n (i := 0) d_Bs_hole_0 rfl rfl ?_
  refine x_getS (f := 90) (b := 1) gl_Bs_14_11 rfl kf_90 rfl (hG.ob oc_0) d_Bs_hole_1 ?_
  refine x_iload_n (i := 1) d_Bs_hole_4 rfl rfl ?_
  refine x_iload_n (i := 2) d_Bs_hole_5 rfl rfl ?_
  obtain ⟨v6, ev6, h⟩ := bd_e h
  refine y_V2 cs_Bs_174 rfl (hG.ob oc_1) (by first | decide | omega) (Nat.le_of_ble_eq_true rfl) d_Bs_hole_6 (c_Pr_hasHole hG 1 x1 x2 oc_1 δ v6 ev6) (Nat.le_refl 0) (Nat.le_refl 0) ?_
  refine x_if_ne (tgt := 15) d_Bs_hole_9 (by decide) (fun c9 => ?_) (fun c9 => ?_)
  · have h := if_f c9 h
    refine x_aload_n (i := 0) d_Bs_hole_15 rfl rfl ?_
    refine x_getS (f := 90) (b := 1) gl_Bs_14_11 rfl kf_90 rfl (hG.ob oc_0) d_Bs_hole_16 ?_
    refine x_iload_n (i := 1) d_Bs_hole_19 rfl rfl ?_
    refine x_iload_n (i := 2) d_Bs_hole_20 rfl rfl ?_
    obtain ⟨v21, ev21, h⟩ := bd_e h
    refine y_V2 cs_Bs_177 rfl (hG.ob oc_1) (by first | decide | omega) (Nat.le_of_ble_eq_true rfl) d_Bs_hole_21 (c_Pr_inHole hG 1 x1 x2 oc_1 δ v21 ev21) (Nat.le_refl 0) (Nat.le_refl 0) ?_
    replace h := Option.some.inj h; subst h
    exact x_iret rfl d_Bs_hole_24 (Nat.le_refl 0) (Nat.le_refl 0)
  · have h := if_t c9 h
    refine x_bi (v := -5) d_Bs_hole_12 (by decide) ?_
    replace h := Option.some.inj h; subst h
    exact x_iret rfl d_Bs_hole_14 (Nat.le_refl 0) (Nat.le_refl 0)
-- BlockStage.of(II)I
theorem d_Bs_of_0 : decode M_Bs_of.2.1 0 = .ok (.aload_n 0, 1) := by decide +kernel
theorem d_Bs_of_1 : decode M_Bs_of.2.1 1 = .ok (.getfield 14, 3) := by decide +kernel
theorem d_Bs_of_4 : decode M_Bs_of.2.1 4 = .ok (.iload_n 1, 1) := by decide +kernel
theorem d_Bs_of_5 : decode M_Bs_of.2.1 5 = .ok (.iload_n 2, 1) := by decide +kernel
theorem d_Bs_of_6 : decode M_Bs_of.2.1 6 = .ok (.invokevirtual 233, 3) := by decide +kernel
theorem d_Bs_of_9 : decode M_Bs_of.2.1 9 = .ok (.ireturn, 1) := by decide +kernel
theorem cs_Bs_233 : CV RX11 233 RX3 M_Pr_blockPart 2 := ⟨(lwg_at 505 (by decide +kernel) rfl), (lwg_at 506 (by decide +kernel) rfl), (lwg_at 507 (by decide +kernel) rfl), mi_Pr_blockPart⟩
def F_Bs_of (x1 : Int32) (x2 : Int32) (δ : Dl) : Option (Int32) :=
  (F_Pr_blockPart 1 x1 x2 δ).bind fun v6 => some v6
set_option maxRecDepth 20000 in
set_option maxHeartbeats 4000000 in
theorem c_Bs_of {l : Launch} {Γ : Gm} (hG : GC Γ) (x1 : Int32) (x2 : Int32) (δ : Dl) (r : Int32) (h : F_Bs_of x1 x2  δ = some r) : Ct l M_Bs_of 1 0 0 NF [.inr (0, 0), .inl x1, .inl x2] Γ δ (some (.inl r), Γ, δ) := by
  unfold F_Bs_of at h
  refine Ct.of2 (n := 0) (ls := [some (.inr (0, 0)), some (.inl x1), some (.inl x2)]) rfl (by decide +kernel) (Nat.le_of_ble_eq_true rfl) ?_
  refine x_aload_n (i := 0) d_Bs_of_0 rfl rfl ?_
  refine x_getS (f := 90) (b := 1) gl_Bs_14_11 rfl kf_90 rfl (hG.ob oc_0) d_Bs_of_1 ?_
  refine x_iload_n (i := 1) d_Bs_of_4 rfl rfl ?_
  refine x_iload_n (i := 2) d_Bs_of_5 rfl rfl ?_
  obtain ⟨v6, ev6, h⟩ := bd_e h
  refine y_V2 cs_Bs_233 rfl (hG.ob oc_1) (by first | decide | omega) (Nat.le_of_ble_eq_true rfl) d_Bs_of_6 (c_Pr_blockPart hG 1 x1 x2 oc_1 δ v6 ev6) (Nat.le_refl 0) (Nat.le_refl 0) ?_
  replace h := Option.some.inj h; subst h
  exact x_iret rfl d_Bs_of_9 (Nat.le_refl 0) (Nat.le_refl 0)
-- BlockStage.scriptOf(II)I
theorem d_Bs_scriptOf_0 : decode M_Bs_scriptOf.2.1 0 = .ok (.aload_n 0, 1) := by decide +kernel
theorem d_Bs_scriptOf_1 : decode M_Bs_scriptOf.2.1 1 = .ok (.getfield 14, 3) := by decide +kernel
theorem d_Bs_scriptOf_4 : decode M_Bs_scriptOf.2.1 4 = .ok (.iload_n 1, 1) := by decide +kernel
theorem d_Bs_scriptOf_5 : decode M_Bs_scriptOf.2.1 5 = .ok (.invokevirtual 217, 3) := by decide +kernel
theorem d_Bs_scriptOf_8 : decode M_Bs_scriptOf.2.1 8 = .ok (.ifCond .ne 6, 3) := by decide +kernel
theorem d_Bs_scriptOf_11 : decode M_Bs_scriptOf.2.1 11 = .ok (.ldc 236, 2) := by decide +kernel
theorem d_Bs_scriptOf_13 : decode M_Bs_scriptOf.2.1 13 = .ok (.ireturn, 1) := by decide +kernel
theorem d_Bs_scriptOf_14 : decode M_Bs_scriptOf.2.1 14 = .ok (.iload_n 2, 1) := by decide +kernel
theorem d_Bs_scriptOf_15 : decode M_Bs_scriptOf.2.1 15 = .ok (.tableswitch 94 5 7 #[25, 48, 71], 25) := by decide +kernel
theorem d_Bs_scriptOf_40 : decode M_Bs_scriptOf.2.1 40 = .ok (.aload_n 0, 1) := by decide +kernel
theorem d_Bs_scriptOf_41 : decode M_Bs_scriptOf.2.1 41 = .ok (.getfield 39, 3) := by decide +kernel
theorem d_Bs_scriptOf_44 : decode M_Bs_scriptOf.2.1 44 = .ok (.getfield 100, 3) := by decide +kernel
theorem d_Bs_scriptOf_47 : decode M_Bs_scriptOf.2.1 47 = .ok (.ifCond .eq 14, 3) := by decide +kernel
theorem d_Bs_scriptOf_50 : decode M_Bs_scriptOf.2.1 50 = .ok (.aload_n 0, 1) := by decide +kernel
theorem d_Bs_scriptOf_51 : decode M_Bs_scriptOf.2.1 51 = .ok (.getfield 39, 3) := by decide +kernel
theorem d_Bs_scriptOf_54 : decode M_Bs_scriptOf.2.1 54 = .ok (.iload_n 1, 1) := by decide +kernel
theorem d_Bs_scriptOf_55 : decode M_Bs_scriptOf.2.1 55 = .ok (.invokevirtual 237, 3) := by decide +kernel
theorem d_Bs_scriptOf_58 : decode M_Bs_scriptOf.2.1 58 = .ok (.goto 4, 3) := by decide +kernel
theorem d_Bs_scriptOf_61 : decode M_Bs_scriptOf.2.1 61 = .ok (.iconst 0, 1) := by decide +kernel
theorem d_Bs_scriptOf_62 : decode M_Bs_scriptOf.2.1 62 = .ok (.ireturn, 1) := by decide +kernel
theorem d_Bs_scriptOf_63 : decode M_Bs_scriptOf.2.1 63 = .ok (.aload_n 0, 1) := by decide +kernel
theorem d_Bs_scriptOf_64 : decode M_Bs_scriptOf.2.1 64 = .ok (.getfield 39, 3) := by decide +kernel
theorem d_Bs_scriptOf_67 : decode M_Bs_scriptOf.2.1 67 = .ok (.getfield 100, 3) := by decide +kernel
theorem d_Bs_scriptOf_70 : decode M_Bs_scriptOf.2.1 70 = .ok (.ifCond .eq 14, 3) := by decide +kernel
theorem d_Bs_scriptOf_73 : decode M_Bs_scriptOf.2.1 73 = .ok (.aload_n 0, 1) := by decide +kernel
theorem d_Bs_scriptOf_74 : decode M_Bs_scriptOf.2.1 74 = .ok (.getfield 39, 3) := by decide +kernel
theorem d_Bs_scriptOf_77 : decode M_Bs_scriptOf.2.1 77 = .ok (.iload_n 1, 1) := by decide +kernel
theorem d_Bs_scriptOf_78 : decode M_Bs_scriptOf.2.1 78 = .ok (.invokevirtual 240, 3) := by decide +kernel
theorem d_Bs_scriptOf_81 : decode M_Bs_scriptOf.2.1 81 = .ok (.goto 4, 3) := by decide +kernel
theorem d_Bs_scriptOf_84 : decode M_Bs_scriptOf.2.1 84 = .ok (.iconst (-1), 1) := by decide +kernel
theorem d_Bs_scriptOf_85 : decode M_Bs_scriptOf.2.1 85 = .ok (.ireturn, 1) := by decide +kernel
theorem d_Bs_scriptOf_86 : decode M_Bs_scriptOf.2.1 86 = .ok (.aload_n 0, 1) := by decide +kernel
theorem d_Bs_scriptOf_87 : decode M_Bs_scriptOf.2.1 87 = .ok (.getfield 39, 3) := by decide +kernel
theorem d_Bs_scriptOf_90 : decode M_Bs_scriptOf.2.1 90 = .ok (.getfield 100, 3) := by decide +kernel
theorem d_Bs_scriptOf_93 : decode M_Bs_scriptOf.2.1 93 = .ok (.ifCond .eq 14, 3) := by decide +kernel
theorem d_Bs_scriptOf_96 : decode M_Bs_scriptOf.2.1 96 = .ok (.aload_n 0, 1) := by decide +kernel
theorem d_Bs_scriptOf_97 : decode M_Bs_scriptOf.2.1 97 = .ok (.getfield 39, 3) := by decide +kernel
theorem d_Bs_scriptOf_100 : decode M_Bs_scriptOf.2.1 100 = .ok (.iload_n 1, 1) := by decide +kernel
theorem d_Bs_scriptOf_101 : decode M_Bs_scriptOf.2.1 101 = .ok (.invokevirtual 243, 3) := by decide +kernel
theorem d_Bs_scriptOf_104 : decode M_Bs_scriptOf.2.1 104 = .ok (.goto 4, 3) := by decide +kernel
theorem d_Bs_scriptOf_107 : decode M_Bs_scriptOf.2.1 107 = .ok (.iconst 0, 1) := by decide +kernel
theorem d_Bs_scriptOf_108 : decode M_Bs_scriptOf.2.1 108 = .ok (.ireturn, 1) := by decide +kernel
theorem d_Bs_scriptOf_109 : decode M_Bs_scriptOf.2.1 109 = .ok (.aload_n 0, 1) := by decide +kernel
theorem d_Bs_scriptOf_110 : decode M_Bs_scriptOf.2.1 110 = .ok (.getfield 14, 3) := by decide +kernel
theorem d_Bs_scriptOf_113 : decode M_Bs_scriptOf.2.1 113 = .ok (.iload_n 1, 1) := by decide +kernel
theorem d_Bs_scriptOf_114 : decode M_Bs_scriptOf.2.1 114 = .ok (.iload_n 2, 1) := by decide +kernel
theorem d_Bs_scriptOf_115 : decode M_Bs_scriptOf.2.1 115 = .ok (.invokevirtual 246, 3) := by decide +kernel
theorem d_Bs_scriptOf_118 : decode M_Bs_scriptOf.2.1 118 = .ok (.ireturn, 1) := by decide +kernel
theorem mi_Ru_stateOf : MI M_Ru_stateOf 1 := ⟨(lwg_at 5 (by decide +kernel) rfl), (lwg_at 518 (by decide +kernel) rfl), ⟨by decide +kernel, by decide +kernel⟩, by decide +kernel, by decide⟩
theorem cs_Bs_237 : CV RX11 237 RX5 M_Ru_stateOf 1 := ⟨(lwg_at 515 (by decide +kernel) rfl), (lwg_at 516 (by decide +kernel) rfl), (lwg_at 517 (by decide +kernel) rfl), mi_Ru_stateOf⟩
theorem mi_Ru_placeOf : MI M_Ru_placeOf 1 := ⟨(lwg_at 5 (by decide +kernel) rfl), (lwg_at 522 (by decide +kernel) rfl), ⟨by decide +kernel, by decide +kernel⟩, by decide +kernel, by decide⟩
theorem cs_Bs_240 : CV RX11 240 RX5 M_Ru_placeOf 1 := ⟨(lwg_at 519 (by decide +kernel) rfl), (lwg_at 520 (by decide +kernel) rfl), (lwg_at 521 (by decide +kernel) rfl), mi_Ru_placeOf⟩
theorem mi_Ru_refusalOf : MI M_Ru_refusalOf 1 := ⟨(lwg_at 5 (by decide +kernel) rfl), (lwg_at 526 (by decide +kernel) rfl), ⟨by decide +kernel, by decide +kernel⟩, by decide +kernel, by decide⟩
theorem cs_Bs_243 : CV RX11 243 RX5 M_Ru_refusalOf 1 := ⟨(lwg_at 523 (by decide +kernel) rfl), (lwg_at 524 (by decide +kernel) rfl), (lwg_at 525 (by decide +kernel) rfl), mi_Ru_refusalOf⟩
theorem mi_Pr_scriptPart : MI M_Pr_scriptPart 2 := ⟨(lwg_at 2 (by decide +kernel) rfl), (lwg_at 530 (by decide +kernel) rfl), ⟨by decide +kernel, by decide +kernel⟩, by decide +kernel, by decide⟩
theorem cs_Bs_246 : CV RX11 246 RX3 M_Pr_scriptPart 2 := ⟨(lwg_at 527 (by decide +kernel) rfl), (lwg_at 528 (by decide +kernel) rfl), (lwg_at 529 (by decide +kernel) rfl), mi_Pr_scriptPart⟩
theorem kc_Bs_236 : Cond.constant RX11 236 (-2147483648) ∈ lwg := (lwg_at 514 (by decide +kernel) rfl)
def F_Bs_scriptOf (x1 : Int32) (x2 : Int32) (δ : Dl) : Option (Int32) :=
  bnd (F_Pr_isScript 1 x1 δ) fun v5 => if v5 = 0 then (some (-2147483648)) else (if x2 = 5 then (if (δ.1 42 8) = 0 then (some 0) else ((F_Ru_stateOf 8 x1 δ).bind fun v55 => some v55)) else if x2 = 6 then (if (δ.1 42 8) = 0 then (some (-1)) else ((F_Ru_placeOf 8 x1 δ).bind fun v78 => some v78)) else if x2 = 7 then (if (δ.1 42 8) = 0 then (some 0) else ((F_Ru_refusalOf 8 x1 δ).bind fun v101 => some v101)) else ((F_Pr_scriptPart 1 x1 x2 δ).bind fun v115 => some v115))
set_option maxRecDepth 20000 in
set_option maxHeartbeats 4000000 in
theorem c_Bs_scriptOf {l : Launch} {Γ : Gm} (hG : GC Γ) (x1 : Int32) (x2 : Int32) (δ : Dl) (r : Int32) (h : F_Bs_scriptOf x1 x2  δ = some r) : Ct l M_Bs_scriptOf 1 0 0 NF [.inr (0, 0), .inl x1, .inl x2] Γ δ (some (.inl r), Γ, δ) := by
  unfold F_Bs_scriptOf at h
  refine Ct.of2 (n := 0) (ls := [some (.inr (0, 0)), some (.inl x1), some (.inl x2)]) rfl (by decide +kernel) (Nat.le_of_ble_eq_true rfl) ?_
  refine x_aload_n (i := 0) d_Bs_scriptOf_0 rfl rfl ?_
  refine x_getS (f := 90) (b := 1) gl_Bs_14_11 rfl kf_90 rfl (hG.ob oc_0) d_Bs_scriptOf_1 ?_
  refine x_iload_n (i := 1) d_Bs_scriptOf_4 rfl rfl ?_
  obtain ⟨v5, ev5, h⟩ := bn_e h
  refine y_V1 cs_Bs_217 rfl (hG.ob oc_1) (by first | decide | omega) (Nat.le_of_ble_eq_true rfl) d_Bs_scriptOf_5 (c_Pr_isScript hG 1 x1 oc_1 δ v5 ev5) (Nat.le_refl 0) (Nat.le_refl 0) ?_
  refine x_if_ne (tgt := 14) d_Bs_scriptOf_8 (by decide) (fun c8 => ?_) (fun c8 => ?_)
  · have h := if_f c8 h
    refine x_iload_n (i := 2) d_Bs_scriptOf_14 rfl rfl ?_
    by_cases c15_0 : x2 = 5
    · have h := if_t c15_0 h
      refine x_tin (v := 5) (off := 25) (tgt := 40) d_Bs_scriptOf_15 c15_0 (by decide +kernel) ?_
      refine x_aload_n (i := 0) d_Bs_scriptOf_40 rfl rfl ?_
      refine x_getS (f := 95) (b := 8) gl_Bs_39_11 rfl kf_95 rfl (hG.ob oc_0) d_Bs_scriptOf_41 ?_
      refine x_getI (f := 42) gl_Bs_100_5 rfl kf_42 (hG.ob oc_8) d_Bs_scriptOf_44 ?_
      refine x_if_eq (tgt := 61) d_Bs_scriptOf_47 (by decide) (fun c47 => ?_) (fun c47 => ?_)
      · have h := if_t c47 h
        refine x_ic (v := 0) d_Bs_scriptOf_61 (by decide) ?_
        replace h := Option.some.inj h; subst h
        exact x_iret rfl d_Bs_scriptOf_62 (Nat.le_refl 0) (Nat.le_refl 0)
      · have h := if_f c47 h
        refine x_aload_n (i := 0) d_Bs_scriptOf_50 rfl rfl ?_
        refine x_getS (f := 95) (b := 8) gl_Bs_39_11 rfl kf_95 rfl (hG.ob oc_0) d_Bs_scriptOf_51 ?_
        refine x_iload_n (i := 1) d_Bs_scriptOf_54 rfl rfl ?_
        obtain ⟨v55, ev55, h⟩ := bd_e h
        refine y_V1 cs_Bs_237 rfl (hG.ob oc_8) (by first | decide | omega) (Nat.le_of_ble_eq_true rfl) d_Bs_scriptOf_55 (c_Ru_stateOf hG 8 x1 oc_8 δ v55 ev55) (Nat.le_refl 0) (Nat.le_refl 0) ?_
        refine x_goto (tgt := 62) d_Bs_scriptOf_58 (by decide) ?_
        replace h := Option.some.inj h; subst h
        exact x_iret rfl d_Bs_scriptOf_62 (Nat.le_refl 0) (Nat.le_refl 0)
    have h := if_f c15_0 h
    by_cases c15_1 : x2 = 6
    · have h := if_t c15_1 h
      refine x_tin (v := 6) (off := 48) (tgt := 63) d_Bs_scriptOf_15 c15_1 (by decide +kernel) ?_
      refine x_aload_n (i := 0) d_Bs_scriptOf_63 rfl rfl ?_
      refine x_getS (f := 95) (b := 8) gl_Bs_39_11 rfl kf_95 rfl (hG.ob oc_0) d_Bs_scriptOf_64 ?_
      refine x_getI (f := 42) gl_Bs_100_5 rfl kf_42 (hG.ob oc_8) d_Bs_scriptOf_67 ?_
      refine x_if_eq (tgt := 84) d_Bs_scriptOf_70 (by decide) (fun c70 => ?_) (fun c70 => ?_)
      · have h := if_t c70 h
        refine x_ic (v := -1) d_Bs_scriptOf_84 (by decide) ?_
        replace h := Option.some.inj h; subst h
        exact x_iret rfl d_Bs_scriptOf_85 (Nat.le_refl 0) (Nat.le_refl 0)
      · have h := if_f c70 h
        refine x_aload_n (i := 0) d_Bs_scriptOf_73 rfl rfl ?_
        refine x_getS (f := 95) (b := 8) gl_Bs_39_11 rfl kf_95 rfl (hG.ob oc_0) d_Bs_scriptOf_74 ?_
        refine x_iload_n (i := 1) d_Bs_scriptOf_77 rfl rfl ?_
        obtain ⟨v78, ev78, h⟩ := bd_e h
        refine y_V1 cs_Bs_240 rfl (hG.ob oc_8) (by first | decide | omega) (Nat.le_of_ble_eq_true rfl) d_Bs_scriptOf_78 (c_Ru_placeOf hG 8 x1 oc_8 δ v78 ev78) (Nat.le_refl 0) (Nat.le_refl 0) ?_
        refine x_goto (tgt := 85) d_Bs_scriptOf_81 (by decide) ?_
        replace h := Option.some.inj h; subst h
        exact x_iret rfl d_Bs_scriptOf_85 (Nat.le_refl 0) (Nat.le_refl 0)
    have h := if_f c15_1 h
    by_cases c15_2 : x2 = 7
    · have h := if_t c15_2 h
      refine x_tin (v := 7) (off := 71) (tgt := 86) d_Bs_scriptOf_15 c15_2 (by decide +kernel) ?_
      refine x_aload_n (i := 0) d_Bs_scriptOf_86 rfl rfl ?_
      refine x_getS (f := 95) (b := 8) gl_Bs_39_11 rfl kf_95 rfl (hG.ob oc_0) d_Bs_scriptOf_87 ?_
      refine x_getI (f := 42) gl_Bs_100_5 rfl kf_42 (hG.ob oc_8) d_Bs_scriptOf_90 ?_
      refine x_if_eq (tgt := 107) d_Bs_scriptOf_93 (by decide) (fun c93 => ?_) (fun c93 => ?_)
      · have h := if_t c93 h
        refine x_ic (v := 0) d_Bs_scriptOf_107 (by decide) ?_
        replace h := Option.some.inj h; subst h
        exact x_iret rfl d_Bs_scriptOf_108 (Nat.le_refl 0) (Nat.le_refl 0)
      · have h := if_f c93 h
        refine x_aload_n (i := 0) d_Bs_scriptOf_96 rfl rfl ?_
        refine x_getS (f := 95) (b := 8) gl_Bs_39_11 rfl kf_95 rfl (hG.ob oc_0) d_Bs_scriptOf_97 ?_
        refine x_iload_n (i := 1) d_Bs_scriptOf_100 rfl rfl ?_
        obtain ⟨v101, ev101, h⟩ := bd_e h
        refine y_V1 cs_Bs_243 rfl (hG.ob oc_8) (by first | decide | omega) (Nat.le_of_ble_eq_true rfl) d_Bs_scriptOf_101 (c_Ru_refusalOf hG 8 x1 oc_8 δ v101 ev101) (Nat.le_refl 0) (Nat.le_refl 0) ?_
        refine x_goto (tgt := 108) d_Bs_scriptOf_104 (by decide) ?_
        replace h := Option.some.inj h; subst h
        exact x_iret rfl d_Bs_scriptOf_108 (Nat.le_refl 0) (Nat.le_refl 0)
    have h := if_f c15_2 h
    have n15_0 := lv_neT (a := 5) c15_0 (by decide)
    have n15_1 := lv_neT (a := 6) c15_1 (by decide)
    have n15_2 := lv_neT (a := 7) c15_2 (by decide)
    refine x_tout (tgt := 109) d_Bs_scriptOf_15 (by omega) (by decide) ?_
    refine x_aload_n (i := 0) d_Bs_scriptOf_109 rfl rfl ?_
    refine x_getS (f := 90) (b := 1) gl_Bs_14_11 rfl kf_90 rfl (hG.ob oc_0) d_Bs_scriptOf_110 ?_
    refine x_iload_n (i := 1) d_Bs_scriptOf_113 rfl rfl ?_
    refine x_iload_n (i := 2) d_Bs_scriptOf_114 rfl rfl ?_
    obtain ⟨v115, ev115, h⟩ := bd_e h
    refine y_V2 cs_Bs_246 rfl (hG.ob oc_1) (by first | decide | omega) (Nat.le_of_ble_eq_true rfl) d_Bs_scriptOf_115 (c_Pr_scriptPart hG 1 x1 x2 oc_1 δ v115 ev115) (Nat.le_refl 0) (Nat.le_refl 0) ?_
    replace h := Option.some.inj h; subst h
    exact x_iret rfl d_Bs_scriptOf_118 (Nat.le_refl 0) (Nat.le_refl 0)
  · have h := if_t c8 h
    refine x_ldc (v := -2147483648) kc_Bs_236 d_Bs_scriptOf_11 ?_
    replace h := Option.some.inj h; subst h
    exact x_iret rfl d_Bs_scriptOf_13 (Nat.le_refl 0) (Nat.le_refl 0)
-- BlockStage.flag()I
theorem d_Bs_flag_0 : decode M_Bs_flag.2.1 0 = .ok (.aload_n 0, 1) := by decide +kernel
theorem d_Bs_flag_1 : decode M_Bs_flag.2.1 1 = .ok (.getfield 39, 3) := by decide +kernel
theorem d_Bs_flag_4 : decode M_Bs_flag.2.1 4 = .ok (.getfield 252, 3) := by decide +kernel
theorem d_Bs_flag_7 : decode M_Bs_flag.2.1 7 = .ok (.aload_n 0, 1) := by decide +kernel
theorem d_Bs_flag_8 : decode M_Bs_flag.2.1 8 = .ok (.getfield 14, 3) := by decide +kernel
theorem d_Bs_flag_11 : decode M_Bs_flag.2.1 11 = .ok (.invokevirtual 253, 3) := by decide +kernel
theorem d_Bs_flag_14 : decode M_Bs_flag.2.1 14 = .ok (.aload_n 0, 1) := by decide +kernel
theorem d_Bs_flag_15 : decode M_Bs_flag.2.1 15 = .ok (.getfield 39, 3) := by decide +kernel
theorem d_Bs_flag_18 : decode M_Bs_flag.2.1 18 = .ok (.aload_n 0, 1) := by decide +kernel
theorem d_Bs_flag_19 : decode M_Bs_flag.2.1 19 = .ok (.getfield 24, 3) := by decide +kernel
theorem d_Bs_flag_22 : decode M_Bs_flag.2.1 22 = .ok (.invokevirtual 256, 3) := by decide +kernel
theorem d_Bs_flag_25 : decode M_Bs_flag.2.1 25 = .ok (.iconst 1, 1) := by decide +kernel
theorem d_Bs_flag_26 : decode M_Bs_flag.2.1 26 = .ok (.ireturn, 1) := by decide +kernel
theorem gl_Bs_252_5 : GL RX11 252 5 0 := ⟨RX5, TX5, 14, RX5, rfl, by decide, (lwg_at 122 (by decide +kernel) rfl), Or.inl rfl, gl_w inX5⟩
theorem oc_9 : Oc 9 3 := by decide
theorem mi_Pr_copyFrom : MI M_Pr_copyFrom 1 := ⟨(lwg_at 2 (by decide +kernel) rfl), (lwg_at 538 (by decide +kernel) rfl), ⟨by decide +kernel, by decide +kernel⟩, by decide +kernel, by decide⟩
theorem cs_Bs_253 : CV RX11 253 RX3 M_Pr_copyFrom 1 := ⟨(lwg_at 535 (by decide +kernel) rfl), (lwg_at 536 (by decide +kernel) rfl), (lwg_at 537 (by decide +kernel) rfl), mi_Pr_copyFrom⟩
theorem cs_Bs_256 : CV RX11 256 RX5 M_Ru_begin 1 := ⟨(lwg_at 540 (by decide +kernel) rfl), (lwg_at 541 (by decide +kernel) rfl), (lwg_at 542 (by decide +kernel) rfl), mi_Ru_begin⟩
def F_Bs_flag (δ : Dl) : Option (Int32 × Dl) :=
  (F_Pr_copyFrom 9 1 δ).bind fun δ11 => (F_Ru_begin 8 3 δ11).bind fun δ22 => some (1, δ22)
set_option maxRecDepth 20000 in
set_option maxHeartbeats 4000000 in
theorem c_Bs_flag {l : Launch} {Γ : Gm} (hG : GC Γ) (δ : Dl) (r : Int32 × Dl) (h : F_Bs_flag  δ = some r) : Ct l M_Bs_flag 3 0 0 NF [.inr (0, 0)] Γ δ (some (.inl r.1), Γ, r.2) := by
  unfold F_Bs_flag at h
  refine Ct.of2 (n := 0) (ls := [some (.inr (0, 0))]) rfl (by decide +kernel) (Nat.le_of_ble_eq_true rfl) ?_
  refine x_aload_n (i := 0) d_Bs_flag_0 rfl rfl ?_
  refine x_getS (f := 95) (b := 8) gl_Bs_39_11 rfl kf_95 rfl (hG.ob oc_0) d_Bs_flag_1 ?_
  refine x_getS (f := 40) (b := 9) gl_Bs_252_5 rfl kf_40 rfl (hG.ob oc_8) d_Bs_flag_4 ?_
  refine x_aload_n (i := 0) d_Bs_flag_7 rfl rfl ?_
  refine x_getS (f := 90) (b := 1) gl_Bs_14_11 rfl kf_90 rfl (hG.ob oc_0) d_Bs_flag_8 ?_
  obtain ⟨δ11, eδ11, h⟩ := bd_e h
  refine y_V1v cs_Bs_253 rfl (hG.ob oc_9) (by first | decide | omega) (Nat.le_of_ble_eq_true rfl) d_Bs_flag_11 (c_Pr_copyFrom hG 9 1 oc_9 oc_1 δ δ11 eδ11) (Nat.le_refl 0) (Nat.le_refl 0) ?_
  refine x_aload_n (i := 0) d_Bs_flag_14 rfl rfl ?_
  refine x_getS (f := 95) (b := 8) gl_Bs_39_11 rfl kf_95 rfl (hG.ob oc_0) d_Bs_flag_15 ?_
  refine x_aload_n (i := 0) d_Bs_flag_18 rfl rfl ?_
  refine x_getS (f := 92) (b := 3) gl_Bs_24_11 rfl kf_92 rfl (hG.ob oc_0) d_Bs_flag_19 ?_
  obtain ⟨δ22, eδ22, h⟩ := bd_e h
  refine y_V1v cs_Bs_256 rfl (hG.ob oc_8) (by first | decide | omega) (Nat.le_of_ble_eq_true rfl) d_Bs_flag_22 (c_Ru_begin hG 8 3 oc_8 oc_3 δ11 δ22 eδ22) (Nat.le_refl 0) (Nat.le_refl 0) ?_
  refine x_ic (v := 1) d_Bs_flag_25 (by decide) ?_
  replace h := Option.some.inj h; subst h
  exact x_iret rfl d_Bs_flag_26 (Nat.le_refl 0) (Nat.le_refl 0)
-- BlockStage.tick(I)I
theorem d_Bs_tick_0 : decode M_Bs_tick.2.1 0 = .ok (.aload_n 0, 1) := by decide +kernel
theorem d_Bs_tick_1 : decode M_Bs_tick.2.1 1 = .ok (.getfield 39, 3) := by decide +kernel
theorem d_Bs_tick_4 : decode M_Bs_tick.2.1 4 = .ok (.getfield 100, 3) := by decide +kernel
theorem d_Bs_tick_7 : decode M_Bs_tick.2.1 7 = .ok (.ifCond .ne 6, 3) := by decide +kernel
theorem d_Bs_tick_10 : decode M_Bs_tick.2.1 10 = .ok (.bipush (-3), 2) := by decide +kernel
theorem d_Bs_tick_12 : decode M_Bs_tick.2.1 12 = .ok (.ireturn, 1) := by decide +kernel
theorem d_Bs_tick_13 : decode M_Bs_tick.2.1 13 = .ok (.iload_n 1, 1) := by decide +kernel
theorem d_Bs_tick_14 : decode M_Bs_tick.2.1 14 = .ok (.iconst 1, 1) := by decide +kernel
theorem d_Bs_tick_15 : decode M_Bs_tick.2.1 15 = .ok (.if_icmp .lt 9, 3) := by decide +kernel
theorem d_Bs_tick_18 : decode M_Bs_tick.2.1 18 = .ok (.iload_n 1, 1) := by decide +kernel
theorem d_Bs_tick_19 : decode M_Bs_tick.2.1 19 = .ok (.bipush 100, 2) := by decide +kernel
theorem d_Bs_tick_21 : decode M_Bs_tick.2.1 21 = .ok (.if_icmp .le 6, 3) := by decide +kernel
theorem d_Bs_tick_24 : decode M_Bs_tick.2.1 24 = .ok (.bipush (-2), 2) := by decide +kernel
theorem d_Bs_tick_26 : decode M_Bs_tick.2.1 26 = .ok (.ireturn, 1) := by decide +kernel
theorem d_Bs_tick_27 : decode M_Bs_tick.2.1 27 = .ok (.aload_n 0, 1) := by decide +kernel
theorem d_Bs_tick_28 : decode M_Bs_tick.2.1 28 = .ok (.getfield 39, 3) := by decide +kernel
theorem d_Bs_tick_31 : decode M_Bs_tick.2.1 31 = .ok (.getfield 259, 3) := by decide +kernel
theorem d_Bs_tick_34 : decode M_Bs_tick.2.1 34 = .ok (.iload_n 1, 1) := by decide +kernel
theorem d_Bs_tick_35 : decode M_Bs_tick.2.1 35 = .ok (.iadd, 1) := by decide +kernel
theorem d_Bs_tick_36 : decode M_Bs_tick.2.1 36 = .ok (.sipush 300, 3) := by decide +kernel
theorem d_Bs_tick_39 : decode M_Bs_tick.2.1 39 = .ok (.if_icmp .le 6, 3) := by decide +kernel
theorem d_Bs_tick_42 : decode M_Bs_tick.2.1 42 = .ok (.bipush (-4), 2) := by decide +kernel
theorem d_Bs_tick_44 : decode M_Bs_tick.2.1 44 = .ok (.ireturn, 1) := by decide +kernel
theorem d_Bs_tick_45 : decode M_Bs_tick.2.1 45 = .ok (.iconst 0, 1) := by decide +kernel
theorem d_Bs_tick_46 : decode M_Bs_tick.2.1 46 = .ok (.istore_n 2, 1) := by decide +kernel
theorem d_Bs_tick_47 : decode M_Bs_tick.2.1 47 = .ok (.iload_n 2, 1) := by decide +kernel
theorem d_Bs_tick_48 : decode M_Bs_tick.2.1 48 = .ok (.iload_n 1, 1) := by decide +kernel
theorem d_Bs_tick_49 : decode M_Bs_tick.2.1 49 = .ok (.if_icmp .ge 16, 3) := by decide +kernel
theorem d_Bs_tick_52 : decode M_Bs_tick.2.1 52 = .ok (.aload_n 0, 1) := by decide +kernel
theorem d_Bs_tick_53 : decode M_Bs_tick.2.1 53 = .ok (.getfield 39, 3) := by decide +kernel
theorem d_Bs_tick_56 : decode M_Bs_tick.2.1 56 = .ok (.invokevirtual 262, 3) := by decide +kernel
theorem d_Bs_tick_59 : decode M_Bs_tick.2.1 59 = .ok (.iinc 2 1, 3) := by decide +kernel
theorem d_Bs_tick_62 : decode M_Bs_tick.2.1 62 = .ok (.goto (-15), 3) := by decide +kernel
theorem d_Bs_tick_65 : decode M_Bs_tick.2.1 65 = .ok (.aload_n 0, 1) := by decide +kernel
theorem d_Bs_tick_66 : decode M_Bs_tick.2.1 66 = .ok (.getfield 39, 3) := by decide +kernel
theorem d_Bs_tick_69 : decode M_Bs_tick.2.1 69 = .ok (.getfield 259, 3) := by decide +kernel
theorem d_Bs_tick_72 : decode M_Bs_tick.2.1 72 = .ok (.ireturn, 1) := by decide +kernel
theorem gl_Bs_259_5 : GL RX11 259 5 3 := ⟨RX5, TX5, 14, RX5, rfl, by decide, (lwg_at 129 (by decide +kernel) rfl), Or.inl rfl, gl_w inX5⟩
theorem cs_Bs_262 : CV RX11 262 RX5 M_Ru_oneTick 0 := ⟨(lwg_at 550 (by decide +kernel) rfl), (lwg_at 551 (by decide +kernel) rfl), (lwg_at 552 (by decide +kernel) rfl), mi_Ru_oneTick⟩
def F_Bs_tick_47_b (x1 : Int32) (k47 : Int32 → Dl → Option (Int32 × Dl)) (x2 : Int32) (δ : Dl) : Option (Int32 × Dl) :=
  if x1 ≤ x2 then (some ((δ.1 43 8), δ)) else ((F_Ru_oneTick 8 δ).bind fun δ56 => k47 ((x2 + 1)) δ56)
set_option maxRecDepth 20000 in
set_option maxHeartbeats 4000000 in
theorem j_Bs_tick_47_b {l : Launch} {Γ : Gm} (hG : GC Γ) (x1 : Int32) (k47 : Int32 → Dl → Option (Int32 × Dl)) (x2 : Int32) (δ : Dl) (r : Int32 × Dl) (hk47 : ∀ (x2 : Int32) (δ : Dl),  k47 x2 δ = some r → Xe l M_Bs_tick 43 0 0 NF 47 [some (.inr (0, 0)), some (.inl x1), some (.inl x2)] [] 0 0 Γ δ (some (.inl r.1), Γ, r.2)) (h : F_Bs_tick_47_b x1 k47 x2 δ = some r) : Xe l M_Bs_tick 43 0 0 NF 47 [some (.inr (0, 0)), some (.inl x1), some (.inl x2)] [] 0 0 Γ δ (some (.inl r.1), Γ, r.2) := by
  unfold F_Bs_tick_47_b at h
  refine x_iload_n (i := 2) d_Bs_tick_47 rfl rfl ?_
  refine x_iload_n (i := 1) d_Bs_tick_48 rfl rfl ?_
  refine x_cmp_ge (tgt := 65) d_Bs_tick_49 (by decide) (fun c49 => ?_) (fun c49 => ?_)
  · have h := if_t c49 h
    refine x_aload_n (i := 0) d_Bs_tick_65 rfl rfl ?_
    refine x_getS (f := 95) (b := 8) gl_Bs_39_11 rfl kf_95 rfl (hG.ob oc_0) d_Bs_tick_66 ?_
    refine x_getI (f := 43) gl_Bs_259_5 rfl kf_43 (hG.ob oc_8) d_Bs_tick_69 ?_
    replace h := Option.some.inj h; subst h
    exact x_iret rfl d_Bs_tick_72 (Nat.le_refl 0) (Nat.le_refl 0)
  · have h := if_f c49 h
    refine x_aload_n (i := 0) d_Bs_tick_52 rfl rfl ?_
    refine x_getS (f := 95) (b := 8) gl_Bs_39_11 rfl kf_95 rfl (hG.ob oc_0) d_Bs_tick_53 ?_
    obtain ⟨δ56, eδ56, h⟩ := bd_e h
    refine y_V0v cs_Bs_262 rfl (hG.ob oc_8) (by first | decide | omega) (Nat.le_of_ble_eq_true rfl) d_Bs_tick_56 (c_Ru_oneTick hG 8 oc_8 δ δ56 eδ56) (Nat.le_refl 0) (Nat.le_refl 0) ?_
    refine x_inc (i := 2) (c0 := 1) (ls' := [some (.inr (0, 0)), some (.inl x1), some (.inl (x2 + 1))]) d_Bs_tick_59 (by decide) rfl (by decide) rfl ?_
    refine x_goto (tgt := 47) d_Bs_tick_62 (by decide) ?_
    exact hk47 ((x2 + 1)) δ56 h
def F_Bs_tick_47 (x1 : Int32) : Nat → Int32 → Dl → Option (Int32 × Dl)
  | 0, _, _ => none
  | n + 1, x2, δ => F_Bs_tick_47_b x1 (F_Bs_tick_47 x1 n) x2 δ
theorem j_Bs_tick_47 {l : Launch} {Γ : Gm} (hG : GC Γ) (x1 : Int32) (n : Nat) (x2 : Int32) (δ : Dl) (r : Int32 × Dl) (h : F_Bs_tick_47 x1 n x2 δ = some r) : Xe l M_Bs_tick 43 0 0 NF 47 [some (.inr (0, 0)), some (.inl x1), some (.inl x2)] [] 0 0 Γ δ (some (.inl r.1), Γ, r.2) := by
  induction n generalizing x2 δ with
  | zero => cases h
  | succ n ih => exact j_Bs_tick_47_b hG x1 (F_Bs_tick_47 x1 n) x2 δ r (fun x2 δ hh => ih x2 δ hh) h
def F_Bs_tick (x1 : Int32) (δ : Dl) : Option (Int32 × Dl) :=
  if (δ.1 42 8) = 0 then (some ((-3), δ)) else (if x1 < 1 then (some ((-2), δ)) else (if x1 ≤ 100 then (if ((δ.1 43 8) + x1) ≤ 300 then (F_Bs_tick_47 x1 FU 0 δ) else (some ((-4), δ))) else (some ((-2), δ))))
set_option maxRecDepth 20000 in
set_option maxHeartbeats 4000000 in
theorem c_Bs_tick {l : Launch} {Γ : Gm} (hG : GC Γ) (x1 : Int32) (δ : Dl) (r : Int32 × Dl) (h : F_Bs_tick x1  δ = some r) : Ct l M_Bs_tick 43 0 0 NF [.inr (0, 0), .inl x1] Γ δ (some (.inl r.1), Γ, r.2) := by
  unfold F_Bs_tick at h
  refine Ct.of2 (n := 1) (ls := [some (.inr (0, 0)), some (.inl x1), none]) rfl (by decide +kernel) (Nat.le_of_ble_eq_true rfl) ?_
  refine x_aload_n (i := 0) d_Bs_tick_0 rfl rfl ?_
  refine x_getS (f := 95) (b := 8) gl_Bs_39_11 rfl kf_95 rfl (hG.ob oc_0) d_Bs_tick_1 ?_
  refine x_getI (f := 42) gl_Bs_100_5 rfl kf_42 (hG.ob oc_8) d_Bs_tick_4 ?_
  refine x_if_ne (tgt := 13) d_Bs_tick_7 (by decide) (fun c7 => ?_) (fun c7 => ?_)
  · have h := if_f c7 h
    refine x_iload_n (i := 1) d_Bs_tick_13 rfl rfl ?_
    refine x_ic (v := 1) d_Bs_tick_14 (by decide) ?_
    refine x_cmp_lt (tgt := 24) d_Bs_tick_15 (by decide) (fun c15 => ?_) (fun c15 => ?_)
    · have h := if_t c15 h
      refine x_bi (v := -2) d_Bs_tick_24 (by decide) ?_
      replace h := Option.some.inj h; subst h
      exact x_iret rfl d_Bs_tick_26 (Nat.le_refl 0) (Nat.le_refl 0)
    · have h := if_f c15 h
      refine x_iload_n (i := 1) d_Bs_tick_18 rfl rfl ?_
      refine x_bi (v := 100) d_Bs_tick_19 (by decide) ?_
      refine x_cmp_le (tgt := 27) d_Bs_tick_21 (by decide) (fun c21 => ?_) (fun c21 => ?_)
      · have h := if_t c21 h
        refine x_aload_n (i := 0) d_Bs_tick_27 rfl rfl ?_
        refine x_getS (f := 95) (b := 8) gl_Bs_39_11 rfl kf_95 rfl (hG.ob oc_0) d_Bs_tick_28 ?_
        refine x_getI (f := 43) gl_Bs_259_5 rfl kf_43 (hG.ob oc_8) d_Bs_tick_31 ?_
        refine x_iload_n (i := 1) d_Bs_tick_34 rfl rfl ?_
        refine x_iadd d_Bs_tick_35 ?_
        refine x_si (v := 300) d_Bs_tick_36 (by decide) ?_
        refine x_cmp_le (tgt := 45) d_Bs_tick_39 (by decide) (fun c39 => ?_) (fun c39 => ?_)
        · have h := if_t c39 h
          refine x_ic (v := 0) d_Bs_tick_45 (by decide) ?_
          refine x_stn (i := 2) (ls' := [some (.inr (0, 0)), some (.inl x1), some (.inl 0)]) d_Bs_tick_46 rfl (by decide) rfl ?_
          exact j_Bs_tick_47 hG x1 FU 0 δ r h
        · have h := if_f c39 h
          refine x_bi (v := -4) d_Bs_tick_42 (by decide) ?_
          replace h := Option.some.inj h; subst h
          exact x_iret rfl d_Bs_tick_44 (Nat.le_refl 0) (Nat.le_refl 0)
      · have h := if_f c21 h
        refine x_bi (v := -2) d_Bs_tick_24 (by decide) ?_
        replace h := Option.some.inj h; subst h
        exact x_iret rfl d_Bs_tick_26 (Nat.le_refl 0) (Nat.le_refl 0)
  · have h := if_t c7 h
    refine x_bi (v := -3) d_Bs_tick_10 (by decide) ?_
    replace h := Option.some.inj h; subst h
    exact x_iret rfl d_Bs_tick_12 (Nat.le_refl 0) (Nat.le_refl 0)
-- BlockStage.back(I)I
theorem d_Bs_back_0 : decode M_Bs_back.2.1 0 = .ok (.aload_n 0, 1) := by decide +kernel
theorem d_Bs_back_1 : decode M_Bs_back.2.1 1 = .ok (.getfield 39, 3) := by decide +kernel
theorem d_Bs_back_4 : decode M_Bs_back.2.1 4 = .ok (.getfield 100, 3) := by decide +kernel
theorem d_Bs_back_7 : decode M_Bs_back.2.1 7 = .ok (.ifCond .ne 6, 3) := by decide +kernel
theorem d_Bs_back_10 : decode M_Bs_back.2.1 10 = .ok (.bipush (-3), 2) := by decide +kernel
theorem d_Bs_back_12 : decode M_Bs_back.2.1 12 = .ok (.ireturn, 1) := by decide +kernel
theorem d_Bs_back_13 : decode M_Bs_back.2.1 13 = .ok (.iload_n 1, 1) := by decide +kernel
theorem d_Bs_back_14 : decode M_Bs_back.2.1 14 = .ok (.ifCond .lt 14, 3) := by decide +kernel
theorem d_Bs_back_17 : decode M_Bs_back.2.1 17 = .ok (.iload_n 1, 1) := by decide +kernel
theorem d_Bs_back_18 : decode M_Bs_back.2.1 18 = .ok (.aload_n 0, 1) := by decide +kernel
theorem d_Bs_back_19 : decode M_Bs_back.2.1 19 = .ok (.getfield 39, 3) := by decide +kernel
theorem d_Bs_back_22 : decode M_Bs_back.2.1 22 = .ok (.getfield 259, 3) := by decide +kernel
theorem d_Bs_back_25 : decode M_Bs_back.2.1 25 = .ok (.if_icmp .le 6, 3) := by decide +kernel
theorem d_Bs_back_28 : decode M_Bs_back.2.1 28 = .ok (.bipush (-2), 2) := by decide +kernel
theorem d_Bs_back_30 : decode M_Bs_back.2.1 30 = .ok (.ireturn, 1) := by decide +kernel
theorem d_Bs_back_31 : decode M_Bs_back.2.1 31 = .ok (.aload_n 0, 1) := by decide +kernel
theorem d_Bs_back_32 : decode M_Bs_back.2.1 32 = .ok (.getfield 39, 3) := by decide +kernel
theorem d_Bs_back_35 : decode M_Bs_back.2.1 35 = .ok (.getfield 259, 3) := by decide +kernel
theorem d_Bs_back_38 : decode M_Bs_back.2.1 38 = .ok (.iload_n 1, 1) := by decide +kernel
theorem d_Bs_back_39 : decode M_Bs_back.2.1 39 = .ok (.isub, 1) := by decide +kernel
theorem d_Bs_back_40 : decode M_Bs_back.2.1 40 = .ok (.istore_n 2, 1) := by decide +kernel
theorem d_Bs_back_41 : decode M_Bs_back.2.1 41 = .ok (.aload_n 0, 1) := by decide +kernel
theorem d_Bs_back_42 : decode M_Bs_back.2.1 42 = .ok (.getfield 39, 3) := by decide +kernel
theorem d_Bs_back_45 : decode M_Bs_back.2.1 45 = .ok (.aload_n 0, 1) := by decide +kernel
theorem d_Bs_back_46 : decode M_Bs_back.2.1 46 = .ok (.getfield 24, 3) := by decide +kernel
theorem d_Bs_back_49 : decode M_Bs_back.2.1 49 = .ok (.invokevirtual 256, 3) := by decide +kernel
theorem d_Bs_back_52 : decode M_Bs_back.2.1 52 = .ok (.iconst 0, 1) := by decide +kernel
theorem d_Bs_back_53 : decode M_Bs_back.2.1 53 = .ok (.istore_n 3, 1) := by decide +kernel
theorem d_Bs_back_54 : decode M_Bs_back.2.1 54 = .ok (.iload_n 3, 1) := by decide +kernel
theorem d_Bs_back_55 : decode M_Bs_back.2.1 55 = .ok (.iload_n 2, 1) := by decide +kernel
theorem d_Bs_back_56 : decode M_Bs_back.2.1 56 = .ok (.if_icmp .ge 16, 3) := by decide +kernel
theorem d_Bs_back_59 : decode M_Bs_back.2.1 59 = .ok (.aload_n 0, 1) := by decide +kernel
theorem d_Bs_back_60 : decode M_Bs_back.2.1 60 = .ok (.getfield 39, 3) := by decide +kernel
theorem d_Bs_back_63 : decode M_Bs_back.2.1 63 = .ok (.invokevirtual 262, 3) := by decide +kernel
theorem d_Bs_back_66 : decode M_Bs_back.2.1 66 = .ok (.iinc 3 1, 3) := by decide +kernel
theorem d_Bs_back_69 : decode M_Bs_back.2.1 69 = .ok (.goto (-15), 3) := by decide +kernel
theorem d_Bs_back_72 : decode M_Bs_back.2.1 72 = .ok (.iload_n 2, 1) := by decide +kernel
theorem d_Bs_back_73 : decode M_Bs_back.2.1 73 = .ok (.ireturn, 1) := by decide +kernel
def F_Bs_back_54_b (x1 : Int32) (k54 : Int32 → Int32 → Dl → Option (Int32 × Dl)) (x2 : Int32) (x3 : Int32) (δ : Dl) : Option (Int32 × Dl) :=
  if x2 ≤ x3 then (some (x2, δ)) else ((F_Ru_oneTick 8 δ).bind fun δ63 => k54 x2 ((x3 + 1)) δ63)
set_option maxRecDepth 20000 in
set_option maxHeartbeats 4000000 in
theorem j_Bs_back_54_b {l : Launch} {Γ : Gm} (hG : GC Γ) (x1 : Int32) (k54 : Int32 → Int32 → Dl → Option (Int32 × Dl)) (x2 : Int32) (x3 : Int32) (δ : Dl) (r : Int32 × Dl) (hk54 : ∀ (x2 : Int32) (x3 : Int32) (δ : Dl),  k54 x2 x3 δ = some r → Xe l M_Bs_back 43 0 0 NF 54 [some (.inr (0, 0)), none, some (.inl x2), some (.inl x3)] [] 0 0 Γ δ (some (.inl r.1), Γ, r.2)) (h : F_Bs_back_54_b x1 k54 x2 x3 δ = some r) : Xe l M_Bs_back 43 0 0 NF 54 [some (.inr (0, 0)), none, some (.inl x2), some (.inl x3)] [] 0 0 Γ δ (some (.inl r.1), Γ, r.2) := by
  unfold F_Bs_back_54_b at h
  refine x_iload_n (i := 3) d_Bs_back_54 rfl rfl ?_
  refine x_iload_n (i := 2) d_Bs_back_55 rfl rfl ?_
  refine x_cmp_ge (tgt := 72) d_Bs_back_56 (by decide) (fun c56 => ?_) (fun c56 => ?_)
  · have h := if_t c56 h
    refine x_iload_n (i := 2) d_Bs_back_72 rfl rfl ?_
    replace h := Option.some.inj h; subst h
    exact x_iret rfl d_Bs_back_73 (Nat.le_refl 0) (Nat.le_refl 0)
  · have h := if_f c56 h
    refine x_aload_n (i := 0) d_Bs_back_59 rfl rfl ?_
    refine x_getS (f := 95) (b := 8) gl_Bs_39_11 rfl kf_95 rfl (hG.ob oc_0) d_Bs_back_60 ?_
    obtain ⟨δ63, eδ63, h⟩ := bd_e h
    refine y_V0v cs_Bs_262 rfl (hG.ob oc_8) (by first | decide | omega) (Nat.le_of_ble_eq_true rfl) d_Bs_back_63 (c_Ru_oneTick hG 8 oc_8 δ δ63 eδ63) (Nat.le_refl 0) (Nat.le_refl 0) ?_
    refine x_inc (i := 3) (c0 := 1) (ls' := [some (.inr (0, 0)), none, some (.inl x2), some (.inl (x3 + 1))]) d_Bs_back_66 (by decide) rfl (by decide) rfl ?_
    refine x_goto (tgt := 54) d_Bs_back_69 (by decide) ?_
    exact hk54 x2 ((x3 + 1)) δ63 h
def F_Bs_back_54 (x1 : Int32) : Nat → Int32 → Int32 → Dl → Option (Int32 × Dl)
  | 0, _, _, _ => none
  | n + 1, x2, x3, δ => F_Bs_back_54_b x1 (F_Bs_back_54 x1 n) x2 x3 δ
theorem j_Bs_back_54 {l : Launch} {Γ : Gm} (hG : GC Γ) (x1 : Int32) (n : Nat) (x2 : Int32) (x3 : Int32) (δ : Dl) (r : Int32 × Dl) (h : F_Bs_back_54 x1 n x2 x3 δ = some r) : Xe l M_Bs_back 43 0 0 NF 54 [some (.inr (0, 0)), none, some (.inl x2), some (.inl x3)] [] 0 0 Γ δ (some (.inl r.1), Γ, r.2) := by
  induction n generalizing x2 x3 δ with
  | zero => cases h
  | succ n ih => exact j_Bs_back_54_b hG x1 (F_Bs_back_54 x1 n) x2 x3 δ r (fun x2 x3 δ hh => ih x2 x3 δ hh) h
def F_Bs_back (x1 : Int32) (δ : Dl) : Option (Int32 × Dl) :=
  if (δ.1 42 8) = 0 then (some ((-3), δ)) else (if x1 < 0 then (some ((-2), δ)) else (if x1 ≤ (δ.1 43 8) then ((F_Ru_begin 8 3 δ).bind fun δ49 => F_Bs_back_54 x1 FU (((δ.1 43 8) - x1)) 0 δ49) else (some ((-2), δ))))
set_option maxRecDepth 20000 in
set_option maxHeartbeats 4000000 in
theorem c_Bs_back {l : Launch} {Γ : Gm} (hG : GC Γ) (x1 : Int32) (δ : Dl) (r : Int32 × Dl) (h : F_Bs_back x1  δ = some r) : Ct l M_Bs_back 43 0 0 NF [.inr (0, 0), .inl x1] Γ δ (some (.inl r.1), Γ, r.2) := by
  unfold F_Bs_back at h
  refine Ct.of2 (n := 2) (ls := [some (.inr (0, 0)), some (.inl x1), none, none]) rfl (by decide +kernel) (Nat.le_of_ble_eq_true rfl) ?_
  refine x_aload_n (i := 0) d_Bs_back_0 rfl rfl ?_
  refine x_getS (f := 95) (b := 8) gl_Bs_39_11 rfl kf_95 rfl (hG.ob oc_0) d_Bs_back_1 ?_
  refine x_getI (f := 42) gl_Bs_100_5 rfl kf_42 (hG.ob oc_8) d_Bs_back_4 ?_
  refine x_if_ne (tgt := 13) d_Bs_back_7 (by decide) (fun c7 => ?_) (fun c7 => ?_)
  · have h := if_f c7 h
    refine x_iload_n (i := 1) d_Bs_back_13 rfl rfl ?_
    refine x_if_lt (tgt := 28) d_Bs_back_14 (by decide) (fun c14 => ?_) (fun c14 => ?_)
    · have h := if_t c14 h
      refine x_bi (v := -2) d_Bs_back_28 (by decide) ?_
      replace h := Option.some.inj h; subst h
      exact x_iret rfl d_Bs_back_30 (Nat.le_refl 0) (Nat.le_refl 0)
    · have h := if_f c14 h
      refine x_iload_n (i := 1) d_Bs_back_17 rfl rfl ?_
      refine x_aload_n (i := 0) d_Bs_back_18 rfl rfl ?_
      refine x_getS (f := 95) (b := 8) gl_Bs_39_11 rfl kf_95 rfl (hG.ob oc_0) d_Bs_back_19 ?_
      refine x_getI (f := 43) gl_Bs_259_5 rfl kf_43 (hG.ob oc_8) d_Bs_back_22 ?_
      refine x_cmp_le (tgt := 31) d_Bs_back_25 (by decide) (fun c25 => ?_) (fun c25 => ?_)
      · have h := if_t c25 h
        refine x_aload_n (i := 0) d_Bs_back_31 rfl rfl ?_
        refine x_getS (f := 95) (b := 8) gl_Bs_39_11 rfl kf_95 rfl (hG.ob oc_0) d_Bs_back_32 ?_
        refine x_getI (f := 43) gl_Bs_259_5 rfl kf_43 (hG.ob oc_8) d_Bs_back_35 ?_
        refine x_iload_n (i := 1) d_Bs_back_38 rfl rfl ?_
        refine x_isub d_Bs_back_39 ?_
        refine x_stn (i := 2) (ls' := [some (.inr (0, 0)), some (.inl x1), some (.inl ((δ.1 43 8) - x1)), none]) d_Bs_back_40 rfl (by decide) rfl ?_
        refine x_aload_n (i := 0) d_Bs_back_41 rfl rfl ?_
        refine x_getS (f := 95) (b := 8) gl_Bs_39_11 rfl kf_95 rfl (hG.ob oc_0) d_Bs_back_42 ?_
        refine x_aload_n (i := 0) d_Bs_back_45 rfl rfl ?_
        refine x_getS (f := 92) (b := 3) gl_Bs_24_11 rfl kf_92 rfl (hG.ob oc_0) d_Bs_back_46 ?_
        obtain ⟨δ49, eδ49, h⟩ := bd_e h
        refine y_V1v cs_Bs_256 rfl (hG.ob oc_8) (by first | decide | omega) (Nat.le_of_ble_eq_true rfl) d_Bs_back_49 (c_Ru_begin hG 8 3 oc_8 oc_3 δ δ49 eδ49) (Nat.le_refl 0) (Nat.le_refl 0) ?_
        refine x_ic (v := 0) d_Bs_back_52 (by decide) ?_
        refine x_stn (i := 3) (ls' := [some (.inr (0, 0)), some (.inl x1), some (.inl ((δ.1 43 8) - x1)), some (.inl 0)]) d_Bs_back_53 rfl (by decide) rfl ?_
        refine x_wk (ls' := [some (.inr (0, 0)), none, some (.inl ((δ.1 43 8) - x1)), some (.inl 0)]) ⟨Or.inr rfl, Or.inl rfl, Or.inr rfl, Or.inr rfl, trivial⟩ ?_
        exact j_Bs_back_54 hG x1 FU (((δ.1 43 8) - x1)) 0 δ49 r h
      · have h := if_f c25 h
        refine x_bi (v := -2) d_Bs_back_28 (by decide) ?_
        replace h := Option.some.inj h; subst h
        exact x_iret rfl d_Bs_back_30 (Nat.le_refl 0) (Nat.le_refl 0)
  · have h := if_t c7 h
    refine x_bi (v := -3) d_Bs_back_10 (by decide) ?_
    replace h := Option.some.inj h; subst h
    exact x_iret rfl d_Bs_back_12 (Nat.le_refl 0) (Nat.le_refl 0)
-- BlockStage.who(II)I
theorem d_Bs_who_0 : decode M_Bs_who.2.1 0 = .ok (.aload_n 0, 1) := by decide +kernel
theorem d_Bs_who_1 : decode M_Bs_who.2.1 1 = .ok (.invokevirtual 229, 3) := by decide +kernel
theorem d_Bs_who_4 : decode M_Bs_who.2.1 4 = .ok (.iload_n 1, 1) := by decide +kernel
theorem d_Bs_who_5 : decode M_Bs_who.2.1 5 = .ok (.iload_n 2, 1) := by decide +kernel
theorem d_Bs_who_6 : decode M_Bs_who.2.1 6 = .ok (.invokevirtual 265, 3) := by decide +kernel
theorem d_Bs_who_9 : decode M_Bs_who.2.1 9 = .ok (.ireturn, 1) := by decide +kernel
theorem cs_Bs_265 : CV RX11 265 RX9 M_St_actorPart 2 := ⟨(lwg_at 678 (by decide +kernel) rfl), (lwg_at 679 (by decide +kernel) rfl), (lwg_at 680 (by decide +kernel) rfl), mi_St_actorPart⟩
def F_Bs_who (x1 : Int32) (x2 : Int32) (δ : Dl) : Option (Int32) :=
  bnd (F_Bs_shown δ) fun v1 => if v1.1 = 0 ∧ Oc v1.2 9 then (F_St_actorPart v1.2 x1 x2 δ).bind fun v6 => some v6 else none
set_option maxRecDepth 20000 in
set_option maxHeartbeats 4000000 in
theorem c_Bs_who {l : Launch} {Γ : Gm} (hG : GC Γ) (x1 : Int32) (x2 : Int32) (δ : Dl) (r : Int32) (h : F_Bs_who x1 x2  δ = some r) : Ct l M_Bs_who 1 0 0 NF [.inr (0, 0), .inl x1, .inl x2] Γ δ (some (.inl r), Γ, δ) := by
  unfold F_Bs_who at h
  refine Ct.of2 (n := 0) (ls := [some (.inr (0, 0)), some (.inl x1), some (.inl x2)]) rfl (by decide +kernel) (Nat.le_of_ble_eq_true rfl) ?_
  refine x_aload_n (i := 0) d_Bs_who_0 rfl rfl ?_
  obtain ⟨v1, ev1, h⟩ := bn_e h
  refine y_V0 cs_Bs_229 rfl (hG.ob oc_0) (by first | decide | omega) (Nat.le_of_ble_eq_true rfl) d_Bs_who_1 (c_Bs_shown hG   δ v1 ev1) (Nat.le_refl 0) (Nat.le_refl 0) ?_
  refine x_iload_n (i := 1) d_Bs_who_4 rfl rfl ?_
  refine x_iload_n (i := 2) d_Bs_who_5 rfl rfl ?_
  obtain ⟨q6_0, h⟩ := gd_e h
  rw [prod0 q6_0.1]
  obtain ⟨v6, ev6, h⟩ := bd_e h
  refine y_V2 cs_Bs_265 rfl (hG.ob q6_0.2) (by first | decide | omega) (Nat.le_of_ble_eq_true rfl) d_Bs_who_6 (c_St_actorPart hG v1.2 x1 x2 q6_0.2 δ v6 ev6) (Nat.le_refl 0) (Nat.le_refl 0) ?_
  replace h := Option.some.inj h; subst h
  exact x_iret rfl d_Bs_who_9 (Nat.le_refl 0) (Nat.le_refl 0)
-- BlockStage.item(II)I
theorem d_Bs_item_0 : decode M_Bs_item.2.1 0 = .ok (.aload_n 0, 1) := by decide +kernel
theorem d_Bs_item_1 : decode M_Bs_item.2.1 1 = .ok (.invokevirtual 229, 3) := by decide +kernel
theorem d_Bs_item_4 : decode M_Bs_item.2.1 4 = .ok (.iload_n 1, 1) := by decide +kernel
theorem d_Bs_item_5 : decode M_Bs_item.2.1 5 = .ok (.iload_n 2, 1) := by decide +kernel
theorem d_Bs_item_6 : decode M_Bs_item.2.1 6 = .ok (.invokevirtual 268, 3) := by decide +kernel
theorem d_Bs_item_9 : decode M_Bs_item.2.1 9 = .ok (.ireturn, 1) := by decide +kernel
theorem cs_Bs_268 : CV RX11 268 RX9 M_St_itemAt 2 := ⟨(lwg_at 686 (by decide +kernel) rfl), (lwg_at 607 (by decide +kernel) rfl), (lwg_at 608 (by decide +kernel) rfl), mi_St_itemAt⟩
def F_Bs_item (x1 : Int32) (x2 : Int32) (δ : Dl) : Option (Int32) :=
  bnd (F_Bs_shown δ) fun v1 => if v1.1 = 0 ∧ Oc v1.2 9 then (F_St_itemAt v1.2 x1 x2 δ).bind fun v6 => some v6 else none
set_option maxRecDepth 20000 in
set_option maxHeartbeats 4000000 in
theorem c_Bs_item {l : Launch} {Γ : Gm} (hG : GC Γ) (x1 : Int32) (x2 : Int32) (δ : Dl) (r : Int32) (h : F_Bs_item x1 x2  δ = some r) : Ct l M_Bs_item 1 0 0 NF [.inr (0, 0), .inl x1, .inl x2] Γ δ (some (.inl r), Γ, δ) := by
  unfold F_Bs_item at h
  refine Ct.of2 (n := 0) (ls := [some (.inr (0, 0)), some (.inl x1), some (.inl x2)]) rfl (by decide +kernel) (Nat.le_of_ble_eq_true rfl) ?_
  refine x_aload_n (i := 0) d_Bs_item_0 rfl rfl ?_
  obtain ⟨v1, ev1, h⟩ := bn_e h
  refine y_V0 cs_Bs_229 rfl (hG.ob oc_0) (by first | decide | omega) (Nat.le_of_ble_eq_true rfl) d_Bs_item_1 (c_Bs_shown hG   δ v1 ev1) (Nat.le_refl 0) (Nat.le_refl 0) ?_
  refine x_iload_n (i := 1) d_Bs_item_4 rfl rfl ?_
  refine x_iload_n (i := 2) d_Bs_item_5 rfl rfl ?_
  obtain ⟨q6_0, h⟩ := gd_e h
  rw [prod0 q6_0.1]
  obtain ⟨v6, ev6, h⟩ := bd_e h
  refine y_V2 cs_Bs_268 rfl (hG.ob q6_0.2) (by first | decide | omega) (Nat.le_of_ble_eq_true rfl) d_Bs_item_6 (c_St_itemAt hG v1.2 x1 x2 q6_0.2 δ v6 ev6) (Nat.le_refl 0) (Nat.le_refl 0) ?_
  replace h := Option.some.inj h; subst h
  exact x_iret rfl d_Bs_item_9 (Nat.le_refl 0) (Nat.le_refl 0)
-- BlockStage.said(II)I
theorem d_Bs_said_0 : decode M_Bs_said.2.1 0 = .ok (.aload_n 0, 1) := by decide +kernel
theorem d_Bs_said_1 : decode M_Bs_said.2.1 1 = .ok (.getfield 39, 3) := by decide +kernel
theorem d_Bs_said_4 : decode M_Bs_said.2.1 4 = .ok (.getfield 100, 3) := by decide +kernel
theorem d_Bs_said_7 : decode M_Bs_said.2.1 7 = .ok (.ifCond .eq 15, 3) := by decide +kernel
theorem d_Bs_said_10 : decode M_Bs_said.2.1 10 = .ok (.aload_n 0, 1) := by decide +kernel
theorem d_Bs_said_11 : decode M_Bs_said.2.1 11 = .ok (.getfield 39, 3) := by decide +kernel
theorem d_Bs_said_14 : decode M_Bs_said.2.1 14 = .ok (.iload_n 1, 1) := by decide +kernel
theorem d_Bs_said_15 : decode M_Bs_said.2.1 15 = .ok (.iload_n 2, 1) := by decide +kernel
theorem d_Bs_said_16 : decode M_Bs_said.2.1 16 = .ok (.invokevirtual 271, 3) := by decide +kernel
theorem d_Bs_said_19 : decode M_Bs_said.2.1 19 = .ok (.goto 5, 3) := by decide +kernel
theorem d_Bs_said_22 : decode M_Bs_said.2.1 22 = .ok (.ldc 236, 2) := by decide +kernel
theorem d_Bs_said_24 : decode M_Bs_said.2.1 24 = .ok (.ireturn, 1) := by decide +kernel
theorem mi_Ru_sayingPart : MI M_Ru_sayingPart 2 := ⟨(lwg_at 5 (by decide +kernel) rfl), (lwg_at 694 (by decide +kernel) rfl), ⟨by decide +kernel, by decide +kernel⟩, by decide +kernel, by decide⟩
theorem cs_Bs_271 : CV RX11 271 RX5 M_Ru_sayingPart 2 := ⟨(lwg_at 691 (by decide +kernel) rfl), (lwg_at 692 (by decide +kernel) rfl), (lwg_at 693 (by decide +kernel) rfl), mi_Ru_sayingPart⟩
def F_Bs_said (x1 : Int32) (x2 : Int32) (δ : Dl) : Option (Int32) :=
  if (δ.1 42 8) = 0 then (some (-2147483648)) else ((F_Ru_sayingPart 8 x1 x2 δ).bind fun v16 => some v16)
set_option maxRecDepth 20000 in
set_option maxHeartbeats 4000000 in
theorem c_Bs_said {l : Launch} {Γ : Gm} (hG : GC Γ) (x1 : Int32) (x2 : Int32) (δ : Dl) (r : Int32) (h : F_Bs_said x1 x2  δ = some r) : Ct l M_Bs_said 1 0 0 NF [.inr (0, 0), .inl x1, .inl x2] Γ δ (some (.inl r), Γ, δ) := by
  unfold F_Bs_said at h
  refine Ct.of2 (n := 0) (ls := [some (.inr (0, 0)), some (.inl x1), some (.inl x2)]) rfl (by decide +kernel) (Nat.le_of_ble_eq_true rfl) ?_
  refine x_aload_n (i := 0) d_Bs_said_0 rfl rfl ?_
  refine x_getS (f := 95) (b := 8) gl_Bs_39_11 rfl kf_95 rfl (hG.ob oc_0) d_Bs_said_1 ?_
  refine x_getI (f := 42) gl_Bs_100_5 rfl kf_42 (hG.ob oc_8) d_Bs_said_4 ?_
  refine x_if_eq (tgt := 22) d_Bs_said_7 (by decide) (fun c7 => ?_) (fun c7 => ?_)
  · have h := if_t c7 h
    refine x_ldc (v := -2147483648) kc_Bs_236 d_Bs_said_22 ?_
    replace h := Option.some.inj h; subst h
    exact x_iret rfl d_Bs_said_24 (Nat.le_refl 0) (Nat.le_refl 0)
  · have h := if_f c7 h
    refine x_aload_n (i := 0) d_Bs_said_10 rfl rfl ?_
    refine x_getS (f := 95) (b := 8) gl_Bs_39_11 rfl kf_95 rfl (hG.ob oc_0) d_Bs_said_11 ?_
    refine x_iload_n (i := 1) d_Bs_said_14 rfl rfl ?_
    refine x_iload_n (i := 2) d_Bs_said_15 rfl rfl ?_
    obtain ⟨v16, ev16, h⟩ := bd_e h
    refine y_V2 cs_Bs_271 rfl (hG.ob oc_8) (by first | decide | omega) (Nat.le_of_ble_eq_true rfl) d_Bs_said_16 (c_Ru_sayingPart hG 8 x1 x2 oc_8 δ v16 ev16) (Nat.le_refl 0) (Nat.le_refl 0) ?_
    refine x_goto (tgt := 24) d_Bs_said_19 (by decide) ?_
    replace h := Option.some.inj h; subst h
    exact x_iret rfl d_Bs_said_24 (Nat.le_refl 0) (Nat.le_refl 0)
-- BlockStage.feed(II)I
theorem d_Bs_feed_0 : decode M_Bs_feed.2.1 0 = .ok (.iload_n 2, 1) := by decide +kernel
theorem d_Bs_feed_1 : decode M_Bs_feed.2.1 1 = .ok (.ifCond .lt 8, 3) := by decide +kernel
theorem d_Bs_feed_4 : decode M_Bs_feed.2.1 4 = .ok (.iload_n 2, 1) := by decide +kernel
theorem d_Bs_feed_5 : decode M_Bs_feed.2.1 5 = .ok (.iconst 4, 1) := by decide +kernel
theorem d_Bs_feed_6 : decode M_Bs_feed.2.1 6 = .ok (.if_icmp .le 6, 3) := by decide +kernel
theorem d_Bs_feed_9 : decode M_Bs_feed.2.1 9 = .ok (.bipush (-2), 2) := by decide +kernel
theorem d_Bs_feed_11 : decode M_Bs_feed.2.1 11 = .ok (.ireturn, 1) := by decide +kernel
theorem d_Bs_feed_12 : decode M_Bs_feed.2.1 12 = .ok (.aload_n 0, 1) := by decide +kernel
theorem d_Bs_feed_13 : decode M_Bs_feed.2.1 13 = .ok (.getfield 51, 3) := by decide +kernel
theorem d_Bs_feed_16 : decode M_Bs_feed.2.1 16 = .ok (.getfield 274, 3) := by decide +kernel
theorem d_Bs_feed_19 : decode M_Bs_feed.2.1 19 = .ok (.iload_n 2, 1) := by decide +kernel
theorem d_Bs_feed_20 : decode M_Bs_feed.2.1 20 = .ok (.iadd, 1) := by decide +kernel
theorem d_Bs_feed_21 : decode M_Bs_feed.2.1 21 = .ok (.bipush 80, 2) := by decide +kernel
theorem d_Bs_feed_23 : decode M_Bs_feed.2.1 23 = .ok (.if_icmp .le 6, 3) := by decide +kernel
theorem d_Bs_feed_26 : decode M_Bs_feed.2.1 26 = .ok (.bipush (-4), 2) := by decide +kernel
theorem d_Bs_feed_28 : decode M_Bs_feed.2.1 28 = .ok (.ireturn, 1) := by decide +kernel
theorem d_Bs_feed_29 : decode M_Bs_feed.2.1 29 = .ok (.iload_n 2, 1) := by decide +kernel
theorem d_Bs_feed_30 : decode M_Bs_feed.2.1 30 = .ok (.iconst 1, 1) := by decide +kernel
theorem d_Bs_feed_31 : decode M_Bs_feed.2.1 31 = .ok (.isub, 1) := by decide +kernel
theorem d_Bs_feed_32 : decode M_Bs_feed.2.1 32 = .ok (.istore_n 3, 1) := by decide +kernel
theorem d_Bs_feed_33 : decode M_Bs_feed.2.1 33 = .ok (.iload_n 3, 1) := by decide +kernel
theorem d_Bs_feed_34 : decode M_Bs_feed.2.1 34 = .ok (.ifCond .lt 26, 3) := by decide +kernel
theorem d_Bs_feed_37 : decode M_Bs_feed.2.1 37 = .ok (.aload_n 0, 1) := by decide +kernel
theorem d_Bs_feed_38 : decode M_Bs_feed.2.1 38 = .ok (.getfield 51, 3) := by decide +kernel
theorem d_Bs_feed_41 : decode M_Bs_feed.2.1 41 = .ok (.iload_n 1, 1) := by decide +kernel
theorem d_Bs_feed_42 : decode M_Bs_feed.2.1 42 = .ok (.bipush 8, 2) := by decide +kernel
theorem d_Bs_feed_44 : decode M_Bs_feed.2.1 44 = .ok (.iload_n 3, 1) := by decide +kernel
theorem d_Bs_feed_45 : decode M_Bs_feed.2.1 45 = .ok (.imul, 1) := by decide +kernel
theorem d_Bs_feed_46 : decode M_Bs_feed.2.1 46 = .ok (.ishr, 1) := by decide +kernel
theorem d_Bs_feed_47 : decode M_Bs_feed.2.1 47 = .ok (.sipush 255, 3) := by decide +kernel
theorem d_Bs_feed_50 : decode M_Bs_feed.2.1 50 = .ok (.iand, 1) := by decide +kernel
theorem d_Bs_feed_51 : decode M_Bs_feed.2.1 51 = .ok (.invokevirtual 277, 3) := by decide +kernel
theorem d_Bs_feed_54 : decode M_Bs_feed.2.1 54 = .ok (.iinc 3 (-1), 3) := by decide +kernel
theorem d_Bs_feed_57 : decode M_Bs_feed.2.1 57 = .ok (.goto (-24), 3) := by decide +kernel
theorem d_Bs_feed_60 : decode M_Bs_feed.2.1 60 = .ok (.aload_n 0, 1) := by decide +kernel
theorem d_Bs_feed_61 : decode M_Bs_feed.2.1 61 = .ok (.getfield 51, 3) := by decide +kernel
theorem d_Bs_feed_64 : decode M_Bs_feed.2.1 64 = .ok (.getfield 274, 3) := by decide +kernel
theorem d_Bs_feed_67 : decode M_Bs_feed.2.1 67 = .ok (.ireturn, 1) := by decide +kernel
theorem gl_Bs_51_11 : GL RX11 51 11 7 := ⟨RX11, TX11, 18, RX11, rfl, by decide, (lwg_at 242 (by decide +kernel) rfl), Or.inl rfl, gl_w inX11⟩
theorem oc_14 : Oc 14 0 := by decide
theorem gl_Bs_274_0 : GL RX11 274 0 0 := ⟨RX0, TX0, 2, RX0, rfl, by decide, (lwg_at 183 (by decide +kernel) rfl), Or.inl rfl, gl_w inX0⟩
theorem cs_Bs_277 : CV RX11 277 RX0 M_By_add 1 := ⟨(lwg_at 700 (by decide +kernel) rfl), (lwg_at 701 (by decide +kernel) rfl), (lwg_at 702 (by decide +kernel) rfl), mi_By_add⟩
def F_Bs_feed_33_b (x1 : Int32) (x2 : Int32) (k33 : Int32 → Dl → Option (Int32 × Dl)) (x3 : Int32) (δ : Dl) : Option (Int32 × Dl) :=
  if x3 < 0 then (some ((δ.1 10 14), δ)) else ((F_By_add 14 ((x1 >>> ((8 * x3) &&& 31)) &&& 255) δ).bind fun δ51 => k33 ((x3 + (-1))) δ51)
set_option maxRecDepth 20000 in
set_option maxHeartbeats 4000000 in
theorem j_Bs_feed_33_b {l : Launch} {Γ : Gm} (hG : GC Γ) (x1 : Int32) (x2 : Int32) (k33 : Int32 → Dl → Option (Int32 × Dl)) (x3 : Int32) (δ : Dl) (r : Int32 × Dl) (hk33 : ∀ (x3 : Int32) (δ : Dl),  k33 x3 δ = some r → Xe l M_Bs_feed 1 0 0 NF 33 [some (.inr (0, 0)), some (.inl x1), none, some (.inl x3)] [] 0 0 Γ δ (some (.inl r.1), Γ, r.2)) (h : F_Bs_feed_33_b x1 x2 k33 x3 δ = some r) : Xe l M_Bs_feed 1 0 0 NF 33 [some (.inr (0, 0)), some (.inl x1), none, some (.inl x3)] [] 0 0 Γ δ (some (.inl r.1), Γ, r.2) := by
  unfold F_Bs_feed_33_b at h
  refine x_iload_n (i := 3) d_Bs_feed_33 rfl rfl ?_
  refine x_if_lt (tgt := 60) d_Bs_feed_34 (by decide) (fun c34 => ?_) (fun c34 => ?_)
  · have h := if_t c34 h
    refine x_aload_n (i := 0) d_Bs_feed_60 rfl rfl ?_
    refine x_getS (f := 97) (b := 14) gl_Bs_51_11 rfl kf_97 rfl (hG.ob oc_0) d_Bs_feed_61 ?_
    refine x_getI (f := 10) gl_Bs_274_0 rfl kf_10 (hG.ob oc_14) d_Bs_feed_64 ?_
    replace h := Option.some.inj h; subst h
    exact x_iret rfl d_Bs_feed_67 (Nat.le_refl 0) (Nat.le_refl 0)
  · have h := if_f c34 h
    refine x_aload_n (i := 0) d_Bs_feed_37 rfl rfl ?_
    refine x_getS (f := 97) (b := 14) gl_Bs_51_11 rfl kf_97 rfl (hG.ob oc_0) d_Bs_feed_38 ?_
    refine x_iload_n (i := 1) d_Bs_feed_41 rfl rfl ?_
    refine x_bi (v := 8) d_Bs_feed_42 (by decide) ?_
    refine x_iload_n (i := 3) d_Bs_feed_44 rfl rfl ?_
    refine x_imul d_Bs_feed_45 ?_
    refine x_ishr d_Bs_feed_46 ?_
    refine x_si (v := 255) d_Bs_feed_47 (by decide) ?_
    refine x_iand d_Bs_feed_50 ?_
    obtain ⟨δ51, eδ51, h⟩ := bd_e h
    refine y_V1v cs_Bs_277 rfl (hG.ob oc_14) (by first | decide | omega) (Nat.le_of_ble_eq_true rfl) d_Bs_feed_51 (c_By_add hG 14 ((x1 >>> ((8 * x3) &&& 31)) &&& 255) oc_14 δ δ51 eδ51) (Nat.le_refl 0) (Nat.le_refl 0) ?_
    refine x_inc (i := 3) (c0 := -1) (ls' := [some (.inr (0, 0)), some (.inl x1), none, some (.inl (x3 + (-1)))]) d_Bs_feed_54 (by decide) rfl (by decide) rfl ?_
    refine x_goto (tgt := 33) d_Bs_feed_57 (by decide) ?_
    exact hk33 ((x3 + (-1))) δ51 h
def F_Bs_feed_33 (x1 : Int32) (x2 : Int32) : Nat → Int32 → Dl → Option (Int32 × Dl)
  | 0, _, _ => none
  | n + 1, x3, δ => F_Bs_feed_33_b x1 x2 (F_Bs_feed_33 x1 x2 n) x3 δ
theorem j_Bs_feed_33 {l : Launch} {Γ : Gm} (hG : GC Γ) (x1 : Int32) (x2 : Int32) (n : Nat) (x3 : Int32) (δ : Dl) (r : Int32 × Dl) (h : F_Bs_feed_33 x1 x2 n x3 δ = some r) : Xe l M_Bs_feed 1 0 0 NF 33 [some (.inr (0, 0)), some (.inl x1), none, some (.inl x3)] [] 0 0 Γ δ (some (.inl r.1), Γ, r.2) := by
  induction n generalizing x3 δ with
  | zero => cases h
  | succ n ih => exact j_Bs_feed_33_b hG x1 x2 (F_Bs_feed_33 x1 x2 n) x3 δ r (fun x3 δ hh => ih x3 δ hh) h
def F_Bs_feed (x1 : Int32) (x2 : Int32) (δ : Dl) : Option (Int32 × Dl) :=
  if x2 < 0 then (some ((-2), δ)) else (if x2 ≤ 4 then (if ((δ.1 10 14) + x2) ≤ 80 then (F_Bs_feed_33 x1 x2 FU ((x2 - 1)) δ) else (some ((-4), δ))) else (some ((-2), δ)))
set_option maxRecDepth 20000 in
set_option maxHeartbeats 4000000 in
theorem c_Bs_feed {l : Launch} {Γ : Gm} (hG : GC Γ) (x1 : Int32) (x2 : Int32) (δ : Dl) (r : Int32 × Dl) (h : F_Bs_feed x1 x2  δ = some r) : Ct l M_Bs_feed 1 0 0 NF [.inr (0, 0), .inl x1, .inl x2] Γ δ (some (.inl r.1), Γ, r.2) := by
  unfold F_Bs_feed at h
  refine Ct.of2 (n := 1) (ls := [some (.inr (0, 0)), some (.inl x1), some (.inl x2), none]) rfl (by decide +kernel) (Nat.le_of_ble_eq_true rfl) ?_
  refine x_iload_n (i := 2) d_Bs_feed_0 rfl rfl ?_
  refine x_if_lt (tgt := 9) d_Bs_feed_1 (by decide) (fun c1 => ?_) (fun c1 => ?_)
  · have h := if_t c1 h
    refine x_bi (v := -2) d_Bs_feed_9 (by decide) ?_
    replace h := Option.some.inj h; subst h
    exact x_iret rfl d_Bs_feed_11 (Nat.le_refl 0) (Nat.le_refl 0)
  · have h := if_f c1 h
    refine x_iload_n (i := 2) d_Bs_feed_4 rfl rfl ?_
    refine x_ic (v := 4) d_Bs_feed_5 (by decide) ?_
    refine x_cmp_le (tgt := 12) d_Bs_feed_6 (by decide) (fun c6 => ?_) (fun c6 => ?_)
    · have h := if_t c6 h
      refine x_aload_n (i := 0) d_Bs_feed_12 rfl rfl ?_
      refine x_getS (f := 97) (b := 14) gl_Bs_51_11 rfl kf_97 rfl (hG.ob oc_0) d_Bs_feed_13 ?_
      refine x_getI (f := 10) gl_Bs_274_0 rfl kf_10 (hG.ob oc_14) d_Bs_feed_16 ?_
      refine x_iload_n (i := 2) d_Bs_feed_19 rfl rfl ?_
      refine x_iadd d_Bs_feed_20 ?_
      refine x_bi (v := 80) d_Bs_feed_21 (by decide) ?_
      refine x_cmp_le (tgt := 29) d_Bs_feed_23 (by decide) (fun c23 => ?_) (fun c23 => ?_)
      · have h := if_t c23 h
        refine x_iload_n (i := 2) d_Bs_feed_29 rfl rfl ?_
        refine x_ic (v := 1) d_Bs_feed_30 (by decide) ?_
        refine x_isub d_Bs_feed_31 ?_
        refine x_stn (i := 3) (ls' := [some (.inr (0, 0)), some (.inl x1), some (.inl x2), some (.inl (x2 - 1))]) d_Bs_feed_32 rfl (by decide) rfl ?_
        refine x_wk (ls' := [some (.inr (0, 0)), some (.inl x1), none, some (.inl (x2 - 1))]) ⟨Or.inr rfl, Or.inr rfl, Or.inl rfl, Or.inr rfl, trivial⟩ ?_
        exact j_Bs_feed_33 hG x1 x2 FU ((x2 - 1)) δ r h
      · have h := if_f c23 h
        refine x_bi (v := -4) d_Bs_feed_26 (by decide) ?_
        replace h := Option.some.inj h; subst h
        exact x_iret rfl d_Bs_feed_28 (Nat.le_refl 0) (Nat.le_refl 0)
    · have h := if_f c6 h
      refine x_bi (v := -2) d_Bs_feed_9 (by decide) ?_
      replace h := Option.some.inj h; subst h
      exact x_iret rfl d_Bs_feed_11 (Nat.le_refl 0) (Nat.le_refl 0)
-- BlockStage.wish()I
theorem d_Bs_wish_0 : decode M_Bs_wish.2.1 0 = .ok (.aload_n 0, 1) := by decide +kernel
theorem d_Bs_wish_1 : decode M_Bs_wish.2.1 1 = .ok (.getfield 65, 3) := by decide +kernel
theorem d_Bs_wish_4 : decode M_Bs_wish.2.1 4 = .ok (.aload_n 0, 1) := by decide +kernel
theorem d_Bs_wish_5 : decode M_Bs_wish.2.1 5 = .ok (.getfield 51, 3) := by decide +kernel
theorem d_Bs_wish_8 : decode M_Bs_wish.2.1 8 = .ok (.invokevirtual 280, 3) := by decide +kernel
theorem d_Bs_wish_11 : decode M_Bs_wish.2.1 11 = .ok (.istore_n 1, 1) := by decide +kernel
theorem d_Bs_wish_12 : decode M_Bs_wish.2.1 12 = .ok (.aload_n 0, 1) := by decide +kernel
theorem d_Bs_wish_13 : decode M_Bs_wish.2.1 13 = .ok (.getfield 51, 3) := by decide +kernel
theorem d_Bs_wish_16 : decode M_Bs_wish.2.1 16 = .ok (.invokevirtual 284, 3) := by decide +kernel
theorem d_Bs_wish_19 : decode M_Bs_wish.2.1 19 = .ok (.iload_n 1, 1) := by decide +kernel
theorem d_Bs_wish_20 : decode M_Bs_wish.2.1 20 = .ok (.iconst (-1), 1) := by decide +kernel
theorem d_Bs_wish_21 : decode M_Bs_wish.2.1 21 = .ok (.if_icmp .eq 8, 3) := by decide +kernel
theorem d_Bs_wish_24 : decode M_Bs_wish.2.1 24 = .ok (.bipush (-10), 2) := by decide +kernel
theorem d_Bs_wish_26 : decode M_Bs_wish.2.1 26 = .ok (.iload_n 1, 1) := by decide +kernel
theorem d_Bs_wish_27 : decode M_Bs_wish.2.1 27 = .ok (.isub, 1) := by decide +kernel
theorem d_Bs_wish_28 : decode M_Bs_wish.2.1 28 = .ok (.ireturn, 1) := by decide +kernel
theorem d_Bs_wish_29 : decode M_Bs_wish.2.1 29 = .ok (.aload_n 0, 1) := by decide +kernel
theorem d_Bs_wish_30 : decode M_Bs_wish.2.1 30 = .ok (.getfield 61, 3) := by decide +kernel
theorem d_Bs_wish_33 : decode M_Bs_wish.2.1 33 = .ok (.astore_n 2, 1) := by decide +kernel
theorem d_Bs_wish_34 : decode M_Bs_wish.2.1 34 = .ok (.aload_n 0, 1) := by decide +kernel
theorem d_Bs_wish_35 : decode M_Bs_wish.2.1 35 = .ok (.aload_n 0, 1) := by decide +kernel
theorem d_Bs_wish_36 : decode M_Bs_wish.2.1 36 = .ok (.getfield 65, 3) := by decide +kernel
theorem d_Bs_wish_39 : decode M_Bs_wish.2.1 39 = .ok (.putfield 61, 3) := by decide +kernel
theorem d_Bs_wish_42 : decode M_Bs_wish.2.1 42 = .ok (.aload_n 0, 1) := by decide +kernel
theorem d_Bs_wish_43 : decode M_Bs_wish.2.1 43 = .ok (.aload_n 2, 1) := by decide +kernel
theorem d_Bs_wish_44 : decode M_Bs_wish.2.1 44 = .ok (.putfield 65, 3) := by decide +kernel
theorem d_Bs_wish_47 : decode M_Bs_wish.2.1 47 = .ok (.aload_n 0, 1) := by decide +kernel
theorem d_Bs_wish_48 : decode M_Bs_wish.2.1 48 = .ok (.getfield 61, 3) := by decide +kernel
theorem d_Bs_wish_51 : decode M_Bs_wish.2.1 51 = .ok (.getfield 287, 3) := by decide +kernel
theorem d_Bs_wish_54 : decode M_Bs_wish.2.1 54 = .ok (.ireturn, 1) := by decide +kernel
theorem gl_Bs_65_11 : GL RX11 65 11 10 := ⟨RX11, TX11, 18, RX11, rfl, by decide, (lwg_at 245 (by decide +kernel) rfl), Or.inl rfl, gl_w inX11⟩
theorem mi_Wi_read : MI M_Wi_read 1 := ⟨(lwg_at 8 (by decide +kernel) rfl), (lwg_at 711 (by decide +kernel) rfl), ⟨by decide +kernel, by decide +kernel⟩, by decide +kernel, by decide⟩
theorem cs_Bs_280 : CV RX11 280 RX10 M_Wi_read 1 := ⟨(lwg_at 708 (by decide +kernel) rfl), (lwg_at 709 (by decide +kernel) rfl), (lwg_at 710 (by decide +kernel) rfl), mi_Wi_read⟩
theorem mi_By_clear : MI M_By_clear 0 := ⟨(lwg_at 6 (by decide +kernel) rfl), (lwg_at 801 (by decide +kernel) rfl), ⟨by decide +kernel, by decide +kernel⟩, by decide +kernel, by decide⟩
theorem cs_Bs_284 : CV RX11 284 RX0 M_By_clear 0 := ⟨(lwg_at 798 (by decide +kernel) rfl), (lwg_at 799 (by decide +kernel) rfl), (lwg_at 800 (by decide +kernel) rfl), mi_By_clear⟩
theorem gl_Bs_61_11 : GL RX11 61 11 9 := ⟨RX11, TX11, 18, RX11, rfl, by decide, (lwg_at 244 (by decide +kernel) rfl), Or.inl rfl, gl_w inX11⟩
theorem gp_Bs_61_11 : GP RX11 61 11 9 false (.object "BlockStage$Wish") := ⟨RX11, TX11, 18, RX11, tyX11, rfl, by decide, (lwg_at 244 (by decide +kernel) rfl), rfl, gl_w inX11, tyX11_ok, nmX11, rfl, by decide +kernel, fun h => by first | rfl | cases h⟩
theorem gp_Bs_65_11 : GP RX11 65 11 10 false (.object "BlockStage$Wish") := ⟨RX11, TX11, 18, RX11, tyX11, rfl, by decide, (lwg_at 245 (by decide +kernel) rfl), rfl, gl_w inX11, tyX11_ok, nmX11, rfl, by decide +kernel, fun h => by first | rfl | cases h⟩
theorem gl_Bs_287_10 : GL RX11 287 10 0 := ⟨RX10, TX10, 7, RX10, rfl, by decide, (lwg_at 197 (by decide +kernel) rfl), Or.inl rfl, gl_w inX10⟩
def F_Bs_wish (δ : Dl) : Option (Int32 × Dl) :=
  if ((δ.2.2 100 0)).1 = 0 ∧ Oc ((δ.2.2 100 0)).2 10 then bd2 (F_Wi_read ((δ.2.2 100 0)).2 14 δ) fun v8 δ8 => bnd (F_By_clear 14 δ8) fun δ16 => if v8 = (-1) then (bnd (sR δ16 99 0 (δ16.2.2 100 0)) fun δ39 => bnd (sR δ39 100 0 (δ16.2.2 99 0)) fun δ44 => if ((δ44.2.2 99 0)).1 = 0 ∧ Oc ((δ44.2.2 99 0)).2 10 then some ((δ44.1 80 ((δ44.2.2 99 0)).2), δ44) else none) else (some (((-10) - v8), δ16)) else none
set_option maxRecDepth 20000 in
set_option maxHeartbeats 4000000 in
theorem c_Bs_wish {l : Launch} {Γ : Gm} (hG : GC Γ) (δ : Dl) (r : Int32 × Dl) (h : F_Bs_wish  δ = some r) : Ct l M_Bs_wish 8 0 0 NF [.inr (0, 0)] Γ δ (some (.inl r.1), Γ, r.2) := by
  unfold F_Bs_wish at h
  refine Ct.of2 (n := 2) (ls := [some (.inr (0, 0)), none, none]) rfl (by decide +kernel) (Nat.le_of_ble_eq_true rfl) ?_
  refine x_aload_n (i := 0) d_Bs_wish_0 rfl rfl ?_
  refine x_getR (f := 100) gl_Bs_65_11 rfl kf_100 (hG.ob oc_0) d_Bs_wish_1 ?_
  refine x_aload_n (i := 0) d_Bs_wish_4 rfl rfl ?_
  refine x_getS (f := 97) (b := 14) gl_Bs_51_11 rfl kf_97 rfl (hG.ob oc_0) d_Bs_wish_5 ?_
  obtain ⟨q8_0, h⟩ := gd_e h
  rw [prod0 q8_0.1]
  obtain ⟨v8, δ8, eδ8, h⟩ := bd2_e h
  refine y_V1 cs_Bs_280 rfl (hG.ob q8_0.2) (by first | decide | omega) (Nat.le_of_ble_eq_true rfl) d_Bs_wish_8 (c_Wi_read hG ((δ.2.2 100 0)).2 14 q8_0.2 oc_14 δ (v8, δ8) eδ8) (Nat.le_refl 0) (Nat.le_refl 0) ?_
  refine x_stn (i := 1) (ls' := [some (.inr (0, 0)), some (.inl v8), none]) d_Bs_wish_11 rfl (by decide) rfl ?_
  refine x_aload_n (i := 0) d_Bs_wish_12 rfl rfl ?_
  refine x_getS (f := 97) (b := 14) gl_Bs_51_11 rfl kf_97 rfl (hG.ob oc_0) d_Bs_wish_13 ?_
  obtain ⟨δ16, eδ16, h⟩ := bn_e h
  refine y_V0v cs_Bs_284 rfl (hG.ob oc_14) (by first | decide | omega) (Nat.le_of_ble_eq_true rfl) d_Bs_wish_16 (c_By_clear hG 14 oc_14 δ8 δ16 eδ16) (Nat.le_refl 0) (Nat.le_refl 0) ?_
  refine x_iload_n (i := 1) d_Bs_wish_19 rfl rfl ?_
  refine x_ic (v := -1) d_Bs_wish_20 (by decide) ?_
  refine x_cmp_eq (tgt := 29) d_Bs_wish_21 (by decide) (fun c21 => ?_) (fun c21 => ?_)
  · have h := if_t c21 h
    refine x_aload_n (i := 0) d_Bs_wish_29 rfl rfl ?_
    refine x_getR (f := 99) gl_Bs_61_11 rfl kf_99 (hG.ob oc_0) d_Bs_wish_30 ?_
    refine x_asn (i := 2) (ls' := [some (.inr (0, 0)), some (.inl v8), some (.inr (δ16.2.2 99 0))]) d_Bs_wish_33 rfl (by decide) rfl ?_
    refine x_aload_n (i := 0) d_Bs_wish_34 rfl rfl ?_
    refine x_aload_n (i := 0) d_Bs_wish_35 rfl rfl ?_
    refine x_getR (f := 100) gl_Bs_65_11 rfl kf_100 (hG.ob oc_0) d_Bs_wish_36 ?_
    obtain ⟨δ39, eδ39, h⟩ := bn_e h
    refine x_putR (f := 99) gp_Bs_61_11 rfl kf_99 (hG.ob oc_0).1 (hG.ob oc_0).z d_Bs_wish_39 (Xe.cδ eδ39 ?_)
    refine x_aload_n (i := 0) d_Bs_wish_42 rfl rfl ?_
    refine x_aload_n (i := 2) d_Bs_wish_43 rfl rfl ?_
    obtain ⟨δ44, eδ44, h⟩ := bn_e h
    refine x_putR (f := 100) gp_Bs_65_11 rfl kf_100 (hG.ob oc_0).1 (hG.ob oc_0).z d_Bs_wish_44 (Xe.cδ eδ44 ?_)
    refine x_aload_n (i := 0) d_Bs_wish_47 rfl rfl ?_
    refine x_getR (f := 99) gl_Bs_61_11 rfl kf_99 (hG.ob oc_0) d_Bs_wish_48 ?_
    obtain ⟨q51, h⟩ := gd_e h
    rw [prod0 q51.1]
    refine x_getI (f := 80) gl_Bs_287_10 rfl kf_80 (hG.ob q51.2) d_Bs_wish_51 ?_
    replace h := Option.some.inj h; subst h
    exact x_iret rfl d_Bs_wish_54 (Nat.le_refl 0) (Nat.le_refl 0)
  · have h := if_f c21 h
    refine x_bi (v := -10) d_Bs_wish_24 (by decide) ?_
    refine x_iload_n (i := 1) d_Bs_wish_26 rfl rfl ?_
    refine x_isub d_Bs_wish_27 ?_
    replace h := Option.some.inj h; subst h
    exact x_iret rfl d_Bs_wish_28 (Nat.le_refl 0) (Nat.le_refl 0)
-- BlockStage.canMark()Z
theorem d_Bs_canMark_0 : decode M_Bs_canMark.2.1 0 = .ok (.aload_n 0, 1) := by decide +kernel
theorem d_Bs_canMark_1 : decode M_Bs_canMark.2.1 1 = .ok (.getfield 61, 3) := by decide +kernel
theorem d_Bs_canMark_4 : decode M_Bs_canMark.2.1 4 = .ok (.getfield 287, 3) := by decide +kernel
theorem d_Bs_canMark_7 : decode M_Bs_canMark.2.1 7 = .ok (.ifCond .le 14, 3) := by decide +kernel
theorem d_Bs_canMark_10 : decode M_Bs_canMark.2.1 10 = .ok (.aload_n 0, 1) := by decide +kernel
theorem d_Bs_canMark_11 : decode M_Bs_canMark.2.1 11 = .ok (.getfield 32, 3) := by decide +kernel
theorem d_Bs_canMark_14 : decode M_Bs_canMark.2.1 14 = .ok (.ifCond .le 7, 3) := by decide +kernel
theorem d_Bs_canMark_17 : decode M_Bs_canMark.2.1 17 = .ok (.iconst 1, 1) := by decide +kernel
theorem d_Bs_canMark_18 : decode M_Bs_canMark.2.1 18 = .ok (.goto 4, 3) := by decide +kernel
theorem d_Bs_canMark_21 : decode M_Bs_canMark.2.1 21 = .ok (.iconst 0, 1) := by decide +kernel
theorem d_Bs_canMark_22 : decode M_Bs_canMark.2.1 22 = .ok (.ireturn, 1) := by decide +kernel
def F_Bs_canMark (δ : Dl) : Option (Int32) :=
  if ((δ.2.2 99 0)).1 = 0 ∧ Oc ((δ.2.2 99 0)).2 10 then if (δ.1 80 ((δ.2.2 99 0)).2) ≤ 0 then (some 0) else (if (δ.1 94 0) ≤ 0 then (some 0) else (some 1)) else none
set_option maxRecDepth 20000 in
set_option maxHeartbeats 4000000 in
theorem c_Bs_canMark {l : Launch} {Γ : Gm} (hG : GC Γ) (δ : Dl) (r : Int32) (h : F_Bs_canMark  δ = some r) : Ct l M_Bs_canMark 0 0 0 NF [.inr (0, 0)] Γ δ (some (.inl r), Γ, δ) := by
  unfold F_Bs_canMark at h
  refine Ct.of2 (n := 0) (ls := [some (.inr (0, 0))]) rfl (by decide +kernel) (Nat.le_of_ble_eq_true rfl) ?_
  refine x_aload_n (i := 0) d_Bs_canMark_0 rfl rfl ?_
  refine x_getR (f := 99) gl_Bs_61_11 rfl kf_99 (hG.ob oc_0) d_Bs_canMark_1 ?_
  obtain ⟨q4, h⟩ := gd_e h
  rw [prod0 q4.1]
  refine x_getI (f := 80) gl_Bs_287_10 rfl kf_80 (hG.ob q4.2) d_Bs_canMark_4 ?_
  refine x_if_le (tgt := 21) d_Bs_canMark_7 (by decide) (fun c7 => ?_) (fun c7 => ?_)
  · have h := if_t c7 h
    refine x_ic (v := 0) d_Bs_canMark_21 (by decide) ?_
    replace h := Option.some.inj h; subst h
    exact x_nret rfl rfl d_Bs_canMark_22 (Nat.le_refl 0) (Nat.le_refl 0)
  · have h := if_f c7 h
    refine x_aload_n (i := 0) d_Bs_canMark_10 rfl rfl ?_
    refine x_getI (f := 94) gl_Bs_32_11 rfl kf_94 (hG.ob oc_0) d_Bs_canMark_11 ?_
    refine x_if_le (tgt := 21) d_Bs_canMark_14 (by decide) (fun c14 => ?_) (fun c14 => ?_)
    · have h := if_t c14 h
      refine x_ic (v := 0) d_Bs_canMark_21 (by decide) ?_
      replace h := Option.some.inj h; subst h
      exact x_nret rfl rfl d_Bs_canMark_22 (Nat.le_refl 0) (Nat.le_refl 0)
    · have h := if_f c14 h
      refine x_ic (v := 1) d_Bs_canMark_17 (by decide) ?_
      refine x_goto (tgt := 22) d_Bs_canMark_18 (by decide) ?_
      replace h := Option.some.inj h; subst h
      exact x_nret rfl rfl d_Bs_canMark_22 (Nat.le_refl 0) (Nat.le_refl 0)
-- BlockStage.mark(I)I
theorem d_Bs_mark_0 : decode M_Bs_mark.2.1 0 = .ok (.iload_n 1, 1) := by decide +kernel
theorem d_Bs_mark_1 : decode M_Bs_mark.2.1 1 = .ok (.iconst 1, 1) := by decide +kernel
theorem d_Bs_mark_2 : decode M_Bs_mark.2.1 2 = .ok (.if_icmp .lt 9, 3) := by decide +kernel
theorem d_Bs_mark_5 : decode M_Bs_mark.2.1 5 = .ok (.iload_n 1, 1) := by decide +kernel
theorem d_Bs_mark_6 : decode M_Bs_mark.2.1 6 = .ok (.bipush 40, 2) := by decide +kernel
theorem d_Bs_mark_8 : decode M_Bs_mark.2.1 8 = .ok (.if_icmp .le 6, 3) := by decide +kernel
theorem d_Bs_mark_11 : decode M_Bs_mark.2.1 11 = .ok (.bipush (-2), 2) := by decide +kernel
theorem d_Bs_mark_13 : decode M_Bs_mark.2.1 13 = .ok (.ireturn, 1) := by decide +kernel
theorem d_Bs_mark_14 : decode M_Bs_mark.2.1 14 = .ok (.aload_n 0, 1) := by decide +kernel
theorem d_Bs_mark_15 : decode M_Bs_mark.2.1 15 = .ok (.invokevirtual 290, 3) := by decide +kernel
theorem d_Bs_mark_18 : decode M_Bs_mark.2.1 18 = .ok (.ifCond .ne 6, 3) := by decide +kernel
theorem d_Bs_mark_21 : decode M_Bs_mark.2.1 21 = .ok (.bipush (-3), 2) := by decide +kernel
theorem d_Bs_mark_23 : decode M_Bs_mark.2.1 23 = .ok (.ireturn, 1) := by decide +kernel
theorem d_Bs_mark_24 : decode M_Bs_mark.2.1 24 = .ok (.aload_n 0, 1) := by decide +kernel
theorem d_Bs_mark_25 : decode M_Bs_mark.2.1 25 = .ok (.getfield 43, 3) := by decide +kernel
theorem d_Bs_mark_28 : decode M_Bs_mark.2.1 28 = .ok (.getfield 252, 3) := by decide +kernel
theorem d_Bs_mark_31 : decode M_Bs_mark.2.1 31 = .ok (.aload_n 0, 1) := by decide +kernel
theorem d_Bs_mark_32 : decode M_Bs_mark.2.1 32 = .ok (.getfield 14, 3) := by decide +kernel
theorem d_Bs_mark_35 : decode M_Bs_mark.2.1 35 = .ok (.invokevirtual 253, 3) := by decide +kernel
theorem d_Bs_mark_38 : decode M_Bs_mark.2.1 38 = .ok (.aload_n 0, 1) := by decide +kernel
theorem d_Bs_mark_39 : decode M_Bs_mark.2.1 39 = .ok (.iconst 1, 1) := by decide +kernel
theorem d_Bs_mark_40 : decode M_Bs_mark.2.1 40 = .ok (.putfield 79, 3) := by decide +kernel
theorem d_Bs_mark_43 : decode M_Bs_mark.2.1 43 = .ok (.aload_n 0, 1) := by decide +kernel
theorem d_Bs_mark_44 : decode M_Bs_mark.2.1 44 = .ok (.iconst (-1), 1) := by decide +kernel
theorem d_Bs_mark_45 : decode M_Bs_mark.2.1 45 = .ok (.putfield 83, 3) := by decide +kernel
theorem d_Bs_mark_48 : decode M_Bs_mark.2.1 48 = .ok (.aload_n 0, 1) := by decide +kernel
theorem d_Bs_mark_49 : decode M_Bs_mark.2.1 49 = .ok (.iconst (-1), 1) := by decide +kernel
theorem d_Bs_mark_50 : decode M_Bs_mark.2.1 50 = .ok (.putfield 86, 3) := by decide +kernel
theorem d_Bs_mark_53 : decode M_Bs_mark.2.1 53 = .ok (.iconst 0, 1) := by decide +kernel
theorem d_Bs_mark_54 : decode M_Bs_mark.2.1 54 = .ok (.istore_n 2, 1) := by decide +kernel
theorem d_Bs_mark_55 : decode M_Bs_mark.2.1 55 = .ok (.iload_n 2, 1) := by decide +kernel
theorem d_Bs_mark_56 : decode M_Bs_mark.2.1 56 = .ok (.aload_n 0, 1) := by decide +kernel
theorem d_Bs_mark_57 : decode M_Bs_mark.2.1 57 = .ok (.getfield 32, 3) := by decide +kernel
theorem d_Bs_mark_60 : decode M_Bs_mark.2.1 60 = .ok (.if_icmp .ge 57, 3) := by decide +kernel
theorem d_Bs_mark_63 : decode M_Bs_mark.2.1 63 = .ok (.aload_n 0, 1) := by decide +kernel
theorem d_Bs_mark_64 : decode M_Bs_mark.2.1 64 = .ok (.iload_n 2, 1) := by decide +kernel
theorem d_Bs_mark_65 : decode M_Bs_mark.2.1 65 = .ok (.invokevirtual 158, 3) := by decide +kernel
theorem d_Bs_mark_68 : decode M_Bs_mark.2.1 68 = .ok (.astore_n 3, 1) := by decide +kernel
theorem d_Bs_mark_69 : decode M_Bs_mark.2.1 69 = .ok (.aload_n 3, 1) := by decide +kernel
theorem d_Bs_mark_70 : decode M_Bs_mark.2.1 70 = .ok (.ifnonnull 7, 3) := by decide +kernel
theorem d_Bs_mark_73 : decode M_Bs_mark.2.1 73 = .ok (.iconst (-1), 1) := by decide +kernel
theorem d_Bs_mark_74 : decode M_Bs_mark.2.1 74 = .ok (.goto 16, 3) := by decide +kernel
theorem d_Bs_mark_77 : decode M_Bs_mark.2.1 77 = .ok (.aload_n 0, 1) := by decide +kernel
theorem d_Bs_mark_78 : decode M_Bs_mark.2.1 78 = .ok (.getfield 61, 3) := by decide +kernel
theorem d_Bs_mark_81 : decode M_Bs_mark.2.1 81 = .ok (.aload_n 0, 1) := by decide +kernel
theorem d_Bs_mark_82 : decode M_Bs_mark.2.1 82 = .ok (.getfield 43, 3) := by decide +kernel
theorem d_Bs_mark_85 : decode M_Bs_mark.2.1 85 = .ok (.aload_n 3, 1) := by decide +kernel
theorem d_Bs_mark_86 : decode M_Bs_mark.2.1 86 = .ok (.iload_n 1, 1) := by decide +kernel
theorem d_Bs_mark_87 : decode M_Bs_mark.2.1 87 = .ok (.invokevirtual 294, 3) := by decide +kernel
theorem d_Bs_mark_90 : decode M_Bs_mark.2.1 90 = .ok (.istore 4, 2) := by decide +kernel
theorem d_Bs_mark_92 : decode M_Bs_mark.2.1 92 = .ok (.iload 4, 2) := by decide +kernel
theorem d_Bs_mark_94 : decode M_Bs_mark.2.1 94 = .ok (.iconst (-1), 1) := by decide +kernel
theorem d_Bs_mark_95 : decode M_Bs_mark.2.1 95 = .ok (.if_icmp .eq 16, 3) := by decide +kernel
theorem d_Bs_mark_98 : decode M_Bs_mark.2.1 98 = .ok (.aload_n 0, 1) := by decide +kernel
theorem d_Bs_mark_99 : decode M_Bs_mark.2.1 99 = .ok (.iload_n 2, 1) := by decide +kernel
theorem d_Bs_mark_100 : decode M_Bs_mark.2.1 100 = .ok (.putfield 83, 3) := by decide +kernel
theorem d_Bs_mark_103 : decode M_Bs_mark.2.1 103 = .ok (.aload_n 0, 1) := by decide +kernel
theorem d_Bs_mark_104 : decode M_Bs_mark.2.1 104 = .ok (.iload 4, 2) := by decide +kernel
theorem d_Bs_mark_106 : decode M_Bs_mark.2.1 106 = .ok (.putfield 86, 3) := by decide +kernel
theorem d_Bs_mark_109 : decode M_Bs_mark.2.1 109 = .ok (.iconst 0, 1) := by decide +kernel
theorem d_Bs_mark_110 : decode M_Bs_mark.2.1 110 = .ok (.ireturn, 1) := by decide +kernel
theorem d_Bs_mark_111 : decode M_Bs_mark.2.1 111 = .ok (.iinc 2 1, 3) := by decide +kernel
theorem d_Bs_mark_114 : decode M_Bs_mark.2.1 114 = .ok (.goto (-59), 3) := by decide +kernel
theorem d_Bs_mark_117 : decode M_Bs_mark.2.1 117 = .ok (.iconst 1, 1) := by decide +kernel
theorem d_Bs_mark_118 : decode M_Bs_mark.2.1 118 = .ok (.ireturn, 1) := by decide +kernel
theorem mi_Bs_canMark : MI M_Bs_canMark 0 := ⟨(lwg_at 1 (by decide +kernel) rfl), (lwg_at 810 (by decide +kernel) rfl), ⟨by decide +kernel, by decide +kernel⟩, by decide +kernel, by decide⟩
theorem cs_Bs_290 : CV RX11 290 RX11 M_Bs_canMark 0 := ⟨(lwg_at 807 (by decide +kernel) rfl), (lwg_at 809 (by decide +kernel) rfl), (lwg_priv 15 (y := M_Bs_canMark.1) (n := 18) (by decide +kernel)), mi_Bs_canMark⟩
theorem gl_Bs_43_11 : GL RX11 43 11 6 := ⟨RX11, TX11, 18, RX11, rfl, by decide, (lwg_at 241 (by decide +kernel) rfl), Or.inl rfl, gl_w inX11⟩
theorem oc_11 : Oc 11 5 := by decide
theorem oc_12 : Oc 12 3 := by decide
theorem gp_Bs_79_11 : GP RX11 79 11 13 false .boolean := ⟨RX11, TX11, 18, RX11, tyX11, rfl, by decide, (lwg_at 248 (by decide +kernel) rfl), rfl, gl_w inX11, tyX11_ok, nmX11, rfl, by decide +kernel, fun h => by first | rfl | cases h⟩
theorem gp_Bs_83_11 : GP RX11 83 11 14 false .int := ⟨RX11, TX11, 18, RX11, tyX11, rfl, by decide, (lwg_at 249 (by decide +kernel) rfl), rfl, gl_w inX11, tyX11_ok, nmX11, rfl, by decide +kernel, fun h => by first | rfl | cases h⟩
theorem gp_Bs_86_11 : GP RX11 86 11 15 false .int := ⟨RX11, TX11, 18, RX11, tyX11, rfl, by decide, (lwg_at 250 (by decide +kernel) rfl), rfl, gl_w inX11, tyX11_ok, nmX11, rfl, by decide +kernel, fun h => by first | rfl | cases h⟩
theorem mi_Wi_lostIn : MI M_Wi_lostIn 3 := ⟨(lwg_at 8 (by decide +kernel) rfl), (lwg_at 814 (by decide +kernel) rfl), ⟨by decide +kernel, by decide +kernel⟩, by decide +kernel, by decide⟩
theorem cs_Bs_294 : CV RX11 294 RX10 M_Wi_lostIn 3 := ⟨(lwg_at 811 (by decide +kernel) rfl), (lwg_at 812 (by decide +kernel) rfl), (lwg_at 813 (by decide +kernel) rfl), mi_Wi_lostIn⟩
def F_Bs_mark_90 (x1 : Int32) (k55 : Int32 → Dl → Option (Int32 × Dl)) (x2 : Int32) (s0 : Int32) (δ : Dl) : Option (Int32 × Dl) :=
  if s0 = (-1) then (k55 ((x2 + 1)) δ) else (bnd (sI δ 104 0 x2) fun δ100 => bnd (sI δ100 105 0 s0) fun δ106 => some (0, δ106))
set_option maxRecDepth 20000 in
set_option maxHeartbeats 4000000 in
theorem j_Bs_mark_90 {l : Launch} {Γ : Gm} (hG : GC Γ) (x1 : Int32) (k55 : Int32 → Dl → Option (Int32 × Dl)) (x2 : Int32) (s0 : Int32) (δ : Dl) (r : Int32 × Dl) (hk55 : ∀ (x2 : Int32) (δ : Dl),  k55 x2 δ = some r → Xe l M_Bs_mark 44 0 0 NF 55 [some (.inr (0, 0)), some (.inl x1), some (.inl x2), none, none] [] 0 0 Γ δ (some (.inl r.1), Γ, r.2)) (h : F_Bs_mark_90 x1 k55 x2 s0 δ = some r) : Xe l M_Bs_mark 44 0 0 NF 90 [some (.inr (0, 0)), some (.inl x1), some (.inl x2), none, none] [.inl s0] 0 0 Γ δ (some (.inl r.1), Γ, r.2) := by
  unfold F_Bs_mark_90 at h
  refine x_stw (i := 4) (ls' := [some (.inr (0, 0)), some (.inl x1), some (.inl x2), none, some (.inl s0)]) d_Bs_mark_90 (by decide) rfl ?_
  refine x_iload (i := 4) d_Bs_mark_92 rfl ?_
  refine x_ic (v := -1) d_Bs_mark_94 (by decide) ?_
  refine x_cmp_eq (tgt := 111) d_Bs_mark_95 (by decide) (fun c95 => ?_) (fun c95 => ?_)
  · have h := if_t c95 h
    refine x_inc (i := 2) (c0 := 1) (ls' := [some (.inr (0, 0)), some (.inl x1), some (.inl (x2 + 1)), none, some (.inl s0)]) d_Bs_mark_111 (by decide) rfl (by decide) rfl ?_
    refine x_goto (tgt := 55) d_Bs_mark_114 (by decide) ?_
    refine x_wk (ls' := [some (.inr (0, 0)), some (.inl x1), some (.inl (x2 + 1)), none, none]) ⟨Or.inr rfl, Or.inr rfl, Or.inr rfl, Or.inl rfl, Or.inl rfl, trivial⟩ ?_
    exact hk55 ((x2 + 1)) δ h
  · have h := if_f c95 h
    refine x_aload_n (i := 0) d_Bs_mark_98 rfl rfl ?_
    refine x_iload_n (i := 2) d_Bs_mark_99 rfl rfl ?_
    obtain ⟨δ100, eδ100, h⟩ := bn_e h
    refine x_putI (f := 104) gp_Bs_83_11 rfl kf_104 (fun h => by cases h) rfl rfl (hG.ob oc_0).1 (hG.ob oc_0).z d_Bs_mark_100 (Xe.cδ eδ100 ?_)
    refine x_aload_n (i := 0) d_Bs_mark_103 rfl rfl ?_
    refine x_iload (i := 4) d_Bs_mark_104 rfl ?_
    obtain ⟨δ106, eδ106, h⟩ := bn_e h
    refine x_putI (f := 105) gp_Bs_86_11 rfl kf_105 (fun h => by cases h) rfl rfl (hG.ob oc_0).1 (hG.ob oc_0).z d_Bs_mark_106 (Xe.cδ eδ106 ?_)
    refine x_ic (v := 0) d_Bs_mark_109 (by decide) ?_
    replace h := Option.some.inj h; subst h
    exact x_iret rfl d_Bs_mark_110 (Nat.le_refl 0) (Nat.le_refl 0)
def F_Bs_mark_55_b (x1 : Int32) (k55 : Int32 → Dl → Option (Int32 × Dl)) (x2 : Int32) (δ : Dl) : Option (Int32 × Dl) :=
  if (δ.1 94 0) ≤ x2 then (some (1, δ)) else ((F_Bs_keptAt x2 δ).bind fun v65 => if v65.1 = 1 then (F_Bs_mark_90 x1 k55 x2 (-1) δ) else (if ((δ.2.2 99 0)).1 = 0 ∧ Oc ((δ.2.2 99 0)).2 10 then if v65.1 = 0 ∧ Oc v65.2 9 then bd2 (F_Wi_lostIn ((δ.2.2 99 0)).2 11 v65.2 x1 δ) fun v87 δ87 => F_Bs_mark_90 x1 k55 x2 v87 δ87 else none else none))
set_option maxRecDepth 20000 in
set_option maxHeartbeats 4000000 in
theorem j_Bs_mark_55_b {l : Launch} {Γ : Gm} (hG : GC Γ) (x1 : Int32) (k55 : Int32 → Dl → Option (Int32 × Dl)) (x2 : Int32) (δ : Dl) (r : Int32 × Dl) (hk55 : ∀ (x2 : Int32) (δ : Dl),  k55 x2 δ = some r → Xe l M_Bs_mark 44 0 0 NF 55 [some (.inr (0, 0)), some (.inl x1), some (.inl x2), none, none] [] 0 0 Γ δ (some (.inl r.1), Γ, r.2)) (h : F_Bs_mark_55_b x1 k55 x2 δ = some r) : Xe l M_Bs_mark 44 0 0 NF 55 [some (.inr (0, 0)), some (.inl x1), some (.inl x2), none, none] [] 0 0 Γ δ (some (.inl r.1), Γ, r.2) := by
  unfold F_Bs_mark_55_b at h
  refine x_iload_n (i := 2) d_Bs_mark_55 rfl rfl ?_
  refine x_aload_n (i := 0) d_Bs_mark_56 rfl rfl ?_
  refine x_getI (f := 94) gl_Bs_32_11 rfl kf_94 (hG.ob oc_0) d_Bs_mark_57 ?_
  refine x_cmp_ge (tgt := 117) d_Bs_mark_60 (by decide) (fun c60 => ?_) (fun c60 => ?_)
  · have h := if_t c60 h
    refine x_ic (v := 1) d_Bs_mark_117 (by decide) ?_
    replace h := Option.some.inj h; subst h
    exact x_iret rfl d_Bs_mark_118 (Nat.le_refl 0) (Nat.le_refl 0)
  · have h := if_f c60 h
    refine x_aload_n (i := 0) d_Bs_mark_63 rfl rfl ?_
    refine x_iload_n (i := 2) d_Bs_mark_64 rfl rfl ?_
    obtain ⟨v65, ev65, h⟩ := bd_e h
    refine y_V1 cs_Bs_158 rfl (hG.ob oc_0) (by first | decide | omega) (Nat.le_of_ble_eq_true rfl) d_Bs_mark_65 (c_Bs_keptAt hG x2  δ v65 ev65) (Nat.le_refl 0) (Nat.le_refl 0) ?_
    refine x_asn (i := 3) (ls' := [some (.inr (0, 0)), some (.inl x1), some (.inl x2), some (.inr v65), none]) d_Bs_mark_68 rfl (by decide) rfl ?_
    refine x_aload_n (i := 3) d_Bs_mark_69 rfl rfl ?_
    refine x_ifnonnull (tgt := 77) d_Bs_mark_70 (by decide) (fun c70 => ?_) (fun c70 => ?_)
    · have h := if_f c70 h
      refine x_aload_n (i := 0) d_Bs_mark_77 rfl rfl ?_
      refine x_getR (f := 99) gl_Bs_61_11 rfl kf_99 (hG.ob oc_0) d_Bs_mark_78 ?_
      refine x_aload_n (i := 0) d_Bs_mark_81 rfl rfl ?_
      refine x_getS (f := 96) (b := 11) gl_Bs_43_11 rfl kf_96 rfl (hG.ob oc_0) d_Bs_mark_82 ?_
      refine x_aload_n (i := 3) d_Bs_mark_85 rfl rfl ?_
      refine x_iload_n (i := 1) d_Bs_mark_86 rfl rfl ?_
      obtain ⟨q87_0, h⟩ := gd_e h
      rw [prod0 q87_0.1]
      obtain ⟨q87_2, h⟩ := gd_e h
      rw [prod0 q87_2.1]
      obtain ⟨v87, δ87, eδ87, h⟩ := bd2_e h
      refine y_V3 cs_Bs_294 rfl (hG.ob q87_0.2) (by first | decide | omega) (Nat.le_of_ble_eq_true rfl) d_Bs_mark_87 (c_Wi_lostIn hG ((δ.2.2 99 0)).2 11 v65.2 x1 q87_0.2 oc_11 q87_2.2 δ (v87, δ87) eδ87) (Nat.le_refl 0) (Nat.le_refl 0) ?_
      refine x_wk (ls' := [some (.inr (0, 0)), some (.inl x1), some (.inl x2), none, none]) ⟨Or.inr rfl, Or.inr rfl, Or.inr rfl, Or.inl rfl, Or.inl rfl, trivial⟩ ?_
      exact j_Bs_mark_90 hG x1 k55 x2 v87 δ87 r hk55 h
    · have h := if_t (Decidable.not_not.mp c70) h
      refine x_ic (v := -1) d_Bs_mark_73 (by decide) ?_
      refine x_goto (tgt := 90) d_Bs_mark_74 (by decide) ?_
      refine x_wk (ls' := [some (.inr (0, 0)), some (.inl x1), some (.inl x2), none, none]) ⟨Or.inr rfl, Or.inr rfl, Or.inr rfl, Or.inl rfl, Or.inl rfl, trivial⟩ ?_
      exact j_Bs_mark_90 hG x1 k55 x2 (-1) δ r hk55 h
def F_Bs_mark_55 (x1 : Int32) : Nat → Int32 → Dl → Option (Int32 × Dl)
  | 0, _, _ => none
  | n + 1, x2, δ => F_Bs_mark_55_b x1 (F_Bs_mark_55 x1 n) x2 δ
theorem j_Bs_mark_55 {l : Launch} {Γ : Gm} (hG : GC Γ) (x1 : Int32) (n : Nat) (x2 : Int32) (δ : Dl) (r : Int32 × Dl) (h : F_Bs_mark_55 x1 n x2 δ = some r) : Xe l M_Bs_mark 44 0 0 NF 55 [some (.inr (0, 0)), some (.inl x1), some (.inl x2), none, none] [] 0 0 Γ δ (some (.inl r.1), Γ, r.2) := by
  induction n generalizing x2 δ with
  | zero => cases h
  | succ n ih => exact j_Bs_mark_55_b hG x1 (F_Bs_mark_55 x1 n) x2 δ r (fun x2 δ hh => ih x2 δ hh) h
def F_Bs_mark (x1 : Int32) (δ : Dl) : Option (Int32 × Dl) :=
  if x1 < 1 then (some ((-2), δ)) else (if x1 ≤ 40 then ((F_Bs_canMark δ).bind fun v15 => if v15 = 0 then (some ((-3), δ)) else ((F_Pr_copyFrom 12 1 δ).bind fun δ35 => bnd (sI δ35 103 0 1) fun δ40 => bnd (sI δ40 104 0 (-1)) fun δ45 => bnd (sI δ45 105 0 (-1)) fun δ50 => F_Bs_mark_55 x1 FU 0 δ50)) else (some ((-2), δ)))
set_option maxRecDepth 20000 in
set_option maxHeartbeats 4000000 in
theorem c_Bs_mark {l : Launch} {Γ : Gm} (hG : GC Γ) (x1 : Int32) (δ : Dl) (r : Int32 × Dl) (h : F_Bs_mark x1  δ = some r) : Ct l M_Bs_mark 44 0 0 NF [.inr (0, 0), .inl x1] Γ δ (some (.inl r.1), Γ, r.2) := by
  unfold F_Bs_mark at h
  refine Ct.of2 (n := 3) (ls := [some (.inr (0, 0)), some (.inl x1), none, none, none]) rfl (by decide +kernel) (Nat.le_of_ble_eq_true rfl) ?_
  refine x_iload_n (i := 1) d_Bs_mark_0 rfl rfl ?_
  refine x_ic (v := 1) d_Bs_mark_1 (by decide) ?_
  refine x_cmp_lt (tgt := 11) d_Bs_mark_2 (by decide) (fun c2 => ?_) (fun c2 => ?_)
  · have h := if_t c2 h
    refine x_bi (v := -2) d_Bs_mark_11 (by decide) ?_
    replace h := Option.some.inj h; subst h
    exact x_iret rfl d_Bs_mark_13 (Nat.le_refl 0) (Nat.le_refl 0)
  · have h := if_f c2 h
    refine x_iload_n (i := 1) d_Bs_mark_5 rfl rfl ?_
    refine x_bi (v := 40) d_Bs_mark_6 (by decide) ?_
    refine x_cmp_le (tgt := 14) d_Bs_mark_8 (by decide) (fun c8 => ?_) (fun c8 => ?_)
    · have h := if_t c8 h
      refine x_aload_n (i := 0) d_Bs_mark_14 rfl rfl ?_
      obtain ⟨v15, ev15, h⟩ := bd_e h
      refine y_V0 cs_Bs_290 rfl (hG.ob oc_0) (by first | decide | omega) (Nat.le_of_ble_eq_true rfl) d_Bs_mark_15 (c_Bs_canMark hG   δ v15 ev15) (Nat.le_refl 0) (Nat.le_refl 0) ?_
      refine x_if_ne (tgt := 24) d_Bs_mark_18 (by decide) (fun c18 => ?_) (fun c18 => ?_)
      · have h := if_f c18 h
        refine x_aload_n (i := 0) d_Bs_mark_24 rfl rfl ?_
        refine x_getS (f := 96) (b := 11) gl_Bs_43_11 rfl kf_96 rfl (hG.ob oc_0) d_Bs_mark_25 ?_
        refine x_getS (f := 40) (b := 12) gl_Bs_252_5 rfl kf_40 rfl (hG.ob oc_11) d_Bs_mark_28 ?_
        refine x_aload_n (i := 0) d_Bs_mark_31 rfl rfl ?_
        refine x_getS (f := 90) (b := 1) gl_Bs_14_11 rfl kf_90 rfl (hG.ob oc_0) d_Bs_mark_32 ?_
        obtain ⟨δ35, eδ35, h⟩ := bd_e h
        refine y_V1v cs_Bs_253 rfl (hG.ob oc_12) (by first | decide | omega) (Nat.le_of_ble_eq_true rfl) d_Bs_mark_35 (c_Pr_copyFrom hG 12 1 oc_12 oc_1 δ δ35 eδ35) (Nat.le_refl 0) (Nat.le_refl 0) ?_
        refine x_aload_n (i := 0) d_Bs_mark_38 rfl rfl ?_
        refine x_ic (v := 1) d_Bs_mark_39 (by decide) ?_
        obtain ⟨δ40, eδ40, h⟩ := bn_e h
        refine x_putI (f := 103) gp_Bs_79_11 rfl kf_103 (fun h => by cases h) rfl rfl (hG.ob oc_0).1 (hG.ob oc_0).z d_Bs_mark_40 (Xe.cδ eδ40 ?_)
        refine x_aload_n (i := 0) d_Bs_mark_43 rfl rfl ?_
        refine x_ic (v := -1) d_Bs_mark_44 (by decide) ?_
        obtain ⟨δ45, eδ45, h⟩ := bn_e h
        refine x_putI (f := 104) gp_Bs_83_11 rfl kf_104 (fun h => by cases h) rfl rfl (hG.ob oc_0).1 (hG.ob oc_0).z d_Bs_mark_45 (Xe.cδ eδ45 ?_)
        refine x_aload_n (i := 0) d_Bs_mark_48 rfl rfl ?_
        refine x_ic (v := -1) d_Bs_mark_49 (by decide) ?_
        obtain ⟨δ50, eδ50, h⟩ := bn_e h
        refine x_putI (f := 105) gp_Bs_86_11 rfl kf_105 (fun h => by cases h) rfl rfl (hG.ob oc_0).1 (hG.ob oc_0).z d_Bs_mark_50 (Xe.cδ eδ50 ?_)
        refine x_ic (v := 0) d_Bs_mark_53 (by decide) ?_
        refine x_stn (i := 2) (ls' := [some (.inr (0, 0)), some (.inl x1), some (.inl 0), none, none]) d_Bs_mark_54 rfl (by decide) rfl ?_
        exact j_Bs_mark_55 hG x1 FU 0 δ50 r h
      · have h := if_t c18 h
        refine x_bi (v := -3) d_Bs_mark_21 (by decide) ?_
        replace h := Option.some.inj h; subst h
        exact x_iret rfl d_Bs_mark_23 (Nat.le_refl 0) (Nat.le_refl 0)
    · have h := if_f c8 h
      refine x_bi (v := -2) d_Bs_mark_11 (by decide) ?_
      replace h := Option.some.inj h; subst h
      exact x_iret rfl d_Bs_mark_13 (Nat.le_refl 0) (Nat.le_refl 0)
-- BlockStage.fails(I)I
theorem d_Bs_fails_0 : decode M_Bs_fails.2.1 0 = .ok (.aload_n 0, 1) := by decide +kernel
theorem d_Bs_fails_1 : decode M_Bs_fails.2.1 1 = .ok (.getfield 79, 3) := by decide +kernel
theorem d_Bs_fails_4 : decode M_Bs_fails.2.1 4 = .ok (.ifCond .ne 6, 3) := by decide +kernel
theorem d_Bs_fails_7 : decode M_Bs_fails.2.1 7 = .ok (.bipush (-3), 2) := by decide +kernel
theorem d_Bs_fails_9 : decode M_Bs_fails.2.1 9 = .ok (.ireturn, 1) := by decide +kernel
theorem d_Bs_fails_10 : decode M_Bs_fails.2.1 10 = .ok (.iload_n 1, 1) := by decide +kernel
theorem d_Bs_fails_11 : decode M_Bs_fails.2.1 11 = .ok (.ifCond .ne 8, 3) := by decide +kernel
theorem d_Bs_fails_14 : decode M_Bs_fails.2.1 14 = .ok (.aload_n 0, 1) := by decide +kernel
theorem d_Bs_fails_15 : decode M_Bs_fails.2.1 15 = .ok (.getfield 83, 3) := by decide +kernel
theorem d_Bs_fails_18 : decode M_Bs_fails.2.1 18 = .ok (.ireturn, 1) := by decide +kernel
theorem d_Bs_fails_19 : decode M_Bs_fails.2.1 19 = .ok (.iload_n 1, 1) := by decide +kernel
theorem d_Bs_fails_20 : decode M_Bs_fails.2.1 20 = .ok (.iconst 1, 1) := by decide +kernel
theorem d_Bs_fails_21 : decode M_Bs_fails.2.1 21 = .ok (.if_icmp .ne 8, 3) := by decide +kernel
theorem d_Bs_fails_24 : decode M_Bs_fails.2.1 24 = .ok (.aload_n 0, 1) := by decide +kernel
theorem d_Bs_fails_25 : decode M_Bs_fails.2.1 25 = .ok (.getfield 86, 3) := by decide +kernel
theorem d_Bs_fails_28 : decode M_Bs_fails.2.1 28 = .ok (.ireturn, 1) := by decide +kernel
theorem d_Bs_fails_29 : decode M_Bs_fails.2.1 29 = .ok (.bipush (-2), 2) := by decide +kernel
theorem d_Bs_fails_31 : decode M_Bs_fails.2.1 31 = .ok (.ireturn, 1) := by decide +kernel
theorem gl_Bs_79_11 : GL RX11 79 11 13 := ⟨RX11, TX11, 18, RX11, rfl, by decide, (lwg_at 248 (by decide +kernel) rfl), Or.inl rfl, gl_w inX11⟩
theorem gl_Bs_86_11 : GL RX11 86 11 15 := ⟨RX11, TX11, 18, RX11, rfl, by decide, (lwg_at 250 (by decide +kernel) rfl), Or.inl rfl, gl_w inX11⟩
theorem gl_Bs_83_11 : GL RX11 83 11 14 := ⟨RX11, TX11, 18, RX11, rfl, by decide, (lwg_at 249 (by decide +kernel) rfl), Or.inl rfl, gl_w inX11⟩
def F_Bs_fails (x1 : Int32) (δ : Dl) : Int32 :=
  if (δ.1 103 0) = 0 then (-3) else (if x1 = 0 then ((δ.1 104 0)) else (if x1 = 1 then ((δ.1 105 0)) else (-2)))
set_option maxRecDepth 20000 in
set_option maxHeartbeats 4000000 in
theorem c_Bs_fails {l : Launch} {Γ : Gm} (hG : GC Γ) (x1 : Int32) (δ : Dl) (r : Int32) (h : F_Bs_fails x1  δ = r) : Ct l M_Bs_fails 0 0 0 NF [.inr (0, 0), .inl x1] Γ δ (some (.inl r), Γ, δ) := by
  unfold F_Bs_fails at h
  refine Ct.of2 (n := 0) (ls := [some (.inr (0, 0)), some (.inl x1)]) rfl (by decide +kernel) (Nat.le_of_ble_eq_true rfl) ?_
  refine x_aload_n (i := 0) d_Bs_fails_0 rfl rfl ?_
  refine x_getI (f := 103) gl_Bs_79_11 rfl kf_103 (hG.ob oc_0) d_Bs_fails_1 ?_
  refine x_if_ne (tgt := 10) d_Bs_fails_4 (by decide) (fun c4 => ?_) (fun c4 => ?_)
  · have h := if_f c4 h
    refine x_iload_n (i := 1) d_Bs_fails_10 rfl rfl ?_
    refine x_if_ne (tgt := 19) d_Bs_fails_11 (by decide) (fun c11 => ?_) (fun c11 => ?_)
    · have h := if_f c11 h
      refine x_iload_n (i := 1) d_Bs_fails_19 rfl rfl ?_
      refine x_ic (v := 1) d_Bs_fails_20 (by decide) ?_
      refine x_cmp_ne (tgt := 29) d_Bs_fails_21 (by decide) (fun c21 => ?_) (fun c21 => ?_)
      · have h := if_f c21 h
        refine x_bi (v := -2) d_Bs_fails_29 (by decide) ?_
        subst h
        exact x_iret rfl d_Bs_fails_31 (Nat.le_refl 0) (Nat.le_refl 0)
      · have h := if_t c21 h
        refine x_aload_n (i := 0) d_Bs_fails_24 rfl rfl ?_
        refine x_getI (f := 105) gl_Bs_86_11 rfl kf_105 (hG.ob oc_0) d_Bs_fails_25 ?_
        subst h
        exact x_iret rfl d_Bs_fails_28 (Nat.le_refl 0) (Nat.le_refl 0)
    · have h := if_t c11 h
      refine x_aload_n (i := 0) d_Bs_fails_14 rfl rfl ?_
      refine x_getI (f := 104) gl_Bs_83_11 rfl kf_104 (hG.ob oc_0) d_Bs_fails_15 ?_
      subst h
      exact x_iret rfl d_Bs_fails_18 (Nat.le_refl 0) (Nat.le_refl 0)
  · have h := if_t c4 h
    refine x_bi (v := -3) d_Bs_fails_7 (by decide) ?_
    subst h
    exact x_iret rfl d_Bs_fails_9 (Nat.le_refl 0) (Nat.le_refl 0)
-- BlockStage.isRight(I)Z
theorem d_Bs_isRight_0 : decode M_Bs_isRight.2.1 0 = .ok (.iconst 0, 1) := by decide +kernel
theorem d_Bs_isRight_1 : decode M_Bs_isRight.2.1 1 = .ok (.istore_n 2, 1) := by decide +kernel
theorem d_Bs_isRight_2 : decode M_Bs_isRight.2.1 2 = .ok (.iload_n 2, 1) := by decide +kernel
theorem d_Bs_isRight_3 : decode M_Bs_isRight.2.1 3 = .ok (.aload_n 0, 1) := by decide +kernel
theorem d_Bs_isRight_4 : decode M_Bs_isRight.2.1 4 = .ok (.getfield 32, 3) := by decide +kernel
theorem d_Bs_isRight_7 : decode M_Bs_isRight.2.1 7 = .ok (.if_icmp .ge 38, 3) := by decide +kernel
theorem d_Bs_isRight_10 : decode M_Bs_isRight.2.1 10 = .ok (.aload_n 0, 1) := by decide +kernel
theorem d_Bs_isRight_11 : decode M_Bs_isRight.2.1 11 = .ok (.iload_n 2, 1) := by decide +kernel
theorem d_Bs_isRight_12 : decode M_Bs_isRight.2.1 12 = .ok (.invokevirtual 158, 3) := by decide +kernel
theorem d_Bs_isRight_15 : decode M_Bs_isRight.2.1 15 = .ok (.astore_n 3, 1) := by decide +kernel
theorem d_Bs_isRight_16 : decode M_Bs_isRight.2.1 16 = .ok (.aload_n 3, 1) := by decide +kernel
theorem d_Bs_isRight_17 : decode M_Bs_isRight.2.1 17 = .ok (.ifnull 22, 3) := by decide +kernel
theorem d_Bs_isRight_20 : decode M_Bs_isRight.2.1 20 = .ok (.aload_n 0, 1) := by decide +kernel
theorem d_Bs_isRight_21 : decode M_Bs_isRight.2.1 21 = .ok (.getfield 61, 3) := by decide +kernel
theorem d_Bs_isRight_24 : decode M_Bs_isRight.2.1 24 = .ok (.aload_n 0, 1) := by decide +kernel
theorem d_Bs_isRight_25 : decode M_Bs_isRight.2.1 25 = .ok (.getfield 43, 3) := by decide +kernel
theorem d_Bs_isRight_28 : decode M_Bs_isRight.2.1 28 = .ok (.aload_n 3, 1) := by decide +kernel
theorem d_Bs_isRight_29 : decode M_Bs_isRight.2.1 29 = .ok (.iload_n 1, 1) := by decide +kernel
theorem d_Bs_isRight_30 : decode M_Bs_isRight.2.1 30 = .ok (.invokevirtual 294, 3) := by decide +kernel
theorem d_Bs_isRight_33 : decode M_Bs_isRight.2.1 33 = .ok (.iconst (-1), 1) := by decide +kernel
theorem d_Bs_isRight_34 : decode M_Bs_isRight.2.1 34 = .ok (.if_icmp .eq 5, 3) := by decide +kernel
theorem d_Bs_isRight_37 : decode M_Bs_isRight.2.1 37 = .ok (.iconst 0, 1) := by decide +kernel
theorem d_Bs_isRight_38 : decode M_Bs_isRight.2.1 38 = .ok (.ireturn, 1) := by decide +kernel
theorem d_Bs_isRight_39 : decode M_Bs_isRight.2.1 39 = .ok (.iinc 2 1, 3) := by decide +kernel
theorem d_Bs_isRight_42 : decode M_Bs_isRight.2.1 42 = .ok (.goto (-40), 3) := by decide +kernel
theorem d_Bs_isRight_45 : decode M_Bs_isRight.2.1 45 = .ok (.iconst 1, 1) := by decide +kernel
theorem d_Bs_isRight_46 : decode M_Bs_isRight.2.1 46 = .ok (.ireturn, 1) := by decide +kernel
def F_Bs_isRight_39 (x1 : Int32) (k2 : Int32 → Dl → Option (Int32 × Dl)) (x2 : Int32) (δ : Dl) : Option (Int32 × Dl) :=
  k2 ((x2 + 1)) δ
set_option maxRecDepth 20000 in
set_option maxHeartbeats 4000000 in
theorem j_Bs_isRight_39 {l : Launch} {Γ : Gm} (hG : GC Γ) (x1 : Int32) (k2 : Int32 → Dl → Option (Int32 × Dl)) (x2 : Int32) (δ : Dl) (r : Int32 × Dl) (hk2 : ∀ (x2 : Int32) (δ : Dl),  k2 x2 δ = some r → Xe l M_Bs_isRight 44 0 0 NF 2 [some (.inr (0, 0)), some (.inl x1), some (.inl x2), none] [] 0 0 Γ δ (some (.inl r.1), Γ, r.2)) (h : F_Bs_isRight_39 x1 k2 x2 δ = some r) : Xe l M_Bs_isRight 44 0 0 NF 39 [some (.inr (0, 0)), some (.inl x1), some (.inl x2), none] [] 0 0 Γ δ (some (.inl r.1), Γ, r.2) := by
  unfold F_Bs_isRight_39 at h
  refine x_inc (i := 2) (c0 := 1) (ls' := [some (.inr (0, 0)), some (.inl x1), some (.inl (x2 + 1)), none]) d_Bs_isRight_39 (by decide) rfl (by decide) rfl ?_
  refine x_goto (tgt := 2) d_Bs_isRight_42 (by decide) ?_
  exact hk2 ((x2 + 1)) δ h
def F_Bs_isRight_2_b (x1 : Int32) (k2 : Int32 → Dl → Option (Int32 × Dl)) (x2 : Int32) (δ : Dl) : Option (Int32 × Dl) :=
  if (δ.1 94 0) ≤ x2 then (some (1, δ)) else ((F_Bs_keptAt x2 δ).bind fun v12 => if v12.1 = 1 then (F_Bs_isRight_39 x1 k2 x2 δ) else (if ((δ.2.2 99 0)).1 = 0 ∧ Oc ((δ.2.2 99 0)).2 10 then if v12.1 = 0 ∧ Oc v12.2 9 then bd2 (F_Wi_lostIn ((δ.2.2 99 0)).2 11 v12.2 x1 δ) fun v30 δ30 => if v30 = (-1) then (F_Bs_isRight_39 x1 k2 x2 δ30) else (some (0, δ30)) else none else none))
set_option maxRecDepth 20000 in
set_option maxHeartbeats 4000000 in
theorem j_Bs_isRight_2_b {l : Launch} {Γ : Gm} (hG : GC Γ) (x1 : Int32) (k2 : Int32 → Dl → Option (Int32 × Dl)) (x2 : Int32) (δ : Dl) (r : Int32 × Dl) (hk2 : ∀ (x2 : Int32) (δ : Dl),  k2 x2 δ = some r → Xe l M_Bs_isRight 44 0 0 NF 2 [some (.inr (0, 0)), some (.inl x1), some (.inl x2), none] [] 0 0 Γ δ (some (.inl r.1), Γ, r.2)) (h : F_Bs_isRight_2_b x1 k2 x2 δ = some r) : Xe l M_Bs_isRight 44 0 0 NF 2 [some (.inr (0, 0)), some (.inl x1), some (.inl x2), none] [] 0 0 Γ δ (some (.inl r.1), Γ, r.2) := by
  unfold F_Bs_isRight_2_b at h
  refine x_iload_n (i := 2) d_Bs_isRight_2 rfl rfl ?_
  refine x_aload_n (i := 0) d_Bs_isRight_3 rfl rfl ?_
  refine x_getI (f := 94) gl_Bs_32_11 rfl kf_94 (hG.ob oc_0) d_Bs_isRight_4 ?_
  refine x_cmp_ge (tgt := 45) d_Bs_isRight_7 (by decide) (fun c7 => ?_) (fun c7 => ?_)
  · have h := if_t c7 h
    refine x_ic (v := 1) d_Bs_isRight_45 (by decide) ?_
    replace h := Option.some.inj h; subst h
    exact x_nret rfl rfl d_Bs_isRight_46 (Nat.le_refl 0) (Nat.le_refl 0)
  · have h := if_f c7 h
    refine x_aload_n (i := 0) d_Bs_isRight_10 rfl rfl ?_
    refine x_iload_n (i := 2) d_Bs_isRight_11 rfl rfl ?_
    obtain ⟨v12, ev12, h⟩ := bd_e h
    refine y_V1 cs_Bs_158 rfl (hG.ob oc_0) (by first | decide | omega) (Nat.le_of_ble_eq_true rfl) d_Bs_isRight_12 (c_Bs_keptAt hG x2  δ v12 ev12) (Nat.le_refl 0) (Nat.le_refl 0) ?_
    refine x_asn (i := 3) (ls' := [some (.inr (0, 0)), some (.inl x1), some (.inl x2), some (.inr v12)]) d_Bs_isRight_15 rfl (by decide) rfl ?_
    refine x_aload_n (i := 3) d_Bs_isRight_16 rfl rfl ?_
    refine x_ifnull (tgt := 39) d_Bs_isRight_17 (by decide) (fun c17 => ?_) (fun c17 => ?_)
    · have h := if_t c17 h
      refine x_wk (ls' := [some (.inr (0, 0)), some (.inl x1), some (.inl x2), none]) ⟨Or.inr rfl, Or.inr rfl, Or.inr rfl, Or.inl rfl, trivial⟩ ?_
      exact j_Bs_isRight_39 hG x1 k2 x2 δ r hk2 h
    · have h := if_f c17 h
      refine x_aload_n (i := 0) d_Bs_isRight_20 rfl rfl ?_
      refine x_getR (f := 99) gl_Bs_61_11 rfl kf_99 (hG.ob oc_0) d_Bs_isRight_21 ?_
      refine x_aload_n (i := 0) d_Bs_isRight_24 rfl rfl ?_
      refine x_getS (f := 96) (b := 11) gl_Bs_43_11 rfl kf_96 rfl (hG.ob oc_0) d_Bs_isRight_25 ?_
      refine x_aload_n (i := 3) d_Bs_isRight_28 rfl rfl ?_
      refine x_iload_n (i := 1) d_Bs_isRight_29 rfl rfl ?_
      obtain ⟨q30_0, h⟩ := gd_e h
      rw [prod0 q30_0.1]
      obtain ⟨q30_2, h⟩ := gd_e h
      rw [prod0 q30_2.1]
      obtain ⟨v30, δ30, eδ30, h⟩ := bd2_e h
      refine y_V3 cs_Bs_294 rfl (hG.ob q30_0.2) (by first | decide | omega) (Nat.le_of_ble_eq_true rfl) d_Bs_isRight_30 (c_Wi_lostIn hG ((δ.2.2 99 0)).2 11 v12.2 x1 q30_0.2 oc_11 q30_2.2 δ (v30, δ30) eδ30) (Nat.le_refl 0) (Nat.le_refl 0) ?_
      refine x_ic (v := -1) d_Bs_isRight_33 (by decide) ?_
      refine x_cmp_eq (tgt := 39) d_Bs_isRight_34 (by decide) (fun c34 => ?_) (fun c34 => ?_)
      · have h := if_t c34 h
        refine x_wk (ls' := [some (.inr (0, 0)), some (.inl x1), some (.inl x2), none]) ⟨Or.inr rfl, Or.inr rfl, Or.inr rfl, Or.inl rfl, trivial⟩ ?_
        exact j_Bs_isRight_39 hG x1 k2 x2 δ30 r hk2 h
      · have h := if_f c34 h
        refine x_ic (v := 0) d_Bs_isRight_37 (by decide) ?_
        replace h := Option.some.inj h; subst h
        exact x_nret rfl rfl d_Bs_isRight_38 (Nat.le_refl 0) (Nat.le_refl 0)
def F_Bs_isRight_2 (x1 : Int32) : Nat → Int32 → Dl → Option (Int32 × Dl)
  | 0, _, _ => none
  | n + 1, x2, δ => F_Bs_isRight_2_b x1 (F_Bs_isRight_2 x1 n) x2 δ
theorem j_Bs_isRight_2 {l : Launch} {Γ : Gm} (hG : GC Γ) (x1 : Int32) (n : Nat) (x2 : Int32) (δ : Dl) (r : Int32 × Dl) (h : F_Bs_isRight_2 x1 n x2 δ = some r) : Xe l M_Bs_isRight 44 0 0 NF 2 [some (.inr (0, 0)), some (.inl x1), some (.inl x2), none] [] 0 0 Γ δ (some (.inl r.1), Γ, r.2) := by
  induction n generalizing x2 δ with
  | zero => cases h
  | succ n ih => exact j_Bs_isRight_2_b hG x1 (F_Bs_isRight_2 x1 n) x2 δ r (fun x2 δ hh => ih x2 δ hh) h
def F_Bs_isRight (x1 : Int32) (δ : Dl) : Option (Int32 × Dl) :=
  F_Bs_isRight_2 x1 FU 0 δ
set_option maxRecDepth 20000 in
set_option maxHeartbeats 4000000 in
theorem c_Bs_isRight {l : Launch} {Γ : Gm} (hG : GC Γ) (x1 : Int32) (δ : Dl) (r : Int32 × Dl) (h : F_Bs_isRight x1  δ = some r) : Ct l M_Bs_isRight 44 0 0 NF [.inr (0, 0), .inl x1] Γ δ (some (.inl r.1), Γ, r.2) := by
  unfold F_Bs_isRight at h
  refine Ct.of2 (n := 2) (ls := [some (.inr (0, 0)), some (.inl x1), none, none]) rfl (by decide +kernel) (Nat.le_of_ble_eq_true rfl) ?_
  refine x_ic (v := 0) d_Bs_isRight_0 (by decide) ?_
  refine x_stn (i := 2) (ls' := [some (.inr (0, 0)), some (.inl x1), some (.inl 0), none]) d_Bs_isRight_1 rfl (by decide) rfl ?_
  exact j_Bs_isRight_2 hG x1 FU 0 δ r h
-- BlockStage.setHint(II)V
theorem d_Bs_setHint_0 : decode M_Bs_setHint.2.1 0 = .ok (.iload_n 1, 1) := by decide +kernel
theorem d_Bs_setHint_1 : decode M_Bs_setHint.2.1 1 = .ok (.ifCond .lt 16, 3) := by decide +kernel
theorem d_Bs_setHint_4 : decode M_Bs_setHint.2.1 4 = .ok (.iconst 2, 1) := by decide +kernel
theorem d_Bs_setHint_5 : decode M_Bs_setHint.2.1 5 = .ok (.iload_n 1, 1) := by decide +kernel
theorem d_Bs_setHint_6 : decode M_Bs_setHint.2.1 6 = .ok (.imul, 1) := by decide +kernel
theorem d_Bs_setHint_7 : decode M_Bs_setHint.2.1 7 = .ok (.iconst 1, 1) := by decide +kernel
theorem d_Bs_setHint_8 : decode M_Bs_setHint.2.1 8 = .ok (.iadd, 1) := by decide +kernel
theorem d_Bs_setHint_9 : decode M_Bs_setHint.2.1 9 = .ok (.aload_n 0, 1) := by decide +kernel
theorem d_Bs_setHint_10 : decode M_Bs_setHint.2.1 10 = .ok (.getfield 89, 3) := by decide +kernel
theorem d_Bs_setHint_13 : decode M_Bs_setHint.2.1 13 = .ok (.arraylength, 1) := by decide +kernel
theorem d_Bs_setHint_14 : decode M_Bs_setHint.2.1 14 = .ok (.if_icmp .lt 4, 3) := by decide +kernel
theorem d_Bs_setHint_17 : decode M_Bs_setHint.2.1 17 = .ok (.return_, 1) := by decide +kernel
theorem d_Bs_setHint_18 : decode M_Bs_setHint.2.1 18 = .ok (.aload_n 0, 1) := by decide +kernel
theorem d_Bs_setHint_19 : decode M_Bs_setHint.2.1 19 = .ok (.getfield 89, 3) := by decide +kernel
theorem d_Bs_setHint_22 : decode M_Bs_setHint.2.1 22 = .ok (.iconst 2, 1) := by decide +kernel
theorem d_Bs_setHint_23 : decode M_Bs_setHint.2.1 23 = .ok (.iload_n 1, 1) := by decide +kernel
theorem d_Bs_setHint_24 : decode M_Bs_setHint.2.1 24 = .ok (.imul, 1) := by decide +kernel
theorem d_Bs_setHint_25 : decode M_Bs_setHint.2.1 25 = .ok (.iload_n 2, 1) := by decide +kernel
theorem d_Bs_setHint_26 : decode M_Bs_setHint.2.1 26 = .ok (.iconst 4, 1) := by decide +kernel
theorem d_Bs_setHint_27 : decode M_Bs_setHint.2.1 27 = .ok (.idiv, 1) := by decide +kernel
theorem d_Bs_setHint_28 : decode M_Bs_setHint.2.1 28 = .ok (.iastore, 1) := by decide +kernel
theorem d_Bs_setHint_29 : decode M_Bs_setHint.2.1 29 = .ok (.aload_n 0, 1) := by decide +kernel
theorem d_Bs_setHint_30 : decode M_Bs_setHint.2.1 30 = .ok (.getfield 89, 3) := by decide +kernel
theorem d_Bs_setHint_33 : decode M_Bs_setHint.2.1 33 = .ok (.iconst 2, 1) := by decide +kernel
theorem d_Bs_setHint_34 : decode M_Bs_setHint.2.1 34 = .ok (.iload_n 1, 1) := by decide +kernel
theorem d_Bs_setHint_35 : decode M_Bs_setHint.2.1 35 = .ok (.imul, 1) := by decide +kernel
theorem d_Bs_setHint_36 : decode M_Bs_setHint.2.1 36 = .ok (.iconst 1, 1) := by decide +kernel
theorem d_Bs_setHint_37 : decode M_Bs_setHint.2.1 37 = .ok (.iadd, 1) := by decide +kernel
theorem d_Bs_setHint_38 : decode M_Bs_setHint.2.1 38 = .ok (.iload_n 2, 1) := by decide +kernel
theorem d_Bs_setHint_39 : decode M_Bs_setHint.2.1 39 = .ok (.iconst 4, 1) := by decide +kernel
theorem d_Bs_setHint_40 : decode M_Bs_setHint.2.1 40 = .ok (.irem, 1) := by decide +kernel
theorem d_Bs_setHint_41 : decode M_Bs_setHint.2.1 41 = .ok (.iastore, 1) := by decide +kernel
theorem d_Bs_setHint_42 : decode M_Bs_setHint.2.1 42 = .ok (.return_, 1) := by decide +kernel
theorem gl_Bs_89_11 : GL RX11 89 11 16 := ⟨RX11, TX11, 18, RX11, rfl, by decide, (lwg_at 251 (by decide +kernel) rfl), Or.inl rfl, gl_w inX11⟩
def F_Bs_setHint (x1 : Int32) (x2 : Int32) (δ : Dl) : Option (Dl) :=
  if x1 < 0 then (some δ) else (if ((2 * x1) + 1) < 4 then (if inb (2 * x1) 4 then bnd (sA δ 106 0 (2 * x1) (x2 / 4)) fun δ28 => if inb ((2 * x1) + 1) 4 then bnd (sA δ28 106 0 ((2 * x1) + 1) (x2 - x2 / 4 * 4)) fun δ41 => some δ41 else none else none) else (some δ))
set_option maxRecDepth 20000 in
set_option maxHeartbeats 4000000 in
theorem c_Bs_setHint {l : Launch} {Γ : Gm} (hG : GC Γ) (x1 : Int32) (x2 : Int32) (δ : Dl) (r : Dl) (h : F_Bs_setHint x1 x2  δ = some r) : Ct l M_Bs_setHint 0 0 0 NF [.inr (0, 0), .inl x1, .inl x2] Γ δ (none, Γ, r) := by
  unfold F_Bs_setHint at h
  refine Ct.of2 (n := 0) (ls := [some (.inr (0, 0)), some (.inl x1), some (.inl x2)]) rfl (by decide +kernel) (Nat.le_of_ble_eq_true rfl) ?_
  refine x_iload_n (i := 1) d_Bs_setHint_0 rfl rfl ?_
  refine x_if_lt (tgt := 17) d_Bs_setHint_1 (by decide) (fun c1 => ?_) (fun c1 => ?_)
  · have h := if_t c1 h
    replace h := Option.some.inj h; subst h
    exact x_vret rfl d_Bs_setHint_17 (Nat.le_refl 0) (Nat.le_refl 0)
  · have h := if_f c1 h
    refine x_ic (v := 2) d_Bs_setHint_4 (by decide) ?_
    refine x_iload_n (i := 1) d_Bs_setHint_5 rfl rfl ?_
    refine x_imul d_Bs_setHint_6 ?_
    refine x_ic (v := 1) d_Bs_setHint_7 (by decide) ?_
    refine x_iadd d_Bs_setHint_8 ?_
    refine x_aload_n (i := 0) d_Bs_setHint_9 rfl rfl ?_
    refine x_getA (f := 106) gl_Bs_89_11 rfl (by rw [kf_106]; decide) (hG.ob oc_0) d_Bs_setHint_10 ?_
    refine x_alen (n := 4) (Or.inl kf_106) (oz_106 (hG.ob oc_0)) (lo_106 _) d_Bs_setHint_13 ?_
    refine x_cmp_lt (tgt := 18) d_Bs_setHint_14 (by decide) (fun c14 => ?_) (fun c14 => ?_)
    · have h := if_t c14 h
      refine x_aload_n (i := 0) d_Bs_setHint_18 rfl rfl ?_
      refine x_getA (f := 106) gl_Bs_89_11 rfl (by rw [kf_106]; decide) (hG.ob oc_0) d_Bs_setHint_19 ?_
      refine x_ic (v := 2) d_Bs_setHint_22 (by decide) ?_
      refine x_iload_n (i := 1) d_Bs_setHint_23 rfl rfl ?_
      refine x_imul d_Bs_setHint_24 ?_
      refine x_iload_n (i := 2) d_Bs_setHint_25 rfl rfl ?_
      refine x_ic (v := 4) d_Bs_setHint_26 (by decide) ?_
      refine x_idiv d_Bs_setHint_27 (by decide) ?_
      obtain ⟨g28, h⟩ := gd_e h
      obtain ⟨δ28, eδ28, h⟩ := bn_e h
      refine x_iast (n := 4) kf_106 (oz_106 (hG.ob oc_0)) (ln_106 _) g28 d_Bs_setHint_28 (Xe.cδ eδ28 ?_)
      refine x_aload_n (i := 0) d_Bs_setHint_29 rfl rfl ?_
      refine x_getA (f := 106) gl_Bs_89_11 rfl (by rw [kf_106]; decide) (hG.ob oc_0) d_Bs_setHint_30 ?_
      refine x_ic (v := 2) d_Bs_setHint_33 (by decide) ?_
      refine x_iload_n (i := 1) d_Bs_setHint_34 rfl rfl ?_
      refine x_imul d_Bs_setHint_35 ?_
      refine x_ic (v := 1) d_Bs_setHint_36 (by decide) ?_
      refine x_iadd d_Bs_setHint_37 ?_
      refine x_iload_n (i := 2) d_Bs_setHint_38 rfl rfl ?_
      refine x_ic (v := 4) d_Bs_setHint_39 (by decide) ?_
      refine x_irem d_Bs_setHint_40 (by decide) ?_
      obtain ⟨g41, h⟩ := gd_e h
      obtain ⟨δ41, eδ41, h⟩ := bn_e h
      refine x_iast (n := 4) kf_106 (oz_106 (hG.ob oc_0)) (ln_106 _) g41 d_Bs_setHint_41 (Xe.cδ eδ41 ?_)
      replace h := Option.some.inj h; subst h
      exact x_vret rfl d_Bs_setHint_42 (Nat.le_refl 0) (Nat.le_refl 0)
    · have h := if_f c14 h
      replace h := Option.some.inj h; subst h
      exact x_vret rfl d_Bs_setHint_17 (Nat.le_refl 0) (Nat.le_refl 0)
-- BlockStage.isRightByOne(I)Z
theorem d_Bs_isRightByOne_0 : decode M_Bs_isRightByOne.2.1 0 = .ok (.aload_n 0, 1) := by decide +kernel
theorem d_Bs_isRightByOne_1 : decode M_Bs_isRightByOne.2.1 1 = .ok (.getfield 14, 3) := by decide +kernel
theorem d_Bs_isRightByOne_4 : decode M_Bs_isRightByOne.2.1 4 = .ok (.getfield 165, 3) := by decide +kernel
theorem d_Bs_isRightByOne_7 : decode M_Bs_isRightByOne.2.1 7 = .ok (.iconst 4, 1) := by decide +kernel
theorem d_Bs_isRightByOne_8 : decode M_Bs_isRightByOne.2.1 8 = .ok (.imul, 1) := by decide +kernel
theorem d_Bs_isRightByOne_9 : decode M_Bs_isRightByOne.2.1 9 = .ok (.istore_n 2, 1) := by decide +kernel
theorem d_Bs_isRightByOne_10 : decode M_Bs_isRightByOne.2.1 10 = .ok (.iconst 0, 1) := by decide +kernel
theorem d_Bs_isRightByOne_11 : decode M_Bs_isRightByOne.2.1 11 = .ok (.istore_n 3, 1) := by decide +kernel
theorem d_Bs_isRightByOne_12 : decode M_Bs_isRightByOne.2.1 12 = .ok (.iload_n 3, 1) := by decide +kernel
theorem d_Bs_isRightByOne_13 : decode M_Bs_isRightByOne.2.1 13 = .ok (.iload_n 2, 1) := by decide +kernel
theorem d_Bs_isRightByOne_14 : decode M_Bs_isRightByOne.2.1 14 = .ok (.if_icmp .ge 63, 3) := by decide +kernel
theorem d_Bs_isRightByOne_17 : decode M_Bs_isRightByOne.2.1 17 = .ok (.aload_n 0, 1) := by decide +kernel
theorem d_Bs_isRightByOne_18 : decode M_Bs_isRightByOne.2.1 18 = .ok (.getfield 43, 3) := by decide +kernel
theorem d_Bs_isRightByOne_21 : decode M_Bs_isRightByOne.2.1 21 = .ok (.getfield 252, 3) := by decide +kernel
theorem d_Bs_isRightByOne_24 : decode M_Bs_isRightByOne.2.1 24 = .ok (.aload_n 0, 1) := by decide +kernel
theorem d_Bs_isRightByOne_25 : decode M_Bs_isRightByOne.2.1 25 = .ok (.getfield 14, 3) := by decide +kernel
theorem d_Bs_isRightByOne_28 : decode M_Bs_isRightByOne.2.1 28 = .ok (.invokevirtual 253, 3) := by decide +kernel
theorem d_Bs_isRightByOne_31 : decode M_Bs_isRightByOne.2.1 31 = .ok (.aload_n 0, 1) := by decide +kernel
theorem d_Bs_isRightByOne_32 : decode M_Bs_isRightByOne.2.1 32 = .ok (.getfield 43, 3) := by decide +kernel
theorem d_Bs_isRightByOne_35 : decode M_Bs_isRightByOne.2.1 35 = .ok (.getfield 252, 3) := by decide +kernel
theorem d_Bs_isRightByOne_38 : decode M_Bs_isRightByOne.2.1 38 = .ok (.iload_n 3, 1) := by decide +kernel
theorem d_Bs_isRightByOne_39 : decode M_Bs_isRightByOne.2.1 39 = .ok (.iconst 4, 1) := by decide +kernel
theorem d_Bs_isRightByOne_40 : decode M_Bs_isRightByOne.2.1 40 = .ok (.idiv, 1) := by decide +kernel
theorem d_Bs_isRightByOne_41 : decode M_Bs_isRightByOne.2.1 41 = .ok (.iload_n 3, 1) := by decide +kernel
theorem d_Bs_isRightByOne_42 : decode M_Bs_isRightByOne.2.1 42 = .ok (.iconst 4, 1) := by decide +kernel
theorem d_Bs_isRightByOne_43 : decode M_Bs_isRightByOne.2.1 43 = .ok (.irem, 1) := by decide +kernel
theorem d_Bs_isRightByOne_44 : decode M_Bs_isRightByOne.2.1 44 = .ok (.invokevirtual 307, 3) := by decide +kernel
theorem d_Bs_isRightByOne_47 : decode M_Bs_isRightByOne.2.1 47 = .ok (.ifCond .eq 24, 3) := by decide +kernel
theorem d_Bs_isRightByOne_50 : decode M_Bs_isRightByOne.2.1 50 = .ok (.aload_n 0, 1) := by decide +kernel
theorem d_Bs_isRightByOne_51 : decode M_Bs_isRightByOne.2.1 51 = .ok (.iload_n 1, 1) := by decide +kernel
theorem d_Bs_isRightByOne_52 : decode M_Bs_isRightByOne.2.1 52 = .ok (.invokevirtual 298, 3) := by decide +kernel
theorem d_Bs_isRightByOne_55 : decode M_Bs_isRightByOne.2.1 55 = .ok (.ifCond .eq 16, 3) := by decide +kernel
theorem d_Bs_isRightByOne_58 : decode M_Bs_isRightByOne.2.1 58 = .ok (.aload_n 0, 1) := by decide +kernel
theorem d_Bs_isRightByOne_59 : decode M_Bs_isRightByOne.2.1 59 = .ok (.iconst 0, 1) := by decide +kernel
theorem d_Bs_isRightByOne_60 : decode M_Bs_isRightByOne.2.1 60 = .ok (.iload_n 3, 1) := by decide +kernel
theorem d_Bs_isRightByOne_61 : decode M_Bs_isRightByOne.2.1 61 = .ok (.invokevirtual 310, 3) := by decide +kernel
theorem d_Bs_isRightByOne_64 : decode M_Bs_isRightByOne.2.1 64 = .ok (.aload_n 0, 1) := by decide +kernel
theorem d_Bs_isRightByOne_65 : decode M_Bs_isRightByOne.2.1 65 = .ok (.iconst 1, 1) := by decide +kernel
theorem d_Bs_isRightByOne_66 : decode M_Bs_isRightByOne.2.1 66 = .ok (.putfield 93, 3) := by decide +kernel
theorem d_Bs_isRightByOne_69 : decode M_Bs_isRightByOne.2.1 69 = .ok (.iconst 1, 1) := by decide +kernel
theorem d_Bs_isRightByOne_70 : decode M_Bs_isRightByOne.2.1 70 = .ok (.ireturn, 1) := by decide +kernel
theorem d_Bs_isRightByOne_71 : decode M_Bs_isRightByOne.2.1 71 = .ok (.iinc 3 1, 3) := by decide +kernel
theorem d_Bs_isRightByOne_74 : decode M_Bs_isRightByOne.2.1 74 = .ok (.goto (-62), 3) := by decide +kernel
theorem d_Bs_isRightByOne_77 : decode M_Bs_isRightByOne.2.1 77 = .ok (.iconst 0, 1) := by decide +kernel
theorem d_Bs_isRightByOne_78 : decode M_Bs_isRightByOne.2.1 78 = .ok (.ireturn, 1) := by decide +kernel
theorem mi_Pr_change : MI M_Pr_change 2 := ⟨(lwg_at 2 (by decide +kernel) rfl), (lwg_at 853 (by decide +kernel) rfl), ⟨by decide +kernel, by decide +kernel⟩, by decide +kernel, by decide⟩
theorem cs_Bs_307 : CV RX11 307 RX3 M_Pr_change 2 := ⟨(lwg_at 850 (by decide +kernel) rfl), (lwg_at 851 (by decide +kernel) rfl), (lwg_at 852 (by decide +kernel) rfl), mi_Pr_change⟩
theorem mi_Bs_isRight : MI M_Bs_isRight 1 := ⟨(lwg_at 1 (by decide +kernel) rfl), (lwg_at 845 (by decide +kernel) rfl), ⟨by decide +kernel, by decide +kernel⟩, by decide +kernel, by decide⟩
theorem cs_Bs_298 : CV RX11 298 RX11 M_Bs_isRight 1 := ⟨(lwg_at 842 (by decide +kernel) rfl), (lwg_at 844 (by decide +kernel) rfl), (lwg_priv 18 (y := M_Bs_isRight.1) (n := 18) (by decide +kernel)), mi_Bs_isRight⟩
theorem mi_Bs_setHint : MI M_Bs_setHint 2 := ⟨(lwg_at 1 (by decide +kernel) rfl), (lwg_at 876 (by decide +kernel) rfl), ⟨by decide +kernel, by decide +kernel⟩, by decide +kernel, by decide⟩
theorem cs_Bs_310 : CV RX11 310 RX11 M_Bs_setHint 2 := ⟨(lwg_at 873 (by decide +kernel) rfl), (lwg_at 875 (by decide +kernel) rfl), (lwg_priv 22 (y := M_Bs_setHint.1) (n := 18) (by decide +kernel)), mi_Bs_setHint⟩
theorem gp_Bs_93_11 : GP RX11 93 11 17 false .int := ⟨RX11, TX11, 18, RX11, tyX11, rfl, by decide, (lwg_at 252 (by decide +kernel) rfl), rfl, gl_w inX11, tyX11_ok, nmX11, rfl, by decide +kernel, fun h => by first | rfl | cases h⟩
def F_Bs_isRightByOne_71 (x1 : Int32) (k12 : Int32 → Int32 → Dl → Option (Int32 × Dl)) (x2 : Int32) (x3 : Int32) (δ : Dl) : Option (Int32 × Dl) :=
  k12 x2 ((x3 + 1)) δ
set_option maxRecDepth 20000 in
set_option maxHeartbeats 4000000 in
theorem j_Bs_isRightByOne_71 {l : Launch} {Γ : Gm} (hG : GC Γ) (x1 : Int32) (k12 : Int32 → Int32 → Dl → Option (Int32 × Dl)) (x2 : Int32) (x3 : Int32) (δ : Dl) (r : Int32 × Dl) (hk12 : ∀ (x2 : Int32) (x3 : Int32) (δ : Dl),  k12 x2 x3 δ = some r → Xe l M_Bs_isRightByOne 45 0 0 NF 12 [some (.inr (0, 0)), some (.inl x1), some (.inl x2), some (.inl x3)] [] 0 0 Γ δ (some (.inl r.1), Γ, r.2)) (h : F_Bs_isRightByOne_71 x1 k12 x2 x3 δ = some r) : Xe l M_Bs_isRightByOne 45 0 0 NF 71 [some (.inr (0, 0)), some (.inl x1), some (.inl x2), some (.inl x3)] [] 0 0 Γ δ (some (.inl r.1), Γ, r.2) := by
  unfold F_Bs_isRightByOne_71 at h
  refine x_inc (i := 3) (c0 := 1) (ls' := [some (.inr (0, 0)), some (.inl x1), some (.inl x2), some (.inl (x3 + 1))]) d_Bs_isRightByOne_71 (by decide) rfl (by decide) rfl ?_
  refine x_goto (tgt := 12) d_Bs_isRightByOne_74 (by decide) ?_
  exact hk12 x2 ((x3 + 1)) δ h
def F_Bs_isRightByOne_12_b (x1 : Int32) (k12 : Int32 → Int32 → Dl → Option (Int32 × Dl)) (x2 : Int32) (x3 : Int32) (δ : Dl) : Option (Int32 × Dl) :=
  if x2 ≤ x3 then (some (0, δ)) else ((F_Pr_copyFrom 12 1 δ).bind fun δ28 => bd2 (F_Pr_change 12 (x3 / 4) (x3 - x3 / 4 * 4) δ28) fun v44 δ44 => if v44 = 0 then (F_Bs_isRightByOne_71 x1 k12 x2 x3 δ44) else (bd2 (F_Bs_isRight x1 δ44) fun v52 δ52 => if v52 = 0 then (F_Bs_isRightByOne_71 x1 k12 x2 x3 δ52) else ((F_Bs_setHint 0 x3 δ52).bind fun δ61 => bnd (sI δ61 107 0 1) fun δ66 => some (1, δ66))))
set_option maxRecDepth 20000 in
set_option maxHeartbeats 4000000 in
theorem j_Bs_isRightByOne_12_b {l : Launch} {Γ : Gm} (hG : GC Γ) (x1 : Int32) (k12 : Int32 → Int32 → Dl → Option (Int32 × Dl)) (x2 : Int32) (x3 : Int32) (δ : Dl) (r : Int32 × Dl) (hk12 : ∀ (x2 : Int32) (x3 : Int32) (δ : Dl),  k12 x2 x3 δ = some r → Xe l M_Bs_isRightByOne 45 0 0 NF 12 [some (.inr (0, 0)), some (.inl x1), some (.inl x2), some (.inl x3)] [] 0 0 Γ δ (some (.inl r.1), Γ, r.2)) (h : F_Bs_isRightByOne_12_b x1 k12 x2 x3 δ = some r) : Xe l M_Bs_isRightByOne 45 0 0 NF 12 [some (.inr (0, 0)), some (.inl x1), some (.inl x2), some (.inl x3)] [] 0 0 Γ δ (some (.inl r.1), Γ, r.2) := by
  unfold F_Bs_isRightByOne_12_b at h
  refine x_iload_n (i := 3) d_Bs_isRightByOne_12 rfl rfl ?_
  refine x_iload_n (i := 2) d_Bs_isRightByOne_13 rfl rfl ?_
  refine x_cmp_ge (tgt := 77) d_Bs_isRightByOne_14 (by decide) (fun c14 => ?_) (fun c14 => ?_)
  · have h := if_t c14 h
    refine x_ic (v := 0) d_Bs_isRightByOne_77 (by decide) ?_
    replace h := Option.some.inj h; subst h
    exact x_nret rfl rfl d_Bs_isRightByOne_78 (Nat.le_refl 0) (Nat.le_refl 0)
  · have h := if_f c14 h
    refine x_aload_n (i := 0) d_Bs_isRightByOne_17 rfl rfl ?_
    refine x_getS (f := 96) (b := 11) gl_Bs_43_11 rfl kf_96 rfl (hG.ob oc_0) d_Bs_isRightByOne_18 ?_
    refine x_getS (f := 40) (b := 12) gl_Bs_252_5 rfl kf_40 rfl (hG.ob oc_11) d_Bs_isRightByOne_21 ?_
    refine x_aload_n (i := 0) d_Bs_isRightByOne_24 rfl rfl ?_
    refine x_getS (f := 90) (b := 1) gl_Bs_14_11 rfl kf_90 rfl (hG.ob oc_0) d_Bs_isRightByOne_25 ?_
    obtain ⟨δ28, eδ28, h⟩ := bd_e h
    refine y_V1v cs_Bs_253 rfl (hG.ob oc_12) (by first | decide | omega) (Nat.le_of_ble_eq_true rfl) d_Bs_isRightByOne_28 (c_Pr_copyFrom hG 12 1 oc_12 oc_1 δ δ28 eδ28) (Nat.le_refl 0) (Nat.le_refl 0) ?_
    refine x_aload_n (i := 0) d_Bs_isRightByOne_31 rfl rfl ?_
    refine x_getS (f := 96) (b := 11) gl_Bs_43_11 rfl kf_96 rfl (hG.ob oc_0) d_Bs_isRightByOne_32 ?_
    refine x_getS (f := 40) (b := 12) gl_Bs_252_5 rfl kf_40 rfl (hG.ob oc_11) d_Bs_isRightByOne_35 ?_
    refine x_iload_n (i := 3) d_Bs_isRightByOne_38 rfl rfl ?_
    refine x_ic (v := 4) d_Bs_isRightByOne_39 (by decide) ?_
    refine x_idiv d_Bs_isRightByOne_40 (by decide) ?_
    refine x_iload_n (i := 3) d_Bs_isRightByOne_41 rfl rfl ?_
    refine x_ic (v := 4) d_Bs_isRightByOne_42 (by decide) ?_
    refine x_irem d_Bs_isRightByOne_43 (by decide) ?_
    obtain ⟨v44, δ44, eδ44, h⟩ := bd2_e h
    refine y_V2 cs_Bs_307 rfl (hG.ob oc_12) (by first | decide | omega) (Nat.le_of_ble_eq_true rfl) d_Bs_isRightByOne_44 (c_Pr_change hG 12 (x3 / 4) (x3 - x3 / 4 * 4) oc_12 δ28 (v44, δ44) eδ44) (Nat.le_refl 0) (Nat.le_refl 0) ?_
    refine x_if_eq (tgt := 71) d_Bs_isRightByOne_47 (by decide) (fun c47 => ?_) (fun c47 => ?_)
    · have h := if_t c47 h
      exact j_Bs_isRightByOne_71 hG x1 k12 x2 x3 δ44 r hk12 h
    · have h := if_f c47 h
      refine x_aload_n (i := 0) d_Bs_isRightByOne_50 rfl rfl ?_
      refine x_iload_n (i := 1) d_Bs_isRightByOne_51 rfl rfl ?_
      obtain ⟨v52, δ52, eδ52, h⟩ := bd2_e h
      refine y_V1 cs_Bs_298 rfl (hG.ob oc_0) (by first | decide | omega) (Nat.le_of_ble_eq_true rfl) d_Bs_isRightByOne_52 (c_Bs_isRight hG x1  δ44 (v52, δ52) eδ52) (Nat.le_refl 0) (Nat.le_refl 0) ?_
      refine x_if_eq (tgt := 71) d_Bs_isRightByOne_55 (by decide) (fun c55 => ?_) (fun c55 => ?_)
      · have h := if_t c55 h
        exact j_Bs_isRightByOne_71 hG x1 k12 x2 x3 δ52 r hk12 h
      · have h := if_f c55 h
        refine x_aload_n (i := 0) d_Bs_isRightByOne_58 rfl rfl ?_
        refine x_ic (v := 0) d_Bs_isRightByOne_59 (by decide) ?_
        refine x_iload_n (i := 3) d_Bs_isRightByOne_60 rfl rfl ?_
        obtain ⟨δ61, eδ61, h⟩ := bd_e h
        refine y_V2v cs_Bs_310 rfl (hG.ob oc_0) (by first | decide | omega) (Nat.le_of_ble_eq_true rfl) d_Bs_isRightByOne_61 (c_Bs_setHint hG 0 x3  δ52 δ61 eδ61) (Nat.le_refl 0) (Nat.le_refl 0) ?_
        refine x_aload_n (i := 0) d_Bs_isRightByOne_64 rfl rfl ?_
        refine x_ic (v := 1) d_Bs_isRightByOne_65 (by decide) ?_
        obtain ⟨δ66, eδ66, h⟩ := bn_e h
        refine x_putI (f := 107) gp_Bs_93_11 rfl kf_107 (fun h => by cases h) rfl rfl (hG.ob oc_0).1 (hG.ob oc_0).z d_Bs_isRightByOne_66 (Xe.cδ eδ66 ?_)
        refine x_ic (v := 1) d_Bs_isRightByOne_69 (by decide) ?_
        replace h := Option.some.inj h; subst h
        exact x_nret rfl rfl d_Bs_isRightByOne_70 (Nat.le_refl 0) (Nat.le_refl 0)
def F_Bs_isRightByOne_12 (x1 : Int32) : Nat → Int32 → Int32 → Dl → Option (Int32 × Dl)
  | 0, _, _, _ => none
  | n + 1, x2, x3, δ => F_Bs_isRightByOne_12_b x1 (F_Bs_isRightByOne_12 x1 n) x2 x3 δ
theorem j_Bs_isRightByOne_12 {l : Launch} {Γ : Gm} (hG : GC Γ) (x1 : Int32) (n : Nat) (x2 : Int32) (x3 : Int32) (δ : Dl) (r : Int32 × Dl) (h : F_Bs_isRightByOne_12 x1 n x2 x3 δ = some r) : Xe l M_Bs_isRightByOne 45 0 0 NF 12 [some (.inr (0, 0)), some (.inl x1), some (.inl x2), some (.inl x3)] [] 0 0 Γ δ (some (.inl r.1), Γ, r.2) := by
  induction n generalizing x2 x3 δ with
  | zero => cases h
  | succ n ih => exact j_Bs_isRightByOne_12_b hG x1 (F_Bs_isRightByOne_12 x1 n) x2 x3 δ r (fun x2 x3 δ hh => ih x2 x3 δ hh) h
def F_Bs_isRightByOne (x1 : Int32) (δ : Dl) : Option (Int32 × Dl) :=
  F_Bs_isRightByOne_12 x1 FU (((δ.1 30 1) * 4)) 0 δ
set_option maxRecDepth 20000 in
set_option maxHeartbeats 4000000 in
theorem c_Bs_isRightByOne {l : Launch} {Γ : Gm} (hG : GC Γ) (x1 : Int32) (δ : Dl) (r : Int32 × Dl) (h : F_Bs_isRightByOne x1  δ = some r) : Ct l M_Bs_isRightByOne 45 0 0 NF [.inr (0, 0), .inl x1] Γ δ (some (.inl r.1), Γ, r.2) := by
  unfold F_Bs_isRightByOne at h
  refine Ct.of2 (n := 2) (ls := [some (.inr (0, 0)), some (.inl x1), none, none]) rfl (by decide +kernel) (Nat.le_of_ble_eq_true rfl) ?_
  refine x_aload_n (i := 0) d_Bs_isRightByOne_0 rfl rfl ?_
  refine x_getS (f := 90) (b := 1) gl_Bs_14_11 rfl kf_90 rfl (hG.ob oc_0) d_Bs_isRightByOne_1 ?_
  refine x_getI (f := 30) gl_Bs_165_3 rfl kf_30 (hG.ob oc_1) d_Bs_isRightByOne_4 ?_
  refine x_ic (v := 4) d_Bs_isRightByOne_7 (by decide) ?_
  refine x_imul d_Bs_isRightByOne_8 ?_
  refine x_stn (i := 2) (ls' := [some (.inr (0, 0)), some (.inl x1), some (.inl ((δ.1 30 1) * 4)), none]) d_Bs_isRightByOne_9 rfl (by decide) rfl ?_
  refine x_ic (v := 0) d_Bs_isRightByOne_10 (by decide) ?_
  refine x_stn (i := 3) (ls' := [some (.inr (0, 0)), some (.inl x1), some (.inl ((δ.1 30 1) * 4)), some (.inl 0)]) d_Bs_isRightByOne_11 rfl (by decide) rfl ?_
  exact j_Bs_isRightByOne_12 hG x1 FU (((δ.1 30 1) * 4)) 0 δ r h
-- BlockStage.isRightByTwo(I)Z
theorem d_Bs_isRightByTwo_0 : decode M_Bs_isRightByTwo.2.1 0 = .ok (.aload_n 0, 1) := by decide +kernel
theorem d_Bs_isRightByTwo_1 : decode M_Bs_isRightByTwo.2.1 1 = .ok (.getfield 14, 3) := by decide +kernel
theorem d_Bs_isRightByTwo_4 : decode M_Bs_isRightByTwo.2.1 4 = .ok (.getfield 165, 3) := by decide +kernel
theorem d_Bs_isRightByTwo_7 : decode M_Bs_isRightByTwo.2.1 7 = .ok (.iconst 4, 1) := by decide +kernel
theorem d_Bs_isRightByTwo_8 : decode M_Bs_isRightByTwo.2.1 8 = .ok (.imul, 1) := by decide +kernel
theorem d_Bs_isRightByTwo_9 : decode M_Bs_isRightByTwo.2.1 9 = .ok (.istore_n 2, 1) := by decide +kernel
theorem d_Bs_isRightByTwo_10 : decode M_Bs_isRightByTwo.2.1 10 = .ok (.iconst 0, 1) := by decide +kernel
theorem d_Bs_isRightByTwo_11 : decode M_Bs_isRightByTwo.2.1 11 = .ok (.istore_n 3, 1) := by decide +kernel
theorem d_Bs_isRightByTwo_12 : decode M_Bs_isRightByTwo.2.1 12 = .ok (.iload_n 3, 1) := by decide +kernel
theorem d_Bs_isRightByTwo_13 : decode M_Bs_isRightByTwo.2.1 13 = .ok (.iload_n 2, 1) := by decide +kernel
theorem d_Bs_isRightByTwo_14 : decode M_Bs_isRightByTwo.2.1 14 = .ok (.if_icmp .ge 117, 3) := by decide +kernel
theorem d_Bs_isRightByTwo_17 : decode M_Bs_isRightByTwo.2.1 17 = .ok (.aload_n 0, 1) := by decide +kernel
theorem d_Bs_isRightByTwo_18 : decode M_Bs_isRightByTwo.2.1 18 = .ok (.getfield 18, 3) := by decide +kernel
theorem d_Bs_isRightByTwo_21 : decode M_Bs_isRightByTwo.2.1 21 = .ok (.aload_n 0, 1) := by decide +kernel
theorem d_Bs_isRightByTwo_22 : decode M_Bs_isRightByTwo.2.1 22 = .ok (.getfield 14, 3) := by decide +kernel
theorem d_Bs_isRightByTwo_25 : decode M_Bs_isRightByTwo.2.1 25 = .ok (.invokevirtual 253, 3) := by decide +kernel
theorem d_Bs_isRightByTwo_28 : decode M_Bs_isRightByTwo.2.1 28 = .ok (.aload_n 0, 1) := by decide +kernel
theorem d_Bs_isRightByTwo_29 : decode M_Bs_isRightByTwo.2.1 29 = .ok (.getfield 18, 3) := by decide +kernel
theorem d_Bs_isRightByTwo_32 : decode M_Bs_isRightByTwo.2.1 32 = .ok (.iload_n 3, 1) := by decide +kernel
theorem d_Bs_isRightByTwo_33 : decode M_Bs_isRightByTwo.2.1 33 = .ok (.iconst 4, 1) := by decide +kernel
theorem d_Bs_isRightByTwo_34 : decode M_Bs_isRightByTwo.2.1 34 = .ok (.idiv, 1) := by decide +kernel
theorem d_Bs_isRightByTwo_35 : decode M_Bs_isRightByTwo.2.1 35 = .ok (.iload_n 3, 1) := by decide +kernel
theorem d_Bs_isRightByTwo_36 : decode M_Bs_isRightByTwo.2.1 36 = .ok (.iconst 4, 1) := by decide +kernel
theorem d_Bs_isRightByTwo_37 : decode M_Bs_isRightByTwo.2.1 37 = .ok (.irem, 1) := by decide +kernel
theorem d_Bs_isRightByTwo_38 : decode M_Bs_isRightByTwo.2.1 38 = .ok (.invokevirtual 307, 3) := by decide +kernel
theorem d_Bs_isRightByTwo_41 : decode M_Bs_isRightByTwo.2.1 41 = .ok (.ifCond .ne 6, 3) := by decide +kernel
theorem d_Bs_isRightByTwo_44 : decode M_Bs_isRightByTwo.2.1 44 = .ok (.goto 81, 3) := by decide +kernel
theorem d_Bs_isRightByTwo_47 : decode M_Bs_isRightByTwo.2.1 47 = .ok (.iconst 0, 1) := by decide +kernel
theorem d_Bs_isRightByTwo_48 : decode M_Bs_isRightByTwo.2.1 48 = .ok (.istore 4, 2) := by decide +kernel
theorem d_Bs_isRightByTwo_50 : decode M_Bs_isRightByTwo.2.1 50 = .ok (.iload 4, 2) := by decide +kernel
theorem d_Bs_isRightByTwo_52 : decode M_Bs_isRightByTwo.2.1 52 = .ok (.iload_n 2, 1) := by decide +kernel
theorem d_Bs_isRightByTwo_53 : decode M_Bs_isRightByTwo.2.1 53 = .ok (.if_icmp .ge 72, 3) := by decide +kernel
theorem d_Bs_isRightByTwo_56 : decode M_Bs_isRightByTwo.2.1 56 = .ok (.aload_n 0, 1) := by decide +kernel
theorem d_Bs_isRightByTwo_57 : decode M_Bs_isRightByTwo.2.1 57 = .ok (.getfield 43, 3) := by decide +kernel
theorem d_Bs_isRightByTwo_60 : decode M_Bs_isRightByTwo.2.1 60 = .ok (.getfield 252, 3) := by decide +kernel
theorem d_Bs_isRightByTwo_63 : decode M_Bs_isRightByTwo.2.1 63 = .ok (.aload_n 0, 1) := by decide +kernel
theorem d_Bs_isRightByTwo_64 : decode M_Bs_isRightByTwo.2.1 64 = .ok (.getfield 18, 3) := by decide +kernel
theorem d_Bs_isRightByTwo_67 : decode M_Bs_isRightByTwo.2.1 67 = .ok (.invokevirtual 253, 3) := by decide +kernel
theorem d_Bs_isRightByTwo_70 : decode M_Bs_isRightByTwo.2.1 70 = .ok (.aload_n 0, 1) := by decide +kernel
theorem d_Bs_isRightByTwo_71 : decode M_Bs_isRightByTwo.2.1 71 = .ok (.getfield 43, 3) := by decide +kernel
theorem d_Bs_isRightByTwo_74 : decode M_Bs_isRightByTwo.2.1 74 = .ok (.getfield 252, 3) := by decide +kernel
theorem d_Bs_isRightByTwo_77 : decode M_Bs_isRightByTwo.2.1 77 = .ok (.iload 4, 2) := by decide +kernel
theorem d_Bs_isRightByTwo_79 : decode M_Bs_isRightByTwo.2.1 79 = .ok (.iconst 4, 1) := by decide +kernel
theorem d_Bs_isRightByTwo_80 : decode M_Bs_isRightByTwo.2.1 80 = .ok (.idiv, 1) := by decide +kernel
theorem d_Bs_isRightByTwo_81 : decode M_Bs_isRightByTwo.2.1 81 = .ok (.iload 4, 2) := by decide +kernel
theorem d_Bs_isRightByTwo_83 : decode M_Bs_isRightByTwo.2.1 83 = .ok (.iconst 4, 1) := by decide +kernel
theorem d_Bs_isRightByTwo_84 : decode M_Bs_isRightByTwo.2.1 84 = .ok (.irem, 1) := by decide +kernel
theorem d_Bs_isRightByTwo_85 : decode M_Bs_isRightByTwo.2.1 85 = .ok (.invokevirtual 307, 3) := by decide +kernel
theorem d_Bs_isRightByTwo_88 : decode M_Bs_isRightByTwo.2.1 88 = .ok (.ifCond .eq 31, 3) := by decide +kernel
theorem d_Bs_isRightByTwo_91 : decode M_Bs_isRightByTwo.2.1 91 = .ok (.aload_n 0, 1) := by decide +kernel
theorem d_Bs_isRightByTwo_92 : decode M_Bs_isRightByTwo.2.1 92 = .ok (.iload_n 1, 1) := by decide +kernel
theorem d_Bs_isRightByTwo_93 : decode M_Bs_isRightByTwo.2.1 93 = .ok (.invokevirtual 298, 3) := by decide +kernel
theorem d_Bs_isRightByTwo_96 : decode M_Bs_isRightByTwo.2.1 96 = .ok (.ifCond .eq 23, 3) := by decide +kernel
theorem d_Bs_isRightByTwo_99 : decode M_Bs_isRightByTwo.2.1 99 = .ok (.aload_n 0, 1) := by decide +kernel
theorem d_Bs_isRightByTwo_100 : decode M_Bs_isRightByTwo.2.1 100 = .ok (.iconst 0, 1) := by decide +kernel
theorem d_Bs_isRightByTwo_101 : decode M_Bs_isRightByTwo.2.1 101 = .ok (.iload_n 3, 1) := by decide +kernel
theorem d_Bs_isRightByTwo_102 : decode M_Bs_isRightByTwo.2.1 102 = .ok (.invokevirtual 310, 3) := by decide +kernel
theorem d_Bs_isRightByTwo_105 : decode M_Bs_isRightByTwo.2.1 105 = .ok (.aload_n 0, 1) := by decide +kernel
theorem d_Bs_isRightByTwo_106 : decode M_Bs_isRightByTwo.2.1 106 = .ok (.iconst 1, 1) := by decide +kernel
theorem d_Bs_isRightByTwo_107 : decode M_Bs_isRightByTwo.2.1 107 = .ok (.iload 4, 2) := by decide +kernel
theorem d_Bs_isRightByTwo_109 : decode M_Bs_isRightByTwo.2.1 109 = .ok (.invokevirtual 310, 3) := by decide +kernel
theorem d_Bs_isRightByTwo_112 : decode M_Bs_isRightByTwo.2.1 112 = .ok (.aload_n 0, 1) := by decide +kernel
theorem d_Bs_isRightByTwo_113 : decode M_Bs_isRightByTwo.2.1 113 = .ok (.iconst 2, 1) := by decide +kernel
theorem d_Bs_isRightByTwo_114 : decode M_Bs_isRightByTwo.2.1 114 = .ok (.putfield 93, 3) := by decide +kernel
theorem d_Bs_isRightByTwo_117 : decode M_Bs_isRightByTwo.2.1 117 = .ok (.iconst 1, 1) := by decide +kernel
theorem d_Bs_isRightByTwo_118 : decode M_Bs_isRightByTwo.2.1 118 = .ok (.ireturn, 1) := by decide +kernel
theorem d_Bs_isRightByTwo_119 : decode M_Bs_isRightByTwo.2.1 119 = .ok (.iinc 4 1, 3) := by decide +kernel
theorem d_Bs_isRightByTwo_122 : decode M_Bs_isRightByTwo.2.1 122 = .ok (.goto (-72), 3) := by decide +kernel
theorem d_Bs_isRightByTwo_125 : decode M_Bs_isRightByTwo.2.1 125 = .ok (.iinc 3 1, 3) := by decide +kernel
theorem d_Bs_isRightByTwo_128 : decode M_Bs_isRightByTwo.2.1 128 = .ok (.goto (-116), 3) := by decide +kernel
theorem d_Bs_isRightByTwo_131 : decode M_Bs_isRightByTwo.2.1 131 = .ok (.iconst 0, 1) := by decide +kernel
theorem d_Bs_isRightByTwo_132 : decode M_Bs_isRightByTwo.2.1 132 = .ok (.ireturn, 1) := by decide +kernel
theorem gl_Bs_18_11 : GL RX11 18 11 1 := ⟨RX11, TX11, 18, RX11, rfl, by decide, (lwg_at 236 (by decide +kernel) rfl), Or.inl rfl, gl_w inX11⟩
theorem oc_2 : Oc 2 3 := by decide
def F_Bs_isRightByTwo_125 (x1 : Int32) (k12 : Int32 → Int32 → Dl → Option (Int32 × Dl)) (x2 : Int32) (x3 : Int32) (δ : Dl) : Option (Int32 × Dl) :=
  k12 x2 ((x3 + 1)) δ
set_option maxRecDepth 20000 in
set_option maxHeartbeats 4000000 in
theorem j_Bs_isRightByTwo_125 {l : Launch} {Γ : Gm} (hG : GC Γ) (x1 : Int32) (k12 : Int32 → Int32 → Dl → Option (Int32 × Dl)) (x2 : Int32) (x3 : Int32) (δ : Dl) (r : Int32 × Dl) (hk12 : ∀ (x2 : Int32) (x3 : Int32) (δ : Dl),  k12 x2 x3 δ = some r → Xe l M_Bs_isRightByTwo 45 0 0 NF 12 [some (.inr (0, 0)), some (.inl x1), some (.inl x2), some (.inl x3), none] [] 0 0 Γ δ (some (.inl r.1), Γ, r.2)) (h : F_Bs_isRightByTwo_125 x1 k12 x2 x3 δ = some r) : Xe l M_Bs_isRightByTwo 45 0 0 NF 125 [some (.inr (0, 0)), some (.inl x1), some (.inl x2), some (.inl x3), none] [] 0 0 Γ δ (some (.inl r.1), Γ, r.2) := by
  unfold F_Bs_isRightByTwo_125 at h
  refine x_inc (i := 3) (c0 := 1) (ls' := [some (.inr (0, 0)), some (.inl x1), some (.inl x2), some (.inl (x3 + 1)), none]) d_Bs_isRightByTwo_125 (by decide) rfl (by decide) rfl ?_
  refine x_goto (tgt := 12) d_Bs_isRightByTwo_128 (by decide) ?_
  exact hk12 x2 ((x3 + 1)) δ h
def F_Bs_isRightByTwo_119 (x1 : Int32) (k12 : Int32 → Int32 → Dl → Option (Int32 × Dl)) (k50 : Int32 → Int32 → Int32 → Dl → Option (Int32 × Dl)) (x2 : Int32) (x3 : Int32) (x4 : Int32) (δ : Dl) : Option (Int32 × Dl) :=
  k50 x2 x3 ((x4 + 1)) δ
set_option maxRecDepth 20000 in
set_option maxHeartbeats 4000000 in
theorem j_Bs_isRightByTwo_119 {l : Launch} {Γ : Gm} (hG : GC Γ) (x1 : Int32) (k12 : Int32 → Int32 → Dl → Option (Int32 × Dl)) (k50 : Int32 → Int32 → Int32 → Dl → Option (Int32 × Dl)) (x2 : Int32) (x3 : Int32) (x4 : Int32) (δ : Dl) (r : Int32 × Dl) (hk12 : ∀ (x2 : Int32) (x3 : Int32) (δ : Dl),  k12 x2 x3 δ = some r → Xe l M_Bs_isRightByTwo 45 0 0 NF 12 [some (.inr (0, 0)), some (.inl x1), some (.inl x2), some (.inl x3), none] [] 0 0 Γ δ (some (.inl r.1), Γ, r.2)) (hk50 : ∀ (x2 : Int32) (x3 : Int32) (x4 : Int32) (δ : Dl),  k50 x2 x3 x4 δ = some r → Xe l M_Bs_isRightByTwo 45 0 0 NF 50 [some (.inr (0, 0)), some (.inl x1), some (.inl x2), some (.inl x3), some (.inl x4)] [] 0 0 Γ δ (some (.inl r.1), Γ, r.2)) (h : F_Bs_isRightByTwo_119 x1 k12 k50 x2 x3 x4 δ = some r) : Xe l M_Bs_isRightByTwo 45 0 0 NF 119 [some (.inr (0, 0)), some (.inl x1), some (.inl x2), some (.inl x3), some (.inl x4)] [] 0 0 Γ δ (some (.inl r.1), Γ, r.2) := by
  unfold F_Bs_isRightByTwo_119 at h
  refine x_inc (i := 4) (c0 := 1) (ls' := [some (.inr (0, 0)), some (.inl x1), some (.inl x2), some (.inl x3), some (.inl (x4 + 1))]) d_Bs_isRightByTwo_119 (by decide) rfl (by decide) rfl ?_
  refine x_goto (tgt := 50) d_Bs_isRightByTwo_122 (by decide) ?_
  exact hk50 x2 x3 ((x4 + 1)) δ h
def F_Bs_isRightByTwo_50_b (x1 : Int32) (k12 : Int32 → Int32 → Dl → Option (Int32 × Dl)) (k50 : Int32 → Int32 → Int32 → Dl → Option (Int32 × Dl)) (x2 : Int32) (x3 : Int32) (x4 : Int32) (δ : Dl) : Option (Int32 × Dl) :=
  if x2 ≤ x4 then (F_Bs_isRightByTwo_125 x1 k12 x2 x3 δ) else ((F_Pr_copyFrom 12 2 δ).bind fun δ67 => bd2 (F_Pr_change 12 (x4 / 4) (x4 - x4 / 4 * 4) δ67) fun v85 δ85 => if v85 = 0 then (F_Bs_isRightByTwo_119 x1 k12 k50 x2 x3 x4 δ85) else (bd2 (F_Bs_isRight x1 δ85) fun v93 δ93 => if v93 = 0 then (F_Bs_isRightByTwo_119 x1 k12 k50 x2 x3 x4 δ93) else ((F_Bs_setHint 0 x3 δ93).bind fun δ102 => (F_Bs_setHint 1 x4 δ102).bind fun δ109 => bnd (sI δ109 107 0 2) fun δ114 => some (1, δ114))))
set_option maxRecDepth 20000 in
set_option maxHeartbeats 4000000 in
theorem j_Bs_isRightByTwo_50_b {l : Launch} {Γ : Gm} (hG : GC Γ) (x1 : Int32) (k12 : Int32 → Int32 → Dl → Option (Int32 × Dl)) (k50 : Int32 → Int32 → Int32 → Dl → Option (Int32 × Dl)) (x2 : Int32) (x3 : Int32) (x4 : Int32) (δ : Dl) (r : Int32 × Dl) (hk12 : ∀ (x2 : Int32) (x3 : Int32) (δ : Dl),  k12 x2 x3 δ = some r → Xe l M_Bs_isRightByTwo 45 0 0 NF 12 [some (.inr (0, 0)), some (.inl x1), some (.inl x2), some (.inl x3), none] [] 0 0 Γ δ (some (.inl r.1), Γ, r.2)) (hk50 : ∀ (x2 : Int32) (x3 : Int32) (x4 : Int32) (δ : Dl),  k50 x2 x3 x4 δ = some r → Xe l M_Bs_isRightByTwo 45 0 0 NF 50 [some (.inr (0, 0)), some (.inl x1), some (.inl x2), some (.inl x3), some (.inl x4)] [] 0 0 Γ δ (some (.inl r.1), Γ, r.2)) (h : F_Bs_isRightByTwo_50_b x1 k12 k50 x2 x3 x4 δ = some r) : Xe l M_Bs_isRightByTwo 45 0 0 NF 50 [some (.inr (0, 0)), some (.inl x1), some (.inl x2), some (.inl x3), some (.inl x4)] [] 0 0 Γ δ (some (.inl r.1), Γ, r.2) := by
  unfold F_Bs_isRightByTwo_50_b at h
  refine x_iload (i := 4) d_Bs_isRightByTwo_50 rfl ?_
  refine x_iload_n (i := 2) d_Bs_isRightByTwo_52 rfl rfl ?_
  refine x_cmp_ge (tgt := 125) d_Bs_isRightByTwo_53 (by decide) (fun c53 => ?_) (fun c53 => ?_)
  · have h := if_t c53 h
    refine x_wk (ls' := [some (.inr (0, 0)), some (.inl x1), some (.inl x2), some (.inl x3), none]) ⟨Or.inr rfl, Or.inr rfl, Or.inr rfl, Or.inr rfl, Or.inl rfl, trivial⟩ ?_
    exact j_Bs_isRightByTwo_125 hG x1 k12 x2 x3 δ r hk12 h
  · have h := if_f c53 h
    refine x_aload_n (i := 0) d_Bs_isRightByTwo_56 rfl rfl ?_
    refine x_getS (f := 96) (b := 11) gl_Bs_43_11 rfl kf_96 rfl (hG.ob oc_0) d_Bs_isRightByTwo_57 ?_
    refine x_getS (f := 40) (b := 12) gl_Bs_252_5 rfl kf_40 rfl (hG.ob oc_11) d_Bs_isRightByTwo_60 ?_
    refine x_aload_n (i := 0) d_Bs_isRightByTwo_63 rfl rfl ?_
    refine x_getS (f := 91) (b := 2) gl_Bs_18_11 rfl kf_91 rfl (hG.ob oc_0) d_Bs_isRightByTwo_64 ?_
    obtain ⟨δ67, eδ67, h⟩ := bd_e h
    refine y_V1v cs_Bs_253 rfl (hG.ob oc_12) (by first | decide | omega) (Nat.le_of_ble_eq_true rfl) d_Bs_isRightByTwo_67 (c_Pr_copyFrom hG 12 2 oc_12 oc_2 δ δ67 eδ67) (Nat.le_refl 0) (Nat.le_refl 0) ?_
    refine x_aload_n (i := 0) d_Bs_isRightByTwo_70 rfl rfl ?_
    refine x_getS (f := 96) (b := 11) gl_Bs_43_11 rfl kf_96 rfl (hG.ob oc_0) d_Bs_isRightByTwo_71 ?_
    refine x_getS (f := 40) (b := 12) gl_Bs_252_5 rfl kf_40 rfl (hG.ob oc_11) d_Bs_isRightByTwo_74 ?_
    refine x_iload (i := 4) d_Bs_isRightByTwo_77 rfl ?_
    refine x_ic (v := 4) d_Bs_isRightByTwo_79 (by decide) ?_
    refine x_idiv d_Bs_isRightByTwo_80 (by decide) ?_
    refine x_iload (i := 4) d_Bs_isRightByTwo_81 rfl ?_
    refine x_ic (v := 4) d_Bs_isRightByTwo_83 (by decide) ?_
    refine x_irem d_Bs_isRightByTwo_84 (by decide) ?_
    obtain ⟨v85, δ85, eδ85, h⟩ := bd2_e h
    refine y_V2 cs_Bs_307 rfl (hG.ob oc_12) (by first | decide | omega) (Nat.le_of_ble_eq_true rfl) d_Bs_isRightByTwo_85 (c_Pr_change hG 12 (x4 / 4) (x4 - x4 / 4 * 4) oc_12 δ67 (v85, δ85) eδ85) (Nat.le_refl 0) (Nat.le_refl 0) ?_
    refine x_if_eq (tgt := 119) d_Bs_isRightByTwo_88 (by decide) (fun c88 => ?_) (fun c88 => ?_)
    · have h := if_t c88 h
      exact j_Bs_isRightByTwo_119 hG x1 k12 k50 x2 x3 x4 δ85 r hk12 hk50 h
    · have h := if_f c88 h
      refine x_aload_n (i := 0) d_Bs_isRightByTwo_91 rfl rfl ?_
      refine x_iload_n (i := 1) d_Bs_isRightByTwo_92 rfl rfl ?_
      obtain ⟨v93, δ93, eδ93, h⟩ := bd2_e h
      refine y_V1 cs_Bs_298 rfl (hG.ob oc_0) (by first | decide | omega) (Nat.le_of_ble_eq_true rfl) d_Bs_isRightByTwo_93 (c_Bs_isRight hG x1  δ85 (v93, δ93) eδ93) (Nat.le_refl 0) (Nat.le_refl 0) ?_
      refine x_if_eq (tgt := 119) d_Bs_isRightByTwo_96 (by decide) (fun c96 => ?_) (fun c96 => ?_)
      · have h := if_t c96 h
        exact j_Bs_isRightByTwo_119 hG x1 k12 k50 x2 x3 x4 δ93 r hk12 hk50 h
      · have h := if_f c96 h
        refine x_aload_n (i := 0) d_Bs_isRightByTwo_99 rfl rfl ?_
        refine x_ic (v := 0) d_Bs_isRightByTwo_100 (by decide) ?_
        refine x_iload_n (i := 3) d_Bs_isRightByTwo_101 rfl rfl ?_
        obtain ⟨δ102, eδ102, h⟩ := bd_e h
        refine y_V2v cs_Bs_310 rfl (hG.ob oc_0) (by first | decide | omega) (Nat.le_of_ble_eq_true rfl) d_Bs_isRightByTwo_102 (c_Bs_setHint hG 0 x3  δ93 δ102 eδ102) (Nat.le_refl 0) (Nat.le_refl 0) ?_
        refine x_aload_n (i := 0) d_Bs_isRightByTwo_105 rfl rfl ?_
        refine x_ic (v := 1) d_Bs_isRightByTwo_106 (by decide) ?_
        refine x_iload (i := 4) d_Bs_isRightByTwo_107 rfl ?_
        obtain ⟨δ109, eδ109, h⟩ := bd_e h
        refine y_V2v cs_Bs_310 rfl (hG.ob oc_0) (by first | decide | omega) (Nat.le_of_ble_eq_true rfl) d_Bs_isRightByTwo_109 (c_Bs_setHint hG 1 x4  δ102 δ109 eδ109) (Nat.le_refl 0) (Nat.le_refl 0) ?_
        refine x_aload_n (i := 0) d_Bs_isRightByTwo_112 rfl rfl ?_
        refine x_ic (v := 2) d_Bs_isRightByTwo_113 (by decide) ?_
        obtain ⟨δ114, eδ114, h⟩ := bn_e h
        refine x_putI (f := 107) gp_Bs_93_11 rfl kf_107 (fun h => by cases h) rfl rfl (hG.ob oc_0).1 (hG.ob oc_0).z d_Bs_isRightByTwo_114 (Xe.cδ eδ114 ?_)
        refine x_ic (v := 1) d_Bs_isRightByTwo_117 (by decide) ?_
        replace h := Option.some.inj h; subst h
        exact x_nret rfl rfl d_Bs_isRightByTwo_118 (Nat.le_refl 0) (Nat.le_refl 0)
def F_Bs_isRightByTwo_50 (x1 : Int32) (k12 : Int32 → Int32 → Dl → Option (Int32 × Dl)) : Nat → Int32 → Int32 → Int32 → Dl → Option (Int32 × Dl)
  | 0, _, _, _, _ => none
  | n + 1, x2, x3, x4, δ => F_Bs_isRightByTwo_50_b x1 k12 (F_Bs_isRightByTwo_50 x1 k12 n) x2 x3 x4 δ
theorem j_Bs_isRightByTwo_50 {l : Launch} {Γ : Gm} (hG : GC Γ) (x1 : Int32) (k12 : Int32 → Int32 → Dl → Option (Int32 × Dl)) (n : Nat) (x2 : Int32) (x3 : Int32) (x4 : Int32) (δ : Dl) (r : Int32 × Dl) (hk12 : ∀ (x2 : Int32) (x3 : Int32) (δ : Dl),  k12 x2 x3 δ = some r → Xe l M_Bs_isRightByTwo 45 0 0 NF 12 [some (.inr (0, 0)), some (.inl x1), some (.inl x2), some (.inl x3), none] [] 0 0 Γ δ (some (.inl r.1), Γ, r.2)) (h : F_Bs_isRightByTwo_50 x1 k12 n x2 x3 x4 δ = some r) : Xe l M_Bs_isRightByTwo 45 0 0 NF 50 [some (.inr (0, 0)), some (.inl x1), some (.inl x2), some (.inl x3), some (.inl x4)] [] 0 0 Γ δ (some (.inl r.1), Γ, r.2) := by
  induction n generalizing x2 x3 x4 δ with
  | zero => cases h
  | succ n ih => exact j_Bs_isRightByTwo_50_b hG x1 k12 (F_Bs_isRightByTwo_50 x1 k12 n) x2 x3 x4 δ r hk12 (fun x2 x3 x4 δ hh => ih x2 x3 x4 δ hh) h
def F_Bs_isRightByTwo_12_b (x1 : Int32) (k12 : Int32 → Int32 → Dl → Option (Int32 × Dl)) (x2 : Int32) (x3 : Int32) (δ : Dl) : Option (Int32 × Dl) :=
  if x2 ≤ x3 then (some (0, δ)) else ((F_Pr_copyFrom 2 1 δ).bind fun δ25 => bd2 (F_Pr_change 2 (x3 / 4) (x3 - x3 / 4 * 4) δ25) fun v38 δ38 => if v38 = 0 then (F_Bs_isRightByTwo_125 x1 k12 x2 x3 δ38) else (F_Bs_isRightByTwo_50 x1 k12 FU x2 x3 0 δ38))
set_option maxRecDepth 20000 in
set_option maxHeartbeats 4000000 in
theorem j_Bs_isRightByTwo_12_b {l : Launch} {Γ : Gm} (hG : GC Γ) (x1 : Int32) (k12 : Int32 → Int32 → Dl → Option (Int32 × Dl)) (x2 : Int32) (x3 : Int32) (δ : Dl) (r : Int32 × Dl) (hk12 : ∀ (x2 : Int32) (x3 : Int32) (δ : Dl),  k12 x2 x3 δ = some r → Xe l M_Bs_isRightByTwo 45 0 0 NF 12 [some (.inr (0, 0)), some (.inl x1), some (.inl x2), some (.inl x3), none] [] 0 0 Γ δ (some (.inl r.1), Γ, r.2)) (h : F_Bs_isRightByTwo_12_b x1 k12 x2 x3 δ = some r) : Xe l M_Bs_isRightByTwo 45 0 0 NF 12 [some (.inr (0, 0)), some (.inl x1), some (.inl x2), some (.inl x3), none] [] 0 0 Γ δ (some (.inl r.1), Γ, r.2) := by
  unfold F_Bs_isRightByTwo_12_b at h
  refine x_iload_n (i := 3) d_Bs_isRightByTwo_12 rfl rfl ?_
  refine x_iload_n (i := 2) d_Bs_isRightByTwo_13 rfl rfl ?_
  refine x_cmp_ge (tgt := 131) d_Bs_isRightByTwo_14 (by decide) (fun c14 => ?_) (fun c14 => ?_)
  · have h := if_t c14 h
    refine x_ic (v := 0) d_Bs_isRightByTwo_131 (by decide) ?_
    replace h := Option.some.inj h; subst h
    exact x_nret rfl rfl d_Bs_isRightByTwo_132 (Nat.le_refl 0) (Nat.le_refl 0)
  · have h := if_f c14 h
    refine x_aload_n (i := 0) d_Bs_isRightByTwo_17 rfl rfl ?_
    refine x_getS (f := 91) (b := 2) gl_Bs_18_11 rfl kf_91 rfl (hG.ob oc_0) d_Bs_isRightByTwo_18 ?_
    refine x_aload_n (i := 0) d_Bs_isRightByTwo_21 rfl rfl ?_
    refine x_getS (f := 90) (b := 1) gl_Bs_14_11 rfl kf_90 rfl (hG.ob oc_0) d_Bs_isRightByTwo_22 ?_
    obtain ⟨δ25, eδ25, h⟩ := bd_e h
    refine y_V1v cs_Bs_253 rfl (hG.ob oc_2) (by first | decide | omega) (Nat.le_of_ble_eq_true rfl) d_Bs_isRightByTwo_25 (c_Pr_copyFrom hG 2 1 oc_2 oc_1 δ δ25 eδ25) (Nat.le_refl 0) (Nat.le_refl 0) ?_
    refine x_aload_n (i := 0) d_Bs_isRightByTwo_28 rfl rfl ?_
    refine x_getS (f := 91) (b := 2) gl_Bs_18_11 rfl kf_91 rfl (hG.ob oc_0) d_Bs_isRightByTwo_29 ?_
    refine x_iload_n (i := 3) d_Bs_isRightByTwo_32 rfl rfl ?_
    refine x_ic (v := 4) d_Bs_isRightByTwo_33 (by decide) ?_
    refine x_idiv d_Bs_isRightByTwo_34 (by decide) ?_
    refine x_iload_n (i := 3) d_Bs_isRightByTwo_35 rfl rfl ?_
    refine x_ic (v := 4) d_Bs_isRightByTwo_36 (by decide) ?_
    refine x_irem d_Bs_isRightByTwo_37 (by decide) ?_
    obtain ⟨v38, δ38, eδ38, h⟩ := bd2_e h
    refine y_V2 cs_Bs_307 rfl (hG.ob oc_2) (by first | decide | omega) (Nat.le_of_ble_eq_true rfl) d_Bs_isRightByTwo_38 (c_Pr_change hG 2 (x3 / 4) (x3 - x3 / 4 * 4) oc_2 δ25 (v38, δ38) eδ38) (Nat.le_refl 0) (Nat.le_refl 0) ?_
    refine x_if_ne (tgt := 47) d_Bs_isRightByTwo_41 (by decide) (fun c41 => ?_) (fun c41 => ?_)
    · have h := if_f c41 h
      refine x_ic (v := 0) d_Bs_isRightByTwo_47 (by decide) ?_
      refine x_stw (i := 4) (ls' := [some (.inr (0, 0)), some (.inl x1), some (.inl x2), some (.inl x3), some (.inl 0)]) d_Bs_isRightByTwo_48 (by decide) rfl ?_
      exact j_Bs_isRightByTwo_50 hG x1 k12 FU x2 x3 0 δ38 r hk12 h
    · have h := if_t c41 h
      refine x_goto (tgt := 125) d_Bs_isRightByTwo_44 (by decide) ?_
      exact j_Bs_isRightByTwo_125 hG x1 k12 x2 x3 δ38 r hk12 h
def F_Bs_isRightByTwo_12 (x1 : Int32) : Nat → Int32 → Int32 → Dl → Option (Int32 × Dl)
  | 0, _, _, _ => none
  | n + 1, x2, x3, δ => F_Bs_isRightByTwo_12_b x1 (F_Bs_isRightByTwo_12 x1 n) x2 x3 δ
theorem j_Bs_isRightByTwo_12 {l : Launch} {Γ : Gm} (hG : GC Γ) (x1 : Int32) (n : Nat) (x2 : Int32) (x3 : Int32) (δ : Dl) (r : Int32 × Dl) (h : F_Bs_isRightByTwo_12 x1 n x2 x3 δ = some r) : Xe l M_Bs_isRightByTwo 45 0 0 NF 12 [some (.inr (0, 0)), some (.inl x1), some (.inl x2), some (.inl x3), none] [] 0 0 Γ δ (some (.inl r.1), Γ, r.2) := by
  induction n generalizing x2 x3 δ with
  | zero => cases h
  | succ n ih => exact j_Bs_isRightByTwo_12_b hG x1 (F_Bs_isRightByTwo_12 x1 n) x2 x3 δ r (fun x2 x3 δ hh => ih x2 x3 δ hh) h
def F_Bs_isRightByTwo (x1 : Int32) (δ : Dl) : Option (Int32 × Dl) :=
  F_Bs_isRightByTwo_12 x1 FU (((δ.1 30 1) * 4)) 0 δ
set_option maxRecDepth 20000 in
set_option maxHeartbeats 4000000 in
theorem c_Bs_isRightByTwo {l : Launch} {Γ : Gm} (hG : GC Γ) (x1 : Int32) (δ : Dl) (r : Int32 × Dl) (h : F_Bs_isRightByTwo x1  δ = some r) : Ct l M_Bs_isRightByTwo 45 0 0 NF [.inr (0, 0), .inl x1] Γ δ (some (.inl r.1), Γ, r.2) := by
  unfold F_Bs_isRightByTwo at h
  refine Ct.of2 (n := 3) (ls := [some (.inr (0, 0)), some (.inl x1), none, none, none]) rfl (by decide +kernel) (Nat.le_of_ble_eq_true rfl) ?_
  refine x_aload_n (i := 0) d_Bs_isRightByTwo_0 rfl rfl ?_
  refine x_getS (f := 90) (b := 1) gl_Bs_14_11 rfl kf_90 rfl (hG.ob oc_0) d_Bs_isRightByTwo_1 ?_
  refine x_getI (f := 30) gl_Bs_165_3 rfl kf_30 (hG.ob oc_1) d_Bs_isRightByTwo_4 ?_
  refine x_ic (v := 4) d_Bs_isRightByTwo_7 (by decide) ?_
  refine x_imul d_Bs_isRightByTwo_8 ?_
  refine x_stn (i := 2) (ls' := [some (.inr (0, 0)), some (.inl x1), some (.inl ((δ.1 30 1) * 4)), none, none]) d_Bs_isRightByTwo_9 rfl (by decide) rfl ?_
  refine x_ic (v := 0) d_Bs_isRightByTwo_10 (by decide) ?_
  refine x_stn (i := 3) (ls' := [some (.inr (0, 0)), some (.inl x1), some (.inl ((δ.1 30 1) * 4)), some (.inl 0), none]) d_Bs_isRightByTwo_11 rfl (by decide) rfl ?_
  exact j_Bs_isRightByTwo_12 hG x1 FU (((δ.1 30 1) * 4)) 0 δ r h
-- BlockStage.least(I)I
theorem d_Bs_least_0 : decode M_Bs_least.2.1 0 = .ok (.iload_n 1, 1) := by decide +kernel
theorem d_Bs_least_1 : decode M_Bs_least.2.1 1 = .ok (.iconst 1, 1) := by decide +kernel
theorem d_Bs_least_2 : decode M_Bs_least.2.1 2 = .ok (.if_icmp .lt 9, 3) := by decide +kernel
theorem d_Bs_least_5 : decode M_Bs_least.2.1 5 = .ok (.iload_n 1, 1) := by decide +kernel
theorem d_Bs_least_6 : decode M_Bs_least.2.1 6 = .ok (.bipush 40, 2) := by decide +kernel
theorem d_Bs_least_8 : decode M_Bs_least.2.1 8 = .ok (.if_icmp .le 6, 3) := by decide +kernel
theorem d_Bs_least_11 : decode M_Bs_least.2.1 11 = .ok (.bipush (-2), 2) := by decide +kernel
theorem d_Bs_least_13 : decode M_Bs_least.2.1 13 = .ok (.ireturn, 1) := by decide +kernel
theorem d_Bs_least_14 : decode M_Bs_least.2.1 14 = .ok (.aload_n 0, 1) := by decide +kernel
theorem d_Bs_least_15 : decode M_Bs_least.2.1 15 = .ok (.invokevirtual 290, 3) := by decide +kernel
theorem d_Bs_least_18 : decode M_Bs_least.2.1 18 = .ok (.ifCond .eq 15, 3) := by decide +kernel
theorem d_Bs_least_21 : decode M_Bs_least.2.1 21 = .ok (.aload_n 0, 1) := by decide +kernel
theorem d_Bs_least_22 : decode M_Bs_least.2.1 22 = .ok (.getfield 14, 3) := by decide +kernel
theorem d_Bs_least_25 : decode M_Bs_least.2.1 25 = .ok (.getfield 165, 3) := by decide +kernel
theorem d_Bs_least_28 : decode M_Bs_least.2.1 28 = .ok (.bipush 8, 2) := by decide +kernel
theorem d_Bs_least_30 : decode M_Bs_least.2.1 30 = .ok (.if_icmp .le 6, 3) := by decide +kernel
theorem d_Bs_least_33 : decode M_Bs_least.2.1 33 = .ok (.bipush (-3), 2) := by decide +kernel
theorem d_Bs_least_35 : decode M_Bs_least.2.1 35 = .ok (.ireturn, 1) := by decide +kernel
theorem d_Bs_least_36 : decode M_Bs_least.2.1 36 = .ok (.aload_n 0, 1) := by decide +kernel
theorem d_Bs_least_37 : decode M_Bs_least.2.1 37 = .ok (.iconst 0, 1) := by decide +kernel
theorem d_Bs_least_38 : decode M_Bs_least.2.1 38 = .ok (.putfield 93, 3) := by decide +kernel
theorem d_Bs_least_41 : decode M_Bs_least.2.1 41 = .ok (.aload_n 0, 1) := by decide +kernel
theorem d_Bs_least_42 : decode M_Bs_least.2.1 42 = .ok (.getfield 43, 3) := by decide +kernel
theorem d_Bs_least_45 : decode M_Bs_least.2.1 45 = .ok (.getfield 252, 3) := by decide +kernel
theorem d_Bs_least_48 : decode M_Bs_least.2.1 48 = .ok (.aload_n 0, 1) := by decide +kernel
theorem d_Bs_least_49 : decode M_Bs_least.2.1 49 = .ok (.getfield 14, 3) := by decide +kernel
theorem d_Bs_least_52 : decode M_Bs_least.2.1 52 = .ok (.invokevirtual 253, 3) := by decide +kernel
theorem d_Bs_least_55 : decode M_Bs_least.2.1 55 = .ok (.aload_n 0, 1) := by decide +kernel
theorem d_Bs_least_56 : decode M_Bs_least.2.1 56 = .ok (.iload_n 1, 1) := by decide +kernel
theorem d_Bs_least_57 : decode M_Bs_least.2.1 57 = .ok (.invokevirtual 298, 3) := by decide +kernel
theorem d_Bs_least_60 : decode M_Bs_least.2.1 60 = .ok (.ifCond .eq 5, 3) := by decide +kernel
theorem d_Bs_least_63 : decode M_Bs_least.2.1 63 = .ok (.iconst 0, 1) := by decide +kernel
theorem d_Bs_least_64 : decode M_Bs_least.2.1 64 = .ok (.ireturn, 1) := by decide +kernel
theorem d_Bs_least_65 : decode M_Bs_least.2.1 65 = .ok (.aload_n 0, 1) := by decide +kernel
theorem d_Bs_least_66 : decode M_Bs_least.2.1 66 = .ok (.iload_n 1, 1) := by decide +kernel
theorem d_Bs_least_67 : decode M_Bs_least.2.1 67 = .ok (.invokevirtual 301, 3) := by decide +kernel
theorem d_Bs_least_70 : decode M_Bs_least.2.1 70 = .ok (.ifCond .eq 5, 3) := by decide +kernel
theorem d_Bs_least_73 : decode M_Bs_least.2.1 73 = .ok (.iconst 1, 1) := by decide +kernel
theorem d_Bs_least_74 : decode M_Bs_least.2.1 74 = .ok (.ireturn, 1) := by decide +kernel
theorem d_Bs_least_75 : decode M_Bs_least.2.1 75 = .ok (.aload_n 0, 1) := by decide +kernel
theorem d_Bs_least_76 : decode M_Bs_least.2.1 76 = .ok (.iload_n 1, 1) := by decide +kernel
theorem d_Bs_least_77 : decode M_Bs_least.2.1 77 = .ok (.invokevirtual 304, 3) := by decide +kernel
theorem d_Bs_least_80 : decode M_Bs_least.2.1 80 = .ok (.ifCond .eq 5, 3) := by decide +kernel
theorem d_Bs_least_83 : decode M_Bs_least.2.1 83 = .ok (.iconst 2, 1) := by decide +kernel
theorem d_Bs_least_84 : decode M_Bs_least.2.1 84 = .ok (.ireturn, 1) := by decide +kernel
theorem d_Bs_least_85 : decode M_Bs_least.2.1 85 = .ok (.iconst (-1), 1) := by decide +kernel
theorem d_Bs_least_86 : decode M_Bs_least.2.1 86 = .ok (.ireturn, 1) := by decide +kernel
theorem mi_Bs_isRightByOne : MI M_Bs_isRightByOne 1 := ⟨(lwg_at 1 (by decide +kernel) rfl), (lwg_at 849 (by decide +kernel) rfl), ⟨by decide +kernel, by decide +kernel⟩, by decide +kernel, by decide⟩
theorem cs_Bs_301 : CV RX11 301 RX11 M_Bs_isRightByOne 1 := ⟨(lwg_at 846 (by decide +kernel) rfl), (lwg_at 848 (by decide +kernel) rfl), (lwg_priv 19 (y := M_Bs_isRightByOne.1) (n := 18) (by decide +kernel)), mi_Bs_isRightByOne⟩
theorem mi_Bs_isRightByTwo : MI M_Bs_isRightByTwo 1 := ⟨(lwg_at 1 (by decide +kernel) rfl), (lwg_at 880 (by decide +kernel) rfl), ⟨by decide +kernel, by decide +kernel⟩, by decide +kernel, by decide⟩
theorem cs_Bs_304 : CV RX11 304 RX11 M_Bs_isRightByTwo 1 := ⟨(lwg_at 877 (by decide +kernel) rfl), (lwg_at 879 (by decide +kernel) rfl), (lwg_priv 23 (y := M_Bs_isRightByTwo.1) (n := 18) (by decide +kernel)), mi_Bs_isRightByTwo⟩
def F_Bs_least (x1 : Int32) (δ : Dl) : Option (Int32 × Dl) :=
  if x1 < 1 then (some ((-2), δ)) else (if x1 ≤ 40 then ((F_Bs_canMark δ).bind fun v15 => if v15 = 0 then (some ((-3), δ)) else (if (δ.1 30 1) ≤ 8 then (bnd (sI δ 107 0 0) fun δ38 => (F_Pr_copyFrom 12 1 δ38).bind fun δ52 => bd2 (F_Bs_isRight x1 δ52) fun v57 δ57 => if v57 = 0 then (bd2 (F_Bs_isRightByOne x1 δ57) fun v67 δ67 => if v67 = 0 then (bd2 (F_Bs_isRightByTwo x1 δ67) fun v77 δ77 => if v77 = 0 then (some ((-1), δ77)) else (some (2, δ77))) else (some (1, δ67))) else (some (0, δ57))) else (some ((-3), δ)))) else (some ((-2), δ)))
set_option maxRecDepth 20000 in
set_option maxHeartbeats 4000000 in
theorem c_Bs_least {l : Launch} {Γ : Gm} (hG : GC Γ) (x1 : Int32) (δ : Dl) (r : Int32 × Dl) (h : F_Bs_least x1  δ = some r) : Ct l M_Bs_least 46 0 0 NF [.inr (0, 0), .inl x1] Γ δ (some (.inl r.1), Γ, r.2) := by
  unfold F_Bs_least at h
  refine Ct.of2 (n := 0) (ls := [some (.inr (0, 0)), some (.inl x1)]) rfl (by decide +kernel) (Nat.le_of_ble_eq_true rfl) ?_
  refine x_iload_n (i := 1) d_Bs_least_0 rfl rfl ?_
  refine x_ic (v := 1) d_Bs_least_1 (by decide) ?_
  refine x_cmp_lt (tgt := 11) d_Bs_least_2 (by decide) (fun c2 => ?_) (fun c2 => ?_)
  · have h := if_t c2 h
    refine x_bi (v := -2) d_Bs_least_11 (by decide) ?_
    replace h := Option.some.inj h; subst h
    exact x_iret rfl d_Bs_least_13 (Nat.le_refl 0) (Nat.le_refl 0)
  · have h := if_f c2 h
    refine x_iload_n (i := 1) d_Bs_least_5 rfl rfl ?_
    refine x_bi (v := 40) d_Bs_least_6 (by decide) ?_
    refine x_cmp_le (tgt := 14) d_Bs_least_8 (by decide) (fun c8 => ?_) (fun c8 => ?_)
    · have h := if_t c8 h
      refine x_aload_n (i := 0) d_Bs_least_14 rfl rfl ?_
      obtain ⟨v15, ev15, h⟩ := bd_e h
      refine y_V0 cs_Bs_290 rfl (hG.ob oc_0) (by first | decide | omega) (Nat.le_of_ble_eq_true rfl) d_Bs_least_15 (c_Bs_canMark hG   δ v15 ev15) (Nat.le_refl 0) (Nat.le_refl 0) ?_
      refine x_if_eq (tgt := 33) d_Bs_least_18 (by decide) (fun c18 => ?_) (fun c18 => ?_)
      · have h := if_t c18 h
        refine x_bi (v := -3) d_Bs_least_33 (by decide) ?_
        replace h := Option.some.inj h; subst h
        exact x_iret rfl d_Bs_least_35 (Nat.le_refl 0) (Nat.le_refl 0)
      · have h := if_f c18 h
        refine x_aload_n (i := 0) d_Bs_least_21 rfl rfl ?_
        refine x_getS (f := 90) (b := 1) gl_Bs_14_11 rfl kf_90 rfl (hG.ob oc_0) d_Bs_least_22 ?_
        refine x_getI (f := 30) gl_Bs_165_3 rfl kf_30 (hG.ob oc_1) d_Bs_least_25 ?_
        refine x_bi (v := 8) d_Bs_least_28 (by decide) ?_
        refine x_cmp_le (tgt := 36) d_Bs_least_30 (by decide) (fun c30 => ?_) (fun c30 => ?_)
        · have h := if_t c30 h
          refine x_aload_n (i := 0) d_Bs_least_36 rfl rfl ?_
          refine x_ic (v := 0) d_Bs_least_37 (by decide) ?_
          obtain ⟨δ38, eδ38, h⟩ := bn_e h
          refine x_putI (f := 107) gp_Bs_93_11 rfl kf_107 (fun h => by cases h) rfl rfl (hG.ob oc_0).1 (hG.ob oc_0).z d_Bs_least_38 (Xe.cδ eδ38 ?_)
          refine x_aload_n (i := 0) d_Bs_least_41 rfl rfl ?_
          refine x_getS (f := 96) (b := 11) gl_Bs_43_11 rfl kf_96 rfl (hG.ob oc_0) d_Bs_least_42 ?_
          refine x_getS (f := 40) (b := 12) gl_Bs_252_5 rfl kf_40 rfl (hG.ob oc_11) d_Bs_least_45 ?_
          refine x_aload_n (i := 0) d_Bs_least_48 rfl rfl ?_
          refine x_getS (f := 90) (b := 1) gl_Bs_14_11 rfl kf_90 rfl (hG.ob oc_0) d_Bs_least_49 ?_
          obtain ⟨δ52, eδ52, h⟩ := bd_e h
          refine y_V1v cs_Bs_253 rfl (hG.ob oc_12) (by first | decide | omega) (Nat.le_of_ble_eq_true rfl) d_Bs_least_52 (c_Pr_copyFrom hG 12 1 oc_12 oc_1 δ38 δ52 eδ52) (Nat.le_refl 0) (Nat.le_refl 0) ?_
          refine x_aload_n (i := 0) d_Bs_least_55 rfl rfl ?_
          refine x_iload_n (i := 1) d_Bs_least_56 rfl rfl ?_
          obtain ⟨v57, δ57, eδ57, h⟩ := bd2_e h
          refine y_V1 cs_Bs_298 rfl (hG.ob oc_0) (by first | decide | omega) (Nat.le_of_ble_eq_true rfl) d_Bs_least_57 (c_Bs_isRight hG x1  δ52 (v57, δ57) eδ57) (Nat.le_refl 0) (Nat.le_refl 0) ?_
          refine x_if_eq (tgt := 65) d_Bs_least_60 (by decide) (fun c60 => ?_) (fun c60 => ?_)
          · have h := if_t c60 h
            refine x_aload_n (i := 0) d_Bs_least_65 rfl rfl ?_
            refine x_iload_n (i := 1) d_Bs_least_66 rfl rfl ?_
            obtain ⟨v67, δ67, eδ67, h⟩ := bd2_e h
            refine y_V1 cs_Bs_301 rfl (hG.ob oc_0) (by first | decide | omega) (Nat.le_of_ble_eq_true rfl) d_Bs_least_67 (c_Bs_isRightByOne hG x1  δ57 (v67, δ67) eδ67) (Nat.le_refl 0) (Nat.le_refl 0) ?_
            refine x_if_eq (tgt := 75) d_Bs_least_70 (by decide) (fun c70 => ?_) (fun c70 => ?_)
            · have h := if_t c70 h
              refine x_aload_n (i := 0) d_Bs_least_75 rfl rfl ?_
              refine x_iload_n (i := 1) d_Bs_least_76 rfl rfl ?_
              obtain ⟨v77, δ77, eδ77, h⟩ := bd2_e h
              refine y_V1 cs_Bs_304 rfl (hG.ob oc_0) (by first | decide | omega) (Nat.le_of_ble_eq_true rfl) d_Bs_least_77 (c_Bs_isRightByTwo hG x1  δ67 (v77, δ77) eδ77) (Nat.le_refl 0) (Nat.le_refl 0) ?_
              refine x_if_eq (tgt := 85) d_Bs_least_80 (by decide) (fun c80 => ?_) (fun c80 => ?_)
              · have h := if_t c80 h
                refine x_ic (v := -1) d_Bs_least_85 (by decide) ?_
                replace h := Option.some.inj h; subst h
                exact x_iret rfl d_Bs_least_86 (Nat.le_refl 0) (Nat.le_refl 0)
              · have h := if_f c80 h
                refine x_ic (v := 2) d_Bs_least_83 (by decide) ?_
                replace h := Option.some.inj h; subst h
                exact x_iret rfl d_Bs_least_84 (Nat.le_refl 0) (Nat.le_refl 0)
            · have h := if_f c70 h
              refine x_ic (v := 1) d_Bs_least_73 (by decide) ?_
              replace h := Option.some.inj h; subst h
              exact x_iret rfl d_Bs_least_74 (Nat.le_refl 0) (Nat.le_refl 0)
          · have h := if_f c60 h
            refine x_ic (v := 0) d_Bs_least_63 (by decide) ?_
            replace h := Option.some.inj h; subst h
            exact x_iret rfl d_Bs_least_64 (Nat.le_refl 0) (Nat.le_refl 0)
        · have h := if_f c30 h
          refine x_bi (v := -3) d_Bs_least_33 (by decide) ?_
          replace h := Option.some.inj h; subst h
          exact x_iret rfl d_Bs_least_35 (Nat.le_refl 0) (Nat.le_refl 0)
    · have h := if_f c8 h
      refine x_bi (v := -2) d_Bs_least_11 (by decide) ?_
      replace h := Option.some.inj h; subst h
      exact x_iret rfl d_Bs_least_13 (Nat.le_refl 0) (Nat.le_refl 0)
-- BlockStage.hint(II)I
theorem d_Bs_hint_0 : decode M_Bs_hint.2.1 0 = .ok (.iload_n 1, 1) := by decide +kernel
theorem d_Bs_hint_1 : decode M_Bs_hint.2.1 1 = .ok (.ifCond .lt 20, 3) := by decide +kernel
theorem d_Bs_hint_4 : decode M_Bs_hint.2.1 4 = .ok (.iload_n 1, 1) := by decide +kernel
theorem d_Bs_hint_5 : decode M_Bs_hint.2.1 5 = .ok (.aload_n 0, 1) := by decide +kernel
theorem d_Bs_hint_6 : decode M_Bs_hint.2.1 6 = .ok (.getfield 93, 3) := by decide +kernel
theorem d_Bs_hint_9 : decode M_Bs_hint.2.1 9 = .ok (.if_icmp .ge 12, 3) := by decide +kernel
theorem d_Bs_hint_12 : decode M_Bs_hint.2.1 12 = .ok (.iload_n 2, 1) := by decide +kernel
theorem d_Bs_hint_13 : decode M_Bs_hint.2.1 13 = .ok (.ifCond .lt 8, 3) := by decide +kernel
theorem d_Bs_hint_16 : decode M_Bs_hint.2.1 16 = .ok (.iload_n 2, 1) := by decide +kernel
theorem d_Bs_hint_17 : decode M_Bs_hint.2.1 17 = .ok (.iconst 1, 1) := by decide +kernel
theorem d_Bs_hint_18 : decode M_Bs_hint.2.1 18 = .ok (.if_icmp .le 6, 3) := by decide +kernel
theorem d_Bs_hint_21 : decode M_Bs_hint.2.1 21 = .ok (.bipush (-5), 2) := by decide +kernel
theorem d_Bs_hint_23 : decode M_Bs_hint.2.1 23 = .ok (.ireturn, 1) := by decide +kernel
theorem d_Bs_hint_24 : decode M_Bs_hint.2.1 24 = .ok (.iconst 2, 1) := by decide +kernel
theorem d_Bs_hint_25 : decode M_Bs_hint.2.1 25 = .ok (.iload_n 1, 1) := by decide +kernel
theorem d_Bs_hint_26 : decode M_Bs_hint.2.1 26 = .ok (.imul, 1) := by decide +kernel
theorem d_Bs_hint_27 : decode M_Bs_hint.2.1 27 = .ok (.iload_n 2, 1) := by decide +kernel
theorem d_Bs_hint_28 : decode M_Bs_hint.2.1 28 = .ok (.iadd, 1) := by decide +kernel
theorem d_Bs_hint_29 : decode M_Bs_hint.2.1 29 = .ok (.istore_n 3, 1) := by decide +kernel
theorem d_Bs_hint_30 : decode M_Bs_hint.2.1 30 = .ok (.iload_n 3, 1) := by decide +kernel
theorem d_Bs_hint_31 : decode M_Bs_hint.2.1 31 = .ok (.aload_n 0, 1) := by decide +kernel
theorem d_Bs_hint_32 : decode M_Bs_hint.2.1 32 = .ok (.getfield 89, 3) := by decide +kernel
theorem d_Bs_hint_35 : decode M_Bs_hint.2.1 35 = .ok (.arraylength, 1) := by decide +kernel
theorem d_Bs_hint_36 : decode M_Bs_hint.2.1 36 = .ok (.if_icmp .ge 12, 3) := by decide +kernel
theorem d_Bs_hint_39 : decode M_Bs_hint.2.1 39 = .ok (.aload_n 0, 1) := by decide +kernel
theorem d_Bs_hint_40 : decode M_Bs_hint.2.1 40 = .ok (.getfield 89, 3) := by decide +kernel
theorem d_Bs_hint_43 : decode M_Bs_hint.2.1 43 = .ok (.iload_n 3, 1) := by decide +kernel
theorem d_Bs_hint_44 : decode M_Bs_hint.2.1 44 = .ok (.iaload, 1) := by decide +kernel
theorem d_Bs_hint_45 : decode M_Bs_hint.2.1 45 = .ok (.goto 5, 3) := by decide +kernel
theorem d_Bs_hint_48 : decode M_Bs_hint.2.1 48 = .ok (.bipush (-5), 2) := by decide +kernel
theorem d_Bs_hint_50 : decode M_Bs_hint.2.1 50 = .ok (.ireturn, 1) := by decide +kernel
theorem gl_Bs_93_11 : GL RX11 93 11 17 := ⟨RX11, TX11, 18, RX11, rfl, by decide, (lwg_at 252 (by decide +kernel) rfl), Or.inl rfl, gl_w inX11⟩
def F_Bs_hint (x1 : Int32) (x2 : Int32) (δ : Dl) : Option (Int32) :=
  if x1 < 0 then (some (-5)) else (if (δ.1 107 0) ≤ x1 then (some (-5)) else (if x2 < 0 then (some (-5)) else (if x2 ≤ 1 then (if 4 ≤ ((2 * x1) + x2) then (some (-5)) else (if inb ((2 * x1) + x2) 4 then some (δ.2.1 106 0 ((2 * x1) + x2)) else none)) else (some (-5)))))
set_option maxRecDepth 20000 in
set_option maxHeartbeats 4000000 in
theorem c_Bs_hint {l : Launch} {Γ : Gm} (hG : GC Γ) (x1 : Int32) (x2 : Int32) (δ : Dl) (r : Int32) (h : F_Bs_hint x1 x2  δ = some r) : Ct l M_Bs_hint 0 0 0 NF [.inr (0, 0), .inl x1, .inl x2] Γ δ (some (.inl r), Γ, δ) := by
  unfold F_Bs_hint at h
  refine Ct.of2 (n := 1) (ls := [some (.inr (0, 0)), some (.inl x1), some (.inl x2), none]) rfl (by decide +kernel) (Nat.le_of_ble_eq_true rfl) ?_
  refine x_iload_n (i := 1) d_Bs_hint_0 rfl rfl ?_
  refine x_if_lt (tgt := 21) d_Bs_hint_1 (by decide) (fun c1 => ?_) (fun c1 => ?_)
  · have h := if_t c1 h
    refine x_bi (v := -5) d_Bs_hint_21 (by decide) ?_
    replace h := Option.some.inj h; subst h
    exact x_iret rfl d_Bs_hint_23 (Nat.le_refl 0) (Nat.le_refl 0)
  · have h := if_f c1 h
    refine x_iload_n (i := 1) d_Bs_hint_4 rfl rfl ?_
    refine x_aload_n (i := 0) d_Bs_hint_5 rfl rfl ?_
    refine x_getI (f := 107) gl_Bs_93_11 rfl kf_107 (hG.ob oc_0) d_Bs_hint_6 ?_
    refine x_cmp_ge (tgt := 21) d_Bs_hint_9 (by decide) (fun c9 => ?_) (fun c9 => ?_)
    · have h := if_t c9 h
      refine x_bi (v := -5) d_Bs_hint_21 (by decide) ?_
      replace h := Option.some.inj h; subst h
      exact x_iret rfl d_Bs_hint_23 (Nat.le_refl 0) (Nat.le_refl 0)
    · have h := if_f c9 h
      refine x_iload_n (i := 2) d_Bs_hint_12 rfl rfl ?_
      refine x_if_lt (tgt := 21) d_Bs_hint_13 (by decide) (fun c13 => ?_) (fun c13 => ?_)
      · have h := if_t c13 h
        refine x_bi (v := -5) d_Bs_hint_21 (by decide) ?_
        replace h := Option.some.inj h; subst h
        exact x_iret rfl d_Bs_hint_23 (Nat.le_refl 0) (Nat.le_refl 0)
      · have h := if_f c13 h
        refine x_iload_n (i := 2) d_Bs_hint_16 rfl rfl ?_
        refine x_ic (v := 1) d_Bs_hint_17 (by decide) ?_
        refine x_cmp_le (tgt := 24) d_Bs_hint_18 (by decide) (fun c18 => ?_) (fun c18 => ?_)
        · have h := if_t c18 h
          refine x_ic (v := 2) d_Bs_hint_24 (by decide) ?_
          refine x_iload_n (i := 1) d_Bs_hint_25 rfl rfl ?_
          refine x_imul d_Bs_hint_26 ?_
          refine x_iload_n (i := 2) d_Bs_hint_27 rfl rfl ?_
          refine x_iadd d_Bs_hint_28 ?_
          refine x_stn (i := 3) (ls' := [some (.inr (0, 0)), some (.inl x1), some (.inl x2), some (.inl ((2 * x1) + x2))]) d_Bs_hint_29 rfl (by decide) rfl ?_
          refine x_iload_n (i := 3) d_Bs_hint_30 rfl rfl ?_
          refine x_aload_n (i := 0) d_Bs_hint_31 rfl rfl ?_
          refine x_getA (f := 106) gl_Bs_89_11 rfl (by rw [kf_106]; decide) (hG.ob oc_0) d_Bs_hint_32 ?_
          refine x_alen (n := 4) (Or.inl kf_106) (oz_106 (hG.ob oc_0)) (lo_106 _) d_Bs_hint_35 ?_
          refine x_cmp_ge (tgt := 48) d_Bs_hint_36 (by decide) (fun c36 => ?_) (fun c36 => ?_)
          · have h := if_t c36 h
            refine x_bi (v := -5) d_Bs_hint_48 (by decide) ?_
            replace h := Option.some.inj h; subst h
            exact x_iret rfl d_Bs_hint_50 (Nat.le_refl 0) (Nat.le_refl 0)
          · have h := if_f c36 h
            refine x_aload_n (i := 0) d_Bs_hint_39 rfl rfl ?_
            refine x_getA (f := 106) gl_Bs_89_11 rfl (by rw [kf_106]; decide) (hG.ob oc_0) d_Bs_hint_40 ?_
            refine x_iload_n (i := 3) d_Bs_hint_43 rfl rfl ?_
            obtain ⟨g44, h⟩ := gd_e h
            refine x_iald (n := 4) kf_106 (oz_106 (hG.ob oc_0)) (ln_106 _) g44 d_Bs_hint_44 ?_
            refine x_goto (tgt := 50) d_Bs_hint_45 (by decide) ?_
            replace h := Option.some.inj h; subst h
            exact x_iret rfl d_Bs_hint_50 (Nat.le_refl 0) (Nat.le_refl 0)
        · have h := if_f c18 h
          refine x_bi (v := -5) d_Bs_hint_21 (by decide) ?_
          replace h := Option.some.inj h; subst h
          exact x_iret rfl d_Bs_hint_23 (Nat.le_refl 0) (Nat.le_refl 0)
-- BlockStage.write(I)I
theorem d_Bs_write_0 : decode M_Bs_write.2.1 0 = .ok (.aload_n 0, 1) := by decide +kernel
theorem d_Bs_write_1 : decode M_Bs_write.2.1 1 = .ok (.getfield 14, 3) := by decide +kernel
theorem d_Bs_write_4 : decode M_Bs_write.2.1 4 = .ok (.iload_n 1, 1) := by decide +kernel
theorem d_Bs_write_5 : decode M_Bs_write.2.1 5 = .ok (.invokevirtual 217, 3) := by decide +kernel
theorem d_Bs_write_8 : decode M_Bs_write.2.1 8 = .ok (.ifCond .ne 5, 3) := by decide +kernel
theorem d_Bs_write_11 : decode M_Bs_write.2.1 11 = .ok (.iconst (-1), 1) := by decide +kernel
theorem d_Bs_write_12 : decode M_Bs_write.2.1 12 = .ok (.ireturn, 1) := by decide +kernel
theorem d_Bs_write_13 : decode M_Bs_write.2.1 13 = .ok (.aload_n 0, 1) := by decide +kernel
theorem d_Bs_write_14 : decode M_Bs_write.2.1 14 = .ok (.getfield 14, 3) := by decide +kernel
theorem d_Bs_write_17 : decode M_Bs_write.2.1 17 = .ok (.iload_n 1, 1) := by decide +kernel
theorem d_Bs_write_18 : decode M_Bs_write.2.1 18 = .ok (.invokevirtual 220, 3) := by decide +kernel
theorem d_Bs_write_21 : decode M_Bs_write.2.1 21 = .ok (.istore_n 2, 1) := by decide +kernel
theorem d_Bs_write_22 : decode M_Bs_write.2.1 22 = .ok (.iload_n 2, 1) := by decide +kernel
theorem d_Bs_write_23 : decode M_Bs_write.2.1 23 = .ok (.iconst (-1), 1) := by decide +kernel
theorem d_Bs_write_24 : decode M_Bs_write.2.1 24 = .ok (.if_icmp .ne 6, 3) := by decide +kernel
theorem d_Bs_write_27 : decode M_Bs_write.2.1 27 = .ok (.bipush (-3), 2) := by decide +kernel
theorem d_Bs_write_29 : decode M_Bs_write.2.1 29 = .ok (.ireturn, 1) := by decide +kernel
theorem d_Bs_write_30 : decode M_Bs_write.2.1 30 = .ok (.aload_n 0, 1) := by decide +kernel
theorem d_Bs_write_31 : decode M_Bs_write.2.1 31 = .ok (.getfield 55, 3) := by decide +kernel
theorem d_Bs_write_34 : decode M_Bs_write.2.1 34 = .ok (.invokevirtual 284, 3) := by decide +kernel
theorem d_Bs_write_37 : decode M_Bs_write.2.1 37 = .ok (.aload_n 0, 1) := by decide +kernel
theorem d_Bs_write_38 : decode M_Bs_write.2.1 38 = .ok (.getfield 14, 3) := by decide +kernel
theorem d_Bs_write_41 : decode M_Bs_write.2.1 41 = .ok (.iload_n 2, 1) := by decide +kernel
theorem d_Bs_write_42 : decode M_Bs_write.2.1 42 = .ok (.aload_n 0, 1) := by decide +kernel
theorem d_Bs_write_43 : decode M_Bs_write.2.1 43 = .ok (.getfield 55, 3) := by decide +kernel
theorem d_Bs_write_46 : decode M_Bs_write.2.1 46 = .ok (.iconst 0, 1) := by decide +kernel
theorem d_Bs_write_47 : decode M_Bs_write.2.1 47 = .ok (.invokevirtual 313, 3) := by decide +kernel
theorem d_Bs_write_50 : decode M_Bs_write.2.1 50 = .ok (.aload_n 0, 1) := by decide +kernel
theorem d_Bs_write_51 : decode M_Bs_write.2.1 51 = .ok (.getfield 55, 3) := by decide +kernel
theorem d_Bs_write_54 : decode M_Bs_write.2.1 54 = .ok (.getfield 274, 3) := by decide +kernel
theorem d_Bs_write_57 : decode M_Bs_write.2.1 57 = .ok (.ireturn, 1) := by decide +kernel
theorem gl_Bs_55_11 : GL RX11 55 11 8 := ⟨RX11, TX11, 18, RX11, rfl, by decide, (lwg_at 243 (by decide +kernel) rfl), Or.inl rfl, gl_w inX11⟩
theorem oc_15 : Oc 15 0 := by decide
theorem cs_Bs_313 : CVN RX11 313 RX11 RX3 M_Pr_spell 3 := ⟨(List.mem_of_getElem? (i := 889) (by decide +kernel)), (lwg_at 891 (by decide +kernel) rfl), (lwg_priv 24 (y := M_Pr_spell.1) (n := 5) (by decide +kernel)), mi_Pr_spell⟩
def F_Bs_write (x1 : Int32) (δ : Dl) : Option (Int32 × Dl) :=
  bnd (F_Pr_isScript 1 x1 δ) fun v5 => if v5 = 0 then (some ((-1), δ)) else ((F_Pr_topOf 1 x1 δ).bind fun v18 => if v18 = (-1) then (some ((-3), δ)) else (bnd (F_By_clear 15 δ) fun δ34 => (F_Pr_spell RF 1 v18 15 0 δ34).bind fun δ47 => some ((δ47.1 10 15), δ47)))
set_option maxRecDepth 20000 in
set_option maxHeartbeats 4000000 in
theorem c_Bs_write {l : Launch} {Γ : Gm} (hG : GC Γ) (x1 : Int32) (δ : Dl) (r : Int32 × Dl) (h : F_Bs_write x1  δ = some r) : Ct l M_Bs_write 81 0 0 NF [.inr (0, 0), .inl x1] Γ δ (some (.inl r.1), Γ, r.2) := by
  unfold F_Bs_write at h
  refine Ct.of2 (n := 1) (ls := [some (.inr (0, 0)), some (.inl x1), none]) rfl (by decide +kernel) (Nat.le_of_ble_eq_true rfl) ?_
  refine x_aload_n (i := 0) d_Bs_write_0 rfl rfl ?_
  refine x_getS (f := 90) (b := 1) gl_Bs_14_11 rfl kf_90 rfl (hG.ob oc_0) d_Bs_write_1 ?_
  refine x_iload_n (i := 1) d_Bs_write_4 rfl rfl ?_
  obtain ⟨v5, ev5, h⟩ := bn_e h
  refine y_V1 cs_Bs_217 rfl (hG.ob oc_1) (by first | decide | omega) (Nat.le_of_ble_eq_true rfl) d_Bs_write_5 (c_Pr_isScript hG 1 x1 oc_1 δ v5 ev5) (Nat.le_refl 0) (Nat.le_refl 0) ?_
  refine x_if_ne (tgt := 13) d_Bs_write_8 (by decide) (fun c8 => ?_) (fun c8 => ?_)
  · have h := if_f c8 h
    refine x_aload_n (i := 0) d_Bs_write_13 rfl rfl ?_
    refine x_getS (f := 90) (b := 1) gl_Bs_14_11 rfl kf_90 rfl (hG.ob oc_0) d_Bs_write_14 ?_
    refine x_iload_n (i := 1) d_Bs_write_17 rfl rfl ?_
    obtain ⟨v18, ev18, h⟩ := bd_e h
    refine y_V1 cs_Bs_220 rfl (hG.ob oc_1) (by first | decide | omega) (Nat.le_of_ble_eq_true rfl) d_Bs_write_18 (c_Pr_topOf hG 1 x1 oc_1 δ v18 ev18) (Nat.le_refl 0) (Nat.le_refl 0) ?_
    refine x_stn (i := 2) (ls' := [some (.inr (0, 0)), some (.inl x1), some (.inl v18)]) d_Bs_write_21 rfl (by decide) rfl ?_
    refine x_iload_n (i := 2) d_Bs_write_22 rfl rfl ?_
    refine x_ic (v := -1) d_Bs_write_23 (by decide) ?_
    refine x_cmp_ne (tgt := 30) d_Bs_write_24 (by decide) (fun c24 => ?_) (fun c24 => ?_)
    · have h := if_f c24 h
      refine x_aload_n (i := 0) d_Bs_write_30 rfl rfl ?_
      refine x_getS (f := 98) (b := 15) gl_Bs_55_11 rfl kf_98 rfl (hG.ob oc_0) d_Bs_write_31 ?_
      obtain ⟨δ34, eδ34, h⟩ := bn_e h
      refine y_V0v cs_Bs_284 rfl (hG.ob oc_15) (by first | decide | omega) (Nat.le_of_ble_eq_true rfl) d_Bs_write_34 (c_By_clear hG 15 oc_15 δ δ34 eδ34) (Nat.le_refl 0) (Nat.le_refl 0) ?_
      refine x_aload_n (i := 0) d_Bs_write_37 rfl rfl ?_
      refine x_getS (f := 90) (b := 1) gl_Bs_14_11 rfl kf_90 rfl (hG.ob oc_0) d_Bs_write_38 ?_
      refine x_iload_n (i := 2) d_Bs_write_41 rfl rfl ?_
      refine x_aload_n (i := 0) d_Bs_write_42 rfl rfl ?_
      refine x_getS (f := 98) (b := 15) gl_Bs_55_11 rfl kf_98 rfl (hG.ob oc_0) d_Bs_write_43 ?_
      refine x_ic (v := 0) d_Bs_write_46 (by decide) ?_
      obtain ⟨δ47, eδ47, h⟩ := bd_e h
      refine y_VN3v cs_Bs_313 rfl (hG.ob oc_1) (by first | decide | omega) (Nat.le_of_ble_eq_true rfl) d_Bs_write_47 (c_Pr_spell hG 1 v18 15 0 oc_1 oc_15 δ34 δ47 eδ47) (Nat.le_refl 0) (Nat.le_refl 0) ?_
      refine x_aload_n (i := 0) d_Bs_write_50 rfl rfl ?_
      refine x_getS (f := 98) (b := 15) gl_Bs_55_11 rfl kf_98 rfl (hG.ob oc_0) d_Bs_write_51 ?_
      refine x_getI (f := 10) gl_Bs_274_0 rfl kf_10 (hG.ob oc_15) d_Bs_write_54 ?_
      replace h := Option.some.inj h; subst h
      exact x_iret rfl d_Bs_write_57 (Nat.le_refl 0) (Nat.le_refl 0)
    · have h := if_t c24 h
      refine x_bi (v := -3) d_Bs_write_27 (by decide) ?_
      replace h := Option.some.inj h; subst h
      exact x_iret rfl d_Bs_write_29 (Nat.le_refl 0) (Nat.le_refl 0)
  · have h := if_t c8 h
    refine x_ic (v := -1) d_Bs_write_11 (by decide) ?_
    replace h := Option.some.inj h; subst h
    exact x_iret rfl d_Bs_write_12 (Nat.le_refl 0) (Nat.le_refl 0)
-- BlockStage.text(I)I
theorem d_Bs_text_0 : decode M_Bs_text.2.1 0 = .ok (.aload_n 0, 1) := by decide +kernel
theorem d_Bs_text_1 : decode M_Bs_text.2.1 1 = .ok (.getfield 55, 3) := by decide +kernel
theorem d_Bs_text_4 : decode M_Bs_text.2.1 4 = .ok (.iload_n 1, 1) := by decide +kernel
theorem d_Bs_text_5 : decode M_Bs_text.2.1 5 = .ok (.invokevirtual 317, 3) := by decide +kernel
theorem d_Bs_text_8 : decode M_Bs_text.2.1 8 = .ok (.ireturn, 1) := by decide +kernel
theorem cs_Bs_317 : CV RX11 317 RX0 M_By_byteAt 1 := ⟨(lwg_at 914 (by decide +kernel) rfl), (lwg_at 729 (by decide +kernel) rfl), (lwg_at 730 (by decide +kernel) rfl), mi_By_byteAt⟩
def F_Bs_text (x1 : Int32) (δ : Dl) : Option (Int32) :=
  (F_By_byteAt 15 x1 δ).bind fun v5 => some v5
set_option maxRecDepth 20000 in
set_option maxHeartbeats 4000000 in
theorem c_Bs_text {l : Launch} {Γ : Gm} (hG : GC Γ) (x1 : Int32) (δ : Dl) (r : Int32) (h : F_Bs_text x1  δ = some r) : Ct l M_Bs_text 1 0 0 NF [.inr (0, 0), .inl x1] Γ δ (some (.inl r), Γ, δ) := by
  unfold F_Bs_text at h
  refine Ct.of2 (n := 0) (ls := [some (.inr (0, 0)), some (.inl x1)]) rfl (by decide +kernel) (Nat.le_of_ble_eq_true rfl) ?_
  refine x_aload_n (i := 0) d_Bs_text_0 rfl rfl ?_
  refine x_getS (f := 98) (b := 15) gl_Bs_55_11 rfl kf_98 rfl (hG.ob oc_0) d_Bs_text_1 ?_
  refine x_iload_n (i := 1) d_Bs_text_4 rfl rfl ?_
  obtain ⟨v5, ev5, h⟩ := bd_e h
  refine y_V1 cs_Bs_317 rfl (hG.ob oc_15) (by first | decide | omega) (Nat.le_of_ble_eq_true rfl) d_Bs_text_5 (c_By_byteAt hG 15 x1 oc_15 δ v5 ev5) (Nat.le_refl 0) (Nat.le_refl 0) ?_
  replace h := Option.some.inj h; subst h
  exact x_iret rfl d_Bs_text_8 (Nat.le_refl 0) (Nat.le_refl 0)
-- BlockStage.taken(II)I
theorem d_Bs_taken_0 : decode M_Bs_taken.2.1 0 = .ok (.iload_n 2, 1) := by decide +kernel
theorem d_Bs_taken_1 : decode M_Bs_taken.2.1 1 = .ok (.ifCond .lt 8, 3) := by decide +kernel
theorem d_Bs_taken_4 : decode M_Bs_taken.2.1 4 = .ok (.iload_n 2, 1) := by decide +kernel
theorem d_Bs_taken_5 : decode M_Bs_taken.2.1 5 = .ok (.iconst 4, 1) := by decide +kernel
theorem d_Bs_taken_6 : decode M_Bs_taken.2.1 6 = .ok (.if_icmp .le 6, 3) := by decide +kernel
theorem d_Bs_taken_9 : decode M_Bs_taken.2.1 9 = .ok (.bipush (-2), 2) := by decide +kernel
theorem d_Bs_taken_11 : decode M_Bs_taken.2.1 11 = .ok (.ireturn, 1) := by decide +kernel
theorem d_Bs_taken_12 : decode M_Bs_taken.2.1 12 = .ok (.aload_n 0, 1) := by decide +kernel
theorem d_Bs_taken_13 : decode M_Bs_taken.2.1 13 = .ok (.getfield 14, 3) := by decide +kernel
theorem d_Bs_taken_16 : decode M_Bs_taken.2.1 16 = .ok (.iload_n 1, 1) := by decide +kernel
theorem d_Bs_taken_17 : decode M_Bs_taken.2.1 17 = .ok (.invokevirtual 171, 3) := by decide +kernel
theorem d_Bs_taken_20 : decode M_Bs_taken.2.1 20 = .ok (.ifCond .ne 6, 3) := by decide +kernel
theorem d_Bs_taken_23 : decode M_Bs_taken.2.1 23 = .ok (.bipush (-11), 2) := by decide +kernel
theorem d_Bs_taken_25 : decode M_Bs_taken.2.1 25 = .ok (.ireturn, 1) := by decide +kernel
theorem d_Bs_taken_26 : decode M_Bs_taken.2.1 26 = .ok (.aload_n 0, 1) := by decide +kernel
theorem d_Bs_taken_27 : decode M_Bs_taken.2.1 27 = .ok (.getfield 14, 3) := by decide +kernel
theorem d_Bs_taken_30 : decode M_Bs_taken.2.1 30 = .ok (.iload_n 1, 1) := by decide +kernel
theorem d_Bs_taken_31 : decode M_Bs_taken.2.1 31 = .ok (.invokevirtual 183, 3) := by decide +kernel
theorem d_Bs_taken_34 : decode M_Bs_taken.2.1 34 = .ok (.istore_n 3, 1) := by decide +kernel
theorem d_Bs_taken_35 : decode M_Bs_taken.2.1 35 = .ok (.iload_n 3, 1) := by decide +kernel
theorem d_Bs_taken_36 : decode M_Bs_taken.2.1 36 = .ok (.iload_n 2, 1) := by decide +kernel
theorem d_Bs_taken_37 : decode M_Bs_taken.2.1 37 = .ok (.invokestatic 338, 3) := by decide +kernel
theorem d_Bs_taken_40 : decode M_Bs_taken.2.1 40 = .ok (.ifCond .eq 7, 3) := by decide +kernel
theorem d_Bs_taken_43 : decode M_Bs_taken.2.1 43 = .ok (.iload_n 3, 1) := by decide +kernel
theorem d_Bs_taken_44 : decode M_Bs_taken.2.1 44 = .ok (.goto 5, 3) := by decide +kernel
theorem d_Bs_taken_47 : decode M_Bs_taken.2.1 47 = .ok (.bipush (-13), 2) := by decide +kernel
theorem d_Bs_taken_49 : decode M_Bs_taken.2.1 49 = .ok (.ireturn, 1) := by decide +kernel
theorem mi_Bs_isOfFamily : MI M_Bs_isOfFamily 2 := ⟨(lwg_at 1 (by decide +kernel) rfl), (lwg_at 1073 (by decide +kernel) rfl), ⟨by decide +kernel, by decide +kernel⟩, by decide +kernel, by decide⟩
theorem cs_Bs_338 : CS RX11 338 M_Bs_isOfFamily 2 := ⟨(lwg_at 1071 (by decide +kernel) rfl), (lwg_at 1072 (by decide +kernel) rfl), mi_Bs_isOfFamily⟩
def F_Bs_taken (x1 : Int32) (x2 : Int32) (δ : Dl) : Option (Int32) :=
  if x2 < 0 then (some (-2)) else (if x2 ≤ 4 then (bnd (F_Pr_isBlock 1 x1 δ) fun v17 => if v17 = 0 then (some (-11)) else ((F_Pr_kindOf 1 x1 δ).bind fun v31 => bnd (F_Bs_isOfFamily v31 x2) fun v37 => if v37 = 0 then (some (-13)) else (some v31))) else (some (-2)))
set_option maxRecDepth 20000 in
set_option maxHeartbeats 4000000 in
theorem c_Bs_taken {l : Launch} {Γ : Gm} (hG : GC Γ) (x1 : Int32) (x2 : Int32) (δ : Dl) (r : Int32) (h : F_Bs_taken x1 x2  δ = some r) : Ct l M_Bs_taken 2 0 0 NF [.inr (0, 0), .inl x1, .inl x2] Γ δ (some (.inl r), Γ, δ) := by
  unfold F_Bs_taken at h
  refine Ct.of2 (n := 1) (ls := [some (.inr (0, 0)), some (.inl x1), some (.inl x2), none]) rfl (by decide +kernel) (Nat.le_of_ble_eq_true rfl) ?_
  refine x_iload_n (i := 2) d_Bs_taken_0 rfl rfl ?_
  refine x_if_lt (tgt := 9) d_Bs_taken_1 (by decide) (fun c1 => ?_) (fun c1 => ?_)
  · have h := if_t c1 h
    refine x_bi (v := -2) d_Bs_taken_9 (by decide) ?_
    replace h := Option.some.inj h; subst h
    exact x_iret rfl d_Bs_taken_11 (Nat.le_refl 0) (Nat.le_refl 0)
  · have h := if_f c1 h
    refine x_iload_n (i := 2) d_Bs_taken_4 rfl rfl ?_
    refine x_ic (v := 4) d_Bs_taken_5 (by decide) ?_
    refine x_cmp_le (tgt := 12) d_Bs_taken_6 (by decide) (fun c6 => ?_) (fun c6 => ?_)
    · have h := if_t c6 h
      refine x_aload_n (i := 0) d_Bs_taken_12 rfl rfl ?_
      refine x_getS (f := 90) (b := 1) gl_Bs_14_11 rfl kf_90 rfl (hG.ob oc_0) d_Bs_taken_13 ?_
      refine x_iload_n (i := 1) d_Bs_taken_16 rfl rfl ?_
      obtain ⟨v17, ev17, h⟩ := bn_e h
      refine y_V1 cs_Bs_171 rfl (hG.ob oc_1) (by first | decide | omega) (Nat.le_of_ble_eq_true rfl) d_Bs_taken_17 (c_Pr_isBlock hG 1 x1 oc_1 δ v17 ev17) (Nat.le_refl 0) (Nat.le_refl 0) ?_
      refine x_if_ne (tgt := 26) d_Bs_taken_20 (by decide) (fun c20 => ?_) (fun c20 => ?_)
      · have h := if_f c20 h
        refine x_aload_n (i := 0) d_Bs_taken_26 rfl rfl ?_
        refine x_getS (f := 90) (b := 1) gl_Bs_14_11 rfl kf_90 rfl (hG.ob oc_0) d_Bs_taken_27 ?_
        refine x_iload_n (i := 1) d_Bs_taken_30 rfl rfl ?_
        obtain ⟨v31, ev31, h⟩ := bd_e h
        refine y_V1 cs_Bs_183 rfl (hG.ob oc_1) (by first | decide | omega) (Nat.le_of_ble_eq_true rfl) d_Bs_taken_31 (c_Pr_kindOf hG 1 x1 oc_1 δ v31 ev31) (Nat.le_refl 0) (Nat.le_refl 0) ?_
        refine x_stn (i := 3) (ls' := [some (.inr (0, 0)), some (.inl x1), some (.inl x2), some (.inl v31)]) d_Bs_taken_34 rfl (by decide) rfl ?_
        refine x_iload_n (i := 3) d_Bs_taken_35 rfl rfl ?_
        refine x_iload_n (i := 2) d_Bs_taken_36 rfl rfl ?_
        obtain ⟨v37, ev37, h⟩ := bn_e h
        refine y_S2 cs_Bs_338 (by first | decide | omega) (Nat.le_of_ble_eq_true rfl) d_Bs_taken_37 (c_Bs_isOfFamily v31 x2  δ v37 ev37) (Nat.le_refl 0) (Nat.le_refl 0) ?_
        refine x_if_eq (tgt := 47) d_Bs_taken_40 (by decide) (fun c40 => ?_) (fun c40 => ?_)
        · have h := if_t c40 h
          refine x_bi (v := -13) d_Bs_taken_47 (by decide) ?_
          replace h := Option.some.inj h; subst h
          exact x_iret rfl d_Bs_taken_49 (Nat.le_refl 0) (Nat.le_refl 0)
        · have h := if_f c40 h
          refine x_iload_n (i := 3) d_Bs_taken_43 rfl rfl ?_
          refine x_goto (tgt := 49) d_Bs_taken_44 (by decide) ?_
          replace h := Option.some.inj h; subst h
          exact x_iret rfl d_Bs_taken_49 (Nat.le_refl 0) (Nat.le_refl 0)
      · have h := if_t c20 h
        refine x_bi (v := -11) d_Bs_taken_23 (by decide) ?_
        replace h := Option.some.inj h; subst h
        exact x_iret rfl d_Bs_taken_25 (Nat.le_refl 0) (Nat.le_refl 0)
    · have h := if_f c6 h
      refine x_bi (v := -2) d_Bs_taken_9 (by decide) ?_
      replace h := Option.some.inj h; subst h
      exact x_iret rfl d_Bs_taken_11 (Nat.le_refl 0) (Nat.le_refl 0)
-- BlockStage.sheet(III)I
theorem d_Bs_sheet_0 : decode M_Bs_sheet.2.1 0 = .ok (.iload_n 1, 1) := by decide +kernel
theorem d_Bs_sheet_1 : decode M_Bs_sheet.2.1 1 = .ok (.invokestatic 122, 3) := by decide +kernel
theorem d_Bs_sheet_4 : decode M_Bs_sheet.2.1 4 = .ok (.ifCond .ne 6, 3) := by decide +kernel
theorem d_Bs_sheet_7 : decode M_Bs_sheet.2.1 7 = .ok (.bipush (-2), 2) := by decide +kernel
theorem d_Bs_sheet_9 : decode M_Bs_sheet.2.1 9 = .ok (.ireturn, 1) := by decide +kernel
theorem d_Bs_sheet_10 : decode M_Bs_sheet.2.1 10 = .ok (.iload_n 2, 1) := by decide +kernel
theorem d_Bs_sheet_11 : decode M_Bs_sheet.2.1 11 = .ok (.iconst (-1), 1) := by decide +kernel
theorem d_Bs_sheet_12 : decode M_Bs_sheet.2.1 12 = .ok (.if_icmp .ne 15, 3) := by decide +kernel
theorem d_Bs_sheet_15 : decode M_Bs_sheet.2.1 15 = .ok (.aload_n 0, 1) := by decide +kernel
theorem d_Bs_sheet_16 : decode M_Bs_sheet.2.1 16 = .ok (.getfield 71, 3) := by decide +kernel
theorem d_Bs_sheet_19 : decode M_Bs_sheet.2.1 19 = .ok (.iload_n 1, 1) := by decide +kernel
theorem d_Bs_sheet_20 : decode M_Bs_sheet.2.1 20 = .ok (.iconst (-1), 1) := by decide +kernel
theorem d_Bs_sheet_21 : decode M_Bs_sheet.2.1 21 = .ok (.iconst 0, 1) := by decide +kernel
theorem d_Bs_sheet_22 : decode M_Bs_sheet.2.1 22 = .ok (.invokevirtual 370, 3) := by decide +kernel
theorem d_Bs_sheet_25 : decode M_Bs_sheet.2.1 25 = .ok (.iconst 1, 1) := by decide +kernel
theorem d_Bs_sheet_26 : decode M_Bs_sheet.2.1 26 = .ok (.ireturn, 1) := by decide +kernel
theorem d_Bs_sheet_27 : decode M_Bs_sheet.2.1 27 = .ok (.iload_n 2, 1) := by decide +kernel
theorem d_Bs_sheet_28 : decode M_Bs_sheet.2.1 28 = .ok (.invokestatic 126, 3) := by decide +kernel
theorem d_Bs_sheet_31 : decode M_Bs_sheet.2.1 31 = .ok (.ifCond .eq 9, 3) := by decide +kernel
theorem d_Bs_sheet_34 : decode M_Bs_sheet.2.1 34 = .ok (.iload_n 3, 1) := by decide +kernel
theorem d_Bs_sheet_35 : decode M_Bs_sheet.2.1 35 = .ok (.bipush 70, 2) := by decide +kernel
theorem d_Bs_sheet_37 : decode M_Bs_sheet.2.1 37 = .ok (.if_icmp .le 6, 3) := by decide +kernel
theorem d_Bs_sheet_40 : decode M_Bs_sheet.2.1 40 = .ok (.bipush (-2), 2) := by decide +kernel
theorem d_Bs_sheet_42 : decode M_Bs_sheet.2.1 42 = .ok (.ireturn, 1) := by decide +kernel
theorem d_Bs_sheet_43 : decode M_Bs_sheet.2.1 43 = .ok (.iload_n 3, 1) := by decide +kernel
theorem d_Bs_sheet_44 : decode M_Bs_sheet.2.1 44 = .ok (.ifCond .ge 6, 3) := by decide +kernel
theorem d_Bs_sheet_47 : decode M_Bs_sheet.2.1 47 = .ok (.bipush (-14), 2) := by decide +kernel
theorem d_Bs_sheet_49 : decode M_Bs_sheet.2.1 49 = .ok (.ireturn, 1) := by decide +kernel
theorem d_Bs_sheet_50 : decode M_Bs_sheet.2.1 50 = .ok (.aload_n 0, 1) := by decide +kernel
theorem d_Bs_sheet_51 : decode M_Bs_sheet.2.1 51 = .ok (.getfield 71, 3) := by decide +kernel
theorem d_Bs_sheet_54 : decode M_Bs_sheet.2.1 54 = .ok (.iload_n 1, 1) := by decide +kernel
theorem d_Bs_sheet_55 : decode M_Bs_sheet.2.1 55 = .ok (.iload_n 2, 1) := by decide +kernel
theorem d_Bs_sheet_56 : decode M_Bs_sheet.2.1 56 = .ok (.iload_n 3, 1) := by decide +kernel
theorem d_Bs_sheet_57 : decode M_Bs_sheet.2.1 57 = .ok (.invokevirtual 370, 3) := by decide +kernel
theorem d_Bs_sheet_60 : decode M_Bs_sheet.2.1 60 = .ok (.iconst 1, 1) := by decide +kernel
theorem d_Bs_sheet_61 : decode M_Bs_sheet.2.1 61 = .ok (.ireturn, 1) := by decide +kernel
theorem mi_Sh_remake : MI M_Sh_remake 3 := ⟨(lwg_at 9 (by decide +kernel) rfl), (lwg_at 1086 (by decide +kernel) rfl), ⟨by decide +kernel, by decide +kernel⟩, by decide +kernel, by decide⟩
theorem cs_Bs_370 : CV RX11 370 RX7 M_Sh_remake 3 := ⟨(lwg_at 1083 (by decide +kernel) rfl), (lwg_at 1084 (by decide +kernel) rfl), (lwg_at 1085 (by decide +kernel) rfl), mi_Sh_remake⟩
def F_Bs_sheet (x1 : Int32) (x2 : Int32) (x3 : Int32) (δ : Dl) : Option (Int32 × Dl) :=
  bnd (F_Sh_isSheet x1) fun v1 => if v1 = 0 then (some ((-2), δ)) else (if x2 = (-1) then ((F_Sh_remake 18 x1 (-1) 0 δ).bind fun δ22 => some (1, δ22)) else (bnd (F_Sh_isSort x2) fun v28 => if v28 = 0 then (some ((-2), δ)) else (if x3 ≤ 70 then (if 0 ≤ x3 then ((F_Sh_remake 18 x1 x2 x3 δ).bind fun δ57 => some (1, δ57)) else (some ((-14), δ))) else (some ((-2), δ)))))
set_option maxRecDepth 20000 in
set_option maxHeartbeats 4000000 in
theorem c_Bs_sheet {l : Launch} {Γ : Gm} (hG : GC Γ) (x1 : Int32) (x2 : Int32) (x3 : Int32) (δ : Dl) (r : Int32 × Dl) (h : F_Bs_sheet x1 x2 x3  δ = some r) : Ct l M_Bs_sheet 3 0 0 NF [.inr (0, 0), .inl x1, .inl x2, .inl x3] Γ δ (some (.inl r.1), Γ, r.2) := by
  unfold F_Bs_sheet at h
  refine Ct.of2 (n := 0) (ls := [some (.inr (0, 0)), some (.inl x1), some (.inl x2), some (.inl x3)]) rfl (by decide +kernel) (Nat.le_of_ble_eq_true rfl) ?_
  refine x_iload_n (i := 1) d_Bs_sheet_0 rfl rfl ?_
  obtain ⟨v1, ev1, h⟩ := bn_e h
  refine y_S1 cs_Bs_122 (by first | decide | omega) (Nat.le_of_ble_eq_true rfl) d_Bs_sheet_1 (c_Sh_isSheet x1  δ v1 ev1) (Nat.le_refl 0) (Nat.le_refl 0) ?_
  refine x_if_ne (tgt := 10) d_Bs_sheet_4 (by decide) (fun c4 => ?_) (fun c4 => ?_)
  · have h := if_f c4 h
    refine x_iload_n (i := 2) d_Bs_sheet_10 rfl rfl ?_
    refine x_ic (v := -1) d_Bs_sheet_11 (by decide) ?_
    refine x_cmp_ne (tgt := 27) d_Bs_sheet_12 (by decide) (fun c12 => ?_) (fun c12 => ?_)
    · have h := if_f c12 h
      refine x_iload_n (i := 2) d_Bs_sheet_27 rfl rfl ?_
      obtain ⟨v28, ev28, h⟩ := bn_e h
      refine y_S1 cs_Bs_126 (by first | decide | omega) (Nat.le_of_ble_eq_true rfl) d_Bs_sheet_28 (c_Sh_isSort x2  δ v28 ev28) (Nat.le_refl 0) (Nat.le_refl 0) ?_
      refine x_if_eq (tgt := 40) d_Bs_sheet_31 (by decide) (fun c31 => ?_) (fun c31 => ?_)
      · have h := if_t c31 h
        refine x_bi (v := -2) d_Bs_sheet_40 (by decide) ?_
        replace h := Option.some.inj h; subst h
        exact x_iret rfl d_Bs_sheet_42 (Nat.le_refl 0) (Nat.le_refl 0)
      · have h := if_f c31 h
        refine x_iload_n (i := 3) d_Bs_sheet_34 rfl rfl ?_
        refine x_bi (v := 70) d_Bs_sheet_35 (by decide) ?_
        refine x_cmp_le (tgt := 43) d_Bs_sheet_37 (by decide) (fun c37 => ?_) (fun c37 => ?_)
        · have h := if_t c37 h
          refine x_iload_n (i := 3) d_Bs_sheet_43 rfl rfl ?_
          refine x_if_ge (tgt := 50) d_Bs_sheet_44 (by decide) (fun c44 => ?_) (fun c44 => ?_)
          · have h := if_t c44 h
            refine x_aload_n (i := 0) d_Bs_sheet_50 rfl rfl ?_
            refine x_getS (f := 101) (b := 18) gl_Bs_71_11 rfl kf_101 rfl (hG.ob oc_0) d_Bs_sheet_51 ?_
            refine x_iload_n (i := 1) d_Bs_sheet_54 rfl rfl ?_
            refine x_iload_n (i := 2) d_Bs_sheet_55 rfl rfl ?_
            refine x_iload_n (i := 3) d_Bs_sheet_56 rfl rfl ?_
            obtain ⟨δ57, eδ57, h⟩ := bd_e h
            refine y_V3v cs_Bs_370 rfl (hG.ob oc_18) (by first | decide | omega) (Nat.le_of_ble_eq_true rfl) d_Bs_sheet_57 (c_Sh_remake hG 18 x1 x2 x3 oc_18 δ δ57 eδ57) (Nat.le_refl 0) (Nat.le_refl 0) ?_
            refine x_ic (v := 1) d_Bs_sheet_60 (by decide) ?_
            replace h := Option.some.inj h; subst h
            exact x_iret rfl d_Bs_sheet_61 (Nat.le_refl 0) (Nat.le_refl 0)
          · have h := if_f c44 h
            refine x_bi (v := -14) d_Bs_sheet_47 (by decide) ?_
            replace h := Option.some.inj h; subst h
            exact x_iret rfl d_Bs_sheet_49 (Nat.le_refl 0) (Nat.le_refl 0)
        · have h := if_f c37 h
          refine x_bi (v := -2) d_Bs_sheet_40 (by decide) ?_
          replace h := Option.some.inj h; subst h
          exact x_iret rfl d_Bs_sheet_42 (Nat.le_refl 0) (Nat.le_refl 0)
    · have h := if_t c12 h
      refine x_aload_n (i := 0) d_Bs_sheet_15 rfl rfl ?_
      refine x_getS (f := 101) (b := 18) gl_Bs_71_11 rfl kf_101 rfl (hG.ob oc_0) d_Bs_sheet_16 ?_
      refine x_iload_n (i := 1) d_Bs_sheet_19 rfl rfl ?_
      refine x_ic (v := -1) d_Bs_sheet_20 (by decide) ?_
      refine x_ic (v := 0) d_Bs_sheet_21 (by decide) ?_
      obtain ⟨δ22, eδ22, h⟩ := bd_e h
      refine y_V3v cs_Bs_370 rfl (hG.ob oc_18) (by first | decide | omega) (Nat.le_of_ble_eq_true rfl) d_Bs_sheet_22 (c_Sh_remake hG 18 x1 (-1) 0 oc_18 δ δ22 eδ22) (Nat.le_refl 0) (Nat.le_refl 0) ?_
      refine x_ic (v := 1) d_Bs_sheet_25 (by decide) ?_
      replace h := Option.some.inj h; subst h
      exact x_iret rfl d_Bs_sheet_26 (Nat.le_refl 0) (Nat.le_refl 0)
  · have h := if_t c4 h
    refine x_bi (v := -2) d_Bs_sheet_7 (by decide) ?_
    replace h := Option.some.inj h; subst h
    exact x_iret rfl d_Bs_sheet_9 (Nat.le_refl 0) (Nat.le_refl 0)
-- BlockStage.cell(III)I
theorem d_Bs_cell_0 : decode M_Bs_cell.2.1 0 = .ok (.iload_n 1, 1) := by decide +kernel
theorem d_Bs_cell_1 : decode M_Bs_cell.2.1 1 = .ok (.invokestatic 122, 3) := by decide +kernel
theorem d_Bs_cell_4 : decode M_Bs_cell.2.1 4 = .ok (.ifCond .ne 6, 3) := by decide +kernel
theorem d_Bs_cell_7 : decode M_Bs_cell.2.1 7 = .ok (.bipush (-2), 2) := by decide +kernel
theorem d_Bs_cell_9 : decode M_Bs_cell.2.1 9 = .ok (.ireturn, 1) := by decide +kernel
theorem d_Bs_cell_10 : decode M_Bs_cell.2.1 10 = .ok (.aload_n 0, 1) := by decide +kernel
theorem d_Bs_cell_11 : decode M_Bs_cell.2.1 11 = .ok (.getfield 71, 3) := by decide +kernel
theorem d_Bs_cell_14 : decode M_Bs_cell.2.1 14 = .ok (.iload_n 1, 1) := by decide +kernel
theorem d_Bs_cell_15 : decode M_Bs_cell.2.1 15 = .ok (.invokevirtual 129, 3) := by decide +kernel
theorem d_Bs_cell_18 : decode M_Bs_cell.2.1 18 = .ok (.ifCond .eq 6, 3) := by decide +kernel
theorem d_Bs_cell_21 : decode M_Bs_cell.2.1 21 = .ok (.bipush (-11), 2) := by decide +kernel
theorem d_Bs_cell_23 : decode M_Bs_cell.2.1 23 = .ok (.ireturn, 1) := by decide +kernel
theorem d_Bs_cell_24 : decode M_Bs_cell.2.1 24 = .ok (.aload_n 0, 1) := by decide +kernel
theorem d_Bs_cell_25 : decode M_Bs_cell.2.1 25 = .ok (.getfield 71, 3) := by decide +kernel
theorem d_Bs_cell_28 : decode M_Bs_cell.2.1 28 = .ok (.iload_n 1, 1) := by decide +kernel
theorem d_Bs_cell_29 : decode M_Bs_cell.2.1 29 = .ok (.iload_n 2, 1) := by decide +kernel
theorem d_Bs_cell_30 : decode M_Bs_cell.2.1 30 = .ok (.iconst 1, 1) := by decide +kernel
theorem d_Bs_cell_31 : decode M_Bs_cell.2.1 31 = .ok (.invokevirtual 142, 3) := by decide +kernel
theorem d_Bs_cell_34 : decode M_Bs_cell.2.1 34 = .ok (.ifCond .ne 6, 3) := by decide +kernel
theorem d_Bs_cell_37 : decode M_Bs_cell.2.1 37 = .ok (.bipush (-12), 2) := by decide +kernel
theorem d_Bs_cell_39 : decode M_Bs_cell.2.1 39 = .ok (.ireturn, 1) := by decide +kernel
theorem d_Bs_cell_40 : decode M_Bs_cell.2.1 40 = .ok (.aload_n 0, 1) := by decide +kernel
theorem d_Bs_cell_41 : decode M_Bs_cell.2.1 41 = .ok (.getfield 71, 3) := by decide +kernel
theorem d_Bs_cell_44 : decode M_Bs_cell.2.1 44 = .ok (.iload_n 1, 1) := by decide +kernel
theorem d_Bs_cell_45 : decode M_Bs_cell.2.1 45 = .ok (.iload_n 2, 1) := by decide +kernel
theorem d_Bs_cell_46 : decode M_Bs_cell.2.1 46 = .ok (.iload_n 3, 1) := by decide +kernel
theorem d_Bs_cell_47 : decode M_Bs_cell.2.1 47 = .ok (.invokevirtual 373, 3) := by decide +kernel
theorem d_Bs_cell_50 : decode M_Bs_cell.2.1 50 = .ok (.iconst 1, 1) := by decide +kernel
theorem d_Bs_cell_51 : decode M_Bs_cell.2.1 51 = .ok (.ireturn, 1) := by decide +kernel
theorem mi_Sh_setItem : MI M_Sh_setItem 3 := ⟨(lwg_at 9 (by decide +kernel) rfl), (lwg_at 1095 (by decide +kernel) rfl), ⟨by decide +kernel, by decide +kernel⟩, by decide +kernel, by decide⟩
theorem cs_Bs_373 : CV RX11 373 RX7 M_Sh_setItem 3 := ⟨(lwg_at 1092 (by decide +kernel) rfl), (lwg_at 1093 (by decide +kernel) rfl), (lwg_at 1094 (by decide +kernel) rfl), mi_Sh_setItem⟩
def F_Bs_cell (x1 : Int32) (x2 : Int32) (x3 : Int32) (δ : Dl) : Option (Int32 × Dl) :=
  bnd (F_Sh_isSheet x1) fun v1 => if v1 = 0 then (some ((-2), δ)) else ((F_Sh_isMissing 18 x1 δ).bind fun v15 => if v15 = 0 then ((F_Sh_hasItems 18 x1 x2 1 δ).bind fun v31 => if v31 = 0 then (some ((-12), δ)) else ((F_Sh_setItem 18 x1 x2 x3 δ).bind fun δ47 => some (1, δ47))) else (some ((-11), δ)))
set_option maxRecDepth 20000 in
set_option maxHeartbeats 4000000 in
theorem c_Bs_cell {l : Launch} {Γ : Gm} (hG : GC Γ) (x1 : Int32) (x2 : Int32) (x3 : Int32) (δ : Dl) (r : Int32 × Dl) (h : F_Bs_cell x1 x2 x3  δ = some r) : Ct l M_Bs_cell 2 0 0 NF [.inr (0, 0), .inl x1, .inl x2, .inl x3] Γ δ (some (.inl r.1), Γ, r.2) := by
  unfold F_Bs_cell at h
  refine Ct.of2 (n := 0) (ls := [some (.inr (0, 0)), some (.inl x1), some (.inl x2), some (.inl x3)]) rfl (by decide +kernel) (Nat.le_of_ble_eq_true rfl) ?_
  refine x_iload_n (i := 1) d_Bs_cell_0 rfl rfl ?_
  obtain ⟨v1, ev1, h⟩ := bn_e h
  refine y_S1 cs_Bs_122 (by first | decide | omega) (Nat.le_of_ble_eq_true rfl) d_Bs_cell_1 (c_Sh_isSheet x1  δ v1 ev1) (Nat.le_refl 0) (Nat.le_refl 0) ?_
  refine x_if_ne (tgt := 10) d_Bs_cell_4 (by decide) (fun c4 => ?_) (fun c4 => ?_)
  · have h := if_f c4 h
    refine x_aload_n (i := 0) d_Bs_cell_10 rfl rfl ?_
    refine x_getS (f := 101) (b := 18) gl_Bs_71_11 rfl kf_101 rfl (hG.ob oc_0) d_Bs_cell_11 ?_
    refine x_iload_n (i := 1) d_Bs_cell_14 rfl rfl ?_
    obtain ⟨v15, ev15, h⟩ := bd_e h
    refine y_V1 cs_Bs_129 rfl (hG.ob oc_18) (by first | decide | omega) (Nat.le_of_ble_eq_true rfl) d_Bs_cell_15 (c_Sh_isMissing hG 18 x1 oc_18 δ v15 ev15) (Nat.le_refl 0) (Nat.le_refl 0) ?_
    refine x_if_eq (tgt := 24) d_Bs_cell_18 (by decide) (fun c18 => ?_) (fun c18 => ?_)
    · have h := if_t c18 h
      refine x_aload_n (i := 0) d_Bs_cell_24 rfl rfl ?_
      refine x_getS (f := 101) (b := 18) gl_Bs_71_11 rfl kf_101 rfl (hG.ob oc_0) d_Bs_cell_25 ?_
      refine x_iload_n (i := 1) d_Bs_cell_28 rfl rfl ?_
      refine x_iload_n (i := 2) d_Bs_cell_29 rfl rfl ?_
      refine x_ic (v := 1) d_Bs_cell_30 (by decide) ?_
      obtain ⟨v31, ev31, h⟩ := bd_e h
      refine y_V3 cs_Bs_142 rfl (hG.ob oc_18) (by first | decide | omega) (Nat.le_of_ble_eq_true rfl) d_Bs_cell_31 (c_Sh_hasItems hG 18 x1 x2 1 oc_18 δ v31 ev31) (Nat.le_refl 0) (Nat.le_refl 0) ?_
      refine x_if_ne (tgt := 40) d_Bs_cell_34 (by decide) (fun c34 => ?_) (fun c34 => ?_)
      · have h := if_f c34 h
        refine x_aload_n (i := 0) d_Bs_cell_40 rfl rfl ?_
        refine x_getS (f := 101) (b := 18) gl_Bs_71_11 rfl kf_101 rfl (hG.ob oc_0) d_Bs_cell_41 ?_
        refine x_iload_n (i := 1) d_Bs_cell_44 rfl rfl ?_
        refine x_iload_n (i := 2) d_Bs_cell_45 rfl rfl ?_
        refine x_iload_n (i := 3) d_Bs_cell_46 rfl rfl ?_
        obtain ⟨δ47, eδ47, h⟩ := bd_e h
        refine y_V3v cs_Bs_373 rfl (hG.ob oc_18) (by first | decide | omega) (Nat.le_of_ble_eq_true rfl) d_Bs_cell_47 (c_Sh_setItem hG 18 x1 x2 x3 oc_18 δ δ47 eδ47) (Nat.le_refl 0) (Nat.le_refl 0) ?_
        refine x_ic (v := 1) d_Bs_cell_50 (by decide) ?_
        replace h := Option.some.inj h; subst h
        exact x_iret rfl d_Bs_cell_51 (Nat.le_refl 0) (Nat.le_refl 0)
      · have h := if_t c34 h
        refine x_bi (v := -12) d_Bs_cell_37 (by decide) ?_
        replace h := Option.some.inj h; subst h
        exact x_iret rfl d_Bs_cell_39 (Nat.le_refl 0) (Nat.le_refl 0)
    · have h := if_f c18 h
      refine x_bi (v := -11) d_Bs_cell_21 (by decide) ?_
      replace h := Option.some.inj h; subst h
      exact x_iret rfl d_Bs_cell_23 (Nat.le_refl 0) (Nat.le_refl 0)
  · have h := if_t c4 h
    refine x_bi (v := -2) d_Bs_cell_7 (by decide) ?_
    replace h := Option.some.inj h; subst h
    exact x_iret rfl d_Bs_cell_9 (Nat.le_refl 0) (Nat.le_refl 0)
-- BlockStage.copy(IIIII)I
theorem d_Bs_copy_0 : decode M_Bs_copy.2.1 0 = .ok (.iload_n 1, 1) := by decide +kernel
theorem d_Bs_copy_1 : decode M_Bs_copy.2.1 1 = .ok (.invokestatic 122, 3) := by decide +kernel
theorem d_Bs_copy_4 : decode M_Bs_copy.2.1 4 = .ok (.ifCond .eq 10, 3) := by decide +kernel
theorem d_Bs_copy_7 : decode M_Bs_copy.2.1 7 = .ok (.iload_n 3, 1) := by decide +kernel
theorem d_Bs_copy_8 : decode M_Bs_copy.2.1 8 = .ok (.invokestatic 122, 3) := by decide +kernel
theorem d_Bs_copy_11 : decode M_Bs_copy.2.1 11 = .ok (.ifCond .ne 6, 3) := by decide +kernel
theorem d_Bs_copy_14 : decode M_Bs_copy.2.1 14 = .ok (.bipush (-2), 2) := by decide +kernel
theorem d_Bs_copy_16 : decode M_Bs_copy.2.1 16 = .ok (.ireturn, 1) := by decide +kernel
theorem d_Bs_copy_17 : decode M_Bs_copy.2.1 17 = .ok (.aload_n 0, 1) := by decide +kernel
theorem d_Bs_copy_18 : decode M_Bs_copy.2.1 18 = .ok (.getfield 71, 3) := by decide +kernel
theorem d_Bs_copy_21 : decode M_Bs_copy.2.1 21 = .ok (.iload_n 1, 1) := by decide +kernel
theorem d_Bs_copy_22 : decode M_Bs_copy.2.1 22 = .ok (.invokevirtual 129, 3) := by decide +kernel
theorem d_Bs_copy_25 : decode M_Bs_copy.2.1 25 = .ok (.ifCond .ne 14, 3) := by decide +kernel
theorem d_Bs_copy_28 : decode M_Bs_copy.2.1 28 = .ok (.aload_n 0, 1) := by decide +kernel
theorem d_Bs_copy_29 : decode M_Bs_copy.2.1 29 = .ok (.getfield 71, 3) := by decide +kernel
theorem d_Bs_copy_32 : decode M_Bs_copy.2.1 32 = .ok (.iload_n 3, 1) := by decide +kernel
theorem d_Bs_copy_33 : decode M_Bs_copy.2.1 33 = .ok (.invokevirtual 129, 3) := by decide +kernel
theorem d_Bs_copy_36 : decode M_Bs_copy.2.1 36 = .ok (.ifCond .eq 6, 3) := by decide +kernel
theorem d_Bs_copy_39 : decode M_Bs_copy.2.1 39 = .ok (.bipush (-11), 2) := by decide +kernel
theorem d_Bs_copy_41 : decode M_Bs_copy.2.1 41 = .ok (.ireturn, 1) := by decide +kernel
theorem d_Bs_copy_42 : decode M_Bs_copy.2.1 42 = .ok (.aload_n 0, 1) := by decide +kernel
theorem d_Bs_copy_43 : decode M_Bs_copy.2.1 43 = .ok (.getfield 71, 3) := by decide +kernel
theorem d_Bs_copy_46 : decode M_Bs_copy.2.1 46 = .ok (.iload_n 1, 1) := by decide +kernel
theorem d_Bs_copy_47 : decode M_Bs_copy.2.1 47 = .ok (.invokevirtual 132, 3) := by decide +kernel
theorem d_Bs_copy_50 : decode M_Bs_copy.2.1 50 = .ok (.aload_n 0, 1) := by decide +kernel
theorem d_Bs_copy_51 : decode M_Bs_copy.2.1 51 = .ok (.getfield 71, 3) := by decide +kernel
theorem d_Bs_copy_54 : decode M_Bs_copy.2.1 54 = .ok (.iload_n 3, 1) := by decide +kernel
theorem d_Bs_copy_55 : decode M_Bs_copy.2.1 55 = .ok (.invokevirtual 132, 3) := by decide +kernel
theorem d_Bs_copy_58 : decode M_Bs_copy.2.1 58 = .ok (.if_icmp .eq 6, 3) := by decide +kernel
theorem d_Bs_copy_61 : decode M_Bs_copy.2.1 61 = .ok (.bipush (-13), 2) := by decide +kernel
theorem d_Bs_copy_63 : decode M_Bs_copy.2.1 63 = .ok (.ireturn, 1) := by decide +kernel
theorem d_Bs_copy_64 : decode M_Bs_copy.2.1 64 = .ok (.aload_n 0, 1) := by decide +kernel
theorem d_Bs_copy_65 : decode M_Bs_copy.2.1 65 = .ok (.getfield 71, 3) := by decide +kernel
theorem d_Bs_copy_68 : decode M_Bs_copy.2.1 68 = .ok (.iload_n 1, 1) := by decide +kernel
theorem d_Bs_copy_69 : decode M_Bs_copy.2.1 69 = .ok (.iload_n 2, 1) := by decide +kernel
theorem d_Bs_copy_70 : decode M_Bs_copy.2.1 70 = .ok (.iload 5, 2) := by decide +kernel
theorem d_Bs_copy_72 : decode M_Bs_copy.2.1 72 = .ok (.invokevirtual 142, 3) := by decide +kernel
theorem d_Bs_copy_75 : decode M_Bs_copy.2.1 75 = .ok (.ifCond .eq 18, 3) := by decide +kernel
theorem d_Bs_copy_78 : decode M_Bs_copy.2.1 78 = .ok (.aload_n 0, 1) := by decide +kernel
theorem d_Bs_copy_79 : decode M_Bs_copy.2.1 79 = .ok (.getfield 71, 3) := by decide +kernel
theorem d_Bs_copy_82 : decode M_Bs_copy.2.1 82 = .ok (.iload_n 3, 1) := by decide +kernel
theorem d_Bs_copy_83 : decode M_Bs_copy.2.1 83 = .ok (.iload 4, 2) := by decide +kernel
theorem d_Bs_copy_85 : decode M_Bs_copy.2.1 85 = .ok (.iload 5, 2) := by decide +kernel
theorem d_Bs_copy_87 : decode M_Bs_copy.2.1 87 = .ok (.invokevirtual 142, 3) := by decide +kernel
theorem d_Bs_copy_90 : decode M_Bs_copy.2.1 90 = .ok (.ifCond .ne 6, 3) := by decide +kernel
theorem d_Bs_copy_93 : decode M_Bs_copy.2.1 93 = .ok (.bipush (-12), 2) := by decide +kernel
theorem d_Bs_copy_95 : decode M_Bs_copy.2.1 95 = .ok (.ireturn, 1) := by decide +kernel
theorem d_Bs_copy_96 : decode M_Bs_copy.2.1 96 = .ok (.aload_n 0, 1) := by decide +kernel
theorem d_Bs_copy_97 : decode M_Bs_copy.2.1 97 = .ok (.getfield 71, 3) := by decide +kernel
theorem d_Bs_copy_100 : decode M_Bs_copy.2.1 100 = .ok (.iload_n 1, 1) := by decide +kernel
theorem d_Bs_copy_101 : decode M_Bs_copy.2.1 101 = .ok (.iload_n 2, 1) := by decide +kernel
theorem d_Bs_copy_102 : decode M_Bs_copy.2.1 102 = .ok (.iload_n 3, 1) := by decide +kernel
theorem d_Bs_copy_103 : decode M_Bs_copy.2.1 103 = .ok (.iload 4, 2) := by decide +kernel
theorem d_Bs_copy_105 : decode M_Bs_copy.2.1 105 = .ok (.iload 5, 2) := by decide +kernel
theorem d_Bs_copy_107 : decode M_Bs_copy.2.1 107 = .ok (.invokevirtual 376, 3) := by decide +kernel
theorem d_Bs_copy_110 : decode M_Bs_copy.2.1 110 = .ok (.iload 5, 2) := by decide +kernel
theorem d_Bs_copy_112 : decode M_Bs_copy.2.1 112 = .ok (.ireturn, 1) := by decide +kernel
theorem mi_Sh_move : MI M_Sh_move 5 := ⟨(lwg_at 9 (by decide +kernel) rfl), (lwg_at 1103 (by decide +kernel) rfl), ⟨by decide +kernel, by decide +kernel⟩, by decide +kernel, by decide⟩
theorem cs_Bs_376 : CV RX11 376 RX7 M_Sh_move 5 := ⟨(lwg_at 1100 (by decide +kernel) rfl), (lwg_at 1101 (by decide +kernel) rfl), (lwg_at 1102 (by decide +kernel) rfl), mi_Sh_move⟩
def F_Bs_copy (x1 : Int32) (x2 : Int32) (x3 : Int32) (x4 : Int32) (x5 : Int32) (δ : Dl) : Option (Int32 × Dl) :=
  bnd (F_Sh_isSheet x1) fun v1 => if v1 = 0 then (some ((-2), δ)) else (bnd (F_Sh_isSheet x3) fun v8 => if v8 = 0 then (some ((-2), δ)) else ((F_Sh_isMissing 18 x1 δ).bind fun v22 => if v22 = 0 then ((F_Sh_isMissing 18 x3 δ).bind fun v33 => if v33 = 0 then ((F_Sh_sortOf 18 x1 δ).bind fun v47 => (F_Sh_sortOf 18 x3 δ).bind fun v55 => if v47 = v55 then ((F_Sh_hasItems 18 x1 x2 x5 δ).bind fun v72 => if v72 = 0 then (some ((-12), δ)) else ((F_Sh_hasItems 18 x3 x4 x5 δ).bind fun v87 => if v87 = 0 then (some ((-12), δ)) else ((F_Sh_move 18 x1 x2 x3 x4 x5 δ).bind fun δ107 => some (x5, δ107)))) else (some ((-13), δ))) else (some ((-11), δ))) else (some ((-11), δ))))
set_option maxRecDepth 20000 in
set_option maxHeartbeats 4000000 in
theorem c_Bs_copy {l : Launch} {Γ : Gm} (hG : GC Γ) (x1 : Int32) (x2 : Int32) (x3 : Int32) (x4 : Int32) (x5 : Int32) (δ : Dl) (r : Int32 × Dl) (h : F_Bs_copy x1 x2 x3 x4 x5  δ = some r) : Ct l M_Bs_copy 2 0 0 NF [.inr (0, 0), .inl x1, .inl x2, .inl x3, .inl x4, .inl x5] Γ δ (some (.inl r.1), Γ, r.2) := by
  unfold F_Bs_copy at h
  refine Ct.of2 (n := 0) (ls := [some (.inr (0, 0)), some (.inl x1), some (.inl x2), some (.inl x3), some (.inl x4), some (.inl x5)]) rfl (by decide +kernel) (Nat.le_of_ble_eq_true rfl) ?_
  refine x_iload_n (i := 1) d_Bs_copy_0 rfl rfl ?_
  obtain ⟨v1, ev1, h⟩ := bn_e h
  refine y_S1 cs_Bs_122 (by first | decide | omega) (Nat.le_of_ble_eq_true rfl) d_Bs_copy_1 (c_Sh_isSheet x1  δ v1 ev1) (Nat.le_refl 0) (Nat.le_refl 0) ?_
  refine x_if_eq (tgt := 14) d_Bs_copy_4 (by decide) (fun c4 => ?_) (fun c4 => ?_)
  · have h := if_t c4 h
    refine x_bi (v := -2) d_Bs_copy_14 (by decide) ?_
    replace h := Option.some.inj h; subst h
    exact x_iret rfl d_Bs_copy_16 (Nat.le_refl 0) (Nat.le_refl 0)
  · have h := if_f c4 h
    refine x_iload_n (i := 3) d_Bs_copy_7 rfl rfl ?_
    obtain ⟨v8, ev8, h⟩ := bn_e h
    refine y_S1 cs_Bs_122 (by first | decide | omega) (Nat.le_of_ble_eq_true rfl) d_Bs_copy_8 (c_Sh_isSheet x3  δ v8 ev8) (Nat.le_refl 0) (Nat.le_refl 0) ?_
    refine x_if_ne (tgt := 17) d_Bs_copy_11 (by decide) (fun c11 => ?_) (fun c11 => ?_)
    · have h := if_f c11 h
      refine x_aload_n (i := 0) d_Bs_copy_17 rfl rfl ?_
      refine x_getS (f := 101) (b := 18) gl_Bs_71_11 rfl kf_101 rfl (hG.ob oc_0) d_Bs_copy_18 ?_
      refine x_iload_n (i := 1) d_Bs_copy_21 rfl rfl ?_
      obtain ⟨v22, ev22, h⟩ := bd_e h
      refine y_V1 cs_Bs_129 rfl (hG.ob oc_18) (by first | decide | omega) (Nat.le_of_ble_eq_true rfl) d_Bs_copy_22 (c_Sh_isMissing hG 18 x1 oc_18 δ v22 ev22) (Nat.le_refl 0) (Nat.le_refl 0) ?_
      refine x_if_ne (tgt := 39) d_Bs_copy_25 (by decide) (fun c25 => ?_) (fun c25 => ?_)
      · have h := if_f c25 h
        refine x_bi (v := -11) d_Bs_copy_39 (by decide) ?_
        replace h := Option.some.inj h; subst h
        exact x_iret rfl d_Bs_copy_41 (Nat.le_refl 0) (Nat.le_refl 0)
      · have h := if_t c25 h
        refine x_aload_n (i := 0) d_Bs_copy_28 rfl rfl ?_
        refine x_getS (f := 101) (b := 18) gl_Bs_71_11 rfl kf_101 rfl (hG.ob oc_0) d_Bs_copy_29 ?_
        refine x_iload_n (i := 3) d_Bs_copy_32 rfl rfl ?_
        obtain ⟨v33, ev33, h⟩ := bd_e h
        refine y_V1 cs_Bs_129 rfl (hG.ob oc_18) (by first | decide | omega) (Nat.le_of_ble_eq_true rfl) d_Bs_copy_33 (c_Sh_isMissing hG 18 x3 oc_18 δ v33 ev33) (Nat.le_refl 0) (Nat.le_refl 0) ?_
        refine x_if_eq (tgt := 42) d_Bs_copy_36 (by decide) (fun c36 => ?_) (fun c36 => ?_)
        · have h := if_t c36 h
          refine x_aload_n (i := 0) d_Bs_copy_42 rfl rfl ?_
          refine x_getS (f := 101) (b := 18) gl_Bs_71_11 rfl kf_101 rfl (hG.ob oc_0) d_Bs_copy_43 ?_
          refine x_iload_n (i := 1) d_Bs_copy_46 rfl rfl ?_
          obtain ⟨v47, ev47, h⟩ := bd_e h
          refine y_V1 cs_Bs_132 rfl (hG.ob oc_18) (by first | decide | omega) (Nat.le_of_ble_eq_true rfl) d_Bs_copy_47 (c_Sh_sortOf hG 18 x1 oc_18 δ v47 ev47) (Nat.le_refl 0) (Nat.le_refl 0) ?_
          refine x_aload_n (i := 0) d_Bs_copy_50 rfl rfl ?_
          refine x_getS (f := 101) (b := 18) gl_Bs_71_11 rfl kf_101 rfl (hG.ob oc_0) d_Bs_copy_51 ?_
          refine x_iload_n (i := 3) d_Bs_copy_54 rfl rfl ?_
          obtain ⟨v55, ev55, h⟩ := bd_e h
          refine y_V1 cs_Bs_132 rfl (hG.ob oc_18) (by first | decide | omega) (Nat.le_of_ble_eq_true rfl) d_Bs_copy_55 (c_Sh_sortOf hG 18 x3 oc_18 δ v55 ev55) (Nat.le_refl 0) (Nat.le_refl 0) ?_
          refine x_cmp_eq (tgt := 64) d_Bs_copy_58 (by decide) (fun c58 => ?_) (fun c58 => ?_)
          · have h := if_t c58 h
            refine x_aload_n (i := 0) d_Bs_copy_64 rfl rfl ?_
            refine x_getS (f := 101) (b := 18) gl_Bs_71_11 rfl kf_101 rfl (hG.ob oc_0) d_Bs_copy_65 ?_
            refine x_iload_n (i := 1) d_Bs_copy_68 rfl rfl ?_
            refine x_iload_n (i := 2) d_Bs_copy_69 rfl rfl ?_
            refine x_iload (i := 5) d_Bs_copy_70 rfl ?_
            obtain ⟨v72, ev72, h⟩ := bd_e h
            refine y_V3 cs_Bs_142 rfl (hG.ob oc_18) (by first | decide | omega) (Nat.le_of_ble_eq_true rfl) d_Bs_copy_72 (c_Sh_hasItems hG 18 x1 x2 x5 oc_18 δ v72 ev72) (Nat.le_refl 0) (Nat.le_refl 0) ?_
            refine x_if_eq (tgt := 93) d_Bs_copy_75 (by decide) (fun c75 => ?_) (fun c75 => ?_)
            · have h := if_t c75 h
              refine x_bi (v := -12) d_Bs_copy_93 (by decide) ?_
              replace h := Option.some.inj h; subst h
              exact x_iret rfl d_Bs_copy_95 (Nat.le_refl 0) (Nat.le_refl 0)
            · have h := if_f c75 h
              refine x_aload_n (i := 0) d_Bs_copy_78 rfl rfl ?_
              refine x_getS (f := 101) (b := 18) gl_Bs_71_11 rfl kf_101 rfl (hG.ob oc_0) d_Bs_copy_79 ?_
              refine x_iload_n (i := 3) d_Bs_copy_82 rfl rfl ?_
              refine x_iload (i := 4) d_Bs_copy_83 rfl ?_
              refine x_iload (i := 5) d_Bs_copy_85 rfl ?_
              obtain ⟨v87, ev87, h⟩ := bd_e h
              refine y_V3 cs_Bs_142 rfl (hG.ob oc_18) (by first | decide | omega) (Nat.le_of_ble_eq_true rfl) d_Bs_copy_87 (c_Sh_hasItems hG 18 x3 x4 x5 oc_18 δ v87 ev87) (Nat.le_refl 0) (Nat.le_refl 0) ?_
              refine x_if_ne (tgt := 96) d_Bs_copy_90 (by decide) (fun c90 => ?_) (fun c90 => ?_)
              · have h := if_f c90 h
                refine x_aload_n (i := 0) d_Bs_copy_96 rfl rfl ?_
                refine x_getS (f := 101) (b := 18) gl_Bs_71_11 rfl kf_101 rfl (hG.ob oc_0) d_Bs_copy_97 ?_
                refine x_iload_n (i := 1) d_Bs_copy_100 rfl rfl ?_
                refine x_iload_n (i := 2) d_Bs_copy_101 rfl rfl ?_
                refine x_iload_n (i := 3) d_Bs_copy_102 rfl rfl ?_
                refine x_iload (i := 4) d_Bs_copy_103 rfl ?_
                refine x_iload (i := 5) d_Bs_copy_105 rfl ?_
                obtain ⟨δ107, eδ107, h⟩ := bd_e h
                refine y_V5v cs_Bs_376 rfl (hG.ob oc_18) (by first | decide | omega) (Nat.le_of_ble_eq_true rfl) d_Bs_copy_107 (c_Sh_move hG 18 x1 x2 x3 x4 x5 oc_18 δ δ107 eδ107) (Nat.le_refl 0) (Nat.le_refl 0) ?_
                refine x_iload (i := 5) d_Bs_copy_110 rfl ?_
                replace h := Option.some.inj h; subst h
                exact x_iret rfl d_Bs_copy_112 (Nat.le_refl 0) (Nat.le_refl 0)
              · have h := if_t c90 h
                refine x_bi (v := -12) d_Bs_copy_93 (by decide) ?_
                replace h := Option.some.inj h; subst h
                exact x_iret rfl d_Bs_copy_95 (Nat.le_refl 0) (Nat.le_refl 0)
          · have h := if_f c58 h
            refine x_bi (v := -13) d_Bs_copy_61 (by decide) ?_
            replace h := Option.some.inj h; subst h
            exact x_iret rfl d_Bs_copy_63 (Nat.le_refl 0) (Nat.le_refl 0)
        · have h := if_f c36 h
          refine x_bi (v := -11) d_Bs_copy_39 (by decide) ?_
          replace h := Option.some.inj h; subst h
          exact x_iret rfl d_Bs_copy_41 (Nat.le_refl 0) (Nat.le_refl 0)
    · have h := if_t c11 h
      refine x_bi (v := -2) d_Bs_copy_14 (by decide) ?_
      replace h := Option.some.inj h; subst h
      exact x_iret rfl d_Bs_copy_16 (Nat.le_refl 0) (Nat.le_refl 0)
