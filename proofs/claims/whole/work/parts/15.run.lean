/-! walks by program (wip/whole/gen.py): 15.run -/
abbrev M_Ru_begin : MM := (⟨RX5, "begin", "(LBlockStage$Stage;)V"⟩, prog_7_method_2_code, 2, none)
abbrev M_Ru_stateOf : MM := (⟨RX5, "stateOf", "(I)I"⟩, prog_7_method_3_code, 2, (some .int))
abbrev M_Ru_placeOf : MM := (⟨RX5, "placeOf", "(I)I"⟩, prog_7_method_4_code, 2, (some .int))
abbrev M_Ru_refusalOf : MM := (⟨RX5, "refusalOf", "(I)I"⟩, prog_7_method_5_code, 2, (some .int))
abbrev M_Ru_sayingPart : MM := (⟨RX5, "sayingPart", "(II)I"⟩, prog_7_method_6_code, 3, (some .int))
abbrev M_Ru_isHit : MM := (⟨RX5, "isHit", "(I)Z"⟩, prog_7_method_8_code, 4, (some .boolean))
abbrev M_Ru_worth : MM := (⟨RX5, "worth", "(III)I"⟩, prog_7_method_13_code, 7, (some .int))
abbrev M_Ru_addSaying : MM := (⟨RX5, "addSaying", "(II)V"⟩, prog_7_method_11_code, 3, none)
abbrev M_Ru_doOrder : MM := (⟨RX5, "doOrder", "(IIII)V"⟩, prog_7_method_10_code, 5, none)
abbrev M_Ru_goalOfShell : MM := (⟨RX5, "goalOfShell", "(IIZ)I"⟩, prog_7_method_12_code, 7, (some .int))
abbrev M_Ru_step : MM := (⟨RX5, "step", "(I)V"⟩, prog_7_method_9_code, 9, none)
abbrev M_Ru_oneTick : MM := (⟨RX5, "oneTick", "()V"⟩, prog_7_method_7_code, 2, none)
-- BlockStage$Run.begin(LBlockStage$Stage;)V
theorem d_Ru_begin_0 : decode M_Ru_begin.2.1 0 = .ok (.aload_n 0, 1) := by decide +kernel
theorem d_Ru_begin_1 : decode M_Ru_begin.2.1 1 = .ok (.getfield 21, 3) := by decide +kernel
theorem d_Ru_begin_4 : decode M_Ru_begin.2.1 4 = .ok (.aload_n 1, 1) := by decide +kernel
theorem d_Ru_begin_5 : decode M_Ru_begin.2.1 5 = .ok (.invokevirtual 65, 3) := by decide +kernel
theorem d_Ru_begin_8 : decode M_Ru_begin.2.1 8 = .ok (.aload_n 0, 1) := by decide +kernel
theorem d_Ru_begin_9 : decode M_Ru_begin.2.1 9 = .ok (.iconst 1, 1) := by decide +kernel
theorem d_Ru_begin_10 : decode M_Ru_begin.2.1 10 = .ok (.putfield 25, 3) := by decide +kernel
theorem d_Ru_begin_13 : decode M_Ru_begin.2.1 13 = .ok (.aload_n 0, 1) := by decide +kernel
theorem d_Ru_begin_14 : decode M_Ru_begin.2.1 14 = .ok (.iconst 0, 1) := by decide +kernel
theorem d_Ru_begin_15 : decode M_Ru_begin.2.1 15 = .ok (.putfield 29, 3) := by decide +kernel
theorem d_Ru_begin_18 : decode M_Ru_begin.2.1 18 = .ok (.aload_n 0, 1) := by decide +kernel
theorem d_Ru_begin_19 : decode M_Ru_begin.2.1 19 = .ok (.iconst 0, 1) := by decide +kernel
theorem d_Ru_begin_20 : decode M_Ru_begin.2.1 20 = .ok (.putfield 33, 3) := by decide +kernel
theorem d_Ru_begin_23 : decode M_Ru_begin.2.1 23 = .ok (.aload_n 0, 1) := by decide +kernel
theorem d_Ru_begin_24 : decode M_Ru_begin.2.1 24 = .ok (.iconst 0, 1) := by decide +kernel
theorem d_Ru_begin_25 : decode M_Ru_begin.2.1 25 = .ok (.putfield 56, 3) := by decide +kernel
theorem d_Ru_begin_28 : decode M_Ru_begin.2.1 28 = .ok (.aload_n 0, 1) := by decide +kernel
theorem d_Ru_begin_29 : decode M_Ru_begin.2.1 29 = .ok (.iconst 0, 1) := by decide +kernel
theorem d_Ru_begin_30 : decode M_Ru_begin.2.1 30 = .ok (.putfield 59, 3) := by decide +kernel
theorem d_Ru_begin_33 : decode M_Ru_begin.2.1 33 = .ok (.aload_n 0, 1) := by decide +kernel
theorem d_Ru_begin_34 : decode M_Ru_begin.2.1 34 = .ok (.iconst 0, 1) := by decide +kernel
theorem d_Ru_begin_35 : decode M_Ru_begin.2.1 35 = .ok (.putfield 62, 3) := by decide +kernel
theorem d_Ru_begin_38 : decode M_Ru_begin.2.1 38 = .ok (.aload_n 0, 1) := by decide +kernel
theorem d_Ru_begin_39 : decode M_Ru_begin.2.1 39 = .ok (.getfield 40, 3) := by decide +kernel
theorem d_Ru_begin_42 : decode M_Ru_begin.2.1 42 = .ok (.iconst 0, 1) := by decide +kernel
theorem d_Ru_begin_43 : decode M_Ru_begin.2.1 43 = .ok (.invokestatic 69, 3) := by decide +kernel
theorem d_Ru_begin_46 : decode M_Ru_begin.2.1 46 = .ok (.aload_n 0, 1) := by decide +kernel
theorem d_Ru_begin_47 : decode M_Ru_begin.2.1 47 = .ok (.getfield 43, 3) := by decide +kernel
theorem d_Ru_begin_50 : decode M_Ru_begin.2.1 50 = .ok (.iconst (-1), 1) := by decide +kernel
theorem d_Ru_begin_51 : decode M_Ru_begin.2.1 51 = .ok (.invokestatic 69, 3) := by decide +kernel
theorem d_Ru_begin_54 : decode M_Ru_begin.2.1 54 = .ok (.aload_n 0, 1) := by decide +kernel
theorem d_Ru_begin_55 : decode M_Ru_begin.2.1 55 = .ok (.getfield 50, 3) := by decide +kernel
theorem d_Ru_begin_58 : decode M_Ru_begin.2.1 58 = .ok (.iconst 0, 1) := by decide +kernel
theorem d_Ru_begin_59 : decode M_Ru_begin.2.1 59 = .ok (.invokestatic 69, 3) := by decide +kernel
theorem d_Ru_begin_62 : decode M_Ru_begin.2.1 62 = .ok (.aload_n 0, 1) := by decide +kernel
theorem d_Ru_begin_63 : decode M_Ru_begin.2.1 63 = .ok (.getfield 53, 3) := by decide +kernel
theorem d_Ru_begin_66 : decode M_Ru_begin.2.1 66 = .ok (.iconst 0, 1) := by decide +kernel
theorem d_Ru_begin_67 : decode M_Ru_begin.2.1 67 = .ok (.invokestatic 69, 3) := by decide +kernel
theorem d_Ru_begin_70 : decode M_Ru_begin.2.1 70 = .ok (.return_, 1) := by decide +kernel
theorem gl_Ru_21_5 : GL RX5 21 5 1 := ⟨RX5, TX5, 14, RX5, rfl, by decide, (lwg_at 123 (by decide +kernel) rfl), Or.inl rfl, gl_w inX5⟩
theorem mi_St_copyFrom : MI M_St_copyFrom 1 := ⟨(lwg_at 3 (by decide +kernel) rfl), (lwg_at 364 (by decide +kernel) rfl), ⟨by decide +kernel, by decide +kernel⟩, by decide +kernel, by decide⟩
theorem cs_Ru_65 : CV RX5 65 RX9 M_St_copyFrom 1 := ⟨(lwg_at 544 (by decide +kernel) rfl), (lwg_at 362 (by decide +kernel) rfl), (lwg_at 363 (by decide +kernel) rfl), mi_St_copyFrom⟩
theorem gp_Ru_25_5 : GP RX5 25 5 2 false .boolean := ⟨RX5, TX5, 14, RX5, tyX5, rfl, by decide, (lwg_at 126 (by decide +kernel) rfl), rfl, gl_w inX5, tyX5_ok, nmX5, rfl, by decide +kernel, fun h => by first | rfl | cases h⟩
theorem gp_Ru_29_5 : GP RX5 29 5 3 false .int := ⟨RX5, TX5, 14, RX5, tyX5, rfl, by decide, (lwg_at 128 (by decide +kernel) rfl), rfl, gl_w inX5, tyX5_ok, nmX5, rfl, by decide +kernel, fun h => by first | rfl | cases h⟩
theorem gp_Ru_33_5 : GP RX5 33 5 4 false .int := ⟨RX5, TX5, 14, RX5, tyX5, rfl, by decide, (lwg_at 130 (by decide +kernel) rfl), rfl, gl_w inX5, tyX5_ok, nmX5, rfl, by decide +kernel, fun h => by first | rfl | cases h⟩
theorem gp_Ru_56_5 : GP RX5 56 5 11 false .int := ⟨RX5, TX5, 14, RX5, tyX5, rfl, by decide, (lwg_at 139 (by decide +kernel) rfl), rfl, gl_w inX5, tyX5_ok, nmX5, rfl, by decide +kernel, fun h => by first | rfl | cases h⟩
theorem gp_Ru_59_5 : GP RX5 59 5 12 false .int := ⟨RX5, TX5, 14, RX5, tyX5, rfl, by decide, (lwg_at 140 (by decide +kernel) rfl), rfl, gl_w inX5, tyX5_ok, nmX5, rfl, by decide +kernel, fun h => by first | rfl | cases h⟩
theorem gp_Ru_62_5 : GP RX5 62 5 13 false .int := ⟨RX5, TX5, 14, RX5, tyX5, rfl, by decide, (lwg_at 141 (by decide +kernel) rfl), rfl, gl_w inX5, tyX5_ok, nmX5, rfl, by decide +kernel, fun h => by first | rfl | cases h⟩
theorem gl_Ru_40_5 : GL RX5 40 5 6 := ⟨RX5, TX5, 14, RX5, rfl, by decide, (lwg_at 134 (by decide +kernel) rfl), Or.inl rfl, gl_w inX5⟩
theorem cs_Ru_69 : CS RX5 69 M_Ar_fill2 2 := ⟨(lwg_at 545 (by decide +kernel) rfl), (lwg_at 66 (by decide +kernel) rfl), mi_Ar_fill2⟩
theorem gl_Ru_43_5 : GL RX5 43 5 7 := ⟨RX5, TX5, 14, RX5, rfl, by decide, (lwg_at 135 (by decide +kernel) rfl), Or.inl rfl, gl_w inX5⟩
theorem gl_Ru_50_5 : GL RX5 50 5 9 := ⟨RX5, TX5, 14, RX5, rfl, by decide, (lwg_at 137 (by decide +kernel) rfl), Or.inl rfl, gl_w inX5⟩
theorem gl_Ru_53_5 : GL RX5 53 5 10 := ⟨RX5, TX5, 14, RX5, rfl, by decide, (lwg_at 138 (by decide +kernel) rfl), Or.inl rfl, gl_w inX5⟩
def F_Ru_begin (a : Nat) (x1 : Nat) (δ : Dl) : Option (Dl) :=
  (F_St_copyFrom (wsr 41 a) x1 δ).bind fun δ5 => bnd (sI δ5 42 a 1) fun δ10 => bnd (sI δ10 43 a 0) fun δ15 => bnd (sI δ15 44 a 0) fun δ20 => bnd (sI δ20 51 a 0) fun δ25 => bnd (sI δ25 52 a 0) fun δ30 => bnd (sI δ30 53 a 0) fun δ35 => (F_Ar_fill2 46 a 6 0 δ35).bind fun δ43 => (F_Ar_fill2 47 a 6 (-1) δ43).bind fun δ51 => (F_Ar_fill2 49 a 6 0 δ51).bind fun δ59 => (F_Ar_fill2 50 a 30 0 δ59).bind fun δ67 => some δ67
set_option maxRecDepth 20000 in
set_option maxHeartbeats 4000000 in
theorem c_Ru_begin {l : Launch} {Γ : Gm} (hG : GC Γ) (a : Nat) (x1 : Nat) (ha : Oc a 5) (hx1 : Oc x1 9) (δ : Dl) (r : Dl) (h : F_Ru_begin a x1  δ = some r) : Ct l M_Ru_begin 2 0 0 NF [.inr (0, a), .inr (0, x1)] Γ δ (none, Γ, r) := by
  unfold F_Ru_begin at h
  have oa := hG.ob ha
  refine Ct.of2 (n := 0) (ls := [some (.inr (0, a)), some (.inr (0, x1))]) rfl (by decide +kernel) (Nat.le_of_ble_eq_true rfl) ?_
  refine x_aload_n (i := 0) d_Ru_begin_0 rfl rfl ?_
  refine x_getS (f := 41) (b := (wsr 41 a)) gl_Ru_21_5 rfl kf_41 rfl oa d_Ru_begin_1 ?_
  refine x_aload_n (i := 1) d_Ru_begin_4 rfl rfl ?_
  obtain ⟨δ5, eδ5, h⟩ := bd_e h
  refine y_V1v cs_Ru_65 rfl (hG.ob (run_stage a ha)) (by first | decide | omega) (Nat.le_of_ble_eq_true rfl) d_Ru_begin_5 (c_St_copyFrom hG (wsr 41 a) x1 (run_stage a ha) hx1 δ δ5 eδ5) (Nat.le_refl 0) (Nat.le_refl 0) ?_
  refine x_aload_n (i := 0) d_Ru_begin_8 rfl rfl ?_
  refine x_ic (v := 1) d_Ru_begin_9 (by decide) ?_
  obtain ⟨δ10, eδ10, h⟩ := bn_e h
  refine x_putI (f := 42) gp_Ru_25_5 rfl kf_42 (fun h => by cases h) rfl rfl oa.1 oa.z d_Ru_begin_10 (Xe.cδ eδ10 ?_)
  refine x_aload_n (i := 0) d_Ru_begin_13 rfl rfl ?_
  refine x_ic (v := 0) d_Ru_begin_14 (by decide) ?_
  obtain ⟨δ15, eδ15, h⟩ := bn_e h
  refine x_putI (f := 43) gp_Ru_29_5 rfl kf_43 (fun h => by cases h) rfl rfl oa.1 oa.z d_Ru_begin_15 (Xe.cδ eδ15 ?_)
  refine x_aload_n (i := 0) d_Ru_begin_18 rfl rfl ?_
  refine x_ic (v := 0) d_Ru_begin_19 (by decide) ?_
  obtain ⟨δ20, eδ20, h⟩ := bn_e h
  refine x_putI (f := 44) gp_Ru_33_5 rfl kf_44 (fun h => by cases h) rfl rfl oa.1 oa.z d_Ru_begin_20 (Xe.cδ eδ20 ?_)
  refine x_aload_n (i := 0) d_Ru_begin_23 rfl rfl ?_
  refine x_ic (v := 0) d_Ru_begin_24 (by decide) ?_
  obtain ⟨δ25, eδ25, h⟩ := bn_e h
  refine x_putI (f := 51) gp_Ru_56_5 rfl kf_51 (fun h => by cases h) rfl rfl oa.1 oa.z d_Ru_begin_25 (Xe.cδ eδ25 ?_)
  refine x_aload_n (i := 0) d_Ru_begin_28 rfl rfl ?_
  refine x_ic (v := 0) d_Ru_begin_29 (by decide) ?_
  obtain ⟨δ30, eδ30, h⟩ := bn_e h
  refine x_putI (f := 52) gp_Ru_59_5 rfl kf_52 (fun h => by cases h) rfl rfl oa.1 oa.z d_Ru_begin_30 (Xe.cδ eδ30 ?_)
  refine x_aload_n (i := 0) d_Ru_begin_33 rfl rfl ?_
  refine x_ic (v := 0) d_Ru_begin_34 (by decide) ?_
  obtain ⟨δ35, eδ35, h⟩ := bn_e h
  refine x_putI (f := 53) gp_Ru_62_5 rfl kf_53 (fun h => by cases h) rfl rfl oa.1 oa.z d_Ru_begin_35 (Xe.cδ eδ35 ?_)
  refine x_aload_n (i := 0) d_Ru_begin_38 rfl rfl ?_
  refine x_getA (f := 46) gl_Ru_40_5 rfl (by rw [kf_46]; decide) oa d_Ru_begin_39 ?_
  refine x_ic (v := 0) d_Ru_begin_42 (by decide) ?_
  obtain ⟨δ43, eδ43, h⟩ := bd_e h
  refine y_S2v cs_Ru_69 (by first | decide | omega) (Nat.le_of_ble_eq_true rfl) d_Ru_begin_43 (c_Ar_fill2 46 a 6 0 kf_46 (oz_46 oa) (ln_46 _) (lo_46 _) δ35 δ43 eδ43) (Nat.le_refl 0) (Nat.le_refl 0) ?_
  refine x_aload_n (i := 0) d_Ru_begin_46 rfl rfl ?_
  refine x_getA (f := 47) gl_Ru_43_5 rfl (by rw [kf_47]; decide) oa d_Ru_begin_47 ?_
  refine x_ic (v := -1) d_Ru_begin_50 (by decide) ?_
  obtain ⟨δ51, eδ51, h⟩ := bd_e h
  refine y_S2v cs_Ru_69 (by first | decide | omega) (Nat.le_of_ble_eq_true rfl) d_Ru_begin_51 (c_Ar_fill2 47 a 6 (-1) kf_47 (oz_47 oa) (ln_47 _) (lo_47 _) δ43 δ51 eδ51) (Nat.le_refl 0) (Nat.le_refl 0) ?_
  refine x_aload_n (i := 0) d_Ru_begin_54 rfl rfl ?_
  refine x_getA (f := 49) gl_Ru_50_5 rfl (by rw [kf_49]; decide) oa d_Ru_begin_55 ?_
  refine x_ic (v := 0) d_Ru_begin_58 (by decide) ?_
  obtain ⟨δ59, eδ59, h⟩ := bd_e h
  refine y_S2v cs_Ru_69 (by first | decide | omega) (Nat.le_of_ble_eq_true rfl) d_Ru_begin_59 (c_Ar_fill2 49 a 6 0 kf_49 (oz_49 oa) (ln_49 _) (lo_49 _) δ51 δ59 eδ59) (Nat.le_refl 0) (Nat.le_refl 0) ?_
  refine x_aload_n (i := 0) d_Ru_begin_62 rfl rfl ?_
  refine x_getA (f := 50) gl_Ru_53_5 rfl (by rw [kf_50]; decide) oa d_Ru_begin_63 ?_
  refine x_ic (v := 0) d_Ru_begin_66 (by decide) ?_
  obtain ⟨δ67, eδ67, h⟩ := bd_e h
  refine y_S2v cs_Ru_69 (by first | decide | omega) (Nat.le_of_ble_eq_true rfl) d_Ru_begin_67 (c_Ar_fill2 50 a 30 0 kf_50 (oz_50 oa) (ln_50 _) (lo_50 _) δ59 δ67 eδ67) (Nat.le_refl 0) (Nat.le_refl 0) ?_
  replace h := Option.some.inj h; subst h
  exact x_vret rfl d_Ru_begin_70 (Nat.le_refl 0) (Nat.le_refl 0)
-- BlockStage$Run.stateOf(I)I
theorem d_Ru_stateOf_0 : decode M_Ru_stateOf.2.1 0 = .ok (.iload_n 1, 1) := by decide +kernel
theorem d_Ru_stateOf_1 : decode M_Ru_stateOf.2.1 1 = .ok (.ifCond .lt 21, 3) := by decide +kernel
theorem d_Ru_stateOf_4 : decode M_Ru_stateOf.2.1 4 = .ok (.iload_n 1, 1) := by decide +kernel
theorem d_Ru_stateOf_5 : decode M_Ru_stateOf.2.1 5 = .ok (.aload_n 0, 1) := by decide +kernel
theorem d_Ru_stateOf_6 : decode M_Ru_stateOf.2.1 6 = .ok (.getfield 40, 3) := by decide +kernel
theorem d_Ru_stateOf_9 : decode M_Ru_stateOf.2.1 9 = .ok (.arraylength, 1) := by decide +kernel
theorem d_Ru_stateOf_10 : decode M_Ru_stateOf.2.1 10 = .ok (.if_icmp .ge 12, 3) := by decide +kernel
theorem d_Ru_stateOf_13 : decode M_Ru_stateOf.2.1 13 = .ok (.aload_n 0, 1) := by decide +kernel
theorem d_Ru_stateOf_14 : decode M_Ru_stateOf.2.1 14 = .ok (.getfield 40, 3) := by decide +kernel
theorem d_Ru_stateOf_17 : decode M_Ru_stateOf.2.1 17 = .ok (.iload_n 1, 1) := by decide +kernel
theorem d_Ru_stateOf_18 : decode M_Ru_stateOf.2.1 18 = .ok (.iaload, 1) := by decide +kernel
theorem d_Ru_stateOf_19 : decode M_Ru_stateOf.2.1 19 = .ok (.goto 4, 3) := by decide +kernel
theorem d_Ru_stateOf_22 : decode M_Ru_stateOf.2.1 22 = .ok (.iconst 0, 1) := by decide +kernel
theorem d_Ru_stateOf_23 : decode M_Ru_stateOf.2.1 23 = .ok (.ireturn, 1) := by decide +kernel
def F_Ru_stateOf (a : Nat) (x1 : Int32) (δ : Dl) : Option (Int32) :=
  if x1 < 0 then (some 0) else (if 6 ≤ x1 then (some 0) else (if inb x1 6 then some (δ.2.1 46 a x1) else none))
set_option maxRecDepth 20000 in
set_option maxHeartbeats 4000000 in
theorem c_Ru_stateOf {l : Launch} {Γ : Gm} (hG : GC Γ) (a : Nat) (x1 : Int32) (ha : Oc a 5) (δ : Dl) (r : Int32) (h : F_Ru_stateOf a x1  δ = some r) : Ct l M_Ru_stateOf 0 0 0 NF [.inr (0, a), .inl x1] Γ δ (some (.inl r), Γ, δ) := by
  unfold F_Ru_stateOf at h
  have oa := hG.ob ha
  refine Ct.of2 (n := 0) (ls := [some (.inr (0, a)), some (.inl x1)]) rfl (by decide +kernel) (Nat.le_of_ble_eq_true rfl) ?_
  refine x_iload_n (i := 1) d_Ru_stateOf_0 rfl rfl ?_
  refine x_if_lt (tgt := 22) d_Ru_stateOf_1 (by decide) (fun c1 => ?_) (fun c1 => ?_)
  · have h := if_t c1 h
    refine x_ic (v := 0) d_Ru_stateOf_22 (by decide) ?_
    replace h := Option.some.inj h; subst h
    exact x_iret rfl d_Ru_stateOf_23 (Nat.le_refl 0) (Nat.le_refl 0)
  · have h := if_f c1 h
    refine x_iload_n (i := 1) d_Ru_stateOf_4 rfl rfl ?_
    refine x_aload_n (i := 0) d_Ru_stateOf_5 rfl rfl ?_
    refine x_getA (f := 46) gl_Ru_40_5 rfl (by rw [kf_46]; decide) oa d_Ru_stateOf_6 ?_
    refine x_alen (n := 6) (Or.inl kf_46) (oz_46 oa) (lo_46 _) d_Ru_stateOf_9 ?_
    refine x_cmp_ge (tgt := 22) d_Ru_stateOf_10 (by decide) (fun c10 => ?_) (fun c10 => ?_)
    · have h := if_t c10 h
      refine x_ic (v := 0) d_Ru_stateOf_22 (by decide) ?_
      replace h := Option.some.inj h; subst h
      exact x_iret rfl d_Ru_stateOf_23 (Nat.le_refl 0) (Nat.le_refl 0)
    · have h := if_f c10 h
      refine x_aload_n (i := 0) d_Ru_stateOf_13 rfl rfl ?_
      refine x_getA (f := 46) gl_Ru_40_5 rfl (by rw [kf_46]; decide) oa d_Ru_stateOf_14 ?_
      refine x_iload_n (i := 1) d_Ru_stateOf_17 rfl rfl ?_
      obtain ⟨g18, h⟩ := gd_e h
      refine x_iald (n := 6) kf_46 (oz_46 oa) (ln_46 _) g18 d_Ru_stateOf_18 ?_
      refine x_goto (tgt := 23) d_Ru_stateOf_19 (by decide) ?_
      replace h := Option.some.inj h; subst h
      exact x_iret rfl d_Ru_stateOf_23 (Nat.le_refl 0) (Nat.le_refl 0)
-- BlockStage$Run.placeOf(I)I
theorem d_Ru_placeOf_0 : decode M_Ru_placeOf.2.1 0 = .ok (.iload_n 1, 1) := by decide +kernel
theorem d_Ru_placeOf_1 : decode M_Ru_placeOf.2.1 1 = .ok (.ifCond .lt 21, 3) := by decide +kernel
theorem d_Ru_placeOf_4 : decode M_Ru_placeOf.2.1 4 = .ok (.iload_n 1, 1) := by decide +kernel
theorem d_Ru_placeOf_5 : decode M_Ru_placeOf.2.1 5 = .ok (.aload_n 0, 1) := by decide +kernel
theorem d_Ru_placeOf_6 : decode M_Ru_placeOf.2.1 6 = .ok (.getfield 43, 3) := by decide +kernel
theorem d_Ru_placeOf_9 : decode M_Ru_placeOf.2.1 9 = .ok (.arraylength, 1) := by decide +kernel
theorem d_Ru_placeOf_10 : decode M_Ru_placeOf.2.1 10 = .ok (.if_icmp .ge 12, 3) := by decide +kernel
theorem d_Ru_placeOf_13 : decode M_Ru_placeOf.2.1 13 = .ok (.aload_n 0, 1) := by decide +kernel
theorem d_Ru_placeOf_14 : decode M_Ru_placeOf.2.1 14 = .ok (.getfield 43, 3) := by decide +kernel
theorem d_Ru_placeOf_17 : decode M_Ru_placeOf.2.1 17 = .ok (.iload_n 1, 1) := by decide +kernel
theorem d_Ru_placeOf_18 : decode M_Ru_placeOf.2.1 18 = .ok (.iaload, 1) := by decide +kernel
theorem d_Ru_placeOf_19 : decode M_Ru_placeOf.2.1 19 = .ok (.goto 4, 3) := by decide +kernel
theorem d_Ru_placeOf_22 : decode M_Ru_placeOf.2.1 22 = .ok (.iconst (-1), 1) := by decide +kernel
theorem d_Ru_placeOf_23 : decode M_Ru_placeOf.2.1 23 = .ok (.ireturn, 1) := by decide +kernel
def F_Ru_placeOf (a : Nat) (x1 : Int32) (δ : Dl) : Option (Int32) :=
  if x1 < 0 then (some (-1)) else (if 6 ≤ x1 then (some (-1)) else (if inb x1 6 then some (δ.2.1 47 a x1) else none))
set_option maxRecDepth 20000 in
set_option maxHeartbeats 4000000 in
theorem c_Ru_placeOf {l : Launch} {Γ : Gm} (hG : GC Γ) (a : Nat) (x1 : Int32) (ha : Oc a 5) (δ : Dl) (r : Int32) (h : F_Ru_placeOf a x1  δ = some r) : Ct l M_Ru_placeOf 0 0 0 NF [.inr (0, a), .inl x1] Γ δ (some (.inl r), Γ, δ) := by
  unfold F_Ru_placeOf at h
  have oa := hG.ob ha
  refine Ct.of2 (n := 0) (ls := [some (.inr (0, a)), some (.inl x1)]) rfl (by decide +kernel) (Nat.le_of_ble_eq_true rfl) ?_
  refine x_iload_n (i := 1) d_Ru_placeOf_0 rfl rfl ?_
  refine x_if_lt (tgt := 22) d_Ru_placeOf_1 (by decide) (fun c1 => ?_) (fun c1 => ?_)
  · have h := if_t c1 h
    refine x_ic (v := -1) d_Ru_placeOf_22 (by decide) ?_
    replace h := Option.some.inj h; subst h
    exact x_iret rfl d_Ru_placeOf_23 (Nat.le_refl 0) (Nat.le_refl 0)
  · have h := if_f c1 h
    refine x_iload_n (i := 1) d_Ru_placeOf_4 rfl rfl ?_
    refine x_aload_n (i := 0) d_Ru_placeOf_5 rfl rfl ?_
    refine x_getA (f := 47) gl_Ru_43_5 rfl (by rw [kf_47]; decide) oa d_Ru_placeOf_6 ?_
    refine x_alen (n := 6) (Or.inl kf_47) (oz_47 oa) (lo_47 _) d_Ru_placeOf_9 ?_
    refine x_cmp_ge (tgt := 22) d_Ru_placeOf_10 (by decide) (fun c10 => ?_) (fun c10 => ?_)
    · have h := if_t c10 h
      refine x_ic (v := -1) d_Ru_placeOf_22 (by decide) ?_
      replace h := Option.some.inj h; subst h
      exact x_iret rfl d_Ru_placeOf_23 (Nat.le_refl 0) (Nat.le_refl 0)
    · have h := if_f c10 h
      refine x_aload_n (i := 0) d_Ru_placeOf_13 rfl rfl ?_
      refine x_getA (f := 47) gl_Ru_43_5 rfl (by rw [kf_47]; decide) oa d_Ru_placeOf_14 ?_
      refine x_iload_n (i := 1) d_Ru_placeOf_17 rfl rfl ?_
      obtain ⟨g18, h⟩ := gd_e h
      refine x_iald (n := 6) kf_47 (oz_47 oa) (ln_47 _) g18 d_Ru_placeOf_18 ?_
      refine x_goto (tgt := 23) d_Ru_placeOf_19 (by decide) ?_
      replace h := Option.some.inj h; subst h
      exact x_iret rfl d_Ru_placeOf_23 (Nat.le_refl 0) (Nat.le_refl 0)
-- BlockStage$Run.refusalOf(I)I
theorem d_Ru_refusalOf_0 : decode M_Ru_refusalOf.2.1 0 = .ok (.iload_n 1, 1) := by decide +kernel
theorem d_Ru_refusalOf_1 : decode M_Ru_refusalOf.2.1 1 = .ok (.ifCond .lt 21, 3) := by decide +kernel
theorem d_Ru_refusalOf_4 : decode M_Ru_refusalOf.2.1 4 = .ok (.iload_n 1, 1) := by decide +kernel
theorem d_Ru_refusalOf_5 : decode M_Ru_refusalOf.2.1 5 = .ok (.aload_n 0, 1) := by decide +kernel
theorem d_Ru_refusalOf_6 : decode M_Ru_refusalOf.2.1 6 = .ok (.getfield 50, 3) := by decide +kernel
theorem d_Ru_refusalOf_9 : decode M_Ru_refusalOf.2.1 9 = .ok (.arraylength, 1) := by decide +kernel
theorem d_Ru_refusalOf_10 : decode M_Ru_refusalOf.2.1 10 = .ok (.if_icmp .ge 12, 3) := by decide +kernel
theorem d_Ru_refusalOf_13 : decode M_Ru_refusalOf.2.1 13 = .ok (.aload_n 0, 1) := by decide +kernel
theorem d_Ru_refusalOf_14 : decode M_Ru_refusalOf.2.1 14 = .ok (.getfield 50, 3) := by decide +kernel
theorem d_Ru_refusalOf_17 : decode M_Ru_refusalOf.2.1 17 = .ok (.iload_n 1, 1) := by decide +kernel
theorem d_Ru_refusalOf_18 : decode M_Ru_refusalOf.2.1 18 = .ok (.iaload, 1) := by decide +kernel
theorem d_Ru_refusalOf_19 : decode M_Ru_refusalOf.2.1 19 = .ok (.goto 4, 3) := by decide +kernel
theorem d_Ru_refusalOf_22 : decode M_Ru_refusalOf.2.1 22 = .ok (.iconst 0, 1) := by decide +kernel
theorem d_Ru_refusalOf_23 : decode M_Ru_refusalOf.2.1 23 = .ok (.ireturn, 1) := by decide +kernel
def F_Ru_refusalOf (a : Nat) (x1 : Int32) (δ : Dl) : Option (Int32) :=
  if x1 < 0 then (some 0) else (if 6 ≤ x1 then (some 0) else (if inb x1 6 then some (δ.2.1 49 a x1) else none))
set_option maxRecDepth 20000 in
set_option maxHeartbeats 4000000 in
theorem c_Ru_refusalOf {l : Launch} {Γ : Gm} (hG : GC Γ) (a : Nat) (x1 : Int32) (ha : Oc a 5) (δ : Dl) (r : Int32) (h : F_Ru_refusalOf a x1  δ = some r) : Ct l M_Ru_refusalOf 0 0 0 NF [.inr (0, a), .inl x1] Γ δ (some (.inl r), Γ, δ) := by
  unfold F_Ru_refusalOf at h
  have oa := hG.ob ha
  refine Ct.of2 (n := 0) (ls := [some (.inr (0, a)), some (.inl x1)]) rfl (by decide +kernel) (Nat.le_of_ble_eq_true rfl) ?_
  refine x_iload_n (i := 1) d_Ru_refusalOf_0 rfl rfl ?_
  refine x_if_lt (tgt := 22) d_Ru_refusalOf_1 (by decide) (fun c1 => ?_) (fun c1 => ?_)
  · have h := if_t c1 h
    refine x_ic (v := 0) d_Ru_refusalOf_22 (by decide) ?_
    replace h := Option.some.inj h; subst h
    exact x_iret rfl d_Ru_refusalOf_23 (Nat.le_refl 0) (Nat.le_refl 0)
  · have h := if_f c1 h
    refine x_iload_n (i := 1) d_Ru_refusalOf_4 rfl rfl ?_
    refine x_aload_n (i := 0) d_Ru_refusalOf_5 rfl rfl ?_
    refine x_getA (f := 49) gl_Ru_50_5 rfl (by rw [kf_49]; decide) oa d_Ru_refusalOf_6 ?_
    refine x_alen (n := 6) (Or.inl kf_49) (oz_49 oa) (lo_49 _) d_Ru_refusalOf_9 ?_
    refine x_cmp_ge (tgt := 22) d_Ru_refusalOf_10 (by decide) (fun c10 => ?_) (fun c10 => ?_)
    · have h := if_t c10 h
      refine x_ic (v := 0) d_Ru_refusalOf_22 (by decide) ?_
      replace h := Option.some.inj h; subst h
      exact x_iret rfl d_Ru_refusalOf_23 (Nat.le_refl 0) (Nat.le_refl 0)
    · have h := if_f c10 h
      refine x_aload_n (i := 0) d_Ru_refusalOf_13 rfl rfl ?_
      refine x_getA (f := 49) gl_Ru_50_5 rfl (by rw [kf_49]; decide) oa d_Ru_refusalOf_14 ?_
      refine x_iload_n (i := 1) d_Ru_refusalOf_17 rfl rfl ?_
      obtain ⟨g18, h⟩ := gd_e h
      refine x_iald (n := 6) kf_49 (oz_49 oa) (ln_49 _) g18 d_Ru_refusalOf_18 ?_
      refine x_goto (tgt := 23) d_Ru_refusalOf_19 (by decide) ?_
      replace h := Option.some.inj h; subst h
      exact x_iret rfl d_Ru_refusalOf_23 (Nat.le_refl 0) (Nat.le_refl 0)
-- BlockStage$Run.sayingPart(II)I
theorem d_Ru_sayingPart_0 : decode M_Ru_sayingPart.2.1 0 = .ok (.iload_n 1, 1) := by decide +kernel
theorem d_Ru_sayingPart_1 : decode M_Ru_sayingPart.2.1 1 = .ok (.ifCond .lt 17, 3) := by decide +kernel
theorem d_Ru_sayingPart_4 : decode M_Ru_sayingPart.2.1 4 = .ok (.iload_n 1, 1) := by decide +kernel
theorem d_Ru_sayingPart_5 : decode M_Ru_sayingPart.2.1 5 = .ok (.aload_n 0, 1) := by decide +kernel
theorem d_Ru_sayingPart_6 : decode M_Ru_sayingPart.2.1 6 = .ok (.getfield 33, 3) := by decide +kernel
theorem d_Ru_sayingPart_9 : decode M_Ru_sayingPart.2.1 9 = .ok (.if_icmp .ge 9, 3) := by decide +kernel
theorem d_Ru_sayingPart_12 : decode M_Ru_sayingPart.2.1 12 = .ok (.iload_n 1, 1) := by decide +kernel
theorem d_Ru_sayingPart_13 : decode M_Ru_sayingPart.2.1 13 = .ok (.bipush 50, 2) := by decide +kernel
theorem d_Ru_sayingPart_15 : decode M_Ru_sayingPart.2.1 15 = .ok (.if_icmp .lt 6, 3) := by decide +kernel
theorem d_Ru_sayingPart_18 : decode M_Ru_sayingPart.2.1 18 = .ok (.ldc 75, 2) := by decide +kernel
theorem d_Ru_sayingPart_20 : decode M_Ru_sayingPart.2.1 20 = .ok (.ireturn, 1) := by decide +kernel
theorem d_Ru_sayingPart_21 : decode M_Ru_sayingPart.2.1 21 = .ok (.iload_n 2, 1) := by decide +kernel
theorem d_Ru_sayingPart_22 : decode M_Ru_sayingPart.2.1 22 = .ok (.ifCond .lt 8, 3) := by decide +kernel
theorem d_Ru_sayingPart_25 : decode M_Ru_sayingPart.2.1 25 = .ok (.iload_n 2, 1) := by decide +kernel
theorem d_Ru_sayingPart_26 : decode M_Ru_sayingPart.2.1 26 = .ok (.iconst 3, 1) := by decide +kernel
theorem d_Ru_sayingPart_27 : decode M_Ru_sayingPart.2.1 27 = .ok (.if_icmp .lt 6, 3) := by decide +kernel
theorem d_Ru_sayingPart_30 : decode M_Ru_sayingPart.2.1 30 = .ok (.ldc 75, 2) := by decide +kernel
theorem d_Ru_sayingPart_32 : decode M_Ru_sayingPart.2.1 32 = .ok (.ireturn, 1) := by decide +kernel
theorem d_Ru_sayingPart_33 : decode M_Ru_sayingPart.2.1 33 = .ok (.aload_n 0, 1) := by decide +kernel
theorem d_Ru_sayingPart_34 : decode M_Ru_sayingPart.2.1 34 = .ok (.getfield 36, 3) := by decide +kernel
theorem d_Ru_sayingPart_37 : decode M_Ru_sayingPart.2.1 37 = .ok (.iload_n 1, 1) := by decide +kernel
theorem d_Ru_sayingPart_38 : decode M_Ru_sayingPart.2.1 38 = .ok (.iconst 3, 1) := by decide +kernel
theorem d_Ru_sayingPart_39 : decode M_Ru_sayingPart.2.1 39 = .ok (.imul, 1) := by decide +kernel
theorem d_Ru_sayingPart_40 : decode M_Ru_sayingPart.2.1 40 = .ok (.iload_n 2, 1) := by decide +kernel
theorem d_Ru_sayingPart_41 : decode M_Ru_sayingPart.2.1 41 = .ok (.iadd, 1) := by decide +kernel
theorem d_Ru_sayingPart_42 : decode M_Ru_sayingPart.2.1 42 = .ok (.iaload, 1) := by decide +kernel
theorem d_Ru_sayingPart_43 : decode M_Ru_sayingPart.2.1 43 = .ok (.ireturn, 1) := by decide +kernel
theorem kc_Ru_75 : Cond.constant RX5 75 (-2147483648) ∈ lwg := (lwg_at 695 (by decide +kernel) rfl)
theorem gl_Ru_33_5 : GL RX5 33 5 4 := ⟨RX5, TX5, 14, RX5, rfl, by decide, (lwg_at 130 (by decide +kernel) rfl), Or.inl rfl, gl_w inX5⟩
theorem gl_Ru_36_5 : GL RX5 36 5 5 := ⟨RX5, TX5, 14, RX5, rfl, by decide, (lwg_at 133 (by decide +kernel) rfl), Or.inl rfl, gl_w inX5⟩
def F_Ru_sayingPart (a : Nat) (x1 : Int32) (x2 : Int32) (δ : Dl) : Option (Int32) :=
  if x1 < 0 then (some (-2147483648)) else (if (δ.1 44 a) ≤ x1 then (some (-2147483648)) else (if x1 < 50 then (if x2 < 0 then (some (-2147483648)) else (if x2 < 3 then (if inb ((x1 * 3) + x2) 150 then some (δ.2.1 45 a ((x1 * 3) + x2)) else none) else (some (-2147483648)))) else (some (-2147483648))))
set_option maxRecDepth 20000 in
set_option maxHeartbeats 4000000 in
theorem c_Ru_sayingPart {l : Launch} {Γ : Gm} (hG : GC Γ) (a : Nat) (x1 : Int32) (x2 : Int32) (ha : Oc a 5) (δ : Dl) (r : Int32) (h : F_Ru_sayingPart a x1 x2  δ = some r) : Ct l M_Ru_sayingPart 0 0 0 NF [.inr (0, a), .inl x1, .inl x2] Γ δ (some (.inl r), Γ, δ) := by
  unfold F_Ru_sayingPart at h
  have oa := hG.ob ha
  refine Ct.of2 (n := 0) (ls := [some (.inr (0, a)), some (.inl x1), some (.inl x2)]) rfl (by decide +kernel) (Nat.le_of_ble_eq_true rfl) ?_
  refine x_iload_n (i := 1) d_Ru_sayingPart_0 rfl rfl ?_
  refine x_if_lt (tgt := 18) d_Ru_sayingPart_1 (by decide) (fun c1 => ?_) (fun c1 => ?_)
  · have h := if_t c1 h
    refine x_ldc (v := -2147483648) kc_Ru_75 d_Ru_sayingPart_18 ?_
    replace h := Option.some.inj h; subst h
    exact x_iret rfl d_Ru_sayingPart_20 (Nat.le_refl 0) (Nat.le_refl 0)
  · have h := if_f c1 h
    refine x_iload_n (i := 1) d_Ru_sayingPart_4 rfl rfl ?_
    refine x_aload_n (i := 0) d_Ru_sayingPart_5 rfl rfl ?_
    refine x_getI (f := 44) gl_Ru_33_5 rfl kf_44 oa d_Ru_sayingPart_6 ?_
    refine x_cmp_ge (tgt := 18) d_Ru_sayingPart_9 (by decide) (fun c9 => ?_) (fun c9 => ?_)
    · have h := if_t c9 h
      refine x_ldc (v := -2147483648) kc_Ru_75 d_Ru_sayingPart_18 ?_
      replace h := Option.some.inj h; subst h
      exact x_iret rfl d_Ru_sayingPart_20 (Nat.le_refl 0) (Nat.le_refl 0)
    · have h := if_f c9 h
      refine x_iload_n (i := 1) d_Ru_sayingPart_12 rfl rfl ?_
      refine x_bi (v := 50) d_Ru_sayingPart_13 (by decide) ?_
      refine x_cmp_lt (tgt := 21) d_Ru_sayingPart_15 (by decide) (fun c15 => ?_) (fun c15 => ?_)
      · have h := if_t c15 h
        refine x_iload_n (i := 2) d_Ru_sayingPart_21 rfl rfl ?_
        refine x_if_lt (tgt := 30) d_Ru_sayingPart_22 (by decide) (fun c22 => ?_) (fun c22 => ?_)
        · have h := if_t c22 h
          refine x_ldc (v := -2147483648) kc_Ru_75 d_Ru_sayingPart_30 ?_
          replace h := Option.some.inj h; subst h
          exact x_iret rfl d_Ru_sayingPart_32 (Nat.le_refl 0) (Nat.le_refl 0)
        · have h := if_f c22 h
          refine x_iload_n (i := 2) d_Ru_sayingPart_25 rfl rfl ?_
          refine x_ic (v := 3) d_Ru_sayingPart_26 (by decide) ?_
          refine x_cmp_lt (tgt := 33) d_Ru_sayingPart_27 (by decide) (fun c27 => ?_) (fun c27 => ?_)
          · have h := if_t c27 h
            refine x_aload_n (i := 0) d_Ru_sayingPart_33 rfl rfl ?_
            refine x_getA (f := 45) gl_Ru_36_5 rfl (by rw [kf_45]; decide) oa d_Ru_sayingPart_34 ?_
            refine x_iload_n (i := 1) d_Ru_sayingPart_37 rfl rfl ?_
            refine x_ic (v := 3) d_Ru_sayingPart_38 (by decide) ?_
            refine x_imul d_Ru_sayingPart_39 ?_
            refine x_iload_n (i := 2) d_Ru_sayingPart_40 rfl rfl ?_
            refine x_iadd d_Ru_sayingPart_41 ?_
            obtain ⟨g42, h⟩ := gd_e h
            refine x_iald (n := 150) kf_45 (oz_45 oa) (ln_45 _) g42 d_Ru_sayingPart_42 ?_
            replace h := Option.some.inj h; subst h
            exact x_iret rfl d_Ru_sayingPart_43 (Nat.le_refl 0) (Nat.le_refl 0)
          · have h := if_f c27 h
            refine x_ldc (v := -2147483648) kc_Ru_75 d_Ru_sayingPart_30 ?_
            replace h := Option.some.inj h; subst h
            exact x_iret rfl d_Ru_sayingPart_32 (Nat.le_refl 0) (Nat.le_refl 0)
      · have h := if_f c15 h
        refine x_ldc (v := -2147483648) kc_Ru_75 d_Ru_sayingPart_18 ?_
        replace h := Option.some.inj h; subst h
        exact x_iret rfl d_Ru_sayingPart_20 (Nat.le_refl 0) (Nat.le_refl 0)
-- BlockStage$Run.isHit(I)Z
theorem d_Ru_isHit_0 : decode M_Ru_isHit.2.1 0 = .ok (.aload_n 0, 1) := by decide +kernel
theorem d_Ru_isHit_1 : decode M_Ru_isHit.2.1 1 = .ok (.getfield 12, 3) := by decide +kernel
theorem d_Ru_isHit_4 : decode M_Ru_isHit.2.1 4 = .ok (.iload_n 1, 1) := by decide +kernel
theorem d_Ru_isHit_5 : decode M_Ru_isHit.2.1 5 = .ok (.invokevirtual 94, 3) := by decide +kernel
theorem d_Ru_isHit_8 : decode M_Ru_isHit.2.1 8 = .ok (.istore_n 2, 1) := by decide +kernel
theorem d_Ru_isHit_9 : decode M_Ru_isHit.2.1 9 = .ok (.aload_n 0, 1) := by decide +kernel
theorem d_Ru_isHit_10 : decode M_Ru_isHit.2.1 10 = .ok (.getfield 12, 3) := by decide +kernel
theorem d_Ru_isHit_13 : decode M_Ru_isHit.2.1 13 = .ok (.iload_n 1, 1) := by decide +kernel
theorem d_Ru_isHit_14 : decode M_Ru_isHit.2.1 14 = .ok (.invokevirtual 86, 3) := by decide +kernel
theorem d_Ru_isHit_17 : decode M_Ru_isHit.2.1 17 = .ok (.iconst (-1), 1) := by decide +kernel
theorem d_Ru_isHit_18 : decode M_Ru_isHit.2.1 18 = .ok (.if_icmp .eq 14, 3) := by decide +kernel
theorem d_Ru_isHit_21 : decode M_Ru_isHit.2.1 21 = .ok (.aload_n 0, 1) := by decide +kernel
theorem d_Ru_isHit_22 : decode M_Ru_isHit.2.1 22 = .ok (.getfield 21, 3) := by decide +kernel
theorem d_Ru_isHit_25 : decode M_Ru_isHit.2.1 25 = .ok (.iload_n 2, 1) := by decide +kernel
theorem d_Ru_isHit_26 : decode M_Ru_isHit.2.1 26 = .ok (.invokevirtual 97, 3) := by decide +kernel
theorem d_Ru_isHit_29 : decode M_Ru_isHit.2.1 29 = .ok (.ifCond .ne 5, 3) := by decide +kernel
theorem d_Ru_isHit_32 : decode M_Ru_isHit.2.1 32 = .ok (.iconst 0, 1) := by decide +kernel
theorem d_Ru_isHit_33 : decode M_Ru_isHit.2.1 33 = .ok (.ireturn, 1) := by decide +kernel
theorem d_Ru_isHit_34 : decode M_Ru_isHit.2.1 34 = .ok (.aload_n 0, 1) := by decide +kernel
theorem d_Ru_isHit_35 : decode M_Ru_isHit.2.1 35 = .ok (.getfield 12, 3) := by decide +kernel
theorem d_Ru_isHit_38 : decode M_Ru_isHit.2.1 38 = .ok (.iload_n 1, 1) := by decide +kernel
theorem d_Ru_isHit_39 : decode M_Ru_isHit.2.1 39 = .ok (.invokevirtual 100, 3) := by decide +kernel
theorem d_Ru_isHit_42 : decode M_Ru_isHit.2.1 42 = .ok (.istore_n 3, 1) := by decide +kernel
theorem d_Ru_isHit_43 : decode M_Ru_isHit.2.1 43 = .ok (.aload_n 0, 1) := by decide +kernel
theorem d_Ru_isHit_44 : decode M_Ru_isHit.2.1 44 = .ok (.getfield 12, 3) := by decide +kernel
theorem d_Ru_isHit_47 : decode M_Ru_isHit.2.1 47 = .ok (.iload_n 1, 1) := by decide +kernel
theorem d_Ru_isHit_48 : decode M_Ru_isHit.2.1 48 = .ok (.invokevirtual 103, 3) := by decide +kernel
theorem d_Ru_isHit_51 : decode M_Ru_isHit.2.1 51 = .ok (.tableswitch 98 0 3 #[29, 43, 61, 80], 29) := by decide +kernel
theorem d_Ru_isHit_80 : decode M_Ru_isHit.2.1 80 = .ok (.aload_n 0, 1) := by decide +kernel
theorem d_Ru_isHit_81 : decode M_Ru_isHit.2.1 81 = .ok (.getfield 29, 3) := by decide +kernel
theorem d_Ru_isHit_84 : decode M_Ru_isHit.2.1 84 = .ok (.iconst 1, 1) := by decide +kernel
theorem d_Ru_isHit_85 : decode M_Ru_isHit.2.1 85 = .ok (.if_icmp .ne 7, 3) := by decide +kernel
theorem d_Ru_isHit_88 : decode M_Ru_isHit.2.1 88 = .ok (.iconst 1, 1) := by decide +kernel
theorem d_Ru_isHit_89 : decode M_Ru_isHit.2.1 89 = .ok (.goto 4, 3) := by decide +kernel
theorem d_Ru_isHit_92 : decode M_Ru_isHit.2.1 92 = .ok (.iconst 0, 1) := by decide +kernel
theorem d_Ru_isHit_93 : decode M_Ru_isHit.2.1 93 = .ok (.ireturn, 1) := by decide +kernel
theorem d_Ru_isHit_94 : decode M_Ru_isHit.2.1 94 = .ok (.aload_n 0, 1) := by decide +kernel
theorem d_Ru_isHit_95 : decode M_Ru_isHit.2.1 95 = .ok (.getfield 59, 3) := by decide +kernel
theorem d_Ru_isHit_98 : decode M_Ru_isHit.2.1 98 = .ok (.iload_n 3, 1) := by decide +kernel
theorem d_Ru_isHit_99 : decode M_Ru_isHit.2.1 99 = .ok (.ishr, 1) := by decide +kernel
theorem d_Ru_isHit_100 : decode M_Ru_isHit.2.1 100 = .ok (.iconst 1, 1) := by decide +kernel
theorem d_Ru_isHit_101 : decode M_Ru_isHit.2.1 101 = .ok (.iand, 1) := by decide +kernel
theorem d_Ru_isHit_102 : decode M_Ru_isHit.2.1 102 = .ok (.iconst 1, 1) := by decide +kernel
theorem d_Ru_isHit_103 : decode M_Ru_isHit.2.1 103 = .ok (.if_icmp .ne 7, 3) := by decide +kernel
theorem d_Ru_isHit_106 : decode M_Ru_isHit.2.1 106 = .ok (.iconst 1, 1) := by decide +kernel
theorem d_Ru_isHit_107 : decode M_Ru_isHit.2.1 107 = .ok (.goto 4, 3) := by decide +kernel
theorem d_Ru_isHit_110 : decode M_Ru_isHit.2.1 110 = .ok (.iconst 0, 1) := by decide +kernel
theorem d_Ru_isHit_111 : decode M_Ru_isHit.2.1 111 = .ok (.ireturn, 1) := by decide +kernel
theorem d_Ru_isHit_112 : decode M_Ru_isHit.2.1 112 = .ok (.iload_n 3, 1) := by decide +kernel
theorem d_Ru_isHit_113 : decode M_Ru_isHit.2.1 113 = .ok (.ifCond .le 16, 3) := by decide +kernel
theorem d_Ru_isHit_116 : decode M_Ru_isHit.2.1 116 = .ok (.aload_n 0, 1) := by decide +kernel
theorem d_Ru_isHit_117 : decode M_Ru_isHit.2.1 117 = .ok (.getfield 29, 3) := by decide +kernel
theorem d_Ru_isHit_120 : decode M_Ru_isHit.2.1 120 = .ok (.iload_n 3, 1) := by decide +kernel
theorem d_Ru_isHit_121 : decode M_Ru_isHit.2.1 121 = .ok (.irem, 1) := by decide +kernel
theorem d_Ru_isHit_122 : decode M_Ru_isHit.2.1 122 = .ok (.ifCond .ne 7, 3) := by decide +kernel
theorem d_Ru_isHit_125 : decode M_Ru_isHit.2.1 125 = .ok (.iconst 1, 1) := by decide +kernel
theorem d_Ru_isHit_126 : decode M_Ru_isHit.2.1 126 = .ok (.goto 4, 3) := by decide +kernel
theorem d_Ru_isHit_129 : decode M_Ru_isHit.2.1 129 = .ok (.iconst 0, 1) := by decide +kernel
theorem d_Ru_isHit_130 : decode M_Ru_isHit.2.1 130 = .ok (.ireturn, 1) := by decide +kernel
theorem d_Ru_isHit_131 : decode M_Ru_isHit.2.1 131 = .ok (.aload_n 0, 1) := by decide +kernel
theorem d_Ru_isHit_132 : decode M_Ru_isHit.2.1 132 = .ok (.getfield 21, 3) := by decide +kernel
theorem d_Ru_isHit_135 : decode M_Ru_isHit.2.1 135 = .ok (.iload_n 2, 1) := by decide +kernel
theorem d_Ru_isHit_136 : decode M_Ru_isHit.2.1 136 = .ok (.invokevirtual 106, 3) := by decide +kernel
theorem d_Ru_isHit_139 : decode M_Ru_isHit.2.1 139 = .ok (.iconst 1, 1) := by decide +kernel
theorem d_Ru_isHit_140 : decode M_Ru_isHit.2.1 140 = .ok (.if_icmp .ne 7, 3) := by decide +kernel
theorem d_Ru_isHit_143 : decode M_Ru_isHit.2.1 143 = .ok (.iconst 1, 1) := by decide +kernel
theorem d_Ru_isHit_144 : decode M_Ru_isHit.2.1 144 = .ok (.goto 4, 3) := by decide +kernel
theorem d_Ru_isHit_147 : decode M_Ru_isHit.2.1 147 = .ok (.iconst 0, 1) := by decide +kernel
theorem d_Ru_isHit_148 : decode M_Ru_isHit.2.1 148 = .ok (.ireturn, 1) := by decide +kernel
theorem d_Ru_isHit_149 : decode M_Ru_isHit.2.1 149 = .ok (.iconst 0, 1) := by decide +kernel
theorem d_Ru_isHit_150 : decode M_Ru_isHit.2.1 150 = .ok (.ireturn, 1) := by decide +kernel
theorem gl_Ru_12_5 : GL RX5 12 5 0 := ⟨RX5, TX5, 14, RX5, rfl, by decide, (lwg_at 121 (by decide +kernel) rfl), Or.inl rfl, gl_w inX5⟩
theorem mi_Pr_actorOf : MI M_Pr_actorOf 1 := ⟨(lwg_at 2 (by decide +kernel) rfl), (lwg_at 561 (by decide +kernel) rfl), ⟨by decide +kernel, by decide +kernel⟩, by decide +kernel, by decide⟩
theorem cs_Ru_94 : CV RX5 94 RX3 M_Pr_actorOf 1 := ⟨(lwg_at 558 (by decide +kernel) rfl), (lwg_at 559 (by decide +kernel) rfl), (lwg_at 560 (by decide +kernel) rfl), mi_Pr_actorOf⟩
theorem mi_Pr_topOf : MI M_Pr_topOf 1 := ⟨(lwg_at 2 (by decide +kernel) rfl), (lwg_at 484 (by decide +kernel) rfl), ⟨by decide +kernel, by decide +kernel⟩, by decide +kernel, by decide⟩
theorem cs_Ru_86 : CV RX5 86 RX3 M_Pr_topOf 1 := ⟨(lwg_at 562 (by decide +kernel) rfl), (lwg_at 482 (by decide +kernel) rfl), (lwg_at 483 (by decide +kernel) rfl), mi_Pr_topOf⟩
theorem mi_St_isActor : MI M_St_isActor 1 := ⟨(lwg_at 3 (by decide +kernel) rfl), (lwg_at 566 (by decide +kernel) rfl), ⟨by decide +kernel, by decide +kernel⟩, by decide +kernel, by decide⟩
theorem cs_Ru_97 : CV RX5 97 RX9 M_St_isActor 1 := ⟨(lwg_at 563 (by decide +kernel) rfl), (lwg_at 564 (by decide +kernel) rfl), (lwg_at 565 (by decide +kernel) rfl), mi_St_isActor⟩
theorem mi_Pr_numberOfCap : MI M_Pr_numberOfCap 1 := ⟨(lwg_at 2 (by decide +kernel) rfl), (lwg_at 570 (by decide +kernel) rfl), ⟨by decide +kernel, by decide +kernel⟩, by decide +kernel, by decide⟩
theorem cs_Ru_100 : CV RX5 100 RX3 M_Pr_numberOfCap 1 := ⟨(lwg_at 567 (by decide +kernel) rfl), (lwg_at 568 (by decide +kernel) rfl), (lwg_at 569 (by decide +kernel) rfl), mi_Pr_numberOfCap⟩
theorem mi_Pr_capOf : MI M_Pr_capOf 1 := ⟨(lwg_at 2 (by decide +kernel) rfl), (lwg_at 574 (by decide +kernel) rfl), ⟨by decide +kernel, by decide +kernel⟩, by decide +kernel, by decide⟩
theorem cs_Ru_103 : CV RX5 103 RX3 M_Pr_capOf 1 := ⟨(lwg_at 571 (by decide +kernel) rfl), (lwg_at 572 (by decide +kernel) rfl), (lwg_at 573 (by decide +kernel) rfl), mi_Pr_capOf⟩
theorem gl_Ru_29_5 : GL RX5 29 5 3 := ⟨RX5, TX5, 14, RX5, rfl, by decide, (lwg_at 128 (by decide +kernel) rfl), Or.inl rfl, gl_w inX5⟩
theorem gl_Ru_59_5 : GL RX5 59 5 12 := ⟨RX5, TX5, 14, RX5, rfl, by decide, (lwg_at 140 (by decide +kernel) rfl), Or.inl rfl, gl_w inX5⟩
theorem mi_St_metOf : MI M_St_metOf 1 := ⟨(lwg_at 3 (by decide +kernel) rfl), (lwg_at 578 (by decide +kernel) rfl), ⟨by decide +kernel, by decide +kernel⟩, by decide +kernel, by decide⟩
theorem cs_Ru_106 : CV RX5 106 RX9 M_St_metOf 1 := ⟨(lwg_at 575 (by decide +kernel) rfl), (lwg_at 576 (by decide +kernel) rfl), (lwg_at 577 (by decide +kernel) rfl), mi_St_metOf⟩
def F_Ru_isHit (a : Nat) (x1 : Int32) (δ : Dl) : Option (Int32) :=
  (F_Pr_actorOf (wsr 40 a) x1 δ).bind fun v5 => (F_Pr_topOf (wsr 40 a) x1 δ).bind fun v14 => if v14 = (-1) then (some 0) else (bnd (F_St_isActor (wsr 41 a) v5 δ) fun v26 => if v26 = 0 then (some 0) else ((F_Pr_numberOfCap (wsr 40 a) x1 δ).bind fun v39 => (F_Pr_capOf (wsr 40 a) x1 δ).bind fun v48 => if v48 = 0 then (if (δ.1 43 a) = 1 then (some 1) else (some 0)) else if v48 = 1 then (if (((δ.1 52 a) >>> (v39 &&& 31)) &&& 1) = 1 then (some 1) else (some 0)) else if v48 = 2 then (if v39 ≤ 0 then (some 0) else (if ¬ v39 = 0 then if ((δ.1 43 a) - (δ.1 43 a) / v39 * v39) = 0 then (some 1) else (some 0) else none)) else if v48 = 3 then ((F_St_metOf (wsr 41 a) v5 δ).bind fun v136 => if v136 = 1 then (some 1) else (some 0)) else (some 0)))
set_option maxRecDepth 20000 in
set_option maxHeartbeats 4000000 in
theorem c_Ru_isHit {l : Launch} {Γ : Gm} (hG : GC Γ) (a : Nat) (x1 : Int32) (ha : Oc a 5) (δ : Dl) (r : Int32) (h : F_Ru_isHit a x1  δ = some r) : Ct l M_Ru_isHit 1 0 0 NF [.inr (0, a), .inl x1] Γ δ (some (.inl r), Γ, δ) := by
  unfold F_Ru_isHit at h
  have oa := hG.ob ha
  refine Ct.of2 (n := 2) (ls := [some (.inr (0, a)), some (.inl x1), none, none]) rfl (by decide +kernel) (Nat.le_of_ble_eq_true rfl) ?_
  refine x_aload_n (i := 0) d_Ru_isHit_0 rfl rfl ?_
  refine x_getS (f := 40) (b := (wsr 40 a)) gl_Ru_12_5 rfl kf_40 rfl oa d_Ru_isHit_1 ?_
  refine x_iload_n (i := 1) d_Ru_isHit_4 rfl rfl ?_
  obtain ⟨v5, ev5, h⟩ := bd_e h
  refine y_V1 cs_Ru_94 rfl (hG.ob (run_prog a ha)) (by first | decide | omega) (Nat.le_of_ble_eq_true rfl) d_Ru_isHit_5 (c_Pr_actorOf hG (wsr 40 a) x1 (run_prog a ha) δ v5 ev5) (Nat.le_refl 0) (Nat.le_refl 0) ?_
  refine x_stn (i := 2) (ls' := [some (.inr (0, a)), some (.inl x1), some (.inl v5), none]) d_Ru_isHit_8 rfl (by decide) rfl ?_
  refine x_aload_n (i := 0) d_Ru_isHit_9 rfl rfl ?_
  refine x_getS (f := 40) (b := (wsr 40 a)) gl_Ru_12_5 rfl kf_40 rfl oa d_Ru_isHit_10 ?_
  refine x_iload_n (i := 1) d_Ru_isHit_13 rfl rfl ?_
  obtain ⟨v14, ev14, h⟩ := bd_e h
  refine y_V1 cs_Ru_86 rfl (hG.ob (run_prog a ha)) (by first | decide | omega) (Nat.le_of_ble_eq_true rfl) d_Ru_isHit_14 (c_Pr_topOf hG (wsr 40 a) x1 (run_prog a ha) δ v14 ev14) (Nat.le_refl 0) (Nat.le_refl 0) ?_
  refine x_ic (v := -1) d_Ru_isHit_17 (by decide) ?_
  refine x_cmp_eq (tgt := 32) d_Ru_isHit_18 (by decide) (fun c18 => ?_) (fun c18 => ?_)
  · have h := if_t c18 h
    refine x_ic (v := 0) d_Ru_isHit_32 (by decide) ?_
    replace h := Option.some.inj h; subst h
    exact x_nret rfl rfl d_Ru_isHit_33 (Nat.le_refl 0) (Nat.le_refl 0)
  · have h := if_f c18 h
    refine x_aload_n (i := 0) d_Ru_isHit_21 rfl rfl ?_
    refine x_getS (f := 41) (b := (wsr 41 a)) gl_Ru_21_5 rfl kf_41 rfl oa d_Ru_isHit_22 ?_
    refine x_iload_n (i := 2) d_Ru_isHit_25 rfl rfl ?_
    obtain ⟨v26, ev26, h⟩ := bn_e h
    refine y_V1 cs_Ru_97 rfl (hG.ob (run_stage a ha)) (by first | decide | omega) (Nat.le_of_ble_eq_true rfl) d_Ru_isHit_26 (c_St_isActor hG (wsr 41 a) v5 (run_stage a ha) δ v26 ev26) (Nat.le_refl 0) (Nat.le_refl 0) ?_
    refine x_if_ne (tgt := 34) d_Ru_isHit_29 (by decide) (fun c29 => ?_) (fun c29 => ?_)
    · have h := if_f c29 h
      refine x_aload_n (i := 0) d_Ru_isHit_34 rfl rfl ?_
      refine x_getS (f := 40) (b := (wsr 40 a)) gl_Ru_12_5 rfl kf_40 rfl oa d_Ru_isHit_35 ?_
      refine x_iload_n (i := 1) d_Ru_isHit_38 rfl rfl ?_
      obtain ⟨v39, ev39, h⟩ := bd_e h
      refine y_V1 cs_Ru_100 rfl (hG.ob (run_prog a ha)) (by first | decide | omega) (Nat.le_of_ble_eq_true rfl) d_Ru_isHit_39 (c_Pr_numberOfCap hG (wsr 40 a) x1 (run_prog a ha) δ v39 ev39) (Nat.le_refl 0) (Nat.le_refl 0) ?_
      refine x_stn (i := 3) (ls' := [some (.inr (0, a)), some (.inl x1), some (.inl v5), some (.inl v39)]) d_Ru_isHit_42 rfl (by decide) rfl ?_
      refine x_aload_n (i := 0) d_Ru_isHit_43 rfl rfl ?_
      refine x_getS (f := 40) (b := (wsr 40 a)) gl_Ru_12_5 rfl kf_40 rfl oa d_Ru_isHit_44 ?_
      refine x_iload_n (i := 1) d_Ru_isHit_47 rfl rfl ?_
      obtain ⟨v48, ev48, h⟩ := bd_e h
      refine y_V1 cs_Ru_103 rfl (hG.ob (run_prog a ha)) (by first | decide | omega) (Nat.le_of_ble_eq_true rfl) d_Ru_isHit_48 (c_Pr_capOf hG (wsr 40 a) x1 (run_prog a ha) δ v48 ev48) (Nat.le_refl 0) (Nat.le_refl 0) ?_
      by_cases c51_0 : v48 = 0
      · have h := if_t c51_0 h
        refine x_tin (v := 0) (off := 29) (tgt := 80) d_Ru_isHit_51 c51_0 (by decide +kernel) ?_
        refine x_aload_n (i := 0) d_Ru_isHit_80 rfl rfl ?_
        refine x_getI (f := 43) gl_Ru_29_5 rfl kf_43 oa d_Ru_isHit_81 ?_
        refine x_ic (v := 1) d_Ru_isHit_84 (by decide) ?_
        refine x_cmp_ne (tgt := 92) d_Ru_isHit_85 (by decide) (fun c85 => ?_) (fun c85 => ?_)
        · have h := if_f c85 h
          refine x_ic (v := 0) d_Ru_isHit_92 (by decide) ?_
          replace h := Option.some.inj h; subst h
          exact x_nret rfl rfl d_Ru_isHit_93 (Nat.le_refl 0) (Nat.le_refl 0)
        · have h := if_t c85 h
          refine x_ic (v := 1) d_Ru_isHit_88 (by decide) ?_
          refine x_goto (tgt := 93) d_Ru_isHit_89 (by decide) ?_
          replace h := Option.some.inj h; subst h
          exact x_nret rfl rfl d_Ru_isHit_93 (Nat.le_refl 0) (Nat.le_refl 0)
      have h := if_f c51_0 h
      by_cases c51_1 : v48 = 1
      · have h := if_t c51_1 h
        refine x_tin (v := 1) (off := 43) (tgt := 94) d_Ru_isHit_51 c51_1 (by decide +kernel) ?_
        refine x_aload_n (i := 0) d_Ru_isHit_94 rfl rfl ?_
        refine x_getI (f := 52) gl_Ru_59_5 rfl kf_52 oa d_Ru_isHit_95 ?_
        refine x_iload_n (i := 3) d_Ru_isHit_98 rfl rfl ?_
        refine x_ishr d_Ru_isHit_99 ?_
        refine x_ic (v := 1) d_Ru_isHit_100 (by decide) ?_
        refine x_iand d_Ru_isHit_101 ?_
        refine x_ic (v := 1) d_Ru_isHit_102 (by decide) ?_
        refine x_cmp_ne (tgt := 110) d_Ru_isHit_103 (by decide) (fun c103 => ?_) (fun c103 => ?_)
        · have h := if_f c103 h
          refine x_ic (v := 0) d_Ru_isHit_110 (by decide) ?_
          replace h := Option.some.inj h; subst h
          exact x_nret rfl rfl d_Ru_isHit_111 (Nat.le_refl 0) (Nat.le_refl 0)
        · have h := if_t c103 h
          refine x_ic (v := 1) d_Ru_isHit_106 (by decide) ?_
          refine x_goto (tgt := 111) d_Ru_isHit_107 (by decide) ?_
          replace h := Option.some.inj h; subst h
          exact x_nret rfl rfl d_Ru_isHit_111 (Nat.le_refl 0) (Nat.le_refl 0)
      have h := if_f c51_1 h
      by_cases c51_2 : v48 = 2
      · have h := if_t c51_2 h
        refine x_tin (v := 2) (off := 61) (tgt := 112) d_Ru_isHit_51 c51_2 (by decide +kernel) ?_
        refine x_iload_n (i := 3) d_Ru_isHit_112 rfl rfl ?_
        refine x_if_le (tgt := 129) d_Ru_isHit_113 (by decide) (fun c113 => ?_) (fun c113 => ?_)
        · have h := if_t c113 h
          refine x_ic (v := 0) d_Ru_isHit_129 (by decide) ?_
          replace h := Option.some.inj h; subst h
          exact x_nret rfl rfl d_Ru_isHit_130 (Nat.le_refl 0) (Nat.le_refl 0)
        · have h := if_f c113 h
          refine x_aload_n (i := 0) d_Ru_isHit_116 rfl rfl ?_
          refine x_getI (f := 43) gl_Ru_29_5 rfl kf_43 oa d_Ru_isHit_117 ?_
          refine x_iload_n (i := 3) d_Ru_isHit_120 rfl rfl ?_
          obtain ⟨g121, h⟩ := gd_e h
          refine x_irem d_Ru_isHit_121 g121 ?_
          refine x_if_ne (tgt := 129) d_Ru_isHit_122 (by decide) (fun c122 => ?_) (fun c122 => ?_)
          · have h := if_f c122 h
            refine x_ic (v := 0) d_Ru_isHit_129 (by decide) ?_
            replace h := Option.some.inj h; subst h
            exact x_nret rfl rfl d_Ru_isHit_130 (Nat.le_refl 0) (Nat.le_refl 0)
          · have h := if_t c122 h
            refine x_ic (v := 1) d_Ru_isHit_125 (by decide) ?_
            refine x_goto (tgt := 130) d_Ru_isHit_126 (by decide) ?_
            replace h := Option.some.inj h; subst h
            exact x_nret rfl rfl d_Ru_isHit_130 (Nat.le_refl 0) (Nat.le_refl 0)
      have h := if_f c51_2 h
      by_cases c51_3 : v48 = 3
      · have h := if_t c51_3 h
        refine x_tin (v := 3) (off := 80) (tgt := 131) d_Ru_isHit_51 c51_3 (by decide +kernel) ?_
        refine x_aload_n (i := 0) d_Ru_isHit_131 rfl rfl ?_
        refine x_getS (f := 41) (b := (wsr 41 a)) gl_Ru_21_5 rfl kf_41 rfl oa d_Ru_isHit_132 ?_
        refine x_iload_n (i := 2) d_Ru_isHit_135 rfl rfl ?_
        obtain ⟨v136, ev136, h⟩ := bd_e h
        refine y_V1 cs_Ru_106 rfl (hG.ob (run_stage a ha)) (by first | decide | omega) (Nat.le_of_ble_eq_true rfl) d_Ru_isHit_136 (c_St_metOf hG (wsr 41 a) v5 (run_stage a ha) δ v136 ev136) (Nat.le_refl 0) (Nat.le_refl 0) ?_
        refine x_ic (v := 1) d_Ru_isHit_139 (by decide) ?_
        refine x_cmp_ne (tgt := 147) d_Ru_isHit_140 (by decide) (fun c140 => ?_) (fun c140 => ?_)
        · have h := if_f c140 h
          refine x_ic (v := 0) d_Ru_isHit_147 (by decide) ?_
          replace h := Option.some.inj h; subst h
          exact x_nret rfl rfl d_Ru_isHit_148 (Nat.le_refl 0) (Nat.le_refl 0)
        · have h := if_t c140 h
          refine x_ic (v := 1) d_Ru_isHit_143 (by decide) ?_
          refine x_goto (tgt := 148) d_Ru_isHit_144 (by decide) ?_
          replace h := Option.some.inj h; subst h
          exact x_nret rfl rfl d_Ru_isHit_148 (Nat.le_refl 0) (Nat.le_refl 0)
      have h := if_f c51_3 h
      have n51_0 := lv_neT (a := 0) c51_0 (by decide)
      have n51_1 := lv_neT (a := 1) c51_1 (by decide)
      have n51_2 := lv_neT (a := 2) c51_2 (by decide)
      have n51_3 := lv_neT (a := 3) c51_3 (by decide)
      refine x_tout (tgt := 149) d_Ru_isHit_51 (by omega) (by decide) ?_
      refine x_ic (v := 0) d_Ru_isHit_149 (by decide) ?_
      replace h := Option.some.inj h; subst h
      exact x_nret rfl rfl d_Ru_isHit_150 (Nat.le_refl 0) (Nat.le_refl 0)
    · have h := if_t c29 h
      refine x_ic (v := 0) d_Ru_isHit_32 (by decide) ?_
      replace h := Option.some.inj h; subst h
      exact x_nret rfl rfl d_Ru_isHit_33 (Nat.le_refl 0) (Nat.le_refl 0)
-- BlockStage$Run.worth(III)I
theorem d_Ru_worth_0 : decode M_Ru_worth.2.1 0 = .ok (.aload_n 0, 1) := by decide +kernel
theorem d_Ru_worth_1 : decode M_Ru_worth.2.1 1 = .ok (.getfield 12, 3) := by decide +kernel
theorem d_Ru_worth_4 : decode M_Ru_worth.2.1 4 = .ok (.iload_n 1, 1) := by decide +kernel
theorem d_Ru_worth_5 : decode M_Ru_worth.2.1 5 = .ok (.invokevirtual 109, 3) := by decide +kernel
theorem d_Ru_worth_8 : decode M_Ru_worth.2.1 8 = .ok (.istore 4, 2) := by decide +kernel
theorem d_Ru_worth_10 : decode M_Ru_worth.2.1 10 = .ok (.iload 4, 2) := by decide +kernel
theorem d_Ru_worth_12 : decode M_Ru_worth.2.1 12 = .ok (.iconst (-1), 1) := by decide +kernel
theorem d_Ru_worth_13 : decode M_Ru_worth.2.1 13 = .ok (.if_icmp .eq 16, 3) := by decide +kernel
theorem d_Ru_worth_16 : decode M_Ru_worth.2.1 16 = .ok (.aload_n 0, 1) := by decide +kernel
theorem d_Ru_worth_17 : decode M_Ru_worth.2.1 17 = .ok (.getfield 62, 3) := by decide +kernel
theorem d_Ru_worth_20 : decode M_Ru_worth.2.1 20 = .ok (.ifCond .ne 9, 3) := by decide +kernel
theorem d_Ru_worth_23 : decode M_Ru_worth.2.1 23 = .ok (.iload_n 3, 1) := by decide +kernel
theorem d_Ru_worth_24 : decode M_Ru_worth.2.1 24 = .ok (.bipush 30, 2) := by decide +kernel
theorem d_Ru_worth_26 : decode M_Ru_worth.2.1 26 = .ok (.if_icmp .le 5, 3) := by decide +kernel
theorem d_Ru_worth_29 : decode M_Ru_worth.2.1 29 = .ok (.iconst 0, 1) := by decide +kernel
theorem d_Ru_worth_30 : decode M_Ru_worth.2.1 30 = .ok (.ireturn, 1) := by decide +kernel
theorem d_Ru_worth_31 : decode M_Ru_worth.2.1 31 = .ok (.aload_n 0, 1) := by decide +kernel
theorem d_Ru_worth_32 : decode M_Ru_worth.2.1 32 = .ok (.aload_n 0, 1) := by decide +kernel
theorem d_Ru_worth_33 : decode M_Ru_worth.2.1 33 = .ok (.getfield 12, 3) := by decide +kernel
theorem d_Ru_worth_36 : decode M_Ru_worth.2.1 36 = .ok (.iload_n 1, 1) := by decide +kernel
theorem d_Ru_worth_37 : decode M_Ru_worth.2.1 37 = .ok (.iconst 3, 1) := by decide +kernel
theorem d_Ru_worth_38 : decode M_Ru_worth.2.1 38 = .ok (.invokevirtual 112, 3) := by decide +kernel
theorem d_Ru_worth_41 : decode M_Ru_worth.2.1 41 = .ok (.iload_n 2, 1) := by decide +kernel
theorem d_Ru_worth_42 : decode M_Ru_worth.2.1 42 = .ok (.iload_n 3, 1) := by decide +kernel
theorem d_Ru_worth_43 : decode M_Ru_worth.2.1 43 = .ok (.iconst 1, 1) := by decide +kernel
theorem d_Ru_worth_44 : decode M_Ru_worth.2.1 44 = .ok (.iadd, 1) := by decide +kernel
theorem d_Ru_worth_45 : decode M_Ru_worth.2.1 45 = .ok (.invokevirtual 116, 3) := by decide +kernel
theorem d_Ru_worth_48 : decode M_Ru_worth.2.1 48 = .ok (.istore 5, 2) := by decide +kernel
theorem d_Ru_worth_50 : decode M_Ru_worth.2.1 50 = .ok (.aload_n 0, 1) := by decide +kernel
theorem d_Ru_worth_51 : decode M_Ru_worth.2.1 51 = .ok (.aload_n 0, 1) := by decide +kernel
theorem d_Ru_worth_52 : decode M_Ru_worth.2.1 52 = .ok (.getfield 12, 3) := by decide +kernel
theorem d_Ru_worth_55 : decode M_Ru_worth.2.1 55 = .ok (.iload_n 1, 1) := by decide +kernel
theorem d_Ru_worth_56 : decode M_Ru_worth.2.1 56 = .ok (.iconst 4, 1) := by decide +kernel
theorem d_Ru_worth_57 : decode M_Ru_worth.2.1 57 = .ok (.invokevirtual 112, 3) := by decide +kernel
theorem d_Ru_worth_60 : decode M_Ru_worth.2.1 60 = .ok (.iload_n 2, 1) := by decide +kernel
theorem d_Ru_worth_61 : decode M_Ru_worth.2.1 61 = .ok (.iload_n 3, 1) := by decide +kernel
theorem d_Ru_worth_62 : decode M_Ru_worth.2.1 62 = .ok (.iconst 1, 1) := by decide +kernel
theorem d_Ru_worth_63 : decode M_Ru_worth.2.1 63 = .ok (.iadd, 1) := by decide +kernel
theorem d_Ru_worth_64 : decode M_Ru_worth.2.1 64 = .ok (.invokevirtual 116, 3) := by decide +kernel
theorem d_Ru_worth_67 : decode M_Ru_worth.2.1 67 = .ok (.istore 6, 2) := by decide +kernel
theorem d_Ru_worth_69 : decode M_Ru_worth.2.1 69 = .ok (.aload_n 0, 1) := by decide +kernel
theorem d_Ru_worth_70 : decode M_Ru_worth.2.1 70 = .ok (.getfield 62, 3) := by decide +kernel
theorem d_Ru_worth_73 : decode M_Ru_worth.2.1 73 = .ok (.ifCond .eq 5, 3) := by decide +kernel
theorem d_Ru_worth_76 : decode M_Ru_worth.2.1 76 = .ok (.iconst 0, 1) := by decide +kernel
theorem d_Ru_worth_77 : decode M_Ru_worth.2.1 77 = .ok (.ireturn, 1) := by decide +kernel
theorem d_Ru_worth_78 : decode M_Ru_worth.2.1 78 = .ok (.iload 4, 2) := by decide +kernel
theorem d_Ru_worth_80 : decode M_Ru_worth.2.1 80 = .ok (.tableswitch 182 13 22 #[56, 65, 74, 80, 89, 114, 140, 149, 162, 173], 56) := by decide +kernel
theorem d_Ru_worth_136 : decode M_Ru_worth.2.1 136 = .ok (.aload_n 0, 1) := by decide +kernel
theorem d_Ru_worth_137 : decode M_Ru_worth.2.1 137 = .ok (.getfield 12, 3) := by decide +kernel
theorem d_Ru_worth_140 : decode M_Ru_worth.2.1 140 = .ok (.iload_n 1, 1) := by decide +kernel
theorem d_Ru_worth_141 : decode M_Ru_worth.2.1 141 = .ok (.invokevirtual 137, 3) := by decide +kernel
theorem d_Ru_worth_144 : decode M_Ru_worth.2.1 144 = .ok (.ireturn, 1) := by decide +kernel
theorem d_Ru_worth_145 : decode M_Ru_worth.2.1 145 = .ok (.aload_n 0, 1) := by decide +kernel
theorem d_Ru_worth_146 : decode M_Ru_worth.2.1 146 = .ok (.getfield 21, 3) := by decide +kernel
theorem d_Ru_worth_149 : decode M_Ru_worth.2.1 149 = .ok (.iload_n 2, 1) := by decide +kernel
theorem d_Ru_worth_150 : decode M_Ru_worth.2.1 150 = .ok (.invokevirtual 174, 3) := by decide +kernel
theorem d_Ru_worth_153 : decode M_Ru_worth.2.1 153 = .ok (.ireturn, 1) := by decide +kernel
theorem d_Ru_worth_154 : decode M_Ru_worth.2.1 154 = .ok (.iload 5, 2) := by decide +kernel
theorem d_Ru_worth_156 : decode M_Ru_worth.2.1 156 = .ok (.iload 6, 2) := by decide +kernel
theorem d_Ru_worth_158 : decode M_Ru_worth.2.1 158 = .ok (.iadd, 1) := by decide +kernel
theorem d_Ru_worth_159 : decode M_Ru_worth.2.1 159 = .ok (.ireturn, 1) := by decide +kernel
theorem d_Ru_worth_160 : decode M_Ru_worth.2.1 160 = .ok (.aload_n 0, 1) := by decide +kernel
theorem d_Ru_worth_161 : decode M_Ru_worth.2.1 161 = .ok (.getfield 21, 3) := by decide +kernel
theorem d_Ru_worth_164 : decode M_Ru_worth.2.1 164 = .ok (.iload_n 2, 1) := by decide +kernel
theorem d_Ru_worth_165 : decode M_Ru_worth.2.1 165 = .ok (.invokevirtual 177, 3) := by decide +kernel
theorem d_Ru_worth_168 : decode M_Ru_worth.2.1 168 = .ok (.ireturn, 1) := by decide +kernel
theorem d_Ru_worth_169 : decode M_Ru_worth.2.1 169 = .ok (.aload_n 0, 1) := by decide +kernel
theorem d_Ru_worth_170 : decode M_Ru_worth.2.1 170 = .ok (.aload_n 0, 1) := by decide +kernel
theorem d_Ru_worth_171 : decode M_Ru_worth.2.1 171 = .ok (.getfield 21, 3) := by decide +kernel
theorem d_Ru_worth_174 : decode M_Ru_worth.2.1 174 = .ok (.iload_n 2, 1) := by decide +kernel
theorem d_Ru_worth_175 : decode M_Ru_worth.2.1 175 = .ok (.iload 5, 2) := by decide +kernel
theorem d_Ru_worth_177 : decode M_Ru_worth.2.1 177 = .ok (.invokevirtual 159, 3) := by decide +kernel
theorem d_Ru_worth_180 : decode M_Ru_worth.2.1 180 = .ok (.putfield 62, 3) := by decide +kernel
theorem d_Ru_worth_183 : decode M_Ru_worth.2.1 183 = .ok (.aload_n 0, 1) := by decide +kernel
theorem d_Ru_worth_184 : decode M_Ru_worth.2.1 184 = .ok (.getfield 21, 3) := by decide +kernel
theorem d_Ru_worth_187 : decode M_Ru_worth.2.1 187 = .ok (.iload_n 2, 1) := by decide +kernel
theorem d_Ru_worth_188 : decode M_Ru_worth.2.1 188 = .ok (.iload 5, 2) := by decide +kernel
theorem d_Ru_worth_190 : decode M_Ru_worth.2.1 190 = .ok (.invokevirtual 180, 3) := by decide +kernel
theorem d_Ru_worth_193 : decode M_Ru_worth.2.1 193 = .ok (.ireturn, 1) := by decide +kernel
theorem d_Ru_worth_194 : decode M_Ru_worth.2.1 194 = .ok (.iload 6, 2) := by decide +kernel
theorem d_Ru_worth_196 : decode M_Ru_worth.2.1 196 = .ok (.ifCond .ne 9, 3) := by decide +kernel
theorem d_Ru_worth_199 : decode M_Ru_worth.2.1 199 = .ok (.aload_n 0, 1) := by decide +kernel
theorem d_Ru_worth_200 : decode M_Ru_worth.2.1 200 = .ok (.bipush (-15), 2) := by decide +kernel
theorem d_Ru_worth_202 : decode M_Ru_worth.2.1 202 = .ok (.putfield 62, 3) := by decide +kernel
theorem d_Ru_worth_205 : decode M_Ru_worth.2.1 205 = .ok (.iload 6, 2) := by decide +kernel
theorem d_Ru_worth_207 : decode M_Ru_worth.2.1 207 = .ok (.ifCond .ne 7, 3) := by decide +kernel
theorem d_Ru_worth_210 : decode M_Ru_worth.2.1 210 = .ok (.iconst 0, 1) := by decide +kernel
theorem d_Ru_worth_211 : decode M_Ru_worth.2.1 211 = .ok (.goto 8, 3) := by decide +kernel
theorem d_Ru_worth_214 : decode M_Ru_worth.2.1 214 = .ok (.iload 5, 2) := by decide +kernel
theorem d_Ru_worth_216 : decode M_Ru_worth.2.1 216 = .ok (.iload 6, 2) := by decide +kernel
theorem d_Ru_worth_218 : decode M_Ru_worth.2.1 218 = .ok (.idiv, 1) := by decide +kernel
theorem d_Ru_worth_219 : decode M_Ru_worth.2.1 219 = .ok (.ireturn, 1) := by decide +kernel
theorem d_Ru_worth_220 : decode M_Ru_worth.2.1 220 = .ok (.aload_n 0, 1) := by decide +kernel
theorem d_Ru_worth_221 : decode M_Ru_worth.2.1 221 = .ok (.getfield 21, 3) := by decide +kernel
theorem d_Ru_worth_224 : decode M_Ru_worth.2.1 224 = .ok (.iload_n 2, 1) := by decide +kernel
theorem d_Ru_worth_225 : decode M_Ru_worth.2.1 225 = .ok (.invokevirtual 183, 3) := by decide +kernel
theorem d_Ru_worth_228 : decode M_Ru_worth.2.1 228 = .ok (.ireturn, 1) := by decide +kernel
theorem d_Ru_worth_229 : decode M_Ru_worth.2.1 229 = .ok (.iload 5, 2) := by decide +kernel
theorem d_Ru_worth_231 : decode M_Ru_worth.2.1 231 = .ok (.iload 6, 2) := by decide +kernel
theorem d_Ru_worth_233 : decode M_Ru_worth.2.1 233 = .ok (.if_icmp .ge 7, 3) := by decide +kernel
theorem d_Ru_worth_236 : decode M_Ru_worth.2.1 236 = .ok (.iconst 1, 1) := by decide +kernel
theorem d_Ru_worth_237 : decode M_Ru_worth.2.1 237 = .ok (.goto 4, 3) := by decide +kernel
theorem d_Ru_worth_240 : decode M_Ru_worth.2.1 240 = .ok (.iconst 0, 1) := by decide +kernel
theorem d_Ru_worth_241 : decode M_Ru_worth.2.1 241 = .ok (.ireturn, 1) := by decide +kernel
theorem d_Ru_worth_242 : decode M_Ru_worth.2.1 242 = .ok (.iload 5, 2) := by decide +kernel
theorem d_Ru_worth_244 : decode M_Ru_worth.2.1 244 = .ok (.ifCond .ne 7, 3) := by decide +kernel
theorem d_Ru_worth_247 : decode M_Ru_worth.2.1 247 = .ok (.iconst 1, 1) := by decide +kernel
theorem d_Ru_worth_248 : decode M_Ru_worth.2.1 248 = .ok (.goto 4, 3) := by decide +kernel
theorem d_Ru_worth_251 : decode M_Ru_worth.2.1 251 = .ok (.iconst 0, 1) := by decide +kernel
theorem d_Ru_worth_252 : decode M_Ru_worth.2.1 252 = .ok (.ireturn, 1) := by decide +kernel
theorem d_Ru_worth_253 : decode M_Ru_worth.2.1 253 = .ok (.aload_n 0, 1) := by decide +kernel
theorem d_Ru_worth_254 : decode M_Ru_worth.2.1 254 = .ok (.getfield 21, 3) := by decide +kernel
theorem d_Ru_worth_257 : decode M_Ru_worth.2.1 257 = .ok (.iload_n 2, 1) := by decide +kernel
theorem d_Ru_worth_258 : decode M_Ru_worth.2.1 258 = .ok (.invokevirtual 106, 3) := by decide +kernel
theorem d_Ru_worth_261 : decode M_Ru_worth.2.1 261 = .ok (.ireturn, 1) := by decide +kernel
theorem d_Ru_worth_262 : decode M_Ru_worth.2.1 262 = .ok (.iconst 0, 1) := by decide +kernel
theorem d_Ru_worth_263 : decode M_Ru_worth.2.1 263 = .ok (.ireturn, 1) := by decide +kernel
theorem cs_Ru_109 : CV RX5 109 RX3 M_Pr_kindOf 1 := ⟨(lwg_at 587 (by decide +kernel) rfl), (lwg_at 416 (by decide +kernel) rfl), (lwg_at 417 (by decide +kernel) rfl), mi_Pr_kindOf⟩
theorem gl_Ru_62_5 : GL RX5 62 5 13 := ⟨RX5, TX5, 14, RX5, rfl, by decide, (lwg_at 141 (by decide +kernel) rfl), Or.inl rfl, gl_w inX5⟩
theorem cs_Ru_112 : CV RX5 112 RX3 M_Pr_inHole 2 := ⟨(lwg_at 588 (by decide +kernel) rfl), (lwg_at 408 (by decide +kernel) rfl), (lwg_at 409 (by decide +kernel) rfl), mi_Pr_inHole⟩
theorem mi_Ru_worth : MI M_Ru_worth 3 := ⟨(lwg_at 5 (by decide +kernel) rfl), (lwg_at 592 (by decide +kernel) rfl), ⟨by decide +kernel, by decide +kernel⟩, by decide +kernel, by decide⟩
theorem cs_Ru_116 : CV RX5 116 RX5 M_Ru_worth 3 := ⟨(lwg_at 589 (by decide +kernel) rfl), (lwg_at 591 (by decide +kernel) rfl), (lwg_priv 5 (y := M_Ru_worth.1) (n := 14) (by decide +kernel)), mi_Ru_worth⟩
theorem cs_Ru_137 : CV RX5 137 RX3 M_Pr_numberOf 1 := ⟨(lwg_at 593 (by decide +kernel) rfl), (lwg_at 455 (by decide +kernel) rfl), (lwg_at 456 (by decide +kernel) rfl), mi_Pr_numberOf⟩
theorem mi_St_valueOf : MI M_St_valueOf 1 := ⟨(lwg_at 3 (by decide +kernel) rfl), (lwg_at 597 (by decide +kernel) rfl), ⟨by decide +kernel, by decide +kernel⟩, by decide +kernel, by decide⟩
theorem cs_Ru_174 : CV RX5 174 RX9 M_St_valueOf 1 := ⟨(lwg_at 594 (by decide +kernel) rfl), (lwg_at 595 (by decide +kernel) rfl), (lwg_at 596 (by decide +kernel) rfl), mi_St_valueOf⟩
theorem mi_St_hereOf : MI M_St_hereOf 1 := ⟨(lwg_at 3 (by decide +kernel) rfl), (lwg_at 601 (by decide +kernel) rfl), ⟨by decide +kernel, by decide +kernel⟩, by decide +kernel, by decide⟩
theorem cs_Ru_177 : CV RX5 177 RX9 M_St_hereOf 1 := ⟨(lwg_at 598 (by decide +kernel) rfl), (lwg_at 599 (by decide +kernel) rfl), (lwg_at 600 (by decide +kernel) rfl), mi_St_hereOf⟩
theorem mi_St_refusalOfItem : MI M_St_refusalOfItem 2 := ⟨(lwg_at 3 (by decide +kernel) rfl), (lwg_at 605 (by decide +kernel) rfl), ⟨by decide +kernel, by decide +kernel⟩, by decide +kernel, by decide⟩
theorem cs_Ru_159 : CV RX5 159 RX9 M_St_refusalOfItem 2 := ⟨(lwg_at 602 (by decide +kernel) rfl), (lwg_at 603 (by decide +kernel) rfl), (lwg_at 604 (by decide +kernel) rfl), mi_St_refusalOfItem⟩
theorem mi_St_itemAt : MI M_St_itemAt 2 := ⟨(lwg_at 3 (by decide +kernel) rfl), (lwg_at 609 (by decide +kernel) rfl), ⟨by decide +kernel, by decide +kernel⟩, by decide +kernel, by decide⟩
theorem cs_Ru_180 : CV RX5 180 RX9 M_St_itemAt 2 := ⟨(lwg_at 606 (by decide +kernel) rfl), (lwg_at 607 (by decide +kernel) rfl), (lwg_at 608 (by decide +kernel) rfl), mi_St_itemAt⟩
theorem mi_St_walledOf : MI M_St_walledOf 1 := ⟨(lwg_at 3 (by decide +kernel) rfl), (lwg_at 614 (by decide +kernel) rfl), ⟨by decide +kernel, by decide +kernel⟩, by decide +kernel, by decide⟩
theorem cs_Ru_183 : CV RX5 183 RX9 M_St_walledOf 1 := ⟨(lwg_at 611 (by decide +kernel) rfl), (lwg_at 612 (by decide +kernel) rfl), (lwg_at 613 (by decide +kernel) rfl), mi_St_walledOf⟩
def F_Ru_worth_205 (rc : Nat → Int32 → Int32 → Int32 → Dl → Option (Int32 × Dl)) (a : Nat) (x1 : Int32) (x2 : Int32) (x3 : Int32) (x5 : Int32) (x6 : Int32) (δ : Dl) : Option (Int32 × Dl) :=
  if x6 = 0 then (some (0, δ)) else (if ¬ x6 = 0 then some ((x5 / x6), δ) else none)
set_option maxRecDepth 20000 in
set_option maxHeartbeats 4000000 in
theorem j_Ru_worth_205 {l : Launch} {Γ : Gm} (hG : GC Γ) (rc : Nat → Int32 → Int32 → Int32 → Dl → Option (Int32 × Dl)) (dd : Nat) (hrc : ∀ (b : Nat) (z0 : Int32) (z1 : Int32) (z2 : Int32) (δ : Dl) (w : Int32 × Dl), Oc b 5 → rc b z0 z1 z2 δ = some w → Ct l M_Ru_worth dd 0 0 NF [.inr (0, b), .inl z0, .inl z1, .inl z2] Γ δ (some (.inl w.1), Γ, w.2)) (a : Nat) (x1 : Int32) (x2 : Int32) (x3 : Int32) (ha : Oc a 5) (x5 : Int32) (x6 : Int32) (δ : Dl) (r : Int32 × Dl) (h : F_Ru_worth_205 rc a x1 x2 x3 x5 x6 δ = some r) : Xe l M_Ru_worth (dd + 1) 0 0 NF 205 [none, none, none, none, none, some (.inl x5), some (.inl x6)] [] 0 0 Γ δ (some (.inl r.1), Γ, r.2) := by
  unfold F_Ru_worth_205 at h
  have oa := hG.ob ha
  refine x_iload (i := 6) d_Ru_worth_205 rfl ?_
  refine x_if_ne (tgt := 214) d_Ru_worth_207 (by decide) (fun c207 => ?_) (fun c207 => ?_)
  · have h := if_f c207 h
    refine x_iload (i := 5) d_Ru_worth_214 rfl ?_
    refine x_iload (i := 6) d_Ru_worth_216 rfl ?_
    obtain ⟨g218, h⟩ := gd_e h
    refine x_idiv d_Ru_worth_218 g218 ?_
    replace h := Option.some.inj h; subst h
    exact x_iret rfl d_Ru_worth_219 (Nat.le_refl 0) (Nat.le_refl 0)
  · have h := if_t c207 h
    refine x_ic (v := 0) d_Ru_worth_210 (by decide) ?_
    refine x_goto (tgt := 219) d_Ru_worth_211 (by decide) ?_
    replace h := Option.some.inj h; subst h
    exact x_iret rfl d_Ru_worth_219 (Nat.le_refl 0) (Nat.le_refl 0)
def F_Ru_worth_b (rc : Nat → Int32 → Int32 → Int32 → Dl → Option (Int32 × Dl)) (a : Nat) (x1 : Int32) (x2 : Int32) (x3 : Int32) (δ : Dl) : Option (Int32 × Dl) :=
  (F_Pr_kindOf (wsr 40 a) x1 δ).bind fun v5 => if v5 = (-1) then (some (0, δ)) else (if (δ.1 53 a) = 0 then (if x3 ≤ 30 then ((F_Pr_inHole (wsr 40 a) x1 3 δ).bind fun v38 => bd2 (rc a v38 x2 (x3 + 1) δ) fun v45 δ45 => (F_Pr_inHole (wsr 40 a) x1 4 δ45).bind fun v57 => bd2 (rc a v57 x2 (x3 + 1) δ45) fun v64 δ64 => if (δ64.1 53 a) = 0 then (if v5 = 13 then ((F_Pr_numberOf (wsr 40 a) x1 δ64).bind fun v141 => some (v141, δ64)) else if v5 = 14 then ((F_St_valueOf (wsr 41 a) x2 δ64).bind fun v150 => some (v150, δ64)) else if v5 = 15 then (some ((v45 + v64), δ64)) else if v5 = 16 then ((F_St_hereOf (wsr 41 a) x2 δ64).bind fun v165 => some (v165, δ64)) else if v5 = 17 then ((F_St_refusalOfItem (wsr 41 a) x2 v45 δ64).bind fun v177 => bnd (sI δ64 53 a v177) fun δ180 => (F_St_itemAt (wsr 41 a) x2 v45 δ180).bind fun v190 => some (v190, δ180)) else if v5 = 18 then (if v64 = 0 then (bnd (sI δ64 53 a (-15)) fun δ202 => F_Ru_worth_205 rc a x1 x2 x3 v45 v64 δ202) else (F_Ru_worth_205 rc a x1 x2 x3 v45 v64 δ64)) else if v5 = 19 then ((F_St_walledOf (wsr 41 a) x2 δ64).bind fun v225 => some (v225, δ64)) else if v5 = 20 then (if v64 ≤ v45 then (some (0, δ64)) else (some (1, δ64))) else if v5 = 21 then (if v45 = 0 then (some (1, δ64)) else (some (0, δ64))) else if v5 = 22 then ((F_St_metOf (wsr 41 a) x2 δ64).bind fun v258 => some (v258, δ64)) else (some (0, δ64))) else (some (0, δ64))) else (some (0, δ))) else (some (0, δ)))
set_option maxRecDepth 20000 in
set_option maxHeartbeats 4000000 in
theorem c_Ru_worth_b {l : Launch} {Γ : Gm} (hG : GC Γ) (rc : Nat → Int32 → Int32 → Int32 → Dl → Option (Int32 × Dl)) (dd : Nat) (hrc : ∀ (b : Nat) (z0 : Int32) (z1 : Int32) (z2 : Int32) (δ : Dl) (w : Int32 × Dl), Oc b 5 → rc b z0 z1 z2 δ = some w → Ct l M_Ru_worth dd 0 0 NF [.inr (0, b), .inl z0, .inl z1, .inl z2] Γ δ (some (.inl w.1), Γ, w.2)) (a : Nat) (x1 : Int32) (x2 : Int32) (x3 : Int32) (ha : Oc a 5) (δ : Dl) (r : Int32 × Dl) (h : F_Ru_worth_b rc a x1 x2 x3  δ = some r) : Ct l M_Ru_worth (dd + 1) 0 0 NF [.inr (0, a), .inl x1, .inl x2, .inl x3] Γ δ (some (.inl r.1), Γ, r.2) := by
  unfold F_Ru_worth_b at h
  have oa := hG.ob ha
  refine Ct.of2 (n := 3) (ls := [some (.inr (0, a)), some (.inl x1), some (.inl x2), some (.inl x3), none, none, none]) rfl (by decide +kernel) (Nat.le_of_ble_eq_true rfl) ?_
  refine x_aload_n (i := 0) d_Ru_worth_0 rfl rfl ?_
  refine x_getS (f := 40) (b := (wsr 40 a)) gl_Ru_12_5 rfl kf_40 rfl oa d_Ru_worth_1 ?_
  refine x_iload_n (i := 1) d_Ru_worth_4 rfl rfl ?_
  obtain ⟨v5, ev5, h⟩ := bd_e h
  refine y_V1 cs_Ru_109 rfl (hG.ob (run_prog a ha)) (by first | decide | omega) (Nat.le_of_ble_eq_true rfl) d_Ru_worth_5 (c_Pr_kindOf hG (wsr 40 a) x1 (run_prog a ha) δ v5 ev5) (Nat.le_refl 0) (Nat.le_refl 0) ?_
  refine x_stw (i := 4) (ls' := [some (.inr (0, a)), some (.inl x1), some (.inl x2), some (.inl x3), some (.inl v5), none, none]) d_Ru_worth_8 (by decide) rfl ?_
  refine x_iload (i := 4) d_Ru_worth_10 rfl ?_
  refine x_ic (v := -1) d_Ru_worth_12 (by decide) ?_
  refine x_cmp_eq (tgt := 29) d_Ru_worth_13 (by decide) (fun c13 => ?_) (fun c13 => ?_)
  · have h := if_t c13 h
    refine x_ic (v := 0) d_Ru_worth_29 (by decide) ?_
    replace h := Option.some.inj h; subst h
    exact x_iret rfl d_Ru_worth_30 (Nat.le_refl 0) (Nat.le_refl 0)
  · have h := if_f c13 h
    refine x_aload_n (i := 0) d_Ru_worth_16 rfl rfl ?_
    refine x_getI (f := 53) gl_Ru_62_5 rfl kf_53 oa d_Ru_worth_17 ?_
    refine x_if_ne (tgt := 29) d_Ru_worth_20 (by decide) (fun c20 => ?_) (fun c20 => ?_)
    · have h := if_f c20 h
      refine x_ic (v := 0) d_Ru_worth_29 (by decide) ?_
      replace h := Option.some.inj h; subst h
      exact x_iret rfl d_Ru_worth_30 (Nat.le_refl 0) (Nat.le_refl 0)
    · have h := if_t c20 h
      refine x_iload_n (i := 3) d_Ru_worth_23 rfl rfl ?_
      refine x_bi (v := 30) d_Ru_worth_24 (by decide) ?_
      refine x_cmp_le (tgt := 31) d_Ru_worth_26 (by decide) (fun c26 => ?_) (fun c26 => ?_)
      · have h := if_t c26 h
        refine x_aload_n (i := 0) d_Ru_worth_31 rfl rfl ?_
        refine x_aload_n (i := 0) d_Ru_worth_32 rfl rfl ?_
        refine x_getS (f := 40) (b := (wsr 40 a)) gl_Ru_12_5 rfl kf_40 rfl oa d_Ru_worth_33 ?_
        refine x_iload_n (i := 1) d_Ru_worth_36 rfl rfl ?_
        refine x_ic (v := 3) d_Ru_worth_37 (by decide) ?_
        obtain ⟨v38, ev38, h⟩ := bd_e h
        refine y_V2 cs_Ru_112 rfl (hG.ob (run_prog a ha)) (by first | decide | omega) (Nat.le_of_ble_eq_true rfl) d_Ru_worth_38 (c_Pr_inHole hG (wsr 40 a) x1 3 (run_prog a ha) δ v38 ev38) (Nat.le_refl 0) (Nat.le_refl 0) ?_
        refine x_iload_n (i := 2) d_Ru_worth_41 rfl rfl ?_
        refine x_iload_n (i := 3) d_Ru_worth_42 rfl rfl ?_
        refine x_ic (v := 1) d_Ru_worth_43 (by decide) ?_
        refine x_iadd d_Ru_worth_44 ?_
        obtain ⟨v45, δ45, eδ45, h⟩ := bd2_e h
        refine y_V3 cs_Ru_116 rfl oa (by first | decide | omega) (Nat.le_of_ble_eq_true rfl) d_Ru_worth_45 (hrc a v38 x2 (x3 + 1) δ (v45, δ45) ha eδ45) (Nat.le_refl 0) (Nat.le_refl 0) ?_
        refine x_stw (i := 5) (ls' := [some (.inr (0, a)), some (.inl x1), some (.inl x2), some (.inl x3), some (.inl v5), some (.inl v45), none]) d_Ru_worth_48 (by decide) rfl ?_
        refine x_aload_n (i := 0) d_Ru_worth_50 rfl rfl ?_
        refine x_aload_n (i := 0) d_Ru_worth_51 rfl rfl ?_
        refine x_getS (f := 40) (b := (wsr 40 a)) gl_Ru_12_5 rfl kf_40 rfl oa d_Ru_worth_52 ?_
        refine x_iload_n (i := 1) d_Ru_worth_55 rfl rfl ?_
        refine x_ic (v := 4) d_Ru_worth_56 (by decide) ?_
        obtain ⟨v57, ev57, h⟩ := bd_e h
        refine y_V2 cs_Ru_112 rfl (hG.ob (run_prog a ha)) (by first | decide | omega) (Nat.le_of_ble_eq_true rfl) d_Ru_worth_57 (c_Pr_inHole hG (wsr 40 a) x1 4 (run_prog a ha) δ45 v57 ev57) (Nat.le_refl 0) (Nat.le_refl 0) ?_
        refine x_iload_n (i := 2) d_Ru_worth_60 rfl rfl ?_
        refine x_iload_n (i := 3) d_Ru_worth_61 rfl rfl ?_
        refine x_ic (v := 1) d_Ru_worth_62 (by decide) ?_
        refine x_iadd d_Ru_worth_63 ?_
        obtain ⟨v64, δ64, eδ64, h⟩ := bd2_e h
        refine y_V3 cs_Ru_116 rfl oa (by first | decide | omega) (Nat.le_of_ble_eq_true rfl) d_Ru_worth_64 (hrc a v57 x2 (x3 + 1) δ45 (v64, δ64) ha eδ64) (Nat.le_refl 0) (Nat.le_refl 0) ?_
        refine x_stw (i := 6) (ls' := [some (.inr (0, a)), some (.inl x1), some (.inl x2), some (.inl x3), some (.inl v5), some (.inl v45), some (.inl v64)]) d_Ru_worth_67 (by decide) rfl ?_
        refine x_aload_n (i := 0) d_Ru_worth_69 rfl rfl ?_
        refine x_getI (f := 53) gl_Ru_62_5 rfl kf_53 oa d_Ru_worth_70 ?_
        refine x_if_eq (tgt := 78) d_Ru_worth_73 (by decide) (fun c73 => ?_) (fun c73 => ?_)
        · have h := if_t c73 h
          refine x_iload (i := 4) d_Ru_worth_78 rfl ?_
          by_cases c80_0 : v5 = 13
          · have h := if_t c80_0 h
            refine x_tin (v := 13) (off := 56) (tgt := 136) d_Ru_worth_80 c80_0 (by decide +kernel) ?_
            refine x_aload_n (i := 0) d_Ru_worth_136 rfl rfl ?_
            refine x_getS (f := 40) (b := (wsr 40 a)) gl_Ru_12_5 rfl kf_40 rfl oa d_Ru_worth_137 ?_
            refine x_iload_n (i := 1) d_Ru_worth_140 rfl rfl ?_
            obtain ⟨v141, ev141, h⟩ := bd_e h
            refine y_V1 cs_Ru_137 rfl (hG.ob (run_prog a ha)) (by first | decide | omega) (Nat.le_of_ble_eq_true rfl) d_Ru_worth_141 (c_Pr_numberOf hG (wsr 40 a) x1 (run_prog a ha) δ64 v141 ev141) (Nat.le_refl 0) (Nat.le_refl 0) ?_
            replace h := Option.some.inj h; subst h
            exact x_iret rfl d_Ru_worth_144 (Nat.le_refl 0) (Nat.le_refl 0)
          have h := if_f c80_0 h
          by_cases c80_1 : v5 = 14
          · have h := if_t c80_1 h
            refine x_tin (v := 14) (off := 65) (tgt := 145) d_Ru_worth_80 c80_1 (by decide +kernel) ?_
            refine x_aload_n (i := 0) d_Ru_worth_145 rfl rfl ?_
            refine x_getS (f := 41) (b := (wsr 41 a)) gl_Ru_21_5 rfl kf_41 rfl oa d_Ru_worth_146 ?_
            refine x_iload_n (i := 2) d_Ru_worth_149 rfl rfl ?_
            obtain ⟨v150, ev150, h⟩ := bd_e h
            refine y_V1 cs_Ru_174 rfl (hG.ob (run_stage a ha)) (by first | decide | omega) (Nat.le_of_ble_eq_true rfl) d_Ru_worth_150 (c_St_valueOf hG (wsr 41 a) x2 (run_stage a ha) δ64 v150 ev150) (Nat.le_refl 0) (Nat.le_refl 0) ?_
            replace h := Option.some.inj h; subst h
            exact x_iret rfl d_Ru_worth_153 (Nat.le_refl 0) (Nat.le_refl 0)
          have h := if_f c80_1 h
          by_cases c80_2 : v5 = 15
          · have h := if_t c80_2 h
            refine x_tin (v := 15) (off := 74) (tgt := 154) d_Ru_worth_80 c80_2 (by decide +kernel) ?_
            refine x_iload (i := 5) d_Ru_worth_154 rfl ?_
            refine x_iload (i := 6) d_Ru_worth_156 rfl ?_
            refine x_iadd d_Ru_worth_158 ?_
            replace h := Option.some.inj h; subst h
            exact x_iret rfl d_Ru_worth_159 (Nat.le_refl 0) (Nat.le_refl 0)
          have h := if_f c80_2 h
          by_cases c80_3 : v5 = 16
          · have h := if_t c80_3 h
            refine x_tin (v := 16) (off := 80) (tgt := 160) d_Ru_worth_80 c80_3 (by decide +kernel) ?_
            refine x_aload_n (i := 0) d_Ru_worth_160 rfl rfl ?_
            refine x_getS (f := 41) (b := (wsr 41 a)) gl_Ru_21_5 rfl kf_41 rfl oa d_Ru_worth_161 ?_
            refine x_iload_n (i := 2) d_Ru_worth_164 rfl rfl ?_
            obtain ⟨v165, ev165, h⟩ := bd_e h
            refine y_V1 cs_Ru_177 rfl (hG.ob (run_stage a ha)) (by first | decide | omega) (Nat.le_of_ble_eq_true rfl) d_Ru_worth_165 (c_St_hereOf hG (wsr 41 a) x2 (run_stage a ha) δ64 v165 ev165) (Nat.le_refl 0) (Nat.le_refl 0) ?_
            replace h := Option.some.inj h; subst h
            exact x_iret rfl d_Ru_worth_168 (Nat.le_refl 0) (Nat.le_refl 0)
          have h := if_f c80_3 h
          by_cases c80_4 : v5 = 17
          · have h := if_t c80_4 h
            refine x_tin (v := 17) (off := 89) (tgt := 169) d_Ru_worth_80 c80_4 (by decide +kernel) ?_
            refine x_aload_n (i := 0) d_Ru_worth_169 rfl rfl ?_
            refine x_aload_n (i := 0) d_Ru_worth_170 rfl rfl ?_
            refine x_getS (f := 41) (b := (wsr 41 a)) gl_Ru_21_5 rfl kf_41 rfl oa d_Ru_worth_171 ?_
            refine x_iload_n (i := 2) d_Ru_worth_174 rfl rfl ?_
            refine x_iload (i := 5) d_Ru_worth_175 rfl ?_
            obtain ⟨v177, ev177, h⟩ := bd_e h
            refine y_V2 cs_Ru_159 rfl (hG.ob (run_stage a ha)) (by first | decide | omega) (Nat.le_of_ble_eq_true rfl) d_Ru_worth_177 (c_St_refusalOfItem hG (wsr 41 a) x2 v45 (run_stage a ha) δ64 v177 ev177) (Nat.le_refl 0) (Nat.le_refl 0) ?_
            obtain ⟨δ180, eδ180, h⟩ := bn_e h
            refine x_putI (f := 53) gp_Ru_62_5 rfl kf_53 (fun h => by cases h) rfl rfl oa.1 oa.z d_Ru_worth_180 (Xe.cδ eδ180 ?_)
            refine x_aload_n (i := 0) d_Ru_worth_183 rfl rfl ?_
            refine x_getS (f := 41) (b := (wsr 41 a)) gl_Ru_21_5 rfl kf_41 rfl oa d_Ru_worth_184 ?_
            refine x_iload_n (i := 2) d_Ru_worth_187 rfl rfl ?_
            refine x_iload (i := 5) d_Ru_worth_188 rfl ?_
            obtain ⟨v190, ev190, h⟩ := bd_e h
            refine y_V2 cs_Ru_180 rfl (hG.ob (run_stage a ha)) (by first | decide | omega) (Nat.le_of_ble_eq_true rfl) d_Ru_worth_190 (c_St_itemAt hG (wsr 41 a) x2 v45 (run_stage a ha) δ180 v190 ev190) (Nat.le_refl 0) (Nat.le_refl 0) ?_
            replace h := Option.some.inj h; subst h
            exact x_iret rfl d_Ru_worth_193 (Nat.le_refl 0) (Nat.le_refl 0)
          have h := if_f c80_4 h
          by_cases c80_5 : v5 = 18
          · have h := if_t c80_5 h
            refine x_tin (v := 18) (off := 114) (tgt := 194) d_Ru_worth_80 c80_5 (by decide +kernel) ?_
            refine x_iload (i := 6) d_Ru_worth_194 rfl ?_
            refine x_if_ne (tgt := 205) d_Ru_worth_196 (by decide) (fun c196 => ?_) (fun c196 => ?_)
            · have h := if_f c196 h
              refine x_wk (ls' := [none, none, none, none, none, some (.inl v45), some (.inl v64)]) ⟨Or.inl rfl, Or.inl rfl, Or.inl rfl, Or.inl rfl, Or.inl rfl, Or.inr rfl, Or.inr rfl, trivial⟩ ?_
              exact j_Ru_worth_205 hG rc dd hrc a x1 x2 x3 ha v45 v64 δ64 r h
            · have h := if_t c196 h
              refine x_aload_n (i := 0) d_Ru_worth_199 rfl rfl ?_
              refine x_bi (v := -15) d_Ru_worth_200 (by decide) ?_
              obtain ⟨δ202, eδ202, h⟩ := bn_e h
              refine x_putI (f := 53) gp_Ru_62_5 rfl kf_53 (fun h => by cases h) rfl rfl oa.1 oa.z d_Ru_worth_202 (Xe.cδ eδ202 ?_)
              refine x_wk (ls' := [none, none, none, none, none, some (.inl v45), some (.inl v64)]) ⟨Or.inl rfl, Or.inl rfl, Or.inl rfl, Or.inl rfl, Or.inl rfl, Or.inr rfl, Or.inr rfl, trivial⟩ ?_
              exact j_Ru_worth_205 hG rc dd hrc a x1 x2 x3 ha v45 v64 δ202 r h
          have h := if_f c80_5 h
          by_cases c80_6 : v5 = 19
          · have h := if_t c80_6 h
            refine x_tin (v := 19) (off := 140) (tgt := 220) d_Ru_worth_80 c80_6 (by decide +kernel) ?_
            refine x_aload_n (i := 0) d_Ru_worth_220 rfl rfl ?_
            refine x_getS (f := 41) (b := (wsr 41 a)) gl_Ru_21_5 rfl kf_41 rfl oa d_Ru_worth_221 ?_
            refine x_iload_n (i := 2) d_Ru_worth_224 rfl rfl ?_
            obtain ⟨v225, ev225, h⟩ := bd_e h
            refine y_V1 cs_Ru_183 rfl (hG.ob (run_stage a ha)) (by first | decide | omega) (Nat.le_of_ble_eq_true rfl) d_Ru_worth_225 (c_St_walledOf hG (wsr 41 a) x2 (run_stage a ha) δ64 v225 ev225) (Nat.le_refl 0) (Nat.le_refl 0) ?_
            replace h := Option.some.inj h; subst h
            exact x_iret rfl d_Ru_worth_228 (Nat.le_refl 0) (Nat.le_refl 0)
          have h := if_f c80_6 h
          by_cases c80_7 : v5 = 20
          · have h := if_t c80_7 h
            refine x_tin (v := 20) (off := 149) (tgt := 229) d_Ru_worth_80 c80_7 (by decide +kernel) ?_
            refine x_iload (i := 5) d_Ru_worth_229 rfl ?_
            refine x_iload (i := 6) d_Ru_worth_231 rfl ?_
            refine x_cmp_ge (tgt := 240) d_Ru_worth_233 (by decide) (fun c233 => ?_) (fun c233 => ?_)
            · have h := if_t c233 h
              refine x_ic (v := 0) d_Ru_worth_240 (by decide) ?_
              replace h := Option.some.inj h; subst h
              exact x_iret rfl d_Ru_worth_241 (Nat.le_refl 0) (Nat.le_refl 0)
            · have h := if_f c233 h
              refine x_ic (v := 1) d_Ru_worth_236 (by decide) ?_
              refine x_goto (tgt := 241) d_Ru_worth_237 (by decide) ?_
              replace h := Option.some.inj h; subst h
              exact x_iret rfl d_Ru_worth_241 (Nat.le_refl 0) (Nat.le_refl 0)
          have h := if_f c80_7 h
          by_cases c80_8 : v5 = 21
          · have h := if_t c80_8 h
            refine x_tin (v := 21) (off := 162) (tgt := 242) d_Ru_worth_80 c80_8 (by decide +kernel) ?_
            refine x_iload (i := 5) d_Ru_worth_242 rfl ?_
            refine x_if_ne (tgt := 251) d_Ru_worth_244 (by decide) (fun c244 => ?_) (fun c244 => ?_)
            · have h := if_f c244 h
              refine x_ic (v := 0) d_Ru_worth_251 (by decide) ?_
              replace h := Option.some.inj h; subst h
              exact x_iret rfl d_Ru_worth_252 (Nat.le_refl 0) (Nat.le_refl 0)
            · have h := if_t c244 h
              refine x_ic (v := 1) d_Ru_worth_247 (by decide) ?_
              refine x_goto (tgt := 252) d_Ru_worth_248 (by decide) ?_
              replace h := Option.some.inj h; subst h
              exact x_iret rfl d_Ru_worth_252 (Nat.le_refl 0) (Nat.le_refl 0)
          have h := if_f c80_8 h
          by_cases c80_9 : v5 = 22
          · have h := if_t c80_9 h
            refine x_tin (v := 22) (off := 173) (tgt := 253) d_Ru_worth_80 c80_9 (by decide +kernel) ?_
            refine x_aload_n (i := 0) d_Ru_worth_253 rfl rfl ?_
            refine x_getS (f := 41) (b := (wsr 41 a)) gl_Ru_21_5 rfl kf_41 rfl oa d_Ru_worth_254 ?_
            refine x_iload_n (i := 2) d_Ru_worth_257 rfl rfl ?_
            obtain ⟨v258, ev258, h⟩ := bd_e h
            refine y_V1 cs_Ru_106 rfl (hG.ob (run_stage a ha)) (by first | decide | omega) (Nat.le_of_ble_eq_true rfl) d_Ru_worth_258 (c_St_metOf hG (wsr 41 a) x2 (run_stage a ha) δ64 v258 ev258) (Nat.le_refl 0) (Nat.le_refl 0) ?_
            replace h := Option.some.inj h; subst h
            exact x_iret rfl d_Ru_worth_261 (Nat.le_refl 0) (Nat.le_refl 0)
          have h := if_f c80_9 h
          have n80_0 := lv_neT (a := 13) c80_0 (by decide)
          have n80_1 := lv_neT (a := 14) c80_1 (by decide)
          have n80_2 := lv_neT (a := 15) c80_2 (by decide)
          have n80_3 := lv_neT (a := 16) c80_3 (by decide)
          have n80_4 := lv_neT (a := 17) c80_4 (by decide)
          have n80_5 := lv_neT (a := 18) c80_5 (by decide)
          have n80_6 := lv_neT (a := 19) c80_6 (by decide)
          have n80_7 := lv_neT (a := 20) c80_7 (by decide)
          have n80_8 := lv_neT (a := 21) c80_8 (by decide)
          have n80_9 := lv_neT (a := 22) c80_9 (by decide)
          refine x_tout (tgt := 262) d_Ru_worth_80 (by omega) (by decide) ?_
          refine x_ic (v := 0) d_Ru_worth_262 (by decide) ?_
          replace h := Option.some.inj h; subst h
          exact x_iret rfl d_Ru_worth_263 (Nat.le_refl 0) (Nat.le_refl 0)
        · have h := if_f c73 h
          refine x_ic (v := 0) d_Ru_worth_76 (by decide) ?_
          replace h := Option.some.inj h; subst h
          exact x_iret rfl d_Ru_worth_77 (Nat.le_refl 0) (Nat.le_refl 0)
      · have h := if_f c26 h
        refine x_ic (v := 0) d_Ru_worth_29 (by decide) ?_
        replace h := Option.some.inj h; subst h
        exact x_iret rfl d_Ru_worth_30 (Nat.le_refl 0) (Nat.le_refl 0)
def F_Ru_worth : Nat → Nat → Int32 → Int32 → Int32 → Dl → Option (Int32 × Dl)
  | 0, _, _, _, _, _ => none
  | n + 1, a, x1, x2, x3, δ => F_Ru_worth_b (F_Ru_worth n) a x1 x2 x3 δ
theorem c_Ru_worth_n {l : Launch} {Γ : Gm} (hG : GC Γ) (n : Nat) (a : Nat) (x1 : Int32) (x2 : Int32) (x3 : Int32) (δ : Dl) (r : Int32 × Dl) (ha : Oc a 5) (h : F_Ru_worth n a x1 x2 x3  δ = some r) : Ct l M_Ru_worth (1 * n) 0 0 NF [.inr (0, a), .inl x1, .inl x2, .inl x3] Γ δ (some (.inl r.1), Γ, r.2) := by
  induction n generalizing a x1 x2 x3 δ r with
  | zero => cases h
  | succ n ih => exact c_Ru_worth_b hG (F_Ru_worth n) (1 * n) (fun a x1 x2 x3 δ w ha  hh => ih a x1 x2 x3 δ w ha hh) a x1 x2 x3 ha δ r h
theorem c_Ru_worth {l : Launch} {Γ : Gm} (hG : GC Γ) (a : Nat) (x1 : Int32) (x2 : Int32) (x3 : Int32) (ha : Oc a 5) (δ : Dl) (r : Int32 × Dl) (h : F_Ru_worth RF a x1 x2 x3  δ = some r) : Ct l M_Ru_worth 40 0 0 NF [.inr (0, a), .inl x1, .inl x2, .inl x3] Γ δ (some (.inl r.1), Γ, r.2) := c_Ru_worth_n hG RF a x1 x2 x3 δ r ha h
-- BlockStage$Run.addSaying(II)V
theorem d_Ru_addSaying_0 : decode M_Ru_addSaying.2.1 0 = .ok (.aload_n 0, 1) := by decide +kernel
theorem d_Ru_addSaying_1 : decode M_Ru_addSaying.2.1 1 = .ok (.getfield 33, 3) := by decide +kernel
theorem d_Ru_addSaying_4 : decode M_Ru_addSaying.2.1 4 = .ok (.ifCond .lt 55, 3) := by decide +kernel
theorem d_Ru_addSaying_7 : decode M_Ru_addSaying.2.1 7 = .ok (.aload_n 0, 1) := by decide +kernel
theorem d_Ru_addSaying_8 : decode M_Ru_addSaying.2.1 8 = .ok (.getfield 33, 3) := by decide +kernel
theorem d_Ru_addSaying_11 : decode M_Ru_addSaying.2.1 11 = .ok (.bipush 50, 2) := by decide +kernel
theorem d_Ru_addSaying_13 : decode M_Ru_addSaying.2.1 13 = .ok (.if_icmp .ge 46, 3) := by decide +kernel
theorem d_Ru_addSaying_16 : decode M_Ru_addSaying.2.1 16 = .ok (.aload_n 0, 1) := by decide +kernel
theorem d_Ru_addSaying_17 : decode M_Ru_addSaying.2.1 17 = .ok (.getfield 36, 3) := by decide +kernel
theorem d_Ru_addSaying_20 : decode M_Ru_addSaying.2.1 20 = .ok (.aload_n 0, 1) := by decide +kernel
theorem d_Ru_addSaying_21 : decode M_Ru_addSaying.2.1 21 = .ok (.getfield 33, 3) := by decide +kernel
theorem d_Ru_addSaying_24 : decode M_Ru_addSaying.2.1 24 = .ok (.iconst 3, 1) := by decide +kernel
theorem d_Ru_addSaying_25 : decode M_Ru_addSaying.2.1 25 = .ok (.imul, 1) := by decide +kernel
theorem d_Ru_addSaying_26 : decode M_Ru_addSaying.2.1 26 = .ok (.iload_n 1, 1) := by decide +kernel
theorem d_Ru_addSaying_27 : decode M_Ru_addSaying.2.1 27 = .ok (.iastore, 1) := by decide +kernel
theorem d_Ru_addSaying_28 : decode M_Ru_addSaying.2.1 28 = .ok (.aload_n 0, 1) := by decide +kernel
theorem d_Ru_addSaying_29 : decode M_Ru_addSaying.2.1 29 = .ok (.getfield 36, 3) := by decide +kernel
theorem d_Ru_addSaying_32 : decode M_Ru_addSaying.2.1 32 = .ok (.aload_n 0, 1) := by decide +kernel
theorem d_Ru_addSaying_33 : decode M_Ru_addSaying.2.1 33 = .ok (.getfield 33, 3) := by decide +kernel
theorem d_Ru_addSaying_36 : decode M_Ru_addSaying.2.1 36 = .ok (.iconst 3, 1) := by decide +kernel
theorem d_Ru_addSaying_37 : decode M_Ru_addSaying.2.1 37 = .ok (.imul, 1) := by decide +kernel
theorem d_Ru_addSaying_38 : decode M_Ru_addSaying.2.1 38 = .ok (.iconst 1, 1) := by decide +kernel
theorem d_Ru_addSaying_39 : decode M_Ru_addSaying.2.1 39 = .ok (.iadd, 1) := by decide +kernel
theorem d_Ru_addSaying_40 : decode M_Ru_addSaying.2.1 40 = .ok (.iload_n 2, 1) := by decide +kernel
theorem d_Ru_addSaying_41 : decode M_Ru_addSaying.2.1 41 = .ok (.iastore, 1) := by decide +kernel
theorem d_Ru_addSaying_42 : decode M_Ru_addSaying.2.1 42 = .ok (.aload_n 0, 1) := by decide +kernel
theorem d_Ru_addSaying_43 : decode M_Ru_addSaying.2.1 43 = .ok (.getfield 36, 3) := by decide +kernel
theorem d_Ru_addSaying_46 : decode M_Ru_addSaying.2.1 46 = .ok (.aload_n 0, 1) := by decide +kernel
theorem d_Ru_addSaying_47 : decode M_Ru_addSaying.2.1 47 = .ok (.getfield 33, 3) := by decide +kernel
theorem d_Ru_addSaying_50 : decode M_Ru_addSaying.2.1 50 = .ok (.iconst 3, 1) := by decide +kernel
theorem d_Ru_addSaying_51 : decode M_Ru_addSaying.2.1 51 = .ok (.imul, 1) := by decide +kernel
theorem d_Ru_addSaying_52 : decode M_Ru_addSaying.2.1 52 = .ok (.iconst 2, 1) := by decide +kernel
theorem d_Ru_addSaying_53 : decode M_Ru_addSaying.2.1 53 = .ok (.iadd, 1) := by decide +kernel
theorem d_Ru_addSaying_54 : decode M_Ru_addSaying.2.1 54 = .ok (.aload_n 0, 1) := by decide +kernel
theorem d_Ru_addSaying_55 : decode M_Ru_addSaying.2.1 55 = .ok (.getfield 29, 3) := by decide +kernel
theorem d_Ru_addSaying_58 : decode M_Ru_addSaying.2.1 58 = .ok (.iastore, 1) := by decide +kernel
theorem d_Ru_addSaying_59 : decode M_Ru_addSaying.2.1 59 = .ok (.aload_n 0, 1) := by decide +kernel
theorem d_Ru_addSaying_60 : decode M_Ru_addSaying.2.1 60 = .ok (.dup, 1) := by decide +kernel
theorem d_Ru_addSaying_61 : decode M_Ru_addSaying.2.1 61 = .ok (.getfield 33, 3) := by decide +kernel
theorem d_Ru_addSaying_64 : decode M_Ru_addSaying.2.1 64 = .ok (.iconst 1, 1) := by decide +kernel
theorem d_Ru_addSaying_65 : decode M_Ru_addSaying.2.1 65 = .ok (.iadd, 1) := by decide +kernel
theorem d_Ru_addSaying_66 : decode M_Ru_addSaying.2.1 66 = .ok (.putfield 33, 3) := by decide +kernel
theorem d_Ru_addSaying_69 : decode M_Ru_addSaying.2.1 69 = .ok (.return_, 1) := by decide +kernel
def F_Ru_addSaying_59 (a : Nat) (x1 : Int32) (x2 : Int32) (δ : Dl) : Option (Dl) :=
  bnd (sI δ 44 a ((δ.1 44 a) + 1)) fun δ66 => some δ66
set_option maxRecDepth 20000 in
set_option maxHeartbeats 4000000 in
theorem j_Ru_addSaying_59 {l : Launch} {Γ : Gm} (hG : GC Γ) (a : Nat) (x1 : Int32) (x2 : Int32) (ha : Oc a 5) (δ : Dl) (r : Dl) (h : F_Ru_addSaying_59 a x1 x2  δ = some r) : Xe l M_Ru_addSaying 0 0 0 NF 59 [some (.inr (0, a)), none, none] [] 0 0 Γ δ (none, Γ, r) := by
  unfold F_Ru_addSaying_59 at h
  have oa := hG.ob ha
  refine x_aload_n (i := 0) d_Ru_addSaying_59 rfl rfl ?_
  refine x_dup d_Ru_addSaying_60 ?_
  refine x_getI (f := 44) gl_Ru_33_5 rfl kf_44 oa d_Ru_addSaying_61 ?_
  refine x_ic (v := 1) d_Ru_addSaying_64 (by decide) ?_
  refine x_iadd d_Ru_addSaying_65 ?_
  obtain ⟨δ66, eδ66, h⟩ := bn_e h
  refine x_putI (f := 44) gp_Ru_33_5 rfl kf_44 (fun h => by cases h) rfl rfl oa.1 oa.z d_Ru_addSaying_66 (Xe.cδ eδ66 ?_)
  replace h := Option.some.inj h; subst h
  exact x_vret rfl d_Ru_addSaying_69 (Nat.le_refl 0) (Nat.le_refl 0)
def F_Ru_addSaying (a : Nat) (x1 : Int32) (x2 : Int32) (δ : Dl) : Option (Dl) :=
  if (δ.1 44 a) < 0 then (F_Ru_addSaying_59 a x1 x2 δ) else (if 50 ≤ (δ.1 44 a) then (F_Ru_addSaying_59 a x1 x2 δ) else (if inb ((δ.1 44 a) * 3) 150 then bnd (sA δ 45 a ((δ.1 44 a) * 3) x1) fun δ27 => if inb (((δ27.1 44 a) * 3) + 1) 150 then bnd (sA δ27 45 a (((δ27.1 44 a) * 3) + 1) x2) fun δ41 => if inb (((δ41.1 44 a) * 3) + 2) 150 then bnd (sA δ41 45 a (((δ41.1 44 a) * 3) + 2) (δ41.1 43 a)) fun δ58 => F_Ru_addSaying_59 a x1 x2 δ58 else none else none else none))
set_option maxRecDepth 20000 in
set_option maxHeartbeats 4000000 in
theorem c_Ru_addSaying {l : Launch} {Γ : Gm} (hG : GC Γ) (a : Nat) (x1 : Int32) (x2 : Int32) (ha : Oc a 5) (δ : Dl) (r : Dl) (h : F_Ru_addSaying a x1 x2  δ = some r) : Ct l M_Ru_addSaying 0 0 0 NF [.inr (0, a), .inl x1, .inl x2] Γ δ (none, Γ, r) := by
  unfold F_Ru_addSaying at h
  have oa := hG.ob ha
  refine Ct.of2 (n := 0) (ls := [some (.inr (0, a)), some (.inl x1), some (.inl x2)]) rfl (by decide +kernel) (Nat.le_of_ble_eq_true rfl) ?_
  refine x_aload_n (i := 0) d_Ru_addSaying_0 rfl rfl ?_
  refine x_getI (f := 44) gl_Ru_33_5 rfl kf_44 oa d_Ru_addSaying_1 ?_
  refine x_if_lt (tgt := 59) d_Ru_addSaying_4 (by decide) (fun c4 => ?_) (fun c4 => ?_)
  · have h := if_t c4 h
    refine x_wk (ls' := [some (.inr (0, a)), none, none]) ⟨Or.inr rfl, Or.inl rfl, Or.inl rfl, trivial⟩ ?_
    exact j_Ru_addSaying_59 hG a x1 x2 ha  δ r h
  · have h := if_f c4 h
    refine x_aload_n (i := 0) d_Ru_addSaying_7 rfl rfl ?_
    refine x_getI (f := 44) gl_Ru_33_5 rfl kf_44 oa d_Ru_addSaying_8 ?_
    refine x_bi (v := 50) d_Ru_addSaying_11 (by decide) ?_
    refine x_cmp_ge (tgt := 59) d_Ru_addSaying_13 (by decide) (fun c13 => ?_) (fun c13 => ?_)
    · have h := if_t c13 h
      refine x_wk (ls' := [some (.inr (0, a)), none, none]) ⟨Or.inr rfl, Or.inl rfl, Or.inl rfl, trivial⟩ ?_
      exact j_Ru_addSaying_59 hG a x1 x2 ha  δ r h
    · have h := if_f c13 h
      refine x_aload_n (i := 0) d_Ru_addSaying_16 rfl rfl ?_
      refine x_getA (f := 45) gl_Ru_36_5 rfl (by rw [kf_45]; decide) oa d_Ru_addSaying_17 ?_
      refine x_aload_n (i := 0) d_Ru_addSaying_20 rfl rfl ?_
      refine x_getI (f := 44) gl_Ru_33_5 rfl kf_44 oa d_Ru_addSaying_21 ?_
      refine x_ic (v := 3) d_Ru_addSaying_24 (by decide) ?_
      refine x_imul d_Ru_addSaying_25 ?_
      refine x_iload_n (i := 1) d_Ru_addSaying_26 rfl rfl ?_
      obtain ⟨g27, h⟩ := gd_e h
      obtain ⟨δ27, eδ27, h⟩ := bn_e h
      refine x_iast (n := 150) kf_45 (oz_45 oa) (ln_45 _) g27 d_Ru_addSaying_27 (Xe.cδ eδ27 ?_)
      refine x_aload_n (i := 0) d_Ru_addSaying_28 rfl rfl ?_
      refine x_getA (f := 45) gl_Ru_36_5 rfl (by rw [kf_45]; decide) oa d_Ru_addSaying_29 ?_
      refine x_aload_n (i := 0) d_Ru_addSaying_32 rfl rfl ?_
      refine x_getI (f := 44) gl_Ru_33_5 rfl kf_44 oa d_Ru_addSaying_33 ?_
      refine x_ic (v := 3) d_Ru_addSaying_36 (by decide) ?_
      refine x_imul d_Ru_addSaying_37 ?_
      refine x_ic (v := 1) d_Ru_addSaying_38 (by decide) ?_
      refine x_iadd d_Ru_addSaying_39 ?_
      refine x_iload_n (i := 2) d_Ru_addSaying_40 rfl rfl ?_
      obtain ⟨g41, h⟩ := gd_e h
      obtain ⟨δ41, eδ41, h⟩ := bn_e h
      refine x_iast (n := 150) kf_45 (oz_45 oa) (ln_45 _) g41 d_Ru_addSaying_41 (Xe.cδ eδ41 ?_)
      refine x_aload_n (i := 0) d_Ru_addSaying_42 rfl rfl ?_
      refine x_getA (f := 45) gl_Ru_36_5 rfl (by rw [kf_45]; decide) oa d_Ru_addSaying_43 ?_
      refine x_aload_n (i := 0) d_Ru_addSaying_46 rfl rfl ?_
      refine x_getI (f := 44) gl_Ru_33_5 rfl kf_44 oa d_Ru_addSaying_47 ?_
      refine x_ic (v := 3) d_Ru_addSaying_50 (by decide) ?_
      refine x_imul d_Ru_addSaying_51 ?_
      refine x_ic (v := 2) d_Ru_addSaying_52 (by decide) ?_
      refine x_iadd d_Ru_addSaying_53 ?_
      refine x_aload_n (i := 0) d_Ru_addSaying_54 rfl rfl ?_
      refine x_getI (f := 43) gl_Ru_29_5 rfl kf_43 oa d_Ru_addSaying_55 ?_
      obtain ⟨g58, h⟩ := gd_e h
      obtain ⟨δ58, eδ58, h⟩ := bn_e h
      refine x_iast (n := 150) kf_45 (oz_45 oa) (ln_45 _) g58 d_Ru_addSaying_58 (Xe.cδ eδ58 ?_)
      refine x_wk (ls' := [some (.inr (0, a)), none, none]) ⟨Or.inr rfl, Or.inl rfl, Or.inl rfl, trivial⟩ ?_
      exact j_Ru_addSaying_59 hG a x1 x2 ha  δ58 r h
-- BlockStage$Run.doOrder(IIII)V
theorem d_Ru_doOrder_0 : decode M_Ru_doOrder.2.1 0 = .ok (.aload_n 0, 1) := by decide +kernel
theorem d_Ru_doOrder_1 : decode M_Ru_doOrder.2.1 1 = .ok (.getfield 12, 3) := by decide +kernel
theorem d_Ru_doOrder_4 : decode M_Ru_doOrder.2.1 4 = .ok (.iload_n 1, 1) := by decide +kernel
theorem d_Ru_doOrder_5 : decode M_Ru_doOrder.2.1 5 = .ok (.invokevirtual 109, 3) := by decide +kernel
theorem d_Ru_doOrder_8 : decode M_Ru_doOrder.2.1 8 = .ok (.tableswitch 194 0 9 #[56, 67, 86, 97, 108, 120, 129, 194, 151, 167], 56) := by decide +kernel
theorem d_Ru_doOrder_64 : decode M_Ru_doOrder.2.1 64 = .ok (.aload_n 0, 1) := by decide +kernel
theorem d_Ru_doOrder_65 : decode M_Ru_doOrder.2.1 65 = .ok (.getfield 21, 3) := by decide +kernel
theorem d_Ru_doOrder_68 : decode M_Ru_doOrder.2.1 68 = .ok (.iload_n 2, 1) := by decide +kernel
theorem d_Ru_doOrder_69 : decode M_Ru_doOrder.2.1 69 = .ok (.invokevirtual 134, 3) := by decide +kernel
theorem d_Ru_doOrder_72 : decode M_Ru_doOrder.2.1 72 = .ok (.goto 130, 3) := by decide +kernel
theorem d_Ru_doOrder_75 : decode M_Ru_doOrder.2.1 75 = .ok (.aload_n 0, 1) := by decide +kernel
theorem d_Ru_doOrder_76 : decode M_Ru_doOrder.2.1 76 = .ok (.getfield 21, 3) := by decide +kernel
theorem d_Ru_doOrder_79 : decode M_Ru_doOrder.2.1 79 = .ok (.iload_n 2, 1) := by decide +kernel
theorem d_Ru_doOrder_80 : decode M_Ru_doOrder.2.1 80 = .ok (.aload_n 0, 1) := by decide +kernel
theorem d_Ru_doOrder_81 : decode M_Ru_doOrder.2.1 81 = .ok (.getfield 12, 3) := by decide +kernel
theorem d_Ru_doOrder_84 : decode M_Ru_doOrder.2.1 84 = .ok (.iload_n 1, 1) := by decide +kernel
theorem d_Ru_doOrder_85 : decode M_Ru_doOrder.2.1 85 = .ok (.invokevirtual 137, 3) := by decide +kernel
theorem d_Ru_doOrder_88 : decode M_Ru_doOrder.2.1 88 = .ok (.invokevirtual 140, 3) := by decide +kernel
theorem d_Ru_doOrder_91 : decode M_Ru_doOrder.2.1 91 = .ok (.goto 111, 3) := by decide +kernel
theorem d_Ru_doOrder_94 : decode M_Ru_doOrder.2.1 94 = .ok (.aload_n 0, 1) := by decide +kernel
theorem d_Ru_doOrder_95 : decode M_Ru_doOrder.2.1 95 = .ok (.getfield 21, 3) := by decide +kernel
theorem d_Ru_doOrder_98 : decode M_Ru_doOrder.2.1 98 = .ok (.iload_n 2, 1) := by decide +kernel
theorem d_Ru_doOrder_99 : decode M_Ru_doOrder.2.1 99 = .ok (.invokevirtual 144, 3) := by decide +kernel
theorem d_Ru_doOrder_102 : decode M_Ru_doOrder.2.1 102 = .ok (.goto 100, 3) := by decide +kernel
theorem d_Ru_doOrder_105 : decode M_Ru_doOrder.2.1 105 = .ok (.aload_n 0, 1) := by decide +kernel
theorem d_Ru_doOrder_106 : decode M_Ru_doOrder.2.1 106 = .ok (.getfield 21, 3) := by decide +kernel
theorem d_Ru_doOrder_109 : decode M_Ru_doOrder.2.1 109 = .ok (.iload_n 2, 1) := by decide +kernel
theorem d_Ru_doOrder_110 : decode M_Ru_doOrder.2.1 110 = .ok (.invokevirtual 147, 3) := by decide +kernel
theorem d_Ru_doOrder_113 : decode M_Ru_doOrder.2.1 113 = .ok (.goto 89, 3) := by decide +kernel
theorem d_Ru_doOrder_116 : decode M_Ru_doOrder.2.1 116 = .ok (.aload_n 0, 1) := by decide +kernel
theorem d_Ru_doOrder_117 : decode M_Ru_doOrder.2.1 117 = .ok (.getfield 21, 3) := by decide +kernel
theorem d_Ru_doOrder_120 : decode M_Ru_doOrder.2.1 120 = .ok (.iload_n 2, 1) := by decide +kernel
theorem d_Ru_doOrder_121 : decode M_Ru_doOrder.2.1 121 = .ok (.iload_n 3, 1) := by decide +kernel
theorem d_Ru_doOrder_122 : decode M_Ru_doOrder.2.1 122 = .ok (.invokevirtual 150, 3) := by decide +kernel
theorem d_Ru_doOrder_125 : decode M_Ru_doOrder.2.1 125 = .ok (.goto 77, 3) := by decide +kernel
theorem d_Ru_doOrder_128 : decode M_Ru_doOrder.2.1 128 = .ok (.aload_n 0, 1) := by decide +kernel
theorem d_Ru_doOrder_129 : decode M_Ru_doOrder.2.1 129 = .ok (.iload_n 2, 1) := by decide +kernel
theorem d_Ru_doOrder_130 : decode M_Ru_doOrder.2.1 130 = .ok (.iload_n 3, 1) := by decide +kernel
theorem d_Ru_doOrder_131 : decode M_Ru_doOrder.2.1 131 = .ok (.invokevirtual 153, 3) := by decide +kernel
theorem d_Ru_doOrder_134 : decode M_Ru_doOrder.2.1 134 = .ok (.goto 68, 3) := by decide +kernel
theorem d_Ru_doOrder_137 : decode M_Ru_doOrder.2.1 137 = .ok (.aload_n 0, 1) := by decide +kernel
theorem d_Ru_doOrder_138 : decode M_Ru_doOrder.2.1 138 = .ok (.aload_n 0, 1) := by decide +kernel
theorem d_Ru_doOrder_139 : decode M_Ru_doOrder.2.1 139 = .ok (.getfield 56, 3) := by decide +kernel
theorem d_Ru_doOrder_142 : decode M_Ru_doOrder.2.1 142 = .ok (.iconst 1, 1) := by decide +kernel
theorem d_Ru_doOrder_143 : decode M_Ru_doOrder.2.1 143 = .ok (.aload_n 0, 1) := by decide +kernel
theorem d_Ru_doOrder_144 : decode M_Ru_doOrder.2.1 144 = .ok (.getfield 12, 3) := by decide +kernel
theorem d_Ru_doOrder_147 : decode M_Ru_doOrder.2.1 147 = .ok (.iload_n 1, 1) := by decide +kernel
theorem d_Ru_doOrder_148 : decode M_Ru_doOrder.2.1 148 = .ok (.invokevirtual 137, 3) := by decide +kernel
theorem d_Ru_doOrder_151 : decode M_Ru_doOrder.2.1 151 = .ok (.ishl, 1) := by decide +kernel
theorem d_Ru_doOrder_152 : decode M_Ru_doOrder.2.1 152 = .ok (.ior, 1) := by decide +kernel
theorem d_Ru_doOrder_153 : decode M_Ru_doOrder.2.1 153 = .ok (.putfield 56, 3) := by decide +kernel
theorem d_Ru_doOrder_156 : decode M_Ru_doOrder.2.1 156 = .ok (.goto 46, 3) := by decide +kernel
theorem d_Ru_doOrder_159 : decode M_Ru_doOrder.2.1 159 = .ok (.aload_n 0, 1) := by decide +kernel
theorem d_Ru_doOrder_160 : decode M_Ru_doOrder.2.1 160 = .ok (.aload_n 0, 1) := by decide +kernel
theorem d_Ru_doOrder_161 : decode M_Ru_doOrder.2.1 161 = .ok (.getfield 21, 3) := by decide +kernel
theorem d_Ru_doOrder_164 : decode M_Ru_doOrder.2.1 164 = .ok (.iload_n 2, 1) := by decide +kernel
theorem d_Ru_doOrder_165 : decode M_Ru_doOrder.2.1 165 = .ok (.iload_n 3, 1) := by decide +kernel
theorem d_Ru_doOrder_166 : decode M_Ru_doOrder.2.1 166 = .ok (.invokevirtual 156, 3) := by decide +kernel
theorem d_Ru_doOrder_169 : decode M_Ru_doOrder.2.1 169 = .ok (.putfield 62, 3) := by decide +kernel
theorem d_Ru_doOrder_172 : decode M_Ru_doOrder.2.1 172 = .ok (.goto 30, 3) := by decide +kernel
theorem d_Ru_doOrder_175 : decode M_Ru_doOrder.2.1 175 = .ok (.aload_n 0, 1) := by decide +kernel
theorem d_Ru_doOrder_176 : decode M_Ru_doOrder.2.1 176 = .ok (.aload_n 0, 1) := by decide +kernel
theorem d_Ru_doOrder_177 : decode M_Ru_doOrder.2.1 177 = .ok (.getfield 21, 3) := by decide +kernel
theorem d_Ru_doOrder_180 : decode M_Ru_doOrder.2.1 180 = .ok (.iload_n 2, 1) := by decide +kernel
theorem d_Ru_doOrder_181 : decode M_Ru_doOrder.2.1 181 = .ok (.iload_n 3, 1) := by decide +kernel
theorem d_Ru_doOrder_182 : decode M_Ru_doOrder.2.1 182 = .ok (.invokevirtual 159, 3) := by decide +kernel
theorem d_Ru_doOrder_185 : decode M_Ru_doOrder.2.1 185 = .ok (.putfield 62, 3) := by decide +kernel
theorem d_Ru_doOrder_188 : decode M_Ru_doOrder.2.1 188 = .ok (.aload_n 0, 1) := by decide +kernel
theorem d_Ru_doOrder_189 : decode M_Ru_doOrder.2.1 189 = .ok (.getfield 21, 3) := by decide +kernel
theorem d_Ru_doOrder_192 : decode M_Ru_doOrder.2.1 192 = .ok (.iload_n 2, 1) := by decide +kernel
theorem d_Ru_doOrder_193 : decode M_Ru_doOrder.2.1 193 = .ok (.iload_n 3, 1) := by decide +kernel
theorem d_Ru_doOrder_194 : decode M_Ru_doOrder.2.1 194 = .ok (.iload 4, 2) := by decide +kernel
theorem d_Ru_doOrder_196 : decode M_Ru_doOrder.2.1 196 = .ok (.invokevirtual 162, 3) := by decide +kernel
theorem d_Ru_doOrder_199 : decode M_Ru_doOrder.2.1 199 = .ok (.goto 3, 3) := by decide +kernel
theorem d_Ru_doOrder_202 : decode M_Ru_doOrder.2.1 202 = .ok (.return_, 1) := by decide +kernel
theorem mi_St_goAhead : MI M_St_goAhead 1 := ⟨(lwg_at 3 (by decide +kernel) rfl), (lwg_at 624 (by decide +kernel) rfl), ⟨by decide +kernel, by decide +kernel⟩, by decide +kernel, by decide⟩
theorem cs_Ru_134 : CV RX5 134 RX9 M_St_goAhead 1 := ⟨(lwg_at 621 (by decide +kernel) rfl), (lwg_at 622 (by decide +kernel) rfl), (lwg_at 623 (by decide +kernel) rfl), mi_St_goAhead⟩
theorem mi_St_turnBy : MI M_St_turnBy 2 := ⟨(lwg_at 3 (by decide +kernel) rfl), (lwg_at 628 (by decide +kernel) rfl), ⟨by decide +kernel, by decide +kernel⟩, by decide +kernel, by decide⟩
theorem cs_Ru_140 : CV RX5 140 RX9 M_St_turnBy 2 := ⟨(lwg_at 625 (by decide +kernel) rfl), (lwg_at 626 (by decide +kernel) rfl), (lwg_at 627 (by decide +kernel) rfl), mi_St_turnBy⟩
theorem mi_St_takeThing : MI M_St_takeThing 1 := ⟨(lwg_at 3 (by decide +kernel) rfl), (lwg_at 632 (by decide +kernel) rfl), ⟨by decide +kernel, by decide +kernel⟩, by decide +kernel, by decide⟩
theorem cs_Ru_144 : CV RX5 144 RX9 M_St_takeThing 1 := ⟨(lwg_at 629 (by decide +kernel) rfl), (lwg_at 630 (by decide +kernel) rfl), (lwg_at 631 (by decide +kernel) rfl), mi_St_takeThing⟩
theorem mi_St_putThing : MI M_St_putThing 1 := ⟨(lwg_at 3 (by decide +kernel) rfl), (lwg_at 636 (by decide +kernel) rfl), ⟨by decide +kernel, by decide +kernel⟩, by decide +kernel, by decide⟩
theorem cs_Ru_147 : CV RX5 147 RX9 M_St_putThing 1 := ⟨(lwg_at 633 (by decide +kernel) rfl), (lwg_at 634 (by decide +kernel) rfl), (lwg_at 635 (by decide +kernel) rfl), mi_St_putThing⟩
theorem mi_St_setValue : MI M_St_setValue 2 := ⟨(lwg_at 3 (by decide +kernel) rfl), (lwg_at 640 (by decide +kernel) rfl), ⟨by decide +kernel, by decide +kernel⟩, by decide +kernel, by decide⟩
theorem cs_Ru_150 : CV RX5 150 RX9 M_St_setValue 2 := ⟨(lwg_at 637 (by decide +kernel) rfl), (lwg_at 638 (by decide +kernel) rfl), (lwg_at 639 (by decide +kernel) rfl), mi_St_setValue⟩
theorem mi_Ru_addSaying : MI M_Ru_addSaying 2 := ⟨(lwg_at 5 (by decide +kernel) rfl), (lwg_at 644 (by decide +kernel) rfl), ⟨by decide +kernel, by decide +kernel⟩, by decide +kernel, by decide⟩
theorem cs_Ru_153 : CV RX5 153 RX5 M_Ru_addSaying 2 := ⟨(lwg_at 641 (by decide +kernel) rfl), (lwg_at 643 (by decide +kernel) rfl), (lwg_priv 7 (y := M_Ru_addSaying.1) (n := 14) (by decide +kernel)), mi_Ru_addSaying⟩
theorem gl_Ru_56_5 : GL RX5 56 5 11 := ⟨RX5, TX5, 14, RX5, rfl, by decide, (lwg_at 139 (by decide +kernel) rfl), Or.inl rfl, gl_w inX5⟩
theorem mi_St_makeRow : MI M_St_makeRow 2 := ⟨(lwg_at 3 (by decide +kernel) rfl), (lwg_at 648 (by decide +kernel) rfl), ⟨by decide +kernel, by decide +kernel⟩, by decide +kernel, by decide⟩
theorem cs_Ru_156 : CV RX5 156 RX9 M_St_makeRow 2 := ⟨(lwg_at 645 (by decide +kernel) rfl), (lwg_at 646 (by decide +kernel) rfl), (lwg_at 647 (by decide +kernel) rfl), mi_St_makeRow⟩
theorem mi_St_setItem : MI M_St_setItem 3 := ⟨(lwg_at 3 (by decide +kernel) rfl), (lwg_at 656 (by decide +kernel) rfl), ⟨by decide +kernel, by decide +kernel⟩, by decide +kernel, by decide⟩
theorem cs_Ru_162 : CV RX5 162 RX9 M_St_setItem 3 := ⟨(lwg_at 653 (by decide +kernel) rfl), (lwg_at 654 (by decide +kernel) rfl), (lwg_at 655 (by decide +kernel) rfl), mi_St_setItem⟩
def F_Ru_doOrder (a : Nat) (x1 : Int32) (x2 : Int32) (x3 : Int32) (x4 : Int32) (δ : Dl) : Option (Dl) :=
  (F_Pr_kindOf (wsr 40 a) x1 δ).bind fun v5 => if v5 = 0 then ((F_St_goAhead (wsr 41 a) x2 δ).bind fun δ69 => some δ69) else if v5 = 1 then ((F_Pr_numberOf (wsr 40 a) x1 δ).bind fun v85 => (F_St_turnBy (wsr 41 a) x2 v85 δ).bind fun δ88 => some δ88) else if v5 = 2 then ((F_St_takeThing (wsr 41 a) x2 δ).bind fun δ99 => some δ99) else if v5 = 3 then ((F_St_putThing (wsr 41 a) x2 δ).bind fun δ110 => some δ110) else if v5 = 4 then ((F_St_setValue (wsr 41 a) x2 x3 δ).bind fun δ122 => some δ122) else if v5 = 5 then ((F_Ru_addSaying a x2 x3 δ).bind fun δ131 => some δ131) else if v5 = 6 then ((F_Pr_numberOf (wsr 40 a) x1 δ).bind fun v148 => bnd (sI δ 51 a ((δ.1 51 a) ||| (1 <<< (v148 &&& 31)))) fun δ153 => some δ153) else if v5 = 7 then (some δ) else if v5 = 8 then (bd2 (F_St_makeRow (wsr 41 a) x2 x3 δ) fun v166 δ166 => bnd (sI δ166 53 a v166) fun δ169 => some δ169) else if v5 = 9 then ((F_St_refusalOfItem (wsr 41 a) x2 x3 δ).bind fun v182 => bnd (sI δ 53 a v182) fun δ185 => (F_St_setItem (wsr 41 a) x2 x3 x4 δ185).bind fun δ196 => some δ196) else (some δ)
set_option maxRecDepth 20000 in
set_option maxHeartbeats 4000000 in
theorem c_Ru_doOrder {l : Launch} {Γ : Gm} (hG : GC Γ) (a : Nat) (x1 : Int32) (x2 : Int32) (x3 : Int32) (x4 : Int32) (ha : Oc a 5) (δ : Dl) (r : Dl) (h : F_Ru_doOrder a x1 x2 x3 x4  δ = some r) : Ct l M_Ru_doOrder 3 0 0 NF [.inr (0, a), .inl x1, .inl x2, .inl x3, .inl x4] Γ δ (none, Γ, r) := by
  unfold F_Ru_doOrder at h
  have oa := hG.ob ha
  refine Ct.of2 (n := 0) (ls := [some (.inr (0, a)), some (.inl x1), some (.inl x2), some (.inl x3), some (.inl x4)]) rfl (by decide +kernel) (Nat.le_of_ble_eq_true rfl) ?_
  refine x_aload_n (i := 0) d_Ru_doOrder_0 rfl rfl ?_
  refine x_getS (f := 40) (b := (wsr 40 a)) gl_Ru_12_5 rfl kf_40 rfl oa d_Ru_doOrder_1 ?_
  refine x_iload_n (i := 1) d_Ru_doOrder_4 rfl rfl ?_
  obtain ⟨v5, ev5, h⟩ := bd_e h
  refine y_V1 cs_Ru_109 rfl (hG.ob (run_prog a ha)) (by first | decide | omega) (Nat.le_of_ble_eq_true rfl) d_Ru_doOrder_5 (c_Pr_kindOf hG (wsr 40 a) x1 (run_prog a ha) δ v5 ev5) (Nat.le_refl 0) (Nat.le_refl 0) ?_
  by_cases c8_0 : v5 = 0
  · have h := if_t c8_0 h
    refine x_tin (v := 0) (off := 56) (tgt := 64) d_Ru_doOrder_8 c8_0 (by decide +kernel) ?_
    refine x_aload_n (i := 0) d_Ru_doOrder_64 rfl rfl ?_
    refine x_getS (f := 41) (b := (wsr 41 a)) gl_Ru_21_5 rfl kf_41 rfl oa d_Ru_doOrder_65 ?_
    refine x_iload_n (i := 2) d_Ru_doOrder_68 rfl rfl ?_
    obtain ⟨δ69, eδ69, h⟩ := bd_e h
    refine y_V1v cs_Ru_134 rfl (hG.ob (run_stage a ha)) (by first | decide | omega) (Nat.le_of_ble_eq_true rfl) d_Ru_doOrder_69 (c_St_goAhead hG (wsr 41 a) x2 (run_stage a ha) δ δ69 eδ69) (Nat.le_refl 0) (Nat.le_refl 0) ?_
    refine x_goto (tgt := 202) d_Ru_doOrder_72 (by decide) ?_
    replace h := Option.some.inj h; subst h
    exact x_vret rfl d_Ru_doOrder_202 (Nat.le_refl 0) (Nat.le_refl 0)
  have h := if_f c8_0 h
  by_cases c8_1 : v5 = 1
  · have h := if_t c8_1 h
    refine x_tin (v := 1) (off := 67) (tgt := 75) d_Ru_doOrder_8 c8_1 (by decide +kernel) ?_
    refine x_aload_n (i := 0) d_Ru_doOrder_75 rfl rfl ?_
    refine x_getS (f := 41) (b := (wsr 41 a)) gl_Ru_21_5 rfl kf_41 rfl oa d_Ru_doOrder_76 ?_
    refine x_iload_n (i := 2) d_Ru_doOrder_79 rfl rfl ?_
    refine x_aload_n (i := 0) d_Ru_doOrder_80 rfl rfl ?_
    refine x_getS (f := 40) (b := (wsr 40 a)) gl_Ru_12_5 rfl kf_40 rfl oa d_Ru_doOrder_81 ?_
    refine x_iload_n (i := 1) d_Ru_doOrder_84 rfl rfl ?_
    obtain ⟨v85, ev85, h⟩ := bd_e h
    refine y_V1 cs_Ru_137 rfl (hG.ob (run_prog a ha)) (by first | decide | omega) (Nat.le_of_ble_eq_true rfl) d_Ru_doOrder_85 (c_Pr_numberOf hG (wsr 40 a) x1 (run_prog a ha) δ v85 ev85) (Nat.le_refl 0) (Nat.le_refl 0) ?_
    obtain ⟨δ88, eδ88, h⟩ := bd_e h
    refine y_V2v cs_Ru_140 rfl (hG.ob (run_stage a ha)) (by first | decide | omega) (Nat.le_of_ble_eq_true rfl) d_Ru_doOrder_88 (c_St_turnBy hG (wsr 41 a) x2 v85 (run_stage a ha) δ δ88 eδ88) (Nat.le_refl 0) (Nat.le_refl 0) ?_
    refine x_goto (tgt := 202) d_Ru_doOrder_91 (by decide) ?_
    replace h := Option.some.inj h; subst h
    exact x_vret rfl d_Ru_doOrder_202 (Nat.le_refl 0) (Nat.le_refl 0)
  have h := if_f c8_1 h
  by_cases c8_2 : v5 = 2
  · have h := if_t c8_2 h
    refine x_tin (v := 2) (off := 86) (tgt := 94) d_Ru_doOrder_8 c8_2 (by decide +kernel) ?_
    refine x_aload_n (i := 0) d_Ru_doOrder_94 rfl rfl ?_
    refine x_getS (f := 41) (b := (wsr 41 a)) gl_Ru_21_5 rfl kf_41 rfl oa d_Ru_doOrder_95 ?_
    refine x_iload_n (i := 2) d_Ru_doOrder_98 rfl rfl ?_
    obtain ⟨δ99, eδ99, h⟩ := bd_e h
    refine y_V1v cs_Ru_144 rfl (hG.ob (run_stage a ha)) (by first | decide | omega) (Nat.le_of_ble_eq_true rfl) d_Ru_doOrder_99 (c_St_takeThing hG (wsr 41 a) x2 (run_stage a ha) δ δ99 eδ99) (Nat.le_refl 0) (Nat.le_refl 0) ?_
    refine x_goto (tgt := 202) d_Ru_doOrder_102 (by decide) ?_
    replace h := Option.some.inj h; subst h
    exact x_vret rfl d_Ru_doOrder_202 (Nat.le_refl 0) (Nat.le_refl 0)
  have h := if_f c8_2 h
  by_cases c8_3 : v5 = 3
  · have h := if_t c8_3 h
    refine x_tin (v := 3) (off := 97) (tgt := 105) d_Ru_doOrder_8 c8_3 (by decide +kernel) ?_
    refine x_aload_n (i := 0) d_Ru_doOrder_105 rfl rfl ?_
    refine x_getS (f := 41) (b := (wsr 41 a)) gl_Ru_21_5 rfl kf_41 rfl oa d_Ru_doOrder_106 ?_
    refine x_iload_n (i := 2) d_Ru_doOrder_109 rfl rfl ?_
    obtain ⟨δ110, eδ110, h⟩ := bd_e h
    refine y_V1v cs_Ru_147 rfl (hG.ob (run_stage a ha)) (by first | decide | omega) (Nat.le_of_ble_eq_true rfl) d_Ru_doOrder_110 (c_St_putThing hG (wsr 41 a) x2 (run_stage a ha) δ δ110 eδ110) (Nat.le_refl 0) (Nat.le_refl 0) ?_
    refine x_goto (tgt := 202) d_Ru_doOrder_113 (by decide) ?_
    replace h := Option.some.inj h; subst h
    exact x_vret rfl d_Ru_doOrder_202 (Nat.le_refl 0) (Nat.le_refl 0)
  have h := if_f c8_3 h
  by_cases c8_4 : v5 = 4
  · have h := if_t c8_4 h
    refine x_tin (v := 4) (off := 108) (tgt := 116) d_Ru_doOrder_8 c8_4 (by decide +kernel) ?_
    refine x_aload_n (i := 0) d_Ru_doOrder_116 rfl rfl ?_
    refine x_getS (f := 41) (b := (wsr 41 a)) gl_Ru_21_5 rfl kf_41 rfl oa d_Ru_doOrder_117 ?_
    refine x_iload_n (i := 2) d_Ru_doOrder_120 rfl rfl ?_
    refine x_iload_n (i := 3) d_Ru_doOrder_121 rfl rfl ?_
    obtain ⟨δ122, eδ122, h⟩ := bd_e h
    refine y_V2v cs_Ru_150 rfl (hG.ob (run_stage a ha)) (by first | decide | omega) (Nat.le_of_ble_eq_true rfl) d_Ru_doOrder_122 (c_St_setValue hG (wsr 41 a) x2 x3 (run_stage a ha) δ δ122 eδ122) (Nat.le_refl 0) (Nat.le_refl 0) ?_
    refine x_goto (tgt := 202) d_Ru_doOrder_125 (by decide) ?_
    replace h := Option.some.inj h; subst h
    exact x_vret rfl d_Ru_doOrder_202 (Nat.le_refl 0) (Nat.le_refl 0)
  have h := if_f c8_4 h
  by_cases c8_5 : v5 = 5
  · have h := if_t c8_5 h
    refine x_tin (v := 5) (off := 120) (tgt := 128) d_Ru_doOrder_8 c8_5 (by decide +kernel) ?_
    refine x_aload_n (i := 0) d_Ru_doOrder_128 rfl rfl ?_
    refine x_iload_n (i := 2) d_Ru_doOrder_129 rfl rfl ?_
    refine x_iload_n (i := 3) d_Ru_doOrder_130 rfl rfl ?_
    obtain ⟨δ131, eδ131, h⟩ := bd_e h
    refine y_V2v cs_Ru_153 rfl oa (by first | decide | omega) (Nat.le_of_ble_eq_true rfl) d_Ru_doOrder_131 (c_Ru_addSaying hG a x2 x3 ha δ δ131 eδ131) (Nat.le_refl 0) (Nat.le_refl 0) ?_
    refine x_goto (tgt := 202) d_Ru_doOrder_134 (by decide) ?_
    replace h := Option.some.inj h; subst h
    exact x_vret rfl d_Ru_doOrder_202 (Nat.le_refl 0) (Nat.le_refl 0)
  have h := if_f c8_5 h
  by_cases c8_6 : v5 = 6
  · have h := if_t c8_6 h
    refine x_tin (v := 6) (off := 129) (tgt := 137) d_Ru_doOrder_8 c8_6 (by decide +kernel) ?_
    refine x_aload_n (i := 0) d_Ru_doOrder_137 rfl rfl ?_
    refine x_aload_n (i := 0) d_Ru_doOrder_138 rfl rfl ?_
    refine x_getI (f := 51) gl_Ru_56_5 rfl kf_51 oa d_Ru_doOrder_139 ?_
    refine x_ic (v := 1) d_Ru_doOrder_142 (by decide) ?_
    refine x_aload_n (i := 0) d_Ru_doOrder_143 rfl rfl ?_
    refine x_getS (f := 40) (b := (wsr 40 a)) gl_Ru_12_5 rfl kf_40 rfl oa d_Ru_doOrder_144 ?_
    refine x_iload_n (i := 1) d_Ru_doOrder_147 rfl rfl ?_
    obtain ⟨v148, ev148, h⟩ := bd_e h
    refine y_V1 cs_Ru_137 rfl (hG.ob (run_prog a ha)) (by first | decide | omega) (Nat.le_of_ble_eq_true rfl) d_Ru_doOrder_148 (c_Pr_numberOf hG (wsr 40 a) x1 (run_prog a ha) δ v148 ev148) (Nat.le_refl 0) (Nat.le_refl 0) ?_
    refine x_ishl d_Ru_doOrder_151 ?_
    refine x_ior d_Ru_doOrder_152 ?_
    obtain ⟨δ153, eδ153, h⟩ := bn_e h
    refine x_putI (f := 51) gp_Ru_56_5 rfl kf_51 (fun h => by cases h) rfl rfl oa.1 oa.z d_Ru_doOrder_153 (Xe.cδ eδ153 ?_)
    refine x_goto (tgt := 202) d_Ru_doOrder_156 (by decide) ?_
    replace h := Option.some.inj h; subst h
    exact x_vret rfl d_Ru_doOrder_202 (Nat.le_refl 0) (Nat.le_refl 0)
  have h := if_f c8_6 h
  by_cases c8_7 : v5 = 7
  · have h := if_t c8_7 h
    refine x_tin (v := 7) (off := 194) (tgt := 202) d_Ru_doOrder_8 c8_7 (by decide +kernel) ?_
    replace h := Option.some.inj h; subst h
    exact x_vret rfl d_Ru_doOrder_202 (Nat.le_refl 0) (Nat.le_refl 0)
  have h := if_f c8_7 h
  by_cases c8_8 : v5 = 8
  · have h := if_t c8_8 h
    refine x_tin (v := 8) (off := 151) (tgt := 159) d_Ru_doOrder_8 c8_8 (by decide +kernel) ?_
    refine x_aload_n (i := 0) d_Ru_doOrder_159 rfl rfl ?_
    refine x_aload_n (i := 0) d_Ru_doOrder_160 rfl rfl ?_
    refine x_getS (f := 41) (b := (wsr 41 a)) gl_Ru_21_5 rfl kf_41 rfl oa d_Ru_doOrder_161 ?_
    refine x_iload_n (i := 2) d_Ru_doOrder_164 rfl rfl ?_
    refine x_iload_n (i := 3) d_Ru_doOrder_165 rfl rfl ?_
    obtain ⟨v166, δ166, eδ166, h⟩ := bd2_e h
    refine y_V2 cs_Ru_156 rfl (hG.ob (run_stage a ha)) (by first | decide | omega) (Nat.le_of_ble_eq_true rfl) d_Ru_doOrder_166 (c_St_makeRow hG (wsr 41 a) x2 x3 (run_stage a ha) δ (v166, δ166) eδ166) (Nat.le_refl 0) (Nat.le_refl 0) ?_
    obtain ⟨δ169, eδ169, h⟩ := bn_e h
    refine x_putI (f := 53) gp_Ru_62_5 rfl kf_53 (fun h => by cases h) rfl rfl oa.1 oa.z d_Ru_doOrder_169 (Xe.cδ eδ169 ?_)
    refine x_goto (tgt := 202) d_Ru_doOrder_172 (by decide) ?_
    replace h := Option.some.inj h; subst h
    exact x_vret rfl d_Ru_doOrder_202 (Nat.le_refl 0) (Nat.le_refl 0)
  have h := if_f c8_8 h
  by_cases c8_9 : v5 = 9
  · have h := if_t c8_9 h
    refine x_tin (v := 9) (off := 167) (tgt := 175) d_Ru_doOrder_8 c8_9 (by decide +kernel) ?_
    refine x_aload_n (i := 0) d_Ru_doOrder_175 rfl rfl ?_
    refine x_aload_n (i := 0) d_Ru_doOrder_176 rfl rfl ?_
    refine x_getS (f := 41) (b := (wsr 41 a)) gl_Ru_21_5 rfl kf_41 rfl oa d_Ru_doOrder_177 ?_
    refine x_iload_n (i := 2) d_Ru_doOrder_180 rfl rfl ?_
    refine x_iload_n (i := 3) d_Ru_doOrder_181 rfl rfl ?_
    obtain ⟨v182, ev182, h⟩ := bd_e h
    refine y_V2 cs_Ru_159 rfl (hG.ob (run_stage a ha)) (by first | decide | omega) (Nat.le_of_ble_eq_true rfl) d_Ru_doOrder_182 (c_St_refusalOfItem hG (wsr 41 a) x2 x3 (run_stage a ha) δ v182 ev182) (Nat.le_refl 0) (Nat.le_refl 0) ?_
    obtain ⟨δ185, eδ185, h⟩ := bn_e h
    refine x_putI (f := 53) gp_Ru_62_5 rfl kf_53 (fun h => by cases h) rfl rfl oa.1 oa.z d_Ru_doOrder_185 (Xe.cδ eδ185 ?_)
    refine x_aload_n (i := 0) d_Ru_doOrder_188 rfl rfl ?_
    refine x_getS (f := 41) (b := (wsr 41 a)) gl_Ru_21_5 rfl kf_41 rfl oa d_Ru_doOrder_189 ?_
    refine x_iload_n (i := 2) d_Ru_doOrder_192 rfl rfl ?_
    refine x_iload_n (i := 3) d_Ru_doOrder_193 rfl rfl ?_
    refine x_iload (i := 4) d_Ru_doOrder_194 rfl ?_
    obtain ⟨δ196, eδ196, h⟩ := bd_e h
    refine y_V3v cs_Ru_162 rfl (hG.ob (run_stage a ha)) (by first | decide | omega) (Nat.le_of_ble_eq_true rfl) d_Ru_doOrder_196 (c_St_setItem hG (wsr 41 a) x2 x3 x4 (run_stage a ha) δ185 δ196 eδ196) (Nat.le_refl 0) (Nat.le_refl 0) ?_
    refine x_goto (tgt := 202) d_Ru_doOrder_199 (by decide) ?_
    replace h := Option.some.inj h; subst h
    exact x_vret rfl d_Ru_doOrder_202 (Nat.le_refl 0) (Nat.le_refl 0)
  have h := if_f c8_9 h
  have n8_0 := lv_neT (a := 0) c8_0 (by decide)
  have n8_1 := lv_neT (a := 1) c8_1 (by decide)
  have n8_2 := lv_neT (a := 2) c8_2 (by decide)
  have n8_3 := lv_neT (a := 3) c8_3 (by decide)
  have n8_4 := lv_neT (a := 4) c8_4 (by decide)
  have n8_5 := lv_neT (a := 5) c8_5 (by decide)
  have n8_6 := lv_neT (a := 6) c8_6 (by decide)
  have n8_7 := lv_neT (a := 7) c8_7 (by decide)
  have n8_8 := lv_neT (a := 8) c8_8 (by decide)
  have n8_9 := lv_neT (a := 9) c8_9 (by decide)
  refine x_tout (tgt := 202) d_Ru_doOrder_8 (by omega) (by decide) ?_
  replace h := Option.some.inj h; subst h
  exact x_vret rfl d_Ru_doOrder_202 (Nat.le_refl 0) (Nat.le_refl 0)
-- BlockStage$Run.goalOfShell(IIZ)I
theorem d_Ru_goalOfShell_0 : decode M_Ru_goalOfShell.2.1 0 = .ok (.iload_n 1, 1) := by decide +kernel
theorem d_Ru_goalOfShell_1 : decode M_Ru_goalOfShell.2.1 1 = .ok (.ifCond .lt 12, 3) := by decide +kernel
theorem d_Ru_goalOfShell_4 : decode M_Ru_goalOfShell.2.1 4 = .ok (.iload_n 1, 1) := by decide +kernel
theorem d_Ru_goalOfShell_5 : decode M_Ru_goalOfShell.2.1 5 = .ok (.aload_n 0, 1) := by decide +kernel
theorem d_Ru_goalOfShell_6 : decode M_Ru_goalOfShell.2.1 6 = .ok (.getfield 53, 3) := by decide +kernel
theorem d_Ru_goalOfShell_9 : decode M_Ru_goalOfShell.2.1 9 = .ok (.arraylength, 1) := by decide +kernel
theorem d_Ru_goalOfShell_10 : decode M_Ru_goalOfShell.2.1 10 = .ok (.if_icmp .lt 5, 3) := by decide +kernel
theorem d_Ru_goalOfShell_13 : decode M_Ru_goalOfShell.2.1 13 = .ok (.iconst (-1), 1) := by decide +kernel
theorem d_Ru_goalOfShell_14 : decode M_Ru_goalOfShell.2.1 14 = .ok (.ireturn, 1) := by decide +kernel
theorem d_Ru_goalOfShell_15 : decode M_Ru_goalOfShell.2.1 15 = .ok (.aload_n 0, 1) := by decide +kernel
theorem d_Ru_goalOfShell_16 : decode M_Ru_goalOfShell.2.1 16 = .ok (.getfield 12, 3) := by decide +kernel
theorem d_Ru_goalOfShell_19 : decode M_Ru_goalOfShell.2.1 19 = .ok (.iload_n 1, 1) := by decide +kernel
theorem d_Ru_goalOfShell_20 : decode M_Ru_goalOfShell.2.1 20 = .ok (.invokevirtual 109, 3) := by decide +kernel
theorem d_Ru_goalOfShell_23 : decode M_Ru_goalOfShell.2.1 23 = .ok (.istore 4, 2) := by decide +kernel
theorem d_Ru_goalOfShell_25 : decode M_Ru_goalOfShell.2.1 25 = .ok (.iload_n 2, 1) := by decide +kernel
theorem d_Ru_goalOfShell_26 : decode M_Ru_goalOfShell.2.1 26 = .ok (.ifCond .eq 7, 3) := by decide +kernel
theorem d_Ru_goalOfShell_29 : decode M_Ru_goalOfShell.2.1 29 = .ok (.iconst 1, 1) := by decide +kernel
theorem d_Ru_goalOfShell_30 : decode M_Ru_goalOfShell.2.1 30 = .ok (.goto 4, 3) := by decide +kernel
theorem d_Ru_goalOfShell_33 : decode M_Ru_goalOfShell.2.1 33 = .ok (.iconst 0, 1) := by decide +kernel
theorem d_Ru_goalOfShell_34 : decode M_Ru_goalOfShell.2.1 34 = .ok (.istore 5, 2) := by decide +kernel
theorem d_Ru_goalOfShell_36 : decode M_Ru_goalOfShell.2.1 36 = .ok (.iload 4, 2) := by decide +kernel
theorem d_Ru_goalOfShell_38 : decode M_Ru_goalOfShell.2.1 38 = .ok (.bipush 10, 2) := by decide +kernel
theorem d_Ru_goalOfShell_40 : decode M_Ru_goalOfShell.2.1 40 = .ok (.if_icmp .ne 54, 3) := by decide +kernel
theorem d_Ru_goalOfShell_43 : decode M_Ru_goalOfShell.2.1 43 = .ok (.iload_n 3, 1) := by decide +kernel
theorem d_Ru_goalOfShell_44 : decode M_Ru_goalOfShell.2.1 44 = .ok (.ifCond .eq 19, 3) := by decide +kernel
theorem d_Ru_goalOfShell_47 : decode M_Ru_goalOfShell.2.1 47 = .ok (.aload_n 0, 1) := by decide +kernel
theorem d_Ru_goalOfShell_48 : decode M_Ru_goalOfShell.2.1 48 = .ok (.getfield 53, 3) := by decide +kernel
theorem d_Ru_goalOfShell_51 : decode M_Ru_goalOfShell.2.1 51 = .ok (.iload_n 1, 1) := by decide +kernel
theorem d_Ru_goalOfShell_52 : decode M_Ru_goalOfShell.2.1 52 = .ok (.iconst 0, 1) := by decide +kernel
theorem d_Ru_goalOfShell_53 : decode M_Ru_goalOfShell.2.1 53 = .ok (.iload_n 2, 1) := by decide +kernel
theorem d_Ru_goalOfShell_54 : decode M_Ru_goalOfShell.2.1 54 = .ok (.bipush 99, 2) := by decide +kernel
theorem d_Ru_goalOfShell_56 : decode M_Ru_goalOfShell.2.1 56 = .ok (.invokestatic 166, 3) := by decide +kernel
theorem d_Ru_goalOfShell_59 : decode M_Ru_goalOfShell.2.1 59 = .ok (.invokestatic 171, 3) := by decide +kernel
theorem d_Ru_goalOfShell_62 : decode M_Ru_goalOfShell.2.1 62 = .ok (.iastore, 1) := by decide +kernel
theorem d_Ru_goalOfShell_63 : decode M_Ru_goalOfShell.2.1 63 = .ok (.aload_n 0, 1) := by decide +kernel
theorem d_Ru_goalOfShell_64 : decode M_Ru_goalOfShell.2.1 64 = .ok (.getfield 53, 3) := by decide +kernel
theorem d_Ru_goalOfShell_67 : decode M_Ru_goalOfShell.2.1 67 = .ok (.iload_n 1, 1) := by decide +kernel
theorem d_Ru_goalOfShell_68 : decode M_Ru_goalOfShell.2.1 68 = .ok (.iaload, 1) := by decide +kernel
theorem d_Ru_goalOfShell_69 : decode M_Ru_goalOfShell.2.1 69 = .ok (.ifCond .le 7, 3) := by decide +kernel
theorem d_Ru_goalOfShell_72 : decode M_Ru_goalOfShell.2.1 72 = .ok (.iconst 1, 1) := by decide +kernel
theorem d_Ru_goalOfShell_73 : decode M_Ru_goalOfShell.2.1 73 = .ok (.goto 4, 3) := by decide +kernel
theorem d_Ru_goalOfShell_76 : decode M_Ru_goalOfShell.2.1 76 = .ok (.iconst 0, 1) := by decide +kernel
theorem d_Ru_goalOfShell_77 : decode M_Ru_goalOfShell.2.1 77 = .ok (.istore 5, 2) := by decide +kernel
theorem d_Ru_goalOfShell_79 : decode M_Ru_goalOfShell.2.1 79 = .ok (.iload 5, 2) := by decide +kernel
theorem d_Ru_goalOfShell_81 : decode M_Ru_goalOfShell.2.1 81 = .ok (.ifCond .eq 13, 3) := by decide +kernel
theorem d_Ru_goalOfShell_84 : decode M_Ru_goalOfShell.2.1 84 = .ok (.aload_n 0, 1) := by decide +kernel
theorem d_Ru_goalOfShell_85 : decode M_Ru_goalOfShell.2.1 85 = .ok (.getfield 53, 3) := by decide +kernel
theorem d_Ru_goalOfShell_88 : decode M_Ru_goalOfShell.2.1 88 = .ok (.iload_n 1, 1) := by decide +kernel
theorem d_Ru_goalOfShell_89 : decode M_Ru_goalOfShell.2.1 89 = .ok (.dup2, 1) := by decide +kernel
theorem d_Ru_goalOfShell_90 : decode M_Ru_goalOfShell.2.1 90 = .ok (.iaload, 1) := by decide +kernel
theorem d_Ru_goalOfShell_91 : decode M_Ru_goalOfShell.2.1 91 = .ok (.iconst 1, 1) := by decide +kernel
theorem d_Ru_goalOfShell_92 : decode M_Ru_goalOfShell.2.1 92 = .ok (.isub, 1) := by decide +kernel
theorem d_Ru_goalOfShell_93 : decode M_Ru_goalOfShell.2.1 93 = .ok (.iastore, 1) := by decide +kernel
theorem d_Ru_goalOfShell_94 : decode M_Ru_goalOfShell.2.1 94 = .ok (.aload_n 0, 1) := by decide +kernel
theorem d_Ru_goalOfShell_95 : decode M_Ru_goalOfShell.2.1 95 = .ok (.getfield 12, 3) := by decide +kernel
theorem d_Ru_goalOfShell_98 : decode M_Ru_goalOfShell.2.1 98 = .ok (.iload_n 1, 1) := by decide +kernel
theorem d_Ru_goalOfShell_99 : decode M_Ru_goalOfShell.2.1 99 = .ok (.iload 5, 2) := by decide +kernel
theorem d_Ru_goalOfShell_101 : decode M_Ru_goalOfShell.2.1 101 = .ok (.ifCond .eq 7, 3) := by decide +kernel
theorem d_Ru_goalOfShell_104 : decode M_Ru_goalOfShell.2.1 104 = .ok (.iconst 1, 1) := by decide +kernel
theorem d_Ru_goalOfShell_105 : decode M_Ru_goalOfShell.2.1 105 = .ok (.goto 4, 3) := by decide +kernel
theorem d_Ru_goalOfShell_108 : decode M_Ru_goalOfShell.2.1 108 = .ok (.iconst 2, 1) := by decide +kernel
theorem d_Ru_goalOfShell_109 : decode M_Ru_goalOfShell.2.1 109 = .ok (.invokevirtual 112, 3) := by decide +kernel
theorem d_Ru_goalOfShell_112 : decode M_Ru_goalOfShell.2.1 112 = .ok (.istore 6, 2) := by decide +kernel
theorem d_Ru_goalOfShell_114 : decode M_Ru_goalOfShell.2.1 114 = .ok (.iload 6, 2) := by decide +kernel
theorem d_Ru_goalOfShell_116 : decode M_Ru_goalOfShell.2.1 116 = .ok (.iconst (-1), 1) := by decide +kernel
theorem d_Ru_goalOfShell_117 : decode M_Ru_goalOfShell.2.1 117 = .ok (.if_icmp .eq 6, 3) := by decide +kernel
theorem d_Ru_goalOfShell_120 : decode M_Ru_goalOfShell.2.1 120 = .ok (.iload 6, 2) := by decide +kernel
theorem d_Ru_goalOfShell_122 : decode M_Ru_goalOfShell.2.1 122 = .ok (.ireturn, 1) := by decide +kernel
theorem d_Ru_goalOfShell_123 : decode M_Ru_goalOfShell.2.1 123 = .ok (.iload 5, 2) := by decide +kernel
theorem d_Ru_goalOfShell_125 : decode M_Ru_goalOfShell.2.1 125 = .ok (.ifCond .eq 17, 3) := by decide +kernel
theorem d_Ru_goalOfShell_128 : decode M_Ru_goalOfShell.2.1 128 = .ok (.iload 4, 2) := by decide +kernel
theorem d_Ru_goalOfShell_130 : decode M_Ru_goalOfShell.2.1 130 = .ok (.bipush 12, 2) := by decide +kernel
theorem d_Ru_goalOfShell_132 : decode M_Ru_goalOfShell.2.1 132 = .ok (.if_icmp .eq 10, 3) := by decide +kernel
theorem d_Ru_goalOfShell_135 : decode M_Ru_goalOfShell.2.1 135 = .ok (.bipush (-2), 2) := by decide +kernel
theorem d_Ru_goalOfShell_137 : decode M_Ru_goalOfShell.2.1 137 = .ok (.iload_n 1, 1) := by decide +kernel
theorem d_Ru_goalOfShell_138 : decode M_Ru_goalOfShell.2.1 138 = .ok (.isub, 1) := by decide +kernel
theorem d_Ru_goalOfShell_139 : decode M_Ru_goalOfShell.2.1 139 = .ok (.goto 11, 3) := by decide +kernel
theorem d_Ru_goalOfShell_142 : decode M_Ru_goalOfShell.2.1 142 = .ok (.aload_n 0, 1) := by decide +kernel
theorem d_Ru_goalOfShell_143 : decode M_Ru_goalOfShell.2.1 143 = .ok (.getfield 12, 3) := by decide +kernel
theorem d_Ru_goalOfShell_146 : decode M_Ru_goalOfShell.2.1 146 = .ok (.iload_n 1, 1) := by decide +kernel
theorem d_Ru_goalOfShell_147 : decode M_Ru_goalOfShell.2.1 147 = .ok (.invokevirtual 131, 3) := by decide +kernel
theorem d_Ru_goalOfShell_150 : decode M_Ru_goalOfShell.2.1 150 = .ok (.ireturn, 1) := by decide +kernel
theorem cs_Ru_166 : CS RX5 166 M_Ma_min 2 := ⟨(lwg_at 664 (by decide +kernel) rfl), (lwg_at 650 (by decide +kernel) rfl), mi_Ma_min⟩
theorem mi_Ma_max : MI M_Ma_max 2 := ⟨(lwg_at 7 (by decide +kernel) rfl), (lwg_at 180 (by decide +kernel) rfl), ⟨by decide +kernel, by decide +kernel⟩, by decide +kernel, by decide⟩
theorem cs_Ru_171 : CS RX5 171 M_Ma_max 2 := ⟨(lwg_at 665 (by decide +kernel) rfl), (lwg_at 179 (by decide +kernel) rfl), mi_Ma_max⟩
theorem mi_Pr_goalBehind : MI M_Pr_goalBehind 1 := ⟨(lwg_at 2 (by decide +kernel) rfl), (lwg_at 669 (by decide +kernel) rfl), ⟨by decide +kernel, by decide +kernel⟩, by decide +kernel, by decide⟩
theorem cs_Ru_131 : CV RX5 131 RX3 M_Pr_goalBehind 1 := ⟨(lwg_at 666 (by decide +kernel) rfl), (lwg_at 667 (by decide +kernel) rfl), (lwg_at 668 (by decide +kernel) rfl), mi_Pr_goalBehind⟩
def F_Ru_goalOfShell_142 (a : Nat) (x1 : Int32) (x2 : Int32) (x3 : Int32) (δ : Dl) : Option (Int32 × Dl) :=
  (F_Pr_goalBehind (wsr 40 a) x1 δ).bind fun v147 => some (v147, δ)
set_option maxRecDepth 20000 in
set_option maxHeartbeats 4000000 in
theorem j_Ru_goalOfShell_142 {l : Launch} {Γ : Gm} (hG : GC Γ) (a : Nat) (x1 : Int32) (x2 : Int32) (x3 : Int32) (ha : Oc a 5) (δ : Dl) (r : Int32 × Dl) (h : F_Ru_goalOfShell_142 a x1 x2 x3  δ = some r) : Xe l M_Ru_goalOfShell 1 0 0 NF 142 [some (.inr (0, a)), some (.inl x1), none, none, none, none, none] [] 0 0 Γ δ (some (.inl r.1), Γ, r.2) := by
  unfold F_Ru_goalOfShell_142 at h
  have oa := hG.ob ha
  refine x_aload_n (i := 0) d_Ru_goalOfShell_142 rfl rfl ?_
  refine x_getS (f := 40) (b := (wsr 40 a)) gl_Ru_12_5 rfl kf_40 rfl oa d_Ru_goalOfShell_143 ?_
  refine x_iload_n (i := 1) d_Ru_goalOfShell_146 rfl rfl ?_
  obtain ⟨v147, ev147, h⟩ := bd_e h
  refine y_V1 cs_Ru_131 rfl (hG.ob (run_prog a ha)) (by first | decide | omega) (Nat.le_of_ble_eq_true rfl) d_Ru_goalOfShell_147 (c_Pr_goalBehind hG (wsr 40 a) x1 (run_prog a ha) δ v147 ev147) (Nat.le_refl 0) (Nat.le_refl 0) ?_
  replace h := Option.some.inj h; subst h
  exact x_iret rfl d_Ru_goalOfShell_150 (Nat.le_refl 0) (Nat.le_refl 0)
def F_Ru_goalOfShell_109 (a : Nat) (x1 : Int32) (x2 : Int32) (x3 : Int32) (x4 : Int32) (x5 : Int32) (s0 : Int32) (s1 : Int32) (δ : Dl) : Option (Int32 × Dl) :=
  (F_Pr_inHole (wsr 40 a) s1 s0 δ).bind fun v109 => if v109 = (-1) then (if x5 = 0 then (F_Ru_goalOfShell_142 a x1 x2 x3 δ) else (if x4 = 12 then (F_Ru_goalOfShell_142 a x1 x2 x3 δ) else (some (((-2) - x1), δ)))) else (some (v109, δ))
set_option maxRecDepth 20000 in
set_option maxHeartbeats 4000000 in
theorem j_Ru_goalOfShell_109 {l : Launch} {Γ : Gm} (hG : GC Γ) (a : Nat) (x1 : Int32) (x2 : Int32) (x3 : Int32) (ha : Oc a 5) (x4 : Int32) (x5 : Int32) (s0 : Int32) (s1 : Int32) (δ : Dl) (r : Int32 × Dl) (h : F_Ru_goalOfShell_109 a x1 x2 x3 x4 x5 s0 s1 δ = some r) : Xe l M_Ru_goalOfShell 1 0 0 NF 109 [some (.inr (0, a)), some (.inl x1), none, none, some (.inl x4), some (.inl x5), none] [.inl s0, .inl s1, .inr (0, (wsr 40 a))] 0 0 Γ δ (some (.inl r.1), Γ, r.2) := by
  unfold F_Ru_goalOfShell_109 at h
  have oa := hG.ob ha
  obtain ⟨v109, ev109, h⟩ := bd_e h
  refine y_V2 cs_Ru_112 rfl (hG.ob (run_prog a ha)) (by first | decide | omega) (Nat.le_of_ble_eq_true rfl) d_Ru_goalOfShell_109 (c_Pr_inHole hG (wsr 40 a) s1 s0 (run_prog a ha) δ v109 ev109) (Nat.le_refl 0) (Nat.le_refl 0) ?_
  refine x_stw (i := 6) (ls' := [some (.inr (0, a)), some (.inl x1), none, none, some (.inl x4), some (.inl x5), some (.inl v109)]) d_Ru_goalOfShell_112 (by decide) rfl ?_
  refine x_iload (i := 6) d_Ru_goalOfShell_114 rfl ?_
  refine x_ic (v := -1) d_Ru_goalOfShell_116 (by decide) ?_
  refine x_cmp_eq (tgt := 123) d_Ru_goalOfShell_117 (by decide) (fun c117 => ?_) (fun c117 => ?_)
  · have h := if_t c117 h
    refine x_iload (i := 5) d_Ru_goalOfShell_123 rfl ?_
    refine x_if_eq (tgt := 142) d_Ru_goalOfShell_125 (by decide) (fun c125 => ?_) (fun c125 => ?_)
    · have h := if_t c125 h
      refine x_wk (ls' := [some (.inr (0, a)), some (.inl x1), none, none, none, none, none]) ⟨Or.inr rfl, Or.inr rfl, Or.inl rfl, Or.inl rfl, Or.inl rfl, Or.inl rfl, Or.inl rfl, trivial⟩ ?_
      exact j_Ru_goalOfShell_142 hG a x1 x2 x3 ha  δ r h
    · have h := if_f c125 h
      refine x_iload (i := 4) d_Ru_goalOfShell_128 rfl ?_
      refine x_bi (v := 12) d_Ru_goalOfShell_130 (by decide) ?_
      refine x_cmp_eq (tgt := 142) d_Ru_goalOfShell_132 (by decide) (fun c132 => ?_) (fun c132 => ?_)
      · have h := if_t c132 h
        refine x_wk (ls' := [some (.inr (0, a)), some (.inl x1), none, none, none, none, none]) ⟨Or.inr rfl, Or.inr rfl, Or.inl rfl, Or.inl rfl, Or.inl rfl, Or.inl rfl, Or.inl rfl, trivial⟩ ?_
        exact j_Ru_goalOfShell_142 hG a x1 x2 x3 ha  δ r h
      · have h := if_f c132 h
        refine x_bi (v := -2) d_Ru_goalOfShell_135 (by decide) ?_
        refine x_iload_n (i := 1) d_Ru_goalOfShell_137 rfl rfl ?_
        refine x_isub d_Ru_goalOfShell_138 ?_
        refine x_goto (tgt := 150) d_Ru_goalOfShell_139 (by decide) ?_
        replace h := Option.some.inj h; subst h
        exact x_iret rfl d_Ru_goalOfShell_150 (Nat.le_refl 0) (Nat.le_refl 0)
  · have h := if_f c117 h
    refine x_iload (i := 6) d_Ru_goalOfShell_120 rfl ?_
    replace h := Option.some.inj h; subst h
    exact x_iret rfl d_Ru_goalOfShell_122 (Nat.le_refl 0) (Nat.le_refl 0)
def F_Ru_goalOfShell_94 (a : Nat) (x1 : Int32) (x2 : Int32) (x3 : Int32) (x4 : Int32) (x5 : Int32) (δ : Dl) : Option (Int32 × Dl) :=
  if x5 = 0 then (F_Ru_goalOfShell_109 a x1 x2 x3 x4 x5 2 x1 δ) else (F_Ru_goalOfShell_109 a x1 x2 x3 x4 x5 1 x1 δ)
set_option maxRecDepth 20000 in
set_option maxHeartbeats 4000000 in
theorem j_Ru_goalOfShell_94 {l : Launch} {Γ : Gm} (hG : GC Γ) (a : Nat) (x1 : Int32) (x2 : Int32) (x3 : Int32) (ha : Oc a 5) (x4 : Int32) (x5 : Int32) (δ : Dl) (r : Int32 × Dl) (h : F_Ru_goalOfShell_94 a x1 x2 x3 x4 x5 δ = some r) : Xe l M_Ru_goalOfShell 1 0 0 NF 94 [some (.inr (0, a)), some (.inl x1), none, none, some (.inl x4), some (.inl x5), none] [] 0 0 Γ δ (some (.inl r.1), Γ, r.2) := by
  unfold F_Ru_goalOfShell_94 at h
  have oa := hG.ob ha
  refine x_aload_n (i := 0) d_Ru_goalOfShell_94 rfl rfl ?_
  refine x_getS (f := 40) (b := (wsr 40 a)) gl_Ru_12_5 rfl kf_40 rfl oa d_Ru_goalOfShell_95 ?_
  refine x_iload_n (i := 1) d_Ru_goalOfShell_98 rfl rfl ?_
  refine x_iload (i := 5) d_Ru_goalOfShell_99 rfl ?_
  refine x_if_eq (tgt := 108) d_Ru_goalOfShell_101 (by decide) (fun c101 => ?_) (fun c101 => ?_)
  · have h := if_t c101 h
    refine x_ic (v := 2) d_Ru_goalOfShell_108 (by decide) ?_
    exact j_Ru_goalOfShell_109 hG a x1 x2 x3 ha x4 x5 2 x1 δ r h
  · have h := if_f c101 h
    refine x_ic (v := 1) d_Ru_goalOfShell_104 (by decide) ?_
    refine x_goto (tgt := 109) d_Ru_goalOfShell_105 (by decide) ?_
    exact j_Ru_goalOfShell_109 hG a x1 x2 x3 ha x4 x5 1 x1 δ r h
def F_Ru_goalOfShell_77 (a : Nat) (x1 : Int32) (x2 : Int32) (x3 : Int32) (x4 : Int32) (s0 : Int32) (δ : Dl) : Option (Int32 × Dl) :=
  if s0 = 0 then (F_Ru_goalOfShell_94 a x1 x2 x3 x4 s0 δ) else (if inb x1 30 then if inb x1 30 then bnd (sA δ 50 a x1 ((δ.2.1 50 a x1) - 1)) fun δ93 => F_Ru_goalOfShell_94 a x1 x2 x3 x4 s0 δ93 else none else none)
set_option maxRecDepth 20000 in
set_option maxHeartbeats 4000000 in
theorem j_Ru_goalOfShell_77 {l : Launch} {Γ : Gm} (hG : GC Γ) (a : Nat) (x1 : Int32) (x2 : Int32) (x3 : Int32) (ha : Oc a 5) (x4 : Int32) (s0 : Int32) (δ : Dl) (r : Int32 × Dl) (h : F_Ru_goalOfShell_77 a x1 x2 x3 x4 s0 δ = some r) : Xe l M_Ru_goalOfShell 1 0 0 NF 77 [some (.inr (0, a)), some (.inl x1), none, none, some (.inl x4), none, none] [.inl s0] 0 0 Γ δ (some (.inl r.1), Γ, r.2) := by
  unfold F_Ru_goalOfShell_77 at h
  have oa := hG.ob ha
  refine x_stw (i := 5) (ls' := [some (.inr (0, a)), some (.inl x1), none, none, some (.inl x4), some (.inl s0), none]) d_Ru_goalOfShell_77 (by decide) rfl ?_
  refine x_iload (i := 5) d_Ru_goalOfShell_79 rfl ?_
  refine x_if_eq (tgt := 94) d_Ru_goalOfShell_81 (by decide) (fun c81 => ?_) (fun c81 => ?_)
  · have h := if_t c81 h
    exact j_Ru_goalOfShell_94 hG a x1 x2 x3 ha x4 s0 δ r h
  · have h := if_f c81 h
    refine x_aload_n (i := 0) d_Ru_goalOfShell_84 rfl rfl ?_
    refine x_getA (f := 50) gl_Ru_53_5 rfl (by rw [kf_50]; decide) oa d_Ru_goalOfShell_85 ?_
    refine x_iload_n (i := 1) d_Ru_goalOfShell_88 rfl rfl ?_
    refine x_dup2 d_Ru_goalOfShell_89 ?_
    obtain ⟨g90, h⟩ := gd_e h
    refine x_iald (n := 30) kf_50 (oz_50 oa) (ln_50 _) g90 d_Ru_goalOfShell_90 ?_
    refine x_ic (v := 1) d_Ru_goalOfShell_91 (by decide) ?_
    refine x_isub d_Ru_goalOfShell_92 ?_
    obtain ⟨g93, h⟩ := gd_e h
    obtain ⟨δ93, eδ93, h⟩ := bn_e h
    refine x_iast (n := 30) kf_50 (oz_50 oa) (ln_50 _) g93 d_Ru_goalOfShell_93 (Xe.cδ eδ93 ?_)
    exact j_Ru_goalOfShell_94 hG a x1 x2 x3 ha x4 s0 δ93 r h
def F_Ru_goalOfShell_63 (a : Nat) (x1 : Int32) (x2 : Int32) (x3 : Int32) (x4 : Int32) (δ : Dl) : Option (Int32 × Dl) :=
  if inb x1 30 then if (δ.2.1 50 a x1) ≤ 0 then (F_Ru_goalOfShell_77 a x1 x2 x3 x4 0 δ) else (F_Ru_goalOfShell_77 a x1 x2 x3 x4 1 δ) else none
set_option maxRecDepth 20000 in
set_option maxHeartbeats 4000000 in
theorem j_Ru_goalOfShell_63 {l : Launch} {Γ : Gm} (hG : GC Γ) (a : Nat) (x1 : Int32) (x2 : Int32) (x3 : Int32) (ha : Oc a 5) (x4 : Int32) (δ : Dl) (r : Int32 × Dl) (h : F_Ru_goalOfShell_63 a x1 x2 x3 x4 δ = some r) : Xe l M_Ru_goalOfShell 1 0 0 NF 63 [some (.inr (0, a)), some (.inl x1), none, none, some (.inl x4), none, none] [] 0 0 Γ δ (some (.inl r.1), Γ, r.2) := by
  unfold F_Ru_goalOfShell_63 at h
  have oa := hG.ob ha
  refine x_aload_n (i := 0) d_Ru_goalOfShell_63 rfl rfl ?_
  refine x_getA (f := 50) gl_Ru_53_5 rfl (by rw [kf_50]; decide) oa d_Ru_goalOfShell_64 ?_
  refine x_iload_n (i := 1) d_Ru_goalOfShell_67 rfl rfl ?_
  obtain ⟨g68, h⟩ := gd_e h
  refine x_iald (n := 30) kf_50 (oz_50 oa) (ln_50 _) g68 d_Ru_goalOfShell_68 ?_
  refine x_if_le (tgt := 76) d_Ru_goalOfShell_69 (by decide) (fun c69 => ?_) (fun c69 => ?_)
  · have h := if_t c69 h
    refine x_ic (v := 0) d_Ru_goalOfShell_76 (by decide) ?_
    exact j_Ru_goalOfShell_77 hG a x1 x2 x3 ha x4 0 δ r h
  · have h := if_f c69 h
    refine x_ic (v := 1) d_Ru_goalOfShell_72 (by decide) ?_
    refine x_goto (tgt := 77) d_Ru_goalOfShell_73 (by decide) ?_
    exact j_Ru_goalOfShell_77 hG a x1 x2 x3 ha x4 1 δ r h
def F_Ru_goalOfShell_34 (a : Nat) (x1 : Int32) (x2 : Int32) (x3 : Int32) (x4 : Int32) (s0 : Int32) (δ : Dl) : Option (Int32 × Dl) :=
  if x4 = 10 then (if x3 = 0 then (F_Ru_goalOfShell_63 a x1 x2 x3 x4 δ) else (bnd (F_Ma_min x2 99) fun v56 => bnd (F_Ma_max 0 v56) fun v59 => if inb x1 30 then bnd (sA δ 50 a x1 v59) fun δ62 => F_Ru_goalOfShell_63 a x1 x2 x3 x4 δ62 else none)) else (F_Ru_goalOfShell_94 a x1 x2 x3 x4 s0 δ)
set_option maxRecDepth 20000 in
set_option maxHeartbeats 4000000 in
theorem j_Ru_goalOfShell_34 {l : Launch} {Γ : Gm} (hG : GC Γ) (a : Nat) (x1 : Int32) (x2 : Int32) (x3 : Int32) (ha : Oc a 5) (x4 : Int32) (s0 : Int32) (δ : Dl) (r : Int32 × Dl) (h : F_Ru_goalOfShell_34 a x1 x2 x3 x4 s0 δ = some r) : Xe l M_Ru_goalOfShell 1 0 0 NF 34 [some (.inr (0, a)), some (.inl x1), some (.inl x2), some (.inl x3), some (.inl x4), none, none] [.inl s0] 0 0 Γ δ (some (.inl r.1), Γ, r.2) := by
  unfold F_Ru_goalOfShell_34 at h
  have oa := hG.ob ha
  refine x_stw (i := 5) (ls' := [some (.inr (0, a)), some (.inl x1), some (.inl x2), some (.inl x3), some (.inl x4), some (.inl s0), none]) d_Ru_goalOfShell_34 (by decide) rfl ?_
  refine x_iload (i := 4) d_Ru_goalOfShell_36 rfl ?_
  refine x_bi (v := 10) d_Ru_goalOfShell_38 (by decide) ?_
  refine x_cmp_ne (tgt := 94) d_Ru_goalOfShell_40 (by decide) (fun c40 => ?_) (fun c40 => ?_)
  · have h := if_f c40 h
    refine x_wk (ls' := [some (.inr (0, a)), some (.inl x1), none, none, some (.inl x4), some (.inl s0), none]) ⟨Or.inr rfl, Or.inr rfl, Or.inl rfl, Or.inl rfl, Or.inr rfl, Or.inr rfl, Or.inl rfl, trivial⟩ ?_
    exact j_Ru_goalOfShell_94 hG a x1 x2 x3 ha x4 s0 δ r h
  · have h := if_t c40 h
    refine x_iload_n (i := 3) d_Ru_goalOfShell_43 rfl rfl ?_
    refine x_if_eq (tgt := 63) d_Ru_goalOfShell_44 (by decide) (fun c44 => ?_) (fun c44 => ?_)
    · have h := if_t c44 h
      refine x_wk (ls' := [some (.inr (0, a)), some (.inl x1), none, none, some (.inl x4), none, none]) ⟨Or.inr rfl, Or.inr rfl, Or.inl rfl, Or.inl rfl, Or.inr rfl, Or.inl rfl, Or.inl rfl, trivial⟩ ?_
      exact j_Ru_goalOfShell_63 hG a x1 x2 x3 ha x4 δ r h
    · have h := if_f c44 h
      refine x_aload_n (i := 0) d_Ru_goalOfShell_47 rfl rfl ?_
      refine x_getA (f := 50) gl_Ru_53_5 rfl (by rw [kf_50]; decide) oa d_Ru_goalOfShell_48 ?_
      refine x_iload_n (i := 1) d_Ru_goalOfShell_51 rfl rfl ?_
      refine x_ic (v := 0) d_Ru_goalOfShell_52 (by decide) ?_
      refine x_iload_n (i := 2) d_Ru_goalOfShell_53 rfl rfl ?_
      refine x_bi (v := 99) d_Ru_goalOfShell_54 (by decide) ?_
      obtain ⟨v56, ev56, h⟩ := bn_e h
      refine y_S2 cs_Ru_166 (by first | decide | omega) (Nat.le_of_ble_eq_true rfl) d_Ru_goalOfShell_56 (c_Ma_min x2 99  δ v56 ev56) (Nat.le_refl 0) (Nat.le_refl 0) ?_
      obtain ⟨v59, ev59, h⟩ := bn_e h
      refine y_S2 cs_Ru_171 (by first | decide | omega) (Nat.le_of_ble_eq_true rfl) d_Ru_goalOfShell_59 (c_Ma_max 0 v56  δ v59 ev59) (Nat.le_refl 0) (Nat.le_refl 0) ?_
      obtain ⟨g62, h⟩ := gd_e h
      obtain ⟨δ62, eδ62, h⟩ := bn_e h
      refine x_iast (n := 30) kf_50 (oz_50 oa) (ln_50 _) g62 d_Ru_goalOfShell_62 (Xe.cδ eδ62 ?_)
      refine x_wk (ls' := [some (.inr (0, a)), some (.inl x1), none, none, some (.inl x4), none, none]) ⟨Or.inr rfl, Or.inr rfl, Or.inl rfl, Or.inl rfl, Or.inr rfl, Or.inl rfl, Or.inl rfl, trivial⟩ ?_
      exact j_Ru_goalOfShell_63 hG a x1 x2 x3 ha x4 δ62 r h
def F_Ru_goalOfShell (a : Nat) (x1 : Int32) (x2 : Int32) (x3 : Int32) (δ : Dl) : Option (Int32 × Dl) :=
  if x1 < 0 then (some ((-1), δ)) else (if x1 < 30 then ((F_Pr_kindOf (wsr 40 a) x1 δ).bind fun v20 => if x2 = 0 then (F_Ru_goalOfShell_34 a x1 x2 x3 v20 0 δ) else (F_Ru_goalOfShell_34 a x1 x2 x3 v20 1 δ)) else (some ((-1), δ)))
set_option maxRecDepth 20000 in
set_option maxHeartbeats 4000000 in
theorem c_Ru_goalOfShell {l : Launch} {Γ : Gm} (hG : GC Γ) (a : Nat) (x1 : Int32) (x2 : Int32) (x3 : Int32) (ha : Oc a 5) (δ : Dl) (r : Int32 × Dl) (h : F_Ru_goalOfShell a x1 x2 x3  δ = some r) : Ct l M_Ru_goalOfShell 1 0 0 NF [.inr (0, a), .inl x1, .inl x2, .inl x3] Γ δ (some (.inl r.1), Γ, r.2) := by
  unfold F_Ru_goalOfShell at h
  have oa := hG.ob ha
  refine Ct.of2 (n := 3) (ls := [some (.inr (0, a)), some (.inl x1), some (.inl x2), some (.inl x3), none, none, none]) rfl (by decide +kernel) (Nat.le_of_ble_eq_true rfl) ?_
  refine x_iload_n (i := 1) d_Ru_goalOfShell_0 rfl rfl ?_
  refine x_if_lt (tgt := 13) d_Ru_goalOfShell_1 (by decide) (fun c1 => ?_) (fun c1 => ?_)
  · have h := if_t c1 h
    refine x_ic (v := -1) d_Ru_goalOfShell_13 (by decide) ?_
    replace h := Option.some.inj h; subst h
    exact x_iret rfl d_Ru_goalOfShell_14 (Nat.le_refl 0) (Nat.le_refl 0)
  · have h := if_f c1 h
    refine x_iload_n (i := 1) d_Ru_goalOfShell_4 rfl rfl ?_
    refine x_aload_n (i := 0) d_Ru_goalOfShell_5 rfl rfl ?_
    refine x_getA (f := 50) gl_Ru_53_5 rfl (by rw [kf_50]; decide) oa d_Ru_goalOfShell_6 ?_
    refine x_alen (n := 30) (Or.inl kf_50) (oz_50 oa) (lo_50 _) d_Ru_goalOfShell_9 ?_
    refine x_cmp_lt (tgt := 15) d_Ru_goalOfShell_10 (by decide) (fun c10 => ?_) (fun c10 => ?_)
    · have h := if_t c10 h
      refine x_aload_n (i := 0) d_Ru_goalOfShell_15 rfl rfl ?_
      refine x_getS (f := 40) (b := (wsr 40 a)) gl_Ru_12_5 rfl kf_40 rfl oa d_Ru_goalOfShell_16 ?_
      refine x_iload_n (i := 1) d_Ru_goalOfShell_19 rfl rfl ?_
      obtain ⟨v20, ev20, h⟩ := bd_e h
      refine y_V1 cs_Ru_109 rfl (hG.ob (run_prog a ha)) (by first | decide | omega) (Nat.le_of_ble_eq_true rfl) d_Ru_goalOfShell_20 (c_Pr_kindOf hG (wsr 40 a) x1 (run_prog a ha) δ v20 ev20) (Nat.le_refl 0) (Nat.le_refl 0) ?_
      refine x_stw (i := 4) (ls' := [some (.inr (0, a)), some (.inl x1), some (.inl x2), some (.inl x3), some (.inl v20), none, none]) d_Ru_goalOfShell_23 (by decide) rfl ?_
      refine x_iload_n (i := 2) d_Ru_goalOfShell_25 rfl rfl ?_
      refine x_if_eq (tgt := 33) d_Ru_goalOfShell_26 (by decide) (fun c26 => ?_) (fun c26 => ?_)
      · have h := if_t c26 h
        refine x_ic (v := 0) d_Ru_goalOfShell_33 (by decide) ?_
        exact j_Ru_goalOfShell_34 hG a x1 x2 x3 ha v20 0 δ r h
      · have h := if_f c26 h
        refine x_ic (v := 1) d_Ru_goalOfShell_29 (by decide) ?_
        refine x_goto (tgt := 34) d_Ru_goalOfShell_30 (by decide) ?_
        exact j_Ru_goalOfShell_34 hG a x1 x2 x3 ha v20 1 δ r h
    · have h := if_f c10 h
      refine x_ic (v := -1) d_Ru_goalOfShell_13 (by decide) ?_
      replace h := Option.some.inj h; subst h
      exact x_iret rfl d_Ru_goalOfShell_14 (Nat.le_refl 0) (Nat.le_refl 0)
-- BlockStage$Run.step(I)V
theorem d_Ru_step_0 : decode M_Ru_step.2.1 0 = .ok (.iload_n 1, 1) := by decide +kernel
theorem d_Ru_step_1 : decode M_Ru_step.2.1 1 = .ok (.ifCond .lt 9, 3) := by decide +kernel
theorem d_Ru_step_4 : decode M_Ru_step.2.1 4 = .ok (.iload_n 1, 1) := by decide +kernel
theorem d_Ru_step_5 : decode M_Ru_step.2.1 5 = .ok (.bipush 6, 2) := by decide +kernel
theorem d_Ru_step_7 : decode M_Ru_step.2.1 7 = .ok (.if_icmp .lt 4, 3) := by decide +kernel
theorem d_Ru_step_10 : decode M_Ru_step.2.1 10 = .ok (.return_, 1) := by decide +kernel
theorem d_Ru_step_11 : decode M_Ru_step.2.1 11 = .ok (.aload_n 0, 1) := by decide +kernel
theorem d_Ru_step_12 : decode M_Ru_step.2.1 12 = .ok (.getfield 43, 3) := by decide +kernel
theorem d_Ru_step_15 : decode M_Ru_step.2.1 15 = .ok (.iload_n 1, 1) := by decide +kernel
theorem d_Ru_step_16 : decode M_Ru_step.2.1 16 = .ok (.iaload, 1) := by decide +kernel
theorem d_Ru_step_17 : decode M_Ru_step.2.1 17 = .ok (.istore_n 2, 1) := by decide +kernel
theorem d_Ru_step_18 : decode M_Ru_step.2.1 18 = .ok (.aload_n 0, 1) := by decide +kernel
theorem d_Ru_step_19 : decode M_Ru_step.2.1 19 = .ok (.getfield 12, 3) := by decide +kernel
theorem d_Ru_step_22 : decode M_Ru_step.2.1 22 = .ok (.iload_n 1, 1) := by decide +kernel
theorem d_Ru_step_23 : decode M_Ru_step.2.1 23 = .ok (.invokevirtual 94, 3) := by decide +kernel
theorem d_Ru_step_26 : decode M_Ru_step.2.1 26 = .ok (.istore_n 3, 1) := by decide +kernel
theorem d_Ru_step_27 : decode M_Ru_step.2.1 27 = .ok (.aload_n 0, 1) := by decide +kernel
theorem d_Ru_step_28 : decode M_Ru_step.2.1 28 = .ok (.getfield 12, 3) := by decide +kernel
theorem d_Ru_step_31 : decode M_Ru_step.2.1 31 = .ok (.iload_n 2, 1) := by decide +kernel
theorem d_Ru_step_32 : decode M_Ru_step.2.1 32 = .ok (.invokevirtual 109, 3) := by decide +kernel
theorem d_Ru_step_35 : decode M_Ru_step.2.1 35 = .ok (.istore 4, 2) := by decide +kernel
theorem d_Ru_step_37 : decode M_Ru_step.2.1 37 = .ok (.aload_n 0, 1) := by decide +kernel
theorem d_Ru_step_38 : decode M_Ru_step.2.1 38 = .ok (.iconst 0, 1) := by decide +kernel
theorem d_Ru_step_39 : decode M_Ru_step.2.1 39 = .ok (.putfield 62, 3) := by decide +kernel
theorem d_Ru_step_42 : decode M_Ru_step.2.1 42 = .ok (.iload 4, 2) := by decide +kernel
theorem d_Ru_step_44 : decode M_Ru_step.2.1 44 = .ok (.bipush 10, 2) := by decide +kernel
theorem d_Ru_step_46 : decode M_Ru_step.2.1 46 = .ok (.if_icmp .ne 16, 3) := by decide +kernel
theorem d_Ru_step_49 : decode M_Ru_step.2.1 49 = .ok (.aload_n 0, 1) := by decide +kernel
theorem d_Ru_step_50 : decode M_Ru_step.2.1 50 = .ok (.getfield 46, 3) := by decide +kernel
theorem d_Ru_step_53 : decode M_Ru_step.2.1 53 = .ok (.iload_n 1, 1) := by decide +kernel
theorem d_Ru_step_54 : decode M_Ru_step.2.1 54 = .ok (.baload, 1) := by decide +kernel
theorem d_Ru_step_55 : decode M_Ru_step.2.1 55 = .ok (.ifCond .ne 7, 3) := by decide +kernel
theorem d_Ru_step_58 : decode M_Ru_step.2.1 58 = .ok (.iconst 1, 1) := by decide +kernel
theorem d_Ru_step_59 : decode M_Ru_step.2.1 59 = .ok (.goto 4, 3) := by decide +kernel
theorem d_Ru_step_62 : decode M_Ru_step.2.1 62 = .ok (.iconst 0, 1) := by decide +kernel
theorem d_Ru_step_63 : decode M_Ru_step.2.1 63 = .ok (.istore 5, 2) := by decide +kernel
theorem d_Ru_step_65 : decode M_Ru_step.2.1 65 = .ok (.iload 5, 2) := by decide +kernel
theorem d_Ru_step_67 : decode M_Ru_step.2.1 67 = .ok (.ifCond .eq 7, 3) := by decide +kernel
theorem d_Ru_step_70 : decode M_Ru_step.2.1 70 = .ok (.iconst 0, 1) := by decide +kernel
theorem d_Ru_step_71 : decode M_Ru_step.2.1 71 = .ok (.goto 18, 3) := by decide +kernel
theorem d_Ru_step_74 : decode M_Ru_step.2.1 74 = .ok (.aload_n 0, 1) := by decide +kernel
theorem d_Ru_step_75 : decode M_Ru_step.2.1 75 = .ok (.aload_n 0, 1) := by decide +kernel
theorem d_Ru_step_76 : decode M_Ru_step.2.1 76 = .ok (.getfield 12, 3) := by decide +kernel
theorem d_Ru_step_79 : decode M_Ru_step.2.1 79 = .ok (.iload_n 2, 1) := by decide +kernel
theorem d_Ru_step_80 : decode M_Ru_step.2.1 80 = .ok (.iconst 3, 1) := by decide +kernel
theorem d_Ru_step_81 : decode M_Ru_step.2.1 81 = .ok (.invokevirtual 112, 3) := by decide +kernel
theorem d_Ru_step_84 : decode M_Ru_step.2.1 84 = .ok (.iload_n 3, 1) := by decide +kernel
theorem d_Ru_step_85 : decode M_Ru_step.2.1 85 = .ok (.iconst 0, 1) := by decide +kernel
theorem d_Ru_step_86 : decode M_Ru_step.2.1 86 = .ok (.invokevirtual 116, 3) := by decide +kernel
theorem d_Ru_step_89 : decode M_Ru_step.2.1 89 = .ok (.istore 6, 2) := by decide +kernel
theorem d_Ru_step_91 : decode M_Ru_step.2.1 91 = .ok (.aload_n 0, 1) := by decide +kernel
theorem d_Ru_step_92 : decode M_Ru_step.2.1 92 = .ok (.aload_n 0, 1) := by decide +kernel
theorem d_Ru_step_93 : decode M_Ru_step.2.1 93 = .ok (.getfield 12, 3) := by decide +kernel
theorem d_Ru_step_96 : decode M_Ru_step.2.1 96 = .ok (.iload_n 2, 1) := by decide +kernel
theorem d_Ru_step_97 : decode M_Ru_step.2.1 97 = .ok (.iconst 4, 1) := by decide +kernel
theorem d_Ru_step_98 : decode M_Ru_step.2.1 98 = .ok (.invokevirtual 112, 3) := by decide +kernel
theorem d_Ru_step_101 : decode M_Ru_step.2.1 101 = .ok (.iload_n 3, 1) := by decide +kernel
theorem d_Ru_step_102 : decode M_Ru_step.2.1 102 = .ok (.iconst 0, 1) := by decide +kernel
theorem d_Ru_step_103 : decode M_Ru_step.2.1 103 = .ok (.invokevirtual 116, 3) := by decide +kernel
theorem d_Ru_step_106 : decode M_Ru_step.2.1 106 = .ok (.istore 7, 2) := by decide +kernel
theorem d_Ru_step_108 : decode M_Ru_step.2.1 108 = .ok (.aload_n 0, 1) := by decide +kernel
theorem d_Ru_step_109 : decode M_Ru_step.2.1 109 = .ok (.getfield 62, 3) := by decide +kernel
theorem d_Ru_step_112 : decode M_Ru_step.2.1 112 = .ok (.ifCond .ne 13, 3) := by decide +kernel
theorem d_Ru_step_115 : decode M_Ru_step.2.1 115 = .ok (.aload_n 0, 1) := by decide +kernel
theorem d_Ru_step_116 : decode M_Ru_step.2.1 116 = .ok (.iload_n 2, 1) := by decide +kernel
theorem d_Ru_step_117 : decode M_Ru_step.2.1 117 = .ok (.iload_n 3, 1) := by decide +kernel
theorem d_Ru_step_118 : decode M_Ru_step.2.1 118 = .ok (.iload 6, 2) := by decide +kernel
theorem d_Ru_step_120 : decode M_Ru_step.2.1 120 = .ok (.iload 7, 2) := by decide +kernel
theorem d_Ru_step_122 : decode M_Ru_step.2.1 122 = .ok (.invokevirtual 120, 3) := by decide +kernel
theorem d_Ru_step_125 : decode M_Ru_step.2.1 125 = .ok (.aload_n 0, 1) := by decide +kernel
theorem d_Ru_step_126 : decode M_Ru_step.2.1 126 = .ok (.getfield 62, 3) := by decide +kernel
theorem d_Ru_step_129 : decode M_Ru_step.2.1 129 = .ok (.ifCond .eq 21, 3) := by decide +kernel
theorem d_Ru_step_132 : decode M_Ru_step.2.1 132 = .ok (.aload_n 0, 1) := by decide +kernel
theorem d_Ru_step_133 : decode M_Ru_step.2.1 133 = .ok (.getfield 40, 3) := by decide +kernel
theorem d_Ru_step_136 : decode M_Ru_step.2.1 136 = .ok (.iload_n 1, 1) := by decide +kernel
theorem d_Ru_step_137 : decode M_Ru_step.2.1 137 = .ok (.iconst 2, 1) := by decide +kernel
theorem d_Ru_step_138 : decode M_Ru_step.2.1 138 = .ok (.iastore, 1) := by decide +kernel
theorem d_Ru_step_139 : decode M_Ru_step.2.1 139 = .ok (.aload_n 0, 1) := by decide +kernel
theorem d_Ru_step_140 : decode M_Ru_step.2.1 140 = .ok (.getfield 50, 3) := by decide +kernel
theorem d_Ru_step_143 : decode M_Ru_step.2.1 143 = .ok (.iload_n 1, 1) := by decide +kernel
theorem d_Ru_step_144 : decode M_Ru_step.2.1 144 = .ok (.aload_n 0, 1) := by decide +kernel
theorem d_Ru_step_145 : decode M_Ru_step.2.1 145 = .ok (.getfield 62, 3) := by decide +kernel
theorem d_Ru_step_148 : decode M_Ru_step.2.1 148 = .ok (.iastore, 1) := by decide +kernel
theorem d_Ru_step_149 : decode M_Ru_step.2.1 149 = .ok (.return_, 1) := by decide +kernel
theorem d_Ru_step_150 : decode M_Ru_step.2.1 150 = .ok (.iload 4, 2) := by decide +kernel
theorem d_Ru_step_152 : decode M_Ru_step.2.1 152 = .ok (.invokestatic 124, 3) := by decide +kernel
theorem d_Ru_step_155 : decode M_Ru_step.2.1 155 = .ok (.ifCond .eq 19, 3) := by decide +kernel
theorem d_Ru_step_158 : decode M_Ru_step.2.1 158 = .ok (.aload_n 0, 1) := by decide +kernel
theorem d_Ru_step_159 : decode M_Ru_step.2.1 159 = .ok (.iload_n 2, 1) := by decide +kernel
theorem d_Ru_step_160 : decode M_Ru_step.2.1 160 = .ok (.iload 6, 2) := by decide +kernel
theorem d_Ru_step_162 : decode M_Ru_step.2.1 162 = .ok (.aload_n 0, 1) := by decide +kernel
theorem d_Ru_step_163 : decode M_Ru_step.2.1 163 = .ok (.getfield 46, 3) := by decide +kernel
theorem d_Ru_step_166 : decode M_Ru_step.2.1 166 = .ok (.iload_n 1, 1) := by decide +kernel
theorem d_Ru_step_167 : decode M_Ru_step.2.1 167 = .ok (.baload, 1) := by decide +kernel
theorem d_Ru_step_168 : decode M_Ru_step.2.1 168 = .ok (.invokevirtual 127, 3) := by decide +kernel
theorem d_Ru_step_171 : decode M_Ru_step.2.1 171 = .ok (.goto 11, 3) := by decide +kernel
theorem d_Ru_step_174 : decode M_Ru_step.2.1 174 = .ok (.aload_n 0, 1) := by decide +kernel
theorem d_Ru_step_175 : decode M_Ru_step.2.1 175 = .ok (.getfield 12, 3) := by decide +kernel
theorem d_Ru_step_178 : decode M_Ru_step.2.1 178 = .ok (.iload_n 2, 1) := by decide +kernel
theorem d_Ru_step_179 : decode M_Ru_step.2.1 179 = .ok (.invokevirtual 131, 3) := by decide +kernel
theorem d_Ru_step_182 : decode M_Ru_step.2.1 182 = .ok (.istore 8, 2) := by decide +kernel
theorem d_Ru_step_184 : decode M_Ru_step.2.1 184 = .ok (.aload_n 0, 1) := by decide +kernel
theorem d_Ru_step_185 : decode M_Ru_step.2.1 185 = .ok (.getfield 46, 3) := by decide +kernel
theorem d_Ru_step_188 : decode M_Ru_step.2.1 188 = .ok (.iload_n 1, 1) := by decide +kernel
theorem d_Ru_step_189 : decode M_Ru_step.2.1 189 = .ok (.iload 8, 2) := by decide +kernel
theorem d_Ru_step_191 : decode M_Ru_step.2.1 191 = .ok (.ifCond .lt 7, 3) := by decide +kernel
theorem d_Ru_step_194 : decode M_Ru_step.2.1 194 = .ok (.iconst 1, 1) := by decide +kernel
theorem d_Ru_step_195 : decode M_Ru_step.2.1 195 = .ok (.goto 4, 3) := by decide +kernel
theorem d_Ru_step_198 : decode M_Ru_step.2.1 198 = .ok (.iconst 0, 1) := by decide +kernel
theorem d_Ru_step_199 : decode M_Ru_step.2.1 199 = .ok (.bastore, 1) := by decide +kernel
theorem d_Ru_step_200 : decode M_Ru_step.2.1 200 = .ok (.aload_n 0, 1) := by decide +kernel
theorem d_Ru_step_201 : decode M_Ru_step.2.1 201 = .ok (.getfield 43, 3) := by decide +kernel
theorem d_Ru_step_204 : decode M_Ru_step.2.1 204 = .ok (.iload_n 1, 1) := by decide +kernel
theorem d_Ru_step_205 : decode M_Ru_step.2.1 205 = .ok (.iload 8, 2) := by decide +kernel
theorem d_Ru_step_207 : decode M_Ru_step.2.1 207 = .ok (.bipush (-2), 2) := by decide +kernel
theorem d_Ru_step_209 : decode M_Ru_step.2.1 209 = .ok (.if_icmp .gt 11, 3) := by decide +kernel
theorem d_Ru_step_212 : decode M_Ru_step.2.1 212 = .ok (.bipush (-2), 2) := by decide +kernel
theorem d_Ru_step_214 : decode M_Ru_step.2.1 214 = .ok (.iload 8, 2) := by decide +kernel
theorem d_Ru_step_216 : decode M_Ru_step.2.1 216 = .ok (.isub, 1) := by decide +kernel
theorem d_Ru_step_217 : decode M_Ru_step.2.1 217 = .ok (.goto 5, 3) := by decide +kernel
theorem d_Ru_step_220 : decode M_Ru_step.2.1 220 = .ok (.iload 8, 2) := by decide +kernel
theorem d_Ru_step_222 : decode M_Ru_step.2.1 222 = .ok (.iastore, 1) := by decide +kernel
theorem d_Ru_step_223 : decode M_Ru_step.2.1 223 = .ok (.iload 8, 2) := by decide +kernel
theorem d_Ru_step_225 : decode M_Ru_step.2.1 225 = .ok (.iconst (-1), 1) := by decide +kernel
theorem d_Ru_step_226 : decode M_Ru_step.2.1 226 = .ok (.if_icmp .ne 10, 3) := by decide +kernel
theorem d_Ru_step_229 : decode M_Ru_step.2.1 229 = .ok (.aload_n 0, 1) := by decide +kernel
theorem d_Ru_step_230 : decode M_Ru_step.2.1 230 = .ok (.getfield 40, 3) := by decide +kernel
theorem d_Ru_step_233 : decode M_Ru_step.2.1 233 = .ok (.iload_n 1, 1) := by decide +kernel
theorem d_Ru_step_234 : decode M_Ru_step.2.1 234 = .ok (.iconst 0, 1) := by decide +kernel
theorem d_Ru_step_235 : decode M_Ru_step.2.1 235 = .ok (.iastore, 1) := by decide +kernel
theorem d_Ru_step_236 : decode M_Ru_step.2.1 236 = .ok (.return_, 1) := by decide +kernel
theorem gl_Ru_46_5 : GL RX5 46 5 8 := ⟨RX5, TX5, 14, RX5, rfl, by decide, (lwg_at 136 (by decide +kernel) rfl), Or.inl rfl, gl_w inX5⟩
theorem mi_Ru_doOrder : MI M_Ru_doOrder 4 := ⟨(lwg_at 5 (by decide +kernel) rfl), (lwg_at 620 (by decide +kernel) rfl), ⟨by decide +kernel, by decide +kernel⟩, by decide +kernel, by decide⟩
theorem cs_Ru_120 : CV RX5 120 RX5 M_Ru_doOrder 4 := ⟨(lwg_at 617 (by decide +kernel) rfl), (lwg_at 619 (by decide +kernel) rfl), (lwg_priv 6 (y := M_Ru_doOrder.1) (n := 14) (by decide +kernel)), mi_Ru_doOrder⟩
theorem cs_Ru_124 : CSN RX5 124 RX11 M_Bs_isShell 1 := ⟨(List.mem_of_getElem? (i := 657) (by decide +kernel)), (lwg_at 658 (by decide +kernel) rfl), mi_Bs_isShell⟩
theorem mi_Ru_goalOfShell : MI M_Ru_goalOfShell 3 := ⟨(lwg_at 5 (by decide +kernel) rfl), (lwg_at 663 (by decide +kernel) rfl), ⟨by decide +kernel, by decide +kernel⟩, by decide +kernel, by decide⟩
theorem cs_Ru_127 : CV RX5 127 RX5 M_Ru_goalOfShell 3 := ⟨(lwg_at 660 (by decide +kernel) rfl), (lwg_at 662 (by decide +kernel) rfl), (lwg_priv 8 (y := M_Ru_goalOfShell.1) (n := 14) (by decide +kernel)), mi_Ru_goalOfShell⟩
def F_Ru_step_222 (a : Nat) (x1 : Int32) (x8 : Int32) (s0 : Int32) (s1 : Int32) (δ : Dl) : Option (Dl) :=
  if inb s1 6 then bnd (sA δ 47 a s1 s0) fun δ222 => if x8 = (-1) then (if inb x1 6 then bnd (sA δ222 46 a x1 0) fun δ235 => some δ235 else none) else (some δ222) else none
set_option maxRecDepth 20000 in
set_option maxHeartbeats 4000000 in
theorem j_Ru_step_222 {l : Launch} {Γ : Gm} (hG : GC Γ) (a : Nat) (x1 : Int32) (ha : Oc a 5) (x8 : Int32) (s0 : Int32) (s1 : Int32) (δ : Dl) (r : Dl) (h : F_Ru_step_222 a x1 x8 s0 s1 δ = some r) : Xe l M_Ru_step 41 0 0 NF 222 [some (.inr (0, a)), some (.inl x1), none, none, none, none, none, none, some (.inl x8)] [.inl s0, .inl s1, .inr (47, a)] 0 0 Γ δ (none, Γ, r) := by
  unfold F_Ru_step_222 at h
  have oa := hG.ob ha
  obtain ⟨g222, h⟩ := gd_e h
  obtain ⟨δ222, eδ222, h⟩ := bn_e h
  refine x_iast (n := 6) kf_47 (oz_47 oa) (ln_47 _) g222 d_Ru_step_222 (Xe.cδ eδ222 ?_)
  refine x_iload (i := 8) d_Ru_step_223 rfl ?_
  refine x_ic (v := -1) d_Ru_step_225 (by decide) ?_
  refine x_cmp_ne (tgt := 236) d_Ru_step_226 (by decide) (fun c226 => ?_) (fun c226 => ?_)
  · have h := if_f c226 h
    replace h := Option.some.inj h; subst h
    exact x_vret rfl d_Ru_step_236 (Nat.le_refl 0) (Nat.le_refl 0)
  · have h := if_t c226 h
    refine x_aload_n (i := 0) d_Ru_step_229 rfl rfl ?_
    refine x_getA (f := 46) gl_Ru_40_5 rfl (by rw [kf_46]; decide) oa d_Ru_step_230 ?_
    refine x_iload_n (i := 1) d_Ru_step_233 rfl rfl ?_
    refine x_ic (v := 0) d_Ru_step_234 (by decide) ?_
    obtain ⟨g235, h⟩ := gd_e h
    obtain ⟨δ235, eδ235, h⟩ := bn_e h
    refine x_iast (n := 6) kf_46 (oz_46 oa) (ln_46 _) g235 d_Ru_step_235 (Xe.cδ eδ235 ?_)
    replace h := Option.some.inj h; subst h
    exact x_vret rfl d_Ru_step_236 (Nat.le_refl 0) (Nat.le_refl 0)
def F_Ru_step_199 (a : Nat) (x1 : Int32) (x8 : Int32) (s0 : Int32) (s1 : Int32) (δ : Dl) : Option (Dl) :=
  if inb s1 6 then bnd (sA δ 48 a s1 (s0 &&& 1)) fun δ199 => if (-2) < x8 then (F_Ru_step_222 a x1 x8 x8 x1 δ199) else (F_Ru_step_222 a x1 x8 (((-2) - x8)) x1 δ199) else none
set_option maxRecDepth 20000 in
set_option maxHeartbeats 4000000 in
theorem j_Ru_step_199 {l : Launch} {Γ : Gm} (hG : GC Γ) (a : Nat) (x1 : Int32) (ha : Oc a 5) (x8 : Int32) (s0 : Int32) (s1 : Int32) (δ : Dl) (r : Dl) (h : F_Ru_step_199 a x1 x8 s0 s1 δ = some r) : Xe l M_Ru_step 41 0 0 NF 199 [some (.inr (0, a)), some (.inl x1), none, none, none, none, none, none, some (.inl x8)] [.inl s0, .inl s1, .inr (48, a)] 0 0 Γ δ (none, Γ, r) := by
  unfold F_Ru_step_199 at h
  have oa := hG.ob ha
  obtain ⟨g199, h⟩ := gd_e h
  obtain ⟨δ199, eδ199, h⟩ := bn_e h
  refine x_zast (n := 6) kf_48 (oz_48 oa) (ln_48 _) g199 d_Ru_step_199 (Xe.cδ eδ199 ?_)
  refine x_aload_n (i := 0) d_Ru_step_200 rfl rfl ?_
  refine x_getA (f := 47) gl_Ru_43_5 rfl (by rw [kf_47]; decide) oa d_Ru_step_201 ?_
  refine x_iload_n (i := 1) d_Ru_step_204 rfl rfl ?_
  refine x_iload (i := 8) d_Ru_step_205 rfl ?_
  refine x_bi (v := -2) d_Ru_step_207 (by decide) ?_
  refine x_cmp_gt (tgt := 220) d_Ru_step_209 (by decide) (fun c209 => ?_) (fun c209 => ?_)
  · have h := if_t c209 h
    refine x_iload (i := 8) d_Ru_step_220 rfl ?_
    exact j_Ru_step_222 hG a x1 ha x8 x8 x1 δ199 r h
  · have h := if_f c209 h
    refine x_bi (v := -2) d_Ru_step_212 (by decide) ?_
    refine x_iload (i := 8) d_Ru_step_214 rfl ?_
    refine x_isub d_Ru_step_216 ?_
    refine x_goto (tgt := 222) d_Ru_step_217 (by decide) ?_
    exact j_Ru_step_222 hG a x1 ha x8 (((-2) - x8)) x1 δ199 r h
def F_Ru_step_182 (a : Nat) (x1 : Int32) (s0 : Int32) (δ : Dl) : Option (Dl) :=
  if s0 < 0 then (F_Ru_step_199 a x1 s0 0 x1 δ) else (F_Ru_step_199 a x1 s0 1 x1 δ)
set_option maxRecDepth 20000 in
set_option maxHeartbeats 4000000 in
theorem j_Ru_step_182 {l : Launch} {Γ : Gm} (hG : GC Γ) (a : Nat) (x1 : Int32) (ha : Oc a 5) (s0 : Int32) (δ : Dl) (r : Dl) (h : F_Ru_step_182 a x1 s0 δ = some r) : Xe l M_Ru_step 41 0 0 NF 182 [some (.inr (0, a)), some (.inl x1), none, none, none, none, none, none, none] [.inl s0] 0 0 Γ δ (none, Γ, r) := by
  unfold F_Ru_step_182 at h
  have oa := hG.ob ha
  refine x_stw (i := 8) (ls' := [some (.inr (0, a)), some (.inl x1), none, none, none, none, none, none, some (.inl s0)]) d_Ru_step_182 (by decide) rfl ?_
  refine x_aload_n (i := 0) d_Ru_step_184 rfl rfl ?_
  refine x_getA (f := 48) gl_Ru_46_5 rfl (by rw [kf_48]; decide) oa d_Ru_step_185 ?_
  refine x_iload_n (i := 1) d_Ru_step_188 rfl rfl ?_
  refine x_iload (i := 8) d_Ru_step_189 rfl ?_
  refine x_if_lt (tgt := 198) d_Ru_step_191 (by decide) (fun c191 => ?_) (fun c191 => ?_)
  · have h := if_t c191 h
    refine x_ic (v := 0) d_Ru_step_198 (by decide) ?_
    exact j_Ru_step_199 hG a x1 ha s0 0 x1 δ r h
  · have h := if_f c191 h
    refine x_ic (v := 1) d_Ru_step_194 (by decide) ?_
    refine x_goto (tgt := 199) d_Ru_step_195 (by decide) ?_
    exact j_Ru_step_199 hG a x1 ha s0 1 x1 δ r h
def F_Ru_step_125 (a : Nat) (x1 : Int32) (x2 : Int32) (x4 : Int32) (x6 : Int32) (δ : Dl) : Option (Dl) :=
  if (δ.1 53 a) = 0 then (bnd (F_Bs_isShell x4) fun v152 => if v152 = 0 then ((F_Pr_goalBehind (wsr 40 a) x2 δ).bind fun v179 => F_Ru_step_182 a x1 v179 δ) else (if inb x1 6 then bd2 (F_Ru_goalOfShell a x2 x6 (δ.2.1 48 a x1) δ) fun v168 δ168 => F_Ru_step_182 a x1 v168 δ168 else none)) else (if inb x1 6 then bnd (sA δ 46 a x1 2) fun δ138 => if inb x1 6 then bnd (sA δ138 49 a x1 (δ138.1 53 a)) fun δ148 => some δ148 else none else none)
set_option maxRecDepth 20000 in
set_option maxHeartbeats 4000000 in
theorem j_Ru_step_125 {l : Launch} {Γ : Gm} (hG : GC Γ) (a : Nat) (x1 : Int32) (ha : Oc a 5) (x2 : Int32) (x4 : Int32) (x6 : Int32) (δ : Dl) (r : Dl) (h : F_Ru_step_125 a x1 x2 x4 x6 δ = some r) : Xe l M_Ru_step 41 0 0 NF 125 [some (.inr (0, a)), some (.inl x1), some (.inl x2), none, some (.inl x4), none, some (.inl x6), none, none] [] 0 0 Γ δ (none, Γ, r) := by
  unfold F_Ru_step_125 at h
  have oa := hG.ob ha
  refine x_aload_n (i := 0) d_Ru_step_125 rfl rfl ?_
  refine x_getI (f := 53) gl_Ru_62_5 rfl kf_53 oa d_Ru_step_126 ?_
  refine x_if_eq (tgt := 150) d_Ru_step_129 (by decide) (fun c129 => ?_) (fun c129 => ?_)
  · have h := if_t c129 h
    refine x_iload (i := 4) d_Ru_step_150 rfl ?_
    obtain ⟨v152, ev152, h⟩ := bn_e h
    refine y_SN1 cs_Ru_124 (by first | decide | omega) (Nat.le_of_ble_eq_true rfl) d_Ru_step_152 (c_Bs_isShell x4  δ v152 ev152) (Nat.le_refl 0) (Nat.le_refl 0) ?_
    refine x_if_eq (tgt := 174) d_Ru_step_155 (by decide) (fun c155 => ?_) (fun c155 => ?_)
    · have h := if_t c155 h
      refine x_aload_n (i := 0) d_Ru_step_174 rfl rfl ?_
      refine x_getS (f := 40) (b := (wsr 40 a)) gl_Ru_12_5 rfl kf_40 rfl oa d_Ru_step_175 ?_
      refine x_iload_n (i := 2) d_Ru_step_178 rfl rfl ?_
      obtain ⟨v179, ev179, h⟩ := bd_e h
      refine y_V1 cs_Ru_131 rfl (hG.ob (run_prog a ha)) (by first | decide | omega) (Nat.le_of_ble_eq_true rfl) d_Ru_step_179 (c_Pr_goalBehind hG (wsr 40 a) x2 (run_prog a ha) δ v179 ev179) (Nat.le_refl 0) (Nat.le_refl 0) ?_
      refine x_wk (ls' := [some (.inr (0, a)), some (.inl x1), none, none, none, none, none, none, none]) ⟨Or.inr rfl, Or.inr rfl, Or.inl rfl, Or.inl rfl, Or.inl rfl, Or.inl rfl, Or.inl rfl, Or.inl rfl, Or.inl rfl, trivial⟩ ?_
      exact j_Ru_step_182 hG a x1 ha v179 δ r h
    · have h := if_f c155 h
      refine x_aload_n (i := 0) d_Ru_step_158 rfl rfl ?_
      refine x_iload_n (i := 2) d_Ru_step_159 rfl rfl ?_
      refine x_iload (i := 6) d_Ru_step_160 rfl ?_
      refine x_aload_n (i := 0) d_Ru_step_162 rfl rfl ?_
      refine x_getA (f := 48) gl_Ru_46_5 rfl (by rw [kf_48]; decide) oa d_Ru_step_163 ?_
      refine x_iload_n (i := 1) d_Ru_step_166 rfl rfl ?_
      obtain ⟨g167, h⟩ := gd_e h
      refine x_zald (n := 6) kf_48 (oz_48 oa) (ln_48 _) g167 d_Ru_step_167 ?_
      obtain ⟨v168, δ168, eδ168, h⟩ := bd2_e h
      refine y_V3 cs_Ru_127 rfl oa (by first | decide | omega) (Nat.le_of_ble_eq_true rfl) d_Ru_step_168 (c_Ru_goalOfShell hG a x2 x6 (δ.2.1 48 a x1) ha δ (v168, δ168) eδ168) (Nat.le_refl 0) (Nat.le_refl 0) ?_
      refine x_goto (tgt := 182) d_Ru_step_171 (by decide) ?_
      refine x_wk (ls' := [some (.inr (0, a)), some (.inl x1), none, none, none, none, none, none, none]) ⟨Or.inr rfl, Or.inr rfl, Or.inl rfl, Or.inl rfl, Or.inl rfl, Or.inl rfl, Or.inl rfl, Or.inl rfl, Or.inl rfl, trivial⟩ ?_
      exact j_Ru_step_182 hG a x1 ha v168 δ168 r h
  · have h := if_f c129 h
    refine x_aload_n (i := 0) d_Ru_step_132 rfl rfl ?_
    refine x_getA (f := 46) gl_Ru_40_5 rfl (by rw [kf_46]; decide) oa d_Ru_step_133 ?_
    refine x_iload_n (i := 1) d_Ru_step_136 rfl rfl ?_
    refine x_ic (v := 2) d_Ru_step_137 (by decide) ?_
    obtain ⟨g138, h⟩ := gd_e h
    obtain ⟨δ138, eδ138, h⟩ := bn_e h
    refine x_iast (n := 6) kf_46 (oz_46 oa) (ln_46 _) g138 d_Ru_step_138 (Xe.cδ eδ138 ?_)
    refine x_aload_n (i := 0) d_Ru_step_139 rfl rfl ?_
    refine x_getA (f := 49) gl_Ru_50_5 rfl (by rw [kf_49]; decide) oa d_Ru_step_140 ?_
    refine x_iload_n (i := 1) d_Ru_step_143 rfl rfl ?_
    refine x_aload_n (i := 0) d_Ru_step_144 rfl rfl ?_
    refine x_getI (f := 53) gl_Ru_62_5 rfl kf_53 oa d_Ru_step_145 ?_
    obtain ⟨g148, h⟩ := gd_e h
    obtain ⟨δ148, eδ148, h⟩ := bn_e h
    refine x_iast (n := 6) kf_49 (oz_49 oa) (ln_49 _) g148 d_Ru_step_148 (Xe.cδ eδ148 ?_)
    replace h := Option.some.inj h; subst h
    exact x_vret rfl d_Ru_step_149 (Nat.le_refl 0) (Nat.le_refl 0)
def F_Ru_step_89 (a : Nat) (x1 : Int32) (x2 : Int32) (x3 : Int32) (x4 : Int32) (s0 : Int32) (δ : Dl) : Option (Dl) :=
  (F_Pr_inHole (wsr 40 a) x2 4 δ).bind fun v98 => bd2 (F_Ru_worth RF a v98 x3 0 δ) fun v103 δ103 => if (δ103.1 53 a) = 0 then ((F_Ru_doOrder a x2 x3 s0 v103 δ103).bind fun δ122 => F_Ru_step_125 a x1 x2 x4 s0 δ122) else (F_Ru_step_125 a x1 x2 x4 s0 δ103)
set_option maxRecDepth 20000 in
set_option maxHeartbeats 4000000 in
theorem j_Ru_step_89 {l : Launch} {Γ : Gm} (hG : GC Γ) (a : Nat) (x1 : Int32) (ha : Oc a 5) (x2 : Int32) (x3 : Int32) (x4 : Int32) (s0 : Int32) (δ : Dl) (r : Dl) (h : F_Ru_step_89 a x1 x2 x3 x4 s0 δ = some r) : Xe l M_Ru_step 41 0 0 NF 89 [some (.inr (0, a)), some (.inl x1), some (.inl x2), some (.inl x3), some (.inl x4), none, none, none, none] [.inl s0] 0 0 Γ δ (none, Γ, r) := by
  unfold F_Ru_step_89 at h
  have oa := hG.ob ha
  refine x_stw (i := 6) (ls' := [some (.inr (0, a)), some (.inl x1), some (.inl x2), some (.inl x3), some (.inl x4), none, some (.inl s0), none, none]) d_Ru_step_89 (by decide) rfl ?_
  refine x_aload_n (i := 0) d_Ru_step_91 rfl rfl ?_
  refine x_aload_n (i := 0) d_Ru_step_92 rfl rfl ?_
  refine x_getS (f := 40) (b := (wsr 40 a)) gl_Ru_12_5 rfl kf_40 rfl oa d_Ru_step_93 ?_
  refine x_iload_n (i := 2) d_Ru_step_96 rfl rfl ?_
  refine x_ic (v := 4) d_Ru_step_97 (by decide) ?_
  obtain ⟨v98, ev98, h⟩ := bd_e h
  refine y_V2 cs_Ru_112 rfl (hG.ob (run_prog a ha)) (by first | decide | omega) (Nat.le_of_ble_eq_true rfl) d_Ru_step_98 (c_Pr_inHole hG (wsr 40 a) x2 4 (run_prog a ha) δ v98 ev98) (Nat.le_refl 0) (Nat.le_refl 0) ?_
  refine x_iload_n (i := 3) d_Ru_step_101 rfl rfl ?_
  refine x_ic (v := 0) d_Ru_step_102 (by decide) ?_
  obtain ⟨v103, δ103, eδ103, h⟩ := bd2_e h
  refine y_V3 cs_Ru_116 rfl oa (by first | decide | omega) (Nat.le_of_ble_eq_true rfl) d_Ru_step_103 (c_Ru_worth hG a v98 x3 0 ha δ (v103, δ103) eδ103) (Nat.le_refl 0) (Nat.le_refl 0) ?_
  refine x_stw (i := 7) (ls' := [some (.inr (0, a)), some (.inl x1), some (.inl x2), some (.inl x3), some (.inl x4), none, some (.inl s0), some (.inl v103), none]) d_Ru_step_106 (by decide) rfl ?_
  refine x_aload_n (i := 0) d_Ru_step_108 rfl rfl ?_
  refine x_getI (f := 53) gl_Ru_62_5 rfl kf_53 oa d_Ru_step_109 ?_
  refine x_if_ne (tgt := 125) d_Ru_step_112 (by decide) (fun c112 => ?_) (fun c112 => ?_)
  · have h := if_f c112 h
    refine x_wk (ls' := [some (.inr (0, a)), some (.inl x1), some (.inl x2), none, some (.inl x4), none, some (.inl s0), none, none]) ⟨Or.inr rfl, Or.inr rfl, Or.inr rfl, Or.inl rfl, Or.inr rfl, Or.inl rfl, Or.inr rfl, Or.inl rfl, Or.inl rfl, trivial⟩ ?_
    exact j_Ru_step_125 hG a x1 ha x2 x4 s0 δ103 r h
  · have h := if_t c112 h
    refine x_aload_n (i := 0) d_Ru_step_115 rfl rfl ?_
    refine x_iload_n (i := 2) d_Ru_step_116 rfl rfl ?_
    refine x_iload_n (i := 3) d_Ru_step_117 rfl rfl ?_
    refine x_iload (i := 6) d_Ru_step_118 rfl ?_
    refine x_iload (i := 7) d_Ru_step_120 rfl ?_
    obtain ⟨δ122, eδ122, h⟩ := bd_e h
    refine y_V4v cs_Ru_120 rfl oa (by first | decide | omega) (Nat.le_of_ble_eq_true rfl) d_Ru_step_122 (c_Ru_doOrder hG a x2 x3 s0 v103 ha δ103 δ122 eδ122) (Nat.le_refl 0) (Nat.le_refl 0) ?_
    refine x_wk (ls' := [some (.inr (0, a)), some (.inl x1), some (.inl x2), none, some (.inl x4), none, some (.inl s0), none, none]) ⟨Or.inr rfl, Or.inr rfl, Or.inr rfl, Or.inl rfl, Or.inr rfl, Or.inl rfl, Or.inr rfl, Or.inl rfl, Or.inl rfl, trivial⟩ ?_
    exact j_Ru_step_125 hG a x1 ha x2 x4 s0 δ122 r h
def F_Ru_step_63 (a : Nat) (x1 : Int32) (x2 : Int32) (x3 : Int32) (x4 : Int32) (s0 : Int32) (δ : Dl) : Option (Dl) :=
  if s0 = 0 then ((F_Pr_inHole (wsr 40 a) x2 3 δ).bind fun v81 => bd2 (F_Ru_worth RF a v81 x3 0 δ) fun v86 δ86 => F_Ru_step_89 a x1 x2 x3 x4 v86 δ86) else (F_Ru_step_89 a x1 x2 x3 x4 0 δ)
set_option maxRecDepth 20000 in
set_option maxHeartbeats 4000000 in
theorem j_Ru_step_63 {l : Launch} {Γ : Gm} (hG : GC Γ) (a : Nat) (x1 : Int32) (ha : Oc a 5) (x2 : Int32) (x3 : Int32) (x4 : Int32) (s0 : Int32) (δ : Dl) (r : Dl) (h : F_Ru_step_63 a x1 x2 x3 x4 s0 δ = some r) : Xe l M_Ru_step 41 0 0 NF 63 [some (.inr (0, a)), some (.inl x1), some (.inl x2), some (.inl x3), some (.inl x4), none, none, none, none] [.inl s0] 0 0 Γ δ (none, Γ, r) := by
  unfold F_Ru_step_63 at h
  have oa := hG.ob ha
  refine x_stw (i := 5) (ls' := [some (.inr (0, a)), some (.inl x1), some (.inl x2), some (.inl x3), some (.inl x4), some (.inl s0), none, none, none]) d_Ru_step_63 (by decide) rfl ?_
  refine x_iload (i := 5) d_Ru_step_65 rfl ?_
  refine x_if_eq (tgt := 74) d_Ru_step_67 (by decide) (fun c67 => ?_) (fun c67 => ?_)
  · have h := if_t c67 h
    refine x_aload_n (i := 0) d_Ru_step_74 rfl rfl ?_
    refine x_aload_n (i := 0) d_Ru_step_75 rfl rfl ?_
    refine x_getS (f := 40) (b := (wsr 40 a)) gl_Ru_12_5 rfl kf_40 rfl oa d_Ru_step_76 ?_
    refine x_iload_n (i := 2) d_Ru_step_79 rfl rfl ?_
    refine x_ic (v := 3) d_Ru_step_80 (by decide) ?_
    obtain ⟨v81, ev81, h⟩ := bd_e h
    refine y_V2 cs_Ru_112 rfl (hG.ob (run_prog a ha)) (by first | decide | omega) (Nat.le_of_ble_eq_true rfl) d_Ru_step_81 (c_Pr_inHole hG (wsr 40 a) x2 3 (run_prog a ha) δ v81 ev81) (Nat.le_refl 0) (Nat.le_refl 0) ?_
    refine x_iload_n (i := 3) d_Ru_step_84 rfl rfl ?_
    refine x_ic (v := 0) d_Ru_step_85 (by decide) ?_
    obtain ⟨v86, δ86, eδ86, h⟩ := bd2_e h
    refine y_V3 cs_Ru_116 rfl oa (by first | decide | omega) (Nat.le_of_ble_eq_true rfl) d_Ru_step_86 (c_Ru_worth hG a v81 x3 0 ha δ (v86, δ86) eδ86) (Nat.le_refl 0) (Nat.le_refl 0) ?_
    refine x_wk (ls' := [some (.inr (0, a)), some (.inl x1), some (.inl x2), some (.inl x3), some (.inl x4), none, none, none, none]) ⟨Or.inr rfl, Or.inr rfl, Or.inr rfl, Or.inr rfl, Or.inr rfl, Or.inl rfl, Or.inl rfl, Or.inl rfl, Or.inl rfl, trivial⟩ ?_
    exact j_Ru_step_89 hG a x1 ha x2 x3 x4 v86 δ86 r h
  · have h := if_f c67 h
    refine x_ic (v := 0) d_Ru_step_70 (by decide) ?_
    refine x_goto (tgt := 89) d_Ru_step_71 (by decide) ?_
    refine x_wk (ls' := [some (.inr (0, a)), some (.inl x1), some (.inl x2), some (.inl x3), some (.inl x4), none, none, none, none]) ⟨Or.inr rfl, Or.inr rfl, Or.inr rfl, Or.inr rfl, Or.inr rfl, Or.inl rfl, Or.inl rfl, Or.inl rfl, Or.inl rfl, trivial⟩ ?_
    exact j_Ru_step_89 hG a x1 ha x2 x3 x4 0 δ r h
def F_Ru_step_62 (a : Nat) (x1 : Int32) (x2 : Int32) (x3 : Int32) (x4 : Int32) (δ : Dl) : Option (Dl) :=
  F_Ru_step_63 a x1 x2 x3 x4 0 δ
set_option maxRecDepth 20000 in
set_option maxHeartbeats 4000000 in
theorem j_Ru_step_62 {l : Launch} {Γ : Gm} (hG : GC Γ) (a : Nat) (x1 : Int32) (ha : Oc a 5) (x2 : Int32) (x3 : Int32) (x4 : Int32) (δ : Dl) (r : Dl) (h : F_Ru_step_62 a x1 x2 x3 x4 δ = some r) : Xe l M_Ru_step 41 0 0 NF 62 [some (.inr (0, a)), some (.inl x1), some (.inl x2), some (.inl x3), some (.inl x4), none, none, none, none] [] 0 0 Γ δ (none, Γ, r) := by
  unfold F_Ru_step_62 at h
  have oa := hG.ob ha
  refine x_ic (v := 0) d_Ru_step_62 (by decide) ?_
  exact j_Ru_step_63 hG a x1 ha x2 x3 x4 0 δ r h
def F_Ru_step (a : Nat) (x1 : Int32) (δ : Dl) : Option (Dl) :=
  if x1 < 0 then (some δ) else (if x1 < 6 then (if inb x1 6 then (F_Pr_actorOf (wsr 40 a) x1 δ).bind fun v23 => (F_Pr_kindOf (wsr 40 a) (δ.2.1 47 a x1) δ).bind fun v32 => bnd (sI δ 53 a 0) fun δ39 => if v32 = 10 then (if inb x1 6 then if (δ39.2.1 48 a x1) = 0 then (F_Ru_step_63 a x1 ((δ.2.1 47 a x1)) v23 v32 1 δ39) else (F_Ru_step_62 a x1 ((δ.2.1 47 a x1)) v23 v32 δ39) else none) else (F_Ru_step_62 a x1 ((δ.2.1 47 a x1)) v23 v32 δ39) else none) else (some δ))
set_option maxRecDepth 20000 in
set_option maxHeartbeats 4000000 in
theorem c_Ru_step {l : Launch} {Γ : Gm} (hG : GC Γ) (a : Nat) (x1 : Int32) (ha : Oc a 5) (δ : Dl) (r : Dl) (h : F_Ru_step a x1  δ = some r) : Ct l M_Ru_step 41 0 0 NF [.inr (0, a), .inl x1] Γ δ (none, Γ, r) := by
  unfold F_Ru_step at h
  have oa := hG.ob ha
  refine Ct.of2 (n := 7) (ls := [some (.inr (0, a)), some (.inl x1), none, none, none, none, none, none, none]) rfl (by decide +kernel) (Nat.le_of_ble_eq_true rfl) ?_
  refine x_iload_n (i := 1) d_Ru_step_0 rfl rfl ?_
  refine x_if_lt (tgt := 10) d_Ru_step_1 (by decide) (fun c1 => ?_) (fun c1 => ?_)
  · have h := if_t c1 h
    replace h := Option.some.inj h; subst h
    exact x_vret rfl d_Ru_step_10 (Nat.le_refl 0) (Nat.le_refl 0)
  · have h := if_f c1 h
    refine x_iload_n (i := 1) d_Ru_step_4 rfl rfl ?_
    refine x_bi (v := 6) d_Ru_step_5 (by decide) ?_
    refine x_cmp_lt (tgt := 11) d_Ru_step_7 (by decide) (fun c7 => ?_) (fun c7 => ?_)
    · have h := if_t c7 h
      refine x_aload_n (i := 0) d_Ru_step_11 rfl rfl ?_
      refine x_getA (f := 47) gl_Ru_43_5 rfl (by rw [kf_47]; decide) oa d_Ru_step_12 ?_
      refine x_iload_n (i := 1) d_Ru_step_15 rfl rfl ?_
      obtain ⟨g16, h⟩ := gd_e h
      refine x_iald (n := 6) kf_47 (oz_47 oa) (ln_47 _) g16 d_Ru_step_16 ?_
      refine x_stn (i := 2) (ls' := [some (.inr (0, a)), some (.inl x1), some (.inl (δ.2.1 47 a x1)), none, none, none, none, none, none]) d_Ru_step_17 rfl (by decide) rfl ?_
      refine x_aload_n (i := 0) d_Ru_step_18 rfl rfl ?_
      refine x_getS (f := 40) (b := (wsr 40 a)) gl_Ru_12_5 rfl kf_40 rfl oa d_Ru_step_19 ?_
      refine x_iload_n (i := 1) d_Ru_step_22 rfl rfl ?_
      obtain ⟨v23, ev23, h⟩ := bd_e h
      refine y_V1 cs_Ru_94 rfl (hG.ob (run_prog a ha)) (by first | decide | omega) (Nat.le_of_ble_eq_true rfl) d_Ru_step_23 (c_Pr_actorOf hG (wsr 40 a) x1 (run_prog a ha) δ v23 ev23) (Nat.le_refl 0) (Nat.le_refl 0) ?_
      refine x_stn (i := 3) (ls' := [some (.inr (0, a)), some (.inl x1), some (.inl (δ.2.1 47 a x1)), some (.inl v23), none, none, none, none, none]) d_Ru_step_26 rfl (by decide) rfl ?_
      refine x_aload_n (i := 0) d_Ru_step_27 rfl rfl ?_
      refine x_getS (f := 40) (b := (wsr 40 a)) gl_Ru_12_5 rfl kf_40 rfl oa d_Ru_step_28 ?_
      refine x_iload_n (i := 2) d_Ru_step_31 rfl rfl ?_
      obtain ⟨v32, ev32, h⟩ := bd_e h
      refine y_V1 cs_Ru_109 rfl (hG.ob (run_prog a ha)) (by first | decide | omega) (Nat.le_of_ble_eq_true rfl) d_Ru_step_32 (c_Pr_kindOf hG (wsr 40 a) (δ.2.1 47 a x1) (run_prog a ha) δ v32 ev32) (Nat.le_refl 0) (Nat.le_refl 0) ?_
      refine x_stw (i := 4) (ls' := [some (.inr (0, a)), some (.inl x1), some (.inl (δ.2.1 47 a x1)), some (.inl v23), some (.inl v32), none, none, none, none]) d_Ru_step_35 (by decide) rfl ?_
      refine x_aload_n (i := 0) d_Ru_step_37 rfl rfl ?_
      refine x_ic (v := 0) d_Ru_step_38 (by decide) ?_
      obtain ⟨δ39, eδ39, h⟩ := bn_e h
      refine x_putI (f := 53) gp_Ru_62_5 rfl kf_53 (fun h => by cases h) rfl rfl oa.1 oa.z d_Ru_step_39 (Xe.cδ eδ39 ?_)
      refine x_iload (i := 4) d_Ru_step_42 rfl ?_
      refine x_bi (v := 10) d_Ru_step_44 (by decide) ?_
      refine x_cmp_ne (tgt := 62) d_Ru_step_46 (by decide) (fun c46 => ?_) (fun c46 => ?_)
      · have h := if_f c46 h
        exact j_Ru_step_62 hG a x1 ha ((δ.2.1 47 a x1)) v23 v32 δ39 r h
      · have h := if_t c46 h
        refine x_aload_n (i := 0) d_Ru_step_49 rfl rfl ?_
        refine x_getA (f := 48) gl_Ru_46_5 rfl (by rw [kf_48]; decide) oa d_Ru_step_50 ?_
        refine x_iload_n (i := 1) d_Ru_step_53 rfl rfl ?_
        obtain ⟨g54, h⟩ := gd_e h
        refine x_zald (n := 6) kf_48 (oz_48 oa) (ln_48 _) g54 d_Ru_step_54 ?_
        refine x_if_ne (tgt := 62) d_Ru_step_55 (by decide) (fun c55 => ?_) (fun c55 => ?_)
        · have h := if_f c55 h
          exact j_Ru_step_62 hG a x1 ha ((δ.2.1 47 a x1)) v23 v32 δ39 r h
        · have h := if_t c55 h
          refine x_ic (v := 1) d_Ru_step_58 (by decide) ?_
          refine x_goto (tgt := 63) d_Ru_step_59 (by decide) ?_
          exact j_Ru_step_63 hG a x1 ha ((δ.2.1 47 a x1)) v23 v32 1 δ39 r h
    · have h := if_f c7 h
      replace h := Option.some.inj h; subst h
      exact x_vret rfl d_Ru_step_10 (Nat.le_refl 0) (Nat.le_refl 0)
-- BlockStage$Run.oneTick()V
theorem d_Ru_oneTick_0 : decode M_Ru_oneTick.2.1 0 = .ok (.aload_n 0, 1) := by decide +kernel
theorem d_Ru_oneTick_1 : decode M_Ru_oneTick.2.1 1 = .ok (.dup, 1) := by decide +kernel
theorem d_Ru_oneTick_2 : decode M_Ru_oneTick.2.1 2 = .ok (.getfield 29, 3) := by decide +kernel
theorem d_Ru_oneTick_5 : decode M_Ru_oneTick.2.1 5 = .ok (.iconst 1, 1) := by decide +kernel
theorem d_Ru_oneTick_6 : decode M_Ru_oneTick.2.1 6 = .ok (.iadd, 1) := by decide +kernel
theorem d_Ru_oneTick_7 : decode M_Ru_oneTick.2.1 7 = .ok (.putfield 29, 3) := by decide +kernel
theorem d_Ru_oneTick_10 : decode M_Ru_oneTick.2.1 10 = .ok (.aload_n 0, 1) := by decide +kernel
theorem d_Ru_oneTick_11 : decode M_Ru_oneTick.2.1 11 = .ok (.aload_n 0, 1) := by decide +kernel
theorem d_Ru_oneTick_12 : decode M_Ru_oneTick.2.1 12 = .ok (.getfield 56, 3) := by decide +kernel
theorem d_Ru_oneTick_15 : decode M_Ru_oneTick.2.1 15 = .ok (.putfield 59, 3) := by decide +kernel
theorem d_Ru_oneTick_18 : decode M_Ru_oneTick.2.1 18 = .ok (.aload_n 0, 1) := by decide +kernel
theorem d_Ru_oneTick_19 : decode M_Ru_oneTick.2.1 19 = .ok (.iconst 0, 1) := by decide +kernel
theorem d_Ru_oneTick_20 : decode M_Ru_oneTick.2.1 20 = .ok (.putfield 56, 3) := by decide +kernel
theorem d_Ru_oneTick_23 : decode M_Ru_oneTick.2.1 23 = .ok (.iconst 0, 1) := by decide +kernel
theorem d_Ru_oneTick_24 : decode M_Ru_oneTick.2.1 24 = .ok (.istore_n 1, 1) := by decide +kernel
theorem d_Ru_oneTick_25 : decode M_Ru_oneTick.2.1 25 = .ok (.iload_n 1, 1) := by decide +kernel
theorem d_Ru_oneTick_26 : decode M_Ru_oneTick.2.1 26 = .ok (.aload_n 0, 1) := by decide +kernel
theorem d_Ru_oneTick_27 : decode M_Ru_oneTick.2.1 27 = .ok (.getfield 12, 3) := by decide +kernel
theorem d_Ru_oneTick_30 : decode M_Ru_oneTick.2.1 30 = .ok (.getfield 76, 3) := by decide +kernel
theorem d_Ru_oneTick_33 : decode M_Ru_oneTick.2.1 33 = .ok (.if_icmp .ge 88, 3) := by decide +kernel
theorem d_Ru_oneTick_36 : decode M_Ru_oneTick.2.1 36 = .ok (.iload_n 1, 1) := by decide +kernel
theorem d_Ru_oneTick_37 : decode M_Ru_oneTick.2.1 37 = .ok (.bipush 6, 2) := by decide +kernel
theorem d_Ru_oneTick_39 : decode M_Ru_oneTick.2.1 39 = .ok (.if_icmp .ge 82, 3) := by decide +kernel
theorem d_Ru_oneTick_42 : decode M_Ru_oneTick.2.1 42 = .ok (.aload_n 0, 1) := by decide +kernel
theorem d_Ru_oneTick_43 : decode M_Ru_oneTick.2.1 43 = .ok (.getfield 40, 3) := by decide +kernel
theorem d_Ru_oneTick_46 : decode M_Ru_oneTick.2.1 46 = .ok (.iload_n 1, 1) := by decide +kernel
theorem d_Ru_oneTick_47 : decode M_Ru_oneTick.2.1 47 = .ok (.iaload, 1) := by decide +kernel
theorem d_Ru_oneTick_48 : decode M_Ru_oneTick.2.1 48 = .ok (.iconst 2, 1) := by decide +kernel
theorem d_Ru_oneTick_49 : decode M_Ru_oneTick.2.1 49 = .ok (.if_icmp .eq 66, 3) := by decide +kernel
theorem d_Ru_oneTick_52 : decode M_Ru_oneTick.2.1 52 = .ok (.aload_n 0, 1) := by decide +kernel
theorem d_Ru_oneTick_53 : decode M_Ru_oneTick.2.1 53 = .ok (.iload_n 1, 1) := by decide +kernel
theorem d_Ru_oneTick_54 : decode M_Ru_oneTick.2.1 54 = .ok (.invokevirtual 79, 3) := by decide +kernel
theorem d_Ru_oneTick_57 : decode M_Ru_oneTick.2.1 57 = .ok (.ifCond .ne 6, 3) := by decide +kernel
theorem d_Ru_oneTick_60 : decode M_Ru_oneTick.2.1 60 = .ok (.goto 55, 3) := by decide +kernel
theorem d_Ru_oneTick_63 : decode M_Ru_oneTick.2.1 63 = .ok (.aload_n 0, 1) := by decide +kernel
theorem d_Ru_oneTick_64 : decode M_Ru_oneTick.2.1 64 = .ok (.getfield 40, 3) := by decide +kernel
theorem d_Ru_oneTick_67 : decode M_Ru_oneTick.2.1 67 = .ok (.iload_n 1, 1) := by decide +kernel
theorem d_Ru_oneTick_68 : decode M_Ru_oneTick.2.1 68 = .ok (.iaload, 1) := by decide +kernel
theorem d_Ru_oneTick_69 : decode M_Ru_oneTick.2.1 69 = .ok (.iconst 1, 1) := by decide +kernel
theorem d_Ru_oneTick_70 : decode M_Ru_oneTick.2.1 70 = .ok (.if_icmp .ne 17, 3) := by decide +kernel
theorem d_Ru_oneTick_73 : decode M_Ru_oneTick.2.1 73 = .ok (.aload_n 0, 1) := by decide +kernel
theorem d_Ru_oneTick_74 : decode M_Ru_oneTick.2.1 74 = .ok (.getfield 12, 3) := by decide +kernel
theorem d_Ru_oneTick_77 : decode M_Ru_oneTick.2.1 77 = .ok (.iload_n 1, 1) := by decide +kernel
theorem d_Ru_oneTick_78 : decode M_Ru_oneTick.2.1 78 = .ok (.invokevirtual 83, 3) := by decide +kernel
theorem d_Ru_oneTick_81 : decode M_Ru_oneTick.2.1 81 = .ok (.ifCond .ne 6, 3) := by decide +kernel
theorem d_Ru_oneTick_84 : decode M_Ru_oneTick.2.1 84 = .ok (.goto 31, 3) := by decide +kernel
theorem d_Ru_oneTick_87 : decode M_Ru_oneTick.2.1 87 = .ok (.aload_n 0, 1) := by decide +kernel
theorem d_Ru_oneTick_88 : decode M_Ru_oneTick.2.1 88 = .ok (.getfield 40, 3) := by decide +kernel
theorem d_Ru_oneTick_91 : decode M_Ru_oneTick.2.1 91 = .ok (.iload_n 1, 1) := by decide +kernel
theorem d_Ru_oneTick_92 : decode M_Ru_oneTick.2.1 92 = .ok (.iconst 1, 1) := by decide +kernel
theorem d_Ru_oneTick_93 : decode M_Ru_oneTick.2.1 93 = .ok (.iastore, 1) := by decide +kernel
theorem d_Ru_oneTick_94 : decode M_Ru_oneTick.2.1 94 = .ok (.aload_n 0, 1) := by decide +kernel
theorem d_Ru_oneTick_95 : decode M_Ru_oneTick.2.1 95 = .ok (.getfield 43, 3) := by decide +kernel
theorem d_Ru_oneTick_98 : decode M_Ru_oneTick.2.1 98 = .ok (.iload_n 1, 1) := by decide +kernel
theorem d_Ru_oneTick_99 : decode M_Ru_oneTick.2.1 99 = .ok (.aload_n 0, 1) := by decide +kernel
theorem d_Ru_oneTick_100 : decode M_Ru_oneTick.2.1 100 = .ok (.getfield 12, 3) := by decide +kernel
theorem d_Ru_oneTick_103 : decode M_Ru_oneTick.2.1 103 = .ok (.iload_n 1, 1) := by decide +kernel
theorem d_Ru_oneTick_104 : decode M_Ru_oneTick.2.1 104 = .ok (.invokevirtual 86, 3) := by decide +kernel
theorem d_Ru_oneTick_107 : decode M_Ru_oneTick.2.1 107 = .ok (.iastore, 1) := by decide +kernel
theorem d_Ru_oneTick_108 : decode M_Ru_oneTick.2.1 108 = .ok (.aload_n 0, 1) := by decide +kernel
theorem d_Ru_oneTick_109 : decode M_Ru_oneTick.2.1 109 = .ok (.getfield 46, 3) := by decide +kernel
theorem d_Ru_oneTick_112 : decode M_Ru_oneTick.2.1 112 = .ok (.iload_n 1, 1) := by decide +kernel
theorem d_Ru_oneTick_113 : decode M_Ru_oneTick.2.1 113 = .ok (.iconst 1, 1) := by decide +kernel
theorem d_Ru_oneTick_114 : decode M_Ru_oneTick.2.1 114 = .ok (.bastore, 1) := by decide +kernel
theorem d_Ru_oneTick_115 : decode M_Ru_oneTick.2.1 115 = .ok (.iinc 1 1, 3) := by decide +kernel
theorem d_Ru_oneTick_118 : decode M_Ru_oneTick.2.1 118 = .ok (.goto (-93), 3) := by decide +kernel
theorem d_Ru_oneTick_121 : decode M_Ru_oneTick.2.1 121 = .ok (.iconst 0, 1) := by decide +kernel
theorem d_Ru_oneTick_122 : decode M_Ru_oneTick.2.1 122 = .ok (.istore_n 1, 1) := by decide +kernel
theorem d_Ru_oneTick_123 : decode M_Ru_oneTick.2.1 123 = .ok (.iload_n 1, 1) := by decide +kernel
theorem d_Ru_oneTick_124 : decode M_Ru_oneTick.2.1 124 = .ok (.aload_n 0, 1) := by decide +kernel
theorem d_Ru_oneTick_125 : decode M_Ru_oneTick.2.1 125 = .ok (.getfield 12, 3) := by decide +kernel
theorem d_Ru_oneTick_128 : decode M_Ru_oneTick.2.1 128 = .ok (.getfield 76, 3) := by decide +kernel
theorem d_Ru_oneTick_131 : decode M_Ru_oneTick.2.1 131 = .ok (.if_icmp .ge 30, 3) := by decide +kernel
theorem d_Ru_oneTick_134 : decode M_Ru_oneTick.2.1 134 = .ok (.iload_n 1, 1) := by decide +kernel
theorem d_Ru_oneTick_135 : decode M_Ru_oneTick.2.1 135 = .ok (.bipush 6, 2) := by decide +kernel
theorem d_Ru_oneTick_137 : decode M_Ru_oneTick.2.1 137 = .ok (.if_icmp .ge 24, 3) := by decide +kernel
theorem d_Ru_oneTick_140 : decode M_Ru_oneTick.2.1 140 = .ok (.aload_n 0, 1) := by decide +kernel
theorem d_Ru_oneTick_141 : decode M_Ru_oneTick.2.1 141 = .ok (.getfield 40, 3) := by decide +kernel
theorem d_Ru_oneTick_144 : decode M_Ru_oneTick.2.1 144 = .ok (.iload_n 1, 1) := by decide +kernel
theorem d_Ru_oneTick_145 : decode M_Ru_oneTick.2.1 145 = .ok (.iaload, 1) := by decide +kernel
theorem d_Ru_oneTick_146 : decode M_Ru_oneTick.2.1 146 = .ok (.iconst 1, 1) := by decide +kernel
theorem d_Ru_oneTick_147 : decode M_Ru_oneTick.2.1 147 = .ok (.if_icmp .ne 8, 3) := by decide +kernel
theorem d_Ru_oneTick_150 : decode M_Ru_oneTick.2.1 150 = .ok (.aload_n 0, 1) := by decide +kernel
theorem d_Ru_oneTick_151 : decode M_Ru_oneTick.2.1 151 = .ok (.iload_n 1, 1) := by decide +kernel
theorem d_Ru_oneTick_152 : decode M_Ru_oneTick.2.1 152 = .ok (.invokevirtual 90, 3) := by decide +kernel
theorem d_Ru_oneTick_155 : decode M_Ru_oneTick.2.1 155 = .ok (.iinc 1 1, 3) := by decide +kernel
theorem d_Ru_oneTick_158 : decode M_Ru_oneTick.2.1 158 = .ok (.goto (-35), 3) := by decide +kernel
theorem d_Ru_oneTick_161 : decode M_Ru_oneTick.2.1 161 = .ok (.return_, 1) := by decide +kernel
theorem gl_Ru_76_3 : GL RX5 76 3 1 := ⟨RX3, TX3, 5, RX3, rfl, by decide, (lwg_at 38 (by decide +kernel) rfl), Or.inl rfl, gl_w inX3⟩
theorem mi_Ru_isHit : MI M_Ru_isHit 1 := ⟨(lwg_at 5 (by decide +kernel) rfl), (lwg_at 557 (by decide +kernel) rfl), ⟨by decide +kernel, by decide +kernel⟩, by decide +kernel, by decide⟩
theorem cs_Ru_79 : CV RX5 79 RX5 M_Ru_isHit 1 := ⟨(lwg_at 554 (by decide +kernel) rfl), (lwg_at 556 (by decide +kernel) rfl), (lwg_priv 3 (y := M_Ru_isHit.1) (n := 14) (by decide +kernel)), mi_Ru_isHit⟩
theorem mi_Pr_isAgain : MI M_Pr_isAgain 1 := ⟨(lwg_at 2 (by decide +kernel) rfl), (lwg_at 582 (by decide +kernel) rfl), ⟨by decide +kernel, by decide +kernel⟩, by decide +kernel, by decide⟩
theorem cs_Ru_83 : CV RX5 83 RX3 M_Pr_isAgain 1 := ⟨(lwg_at 579 (by decide +kernel) rfl), (lwg_at 580 (by decide +kernel) rfl), (lwg_at 581 (by decide +kernel) rfl), mi_Pr_isAgain⟩
theorem mi_Ru_step : MI M_Ru_step 1 := ⟨(lwg_at 5 (by decide +kernel) rfl), (lwg_at 586 (by decide +kernel) rfl), ⟨by decide +kernel, by decide +kernel⟩, by decide +kernel, by decide⟩
theorem cs_Ru_90 : CV RX5 90 RX5 M_Ru_step 1 := ⟨(lwg_at 583 (by decide +kernel) rfl), (lwg_at 585 (by decide +kernel) rfl), (lwg_priv 4 (y := M_Ru_step.1) (n := 14) (by decide +kernel)), mi_Ru_step⟩
def F_Ru_oneTick_155 (a : Nat) (k123 : Int32 → Dl → Option (Dl)) (x1 : Int32) (δ : Dl) : Option (Dl) :=
  k123 ((x1 + 1)) δ
set_option maxRecDepth 20000 in
set_option maxHeartbeats 4000000 in
theorem j_Ru_oneTick_155 {l : Launch} {Γ : Gm} (hG : GC Γ) (a : Nat) (ha : Oc a 5) (k123 : Int32 → Dl → Option (Dl)) (x1 : Int32) (δ : Dl) (r : Dl) (hk123 : ∀ (x1 : Int32) (δ : Dl),  k123 x1 δ = some r → Xe l M_Ru_oneTick 42 0 0 NF 123 [some (.inr (0, a)), some (.inl x1)] [] 0 0 Γ δ (none, Γ, r)) (h : F_Ru_oneTick_155 a k123 x1 δ = some r) : Xe l M_Ru_oneTick 42 0 0 NF 155 [some (.inr (0, a)), some (.inl x1)] [] 0 0 Γ δ (none, Γ, r) := by
  unfold F_Ru_oneTick_155 at h
  have oa := hG.ob ha
  refine x_inc (i := 1) (c0 := 1) (ls' := [some (.inr (0, a)), some (.inl (x1 + 1))]) d_Ru_oneTick_155 (by decide) rfl (by decide) rfl ?_
  refine x_goto (tgt := 123) d_Ru_oneTick_158 (by decide) ?_
  exact hk123 ((x1 + 1)) δ h
def F_Ru_oneTick_123_b (a : Nat) (k123 : Int32 → Dl → Option (Dl)) (x1 : Int32) (δ : Dl) : Option (Dl) :=
  if (δ.1 31 (wsr 40 a)) ≤ x1 then (some δ) else (if 6 ≤ x1 then (some δ) else (if inb x1 6 then if (δ.2.1 46 a x1) = 1 then ((F_Ru_step a x1 δ).bind fun δ152 => F_Ru_oneTick_155 a k123 x1 δ152) else (F_Ru_oneTick_155 a k123 x1 δ) else none))
set_option maxRecDepth 20000 in
set_option maxHeartbeats 4000000 in
theorem j_Ru_oneTick_123_b {l : Launch} {Γ : Gm} (hG : GC Γ) (a : Nat) (ha : Oc a 5) (k123 : Int32 → Dl → Option (Dl)) (x1 : Int32) (δ : Dl) (r : Dl) (hk123 : ∀ (x1 : Int32) (δ : Dl),  k123 x1 δ = some r → Xe l M_Ru_oneTick 42 0 0 NF 123 [some (.inr (0, a)), some (.inl x1)] [] 0 0 Γ δ (none, Γ, r)) (h : F_Ru_oneTick_123_b a k123 x1 δ = some r) : Xe l M_Ru_oneTick 42 0 0 NF 123 [some (.inr (0, a)), some (.inl x1)] [] 0 0 Γ δ (none, Γ, r) := by
  unfold F_Ru_oneTick_123_b at h
  have oa := hG.ob ha
  refine x_iload_n (i := 1) d_Ru_oneTick_123 rfl rfl ?_
  refine x_aload_n (i := 0) d_Ru_oneTick_124 rfl rfl ?_
  refine x_getS (f := 40) (b := (wsr 40 a)) gl_Ru_12_5 rfl kf_40 rfl oa d_Ru_oneTick_125 ?_
  refine x_getI (f := 31) gl_Ru_76_3 rfl kf_31 (hG.ob (run_prog a ha)) d_Ru_oneTick_128 ?_
  refine x_cmp_ge (tgt := 161) d_Ru_oneTick_131 (by decide) (fun c131 => ?_) (fun c131 => ?_)
  · have h := if_t c131 h
    replace h := Option.some.inj h; subst h
    exact x_vret rfl d_Ru_oneTick_161 (Nat.le_refl 0) (Nat.le_refl 0)
  · have h := if_f c131 h
    refine x_iload_n (i := 1) d_Ru_oneTick_134 rfl rfl ?_
    refine x_bi (v := 6) d_Ru_oneTick_135 (by decide) ?_
    refine x_cmp_ge (tgt := 161) d_Ru_oneTick_137 (by decide) (fun c137 => ?_) (fun c137 => ?_)
    · have h := if_t c137 h
      replace h := Option.some.inj h; subst h
      exact x_vret rfl d_Ru_oneTick_161 (Nat.le_refl 0) (Nat.le_refl 0)
    · have h := if_f c137 h
      refine x_aload_n (i := 0) d_Ru_oneTick_140 rfl rfl ?_
      refine x_getA (f := 46) gl_Ru_40_5 rfl (by rw [kf_46]; decide) oa d_Ru_oneTick_141 ?_
      refine x_iload_n (i := 1) d_Ru_oneTick_144 rfl rfl ?_
      obtain ⟨g145, h⟩ := gd_e h
      refine x_iald (n := 6) kf_46 (oz_46 oa) (ln_46 _) g145 d_Ru_oneTick_145 ?_
      refine x_ic (v := 1) d_Ru_oneTick_146 (by decide) ?_
      refine x_cmp_ne (tgt := 155) d_Ru_oneTick_147 (by decide) (fun c147 => ?_) (fun c147 => ?_)
      · have h := if_f c147 h
        exact j_Ru_oneTick_155 hG a ha k123 x1 δ r hk123 h
      · have h := if_t c147 h
        refine x_aload_n (i := 0) d_Ru_oneTick_150 rfl rfl ?_
        refine x_iload_n (i := 1) d_Ru_oneTick_151 rfl rfl ?_
        obtain ⟨δ152, eδ152, h⟩ := bd_e h
        refine y_V1v cs_Ru_90 rfl oa (by first | decide | omega) (Nat.le_of_ble_eq_true rfl) d_Ru_oneTick_152 (c_Ru_step hG a x1 ha δ δ152 eδ152) (Nat.le_refl 0) (Nat.le_refl 0) ?_
        exact j_Ru_oneTick_155 hG a ha k123 x1 δ152 r hk123 h
def F_Ru_oneTick_123 (a : Nat) : Nat → Int32 → Dl → Option (Dl)
  | 0, _, _ => none
  | n + 1, x1, δ => F_Ru_oneTick_123_b a (F_Ru_oneTick_123 a n) x1 δ
theorem j_Ru_oneTick_123 {l : Launch} {Γ : Gm} (hG : GC Γ) (a : Nat) (ha : Oc a 5) (n : Nat) (x1 : Int32) (δ : Dl) (r : Dl) (h : F_Ru_oneTick_123 a n x1 δ = some r) : Xe l M_Ru_oneTick 42 0 0 NF 123 [some (.inr (0, a)), some (.inl x1)] [] 0 0 Γ δ (none, Γ, r) := by
  induction n generalizing x1 δ with
  | zero => cases h
  | succ n ih => exact j_Ru_oneTick_123_b hG a ha (F_Ru_oneTick_123 a n) x1 δ r (fun x1 δ hh => ih x1 δ hh) h
def F_Ru_oneTick_121 (a : Nat) (δ : Dl) : Option (Dl) :=
  F_Ru_oneTick_123 a FU 0 δ
set_option maxRecDepth 20000 in
set_option maxHeartbeats 4000000 in
theorem j_Ru_oneTick_121 {l : Launch} {Γ : Gm} (hG : GC Γ) (a : Nat) (ha : Oc a 5) (δ : Dl) (r : Dl) (h : F_Ru_oneTick_121 a  δ = some r) : Xe l M_Ru_oneTick 42 0 0 NF 121 [some (.inr (0, a)), none] [] 0 0 Γ δ (none, Γ, r) := by
  unfold F_Ru_oneTick_121 at h
  have oa := hG.ob ha
  refine x_ic (v := 0) d_Ru_oneTick_121 (by decide) ?_
  refine x_stn (i := 1) (ls' := [some (.inr (0, a)), some (.inl 0)]) d_Ru_oneTick_122 rfl (by decide) rfl ?_
  exact j_Ru_oneTick_123 hG a ha FU 0 δ r h
def F_Ru_oneTick_115 (a : Nat) (k25 : Int32 → Dl → Option (Dl)) (x1 : Int32) (δ : Dl) : Option (Dl) :=
  k25 ((x1 + 1)) δ
set_option maxRecDepth 20000 in
set_option maxHeartbeats 4000000 in
theorem j_Ru_oneTick_115 {l : Launch} {Γ : Gm} (hG : GC Γ) (a : Nat) (ha : Oc a 5) (k25 : Int32 → Dl → Option (Dl)) (x1 : Int32) (δ : Dl) (r : Dl) (hk25 : ∀ (x1 : Int32) (δ : Dl),  k25 x1 δ = some r → Xe l M_Ru_oneTick 42 0 0 NF 25 [some (.inr (0, a)), some (.inl x1)] [] 0 0 Γ δ (none, Γ, r)) (h : F_Ru_oneTick_115 a k25 x1 δ = some r) : Xe l M_Ru_oneTick 42 0 0 NF 115 [some (.inr (0, a)), some (.inl x1)] [] 0 0 Γ δ (none, Γ, r) := by
  unfold F_Ru_oneTick_115 at h
  have oa := hG.ob ha
  refine x_inc (i := 1) (c0 := 1) (ls' := [some (.inr (0, a)), some (.inl (x1 + 1))]) d_Ru_oneTick_115 (by decide) rfl (by decide) rfl ?_
  refine x_goto (tgt := 25) d_Ru_oneTick_118 (by decide) ?_
  exact hk25 ((x1 + 1)) δ h
def F_Ru_oneTick_87 (a : Nat) (k25 : Int32 → Dl → Option (Dl)) (x1 : Int32) (δ : Dl) : Option (Dl) :=
  if inb x1 6 then bnd (sA δ 46 a x1 1) fun δ93 => (F_Pr_topOf (wsr 40 a) x1 δ93).bind fun v104 => if inb x1 6 then bnd (sA δ93 47 a x1 v104) fun δ107 => if inb x1 6 then bnd (sA δ107 48 a x1 (1 &&& 1)) fun δ114 => F_Ru_oneTick_115 a k25 x1 δ114 else none else none else none
set_option maxRecDepth 20000 in
set_option maxHeartbeats 4000000 in
theorem j_Ru_oneTick_87 {l : Launch} {Γ : Gm} (hG : GC Γ) (a : Nat) (ha : Oc a 5) (k25 : Int32 → Dl → Option (Dl)) (x1 : Int32) (δ : Dl) (r : Dl) (hk25 : ∀ (x1 : Int32) (δ : Dl),  k25 x1 δ = some r → Xe l M_Ru_oneTick 42 0 0 NF 25 [some (.inr (0, a)), some (.inl x1)] [] 0 0 Γ δ (none, Γ, r)) (h : F_Ru_oneTick_87 a k25 x1 δ = some r) : Xe l M_Ru_oneTick 42 0 0 NF 87 [some (.inr (0, a)), some (.inl x1)] [] 0 0 Γ δ (none, Γ, r) := by
  unfold F_Ru_oneTick_87 at h
  have oa := hG.ob ha
  refine x_aload_n (i := 0) d_Ru_oneTick_87 rfl rfl ?_
  refine x_getA (f := 46) gl_Ru_40_5 rfl (by rw [kf_46]; decide) oa d_Ru_oneTick_88 ?_
  refine x_iload_n (i := 1) d_Ru_oneTick_91 rfl rfl ?_
  refine x_ic (v := 1) d_Ru_oneTick_92 (by decide) ?_
  obtain ⟨g93, h⟩ := gd_e h
  obtain ⟨δ93, eδ93, h⟩ := bn_e h
  refine x_iast (n := 6) kf_46 (oz_46 oa) (ln_46 _) g93 d_Ru_oneTick_93 (Xe.cδ eδ93 ?_)
  refine x_aload_n (i := 0) d_Ru_oneTick_94 rfl rfl ?_
  refine x_getA (f := 47) gl_Ru_43_5 rfl (by rw [kf_47]; decide) oa d_Ru_oneTick_95 ?_
  refine x_iload_n (i := 1) d_Ru_oneTick_98 rfl rfl ?_
  refine x_aload_n (i := 0) d_Ru_oneTick_99 rfl rfl ?_
  refine x_getS (f := 40) (b := (wsr 40 a)) gl_Ru_12_5 rfl kf_40 rfl oa d_Ru_oneTick_100 ?_
  refine x_iload_n (i := 1) d_Ru_oneTick_103 rfl rfl ?_
  obtain ⟨v104, ev104, h⟩ := bd_e h
  refine y_V1 cs_Ru_86 rfl (hG.ob (run_prog a ha)) (by first | decide | omega) (Nat.le_of_ble_eq_true rfl) d_Ru_oneTick_104 (c_Pr_topOf hG (wsr 40 a) x1 (run_prog a ha) δ93 v104 ev104) (Nat.le_refl 0) (Nat.le_refl 0) ?_
  obtain ⟨g107, h⟩ := gd_e h
  obtain ⟨δ107, eδ107, h⟩ := bn_e h
  refine x_iast (n := 6) kf_47 (oz_47 oa) (ln_47 _) g107 d_Ru_oneTick_107 (Xe.cδ eδ107 ?_)
  refine x_aload_n (i := 0) d_Ru_oneTick_108 rfl rfl ?_
  refine x_getA (f := 48) gl_Ru_46_5 rfl (by rw [kf_48]; decide) oa d_Ru_oneTick_109 ?_
  refine x_iload_n (i := 1) d_Ru_oneTick_112 rfl rfl ?_
  refine x_ic (v := 1) d_Ru_oneTick_113 (by decide) ?_
  obtain ⟨g114, h⟩ := gd_e h
  obtain ⟨δ114, eδ114, h⟩ := bn_e h
  refine x_zast (n := 6) kf_48 (oz_48 oa) (ln_48 _) g114 d_Ru_oneTick_114 (Xe.cδ eδ114 ?_)
  exact j_Ru_oneTick_115 hG a ha k25 x1 δ114 r hk25 h
def F_Ru_oneTick_25_b (a : Nat) (k25 : Int32 → Dl → Option (Dl)) (x1 : Int32) (δ : Dl) : Option (Dl) :=
  if (δ.1 31 (wsr 40 a)) ≤ x1 then (F_Ru_oneTick_121 a δ) else (if 6 ≤ x1 then (F_Ru_oneTick_121 a δ) else (if inb x1 6 then if (δ.2.1 46 a x1) = 2 then (F_Ru_oneTick_115 a k25 x1 δ) else ((F_Ru_isHit a x1 δ).bind fun v54 => if v54 = 0 then (F_Ru_oneTick_115 a k25 x1 δ) else (if inb x1 6 then if (δ.2.1 46 a x1) = 1 then ((F_Pr_isAgain (wsr 40 a) x1 δ).bind fun v78 => if v78 = 0 then (F_Ru_oneTick_115 a k25 x1 δ) else (F_Ru_oneTick_87 a k25 x1 δ)) else (F_Ru_oneTick_87 a k25 x1 δ) else none)) else none))
set_option maxRecDepth 20000 in
set_option maxHeartbeats 4000000 in
theorem j_Ru_oneTick_25_b {l : Launch} {Γ : Gm} (hG : GC Γ) (a : Nat) (ha : Oc a 5) (k25 : Int32 → Dl → Option (Dl)) (x1 : Int32) (δ : Dl) (r : Dl) (hk25 : ∀ (x1 : Int32) (δ : Dl),  k25 x1 δ = some r → Xe l M_Ru_oneTick 42 0 0 NF 25 [some (.inr (0, a)), some (.inl x1)] [] 0 0 Γ δ (none, Γ, r)) (h : F_Ru_oneTick_25_b a k25 x1 δ = some r) : Xe l M_Ru_oneTick 42 0 0 NF 25 [some (.inr (0, a)), some (.inl x1)] [] 0 0 Γ δ (none, Γ, r) := by
  unfold F_Ru_oneTick_25_b at h
  have oa := hG.ob ha
  refine x_iload_n (i := 1) d_Ru_oneTick_25 rfl rfl ?_
  refine x_aload_n (i := 0) d_Ru_oneTick_26 rfl rfl ?_
  refine x_getS (f := 40) (b := (wsr 40 a)) gl_Ru_12_5 rfl kf_40 rfl oa d_Ru_oneTick_27 ?_
  refine x_getI (f := 31) gl_Ru_76_3 rfl kf_31 (hG.ob (run_prog a ha)) d_Ru_oneTick_30 ?_
  refine x_cmp_ge (tgt := 121) d_Ru_oneTick_33 (by decide) (fun c33 => ?_) (fun c33 => ?_)
  · have h := if_t c33 h
    refine x_wk (ls' := [some (.inr (0, a)), none]) ⟨Or.inr rfl, Or.inl rfl, trivial⟩ ?_
    exact j_Ru_oneTick_121 hG a ha  δ r h
  · have h := if_f c33 h
    refine x_iload_n (i := 1) d_Ru_oneTick_36 rfl rfl ?_
    refine x_bi (v := 6) d_Ru_oneTick_37 (by decide) ?_
    refine x_cmp_ge (tgt := 121) d_Ru_oneTick_39 (by decide) (fun c39 => ?_) (fun c39 => ?_)
    · have h := if_t c39 h
      refine x_wk (ls' := [some (.inr (0, a)), none]) ⟨Or.inr rfl, Or.inl rfl, trivial⟩ ?_
      exact j_Ru_oneTick_121 hG a ha  δ r h
    · have h := if_f c39 h
      refine x_aload_n (i := 0) d_Ru_oneTick_42 rfl rfl ?_
      refine x_getA (f := 46) gl_Ru_40_5 rfl (by rw [kf_46]; decide) oa d_Ru_oneTick_43 ?_
      refine x_iload_n (i := 1) d_Ru_oneTick_46 rfl rfl ?_
      obtain ⟨g47, h⟩ := gd_e h
      refine x_iald (n := 6) kf_46 (oz_46 oa) (ln_46 _) g47 d_Ru_oneTick_47 ?_
      refine x_ic (v := 2) d_Ru_oneTick_48 (by decide) ?_
      refine x_cmp_eq (tgt := 115) d_Ru_oneTick_49 (by decide) (fun c49 => ?_) (fun c49 => ?_)
      · have h := if_t c49 h
        exact j_Ru_oneTick_115 hG a ha k25 x1 δ r hk25 h
      · have h := if_f c49 h
        refine x_aload_n (i := 0) d_Ru_oneTick_52 rfl rfl ?_
        refine x_iload_n (i := 1) d_Ru_oneTick_53 rfl rfl ?_
        obtain ⟨v54, ev54, h⟩ := bd_e h
        refine y_V1 cs_Ru_79 rfl oa (by first | decide | omega) (Nat.le_of_ble_eq_true rfl) d_Ru_oneTick_54 (c_Ru_isHit hG a x1 ha δ v54 ev54) (Nat.le_refl 0) (Nat.le_refl 0) ?_
        refine x_if_ne (tgt := 63) d_Ru_oneTick_57 (by decide) (fun c57 => ?_) (fun c57 => ?_)
        · have h := if_f c57 h
          refine x_aload_n (i := 0) d_Ru_oneTick_63 rfl rfl ?_
          refine x_getA (f := 46) gl_Ru_40_5 rfl (by rw [kf_46]; decide) oa d_Ru_oneTick_64 ?_
          refine x_iload_n (i := 1) d_Ru_oneTick_67 rfl rfl ?_
          obtain ⟨g68, h⟩ := gd_e h
          refine x_iald (n := 6) kf_46 (oz_46 oa) (ln_46 _) g68 d_Ru_oneTick_68 ?_
          refine x_ic (v := 1) d_Ru_oneTick_69 (by decide) ?_
          refine x_cmp_ne (tgt := 87) d_Ru_oneTick_70 (by decide) (fun c70 => ?_) (fun c70 => ?_)
          · have h := if_f c70 h
            exact j_Ru_oneTick_87 hG a ha k25 x1 δ r hk25 h
          · have h := if_t c70 h
            refine x_aload_n (i := 0) d_Ru_oneTick_73 rfl rfl ?_
            refine x_getS (f := 40) (b := (wsr 40 a)) gl_Ru_12_5 rfl kf_40 rfl oa d_Ru_oneTick_74 ?_
            refine x_iload_n (i := 1) d_Ru_oneTick_77 rfl rfl ?_
            obtain ⟨v78, ev78, h⟩ := bd_e h
            refine y_V1 cs_Ru_83 rfl (hG.ob (run_prog a ha)) (by first | decide | omega) (Nat.le_of_ble_eq_true rfl) d_Ru_oneTick_78 (c_Pr_isAgain hG (wsr 40 a) x1 (run_prog a ha) δ v78 ev78) (Nat.le_refl 0) (Nat.le_refl 0) ?_
            refine x_if_ne (tgt := 87) d_Ru_oneTick_81 (by decide) (fun c81 => ?_) (fun c81 => ?_)
            · have h := if_f c81 h
              exact j_Ru_oneTick_87 hG a ha k25 x1 δ r hk25 h
            · have h := if_t c81 h
              refine x_goto (tgt := 115) d_Ru_oneTick_84 (by decide) ?_
              exact j_Ru_oneTick_115 hG a ha k25 x1 δ r hk25 h
        · have h := if_t c57 h
          refine x_goto (tgt := 115) d_Ru_oneTick_60 (by decide) ?_
          exact j_Ru_oneTick_115 hG a ha k25 x1 δ r hk25 h
def F_Ru_oneTick_25 (a : Nat) : Nat → Int32 → Dl → Option (Dl)
  | 0, _, _ => none
  | n + 1, x1, δ => F_Ru_oneTick_25_b a (F_Ru_oneTick_25 a n) x1 δ
theorem j_Ru_oneTick_25 {l : Launch} {Γ : Gm} (hG : GC Γ) (a : Nat) (ha : Oc a 5) (n : Nat) (x1 : Int32) (δ : Dl) (r : Dl) (h : F_Ru_oneTick_25 a n x1 δ = some r) : Xe l M_Ru_oneTick 42 0 0 NF 25 [some (.inr (0, a)), some (.inl x1)] [] 0 0 Γ δ (none, Γ, r) := by
  induction n generalizing x1 δ with
  | zero => cases h
  | succ n ih => exact j_Ru_oneTick_25_b hG a ha (F_Ru_oneTick_25 a n) x1 δ r (fun x1 δ hh => ih x1 δ hh) h
def F_Ru_oneTick (a : Nat) (δ : Dl) : Option (Dl) :=
  bnd (sI δ 43 a ((δ.1 43 a) + 1)) fun δ7 => bnd (sI δ7 52 a (δ7.1 51 a)) fun δ15 => bnd (sI δ15 51 a 0) fun δ20 => F_Ru_oneTick_25 a FU 0 δ20
set_option maxRecDepth 20000 in
set_option maxHeartbeats 4000000 in
theorem c_Ru_oneTick {l : Launch} {Γ : Gm} (hG : GC Γ) (a : Nat) (ha : Oc a 5) (δ : Dl) (r : Dl) (h : F_Ru_oneTick a  δ = some r) : Ct l M_Ru_oneTick 42 0 0 NF [.inr (0, a)] Γ δ (none, Γ, r) := by
  unfold F_Ru_oneTick at h
  have oa := hG.ob ha
  refine Ct.of2 (n := 1) (ls := [some (.inr (0, a)), none]) rfl (by decide +kernel) (Nat.le_of_ble_eq_true rfl) ?_
  refine x_aload_n (i := 0) d_Ru_oneTick_0 rfl rfl ?_
  refine x_dup d_Ru_oneTick_1 ?_
  refine x_getI (f := 43) gl_Ru_29_5 rfl kf_43 oa d_Ru_oneTick_2 ?_
  refine x_ic (v := 1) d_Ru_oneTick_5 (by decide) ?_
  refine x_iadd d_Ru_oneTick_6 ?_
  obtain ⟨δ7, eδ7, h⟩ := bn_e h
  refine x_putI (f := 43) gp_Ru_29_5 rfl kf_43 (fun h => by cases h) rfl rfl oa.1 oa.z d_Ru_oneTick_7 (Xe.cδ eδ7 ?_)
  refine x_aload_n (i := 0) d_Ru_oneTick_10 rfl rfl ?_
  refine x_aload_n (i := 0) d_Ru_oneTick_11 rfl rfl ?_
  refine x_getI (f := 51) gl_Ru_56_5 rfl kf_51 oa d_Ru_oneTick_12 ?_
  obtain ⟨δ15, eδ15, h⟩ := bn_e h
  refine x_putI (f := 52) gp_Ru_59_5 rfl kf_52 (fun h => by cases h) rfl rfl oa.1 oa.z d_Ru_oneTick_15 (Xe.cδ eδ15 ?_)
  refine x_aload_n (i := 0) d_Ru_oneTick_18 rfl rfl ?_
  refine x_ic (v := 0) d_Ru_oneTick_19 (by decide) ?_
  obtain ⟨δ20, eδ20, h⟩ := bn_e h
  refine x_putI (f := 51) gp_Ru_56_5 rfl kf_51 (fun h => by cases h) rfl rfl oa.1 oa.z d_Ru_oneTick_20 (Xe.cδ eδ20 ?_)
  refine x_ic (v := 0) d_Ru_oneTick_23 (by decide) ?_
  refine x_stn (i := 1) (ls' := [some (.inr (0, a)), some (.inl 0)]) d_Ru_oneTick_24 rfl (by decide) rfl ?_
  exact j_Ru_oneTick_25 hG a ha FU 0 δ20 r h
