/-! walks by program (wip/whole/gen.py): 14.program -/
abbrev M_Pr_copyFrom : MM := (⟨RX3, "copyFrom", "(LBlockStage$Program;)V"⟩, prog_5_method_2_code, 2, none)
abbrev M_Pr_addBlock : MM := (⟨RX3, "addBlock", "(II)I"⟩, prog_5_method_3_code, 4, (some .int))
abbrev M_Pr_addScript : MM := (⟨RX3, "addScript", "(IIII)I"⟩, prog_5_method_4_code, 6, (some .int))
abbrev M_Pr_isBlock : MM := (⟨RX3, "isBlock", "(I)Z"⟩, prog_5_method_5_code, 2, (some .boolean))
abbrev M_Pr_isScript : MM := (⟨RX3, "isScript", "(I)Z"⟩, prog_5_method_6_code, 2, (some .boolean))
abbrev M_Pr_blockPart : MM := (⟨RX3, "blockPart", "(II)I"⟩, prog_5_method_7_code, 3, (some .int))
abbrev M_Pr_scriptPart : MM := (⟨RX3, "scriptPart", "(II)I"⟩, prog_5_method_8_code, 3, (some .int))
abbrev M_Pr_kindOf : MM := (⟨RX3, "kindOf", "(I)I"⟩, prog_5_method_9_code, 2, (some .int))
abbrev M_Pr_numberOf : MM := (⟨RX3, "numberOf", "(I)I"⟩, prog_5_method_10_code, 2, (some .int))
abbrev M_Pr_setNumber : MM := (⟨RX3, "setNumber", "(II)V"⟩, prog_5_method_11_code, 3, none)
abbrev M_Pr_actorOf : MM := (⟨RX3, "actorOf", "(I)I"⟩, prog_5_method_12_code, 2, (some .int))
abbrev M_Pr_capOf : MM := (⟨RX3, "capOf", "(I)I"⟩, prog_5_method_13_code, 2, (some .int))
abbrev M_Pr_numberOfCap : MM := (⟨RX3, "numberOfCap", "(I)I"⟩, prog_5_method_14_code, 2, (some .int))
abbrev M_Pr_isAgain : MM := (⟨RX3, "isAgain", "(I)Z"⟩, prog_5_method_15_code, 2, (some .boolean))
abbrev M_Pr_topOf : MM := (⟨RX3, "topOf", "(I)I"⟩, prog_5_method_16_code, 2, (some .int))
abbrev M_Pr_hasHole : MM := (⟨RX3, "hasHole", "(II)Z"⟩, prog_5_method_17_code, 4, (some .boolean))
abbrev M_Pr_inHole : MM := (⟨RX3, "inHole", "(II)I"⟩, prog_5_method_18_code, 3, (some .int))
abbrev M_Pr_isLoose : MM := (⟨RX3, "isLoose", "(I)Z"⟩, prog_5_method_19_code, 2, (some .boolean))
abbrev M_Pr_isWithin : MM := (⟨RX3, "isWithin", "(II)Z"⟩, prog_5_method_20_code, 5, (some .boolean))
abbrev M_Pr_attach : MM := (⟨RX3, "attach", "(III)V"⟩, prog_5_method_21_code, 4, none)
abbrev M_Pr_attachTop : MM := (⟨RX3, "attachTop", "(II)V"⟩, prog_5_method_22_code, 3, none)
abbrev M_Pr_detach : MM := (⟨RX3, "detach", "(I)V"⟩, prog_5_method_23_code, 5, none)
abbrev M_Pr_goalBehind : MM := (⟨RX3, "goalBehind", "(I)I"⟩, prog_5_method_24_code, 7, (some .int))
abbrev M_Bs_isNumberOf : MM := (⟨RX11, "isNumberOf", "(II)Z"⟩, prog_1_method_54_code, 2, (some .boolean))
abbrev M_Pr_changeNumber : MM := (⟨RX3, "changeNumber", "(II)Z"⟩, prog_5_method_26_code, 5, (some .boolean))
abbrev M_Bs_isOrder : MM := (⟨RX11, "isOrder", "(I)Z"⟩, prog_1_method_48_code, 1, (some .boolean))
abbrev M_Pr_putInPlace : MM := (⟨RX3, "putInPlace", "(II)V"⟩, prog_5_method_27_code, 6, none)
abbrev M_Pr_change : MM := (⟨RX3, "change", "(II)Z"⟩, prog_5_method_25_code, 5, (some .boolean))
abbrev M_Bs_hasNumber : MM := (⟨RX11, "hasNumber", "(I)Z"⟩, prog_1_method_53_code, 1, (some .boolean))
abbrev M_Pr_spellHole : MM := (⟨RX3, "spellHole", "(IILBlockStage$Bytes;I)V"⟩, prog_5_method_29_code, 5, none)
abbrev M_Pr_spell : MM := (⟨RX3, "spell", "(ILBlockStage$Bytes;I)V"⟩, prog_5_method_28_code, 7, none)
abbrev M_Bs_isShell : MM := (⟨RX11, "isShell", "(I)Z"⟩, prog_1_method_49_code, 1, (some .boolean))
abbrev M_Bs_isRound : MM := (⟨RX11, "isRound", "(I)Z"⟩, prog_1_method_50_code, 1, (some .boolean))
abbrev M_Bs_isSharp : MM := (⟨RX11, "isSharp", "(I)Z"⟩, prog_1_method_51_code, 1, (some .boolean))
abbrev M_Bs_isOfFamily : MM := (⟨RX11, "isOfFamily", "(II)Z"⟩, prog_1_method_52_code, 2, (some .boolean))
abbrev M_Bs_isNumberOfCap : MM := (⟨RX11, "isNumberOfCap", "(II)Z"⟩, prog_1_method_55_code, 2, (some .boolean))
abbrev M_Bs_fits : MM := (⟨RX11, "fits", "(III)Z"⟩, prog_1_method_56_code, 4, (some .boolean))
-- BlockStage$Program.copyFrom(LBlockStage$Program;)V
theorem d_Pr_copyFrom_0 : decode M_Pr_copyFrom.2.1 0 = .ok (.aload_n 0, 1) := by decide +kernel
theorem d_Pr_copyFrom_1 : decode M_Pr_copyFrom.2.1 1 = .ok (.aload_n 1, 1) := by decide +kernel
theorem d_Pr_copyFrom_2 : decode M_Pr_copyFrom.2.1 2 = .ok (.getfield 9, 3) := by decide +kernel
theorem d_Pr_copyFrom_5 : decode M_Pr_copyFrom.2.1 5 = .ok (.putfield 9, 3) := by decide +kernel
theorem d_Pr_copyFrom_8 : decode M_Pr_copyFrom.2.1 8 = .ok (.aload_n 0, 1) := by decide +kernel
theorem d_Pr_copyFrom_9 : decode M_Pr_copyFrom.2.1 9 = .ok (.aload_n 1, 1) := by decide +kernel
theorem d_Pr_copyFrom_10 : decode M_Pr_copyFrom.2.1 10 = .ok (.getfield 15, 3) := by decide +kernel
theorem d_Pr_copyFrom_13 : decode M_Pr_copyFrom.2.1 13 = .ok (.putfield 15, 3) := by decide +kernel
theorem d_Pr_copyFrom_16 : decode M_Pr_copyFrom.2.1 16 = .ok (.aload_n 1, 1) := by decide +kernel
theorem d_Pr_copyFrom_17 : decode M_Pr_copyFrom.2.1 17 = .ok (.getfield 18, 3) := by decide +kernel
theorem d_Pr_copyFrom_20 : decode M_Pr_copyFrom.2.1 20 = .ok (.iconst 0, 1) := by decide +kernel
theorem d_Pr_copyFrom_21 : decode M_Pr_copyFrom.2.1 21 = .ok (.aload_n 0, 1) := by decide +kernel
theorem d_Pr_copyFrom_22 : decode M_Pr_copyFrom.2.1 22 = .ok (.getfield 18, 3) := by decide +kernel
theorem d_Pr_copyFrom_25 : decode M_Pr_copyFrom.2.1 25 = .ok (.iconst 0, 1) := by decide +kernel
theorem d_Pr_copyFrom_26 : decode M_Pr_copyFrom.2.1 26 = .ok (.aload_n 0, 1) := by decide +kernel
theorem d_Pr_copyFrom_27 : decode M_Pr_copyFrom.2.1 27 = .ok (.getfield 18, 3) := by decide +kernel
theorem d_Pr_copyFrom_30 : decode M_Pr_copyFrom.2.1 30 = .ok (.arraylength, 1) := by decide +kernel
theorem d_Pr_copyFrom_31 : decode M_Pr_copyFrom.2.1 31 = .ok (.invokestatic 28, 3) := by decide +kernel
theorem d_Pr_copyFrom_34 : decode M_Pr_copyFrom.2.1 34 = .ok (.aload_n 1, 1) := by decide +kernel
theorem d_Pr_copyFrom_35 : decode M_Pr_copyFrom.2.1 35 = .ok (.getfield 22, 3) := by decide +kernel
theorem d_Pr_copyFrom_38 : decode M_Pr_copyFrom.2.1 38 = .ok (.iconst 0, 1) := by decide +kernel
theorem d_Pr_copyFrom_39 : decode M_Pr_copyFrom.2.1 39 = .ok (.aload_n 0, 1) := by decide +kernel
theorem d_Pr_copyFrom_40 : decode M_Pr_copyFrom.2.1 40 = .ok (.getfield 22, 3) := by decide +kernel
theorem d_Pr_copyFrom_43 : decode M_Pr_copyFrom.2.1 43 = .ok (.iconst 0, 1) := by decide +kernel
theorem d_Pr_copyFrom_44 : decode M_Pr_copyFrom.2.1 44 = .ok (.aload_n 0, 1) := by decide +kernel
theorem d_Pr_copyFrom_45 : decode M_Pr_copyFrom.2.1 45 = .ok (.getfield 22, 3) := by decide +kernel
theorem d_Pr_copyFrom_48 : decode M_Pr_copyFrom.2.1 48 = .ok (.arraylength, 1) := by decide +kernel
theorem d_Pr_copyFrom_49 : decode M_Pr_copyFrom.2.1 49 = .ok (.invokestatic 28, 3) := by decide +kernel
theorem d_Pr_copyFrom_52 : decode M_Pr_copyFrom.2.1 52 = .ok (.aload_n 1, 1) := by decide +kernel
theorem d_Pr_copyFrom_53 : decode M_Pr_copyFrom.2.1 53 = .ok (.getfield 25, 3) := by decide +kernel
theorem d_Pr_copyFrom_56 : decode M_Pr_copyFrom.2.1 56 = .ok (.iconst 0, 1) := by decide +kernel
theorem d_Pr_copyFrom_57 : decode M_Pr_copyFrom.2.1 57 = .ok (.aload_n 0, 1) := by decide +kernel
theorem d_Pr_copyFrom_58 : decode M_Pr_copyFrom.2.1 58 = .ok (.getfield 25, 3) := by decide +kernel
theorem d_Pr_copyFrom_61 : decode M_Pr_copyFrom.2.1 61 = .ok (.iconst 0, 1) := by decide +kernel
theorem d_Pr_copyFrom_62 : decode M_Pr_copyFrom.2.1 62 = .ok (.aload_n 0, 1) := by decide +kernel
theorem d_Pr_copyFrom_63 : decode M_Pr_copyFrom.2.1 63 = .ok (.getfield 25, 3) := by decide +kernel
theorem d_Pr_copyFrom_66 : decode M_Pr_copyFrom.2.1 66 = .ok (.arraylength, 1) := by decide +kernel
theorem d_Pr_copyFrom_67 : decode M_Pr_copyFrom.2.1 67 = .ok (.invokestatic 28, 3) := by decide +kernel
theorem d_Pr_copyFrom_70 : decode M_Pr_copyFrom.2.1 70 = .ok (.return_, 1) := by decide +kernel
theorem gl_Pr_9_3 : GL RX3 9 3 0 := ⟨RX3, TX3, 5, RX3, rfl, by decide, (lwg_at 35 (by decide +kernel) rfl), Or.inl rfl, gl_w inX3⟩
theorem gp_Pr_9_3 : GP RX3 9 3 0 false .int := ⟨RX3, TX3, 5, RX3, tyX3, rfl, by decide, (lwg_at 35 (by decide +kernel) rfl), rfl, gl_w inX3, tyX3_ok, nmX3, rfl, by decide +kernel, fun h => by first | rfl | cases h⟩
theorem gl_Pr_15_3 : GL RX3 15 3 1 := ⟨RX3, TX3, 5, RX3, rfl, by decide, (lwg_at 37 (by decide +kernel) rfl), Or.inl rfl, gl_w inX3⟩
theorem gp_Pr_15_3 : GP RX3 15 3 1 false .int := ⟨RX3, TX3, 5, RX3, tyX3, rfl, by decide, (lwg_at 37 (by decide +kernel) rfl), rfl, gl_w inX3, tyX3_ok, nmX3, rfl, by decide +kernel, fun h => by first | rfl | cases h⟩
theorem gl_Pr_18_3 : GL RX3 18 3 2 := ⟨RX3, TX3, 5, RX3, rfl, by decide, (lwg_at 40 (by decide +kernel) rfl), Or.inl rfl, gl_w inX3⟩
theorem ac_Pr_28 : Cond.methodLink RX3 28 arraycopyName ∈ lwg := (lwg_at 539 (by decide +kernel) rfl)
theorem gl_Pr_22_3 : GL RX3 22 3 3 := ⟨RX3, TX3, 5, RX3, rfl, by decide, (lwg_at 41 (by decide +kernel) rfl), Or.inl rfl, gl_w inX3⟩
theorem gl_Pr_25_3 : GL RX3 25 3 4 := ⟨RX3, TX3, 5, RX3, rfl, by decide, (lwg_at 42 (by decide +kernel) rfl), Or.inl rfl, gl_w inX3⟩
def F_Pr_copyFrom (a : Nat) (x1 : Nat) (δ : Dl) : Option (Dl) :=
  bnd (sI δ 30 a (δ.1 30 x1)) fun δ5 => bnd (sI δ5 31 a (δ5.1 31 x1)) fun δ13 => bnd (cpA δ13 32 x1 0 32 a 0 150) fun δ31 => bnd (cpA δ31 33 x1 0 33 a 0 150) fun δ49 => bnd (cpA δ49 34 x1 0 34 a 0 30) fun δ67 => some δ67
set_option maxRecDepth 20000 in
set_option maxHeartbeats 4000000 in
theorem c_Pr_copyFrom {l : Launch} {Γ : Gm} (hG : GC Γ) (a : Nat) (x1 : Nat) (ha : Oc a 3) (hx1 : Oc x1 3) (δ : Dl) (r : Dl) (h : F_Pr_copyFrom a x1  δ = some r) : Ct l M_Pr_copyFrom 1 0 0 NF [.inr (0, a), .inr (0, x1)] Γ δ (none, Γ, r) := by
  unfold F_Pr_copyFrom at h
  have oa := hG.ob ha
  refine Ct.of2 (n := 0) (ls := [some (.inr (0, a)), some (.inr (0, x1))]) rfl (by decide +kernel) (Nat.le_of_ble_eq_true rfl) ?_
  refine x_aload_n (i := 0) d_Pr_copyFrom_0 rfl rfl ?_
  refine x_aload_n (i := 1) d_Pr_copyFrom_1 rfl rfl ?_
  refine x_getI (f := 30) gl_Pr_9_3 rfl kf_30 (hG.ob hx1) d_Pr_copyFrom_2 ?_
  obtain ⟨δ5, eδ5, h⟩ := bn_e h
  refine x_putI (f := 30) gp_Pr_9_3 rfl kf_30 (fun h => by cases h) rfl rfl oa.1 oa.z d_Pr_copyFrom_5 (Xe.cδ eδ5 ?_)
  refine x_aload_n (i := 0) d_Pr_copyFrom_8 rfl rfl ?_
  refine x_aload_n (i := 1) d_Pr_copyFrom_9 rfl rfl ?_
  refine x_getI (f := 31) gl_Pr_15_3 rfl kf_31 (hG.ob hx1) d_Pr_copyFrom_10 ?_
  obtain ⟨δ13, eδ13, h⟩ := bn_e h
  refine x_putI (f := 31) gp_Pr_15_3 rfl kf_31 (fun h => by cases h) rfl rfl oa.1 oa.z d_Pr_copyFrom_13 (Xe.cδ eδ13 ?_)
  refine x_aload_n (i := 1) d_Pr_copyFrom_16 rfl rfl ?_
  refine x_getA (f := 32) gl_Pr_18_3 rfl (by rw [kf_32]; decide) (hG.ob hx1) d_Pr_copyFrom_17 ?_
  refine x_ic (v := 0) d_Pr_copyFrom_20 (by decide) ?_
  refine x_aload_n (i := 0) d_Pr_copyFrom_21 rfl rfl ?_
  refine x_getA (f := 32) gl_Pr_18_3 rfl (by rw [kf_32]; decide) oa d_Pr_copyFrom_22 ?_
  refine x_ic (v := 0) d_Pr_copyFrom_25 (by decide) ?_
  refine x_aload_n (i := 0) d_Pr_copyFrom_26 rfl rfl ?_
  refine x_getA (f := 32) gl_Pr_18_3 rfl (by rw [kf_32]; decide) oa d_Pr_copyFrom_27 ?_
  refine x_alen (n := 150) (Or.inl kf_32) (oz_32 oa) (lo_32 _) d_Pr_copyFrom_30 ?_
  obtain ⟨δ31, eδ31, h⟩ := bn_e h
  refine x_acopy (N0 := 150) (N1 := 150) ac_Pr_28 kf_32 kf_32 (oz_32 (hG.ob hx1)) (oz_32 oa) (ln_32 _) (ln_32 _) (by decide) (by decide) (Nat.le_of_ble_eq_true rfl) (by first | decide | omega) ac_nat ac_sta ac_ini d_Pr_copyFrom_31 (Xe.cδ eδ31 ?_)
  refine x_aload_n (i := 1) d_Pr_copyFrom_34 rfl rfl ?_
  refine x_getA (f := 33) gl_Pr_22_3 rfl (by rw [kf_33]; decide) (hG.ob hx1) d_Pr_copyFrom_35 ?_
  refine x_ic (v := 0) d_Pr_copyFrom_38 (by decide) ?_
  refine x_aload_n (i := 0) d_Pr_copyFrom_39 rfl rfl ?_
  refine x_getA (f := 33) gl_Pr_22_3 rfl (by rw [kf_33]; decide) oa d_Pr_copyFrom_40 ?_
  refine x_ic (v := 0) d_Pr_copyFrom_43 (by decide) ?_
  refine x_aload_n (i := 0) d_Pr_copyFrom_44 rfl rfl ?_
  refine x_getA (f := 33) gl_Pr_22_3 rfl (by rw [kf_33]; decide) oa d_Pr_copyFrom_45 ?_
  refine x_alen (n := 150) (Or.inl kf_33) (oz_33 oa) (lo_33 _) d_Pr_copyFrom_48 ?_
  obtain ⟨δ49, eδ49, h⟩ := bn_e h
  refine x_acopy (N0 := 150) (N1 := 150) ac_Pr_28 kf_33 kf_33 (oz_33 (hG.ob hx1)) (oz_33 oa) (ln_33 _) (ln_33 _) (by decide) (by decide) (Nat.le_of_ble_eq_true rfl) (by first | decide | omega) ac_nat ac_sta ac_ini d_Pr_copyFrom_49 (Xe.cδ eδ49 ?_)
  refine x_aload_n (i := 1) d_Pr_copyFrom_52 rfl rfl ?_
  refine x_getA (f := 34) gl_Pr_25_3 rfl (by rw [kf_34]; decide) (hG.ob hx1) d_Pr_copyFrom_53 ?_
  refine x_ic (v := 0) d_Pr_copyFrom_56 (by decide) ?_
  refine x_aload_n (i := 0) d_Pr_copyFrom_57 rfl rfl ?_
  refine x_getA (f := 34) gl_Pr_25_3 rfl (by rw [kf_34]; decide) oa d_Pr_copyFrom_58 ?_
  refine x_ic (v := 0) d_Pr_copyFrom_61 (by decide) ?_
  refine x_aload_n (i := 0) d_Pr_copyFrom_62 rfl rfl ?_
  refine x_getA (f := 34) gl_Pr_25_3 rfl (by rw [kf_34]; decide) oa d_Pr_copyFrom_63 ?_
  refine x_alen (n := 30) (Or.inl kf_34) (oz_34 oa) (lo_34 _) d_Pr_copyFrom_66 ?_
  obtain ⟨δ67, eδ67, h⟩ := bn_e h
  refine x_acopy (N0 := 30) (N1 := 30) ac_Pr_28 kf_34 kf_34 (oz_34 (hG.ob hx1)) (oz_34 oa) (ln_34 _) (ln_34 _) (by decide) (by decide) (Nat.le_of_ble_eq_true rfl) (by first | decide | omega) ac_nat ac_sta ac_ini d_Pr_copyFrom_67 (Xe.cδ eδ67 ?_)
  replace h := Option.some.inj h; subst h
  exact x_vret rfl d_Pr_copyFrom_70 (Nat.le_refl 0) (Nat.le_refl 0)
-- BlockStage$Program.addBlock(II)I
theorem d_Pr_addBlock_0 : decode M_Pr_addBlock.2.1 0 = .ok (.aload_n 0, 1) := by decide +kernel
theorem d_Pr_addBlock_1 : decode M_Pr_addBlock.2.1 1 = .ok (.getfield 9, 3) := by decide +kernel
theorem d_Pr_addBlock_4 : decode M_Pr_addBlock.2.1 4 = .ok (.istore_n 3, 1) := by decide +kernel
theorem d_Pr_addBlock_5 : decode M_Pr_addBlock.2.1 5 = .ok (.iload_n 3, 1) := by decide +kernel
theorem d_Pr_addBlock_6 : decode M_Pr_addBlock.2.1 6 = .ok (.ifCond .lt 9, 3) := by decide +kernel
theorem d_Pr_addBlock_9 : decode M_Pr_addBlock.2.1 9 = .ok (.iload_n 3, 1) := by decide +kernel
theorem d_Pr_addBlock_10 : decode M_Pr_addBlock.2.1 10 = .ok (.bipush 30, 2) := by decide +kernel
theorem d_Pr_addBlock_12 : decode M_Pr_addBlock.2.1 12 = .ok (.if_icmp .lt 6, 3) := by decide +kernel
theorem d_Pr_addBlock_15 : decode M_Pr_addBlock.2.1 15 = .ok (.bipush (-4), 2) := by decide +kernel
theorem d_Pr_addBlock_17 : decode M_Pr_addBlock.2.1 17 = .ok (.ireturn, 1) := by decide +kernel
theorem d_Pr_addBlock_18 : decode M_Pr_addBlock.2.1 18 = .ok (.aload_n 0, 1) := by decide +kernel
theorem d_Pr_addBlock_19 : decode M_Pr_addBlock.2.1 19 = .ok (.getfield 18, 3) := by decide +kernel
theorem d_Pr_addBlock_22 : decode M_Pr_addBlock.2.1 22 = .ok (.iload_n 3, 1) := by decide +kernel
theorem d_Pr_addBlock_23 : decode M_Pr_addBlock.2.1 23 = .ok (.iconst 5, 1) := by decide +kernel
theorem d_Pr_addBlock_24 : decode M_Pr_addBlock.2.1 24 = .ok (.imul, 1) := by decide +kernel
theorem d_Pr_addBlock_25 : decode M_Pr_addBlock.2.1 25 = .ok (.iconst 0, 1) := by decide +kernel
theorem d_Pr_addBlock_26 : decode M_Pr_addBlock.2.1 26 = .ok (.iadd, 1) := by decide +kernel
theorem d_Pr_addBlock_27 : decode M_Pr_addBlock.2.1 27 = .ok (.iload_n 1, 1) := by decide +kernel
theorem d_Pr_addBlock_28 : decode M_Pr_addBlock.2.1 28 = .ok (.iastore, 1) := by decide +kernel
theorem d_Pr_addBlock_29 : decode M_Pr_addBlock.2.1 29 = .ok (.aload_n 0, 1) := by decide +kernel
theorem d_Pr_addBlock_30 : decode M_Pr_addBlock.2.1 30 = .ok (.getfield 18, 3) := by decide +kernel
theorem d_Pr_addBlock_33 : decode M_Pr_addBlock.2.1 33 = .ok (.iload_n 3, 1) := by decide +kernel
theorem d_Pr_addBlock_34 : decode M_Pr_addBlock.2.1 34 = .ok (.iconst 5, 1) := by decide +kernel
theorem d_Pr_addBlock_35 : decode M_Pr_addBlock.2.1 35 = .ok (.imul, 1) := by decide +kernel
theorem d_Pr_addBlock_36 : decode M_Pr_addBlock.2.1 36 = .ok (.iconst 1, 1) := by decide +kernel
theorem d_Pr_addBlock_37 : decode M_Pr_addBlock.2.1 37 = .ok (.iadd, 1) := by decide +kernel
theorem d_Pr_addBlock_38 : decode M_Pr_addBlock.2.1 38 = .ok (.iload_n 2, 1) := by decide +kernel
theorem d_Pr_addBlock_39 : decode M_Pr_addBlock.2.1 39 = .ok (.iastore, 1) := by decide +kernel
theorem d_Pr_addBlock_40 : decode M_Pr_addBlock.2.1 40 = .ok (.aload_n 0, 1) := by decide +kernel
theorem d_Pr_addBlock_41 : decode M_Pr_addBlock.2.1 41 = .ok (.getfield 18, 3) := by decide +kernel
theorem d_Pr_addBlock_44 : decode M_Pr_addBlock.2.1 44 = .ok (.iload_n 3, 1) := by decide +kernel
theorem d_Pr_addBlock_45 : decode M_Pr_addBlock.2.1 45 = .ok (.iconst 5, 1) := by decide +kernel
theorem d_Pr_addBlock_46 : decode M_Pr_addBlock.2.1 46 = .ok (.imul, 1) := by decide +kernel
theorem d_Pr_addBlock_47 : decode M_Pr_addBlock.2.1 47 = .ok (.iconst 2, 1) := by decide +kernel
theorem d_Pr_addBlock_48 : decode M_Pr_addBlock.2.1 48 = .ok (.iadd, 1) := by decide +kernel
theorem d_Pr_addBlock_49 : decode M_Pr_addBlock.2.1 49 = .ok (.iconst (-1), 1) := by decide +kernel
theorem d_Pr_addBlock_50 : decode M_Pr_addBlock.2.1 50 = .ok (.iastore, 1) := by decide +kernel
theorem d_Pr_addBlock_51 : decode M_Pr_addBlock.2.1 51 = .ok (.aload_n 0, 1) := by decide +kernel
theorem d_Pr_addBlock_52 : decode M_Pr_addBlock.2.1 52 = .ok (.getfield 18, 3) := by decide +kernel
theorem d_Pr_addBlock_55 : decode M_Pr_addBlock.2.1 55 = .ok (.iload_n 3, 1) := by decide +kernel
theorem d_Pr_addBlock_56 : decode M_Pr_addBlock.2.1 56 = .ok (.iconst 5, 1) := by decide +kernel
theorem d_Pr_addBlock_57 : decode M_Pr_addBlock.2.1 57 = .ok (.imul, 1) := by decide +kernel
theorem d_Pr_addBlock_58 : decode M_Pr_addBlock.2.1 58 = .ok (.iconst 3, 1) := by decide +kernel
theorem d_Pr_addBlock_59 : decode M_Pr_addBlock.2.1 59 = .ok (.iadd, 1) := by decide +kernel
theorem d_Pr_addBlock_60 : decode M_Pr_addBlock.2.1 60 = .ok (.iconst (-1), 1) := by decide +kernel
theorem d_Pr_addBlock_61 : decode M_Pr_addBlock.2.1 61 = .ok (.iastore, 1) := by decide +kernel
theorem d_Pr_addBlock_62 : decode M_Pr_addBlock.2.1 62 = .ok (.aload_n 0, 1) := by decide +kernel
theorem d_Pr_addBlock_63 : decode M_Pr_addBlock.2.1 63 = .ok (.getfield 18, 3) := by decide +kernel
theorem d_Pr_addBlock_66 : decode M_Pr_addBlock.2.1 66 = .ok (.iload_n 3, 1) := by decide +kernel
theorem d_Pr_addBlock_67 : decode M_Pr_addBlock.2.1 67 = .ok (.iconst 5, 1) := by decide +kernel
theorem d_Pr_addBlock_68 : decode M_Pr_addBlock.2.1 68 = .ok (.imul, 1) := by decide +kernel
theorem d_Pr_addBlock_69 : decode M_Pr_addBlock.2.1 69 = .ok (.iconst 4, 1) := by decide +kernel
theorem d_Pr_addBlock_70 : decode M_Pr_addBlock.2.1 70 = .ok (.iadd, 1) := by decide +kernel
theorem d_Pr_addBlock_71 : decode M_Pr_addBlock.2.1 71 = .ok (.iconst (-1), 1) := by decide +kernel
theorem d_Pr_addBlock_72 : decode M_Pr_addBlock.2.1 72 = .ok (.iastore, 1) := by decide +kernel
theorem d_Pr_addBlock_73 : decode M_Pr_addBlock.2.1 73 = .ok (.aload_n 0, 1) := by decide +kernel
theorem d_Pr_addBlock_74 : decode M_Pr_addBlock.2.1 74 = .ok (.getfield 22, 3) := by decide +kernel
theorem d_Pr_addBlock_77 : decode M_Pr_addBlock.2.1 77 = .ok (.iload_n 3, 1) := by decide +kernel
theorem d_Pr_addBlock_78 : decode M_Pr_addBlock.2.1 78 = .ok (.iconst 5, 1) := by decide +kernel
theorem d_Pr_addBlock_79 : decode M_Pr_addBlock.2.1 79 = .ok (.imul, 1) := by decide +kernel
theorem d_Pr_addBlock_80 : decode M_Pr_addBlock.2.1 80 = .ok (.iload_n 3, 1) := by decide +kernel
theorem d_Pr_addBlock_81 : decode M_Pr_addBlock.2.1 81 = .ok (.iconst 5, 1) := by decide +kernel
theorem d_Pr_addBlock_82 : decode M_Pr_addBlock.2.1 82 = .ok (.imul, 1) := by decide +kernel
theorem d_Pr_addBlock_83 : decode M_Pr_addBlock.2.1 83 = .ok (.iconst 5, 1) := by decide +kernel
theorem d_Pr_addBlock_84 : decode M_Pr_addBlock.2.1 84 = .ok (.iadd, 1) := by decide +kernel
theorem d_Pr_addBlock_85 : decode M_Pr_addBlock.2.1 85 = .ok (.iconst (-1), 1) := by decide +kernel
theorem d_Pr_addBlock_86 : decode M_Pr_addBlock.2.1 86 = .ok (.invokestatic 34, 3) := by decide +kernel
theorem d_Pr_addBlock_89 : decode M_Pr_addBlock.2.1 89 = .ok (.aload_n 0, 1) := by decide +kernel
theorem d_Pr_addBlock_90 : decode M_Pr_addBlock.2.1 90 = .ok (.iload_n 3, 1) := by decide +kernel
theorem d_Pr_addBlock_91 : decode M_Pr_addBlock.2.1 91 = .ok (.iconst 1, 1) := by decide +kernel
theorem d_Pr_addBlock_92 : decode M_Pr_addBlock.2.1 92 = .ok (.iadd, 1) := by decide +kernel
theorem d_Pr_addBlock_93 : decode M_Pr_addBlock.2.1 93 = .ok (.putfield 9, 3) := by decide +kernel
theorem d_Pr_addBlock_96 : decode M_Pr_addBlock.2.1 96 = .ok (.iload_n 3, 1) := by decide +kernel
theorem d_Pr_addBlock_97 : decode M_Pr_addBlock.2.1 97 = .ok (.ireturn, 1) := by decide +kernel
theorem cs_Pr_34 : CS RX3 34 M_Ar_fill4 4 := ⟨(lwg_at 387 (by decide +kernel) rfl), (lwg_at 388 (by decide +kernel) rfl), mi_Ar_fill4⟩
def F_Pr_addBlock (a : Nat) (x1 : Int32) (x2 : Int32) (δ : Dl) : Option (Int32 × Dl) :=
  if (δ.1 30 a) < 0 then (some ((-4), δ)) else (if (δ.1 30 a) < 30 then (if inb (((δ.1 30 a) * 5) + 0) 150 then bnd (sA δ 32 a (((δ.1 30 a) * 5) + 0) x1) fun δ28 => if inb (((δ.1 30 a) * 5) + 1) 150 then bnd (sA δ28 32 a (((δ.1 30 a) * 5) + 1) x2) fun δ39 => if inb (((δ.1 30 a) * 5) + 2) 150 then bnd (sA δ39 32 a (((δ.1 30 a) * 5) + 2) (-1)) fun δ50 => if inb (((δ.1 30 a) * 5) + 3) 150 then bnd (sA δ50 32 a (((δ.1 30 a) * 5) + 3) (-1)) fun δ61 => if inb (((δ.1 30 a) * 5) + 4) 150 then bnd (sA δ61 32 a (((δ.1 30 a) * 5) + 4) (-1)) fun δ72 => (F_Ar_fill4 33 a 150 ((δ.1 30 a) * 5) (((δ.1 30 a) * 5) + 5) (-1) δ72).bind fun δ86 => bnd (sI δ86 30 a ((δ.1 30 a) + 1)) fun δ93 => some ((δ.1 30 a), δ93) else none else none else none else none else none) else (some ((-4), δ)))
set_option maxRecDepth 20000 in
set_option maxHeartbeats 4000000 in
theorem c_Pr_addBlock {l : Launch} {Γ : Gm} (hG : GC Γ) (a : Nat) (x1 : Int32) (x2 : Int32) (ha : Oc a 3) (δ : Dl) (r : Int32 × Dl) (h : F_Pr_addBlock a x1 x2  δ = some r) : Ct l M_Pr_addBlock 2 0 0 NF [.inr (0, a), .inl x1, .inl x2] Γ δ (some (.inl r.1), Γ, r.2) := by
  unfold F_Pr_addBlock at h
  have oa := hG.ob ha
  refine Ct.of2 (n := 1) (ls := [some (.inr (0, a)), some (.inl x1), some (.inl x2), none]) rfl (by decide +kernel) (Nat.le_of_ble_eq_true rfl) ?_
  refine x_aload_n (i := 0) d_Pr_addBlock_0 rfl rfl ?_
  refine x_getI (f := 30) gl_Pr_9_3 rfl kf_30 oa d_Pr_addBlock_1 ?_
  refine x_stn (i := 3) (ls' := [some (.inr (0, a)), some (.inl x1), some (.inl x2), some (.inl (δ.1 30 a))]) d_Pr_addBlock_4 rfl (by decide) rfl ?_
  refine x_iload_n (i := 3) d_Pr_addBlock_5 rfl rfl ?_
  refine x_if_lt (tgt := 15) d_Pr_addBlock_6 (by decide) (fun c6 => ?_) (fun c6 => ?_)
  · have h := if_t c6 h
    refine x_bi (v := -4) d_Pr_addBlock_15 (by decide) ?_
    replace h := Option.some.inj h; subst h
    exact x_iret rfl d_Pr_addBlock_17 (Nat.le_refl 0) (Nat.le_refl 0)
  · have h := if_f c6 h
    refine x_iload_n (i := 3) d_Pr_addBlock_9 rfl rfl ?_
    refine x_bi (v := 30) d_Pr_addBlock_10 (by decide) ?_
    refine x_cmp_lt (tgt := 18) d_Pr_addBlock_12 (by decide) (fun c12 => ?_) (fun c12 => ?_)
    · have h := if_t c12 h
      refine x_aload_n (i := 0) d_Pr_addBlock_18 rfl rfl ?_
      refine x_getA (f := 32) gl_Pr_18_3 rfl (by rw [kf_32]; decide) oa d_Pr_addBlock_19 ?_
      refine x_iload_n (i := 3) d_Pr_addBlock_22 rfl rfl ?_
      refine x_ic (v := 5) d_Pr_addBlock_23 (by decide) ?_
      refine x_imul d_Pr_addBlock_24 ?_
      refine x_ic (v := 0) d_Pr_addBlock_25 (by decide) ?_
      refine x_iadd d_Pr_addBlock_26 ?_
      refine x_iload_n (i := 1) d_Pr_addBlock_27 rfl rfl ?_
      obtain ⟨g28, h⟩ := gd_e h
      obtain ⟨δ28, eδ28, h⟩ := bn_e h
      refine x_iast (n := 150) kf_32 (oz_32 oa) (ln_32 _) g28 d_Pr_addBlock_28 (Xe.cδ eδ28 ?_)
      refine x_aload_n (i := 0) d_Pr_addBlock_29 rfl rfl ?_
      refine x_getA (f := 32) gl_Pr_18_3 rfl (by rw [kf_32]; decide) oa d_Pr_addBlock_30 ?_
      refine x_iload_n (i := 3) d_Pr_addBlock_33 rfl rfl ?_
      refine x_ic (v := 5) d_Pr_addBlock_34 (by decide) ?_
      refine x_imul d_Pr_addBlock_35 ?_
      refine x_ic (v := 1) d_Pr_addBlock_36 (by decide) ?_
      refine x_iadd d_Pr_addBlock_37 ?_
      refine x_iload_n (i := 2) d_Pr_addBlock_38 rfl rfl ?_
      obtain ⟨g39, h⟩ := gd_e h
      obtain ⟨δ39, eδ39, h⟩ := bn_e h
      refine x_iast (n := 150) kf_32 (oz_32 oa) (ln_32 _) g39 d_Pr_addBlock_39 (Xe.cδ eδ39 ?_)
      refine x_aload_n (i := 0) d_Pr_addBlock_40 rfl rfl ?_
      refine x_getA (f := 32) gl_Pr_18_3 rfl (by rw [kf_32]; decide) oa d_Pr_addBlock_41 ?_
      refine x_iload_n (i := 3) d_Pr_addBlock_44 rfl rfl ?_
      refine x_ic (v := 5) d_Pr_addBlock_45 (by decide) ?_
      refine x_imul d_Pr_addBlock_46 ?_
      refine x_ic (v := 2) d_Pr_addBlock_47 (by decide) ?_
      refine x_iadd d_Pr_addBlock_48 ?_
      refine x_ic (v := -1) d_Pr_addBlock_49 (by decide) ?_
      obtain ⟨g50, h⟩ := gd_e h
      obtain ⟨δ50, eδ50, h⟩ := bn_e h
      refine x_iast (n := 150) kf_32 (oz_32 oa) (ln_32 _) g50 d_Pr_addBlock_50 (Xe.cδ eδ50 ?_)
      refine x_aload_n (i := 0) d_Pr_addBlock_51 rfl rfl ?_
      refine x_getA (f := 32) gl_Pr_18_3 rfl (by rw [kf_32]; decide) oa d_Pr_addBlock_52 ?_
      refine x_iload_n (i := 3) d_Pr_addBlock_55 rfl rfl ?_
      refine x_ic (v := 5) d_Pr_addBlock_56 (by decide) ?_
      refine x_imul d_Pr_addBlock_57 ?_
      refine x_ic (v := 3) d_Pr_addBlock_58 (by decide) ?_
      refine x_iadd d_Pr_addBlock_59 ?_
      refine x_ic (v := -1) d_Pr_addBlock_60 (by decide) ?_
      obtain ⟨g61, h⟩ := gd_e h
      obtain ⟨δ61, eδ61, h⟩ := bn_e h
      refine x_iast (n := 150) kf_32 (oz_32 oa) (ln_32 _) g61 d_Pr_addBlock_61 (Xe.cδ eδ61 ?_)
      refine x_aload_n (i := 0) d_Pr_addBlock_62 rfl rfl ?_
      refine x_getA (f := 32) gl_Pr_18_3 rfl (by rw [kf_32]; decide) oa d_Pr_addBlock_63 ?_
      refine x_iload_n (i := 3) d_Pr_addBlock_66 rfl rfl ?_
      refine x_ic (v := 5) d_Pr_addBlock_67 (by decide) ?_
      refine x_imul d_Pr_addBlock_68 ?_
      refine x_ic (v := 4) d_Pr_addBlock_69 (by decide) ?_
      refine x_iadd d_Pr_addBlock_70 ?_
      refine x_ic (v := -1) d_Pr_addBlock_71 (by decide) ?_
      obtain ⟨g72, h⟩ := gd_e h
      obtain ⟨δ72, eδ72, h⟩ := bn_e h
      refine x_iast (n := 150) kf_32 (oz_32 oa) (ln_32 _) g72 d_Pr_addBlock_72 (Xe.cδ eδ72 ?_)
      refine x_aload_n (i := 0) d_Pr_addBlock_73 rfl rfl ?_
      refine x_getA (f := 33) gl_Pr_22_3 rfl (by rw [kf_33]; decide) oa d_Pr_addBlock_74 ?_
      refine x_iload_n (i := 3) d_Pr_addBlock_77 rfl rfl ?_
      refine x_ic (v := 5) d_Pr_addBlock_78 (by decide) ?_
      refine x_imul d_Pr_addBlock_79 ?_
      refine x_iload_n (i := 3) d_Pr_addBlock_80 rfl rfl ?_
      refine x_ic (v := 5) d_Pr_addBlock_81 (by decide) ?_
      refine x_imul d_Pr_addBlock_82 ?_
      refine x_ic (v := 5) d_Pr_addBlock_83 (by decide) ?_
      refine x_iadd d_Pr_addBlock_84 ?_
      refine x_ic (v := -1) d_Pr_addBlock_85 (by decide) ?_
      obtain ⟨δ86, eδ86, h⟩ := bd_e h
      refine y_S4v cs_Pr_34 (by first | decide | omega) (Nat.le_of_ble_eq_true rfl) d_Pr_addBlock_86 (c_Ar_fill4 33 a 150 ((δ.1 30 a) * 5) (((δ.1 30 a) * 5) + 5) (-1) kf_33 (oz_33 oa) (ln_33 _) (lo_33 _) δ72 δ86 eδ86) (Nat.le_refl 0) (Nat.le_refl 0) ?_
      refine x_aload_n (i := 0) d_Pr_addBlock_89 rfl rfl ?_
      refine x_iload_n (i := 3) d_Pr_addBlock_90 rfl rfl ?_
      refine x_ic (v := 1) d_Pr_addBlock_91 (by decide) ?_
      refine x_iadd d_Pr_addBlock_92 ?_
      obtain ⟨δ93, eδ93, h⟩ := bn_e h
      refine x_putI (f := 30) gp_Pr_9_3 rfl kf_30 (fun h => by cases h) rfl rfl oa.1 oa.z d_Pr_addBlock_93 (Xe.cδ eδ93 ?_)
      refine x_iload_n (i := 3) d_Pr_addBlock_96 rfl rfl ?_
      replace h := Option.some.inj h; subst h
      exact x_iret rfl d_Pr_addBlock_97 (Nat.le_refl 0) (Nat.le_refl 0)
    · have h := if_f c12 h
      refine x_bi (v := -4) d_Pr_addBlock_15 (by decide) ?_
      replace h := Option.some.inj h; subst h
      exact x_iret rfl d_Pr_addBlock_17 (Nat.le_refl 0) (Nat.le_refl 0)
-- BlockStage$Program.addScript(IIII)I
theorem d_Pr_addScript_0 : decode M_Pr_addScript.2.1 0 = .ok (.aload_n 0, 1) := by decide +kernel
theorem d_Pr_addScript_1 : decode M_Pr_addScript.2.1 1 = .ok (.getfield 15, 3) := by decide +kernel
theorem d_Pr_addScript_4 : decode M_Pr_addScript.2.1 4 = .ok (.istore 5, 2) := by decide +kernel
theorem d_Pr_addScript_6 : decode M_Pr_addScript.2.1 6 = .ok (.iload 5, 2) := by decide +kernel
theorem d_Pr_addScript_8 : decode M_Pr_addScript.2.1 8 = .ok (.ifCond .lt 10, 3) := by decide +kernel
theorem d_Pr_addScript_11 : decode M_Pr_addScript.2.1 11 = .ok (.iload 5, 2) := by decide +kernel
theorem d_Pr_addScript_13 : decode M_Pr_addScript.2.1 13 = .ok (.bipush 6, 2) := by decide +kernel
theorem d_Pr_addScript_15 : decode M_Pr_addScript.2.1 15 = .ok (.if_icmp .lt 6, 3) := by decide +kernel
theorem d_Pr_addScript_18 : decode M_Pr_addScript.2.1 18 = .ok (.bipush (-4), 2) := by decide +kernel
theorem d_Pr_addScript_20 : decode M_Pr_addScript.2.1 20 = .ok (.ireturn, 1) := by decide +kernel
theorem d_Pr_addScript_21 : decode M_Pr_addScript.2.1 21 = .ok (.aload_n 0, 1) := by decide +kernel
theorem d_Pr_addScript_22 : decode M_Pr_addScript.2.1 22 = .ok (.getfield 25, 3) := by decide +kernel
theorem d_Pr_addScript_25 : decode M_Pr_addScript.2.1 25 = .ok (.iload 5, 2) := by decide +kernel
theorem d_Pr_addScript_27 : decode M_Pr_addScript.2.1 27 = .ok (.iconst 5, 1) := by decide +kernel
theorem d_Pr_addScript_28 : decode M_Pr_addScript.2.1 28 = .ok (.imul, 1) := by decide +kernel
theorem d_Pr_addScript_29 : decode M_Pr_addScript.2.1 29 = .ok (.iconst 0, 1) := by decide +kernel
theorem d_Pr_addScript_30 : decode M_Pr_addScript.2.1 30 = .ok (.iadd, 1) := by decide +kernel
theorem d_Pr_addScript_31 : decode M_Pr_addScript.2.1 31 = .ok (.iload_n 1, 1) := by decide +kernel
theorem d_Pr_addScript_32 : decode M_Pr_addScript.2.1 32 = .ok (.iastore, 1) := by decide +kernel
theorem d_Pr_addScript_33 : decode M_Pr_addScript.2.1 33 = .ok (.aload_n 0, 1) := by decide +kernel
theorem d_Pr_addScript_34 : decode M_Pr_addScript.2.1 34 = .ok (.getfield 25, 3) := by decide +kernel
theorem d_Pr_addScript_37 : decode M_Pr_addScript.2.1 37 = .ok (.iload 5, 2) := by decide +kernel
theorem d_Pr_addScript_39 : decode M_Pr_addScript.2.1 39 = .ok (.iconst 5, 1) := by decide +kernel
theorem d_Pr_addScript_40 : decode M_Pr_addScript.2.1 40 = .ok (.imul, 1) := by decide +kernel
theorem d_Pr_addScript_41 : decode M_Pr_addScript.2.1 41 = .ok (.iconst 1, 1) := by decide +kernel
theorem d_Pr_addScript_42 : decode M_Pr_addScript.2.1 42 = .ok (.iadd, 1) := by decide +kernel
theorem d_Pr_addScript_43 : decode M_Pr_addScript.2.1 43 = .ok (.iload_n 2, 1) := by decide +kernel
theorem d_Pr_addScript_44 : decode M_Pr_addScript.2.1 44 = .ok (.iastore, 1) := by decide +kernel
theorem d_Pr_addScript_45 : decode M_Pr_addScript.2.1 45 = .ok (.aload_n 0, 1) := by decide +kernel
theorem d_Pr_addScript_46 : decode M_Pr_addScript.2.1 46 = .ok (.getfield 25, 3) := by decide +kernel
theorem d_Pr_addScript_49 : decode M_Pr_addScript.2.1 49 = .ok (.iload 5, 2) := by decide +kernel
theorem d_Pr_addScript_51 : decode M_Pr_addScript.2.1 51 = .ok (.iconst 5, 1) := by decide +kernel
theorem d_Pr_addScript_52 : decode M_Pr_addScript.2.1 52 = .ok (.imul, 1) := by decide +kernel
theorem d_Pr_addScript_53 : decode M_Pr_addScript.2.1 53 = .ok (.iconst 2, 1) := by decide +kernel
theorem d_Pr_addScript_54 : decode M_Pr_addScript.2.1 54 = .ok (.iadd, 1) := by decide +kernel
theorem d_Pr_addScript_55 : decode M_Pr_addScript.2.1 55 = .ok (.iload_n 3, 1) := by decide +kernel
theorem d_Pr_addScript_56 : decode M_Pr_addScript.2.1 56 = .ok (.iastore, 1) := by decide +kernel
theorem d_Pr_addScript_57 : decode M_Pr_addScript.2.1 57 = .ok (.aload_n 0, 1) := by decide +kernel
theorem d_Pr_addScript_58 : decode M_Pr_addScript.2.1 58 = .ok (.getfield 25, 3) := by decide +kernel
theorem d_Pr_addScript_61 : decode M_Pr_addScript.2.1 61 = .ok (.iload 5, 2) := by decide +kernel
theorem d_Pr_addScript_63 : decode M_Pr_addScript.2.1 63 = .ok (.iconst 5, 1) := by decide +kernel
theorem d_Pr_addScript_64 : decode M_Pr_addScript.2.1 64 = .ok (.imul, 1) := by decide +kernel
theorem d_Pr_addScript_65 : decode M_Pr_addScript.2.1 65 = .ok (.iconst 3, 1) := by decide +kernel
theorem d_Pr_addScript_66 : decode M_Pr_addScript.2.1 66 = .ok (.iadd, 1) := by decide +kernel
theorem d_Pr_addScript_67 : decode M_Pr_addScript.2.1 67 = .ok (.iload 4, 2) := by decide +kernel
theorem d_Pr_addScript_69 : decode M_Pr_addScript.2.1 69 = .ok (.iastore, 1) := by decide +kernel
theorem d_Pr_addScript_70 : decode M_Pr_addScript.2.1 70 = .ok (.aload_n 0, 1) := by decide +kernel
theorem d_Pr_addScript_71 : decode M_Pr_addScript.2.1 71 = .ok (.getfield 25, 3) := by decide +kernel
theorem d_Pr_addScript_74 : decode M_Pr_addScript.2.1 74 = .ok (.iload 5, 2) := by decide +kernel
theorem d_Pr_addScript_76 : decode M_Pr_addScript.2.1 76 = .ok (.iconst 5, 1) := by decide +kernel
theorem d_Pr_addScript_77 : decode M_Pr_addScript.2.1 77 = .ok (.imul, 1) := by decide +kernel
theorem d_Pr_addScript_78 : decode M_Pr_addScript.2.1 78 = .ok (.iconst 4, 1) := by decide +kernel
theorem d_Pr_addScript_79 : decode M_Pr_addScript.2.1 79 = .ok (.iadd, 1) := by decide +kernel
theorem d_Pr_addScript_80 : decode M_Pr_addScript.2.1 80 = .ok (.iconst (-1), 1) := by decide +kernel
theorem d_Pr_addScript_81 : decode M_Pr_addScript.2.1 81 = .ok (.iastore, 1) := by decide +kernel
theorem d_Pr_addScript_82 : decode M_Pr_addScript.2.1 82 = .ok (.aload_n 0, 1) := by decide +kernel
theorem d_Pr_addScript_83 : decode M_Pr_addScript.2.1 83 = .ok (.iload 5, 2) := by decide +kernel
theorem d_Pr_addScript_85 : decode M_Pr_addScript.2.1 85 = .ok (.iconst 1, 1) := by decide +kernel
theorem d_Pr_addScript_86 : decode M_Pr_addScript.2.1 86 = .ok (.iadd, 1) := by decide +kernel
theorem d_Pr_addScript_87 : decode M_Pr_addScript.2.1 87 = .ok (.putfield 15, 3) := by decide +kernel
theorem d_Pr_addScript_90 : decode M_Pr_addScript.2.1 90 = .ok (.iload 5, 2) := by decide +kernel
theorem d_Pr_addScript_92 : decode M_Pr_addScript.2.1 92 = .ok (.ireturn, 1) := by decide +kernel
def F_Pr_addScript (a : Nat) (x1 : Int32) (x2 : Int32) (x3 : Int32) (x4 : Int32) (δ : Dl) : Option (Int32 × Dl) :=
  if (δ.1 31 a) < 0 then (some ((-4), δ)) else (if (δ.1 31 a) < 6 then (if inb (((δ.1 31 a) * 5) + 0) 30 then bnd (sA δ 34 a (((δ.1 31 a) * 5) + 0) x1) fun δ32 => if inb (((δ.1 31 a) * 5) + 1) 30 then bnd (sA δ32 34 a (((δ.1 31 a) * 5) + 1) x2) fun δ44 => if inb (((δ.1 31 a) * 5) + 2) 30 then bnd (sA δ44 34 a (((δ.1 31 a) * 5) + 2) x3) fun δ56 => if inb (((δ.1 31 a) * 5) + 3) 30 then bnd (sA δ56 34 a (((δ.1 31 a) * 5) + 3) x4) fun δ69 => if inb (((δ.1 31 a) * 5) + 4) 30 then bnd (sA δ69 34 a (((δ.1 31 a) * 5) + 4) (-1)) fun δ81 => bnd (sI δ81 31 a ((δ.1 31 a) + 1)) fun δ87 => some ((δ.1 31 a), δ87) else none else none else none else none else none) else (some ((-4), δ)))
set_option maxRecDepth 20000 in
set_option maxHeartbeats 4000000 in
theorem c_Pr_addScript {l : Launch} {Γ : Gm} (hG : GC Γ) (a : Nat) (x1 : Int32) (x2 : Int32) (x3 : Int32) (x4 : Int32) (ha : Oc a 3) (δ : Dl) (r : Int32 × Dl) (h : F_Pr_addScript a x1 x2 x3 x4  δ = some r) : Ct l M_Pr_addScript 0 0 0 NF [.inr (0, a), .inl x1, .inl x2, .inl x3, .inl x4] Γ δ (some (.inl r.1), Γ, r.2) := by
  unfold F_Pr_addScript at h
  have oa := hG.ob ha
  refine Ct.of2 (n := 1) (ls := [some (.inr (0, a)), some (.inl x1), some (.inl x2), some (.inl x3), some (.inl x4), none]) rfl (by decide +kernel) (Nat.le_of_ble_eq_true rfl) ?_
  refine x_aload_n (i := 0) d_Pr_addScript_0 rfl rfl ?_
  refine x_getI (f := 31) gl_Pr_15_3 rfl kf_31 oa d_Pr_addScript_1 ?_
  refine x_stw (i := 5) (ls' := [some (.inr (0, a)), some (.inl x1), some (.inl x2), some (.inl x3), some (.inl x4), some (.inl (δ.1 31 a))]) d_Pr_addScript_4 (by decide) rfl ?_
  refine x_iload (i := 5) d_Pr_addScript_6 rfl ?_
  refine x_if_lt (tgt := 18) d_Pr_addScript_8 (by decide) (fun c8 => ?_) (fun c8 => ?_)
  · have h := if_t c8 h
    refine x_bi (v := -4) d_Pr_addScript_18 (by decide) ?_
    replace h := Option.some.inj h; subst h
    exact x_iret rfl d_Pr_addScript_20 (Nat.le_refl 0) (Nat.le_refl 0)
  · have h := if_f c8 h
    refine x_iload (i := 5) d_Pr_addScript_11 rfl ?_
    refine x_bi (v := 6) d_Pr_addScript_13 (by decide) ?_
    refine x_cmp_lt (tgt := 21) d_Pr_addScript_15 (by decide) (fun c15 => ?_) (fun c15 => ?_)
    · have h := if_t c15 h
      refine x_aload_n (i := 0) d_Pr_addScript_21 rfl rfl ?_
      refine x_getA (f := 34) gl_Pr_25_3 rfl (by rw [kf_34]; decide) oa d_Pr_addScript_22 ?_
      refine x_iload (i := 5) d_Pr_addScript_25 rfl ?_
      refine x_ic (v := 5) d_Pr_addScript_27 (by decide) ?_
      refine x_imul d_Pr_addScript_28 ?_
      refine x_ic (v := 0) d_Pr_addScript_29 (by decide) ?_
      refine x_iadd d_Pr_addScript_30 ?_
      refine x_iload_n (i := 1) d_Pr_addScript_31 rfl rfl ?_
      obtain ⟨g32, h⟩ := gd_e h
      obtain ⟨δ32, eδ32, h⟩ := bn_e h
      refine x_iast (n := 30) kf_34 (oz_34 oa) (ln_34 _) g32 d_Pr_addScript_32 (Xe.cδ eδ32 ?_)
      refine x_aload_n (i := 0) d_Pr_addScript_33 rfl rfl ?_
      refine x_getA (f := 34) gl_Pr_25_3 rfl (by rw [kf_34]; decide) oa d_Pr_addScript_34 ?_
      refine x_iload (i := 5) d_Pr_addScript_37 rfl ?_
      refine x_ic (v := 5) d_Pr_addScript_39 (by decide) ?_
      refine x_imul d_Pr_addScript_40 ?_
      refine x_ic (v := 1) d_Pr_addScript_41 (by decide) ?_
      refine x_iadd d_Pr_addScript_42 ?_
      refine x_iload_n (i := 2) d_Pr_addScript_43 rfl rfl ?_
      obtain ⟨g44, h⟩ := gd_e h
      obtain ⟨δ44, eδ44, h⟩ := bn_e h
      refine x_iast (n := 30) kf_34 (oz_34 oa) (ln_34 _) g44 d_Pr_addScript_44 (Xe.cδ eδ44 ?_)
      refine x_aload_n (i := 0) d_Pr_addScript_45 rfl rfl ?_
      refine x_getA (f := 34) gl_Pr_25_3 rfl (by rw [kf_34]; decide) oa d_Pr_addScript_46 ?_
      refine x_iload (i := 5) d_Pr_addScript_49 rfl ?_
      refine x_ic (v := 5) d_Pr_addScript_51 (by decide) ?_
      refine x_imul d_Pr_addScript_52 ?_
      refine x_ic (v := 2) d_Pr_addScript_53 (by decide) ?_
      refine x_iadd d_Pr_addScript_54 ?_
      refine x_iload_n (i := 3) d_Pr_addScript_55 rfl rfl ?_
      obtain ⟨g56, h⟩ := gd_e h
      obtain ⟨δ56, eδ56, h⟩ := bn_e h
      refine x_iast (n := 30) kf_34 (oz_34 oa) (ln_34 _) g56 d_Pr_addScript_56 (Xe.cδ eδ56 ?_)
      refine x_aload_n (i := 0) d_Pr_addScript_57 rfl rfl ?_
      refine x_getA (f := 34) gl_Pr_25_3 rfl (by rw [kf_34]; decide) oa d_Pr_addScript_58 ?_
      refine x_iload (i := 5) d_Pr_addScript_61 rfl ?_
      refine x_ic (v := 5) d_Pr_addScript_63 (by decide) ?_
      refine x_imul d_Pr_addScript_64 ?_
      refine x_ic (v := 3) d_Pr_addScript_65 (by decide) ?_
      refine x_iadd d_Pr_addScript_66 ?_
      refine x_iload (i := 4) d_Pr_addScript_67 rfl ?_
      obtain ⟨g69, h⟩ := gd_e h
      obtain ⟨δ69, eδ69, h⟩ := bn_e h
      refine x_iast (n := 30) kf_34 (oz_34 oa) (ln_34 _) g69 d_Pr_addScript_69 (Xe.cδ eδ69 ?_)
      refine x_aload_n (i := 0) d_Pr_addScript_70 rfl rfl ?_
      refine x_getA (f := 34) gl_Pr_25_3 rfl (by rw [kf_34]; decide) oa d_Pr_addScript_71 ?_
      refine x_iload (i := 5) d_Pr_addScript_74 rfl ?_
      refine x_ic (v := 5) d_Pr_addScript_76 (by decide) ?_
      refine x_imul d_Pr_addScript_77 ?_
      refine x_ic (v := 4) d_Pr_addScript_78 (by decide) ?_
      refine x_iadd d_Pr_addScript_79 ?_
      refine x_ic (v := -1) d_Pr_addScript_80 (by decide) ?_
      obtain ⟨g81, h⟩ := gd_e h
      obtain ⟨δ81, eδ81, h⟩ := bn_e h
      refine x_iast (n := 30) kf_34 (oz_34 oa) (ln_34 _) g81 d_Pr_addScript_81 (Xe.cδ eδ81 ?_)
      refine x_aload_n (i := 0) d_Pr_addScript_82 rfl rfl ?_
      refine x_iload (i := 5) d_Pr_addScript_83 rfl ?_
      refine x_ic (v := 1) d_Pr_addScript_85 (by decide) ?_
      refine x_iadd d_Pr_addScript_86 ?_
      obtain ⟨δ87, eδ87, h⟩ := bn_e h
      refine x_putI (f := 31) gp_Pr_15_3 rfl kf_31 (fun h => by cases h) rfl rfl oa.1 oa.z d_Pr_addScript_87 (Xe.cδ eδ87 ?_)
      refine x_iload (i := 5) d_Pr_addScript_90 rfl ?_
      replace h := Option.some.inj h; subst h
      exact x_iret rfl d_Pr_addScript_92 (Nat.le_refl 0) (Nat.le_refl 0)
    · have h := if_f c15 h
      refine x_bi (v := -4) d_Pr_addScript_18 (by decide) ?_
      replace h := Option.some.inj h; subst h
      exact x_iret rfl d_Pr_addScript_20 (Nat.le_refl 0) (Nat.le_refl 0)
-- BlockStage$Program.isBlock(I)Z
theorem d_Pr_isBlock_0 : decode M_Pr_isBlock.2.1 0 = .ok (.iload_n 1, 1) := by decide +kernel
theorem d_Pr_isBlock_1 : decode M_Pr_isBlock.2.1 1 = .ok (.ifCond .lt 15, 3) := by decide +kernel
theorem d_Pr_isBlock_4 : decode M_Pr_isBlock.2.1 4 = .ok (.iload_n 1, 1) := by decide +kernel
theorem d_Pr_isBlock_5 : decode M_Pr_isBlock.2.1 5 = .ok (.aload_n 0, 1) := by decide +kernel
theorem d_Pr_isBlock_6 : decode M_Pr_isBlock.2.1 6 = .ok (.getfield 9, 3) := by decide +kernel
theorem d_Pr_isBlock_9 : decode M_Pr_isBlock.2.1 9 = .ok (.if_icmp .ge 7, 3) := by decide +kernel
theorem d_Pr_isBlock_12 : decode M_Pr_isBlock.2.1 12 = .ok (.iconst 1, 1) := by decide +kernel
theorem d_Pr_isBlock_13 : decode M_Pr_isBlock.2.1 13 = .ok (.goto 4, 3) := by decide +kernel
theorem d_Pr_isBlock_16 : decode M_Pr_isBlock.2.1 16 = .ok (.iconst 0, 1) := by decide +kernel
theorem d_Pr_isBlock_17 : decode M_Pr_isBlock.2.1 17 = .ok (.ireturn, 1) := by decide +kernel
def F_Pr_isBlock (a : Nat) (x1 : Int32) (δ : Dl) : Int32 :=
  if x1 < 0 then 0 else (if (δ.1 30 a) ≤ x1 then 0 else 1)
set_option maxRecDepth 20000 in
set_option maxHeartbeats 4000000 in
theorem c_Pr_isBlock {l : Launch} {Γ : Gm} (hG : GC Γ) (a : Nat) (x1 : Int32) (ha : Oc a 3) (δ : Dl) (r : Int32) (h : F_Pr_isBlock a x1  δ = r) : Ct l M_Pr_isBlock 0 0 0 NF [.inr (0, a), .inl x1] Γ δ (some (.inl r), Γ, δ) := by
  unfold F_Pr_isBlock at h
  have oa := hG.ob ha
  refine Ct.of2 (n := 0) (ls := [some (.inr (0, a)), some (.inl x1)]) rfl (by decide +kernel) (Nat.le_of_ble_eq_true rfl) ?_
  refine x_iload_n (i := 1) d_Pr_isBlock_0 rfl rfl ?_
  refine x_if_lt (tgt := 16) d_Pr_isBlock_1 (by decide) (fun c1 => ?_) (fun c1 => ?_)
  · have h := if_t c1 h
    refine x_ic (v := 0) d_Pr_isBlock_16 (by decide) ?_
    subst h
    exact x_nret rfl rfl d_Pr_isBlock_17 (Nat.le_refl 0) (Nat.le_refl 0)
  · have h := if_f c1 h
    refine x_iload_n (i := 1) d_Pr_isBlock_4 rfl rfl ?_
    refine x_aload_n (i := 0) d_Pr_isBlock_5 rfl rfl ?_
    refine x_getI (f := 30) gl_Pr_9_3 rfl kf_30 oa d_Pr_isBlock_6 ?_
    refine x_cmp_ge (tgt := 16) d_Pr_isBlock_9 (by decide) (fun c9 => ?_) (fun c9 => ?_)
    · have h := if_t c9 h
      refine x_ic (v := 0) d_Pr_isBlock_16 (by decide) ?_
      subst h
      exact x_nret rfl rfl d_Pr_isBlock_17 (Nat.le_refl 0) (Nat.le_refl 0)
    · have h := if_f c9 h
      refine x_ic (v := 1) d_Pr_isBlock_12 (by decide) ?_
      refine x_goto (tgt := 17) d_Pr_isBlock_13 (by decide) ?_
      subst h
      exact x_nret rfl rfl d_Pr_isBlock_17 (Nat.le_refl 0) (Nat.le_refl 0)
theorem b_Pr_isBlock {a : Nat} {x1 : Int32} {δ : Dl} : F_Pr_isBlock a x1  δ = 0 ∨ F_Pr_isBlock a x1  δ = 1 := by
  unfold F_Pr_isBlock
  try dsimp only [bnd]
  repeat' split
  all_goals first | exact Or.inl rfl | exact Or.inr rfl
-- BlockStage$Program.isScript(I)Z
theorem d_Pr_isScript_0 : decode M_Pr_isScript.2.1 0 = .ok (.iload_n 1, 1) := by decide +kernel
theorem d_Pr_isScript_1 : decode M_Pr_isScript.2.1 1 = .ok (.ifCond .lt 15, 3) := by decide +kernel
theorem d_Pr_isScript_4 : decode M_Pr_isScript.2.1 4 = .ok (.iload_n 1, 1) := by decide +kernel
theorem d_Pr_isScript_5 : decode M_Pr_isScript.2.1 5 = .ok (.aload_n 0, 1) := by decide +kernel
theorem d_Pr_isScript_6 : decode M_Pr_isScript.2.1 6 = .ok (.getfield 15, 3) := by decide +kernel
theorem d_Pr_isScript_9 : decode M_Pr_isScript.2.1 9 = .ok (.if_icmp .ge 7, 3) := by decide +kernel
theorem d_Pr_isScript_12 : decode M_Pr_isScript.2.1 12 = .ok (.iconst 1, 1) := by decide +kernel
theorem d_Pr_isScript_13 : decode M_Pr_isScript.2.1 13 = .ok (.goto 4, 3) := by decide +kernel
theorem d_Pr_isScript_16 : decode M_Pr_isScript.2.1 16 = .ok (.iconst 0, 1) := by decide +kernel
theorem d_Pr_isScript_17 : decode M_Pr_isScript.2.1 17 = .ok (.ireturn, 1) := by decide +kernel
def F_Pr_isScript (a : Nat) (x1 : Int32) (δ : Dl) : Int32 :=
  if x1 < 0 then 0 else (if (δ.1 31 a) ≤ x1 then 0 else 1)
set_option maxRecDepth 20000 in
set_option maxHeartbeats 4000000 in
theorem c_Pr_isScript {l : Launch} {Γ : Gm} (hG : GC Γ) (a : Nat) (x1 : Int32) (ha : Oc a 3) (δ : Dl) (r : Int32) (h : F_Pr_isScript a x1  δ = r) : Ct l M_Pr_isScript 0 0 0 NF [.inr (0, a), .inl x1] Γ δ (some (.inl r), Γ, δ) := by
  unfold F_Pr_isScript at h
  have oa := hG.ob ha
  refine Ct.of2 (n := 0) (ls := [some (.inr (0, a)), some (.inl x1)]) rfl (by decide +kernel) (Nat.le_of_ble_eq_true rfl) ?_
  refine x_iload_n (i := 1) d_Pr_isScript_0 rfl rfl ?_
  refine x_if_lt (tgt := 16) d_Pr_isScript_1 (by decide) (fun c1 => ?_) (fun c1 => ?_)
  · have h := if_t c1 h
    refine x_ic (v := 0) d_Pr_isScript_16 (by decide) ?_
    subst h
    exact x_nret rfl rfl d_Pr_isScript_17 (Nat.le_refl 0) (Nat.le_refl 0)
  · have h := if_f c1 h
    refine x_iload_n (i := 1) d_Pr_isScript_4 rfl rfl ?_
    refine x_aload_n (i := 0) d_Pr_isScript_5 rfl rfl ?_
    refine x_getI (f := 31) gl_Pr_15_3 rfl kf_31 oa d_Pr_isScript_6 ?_
    refine x_cmp_ge (tgt := 16) d_Pr_isScript_9 (by decide) (fun c9 => ?_) (fun c9 => ?_)
    · have h := if_t c9 h
      refine x_ic (v := 0) d_Pr_isScript_16 (by decide) ?_
      subst h
      exact x_nret rfl rfl d_Pr_isScript_17 (Nat.le_refl 0) (Nat.le_refl 0)
    · have h := if_f c9 h
      refine x_ic (v := 1) d_Pr_isScript_12 (by decide) ?_
      refine x_goto (tgt := 17) d_Pr_isScript_13 (by decide) ?_
      subst h
      exact x_nret rfl rfl d_Pr_isScript_17 (Nat.le_refl 0) (Nat.le_refl 0)
theorem b_Pr_isScript {a : Nat} {x1 : Int32} {δ : Dl} : F_Pr_isScript a x1  δ = 0 ∨ F_Pr_isScript a x1  δ = 1 := by
  unfold F_Pr_isScript
  try dsimp only [bnd]
  repeat' split
  all_goals first | exact Or.inl rfl | exact Or.inr rfl
-- BlockStage$Program.blockPart(II)I
theorem d_Pr_blockPart_0 : decode M_Pr_blockPart.2.1 0 = .ok (.iload_n 1, 1) := by decide +kernel
theorem d_Pr_blockPart_1 : decode M_Pr_blockPart.2.1 1 = .ok (.ifCond .lt 20, 3) := by decide +kernel
theorem d_Pr_blockPart_4 : decode M_Pr_blockPart.2.1 4 = .ok (.iload_n 1, 1) := by decide +kernel
theorem d_Pr_blockPart_5 : decode M_Pr_blockPart.2.1 5 = .ok (.aload_n 0, 1) := by decide +kernel
theorem d_Pr_blockPart_6 : decode M_Pr_blockPart.2.1 6 = .ok (.getfield 9, 3) := by decide +kernel
theorem d_Pr_blockPart_9 : decode M_Pr_blockPart.2.1 9 = .ok (.if_icmp .ge 12, 3) := by decide +kernel
theorem d_Pr_blockPart_12 : decode M_Pr_blockPart.2.1 12 = .ok (.iload_n 2, 1) := by decide +kernel
theorem d_Pr_blockPart_13 : decode M_Pr_blockPart.2.1 13 = .ok (.ifCond .lt 8, 3) := by decide +kernel
theorem d_Pr_blockPart_16 : decode M_Pr_blockPart.2.1 16 = .ok (.iload_n 2, 1) := by decide +kernel
theorem d_Pr_blockPart_17 : decode M_Pr_blockPart.2.1 17 = .ok (.iconst 5, 1) := by decide +kernel
theorem d_Pr_blockPart_18 : decode M_Pr_blockPart.2.1 18 = .ok (.if_icmp .lt 6, 3) := by decide +kernel
theorem d_Pr_blockPart_21 : decode M_Pr_blockPart.2.1 21 = .ok (.ldc 40, 2) := by decide +kernel
theorem d_Pr_blockPart_23 : decode M_Pr_blockPart.2.1 23 = .ok (.ireturn, 1) := by decide +kernel
theorem d_Pr_blockPart_24 : decode M_Pr_blockPart.2.1 24 = .ok (.aload_n 0, 1) := by decide +kernel
theorem d_Pr_blockPart_25 : decode M_Pr_blockPart.2.1 25 = .ok (.getfield 18, 3) := by decide +kernel
theorem d_Pr_blockPart_28 : decode M_Pr_blockPart.2.1 28 = .ok (.iload_n 1, 1) := by decide +kernel
theorem d_Pr_blockPart_29 : decode M_Pr_blockPart.2.1 29 = .ok (.iconst 5, 1) := by decide +kernel
theorem d_Pr_blockPart_30 : decode M_Pr_blockPart.2.1 30 = .ok (.imul, 1) := by decide +kernel
theorem d_Pr_blockPart_31 : decode M_Pr_blockPart.2.1 31 = .ok (.iload_n 2, 1) := by decide +kernel
theorem d_Pr_blockPart_32 : decode M_Pr_blockPart.2.1 32 = .ok (.iadd, 1) := by decide +kernel
theorem d_Pr_blockPart_33 : decode M_Pr_blockPart.2.1 33 = .ok (.iaload, 1) := by decide +kernel
theorem d_Pr_blockPart_34 : decode M_Pr_blockPart.2.1 34 = .ok (.ireturn, 1) := by decide +kernel
theorem kc_Pr_40 : Cond.constant RX3 40 (-2147483648) ∈ lwg := (lwg_at 509 (by decide +kernel) rfl)
def F_Pr_blockPart (a : Nat) (x1 : Int32) (x2 : Int32) (δ : Dl) : Option (Int32) :=
  if x1 < 0 then (some (-2147483648)) else (if (δ.1 30 a) ≤ x1 then (some (-2147483648)) else (if x2 < 0 then (some (-2147483648)) else (if x2 < 5 then (if inb ((x1 * 5) + x2) 150 then some (δ.2.1 32 a ((x1 * 5) + x2)) else none) else (some (-2147483648)))))
set_option maxRecDepth 20000 in
set_option maxHeartbeats 4000000 in
theorem c_Pr_blockPart {l : Launch} {Γ : Gm} (hG : GC Γ) (a : Nat) (x1 : Int32) (x2 : Int32) (ha : Oc a 3) (δ : Dl) (r : Int32) (h : F_Pr_blockPart a x1 x2  δ = some r) : Ct l M_Pr_blockPart 0 0 0 NF [.inr (0, a), .inl x1, .inl x2] Γ δ (some (.inl r), Γ, δ) := by
  unfold F_Pr_blockPart at h
  have oa := hG.ob ha
  refine Ct.of2 (n := 0) (ls := [some (.inr (0, a)), some (.inl x1), some (.inl x2)]) rfl (by decide +kernel) (Nat.le_of_ble_eq_true rfl) ?_
  refine x_iload_n (i := 1) d_Pr_blockPart_0 rfl rfl ?_
  refine x_if_lt (tgt := 21) d_Pr_blockPart_1 (by decide) (fun c1 => ?_) (fun c1 => ?_)
  · have h := if_t c1 h
    refine x_ldc (v := -2147483648) kc_Pr_40 d_Pr_blockPart_21 ?_
    replace h := Option.some.inj h; subst h
    exact x_iret rfl d_Pr_blockPart_23 (Nat.le_refl 0) (Nat.le_refl 0)
  · have h := if_f c1 h
    refine x_iload_n (i := 1) d_Pr_blockPart_4 rfl rfl ?_
    refine x_aload_n (i := 0) d_Pr_blockPart_5 rfl rfl ?_
    refine x_getI (f := 30) gl_Pr_9_3 rfl kf_30 oa d_Pr_blockPart_6 ?_
    refine x_cmp_ge (tgt := 21) d_Pr_blockPart_9 (by decide) (fun c9 => ?_) (fun c9 => ?_)
    · have h := if_t c9 h
      refine x_ldc (v := -2147483648) kc_Pr_40 d_Pr_blockPart_21 ?_
      replace h := Option.some.inj h; subst h
      exact x_iret rfl d_Pr_blockPart_23 (Nat.le_refl 0) (Nat.le_refl 0)
    · have h := if_f c9 h
      refine x_iload_n (i := 2) d_Pr_blockPart_12 rfl rfl ?_
      refine x_if_lt (tgt := 21) d_Pr_blockPart_13 (by decide) (fun c13 => ?_) (fun c13 => ?_)
      · have h := if_t c13 h
        refine x_ldc (v := -2147483648) kc_Pr_40 d_Pr_blockPart_21 ?_
        replace h := Option.some.inj h; subst h
        exact x_iret rfl d_Pr_blockPart_23 (Nat.le_refl 0) (Nat.le_refl 0)
      · have h := if_f c13 h
        refine x_iload_n (i := 2) d_Pr_blockPart_16 rfl rfl ?_
        refine x_ic (v := 5) d_Pr_blockPart_17 (by decide) ?_
        refine x_cmp_lt (tgt := 24) d_Pr_blockPart_18 (by decide) (fun c18 => ?_) (fun c18 => ?_)
        · have h := if_t c18 h
          refine x_aload_n (i := 0) d_Pr_blockPart_24 rfl rfl ?_
          refine x_getA (f := 32) gl_Pr_18_3 rfl (by rw [kf_32]; decide) oa d_Pr_blockPart_25 ?_
          refine x_iload_n (i := 1) d_Pr_blockPart_28 rfl rfl ?_
          refine x_ic (v := 5) d_Pr_blockPart_29 (by decide) ?_
          refine x_imul d_Pr_blockPart_30 ?_
          refine x_iload_n (i := 2) d_Pr_blockPart_31 rfl rfl ?_
          refine x_iadd d_Pr_blockPart_32 ?_
          obtain ⟨g33, h⟩ := gd_e h
          refine x_iald (n := 150) kf_32 (oz_32 oa) (ln_32 _) g33 d_Pr_blockPart_33 ?_
          replace h := Option.some.inj h; subst h
          exact x_iret rfl d_Pr_blockPart_34 (Nat.le_refl 0) (Nat.le_refl 0)
        · have h := if_f c18 h
          refine x_ldc (v := -2147483648) kc_Pr_40 d_Pr_blockPart_21 ?_
          replace h := Option.some.inj h; subst h
          exact x_iret rfl d_Pr_blockPart_23 (Nat.le_refl 0) (Nat.le_refl 0)
-- BlockStage$Program.scriptPart(II)I
theorem d_Pr_scriptPart_0 : decode M_Pr_scriptPart.2.1 0 = .ok (.iload_n 1, 1) := by decide +kernel
theorem d_Pr_scriptPart_1 : decode M_Pr_scriptPart.2.1 1 = .ok (.ifCond .lt 20, 3) := by decide +kernel
theorem d_Pr_scriptPart_4 : decode M_Pr_scriptPart.2.1 4 = .ok (.iload_n 1, 1) := by decide +kernel
theorem d_Pr_scriptPart_5 : decode M_Pr_scriptPart.2.1 5 = .ok (.aload_n 0, 1) := by decide +kernel
theorem d_Pr_scriptPart_6 : decode M_Pr_scriptPart.2.1 6 = .ok (.getfield 15, 3) := by decide +kernel
theorem d_Pr_scriptPart_9 : decode M_Pr_scriptPart.2.1 9 = .ok (.if_icmp .ge 12, 3) := by decide +kernel
theorem d_Pr_scriptPart_12 : decode M_Pr_scriptPart.2.1 12 = .ok (.iload_n 2, 1) := by decide +kernel
theorem d_Pr_scriptPart_13 : decode M_Pr_scriptPart.2.1 13 = .ok (.ifCond .lt 8, 3) := by decide +kernel
theorem d_Pr_scriptPart_16 : decode M_Pr_scriptPart.2.1 16 = .ok (.iload_n 2, 1) := by decide +kernel
theorem d_Pr_scriptPart_17 : decode M_Pr_scriptPart.2.1 17 = .ok (.iconst 5, 1) := by decide +kernel
theorem d_Pr_scriptPart_18 : decode M_Pr_scriptPart.2.1 18 = .ok (.if_icmp .lt 6, 3) := by decide +kernel
theorem d_Pr_scriptPart_21 : decode M_Pr_scriptPart.2.1 21 = .ok (.ldc 40, 2) := by decide +kernel
theorem d_Pr_scriptPart_23 : decode M_Pr_scriptPart.2.1 23 = .ok (.ireturn, 1) := by decide +kernel
theorem d_Pr_scriptPart_24 : decode M_Pr_scriptPart.2.1 24 = .ok (.aload_n 0, 1) := by decide +kernel
theorem d_Pr_scriptPart_25 : decode M_Pr_scriptPart.2.1 25 = .ok (.getfield 25, 3) := by decide +kernel
theorem d_Pr_scriptPart_28 : decode M_Pr_scriptPart.2.1 28 = .ok (.iload_n 1, 1) := by decide +kernel
theorem d_Pr_scriptPart_29 : decode M_Pr_scriptPart.2.1 29 = .ok (.iconst 5, 1) := by decide +kernel
theorem d_Pr_scriptPart_30 : decode M_Pr_scriptPart.2.1 30 = .ok (.imul, 1) := by decide +kernel
theorem d_Pr_scriptPart_31 : decode M_Pr_scriptPart.2.1 31 = .ok (.iload_n 2, 1) := by decide +kernel
theorem d_Pr_scriptPart_32 : decode M_Pr_scriptPart.2.1 32 = .ok (.iadd, 1) := by decide +kernel
theorem d_Pr_scriptPart_33 : decode M_Pr_scriptPart.2.1 33 = .ok (.iaload, 1) := by decide +kernel
theorem d_Pr_scriptPart_34 : decode M_Pr_scriptPart.2.1 34 = .ok (.ireturn, 1) := by decide +kernel
def F_Pr_scriptPart (a : Nat) (x1 : Int32) (x2 : Int32) (δ : Dl) : Option (Int32) :=
  if x1 < 0 then (some (-2147483648)) else (if (δ.1 31 a) ≤ x1 then (some (-2147483648)) else (if x2 < 0 then (some (-2147483648)) else (if x2 < 5 then (if inb ((x1 * 5) + x2) 30 then some (δ.2.1 34 a ((x1 * 5) + x2)) else none) else (some (-2147483648)))))
set_option maxRecDepth 20000 in
set_option maxHeartbeats 4000000 in
theorem c_Pr_scriptPart {l : Launch} {Γ : Gm} (hG : GC Γ) (a : Nat) (x1 : Int32) (x2 : Int32) (ha : Oc a 3) (δ : Dl) (r : Int32) (h : F_Pr_scriptPart a x1 x2  δ = some r) : Ct l M_Pr_scriptPart 0 0 0 NF [.inr (0, a), .inl x1, .inl x2] Γ δ (some (.inl r), Γ, δ) := by
  unfold F_Pr_scriptPart at h
  have oa := hG.ob ha
  refine Ct.of2 (n := 0) (ls := [some (.inr (0, a)), some (.inl x1), some (.inl x2)]) rfl (by decide +kernel) (Nat.le_of_ble_eq_true rfl) ?_
  refine x_iload_n (i := 1) d_Pr_scriptPart_0 rfl rfl ?_
  refine x_if_lt (tgt := 21) d_Pr_scriptPart_1 (by decide) (fun c1 => ?_) (fun c1 => ?_)
  · have h := if_t c1 h
    refine x_ldc (v := -2147483648) kc_Pr_40 d_Pr_scriptPart_21 ?_
    replace h := Option.some.inj h; subst h
    exact x_iret rfl d_Pr_scriptPart_23 (Nat.le_refl 0) (Nat.le_refl 0)
  · have h := if_f c1 h
    refine x_iload_n (i := 1) d_Pr_scriptPart_4 rfl rfl ?_
    refine x_aload_n (i := 0) d_Pr_scriptPart_5 rfl rfl ?_
    refine x_getI (f := 31) gl_Pr_15_3 rfl kf_31 oa d_Pr_scriptPart_6 ?_
    refine x_cmp_ge (tgt := 21) d_Pr_scriptPart_9 (by decide) (fun c9 => ?_) (fun c9 => ?_)
    · have h := if_t c9 h
      refine x_ldc (v := -2147483648) kc_Pr_40 d_Pr_scriptPart_21 ?_
      replace h := Option.some.inj h; subst h
      exact x_iret rfl d_Pr_scriptPart_23 (Nat.le_refl 0) (Nat.le_refl 0)
    · have h := if_f c9 h
      refine x_iload_n (i := 2) d_Pr_scriptPart_12 rfl rfl ?_
      refine x_if_lt (tgt := 21) d_Pr_scriptPart_13 (by decide) (fun c13 => ?_) (fun c13 => ?_)
      · have h := if_t c13 h
        refine x_ldc (v := -2147483648) kc_Pr_40 d_Pr_scriptPart_21 ?_
        replace h := Option.some.inj h; subst h
        exact x_iret rfl d_Pr_scriptPart_23 (Nat.le_refl 0) (Nat.le_refl 0)
      · have h := if_f c13 h
        refine x_iload_n (i := 2) d_Pr_scriptPart_16 rfl rfl ?_
        refine x_ic (v := 5) d_Pr_scriptPart_17 (by decide) ?_
        refine x_cmp_lt (tgt := 24) d_Pr_scriptPart_18 (by decide) (fun c18 => ?_) (fun c18 => ?_)
        · have h := if_t c18 h
          refine x_aload_n (i := 0) d_Pr_scriptPart_24 rfl rfl ?_
          refine x_getA (f := 34) gl_Pr_25_3 rfl (by rw [kf_34]; decide) oa d_Pr_scriptPart_25 ?_
          refine x_iload_n (i := 1) d_Pr_scriptPart_28 rfl rfl ?_
          refine x_ic (v := 5) d_Pr_scriptPart_29 (by decide) ?_
          refine x_imul d_Pr_scriptPart_30 ?_
          refine x_iload_n (i := 2) d_Pr_scriptPart_31 rfl rfl ?_
          refine x_iadd d_Pr_scriptPart_32 ?_
          obtain ⟨g33, h⟩ := gd_e h
          refine x_iald (n := 30) kf_34 (oz_34 oa) (ln_34 _) g33 d_Pr_scriptPart_33 ?_
          replace h := Option.some.inj h; subst h
          exact x_iret rfl d_Pr_scriptPart_34 (Nat.le_refl 0) (Nat.le_refl 0)
        · have h := if_f c18 h
          refine x_ldc (v := -2147483648) kc_Pr_40 d_Pr_scriptPart_21 ?_
          replace h := Option.some.inj h; subst h
          exact x_iret rfl d_Pr_scriptPart_23 (Nat.le_refl 0) (Nat.le_refl 0)
-- BlockStage$Program.kindOf(I)I
theorem d_Pr_kindOf_0 : decode M_Pr_kindOf.2.1 0 = .ok (.iload_n 1, 1) := by decide +kernel
theorem d_Pr_kindOf_1 : decode M_Pr_kindOf.2.1 1 = .ok (.ifCond .lt 24, 3) := by decide +kernel
theorem d_Pr_kindOf_4 : decode M_Pr_kindOf.2.1 4 = .ok (.iload_n 1, 1) := by decide +kernel
theorem d_Pr_kindOf_5 : decode M_Pr_kindOf.2.1 5 = .ok (.aload_n 0, 1) := by decide +kernel
theorem d_Pr_kindOf_6 : decode M_Pr_kindOf.2.1 6 = .ok (.getfield 9, 3) := by decide +kernel
theorem d_Pr_kindOf_9 : decode M_Pr_kindOf.2.1 9 = .ok (.if_icmp .ge 16, 3) := by decide +kernel
theorem d_Pr_kindOf_12 : decode M_Pr_kindOf.2.1 12 = .ok (.aload_n 0, 1) := by decide +kernel
theorem d_Pr_kindOf_13 : decode M_Pr_kindOf.2.1 13 = .ok (.getfield 18, 3) := by decide +kernel
theorem d_Pr_kindOf_16 : decode M_Pr_kindOf.2.1 16 = .ok (.iload_n 1, 1) := by decide +kernel
theorem d_Pr_kindOf_17 : decode M_Pr_kindOf.2.1 17 = .ok (.iconst 5, 1) := by decide +kernel
theorem d_Pr_kindOf_18 : decode M_Pr_kindOf.2.1 18 = .ok (.imul, 1) := by decide +kernel
theorem d_Pr_kindOf_19 : decode M_Pr_kindOf.2.1 19 = .ok (.iconst 0, 1) := by decide +kernel
theorem d_Pr_kindOf_20 : decode M_Pr_kindOf.2.1 20 = .ok (.iadd, 1) := by decide +kernel
theorem d_Pr_kindOf_21 : decode M_Pr_kindOf.2.1 21 = .ok (.iaload, 1) := by decide +kernel
theorem d_Pr_kindOf_22 : decode M_Pr_kindOf.2.1 22 = .ok (.goto 4, 3) := by decide +kernel
theorem d_Pr_kindOf_25 : decode M_Pr_kindOf.2.1 25 = .ok (.iconst (-1), 1) := by decide +kernel
theorem d_Pr_kindOf_26 : decode M_Pr_kindOf.2.1 26 = .ok (.ireturn, 1) := by decide +kernel
def F_Pr_kindOf (a : Nat) (x1 : Int32) (δ : Dl) : Option (Int32) :=
  if x1 < 0 then (some (-1)) else (if (δ.1 30 a) ≤ x1 then (some (-1)) else (if inb ((x1 * 5) + 0) 150 then some (δ.2.1 32 a ((x1 * 5) + 0)) else none))
set_option maxRecDepth 20000 in
set_option maxHeartbeats 4000000 in
theorem c_Pr_kindOf {l : Launch} {Γ : Gm} (hG : GC Γ) (a : Nat) (x1 : Int32) (ha : Oc a 3) (δ : Dl) (r : Int32) (h : F_Pr_kindOf a x1  δ = some r) : Ct l M_Pr_kindOf 0 0 0 NF [.inr (0, a), .inl x1] Γ δ (some (.inl r), Γ, δ) := by
  unfold F_Pr_kindOf at h
  have oa := hG.ob ha
  refine Ct.of2 (n := 0) (ls := [some (.inr (0, a)), some (.inl x1)]) rfl (by decide +kernel) (Nat.le_of_ble_eq_true rfl) ?_
  refine x_iload_n (i := 1) d_Pr_kindOf_0 rfl rfl ?_
  refine x_if_lt (tgt := 25) d_Pr_kindOf_1 (by decide) (fun c1 => ?_) (fun c1 => ?_)
  · have h := if_t c1 h
    refine x_ic (v := -1) d_Pr_kindOf_25 (by decide) ?_
    replace h := Option.some.inj h; subst h
    exact x_iret rfl d_Pr_kindOf_26 (Nat.le_refl 0) (Nat.le_refl 0)
  · have h := if_f c1 h
    refine x_iload_n (i := 1) d_Pr_kindOf_4 rfl rfl ?_
    refine x_aload_n (i := 0) d_Pr_kindOf_5 rfl rfl ?_
    refine x_getI (f := 30) gl_Pr_9_3 rfl kf_30 oa d_Pr_kindOf_6 ?_
    refine x_cmp_ge (tgt := 25) d_Pr_kindOf_9 (by decide) (fun c9 => ?_) (fun c9 => ?_)
    · have h := if_t c9 h
      refine x_ic (v := -1) d_Pr_kindOf_25 (by decide) ?_
      replace h := Option.some.inj h; subst h
      exact x_iret rfl d_Pr_kindOf_26 (Nat.le_refl 0) (Nat.le_refl 0)
    · have h := if_f c9 h
      refine x_aload_n (i := 0) d_Pr_kindOf_12 rfl rfl ?_
      refine x_getA (f := 32) gl_Pr_18_3 rfl (by rw [kf_32]; decide) oa d_Pr_kindOf_13 ?_
      refine x_iload_n (i := 1) d_Pr_kindOf_16 rfl rfl ?_
      refine x_ic (v := 5) d_Pr_kindOf_17 (by decide) ?_
      refine x_imul d_Pr_kindOf_18 ?_
      refine x_ic (v := 0) d_Pr_kindOf_19 (by decide) ?_
      refine x_iadd d_Pr_kindOf_20 ?_
      obtain ⟨g21, h⟩ := gd_e h
      refine x_iald (n := 150) kf_32 (oz_32 oa) (ln_32 _) g21 d_Pr_kindOf_21 ?_
      refine x_goto (tgt := 26) d_Pr_kindOf_22 (by decide) ?_
      replace h := Option.some.inj h; subst h
      exact x_iret rfl d_Pr_kindOf_26 (Nat.le_refl 0) (Nat.le_refl 0)
-- BlockStage$Program.numberOf(I)I
theorem d_Pr_numberOf_0 : decode M_Pr_numberOf.2.1 0 = .ok (.iload_n 1, 1) := by decide +kernel
theorem d_Pr_numberOf_1 : decode M_Pr_numberOf.2.1 1 = .ok (.ifCond .lt 24, 3) := by decide +kernel
theorem d_Pr_numberOf_4 : decode M_Pr_numberOf.2.1 4 = .ok (.iload_n 1, 1) := by decide +kernel
theorem d_Pr_numberOf_5 : decode M_Pr_numberOf.2.1 5 = .ok (.aload_n 0, 1) := by decide +kernel
theorem d_Pr_numberOf_6 : decode M_Pr_numberOf.2.1 6 = .ok (.getfield 9, 3) := by decide +kernel
theorem d_Pr_numberOf_9 : decode M_Pr_numberOf.2.1 9 = .ok (.if_icmp .ge 16, 3) := by decide +kernel
theorem d_Pr_numberOf_12 : decode M_Pr_numberOf.2.1 12 = .ok (.aload_n 0, 1) := by decide +kernel
theorem d_Pr_numberOf_13 : decode M_Pr_numberOf.2.1 13 = .ok (.getfield 18, 3) := by decide +kernel
theorem d_Pr_numberOf_16 : decode M_Pr_numberOf.2.1 16 = .ok (.iload_n 1, 1) := by decide +kernel
theorem d_Pr_numberOf_17 : decode M_Pr_numberOf.2.1 17 = .ok (.iconst 5, 1) := by decide +kernel
theorem d_Pr_numberOf_18 : decode M_Pr_numberOf.2.1 18 = .ok (.imul, 1) := by decide +kernel
theorem d_Pr_numberOf_19 : decode M_Pr_numberOf.2.1 19 = .ok (.iconst 1, 1) := by decide +kernel
theorem d_Pr_numberOf_20 : decode M_Pr_numberOf.2.1 20 = .ok (.iadd, 1) := by decide +kernel
theorem d_Pr_numberOf_21 : decode M_Pr_numberOf.2.1 21 = .ok (.iaload, 1) := by decide +kernel
theorem d_Pr_numberOf_22 : decode M_Pr_numberOf.2.1 22 = .ok (.goto 4, 3) := by decide +kernel
theorem d_Pr_numberOf_25 : decode M_Pr_numberOf.2.1 25 = .ok (.iconst 0, 1) := by decide +kernel
theorem d_Pr_numberOf_26 : decode M_Pr_numberOf.2.1 26 = .ok (.ireturn, 1) := by decide +kernel
def F_Pr_numberOf (a : Nat) (x1 : Int32) (δ : Dl) : Option (Int32) :=
  if x1 < 0 then (some 0) else (if (δ.1 30 a) ≤ x1 then (some 0) else (if inb ((x1 * 5) + 1) 150 then some (δ.2.1 32 a ((x1 * 5) + 1)) else none))
set_option maxRecDepth 20000 in
set_option maxHeartbeats 4000000 in
theorem c_Pr_numberOf {l : Launch} {Γ : Gm} (hG : GC Γ) (a : Nat) (x1 : Int32) (ha : Oc a 3) (δ : Dl) (r : Int32) (h : F_Pr_numberOf a x1  δ = some r) : Ct l M_Pr_numberOf 0 0 0 NF [.inr (0, a), .inl x1] Γ δ (some (.inl r), Γ, δ) := by
  unfold F_Pr_numberOf at h
  have oa := hG.ob ha
  refine Ct.of2 (n := 0) (ls := [some (.inr (0, a)), some (.inl x1)]) rfl (by decide +kernel) (Nat.le_of_ble_eq_true rfl) ?_
  refine x_iload_n (i := 1) d_Pr_numberOf_0 rfl rfl ?_
  refine x_if_lt (tgt := 25) d_Pr_numberOf_1 (by decide) (fun c1 => ?_) (fun c1 => ?_)
  · have h := if_t c1 h
    refine x_ic (v := 0) d_Pr_numberOf_25 (by decide) ?_
    replace h := Option.some.inj h; subst h
    exact x_iret rfl d_Pr_numberOf_26 (Nat.le_refl 0) (Nat.le_refl 0)
  · have h := if_f c1 h
    refine x_iload_n (i := 1) d_Pr_numberOf_4 rfl rfl ?_
    refine x_aload_n (i := 0) d_Pr_numberOf_5 rfl rfl ?_
    refine x_getI (f := 30) gl_Pr_9_3 rfl kf_30 oa d_Pr_numberOf_6 ?_
    refine x_cmp_ge (tgt := 25) d_Pr_numberOf_9 (by decide) (fun c9 => ?_) (fun c9 => ?_)
    · have h := if_t c9 h
      refine x_ic (v := 0) d_Pr_numberOf_25 (by decide) ?_
      replace h := Option.some.inj h; subst h
      exact x_iret rfl d_Pr_numberOf_26 (Nat.le_refl 0) (Nat.le_refl 0)
    · have h := if_f c9 h
      refine x_aload_n (i := 0) d_Pr_numberOf_12 rfl rfl ?_
      refine x_getA (f := 32) gl_Pr_18_3 rfl (by rw [kf_32]; decide) oa d_Pr_numberOf_13 ?_
      refine x_iload_n (i := 1) d_Pr_numberOf_16 rfl rfl ?_
      refine x_ic (v := 5) d_Pr_numberOf_17 (by decide) ?_
      refine x_imul d_Pr_numberOf_18 ?_
      refine x_ic (v := 1) d_Pr_numberOf_19 (by decide) ?_
      refine x_iadd d_Pr_numberOf_20 ?_
      obtain ⟨g21, h⟩ := gd_e h
      refine x_iald (n := 150) kf_32 (oz_32 oa) (ln_32 _) g21 d_Pr_numberOf_21 ?_
      refine x_goto (tgt := 26) d_Pr_numberOf_22 (by decide) ?_
      replace h := Option.some.inj h; subst h
      exact x_iret rfl d_Pr_numberOf_26 (Nat.le_refl 0) (Nat.le_refl 0)
-- BlockStage$Program.setNumber(II)V
theorem d_Pr_setNumber_0 : decode M_Pr_setNumber.2.1 0 = .ok (.iload_n 1, 1) := by decide +kernel
theorem d_Pr_setNumber_1 : decode M_Pr_setNumber.2.1 1 = .ok (.ifCond .lt 22, 3) := by decide +kernel
theorem d_Pr_setNumber_4 : decode M_Pr_setNumber.2.1 4 = .ok (.iload_n 1, 1) := by decide +kernel
theorem d_Pr_setNumber_5 : decode M_Pr_setNumber.2.1 5 = .ok (.aload_n 0, 1) := by decide +kernel
theorem d_Pr_setNumber_6 : decode M_Pr_setNumber.2.1 6 = .ok (.getfield 9, 3) := by decide +kernel
theorem d_Pr_setNumber_9 : decode M_Pr_setNumber.2.1 9 = .ok (.if_icmp .ge 14, 3) := by decide +kernel
theorem d_Pr_setNumber_12 : decode M_Pr_setNumber.2.1 12 = .ok (.aload_n 0, 1) := by decide +kernel
theorem d_Pr_setNumber_13 : decode M_Pr_setNumber.2.1 13 = .ok (.getfield 18, 3) := by decide +kernel
theorem d_Pr_setNumber_16 : decode M_Pr_setNumber.2.1 16 = .ok (.iload_n 1, 1) := by decide +kernel
theorem d_Pr_setNumber_17 : decode M_Pr_setNumber.2.1 17 = .ok (.iconst 5, 1) := by decide +kernel
theorem d_Pr_setNumber_18 : decode M_Pr_setNumber.2.1 18 = .ok (.imul, 1) := by decide +kernel
theorem d_Pr_setNumber_19 : decode M_Pr_setNumber.2.1 19 = .ok (.iconst 1, 1) := by decide +kernel
theorem d_Pr_setNumber_20 : decode M_Pr_setNumber.2.1 20 = .ok (.iadd, 1) := by decide +kernel
theorem d_Pr_setNumber_21 : decode M_Pr_setNumber.2.1 21 = .ok (.iload_n 2, 1) := by decide +kernel
theorem d_Pr_setNumber_22 : decode M_Pr_setNumber.2.1 22 = .ok (.iastore, 1) := by decide +kernel
theorem d_Pr_setNumber_23 : decode M_Pr_setNumber.2.1 23 = .ok (.return_, 1) := by decide +kernel
def F_Pr_setNumber (a : Nat) (x1 : Int32) (x2 : Int32) (δ : Dl) : Option (Dl) :=
  if x1 < 0 then (some δ) else (if (δ.1 30 a) ≤ x1 then (some δ) else (if inb ((x1 * 5) + 1) 150 then bnd (sA δ 32 a ((x1 * 5) + 1) x2) fun δ22 => some δ22 else none))
set_option maxRecDepth 20000 in
set_option maxHeartbeats 4000000 in
theorem c_Pr_setNumber {l : Launch} {Γ : Gm} (hG : GC Γ) (a : Nat) (x1 : Int32) (x2 : Int32) (ha : Oc a 3) (δ : Dl) (r : Dl) (h : F_Pr_setNumber a x1 x2  δ = some r) : Ct l M_Pr_setNumber 0 0 0 NF [.inr (0, a), .inl x1, .inl x2] Γ δ (none, Γ, r) := by
  unfold F_Pr_setNumber at h
  have oa := hG.ob ha
  refine Ct.of2 (n := 0) (ls := [some (.inr (0, a)), some (.inl x1), some (.inl x2)]) rfl (by decide +kernel) (Nat.le_of_ble_eq_true rfl) ?_
  refine x_iload_n (i := 1) d_Pr_setNumber_0 rfl rfl ?_
  refine x_if_lt (tgt := 23) d_Pr_setNumber_1 (by decide) (fun c1 => ?_) (fun c1 => ?_)
  · have h := if_t c1 h
    replace h := Option.some.inj h; subst h
    exact x_vret rfl d_Pr_setNumber_23 (Nat.le_refl 0) (Nat.le_refl 0)
  · have h := if_f c1 h
    refine x_iload_n (i := 1) d_Pr_setNumber_4 rfl rfl ?_
    refine x_aload_n (i := 0) d_Pr_setNumber_5 rfl rfl ?_
    refine x_getI (f := 30) gl_Pr_9_3 rfl kf_30 oa d_Pr_setNumber_6 ?_
    refine x_cmp_ge (tgt := 23) d_Pr_setNumber_9 (by decide) (fun c9 => ?_) (fun c9 => ?_)
    · have h := if_t c9 h
      replace h := Option.some.inj h; subst h
      exact x_vret rfl d_Pr_setNumber_23 (Nat.le_refl 0) (Nat.le_refl 0)
    · have h := if_f c9 h
      refine x_aload_n (i := 0) d_Pr_setNumber_12 rfl rfl ?_
      refine x_getA (f := 32) gl_Pr_18_3 rfl (by rw [kf_32]; decide) oa d_Pr_setNumber_13 ?_
      refine x_iload_n (i := 1) d_Pr_setNumber_16 rfl rfl ?_
      refine x_ic (v := 5) d_Pr_setNumber_17 (by decide) ?_
      refine x_imul d_Pr_setNumber_18 ?_
      refine x_ic (v := 1) d_Pr_setNumber_19 (by decide) ?_
      refine x_iadd d_Pr_setNumber_20 ?_
      refine x_iload_n (i := 2) d_Pr_setNumber_21 rfl rfl ?_
      obtain ⟨g22, h⟩ := gd_e h
      obtain ⟨δ22, eδ22, h⟩ := bn_e h
      refine x_iast (n := 150) kf_32 (oz_32 oa) (ln_32 _) g22 d_Pr_setNumber_22 (Xe.cδ eδ22 ?_)
      replace h := Option.some.inj h; subst h
      exact x_vret rfl d_Pr_setNumber_23 (Nat.le_refl 0) (Nat.le_refl 0)
-- BlockStage$Program.actorOf(I)I
theorem d_Pr_actorOf_0 : decode M_Pr_actorOf.2.1 0 = .ok (.iload_n 1, 1) := by decide +kernel
theorem d_Pr_actorOf_1 : decode M_Pr_actorOf.2.1 1 = .ok (.ifCond .lt 24, 3) := by decide +kernel
theorem d_Pr_actorOf_4 : decode M_Pr_actorOf.2.1 4 = .ok (.iload_n 1, 1) := by decide +kernel
theorem d_Pr_actorOf_5 : decode M_Pr_actorOf.2.1 5 = .ok (.aload_n 0, 1) := by decide +kernel
theorem d_Pr_actorOf_6 : decode M_Pr_actorOf.2.1 6 = .ok (.getfield 15, 3) := by decide +kernel
theorem d_Pr_actorOf_9 : decode M_Pr_actorOf.2.1 9 = .ok (.if_icmp .ge 16, 3) := by decide +kernel
theorem d_Pr_actorOf_12 : decode M_Pr_actorOf.2.1 12 = .ok (.aload_n 0, 1) := by decide +kernel
theorem d_Pr_actorOf_13 : decode M_Pr_actorOf.2.1 13 = .ok (.getfield 25, 3) := by decide +kernel
theorem d_Pr_actorOf_16 : decode M_Pr_actorOf.2.1 16 = .ok (.iload_n 1, 1) := by decide +kernel
theorem d_Pr_actorOf_17 : decode M_Pr_actorOf.2.1 17 = .ok (.iconst 5, 1) := by decide +kernel
theorem d_Pr_actorOf_18 : decode M_Pr_actorOf.2.1 18 = .ok (.imul, 1) := by decide +kernel
theorem d_Pr_actorOf_19 : decode M_Pr_actorOf.2.1 19 = .ok (.iconst 0, 1) := by decide +kernel
theorem d_Pr_actorOf_20 : decode M_Pr_actorOf.2.1 20 = .ok (.iadd, 1) := by decide +kernel
theorem d_Pr_actorOf_21 : decode M_Pr_actorOf.2.1 21 = .ok (.iaload, 1) := by decide +kernel
theorem d_Pr_actorOf_22 : decode M_Pr_actorOf.2.1 22 = .ok (.goto 4, 3) := by decide +kernel
theorem d_Pr_actorOf_25 : decode M_Pr_actorOf.2.1 25 = .ok (.iconst (-1), 1) := by decide +kernel
theorem d_Pr_actorOf_26 : decode M_Pr_actorOf.2.1 26 = .ok (.ireturn, 1) := by decide +kernel
def F_Pr_actorOf (a : Nat) (x1 : Int32) (δ : Dl) : Option (Int32) :=
  if x1 < 0 then (some (-1)) else (if (δ.1 31 a) ≤ x1 then (some (-1)) else (if inb ((x1 * 5) + 0) 30 then some (δ.2.1 34 a ((x1 * 5) + 0)) else none))
set_option maxRecDepth 20000 in
set_option maxHeartbeats 4000000 in
theorem c_Pr_actorOf {l : Launch} {Γ : Gm} (hG : GC Γ) (a : Nat) (x1 : Int32) (ha : Oc a 3) (δ : Dl) (r : Int32) (h : F_Pr_actorOf a x1  δ = some r) : Ct l M_Pr_actorOf 0 0 0 NF [.inr (0, a), .inl x1] Γ δ (some (.inl r), Γ, δ) := by
  unfold F_Pr_actorOf at h
  have oa := hG.ob ha
  refine Ct.of2 (n := 0) (ls := [some (.inr (0, a)), some (.inl x1)]) rfl (by decide +kernel) (Nat.le_of_ble_eq_true rfl) ?_
  refine x_iload_n (i := 1) d_Pr_actorOf_0 rfl rfl ?_
  refine x_if_lt (tgt := 25) d_Pr_actorOf_1 (by decide) (fun c1 => ?_) (fun c1 => ?_)
  · have h := if_t c1 h
    refine x_ic (v := -1) d_Pr_actorOf_25 (by decide) ?_
    replace h := Option.some.inj h; subst h
    exact x_iret rfl d_Pr_actorOf_26 (Nat.le_refl 0) (Nat.le_refl 0)
  · have h := if_f c1 h
    refine x_iload_n (i := 1) d_Pr_actorOf_4 rfl rfl ?_
    refine x_aload_n (i := 0) d_Pr_actorOf_5 rfl rfl ?_
    refine x_getI (f := 31) gl_Pr_15_3 rfl kf_31 oa d_Pr_actorOf_6 ?_
    refine x_cmp_ge (tgt := 25) d_Pr_actorOf_9 (by decide) (fun c9 => ?_) (fun c9 => ?_)
    · have h := if_t c9 h
      refine x_ic (v := -1) d_Pr_actorOf_25 (by decide) ?_
      replace h := Option.some.inj h; subst h
      exact x_iret rfl d_Pr_actorOf_26 (Nat.le_refl 0) (Nat.le_refl 0)
    · have h := if_f c9 h
      refine x_aload_n (i := 0) d_Pr_actorOf_12 rfl rfl ?_
      refine x_getA (f := 34) gl_Pr_25_3 rfl (by rw [kf_34]; decide) oa d_Pr_actorOf_13 ?_
      refine x_iload_n (i := 1) d_Pr_actorOf_16 rfl rfl ?_
      refine x_ic (v := 5) d_Pr_actorOf_17 (by decide) ?_
      refine x_imul d_Pr_actorOf_18 ?_
      refine x_ic (v := 0) d_Pr_actorOf_19 (by decide) ?_
      refine x_iadd d_Pr_actorOf_20 ?_
      obtain ⟨g21, h⟩ := gd_e h
      refine x_iald (n := 30) kf_34 (oz_34 oa) (ln_34 _) g21 d_Pr_actorOf_21 ?_
      refine x_goto (tgt := 26) d_Pr_actorOf_22 (by decide) ?_
      replace h := Option.some.inj h; subst h
      exact x_iret rfl d_Pr_actorOf_26 (Nat.le_refl 0) (Nat.le_refl 0)
-- BlockStage$Program.capOf(I)I
theorem d_Pr_capOf_0 : decode M_Pr_capOf.2.1 0 = .ok (.iload_n 1, 1) := by decide +kernel
theorem d_Pr_capOf_1 : decode M_Pr_capOf.2.1 1 = .ok (.ifCond .lt 24, 3) := by decide +kernel
theorem d_Pr_capOf_4 : decode M_Pr_capOf.2.1 4 = .ok (.iload_n 1, 1) := by decide +kernel
theorem d_Pr_capOf_5 : decode M_Pr_capOf.2.1 5 = .ok (.aload_n 0, 1) := by decide +kernel
theorem d_Pr_capOf_6 : decode M_Pr_capOf.2.1 6 = .ok (.getfield 15, 3) := by decide +kernel
theorem d_Pr_capOf_9 : decode M_Pr_capOf.2.1 9 = .ok (.if_icmp .ge 16, 3) := by decide +kernel
theorem d_Pr_capOf_12 : decode M_Pr_capOf.2.1 12 = .ok (.aload_n 0, 1) := by decide +kernel
theorem d_Pr_capOf_13 : decode M_Pr_capOf.2.1 13 = .ok (.getfield 25, 3) := by decide +kernel
theorem d_Pr_capOf_16 : decode M_Pr_capOf.2.1 16 = .ok (.iload_n 1, 1) := by decide +kernel
theorem d_Pr_capOf_17 : decode M_Pr_capOf.2.1 17 = .ok (.iconst 5, 1) := by decide +kernel
theorem d_Pr_capOf_18 : decode M_Pr_capOf.2.1 18 = .ok (.imul, 1) := by decide +kernel
theorem d_Pr_capOf_19 : decode M_Pr_capOf.2.1 19 = .ok (.iconst 1, 1) := by decide +kernel
theorem d_Pr_capOf_20 : decode M_Pr_capOf.2.1 20 = .ok (.iadd, 1) := by decide +kernel
theorem d_Pr_capOf_21 : decode M_Pr_capOf.2.1 21 = .ok (.iaload, 1) := by decide +kernel
theorem d_Pr_capOf_22 : decode M_Pr_capOf.2.1 22 = .ok (.goto 4, 3) := by decide +kernel
theorem d_Pr_capOf_25 : decode M_Pr_capOf.2.1 25 = .ok (.iconst (-1), 1) := by decide +kernel
theorem d_Pr_capOf_26 : decode M_Pr_capOf.2.1 26 = .ok (.ireturn, 1) := by decide +kernel
def F_Pr_capOf (a : Nat) (x1 : Int32) (δ : Dl) : Option (Int32) :=
  if x1 < 0 then (some (-1)) else (if (δ.1 31 a) ≤ x1 then (some (-1)) else (if inb ((x1 * 5) + 1) 30 then some (δ.2.1 34 a ((x1 * 5) + 1)) else none))
set_option maxRecDepth 20000 in
set_option maxHeartbeats 4000000 in
theorem c_Pr_capOf {l : Launch} {Γ : Gm} (hG : GC Γ) (a : Nat) (x1 : Int32) (ha : Oc a 3) (δ : Dl) (r : Int32) (h : F_Pr_capOf a x1  δ = some r) : Ct l M_Pr_capOf 0 0 0 NF [.inr (0, a), .inl x1] Γ δ (some (.inl r), Γ, δ) := by
  unfold F_Pr_capOf at h
  have oa := hG.ob ha
  refine Ct.of2 (n := 0) (ls := [some (.inr (0, a)), some (.inl x1)]) rfl (by decide +kernel) (Nat.le_of_ble_eq_true rfl) ?_
  refine x_iload_n (i := 1) d_Pr_capOf_0 rfl rfl ?_
  refine x_if_lt (tgt := 25) d_Pr_capOf_1 (by decide) (fun c1 => ?_) (fun c1 => ?_)
  · have h := if_t c1 h
    refine x_ic (v := -1) d_Pr_capOf_25 (by decide) ?_
    replace h := Option.some.inj h; subst h
    exact x_iret rfl d_Pr_capOf_26 (Nat.le_refl 0) (Nat.le_refl 0)
  · have h := if_f c1 h
    refine x_iload_n (i := 1) d_Pr_capOf_4 rfl rfl ?_
    refine x_aload_n (i := 0) d_Pr_capOf_5 rfl rfl ?_
    refine x_getI (f := 31) gl_Pr_15_3 rfl kf_31 oa d_Pr_capOf_6 ?_
    refine x_cmp_ge (tgt := 25) d_Pr_capOf_9 (by decide) (fun c9 => ?_) (fun c9 => ?_)
    · have h := if_t c9 h
      refine x_ic (v := -1) d_Pr_capOf_25 (by decide) ?_
      replace h := Option.some.inj h; subst h
      exact x_iret rfl d_Pr_capOf_26 (Nat.le_refl 0) (Nat.le_refl 0)
    · have h := if_f c9 h
      refine x_aload_n (i := 0) d_Pr_capOf_12 rfl rfl ?_
      refine x_getA (f := 34) gl_Pr_25_3 rfl (by rw [kf_34]; decide) oa d_Pr_capOf_13 ?_
      refine x_iload_n (i := 1) d_Pr_capOf_16 rfl rfl ?_
      refine x_ic (v := 5) d_Pr_capOf_17 (by decide) ?_
      refine x_imul d_Pr_capOf_18 ?_
      refine x_ic (v := 1) d_Pr_capOf_19 (by decide) ?_
      refine x_iadd d_Pr_capOf_20 ?_
      obtain ⟨g21, h⟩ := gd_e h
      refine x_iald (n := 30) kf_34 (oz_34 oa) (ln_34 _) g21 d_Pr_capOf_21 ?_
      refine x_goto (tgt := 26) d_Pr_capOf_22 (by decide) ?_
      replace h := Option.some.inj h; subst h
      exact x_iret rfl d_Pr_capOf_26 (Nat.le_refl 0) (Nat.le_refl 0)
-- BlockStage$Program.numberOfCap(I)I
theorem d_Pr_numberOfCap_0 : decode M_Pr_numberOfCap.2.1 0 = .ok (.iload_n 1, 1) := by decide +kernel
theorem d_Pr_numberOfCap_1 : decode M_Pr_numberOfCap.2.1 1 = .ok (.ifCond .lt 24, 3) := by decide +kernel
theorem d_Pr_numberOfCap_4 : decode M_Pr_numberOfCap.2.1 4 = .ok (.iload_n 1, 1) := by decide +kernel
theorem d_Pr_numberOfCap_5 : decode M_Pr_numberOfCap.2.1 5 = .ok (.aload_n 0, 1) := by decide +kernel
theorem d_Pr_numberOfCap_6 : decode M_Pr_numberOfCap.2.1 6 = .ok (.getfield 15, 3) := by decide +kernel
theorem d_Pr_numberOfCap_9 : decode M_Pr_numberOfCap.2.1 9 = .ok (.if_icmp .ge 16, 3) := by decide +kernel
theorem d_Pr_numberOfCap_12 : decode M_Pr_numberOfCap.2.1 12 = .ok (.aload_n 0, 1) := by decide +kernel
theorem d_Pr_numberOfCap_13 : decode M_Pr_numberOfCap.2.1 13 = .ok (.getfield 25, 3) := by decide +kernel
theorem d_Pr_numberOfCap_16 : decode M_Pr_numberOfCap.2.1 16 = .ok (.iload_n 1, 1) := by decide +kernel
theorem d_Pr_numberOfCap_17 : decode M_Pr_numberOfCap.2.1 17 = .ok (.iconst 5, 1) := by decide +kernel
theorem d_Pr_numberOfCap_18 : decode M_Pr_numberOfCap.2.1 18 = .ok (.imul, 1) := by decide +kernel
theorem d_Pr_numberOfCap_19 : decode M_Pr_numberOfCap.2.1 19 = .ok (.iconst 2, 1) := by decide +kernel
theorem d_Pr_numberOfCap_20 : decode M_Pr_numberOfCap.2.1 20 = .ok (.iadd, 1) := by decide +kernel
theorem d_Pr_numberOfCap_21 : decode M_Pr_numberOfCap.2.1 21 = .ok (.iaload, 1) := by decide +kernel
theorem d_Pr_numberOfCap_22 : decode M_Pr_numberOfCap.2.1 22 = .ok (.goto 4, 3) := by decide +kernel
theorem d_Pr_numberOfCap_25 : decode M_Pr_numberOfCap.2.1 25 = .ok (.iconst 0, 1) := by decide +kernel
theorem d_Pr_numberOfCap_26 : decode M_Pr_numberOfCap.2.1 26 = .ok (.ireturn, 1) := by decide +kernel
def F_Pr_numberOfCap (a : Nat) (x1 : Int32) (δ : Dl) : Option (Int32) :=
  if x1 < 0 then (some 0) else (if (δ.1 31 a) ≤ x1 then (some 0) else (if inb ((x1 * 5) + 2) 30 then some (δ.2.1 34 a ((x1 * 5) + 2)) else none))
set_option maxRecDepth 20000 in
set_option maxHeartbeats 4000000 in
theorem c_Pr_numberOfCap {l : Launch} {Γ : Gm} (hG : GC Γ) (a : Nat) (x1 : Int32) (ha : Oc a 3) (δ : Dl) (r : Int32) (h : F_Pr_numberOfCap a x1  δ = some r) : Ct l M_Pr_numberOfCap 0 0 0 NF [.inr (0, a), .inl x1] Γ δ (some (.inl r), Γ, δ) := by
  unfold F_Pr_numberOfCap at h
  have oa := hG.ob ha
  refine Ct.of2 (n := 0) (ls := [some (.inr (0, a)), some (.inl x1)]) rfl (by decide +kernel) (Nat.le_of_ble_eq_true rfl) ?_
  refine x_iload_n (i := 1) d_Pr_numberOfCap_0 rfl rfl ?_
  refine x_if_lt (tgt := 25) d_Pr_numberOfCap_1 (by decide) (fun c1 => ?_) (fun c1 => ?_)
  · have h := if_t c1 h
    refine x_ic (v := 0) d_Pr_numberOfCap_25 (by decide) ?_
    replace h := Option.some.inj h; subst h
    exact x_iret rfl d_Pr_numberOfCap_26 (Nat.le_refl 0) (Nat.le_refl 0)
  · have h := if_f c1 h
    refine x_iload_n (i := 1) d_Pr_numberOfCap_4 rfl rfl ?_
    refine x_aload_n (i := 0) d_Pr_numberOfCap_5 rfl rfl ?_
    refine x_getI (f := 31) gl_Pr_15_3 rfl kf_31 oa d_Pr_numberOfCap_6 ?_
    refine x_cmp_ge (tgt := 25) d_Pr_numberOfCap_9 (by decide) (fun c9 => ?_) (fun c9 => ?_)
    · have h := if_t c9 h
      refine x_ic (v := 0) d_Pr_numberOfCap_25 (by decide) ?_
      replace h := Option.some.inj h; subst h
      exact x_iret rfl d_Pr_numberOfCap_26 (Nat.le_refl 0) (Nat.le_refl 0)
    · have h := if_f c9 h
      refine x_aload_n (i := 0) d_Pr_numberOfCap_12 rfl rfl ?_
      refine x_getA (f := 34) gl_Pr_25_3 rfl (by rw [kf_34]; decide) oa d_Pr_numberOfCap_13 ?_
      refine x_iload_n (i := 1) d_Pr_numberOfCap_16 rfl rfl ?_
      refine x_ic (v := 5) d_Pr_numberOfCap_17 (by decide) ?_
      refine x_imul d_Pr_numberOfCap_18 ?_
      refine x_ic (v := 2) d_Pr_numberOfCap_19 (by decide) ?_
      refine x_iadd d_Pr_numberOfCap_20 ?_
      obtain ⟨g21, h⟩ := gd_e h
      refine x_iald (n := 30) kf_34 (oz_34 oa) (ln_34 _) g21 d_Pr_numberOfCap_21 ?_
      refine x_goto (tgt := 26) d_Pr_numberOfCap_22 (by decide) ?_
      replace h := Option.some.inj h; subst h
      exact x_iret rfl d_Pr_numberOfCap_26 (Nat.le_refl 0) (Nat.le_refl 0)
-- BlockStage$Program.isAgain(I)Z
theorem d_Pr_isAgain_0 : decode M_Pr_isAgain.2.1 0 = .ok (.iload_n 1, 1) := by decide +kernel
theorem d_Pr_isAgain_1 : decode M_Pr_isAgain.2.1 1 = .ok (.ifCond .lt 29, 3) := by decide +kernel
theorem d_Pr_isAgain_4 : decode M_Pr_isAgain.2.1 4 = .ok (.iload_n 1, 1) := by decide +kernel
theorem d_Pr_isAgain_5 : decode M_Pr_isAgain.2.1 5 = .ok (.aload_n 0, 1) := by decide +kernel
theorem d_Pr_isAgain_6 : decode M_Pr_isAgain.2.1 6 = .ok (.getfield 15, 3) := by decide +kernel
theorem d_Pr_isAgain_9 : decode M_Pr_isAgain.2.1 9 = .ok (.if_icmp .ge 21, 3) := by decide +kernel
theorem d_Pr_isAgain_12 : decode M_Pr_isAgain.2.1 12 = .ok (.aload_n 0, 1) := by decide +kernel
theorem d_Pr_isAgain_13 : decode M_Pr_isAgain.2.1 13 = .ok (.getfield 25, 3) := by decide +kernel
theorem d_Pr_isAgain_16 : decode M_Pr_isAgain.2.1 16 = .ok (.iload_n 1, 1) := by decide +kernel
theorem d_Pr_isAgain_17 : decode M_Pr_isAgain.2.1 17 = .ok (.iconst 5, 1) := by decide +kernel
theorem d_Pr_isAgain_18 : decode M_Pr_isAgain.2.1 18 = .ok (.imul, 1) := by decide +kernel
theorem d_Pr_isAgain_19 : decode M_Pr_isAgain.2.1 19 = .ok (.iconst 3, 1) := by decide +kernel
theorem d_Pr_isAgain_20 : decode M_Pr_isAgain.2.1 20 = .ok (.iadd, 1) := by decide +kernel
theorem d_Pr_isAgain_21 : decode M_Pr_isAgain.2.1 21 = .ok (.iaload, 1) := by decide +kernel
theorem d_Pr_isAgain_22 : decode M_Pr_isAgain.2.1 22 = .ok (.iconst 1, 1) := by decide +kernel
theorem d_Pr_isAgain_23 : decode M_Pr_isAgain.2.1 23 = .ok (.if_icmp .ne 7, 3) := by decide +kernel
theorem d_Pr_isAgain_26 : decode M_Pr_isAgain.2.1 26 = .ok (.iconst 1, 1) := by decide +kernel
theorem d_Pr_isAgain_27 : decode M_Pr_isAgain.2.1 27 = .ok (.goto 4, 3) := by decide +kernel
theorem d_Pr_isAgain_30 : decode M_Pr_isAgain.2.1 30 = .ok (.iconst 0, 1) := by decide +kernel
theorem d_Pr_isAgain_31 : decode M_Pr_isAgain.2.1 31 = .ok (.ireturn, 1) := by decide +kernel
def F_Pr_isAgain (a : Nat) (x1 : Int32) (δ : Dl) : Option (Int32) :=
  if x1 < 0 then (some 0) else (if (δ.1 31 a) ≤ x1 then (some 0) else (if inb ((x1 * 5) + 3) 30 then if (δ.2.1 34 a ((x1 * 5) + 3)) = 1 then (some 1) else (some 0) else none))
set_option maxRecDepth 20000 in
set_option maxHeartbeats 4000000 in
theorem c_Pr_isAgain {l : Launch} {Γ : Gm} (hG : GC Γ) (a : Nat) (x1 : Int32) (ha : Oc a 3) (δ : Dl) (r : Int32) (h : F_Pr_isAgain a x1  δ = some r) : Ct l M_Pr_isAgain 0 0 0 NF [.inr (0, a), .inl x1] Γ δ (some (.inl r), Γ, δ) := by
  unfold F_Pr_isAgain at h
  have oa := hG.ob ha
  refine Ct.of2 (n := 0) (ls := [some (.inr (0, a)), some (.inl x1)]) rfl (by decide +kernel) (Nat.le_of_ble_eq_true rfl) ?_
  refine x_iload_n (i := 1) d_Pr_isAgain_0 rfl rfl ?_
  refine x_if_lt (tgt := 30) d_Pr_isAgain_1 (by decide) (fun c1 => ?_) (fun c1 => ?_)
  · have h := if_t c1 h
    refine x_ic (v := 0) d_Pr_isAgain_30 (by decide) ?_
    replace h := Option.some.inj h; subst h
    exact x_nret rfl rfl d_Pr_isAgain_31 (Nat.le_refl 0) (Nat.le_refl 0)
  · have h := if_f c1 h
    refine x_iload_n (i := 1) d_Pr_isAgain_4 rfl rfl ?_
    refine x_aload_n (i := 0) d_Pr_isAgain_5 rfl rfl ?_
    refine x_getI (f := 31) gl_Pr_15_3 rfl kf_31 oa d_Pr_isAgain_6 ?_
    refine x_cmp_ge (tgt := 30) d_Pr_isAgain_9 (by decide) (fun c9 => ?_) (fun c9 => ?_)
    · have h := if_t c9 h
      refine x_ic (v := 0) d_Pr_isAgain_30 (by decide) ?_
      replace h := Option.some.inj h; subst h
      exact x_nret rfl rfl d_Pr_isAgain_31 (Nat.le_refl 0) (Nat.le_refl 0)
    · have h := if_f c9 h
      refine x_aload_n (i := 0) d_Pr_isAgain_12 rfl rfl ?_
      refine x_getA (f := 34) gl_Pr_25_3 rfl (by rw [kf_34]; decide) oa d_Pr_isAgain_13 ?_
      refine x_iload_n (i := 1) d_Pr_isAgain_16 rfl rfl ?_
      refine x_ic (v := 5) d_Pr_isAgain_17 (by decide) ?_
      refine x_imul d_Pr_isAgain_18 ?_
      refine x_ic (v := 3) d_Pr_isAgain_19 (by decide) ?_
      refine x_iadd d_Pr_isAgain_20 ?_
      obtain ⟨g21, h⟩ := gd_e h
      refine x_iald (n := 30) kf_34 (oz_34 oa) (ln_34 _) g21 d_Pr_isAgain_21 ?_
      refine x_ic (v := 1) d_Pr_isAgain_22 (by decide) ?_
      refine x_cmp_ne (tgt := 30) d_Pr_isAgain_23 (by decide) (fun c23 => ?_) (fun c23 => ?_)
      · have h := if_f c23 h
        refine x_ic (v := 0) d_Pr_isAgain_30 (by decide) ?_
        replace h := Option.some.inj h; subst h
        exact x_nret rfl rfl d_Pr_isAgain_31 (Nat.le_refl 0) (Nat.le_refl 0)
      · have h := if_t c23 h
        refine x_ic (v := 1) d_Pr_isAgain_26 (by decide) ?_
        refine x_goto (tgt := 31) d_Pr_isAgain_27 (by decide) ?_
        replace h := Option.some.inj h; subst h
        exact x_nret rfl rfl d_Pr_isAgain_31 (Nat.le_refl 0) (Nat.le_refl 0)
-- BlockStage$Program.topOf(I)I
theorem d_Pr_topOf_0 : decode M_Pr_topOf.2.1 0 = .ok (.iload_n 1, 1) := by decide +kernel
theorem d_Pr_topOf_1 : decode M_Pr_topOf.2.1 1 = .ok (.ifCond .lt 24, 3) := by decide +kernel
theorem d_Pr_topOf_4 : decode M_Pr_topOf.2.1 4 = .ok (.iload_n 1, 1) := by decide +kernel
theorem d_Pr_topOf_5 : decode M_Pr_topOf.2.1 5 = .ok (.aload_n 0, 1) := by decide +kernel
theorem d_Pr_topOf_6 : decode M_Pr_topOf.2.1 6 = .ok (.getfield 15, 3) := by decide +kernel
theorem d_Pr_topOf_9 : decode M_Pr_topOf.2.1 9 = .ok (.if_icmp .ge 16, 3) := by decide +kernel
theorem d_Pr_topOf_12 : decode M_Pr_topOf.2.1 12 = .ok (.aload_n 0, 1) := by decide +kernel
theorem d_Pr_topOf_13 : decode M_Pr_topOf.2.1 13 = .ok (.getfield 25, 3) := by decide +kernel
theorem d_Pr_topOf_16 : decode M_Pr_topOf.2.1 16 = .ok (.iload_n 1, 1) := by decide +kernel
theorem d_Pr_topOf_17 : decode M_Pr_topOf.2.1 17 = .ok (.iconst 5, 1) := by decide +kernel
theorem d_Pr_topOf_18 : decode M_Pr_topOf.2.1 18 = .ok (.imul, 1) := by decide +kernel
theorem d_Pr_topOf_19 : decode M_Pr_topOf.2.1 19 = .ok (.iconst 4, 1) := by decide +kernel
theorem d_Pr_topOf_20 : decode M_Pr_topOf.2.1 20 = .ok (.iadd, 1) := by decide +kernel
theorem d_Pr_topOf_21 : decode M_Pr_topOf.2.1 21 = .ok (.iaload, 1) := by decide +kernel
theorem d_Pr_topOf_22 : decode M_Pr_topOf.2.1 22 = .ok (.goto 4, 3) := by decide +kernel
theorem d_Pr_topOf_25 : decode M_Pr_topOf.2.1 25 = .ok (.iconst (-1), 1) := by decide +kernel
theorem d_Pr_topOf_26 : decode M_Pr_topOf.2.1 26 = .ok (.ireturn, 1) := by decide +kernel
def F_Pr_topOf (a : Nat) (x1 : Int32) (δ : Dl) : Option (Int32) :=
  if x1 < 0 then (some (-1)) else (if (δ.1 31 a) ≤ x1 then (some (-1)) else (if inb ((x1 * 5) + 4) 30 then some (δ.2.1 34 a ((x1 * 5) + 4)) else none))
set_option maxRecDepth 20000 in
set_option maxHeartbeats 4000000 in
theorem c_Pr_topOf {l : Launch} {Γ : Gm} (hG : GC Γ) (a : Nat) (x1 : Int32) (ha : Oc a 3) (δ : Dl) (r : Int32) (h : F_Pr_topOf a x1  δ = some r) : Ct l M_Pr_topOf 0 0 0 NF [.inr (0, a), .inl x1] Γ δ (some (.inl r), Γ, δ) := by
  unfold F_Pr_topOf at h
  have oa := hG.ob ha
  refine Ct.of2 (n := 0) (ls := [some (.inr (0, a)), some (.inl x1)]) rfl (by decide +kernel) (Nat.le_of_ble_eq_true rfl) ?_
  refine x_iload_n (i := 1) d_Pr_topOf_0 rfl rfl ?_
  refine x_if_lt (tgt := 25) d_Pr_topOf_1 (by decide) (fun c1 => ?_) (fun c1 => ?_)
  · have h := if_t c1 h
    refine x_ic (v := -1) d_Pr_topOf_25 (by decide) ?_
    replace h := Option.some.inj h; subst h
    exact x_iret rfl d_Pr_topOf_26 (Nat.le_refl 0) (Nat.le_refl 0)
  · have h := if_f c1 h
    refine x_iload_n (i := 1) d_Pr_topOf_4 rfl rfl ?_
    refine x_aload_n (i := 0) d_Pr_topOf_5 rfl rfl ?_
    refine x_getI (f := 31) gl_Pr_15_3 rfl kf_31 oa d_Pr_topOf_6 ?_
    refine x_cmp_ge (tgt := 25) d_Pr_topOf_9 (by decide) (fun c9 => ?_) (fun c9 => ?_)
    · have h := if_t c9 h
      refine x_ic (v := -1) d_Pr_topOf_25 (by decide) ?_
      replace h := Option.some.inj h; subst h
      exact x_iret rfl d_Pr_topOf_26 (Nat.le_refl 0) (Nat.le_refl 0)
    · have h := if_f c9 h
      refine x_aload_n (i := 0) d_Pr_topOf_12 rfl rfl ?_
      refine x_getA (f := 34) gl_Pr_25_3 rfl (by rw [kf_34]; decide) oa d_Pr_topOf_13 ?_
      refine x_iload_n (i := 1) d_Pr_topOf_16 rfl rfl ?_
      refine x_ic (v := 5) d_Pr_topOf_17 (by decide) ?_
      refine x_imul d_Pr_topOf_18 ?_
      refine x_ic (v := 4) d_Pr_topOf_19 (by decide) ?_
      refine x_iadd d_Pr_topOf_20 ?_
      obtain ⟨g21, h⟩ := gd_e h
      refine x_iald (n := 30) kf_34 (oz_34 oa) (ln_34 _) g21 d_Pr_topOf_21 ?_
      refine x_goto (tgt := 26) d_Pr_topOf_22 (by decide) ?_
      replace h := Option.some.inj h; subst h
      exact x_iret rfl d_Pr_topOf_26 (Nat.le_refl 0) (Nat.le_refl 0)
-- BlockStage$Program.hasHole(II)Z
theorem d_Pr_hasHole_0 : decode M_Pr_hasHole.2.1 0 = .ok (.iload_n 1, 1) := by decide +kernel
theorem d_Pr_hasHole_1 : decode M_Pr_hasHole.2.1 1 = .ok (.ifCond .lt 20, 3) := by decide +kernel
theorem d_Pr_hasHole_4 : decode M_Pr_hasHole.2.1 4 = .ok (.iload_n 1, 1) := by decide +kernel
theorem d_Pr_hasHole_5 : decode M_Pr_hasHole.2.1 5 = .ok (.aload_n 0, 1) := by decide +kernel
theorem d_Pr_hasHole_6 : decode M_Pr_hasHole.2.1 6 = .ok (.getfield 9, 3) := by decide +kernel
theorem d_Pr_hasHole_9 : decode M_Pr_hasHole.2.1 9 = .ok (.if_icmp .ge 12, 3) := by decide +kernel
theorem d_Pr_hasHole_12 : decode M_Pr_hasHole.2.1 12 = .ok (.iload_n 2, 1) := by decide +kernel
theorem d_Pr_hasHole_13 : decode M_Pr_hasHole.2.1 13 = .ok (.ifCond .lt 8, 3) := by decide +kernel
theorem d_Pr_hasHole_16 : decode M_Pr_hasHole.2.1 16 = .ok (.iload_n 2, 1) := by decide +kernel
theorem d_Pr_hasHole_17 : decode M_Pr_hasHole.2.1 17 = .ok (.iconst 5, 1) := by decide +kernel
theorem d_Pr_hasHole_18 : decode M_Pr_hasHole.2.1 18 = .ok (.if_icmp .lt 5, 3) := by decide +kernel
theorem d_Pr_hasHole_21 : decode M_Pr_hasHole.2.1 21 = .ok (.iconst 0, 1) := by decide +kernel
theorem d_Pr_hasHole_22 : decode M_Pr_hasHole.2.1 22 = .ok (.ireturn, 1) := by decide +kernel
theorem d_Pr_hasHole_23 : decode M_Pr_hasHole.2.1 23 = .ok (.aload_n 0, 1) := by decide +kernel
theorem d_Pr_hasHole_24 : decode M_Pr_hasHole.2.1 24 = .ok (.getfield 18, 3) := by decide +kernel
theorem d_Pr_hasHole_27 : decode M_Pr_hasHole.2.1 27 = .ok (.iload_n 1, 1) := by decide +kernel
theorem d_Pr_hasHole_28 : decode M_Pr_hasHole.2.1 28 = .ok (.iconst 5, 1) := by decide +kernel
theorem d_Pr_hasHole_29 : decode M_Pr_hasHole.2.1 29 = .ok (.imul, 1) := by decide +kernel
theorem d_Pr_hasHole_30 : decode M_Pr_hasHole.2.1 30 = .ok (.iconst 0, 1) := by decide +kernel
theorem d_Pr_hasHole_31 : decode M_Pr_hasHole.2.1 31 = .ok (.iadd, 1) := by decide +kernel
theorem d_Pr_hasHole_32 : decode M_Pr_hasHole.2.1 32 = .ok (.iaload, 1) := by decide +kernel
theorem d_Pr_hasHole_33 : decode M_Pr_hasHole.2.1 33 = .ok (.istore_n 3, 1) := by decide +kernel
theorem d_Pr_hasHole_34 : decode M_Pr_hasHole.2.1 34 = .ok (.iload_n 3, 1) := by decide +kernel
theorem d_Pr_hasHole_35 : decode M_Pr_hasHole.2.1 35 = .ok (.ifCond .lt 28, 3) := by decide +kernel
theorem d_Pr_hasHole_38 : decode M_Pr_hasHole.2.1 38 = .ok (.iload_n 3, 1) := by decide +kernel
theorem d_Pr_hasHole_39 : decode M_Pr_hasHole.2.1 39 = .ok (.getstatic 41, 3) := by decide +kernel
theorem d_Pr_hasHole_42 : decode M_Pr_hasHole.2.1 42 = .ok (.arraylength, 1) := by decide +kernel
theorem d_Pr_hasHole_43 : decode M_Pr_hasHole.2.1 43 = .ok (.if_icmp .ge 20, 3) := by decide +kernel
theorem d_Pr_hasHole_46 : decode M_Pr_hasHole.2.1 46 = .ok (.getstatic 41, 3) := by decide +kernel
theorem d_Pr_hasHole_49 : decode M_Pr_hasHole.2.1 49 = .ok (.iload_n 3, 1) := by decide +kernel
theorem d_Pr_hasHole_50 : decode M_Pr_hasHole.2.1 50 = .ok (.iaload, 1) := by decide +kernel
theorem d_Pr_hasHole_51 : decode M_Pr_hasHole.2.1 51 = .ok (.iload_n 2, 1) := by decide +kernel
theorem d_Pr_hasHole_52 : decode M_Pr_hasHole.2.1 52 = .ok (.ishr, 1) := by decide +kernel
theorem d_Pr_hasHole_53 : decode M_Pr_hasHole.2.1 53 = .ok (.iconst 1, 1) := by decide +kernel
theorem d_Pr_hasHole_54 : decode M_Pr_hasHole.2.1 54 = .ok (.iand, 1) := by decide +kernel
theorem d_Pr_hasHole_55 : decode M_Pr_hasHole.2.1 55 = .ok (.iconst 1, 1) := by decide +kernel
theorem d_Pr_hasHole_56 : decode M_Pr_hasHole.2.1 56 = .ok (.if_icmp .ne 7, 3) := by decide +kernel
theorem d_Pr_hasHole_59 : decode M_Pr_hasHole.2.1 59 = .ok (.iconst 1, 1) := by decide +kernel
theorem d_Pr_hasHole_60 : decode M_Pr_hasHole.2.1 60 = .ok (.goto 4, 3) := by decide +kernel
theorem d_Pr_hasHole_63 : decode M_Pr_hasHole.2.1 63 = .ok (.iconst 0, 1) := by decide +kernel
theorem d_Pr_hasHole_64 : decode M_Pr_hasHole.2.1 64 = .ok (.ireturn, 1) := by decide +kernel
theorem gh_Pr_41 : Cond.fieldLinkNest RX3 41 "BlockStage" "HOLES_OF_KIND" "[I" "BlockStage" ∈ tables_1 := (List.mem_of_getElem? (i := 405) (by decide +kernel))
def F_Pr_hasHole (a : Nat) (x1 : Int32) (x2 : Int32) (δ : Dl) : Option (Int32) :=
  if x1 < 0 then (some 0) else (if (δ.1 30 a) ≤ x1 then (some 0) else (if x2 < 0 then (some 0) else (if x2 < 5 then (if inb ((x1 * 5) + 0) 150 then bnd ((δ.2.1 32 a ((x1 * 5) + 0))) fun x3_33 => if x3_33 < 0 then (some 0) else (if 23 ≤ x3_33 then (some 0) else (if inb x3_33 23 then if (((tHK x3_33) >>> (x2 &&& 31)) &&& 1) = 1 then (some 1) else (some 0) else none)) else none) else (some 0))))
set_option maxRecDepth 20000 in
set_option maxHeartbeats 4000000 in
theorem c_Pr_hasHole {l : Launch} {Γ : Gm} (hG : GC Γ) (a : Nat) (x1 : Int32) (x2 : Int32) (ha : Oc a 3) (δ : Dl) (r : Int32) (h : F_Pr_hasHole a x1 x2  δ = some r) : Ct l M_Pr_hasHole 0 0 0 NF [.inr (0, a), .inl x1, .inl x2] Γ δ (some (.inl r), Γ, δ) := by
  unfold F_Pr_hasHole at h
  have oa := hG.ob ha
  refine Ct.of2 (n := 1) (ls := [some (.inr (0, a)), some (.inl x1), some (.inl x2), none]) rfl (by decide +kernel) (Nat.le_of_ble_eq_true rfl) ?_
  refine x_iload_n (i := 1) d_Pr_hasHole_0 rfl rfl ?_
  refine x_if_lt (tgt := 21) d_Pr_hasHole_1 (by decide) (fun c1 => ?_) (fun c1 => ?_)
  · have h := if_t c1 h
    refine x_ic (v := 0) d_Pr_hasHole_21 (by decide) ?_
    replace h := Option.some.inj h; subst h
    exact x_nret rfl rfl d_Pr_hasHole_22 (Nat.le_refl 0) (Nat.le_refl 0)
  · have h := if_f c1 h
    refine x_iload_n (i := 1) d_Pr_hasHole_4 rfl rfl ?_
    refine x_aload_n (i := 0) d_Pr_hasHole_5 rfl rfl ?_
    refine x_getI (f := 30) gl_Pr_9_3 rfl kf_30 oa d_Pr_hasHole_6 ?_
    refine x_cmp_ge (tgt := 21) d_Pr_hasHole_9 (by decide) (fun c9 => ?_) (fun c9 => ?_)
    · have h := if_t c9 h
      refine x_ic (v := 0) d_Pr_hasHole_21 (by decide) ?_
      replace h := Option.some.inj h; subst h
      exact x_nret rfl rfl d_Pr_hasHole_22 (Nat.le_refl 0) (Nat.le_refl 0)
    · have h := if_f c9 h
      refine x_iload_n (i := 2) d_Pr_hasHole_12 rfl rfl ?_
      refine x_if_lt (tgt := 21) d_Pr_hasHole_13 (by decide) (fun c13 => ?_) (fun c13 => ?_)
      · have h := if_t c13 h
        refine x_ic (v := 0) d_Pr_hasHole_21 (by decide) ?_
        replace h := Option.some.inj h; subst h
        exact x_nret rfl rfl d_Pr_hasHole_22 (Nat.le_refl 0) (Nat.le_refl 0)
      · have h := if_f c13 h
        refine x_iload_n (i := 2) d_Pr_hasHole_16 rfl rfl ?_
        refine x_ic (v := 5) d_Pr_hasHole_17 (by decide) ?_
        refine x_cmp_lt (tgt := 23) d_Pr_hasHole_18 (by decide) (fun c18 => ?_) (fun c18 => ?_)
        · have h := if_t c18 h
          refine x_aload_n (i := 0) d_Pr_hasHole_23 rfl rfl ?_
          refine x_getA (f := 32) gl_Pr_18_3 rfl (by rw [kf_32]; decide) oa d_Pr_hasHole_24 ?_
          refine x_iload_n (i := 1) d_Pr_hasHole_27 rfl rfl ?_
          refine x_ic (v := 5) d_Pr_hasHole_28 (by decide) ?_
          refine x_imul d_Pr_hasHole_29 ?_
          refine x_ic (v := 0) d_Pr_hasHole_30 (by decide) ?_
          refine x_iadd d_Pr_hasHole_31 ?_
          obtain ⟨g32, h⟩ := gd_e h
          refine x_iald (n := 150) kf_32 (oz_32 oa) (ln_32 _) g32 d_Pr_hasHole_32 ?_
          obtain ⟨x3_33, ex3_33, h⟩ := bn_e h
          refine Xe.top ex3_33 ?_
          refine x_stn (i := 3) (ls' := [some (.inr (0, a)), some (.inl x1), some (.inl x2), some (.inl x3_33)]) d_Pr_hasHole_33 rfl (by decide) rfl ?_
          refine x_iload_n (i := 3) d_Pr_hasHole_34 rfl rfl ?_
          refine x_if_lt (tgt := 63) d_Pr_hasHole_35 (by decide) (fun c35 => ?_) (fun c35 => ?_)
          · have h := if_t c35 h
            refine x_ic (v := 0) d_Pr_hasHole_63 (by decide) ?_
            replace h := Option.some.inj h; subst h
            exact x_nret rfl rfl d_Pr_hasHole_64 (Nat.le_refl 0) (Nat.le_refl 0)
          · have h := if_f c35 h
            refine x_iload_n (i := 3) d_Pr_hasHole_38 rfl rfl ?_
            refine x_gstH gh_Pr_41 d_Pr_hasHole_39 ?_
            refine x_tlenH d_Pr_hasHole_42 ?_
            refine x_cmp_ge (tgt := 63) d_Pr_hasHole_43 (by decide) (fun c43 => ?_) (fun c43 => ?_)
            · have h := if_t c43 h
              refine x_ic (v := 0) d_Pr_hasHole_63 (by decide) ?_
              replace h := Option.some.inj h; subst h
              exact x_nret rfl rfl d_Pr_hasHole_64 (Nat.le_refl 0) (Nat.le_refl 0)
            · have h := if_f c43 h
              refine x_gstH gh_Pr_41 d_Pr_hasHole_46 ?_
              refine x_iload_n (i := 3) d_Pr_hasHole_49 rfl rfl ?_
              obtain ⟨g50, h⟩ := gd_e h
              refine x_tldH g50 d_Pr_hasHole_50 ?_
              refine x_iload_n (i := 2) d_Pr_hasHole_51 rfl rfl ?_
              refine x_ishr d_Pr_hasHole_52 ?_
              refine x_ic (v := 1) d_Pr_hasHole_53 (by decide) ?_
              refine x_iand d_Pr_hasHole_54 ?_
              refine x_ic (v := 1) d_Pr_hasHole_55 (by decide) ?_
              refine x_cmp_ne (tgt := 63) d_Pr_hasHole_56 (by decide) (fun c56 => ?_) (fun c56 => ?_)
              · have h := if_f c56 h
                refine x_ic (v := 0) d_Pr_hasHole_63 (by decide) ?_
                replace h := Option.some.inj h; subst h
                exact x_nret rfl rfl d_Pr_hasHole_64 (Nat.le_refl 0) (Nat.le_refl 0)
              · have h := if_t c56 h
                refine x_ic (v := 1) d_Pr_hasHole_59 (by decide) ?_
                refine x_goto (tgt := 64) d_Pr_hasHole_60 (by decide) ?_
                replace h := Option.some.inj h; subst h
                exact x_nret rfl rfl d_Pr_hasHole_64 (Nat.le_refl 0) (Nat.le_refl 0)
        · have h := if_f c18 h
          refine x_ic (v := 0) d_Pr_hasHole_21 (by decide) ?_
          replace h := Option.some.inj h; subst h
          exact x_nret rfl rfl d_Pr_hasHole_22 (Nat.le_refl 0) (Nat.le_refl 0)
-- BlockStage$Program.inHole(II)I
theorem d_Pr_inHole_0 : decode M_Pr_inHole.2.1 0 = .ok (.iload_n 1, 1) := by decide +kernel
theorem d_Pr_inHole_1 : decode M_Pr_inHole.2.1 1 = .ok (.ifCond .lt 20, 3) := by decide +kernel
theorem d_Pr_inHole_4 : decode M_Pr_inHole.2.1 4 = .ok (.iload_n 1, 1) := by decide +kernel
theorem d_Pr_inHole_5 : decode M_Pr_inHole.2.1 5 = .ok (.aload_n 0, 1) := by decide +kernel
theorem d_Pr_inHole_6 : decode M_Pr_inHole.2.1 6 = .ok (.getfield 9, 3) := by decide +kernel
theorem d_Pr_inHole_9 : decode M_Pr_inHole.2.1 9 = .ok (.if_icmp .ge 12, 3) := by decide +kernel
theorem d_Pr_inHole_12 : decode M_Pr_inHole.2.1 12 = .ok (.iload_n 2, 1) := by decide +kernel
theorem d_Pr_inHole_13 : decode M_Pr_inHole.2.1 13 = .ok (.ifCond .lt 8, 3) := by decide +kernel
theorem d_Pr_inHole_16 : decode M_Pr_inHole.2.1 16 = .ok (.iload_n 2, 1) := by decide +kernel
theorem d_Pr_inHole_17 : decode M_Pr_inHole.2.1 17 = .ok (.iconst 5, 1) := by decide +kernel
theorem d_Pr_inHole_18 : decode M_Pr_inHole.2.1 18 = .ok (.if_icmp .lt 5, 3) := by decide +kernel
theorem d_Pr_inHole_21 : decode M_Pr_inHole.2.1 21 = .ok (.iconst (-1), 1) := by decide +kernel
theorem d_Pr_inHole_22 : decode M_Pr_inHole.2.1 22 = .ok (.ireturn, 1) := by decide +kernel
theorem d_Pr_inHole_23 : decode M_Pr_inHole.2.1 23 = .ok (.aload_n 0, 1) := by decide +kernel
theorem d_Pr_inHole_24 : decode M_Pr_inHole.2.1 24 = .ok (.getfield 22, 3) := by decide +kernel
theorem d_Pr_inHole_27 : decode M_Pr_inHole.2.1 27 = .ok (.iload_n 1, 1) := by decide +kernel
theorem d_Pr_inHole_28 : decode M_Pr_inHole.2.1 28 = .ok (.iconst 5, 1) := by decide +kernel
theorem d_Pr_inHole_29 : decode M_Pr_inHole.2.1 29 = .ok (.imul, 1) := by decide +kernel
theorem d_Pr_inHole_30 : decode M_Pr_inHole.2.1 30 = .ok (.iload_n 2, 1) := by decide +kernel
theorem d_Pr_inHole_31 : decode M_Pr_inHole.2.1 31 = .ok (.iadd, 1) := by decide +kernel
theorem d_Pr_inHole_32 : decode M_Pr_inHole.2.1 32 = .ok (.iaload, 1) := by decide +kernel
theorem d_Pr_inHole_33 : decode M_Pr_inHole.2.1 33 = .ok (.ireturn, 1) := by decide +kernel
def F_Pr_inHole (a : Nat) (x1 : Int32) (x2 : Int32) (δ : Dl) : Option (Int32) :=
  if x1 < 0 then (some (-1)) else (if (δ.1 30 a) ≤ x1 then (some (-1)) else (if x2 < 0 then (some (-1)) else (if x2 < 5 then (if inb ((x1 * 5) + x2) 150 then some (δ.2.1 33 a ((x1 * 5) + x2)) else none) else (some (-1)))))
set_option maxRecDepth 20000 in
set_option maxHeartbeats 4000000 in
theorem c_Pr_inHole {l : Launch} {Γ : Gm} (hG : GC Γ) (a : Nat) (x1 : Int32) (x2 : Int32) (ha : Oc a 3) (δ : Dl) (r : Int32) (h : F_Pr_inHole a x1 x2  δ = some r) : Ct l M_Pr_inHole 0 0 0 NF [.inr (0, a), .inl x1, .inl x2] Γ δ (some (.inl r), Γ, δ) := by
  unfold F_Pr_inHole at h
  have oa := hG.ob ha
  refine Ct.of2 (n := 0) (ls := [some (.inr (0, a)), some (.inl x1), some (.inl x2)]) rfl (by decide +kernel) (Nat.le_of_ble_eq_true rfl) ?_
  refine x_iload_n (i := 1) d_Pr_inHole_0 rfl rfl ?_
  refine x_if_lt (tgt := 21) d_Pr_inHole_1 (by decide) (fun c1 => ?_) (fun c1 => ?_)
  · have h := if_t c1 h
    refine x_ic (v := -1) d_Pr_inHole_21 (by decide) ?_
    replace h := Option.some.inj h; subst h
    exact x_iret rfl d_Pr_inHole_22 (Nat.le_refl 0) (Nat.le_refl 0)
  · have h := if_f c1 h
    refine x_iload_n (i := 1) d_Pr_inHole_4 rfl rfl ?_
    refine x_aload_n (i := 0) d_Pr_inHole_5 rfl rfl ?_
    refine x_getI (f := 30) gl_Pr_9_3 rfl kf_30 oa d_Pr_inHole_6 ?_
    refine x_cmp_ge (tgt := 21) d_Pr_inHole_9 (by decide) (fun c9 => ?_) (fun c9 => ?_)
    · have h := if_t c9 h
      refine x_ic (v := -1) d_Pr_inHole_21 (by decide) ?_
      replace h := Option.some.inj h; subst h
      exact x_iret rfl d_Pr_inHole_22 (Nat.le_refl 0) (Nat.le_refl 0)
    · have h := if_f c9 h
      refine x_iload_n (i := 2) d_Pr_inHole_12 rfl rfl ?_
      refine x_if_lt (tgt := 21) d_Pr_inHole_13 (by decide) (fun c13 => ?_) (fun c13 => ?_)
      · have h := if_t c13 h
        refine x_ic (v := -1) d_Pr_inHole_21 (by decide) ?_
        replace h := Option.some.inj h; subst h
        exact x_iret rfl d_Pr_inHole_22 (Nat.le_refl 0) (Nat.le_refl 0)
      · have h := if_f c13 h
        refine x_iload_n (i := 2) d_Pr_inHole_16 rfl rfl ?_
        refine x_ic (v := 5) d_Pr_inHole_17 (by decide) ?_
        refine x_cmp_lt (tgt := 23) d_Pr_inHole_18 (by decide) (fun c18 => ?_) (fun c18 => ?_)
        · have h := if_t c18 h
          refine x_aload_n (i := 0) d_Pr_inHole_23 rfl rfl ?_
          refine x_getA (f := 33) gl_Pr_22_3 rfl (by rw [kf_33]; decide) oa d_Pr_inHole_24 ?_
          refine x_iload_n (i := 1) d_Pr_inHole_27 rfl rfl ?_
          refine x_ic (v := 5) d_Pr_inHole_28 (by decide) ?_
          refine x_imul d_Pr_inHole_29 ?_
          refine x_iload_n (i := 2) d_Pr_inHole_30 rfl rfl ?_
          refine x_iadd d_Pr_inHole_31 ?_
          obtain ⟨g32, h⟩ := gd_e h
          refine x_iald (n := 150) kf_33 (oz_33 oa) (ln_33 _) g32 d_Pr_inHole_32 ?_
          replace h := Option.some.inj h; subst h
          exact x_iret rfl d_Pr_inHole_33 (Nat.le_refl 0) (Nat.le_refl 0)
        · have h := if_f c18 h
          refine x_ic (v := -1) d_Pr_inHole_21 (by decide) ?_
          replace h := Option.some.inj h; subst h
          exact x_iret rfl d_Pr_inHole_22 (Nat.le_refl 0) (Nat.le_refl 0)
-- BlockStage$Program.isLoose(I)Z
theorem d_Pr_isLoose_0 : decode M_Pr_isLoose.2.1 0 = .ok (.iload_n 1, 1) := by decide +kernel
theorem d_Pr_isLoose_1 : decode M_Pr_isLoose.2.1 1 = .ok (.ifCond .lt 11, 3) := by decide +kernel
theorem d_Pr_isLoose_4 : decode M_Pr_isLoose.2.1 4 = .ok (.iload_n 1, 1) := by decide +kernel
theorem d_Pr_isLoose_5 : decode M_Pr_isLoose.2.1 5 = .ok (.aload_n 0, 1) := by decide +kernel
theorem d_Pr_isLoose_6 : decode M_Pr_isLoose.2.1 6 = .ok (.getfield 9, 3) := by decide +kernel
theorem d_Pr_isLoose_9 : decode M_Pr_isLoose.2.1 9 = .ok (.if_icmp .lt 5, 3) := by decide +kernel
theorem d_Pr_isLoose_12 : decode M_Pr_isLoose.2.1 12 = .ok (.iconst 0, 1) := by decide +kernel
theorem d_Pr_isLoose_13 : decode M_Pr_isLoose.2.1 13 = .ok (.ireturn, 1) := by decide +kernel
theorem d_Pr_isLoose_14 : decode M_Pr_isLoose.2.1 14 = .ok (.aload_n 0, 1) := by decide +kernel
theorem d_Pr_isLoose_15 : decode M_Pr_isLoose.2.1 15 = .ok (.getfield 18, 3) := by decide +kernel
theorem d_Pr_isLoose_18 : decode M_Pr_isLoose.2.1 18 = .ok (.iload_n 1, 1) := by decide +kernel
theorem d_Pr_isLoose_19 : decode M_Pr_isLoose.2.1 19 = .ok (.iconst 5, 1) := by decide +kernel
theorem d_Pr_isLoose_20 : decode M_Pr_isLoose.2.1 20 = .ok (.imul, 1) := by decide +kernel
theorem d_Pr_isLoose_21 : decode M_Pr_isLoose.2.1 21 = .ok (.iconst 2, 1) := by decide +kernel
theorem d_Pr_isLoose_22 : decode M_Pr_isLoose.2.1 22 = .ok (.iadd, 1) := by decide +kernel
theorem d_Pr_isLoose_23 : decode M_Pr_isLoose.2.1 23 = .ok (.iaload, 1) := by decide +kernel
theorem d_Pr_isLoose_24 : decode M_Pr_isLoose.2.1 24 = .ok (.iconst (-1), 1) := by decide +kernel
theorem d_Pr_isLoose_25 : decode M_Pr_isLoose.2.1 25 = .ok (.if_icmp .ne 21, 3) := by decide +kernel
theorem d_Pr_isLoose_28 : decode M_Pr_isLoose.2.1 28 = .ok (.aload_n 0, 1) := by decide +kernel
theorem d_Pr_isLoose_29 : decode M_Pr_isLoose.2.1 29 = .ok (.getfield 18, 3) := by decide +kernel
theorem d_Pr_isLoose_32 : decode M_Pr_isLoose.2.1 32 = .ok (.iload_n 1, 1) := by decide +kernel
theorem d_Pr_isLoose_33 : decode M_Pr_isLoose.2.1 33 = .ok (.iconst 5, 1) := by decide +kernel
theorem d_Pr_isLoose_34 : decode M_Pr_isLoose.2.1 34 = .ok (.imul, 1) := by decide +kernel
theorem d_Pr_isLoose_35 : decode M_Pr_isLoose.2.1 35 = .ok (.iconst 4, 1) := by decide +kernel
theorem d_Pr_isLoose_36 : decode M_Pr_isLoose.2.1 36 = .ok (.iadd, 1) := by decide +kernel
theorem d_Pr_isLoose_37 : decode M_Pr_isLoose.2.1 37 = .ok (.iaload, 1) := by decide +kernel
theorem d_Pr_isLoose_38 : decode M_Pr_isLoose.2.1 38 = .ok (.iconst (-1), 1) := by decide +kernel
theorem d_Pr_isLoose_39 : decode M_Pr_isLoose.2.1 39 = .ok (.if_icmp .ne 7, 3) := by decide +kernel
theorem d_Pr_isLoose_42 : decode M_Pr_isLoose.2.1 42 = .ok (.iconst 1, 1) := by decide +kernel
theorem d_Pr_isLoose_43 : decode M_Pr_isLoose.2.1 43 = .ok (.goto 4, 3) := by decide +kernel
theorem d_Pr_isLoose_46 : decode M_Pr_isLoose.2.1 46 = .ok (.iconst 0, 1) := by decide +kernel
theorem d_Pr_isLoose_47 : decode M_Pr_isLoose.2.1 47 = .ok (.ireturn, 1) := by decide +kernel
def F_Pr_isLoose (a : Nat) (x1 : Int32) (δ : Dl) : Option (Int32) :=
  if x1 < 0 then (some 0) else (if x1 < (δ.1 30 a) then (if inb ((x1 * 5) + 2) 150 then if (δ.2.1 32 a ((x1 * 5) + 2)) = (-1) then (if inb ((x1 * 5) + 4) 150 then if (δ.2.1 32 a ((x1 * 5) + 4)) = (-1) then (some 1) else (some 0) else none) else (some 0) else none) else (some 0))
set_option maxRecDepth 20000 in
set_option maxHeartbeats 4000000 in
theorem c_Pr_isLoose {l : Launch} {Γ : Gm} (hG : GC Γ) (a : Nat) (x1 : Int32) (ha : Oc a 3) (δ : Dl) (r : Int32) (h : F_Pr_isLoose a x1  δ = some r) : Ct l M_Pr_isLoose 0 0 0 NF [.inr (0, a), .inl x1] Γ δ (some (.inl r), Γ, δ) := by
  unfold F_Pr_isLoose at h
  have oa := hG.ob ha
  refine Ct.of2 (n := 0) (ls := [some (.inr (0, a)), some (.inl x1)]) rfl (by decide +kernel) (Nat.le_of_ble_eq_true rfl) ?_
  refine x_iload_n (i := 1) d_Pr_isLoose_0 rfl rfl ?_
  refine x_if_lt (tgt := 12) d_Pr_isLoose_1 (by decide) (fun c1 => ?_) (fun c1 => ?_)
  · have h := if_t c1 h
    refine x_ic (v := 0) d_Pr_isLoose_12 (by decide) ?_
    replace h := Option.some.inj h; subst h
    exact x_nret rfl rfl d_Pr_isLoose_13 (Nat.le_refl 0) (Nat.le_refl 0)
  · have h := if_f c1 h
    refine x_iload_n (i := 1) d_Pr_isLoose_4 rfl rfl ?_
    refine x_aload_n (i := 0) d_Pr_isLoose_5 rfl rfl ?_
    refine x_getI (f := 30) gl_Pr_9_3 rfl kf_30 oa d_Pr_isLoose_6 ?_
    refine x_cmp_lt (tgt := 14) d_Pr_isLoose_9 (by decide) (fun c9 => ?_) (fun c9 => ?_)
    · have h := if_t c9 h
      refine x_aload_n (i := 0) d_Pr_isLoose_14 rfl rfl ?_
      refine x_getA (f := 32) gl_Pr_18_3 rfl (by rw [kf_32]; decide) oa d_Pr_isLoose_15 ?_
      refine x_iload_n (i := 1) d_Pr_isLoose_18 rfl rfl ?_
      refine x_ic (v := 5) d_Pr_isLoose_19 (by decide) ?_
      refine x_imul d_Pr_isLoose_20 ?_
      refine x_ic (v := 2) d_Pr_isLoose_21 (by decide) ?_
      refine x_iadd d_Pr_isLoose_22 ?_
      obtain ⟨g23, h⟩ := gd_e h
      refine x_iald (n := 150) kf_32 (oz_32 oa) (ln_32 _) g23 d_Pr_isLoose_23 ?_
      refine x_ic (v := -1) d_Pr_isLoose_24 (by decide) ?_
      refine x_cmp_ne (tgt := 46) d_Pr_isLoose_25 (by decide) (fun c25 => ?_) (fun c25 => ?_)
      · have h := if_f c25 h
        refine x_ic (v := 0) d_Pr_isLoose_46 (by decide) ?_
        replace h := Option.some.inj h; subst h
        exact x_nret rfl rfl d_Pr_isLoose_47 (Nat.le_refl 0) (Nat.le_refl 0)
      · have h := if_t c25 h
        refine x_aload_n (i := 0) d_Pr_isLoose_28 rfl rfl ?_
        refine x_getA (f := 32) gl_Pr_18_3 rfl (by rw [kf_32]; decide) oa d_Pr_isLoose_29 ?_
        refine x_iload_n (i := 1) d_Pr_isLoose_32 rfl rfl ?_
        refine x_ic (v := 5) d_Pr_isLoose_33 (by decide) ?_
        refine x_imul d_Pr_isLoose_34 ?_
        refine x_ic (v := 4) d_Pr_isLoose_35 (by decide) ?_
        refine x_iadd d_Pr_isLoose_36 ?_
        obtain ⟨g37, h⟩ := gd_e h
        refine x_iald (n := 150) kf_32 (oz_32 oa) (ln_32 _) g37 d_Pr_isLoose_37 ?_
        refine x_ic (v := -1) d_Pr_isLoose_38 (by decide) ?_
        refine x_cmp_ne (tgt := 46) d_Pr_isLoose_39 (by decide) (fun c39 => ?_) (fun c39 => ?_)
        · have h := if_f c39 h
          refine x_ic (v := 0) d_Pr_isLoose_46 (by decide) ?_
          replace h := Option.some.inj h; subst h
          exact x_nret rfl rfl d_Pr_isLoose_47 (Nat.le_refl 0) (Nat.le_refl 0)
        · have h := if_t c39 h
          refine x_ic (v := 1) d_Pr_isLoose_42 (by decide) ?_
          refine x_goto (tgt := 47) d_Pr_isLoose_43 (by decide) ?_
          replace h := Option.some.inj h; subst h
          exact x_nret rfl rfl d_Pr_isLoose_47 (Nat.le_refl 0) (Nat.le_refl 0)
    · have h := if_f c9 h
      refine x_ic (v := 0) d_Pr_isLoose_12 (by decide) ?_
      replace h := Option.some.inj h; subst h
      exact x_nret rfl rfl d_Pr_isLoose_13 (Nat.le_refl 0) (Nat.le_refl 0)
-- BlockStage$Program.isWithin(II)Z
theorem d_Pr_isWithin_0 : decode M_Pr_isWithin.2.1 0 = .ok (.iload_n 1, 1) := by decide +kernel
theorem d_Pr_isWithin_1 : decode M_Pr_isWithin.2.1 1 = .ok (.istore_n 3, 1) := by decide +kernel
theorem d_Pr_isWithin_2 : decode M_Pr_isWithin.2.1 2 = .ok (.iconst 0, 1) := by decide +kernel
theorem d_Pr_isWithin_3 : decode M_Pr_isWithin.2.1 3 = .ok (.istore 4, 2) := by decide +kernel
theorem d_Pr_isWithin_5 : decode M_Pr_isWithin.2.1 5 = .ok (.iload 4, 2) := by decide +kernel
theorem d_Pr_isWithin_7 : decode M_Pr_isWithin.2.1 7 = .ok (.bipush 30, 2) := by decide +kernel
theorem d_Pr_isWithin_9 : decode M_Pr_isWithin.2.1 9 = .ok (.if_icmp .ge 39, 3) := by decide +kernel
theorem d_Pr_isWithin_12 : decode M_Pr_isWithin.2.1 12 = .ok (.iload_n 3, 1) := by decide +kernel
theorem d_Pr_isWithin_13 : decode M_Pr_isWithin.2.1 13 = .ok (.ifCond .lt 35, 3) := by decide +kernel
theorem d_Pr_isWithin_16 : decode M_Pr_isWithin.2.1 16 = .ok (.iload_n 3, 1) := by decide +kernel
theorem d_Pr_isWithin_17 : decode M_Pr_isWithin.2.1 17 = .ok (.aload_n 0, 1) := by decide +kernel
theorem d_Pr_isWithin_18 : decode M_Pr_isWithin.2.1 18 = .ok (.getfield 9, 3) := by decide +kernel
theorem d_Pr_isWithin_21 : decode M_Pr_isWithin.2.1 21 = .ok (.if_icmp .ge 27, 3) := by decide +kernel
theorem d_Pr_isWithin_24 : decode M_Pr_isWithin.2.1 24 = .ok (.iload_n 3, 1) := by decide +kernel
theorem d_Pr_isWithin_25 : decode M_Pr_isWithin.2.1 25 = .ok (.iload_n 2, 1) := by decide +kernel
theorem d_Pr_isWithin_26 : decode M_Pr_isWithin.2.1 26 = .ok (.if_icmp .ne 5, 3) := by decide +kernel
theorem d_Pr_isWithin_29 : decode M_Pr_isWithin.2.1 29 = .ok (.iconst 1, 1) := by decide +kernel
theorem d_Pr_isWithin_30 : decode M_Pr_isWithin.2.1 30 = .ok (.ireturn, 1) := by decide +kernel
theorem d_Pr_isWithin_31 : decode M_Pr_isWithin.2.1 31 = .ok (.aload_n 0, 1) := by decide +kernel
theorem d_Pr_isWithin_32 : decode M_Pr_isWithin.2.1 32 = .ok (.getfield 18, 3) := by decide +kernel
theorem d_Pr_isWithin_35 : decode M_Pr_isWithin.2.1 35 = .ok (.iload_n 3, 1) := by decide +kernel
theorem d_Pr_isWithin_36 : decode M_Pr_isWithin.2.1 36 = .ok (.iconst 5, 1) := by decide +kernel
theorem d_Pr_isWithin_37 : decode M_Pr_isWithin.2.1 37 = .ok (.imul, 1) := by decide +kernel
theorem d_Pr_isWithin_38 : decode M_Pr_isWithin.2.1 38 = .ok (.iconst 2, 1) := by decide +kernel
theorem d_Pr_isWithin_39 : decode M_Pr_isWithin.2.1 39 = .ok (.iadd, 1) := by decide +kernel
theorem d_Pr_isWithin_40 : decode M_Pr_isWithin.2.1 40 = .ok (.iaload, 1) := by decide +kernel
theorem d_Pr_isWithin_41 : decode M_Pr_isWithin.2.1 41 = .ok (.istore_n 3, 1) := by decide +kernel
theorem d_Pr_isWithin_42 : decode M_Pr_isWithin.2.1 42 = .ok (.iinc 4 1, 3) := by decide +kernel
theorem d_Pr_isWithin_45 : decode M_Pr_isWithin.2.1 45 = .ok (.goto (-40), 3) := by decide +kernel
theorem d_Pr_isWithin_48 : decode M_Pr_isWithin.2.1 48 = .ok (.iconst 0, 1) := by decide +kernel
theorem d_Pr_isWithin_49 : decode M_Pr_isWithin.2.1 49 = .ok (.ireturn, 1) := by decide +kernel
def F_Pr_isWithin_5_b (a : Nat) (x1 : Int32) (x2 : Int32) (k5 : Int32 → Int32 → Dl → Option (Int32)) (x3 : Int32) (x4 : Int32) (δ : Dl) : Option (Int32) :=
  if 30 ≤ x4 then (some 0) else (if x3 < 0 then (some 0) else (if (δ.1 30 a) ≤ x3 then (some 0) else (if x3 = x2 then (some 1) else (if inb ((x3 * 5) + 2) 150 then bnd ((δ.2.1 32 a ((x3 * 5) + 2))) fun x3_41 => k5 x3_41 ((x4 + 1)) δ else none))))
set_option maxRecDepth 20000 in
set_option maxHeartbeats 4000000 in
theorem j_Pr_isWithin_5_b {l : Launch} {Γ : Gm} (hG : GC Γ) (a : Nat) (x1 : Int32) (x2 : Int32) (ha : Oc a 3) (k5 : Int32 → Int32 → Dl → Option (Int32)) (x3 : Int32) (x4 : Int32) (δ : Dl) (r : Int32) (hk5 : ∀ (x3 : Int32) (x4 : Int32) (δ : Dl),  k5 x3 x4 δ = some r → Xe l M_Pr_isWithin 0 0 0 NF 5 [some (.inr (0, a)), none, some (.inl x2), some (.inl x3), some (.inl x4)] [] 0 0 Γ δ (some (.inl r), Γ, δ)) (h : F_Pr_isWithin_5_b a x1 x2 k5 x3 x4 δ = some r) : Xe l M_Pr_isWithin 0 0 0 NF 5 [some (.inr (0, a)), none, some (.inl x2), some (.inl x3), some (.inl x4)] [] 0 0 Γ δ (some (.inl r), Γ, δ) := by
  unfold F_Pr_isWithin_5_b at h
  have oa := hG.ob ha
  refine x_iload (i := 4) d_Pr_isWithin_5 rfl ?_
  refine x_bi (v := 30) d_Pr_isWithin_7 (by decide) ?_
  refine x_cmp_ge (tgt := 48) d_Pr_isWithin_9 (by decide) (fun c9 => ?_) (fun c9 => ?_)
  · have h := if_t c9 h
    refine x_ic (v := 0) d_Pr_isWithin_48 (by decide) ?_
    replace h := Option.some.inj h; subst h
    exact x_nret rfl rfl d_Pr_isWithin_49 (Nat.le_refl 0) (Nat.le_refl 0)
  · have h := if_f c9 h
    refine x_iload_n (i := 3) d_Pr_isWithin_12 rfl rfl ?_
    refine x_if_lt (tgt := 48) d_Pr_isWithin_13 (by decide) (fun c13 => ?_) (fun c13 => ?_)
    · have h := if_t c13 h
      refine x_ic (v := 0) d_Pr_isWithin_48 (by decide) ?_
      replace h := Option.some.inj h; subst h
      exact x_nret rfl rfl d_Pr_isWithin_49 (Nat.le_refl 0) (Nat.le_refl 0)
    · have h := if_f c13 h
      refine x_iload_n (i := 3) d_Pr_isWithin_16 rfl rfl ?_
      refine x_aload_n (i := 0) d_Pr_isWithin_17 rfl rfl ?_
      refine x_getI (f := 30) gl_Pr_9_3 rfl kf_30 oa d_Pr_isWithin_18 ?_
      refine x_cmp_ge (tgt := 48) d_Pr_isWithin_21 (by decide) (fun c21 => ?_) (fun c21 => ?_)
      · have h := if_t c21 h
        refine x_ic (v := 0) d_Pr_isWithin_48 (by decide) ?_
        replace h := Option.some.inj h; subst h
        exact x_nret rfl rfl d_Pr_isWithin_49 (Nat.le_refl 0) (Nat.le_refl 0)
      · have h := if_f c21 h
        refine x_iload_n (i := 3) d_Pr_isWithin_24 rfl rfl ?_
        refine x_iload_n (i := 2) d_Pr_isWithin_25 rfl rfl ?_
        refine x_cmp_ne (tgt := 31) d_Pr_isWithin_26 (by decide) (fun c26 => ?_) (fun c26 => ?_)
        · have h := if_f c26 h
          refine x_aload_n (i := 0) d_Pr_isWithin_31 rfl rfl ?_
          refine x_getA (f := 32) gl_Pr_18_3 rfl (by rw [kf_32]; decide) oa d_Pr_isWithin_32 ?_
          refine x_iload_n (i := 3) d_Pr_isWithin_35 rfl rfl ?_
          refine x_ic (v := 5) d_Pr_isWithin_36 (by decide) ?_
          refine x_imul d_Pr_isWithin_37 ?_
          refine x_ic (v := 2) d_Pr_isWithin_38 (by decide) ?_
          refine x_iadd d_Pr_isWithin_39 ?_
          obtain ⟨g40, h⟩ := gd_e h
          refine x_iald (n := 150) kf_32 (oz_32 oa) (ln_32 _) g40 d_Pr_isWithin_40 ?_
          obtain ⟨x3_41, ex3_41, h⟩ := bn_e h
          refine Xe.top ex3_41 ?_
          refine x_stn (i := 3) (ls' := [some (.inr (0, a)), none, some (.inl x2), some (.inl x3_41), some (.inl x4)]) d_Pr_isWithin_41 rfl (by decide) rfl ?_
          refine x_inc (i := 4) (c0 := 1) (ls' := [some (.inr (0, a)), none, some (.inl x2), some (.inl x3_41), some (.inl (x4 + 1))]) d_Pr_isWithin_42 (by decide) rfl (by decide) rfl ?_
          refine x_goto (tgt := 5) d_Pr_isWithin_45 (by decide) ?_
          exact hk5 x3_41 ((x4 + 1)) δ h
        · have h := if_t c26 h
          refine x_ic (v := 1) d_Pr_isWithin_29 (by decide) ?_
          replace h := Option.some.inj h; subst h
          exact x_nret rfl rfl d_Pr_isWithin_30 (Nat.le_refl 0) (Nat.le_refl 0)
def F_Pr_isWithin_5 (a : Nat) (x1 : Int32) (x2 : Int32) : Nat → Int32 → Int32 → Dl → Option (Int32)
  | 0, _, _, _ => none
  | n + 1, x3, x4, δ => F_Pr_isWithin_5_b a x1 x2 (F_Pr_isWithin_5 a x1 x2 n) x3 x4 δ
theorem j_Pr_isWithin_5 {l : Launch} {Γ : Gm} (hG : GC Γ) (a : Nat) (x1 : Int32) (x2 : Int32) (ha : Oc a 3) (n : Nat) (x3 : Int32) (x4 : Int32) (δ : Dl) (r : Int32) (h : F_Pr_isWithin_5 a x1 x2 n x3 x4 δ = some r) : Xe l M_Pr_isWithin 0 0 0 NF 5 [some (.inr (0, a)), none, some (.inl x2), some (.inl x3), some (.inl x4)] [] 0 0 Γ δ (some (.inl r), Γ, δ) := by
  induction n generalizing x3 x4 δ with
  | zero => cases h
  | succ n ih => exact j_Pr_isWithin_5_b hG a x1 x2 ha (F_Pr_isWithin_5 a x1 x2 n) x3 x4 δ r (fun x3 x4 δ hh => ih x3 x4 δ hh) h
def F_Pr_isWithin (a : Nat) (x1 : Int32) (x2 : Int32) (δ : Dl) : Option (Int32) :=
  F_Pr_isWithin_5 a x1 x2 FU x1 0 δ
set_option maxRecDepth 20000 in
set_option maxHeartbeats 4000000 in
theorem c_Pr_isWithin {l : Launch} {Γ : Gm} (hG : GC Γ) (a : Nat) (x1 : Int32) (x2 : Int32) (ha : Oc a 3) (δ : Dl) (r : Int32) (h : F_Pr_isWithin a x1 x2  δ = some r) : Ct l M_Pr_isWithin 0 0 0 NF [.inr (0, a), .inl x1, .inl x2] Γ δ (some (.inl r), Γ, δ) := by
  unfold F_Pr_isWithin at h
  have oa := hG.ob ha
  refine Ct.of2 (n := 2) (ls := [some (.inr (0, a)), some (.inl x1), some (.inl x2), none, none]) rfl (by decide +kernel) (Nat.le_of_ble_eq_true rfl) ?_
  refine x_iload_n (i := 1) d_Pr_isWithin_0 rfl rfl ?_
  refine x_stn (i := 3) (ls' := [some (.inr (0, a)), some (.inl x1), some (.inl x2), some (.inl x1), none]) d_Pr_isWithin_1 rfl (by decide) rfl ?_
  refine x_ic (v := 0) d_Pr_isWithin_2 (by decide) ?_
  refine x_stw (i := 4) (ls' := [some (.inr (0, a)), some (.inl x1), some (.inl x2), some (.inl x1), some (.inl 0)]) d_Pr_isWithin_3 (by decide) rfl ?_
  refine x_wk (ls' := [some (.inr (0, a)), none, some (.inl x2), some (.inl x1), some (.inl 0)]) ⟨Or.inr rfl, Or.inl rfl, Or.inr rfl, Or.inr rfl, Or.inr rfl, trivial⟩ ?_
  exact j_Pr_isWithin_5 hG a x1 x2 ha FU x1 0 δ r h
-- BlockStage$Program.attach(III)V
theorem d_Pr_attach_0 : decode M_Pr_attach.2.1 0 = .ok (.iload_n 1, 1) := by decide +kernel
theorem d_Pr_attach_1 : decode M_Pr_attach.2.1 1 = .ok (.ifCond .lt 32, 3) := by decide +kernel
theorem d_Pr_attach_4 : decode M_Pr_attach.2.1 4 = .ok (.iload_n 1, 1) := by decide +kernel
theorem d_Pr_attach_5 : decode M_Pr_attach.2.1 5 = .ok (.aload_n 0, 1) := by decide +kernel
theorem d_Pr_attach_6 : decode M_Pr_attach.2.1 6 = .ok (.getfield 9, 3) := by decide +kernel
theorem d_Pr_attach_9 : decode M_Pr_attach.2.1 9 = .ok (.if_icmp .ge 24, 3) := by decide +kernel
theorem d_Pr_attach_12 : decode M_Pr_attach.2.1 12 = .ok (.iload_n 2, 1) := by decide +kernel
theorem d_Pr_attach_13 : decode M_Pr_attach.2.1 13 = .ok (.ifCond .lt 20, 3) := by decide +kernel
theorem d_Pr_attach_16 : decode M_Pr_attach.2.1 16 = .ok (.iload_n 2, 1) := by decide +kernel
theorem d_Pr_attach_17 : decode M_Pr_attach.2.1 17 = .ok (.iconst 5, 1) := by decide +kernel
theorem d_Pr_attach_18 : decode M_Pr_attach.2.1 18 = .ok (.if_icmp .ge 15, 3) := by decide +kernel
theorem d_Pr_attach_21 : decode M_Pr_attach.2.1 21 = .ok (.iload_n 3, 1) := by decide +kernel
theorem d_Pr_attach_22 : decode M_Pr_attach.2.1 22 = .ok (.ifCond .lt 11, 3) := by decide +kernel
theorem d_Pr_attach_25 : decode M_Pr_attach.2.1 25 = .ok (.iload_n 3, 1) := by decide +kernel
theorem d_Pr_attach_26 : decode M_Pr_attach.2.1 26 = .ok (.aload_n 0, 1) := by decide +kernel
theorem d_Pr_attach_27 : decode M_Pr_attach.2.1 27 = .ok (.getfield 9, 3) := by decide +kernel
theorem d_Pr_attach_30 : decode M_Pr_attach.2.1 30 = .ok (.if_icmp .lt 4, 3) := by decide +kernel
theorem d_Pr_attach_33 : decode M_Pr_attach.2.1 33 = .ok (.return_, 1) := by decide +kernel
theorem d_Pr_attach_34 : decode M_Pr_attach.2.1 34 = .ok (.aload_n 0, 1) := by decide +kernel
theorem d_Pr_attach_35 : decode M_Pr_attach.2.1 35 = .ok (.getfield 22, 3) := by decide +kernel
theorem d_Pr_attach_38 : decode M_Pr_attach.2.1 38 = .ok (.iload_n 1, 1) := by decide +kernel
theorem d_Pr_attach_39 : decode M_Pr_attach.2.1 39 = .ok (.iconst 5, 1) := by decide +kernel
theorem d_Pr_attach_40 : decode M_Pr_attach.2.1 40 = .ok (.imul, 1) := by decide +kernel
theorem d_Pr_attach_41 : decode M_Pr_attach.2.1 41 = .ok (.iload_n 2, 1) := by decide +kernel
theorem d_Pr_attach_42 : decode M_Pr_attach.2.1 42 = .ok (.iadd, 1) := by decide +kernel
theorem d_Pr_attach_43 : decode M_Pr_attach.2.1 43 = .ok (.iload_n 3, 1) := by decide +kernel
theorem d_Pr_attach_44 : decode M_Pr_attach.2.1 44 = .ok (.iastore, 1) := by decide +kernel
theorem d_Pr_attach_45 : decode M_Pr_attach.2.1 45 = .ok (.aload_n 0, 1) := by decide +kernel
theorem d_Pr_attach_46 : decode M_Pr_attach.2.1 46 = .ok (.getfield 18, 3) := by decide +kernel
theorem d_Pr_attach_49 : decode M_Pr_attach.2.1 49 = .ok (.iload_n 3, 1) := by decide +kernel
theorem d_Pr_attach_50 : decode M_Pr_attach.2.1 50 = .ok (.iconst 5, 1) := by decide +kernel
theorem d_Pr_attach_51 : decode M_Pr_attach.2.1 51 = .ok (.imul, 1) := by decide +kernel
theorem d_Pr_attach_52 : decode M_Pr_attach.2.1 52 = .ok (.iconst 2, 1) := by decide +kernel
theorem d_Pr_attach_53 : decode M_Pr_attach.2.1 53 = .ok (.iadd, 1) := by decide +kernel
theorem d_Pr_attach_54 : decode M_Pr_attach.2.1 54 = .ok (.iload_n 1, 1) := by decide +kernel
theorem d_Pr_attach_55 : decode M_Pr_attach.2.1 55 = .ok (.iastore, 1) := by decide +kernel
theorem d_Pr_attach_56 : decode M_Pr_attach.2.1 56 = .ok (.aload_n 0, 1) := by decide +kernel
theorem d_Pr_attach_57 : decode M_Pr_attach.2.1 57 = .ok (.getfield 18, 3) := by decide +kernel
theorem d_Pr_attach_60 : decode M_Pr_attach.2.1 60 = .ok (.iload_n 3, 1) := by decide +kernel
theorem d_Pr_attach_61 : decode M_Pr_attach.2.1 61 = .ok (.iconst 5, 1) := by decide +kernel
theorem d_Pr_attach_62 : decode M_Pr_attach.2.1 62 = .ok (.imul, 1) := by decide +kernel
theorem d_Pr_attach_63 : decode M_Pr_attach.2.1 63 = .ok (.iconst 3, 1) := by decide +kernel
theorem d_Pr_attach_64 : decode M_Pr_attach.2.1 64 = .ok (.iadd, 1) := by decide +kernel
theorem d_Pr_attach_65 : decode M_Pr_attach.2.1 65 = .ok (.iload_n 2, 1) := by decide +kernel
theorem d_Pr_attach_66 : decode M_Pr_attach.2.1 66 = .ok (.iastore, 1) := by decide +kernel
theorem d_Pr_attach_67 : decode M_Pr_attach.2.1 67 = .ok (.return_, 1) := by decide +kernel
def F_Pr_attach (a : Nat) (x1 : Int32) (x2 : Int32) (x3 : Int32) (δ : Dl) : Option (Dl) :=
  if x1 < 0 then (some δ) else (if (δ.1 30 a) ≤ x1 then (some δ) else (if x2 < 0 then (some δ) else (if 5 ≤ x2 then (some δ) else (if x3 < 0 then (some δ) else (if x3 < (δ.1 30 a) then (if inb ((x1 * 5) + x2) 150 then bnd (sA δ 33 a ((x1 * 5) + x2) x3) fun δ44 => if inb ((x3 * 5) + 2) 150 then bnd (sA δ44 32 a ((x3 * 5) + 2) x1) fun δ55 => if inb ((x3 * 5) + 3) 150 then bnd (sA δ55 32 a ((x3 * 5) + 3) x2) fun δ66 => some δ66 else none else none else none) else (some δ))))))
set_option maxRecDepth 20000 in
set_option maxHeartbeats 4000000 in
theorem c_Pr_attach {l : Launch} {Γ : Gm} (hG : GC Γ) (a : Nat) (x1 : Int32) (x2 : Int32) (x3 : Int32) (ha : Oc a 3) (δ : Dl) (r : Dl) (h : F_Pr_attach a x1 x2 x3  δ = some r) : Ct l M_Pr_attach 0 0 0 NF [.inr (0, a), .inl x1, .inl x2, .inl x3] Γ δ (none, Γ, r) := by
  unfold F_Pr_attach at h
  have oa := hG.ob ha
  refine Ct.of2 (n := 0) (ls := [some (.inr (0, a)), some (.inl x1), some (.inl x2), some (.inl x3)]) rfl (by decide +kernel) (Nat.le_of_ble_eq_true rfl) ?_
  refine x_iload_n (i := 1) d_Pr_attach_0 rfl rfl ?_
  refine x_if_lt (tgt := 33) d_Pr_attach_1 (by decide) (fun c1 => ?_) (fun c1 => ?_)
  · have h := if_t c1 h
    replace h := Option.some.inj h; subst h
    exact x_vret rfl d_Pr_attach_33 (Nat.le_refl 0) (Nat.le_refl 0)
  · have h := if_f c1 h
    refine x_iload_n (i := 1) d_Pr_attach_4 rfl rfl ?_
    refine x_aload_n (i := 0) d_Pr_attach_5 rfl rfl ?_
    refine x_getI (f := 30) gl_Pr_9_3 rfl kf_30 oa d_Pr_attach_6 ?_
    refine x_cmp_ge (tgt := 33) d_Pr_attach_9 (by decide) (fun c9 => ?_) (fun c9 => ?_)
    · have h := if_t c9 h
      replace h := Option.some.inj h; subst h
      exact x_vret rfl d_Pr_attach_33 (Nat.le_refl 0) (Nat.le_refl 0)
    · have h := if_f c9 h
      refine x_iload_n (i := 2) d_Pr_attach_12 rfl rfl ?_
      refine x_if_lt (tgt := 33) d_Pr_attach_13 (by decide) (fun c13 => ?_) (fun c13 => ?_)
      · have h := if_t c13 h
        replace h := Option.some.inj h; subst h
        exact x_vret rfl d_Pr_attach_33 (Nat.le_refl 0) (Nat.le_refl 0)
      · have h := if_f c13 h
        refine x_iload_n (i := 2) d_Pr_attach_16 rfl rfl ?_
        refine x_ic (v := 5) d_Pr_attach_17 (by decide) ?_
        refine x_cmp_ge (tgt := 33) d_Pr_attach_18 (by decide) (fun c18 => ?_) (fun c18 => ?_)
        · have h := if_t c18 h
          replace h := Option.some.inj h; subst h
          exact x_vret rfl d_Pr_attach_33 (Nat.le_refl 0) (Nat.le_refl 0)
        · have h := if_f c18 h
          refine x_iload_n (i := 3) d_Pr_attach_21 rfl rfl ?_
          refine x_if_lt (tgt := 33) d_Pr_attach_22 (by decide) (fun c22 => ?_) (fun c22 => ?_)
          · have h := if_t c22 h
            replace h := Option.some.inj h; subst h
            exact x_vret rfl d_Pr_attach_33 (Nat.le_refl 0) (Nat.le_refl 0)
          · have h := if_f c22 h
            refine x_iload_n (i := 3) d_Pr_attach_25 rfl rfl ?_
            refine x_aload_n (i := 0) d_Pr_attach_26 rfl rfl ?_
            refine x_getI (f := 30) gl_Pr_9_3 rfl kf_30 oa d_Pr_attach_27 ?_
            refine x_cmp_lt (tgt := 34) d_Pr_attach_30 (by decide) (fun c30 => ?_) (fun c30 => ?_)
            · have h := if_t c30 h
              refine x_aload_n (i := 0) d_Pr_attach_34 rfl rfl ?_
              refine x_getA (f := 33) gl_Pr_22_3 rfl (by rw [kf_33]; decide) oa d_Pr_attach_35 ?_
              refine x_iload_n (i := 1) d_Pr_attach_38 rfl rfl ?_
              refine x_ic (v := 5) d_Pr_attach_39 (by decide) ?_
              refine x_imul d_Pr_attach_40 ?_
              refine x_iload_n (i := 2) d_Pr_attach_41 rfl rfl ?_
              refine x_iadd d_Pr_attach_42 ?_
              refine x_iload_n (i := 3) d_Pr_attach_43 rfl rfl ?_
              obtain ⟨g44, h⟩ := gd_e h
              obtain ⟨δ44, eδ44, h⟩ := bn_e h
              refine x_iast (n := 150) kf_33 (oz_33 oa) (ln_33 _) g44 d_Pr_attach_44 (Xe.cδ eδ44 ?_)
              refine x_aload_n (i := 0) d_Pr_attach_45 rfl rfl ?_
              refine x_getA (f := 32) gl_Pr_18_3 rfl (by rw [kf_32]; decide) oa d_Pr_attach_46 ?_
              refine x_iload_n (i := 3) d_Pr_attach_49 rfl rfl ?_
              refine x_ic (v := 5) d_Pr_attach_50 (by decide) ?_
              refine x_imul d_Pr_attach_51 ?_
              refine x_ic (v := 2) d_Pr_attach_52 (by decide) ?_
              refine x_iadd d_Pr_attach_53 ?_
              refine x_iload_n (i := 1) d_Pr_attach_54 rfl rfl ?_
              obtain ⟨g55, h⟩ := gd_e h
              obtain ⟨δ55, eδ55, h⟩ := bn_e h
              refine x_iast (n := 150) kf_32 (oz_32 oa) (ln_32 _) g55 d_Pr_attach_55 (Xe.cδ eδ55 ?_)
              refine x_aload_n (i := 0) d_Pr_attach_56 rfl rfl ?_
              refine x_getA (f := 32) gl_Pr_18_3 rfl (by rw [kf_32]; decide) oa d_Pr_attach_57 ?_
              refine x_iload_n (i := 3) d_Pr_attach_60 rfl rfl ?_
              refine x_ic (v := 5) d_Pr_attach_61 (by decide) ?_
              refine x_imul d_Pr_attach_62 ?_
              refine x_ic (v := 3) d_Pr_attach_63 (by decide) ?_
              refine x_iadd d_Pr_attach_64 ?_
              refine x_iload_n (i := 2) d_Pr_attach_65 rfl rfl ?_
              obtain ⟨g66, h⟩ := gd_e h
              obtain ⟨δ66, eδ66, h⟩ := bn_e h
              refine x_iast (n := 150) kf_32 (oz_32 oa) (ln_32 _) g66 d_Pr_attach_66 (Xe.cδ eδ66 ?_)
              replace h := Option.some.inj h; subst h
              exact x_vret rfl d_Pr_attach_67 (Nat.le_refl 0) (Nat.le_refl 0)
            · have h := if_f c30 h
              replace h := Option.some.inj h; subst h
              exact x_vret rfl d_Pr_attach_33 (Nat.le_refl 0) (Nat.le_refl 0)
-- BlockStage$Program.attachTop(II)V
theorem d_Pr_attachTop_0 : decode M_Pr_attachTop.2.1 0 = .ok (.iload_n 1, 1) := by decide +kernel
theorem d_Pr_attachTop_1 : decode M_Pr_attachTop.2.1 1 = .ok (.ifCond .lt 23, 3) := by decide +kernel
theorem d_Pr_attachTop_4 : decode M_Pr_attachTop.2.1 4 = .ok (.iload_n 1, 1) := by decide +kernel
theorem d_Pr_attachTop_5 : decode M_Pr_attachTop.2.1 5 = .ok (.aload_n 0, 1) := by decide +kernel
theorem d_Pr_attachTop_6 : decode M_Pr_attachTop.2.1 6 = .ok (.getfield 15, 3) := by decide +kernel
theorem d_Pr_attachTop_9 : decode M_Pr_attachTop.2.1 9 = .ok (.if_icmp .ge 15, 3) := by decide +kernel
theorem d_Pr_attachTop_12 : decode M_Pr_attachTop.2.1 12 = .ok (.iload_n 2, 1) := by decide +kernel
theorem d_Pr_attachTop_13 : decode M_Pr_attachTop.2.1 13 = .ok (.ifCond .lt 11, 3) := by decide +kernel
theorem d_Pr_attachTop_16 : decode M_Pr_attachTop.2.1 16 = .ok (.iload_n 2, 1) := by decide +kernel
theorem d_Pr_attachTop_17 : decode M_Pr_attachTop.2.1 17 = .ok (.aload_n 0, 1) := by decide +kernel
theorem d_Pr_attachTop_18 : decode M_Pr_attachTop.2.1 18 = .ok (.getfield 9, 3) := by decide +kernel
theorem d_Pr_attachTop_21 : decode M_Pr_attachTop.2.1 21 = .ok (.if_icmp .lt 4, 3) := by decide +kernel
theorem d_Pr_attachTop_24 : decode M_Pr_attachTop.2.1 24 = .ok (.return_, 1) := by decide +kernel
theorem d_Pr_attachTop_25 : decode M_Pr_attachTop.2.1 25 = .ok (.aload_n 0, 1) := by decide +kernel
theorem d_Pr_attachTop_26 : decode M_Pr_attachTop.2.1 26 = .ok (.getfield 25, 3) := by decide +kernel
theorem d_Pr_attachTop_29 : decode M_Pr_attachTop.2.1 29 = .ok (.iload_n 1, 1) := by decide +kernel
theorem d_Pr_attachTop_30 : decode M_Pr_attachTop.2.1 30 = .ok (.iconst 5, 1) := by decide +kernel
theorem d_Pr_attachTop_31 : decode M_Pr_attachTop.2.1 31 = .ok (.imul, 1) := by decide +kernel
theorem d_Pr_attachTop_32 : decode M_Pr_attachTop.2.1 32 = .ok (.iconst 4, 1) := by decide +kernel
theorem d_Pr_attachTop_33 : decode M_Pr_attachTop.2.1 33 = .ok (.iadd, 1) := by decide +kernel
theorem d_Pr_attachTop_34 : decode M_Pr_attachTop.2.1 34 = .ok (.iload_n 2, 1) := by decide +kernel
theorem d_Pr_attachTop_35 : decode M_Pr_attachTop.2.1 35 = .ok (.iastore, 1) := by decide +kernel
theorem d_Pr_attachTop_36 : decode M_Pr_attachTop.2.1 36 = .ok (.aload_n 0, 1) := by decide +kernel
theorem d_Pr_attachTop_37 : decode M_Pr_attachTop.2.1 37 = .ok (.getfield 18, 3) := by decide +kernel
theorem d_Pr_attachTop_40 : decode M_Pr_attachTop.2.1 40 = .ok (.iload_n 2, 1) := by decide +kernel
theorem d_Pr_attachTop_41 : decode M_Pr_attachTop.2.1 41 = .ok (.iconst 5, 1) := by decide +kernel
theorem d_Pr_attachTop_42 : decode M_Pr_attachTop.2.1 42 = .ok (.imul, 1) := by decide +kernel
theorem d_Pr_attachTop_43 : decode M_Pr_attachTop.2.1 43 = .ok (.iconst 4, 1) := by decide +kernel
theorem d_Pr_attachTop_44 : decode M_Pr_attachTop.2.1 44 = .ok (.iadd, 1) := by decide +kernel
theorem d_Pr_attachTop_45 : decode M_Pr_attachTop.2.1 45 = .ok (.iload_n 1, 1) := by decide +kernel
theorem d_Pr_attachTop_46 : decode M_Pr_attachTop.2.1 46 = .ok (.iastore, 1) := by decide +kernel
theorem d_Pr_attachTop_47 : decode M_Pr_attachTop.2.1 47 = .ok (.return_, 1) := by decide +kernel
def F_Pr_attachTop (a : Nat) (x1 : Int32) (x2 : Int32) (δ : Dl) : Option (Dl) :=
  if x1 < 0 then (some δ) else (if (δ.1 31 a) ≤ x1 then (some δ) else (if x2 < 0 then (some δ) else (if x2 < (δ.1 30 a) then (if inb ((x1 * 5) + 4) 30 then bnd (sA δ 34 a ((x1 * 5) + 4) x2) fun δ35 => if inb ((x2 * 5) + 4) 150 then bnd (sA δ35 32 a ((x2 * 5) + 4) x1) fun δ46 => some δ46 else none else none) else (some δ))))
set_option maxRecDepth 20000 in
set_option maxHeartbeats 4000000 in
theorem c_Pr_attachTop {l : Launch} {Γ : Gm} (hG : GC Γ) (a : Nat) (x1 : Int32) (x2 : Int32) (ha : Oc a 3) (δ : Dl) (r : Dl) (h : F_Pr_attachTop a x1 x2  δ = some r) : Ct l M_Pr_attachTop 0 0 0 NF [.inr (0, a), .inl x1, .inl x2] Γ δ (none, Γ, r) := by
  unfold F_Pr_attachTop at h
  have oa := hG.ob ha
  refine Ct.of2 (n := 0) (ls := [some (.inr (0, a)), some (.inl x1), some (.inl x2)]) rfl (by decide +kernel) (Nat.le_of_ble_eq_true rfl) ?_
  refine x_iload_n (i := 1) d_Pr_attachTop_0 rfl rfl ?_
  refine x_if_lt (tgt := 24) d_Pr_attachTop_1 (by decide) (fun c1 => ?_) (fun c1 => ?_)
  · have h := if_t c1 h
    replace h := Option.some.inj h; subst h
    exact x_vret rfl d_Pr_attachTop_24 (Nat.le_refl 0) (Nat.le_refl 0)
  · have h := if_f c1 h
    refine x_iload_n (i := 1) d_Pr_attachTop_4 rfl rfl ?_
    refine x_aload_n (i := 0) d_Pr_attachTop_5 rfl rfl ?_
    refine x_getI (f := 31) gl_Pr_15_3 rfl kf_31 oa d_Pr_attachTop_6 ?_
    refine x_cmp_ge (tgt := 24) d_Pr_attachTop_9 (by decide) (fun c9 => ?_) (fun c9 => ?_)
    · have h := if_t c9 h
      replace h := Option.some.inj h; subst h
      exact x_vret rfl d_Pr_attachTop_24 (Nat.le_refl 0) (Nat.le_refl 0)
    · have h := if_f c9 h
      refine x_iload_n (i := 2) d_Pr_attachTop_12 rfl rfl ?_
      refine x_if_lt (tgt := 24) d_Pr_attachTop_13 (by decide) (fun c13 => ?_) (fun c13 => ?_)
      · have h := if_t c13 h
        replace h := Option.some.inj h; subst h
        exact x_vret rfl d_Pr_attachTop_24 (Nat.le_refl 0) (Nat.le_refl 0)
      · have h := if_f c13 h
        refine x_iload_n (i := 2) d_Pr_attachTop_16 rfl rfl ?_
        refine x_aload_n (i := 0) d_Pr_attachTop_17 rfl rfl ?_
        refine x_getI (f := 30) gl_Pr_9_3 rfl kf_30 oa d_Pr_attachTop_18 ?_
        refine x_cmp_lt (tgt := 25) d_Pr_attachTop_21 (by decide) (fun c21 => ?_) (fun c21 => ?_)
        · have h := if_t c21 h
          refine x_aload_n (i := 0) d_Pr_attachTop_25 rfl rfl ?_
          refine x_getA (f := 34) gl_Pr_25_3 rfl (by rw [kf_34]; decide) oa d_Pr_attachTop_26 ?_
          refine x_iload_n (i := 1) d_Pr_attachTop_29 rfl rfl ?_
          refine x_ic (v := 5) d_Pr_attachTop_30 (by decide) ?_
          refine x_imul d_Pr_attachTop_31 ?_
          refine x_ic (v := 4) d_Pr_attachTop_32 (by decide) ?_
          refine x_iadd d_Pr_attachTop_33 ?_
          refine x_iload_n (i := 2) d_Pr_attachTop_34 rfl rfl ?_
          obtain ⟨g35, h⟩ := gd_e h
          obtain ⟨δ35, eδ35, h⟩ := bn_e h
          refine x_iast (n := 30) kf_34 (oz_34 oa) (ln_34 _) g35 d_Pr_attachTop_35 (Xe.cδ eδ35 ?_)
          refine x_aload_n (i := 0) d_Pr_attachTop_36 rfl rfl ?_
          refine x_getA (f := 32) gl_Pr_18_3 rfl (by rw [kf_32]; decide) oa d_Pr_attachTop_37 ?_
          refine x_iload_n (i := 2) d_Pr_attachTop_40 rfl rfl ?_
          refine x_ic (v := 5) d_Pr_attachTop_41 (by decide) ?_
          refine x_imul d_Pr_attachTop_42 ?_
          refine x_ic (v := 4) d_Pr_attachTop_43 (by decide) ?_
          refine x_iadd d_Pr_attachTop_44 ?_
          refine x_iload_n (i := 1) d_Pr_attachTop_45 rfl rfl ?_
          obtain ⟨g46, h⟩ := gd_e h
          obtain ⟨δ46, eδ46, h⟩ := bn_e h
          refine x_iast (n := 150) kf_32 (oz_32 oa) (ln_32 _) g46 d_Pr_attachTop_46 (Xe.cδ eδ46 ?_)
          replace h := Option.some.inj h; subst h
          exact x_vret rfl d_Pr_attachTop_47 (Nat.le_refl 0) (Nat.le_refl 0)
        · have h := if_f c21 h
          replace h := Option.some.inj h; subst h
          exact x_vret rfl d_Pr_attachTop_24 (Nat.le_refl 0) (Nat.le_refl 0)
-- BlockStage$Program.detach(I)V
theorem d_Pr_detach_0 : decode M_Pr_detach.2.1 0 = .ok (.iload_n 1, 1) := by decide +kernel
theorem d_Pr_detach_1 : decode M_Pr_detach.2.1 1 = .ok (.ifCond .lt 11, 3) := by decide +kernel
theorem d_Pr_detach_4 : decode M_Pr_detach.2.1 4 = .ok (.iload_n 1, 1) := by decide +kernel
theorem d_Pr_detach_5 : decode M_Pr_detach.2.1 5 = .ok (.aload_n 0, 1) := by decide +kernel
theorem d_Pr_detach_6 : decode M_Pr_detach.2.1 6 = .ok (.getfield 9, 3) := by decide +kernel
theorem d_Pr_detach_9 : decode M_Pr_detach.2.1 9 = .ok (.if_icmp .lt 4, 3) := by decide +kernel
theorem d_Pr_detach_12 : decode M_Pr_detach.2.1 12 = .ok (.return_, 1) := by decide +kernel
theorem d_Pr_detach_13 : decode M_Pr_detach.2.1 13 = .ok (.aload_n 0, 1) := by decide +kernel
theorem d_Pr_detach_14 : decode M_Pr_detach.2.1 14 = .ok (.getfield 18, 3) := by decide +kernel
theorem d_Pr_detach_17 : decode M_Pr_detach.2.1 17 = .ok (.iload_n 1, 1) := by decide +kernel
theorem d_Pr_detach_18 : decode M_Pr_detach.2.1 18 = .ok (.iconst 5, 1) := by decide +kernel
theorem d_Pr_detach_19 : decode M_Pr_detach.2.1 19 = .ok (.imul, 1) := by decide +kernel
theorem d_Pr_detach_20 : decode M_Pr_detach.2.1 20 = .ok (.iconst 2, 1) := by decide +kernel
theorem d_Pr_detach_21 : decode M_Pr_detach.2.1 21 = .ok (.iadd, 1) := by decide +kernel
theorem d_Pr_detach_22 : decode M_Pr_detach.2.1 22 = .ok (.iaload, 1) := by decide +kernel
theorem d_Pr_detach_23 : decode M_Pr_detach.2.1 23 = .ok (.istore_n 2, 1) := by decide +kernel
theorem d_Pr_detach_24 : decode M_Pr_detach.2.1 24 = .ok (.aload_n 0, 1) := by decide +kernel
theorem d_Pr_detach_25 : decode M_Pr_detach.2.1 25 = .ok (.getfield 18, 3) := by decide +kernel
theorem d_Pr_detach_28 : decode M_Pr_detach.2.1 28 = .ok (.iload_n 1, 1) := by decide +kernel
theorem d_Pr_detach_29 : decode M_Pr_detach.2.1 29 = .ok (.iconst 5, 1) := by decide +kernel
theorem d_Pr_detach_30 : decode M_Pr_detach.2.1 30 = .ok (.imul, 1) := by decide +kernel
theorem d_Pr_detach_31 : decode M_Pr_detach.2.1 31 = .ok (.iconst 3, 1) := by decide +kernel
theorem d_Pr_detach_32 : decode M_Pr_detach.2.1 32 = .ok (.iadd, 1) := by decide +kernel
theorem d_Pr_detach_33 : decode M_Pr_detach.2.1 33 = .ok (.iaload, 1) := by decide +kernel
theorem d_Pr_detach_34 : decode M_Pr_detach.2.1 34 = .ok (.istore_n 3, 1) := by decide +kernel
theorem d_Pr_detach_35 : decode M_Pr_detach.2.1 35 = .ok (.aload_n 0, 1) := by decide +kernel
theorem d_Pr_detach_36 : decode M_Pr_detach.2.1 36 = .ok (.getfield 18, 3) := by decide +kernel
theorem d_Pr_detach_39 : decode M_Pr_detach.2.1 39 = .ok (.iload_n 1, 1) := by decide +kernel
theorem d_Pr_detach_40 : decode M_Pr_detach.2.1 40 = .ok (.iconst 5, 1) := by decide +kernel
theorem d_Pr_detach_41 : decode M_Pr_detach.2.1 41 = .ok (.imul, 1) := by decide +kernel
theorem d_Pr_detach_42 : decode M_Pr_detach.2.1 42 = .ok (.iconst 4, 1) := by decide +kernel
theorem d_Pr_detach_43 : decode M_Pr_detach.2.1 43 = .ok (.iadd, 1) := by decide +kernel
theorem d_Pr_detach_44 : decode M_Pr_detach.2.1 44 = .ok (.iaload, 1) := by decide +kernel
theorem d_Pr_detach_45 : decode M_Pr_detach.2.1 45 = .ok (.istore 4, 2) := by decide +kernel
theorem d_Pr_detach_47 : decode M_Pr_detach.2.1 47 = .ok (.iload_n 2, 1) := by decide +kernel
theorem d_Pr_detach_48 : decode M_Pr_detach.2.1 48 = .ok (.ifCond .lt 31, 3) := by decide +kernel
theorem d_Pr_detach_51 : decode M_Pr_detach.2.1 51 = .ok (.iload_n 2, 1) := by decide +kernel
theorem d_Pr_detach_52 : decode M_Pr_detach.2.1 52 = .ok (.aload_n 0, 1) := by decide +kernel
theorem d_Pr_detach_53 : decode M_Pr_detach.2.1 53 = .ok (.getfield 9, 3) := by decide +kernel
theorem d_Pr_detach_56 : decode M_Pr_detach.2.1 56 = .ok (.if_icmp .ge 23, 3) := by decide +kernel
theorem d_Pr_detach_59 : decode M_Pr_detach.2.1 59 = .ok (.iload_n 3, 1) := by decide +kernel
theorem d_Pr_detach_60 : decode M_Pr_detach.2.1 60 = .ok (.ifCond .lt 19, 3) := by decide +kernel
theorem d_Pr_detach_63 : decode M_Pr_detach.2.1 63 = .ok (.iload_n 3, 1) := by decide +kernel
theorem d_Pr_detach_64 : decode M_Pr_detach.2.1 64 = .ok (.iconst 5, 1) := by decide +kernel
theorem d_Pr_detach_65 : decode M_Pr_detach.2.1 65 = .ok (.if_icmp .ge 14, 3) := by decide +kernel
theorem d_Pr_detach_68 : decode M_Pr_detach.2.1 68 = .ok (.aload_n 0, 1) := by decide +kernel
theorem d_Pr_detach_69 : decode M_Pr_detach.2.1 69 = .ok (.getfield 22, 3) := by decide +kernel
theorem d_Pr_detach_72 : decode M_Pr_detach.2.1 72 = .ok (.iload_n 2, 1) := by decide +kernel
theorem d_Pr_detach_73 : decode M_Pr_detach.2.1 73 = .ok (.iconst 5, 1) := by decide +kernel
theorem d_Pr_detach_74 : decode M_Pr_detach.2.1 74 = .ok (.imul, 1) := by decide +kernel
theorem d_Pr_detach_75 : decode M_Pr_detach.2.1 75 = .ok (.iload_n 3, 1) := by decide +kernel
theorem d_Pr_detach_76 : decode M_Pr_detach.2.1 76 = .ok (.iadd, 1) := by decide +kernel
theorem d_Pr_detach_77 : decode M_Pr_detach.2.1 77 = .ok (.iconst (-1), 1) := by decide +kernel
theorem d_Pr_detach_78 : decode M_Pr_detach.2.1 78 = .ok (.iastore, 1) := by decide +kernel
theorem d_Pr_detach_79 : decode M_Pr_detach.2.1 79 = .ok (.iload 4, 2) := by decide +kernel
theorem d_Pr_detach_81 : decode M_Pr_detach.2.1 81 = .ok (.ifCond .lt 24, 3) := by decide +kernel
theorem d_Pr_detach_84 : decode M_Pr_detach.2.1 84 = .ok (.iload 4, 2) := by decide +kernel
theorem d_Pr_detach_86 : decode M_Pr_detach.2.1 86 = .ok (.aload_n 0, 1) := by decide +kernel
theorem d_Pr_detach_87 : decode M_Pr_detach.2.1 87 = .ok (.getfield 15, 3) := by decide +kernel
theorem d_Pr_detach_90 : decode M_Pr_detach.2.1 90 = .ok (.if_icmp .ge 15, 3) := by decide +kernel
theorem d_Pr_detach_93 : decode M_Pr_detach.2.1 93 = .ok (.aload_n 0, 1) := by decide +kernel
theorem d_Pr_detach_94 : decode M_Pr_detach.2.1 94 = .ok (.getfield 25, 3) := by decide +kernel
theorem d_Pr_detach_97 : decode M_Pr_detach.2.1 97 = .ok (.iload 4, 2) := by decide +kernel
theorem d_Pr_detach_99 : decode M_Pr_detach.2.1 99 = .ok (.iconst 5, 1) := by decide +kernel
theorem d_Pr_detach_100 : decode M_Pr_detach.2.1 100 = .ok (.imul, 1) := by decide +kernel
theorem d_Pr_detach_101 : decode M_Pr_detach.2.1 101 = .ok (.iconst 4, 1) := by decide +kernel
theorem d_Pr_detach_102 : decode M_Pr_detach.2.1 102 = .ok (.iadd, 1) := by decide +kernel
theorem d_Pr_detach_103 : decode M_Pr_detach.2.1 103 = .ok (.iconst (-1), 1) := by decide +kernel
theorem d_Pr_detach_104 : decode M_Pr_detach.2.1 104 = .ok (.iastore, 1) := by decide +kernel
theorem d_Pr_detach_105 : decode M_Pr_detach.2.1 105 = .ok (.aload_n 0, 1) := by decide +kernel
theorem d_Pr_detach_106 : decode M_Pr_detach.2.1 106 = .ok (.getfield 18, 3) := by decide +kernel
theorem d_Pr_detach_109 : decode M_Pr_detach.2.1 109 = .ok (.iload_n 1, 1) := by decide +kernel
theorem d_Pr_detach_110 : decode M_Pr_detach.2.1 110 = .ok (.iconst 5, 1) := by decide +kernel
theorem d_Pr_detach_111 : decode M_Pr_detach.2.1 111 = .ok (.imul, 1) := by decide +kernel
theorem d_Pr_detach_112 : decode M_Pr_detach.2.1 112 = .ok (.iconst 2, 1) := by decide +kernel
theorem d_Pr_detach_113 : decode M_Pr_detach.2.1 113 = .ok (.iadd, 1) := by decide +kernel
theorem d_Pr_detach_114 : decode M_Pr_detach.2.1 114 = .ok (.iconst (-1), 1) := by decide +kernel
theorem d_Pr_detach_115 : decode M_Pr_detach.2.1 115 = .ok (.iastore, 1) := by decide +kernel
theorem d_Pr_detach_116 : decode M_Pr_detach.2.1 116 = .ok (.aload_n 0, 1) := by decide +kernel
theorem d_Pr_detach_117 : decode M_Pr_detach.2.1 117 = .ok (.getfield 18, 3) := by decide +kernel
theorem d_Pr_detach_120 : decode M_Pr_detach.2.1 120 = .ok (.iload_n 1, 1) := by decide +kernel
theorem d_Pr_detach_121 : decode M_Pr_detach.2.1 121 = .ok (.iconst 5, 1) := by decide +kernel
theorem d_Pr_detach_122 : decode M_Pr_detach.2.1 122 = .ok (.imul, 1) := by decide +kernel
theorem d_Pr_detach_123 : decode M_Pr_detach.2.1 123 = .ok (.iconst 3, 1) := by decide +kernel
theorem d_Pr_detach_124 : decode M_Pr_detach.2.1 124 = .ok (.iadd, 1) := by decide +kernel
theorem d_Pr_detach_125 : decode M_Pr_detach.2.1 125 = .ok (.iconst (-1), 1) := by decide +kernel
theorem d_Pr_detach_126 : decode M_Pr_detach.2.1 126 = .ok (.iastore, 1) := by decide +kernel
theorem d_Pr_detach_127 : decode M_Pr_detach.2.1 127 = .ok (.aload_n 0, 1) := by decide +kernel
theorem d_Pr_detach_128 : decode M_Pr_detach.2.1 128 = .ok (.getfield 18, 3) := by decide +kernel
theorem d_Pr_detach_131 : decode M_Pr_detach.2.1 131 = .ok (.iload_n 1, 1) := by decide +kernel
theorem d_Pr_detach_132 : decode M_Pr_detach.2.1 132 = .ok (.iconst 5, 1) := by decide +kernel
theorem d_Pr_detach_133 : decode M_Pr_detach.2.1 133 = .ok (.imul, 1) := by decide +kernel
theorem d_Pr_detach_134 : decode M_Pr_detach.2.1 134 = .ok (.iconst 4, 1) := by decide +kernel
theorem d_Pr_detach_135 : decode M_Pr_detach.2.1 135 = .ok (.iadd, 1) := by decide +kernel
theorem d_Pr_detach_136 : decode M_Pr_detach.2.1 136 = .ok (.iconst (-1), 1) := by decide +kernel
theorem d_Pr_detach_137 : decode M_Pr_detach.2.1 137 = .ok (.iastore, 1) := by decide +kernel
theorem d_Pr_detach_138 : decode M_Pr_detach.2.1 138 = .ok (.return_, 1) := by decide +kernel
def F_Pr_detach_105 (a : Nat) (x1 : Int32) (δ : Dl) : Option (Dl) :=
  if inb ((x1 * 5) + 2) 150 then bnd (sA δ 32 a ((x1 * 5) + 2) (-1)) fun δ115 => if inb ((x1 * 5) + 3) 150 then bnd (sA δ115 32 a ((x1 * 5) + 3) (-1)) fun δ126 => if inb ((x1 * 5) + 4) 150 then bnd (sA δ126 32 a ((x1 * 5) + 4) (-1)) fun δ137 => some δ137 else none else none else none
set_option maxRecDepth 20000 in
set_option maxHeartbeats 4000000 in
theorem j_Pr_detach_105 {l : Launch} {Γ : Gm} (hG : GC Γ) (a : Nat) (x1 : Int32) (ha : Oc a 3) (δ : Dl) (r : Dl) (h : F_Pr_detach_105 a x1  δ = some r) : Xe l M_Pr_detach 0 0 0 NF 105 [some (.inr (0, a)), some (.inl x1), none, none, none] [] 0 0 Γ δ (none, Γ, r) := by
  unfold F_Pr_detach_105 at h
  have oa := hG.ob ha
  refine x_aload_n (i := 0) d_Pr_detach_105 rfl rfl ?_
  refine x_getA (f := 32) gl_Pr_18_3 rfl (by rw [kf_32]; decide) oa d_Pr_detach_106 ?_
  refine x_iload_n (i := 1) d_Pr_detach_109 rfl rfl ?_
  refine x_ic (v := 5) d_Pr_detach_110 (by decide) ?_
  refine x_imul d_Pr_detach_111 ?_
  refine x_ic (v := 2) d_Pr_detach_112 (by decide) ?_
  refine x_iadd d_Pr_detach_113 ?_
  refine x_ic (v := -1) d_Pr_detach_114 (by decide) ?_
  obtain ⟨g115, h⟩ := gd_e h
  obtain ⟨δ115, eδ115, h⟩ := bn_e h
  refine x_iast (n := 150) kf_32 (oz_32 oa) (ln_32 _) g115 d_Pr_detach_115 (Xe.cδ eδ115 ?_)
  refine x_aload_n (i := 0) d_Pr_detach_116 rfl rfl ?_
  refine x_getA (f := 32) gl_Pr_18_3 rfl (by rw [kf_32]; decide) oa d_Pr_detach_117 ?_
  refine x_iload_n (i := 1) d_Pr_detach_120 rfl rfl ?_
  refine x_ic (v := 5) d_Pr_detach_121 (by decide) ?_
  refine x_imul d_Pr_detach_122 ?_
  refine x_ic (v := 3) d_Pr_detach_123 (by decide) ?_
  refine x_iadd d_Pr_detach_124 ?_
  refine x_ic (v := -1) d_Pr_detach_125 (by decide) ?_
  obtain ⟨g126, h⟩ := gd_e h
  obtain ⟨δ126, eδ126, h⟩ := bn_e h
  refine x_iast (n := 150) kf_32 (oz_32 oa) (ln_32 _) g126 d_Pr_detach_126 (Xe.cδ eδ126 ?_)
  refine x_aload_n (i := 0) d_Pr_detach_127 rfl rfl ?_
  refine x_getA (f := 32) gl_Pr_18_3 rfl (by rw [kf_32]; decide) oa d_Pr_detach_128 ?_
  refine x_iload_n (i := 1) d_Pr_detach_131 rfl rfl ?_
  refine x_ic (v := 5) d_Pr_detach_132 (by decide) ?_
  refine x_imul d_Pr_detach_133 ?_
  refine x_ic (v := 4) d_Pr_detach_134 (by decide) ?_
  refine x_iadd d_Pr_detach_135 ?_
  refine x_ic (v := -1) d_Pr_detach_136 (by decide) ?_
  obtain ⟨g137, h⟩ := gd_e h
  obtain ⟨δ137, eδ137, h⟩ := bn_e h
  refine x_iast (n := 150) kf_32 (oz_32 oa) (ln_32 _) g137 d_Pr_detach_137 (Xe.cδ eδ137 ?_)
  replace h := Option.some.inj h; subst h
  exact x_vret rfl d_Pr_detach_138 (Nat.le_refl 0) (Nat.le_refl 0)
def F_Pr_detach_79 (a : Nat) (x1 : Int32) (x4 : Int32) (δ : Dl) : Option (Dl) :=
  if x4 < 0 then (F_Pr_detach_105 a x1 δ) else (if (δ.1 31 a) ≤ x4 then (F_Pr_detach_105 a x1 δ) else (if inb ((x4 * 5) + 4) 30 then bnd (sA δ 34 a ((x4 * 5) + 4) (-1)) fun δ104 => F_Pr_detach_105 a x1 δ104 else none))
set_option maxRecDepth 20000 in
set_option maxHeartbeats 4000000 in
theorem j_Pr_detach_79 {l : Launch} {Γ : Gm} (hG : GC Γ) (a : Nat) (x1 : Int32) (ha : Oc a 3) (x4 : Int32) (δ : Dl) (r : Dl) (h : F_Pr_detach_79 a x1 x4 δ = some r) : Xe l M_Pr_detach 0 0 0 NF 79 [some (.inr (0, a)), some (.inl x1), none, none, some (.inl x4)] [] 0 0 Γ δ (none, Γ, r) := by
  unfold F_Pr_detach_79 at h
  have oa := hG.ob ha
  refine x_iload (i := 4) d_Pr_detach_79 rfl ?_
  refine x_if_lt (tgt := 105) d_Pr_detach_81 (by decide) (fun c81 => ?_) (fun c81 => ?_)
  · have h := if_t c81 h
    refine x_wk (ls' := [some (.inr (0, a)), some (.inl x1), none, none, none]) ⟨Or.inr rfl, Or.inr rfl, Or.inl rfl, Or.inl rfl, Or.inl rfl, trivial⟩ ?_
    exact j_Pr_detach_105 hG a x1 ha  δ r h
  · have h := if_f c81 h
    refine x_iload (i := 4) d_Pr_detach_84 rfl ?_
    refine x_aload_n (i := 0) d_Pr_detach_86 rfl rfl ?_
    refine x_getI (f := 31) gl_Pr_15_3 rfl kf_31 oa d_Pr_detach_87 ?_
    refine x_cmp_ge (tgt := 105) d_Pr_detach_90 (by decide) (fun c90 => ?_) (fun c90 => ?_)
    · have h := if_t c90 h
      refine x_wk (ls' := [some (.inr (0, a)), some (.inl x1), none, none, none]) ⟨Or.inr rfl, Or.inr rfl, Or.inl rfl, Or.inl rfl, Or.inl rfl, trivial⟩ ?_
      exact j_Pr_detach_105 hG a x1 ha  δ r h
    · have h := if_f c90 h
      refine x_aload_n (i := 0) d_Pr_detach_93 rfl rfl ?_
      refine x_getA (f := 34) gl_Pr_25_3 rfl (by rw [kf_34]; decide) oa d_Pr_detach_94 ?_
      refine x_iload (i := 4) d_Pr_detach_97 rfl ?_
      refine x_ic (v := 5) d_Pr_detach_99 (by decide) ?_
      refine x_imul d_Pr_detach_100 ?_
      refine x_ic (v := 4) d_Pr_detach_101 (by decide) ?_
      refine x_iadd d_Pr_detach_102 ?_
      refine x_ic (v := -1) d_Pr_detach_103 (by decide) ?_
      obtain ⟨g104, h⟩ := gd_e h
      obtain ⟨δ104, eδ104, h⟩ := bn_e h
      refine x_iast (n := 30) kf_34 (oz_34 oa) (ln_34 _) g104 d_Pr_detach_104 (Xe.cδ eδ104 ?_)
      refine x_wk (ls' := [some (.inr (0, a)), some (.inl x1), none, none, none]) ⟨Or.inr rfl, Or.inr rfl, Or.inl rfl, Or.inl rfl, Or.inl rfl, trivial⟩ ?_
      exact j_Pr_detach_105 hG a x1 ha  δ104 r h
def F_Pr_detach (a : Nat) (x1 : Int32) (δ : Dl) : Option (Dl) :=
  if x1 < 0 then (some δ) else (if x1 < (δ.1 30 a) then (if inb ((x1 * 5) + 2) 150 then bnd ((δ.2.1 32 a ((x1 * 5) + 2))) fun x2_23 => if inb ((x1 * 5) + 3) 150 then bnd ((δ.2.1 32 a ((x1 * 5) + 3))) fun x3_34 => if inb ((x1 * 5) + 4) 150 then bnd ((δ.2.1 32 a ((x1 * 5) + 4))) fun x4_45 => if x2_23 < 0 then (F_Pr_detach_79 a x1 x4_45 δ) else (if (δ.1 30 a) ≤ x2_23 then (F_Pr_detach_79 a x1 x4_45 δ) else (if x3_34 < 0 then (F_Pr_detach_79 a x1 x4_45 δ) else (if 5 ≤ x3_34 then (F_Pr_detach_79 a x1 x4_45 δ) else (if inb ((x2_23 * 5) + x3_34) 150 then bnd (sA δ 33 a ((x2_23 * 5) + x3_34) (-1)) fun δ78 => F_Pr_detach_79 a x1 x4_45 δ78 else none)))) else none else none else none) else (some δ))
set_option maxRecDepth 20000 in
set_option maxHeartbeats 4000000 in
theorem c_Pr_detach {l : Launch} {Γ : Gm} (hG : GC Γ) (a : Nat) (x1 : Int32) (ha : Oc a 3) (δ : Dl) (r : Dl) (h : F_Pr_detach a x1  δ = some r) : Ct l M_Pr_detach 0 0 0 NF [.inr (0, a), .inl x1] Γ δ (none, Γ, r) := by
  unfold F_Pr_detach at h
  have oa := hG.ob ha
  refine Ct.of2 (n := 3) (ls := [some (.inr (0, a)), some (.inl x1), none, none, none]) rfl (by decide +kernel) (Nat.le_of_ble_eq_true rfl) ?_
  refine x_iload_n (i := 1) d_Pr_detach_0 rfl rfl ?_
  refine x_if_lt (tgt := 12) d_Pr_detach_1 (by decide) (fun c1 => ?_) (fun c1 => ?_)
  · have h := if_t c1 h
    replace h := Option.some.inj h; subst h
    exact x_vret rfl d_Pr_detach_12 (Nat.le_refl 0) (Nat.le_refl 0)
  · have h := if_f c1 h
    refine x_iload_n (i := 1) d_Pr_detach_4 rfl rfl ?_
    refine x_aload_n (i := 0) d_Pr_detach_5 rfl rfl ?_
    refine x_getI (f := 30) gl_Pr_9_3 rfl kf_30 oa d_Pr_detach_6 ?_
    refine x_cmp_lt (tgt := 13) d_Pr_detach_9 (by decide) (fun c9 => ?_) (fun c9 => ?_)
    · have h := if_t c9 h
      refine x_aload_n (i := 0) d_Pr_detach_13 rfl rfl ?_
      refine x_getA (f := 32) gl_Pr_18_3 rfl (by rw [kf_32]; decide) oa d_Pr_detach_14 ?_
      refine x_iload_n (i := 1) d_Pr_detach_17 rfl rfl ?_
      refine x_ic (v := 5) d_Pr_detach_18 (by decide) ?_
      refine x_imul d_Pr_detach_19 ?_
      refine x_ic (v := 2) d_Pr_detach_20 (by decide) ?_
      refine x_iadd d_Pr_detach_21 ?_
      obtain ⟨g22, h⟩ := gd_e h
      refine x_iald (n := 150) kf_32 (oz_32 oa) (ln_32 _) g22 d_Pr_detach_22 ?_
      obtain ⟨x2_23, ex2_23, h⟩ := bn_e h
      refine Xe.top ex2_23 ?_
      refine x_stn (i := 2) (ls' := [some (.inr (0, a)), some (.inl x1), some (.inl x2_23), none, none]) d_Pr_detach_23 rfl (by decide) rfl ?_
      refine x_aload_n (i := 0) d_Pr_detach_24 rfl rfl ?_
      refine x_getA (f := 32) gl_Pr_18_3 rfl (by rw [kf_32]; decide) oa d_Pr_detach_25 ?_
      refine x_iload_n (i := 1) d_Pr_detach_28 rfl rfl ?_
      refine x_ic (v := 5) d_Pr_detach_29 (by decide) ?_
      refine x_imul d_Pr_detach_30 ?_
      refine x_ic (v := 3) d_Pr_detach_31 (by decide) ?_
      refine x_iadd d_Pr_detach_32 ?_
      obtain ⟨g33, h⟩ := gd_e h
      refine x_iald (n := 150) kf_32 (oz_32 oa) (ln_32 _) g33 d_Pr_detach_33 ?_
      obtain ⟨x3_34, ex3_34, h⟩ := bn_e h
      refine Xe.top ex3_34 ?_
      refine x_stn (i := 3) (ls' := [some (.inr (0, a)), some (.inl x1), some (.inl x2_23), some (.inl x3_34), none]) d_Pr_detach_34 rfl (by decide) rfl ?_
      refine x_aload_n (i := 0) d_Pr_detach_35 rfl rfl ?_
      refine x_getA (f := 32) gl_Pr_18_3 rfl (by rw [kf_32]; decide) oa d_Pr_detach_36 ?_
      refine x_iload_n (i := 1) d_Pr_detach_39 rfl rfl ?_
      refine x_ic (v := 5) d_Pr_detach_40 (by decide) ?_
      refine x_imul d_Pr_detach_41 ?_
      refine x_ic (v := 4) d_Pr_detach_42 (by decide) ?_
      refine x_iadd d_Pr_detach_43 ?_
      obtain ⟨g44, h⟩ := gd_e h
      refine x_iald (n := 150) kf_32 (oz_32 oa) (ln_32 _) g44 d_Pr_detach_44 ?_
      obtain ⟨x4_45, ex4_45, h⟩ := bn_e h
      refine Xe.top ex4_45 ?_
      refine x_stw (i := 4) (ls' := [some (.inr (0, a)), some (.inl x1), some (.inl x2_23), some (.inl x3_34), some (.inl x4_45)]) d_Pr_detach_45 (by decide) rfl ?_
      refine x_iload_n (i := 2) d_Pr_detach_47 rfl rfl ?_
      refine x_if_lt (tgt := 79) d_Pr_detach_48 (by decide) (fun c48 => ?_) (fun c48 => ?_)
      · have h := if_t c48 h
        refine x_wk (ls' := [some (.inr (0, a)), some (.inl x1), none, none, some (.inl x4_45)]) ⟨Or.inr rfl, Or.inr rfl, Or.inl rfl, Or.inl rfl, Or.inr rfl, trivial⟩ ?_
        exact j_Pr_detach_79 hG a x1 ha x4_45 δ r h
      · have h := if_f c48 h
        refine x_iload_n (i := 2) d_Pr_detach_51 rfl rfl ?_
        refine x_aload_n (i := 0) d_Pr_detach_52 rfl rfl ?_
        refine x_getI (f := 30) gl_Pr_9_3 rfl kf_30 oa d_Pr_detach_53 ?_
        refine x_cmp_ge (tgt := 79) d_Pr_detach_56 (by decide) (fun c56 => ?_) (fun c56 => ?_)
        · have h := if_t c56 h
          refine x_wk (ls' := [some (.inr (0, a)), some (.inl x1), none, none, some (.inl x4_45)]) ⟨Or.inr rfl, Or.inr rfl, Or.inl rfl, Or.inl rfl, Or.inr rfl, trivial⟩ ?_
          exact j_Pr_detach_79 hG a x1 ha x4_45 δ r h
        · have h := if_f c56 h
          refine x_iload_n (i := 3) d_Pr_detach_59 rfl rfl ?_
          refine x_if_lt (tgt := 79) d_Pr_detach_60 (by decide) (fun c60 => ?_) (fun c60 => ?_)
          · have h := if_t c60 h
            refine x_wk (ls' := [some (.inr (0, a)), some (.inl x1), none, none, some (.inl x4_45)]) ⟨Or.inr rfl, Or.inr rfl, Or.inl rfl, Or.inl rfl, Or.inr rfl, trivial⟩ ?_
            exact j_Pr_detach_79 hG a x1 ha x4_45 δ r h
          · have h := if_f c60 h
            refine x_iload_n (i := 3) d_Pr_detach_63 rfl rfl ?_
            refine x_ic (v := 5) d_Pr_detach_64 (by decide) ?_
            refine x_cmp_ge (tgt := 79) d_Pr_detach_65 (by decide) (fun c65 => ?_) (fun c65 => ?_)
            · have h := if_t c65 h
              refine x_wk (ls' := [some (.inr (0, a)), some (.inl x1), none, none, some (.inl x4_45)]) ⟨Or.inr rfl, Or.inr rfl, Or.inl rfl, Or.inl rfl, Or.inr rfl, trivial⟩ ?_
              exact j_Pr_detach_79 hG a x1 ha x4_45 δ r h
            · have h := if_f c65 h
              refine x_aload_n (i := 0) d_Pr_detach_68 rfl rfl ?_
              refine x_getA (f := 33) gl_Pr_22_3 rfl (by rw [kf_33]; decide) oa d_Pr_detach_69 ?_
              refine x_iload_n (i := 2) d_Pr_detach_72 rfl rfl ?_
              refine x_ic (v := 5) d_Pr_detach_73 (by decide) ?_
              refine x_imul d_Pr_detach_74 ?_
              refine x_iload_n (i := 3) d_Pr_detach_75 rfl rfl ?_
              refine x_iadd d_Pr_detach_76 ?_
              refine x_ic (v := -1) d_Pr_detach_77 (by decide) ?_
              obtain ⟨g78, h⟩ := gd_e h
              obtain ⟨δ78, eδ78, h⟩ := bn_e h
              refine x_iast (n := 150) kf_33 (oz_33 oa) (ln_33 _) g78 d_Pr_detach_78 (Xe.cδ eδ78 ?_)
              refine x_wk (ls' := [some (.inr (0, a)), some (.inl x1), none, none, some (.inl x4_45)]) ⟨Or.inr rfl, Or.inr rfl, Or.inl rfl, Or.inl rfl, Or.inr rfl, trivial⟩ ?_
              exact j_Pr_detach_79 hG a x1 ha x4_45 δ78 r h
    · have h := if_f c9 h
      replace h := Option.some.inj h; subst h
      exact x_vret rfl d_Pr_detach_12 (Nat.le_refl 0) (Nat.le_refl 0)
-- BlockStage$Program.goalBehind(I)I
theorem d_Pr_goalBehind_0 : decode M_Pr_goalBehind.2.1 0 = .ok (.iload_n 1, 1) := by decide +kernel
theorem d_Pr_goalBehind_1 : decode M_Pr_goalBehind.2.1 1 = .ok (.istore_n 2, 1) := by decide +kernel
theorem d_Pr_goalBehind_2 : decode M_Pr_goalBehind.2.1 2 = .ok (.iconst 1, 1) := by decide +kernel
theorem d_Pr_goalBehind_3 : decode M_Pr_goalBehind.2.1 3 = .ok (.istore_n 3, 1) := by decide +kernel
theorem d_Pr_goalBehind_4 : decode M_Pr_goalBehind.2.1 4 = .ok (.iconst 0, 1) := by decide +kernel
theorem d_Pr_goalBehind_5 : decode M_Pr_goalBehind.2.1 5 = .ok (.istore 4, 2) := by decide +kernel
theorem d_Pr_goalBehind_7 : decode M_Pr_goalBehind.2.1 7 = .ok (.iload 4, 2) := by decide +kernel
theorem d_Pr_goalBehind_9 : decode M_Pr_goalBehind.2.1 9 = .ok (.bipush 30, 2) := by decide +kernel
theorem d_Pr_goalBehind_11 : decode M_Pr_goalBehind.2.1 11 = .ok (.if_icmp .ge 120, 3) := by decide +kernel
theorem d_Pr_goalBehind_14 : decode M_Pr_goalBehind.2.1 14 = .ok (.iload_n 2, 1) := by decide +kernel
theorem d_Pr_goalBehind_15 : decode M_Pr_goalBehind.2.1 15 = .ok (.ifCond .lt 116, 3) := by decide +kernel
theorem d_Pr_goalBehind_18 : decode M_Pr_goalBehind.2.1 18 = .ok (.iload_n 2, 1) := by decide +kernel
theorem d_Pr_goalBehind_19 : decode M_Pr_goalBehind.2.1 19 = .ok (.aload_n 0, 1) := by decide +kernel
theorem d_Pr_goalBehind_20 : decode M_Pr_goalBehind.2.1 20 = .ok (.getfield 9, 3) := by decide +kernel
theorem d_Pr_goalBehind_23 : decode M_Pr_goalBehind.2.1 23 = .ok (.if_icmp .ge 108, 3) := by decide +kernel
theorem d_Pr_goalBehind_26 : decode M_Pr_goalBehind.2.1 26 = .ok (.aload_n 0, 1) := by decide +kernel
theorem d_Pr_goalBehind_27 : decode M_Pr_goalBehind.2.1 27 = .ok (.getfield 22, 3) := by decide +kernel
theorem d_Pr_goalBehind_30 : decode M_Pr_goalBehind.2.1 30 = .ok (.iload_n 2, 1) := by decide +kernel
theorem d_Pr_goalBehind_31 : decode M_Pr_goalBehind.2.1 31 = .ok (.iconst 5, 1) := by decide +kernel
theorem d_Pr_goalBehind_32 : decode M_Pr_goalBehind.2.1 32 = .ok (.imul, 1) := by decide +kernel
theorem d_Pr_goalBehind_33 : decode M_Pr_goalBehind.2.1 33 = .ok (.iconst 0, 1) := by decide +kernel
theorem d_Pr_goalBehind_34 : decode M_Pr_goalBehind.2.1 34 = .ok (.iadd, 1) := by decide +kernel
theorem d_Pr_goalBehind_35 : decode M_Pr_goalBehind.2.1 35 = .ok (.iaload, 1) := by decide +kernel
theorem d_Pr_goalBehind_36 : decode M_Pr_goalBehind.2.1 36 = .ok (.istore 5, 2) := by decide +kernel
theorem d_Pr_goalBehind_38 : decode M_Pr_goalBehind.2.1 38 = .ok (.iload_n 3, 1) := by decide +kernel
theorem d_Pr_goalBehind_39 : decode M_Pr_goalBehind.2.1 39 = .ok (.ifCond .eq 12, 3) := by decide +kernel
theorem d_Pr_goalBehind_42 : decode M_Pr_goalBehind.2.1 42 = .ok (.iload 5, 2) := by decide +kernel
theorem d_Pr_goalBehind_44 : decode M_Pr_goalBehind.2.1 44 = .ok (.iconst (-1), 1) := by decide +kernel
theorem d_Pr_goalBehind_45 : decode M_Pr_goalBehind.2.1 45 = .ok (.if_icmp .eq 6, 3) := by decide +kernel
theorem d_Pr_goalBehind_48 : decode M_Pr_goalBehind.2.1 48 = .ok (.iload 5, 2) := by decide +kernel
theorem d_Pr_goalBehind_50 : decode M_Pr_goalBehind.2.1 50 = .ok (.ireturn, 1) := by decide +kernel
theorem d_Pr_goalBehind_51 : decode M_Pr_goalBehind.2.1 51 = .ok (.aload_n 0, 1) := by decide +kernel
theorem d_Pr_goalBehind_52 : decode M_Pr_goalBehind.2.1 52 = .ok (.getfield 18, 3) := by decide +kernel
theorem d_Pr_goalBehind_55 : decode M_Pr_goalBehind.2.1 55 = .ok (.iload_n 2, 1) := by decide +kernel
theorem d_Pr_goalBehind_56 : decode M_Pr_goalBehind.2.1 56 = .ok (.iconst 5, 1) := by decide +kernel
theorem d_Pr_goalBehind_57 : decode M_Pr_goalBehind.2.1 57 = .ok (.imul, 1) := by decide +kernel
theorem d_Pr_goalBehind_58 : decode M_Pr_goalBehind.2.1 58 = .ok (.iconst 2, 1) := by decide +kernel
theorem d_Pr_goalBehind_59 : decode M_Pr_goalBehind.2.1 59 = .ok (.iadd, 1) := by decide +kernel
theorem d_Pr_goalBehind_60 : decode M_Pr_goalBehind.2.1 60 = .ok (.iaload, 1) := by decide +kernel
theorem d_Pr_goalBehind_61 : decode M_Pr_goalBehind.2.1 61 = .ok (.istore 6, 2) := by decide +kernel
theorem d_Pr_goalBehind_63 : decode M_Pr_goalBehind.2.1 63 = .ok (.aload_n 0, 1) := by decide +kernel
theorem d_Pr_goalBehind_64 : decode M_Pr_goalBehind.2.1 64 = .ok (.getfield 18, 3) := by decide +kernel
theorem d_Pr_goalBehind_67 : decode M_Pr_goalBehind.2.1 67 = .ok (.iload_n 2, 1) := by decide +kernel
theorem d_Pr_goalBehind_68 : decode M_Pr_goalBehind.2.1 68 = .ok (.iconst 5, 1) := by decide +kernel
theorem d_Pr_goalBehind_69 : decode M_Pr_goalBehind.2.1 69 = .ok (.imul, 1) := by decide +kernel
theorem d_Pr_goalBehind_70 : decode M_Pr_goalBehind.2.1 70 = .ok (.iconst 3, 1) := by decide +kernel
theorem d_Pr_goalBehind_71 : decode M_Pr_goalBehind.2.1 71 = .ok (.iadd, 1) := by decide +kernel
theorem d_Pr_goalBehind_72 : decode M_Pr_goalBehind.2.1 72 = .ok (.iaload, 1) := by decide +kernel
theorem d_Pr_goalBehind_73 : decode M_Pr_goalBehind.2.1 73 = .ok (.ifCond .eq 7, 3) := by decide +kernel
theorem d_Pr_goalBehind_76 : decode M_Pr_goalBehind.2.1 76 = .ok (.iconst 1, 1) := by decide +kernel
theorem d_Pr_goalBehind_77 : decode M_Pr_goalBehind.2.1 77 = .ok (.goto 4, 3) := by decide +kernel
theorem d_Pr_goalBehind_80 : decode M_Pr_goalBehind.2.1 80 = .ok (.iconst 0, 1) := by decide +kernel
theorem d_Pr_goalBehind_81 : decode M_Pr_goalBehind.2.1 81 = .ok (.istore_n 3, 1) := by decide +kernel
theorem d_Pr_goalBehind_82 : decode M_Pr_goalBehind.2.1 82 = .ok (.iload_n 3, 1) := by decide +kernel
theorem d_Pr_goalBehind_83 : decode M_Pr_goalBehind.2.1 83 = .ok (.ifCond .eq 39, 3) := by decide +kernel
theorem d_Pr_goalBehind_86 : decode M_Pr_goalBehind.2.1 86 = .ok (.iload 6, 2) := by decide +kernel
theorem d_Pr_goalBehind_88 : decode M_Pr_goalBehind.2.1 88 = .ok (.ifCond .lt 34, 3) := by decide +kernel
theorem d_Pr_goalBehind_91 : decode M_Pr_goalBehind.2.1 91 = .ok (.iload 6, 2) := by decide +kernel
theorem d_Pr_goalBehind_93 : decode M_Pr_goalBehind.2.1 93 = .ok (.aload_n 0, 1) := by decide +kernel
theorem d_Pr_goalBehind_94 : decode M_Pr_goalBehind.2.1 94 = .ok (.getfield 9, 3) := by decide +kernel
theorem d_Pr_goalBehind_97 : decode M_Pr_goalBehind.2.1 97 = .ok (.if_icmp .ge 25, 3) := by decide +kernel
theorem d_Pr_goalBehind_100 : decode M_Pr_goalBehind.2.1 100 = .ok (.aload_n 0, 1) := by decide +kernel
theorem d_Pr_goalBehind_101 : decode M_Pr_goalBehind.2.1 101 = .ok (.getfield 18, 3) := by decide +kernel
theorem d_Pr_goalBehind_104 : decode M_Pr_goalBehind.2.1 104 = .ok (.iload 6, 2) := by decide +kernel
theorem d_Pr_goalBehind_106 : decode M_Pr_goalBehind.2.1 106 = .ok (.iconst 5, 1) := by decide +kernel
theorem d_Pr_goalBehind_107 : decode M_Pr_goalBehind.2.1 107 = .ok (.imul, 1) := by decide +kernel
theorem d_Pr_goalBehind_108 : decode M_Pr_goalBehind.2.1 108 = .ok (.iconst 0, 1) := by decide +kernel
theorem d_Pr_goalBehind_109 : decode M_Pr_goalBehind.2.1 109 = .ok (.iadd, 1) := by decide +kernel
theorem d_Pr_goalBehind_110 : decode M_Pr_goalBehind.2.1 110 = .ok (.iaload, 1) := by decide +kernel
theorem d_Pr_goalBehind_111 : decode M_Pr_goalBehind.2.1 111 = .ok (.bipush 12, 2) := by decide +kernel
theorem d_Pr_goalBehind_113 : decode M_Pr_goalBehind.2.1 113 = .ok (.if_icmp .eq 9, 3) := by decide +kernel
theorem d_Pr_goalBehind_116 : decode M_Pr_goalBehind.2.1 116 = .ok (.bipush (-2), 2) := by decide +kernel
theorem d_Pr_goalBehind_118 : decode M_Pr_goalBehind.2.1 118 = .ok (.iload 6, 2) := by decide +kernel
theorem d_Pr_goalBehind_120 : decode M_Pr_goalBehind.2.1 120 = .ok (.isub, 1) := by decide +kernel
theorem d_Pr_goalBehind_121 : decode M_Pr_goalBehind.2.1 121 = .ok (.ireturn, 1) := by decide +kernel
theorem d_Pr_goalBehind_122 : decode M_Pr_goalBehind.2.1 122 = .ok (.iload 6, 2) := by decide +kernel
theorem d_Pr_goalBehind_124 : decode M_Pr_goalBehind.2.1 124 = .ok (.istore_n 2, 1) := by decide +kernel
theorem d_Pr_goalBehind_125 : decode M_Pr_goalBehind.2.1 125 = .ok (.iinc 4 1, 3) := by decide +kernel
theorem d_Pr_goalBehind_128 : decode M_Pr_goalBehind.2.1 128 = .ok (.goto (-121), 3) := by decide +kernel
theorem d_Pr_goalBehind_131 : decode M_Pr_goalBehind.2.1 131 = .ok (.iconst (-1), 1) := by decide +kernel
theorem d_Pr_goalBehind_132 : decode M_Pr_goalBehind.2.1 132 = .ok (.ireturn, 1) := by decide +kernel
def F_Pr_goalBehind_122 (a : Nat) (x1 : Int32) (k7 : Int32 → Int32 → Int32 → Dl → Option (Int32)) (x3 : Int32) (x4 : Int32) (x6 : Int32) (δ : Dl) : Option (Int32) :=
  k7 x6 x3 ((x4 + 1)) δ
set_option maxRecDepth 20000 in
set_option maxHeartbeats 4000000 in
theorem j_Pr_goalBehind_122 {l : Launch} {Γ : Gm} (hG : GC Γ) (a : Nat) (x1 : Int32) (ha : Oc a 3) (k7 : Int32 → Int32 → Int32 → Dl → Option (Int32)) (x3 : Int32) (x4 : Int32) (x6 : Int32) (δ : Dl) (r : Int32) (hk7 : ∀ (x2 : Int32) (x3 : Int32) (x4 : Int32) (δ : Dl),  k7 x2 x3 x4 δ = some r → Xe l M_Pr_goalBehind 0 0 0 NF 7 [some (.inr (0, a)), none, some (.inl x2), some (.inl x3), some (.inl x4), none, none] [] 0 0 Γ δ (some (.inl r), Γ, δ)) (h : F_Pr_goalBehind_122 a x1 k7 x3 x4 x6 δ = some r) : Xe l M_Pr_goalBehind 0 0 0 NF 122 [some (.inr (0, a)), none, none, some (.inl x3), some (.inl x4), none, some (.inl x6)] [] 0 0 Γ δ (some (.inl r), Γ, δ) := by
  unfold F_Pr_goalBehind_122 at h
  have oa := hG.ob ha
  refine x_iload (i := 6) d_Pr_goalBehind_122 rfl ?_
  refine x_stn (i := 2) (ls' := [some (.inr (0, a)), none, some (.inl x6), some (.inl x3), some (.inl x4), none, some (.inl x6)]) d_Pr_goalBehind_124 rfl (by decide) rfl ?_
  refine x_inc (i := 4) (c0 := 1) (ls' := [some (.inr (0, a)), none, some (.inl x6), some (.inl x3), some (.inl (x4 + 1)), none, some (.inl x6)]) d_Pr_goalBehind_125 (by decide) rfl (by decide) rfl ?_
  refine x_goto (tgt := 7) d_Pr_goalBehind_128 (by decide) ?_
  refine x_wk (ls' := [some (.inr (0, a)), none, some (.inl x6), some (.inl x3), some (.inl (x4 + 1)), none, none]) ⟨Or.inr rfl, Or.inl rfl, Or.inr rfl, Or.inr rfl, Or.inr rfl, Or.inl rfl, Or.inl rfl, trivial⟩ ?_
  exact hk7 x6 x3 ((x4 + 1)) δ h
def F_Pr_goalBehind_81 (a : Nat) (x1 : Int32) (k7 : Int32 → Int32 → Int32 → Dl → Option (Int32)) (x4 : Int32) (x6 : Int32) (s0 : Int32) (δ : Dl) : Option (Int32) :=
  if s0 = 0 then (F_Pr_goalBehind_122 a x1 k7 s0 x4 x6 δ) else (if x6 < 0 then (F_Pr_goalBehind_122 a x1 k7 s0 x4 x6 δ) else (if (δ.1 30 a) ≤ x6 then (F_Pr_goalBehind_122 a x1 k7 s0 x4 x6 δ) else (if inb ((x6 * 5) + 0) 150 then if (δ.2.1 32 a ((x6 * 5) + 0)) = 12 then (F_Pr_goalBehind_122 a x1 k7 s0 x4 x6 δ) else (some ((-2) - x6)) else none)))
set_option maxRecDepth 20000 in
set_option maxHeartbeats 4000000 in
theorem j_Pr_goalBehind_81 {l : Launch} {Γ : Gm} (hG : GC Γ) (a : Nat) (x1 : Int32) (ha : Oc a 3) (k7 : Int32 → Int32 → Int32 → Dl → Option (Int32)) (x4 : Int32) (x6 : Int32) (s0 : Int32) (δ : Dl) (r : Int32) (hk7 : ∀ (x2 : Int32) (x3 : Int32) (x4 : Int32) (δ : Dl),  k7 x2 x3 x4 δ = some r → Xe l M_Pr_goalBehind 0 0 0 NF 7 [some (.inr (0, a)), none, some (.inl x2), some (.inl x3), some (.inl x4), none, none] [] 0 0 Γ δ (some (.inl r), Γ, δ)) (h : F_Pr_goalBehind_81 a x1 k7 x4 x6 s0 δ = some r) : Xe l M_Pr_goalBehind 0 0 0 NF 81 [some (.inr (0, a)), none, none, none, some (.inl x4), none, some (.inl x6)] [.inl s0] 0 0 Γ δ (some (.inl r), Γ, δ) := by
  unfold F_Pr_goalBehind_81 at h
  have oa := hG.ob ha
  refine x_stn (i := 3) (ls' := [some (.inr (0, a)), none, none, some (.inl s0), some (.inl x4), none, some (.inl x6)]) d_Pr_goalBehind_81 rfl (by decide) rfl ?_
  refine x_iload_n (i := 3) d_Pr_goalBehind_82 rfl rfl ?_
  refine x_if_eq (tgt := 122) d_Pr_goalBehind_83 (by decide) (fun c83 => ?_) (fun c83 => ?_)
  · have h := if_t c83 h
    exact j_Pr_goalBehind_122 hG a x1 ha k7 s0 x4 x6 δ r hk7 h
  · have h := if_f c83 h
    refine x_iload (i := 6) d_Pr_goalBehind_86 rfl ?_
    refine x_if_lt (tgt := 122) d_Pr_goalBehind_88 (by decide) (fun c88 => ?_) (fun c88 => ?_)
    · have h := if_t c88 h
      exact j_Pr_goalBehind_122 hG a x1 ha k7 s0 x4 x6 δ r hk7 h
    · have h := if_f c88 h
      refine x_iload (i := 6) d_Pr_goalBehind_91 rfl ?_
      refine x_aload_n (i := 0) d_Pr_goalBehind_93 rfl rfl ?_
      refine x_getI (f := 30) gl_Pr_9_3 rfl kf_30 oa d_Pr_goalBehind_94 ?_
      refine x_cmp_ge (tgt := 122) d_Pr_goalBehind_97 (by decide) (fun c97 => ?_) (fun c97 => ?_)
      · have h := if_t c97 h
        exact j_Pr_goalBehind_122 hG a x1 ha k7 s0 x4 x6 δ r hk7 h
      · have h := if_f c97 h
        refine x_aload_n (i := 0) d_Pr_goalBehind_100 rfl rfl ?_
        refine x_getA (f := 32) gl_Pr_18_3 rfl (by rw [kf_32]; decide) oa d_Pr_goalBehind_101 ?_
        refine x_iload (i := 6) d_Pr_goalBehind_104 rfl ?_
        refine x_ic (v := 5) d_Pr_goalBehind_106 (by decide) ?_
        refine x_imul d_Pr_goalBehind_107 ?_
        refine x_ic (v := 0) d_Pr_goalBehind_108 (by decide) ?_
        refine x_iadd d_Pr_goalBehind_109 ?_
        obtain ⟨g110, h⟩ := gd_e h
        refine x_iald (n := 150) kf_32 (oz_32 oa) (ln_32 _) g110 d_Pr_goalBehind_110 ?_
        refine x_bi (v := 12) d_Pr_goalBehind_111 (by decide) ?_
        refine x_cmp_eq (tgt := 122) d_Pr_goalBehind_113 (by decide) (fun c113 => ?_) (fun c113 => ?_)
        · have h := if_t c113 h
          exact j_Pr_goalBehind_122 hG a x1 ha k7 s0 x4 x6 δ r hk7 h
        · have h := if_f c113 h
          refine x_bi (v := -2) d_Pr_goalBehind_116 (by decide) ?_
          refine x_iload (i := 6) d_Pr_goalBehind_118 rfl ?_
          refine x_isub d_Pr_goalBehind_120 ?_
          replace h := Option.some.inj h; subst h
          exact x_iret rfl d_Pr_goalBehind_121 (Nat.le_refl 0) (Nat.le_refl 0)
def F_Pr_goalBehind_51 (a : Nat) (x1 : Int32) (k7 : Int32 → Int32 → Int32 → Dl → Option (Int32)) (x2 : Int32) (x4 : Int32) (δ : Dl) : Option (Int32) :=
  if inb ((x2 * 5) + 2) 150 then bnd ((δ.2.1 32 a ((x2 * 5) + 2))) fun x6_61 => if inb ((x2 * 5) + 3) 150 then if (δ.2.1 32 a ((x2 * 5) + 3)) = 0 then (F_Pr_goalBehind_81 a x1 k7 x4 x6_61 0 δ) else (F_Pr_goalBehind_81 a x1 k7 x4 x6_61 1 δ) else none else none
set_option maxRecDepth 20000 in
set_option maxHeartbeats 4000000 in
theorem j_Pr_goalBehind_51 {l : Launch} {Γ : Gm} (hG : GC Γ) (a : Nat) (x1 : Int32) (ha : Oc a 3) (k7 : Int32 → Int32 → Int32 → Dl → Option (Int32)) (x2 : Int32) (x4 : Int32) (δ : Dl) (r : Int32) (hk7 : ∀ (x2 : Int32) (x3 : Int32) (x4 : Int32) (δ : Dl),  k7 x2 x3 x4 δ = some r → Xe l M_Pr_goalBehind 0 0 0 NF 7 [some (.inr (0, a)), none, some (.inl x2), some (.inl x3), some (.inl x4), none, none] [] 0 0 Γ δ (some (.inl r), Γ, δ)) (h : F_Pr_goalBehind_51 a x1 k7 x2 x4 δ = some r) : Xe l M_Pr_goalBehind 0 0 0 NF 51 [some (.inr (0, a)), none, some (.inl x2), none, some (.inl x4), none, none] [] 0 0 Γ δ (some (.inl r), Γ, δ) := by
  unfold F_Pr_goalBehind_51 at h
  have oa := hG.ob ha
  refine x_aload_n (i := 0) d_Pr_goalBehind_51 rfl rfl ?_
  refine x_getA (f := 32) gl_Pr_18_3 rfl (by rw [kf_32]; decide) oa d_Pr_goalBehind_52 ?_
  refine x_iload_n (i := 2) d_Pr_goalBehind_55 rfl rfl ?_
  refine x_ic (v := 5) d_Pr_goalBehind_56 (by decide) ?_
  refine x_imul d_Pr_goalBehind_57 ?_
  refine x_ic (v := 2) d_Pr_goalBehind_58 (by decide) ?_
  refine x_iadd d_Pr_goalBehind_59 ?_
  obtain ⟨g60, h⟩ := gd_e h
  refine x_iald (n := 150) kf_32 (oz_32 oa) (ln_32 _) g60 d_Pr_goalBehind_60 ?_
  obtain ⟨x6_61, ex6_61, h⟩ := bn_e h
  refine Xe.top ex6_61 ?_
  refine x_stw (i := 6) (ls' := [some (.inr (0, a)), none, some (.inl x2), none, some (.inl x4), none, some (.inl x6_61)]) d_Pr_goalBehind_61 (by decide) rfl ?_
  refine x_aload_n (i := 0) d_Pr_goalBehind_63 rfl rfl ?_
  refine x_getA (f := 32) gl_Pr_18_3 rfl (by rw [kf_32]; decide) oa d_Pr_goalBehind_64 ?_
  refine x_iload_n (i := 2) d_Pr_goalBehind_67 rfl rfl ?_
  refine x_ic (v := 5) d_Pr_goalBehind_68 (by decide) ?_
  refine x_imul d_Pr_goalBehind_69 ?_
  refine x_ic (v := 3) d_Pr_goalBehind_70 (by decide) ?_
  refine x_iadd d_Pr_goalBehind_71 ?_
  obtain ⟨g72, h⟩ := gd_e h
  refine x_iald (n := 150) kf_32 (oz_32 oa) (ln_32 _) g72 d_Pr_goalBehind_72 ?_
  refine x_if_eq (tgt := 80) d_Pr_goalBehind_73 (by decide) (fun c73 => ?_) (fun c73 => ?_)
  · have h := if_t c73 h
    refine x_ic (v := 0) d_Pr_goalBehind_80 (by decide) ?_
    refine x_wk (ls' := [some (.inr (0, a)), none, none, none, some (.inl x4), none, some (.inl x6_61)]) ⟨Or.inr rfl, Or.inl rfl, Or.inl rfl, Or.inl rfl, Or.inr rfl, Or.inl rfl, Or.inr rfl, trivial⟩ ?_
    exact j_Pr_goalBehind_81 hG a x1 ha k7 x4 x6_61 0 δ r hk7 h
  · have h := if_f c73 h
    refine x_ic (v := 1) d_Pr_goalBehind_76 (by decide) ?_
    refine x_goto (tgt := 81) d_Pr_goalBehind_77 (by decide) ?_
    refine x_wk (ls' := [some (.inr (0, a)), none, none, none, some (.inl x4), none, some (.inl x6_61)]) ⟨Or.inr rfl, Or.inl rfl, Or.inl rfl, Or.inl rfl, Or.inr rfl, Or.inl rfl, Or.inr rfl, trivial⟩ ?_
    exact j_Pr_goalBehind_81 hG a x1 ha k7 x4 x6_61 1 δ r hk7 h
def F_Pr_goalBehind_7_b (a : Nat) (x1 : Int32) (k7 : Int32 → Int32 → Int32 → Dl → Option (Int32)) (x2 : Int32) (x3 : Int32) (x4 : Int32) (δ : Dl) : Option (Int32) :=
  if 30 ≤ x4 then (some (-1)) else (if x2 < 0 then (some (-1)) else (if (δ.1 30 a) ≤ x2 then (some (-1)) else (if inb ((x2 * 5) + 0) 150 then bnd ((δ.2.1 33 a ((x2 * 5) + 0))) fun x5_36 => if x3 = 0 then (F_Pr_goalBehind_51 a x1 k7 x2 x4 δ) else (if x5_36 = (-1) then (F_Pr_goalBehind_51 a x1 k7 x2 x4 δ) else (some x5_36)) else none)))
set_option maxRecDepth 20000 in
set_option maxHeartbeats 4000000 in
theorem j_Pr_goalBehind_7_b {l : Launch} {Γ : Gm} (hG : GC Γ) (a : Nat) (x1 : Int32) (ha : Oc a 3) (k7 : Int32 → Int32 → Int32 → Dl → Option (Int32)) (x2 : Int32) (x3 : Int32) (x4 : Int32) (δ : Dl) (r : Int32) (hk7 : ∀ (x2 : Int32) (x3 : Int32) (x4 : Int32) (δ : Dl),  k7 x2 x3 x4 δ = some r → Xe l M_Pr_goalBehind 0 0 0 NF 7 [some (.inr (0, a)), none, some (.inl x2), some (.inl x3), some (.inl x4), none, none] [] 0 0 Γ δ (some (.inl r), Γ, δ)) (h : F_Pr_goalBehind_7_b a x1 k7 x2 x3 x4 δ = some r) : Xe l M_Pr_goalBehind 0 0 0 NF 7 [some (.inr (0, a)), none, some (.inl x2), some (.inl x3), some (.inl x4), none, none] [] 0 0 Γ δ (some (.inl r), Γ, δ) := by
  unfold F_Pr_goalBehind_7_b at h
  have oa := hG.ob ha
  refine x_iload (i := 4) d_Pr_goalBehind_7 rfl ?_
  refine x_bi (v := 30) d_Pr_goalBehind_9 (by decide) ?_
  refine x_cmp_ge (tgt := 131) d_Pr_goalBehind_11 (by decide) (fun c11 => ?_) (fun c11 => ?_)
  · have h := if_t c11 h
    refine x_ic (v := -1) d_Pr_goalBehind_131 (by decide) ?_
    replace h := Option.some.inj h; subst h
    exact x_iret rfl d_Pr_goalBehind_132 (Nat.le_refl 0) (Nat.le_refl 0)
  · have h := if_f c11 h
    refine x_iload_n (i := 2) d_Pr_goalBehind_14 rfl rfl ?_
    refine x_if_lt (tgt := 131) d_Pr_goalBehind_15 (by decide) (fun c15 => ?_) (fun c15 => ?_)
    · have h := if_t c15 h
      refine x_ic (v := -1) d_Pr_goalBehind_131 (by decide) ?_
      replace h := Option.some.inj h; subst h
      exact x_iret rfl d_Pr_goalBehind_132 (Nat.le_refl 0) (Nat.le_refl 0)
    · have h := if_f c15 h
      refine x_iload_n (i := 2) d_Pr_goalBehind_18 rfl rfl ?_
      refine x_aload_n (i := 0) d_Pr_goalBehind_19 rfl rfl ?_
      refine x_getI (f := 30) gl_Pr_9_3 rfl kf_30 oa d_Pr_goalBehind_20 ?_
      refine x_cmp_ge (tgt := 131) d_Pr_goalBehind_23 (by decide) (fun c23 => ?_) (fun c23 => ?_)
      · have h := if_t c23 h
        refine x_ic (v := -1) d_Pr_goalBehind_131 (by decide) ?_
        replace h := Option.some.inj h; subst h
        exact x_iret rfl d_Pr_goalBehind_132 (Nat.le_refl 0) (Nat.le_refl 0)
      · have h := if_f c23 h
        refine x_aload_n (i := 0) d_Pr_goalBehind_26 rfl rfl ?_
        refine x_getA (f := 33) gl_Pr_22_3 rfl (by rw [kf_33]; decide) oa d_Pr_goalBehind_27 ?_
        refine x_iload_n (i := 2) d_Pr_goalBehind_30 rfl rfl ?_
        refine x_ic (v := 5) d_Pr_goalBehind_31 (by decide) ?_
        refine x_imul d_Pr_goalBehind_32 ?_
        refine x_ic (v := 0) d_Pr_goalBehind_33 (by decide) ?_
        refine x_iadd d_Pr_goalBehind_34 ?_
        obtain ⟨g35, h⟩ := gd_e h
        refine x_iald (n := 150) kf_33 (oz_33 oa) (ln_33 _) g35 d_Pr_goalBehind_35 ?_
        obtain ⟨x5_36, ex5_36, h⟩ := bn_e h
        refine Xe.top ex5_36 ?_
        refine x_stw (i := 5) (ls' := [some (.inr (0, a)), none, some (.inl x2), some (.inl x3), some (.inl x4), some (.inl x5_36), none]) d_Pr_goalBehind_36 (by decide) rfl ?_
        refine x_iload_n (i := 3) d_Pr_goalBehind_38 rfl rfl ?_
        refine x_if_eq (tgt := 51) d_Pr_goalBehind_39 (by decide) (fun c39 => ?_) (fun c39 => ?_)
        · have h := if_t c39 h
          refine x_wk (ls' := [some (.inr (0, a)), none, some (.inl x2), none, some (.inl x4), none, none]) ⟨Or.inr rfl, Or.inl rfl, Or.inr rfl, Or.inl rfl, Or.inr rfl, Or.inl rfl, Or.inl rfl, trivial⟩ ?_
          exact j_Pr_goalBehind_51 hG a x1 ha k7 x2 x4 δ r hk7 h
        · have h := if_f c39 h
          refine x_iload (i := 5) d_Pr_goalBehind_42 rfl ?_
          refine x_ic (v := -1) d_Pr_goalBehind_44 (by decide) ?_
          refine x_cmp_eq (tgt := 51) d_Pr_goalBehind_45 (by decide) (fun c45 => ?_) (fun c45 => ?_)
          · have h := if_t c45 h
            refine x_wk (ls' := [some (.inr (0, a)), none, some (.inl x2), none, some (.inl x4), none, none]) ⟨Or.inr rfl, Or.inl rfl, Or.inr rfl, Or.inl rfl, Or.inr rfl, Or.inl rfl, Or.inl rfl, trivial⟩ ?_
            exact j_Pr_goalBehind_51 hG a x1 ha k7 x2 x4 δ r hk7 h
          · have h := if_f c45 h
            refine x_iload (i := 5) d_Pr_goalBehind_48 rfl ?_
            replace h := Option.some.inj h; subst h
            exact x_iret rfl d_Pr_goalBehind_50 (Nat.le_refl 0) (Nat.le_refl 0)
def F_Pr_goalBehind_7 (a : Nat) (x1 : Int32) : Nat → Int32 → Int32 → Int32 → Dl → Option (Int32)
  | 0, _, _, _, _ => none
  | n + 1, x2, x3, x4, δ => F_Pr_goalBehind_7_b a x1 (F_Pr_goalBehind_7 a x1 n) x2 x3 x4 δ
theorem j_Pr_goalBehind_7 {l : Launch} {Γ : Gm} (hG : GC Γ) (a : Nat) (x1 : Int32) (ha : Oc a 3) (n : Nat) (x2 : Int32) (x3 : Int32) (x4 : Int32) (δ : Dl) (r : Int32) (h : F_Pr_goalBehind_7 a x1 n x2 x3 x4 δ = some r) : Xe l M_Pr_goalBehind 0 0 0 NF 7 [some (.inr (0, a)), none, some (.inl x2), some (.inl x3), some (.inl x4), none, none] [] 0 0 Γ δ (some (.inl r), Γ, δ) := by
  induction n generalizing x2 x3 x4 δ with
  | zero => cases h
  | succ n ih => exact j_Pr_goalBehind_7_b hG a x1 ha (F_Pr_goalBehind_7 a x1 n) x2 x3 x4 δ r (fun x2 x3 x4 δ hh => ih x2 x3 x4 δ hh) h
def F_Pr_goalBehind (a : Nat) (x1 : Int32) (δ : Dl) : Option (Int32) :=
  F_Pr_goalBehind_7 a x1 FU x1 1 0 δ
set_option maxRecDepth 20000 in
set_option maxHeartbeats 4000000 in
theorem c_Pr_goalBehind {l : Launch} {Γ : Gm} (hG : GC Γ) (a : Nat) (x1 : Int32) (ha : Oc a 3) (δ : Dl) (r : Int32) (h : F_Pr_goalBehind a x1  δ = some r) : Ct l M_Pr_goalBehind 0 0 0 NF [.inr (0, a), .inl x1] Γ δ (some (.inl r), Γ, δ) := by
  unfold F_Pr_goalBehind at h
  have oa := hG.ob ha
  refine Ct.of2 (n := 5) (ls := [some (.inr (0, a)), some (.inl x1), none, none, none, none, none]) rfl (by decide +kernel) (Nat.le_of_ble_eq_true rfl) ?_
  refine x_iload_n (i := 1) d_Pr_goalBehind_0 rfl rfl ?_
  refine x_stn (i := 2) (ls' := [some (.inr (0, a)), some (.inl x1), some (.inl x1), none, none, none, none]) d_Pr_goalBehind_1 rfl (by decide) rfl ?_
  refine x_ic (v := 1) d_Pr_goalBehind_2 (by decide) ?_
  refine x_stn (i := 3) (ls' := [some (.inr (0, a)), some (.inl x1), some (.inl x1), some (.inl 1), none, none, none]) d_Pr_goalBehind_3 rfl (by decide) rfl ?_
  refine x_ic (v := 0) d_Pr_goalBehind_4 (by decide) ?_
  refine x_stw (i := 4) (ls' := [some (.inr (0, a)), some (.inl x1), some (.inl x1), some (.inl 1), some (.inl 0), none, none]) d_Pr_goalBehind_5 (by decide) rfl ?_
  refine x_wk (ls' := [some (.inr (0, a)), none, some (.inl x1), some (.inl 1), some (.inl 0), none, none]) ⟨Or.inr rfl, Or.inl rfl, Or.inr rfl, Or.inr rfl, Or.inr rfl, Or.inl rfl, Or.inl rfl, trivial⟩ ?_
  exact j_Pr_goalBehind_7 hG a x1 ha FU x1 1 0 δ r h
-- BlockStage.isNumberOf(II)Z
theorem d_Bs_isNumberOf_0 : decode M_Bs_isNumberOf.2.1 0 = .ok (.iload_n 0, 1) := by decide +kernel
theorem d_Bs_isNumberOf_1 : decode M_Bs_isNumberOf.2.1 1 = .ok (.iconst 1, 1) := by decide +kernel
theorem d_Bs_isNumberOf_2 : decode M_Bs_isNumberOf.2.1 2 = .ok (.if_icmp .eq 9, 3) := by decide +kernel
theorem d_Bs_isNumberOf_5 : decode M_Bs_isNumberOf.2.1 5 = .ok (.iload_n 0, 1) := by decide +kernel
theorem d_Bs_isNumberOf_6 : decode M_Bs_isNumberOf.2.1 6 = .ok (.bipush 6, 2) := by decide +kernel
theorem d_Bs_isNumberOf_8 : decode M_Bs_isNumberOf.2.1 8 = .ok (.if_icmp .ne 18, 3) := by decide +kernel
theorem d_Bs_isNumberOf_11 : decode M_Bs_isNumberOf.2.1 11 = .ok (.iload_n 1, 1) := by decide +kernel
theorem d_Bs_isNumberOf_12 : decode M_Bs_isNumberOf.2.1 12 = .ok (.ifCond .lt 12, 3) := by decide +kernel
theorem d_Bs_isNumberOf_15 : decode M_Bs_isNumberOf.2.1 15 = .ok (.iload_n 1, 1) := by decide +kernel
theorem d_Bs_isNumberOf_16 : decode M_Bs_isNumberOf.2.1 16 = .ok (.iconst 3, 1) := by decide +kernel
theorem d_Bs_isNumberOf_17 : decode M_Bs_isNumberOf.2.1 17 = .ok (.if_icmp .gt 7, 3) := by decide +kernel
theorem d_Bs_isNumberOf_20 : decode M_Bs_isNumberOf.2.1 20 = .ok (.iconst 1, 1) := by decide +kernel
theorem d_Bs_isNumberOf_21 : decode M_Bs_isNumberOf.2.1 21 = .ok (.goto 4, 3) := by decide +kernel
theorem d_Bs_isNumberOf_24 : decode M_Bs_isNumberOf.2.1 24 = .ok (.iconst 0, 1) := by decide +kernel
theorem d_Bs_isNumberOf_25 : decode M_Bs_isNumberOf.2.1 25 = .ok (.ireturn, 1) := by decide +kernel
theorem d_Bs_isNumberOf_26 : decode M_Bs_isNumberOf.2.1 26 = .ok (.iload_n 0, 1) := by decide +kernel
theorem d_Bs_isNumberOf_27 : decode M_Bs_isNumberOf.2.1 27 = .ok (.bipush 13, 2) := by decide +kernel
theorem d_Bs_isNumberOf_29 : decode M_Bs_isNumberOf.2.1 29 = .ok (.if_icmp .ne 21, 3) := by decide +kernel
theorem d_Bs_isNumberOf_32 : decode M_Bs_isNumberOf.2.1 32 = .ok (.iload_n 1, 1) := by decide +kernel
theorem d_Bs_isNumberOf_33 : decode M_Bs_isNumberOf.2.1 33 = .ok (.bipush (-99), 2) := by decide +kernel
theorem d_Bs_isNumberOf_35 : decode M_Bs_isNumberOf.2.1 35 = .ok (.if_icmp .lt 13, 3) := by decide +kernel
theorem d_Bs_isNumberOf_38 : decode M_Bs_isNumberOf.2.1 38 = .ok (.iload_n 1, 1) := by decide +kernel
theorem d_Bs_isNumberOf_39 : decode M_Bs_isNumberOf.2.1 39 = .ok (.bipush 99, 2) := by decide +kernel
theorem d_Bs_isNumberOf_41 : decode M_Bs_isNumberOf.2.1 41 = .ok (.if_icmp .gt 7, 3) := by decide +kernel
theorem d_Bs_isNumberOf_44 : decode M_Bs_isNumberOf.2.1 44 = .ok (.iconst 1, 1) := by decide +kernel
theorem d_Bs_isNumberOf_45 : decode M_Bs_isNumberOf.2.1 45 = .ok (.goto 4, 3) := by decide +kernel
theorem d_Bs_isNumberOf_48 : decode M_Bs_isNumberOf.2.1 48 = .ok (.iconst 0, 1) := by decide +kernel
theorem d_Bs_isNumberOf_49 : decode M_Bs_isNumberOf.2.1 49 = .ok (.ireturn, 1) := by decide +kernel
theorem d_Bs_isNumberOf_50 : decode M_Bs_isNumberOf.2.1 50 = .ok (.iload_n 1, 1) := by decide +kernel
theorem d_Bs_isNumberOf_51 : decode M_Bs_isNumberOf.2.1 51 = .ok (.ifCond .ne 7, 3) := by decide +kernel
theorem d_Bs_isNumberOf_54 : decode M_Bs_isNumberOf.2.1 54 = .ok (.iconst 1, 1) := by decide +kernel
theorem d_Bs_isNumberOf_55 : decode M_Bs_isNumberOf.2.1 55 = .ok (.goto 4, 3) := by decide +kernel
theorem d_Bs_isNumberOf_58 : decode M_Bs_isNumberOf.2.1 58 = .ok (.iconst 0, 1) := by decide +kernel
theorem d_Bs_isNumberOf_59 : decode M_Bs_isNumberOf.2.1 59 = .ok (.ireturn, 1) := by decide +kernel
def F_Bs_isNumberOf_11 (x0 : Int32) (x1 : Int32) : Int32 :=
  if x1 < 0 then 0 else (if 3 < x1 then 0 else 1)
set_option maxRecDepth 20000 in
set_option maxHeartbeats 4000000 in
theorem j_Bs_isNumberOf_11 {l : Launch} {Γ : Gm} (x0 : Int32) (x1 : Int32) (δ : Dl) (r : Int32) (h : F_Bs_isNumberOf_11 x0 x1  = r) : Xe l M_Bs_isNumberOf 0 0 0 NF 11 [none, some (.inl x1)] [] 0 0 Γ δ (some (.inl r), Γ, δ) := by
  unfold F_Bs_isNumberOf_11 at h
  refine x_iload_n (i := 1) d_Bs_isNumberOf_11 rfl rfl ?_
  refine x_if_lt (tgt := 24) d_Bs_isNumberOf_12 (by decide) (fun c12 => ?_) (fun c12 => ?_)
  · have h := if_t c12 h
    refine x_ic (v := 0) d_Bs_isNumberOf_24 (by decide) ?_
    subst h
    exact x_nret rfl rfl d_Bs_isNumberOf_25 (Nat.le_refl 0) (Nat.le_refl 0)
  · have h := if_f c12 h
    refine x_iload_n (i := 1) d_Bs_isNumberOf_15 rfl rfl ?_
    refine x_ic (v := 3) d_Bs_isNumberOf_16 (by decide) ?_
    refine x_cmp_gt (tgt := 24) d_Bs_isNumberOf_17 (by decide) (fun c17 => ?_) (fun c17 => ?_)
    · have h := if_t c17 h
      refine x_ic (v := 0) d_Bs_isNumberOf_24 (by decide) ?_
      subst h
      exact x_nret rfl rfl d_Bs_isNumberOf_25 (Nat.le_refl 0) (Nat.le_refl 0)
    · have h := if_f c17 h
      refine x_ic (v := 1) d_Bs_isNumberOf_20 (by decide) ?_
      refine x_goto (tgt := 25) d_Bs_isNumberOf_21 (by decide) ?_
      subst h
      exact x_nret rfl rfl d_Bs_isNumberOf_25 (Nat.le_refl 0) (Nat.le_refl 0)
def F_Bs_isNumberOf (x0 : Int32) (x1 : Int32) : Int32 :=
  if x0 = 1 then (F_Bs_isNumberOf_11 x0 x1) else (if x0 = 6 then (F_Bs_isNumberOf_11 x0 x1) else (if x0 = 13 then (if x1 < (-99) then 0 else (if 99 < x1 then 0 else 1)) else (if x1 = 0 then 1 else 0)))
set_option maxRecDepth 20000 in
set_option maxHeartbeats 4000000 in
theorem c_Bs_isNumberOf {l : Launch} {Γ : Gm} (x0 : Int32) (x1 : Int32) (δ : Dl) (r : Int32) (h : F_Bs_isNumberOf x0 x1  = r) : Ct l M_Bs_isNumberOf 0 0 0 NF [.inl x0, .inl x1] Γ δ (some (.inl r), Γ, δ) := by
  unfold F_Bs_isNumberOf at h
  refine Ct.of2 (n := 0) (ls := [some (.inl x0), some (.inl x1)]) rfl (by decide +kernel) (Nat.le_of_ble_eq_true rfl) ?_
  refine x_iload_n (i := 0) d_Bs_isNumberOf_0 rfl rfl ?_
  refine x_ic (v := 1) d_Bs_isNumberOf_1 (by decide) ?_
  refine x_cmp_eq (tgt := 11) d_Bs_isNumberOf_2 (by decide) (fun c2 => ?_) (fun c2 => ?_)
  · have h := if_t c2 h
    refine x_wk (ls' := [none, some (.inl x1)]) ⟨Or.inl rfl, Or.inr rfl, trivial⟩ ?_
    exact j_Bs_isNumberOf_11 x0 x1  δ r h
  · have h := if_f c2 h
    refine x_iload_n (i := 0) d_Bs_isNumberOf_5 rfl rfl ?_
    refine x_bi (v := 6) d_Bs_isNumberOf_6 (by decide) ?_
    refine x_cmp_ne (tgt := 26) d_Bs_isNumberOf_8 (by decide) (fun c8 => ?_) (fun c8 => ?_)
    · have h := if_f c8 h
      refine x_iload_n (i := 0) d_Bs_isNumberOf_26 rfl rfl ?_
      refine x_bi (v := 13) d_Bs_isNumberOf_27 (by decide) ?_
      refine x_cmp_ne (tgt := 50) d_Bs_isNumberOf_29 (by decide) (fun c29 => ?_) (fun c29 => ?_)
      · have h := if_f c29 h
        refine x_iload_n (i := 1) d_Bs_isNumberOf_50 rfl rfl ?_
        refine x_if_ne (tgt := 58) d_Bs_isNumberOf_51 (by decide) (fun c51 => ?_) (fun c51 => ?_)
        · have h := if_f c51 h
          refine x_ic (v := 0) d_Bs_isNumberOf_58 (by decide) ?_
          subst h
          exact x_nret rfl rfl d_Bs_isNumberOf_59 (Nat.le_refl 0) (Nat.le_refl 0)
        · have h := if_t c51 h
          refine x_ic (v := 1) d_Bs_isNumberOf_54 (by decide) ?_
          refine x_goto (tgt := 59) d_Bs_isNumberOf_55 (by decide) ?_
          subst h
          exact x_nret rfl rfl d_Bs_isNumberOf_59 (Nat.le_refl 0) (Nat.le_refl 0)
      · have h := if_t c29 h
        refine x_iload_n (i := 1) d_Bs_isNumberOf_32 rfl rfl ?_
        refine x_bi (v := -99) d_Bs_isNumberOf_33 (by decide) ?_
        refine x_cmp_lt (tgt := 48) d_Bs_isNumberOf_35 (by decide) (fun c35 => ?_) (fun c35 => ?_)
        · have h := if_t c35 h
          refine x_ic (v := 0) d_Bs_isNumberOf_48 (by decide) ?_
          subst h
          exact x_nret rfl rfl d_Bs_isNumberOf_49 (Nat.le_refl 0) (Nat.le_refl 0)
        · have h := if_f c35 h
          refine x_iload_n (i := 1) d_Bs_isNumberOf_38 rfl rfl ?_
          refine x_bi (v := 99) d_Bs_isNumberOf_39 (by decide) ?_
          refine x_cmp_gt (tgt := 48) d_Bs_isNumberOf_41 (by decide) (fun c41 => ?_) (fun c41 => ?_)
          · have h := if_t c41 h
            refine x_ic (v := 0) d_Bs_isNumberOf_48 (by decide) ?_
            subst h
            exact x_nret rfl rfl d_Bs_isNumberOf_49 (Nat.le_refl 0) (Nat.le_refl 0)
          · have h := if_f c41 h
            refine x_ic (v := 1) d_Bs_isNumberOf_44 (by decide) ?_
            refine x_goto (tgt := 49) d_Bs_isNumberOf_45 (by decide) ?_
            subst h
            exact x_nret rfl rfl d_Bs_isNumberOf_49 (Nat.le_refl 0) (Nat.le_refl 0)
    · have h := if_t c8 h
      refine x_wk (ls' := [none, some (.inl x1)]) ⟨Or.inl rfl, Or.inr rfl, trivial⟩ ?_
      exact j_Bs_isNumberOf_11 x0 x1  δ r h
theorem b_Bs_isNumberOf {x0 : Int32} {x1 : Int32} : F_Bs_isNumberOf x0 x1  = 0 ∨ F_Bs_isNumberOf x0 x1  = 1 := by
  unfold F_Bs_isNumberOf F_Bs_isNumberOf_11
  try dsimp only [bnd]
  repeat' split
  all_goals first | exact Or.inl rfl | exact Or.inr rfl
-- BlockStage$Program.changeNumber(II)Z
theorem d_Pr_changeNumber_0 : decode M_Pr_changeNumber.2.1 0 = .ok (.aload_n 0, 1) := by decide +kernel
theorem d_Pr_changeNumber_1 : decode M_Pr_changeNumber.2.1 1 = .ok (.iload_n 1, 1) := by decide +kernel
theorem d_Pr_changeNumber_2 : decode M_Pr_changeNumber.2.1 2 = .ok (.invokevirtual 50, 3) := by decide +kernel
theorem d_Pr_changeNumber_5 : decode M_Pr_changeNumber.2.1 5 = .ok (.istore_n 3, 1) := by decide +kernel
theorem d_Pr_changeNumber_6 : decode M_Pr_changeNumber.2.1 6 = .ok (.aload_n 0, 1) := by decide +kernel
theorem d_Pr_changeNumber_7 : decode M_Pr_changeNumber.2.1 7 = .ok (.iload_n 1, 1) := by decide +kernel
theorem d_Pr_changeNumber_8 : decode M_Pr_changeNumber.2.1 8 = .ok (.invokevirtual 77, 3) := by decide +kernel
theorem d_Pr_changeNumber_11 : decode M_Pr_changeNumber.2.1 11 = .ok (.iload_n 2, 1) := by decide +kernel
theorem d_Pr_changeNumber_12 : decode M_Pr_changeNumber.2.1 12 = .ok (.iadd, 1) := by decide +kernel
theorem d_Pr_changeNumber_13 : decode M_Pr_changeNumber.2.1 13 = .ok (.istore 4, 2) := by decide +kernel
theorem d_Pr_changeNumber_15 : decode M_Pr_changeNumber.2.1 15 = .ok (.iload_n 3, 1) := by decide +kernel
theorem d_Pr_changeNumber_16 : decode M_Pr_changeNumber.2.1 16 = .ok (.iconst 1, 1) := by decide +kernel
theorem d_Pr_changeNumber_17 : decode M_Pr_changeNumber.2.1 17 = .ok (.if_icmp .ne 12, 3) := by decide +kernel
theorem d_Pr_changeNumber_20 : decode M_Pr_changeNumber.2.1 20 = .ok (.iload 4, 2) := by decide +kernel
theorem d_Pr_changeNumber_22 : decode M_Pr_changeNumber.2.1 22 = .ok (.iconst 3, 1) := by decide +kernel
theorem d_Pr_changeNumber_23 : decode M_Pr_changeNumber.2.1 23 = .ok (.iand, 1) := by decide +kernel
theorem d_Pr_changeNumber_24 : decode M_Pr_changeNumber.2.1 24 = .ok (.istore 4, 2) := by decide +kernel
theorem d_Pr_changeNumber_26 : decode M_Pr_changeNumber.2.1 26 = .ok (.goto 20, 3) := by decide +kernel
theorem d_Pr_changeNumber_29 : decode M_Pr_changeNumber.2.1 29 = .ok (.iload_n 3, 1) := by decide +kernel
theorem d_Pr_changeNumber_30 : decode M_Pr_changeNumber.2.1 30 = .ok (.bipush 13, 2) := by decide +kernel
theorem d_Pr_changeNumber_32 : decode M_Pr_changeNumber.2.1 32 = .ok (.if_icmp .ne 12, 3) := by decide +kernel
theorem d_Pr_changeNumber_35 : decode M_Pr_changeNumber.2.1 35 = .ok (.iload_n 3, 1) := by decide +kernel
theorem d_Pr_changeNumber_36 : decode M_Pr_changeNumber.2.1 36 = .ok (.iload 4, 2) := by decide +kernel
theorem d_Pr_changeNumber_38 : decode M_Pr_changeNumber.2.1 38 = .ok (.invokestatic 80, 3) := by decide +kernel
theorem d_Pr_changeNumber_41 : decode M_Pr_changeNumber.2.1 41 = .ok (.ifCond .ne 5, 3) := by decide +kernel
theorem d_Pr_changeNumber_44 : decode M_Pr_changeNumber.2.1 44 = .ok (.iconst 0, 1) := by decide +kernel
theorem d_Pr_changeNumber_45 : decode M_Pr_changeNumber.2.1 45 = .ok (.ireturn, 1) := by decide +kernel
theorem d_Pr_changeNumber_46 : decode M_Pr_changeNumber.2.1 46 = .ok (.aload_n 0, 1) := by decide +kernel
theorem d_Pr_changeNumber_47 : decode M_Pr_changeNumber.2.1 47 = .ok (.iload_n 1, 1) := by decide +kernel
theorem d_Pr_changeNumber_48 : decode M_Pr_changeNumber.2.1 48 = .ok (.iload 4, 2) := by decide +kernel
theorem d_Pr_changeNumber_50 : decode M_Pr_changeNumber.2.1 50 = .ok (.invokevirtual 83, 3) := by decide +kernel
theorem d_Pr_changeNumber_53 : decode M_Pr_changeNumber.2.1 53 = .ok (.iconst 1, 1) := by decide +kernel
theorem d_Pr_changeNumber_54 : decode M_Pr_changeNumber.2.1 54 = .ok (.ireturn, 1) := by decide +kernel
theorem mi_Pr_kindOf : MI M_Pr_kindOf 1 := ⟨(lwg_at 2 (by decide +kernel) rfl), (lwg_at 418 (by decide +kernel) rfl), ⟨by decide +kernel, by decide +kernel⟩, by decide +kernel, by decide⟩
theorem cs_Pr_50 : CV RX3 50 RX3 M_Pr_kindOf 1 := ⟨(lwg_at 858 (by decide +kernel) rfl), (lwg_at 416 (by decide +kernel) rfl), (lwg_at 417 (by decide +kernel) rfl), mi_Pr_kindOf⟩
theorem mi_Pr_numberOf : MI M_Pr_numberOf 1 := ⟨(lwg_at 2 (by decide +kernel) rfl), (lwg_at 457 (by decide +kernel) rfl), ⟨by decide +kernel, by decide +kernel⟩, by decide +kernel, by decide⟩
theorem cs_Pr_77 : CV RX3 77 RX3 M_Pr_numberOf 1 := ⟨(lwg_at 859 (by decide +kernel) rfl), (lwg_at 455 (by decide +kernel) rfl), (lwg_at 456 (by decide +kernel) rfl), mi_Pr_numberOf⟩
theorem mi_Bs_isNumberOf : MI M_Bs_isNumberOf 2 := ⟨(lwg_at 1 (by decide +kernel) rfl), (lwg_at 382 (by decide +kernel) rfl), ⟨by decide +kernel, by decide +kernel⟩, by decide +kernel, by decide⟩
theorem cs_Pr_80 : CSN RX3 80 RX11 M_Bs_isNumberOf 2 := ⟨(List.mem_of_getElem? (i := 860) (by decide +kernel)), (lwg_at 381 (by decide +kernel) rfl), mi_Bs_isNumberOf⟩
theorem mi_Pr_setNumber : MI M_Pr_setNumber 2 := ⟨(lwg_at 2 (by decide +kernel) rfl), (lwg_at 461 (by decide +kernel) rfl), ⟨by decide +kernel, by decide +kernel⟩, by decide +kernel, by decide⟩
theorem cs_Pr_83 : CV RX3 83 RX3 M_Pr_setNumber 2 := ⟨(lwg_at 861 (by decide +kernel) rfl), (lwg_at 459 (by decide +kernel) rfl), (lwg_at 460 (by decide +kernel) rfl), mi_Pr_setNumber⟩
def F_Pr_changeNumber_46 (a : Nat) (x1 : Int32) (x2 : Int32) (x4 : Int32) (δ : Dl) : Option (Int32 × Dl) :=
  (F_Pr_setNumber a x1 x4 δ).bind fun δ50 => some (1, δ50)
set_option maxRecDepth 20000 in
set_option maxHeartbeats 4000000 in
theorem j_Pr_changeNumber_46 {l : Launch} {Γ : Gm} (hG : GC Γ) (a : Nat) (x1 : Int32) (x2 : Int32) (ha : Oc a 3) (x4 : Int32) (δ : Dl) (r : Int32 × Dl) (h : F_Pr_changeNumber_46 a x1 x2 x4 δ = some r) : Xe l M_Pr_changeNumber 1 0 0 NF 46 [some (.inr (0, a)), some (.inl x1), none, none, some (.inl x4)] [] 0 0 Γ δ (some (.inl r.1), Γ, r.2) := by
  unfold F_Pr_changeNumber_46 at h
  have oa := hG.ob ha
  refine x_aload_n (i := 0) d_Pr_changeNumber_46 rfl rfl ?_
  refine x_iload_n (i := 1) d_Pr_changeNumber_47 rfl rfl ?_
  refine x_iload (i := 4) d_Pr_changeNumber_48 rfl ?_
  obtain ⟨δ50, eδ50, h⟩ := bd_e h
  refine y_V2v cs_Pr_83 rfl oa (by first | decide | omega) (Nat.le_of_ble_eq_true rfl) d_Pr_changeNumber_50 (c_Pr_setNumber hG a x1 x4 ha δ δ50 eδ50) (Nat.le_refl 0) (Nat.le_refl 0) ?_
  refine x_ic (v := 1) d_Pr_changeNumber_53 (by decide) ?_
  replace h := Option.some.inj h; subst h
  exact x_nret rfl rfl d_Pr_changeNumber_54 (Nat.le_refl 0) (Nat.le_refl 0)
def F_Pr_changeNumber (a : Nat) (x1 : Int32) (x2 : Int32) (δ : Dl) : Option (Int32 × Dl) :=
  (F_Pr_kindOf a x1 δ).bind fun v2 => (F_Pr_numberOf a x1 δ).bind fun v8 => if v2 = 1 then (F_Pr_changeNumber_46 a x1 x2 (((v8 + x2) &&& 3)) δ) else (if v2 = 13 then (bnd (F_Bs_isNumberOf v2 (v8 + x2)) fun v38 => if v38 = 0 then (some (0, δ)) else (F_Pr_changeNumber_46 a x1 x2 ((v8 + x2)) δ)) else (some (0, δ)))
set_option maxRecDepth 20000 in
set_option maxHeartbeats 4000000 in
theorem c_Pr_changeNumber {l : Launch} {Γ : Gm} (hG : GC Γ) (a : Nat) (x1 : Int32) (x2 : Int32) (ha : Oc a 3) (δ : Dl) (r : Int32 × Dl) (h : F_Pr_changeNumber a x1 x2  δ = some r) : Ct l M_Pr_changeNumber 1 0 0 NF [.inr (0, a), .inl x1, .inl x2] Γ δ (some (.inl r.1), Γ, r.2) := by
  unfold F_Pr_changeNumber at h
  have oa := hG.ob ha
  refine Ct.of2 (n := 2) (ls := [some (.inr (0, a)), some (.inl x1), some (.inl x2), none, none]) rfl (by decide +kernel) (Nat.le_of_ble_eq_true rfl) ?_
  refine x_aload_n (i := 0) d_Pr_changeNumber_0 rfl rfl ?_
  refine x_iload_n (i := 1) d_Pr_changeNumber_1 rfl rfl ?_
  obtain ⟨v2, ev2, h⟩ := bd_e h
  refine y_V1 cs_Pr_50 rfl oa (by first | decide | omega) (Nat.le_of_ble_eq_true rfl) d_Pr_changeNumber_2 (c_Pr_kindOf hG a x1 ha δ v2 ev2) (Nat.le_refl 0) (Nat.le_refl 0) ?_
  refine x_stn (i := 3) (ls' := [some (.inr (0, a)), some (.inl x1), some (.inl x2), some (.inl v2), none]) d_Pr_changeNumber_5 rfl (by decide) rfl ?_
  refine x_aload_n (i := 0) d_Pr_changeNumber_6 rfl rfl ?_
  refine x_iload_n (i := 1) d_Pr_changeNumber_7 rfl rfl ?_
  obtain ⟨v8, ev8, h⟩ := bd_e h
  refine y_V1 cs_Pr_77 rfl oa (by first | decide | omega) (Nat.le_of_ble_eq_true rfl) d_Pr_changeNumber_8 (c_Pr_numberOf hG a x1 ha δ v8 ev8) (Nat.le_refl 0) (Nat.le_refl 0) ?_
  refine x_iload_n (i := 2) d_Pr_changeNumber_11 rfl rfl ?_
  refine x_iadd d_Pr_changeNumber_12 ?_
  refine x_stw (i := 4) (ls' := [some (.inr (0, a)), some (.inl x1), some (.inl x2), some (.inl v2), some (.inl (v8 + x2))]) d_Pr_changeNumber_13 (by decide) rfl ?_
  refine x_iload_n (i := 3) d_Pr_changeNumber_15 rfl rfl ?_
  refine x_ic (v := 1) d_Pr_changeNumber_16 (by decide) ?_
  refine x_cmp_ne (tgt := 29) d_Pr_changeNumber_17 (by decide) (fun c17 => ?_) (fun c17 => ?_)
  · have h := if_f c17 h
    refine x_iload_n (i := 3) d_Pr_changeNumber_29 rfl rfl ?_
    refine x_bi (v := 13) d_Pr_changeNumber_30 (by decide) ?_
    refine x_cmp_ne (tgt := 44) d_Pr_changeNumber_32 (by decide) (fun c32 => ?_) (fun c32 => ?_)
    · have h := if_f c32 h
      refine x_ic (v := 0) d_Pr_changeNumber_44 (by decide) ?_
      replace h := Option.some.inj h; subst h
      exact x_nret rfl rfl d_Pr_changeNumber_45 (Nat.le_refl 0) (Nat.le_refl 0)
    · have h := if_t c32 h
      refine x_iload_n (i := 3) d_Pr_changeNumber_35 rfl rfl ?_
      refine x_iload (i := 4) d_Pr_changeNumber_36 rfl ?_
      obtain ⟨v38, ev38, h⟩ := bn_e h
      refine y_SN2 cs_Pr_80 (by first | decide | omega) (Nat.le_of_ble_eq_true rfl) d_Pr_changeNumber_38 (c_Bs_isNumberOf v2 (v8 + x2)  δ v38 ev38) (Nat.le_refl 0) (Nat.le_refl 0) ?_
      refine x_if_ne (tgt := 46) d_Pr_changeNumber_41 (by decide) (fun c41 => ?_) (fun c41 => ?_)
      · have h := if_f c41 h
        refine x_wk (ls' := [some (.inr (0, a)), some (.inl x1), none, none, some (.inl (v8 + x2))]) ⟨Or.inr rfl, Or.inr rfl, Or.inl rfl, Or.inl rfl, Or.inr rfl, trivial⟩ ?_
        exact j_Pr_changeNumber_46 hG a x1 x2 ha ((v8 + x2)) δ r h
      · have h := if_t c41 h
        refine x_ic (v := 0) d_Pr_changeNumber_44 (by decide) ?_
        replace h := Option.some.inj h; subst h
        exact x_nret rfl rfl d_Pr_changeNumber_45 (Nat.le_refl 0) (Nat.le_refl 0)
  · have h := if_t c17 h
    refine x_iload (i := 4) d_Pr_changeNumber_20 rfl ?_
    refine x_ic (v := 3) d_Pr_changeNumber_22 (by decide) ?_
    refine x_iand d_Pr_changeNumber_23 ?_
    refine x_stw (i := 4) (ls' := [some (.inr (0, a)), some (.inl x1), some (.inl x2), some (.inl v2), some (.inl ((v8 + x2) &&& 3))]) d_Pr_changeNumber_24 (by decide) rfl ?_
    refine x_goto (tgt := 46) d_Pr_changeNumber_26 (by decide) ?_
    refine x_wk (ls' := [some (.inr (0, a)), some (.inl x1), none, none, some (.inl ((v8 + x2) &&& 3))]) ⟨Or.inr rfl, Or.inr rfl, Or.inl rfl, Or.inl rfl, Or.inr rfl, trivial⟩ ?_
    exact j_Pr_changeNumber_46 hG a x1 x2 ha (((v8 + x2) &&& 3)) δ r h
-- BlockStage.isOrder(I)Z
theorem d_Bs_isOrder_0 : decode M_Bs_isOrder.2.1 0 = .ok (.iload_n 0, 1) := by decide +kernel
theorem d_Bs_isOrder_1 : decode M_Bs_isOrder.2.1 1 = .ok (.ifCond .lt 13, 3) := by decide +kernel
theorem d_Bs_isOrder_4 : decode M_Bs_isOrder.2.1 4 = .ok (.iload_n 0, 1) := by decide +kernel
theorem d_Bs_isOrder_5 : decode M_Bs_isOrder.2.1 5 = .ok (.bipush 12, 2) := by decide +kernel
theorem d_Bs_isOrder_7 : decode M_Bs_isOrder.2.1 7 = .ok (.if_icmp .gt 7, 3) := by decide +kernel
theorem d_Bs_isOrder_10 : decode M_Bs_isOrder.2.1 10 = .ok (.iconst 1, 1) := by decide +kernel
theorem d_Bs_isOrder_11 : decode M_Bs_isOrder.2.1 11 = .ok (.goto 4, 3) := by decide +kernel
theorem d_Bs_isOrder_14 : decode M_Bs_isOrder.2.1 14 = .ok (.iconst 0, 1) := by decide +kernel
theorem d_Bs_isOrder_15 : decode M_Bs_isOrder.2.1 15 = .ok (.ireturn, 1) := by decide +kernel
def F_Bs_isOrder (x0 : Int32) : Int32 :=
  if x0 < 0 then 0 else (if 12 < x0 then 0 else 1)
set_option maxRecDepth 20000 in
set_option maxHeartbeats 4000000 in
theorem c_Bs_isOrder {l : Launch} {Γ : Gm} (x0 : Int32) (δ : Dl) (r : Int32) (h : F_Bs_isOrder x0  = r) : Ct l M_Bs_isOrder 0 0 0 NF [.inl x0] Γ δ (some (.inl r), Γ, δ) := by
  unfold F_Bs_isOrder at h
  refine Ct.of2 (n := 0) (ls := [some (.inl x0)]) rfl (by decide +kernel) (Nat.le_of_ble_eq_true rfl) ?_
  refine x_iload_n (i := 0) d_Bs_isOrder_0 rfl rfl ?_
  refine x_if_lt (tgt := 14) d_Bs_isOrder_1 (by decide) (fun c1 => ?_) (fun c1 => ?_)
  · have h := if_t c1 h
    refine x_ic (v := 0) d_Bs_isOrder_14 (by decide) ?_
    subst h
    exact x_nret rfl rfl d_Bs_isOrder_15 (Nat.le_refl 0) (Nat.le_refl 0)
  · have h := if_f c1 h
    refine x_iload_n (i := 0) d_Bs_isOrder_4 rfl rfl ?_
    refine x_bi (v := 12) d_Bs_isOrder_5 (by decide) ?_
    refine x_cmp_gt (tgt := 14) d_Bs_isOrder_7 (by decide) (fun c7 => ?_) (fun c7 => ?_)
    · have h := if_t c7 h
      refine x_ic (v := 0) d_Bs_isOrder_14 (by decide) ?_
      subst h
      exact x_nret rfl rfl d_Bs_isOrder_15 (Nat.le_refl 0) (Nat.le_refl 0)
    · have h := if_f c7 h
      refine x_ic (v := 1) d_Bs_isOrder_10 (by decide) ?_
      refine x_goto (tgt := 15) d_Bs_isOrder_11 (by decide) ?_
      subst h
      exact x_nret rfl rfl d_Bs_isOrder_15 (Nat.le_refl 0) (Nat.le_refl 0)
theorem b_Bs_isOrder {x0 : Int32} : F_Bs_isOrder x0  = 0 ∨ F_Bs_isOrder x0  = 1 := by
  unfold F_Bs_isOrder
  try dsimp only [bnd]
  repeat' split
  all_goals first | exact Or.inl rfl | exact Or.inr rfl
-- BlockStage$Program.putInPlace(II)V
theorem d_Pr_putInPlace_0 : decode M_Pr_putInPlace.2.1 0 = .ok (.aload_n 0, 1) := by decide +kernel
theorem d_Pr_putInPlace_1 : decode M_Pr_putInPlace.2.1 1 = .ok (.iload_n 1, 1) := by decide +kernel
theorem d_Pr_putInPlace_2 : decode M_Pr_putInPlace.2.1 2 = .ok (.iconst 2, 1) := by decide +kernel
theorem d_Pr_putInPlace_3 : decode M_Pr_putInPlace.2.1 3 = .ok (.invokevirtual 86, 3) := by decide +kernel
theorem d_Pr_putInPlace_6 : decode M_Pr_putInPlace.2.1 6 = .ok (.istore_n 3, 1) := by decide +kernel
theorem d_Pr_putInPlace_7 : decode M_Pr_putInPlace.2.1 7 = .ok (.aload_n 0, 1) := by decide +kernel
theorem d_Pr_putInPlace_8 : decode M_Pr_putInPlace.2.1 8 = .ok (.iload_n 1, 1) := by decide +kernel
theorem d_Pr_putInPlace_9 : decode M_Pr_putInPlace.2.1 9 = .ok (.iconst 3, 1) := by decide +kernel
theorem d_Pr_putInPlace_10 : decode M_Pr_putInPlace.2.1 10 = .ok (.invokevirtual 86, 3) := by decide +kernel
theorem d_Pr_putInPlace_13 : decode M_Pr_putInPlace.2.1 13 = .ok (.istore 4, 2) := by decide +kernel
theorem d_Pr_putInPlace_15 : decode M_Pr_putInPlace.2.1 15 = .ok (.aload_n 0, 1) := by decide +kernel
theorem d_Pr_putInPlace_16 : decode M_Pr_putInPlace.2.1 16 = .ok (.iload_n 1, 1) := by decide +kernel
theorem d_Pr_putInPlace_17 : decode M_Pr_putInPlace.2.1 17 = .ok (.iconst 4, 1) := by decide +kernel
theorem d_Pr_putInPlace_18 : decode M_Pr_putInPlace.2.1 18 = .ok (.invokevirtual 86, 3) := by decide +kernel
theorem d_Pr_putInPlace_21 : decode M_Pr_putInPlace.2.1 21 = .ok (.istore 5, 2) := by decide +kernel
theorem d_Pr_putInPlace_23 : decode M_Pr_putInPlace.2.1 23 = .ok (.aload_n 0, 1) := by decide +kernel
theorem d_Pr_putInPlace_24 : decode M_Pr_putInPlace.2.1 24 = .ok (.iload_n 1, 1) := by decide +kernel
theorem d_Pr_putInPlace_25 : decode M_Pr_putInPlace.2.1 25 = .ok (.invokevirtual 65, 3) := by decide +kernel
theorem d_Pr_putInPlace_28 : decode M_Pr_putInPlace.2.1 28 = .ok (.aload_n 0, 1) := by decide +kernel
theorem d_Pr_putInPlace_29 : decode M_Pr_putInPlace.2.1 29 = .ok (.iload_n 3, 1) := by decide +kernel
theorem d_Pr_putInPlace_30 : decode M_Pr_putInPlace.2.1 30 = .ok (.iload 4, 2) := by decide +kernel
theorem d_Pr_putInPlace_32 : decode M_Pr_putInPlace.2.1 32 = .ok (.iload_n 2, 1) := by decide +kernel
theorem d_Pr_putInPlace_33 : decode M_Pr_putInPlace.2.1 33 = .ok (.invokevirtual 73, 3) := by decide +kernel
theorem d_Pr_putInPlace_36 : decode M_Pr_putInPlace.2.1 36 = .ok (.aload_n 0, 1) := by decide +kernel
theorem d_Pr_putInPlace_37 : decode M_Pr_putInPlace.2.1 37 = .ok (.iload 5, 2) := by decide +kernel
theorem d_Pr_putInPlace_39 : decode M_Pr_putInPlace.2.1 39 = .ok (.iload_n 2, 1) := by decide +kernel
theorem d_Pr_putInPlace_40 : decode M_Pr_putInPlace.2.1 40 = .ok (.invokevirtual 89, 3) := by decide +kernel
theorem d_Pr_putInPlace_43 : decode M_Pr_putInPlace.2.1 43 = .ok (.return_, 1) := by decide +kernel
theorem mi_Pr_blockPart : MI M_Pr_blockPart 2 := ⟨(lwg_at 2 (by decide +kernel) rfl), (lwg_at 508 (by decide +kernel) rfl), ⟨by decide +kernel, by decide +kernel⟩, by decide +kernel, by decide⟩
theorem cs_Pr_86 : CV RX3 86 RX3 M_Pr_blockPart 2 := ⟨(lwg_at 870 (by decide +kernel) rfl), (lwg_at 506 (by decide +kernel) rfl), (lwg_at 507 (by decide +kernel) rfl), mi_Pr_blockPart⟩
theorem mi_Pr_detach : MI M_Pr_detach 1 := ⟨(lwg_at 2 (by decide +kernel) rfl), (lwg_at 446 (by decide +kernel) rfl), ⟨by decide +kernel, by decide +kernel⟩, by decide +kernel, by decide⟩
theorem cs_Pr_65 : CV RX3 65 RX3 M_Pr_detach 1 := ⟨(lwg_at 865 (by decide +kernel) rfl), (lwg_at 444 (by decide +kernel) rfl), (lwg_at 445 (by decide +kernel) rfl), mi_Pr_detach⟩
theorem mi_Pr_attach : MI M_Pr_attach 3 := ⟨(lwg_at 2 (by decide +kernel) rfl), (lwg_at 438 (by decide +kernel) rfl), ⟨by decide +kernel, by decide +kernel⟩, by decide +kernel, by decide⟩
theorem cs_Pr_73 : CV RX3 73 RX3 M_Pr_attach 3 := ⟨(lwg_at 871 (by decide +kernel) rfl), (lwg_at 436 (by decide +kernel) rfl), (lwg_at 437 (by decide +kernel) rfl), mi_Pr_attach⟩
theorem mi_Pr_attachTop : MI M_Pr_attachTop 2 := ⟨(lwg_at 2 (by decide +kernel) rfl), (lwg_at 488 (by decide +kernel) rfl), ⟨by decide +kernel, by decide +kernel⟩, by decide +kernel, by decide⟩
theorem cs_Pr_89 : CV RX3 89 RX3 M_Pr_attachTop 2 := ⟨(lwg_at 872 (by decide +kernel) rfl), (lwg_at 486 (by decide +kernel) rfl), (lwg_at 487 (by decide +kernel) rfl), mi_Pr_attachTop⟩
def F_Pr_putInPlace (a : Nat) (x1 : Int32) (x2 : Int32) (δ : Dl) : Option (Dl) :=
  (F_Pr_blockPart a x1 2 δ).bind fun v3 => (F_Pr_blockPart a x1 3 δ).bind fun v10 => (F_Pr_blockPart a x1 4 δ).bind fun v18 => (F_Pr_detach a x1 δ).bind fun δ25 => (F_Pr_attach a v3 v10 x2 δ25).bind fun δ33 => (F_Pr_attachTop a v18 x2 δ33).bind fun δ40 => some δ40
set_option maxRecDepth 20000 in
set_option maxHeartbeats 4000000 in
theorem c_Pr_putInPlace {l : Launch} {Γ : Gm} (hG : GC Γ) (a : Nat) (x1 : Int32) (x2 : Int32) (ha : Oc a 3) (δ : Dl) (r : Dl) (h : F_Pr_putInPlace a x1 x2  δ = some r) : Ct l M_Pr_putInPlace 1 0 0 NF [.inr (0, a), .inl x1, .inl x2] Γ δ (none, Γ, r) := by
  unfold F_Pr_putInPlace at h
  have oa := hG.ob ha
  refine Ct.of2 (n := 3) (ls := [some (.inr (0, a)), some (.inl x1), some (.inl x2), none, none, none]) rfl (by decide +kernel) (Nat.le_of_ble_eq_true rfl) ?_
  refine x_aload_n (i := 0) d_Pr_putInPlace_0 rfl rfl ?_
  refine x_iload_n (i := 1) d_Pr_putInPlace_1 rfl rfl ?_
  refine x_ic (v := 2) d_Pr_putInPlace_2 (by decide) ?_
  obtain ⟨v3, ev3, h⟩ := bd_e h
  refine y_V2 cs_Pr_86 rfl oa (by first | decide | omega) (Nat.le_of_ble_eq_true rfl) d_Pr_putInPlace_3 (c_Pr_blockPart hG a x1 2 ha δ v3 ev3) (Nat.le_refl 0) (Nat.le_refl 0) ?_
  refine x_stn (i := 3) (ls' := [some (.inr (0, a)), some (.inl x1), some (.inl x2), some (.inl v3), none, none]) d_Pr_putInPlace_6 rfl (by decide) rfl ?_
  refine x_aload_n (i := 0) d_Pr_putInPlace_7 rfl rfl ?_
  refine x_iload_n (i := 1) d_Pr_putInPlace_8 rfl rfl ?_
  refine x_ic (v := 3) d_Pr_putInPlace_9 (by decide) ?_
  obtain ⟨v10, ev10, h⟩ := bd_e h
  refine y_V2 cs_Pr_86 rfl oa (by first | decide | omega) (Nat.le_of_ble_eq_true rfl) d_Pr_putInPlace_10 (c_Pr_blockPart hG a x1 3 ha δ v10 ev10) (Nat.le_refl 0) (Nat.le_refl 0) ?_
  refine x_stw (i := 4) (ls' := [some (.inr (0, a)), some (.inl x1), some (.inl x2), some (.inl v3), some (.inl v10), none]) d_Pr_putInPlace_13 (by decide) rfl ?_
  refine x_aload_n (i := 0) d_Pr_putInPlace_15 rfl rfl ?_
  refine x_iload_n (i := 1) d_Pr_putInPlace_16 rfl rfl ?_
  refine x_ic (v := 4) d_Pr_putInPlace_17 (by decide) ?_
  obtain ⟨v18, ev18, h⟩ := bd_e h
  refine y_V2 cs_Pr_86 rfl oa (by first | decide | omega) (Nat.le_of_ble_eq_true rfl) d_Pr_putInPlace_18 (c_Pr_blockPart hG a x1 4 ha δ v18 ev18) (Nat.le_refl 0) (Nat.le_refl 0) ?_
  refine x_stw (i := 5) (ls' := [some (.inr (0, a)), some (.inl x1), some (.inl x2), some (.inl v3), some (.inl v10), some (.inl v18)]) d_Pr_putInPlace_21 (by decide) rfl ?_
  refine x_aload_n (i := 0) d_Pr_putInPlace_23 rfl rfl ?_
  refine x_iload_n (i := 1) d_Pr_putInPlace_24 rfl rfl ?_
  obtain ⟨δ25, eδ25, h⟩ := bd_e h
  refine y_V1v cs_Pr_65 rfl oa (by first | decide | omega) (Nat.le_of_ble_eq_true rfl) d_Pr_putInPlace_25 (c_Pr_detach hG a x1 ha δ δ25 eδ25) (Nat.le_refl 0) (Nat.le_refl 0) ?_
  refine x_aload_n (i := 0) d_Pr_putInPlace_28 rfl rfl ?_
  refine x_iload_n (i := 3) d_Pr_putInPlace_29 rfl rfl ?_
  refine x_iload (i := 4) d_Pr_putInPlace_30 rfl ?_
  refine x_iload_n (i := 2) d_Pr_putInPlace_32 rfl rfl ?_
  obtain ⟨δ33, eδ33, h⟩ := bd_e h
  refine y_V3v cs_Pr_73 rfl oa (by first | decide | omega) (Nat.le_of_ble_eq_true rfl) d_Pr_putInPlace_33 (c_Pr_attach hG a v3 v10 x2 ha δ25 δ33 eδ33) (Nat.le_refl 0) (Nat.le_refl 0) ?_
  refine x_aload_n (i := 0) d_Pr_putInPlace_36 rfl rfl ?_
  refine x_iload (i := 5) d_Pr_putInPlace_37 rfl ?_
  refine x_iload_n (i := 2) d_Pr_putInPlace_39 rfl rfl ?_
  obtain ⟨δ40, eδ40, h⟩ := bd_e h
  refine y_V2v cs_Pr_89 rfl oa (by first | decide | omega) (Nat.le_of_ble_eq_true rfl) d_Pr_putInPlace_40 (c_Pr_attachTop hG a v18 x2 ha δ33 δ40 eδ40) (Nat.le_refl 0) (Nat.le_refl 0) ?_
  replace h := Option.some.inj h; subst h
  exact x_vret rfl d_Pr_putInPlace_43 (Nat.le_refl 0) (Nat.le_refl 0)
-- BlockStage$Program.change(II)Z
theorem d_Pr_change_0 : decode M_Pr_change.2.1 0 = .ok (.iload_n 2, 1) := by decide +kernel
theorem d_Pr_change_1 : decode M_Pr_change.2.1 1 = .ok (.iconst 1, 1) := by decide +kernel
theorem d_Pr_change_2 : decode M_Pr_change.2.1 2 = .ok (.if_icmp .ne 10, 3) := by decide +kernel
theorem d_Pr_change_5 : decode M_Pr_change.2.1 5 = .ok (.aload_n 0, 1) := by decide +kernel
theorem d_Pr_change_6 : decode M_Pr_change.2.1 6 = .ok (.iload_n 1, 1) := by decide +kernel
theorem d_Pr_change_7 : decode M_Pr_change.2.1 7 = .ok (.iconst (-1), 1) := by decide +kernel
theorem d_Pr_change_8 : decode M_Pr_change.2.1 8 = .ok (.invokevirtual 46, 3) := by decide +kernel
theorem d_Pr_change_11 : decode M_Pr_change.2.1 11 = .ok (.ireturn, 1) := by decide +kernel
theorem d_Pr_change_12 : decode M_Pr_change.2.1 12 = .ok (.iload_n 2, 1) := by decide +kernel
theorem d_Pr_change_13 : decode M_Pr_change.2.1 13 = .ok (.iconst 2, 1) := by decide +kernel
theorem d_Pr_change_14 : decode M_Pr_change.2.1 14 = .ok (.if_icmp .ne 10, 3) := by decide +kernel
theorem d_Pr_change_17 : decode M_Pr_change.2.1 17 = .ok (.aload_n 0, 1) := by decide +kernel
theorem d_Pr_change_18 : decode M_Pr_change.2.1 18 = .ok (.iload_n 1, 1) := by decide +kernel
theorem d_Pr_change_19 : decode M_Pr_change.2.1 19 = .ok (.iconst 1, 1) := by decide +kernel
theorem d_Pr_change_20 : decode M_Pr_change.2.1 20 = .ok (.invokevirtual 46, 3) := by decide +kernel
theorem d_Pr_change_23 : decode M_Pr_change.2.1 23 = .ok (.ireturn, 1) := by decide +kernel
theorem d_Pr_change_24 : decode M_Pr_change.2.1 24 = .ok (.aload_n 0, 1) := by decide +kernel
theorem d_Pr_change_25 : decode M_Pr_change.2.1 25 = .ok (.iload_n 1, 1) := by decide +kernel
theorem d_Pr_change_26 : decode M_Pr_change.2.1 26 = .ok (.invokevirtual 50, 3) := by decide +kernel
theorem d_Pr_change_29 : decode M_Pr_change.2.1 29 = .ok (.invokestatic 54, 3) := by decide +kernel
theorem d_Pr_change_32 : decode M_Pr_change.2.1 32 = .ok (.ifCond .eq 11, 3) := by decide +kernel
theorem d_Pr_change_35 : decode M_Pr_change.2.1 35 = .ok (.aload_n 0, 1) := by decide +kernel
theorem d_Pr_change_36 : decode M_Pr_change.2.1 36 = .ok (.iload_n 1, 1) := by decide +kernel
theorem d_Pr_change_37 : decode M_Pr_change.2.1 37 = .ok (.invokevirtual 58, 3) := by decide +kernel
theorem d_Pr_change_40 : decode M_Pr_change.2.1 40 = .ok (.ifCond .eq 5, 3) := by decide +kernel
theorem d_Pr_change_43 : decode M_Pr_change.2.1 43 = .ok (.iconst 0, 1) := by decide +kernel
theorem d_Pr_change_44 : decode M_Pr_change.2.1 44 = .ok (.ireturn, 1) := by decide +kernel
theorem d_Pr_change_45 : decode M_Pr_change.2.1 45 = .ok (.aload_n 0, 1) := by decide +kernel
theorem d_Pr_change_46 : decode M_Pr_change.2.1 46 = .ok (.iload_n 1, 1) := by decide +kernel
theorem d_Pr_change_47 : decode M_Pr_change.2.1 47 = .ok (.iconst 0, 1) := by decide +kernel
theorem d_Pr_change_48 : decode M_Pr_change.2.1 48 = .ok (.invokevirtual 61, 3) := by decide +kernel
theorem d_Pr_change_51 : decode M_Pr_change.2.1 51 = .ok (.istore_n 3, 1) := by decide +kernel
theorem d_Pr_change_52 : decode M_Pr_change.2.1 52 = .ok (.iload_n 2, 1) := by decide +kernel
theorem d_Pr_change_53 : decode M_Pr_change.2.1 53 = .ok (.ifCond .ne 16, 3) := by decide +kernel
theorem d_Pr_change_56 : decode M_Pr_change.2.1 56 = .ok (.aload_n 0, 1) := by decide +kernel
theorem d_Pr_change_57 : decode M_Pr_change.2.1 57 = .ok (.iload_n 3, 1) := by decide +kernel
theorem d_Pr_change_58 : decode M_Pr_change.2.1 58 = .ok (.invokevirtual 65, 3) := by decide +kernel
theorem d_Pr_change_61 : decode M_Pr_change.2.1 61 = .ok (.aload_n 0, 1) := by decide +kernel
theorem d_Pr_change_62 : decode M_Pr_change.2.1 62 = .ok (.iload_n 1, 1) := by decide +kernel
theorem d_Pr_change_63 : decode M_Pr_change.2.1 63 = .ok (.iload_n 3, 1) := by decide +kernel
theorem d_Pr_change_64 : decode M_Pr_change.2.1 64 = .ok (.invokevirtual 69, 3) := by decide +kernel
theorem d_Pr_change_67 : decode M_Pr_change.2.1 67 = .ok (.iconst 1, 1) := by decide +kernel
theorem d_Pr_change_68 : decode M_Pr_change.2.1 68 = .ok (.ireturn, 1) := by decide +kernel
theorem d_Pr_change_69 : decode M_Pr_change.2.1 69 = .ok (.iload_n 3, 1) := by decide +kernel
theorem d_Pr_change_70 : decode M_Pr_change.2.1 70 = .ok (.iconst (-1), 1) := by decide +kernel
theorem d_Pr_change_71 : decode M_Pr_change.2.1 71 = .ok (.if_icmp .ne 5, 3) := by decide +kernel
theorem d_Pr_change_74 : decode M_Pr_change.2.1 74 = .ok (.iconst 0, 1) := by decide +kernel
theorem d_Pr_change_75 : decode M_Pr_change.2.1 75 = .ok (.ireturn, 1) := by decide +kernel
theorem d_Pr_change_76 : decode M_Pr_change.2.1 76 = .ok (.aload_n 0, 1) := by decide +kernel
theorem d_Pr_change_77 : decode M_Pr_change.2.1 77 = .ok (.iload_n 3, 1) := by decide +kernel
theorem d_Pr_change_78 : decode M_Pr_change.2.1 78 = .ok (.iconst 0, 1) := by decide +kernel
theorem d_Pr_change_79 : decode M_Pr_change.2.1 79 = .ok (.invokevirtual 61, 3) := by decide +kernel
theorem d_Pr_change_82 : decode M_Pr_change.2.1 82 = .ok (.istore 4, 2) := by decide +kernel
theorem d_Pr_change_84 : decode M_Pr_change.2.1 84 = .ok (.aload_n 0, 1) := by decide +kernel
theorem d_Pr_change_85 : decode M_Pr_change.2.1 85 = .ok (.iload_n 3, 1) := by decide +kernel
theorem d_Pr_change_86 : decode M_Pr_change.2.1 86 = .ok (.invokevirtual 65, 3) := by decide +kernel
theorem d_Pr_change_89 : decode M_Pr_change.2.1 89 = .ok (.aload_n 0, 1) := by decide +kernel
theorem d_Pr_change_90 : decode M_Pr_change.2.1 90 = .ok (.iload 4, 2) := by decide +kernel
theorem d_Pr_change_92 : decode M_Pr_change.2.1 92 = .ok (.invokevirtual 65, 3) := by decide +kernel
theorem d_Pr_change_95 : decode M_Pr_change.2.1 95 = .ok (.aload_n 0, 1) := by decide +kernel
theorem d_Pr_change_96 : decode M_Pr_change.2.1 96 = .ok (.iload_n 1, 1) := by decide +kernel
theorem d_Pr_change_97 : decode M_Pr_change.2.1 97 = .ok (.iload_n 3, 1) := by decide +kernel
theorem d_Pr_change_98 : decode M_Pr_change.2.1 98 = .ok (.invokevirtual 69, 3) := by decide +kernel
theorem d_Pr_change_101 : decode M_Pr_change.2.1 101 = .ok (.aload_n 0, 1) := by decide +kernel
theorem d_Pr_change_102 : decode M_Pr_change.2.1 102 = .ok (.iload_n 3, 1) := by decide +kernel
theorem d_Pr_change_103 : decode M_Pr_change.2.1 103 = .ok (.iconst 0, 1) := by decide +kernel
theorem d_Pr_change_104 : decode M_Pr_change.2.1 104 = .ok (.iload_n 1, 1) := by decide +kernel
theorem d_Pr_change_105 : decode M_Pr_change.2.1 105 = .ok (.invokevirtual 73, 3) := by decide +kernel
theorem d_Pr_change_108 : decode M_Pr_change.2.1 108 = .ok (.aload_n 0, 1) := by decide +kernel
theorem d_Pr_change_109 : decode M_Pr_change.2.1 109 = .ok (.iload_n 1, 1) := by decide +kernel
theorem d_Pr_change_110 : decode M_Pr_change.2.1 110 = .ok (.iconst 0, 1) := by decide +kernel
theorem d_Pr_change_111 : decode M_Pr_change.2.1 111 = .ok (.iload 4, 2) := by decide +kernel
theorem d_Pr_change_113 : decode M_Pr_change.2.1 113 = .ok (.invokevirtual 73, 3) := by decide +kernel
theorem d_Pr_change_116 : decode M_Pr_change.2.1 116 = .ok (.iconst 1, 1) := by decide +kernel
theorem d_Pr_change_117 : decode M_Pr_change.2.1 117 = .ok (.ireturn, 1) := by decide +kernel
theorem mi_Bs_isOrder : MI M_Bs_isOrder 1 := ⟨(lwg_at 1 (by decide +kernel) rfl), (lwg_at 424 (by decide +kernel) rfl), ⟨by decide +kernel, by decide +kernel⟩, by decide +kernel, by decide⟩
theorem cs_Pr_54 : CSN RX3 54 RX11 M_Bs_isOrder 1 := ⟨(List.mem_of_getElem? (i := 862) (by decide +kernel)), (lwg_at 423 (by decide +kernel) rfl), mi_Bs_isOrder⟩
theorem mi_Pr_isLoose : MI M_Pr_isLoose 1 := ⟨(lwg_at 2 (by decide +kernel) rfl), (lwg_at 414 (by decide +kernel) rfl), ⟨by decide +kernel, by decide +kernel⟩, by decide +kernel, by decide⟩
theorem cs_Pr_58 : CV RX3 58 RX3 M_Pr_isLoose 1 := ⟨(lwg_at 863 (by decide +kernel) rfl), (lwg_at 412 (by decide +kernel) rfl), (lwg_at 413 (by decide +kernel) rfl), mi_Pr_isLoose⟩
theorem mi_Pr_inHole : MI M_Pr_inHole 2 := ⟨(lwg_at 2 (by decide +kernel) rfl), (lwg_at 410 (by decide +kernel) rfl), ⟨by decide +kernel, by decide +kernel⟩, by decide +kernel, by decide⟩
theorem cs_Pr_61 : CV RX3 61 RX3 M_Pr_inHole 2 := ⟨(lwg_at 864 (by decide +kernel) rfl), (lwg_at 408 (by decide +kernel) rfl), (lwg_at 409 (by decide +kernel) rfl), mi_Pr_inHole⟩
theorem mi_Pr_putInPlace : MI M_Pr_putInPlace 2 := ⟨(lwg_at 2 (by decide +kernel) rfl), (lwg_at 869 (by decide +kernel) rfl), ⟨by decide +kernel, by decide +kernel⟩, by decide +kernel, by decide⟩
theorem cs_Pr_69 : CV RX3 69 RX3 M_Pr_putInPlace 2 := ⟨(lwg_at 866 (by decide +kernel) rfl), (lwg_at 868 (by decide +kernel) rfl), (lwg_priv 21 (y := M_Pr_putInPlace.1) (n := 5) (by decide +kernel)), mi_Pr_putInPlace⟩
theorem mi_Pr_changeNumber : MI M_Pr_changeNumber 2 := ⟨(lwg_at 2 (by decide +kernel) rfl), (lwg_at 857 (by decide +kernel) rfl), ⟨by decide +kernel, by decide +kernel⟩, by decide +kernel, by decide⟩
theorem cs_Pr_46 : CV RX3 46 RX3 M_Pr_changeNumber 2 := ⟨(lwg_at 854 (by decide +kernel) rfl), (lwg_at 856 (by decide +kernel) rfl), (lwg_priv 20 (y := M_Pr_changeNumber.1) (n := 5) (by decide +kernel)), mi_Pr_changeNumber⟩
def F_Pr_change (a : Nat) (x1 : Int32) (x2 : Int32) (δ : Dl) : Option (Int32 × Dl) :=
  if x2 = 1 then (bd2 (F_Pr_changeNumber a x1 (-1) δ) fun v8 δ8 => if v8 = 0 ∨ v8 = 1 then some (v8, δ8) else none) else (if x2 = 2 then (bd2 (F_Pr_changeNumber a x1 1 δ) fun v20 δ20 => if v20 = 0 ∨ v20 = 1 then some (v20, δ20) else none) else ((F_Pr_kindOf a x1 δ).bind fun v26 => bnd (F_Bs_isOrder v26) fun v29 => if v29 = 0 then (some (0, δ)) else ((F_Pr_isLoose a x1 δ).bind fun v37 => if v37 = 0 then ((F_Pr_inHole a x1 0 δ).bind fun v48 => if x2 = 0 then ((F_Pr_detach a v48 δ).bind fun δ58 => (F_Pr_putInPlace a x1 v48 δ58).bind fun δ64 => some (1, δ64)) else (if v48 = (-1) then (some (0, δ)) else ((F_Pr_inHole a v48 0 δ).bind fun v79 => (F_Pr_detach a v48 δ).bind fun δ86 => (F_Pr_detach a v79 δ86).bind fun δ92 => (F_Pr_putInPlace a x1 v48 δ92).bind fun δ98 => (F_Pr_attach a v48 0 x1 δ98).bind fun δ105 => (F_Pr_attach a x1 0 v79 δ105).bind fun δ113 => some (1, δ113)))) else (some (0, δ)))))
set_option maxRecDepth 20000 in
set_option maxHeartbeats 4000000 in
theorem c_Pr_change {l : Launch} {Γ : Gm} (hG : GC Γ) (a : Nat) (x1 : Int32) (x2 : Int32) (ha : Oc a 3) (δ : Dl) (r : Int32 × Dl) (h : F_Pr_change a x1 x2  δ = some r) : Ct l M_Pr_change 2 0 0 NF [.inr (0, a), .inl x1, .inl x2] Γ δ (some (.inl r.1), Γ, r.2) := by
  unfold F_Pr_change at h
  have oa := hG.ob ha
  refine Ct.of2 (n := 2) (ls := [some (.inr (0, a)), some (.inl x1), some (.inl x2), none, none]) rfl (by decide +kernel) (Nat.le_of_ble_eq_true rfl) ?_
  refine x_iload_n (i := 2) d_Pr_change_0 rfl rfl ?_
  refine x_ic (v := 1) d_Pr_change_1 (by decide) ?_
  refine x_cmp_ne (tgt := 12) d_Pr_change_2 (by decide) (fun c2 => ?_) (fun c2 => ?_)
  · have h := if_f c2 h
    refine x_iload_n (i := 2) d_Pr_change_12 rfl rfl ?_
    refine x_ic (v := 2) d_Pr_change_13 (by decide) ?_
    refine x_cmp_ne (tgt := 24) d_Pr_change_14 (by decide) (fun c14 => ?_) (fun c14 => ?_)
    · have h := if_f c14 h
      refine x_aload_n (i := 0) d_Pr_change_24 rfl rfl ?_
      refine x_iload_n (i := 1) d_Pr_change_25 rfl rfl ?_
      obtain ⟨v26, ev26, h⟩ := bd_e h
      refine y_V1 cs_Pr_50 rfl oa (by first | decide | omega) (Nat.le_of_ble_eq_true rfl) d_Pr_change_26 (c_Pr_kindOf hG a x1 ha δ v26 ev26) (Nat.le_refl 0) (Nat.le_refl 0) ?_
      obtain ⟨v29, ev29, h⟩ := bn_e h
      refine y_SN1 cs_Pr_54 (by first | decide | omega) (Nat.le_of_ble_eq_true rfl) d_Pr_change_29 (c_Bs_isOrder v26  δ v29 ev29) (Nat.le_refl 0) (Nat.le_refl 0) ?_
      refine x_if_eq (tgt := 43) d_Pr_change_32 (by decide) (fun c32 => ?_) (fun c32 => ?_)
      · have h := if_t c32 h
        refine x_ic (v := 0) d_Pr_change_43 (by decide) ?_
        replace h := Option.some.inj h; subst h
        exact x_nret rfl rfl d_Pr_change_44 (Nat.le_refl 0) (Nat.le_refl 0)
      · have h := if_f c32 h
        refine x_aload_n (i := 0) d_Pr_change_35 rfl rfl ?_
        refine x_iload_n (i := 1) d_Pr_change_36 rfl rfl ?_
        obtain ⟨v37, ev37, h⟩ := bd_e h
        refine y_V1 cs_Pr_58 rfl oa (by first | decide | omega) (Nat.le_of_ble_eq_true rfl) d_Pr_change_37 (c_Pr_isLoose hG a x1 ha δ v37 ev37) (Nat.le_refl 0) (Nat.le_refl 0) ?_
        refine x_if_eq (tgt := 45) d_Pr_change_40 (by decide) (fun c40 => ?_) (fun c40 => ?_)
        · have h := if_t c40 h
          refine x_aload_n (i := 0) d_Pr_change_45 rfl rfl ?_
          refine x_iload_n (i := 1) d_Pr_change_46 rfl rfl ?_
          refine x_ic (v := 0) d_Pr_change_47 (by decide) ?_
          obtain ⟨v48, ev48, h⟩ := bd_e h
          refine y_V2 cs_Pr_61 rfl oa (by first | decide | omega) (Nat.le_of_ble_eq_true rfl) d_Pr_change_48 (c_Pr_inHole hG a x1 0 ha δ v48 ev48) (Nat.le_refl 0) (Nat.le_refl 0) ?_
          refine x_stn (i := 3) (ls' := [some (.inr (0, a)), some (.inl x1), some (.inl x2), some (.inl v48), none]) d_Pr_change_51 rfl (by decide) rfl ?_
          refine x_iload_n (i := 2) d_Pr_change_52 rfl rfl ?_
          refine x_if_ne (tgt := 69) d_Pr_change_53 (by decide) (fun c53 => ?_) (fun c53 => ?_)
          · have h := if_f c53 h
            refine x_iload_n (i := 3) d_Pr_change_69 rfl rfl ?_
            refine x_ic (v := -1) d_Pr_change_70 (by decide) ?_
            refine x_cmp_ne (tgt := 76) d_Pr_change_71 (by decide) (fun c71 => ?_) (fun c71 => ?_)
            · have h := if_f c71 h
              refine x_aload_n (i := 0) d_Pr_change_76 rfl rfl ?_
              refine x_iload_n (i := 3) d_Pr_change_77 rfl rfl ?_
              refine x_ic (v := 0) d_Pr_change_78 (by decide) ?_
              obtain ⟨v79, ev79, h⟩ := bd_e h
              refine y_V2 cs_Pr_61 rfl oa (by first | decide | omega) (Nat.le_of_ble_eq_true rfl) d_Pr_change_79 (c_Pr_inHole hG a v48 0 ha δ v79 ev79) (Nat.le_refl 0) (Nat.le_refl 0) ?_
              refine x_stw (i := 4) (ls' := [some (.inr (0, a)), some (.inl x1), some (.inl x2), some (.inl v48), some (.inl v79)]) d_Pr_change_82 (by decide) rfl ?_
              refine x_aload_n (i := 0) d_Pr_change_84 rfl rfl ?_
              refine x_iload_n (i := 3) d_Pr_change_85 rfl rfl ?_
              obtain ⟨δ86, eδ86, h⟩ := bd_e h
              refine y_V1v cs_Pr_65 rfl oa (by first | decide | omega) (Nat.le_of_ble_eq_true rfl) d_Pr_change_86 (c_Pr_detach hG a v48 ha δ δ86 eδ86) (Nat.le_refl 0) (Nat.le_refl 0) ?_
              refine x_aload_n (i := 0) d_Pr_change_89 rfl rfl ?_
              refine x_iload (i := 4) d_Pr_change_90 rfl ?_
              obtain ⟨δ92, eδ92, h⟩ := bd_e h
              refine y_V1v cs_Pr_65 rfl oa (by first | decide | omega) (Nat.le_of_ble_eq_true rfl) d_Pr_change_92 (c_Pr_detach hG a v79 ha δ86 δ92 eδ92) (Nat.le_refl 0) (Nat.le_refl 0) ?_
              refine x_aload_n (i := 0) d_Pr_change_95 rfl rfl ?_
              refine x_iload_n (i := 1) d_Pr_change_96 rfl rfl ?_
              refine x_iload_n (i := 3) d_Pr_change_97 rfl rfl ?_
              obtain ⟨δ98, eδ98, h⟩ := bd_e h
              refine y_V2v cs_Pr_69 rfl oa (by first | decide | omega) (Nat.le_of_ble_eq_true rfl) d_Pr_change_98 (c_Pr_putInPlace hG a x1 v48 ha δ92 δ98 eδ98) (Nat.le_refl 0) (Nat.le_refl 0) ?_
              refine x_aload_n (i := 0) d_Pr_change_101 rfl rfl ?_
              refine x_iload_n (i := 3) d_Pr_change_102 rfl rfl ?_
              refine x_ic (v := 0) d_Pr_change_103 (by decide) ?_
              refine x_iload_n (i := 1) d_Pr_change_104 rfl rfl ?_
              obtain ⟨δ105, eδ105, h⟩ := bd_e h
              refine y_V3v cs_Pr_73 rfl oa (by first | decide | omega) (Nat.le_of_ble_eq_true rfl) d_Pr_change_105 (c_Pr_attach hG a v48 0 x1 ha δ98 δ105 eδ105) (Nat.le_refl 0) (Nat.le_refl 0) ?_
              refine x_aload_n (i := 0) d_Pr_change_108 rfl rfl ?_
              refine x_iload_n (i := 1) d_Pr_change_109 rfl rfl ?_
              refine x_ic (v := 0) d_Pr_change_110 (by decide) ?_
              refine x_iload (i := 4) d_Pr_change_111 rfl ?_
              obtain ⟨δ113, eδ113, h⟩ := bd_e h
              refine y_V3v cs_Pr_73 rfl oa (by first | decide | omega) (Nat.le_of_ble_eq_true rfl) d_Pr_change_113 (c_Pr_attach hG a x1 0 v79 ha δ105 δ113 eδ113) (Nat.le_refl 0) (Nat.le_refl 0) ?_
              refine x_ic (v := 1) d_Pr_change_116 (by decide) ?_
              replace h := Option.some.inj h; subst h
              exact x_nret rfl rfl d_Pr_change_117 (Nat.le_refl 0) (Nat.le_refl 0)
            · have h := if_t c71 h
              refine x_ic (v := 0) d_Pr_change_74 (by decide) ?_
              replace h := Option.some.inj h; subst h
              exact x_nret rfl rfl d_Pr_change_75 (Nat.le_refl 0) (Nat.le_refl 0)
          · have h := if_t c53 h
            refine x_aload_n (i := 0) d_Pr_change_56 rfl rfl ?_
            refine x_iload_n (i := 3) d_Pr_change_57 rfl rfl ?_
            obtain ⟨δ58, eδ58, h⟩ := bd_e h
            refine y_V1v cs_Pr_65 rfl oa (by first | decide | omega) (Nat.le_of_ble_eq_true rfl) d_Pr_change_58 (c_Pr_detach hG a v48 ha δ δ58 eδ58) (Nat.le_refl 0) (Nat.le_refl 0) ?_
            refine x_aload_n (i := 0) d_Pr_change_61 rfl rfl ?_
            refine x_iload_n (i := 1) d_Pr_change_62 rfl rfl ?_
            refine x_iload_n (i := 3) d_Pr_change_63 rfl rfl ?_
            obtain ⟨δ64, eδ64, h⟩ := bd_e h
            refine y_V2v cs_Pr_69 rfl oa (by first | decide | omega) (Nat.le_of_ble_eq_true rfl) d_Pr_change_64 (c_Pr_putInPlace hG a x1 v48 ha δ58 δ64 eδ64) (Nat.le_refl 0) (Nat.le_refl 0) ?_
            refine x_ic (v := 1) d_Pr_change_67 (by decide) ?_
            replace h := Option.some.inj h; subst h
            exact x_nret rfl rfl d_Pr_change_68 (Nat.le_refl 0) (Nat.le_refl 0)
        · have h := if_f c40 h
          refine x_ic (v := 0) d_Pr_change_43 (by decide) ?_
          replace h := Option.some.inj h; subst h
          exact x_nret rfl rfl d_Pr_change_44 (Nat.le_refl 0) (Nat.le_refl 0)
    · have h := if_t c14 h
      refine x_aload_n (i := 0) d_Pr_change_17 rfl rfl ?_
      refine x_iload_n (i := 1) d_Pr_change_18 rfl rfl ?_
      refine x_ic (v := 1) d_Pr_change_19 (by decide) ?_
      obtain ⟨v20, δ20, eδ20, h⟩ := bd2_e h
      refine y_V2 cs_Pr_46 rfl oa (by first | decide | omega) (Nat.le_of_ble_eq_true rfl) d_Pr_change_20 (c_Pr_changeNumber hG a x1 1 ha δ (v20, δ20) eδ20) (Nat.le_refl 0) (Nat.le_refl 0) ?_
      obtain ⟨g23, h⟩ := gd_e h
      replace h := Option.some.inj h; subst h
      exact x_nret rfl (nb_of g23) d_Pr_change_23 (Nat.le_refl 0) (Nat.le_refl 0)
  · have h := if_t c2 h
    refine x_aload_n (i := 0) d_Pr_change_5 rfl rfl ?_
    refine x_iload_n (i := 1) d_Pr_change_6 rfl rfl ?_
    refine x_ic (v := -1) d_Pr_change_7 (by decide) ?_
    obtain ⟨v8, δ8, eδ8, h⟩ := bd2_e h
    refine y_V2 cs_Pr_46 rfl oa (by first | decide | omega) (Nat.le_of_ble_eq_true rfl) d_Pr_change_8 (c_Pr_changeNumber hG a x1 (-1) ha δ (v8, δ8) eδ8) (Nat.le_refl 0) (Nat.le_refl 0) ?_
    obtain ⟨g11, h⟩ := gd_e h
    replace h := Option.some.inj h; subst h
    exact x_nret rfl (nb_of g11) d_Pr_change_11 (Nat.le_refl 0) (Nat.le_refl 0)
-- BlockStage.hasNumber(I)Z
theorem d_Bs_hasNumber_0 : decode M_Bs_hasNumber.2.1 0 = .ok (.iload_n 0, 1) := by decide +kernel
theorem d_Bs_hasNumber_1 : decode M_Bs_hasNumber.2.1 1 = .ok (.iconst 1, 1) := by decide +kernel
theorem d_Bs_hasNumber_2 : decode M_Bs_hasNumber.2.1 2 = .ok (.if_icmp .eq 15, 3) := by decide +kernel
theorem d_Bs_hasNumber_5 : decode M_Bs_hasNumber.2.1 5 = .ok (.iload_n 0, 1) := by decide +kernel
theorem d_Bs_hasNumber_6 : decode M_Bs_hasNumber.2.1 6 = .ok (.bipush 6, 2) := by decide +kernel
theorem d_Bs_hasNumber_8 : decode M_Bs_hasNumber.2.1 8 = .ok (.if_icmp .eq 9, 3) := by decide +kernel
theorem d_Bs_hasNumber_11 : decode M_Bs_hasNumber.2.1 11 = .ok (.iload_n 0, 1) := by decide +kernel
theorem d_Bs_hasNumber_12 : decode M_Bs_hasNumber.2.1 12 = .ok (.bipush 13, 2) := by decide +kernel
theorem d_Bs_hasNumber_14 : decode M_Bs_hasNumber.2.1 14 = .ok (.if_icmp .ne 7, 3) := by decide +kernel
theorem d_Bs_hasNumber_17 : decode M_Bs_hasNumber.2.1 17 = .ok (.iconst 1, 1) := by decide +kernel
theorem d_Bs_hasNumber_18 : decode M_Bs_hasNumber.2.1 18 = .ok (.goto 4, 3) := by decide +kernel
theorem d_Bs_hasNumber_21 : decode M_Bs_hasNumber.2.1 21 = .ok (.iconst 0, 1) := by decide +kernel
theorem d_Bs_hasNumber_22 : decode M_Bs_hasNumber.2.1 22 = .ok (.ireturn, 1) := by decide +kernel
def F_Bs_hasNumber (x0 : Int32) : Int32 :=
  if x0 = 1 then 1 else (if x0 = 6 then 1 else (if x0 = 13 then 1 else 0))
set_option maxRecDepth 20000 in
set_option maxHeartbeats 4000000 in
theorem c_Bs_hasNumber {l : Launch} {Γ : Gm} (x0 : Int32) (δ : Dl) (r : Int32) (h : F_Bs_hasNumber x0  = r) : Ct l M_Bs_hasNumber 0 0 0 NF [.inl x0] Γ δ (some (.inl r), Γ, δ) := by
  unfold F_Bs_hasNumber at h
  refine Ct.of2 (n := 0) (ls := [some (.inl x0)]) rfl (by decide +kernel) (Nat.le_of_ble_eq_true rfl) ?_
  refine x_iload_n (i := 0) d_Bs_hasNumber_0 rfl rfl ?_
  refine x_ic (v := 1) d_Bs_hasNumber_1 (by decide) ?_
  refine x_cmp_eq (tgt := 17) d_Bs_hasNumber_2 (by decide) (fun c2 => ?_) (fun c2 => ?_)
  · have h := if_t c2 h
    refine x_ic (v := 1) d_Bs_hasNumber_17 (by decide) ?_
    refine x_goto (tgt := 22) d_Bs_hasNumber_18 (by decide) ?_
    subst h
    exact x_nret rfl rfl d_Bs_hasNumber_22 (Nat.le_refl 0) (Nat.le_refl 0)
  · have h := if_f c2 h
    refine x_iload_n (i := 0) d_Bs_hasNumber_5 rfl rfl ?_
    refine x_bi (v := 6) d_Bs_hasNumber_6 (by decide) ?_
    refine x_cmp_eq (tgt := 17) d_Bs_hasNumber_8 (by decide) (fun c8 => ?_) (fun c8 => ?_)
    · have h := if_t c8 h
      refine x_ic (v := 1) d_Bs_hasNumber_17 (by decide) ?_
      refine x_goto (tgt := 22) d_Bs_hasNumber_18 (by decide) ?_
      subst h
      exact x_nret rfl rfl d_Bs_hasNumber_22 (Nat.le_refl 0) (Nat.le_refl 0)
    · have h := if_f c8 h
      refine x_iload_n (i := 0) d_Bs_hasNumber_11 rfl rfl ?_
      refine x_bi (v := 13) d_Bs_hasNumber_12 (by decide) ?_
      refine x_cmp_ne (tgt := 21) d_Bs_hasNumber_14 (by decide) (fun c14 => ?_) (fun c14 => ?_)
      · have h := if_f c14 h
        refine x_ic (v := 0) d_Bs_hasNumber_21 (by decide) ?_
        subst h
        exact x_nret rfl rfl d_Bs_hasNumber_22 (Nat.le_refl 0) (Nat.le_refl 0)
      · have h := if_t c14 h
        refine x_ic (v := 1) d_Bs_hasNumber_17 (by decide) ?_
        refine x_goto (tgt := 22) d_Bs_hasNumber_18 (by decide) ?_
        subst h
        exact x_nret rfl rfl d_Bs_hasNumber_22 (Nat.le_refl 0) (Nat.le_refl 0)
theorem b_Bs_hasNumber {x0 : Int32} : F_Bs_hasNumber x0  = 0 ∨ F_Bs_hasNumber x0  = 1 := by
  unfold F_Bs_hasNumber
  try dsimp only [bnd]
  repeat' split
  all_goals first | exact Or.inl rfl | exact Or.inr rfl
-- BlockStage$Program.spellHole(IILBlockStage$Bytes;I)V
theorem d_Pr_spellHole_0 : decode M_Pr_spellHole.2.1 0 = .ok (.aload_n 0, 1) := by decide +kernel
theorem d_Pr_spellHole_1 : decode M_Pr_spellHole.2.1 1 = .ok (.iload_n 1, 1) := by decide +kernel
theorem d_Pr_spellHole_2 : decode M_Pr_spellHole.2.1 2 = .ok (.iload_n 2, 1) := by decide +kernel
theorem d_Pr_spellHole_3 : decode M_Pr_spellHole.2.1 3 = .ok (.invokevirtual 110, 3) := by decide +kernel
theorem d_Pr_spellHole_6 : decode M_Pr_spellHole.2.1 6 = .ok (.ifCond .ne 4, 3) := by decide +kernel
theorem d_Pr_spellHole_9 : decode M_Pr_spellHole.2.1 9 = .ok (.return_, 1) := by decide +kernel
theorem d_Pr_spellHole_10 : decode M_Pr_spellHole.2.1 10 = .ok (.aload_n 3, 1) := by decide +kernel
theorem d_Pr_spellHole_11 : decode M_Pr_spellHole.2.1 11 = .ok (.bipush 40, 2) := by decide +kernel
theorem d_Pr_spellHole_13 : decode M_Pr_spellHole.2.1 13 = .ok (.invokevirtual 95, 3) := by decide +kernel
theorem d_Pr_spellHole_16 : decode M_Pr_spellHole.2.1 16 = .ok (.aload_n 0, 1) := by decide +kernel
theorem d_Pr_spellHole_17 : decode M_Pr_spellHole.2.1 17 = .ok (.aload_n 0, 1) := by decide +kernel
theorem d_Pr_spellHole_18 : decode M_Pr_spellHole.2.1 18 = .ok (.iload_n 1, 1) := by decide +kernel
theorem d_Pr_spellHole_19 : decode M_Pr_spellHole.2.1 19 = .ok (.iload_n 2, 1) := by decide +kernel
theorem d_Pr_spellHole_20 : decode M_Pr_spellHole.2.1 20 = .ok (.invokevirtual 61, 3) := by decide +kernel
theorem d_Pr_spellHole_23 : decode M_Pr_spellHole.2.1 23 = .ok (.aload_n 3, 1) := by decide +kernel
theorem d_Pr_spellHole_24 : decode M_Pr_spellHole.2.1 24 = .ok (.iload 4, 2) := by decide +kernel
theorem d_Pr_spellHole_26 : decode M_Pr_spellHole.2.1 26 = .ok (.iconst 1, 1) := by decide +kernel
theorem d_Pr_spellHole_27 : decode M_Pr_spellHole.2.1 27 = .ok (.iadd, 1) := by decide +kernel
theorem d_Pr_spellHole_28 : decode M_Pr_spellHole.2.1 28 = .ok (.invokevirtual 113, 3) := by decide +kernel
theorem d_Pr_spellHole_31 : decode M_Pr_spellHole.2.1 31 = .ok (.aload_n 3, 1) := by decide +kernel
theorem d_Pr_spellHole_32 : decode M_Pr_spellHole.2.1 32 = .ok (.bipush 41, 2) := by decide +kernel
theorem d_Pr_spellHole_34 : decode M_Pr_spellHole.2.1 34 = .ok (.invokevirtual 95, 3) := by decide +kernel
theorem d_Pr_spellHole_37 : decode M_Pr_spellHole.2.1 37 = .ok (.return_, 1) := by decide +kernel
theorem mi_Pr_hasHole : MI M_Pr_hasHole 2 := ⟨(lwg_at 2 (by decide +kernel) rfl), (lwg_at 404 (by decide +kernel) rfl), ⟨by decide +kernel, by decide +kernel⟩, by decide +kernel, by decide⟩
theorem cs_Pr_110 : CV RX3 110 RX3 M_Pr_hasHole 2 := ⟨(lwg_at 908 (by decide +kernel) rfl), (lwg_at 402 (by decide +kernel) rfl), (lwg_at 403 (by decide +kernel) rfl), mi_Pr_hasHole⟩
theorem cs_Pr_95 : CV RX3 95 RX0 M_By_add 1 := ⟨(lwg_at 894 (by decide +kernel) rfl), (lwg_at 701 (by decide +kernel) rfl), (lwg_at 702 (by decide +kernel) rfl), mi_By_add⟩
theorem mi_Pr_spell : MI M_Pr_spell 3 := ⟨(lwg_at 2 (by decide +kernel) rfl), (lwg_at 892 (by decide +kernel) rfl), ⟨by decide +kernel, by decide +kernel⟩, by decide +kernel, by decide⟩
theorem cs_Pr_113 : CV RX3 113 RX3 M_Pr_spell 3 := ⟨(lwg_at 909 (by decide +kernel) rfl), (lwg_at 891 (by decide +kernel) rfl), (lwg_priv 24 (y := M_Pr_spell.1) (n := 5) (by decide +kernel)), mi_Pr_spell⟩
def F_Pr_spellHole (rc : Nat → Int32 → Nat → Int32 → Dl → Option (Dl)) (a : Nat) (x1 : Int32) (x2 : Int32) (x3 : Nat) (x4 : Int32) (δ : Dl) : Option (Dl) :=
  (F_Pr_hasHole a x1 x2 δ).bind fun v3 => if v3 = 0 then (some δ) else ((F_By_add x3 40 δ).bind fun δ13 => (F_Pr_inHole a x1 x2 δ13).bind fun v20 => (rc a v20 x3 (x4 + 1) δ13).bind fun δ28 => (F_By_add x3 41 δ28).bind fun δ34 => some δ34)
set_option maxRecDepth 20000 in
set_option maxHeartbeats 4000000 in
theorem c_Pr_spellHole {l : Launch} {Γ : Gm} (hG : GC Γ) (rc : Nat → Int32 → Nat → Int32 → Dl → Option (Dl)) (dd : Nat) (hrc : ∀ (b : Nat) (z0 : Int32) (z1 : Nat) (z2 : Int32) (δ : Dl) (w : Dl), Oc b 3 → Oc z1 0 → rc b z0 z1 z2 δ = some w → Ct l M_Pr_spell dd 0 0 NF [.inr (0, b), .inl z0, .inr (0, z1), .inl z2] Γ δ (none, Γ, w)) (a : Nat) (x1 : Int32) (x2 : Int32) (x3 : Nat) (x4 : Int32) (ha : Oc a 3) (hx3 : Oc x3 0) (δ : Dl) (r : Dl) (h : F_Pr_spellHole rc a x1 x2 x3 x4  δ = some r) : Ct l M_Pr_spellHole (dd + 1) 0 0 NF [.inr (0, a), .inl x1, .inl x2, .inr (0, x3), .inl x4] Γ δ (none, Γ, r) := by
  unfold F_Pr_spellHole at h
  have oa := hG.ob ha
  refine Ct.of2 (n := 0) (ls := [some (.inr (0, a)), some (.inl x1), some (.inl x2), some (.inr (0, x3)), some (.inl x4)]) rfl (by decide +kernel) (Nat.le_of_ble_eq_true rfl) ?_
  refine x_aload_n (i := 0) d_Pr_spellHole_0 rfl rfl ?_
  refine x_iload_n (i := 1) d_Pr_spellHole_1 rfl rfl ?_
  refine x_iload_n (i := 2) d_Pr_spellHole_2 rfl rfl ?_
  obtain ⟨v3, ev3, h⟩ := bd_e h
  refine y_V2 cs_Pr_110 rfl oa (by first | decide | omega) (Nat.le_of_ble_eq_true rfl) d_Pr_spellHole_3 (c_Pr_hasHole hG a x1 x2 ha δ v3 ev3) (Nat.le_refl 0) (Nat.le_refl 0) ?_
  refine x_if_ne (tgt := 10) d_Pr_spellHole_6 (by decide) (fun c6 => ?_) (fun c6 => ?_)
  · have h := if_f c6 h
    refine x_aload_n (i := 3) d_Pr_spellHole_10 rfl rfl ?_
    refine x_bi (v := 40) d_Pr_spellHole_11 (by decide) ?_
    obtain ⟨δ13, eδ13, h⟩ := bd_e h
    refine y_V1v cs_Pr_95 rfl (hG.ob hx3) (by first | decide | omega) (Nat.le_of_ble_eq_true rfl) d_Pr_spellHole_13 (c_By_add hG x3 40 hx3 δ δ13 eδ13) (Nat.le_refl 0) (Nat.le_refl 0) ?_
    refine x_aload_n (i := 0) d_Pr_spellHole_16 rfl rfl ?_
    refine x_aload_n (i := 0) d_Pr_spellHole_17 rfl rfl ?_
    refine x_iload_n (i := 1) d_Pr_spellHole_18 rfl rfl ?_
    refine x_iload_n (i := 2) d_Pr_spellHole_19 rfl rfl ?_
    obtain ⟨v20, ev20, h⟩ := bd_e h
    refine y_V2 cs_Pr_61 rfl oa (by first | decide | omega) (Nat.le_of_ble_eq_true rfl) d_Pr_spellHole_20 (c_Pr_inHole hG a x1 x2 ha δ13 v20 ev20) (Nat.le_refl 0) (Nat.le_refl 0) ?_
    refine x_aload_n (i := 3) d_Pr_spellHole_23 rfl rfl ?_
    refine x_iload (i := 4) d_Pr_spellHole_24 rfl ?_
    refine x_ic (v := 1) d_Pr_spellHole_26 (by decide) ?_
    refine x_iadd d_Pr_spellHole_27 ?_
    obtain ⟨δ28, eδ28, h⟩ := bd_e h
    refine y_V3v cs_Pr_113 rfl oa (by first | decide | omega) (Nat.le_of_ble_eq_true rfl) d_Pr_spellHole_28 (hrc a v20 x3 (x4 + 1) δ13 δ28 ha hx3 eδ28) (Nat.le_refl 0) (Nat.le_refl 0) ?_
    refine x_aload_n (i := 3) d_Pr_spellHole_31 rfl rfl ?_
    refine x_bi (v := 41) d_Pr_spellHole_32 (by decide) ?_
    obtain ⟨δ34, eδ34, h⟩ := bd_e h
    refine y_V1v cs_Pr_95 rfl (hG.ob hx3) (by first | decide | omega) (Nat.le_of_ble_eq_true rfl) d_Pr_spellHole_34 (c_By_add hG x3 41 hx3 δ28 δ34 eδ34) (Nat.le_refl 0) (Nat.le_refl 0) ?_
    replace h := Option.some.inj h; subst h
    exact x_vret rfl d_Pr_spellHole_37 (Nat.le_refl 0) (Nat.le_refl 0)
  · have h := if_t c6 h
    replace h := Option.some.inj h; subst h
    exact x_vret rfl d_Pr_spellHole_9 (Nat.le_refl 0) (Nat.le_refl 0)
-- BlockStage$Program.spell(ILBlockStage$Bytes;I)V
theorem d_Pr_spell_0 : decode M_Pr_spell.2.1 0 = .ok (.iload_n 3, 1) := by decide +kernel
theorem d_Pr_spell_1 : decode M_Pr_spell.2.1 1 = .ok (.bipush 30, 2) := by decide +kernel
theorem d_Pr_spell_3 : decode M_Pr_spell.2.1 3 = .ok (.if_icmp .le 4, 3) := by decide +kernel
theorem d_Pr_spell_6 : decode M_Pr_spell.2.1 6 = .ok (.return_, 1) := by decide +kernel
theorem d_Pr_spell_7 : decode M_Pr_spell.2.1 7 = .ok (.iload_n 1, 1) := by decide +kernel
theorem d_Pr_spell_8 : decode M_Pr_spell.2.1 8 = .ok (.istore 4, 2) := by decide +kernel
theorem d_Pr_spell_10 : decode M_Pr_spell.2.1 10 = .ok (.iconst 0, 1) := by decide +kernel
theorem d_Pr_spell_11 : decode M_Pr_spell.2.1 11 = .ok (.istore 5, 2) := by decide +kernel
theorem d_Pr_spell_13 : decode M_Pr_spell.2.1 13 = .ok (.iload 5, 2) := by decide +kernel
theorem d_Pr_spell_15 : decode M_Pr_spell.2.1 15 = .ok (.bipush 30, 2) := by decide +kernel
theorem d_Pr_spell_17 : decode M_Pr_spell.2.1 17 = .ok (.if_icmp .ge 98, 3) := by decide +kernel
theorem d_Pr_spell_20 : decode M_Pr_spell.2.1 20 = .ok (.aload_n 0, 1) := by decide +kernel
theorem d_Pr_spell_21 : decode M_Pr_spell.2.1 21 = .ok (.iload 4, 2) := by decide +kernel
theorem d_Pr_spell_23 : decode M_Pr_spell.2.1 23 = .ok (.invokevirtual 92, 3) := by decide +kernel
theorem d_Pr_spell_26 : decode M_Pr_spell.2.1 26 = .ok (.ifCond .eq 89, 3) := by decide +kernel
theorem d_Pr_spell_29 : decode M_Pr_spell.2.1 29 = .ok (.aload_n 0, 1) := by decide +kernel
theorem d_Pr_spell_30 : decode M_Pr_spell.2.1 30 = .ok (.iload 4, 2) := by decide +kernel
theorem d_Pr_spell_32 : decode M_Pr_spell.2.1 32 = .ok (.invokevirtual 50, 3) := by decide +kernel
theorem d_Pr_spell_35 : decode M_Pr_spell.2.1 35 = .ok (.istore 6, 2) := by decide +kernel
theorem d_Pr_spell_37 : decode M_Pr_spell.2.1 37 = .ok (.aload_n 2, 1) := by decide +kernel
theorem d_Pr_spell_38 : decode M_Pr_spell.2.1 38 = .ok (.bipush 97, 2) := by decide +kernel
theorem d_Pr_spell_40 : decode M_Pr_spell.2.1 40 = .ok (.iload 6, 2) := by decide +kernel
theorem d_Pr_spell_42 : decode M_Pr_spell.2.1 42 = .ok (.iadd, 1) := by decide +kernel
theorem d_Pr_spell_43 : decode M_Pr_spell.2.1 43 = .ok (.invokevirtual 95, 3) := by decide +kernel
theorem d_Pr_spell_46 : decode M_Pr_spell.2.1 46 = .ok (.iload 6, 2) := by decide +kernel
theorem d_Pr_spell_48 : decode M_Pr_spell.2.1 48 = .ok (.invokestatic 100, 3) := by decide +kernel
theorem d_Pr_spell_51 : decode M_Pr_spell.2.1 51 = .ok (.ifCond .eq 13, 3) := by decide +kernel
theorem d_Pr_spell_54 : decode M_Pr_spell.2.1 54 = .ok (.aload_n 2, 1) := by decide +kernel
theorem d_Pr_spell_55 : decode M_Pr_spell.2.1 55 = .ok (.aload_n 0, 1) := by decide +kernel
theorem d_Pr_spell_56 : decode M_Pr_spell.2.1 56 = .ok (.iload 4, 2) := by decide +kernel
theorem d_Pr_spell_58 : decode M_Pr_spell.2.1 58 = .ok (.invokevirtual 77, 3) := by decide +kernel
theorem d_Pr_spell_61 : decode M_Pr_spell.2.1 61 = .ok (.invokevirtual 103, 3) := by decide +kernel
theorem d_Pr_spell_64 : decode M_Pr_spell.2.1 64 = .ok (.aload_n 0, 1) := by decide +kernel
theorem d_Pr_spell_65 : decode M_Pr_spell.2.1 65 = .ok (.iload 4, 2) := by decide +kernel
theorem d_Pr_spell_67 : decode M_Pr_spell.2.1 67 = .ok (.iconst 3, 1) := by decide +kernel
theorem d_Pr_spell_68 : decode M_Pr_spell.2.1 68 = .ok (.aload_n 2, 1) := by decide +kernel
theorem d_Pr_spell_69 : decode M_Pr_spell.2.1 69 = .ok (.iload_n 3, 1) := by decide +kernel
theorem d_Pr_spell_70 : decode M_Pr_spell.2.1 70 = .ok (.invokevirtual 106, 3) := by decide +kernel
theorem d_Pr_spell_73 : decode M_Pr_spell.2.1 73 = .ok (.aload_n 0, 1) := by decide +kernel
theorem d_Pr_spell_74 : decode M_Pr_spell.2.1 74 = .ok (.iload 4, 2) := by decide +kernel
theorem d_Pr_spell_76 : decode M_Pr_spell.2.1 76 = .ok (.iconst 4, 1) := by decide +kernel
theorem d_Pr_spell_77 : decode M_Pr_spell.2.1 77 = .ok (.aload_n 2, 1) := by decide +kernel
theorem d_Pr_spell_78 : decode M_Pr_spell.2.1 78 = .ok (.iload_n 3, 1) := by decide +kernel
theorem d_Pr_spell_79 : decode M_Pr_spell.2.1 79 = .ok (.invokevirtual 106, 3) := by decide +kernel
theorem d_Pr_spell_82 : decode M_Pr_spell.2.1 82 = .ok (.aload_n 0, 1) := by decide +kernel
theorem d_Pr_spell_83 : decode M_Pr_spell.2.1 83 = .ok (.iload 4, 2) := by decide +kernel
theorem d_Pr_spell_85 : decode M_Pr_spell.2.1 85 = .ok (.iconst 1, 1) := by decide +kernel
theorem d_Pr_spell_86 : decode M_Pr_spell.2.1 86 = .ok (.aload_n 2, 1) := by decide +kernel
theorem d_Pr_spell_87 : decode M_Pr_spell.2.1 87 = .ok (.iload_n 3, 1) := by decide +kernel
theorem d_Pr_spell_88 : decode M_Pr_spell.2.1 88 = .ok (.invokevirtual 106, 3) := by decide +kernel
theorem d_Pr_spell_91 : decode M_Pr_spell.2.1 91 = .ok (.aload_n 0, 1) := by decide +kernel
theorem d_Pr_spell_92 : decode M_Pr_spell.2.1 92 = .ok (.iload 4, 2) := by decide +kernel
theorem d_Pr_spell_94 : decode M_Pr_spell.2.1 94 = .ok (.iconst 2, 1) := by decide +kernel
theorem d_Pr_spell_95 : decode M_Pr_spell.2.1 95 = .ok (.aload_n 2, 1) := by decide +kernel
theorem d_Pr_spell_96 : decode M_Pr_spell.2.1 96 = .ok (.iload_n 3, 1) := by decide +kernel
theorem d_Pr_spell_97 : decode M_Pr_spell.2.1 97 = .ok (.invokevirtual 106, 3) := by decide +kernel
theorem d_Pr_spell_100 : decode M_Pr_spell.2.1 100 = .ok (.aload_n 0, 1) := by decide +kernel
theorem d_Pr_spell_101 : decode M_Pr_spell.2.1 101 = .ok (.iload 4, 2) := by decide +kernel
theorem d_Pr_spell_103 : decode M_Pr_spell.2.1 103 = .ok (.iconst 0, 1) := by decide +kernel
theorem d_Pr_spell_104 : decode M_Pr_spell.2.1 104 = .ok (.invokevirtual 61, 3) := by decide +kernel
theorem d_Pr_spell_107 : decode M_Pr_spell.2.1 107 = .ok (.istore 4, 2) := by decide +kernel
theorem d_Pr_spell_109 : decode M_Pr_spell.2.1 109 = .ok (.iinc 5 1, 3) := by decide +kernel
theorem d_Pr_spell_112 : decode M_Pr_spell.2.1 112 = .ok (.goto (-99), 3) := by decide +kernel
theorem d_Pr_spell_115 : decode M_Pr_spell.2.1 115 = .ok (.return_, 1) := by decide +kernel
theorem mi_Pr_isBlock : MI M_Pr_isBlock 1 := ⟨(lwg_at 2 (by decide +kernel) rfl), (lwg_at 400 (by decide +kernel) rfl), ⟨by decide +kernel, by decide +kernel⟩, by decide +kernel, by decide⟩
theorem cs_Pr_92 : CV RX3 92 RX3 M_Pr_isBlock 1 := ⟨(lwg_at 893 (by decide +kernel) rfl), (lwg_at 398 (by decide +kernel) rfl), (lwg_at 399 (by decide +kernel) rfl), mi_Pr_isBlock⟩
theorem mi_Bs_hasNumber : MI M_Bs_hasNumber 1 := ⟨(lwg_at 1 (by decide +kernel) rfl), (lwg_at 453 (by decide +kernel) rfl), ⟨by decide +kernel, by decide +kernel⟩, by decide +kernel, by decide⟩
theorem cs_Pr_100 : CSN RX3 100 RX11 M_Bs_hasNumber 1 := ⟨(List.mem_of_getElem? (i := 895) (by decide +kernel)), (lwg_at 452 (by decide +kernel) rfl), mi_Bs_hasNumber⟩
theorem mi_By_addNumber : MI M_By_addNumber 1 := ⟨(lwg_at 6 (by decide +kernel) rfl), (lwg_at 899 (by decide +kernel) rfl), ⟨by decide +kernel, by decide +kernel⟩, by decide +kernel, by decide⟩
theorem cs_Pr_103 : CV RX3 103 RX0 M_By_addNumber 1 := ⟨(lwg_at 896 (by decide +kernel) rfl), (lwg_at 897 (by decide +kernel) rfl), (lwg_at 898 (by decide +kernel) rfl), mi_By_addNumber⟩
theorem mi_Pr_spellHole : MI M_Pr_spellHole 4 := ⟨(lwg_at 2 (by decide +kernel) rfl), (lwg_at 907 (by decide +kernel) rfl), ⟨by decide +kernel, by decide +kernel⟩, by decide +kernel, by decide⟩
theorem cs_Pr_106 : CV RX3 106 RX3 M_Pr_spellHole 4 := ⟨(lwg_at 904 (by decide +kernel) rfl), (lwg_at 906 (by decide +kernel) rfl), (lwg_priv 25 (y := M_Pr_spellHole.1) (n := 5) (by decide +kernel)), mi_Pr_spellHole⟩
def F_Pr_spell_64 (rc : Nat → Int32 → Nat → Int32 → Dl → Option (Dl)) (a : Nat) (x1 : Int32) (x2 : Nat) (x3 : Int32) (k13 : Int32 → Int32 → Dl → Option (Dl)) (x4 : Int32) (x5 : Int32) (δ : Dl) : Option (Dl) :=
  (F_Pr_spellHole rc a x4 3 x2 x3 δ).bind fun δ70 => (F_Pr_spellHole rc a x4 4 x2 x3 δ70).bind fun δ79 => (F_Pr_spellHole rc a x4 1 x2 x3 δ79).bind fun δ88 => (F_Pr_spellHole rc a x4 2 x2 x3 δ88).bind fun δ97 => (F_Pr_inHole a x4 0 δ97).bind fun v104 => k13 v104 ((x5 + 1)) δ97
set_option maxRecDepth 20000 in
set_option maxHeartbeats 4000000 in
theorem j_Pr_spell_64 {l : Launch} {Γ : Gm} (hG : GC Γ) (rc : Nat → Int32 → Nat → Int32 → Dl → Option (Dl)) (dd : Nat) (hrc : ∀ (b : Nat) (z0 : Int32) (z1 : Nat) (z2 : Int32) (δ : Dl) (w : Dl), Oc b 3 → Oc z1 0 → rc b z0 z1 z2 δ = some w → Ct l M_Pr_spell dd 0 0 NF [.inr (0, b), .inl z0, .inr (0, z1), .inl z2] Γ δ (none, Γ, w)) (a : Nat) (x1 : Int32) (x2 : Nat) (x3 : Int32) (ha : Oc a 3) (hx2 : Oc x2 0) (k13 : Int32 → Int32 → Dl → Option (Dl)) (x4 : Int32) (x5 : Int32) (δ : Dl) (r : Dl) (hk13 : ∀ (x4 : Int32) (x5 : Int32) (δ : Dl),  k13 x4 x5 δ = some r → Xe l M_Pr_spell (dd + 2) 0 0 NF 13 [some (.inr (0, a)), none, some (.inr (0, x2)), some (.inl x3), some (.inl x4), some (.inl x5), none] [] 0 0 Γ δ (none, Γ, r)) (h : F_Pr_spell_64 rc a x1 x2 x3 k13 x4 x5 δ = some r) : Xe l M_Pr_spell (dd + 2) 0 0 NF 64 [some (.inr (0, a)), none, some (.inr (0, x2)), some (.inl x3), some (.inl x4), some (.inl x5), none] [] 0 0 Γ δ (none, Γ, r) := by
  unfold F_Pr_spell_64 at h
  have oa := hG.ob ha
  refine x_aload_n (i := 0) d_Pr_spell_64 rfl rfl ?_
  refine x_iload (i := 4) d_Pr_spell_65 rfl ?_
  refine x_ic (v := 3) d_Pr_spell_67 (by decide) ?_
  refine x_aload_n (i := 2) d_Pr_spell_68 rfl rfl ?_
  refine x_iload_n (i := 3) d_Pr_spell_69 rfl rfl ?_
  obtain ⟨δ70, eδ70, h⟩ := bd_e h
  refine y_V4v cs_Pr_106 rfl oa (by first | decide | omega) (Nat.le_of_ble_eq_true rfl) d_Pr_spell_70 (c_Pr_spellHole hG rc dd hrc a x4 3 x2 x3 ha hx2 δ δ70 eδ70) (Nat.le_refl 0) (Nat.le_refl 0) ?_
  refine x_aload_n (i := 0) d_Pr_spell_73 rfl rfl ?_
  refine x_iload (i := 4) d_Pr_spell_74 rfl ?_
  refine x_ic (v := 4) d_Pr_spell_76 (by decide) ?_
  refine x_aload_n (i := 2) d_Pr_spell_77 rfl rfl ?_
  refine x_iload_n (i := 3) d_Pr_spell_78 rfl rfl ?_
  obtain ⟨δ79, eδ79, h⟩ := bd_e h
  refine y_V4v cs_Pr_106 rfl oa (by first | decide | omega) (Nat.le_of_ble_eq_true rfl) d_Pr_spell_79 (c_Pr_spellHole hG rc dd hrc a x4 4 x2 x3 ha hx2 δ70 δ79 eδ79) (Nat.le_refl 0) (Nat.le_refl 0) ?_
  refine x_aload_n (i := 0) d_Pr_spell_82 rfl rfl ?_
  refine x_iload (i := 4) d_Pr_spell_83 rfl ?_
  refine x_ic (v := 1) d_Pr_spell_85 (by decide) ?_
  refine x_aload_n (i := 2) d_Pr_spell_86 rfl rfl ?_
  refine x_iload_n (i := 3) d_Pr_spell_87 rfl rfl ?_
  obtain ⟨δ88, eδ88, h⟩ := bd_e h
  refine y_V4v cs_Pr_106 rfl oa (by first | decide | omega) (Nat.le_of_ble_eq_true rfl) d_Pr_spell_88 (c_Pr_spellHole hG rc dd hrc a x4 1 x2 x3 ha hx2 δ79 δ88 eδ88) (Nat.le_refl 0) (Nat.le_refl 0) ?_
  refine x_aload_n (i := 0) d_Pr_spell_91 rfl rfl ?_
  refine x_iload (i := 4) d_Pr_spell_92 rfl ?_
  refine x_ic (v := 2) d_Pr_spell_94 (by decide) ?_
  refine x_aload_n (i := 2) d_Pr_spell_95 rfl rfl ?_
  refine x_iload_n (i := 3) d_Pr_spell_96 rfl rfl ?_
  obtain ⟨δ97, eδ97, h⟩ := bd_e h
  refine y_V4v cs_Pr_106 rfl oa (by first | decide | omega) (Nat.le_of_ble_eq_true rfl) d_Pr_spell_97 (c_Pr_spellHole hG rc dd hrc a x4 2 x2 x3 ha hx2 δ88 δ97 eδ97) (Nat.le_refl 0) (Nat.le_refl 0) ?_
  refine x_aload_n (i := 0) d_Pr_spell_100 rfl rfl ?_
  refine x_iload (i := 4) d_Pr_spell_101 rfl ?_
  refine x_ic (v := 0) d_Pr_spell_103 (by decide) ?_
  obtain ⟨v104, ev104, h⟩ := bd_e h
  refine y_V2 cs_Pr_61 rfl oa (by first | decide | omega) (Nat.le_of_ble_eq_true rfl) d_Pr_spell_104 (c_Pr_inHole hG a x4 0 ha δ97 v104 ev104) (Nat.le_refl 0) (Nat.le_refl 0) ?_
  refine x_stw (i := 4) (ls' := [some (.inr (0, a)), none, some (.inr (0, x2)), some (.inl x3), some (.inl v104), some (.inl x5), none]) d_Pr_spell_107 (by decide) rfl ?_
  refine x_inc (i := 5) (c0 := 1) (ls' := [some (.inr (0, a)), none, some (.inr (0, x2)), some (.inl x3), some (.inl v104), some (.inl (x5 + 1)), none]) d_Pr_spell_109 (by decide) rfl (by decide) rfl ?_
  refine x_goto (tgt := 13) d_Pr_spell_112 (by decide) ?_
  exact hk13 v104 ((x5 + 1)) δ97 h
def F_Pr_spell_13_b (rc : Nat → Int32 → Nat → Int32 → Dl → Option (Dl)) (a : Nat) (x1 : Int32) (x2 : Nat) (x3 : Int32) (k13 : Int32 → Int32 → Dl → Option (Dl)) (x4 : Int32) (x5 : Int32) (δ : Dl) : Option (Dl) :=
  if 30 ≤ x5 then (some δ) else (bnd (F_Pr_isBlock a x4 δ) fun v23 => if v23 = 0 then (some δ) else ((F_Pr_kindOf a x4 δ).bind fun v32 => (F_By_add x2 (97 + v32) δ).bind fun δ43 => bnd (F_Bs_hasNumber v32) fun v48 => if v48 = 0 then (F_Pr_spell_64 rc a x1 x2 x3 k13 x4 x5 δ43) else ((F_Pr_numberOf a x4 δ43).bind fun v58 => (F_By_addNumber x2 v58 δ43).bind fun δ61 => F_Pr_spell_64 rc a x1 x2 x3 k13 x4 x5 δ61)))
set_option maxRecDepth 20000 in
set_option maxHeartbeats 4000000 in
theorem j_Pr_spell_13_b {l : Launch} {Γ : Gm} (hG : GC Γ) (rc : Nat → Int32 → Nat → Int32 → Dl → Option (Dl)) (dd : Nat) (hrc : ∀ (b : Nat) (z0 : Int32) (z1 : Nat) (z2 : Int32) (δ : Dl) (w : Dl), Oc b 3 → Oc z1 0 → rc b z0 z1 z2 δ = some w → Ct l M_Pr_spell dd 0 0 NF [.inr (0, b), .inl z0, .inr (0, z1), .inl z2] Γ δ (none, Γ, w)) (a : Nat) (x1 : Int32) (x2 : Nat) (x3 : Int32) (ha : Oc a 3) (hx2 : Oc x2 0) (k13 : Int32 → Int32 → Dl → Option (Dl)) (x4 : Int32) (x5 : Int32) (δ : Dl) (r : Dl) (hk13 : ∀ (x4 : Int32) (x5 : Int32) (δ : Dl),  k13 x4 x5 δ = some r → Xe l M_Pr_spell (dd + 2) 0 0 NF 13 [some (.inr (0, a)), none, some (.inr (0, x2)), some (.inl x3), some (.inl x4), some (.inl x5), none] [] 0 0 Γ δ (none, Γ, r)) (h : F_Pr_spell_13_b rc a x1 x2 x3 k13 x4 x5 δ = some r) : Xe l M_Pr_spell (dd + 2) 0 0 NF 13 [some (.inr (0, a)), none, some (.inr (0, x2)), some (.inl x3), some (.inl x4), some (.inl x5), none] [] 0 0 Γ δ (none, Γ, r) := by
  unfold F_Pr_spell_13_b at h
  have oa := hG.ob ha
  refine x_iload (i := 5) d_Pr_spell_13 rfl ?_
  refine x_bi (v := 30) d_Pr_spell_15 (by decide) ?_
  refine x_cmp_ge (tgt := 115) d_Pr_spell_17 (by decide) (fun c17 => ?_) (fun c17 => ?_)
  · have h := if_t c17 h
    replace h := Option.some.inj h; subst h
    exact x_vret rfl d_Pr_spell_115 (Nat.le_refl 0) (Nat.le_refl 0)
  · have h := if_f c17 h
    refine x_aload_n (i := 0) d_Pr_spell_20 rfl rfl ?_
    refine x_iload (i := 4) d_Pr_spell_21 rfl ?_
    obtain ⟨v23, ev23, h⟩ := bn_e h
    refine y_V1 cs_Pr_92 rfl oa (by first | decide | omega) (Nat.le_of_ble_eq_true rfl) d_Pr_spell_23 (c_Pr_isBlock hG a x4 ha δ v23 ev23) (Nat.le_refl 0) (Nat.le_refl 0) ?_
    refine x_if_eq (tgt := 115) d_Pr_spell_26 (by decide) (fun c26 => ?_) (fun c26 => ?_)
    · have h := if_t c26 h
      replace h := Option.some.inj h; subst h
      exact x_vret rfl d_Pr_spell_115 (Nat.le_refl 0) (Nat.le_refl 0)
    · have h := if_f c26 h
      refine x_aload_n (i := 0) d_Pr_spell_29 rfl rfl ?_
      refine x_iload (i := 4) d_Pr_spell_30 rfl ?_
      obtain ⟨v32, ev32, h⟩ := bd_e h
      refine y_V1 cs_Pr_50 rfl oa (by first | decide | omega) (Nat.le_of_ble_eq_true rfl) d_Pr_spell_32 (c_Pr_kindOf hG a x4 ha δ v32 ev32) (Nat.le_refl 0) (Nat.le_refl 0) ?_
      refine x_stw (i := 6) (ls' := [some (.inr (0, a)), none, some (.inr (0, x2)), some (.inl x3), some (.inl x4), some (.inl x5), some (.inl v32)]) d_Pr_spell_35 (by decide) rfl ?_
      refine x_aload_n (i := 2) d_Pr_spell_37 rfl rfl ?_
      refine x_bi (v := 97) d_Pr_spell_38 (by decide) ?_
      refine x_iload (i := 6) d_Pr_spell_40 rfl ?_
      refine x_iadd d_Pr_spell_42 ?_
      obtain ⟨δ43, eδ43, h⟩ := bd_e h
      refine y_V1v cs_Pr_95 rfl (hG.ob hx2) (by first | decide | omega) (Nat.le_of_ble_eq_true rfl) d_Pr_spell_43 (c_By_add hG x2 (97 + v32) hx2 δ δ43 eδ43) (Nat.le_refl 0) (Nat.le_refl 0) ?_
      refine x_iload (i := 6) d_Pr_spell_46 rfl ?_
      obtain ⟨v48, ev48, h⟩ := bn_e h
      refine y_SN1 cs_Pr_100 (by first | decide | omega) (Nat.le_of_ble_eq_true rfl) d_Pr_spell_48 (c_Bs_hasNumber v32  δ43 v48 ev48) (Nat.le_refl 0) (Nat.le_refl 0) ?_
      refine x_if_eq (tgt := 64) d_Pr_spell_51 (by decide) (fun c51 => ?_) (fun c51 => ?_)
      · have h := if_t c51 h
        refine x_wk (ls' := [some (.inr (0, a)), none, some (.inr (0, x2)), some (.inl x3), some (.inl x4), some (.inl x5), none]) ⟨Or.inr rfl, Or.inl rfl, Or.inr rfl, Or.inr rfl, Or.inr rfl, Or.inr rfl, Or.inl rfl, trivial⟩ ?_
        exact j_Pr_spell_64 hG rc dd hrc a x1 x2 x3 ha hx2 k13 x4 x5 δ43 r hk13 h
      · have h := if_f c51 h
        refine x_aload_n (i := 2) d_Pr_spell_54 rfl rfl ?_
        refine x_aload_n (i := 0) d_Pr_spell_55 rfl rfl ?_
        refine x_iload (i := 4) d_Pr_spell_56 rfl ?_
        obtain ⟨v58, ev58, h⟩ := bd_e h
        refine y_V1 cs_Pr_77 rfl oa (by first | decide | omega) (Nat.le_of_ble_eq_true rfl) d_Pr_spell_58 (c_Pr_numberOf hG a x4 ha δ43 v58 ev58) (Nat.le_refl 0) (Nat.le_refl 0) ?_
        obtain ⟨δ61, eδ61, h⟩ := bd_e h
        refine y_V1v cs_Pr_103 rfl (hG.ob hx2) (by first | decide | omega) (Nat.le_of_ble_eq_true rfl) d_Pr_spell_61 (c_By_addNumber hG x2 v58 hx2 δ43 δ61 eδ61) (Nat.le_refl 0) (Nat.le_refl 0) ?_
        refine x_wk (ls' := [some (.inr (0, a)), none, some (.inr (0, x2)), some (.inl x3), some (.inl x4), some (.inl x5), none]) ⟨Or.inr rfl, Or.inl rfl, Or.inr rfl, Or.inr rfl, Or.inr rfl, Or.inr rfl, Or.inl rfl, trivial⟩ ?_
        exact j_Pr_spell_64 hG rc dd hrc a x1 x2 x3 ha hx2 k13 x4 x5 δ61 r hk13 h
def F_Pr_spell_13 (rc : Nat → Int32 → Nat → Int32 → Dl → Option (Dl)) (a : Nat) (x1 : Int32) (x2 : Nat) (x3 : Int32) : Nat → Int32 → Int32 → Dl → Option (Dl)
  | 0, _, _, _ => none
  | n + 1, x4, x5, δ => F_Pr_spell_13_b rc a x1 x2 x3 (F_Pr_spell_13 rc a x1 x2 x3 n) x4 x5 δ
theorem j_Pr_spell_13 {l : Launch} {Γ : Gm} (hG : GC Γ) (rc : Nat → Int32 → Nat → Int32 → Dl → Option (Dl)) (dd : Nat) (hrc : ∀ (b : Nat) (z0 : Int32) (z1 : Nat) (z2 : Int32) (δ : Dl) (w : Dl), Oc b 3 → Oc z1 0 → rc b z0 z1 z2 δ = some w → Ct l M_Pr_spell dd 0 0 NF [.inr (0, b), .inl z0, .inr (0, z1), .inl z2] Γ δ (none, Γ, w)) (a : Nat) (x1 : Int32) (x2 : Nat) (x3 : Int32) (ha : Oc a 3) (hx2 : Oc x2 0) (n : Nat) (x4 : Int32) (x5 : Int32) (δ : Dl) (r : Dl) (h : F_Pr_spell_13 rc a x1 x2 x3 n x4 x5 δ = some r) : Xe l M_Pr_spell (dd + 2) 0 0 NF 13 [some (.inr (0, a)), none, some (.inr (0, x2)), some (.inl x3), some (.inl x4), some (.inl x5), none] [] 0 0 Γ δ (none, Γ, r) := by
  induction n generalizing x4 x5 δ with
  | zero => cases h
  | succ n ih => exact j_Pr_spell_13_b hG rc dd hrc a x1 x2 x3 ha hx2 (F_Pr_spell_13 rc a x1 x2 x3 n) x4 x5 δ r (fun x4 x5 δ hh => ih x4 x5 δ hh) h
def F_Pr_spell_b (rc : Nat → Int32 → Nat → Int32 → Dl → Option (Dl)) (a : Nat) (x1 : Int32) (x2 : Nat) (x3 : Int32) (δ : Dl) : Option (Dl) :=
  if x3 ≤ 30 then (F_Pr_spell_13 rc a x1 x2 x3 FU x1 0 δ) else (some δ)
set_option maxRecDepth 20000 in
set_option maxHeartbeats 4000000 in
theorem c_Pr_spell_b {l : Launch} {Γ : Gm} (hG : GC Γ) (rc : Nat → Int32 → Nat → Int32 → Dl → Option (Dl)) (dd : Nat) (hrc : ∀ (b : Nat) (z0 : Int32) (z1 : Nat) (z2 : Int32) (δ : Dl) (w : Dl), Oc b 3 → Oc z1 0 → rc b z0 z1 z2 δ = some w → Ct l M_Pr_spell dd 0 0 NF [.inr (0, b), .inl z0, .inr (0, z1), .inl z2] Γ δ (none, Γ, w)) (a : Nat) (x1 : Int32) (x2 : Nat) (x3 : Int32) (ha : Oc a 3) (hx2 : Oc x2 0) (δ : Dl) (r : Dl) (h : F_Pr_spell_b rc a x1 x2 x3  δ = some r) : Ct l M_Pr_spell (dd + 2) 0 0 NF [.inr (0, a), .inl x1, .inr (0, x2), .inl x3] Γ δ (none, Γ, r) := by
  unfold F_Pr_spell_b at h
  have oa := hG.ob ha
  refine Ct.of2 (n := 3) (ls := [some (.inr (0, a)), some (.inl x1), some (.inr (0, x2)), some (.inl x3), none, none, none]) rfl (by decide +kernel) (Nat.le_of_ble_eq_true rfl) ?_
  refine x_iload_n (i := 3) d_Pr_spell_0 rfl rfl ?_
  refine x_bi (v := 30) d_Pr_spell_1 (by decide) ?_
  refine x_cmp_le (tgt := 7) d_Pr_spell_3 (by decide) (fun c3 => ?_) (fun c3 => ?_)
  · have h := if_t c3 h
    refine x_iload_n (i := 1) d_Pr_spell_7 rfl rfl ?_
    refine x_stw (i := 4) (ls' := [some (.inr (0, a)), some (.inl x1), some (.inr (0, x2)), some (.inl x3), some (.inl x1), none, none]) d_Pr_spell_8 (by decide) rfl ?_
    refine x_ic (v := 0) d_Pr_spell_10 (by decide) ?_
    refine x_stw (i := 5) (ls' := [some (.inr (0, a)), some (.inl x1), some (.inr (0, x2)), some (.inl x3), some (.inl x1), some (.inl 0), none]) d_Pr_spell_11 (by decide) rfl ?_
    refine x_wk (ls' := [some (.inr (0, a)), none, some (.inr (0, x2)), some (.inl x3), some (.inl x1), some (.inl 0), none]) ⟨Or.inr rfl, Or.inl rfl, Or.inr rfl, Or.inr rfl, Or.inr rfl, Or.inr rfl, Or.inl rfl, trivial⟩ ?_
    exact j_Pr_spell_13 hG rc dd hrc a x1 x2 x3 ha hx2 FU x1 0 δ r h
  · have h := if_f c3 h
    replace h := Option.some.inj h; subst h
    exact x_vret rfl d_Pr_spell_6 (Nat.le_refl 0) (Nat.le_refl 0)
def F_Pr_spell : Nat → Nat → Int32 → Nat → Int32 → Dl → Option (Dl)
  | 0, _, _, _, _, _ => none
  | n + 1, a, x1, x2, x3, δ => F_Pr_spell_b (F_Pr_spell n) a x1 x2 x3 δ
theorem c_Pr_spell_n {l : Launch} {Γ : Gm} (hG : GC Γ) (n : Nat) (a : Nat) (x1 : Int32) (x2 : Nat) (x3 : Int32) (δ : Dl) (r : Dl) (ha : Oc a 3) (hx2 : Oc x2 0) (h : F_Pr_spell n a x1 x2 x3  δ = some r) : Ct l M_Pr_spell (2 * n) 0 0 NF [.inr (0, a), .inl x1, .inr (0, x2), .inl x3] Γ δ (none, Γ, r) := by
  induction n generalizing a x1 x2 x3 δ r with
  | zero => cases h
  | succ n ih => exact c_Pr_spell_b hG (F_Pr_spell n) (2 * n) (fun a x1 x2 x3 δ w ha hx2  hh => ih a x1 x2 x3 δ w ha hx2 hh) a x1 x2 x3 ha hx2 δ r h
theorem c_Pr_spell {l : Launch} {Γ : Gm} (hG : GC Γ) (a : Nat) (x1 : Int32) (x2 : Nat) (x3 : Int32) (ha : Oc a 3) (hx2 : Oc x2 0) (δ : Dl) (r : Dl) (h : F_Pr_spell RF a x1 x2 x3  δ = some r) : Ct l M_Pr_spell 80 0 0 NF [.inr (0, a), .inl x1, .inr (0, x2), .inl x3] Γ δ (none, Γ, r) := c_Pr_spell_n hG RF a x1 x2 x3 δ r ha hx2 h
-- BlockStage.isShell(I)Z
theorem d_Bs_isShell_0 : decode M_Bs_isShell.2.1 0 = .ok (.iload_n 0, 1) := by decide +kernel
theorem d_Bs_isShell_1 : decode M_Bs_isShell.2.1 1 = .ok (.bipush 10, 2) := by decide +kernel
theorem d_Bs_isShell_3 : decode M_Bs_isShell.2.1 3 = .ok (.if_icmp .lt 13, 3) := by decide +kernel
theorem d_Bs_isShell_6 : decode M_Bs_isShell.2.1 6 = .ok (.iload_n 0, 1) := by decide +kernel
theorem d_Bs_isShell_7 : decode M_Bs_isShell.2.1 7 = .ok (.bipush 12, 2) := by decide +kernel
theorem d_Bs_isShell_9 : decode M_Bs_isShell.2.1 9 = .ok (.if_icmp .gt 7, 3) := by decide +kernel
theorem d_Bs_isShell_12 : decode M_Bs_isShell.2.1 12 = .ok (.iconst 1, 1) := by decide +kernel
theorem d_Bs_isShell_13 : decode M_Bs_isShell.2.1 13 = .ok (.goto 4, 3) := by decide +kernel
theorem d_Bs_isShell_16 : decode M_Bs_isShell.2.1 16 = .ok (.iconst 0, 1) := by decide +kernel
theorem d_Bs_isShell_17 : decode M_Bs_isShell.2.1 17 = .ok (.ireturn, 1) := by decide +kernel
def F_Bs_isShell (x0 : Int32) : Int32 :=
  if x0 < 10 then 0 else (if 12 < x0 then 0 else 1)
set_option maxRecDepth 20000 in
set_option maxHeartbeats 4000000 in
theorem c_Bs_isShell {l : Launch} {Γ : Gm} (x0 : Int32) (δ : Dl) (r : Int32) (h : F_Bs_isShell x0  = r) : Ct l M_Bs_isShell 0 0 0 NF [.inl x0] Γ δ (some (.inl r), Γ, δ) := by
  unfold F_Bs_isShell at h
  refine Ct.of2 (n := 0) (ls := [some (.inl x0)]) rfl (by decide +kernel) (Nat.le_of_ble_eq_true rfl) ?_
  refine x_iload_n (i := 0) d_Bs_isShell_0 rfl rfl ?_
  refine x_bi (v := 10) d_Bs_isShell_1 (by decide) ?_
  refine x_cmp_lt (tgt := 16) d_Bs_isShell_3 (by decide) (fun c3 => ?_) (fun c3 => ?_)
  · have h := if_t c3 h
    refine x_ic (v := 0) d_Bs_isShell_16 (by decide) ?_
    subst h
    exact x_nret rfl rfl d_Bs_isShell_17 (Nat.le_refl 0) (Nat.le_refl 0)
  · have h := if_f c3 h
    refine x_iload_n (i := 0) d_Bs_isShell_6 rfl rfl ?_
    refine x_bi (v := 12) d_Bs_isShell_7 (by decide) ?_
    refine x_cmp_gt (tgt := 16) d_Bs_isShell_9 (by decide) (fun c9 => ?_) (fun c9 => ?_)
    · have h := if_t c9 h
      refine x_ic (v := 0) d_Bs_isShell_16 (by decide) ?_
      subst h
      exact x_nret rfl rfl d_Bs_isShell_17 (Nat.le_refl 0) (Nat.le_refl 0)
    · have h := if_f c9 h
      refine x_ic (v := 1) d_Bs_isShell_12 (by decide) ?_
      refine x_goto (tgt := 17) d_Bs_isShell_13 (by decide) ?_
      subst h
      exact x_nret rfl rfl d_Bs_isShell_17 (Nat.le_refl 0) (Nat.le_refl 0)
theorem b_Bs_isShell {x0 : Int32} : F_Bs_isShell x0  = 0 ∨ F_Bs_isShell x0  = 1 := by
  unfold F_Bs_isShell
  try dsimp only [bnd]
  repeat' split
  all_goals first | exact Or.inl rfl | exact Or.inr rfl
-- BlockStage.isRound(I)Z
theorem d_Bs_isRound_0 : decode M_Bs_isRound.2.1 0 = .ok (.iload_n 0, 1) := by decide +kernel
theorem d_Bs_isRound_1 : decode M_Bs_isRound.2.1 1 = .ok (.bipush 13, 2) := by decide +kernel
theorem d_Bs_isRound_3 : decode M_Bs_isRound.2.1 3 = .ok (.if_icmp .lt 13, 3) := by decide +kernel
theorem d_Bs_isRound_6 : decode M_Bs_isRound.2.1 6 = .ok (.iload_n 0, 1) := by decide +kernel
theorem d_Bs_isRound_7 : decode M_Bs_isRound.2.1 7 = .ok (.bipush 22, 2) := by decide +kernel
theorem d_Bs_isRound_9 : decode M_Bs_isRound.2.1 9 = .ok (.if_icmp .gt 7, 3) := by decide +kernel
theorem d_Bs_isRound_12 : decode M_Bs_isRound.2.1 12 = .ok (.iconst 1, 1) := by decide +kernel
theorem d_Bs_isRound_13 : decode M_Bs_isRound.2.1 13 = .ok (.goto 4, 3) := by decide +kernel
theorem d_Bs_isRound_16 : decode M_Bs_isRound.2.1 16 = .ok (.iconst 0, 1) := by decide +kernel
theorem d_Bs_isRound_17 : decode M_Bs_isRound.2.1 17 = .ok (.ireturn, 1) := by decide +kernel
def F_Bs_isRound (x0 : Int32) : Int32 :=
  if x0 < 13 then 0 else (if 22 < x0 then 0 else 1)
set_option maxRecDepth 20000 in
set_option maxHeartbeats 4000000 in
theorem c_Bs_isRound {l : Launch} {Γ : Gm} (x0 : Int32) (δ : Dl) (r : Int32) (h : F_Bs_isRound x0  = r) : Ct l M_Bs_isRound 0 0 0 NF [.inl x0] Γ δ (some (.inl r), Γ, δ) := by
  unfold F_Bs_isRound at h
  refine Ct.of2 (n := 0) (ls := [some (.inl x0)]) rfl (by decide +kernel) (Nat.le_of_ble_eq_true rfl) ?_
  refine x_iload_n (i := 0) d_Bs_isRound_0 rfl rfl ?_
  refine x_bi (v := 13) d_Bs_isRound_1 (by decide) ?_
  refine x_cmp_lt (tgt := 16) d_Bs_isRound_3 (by decide) (fun c3 => ?_) (fun c3 => ?_)
  · have h := if_t c3 h
    refine x_ic (v := 0) d_Bs_isRound_16 (by decide) ?_
    subst h
    exact x_nret rfl rfl d_Bs_isRound_17 (Nat.le_refl 0) (Nat.le_refl 0)
  · have h := if_f c3 h
    refine x_iload_n (i := 0) d_Bs_isRound_6 rfl rfl ?_
    refine x_bi (v := 22) d_Bs_isRound_7 (by decide) ?_
    refine x_cmp_gt (tgt := 16) d_Bs_isRound_9 (by decide) (fun c9 => ?_) (fun c9 => ?_)
    · have h := if_t c9 h
      refine x_ic (v := 0) d_Bs_isRound_16 (by decide) ?_
      subst h
      exact x_nret rfl rfl d_Bs_isRound_17 (Nat.le_refl 0) (Nat.le_refl 0)
    · have h := if_f c9 h
      refine x_ic (v := 1) d_Bs_isRound_12 (by decide) ?_
      refine x_goto (tgt := 17) d_Bs_isRound_13 (by decide) ?_
      subst h
      exact x_nret rfl rfl d_Bs_isRound_17 (Nat.le_refl 0) (Nat.le_refl 0)
theorem b_Bs_isRound {x0 : Int32} : F_Bs_isRound x0  = 0 ∨ F_Bs_isRound x0  = 1 := by
  unfold F_Bs_isRound
  try dsimp only [bnd]
  repeat' split
  all_goals first | exact Or.inl rfl | exact Or.inr rfl
-- BlockStage.isSharp(I)Z
theorem d_Bs_isSharp_0 : decode M_Bs_isSharp.2.1 0 = .ok (.iload_n 0, 1) := by decide +kernel
theorem d_Bs_isSharp_1 : decode M_Bs_isSharp.2.1 1 = .ok (.bipush 19, 2) := by decide +kernel
theorem d_Bs_isSharp_3 : decode M_Bs_isSharp.2.1 3 = .ok (.if_icmp .lt 13, 3) := by decide +kernel
theorem d_Bs_isSharp_6 : decode M_Bs_isSharp.2.1 6 = .ok (.iload_n 0, 1) := by decide +kernel
theorem d_Bs_isSharp_7 : decode M_Bs_isSharp.2.1 7 = .ok (.bipush 22, 2) := by decide +kernel
theorem d_Bs_isSharp_9 : decode M_Bs_isSharp.2.1 9 = .ok (.if_icmp .gt 7, 3) := by decide +kernel
theorem d_Bs_isSharp_12 : decode M_Bs_isSharp.2.1 12 = .ok (.iconst 1, 1) := by decide +kernel
theorem d_Bs_isSharp_13 : decode M_Bs_isSharp.2.1 13 = .ok (.goto 4, 3) := by decide +kernel
theorem d_Bs_isSharp_16 : decode M_Bs_isSharp.2.1 16 = .ok (.iconst 0, 1) := by decide +kernel
theorem d_Bs_isSharp_17 : decode M_Bs_isSharp.2.1 17 = .ok (.ireturn, 1) := by decide +kernel
def F_Bs_isSharp (x0 : Int32) : Int32 :=
  if x0 < 19 then 0 else (if 22 < x0 then 0 else 1)
set_option maxRecDepth 20000 in
set_option maxHeartbeats 4000000 in
theorem c_Bs_isSharp {l : Launch} {Γ : Gm} (x0 : Int32) (δ : Dl) (r : Int32) (h : F_Bs_isSharp x0  = r) : Ct l M_Bs_isSharp 0 0 0 NF [.inl x0] Γ δ (some (.inl r), Γ, δ) := by
  unfold F_Bs_isSharp at h
  refine Ct.of2 (n := 0) (ls := [some (.inl x0)]) rfl (by decide +kernel) (Nat.le_of_ble_eq_true rfl) ?_
  refine x_iload_n (i := 0) d_Bs_isSharp_0 rfl rfl ?_
  refine x_bi (v := 19) d_Bs_isSharp_1 (by decide) ?_
  refine x_cmp_lt (tgt := 16) d_Bs_isSharp_3 (by decide) (fun c3 => ?_) (fun c3 => ?_)
  · have h := if_t c3 h
    refine x_ic (v := 0) d_Bs_isSharp_16 (by decide) ?_
    subst h
    exact x_nret rfl rfl d_Bs_isSharp_17 (Nat.le_refl 0) (Nat.le_refl 0)
  · have h := if_f c3 h
    refine x_iload_n (i := 0) d_Bs_isSharp_6 rfl rfl ?_
    refine x_bi (v := 22) d_Bs_isSharp_7 (by decide) ?_
    refine x_cmp_gt (tgt := 16) d_Bs_isSharp_9 (by decide) (fun c9 => ?_) (fun c9 => ?_)
    · have h := if_t c9 h
      refine x_ic (v := 0) d_Bs_isSharp_16 (by decide) ?_
      subst h
      exact x_nret rfl rfl d_Bs_isSharp_17 (Nat.le_refl 0) (Nat.le_refl 0)
    · have h := if_f c9 h
      refine x_ic (v := 1) d_Bs_isSharp_12 (by decide) ?_
      refine x_goto (tgt := 17) d_Bs_isSharp_13 (by decide) ?_
      subst h
      exact x_nret rfl rfl d_Bs_isSharp_17 (Nat.le_refl 0) (Nat.le_refl 0)
theorem b_Bs_isSharp {x0 : Int32} : F_Bs_isSharp x0  = 0 ∨ F_Bs_isSharp x0  = 1 := by
  unfold F_Bs_isSharp
  try dsimp only [bnd]
  repeat' split
  all_goals first | exact Or.inl rfl | exact Or.inr rfl
-- BlockStage.isOfFamily(II)Z
theorem d_Bs_isOfFamily_0 : decode M_Bs_isOfFamily.2.1 0 = .ok (.iload_n 1, 1) := by decide +kernel
theorem d_Bs_isOfFamily_1 : decode M_Bs_isOfFamily.2.1 1 = .ok (.tableswitch 51 1 4 #[31, 36, 41, 46], 31) := by decide +kernel
theorem d_Bs_isOfFamily_32 : decode M_Bs_isOfFamily.2.1 32 = .ok (.iload_n 0, 1) := by decide +kernel
theorem d_Bs_isOfFamily_33 : decode M_Bs_isOfFamily.2.1 33 = .ok (.invokestatic 223, 3) := by decide +kernel
theorem d_Bs_isOfFamily_36 : decode M_Bs_isOfFamily.2.1 36 = .ok (.ireturn, 1) := by decide +kernel
theorem d_Bs_isOfFamily_37 : decode M_Bs_isOfFamily.2.1 37 = .ok (.iload_n 0, 1) := by decide +kernel
theorem d_Bs_isOfFamily_38 : decode M_Bs_isOfFamily.2.1 38 = .ok (.invokestatic 351, 3) := by decide +kernel
theorem d_Bs_isOfFamily_41 : decode M_Bs_isOfFamily.2.1 41 = .ok (.ireturn, 1) := by decide +kernel
theorem d_Bs_isOfFamily_42 : decode M_Bs_isOfFamily.2.1 42 = .ok (.iload_n 0, 1) := by decide +kernel
theorem d_Bs_isOfFamily_43 : decode M_Bs_isOfFamily.2.1 43 = .ok (.invokestatic 380, 3) := by decide +kernel
theorem d_Bs_isOfFamily_46 : decode M_Bs_isOfFamily.2.1 46 = .ok (.ireturn, 1) := by decide +kernel
theorem d_Bs_isOfFamily_47 : decode M_Bs_isOfFamily.2.1 47 = .ok (.iload_n 0, 1) := by decide +kernel
theorem d_Bs_isOfFamily_48 : decode M_Bs_isOfFamily.2.1 48 = .ok (.invokestatic 361, 3) := by decide +kernel
theorem d_Bs_isOfFamily_51 : decode M_Bs_isOfFamily.2.1 51 = .ok (.ireturn, 1) := by decide +kernel
theorem d_Bs_isOfFamily_52 : decode M_Bs_isOfFamily.2.1 52 = .ok (.iconst 1, 1) := by decide +kernel
theorem d_Bs_isOfFamily_53 : decode M_Bs_isOfFamily.2.1 53 = .ok (.ireturn, 1) := by decide +kernel
theorem cs_Bs_223 : CS RX11 223 M_Bs_isOrder 1 := ⟨(lwg_at 422 (by decide +kernel) rfl), (lwg_at 423 (by decide +kernel) rfl), mi_Bs_isOrder⟩
theorem mi_Bs_isShell : MI M_Bs_isShell 1 := ⟨(lwg_at 1 (by decide +kernel) rfl), (lwg_at 659 (by decide +kernel) rfl), ⟨by decide +kernel, by decide +kernel⟩, by decide +kernel, by decide⟩
theorem cs_Bs_351 : CS RX11 351 M_Bs_isShell 1 := ⟨(lwg_at 923 (by decide +kernel) rfl), (lwg_at 658 (by decide +kernel) rfl), mi_Bs_isShell⟩
theorem mi_Bs_isRound : MI M_Bs_isRound 1 := ⟨(lwg_at 1 (by decide +kernel) rfl), (lwg_at 430 (by decide +kernel) rfl), ⟨by decide +kernel, by decide +kernel⟩, by decide +kernel, by decide⟩
theorem cs_Bs_380 : CS RX11 380 M_Bs_isRound 1 := ⟨(lwg_at 428 (by decide +kernel) rfl), (lwg_at 429 (by decide +kernel) rfl), mi_Bs_isRound⟩
theorem mi_Bs_isSharp : MI M_Bs_isSharp 1 := ⟨(lwg_at 1 (by decide +kernel) rfl), (lwg_at 427 (by decide +kernel) rfl), ⟨by decide +kernel, by decide +kernel⟩, by decide +kernel, by decide⟩
theorem cs_Bs_361 : CS RX11 361 M_Bs_isSharp 1 := ⟨(lwg_at 425 (by decide +kernel) rfl), (lwg_at 426 (by decide +kernel) rfl), mi_Bs_isSharp⟩
def F_Bs_isOfFamily (x0 : Int32) (x1 : Int32) : Int32 :=
  if x1 = 1 then (bnd (F_Bs_isOrder x0) fun v33 => v33) else if x1 = 2 then (bnd (F_Bs_isShell x0) fun v38 => v38) else if x1 = 3 then (bnd (F_Bs_isRound x0) fun v43 => v43) else if x1 = 4 then (bnd (F_Bs_isSharp x0) fun v48 => v48) else 1
set_option maxRecDepth 20000 in
set_option maxHeartbeats 4000000 in
theorem c_Bs_isOfFamily {l : Launch} {Γ : Gm} (x0 : Int32) (x1 : Int32) (δ : Dl) (r : Int32) (h : F_Bs_isOfFamily x0 x1  = r) : Ct l M_Bs_isOfFamily 1 0 0 NF [.inl x0, .inl x1] Γ δ (some (.inl r), Γ, δ) := by
  unfold F_Bs_isOfFamily at h
  refine Ct.of2 (n := 0) (ls := [some (.inl x0), some (.inl x1)]) rfl (by decide +kernel) (Nat.le_of_ble_eq_true rfl) ?_
  refine x_iload_n (i := 1) d_Bs_isOfFamily_0 rfl rfl ?_
  by_cases c1_0 : x1 = 1
  · have h := if_t c1_0 h
    refine x_tin (v := 1) (off := 31) (tgt := 32) d_Bs_isOfFamily_1 c1_0 (by decide +kernel) ?_
    refine x_iload_n (i := 0) d_Bs_isOfFamily_32 rfl rfl ?_
    obtain ⟨v33, ev33, h⟩ := bn_e h
    refine y_S1 cs_Bs_223 (by first | decide | omega) (Nat.le_of_ble_eq_true rfl) d_Bs_isOfFamily_33 (c_Bs_isOrder x0  δ v33 ev33) (Nat.le_refl 0) (Nat.le_refl 0) ?_
    have b36 := nb_of (ev33 ▸ b_Bs_isOrder)
    subst h
    exact x_nret rfl b36 d_Bs_isOfFamily_36 (Nat.le_refl 0) (Nat.le_refl 0)
  have h := if_f c1_0 h
  by_cases c1_1 : x1 = 2
  · have h := if_t c1_1 h
    refine x_tin (v := 2) (off := 36) (tgt := 37) d_Bs_isOfFamily_1 c1_1 (by decide +kernel) ?_
    refine x_iload_n (i := 0) d_Bs_isOfFamily_37 rfl rfl ?_
    obtain ⟨v38, ev38, h⟩ := bn_e h
    refine y_S1 cs_Bs_351 (by first | decide | omega) (Nat.le_of_ble_eq_true rfl) d_Bs_isOfFamily_38 (c_Bs_isShell x0  δ v38 ev38) (Nat.le_refl 0) (Nat.le_refl 0) ?_
    have b41 := nb_of (ev38 ▸ b_Bs_isShell)
    subst h
    exact x_nret rfl b41 d_Bs_isOfFamily_41 (Nat.le_refl 0) (Nat.le_refl 0)
  have h := if_f c1_1 h
  by_cases c1_2 : x1 = 3
  · have h := if_t c1_2 h
    refine x_tin (v := 3) (off := 41) (tgt := 42) d_Bs_isOfFamily_1 c1_2 (by decide +kernel) ?_
    refine x_iload_n (i := 0) d_Bs_isOfFamily_42 rfl rfl ?_
    obtain ⟨v43, ev43, h⟩ := bn_e h
    refine y_S1 cs_Bs_380 (by first | decide | omega) (Nat.le_of_ble_eq_true rfl) d_Bs_isOfFamily_43 (c_Bs_isRound x0  δ v43 ev43) (Nat.le_refl 0) (Nat.le_refl 0) ?_
    have b46 := nb_of (ev43 ▸ b_Bs_isRound)
    subst h
    exact x_nret rfl b46 d_Bs_isOfFamily_46 (Nat.le_refl 0) (Nat.le_refl 0)
  have h := if_f c1_2 h
  by_cases c1_3 : x1 = 4
  · have h := if_t c1_3 h
    refine x_tin (v := 4) (off := 46) (tgt := 47) d_Bs_isOfFamily_1 c1_3 (by decide +kernel) ?_
    refine x_iload_n (i := 0) d_Bs_isOfFamily_47 rfl rfl ?_
    obtain ⟨v48, ev48, h⟩ := bn_e h
    refine y_S1 cs_Bs_361 (by first | decide | omega) (Nat.le_of_ble_eq_true rfl) d_Bs_isOfFamily_48 (c_Bs_isSharp x0  δ v48 ev48) (Nat.le_refl 0) (Nat.le_refl 0) ?_
    have b51 := nb_of (ev48 ▸ b_Bs_isSharp)
    subst h
    exact x_nret rfl b51 d_Bs_isOfFamily_51 (Nat.le_refl 0) (Nat.le_refl 0)
  have h := if_f c1_3 h
  have n1_0 := lv_neT (a := 1) c1_0 (by decide)
  have n1_1 := lv_neT (a := 2) c1_1 (by decide)
  have n1_2 := lv_neT (a := 3) c1_2 (by decide)
  have n1_3 := lv_neT (a := 4) c1_3 (by decide)
  refine x_tout (tgt := 52) d_Bs_isOfFamily_1 (by omega) (by decide) ?_
  refine x_ic (v := 1) d_Bs_isOfFamily_52 (by decide) ?_
  subst h
  exact x_nret rfl rfl d_Bs_isOfFamily_53 (Nat.le_refl 0) (Nat.le_refl 0)
theorem b_Bs_isOfFamily {x0 : Int32} {x1 : Int32} : F_Bs_isOfFamily x0 x1  = 0 ∨ F_Bs_isOfFamily x0 x1  = 1 := by
  unfold F_Bs_isOfFamily
  try dsimp only [bnd]
  repeat' split
  all_goals first | exact Or.inl rfl | exact Or.inr rfl | exact b_Bs_isOrder | exact b_Bs_isRound | exact b_Bs_isSharp | exact b_Bs_isShell
-- BlockStage.isNumberOfCap(II)Z
theorem d_Bs_isNumberOfCap_0 : decode M_Bs_isNumberOfCap.2.1 0 = .ok (.iload_n 0, 1) := by decide +kernel
theorem d_Bs_isNumberOfCap_1 : decode M_Bs_isNumberOfCap.2.1 1 = .ok (.iconst 1, 1) := by decide +kernel
theorem d_Bs_isNumberOfCap_2 : decode M_Bs_isNumberOfCap.2.1 2 = .ok (.if_icmp .ne 18, 3) := by decide +kernel
theorem d_Bs_isNumberOfCap_5 : decode M_Bs_isNumberOfCap.2.1 5 = .ok (.iload_n 1, 1) := by decide +kernel
theorem d_Bs_isNumberOfCap_6 : decode M_Bs_isNumberOfCap.2.1 6 = .ok (.ifCond .lt 12, 3) := by decide +kernel
theorem d_Bs_isNumberOfCap_9 : decode M_Bs_isNumberOfCap.2.1 9 = .ok (.iload_n 1, 1) := by decide +kernel
theorem d_Bs_isNumberOfCap_10 : decode M_Bs_isNumberOfCap.2.1 10 = .ok (.iconst 3, 1) := by decide +kernel
theorem d_Bs_isNumberOfCap_11 : decode M_Bs_isNumberOfCap.2.1 11 = .ok (.if_icmp .gt 7, 3) := by decide +kernel
theorem d_Bs_isNumberOfCap_14 : decode M_Bs_isNumberOfCap.2.1 14 = .ok (.iconst 1, 1) := by decide +kernel
theorem d_Bs_isNumberOfCap_15 : decode M_Bs_isNumberOfCap.2.1 15 = .ok (.goto 4, 3) := by decide +kernel
theorem d_Bs_isNumberOfCap_18 : decode M_Bs_isNumberOfCap.2.1 18 = .ok (.iconst 0, 1) := by decide +kernel
theorem d_Bs_isNumberOfCap_19 : decode M_Bs_isNumberOfCap.2.1 19 = .ok (.ireturn, 1) := by decide +kernel
theorem d_Bs_isNumberOfCap_20 : decode M_Bs_isNumberOfCap.2.1 20 = .ok (.iload_n 0, 1) := by decide +kernel
theorem d_Bs_isNumberOfCap_21 : decode M_Bs_isNumberOfCap.2.1 21 = .ok (.iconst 2, 1) := by decide +kernel
theorem d_Bs_isNumberOfCap_22 : decode M_Bs_isNumberOfCap.2.1 22 = .ok (.if_icmp .ne 20, 3) := by decide +kernel
theorem d_Bs_isNumberOfCap_25 : decode M_Bs_isNumberOfCap.2.1 25 = .ok (.iload_n 1, 1) := by decide +kernel
theorem d_Bs_isNumberOfCap_26 : decode M_Bs_isNumberOfCap.2.1 26 = .ok (.iconst 1, 1) := by decide +kernel
theorem d_Bs_isNumberOfCap_27 : decode M_Bs_isNumberOfCap.2.1 27 = .ok (.if_icmp .lt 13, 3) := by decide +kernel
theorem d_Bs_isNumberOfCap_30 : decode M_Bs_isNumberOfCap.2.1 30 = .ok (.iload_n 1, 1) := by decide +kernel
theorem d_Bs_isNumberOfCap_31 : decode M_Bs_isNumberOfCap.2.1 31 = .ok (.bipush 9, 2) := by decide +kernel
theorem d_Bs_isNumberOfCap_33 : decode M_Bs_isNumberOfCap.2.1 33 = .ok (.if_icmp .gt 7, 3) := by decide +kernel
theorem d_Bs_isNumberOfCap_36 : decode M_Bs_isNumberOfCap.2.1 36 = .ok (.iconst 1, 1) := by decide +kernel
theorem d_Bs_isNumberOfCap_37 : decode M_Bs_isNumberOfCap.2.1 37 = .ok (.goto 4, 3) := by decide +kernel
theorem d_Bs_isNumberOfCap_40 : decode M_Bs_isNumberOfCap.2.1 40 = .ok (.iconst 0, 1) := by decide +kernel
theorem d_Bs_isNumberOfCap_41 : decode M_Bs_isNumberOfCap.2.1 41 = .ok (.ireturn, 1) := by decide +kernel
theorem d_Bs_isNumberOfCap_42 : decode M_Bs_isNumberOfCap.2.1 42 = .ok (.iload_n 1, 1) := by decide +kernel
theorem d_Bs_isNumberOfCap_43 : decode M_Bs_isNumberOfCap.2.1 43 = .ok (.ifCond .ne 7, 3) := by decide +kernel
theorem d_Bs_isNumberOfCap_46 : decode M_Bs_isNumberOfCap.2.1 46 = .ok (.iconst 1, 1) := by decide +kernel
theorem d_Bs_isNumberOfCap_47 : decode M_Bs_isNumberOfCap.2.1 47 = .ok (.goto 4, 3) := by decide +kernel
theorem d_Bs_isNumberOfCap_50 : decode M_Bs_isNumberOfCap.2.1 50 = .ok (.iconst 0, 1) := by decide +kernel
theorem d_Bs_isNumberOfCap_51 : decode M_Bs_isNumberOfCap.2.1 51 = .ok (.ireturn, 1) := by decide +kernel
def F_Bs_isNumberOfCap (x0 : Int32) (x1 : Int32) : Int32 :=
  if x0 = 1 then (if x1 < 0 then 0 else (if 3 < x1 then 0 else 1)) else (if x0 = 2 then (if x1 < 1 then 0 else (if 9 < x1 then 0 else 1)) else (if x1 = 0 then 1 else 0))
set_option maxRecDepth 20000 in
set_option maxHeartbeats 4000000 in
theorem c_Bs_isNumberOfCap {l : Launch} {Γ : Gm} (x0 : Int32) (x1 : Int32) (δ : Dl) (r : Int32) (h : F_Bs_isNumberOfCap x0 x1  = r) : Ct l M_Bs_isNumberOfCap 0 0 0 NF [.inl x0, .inl x1] Γ δ (some (.inl r), Γ, δ) := by
  unfold F_Bs_isNumberOfCap at h
  refine Ct.of2 (n := 0) (ls := [some (.inl x0), some (.inl x1)]) rfl (by decide +kernel) (Nat.le_of_ble_eq_true rfl) ?_
  refine x_iload_n (i := 0) d_Bs_isNumberOfCap_0 rfl rfl ?_
  refine x_ic (v := 1) d_Bs_isNumberOfCap_1 (by decide) ?_
  refine x_cmp_ne (tgt := 20) d_Bs_isNumberOfCap_2 (by decide) (fun c2 => ?_) (fun c2 => ?_)
  · have h := if_f c2 h
    refine x_iload_n (i := 0) d_Bs_isNumberOfCap_20 rfl rfl ?_
    refine x_ic (v := 2) d_Bs_isNumberOfCap_21 (by decide) ?_
    refine x_cmp_ne (tgt := 42) d_Bs_isNumberOfCap_22 (by decide) (fun c22 => ?_) (fun c22 => ?_)
    · have h := if_f c22 h
      refine x_iload_n (i := 1) d_Bs_isNumberOfCap_42 rfl rfl ?_
      refine x_if_ne (tgt := 50) d_Bs_isNumberOfCap_43 (by decide) (fun c43 => ?_) (fun c43 => ?_)
      · have h := if_f c43 h
        refine x_ic (v := 0) d_Bs_isNumberOfCap_50 (by decide) ?_
        subst h
        exact x_nret rfl rfl d_Bs_isNumberOfCap_51 (Nat.le_refl 0) (Nat.le_refl 0)
      · have h := if_t c43 h
        refine x_ic (v := 1) d_Bs_isNumberOfCap_46 (by decide) ?_
        refine x_goto (tgt := 51) d_Bs_isNumberOfCap_47 (by decide) ?_
        subst h
        exact x_nret rfl rfl d_Bs_isNumberOfCap_51 (Nat.le_refl 0) (Nat.le_refl 0)
    · have h := if_t c22 h
      refine x_iload_n (i := 1) d_Bs_isNumberOfCap_25 rfl rfl ?_
      refine x_ic (v := 1) d_Bs_isNumberOfCap_26 (by decide) ?_
      refine x_cmp_lt (tgt := 40) d_Bs_isNumberOfCap_27 (by decide) (fun c27 => ?_) (fun c27 => ?_)
      · have h := if_t c27 h
        refine x_ic (v := 0) d_Bs_isNumberOfCap_40 (by decide) ?_
        subst h
        exact x_nret rfl rfl d_Bs_isNumberOfCap_41 (Nat.le_refl 0) (Nat.le_refl 0)
      · have h := if_f c27 h
        refine x_iload_n (i := 1) d_Bs_isNumberOfCap_30 rfl rfl ?_
        refine x_bi (v := 9) d_Bs_isNumberOfCap_31 (by decide) ?_
        refine x_cmp_gt (tgt := 40) d_Bs_isNumberOfCap_33 (by decide) (fun c33 => ?_) (fun c33 => ?_)
        · have h := if_t c33 h
          refine x_ic (v := 0) d_Bs_isNumberOfCap_40 (by decide) ?_
          subst h
          exact x_nret rfl rfl d_Bs_isNumberOfCap_41 (Nat.le_refl 0) (Nat.le_refl 0)
        · have h := if_f c33 h
          refine x_ic (v := 1) d_Bs_isNumberOfCap_36 (by decide) ?_
          refine x_goto (tgt := 41) d_Bs_isNumberOfCap_37 (by decide) ?_
          subst h
          exact x_nret rfl rfl d_Bs_isNumberOfCap_41 (Nat.le_refl 0) (Nat.le_refl 0)
  · have h := if_t c2 h
    refine x_iload_n (i := 1) d_Bs_isNumberOfCap_5 rfl rfl ?_
    refine x_if_lt (tgt := 18) d_Bs_isNumberOfCap_6 (by decide) (fun c6 => ?_) (fun c6 => ?_)
    · have h := if_t c6 h
      refine x_ic (v := 0) d_Bs_isNumberOfCap_18 (by decide) ?_
      subst h
      exact x_nret rfl rfl d_Bs_isNumberOfCap_19 (Nat.le_refl 0) (Nat.le_refl 0)
    · have h := if_f c6 h
      refine x_iload_n (i := 1) d_Bs_isNumberOfCap_9 rfl rfl ?_
      refine x_ic (v := 3) d_Bs_isNumberOfCap_10 (by decide) ?_
      refine x_cmp_gt (tgt := 18) d_Bs_isNumberOfCap_11 (by decide) (fun c11 => ?_) (fun c11 => ?_)
      · have h := if_t c11 h
        refine x_ic (v := 0) d_Bs_isNumberOfCap_18 (by decide) ?_
        subst h
        exact x_nret rfl rfl d_Bs_isNumberOfCap_19 (Nat.le_refl 0) (Nat.le_refl 0)
      · have h := if_f c11 h
        refine x_ic (v := 1) d_Bs_isNumberOfCap_14 (by decide) ?_
        refine x_goto (tgt := 19) d_Bs_isNumberOfCap_15 (by decide) ?_
        subst h
        exact x_nret rfl rfl d_Bs_isNumberOfCap_19 (Nat.le_refl 0) (Nat.le_refl 0)
theorem b_Bs_isNumberOfCap {x0 : Int32} {x1 : Int32} : F_Bs_isNumberOfCap x0 x1  = 0 ∨ F_Bs_isNumberOfCap x0 x1  = 1 := by
  unfold F_Bs_isNumberOfCap
  try dsimp only [bnd]
  repeat' split
  all_goals first | exact Or.inl rfl | exact Or.inr rfl
-- BlockStage.fits(III)Z
theorem d_Bs_fits_0 : decode M_Bs_fits.2.1 0 = .ok (.iload_n 1, 1) := by decide +kernel
theorem d_Bs_fits_1 : decode M_Bs_fits.2.1 1 = .ok (.ifCond .eq 13, 3) := by decide +kernel
theorem d_Bs_fits_4 : decode M_Bs_fits.2.1 4 = .ok (.iload_n 1, 1) := by decide +kernel
theorem d_Bs_fits_5 : decode M_Bs_fits.2.1 5 = .ok (.iconst 1, 1) := by decide +kernel
theorem d_Bs_fits_6 : decode M_Bs_fits.2.1 6 = .ok (.if_icmp .eq 8, 3) := by decide +kernel
theorem d_Bs_fits_9 : decode M_Bs_fits.2.1 9 = .ok (.iload_n 1, 1) := by decide +kernel
theorem d_Bs_fits_10 : decode M_Bs_fits.2.1 10 = .ok (.iconst 2, 1) := by decide +kernel
theorem d_Bs_fits_11 : decode M_Bs_fits.2.1 11 = .ok (.if_icmp .ne 8, 3) := by decide +kernel
theorem d_Bs_fits_14 : decode M_Bs_fits.2.1 14 = .ok (.iload_n 2, 1) := by decide +kernel
theorem d_Bs_fits_15 : decode M_Bs_fits.2.1 15 = .ok (.invokestatic 223, 3) := by decide +kernel
theorem d_Bs_fits_18 : decode M_Bs_fits.2.1 18 = .ok (.ireturn, 1) := by decide +kernel
theorem d_Bs_fits_19 : decode M_Bs_fits.2.1 19 = .ok (.iload_n 1, 1) := by decide +kernel
theorem d_Bs_fits_20 : decode M_Bs_fits.2.1 20 = .ok (.iconst 3, 1) := by decide +kernel
theorem d_Bs_fits_21 : decode M_Bs_fits.2.1 21 = .ok (.if_icmp .ne 25, 3) := by decide +kernel
theorem d_Bs_fits_24 : decode M_Bs_fits.2.1 24 = .ok (.iload_n 0, 1) := by decide +kernel
theorem d_Bs_fits_25 : decode M_Bs_fits.2.1 25 = .ok (.bipush 11, 2) := by decide +kernel
theorem d_Bs_fits_27 : decode M_Bs_fits.2.1 27 = .ok (.if_icmp .eq 15, 3) := by decide +kernel
theorem d_Bs_fits_30 : decode M_Bs_fits.2.1 30 = .ok (.iload_n 0, 1) := by decide +kernel
theorem d_Bs_fits_31 : decode M_Bs_fits.2.1 31 = .ok (.bipush 12, 2) := by decide +kernel
theorem d_Bs_fits_33 : decode M_Bs_fits.2.1 33 = .ok (.if_icmp .eq 9, 3) := by decide +kernel
theorem d_Bs_fits_36 : decode M_Bs_fits.2.1 36 = .ok (.iload_n 0, 1) := by decide +kernel
theorem d_Bs_fits_37 : decode M_Bs_fits.2.1 37 = .ok (.bipush 21, 2) := by decide +kernel
theorem d_Bs_fits_39 : decode M_Bs_fits.2.1 39 = .ok (.if_icmp .ne 7, 3) := by decide +kernel
theorem d_Bs_fits_42 : decode M_Bs_fits.2.1 42 = .ok (.iconst 1, 1) := by decide +kernel
theorem d_Bs_fits_43 : decode M_Bs_fits.2.1 43 = .ok (.goto 4, 3) := by decide +kernel
theorem d_Bs_fits_46 : decode M_Bs_fits.2.1 46 = .ok (.iconst 0, 1) := by decide +kernel
theorem d_Bs_fits_47 : decode M_Bs_fits.2.1 47 = .ok (.istore_n 3, 1) := by decide +kernel
theorem d_Bs_fits_48 : decode M_Bs_fits.2.1 48 = .ok (.iload_n 3, 1) := by decide +kernel
theorem d_Bs_fits_49 : decode M_Bs_fits.2.1 49 = .ok (.ifCond .eq 10, 3) := by decide +kernel
theorem d_Bs_fits_52 : decode M_Bs_fits.2.1 52 = .ok (.iload_n 2, 1) := by decide +kernel
theorem d_Bs_fits_53 : decode M_Bs_fits.2.1 53 = .ok (.invokestatic 361, 3) := by decide +kernel
theorem d_Bs_fits_56 : decode M_Bs_fits.2.1 56 = .ok (.goto 7, 3) := by decide +kernel
theorem d_Bs_fits_59 : decode M_Bs_fits.2.1 59 = .ok (.iload_n 2, 1) := by decide +kernel
theorem d_Bs_fits_60 : decode M_Bs_fits.2.1 60 = .ok (.invokestatic 380, 3) := by decide +kernel
theorem d_Bs_fits_63 : decode M_Bs_fits.2.1 63 = .ok (.ireturn, 1) := by decide +kernel
def F_Bs_fits_14 (x0 : Int32) (x1 : Int32) (x2 : Int32) : Int32 :=
  bnd (F_Bs_isOrder x2) fun v15 => v15
set_option maxRecDepth 20000 in
set_option maxHeartbeats 4000000 in
theorem j_Bs_fits_14 {l : Launch} {Γ : Gm} (x0 : Int32) (x1 : Int32) (x2 : Int32) (δ : Dl) (r : Int32) (h : F_Bs_fits_14 x0 x1 x2  = r) : Xe l M_Bs_fits 1 0 0 NF 14 [none, none, some (.inl x2), none] [] 0 0 Γ δ (some (.inl r), Γ, δ) := by
  unfold F_Bs_fits_14 at h
  refine x_iload_n (i := 2) d_Bs_fits_14 rfl rfl ?_
  obtain ⟨v15, ev15, h⟩ := bn_e h
  refine y_S1 cs_Bs_223 (by first | decide | omega) (Nat.le_of_ble_eq_true rfl) d_Bs_fits_15 (c_Bs_isOrder x2  δ v15 ev15) (Nat.le_refl 0) (Nat.le_refl 0) ?_
  have b18 := nb_of (ev15 ▸ b_Bs_isOrder)
  subst h
  exact x_nret rfl b18 d_Bs_fits_18 (Nat.le_refl 0) (Nat.le_refl 0)
def F_Bs_fits_47 (x0 : Int32) (x1 : Int32) (x2 : Int32) (s0 : Int32) : Int32 :=
  if s0 = 0 then (bnd (F_Bs_isRound x2) fun v60 => v60) else (bnd (F_Bs_isSharp x2) fun v53 => v53)
set_option maxRecDepth 20000 in
set_option maxHeartbeats 4000000 in
theorem j_Bs_fits_47 {l : Launch} {Γ : Gm} (x0 : Int32) (x1 : Int32) (x2 : Int32) (s0 : Int32) (δ : Dl) (r : Int32) (h : F_Bs_fits_47 x0 x1 x2 s0 = r) : Xe l M_Bs_fits 1 0 0 NF 47 [none, none, some (.inl x2), none] [.inl s0] 0 0 Γ δ (some (.inl r), Γ, δ) := by
  unfold F_Bs_fits_47 at h
  refine x_stn (i := 3) (ls' := [none, none, some (.inl x2), some (.inl s0)]) d_Bs_fits_47 rfl (by decide) rfl ?_
  refine x_iload_n (i := 3) d_Bs_fits_48 rfl rfl ?_
  refine x_if_eq (tgt := 59) d_Bs_fits_49 (by decide) (fun c49 => ?_) (fun c49 => ?_)
  · have h := if_t c49 h
    refine x_iload_n (i := 2) d_Bs_fits_59 rfl rfl ?_
    obtain ⟨v60, ev60, h⟩ := bn_e h
    refine y_S1 cs_Bs_380 (by first | decide | omega) (Nat.le_of_ble_eq_true rfl) d_Bs_fits_60 (c_Bs_isRound x2  δ v60 ev60) (Nat.le_refl 0) (Nat.le_refl 0) ?_
    have b63 := nb_of (ev60 ▸ b_Bs_isRound)
    subst h
    exact x_nret rfl b63 d_Bs_fits_63 (Nat.le_refl 0) (Nat.le_refl 0)
  · have h := if_f c49 h
    refine x_iload_n (i := 2) d_Bs_fits_52 rfl rfl ?_
    obtain ⟨v53, ev53, h⟩ := bn_e h
    refine y_S1 cs_Bs_361 (by first | decide | omega) (Nat.le_of_ble_eq_true rfl) d_Bs_fits_53 (c_Bs_isSharp x2  δ v53 ev53) (Nat.le_refl 0) (Nat.le_refl 0) ?_
    refine x_goto (tgt := 63) d_Bs_fits_56 (by decide) ?_
    have b63 := nb_of (ev53 ▸ b_Bs_isSharp)
    subst h
    exact x_nret rfl b63 d_Bs_fits_63 (Nat.le_refl 0) (Nat.le_refl 0)
def F_Bs_fits_46 (x0 : Int32) (x1 : Int32) (x2 : Int32) : Int32 :=
  F_Bs_fits_47 x0 x1 x2 0
set_option maxRecDepth 20000 in
set_option maxHeartbeats 4000000 in
theorem j_Bs_fits_46 {l : Launch} {Γ : Gm} (x0 : Int32) (x1 : Int32) (x2 : Int32) (δ : Dl) (r : Int32) (h : F_Bs_fits_46 x0 x1 x2  = r) : Xe l M_Bs_fits 1 0 0 NF 46 [none, none, some (.inl x2), none] [] 0 0 Γ δ (some (.inl r), Γ, δ) := by
  unfold F_Bs_fits_46 at h
  refine x_ic (v := 0) d_Bs_fits_46 (by decide) ?_
  exact j_Bs_fits_47 x0 x1 x2 0 δ r h
def F_Bs_fits_42 (x0 : Int32) (x1 : Int32) (x2 : Int32) : Int32 :=
  F_Bs_fits_47 x0 x1 x2 1
set_option maxRecDepth 20000 in
set_option maxHeartbeats 4000000 in
theorem j_Bs_fits_42 {l : Launch} {Γ : Gm} (x0 : Int32) (x1 : Int32) (x2 : Int32) (δ : Dl) (r : Int32) (h : F_Bs_fits_42 x0 x1 x2  = r) : Xe l M_Bs_fits 1 0 0 NF 42 [none, none, some (.inl x2), none] [] 0 0 Γ δ (some (.inl r), Γ, δ) := by
  unfold F_Bs_fits_42 at h
  refine x_ic (v := 1) d_Bs_fits_42 (by decide) ?_
  refine x_goto (tgt := 47) d_Bs_fits_43 (by decide) ?_
  exact j_Bs_fits_47 x0 x1 x2 1 δ r h
def F_Bs_fits (x0 : Int32) (x1 : Int32) (x2 : Int32) : Int32 :=
  if x1 = 0 then (F_Bs_fits_14 x0 x1 x2) else (if x1 = 1 then (F_Bs_fits_14 x0 x1 x2) else (if x1 = 2 then (F_Bs_fits_14 x0 x1 x2) else (if x1 = 3 then (if x0 = 11 then (F_Bs_fits_42 x0 x1 x2) else (if x0 = 12 then (F_Bs_fits_42 x0 x1 x2) else (if x0 = 21 then (F_Bs_fits_42 x0 x1 x2) else (F_Bs_fits_46 x0 x1 x2)))) else (F_Bs_fits_46 x0 x1 x2))))
set_option maxRecDepth 20000 in
set_option maxHeartbeats 4000000 in
theorem c_Bs_fits {l : Launch} {Γ : Gm} (x0 : Int32) (x1 : Int32) (x2 : Int32) (δ : Dl) (r : Int32) (h : F_Bs_fits x0 x1 x2  = r) : Ct l M_Bs_fits 1 0 0 NF [.inl x0, .inl x1, .inl x2] Γ δ (some (.inl r), Γ, δ) := by
  unfold F_Bs_fits at h
  refine Ct.of2 (n := 1) (ls := [some (.inl x0), some (.inl x1), some (.inl x2), none]) rfl (by decide +kernel) (Nat.le_of_ble_eq_true rfl) ?_
  refine x_iload_n (i := 1) d_Bs_fits_0 rfl rfl ?_
  refine x_if_eq (tgt := 14) d_Bs_fits_1 (by decide) (fun c1 => ?_) (fun c1 => ?_)
  · have h := if_t c1 h
    refine x_wk (ls' := [none, none, some (.inl x2), none]) ⟨Or.inl rfl, Or.inl rfl, Or.inr rfl, Or.inl rfl, trivial⟩ ?_
    exact j_Bs_fits_14 x0 x1 x2  δ r h
  · have h := if_f c1 h
    refine x_iload_n (i := 1) d_Bs_fits_4 rfl rfl ?_
    refine x_ic (v := 1) d_Bs_fits_5 (by decide) ?_
    refine x_cmp_eq (tgt := 14) d_Bs_fits_6 (by decide) (fun c6 => ?_) (fun c6 => ?_)
    · have h := if_t c6 h
      refine x_wk (ls' := [none, none, some (.inl x2), none]) ⟨Or.inl rfl, Or.inl rfl, Or.inr rfl, Or.inl rfl, trivial⟩ ?_
      exact j_Bs_fits_14 x0 x1 x2  δ r h
    · have h := if_f c6 h
      refine x_iload_n (i := 1) d_Bs_fits_9 rfl rfl ?_
      refine x_ic (v := 2) d_Bs_fits_10 (by decide) ?_
      refine x_cmp_ne (tgt := 19) d_Bs_fits_11 (by decide) (fun c11 => ?_) (fun c11 => ?_)
      · have h := if_f c11 h
        refine x_iload_n (i := 1) d_Bs_fits_19 rfl rfl ?_
        refine x_ic (v := 3) d_Bs_fits_20 (by decide) ?_
        refine x_cmp_ne (tgt := 46) d_Bs_fits_21 (by decide) (fun c21 => ?_) (fun c21 => ?_)
        · have h := if_f c21 h
          refine x_wk (ls' := [none, none, some (.inl x2), none]) ⟨Or.inl rfl, Or.inl rfl, Or.inr rfl, Or.inl rfl, trivial⟩ ?_
          exact j_Bs_fits_46 x0 x1 x2  δ r h
        · have h := if_t c21 h
          refine x_iload_n (i := 0) d_Bs_fits_24 rfl rfl ?_
          refine x_bi (v := 11) d_Bs_fits_25 (by decide) ?_
          refine x_cmp_eq (tgt := 42) d_Bs_fits_27 (by decide) (fun c27 => ?_) (fun c27 => ?_)
          · have h := if_t c27 h
            refine x_wk (ls' := [none, none, some (.inl x2), none]) ⟨Or.inl rfl, Or.inl rfl, Or.inr rfl, Or.inl rfl, trivial⟩ ?_
            exact j_Bs_fits_42 x0 x1 x2  δ r h
          · have h := if_f c27 h
            refine x_iload_n (i := 0) d_Bs_fits_30 rfl rfl ?_
            refine x_bi (v := 12) d_Bs_fits_31 (by decide) ?_
            refine x_cmp_eq (tgt := 42) d_Bs_fits_33 (by decide) (fun c33 => ?_) (fun c33 => ?_)
            · have h := if_t c33 h
              refine x_wk (ls' := [none, none, some (.inl x2), none]) ⟨Or.inl rfl, Or.inl rfl, Or.inr rfl, Or.inl rfl, trivial⟩ ?_
              exact j_Bs_fits_42 x0 x1 x2  δ r h
            · have h := if_f c33 h
              refine x_iload_n (i := 0) d_Bs_fits_36 rfl rfl ?_
              refine x_bi (v := 21) d_Bs_fits_37 (by decide) ?_
              refine x_cmp_ne (tgt := 46) d_Bs_fits_39 (by decide) (fun c39 => ?_) (fun c39 => ?_)
              · have h := if_f c39 h
                refine x_wk (ls' := [none, none, some (.inl x2), none]) ⟨Or.inl rfl, Or.inl rfl, Or.inr rfl, Or.inl rfl, trivial⟩ ?_
                exact j_Bs_fits_46 x0 x1 x2  δ r h
              · have h := if_t c39 h
                refine x_wk (ls' := [none, none, some (.inl x2), none]) ⟨Or.inl rfl, Or.inl rfl, Or.inr rfl, Or.inl rfl, trivial⟩ ?_
                exact j_Bs_fits_42 x0 x1 x2  δ r h
      · have h := if_t c11 h
        refine x_wk (ls' := [none, none, some (.inl x2), none]) ⟨Or.inl rfl, Or.inl rfl, Or.inr rfl, Or.inl rfl, trivial⟩ ?_
        exact j_Bs_fits_14 x0 x1 x2  δ r h
theorem b_Bs_fits {x0 : Int32} {x1 : Int32} {x2 : Int32} : F_Bs_fits x0 x1 x2  = 0 ∨ F_Bs_fits x0 x1 x2  = 1 := by
  unfold F_Bs_fits F_Bs_fits_42 F_Bs_fits_46 F_Bs_fits_47 F_Bs_fits_14
  try dsimp only [bnd]
  repeat' split
  all_goals first | exact Or.inl rfl | exact Or.inr rfl | exact b_Bs_isOrder | exact b_Bs_isRound | exact b_Bs_isSharp
