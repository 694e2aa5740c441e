/-! walks by program (wip/whole/gen.py): 13.stage -/
abbrev M_St_placeOf : MM := (⟨RX9, "placeOf", "(II)I"⟩, prog_11_method_4_code, 3, (some .int))
abbrev M_St_setCell : MM := (⟨RX9, "setCell", "(III)V"⟩, prog_11_method_6_code, 5, none)
abbrev M_St_empty : MM := (⟨RX9, "empty", "(II)V"⟩, prog_11_method_2_code, 5, none)
abbrev M_St_copyFrom : MM := (⟨RX9, "copyFrom", "(LBlockStage$Stage;)V"⟩, prog_11_method_3_code, 2, none)
abbrev M_St_cellAt : MM := (⟨RX9, "cellAt", "(II)I"⟩, prog_11_method_5_code, 4, (some .int))
abbrev M_St_hasActorAt : MM := (⟨RX9, "hasActorAt", "(II)Z"⟩, prog_11_method_7_code, 5, (some .boolean))
abbrev M_St_allThings : MM := (⟨RX9, "allThings", "()I"⟩, prog_11_method_8_code, 3, (some .int))
abbrev M_St_takesCells : MM := (⟨RX9, "takesCells", "(LBlockStage$Sheets;II)Z"⟩, prog_11_method_9_code, 7, (some .boolean))
abbrev M_St_setCells : MM := (⟨RX9, "setCells", "(LBlockStage$Sheets;II)V"⟩, prog_11_method_10_code, 6, none)
abbrev M_St_addActor : MM := (⟨RX9, "addActor", "(III)I"⟩, prog_11_method_11_code, 5, (some .int))
abbrev M_St_isActor : MM := (⟨RX9, "isActor", "(I)Z"⟩, prog_11_method_12_code, 2, (some .boolean))
abbrev M_St_actorPart : MM := (⟨RX9, "actorPart", "(II)I"⟩, prog_11_method_13_code, 3, (some .int))
abbrev M_St_valueOf : MM := (⟨RX9, "valueOf", "(I)I"⟩, prog_11_method_14_code, 2, (some .int))
abbrev M_St_setValue : MM := (⟨RX9, "setValue", "(II)V"⟩, prog_11_method_15_code, 3, none)
abbrev M_St_walledOf : MM := (⟨RX9, "walledOf", "(I)I"⟩, prog_11_method_16_code, 3, (some .int))
abbrev M_St_hereOf : MM := (⟨RX9, "hereOf", "(I)I"⟩, prog_11_method_17_code, 3, (some .int))
abbrev M_St_metOf : MM := (⟨RX9, "metOf", "(I)I"⟩, prog_11_method_18_code, 3, (some .int))
abbrev M_St_goAhead : MM := (⟨RX9, "goAhead", "(I)V"⟩, prog_11_method_19_code, 3, none)
abbrev M_St_turnBy : MM := (⟨RX9, "turnBy", "(II)V"⟩, prog_11_method_20_code, 3, none)
abbrev M_St_takeThing : MM := (⟨RX9, "takeThing", "(I)V"⟩, prog_11_method_21_code, 3, none)
abbrev M_St_putThing : MM := (⟨RX9, "putThing", "(I)V"⟩, prog_11_method_22_code, 3, none)
abbrev M_St_makeRow : MM := (⟨RX9, "makeRow", "(II)I"⟩, prog_11_method_23_code, 3, (some .int))
abbrev M_St_refusalOfItem : MM := (⟨RX9, "refusalOfItem", "(II)I"⟩, prog_11_method_24_code, 3, (some .int))
abbrev M_St_itemAt : MM := (⟨RX9, "itemAt", "(II)I"⟩, prog_11_method_25_code, 3, (some .int))
abbrev M_St_setItem : MM := (⟨RX9, "setItem", "(III)V"⟩, prog_11_method_26_code, 4, none)
-- BlockStage$Stage.placeOf(II)I
theorem d_St_placeOf_0 : decode M_St_placeOf.2.1 0 = .ok (.iload_n 1, 1) := by decide +kernel
theorem d_St_placeOf_1 : decode M_St_placeOf.2.1 1 = .ok (.ifCond .lt 23, 3) := by decide +kernel
theorem d_St_placeOf_4 : decode M_St_placeOf.2.1 4 = .ok (.iload_n 2, 1) := by decide +kernel
theorem d_St_placeOf_5 : decode M_St_placeOf.2.1 5 = .ok (.ifCond .lt 19, 3) := by decide +kernel
theorem d_St_placeOf_8 : decode M_St_placeOf.2.1 8 = .ok (.iload_n 1, 1) := by decide +kernel
theorem d_St_placeOf_9 : decode M_St_placeOf.2.1 9 = .ok (.aload_n 0, 1) := by decide +kernel
theorem d_St_placeOf_10 : decode M_St_placeOf.2.1 10 = .ok (.getfield 11, 3) := by decide +kernel
theorem d_St_placeOf_13 : decode M_St_placeOf.2.1 13 = .ok (.if_icmp .ge 11, 3) := by decide +kernel
theorem d_St_placeOf_16 : decode M_St_placeOf.2.1 16 = .ok (.iload_n 2, 1) := by decide +kernel
theorem d_St_placeOf_17 : decode M_St_placeOf.2.1 17 = .ok (.aload_n 0, 1) := by decide +kernel
theorem d_St_placeOf_18 : decode M_St_placeOf.2.1 18 = .ok (.getfield 15, 3) := by decide +kernel
theorem d_St_placeOf_21 : decode M_St_placeOf.2.1 21 = .ok (.if_icmp .lt 5, 3) := by decide +kernel
theorem d_St_placeOf_24 : decode M_St_placeOf.2.1 24 = .ok (.iconst (-1), 1) := by decide +kernel
theorem d_St_placeOf_25 : decode M_St_placeOf.2.1 25 = .ok (.ireturn, 1) := by decide +kernel
theorem d_St_placeOf_26 : decode M_St_placeOf.2.1 26 = .ok (.iload_n 2, 1) := by decide +kernel
theorem d_St_placeOf_27 : decode M_St_placeOf.2.1 27 = .ok (.iconst 1, 1) := by decide +kernel
theorem d_St_placeOf_28 : decode M_St_placeOf.2.1 28 = .ok (.iadd, 1) := by decide +kernel
theorem d_St_placeOf_29 : decode M_St_placeOf.2.1 29 = .ok (.bipush 10, 2) := by decide +kernel
theorem d_St_placeOf_31 : decode M_St_placeOf.2.1 31 = .ok (.imul, 1) := by decide +kernel
theorem d_St_placeOf_32 : decode M_St_placeOf.2.1 32 = .ok (.iload_n 1, 1) := by decide +kernel
theorem d_St_placeOf_33 : decode M_St_placeOf.2.1 33 = .ok (.iadd, 1) := by decide +kernel
theorem d_St_placeOf_34 : decode M_St_placeOf.2.1 34 = .ok (.iconst 1, 1) := by decide +kernel
theorem d_St_placeOf_35 : decode M_St_placeOf.2.1 35 = .ok (.iadd, 1) := by decide +kernel
theorem d_St_placeOf_36 : decode M_St_placeOf.2.1 36 = .ok (.ireturn, 1) := by decide +kernel
theorem gl_St_11_9 : GL RX9 11 9 0 := ⟨RX9, TX9, 10, RX9, rfl, by decide, (lwg_at 76 (by decide +kernel) rfl), Or.inl rfl, gl_w inX9⟩
theorem gl_St_15_9 : GL RX9 15 9 1 := ⟨RX9, TX9, 10, RX9, rfl, by decide, (lwg_at 78 (by decide +kernel) rfl), Or.inl rfl, gl_w inX9⟩
def F_St_placeOf (a : Nat) (x1 : Int32) (x2 : Int32) (δ : Dl) : Int32 :=
  if x1 < 0 then (-1) else (if x2 < 0 then (-1) else (if (δ.1 70 a) ≤ x1 then (-1) else (if x2 < (δ.1 71 a) then (((((x2 + 1) * 10) + x1) + 1)) else (-1))))
set_option maxRecDepth 20000 in
set_option maxHeartbeats 4000000 in
theorem c_St_placeOf {l : Launch} {Γ : Gm} (hG : GC Γ) (a : Nat) (x1 : Int32) (x2 : Int32) (ha : Oc a 9) (δ : Dl) (r : Int32) (h : F_St_placeOf a x1 x2  δ = r) : Ct l M_St_placeOf 0 0 0 NF [.inr (0, a), .inl x1, .inl x2] Γ δ (some (.inl r), Γ, δ) := by
  unfold F_St_placeOf at h
  have oa := hG.ob ha
  refine Ct.of2 (n := 0) (ls := [some (.inr (0, a)), some (.inl x1), some (.inl x2)]) rfl (by decide +kernel) (Nat.le_of_ble_eq_true rfl) ?_
  refine x_iload_n (i := 1) d_St_placeOf_0 rfl rfl ?_
  refine x_if_lt (tgt := 24) d_St_placeOf_1 (by decide) (fun c1 => ?_) (fun c1 => ?_)
  · have h := if_t c1 h
    refine x_ic (v := -1) d_St_placeOf_24 (by decide) ?_
    subst h
    exact x_iret rfl d_St_placeOf_25 (Nat.le_refl 0) (Nat.le_refl 0)
  · have h := if_f c1 h
    refine x_iload_n (i := 2) d_St_placeOf_4 rfl rfl ?_
    refine x_if_lt (tgt := 24) d_St_placeOf_5 (by decide) (fun c5 => ?_) (fun c5 => ?_)
    · have h := if_t c5 h
      refine x_ic (v := -1) d_St_placeOf_24 (by decide) ?_
      subst h
      exact x_iret rfl d_St_placeOf_25 (Nat.le_refl 0) (Nat.le_refl 0)
    · have h := if_f c5 h
      refine x_iload_n (i := 1) d_St_placeOf_8 rfl rfl ?_
      refine x_aload_n (i := 0) d_St_placeOf_9 rfl rfl ?_
      refine x_getI (f := 70) gl_St_11_9 rfl kf_70 oa d_St_placeOf_10 ?_
      refine x_cmp_ge (tgt := 24) d_St_placeOf_13 (by decide) (fun c13 => ?_) (fun c13 => ?_)
      · have h := if_t c13 h
        refine x_ic (v := -1) d_St_placeOf_24 (by decide) ?_
        subst h
        exact x_iret rfl d_St_placeOf_25 (Nat.le_refl 0) (Nat.le_refl 0)
      · have h := if_f c13 h
        refine x_iload_n (i := 2) d_St_placeOf_16 rfl rfl ?_
        refine x_aload_n (i := 0) d_St_placeOf_17 rfl rfl ?_
        refine x_getI (f := 71) gl_St_15_9 rfl kf_71 oa d_St_placeOf_18 ?_
        refine x_cmp_lt (tgt := 26) d_St_placeOf_21 (by decide) (fun c21 => ?_) (fun c21 => ?_)
        · have h := if_t c21 h
          refine x_iload_n (i := 2) d_St_placeOf_26 rfl rfl ?_
          refine x_ic (v := 1) d_St_placeOf_27 (by decide) ?_
          refine x_iadd d_St_placeOf_28 ?_
          refine x_bi (v := 10) d_St_placeOf_29 (by decide) ?_
          refine x_imul d_St_placeOf_31 ?_
          refine x_iload_n (i := 1) d_St_placeOf_32 rfl rfl ?_
          refine x_iadd d_St_placeOf_33 ?_
          refine x_ic (v := 1) d_St_placeOf_34 (by decide) ?_
          refine x_iadd d_St_placeOf_35 ?_
          subst h
          exact x_iret rfl d_St_placeOf_36 (Nat.le_refl 0) (Nat.le_refl 0)
        · have h := if_f c21 h
          refine x_ic (v := -1) d_St_placeOf_24 (by decide) ?_
          subst h
          exact x_iret rfl d_St_placeOf_25 (Nat.le_refl 0) (Nat.le_refl 0)
-- BlockStage$Stage.setCell(III)V
theorem d_St_setCell_0 : decode M_St_setCell.2.1 0 = .ok (.aload_n 0, 1) := by decide +kernel
theorem d_St_setCell_1 : decode M_St_setCell.2.1 1 = .ok (.iload_n 1, 1) := by decide +kernel
theorem d_St_setCell_2 : decode M_St_setCell.2.1 2 = .ok (.iload_n 2, 1) := by decide +kernel
theorem d_St_setCell_3 : decode M_St_setCell.2.1 3 = .ok (.invokevirtual 63, 3) := by decide +kernel
theorem d_St_setCell_6 : decode M_St_setCell.2.1 6 = .ok (.istore 4, 2) := by decide +kernel
theorem d_St_setCell_8 : decode M_St_setCell.2.1 8 = .ok (.iload 4, 2) := by decide +kernel
theorem d_St_setCell_10 : decode M_St_setCell.2.1 10 = .ok (.ifCond .lt 21, 3) := by decide +kernel
theorem d_St_setCell_13 : decode M_St_setCell.2.1 13 = .ok (.iload 4, 2) := by decide +kernel
theorem d_St_setCell_15 : decode M_St_setCell.2.1 15 = .ok (.aload_n 0, 1) := by decide +kernel
theorem d_St_setCell_16 : decode M_St_setCell.2.1 16 = .ok (.getfield 21, 3) := by decide +kernel
theorem d_St_setCell_19 : decode M_St_setCell.2.1 19 = .ok (.arraylength, 1) := by decide +kernel
theorem d_St_setCell_20 : decode M_St_setCell.2.1 20 = .ok (.if_icmp .ge 11, 3) := by decide +kernel
theorem d_St_setCell_23 : decode M_St_setCell.2.1 23 = .ok (.aload_n 0, 1) := by decide +kernel
theorem d_St_setCell_24 : decode M_St_setCell.2.1 24 = .ok (.getfield 21, 3) := by decide +kernel
theorem d_St_setCell_27 : decode M_St_setCell.2.1 27 = .ok (.iload 4, 2) := by decide +kernel
theorem d_St_setCell_29 : decode M_St_setCell.2.1 29 = .ok (.iload_n 3, 1) := by decide +kernel
theorem d_St_setCell_30 : decode M_St_setCell.2.1 30 = .ok (.iastore, 1) := by decide +kernel
theorem d_St_setCell_31 : decode M_St_setCell.2.1 31 = .ok (.return_, 1) := by decide +kernel
theorem mi_St_placeOf : MI M_St_placeOf 2 := ⟨(lwg_at 3 (by decide +kernel) rfl), (lwg_at 75 (by decide +kernel) rfl), ⟨by decide +kernel, by decide +kernel⟩, by decide +kernel, by decide⟩
theorem cs_St_63 : CV RX9 63 RX9 M_St_placeOf 2 := ⟨(lwg_at 72 (by decide +kernel) rfl), (lwg_at 74 (by decide +kernel) rfl), (lwg_priv 0 (y := M_St_placeOf.1) (n := 10) (by decide +kernel)), mi_St_placeOf⟩
theorem gl_St_21_9 : GL RX9 21 9 3 := ⟨RX9, TX9, 10, RX9, rfl, by decide, (lwg_at 82 (by decide +kernel) rfl), Or.inl rfl, gl_w inX9⟩
def F_St_setCell (a : Nat) (x1 : Int32) (x2 : Int32) (x3 : Int32) (δ : Dl) : Option (Dl) :=
  bnd (F_St_placeOf a x1 x2 δ) fun v3 => if v3 < 0 then (some δ) else (if 100 ≤ v3 then (some δ) else (if inb v3 100 then bnd (sA δ 73 a v3 x3) fun δ30 => some δ30 else none))
set_option maxRecDepth 20000 in
set_option maxHeartbeats 4000000 in
theorem c_St_setCell {l : Launch} {Γ : Gm} (hG : GC Γ) (a : Nat) (x1 : Int32) (x2 : Int32) (x3 : Int32) (ha : Oc a 9) (δ : Dl) (r : Dl) (h : F_St_setCell a x1 x2 x3  δ = some r) : Ct l M_St_setCell 1 0 0 NF [.inr (0, a), .inl x1, .inl x2, .inl x3] Γ δ (none, Γ, r) := by
  unfold F_St_setCell at h
  have oa := hG.ob ha
  refine Ct.of2 (n := 1) (ls := [some (.inr (0, a)), some (.inl x1), some (.inl x2), some (.inl x3), none]) rfl (by decide +kernel) (Nat.le_of_ble_eq_true rfl) ?_
  refine x_aload_n (i := 0) d_St_setCell_0 rfl rfl ?_
  refine x_iload_n (i := 1) d_St_setCell_1 rfl rfl ?_
  refine x_iload_n (i := 2) d_St_setCell_2 rfl rfl ?_
  obtain ⟨v3, ev3, h⟩ := bn_e h
  refine y_V2 cs_St_63 rfl oa (by first | decide | omega) (Nat.le_of_ble_eq_true rfl) d_St_setCell_3 (c_St_placeOf hG a x1 x2 ha δ v3 ev3) (Nat.le_refl 0) (Nat.le_refl 0) ?_
  refine x_stw (i := 4) (ls' := [some (.inr (0, a)), some (.inl x1), some (.inl x2), some (.inl x3), some (.inl v3)]) d_St_setCell_6 (by decide) rfl ?_
  refine x_iload (i := 4) d_St_setCell_8 rfl ?_
  refine x_if_lt (tgt := 31) d_St_setCell_10 (by decide) (fun c10 => ?_) (fun c10 => ?_)
  · have h := if_t c10 h
    replace h := Option.some.inj h; subst h
    exact x_vret rfl d_St_setCell_31 (Nat.le_refl 0) (Nat.le_refl 0)
  · have h := if_f c10 h
    refine x_iload (i := 4) d_St_setCell_13 rfl ?_
    refine x_aload_n (i := 0) d_St_setCell_15 rfl rfl ?_
    refine x_getA (f := 73) gl_St_21_9 rfl (by rw [kf_73]; decide) oa d_St_setCell_16 ?_
    refine x_alen (n := 100) (Or.inl kf_73) (oz_73 oa) (lo_73 _) d_St_setCell_19 ?_
    refine x_cmp_ge (tgt := 31) d_St_setCell_20 (by decide) (fun c20 => ?_) (fun c20 => ?_)
    · have h := if_t c20 h
      replace h := Option.some.inj h; subst h
      exact x_vret rfl d_St_setCell_31 (Nat.le_refl 0) (Nat.le_refl 0)
    · have h := if_f c20 h
      refine x_aload_n (i := 0) d_St_setCell_23 rfl rfl ?_
      refine x_getA (f := 73) gl_St_21_9 rfl (by rw [kf_73]; decide) oa d_St_setCell_24 ?_
      refine x_iload (i := 4) d_St_setCell_27 rfl ?_
      refine x_iload_n (i := 3) d_St_setCell_29 rfl rfl ?_
      obtain ⟨g30, h⟩ := gd_e h
      obtain ⟨δ30, eδ30, h⟩ := bn_e h
      refine x_iast (n := 100) kf_73 (oz_73 oa) (ln_73 _) g30 d_St_setCell_30 (Xe.cδ eδ30 ?_)
      replace h := Option.some.inj h; subst h
      exact x_vret rfl d_St_setCell_31 (Nat.le_refl 0) (Nat.le_refl 0)
-- BlockStage$Stage.empty(II)V
theorem d_St_empty_0 : decode M_St_empty.2.1 0 = .ok (.aload_n 0, 1) := by decide +kernel
theorem d_St_empty_1 : decode M_St_empty.2.1 1 = .ok (.iload_n 1, 1) := by decide +kernel
theorem d_St_empty_2 : decode M_St_empty.2.1 2 = .ok (.putfield 11, 3) := by decide +kernel
theorem d_St_empty_5 : decode M_St_empty.2.1 5 = .ok (.aload_n 0, 1) := by decide +kernel
theorem d_St_empty_6 : decode M_St_empty.2.1 6 = .ok (.iload_n 2, 1) := by decide +kernel
theorem d_St_empty_7 : decode M_St_empty.2.1 7 = .ok (.putfield 15, 3) := by decide +kernel
theorem d_St_empty_10 : decode M_St_empty.2.1 10 = .ok (.aload_n 0, 1) := by decide +kernel
theorem d_St_empty_11 : decode M_St_empty.2.1 11 = .ok (.iconst 0, 1) := by decide +kernel
theorem d_St_empty_12 : decode M_St_empty.2.1 12 = .ok (.putfield 18, 3) := by decide +kernel
theorem d_St_empty_15 : decode M_St_empty.2.1 15 = .ok (.aload_n 0, 1) := by decide +kernel
theorem d_St_empty_16 : decode M_St_empty.2.1 16 = .ok (.getfield 21, 3) := by decide +kernel
theorem d_St_empty_19 : decode M_St_empty.2.1 19 = .ok (.iconst (-1), 1) := by decide +kernel
theorem d_St_empty_20 : decode M_St_empty.2.1 20 = .ok (.invokestatic 47, 3) := by decide +kernel
theorem d_St_empty_23 : decode M_St_empty.2.1 23 = .ok (.iconst 0, 1) := by decide +kernel
theorem d_St_empty_24 : decode M_St_empty.2.1 24 = .ok (.istore_n 3, 1) := by decide +kernel
theorem d_St_empty_25 : decode M_St_empty.2.1 25 = .ok (.iload_n 3, 1) := by decide +kernel
theorem d_St_empty_26 : decode M_St_empty.2.1 26 = .ok (.iload_n 2, 1) := by decide +kernel
theorem d_St_empty_27 : decode M_St_empty.2.1 27 = .ok (.if_icmp .ge 32, 3) := by decide +kernel
theorem d_St_empty_30 : decode M_St_empty.2.1 30 = .ok (.iconst 0, 1) := by decide +kernel
theorem d_St_empty_31 : decode M_St_empty.2.1 31 = .ok (.istore 4, 2) := by decide +kernel
theorem d_St_empty_33 : decode M_St_empty.2.1 33 = .ok (.iload 4, 2) := by decide +kernel
theorem d_St_empty_35 : decode M_St_empty.2.1 35 = .ok (.iload_n 1, 1) := by decide +kernel
theorem d_St_empty_36 : decode M_St_empty.2.1 36 = .ok (.if_icmp .ge 17, 3) := by decide +kernel
theorem d_St_empty_39 : decode M_St_empty.2.1 39 = .ok (.aload_n 0, 1) := by decide +kernel
theorem d_St_empty_40 : decode M_St_empty.2.1 40 = .ok (.iload 4, 2) := by decide +kernel
theorem d_St_empty_42 : decode M_St_empty.2.1 42 = .ok (.iload_n 3, 1) := by decide +kernel
theorem d_St_empty_43 : decode M_St_empty.2.1 43 = .ok (.iconst 0, 1) := by decide +kernel
theorem d_St_empty_44 : decode M_St_empty.2.1 44 = .ok (.invokevirtual 53, 3) := by decide +kernel
theorem d_St_empty_47 : decode M_St_empty.2.1 47 = .ok (.iinc 4 1, 3) := by decide +kernel
theorem d_St_empty_50 : decode M_St_empty.2.1 50 = .ok (.goto (-17), 3) := by decide +kernel
theorem d_St_empty_53 : decode M_St_empty.2.1 53 = .ok (.iinc 3 1, 3) := by decide +kernel
theorem d_St_empty_56 : decode M_St_empty.2.1 56 = .ok (.goto (-31), 3) := by decide +kernel
theorem d_St_empty_59 : decode M_St_empty.2.1 59 = .ok (.return_, 1) := by decide +kernel
theorem gp_St_11_9 : GP RX9 11 9 0 false .int := ⟨RX9, TX9, 10, RX9, tyX9, rfl, by decide, (lwg_at 76 (by decide +kernel) rfl), rfl, gl_w inX9, tyX9_ok, nmX9, rfl, by decide +kernel, fun h => by first | rfl | cases h⟩
theorem gp_St_15_9 : GP RX9 15 9 1 false .int := ⟨RX9, TX9, 10, RX9, tyX9, rfl, by decide, (lwg_at 78 (by decide +kernel) rfl), rfl, gl_w inX9, tyX9_ok, nmX9, rfl, by decide +kernel, fun h => by first | rfl | cases h⟩
theorem gp_St_18_9 : GP RX9 18 9 2 false .int := ⟨RX9, TX9, 10, RX9, tyX9, rfl, by decide, (lwg_at 80 (by decide +kernel) rfl), rfl, gl_w inX9, tyX9_ok, nmX9, rfl, by decide +kernel, fun h => by first | rfl | cases h⟩
theorem mi_Ar_fill2 : MI M_Ar_fill2 2 := ⟨(lwg_at 4 (by decide +kernel) rfl), (lwg_at 67 (by decide +kernel) rfl), ⟨by decide +kernel, by decide +kernel⟩, by decide +kernel, by decide⟩
theorem cs_St_47 : CS RX9 47 M_Ar_fill2 2 := ⟨(lwg_at 65 (by decide +kernel) rfl), (lwg_at 66 (by decide +kernel) rfl), mi_Ar_fill2⟩
theorem mi_St_setCell : MI M_St_setCell 3 := ⟨(lwg_at 3 (by decide +kernel) rfl), (lwg_at 71 (by decide +kernel) rfl), ⟨by decide +kernel, by decide +kernel⟩, by decide +kernel, by decide⟩
theorem cs_St_53 : CV RX9 53 RX9 M_St_setCell 3 := ⟨(lwg_at 68 (by decide +kernel) rfl), (lwg_at 69 (by decide +kernel) rfl), (lwg_at 70 (by decide +kernel) rfl), mi_St_setCell⟩
def F_St_empty_33_b (a : Nat) (x1 : Int32) (x2 : Int32) (k25 : Int32 → Dl → Option (Dl)) (k33 : Int32 → Int32 → Dl → Option (Dl)) (x3 : Int32) (x4 : Int32) (δ : Dl) : Option (Dl) :=
  if x1 ≤ x4 then (k25 ((x3 + 1)) δ) else ((F_St_setCell a x4 x3 0 δ).bind fun δ44 => k33 x3 ((x4 + 1)) δ44)
set_option maxRecDepth 20000 in
set_option maxHeartbeats 4000000 in
theorem j_St_empty_33_b {l : Launch} {Γ : Gm} (hG : GC Γ) (a : Nat) (x1 : Int32) (x2 : Int32) (ha : Oc a 9) (k25 : Int32 → Dl → Option (Dl)) (k33 : Int32 → Int32 → Dl → Option (Dl)) (x3 : Int32) (x4 : Int32) (δ : Dl) (r : Dl) (hk25 : ∀ (x3 : Int32) (δ : Dl),  k25 x3 δ = some r → Xe l M_St_empty 2 0 0 NF 25 [some (.inr (0, a)), some (.inl x1), some (.inl x2), some (.inl x3), none] [] 0 0 Γ δ (none, Γ, r)) (hk33 : ∀ (x3 : Int32) (x4 : Int32) (δ : Dl),  k33 x3 x4 δ = some r → Xe l M_St_empty 2 0 0 NF 33 [some (.inr (0, a)), some (.inl x1), some (.inl x2), some (.inl x3), some (.inl x4)] [] 0 0 Γ δ (none, Γ, r)) (h : F_St_empty_33_b a x1 x2 k25 k33 x3 x4 δ = some r) : Xe l M_St_empty 2 0 0 NF 33 [some (.inr (0, a)), some (.inl x1), some (.inl x2), some (.inl x3), some (.inl x4)] [] 0 0 Γ δ (none, Γ, r) := by
  unfold F_St_empty_33_b at h
  have oa := hG.ob ha
  refine x_iload (i := 4) d_St_empty_33 rfl ?_
  refine x_iload_n (i := 1) d_St_empty_35 rfl rfl ?_
  refine x_cmp_ge (tgt := 53) d_St_empty_36 (by decide) (fun c36 => ?_) (fun c36 => ?_)
  · have h := if_t c36 h
    refine x_inc (i := 3) (c0 := 1) (ls' := [some (.inr (0, a)), some (.inl x1), some (.inl x2), some (.inl (x3 + 1)), some (.inl x4)]) d_St_empty_53 (by decide) rfl (by decide) rfl ?_
    refine x_goto (tgt := 25) d_St_empty_56 (by decide) ?_
    refine x_wk (ls' := [some (.inr (0, a)), some (.inl x1), some (.inl x2), some (.inl (x3 + 1)), none]) ⟨Or.inr rfl, Or.inr rfl, Or.inr rfl, Or.inr rfl, Or.inl rfl, trivial⟩ ?_
    exact hk25 ((x3 + 1)) δ h
  · have h := if_f c36 h
    refine x_aload_n (i := 0) d_St_empty_39 rfl rfl ?_
    refine x_iload (i := 4) d_St_empty_40 rfl ?_
    refine x_iload_n (i := 3) d_St_empty_42 rfl rfl ?_
    refine x_ic (v := 0) d_St_empty_43 (by decide) ?_
    obtain ⟨δ44, eδ44, h⟩ := bd_e h
    refine y_V3v cs_St_53 rfl oa (by first | decide | omega) (Nat.le_of_ble_eq_true rfl) d_St_empty_44 (c_St_setCell hG a x4 x3 0 ha δ δ44 eδ44) (Nat.le_refl 0) (Nat.le_refl 0) ?_
    refine x_inc (i := 4) (c0 := 1) (ls' := [some (.inr (0, a)), some (.inl x1), some (.inl x2), some (.inl x3), some (.inl (x4 + 1))]) d_St_empty_47 (by decide) rfl (by decide) rfl ?_
    refine x_goto (tgt := 33) d_St_empty_50 (by decide) ?_
    exact hk33 x3 ((x4 + 1)) δ44 h
def F_St_empty_33 (a : Nat) (x1 : Int32) (x2 : Int32) (k25 : Int32 → Dl → Option (Dl)) : Nat → Int32 → Int32 → Dl → Option (Dl)
  | 0, _, _, _ => none
  | n + 1, x3, x4, δ => F_St_empty_33_b a x1 x2 k25 (F_St_empty_33 a x1 x2 k25 n) x3 x4 δ
theorem j_St_empty_33 {l : Launch} {Γ : Gm} (hG : GC Γ) (a : Nat) (x1 : Int32) (x2 : Int32) (ha : Oc a 9) (k25 : Int32 → Dl → Option (Dl)) (n : Nat) (x3 : Int32) (x4 : Int32) (δ : Dl) (r : Dl) (hk25 : ∀ (x3 : Int32) (δ : Dl),  k25 x3 δ = some r → Xe l M_St_empty 2 0 0 NF 25 [some (.inr (0, a)), some (.inl x1), some (.inl x2), some (.inl x3), none] [] 0 0 Γ δ (none, Γ, r)) (h : F_St_empty_33 a x1 x2 k25 n x3 x4 δ = some r) : Xe l M_St_empty 2 0 0 NF 33 [some (.inr (0, a)), some (.inl x1), some (.inl x2), some (.inl x3), some (.inl x4)] [] 0 0 Γ δ (none, Γ, r) := by
  induction n generalizing x3 x4 δ with
  | zero => cases h
  | succ n ih => exact j_St_empty_33_b hG a x1 x2 ha k25 (F_St_empty_33 a x1 x2 k25 n) x3 x4 δ r hk25 (fun x3 x4 δ hh => ih x3 x4 δ hh) h
def F_St_empty_25_b (a : Nat) (x1 : Int32) (x2 : Int32) (k25 : Int32 → Dl → Option (Dl)) (x3 : Int32) (δ : Dl) : Option (Dl) :=
  if x2 ≤ x3 then (some δ) else (F_St_empty_33 a x1 x2 k25 FU x3 0 δ)
set_option maxRecDepth 20000 in
set_option maxHeartbeats 4000000 in
theorem j_St_empty_25_b {l : Launch} {Γ : Gm} (hG : GC Γ) (a : Nat) (x1 : Int32) (x2 : Int32) (ha : Oc a 9) (k25 : Int32 → Dl → Option (Dl)) (x3 : Int32) (δ : Dl) (r : Dl) (hk25 : ∀ (x3 : Int32) (δ : Dl),  k25 x3 δ = some r → Xe l M_St_empty 2 0 0 NF 25 [some (.inr (0, a)), some (.inl x1), some (.inl x2), some (.inl x3), none] [] 0 0 Γ δ (none, Γ, r)) (h : F_St_empty_25_b a x1 x2 k25 x3 δ = some r) : Xe l M_St_empty 2 0 0 NF 25 [some (.inr (0, a)), some (.inl x1), some (.inl x2), some (.inl x3), none] [] 0 0 Γ δ (none, Γ, r) := by
  unfold F_St_empty_25_b at h
  have oa := hG.ob ha
  refine x_iload_n (i := 3) d_St_empty_25 rfl rfl ?_
  refine x_iload_n (i := 2) d_St_empty_26 rfl rfl ?_
  refine x_cmp_ge (tgt := 59) d_St_empty_27 (by decide) (fun c27 => ?_) (fun c27 => ?_)
  · have h := if_t c27 h
    replace h := Option.some.inj h; subst h
    exact x_vret rfl d_St_empty_59 (Nat.le_refl 0) (Nat.le_refl 0)
  · have h := if_f c27 h
    refine x_ic (v := 0) d_St_empty_30 (by decide) ?_
    refine x_stw (i := 4) (ls' := [some (.inr (0, a)), some (.inl x1), some (.inl x2), some (.inl x3), some (.inl 0)]) d_St_empty_31 (by decide) rfl ?_
    exact j_St_empty_33 hG a x1 x2 ha k25 FU x3 0 δ r hk25 h
def F_St_empty_25 (a : Nat) (x1 : Int32) (x2 : Int32) : Nat → Int32 → Dl → Option (Dl)
  | 0, _, _ => none
  | n + 1, x3, δ => F_St_empty_25_b a x1 x2 (F_St_empty_25 a x1 x2 n) x3 δ
theorem j_St_empty_25 {l : Launch} {Γ : Gm} (hG : GC Γ) (a : Nat) (x1 : Int32) (x2 : Int32) (ha : Oc a 9) (n : Nat) (x3 : Int32) (δ : Dl) (r : Dl) (h : F_St_empty_25 a x1 x2 n x3 δ = some r) : Xe l M_St_empty 2 0 0 NF 25 [some (.inr (0, a)), some (.inl x1), some (.inl x2), some (.inl x3), none] [] 0 0 Γ δ (none, Γ, r) := by
  induction n generalizing x3 δ with
  | zero => cases h
  | succ n ih => exact j_St_empty_25_b hG a x1 x2 ha (F_St_empty_25 a x1 x2 n) x3 δ r (fun x3 δ hh => ih x3 δ hh) h
def F_St_empty (a : Nat) (x1 : Int32) (x2 : Int32) (δ : Dl) : Option (Dl) :=
  bnd (sI δ 70 a x1) fun δ2 => bnd (sI δ2 71 a x2) fun δ7 => bnd (sI δ7 72 a 0) fun δ12 => (F_Ar_fill2 73 a 100 (-1) δ12).bind fun δ20 => F_St_empty_25 a x1 x2 FU 0 δ20
set_option maxRecDepth 20000 in
set_option maxHeartbeats 4000000 in
theorem c_St_empty {l : Launch} {Γ : Gm} (hG : GC Γ) (a : Nat) (x1 : Int32) (x2 : Int32) (ha : Oc a 9) (δ : Dl) (r : Dl) (h : F_St_empty a x1 x2  δ = some r) : Ct l M_St_empty 2 0 0 NF [.inr (0, a), .inl x1, .inl x2] Γ δ (none, Γ, r) := by
  unfold F_St_empty at h
  have oa := hG.ob ha
  refine Ct.of2 (n := 2) (ls := [some (.inr (0, a)), some (.inl x1), some (.inl x2), none, none]) rfl (by decide +kernel) (Nat.le_of_ble_eq_true rfl) ?_
  refine x_aload_n (i := 0) d_St_empty_0 rfl rfl ?_
  refine x_iload_n (i := 1) d_St_empty_1 rfl rfl ?_
  obtain ⟨δ2, eδ2, h⟩ := bn_e h
  refine x_putI (f := 70) gp_St_11_9 rfl kf_70 (fun h => by cases h) rfl rfl oa.1 oa.z d_St_empty_2 (Xe.cδ eδ2 ?_)
  refine x_aload_n (i := 0) d_St_empty_5 rfl rfl ?_
  refine x_iload_n (i := 2) d_St_empty_6 rfl rfl ?_
  obtain ⟨δ7, eδ7, h⟩ := bn_e h
  refine x_putI (f := 71) gp_St_15_9 rfl kf_71 (fun h => by cases h) rfl rfl oa.1 oa.z d_St_empty_7 (Xe.cδ eδ7 ?_)
  refine x_aload_n (i := 0) d_St_empty_10 rfl rfl ?_
  refine x_ic (v := 0) d_St_empty_11 (by decide) ?_
  obtain ⟨δ12, eδ12, h⟩ := bn_e h
  refine x_putI (f := 72) gp_St_18_9 rfl kf_72 (fun h => by cases h) rfl rfl oa.1 oa.z d_St_empty_12 (Xe.cδ eδ12 ?_)
  refine x_aload_n (i := 0) d_St_empty_15 rfl rfl ?_
  refine x_getA (f := 73) gl_St_21_9 rfl (by rw [kf_73]; decide) oa d_St_empty_16 ?_
  refine x_ic (v := -1) d_St_empty_19 (by decide) ?_
  obtain ⟨δ20, eδ20, h⟩ := bd_e h
  refine y_S2v cs_St_47 (by first | decide | omega) (Nat.le_of_ble_eq_true rfl) d_St_empty_20 (c_Ar_fill2 73 a 100 (-1) kf_73 (oz_73 oa) (ln_73 _) (lo_73 _) δ12 δ20 eδ20) (Nat.le_refl 0) (Nat.le_refl 0) ?_
  refine x_ic (v := 0) d_St_empty_23 (by decide) ?_
  refine x_stn (i := 3) (ls' := [some (.inr (0, a)), some (.inl x1), some (.inl x2), some (.inl 0), none]) d_St_empty_24 rfl (by decide) rfl ?_
  exact j_St_empty_25 hG a x1 x2 ha FU 0 δ20 r h
-- BlockStage$Stage.copyFrom(LBlockStage$Stage;)V
theorem d_St_copyFrom_0 : decode M_St_copyFrom.2.1 0 = .ok (.aload_n 0, 1) := by decide +kernel
theorem d_St_copyFrom_1 : decode M_St_copyFrom.2.1 1 = .ok (.aload_n 1, 1) := by decide +kernel
theorem d_St_copyFrom_2 : decode M_St_copyFrom.2.1 2 = .ok (.getfield 11, 3) := by decide +kernel
theorem d_St_copyFrom_5 : decode M_St_copyFrom.2.1 5 = .ok (.putfield 11, 3) := by decide +kernel
theorem d_St_copyFrom_8 : decode M_St_copyFrom.2.1 8 = .ok (.aload_n 0, 1) := by decide +kernel
theorem d_St_copyFrom_9 : decode M_St_copyFrom.2.1 9 = .ok (.aload_n 1, 1) := by decide +kernel
theorem d_St_copyFrom_10 : decode M_St_copyFrom.2.1 10 = .ok (.getfield 15, 3) := by decide +kernel
theorem d_St_copyFrom_13 : decode M_St_copyFrom.2.1 13 = .ok (.putfield 15, 3) := by decide +kernel
theorem d_St_copyFrom_16 : decode M_St_copyFrom.2.1 16 = .ok (.aload_n 0, 1) := by decide +kernel
theorem d_St_copyFrom_17 : decode M_St_copyFrom.2.1 17 = .ok (.aload_n 1, 1) := by decide +kernel
theorem d_St_copyFrom_18 : decode M_St_copyFrom.2.1 18 = .ok (.getfield 18, 3) := by decide +kernel
theorem d_St_copyFrom_21 : decode M_St_copyFrom.2.1 21 = .ok (.putfield 18, 3) := by decide +kernel
theorem d_St_copyFrom_24 : decode M_St_copyFrom.2.1 24 = .ok (.aload_n 1, 1) := by decide +kernel
theorem d_St_copyFrom_25 : decode M_St_copyFrom.2.1 25 = .ok (.getfield 21, 3) := by decide +kernel
theorem d_St_copyFrom_28 : decode M_St_copyFrom.2.1 28 = .ok (.iconst 0, 1) := by decide +kernel
theorem d_St_copyFrom_29 : decode M_St_copyFrom.2.1 29 = .ok (.aload_n 0, 1) := by decide +kernel
theorem d_St_copyFrom_30 : decode M_St_copyFrom.2.1 30 = .ok (.getfield 21, 3) := by decide +kernel
theorem d_St_copyFrom_33 : decode M_St_copyFrom.2.1 33 = .ok (.iconst 0, 1) := by decide +kernel
theorem d_St_copyFrom_34 : decode M_St_copyFrom.2.1 34 = .ok (.aload_n 0, 1) := by decide +kernel
theorem d_St_copyFrom_35 : decode M_St_copyFrom.2.1 35 = .ok (.getfield 21, 3) := by decide +kernel
theorem d_St_copyFrom_38 : decode M_St_copyFrom.2.1 38 = .ok (.arraylength, 1) := by decide +kernel
theorem d_St_copyFrom_39 : decode M_St_copyFrom.2.1 39 = .ok (.invokestatic 57, 3) := by decide +kernel
theorem d_St_copyFrom_42 : decode M_St_copyFrom.2.1 42 = .ok (.aload_n 1, 1) := by decide +kernel
theorem d_St_copyFrom_43 : decode M_St_copyFrom.2.1 43 = .ok (.getfield 25, 3) := by decide +kernel
theorem d_St_copyFrom_46 : decode M_St_copyFrom.2.1 46 = .ok (.iconst 0, 1) := by decide +kernel
theorem d_St_copyFrom_47 : decode M_St_copyFrom.2.1 47 = .ok (.aload_n 0, 1) := by decide +kernel
theorem d_St_copyFrom_48 : decode M_St_copyFrom.2.1 48 = .ok (.getfield 25, 3) := by decide +kernel
theorem d_St_copyFrom_51 : decode M_St_copyFrom.2.1 51 = .ok (.iconst 0, 1) := by decide +kernel
theorem d_St_copyFrom_52 : decode M_St_copyFrom.2.1 52 = .ok (.iconst 3, 1) := by decide +kernel
theorem d_St_copyFrom_53 : decode M_St_copyFrom.2.1 53 = .ok (.invokestatic 57, 3) := by decide +kernel
theorem d_St_copyFrom_56 : decode M_St_copyFrom.2.1 56 = .ok (.aload_n 1, 1) := by decide +kernel
theorem d_St_copyFrom_57 : decode M_St_copyFrom.2.1 57 = .ok (.getfield 28, 3) := by decide +kernel
theorem d_St_copyFrom_60 : decode M_St_copyFrom.2.1 60 = .ok (.iconst 0, 1) := by decide +kernel
theorem d_St_copyFrom_61 : decode M_St_copyFrom.2.1 61 = .ok (.aload_n 0, 1) := by decide +kernel
theorem d_St_copyFrom_62 : decode M_St_copyFrom.2.1 62 = .ok (.getfield 28, 3) := by decide +kernel
theorem d_St_copyFrom_65 : decode M_St_copyFrom.2.1 65 = .ok (.iconst 0, 1) := by decide +kernel
theorem d_St_copyFrom_66 : decode M_St_copyFrom.2.1 66 = .ok (.iconst 3, 1) := by decide +kernel
theorem d_St_copyFrom_67 : decode M_St_copyFrom.2.1 67 = .ok (.invokestatic 57, 3) := by decide +kernel
theorem d_St_copyFrom_70 : decode M_St_copyFrom.2.1 70 = .ok (.aload_n 1, 1) := by decide +kernel
theorem d_St_copyFrom_71 : decode M_St_copyFrom.2.1 71 = .ok (.getfield 31, 3) := by decide +kernel
theorem d_St_copyFrom_74 : decode M_St_copyFrom.2.1 74 = .ok (.iconst 0, 1) := by decide +kernel
theorem d_St_copyFrom_75 : decode M_St_copyFrom.2.1 75 = .ok (.aload_n 0, 1) := by decide +kernel
theorem d_St_copyFrom_76 : decode M_St_copyFrom.2.1 76 = .ok (.getfield 31, 3) := by decide +kernel
theorem d_St_copyFrom_79 : decode M_St_copyFrom.2.1 79 = .ok (.iconst 0, 1) := by decide +kernel
theorem d_St_copyFrom_80 : decode M_St_copyFrom.2.1 80 = .ok (.iconst 3, 1) := by decide +kernel
theorem d_St_copyFrom_81 : decode M_St_copyFrom.2.1 81 = .ok (.invokestatic 57, 3) := by decide +kernel
theorem d_St_copyFrom_84 : decode M_St_copyFrom.2.1 84 = .ok (.aload_n 1, 1) := by decide +kernel
theorem d_St_copyFrom_85 : decode M_St_copyFrom.2.1 85 = .ok (.getfield 34, 3) := by decide +kernel
theorem d_St_copyFrom_88 : decode M_St_copyFrom.2.1 88 = .ok (.iconst 0, 1) := by decide +kernel
theorem d_St_copyFrom_89 : decode M_St_copyFrom.2.1 89 = .ok (.aload_n 0, 1) := by decide +kernel
theorem d_St_copyFrom_90 : decode M_St_copyFrom.2.1 90 = .ok (.getfield 34, 3) := by decide +kernel
theorem d_St_copyFrom_93 : decode M_St_copyFrom.2.1 93 = .ok (.iconst 0, 1) := by decide +kernel
theorem d_St_copyFrom_94 : decode M_St_copyFrom.2.1 94 = .ok (.iconst 3, 1) := by decide +kernel
theorem d_St_copyFrom_95 : decode M_St_copyFrom.2.1 95 = .ok (.invokestatic 57, 3) := by decide +kernel
theorem d_St_copyFrom_98 : decode M_St_copyFrom.2.1 98 = .ok (.aload_n 1, 1) := by decide +kernel
theorem d_St_copyFrom_99 : decode M_St_copyFrom.2.1 99 = .ok (.getfield 37, 3) := by decide +kernel
theorem d_St_copyFrom_102 : decode M_St_copyFrom.2.1 102 = .ok (.iconst 0, 1) := by decide +kernel
theorem d_St_copyFrom_103 : decode M_St_copyFrom.2.1 103 = .ok (.aload_n 0, 1) := by decide +kernel
theorem d_St_copyFrom_104 : decode M_St_copyFrom.2.1 104 = .ok (.getfield 37, 3) := by decide +kernel
theorem d_St_copyFrom_107 : decode M_St_copyFrom.2.1 107 = .ok (.iconst 0, 1) := by decide +kernel
theorem d_St_copyFrom_108 : decode M_St_copyFrom.2.1 108 = .ok (.iconst 3, 1) := by decide +kernel
theorem d_St_copyFrom_109 : decode M_St_copyFrom.2.1 109 = .ok (.invokestatic 57, 3) := by decide +kernel
theorem d_St_copyFrom_112 : decode M_St_copyFrom.2.1 112 = .ok (.aload_n 1, 1) := by decide +kernel
theorem d_St_copyFrom_113 : decode M_St_copyFrom.2.1 113 = .ok (.getfield 40, 3) := by decide +kernel
theorem d_St_copyFrom_116 : decode M_St_copyFrom.2.1 116 = .ok (.iconst 0, 1) := by decide +kernel
theorem d_St_copyFrom_117 : decode M_St_copyFrom.2.1 117 = .ok (.aload_n 0, 1) := by decide +kernel
theorem d_St_copyFrom_118 : decode M_St_copyFrom.2.1 118 = .ok (.getfield 40, 3) := by decide +kernel
theorem d_St_copyFrom_121 : decode M_St_copyFrom.2.1 121 = .ok (.iconst 0, 1) := by decide +kernel
theorem d_St_copyFrom_122 : decode M_St_copyFrom.2.1 122 = .ok (.aload_n 0, 1) := by decide +kernel
theorem d_St_copyFrom_123 : decode M_St_copyFrom.2.1 123 = .ok (.getfield 40, 3) := by decide +kernel
theorem d_St_copyFrom_126 : decode M_St_copyFrom.2.1 126 = .ok (.arraylength, 1) := by decide +kernel
theorem d_St_copyFrom_127 : decode M_St_copyFrom.2.1 127 = .ok (.invokestatic 57, 3) := by decide +kernel
theorem d_St_copyFrom_130 : decode M_St_copyFrom.2.1 130 = .ok (.return_, 1) := by decide +kernel
theorem gl_St_18_9 : GL RX9 18 9 2 := ⟨RX9, TX9, 10, RX9, rfl, by decide, (lwg_at 80 (by decide +kernel) rfl), Or.inl rfl, gl_w inX9⟩
theorem ac_St_57 : Cond.methodLink RX9 57 arraycopyName ∈ lwg := (lwg_at 365 (by decide +kernel) rfl)
theorem gl_St_25_9 : GL RX9 25 9 4 := ⟨RX9, TX9, 10, RX9, rfl, by decide, (lwg_at 83 (by decide +kernel) rfl), Or.inl rfl, gl_w inX9⟩
theorem gl_St_28_9 : GL RX9 28 9 5 := ⟨RX9, TX9, 10, RX9, rfl, by decide, (lwg_at 84 (by decide +kernel) rfl), Or.inl rfl, gl_w inX9⟩
theorem gl_St_31_9 : GL RX9 31 9 6 := ⟨RX9, TX9, 10, RX9, rfl, by decide, (lwg_at 85 (by decide +kernel) rfl), Or.inl rfl, gl_w inX9⟩
theorem gl_St_34_9 : GL RX9 34 9 7 := ⟨RX9, TX9, 10, RX9, rfl, by decide, (lwg_at 86 (by decide +kernel) rfl), Or.inl rfl, gl_w inX9⟩
theorem gl_St_37_9 : GL RX9 37 9 8 := ⟨RX9, TX9, 10, RX9, rfl, by decide, (lwg_at 87 (by decide +kernel) rfl), Or.inl rfl, gl_w inX9⟩
theorem gl_St_40_9 : GL RX9 40 9 9 := ⟨RX9, TX9, 10, RX9, rfl, by decide, (lwg_at 88 (by decide +kernel) rfl), Or.inl rfl, gl_w inX9⟩
def F_St_copyFrom (a : Nat) (x1 : Nat) (δ : Dl) : Option (Dl) :=
  bnd (sI δ 70 a (δ.1 70 x1)) fun δ5 => bnd (sI δ5 71 a (δ5.1 71 x1)) fun δ13 => bnd (sI δ13 72 a (δ13.1 72 x1)) fun δ21 => bnd (cpA δ21 73 x1 0 73 a 0 100) fun δ39 => bnd (cpA δ39 74 x1 0 74 a 0 3) fun δ53 => bnd (cpA δ53 75 x1 0 75 a 0 3) fun δ67 => bnd (cpA δ67 76 x1 0 76 a 0 3) fun δ81 => bnd (cpA δ81 77 x1 0 77 a 0 3) fun δ95 => bnd (cpA δ95 78 x1 0 78 a 0 3) fun δ109 => bnd (cpA δ109 79 x1 0 79 a 0 60) fun δ127 => some δ127
set_option maxRecDepth 20000 in
set_option maxHeartbeats 4000000 in
theorem c_St_copyFrom {l : Launch} {Γ : Gm} (hG : GC Γ) (a : Nat) (x1 : Nat) (ha : Oc a 9) (hx1 : Oc x1 9) (δ : Dl) (r : Dl) (h : F_St_copyFrom a x1  δ = some r) : Ct l M_St_copyFrom 1 0 0 NF [.inr (0, a), .inr (0, x1)] Γ δ (none, Γ, r) := by
  unfold F_St_copyFrom at h
  have oa := hG.ob ha
  refine Ct.of2 (n := 0) (ls := [some (.inr (0, a)), some (.inr (0, x1))]) rfl (by decide +kernel) (Nat.le_of_ble_eq_true rfl) ?_
  refine x_aload_n (i := 0) d_St_copyFrom_0 rfl rfl ?_
  refine x_aload_n (i := 1) d_St_copyFrom_1 rfl rfl ?_
  refine x_getI (f := 70) gl_St_11_9 rfl kf_70 (hG.ob hx1) d_St_copyFrom_2 ?_
  obtain ⟨δ5, eδ5, h⟩ := bn_e h
  refine x_putI (f := 70) gp_St_11_9 rfl kf_70 (fun h => by cases h) rfl rfl oa.1 oa.z d_St_copyFrom_5 (Xe.cδ eδ5 ?_)
  refine x_aload_n (i := 0) d_St_copyFrom_8 rfl rfl ?_
  refine x_aload_n (i := 1) d_St_copyFrom_9 rfl rfl ?_
  refine x_getI (f := 71) gl_St_15_9 rfl kf_71 (hG.ob hx1) d_St_copyFrom_10 ?_
  obtain ⟨δ13, eδ13, h⟩ := bn_e h
  refine x_putI (f := 71) gp_St_15_9 rfl kf_71 (fun h => by cases h) rfl rfl oa.1 oa.z d_St_copyFrom_13 (Xe.cδ eδ13 ?_)
  refine x_aload_n (i := 0) d_St_copyFrom_16 rfl rfl ?_
  refine x_aload_n (i := 1) d_St_copyFrom_17 rfl rfl ?_
  refine x_getI (f := 72) gl_St_18_9 rfl kf_72 (hG.ob hx1) d_St_copyFrom_18 ?_
  obtain ⟨δ21, eδ21, h⟩ := bn_e h
  refine x_putI (f := 72) gp_St_18_9 rfl kf_72 (fun h => by cases h) rfl rfl oa.1 oa.z d_St_copyFrom_21 (Xe.cδ eδ21 ?_)
  refine x_aload_n (i := 1) d_St_copyFrom_24 rfl rfl ?_
  refine x_getA (f := 73) gl_St_21_9 rfl (by rw [kf_73]; decide) (hG.ob hx1) d_St_copyFrom_25 ?_
  refine x_ic (v := 0) d_St_copyFrom_28 (by decide) ?_
  refine x_aload_n (i := 0) d_St_copyFrom_29 rfl rfl ?_
  refine x_getA (f := 73) gl_St_21_9 rfl (by rw [kf_73]; decide) oa d_St_copyFrom_30 ?_
  refine x_ic (v := 0) d_St_copyFrom_33 (by decide) ?_
  refine x_aload_n (i := 0) d_St_copyFrom_34 rfl rfl ?_
  refine x_getA (f := 73) gl_St_21_9 rfl (by rw [kf_73]; decide) oa d_St_copyFrom_35 ?_
  refine x_alen (n := 100) (Or.inl kf_73) (oz_73 oa) (lo_73 _) d_St_copyFrom_38 ?_
  obtain ⟨δ39, eδ39, h⟩ := bn_e h
  refine x_acopy (N0 := 100) (N1 := 100) ac_St_57 kf_73 kf_73 (oz_73 (hG.ob hx1)) (oz_73 oa) (ln_73 _) (ln_73 _) (by decide) (by decide) (Nat.le_of_ble_eq_true rfl) (by first | decide | omega) ac_nat ac_sta ac_ini d_St_copyFrom_39 (Xe.cδ eδ39 ?_)
  refine x_aload_n (i := 1) d_St_copyFrom_42 rfl rfl ?_
  refine x_getA (f := 74) gl_St_25_9 rfl (by rw [kf_74]; decide) (hG.ob hx1) d_St_copyFrom_43 ?_
  refine x_ic (v := 0) d_St_copyFrom_46 (by decide) ?_
  refine x_aload_n (i := 0) d_St_copyFrom_47 rfl rfl ?_
  refine x_getA (f := 74) gl_St_25_9 rfl (by rw [kf_74]; decide) oa d_St_copyFrom_48 ?_
  refine x_ic (v := 0) d_St_copyFrom_51 (by decide) ?_
  refine x_ic (v := 3) d_St_copyFrom_52 (by decide) ?_
  obtain ⟨δ53, eδ53, h⟩ := bn_e h
  refine x_acopy (N0 := 3) (N1 := 3) ac_St_57 kf_74 kf_74 (oz_74 (hG.ob hx1)) (oz_74 oa) (ln_74 _) (ln_74 _) (by decide) (by decide) (Nat.le_of_ble_eq_true rfl) (by first | decide | omega) ac_nat ac_sta ac_ini d_St_copyFrom_53 (Xe.cδ eδ53 ?_)
  refine x_aload_n (i := 1) d_St_copyFrom_56 rfl rfl ?_
  refine x_getA (f := 75) gl_St_28_9 rfl (by rw [kf_75]; decide) (hG.ob hx1) d_St_copyFrom_57 ?_
  refine x_ic (v := 0) d_St_copyFrom_60 (by decide) ?_
  refine x_aload_n (i := 0) d_St_copyFrom_61 rfl rfl ?_
  refine x_getA (f := 75) gl_St_28_9 rfl (by rw [kf_75]; decide) oa d_St_copyFrom_62 ?_
  refine x_ic (v := 0) d_St_copyFrom_65 (by decide) ?_
  refine x_ic (v := 3) d_St_copyFrom_66 (by decide) ?_
  obtain ⟨δ67, eδ67, h⟩ := bn_e h
  refine x_acopy (N0 := 3) (N1 := 3) ac_St_57 kf_75 kf_75 (oz_75 (hG.ob hx1)) (oz_75 oa) (ln_75 _) (ln_75 _) (by decide) (by decide) (Nat.le_of_ble_eq_true rfl) (by first | decide | omega) ac_nat ac_sta ac_ini d_St_copyFrom_67 (Xe.cδ eδ67 ?_)
  refine x_aload_n (i := 1) d_St_copyFrom_70 rfl rfl ?_
  refine x_getA (f := 76) gl_St_31_9 rfl (by rw [kf_76]; decide) (hG.ob hx1) d_St_copyFrom_71 ?_
  refine x_ic (v := 0) d_St_copyFrom_74 (by decide) ?_
  refine x_aload_n (i := 0) d_St_copyFrom_75 rfl rfl ?_
  refine x_getA (f := 76) gl_St_31_9 rfl (by rw [kf_76]; decide) oa d_St_copyFrom_76 ?_
  refine x_ic (v := 0) d_St_copyFrom_79 (by decide) ?_
  refine x_ic (v := 3) d_St_copyFrom_80 (by decide) ?_
  obtain ⟨δ81, eδ81, h⟩ := bn_e h
  refine x_acopy (N0 := 3) (N1 := 3) ac_St_57 kf_76 kf_76 (oz_76 (hG.ob hx1)) (oz_76 oa) (ln_76 _) (ln_76 _) (by decide) (by decide) (Nat.le_of_ble_eq_true rfl) (by first | decide | omega) ac_nat ac_sta ac_ini d_St_copyFrom_81 (Xe.cδ eδ81 ?_)
  refine x_aload_n (i := 1) d_St_copyFrom_84 rfl rfl ?_
  refine x_getA (f := 77) gl_St_34_9 rfl (by rw [kf_77]; decide) (hG.ob hx1) d_St_copyFrom_85 ?_
  refine x_ic (v := 0) d_St_copyFrom_88 (by decide) ?_
  refine x_aload_n (i := 0) d_St_copyFrom_89 rfl rfl ?_
  refine x_getA (f := 77) gl_St_34_9 rfl (by rw [kf_77]; decide) oa d_St_copyFrom_90 ?_
  refine x_ic (v := 0) d_St_copyFrom_93 (by decide) ?_
  refine x_ic (v := 3) d_St_copyFrom_94 (by decide) ?_
  obtain ⟨δ95, eδ95, h⟩ := bn_e h
  refine x_acopy (N0 := 3) (N1 := 3) ac_St_57 kf_77 kf_77 (oz_77 (hG.ob hx1)) (oz_77 oa) (ln_77 _) (ln_77 _) (by decide) (by decide) (Nat.le_of_ble_eq_true rfl) (by first | decide | omega) ac_nat ac_sta ac_ini d_St_copyFrom_95 (Xe.cδ eδ95 ?_)
  refine x_aload_n (i := 1) d_St_copyFrom_98 rfl rfl ?_
  refine x_getA (f := 78) gl_St_37_9 rfl (by rw [kf_78]; decide) (hG.ob hx1) d_St_copyFrom_99 ?_
  refine x_ic (v := 0) d_St_copyFrom_102 (by decide) ?_
  refine x_aload_n (i := 0) d_St_copyFrom_103 rfl rfl ?_
  refine x_getA (f := 78) gl_St_37_9 rfl (by rw [kf_78]; decide) oa d_St_copyFrom_104 ?_
  refine x_ic (v := 0) d_St_copyFrom_107 (by decide) ?_
  refine x_ic (v := 3) d_St_copyFrom_108 (by decide) ?_
  obtain ⟨δ109, eδ109, h⟩ := bn_e h
  refine x_acopy (N0 := 3) (N1 := 3) ac_St_57 kf_78 kf_78 (oz_78 (hG.ob hx1)) (oz_78 oa) (ln_78 _) (ln_78 _) (by decide) (by decide) (Nat.le_of_ble_eq_true rfl) (by first | decide | omega) ac_nat ac_sta ac_ini d_St_copyFrom_109 (Xe.cδ eδ109 ?_)
  refine x_aload_n (i := 1) d_St_copyFrom_112 rfl rfl ?_
  refine x_getA (f := 79) gl_St_40_9 rfl (by rw [kf_79]; decide) (hG.ob hx1) d_St_copyFrom_113 ?_
  refine x_ic (v := 0) d_St_copyFrom_116 (by decide) ?_
  refine x_aload_n (i := 0) d_St_copyFrom_117 rfl rfl ?_
  refine x_getA (f := 79) gl_St_40_9 rfl (by rw [kf_79]; decide) oa d_St_copyFrom_118 ?_
  refine x_ic (v := 0) d_St_copyFrom_121 (by decide) ?_
  refine x_aload_n (i := 0) d_St_copyFrom_122 rfl rfl ?_
  refine x_getA (f := 79) gl_St_40_9 rfl (by rw [kf_79]; decide) oa d_St_copyFrom_123 ?_
  refine x_alen (n := 60) (Or.inl kf_79) (oz_79 oa) (lo_79 _) d_St_copyFrom_126 ?_
  obtain ⟨δ127, eδ127, h⟩ := bn_e h
  refine x_acopy (N0 := 60) (N1 := 60) ac_St_57 kf_79 kf_79 (oz_79 (hG.ob hx1)) (oz_79 oa) (ln_79 _) (ln_79 _) (by decide) (by decide) (Nat.le_of_ble_eq_true rfl) (by first | decide | omega) ac_nat ac_sta ac_ini d_St_copyFrom_127 (Xe.cδ eδ127 ?_)
  replace h := Option.some.inj h; subst h
  exact x_vret rfl d_St_copyFrom_130 (Nat.le_refl 0) (Nat.le_refl 0)
-- BlockStage$Stage.cellAt(II)I
theorem d_St_cellAt_0 : decode M_St_cellAt.2.1 0 = .ok (.aload_n 0, 1) := by decide +kernel
theorem d_St_cellAt_1 : decode M_St_cellAt.2.1 1 = .ok (.iload_n 1, 1) := by decide +kernel
theorem d_St_cellAt_2 : decode M_St_cellAt.2.1 2 = .ok (.iload_n 2, 1) := by decide +kernel
theorem d_St_cellAt_3 : decode M_St_cellAt.2.1 3 = .ok (.invokevirtual 63, 3) := by decide +kernel
theorem d_St_cellAt_6 : decode M_St_cellAt.2.1 6 = .ok (.istore_n 3, 1) := by decide +kernel
theorem d_St_cellAt_7 : decode M_St_cellAt.2.1 7 = .ok (.iload_n 3, 1) := by decide +kernel
theorem d_St_cellAt_8 : decode M_St_cellAt.2.1 8 = .ok (.ifCond .lt 21, 3) := by decide +kernel
theorem d_St_cellAt_11 : decode M_St_cellAt.2.1 11 = .ok (.iload_n 3, 1) := by decide +kernel
theorem d_St_cellAt_12 : decode M_St_cellAt.2.1 12 = .ok (.aload_n 0, 1) := by decide +kernel
theorem d_St_cellAt_13 : decode M_St_cellAt.2.1 13 = .ok (.getfield 21, 3) := by decide +kernel
theorem d_St_cellAt_16 : decode M_St_cellAt.2.1 16 = .ok (.arraylength, 1) := by decide +kernel
theorem d_St_cellAt_17 : decode M_St_cellAt.2.1 17 = .ok (.if_icmp .ge 12, 3) := by decide +kernel
theorem d_St_cellAt_20 : decode M_St_cellAt.2.1 20 = .ok (.aload_n 0, 1) := by decide +kernel
theorem d_St_cellAt_21 : decode M_St_cellAt.2.1 21 = .ok (.getfield 21, 3) := by decide +kernel
theorem d_St_cellAt_24 : decode M_St_cellAt.2.1 24 = .ok (.iload_n 3, 1) := by decide +kernel
theorem d_St_cellAt_25 : decode M_St_cellAt.2.1 25 = .ok (.iaload, 1) := by decide +kernel
theorem d_St_cellAt_26 : decode M_St_cellAt.2.1 26 = .ok (.goto 5, 3) := by decide +kernel
theorem d_St_cellAt_29 : decode M_St_cellAt.2.1 29 = .ok (.bipush (-5), 2) := by decide +kernel
theorem d_St_cellAt_31 : decode M_St_cellAt.2.1 31 = .ok (.ireturn, 1) := by decide +kernel
def F_St_cellAt (a : Nat) (x1 : Int32) (x2 : Int32) (δ : Dl) : Option (Int32) :=
  bnd (F_St_placeOf a x1 x2 δ) fun v3 => if v3 < 0 then (some (-5)) else (if 100 ≤ v3 then (some (-5)) else (if inb v3 100 then some (δ.2.1 73 a v3) else none))
set_option maxRecDepth 20000 in
set_option maxHeartbeats 4000000 in
theorem c_St_cellAt {l : Launch} {Γ : Gm} (hG : GC Γ) (a : Nat) (x1 : Int32) (x2 : Int32) (ha : Oc a 9) (δ : Dl) (r : Int32) (h : F_St_cellAt a x1 x2  δ = some r) : Ct l M_St_cellAt 1 0 0 NF [.inr (0, a), .inl x1, .inl x2] Γ δ (some (.inl r), Γ, δ) := by
  unfold F_St_cellAt at h
  have oa := hG.ob ha
  refine Ct.of2 (n := 1) (ls := [some (.inr (0, a)), some (.inl x1), some (.inl x2), none]) rfl (by decide +kernel) (Nat.le_of_ble_eq_true rfl) ?_
  refine x_aload_n (i := 0) d_St_cellAt_0 rfl rfl ?_
  refine x_iload_n (i := 1) d_St_cellAt_1 rfl rfl ?_
  refine x_iload_n (i := 2) d_St_cellAt_2 rfl rfl ?_
  obtain ⟨v3, ev3, h⟩ := bn_e h
  refine y_V2 cs_St_63 rfl oa (by first | decide | omega) (Nat.le_of_ble_eq_true rfl) d_St_cellAt_3 (c_St_placeOf hG a x1 x2 ha δ v3 ev3) (Nat.le_refl 0) (Nat.le_refl 0) ?_
  refine x_stn (i := 3) (ls' := [some (.inr (0, a)), some (.inl x1), some (.inl x2), some (.inl v3)]) d_St_cellAt_6 rfl (by decide) rfl ?_
  refine x_iload_n (i := 3) d_St_cellAt_7 rfl rfl ?_
  refine x_if_lt (tgt := 29) d_St_cellAt_8 (by decide) (fun c8 => ?_) (fun c8 => ?_)
  · have h := if_t c8 h
    refine x_bi (v := -5) d_St_cellAt_29 (by decide) ?_
    replace h := Option.some.inj h; subst h
    exact x_iret rfl d_St_cellAt_31 (Nat.le_refl 0) (Nat.le_refl 0)
  · have h := if_f c8 h
    refine x_iload_n (i := 3) d_St_cellAt_11 rfl rfl ?_
    refine x_aload_n (i := 0) d_St_cellAt_12 rfl rfl ?_
    refine x_getA (f := 73) gl_St_21_9 rfl (by rw [kf_73]; decide) oa d_St_cellAt_13 ?_
    refine x_alen (n := 100) (Or.inl kf_73) (oz_73 oa) (lo_73 _) d_St_cellAt_16 ?_
    refine x_cmp_ge (tgt := 29) d_St_cellAt_17 (by decide) (fun c17 => ?_) (fun c17 => ?_)
    · have h := if_t c17 h
      refine x_bi (v := -5) d_St_cellAt_29 (by decide) ?_
      replace h := Option.some.inj h; subst h
      exact x_iret rfl d_St_cellAt_31 (Nat.le_refl 0) (Nat.le_refl 0)
    · have h := if_f c17 h
      refine x_aload_n (i := 0) d_St_cellAt_20 rfl rfl ?_
      refine x_getA (f := 73) gl_St_21_9 rfl (by rw [kf_73]; decide) oa d_St_cellAt_21 ?_
      refine x_iload_n (i := 3) d_St_cellAt_24 rfl rfl ?_
      obtain ⟨g25, h⟩ := gd_e h
      refine x_iald (n := 100) kf_73 (oz_73 oa) (ln_73 _) g25 d_St_cellAt_25 ?_
      refine x_goto (tgt := 31) d_St_cellAt_26 (by decide) ?_
      replace h := Option.some.inj h; subst h
      exact x_iret rfl d_St_cellAt_31 (Nat.le_refl 0) (Nat.le_refl 0)
-- BlockStage$Stage.hasActorAt(II)Z
theorem d_St_hasActorAt_0 : decode M_St_hasActorAt.2.1 0 = .ok (.aload_n 0, 1) := by decide +kernel
theorem d_St_hasActorAt_1 : decode M_St_hasActorAt.2.1 1 = .ok (.iload_n 1, 1) := by decide +kernel
theorem d_St_hasActorAt_2 : decode M_St_hasActorAt.2.1 2 = .ok (.iload_n 2, 1) := by decide +kernel
theorem d_St_hasActorAt_3 : decode M_St_hasActorAt.2.1 3 = .ok (.invokevirtual 63, 3) := by decide +kernel
theorem d_St_hasActorAt_6 : decode M_St_hasActorAt.2.1 6 = .ok (.istore_n 3, 1) := by decide +kernel
theorem d_St_hasActorAt_7 : decode M_St_hasActorAt.2.1 7 = .ok (.iconst 0, 1) := by decide +kernel
theorem d_St_hasActorAt_8 : decode M_St_hasActorAt.2.1 8 = .ok (.istore 4, 2) := by decide +kernel
theorem d_St_hasActorAt_10 : decode M_St_hasActorAt.2.1 10 = .ok (.iload 4, 2) := by decide +kernel
theorem d_St_hasActorAt_12 : decode M_St_hasActorAt.2.1 12 = .ok (.aload_n 0, 1) := by decide +kernel
theorem d_St_hasActorAt_13 : decode M_St_hasActorAt.2.1 13 = .ok (.getfield 18, 3) := by decide +kernel
theorem d_St_hasActorAt_16 : decode M_St_hasActorAt.2.1 16 = .ok (.if_icmp .ge 22, 3) := by decide +kernel
theorem d_St_hasActorAt_19 : decode M_St_hasActorAt.2.1 19 = .ok (.aload_n 0, 1) := by decide +kernel
theorem d_St_hasActorAt_20 : decode M_St_hasActorAt.2.1 20 = .ok (.getfield 25, 3) := by decide +kernel
theorem d_St_hasActorAt_23 : decode M_St_hasActorAt.2.1 23 = .ok (.iload 4, 2) := by decide +kernel
theorem d_St_hasActorAt_25 : decode M_St_hasActorAt.2.1 25 = .ok (.iaload, 1) := by decide +kernel
theorem d_St_hasActorAt_26 : decode M_St_hasActorAt.2.1 26 = .ok (.iload_n 3, 1) := by decide +kernel
theorem d_St_hasActorAt_27 : decode M_St_hasActorAt.2.1 27 = .ok (.if_icmp .ne 5, 3) := by decide +kernel
theorem d_St_hasActorAt_30 : decode M_St_hasActorAt.2.1 30 = .ok (.iconst 1, 1) := by decide +kernel
theorem d_St_hasActorAt_31 : decode M_St_hasActorAt.2.1 31 = .ok (.ireturn, 1) := by decide +kernel
theorem d_St_hasActorAt_32 : decode M_St_hasActorAt.2.1 32 = .ok (.iinc 4 1, 3) := by decide +kernel
theorem d_St_hasActorAt_35 : decode M_St_hasActorAt.2.1 35 = .ok (.goto (-25), 3) := by decide +kernel
theorem d_St_hasActorAt_38 : decode M_St_hasActorAt.2.1 38 = .ok (.iconst 0, 1) := by decide +kernel
theorem d_St_hasActorAt_39 : decode M_St_hasActorAt.2.1 39 = .ok (.ireturn, 1) := by decide +kernel
def F_St_hasActorAt_10_b (a : Nat) (x1 : Int32) (x2 : Int32) (k10 : Int32 → Int32 → Dl → Option (Int32)) (x3 : Int32) (x4 : Int32) (δ : Dl) : Option (Int32) :=
  if (δ.1 72 a) ≤ x4 then (some 0) else (if inb x4 3 then if (δ.2.1 74 a x4) = x3 then (some 1) else (k10 x3 ((x4 + 1)) δ) else none)
set_option maxRecDepth 20000 in
set_option maxHeartbeats 4000000 in
theorem j_St_hasActorAt_10_b {l : Launch} {Γ : Gm} (hG : GC Γ) (a : Nat) (x1 : Int32) (x2 : Int32) (ha : Oc a 9) (k10 : Int32 → Int32 → Dl → Option (Int32)) (x3 : Int32) (x4 : Int32) (δ : Dl) (r : Int32) (hk10 : ∀ (x3 : Int32) (x4 : Int32) (δ : Dl),  k10 x3 x4 δ = some r → Xe l M_St_hasActorAt 1 0 0 NF 10 [some (.inr (0, a)), none, none, some (.inl x3), some (.inl x4)] [] 0 0 Γ δ (some (.inl r), Γ, δ)) (h : F_St_hasActorAt_10_b a x1 x2 k10 x3 x4 δ = some r) : Xe l M_St_hasActorAt 1 0 0 NF 10 [some (.inr (0, a)), none, none, some (.inl x3), some (.inl x4)] [] 0 0 Γ δ (some (.inl r), Γ, δ) := by
  unfold F_St_hasActorAt_10_b at h
  have oa := hG.ob ha
  refine x_iload (i := 4) d_St_hasActorAt_10 rfl ?_
  refine x_aload_n (i := 0) d_St_hasActorAt_12 rfl rfl ?_
  refine x_getI (f := 72) gl_St_18_9 rfl kf_72 oa d_St_hasActorAt_13 ?_
  refine x_cmp_ge (tgt := 38) d_St_hasActorAt_16 (by decide) (fun c16 => ?_) (fun c16 => ?_)
  · have h := if_t c16 h
    refine x_ic (v := 0) d_St_hasActorAt_38 (by decide) ?_
    replace h := Option.some.inj h; subst h
    exact x_nret rfl rfl d_St_hasActorAt_39 (Nat.le_refl 0) (Nat.le_refl 0)
  · have h := if_f c16 h
    refine x_aload_n (i := 0) d_St_hasActorAt_19 rfl rfl ?_
    refine x_getA (f := 74) gl_St_25_9 rfl (by rw [kf_74]; decide) oa d_St_hasActorAt_20 ?_
    refine x_iload (i := 4) d_St_hasActorAt_23 rfl ?_
    obtain ⟨g25, h⟩ := gd_e h
    refine x_iald (n := 3) kf_74 (oz_74 oa) (ln_74 _) g25 d_St_hasActorAt_25 ?_
    refine x_iload_n (i := 3) d_St_hasActorAt_26 rfl rfl ?_
    refine x_cmp_ne (tgt := 32) d_St_hasActorAt_27 (by decide) (fun c27 => ?_) (fun c27 => ?_)
    · have h := if_f c27 h
      refine x_inc (i := 4) (c0 := 1) (ls' := [some (.inr (0, a)), none, none, some (.inl x3), some (.inl (x4 + 1))]) d_St_hasActorAt_32 (by decide) rfl (by decide) rfl ?_
      refine x_goto (tgt := 10) d_St_hasActorAt_35 (by decide) ?_
      exact hk10 x3 ((x4 + 1)) δ h
    · have h := if_t c27 h
      refine x_ic (v := 1) d_St_hasActorAt_30 (by decide) ?_
      replace h := Option.some.inj h; subst h
      exact x_nret rfl rfl d_St_hasActorAt_31 (Nat.le_refl 0) (Nat.le_refl 0)
def F_St_hasActorAt_10 (a : Nat) (x1 : Int32) (x2 : Int32) : Nat → Int32 → Int32 → Dl → Option (Int32)
  | 0, _, _, _ => none
  | n + 1, x3, x4, δ => F_St_hasActorAt_10_b a x1 x2 (F_St_hasActorAt_10 a x1 x2 n) x3 x4 δ
theorem j_St_hasActorAt_10 {l : Launch} {Γ : Gm} (hG : GC Γ) (a : Nat) (x1 : Int32) (x2 : Int32) (ha : Oc a 9) (n : Nat) (x3 : Int32) (x4 : Int32) (δ : Dl) (r : Int32) (h : F_St_hasActorAt_10 a x1 x2 n x3 x4 δ = some r) : Xe l M_St_hasActorAt 1 0 0 NF 10 [some (.inr (0, a)), none, none, some (.inl x3), some (.inl x4)] [] 0 0 Γ δ (some (.inl r), Γ, δ) := by
  induction n generalizing x3 x4 δ with
  | zero => cases h
  | succ n ih => exact j_St_hasActorAt_10_b hG a x1 x2 ha (F_St_hasActorAt_10 a x1 x2 n) x3 x4 δ r (fun x3 x4 δ hh => ih x3 x4 δ hh) h
def F_St_hasActorAt (a : Nat) (x1 : Int32) (x2 : Int32) (δ : Dl) : Option (Int32) :=
  bnd (F_St_placeOf a x1 x2 δ) fun v3 => F_St_hasActorAt_10 a x1 x2 FU v3 0 δ
set_option maxRecDepth 20000 in
set_option maxHeartbeats 4000000 in
theorem c_St_hasActorAt {l : Launch} {Γ : Gm} (hG : GC Γ) (a : Nat) (x1 : Int32) (x2 : Int32) (ha : Oc a 9) (δ : Dl) (r : Int32) (h : F_St_hasActorAt a x1 x2  δ = some r) : Ct l M_St_hasActorAt 1 0 0 NF [.inr (0, a), .inl x1, .inl x2] Γ δ (some (.inl r), Γ, δ) := by
  unfold F_St_hasActorAt at h
  have oa := hG.ob ha
  refine Ct.of2 (n := 2) (ls := [some (.inr (0, a)), some (.inl x1), some (.inl x2), none, none]) rfl (by decide +kernel) (Nat.le_of_ble_eq_true rfl) ?_
  refine x_aload_n (i := 0) d_St_hasActorAt_0 rfl rfl ?_
  refine x_iload_n (i := 1) d_St_hasActorAt_1 rfl rfl ?_
  refine x_iload_n (i := 2) d_St_hasActorAt_2 rfl rfl ?_
  obtain ⟨v3, ev3, h⟩ := bn_e h
  refine y_V2 cs_St_63 rfl oa (by first | decide | omega) (Nat.le_of_ble_eq_true rfl) d_St_hasActorAt_3 (c_St_placeOf hG a x1 x2 ha δ v3 ev3) (Nat.le_refl 0) (Nat.le_refl 0) ?_
  refine x_stn (i := 3) (ls' := [some (.inr (0, a)), some (.inl x1), some (.inl x2), some (.inl v3), none]) d_St_hasActorAt_6 rfl (by decide) rfl ?_
  refine x_ic (v := 0) d_St_hasActorAt_7 (by decide) ?_
  refine x_stw (i := 4) (ls' := [some (.inr (0, a)), some (.inl x1), some (.inl x2), some (.inl v3), some (.inl 0)]) d_St_hasActorAt_8 (by decide) rfl ?_
  refine x_wk (ls' := [some (.inr (0, a)), none, none, some (.inl v3), some (.inl 0)]) ⟨Or.inr rfl, Or.inl rfl, Or.inl rfl, Or.inr rfl, Or.inr rfl, trivial⟩ ?_
  exact j_St_hasActorAt_10 hG a x1 x2 ha FU v3 0 δ r h
-- BlockStage$Stage.allThings()I
theorem d_St_allThings_0 : decode M_St_allThings.2.1 0 = .ok (.iconst 0, 1) := by decide +kernel
theorem d_St_allThings_1 : decode M_St_allThings.2.1 1 = .ok (.istore_n 1, 1) := by decide +kernel
theorem d_St_allThings_2 : decode M_St_allThings.2.1 2 = .ok (.iconst 0, 1) := by decide +kernel
theorem d_St_allThings_3 : decode M_St_allThings.2.1 3 = .ok (.istore_n 2, 1) := by decide +kernel
theorem d_St_allThings_4 : decode M_St_allThings.2.1 4 = .ok (.iload_n 2, 1) := by decide +kernel
theorem d_St_allThings_5 : decode M_St_allThings.2.1 5 = .ok (.aload_n 0, 1) := by decide +kernel
theorem d_St_allThings_6 : decode M_St_allThings.2.1 6 = .ok (.getfield 21, 3) := by decide +kernel
theorem d_St_allThings_9 : decode M_St_allThings.2.1 9 = .ok (.arraylength, 1) := by decide +kernel
theorem d_St_allThings_10 : decode M_St_allThings.2.1 10 = .ok (.if_icmp .ge 27, 3) := by decide +kernel
theorem d_St_allThings_13 : decode M_St_allThings.2.1 13 = .ok (.aload_n 0, 1) := by decide +kernel
theorem d_St_allThings_14 : decode M_St_allThings.2.1 14 = .ok (.getfield 21, 3) := by decide +kernel
theorem d_St_allThings_17 : decode M_St_allThings.2.1 17 = .ok (.iload_n 2, 1) := by decide +kernel
theorem d_St_allThings_18 : decode M_St_allThings.2.1 18 = .ok (.iaload, 1) := by decide +kernel
theorem d_St_allThings_19 : decode M_St_allThings.2.1 19 = .ok (.ifCond .le 12, 3) := by decide +kernel
theorem d_St_allThings_22 : decode M_St_allThings.2.1 22 = .ok (.iload_n 1, 1) := by decide +kernel
theorem d_St_allThings_23 : decode M_St_allThings.2.1 23 = .ok (.aload_n 0, 1) := by decide +kernel
theorem d_St_allThings_24 : decode M_St_allThings.2.1 24 = .ok (.getfield 21, 3) := by decide +kernel
theorem d_St_allThings_27 : decode M_St_allThings.2.1 27 = .ok (.iload_n 2, 1) := by decide +kernel
theorem d_St_allThings_28 : decode M_St_allThings.2.1 28 = .ok (.iaload, 1) := by decide +kernel
theorem d_St_allThings_29 : decode M_St_allThings.2.1 29 = .ok (.iadd, 1) := by decide +kernel
theorem d_St_allThings_30 : decode M_St_allThings.2.1 30 = .ok (.istore_n 1, 1) := by decide +kernel
theorem d_St_allThings_31 : decode M_St_allThings.2.1 31 = .ok (.iinc 2 1, 3) := by decide +kernel
theorem d_St_allThings_34 : decode M_St_allThings.2.1 34 = .ok (.goto (-30), 3) := by decide +kernel
theorem d_St_allThings_37 : decode M_St_allThings.2.1 37 = .ok (.iload_n 1, 1) := by decide +kernel
theorem d_St_allThings_38 : decode M_St_allThings.2.1 38 = .ok (.ireturn, 1) := by decide +kernel
def F_St_allThings_31 (a : Nat) (k4 : Int32 → Int32 → Dl → Option (Int32)) (x1 : Int32) (x2 : Int32) (δ : Dl) : Option (Int32) :=
  k4 x1 ((x2 + 1)) δ
set_option maxRecDepth 20000 in
set_option maxHeartbeats 4000000 in
theorem j_St_allThings_31 {l : Launch} {Γ : Gm} (hG : GC Γ) (a : Nat) (ha : Oc a 9) (k4 : Int32 → Int32 → Dl → Option (Int32)) (x1 : Int32) (x2 : Int32) (δ : Dl) (r : Int32) (hk4 : ∀ (x1 : Int32) (x2 : Int32) (δ : Dl),  k4 x1 x2 δ = some r → Xe l M_St_allThings 0 0 0 NF 4 [some (.inr (0, a)), some (.inl x1), some (.inl x2)] [] 0 0 Γ δ (some (.inl r), Γ, δ)) (h : F_St_allThings_31 a k4 x1 x2 δ = some r) : Xe l M_St_allThings 0 0 0 NF 31 [some (.inr (0, a)), some (.inl x1), some (.inl x2)] [] 0 0 Γ δ (some (.inl r), Γ, δ) := by
  unfold F_St_allThings_31 at h
  have oa := hG.ob ha
  refine x_inc (i := 2) (c0 := 1) (ls' := [some (.inr (0, a)), some (.inl x1), some (.inl (x2 + 1))]) d_St_allThings_31 (by decide) rfl (by decide) rfl ?_
  refine x_goto (tgt := 4) d_St_allThings_34 (by decide) ?_
  exact hk4 x1 ((x2 + 1)) δ h
def F_St_allThings_4_b (a : Nat) (k4 : Int32 → Int32 → Dl → Option (Int32)) (x1 : Int32) (x2 : Int32) (δ : Dl) : Option (Int32) :=
  if 100 ≤ x2 then (some x1) else (if inb x2 100 then if (δ.2.1 73 a x2) ≤ 0 then (F_St_allThings_31 a k4 x1 x2 δ) else (if inb x2 100 then F_St_allThings_31 a k4 ((x1 + (δ.2.1 73 a x2))) x2 δ else none) else none)
set_option maxRecDepth 20000 in
set_option maxHeartbeats 4000000 in
theorem j_St_allThings_4_b {l : Launch} {Γ : Gm} (hG : GC Γ) (a : Nat) (ha : Oc a 9) (k4 : Int32 → Int32 → Dl → Option (Int32)) (x1 : Int32) (x2 : Int32) (δ : Dl) (r : Int32) (hk4 : ∀ (x1 : Int32) (x2 : Int32) (δ : Dl),  k4 x1 x2 δ = some r → Xe l M_St_allThings 0 0 0 NF 4 [some (.inr (0, a)), some (.inl x1), some (.inl x2)] [] 0 0 Γ δ (some (.inl r), Γ, δ)) (h : F_St_allThings_4_b a k4 x1 x2 δ = some r) : Xe l M_St_allThings 0 0 0 NF 4 [some (.inr (0, a)), some (.inl x1), some (.inl x2)] [] 0 0 Γ δ (some (.inl r), Γ, δ) := by
  unfold F_St_allThings_4_b at h
  have oa := hG.ob ha
  refine x_iload_n (i := 2) d_St_allThings_4 rfl rfl ?_
  refine x_aload_n (i := 0) d_St_allThings_5 rfl rfl ?_
  refine x_getA (f := 73) gl_St_21_9 rfl (by rw [kf_73]; decide) oa d_St_allThings_6 ?_
  refine x_alen (n := 100) (Or.inl kf_73) (oz_73 oa) (lo_73 _) d_St_allThings_9 ?_
  refine x_cmp_ge (tgt := 37) d_St_allThings_10 (by decide) (fun c10 => ?_) (fun c10 => ?_)
  · have h := if_t c10 h
    refine x_iload_n (i := 1) d_St_allThings_37 rfl rfl ?_
    replace h := Option.some.inj h; subst h
    exact x_iret rfl d_St_allThings_38 (Nat.le_refl 0) (Nat.le_refl 0)
  · have h := if_f c10 h
    refine x_aload_n (i := 0) d_St_allThings_13 rfl rfl ?_
    refine x_getA (f := 73) gl_St_21_9 rfl (by rw [kf_73]; decide) oa d_St_allThings_14 ?_
    refine x_iload_n (i := 2) d_St_allThings_17 rfl rfl ?_
    obtain ⟨g18, h⟩ := gd_e h
    refine x_iald (n := 100) kf_73 (oz_73 oa) (ln_73 _) g18 d_St_allThings_18 ?_
    refine x_if_le (tgt := 31) d_St_allThings_19 (by decide) (fun c19 => ?_) (fun c19 => ?_)
    · have h := if_t c19 h
      exact j_St_allThings_31 hG a ha k4 x1 x2 δ r hk4 h
    · have h := if_f c19 h
      refine x_iload_n (i := 1) d_St_allThings_22 rfl rfl ?_
      refine x_aload_n (i := 0) d_St_allThings_23 rfl rfl ?_
      refine x_getA (f := 73) gl_St_21_9 rfl (by rw [kf_73]; decide) oa d_St_allThings_24 ?_
      refine x_iload_n (i := 2) d_St_allThings_27 rfl rfl ?_
      obtain ⟨g28, h⟩ := gd_e h
      refine x_iald (n := 100) kf_73 (oz_73 oa) (ln_73 _) g28 d_St_allThings_28 ?_
      refine x_iadd d_St_allThings_29 ?_
      refine x_stn (i := 1) (ls' := [some (.inr (0, a)), some (.inl (x1 + (δ.2.1 73 a x2))), some (.inl x2)]) d_St_allThings_30 rfl (by decide) rfl ?_
      exact j_St_allThings_31 hG a ha k4 ((x1 + (δ.2.1 73 a x2))) x2 δ r hk4 h
def F_St_allThings_4 (a : Nat) : Nat → Int32 → Int32 → Dl → Option (Int32)
  | 0, _, _, _ => none
  | n + 1, x1, x2, δ => F_St_allThings_4_b a (F_St_allThings_4 a n) x1 x2 δ
theorem j_St_allThings_4 {l : Launch} {Γ : Gm} (hG : GC Γ) (a : Nat) (ha : Oc a 9) (n : Nat) (x1 : Int32) (x2 : Int32) (δ : Dl) (r : Int32) (h : F_St_allThings_4 a n x1 x2 δ = some r) : Xe l M_St_allThings 0 0 0 NF 4 [some (.inr (0, a)), some (.inl x1), some (.inl x2)] [] 0 0 Γ δ (some (.inl r), Γ, δ) := by
  induction n generalizing x1 x2 δ with
  | zero => cases h
  | succ n ih => exact j_St_allThings_4_b hG a ha (F_St_allThings_4 a n) x1 x2 δ r (fun x1 x2 δ hh => ih x1 x2 δ hh) h
def F_St_allThings (a : Nat) (δ : Dl) : Option (Int32) :=
  F_St_allThings_4 a FU 0 0 δ
set_option maxRecDepth 20000 in
set_option maxHeartbeats 4000000 in
theorem c_St_allThings {l : Launch} {Γ : Gm} (hG : GC Γ) (a : Nat) (ha : Oc a 9) (δ : Dl) (r : Int32) (h : F_St_allThings a  δ = some r) : Ct l M_St_allThings 0 0 0 NF [.inr (0, a)] Γ δ (some (.inl r), Γ, δ) := by
  unfold F_St_allThings at h
  have oa := hG.ob ha
  refine Ct.of2 (n := 2) (ls := [some (.inr (0, a)), none, none]) rfl (by decide +kernel) (Nat.le_of_ble_eq_true rfl) ?_
  refine x_ic (v := 0) d_St_allThings_0 (by decide) ?_
  refine x_stn (i := 1) (ls' := [some (.inr (0, a)), some (.inl 0), none]) d_St_allThings_1 rfl (by decide) rfl ?_
  refine x_ic (v := 0) d_St_allThings_2 (by decide) ?_
  refine x_stn (i := 2) (ls' := [some (.inr (0, a)), some (.inl 0), some (.inl 0)]) d_St_allThings_3 rfl (by decide) rfl ?_
  exact j_St_allThings_4 hG a ha FU 0 0 δ r h
-- BlockStage$Stage.takesCells(LBlockStage$Sheets;II)Z
theorem d_St_takesCells_0 : decode M_St_takesCells.2.1 0 = .ok (.iconst 0, 1) := by decide +kernel
theorem d_St_takesCells_1 : decode M_St_takesCells.2.1 1 = .ok (.istore 4, 2) := by decide +kernel
theorem d_St_takesCells_3 : decode M_St_takesCells.2.1 3 = .ok (.iload 4, 2) := by decide +kernel
theorem d_St_takesCells_5 : decode M_St_takesCells.2.1 5 = .ok (.aload_n 0, 1) := by decide +kernel
theorem d_St_takesCells_6 : decode M_St_takesCells.2.1 6 = .ok (.getfield 15, 3) := by decide +kernel
theorem d_St_takesCells_9 : decode M_St_takesCells.2.1 9 = .ok (.if_icmp .ge 80, 3) := by decide +kernel
theorem d_St_takesCells_12 : decode M_St_takesCells.2.1 12 = .ok (.iconst 0, 1) := by decide +kernel
theorem d_St_takesCells_13 : decode M_St_takesCells.2.1 13 = .ok (.istore 5, 2) := by decide +kernel
theorem d_St_takesCells_15 : decode M_St_takesCells.2.1 15 = .ok (.iload 5, 2) := by decide +kernel
theorem d_St_takesCells_17 : decode M_St_takesCells.2.1 17 = .ok (.aload_n 0, 1) := by decide +kernel
theorem d_St_takesCells_18 : decode M_St_takesCells.2.1 18 = .ok (.getfield 11, 3) := by decide +kernel
theorem d_St_takesCells_21 : decode M_St_takesCells.2.1 21 = .ok (.if_icmp .ge 62, 3) := by decide +kernel
theorem d_St_takesCells_24 : decode M_St_takesCells.2.1 24 = .ok (.aload_n 1, 1) := by decide +kernel
theorem d_St_takesCells_25 : decode M_St_takesCells.2.1 25 = .ok (.iload_n 2, 1) := by decide +kernel
theorem d_St_takesCells_26 : decode M_St_takesCells.2.1 26 = .ok (.iload_n 3, 1) := by decide +kernel
theorem d_St_takesCells_27 : decode M_St_takesCells.2.1 27 = .ok (.iload 4, 2) := by decide +kernel
theorem d_St_takesCells_29 : decode M_St_takesCells.2.1 29 = .ok (.aload_n 0, 1) := by decide +kernel
theorem d_St_takesCells_30 : decode M_St_takesCells.2.1 30 = .ok (.getfield 11, 3) := by decide +kernel
theorem d_St_takesCells_33 : decode M_St_takesCells.2.1 33 = .ok (.imul, 1) := by decide +kernel
theorem d_St_takesCells_34 : decode M_St_takesCells.2.1 34 = .ok (.iadd, 1) := by decide +kernel
theorem d_St_takesCells_35 : decode M_St_takesCells.2.1 35 = .ok (.iload 5, 2) := by decide +kernel
theorem d_St_takesCells_37 : decode M_St_takesCells.2.1 37 = .ok (.iadd, 1) := by decide +kernel
theorem d_St_takesCells_38 : decode M_St_takesCells.2.1 38 = .ok (.invokevirtual 67, 3) := by decide +kernel
theorem d_St_takesCells_41 : decode M_St_takesCells.2.1 41 = .ok (.istore 6, 2) := by decide +kernel
theorem d_St_takesCells_43 : decode M_St_takesCells.2.1 43 = .ok (.iload 6, 2) := by decide +kernel
theorem d_St_takesCells_45 : decode M_St_takesCells.2.1 45 = .ok (.iconst (-1), 1) := by decide +kernel
theorem d_St_takesCells_46 : decode M_St_takesCells.2.1 46 = .ok (.if_icmp .lt 10, 3) := by decide +kernel
theorem d_St_takesCells_49 : decode M_St_takesCells.2.1 49 = .ok (.iload 6, 2) := by decide +kernel
theorem d_St_takesCells_51 : decode M_St_takesCells.2.1 51 = .ok (.bipush 9, 2) := by decide +kernel
theorem d_St_takesCells_53 : decode M_St_takesCells.2.1 53 = .ok (.if_icmp .le 5, 3) := by decide +kernel
theorem d_St_takesCells_56 : decode M_St_takesCells.2.1 56 = .ok (.iconst 0, 1) := by decide +kernel
theorem d_St_takesCells_57 : decode M_St_takesCells.2.1 57 = .ok (.ireturn, 1) := by decide +kernel
theorem d_St_takesCells_58 : decode M_St_takesCells.2.1 58 = .ok (.iload 6, 2) := by decide +kernel
theorem d_St_takesCells_60 : decode M_St_takesCells.2.1 60 = .ok (.iconst (-1), 1) := by decide +kernel
theorem d_St_takesCells_61 : decode M_St_takesCells.2.1 61 = .ok (.if_icmp .ne 16, 3) := by decide +kernel
theorem d_St_takesCells_64 : decode M_St_takesCells.2.1 64 = .ok (.aload_n 0, 1) := by decide +kernel
theorem d_St_takesCells_65 : decode M_St_takesCells.2.1 65 = .ok (.iload 5, 2) := by decide +kernel
theorem d_St_takesCells_67 : decode M_St_takesCells.2.1 67 = .ok (.iload 4, 2) := by decide +kernel
theorem d_St_takesCells_69 : decode M_St_takesCells.2.1 69 = .ok (.invokevirtual 72, 3) := by decide +kernel
theorem d_St_takesCells_72 : decode M_St_takesCells.2.1 72 = .ok (.ifCond .eq 5, 3) := by decide +kernel
theorem d_St_takesCells_75 : decode M_St_takesCells.2.1 75 = .ok (.iconst 0, 1) := by decide +kernel
theorem d_St_takesCells_76 : decode M_St_takesCells.2.1 76 = .ok (.ireturn, 1) := by decide +kernel
theorem d_St_takesCells_77 : decode M_St_takesCells.2.1 77 = .ok (.iinc 5 1, 3) := by decide +kernel
theorem d_St_takesCells_80 : decode M_St_takesCells.2.1 80 = .ok (.goto (-65), 3) := by decide +kernel
theorem d_St_takesCells_83 : decode M_St_takesCells.2.1 83 = .ok (.iinc 4 1, 3) := by decide +kernel
theorem d_St_takesCells_86 : decode M_St_takesCells.2.1 86 = .ok (.goto (-83), 3) := by decide +kernel
theorem d_St_takesCells_89 : decode M_St_takesCells.2.1 89 = .ok (.iconst 1, 1) := by decide +kernel
theorem d_St_takesCells_90 : decode M_St_takesCells.2.1 90 = .ok (.ireturn, 1) := by decide +kernel
theorem mi_Sh_itemAt : MI M_Sh_itemAt 2 := ⟨(lwg_at 9 (by decide +kernel) rfl), (lwg_at 350 (by decide +kernel) rfl), ⟨by decide +kernel, by decide +kernel⟩, by decide +kernel, by decide⟩
theorem cs_St_67 : CV RX9 67 RX7 M_Sh_itemAt 2 := ⟨(lwg_at 347 (by decide +kernel) rfl), (lwg_at 348 (by decide +kernel) rfl), (lwg_at 349 (by decide +kernel) rfl), mi_Sh_itemAt⟩
theorem mi_St_hasActorAt : MI M_St_hasActorAt 2 := ⟨(lwg_at 3 (by decide +kernel) rfl), (lwg_at 306 (by decide +kernel) rfl), ⟨by decide +kernel, by decide +kernel⟩, by decide +kernel, by decide⟩
theorem cs_St_72 : CV RX9 72 RX9 M_St_hasActorAt 2 := ⟨(lwg_at 352 (by decide +kernel) rfl), (lwg_at 304 (by decide +kernel) rfl), (lwg_at 305 (by decide +kernel) rfl), mi_St_hasActorAt⟩
def F_St_takesCells_77 (a : Nat) (x1 : Nat) (x2 : Int32) (x3 : Int32) (k3 : Int32 → Dl → Option (Int32)) (k15 : Int32 → Int32 → Dl → Option (Int32)) (x4 : Int32) (x5 : Int32) (δ : Dl) : Option (Int32) :=
  k15 x4 ((x5 + 1)) δ
set_option maxRecDepth 20000 in
set_option maxHeartbeats 4000000 in
theorem j_St_takesCells_77 {l : Launch} {Γ : Gm} (hG : GC Γ) (a : Nat) (x1 : Nat) (x2 : Int32) (x3 : Int32) (ha : Oc a 9) (hx1 : Oc x1 7) (k3 : Int32 → Dl → Option (Int32)) (k15 : Int32 → Int32 → Dl → Option (Int32)) (x4 : Int32) (x5 : Int32) (δ : Dl) (r : Int32) (hk3 : ∀ (x4 : Int32) (δ : Dl),  k3 x4 δ = some r → Xe l M_St_takesCells 2 0 0 NF 3 [some (.inr (0, a)), some (.inr (0, x1)), some (.inl x2), some (.inl x3), some (.inl x4), none, none] [] 0 0 Γ δ (some (.inl r), Γ, δ)) (hk15 : ∀ (x4 : Int32) (x5 : Int32) (δ : Dl),  k15 x4 x5 δ = some r → Xe l M_St_takesCells 2 0 0 NF 15 [some (.inr (0, a)), some (.inr (0, x1)), some (.inl x2), some (.inl x3), some (.inl x4), some (.inl x5), none] [] 0 0 Γ δ (some (.inl r), Γ, δ)) (h : F_St_takesCells_77 a x1 x2 x3 k3 k15 x4 x5 δ = some r) : Xe l M_St_takesCells 2 0 0 NF 77 [some (.inr (0, a)), some (.inr (0, x1)), some (.inl x2), some (.inl x3), some (.inl x4), some (.inl x5), none] [] 0 0 Γ δ (some (.inl r), Γ, δ) := by
  unfold F_St_takesCells_77 at h
  have oa := hG.ob ha
  refine x_inc (i := 5) (c0 := 1) (ls' := [some (.inr (0, a)), some (.inr (0, x1)), some (.inl x2), some (.inl x3), some (.inl x4), some (.inl (x5 + 1)), none]) d_St_takesCells_77 (by decide) rfl (by decide) rfl ?_
  refine x_goto (tgt := 15) d_St_takesCells_80 (by decide) ?_
  exact hk15 x4 ((x5 + 1)) δ h
def F_St_takesCells_15_b (a : Nat) (x1 : Nat) (x2 : Int32) (x3 : Int32) (k3 : Int32 → Dl → Option (Int32)) (k15 : Int32 → Int32 → Dl → Option (Int32)) (x4 : Int32) (x5 : Int32) (δ : Dl) : Option (Int32) :=
  if (δ.1 70 a) ≤ x5 then (k3 ((x4 + 1)) δ) else ((F_Sh_itemAt x1 x2 ((x3 + (x4 * (δ.1 70 a))) + x5) δ).bind fun v38 => if v38 < (-1) then (some 0) else (if v38 ≤ 9 then (if v38 = (-1) then ((F_St_hasActorAt a x5 x4 δ).bind fun v69 => if v69 = 0 then (F_St_takesCells_77 a x1 x2 x3 k3 k15 x4 x5 δ) else (some 0)) else (F_St_takesCells_77 a x1 x2 x3 k3 k15 x4 x5 δ)) else (some 0)))
set_option maxRecDepth 20000 in
set_option maxHeartbeats 4000000 in
theorem j_St_takesCells_15_b {l : Launch} {Γ : Gm} (hG : GC Γ) (a : Nat) (x1 : Nat) (x2 : Int32) (x3 : Int32) (ha : Oc a 9) (hx1 : Oc x1 7) (k3 : Int32 → Dl → Option (Int32)) (k15 : Int32 → Int32 → Dl → Option (Int32)) (x4 : Int32) (x5 : Int32) (δ : Dl) (r : Int32) (hk3 : ∀ (x4 : Int32) (δ : Dl),  k3 x4 δ = some r → Xe l M_St_takesCells 2 0 0 NF 3 [some (.inr (0, a)), some (.inr (0, x1)), some (.inl x2), some (.inl x3), some (.inl x4), none, none] [] 0 0 Γ δ (some (.inl r), Γ, δ)) (hk15 : ∀ (x4 : Int32) (x5 : Int32) (δ : Dl),  k15 x4 x5 δ = some r → Xe l M_St_takesCells 2 0 0 NF 15 [some (.inr (0, a)), some (.inr (0, x1)), some (.inl x2), some (.inl x3), some (.inl x4), some (.inl x5), none] [] 0 0 Γ δ (some (.inl r), Γ, δ)) (h : F_St_takesCells_15_b a x1 x2 x3 k3 k15 x4 x5 δ = some r) : Xe l M_St_takesCells 2 0 0 NF 15 [some (.inr (0, a)), some (.inr (0, x1)), some (.inl x2), some (.inl x3), some (.inl x4), some (.inl x5), none] [] 0 0 Γ δ (some (.inl r), Γ, δ) := by
  unfold F_St_takesCells_15_b at h
  have oa := hG.ob ha
  refine x_iload (i := 5) d_St_takesCells_15 rfl ?_
  refine x_aload_n (i := 0) d_St_takesCells_17 rfl rfl ?_
  refine x_getI (f := 70) gl_St_11_9 rfl kf_70 oa d_St_takesCells_18 ?_
  refine x_cmp_ge (tgt := 83) d_St_takesCells_21 (by decide) (fun c21 => ?_) (fun c21 => ?_)
  · have h := if_t c21 h
    refine x_inc (i := 4) (c0 := 1) (ls' := [some (.inr (0, a)), some (.inr (0, x1)), some (.inl x2), some (.inl x3), some (.inl (x4 + 1)), some (.inl x5), none]) d_St_takesCells_83 (by decide) rfl (by decide) rfl ?_
    refine x_goto (tgt := 3) d_St_takesCells_86 (by decide) ?_
    refine x_wk (ls' := [some (.inr (0, a)), some (.inr (0, x1)), some (.inl x2), some (.inl x3), some (.inl (x4 + 1)), none, none]) ⟨Or.inr rfl, Or.inr rfl, Or.inr rfl, Or.inr rfl, Or.inr rfl, Or.inl rfl, Or.inl rfl, trivial⟩ ?_
    exact hk3 ((x4 + 1)) δ h
  · have h := if_f c21 h
    refine x_aload_n (i := 1) d_St_takesCells_24 rfl rfl ?_
    refine x_iload_n (i := 2) d_St_takesCells_25 rfl rfl ?_
    refine x_iload_n (i := 3) d_St_takesCells_26 rfl rfl ?_
    refine x_iload (i := 4) d_St_takesCells_27 rfl ?_
    refine x_aload_n (i := 0) d_St_takesCells_29 rfl rfl ?_
    refine x_getI (f := 70) gl_St_11_9 rfl kf_70 oa d_St_takesCells_30 ?_
    refine x_imul d_St_takesCells_33 ?_
    refine x_iadd d_St_takesCells_34 ?_
    refine x_iload (i := 5) d_St_takesCells_35 rfl ?_
    refine x_iadd d_St_takesCells_37 ?_
    obtain ⟨v38, ev38, h⟩ := bd_e h
    refine y_V2 cs_St_67 rfl (hG.ob hx1) (by first | decide | omega) (Nat.le_of_ble_eq_true rfl) d_St_takesCells_38 (c_Sh_itemAt hG x1 x2 ((x3 + (x4 * (δ.1 70 a))) + x5) hx1 δ v38 ev38) (Nat.le_refl 0) (Nat.le_refl 0) ?_
    refine x_stw (i := 6) (ls' := [some (.inr (0, a)), some (.inr (0, x1)), some (.inl x2), some (.inl x3), some (.inl x4), some (.inl x5), some (.inl v38)]) d_St_takesCells_41 (by decide) rfl ?_
    refine x_iload (i := 6) d_St_takesCells_43 rfl ?_
    refine x_ic (v := -1) d_St_takesCells_45 (by decide) ?_
    refine x_cmp_lt (tgt := 56) d_St_takesCells_46 (by decide) (fun c46 => ?_) (fun c46 => ?_)
    · have h := if_t c46 h
      refine x_ic (v := 0) d_St_takesCells_56 (by decide) ?_
      replace h := Option.some.inj h; subst h
      exact x_nret rfl rfl d_St_takesCells_57 (Nat.le_refl 0) (Nat.le_refl 0)
    · have h := if_f c46 h
      refine x_iload (i := 6) d_St_takesCells_49 rfl ?_
      refine x_bi (v := 9) d_St_takesCells_51 (by decide) ?_
      refine x_cmp_le (tgt := 58) d_St_takesCells_53 (by decide) (fun c53 => ?_) (fun c53 => ?_)
      · have h := if_t c53 h
        refine x_iload (i := 6) d_St_takesCells_58 rfl ?_
        refine x_ic (v := -1) d_St_takesCells_60 (by decide) ?_
        refine x_cmp_ne (tgt := 77) d_St_takesCells_61 (by decide) (fun c61 => ?_) (fun c61 => ?_)
        · have h := if_f c61 h
          refine x_wk (ls' := [some (.inr (0, a)), some (.inr (0, x1)), some (.inl x2), some (.inl x3), some (.inl x4), some (.inl x5), none]) ⟨Or.inr rfl, Or.inr rfl, Or.inr rfl, Or.inr rfl, Or.inr rfl, Or.inr rfl, Or.inl rfl, trivial⟩ ?_
          exact j_St_takesCells_77 hG a x1 x2 x3 ha hx1 k3 k15 x4 x5 δ r hk3 hk15 h
        · have h := if_t c61 h
          refine x_aload_n (i := 0) d_St_takesCells_64 rfl rfl ?_
          refine x_iload (i := 5) d_St_takesCells_65 rfl ?_
          refine x_iload (i := 4) d_St_takesCells_67 rfl ?_
          obtain ⟨v69, ev69, h⟩ := bd_e h
          refine y_V2 cs_St_72 rfl oa (by first | decide | omega) (Nat.le_of_ble_eq_true rfl) d_St_takesCells_69 (c_St_hasActorAt hG a x5 x4 ha δ v69 ev69) (Nat.le_refl 0) (Nat.le_refl 0) ?_
          refine x_if_eq (tgt := 77) d_St_takesCells_72 (by decide) (fun c72 => ?_) (fun c72 => ?_)
          · have h := if_t c72 h
            refine x_wk (ls' := [some (.inr (0, a)), some (.inr (0, x1)), some (.inl x2), some (.inl x3), some (.inl x4), some (.inl x5), none]) ⟨Or.inr rfl, Or.inr rfl, Or.inr rfl, Or.inr rfl, Or.inr rfl, Or.inr rfl, Or.inl rfl, trivial⟩ ?_
            exact j_St_takesCells_77 hG a x1 x2 x3 ha hx1 k3 k15 x4 x5 δ r hk3 hk15 h
          · have h := if_f c72 h
            refine x_ic (v := 0) d_St_takesCells_75 (by decide) ?_
            replace h := Option.some.inj h; subst h
            exact x_nret rfl rfl d_St_takesCells_76 (Nat.le_refl 0) (Nat.le_refl 0)
      · have h := if_f c53 h
        refine x_ic (v := 0) d_St_takesCells_56 (by decide) ?_
        replace h := Option.some.inj h; subst h
        exact x_nret rfl rfl d_St_takesCells_57 (Nat.le_refl 0) (Nat.le_refl 0)
def F_St_takesCells_15 (a : Nat) (x1 : Nat) (x2 : Int32) (x3 : Int32) (k3 : Int32 → Dl → Option (Int32)) : Nat → Int32 → Int32 → Dl → Option (Int32)
  | 0, _, _, _ => none
  | n + 1, x4, x5, δ => F_St_takesCells_15_b a x1 x2 x3 k3 (F_St_takesCells_15 a x1 x2 x3 k3 n) x4 x5 δ
theorem j_St_takesCells_15 {l : Launch} {Γ : Gm} (hG : GC Γ) (a : Nat) (x1 : Nat) (x2 : Int32) (x3 : Int32) (ha : Oc a 9) (hx1 : Oc x1 7) (k3 : Int32 → Dl → Option (Int32)) (n : Nat) (x4 : Int32) (x5 : Int32) (δ : Dl) (r : Int32) (hk3 : ∀ (x4 : Int32) (δ : Dl),  k3 x4 δ = some r → Xe l M_St_takesCells 2 0 0 NF 3 [some (.inr (0, a)), some (.inr (0, x1)), some (.inl x2), some (.inl x3), some (.inl x4), none, none] [] 0 0 Γ δ (some (.inl r), Γ, δ)) (h : F_St_takesCells_15 a x1 x2 x3 k3 n x4 x5 δ = some r) : Xe l M_St_takesCells 2 0 0 NF 15 [some (.inr (0, a)), some (.inr (0, x1)), some (.inl x2), some (.inl x3), some (.inl x4), some (.inl x5), none] [] 0 0 Γ δ (some (.inl r), Γ, δ) := by
  induction n generalizing x4 x5 δ with
  | zero => cases h
  | succ n ih => exact j_St_takesCells_15_b hG a x1 x2 x3 ha hx1 k3 (F_St_takesCells_15 a x1 x2 x3 k3 n) x4 x5 δ r hk3 (fun x4 x5 δ hh => ih x4 x5 δ hh) h
def F_St_takesCells_3_b (a : Nat) (x1 : Nat) (x2 : Int32) (x3 : Int32) (k3 : Int32 → Dl → Option (Int32)) (x4 : Int32) (δ : Dl) : Option (Int32) :=
  if (δ.1 71 a) ≤ x4 then (some 1) else (F_St_takesCells_15 a x1 x2 x3 k3 FU x4 0 δ)
set_option maxRecDepth 20000 in
set_option maxHeartbeats 4000000 in
theorem j_St_takesCells_3_b {l : Launch} {Γ : Gm} (hG : GC Γ) (a : Nat) (x1 : Nat) (x2 : Int32) (x3 : Int32) (ha : Oc a 9) (hx1 : Oc x1 7) (k3 : Int32 → Dl → Option (Int32)) (x4 : Int32) (δ : Dl) (r : Int32) (hk3 : ∀ (x4 : Int32) (δ : Dl),  k3 x4 δ = some r → Xe l M_St_takesCells 2 0 0 NF 3 [some (.inr (0, a)), some (.inr (0, x1)), some (.inl x2), some (.inl x3), some (.inl x4), none, none] [] 0 0 Γ δ (some (.inl r), Γ, δ)) (h : F_St_takesCells_3_b a x1 x2 x3 k3 x4 δ = some r) : Xe l M_St_takesCells 2 0 0 NF 3 [some (.inr (0, a)), some (.inr (0, x1)), some (.inl x2), some (.inl x3), some (.inl x4), none, none] [] 0 0 Γ δ (some (.inl r), Γ, δ) := by
  unfold F_St_takesCells_3_b at h
  have oa := hG.ob ha
  refine x_iload (i := 4) d_St_takesCells_3 rfl ?_
  refine x_aload_n (i := 0) d_St_takesCells_5 rfl rfl ?_
  refine x_getI (f := 71) gl_St_15_9 rfl kf_71 oa d_St_takesCells_6 ?_
  refine x_cmp_ge (tgt := 89) d_St_takesCells_9 (by decide) (fun c9 => ?_) (fun c9 => ?_)
  · have h := if_t c9 h
    refine x_ic (v := 1) d_St_takesCells_89 (by decide) ?_
    replace h := Option.some.inj h; subst h
    exact x_nret rfl rfl d_St_takesCells_90 (Nat.le_refl 0) (Nat.le_refl 0)
  · have h := if_f c9 h
    refine x_ic (v := 0) d_St_takesCells_12 (by decide) ?_
    refine x_stw (i := 5) (ls' := [some (.inr (0, a)), some (.inr (0, x1)), some (.inl x2), some (.inl x3), some (.inl x4), some (.inl 0), none]) d_St_takesCells_13 (by decide) rfl ?_
    exact j_St_takesCells_15 hG a x1 x2 x3 ha hx1 k3 FU x4 0 δ r hk3 h
def F_St_takesCells_3 (a : Nat) (x1 : Nat) (x2 : Int32) (x3 : Int32) : Nat → Int32 → Dl → Option (Int32)
  | 0, _, _ => none
  | n + 1, x4, δ => F_St_takesCells_3_b a x1 x2 x3 (F_St_takesCells_3 a x1 x2 x3 n) x4 δ
theorem j_St_takesCells_3 {l : Launch} {Γ : Gm} (hG : GC Γ) (a : Nat) (x1 : Nat) (x2 : Int32) (x3 : Int32) (ha : Oc a 9) (hx1 : Oc x1 7) (n : Nat) (x4 : Int32) (δ : Dl) (r : Int32) (h : F_St_takesCells_3 a x1 x2 x3 n x4 δ = some r) : Xe l M_St_takesCells 2 0 0 NF 3 [some (.inr (0, a)), some (.inr (0, x1)), some (.inl x2), some (.inl x3), some (.inl x4), none, none] [] 0 0 Γ δ (some (.inl r), Γ, δ) := by
  induction n generalizing x4 δ with
  | zero => cases h
  | succ n ih => exact j_St_takesCells_3_b hG a x1 x2 x3 ha hx1 (F_St_takesCells_3 a x1 x2 x3 n) x4 δ r (fun x4 δ hh => ih x4 δ hh) h
def F_St_takesCells (a : Nat) (x1 : Nat) (x2 : Int32) (x3 : Int32) (δ : Dl) : Option (Int32) :=
  F_St_takesCells_3 a x1 x2 x3 FU 0 δ
set_option maxRecDepth 20000 in
set_option maxHeartbeats 4000000 in
theorem c_St_takesCells {l : Launch} {Γ : Gm} (hG : GC Γ) (a : Nat) (x1 : Nat) (x2 : Int32) (x3 : Int32) (ha : Oc a 9) (hx1 : Oc x1 7) (δ : Dl) (r : Int32) (h : F_St_takesCells a x1 x2 x3  δ = some r) : Ct l M_St_takesCells 2 0 0 NF [.inr (0, a), .inr (0, x1), .inl x2, .inl x3] Γ δ (some (.inl r), Γ, δ) := by
  unfold F_St_takesCells at h
  have oa := hG.ob ha
  refine Ct.of2 (n := 3) (ls := [some (.inr (0, a)), some (.inr (0, x1)), some (.inl x2), some (.inl x3), none, none, none]) rfl (by decide +kernel) (Nat.le_of_ble_eq_true rfl) ?_
  refine x_ic (v := 0) d_St_takesCells_0 (by decide) ?_
  refine x_stw (i := 4) (ls' := [some (.inr (0, a)), some (.inr (0, x1)), some (.inl x2), some (.inl x3), some (.inl 0), none, none]) d_St_takesCells_1 (by decide) rfl ?_
  exact j_St_takesCells_3 hG a x1 x2 x3 ha hx1 FU 0 δ r h
-- BlockStage$Stage.setCells(LBlockStage$Sheets;II)V
theorem d_St_setCells_0 : decode M_St_setCells.2.1 0 = .ok (.iconst 0, 1) := by decide +kernel
theorem d_St_setCells_1 : decode M_St_setCells.2.1 1 = .ok (.istore 4, 2) := by decide +kernel
theorem d_St_setCells_3 : decode M_St_setCells.2.1 3 = .ok (.iload 4, 2) := by decide +kernel
theorem d_St_setCells_5 : decode M_St_setCells.2.1 5 = .ok (.aload_n 0, 1) := by decide +kernel
theorem d_St_setCells_6 : decode M_St_setCells.2.1 6 = .ok (.getfield 15, 3) := by decide +kernel
theorem d_St_setCells_9 : decode M_St_setCells.2.1 9 = .ok (.if_icmp .ge 52, 3) := by decide +kernel
theorem d_St_setCells_12 : decode M_St_setCells.2.1 12 = .ok (.iconst 0, 1) := by decide +kernel
theorem d_St_setCells_13 : decode M_St_setCells.2.1 13 = .ok (.istore 5, 2) := by decide +kernel
theorem d_St_setCells_15 : decode M_St_setCells.2.1 15 = .ok (.iload 5, 2) := by decide +kernel
theorem d_St_setCells_17 : decode M_St_setCells.2.1 17 = .ok (.aload_n 0, 1) := by decide +kernel
theorem d_St_setCells_18 : decode M_St_setCells.2.1 18 = .ok (.getfield 11, 3) := by decide +kernel
theorem d_St_setCells_21 : decode M_St_setCells.2.1 21 = .ok (.if_icmp .ge 34, 3) := by decide +kernel
theorem d_St_setCells_24 : decode M_St_setCells.2.1 24 = .ok (.aload_n 0, 1) := by decide +kernel
theorem d_St_setCells_25 : decode M_St_setCells.2.1 25 = .ok (.iload 5, 2) := by decide +kernel
theorem d_St_setCells_27 : decode M_St_setCells.2.1 27 = .ok (.iload 4, 2) := by decide +kernel
theorem d_St_setCells_29 : decode M_St_setCells.2.1 29 = .ok (.aload_n 1, 1) := by decide +kernel
theorem d_St_setCells_30 : decode M_St_setCells.2.1 30 = .ok (.iload_n 2, 1) := by decide +kernel
theorem d_St_setCells_31 : decode M_St_setCells.2.1 31 = .ok (.iload_n 3, 1) := by decide +kernel
theorem d_St_setCells_32 : decode M_St_setCells.2.1 32 = .ok (.iload 4, 2) := by decide +kernel
theorem d_St_setCells_34 : decode M_St_setCells.2.1 34 = .ok (.aload_n 0, 1) := by decide +kernel
theorem d_St_setCells_35 : decode M_St_setCells.2.1 35 = .ok (.getfield 11, 3) := by decide +kernel
theorem d_St_setCells_38 : decode M_St_setCells.2.1 38 = .ok (.imul, 1) := by decide +kernel
theorem d_St_setCells_39 : decode M_St_setCells.2.1 39 = .ok (.iadd, 1) := by decide +kernel
theorem d_St_setCells_40 : decode M_St_setCells.2.1 40 = .ok (.iload 5, 2) := by decide +kernel
theorem d_St_setCells_42 : decode M_St_setCells.2.1 42 = .ok (.iadd, 1) := by decide +kernel
theorem d_St_setCells_43 : decode M_St_setCells.2.1 43 = .ok (.invokevirtual 67, 3) := by decide +kernel
theorem d_St_setCells_46 : decode M_St_setCells.2.1 46 = .ok (.invokevirtual 53, 3) := by decide +kernel
theorem d_St_setCells_49 : decode M_St_setCells.2.1 49 = .ok (.iinc 5 1, 3) := by decide +kernel
theorem d_St_setCells_52 : decode M_St_setCells.2.1 52 = .ok (.goto (-37), 3) := by decide +kernel
theorem d_St_setCells_55 : decode M_St_setCells.2.1 55 = .ok (.iinc 4 1, 3) := by decide +kernel
theorem d_St_setCells_58 : decode M_St_setCells.2.1 58 = .ok (.goto (-55), 3) := by decide +kernel
theorem d_St_setCells_61 : decode M_St_setCells.2.1 61 = .ok (.return_, 1) := by decide +kernel
def F_St_setCells_15_b (a : Nat) (x1 : Nat) (x2 : Int32) (x3 : Int32) (k3 : Int32 → Dl → Option (Dl)) (k15 : Int32 → Int32 → Dl → Option (Dl)) (x4 : Int32) (x5 : Int32) (δ : Dl) : Option (Dl) :=
  if (δ.1 70 a) ≤ x5 then (k3 ((x4 + 1)) δ) else ((F_Sh_itemAt x1 x2 ((x3 + (x4 * (δ.1 70 a))) + x5) δ).bind fun v43 => (F_St_setCell a x5 x4 v43 δ).bind fun δ46 => k15 x4 ((x5 + 1)) δ46)
set_option maxRecDepth 20000 in
set_option maxHeartbeats 4000000 in
theorem j_St_setCells_15_b {l : Launch} {Γ : Gm} (hG : GC Γ) (a : Nat) (x1 : Nat) (x2 : Int32) (x3 : Int32) (ha : Oc a 9) (hx1 : Oc x1 7) (k3 : Int32 → Dl → Option (Dl)) (k15 : Int32 → Int32 → Dl → Option (Dl)) (x4 : Int32) (x5 : Int32) (δ : Dl) (r : Dl) (hk3 : ∀ (x4 : Int32) (δ : Dl),  k3 x4 δ = some r → Xe l M_St_setCells 2 0 0 NF 3 [some (.inr (0, a)), some (.inr (0, x1)), some (.inl x2), some (.inl x3), some (.inl x4), none] [] 0 0 Γ δ (none, Γ, r)) (hk15 : ∀ (x4 : Int32) (x5 : Int32) (δ : Dl),  k15 x4 x5 δ = some r → Xe l M_St_setCells 2 0 0 NF 15 [some (.inr (0, a)), some (.inr (0, x1)), some (.inl x2), some (.inl x3), some (.inl x4), some (.inl x5)] [] 0 0 Γ δ (none, Γ, r)) (h : F_St_setCells_15_b a x1 x2 x3 k3 k15 x4 x5 δ = some r) : Xe l M_St_setCells 2 0 0 NF 15 [some (.inr (0, a)), some (.inr (0, x1)), some (.inl x2), some (.inl x3), some (.inl x4), some (.inl x5)] [] 0 0 Γ δ (none, Γ, r) := by
  unfold F_St_setCells_15_b at h
  have oa := hG.ob ha
  refine x_iload (i := 5) d_St_setCells_15 rfl ?_
  refine x_aload_n (i := 0) d_St_setCells_17 rfl rfl ?_
  refine x_getI (f := 70) gl_St_11_9 rfl kf_70 oa d_St_setCells_18 ?_
  refine x_cmp_ge (tgt := 55) d_St_setCells_21 (by decide) (fun c21 => ?_) (fun c21 => ?_)
  · have h := if_t c21 h
    refine x_inc (i := 4) (c0 := 1) (ls' := [some (.inr (0, a)), some (.inr (0, x1)), some (.inl x2), some (.inl x3), some (.inl (x4 + 1)), some (.inl x5)]) d_St_setCells_55 (by decide) rfl (by decide) rfl ?_
    refine x_goto (tgt := 3) d_St_setCells_58 (by decide) ?_
    refine x_wk (ls' := [some (.inr (0, a)), some (.inr (0, x1)), some (.inl x2), some (.inl x3), some (.inl (x4 + 1)), none]) ⟨Or.inr rfl, Or.inr rfl, Or.inr rfl, Or.inr rfl, Or.inr rfl, Or.inl rfl, trivial⟩ ?_
    exact hk3 ((x4 + 1)) δ h
  · have h := if_f c21 h
    refine x_aload_n (i := 0) d_St_setCells_24 rfl rfl ?_
    refine x_iload (i := 5) d_St_setCells_25 rfl ?_
    refine x_iload (i := 4) d_St_setCells_27 rfl ?_
    refine x_aload_n (i := 1) d_St_setCells_29 rfl rfl ?_
    refine x_iload_n (i := 2) d_St_setCells_30 rfl rfl ?_
    refine x_iload_n (i := 3) d_St_setCells_31 rfl rfl ?_
    refine x_iload (i := 4) d_St_setCells_32 rfl ?_
    refine x_aload_n (i := 0) d_St_setCells_34 rfl rfl ?_
    refine x_getI (f := 70) gl_St_11_9 rfl kf_70 oa d_St_setCells_35 ?_
    refine x_imul d_St_setCells_38 ?_
    refine x_iadd d_St_setCells_39 ?_
    refine x_iload (i := 5) d_St_setCells_40 rfl ?_
    refine x_iadd d_St_setCells_42 ?_
    obtain ⟨v43, ev43, h⟩ := bd_e h
    refine y_V2 cs_St_67 rfl (hG.ob hx1) (by first | decide | omega) (Nat.le_of_ble_eq_true rfl) d_St_setCells_43 (c_Sh_itemAt hG x1 x2 ((x3 + (x4 * (δ.1 70 a))) + x5) hx1 δ v43 ev43) (Nat.le_refl 0) (Nat.le_refl 0) ?_
    obtain ⟨δ46, eδ46, h⟩ := bd_e h
    refine y_V3v cs_St_53 rfl oa (by first | decide | omega) (Nat.le_of_ble_eq_true rfl) d_St_setCells_46 (c_St_setCell hG a x5 x4 v43 ha δ δ46 eδ46) (Nat.le_refl 0) (Nat.le_refl 0) ?_
    refine x_inc (i := 5) (c0 := 1) (ls' := [some (.inr (0, a)), some (.inr (0, x1)), some (.inl x2), some (.inl x3), some (.inl x4), some (.inl (x5 + 1))]) d_St_setCells_49 (by decide) rfl (by decide) rfl ?_
    refine x_goto (tgt := 15) d_St_setCells_52 (by decide) ?_
    exact hk15 x4 ((x5 + 1)) δ46 h
def F_St_setCells_15 (a : Nat) (x1 : Nat) (x2 : Int32) (x3 : Int32) (k3 : Int32 → Dl → Option (Dl)) : Nat → Int32 → Int32 → Dl → Option (Dl)
  | 0, _, _, _ => none
  | n + 1, x4, x5, δ => F_St_setCells_15_b a x1 x2 x3 k3 (F_St_setCells_15 a x1 x2 x3 k3 n) x4 x5 δ
theorem j_St_setCells_15 {l : Launch} {Γ : Gm} (hG : GC Γ) (a : Nat) (x1 : Nat) (x2 : Int32) (x3 : Int32) (ha : Oc a 9) (hx1 : Oc x1 7) (k3 : Int32 → Dl → Option (Dl)) (n : Nat) (x4 : Int32) (x5 : Int32) (δ : Dl) (r : Dl) (hk3 : ∀ (x4 : Int32) (δ : Dl),  k3 x4 δ = some r → Xe l M_St_setCells 2 0 0 NF 3 [some (.inr (0, a)), some (.inr (0, x1)), some (.inl x2), some (.inl x3), some (.inl x4), none] [] 0 0 Γ δ (none, Γ, r)) (h : F_St_setCells_15 a x1 x2 x3 k3 n x4 x5 δ = some r) : Xe l M_St_setCells 2 0 0 NF 15 [some (.inr (0, a)), some (.inr (0, x1)), some (.inl x2), some (.inl x3), some (.inl x4), some (.inl x5)] [] 0 0 Γ δ (none, Γ, r) := by
  induction n generalizing x4 x5 δ with
  | zero => cases h
  | succ n ih => exact j_St_setCells_15_b hG a x1 x2 x3 ha hx1 k3 (F_St_setCells_15 a x1 x2 x3 k3 n) x4 x5 δ r hk3 (fun x4 x5 δ hh => ih x4 x5 δ hh) h
def F_St_setCells_3_b (a : Nat) (x1 : Nat) (x2 : Int32) (x3 : Int32) (k3 : Int32 → Dl → Option (Dl)) (x4 : Int32) (δ : Dl) : Option (Dl) :=
  if (δ.1 71 a) ≤ x4 then (some δ) else (F_St_setCells_15 a x1 x2 x3 k3 FU x4 0 δ)
set_option maxRecDepth 20000 in
set_option maxHeartbeats 4000000 in
theorem j_St_setCells_3_b {l : Launch} {Γ : Gm} (hG : GC Γ) (a : Nat) (x1 : Nat) (x2 : Int32) (x3 : Int32) (ha : Oc a 9) (hx1 : Oc x1 7) (k3 : Int32 → Dl → Option (Dl)) (x4 : Int32) (δ : Dl) (r : Dl) (hk3 : ∀ (x4 : Int32) (δ : Dl),  k3 x4 δ = some r → Xe l M_St_setCells 2 0 0 NF 3 [some (.inr (0, a)), some (.inr (0, x1)), some (.inl x2), some (.inl x3), some (.inl x4), none] [] 0 0 Γ δ (none, Γ, r)) (h : F_St_setCells_3_b a x1 x2 x3 k3 x4 δ = some r) : Xe l M_St_setCells 2 0 0 NF 3 [some (.inr (0, a)), some (.inr (0, x1)), some (.inl x2), some (.inl x3), some (.inl x4), none] [] 0 0 Γ δ (none, Γ, r) := by
  unfold F_St_setCells_3_b at h
  have oa := hG.ob ha
  refine x_iload (i := 4) d_St_setCells_3 rfl ?_
  refine x_aload_n (i := 0) d_St_setCells_5 rfl rfl ?_
  refine x_getI (f := 71) gl_St_15_9 rfl kf_71 oa d_St_setCells_6 ?_
  refine x_cmp_ge (tgt := 61) d_St_setCells_9 (by decide) (fun c9 => ?_) (fun c9 => ?_)
  · have h := if_t c9 h
    replace h := Option.some.inj h; subst h
    exact x_vret rfl d_St_setCells_61 (Nat.le_refl 0) (Nat.le_refl 0)
  · have h := if_f c9 h
    refine x_ic (v := 0) d_St_setCells_12 (by decide) ?_
    refine x_stw (i := 5) (ls' := [some (.inr (0, a)), some (.inr (0, x1)), some (.inl x2), some (.inl x3), some (.inl x4), some (.inl 0)]) d_St_setCells_13 (by decide) rfl ?_
    exact j_St_setCells_15 hG a x1 x2 x3 ha hx1 k3 FU x4 0 δ r hk3 h
def F_St_setCells_3 (a : Nat) (x1 : Nat) (x2 : Int32) (x3 : Int32) : Nat → Int32 → Dl → Option (Dl)
  | 0, _, _ => none
  | n + 1, x4, δ => F_St_setCells_3_b a x1 x2 x3 (F_St_setCells_3 a x1 x2 x3 n) x4 δ
theorem j_St_setCells_3 {l : Launch} {Γ : Gm} (hG : GC Γ) (a : Nat) (x1 : Nat) (x2 : Int32) (x3 : Int32) (ha : Oc a 9) (hx1 : Oc x1 7) (n : Nat) (x4 : Int32) (δ : Dl) (r : Dl) (h : F_St_setCells_3 a x1 x2 x3 n x4 δ = some r) : Xe l M_St_setCells 2 0 0 NF 3 [some (.inr (0, a)), some (.inr (0, x1)), some (.inl x2), some (.inl x3), some (.inl x4), none] [] 0 0 Γ δ (none, Γ, r) := by
  induction n generalizing x4 δ with
  | zero => cases h
  | succ n ih => exact j_St_setCells_3_b hG a x1 x2 x3 ha hx1 (F_St_setCells_3 a x1 x2 x3 n) x4 δ r (fun x4 δ hh => ih x4 δ hh) h
def F_St_setCells (a : Nat) (x1 : Nat) (x2 : Int32) (x3 : Int32) (δ : Dl) : Option (Dl) :=
  F_St_setCells_3 a x1 x2 x3 FU 0 δ
set_option maxRecDepth 20000 in
set_option maxHeartbeats 4000000 in
theorem c_St_setCells {l : Launch} {Γ : Gm} (hG : GC Γ) (a : Nat) (x1 : Nat) (x2 : Int32) (x3 : Int32) (ha : Oc a 9) (hx1 : Oc x1 7) (δ : Dl) (r : Dl) (h : F_St_setCells a x1 x2 x3  δ = some r) : Ct l M_St_setCells 2 0 0 NF [.inr (0, a), .inr (0, x1), .inl x2, .inl x3] Γ δ (none, Γ, r) := by
  unfold F_St_setCells at h
  have oa := hG.ob ha
  refine Ct.of2 (n := 2) (ls := [some (.inr (0, a)), some (.inr (0, x1)), some (.inl x2), some (.inl x3), none, none]) rfl (by decide +kernel) (Nat.le_of_ble_eq_true rfl) ?_
  refine x_ic (v := 0) d_St_setCells_0 (by decide) ?_
  refine x_stw (i := 4) (ls' := [some (.inr (0, a)), some (.inr (0, x1)), some (.inl x2), some (.inl x3), some (.inl 0), none]) d_St_setCells_1 (by decide) rfl ?_
  exact j_St_setCells_3 hG a x1 x2 x3 ha hx1 FU 0 δ r h
-- BlockStage$Stage.addActor(III)I
theorem d_St_addActor_0 : decode M_St_addActor.2.1 0 = .ok (.aload_n 0, 1) := by decide +kernel
theorem d_St_addActor_1 : decode M_St_addActor.2.1 1 = .ok (.getfield 18, 3) := by decide +kernel
theorem d_St_addActor_4 : decode M_St_addActor.2.1 4 = .ok (.istore 4, 2) := by decide +kernel
theorem d_St_addActor_6 : decode M_St_addActor.2.1 6 = .ok (.iload 4, 2) := by decide +kernel
theorem d_St_addActor_8 : decode M_St_addActor.2.1 8 = .ok (.ifCond .lt 9, 3) := by decide +kernel
theorem d_St_addActor_11 : decode M_St_addActor.2.1 11 = .ok (.iload 4, 2) := by decide +kernel
theorem d_St_addActor_13 : decode M_St_addActor.2.1 13 = .ok (.iconst 3, 1) := by decide +kernel
theorem d_St_addActor_14 : decode M_St_addActor.2.1 14 = .ok (.if_icmp .lt 6, 3) := by decide +kernel
theorem d_St_addActor_17 : decode M_St_addActor.2.1 17 = .ok (.bipush (-4), 2) := by decide +kernel
theorem d_St_addActor_19 : decode M_St_addActor.2.1 19 = .ok (.ireturn, 1) := by decide +kernel
theorem d_St_addActor_20 : decode M_St_addActor.2.1 20 = .ok (.aload_n 0, 1) := by decide +kernel
theorem d_St_addActor_21 : decode M_St_addActor.2.1 21 = .ok (.getfield 25, 3) := by decide +kernel
theorem d_St_addActor_24 : decode M_St_addActor.2.1 24 = .ok (.iload 4, 2) := by decide +kernel
theorem d_St_addActor_26 : decode M_St_addActor.2.1 26 = .ok (.aload_n 0, 1) := by decide +kernel
theorem d_St_addActor_27 : decode M_St_addActor.2.1 27 = .ok (.iload_n 1, 1) := by decide +kernel
theorem d_St_addActor_28 : decode M_St_addActor.2.1 28 = .ok (.iload_n 2, 1) := by decide +kernel
theorem d_St_addActor_29 : decode M_St_addActor.2.1 29 = .ok (.invokevirtual 63, 3) := by decide +kernel
theorem d_St_addActor_32 : decode M_St_addActor.2.1 32 = .ok (.iastore, 1) := by decide +kernel
theorem d_St_addActor_33 : decode M_St_addActor.2.1 33 = .ok (.aload_n 0, 1) := by decide +kernel
theorem d_St_addActor_34 : decode M_St_addActor.2.1 34 = .ok (.getfield 28, 3) := by decide +kernel
theorem d_St_addActor_37 : decode M_St_addActor.2.1 37 = .ok (.iload 4, 2) := by decide +kernel
theorem d_St_addActor_39 : decode M_St_addActor.2.1 39 = .ok (.iload_n 3, 1) := by decide +kernel
theorem d_St_addActor_40 : decode M_St_addActor.2.1 40 = .ok (.iastore, 1) := by decide +kernel
theorem d_St_addActor_41 : decode M_St_addActor.2.1 41 = .ok (.aload_n 0, 1) := by decide +kernel
theorem d_St_addActor_42 : decode M_St_addActor.2.1 42 = .ok (.getfield 31, 3) := by decide +kernel
theorem d_St_addActor_45 : decode M_St_addActor.2.1 45 = .ok (.iload 4, 2) := by decide +kernel
theorem d_St_addActor_47 : decode M_St_addActor.2.1 47 = .ok (.iconst 0, 1) := by decide +kernel
theorem d_St_addActor_48 : decode M_St_addActor.2.1 48 = .ok (.iastore, 1) := by decide +kernel
theorem d_St_addActor_49 : decode M_St_addActor.2.1 49 = .ok (.aload_n 0, 1) := by decide +kernel
theorem d_St_addActor_50 : decode M_St_addActor.2.1 50 = .ok (.getfield 34, 3) := by decide +kernel
theorem d_St_addActor_53 : decode M_St_addActor.2.1 53 = .ok (.iload 4, 2) := by decide +kernel
theorem d_St_addActor_55 : decode M_St_addActor.2.1 55 = .ok (.iconst 0, 1) := by decide +kernel
theorem d_St_addActor_56 : decode M_St_addActor.2.1 56 = .ok (.iastore, 1) := by decide +kernel
theorem d_St_addActor_57 : decode M_St_addActor.2.1 57 = .ok (.aload_n 0, 1) := by decide +kernel
theorem d_St_addActor_58 : decode M_St_addActor.2.1 58 = .ok (.getfield 37, 3) := by decide +kernel
theorem d_St_addActor_61 : decode M_St_addActor.2.1 61 = .ok (.iload 4, 2) := by decide +kernel
theorem d_St_addActor_63 : decode M_St_addActor.2.1 63 = .ok (.iconst (-1), 1) := by decide +kernel
theorem d_St_addActor_64 : decode M_St_addActor.2.1 64 = .ok (.iastore, 1) := by decide +kernel
theorem d_St_addActor_65 : decode M_St_addActor.2.1 65 = .ok (.aload_n 0, 1) := by decide +kernel
theorem d_St_addActor_66 : decode M_St_addActor.2.1 66 = .ok (.iload 4, 2) := by decide +kernel
theorem d_St_addActor_68 : decode M_St_addActor.2.1 68 = .ok (.iconst 1, 1) := by decide +kernel
theorem d_St_addActor_69 : decode M_St_addActor.2.1 69 = .ok (.iadd, 1) := by decide +kernel
theorem d_St_addActor_70 : decode M_St_addActor.2.1 70 = .ok (.putfield 18, 3) := by decide +kernel
theorem d_St_addActor_73 : decode M_St_addActor.2.1 73 = .ok (.iload 4, 2) := by decide +kernel
theorem d_St_addActor_75 : decode M_St_addActor.2.1 75 = .ok (.ireturn, 1) := by decide +kernel
def F_St_addActor (a : Nat) (x1 : Int32) (x2 : Int32) (x3 : Int32) (δ : Dl) : Option (Int32 × Dl) :=
  if (δ.1 72 a) < 0 then (some ((-4), δ)) else (if (δ.1 72 a) < 3 then (bnd (F_St_placeOf a x1 x2 δ) fun v29 => if inb (δ.1 72 a) 3 then bnd (sA δ 74 a (δ.1 72 a) v29) fun δ32 => if inb (δ.1 72 a) 3 then bnd (sA δ32 75 a (δ.1 72 a) x3) fun δ40 => if inb (δ.1 72 a) 3 then bnd (sA δ40 76 a (δ.1 72 a) 0) fun δ48 => if inb (δ.1 72 a) 3 then bnd (sA δ48 77 a (δ.1 72 a) 0) fun δ56 => if inb (δ.1 72 a) 3 then bnd (sA δ56 78 a (δ.1 72 a) (-1)) fun δ64 => bnd (sI δ64 72 a ((δ.1 72 a) + 1)) fun δ70 => some ((δ.1 72 a), δ70) else none else none else none else none else none) else (some ((-4), δ)))
set_option maxRecDepth 20000 in
set_option maxHeartbeats 4000000 in
theorem c_St_addActor {l : Launch} {Γ : Gm} (hG : GC Γ) (a : Nat) (x1 : Int32) (x2 : Int32) (x3 : Int32) (ha : Oc a 9) (δ : Dl) (r : Int32 × Dl) (h : F_St_addActor a x1 x2 x3  δ = some r) : Ct l M_St_addActor 1 0 0 NF [.inr (0, a), .inl x1, .inl x2, .inl x3] Γ δ (some (.inl r.1), Γ, r.2) := by
  unfold F_St_addActor at h
  have oa := hG.ob ha
  refine Ct.of2 (n := 1) (ls := [some (.inr (0, a)), some (.inl x1), some (.inl x2), some (.inl x3), none]) rfl (by decide +kernel) (Nat.le_of_ble_eq_true rfl) ?_
  refine x_aload_n (i := 0) d_St_addActor_0 rfl rfl ?_
  refine x_getI (f := 72) gl_St_18_9 rfl kf_72 oa d_St_addActor_1 ?_
  refine x_stw (i := 4) (ls' := [some (.inr (0, a)), some (.inl x1), some (.inl x2), some (.inl x3), some (.inl (δ.1 72 a))]) d_St_addActor_4 (by decide) rfl ?_
  refine x_iload (i := 4) d_St_addActor_6 rfl ?_
  refine x_if_lt (tgt := 17) d_St_addActor_8 (by decide) (fun c8 => ?_) (fun c8 => ?_)
  · have h := if_t c8 h
    refine x_bi (v := -4) d_St_addActor_17 (by decide) ?_
    replace h := Option.some.inj h; subst h
    exact x_iret rfl d_St_addActor_19 (Nat.le_refl 0) (Nat.le_refl 0)
  · have h := if_f c8 h
    refine x_iload (i := 4) d_St_addActor_11 rfl ?_
    refine x_ic (v := 3) d_St_addActor_13 (by decide) ?_
    refine x_cmp_lt (tgt := 20) d_St_addActor_14 (by decide) (fun c14 => ?_) (fun c14 => ?_)
    · have h := if_t c14 h
      refine x_aload_n (i := 0) d_St_addActor_20 rfl rfl ?_
      refine x_getA (f := 74) gl_St_25_9 rfl (by rw [kf_74]; decide) oa d_St_addActor_21 ?_
      refine x_iload (i := 4) d_St_addActor_24 rfl ?_
      refine x_aload_n (i := 0) d_St_addActor_26 rfl rfl ?_
      refine x_iload_n (i := 1) d_St_addActor_27 rfl rfl ?_
      refine x_iload_n (i := 2) d_St_addActor_28 rfl rfl ?_
      obtain ⟨v29, ev29, h⟩ := bn_e h
      refine y_V2 cs_St_63 rfl oa (by first | decide | omega) (Nat.le_of_ble_eq_true rfl) d_St_addActor_29 (c_St_placeOf hG a x1 x2 ha δ v29 ev29) (Nat.le_refl 0) (Nat.le_refl 0) ?_
      obtain ⟨g32, h⟩ := gd_e h
      obtain ⟨δ32, eδ32, h⟩ := bn_e h
      refine x_iast (n := 3) kf_74 (oz_74 oa) (ln_74 _) g32 d_St_addActor_32 (Xe.cδ eδ32 ?_)
      refine x_aload_n (i := 0) d_St_addActor_33 rfl rfl ?_
      refine x_getA (f := 75) gl_St_28_9 rfl (by rw [kf_75]; decide) oa d_St_addActor_34 ?_
      refine x_iload (i := 4) d_St_addActor_37 rfl ?_
      refine x_iload_n (i := 3) d_St_addActor_39 rfl rfl ?_
      obtain ⟨g40, h⟩ := gd_e h
      obtain ⟨δ40, eδ40, h⟩ := bn_e h
      refine x_iast (n := 3) kf_75 (oz_75 oa) (ln_75 _) g40 d_St_addActor_40 (Xe.cδ eδ40 ?_)
      refine x_aload_n (i := 0) d_St_addActor_41 rfl rfl ?_
      refine x_getA (f := 76) gl_St_31_9 rfl (by rw [kf_76]; decide) oa d_St_addActor_42 ?_
      refine x_iload (i := 4) d_St_addActor_45 rfl ?_
      refine x_ic (v := 0) d_St_addActor_47 (by decide) ?_
      obtain ⟨g48, h⟩ := gd_e h
      obtain ⟨δ48, eδ48, h⟩ := bn_e h
      refine x_iast (n := 3) kf_76 (oz_76 oa) (ln_76 _) g48 d_St_addActor_48 (Xe.cδ eδ48 ?_)
      refine x_aload_n (i := 0) d_St_addActor_49 rfl rfl ?_
      refine x_getA (f := 77) gl_St_34_9 rfl (by rw [kf_77]; decide) oa d_St_addActor_50 ?_
      refine x_iload (i := 4) d_St_addActor_53 rfl ?_
      refine x_ic (v := 0) d_St_addActor_55 (by decide) ?_
      obtain ⟨g56, h⟩ := gd_e h
      obtain ⟨δ56, eδ56, h⟩ := bn_e h
      refine x_iast (n := 3) kf_77 (oz_77 oa) (ln_77 _) g56 d_St_addActor_56 (Xe.cδ eδ56 ?_)
      refine x_aload_n (i := 0) d_St_addActor_57 rfl rfl ?_
      refine x_getA (f := 78) gl_St_37_9 rfl (by rw [kf_78]; decide) oa d_St_addActor_58 ?_
      refine x_iload (i := 4) d_St_addActor_61 rfl ?_
      refine x_ic (v := -1) d_St_addActor_63 (by decide) ?_
      obtain ⟨g64, h⟩ := gd_e h
      obtain ⟨δ64, eδ64, h⟩ := bn_e h
      refine x_iast (n := 3) kf_78 (oz_78 oa) (ln_78 _) g64 d_St_addActor_64 (Xe.cδ eδ64 ?_)
      refine x_aload_n (i := 0) d_St_addActor_65 rfl rfl ?_
      refine x_iload (i := 4) d_St_addActor_66 rfl ?_
      refine x_ic (v := 1) d_St_addActor_68 (by decide) ?_
      refine x_iadd d_St_addActor_69 ?_
      obtain ⟨δ70, eδ70, h⟩ := bn_e h
      refine x_putI (f := 72) gp_St_18_9 rfl kf_72 (fun h => by cases h) rfl rfl oa.1 oa.z d_St_addActor_70 (Xe.cδ eδ70 ?_)
      refine x_iload (i := 4) d_St_addActor_73 rfl ?_
      replace h := Option.some.inj h; subst h
      exact x_iret rfl d_St_addActor_75 (Nat.le_refl 0) (Nat.le_refl 0)
    · have h := if_f c14 h
      refine x_bi (v := -4) d_St_addActor_17 (by decide) ?_
      replace h := Option.some.inj h; subst h
      exact x_iret rfl d_St_addActor_19 (Nat.le_refl 0) (Nat.le_refl 0)
-- BlockStage$Stage.isActor(I)Z
theorem d_St_isActor_0 : decode M_St_isActor.2.1 0 = .ok (.iload_n 1, 1) := by decide +kernel
theorem d_St_isActor_1 : decode M_St_isActor.2.1 1 = .ok (.ifCond .lt 15, 3) := by decide +kernel
theorem d_St_isActor_4 : decode M_St_isActor.2.1 4 = .ok (.iload_n 1, 1) := by decide +kernel
theorem d_St_isActor_5 : decode M_St_isActor.2.1 5 = .ok (.aload_n 0, 1) := by decide +kernel
theorem d_St_isActor_6 : decode M_St_isActor.2.1 6 = .ok (.getfield 18, 3) := by decide +kernel
theorem d_St_isActor_9 : decode M_St_isActor.2.1 9 = .ok (.if_icmp .ge 7, 3) := by decide +kernel
theorem d_St_isActor_12 : decode M_St_isActor.2.1 12 = .ok (.iconst 1, 1) := by decide +kernel
theorem d_St_isActor_13 : decode M_St_isActor.2.1 13 = .ok (.goto 4, 3) := by decide +kernel
theorem d_St_isActor_16 : decode M_St_isActor.2.1 16 = .ok (.iconst 0, 1) := by decide +kernel
theorem d_St_isActor_17 : decode M_St_isActor.2.1 17 = .ok (.ireturn, 1) := by decide +kernel
def F_St_isActor (a : Nat) (x1 : Int32) (δ : Dl) : Int32 :=
  if x1 < 0 then 0 else (if (δ.1 72 a) ≤ x1 then 0 else 1)
set_option maxRecDepth 20000 in
set_option maxHeartbeats 4000000 in
theorem c_St_isActor {l : Launch} {Γ : Gm} (hG : GC Γ) (a : Nat) (x1 : Int32) (ha : Oc a 9) (δ : Dl) (r : Int32) (h : F_St_isActor a x1  δ = r) : Ct l M_St_isActor 0 0 0 NF [.inr (0, a), .inl x1] Γ δ (some (.inl r), Γ, δ) := by
  unfold F_St_isActor at h
  have oa := hG.ob ha
  refine Ct.of2 (n := 0) (ls := [some (.inr (0, a)), some (.inl x1)]) rfl (by decide +kernel) (Nat.le_of_ble_eq_true rfl) ?_
  refine x_iload_n (i := 1) d_St_isActor_0 rfl rfl ?_
  refine x_if_lt (tgt := 16) d_St_isActor_1 (by decide) (fun c1 => ?_) (fun c1 => ?_)
  · have h := if_t c1 h
    refine x_ic (v := 0) d_St_isActor_16 (by decide) ?_
    subst h
    exact x_nret rfl rfl d_St_isActor_17 (Nat.le_refl 0) (Nat.le_refl 0)
  · have h := if_f c1 h
    refine x_iload_n (i := 1) d_St_isActor_4 rfl rfl ?_
    refine x_aload_n (i := 0) d_St_isActor_5 rfl rfl ?_
    refine x_getI (f := 72) gl_St_18_9 rfl kf_72 oa d_St_isActor_6 ?_
    refine x_cmp_ge (tgt := 16) d_St_isActor_9 (by decide) (fun c9 => ?_) (fun c9 => ?_)
    · have h := if_t c9 h
      refine x_ic (v := 0) d_St_isActor_16 (by decide) ?_
      subst h
      exact x_nret rfl rfl d_St_isActor_17 (Nat.le_refl 0) (Nat.le_refl 0)
    · have h := if_f c9 h
      refine x_ic (v := 1) d_St_isActor_12 (by decide) ?_
      refine x_goto (tgt := 17) d_St_isActor_13 (by decide) ?_
      subst h
      exact x_nret rfl rfl d_St_isActor_17 (Nat.le_refl 0) (Nat.le_refl 0)
theorem b_St_isActor {a : Nat} {x1 : Int32} {δ : Dl} : F_St_isActor a x1  δ = 0 ∨ F_St_isActor a x1  δ = 1 := by
  unfold F_St_isActor
  try dsimp only [bnd]
  repeat' split
  all_goals first | exact Or.inl rfl | exact Or.inr rfl
-- BlockStage$Stage.actorPart(II)I
theorem d_St_actorPart_0 : decode M_St_actorPart.2.1 0 = .ok (.iload_n 1, 1) := by decide +kernel
theorem d_St_actorPart_1 : decode M_St_actorPart.2.1 1 = .ok (.ifCond .lt 11, 3) := by decide +kernel
theorem d_St_actorPart_4 : decode M_St_actorPart.2.1 4 = .ok (.iload_n 1, 1) := by decide +kernel
theorem d_St_actorPart_5 : decode M_St_actorPart.2.1 5 = .ok (.aload_n 0, 1) := by decide +kernel
theorem d_St_actorPart_6 : decode M_St_actorPart.2.1 6 = .ok (.getfield 18, 3) := by decide +kernel
theorem d_St_actorPart_9 : decode M_St_actorPart.2.1 9 = .ok (.if_icmp .lt 6, 3) := by decide +kernel
theorem d_St_actorPart_12 : decode M_St_actorPart.2.1 12 = .ok (.ldc 76, 2) := by decide +kernel
theorem d_St_actorPart_14 : decode M_St_actorPart.2.1 14 = .ok (.ireturn, 1) := by decide +kernel
theorem d_St_actorPart_15 : decode M_St_actorPart.2.1 15 = .ok (.iload_n 2, 1) := by decide +kernel
theorem d_St_actorPart_16 : decode M_St_actorPart.2.1 16 = .ok (.tableswitch 92 0 5 #[40, 52, 64, 71, 78, 85], 40) := by decide +kernel
theorem d_St_actorPart_56 : decode M_St_actorPart.2.1 56 = .ok (.aload_n 0, 1) := by decide +kernel
theorem d_St_actorPart_57 : decode M_St_actorPart.2.1 57 = .ok (.getfield 25, 3) := by decide +kernel
theorem d_St_actorPart_60 : decode M_St_actorPart.2.1 60 = .ok (.iload_n 1, 1) := by decide +kernel
theorem d_St_actorPart_61 : decode M_St_actorPart.2.1 61 = .ok (.iaload, 1) := by decide +kernel
theorem d_St_actorPart_62 : decode M_St_actorPart.2.1 62 = .ok (.bipush 10, 2) := by decide +kernel
theorem d_St_actorPart_64 : decode M_St_actorPart.2.1 64 = .ok (.irem, 1) := by decide +kernel
theorem d_St_actorPart_65 : decode M_St_actorPart.2.1 65 = .ok (.iconst 1, 1) := by decide +kernel
theorem d_St_actorPart_66 : decode M_St_actorPart.2.1 66 = .ok (.isub, 1) := by decide +kernel
theorem d_St_actorPart_67 : decode M_St_actorPart.2.1 67 = .ok (.ireturn, 1) := by decide +kernel
theorem d_St_actorPart_68 : decode M_St_actorPart.2.1 68 = .ok (.aload_n 0, 1) := by decide +kernel
theorem d_St_actorPart_69 : decode M_St_actorPart.2.1 69 = .ok (.getfield 25, 3) := by decide +kernel
theorem d_St_actorPart_72 : decode M_St_actorPart.2.1 72 = .ok (.iload_n 1, 1) := by decide +kernel
theorem d_St_actorPart_73 : decode M_St_actorPart.2.1 73 = .ok (.iaload, 1) := by decide +kernel
theorem d_St_actorPart_74 : decode M_St_actorPart.2.1 74 = .ok (.bipush 10, 2) := by decide +kernel
theorem d_St_actorPart_76 : decode M_St_actorPart.2.1 76 = .ok (.idiv, 1) := by decide +kernel
theorem d_St_actorPart_77 : decode M_St_actorPart.2.1 77 = .ok (.iconst 1, 1) := by decide +kernel
theorem d_St_actorPart_78 : decode M_St_actorPart.2.1 78 = .ok (.isub, 1) := by decide +kernel
theorem d_St_actorPart_79 : decode M_St_actorPart.2.1 79 = .ok (.ireturn, 1) := by decide +kernel
theorem d_St_actorPart_80 : decode M_St_actorPart.2.1 80 = .ok (.aload_n 0, 1) := by decide +kernel
theorem d_St_actorPart_81 : decode M_St_actorPart.2.1 81 = .ok (.getfield 28, 3) := by decide +kernel
theorem d_St_actorPart_84 : decode M_St_actorPart.2.1 84 = .ok (.iload_n 1, 1) := by decide +kernel
theorem d_St_actorPart_85 : decode M_St_actorPart.2.1 85 = .ok (.iaload, 1) := by decide +kernel
theorem d_St_actorPart_86 : decode M_St_actorPart.2.1 86 = .ok (.ireturn, 1) := by decide +kernel
theorem d_St_actorPart_87 : decode M_St_actorPart.2.1 87 = .ok (.aload_n 0, 1) := by decide +kernel
theorem d_St_actorPart_88 : decode M_St_actorPart.2.1 88 = .ok (.getfield 31, 3) := by decide +kernel
theorem d_St_actorPart_91 : decode M_St_actorPart.2.1 91 = .ok (.iload_n 1, 1) := by decide +kernel
theorem d_St_actorPart_92 : decode M_St_actorPart.2.1 92 = .ok (.iaload, 1) := by decide +kernel
theorem d_St_actorPart_93 : decode M_St_actorPart.2.1 93 = .ok (.ireturn, 1) := by decide +kernel
theorem d_St_actorPart_94 : decode M_St_actorPart.2.1 94 = .ok (.aload_n 0, 1) := by decide +kernel
theorem d_St_actorPart_95 : decode M_St_actorPart.2.1 95 = .ok (.getfield 34, 3) := by decide +kernel
theorem d_St_actorPart_98 : decode M_St_actorPart.2.1 98 = .ok (.iload_n 1, 1) := by decide +kernel
theorem d_St_actorPart_99 : decode M_St_actorPart.2.1 99 = .ok (.iaload, 1) := by decide +kernel
theorem d_St_actorPart_100 : decode M_St_actorPart.2.1 100 = .ok (.ireturn, 1) := by decide +kernel
theorem d_St_actorPart_101 : decode M_St_actorPart.2.1 101 = .ok (.aload_n 0, 1) := by decide +kernel
theorem d_St_actorPart_102 : decode M_St_actorPart.2.1 102 = .ok (.getfield 37, 3) := by decide +kernel
theorem d_St_actorPart_105 : decode M_St_actorPart.2.1 105 = .ok (.iload_n 1, 1) := by decide +kernel
theorem d_St_actorPart_106 : decode M_St_actorPart.2.1 106 = .ok (.iaload, 1) := by decide +kernel
theorem d_St_actorPart_107 : decode M_St_actorPart.2.1 107 = .ok (.ireturn, 1) := by decide +kernel
theorem d_St_actorPart_108 : decode M_St_actorPart.2.1 108 = .ok (.ldc 76, 2) := by decide +kernel
theorem d_St_actorPart_110 : decode M_St_actorPart.2.1 110 = .ok (.ireturn, 1) := by decide +kernel
theorem kc_St_76 : Cond.constant RX9 76 (-2147483648) ∈ lwg := (lwg_at 610 (by decide +kernel) rfl)
def F_St_actorPart (a : Nat) (x1 : Int32) (x2 : Int32) (δ : Dl) : Option (Int32) :=
  if x1 < 0 then (some (-2147483648)) else (if x1 < (δ.1 72 a) then (if x2 = 0 then (if inb x1 3 then some (((δ.2.1 74 a x1) - (δ.2.1 74 a x1) / 10 * 10) - 1) else none) else if x2 = 1 then (if inb x1 3 then some (((δ.2.1 74 a x1) / 10) - 1) else none) else if x2 = 2 then (if inb x1 3 then some (δ.2.1 75 a x1) else none) else if x2 = 3 then (if inb x1 3 then some (δ.2.1 76 a x1) else none) else if x2 = 4 then (if inb x1 3 then some (δ.2.1 77 a x1) else none) else if x2 = 5 then (if inb x1 3 then some (δ.2.1 78 a x1) else none) else (some (-2147483648))) else (some (-2147483648)))
set_option maxRecDepth 20000 in
set_option maxHeartbeats 4000000 in
theorem c_St_actorPart {l : Launch} {Γ : Gm} (hG : GC Γ) (a : Nat) (x1 : Int32) (x2 : Int32) (ha : Oc a 9) (δ : Dl) (r : Int32) (h : F_St_actorPart a x1 x2  δ = some r) : Ct l M_St_actorPart 0 0 0 NF [.inr (0, a), .inl x1, .inl x2] Γ δ (some (.inl r), Γ, δ) := by
  unfold F_St_actorPart at h
  have oa := hG.ob ha
  refine Ct.of2 (n := 0) (ls := [some (.inr (0, a)), some (.inl x1), some (.inl x2)]) rfl (by decide +kernel) (Nat.le_of_ble_eq_true rfl) ?_
  refine x_iload_n (i := 1) d_St_actorPart_0 rfl rfl ?_
  refine x_if_lt (tgt := 12) d_St_actorPart_1 (by decide) (fun c1 => ?_) (fun c1 => ?_)
  · have h := if_t c1 h
    refine x_ldc (v := -2147483648) kc_St_76 d_St_actorPart_12 ?_
    replace h := Option.some.inj h; subst h
    exact x_iret rfl d_St_actorPart_14 (Nat.le_refl 0) (Nat.le_refl 0)
  · have h := if_f c1 h
    refine x_iload_n (i := 1) d_St_actorPart_4 rfl rfl ?_
    refine x_aload_n (i := 0) d_St_actorPart_5 rfl rfl ?_
    refine x_getI (f := 72) gl_St_18_9 rfl kf_72 oa d_St_actorPart_6 ?_
    refine x_cmp_lt (tgt := 15) d_St_actorPart_9 (by decide) (fun c9 => ?_) (fun c9 => ?_)
    · have h := if_t c9 h
      refine x_iload_n (i := 2) d_St_actorPart_15 rfl rfl ?_
      by_cases c16_0 : x2 = 0
      · have h := if_t c16_0 h
        refine x_tin (v := 0) (off := 40) (tgt := 56) d_St_actorPart_16 c16_0 (by decide +kernel) ?_
        refine x_aload_n (i := 0) d_St_actorPart_56 rfl rfl ?_
        refine x_getA (f := 74) gl_St_25_9 rfl (by rw [kf_74]; decide) oa d_St_actorPart_57 ?_
        refine x_iload_n (i := 1) d_St_actorPart_60 rfl rfl ?_
        obtain ⟨g61, h⟩ := gd_e h
        refine x_iald (n := 3) kf_74 (oz_74 oa) (ln_74 _) g61 d_St_actorPart_61 ?_
        refine x_bi (v := 10) d_St_actorPart_62 (by decide) ?_
        refine x_irem d_St_actorPart_64 (by decide) ?_
        refine x_ic (v := 1) d_St_actorPart_65 (by decide) ?_
        refine x_isub d_St_actorPart_66 ?_
        replace h := Option.some.inj h; subst h
        exact x_iret rfl d_St_actorPart_67 (Nat.le_refl 0) (Nat.le_refl 0)
      have h := if_f c16_0 h
      by_cases c16_1 : x2 = 1
      · have h := if_t c16_1 h
        refine x_tin (v := 1) (off := 52) (tgt := 68) d_St_actorPart_16 c16_1 (by decide +kernel) ?_
        refine x_aload_n (i := 0) d_St_actorPart_68 rfl rfl ?_
        refine x_getA (f := 74) gl_St_25_9 rfl (by rw [kf_74]; decide) oa d_St_actorPart_69 ?_
        refine x_iload_n (i := 1) d_St_actorPart_72 rfl rfl ?_
        obtain ⟨g73, h⟩ := gd_e h
        refine x_iald (n := 3) kf_74 (oz_74 oa) (ln_74 _) g73 d_St_actorPart_73 ?_
        refine x_bi (v := 10) d_St_actorPart_74 (by decide) ?_
        refine x_idiv d_St_actorPart_76 (by decide) ?_
        refine x_ic (v := 1) d_St_actorPart_77 (by decide) ?_
        refine x_isub d_St_actorPart_78 ?_
        replace h := Option.some.inj h; subst h
        exact x_iret rfl d_St_actorPart_79 (Nat.le_refl 0) (Nat.le_refl 0)
      have h := if_f c16_1 h
      by_cases c16_2 : x2 = 2
      · have h := if_t c16_2 h
        refine x_tin (v := 2) (off := 64) (tgt := 80) d_St_actorPart_16 c16_2 (by decide +kernel) ?_
        refine x_aload_n (i := 0) d_St_actorPart_80 rfl rfl ?_
        refine x_getA (f := 75) gl_St_28_9 rfl (by rw [kf_75]; decide) oa d_St_actorPart_81 ?_
        refine x_iload_n (i := 1) d_St_actorPart_84 rfl rfl ?_
        obtain ⟨g85, h⟩ := gd_e h
        refine x_iald (n := 3) kf_75 (oz_75 oa) (ln_75 _) g85 d_St_actorPart_85 ?_
        replace h := Option.some.inj h; subst h
        exact x_iret rfl d_St_actorPart_86 (Nat.le_refl 0) (Nat.le_refl 0)
      have h := if_f c16_2 h
      by_cases c16_3 : x2 = 3
      · have h := if_t c16_3 h
        refine x_tin (v := 3) (off := 71) (tgt := 87) d_St_actorPart_16 c16_3 (by decide +kernel) ?_
        refine x_aload_n (i := 0) d_St_actorPart_87 rfl rfl ?_
        refine x_getA (f := 76) gl_St_31_9 rfl (by rw [kf_76]; decide) oa d_St_actorPart_88 ?_
        refine x_iload_n (i := 1) d_St_actorPart_91 rfl rfl ?_
        obtain ⟨g92, h⟩ := gd_e h
        refine x_iald (n := 3) kf_76 (oz_76 oa) (ln_76 _) g92 d_St_actorPart_92 ?_
        replace h := Option.some.inj h; subst h
        exact x_iret rfl d_St_actorPart_93 (Nat.le_refl 0) (Nat.le_refl 0)
      have h := if_f c16_3 h
      by_cases c16_4 : x2 = 4
      · have h := if_t c16_4 h
        refine x_tin (v := 4) (off := 78) (tgt := 94) d_St_actorPart_16 c16_4 (by decide +kernel) ?_
        refine x_aload_n (i := 0) d_St_actorPart_94 rfl rfl ?_
        refine x_getA (f := 77) gl_St_34_9 rfl (by rw [kf_77]; decide) oa d_St_actorPart_95 ?_
        refine x_iload_n (i := 1) d_St_actorPart_98 rfl rfl ?_
        obtain ⟨g99, h⟩ := gd_e h
        refine x_iald (n := 3) kf_77 (oz_77 oa) (ln_77 _) g99 d_St_actorPart_99 ?_
        replace h := Option.some.inj h; subst h
        exact x_iret rfl d_St_actorPart_100 (Nat.le_refl 0) (Nat.le_refl 0)
      have h := if_f c16_4 h
      by_cases c16_5 : x2 = 5
      · have h := if_t c16_5 h
        refine x_tin (v := 5) (off := 85) (tgt := 101) d_St_actorPart_16 c16_5 (by decide +kernel) ?_
        refine x_aload_n (i := 0) d_St_actorPart_101 rfl rfl ?_
        refine x_getA (f := 78) gl_St_37_9 rfl (by rw [kf_78]; decide) oa d_St_actorPart_102 ?_
        refine x_iload_n (i := 1) d_St_actorPart_105 rfl rfl ?_
        obtain ⟨g106, h⟩ := gd_e h
        refine x_iald (n := 3) kf_78 (oz_78 oa) (ln_78 _) g106 d_St_actorPart_106 ?_
        replace h := Option.some.inj h; subst h
        exact x_iret rfl d_St_actorPart_107 (Nat.le_refl 0) (Nat.le_refl 0)
      have h := if_f c16_5 h
      have n16_0 := lv_neT (a := 0) c16_0 (by decide)
      have n16_1 := lv_neT (a := 1) c16_1 (by decide)
      have n16_2 := lv_neT (a := 2) c16_2 (by decide)
      have n16_3 := lv_neT (a := 3) c16_3 (by decide)
      have n16_4 := lv_neT (a := 4) c16_4 (by decide)
      have n16_5 := lv_neT (a := 5) c16_5 (by decide)
      refine x_tout (tgt := 108) d_St_actorPart_16 (by omega) (by decide) ?_
      refine x_ldc (v := -2147483648) kc_St_76 d_St_actorPart_108 ?_
      replace h := Option.some.inj h; subst h
      exact x_iret rfl d_St_actorPart_110 (Nat.le_refl 0) (Nat.le_refl 0)
    · have h := if_f c9 h
      refine x_ldc (v := -2147483648) kc_St_76 d_St_actorPart_12 ?_
      replace h := Option.some.inj h; subst h
      exact x_iret rfl d_St_actorPart_14 (Nat.le_refl 0) (Nat.le_refl 0)
-- BlockStage$Stage.valueOf(I)I
theorem d_St_valueOf_0 : decode M_St_valueOf.2.1 0 = .ok (.iload_n 1, 1) := by decide +kernel
theorem d_St_valueOf_1 : decode M_St_valueOf.2.1 1 = .ok (.ifCond .lt 20, 3) := by decide +kernel
theorem d_St_valueOf_4 : decode M_St_valueOf.2.1 4 = .ok (.iload_n 1, 1) := by decide +kernel
theorem d_St_valueOf_5 : decode M_St_valueOf.2.1 5 = .ok (.aload_n 0, 1) := by decide +kernel
theorem d_St_valueOf_6 : decode M_St_valueOf.2.1 6 = .ok (.getfield 18, 3) := by decide +kernel
theorem d_St_valueOf_9 : decode M_St_valueOf.2.1 9 = .ok (.if_icmp .ge 12, 3) := by decide +kernel
theorem d_St_valueOf_12 : decode M_St_valueOf.2.1 12 = .ok (.aload_n 0, 1) := by decide +kernel
theorem d_St_valueOf_13 : decode M_St_valueOf.2.1 13 = .ok (.getfield 31, 3) := by decide +kernel
theorem d_St_valueOf_16 : decode M_St_valueOf.2.1 16 = .ok (.iload_n 1, 1) := by decide +kernel
theorem d_St_valueOf_17 : decode M_St_valueOf.2.1 17 = .ok (.iaload, 1) := by decide +kernel
theorem d_St_valueOf_18 : decode M_St_valueOf.2.1 18 = .ok (.goto 4, 3) := by decide +kernel
theorem d_St_valueOf_21 : decode M_St_valueOf.2.1 21 = .ok (.iconst 0, 1) := by decide +kernel
theorem d_St_valueOf_22 : decode M_St_valueOf.2.1 22 = .ok (.ireturn, 1) := by decide +kernel
def F_St_valueOf (a : Nat) (x1 : Int32) (δ : Dl) : Option (Int32) :=
  if x1 < 0 then (some 0) else (if (δ.1 72 a) ≤ x1 then (some 0) else (if inb x1 3 then some (δ.2.1 76 a x1) else none))
set_option maxRecDepth 20000 in
set_option maxHeartbeats 4000000 in
theorem c_St_valueOf {l : Launch} {Γ : Gm} (hG : GC Γ) (a : Nat) (x1 : Int32) (ha : Oc a 9) (δ : Dl) (r : Int32) (h : F_St_valueOf a x1  δ = some r) : Ct l M_St_valueOf 0 0 0 NF [.inr (0, a), .inl x1] Γ δ (some (.inl r), Γ, δ) := by
  unfold F_St_valueOf at h
  have oa := hG.ob ha
  refine Ct.of2 (n := 0) (ls := [some (.inr (0, a)), some (.inl x1)]) rfl (by decide +kernel) (Nat.le_of_ble_eq_true rfl) ?_
  refine x_iload_n (i := 1) d_St_valueOf_0 rfl rfl ?_
  refine x_if_lt (tgt := 21) d_St_valueOf_1 (by decide) (fun c1 => ?_) (fun c1 => ?_)
  · have h := if_t c1 h
    refine x_ic (v := 0) d_St_valueOf_21 (by decide) ?_
    replace h := Option.some.inj h; subst h
    exact x_iret rfl d_St_valueOf_22 (Nat.le_refl 0) (Nat.le_refl 0)
  · have h := if_f c1 h
    refine x_iload_n (i := 1) d_St_valueOf_4 rfl rfl ?_
    refine x_aload_n (i := 0) d_St_valueOf_5 rfl rfl ?_
    refine x_getI (f := 72) gl_St_18_9 rfl kf_72 oa d_St_valueOf_6 ?_
    refine x_cmp_ge (tgt := 21) d_St_valueOf_9 (by decide) (fun c9 => ?_) (fun c9 => ?_)
    · have h := if_t c9 h
      refine x_ic (v := 0) d_St_valueOf_21 (by decide) ?_
      replace h := Option.some.inj h; subst h
      exact x_iret rfl d_St_valueOf_22 (Nat.le_refl 0) (Nat.le_refl 0)
    · have h := if_f c9 h
      refine x_aload_n (i := 0) d_St_valueOf_12 rfl rfl ?_
      refine x_getA (f := 76) gl_St_31_9 rfl (by rw [kf_76]; decide) oa d_St_valueOf_13 ?_
      refine x_iload_n (i := 1) d_St_valueOf_16 rfl rfl ?_
      obtain ⟨g17, h⟩ := gd_e h
      refine x_iald (n := 3) kf_76 (oz_76 oa) (ln_76 _) g17 d_St_valueOf_17 ?_
      refine x_goto (tgt := 22) d_St_valueOf_18 (by decide) ?_
      replace h := Option.some.inj h; subst h
      exact x_iret rfl d_St_valueOf_22 (Nat.le_refl 0) (Nat.le_refl 0)
-- BlockStage$Stage.setValue(II)V
theorem d_St_setValue_0 : decode M_St_setValue.2.1 0 = .ok (.iload_n 1, 1) := by decide +kernel
theorem d_St_setValue_1 : decode M_St_setValue.2.1 1 = .ok (.ifCond .lt 18, 3) := by decide +kernel
theorem d_St_setValue_4 : decode M_St_setValue.2.1 4 = .ok (.iload_n 1, 1) := by decide +kernel
theorem d_St_setValue_5 : decode M_St_setValue.2.1 5 = .ok (.aload_n 0, 1) := by decide +kernel
theorem d_St_setValue_6 : decode M_St_setValue.2.1 6 = .ok (.getfield 18, 3) := by decide +kernel
theorem d_St_setValue_9 : decode M_St_setValue.2.1 9 = .ok (.if_icmp .ge 10, 3) := by decide +kernel
theorem d_St_setValue_12 : decode M_St_setValue.2.1 12 = .ok (.aload_n 0, 1) := by decide +kernel
theorem d_St_setValue_13 : decode M_St_setValue.2.1 13 = .ok (.getfield 31, 3) := by decide +kernel
theorem d_St_setValue_16 : decode M_St_setValue.2.1 16 = .ok (.iload_n 1, 1) := by decide +kernel
theorem d_St_setValue_17 : decode M_St_setValue.2.1 17 = .ok (.iload_n 2, 1) := by decide +kernel
theorem d_St_setValue_18 : decode M_St_setValue.2.1 18 = .ok (.iastore, 1) := by decide +kernel
theorem d_St_setValue_19 : decode M_St_setValue.2.1 19 = .ok (.return_, 1) := by decide +kernel
def F_St_setValue (a : Nat) (x1 : Int32) (x2 : Int32) (δ : Dl) : Option (Dl) :=
  if x1 < 0 then (some δ) else (if (δ.1 72 a) ≤ x1 then (some δ) else (if inb x1 3 then bnd (sA δ 76 a x1 x2) fun δ18 => some δ18 else none))
set_option maxRecDepth 20000 in
set_option maxHeartbeats 4000000 in
theorem c_St_setValue {l : Launch} {Γ : Gm} (hG : GC Γ) (a : Nat) (x1 : Int32) (x2 : Int32) (ha : Oc a 9) (δ : Dl) (r : Dl) (h : F_St_setValue a x1 x2  δ = some r) : Ct l M_St_setValue 0 0 0 NF [.inr (0, a), .inl x1, .inl x2] Γ δ (none, Γ, r) := by
  unfold F_St_setValue at h
  have oa := hG.ob ha
  refine Ct.of2 (n := 0) (ls := [some (.inr (0, a)), some (.inl x1), some (.inl x2)]) rfl (by decide +kernel) (Nat.le_of_ble_eq_true rfl) ?_
  refine x_iload_n (i := 1) d_St_setValue_0 rfl rfl ?_
  refine x_if_lt (tgt := 19) d_St_setValue_1 (by decide) (fun c1 => ?_) (fun c1 => ?_)
  · have h := if_t c1 h
    replace h := Option.some.inj h; subst h
    exact x_vret rfl d_St_setValue_19 (Nat.le_refl 0) (Nat.le_refl 0)
  · have h := if_f c1 h
    refine x_iload_n (i := 1) d_St_setValue_4 rfl rfl ?_
    refine x_aload_n (i := 0) d_St_setValue_5 rfl rfl ?_
    refine x_getI (f := 72) gl_St_18_9 rfl kf_72 oa d_St_setValue_6 ?_
    refine x_cmp_ge (tgt := 19) d_St_setValue_9 (by decide) (fun c9 => ?_) (fun c9 => ?_)
    · have h := if_t c9 h
      replace h := Option.some.inj h; subst h
      exact x_vret rfl d_St_setValue_19 (Nat.le_refl 0) (Nat.le_refl 0)
    · have h := if_f c9 h
      refine x_aload_n (i := 0) d_St_setValue_12 rfl rfl ?_
      refine x_getA (f := 76) gl_St_31_9 rfl (by rw [kf_76]; decide) oa d_St_setValue_13 ?_
      refine x_iload_n (i := 1) d_St_setValue_16 rfl rfl ?_
      refine x_iload_n (i := 2) d_St_setValue_17 rfl rfl ?_
      obtain ⟨g18, h⟩ := gd_e h
      obtain ⟨δ18, eδ18, h⟩ := bn_e h
      refine x_iast (n := 3) kf_76 (oz_76 oa) (ln_76 _) g18 d_St_setValue_18 (Xe.cδ eδ18 ?_)
      replace h := Option.some.inj h; subst h
      exact x_vret rfl d_St_setValue_19 (Nat.le_refl 0) (Nat.le_refl 0)
-- BlockStage$Stage.walledOf(I)I
theorem d_St_walledOf_0 : decode M_St_walledOf.2.1 0 = .ok (.iload_n 1, 1) := by decide +kernel
theorem d_St_walledOf_1 : decode M_St_walledOf.2.1 1 = .ok (.ifCond .lt 11, 3) := by decide +kernel
theorem d_St_walledOf_4 : decode M_St_walledOf.2.1 4 = .ok (.iload_n 1, 1) := by decide +kernel
theorem d_St_walledOf_5 : decode M_St_walledOf.2.1 5 = .ok (.aload_n 0, 1) := by decide +kernel
theorem d_St_walledOf_6 : decode M_St_walledOf.2.1 6 = .ok (.getfield 18, 3) := by decide +kernel
theorem d_St_walledOf_9 : decode M_St_walledOf.2.1 9 = .ok (.if_icmp .lt 5, 3) := by decide +kernel
theorem d_St_walledOf_12 : decode M_St_walledOf.2.1 12 = .ok (.iconst 1, 1) := by decide +kernel
theorem d_St_walledOf_13 : decode M_St_walledOf.2.1 13 = .ok (.ireturn, 1) := by decide +kernel
theorem d_St_walledOf_14 : decode M_St_walledOf.2.1 14 = .ok (.aload_n 0, 1) := by decide +kernel
theorem d_St_walledOf_15 : decode M_St_walledOf.2.1 15 = .ok (.getfield 25, 3) := by decide +kernel
theorem d_St_walledOf_18 : decode M_St_walledOf.2.1 18 = .ok (.iload_n 1, 1) := by decide +kernel
theorem d_St_walledOf_19 : decode M_St_walledOf.2.1 19 = .ok (.iaload, 1) := by decide +kernel
theorem d_St_walledOf_20 : decode M_St_walledOf.2.1 20 = .ok (.getstatic 77, 3) := by decide +kernel
theorem d_St_walledOf_23 : decode M_St_walledOf.2.1 23 = .ok (.aload_n 0, 1) := by decide +kernel
theorem d_St_walledOf_24 : decode M_St_walledOf.2.1 24 = .ok (.getfield 28, 3) := by decide +kernel
theorem d_St_walledOf_27 : decode M_St_walledOf.2.1 27 = .ok (.iload_n 1, 1) := by decide +kernel
theorem d_St_walledOf_28 : decode M_St_walledOf.2.1 28 = .ok (.iaload, 1) := by decide +kernel
theorem d_St_walledOf_29 : decode M_St_walledOf.2.1 29 = .ok (.iconst 3, 1) := by decide +kernel
theorem d_St_walledOf_30 : decode M_St_walledOf.2.1 30 = .ok (.iand, 1) := by decide +kernel
theorem d_St_walledOf_31 : decode M_St_walledOf.2.1 31 = .ok (.iaload, 1) := by decide +kernel
theorem d_St_walledOf_32 : decode M_St_walledOf.2.1 32 = .ok (.iadd, 1) := by decide +kernel
theorem d_St_walledOf_33 : decode M_St_walledOf.2.1 33 = .ok (.istore_n 2, 1) := by decide +kernel
theorem d_St_walledOf_34 : decode M_St_walledOf.2.1 34 = .ok (.iload_n 2, 1) := by decide +kernel
theorem d_St_walledOf_35 : decode M_St_walledOf.2.1 35 = .ok (.ifCond .lt 22, 3) := by decide +kernel
theorem d_St_walledOf_38 : decode M_St_walledOf.2.1 38 = .ok (.iload_n 2, 1) := by decide +kernel
theorem d_St_walledOf_39 : decode M_St_walledOf.2.1 39 = .ok (.aload_n 0, 1) := by decide +kernel
theorem d_St_walledOf_40 : decode M_St_walledOf.2.1 40 = .ok (.getfield 21, 3) := by decide +kernel
theorem d_St_walledOf_43 : decode M_St_walledOf.2.1 43 = .ok (.arraylength, 1) := by decide +kernel
theorem d_St_walledOf_44 : decode M_St_walledOf.2.1 44 = .ok (.if_icmp .ge 13, 3) := by decide +kernel
theorem d_St_walledOf_47 : decode M_St_walledOf.2.1 47 = .ok (.aload_n 0, 1) := by decide +kernel
theorem d_St_walledOf_48 : decode M_St_walledOf.2.1 48 = .ok (.getfield 21, 3) := by decide +kernel
theorem d_St_walledOf_51 : decode M_St_walledOf.2.1 51 = .ok (.iload_n 2, 1) := by decide +kernel
theorem d_St_walledOf_52 : decode M_St_walledOf.2.1 52 = .ok (.iaload, 1) := by decide +kernel
theorem d_St_walledOf_53 : decode M_St_walledOf.2.1 53 = .ok (.iconst (-1), 1) := by decide +kernel
theorem d_St_walledOf_54 : decode M_St_walledOf.2.1 54 = .ok (.if_icmp .ne 7, 3) := by decide +kernel
theorem d_St_walledOf_57 : decode M_St_walledOf.2.1 57 = .ok (.iconst 1, 1) := by decide +kernel
theorem d_St_walledOf_58 : decode M_St_walledOf.2.1 58 = .ok (.goto 4, 3) := by decide +kernel
theorem d_St_walledOf_61 : decode M_St_walledOf.2.1 61 = .ok (.iconst 0, 1) := by decide +kernel
theorem d_St_walledOf_62 : decode M_St_walledOf.2.1 62 = .ok (.ireturn, 1) := by decide +kernel
theorem gs_St_77 : Cond.fieldLink RX9 77 "BlockStage$Stage" "STEPS" "[I" ∈ lwg := (lwg_at 615 (by decide +kernel) rfl)
def F_St_walledOf (a : Nat) (x1 : Int32) (δ : Dl) : Option (Int32) :=
  if x1 < 0 then (some 1) else (if x1 < (δ.1 72 a) then (if inb x1 3 then if inb x1 3 then if inb ((δ.2.1 75 a x1) &&& 3) 4 then bnd (((δ.2.1 74 a x1) + (tST ((δ.2.1 75 a x1) &&& 3)))) fun x2_33 => if x2_33 < 0 then (some 1) else (if 100 ≤ x2_33 then (some 1) else (if inb x2_33 100 then if (δ.2.1 73 a x2_33) = (-1) then (some 1) else (some 0) else none)) else none else none else none) else (some 1))
set_option maxRecDepth 20000 in
set_option maxHeartbeats 4000000 in
theorem c_St_walledOf {l : Launch} {Γ : Gm} (hG : GC Γ) (a : Nat) (x1 : Int32) (ha : Oc a 9) (δ : Dl) (r : Int32) (h : F_St_walledOf a x1  δ = some r) : Ct l M_St_walledOf 0 0 0 NF [.inr (0, a), .inl x1] Γ δ (some (.inl r), Γ, δ) := by
  unfold F_St_walledOf at h
  have oa := hG.ob ha
  refine Ct.of2 (n := 1) (ls := [some (.inr (0, a)), some (.inl x1), none]) rfl (by decide +kernel) (Nat.le_of_ble_eq_true rfl) ?_
  refine x_iload_n (i := 1) d_St_walledOf_0 rfl rfl ?_
  refine x_if_lt (tgt := 12) d_St_walledOf_1 (by decide) (fun c1 => ?_) (fun c1 => ?_)
  · have h := if_t c1 h
    refine x_ic (v := 1) d_St_walledOf_12 (by decide) ?_
    replace h := Option.some.inj h; subst h
    exact x_iret rfl d_St_walledOf_13 (Nat.le_refl 0) (Nat.le_refl 0)
  · have h := if_f c1 h
    refine x_iload_n (i := 1) d_St_walledOf_4 rfl rfl ?_
    refine x_aload_n (i := 0) d_St_walledOf_5 rfl rfl ?_
    refine x_getI (f := 72) gl_St_18_9 rfl kf_72 oa d_St_walledOf_6 ?_
    refine x_cmp_lt (tgt := 14) d_St_walledOf_9 (by decide) (fun c9 => ?_) (fun c9 => ?_)
    · have h := if_t c9 h
      refine x_aload_n (i := 0) d_St_walledOf_14 rfl rfl ?_
      refine x_getA (f := 74) gl_St_25_9 rfl (by rw [kf_74]; decide) oa d_St_walledOf_15 ?_
      refine x_iload_n (i := 1) d_St_walledOf_18 rfl rfl ?_
      obtain ⟨g19, h⟩ := gd_e h
      refine x_iald (n := 3) kf_74 (oz_74 oa) (ln_74 _) g19 d_St_walledOf_19 ?_
      refine x_gstS gs_St_77 d_St_walledOf_20 ?_
      refine x_aload_n (i := 0) d_St_walledOf_23 rfl rfl ?_
      refine x_getA (f := 75) gl_St_28_9 rfl (by rw [kf_75]; decide) oa d_St_walledOf_24 ?_
      refine x_iload_n (i := 1) d_St_walledOf_27 rfl rfl ?_
      obtain ⟨g28, h⟩ := gd_e h
      refine x_iald (n := 3) kf_75 (oz_75 oa) (ln_75 _) g28 d_St_walledOf_28 ?_
      refine x_ic (v := 3) d_St_walledOf_29 (by decide) ?_
      refine x_iand d_St_walledOf_30 ?_
      obtain ⟨g31, h⟩ := gd_e h
      refine x_tldS g31 d_St_walledOf_31 ?_
      refine x_iadd d_St_walledOf_32 ?_
      obtain ⟨x2_33, ex2_33, h⟩ := bn_e h
      refine Xe.top ex2_33 ?_
      refine x_stn (i := 2) (ls' := [some (.inr (0, a)), some (.inl x1), some (.inl x2_33)]) d_St_walledOf_33 rfl (by decide) rfl ?_
      refine x_iload_n (i := 2) d_St_walledOf_34 rfl rfl ?_
      refine x_if_lt (tgt := 57) d_St_walledOf_35 (by decide) (fun c35 => ?_) (fun c35 => ?_)
      · have h := if_t c35 h
        refine x_ic (v := 1) d_St_walledOf_57 (by decide) ?_
        refine x_goto (tgt := 62) d_St_walledOf_58 (by decide) ?_
        replace h := Option.some.inj h; subst h
        exact x_iret rfl d_St_walledOf_62 (Nat.le_refl 0) (Nat.le_refl 0)
      · have h := if_f c35 h
        refine x_iload_n (i := 2) d_St_walledOf_38 rfl rfl ?_
        refine x_aload_n (i := 0) d_St_walledOf_39 rfl rfl ?_
        refine x_getA (f := 73) gl_St_21_9 rfl (by rw [kf_73]; decide) oa d_St_walledOf_40 ?_
        refine x_alen (n := 100) (Or.inl kf_73) (oz_73 oa) (lo_73 _) d_St_walledOf_43 ?_
        refine x_cmp_ge (tgt := 57) d_St_walledOf_44 (by decide) (fun c44 => ?_) (fun c44 => ?_)
        · have h := if_t c44 h
          refine x_ic (v := 1) d_St_walledOf_57 (by decide) ?_
          refine x_goto (tgt := 62) d_St_walledOf_58 (by decide) ?_
          replace h := Option.some.inj h; subst h
          exact x_iret rfl d_St_walledOf_62 (Nat.le_refl 0) (Nat.le_refl 0)
        · have h := if_f c44 h
          refine x_aload_n (i := 0) d_St_walledOf_47 rfl rfl ?_
          refine x_getA (f := 73) gl_St_21_9 rfl (by rw [kf_73]; decide) oa d_St_walledOf_48 ?_
          refine x_iload_n (i := 2) d_St_walledOf_51 rfl rfl ?_
          obtain ⟨g52, h⟩ := gd_e h
          refine x_iald (n := 100) kf_73 (oz_73 oa) (ln_73 _) g52 d_St_walledOf_52 ?_
          refine x_ic (v := -1) d_St_walledOf_53 (by decide) ?_
          refine x_cmp_ne (tgt := 61) d_St_walledOf_54 (by decide) (fun c54 => ?_) (fun c54 => ?_)
          · have h := if_f c54 h
            refine x_ic (v := 0) d_St_walledOf_61 (by decide) ?_
            replace h := Option.some.inj h; subst h
            exact x_iret rfl d_St_walledOf_62 (Nat.le_refl 0) (Nat.le_refl 0)
          · have h := if_t c54 h
            refine x_ic (v := 1) d_St_walledOf_57 (by decide) ?_
            refine x_goto (tgt := 62) d_St_walledOf_58 (by decide) ?_
            replace h := Option.some.inj h; subst h
            exact x_iret rfl d_St_walledOf_62 (Nat.le_refl 0) (Nat.le_refl 0)
    · have h := if_f c9 h
      refine x_ic (v := 1) d_St_walledOf_12 (by decide) ?_
      replace h := Option.some.inj h; subst h
      exact x_iret rfl d_St_walledOf_13 (Nat.le_refl 0) (Nat.le_refl 0)
-- BlockStage$Stage.hereOf(I)I
theorem d_St_hereOf_0 : decode M_St_hereOf.2.1 0 = .ok (.iload_n 1, 1) := by decide +kernel
theorem d_St_hereOf_1 : decode M_St_hereOf.2.1 1 = .ok (.ifCond .lt 11, 3) := by decide +kernel
theorem d_St_hereOf_4 : decode M_St_hereOf.2.1 4 = .ok (.iload_n 1, 1) := by decide +kernel
theorem d_St_hereOf_5 : decode M_St_hereOf.2.1 5 = .ok (.aload_n 0, 1) := by decide +kernel
theorem d_St_hereOf_6 : decode M_St_hereOf.2.1 6 = .ok (.getfield 18, 3) := by decide +kernel
theorem d_St_hereOf_9 : decode M_St_hereOf.2.1 9 = .ok (.if_icmp .lt 5, 3) := by decide +kernel
theorem d_St_hereOf_12 : decode M_St_hereOf.2.1 12 = .ok (.iconst 0, 1) := by decide +kernel
theorem d_St_hereOf_13 : decode M_St_hereOf.2.1 13 = .ok (.ireturn, 1) := by decide +kernel
theorem d_St_hereOf_14 : decode M_St_hereOf.2.1 14 = .ok (.aload_n 0, 1) := by decide +kernel
theorem d_St_hereOf_15 : decode M_St_hereOf.2.1 15 = .ok (.getfield 25, 3) := by decide +kernel
theorem d_St_hereOf_18 : decode M_St_hereOf.2.1 18 = .ok (.iload_n 1, 1) := by decide +kernel
theorem d_St_hereOf_19 : decode M_St_hereOf.2.1 19 = .ok (.iaload, 1) := by decide +kernel
theorem d_St_hereOf_20 : decode M_St_hereOf.2.1 20 = .ok (.istore_n 2, 1) := by decide +kernel
theorem d_St_hereOf_21 : decode M_St_hereOf.2.1 21 = .ok (.iload_n 2, 1) := by decide +kernel
theorem d_St_hereOf_22 : decode M_St_hereOf.2.1 22 = .ok (.ifCond .lt 21, 3) := by decide +kernel
theorem d_St_hereOf_25 : decode M_St_hereOf.2.1 25 = .ok (.iload_n 2, 1) := by decide +kernel
theorem d_St_hereOf_26 : decode M_St_hereOf.2.1 26 = .ok (.aload_n 0, 1) := by decide +kernel
theorem d_St_hereOf_27 : decode M_St_hereOf.2.1 27 = .ok (.getfield 21, 3) := by decide +kernel
theorem d_St_hereOf_30 : decode M_St_hereOf.2.1 30 = .ok (.arraylength, 1) := by decide +kernel
theorem d_St_hereOf_31 : decode M_St_hereOf.2.1 31 = .ok (.if_icmp .ge 12, 3) := by decide +kernel
theorem d_St_hereOf_34 : decode M_St_hereOf.2.1 34 = .ok (.aload_n 0, 1) := by decide +kernel
theorem d_St_hereOf_35 : decode M_St_hereOf.2.1 35 = .ok (.getfield 21, 3) := by decide +kernel
theorem d_St_hereOf_38 : decode M_St_hereOf.2.1 38 = .ok (.iload_n 2, 1) := by decide +kernel
theorem d_St_hereOf_39 : decode M_St_hereOf.2.1 39 = .ok (.iaload, 1) := by decide +kernel
theorem d_St_hereOf_40 : decode M_St_hereOf.2.1 40 = .ok (.goto 4, 3) := by decide +kernel
theorem d_St_hereOf_43 : decode M_St_hereOf.2.1 43 = .ok (.iconst 0, 1) := by decide +kernel
theorem d_St_hereOf_44 : decode M_St_hereOf.2.1 44 = .ok (.ireturn, 1) := by decide +kernel
def F_St_hereOf (a : Nat) (x1 : Int32) (δ : Dl) : Option (Int32) :=
  if x1 < 0 then (some 0) else (if x1 < (δ.1 72 a) then (if inb x1 3 then if (δ.2.1 74 a x1) < 0 then (some 0) else (if 100 ≤ (δ.2.1 74 a x1) then (some 0) else (if inb (δ.2.1 74 a x1) 100 then some (δ.2.1 73 a (δ.2.1 74 a x1)) else none)) else none) else (some 0))
set_option maxRecDepth 20000 in
set_option maxHeartbeats 4000000 in
theorem c_St_hereOf {l : Launch} {Γ : Gm} (hG : GC Γ) (a : Nat) (x1 : Int32) (ha : Oc a 9) (δ : Dl) (r : Int32) (h : F_St_hereOf a x1  δ = some r) : Ct l M_St_hereOf 0 0 0 NF [.inr (0, a), .inl x1] Γ δ (some (.inl r), Γ, δ) := by
  unfold F_St_hereOf at h
  have oa := hG.ob ha
  refine Ct.of2 (n := 1) (ls := [some (.inr (0, a)), some (.inl x1), none]) rfl (by decide +kernel) (Nat.le_of_ble_eq_true rfl) ?_
  refine x_iload_n (i := 1) d_St_hereOf_0 rfl rfl ?_
  refine x_if_lt (tgt := 12) d_St_hereOf_1 (by decide) (fun c1 => ?_) (fun c1 => ?_)
  · have h := if_t c1 h
    refine x_ic (v := 0) d_St_hereOf_12 (by decide) ?_
    replace h := Option.some.inj h; subst h
    exact x_iret rfl d_St_hereOf_13 (Nat.le_refl 0) (Nat.le_refl 0)
  · have h := if_f c1 h
    refine x_iload_n (i := 1) d_St_hereOf_4 rfl rfl ?_
    refine x_aload_n (i := 0) d_St_hereOf_5 rfl rfl ?_
    refine x_getI (f := 72) gl_St_18_9 rfl kf_72 oa d_St_hereOf_6 ?_
    refine x_cmp_lt (tgt := 14) d_St_hereOf_9 (by decide) (fun c9 => ?_) (fun c9 => ?_)
    · have h := if_t c9 h
      refine x_aload_n (i := 0) d_St_hereOf_14 rfl rfl ?_
      refine x_getA (f := 74) gl_St_25_9 rfl (by rw [kf_74]; decide) oa d_St_hereOf_15 ?_
      refine x_iload_n (i := 1) d_St_hereOf_18 rfl rfl ?_
      obtain ⟨g19, h⟩ := gd_e h
      refine x_iald (n := 3) kf_74 (oz_74 oa) (ln_74 _) g19 d_St_hereOf_19 ?_
      refine x_stn (i := 2) (ls' := [some (.inr (0, a)), some (.inl x1), some (.inl (δ.2.1 74 a x1))]) d_St_hereOf_20 rfl (by decide) rfl ?_
      refine x_iload_n (i := 2) d_St_hereOf_21 rfl rfl ?_
      refine x_if_lt (tgt := 43) d_St_hereOf_22 (by decide) (fun c22 => ?_) (fun c22 => ?_)
      · have h := if_t c22 h
        refine x_ic (v := 0) d_St_hereOf_43 (by decide) ?_
        replace h := Option.some.inj h; subst h
        exact x_iret rfl d_St_hereOf_44 (Nat.le_refl 0) (Nat.le_refl 0)
      · have h := if_f c22 h
        refine x_iload_n (i := 2) d_St_hereOf_25 rfl rfl ?_
        refine x_aload_n (i := 0) d_St_hereOf_26 rfl rfl ?_
        refine x_getA (f := 73) gl_St_21_9 rfl (by rw [kf_73]; decide) oa d_St_hereOf_27 ?_
        refine x_alen (n := 100) (Or.inl kf_73) (oz_73 oa) (lo_73 _) d_St_hereOf_30 ?_
        refine x_cmp_ge (tgt := 43) d_St_hereOf_31 (by decide) (fun c31 => ?_) (fun c31 => ?_)
        · have h := if_t c31 h
          refine x_ic (v := 0) d_St_hereOf_43 (by decide) ?_
          replace h := Option.some.inj h; subst h
          exact x_iret rfl d_St_hereOf_44 (Nat.le_refl 0) (Nat.le_refl 0)
        · have h := if_f c31 h
          refine x_aload_n (i := 0) d_St_hereOf_34 rfl rfl ?_
          refine x_getA (f := 73) gl_St_21_9 rfl (by rw [kf_73]; decide) oa d_St_hereOf_35 ?_
          refine x_iload_n (i := 2) d_St_hereOf_38 rfl rfl ?_
          obtain ⟨g39, h⟩ := gd_e h
          refine x_iald (n := 100) kf_73 (oz_73 oa) (ln_73 _) g39 d_St_hereOf_39 ?_
          refine x_goto (tgt := 44) d_St_hereOf_40 (by decide) ?_
          replace h := Option.some.inj h; subst h
          exact x_iret rfl d_St_hereOf_44 (Nat.le_refl 0) (Nat.le_refl 0)
    · have h := if_f c9 h
      refine x_ic (v := 0) d_St_hereOf_12 (by decide) ?_
      replace h := Option.some.inj h; subst h
      exact x_iret rfl d_St_hereOf_13 (Nat.le_refl 0) (Nat.le_refl 0)
-- BlockStage$Stage.metOf(I)I
theorem d_St_metOf_0 : decode M_St_metOf.2.1 0 = .ok (.iload_n 1, 1) := by decide +kernel
theorem d_St_metOf_1 : decode M_St_metOf.2.1 1 = .ok (.ifCond .lt 11, 3) := by decide +kernel
theorem d_St_metOf_4 : decode M_St_metOf.2.1 4 = .ok (.iload_n 1, 1) := by decide +kernel
theorem d_St_metOf_5 : decode M_St_metOf.2.1 5 = .ok (.aload_n 0, 1) := by decide +kernel
theorem d_St_metOf_6 : decode M_St_metOf.2.1 6 = .ok (.getfield 18, 3) := by decide +kernel
theorem d_St_metOf_9 : decode M_St_metOf.2.1 9 = .ok (.if_icmp .lt 5, 3) := by decide +kernel
theorem d_St_metOf_12 : decode M_St_metOf.2.1 12 = .ok (.iconst 0, 1) := by decide +kernel
theorem d_St_metOf_13 : decode M_St_metOf.2.1 13 = .ok (.ireturn, 1) := by decide +kernel
theorem d_St_metOf_14 : decode M_St_metOf.2.1 14 = .ok (.iconst 0, 1) := by decide +kernel
theorem d_St_metOf_15 : decode M_St_metOf.2.1 15 = .ok (.istore_n 2, 1) := by decide +kernel
theorem d_St_metOf_16 : decode M_St_metOf.2.1 16 = .ok (.iload_n 2, 1) := by decide +kernel
theorem d_St_metOf_17 : decode M_St_metOf.2.1 17 = .ok (.aload_n 0, 1) := by decide +kernel
theorem d_St_metOf_18 : decode M_St_metOf.2.1 18 = .ok (.getfield 18, 3) := by decide +kernel
theorem d_St_metOf_21 : decode M_St_metOf.2.1 21 = .ok (.if_icmp .ge 31, 3) := by decide +kernel
theorem d_St_metOf_24 : decode M_St_metOf.2.1 24 = .ok (.iload_n 2, 1) := by decide +kernel
theorem d_St_metOf_25 : decode M_St_metOf.2.1 25 = .ok (.iload_n 1, 1) := by decide +kernel
theorem d_St_metOf_26 : decode M_St_metOf.2.1 26 = .ok (.if_icmp .eq 20, 3) := by decide +kernel
theorem d_St_metOf_29 : decode M_St_metOf.2.1 29 = .ok (.aload_n 0, 1) := by decide +kernel
theorem d_St_metOf_30 : decode M_St_metOf.2.1 30 = .ok (.getfield 25, 3) := by decide +kernel
theorem d_St_metOf_33 : decode M_St_metOf.2.1 33 = .ok (.iload_n 2, 1) := by decide +kernel
theorem d_St_metOf_34 : decode M_St_metOf.2.1 34 = .ok (.iaload, 1) := by decide +kernel
theorem d_St_metOf_35 : decode M_St_metOf.2.1 35 = .ok (.aload_n 0, 1) := by decide +kernel
theorem d_St_metOf_36 : decode M_St_metOf.2.1 36 = .ok (.getfield 25, 3) := by decide +kernel
theorem d_St_metOf_39 : decode M_St_metOf.2.1 39 = .ok (.iload_n 1, 1) := by decide +kernel
theorem d_St_metOf_40 : decode M_St_metOf.2.1 40 = .ok (.iaload, 1) := by decide +kernel
theorem d_St_metOf_41 : decode M_St_metOf.2.1 41 = .ok (.if_icmp .ne 5, 3) := by decide +kernel
theorem d_St_metOf_44 : decode M_St_metOf.2.1 44 = .ok (.iconst 1, 1) := by decide +kernel
theorem d_St_metOf_45 : decode M_St_metOf.2.1 45 = .ok (.ireturn, 1) := by decide +kernel
theorem d_St_metOf_46 : decode M_St_metOf.2.1 46 = .ok (.iinc 2 1, 3) := by decide +kernel
theorem d_St_metOf_49 : decode M_St_metOf.2.1 49 = .ok (.goto (-33), 3) := by decide +kernel
theorem d_St_metOf_52 : decode M_St_metOf.2.1 52 = .ok (.iconst 0, 1) := by decide +kernel
theorem d_St_metOf_53 : decode M_St_metOf.2.1 53 = .ok (.ireturn, 1) := by decide +kernel
def F_St_metOf_46 (a : Nat) (x1 : Int32) (k16 : Int32 → Dl → Option (Int32)) (x2 : Int32) (δ : Dl) : Option (Int32) :=
  k16 ((x2 + 1)) δ
set_option maxRecDepth 20000 in
set_option maxHeartbeats 4000000 in
theorem j_St_metOf_46 {l : Launch} {Γ : Gm} (hG : GC Γ) (a : Nat) (x1 : Int32) (ha : Oc a 9) (k16 : Int32 → Dl → Option (Int32)) (x2 : Int32) (δ : Dl) (r : Int32) (hk16 : ∀ (x2 : Int32) (δ : Dl),  k16 x2 δ = some r → Xe l M_St_metOf 0 0 0 NF 16 [some (.inr (0, a)), some (.inl x1), some (.inl x2)] [] 0 0 Γ δ (some (.inl r), Γ, δ)) (h : F_St_metOf_46 a x1 k16 x2 δ = some r) : Xe l M_St_metOf 0 0 0 NF 46 [some (.inr (0, a)), some (.inl x1), some (.inl x2)] [] 0 0 Γ δ (some (.inl r), Γ, δ) := by
  unfold F_St_metOf_46 at h
  have oa := hG.ob ha
  refine x_inc (i := 2) (c0 := 1) (ls' := [some (.inr (0, a)), some (.inl x1), some (.inl (x2 + 1))]) d_St_metOf_46 (by decide) rfl (by decide) rfl ?_
  refine x_goto (tgt := 16) d_St_metOf_49 (by decide) ?_
  exact hk16 ((x2 + 1)) δ h
def F_St_metOf_16_b (a : Nat) (x1 : Int32) (k16 : Int32 → Dl → Option (Int32)) (x2 : Int32) (δ : Dl) : Option (Int32) :=
  if (δ.1 72 a) ≤ x2 then (some 0) else (if x2 = x1 then (F_St_metOf_46 a x1 k16 x2 δ) else (if inb x2 3 then if inb x1 3 then if (δ.2.1 74 a x2) = (δ.2.1 74 a x1) then (some 1) else (F_St_metOf_46 a x1 k16 x2 δ) else none else none))
set_option maxRecDepth 20000 in
set_option maxHeartbeats 4000000 in
theorem j_St_metOf_16_b {l : Launch} {Γ : Gm} (hG : GC Γ) (a : Nat) (x1 : Int32) (ha : Oc a 9) (k16 : Int32 → Dl → Option (Int32)) (x2 : Int32) (δ : Dl) (r : Int32) (hk16 : ∀ (x2 : Int32) (δ : Dl),  k16 x2 δ = some r → Xe l M_St_metOf 0 0 0 NF 16 [some (.inr (0, a)), some (.inl x1), some (.inl x2)] [] 0 0 Γ δ (some (.inl r), Γ, δ)) (h : F_St_metOf_16_b a x1 k16 x2 δ = some r) : Xe l M_St_metOf 0 0 0 NF 16 [some (.inr (0, a)), some (.inl x1), some (.inl x2)] [] 0 0 Γ δ (some (.inl r), Γ, δ) := by
  unfold F_St_metOf_16_b at h
  have oa := hG.ob ha
  refine x_iload_n (i := 2) d_St_metOf_16 rfl rfl ?_
  refine x_aload_n (i := 0) d_St_metOf_17 rfl rfl ?_
  refine x_getI (f := 72) gl_St_18_9 rfl kf_72 oa d_St_metOf_18 ?_
  refine x_cmp_ge (tgt := 52) d_St_metOf_21 (by decide) (fun c21 => ?_) (fun c21 => ?_)
  · have h := if_t c21 h
    refine x_ic (v := 0) d_St_metOf_52 (by decide) ?_
    replace h := Option.some.inj h; subst h
    exact x_iret rfl d_St_metOf_53 (Nat.le_refl 0) (Nat.le_refl 0)
  · have h := if_f c21 h
    refine x_iload_n (i := 2) d_St_metOf_24 rfl rfl ?_
    refine x_iload_n (i := 1) d_St_metOf_25 rfl rfl ?_
    refine x_cmp_eq (tgt := 46) d_St_metOf_26 (by decide) (fun c26 => ?_) (fun c26 => ?_)
    · have h := if_t c26 h
      exact j_St_metOf_46 hG a x1 ha k16 x2 δ r hk16 h
    · have h := if_f c26 h
      refine x_aload_n (i := 0) d_St_metOf_29 rfl rfl ?_
      refine x_getA (f := 74) gl_St_25_9 rfl (by rw [kf_74]; decide) oa d_St_metOf_30 ?_
      refine x_iload_n (i := 2) d_St_metOf_33 rfl rfl ?_
      obtain ⟨g34, h⟩ := gd_e h
      refine x_iald (n := 3) kf_74 (oz_74 oa) (ln_74 _) g34 d_St_metOf_34 ?_
      refine x_aload_n (i := 0) d_St_metOf_35 rfl rfl ?_
      refine x_getA (f := 74) gl_St_25_9 rfl (by rw [kf_74]; decide) oa d_St_metOf_36 ?_
      refine x_iload_n (i := 1) d_St_metOf_39 rfl rfl ?_
      obtain ⟨g40, h⟩ := gd_e h
      refine x_iald (n := 3) kf_74 (oz_74 oa) (ln_74 _) g40 d_St_metOf_40 ?_
      refine x_cmp_ne (tgt := 46) d_St_metOf_41 (by decide) (fun c41 => ?_) (fun c41 => ?_)
      · have h := if_f c41 h
        exact j_St_metOf_46 hG a x1 ha k16 x2 δ r hk16 h
      · have h := if_t c41 h
        refine x_ic (v := 1) d_St_metOf_44 (by decide) ?_
        replace h := Option.some.inj h; subst h
        exact x_iret rfl d_St_metOf_45 (Nat.le_refl 0) (Nat.le_refl 0)
def F_St_metOf_16 (a : Nat) (x1 : Int32) : Nat → Int32 → Dl → Option (Int32)
  | 0, _, _ => none
  | n + 1, x2, δ => F_St_metOf_16_b a x1 (F_St_metOf_16 a x1 n) x2 δ
theorem j_St_metOf_16 {l : Launch} {Γ : Gm} (hG : GC Γ) (a : Nat) (x1 : Int32) (ha : Oc a 9) (n : Nat) (x2 : Int32) (δ : Dl) (r : Int32) (h : F_St_metOf_16 a x1 n x2 δ = some r) : Xe l M_St_metOf 0 0 0 NF 16 [some (.inr (0, a)), some (.inl x1), some (.inl x2)] [] 0 0 Γ δ (some (.inl r), Γ, δ) := by
  induction n generalizing x2 δ with
  | zero => cases h
  | succ n ih => exact j_St_metOf_16_b hG a x1 ha (F_St_metOf_16 a x1 n) x2 δ r (fun x2 δ hh => ih x2 δ hh) h
def F_St_metOf (a : Nat) (x1 : Int32) (δ : Dl) : Option (Int32) :=
  if x1 < 0 then (some 0) else (if x1 < (δ.1 72 a) then (F_St_metOf_16 a x1 FU 0 δ) else (some 0))
set_option maxRecDepth 20000 in
set_option maxHeartbeats 4000000 in
theorem c_St_metOf {l : Launch} {Γ : Gm} (hG : GC Γ) (a : Nat) (x1 : Int32) (ha : Oc a 9) (δ : Dl) (r : Int32) (h : F_St_metOf a x1  δ = some r) : Ct l M_St_metOf 0 0 0 NF [.inr (0, a), .inl x1] Γ δ (some (.inl r), Γ, δ) := by
  unfold F_St_metOf at h
  have oa := hG.ob ha
  refine Ct.of2 (n := 1) (ls := [some (.inr (0, a)), some (.inl x1), none]) rfl (by decide +kernel) (Nat.le_of_ble_eq_true rfl) ?_
  refine x_iload_n (i := 1) d_St_metOf_0 rfl rfl ?_
  refine x_if_lt (tgt := 12) d_St_metOf_1 (by decide) (fun c1 => ?_) (fun c1 => ?_)
  · have h := if_t c1 h
    refine x_ic (v := 0) d_St_metOf_12 (by decide) ?_
    replace h := Option.some.inj h; subst h
    exact x_iret rfl d_St_metOf_13 (Nat.le_refl 0) (Nat.le_refl 0)
  · have h := if_f c1 h
    refine x_iload_n (i := 1) d_St_metOf_4 rfl rfl ?_
    refine x_aload_n (i := 0) d_St_metOf_5 rfl rfl ?_
    refine x_getI (f := 72) gl_St_18_9 rfl kf_72 oa d_St_metOf_6 ?_
    refine x_cmp_lt (tgt := 14) d_St_metOf_9 (by decide) (fun c9 => ?_) (fun c9 => ?_)
    · have h := if_t c9 h
      refine x_ic (v := 0) d_St_metOf_14 (by decide) ?_
      refine x_stn (i := 2) (ls' := [some (.inr (0, a)), some (.inl x1), some (.inl 0)]) d_St_metOf_15 rfl (by decide) rfl ?_
      exact j_St_metOf_16 hG a x1 ha FU 0 δ r h
    · have h := if_f c9 h
      refine x_ic (v := 0) d_St_metOf_12 (by decide) ?_
      replace h := Option.some.inj h; subst h
      exact x_iret rfl d_St_metOf_13 (Nat.le_refl 0) (Nat.le_refl 0)
-- BlockStage$Stage.goAhead(I)V
theorem d_St_goAhead_0 : decode M_St_goAhead.2.1 0 = .ok (.iload_n 1, 1) := by decide +kernel
theorem d_St_goAhead_1 : decode M_St_goAhead.2.1 1 = .ok (.ifCond .lt 11, 3) := by decide +kernel
theorem d_St_goAhead_4 : decode M_St_goAhead.2.1 4 = .ok (.iload_n 1, 1) := by decide +kernel
theorem d_St_goAhead_5 : decode M_St_goAhead.2.1 5 = .ok (.aload_n 0, 1) := by decide +kernel
theorem d_St_goAhead_6 : decode M_St_goAhead.2.1 6 = .ok (.getfield 18, 3) := by decide +kernel
theorem d_St_goAhead_9 : decode M_St_goAhead.2.1 9 = .ok (.if_icmp .lt 4, 3) := by decide +kernel
theorem d_St_goAhead_12 : decode M_St_goAhead.2.1 12 = .ok (.return_, 1) := by decide +kernel
theorem d_St_goAhead_13 : decode M_St_goAhead.2.1 13 = .ok (.aload_n 0, 1) := by decide +kernel
theorem d_St_goAhead_14 : decode M_St_goAhead.2.1 14 = .ok (.getfield 25, 3) := by decide +kernel
theorem d_St_goAhead_17 : decode M_St_goAhead.2.1 17 = .ok (.iload_n 1, 1) := by decide +kernel
theorem d_St_goAhead_18 : decode M_St_goAhead.2.1 18 = .ok (.iaload, 1) := by decide +kernel
theorem d_St_goAhead_19 : decode M_St_goAhead.2.1 19 = .ok (.getstatic 77, 3) := by decide +kernel
theorem d_St_goAhead_22 : decode M_St_goAhead.2.1 22 = .ok (.aload_n 0, 1) := by decide +kernel
theorem d_St_goAhead_23 : decode M_St_goAhead.2.1 23 = .ok (.getfield 28, 3) := by decide +kernel
theorem d_St_goAhead_26 : decode M_St_goAhead.2.1 26 = .ok (.iload_n 1, 1) := by decide +kernel
theorem d_St_goAhead_27 : decode M_St_goAhead.2.1 27 = .ok (.iaload, 1) := by decide +kernel
theorem d_St_goAhead_28 : decode M_St_goAhead.2.1 28 = .ok (.iconst 3, 1) := by decide +kernel
theorem d_St_goAhead_29 : decode M_St_goAhead.2.1 29 = .ok (.iand, 1) := by decide +kernel
theorem d_St_goAhead_30 : decode M_St_goAhead.2.1 30 = .ok (.iaload, 1) := by decide +kernel
theorem d_St_goAhead_31 : decode M_St_goAhead.2.1 31 = .ok (.iadd, 1) := by decide +kernel
theorem d_St_goAhead_32 : decode M_St_goAhead.2.1 32 = .ok (.istore_n 2, 1) := by decide +kernel
theorem d_St_goAhead_33 : decode M_St_goAhead.2.1 33 = .ok (.iload_n 2, 1) := by decide +kernel
theorem d_St_goAhead_34 : decode M_St_goAhead.2.1 34 = .ok (.ifCond .lt 22, 3) := by decide +kernel
theorem d_St_goAhead_37 : decode M_St_goAhead.2.1 37 = .ok (.iload_n 2, 1) := by decide +kernel
theorem d_St_goAhead_38 : decode M_St_goAhead.2.1 38 = .ok (.aload_n 0, 1) := by decide +kernel
theorem d_St_goAhead_39 : decode M_St_goAhead.2.1 39 = .ok (.getfield 21, 3) := by decide +kernel
theorem d_St_goAhead_42 : decode M_St_goAhead.2.1 42 = .ok (.arraylength, 1) := by decide +kernel
theorem d_St_goAhead_43 : decode M_St_goAhead.2.1 43 = .ok (.if_icmp .ge 13, 3) := by decide +kernel
theorem d_St_goAhead_46 : decode M_St_goAhead.2.1 46 = .ok (.aload_n 0, 1) := by decide +kernel
theorem d_St_goAhead_47 : decode M_St_goAhead.2.1 47 = .ok (.getfield 21, 3) := by decide +kernel
theorem d_St_goAhead_50 : decode M_St_goAhead.2.1 50 = .ok (.iload_n 2, 1) := by decide +kernel
theorem d_St_goAhead_51 : decode M_St_goAhead.2.1 51 = .ok (.iaload, 1) := by decide +kernel
theorem d_St_goAhead_52 : decode M_St_goAhead.2.1 52 = .ok (.iconst (-1), 1) := by decide +kernel
theorem d_St_goAhead_53 : decode M_St_goAhead.2.1 53 = .ok (.if_icmp .ne 16, 3) := by decide +kernel
theorem d_St_goAhead_56 : decode M_St_goAhead.2.1 56 = .ok (.aload_n 0, 1) := by decide +kernel
theorem d_St_goAhead_57 : decode M_St_goAhead.2.1 57 = .ok (.getfield 34, 3) := by decide +kernel
theorem d_St_goAhead_60 : decode M_St_goAhead.2.1 60 = .ok (.iload_n 1, 1) := by decide +kernel
theorem d_St_goAhead_61 : decode M_St_goAhead.2.1 61 = .ok (.dup2, 1) := by decide +kernel
theorem d_St_goAhead_62 : decode M_St_goAhead.2.1 62 = .ok (.iaload, 1) := by decide +kernel
theorem d_St_goAhead_63 : decode M_St_goAhead.2.1 63 = .ok (.iconst 1, 1) := by decide +kernel
theorem d_St_goAhead_64 : decode M_St_goAhead.2.1 64 = .ok (.iadd, 1) := by decide +kernel
theorem d_St_goAhead_65 : decode M_St_goAhead.2.1 65 = .ok (.iastore, 1) := by decide +kernel
theorem d_St_goAhead_66 : decode M_St_goAhead.2.1 66 = .ok (.goto 10, 3) := by decide +kernel
theorem d_St_goAhead_69 : decode M_St_goAhead.2.1 69 = .ok (.aload_n 0, 1) := by decide +kernel
theorem d_St_goAhead_70 : decode M_St_goAhead.2.1 70 = .ok (.getfield 25, 3) := by decide +kernel
theorem d_St_goAhead_73 : decode M_St_goAhead.2.1 73 = .ok (.iload_n 1, 1) := by decide +kernel
theorem d_St_goAhead_74 : decode M_St_goAhead.2.1 74 = .ok (.iload_n 2, 1) := by decide +kernel
theorem d_St_goAhead_75 : decode M_St_goAhead.2.1 75 = .ok (.iastore, 1) := by decide +kernel
theorem d_St_goAhead_76 : decode M_St_goAhead.2.1 76 = .ok (.return_, 1) := by decide +kernel
def F_St_goAhead_56 (a : Nat) (x1 : Int32) (δ : Dl) : Option (Dl) :=
  if inb x1 3 then if inb x1 3 then bnd (sA δ 77 a x1 ((δ.2.1 77 a x1) + 1)) fun δ65 => some δ65 else none else none
set_option maxRecDepth 20000 in
set_option maxHeartbeats 4000000 in
theorem j_St_goAhead_56 {l : Launch} {Γ : Gm} (hG : GC Γ) (a : Nat) (x1 : Int32) (ha : Oc a 9) (δ : Dl) (r : Dl) (h : F_St_goAhead_56 a x1  δ = some r) : Xe l M_St_goAhead 0 0 0 NF 56 [some (.inr (0, a)), some (.inl x1), none] [] 0 0 Γ δ (none, Γ, r) := by
  unfold F_St_goAhead_56 at h
  have oa := hG.ob ha
  refine x_aload_n (i := 0) d_St_goAhead_56 rfl rfl ?_
  refine x_getA (f := 77) gl_St_34_9 rfl (by rw [kf_77]; decide) oa d_St_goAhead_57 ?_
  refine x_iload_n (i := 1) d_St_goAhead_60 rfl rfl ?_
  refine x_dup2 d_St_goAhead_61 ?_
  obtain ⟨g62, h⟩ := gd_e h
  refine x_iald (n := 3) kf_77 (oz_77 oa) (ln_77 _) g62 d_St_goAhead_62 ?_
  refine x_ic (v := 1) d_St_goAhead_63 (by decide) ?_
  refine x_iadd d_St_goAhead_64 ?_
  obtain ⟨g65, h⟩ := gd_e h
  obtain ⟨δ65, eδ65, h⟩ := bn_e h
  refine x_iast (n := 3) kf_77 (oz_77 oa) (ln_77 _) g65 d_St_goAhead_65 (Xe.cδ eδ65 ?_)
  refine x_goto (tgt := 76) d_St_goAhead_66 (by decide) ?_
  replace h := Option.some.inj h; subst h
  exact x_vret rfl d_St_goAhead_76 (Nat.le_refl 0) (Nat.le_refl 0)
def F_St_goAhead (a : Nat) (x1 : Int32) (δ : Dl) : Option (Dl) :=
  if x1 < 0 then (some δ) else (if x1 < (δ.1 72 a) then (if inb x1 3 then if inb x1 3 then if inb ((δ.2.1 75 a x1) &&& 3) 4 then bnd (((δ.2.1 74 a x1) + (tST ((δ.2.1 75 a x1) &&& 3)))) fun x2_32 => if x2_32 < 0 then (F_St_goAhead_56 a x1 δ) else (if 100 ≤ x2_32 then (F_St_goAhead_56 a x1 δ) else (if inb x2_32 100 then if (δ.2.1 73 a x2_32) = (-1) then (F_St_goAhead_56 a x1 δ) else (if inb x1 3 then bnd (sA δ 74 a x1 x2_32) fun δ75 => some δ75 else none) else none)) else none else none else none) else (some δ))
set_option maxRecDepth 20000 in
set_option maxHeartbeats 4000000 in
theorem c_St_goAhead {l : Launch} {Γ : Gm} (hG : GC Γ) (a : Nat) (x1 : Int32) (ha : Oc a 9) (δ : Dl) (r : Dl) (h : F_St_goAhead a x1  δ = some r) : Ct l M_St_goAhead 0 0 0 NF [.inr (0, a), .inl x1] Γ δ (none, Γ, r) := by
  unfold F_St_goAhead at h
  have oa := hG.ob ha
  refine Ct.of2 (n := 1) (ls := [some (.inr (0, a)), some (.inl x1), none]) rfl (by decide +kernel) (Nat.le_of_ble_eq_true rfl) ?_
  refine x_iload_n (i := 1) d_St_goAhead_0 rfl rfl ?_
  refine x_if_lt (tgt := 12) d_St_goAhead_1 (by decide) (fun c1 => ?_) (fun c1 => ?_)
  · have h := if_t c1 h
    replace h := Option.some.inj h; subst h
    exact x_vret rfl d_St_goAhead_12 (Nat.le_refl 0) (Nat.le_refl 0)
  · have h := if_f c1 h
    refine x_iload_n (i := 1) d_St_goAhead_4 rfl rfl ?_
    refine x_aload_n (i := 0) d_St_goAhead_5 rfl rfl ?_
    refine x_getI (f := 72) gl_St_18_9 rfl kf_72 oa d_St_goAhead_6 ?_
    refine x_cmp_lt (tgt := 13) d_St_goAhead_9 (by decide) (fun c9 => ?_) (fun c9 => ?_)
    · have h := if_t c9 h
      refine x_aload_n (i := 0) d_St_goAhead_13 rfl rfl ?_
      refine x_getA (f := 74) gl_St_25_9 rfl (by rw [kf_74]; decide) oa d_St_goAhead_14 ?_
      refine x_iload_n (i := 1) d_St_goAhead_17 rfl rfl ?_
      obtain ⟨g18, h⟩ := gd_e h
      refine x_iald (n := 3) kf_74 (oz_74 oa) (ln_74 _) g18 d_St_goAhead_18 ?_
      refine x_gstS gs_St_77 d_St_goAhead_19 ?_
      refine x_aload_n (i := 0) d_St_goAhead_22 rfl rfl ?_
      refine x_getA (f := 75) gl_St_28_9 rfl (by rw [kf_75]; decide) oa d_St_goAhead_23 ?_
      refine x_iload_n (i := 1) d_St_goAhead_26 rfl rfl ?_
      obtain ⟨g27, h⟩ := gd_e h
      refine x_iald (n := 3) kf_75 (oz_75 oa) (ln_75 _) g27 d_St_goAhead_27 ?_
      refine x_ic (v := 3) d_St_goAhead_28 (by decide) ?_
      refine x_iand d_St_goAhead_29 ?_
      obtain ⟨g30, h⟩ := gd_e h
      refine x_tldS g30 d_St_goAhead_30 ?_
      refine x_iadd d_St_goAhead_31 ?_
      obtain ⟨x2_32, ex2_32, h⟩ := bn_e h
      refine Xe.top ex2_32 ?_
      refine x_stn (i := 2) (ls' := [some (.inr (0, a)), some (.inl x1), some (.inl x2_32)]) d_St_goAhead_32 rfl (by decide) rfl ?_
      refine x_iload_n (i := 2) d_St_goAhead_33 rfl rfl ?_
      refine x_if_lt (tgt := 56) d_St_goAhead_34 (by decide) (fun c34 => ?_) (fun c34 => ?_)
      · have h := if_t c34 h
        refine x_wk (ls' := [some (.inr (0, a)), some (.inl x1), none]) ⟨Or.inr rfl, Or.inr rfl, Or.inl rfl, trivial⟩ ?_
        exact j_St_goAhead_56 hG a x1 ha  δ r h
      · have h := if_f c34 h
        refine x_iload_n (i := 2) d_St_goAhead_37 rfl rfl ?_
        refine x_aload_n (i := 0) d_St_goAhead_38 rfl rfl ?_
        refine x_getA (f := 73) gl_St_21_9 rfl (by rw [kf_73]; decide) oa d_St_goAhead_39 ?_
        refine x_alen (n := 100) (Or.inl kf_73) (oz_73 oa) (lo_73 _) d_St_goAhead_42 ?_
        refine x_cmp_ge (tgt := 56) d_St_goAhead_43 (by decide) (fun c43 => ?_) (fun c43 => ?_)
        · have h := if_t c43 h
          refine x_wk (ls' := [some (.inr (0, a)), some (.inl x1), none]) ⟨Or.inr rfl, Or.inr rfl, Or.inl rfl, trivial⟩ ?_
          exact j_St_goAhead_56 hG a x1 ha  δ r h
        · have h := if_f c43 h
          refine x_aload_n (i := 0) d_St_goAhead_46 rfl rfl ?_
          refine x_getA (f := 73) gl_St_21_9 rfl (by rw [kf_73]; decide) oa d_St_goAhead_47 ?_
          refine x_iload_n (i := 2) d_St_goAhead_50 rfl rfl ?_
          obtain ⟨g51, h⟩ := gd_e h
          refine x_iald (n := 100) kf_73 (oz_73 oa) (ln_73 _) g51 d_St_goAhead_51 ?_
          refine x_ic (v := -1) d_St_goAhead_52 (by decide) ?_
          refine x_cmp_ne (tgt := 69) d_St_goAhead_53 (by decide) (fun c53 => ?_) (fun c53 => ?_)
          · have h := if_f c53 h
            refine x_aload_n (i := 0) d_St_goAhead_69 rfl rfl ?_
            refine x_getA (f := 74) gl_St_25_9 rfl (by rw [kf_74]; decide) oa d_St_goAhead_70 ?_
            refine x_iload_n (i := 1) d_St_goAhead_73 rfl rfl ?_
            refine x_iload_n (i := 2) d_St_goAhead_74 rfl rfl ?_
            obtain ⟨g75, h⟩ := gd_e h
            obtain ⟨δ75, eδ75, h⟩ := bn_e h
            refine x_iast (n := 3) kf_74 (oz_74 oa) (ln_74 _) g75 d_St_goAhead_75 (Xe.cδ eδ75 ?_)
            replace h := Option.some.inj h; subst h
            exact x_vret rfl d_St_goAhead_76 (Nat.le_refl 0) (Nat.le_refl 0)
          · have h := if_t c53 h
            refine x_wk (ls' := [some (.inr (0, a)), some (.inl x1), none]) ⟨Or.inr rfl, Or.inr rfl, Or.inl rfl, trivial⟩ ?_
            exact j_St_goAhead_56 hG a x1 ha  δ r h
    · have h := if_f c9 h
      replace h := Option.some.inj h; subst h
      exact x_vret rfl d_St_goAhead_12 (Nat.le_refl 0) (Nat.le_refl 0)
-- BlockStage$Stage.turnBy(II)V
theorem d_St_turnBy_0 : decode M_St_turnBy.2.1 0 = .ok (.iload_n 1, 1) := by decide +kernel
theorem d_St_turnBy_1 : decode M_St_turnBy.2.1 1 = .ok (.ifCond .lt 27, 3) := by decide +kernel
theorem d_St_turnBy_4 : decode M_St_turnBy.2.1 4 = .ok (.iload_n 1, 1) := by decide +kernel
theorem d_St_turnBy_5 : decode M_St_turnBy.2.1 5 = .ok (.aload_n 0, 1) := by decide +kernel
theorem d_St_turnBy_6 : decode M_St_turnBy.2.1 6 = .ok (.getfield 18, 3) := by decide +kernel
theorem d_St_turnBy_9 : decode M_St_turnBy.2.1 9 = .ok (.if_icmp .ge 19, 3) := by decide +kernel
theorem d_St_turnBy_12 : decode M_St_turnBy.2.1 12 = .ok (.aload_n 0, 1) := by decide +kernel
theorem d_St_turnBy_13 : decode M_St_turnBy.2.1 13 = .ok (.getfield 28, 3) := by decide +kernel
theorem d_St_turnBy_16 : decode M_St_turnBy.2.1 16 = .ok (.iload_n 1, 1) := by decide +kernel
theorem d_St_turnBy_17 : decode M_St_turnBy.2.1 17 = .ok (.aload_n 0, 1) := by decide +kernel
theorem d_St_turnBy_18 : decode M_St_turnBy.2.1 18 = .ok (.getfield 28, 3) := by decide +kernel
theorem d_St_turnBy_21 : decode M_St_turnBy.2.1 21 = .ok (.iload_n 1, 1) := by decide +kernel
theorem d_St_turnBy_22 : decode M_St_turnBy.2.1 22 = .ok (.iaload, 1) := by decide +kernel
theorem d_St_turnBy_23 : decode M_St_turnBy.2.1 23 = .ok (.iload_n 2, 1) := by decide +kernel
theorem d_St_turnBy_24 : decode M_St_turnBy.2.1 24 = .ok (.iadd, 1) := by decide +kernel
theorem d_St_turnBy_25 : decode M_St_turnBy.2.1 25 = .ok (.iconst 3, 1) := by decide +kernel
theorem d_St_turnBy_26 : decode M_St_turnBy.2.1 26 = .ok (.iand, 1) := by decide +kernel
theorem d_St_turnBy_27 : decode M_St_turnBy.2.1 27 = .ok (.iastore, 1) := by decide +kernel
theorem d_St_turnBy_28 : decode M_St_turnBy.2.1 28 = .ok (.return_, 1) := by decide +kernel
def F_St_turnBy (a : Nat) (x1 : Int32) (x2 : Int32) (δ : Dl) : Option (Dl) :=
  if x1 < 0 then (some δ) else (if (δ.1 72 a) ≤ x1 then (some δ) else (if inb x1 3 then if inb x1 3 then bnd (sA δ 75 a x1 (((δ.2.1 75 a x1) + x2) &&& 3)) fun δ27 => some δ27 else none else none))
set_option maxRecDepth 20000 in
set_option maxHeartbeats 4000000 in
theorem c_St_turnBy {l : Launch} {Γ : Gm} (hG : GC Γ) (a : Nat) (x1 : Int32) (x2 : Int32) (ha : Oc a 9) (δ : Dl) (r : Dl) (h : F_St_turnBy a x1 x2  δ = some r) : Ct l M_St_turnBy 0 0 0 NF [.inr (0, a), .inl x1, .inl x2] Γ δ (none, Γ, r) := by
  unfold F_St_turnBy at h
  have oa := hG.ob ha
  refine Ct.of2 (n := 0) (ls := [some (.inr (0, a)), some (.inl x1), some (.inl x2)]) rfl (by decide +kernel) (Nat.le_of_ble_eq_true rfl) ?_
  refine x_iload_n (i := 1) d_St_turnBy_0 rfl rfl ?_
  refine x_if_lt (tgt := 28) d_St_turnBy_1 (by decide) (fun c1 => ?_) (fun c1 => ?_)
  · have h := if_t c1 h
    replace h := Option.some.inj h; subst h
    exact x_vret rfl d_St_turnBy_28 (Nat.le_refl 0) (Nat.le_refl 0)
  · have h := if_f c1 h
    refine x_iload_n (i := 1) d_St_turnBy_4 rfl rfl ?_
    refine x_aload_n (i := 0) d_St_turnBy_5 rfl rfl ?_
    refine x_getI (f := 72) gl_St_18_9 rfl kf_72 oa d_St_turnBy_6 ?_
    refine x_cmp_ge (tgt := 28) d_St_turnBy_9 (by decide) (fun c9 => ?_) (fun c9 => ?_)
    · have h := if_t c9 h
      replace h := Option.some.inj h; subst h
      exact x_vret rfl d_St_turnBy_28 (Nat.le_refl 0) (Nat.le_refl 0)
    · have h := if_f c9 h
      refine x_aload_n (i := 0) d_St_turnBy_12 rfl rfl ?_
      refine x_getA (f := 75) gl_St_28_9 rfl (by rw [kf_75]; decide) oa d_St_turnBy_13 ?_
      refine x_iload_n (i := 1) d_St_turnBy_16 rfl rfl ?_
      refine x_aload_n (i := 0) d_St_turnBy_17 rfl rfl ?_
      refine x_getA (f := 75) gl_St_28_9 rfl (by rw [kf_75]; decide) oa d_St_turnBy_18 ?_
      refine x_iload_n (i := 1) d_St_turnBy_21 rfl rfl ?_
      obtain ⟨g22, h⟩ := gd_e h
      refine x_iald (n := 3) kf_75 (oz_75 oa) (ln_75 _) g22 d_St_turnBy_22 ?_
      refine x_iload_n (i := 2) d_St_turnBy_23 rfl rfl ?_
      refine x_iadd d_St_turnBy_24 ?_
      refine x_ic (v := 3) d_St_turnBy_25 (by decide) ?_
      refine x_iand d_St_turnBy_26 ?_
      obtain ⟨g27, h⟩ := gd_e h
      obtain ⟨δ27, eδ27, h⟩ := bn_e h
      refine x_iast (n := 3) kf_75 (oz_75 oa) (ln_75 _) g27 d_St_turnBy_27 (Xe.cδ eδ27 ?_)
      replace h := Option.some.inj h; subst h
      exact x_vret rfl d_St_turnBy_28 (Nat.le_refl 0) (Nat.le_refl 0)
-- BlockStage$Stage.takeThing(I)V
theorem d_St_takeThing_0 : decode M_St_takeThing.2.1 0 = .ok (.iload_n 1, 1) := by decide +kernel
theorem d_St_takeThing_1 : decode M_St_takeThing.2.1 1 = .ok (.ifCond .lt 11, 3) := by decide +kernel
theorem d_St_takeThing_4 : decode M_St_takeThing.2.1 4 = .ok (.iload_n 1, 1) := by decide +kernel
theorem d_St_takeThing_5 : decode M_St_takeThing.2.1 5 = .ok (.aload_n 0, 1) := by decide +kernel
theorem d_St_takeThing_6 : decode M_St_takeThing.2.1 6 = .ok (.getfield 18, 3) := by decide +kernel
theorem d_St_takeThing_9 : decode M_St_takeThing.2.1 9 = .ok (.if_icmp .lt 4, 3) := by decide +kernel
theorem d_St_takeThing_12 : decode M_St_takeThing.2.1 12 = .ok (.return_, 1) := by decide +kernel
theorem d_St_takeThing_13 : decode M_St_takeThing.2.1 13 = .ok (.aload_n 0, 1) := by decide +kernel
theorem d_St_takeThing_14 : decode M_St_takeThing.2.1 14 = .ok (.getfield 25, 3) := by decide +kernel
theorem d_St_takeThing_17 : decode M_St_takeThing.2.1 17 = .ok (.iload_n 1, 1) := by decide +kernel
theorem d_St_takeThing_18 : decode M_St_takeThing.2.1 18 = .ok (.iaload, 1) := by decide +kernel
theorem d_St_takeThing_19 : decode M_St_takeThing.2.1 19 = .ok (.istore_n 2, 1) := by decide +kernel
theorem d_St_takeThing_20 : decode M_St_takeThing.2.1 20 = .ok (.iload_n 2, 1) := by decide +kernel
theorem d_St_takeThing_21 : decode M_St_takeThing.2.1 21 = .ok (.ifCond .lt 21, 3) := by decide +kernel
theorem d_St_takeThing_24 : decode M_St_takeThing.2.1 24 = .ok (.iload_n 2, 1) := by decide +kernel
theorem d_St_takeThing_25 : decode M_St_takeThing.2.1 25 = .ok (.aload_n 0, 1) := by decide +kernel
theorem d_St_takeThing_26 : decode M_St_takeThing.2.1 26 = .ok (.getfield 21, 3) := by decide +kernel
theorem d_St_takeThing_29 : decode M_St_takeThing.2.1 29 = .ok (.arraylength, 1) := by decide +kernel
theorem d_St_takeThing_30 : decode M_St_takeThing.2.1 30 = .ok (.if_icmp .ge 12, 3) := by decide +kernel
theorem d_St_takeThing_33 : decode M_St_takeThing.2.1 33 = .ok (.aload_n 0, 1) := by decide +kernel
theorem d_St_takeThing_34 : decode M_St_takeThing.2.1 34 = .ok (.getfield 21, 3) := by decide +kernel
theorem d_St_takeThing_37 : decode M_St_takeThing.2.1 37 = .ok (.iload_n 2, 1) := by decide +kernel
theorem d_St_takeThing_38 : decode M_St_takeThing.2.1 38 = .ok (.iaload, 1) := by decide +kernel
theorem d_St_takeThing_39 : decode M_St_takeThing.2.1 39 = .ok (.ifCond .gt 4, 3) := by decide +kernel
theorem d_St_takeThing_42 : decode M_St_takeThing.2.1 42 = .ok (.return_, 1) := by decide +kernel
theorem d_St_takeThing_43 : decode M_St_takeThing.2.1 43 = .ok (.aload_n 0, 1) := by decide +kernel
theorem d_St_takeThing_44 : decode M_St_takeThing.2.1 44 = .ok (.getfield 21, 3) := by decide +kernel
theorem d_St_takeThing_47 : decode M_St_takeThing.2.1 47 = .ok (.iload_n 2, 1) := by decide +kernel
theorem d_St_takeThing_48 : decode M_St_takeThing.2.1 48 = .ok (.dup2, 1) := by decide +kernel
theorem d_St_takeThing_49 : decode M_St_takeThing.2.1 49 = .ok (.iaload, 1) := by decide +kernel
theorem d_St_takeThing_50 : decode M_St_takeThing.2.1 50 = .ok (.iconst 1, 1) := by decide +kernel
theorem d_St_takeThing_51 : decode M_St_takeThing.2.1 51 = .ok (.isub, 1) := by decide +kernel
theorem d_St_takeThing_52 : decode M_St_takeThing.2.1 52 = .ok (.iastore, 1) := by decide +kernel
theorem d_St_takeThing_53 : decode M_St_takeThing.2.1 53 = .ok (.aload_n 0, 1) := by decide +kernel
theorem d_St_takeThing_54 : decode M_St_takeThing.2.1 54 = .ok (.getfield 31, 3) := by decide +kernel
theorem d_St_takeThing_57 : decode M_St_takeThing.2.1 57 = .ok (.iload_n 1, 1) := by decide +kernel
theorem d_St_takeThing_58 : decode M_St_takeThing.2.1 58 = .ok (.dup2, 1) := by decide +kernel
theorem d_St_takeThing_59 : decode M_St_takeThing.2.1 59 = .ok (.iaload, 1) := by decide +kernel
theorem d_St_takeThing_60 : decode M_St_takeThing.2.1 60 = .ok (.iconst 1, 1) := by decide +kernel
theorem d_St_takeThing_61 : decode M_St_takeThing.2.1 61 = .ok (.iadd, 1) := by decide +kernel
theorem d_St_takeThing_62 : decode M_St_takeThing.2.1 62 = .ok (.iastore, 1) := by decide +kernel
theorem d_St_takeThing_63 : decode M_St_takeThing.2.1 63 = .ok (.return_, 1) := by decide +kernel
def F_St_takeThing (a : Nat) (x1 : Int32) (δ : Dl) : Option (Dl) :=
  if x1 < 0 then (some δ) else (if x1 < (δ.1 72 a) then (if inb x1 3 then if (δ.2.1 74 a x1) < 0 then (some δ) else (if 100 ≤ (δ.2.1 74 a x1) then (some δ) else (if inb (δ.2.1 74 a x1) 100 then if 0 < (δ.2.1 73 a (δ.2.1 74 a x1)) then (if inb (δ.2.1 74 a x1) 100 then if inb (δ.2.1 74 a x1) 100 then bnd (sA δ 73 a (δ.2.1 74 a x1) ((δ.2.1 73 a (δ.2.1 74 a x1)) - 1)) fun δ52 => if inb x1 3 then if inb x1 3 then bnd (sA δ52 76 a x1 ((δ52.2.1 76 a x1) + 1)) fun δ62 => some δ62 else none else none else none else none) else (some δ) else none)) else none) else (some δ))
set_option maxRecDepth 20000 in
set_option maxHeartbeats 4000000 in
theorem c_St_takeThing {l : Launch} {Γ : Gm} (hG : GC Γ) (a : Nat) (x1 : Int32) (ha : Oc a 9) (δ : Dl) (r : Dl) (h : F_St_takeThing a x1  δ = some r) : Ct l M_St_takeThing 0 0 0 NF [.inr (0, a), .inl x1] Γ δ (none, Γ, r) := by
  unfold F_St_takeThing at h
  have oa := hG.ob ha
  refine Ct.of2 (n := 1) (ls := [some (.inr (0, a)), some (.inl x1), none]) rfl (by decide +kernel) (Nat.le_of_ble_eq_true rfl) ?_
  refine x_iload_n (i := 1) d_St_takeThing_0 rfl rfl ?_
  refine x_if_lt (tgt := 12) d_St_takeThing_1 (by decide) (fun c1 => ?_) (fun c1 => ?_)
  · have h := if_t c1 h
    replace h := Option.some.inj h; subst h
    exact x_vret rfl d_St_takeThing_12 (Nat.le_refl 0) (Nat.le_refl 0)
  · have h := if_f c1 h
    refine x_iload_n (i := 1) d_St_takeThing_4 rfl rfl ?_
    refine x_aload_n (i := 0) d_St_takeThing_5 rfl rfl ?_
    refine x_getI (f := 72) gl_St_18_9 rfl kf_72 oa d_St_takeThing_6 ?_
    refine x_cmp_lt (tgt := 13) d_St_takeThing_9 (by decide) (fun c9 => ?_) (fun c9 => ?_)
    · have h := if_t c9 h
      refine x_aload_n (i := 0) d_St_takeThing_13 rfl rfl ?_
      refine x_getA (f := 74) gl_St_25_9 rfl (by rw [kf_74]; decide) oa d_St_takeThing_14 ?_
      refine x_iload_n (i := 1) d_St_takeThing_17 rfl rfl ?_
      obtain ⟨g18, h⟩ := gd_e h
      refine x_iald (n := 3) kf_74 (oz_74 oa) (ln_74 _) g18 d_St_takeThing_18 ?_
      refine x_stn (i := 2) (ls' := [some (.inr (0, a)), some (.inl x1), some (.inl (δ.2.1 74 a x1))]) d_St_takeThing_19 rfl (by decide) rfl ?_
      refine x_iload_n (i := 2) d_St_takeThing_20 rfl rfl ?_
      refine x_if_lt (tgt := 42) d_St_takeThing_21 (by decide) (fun c21 => ?_) (fun c21 => ?_)
      · have h := if_t c21 h
        replace h := Option.some.inj h; subst h
        exact x_vret rfl d_St_takeThing_42 (Nat.le_refl 0) (Nat.le_refl 0)
      · have h := if_f c21 h
        refine x_iload_n (i := 2) d_St_takeThing_24 rfl rfl ?_
        refine x_aload_n (i := 0) d_St_takeThing_25 rfl rfl ?_
        refine x_getA (f := 73) gl_St_21_9 rfl (by rw [kf_73]; decide) oa d_St_takeThing_26 ?_
        refine x_alen (n := 100) (Or.inl kf_73) (oz_73 oa) (lo_73 _) d_St_takeThing_29 ?_
        refine x_cmp_ge (tgt := 42) d_St_takeThing_30 (by decide) (fun c30 => ?_) (fun c30 => ?_)
        · have h := if_t c30 h
          replace h := Option.some.inj h; subst h
          exact x_vret rfl d_St_takeThing_42 (Nat.le_refl 0) (Nat.le_refl 0)
        · have h := if_f c30 h
          refine x_aload_n (i := 0) d_St_takeThing_33 rfl rfl ?_
          refine x_getA (f := 73) gl_St_21_9 rfl (by rw [kf_73]; decide) oa d_St_takeThing_34 ?_
          refine x_iload_n (i := 2) d_St_takeThing_37 rfl rfl ?_
          obtain ⟨g38, h⟩ := gd_e h
          refine x_iald (n := 100) kf_73 (oz_73 oa) (ln_73 _) g38 d_St_takeThing_38 ?_
          refine x_if_gt (tgt := 43) d_St_takeThing_39 (by decide) (fun c39 => ?_) (fun c39 => ?_)
          · have h := if_t c39 h
            refine x_aload_n (i := 0) d_St_takeThing_43 rfl rfl ?_
            refine x_getA (f := 73) gl_St_21_9 rfl (by rw [kf_73]; decide) oa d_St_takeThing_44 ?_
            refine x_iload_n (i := 2) d_St_takeThing_47 rfl rfl ?_
            refine x_dup2 d_St_takeThing_48 ?_
            obtain ⟨g49, h⟩ := gd_e h
            refine x_iald (n := 100) kf_73 (oz_73 oa) (ln_73 _) g49 d_St_takeThing_49 ?_
            refine x_ic (v := 1) d_St_takeThing_50 (by decide) ?_
            refine x_isub d_St_takeThing_51 ?_
            obtain ⟨g52, h⟩ := gd_e h
            obtain ⟨δ52, eδ52, h⟩ := bn_e h
            refine x_iast (n := 100) kf_73 (oz_73 oa) (ln_73 _) g52 d_St_takeThing_52 (Xe.cδ eδ52 ?_)
            refine x_aload_n (i := 0) d_St_takeThing_53 rfl rfl ?_
            refine x_getA (f := 76) gl_St_31_9 rfl (by rw [kf_76]; decide) oa d_St_takeThing_54 ?_
            refine x_iload_n (i := 1) d_St_takeThing_57 rfl rfl ?_
            refine x_dup2 d_St_takeThing_58 ?_
            obtain ⟨g59, h⟩ := gd_e h
            refine x_iald (n := 3) kf_76 (oz_76 oa) (ln_76 _) g59 d_St_takeThing_59 ?_
            refine x_ic (v := 1) d_St_takeThing_60 (by decide) ?_
            refine x_iadd d_St_takeThing_61 ?_
            obtain ⟨g62, h⟩ := gd_e h
            obtain ⟨δ62, eδ62, h⟩ := bn_e h
            refine x_iast (n := 3) kf_76 (oz_76 oa) (ln_76 _) g62 d_St_takeThing_62 (Xe.cδ eδ62 ?_)
            replace h := Option.some.inj h; subst h
            exact x_vret rfl d_St_takeThing_63 (Nat.le_refl 0) (Nat.le_refl 0)
          · have h := if_f c39 h
            replace h := Option.some.inj h; subst h
            exact x_vret rfl d_St_takeThing_42 (Nat.le_refl 0) (Nat.le_refl 0)
    · have h := if_f c9 h
      replace h := Option.some.inj h; subst h
      exact x_vret rfl d_St_takeThing_12 (Nat.le_refl 0) (Nat.le_refl 0)
-- BlockStage$Stage.putThing(I)V
theorem d_St_putThing_0 : decode M_St_putThing.2.1 0 = .ok (.iload_n 1, 1) := by decide +kernel
theorem d_St_putThing_1 : decode M_St_putThing.2.1 1 = .ok (.ifCond .lt 20, 3) := by decide +kernel
theorem d_St_putThing_4 : decode M_St_putThing.2.1 4 = .ok (.iload_n 1, 1) := by decide +kernel
theorem d_St_putThing_5 : decode M_St_putThing.2.1 5 = .ok (.aload_n 0, 1) := by decide +kernel
theorem d_St_putThing_6 : decode M_St_putThing.2.1 6 = .ok (.getfield 18, 3) := by decide +kernel
theorem d_St_putThing_9 : decode M_St_putThing.2.1 9 = .ok (.if_icmp .ge 12, 3) := by decide +kernel
theorem d_St_putThing_12 : decode M_St_putThing.2.1 12 = .ok (.aload_n 0, 1) := by decide +kernel
theorem d_St_putThing_13 : decode M_St_putThing.2.1 13 = .ok (.getfield 31, 3) := by decide +kernel
theorem d_St_putThing_16 : decode M_St_putThing.2.1 16 = .ok (.iload_n 1, 1) := by decide +kernel
theorem d_St_putThing_17 : decode M_St_putThing.2.1 17 = .ok (.iaload, 1) := by decide +kernel
theorem d_St_putThing_18 : decode M_St_putThing.2.1 18 = .ok (.ifCond .gt 4, 3) := by decide +kernel
theorem d_St_putThing_21 : decode M_St_putThing.2.1 21 = .ok (.return_, 1) := by decide +kernel
theorem d_St_putThing_22 : decode M_St_putThing.2.1 22 = .ok (.aload_n 0, 1) := by decide +kernel
theorem d_St_putThing_23 : decode M_St_putThing.2.1 23 = .ok (.getfield 25, 3) := by decide +kernel
theorem d_St_putThing_26 : decode M_St_putThing.2.1 26 = .ok (.iload_n 1, 1) := by decide +kernel
theorem d_St_putThing_27 : decode M_St_putThing.2.1 27 = .ok (.iaload, 1) := by decide +kernel
theorem d_St_putThing_28 : decode M_St_putThing.2.1 28 = .ok (.istore_n 2, 1) := by decide +kernel
theorem d_St_putThing_29 : decode M_St_putThing.2.1 29 = .ok (.iload_n 2, 1) := by decide +kernel
theorem d_St_putThing_30 : decode M_St_putThing.2.1 30 = .ok (.ifCond .lt 23, 3) := by decide +kernel
theorem d_St_putThing_33 : decode M_St_putThing.2.1 33 = .ok (.iload_n 2, 1) := by decide +kernel
theorem d_St_putThing_34 : decode M_St_putThing.2.1 34 = .ok (.aload_n 0, 1) := by decide +kernel
theorem d_St_putThing_35 : decode M_St_putThing.2.1 35 = .ok (.getfield 21, 3) := by decide +kernel
theorem d_St_putThing_38 : decode M_St_putThing.2.1 38 = .ok (.arraylength, 1) := by decide +kernel
theorem d_St_putThing_39 : decode M_St_putThing.2.1 39 = .ok (.if_icmp .ge 14, 3) := by decide +kernel
theorem d_St_putThing_42 : decode M_St_putThing.2.1 42 = .ok (.aload_n 0, 1) := by decide +kernel
theorem d_St_putThing_43 : decode M_St_putThing.2.1 43 = .ok (.getfield 21, 3) := by decide +kernel
theorem d_St_putThing_46 : decode M_St_putThing.2.1 46 = .ok (.iload_n 2, 1) := by decide +kernel
theorem d_St_putThing_47 : decode M_St_putThing.2.1 47 = .ok (.iaload, 1) := by decide +kernel
theorem d_St_putThing_48 : decode M_St_putThing.2.1 48 = .ok (.bipush 9, 2) := by decide +kernel
theorem d_St_putThing_50 : decode M_St_putThing.2.1 50 = .ok (.if_icmp .lt 4, 3) := by decide +kernel
theorem d_St_putThing_53 : decode M_St_putThing.2.1 53 = .ok (.return_, 1) := by decide +kernel
theorem d_St_putThing_54 : decode M_St_putThing.2.1 54 = .ok (.aload_n 0, 1) := by decide +kernel
theorem d_St_putThing_55 : decode M_St_putThing.2.1 55 = .ok (.getfield 21, 3) := by decide +kernel
theorem d_St_putThing_58 : decode M_St_putThing.2.1 58 = .ok (.iload_n 2, 1) := by decide +kernel
theorem d_St_putThing_59 : decode M_St_putThing.2.1 59 = .ok (.dup2, 1) := by decide +kernel
theorem d_St_putThing_60 : decode M_St_putThing.2.1 60 = .ok (.iaload, 1) := by decide +kernel
theorem d_St_putThing_61 : decode M_St_putThing.2.1 61 = .ok (.iconst 1, 1) := by decide +kernel
theorem d_St_putThing_62 : decode M_St_putThing.2.1 62 = .ok (.iadd, 1) := by decide +kernel
theorem d_St_putThing_63 : decode M_St_putThing.2.1 63 = .ok (.iastore, 1) := by decide +kernel
theorem d_St_putThing_64 : decode M_St_putThing.2.1 64 = .ok (.aload_n 0, 1) := by decide +kernel
theorem d_St_putThing_65 : decode M_St_putThing.2.1 65 = .ok (.getfield 31, 3) := by decide +kernel
theorem d_St_putThing_68 : decode M_St_putThing.2.1 68 = .ok (.iload_n 1, 1) := by decide +kernel
theorem d_St_putThing_69 : decode M_St_putThing.2.1 69 = .ok (.dup2, 1) := by decide +kernel
theorem d_St_putThing_70 : decode M_St_putThing.2.1 70 = .ok (.iaload, 1) := by decide +kernel
theorem d_St_putThing_71 : decode M_St_putThing.2.1 71 = .ok (.iconst 1, 1) := by decide +kernel
theorem d_St_putThing_72 : decode M_St_putThing.2.1 72 = .ok (.isub, 1) := by decide +kernel
theorem d_St_putThing_73 : decode M_St_putThing.2.1 73 = .ok (.iastore, 1) := by decide +kernel
theorem d_St_putThing_74 : decode M_St_putThing.2.1 74 = .ok (.return_, 1) := by decide +kernel
def F_St_putThing (a : Nat) (x1 : Int32) (δ : Dl) : Option (Dl) :=
  if x1 < 0 then (some δ) else (if (δ.1 72 a) ≤ x1 then (some δ) else (if inb x1 3 then if 0 < (δ.2.1 76 a x1) then (if inb x1 3 then if (δ.2.1 74 a x1) < 0 then (some δ) else (if 100 ≤ (δ.2.1 74 a x1) then (some δ) else (if inb (δ.2.1 74 a x1) 100 then if (δ.2.1 73 a (δ.2.1 74 a x1)) < 9 then (if inb (δ.2.1 74 a x1) 100 then if inb (δ.2.1 74 a x1) 100 then bnd (sA δ 73 a (δ.2.1 74 a x1) ((δ.2.1 73 a (δ.2.1 74 a x1)) + 1)) fun δ63 => if inb x1 3 then if inb x1 3 then bnd (sA δ63 76 a x1 ((δ63.2.1 76 a x1) - 1)) fun δ73 => some δ73 else none else none else none else none) else (some δ) else none)) else none) else (some δ) else none))
set_option maxRecDepth 20000 in
set_option maxHeartbeats 4000000 in
theorem c_St_putThing {l : Launch} {Γ : Gm} (hG : GC Γ) (a : Nat) (x1 : Int32) (ha : Oc a 9) (δ : Dl) (r : Dl) (h : F_St_putThing a x1  δ = some r) : Ct l M_St_putThing 0 0 0 NF [.inr (0, a), .inl x1] Γ δ (none, Γ, r) := by
  unfold F_St_putThing at h
  have oa := hG.ob ha
  refine Ct.of2 (n := 1) (ls := [some (.inr (0, a)), some (.inl x1), none]) rfl (by decide +kernel) (Nat.le_of_ble_eq_true rfl) ?_
  refine x_iload_n (i := 1) d_St_putThing_0 rfl rfl ?_
  refine x_if_lt (tgt := 21) d_St_putThing_1 (by decide) (fun c1 => ?_) (fun c1 => ?_)
  · have h := if_t c1 h
    replace h := Option.some.inj h; subst h
    exact x_vret rfl d_St_putThing_21 (Nat.le_refl 0) (Nat.le_refl 0)
  · have h := if_f c1 h
    refine x_iload_n (i := 1) d_St_putThing_4 rfl rfl ?_
    refine x_aload_n (i := 0) d_St_putThing_5 rfl rfl ?_
    refine x_getI (f := 72) gl_St_18_9 rfl kf_72 oa d_St_putThing_6 ?_
    refine x_cmp_ge (tgt := 21) d_St_putThing_9 (by decide) (fun c9 => ?_) (fun c9 => ?_)
    · have h := if_t c9 h
      replace h := Option.some.inj h; subst h
      exact x_vret rfl d_St_putThing_21 (Nat.le_refl 0) (Nat.le_refl 0)
    · have h := if_f c9 h
      refine x_aload_n (i := 0) d_St_putThing_12 rfl rfl ?_
      refine x_getA (f := 76) gl_St_31_9 rfl (by rw [kf_76]; decide) oa d_St_putThing_13 ?_
      refine x_iload_n (i := 1) d_St_putThing_16 rfl rfl ?_
      obtain ⟨g17, h⟩ := gd_e h
      refine x_iald (n := 3) kf_76 (oz_76 oa) (ln_76 _) g17 d_St_putThing_17 ?_
      refine x_if_gt (tgt := 22) d_St_putThing_18 (by decide) (fun c18 => ?_) (fun c18 => ?_)
      · have h := if_t c18 h
        refine x_aload_n (i := 0) d_St_putThing_22 rfl rfl ?_
        refine x_getA (f := 74) gl_St_25_9 rfl (by rw [kf_74]; decide) oa d_St_putThing_23 ?_
        refine x_iload_n (i := 1) d_St_putThing_26 rfl rfl ?_
        obtain ⟨g27, h⟩ := gd_e h
        refine x_iald (n := 3) kf_74 (oz_74 oa) (ln_74 _) g27 d_St_putThing_27 ?_
        refine x_stn (i := 2) (ls' := [some (.inr (0, a)), some (.inl x1), some (.inl (δ.2.1 74 a x1))]) d_St_putThing_28 rfl (by decide) rfl ?_
        refine x_iload_n (i := 2) d_St_putThing_29 rfl rfl ?_
        refine x_if_lt (tgt := 53) d_St_putThing_30 (by decide) (fun c30 => ?_) (fun c30 => ?_)
        · have h := if_t c30 h
          replace h := Option.some.inj h; subst h
          exact x_vret rfl d_St_putThing_53 (Nat.le_refl 0) (Nat.le_refl 0)
        · have h := if_f c30 h
          refine x_iload_n (i := 2) d_St_putThing_33 rfl rfl ?_
          refine x_aload_n (i := 0) d_St_putThing_34 rfl rfl ?_
          refine x_getA (f := 73) gl_St_21_9 rfl (by rw [kf_73]; decide) oa d_St_putThing_35 ?_
          refine x_alen (n := 100) (Or.inl kf_73) (oz_73 oa) (lo_73 _) d_St_putThing_38 ?_
          refine x_cmp_ge (tgt := 53) d_St_putThing_39 (by decide) (fun c39 => ?_) (fun c39 => ?_)
          · have h := if_t c39 h
            replace h := Option.some.inj h; subst h
            exact x_vret rfl d_St_putThing_53 (Nat.le_refl 0) (Nat.le_refl 0)
          · have h := if_f c39 h
            refine x_aload_n (i := 0) d_St_putThing_42 rfl rfl ?_
            refine x_getA (f := 73) gl_St_21_9 rfl (by rw [kf_73]; decide) oa d_St_putThing_43 ?_
            refine x_iload_n (i := 2) d_St_putThing_46 rfl rfl ?_
            obtain ⟨g47, h⟩ := gd_e h
            refine x_iald (n := 100) kf_73 (oz_73 oa) (ln_73 _) g47 d_St_putThing_47 ?_
            refine x_bi (v := 9) d_St_putThing_48 (by decide) ?_
            refine x_cmp_lt (tgt := 54) d_St_putThing_50 (by decide) (fun c50 => ?_) (fun c50 => ?_)
            · have h := if_t c50 h
              refine x_aload_n (i := 0) d_St_putThing_54 rfl rfl ?_
              refine x_getA (f := 73) gl_St_21_9 rfl (by rw [kf_73]; decide) oa d_St_putThing_55 ?_
              refine x_iload_n (i := 2) d_St_putThing_58 rfl rfl ?_
              refine x_dup2 d_St_putThing_59 ?_
              obtain ⟨g60, h⟩ := gd_e h
              refine x_iald (n := 100) kf_73 (oz_73 oa) (ln_73 _) g60 d_St_putThing_60 ?_
              refine x_ic (v := 1) d_St_putThing_61 (by decide) ?_
              refine x_iadd d_St_putThing_62 ?_
              obtain ⟨g63, h⟩ := gd_e h
              obtain ⟨δ63, eδ63, h⟩ := bn_e h
              refine x_iast (n := 100) kf_73 (oz_73 oa) (ln_73 _) g63 d_St_putThing_63 (Xe.cδ eδ63 ?_)
              refine x_aload_n (i := 0) d_St_putThing_64 rfl rfl ?_
              refine x_getA (f := 76) gl_St_31_9 rfl (by rw [kf_76]; decide) oa d_St_putThing_65 ?_
              refine x_iload_n (i := 1) d_St_putThing_68 rfl rfl ?_
              refine x_dup2 d_St_putThing_69 ?_
              obtain ⟨g70, h⟩ := gd_e h
              refine x_iald (n := 3) kf_76 (oz_76 oa) (ln_76 _) g70 d_St_putThing_70 ?_
              refine x_ic (v := 1) d_St_putThing_71 (by decide) ?_
              refine x_isub d_St_putThing_72 ?_
              obtain ⟨g73, h⟩ := gd_e h
              obtain ⟨δ73, eδ73, h⟩ := bn_e h
              refine x_iast (n := 3) kf_76 (oz_76 oa) (ln_76 _) g73 d_St_putThing_73 (Xe.cδ eδ73 ?_)
              replace h := Option.some.inj h; subst h
              exact x_vret rfl d_St_putThing_74 (Nat.le_refl 0) (Nat.le_refl 0)
            · have h := if_f c50 h
              replace h := Option.some.inj h; subst h
              exact x_vret rfl d_St_putThing_53 (Nat.le_refl 0) (Nat.le_refl 0)
      · have h := if_f c18 h
        replace h := Option.some.inj h; subst h
        exact x_vret rfl d_St_putThing_21 (Nat.le_refl 0) (Nat.le_refl 0)
-- BlockStage$Stage.makeRow(II)I
theorem d_St_makeRow_0 : decode M_St_makeRow.2.1 0 = .ok (.iload_n 2, 1) := by decide +kernel
theorem d_St_makeRow_1 : decode M_St_makeRow.2.1 1 = .ok (.ifCond .ge 6, 3) := by decide +kernel
theorem d_St_makeRow_4 : decode M_St_makeRow.2.1 4 = .ok (.bipush (-14), 2) := by decide +kernel
theorem d_St_makeRow_6 : decode M_St_makeRow.2.1 6 = .ok (.ireturn, 1) := by decide +kernel
theorem d_St_makeRow_7 : decode M_St_makeRow.2.1 7 = .ok (.iload_n 1, 1) := by decide +kernel
theorem d_St_makeRow_8 : decode M_St_makeRow.2.1 8 = .ok (.ifCond .lt 11, 3) := by decide +kernel
theorem d_St_makeRow_11 : decode M_St_makeRow.2.1 11 = .ok (.iload_n 1, 1) := by decide +kernel
theorem d_St_makeRow_12 : decode M_St_makeRow.2.1 12 = .ok (.aload_n 0, 1) := by decide +kernel
theorem d_St_makeRow_13 : decode M_St_makeRow.2.1 13 = .ok (.getfield 18, 3) := by decide +kernel
theorem d_St_makeRow_16 : decode M_St_makeRow.2.1 16 = .ok (.if_icmp .lt 5, 3) := by decide +kernel
theorem d_St_makeRow_19 : decode M_St_makeRow.2.1 19 = .ok (.iconst 0, 1) := by decide +kernel
theorem d_St_makeRow_20 : decode M_St_makeRow.2.1 20 = .ok (.ireturn, 1) := by decide +kernel
theorem d_St_makeRow_21 : decode M_St_makeRow.2.1 21 = .ok (.aload_n 0, 1) := by decide +kernel
theorem d_St_makeRow_22 : decode M_St_makeRow.2.1 22 = .ok (.getfield 37, 3) := by decide +kernel
theorem d_St_makeRow_25 : decode M_St_makeRow.2.1 25 = .ok (.iload_n 1, 1) := by decide +kernel
theorem d_St_makeRow_26 : decode M_St_makeRow.2.1 26 = .ok (.iload_n 2, 1) := by decide +kernel
theorem d_St_makeRow_27 : decode M_St_makeRow.2.1 27 = .ok (.bipush 20, 2) := by decide +kernel
theorem d_St_makeRow_29 : decode M_St_makeRow.2.1 29 = .ok (.invokestatic 80, 3) := by decide +kernel
theorem d_St_makeRow_32 : decode M_St_makeRow.2.1 32 = .ok (.iastore, 1) := by decide +kernel
theorem d_St_makeRow_33 : decode M_St_makeRow.2.1 33 = .ok (.aload_n 0, 1) := by decide +kernel
theorem d_St_makeRow_34 : decode M_St_makeRow.2.1 34 = .ok (.getfield 40, 3) := by decide +kernel
theorem d_St_makeRow_37 : decode M_St_makeRow.2.1 37 = .ok (.iload_n 1, 1) := by decide +kernel
theorem d_St_makeRow_38 : decode M_St_makeRow.2.1 38 = .ok (.bipush 20, 2) := by decide +kernel
theorem d_St_makeRow_40 : decode M_St_makeRow.2.1 40 = .ok (.imul, 1) := by decide +kernel
theorem d_St_makeRow_41 : decode M_St_makeRow.2.1 41 = .ok (.iload_n 1, 1) := by decide +kernel
theorem d_St_makeRow_42 : decode M_St_makeRow.2.1 42 = .ok (.bipush 20, 2) := by decide +kernel
theorem d_St_makeRow_44 : decode M_St_makeRow.2.1 44 = .ok (.imul, 1) := by decide +kernel
theorem d_St_makeRow_45 : decode M_St_makeRow.2.1 45 = .ok (.bipush 20, 2) := by decide +kernel
theorem d_St_makeRow_47 : decode M_St_makeRow.2.1 47 = .ok (.iadd, 1) := by decide +kernel
theorem d_St_makeRow_48 : decode M_St_makeRow.2.1 48 = .ok (.iconst 0, 1) := by decide +kernel
theorem d_St_makeRow_49 : decode M_St_makeRow.2.1 49 = .ok (.invokestatic 85, 3) := by decide +kernel
theorem d_St_makeRow_52 : decode M_St_makeRow.2.1 52 = .ok (.iconst 0, 1) := by decide +kernel
theorem d_St_makeRow_53 : decode M_St_makeRow.2.1 53 = .ok (.ireturn, 1) := by decide +kernel
theorem mi_Ma_min : MI M_Ma_min 2 := ⟨(lwg_at 7 (by decide +kernel) rfl), (lwg_at 651 (by decide +kernel) rfl), ⟨by decide +kernel, by decide +kernel⟩, by decide +kernel, by decide⟩
theorem cs_St_80 : CS RX9 80 M_Ma_min 2 := ⟨(lwg_at 649 (by decide +kernel) rfl), (lwg_at 650 (by decide +kernel) rfl), mi_Ma_min⟩
theorem cs_St_85 : CS RX9 85 M_Ar_fill4 4 := ⟨(lwg_at 652 (by decide +kernel) rfl), (lwg_at 388 (by decide +kernel) rfl), mi_Ar_fill4⟩
def F_St_makeRow (a : Nat) (x1 : Int32) (x2 : Int32) (δ : Dl) : Option (Int32 × Dl) :=
  if 0 ≤ x2 then (if x1 < 0 then (some (0, δ)) else (if x1 < (δ.1 72 a) then (bnd (F_Ma_min x2 20) fun v29 => if inb x1 3 then bnd (sA δ 78 a x1 v29) fun δ32 => (F_Ar_fill4 79 a 60 (x1 * 20) ((x1 * 20) + 20) 0 δ32).bind fun δ49 => some (0, δ49) else none) else (some (0, δ)))) else (some ((-14), δ))
set_option maxRecDepth 20000 in
set_option maxHeartbeats 4000000 in
theorem c_St_makeRow {l : Launch} {Γ : Gm} (hG : GC Γ) (a : Nat) (x1 : Int32) (x2 : Int32) (ha : Oc a 9) (δ : Dl) (r : Int32 × Dl) (h : F_St_makeRow a x1 x2  δ = some r) : Ct l M_St_makeRow 2 0 0 NF [.inr (0, a), .inl x1, .inl x2] Γ δ (some (.inl r.1), Γ, r.2) := by
  unfold F_St_makeRow at h
  have oa := hG.ob ha
  refine Ct.of2 (n := 0) (ls := [some (.inr (0, a)), some (.inl x1), some (.inl x2)]) rfl (by decide +kernel) (Nat.le_of_ble_eq_true rfl) ?_
  refine x_iload_n (i := 2) d_St_makeRow_0 rfl rfl ?_
  refine x_if_ge (tgt := 7) d_St_makeRow_1 (by decide) (fun c1 => ?_) (fun c1 => ?_)
  · have h := if_t c1 h
    refine x_iload_n (i := 1) d_St_makeRow_7 rfl rfl ?_
    refine x_if_lt (tgt := 19) d_St_makeRow_8 (by decide) (fun c8 => ?_) (fun c8 => ?_)
    · have h := if_t c8 h
      refine x_ic (v := 0) d_St_makeRow_19 (by decide) ?_
      replace h := Option.some.inj h; subst h
      exact x_iret rfl d_St_makeRow_20 (Nat.le_refl 0) (Nat.le_refl 0)
    · have h := if_f c8 h
      refine x_iload_n (i := 1) d_St_makeRow_11 rfl rfl ?_
      refine x_aload_n (i := 0) d_St_makeRow_12 rfl rfl ?_
      refine x_getI (f := 72) gl_St_18_9 rfl kf_72 oa d_St_makeRow_13 ?_
      refine x_cmp_lt (tgt := 21) d_St_makeRow_16 (by decide) (fun c16 => ?_) (fun c16 => ?_)
      · have h := if_t c16 h
        refine x_aload_n (i := 0) d_St_makeRow_21 rfl rfl ?_
        refine x_getA (f := 78) gl_St_37_9 rfl (by rw [kf_78]; decide) oa d_St_makeRow_22 ?_
        refine x_iload_n (i := 1) d_St_makeRow_25 rfl rfl ?_
        refine x_iload_n (i := 2) d_St_makeRow_26 rfl rfl ?_
        refine x_bi (v := 20) d_St_makeRow_27 (by decide) ?_
        obtain ⟨v29, ev29, h⟩ := bn_e h
        refine y_S2 cs_St_80 (by first | decide | omega) (Nat.le_of_ble_eq_true rfl) d_St_makeRow_29 (c_Ma_min x2 20  δ v29 ev29) (Nat.le_refl 0) (Nat.le_refl 0) ?_
        obtain ⟨g32, h⟩ := gd_e h
        obtain ⟨δ32, eδ32, h⟩ := bn_e h
        refine x_iast (n := 3) kf_78 (oz_78 oa) (ln_78 _) g32 d_St_makeRow_32 (Xe.cδ eδ32 ?_)
        refine x_aload_n (i := 0) d_St_makeRow_33 rfl rfl ?_
        refine x_getA (f := 79) gl_St_40_9 rfl (by rw [kf_79]; decide) oa d_St_makeRow_34 ?_
        refine x_iload_n (i := 1) d_St_makeRow_37 rfl rfl ?_
        refine x_bi (v := 20) d_St_makeRow_38 (by decide) ?_
        refine x_imul d_St_makeRow_40 ?_
        refine x_iload_n (i := 1) d_St_makeRow_41 rfl rfl ?_
        refine x_bi (v := 20) d_St_makeRow_42 (by decide) ?_
        refine x_imul d_St_makeRow_44 ?_
        refine x_bi (v := 20) d_St_makeRow_45 (by decide) ?_
        refine x_iadd d_St_makeRow_47 ?_
        refine x_ic (v := 0) d_St_makeRow_48 (by decide) ?_
        obtain ⟨δ49, eδ49, h⟩ := bd_e h
        refine y_S4v cs_St_85 (by first | decide | omega) (Nat.le_of_ble_eq_true rfl) d_St_makeRow_49 (c_Ar_fill4 79 a 60 (x1 * 20) ((x1 * 20) + 20) 0 kf_79 (oz_79 oa) (ln_79 _) (lo_79 _) δ32 δ49 eδ49) (Nat.le_refl 0) (Nat.le_refl 0) ?_
        refine x_ic (v := 0) d_St_makeRow_52 (by decide) ?_
        replace h := Option.some.inj h; subst h
        exact x_iret rfl d_St_makeRow_53 (Nat.le_refl 0) (Nat.le_refl 0)
      · have h := if_f c16 h
        refine x_ic (v := 0) d_St_makeRow_19 (by decide) ?_
        replace h := Option.some.inj h; subst h
        exact x_iret rfl d_St_makeRow_20 (Nat.le_refl 0) (Nat.le_refl 0)
  · have h := if_f c1 h
    refine x_bi (v := -14) d_St_makeRow_4 (by decide) ?_
    replace h := Option.some.inj h; subst h
    exact x_iret rfl d_St_makeRow_6 (Nat.le_refl 0) (Nat.le_refl 0)
-- BlockStage$Stage.refusalOfItem(II)I
theorem d_St_refusalOfItem_0 : decode M_St_refusalOfItem.2.1 0 = .ok (.iload_n 1, 1) := by decide +kernel
theorem d_St_refusalOfItem_1 : decode M_St_refusalOfItem.2.1 1 = .ok (.ifCond .lt 20, 3) := by decide +kernel
theorem d_St_refusalOfItem_4 : decode M_St_refusalOfItem.2.1 4 = .ok (.iload_n 1, 1) := by decide +kernel
theorem d_St_refusalOfItem_5 : decode M_St_refusalOfItem.2.1 5 = .ok (.aload_n 0, 1) := by decide +kernel
theorem d_St_refusalOfItem_6 : decode M_St_refusalOfItem.2.1 6 = .ok (.getfield 18, 3) := by decide +kernel
theorem d_St_refusalOfItem_9 : decode M_St_refusalOfItem.2.1 9 = .ok (.if_icmp .ge 12, 3) := by decide +kernel
theorem d_St_refusalOfItem_12 : decode M_St_refusalOfItem.2.1 12 = .ok (.aload_n 0, 1) := by decide +kernel
theorem d_St_refusalOfItem_13 : decode M_St_refusalOfItem.2.1 13 = .ok (.getfield 37, 3) := by decide +kernel
theorem d_St_refusalOfItem_16 : decode M_St_refusalOfItem.2.1 16 = .ok (.iload_n 1, 1) := by decide +kernel
theorem d_St_refusalOfItem_17 : decode M_St_refusalOfItem.2.1 17 = .ok (.iaload, 1) := by decide +kernel
theorem d_St_refusalOfItem_18 : decode M_St_refusalOfItem.2.1 18 = .ok (.ifCond .ge 6, 3) := by decide +kernel
theorem d_St_refusalOfItem_21 : decode M_St_refusalOfItem.2.1 21 = .ok (.bipush (-11), 2) := by decide +kernel
theorem d_St_refusalOfItem_23 : decode M_St_refusalOfItem.2.1 23 = .ok (.ireturn, 1) := by decide +kernel
theorem d_St_refusalOfItem_24 : decode M_St_refusalOfItem.2.1 24 = .ok (.iload_n 2, 1) := by decide +kernel
theorem d_St_refusalOfItem_25 : decode M_St_refusalOfItem.2.1 25 = .ok (.ifCond .lt 13, 3) := by decide +kernel
theorem d_St_refusalOfItem_28 : decode M_St_refusalOfItem.2.1 28 = .ok (.iload_n 2, 1) := by decide +kernel
theorem d_St_refusalOfItem_29 : decode M_St_refusalOfItem.2.1 29 = .ok (.aload_n 0, 1) := by decide +kernel
theorem d_St_refusalOfItem_30 : decode M_St_refusalOfItem.2.1 30 = .ok (.getfield 37, 3) := by decide +kernel
theorem d_St_refusalOfItem_33 : decode M_St_refusalOfItem.2.1 33 = .ok (.iload_n 1, 1) := by decide +kernel
theorem d_St_refusalOfItem_34 : decode M_St_refusalOfItem.2.1 34 = .ok (.iaload, 1) := by decide +kernel
theorem d_St_refusalOfItem_35 : decode M_St_refusalOfItem.2.1 35 = .ok (.if_icmp .lt 8, 3) := by decide +kernel
theorem d_St_refusalOfItem_38 : decode M_St_refusalOfItem.2.1 38 = .ok (.bipush (-12), 2) := by decide +kernel
theorem d_St_refusalOfItem_40 : decode M_St_refusalOfItem.2.1 40 = .ok (.goto 4, 3) := by decide +kernel
theorem d_St_refusalOfItem_43 : decode M_St_refusalOfItem.2.1 43 = .ok (.iconst 0, 1) := by decide +kernel
theorem d_St_refusalOfItem_44 : decode M_St_refusalOfItem.2.1 44 = .ok (.ireturn, 1) := by decide +kernel
def F_St_refusalOfItem (a : Nat) (x1 : Int32) (x2 : Int32) (δ : Dl) : Option (Int32) :=
  if x1 < 0 then (some (-11)) else (if (δ.1 72 a) ≤ x1 then (some (-11)) else (if inb x1 3 then if 0 ≤ (δ.2.1 78 a x1) then (if x2 < 0 then (some (-12)) else (if inb x1 3 then if x2 < (δ.2.1 78 a x1) then (some 0) else (some (-12)) else none)) else (some (-11)) else none))
set_option maxRecDepth 20000 in
set_option maxHeartbeats 4000000 in
theorem c_St_refusalOfItem {l : Launch} {Γ : Gm} (hG : GC Γ) (a : Nat) (x1 : Int32) (x2 : Int32) (ha : Oc a 9) (δ : Dl) (r : Int32) (h : F_St_refusalOfItem a x1 x2  δ = some r) : Ct l M_St_refusalOfItem 0 0 0 NF [.inr (0, a), .inl x1, .inl x2] Γ δ (some (.inl r), Γ, δ) := by
  unfold F_St_refusalOfItem at h
  have oa := hG.ob ha
  refine Ct.of2 (n := 0) (ls := [some (.inr (0, a)), some (.inl x1), some (.inl x2)]) rfl (by decide +kernel) (Nat.le_of_ble_eq_true rfl) ?_
  refine x_iload_n (i := 1) d_St_refusalOfItem_0 rfl rfl ?_
  refine x_if_lt (tgt := 21) d_St_refusalOfItem_1 (by decide) (fun c1 => ?_) (fun c1 => ?_)
  · have h := if_t c1 h
    refine x_bi (v := -11) d_St_refusalOfItem_21 (by decide) ?_
    replace h := Option.some.inj h; subst h
    exact x_iret rfl d_St_refusalOfItem_23 (Nat.le_refl 0) (Nat.le_refl 0)
  · have h := if_f c1 h
    refine x_iload_n (i := 1) d_St_refusalOfItem_4 rfl rfl ?_
    refine x_aload_n (i := 0) d_St_refusalOfItem_5 rfl rfl ?_
    refine x_getI (f := 72) gl_St_18_9 rfl kf_72 oa d_St_refusalOfItem_6 ?_
    refine x_cmp_ge (tgt := 21) d_St_refusalOfItem_9 (by decide) (fun c9 => ?_) (fun c9 => ?_)
    · have h := if_t c9 h
      refine x_bi (v := -11) d_St_refusalOfItem_21 (by decide) ?_
      replace h := Option.some.inj h; subst h
      exact x_iret rfl d_St_refusalOfItem_23 (Nat.le_refl 0) (Nat.le_refl 0)
    · have h := if_f c9 h
      refine x_aload_n (i := 0) d_St_refusalOfItem_12 rfl rfl ?_
      refine x_getA (f := 78) gl_St_37_9 rfl (by rw [kf_78]; decide) oa d_St_refusalOfItem_13 ?_
      refine x_iload_n (i := 1) d_St_refusalOfItem_16 rfl rfl ?_
      obtain ⟨g17, h⟩ := gd_e h
      refine x_iald (n := 3) kf_78 (oz_78 oa) (ln_78 _) g17 d_St_refusalOfItem_17 ?_
      refine x_if_ge (tgt := 24) d_St_refusalOfItem_18 (by decide) (fun c18 => ?_) (fun c18 => ?_)
      · have h := if_t c18 h
        refine x_iload_n (i := 2) d_St_refusalOfItem_24 rfl rfl ?_
        refine x_if_lt (tgt := 38) d_St_refusalOfItem_25 (by decide) (fun c25 => ?_) (fun c25 => ?_)
        · have h := if_t c25 h
          refine x_bi (v := -12) d_St_refusalOfItem_38 (by decide) ?_
          refine x_goto (tgt := 44) d_St_refusalOfItem_40 (by decide) ?_
          replace h := Option.some.inj h; subst h
          exact x_iret rfl d_St_refusalOfItem_44 (Nat.le_refl 0) (Nat.le_refl 0)
        · have h := if_f c25 h
          refine x_iload_n (i := 2) d_St_refusalOfItem_28 rfl rfl ?_
          refine x_aload_n (i := 0) d_St_refusalOfItem_29 rfl rfl ?_
          refine x_getA (f := 78) gl_St_37_9 rfl (by rw [kf_78]; decide) oa d_St_refusalOfItem_30 ?_
          refine x_iload_n (i := 1) d_St_refusalOfItem_33 rfl rfl ?_
          obtain ⟨g34, h⟩ := gd_e h
          refine x_iald (n := 3) kf_78 (oz_78 oa) (ln_78 _) g34 d_St_refusalOfItem_34 ?_
          refine x_cmp_lt (tgt := 43) d_St_refusalOfItem_35 (by decide) (fun c35 => ?_) (fun c35 => ?_)
          · have h := if_t c35 h
            refine x_ic (v := 0) d_St_refusalOfItem_43 (by decide) ?_
            replace h := Option.some.inj h; subst h
            exact x_iret rfl d_St_refusalOfItem_44 (Nat.le_refl 0) (Nat.le_refl 0)
          · have h := if_f c35 h
            refine x_bi (v := -12) d_St_refusalOfItem_38 (by decide) ?_
            refine x_goto (tgt := 44) d_St_refusalOfItem_40 (by decide) ?_
            replace h := Option.some.inj h; subst h
            exact x_iret rfl d_St_refusalOfItem_44 (Nat.le_refl 0) (Nat.le_refl 0)
      · have h := if_f c18 h
        refine x_bi (v := -11) d_St_refusalOfItem_21 (by decide) ?_
        replace h := Option.some.inj h; subst h
        exact x_iret rfl d_St_refusalOfItem_23 (Nat.le_refl 0) (Nat.le_refl 0)
-- BlockStage$Stage.itemAt(II)I
theorem d_St_itemAt_0 : decode M_St_itemAt.2.1 0 = .ok (.iload_n 1, 1) := by decide +kernel
theorem d_St_itemAt_1 : decode M_St_itemAt.2.1 1 = .ok (.ifCond .lt 25, 3) := by decide +kernel
theorem d_St_itemAt_4 : decode M_St_itemAt.2.1 4 = .ok (.iload_n 1, 1) := by decide +kernel
theorem d_St_itemAt_5 : decode M_St_itemAt.2.1 5 = .ok (.aload_n 0, 1) := by decide +kernel
theorem d_St_itemAt_6 : decode M_St_itemAt.2.1 6 = .ok (.getfield 18, 3) := by decide +kernel
theorem d_St_itemAt_9 : decode M_St_itemAt.2.1 9 = .ok (.if_icmp .ge 17, 3) := by decide +kernel
theorem d_St_itemAt_12 : decode M_St_itemAt.2.1 12 = .ok (.iload_n 2, 1) := by decide +kernel
theorem d_St_itemAt_13 : decode M_St_itemAt.2.1 13 = .ok (.ifCond .lt 13, 3) := by decide +kernel
theorem d_St_itemAt_16 : decode M_St_itemAt.2.1 16 = .ok (.iload_n 2, 1) := by decide +kernel
theorem d_St_itemAt_17 : decode M_St_itemAt.2.1 17 = .ok (.aload_n 0, 1) := by decide +kernel
theorem d_St_itemAt_18 : decode M_St_itemAt.2.1 18 = .ok (.getfield 37, 3) := by decide +kernel
theorem d_St_itemAt_21 : decode M_St_itemAt.2.1 21 = .ok (.iload_n 1, 1) := by decide +kernel
theorem d_St_itemAt_22 : decode M_St_itemAt.2.1 22 = .ok (.iaload, 1) := by decide +kernel
theorem d_St_itemAt_23 : decode M_St_itemAt.2.1 23 = .ok (.if_icmp .lt 6, 3) := by decide +kernel
theorem d_St_itemAt_26 : decode M_St_itemAt.2.1 26 = .ok (.ldc 76, 2) := by decide +kernel
theorem d_St_itemAt_28 : decode M_St_itemAt.2.1 28 = .ok (.ireturn, 1) := by decide +kernel
theorem d_St_itemAt_29 : decode M_St_itemAt.2.1 29 = .ok (.aload_n 0, 1) := by decide +kernel
theorem d_St_itemAt_30 : decode M_St_itemAt.2.1 30 = .ok (.getfield 40, 3) := by decide +kernel
theorem d_St_itemAt_33 : decode M_St_itemAt.2.1 33 = .ok (.iload_n 1, 1) := by decide +kernel
theorem d_St_itemAt_34 : decode M_St_itemAt.2.1 34 = .ok (.bipush 20, 2) := by decide +kernel
theorem d_St_itemAt_36 : decode M_St_itemAt.2.1 36 = .ok (.imul, 1) := by decide +kernel
theorem d_St_itemAt_37 : decode M_St_itemAt.2.1 37 = .ok (.iload_n 2, 1) := by decide +kernel
theorem d_St_itemAt_38 : decode M_St_itemAt.2.1 38 = .ok (.iadd, 1) := by decide +kernel
theorem d_St_itemAt_39 : decode M_St_itemAt.2.1 39 = .ok (.iaload, 1) := by decide +kernel
theorem d_St_itemAt_40 : decode M_St_itemAt.2.1 40 = .ok (.ireturn, 1) := by decide +kernel
def F_St_itemAt (a : Nat) (x1 : Int32) (x2 : Int32) (δ : Dl) : Option (Int32) :=
  if x1 < 0 then (some (-2147483648)) else (if (δ.1 72 a) ≤ x1 then (some (-2147483648)) else (if x2 < 0 then (some (-2147483648)) else (if inb x1 3 then if x2 < (δ.2.1 78 a x1) then (if inb ((x1 * 20) + x2) 60 then some (δ.2.1 79 a ((x1 * 20) + x2)) else none) else (some (-2147483648)) else none)))
set_option maxRecDepth 20000 in
set_option maxHeartbeats 4000000 in
theorem c_St_itemAt {l : Launch} {Γ : Gm} (hG : GC Γ) (a : Nat) (x1 : Int32) (x2 : Int32) (ha : Oc a 9) (δ : Dl) (r : Int32) (h : F_St_itemAt a x1 x2  δ = some r) : Ct l M_St_itemAt 0 0 0 NF [.inr (0, a), .inl x1, .inl x2] Γ δ (some (.inl r), Γ, δ) := by
  unfold F_St_itemAt at h
  have oa := hG.ob ha
  refine Ct.of2 (n := 0) (ls := [some (.inr (0, a)), some (.inl x1), some (.inl x2)]) rfl (by decide +kernel) (Nat.le_of_ble_eq_true rfl) ?_
  refine x_iload_n (i := 1) d_St_itemAt_0 rfl rfl ?_
  refine x_if_lt (tgt := 26) d_St_itemAt_1 (by decide) (fun c1 => ?_) (fun c1 => ?_)
  · have h := if_t c1 h
    refine x_ldc (v := -2147483648) kc_St_76 d_St_itemAt_26 ?_
    replace h := Option.some.inj h; subst h
    exact x_iret rfl d_St_itemAt_28 (Nat.le_refl 0) (Nat.le_refl 0)
  · have h := if_f c1 h
    refine x_iload_n (i := 1) d_St_itemAt_4 rfl rfl ?_
    refine x_aload_n (i := 0) d_St_itemAt_5 rfl rfl ?_
    refine x_getI (f := 72) gl_St_18_9 rfl kf_72 oa d_St_itemAt_6 ?_
    refine x_cmp_ge (tgt := 26) d_St_itemAt_9 (by decide) (fun c9 => ?_) (fun c9 => ?_)
    · have h := if_t c9 h
      refine x_ldc (v := -2147483648) kc_St_76 d_St_itemAt_26 ?_
      replace h := Option.some.inj h; subst h
      exact x_iret rfl d_St_itemAt_28 (Nat.le_refl 0) (Nat.le_refl 0)
    · have h := if_f c9 h
      refine x_iload_n (i := 2) d_St_itemAt_12 rfl rfl ?_
      refine x_if_lt (tgt := 26) d_St_itemAt_13 (by decide) (fun c13 => ?_) (fun c13 => ?_)
      · have h := if_t c13 h
        refine x_ldc (v := -2147483648) kc_St_76 d_St_itemAt_26 ?_
        replace h := Option.some.inj h; subst h
        exact x_iret rfl d_St_itemAt_28 (Nat.le_refl 0) (Nat.le_refl 0)
      · have h := if_f c13 h
        refine x_iload_n (i := 2) d_St_itemAt_16 rfl rfl ?_
        refine x_aload_n (i := 0) d_St_itemAt_17 rfl rfl ?_
        refine x_getA (f := 78) gl_St_37_9 rfl (by rw [kf_78]; decide) oa d_St_itemAt_18 ?_
        refine x_iload_n (i := 1) d_St_itemAt_21 rfl rfl ?_
        obtain ⟨g22, h⟩ := gd_e h
        refine x_iald (n := 3) kf_78 (oz_78 oa) (ln_78 _) g22 d_St_itemAt_22 ?_
        refine x_cmp_lt (tgt := 29) d_St_itemAt_23 (by decide) (fun c23 => ?_) (fun c23 => ?_)
        · have h := if_t c23 h
          refine x_aload_n (i := 0) d_St_itemAt_29 rfl rfl ?_
          refine x_getA (f := 79) gl_St_40_9 rfl (by rw [kf_79]; decide) oa d_St_itemAt_30 ?_
          refine x_iload_n (i := 1) d_St_itemAt_33 rfl rfl ?_
          refine x_bi (v := 20) d_St_itemAt_34 (by decide) ?_
          refine x_imul d_St_itemAt_36 ?_
          refine x_iload_n (i := 2) d_St_itemAt_37 rfl rfl ?_
          refine x_iadd d_St_itemAt_38 ?_
          obtain ⟨g39, h⟩ := gd_e h
          refine x_iald (n := 60) kf_79 (oz_79 oa) (ln_79 _) g39 d_St_itemAt_39 ?_
          replace h := Option.some.inj h; subst h
          exact x_iret rfl d_St_itemAt_40 (Nat.le_refl 0) (Nat.le_refl 0)
        · have h := if_f c23 h
          refine x_ldc (v := -2147483648) kc_St_76 d_St_itemAt_26 ?_
          replace h := Option.some.inj h; subst h
          exact x_iret rfl d_St_itemAt_28 (Nat.le_refl 0) (Nat.le_refl 0)
-- BlockStage$Stage.setItem(III)V
theorem d_St_setItem_0 : decode M_St_setItem.2.1 0 = .ok (.iload_n 1, 1) := by decide +kernel
theorem d_St_setItem_1 : decode M_St_setItem.2.1 1 = .ok (.ifCond .lt 25, 3) := by decide +kernel
theorem d_St_setItem_4 : decode M_St_setItem.2.1 4 = .ok (.iload_n 1, 1) := by decide +kernel
theorem d_St_setItem_5 : decode M_St_setItem.2.1 5 = .ok (.aload_n 0, 1) := by decide +kernel
theorem d_St_setItem_6 : decode M_St_setItem.2.1 6 = .ok (.getfield 18, 3) := by decide +kernel
theorem d_St_setItem_9 : decode M_St_setItem.2.1 9 = .ok (.if_icmp .ge 17, 3) := by decide +kernel
theorem d_St_setItem_12 : decode M_St_setItem.2.1 12 = .ok (.iload_n 2, 1) := by decide +kernel
theorem d_St_setItem_13 : decode M_St_setItem.2.1 13 = .ok (.ifCond .lt 13, 3) := by decide +kernel
theorem d_St_setItem_16 : decode M_St_setItem.2.1 16 = .ok (.iload_n 2, 1) := by decide +kernel
theorem d_St_setItem_17 : decode M_St_setItem.2.1 17 = .ok (.aload_n 0, 1) := by decide +kernel
theorem d_St_setItem_18 : decode M_St_setItem.2.1 18 = .ok (.getfield 37, 3) := by decide +kernel
theorem d_St_setItem_21 : decode M_St_setItem.2.1 21 = .ok (.iload_n 1, 1) := by decide +kernel
theorem d_St_setItem_22 : decode M_St_setItem.2.1 22 = .ok (.iaload, 1) := by decide +kernel
theorem d_St_setItem_23 : decode M_St_setItem.2.1 23 = .ok (.if_icmp .lt 4, 3) := by decide +kernel
theorem d_St_setItem_26 : decode M_St_setItem.2.1 26 = .ok (.return_, 1) := by decide +kernel
theorem d_St_setItem_27 : decode M_St_setItem.2.1 27 = .ok (.aload_n 0, 1) := by decide +kernel
theorem d_St_setItem_28 : decode M_St_setItem.2.1 28 = .ok (.getfield 40, 3) := by decide +kernel
theorem d_St_setItem_31 : decode M_St_setItem.2.1 31 = .ok (.iload_n 1, 1) := by decide +kernel
theorem d_St_setItem_32 : decode M_St_setItem.2.1 32 = .ok (.bipush 20, 2) := by decide +kernel
theorem d_St_setItem_34 : decode M_St_setItem.2.1 34 = .ok (.imul, 1) := by decide +kernel
theorem d_St_setItem_35 : decode M_St_setItem.2.1 35 = .ok (.iload_n 2, 1) := by decide +kernel
theorem d_St_setItem_36 : decode M_St_setItem.2.1 36 = .ok (.iadd, 1) := by decide +kernel
theorem d_St_setItem_37 : decode M_St_setItem.2.1 37 = .ok (.iload_n 3, 1) := by decide +kernel
theorem d_St_setItem_38 : decode M_St_setItem.2.1 38 = .ok (.iastore, 1) := by decide +kernel
theorem d_St_setItem_39 : decode M_St_setItem.2.1 39 = .ok (.return_, 1) := by decide +kernel
def F_St_setItem (a : Nat) (x1 : Int32) (x2 : Int32) (x3 : Int32) (δ : Dl) : Option (Dl) :=
  if x1 < 0 then (some δ) else (if (δ.1 72 a) ≤ x1 then (some δ) else (if x2 < 0 then (some δ) else (if inb x1 3 then if x2 < (δ.2.1 78 a x1) then (if inb ((x1 * 20) + x2) 60 then bnd (sA δ 79 a ((x1 * 20) + x2) x3) fun δ38 => some δ38 else none) else (some δ) else none)))
set_option maxRecDepth 20000 in
set_option maxHeartbeats 4000000 in
theorem c_St_setItem {l : Launch} {Γ : Gm} (hG : GC Γ) (a : Nat) (x1 : Int32) (x2 : Int32) (x3 : Int32) (ha : Oc a 9) (δ : Dl) (r : Dl) (h : F_St_setItem a x1 x2 x3  δ = some r) : Ct l M_St_setItem 0 0 0 NF [.inr (0, a), .inl x1, .inl x2, .inl x3] Γ δ (none, Γ, r) := by
  unfold F_St_setItem at h
  have oa := hG.ob ha
  refine Ct.of2 (n := 0) (ls := [some (.inr (0, a)), some (.inl x1), some (.inl x2), some (.inl x3)]) rfl (by decide +kernel) (Nat.le_of_ble_eq_true rfl) ?_
  refine x_iload_n (i := 1) d_St_setItem_0 rfl rfl ?_
  refine x_if_lt (tgt := 26) d_St_setItem_1 (by decide) (fun c1 => ?_) (fun c1 => ?_)
  · have h := if_t c1 h
    replace h := Option.some.inj h; subst h
    exact x_vret rfl d_St_setItem_26 (Nat.le_refl 0) (Nat.le_refl 0)
  · have h := if_f c1 h
    refine x_iload_n (i := 1) d_St_setItem_4 rfl rfl ?_
    refine x_aload_n (i := 0) d_St_setItem_5 rfl rfl ?_
    refine x_getI (f := 72) gl_St_18_9 rfl kf_72 oa d_St_setItem_6 ?_
    refine x_cmp_ge (tgt := 26) d_St_setItem_9 (by decide) (fun c9 => ?_) (fun c9 => ?_)
    · have h := if_t c9 h
      replace h := Option.some.inj h; subst h
      exact x_vret rfl d_St_setItem_26 (Nat.le_refl 0) (Nat.le_refl 0)
    · have h := if_f c9 h
      refine x_iload_n (i := 2) d_St_setItem_12 rfl rfl ?_
      refine x_if_lt (tgt := 26) d_St_setItem_13 (by decide) (fun c13 => ?_) (fun c13 => ?_)
      · have h := if_t c13 h
        replace h := Option.some.inj h; subst h
        exact x_vret rfl d_St_setItem_26 (Nat.le_refl 0) (Nat.le_refl 0)
      · have h := if_f c13 h
        refine x_iload_n (i := 2) d_St_setItem_16 rfl rfl ?_
        refine x_aload_n (i := 0) d_St_setItem_17 rfl rfl ?_
        refine x_getA (f := 78) gl_St_37_9 rfl (by rw [kf_78]; decide) oa d_St_setItem_18 ?_
        refine x_iload_n (i := 1) d_St_setItem_21 rfl rfl ?_
        obtain ⟨g22, h⟩ := gd_e h
        refine x_iald (n := 3) kf_78 (oz_78 oa) (ln_78 _) g22 d_St_setItem_22 ?_
        refine x_cmp_lt (tgt := 27) d_St_setItem_23 (by decide) (fun c23 => ?_) (fun c23 => ?_)
        · have h := if_t c23 h
          refine x_aload_n (i := 0) d_St_setItem_27 rfl rfl ?_
          refine x_getA (f := 79) gl_St_40_9 rfl (by rw [kf_79]; decide) oa d_St_setItem_28 ?_
          refine x_iload_n (i := 1) d_St_setItem_31 rfl rfl ?_
          refine x_bi (v := 20) d_St_setItem_32 (by decide) ?_
          refine x_imul d_St_setItem_34 ?_
          refine x_iload_n (i := 2) d_St_setItem_35 rfl rfl ?_
          refine x_iadd d_St_setItem_36 ?_
          refine x_iload_n (i := 3) d_St_setItem_37 rfl rfl ?_
          obtain ⟨g38, h⟩ := gd_e h
          obtain ⟨δ38, eδ38, h⟩ := bn_e h
          refine x_iast (n := 60) kf_79 (oz_79 oa) (ln_79 _) g38 d_St_setItem_38 (Xe.cδ eδ38 ?_)
          replace h := Option.some.inj h; subst h
          exact x_vret rfl d_St_setItem_39 (Nat.le_refl 0) (Nat.le_refl 0)
        · have h := if_f c23 h
          replace h := Option.some.inj h; subst h
          exact x_vret rfl d_St_setItem_26 (Nat.le_refl 0) (Nat.le_refl 0)
