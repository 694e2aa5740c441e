/-! walks by program (wip/whole/gen.py): 12.sheets -/
abbrev M_Sh_isSheet : MM := (⟨RX7, "isSheet", "(I)Z"⟩, prog_9_method_2_code, 1, (some .boolean))
abbrev M_Sh_isSort : MM := (⟨RX7, "isSort", "(I)Z"⟩, prog_9_method_3_code, 1, (some .boolean))
abbrev M_Sh_sortOf : MM := (⟨RX7, "sortOf", "(I)I"⟩, prog_9_method_4_code, 2, (some .int))
abbrev M_Sh_isMissing : MM := (⟨RX7, "isMissing", "(I)Z"⟩, prog_9_method_5_code, 2, (some .boolean))
abbrev M_Sh_hasItems : MM := (⟨RX7, "hasItems", "(III)Z"⟩, prog_9_method_6_code, 4, (some .boolean))
abbrev M_Sh_remake : MM := (⟨RX7, "remake", "(III)V"⟩, prog_9_method_7_code, 4, none)
abbrev M_Sh_itemAt : MM := (⟨RX7, "itemAt", "(II)I"⟩, prog_9_method_8_code, 3, (some .int))
abbrev M_Sh_setItem : MM := (⟨RX7, "setItem", "(III)V"⟩, prog_9_method_9_code, 5, none)
abbrev M_Sh_move : MM := (⟨RX7, "move", "(IIIII)V"⟩, prog_9_method_10_code, 6, none)
-- BlockStage$Sheets.isSheet(I)Z
theorem d_Sh_isSheet_0 : decode M_Sh_isSheet.2.1 0 = .ok (.iload_n 0, 1) := by decide +kernel
theorem d_Sh_isSheet_1 : decode M_Sh_isSheet.2.1 1 = .ok (.ifCond .lt 12, 3) := by decide +kernel
theorem d_Sh_isSheet_4 : decode M_Sh_isSheet.2.1 4 = .ok (.iload_n 0, 1) := by decide +kernel
theorem d_Sh_isSheet_5 : decode M_Sh_isSheet.2.1 5 = .ok (.iconst 3, 1) := by decide +kernel
theorem d_Sh_isSheet_6 : decode M_Sh_isSheet.2.1 6 = .ok (.if_icmp .ge 7, 3) := by decide +kernel
theorem d_Sh_isSheet_9 : decode M_Sh_isSheet.2.1 9 = .ok (.iconst 1, 1) := by decide +kernel
theorem d_Sh_isSheet_10 : decode M_Sh_isSheet.2.1 10 = .ok (.goto 4, 3) := by decide +kernel
theorem d_Sh_isSheet_13 : decode M_Sh_isSheet.2.1 13 = .ok (.iconst 0, 1) := by decide +kernel
theorem d_Sh_isSheet_14 : decode M_Sh_isSheet.2.1 14 = .ok (.ireturn, 1) := by decide +kernel
def F_Sh_isSheet (x0 : Int32) : Int32 :=
  if x0 < 0 then 0 else (if 3 ≤ x0 then 0 else 1)
set_option maxRecDepth 20000 in
set_option maxHeartbeats 4000000 in
theorem c_Sh_isSheet {l : Launch} {Γ : Gm} (x0 : Int32) (δ : Dl) (r : Int32) (h : F_Sh_isSheet x0  = r) : Ct l M_Sh_isSheet 0 0 0 NF [.inl x0] Γ δ (some (.inl r), Γ, δ) := by
  unfold F_Sh_isSheet at h
  refine Ct.of2 (n := 0) (ls := [some (.inl x0)]) rfl (by decide +kernel) (Nat.le_of_ble_eq_true rfl) ?_
  refine x_iload_n (i := 0) d_Sh_isSheet_0 rfl rfl ?_
  refine x_if_lt (tgt := 13) d_Sh_isSheet_1 (by decide) (fun c1 => ?_) (fun c1 => ?_)
  · have h := if_t c1 h
    refine x_ic (v := 0) d_Sh_isSheet_13 (by decide) ?_
    subst h
    exact x_nret rfl rfl d_Sh_isSheet_14 (Nat.le_refl 0) (Nat.le_refl 0)
  · have h := if_f c1 h
    refine x_iload_n (i := 0) d_Sh_isSheet_4 rfl rfl ?_
    refine x_ic (v := 3) d_Sh_isSheet_5 (by decide) ?_
    refine x_cmp_ge (tgt := 13) d_Sh_isSheet_6 (by decide) (fun c6 => ?_) (fun c6 => ?_)
    · have h := if_t c6 h
      refine x_ic (v := 0) d_Sh_isSheet_13 (by decide) ?_
      subst h
      exact x_nret rfl rfl d_Sh_isSheet_14 (Nat.le_refl 0) (Nat.le_refl 0)
    · have h := if_f c6 h
      refine x_ic (v := 1) d_Sh_isSheet_9 (by decide) ?_
      refine x_goto (tgt := 14) d_Sh_isSheet_10 (by decide) ?_
      subst h
      exact x_nret rfl rfl d_Sh_isSheet_14 (Nat.le_refl 0) (Nat.le_refl 0)
theorem b_Sh_isSheet {x0 : Int32} : F_Sh_isSheet x0  = 0 ∨ F_Sh_isSheet x0  = 1 := by
  unfold F_Sh_isSheet
  try dsimp only [bnd]
  repeat' split
  all_goals first | exact Or.inl rfl | exact Or.inr rfl
-- BlockStage$Sheets.isSort(I)Z
theorem d_Sh_isSort_0 : decode M_Sh_isSort.2.1 0 = .ok (.iload_n 0, 1) := by decide +kernel
theorem d_Sh_isSort_1 : decode M_Sh_isSort.2.1 1 = .ok (.ifCond .lt 12, 3) := by decide +kernel
theorem d_Sh_isSort_4 : decode M_Sh_isSort.2.1 4 = .ok (.iload_n 0, 1) := by decide +kernel
theorem d_Sh_isSort_5 : decode M_Sh_isSort.2.1 5 = .ok (.iconst 3, 1) := by decide +kernel
theorem d_Sh_isSort_6 : decode M_Sh_isSort.2.1 6 = .ok (.if_icmp .ge 7, 3) := by decide +kernel
theorem d_Sh_isSort_9 : decode M_Sh_isSort.2.1 9 = .ok (.iconst 1, 1) := by decide +kernel
theorem d_Sh_isSort_10 : decode M_Sh_isSort.2.1 10 = .ok (.goto 4, 3) := by decide +kernel
theorem d_Sh_isSort_13 : decode M_Sh_isSort.2.1 13 = .ok (.iconst 0, 1) := by decide +kernel
theorem d_Sh_isSort_14 : decode M_Sh_isSort.2.1 14 = .ok (.ireturn, 1) := by decide +kernel
def F_Sh_isSort (x0 : Int32) : Int32 :=
  if x0 < 0 then 0 else (if 3 ≤ x0 then 0 else 1)
set_option maxRecDepth 20000 in
set_option maxHeartbeats 4000000 in
theorem c_Sh_isSort {l : Launch} {Γ : Gm} (x0 : Int32) (δ : Dl) (r : Int32) (h : F_Sh_isSort x0  = r) : Ct l M_Sh_isSort 0 0 0 NF [.inl x0] Γ δ (some (.inl r), Γ, δ) := by
  unfold F_Sh_isSort at h
  refine Ct.of2 (n := 0) (ls := [some (.inl x0)]) rfl (by decide +kernel) (Nat.le_of_ble_eq_true rfl) ?_
  refine x_iload_n (i := 0) d_Sh_isSort_0 rfl rfl ?_
  refine x_if_lt (tgt := 13) d_Sh_isSort_1 (by decide) (fun c1 => ?_) (fun c1 => ?_)
  · have h := if_t c1 h
    refine x_ic (v := 0) d_Sh_isSort_13 (by decide) ?_
    subst h
    exact x_nret rfl rfl d_Sh_isSort_14 (Nat.le_refl 0) (Nat.le_refl 0)
  · have h := if_f c1 h
    refine x_iload_n (i := 0) d_Sh_isSort_4 rfl rfl ?_
    refine x_ic (v := 3) d_Sh_isSort_5 (by decide) ?_
    refine x_cmp_ge (tgt := 13) d_Sh_isSort_6 (by decide) (fun c6 => ?_) (fun c6 => ?_)
    · have h := if_t c6 h
      refine x_ic (v := 0) d_Sh_isSort_13 (by decide) ?_
      subst h
      exact x_nret rfl rfl d_Sh_isSort_14 (Nat.le_refl 0) (Nat.le_refl 0)
    · have h := if_f c6 h
      refine x_ic (v := 1) d_Sh_isSort_9 (by decide) ?_
      refine x_goto (tgt := 14) d_Sh_isSort_10 (by decide) ?_
      subst h
      exact x_nret rfl rfl d_Sh_isSort_14 (Nat.le_refl 0) (Nat.le_refl 0)
theorem b_Sh_isSort {x0 : Int32} : F_Sh_isSort x0  = 0 ∨ F_Sh_isSort x0  = 1 := by
  unfold F_Sh_isSort
  try dsimp only [bnd]
  repeat' split
  all_goals first | exact Or.inl rfl | exact Or.inr rfl
-- BlockStage$Sheets.sortOf(I)I
theorem d_Sh_sortOf_0 : decode M_Sh_sortOf.2.1 0 = .ok (.iload_n 1, 1) := by decide +kernel
theorem d_Sh_sortOf_1 : decode M_Sh_sortOf.2.1 1 = .ok (.ifCond .lt 17, 3) := by decide +kernel
theorem d_Sh_sortOf_4 : decode M_Sh_sortOf.2.1 4 = .ok (.iload_n 1, 1) := by decide +kernel
theorem d_Sh_sortOf_5 : decode M_Sh_sortOf.2.1 5 = .ok (.iconst 3, 1) := by decide +kernel
theorem d_Sh_sortOf_6 : decode M_Sh_sortOf.2.1 6 = .ok (.if_icmp .ge 12, 3) := by decide +kernel
theorem d_Sh_sortOf_9 : decode M_Sh_sortOf.2.1 9 = .ok (.aload_n 0, 1) := by decide +kernel
theorem d_Sh_sortOf_10 : decode M_Sh_sortOf.2.1 10 = .ok (.getfield 9, 3) := by decide +kernel
theorem d_Sh_sortOf_13 : decode M_Sh_sortOf.2.1 13 = .ok (.iload_n 1, 1) := by decide +kernel
theorem d_Sh_sortOf_14 : decode M_Sh_sortOf.2.1 14 = .ok (.iaload, 1) := by decide +kernel
theorem d_Sh_sortOf_15 : decode M_Sh_sortOf.2.1 15 = .ok (.goto 4, 3) := by decide +kernel
theorem d_Sh_sortOf_18 : decode M_Sh_sortOf.2.1 18 = .ok (.iconst (-1), 1) := by decide +kernel
theorem d_Sh_sortOf_19 : decode M_Sh_sortOf.2.1 19 = .ok (.ireturn, 1) := by decide +kernel
theorem gl_Sh_9_7 : GL RX7 9 7 0 := ⟨RX7, TX7, 3, RX7, rfl, by decide, (lwg_at 225 (by decide +kernel) rfl), Or.inl rfl, gl_w inX7⟩
def F_Sh_sortOf (a : Nat) (x1 : Int32) (δ : Dl) : Option (Int32) :=
  if x1 < 0 then (some (-1)) else (if 3 ≤ x1 then (some (-1)) else (if inb x1 3 then some (δ.2.1 60 a x1) else none))
set_option maxRecDepth 20000 in
set_option maxHeartbeats 4000000 in
theorem c_Sh_sortOf {l : Launch} {Γ : Gm} (hG : GC Γ) (a : Nat) (x1 : Int32) (ha : Oc a 7) (δ : Dl) (r : Int32) (h : F_Sh_sortOf a x1  δ = some r) : Ct l M_Sh_sortOf 0 0 0 NF [.inr (0, a), .inl x1] Γ δ (some (.inl r), Γ, δ) := by
  unfold F_Sh_sortOf at h
  have oa := hG.ob ha
  refine Ct.of2 (n := 0) (ls := [some (.inr (0, a)), some (.inl x1)]) rfl (by decide +kernel) (Nat.le_of_ble_eq_true rfl) ?_
  refine x_iload_n (i := 1) d_Sh_sortOf_0 rfl rfl ?_
  refine x_if_lt (tgt := 18) d_Sh_sortOf_1 (by decide) (fun c1 => ?_) (fun c1 => ?_)
  · have h := if_t c1 h
    refine x_ic (v := -1) d_Sh_sortOf_18 (by decide) ?_
    replace h := Option.some.inj h; subst h
    exact x_iret rfl d_Sh_sortOf_19 (Nat.le_refl 0) (Nat.le_refl 0)
  · have h := if_f c1 h
    refine x_iload_n (i := 1) d_Sh_sortOf_4 rfl rfl ?_
    refine x_ic (v := 3) d_Sh_sortOf_5 (by decide) ?_
    refine x_cmp_ge (tgt := 18) d_Sh_sortOf_6 (by decide) (fun c6 => ?_) (fun c6 => ?_)
    · have h := if_t c6 h
      refine x_ic (v := -1) d_Sh_sortOf_18 (by decide) ?_
      replace h := Option.some.inj h; subst h
      exact x_iret rfl d_Sh_sortOf_19 (Nat.le_refl 0) (Nat.le_refl 0)
    · have h := if_f c6 h
      refine x_aload_n (i := 0) d_Sh_sortOf_9 rfl rfl ?_
      refine x_getA (f := 60) gl_Sh_9_7 rfl (by rw [kf_60]; decide) oa d_Sh_sortOf_10 ?_
      refine x_iload_n (i := 1) d_Sh_sortOf_13 rfl rfl ?_
      obtain ⟨g14, h⟩ := gd_e h
      refine x_iald (n := 3) kf_60 (oz_60 oa) (ln_60 _) g14 d_Sh_sortOf_14 ?_
      refine x_goto (tgt := 19) d_Sh_sortOf_15 (by decide) ?_
      replace h := Option.some.inj h; subst h
      exact x_iret rfl d_Sh_sortOf_19 (Nat.le_refl 0) (Nat.le_refl 0)
-- BlockStage$Sheets.isMissing(I)Z
theorem d_Sh_isMissing_0 : decode M_Sh_isMissing.2.1 0 = .ok (.aload_n 0, 1) := by decide +kernel
theorem d_Sh_isMissing_1 : decode M_Sh_isMissing.2.1 1 = .ok (.iload_n 1, 1) := by decide +kernel
theorem d_Sh_isMissing_2 : decode M_Sh_isMissing.2.1 2 = .ok (.invokevirtual 19, 3) := by decide +kernel
theorem d_Sh_isMissing_5 : decode M_Sh_isMissing.2.1 5 = .ok (.iconst (-1), 1) := by decide +kernel
theorem d_Sh_isMissing_6 : decode M_Sh_isMissing.2.1 6 = .ok (.if_icmp .ne 7, 3) := by decide +kernel
theorem d_Sh_isMissing_9 : decode M_Sh_isMissing.2.1 9 = .ok (.iconst 1, 1) := by decide +kernel
theorem d_Sh_isMissing_10 : decode M_Sh_isMissing.2.1 10 = .ok (.goto 4, 3) := by decide +kernel
theorem d_Sh_isMissing_13 : decode M_Sh_isMissing.2.1 13 = .ok (.iconst 0, 1) := by decide +kernel
theorem d_Sh_isMissing_14 : decode M_Sh_isMissing.2.1 14 = .ok (.ireturn, 1) := by decide +kernel
theorem mi_Sh_sortOf : MI M_Sh_sortOf 1 := ⟨(lwg_at 9 (by decide +kernel) rfl), (lwg_at 337 (by decide +kernel) rfl), ⟨by decide +kernel, by decide +kernel⟩, by decide +kernel, by decide⟩
theorem cs_Sh_19 : CV RX7 19 RX7 M_Sh_sortOf 1 := ⟨(lwg_at 334 (by decide +kernel) rfl), (lwg_at 335 (by decide +kernel) rfl), (lwg_at 336 (by decide +kernel) rfl), mi_Sh_sortOf⟩
def F_Sh_isMissing (a : Nat) (x1 : Int32) (δ : Dl) : Option (Int32) :=
  (F_Sh_sortOf a x1 δ).bind fun v2 => if v2 = (-1) then (some 1) else (some 0)
set_option maxRecDepth 20000 in
set_option maxHeartbeats 4000000 in
theorem c_Sh_isMissing {l : Launch} {Γ : Gm} (hG : GC Γ) (a : Nat) (x1 : Int32) (ha : Oc a 7) (δ : Dl) (r : Int32) (h : F_Sh_isMissing a x1  δ = some r) : Ct l M_Sh_isMissing 1 0 0 NF [.inr (0, a), .inl x1] Γ δ (some (.inl r), Γ, δ) := by
  unfold F_Sh_isMissing at h
  have oa := hG.ob ha
  refine Ct.of2 (n := 0) (ls := [some (.inr (0, a)), some (.inl x1)]) rfl (by decide +kernel) (Nat.le_of_ble_eq_true rfl) ?_
  refine x_aload_n (i := 0) d_Sh_isMissing_0 rfl rfl ?_
  refine x_iload_n (i := 1) d_Sh_isMissing_1 rfl rfl ?_
  obtain ⟨v2, ev2, h⟩ := bd_e h
  refine y_V1 cs_Sh_19 rfl oa (by first | decide | omega) (Nat.le_of_ble_eq_true rfl) d_Sh_isMissing_2 (c_Sh_sortOf hG a x1 ha δ v2 ev2) (Nat.le_refl 0) (Nat.le_refl 0) ?_
  refine x_ic (v := -1) d_Sh_isMissing_5 (by decide) ?_
  refine x_cmp_ne (tgt := 13) d_Sh_isMissing_6 (by decide) (fun c6 => ?_) (fun c6 => ?_)
  · have h := if_f c6 h
    refine x_ic (v := 0) d_Sh_isMissing_13 (by decide) ?_
    replace h := Option.some.inj h; subst h
    exact x_nret rfl rfl d_Sh_isMissing_14 (Nat.le_refl 0) (Nat.le_refl 0)
  · have h := if_t c6 h
    refine x_ic (v := 1) d_Sh_isMissing_9 (by decide) ?_
    refine x_goto (tgt := 14) d_Sh_isMissing_10 (by decide) ?_
    replace h := Option.some.inj h; subst h
    exact x_nret rfl rfl d_Sh_isMissing_14 (Nat.le_refl 0) (Nat.le_refl 0)
-- BlockStage$Sheets.hasItems(III)Z
theorem d_Sh_hasItems_0 : decode M_Sh_hasItems.2.1 0 = .ok (.iload_n 1, 1) := by decide +kernel
theorem d_Sh_hasItems_1 : decode M_Sh_hasItems.2.1 1 = .ok (.ifCond .lt 16, 3) := by decide +kernel
theorem d_Sh_hasItems_4 : decode M_Sh_hasItems.2.1 4 = .ok (.iload_n 1, 1) := by decide +kernel
theorem d_Sh_hasItems_5 : decode M_Sh_hasItems.2.1 5 = .ok (.iconst 3, 1) := by decide +kernel
theorem d_Sh_hasItems_6 : decode M_Sh_hasItems.2.1 6 = .ok (.if_icmp .ge 11, 3) := by decide +kernel
theorem d_Sh_hasItems_9 : decode M_Sh_hasItems.2.1 9 = .ok (.iload_n 2, 1) := by decide +kernel
theorem d_Sh_hasItems_10 : decode M_Sh_hasItems.2.1 10 = .ok (.ifCond .lt 7, 3) := by decide +kernel
theorem d_Sh_hasItems_13 : decode M_Sh_hasItems.2.1 13 = .ok (.iload_n 3, 1) := by decide +kernel
theorem d_Sh_hasItems_14 : decode M_Sh_hasItems.2.1 14 = .ok (.ifCond .ge 5, 3) := by decide +kernel
theorem d_Sh_hasItems_17 : decode M_Sh_hasItems.2.1 17 = .ok (.iconst 0, 1) := by decide +kernel
theorem d_Sh_hasItems_18 : decode M_Sh_hasItems.2.1 18 = .ok (.ireturn, 1) := by decide +kernel
theorem d_Sh_hasItems_19 : decode M_Sh_hasItems.2.1 19 = .ok (.iload_n 2, 1) := by decide +kernel
theorem d_Sh_hasItems_20 : decode M_Sh_hasItems.2.1 20 = .ok (.aload_n 0, 1) := by decide +kernel
theorem d_Sh_hasItems_21 : decode M_Sh_hasItems.2.1 21 = .ok (.getfield 13, 3) := by decide +kernel
theorem d_Sh_hasItems_24 : decode M_Sh_hasItems.2.1 24 = .ok (.iload_n 1, 1) := by decide +kernel
theorem d_Sh_hasItems_25 : decode M_Sh_hasItems.2.1 25 = .ok (.iaload, 1) := by decide +kernel
theorem d_Sh_hasItems_26 : decode M_Sh_hasItems.2.1 26 = .ok (.if_icmp .gt 19, 3) := by decide +kernel
theorem d_Sh_hasItems_29 : decode M_Sh_hasItems.2.1 29 = .ok (.iload_n 3, 1) := by decide +kernel
theorem d_Sh_hasItems_30 : decode M_Sh_hasItems.2.1 30 = .ok (.aload_n 0, 1) := by decide +kernel
theorem d_Sh_hasItems_31 : decode M_Sh_hasItems.2.1 31 = .ok (.getfield 13, 3) := by decide +kernel
theorem d_Sh_hasItems_34 : decode M_Sh_hasItems.2.1 34 = .ok (.iload_n 1, 1) := by decide +kernel
theorem d_Sh_hasItems_35 : decode M_Sh_hasItems.2.1 35 = .ok (.iaload, 1) := by decide +kernel
theorem d_Sh_hasItems_36 : decode M_Sh_hasItems.2.1 36 = .ok (.iload_n 2, 1) := by decide +kernel
theorem d_Sh_hasItems_37 : decode M_Sh_hasItems.2.1 37 = .ok (.isub, 1) := by decide +kernel
theorem d_Sh_hasItems_38 : decode M_Sh_hasItems.2.1 38 = .ok (.if_icmp .gt 7, 3) := by decide +kernel
theorem d_Sh_hasItems_41 : decode M_Sh_hasItems.2.1 41 = .ok (.iconst 1, 1) := by decide +kernel
theorem d_Sh_hasItems_42 : decode M_Sh_hasItems.2.1 42 = .ok (.goto 4, 3) := by decide +kernel
theorem d_Sh_hasItems_45 : decode M_Sh_hasItems.2.1 45 = .ok (.iconst 0, 1) := by decide +kernel
theorem d_Sh_hasItems_46 : decode M_Sh_hasItems.2.1 46 = .ok (.ireturn, 1) := by decide +kernel
theorem gl_Sh_13_7 : GL RX7 13 7 1 := ⟨RX7, TX7, 3, RX7, rfl, by decide, (lwg_at 226 (by decide +kernel) rfl), Or.inl rfl, gl_w inX7⟩
def F_Sh_hasItems (a : Nat) (x1 : Int32) (x2 : Int32) (x3 : Int32) (δ : Dl) : Option (Int32) :=
  if x1 < 0 then (some 0) else (if 3 ≤ x1 then (some 0) else (if x2 < 0 then (some 0) else (if 0 ≤ x3 then (if inb x1 3 then if (δ.2.1 61 a x1) < x2 then (some 0) else (if inb x1 3 then if ((δ.2.1 61 a x1) - x2) < x3 then (some 0) else (some 1) else none) else none) else (some 0))))
set_option maxRecDepth 20000 in
set_option maxHeartbeats 4000000 in
theorem c_Sh_hasItems {l : Launch} {Γ : Gm} (hG : GC Γ) (a : Nat) (x1 : Int32) (x2 : Int32) (x3 : Int32) (ha : Oc a 7) (δ : Dl) (r : Int32) (h : F_Sh_hasItems a x1 x2 x3  δ = some r) : Ct l M_Sh_hasItems 0 0 0 NF [.inr (0, a), .inl x1, .inl x2, .inl x3] Γ δ (some (.inl r), Γ, δ) := by
  unfold F_Sh_hasItems at h
  have oa := hG.ob ha
  refine Ct.of2 (n := 0) (ls := [some (.inr (0, a)), some (.inl x1), some (.inl x2), some (.inl x3)]) rfl (by decide +kernel) (Nat.le_of_ble_eq_true rfl) ?_
  refine x_iload_n (i := 1) d_Sh_hasItems_0 rfl rfl ?_
  refine x_if_lt (tgt := 17) d_Sh_hasItems_1 (by decide) (fun c1 => ?_) (fun c1 => ?_)
  · have h := if_t c1 h
    refine x_ic (v := 0) d_Sh_hasItems_17 (by decide) ?_
    replace h := Option.some.inj h; subst h
    exact x_nret rfl rfl d_Sh_hasItems_18 (Nat.le_refl 0) (Nat.le_refl 0)
  · have h := if_f c1 h
    refine x_iload_n (i := 1) d_Sh_hasItems_4 rfl rfl ?_
    refine x_ic (v := 3) d_Sh_hasItems_5 (by decide) ?_
    refine x_cmp_ge (tgt := 17) d_Sh_hasItems_6 (by decide) (fun c6 => ?_) (fun c6 => ?_)
    · have h := if_t c6 h
      refine x_ic (v := 0) d_Sh_hasItems_17 (by decide) ?_
      replace h := Option.some.inj h; subst h
      exact x_nret rfl rfl d_Sh_hasItems_18 (Nat.le_refl 0) (Nat.le_refl 0)
    · have h := if_f c6 h
      refine x_iload_n (i := 2) d_Sh_hasItems_9 rfl rfl ?_
      refine x_if_lt (tgt := 17) d_Sh_hasItems_10 (by decide) (fun c10 => ?_) (fun c10 => ?_)
      · have h := if_t c10 h
        refine x_ic (v := 0) d_Sh_hasItems_17 (by decide) ?_
        replace h := Option.some.inj h; subst h
        exact x_nret rfl rfl d_Sh_hasItems_18 (Nat.le_refl 0) (Nat.le_refl 0)
      · have h := if_f c10 h
        refine x_iload_n (i := 3) d_Sh_hasItems_13 rfl rfl ?_
        refine x_if_ge (tgt := 19) d_Sh_hasItems_14 (by decide) (fun c14 => ?_) (fun c14 => ?_)
        · have h := if_t c14 h
          refine x_iload_n (i := 2) d_Sh_hasItems_19 rfl rfl ?_
          refine x_aload_n (i := 0) d_Sh_hasItems_20 rfl rfl ?_
          refine x_getA (f := 61) gl_Sh_13_7 rfl (by rw [kf_61]; decide) oa d_Sh_hasItems_21 ?_
          refine x_iload_n (i := 1) d_Sh_hasItems_24 rfl rfl ?_
          obtain ⟨g25, h⟩ := gd_e h
          refine x_iald (n := 3) kf_61 (oz_61 oa) (ln_61 _) g25 d_Sh_hasItems_25 ?_
          refine x_cmp_gt (tgt := 45) d_Sh_hasItems_26 (by decide) (fun c26 => ?_) (fun c26 => ?_)
          · have h := if_t c26 h
            refine x_ic (v := 0) d_Sh_hasItems_45 (by decide) ?_
            replace h := Option.some.inj h; subst h
            exact x_nret rfl rfl d_Sh_hasItems_46 (Nat.le_refl 0) (Nat.le_refl 0)
          · have h := if_f c26 h
            refine x_iload_n (i := 3) d_Sh_hasItems_29 rfl rfl ?_
            refine x_aload_n (i := 0) d_Sh_hasItems_30 rfl rfl ?_
            refine x_getA (f := 61) gl_Sh_13_7 rfl (by rw [kf_61]; decide) oa d_Sh_hasItems_31 ?_
            refine x_iload_n (i := 1) d_Sh_hasItems_34 rfl rfl ?_
            obtain ⟨g35, h⟩ := gd_e h
            refine x_iald (n := 3) kf_61 (oz_61 oa) (ln_61 _) g35 d_Sh_hasItems_35 ?_
            refine x_iload_n (i := 2) d_Sh_hasItems_36 rfl rfl ?_
            refine x_isub d_Sh_hasItems_37 ?_
            refine x_cmp_gt (tgt := 45) d_Sh_hasItems_38 (by decide) (fun c38 => ?_) (fun c38 => ?_)
            · have h := if_t c38 h
              refine x_ic (v := 0) d_Sh_hasItems_45 (by decide) ?_
              replace h := Option.some.inj h; subst h
              exact x_nret rfl rfl d_Sh_hasItems_46 (Nat.le_refl 0) (Nat.le_refl 0)
            · have h := if_f c38 h
              refine x_ic (v := 1) d_Sh_hasItems_41 (by decide) ?_
              refine x_goto (tgt := 46) d_Sh_hasItems_42 (by decide) ?_
              replace h := Option.some.inj h; subst h
              exact x_nret rfl rfl d_Sh_hasItems_46 (Nat.le_refl 0) (Nat.le_refl 0)
        · have h := if_f c14 h
          refine x_ic (v := 0) d_Sh_hasItems_17 (by decide) ?_
          replace h := Option.some.inj h; subst h
          exact x_nret rfl rfl d_Sh_hasItems_18 (Nat.le_refl 0) (Nat.le_refl 0)
-- BlockStage$Sheets.remake(III)V
theorem d_Sh_remake_0 : decode M_Sh_remake.2.1 0 = .ok (.iload_n 1, 1) := by decide +kernel
theorem d_Sh_remake_1 : decode M_Sh_remake.2.1 1 = .ok (.ifCond .lt 18, 3) := by decide +kernel
theorem d_Sh_remake_4 : decode M_Sh_remake.2.1 4 = .ok (.iload_n 1, 1) := by decide +kernel
theorem d_Sh_remake_5 : decode M_Sh_remake.2.1 5 = .ok (.iconst 3, 1) := by decide +kernel
theorem d_Sh_remake_6 : decode M_Sh_remake.2.1 6 = .ok (.if_icmp .ge 13, 3) := by decide +kernel
theorem d_Sh_remake_9 : decode M_Sh_remake.2.1 9 = .ok (.iload_n 3, 1) := by decide +kernel
theorem d_Sh_remake_10 : decode M_Sh_remake.2.1 10 = .ok (.ifCond .lt 9, 3) := by decide +kernel
theorem d_Sh_remake_13 : decode M_Sh_remake.2.1 13 = .ok (.iload_n 3, 1) := by decide +kernel
theorem d_Sh_remake_14 : decode M_Sh_remake.2.1 14 = .ok (.bipush 70, 2) := by decide +kernel
theorem d_Sh_remake_16 : decode M_Sh_remake.2.1 16 = .ok (.if_icmp .le 4, 3) := by decide +kernel
theorem d_Sh_remake_19 : decode M_Sh_remake.2.1 19 = .ok (.return_, 1) := by decide +kernel
theorem d_Sh_remake_20 : decode M_Sh_remake.2.1 20 = .ok (.aload_n 0, 1) := by decide +kernel
theorem d_Sh_remake_21 : decode M_Sh_remake.2.1 21 = .ok (.getfield 9, 3) := by decide +kernel
theorem d_Sh_remake_24 : decode M_Sh_remake.2.1 24 = .ok (.iload_n 1, 1) := by decide +kernel
theorem d_Sh_remake_25 : decode M_Sh_remake.2.1 25 = .ok (.iload_n 2, 1) := by decide +kernel
theorem d_Sh_remake_26 : decode M_Sh_remake.2.1 26 = .ok (.iastore, 1) := by decide +kernel
theorem d_Sh_remake_27 : decode M_Sh_remake.2.1 27 = .ok (.aload_n 0, 1) := by decide +kernel
theorem d_Sh_remake_28 : decode M_Sh_remake.2.1 28 = .ok (.getfield 13, 3) := by decide +kernel
theorem d_Sh_remake_31 : decode M_Sh_remake.2.1 31 = .ok (.iload_n 1, 1) := by decide +kernel
theorem d_Sh_remake_32 : decode M_Sh_remake.2.1 32 = .ok (.iload_n 3, 1) := by decide +kernel
theorem d_Sh_remake_33 : decode M_Sh_remake.2.1 33 = .ok (.iastore, 1) := by decide +kernel
theorem d_Sh_remake_34 : decode M_Sh_remake.2.1 34 = .ok (.aload_n 0, 1) := by decide +kernel
theorem d_Sh_remake_35 : decode M_Sh_remake.2.1 35 = .ok (.getfield 16, 3) := by decide +kernel
theorem d_Sh_remake_38 : decode M_Sh_remake.2.1 38 = .ok (.iload_n 1, 1) := by decide +kernel
theorem d_Sh_remake_39 : decode M_Sh_remake.2.1 39 = .ok (.bipush 70, 2) := by decide +kernel
theorem d_Sh_remake_41 : decode M_Sh_remake.2.1 41 = .ok (.imul, 1) := by decide +kernel
theorem d_Sh_remake_42 : decode M_Sh_remake.2.1 42 = .ok (.iload_n 1, 1) := by decide +kernel
theorem d_Sh_remake_43 : decode M_Sh_remake.2.1 43 = .ok (.bipush 70, 2) := by decide +kernel
theorem d_Sh_remake_45 : decode M_Sh_remake.2.1 45 = .ok (.imul, 1) := by decide +kernel
theorem d_Sh_remake_46 : decode M_Sh_remake.2.1 46 = .ok (.iload_n 3, 1) := by decide +kernel
theorem d_Sh_remake_47 : decode M_Sh_remake.2.1 47 = .ok (.iadd, 1) := by decide +kernel
theorem d_Sh_remake_48 : decode M_Sh_remake.2.1 48 = .ok (.iconst 0, 1) := by decide +kernel
theorem d_Sh_remake_49 : decode M_Sh_remake.2.1 49 = .ok (.invokestatic 23, 3) := by decide +kernel
theorem d_Sh_remake_52 : decode M_Sh_remake.2.1 52 = .ok (.return_, 1) := by decide +kernel
theorem gl_Sh_16_7 : GL RX7 16 7 2 := ⟨RX7, TX7, 3, RX7, rfl, by decide, (lwg_at 227 (by decide +kernel) rfl), Or.inl rfl, gl_w inX7⟩
theorem mi_Ar_fill4 : MI M_Ar_fill4 4 := ⟨(lwg_at 4 (by decide +kernel) rfl), (lwg_at 389 (by decide +kernel) rfl), ⟨by decide +kernel, by decide +kernel⟩, by decide +kernel, by decide⟩
theorem cs_Sh_23 : CS RX7 23 M_Ar_fill4 4 := ⟨(lwg_at 1087 (by decide +kernel) rfl), (lwg_at 388 (by decide +kernel) rfl), mi_Ar_fill4⟩
def F_Sh_remake (a : Nat) (x1 : Int32) (x2 : Int32) (x3 : Int32) (δ : Dl) : Option (Dl) :=
  if x1 < 0 then (some δ) else (if 3 ≤ x1 then (some δ) else (if x3 < 0 then (some δ) else (if x3 ≤ 70 then (if inb x1 3 then bnd (sA δ 60 a x1 x2) fun δ26 => if inb x1 3 then bnd (sA δ26 61 a x1 x3) fun δ33 => (F_Ar_fill4 62 a 210 (x1 * 70) ((x1 * 70) + x3) 0 δ33).bind fun δ49 => some δ49 else none else none) else (some δ))))
set_option maxRecDepth 20000 in
set_option maxHeartbeats 4000000 in
theorem c_Sh_remake {l : Launch} {Γ : Gm} (hG : GC Γ) (a : Nat) (x1 : Int32) (x2 : Int32) (x3 : Int32) (ha : Oc a 7) (δ : Dl) (r : Dl) (h : F_Sh_remake a x1 x2 x3  δ = some r) : Ct l M_Sh_remake 2 0 0 NF [.inr (0, a), .inl x1, .inl x2, .inl x3] Γ δ (none, Γ, r) := by
  unfold F_Sh_remake at h
  have oa := hG.ob ha
  refine Ct.of2 (n := 0) (ls := [some (.inr (0, a)), some (.inl x1), some (.inl x2), some (.inl x3)]) rfl (by decide +kernel) (Nat.le_of_ble_eq_true rfl) ?_
  refine x_iload_n (i := 1) d_Sh_remake_0 rfl rfl ?_
  refine x_if_lt (tgt := 19) d_Sh_remake_1 (by decide) (fun c1 => ?_) (fun c1 => ?_)
  · have h := if_t c1 h
    replace h := Option.some.inj h; subst h
    exact x_vret rfl d_Sh_remake_19 (Nat.le_refl 0) (Nat.le_refl 0)
  · have h := if_f c1 h
    refine x_iload_n (i := 1) d_Sh_remake_4 rfl rfl ?_
    refine x_ic (v := 3) d_Sh_remake_5 (by decide) ?_
    refine x_cmp_ge (tgt := 19) d_Sh_remake_6 (by decide) (fun c6 => ?_) (fun c6 => ?_)
    · have h := if_t c6 h
      replace h := Option.some.inj h; subst h
      exact x_vret rfl d_Sh_remake_19 (Nat.le_refl 0) (Nat.le_refl 0)
    · have h := if_f c6 h
      refine x_iload_n (i := 3) d_Sh_remake_9 rfl rfl ?_
      refine x_if_lt (tgt := 19) d_Sh_remake_10 (by decide) (fun c10 => ?_) (fun c10 => ?_)
      · have h := if_t c10 h
        replace h := Option.some.inj h; subst h
        exact x_vret rfl d_Sh_remake_19 (Nat.le_refl 0) (Nat.le_refl 0)
      · have h := if_f c10 h
        refine x_iload_n (i := 3) d_Sh_remake_13 rfl rfl ?_
        refine x_bi (v := 70) d_Sh_remake_14 (by decide) ?_
        refine x_cmp_le (tgt := 20) d_Sh_remake_16 (by decide) (fun c16 => ?_) (fun c16 => ?_)
        · have h := if_t c16 h
          refine x_aload_n (i := 0) d_Sh_remake_20 rfl rfl ?_
          refine x_getA (f := 60) gl_Sh_9_7 rfl (by rw [kf_60]; decide) oa d_Sh_remake_21 ?_
          refine x_iload_n (i := 1) d_Sh_remake_24 rfl rfl ?_
          refine x_iload_n (i := 2) d_Sh_remake_25 rfl rfl ?_
          obtain ⟨g26, h⟩ := gd_e h
          obtain ⟨δ26, eδ26, h⟩ := bn_e h
          refine x_iast (n := 3) kf_60 (oz_60 oa) (ln_60 _) g26 d_Sh_remake_26 (Xe.cδ eδ26 ?_)
          refine x_aload_n (i := 0) d_Sh_remake_27 rfl rfl ?_
          refine x_getA (f := 61) gl_Sh_13_7 rfl (by rw [kf_61]; decide) oa d_Sh_remake_28 ?_
          refine x_iload_n (i := 1) d_Sh_remake_31 rfl rfl ?_
          refine x_iload_n (i := 3) d_Sh_remake_32 rfl rfl ?_
          obtain ⟨g33, h⟩ := gd_e h
          obtain ⟨δ33, eδ33, h⟩ := bn_e h
          refine x_iast (n := 3) kf_61 (oz_61 oa) (ln_61 _) g33 d_Sh_remake_33 (Xe.cδ eδ33 ?_)
          refine x_aload_n (i := 0) d_Sh_remake_34 rfl rfl ?_
          refine x_getA (f := 62) gl_Sh_16_7 rfl (by rw [kf_62]; decide) oa d_Sh_remake_35 ?_
          refine x_iload_n (i := 1) d_Sh_remake_38 rfl rfl ?_
          refine x_bi (v := 70) d_Sh_remake_39 (by decide) ?_
          refine x_imul d_Sh_remake_41 ?_
          refine x_iload_n (i := 1) d_Sh_remake_42 rfl rfl ?_
          refine x_bi (v := 70) d_Sh_remake_43 (by decide) ?_
          refine x_imul d_Sh_remake_45 ?_
          refine x_iload_n (i := 3) d_Sh_remake_46 rfl rfl ?_
          refine x_iadd d_Sh_remake_47 ?_
          refine x_ic (v := 0) d_Sh_remake_48 (by decide) ?_
          obtain ⟨δ49, eδ49, h⟩ := bd_e h
          refine y_S4v cs_Sh_23 (by first | decide | omega) (Nat.le_of_ble_eq_true rfl) d_Sh_remake_49 (c_Ar_fill4 62 a 210 (x1 * 70) ((x1 * 70) + x3) 0 kf_62 (oz_62 oa) (ln_62 _) (lo_62 _) δ33 δ49 eδ49) (Nat.le_refl 0) (Nat.le_refl 0) ?_
          replace h := Option.some.inj h; subst h
          exact x_vret rfl d_Sh_remake_52 (Nat.le_refl 0) (Nat.le_refl 0)
        · have h := if_f c16 h
          replace h := Option.some.inj h; subst h
          exact x_vret rfl d_Sh_remake_19 (Nat.le_refl 0) (Nat.le_refl 0)
-- BlockStage$Sheets.itemAt(II)I
theorem d_Sh_itemAt_0 : decode M_Sh_itemAt.2.1 0 = .ok (.aload_n 0, 1) := by decide +kernel
theorem d_Sh_itemAt_1 : decode M_Sh_itemAt.2.1 1 = .ok (.iload_n 1, 1) := by decide +kernel
theorem d_Sh_itemAt_2 : decode M_Sh_itemAt.2.1 2 = .ok (.iload_n 2, 1) := by decide +kernel
theorem d_Sh_itemAt_3 : decode M_Sh_itemAt.2.1 3 = .ok (.iconst 1, 1) := by decide +kernel
theorem d_Sh_itemAt_4 : decode M_Sh_itemAt.2.1 4 = .ok (.invokevirtual 29, 3) := by decide +kernel
theorem d_Sh_itemAt_7 : decode M_Sh_itemAt.2.1 7 = .ok (.ifCond .eq 17, 3) := by decide +kernel
theorem d_Sh_itemAt_10 : decode M_Sh_itemAt.2.1 10 = .ok (.aload_n 0, 1) := by decide +kernel
theorem d_Sh_itemAt_11 : decode M_Sh_itemAt.2.1 11 = .ok (.getfield 16, 3) := by decide +kernel
theorem d_Sh_itemAt_14 : decode M_Sh_itemAt.2.1 14 = .ok (.iload_n 1, 1) := by decide +kernel
theorem d_Sh_itemAt_15 : decode M_Sh_itemAt.2.1 15 = .ok (.bipush 70, 2) := by decide +kernel
theorem d_Sh_itemAt_17 : decode M_Sh_itemAt.2.1 17 = .ok (.imul, 1) := by decide +kernel
theorem d_Sh_itemAt_18 : decode M_Sh_itemAt.2.1 18 = .ok (.iload_n 2, 1) := by decide +kernel
theorem d_Sh_itemAt_19 : decode M_Sh_itemAt.2.1 19 = .ok (.iadd, 1) := by decide +kernel
theorem d_Sh_itemAt_20 : decode M_Sh_itemAt.2.1 20 = .ok (.iaload, 1) := by decide +kernel
theorem d_Sh_itemAt_21 : decode M_Sh_itemAt.2.1 21 = .ok (.goto 4, 3) := by decide +kernel
theorem d_Sh_itemAt_24 : decode M_Sh_itemAt.2.1 24 = .ok (.iconst 0, 1) := by decide +kernel
theorem d_Sh_itemAt_25 : decode M_Sh_itemAt.2.1 25 = .ok (.ireturn, 1) := by decide +kernel
theorem mi_Sh_hasItems : MI M_Sh_hasItems 3 := ⟨(lwg_at 9 (by decide +kernel) rfl), (lwg_at 342 (by decide +kernel) rfl), ⟨by decide +kernel, by decide +kernel⟩, by decide +kernel, by decide⟩
theorem cs_Sh_29 : CV RX7 29 RX7 M_Sh_hasItems 3 := ⟨(lwg_at 351 (by decide +kernel) rfl), (lwg_at 340 (by decide +kernel) rfl), (lwg_at 341 (by decide +kernel) rfl), mi_Sh_hasItems⟩
def F_Sh_itemAt (a : Nat) (x1 : Int32) (x2 : Int32) (δ : Dl) : Option (Int32) :=
  (F_Sh_hasItems a x1 x2 1 δ).bind fun v4 => if v4 = 0 then (some 0) else (if inb ((x1 * 70) + x2) 210 then some (δ.2.1 62 a ((x1 * 70) + x2)) else none)
set_option maxRecDepth 20000 in
set_option maxHeartbeats 4000000 in
theorem c_Sh_itemAt {l : Launch} {Γ : Gm} (hG : GC Γ) (a : Nat) (x1 : Int32) (x2 : Int32) (ha : Oc a 7) (δ : Dl) (r : Int32) (h : F_Sh_itemAt a x1 x2  δ = some r) : Ct l M_Sh_itemAt 1 0 0 NF [.inr (0, a), .inl x1, .inl x2] Γ δ (some (.inl r), Γ, δ) := by
  unfold F_Sh_itemAt at h
  have oa := hG.ob ha
  refine Ct.of2 (n := 0) (ls := [some (.inr (0, a)), some (.inl x1), some (.inl x2)]) rfl (by decide +kernel) (Nat.le_of_ble_eq_true rfl) ?_
  refine x_aload_n (i := 0) d_Sh_itemAt_0 rfl rfl ?_
  refine x_iload_n (i := 1) d_Sh_itemAt_1 rfl rfl ?_
  refine x_iload_n (i := 2) d_Sh_itemAt_2 rfl rfl ?_
  refine x_ic (v := 1) d_Sh_itemAt_3 (by decide) ?_
  obtain ⟨v4, ev4, h⟩ := bd_e h
  refine y_V3 cs_Sh_29 rfl oa (by first | decide | omega) (Nat.le_of_ble_eq_true rfl) d_Sh_itemAt_4 (c_Sh_hasItems hG a x1 x2 1 ha δ v4 ev4) (Nat.le_refl 0) (Nat.le_refl 0) ?_
  refine x_if_eq (tgt := 24) d_Sh_itemAt_7 (by decide) (fun c7 => ?_) (fun c7 => ?_)
  · have h := if_t c7 h
    refine x_ic (v := 0) d_Sh_itemAt_24 (by decide) ?_
    replace h := Option.some.inj h; subst h
    exact x_iret rfl d_Sh_itemAt_25 (Nat.le_refl 0) (Nat.le_refl 0)
  · have h := if_f c7 h
    refine x_aload_n (i := 0) d_Sh_itemAt_10 rfl rfl ?_
    refine x_getA (f := 62) gl_Sh_16_7 rfl (by rw [kf_62]; decide) oa d_Sh_itemAt_11 ?_
    refine x_iload_n (i := 1) d_Sh_itemAt_14 rfl rfl ?_
    refine x_bi (v := 70) d_Sh_itemAt_15 (by decide) ?_
    refine x_imul d_Sh_itemAt_17 ?_
    refine x_iload_n (i := 2) d_Sh_itemAt_18 rfl rfl ?_
    refine x_iadd d_Sh_itemAt_19 ?_
    obtain ⟨g20, h⟩ := gd_e h
    refine x_iald (n := 210) kf_62 (oz_62 oa) (ln_62 _) g20 d_Sh_itemAt_20 ?_
    refine x_goto (tgt := 25) d_Sh_itemAt_21 (by decide) ?_
    replace h := Option.some.inj h; subst h
    exact x_iret rfl d_Sh_itemAt_25 (Nat.le_refl 0) (Nat.le_refl 0)
-- BlockStage$Sheets.setItem(III)V
theorem d_Sh_setItem_0 : decode M_Sh_setItem.2.1 0 = .ok (.aload_n 0, 1) := by decide +kernel
theorem d_Sh_setItem_1 : decode M_Sh_setItem.2.1 1 = .ok (.iload_n 1, 1) := by decide +kernel
theorem d_Sh_setItem_2 : decode M_Sh_setItem.2.1 2 = .ok (.iload_n 2, 1) := by decide +kernel
theorem d_Sh_setItem_3 : decode M_Sh_setItem.2.1 3 = .ok (.iconst 1, 1) := by decide +kernel
theorem d_Sh_setItem_4 : decode M_Sh_setItem.2.1 4 = .ok (.invokevirtual 29, 3) := by decide +kernel
theorem d_Sh_setItem_7 : decode M_Sh_setItem.2.1 7 = .ok (.ifCond .ne 4, 3) := by decide +kernel
theorem d_Sh_setItem_10 : decode M_Sh_setItem.2.1 10 = .ok (.return_, 1) := by decide +kernel
theorem d_Sh_setItem_11 : decode M_Sh_setItem.2.1 11 = .ok (.aload_n 0, 1) := by decide +kernel
theorem d_Sh_setItem_12 : decode M_Sh_setItem.2.1 12 = .ok (.iload_n 1, 1) := by decide +kernel
theorem d_Sh_setItem_13 : decode M_Sh_setItem.2.1 13 = .ok (.invokevirtual 19, 3) := by decide +kernel
theorem d_Sh_setItem_16 : decode M_Sh_setItem.2.1 16 = .ok (.istore 4, 2) := by decide +kernel
theorem d_Sh_setItem_18 : decode M_Sh_setItem.2.1 18 = .ok (.aload_n 0, 1) := by decide +kernel
theorem d_Sh_setItem_19 : decode M_Sh_setItem.2.1 19 = .ok (.getfield 16, 3) := by decide +kernel
theorem d_Sh_setItem_22 : decode M_Sh_setItem.2.1 22 = .ok (.iload_n 1, 1) := by decide +kernel
theorem d_Sh_setItem_23 : decode M_Sh_setItem.2.1 23 = .ok (.bipush 70, 2) := by decide +kernel
theorem d_Sh_setItem_25 : decode M_Sh_setItem.2.1 25 = .ok (.imul, 1) := by decide +kernel
theorem d_Sh_setItem_26 : decode M_Sh_setItem.2.1 26 = .ok (.iload_n 2, 1) := by decide +kernel
theorem d_Sh_setItem_27 : decode M_Sh_setItem.2.1 27 = .ok (.iadd, 1) := by decide +kernel
theorem d_Sh_setItem_28 : decode M_Sh_setItem.2.1 28 = .ok (.iload 4, 2) := by decide +kernel
theorem d_Sh_setItem_30 : decode M_Sh_setItem.2.1 30 = .ok (.ifCond .ne 8, 3) := by decide +kernel
theorem d_Sh_setItem_33 : decode M_Sh_setItem.2.1 33 = .ok (.iload_n 3, 1) := by decide +kernel
theorem d_Sh_setItem_34 : decode M_Sh_setItem.2.1 34 = .ok (.i2b, 1) := by decide +kernel
theorem d_Sh_setItem_35 : decode M_Sh_setItem.2.1 35 = .ok (.goto 15, 3) := by decide +kernel
theorem d_Sh_setItem_38 : decode M_Sh_setItem.2.1 38 = .ok (.iload 4, 2) := by decide +kernel
theorem d_Sh_setItem_40 : decode M_Sh_setItem.2.1 40 = .ok (.iconst 1, 1) := by decide +kernel
theorem d_Sh_setItem_41 : decode M_Sh_setItem.2.1 41 = .ok (.if_icmp .ne 8, 3) := by decide +kernel
theorem d_Sh_setItem_44 : decode M_Sh_setItem.2.1 44 = .ok (.iload_n 3, 1) := by decide +kernel
theorem d_Sh_setItem_45 : decode M_Sh_setItem.2.1 45 = .ok (.i2s, 1) := by decide +kernel
theorem d_Sh_setItem_46 : decode M_Sh_setItem.2.1 46 = .ok (.goto 4, 3) := by decide +kernel
theorem d_Sh_setItem_49 : decode M_Sh_setItem.2.1 49 = .ok (.iload_n 3, 1) := by decide +kernel
theorem d_Sh_setItem_50 : decode M_Sh_setItem.2.1 50 = .ok (.iastore, 1) := by decide +kernel
theorem d_Sh_setItem_51 : decode M_Sh_setItem.2.1 51 = .ok (.return_, 1) := by decide +kernel
def F_Sh_setItem_50 (a : Nat) (x1 : Int32) (x2 : Int32) (x3 : Int32) (s0 : Int32) (s1 : Int32) (δ : Dl) : Option (Dl) :=
  if inb s1 210 then bnd (sA δ 62 a s1 s0) fun δ50 => some δ50 else none
set_option maxRecDepth 20000 in
set_option maxHeartbeats 4000000 in
theorem j_Sh_setItem_50 {l : Launch} {Γ : Gm} (hG : GC Γ) (a : Nat) (x1 : Int32) (x2 : Int32) (x3 : Int32) (ha : Oc a 7) (s0 : Int32) (s1 : Int32) (δ : Dl) (r : Dl) (h : F_Sh_setItem_50 a x1 x2 x3 s0 s1 δ = some r) : Xe l M_Sh_setItem 1 0 0 NF 50 [none, none, none, none, none] [.inl s0, .inl s1, .inr (62, a)] 0 0 Γ δ (none, Γ, r) := by
  unfold F_Sh_setItem_50 at h
  have oa := hG.ob ha
  obtain ⟨g50, h⟩ := gd_e h
  obtain ⟨δ50, eδ50, h⟩ := bn_e h
  refine x_iast (n := 210) kf_62 (oz_62 oa) (ln_62 _) g50 d_Sh_setItem_50 (Xe.cδ eδ50 ?_)
  replace h := Option.some.inj h; subst h
  exact x_vret rfl d_Sh_setItem_51 (Nat.le_refl 0) (Nat.le_refl 0)
def F_Sh_setItem (a : Nat) (x1 : Int32) (x2 : Int32) (x3 : Int32) (δ : Dl) : Option (Dl) :=
  (F_Sh_hasItems a x1 x2 1 δ).bind fun v4 => if v4 = 0 then (some δ) else ((F_Sh_sortOf a x1 δ).bind fun v13 => if v13 = 0 then (F_Sh_setItem_50 a x1 x2 x3 ((x3.toInt8.toInt32)) (((x1 * 70) + x2)) δ) else (if v13 = 1 then (F_Sh_setItem_50 a x1 x2 x3 ((x3.toInt16.toInt32)) (((x1 * 70) + x2)) δ) else (F_Sh_setItem_50 a x1 x2 x3 x3 (((x1 * 70) + x2)) δ)))
set_option maxRecDepth 20000 in
set_option maxHeartbeats 4000000 in
theorem c_Sh_setItem {l : Launch} {Γ : Gm} (hG : GC Γ) (a : Nat) (x1 : Int32) (x2 : Int32) (x3 : Int32) (ha : Oc a 7) (δ : Dl) (r : Dl) (h : F_Sh_setItem a x1 x2 x3  δ = some r) : Ct l M_Sh_setItem 1 0 0 NF [.inr (0, a), .inl x1, .inl x2, .inl x3] Γ δ (none, Γ, r) := by
  unfold F_Sh_setItem at h
  have oa := hG.ob ha
  refine Ct.of2 (n := 1) (ls := [some (.inr (0, a)), some (.inl x1), some (.inl x2), some (.inl x3), none]) rfl (by decide +kernel) (Nat.le_of_ble_eq_true rfl) ?_
  refine x_aload_n (i := 0) d_Sh_setItem_0 rfl rfl ?_
  refine x_iload_n (i := 1) d_Sh_setItem_1 rfl rfl ?_
  refine x_iload_n (i := 2) d_Sh_setItem_2 rfl rfl ?_
  refine x_ic (v := 1) d_Sh_setItem_3 (by decide) ?_
  obtain ⟨v4, ev4, h⟩ := bd_e h
  refine y_V3 cs_Sh_29 rfl oa (by first | decide | omega) (Nat.le_of_ble_eq_true rfl) d_Sh_setItem_4 (c_Sh_hasItems hG a x1 x2 1 ha δ v4 ev4) (Nat.le_refl 0) (Nat.le_refl 0) ?_
  refine x_if_ne (tgt := 11) d_Sh_setItem_7 (by decide) (fun c7 => ?_) (fun c7 => ?_)
  · have h := if_f c7 h
    refine x_aload_n (i := 0) d_Sh_setItem_11 rfl rfl ?_
    refine x_iload_n (i := 1) d_Sh_setItem_12 rfl rfl ?_
    obtain ⟨v13, ev13, h⟩ := bd_e h
    refine y_V1 cs_Sh_19 rfl oa (by first | decide | omega) (Nat.le_of_ble_eq_true rfl) d_Sh_setItem_13 (c_Sh_sortOf hG a x1 ha δ v13 ev13) (Nat.le_refl 0) (Nat.le_refl 0) ?_
    refine x_stw (i := 4) (ls' := [some (.inr (0, a)), some (.inl x1), some (.inl x2), some (.inl x3), some (.inl v13)]) d_Sh_setItem_16 (by decide) rfl ?_
    refine x_aload_n (i := 0) d_Sh_setItem_18 rfl rfl ?_
    refine x_getA (f := 62) gl_Sh_16_7 rfl (by rw [kf_62]; decide) oa d_Sh_setItem_19 ?_
    refine x_iload_n (i := 1) d_Sh_setItem_22 rfl rfl ?_
    refine x_bi (v := 70) d_Sh_setItem_23 (by decide) ?_
    refine x_imul d_Sh_setItem_25 ?_
    refine x_iload_n (i := 2) d_Sh_setItem_26 rfl rfl ?_
    refine x_iadd d_Sh_setItem_27 ?_
    refine x_iload (i := 4) d_Sh_setItem_28 rfl ?_
    refine x_if_ne (tgt := 38) d_Sh_setItem_30 (by decide) (fun c30 => ?_) (fun c30 => ?_)
    · have h := if_f c30 h
      refine x_iload (i := 4) d_Sh_setItem_38 rfl ?_
      refine x_ic (v := 1) d_Sh_setItem_40 (by decide) ?_
      refine x_cmp_ne (tgt := 49) d_Sh_setItem_41 (by decide) (fun c41 => ?_) (fun c41 => ?_)
      · have h := if_f c41 h
        refine x_iload_n (i := 3) d_Sh_setItem_49 rfl rfl ?_
        refine x_wk (ls' := [none, none, none, none, none]) ⟨Or.inl rfl, Or.inl rfl, Or.inl rfl, Or.inl rfl, Or.inl rfl, trivial⟩ ?_
        exact j_Sh_setItem_50 hG a x1 x2 x3 ha x3 (((x1 * 70) + x2)) δ r h
      · have h := if_t c41 h
        refine x_iload_n (i := 3) d_Sh_setItem_44 rfl rfl ?_
        refine x_i2s d_Sh_setItem_45 ?_
        refine x_goto (tgt := 50) d_Sh_setItem_46 (by decide) ?_
        refine x_wk (ls' := [none, none, none, none, none]) ⟨Or.inl rfl, Or.inl rfl, Or.inl rfl, Or.inl rfl, Or.inl rfl, trivial⟩ ?_
        exact j_Sh_setItem_50 hG a x1 x2 x3 ha ((x3.toInt16.toInt32)) (((x1 * 70) + x2)) δ r h
    · have h := if_t c30 h
      refine x_iload_n (i := 3) d_Sh_setItem_33 rfl rfl ?_
      refine x_i2b d_Sh_setItem_34 ?_
      refine x_goto (tgt := 50) d_Sh_setItem_35 (by decide) ?_
      refine x_wk (ls' := [none, none, none, none, none]) ⟨Or.inl rfl, Or.inl rfl, Or.inl rfl, Or.inl rfl, Or.inl rfl, trivial⟩ ?_
      exact j_Sh_setItem_50 hG a x1 x2 x3 ha ((x3.toInt8.toInt32)) (((x1 * 70) + x2)) δ r h
  · have h := if_t c7 h
    replace h := Option.some.inj h; subst h
    exact x_vret rfl d_Sh_setItem_10 (Nat.le_refl 0) (Nat.le_refl 0)
-- BlockStage$Sheets.move(IIIII)V
theorem d_Sh_move_0 : decode M_Sh_move.2.1 0 = .ok (.aload_n 0, 1) := by decide +kernel
theorem d_Sh_move_1 : decode M_Sh_move.2.1 1 = .ok (.iload_n 1, 1) := by decide +kernel
theorem d_Sh_move_2 : decode M_Sh_move.2.1 2 = .ok (.iload_n 2, 1) := by decide +kernel
theorem d_Sh_move_3 : decode M_Sh_move.2.1 3 = .ok (.iload 5, 2) := by decide +kernel
theorem d_Sh_move_5 : decode M_Sh_move.2.1 5 = .ok (.invokevirtual 29, 3) := by decide +kernel
theorem d_Sh_move_8 : decode M_Sh_move.2.1 8 = .ok (.ifCond .eq 15, 3) := by decide +kernel
theorem d_Sh_move_11 : decode M_Sh_move.2.1 11 = .ok (.aload_n 0, 1) := by decide +kernel
theorem d_Sh_move_12 : decode M_Sh_move.2.1 12 = .ok (.iload_n 3, 1) := by decide +kernel
theorem d_Sh_move_13 : decode M_Sh_move.2.1 13 = .ok (.iload 4, 2) := by decide +kernel
theorem d_Sh_move_15 : decode M_Sh_move.2.1 15 = .ok (.iload 5, 2) := by decide +kernel
theorem d_Sh_move_17 : decode M_Sh_move.2.1 17 = .ok (.invokevirtual 29, 3) := by decide +kernel
theorem d_Sh_move_20 : decode M_Sh_move.2.1 20 = .ok (.ifCond .ne 4, 3) := by decide +kernel
theorem d_Sh_move_23 : decode M_Sh_move.2.1 23 = .ok (.return_, 1) := by decide +kernel
theorem d_Sh_move_24 : decode M_Sh_move.2.1 24 = .ok (.aload_n 0, 1) := by decide +kernel
theorem d_Sh_move_25 : decode M_Sh_move.2.1 25 = .ok (.getfield 16, 3) := by decide +kernel
theorem d_Sh_move_28 : decode M_Sh_move.2.1 28 = .ok (.iload_n 1, 1) := by decide +kernel
theorem d_Sh_move_29 : decode M_Sh_move.2.1 29 = .ok (.bipush 70, 2) := by decide +kernel
theorem d_Sh_move_31 : decode M_Sh_move.2.1 31 = .ok (.imul, 1) := by decide +kernel
theorem d_Sh_move_32 : decode M_Sh_move.2.1 32 = .ok (.iload_n 2, 1) := by decide +kernel
theorem d_Sh_move_33 : decode M_Sh_move.2.1 33 = .ok (.iadd, 1) := by decide +kernel
theorem d_Sh_move_34 : decode M_Sh_move.2.1 34 = .ok (.aload_n 0, 1) := by decide +kernel
theorem d_Sh_move_35 : decode M_Sh_move.2.1 35 = .ok (.getfield 16, 3) := by decide +kernel
theorem d_Sh_move_38 : decode M_Sh_move.2.1 38 = .ok (.iload_n 3, 1) := by decide +kernel
theorem d_Sh_move_39 : decode M_Sh_move.2.1 39 = .ok (.bipush 70, 2) := by decide +kernel
theorem d_Sh_move_41 : decode M_Sh_move.2.1 41 = .ok (.imul, 1) := by decide +kernel
theorem d_Sh_move_42 : decode M_Sh_move.2.1 42 = .ok (.iload 4, 2) := by decide +kernel
theorem d_Sh_move_44 : decode M_Sh_move.2.1 44 = .ok (.iadd, 1) := by decide +kernel
theorem d_Sh_move_45 : decode M_Sh_move.2.1 45 = .ok (.iload 5, 2) := by decide +kernel
theorem d_Sh_move_47 : decode M_Sh_move.2.1 47 = .ok (.invokestatic 33, 3) := by decide +kernel
theorem d_Sh_move_50 : decode M_Sh_move.2.1 50 = .ok (.return_, 1) := by decide +kernel
theorem ac_Sh_33 : Cond.methodLink RX7 33 arraycopyName ∈ lwg := (lwg_at 1104 (by decide +kernel) rfl)
def F_Sh_move (a : Nat) (x1 : Int32) (x2 : Int32) (x3 : Int32) (x4 : Int32) (x5 : Int32) (δ : Dl) : Option (Dl) :=
  (F_Sh_hasItems a x1 x2 x5 δ).bind fun v5 => if v5 = 0 then (some δ) else ((F_Sh_hasItems a x3 x4 x5 δ).bind fun v17 => if v17 = 0 then (some δ) else (if inbs ((x1 * 70) + x2) x5 210 ∧ inbs ((x3 * 70) + x4) x5 210 then bnd (cpA δ 62 a ((x1 * 70) + x2) 62 a ((x3 * 70) + x4) x5) fun δ47 => some δ47 else none))
set_option maxRecDepth 20000 in
set_option maxHeartbeats 4000000 in
theorem c_Sh_move {l : Launch} {Γ : Gm} (hG : GC Γ) (a : Nat) (x1 : Int32) (x2 : Int32) (x3 : Int32) (x4 : Int32) (x5 : Int32) (ha : Oc a 7) (δ : Dl) (r : Dl) (h : F_Sh_move a x1 x2 x3 x4 x5  δ = some r) : Ct l M_Sh_move 1 0 0 NF [.inr (0, a), .inl x1, .inl x2, .inl x3, .inl x4, .inl x5] Γ δ (none, Γ, r) := by
  unfold F_Sh_move at h
  have oa := hG.ob ha
  refine Ct.of2 (n := 0) (ls := [some (.inr (0, a)), some (.inl x1), some (.inl x2), some (.inl x3), some (.inl x4), some (.inl x5)]) rfl (by decide +kernel) (Nat.le_of_ble_eq_true rfl) ?_
  refine x_aload_n (i := 0) d_Sh_move_0 rfl rfl ?_
  refine x_iload_n (i := 1) d_Sh_move_1 rfl rfl ?_
  refine x_iload_n (i := 2) d_Sh_move_2 rfl rfl ?_
  refine x_iload (i := 5) d_Sh_move_3 rfl ?_
  obtain ⟨v5, ev5, h⟩ := bd_e h
  refine y_V3 cs_Sh_29 rfl oa (by first | decide | omega) (Nat.le_of_ble_eq_true rfl) d_Sh_move_5 (c_Sh_hasItems hG a x1 x2 x5 ha δ v5 ev5) (Nat.le_refl 0) (Nat.le_refl 0) ?_
  refine x_if_eq (tgt := 23) d_Sh_move_8 (by decide) (fun c8 => ?_) (fun c8 => ?_)
  · have h := if_t c8 h
    replace h := Option.some.inj h; subst h
    exact x_vret rfl d_Sh_move_23 (Nat.le_refl 0) (Nat.le_refl 0)
  · have h := if_f c8 h
    refine x_aload_n (i := 0) d_Sh_move_11 rfl rfl ?_
    refine x_iload_n (i := 3) d_Sh_move_12 rfl rfl ?_
    refine x_iload (i := 4) d_Sh_move_13 rfl ?_
    refine x_iload (i := 5) d_Sh_move_15 rfl ?_
    obtain ⟨v17, ev17, h⟩ := bd_e h
    refine y_V3 cs_Sh_29 rfl oa (by first | decide | omega) (Nat.le_of_ble_eq_true rfl) d_Sh_move_17 (c_Sh_hasItems hG a x3 x4 x5 ha δ v17 ev17) (Nat.le_refl 0) (Nat.le_refl 0) ?_
    refine x_if_ne (tgt := 24) d_Sh_move_20 (by decide) (fun c20 => ?_) (fun c20 => ?_)
    · have h := if_f c20 h
      refine x_aload_n (i := 0) d_Sh_move_24 rfl rfl ?_
      refine x_getA (f := 62) gl_Sh_16_7 rfl (by rw [kf_62]; decide) oa d_Sh_move_25 ?_
      refine x_iload_n (i := 1) d_Sh_move_28 rfl rfl ?_
      refine x_bi (v := 70) d_Sh_move_29 (by decide) ?_
      refine x_imul d_Sh_move_31 ?_
      refine x_iload_n (i := 2) d_Sh_move_32 rfl rfl ?_
      refine x_iadd d_Sh_move_33 ?_
      refine x_aload_n (i := 0) d_Sh_move_34 rfl rfl ?_
      refine x_getA (f := 62) gl_Sh_16_7 rfl (by rw [kf_62]; decide) oa d_Sh_move_35 ?_
      refine x_iload_n (i := 3) d_Sh_move_38 rfl rfl ?_
      refine x_bi (v := 70) d_Sh_move_39 (by decide) ?_
      refine x_imul d_Sh_move_41 ?_
      refine x_iload (i := 4) d_Sh_move_42 rfl ?_
      refine x_iadd d_Sh_move_44 ?_
      refine x_iload (i := 5) d_Sh_move_45 rfl ?_
      obtain ⟨g47, h⟩ := gd_e h
      obtain ⟨δ47, eδ47, h⟩ := bn_e h
      refine x_acopy (N0 := 210) (N1 := 210) ac_Sh_33 kf_62 kf_62 (oz_62 oa) (oz_62 oa) (ln_62 _) (ln_62 _) g47.1 g47.2 (Nat.le_of_ble_eq_true rfl) (by first | decide | omega) ac_nat ac_sta ac_ini d_Sh_move_47 (Xe.cδ eδ47 ?_)
      replace h := Option.some.inj h; subst h
      exact x_vret rfl d_Sh_move_50 (Nat.le_refl 0) (Nat.le_refl 0)
    · have h := if_t c20 h
      replace h := Option.some.inj h; subst h
      exact x_vret rfl d_Sh_move_23 (Nat.le_refl 0) (Nat.le_refl 0)
