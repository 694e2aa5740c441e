/-! walks by program (wip/whole/gen.py): 10.jdk -/
abbrev M_Ma_abs : MM := (⟨"java/lang/Math", "abs", "(I)I"⟩, prog_15_method_59_code, 1, (some .int))
abbrev M_Ma_max : MM := (⟨"java/lang/Math", "max", "(II)I"⟩, prog_15_method_65_code, 2, (some .int))
abbrev M_Ma_min : MM := (⟨"java/lang/Math", "min", "(II)I"⟩, prog_15_method_69_code, 2, (some .int))
abbrev M_Js_coder : MM := (⟨"java/lang/String", "coder", "()B"⟩, prog_16_method_152_code, 1, (some .byte))
abbrev M_Js_length : MM := (⟨"java/lang/String", "length", "()I"⟩, prog_16_method_54_code, 1, (some .int))
abbrev M_Js_isLatin1 : MM := (⟨"java/lang/String", "isLatin1", "()Z"⟩, prog_16_method_154_code, 1, (some .boolean))
abbrev M_Jp_checkIndex : MM := (⟨"jdk/internal/util/Preconditions", "checkIndex", "(IILjava/util/function/BiFunction;)I"⟩, prog_21_method_11_code, 3, (some .int))
abbrev M_Js_checkIndex : MM := (⟨"java/lang/String", "checkIndex", "(II)V"⟩, prog_16_method_155_code, 2, none)
abbrev M_Jl_charAt : MM := (⟨"java/lang/StringLatin1", "charAt", "([BI)C"⟩, prog_17_method_2_code, 2, (some .char))
abbrev M_Js_charAt : MM := (⟨"java/lang/String", "charAt", "(I)C"⟩, prog_16_method_56_code, 2, (some .char))
abbrev M_Ar_rangeCheck : MM := (⟨"java/util/Arrays", "rangeCheck", "(III)V"⟩, prog_20_method_30_code, 3, none)
abbrev M_Ar_fill2 : MM := (⟨"java/util/Arrays", "fill", "([II)V"⟩, prog_20_method_103_code, 4, none)
abbrev M_Ar_fill4 : MM := (⟨"java/util/Arrays", "fill", "([IIII)V"⟩, prog_20_method_104_code, 5, none)
-- java/lang/Math.abs(I)I
theorem d_Ma_abs_0 : decode M_Ma_abs.2.1 0 = .ok (.iload_n 0, 1) := by decide +kernel
theorem d_Ma_abs_1 : decode M_Ma_abs.2.1 1 = .ok (.ifCond .ge 8, 3) := by decide +kernel
theorem d_Ma_abs_4 : decode M_Ma_abs.2.1 4 = .ok (.iload_n 0, 1) := by decide +kernel
theorem d_Ma_abs_5 : decode M_Ma_abs.2.1 5 = .ok (.ineg, 1) := by decide +kernel
theorem d_Ma_abs_6 : decode M_Ma_abs.2.1 6 = .ok (.goto 4, 3) := by decide +kernel
theorem d_Ma_abs_9 : decode M_Ma_abs.2.1 9 = .ok (.iload_n 0, 1) := by decide +kernel
theorem d_Ma_abs_10 : decode M_Ma_abs.2.1 10 = .ok (.ireturn, 1) := by decide +kernel
def F_Ma_abs (x0 : Int32) : Int32 :=
  if 0 ≤ x0 then x0 else (-x0)
set_option maxRecDepth 20000 in
set_option maxHeartbeats 4000000 in
theorem c_Ma_abs {l : Launch} {Γ : Gm} (x0 : Int32) (δ : Dl) (r : Int32) (h : F_Ma_abs x0  = r) : Ct l M_Ma_abs 0 0 0 NF [.inl x0] Γ δ (some (.inl r), Γ, δ) := by
  unfold F_Ma_abs at h
  refine Ct.of2 (n := 0) (ls := [some (.inl x0)]) rfl (by decide +kernel) (Nat.le_of_ble_eq_true rfl) ?_
  refine x_iload_n (i := 0) d_Ma_abs_0 rfl rfl ?_
  refine x_if_ge (tgt := 9) d_Ma_abs_1 (by decide) (fun c1 => ?_) (fun c1 => ?_)
  · have h := if_t c1 h
    refine x_iload_n (i := 0) d_Ma_abs_9 rfl rfl ?_
    subst h
    exact x_iret rfl d_Ma_abs_10 (Nat.le_refl 0) (Nat.le_refl 0)
  · have h := if_f c1 h
    refine x_iload_n (i := 0) d_Ma_abs_4 rfl rfl ?_
    refine x_ineg d_Ma_abs_5 ?_
    refine x_goto (tgt := 10) d_Ma_abs_6 (by decide) ?_
    subst h
    exact x_iret rfl d_Ma_abs_10 (Nat.le_refl 0) (Nat.le_refl 0)
-- java/lang/Math.max(II)I
theorem d_Ma_max_0 : decode M_Ma_max.2.1 0 = .ok (.iload_n 0, 1) := by decide +kernel
theorem d_Ma_max_1 : decode M_Ma_max.2.1 1 = .ok (.iload_n 1, 1) := by decide +kernel
theorem d_Ma_max_2 : decode M_Ma_max.2.1 2 = .ok (.if_icmp .lt 7, 3) := by decide +kernel
theorem d_Ma_max_5 : decode M_Ma_max.2.1 5 = .ok (.iload_n 0, 1) := by decide +kernel
theorem d_Ma_max_6 : decode M_Ma_max.2.1 6 = .ok (.goto 4, 3) := by decide +kernel
theorem d_Ma_max_9 : decode M_Ma_max.2.1 9 = .ok (.iload_n 1, 1) := by decide +kernel
theorem d_Ma_max_10 : decode M_Ma_max.2.1 10 = .ok (.ireturn, 1) := by decide +kernel
def F_Ma_max (x0 : Int32) (x1 : Int32) : Int32 :=
  if x0 < x1 then x1 else x0
set_option maxRecDepth 20000 in
set_option maxHeartbeats 4000000 in
theorem c_Ma_max {l : Launch} {Γ : Gm} (x0 : Int32) (x1 : Int32) (δ : Dl) (r : Int32) (h : F_Ma_max x0 x1  = r) : Ct l M_Ma_max 0 0 0 NF [.inl x0, .inl x1] Γ δ (some (.inl r), Γ, δ) := by
  unfold F_Ma_max at h
  refine Ct.of2 (n := 0) (ls := [some (.inl x0), some (.inl x1)]) rfl (by decide +kernel) (Nat.le_of_ble_eq_true rfl) ?_
  refine x_iload_n (i := 0) d_Ma_max_0 rfl rfl ?_
  refine x_iload_n (i := 1) d_Ma_max_1 rfl rfl ?_
  refine x_cmp_lt (tgt := 9) d_Ma_max_2 (by decide) (fun c2 => ?_) (fun c2 => ?_)
  · have h := if_t c2 h
    refine x_iload_n (i := 1) d_Ma_max_9 rfl rfl ?_
    subst h
    exact x_iret rfl d_Ma_max_10 (Nat.le_refl 0) (Nat.le_refl 0)
  · have h := if_f c2 h
    refine x_iload_n (i := 0) d_Ma_max_5 rfl rfl ?_
    refine x_goto (tgt := 10) d_Ma_max_6 (by decide) ?_
    subst h
    exact x_iret rfl d_Ma_max_10 (Nat.le_refl 0) (Nat.le_refl 0)
-- java/lang/Math.min(II)I
theorem d_Ma_min_0 : decode M_Ma_min.2.1 0 = .ok (.iload_n 0, 1) := by decide +kernel
theorem d_Ma_min_1 : decode M_Ma_min.2.1 1 = .ok (.iload_n 1, 1) := by decide +kernel
theorem d_Ma_min_2 : decode M_Ma_min.2.1 2 = .ok (.if_icmp .gt 7, 3) := by decide +kernel
theorem d_Ma_min_5 : decode M_Ma_min.2.1 5 = .ok (.iload_n 0, 1) := by decide +kernel
theorem d_Ma_min_6 : decode M_Ma_min.2.1 6 = .ok (.goto 4, 3) := by decide +kernel
theorem d_Ma_min_9 : decode M_Ma_min.2.1 9 = .ok (.iload_n 1, 1) := by decide +kernel
theorem d_Ma_min_10 : decode M_Ma_min.2.1 10 = .ok (.ireturn, 1) := by decide +kernel
def F_Ma_min (x0 : Int32) (x1 : Int32) : Int32 :=
  if x1 < x0 then x1 else x0
set_option maxRecDepth 20000 in
set_option maxHeartbeats 4000000 in
theorem c_Ma_min {l : Launch} {Γ : Gm} (x0 : Int32) (x1 : Int32) (δ : Dl) (r : Int32) (h : F_Ma_min x0 x1  = r) : Ct l M_Ma_min 0 0 0 NF [.inl x0, .inl x1] Γ δ (some (.inl r), Γ, δ) := by
  unfold F_Ma_min at h
  refine Ct.of2 (n := 0) (ls := [some (.inl x0), some (.inl x1)]) rfl (by decide +kernel) (Nat.le_of_ble_eq_true rfl) ?_
  refine x_iload_n (i := 0) d_Ma_min_0 rfl rfl ?_
  refine x_iload_n (i := 1) d_Ma_min_1 rfl rfl ?_
  refine x_cmp_gt (tgt := 9) d_Ma_min_2 (by decide) (fun c2 => ?_) (fun c2 => ?_)
  · have h := if_t c2 h
    refine x_iload_n (i := 1) d_Ma_min_9 rfl rfl ?_
    subst h
    exact x_iret rfl d_Ma_min_10 (Nat.le_refl 0) (Nat.le_refl 0)
  · have h := if_f c2 h
    refine x_iload_n (i := 0) d_Ma_min_5 rfl rfl ?_
    refine x_goto (tgt := 10) d_Ma_min_6 (by decide) ?_
    subst h
    exact x_iret rfl d_Ma_min_10 (Nat.le_refl 0) (Nat.le_refl 0)
-- java/lang/String.coder()B
theorem d_Js_coder_0 : decode M_Js_coder.2.1 0 = .ok (.getstatic 38, 3) := by decide +kernel
theorem d_Js_coder_3 : decode M_Js_coder.2.1 3 = .ok (.ifCond .eq 10, 3) := by decide +kernel
theorem d_Js_coder_6 : decode M_Js_coder.2.1 6 = .ok (.aload_n 0, 1) := by decide +kernel
theorem d_Js_coder_7 : decode M_Js_coder.2.1 7 = .ok (.getfield 15, 3) := by decide +kernel
theorem d_Js_coder_10 : decode M_Js_coder.2.1 10 = .ok (.goto 4, 3) := by decide +kernel
theorem d_Js_coder_14 : decode M_Js_coder.2.1 14 = .ok (.ireturn, 1) := by decide +kernel
theorem gc_Js_38 : Cond.fieldLink "java/lang/String" 38 "java/lang/String" "COMPACT_STRINGS" "Z" ∈ lwg := (lwg_at 726 (by decide +kernel) rfl)
theorem fs_Js_15 : Cond.fieldLink "java/lang/String" 15 "java/lang/String" "coder" "B" ∈ lwg := (lwg_at 1765 (by decide +kernel) rfl)
def F_Js_coder (a : Nat) : Int32 :=
  0
set_option maxRecDepth 20000 in
set_option maxHeartbeats 4000000 in
theorem c_Js_coder {l : Launch} {Γ : Gm} (a : Nat) (ha : a < 6) (δ : Dl) (r : Int32) (h : F_Js_coder a  = r) : Ct l M_Js_coder 0 0 0 NF [.inr (2, a)] Γ δ (some (.inl r), Γ, δ) := by
  unfold F_Js_coder at h
  refine Ct.of2 (n := 0) (ls := [some (.inr (2, a))]) rfl (by decide +kernel) (Nat.le_of_ble_eq_true rfl) ?_
  refine x_gstC gc_Js_38 d_Js_coder_0 ?_
  refine x_if_eq (tgt := 13) d_Js_coder_3 (by decide) (fun c => absurd c (by decide)) (fun _ => ?_)
  refine x_aload_n (i := 0) d_Js_coder_6 rfl rfl ?_
  refine x_scod ha fs_Js_15 d_Js_coder_7 ?_
  refine x_goto (tgt := 14) d_Js_coder_10 (by decide) ?_
  subst h
  exact x_nret rfl rfl d_Js_coder_14 (Nat.le_refl 0) (Nat.le_refl 0)
-- java/lang/String.length()I
theorem d_Js_length_0 : decode M_Js_length.2.1 0 = .ok (.aload_n 0, 1) := by decide +kernel
theorem d_Js_length_1 : decode M_Js_length.2.1 1 = .ok (.getfield 9, 3) := by decide +kernel
theorem d_Js_length_4 : decode M_Js_length.2.1 4 = .ok (.arraylength, 1) := by decide +kernel
theorem d_Js_length_5 : decode M_Js_length.2.1 5 = .ok (.aload_n 0, 1) := by decide +kernel
theorem d_Js_length_6 : decode M_Js_length.2.1 6 = .ok (.invokevirtual 335, 3) := by decide +kernel
theorem d_Js_length_9 : decode M_Js_length.2.1 9 = .ok (.ishr, 1) := by decide +kernel
theorem d_Js_length_10 : decode M_Js_length.2.1 10 = .ok (.ireturn, 1) := by decide +kernel
theorem fs_Js_9 : Cond.fieldLink "java/lang/String" 9 "java/lang/String" "value" "[B" ∈ lwg := (lwg_at 1764 (by decide +kernel) rfl)
theorem mi_Js_coder : MI M_Js_coder 0 := ⟨(lwg_at 12 (by decide +kernel) rfl), (lwg_at 725 (by decide +kernel) rfl), ⟨by decide +kernel, by decide +kernel⟩, by decide +kernel, by decide⟩
theorem cs_Js_335 : CV "java/lang/String" 335 "java/lang/String" M_Js_coder 0 := ⟨(lwg_at 722 (by decide +kernel) rfl), (lwg_at 723 (by decide +kernel) rfl), (lwg_at 724 (by decide +kernel) rfl), mi_Js_coder⟩
def F_Js_length (a : Nat) : Int32 :=
  bnd (F_Js_coder a) fun v6 => ((wLen a) >>> (v6 &&& 31))
set_option maxRecDepth 20000 in
set_option maxHeartbeats 4000000 in
theorem c_Js_length {l : Launch} {Γ : Gm} (a : Nat) (ha : a < 6) (δ : Dl) (r : Int32) (h : F_Js_length a  = r) : Ct l M_Js_length 1 0 0 NF [.inr (2, a)] Γ δ (some (.inl r), Γ, δ) := by
  unfold F_Js_length at h
  refine Ct.of2 (n := 0) (ls := [some (.inr (2, a))]) rfl (by decide +kernel) (Nat.le_of_ble_eq_true rfl) ?_
  refine x_aload_n (i := 0) d_Js_length_0 rfl rfl ?_
  refine x_sval ha fs_Js_9 d_Js_length_1 ?_
  refine x_slen ha d_Js_length_4 ?_
  refine x_aload_n (i := 0) d_Js_length_5 rfl rfl ?_
  obtain ⟨v6, ev6, h⟩ := bn_e h
  refine y_T0 ha cs_Js_335 (by first | decide | omega) (Nat.le_of_ble_eq_true rfl) d_Js_length_6 (c_Js_coder a ha δ v6 ev6) ?_
  refine x_ishr d_Js_length_9 ?_
  subst h
  exact x_iret rfl d_Js_length_10 (Nat.le_refl 0) (Nat.le_refl 0)
-- java/lang/String.isLatin1()Z
theorem d_Js_isLatin1_0 : decode M_Js_isLatin1.2.1 0 = .ok (.getstatic 38, 3) := by decide +kernel
theorem d_Js_isLatin1_3 : decode M_Js_isLatin1.2.1 3 = .ok (.ifCond .eq 14, 3) := by decide +kernel
theorem d_Js_isLatin1_6 : decode M_Js_isLatin1.2.1 6 = .ok (.aload_n 0, 1) := by decide +kernel
theorem d_Js_isLatin1_7 : decode M_Js_isLatin1.2.1 7 = .ok (.getfield 15, 3) := by decide +kernel
theorem d_Js_isLatin1_10 : decode M_Js_isLatin1.2.1 10 = .ok (.ifCond .ne 7, 3) := by decide +kernel
theorem d_Js_isLatin1_13 : decode M_Js_isLatin1.2.1 13 = .ok (.iconst 1, 1) := by decide +kernel
theorem d_Js_isLatin1_14 : decode M_Js_isLatin1.2.1 14 = .ok (.goto 4, 3) := by decide +kernel
theorem d_Js_isLatin1_18 : decode M_Js_isLatin1.2.1 18 = .ok (.ireturn, 1) := by decide +kernel
def F_Js_isLatin1 (a : Nat) : Int32 :=
  1
set_option maxRecDepth 20000 in
set_option maxHeartbeats 4000000 in
theorem c_Js_isLatin1 {l : Launch} {Γ : Gm} (a : Nat) (ha : a < 6) (δ : Dl) (r : Int32) (h : F_Js_isLatin1 a  = r) : Ct l M_Js_isLatin1 0 0 0 NF [.inr (2, a)] Γ δ (some (.inl r), Γ, δ) := by
  unfold F_Js_isLatin1 at h
  refine Ct.of2 (n := 0) (ls := [some (.inr (2, a))]) rfl (by decide +kernel) (Nat.le_of_ble_eq_true rfl) ?_
  refine x_gstC gc_Js_38 d_Js_isLatin1_0 ?_
  refine x_if_eq (tgt := 17) d_Js_isLatin1_3 (by decide) (fun c => absurd c (by decide)) (fun _ => ?_)
  refine x_aload_n (i := 0) d_Js_isLatin1_6 rfl rfl ?_
  refine x_scod ha fs_Js_15 d_Js_isLatin1_7 ?_
  refine x_if_ne (tgt := 17) d_Js_isLatin1_10 (by decide) (fun c => absurd c (by decide)) (fun _ => ?_)
  refine x_ic (v := 1) d_Js_isLatin1_13 (by decide) ?_
  refine x_goto (tgt := 18) d_Js_isLatin1_14 (by decide) ?_
  subst h
  exact x_nret rfl rfl d_Js_isLatin1_18 (Nat.le_refl 0) (Nat.le_refl 0)
theorem b_Js_isLatin1 {a : Nat} : F_Js_isLatin1 a  = 0 ∨ F_Js_isLatin1 a  = 1 := by
  unfold F_Js_isLatin1
  try dsimp only [bnd]
  repeat' split
  all_goals first | exact Or.inl rfl | exact Or.inr rfl
-- jdk/internal/util/Preconditions.checkIndex(IILjava/util/function/BiFunction;)I
theorem d_Jp_checkIndex_0 : decode M_Jp_checkIndex.2.1 0 = .ok (.iload_n 0, 1) := by decide +kernel
theorem d_Jp_checkIndex_1 : decode M_Jp_checkIndex.2.1 1 = .ok (.ifCond .lt 8, 3) := by decide +kernel
theorem d_Jp_checkIndex_4 : decode M_Jp_checkIndex.2.1 4 = .ok (.iload_n 0, 1) := by decide +kernel
theorem d_Jp_checkIndex_5 : decode M_Jp_checkIndex.2.1 5 = .ok (.iload_n 1, 1) := by decide +kernel
theorem d_Jp_checkIndex_6 : decode M_Jp_checkIndex.2.1 6 = .ok (.if_icmp .lt 10, 3) := by decide +kernel
theorem d_Jp_checkIndex_9 : decode M_Jp_checkIndex.2.1 9 = .ok (.aload_n 2, 1) := by decide +kernel
theorem d_Jp_checkIndex_10 : decode M_Jp_checkIndex.2.1 10 = .ok (.iload_n 0, 1) := by decide +kernel
theorem d_Jp_checkIndex_11 : decode M_Jp_checkIndex.2.1 11 = .ok (.iload_n 1, 1) := by decide +kernel
theorem d_Jp_checkIndex_12 : decode M_Jp_checkIndex.2.1 12 = .ok (.invokestatic 95, 3) := by decide +kernel
theorem d_Jp_checkIndex_16 : decode M_Jp_checkIndex.2.1 16 = .ok (.iload_n 0, 1) := by decide +kernel
theorem d_Jp_checkIndex_17 : decode M_Jp_checkIndex.2.1 17 = .ok (.ireturn, 1) := by decide +kernel
def F_Jp_checkIndex_9 (x0 : Int32) (x1 : Int32) (x2 : (Nat × Nat)) : Option (Int32) :=
  none
set_option maxRecDepth 20000 in
set_option maxHeartbeats 4000000 in
theorem j_Jp_checkIndex_9 {l : Launch} {Γ : Gm} (x0 : Int32) (x1 : Int32) (x2 : (Nat × Nat)) (δ : Dl) (r : Int32) (h : F_Jp_checkIndex_9 x0 x1 x2  = some r) : Xe l M_Jp_checkIndex 0 0 0 NF 9 [some (.inl x0), some (.inl x1), some (.inr x2)] [] 0 0 Γ δ (some (.inl r), Γ, δ) := by
  unfold F_Jp_checkIndex_9 at h
  cases h
def F_Jp_checkIndex (x0 : Int32) (x1 : Int32) (x2 : (Nat × Nat)) : Option (Int32) :=
  if x0 < 0 then (F_Jp_checkIndex_9 x0 x1 x2) else (if x0 < x1 then (some x0) else (F_Jp_checkIndex_9 x0 x1 x2))
set_option maxRecDepth 20000 in
set_option maxHeartbeats 4000000 in
theorem c_Jp_checkIndex {l : Launch} {Γ : Gm} (x0 : Int32) (x1 : Int32) (x2 : (Nat × Nat)) (δ : Dl) (r : Int32) (h : F_Jp_checkIndex x0 x1 x2  = some r) : Ct l M_Jp_checkIndex 0 0 0 NF [.inl x0, .inl x1, .inr x2] Γ δ (some (.inl r), Γ, δ) := by
  unfold F_Jp_checkIndex at h
  refine Ct.of2 (n := 0) (ls := [some (.inl x0), some (.inl x1), some (.inr x2)]) rfl (by decide +kernel) (Nat.le_of_ble_eq_true rfl) ?_
  refine x_iload_n (i := 0) d_Jp_checkIndex_0 rfl rfl ?_
  refine x_if_lt (tgt := 9) d_Jp_checkIndex_1 (by decide) (fun c1 => ?_) (fun c1 => ?_)
  · have h := if_t c1 h
    exact j_Jp_checkIndex_9 x0 x1 x2  δ r h
  · have h := if_f c1 h
    refine x_iload_n (i := 0) d_Jp_checkIndex_4 rfl rfl ?_
    refine x_iload_n (i := 1) d_Jp_checkIndex_5 rfl rfl ?_
    refine x_cmp_lt (tgt := 16) d_Jp_checkIndex_6 (by decide) (fun c6 => ?_) (fun c6 => ?_)
    · have h := if_t c6 h
      refine x_iload_n (i := 0) d_Jp_checkIndex_16 rfl rfl ?_
      replace h := Option.some.inj h; subst h
      exact x_iret rfl d_Jp_checkIndex_17 (Nat.le_refl 0) (Nat.le_refl 0)
    · have h := if_f c6 h
      exact j_Jp_checkIndex_9 x0 x1 x2  δ r h
-- java/lang/String.checkIndex(II)V
theorem d_Js_checkIndex_0 : decode M_Js_checkIndex.2.1 0 = .ok (.iload_n 0, 1) := by decide +kernel
theorem d_Js_checkIndex_1 : decode M_Js_checkIndex.2.1 1 = .ok (.iload_n 1, 1) := by decide +kernel
theorem d_Js_checkIndex_2 : decode M_Js_checkIndex.2.1 2 = .ok (.getstatic 1053, 3) := by decide +kernel
theorem d_Js_checkIndex_5 : decode M_Js_checkIndex.2.1 5 = .ok (.invokestatic 1059, 3) := by decide +kernel
theorem d_Js_checkIndex_8 : decode M_Js_checkIndex.2.1 8 = .ok (.pop, 1) := by decide +kernel
theorem d_Js_checkIndex_9 : decode M_Js_checkIndex.2.1 9 = .ok (.return_, 1) := by decide +kernel
theorem gf_Js_1053 : Cond.fieldLink "java/lang/String" 1053 "jdk/internal/util/Preconditions" "SIOOBE_FORMATTER" "Ljava/util/function/BiFunction;" ∈ lwg := (lwg_at 746 (by decide +kernel) rfl)
theorem mi_Jp_checkIndex : MI M_Jp_checkIndex 3 := ⟨(lwg_at 14 (by decide +kernel) rfl), (lwg_at 750 (by decide +kernel) rfl), ⟨by decide +kernel, by decide +kernel⟩, by decide +kernel, by decide⟩
theorem cs_Js_1059 : CS "java/lang/String" 1059 M_Jp_checkIndex 3 := ⟨(lwg_at 748 (by decide +kernel) rfl), (lwg_at 749 (by decide +kernel) rfl), mi_Jp_checkIndex⟩
def F_Js_checkIndex (x0 : Int32) (x1 : Int32) : Option (Unit) :=
  (F_Jp_checkIndex x0 x1 (1, 0)).bind fun v5 => some ()
set_option maxRecDepth 20000 in
set_option maxHeartbeats 4000000 in
theorem c_Js_checkIndex {l : Launch} {Γ : Gm} (x0 : Int32) (x1 : Int32) (δ : Dl) (r : Unit) (h : F_Js_checkIndex x0 x1  = some r) : Ct l M_Js_checkIndex 1 0 0 NF [.inl x0, .inl x1] Γ δ (none, Γ, δ) := by
  unfold F_Js_checkIndex at h
  refine Ct.of2 (n := 0) (ls := [some (.inl x0), some (.inl x1)]) rfl (by decide +kernel) (Nat.le_of_ble_eq_true rfl) ?_
  refine x_iload_n (i := 0) d_Js_checkIndex_0 rfl rfl ?_
  refine x_iload_n (i := 1) d_Js_checkIndex_1 rfl rfl ?_
  refine x_gstF gf_Js_1053 d_Js_checkIndex_2 (fun q2 => ?_)
  obtain ⟨v5, ev5, h⟩ := bd_e h
  refine y_S3 cs_Js_1059 (by first | decide | omega) (Nat.le_of_ble_eq_true rfl) d_Js_checkIndex_5 (c_Jp_checkIndex x0 x1 q2  δ v5 ev5) (Nat.le_refl 0) (Nat.le_refl 0) ?_
  refine x_pop d_Js_checkIndex_8 ?_
  replace h := Option.some.inj h; subst h
  exact x_vret rfl d_Js_checkIndex_9 (Nat.le_refl 0) (Nat.le_refl 0)
-- java/lang/StringLatin1.charAt([BI)C
theorem d_Jl_charAt_0 : decode M_Jl_charAt.2.1 0 = .ok (.iload_n 1, 1) := by decide +kernel
theorem d_Jl_charAt_1 : decode M_Jl_charAt.2.1 1 = .ok (.aload_n 0, 1) := by decide +kernel
theorem d_Jl_charAt_2 : decode M_Jl_charAt.2.1 2 = .ok (.arraylength, 1) := by decide +kernel
theorem d_Jl_charAt_3 : decode M_Jl_charAt.2.1 3 = .ok (.invokestatic 9, 3) := by decide +kernel
theorem d_Jl_charAt_6 : decode M_Jl_charAt.2.1 6 = .ok (.aload_n 0, 1) := by decide +kernel
theorem d_Jl_charAt_7 : decode M_Jl_charAt.2.1 7 = .ok (.iload_n 1, 1) := by decide +kernel
theorem d_Jl_charAt_8 : decode M_Jl_charAt.2.1 8 = .ok (.baload, 1) := by decide +kernel
theorem d_Jl_charAt_9 : decode M_Jl_charAt.2.1 9 = .ok (.sipush 255, 3) := by decide +kernel
theorem d_Jl_charAt_12 : decode M_Jl_charAt.2.1 12 = .ok (.iand, 1) := by decide +kernel
theorem d_Jl_charAt_13 : decode M_Jl_charAt.2.1 13 = .ok (.i2c, 1) := by decide +kernel
theorem d_Jl_charAt_14 : decode M_Jl_charAt.2.1 14 = .ok (.ireturn, 1) := by decide +kernel
theorem mi_Js_checkIndex : MI M_Js_checkIndex 2 := ⟨(lwg_at 12 (by decide +kernel) rfl), (lwg_at 745 (by decide +kernel) rfl), ⟨by decide +kernel, by decide +kernel⟩, by decide +kernel, by decide⟩
theorem cs_Jl_9 : CS "java/lang/StringLatin1" 9 M_Js_checkIndex 2 := ⟨(lwg_at 743 (by decide +kernel) rfl), (lwg_at 744 (by decide +kernel) rfl), mi_Js_checkIndex⟩
def F_Jl_charAt (x0 : Nat) (x1 : Int32) : Option (Int32) :=
  (F_Js_checkIndex x1 (wLen x0)).bind fun v3 => if inb x1 (wLen x0) then some ((((wByt x0 x1) &&& 255).toUInt32 % 65536).toInt32) else none
set_option maxRecDepth 20000 in
set_option maxHeartbeats 4000000 in
theorem c_Jl_charAt {l : Launch} {Γ : Gm} (x0 : Nat) (x1 : Int32) (hx0 : x0 < 6) (δ : Dl) (r : Int32) (h : F_Jl_charAt x0 x1  = some r) : Ct l M_Jl_charAt 2 0 0 NF [.inr (5, x0), .inl x1] Γ δ (some (.inl r), Γ, δ) := by
  unfold F_Jl_charAt at h
  refine Ct.of2 (n := 0) (ls := [some (.inr (5, x0)), some (.inl x1)]) rfl (by decide +kernel) (Nat.le_of_ble_eq_true rfl) ?_
  refine x_iload_n (i := 1) d_Jl_charAt_0 rfl rfl ?_
  refine x_aload_n (i := 0) d_Jl_charAt_1 rfl rfl ?_
  refine x_slen hx0 d_Jl_charAt_2 ?_
  obtain ⟨v3, ev3, h⟩ := bd_e h
  refine y_S2v cs_Jl_9 (by first | decide | omega) (Nat.le_of_ble_eq_true rfl) d_Jl_charAt_3 (c_Js_checkIndex x1 (wLen x0)  δ v3 ev3) (Nat.le_refl 0) (Nat.le_refl 0) ?_
  refine x_aload_n (i := 0) d_Jl_charAt_6 rfl rfl ?_
  refine x_iload_n (i := 1) d_Jl_charAt_7 rfl rfl ?_
  obtain ⟨g8, h⟩ := gd_e h
  refine x_sbyte hx0 g8 d_Jl_charAt_8 ?_
  refine x_si (v := 255) d_Jl_charAt_9 (by decide) ?_
  refine x_iand d_Jl_charAt_12 ?_
  refine x_i2c d_Jl_charAt_13 ?_
  replace h := Option.some.inj h; subst h
  exact x_nret rfl (pk_nc _) d_Jl_charAt_14 (Nat.le_refl 0) (Nat.le_refl 0)
-- java/lang/String.charAt(I)C
theorem d_Js_charAt_0 : decode M_Js_charAt.2.1 0 = .ok (.aload_n 0, 1) := by decide +kernel
theorem d_Js_charAt_1 : decode M_Js_charAt.2.1 1 = .ok (.invokevirtual 492, 3) := by decide +kernel
theorem d_Js_charAt_4 : decode M_Js_charAt.2.1 4 = .ok (.ifCond .eq 12, 3) := by decide +kernel
theorem d_Js_charAt_7 : decode M_Js_charAt.2.1 7 = .ok (.aload_n 0, 1) := by decide +kernel
theorem d_Js_charAt_8 : decode M_Js_charAt.2.1 8 = .ok (.getfield 9, 3) := by decide +kernel
theorem d_Js_charAt_11 : decode M_Js_charAt.2.1 11 = .ok (.iload_n 1, 1) := by decide +kernel
theorem d_Js_charAt_12 : decode M_Js_charAt.2.1 12 = .ok (.invokestatic 495, 3) := by decide +kernel
theorem d_Js_charAt_15 : decode M_Js_charAt.2.1 15 = .ok (.ireturn, 1) := by decide +kernel
theorem d_Js_charAt_16 : decode M_Js_charAt.2.1 16 = .ok (.aload_n 0, 1) := by decide +kernel
theorem d_Js_charAt_17 : decode M_Js_charAt.2.1 17 = .ok (.getfield 9, 3) := by decide +kernel
theorem d_Js_charAt_20 : decode M_Js_charAt.2.1 20 = .ok (.iload_n 1, 1) := by decide +kernel
theorem d_Js_charAt_21 : decode M_Js_charAt.2.1 21 = .ok (.invokestatic 498, 3) := by decide +kernel
theorem mi_Js_isLatin1 : MI M_Js_isLatin1 0 := ⟨(lwg_at 12 (by decide +kernel) rfl), (lwg_at 739 (by decide +kernel) rfl), ⟨by decide +kernel, by decide +kernel⟩, by decide +kernel, by decide⟩
theorem cs_Js_492 : CV "java/lang/String" 492 "java/lang/String" M_Js_isLatin1 0 := ⟨(lwg_at 736 (by decide +kernel) rfl), (lwg_at 737 (by decide +kernel) rfl), (lwg_at 738 (by decide +kernel) rfl), mi_Js_isLatin1⟩
theorem mi_Jl_charAt : MI M_Jl_charAt 2 := ⟨(lwg_at 13 (by decide +kernel) rfl), (lwg_at 742 (by decide +kernel) rfl), ⟨by decide +kernel, by decide +kernel⟩, by decide +kernel, by decide⟩
theorem cs_Js_495 : CS "java/lang/String" 495 M_Jl_charAt 2 := ⟨(lwg_at 740 (by decide +kernel) rfl), (lwg_at 741 (by decide +kernel) rfl), mi_Jl_charAt⟩
def F_Js_charAt (a : Nat) (x1 : Int32) : Option (Int32) :=
  bnd (F_Js_isLatin1 a) fun v1 => if v1 = 0 then none else ((F_Jl_charAt a x1).bind fun v12 => if (v12.toUInt32 % 65536).toInt32 = v12 then some v12 else none)
set_option maxRecDepth 20000 in
set_option maxHeartbeats 4000000 in
theorem c_Js_charAt {l : Launch} {Γ : Gm} (a : Nat) (x1 : Int32) (ha : a < 6) (δ : Dl) (r : Int32) (h : F_Js_charAt a x1  = some r) : Ct l M_Js_charAt 3 0 0 NF [.inr (2, a), .inl x1] Γ δ (some (.inl r), Γ, δ) := by
  unfold F_Js_charAt at h
  refine Ct.of2 (n := 0) (ls := [some (.inr (2, a)), some (.inl x1)]) rfl (by decide +kernel) (Nat.le_of_ble_eq_true rfl) ?_
  refine x_aload_n (i := 0) d_Js_charAt_0 rfl rfl ?_
  obtain ⟨v1, ev1, h⟩ := bn_e h
  refine y_T0 ha cs_Js_492 (by first | decide | omega) (Nat.le_of_ble_eq_true rfl) d_Js_charAt_1 (c_Js_isLatin1 a ha δ v1 ev1) ?_
  refine x_if_eq (tgt := 16) d_Js_charAt_4 (by decide) (fun c4 => ?_) (fun c4 => ?_)
  · have h := if_t c4 h
    cases h
  · have h := if_f c4 h
    refine x_aload_n (i := 0) d_Js_charAt_7 rfl rfl ?_
    refine x_sval ha fs_Js_9 d_Js_charAt_8 ?_
    refine x_iload_n (i := 1) d_Js_charAt_11 rfl rfl ?_
    obtain ⟨v12, ev12, h⟩ := bd_e h
    refine y_S2 cs_Js_495 (by first | decide | omega) (Nat.le_of_ble_eq_true rfl) d_Js_charAt_12 (c_Jl_charAt a x1 ha δ v12 ev12) (Nat.le_refl 0) (Nat.le_refl 0) ?_
    obtain ⟨g15, h⟩ := gd_e h
    replace h := Option.some.inj h; subst h
    exact x_nret rfl (nc_of g15) d_Js_charAt_15 (Nat.le_refl 0) (Nat.le_refl 0)
-- java/util/Arrays.rangeCheck(III)V
theorem d_Ar_rangeCheck_0 : decode M_Ar_rangeCheck.2.1 0 = .ok (.iload_n 1, 1) := by decide +kernel
theorem d_Ar_rangeCheck_1 : decode M_Ar_rangeCheck.2.1 1 = .ok (.iload_n 2, 1) := by decide +kernel
theorem d_Ar_rangeCheck_2 : decode M_Ar_rangeCheck.2.1 2 = .ok (.if_icmp .le 44, 3) := by decide +kernel
theorem d_Ar_rangeCheck_5 : decode M_Ar_rangeCheck.2.1 5 = .ok (.new 43, 3) := by decide +kernel
theorem d_Ar_rangeCheck_46 : decode M_Ar_rangeCheck.2.1 46 = .ok (.iload_n 1, 1) := by decide +kernel
theorem d_Ar_rangeCheck_47 : decode M_Ar_rangeCheck.2.1 47 = .ok (.ifCond .ge 12, 3) := by decide +kernel
theorem d_Ar_rangeCheck_50 : decode M_Ar_rangeCheck.2.1 50 = .ok (.new 68, 3) := by decide +kernel
theorem d_Ar_rangeCheck_59 : decode M_Ar_rangeCheck.2.1 59 = .ok (.iload_n 2, 1) := by decide +kernel
theorem d_Ar_rangeCheck_60 : decode M_Ar_rangeCheck.2.1 60 = .ok (.iload_n 0, 1) := by decide +kernel
theorem d_Ar_rangeCheck_61 : decode M_Ar_rangeCheck.2.1 61 = .ok (.if_icmp .le 12, 3) := by decide +kernel
theorem d_Ar_rangeCheck_64 : decode M_Ar_rangeCheck.2.1 64 = .ok (.new 68, 3) := by decide +kernel
theorem d_Ar_rangeCheck_73 : decode M_Ar_rangeCheck.2.1 73 = .ok (.return_, 1) := by decide +kernel
def F_Ar_rangeCheck (x0 : Int32) (x1 : Int32) (x2 : Int32) : Option (Unit) :=
  if x1 ≤ x2 then (if 0 ≤ x1 then (if x2 ≤ x0 then (some ()) else none) else none) else none
set_option maxRecDepth 20000 in
set_option maxHeartbeats 4000000 in
theorem c_Ar_rangeCheck {l : Launch} {Γ : Gm} (x0 : Int32) (x1 : Int32) (x2 : Int32) (δ : Dl) (r : Unit) (h : F_Ar_rangeCheck x0 x1 x2  = some r) : Ct l M_Ar_rangeCheck 0 0 0 NF [.inl x0, .inl x1, .inl x2] Γ δ (none, Γ, δ) := by
  unfold F_Ar_rangeCheck at h
  refine Ct.of2 (n := 0) (ls := [some (.inl x0), some (.inl x1), some (.inl x2)]) rfl (by decide +kernel) (Nat.le_of_ble_eq_true rfl) ?_
  refine x_iload_n (i := 1) d_Ar_rangeCheck_0 rfl rfl ?_
  refine x_iload_n (i := 2) d_Ar_rangeCheck_1 rfl rfl ?_
  refine x_cmp_le (tgt := 46) d_Ar_rangeCheck_2 (by decide) (fun c2 => ?_) (fun c2 => ?_)
  · have h := if_t c2 h
    refine x_iload_n (i := 1) d_Ar_rangeCheck_46 rfl rfl ?_
    refine x_if_ge (tgt := 59) d_Ar_rangeCheck_47 (by decide) (fun c47 => ?_) (fun c47 => ?_)
    · have h := if_t c47 h
      refine x_iload_n (i := 2) d_Ar_rangeCheck_59 rfl rfl ?_
      refine x_iload_n (i := 0) d_Ar_rangeCheck_60 rfl rfl ?_
      refine x_cmp_le (tgt := 73) d_Ar_rangeCheck_61 (by decide) (fun c61 => ?_) (fun c61 => ?_)
      · have h := if_t c61 h
        replace h := Option.some.inj h; subst h
        exact x_vret rfl d_Ar_rangeCheck_73 (Nat.le_refl 0) (Nat.le_refl 0)
      · have h := if_f c61 h
        cases h
    · have h := if_f c47 h
      cases h
  · have h := if_f c2 h
    cases h
-- java/util/Arrays.fill([II)V
theorem d_Ar_fill2_0 : decode M_Ar_fill2.2.1 0 = .ok (.iconst 0, 1) := by decide +kernel
theorem d_Ar_fill2_1 : decode M_Ar_fill2.2.1 1 = .ok (.istore_n 2, 1) := by decide +kernel
theorem d_Ar_fill2_2 : decode M_Ar_fill2.2.1 2 = .ok (.aload_n 0, 1) := by decide +kernel
theorem d_Ar_fill2_3 : decode M_Ar_fill2.2.1 3 = .ok (.arraylength, 1) := by decide +kernel
theorem d_Ar_fill2_4 : decode M_Ar_fill2.2.1 4 = .ok (.istore_n 3, 1) := by decide +kernel
theorem d_Ar_fill2_5 : decode M_Ar_fill2.2.1 5 = .ok (.iload_n 2, 1) := by decide +kernel
theorem d_Ar_fill2_6 : decode M_Ar_fill2.2.1 6 = .ok (.iload_n 3, 1) := by decide +kernel
theorem d_Ar_fill2_7 : decode M_Ar_fill2.2.1 7 = .ok (.if_icmp .ge 13, 3) := by decide +kernel
theorem d_Ar_fill2_10 : decode M_Ar_fill2.2.1 10 = .ok (.aload_n 0, 1) := by decide +kernel
theorem d_Ar_fill2_11 : decode M_Ar_fill2.2.1 11 = .ok (.iload_n 2, 1) := by decide +kernel
theorem d_Ar_fill2_12 : decode M_Ar_fill2.2.1 12 = .ok (.iload_n 1, 1) := by decide +kernel
theorem d_Ar_fill2_13 : decode M_Ar_fill2.2.1 13 = .ok (.iastore, 1) := by decide +kernel
theorem d_Ar_fill2_14 : decode M_Ar_fill2.2.1 14 = .ok (.iinc 2 1, 3) := by decide +kernel
theorem d_Ar_fill2_17 : decode M_Ar_fill2.2.1 17 = .ok (.goto (-12), 3) := by decide +kernel
theorem d_Ar_fill2_20 : decode M_Ar_fill2.2.1 20 = .ok (.return_, 1) := by decide +kernel
def F_Ar_fill2_5_b (f0 : Nat) (b0 : Nat) (N0 : Int32) (x1 : Int32) (k5 : Int32 → Int32 → Dl → Option (Dl)) (x2 : Int32) (x3 : Int32) (δ : Dl) : Option (Dl) :=
  if x3 ≤ x2 then (some δ) else (if inb x2 N0 then bnd (sA δ f0 b0 x2 x1) fun δ13 => k5 ((x2 + 1)) x3 δ13 else none)
set_option maxRecDepth 20000 in
set_option maxHeartbeats 4000000 in
theorem j_Ar_fill2_5_b {l : Launch} {Γ : Gm} (f0 : Nat) (b0 : Nat) (N0 : Int32) (x1 : Int32) (hw0 : wty f0 = 3) (hz0 : Γ f0 b0 ≠ 0) (hn0 : N0.toInt = (wlen f0 b0 : Nat)) (hl0 : Int32.ofNat (wlen f0 b0) = N0) (k5 : Int32 → Int32 → Dl → Option (Dl)) (x2 : Int32) (x3 : Int32) (δ : Dl) (r : Dl) (hk5 : ∀ (x2 : Int32) (x3 : Int32) (δ : Dl),  k5 x2 x3 δ = some r → Xe l M_Ar_fill2 0 0 0 NF 5 [some (.inr (f0, b0)), some (.inl x1), some (.inl x2), some (.inl x3)] [] 0 0 Γ δ (none, Γ, r)) (h : F_Ar_fill2_5_b f0 b0 N0 x1 k5 x2 x3 δ = some r) : Xe l M_Ar_fill2 0 0 0 NF 5 [some (.inr (f0, b0)), some (.inl x1), some (.inl x2), some (.inl x3)] [] 0 0 Γ δ (none, Γ, r) := by
  unfold F_Ar_fill2_5_b at h
  refine x_iload_n (i := 2) d_Ar_fill2_5 rfl rfl ?_
  refine x_iload_n (i := 3) d_Ar_fill2_6 rfl rfl ?_
  refine x_cmp_ge (tgt := 20) d_Ar_fill2_7 (by decide) (fun c7 => ?_) (fun c7 => ?_)
  · have h := if_t c7 h
    replace h := Option.some.inj h; subst h
    exact x_vret rfl d_Ar_fill2_20 (Nat.le_refl 0) (Nat.le_refl 0)
  · have h := if_f c7 h
    refine x_aload_n (i := 0) d_Ar_fill2_10 rfl rfl ?_
    refine x_iload_n (i := 2) d_Ar_fill2_11 rfl rfl ?_
    refine x_iload_n (i := 1) d_Ar_fill2_12 rfl rfl ?_
    obtain ⟨g13, h⟩ := gd_e h
    obtain ⟨δ13, eδ13, h⟩ := bn_e h
    refine x_iast (n := N0) hw0 hz0 hn0 g13 d_Ar_fill2_13 (Xe.cδ eδ13 ?_)
    refine x_inc (i := 2) (c0 := 1) (ls' := [some (.inr (f0, b0)), some (.inl x1), some (.inl (x2 + 1)), some (.inl x3)]) d_Ar_fill2_14 (by decide) rfl (by decide) rfl ?_
    refine x_goto (tgt := 5) d_Ar_fill2_17 (by decide) ?_
    exact hk5 ((x2 + 1)) x3 δ13 h
def F_Ar_fill2_5 (f0 : Nat) (b0 : Nat) (N0 : Int32) (x1 : Int32) : Nat → Int32 → Int32 → Dl → Option (Dl)
  | 0, _, _, _ => none
  | n + 1, x2, x3, δ => F_Ar_fill2_5_b f0 b0 N0 x1 (F_Ar_fill2_5 f0 b0 N0 x1 n) x2 x3 δ
theorem j_Ar_fill2_5 {l : Launch} {Γ : Gm} (f0 : Nat) (b0 : Nat) (N0 : Int32) (x1 : Int32) (hw0 : wty f0 = 3) (hz0 : Γ f0 b0 ≠ 0) (hn0 : N0.toInt = (wlen f0 b0 : Nat)) (hl0 : Int32.ofNat (wlen f0 b0) = N0) (n : Nat) (x2 : Int32) (x3 : Int32) (δ : Dl) (r : Dl) (h : F_Ar_fill2_5 f0 b0 N0 x1 n x2 x3 δ = some r) : Xe l M_Ar_fill2 0 0 0 NF 5 [some (.inr (f0, b0)), some (.inl x1), some (.inl x2), some (.inl x3)] [] 0 0 Γ δ (none, Γ, r) := by
  induction n generalizing x2 x3 δ with
  | zero => cases h
  | succ n ih => exact j_Ar_fill2_5_b f0 b0 N0 x1 hw0 hz0 hn0 hl0 (F_Ar_fill2_5 f0 b0 N0 x1 n) x2 x3 δ r (fun x2 x3 δ hh => ih x2 x3 δ hh) h
def F_Ar_fill2 (f0 : Nat) (b0 : Nat) (N0 : Int32) (x1 : Int32) (δ : Dl) : Option (Dl) :=
  F_Ar_fill2_5 f0 b0 N0 x1 FU 0 N0 δ
set_option maxRecDepth 20000 in
set_option maxHeartbeats 4000000 in
theorem c_Ar_fill2 {l : Launch} {Γ : Gm} (f0 : Nat) (b0 : Nat) (N0 : Int32) (x1 : Int32) (hw0 : wty f0 = 3) (hz0 : Γ f0 b0 ≠ 0) (hn0 : N0.toInt = (wlen f0 b0 : Nat)) (hl0 : Int32.ofNat (wlen f0 b0) = N0) (δ : Dl) (r : Dl) (h : F_Ar_fill2 f0 b0 N0 x1  δ = some r) : Ct l M_Ar_fill2 0 0 0 NF [.inr (f0, b0), .inl x1] Γ δ (none, Γ, r) := by
  unfold F_Ar_fill2 at h
  refine Ct.of2 (n := 2) (ls := [some (.inr (f0, b0)), some (.inl x1), none, none]) rfl (by decide +kernel) (Nat.le_of_ble_eq_true rfl) ?_
  refine x_ic (v := 0) d_Ar_fill2_0 (by decide) ?_
  refine x_stn (i := 2) (ls' := [some (.inr (f0, b0)), some (.inl x1), some (.inl 0), none]) d_Ar_fill2_1 rfl (by decide) rfl ?_
  refine x_aload_n (i := 0) d_Ar_fill2_2 rfl rfl ?_
  refine x_alen (n := N0) (Or.inl hw0) hz0 hl0 d_Ar_fill2_3 ?_
  refine x_stn (i := 3) (ls' := [some (.inr (f0, b0)), some (.inl x1), some (.inl 0), some (.inl N0)]) d_Ar_fill2_4 rfl (by decide) rfl ?_
  exact j_Ar_fill2_5 f0 b0 N0 x1 hw0 hz0 hn0 hl0 FU 0 N0 δ r h
-- java/util/Arrays.fill([IIII)V
theorem d_Ar_fill4_0 : decode M_Ar_fill4.2.1 0 = .ok (.aload_n 0, 1) := by decide +kernel
theorem d_Ar_fill4_1 : decode M_Ar_fill4.2.1 1 = .ok (.arraylength, 1) := by decide +kernel
theorem d_Ar_fill4_2 : decode M_Ar_fill4.2.1 2 = .ok (.iload_n 1, 1) := by decide +kernel
theorem d_Ar_fill4_3 : decode M_Ar_fill4.2.1 3 = .ok (.iload_n 2, 1) := by decide +kernel
theorem d_Ar_fill4_4 : decode M_Ar_fill4.2.1 4 = .ok (.invokestatic 13, 3) := by decide +kernel
theorem d_Ar_fill4_7 : decode M_Ar_fill4.2.1 7 = .ok (.iload_n 1, 1) := by decide +kernel
theorem d_Ar_fill4_8 : decode M_Ar_fill4.2.1 8 = .ok (.istore 4, 2) := by decide +kernel
theorem d_Ar_fill4_10 : decode M_Ar_fill4.2.1 10 = .ok (.iload 4, 2) := by decide +kernel
theorem d_Ar_fill4_12 : decode M_Ar_fill4.2.1 12 = .ok (.iload_n 2, 1) := by decide +kernel
theorem d_Ar_fill4_13 : decode M_Ar_fill4.2.1 13 = .ok (.if_icmp .ge 14, 3) := by decide +kernel
theorem d_Ar_fill4_16 : decode M_Ar_fill4.2.1 16 = .ok (.aload_n 0, 1) := by decide +kernel
theorem d_Ar_fill4_17 : decode M_Ar_fill4.2.1 17 = .ok (.iload 4, 2) := by decide +kernel
theorem d_Ar_fill4_19 : decode M_Ar_fill4.2.1 19 = .ok (.iload_n 3, 1) := by decide +kernel
theorem d_Ar_fill4_20 : decode M_Ar_fill4.2.1 20 = .ok (.iastore, 1) := by decide +kernel
theorem d_Ar_fill4_21 : decode M_Ar_fill4.2.1 21 = .ok (.iinc 4 1, 3) := by decide +kernel
theorem d_Ar_fill4_24 : decode M_Ar_fill4.2.1 24 = .ok (.goto (-14), 3) := by decide +kernel
theorem d_Ar_fill4_27 : decode M_Ar_fill4.2.1 27 = .ok (.return_, 1) := by decide +kernel
theorem mi_Ar_rangeCheck : MI M_Ar_rangeCheck 3 := ⟨(lwg_at 4 (by decide +kernel) rfl), (lwg_at 392 (by decide +kernel) rfl), ⟨by decide +kernel, by decide +kernel⟩, by decide +kernel, by decide⟩
theorem cs_Ar_13 : CS "java/util/Arrays" 13 M_Ar_rangeCheck 3 := ⟨(lwg_at 390 (by decide +kernel) rfl), (lwg_at 391 (by decide +kernel) rfl), mi_Ar_rangeCheck⟩
def F_Ar_fill4_10_b (f0 : Nat) (b0 : Nat) (N0 : Int32) (x1 : Int32) (x2 : Int32) (x3 : Int32) (k10 : Int32 → Dl → Option (Dl)) (x4 : Int32) (δ : Dl) : Option (Dl) :=
  if x2 ≤ x4 then (some δ) else (if inb x4 N0 then bnd (sA δ f0 b0 x4 x3) fun δ20 => k10 ((x4 + 1)) δ20 else none)
set_option maxRecDepth 20000 in
set_option maxHeartbeats 4000000 in
theorem j_Ar_fill4_10_b {l : Launch} {Γ : Gm} (f0 : Nat) (b0 : Nat) (N0 : Int32) (x1 : Int32) (x2 : Int32) (x3 : Int32) (hw0 : wty f0 = 3) (hz0 : Γ f0 b0 ≠ 0) (hn0 : N0.toInt = (wlen f0 b0 : Nat)) (hl0 : Int32.ofNat (wlen f0 b0) = N0) (k10 : Int32 → Dl → Option (Dl)) (x4 : Int32) (δ : Dl) (r : Dl) (hk10 : ∀ (x4 : Int32) (δ : Dl),  k10 x4 δ = some r → Xe l M_Ar_fill4 1 0 0 NF 10 [some (.inr (f0, b0)), none, some (.inl x2), some (.inl x3), some (.inl x4)] [] 0 0 Γ δ (none, Γ, r)) (h : F_Ar_fill4_10_b f0 b0 N0 x1 x2 x3 k10 x4 δ = some r) : Xe l M_Ar_fill4 1 0 0 NF 10 [some (.inr (f0, b0)), none, some (.inl x2), some (.inl x3), some (.inl x4)] [] 0 0 Γ δ (none, Γ, r) := by
  unfold F_Ar_fill4_10_b at h
  refine x_iload (i := 4) d_Ar_fill4_10 rfl ?_
  refine x_iload_n (i := 2) d_Ar_fill4_12 rfl rfl ?_
  refine x_cmp_ge (tgt := 27) d_Ar_fill4_13 (by decide) (fun c13 => ?_) (fun c13 => ?_)
  · have h := if_t c13 h
    replace h := Option.some.inj h; subst h
    exact x_vret rfl d_Ar_fill4_27 (Nat.le_refl 0) (Nat.le_refl 0)
  · have h := if_f c13 h
    refine x_aload_n (i := 0) d_Ar_fill4_16 rfl rfl ?_
    refine x_iload (i := 4) d_Ar_fill4_17 rfl ?_
    refine x_iload_n (i := 3) d_Ar_fill4_19 rfl rfl ?_
    obtain ⟨g20, h⟩ := gd_e h
    obtain ⟨δ20, eδ20, h⟩ := bn_e h
    refine x_iast (n := N0) hw0 hz0 hn0 g20 d_Ar_fill4_20 (Xe.cδ eδ20 ?_)
    refine x_inc (i := 4) (c0 := 1) (ls' := [some (.inr (f0, b0)), none, some (.inl x2), some (.inl x3), some (.inl (x4 + 1))]) d_Ar_fill4_21 (by decide) rfl (by decide) rfl ?_
    refine x_goto (tgt := 10) d_Ar_fill4_24 (by decide) ?_
    exact hk10 ((x4 + 1)) δ20 h
def F_Ar_fill4_10 (f0 : Nat) (b0 : Nat) (N0 : Int32) (x1 : Int32) (x2 : Int32) (x3 : Int32) : Nat → Int32 → Dl → Option (Dl)
  | 0, _, _ => none
  | n + 1, x4, δ => F_Ar_fill4_10_b f0 b0 N0 x1 x2 x3 (F_Ar_fill4_10 f0 b0 N0 x1 x2 x3 n) x4 δ
theorem j_Ar_fill4_10 {l : Launch} {Γ : Gm} (f0 : Nat) (b0 : Nat) (N0 : Int32) (x1 : Int32) (x2 : Int32) (x3 : Int32) (hw0 : wty f0 = 3) (hz0 : Γ f0 b0 ≠ 0) (hn0 : N0.toInt = (wlen f0 b0 : Nat)) (hl0 : Int32.ofNat (wlen f0 b0) = N0) (n : Nat) (x4 : Int32) (δ : Dl) (r : Dl) (h : F_Ar_fill4_10 f0 b0 N0 x1 x2 x3 n x4 δ = some r) : Xe l M_Ar_fill4 1 0 0 NF 10 [some (.inr (f0, b0)), none, some (.inl x2), some (.inl x3), some (.inl x4)] [] 0 0 Γ δ (none, Γ, r) := by
  induction n generalizing x4 δ with
  | zero => cases h
  | succ n ih => exact j_Ar_fill4_10_b f0 b0 N0 x1 x2 x3 hw0 hz0 hn0 hl0 (F_Ar_fill4_10 f0 b0 N0 x1 x2 x3 n) x4 δ r (fun x4 δ hh => ih x4 δ hh) h
def F_Ar_fill4 (f0 : Nat) (b0 : Nat) (N0 : Int32) (x1 : Int32) (x2 : Int32) (x3 : Int32) (δ : Dl) : Option (Dl) :=
  (F_Ar_rangeCheck N0 x1 x2).bind fun v4 => F_Ar_fill4_10 f0 b0 N0 x1 x2 x3 FU x1 δ
set_option maxRecDepth 20000 in
set_option maxHeartbeats 4000000 in
theorem c_Ar_fill4 {l : Launch} {Γ : Gm} (f0 : Nat) (b0 : Nat) (N0 : Int32) (x1 : Int32) (x2 : Int32) (x3 : Int32) (hw0 : wty f0 = 3) (hz0 : Γ f0 b0 ≠ 0) (hn0 : N0.toInt = (wlen f0 b0 : Nat)) (hl0 : Int32.ofNat (wlen f0 b0) = N0) (δ : Dl) (r : Dl) (h : F_Ar_fill4 f0 b0 N0 x1 x2 x3  δ = some r) : Ct l M_Ar_fill4 1 0 0 NF [.inr (f0, b0), .inl x1, .inl x2, .inl x3] Γ δ (none, Γ, r) := by
  unfold F_Ar_fill4 at h
  refine Ct.of2 (n := 1) (ls := [some (.inr (f0, b0)), some (.inl x1), some (.inl x2), some (.inl x3), none]) rfl (by decide +kernel) (Nat.le_of_ble_eq_true rfl) ?_
  refine x_aload_n (i := 0) d_Ar_fill4_0 rfl rfl ?_
  refine x_alen (n := N0) (Or.inl hw0) hz0 hl0 d_Ar_fill4_1 ?_
  refine x_iload_n (i := 1) d_Ar_fill4_2 rfl rfl ?_
  refine x_iload_n (i := 2) d_Ar_fill4_3 rfl rfl ?_
  obtain ⟨v4, ev4, h⟩ := bd_e h
  refine y_S3v cs_Ar_13 (by first | decide | omega) (Nat.le_of_ble_eq_true rfl) d_Ar_fill4_4 (c_Ar_rangeCheck N0 x1 x2  δ v4 ev4) (Nat.le_refl 0) (Nat.le_refl 0) ?_
  refine x_iload_n (i := 1) d_Ar_fill4_7 rfl rfl ?_
  refine x_stw (i := 4) (ls' := [some (.inr (f0, b0)), some (.inl x1), some (.inl x2), some (.inl x3), some (.inl x1)]) d_Ar_fill4_8 (by decide) rfl ?_
  refine x_wk (ls' := [some (.inr (f0, b0)), none, some (.inl x2), some (.inl x3), some (.inl x1)]) ⟨Or.inr rfl, Or.inl rfl, Or.inr rfl, Or.inr rfl, Or.inr rfl, trivial⟩ ?_
  exact j_Ar_fill4_10 f0 b0 N0 x1 x2 x3 hw0 hz0 hn0 hl0 FU x1 δ r h
