/-! walks by program (wip/whole/gen.py): 16.wish -/
abbrev M_Wi_readWord : MM := (⟨RX10, "readWord", "(LBlockStage$Bytes;Ljava/lang/String;)Z"⟩, prog_12_method_4_code, 4, (some .boolean))
abbrev M_Wi_readWhen : MM := (⟨RX10, "readWhen", "(LBlockStage$Bytes;I)Z"⟩, prog_12_method_5_code, 5, (some .boolean))
abbrev M_Wi_fieldOf : MM := (⟨RX10, "fieldOf", "(I)I"⟩, prog_12_method_7_code, 1, (some .int))
abbrev M_Wi_readField : MM := (⟨RX10, "readField", "(LBlockStage$Bytes;I)Z"⟩, prog_12_method_6_code, 5, (some .boolean))
abbrev M_Wi_readSign : MM := (⟨RX10, "readSign", "(LBlockStage$Bytes;I)Z"⟩, prog_12_method_8_code, 4, (some .boolean))
abbrev M_Wi_readNumber : MM := (⟨RX10, "readNumber", "(LBlockStage$Bytes;I)Z"⟩, prog_12_method_9_code, 6, (some .boolean))
abbrev M_Wi_readPart : MM := (⟨RX10, "readPart", "(LBlockStage$Bytes;I)Z"⟩, prog_12_method_3_code, 3, (some .boolean))
abbrev M_Wi_read : MM := (⟨RX10, "read", "(LBlockStage$Bytes;)I"⟩, prog_12_method_2_code, 3, (some .int))
abbrev M_Wi_fieldIn : MM := (⟨RX10, "fieldIn", "(LBlockStage$Run;II)I"⟩, prog_12_method_13_code, 3, (some .int))
abbrev M_Wi_partsSo : MM := (⟨RX10, "partsSo", "(LBlockStage$Run;)I"⟩, prog_12_method_12_code, 6, (some .int))
abbrev M_Wi_isBroken : MM := (⟨RX10, "isBroken", "(I)Z"⟩, prog_12_method_11_code, 2, (some .boolean))
abbrev M_Wi_lostIn : MM := (⟨RX10, "lostIn", "(LBlockStage$Run;LBlockStage$Stage;I)I"⟩, prog_12_method_10_code, 7, (some .int))
-- BlockStage$Wish.readWord(LBlockStage$Bytes;Ljava/lang/String;)Z
theorem d_Wi_readWord_0 : decode M_Wi_readWord.2.1 0 = .ok (.iconst 0, 1) := by decide +kernel
theorem d_Wi_readWord_1 : decode M_Wi_readWord.2.1 1 = .ok (.istore_n 3, 1) := by decide +kernel
theorem d_Wi_readWord_2 : decode M_Wi_readWord.2.1 2 = .ok (.iload_n 3, 1) := by decide +kernel
theorem d_Wi_readWord_3 : decode M_Wi_readWord.2.1 3 = .ok (.aload_n 2, 1) := by decide +kernel
theorem d_Wi_readWord_4 : decode M_Wi_readWord.2.1 4 = .ok (.invokevirtual 69, 3) := by decide +kernel
theorem d_Wi_readWord_7 : decode M_Wi_readWord.2.1 7 = .ok (.if_icmp .ge 37, 3) := by decide +kernel
theorem d_Wi_readWord_10 : decode M_Wi_readWord.2.1 10 = .ok (.aload_n 1, 1) := by decide +kernel
theorem d_Wi_readWord_11 : decode M_Wi_readWord.2.1 11 = .ok (.aload_n 0, 1) := by decide +kernel
theorem d_Wi_readWord_12 : decode M_Wi_readWord.2.1 12 = .ok (.getfield 31, 3) := by decide +kernel
theorem d_Wi_readWord_15 : decode M_Wi_readWord.2.1 15 = .ok (.invokevirtual 74, 3) := by decide +kernel
theorem d_Wi_readWord_18 : decode M_Wi_readWord.2.1 18 = .ok (.aload_n 2, 1) := by decide +kernel
theorem d_Wi_readWord_19 : decode M_Wi_readWord.2.1 19 = .ok (.iload_n 3, 1) := by decide +kernel
theorem d_Wi_readWord_20 : decode M_Wi_readWord.2.1 20 = .ok (.invokevirtual 78, 3) := by decide +kernel
theorem d_Wi_readWord_23 : decode M_Wi_readWord.2.1 23 = .ok (.if_icmp .eq 5, 3) := by decide +kernel
theorem d_Wi_readWord_26 : decode M_Wi_readWord.2.1 26 = .ok (.iconst 0, 1) := by decide +kernel
theorem d_Wi_readWord_27 : decode M_Wi_readWord.2.1 27 = .ok (.ireturn, 1) := by decide +kernel
theorem d_Wi_readWord_28 : decode M_Wi_readWord.2.1 28 = .ok (.aload_n 0, 1) := by decide +kernel
theorem d_Wi_readWord_29 : decode M_Wi_readWord.2.1 29 = .ok (.dup, 1) := by decide +kernel
theorem d_Wi_readWord_30 : decode M_Wi_readWord.2.1 30 = .ok (.getfield 31, 3) := by decide +kernel
theorem d_Wi_readWord_33 : decode M_Wi_readWord.2.1 33 = .ok (.iconst 1, 1) := by decide +kernel
theorem d_Wi_readWord_34 : decode M_Wi_readWord.2.1 34 = .ok (.iadd, 1) := by decide +kernel
theorem d_Wi_readWord_35 : decode M_Wi_readWord.2.1 35 = .ok (.putfield 31, 3) := by decide +kernel
theorem d_Wi_readWord_38 : decode M_Wi_readWord.2.1 38 = .ok (.iinc 3 1, 3) := by decide +kernel
theorem d_Wi_readWord_41 : decode M_Wi_readWord.2.1 41 = .ok (.goto (-39), 3) := by decide +kernel
theorem d_Wi_readWord_44 : decode M_Wi_readWord.2.1 44 = .ok (.iconst 1, 1) := by decide +kernel
theorem d_Wi_readWord_45 : decode M_Wi_readWord.2.1 45 = .ok (.ireturn, 1) := by decide +kernel
theorem mi_Js_length : MI M_Js_length 0 := ⟨(lwg_at 12 (by decide +kernel) rfl), (lwg_at 721 (by decide +kernel) rfl), ⟨by decide +kernel, by decide +kernel⟩, by decide +kernel, by decide⟩
theorem cs_Wi_69 : CV RX10 69 "java/lang/String" M_Js_length 0 := ⟨(lwg_at 718 (by decide +kernel) rfl), (lwg_at 719 (by decide +kernel) rfl), (lwg_at 720 (by decide +kernel) rfl), mi_Js_length⟩
theorem gl_Wi_31_10 : GL RX10 31 10 6 := ⟨RX10, TX10, 7, RX10, rfl, by decide, (lwg_at 203 (by decide +kernel) rfl), Or.inl rfl, gl_w inX10⟩
theorem mi_By_byteAt : MI M_By_byteAt 1 := ⟨(lwg_at 6 (by decide +kernel) rfl), (lwg_at 731 (by decide +kernel) rfl), ⟨by decide +kernel, by decide +kernel⟩, by decide +kernel, by decide⟩
theorem cs_Wi_74 : CV RX10 74 RX0 M_By_byteAt 1 := ⟨(lwg_at 728 (by decide +kernel) rfl), (lwg_at 729 (by decide +kernel) rfl), (lwg_at 730 (by decide +kernel) rfl), mi_By_byteAt⟩
theorem mi_Js_charAt : MI M_Js_charAt 1 := ⟨(lwg_at 12 (by decide +kernel) rfl), (lwg_at 735 (by decide +kernel) rfl), ⟨by decide +kernel, by decide +kernel⟩, by decide +kernel, by decide⟩
theorem cs_Wi_78 : CV RX10 78 "java/lang/String" M_Js_charAt 1 := ⟨(lwg_at 732 (by decide +kernel) rfl), (lwg_at 733 (by decide +kernel) rfl), (lwg_at 734 (by decide +kernel) rfl), mi_Js_charAt⟩
theorem gp_Wi_31_10 : GP RX10 31 10 6 false .int := ⟨RX10, TX10, 7, RX10, tyX10, rfl, by decide, (lwg_at 203 (by decide +kernel) rfl), rfl, gl_w inX10, tyX10_ok, nmX10, rfl, by decide +kernel, fun h => by first | rfl | cases h⟩
def F_Wi_readWord_2_b (a : Nat) (x1 : Nat) (x2 : Nat) (k2 : Int32 → Dl → Option (Int32 × Dl)) (x3 : Int32) (δ : Dl) : Option (Int32 × Dl) :=
  bnd (F_Js_length x2) fun v4 => if v4 ≤ x3 then (some (1, δ)) else ((F_By_byteAt x1 (δ.1 86 a) δ).bind fun v15 => (F_Js_charAt x2 x3).bind fun v20 => if v15 = v20 then (bnd (sI δ 86 a ((δ.1 86 a) + 1)) fun δ35 => k2 ((x3 + 1)) δ35) else (some (0, δ)))
set_option maxRecDepth 20000 in
set_option maxHeartbeats 4000000 in
theorem j_Wi_readWord_2_b {l : Launch} {Γ : Gm} (hG : GC Γ) (a : Nat) (x1 : Nat) (x2 : Nat) (ha : Oc a 10) (hx1 : Oc x1 0) (hx2 : x2 < 6) (k2 : Int32 → Dl → Option (Int32 × Dl)) (x3 : Int32) (δ : Dl) (r : Int32 × Dl) (hk2 : ∀ (x3 : Int32) (δ : Dl),  k2 x3 δ = some r → Xe l M_Wi_readWord 4 0 0 NF 2 [some (.inr (0, a)), some (.inr (0, x1)), some (.inr (2, x2)), some (.inl x3)] [] 0 0 Γ δ (some (.inl r.1), Γ, r.2)) (h : F_Wi_readWord_2_b a x1 x2 k2 x3 δ = some r) : Xe l M_Wi_readWord 4 0 0 NF 2 [some (.inr (0, a)), some (.inr (0, x1)), some (.inr (2, x2)), some (.inl x3)] [] 0 0 Γ δ (some (.inl r.1), Γ, r.2) := by
  unfold F_Wi_readWord_2_b at h
  have oa := hG.ob ha
  refine x_iload_n (i := 3) d_Wi_readWord_2 rfl rfl ?_
  refine x_aload_n (i := 2) d_Wi_readWord_3 rfl rfl ?_
  obtain ⟨v4, ev4, h⟩ := bn_e h
  refine y_T0 hx2 cs_Wi_69 (by first | decide | omega) (Nat.le_of_ble_eq_true rfl) d_Wi_readWord_4 (c_Js_length x2 hx2 δ v4 ev4) ?_
  refine x_cmp_ge (tgt := 44) d_Wi_readWord_7 (by decide) (fun c7 => ?_) (fun c7 => ?_)
  · have h := if_t c7 h
    refine x_ic (v := 1) d_Wi_readWord_44 (by decide) ?_
    replace h := Option.some.inj h; subst h
    exact x_nret rfl rfl d_Wi_readWord_45 (Nat.le_refl 0) (Nat.le_refl 0)
  · have h := if_f c7 h
    refine x_aload_n (i := 1) d_Wi_readWord_10 rfl rfl ?_
    refine x_aload_n (i := 0) d_Wi_readWord_11 rfl rfl ?_
    refine x_getI (f := 86) gl_Wi_31_10 rfl kf_86 oa d_Wi_readWord_12 ?_
    obtain ⟨v15, ev15, h⟩ := bd_e h
    refine y_V1 cs_Wi_74 rfl (hG.ob hx1) (by first | decide | omega) (Nat.le_of_ble_eq_true rfl) d_Wi_readWord_15 (c_By_byteAt hG x1 (δ.1 86 a) hx1 δ v15 ev15) (Nat.le_refl 0) (Nat.le_refl 0) ?_
    refine x_aload_n (i := 2) d_Wi_readWord_18 rfl rfl ?_
    refine x_iload_n (i := 3) d_Wi_readWord_19 rfl rfl ?_
    obtain ⟨v20, ev20, h⟩ := bd_e h
    refine y_T1 hx2 cs_Wi_78 (by first | decide | omega) (Nat.le_of_ble_eq_true rfl) d_Wi_readWord_20 (c_Js_charAt x2 x3 hx2 δ v20 ev20) ?_
    refine x_cmp_eq (tgt := 28) d_Wi_readWord_23 (by decide) (fun c23 => ?_) (fun c23 => ?_)
    · have h := if_t c23 h
      refine x_aload_n (i := 0) d_Wi_readWord_28 rfl rfl ?_
      refine x_dup d_Wi_readWord_29 ?_
      refine x_getI (f := 86) gl_Wi_31_10 rfl kf_86 oa d_Wi_readWord_30 ?_
      refine x_ic (v := 1) d_Wi_readWord_33 (by decide) ?_
      refine x_iadd d_Wi_readWord_34 ?_
      obtain ⟨δ35, eδ35, h⟩ := bn_e h
      refine x_putI (f := 86) gp_Wi_31_10 rfl kf_86 (fun h => by cases h) rfl rfl oa.1 oa.z d_Wi_readWord_35 (Xe.cδ eδ35 ?_)
      refine x_inc (i := 3) (c0 := 1) (ls' := [some (.inr (0, a)), some (.inr (0, x1)), some (.inr (2, x2)), some (.inl (x3 + 1))]) d_Wi_readWord_38 (by decide) rfl (by decide) rfl ?_
      refine x_goto (tgt := 2) d_Wi_readWord_41 (by decide) ?_
      exact hk2 ((x3 + 1)) δ35 h
    · have h := if_f c23 h
      refine x_ic (v := 0) d_Wi_readWord_26 (by decide) ?_
      replace h := Option.some.inj h; subst h
      exact x_nret rfl rfl d_Wi_readWord_27 (Nat.le_refl 0) (Nat.le_refl 0)
def F_Wi_readWord_2 (a : Nat) (x1 : Nat) (x2 : Nat) : Nat → Int32 → Dl → Option (Int32 × Dl)
  | 0, _, _ => none
  | n + 1, x3, δ => F_Wi_readWord_2_b a x1 x2 (F_Wi_readWord_2 a x1 x2 n) x3 δ
theorem j_Wi_readWord_2 {l : Launch} {Γ : Gm} (hG : GC Γ) (a : Nat) (x1 : Nat) (x2 : Nat) (ha : Oc a 10) (hx1 : Oc x1 0) (hx2 : x2 < 6) (n : Nat) (x3 : Int32) (δ : Dl) (r : Int32 × Dl) (h : F_Wi_readWord_2 a x1 x2 n x3 δ = some r) : Xe l M_Wi_readWord 4 0 0 NF 2 [some (.inr (0, a)), some (.inr (0, x1)), some (.inr (2, x2)), some (.inl x3)] [] 0 0 Γ δ (some (.inl r.1), Γ, r.2) := by
  induction n generalizing x3 δ with
  | zero => cases h
  | succ n ih => exact j_Wi_readWord_2_b hG a x1 x2 ha hx1 hx2 (F_Wi_readWord_2 a x1 x2 n) x3 δ r (fun x3 δ hh => ih x3 δ hh) h
def F_Wi_readWord (a : Nat) (x1 : Nat) (x2 : Nat) (δ : Dl) : Option (Int32 × Dl) :=
  F_Wi_readWord_2 a x1 x2 FU 0 δ
set_option maxRecDepth 20000 in
set_option maxHeartbeats 4000000 in
theorem c_Wi_readWord {l : Launch} {Γ : Gm} (hG : GC Γ) (a : Nat) (x1 : Nat) (x2 : Nat) (ha : Oc a 10) (hx1 : Oc x1 0) (hx2 : x2 < 6) (δ : Dl) (r : Int32 × Dl) (h : F_Wi_readWord a x1 x2  δ = some r) : Ct l M_Wi_readWord 4 0 0 NF [.inr (0, a), .inr (0, x1), .inr (2, x2)] Γ δ (some (.inl r.1), Γ, r.2) := by
  unfold F_Wi_readWord at h
  have oa := hG.ob ha
  refine Ct.of2 (n := 1) (ls := [some (.inr (0, a)), some (.inr (0, x1)), some (.inr (2, x2)), none]) rfl (by decide +kernel) (Nat.le_of_ble_eq_true rfl) ?_
  refine x_ic (v := 0) d_Wi_readWord_0 (by decide) ?_
  refine x_stn (i := 3) (ls' := [some (.inr (0, a)), some (.inr (0, x1)), some (.inr (2, x2)), some (.inl 0)]) d_Wi_readWord_1 rfl (by decide) rfl ?_
  exact j_Wi_readWord_2 hG a x1 x2 ha hx1 hx2 FU 0 δ r h
-- BlockStage$Wish.readWhen(LBlockStage$Bytes;I)Z
theorem d_Wi_readWhen_0 : decode M_Wi_readWhen.2.1 0 = .ok (.aload_n 1, 1) := by decide +kernel
theorem d_Wi_readWhen_1 : decode M_Wi_readWhen.2.1 1 = .ok (.aload_n 0, 1) := by decide +kernel
theorem d_Wi_readWhen_2 : decode M_Wi_readWhen.2.1 2 = .ok (.getfield 31, 3) := by decide +kernel
theorem d_Wi_readWhen_5 : decode M_Wi_readWhen.2.1 5 = .ok (.invokevirtual 74, 3) := by decide +kernel
theorem d_Wi_readWhen_8 : decode M_Wi_readWhen.2.1 8 = .ok (.lookupswitch 80 #[(97, 53), (101, 44), (110, 62), (111, 71)], 44) := by decide +kernel
theorem d_Wi_readWhen_52 : decode M_Wi_readWhen.2.1 52 = .ok (.iconst 0, 1) := by decide +kernel
theorem d_Wi_readWhen_53 : decode M_Wi_readWhen.2.1 53 = .ok (.istore_n 3, 1) := by decide +kernel
theorem d_Wi_readWhen_54 : decode M_Wi_readWhen.2.1 54 = .ok (.ldc 82, 2) := by decide +kernel
theorem d_Wi_readWhen_56 : decode M_Wi_readWhen.2.1 56 = .ok (.astore 4, 2) := by decide +kernel
theorem d_Wi_readWhen_58 : decode M_Wi_readWhen.2.1 58 = .ok (.goto 32, 3) := by decide +kernel
theorem d_Wi_readWhen_61 : decode M_Wi_readWhen.2.1 61 = .ok (.iconst 1, 1) := by decide +kernel
theorem d_Wi_readWhen_62 : decode M_Wi_readWhen.2.1 62 = .ok (.istore_n 3, 1) := by decide +kernel
theorem d_Wi_readWhen_63 : decode M_Wi_readWhen.2.1 63 = .ok (.ldc 84, 2) := by decide +kernel
theorem d_Wi_readWhen_65 : decode M_Wi_readWhen.2.1 65 = .ok (.astore 4, 2) := by decide +kernel
theorem d_Wi_readWhen_67 : decode M_Wi_readWhen.2.1 67 = .ok (.goto 23, 3) := by decide +kernel
theorem d_Wi_readWhen_70 : decode M_Wi_readWhen.2.1 70 = .ok (.iconst 2, 1) := by decide +kernel
theorem d_Wi_readWhen_71 : decode M_Wi_readWhen.2.1 71 = .ok (.istore_n 3, 1) := by decide +kernel
theorem d_Wi_readWhen_72 : decode M_Wi_readWhen.2.1 72 = .ok (.ldc 86, 2) := by decide +kernel
theorem d_Wi_readWhen_74 : decode M_Wi_readWhen.2.1 74 = .ok (.astore 4, 2) := by decide +kernel
theorem d_Wi_readWhen_76 : decode M_Wi_readWhen.2.1 76 = .ok (.goto 14, 3) := by decide +kernel
theorem d_Wi_readWhen_79 : decode M_Wi_readWhen.2.1 79 = .ok (.iconst 3, 1) := by decide +kernel
theorem d_Wi_readWhen_80 : decode M_Wi_readWhen.2.1 80 = .ok (.istore_n 3, 1) := by decide +kernel
theorem d_Wi_readWhen_81 : decode M_Wi_readWhen.2.1 81 = .ok (.ldc 88, 2) := by decide +kernel
theorem d_Wi_readWhen_83 : decode M_Wi_readWhen.2.1 83 = .ok (.astore 4, 2) := by decide +kernel
theorem d_Wi_readWhen_85 : decode M_Wi_readWhen.2.1 85 = .ok (.goto 5, 3) := by decide +kernel
theorem d_Wi_readWhen_88 : decode M_Wi_readWhen.2.1 88 = .ok (.iconst 0, 1) := by decide +kernel
theorem d_Wi_readWhen_89 : decode M_Wi_readWhen.2.1 89 = .ok (.ireturn, 1) := by decide +kernel
theorem d_Wi_readWhen_90 : decode M_Wi_readWhen.2.1 90 = .ok (.aload_n 0, 1) := by decide +kernel
theorem d_Wi_readWhen_91 : decode M_Wi_readWhen.2.1 91 = .ok (.getfield 15, 3) := by decide +kernel
theorem d_Wi_readWhen_94 : decode M_Wi_readWhen.2.1 94 = .ok (.iload_n 3, 1) := by decide +kernel
theorem d_Wi_readWhen_95 : decode M_Wi_readWhen.2.1 95 = .ok (.aload_n 0, 1) := by decide +kernel
theorem d_Wi_readWhen_96 : decode M_Wi_readWhen.2.1 96 = .ok (.getfield 15, 3) := by decide +kernel
theorem d_Wi_readWhen_99 : decode M_Wi_readWhen.2.1 99 = .ok (.iload_n 3, 1) := by decide +kernel
theorem d_Wi_readWhen_100 : decode M_Wi_readWhen.2.1 100 = .ok (.iaload, 1) := by decide +kernel
theorem d_Wi_readWhen_101 : decode M_Wi_readWhen.2.1 101 = .ok (.iconst 1, 1) := by decide +kernel
theorem d_Wi_readWhen_102 : decode M_Wi_readWhen.2.1 102 = .ok (.iload_n 2, 1) := by decide +kernel
theorem d_Wi_readWhen_103 : decode M_Wi_readWhen.2.1 103 = .ok (.ishl, 1) := by decide +kernel
theorem d_Wi_readWhen_104 : decode M_Wi_readWhen.2.1 104 = .ok (.ior, 1) := by decide +kernel
theorem d_Wi_readWhen_105 : decode M_Wi_readWhen.2.1 105 = .ok (.iastore, 1) := by decide +kernel
theorem d_Wi_readWhen_106 : decode M_Wi_readWhen.2.1 106 = .ok (.aload_n 0, 1) := by decide +kernel
theorem d_Wi_readWhen_107 : decode M_Wi_readWhen.2.1 107 = .ok (.aload_n 1, 1) := by decide +kernel
theorem d_Wi_readWhen_108 : decode M_Wi_readWhen.2.1 108 = .ok (.aload 4, 2) := by decide +kernel
theorem d_Wi_readWhen_110 : decode M_Wi_readWhen.2.1 110 = .ok (.invokevirtual 42, 3) := by decide +kernel
theorem d_Wi_readWhen_113 : decode M_Wi_readWhen.2.1 113 = .ok (.ireturn, 1) := by decide +kernel
theorem gl_Wi_15_10 : GL RX10 15 10 1 := ⟨RX10, TX10, 7, RX10, rfl, by decide, (lwg_at 198 (by decide +kernel) rfl), Or.inl rfl, gl_w inX10⟩
theorem mi_Wi_readWord : MI M_Wi_readWord 2 := ⟨(lwg_at 8 (by decide +kernel) rfl), (lwg_at 717 (by decide +kernel) rfl), ⟨by decide +kernel, by decide +kernel⟩, by decide +kernel, by decide⟩
theorem cs_Wi_42 : CV RX10 42 RX10 M_Wi_readWord 2 := ⟨(lwg_at 714 (by decide +kernel) rfl), (lwg_at 716 (by decide +kernel) rfl), (lwg_priv 9 (y := M_Wi_readWord.1) (n := 7) (by decide +kernel)), mi_Wi_readWord⟩
def F_Wi_readWhen_90 (a : Nat) (x1 : Nat) (x2 : Int32) (x3 : Int32) (x4 : Nat) (δ : Dl) : Option (Int32 × Dl) :=
  if inb x3 4 then if inb x3 4 then bnd (sA δ 81 a x3 ((δ.2.1 81 a x3) ||| (1 <<< (x2 &&& 31)))) fun δ105 => bd2 (F_Wi_readWord a x1 x4 δ105) fun v110 δ110 => if v110 = 0 ∨ v110 = 1 then some (v110, δ110) else none else none else none
set_option maxRecDepth 20000 in
set_option maxHeartbeats 4000000 in
theorem j_Wi_readWhen_90 {l : Launch} {Γ : Gm} (hG : GC Γ) (a : Nat) (x1 : Nat) (x2 : Int32) (ha : Oc a 10) (hx1 : Oc x1 0) (x3 : Int32) (x4 : Nat) (δ : Dl) (r : Int32 × Dl) (hx4 : x4 < 6) (h : F_Wi_readWhen_90 a x1 x2 x3 x4 δ = some r) : Xe l M_Wi_readWhen 5 0 0 NF 90 [some (.inr (0, a)), some (.inr (0, x1)), some (.inl x2), some (.inl x3), some (.inr (2, x4))] [] 0 0 Γ δ (some (.inl r.1), Γ, r.2) := by
  unfold F_Wi_readWhen_90 at h
  have oa := hG.ob ha
  refine x_aload_n (i := 0) d_Wi_readWhen_90 rfl rfl ?_
  refine x_getA (f := 81) gl_Wi_15_10 rfl (by rw [kf_81]; decide) oa d_Wi_readWhen_91 ?_
  refine x_iload_n (i := 3) d_Wi_readWhen_94 rfl rfl ?_
  refine x_aload_n (i := 0) d_Wi_readWhen_95 rfl rfl ?_
  refine x_getA (f := 81) gl_Wi_15_10 rfl (by rw [kf_81]; decide) oa d_Wi_readWhen_96 ?_
  refine x_iload_n (i := 3) d_Wi_readWhen_99 rfl rfl ?_
  obtain ⟨g100, h⟩ := gd_e h
  refine x_iald (n := 4) kf_81 (oz_81 oa) (ln_81 _) g100 d_Wi_readWhen_100 ?_
  refine x_ic (v := 1) d_Wi_readWhen_101 (by decide) ?_
  refine x_iload_n (i := 2) d_Wi_readWhen_102 rfl rfl ?_
  refine x_ishl d_Wi_readWhen_103 ?_
  refine x_ior d_Wi_readWhen_104 ?_
  obtain ⟨g105, h⟩ := gd_e h
  obtain ⟨δ105, eδ105, h⟩ := bn_e h
  refine x_iast (n := 4) kf_81 (oz_81 oa) (ln_81 _) g105 d_Wi_readWhen_105 (Xe.cδ eδ105 ?_)
  refine x_aload_n (i := 0) d_Wi_readWhen_106 rfl rfl ?_
  refine x_aload_n (i := 1) d_Wi_readWhen_107 rfl rfl ?_
  refine x_aload (i := 4) d_Wi_readWhen_108 rfl ?_
  obtain ⟨v110, δ110, eδ110, h⟩ := bd2_e h
  refine y_V2 cs_Wi_42 rfl oa (by first | decide | omega) (Nat.le_of_ble_eq_true rfl) d_Wi_readWhen_110 (c_Wi_readWord hG a x1 x4 ha hx1 hx4 δ105 (v110, δ110) eδ110) (Nat.le_refl 0) (Nat.le_refl 0) ?_
  obtain ⟨g113, h⟩ := gd_e h
  replace h := Option.some.inj h; subst h
  exact x_nret rfl (nb_of g113) d_Wi_readWhen_113 (Nat.le_refl 0) (Nat.le_refl 0)
def F_Wi_readWhen (a : Nat) (x1 : Nat) (x2 : Int32) (δ : Dl) : Option (Int32 × Dl) :=
  (F_By_byteAt x1 (δ.1 86 a) δ).bind fun v5 => if v5 = 97 then (F_Wi_readWhen_90 a x1 x2 1 2 δ) else if v5 = 101 then (F_Wi_readWhen_90 a x1 x2 0 1 δ) else if v5 = 110 then (F_Wi_readWhen_90 a x1 x2 2 3 δ) else if v5 = 111 then (F_Wi_readWhen_90 a x1 x2 3 4 δ) else (some (0, δ))
set_option maxRecDepth 20000 in
set_option maxHeartbeats 4000000 in
theorem c_Wi_readWhen {l : Launch} {Γ : Gm} (hG : GC Γ) (a : Nat) (x1 : Nat) (x2 : Int32) (ha : Oc a 10) (hx1 : Oc x1 0) (δ : Dl) (r : Int32 × Dl) (h : F_Wi_readWhen a x1 x2  δ = some r) : Ct l M_Wi_readWhen 5 0 0 NF [.inr (0, a), .inr (0, x1), .inl x2] Γ δ (some (.inl r.1), Γ, r.2) := by
  unfold F_Wi_readWhen at h
  have oa := hG.ob ha
  refine Ct.of2 (n := 2) (ls := [some (.inr (0, a)), some (.inr (0, x1)), some (.inl x2), none, none]) rfl (by decide +kernel) (Nat.le_of_ble_eq_true rfl) ?_
  refine x_aload_n (i := 1) d_Wi_readWhen_0 rfl rfl ?_
  refine x_aload_n (i := 0) d_Wi_readWhen_1 rfl rfl ?_
  refine x_getI (f := 86) gl_Wi_31_10 rfl kf_86 oa d_Wi_readWhen_2 ?_
  obtain ⟨v5, ev5, h⟩ := bd_e h
  refine y_V1 cs_Wi_74 rfl (hG.ob hx1) (by first | decide | omega) (Nat.le_of_ble_eq_true rfl) d_Wi_readWhen_5 (c_By_byteAt hG x1 (δ.1 86 a) hx1 δ v5 ev5) (Nat.le_refl 0) (Nat.le_refl 0) ?_
  by_cases c8_0 : v5 = 97
  · have h := if_t c8_0 h
    refine x_lks (off := 53) (tgt := 61) d_Wi_readWhen_8 (by decide) (by rw [c8_0]; decide) (by decide) ?_
    refine x_ic (v := 1) d_Wi_readWhen_61 (by decide) ?_
    refine x_stn (i := 3) (ls' := [some (.inr (0, a)), some (.inr (0, x1)), some (.inl x2), some (.inl 1), none]) d_Wi_readWhen_62 rfl (by decide) rfl ?_
    refine x_ldcS2 rfl d_Wi_readWhen_63 ?_
    refine x_asw (i := 4) (ls' := [some (.inr (0, a)), some (.inr (0, x1)), some (.inl x2), some (.inl 1), some (.inr (2, 2))]) d_Wi_readWhen_65 (by decide) rfl ?_
    refine x_goto (tgt := 90) d_Wi_readWhen_67 (by decide) ?_
    exact j_Wi_readWhen_90 hG a x1 x2 ha hx1 1 2 δ r (by decide) h
  have h := if_f c8_0 h
  by_cases c8_1 : v5 = 101
  · have h := if_t c8_1 h
    refine x_lks (off := 44) (tgt := 52) d_Wi_readWhen_8 (by decide) (by rw [c8_1]; decide) (by decide) ?_
    refine x_ic (v := 0) d_Wi_readWhen_52 (by decide) ?_
    refine x_stn (i := 3) (ls' := [some (.inr (0, a)), some (.inr (0, x1)), some (.inl x2), some (.inl 0), none]) d_Wi_readWhen_53 rfl (by decide) rfl ?_
    refine x_ldcS1 rfl d_Wi_readWhen_54 ?_
    refine x_asw (i := 4) (ls' := [some (.inr (0, a)), some (.inr (0, x1)), some (.inl x2), some (.inl 0), some (.inr (2, 1))]) d_Wi_readWhen_56 (by decide) rfl ?_
    refine x_goto (tgt := 90) d_Wi_readWhen_58 (by decide) ?_
    exact j_Wi_readWhen_90 hG a x1 x2 ha hx1 0 1 δ r (by decide) h
  have h := if_f c8_1 h
  by_cases c8_2 : v5 = 110
  · have h := if_t c8_2 h
    refine x_lks (off := 62) (tgt := 70) d_Wi_readWhen_8 (by decide) (by rw [c8_2]; decide) (by decide) ?_
    refine x_ic (v := 2) d_Wi_readWhen_70 (by decide) ?_
    refine x_stn (i := 3) (ls' := [some (.inr (0, a)), some (.inr (0, x1)), some (.inl x2), some (.inl 2), none]) d_Wi_readWhen_71 rfl (by decide) rfl ?_
    refine x_ldcS3 rfl d_Wi_readWhen_72 ?_
    refine x_asw (i := 4) (ls' := [some (.inr (0, a)), some (.inr (0, x1)), some (.inl x2), some (.inl 2), some (.inr (2, 3))]) d_Wi_readWhen_74 (by decide) rfl ?_
    refine x_goto (tgt := 90) d_Wi_readWhen_76 (by decide) ?_
    exact j_Wi_readWhen_90 hG a x1 x2 ha hx1 2 3 δ r (by decide) h
  have h := if_f c8_2 h
  by_cases c8_3 : v5 = 111
  · have h := if_t c8_3 h
    refine x_lks (off := 71) (tgt := 79) d_Wi_readWhen_8 (by decide) (by rw [c8_3]; decide) (by decide) ?_
    refine x_ic (v := 3) d_Wi_readWhen_79 (by decide) ?_
    refine x_stn (i := 3) (ls' := [some (.inr (0, a)), some (.inr (0, x1)), some (.inl x2), some (.inl 3), none]) d_Wi_readWhen_80 rfl (by decide) rfl ?_
    refine x_ldcS4 rfl d_Wi_readWhen_81 ?_
    refine x_asw (i := 4) (ls' := [some (.inr (0, a)), some (.inr (0, x1)), some (.inl x2), some (.inl 3), some (.inr (2, 4))]) d_Wi_readWhen_83 (by decide) rfl ?_
    refine x_goto (tgt := 90) d_Wi_readWhen_85 (by decide) ?_
    exact j_Wi_readWhen_90 hG a x1 x2 ha hx1 3 4 δ r (by decide) h
  have h := if_f c8_3 h
  refine x_lks (off := 80) (tgt := 88) d_Wi_readWhen_8 (by decide) ((lv_osw c8_0 (by decide)).trans ((lv_osw c8_1 (by decide)).trans ((lv_osw c8_2 (by decide)).trans ((lv_osw c8_3 (by decide)).trans rfl)))) (by decide) ?_
  refine x_ic (v := 0) d_Wi_readWhen_88 (by decide) ?_
  replace h := Option.some.inj h; subst h
  exact x_nret rfl rfl d_Wi_readWhen_89 (Nat.le_refl 0) (Nat.le_refl 0)
-- BlockStage$Wish.fieldOf(I)I
theorem d_Wi_fieldOf_0 : decode M_Wi_fieldOf.2.1 0 = .ok (.iload_n 0, 1) := by decide +kernel
theorem d_Wi_fieldOf_1 : decode M_Wi_fieldOf.2.1 1 = .ok (.tableswitch 126 98 121 #[119, 126, 126, 126, 126, 121, 115, 126, 126, 126, 126, 126, 126, 126, 126, 126, 126, 123, 126, 126, 117, 126, 111, 113], 111) := by decide +kernel
theorem d_Wi_fieldOf_112 : decode M_Wi_fieldOf.2.1 112 = .ok (.iconst 0, 1) := by decide +kernel
theorem d_Wi_fieldOf_113 : decode M_Wi_fieldOf.2.1 113 = .ok (.ireturn, 1) := by decide +kernel
theorem d_Wi_fieldOf_114 : decode M_Wi_fieldOf.2.1 114 = .ok (.iconst 1, 1) := by decide +kernel
theorem d_Wi_fieldOf_115 : decode M_Wi_fieldOf.2.1 115 = .ok (.ireturn, 1) := by decide +kernel
theorem d_Wi_fieldOf_116 : decode M_Wi_fieldOf.2.1 116 = .ok (.iconst 2, 1) := by decide +kernel
theorem d_Wi_fieldOf_117 : decode M_Wi_fieldOf.2.1 117 = .ok (.ireturn, 1) := by decide +kernel
theorem d_Wi_fieldOf_118 : decode M_Wi_fieldOf.2.1 118 = .ok (.iconst 3, 1) := by decide +kernel
theorem d_Wi_fieldOf_119 : decode M_Wi_fieldOf.2.1 119 = .ok (.ireturn, 1) := by decide +kernel
theorem d_Wi_fieldOf_120 : decode M_Wi_fieldOf.2.1 120 = .ok (.iconst 4, 1) := by decide +kernel
theorem d_Wi_fieldOf_121 : decode M_Wi_fieldOf.2.1 121 = .ok (.ireturn, 1) := by decide +kernel
theorem d_Wi_fieldOf_122 : decode M_Wi_fieldOf.2.1 122 = .ok (.iconst 5, 1) := by decide +kernel
theorem d_Wi_fieldOf_123 : decode M_Wi_fieldOf.2.1 123 = .ok (.ireturn, 1) := by decide +kernel
theorem d_Wi_fieldOf_124 : decode M_Wi_fieldOf.2.1 124 = .ok (.bipush 6, 2) := by decide +kernel
theorem d_Wi_fieldOf_126 : decode M_Wi_fieldOf.2.1 126 = .ok (.ireturn, 1) := by decide +kernel
theorem d_Wi_fieldOf_127 : decode M_Wi_fieldOf.2.1 127 = .ok (.iconst (-1), 1) := by decide +kernel
theorem d_Wi_fieldOf_128 : decode M_Wi_fieldOf.2.1 128 = .ok (.ireturn, 1) := by decide +kernel
def F_Wi_fieldOf (x0 : Int32) : Int32 :=
  if x0 = 98 then 4 else if x0 = 99 then (-1) else if x0 = 100 then (-1) else if x0 = 101 then (-1) else if x0 = 102 then (-1) else if x0 = 103 then 5 else if x0 = 104 then 2 else if x0 = 105 then (-1) else if x0 = 106 then (-1) else if x0 = 107 then (-1) else if x0 = 108 then (-1) else if x0 = 109 then (-1) else if x0 = 110 then (-1) else if x0 = 111 then (-1) else if x0 = 112 then (-1) else if x0 = 113 then (-1) else if x0 = 114 then (-1) else if x0 = 115 then 6 else if x0 = 116 then (-1) else if x0 = 117 then (-1) else if x0 = 118 then 3 else if x0 = 119 then (-1) else if x0 = 120 then 0 else if x0 = 121 then 1 else (-1)
set_option maxRecDepth 20000 in
set_option maxHeartbeats 4000000 in
theorem c_Wi_fieldOf {l : Launch} {Γ : Gm} (x0 : Int32) (δ : Dl) (r : Int32) (h : F_Wi_fieldOf x0  = r) : Ct l M_Wi_fieldOf 0 0 0 NF [.inl x0] Γ δ (some (.inl r), Γ, δ) := by
  unfold F_Wi_fieldOf at h
  refine Ct.of2 (n := 0) (ls := [some (.inl x0)]) rfl (by decide +kernel) (Nat.le_of_ble_eq_true rfl) ?_
  refine x_iload_n (i := 0) d_Wi_fieldOf_0 rfl rfl ?_
  by_cases c1_0 : x0 = 98
  · have h := if_t c1_0 h
    refine x_tin (v := 98) (off := 119) (tgt := 120) d_Wi_fieldOf_1 c1_0 (by decide +kernel) ?_
    refine x_ic (v := 4) d_Wi_fieldOf_120 (by decide) ?_
    subst h
    exact x_iret rfl d_Wi_fieldOf_121 (Nat.le_refl 0) (Nat.le_refl 0)
  have h := if_f c1_0 h
  by_cases c1_1 : x0 = 99
  · have h := if_t c1_1 h
    refine x_tin (v := 99) (off := 126) (tgt := 127) d_Wi_fieldOf_1 c1_1 (by decide +kernel) ?_
    refine x_ic (v := -1) d_Wi_fieldOf_127 (by decide) ?_
    subst h
    exact x_iret rfl d_Wi_fieldOf_128 (Nat.le_refl 0) (Nat.le_refl 0)
  have h := if_f c1_1 h
  by_cases c1_2 : x0 = 100
  · have h := if_t c1_2 h
    refine x_tin (v := 100) (off := 126) (tgt := 127) d_Wi_fieldOf_1 c1_2 (by decide +kernel) ?_
    refine x_ic (v := -1) d_Wi_fieldOf_127 (by decide) ?_
    subst h
    exact x_iret rfl d_Wi_fieldOf_128 (Nat.le_refl 0) (Nat.le_refl 0)
  have h := if_f c1_2 h
  by_cases c1_3 : x0 = 101
  · have h := if_t c1_3 h
    refine x_tin (v := 101) (off := 126) (tgt := 127) d_Wi_fieldOf_1 c1_3 (by decide +kernel) ?_
    refine x_ic (v := -1) d_Wi_fieldOf_127 (by decide) ?_
    subst h
    exact x_iret rfl d_Wi_fieldOf_128 (Nat.le_refl 0) (Nat.le_refl 0)
  have h := if_f c1_3 h
  by_cases c1_4 : x0 = 102
  · have h := if_t c1_4 h
    refine x_tin (v := 102) (off := 126) (tgt := 127) d_Wi_fieldOf_1 c1_4 (by decide +kernel) ?_
    refine x_ic (v := -1) d_Wi_fieldOf_127 (by decide) ?_
    subst h
    exact x_iret rfl d_Wi_fieldOf_128 (Nat.le_refl 0) (Nat.le_refl 0)
  have h := if_f c1_4 h
  by_cases c1_5 : x0 = 103
  · have h := if_t c1_5 h
    refine x_tin (v := 103) (off := 121) (tgt := 122) d_Wi_fieldOf_1 c1_5 (by decide +kernel) ?_
    refine x_ic (v := 5) d_Wi_fieldOf_122 (by decide) ?_
    subst h
    exact x_iret rfl d_Wi_fieldOf_123 (Nat.le_refl 0) (Nat.le_refl 0)
  have h := if_f c1_5 h
  by_cases c1_6 : x0 = 104
  · have h := if_t c1_6 h
    refine x_tin (v := 104) (off := 115) (tgt := 116) d_Wi_fieldOf_1 c1_6 (by decide +kernel) ?_
    refine x_ic (v := 2) d_Wi_fieldOf_116 (by decide) ?_
    subst h
    exact x_iret rfl d_Wi_fieldOf_117 (Nat.le_refl 0) (Nat.le_refl 0)
  have h := if_f c1_6 h
  by_cases c1_7 : x0 = 105
  · have h := if_t c1_7 h
    refine x_tin (v := 105) (off := 126) (tgt := 127) d_Wi_fieldOf_1 c1_7 (by decide +kernel) ?_
    refine x_ic (v := -1) d_Wi_fieldOf_127 (by decide) ?_
    subst h
    exact x_iret rfl d_Wi_fieldOf_128 (Nat.le_refl 0) (Nat.le_refl 0)
  have h := if_f c1_7 h
  by_cases c1_8 : x0 = 106
  · have h := if_t c1_8 h
    refine x_tin (v := 106) (off := 126) (tgt := 127) d_Wi_fieldOf_1 c1_8 (by decide +kernel) ?_
    refine x_ic (v := -1) d_Wi_fieldOf_127 (by decide) ?_
    subst h
    exact x_iret rfl d_Wi_fieldOf_128 (Nat.le_refl 0) (Nat.le_refl 0)
  have h := if_f c1_8 h
  by_cases c1_9 : x0 = 107
  · have h := if_t c1_9 h
    refine x_tin (v := 107) (off := 126) (tgt := 127) d_Wi_fieldOf_1 c1_9 (by decide +kernel) ?_
    refine x_ic (v := -1) d_Wi_fieldOf_127 (by decide) ?_
    subst h
    exact x_iret rfl d_Wi_fieldOf_128 (Nat.le_refl 0) (Nat.le_refl 0)
  have h := if_f c1_9 h
  by_cases c1_10 : x0 = 108
  · have h := if_t c1_10 h
    refine x_tin (v := 108) (off := 126) (tgt := 127) d_Wi_fieldOf_1 c1_10 (by decide +kernel) ?_
    refine x_ic (v := -1) d_Wi_fieldOf_127 (by decide) ?_
    subst h
    exact x_iret rfl d_Wi_fieldOf_128 (Nat.le_refl 0) (Nat.le_refl 0)
  have h := if_f c1_10 h
  by_cases c1_11 : x0 = 109
  · have h := if_t c1_11 h
    refine x_tin (v := 109) (off := 126) (tgt := 127) d_Wi_fieldOf_1 c1_11 (by decide +kernel) ?_
    refine x_ic (v := -1) d_Wi_fieldOf_127 (by decide) ?_
    subst h
    exact x_iret rfl d_Wi_fieldOf_128 (Nat.le_refl 0) (Nat.le_refl 0)
  have h := if_f c1_11 h
  by_cases c1_12 : x0 = 110
  · have h := if_t c1_12 h
    refine x_tin (v := 110) (off := 126) (tgt := 127) d_Wi_fieldOf_1 c1_12 (by decide +kernel) ?_
    refine x_ic (v := -1) d_Wi_fieldOf_127 (by decide) ?_
    subst h
    exact x_iret rfl d_Wi_fieldOf_128 (Nat.le_refl 0) (Nat.le_refl 0)
  have h := if_f c1_12 h
  by_cases c1_13 : x0 = 111
  · have h := if_t c1_13 h
    refine x_tin (v := 111) (off := 126) (tgt := 127) d_Wi_fieldOf_1 c1_13 (by decide +kernel) ?_
    refine x_ic (v := -1) d_Wi_fieldOf_127 (by decide) ?_
    subst h
    exact x_iret rfl d_Wi_fieldOf_128 (Nat.le_refl 0) (Nat.le_refl 0)
  have h := if_f c1_13 h
  by_cases c1_14 : x0 = 112
  · have h := if_t c1_14 h
    refine x_tin (v := 112) (off := 126) (tgt := 127) d_Wi_fieldOf_1 c1_14 (by decide +kernel) ?_
    refine x_ic (v := -1) d_Wi_fieldOf_127 (by decide) ?_
    subst h
    exact x_iret rfl d_Wi_fieldOf_128 (Nat.le_refl 0) (Nat.le_refl 0)
  have h := if_f c1_14 h
  by_cases c1_15 : x0 = 113
  · have h := if_t c1_15 h
    refine x_tin (v := 113) (off := 126) (tgt := 127) d_Wi_fieldOf_1 c1_15 (by decide +kernel) ?_
    refine x_ic (v := -1) d_Wi_fieldOf_127 (by decide) ?_
    subst h
    exact x_iret rfl d_Wi_fieldOf_128 (Nat.le_refl 0) (Nat.le_refl 0)
  have h := if_f c1_15 h
  by_cases c1_16 : x0 = 114
  · have h := if_t c1_16 h
    refine x_tin (v := 114) (off := 126) (tgt := 127) d_Wi_fieldOf_1 c1_16 (by decide +kernel) ?_
    refine x_ic (v := -1) d_Wi_fieldOf_127 (by decide) ?_
    subst h
    exact x_iret rfl d_Wi_fieldOf_128 (Nat.le_refl 0) (Nat.le_refl 0)
  have h := if_f c1_16 h
  by_cases c1_17 : x0 = 115
  · have h := if_t c1_17 h
    refine x_tin (v := 115) (off := 123) (tgt := 124) d_Wi_fieldOf_1 c1_17 (by decide +kernel) ?_
    refine x_bi (v := 6) d_Wi_fieldOf_124 (by decide) ?_
    subst h
    exact x_iret rfl d_Wi_fieldOf_126 (Nat.le_refl 0) (Nat.le_refl 0)
  have h := if_f c1_17 h
  by_cases c1_18 : x0 = 116
  · have h := if_t c1_18 h
    refine x_tin (v := 116) (off := 126) (tgt := 127) d_Wi_fieldOf_1 c1_18 (by decide +kernel) ?_
    refine x_ic (v := -1) d_Wi_fieldOf_127 (by decide) ?_
    subst h
    exact x_iret rfl d_Wi_fieldOf_128 (Nat.le_refl 0) (Nat.le_refl 0)
  have h := if_f c1_18 h
  by_cases c1_19 : x0 = 117
  · have h := if_t c1_19 h
    refine x_tin (v := 117) (off := 126) (tgt := 127) d_Wi_fieldOf_1 c1_19 (by decide +kernel) ?_
    refine x_ic (v := -1) d_Wi_fieldOf_127 (by decide) ?_
    subst h
    exact x_iret rfl d_Wi_fieldOf_128 (Nat.le_refl 0) (Nat.le_refl 0)
  have h := if_f c1_19 h
  by_cases c1_20 : x0 = 118
  · have h := if_t c1_20 h
    refine x_tin (v := 118) (off := 117) (tgt := 118) d_Wi_fieldOf_1 c1_20 (by decide +kernel) ?_
    refine x_ic (v := 3) d_Wi_fieldOf_118 (by decide) ?_
    subst h
    exact x_iret rfl d_Wi_fieldOf_119 (Nat.le_refl 0) (Nat.le_refl 0)
  have h := if_f c1_20 h
  by_cases c1_21 : x0 = 119
  · have h := if_t c1_21 h
    refine x_tin (v := 119) (off := 126) (tgt := 127) d_Wi_fieldOf_1 c1_21 (by decide +kernel) ?_
    refine x_ic (v := -1) d_Wi_fieldOf_127 (by decide) ?_
    subst h
    exact x_iret rfl d_Wi_fieldOf_128 (Nat.le_refl 0) (Nat.le_refl 0)
  have h := if_f c1_21 h
  by_cases c1_22 : x0 = 120
  · have h := if_t c1_22 h
    refine x_tin (v := 120) (off := 111) (tgt := 112) d_Wi_fieldOf_1 c1_22 (by decide +kernel) ?_
    refine x_ic (v := 0) d_Wi_fieldOf_112 (by decide) ?_
    subst h
    exact x_iret rfl d_Wi_fieldOf_113 (Nat.le_refl 0) (Nat.le_refl 0)
  have h := if_f c1_22 h
  by_cases c1_23 : x0 = 121
  · have h := if_t c1_23 h
    refine x_tin (v := 121) (off := 113) (tgt := 114) d_Wi_fieldOf_1 c1_23 (by decide +kernel) ?_
    refine x_ic (v := 1) d_Wi_fieldOf_114 (by decide) ?_
    subst h
    exact x_iret rfl d_Wi_fieldOf_115 (Nat.le_refl 0) (Nat.le_refl 0)
  have h := if_f c1_23 h
  have n1_0 := lv_neT (a := 98) c1_0 (by decide)
  have n1_1 := lv_neT (a := 99) c1_1 (by decide)
  have n1_2 := lv_neT (a := 100) c1_2 (by decide)
  have n1_3 := lv_neT (a := 101) c1_3 (by decide)
  have n1_4 := lv_neT (a := 102) c1_4 (by decide)
  have n1_5 := lv_neT (a := 103) c1_5 (by decide)
  have n1_6 := lv_neT (a := 104) c1_6 (by decide)
  have n1_7 := lv_neT (a := 105) c1_7 (by decide)
  have n1_8 := lv_neT (a := 106) c1_8 (by decide)
  have n1_9 := lv_neT (a := 107) c1_9 (by decide)
  have n1_10 := lv_neT (a := 108) c1_10 (by decide)
  have n1_11 := lv_neT (a := 109) c1_11 (by decide)
  have n1_12 := lv_neT (a := 110) c1_12 (by decide)
  have n1_13 := lv_neT (a := 111) c1_13 (by decide)
  have n1_14 := lv_neT (a := 112) c1_14 (by decide)
  have n1_15 := lv_neT (a := 113) c1_15 (by decide)
  have n1_16 := lv_neT (a := 114) c1_16 (by decide)
  have n1_17 := lv_neT (a := 115) c1_17 (by decide)
  have n1_18 := lv_neT (a := 116) c1_18 (by decide)
  have n1_19 := lv_neT (a := 117) c1_19 (by decide)
  have n1_20 := lv_neT (a := 118) c1_20 (by decide)
  have n1_21 := lv_neT (a := 119) c1_21 (by decide)
  have n1_22 := lv_neT (a := 120) c1_22 (by decide)
  have n1_23 := lv_neT (a := 121) c1_23 (by decide)
  refine x_tout (tgt := 127) d_Wi_fieldOf_1 (by omega) (by decide) ?_
  refine x_ic (v := -1) d_Wi_fieldOf_127 (by decide) ?_
  subst h
  exact x_iret rfl d_Wi_fieldOf_128 (Nat.le_refl 0) (Nat.le_refl 0)
-- BlockStage$Wish.readField(LBlockStage$Bytes;I)Z
theorem d_Wi_readField_0 : decode M_Wi_readField.2.1 0 = .ok (.iload_n 2, 1) := by decide +kernel
theorem d_Wi_readField_1 : decode M_Wi_readField.2.1 1 = .ok (.ifCond .lt 8, 3) := by decide +kernel
theorem d_Wi_readField_4 : decode M_Wi_readField.2.1 4 = .ok (.iload_n 2, 1) := by decide +kernel
theorem d_Wi_readField_5 : decode M_Wi_readField.2.1 5 = .ok (.iconst 4, 1) := by decide +kernel
theorem d_Wi_readField_6 : decode M_Wi_readField.2.1 6 = .ok (.if_icmp .lt 5, 3) := by decide +kernel
theorem d_Wi_readField_9 : decode M_Wi_readField.2.1 9 = .ok (.iconst 0, 1) := by decide +kernel
theorem d_Wi_readField_10 : decode M_Wi_readField.2.1 10 = .ok (.ireturn, 1) := by decide +kernel
theorem d_Wi_readField_11 : decode M_Wi_readField.2.1 11 = .ok (.aload_n 1, 1) := by decide +kernel
theorem d_Wi_readField_12 : decode M_Wi_readField.2.1 12 = .ok (.aload_n 0, 1) := by decide +kernel
theorem d_Wi_readField_13 : decode M_Wi_readField.2.1 13 = .ok (.getfield 31, 3) := by decide +kernel
theorem d_Wi_readField_16 : decode M_Wi_readField.2.1 16 = .ok (.invokevirtual 74, 3) := by decide +kernel
theorem d_Wi_readField_19 : decode M_Wi_readField.2.1 19 = .ok (.invokestatic 90, 3) := by decide +kernel
theorem d_Wi_readField_22 : decode M_Wi_readField.2.1 22 = .ok (.istore_n 3, 1) := by decide +kernel
theorem d_Wi_readField_23 : decode M_Wi_readField.2.1 23 = .ok (.iload_n 3, 1) := by decide +kernel
theorem d_Wi_readField_24 : decode M_Wi_readField.2.1 24 = .ok (.iconst (-1), 1) := by decide +kernel
theorem d_Wi_readField_25 : decode M_Wi_readField.2.1 25 = .ok (.if_icmp .ne 5, 3) := by decide +kernel
theorem d_Wi_readField_28 : decode M_Wi_readField.2.1 28 = .ok (.iconst 0, 1) := by decide +kernel
theorem d_Wi_readField_29 : decode M_Wi_readField.2.1 29 = .ok (.ireturn, 1) := by decide +kernel
theorem d_Wi_readField_30 : decode M_Wi_readField.2.1 30 = .ok (.aload_n 0, 1) := by decide +kernel
theorem d_Wi_readField_31 : decode M_Wi_readField.2.1 31 = .ok (.dup, 1) := by decide +kernel
theorem d_Wi_readField_32 : decode M_Wi_readField.2.1 32 = .ok (.getfield 31, 3) := by decide +kernel
theorem d_Wi_readField_35 : decode M_Wi_readField.2.1 35 = .ok (.iconst 1, 1) := by decide +kernel
theorem d_Wi_readField_36 : decode M_Wi_readField.2.1 36 = .ok (.iadd, 1) := by decide +kernel
theorem d_Wi_readField_37 : decode M_Wi_readField.2.1 37 = .ok (.putfield 31, 3) := by decide +kernel
theorem d_Wi_readField_40 : decode M_Wi_readField.2.1 40 = .ok (.aload_n 0, 1) := by decide +kernel
theorem d_Wi_readField_41 : decode M_Wi_readField.2.1 41 = .ok (.getfield 19, 3) := by decide +kernel
theorem d_Wi_readField_44 : decode M_Wi_readField.2.1 44 = .ok (.iload_n 2, 1) := by decide +kernel
theorem d_Wi_readField_45 : decode M_Wi_readField.2.1 45 = .ok (.iload_n 3, 1) := by decide +kernel
theorem d_Wi_readField_46 : decode M_Wi_readField.2.1 46 = .ok (.iastore, 1) := by decide +kernel
theorem d_Wi_readField_47 : decode M_Wi_readField.2.1 47 = .ok (.iload_n 3, 1) := by decide +kernel
theorem d_Wi_readField_48 : decode M_Wi_readField.2.1 48 = .ok (.iconst 4, 1) := by decide +kernel
theorem d_Wi_readField_49 : decode M_Wi_readField.2.1 49 = .ok (.if_icmp .le 5, 3) := by decide +kernel
theorem d_Wi_readField_52 : decode M_Wi_readField.2.1 52 = .ok (.iconst 1, 1) := by decide +kernel
theorem d_Wi_readField_53 : decode M_Wi_readField.2.1 53 = .ok (.ireturn, 1) := by decide +kernel
theorem d_Wi_readField_54 : decode M_Wi_readField.2.1 54 = .ok (.aload_n 1, 1) := by decide +kernel
theorem d_Wi_readField_55 : decode M_Wi_readField.2.1 55 = .ok (.aload_n 0, 1) := by decide +kernel
theorem d_Wi_readField_56 : decode M_Wi_readField.2.1 56 = .ok (.getfield 31, 3) := by decide +kernel
theorem d_Wi_readField_59 : decode M_Wi_readField.2.1 59 = .ok (.invokevirtual 74, 3) := by decide +kernel
theorem d_Wi_readField_62 : decode M_Wi_readField.2.1 62 = .ok (.bipush 48, 2) := by decide +kernel
theorem d_Wi_readField_64 : decode M_Wi_readField.2.1 64 = .ok (.isub, 1) := by decide +kernel
theorem d_Wi_readField_65 : decode M_Wi_readField.2.1 65 = .ok (.istore 4, 2) := by decide +kernel
theorem d_Wi_readField_67 : decode M_Wi_readField.2.1 67 = .ok (.iload 4, 2) := by decide +kernel
theorem d_Wi_readField_69 : decode M_Wi_readField.2.1 69 = .ok (.ifCond .lt 9, 3) := by decide +kernel
theorem d_Wi_readField_72 : decode M_Wi_readField.2.1 72 = .ok (.iload 4, 2) := by decide +kernel
theorem d_Wi_readField_74 : decode M_Wi_readField.2.1 74 = .ok (.iconst 3, 1) := by decide +kernel
theorem d_Wi_readField_75 : decode M_Wi_readField.2.1 75 = .ok (.if_icmp .lt 5, 3) := by decide +kernel
theorem d_Wi_readField_78 : decode M_Wi_readField.2.1 78 = .ok (.iconst 0, 1) := by decide +kernel
theorem d_Wi_readField_79 : decode M_Wi_readField.2.1 79 = .ok (.ireturn, 1) := by decide +kernel
theorem d_Wi_readField_80 : decode M_Wi_readField.2.1 80 = .ok (.aload_n 0, 1) := by decide +kernel
theorem d_Wi_readField_81 : decode M_Wi_readField.2.1 81 = .ok (.dup, 1) := by decide +kernel
theorem d_Wi_readField_82 : decode M_Wi_readField.2.1 82 = .ok (.getfield 31, 3) := by decide +kernel
theorem d_Wi_readField_85 : decode M_Wi_readField.2.1 85 = .ok (.iconst 1, 1) := by decide +kernel
theorem d_Wi_readField_86 : decode M_Wi_readField.2.1 86 = .ok (.iadd, 1) := by decide +kernel
theorem d_Wi_readField_87 : decode M_Wi_readField.2.1 87 = .ok (.putfield 31, 3) := by decide +kernel
theorem d_Wi_readField_90 : decode M_Wi_readField.2.1 90 = .ok (.aload_n 0, 1) := by decide +kernel
theorem d_Wi_readField_91 : decode M_Wi_readField.2.1 91 = .ok (.getfield 22, 3) := by decide +kernel
theorem d_Wi_readField_94 : decode M_Wi_readField.2.1 94 = .ok (.iload_n 2, 1) := by decide +kernel
theorem d_Wi_readField_95 : decode M_Wi_readField.2.1 95 = .ok (.iload 4, 2) := by decide +kernel
theorem d_Wi_readField_97 : decode M_Wi_readField.2.1 97 = .ok (.iastore, 1) := by decide +kernel
theorem d_Wi_readField_98 : decode M_Wi_readField.2.1 98 = .ok (.iconst 1, 1) := by decide +kernel
theorem d_Wi_readField_99 : decode M_Wi_readField.2.1 99 = .ok (.ireturn, 1) := by decide +kernel
theorem mi_Wi_fieldOf : MI M_Wi_fieldOf 1 := ⟨(lwg_at 8 (by decide +kernel) rfl), (lwg_at 789 (by decide +kernel) rfl), ⟨by decide +kernel, by decide +kernel⟩, by decide +kernel, by decide⟩
theorem cs_Wi_90 : CS RX10 90 M_Wi_fieldOf 1 := ⟨(lwg_at 787 (by decide +kernel) rfl), (lwg_at 788 (by decide +kernel) rfl), mi_Wi_fieldOf⟩
theorem gl_Wi_19_10 : GL RX10 19 10 2 := ⟨RX10, TX10, 7, RX10, rfl, by decide, (lwg_at 199 (by decide +kernel) rfl), Or.inl rfl, gl_w inX10⟩
theorem gl_Wi_22_10 : GL RX10 22 10 3 := ⟨RX10, TX10, 7, RX10, rfl, by decide, (lwg_at 200 (by decide +kernel) rfl), Or.inl rfl, gl_w inX10⟩
def F_Wi_readField (a : Nat) (x1 : Nat) (x2 : Int32) (δ : Dl) : Option (Int32 × Dl) :=
  if x2 < 0 then (some (0, δ)) else (if x2 < 4 then ((F_By_byteAt x1 (δ.1 86 a) δ).bind fun v16 => bnd (F_Wi_fieldOf v16) fun v19 => if v19 = (-1) then (some (0, δ)) else (bnd (sI δ 86 a ((δ.1 86 a) + 1)) fun δ37 => if inb x2 4 then bnd (sA δ37 82 a x2 v19) fun δ46 => if v19 ≤ 4 then ((F_By_byteAt x1 (δ46.1 86 a) δ46).bind fun v59 => if (v59 - 48) < 0 then (some (0, δ46)) else (if (v59 - 48) < 3 then (bnd (sI δ46 86 a ((δ46.1 86 a) + 1)) fun δ87 => if inb x2 4 then bnd (sA δ87 83 a x2 (v59 - 48)) fun δ97 => some (1, δ97) else none) else (some (0, δ46)))) else (some (1, δ46)) else none)) else (some (0, δ)))
set_option maxRecDepth 20000 in
set_option maxHeartbeats 4000000 in
theorem c_Wi_readField {l : Launch} {Γ : Gm} (hG : GC Γ) (a : Nat) (x1 : Nat) (x2 : Int32) (ha : Oc a 10) (hx1 : Oc x1 0) (δ : Dl) (r : Int32 × Dl) (h : F_Wi_readField a x1 x2  δ = some r) : Ct l M_Wi_readField 1 0 0 NF [.inr (0, a), .inr (0, x1), .inl x2] Γ δ (some (.inl r.1), Γ, r.2) := by
  unfold F_Wi_readField at h
  have oa := hG.ob ha
  refine Ct.of2 (n := 2) (ls := [some (.inr (0, a)), some (.inr (0, x1)), some (.inl x2), none, none]) rfl (by decide +kernel) (Nat.le_of_ble_eq_true rfl) ?_
  refine x_iload_n (i := 2) d_Wi_readField_0 rfl rfl ?_
  refine x_if_lt (tgt := 9) d_Wi_readField_1 (by decide) (fun c1 => ?_) (fun c1 => ?_)
  · have h := if_t c1 h
    refine x_ic (v := 0) d_Wi_readField_9 (by decide) ?_
    replace h := Option.some.inj h; subst h
    exact x_nret rfl rfl d_Wi_readField_10 (Nat.le_refl 0) (Nat.le_refl 0)
  · have h := if_f c1 h
    refine x_iload_n (i := 2) d_Wi_readField_4 rfl rfl ?_
    refine x_ic (v := 4) d_Wi_readField_5 (by decide) ?_
    refine x_cmp_lt (tgt := 11) d_Wi_readField_6 (by decide) (fun c6 => ?_) (fun c6 => ?_)
    · have h := if_t c6 h
      refine x_aload_n (i := 1) d_Wi_readField_11 rfl rfl ?_
      refine x_aload_n (i := 0) d_Wi_readField_12 rfl rfl ?_
      refine x_getI (f := 86) gl_Wi_31_10 rfl kf_86 oa d_Wi_readField_13 ?_
      obtain ⟨v16, ev16, h⟩ := bd_e h
      refine y_V1 cs_Wi_74 rfl (hG.ob hx1) (by first | decide | omega) (Nat.le_of_ble_eq_true rfl) d_Wi_readField_16 (c_By_byteAt hG x1 (δ.1 86 a) hx1 δ v16 ev16) (Nat.le_refl 0) (Nat.le_refl 0) ?_
      obtain ⟨v19, ev19, h⟩ := bn_e h
      refine y_S1 cs_Wi_90 (by first | decide | omega) (Nat.le_of_ble_eq_true rfl) d_Wi_readField_19 (c_Wi_fieldOf v16  δ v19 ev19) (Nat.le_refl 0) (Nat.le_refl 0) ?_
      refine x_stn (i := 3) (ls' := [some (.inr (0, a)), some (.inr (0, x1)), some (.inl x2), some (.inl v19), none]) d_Wi_readField_22 rfl (by decide) rfl ?_
      refine x_iload_n (i := 3) d_Wi_readField_23 rfl rfl ?_
      refine x_ic (v := -1) d_Wi_readField_24 (by decide) ?_
      refine x_cmp_ne (tgt := 30) d_Wi_readField_25 (by decide) (fun c25 => ?_) (fun c25 => ?_)
      · have h := if_f c25 h
        refine x_aload_n (i := 0) d_Wi_readField_30 rfl rfl ?_
        refine x_dup d_Wi_readField_31 ?_
        refine x_getI (f := 86) gl_Wi_31_10 rfl kf_86 oa d_Wi_readField_32 ?_
        refine x_ic (v := 1) d_Wi_readField_35 (by decide) ?_
        refine x_iadd d_Wi_readField_36 ?_
        obtain ⟨δ37, eδ37, h⟩ := bn_e h
        refine x_putI (f := 86) gp_Wi_31_10 rfl kf_86 (fun h => by cases h) rfl rfl oa.1 oa.z d_Wi_readField_37 (Xe.cδ eδ37 ?_)
        refine x_aload_n (i := 0) d_Wi_readField_40 rfl rfl ?_
        refine x_getA (f := 82) gl_Wi_19_10 rfl (by rw [kf_82]; decide) oa d_Wi_readField_41 ?_
        refine x_iload_n (i := 2) d_Wi_readField_44 rfl rfl ?_
        refine x_iload_n (i := 3) d_Wi_readField_45 rfl rfl ?_
        obtain ⟨g46, h⟩ := gd_e h
        obtain ⟨δ46, eδ46, h⟩ := bn_e h
        refine x_iast (n := 4) kf_82 (oz_82 oa) (ln_82 _) g46 d_Wi_readField_46 (Xe.cδ eδ46 ?_)
        refine x_iload_n (i := 3) d_Wi_readField_47 rfl rfl ?_
        refine x_ic (v := 4) d_Wi_readField_48 (by decide) ?_
        refine x_cmp_le (tgt := 54) d_Wi_readField_49 (by decide) (fun c49 => ?_) (fun c49 => ?_)
        · have h := if_t c49 h
          refine x_aload_n (i := 1) d_Wi_readField_54 rfl rfl ?_
          refine x_aload_n (i := 0) d_Wi_readField_55 rfl rfl ?_
          refine x_getI (f := 86) gl_Wi_31_10 rfl kf_86 oa d_Wi_readField_56 ?_
          obtain ⟨v59, ev59, h⟩ := bd_e h
          refine y_V1 cs_Wi_74 rfl (hG.ob hx1) (by first | decide | omega) (Nat.le_of_ble_eq_true rfl) d_Wi_readField_59 (c_By_byteAt hG x1 (δ46.1 86 a) hx1 δ46 v59 ev59) (Nat.le_refl 0) (Nat.le_refl 0) ?_
          refine x_bi (v := 48) d_Wi_readField_62 (by decide) ?_
          refine x_isub d_Wi_readField_64 ?_
          refine x_stw (i := 4) (ls' := [some (.inr (0, a)), some (.inr (0, x1)), some (.inl x2), some (.inl v19), some (.inl (v59 - 48))]) d_Wi_readField_65 (by decide) rfl ?_
          refine x_iload (i := 4) d_Wi_readField_67 rfl ?_
          refine x_if_lt (tgt := 78) d_Wi_readField_69 (by decide) (fun c69 => ?_) (fun c69 => ?_)
          · have h := if_t c69 h
            refine x_ic (v := 0) d_Wi_readField_78 (by decide) ?_
            replace h := Option.some.inj h; subst h
            exact x_nret rfl rfl d_Wi_readField_79 (Nat.le_refl 0) (Nat.le_refl 0)
          · have h := if_f c69 h
            refine x_iload (i := 4) d_Wi_readField_72 rfl ?_
            refine x_ic (v := 3) d_Wi_readField_74 (by decide) ?_
            refine x_cmp_lt (tgt := 80) d_Wi_readField_75 (by decide) (fun c75 => ?_) (fun c75 => ?_)
            · have h := if_t c75 h
              refine x_aload_n (i := 0) d_Wi_readField_80 rfl rfl ?_
              refine x_dup d_Wi_readField_81 ?_
              refine x_getI (f := 86) gl_Wi_31_10 rfl kf_86 oa d_Wi_readField_82 ?_
              refine x_ic (v := 1) d_Wi_readField_85 (by decide) ?_
              refine x_iadd d_Wi_readField_86 ?_
              obtain ⟨δ87, eδ87, h⟩ := bn_e h
              refine x_putI (f := 86) gp_Wi_31_10 rfl kf_86 (fun h => by cases h) rfl rfl oa.1 oa.z d_Wi_readField_87 (Xe.cδ eδ87 ?_)
              refine x_aload_n (i := 0) d_Wi_readField_90 rfl rfl ?_
              refine x_getA (f := 83) gl_Wi_22_10 rfl (by rw [kf_83]; decide) oa d_Wi_readField_91 ?_
              refine x_iload_n (i := 2) d_Wi_readField_94 rfl rfl ?_
              refine x_iload (i := 4) d_Wi_readField_95 rfl ?_
              obtain ⟨g97, h⟩ := gd_e h
              obtain ⟨δ97, eδ97, h⟩ := bn_e h
              refine x_iast (n := 4) kf_83 (oz_83 oa) (ln_83 _) g97 d_Wi_readField_97 (Xe.cδ eδ97 ?_)
              refine x_ic (v := 1) d_Wi_readField_98 (by decide) ?_
              replace h := Option.some.inj h; subst h
              exact x_nret rfl rfl d_Wi_readField_99 (Nat.le_refl 0) (Nat.le_refl 0)
            · have h := if_f c75 h
              refine x_ic (v := 0) d_Wi_readField_78 (by decide) ?_
              replace h := Option.some.inj h; subst h
              exact x_nret rfl rfl d_Wi_readField_79 (Nat.le_refl 0) (Nat.le_refl 0)
        · have h := if_f c49 h
          refine x_ic (v := 1) d_Wi_readField_52 (by decide) ?_
          replace h := Option.some.inj h; subst h
          exact x_nret rfl rfl d_Wi_readField_53 (Nat.le_refl 0) (Nat.le_refl 0)
      · have h := if_t c25 h
        refine x_ic (v := 0) d_Wi_readField_28 (by decide) ?_
        replace h := Option.some.inj h; subst h
        exact x_nret rfl rfl d_Wi_readField_29 (Nat.le_refl 0) (Nat.le_refl 0)
    · have h := if_f c6 h
      refine x_ic (v := 0) d_Wi_readField_9 (by decide) ?_
      replace h := Option.some.inj h; subst h
      exact x_nret rfl rfl d_Wi_readField_10 (Nat.le_refl 0) (Nat.le_refl 0)
-- BlockStage$Wish.readSign(LBlockStage$Bytes;I)Z
theorem d_Wi_readSign_0 : decode M_Wi_readSign.2.1 0 = .ok (.iload_n 2, 1) := by decide +kernel
theorem d_Wi_readSign_1 : decode M_Wi_readSign.2.1 1 = .ok (.ifCond .lt 8, 3) := by decide +kernel
theorem d_Wi_readSign_4 : decode M_Wi_readSign.2.1 4 = .ok (.iload_n 2, 1) := by decide +kernel
theorem d_Wi_readSign_5 : decode M_Wi_readSign.2.1 5 = .ok (.iconst 4, 1) := by decide +kernel
theorem d_Wi_readSign_6 : decode M_Wi_readSign.2.1 6 = .ok (.if_icmp .lt 5, 3) := by decide +kernel
theorem d_Wi_readSign_9 : decode M_Wi_readSign.2.1 9 = .ok (.iconst 0, 1) := by decide +kernel
theorem d_Wi_readSign_10 : decode M_Wi_readSign.2.1 10 = .ok (.ireturn, 1) := by decide +kernel
theorem d_Wi_readSign_11 : decode M_Wi_readSign.2.1 11 = .ok (.aload_n 1, 1) := by decide +kernel
theorem d_Wi_readSign_12 : decode M_Wi_readSign.2.1 12 = .ok (.aload_n 0, 1) := by decide +kernel
theorem d_Wi_readSign_13 : decode M_Wi_readSign.2.1 13 = .ok (.getfield 31, 3) := by decide +kernel
theorem d_Wi_readSign_16 : decode M_Wi_readSign.2.1 16 = .ok (.invokevirtual 74, 3) := by decide +kernel
theorem d_Wi_readSign_19 : decode M_Wi_readSign.2.1 19 = .ok (.istore_n 3, 1) := by decide +kernel
theorem d_Wi_readSign_20 : decode M_Wi_readSign.2.1 20 = .ok (.iload_n 3, 1) := by decide +kernel
theorem d_Wi_readSign_21 : decode M_Wi_readSign.2.1 21 = .ok (.bipush 60, 2) := by decide +kernel
theorem d_Wi_readSign_23 : decode M_Wi_readSign.2.1 23 = .ok (.if_icmp .eq 17, 3) := by decide +kernel
theorem d_Wi_readSign_26 : decode M_Wi_readSign.2.1 26 = .ok (.iload_n 3, 1) := by decide +kernel
theorem d_Wi_readSign_27 : decode M_Wi_readSign.2.1 27 = .ok (.bipush 61, 2) := by decide +kernel
theorem d_Wi_readSign_29 : decode M_Wi_readSign.2.1 29 = .ok (.if_icmp .eq 11, 3) := by decide +kernel
theorem d_Wi_readSign_32 : decode M_Wi_readSign.2.1 32 = .ok (.iload_n 3, 1) := by decide +kernel
theorem d_Wi_readSign_33 : decode M_Wi_readSign.2.1 33 = .ok (.bipush 62, 2) := by decide +kernel
theorem d_Wi_readSign_35 : decode M_Wi_readSign.2.1 35 = .ok (.if_icmp .eq 5, 3) := by decide +kernel
theorem d_Wi_readSign_38 : decode M_Wi_readSign.2.1 38 = .ok (.iconst 0, 1) := by decide +kernel
theorem d_Wi_readSign_39 : decode M_Wi_readSign.2.1 39 = .ok (.ireturn, 1) := by decide +kernel
theorem d_Wi_readSign_40 : decode M_Wi_readSign.2.1 40 = .ok (.aload_n 0, 1) := by decide +kernel
theorem d_Wi_readSign_41 : decode M_Wi_readSign.2.1 41 = .ok (.dup, 1) := by decide +kernel
theorem d_Wi_readSign_42 : decode M_Wi_readSign.2.1 42 = .ok (.getfield 31, 3) := by decide +kernel
theorem d_Wi_readSign_45 : decode M_Wi_readSign.2.1 45 = .ok (.iconst 1, 1) := by decide +kernel
theorem d_Wi_readSign_46 : decode M_Wi_readSign.2.1 46 = .ok (.iadd, 1) := by decide +kernel
theorem d_Wi_readSign_47 : decode M_Wi_readSign.2.1 47 = .ok (.putfield 31, 3) := by decide +kernel
theorem d_Wi_readSign_50 : decode M_Wi_readSign.2.1 50 = .ok (.aload_n 0, 1) := by decide +kernel
theorem d_Wi_readSign_51 : decode M_Wi_readSign.2.1 51 = .ok (.getfield 25, 3) := by decide +kernel
theorem d_Wi_readSign_54 : decode M_Wi_readSign.2.1 54 = .ok (.iload_n 2, 1) := by decide +kernel
theorem d_Wi_readSign_55 : decode M_Wi_readSign.2.1 55 = .ok (.iload_n 3, 1) := by decide +kernel
theorem d_Wi_readSign_56 : decode M_Wi_readSign.2.1 56 = .ok (.iastore, 1) := by decide +kernel
theorem d_Wi_readSign_57 : decode M_Wi_readSign.2.1 57 = .ok (.iconst 1, 1) := by decide +kernel
theorem d_Wi_readSign_58 : decode M_Wi_readSign.2.1 58 = .ok (.ireturn, 1) := by decide +kernel
theorem gl_Wi_25_10 : GL RX10 25 10 4 := ⟨RX10, TX10, 7, RX10, rfl, by decide, (lwg_at 201 (by decide +kernel) rfl), Or.inl rfl, gl_w inX10⟩
def F_Wi_readSign_40 (a : Nat) (x1 : Nat) (x2 : Int32) (x3 : Int32) (δ : Dl) : Option (Int32 × Dl) :=
  bnd (sI δ 86 a ((δ.1 86 a) + 1)) fun δ47 => if inb x2 4 then bnd (sA δ47 84 a x2 x3) fun δ56 => some (1, δ56) else none
set_option maxRecDepth 20000 in
set_option maxHeartbeats 4000000 in
theorem j_Wi_readSign_40 {l : Launch} {Γ : Gm} (hG : GC Γ) (a : Nat) (x1 : Nat) (x2 : Int32) (ha : Oc a 10) (hx1 : Oc x1 0) (x3 : Int32) (δ : Dl) (r : Int32 × Dl) (h : F_Wi_readSign_40 a x1 x2 x3 δ = some r) : Xe l M_Wi_readSign 1 0 0 NF 40 [some (.inr (0, a)), none, some (.inl x2), some (.inl x3)] [] 0 0 Γ δ (some (.inl r.1), Γ, r.2) := by
  unfold F_Wi_readSign_40 at h
  have oa := hG.ob ha
  refine x_aload_n (i := 0) d_Wi_readSign_40 rfl rfl ?_
  refine x_dup d_Wi_readSign_41 ?_
  refine x_getI (f := 86) gl_Wi_31_10 rfl kf_86 oa d_Wi_readSign_42 ?_
  refine x_ic (v := 1) d_Wi_readSign_45 (by decide) ?_
  refine x_iadd d_Wi_readSign_46 ?_
  obtain ⟨δ47, eδ47, h⟩ := bn_e h
  refine x_putI (f := 86) gp_Wi_31_10 rfl kf_86 (fun h => by cases h) rfl rfl oa.1 oa.z d_Wi_readSign_47 (Xe.cδ eδ47 ?_)
  refine x_aload_n (i := 0) d_Wi_readSign_50 rfl rfl ?_
  refine x_getA (f := 84) gl_Wi_25_10 rfl (by rw [kf_84]; decide) oa d_Wi_readSign_51 ?_
  refine x_iload_n (i := 2) d_Wi_readSign_54 rfl rfl ?_
  refine x_iload_n (i := 3) d_Wi_readSign_55 rfl rfl ?_
  obtain ⟨g56, h⟩ := gd_e h
  obtain ⟨δ56, eδ56, h⟩ := bn_e h
  refine x_iast (n := 4) kf_84 (oz_84 oa) (ln_84 _) g56 d_Wi_readSign_56 (Xe.cδ eδ56 ?_)
  refine x_ic (v := 1) d_Wi_readSign_57 (by decide) ?_
  replace h := Option.some.inj h; subst h
  exact x_nret rfl rfl d_Wi_readSign_58 (Nat.le_refl 0) (Nat.le_refl 0)
def F_Wi_readSign (a : Nat) (x1 : Nat) (x2 : Int32) (δ : Dl) : Option (Int32 × Dl) :=
  if x2 < 0 then (some (0, δ)) else (if x2 < 4 then ((F_By_byteAt x1 (δ.1 86 a) δ).bind fun v16 => if v16 = 60 then (F_Wi_readSign_40 a x1 x2 v16 δ) else (if v16 = 61 then (F_Wi_readSign_40 a x1 x2 v16 δ) else (if v16 = 62 then (F_Wi_readSign_40 a x1 x2 v16 δ) else (some (0, δ))))) else (some (0, δ)))
set_option maxRecDepth 20000 in
set_option maxHeartbeats 4000000 in
theorem c_Wi_readSign {l : Launch} {Γ : Gm} (hG : GC Γ) (a : Nat) (x1 : Nat) (x2 : Int32) (ha : Oc a 10) (hx1 : Oc x1 0) (δ : Dl) (r : Int32 × Dl) (h : F_Wi_readSign a x1 x2  δ = some r) : Ct l M_Wi_readSign 1 0 0 NF [.inr (0, a), .inr (0, x1), .inl x2] Γ δ (some (.inl r.1), Γ, r.2) := by
  unfold F_Wi_readSign at h
  have oa := hG.ob ha
  refine Ct.of2 (n := 1) (ls := [some (.inr (0, a)), some (.inr (0, x1)), some (.inl x2), none]) rfl (by decide +kernel) (Nat.le_of_ble_eq_true rfl) ?_
  refine x_iload_n (i := 2) d_Wi_readSign_0 rfl rfl ?_
  refine x_if_lt (tgt := 9) d_Wi_readSign_1 (by decide) (fun c1 => ?_) (fun c1 => ?_)
  · have h := if_t c1 h
    refine x_ic (v := 0) d_Wi_readSign_9 (by decide) ?_
    replace h := Option.some.inj h; subst h
    exact x_nret rfl rfl d_Wi_readSign_10 (Nat.le_refl 0) (Nat.le_refl 0)
  · have h := if_f c1 h
    refine x_iload_n (i := 2) d_Wi_readSign_4 rfl rfl ?_
    refine x_ic (v := 4) d_Wi_readSign_5 (by decide) ?_
    refine x_cmp_lt (tgt := 11) d_Wi_readSign_6 (by decide) (fun c6 => ?_) (fun c6 => ?_)
    · have h := if_t c6 h
      refine x_aload_n (i := 1) d_Wi_readSign_11 rfl rfl ?_
      refine x_aload_n (i := 0) d_Wi_readSign_12 rfl rfl ?_
      refine x_getI (f := 86) gl_Wi_31_10 rfl kf_86 oa d_Wi_readSign_13 ?_
      obtain ⟨v16, ev16, h⟩ := bd_e h
      refine y_V1 cs_Wi_74 rfl (hG.ob hx1) (by first | decide | omega) (Nat.le_of_ble_eq_true rfl) d_Wi_readSign_16 (c_By_byteAt hG x1 (δ.1 86 a) hx1 δ v16 ev16) (Nat.le_refl 0) (Nat.le_refl 0) ?_
      refine x_stn (i := 3) (ls' := [some (.inr (0, a)), some (.inr (0, x1)), some (.inl x2), some (.inl v16)]) d_Wi_readSign_19 rfl (by decide) rfl ?_
      refine x_iload_n (i := 3) d_Wi_readSign_20 rfl rfl ?_
      refine x_bi (v := 60) d_Wi_readSign_21 (by decide) ?_
      refine x_cmp_eq (tgt := 40) d_Wi_readSign_23 (by decide) (fun c23 => ?_) (fun c23 => ?_)
      · have h := if_t c23 h
        refine x_wk (ls' := [some (.inr (0, a)), none, some (.inl x2), some (.inl v16)]) ⟨Or.inr rfl, Or.inl rfl, Or.inr rfl, Or.inr rfl, trivial⟩ ?_
        exact j_Wi_readSign_40 hG a x1 x2 ha hx1 v16 δ r h
      · have h := if_f c23 h
        refine x_iload_n (i := 3) d_Wi_readSign_26 rfl rfl ?_
        refine x_bi (v := 61) d_Wi_readSign_27 (by decide) ?_
        refine x_cmp_eq (tgt := 40) d_Wi_readSign_29 (by decide) (fun c29 => ?_) (fun c29 => ?_)
        · have h := if_t c29 h
          refine x_wk (ls' := [some (.inr (0, a)), none, some (.inl x2), some (.inl v16)]) ⟨Or.inr rfl, Or.inl rfl, Or.inr rfl, Or.inr rfl, trivial⟩ ?_
          exact j_Wi_readSign_40 hG a x1 x2 ha hx1 v16 δ r h
        · have h := if_f c29 h
          refine x_iload_n (i := 3) d_Wi_readSign_32 rfl rfl ?_
          refine x_bi (v := 62) d_Wi_readSign_33 (by decide) ?_
          refine x_cmp_eq (tgt := 40) d_Wi_readSign_35 (by decide) (fun c35 => ?_) (fun c35 => ?_)
          · have h := if_t c35 h
            refine x_wk (ls' := [some (.inr (0, a)), none, some (.inl x2), some (.inl v16)]) ⟨Or.inr rfl, Or.inl rfl, Or.inr rfl, Or.inr rfl, trivial⟩ ?_
            exact j_Wi_readSign_40 hG a x1 x2 ha hx1 v16 δ r h
          · have h := if_f c35 h
            refine x_ic (v := 0) d_Wi_readSign_38 (by decide) ?_
            replace h := Option.some.inj h; subst h
            exact x_nret rfl rfl d_Wi_readSign_39 (Nat.le_refl 0) (Nat.le_refl 0)
    · have h := if_f c6 h
      refine x_ic (v := 0) d_Wi_readSign_9 (by decide) ?_
      replace h := Option.some.inj h; subst h
      exact x_nret rfl rfl d_Wi_readSign_10 (Nat.le_refl 0) (Nat.le_refl 0)
-- BlockStage$Wish.readNumber(LBlockStage$Bytes;I)Z
theorem d_Wi_readNumber_0 : decode M_Wi_readNumber.2.1 0 = .ok (.iload_n 2, 1) := by decide +kernel
theorem d_Wi_readNumber_1 : decode M_Wi_readNumber.2.1 1 = .ok (.ifCond .lt 8, 3) := by decide +kernel
theorem d_Wi_readNumber_4 : decode M_Wi_readNumber.2.1 4 = .ok (.iload_n 2, 1) := by decide +kernel
theorem d_Wi_readNumber_5 : decode M_Wi_readNumber.2.1 5 = .ok (.iconst 4, 1) := by decide +kernel
theorem d_Wi_readNumber_6 : decode M_Wi_readNumber.2.1 6 = .ok (.if_icmp .lt 5, 3) := by decide +kernel
theorem d_Wi_readNumber_9 : decode M_Wi_readNumber.2.1 9 = .ok (.iconst 0, 1) := by decide +kernel
theorem d_Wi_readNumber_10 : decode M_Wi_readNumber.2.1 10 = .ok (.ireturn, 1) := by decide +kernel
theorem d_Wi_readNumber_11 : decode M_Wi_readNumber.2.1 11 = .ok (.aload_n 1, 1) := by decide +kernel
theorem d_Wi_readNumber_12 : decode M_Wi_readNumber.2.1 12 = .ok (.aload_n 0, 1) := by decide +kernel
theorem d_Wi_readNumber_13 : decode M_Wi_readNumber.2.1 13 = .ok (.getfield 31, 3) := by decide +kernel
theorem d_Wi_readNumber_16 : decode M_Wi_readNumber.2.1 16 = .ok (.invokevirtual 74, 3) := by decide +kernel
theorem d_Wi_readNumber_19 : decode M_Wi_readNumber.2.1 19 = .ok (.bipush 45, 2) := by decide +kernel
theorem d_Wi_readNumber_21 : decode M_Wi_readNumber.2.1 21 = .ok (.if_icmp .ne 7, 3) := by decide +kernel
theorem d_Wi_readNumber_24 : decode M_Wi_readNumber.2.1 24 = .ok (.iconst 1, 1) := by decide +kernel
theorem d_Wi_readNumber_25 : decode M_Wi_readNumber.2.1 25 = .ok (.goto 4, 3) := by decide +kernel
theorem d_Wi_readNumber_28 : decode M_Wi_readNumber.2.1 28 = .ok (.iconst 0, 1) := by decide +kernel
theorem d_Wi_readNumber_29 : decode M_Wi_readNumber.2.1 29 = .ok (.istore_n 3, 1) := by decide +kernel
theorem d_Wi_readNumber_30 : decode M_Wi_readNumber.2.1 30 = .ok (.iload_n 3, 1) := by decide +kernel
theorem d_Wi_readNumber_31 : decode M_Wi_readNumber.2.1 31 = .ok (.ifCond .eq 13, 3) := by decide +kernel
theorem d_Wi_readNumber_34 : decode M_Wi_readNumber.2.1 34 = .ok (.aload_n 0, 1) := by decide +kernel
theorem d_Wi_readNumber_35 : decode M_Wi_readNumber.2.1 35 = .ok (.dup, 1) := by decide +kernel
theorem d_Wi_readNumber_36 : decode M_Wi_readNumber.2.1 36 = .ok (.getfield 31, 3) := by decide +kernel
theorem d_Wi_readNumber_39 : decode M_Wi_readNumber.2.1 39 = .ok (.iconst 1, 1) := by decide +kernel
theorem d_Wi_readNumber_40 : decode M_Wi_readNumber.2.1 40 = .ok (.iadd, 1) := by decide +kernel
theorem d_Wi_readNumber_41 : decode M_Wi_readNumber.2.1 41 = .ok (.putfield 31, 3) := by decide +kernel
theorem d_Wi_readNumber_44 : decode M_Wi_readNumber.2.1 44 = .ok (.iconst 0, 1) := by decide +kernel
theorem d_Wi_readNumber_45 : decode M_Wi_readNumber.2.1 45 = .ok (.istore 4, 2) := by decide +kernel
theorem d_Wi_readNumber_47 : decode M_Wi_readNumber.2.1 47 = .ok (.iconst 0, 1) := by decide +kernel
theorem d_Wi_readNumber_48 : decode M_Wi_readNumber.2.1 48 = .ok (.istore 5, 2) := by decide +kernel
theorem d_Wi_readNumber_50 : decode M_Wi_readNumber.2.1 50 = .ok (.iload 5, 2) := by decide +kernel
theorem d_Wi_readNumber_52 : decode M_Wi_readNumber.2.1 52 = .ok (.iconst 3, 1) := by decide +kernel
theorem d_Wi_readNumber_53 : decode M_Wi_readNumber.2.1 53 = .ok (.if_icmp .ge 64, 3) := by decide +kernel
theorem d_Wi_readNumber_56 : decode M_Wi_readNumber.2.1 56 = .ok (.aload_n 1, 1) := by decide +kernel
theorem d_Wi_readNumber_57 : decode M_Wi_readNumber.2.1 57 = .ok (.aload_n 0, 1) := by decide +kernel
theorem d_Wi_readNumber_58 : decode M_Wi_readNumber.2.1 58 = .ok (.getfield 31, 3) := by decide +kernel
theorem d_Wi_readNumber_61 : decode M_Wi_readNumber.2.1 61 = .ok (.invokevirtual 74, 3) := by decide +kernel
theorem d_Wi_readNumber_64 : decode M_Wi_readNumber.2.1 64 = .ok (.bipush 48, 2) := by decide +kernel
theorem d_Wi_readNumber_66 : decode M_Wi_readNumber.2.1 66 = .ok (.if_icmp .lt 51, 3) := by decide +kernel
theorem d_Wi_readNumber_69 : decode M_Wi_readNumber.2.1 69 = .ok (.aload_n 1, 1) := by decide +kernel
theorem d_Wi_readNumber_70 : decode M_Wi_readNumber.2.1 70 = .ok (.aload_n 0, 1) := by decide +kernel
theorem d_Wi_readNumber_71 : decode M_Wi_readNumber.2.1 71 = .ok (.getfield 31, 3) := by decide +kernel
theorem d_Wi_readNumber_74 : decode M_Wi_readNumber.2.1 74 = .ok (.invokevirtual 74, 3) := by decide +kernel
theorem d_Wi_readNumber_77 : decode M_Wi_readNumber.2.1 77 = .ok (.bipush 57, 2) := by decide +kernel
theorem d_Wi_readNumber_79 : decode M_Wi_readNumber.2.1 79 = .ok (.if_icmp .gt 38, 3) := by decide +kernel
theorem d_Wi_readNumber_82 : decode M_Wi_readNumber.2.1 82 = .ok (.bipush 10, 2) := by decide +kernel
theorem d_Wi_readNumber_84 : decode M_Wi_readNumber.2.1 84 = .ok (.iload 4, 2) := by decide +kernel
theorem d_Wi_readNumber_86 : decode M_Wi_readNumber.2.1 86 = .ok (.imul, 1) := by decide +kernel
theorem d_Wi_readNumber_87 : decode M_Wi_readNumber.2.1 87 = .ok (.aload_n 1, 1) := by decide +kernel
theorem d_Wi_readNumber_88 : decode M_Wi_readNumber.2.1 88 = .ok (.aload_n 0, 1) := by decide +kernel
theorem d_Wi_readNumber_89 : decode M_Wi_readNumber.2.1 89 = .ok (.getfield 31, 3) := by decide +kernel
theorem d_Wi_readNumber_92 : decode M_Wi_readNumber.2.1 92 = .ok (.invokevirtual 74, 3) := by decide +kernel
theorem d_Wi_readNumber_95 : decode M_Wi_readNumber.2.1 95 = .ok (.iadd, 1) := by decide +kernel
theorem d_Wi_readNumber_96 : decode M_Wi_readNumber.2.1 96 = .ok (.bipush 48, 2) := by decide +kernel
theorem d_Wi_readNumber_98 : decode M_Wi_readNumber.2.1 98 = .ok (.isub, 1) := by decide +kernel
theorem d_Wi_readNumber_99 : decode M_Wi_readNumber.2.1 99 = .ok (.istore 4, 2) := by decide +kernel
theorem d_Wi_readNumber_101 : decode M_Wi_readNumber.2.1 101 = .ok (.aload_n 0, 1) := by decide +kernel
theorem d_Wi_readNumber_102 : decode M_Wi_readNumber.2.1 102 = .ok (.dup, 1) := by decide +kernel
theorem d_Wi_readNumber_103 : decode M_Wi_readNumber.2.1 103 = .ok (.getfield 31, 3) := by decide +kernel
theorem d_Wi_readNumber_106 : decode M_Wi_readNumber.2.1 106 = .ok (.iconst 1, 1) := by decide +kernel
theorem d_Wi_readNumber_107 : decode M_Wi_readNumber.2.1 107 = .ok (.iadd, 1) := by decide +kernel
theorem d_Wi_readNumber_108 : decode M_Wi_readNumber.2.1 108 = .ok (.putfield 31, 3) := by decide +kernel
theorem d_Wi_readNumber_111 : decode M_Wi_readNumber.2.1 111 = .ok (.iinc 5 1, 3) := by decide +kernel
theorem d_Wi_readNumber_114 : decode M_Wi_readNumber.2.1 114 = .ok (.goto (-64), 3) := by decide +kernel
theorem d_Wi_readNumber_117 : decode M_Wi_readNumber.2.1 117 = .ok (.aload_n 0, 1) := by decide +kernel
theorem d_Wi_readNumber_118 : decode M_Wi_readNumber.2.1 118 = .ok (.getfield 28, 3) := by decide +kernel
theorem d_Wi_readNumber_121 : decode M_Wi_readNumber.2.1 121 = .ok (.iload_n 2, 1) := by decide +kernel
theorem d_Wi_readNumber_122 : decode M_Wi_readNumber.2.1 122 = .ok (.iload_n 3, 1) := by decide +kernel
theorem d_Wi_readNumber_123 : decode M_Wi_readNumber.2.1 123 = .ok (.ifCond .eq 9, 3) := by decide +kernel
theorem d_Wi_readNumber_126 : decode M_Wi_readNumber.2.1 126 = .ok (.iload 4, 2) := by decide +kernel
theorem d_Wi_readNumber_128 : decode M_Wi_readNumber.2.1 128 = .ok (.ineg, 1) := by decide +kernel
theorem d_Wi_readNumber_129 : decode M_Wi_readNumber.2.1 129 = .ok (.goto 5, 3) := by decide +kernel
theorem d_Wi_readNumber_132 : decode M_Wi_readNumber.2.1 132 = .ok (.iload 4, 2) := by decide +kernel
theorem d_Wi_readNumber_134 : decode M_Wi_readNumber.2.1 134 = .ok (.iastore, 1) := by decide +kernel
theorem d_Wi_readNumber_135 : decode M_Wi_readNumber.2.1 135 = .ok (.iload 5, 2) := by decide +kernel
theorem d_Wi_readNumber_137 : decode M_Wi_readNumber.2.1 137 = .ok (.ifCond .le 7, 3) := by decide +kernel
theorem d_Wi_readNumber_140 : decode M_Wi_readNumber.2.1 140 = .ok (.iconst 1, 1) := by decide +kernel
theorem d_Wi_readNumber_141 : decode M_Wi_readNumber.2.1 141 = .ok (.goto 4, 3) := by decide +kernel
theorem d_Wi_readNumber_144 : decode M_Wi_readNumber.2.1 144 = .ok (.iconst 0, 1) := by decide +kernel
theorem d_Wi_readNumber_145 : decode M_Wi_readNumber.2.1 145 = .ok (.ireturn, 1) := by decide +kernel
theorem gl_Wi_28_10 : GL RX10 28 10 5 := ⟨RX10, TX10, 7, RX10, rfl, by decide, (lwg_at 202 (by decide +kernel) rfl), Or.inl rfl, gl_w inX10⟩
def F_Wi_readNumber_134 (a : Nat) (x1 : Nat) (x2 : Int32) (x5 : Int32) (s0 : Int32) (s1 : Int32) (δ : Dl) : Option (Int32 × Dl) :=
  if inb s1 4 then bnd (sA δ 85 a s1 s0) fun δ134 => if x5 ≤ 0 then (some (0, δ134)) else (some (1, δ134)) else none
set_option maxRecDepth 20000 in
set_option maxHeartbeats 4000000 in
theorem j_Wi_readNumber_134 {l : Launch} {Γ : Gm} (hG : GC Γ) (a : Nat) (x1 : Nat) (x2 : Int32) (ha : Oc a 10) (hx1 : Oc x1 0) (x5 : Int32) (s0 : Int32) (s1 : Int32) (δ : Dl) (r : Int32 × Dl) (h : F_Wi_readNumber_134 a x1 x2 x5 s0 s1 δ = some r) : Xe l M_Wi_readNumber 1 0 0 NF 134 [none, none, none, none, none, some (.inl x5)] [.inl s0, .inl s1, .inr (85, a)] 0 0 Γ δ (some (.inl r.1), Γ, r.2) := by
  unfold F_Wi_readNumber_134 at h
  have oa := hG.ob ha
  obtain ⟨g134, h⟩ := gd_e h
  obtain ⟨δ134, eδ134, h⟩ := bn_e h
  refine x_iast (n := 4) kf_85 (oz_85 oa) (ln_85 _) g134 d_Wi_readNumber_134 (Xe.cδ eδ134 ?_)
  refine x_iload (i := 5) d_Wi_readNumber_135 rfl ?_
  refine x_if_le (tgt := 144) d_Wi_readNumber_137 (by decide) (fun c137 => ?_) (fun c137 => ?_)
  · have h := if_t c137 h
    refine x_ic (v := 0) d_Wi_readNumber_144 (by decide) ?_
    replace h := Option.some.inj h; subst h
    exact x_nret rfl rfl d_Wi_readNumber_145 (Nat.le_refl 0) (Nat.le_refl 0)
  · have h := if_f c137 h
    refine x_ic (v := 1) d_Wi_readNumber_140 (by decide) ?_
    refine x_goto (tgt := 145) d_Wi_readNumber_141 (by decide) ?_
    replace h := Option.some.inj h; subst h
    exact x_nret rfl rfl d_Wi_readNumber_145 (Nat.le_refl 0) (Nat.le_refl 0)
def F_Wi_readNumber_117 (a : Nat) (x1 : Nat) (x2 : Int32) (x3 : Int32) (x4 : Int32) (x5 : Int32) (δ : Dl) : Option (Int32 × Dl) :=
  if x3 = 0 then (F_Wi_readNumber_134 a x1 x2 x5 x4 x2 δ) else (F_Wi_readNumber_134 a x1 x2 x5 ((-x4)) x2 δ)
set_option maxRecDepth 20000 in
set_option maxHeartbeats 4000000 in
theorem j_Wi_readNumber_117 {l : Launch} {Γ : Gm} (hG : GC Γ) (a : Nat) (x1 : Nat) (x2 : Int32) (ha : Oc a 10) (hx1 : Oc x1 0) (x3 : Int32) (x4 : Int32) (x5 : Int32) (δ : Dl) (r : Int32 × Dl) (h : F_Wi_readNumber_117 a x1 x2 x3 x4 x5 δ = some r) : Xe l M_Wi_readNumber 1 0 0 NF 117 [some (.inr (0, a)), none, some (.inl x2), some (.inl x3), some (.inl x4), some (.inl x5)] [] 0 0 Γ δ (some (.inl r.1), Γ, r.2) := by
  unfold F_Wi_readNumber_117 at h
  have oa := hG.ob ha
  refine x_aload_n (i := 0) d_Wi_readNumber_117 rfl rfl ?_
  refine x_getA (f := 85) gl_Wi_28_10 rfl (by rw [kf_85]; decide) oa d_Wi_readNumber_118 ?_
  refine x_iload_n (i := 2) d_Wi_readNumber_121 rfl rfl ?_
  refine x_iload_n (i := 3) d_Wi_readNumber_122 rfl rfl ?_
  refine x_if_eq (tgt := 132) d_Wi_readNumber_123 (by decide) (fun c123 => ?_) (fun c123 => ?_)
  · have h := if_t c123 h
    refine x_iload (i := 4) d_Wi_readNumber_132 rfl ?_
    refine x_wk (ls' := [none, none, none, none, none, some (.inl x5)]) ⟨Or.inl rfl, Or.inl rfl, Or.inl rfl, Or.inl rfl, Or.inl rfl, Or.inr rfl, trivial⟩ ?_
    exact j_Wi_readNumber_134 hG a x1 x2 ha hx1 x5 x4 x2 δ r h
  · have h := if_f c123 h
    refine x_iload (i := 4) d_Wi_readNumber_126 rfl ?_
    refine x_ineg d_Wi_readNumber_128 ?_
    refine x_goto (tgt := 134) d_Wi_readNumber_129 (by decide) ?_
    refine x_wk (ls' := [none, none, none, none, none, some (.inl x5)]) ⟨Or.inl rfl, Or.inl rfl, Or.inl rfl, Or.inl rfl, Or.inl rfl, Or.inr rfl, trivial⟩ ?_
    exact j_Wi_readNumber_134 hG a x1 x2 ha hx1 x5 ((-x4)) x2 δ r h
def F_Wi_readNumber_50_b (a : Nat) (x1 : Nat) (x2 : Int32) (k50 : Int32 → Int32 → Int32 → Dl → Option (Int32 × Dl)) (x3 : Int32) (x4 : Int32) (x5 : Int32) (δ : Dl) : Option (Int32 × Dl) :=
  if 3 ≤ x5 then (F_Wi_readNumber_117 a x1 x2 x3 x4 x5 δ) else ((F_By_byteAt x1 (δ.1 86 a) δ).bind fun v61 => if v61 < 48 then (F_Wi_readNumber_117 a x1 x2 x3 x4 x5 δ) else ((F_By_byteAt x1 (δ.1 86 a) δ).bind fun v74 => if 57 < v74 then (F_Wi_readNumber_117 a x1 x2 x3 x4 x5 δ) else ((F_By_byteAt x1 (δ.1 86 a) δ).bind fun v92 => bnd (sI δ 86 a ((δ.1 86 a) + 1)) fun δ108 => k50 x3 ((((10 * x4) + v92) - 48)) ((x5 + 1)) δ108)))
set_option maxRecDepth 20000 in
set_option maxHeartbeats 4000000 in
theorem j_Wi_readNumber_50_b {l : Launch} {Γ : Gm} (hG : GC Γ) (a : Nat) (x1 : Nat) (x2 : Int32) (ha : Oc a 10) (hx1 : Oc x1 0) (k50 : Int32 → Int32 → Int32 → Dl → Option (Int32 × Dl)) (x3 : Int32) (x4 : Int32) (x5 : Int32) (δ : Dl) (r : Int32 × Dl) (hk50 : ∀ (x3 : Int32) (x4 : Int32) (x5 : Int32) (δ : Dl),  k50 x3 x4 x5 δ = some r → Xe l M_Wi_readNumber 1 0 0 NF 50 [some (.inr (0, a)), some (.inr (0, x1)), some (.inl x2), some (.inl x3), some (.inl x4), some (.inl x5)] [] 0 0 Γ δ (some (.inl r.1), Γ, r.2)) (h : F_Wi_readNumber_50_b a x1 x2 k50 x3 x4 x5 δ = some r) : Xe l M_Wi_readNumber 1 0 0 NF 50 [some (.inr (0, a)), some (.inr (0, x1)), some (.inl x2), some (.inl x3), some (.inl x4), some (.inl x5)] [] 0 0 Γ δ (some (.inl r.1), Γ, r.2) := by
  unfold F_Wi_readNumber_50_b at h
  have oa := hG.ob ha
  refine x_iload (i := 5) d_Wi_readNumber_50 rfl ?_
  refine x_ic (v := 3) d_Wi_readNumber_52 (by decide) ?_
  refine x_cmp_ge (tgt := 117) d_Wi_readNumber_53 (by decide) (fun c53 => ?_) (fun c53 => ?_)
  · have h := if_t c53 h
    refine x_wk (ls' := [some (.inr (0, a)), none, some (.inl x2), some (.inl x3), some (.inl x4), some (.inl x5)]) ⟨Or.inr rfl, Or.inl rfl, Or.inr rfl, Or.inr rfl, Or.inr rfl, Or.inr rfl, trivial⟩ ?_
    exact j_Wi_readNumber_117 hG a x1 x2 ha hx1 x3 x4 x5 δ r h
  · have h := if_f c53 h
    refine x_aload_n (i := 1) d_Wi_readNumber_56 rfl rfl ?_
    refine x_aload_n (i := 0) d_Wi_readNumber_57 rfl rfl ?_
    refine x_getI (f := 86) gl_Wi_31_10 rfl kf_86 oa d_Wi_readNumber_58 ?_
    obtain ⟨v61, ev61, h⟩ := bd_e h
    refine y_V1 cs_Wi_74 rfl (hG.ob hx1) (by first | decide | omega) (Nat.le_of_ble_eq_true rfl) d_Wi_readNumber_61 (c_By_byteAt hG x1 (δ.1 86 a) hx1 δ v61 ev61) (Nat.le_refl 0) (Nat.le_refl 0) ?_
    refine x_bi (v := 48) d_Wi_readNumber_64 (by decide) ?_
    refine x_cmp_lt (tgt := 117) d_Wi_readNumber_66 (by decide) (fun c66 => ?_) (fun c66 => ?_)
    · have h := if_t c66 h
      refine x_wk (ls' := [some (.inr (0, a)), none, some (.inl x2), some (.inl x3), some (.inl x4), some (.inl x5)]) ⟨Or.inr rfl, Or.inl rfl, Or.inr rfl, Or.inr rfl, Or.inr rfl, Or.inr rfl, trivial⟩ ?_
      exact j_Wi_readNumber_117 hG a x1 x2 ha hx1 x3 x4 x5 δ r h
    · have h := if_f c66 h
      refine x_aload_n (i := 1) d_Wi_readNumber_69 rfl rfl ?_
      refine x_aload_n (i := 0) d_Wi_readNumber_70 rfl rfl ?_
      refine x_getI (f := 86) gl_Wi_31_10 rfl kf_86 oa d_Wi_readNumber_71 ?_
      obtain ⟨v74, ev74, h⟩ := bd_e h
      refine y_V1 cs_Wi_74 rfl (hG.ob hx1) (by first | decide | omega) (Nat.le_of_ble_eq_true rfl) d_Wi_readNumber_74 (c_By_byteAt hG x1 (δ.1 86 a) hx1 δ v74 ev74) (Nat.le_refl 0) (Nat.le_refl 0) ?_
      refine x_bi (v := 57) d_Wi_readNumber_77 (by decide) ?_
      refine x_cmp_gt (tgt := 117) d_Wi_readNumber_79 (by decide) (fun c79 => ?_) (fun c79 => ?_)
      · have h := if_t c79 h
        refine x_wk (ls' := [some (.inr (0, a)), none, some (.inl x2), some (.inl x3), some (.inl x4), some (.inl x5)]) ⟨Or.inr rfl, Or.inl rfl, Or.inr rfl, Or.inr rfl, Or.inr rfl, Or.inr rfl, trivial⟩ ?_
        exact j_Wi_readNumber_117 hG a x1 x2 ha hx1 x3 x4 x5 δ r h
      · have h := if_f c79 h
        refine x_bi (v := 10) d_Wi_readNumber_82 (by decide) ?_
        refine x_iload (i := 4) d_Wi_readNumber_84 rfl ?_
        refine x_imul d_Wi_readNumber_86 ?_
        refine x_aload_n (i := 1) d_Wi_readNumber_87 rfl rfl ?_
        refine x_aload_n (i := 0) d_Wi_readNumber_88 rfl rfl ?_
        refine x_getI (f := 86) gl_Wi_31_10 rfl kf_86 oa d_Wi_readNumber_89 ?_
        obtain ⟨v92, ev92, h⟩ := bd_e h
        refine y_V1 cs_Wi_74 rfl (hG.ob hx1) (by first | decide | omega) (Nat.le_of_ble_eq_true rfl) d_Wi_readNumber_92 (c_By_byteAt hG x1 (δ.1 86 a) hx1 δ v92 ev92) (Nat.le_refl 0) (Nat.le_refl 0) ?_
        refine x_iadd d_Wi_readNumber_95 ?_
        refine x_bi (v := 48) d_Wi_readNumber_96 (by decide) ?_
        refine x_isub d_Wi_readNumber_98 ?_
        refine x_stw (i := 4) (ls' := [some (.inr (0, a)), some (.inr (0, x1)), some (.inl x2), some (.inl x3), some (.inl (((10 * x4) + v92) - 48)), some (.inl x5)]) d_Wi_readNumber_99 (by decide) rfl ?_
        refine x_aload_n (i := 0) d_Wi_readNumber_101 rfl rfl ?_
        refine x_dup d_Wi_readNumber_102 ?_
        refine x_getI (f := 86) gl_Wi_31_10 rfl kf_86 oa d_Wi_readNumber_103 ?_
        refine x_ic (v := 1) d_Wi_readNumber_106 (by decide) ?_
        refine x_iadd d_Wi_readNumber_107 ?_
        obtain ⟨δ108, eδ108, h⟩ := bn_e h
        refine x_putI (f := 86) gp_Wi_31_10 rfl kf_86 (fun h => by cases h) rfl rfl oa.1 oa.z d_Wi_readNumber_108 (Xe.cδ eδ108 ?_)
        refine x_inc (i := 5) (c0 := 1) (ls' := [some (.inr (0, a)), some (.inr (0, x1)), some (.inl x2), some (.inl x3), some (.inl (((10 * x4) + v92) - 48)), some (.inl (x5 + 1))]) d_Wi_readNumber_111 (by decide) rfl (by decide) rfl ?_
        refine x_goto (tgt := 50) d_Wi_readNumber_114 (by decide) ?_
        exact hk50 x3 ((((10 * x4) + v92) - 48)) ((x5 + 1)) δ108 h
def F_Wi_readNumber_50 (a : Nat) (x1 : Nat) (x2 : Int32) : Nat → Int32 → Int32 → Int32 → Dl → Option (Int32 × Dl)
  | 0, _, _, _, _ => none
  | n + 1, x3, x4, x5, δ => F_Wi_readNumber_50_b a x1 x2 (F_Wi_readNumber_50 a x1 x2 n) x3 x4 x5 δ
theorem j_Wi_readNumber_50 {l : Launch} {Γ : Gm} (hG : GC Γ) (a : Nat) (x1 : Nat) (x2 : Int32) (ha : Oc a 10) (hx1 : Oc x1 0) (n : Nat) (x3 : Int32) (x4 : Int32) (x5 : Int32) (δ : Dl) (r : Int32 × Dl) (h : F_Wi_readNumber_50 a x1 x2 n x3 x4 x5 δ = some r) : Xe l M_Wi_readNumber 1 0 0 NF 50 [some (.inr (0, a)), some (.inr (0, x1)), some (.inl x2), some (.inl x3), some (.inl x4), some (.inl x5)] [] 0 0 Γ δ (some (.inl r.1), Γ, r.2) := by
  induction n generalizing x3 x4 x5 δ with
  | zero => cases h
  | succ n ih => exact j_Wi_readNumber_50_b hG a x1 x2 ha hx1 (F_Wi_readNumber_50 a x1 x2 n) x3 x4 x5 δ r (fun x3 x4 x5 δ hh => ih x3 x4 x5 δ hh) h
def F_Wi_readNumber_44 (a : Nat) (x1 : Nat) (x2 : Int32) (x3 : Int32) (δ : Dl) : Option (Int32 × Dl) :=
  F_Wi_readNumber_50 a x1 x2 FU x3 0 0 δ
set_option maxRecDepth 20000 in
set_option maxHeartbeats 4000000 in
theorem j_Wi_readNumber_44 {l : Launch} {Γ : Gm} (hG : GC Γ) (a : Nat) (x1 : Nat) (x2 : Int32) (ha : Oc a 10) (hx1 : Oc x1 0) (x3 : Int32) (δ : Dl) (r : Int32 × Dl) (h : F_Wi_readNumber_44 a x1 x2 x3 δ = some r) : Xe l M_Wi_readNumber 1 0 0 NF 44 [some (.inr (0, a)), some (.inr (0, x1)), some (.inl x2), some (.inl x3), none, none] [] 0 0 Γ δ (some (.inl r.1), Γ, r.2) := by
  unfold F_Wi_readNumber_44 at h
  have oa := hG.ob ha
  refine x_ic (v := 0) d_Wi_readNumber_44 (by decide) ?_
  refine x_stw (i := 4) (ls' := [some (.inr (0, a)), some (.inr (0, x1)), some (.inl x2), some (.inl x3), some (.inl 0), none]) d_Wi_readNumber_45 (by decide) rfl ?_
  refine x_ic (v := 0) d_Wi_readNumber_47 (by decide) ?_
  refine x_stw (i := 5) (ls' := [some (.inr (0, a)), some (.inr (0, x1)), some (.inl x2), some (.inl x3), some (.inl 0), some (.inl 0)]) d_Wi_readNumber_48 (by decide) rfl ?_
  exact j_Wi_readNumber_50 hG a x1 x2 ha hx1 FU x3 0 0 δ r h
def F_Wi_readNumber_29 (a : Nat) (x1 : Nat) (x2 : Int32) (s0 : Int32) (δ : Dl) : Option (Int32 × Dl) :=
  if s0 = 0 then (F_Wi_readNumber_44 a x1 x2 s0 δ) else (bnd (sI δ 86 a ((δ.1 86 a) + 1)) fun δ41 => F_Wi_readNumber_44 a x1 x2 s0 δ41)
set_option maxRecDepth 20000 in
set_option maxHeartbeats 4000000 in
theorem j_Wi_readNumber_29 {l : Launch} {Γ : Gm} (hG : GC Γ) (a : Nat) (x1 : Nat) (x2 : Int32) (ha : Oc a 10) (hx1 : Oc x1 0) (s0 : Int32) (δ : Dl) (r : Int32 × Dl) (h : F_Wi_readNumber_29 a x1 x2 s0 δ = some r) : Xe l M_Wi_readNumber 1 0 0 NF 29 [some (.inr (0, a)), some (.inr (0, x1)), some (.inl x2), none, none, none] [.inl s0] 0 0 Γ δ (some (.inl r.1), Γ, r.2) := by
  unfold F_Wi_readNumber_29 at h
  have oa := hG.ob ha
  refine x_stn (i := 3) (ls' := [some (.inr (0, a)), some (.inr (0, x1)), some (.inl x2), some (.inl s0), none, none]) d_Wi_readNumber_29 rfl (by decide) rfl ?_
  refine x_iload_n (i := 3) d_Wi_readNumber_30 rfl rfl ?_
  refine x_if_eq (tgt := 44) d_Wi_readNumber_31 (by decide) (fun c31 => ?_) (fun c31 => ?_)
  · have h := if_t c31 h
    exact j_Wi_readNumber_44 hG a x1 x2 ha hx1 s0 δ r h
  · have h := if_f c31 h
    refine x_aload_n (i := 0) d_Wi_readNumber_34 rfl rfl ?_
    refine x_dup d_Wi_readNumber_35 ?_
    refine x_getI (f := 86) gl_Wi_31_10 rfl kf_86 oa d_Wi_readNumber_36 ?_
    refine x_ic (v := 1) d_Wi_readNumber_39 (by decide) ?_
    refine x_iadd d_Wi_readNumber_40 ?_
    obtain ⟨δ41, eδ41, h⟩ := bn_e h
    refine x_putI (f := 86) gp_Wi_31_10 rfl kf_86 (fun h => by cases h) rfl rfl oa.1 oa.z d_Wi_readNumber_41 (Xe.cδ eδ41 ?_)
    exact j_Wi_readNumber_44 hG a x1 x2 ha hx1 s0 δ41 r h
def F_Wi_readNumber (a : Nat) (x1 : Nat) (x2 : Int32) (δ : Dl) : Option (Int32 × Dl) :=
  if x2 < 0 then (some (0, δ)) else (if x2 < 4 then ((F_By_byteAt x1 (δ.1 86 a) δ).bind fun v16 => if v16 = 45 then (F_Wi_readNumber_29 a x1 x2 1 δ) else (F_Wi_readNumber_29 a x1 x2 0 δ)) else (some (0, δ)))
set_option maxRecDepth 20000 in
set_option maxHeartbeats 4000000 in
theorem c_Wi_readNumber {l : Launch} {Γ : Gm} (hG : GC Γ) (a : Nat) (x1 : Nat) (x2 : Int32) (ha : Oc a 10) (hx1 : Oc x1 0) (δ : Dl) (r : Int32 × Dl) (h : F_Wi_readNumber a x1 x2  δ = some r) : Ct l M_Wi_readNumber 1 0 0 NF [.inr (0, a), .inr (0, x1), .inl x2] Γ δ (some (.inl r.1), Γ, r.2) := by
  unfold F_Wi_readNumber at h
  have oa := hG.ob ha
  refine Ct.of2 (n := 3) (ls := [some (.inr (0, a)), some (.inr (0, x1)), some (.inl x2), none, none, none]) rfl (by decide +kernel) (Nat.le_of_ble_eq_true rfl) ?_
  refine x_iload_n (i := 2) d_Wi_readNumber_0 rfl rfl ?_
  refine x_if_lt (tgt := 9) d_Wi_readNumber_1 (by decide) (fun c1 => ?_) (fun c1 => ?_)
  · have h := if_t c1 h
    refine x_ic (v := 0) d_Wi_readNumber_9 (by decide) ?_
    replace h := Option.some.inj h; subst h
    exact x_nret rfl rfl d_Wi_readNumber_10 (Nat.le_refl 0) (Nat.le_refl 0)
  · have h := if_f c1 h
    refine x_iload_n (i := 2) d_Wi_readNumber_4 rfl rfl ?_
    refine x_ic (v := 4) d_Wi_readNumber_5 (by decide) ?_
    refine x_cmp_lt (tgt := 11) d_Wi_readNumber_6 (by decide) (fun c6 => ?_) (fun c6 => ?_)
    · have h := if_t c6 h
      refine x_aload_n (i := 1) d_Wi_readNumber_11 rfl rfl ?_
      refine x_aload_n (i := 0) d_Wi_readNumber_12 rfl rfl ?_
      refine x_getI (f := 86) gl_Wi_31_10 rfl kf_86 oa d_Wi_readNumber_13 ?_
      obtain ⟨v16, ev16, h⟩ := bd_e h
      refine y_V1 cs_Wi_74 rfl (hG.ob hx1) (by first | decide | omega) (Nat.le_of_ble_eq_true rfl) d_Wi_readNumber_16 (c_By_byteAt hG x1 (δ.1 86 a) hx1 δ v16 ev16) (Nat.le_refl 0) (Nat.le_refl 0) ?_
      refine x_bi (v := 45) d_Wi_readNumber_19 (by decide) ?_
      refine x_cmp_ne (tgt := 28) d_Wi_readNumber_21 (by decide) (fun c21 => ?_) (fun c21 => ?_)
      · have h := if_f c21 h
        refine x_ic (v := 0) d_Wi_readNumber_28 (by decide) ?_
        exact j_Wi_readNumber_29 hG a x1 x2 ha hx1 0 δ r h
      · have h := if_t c21 h
        refine x_ic (v := 1) d_Wi_readNumber_24 (by decide) ?_
        refine x_goto (tgt := 29) d_Wi_readNumber_25 (by decide) ?_
        exact j_Wi_readNumber_29 hG a x1 x2 ha hx1 1 δ r h
    · have h := if_f c6 h
      refine x_ic (v := 0) d_Wi_readNumber_9 (by decide) ?_
      replace h := Option.some.inj h; subst h
      exact x_nret rfl rfl d_Wi_readNumber_10 (Nat.le_refl 0) (Nat.le_refl 0)
-- BlockStage$Wish.readPart(LBlockStage$Bytes;I)Z
theorem d_Wi_readPart_0 : decode M_Wi_readPart.2.1 0 = .ok (.iload_n 2, 1) := by decide +kernel
theorem d_Wi_readPart_1 : decode M_Wi_readPart.2.1 1 = .ok (.ifCond .lt 8, 3) := by decide +kernel
theorem d_Wi_readPart_4 : decode M_Wi_readPart.2.1 4 = .ok (.iload_n 2, 1) := by decide +kernel
theorem d_Wi_readPart_5 : decode M_Wi_readPart.2.1 5 = .ok (.iconst 4, 1) := by decide +kernel
theorem d_Wi_readPart_6 : decode M_Wi_readPart.2.1 6 = .ok (.if_icmp .lt 5, 3) := by decide +kernel
theorem d_Wi_readPart_9 : decode M_Wi_readPart.2.1 9 = .ok (.iconst 0, 1) := by decide +kernel
theorem d_Wi_readPart_10 : decode M_Wi_readPart.2.1 10 = .ok (.ireturn, 1) := by decide +kernel
theorem d_Wi_readPart_11 : decode M_Wi_readPart.2.1 11 = .ok (.aload_n 0, 1) := by decide +kernel
theorem d_Wi_readPart_12 : decode M_Wi_readPart.2.1 12 = .ok (.aload_n 1, 1) := by decide +kernel
theorem d_Wi_readPart_13 : decode M_Wi_readPart.2.1 13 = .ok (.iload_n 2, 1) := by decide +kernel
theorem d_Wi_readPart_14 : decode M_Wi_readPart.2.1 14 = .ok (.invokevirtual 55, 3) := by decide +kernel
theorem d_Wi_readPart_17 : decode M_Wi_readPart.2.1 17 = .ok (.ifCond .eq 44, 3) := by decide +kernel
theorem d_Wi_readPart_20 : decode M_Wi_readPart.2.1 20 = .ok (.aload_n 0, 1) := by decide +kernel
theorem d_Wi_readPart_21 : decode M_Wi_readPart.2.1 21 = .ok (.aload_n 1, 1) := by decide +kernel
theorem d_Wi_readPart_22 : decode M_Wi_readPart.2.1 22 = .ok (.ldc 58, 2) := by decide +kernel
theorem d_Wi_readPart_24 : decode M_Wi_readPart.2.1 24 = .ok (.invokevirtual 42, 3) := by decide +kernel
theorem d_Wi_readPart_27 : decode M_Wi_readPart.2.1 27 = .ok (.ifCond .eq 34, 3) := by decide +kernel
theorem d_Wi_readPart_30 : decode M_Wi_readPart.2.1 30 = .ok (.aload_n 0, 1) := by decide +kernel
theorem d_Wi_readPart_31 : decode M_Wi_readPart.2.1 31 = .ok (.aload_n 1, 1) := by decide +kernel
theorem d_Wi_readPart_32 : decode M_Wi_readPart.2.1 32 = .ok (.iload_n 2, 1) := by decide +kernel
theorem d_Wi_readPart_33 : decode M_Wi_readPart.2.1 33 = .ok (.invokevirtual 60, 3) := by decide +kernel
theorem d_Wi_readPart_36 : decode M_Wi_readPart.2.1 36 = .ok (.ifCond .eq 25, 3) := by decide +kernel
theorem d_Wi_readPart_39 : decode M_Wi_readPart.2.1 39 = .ok (.aload_n 0, 1) := by decide +kernel
theorem d_Wi_readPart_40 : decode M_Wi_readPart.2.1 40 = .ok (.aload_n 1, 1) := by decide +kernel
theorem d_Wi_readPart_41 : decode M_Wi_readPart.2.1 41 = .ok (.iload_n 2, 1) := by decide +kernel
theorem d_Wi_readPart_42 : decode M_Wi_readPart.2.1 42 = .ok (.invokevirtual 63, 3) := by decide +kernel
theorem d_Wi_readPart_45 : decode M_Wi_readPart.2.1 45 = .ok (.ifCond .eq 16, 3) := by decide +kernel
theorem d_Wi_readPart_48 : decode M_Wi_readPart.2.1 48 = .ok (.aload_n 0, 1) := by decide +kernel
theorem d_Wi_readPart_49 : decode M_Wi_readPart.2.1 49 = .ok (.aload_n 1, 1) := by decide +kernel
theorem d_Wi_readPart_50 : decode M_Wi_readPart.2.1 50 = .ok (.iload_n 2, 1) := by decide +kernel
theorem d_Wi_readPart_51 : decode M_Wi_readPart.2.1 51 = .ok (.invokevirtual 66, 3) := by decide +kernel
theorem d_Wi_readPart_54 : decode M_Wi_readPart.2.1 54 = .ok (.ifCond .eq 7, 3) := by decide +kernel
theorem d_Wi_readPart_57 : decode M_Wi_readPart.2.1 57 = .ok (.iconst 1, 1) := by decide +kernel
theorem d_Wi_readPart_58 : decode M_Wi_readPart.2.1 58 = .ok (.goto 4, 3) := by decide +kernel
theorem d_Wi_readPart_61 : decode M_Wi_readPart.2.1 61 = .ok (.iconst 0, 1) := by decide +kernel
theorem d_Wi_readPart_62 : decode M_Wi_readPart.2.1 62 = .ok (.ireturn, 1) := by decide +kernel
theorem mi_Wi_readWhen : MI M_Wi_readWhen 2 := ⟨(lwg_at 8 (by decide +kernel) rfl), (lwg_at 777 (by decide +kernel) rfl), ⟨by decide +kernel, by decide +kernel⟩, by decide +kernel, by decide⟩
theorem cs_Wi_55 : CV RX10 55 RX10 M_Wi_readWhen 2 := ⟨(lwg_at 774 (by decide +kernel) rfl), (lwg_at 776 (by decide +kernel) rfl), (lwg_priv 11 (y := M_Wi_readWhen.1) (n := 7) (by decide +kernel)), mi_Wi_readWhen⟩
theorem mi_Wi_readField : MI M_Wi_readField 2 := ⟨(lwg_at 8 (by decide +kernel) rfl), (lwg_at 786 (by decide +kernel) rfl), ⟨by decide +kernel, by decide +kernel⟩, by decide +kernel, by decide⟩
theorem cs_Wi_60 : CV RX10 60 RX10 M_Wi_readField 2 := ⟨(lwg_at 783 (by decide +kernel) rfl), (lwg_at 785 (by decide +kernel) rfl), (lwg_priv 12 (y := M_Wi_readField.1) (n := 7) (by decide +kernel)), mi_Wi_readField⟩
theorem mi_Wi_readSign : MI M_Wi_readSign 2 := ⟨(lwg_at 8 (by decide +kernel) rfl), (lwg_at 793 (by decide +kernel) rfl), ⟨by decide +kernel, by decide +kernel⟩, by decide +kernel, by decide⟩
theorem cs_Wi_63 : CV RX10 63 RX10 M_Wi_readSign 2 := ⟨(lwg_at 790 (by decide +kernel) rfl), (lwg_at 792 (by decide +kernel) rfl), (lwg_priv 13 (y := M_Wi_readSign.1) (n := 7) (by decide +kernel)), mi_Wi_readSign⟩
theorem mi_Wi_readNumber : MI M_Wi_readNumber 2 := ⟨(lwg_at 8 (by decide +kernel) rfl), (lwg_at 797 (by decide +kernel) rfl), ⟨by decide +kernel, by decide +kernel⟩, by decide +kernel, by decide⟩
theorem cs_Wi_66 : CV RX10 66 RX10 M_Wi_readNumber 2 := ⟨(lwg_at 794 (by decide +kernel) rfl), (lwg_at 796 (by decide +kernel) rfl), (lwg_priv 14 (y := M_Wi_readNumber.1) (n := 7) (by decide +kernel)), mi_Wi_readNumber⟩
def F_Wi_readPart (a : Nat) (x1 : Nat) (x2 : Int32) (δ : Dl) : Option (Int32 × Dl) :=
  if x2 < 0 then (some (0, δ)) else (if x2 < 4 then (bd2 (F_Wi_readWhen a x1 x2 δ) fun v14 δ14 => if v14 = 0 then (some (0, δ14)) else (bd2 (F_Wi_readWord a x1 5 δ14) fun v24 δ24 => if v24 = 0 then (some (0, δ24)) else (bd2 (F_Wi_readField a x1 x2 δ24) fun v33 δ33 => if v33 = 0 then (some (0, δ33)) else (bd2 (F_Wi_readSign a x1 x2 δ33) fun v42 δ42 => if v42 = 0 then (some (0, δ42)) else (bd2 (F_Wi_readNumber a x1 x2 δ42) fun v51 δ51 => if v51 = 0 then (some (0, δ51)) else (some (1, δ51))))))) else (some (0, δ)))
set_option maxRecDepth 20000 in
set_option maxHeartbeats 4000000 in
theorem c_Wi_readPart {l : Launch} {Γ : Gm} (hG : GC Γ) (a : Nat) (x1 : Nat) (x2 : Int32) (ha : Oc a 10) (hx1 : Oc x1 0) (δ : Dl) (r : Int32 × Dl) (h : F_Wi_readPart a x1 x2  δ = some r) : Ct l M_Wi_readPart 6 0 0 NF [.inr (0, a), .inr (0, x1), .inl x2] Γ δ (some (.inl r.1), Γ, r.2) := by
  unfold F_Wi_readPart at h
  have oa := hG.ob ha
  refine Ct.of2 (n := 0) (ls := [some (.inr (0, a)), some (.inr (0, x1)), some (.inl x2)]) rfl (by decide +kernel) (Nat.le_of_ble_eq_true rfl) ?_
  refine x_iload_n (i := 2) d_Wi_readPart_0 rfl rfl ?_
  refine x_if_lt (tgt := 9) d_Wi_readPart_1 (by decide) (fun c1 => ?_) (fun c1 => ?_)
  · have h := if_t c1 h
    refine x_ic (v := 0) d_Wi_readPart_9 (by decide) ?_
    replace h := Option.some.inj h; subst h
    exact x_nret rfl rfl d_Wi_readPart_10 (Nat.le_refl 0) (Nat.le_refl 0)
  · have h := if_f c1 h
    refine x_iload_n (i := 2) d_Wi_readPart_4 rfl rfl ?_
    refine x_ic (v := 4) d_Wi_readPart_5 (by decide) ?_
    refine x_cmp_lt (tgt := 11) d_Wi_readPart_6 (by decide) (fun c6 => ?_) (fun c6 => ?_)
    · have h := if_t c6 h
      refine x_aload_n (i := 0) d_Wi_readPart_11 rfl rfl ?_
      refine x_aload_n (i := 1) d_Wi_readPart_12 rfl rfl ?_
      refine x_iload_n (i := 2) d_Wi_readPart_13 rfl rfl ?_
      obtain ⟨v14, δ14, eδ14, h⟩ := bd2_e h
      refine y_V2 cs_Wi_55 rfl oa (by first | decide | omega) (Nat.le_of_ble_eq_true rfl) d_Wi_readPart_14 (c_Wi_readWhen hG a x1 x2 ha hx1 δ (v14, δ14) eδ14) (Nat.le_refl 0) (Nat.le_refl 0) ?_
      refine x_if_eq (tgt := 61) d_Wi_readPart_17 (by decide) (fun c17 => ?_) (fun c17 => ?_)
      · have h := if_t c17 h
        refine x_ic (v := 0) d_Wi_readPart_61 (by decide) ?_
        replace h := Option.some.inj h; subst h
        exact x_nret rfl rfl d_Wi_readPart_62 (Nat.le_refl 0) (Nat.le_refl 0)
      · have h := if_f c17 h
        refine x_aload_n (i := 0) d_Wi_readPart_20 rfl rfl ?_
        refine x_aload_n (i := 1) d_Wi_readPart_21 rfl rfl ?_
        refine x_ldcS5 rfl d_Wi_readPart_22 ?_
        obtain ⟨v24, δ24, eδ24, h⟩ := bd2_e h
        refine y_V2 cs_Wi_42 rfl oa (by first | decide | omega) (Nat.le_of_ble_eq_true rfl) d_Wi_readPart_24 (c_Wi_readWord hG a x1 5 ha hx1 (by decide) δ14 (v24, δ24) eδ24) (Nat.le_refl 0) (Nat.le_refl 0) ?_
        refine x_if_eq (tgt := 61) d_Wi_readPart_27 (by decide) (fun c27 => ?_) (fun c27 => ?_)
        · have h := if_t c27 h
          refine x_ic (v := 0) d_Wi_readPart_61 (by decide) ?_
          replace h := Option.some.inj h; subst h
          exact x_nret rfl rfl d_Wi_readPart_62 (Nat.le_refl 0) (Nat.le_refl 0)
        · have h := if_f c27 h
          refine x_aload_n (i := 0) d_Wi_readPart_30 rfl rfl ?_
          refine x_aload_n (i := 1) d_Wi_readPart_31 rfl rfl ?_
          refine x_iload_n (i := 2) d_Wi_readPart_32 rfl rfl ?_
          obtain ⟨v33, δ33, eδ33, h⟩ := bd2_e h
          refine y_V2 cs_Wi_60 rfl oa (by first | decide | omega) (Nat.le_of_ble_eq_true rfl) d_Wi_readPart_33 (c_Wi_readField hG a x1 x2 ha hx1 δ24 (v33, δ33) eδ33) (Nat.le_refl 0) (Nat.le_refl 0) ?_
          refine x_if_eq (tgt := 61) d_Wi_readPart_36 (by decide) (fun c36 => ?_) (fun c36 => ?_)
          · have h := if_t c36 h
            refine x_ic (v := 0) d_Wi_readPart_61 (by decide) ?_
            replace h := Option.some.inj h; subst h
            exact x_nret rfl rfl d_Wi_readPart_62 (Nat.le_refl 0) (Nat.le_refl 0)
          · have h := if_f c36 h
            refine x_aload_n (i := 0) d_Wi_readPart_39 rfl rfl ?_
            refine x_aload_n (i := 1) d_Wi_readPart_40 rfl rfl ?_
            refine x_iload_n (i := 2) d_Wi_readPart_41 rfl rfl ?_
            obtain ⟨v42, δ42, eδ42, h⟩ := bd2_e h
            refine y_V2 cs_Wi_63 rfl oa (by first | decide | omega) (Nat.le_of_ble_eq_true rfl) d_Wi_readPart_42 (c_Wi_readSign hG a x1 x2 ha hx1 δ33 (v42, δ42) eδ42) (Nat.le_refl 0) (Nat.le_refl 0) ?_
            refine x_if_eq (tgt := 61) d_Wi_readPart_45 (by decide) (fun c45 => ?_) (fun c45 => ?_)
            · have h := if_t c45 h
              refine x_ic (v := 0) d_Wi_readPart_61 (by decide) ?_
              replace h := Option.some.inj h; subst h
              exact x_nret rfl rfl d_Wi_readPart_62 (Nat.le_refl 0) (Nat.le_refl 0)
            · have h := if_f c45 h
              refine x_aload_n (i := 0) d_Wi_readPart_48 rfl rfl ?_
              refine x_aload_n (i := 1) d_Wi_readPart_49 rfl rfl ?_
              refine x_iload_n (i := 2) d_Wi_readPart_50 rfl rfl ?_
              obtain ⟨v51, δ51, eδ51, h⟩ := bd2_e h
              refine y_V2 cs_Wi_66 rfl oa (by first | decide | omega) (Nat.le_of_ble_eq_true rfl) d_Wi_readPart_51 (c_Wi_readNumber hG a x1 x2 ha hx1 δ42 (v51, δ51) eδ51) (Nat.le_refl 0) (Nat.le_refl 0) ?_
              refine x_if_eq (tgt := 61) d_Wi_readPart_54 (by decide) (fun c54 => ?_) (fun c54 => ?_)
              · have h := if_t c54 h
                refine x_ic (v := 0) d_Wi_readPart_61 (by decide) ?_
                replace h := Option.some.inj h; subst h
                exact x_nret rfl rfl d_Wi_readPart_62 (Nat.le_refl 0) (Nat.le_refl 0)
              · have h := if_f c54 h
                refine x_ic (v := 1) d_Wi_readPart_57 (by decide) ?_
                refine x_goto (tgt := 62) d_Wi_readPart_58 (by decide) ?_
                replace h := Option.some.inj h; subst h
                exact x_nret rfl rfl d_Wi_readPart_62 (Nat.le_refl 0) (Nat.le_refl 0)
    · have h := if_f c6 h
      refine x_ic (v := 0) d_Wi_readPart_9 (by decide) ?_
      replace h := Option.some.inj h; subst h
      exact x_nret rfl rfl d_Wi_readPart_10 (Nat.le_refl 0) (Nat.le_refl 0)
-- BlockStage$Wish.read(LBlockStage$Bytes;)I
theorem d_Wi_read_0 : decode M_Wi_read.2.1 0 = .ok (.aload_n 0, 1) := by decide +kernel
theorem d_Wi_read_1 : decode M_Wi_read.2.1 1 = .ok (.iconst 0, 1) := by decide +kernel
theorem d_Wi_read_2 : decode M_Wi_read.2.1 2 = .ok (.putfield 9, 3) := by decide +kernel
theorem d_Wi_read_5 : decode M_Wi_read.2.1 5 = .ok (.aload_n 0, 1) := by decide +kernel
theorem d_Wi_read_6 : decode M_Wi_read.2.1 6 = .ok (.iconst 0, 1) := by decide +kernel
theorem d_Wi_read_7 : decode M_Wi_read.2.1 7 = .ok (.putfield 31, 3) := by decide +kernel
theorem d_Wi_read_10 : decode M_Wi_read.2.1 10 = .ok (.aload_n 0, 1) := by decide +kernel
theorem d_Wi_read_11 : decode M_Wi_read.2.1 11 = .ok (.getfield 15, 3) := by decide +kernel
theorem d_Wi_read_14 : decode M_Wi_read.2.1 14 = .ok (.iconst 0, 1) := by decide +kernel
theorem d_Wi_read_15 : decode M_Wi_read.2.1 15 = .ok (.invokestatic 34, 3) := by decide +kernel
theorem d_Wi_read_18 : decode M_Wi_read.2.1 18 = .ok (.iconst 0, 1) := by decide +kernel
theorem d_Wi_read_19 : decode M_Wi_read.2.1 19 = .ok (.istore_n 2, 1) := by decide +kernel
theorem d_Wi_read_20 : decode M_Wi_read.2.1 20 = .ok (.iload_n 2, 1) := by decide +kernel
theorem d_Wi_read_21 : decode M_Wi_read.2.1 21 = .ok (.iconst 4, 1) := by decide +kernel
theorem d_Wi_read_22 : decode M_Wi_read.2.1 22 = .ok (.if_icmp .ge 62, 3) := by decide +kernel
theorem d_Wi_read_25 : decode M_Wi_read.2.1 25 = .ok (.iload_n 2, 1) := by decide +kernel
theorem d_Wi_read_26 : decode M_Wi_read.2.1 26 = .ok (.ifCond .le 18, 3) := by decide +kernel
theorem d_Wi_read_29 : decode M_Wi_read.2.1 29 = .ok (.aload_n 0, 1) := by decide +kernel
theorem d_Wi_read_30 : decode M_Wi_read.2.1 30 = .ok (.aload_n 1, 1) := by decide +kernel
theorem d_Wi_read_31 : decode M_Wi_read.2.1 31 = .ok (.ldc 40, 2) := by decide +kernel
theorem d_Wi_read_33 : decode M_Wi_read.2.1 33 = .ok (.invokevirtual 42, 3) := by decide +kernel
theorem d_Wi_read_36 : decode M_Wi_read.2.1 36 = .ok (.ifCond .ne 8, 3) := by decide +kernel
theorem d_Wi_read_39 : decode M_Wi_read.2.1 39 = .ok (.aload_n 0, 1) := by decide +kernel
theorem d_Wi_read_40 : decode M_Wi_read.2.1 40 = .ok (.getfield 31, 3) := by decide +kernel
theorem d_Wi_read_43 : decode M_Wi_read.2.1 43 = .ok (.ireturn, 1) := by decide +kernel
theorem d_Wi_read_44 : decode M_Wi_read.2.1 44 = .ok (.aload_n 0, 1) := by decide +kernel
theorem d_Wi_read_45 : decode M_Wi_read.2.1 45 = .ok (.aload_n 1, 1) := by decide +kernel
theorem d_Wi_read_46 : decode M_Wi_read.2.1 46 = .ok (.iload_n 2, 1) := by decide +kernel
theorem d_Wi_read_47 : decode M_Wi_read.2.1 47 = .ok (.invokevirtual 46, 3) := by decide +kernel
theorem d_Wi_read_50 : decode M_Wi_read.2.1 50 = .ok (.ifCond .ne 8, 3) := by decide +kernel
theorem d_Wi_read_53 : decode M_Wi_read.2.1 53 = .ok (.aload_n 0, 1) := by decide +kernel
theorem d_Wi_read_54 : decode M_Wi_read.2.1 54 = .ok (.getfield 31, 3) := by decide +kernel
theorem d_Wi_read_57 : decode M_Wi_read.2.1 57 = .ok (.ireturn, 1) := by decide +kernel
theorem d_Wi_read_58 : decode M_Wi_read.2.1 58 = .ok (.aload_n 0, 1) := by decide +kernel
theorem d_Wi_read_59 : decode M_Wi_read.2.1 59 = .ok (.iload_n 2, 1) := by decide +kernel
theorem d_Wi_read_60 : decode M_Wi_read.2.1 60 = .ok (.iconst 1, 1) := by decide +kernel
theorem d_Wi_read_61 : decode M_Wi_read.2.1 61 = .ok (.iadd, 1) := by decide +kernel
theorem d_Wi_read_62 : decode M_Wi_read.2.1 62 = .ok (.putfield 9, 3) := by decide +kernel
theorem d_Wi_read_65 : decode M_Wi_read.2.1 65 = .ok (.aload_n 0, 1) := by decide +kernel
theorem d_Wi_read_66 : decode M_Wi_read.2.1 66 = .ok (.getfield 31, 3) := by decide +kernel
theorem d_Wi_read_69 : decode M_Wi_read.2.1 69 = .ok (.aload_n 1, 1) := by decide +kernel
theorem d_Wi_read_70 : decode M_Wi_read.2.1 70 = .ok (.getfield 50, 3) := by decide +kernel
theorem d_Wi_read_73 : decode M_Wi_read.2.1 73 = .ok (.if_icmp .ne 5, 3) := by decide +kernel
theorem d_Wi_read_76 : decode M_Wi_read.2.1 76 = .ok (.iconst (-1), 1) := by decide +kernel
theorem d_Wi_read_77 : decode M_Wi_read.2.1 77 = .ok (.ireturn, 1) := by decide +kernel
theorem d_Wi_read_78 : decode M_Wi_read.2.1 78 = .ok (.iinc 2 1, 3) := by decide +kernel
theorem d_Wi_read_81 : decode M_Wi_read.2.1 81 = .ok (.goto (-61), 3) := by decide +kernel
theorem d_Wi_read_84 : decode M_Wi_read.2.1 84 = .ok (.aload_n 0, 1) := by decide +kernel
theorem d_Wi_read_85 : decode M_Wi_read.2.1 85 = .ok (.getfield 31, 3) := by decide +kernel
theorem d_Wi_read_88 : decode M_Wi_read.2.1 88 = .ok (.ireturn, 1) := by decide +kernel
theorem gp_Wi_9_10 : GP RX10 9 10 0 false .int := ⟨RX10, TX10, 7, RX10, tyX10, rfl, by decide, (lwg_at 196 (by decide +kernel) rfl), rfl, gl_w inX10, tyX10_ok, nmX10, rfl, by decide +kernel, fun h => by first | rfl | cases h⟩
theorem cs_Wi_34 : CS RX10 34 M_Ar_fill2 2 := ⟨(lwg_at 712 (by decide +kernel) rfl), (lwg_at 66 (by decide +kernel) rfl), mi_Ar_fill2⟩
theorem mi_Wi_readPart : MI M_Wi_readPart 2 := ⟨(lwg_at 8 (by decide +kernel) rfl), (lwg_at 773 (by decide +kernel) rfl), ⟨by decide +kernel, by decide +kernel⟩, by decide +kernel, by decide⟩
theorem cs_Wi_46 : CV RX10 46 RX10 M_Wi_readPart 2 := ⟨(lwg_at 770 (by decide +kernel) rfl), (lwg_at 772 (by decide +kernel) rfl), (lwg_priv 10 (y := M_Wi_readPart.1) (n := 7) (by decide +kernel)), mi_Wi_readPart⟩
theorem gl_Wi_50_0 : GL RX10 50 0 0 := ⟨RX0, TX0, 2, RX0, rfl, by decide, (lwg_at 182 (by decide +kernel) rfl), Or.inl rfl, gl_w inX0⟩
def F_Wi_read_44 (a : Nat) (x1 : Nat) (k20 : Int32 → Dl → Option (Int32 × Dl)) (x2 : Int32) (δ : Dl) : Option (Int32 × Dl) :=
  bd2 (F_Wi_readPart a x1 x2 δ) fun v47 δ47 => if v47 = 0 then (some ((δ47.1 86 a), δ47)) else (bnd (sI δ47 80 a (x2 + 1)) fun δ62 => if (δ62.1 86 a) = (δ62.1 10 x1) then (some ((-1), δ62)) else (k20 ((x2 + 1)) δ62))
set_option maxRecDepth 20000 in
set_option maxHeartbeats 4000000 in
theorem j_Wi_read_44 {l : Launch} {Γ : Gm} (hG : GC Γ) (a : Nat) (x1 : Nat) (ha : Oc a 10) (hx1 : Oc x1 0) (k20 : Int32 → Dl → Option (Int32 × Dl)) (x2 : Int32) (δ : Dl) (r : Int32 × Dl) (hk20 : ∀ (x2 : Int32) (δ : Dl),  k20 x2 δ = some r → Xe l M_Wi_read 7 0 0 NF 20 [some (.inr (0, a)), some (.inr (0, x1)), some (.inl x2)] [] 0 0 Γ δ (some (.inl r.1), Γ, r.2)) (h : F_Wi_read_44 a x1 k20 x2 δ = some r) : Xe l M_Wi_read 7 0 0 NF 44 [some (.inr (0, a)), some (.inr (0, x1)), some (.inl x2)] [] 0 0 Γ δ (some (.inl r.1), Γ, r.2) := by
  unfold F_Wi_read_44 at h
  have oa := hG.ob ha
  refine x_aload_n (i := 0) d_Wi_read_44 rfl rfl ?_
  refine x_aload_n (i := 1) d_Wi_read_45 rfl rfl ?_
  refine x_iload_n (i := 2) d_Wi_read_46 rfl rfl ?_
  obtain ⟨v47, δ47, eδ47, h⟩ := bd2_e h
  refine y_V2 cs_Wi_46 rfl oa (by first | decide | omega) (Nat.le_of_ble_eq_true rfl) d_Wi_read_47 (c_Wi_readPart hG a x1 x2 ha hx1 δ (v47, δ47) eδ47) (Nat.le_refl 0) (Nat.le_refl 0) ?_
  refine x_if_ne (tgt := 58) d_Wi_read_50 (by decide) (fun c50 => ?_) (fun c50 => ?_)
  · have h := if_f c50 h
    refine x_aload_n (i := 0) d_Wi_read_58 rfl rfl ?_
    refine x_iload_n (i := 2) d_Wi_read_59 rfl rfl ?_
    refine x_ic (v := 1) d_Wi_read_60 (by decide) ?_
    refine x_iadd d_Wi_read_61 ?_
    obtain ⟨δ62, eδ62, h⟩ := bn_e h
    refine x_putI (f := 80) gp_Wi_9_10 rfl kf_80 (fun h => by cases h) rfl rfl oa.1 oa.z d_Wi_read_62 (Xe.cδ eδ62 ?_)
    refine x_aload_n (i := 0) d_Wi_read_65 rfl rfl ?_
    refine x_getI (f := 86) gl_Wi_31_10 rfl kf_86 oa d_Wi_read_66 ?_
    refine x_aload_n (i := 1) d_Wi_read_69 rfl rfl ?_
    refine x_getI (f := 10) gl_Wi_50_0 rfl kf_10 (hG.ob hx1) d_Wi_read_70 ?_
    refine x_cmp_ne (tgt := 78) d_Wi_read_73 (by decide) (fun c73 => ?_) (fun c73 => ?_)
    · have h := if_f c73 h
      refine x_inc (i := 2) (c0 := 1) (ls' := [some (.inr (0, a)), some (.inr (0, x1)), some (.inl (x2 + 1))]) d_Wi_read_78 (by decide) rfl (by decide) rfl ?_
      refine x_goto (tgt := 20) d_Wi_read_81 (by decide) ?_
      exact hk20 ((x2 + 1)) δ62 h
    · have h := if_t c73 h
      refine x_ic (v := -1) d_Wi_read_76 (by decide) ?_
      replace h := Option.some.inj h; subst h
      exact x_iret rfl d_Wi_read_77 (Nat.le_refl 0) (Nat.le_refl 0)
  · have h := if_t c50 h
    refine x_aload_n (i := 0) d_Wi_read_53 rfl rfl ?_
    refine x_getI (f := 86) gl_Wi_31_10 rfl kf_86 oa d_Wi_read_54 ?_
    replace h := Option.some.inj h; subst h
    exact x_iret rfl d_Wi_read_57 (Nat.le_refl 0) (Nat.le_refl 0)
def F_Wi_read_20_b (a : Nat) (x1 : Nat) (k20 : Int32 → Dl → Option (Int32 × Dl)) (x2 : Int32) (δ : Dl) : Option (Int32 × Dl) :=
  if 4 ≤ x2 then (some ((δ.1 86 a), δ)) else (if x2 ≤ 0 then (F_Wi_read_44 a x1 k20 x2 δ) else (bd2 (F_Wi_readWord a x1 0 δ) fun v33 δ33 => if v33 = 0 then (some ((δ33.1 86 a), δ33)) else (F_Wi_read_44 a x1 k20 x2 δ33)))
set_option maxRecDepth 20000 in
set_option maxHeartbeats 4000000 in
theorem j_Wi_read_20_b {l : Launch} {Γ : Gm} (hG : GC Γ) (a : Nat) (x1 : Nat) (ha : Oc a 10) (hx1 : Oc x1 0) (k20 : Int32 → Dl → Option (Int32 × Dl)) (x2 : Int32) (δ : Dl) (r : Int32 × Dl) (hk20 : ∀ (x2 : Int32) (δ : Dl),  k20 x2 δ = some r → Xe l M_Wi_read 7 0 0 NF 20 [some (.inr (0, a)), some (.inr (0, x1)), some (.inl x2)] [] 0 0 Γ δ (some (.inl r.1), Γ, r.2)) (h : F_Wi_read_20_b a x1 k20 x2 δ = some r) : Xe l M_Wi_read 7 0 0 NF 20 [some (.inr (0, a)), some (.inr (0, x1)), some (.inl x2)] [] 0 0 Γ δ (some (.inl r.1), Γ, r.2) := by
  unfold F_Wi_read_20_b at h
  have oa := hG.ob ha
  refine x_iload_n (i := 2) d_Wi_read_20 rfl rfl ?_
  refine x_ic (v := 4) d_Wi_read_21 (by decide) ?_
  refine x_cmp_ge (tgt := 84) d_Wi_read_22 (by decide) (fun c22 => ?_) (fun c22 => ?_)
  · have h := if_t c22 h
    refine x_aload_n (i := 0) d_Wi_read_84 rfl rfl ?_
    refine x_getI (f := 86) gl_Wi_31_10 rfl kf_86 oa d_Wi_read_85 ?_
    replace h := Option.some.inj h; subst h
    exact x_iret rfl d_Wi_read_88 (Nat.le_refl 0) (Nat.le_refl 0)
  · have h := if_f c22 h
    refine x_iload_n (i := 2) d_Wi_read_25 rfl rfl ?_
    refine x_if_le (tgt := 44) d_Wi_read_26 (by decide) (fun c26 => ?_) (fun c26 => ?_)
    · have h := if_t c26 h
      exact j_Wi_read_44 hG a x1 ha hx1 k20 x2 δ r hk20 h
    · have h := if_f c26 h
      refine x_aload_n (i := 0) d_Wi_read_29 rfl rfl ?_
      refine x_aload_n (i := 1) d_Wi_read_30 rfl rfl ?_
      refine x_ldcS0 rfl d_Wi_read_31 ?_
      obtain ⟨v33, δ33, eδ33, h⟩ := bd2_e h
      refine y_V2 cs_Wi_42 rfl oa (by first | decide | omega) (Nat.le_of_ble_eq_true rfl) d_Wi_read_33 (c_Wi_readWord hG a x1 0 ha hx1 (by decide) δ (v33, δ33) eδ33) (Nat.le_refl 0) (Nat.le_refl 0) ?_
      refine x_if_ne (tgt := 44) d_Wi_read_36 (by decide) (fun c36 => ?_) (fun c36 => ?_)
      · have h := if_f c36 h
        exact j_Wi_read_44 hG a x1 ha hx1 k20 x2 δ33 r hk20 h
      · have h := if_t c36 h
        refine x_aload_n (i := 0) d_Wi_read_39 rfl rfl ?_
        refine x_getI (f := 86) gl_Wi_31_10 rfl kf_86 oa d_Wi_read_40 ?_
        replace h := Option.some.inj h; subst h
        exact x_iret rfl d_Wi_read_43 (Nat.le_refl 0) (Nat.le_refl 0)
def F_Wi_read_20 (a : Nat) (x1 : Nat) : Nat → Int32 → Dl → Option (Int32 × Dl)
  | 0, _, _ => none
  | n + 1, x2, δ => F_Wi_read_20_b a x1 (F_Wi_read_20 a x1 n) x2 δ
theorem j_Wi_read_20 {l : Launch} {Γ : Gm} (hG : GC Γ) (a : Nat) (x1 : Nat) (ha : Oc a 10) (hx1 : Oc x1 0) (n : Nat) (x2 : Int32) (δ : Dl) (r : Int32 × Dl) (h : F_Wi_read_20 a x1 n x2 δ = some r) : Xe l M_Wi_read 7 0 0 NF 20 [some (.inr (0, a)), some (.inr (0, x1)), some (.inl x2)] [] 0 0 Γ δ (some (.inl r.1), Γ, r.2) := by
  induction n generalizing x2 δ with
  | zero => cases h
  | succ n ih => exact j_Wi_read_20_b hG a x1 ha hx1 (F_Wi_read_20 a x1 n) x2 δ r (fun x2 δ hh => ih x2 δ hh) h
def F_Wi_read (a : Nat) (x1 : Nat) (δ : Dl) : Option (Int32 × Dl) :=
  bnd (sI δ 80 a 0) fun δ2 => bnd (sI δ2 86 a 0) fun δ7 => (F_Ar_fill2 81 a 4 0 δ7).bind fun δ15 => F_Wi_read_20 a x1 FU 0 δ15
set_option maxRecDepth 20000 in
set_option maxHeartbeats 4000000 in
theorem c_Wi_read {l : Launch} {Γ : Gm} (hG : GC Γ) (a : Nat) (x1 : Nat) (ha : Oc a 10) (hx1 : Oc x1 0) (δ : Dl) (r : Int32 × Dl) (h : F_Wi_read a x1  δ = some r) : Ct l M_Wi_read 7 0 0 NF [.inr (0, a), .inr (0, x1)] Γ δ (some (.inl r.1), Γ, r.2) := by
  unfold F_Wi_read at h
  have oa := hG.ob ha
  refine Ct.of2 (n := 1) (ls := [some (.inr (0, a)), some (.inr (0, x1)), none]) rfl (by decide +kernel) (Nat.le_of_ble_eq_true rfl) ?_
  refine x_aload_n (i := 0) d_Wi_read_0 rfl rfl ?_
  refine x_ic (v := 0) d_Wi_read_1 (by decide) ?_
  obtain ⟨δ2, eδ2, h⟩ := bn_e h
  refine x_putI (f := 80) gp_Wi_9_10 rfl kf_80 (fun h => by cases h) rfl rfl oa.1 oa.z d_Wi_read_2 (Xe.cδ eδ2 ?_)
  refine x_aload_n (i := 0) d_Wi_read_5 rfl rfl ?_
  refine x_ic (v := 0) d_Wi_read_6 (by decide) ?_
  obtain ⟨δ7, eδ7, h⟩ := bn_e h
  refine x_putI (f := 86) gp_Wi_31_10 rfl kf_86 (fun h => by cases h) rfl rfl oa.1 oa.z d_Wi_read_7 (Xe.cδ eδ7 ?_)
  refine x_aload_n (i := 0) d_Wi_read_10 rfl rfl ?_
  refine x_getA (f := 81) gl_Wi_15_10 rfl (by rw [kf_81]; decide) oa d_Wi_read_11 ?_
  refine x_ic (v := 0) d_Wi_read_14 (by decide) ?_
  obtain ⟨δ15, eδ15, h⟩ := bd_e h
  refine y_S2v cs_Wi_34 (by first | decide | omega) (Nat.le_of_ble_eq_true rfl) d_Wi_read_15 (c_Ar_fill2 81 a 4 0 kf_81 (oz_81 oa) (ln_81 _) (lo_81 _) δ7 δ15 eδ15) (Nat.le_refl 0) (Nat.le_refl 0) ?_
  refine x_ic (v := 0) d_Wi_read_18 (by decide) ?_
  refine x_stn (i := 2) (ls' := [some (.inr (0, a)), some (.inr (0, x1)), some (.inl 0)]) d_Wi_read_19 rfl (by decide) rfl ?_
  exact j_Wi_read_20 hG a x1 ha hx1 FU 0 δ15 r h
-- BlockStage$Wish.fieldIn(LBlockStage$Run;II)I
theorem d_Wi_fieldIn_0 : decode M_Wi_fieldIn.2.1 0 = .ok (.iload_n 1, 1) := by decide +kernel
theorem d_Wi_fieldIn_1 : decode M_Wi_fieldIn.2.1 1 = .ok (.iconst 5, 1) := by decide +kernel
theorem d_Wi_fieldIn_2 : decode M_Wi_fieldIn.2.1 2 = .ok (.if_icmp .ne 11, 3) := by decide +kernel
theorem d_Wi_fieldIn_5 : decode M_Wi_fieldIn.2.1 5 = .ok (.aload_n 0, 1) := by decide +kernel
theorem d_Wi_fieldIn_6 : decode M_Wi_fieldIn.2.1 6 = .ok (.getfield 110, 3) := by decide +kernel
theorem d_Wi_fieldIn_9 : decode M_Wi_fieldIn.2.1 9 = .ok (.invokevirtual 123, 3) := by decide +kernel
theorem d_Wi_fieldIn_12 : decode M_Wi_fieldIn.2.1 12 = .ok (.ireturn, 1) := by decide +kernel
theorem d_Wi_fieldIn_13 : decode M_Wi_fieldIn.2.1 13 = .ok (.iload_n 1, 1) := by decide +kernel
theorem d_Wi_fieldIn_14 : decode M_Wi_fieldIn.2.1 14 = .ok (.bipush 6, 2) := by decide +kernel
theorem d_Wi_fieldIn_16 : decode M_Wi_fieldIn.2.1 16 = .ok (.if_icmp .ne 8, 3) := by decide +kernel
theorem d_Wi_fieldIn_19 : decode M_Wi_fieldIn.2.1 19 = .ok (.aload_n 0, 1) := by decide +kernel
theorem d_Wi_fieldIn_20 : decode M_Wi_fieldIn.2.1 20 = .ok (.getfield 126, 3) := by decide +kernel
theorem d_Wi_fieldIn_23 : decode M_Wi_fieldIn.2.1 23 = .ok (.ireturn, 1) := by decide +kernel
theorem d_Wi_fieldIn_24 : decode M_Wi_fieldIn.2.1 24 = .ok (.aload_n 0, 1) := by decide +kernel
theorem d_Wi_fieldIn_25 : decode M_Wi_fieldIn.2.1 25 = .ok (.getfield 110, 3) := by decide +kernel
theorem d_Wi_fieldIn_28 : decode M_Wi_fieldIn.2.1 28 = .ok (.iload_n 2, 1) := by decide +kernel
theorem d_Wi_fieldIn_29 : decode M_Wi_fieldIn.2.1 29 = .ok (.iload_n 1, 1) := by decide +kernel
theorem d_Wi_fieldIn_30 : decode M_Wi_fieldIn.2.1 30 = .ok (.invokevirtual 129, 3) := by decide +kernel
theorem d_Wi_fieldIn_33 : decode M_Wi_fieldIn.2.1 33 = .ok (.ireturn, 1) := by decide +kernel
theorem gl_Wi_110_5 : GL RX10 110 5 1 := ⟨RX5, TX5, 14, RX5, rfl, by decide, (lwg_at 124 (by decide +kernel) rfl), Or.inl rfl, gl_w inX5⟩
theorem mi_St_actorPart : MI M_St_actorPart 2 := ⟨(lwg_at 3 (by decide +kernel) rfl), (lwg_at 681 (by decide +kernel) rfl), ⟨by decide +kernel, by decide +kernel⟩, by decide +kernel, by decide⟩
theorem cs_Wi_129 : CV RX10 129 RX9 M_St_actorPart 2 := ⟨(lwg_at 828 (by decide +kernel) rfl), (lwg_at 679 (by decide +kernel) rfl), (lwg_at 680 (by decide +kernel) rfl), mi_St_actorPart⟩
theorem gl_Wi_126_5 : GL RX10 126 5 4 := ⟨RX5, TX5, 14, RX5, rfl, by decide, (lwg_at 131 (by decide +kernel) rfl), Or.inl rfl, gl_w inX5⟩
theorem mi_St_allThings : MI M_St_allThings 0 := ⟨(lwg_at 3 (by decide +kernel) rfl), (lwg_at 827 (by decide +kernel) rfl), ⟨by decide +kernel, by decide +kernel⟩, by decide +kernel, by decide⟩
theorem cs_Wi_123 : CV RX10 123 RX9 M_St_allThings 0 := ⟨(lwg_at 824 (by decide +kernel) rfl), (lwg_at 825 (by decide +kernel) rfl), (lwg_at 826 (by decide +kernel) rfl), mi_St_allThings⟩
def F_Wi_fieldIn (x0 : Nat) (x1 : Int32) (x2 : Int32) (δ : Dl) : Option (Int32) :=
  if x1 = 5 then ((F_St_allThings (wsr 41 x0) δ).bind fun v9 => some v9) else (if x1 = 6 then (some (δ.1 44 x0)) else ((F_St_actorPart (wsr 41 x0) x2 x1 δ).bind fun v30 => some v30))
set_option maxRecDepth 20000 in
set_option maxHeartbeats 4000000 in
theorem c_Wi_fieldIn {l : Launch} {Γ : Gm} (hG : GC Γ) (x0 : Nat) (x1 : Int32) (x2 : Int32) (hx0 : Oc x0 5) (δ : Dl) (r : Int32) (h : F_Wi_fieldIn x0 x1 x2  δ = some r) : Ct l M_Wi_fieldIn 1 0 0 NF [.inr (0, x0), .inl x1, .inl x2] Γ δ (some (.inl r), Γ, δ) := by
  unfold F_Wi_fieldIn at h
  refine Ct.of2 (n := 0) (ls := [some (.inr (0, x0)), some (.inl x1), some (.inl x2)]) rfl (by decide +kernel) (Nat.le_of_ble_eq_true rfl) ?_
  refine x_iload_n (i := 1) d_Wi_fieldIn_0 rfl rfl ?_
  refine x_ic (v := 5) d_Wi_fieldIn_1 (by decide) ?_
  refine x_cmp_ne (tgt := 13) d_Wi_fieldIn_2 (by decide) (fun c2 => ?_) (fun c2 => ?_)
  · have h := if_f c2 h
    refine x_iload_n (i := 1) d_Wi_fieldIn_13 rfl rfl ?_
    refine x_bi (v := 6) d_Wi_fieldIn_14 (by decide) ?_
    refine x_cmp_ne (tgt := 24) d_Wi_fieldIn_16 (by decide) (fun c16 => ?_) (fun c16 => ?_)
    · have h := if_f c16 h
      refine x_aload_n (i := 0) d_Wi_fieldIn_24 rfl rfl ?_
      refine x_getS (f := 41) (b := (wsr 41 x0)) gl_Wi_110_5 rfl kf_41 rfl (hG.ob hx0) d_Wi_fieldIn_25 ?_
      refine x_iload_n (i := 2) d_Wi_fieldIn_28 rfl rfl ?_
      refine x_iload_n (i := 1) d_Wi_fieldIn_29 rfl rfl ?_
      obtain ⟨v30, ev30, h⟩ := bd_e h
      refine y_V2 cs_Wi_129 rfl (hG.ob (run_stage x0 hx0)) (by first | decide | omega) (Nat.le_of_ble_eq_true rfl) d_Wi_fieldIn_30 (c_St_actorPart hG (wsr 41 x0) x2 x1 (run_stage x0 hx0) δ v30 ev30) (Nat.le_refl 0) (Nat.le_refl 0) ?_
      replace h := Option.some.inj h; subst h
      exact x_iret rfl d_Wi_fieldIn_33 (Nat.le_refl 0) (Nat.le_refl 0)
    · have h := if_t c16 h
      refine x_aload_n (i := 0) d_Wi_fieldIn_19 rfl rfl ?_
      refine x_getI (f := 44) gl_Wi_126_5 rfl kf_44 (hG.ob hx0) d_Wi_fieldIn_20 ?_
      replace h := Option.some.inj h; subst h
      exact x_iret rfl d_Wi_fieldIn_23 (Nat.le_refl 0) (Nat.le_refl 0)
  · have h := if_t c2 h
    refine x_aload_n (i := 0) d_Wi_fieldIn_5 rfl rfl ?_
    refine x_getS (f := 41) (b := (wsr 41 x0)) gl_Wi_110_5 rfl kf_41 rfl (hG.ob hx0) d_Wi_fieldIn_6 ?_
    obtain ⟨v9, ev9, h⟩ := bd_e h
    refine y_V0 cs_Wi_123 rfl (hG.ob (run_stage x0 hx0)) (by first | decide | omega) (Nat.le_of_ble_eq_true rfl) d_Wi_fieldIn_9 (c_St_allThings hG (wsr 41 x0) (run_stage x0 hx0) δ v9 ev9) (Nat.le_refl 0) (Nat.le_refl 0) ?_
    replace h := Option.some.inj h; subst h
    exact x_iret rfl d_Wi_fieldIn_12 (Nat.le_refl 0) (Nat.le_refl 0)
-- BlockStage$Wish.partsSo(LBlockStage$Run;)I
theorem d_Wi_partsSo_0 : decode M_Wi_partsSo.2.1 0 = .ok (.iconst 0, 1) := by decide +kernel
theorem d_Wi_partsSo_1 : decode M_Wi_partsSo.2.1 1 = .ok (.istore_n 2, 1) := by decide +kernel
theorem d_Wi_partsSo_2 : decode M_Wi_partsSo.2.1 2 = .ok (.iconst 0, 1) := by decide +kernel
theorem d_Wi_partsSo_3 : decode M_Wi_partsSo.2.1 3 = .ok (.istore_n 3, 1) := by decide +kernel
theorem d_Wi_partsSo_4 : decode M_Wi_partsSo.2.1 4 = .ok (.iload_n 3, 1) := by decide +kernel
theorem d_Wi_partsSo_5 : decode M_Wi_partsSo.2.1 5 = .ok (.aload_n 0, 1) := by decide +kernel
theorem d_Wi_partsSo_6 : decode M_Wi_partsSo.2.1 6 = .ok (.getfield 9, 3) := by decide +kernel
theorem d_Wi_partsSo_9 : decode M_Wi_partsSo.2.1 9 = .ok (.if_icmp .ge 150, 3) := by decide +kernel
theorem d_Wi_partsSo_12 : decode M_Wi_partsSo.2.1 12 = .ok (.iload_n 3, 1) := by decide +kernel
theorem d_Wi_partsSo_13 : decode M_Wi_partsSo.2.1 13 = .ok (.iconst 4, 1) := by decide +kernel
theorem d_Wi_partsSo_14 : decode M_Wi_partsSo.2.1 14 = .ok (.if_icmp .ge 145, 3) := by decide +kernel
theorem d_Wi_partsSo_17 : decode M_Wi_partsSo.2.1 17 = .ok (.aload_n 0, 1) := by decide +kernel
theorem d_Wi_partsSo_18 : decode M_Wi_partsSo.2.1 18 = .ok (.getfield 19, 3) := by decide +kernel
theorem d_Wi_partsSo_21 : decode M_Wi_partsSo.2.1 21 = .ok (.iload_n 3, 1) := by decide +kernel
theorem d_Wi_partsSo_22 : decode M_Wi_partsSo.2.1 22 = .ok (.iaload, 1) := by decide +kernel
theorem d_Wi_partsSo_23 : decode M_Wi_partsSo.2.1 23 = .ok (.iconst 4, 1) := by decide +kernel
theorem d_Wi_partsSo_24 : decode M_Wi_partsSo.2.1 24 = .ok (.if_icmp .gt 22, 3) := by decide +kernel
theorem d_Wi_partsSo_27 : decode M_Wi_partsSo.2.1 27 = .ok (.aload_n 1, 1) := by decide +kernel
theorem d_Wi_partsSo_28 : decode M_Wi_partsSo.2.1 28 = .ok (.getfield 110, 3) := by decide +kernel
theorem d_Wi_partsSo_31 : decode M_Wi_partsSo.2.1 31 = .ok (.aload_n 0, 1) := by decide +kernel
theorem d_Wi_partsSo_32 : decode M_Wi_partsSo.2.1 32 = .ok (.getfield 22, 3) := by decide +kernel
theorem d_Wi_partsSo_35 : decode M_Wi_partsSo.2.1 35 = .ok (.iload_n 3, 1) := by decide +kernel
theorem d_Wi_partsSo_36 : decode M_Wi_partsSo.2.1 36 = .ok (.iaload, 1) := by decide +kernel
theorem d_Wi_partsSo_37 : decode M_Wi_partsSo.2.1 37 = .ok (.invokevirtual 114, 3) := by decide +kernel
theorem d_Wi_partsSo_40 : decode M_Wi_partsSo.2.1 40 = .ok (.ifCond .ne 6, 3) := by decide +kernel
theorem d_Wi_partsSo_43 : decode M_Wi_partsSo.2.1 43 = .ok (.goto 110, 3) := by decide +kernel
theorem d_Wi_partsSo_46 : decode M_Wi_partsSo.2.1 46 = .ok (.aload_n 1, 1) := by decide +kernel
theorem d_Wi_partsSo_47 : decode M_Wi_partsSo.2.1 47 = .ok (.aload_n 0, 1) := by decide +kernel
theorem d_Wi_partsSo_48 : decode M_Wi_partsSo.2.1 48 = .ok (.getfield 19, 3) := by decide +kernel
theorem d_Wi_partsSo_51 : decode M_Wi_partsSo.2.1 51 = .ok (.iload_n 3, 1) := by decide +kernel
theorem d_Wi_partsSo_52 : decode M_Wi_partsSo.2.1 52 = .ok (.iaload, 1) := by decide +kernel
theorem d_Wi_partsSo_53 : decode M_Wi_partsSo.2.1 53 = .ok (.aload_n 0, 1) := by decide +kernel
theorem d_Wi_partsSo_54 : decode M_Wi_partsSo.2.1 54 = .ok (.getfield 22, 3) := by decide +kernel
theorem d_Wi_partsSo_57 : decode M_Wi_partsSo.2.1 57 = .ok (.iload_n 3, 1) := by decide +kernel
theorem d_Wi_partsSo_58 : decode M_Wi_partsSo.2.1 58 = .ok (.iaload, 1) := by decide +kernel
theorem d_Wi_partsSo_59 : decode M_Wi_partsSo.2.1 59 = .ok (.invokestatic 119, 3) := by decide +kernel
theorem d_Wi_partsSo_62 : decode M_Wi_partsSo.2.1 62 = .ok (.istore 4, 2) := by decide +kernel
theorem d_Wi_partsSo_64 : decode M_Wi_partsSo.2.1 64 = .ok (.aload_n 0, 1) := by decide +kernel
theorem d_Wi_partsSo_65 : decode M_Wi_partsSo.2.1 65 = .ok (.getfield 25, 3) := by decide +kernel
theorem d_Wi_partsSo_68 : decode M_Wi_partsSo.2.1 68 = .ok (.iload_n 3, 1) := by decide +kernel
theorem d_Wi_partsSo_69 : decode M_Wi_partsSo.2.1 69 = .ok (.iaload, 1) := by decide +kernel
theorem d_Wi_partsSo_70 : decode M_Wi_partsSo.2.1 70 = .ok (.bipush 60, 2) := by decide +kernel
theorem d_Wi_partsSo_72 : decode M_Wi_partsSo.2.1 72 = .ok (.if_icmp .ne 22, 3) := by decide +kernel
theorem d_Wi_partsSo_75 : decode M_Wi_partsSo.2.1 75 = .ok (.iload 4, 2) := by decide +kernel
theorem d_Wi_partsSo_77 : decode M_Wi_partsSo.2.1 77 = .ok (.aload_n 0, 1) := by decide +kernel
theorem d_Wi_partsSo_78 : decode M_Wi_partsSo.2.1 78 = .ok (.getfield 28, 3) := by decide +kernel
theorem d_Wi_partsSo_81 : decode M_Wi_partsSo.2.1 81 = .ok (.iload_n 3, 1) := by decide +kernel
theorem d_Wi_partsSo_82 : decode M_Wi_partsSo.2.1 82 = .ok (.iaload, 1) := by decide +kernel
theorem d_Wi_partsSo_83 : decode M_Wi_partsSo.2.1 83 = .ok (.if_icmp .ge 7, 3) := by decide +kernel
theorem d_Wi_partsSo_86 : decode M_Wi_partsSo.2.1 86 = .ok (.iconst 1, 1) := by decide +kernel
theorem d_Wi_partsSo_87 : decode M_Wi_partsSo.2.1 87 = .ok (.goto 53, 3) := by decide +kernel
theorem d_Wi_partsSo_90 : decode M_Wi_partsSo.2.1 90 = .ok (.iconst 0, 1) := by decide +kernel
theorem d_Wi_partsSo_91 : decode M_Wi_partsSo.2.1 91 = .ok (.goto 49, 3) := by decide +kernel
theorem d_Wi_partsSo_94 : decode M_Wi_partsSo.2.1 94 = .ok (.aload_n 0, 1) := by decide +kernel
theorem d_Wi_partsSo_95 : decode M_Wi_partsSo.2.1 95 = .ok (.getfield 25, 3) := by decide +kernel
theorem d_Wi_partsSo_98 : decode M_Wi_partsSo.2.1 98 = .ok (.iload_n 3, 1) := by decide +kernel
theorem d_Wi_partsSo_99 : decode M_Wi_partsSo.2.1 99 = .ok (.iaload, 1) := by decide +kernel
theorem d_Wi_partsSo_100 : decode M_Wi_partsSo.2.1 100 = .ok (.bipush 62, 2) := by decide +kernel
theorem d_Wi_partsSo_102 : decode M_Wi_partsSo.2.1 102 = .ok (.if_icmp .ne 22, 3) := by decide +kernel
theorem d_Wi_partsSo_105 : decode M_Wi_partsSo.2.1 105 = .ok (.iload 4, 2) := by decide +kernel
theorem d_Wi_partsSo_107 : decode M_Wi_partsSo.2.1 107 = .ok (.aload_n 0, 1) := by decide +kernel
theorem d_Wi_partsSo_108 : decode M_Wi_partsSo.2.1 108 = .ok (.getfield 28, 3) := by decide +kernel
theorem d_Wi_partsSo_111 : decode M_Wi_partsSo.2.1 111 = .ok (.iload_n 3, 1) := by decide +kernel
theorem d_Wi_partsSo_112 : decode M_Wi_partsSo.2.1 112 = .ok (.iaload, 1) := by decide +kernel
theorem d_Wi_partsSo_113 : decode M_Wi_partsSo.2.1 113 = .ok (.if_icmp .le 7, 3) := by decide +kernel
theorem d_Wi_partsSo_116 : decode M_Wi_partsSo.2.1 116 = .ok (.iconst 1, 1) := by decide +kernel
theorem d_Wi_partsSo_117 : decode M_Wi_partsSo.2.1 117 = .ok (.goto 23, 3) := by decide +kernel
theorem d_Wi_partsSo_120 : decode M_Wi_partsSo.2.1 120 = .ok (.iconst 0, 1) := by decide +kernel
theorem d_Wi_partsSo_121 : decode M_Wi_partsSo.2.1 121 = .ok (.goto 19, 3) := by decide +kernel
theorem d_Wi_partsSo_124 : decode M_Wi_partsSo.2.1 124 = .ok (.iload 4, 2) := by decide +kernel
theorem d_Wi_partsSo_126 : decode M_Wi_partsSo.2.1 126 = .ok (.aload_n 0, 1) := by decide +kernel
theorem d_Wi_partsSo_127 : decode M_Wi_partsSo.2.1 127 = .ok (.getfield 28, 3) := by decide +kernel
theorem d_Wi_partsSo_130 : decode M_Wi_partsSo.2.1 130 = .ok (.iload_n 3, 1) := by decide +kernel
theorem d_Wi_partsSo_131 : decode M_Wi_partsSo.2.1 131 = .ok (.iaload, 1) := by decide +kernel
theorem d_Wi_partsSo_132 : decode M_Wi_partsSo.2.1 132 = .ok (.if_icmp .ne 7, 3) := by decide +kernel
theorem d_Wi_partsSo_135 : decode M_Wi_partsSo.2.1 135 = .ok (.iconst 1, 1) := by decide +kernel
theorem d_Wi_partsSo_136 : decode M_Wi_partsSo.2.1 136 = .ok (.goto 4, 3) := by decide +kernel
theorem d_Wi_partsSo_139 : decode M_Wi_partsSo.2.1 139 = .ok (.iconst 0, 1) := by decide +kernel
theorem d_Wi_partsSo_140 : decode M_Wi_partsSo.2.1 140 = .ok (.istore 5, 2) := by decide +kernel
theorem d_Wi_partsSo_142 : decode M_Wi_partsSo.2.1 142 = .ok (.iload 5, 2) := by decide +kernel
theorem d_Wi_partsSo_144 : decode M_Wi_partsSo.2.1 144 = .ok (.ifCond .eq 9, 3) := by decide +kernel
theorem d_Wi_partsSo_147 : decode M_Wi_partsSo.2.1 147 = .ok (.iload_n 2, 1) := by decide +kernel
theorem d_Wi_partsSo_148 : decode M_Wi_partsSo.2.1 148 = .ok (.iconst 1, 1) := by decide +kernel
theorem d_Wi_partsSo_149 : decode M_Wi_partsSo.2.1 149 = .ok (.iload_n 3, 1) := by decide +kernel
theorem d_Wi_partsSo_150 : decode M_Wi_partsSo.2.1 150 = .ok (.ishl, 1) := by decide +kernel
theorem d_Wi_partsSo_151 : decode M_Wi_partsSo.2.1 151 = .ok (.ior, 1) := by decide +kernel
theorem d_Wi_partsSo_152 : decode M_Wi_partsSo.2.1 152 = .ok (.istore_n 2, 1) := by decide +kernel
theorem d_Wi_partsSo_153 : decode M_Wi_partsSo.2.1 153 = .ok (.iinc 3 1, 3) := by decide +kernel
theorem d_Wi_partsSo_156 : decode M_Wi_partsSo.2.1 156 = .ok (.goto (-152), 3) := by decide +kernel
theorem d_Wi_partsSo_159 : decode M_Wi_partsSo.2.1 159 = .ok (.iload_n 2, 1) := by decide +kernel
theorem d_Wi_partsSo_160 : decode M_Wi_partsSo.2.1 160 = .ok (.ireturn, 1) := by decide +kernel
theorem gl_Wi_9_10 : GL RX10 9 10 0 := ⟨RX10, TX10, 7, RX10, rfl, by decide, (lwg_at 196 (by decide +kernel) rfl), Or.inl rfl, gl_w inX10⟩
theorem cs_Wi_114 : CV RX10 114 RX9 M_St_isActor 1 := ⟨(lwg_at 820 (by decide +kernel) rfl), (lwg_at 564 (by decide +kernel) rfl), (lwg_at 565 (by decide +kernel) rfl), mi_St_isActor⟩
theorem mi_Wi_fieldIn : MI M_Wi_fieldIn 3 := ⟨(lwg_at 8 (by decide +kernel) rfl), (lwg_at 823 (by decide +kernel) rfl), ⟨by decide +kernel, by decide +kernel⟩, by decide +kernel, by decide⟩
theorem cs_Wi_119 : CS RX10 119 M_Wi_fieldIn 3 := ⟨(lwg_at 821 (by decide +kernel) rfl), (lwg_at 822 (by decide +kernel) rfl), mi_Wi_fieldIn⟩
def F_Wi_partsSo_153 (a : Nat) (x1 : Nat) (k4 : Int32 → Int32 → Dl → Option (Int32)) (x2 : Int32) (x3 : Int32) (δ : Dl) : Option (Int32) :=
  k4 x2 ((x3 + 1)) δ
set_option maxRecDepth 20000 in
set_option maxHeartbeats 4000000 in
theorem j_Wi_partsSo_153 {l : Launch} {Γ : Gm} (hG : GC Γ) (a : Nat) (x1 : Nat) (ha : Oc a 10) (hx1 : Oc x1 5) (k4 : Int32 → Int32 → Dl → Option (Int32)) (x2 : Int32) (x3 : Int32) (δ : Dl) (r : Int32) (hk4 : ∀ (x2 : Int32) (x3 : Int32) (δ : Dl),  k4 x2 x3 δ = some r → Xe l M_Wi_partsSo 2 0 0 NF 4 [some (.inr (0, a)), some (.inr (0, x1)), some (.inl x2), some (.inl x3), none, none] [] 0 0 Γ δ (some (.inl r), Γ, δ)) (h : F_Wi_partsSo_153 a x1 k4 x2 x3 δ = some r) : Xe l M_Wi_partsSo 2 0 0 NF 153 [some (.inr (0, a)), some (.inr (0, x1)), some (.inl x2), some (.inl x3), none, none] [] 0 0 Γ δ (some (.inl r), Γ, δ) := by
  unfold F_Wi_partsSo_153 at h
  have oa := hG.ob ha
  refine x_inc (i := 3) (c0 := 1) (ls' := [some (.inr (0, a)), some (.inr (0, x1)), some (.inl x2), some (.inl (x3 + 1)), none, none]) d_Wi_partsSo_153 (by decide) rfl (by decide) rfl ?_
  refine x_goto (tgt := 4) d_Wi_partsSo_156 (by decide) ?_
  exact hk4 x2 ((x3 + 1)) δ h
def F_Wi_partsSo_140 (a : Nat) (x1 : Nat) (k4 : Int32 → Int32 → Dl → Option (Int32)) (x2 : Int32) (x3 : Int32) (s0 : Int32) (δ : Dl) : Option (Int32) :=
  if s0 = 0 then (F_Wi_partsSo_153 a x1 k4 x2 x3 δ) else (bnd ((x2 ||| (1 <<< (x3 &&& 31)))) fun x2_152 => F_Wi_partsSo_153 a x1 k4 x2_152 x3 δ)
set_option maxRecDepth 20000 in
set_option maxHeartbeats 4000000 in
theorem j_Wi_partsSo_140 {l : Launch} {Γ : Gm} (hG : GC Γ) (a : Nat) (x1 : Nat) (ha : Oc a 10) (hx1 : Oc x1 5) (k4 : Int32 → Int32 → Dl → Option (Int32)) (x2 : Int32) (x3 : Int32) (s0 : Int32) (δ : Dl) (r : Int32) (hk4 : ∀ (x2 : Int32) (x3 : Int32) (δ : Dl),  k4 x2 x3 δ = some r → Xe l M_Wi_partsSo 2 0 0 NF 4 [some (.inr (0, a)), some (.inr (0, x1)), some (.inl x2), some (.inl x3), none, none] [] 0 0 Γ δ (some (.inl r), Γ, δ)) (h : F_Wi_partsSo_140 a x1 k4 x2 x3 s0 δ = some r) : Xe l M_Wi_partsSo 2 0 0 NF 140 [some (.inr (0, a)), some (.inr (0, x1)), some (.inl x2), some (.inl x3), none, none] [.inl s0] 0 0 Γ δ (some (.inl r), Γ, δ) := by
  unfold F_Wi_partsSo_140 at h
  have oa := hG.ob ha
  refine x_stw (i := 5) (ls' := [some (.inr (0, a)), some (.inr (0, x1)), some (.inl x2), some (.inl x3), none, some (.inl s0)]) d_Wi_partsSo_140 (by decide) rfl ?_
  refine x_iload (i := 5) d_Wi_partsSo_142 rfl ?_
  refine x_if_eq (tgt := 153) d_Wi_partsSo_144 (by decide) (fun c144 => ?_) (fun c144 => ?_)
  · have h := if_t c144 h
    refine x_wk (ls' := [some (.inr (0, a)), some (.inr (0, x1)), some (.inl x2), some (.inl x3), none, none]) ⟨Or.inr rfl, Or.inr rfl, Or.inr rfl, Or.inr rfl, Or.inl rfl, Or.inl rfl, trivial⟩ ?_
    exact j_Wi_partsSo_153 hG a x1 ha hx1 k4 x2 x3 δ r hk4 h
  · have h := if_f c144 h
    refine x_iload_n (i := 2) d_Wi_partsSo_147 rfl rfl ?_
    refine x_ic (v := 1) d_Wi_partsSo_148 (by decide) ?_
    refine x_iload_n (i := 3) d_Wi_partsSo_149 rfl rfl ?_
    refine x_ishl d_Wi_partsSo_150 ?_
    refine x_ior d_Wi_partsSo_151 ?_
    obtain ⟨x2_152, ex2_152, h⟩ := bn_e h
    refine Xe.top ex2_152 ?_
    refine x_stn (i := 2) (ls' := [some (.inr (0, a)), some (.inr (0, x1)), some (.inl x2_152), some (.inl x3), none, some (.inl s0)]) d_Wi_partsSo_152 rfl (by decide) rfl ?_
    refine x_wk (ls' := [some (.inr (0, a)), some (.inr (0, x1)), some (.inl x2_152), some (.inl x3), none, none]) ⟨Or.inr rfl, Or.inr rfl, Or.inr rfl, Or.inr rfl, Or.inl rfl, Or.inl rfl, trivial⟩ ?_
    exact j_Wi_partsSo_153 hG a x1 ha hx1 k4 x2_152 x3 δ r hk4 h
def F_Wi_partsSo_46 (a : Nat) (x1 : Nat) (k4 : Int32 → Int32 → Dl → Option (Int32)) (x2 : Int32) (x3 : Int32) (δ : Dl) : Option (Int32) :=
  if inb x3 4 then if inb x3 4 then (F_Wi_fieldIn x1 (δ.2.1 82 a x3) (δ.2.1 83 a x3) δ).bind fun v59 => if inb x3 4 then if (δ.2.1 84 a x3) = 60 then (if inb x3 4 then if (δ.2.1 85 a x3) ≤ v59 then (F_Wi_partsSo_140 a x1 k4 x2 x3 0 δ) else (F_Wi_partsSo_140 a x1 k4 x2 x3 1 δ) else none) else (if inb x3 4 then if (δ.2.1 84 a x3) = 62 then (if inb x3 4 then if v59 ≤ (δ.2.1 85 a x3) then (F_Wi_partsSo_140 a x1 k4 x2 x3 0 δ) else (F_Wi_partsSo_140 a x1 k4 x2 x3 1 δ) else none) else (if inb x3 4 then if v59 = (δ.2.1 85 a x3) then (F_Wi_partsSo_140 a x1 k4 x2 x3 1 δ) else (F_Wi_partsSo_140 a x1 k4 x2 x3 0 δ) else none) else none) else none else none else none
set_option maxRecDepth 20000 in
set_option maxHeartbeats 4000000 in
theorem j_Wi_partsSo_46 {l : Launch} {Γ : Gm} (hG : GC Γ) (a : Nat) (x1 : Nat) (ha : Oc a 10) (hx1 : Oc x1 5) (k4 : Int32 → Int32 → Dl → Option (Int32)) (x2 : Int32) (x3 : Int32) (δ : Dl) (r : Int32) (hk4 : ∀ (x2 : Int32) (x3 : Int32) (δ : Dl),  k4 x2 x3 δ = some r → Xe l M_Wi_partsSo 2 0 0 NF 4 [some (.inr (0, a)), some (.inr (0, x1)), some (.inl x2), some (.inl x3), none, none] [] 0 0 Γ δ (some (.inl r), Γ, δ)) (h : F_Wi_partsSo_46 a x1 k4 x2 x3 δ = some r) : Xe l M_Wi_partsSo 2 0 0 NF 46 [some (.inr (0, a)), some (.inr (0, x1)), some (.inl x2), some (.inl x3), none, none] [] 0 0 Γ δ (some (.inl r), Γ, δ) := by
  unfold F_Wi_partsSo_46 at h
  have oa := hG.ob ha
  refine x_aload_n (i := 1) d_Wi_partsSo_46 rfl rfl ?_
  refine x_aload_n (i := 0) d_Wi_partsSo_47 rfl rfl ?_
  refine x_getA (f := 82) gl_Wi_19_10 rfl (by rw [kf_82]; decide) oa d_Wi_partsSo_48 ?_
  refine x_iload_n (i := 3) d_Wi_partsSo_51 rfl rfl ?_
  obtain ⟨g52, h⟩ := gd_e h
  refine x_iald (n := 4) kf_82 (oz_82 oa) (ln_82 _) g52 d_Wi_partsSo_52 ?_
  refine x_aload_n (i := 0) d_Wi_partsSo_53 rfl rfl ?_
  refine x_getA (f := 83) gl_Wi_22_10 rfl (by rw [kf_83]; decide) oa d_Wi_partsSo_54 ?_
  refine x_iload_n (i := 3) d_Wi_partsSo_57 rfl rfl ?_
  obtain ⟨g58, h⟩ := gd_e h
  refine x_iald (n := 4) kf_83 (oz_83 oa) (ln_83 _) g58 d_Wi_partsSo_58 ?_
  obtain ⟨v59, ev59, h⟩ := bd_e h
  refine y_S3 cs_Wi_119 (by first | decide | omega) (Nat.le_of_ble_eq_true rfl) d_Wi_partsSo_59 (c_Wi_fieldIn hG x1 (δ.2.1 82 a x3) (δ.2.1 83 a x3) hx1 δ v59 ev59) (Nat.le_refl 0) (Nat.le_refl 0) ?_
  refine x_stw (i := 4) (ls' := [some (.inr (0, a)), some (.inr (0, x1)), some (.inl x2), some (.inl x3), some (.inl v59), none]) d_Wi_partsSo_62 (by decide) rfl ?_
  refine x_aload_n (i := 0) d_Wi_partsSo_64 rfl rfl ?_
  refine x_getA (f := 84) gl_Wi_25_10 rfl (by rw [kf_84]; decide) oa d_Wi_partsSo_65 ?_
  refine x_iload_n (i := 3) d_Wi_partsSo_68 rfl rfl ?_
  obtain ⟨g69, h⟩ := gd_e h
  refine x_iald (n := 4) kf_84 (oz_84 oa) (ln_84 _) g69 d_Wi_partsSo_69 ?_
  refine x_bi (v := 60) d_Wi_partsSo_70 (by decide) ?_
  refine x_cmp_ne (tgt := 94) d_Wi_partsSo_72 (by decide) (fun c72 => ?_) (fun c72 => ?_)
  · have h := if_f c72 h
    refine x_aload_n (i := 0) d_Wi_partsSo_94 rfl rfl ?_
    refine x_getA (f := 84) gl_Wi_25_10 rfl (by rw [kf_84]; decide) oa d_Wi_partsSo_95 ?_
    refine x_iload_n (i := 3) d_Wi_partsSo_98 rfl rfl ?_
    obtain ⟨g99, h⟩ := gd_e h
    refine x_iald (n := 4) kf_84 (oz_84 oa) (ln_84 _) g99 d_Wi_partsSo_99 ?_
    refine x_bi (v := 62) d_Wi_partsSo_100 (by decide) ?_
    refine x_cmp_ne (tgt := 124) d_Wi_partsSo_102 (by decide) (fun c102 => ?_) (fun c102 => ?_)
    · have h := if_f c102 h
      refine x_iload (i := 4) d_Wi_partsSo_124 rfl ?_
      refine x_aload_n (i := 0) d_Wi_partsSo_126 rfl rfl ?_
      refine x_getA (f := 85) gl_Wi_28_10 rfl (by rw [kf_85]; decide) oa d_Wi_partsSo_127 ?_
      refine x_iload_n (i := 3) d_Wi_partsSo_130 rfl rfl ?_
      obtain ⟨g131, h⟩ := gd_e h
      refine x_iald (n := 4) kf_85 (oz_85 oa) (ln_85 _) g131 d_Wi_partsSo_131 ?_
      refine x_cmp_ne (tgt := 139) d_Wi_partsSo_132 (by decide) (fun c132 => ?_) (fun c132 => ?_)
      · have h := if_f c132 h
        refine x_ic (v := 0) d_Wi_partsSo_139 (by decide) ?_
        refine x_wk (ls' := [some (.inr (0, a)), some (.inr (0, x1)), some (.inl x2), some (.inl x3), none, none]) ⟨Or.inr rfl, Or.inr rfl, Or.inr rfl, Or.inr rfl, Or.inl rfl, Or.inl rfl, trivial⟩ ?_
        exact j_Wi_partsSo_140 hG a x1 ha hx1 k4 x2 x3 0 δ r hk4 h
      · have h := if_t c132 h
        refine x_ic (v := 1) d_Wi_partsSo_135 (by decide) ?_
        refine x_goto (tgt := 140) d_Wi_partsSo_136 (by decide) ?_
        refine x_wk (ls' := [some (.inr (0, a)), some (.inr (0, x1)), some (.inl x2), some (.inl x3), none, none]) ⟨Or.inr rfl, Or.inr rfl, Or.inr rfl, Or.inr rfl, Or.inl rfl, Or.inl rfl, trivial⟩ ?_
        exact j_Wi_partsSo_140 hG a x1 ha hx1 k4 x2 x3 1 δ r hk4 h
    · have h := if_t c102 h
      refine x_iload (i := 4) d_Wi_partsSo_105 rfl ?_
      refine x_aload_n (i := 0) d_Wi_partsSo_107 rfl rfl ?_
      refine x_getA (f := 85) gl_Wi_28_10 rfl (by rw [kf_85]; decide) oa d_Wi_partsSo_108 ?_
      refine x_iload_n (i := 3) d_Wi_partsSo_111 rfl rfl ?_
      obtain ⟨g112, h⟩ := gd_e h
      refine x_iald (n := 4) kf_85 (oz_85 oa) (ln_85 _) g112 d_Wi_partsSo_112 ?_
      refine x_cmp_le (tgt := 120) d_Wi_partsSo_113 (by decide) (fun c113 => ?_) (fun c113 => ?_)
      · have h := if_t c113 h
        refine x_ic (v := 0) d_Wi_partsSo_120 (by decide) ?_
        refine x_goto (tgt := 140) d_Wi_partsSo_121 (by decide) ?_
        refine x_wk (ls' := [some (.inr (0, a)), some (.inr (0, x1)), some (.inl x2), some (.inl x3), none, none]) ⟨Or.inr rfl, Or.inr rfl, Or.inr rfl, Or.inr rfl, Or.inl rfl, Or.inl rfl, trivial⟩ ?_
        exact j_Wi_partsSo_140 hG a x1 ha hx1 k4 x2 x3 0 δ r hk4 h
      · have h := if_f c113 h
        refine x_ic (v := 1) d_Wi_partsSo_116 (by decide) ?_
        refine x_goto (tgt := 140) d_Wi_partsSo_117 (by decide) ?_
        refine x_wk (ls' := [some (.inr (0, a)), some (.inr (0, x1)), some (.inl x2), some (.inl x3), none, none]) ⟨Or.inr rfl, Or.inr rfl, Or.inr rfl, Or.inr rfl, Or.inl rfl, Or.inl rfl, trivial⟩ ?_
        exact j_Wi_partsSo_140 hG a x1 ha hx1 k4 x2 x3 1 δ r hk4 h
  · have h := if_t c72 h
    refine x_iload (i := 4) d_Wi_partsSo_75 rfl ?_
    refine x_aload_n (i := 0) d_Wi_partsSo_77 rfl rfl ?_
    refine x_getA (f := 85) gl_Wi_28_10 rfl (by rw [kf_85]; decide) oa d_Wi_partsSo_78 ?_
    refine x_iload_n (i := 3) d_Wi_partsSo_81 rfl rfl ?_
    obtain ⟨g82, h⟩ := gd_e h
    refine x_iald (n := 4) kf_85 (oz_85 oa) (ln_85 _) g82 d_Wi_partsSo_82 ?_
    refine x_cmp_ge (tgt := 90) d_Wi_partsSo_83 (by decide) (fun c83 => ?_) (fun c83 => ?_)
    · have h := if_t c83 h
      refine x_ic (v := 0) d_Wi_partsSo_90 (by decide) ?_
      refine x_goto (tgt := 140) d_Wi_partsSo_91 (by decide) ?_
      refine x_wk (ls' := [some (.inr (0, a)), some (.inr (0, x1)), some (.inl x2), some (.inl x3), none, none]) ⟨Or.inr rfl, Or.inr rfl, Or.inr rfl, Or.inr rfl, Or.inl rfl, Or.inl rfl, trivial⟩ ?_
      exact j_Wi_partsSo_140 hG a x1 ha hx1 k4 x2 x3 0 δ r hk4 h
    · have h := if_f c83 h
      refine x_ic (v := 1) d_Wi_partsSo_86 (by decide) ?_
      refine x_goto (tgt := 140) d_Wi_partsSo_87 (by decide) ?_
      refine x_wk (ls' := [some (.inr (0, a)), some (.inr (0, x1)), some (.inl x2), some (.inl x3), none, none]) ⟨Or.inr rfl, Or.inr rfl, Or.inr rfl, Or.inr rfl, Or.inl rfl, Or.inl rfl, trivial⟩ ?_
      exact j_Wi_partsSo_140 hG a x1 ha hx1 k4 x2 x3 1 δ r hk4 h
def F_Wi_partsSo_4_b (a : Nat) (x1 : Nat) (k4 : Int32 → Int32 → Dl → Option (Int32)) (x2 : Int32) (x3 : Int32) (δ : Dl) : Option (Int32) :=
  if (δ.1 80 a) ≤ x3 then (some x2) else (if 4 ≤ x3 then (some x2) else (if inb x3 4 then if 4 < (δ.2.1 82 a x3) then (F_Wi_partsSo_46 a x1 k4 x2 x3 δ) else (if inb x3 4 then bnd (F_St_isActor (wsr 41 x1) (δ.2.1 83 a x3) δ) fun v37 => if v37 = 0 then (F_Wi_partsSo_153 a x1 k4 x2 x3 δ) else (F_Wi_partsSo_46 a x1 k4 x2 x3 δ) else none) else none))
set_option maxRecDepth 20000 in
set_option maxHeartbeats 4000000 in
theorem j_Wi_partsSo_4_b {l : Launch} {Γ : Gm} (hG : GC Γ) (a : Nat) (x1 : Nat) (ha : Oc a 10) (hx1 : Oc x1 5) (k4 : Int32 → Int32 → Dl → Option (Int32)) (x2 : Int32) (x3 : Int32) (δ : Dl) (r : Int32) (hk4 : ∀ (x2 : Int32) (x3 : Int32) (δ : Dl),  k4 x2 x3 δ = some r → Xe l M_Wi_partsSo 2 0 0 NF 4 [some (.inr (0, a)), some (.inr (0, x1)), some (.inl x2), some (.inl x3), none, none] [] 0 0 Γ δ (some (.inl r), Γ, δ)) (h : F_Wi_partsSo_4_b a x1 k4 x2 x3 δ = some r) : Xe l M_Wi_partsSo 2 0 0 NF 4 [some (.inr (0, a)), some (.inr (0, x1)), some (.inl x2), some (.inl x3), none, none] [] 0 0 Γ δ (some (.inl r), Γ, δ) := by
  unfold F_Wi_partsSo_4_b at h
  have oa := hG.ob ha
  refine x_iload_n (i := 3) d_Wi_partsSo_4 rfl rfl ?_
  refine x_aload_n (i := 0) d_Wi_partsSo_5 rfl rfl ?_
  refine x_getI (f := 80) gl_Wi_9_10 rfl kf_80 oa d_Wi_partsSo_6 ?_
  refine x_cmp_ge (tgt := 159) d_Wi_partsSo_9 (by decide) (fun c9 => ?_) (fun c9 => ?_)
  · have h := if_t c9 h
    refine x_iload_n (i := 2) d_Wi_partsSo_159 rfl rfl ?_
    replace h := Option.some.inj h; subst h
    exact x_iret rfl d_Wi_partsSo_160 (Nat.le_refl 0) (Nat.le_refl 0)
  · have h := if_f c9 h
    refine x_iload_n (i := 3) d_Wi_partsSo_12 rfl rfl ?_
    refine x_ic (v := 4) d_Wi_partsSo_13 (by decide) ?_
    refine x_cmp_ge (tgt := 159) d_Wi_partsSo_14 (by decide) (fun c14 => ?_) (fun c14 => ?_)
    · have h := if_t c14 h
      refine x_iload_n (i := 2) d_Wi_partsSo_159 rfl rfl ?_
      replace h := Option.some.inj h; subst h
      exact x_iret rfl d_Wi_partsSo_160 (Nat.le_refl 0) (Nat.le_refl 0)
    · have h := if_f c14 h
      refine x_aload_n (i := 0) d_Wi_partsSo_17 rfl rfl ?_
      refine x_getA (f := 82) gl_Wi_19_10 rfl (by rw [kf_82]; decide) oa d_Wi_partsSo_18 ?_
      refine x_iload_n (i := 3) d_Wi_partsSo_21 rfl rfl ?_
      obtain ⟨g22, h⟩ := gd_e h
      refine x_iald (n := 4) kf_82 (oz_82 oa) (ln_82 _) g22 d_Wi_partsSo_22 ?_
      refine x_ic (v := 4) d_Wi_partsSo_23 (by decide) ?_
      refine x_cmp_gt (tgt := 46) d_Wi_partsSo_24 (by decide) (fun c24 => ?_) (fun c24 => ?_)
      · have h := if_t c24 h
        exact j_Wi_partsSo_46 hG a x1 ha hx1 k4 x2 x3 δ r hk4 h
      · have h := if_f c24 h
        refine x_aload_n (i := 1) d_Wi_partsSo_27 rfl rfl ?_
        refine x_getS (f := 41) (b := (wsr 41 x1)) gl_Wi_110_5 rfl kf_41 rfl (hG.ob hx1) d_Wi_partsSo_28 ?_
        refine x_aload_n (i := 0) d_Wi_partsSo_31 rfl rfl ?_
        refine x_getA (f := 83) gl_Wi_22_10 rfl (by rw [kf_83]; decide) oa d_Wi_partsSo_32 ?_
        refine x_iload_n (i := 3) d_Wi_partsSo_35 rfl rfl ?_
        obtain ⟨g36, h⟩ := gd_e h
        refine x_iald (n := 4) kf_83 (oz_83 oa) (ln_83 _) g36 d_Wi_partsSo_36 ?_
        obtain ⟨v37, ev37, h⟩ := bn_e h
        refine y_V1 cs_Wi_114 rfl (hG.ob (run_stage x1 hx1)) (by first | decide | omega) (Nat.le_of_ble_eq_true rfl) d_Wi_partsSo_37 (c_St_isActor hG (wsr 41 x1) (δ.2.1 83 a x3) (run_stage x1 hx1) δ v37 ev37) (Nat.le_refl 0) (Nat.le_refl 0) ?_
        refine x_if_ne (tgt := 46) d_Wi_partsSo_40 (by decide) (fun c40 => ?_) (fun c40 => ?_)
        · have h := if_f c40 h
          exact j_Wi_partsSo_46 hG a x1 ha hx1 k4 x2 x3 δ r hk4 h
        · have h := if_t c40 h
          refine x_goto (tgt := 153) d_Wi_partsSo_43 (by decide) ?_
          exact j_Wi_partsSo_153 hG a x1 ha hx1 k4 x2 x3 δ r hk4 h
def F_Wi_partsSo_4 (a : Nat) (x1 : Nat) : Nat → Int32 → Int32 → Dl → Option (Int32)
  | 0, _, _, _ => none
  | n + 1, x2, x3, δ => F_Wi_partsSo_4_b a x1 (F_Wi_partsSo_4 a x1 n) x2 x3 δ
theorem j_Wi_partsSo_4 {l : Launch} {Γ : Gm} (hG : GC Γ) (a : Nat) (x1 : Nat) (ha : Oc a 10) (hx1 : Oc x1 5) (n : Nat) (x2 : Int32) (x3 : Int32) (δ : Dl) (r : Int32) (h : F_Wi_partsSo_4 a x1 n x2 x3 δ = some r) : Xe l M_Wi_partsSo 2 0 0 NF 4 [some (.inr (0, a)), some (.inr (0, x1)), some (.inl x2), some (.inl x3), none, none] [] 0 0 Γ δ (some (.inl r), Γ, δ) := by
  induction n generalizing x2 x3 δ with
  | zero => cases h
  | succ n ih => exact j_Wi_partsSo_4_b hG a x1 ha hx1 (F_Wi_partsSo_4 a x1 n) x2 x3 δ r (fun x2 x3 δ hh => ih x2 x3 δ hh) h
def F_Wi_partsSo (a : Nat) (x1 : Nat) (δ : Dl) : Option (Int32) :=
  F_Wi_partsSo_4 a x1 FU 0 0 δ
set_option maxRecDepth 20000 in
set_option maxHeartbeats 4000000 in
theorem c_Wi_partsSo {l : Launch} {Γ : Gm} (hG : GC Γ) (a : Nat) (x1 : Nat) (ha : Oc a 10) (hx1 : Oc x1 5) (δ : Dl) (r : Int32) (h : F_Wi_partsSo a x1  δ = some r) : Ct l M_Wi_partsSo 2 0 0 NF [.inr (0, a), .inr (0, x1)] Γ δ (some (.inl r), Γ, δ) := by
  unfold F_Wi_partsSo at h
  have oa := hG.ob ha
  refine Ct.of2 (n := 4) (ls := [some (.inr (0, a)), some (.inr (0, x1)), none, none, none, none]) rfl (by decide +kernel) (Nat.le_of_ble_eq_true rfl) ?_
  refine x_ic (v := 0) d_Wi_partsSo_0 (by decide) ?_
  refine x_stn (i := 2) (ls' := [some (.inr (0, a)), some (.inr (0, x1)), some (.inl 0), none, none, none]) d_Wi_partsSo_1 rfl (by decide) rfl ?_
  refine x_ic (v := 0) d_Wi_partsSo_2 (by decide) ?_
  refine x_stn (i := 3) (ls' := [some (.inr (0, a)), some (.inr (0, x1)), some (.inl 0), some (.inl 0), none, none]) d_Wi_partsSo_3 rfl (by decide) rfl ?_
  exact j_Wi_partsSo_4 hG a x1 ha hx1 FU 0 0 δ r h
-- BlockStage$Wish.isBroken(I)Z
theorem d_Wi_isBroken_0 : decode M_Wi_isBroken.2.1 0 = .ok (.aload_n 0, 1) := by decide +kernel
theorem d_Wi_isBroken_1 : decode M_Wi_isBroken.2.1 1 = .ok (.getfield 15, 3) := by decide +kernel
theorem d_Wi_isBroken_4 : decode M_Wi_isBroken.2.1 4 = .ok (.iconst 1, 1) := by decide +kernel
theorem d_Wi_isBroken_5 : decode M_Wi_isBroken.2.1 5 = .ok (.iaload, 1) := by decide +kernel
theorem d_Wi_isBroken_6 : decode M_Wi_isBroken.2.1 6 = .ok (.iload_n 1, 1) := by decide +kernel
theorem d_Wi_isBroken_7 : decode M_Wi_isBroken.2.1 7 = .ok (.iconst (-1), 1) := by decide +kernel
theorem d_Wi_isBroken_8 : decode M_Wi_isBroken.2.1 8 = .ok (.ixor, 1) := by decide +kernel
theorem d_Wi_isBroken_9 : decode M_Wi_isBroken.2.1 9 = .ok (.iand, 1) := by decide +kernel
theorem d_Wi_isBroken_10 : decode M_Wi_isBroken.2.1 10 = .ok (.ifCond .ne 14, 3) := by decide +kernel
theorem d_Wi_isBroken_13 : decode M_Wi_isBroken.2.1 13 = .ok (.aload_n 0, 1) := by decide +kernel
theorem d_Wi_isBroken_14 : decode M_Wi_isBroken.2.1 14 = .ok (.getfield 15, 3) := by decide +kernel
theorem d_Wi_isBroken_17 : decode M_Wi_isBroken.2.1 17 = .ok (.iconst 2, 1) := by decide +kernel
theorem d_Wi_isBroken_18 : decode M_Wi_isBroken.2.1 18 = .ok (.iaload, 1) := by decide +kernel
theorem d_Wi_isBroken_19 : decode M_Wi_isBroken.2.1 19 = .ok (.iload_n 1, 1) := by decide +kernel
theorem d_Wi_isBroken_20 : decode M_Wi_isBroken.2.1 20 = .ok (.iand, 1) := by decide +kernel
theorem d_Wi_isBroken_21 : decode M_Wi_isBroken.2.1 21 = .ok (.ifCond .eq 7, 3) := by decide +kernel
theorem d_Wi_isBroken_24 : decode M_Wi_isBroken.2.1 24 = .ok (.iconst 1, 1) := by decide +kernel
theorem d_Wi_isBroken_25 : decode M_Wi_isBroken.2.1 25 = .ok (.goto 4, 3) := by decide +kernel
theorem d_Wi_isBroken_28 : decode M_Wi_isBroken.2.1 28 = .ok (.iconst 0, 1) := by decide +kernel
theorem d_Wi_isBroken_29 : decode M_Wi_isBroken.2.1 29 = .ok (.ireturn, 1) := by decide +kernel
def F_Wi_isBroken (a : Nat) (x1 : Int32) (δ : Dl) : Option (Int32) :=
  if ((δ.2.1 81 a 1) &&& (x1 ^^^ (-1))) = 0 then (if ((δ.2.1 81 a 2) &&& x1) = 0 then (some 0) else (some 1)) else (some 1)
set_option maxRecDepth 20000 in
set_option maxHeartbeats 4000000 in
theorem c_Wi_isBroken {l : Launch} {Γ : Gm} (hG : GC Γ) (a : Nat) (x1 : Int32) (ha : Oc a 10) (δ : Dl) (r : Int32) (h : F_Wi_isBroken a x1  δ = some r) : Ct l M_Wi_isBroken 0 0 0 NF [.inr (0, a), .inl x1] Γ δ (some (.inl r), Γ, δ) := by
  unfold F_Wi_isBroken at h
  have oa := hG.ob ha
  refine Ct.of2 (n := 0) (ls := [some (.inr (0, a)), some (.inl x1)]) rfl (by decide +kernel) (Nat.le_of_ble_eq_true rfl) ?_
  refine x_aload_n (i := 0) d_Wi_isBroken_0 rfl rfl ?_
  refine x_getA (f := 81) gl_Wi_15_10 rfl (by rw [kf_81]; decide) oa d_Wi_isBroken_1 ?_
  refine x_ic (v := 1) d_Wi_isBroken_4 (by decide) ?_
  refine x_iald (n := 4) kf_81 (oz_81 oa) (ln_81 _) (by decide) d_Wi_isBroken_5 ?_
  refine x_iload_n (i := 1) d_Wi_isBroken_6 rfl rfl ?_
  refine x_ic (v := -1) d_Wi_isBroken_7 (by decide) ?_
  refine x_ixor d_Wi_isBroken_8 ?_
  refine x_iand d_Wi_isBroken_9 ?_
  refine x_if_ne (tgt := 24) d_Wi_isBroken_10 (by decide) (fun c10 => ?_) (fun c10 => ?_)
  · have h := if_f c10 h
    refine x_ic (v := 1) d_Wi_isBroken_24 (by decide) ?_
    refine x_goto (tgt := 29) d_Wi_isBroken_25 (by decide) ?_
    replace h := Option.some.inj h; subst h
    exact x_nret rfl rfl d_Wi_isBroken_29 (Nat.le_refl 0) (Nat.le_refl 0)
  · have h := if_t c10 h
    refine x_aload_n (i := 0) d_Wi_isBroken_13 rfl rfl ?_
    refine x_getA (f := 81) gl_Wi_15_10 rfl (by rw [kf_81]; decide) oa d_Wi_isBroken_14 ?_
    refine x_ic (v := 2) d_Wi_isBroken_17 (by decide) ?_
    refine x_iald (n := 4) kf_81 (oz_81 oa) (ln_81 _) (by decide) d_Wi_isBroken_18 ?_
    refine x_iload_n (i := 1) d_Wi_isBroken_19 rfl rfl ?_
    refine x_iand d_Wi_isBroken_20 ?_
    refine x_if_eq (tgt := 28) d_Wi_isBroken_21 (by decide) (fun c21 => ?_) (fun c21 => ?_)
    · have h := if_t c21 h
      refine x_ic (v := 0) d_Wi_isBroken_28 (by decide) ?_
      replace h := Option.some.inj h; subst h
      exact x_nret rfl rfl d_Wi_isBroken_29 (Nat.le_refl 0) (Nat.le_refl 0)
    · have h := if_f c21 h
      refine x_ic (v := 1) d_Wi_isBroken_24 (by decide) ?_
      refine x_goto (tgt := 29) d_Wi_isBroken_25 (by decide) ?_
      replace h := Option.some.inj h; subst h
      exact x_nret rfl rfl d_Wi_isBroken_29 (Nat.le_refl 0) (Nat.le_refl 0)
-- BlockStage$Wish.lostIn(LBlockStage$Run;LBlockStage$Stage;I)I
theorem d_Wi_lostIn_0 : decode M_Wi_lostIn.2.1 0 = .ok (.aload_n 1, 1) := by decide +kernel
theorem d_Wi_lostIn_1 : decode M_Wi_lostIn.2.1 1 = .ok (.aload_n 2, 1) := by decide +kernel
theorem d_Wi_lostIn_2 : decode M_Wi_lostIn.2.1 2 = .ok (.invokevirtual 93, 3) := by decide +kernel
theorem d_Wi_lostIn_5 : decode M_Wi_lostIn.2.1 5 = .ok (.iconst 0, 1) := by decide +kernel
theorem d_Wi_lostIn_6 : decode M_Wi_lostIn.2.1 6 = .ok (.istore 4, 2) := by decide +kernel
theorem d_Wi_lostIn_8 : decode M_Wi_lostIn.2.1 8 = .ok (.iconst 0, 1) := by decide +kernel
theorem d_Wi_lostIn_9 : decode M_Wi_lostIn.2.1 9 = .ok (.istore 5, 2) := by decide +kernel
theorem d_Wi_lostIn_11 : decode M_Wi_lostIn.2.1 11 = .ok (.iload 5, 2) := by decide +kernel
theorem d_Wi_lostIn_13 : decode M_Wi_lostIn.2.1 13 = .ok (.iload_n 3, 1) := by decide +kernel
theorem d_Wi_lostIn_14 : decode M_Wi_lostIn.2.1 14 = .ok (.if_icmp .ge 39, 3) := by decide +kernel
theorem d_Wi_lostIn_17 : decode M_Wi_lostIn.2.1 17 = .ok (.aload_n 0, 1) := by decide +kernel
theorem d_Wi_lostIn_18 : decode M_Wi_lostIn.2.1 18 = .ok (.aload_n 1, 1) := by decide +kernel
theorem d_Wi_lostIn_19 : decode M_Wi_lostIn.2.1 19 = .ok (.invokevirtual 99, 3) := by decide +kernel
theorem d_Wi_lostIn_22 : decode M_Wi_lostIn.2.1 22 = .ok (.istore 6, 2) := by decide +kernel
theorem d_Wi_lostIn_24 : decode M_Wi_lostIn.2.1 24 = .ok (.aload_n 0, 1) := by decide +kernel
theorem d_Wi_lostIn_25 : decode M_Wi_lostIn.2.1 25 = .ok (.iload 6, 2) := by decide +kernel
theorem d_Wi_lostIn_27 : decode M_Wi_lostIn.2.1 27 = .ok (.invokevirtual 103, 3) := by decide +kernel
theorem d_Wi_lostIn_30 : decode M_Wi_lostIn.2.1 30 = .ok (.ifCond .eq 6, 3) := by decide +kernel
theorem d_Wi_lostIn_33 : decode M_Wi_lostIn.2.1 33 = .ok (.iload 5, 2) := by decide +kernel
theorem d_Wi_lostIn_35 : decode M_Wi_lostIn.2.1 35 = .ok (.ireturn, 1) := by decide +kernel
theorem d_Wi_lostIn_36 : decode M_Wi_lostIn.2.1 36 = .ok (.iload 4, 2) := by decide +kernel
theorem d_Wi_lostIn_38 : decode M_Wi_lostIn.2.1 38 = .ok (.iload 6, 2) := by decide +kernel
theorem d_Wi_lostIn_40 : decode M_Wi_lostIn.2.1 40 = .ok (.ior, 1) := by decide +kernel
theorem d_Wi_lostIn_41 : decode M_Wi_lostIn.2.1 41 = .ok (.istore 4, 2) := by decide +kernel
theorem d_Wi_lostIn_43 : decode M_Wi_lostIn.2.1 43 = .ok (.aload_n 1, 1) := by decide +kernel
theorem d_Wi_lostIn_44 : decode M_Wi_lostIn.2.1 44 = .ok (.invokevirtual 107, 3) := by decide +kernel
theorem d_Wi_lostIn_47 : decode M_Wi_lostIn.2.1 47 = .ok (.iinc 5 1, 3) := by decide +kernel
theorem d_Wi_lostIn_50 : decode M_Wi_lostIn.2.1 50 = .ok (.goto (-39), 3) := by decide +kernel
theorem d_Wi_lostIn_53 : decode M_Wi_lostIn.2.1 53 = .ok (.aload_n 0, 1) := by decide +kernel
theorem d_Wi_lostIn_54 : decode M_Wi_lostIn.2.1 54 = .ok (.aload_n 1, 1) := by decide +kernel
theorem d_Wi_lostIn_55 : decode M_Wi_lostIn.2.1 55 = .ok (.invokevirtual 99, 3) := by decide +kernel
theorem d_Wi_lostIn_58 : decode M_Wi_lostIn.2.1 58 = .ok (.istore 5, 2) := by decide +kernel
theorem d_Wi_lostIn_60 : decode M_Wi_lostIn.2.1 60 = .ok (.aload_n 0, 1) := by decide +kernel
theorem d_Wi_lostIn_61 : decode M_Wi_lostIn.2.1 61 = .ok (.iload 5, 2) := by decide +kernel
theorem d_Wi_lostIn_63 : decode M_Wi_lostIn.2.1 63 = .ok (.invokevirtual 103, 3) := by decide +kernel
theorem d_Wi_lostIn_66 : decode M_Wi_lostIn.2.1 66 = .ok (.ifCond .ne 17, 3) := by decide +kernel
theorem d_Wi_lostIn_69 : decode M_Wi_lostIn.2.1 69 = .ok (.aload_n 0, 1) := by decide +kernel
theorem d_Wi_lostIn_70 : decode M_Wi_lostIn.2.1 70 = .ok (.getfield 15, 3) := by decide +kernel
theorem d_Wi_lostIn_73 : decode M_Wi_lostIn.2.1 73 = .ok (.iconst 0, 1) := by decide +kernel
theorem d_Wi_lostIn_74 : decode M_Wi_lostIn.2.1 74 = .ok (.iaload, 1) := by decide +kernel
theorem d_Wi_lostIn_75 : decode M_Wi_lostIn.2.1 75 = .ok (.iload 5, 2) := by decide +kernel
theorem d_Wi_lostIn_77 : decode M_Wi_lostIn.2.1 77 = .ok (.iconst (-1), 1) := by decide +kernel
theorem d_Wi_lostIn_78 : decode M_Wi_lostIn.2.1 78 = .ok (.ixor, 1) := by decide +kernel
theorem d_Wi_lostIn_79 : decode M_Wi_lostIn.2.1 79 = .ok (.iand, 1) := by decide +kernel
theorem d_Wi_lostIn_80 : decode M_Wi_lostIn.2.1 80 = .ok (.ifCond .eq 5, 3) := by decide +kernel
theorem d_Wi_lostIn_83 : decode M_Wi_lostIn.2.1 83 = .ok (.iload_n 3, 1) := by decide +kernel
theorem d_Wi_lostIn_84 : decode M_Wi_lostIn.2.1 84 = .ok (.ireturn, 1) := by decide +kernel
theorem d_Wi_lostIn_85 : decode M_Wi_lostIn.2.1 85 = .ok (.aload_n 0, 1) := by decide +kernel
theorem d_Wi_lostIn_86 : decode M_Wi_lostIn.2.1 86 = .ok (.getfield 15, 3) := by decide +kernel
theorem d_Wi_lostIn_89 : decode M_Wi_lostIn.2.1 89 = .ok (.iconst 3, 1) := by decide +kernel
theorem d_Wi_lostIn_90 : decode M_Wi_lostIn.2.1 90 = .ok (.iaload, 1) := by decide +kernel
theorem d_Wi_lostIn_91 : decode M_Wi_lostIn.2.1 91 = .ok (.iload 4, 2) := by decide +kernel
theorem d_Wi_lostIn_93 : decode M_Wi_lostIn.2.1 93 = .ok (.iload 5, 2) := by decide +kernel
theorem d_Wi_lostIn_95 : decode M_Wi_lostIn.2.1 95 = .ok (.ior, 1) := by decide +kernel
theorem d_Wi_lostIn_96 : decode M_Wi_lostIn.2.1 96 = .ok (.iconst (-1), 1) := by decide +kernel
theorem d_Wi_lostIn_97 : decode M_Wi_lostIn.2.1 97 = .ok (.ixor, 1) := by decide +kernel
theorem d_Wi_lostIn_98 : decode M_Wi_lostIn.2.1 98 = .ok (.iand, 1) := by decide +kernel
theorem d_Wi_lostIn_99 : decode M_Wi_lostIn.2.1 99 = .ok (.ifCond .eq 7, 3) := by decide +kernel
theorem d_Wi_lostIn_102 : decode M_Wi_lostIn.2.1 102 = .ok (.iload_n 3, 1) := by decide +kernel
theorem d_Wi_lostIn_103 : decode M_Wi_lostIn.2.1 103 = .ok (.goto 4, 3) := by decide +kernel
theorem d_Wi_lostIn_106 : decode M_Wi_lostIn.2.1 106 = .ok (.iconst (-1), 1) := by decide +kernel
theorem d_Wi_lostIn_107 : decode M_Wi_lostIn.2.1 107 = .ok (.ireturn, 1) := by decide +kernel
theorem mi_Ru_begin : MI M_Ru_begin 1 := ⟨(lwg_at 5 (by decide +kernel) rfl), (lwg_at 543 (by decide +kernel) rfl), ⟨by decide +kernel, by decide +kernel⟩, by decide +kernel, by decide⟩
theorem cs_Wi_93 : CV RX10 93 RX5 M_Ru_begin 1 := ⟨(lwg_at 815 (by decide +kernel) rfl), (lwg_at 541 (by decide +kernel) rfl), (lwg_at 542 (by decide +kernel) rfl), mi_Ru_begin⟩
theorem mi_Wi_partsSo : MI M_Wi_partsSo 1 := ⟨(lwg_at 8 (by decide +kernel) rfl), (lwg_at 819 (by decide +kernel) rfl), ⟨by decide +kernel, by decide +kernel⟩, by decide +kernel, by decide⟩
theorem cs_Wi_99 : CV RX10 99 RX10 M_Wi_partsSo 1 := ⟨(lwg_at 816 (by decide +kernel) rfl), (lwg_at 818 (by decide +kernel) rfl), (lwg_priv 16 (y := M_Wi_partsSo.1) (n := 7) (by decide +kernel)), mi_Wi_partsSo⟩
theorem mi_Wi_isBroken : MI M_Wi_isBroken 1 := ⟨(lwg_at 8 (by decide +kernel) rfl), (lwg_at 832 (by decide +kernel) rfl), ⟨by decide +kernel, by decide +kernel⟩, by decide +kernel, by decide⟩
theorem cs_Wi_103 : CV RX10 103 RX10 M_Wi_isBroken 1 := ⟨(lwg_at 829 (by decide +kernel) rfl), (lwg_at 831 (by decide +kernel) rfl), (lwg_priv 17 (y := M_Wi_isBroken.1) (n := 7) (by decide +kernel)), mi_Wi_isBroken⟩
theorem mi_Ru_oneTick : MI M_Ru_oneTick 0 := ⟨(lwg_at 5 (by decide +kernel) rfl), (lwg_at 553 (by decide +kernel) rfl), ⟨by decide +kernel, by decide +kernel⟩, by decide +kernel, by decide⟩
theorem cs_Wi_107 : CV RX10 107 RX5 M_Ru_oneTick 0 := ⟨(lwg_at 833 (by decide +kernel) rfl), (lwg_at 551 (by decide +kernel) rfl), (lwg_at 552 (by decide +kernel) rfl), mi_Ru_oneTick⟩
def F_Wi_lostIn_11_b (a : Nat) (x1 : Nat) (x2 : Nat) (x3 : Int32) (k11 : Int32 → Int32 → Dl → Option (Int32 × Dl)) (x4 : Int32) (x5 : Int32) (δ : Dl) : Option (Int32 × Dl) :=
  if x3 ≤ x5 then ((F_Wi_partsSo a x1 δ).bind fun v55 => (F_Wi_isBroken a v55 δ).bind fun v63 => if v63 = 0 then (if ((δ.2.1 81 a 0) &&& (v55 ^^^ (-1))) = 0 then (if ((δ.2.1 81 a 3) &&& ((x4 ||| v55) ^^^ (-1))) = 0 then (some ((-1), δ)) else (some (x3, δ))) else (some (x3, δ))) else (some (x3, δ))) else ((F_Wi_partsSo a x1 δ).bind fun v19 => (F_Wi_isBroken a v19 δ).bind fun v27 => if v27 = 0 then ((F_Ru_oneTick x1 δ).bind fun δ44 => k11 ((x4 ||| v19)) ((x5 + 1)) δ44) else (some (x5, δ)))
set_option maxRecDepth 20000 in
set_option maxHeartbeats 4000000 in
theorem j_Wi_lostIn_11_b {l : Launch} {Γ : Gm} (hG : GC Γ) (a : Nat) (x1 : Nat) (x2 : Nat) (x3 : Int32) (ha : Oc a 10) (hx1 : Oc x1 5) (hx2 : Oc x2 9) (k11 : Int32 → Int32 → Dl → Option (Int32 × Dl)) (x4 : Int32) (x5 : Int32) (δ : Dl) (r : Int32 × Dl) (hk11 : ∀ (x4 : Int32) (x5 : Int32) (δ : Dl),  k11 x4 x5 δ = some r → Xe l M_Wi_lostIn 43 0 0 NF 11 [some (.inr (0, a)), some (.inr (0, x1)), none, some (.inl x3), some (.inl x4), some (.inl x5), none] [] 0 0 Γ δ (some (.inl r.1), Γ, r.2)) (h : F_Wi_lostIn_11_b a x1 x2 x3 k11 x4 x5 δ = some r) : Xe l M_Wi_lostIn 43 0 0 NF 11 [some (.inr (0, a)), some (.inr (0, x1)), none, some (.inl x3), some (.inl x4), some (.inl x5), none] [] 0 0 Γ δ (some (.inl r.1), Γ, r.2) := by
  unfold F_Wi_lostIn_11_b at h
  have oa := hG.ob ha
  refine x_iload (i := 5) d_Wi_lostIn_11 rfl ?_
  refine x_iload_n (i := 3) d_Wi_lostIn_13 rfl rfl ?_
  refine x_cmp_ge (tgt := 53) d_Wi_lostIn_14 (by decide) (fun c14 => ?_) (fun c14 => ?_)
  · have h := if_t c14 h
    refine x_aload_n (i := 0) d_Wi_lostIn_53 rfl rfl ?_
    refine x_aload_n (i := 1) d_Wi_lostIn_54 rfl rfl ?_
    obtain ⟨v55, ev55, h⟩ := bd_e h
    refine y_V1 cs_Wi_99 rfl oa (by first | decide | omega) (Nat.le_of_ble_eq_true rfl) d_Wi_lostIn_55 (c_Wi_partsSo hG a x1 ha hx1 δ v55 ev55) (Nat.le_refl 0) (Nat.le_refl 0) ?_
    refine x_stw (i := 5) (ls' := [some (.inr (0, a)), some (.inr (0, x1)), none, some (.inl x3), some (.inl x4), some (.inl v55), none]) d_Wi_lostIn_58 (by decide) rfl ?_
    refine x_aload_n (i := 0) d_Wi_lostIn_60 rfl rfl ?_
    refine x_iload (i := 5) d_Wi_lostIn_61 rfl ?_
    obtain ⟨v63, ev63, h⟩ := bd_e h
    refine y_V1 cs_Wi_103 rfl oa (by first | decide | omega) (Nat.le_of_ble_eq_true rfl) d_Wi_lostIn_63 (c_Wi_isBroken hG a v55 ha δ v63 ev63) (Nat.le_refl 0) (Nat.le_refl 0) ?_
    refine x_if_ne (tgt := 83) d_Wi_lostIn_66 (by decide) (fun c66 => ?_) (fun c66 => ?_)
    · have h := if_f c66 h
      refine x_iload_n (i := 3) d_Wi_lostIn_83 rfl rfl ?_
      replace h := Option.some.inj h; subst h
      exact x_iret rfl d_Wi_lostIn_84 (Nat.le_refl 0) (Nat.le_refl 0)
    · have h := if_t c66 h
      refine x_aload_n (i := 0) d_Wi_lostIn_69 rfl rfl ?_
      refine x_getA (f := 81) gl_Wi_15_10 rfl (by rw [kf_81]; decide) oa d_Wi_lostIn_70 ?_
      refine x_ic (v := 0) d_Wi_lostIn_73 (by decide) ?_
      refine x_iald (n := 4) kf_81 (oz_81 oa) (ln_81 _) (by decide) d_Wi_lostIn_74 ?_
      refine x_iload (i := 5) d_Wi_lostIn_75 rfl ?_
      refine x_ic (v := -1) d_Wi_lostIn_77 (by decide) ?_
      refine x_ixor d_Wi_lostIn_78 ?_
      refine x_iand d_Wi_lostIn_79 ?_
      refine x_if_eq (tgt := 85) d_Wi_lostIn_80 (by decide) (fun c80 => ?_) (fun c80 => ?_)
      · have h := if_t c80 h
        refine x_aload_n (i := 0) d_Wi_lostIn_85 rfl rfl ?_
        refine x_getA (f := 81) gl_Wi_15_10 rfl (by rw [kf_81]; decide) oa d_Wi_lostIn_86 ?_
        refine x_ic (v := 3) d_Wi_lostIn_89 (by decide) ?_
        refine x_iald (n := 4) kf_81 (oz_81 oa) (ln_81 _) (by decide) d_Wi_lostIn_90 ?_
        refine x_iload (i := 4) d_Wi_lostIn_91 rfl ?_
        refine x_iload (i := 5) d_Wi_lostIn_93 rfl ?_
        refine x_ior d_Wi_lostIn_95 ?_
        refine x_ic (v := -1) d_Wi_lostIn_96 (by decide) ?_
        refine x_ixor d_Wi_lostIn_97 ?_
        refine x_iand d_Wi_lostIn_98 ?_
        refine x_if_eq (tgt := 106) d_Wi_lostIn_99 (by decide) (fun c99 => ?_) (fun c99 => ?_)
        · have h := if_t c99 h
          refine x_ic (v := -1) d_Wi_lostIn_106 (by decide) ?_
          replace h := Option.some.inj h; subst h
          exact x_iret rfl d_Wi_lostIn_107 (Nat.le_refl 0) (Nat.le_refl 0)
        · have h := if_f c99 h
          refine x_iload_n (i := 3) d_Wi_lostIn_102 rfl rfl ?_
          refine x_goto (tgt := 107) d_Wi_lostIn_103 (by decide) ?_
          replace h := Option.some.inj h; subst h
          exact x_iret rfl d_Wi_lostIn_107 (Nat.le_refl 0) (Nat.le_refl 0)
      · have h := if_f c80 h
        refine x_iload_n (i := 3) d_Wi_lostIn_83 rfl rfl ?_
        replace h := Option.some.inj h; subst h
        exact x_iret rfl d_Wi_lostIn_84 (Nat.le_refl 0) (Nat.le_refl 0)
  · have h := if_f c14 h
    refine x_aload_n (i := 0) d_Wi_lostIn_17 rfl rfl ?_
    refine x_aload_n (i := 1) d_Wi_lostIn_18 rfl rfl ?_
    obtain ⟨v19, ev19, h⟩ := bd_e h
    refine y_V1 cs_Wi_99 rfl oa (by first | decide | omega) (Nat.le_of_ble_eq_true rfl) d_Wi_lostIn_19 (c_Wi_partsSo hG a x1 ha hx1 δ v19 ev19) (Nat.le_refl 0) (Nat.le_refl 0) ?_
    refine x_stw (i := 6) (ls' := [some (.inr (0, a)), some (.inr (0, x1)), none, some (.inl x3), some (.inl x4), some (.inl x5), some (.inl v19)]) d_Wi_lostIn_22 (by decide) rfl ?_
    refine x_aload_n (i := 0) d_Wi_lostIn_24 rfl rfl ?_
    refine x_iload (i := 6) d_Wi_lostIn_25 rfl ?_
    obtain ⟨v27, ev27, h⟩ := bd_e h
    refine y_V1 cs_Wi_103 rfl oa (by first | decide | omega) (Nat.le_of_ble_eq_true rfl) d_Wi_lostIn_27 (c_Wi_isBroken hG a v19 ha δ v27 ev27) (Nat.le_refl 0) (Nat.le_refl 0) ?_
    refine x_if_eq (tgt := 36) d_Wi_lostIn_30 (by decide) (fun c30 => ?_) (fun c30 => ?_)
    · have h := if_t c30 h
      refine x_iload (i := 4) d_Wi_lostIn_36 rfl ?_
      refine x_iload (i := 6) d_Wi_lostIn_38 rfl ?_
      refine x_ior d_Wi_lostIn_40 ?_
      refine x_stw (i := 4) (ls' := [some (.inr (0, a)), some (.inr (0, x1)), none, some (.inl x3), some (.inl (x4 ||| v19)), some (.inl x5), some (.inl v19)]) d_Wi_lostIn_41 (by decide) rfl ?_
      refine x_aload_n (i := 1) d_Wi_lostIn_43 rfl rfl ?_
      obtain ⟨δ44, eδ44, h⟩ := bd_e h
      refine y_V0v cs_Wi_107 rfl (hG.ob hx1) (by first | decide | omega) (Nat.le_of_ble_eq_true rfl) d_Wi_lostIn_44 (c_Ru_oneTick hG x1 hx1 δ δ44 eδ44) (Nat.le_refl 0) (Nat.le_refl 0) ?_
      refine x_inc (i := 5) (c0 := 1) (ls' := [some (.inr (0, a)), some (.inr (0, x1)), none, some (.inl x3), some (.inl (x4 ||| v19)), some (.inl (x5 + 1)), some (.inl v19)]) d_Wi_lostIn_47 (by decide) rfl (by decide) rfl ?_
      refine x_goto (tgt := 11) d_Wi_lostIn_50 (by decide) ?_
      refine x_wk (ls' := [some (.inr (0, a)), some (.inr (0, x1)), none, some (.inl x3), some (.inl (x4 ||| v19)), some (.inl (x5 + 1)), none]) ⟨Or.inr rfl, Or.inr rfl, Or.inl rfl, Or.inr rfl, Or.inr rfl, Or.inr rfl, Or.inl rfl, trivial⟩ ?_
      exact hk11 ((x4 ||| v19)) ((x5 + 1)) δ44 h
    · have h := if_f c30 h
      refine x_iload (i := 5) d_Wi_lostIn_33 rfl ?_
      replace h := Option.some.inj h; subst h
      exact x_iret rfl d_Wi_lostIn_35 (Nat.le_refl 0) (Nat.le_refl 0)
def F_Wi_lostIn_11 (a : Nat) (x1 : Nat) (x2 : Nat) (x3 : Int32) : Nat → Int32 → Int32 → Dl → Option (Int32 × Dl)
  | 0, _, _, _ => none
  | n + 1, x4, x5, δ => F_Wi_lostIn_11_b a x1 x2 x3 (F_Wi_lostIn_11 a x1 x2 x3 n) x4 x5 δ
theorem j_Wi_lostIn_11 {l : Launch} {Γ : Gm} (hG : GC Γ) (a : Nat) (x1 : Nat) (x2 : Nat) (x3 : Int32) (ha : Oc a 10) (hx1 : Oc x1 5) (hx2 : Oc x2 9) (n : Nat) (x4 : Int32) (x5 : Int32) (δ : Dl) (r : Int32 × Dl) (h : F_Wi_lostIn_11 a x1 x2 x3 n x4 x5 δ = some r) : Xe l M_Wi_lostIn 43 0 0 NF 11 [some (.inr (0, a)), some (.inr (0, x1)), none, some (.inl x3), some (.inl x4), some (.inl x5), none] [] 0 0 Γ δ (some (.inl r.1), Γ, r.2) := by
  induction n generalizing x4 x5 δ with
  | zero => cases h
  | succ n ih => exact j_Wi_lostIn_11_b hG a x1 x2 x3 ha hx1 hx2 (F_Wi_lostIn_11 a x1 x2 x3 n) x4 x5 δ r (fun x4 x5 δ hh => ih x4 x5 δ hh) h
def F_Wi_lostIn (a : Nat) (x1 : Nat) (x2 : Nat) (x3 : Int32) (δ : Dl) : Option (Int32 × Dl) :=
  (F_Ru_begin x1 x2 δ).bind fun δ2 => F_Wi_lostIn_11 a x1 x2 x3 FU 0 0 δ2
set_option maxRecDepth 20000 in
set_option maxHeartbeats 4000000 in
theorem c_Wi_lostIn {l : Launch} {Γ : Gm} (hG : GC Γ) (a : Nat) (x1 : Nat) (x2 : Nat) (x3 : Int32) (ha : Oc a 10) (hx1 : Oc x1 5) (hx2 : Oc x2 9) (δ : Dl) (r : Int32 × Dl) (h : F_Wi_lostIn a x1 x2 x3  δ = some r) : Ct l M_Wi_lostIn 43 0 0 NF [.inr (0, a), .inr (0, x1), .inr (0, x2), .inl x3] Γ δ (some (.inl r.1), Γ, r.2) := by
  unfold F_Wi_lostIn at h
  have oa := hG.ob ha
  refine Ct.of2 (n := 3) (ls := [some (.inr (0, a)), some (.inr (0, x1)), some (.inr (0, x2)), some (.inl x3), none, none, none]) rfl (by decide +kernel) (Nat.le_of_ble_eq_true rfl) ?_
  refine x_aload_n (i := 1) d_Wi_lostIn_0 rfl rfl ?_
  refine x_aload_n (i := 2) d_Wi_lostIn_1 rfl rfl ?_
  obtain ⟨δ2, eδ2, h⟩ := bd_e h
  refine y_V1v cs_Wi_93 rfl (hG.ob hx1) (by first | decide | omega) (Nat.le_of_ble_eq_true rfl) d_Wi_lostIn_2 (c_Ru_begin hG x1 x2 hx1 hx2 δ δ2 eδ2) (Nat.le_refl 0) (Nat.le_refl 0) ?_
  refine x_ic (v := 0) d_Wi_lostIn_5 (by decide) ?_
  refine x_stw (i := 4) (ls' := [some (.inr (0, a)), some (.inr (0, x1)), some (.inr (0, x2)), some (.inl x3), some (.inl 0), none, none]) d_Wi_lostIn_6 (by decide) rfl ?_
  refine x_ic (v := 0) d_Wi_lostIn_8 (by decide) ?_
  refine x_stw (i := 5) (ls' := [some (.inr (0, a)), some (.inr (0, x1)), some (.inr (0, x2)), some (.inl x3), some (.inl 0), some (.inl 0), none]) d_Wi_lostIn_9 (by decide) rfl ?_
  refine x_wk (ls' := [some (.inr (0, a)), some (.inr (0, x1)), none, some (.inl x3), some (.inl 0), some (.inl 0), none]) ⟨Or.inr rfl, Or.inr rfl, Or.inl rfl, Or.inr rfl, Or.inr rfl, Or.inr rfl, Or.inl rfl, trivial⟩ ?_
  exact j_Wi_lostIn_11 hG a x1 x2 x3 ha hx1 hx2 FU 0 0 δ2 r h
