/-! walks by program (wip/whole/gen.py): 11.bytes -/
abbrev M_By_clear : MM := (⟨RX0, "clear", "()V"⟩, prog_2_method_2_code, 1, none)
abbrev M_By_add : MM := (⟨RX0, "add", "(I)V"⟩, prog_2_method_3_code, 2, none)
abbrev M_By_addNumber : MM := (⟨RX0, "addNumber", "(I)V"⟩, prog_2_method_4_code, 3, none)
abbrev M_By_byteAt : MM := (⟨RX0, "byteAt", "(I)I"⟩, prog_2_method_5_code, 2, (some .int))
-- BlockStage$Bytes.clear()V
theorem d_By_clear_0 : decode M_By_clear.2.1 0 = .ok (.aload_n 0, 1) := by decide +kernel
theorem d_By_clear_1 : decode M_By_clear.2.1 1 = .ok (.iconst 0, 1) := by decide +kernel
theorem d_By_clear_2 : decode M_By_clear.2.1 2 = .ok (.putfield 9, 3) := by decide +kernel
theorem d_By_clear_5 : decode M_By_clear.2.1 5 = .ok (.return_, 1) := by decide +kernel
theorem gp_By_9_0 : GP RX0 9 0 0 false .int := ⟨RX0, TX0, 2, RX0, tyX0, rfl, by decide, (lwg_at 181 (by decide +kernel) rfl), rfl, gl_w inX0, tyX0_ok, nmX0, rfl, by decide +kernel, fun h => by first | rfl | cases h⟩
def F_By_clear (a : Nat) (δ : Dl) : Dl :=
  bnd (sI δ 10 a 0) fun δ2 => δ2
set_option maxRecDepth 20000 in
set_option maxHeartbeats 4000000 in
theorem c_By_clear {l : Launch} {Γ : Gm} (hG : GC Γ) (a : Nat) (ha : Oc a 0) (δ : Dl) (r : Dl) (h : F_By_clear a  δ = r) : Ct l M_By_clear 0 0 0 NF [.inr (0, a)] Γ δ (none, Γ, r) := by
  unfold F_By_clear at h
  have oa := hG.ob ha
  refine Ct.of2 (n := 0) (ls := [some (.inr (0, a))]) rfl (by decide +kernel) (Nat.le_of_ble_eq_true rfl) ?_
  refine x_aload_n (i := 0) d_By_clear_0 rfl rfl ?_
  refine x_ic (v := 0) d_By_clear_1 (by decide) ?_
  obtain ⟨δ2, eδ2, h⟩ := bn_e h
  refine x_putI (f := 10) gp_By_9_0 rfl kf_10 (fun h => by cases h) rfl rfl oa.1 oa.z d_By_clear_2 (Xe.cδ eδ2 ?_)
  subst h
  exact x_vret rfl d_By_clear_5 (Nat.le_refl 0) (Nat.le_refl 0)
-- BlockStage$Bytes.add(I)V
theorem d_By_add_0 : decode M_By_add.2.1 0 = .ok (.aload_n 0, 1) := by decide +kernel
theorem d_By_add_1 : decode M_By_add.2.1 1 = .ok (.getfield 9, 3) := by decide +kernel
theorem d_By_add_4 : decode M_By_add.2.1 4 = .ok (.ifCond .lt 15, 3) := by decide +kernel
theorem d_By_add_7 : decode M_By_add.2.1 7 = .ok (.aload_n 0, 1) := by decide +kernel
theorem d_By_add_8 : decode M_By_add.2.1 8 = .ok (.getfield 9, 3) := by decide +kernel
theorem d_By_add_11 : decode M_By_add.2.1 11 = .ok (.aload_n 0, 1) := by decide +kernel
theorem d_By_add_12 : decode M_By_add.2.1 12 = .ok (.getfield 21, 3) := by decide +kernel
theorem d_By_add_15 : decode M_By_add.2.1 15 = .ok (.arraylength, 1) := by decide +kernel
theorem d_By_add_16 : decode M_By_add.2.1 16 = .ok (.if_icmp .lt 4, 3) := by decide +kernel
theorem d_By_add_19 : decode M_By_add.2.1 19 = .ok (.return_, 1) := by decide +kernel
theorem d_By_add_20 : decode M_By_add.2.1 20 = .ok (.aload_n 0, 1) := by decide +kernel
theorem d_By_add_21 : decode M_By_add.2.1 21 = .ok (.getfield 21, 3) := by decide +kernel
theorem d_By_add_24 : decode M_By_add.2.1 24 = .ok (.aload_n 0, 1) := by decide +kernel
theorem d_By_add_25 : decode M_By_add.2.1 25 = .ok (.getfield 9, 3) := by decide +kernel
theorem d_By_add_28 : decode M_By_add.2.1 28 = .ok (.iload_n 1, 1) := by decide +kernel
theorem d_By_add_29 : decode M_By_add.2.1 29 = .ok (.iastore, 1) := by decide +kernel
theorem d_By_add_30 : decode M_By_add.2.1 30 = .ok (.aload_n 0, 1) := by decide +kernel
theorem d_By_add_31 : decode M_By_add.2.1 31 = .ok (.dup, 1) := by decide +kernel
theorem d_By_add_32 : decode M_By_add.2.1 32 = .ok (.getfield 9, 3) := by decide +kernel
theorem d_By_add_35 : decode M_By_add.2.1 35 = .ok (.iconst 1, 1) := by decide +kernel
theorem d_By_add_36 : decode M_By_add.2.1 36 = .ok (.iadd, 1) := by decide +kernel
theorem d_By_add_37 : decode M_By_add.2.1 37 = .ok (.putfield 9, 3) := by decide +kernel
theorem d_By_add_40 : decode M_By_add.2.1 40 = .ok (.return_, 1) := by decide +kernel
theorem gl_By_9_0 : GL RX0 9 0 0 := ⟨RX0, TX0, 2, RX0, rfl, by decide, (lwg_at 181 (by decide +kernel) rfl), Or.inl rfl, gl_w inX0⟩
theorem gl_By_21_0 : GL RX0 21 0 1 := ⟨RX0, TX0, 2, RX0, rfl, by decide, (lwg_at 184 (by decide +kernel) rfl), Or.inl rfl, gl_w inX0⟩
def F_By_add (a : Nat) (x1 : Int32) (δ : Dl) : Option (Dl) :=
  if (δ.1 10 a) < 0 then (some δ) else (if (δ.1 10 a) < (lenB a) then (if inb (δ.1 10 a) (lenB a) then bnd (sA δ 11 a (δ.1 10 a) x1) fun δ29 => bnd (sI δ29 10 a ((δ29.1 10 a) + 1)) fun δ37 => some δ37 else none) else (some δ))
set_option maxRecDepth 20000 in
set_option maxHeartbeats 4000000 in
theorem c_By_add {l : Launch} {Γ : Gm} (hG : GC Γ) (a : Nat) (x1 : Int32) (ha : Oc a 0) (δ : Dl) (r : Dl) (h : F_By_add a x1  δ = some r) : Ct l M_By_add 0 0 0 NF [.inr (0, a), .inl x1] Γ δ (none, Γ, r) := by
  unfold F_By_add at h
  have oa := hG.ob ha
  refine Ct.of2 (n := 0) (ls := [some (.inr (0, a)), some (.inl x1)]) rfl (by decide +kernel) (Nat.le_of_ble_eq_true rfl) ?_
  refine x_aload_n (i := 0) d_By_add_0 rfl rfl ?_
  refine x_getI (f := 10) gl_By_9_0 rfl kf_10 oa d_By_add_1 ?_
  refine x_if_lt (tgt := 19) d_By_add_4 (by decide) (fun c4 => ?_) (fun c4 => ?_)
  · have h := if_t c4 h
    replace h := Option.some.inj h; subst h
    exact x_vret rfl d_By_add_19 (Nat.le_refl 0) (Nat.le_refl 0)
  · have h := if_f c4 h
    refine x_aload_n (i := 0) d_By_add_7 rfl rfl ?_
    refine x_getI (f := 10) gl_By_9_0 rfl kf_10 oa d_By_add_8 ?_
    refine x_aload_n (i := 0) d_By_add_11 rfl rfl ?_
    refine x_getA (f := 11) gl_By_21_0 rfl (by rw [kf_11]; decide) oa d_By_add_12 ?_
    refine x_alen (n := (lenB a)) (Or.inl kf_11) (oz_11 oa) (lo_11 _) d_By_add_15 ?_
    refine x_cmp_lt (tgt := 20) d_By_add_16 (by decide) (fun c16 => ?_) (fun c16 => ?_)
    · have h := if_t c16 h
      refine x_aload_n (i := 0) d_By_add_20 rfl rfl ?_
      refine x_getA (f := 11) gl_By_21_0 rfl (by rw [kf_11]; decide) oa d_By_add_21 ?_
      refine x_aload_n (i := 0) d_By_add_24 rfl rfl ?_
      refine x_getI (f := 10) gl_By_9_0 rfl kf_10 oa d_By_add_25 ?_
      refine x_iload_n (i := 1) d_By_add_28 rfl rfl ?_
      obtain ⟨g29, h⟩ := gd_e h
      obtain ⟨δ29, eδ29, h⟩ := bn_e h
      refine x_iast (n := (lenB a)) kf_11 (oz_11 oa) (ln_11 _) g29 d_By_add_29 (Xe.cδ eδ29 ?_)
      refine x_aload_n (i := 0) d_By_add_30 rfl rfl ?_
      refine x_dup d_By_add_31 ?_
      refine x_getI (f := 10) gl_By_9_0 rfl kf_10 oa d_By_add_32 ?_
      refine x_ic (v := 1) d_By_add_35 (by decide) ?_
      refine x_iadd d_By_add_36 ?_
      obtain ⟨δ37, eδ37, h⟩ := bn_e h
      refine x_putI (f := 10) gp_By_9_0 rfl kf_10 (fun h => by cases h) rfl rfl oa.1 oa.z d_By_add_37 (Xe.cδ eδ37 ?_)
      replace h := Option.some.inj h; subst h
      exact x_vret rfl d_By_add_40 (Nat.le_refl 0) (Nat.le_refl 0)
    · have h := if_f c16 h
      replace h := Option.some.inj h; subst h
      exact x_vret rfl d_By_add_19 (Nat.le_refl 0) (Nat.le_refl 0)
-- BlockStage$Bytes.addNumber(I)V
theorem d_By_addNumber_0 : decode M_By_addNumber.2.1 0 = .ok (.iload_n 1, 1) := by decide +kernel
theorem d_By_addNumber_1 : decode M_By_addNumber.2.1 1 = .ok (.ifCond .ge 9, 3) := by decide +kernel
theorem d_By_addNumber_4 : decode M_By_addNumber.2.1 4 = .ok (.aload_n 0, 1) := by decide +kernel
theorem d_By_addNumber_5 : decode M_By_addNumber.2.1 5 = .ok (.bipush 45, 2) := by decide +kernel
theorem d_By_addNumber_7 : decode M_By_addNumber.2.1 7 = .ok (.invokevirtual 25, 3) := by decide +kernel
theorem d_By_addNumber_10 : decode M_By_addNumber.2.1 10 = .ok (.iload_n 1, 1) := by decide +kernel
theorem d_By_addNumber_11 : decode M_By_addNumber.2.1 11 = .ok (.invokestatic 29, 3) := by decide +kernel
theorem d_By_addNumber_14 : decode M_By_addNumber.2.1 14 = .ok (.istore_n 2, 1) := by decide +kernel
theorem d_By_addNumber_15 : decode M_By_addNumber.2.1 15 = .ok (.iload_n 2, 1) := by decide +kernel
theorem d_By_addNumber_16 : decode M_By_addNumber.2.1 16 = .ok (.bipush 9, 2) := by decide +kernel
theorem d_By_addNumber_18 : decode M_By_addNumber.2.1 18 = .ok (.if_icmp .le 14, 3) := by decide +kernel
theorem d_By_addNumber_21 : decode M_By_addNumber.2.1 21 = .ok (.aload_n 0, 1) := by decide +kernel
theorem d_By_addNumber_22 : decode M_By_addNumber.2.1 22 = .ok (.bipush 48, 2) := by decide +kernel
theorem d_By_addNumber_24 : decode M_By_addNumber.2.1 24 = .ok (.iload_n 2, 1) := by decide +kernel
theorem d_By_addNumber_25 : decode M_By_addNumber.2.1 25 = .ok (.bipush 10, 2) := by decide +kernel
theorem d_By_addNumber_27 : decode M_By_addNumber.2.1 27 = .ok (.idiv, 1) := by decide +kernel
theorem d_By_addNumber_28 : decode M_By_addNumber.2.1 28 = .ok (.iadd, 1) := by decide +kernel
theorem d_By_addNumber_29 : decode M_By_addNumber.2.1 29 = .ok (.invokevirtual 25, 3) := by decide +kernel
theorem d_By_addNumber_32 : decode M_By_addNumber.2.1 32 = .ok (.aload_n 0, 1) := by decide +kernel
theorem d_By_addNumber_33 : decode M_By_addNumber.2.1 33 = .ok (.bipush 48, 2) := by decide +kernel
theorem d_By_addNumber_35 : decode M_By_addNumber.2.1 35 = .ok (.iload_n 2, 1) := by decide +kernel
theorem d_By_addNumber_36 : decode M_By_addNumber.2.1 36 = .ok (.bipush 10, 2) := by decide +kernel
theorem d_By_addNumber_38 : decode M_By_addNumber.2.1 38 = .ok (.irem, 1) := by decide +kernel
theorem d_By_addNumber_39 : decode M_By_addNumber.2.1 39 = .ok (.iadd, 1) := by decide +kernel
theorem d_By_addNumber_40 : decode M_By_addNumber.2.1 40 = .ok (.invokevirtual 25, 3) := by decide +kernel
theorem d_By_addNumber_43 : decode M_By_addNumber.2.1 43 = .ok (.return_, 1) := by decide +kernel
theorem mi_By_add : MI M_By_add 1 := ⟨(lwg_at 6 (by decide +kernel) rfl), (lwg_at 703 (by decide +kernel) rfl), ⟨by decide +kernel, by decide +kernel⟩, by decide +kernel, by decide⟩
theorem cs_By_25 : CV RX0 25 RX0 M_By_add 1 := ⟨(lwg_at 900 (by decide +kernel) rfl), (lwg_at 701 (by decide +kernel) rfl), (lwg_at 702 (by decide +kernel) rfl), mi_By_add⟩
theorem mi_Ma_abs : MI M_Ma_abs 1 := ⟨(lwg_at 7 (by decide +kernel) rfl), (lwg_at 903 (by decide +kernel) rfl), ⟨by decide +kernel, by decide +kernel⟩, by decide +kernel, by decide⟩
theorem cs_By_29 : CS RX0 29 M_Ma_abs 1 := ⟨(lwg_at 901 (by decide +kernel) rfl), (lwg_at 902 (by decide +kernel) rfl), mi_Ma_abs⟩
def F_By_addNumber_32 (a : Nat) (x1 : Int32) (x2 : Int32) (δ : Dl) : Option (Dl) :=
  (F_By_add a (48 + (x2 - x2 / 10 * 10)) δ).bind fun δ40 => some δ40
set_option maxRecDepth 20000 in
set_option maxHeartbeats 4000000 in
theorem j_By_addNumber_32 {l : Launch} {Γ : Gm} (hG : GC Γ) (a : Nat) (x1 : Int32) (ha : Oc a 0) (x2 : Int32) (δ : Dl) (r : Dl) (h : F_By_addNumber_32 a x1 x2 δ = some r) : Xe l M_By_addNumber 1 0 0 NF 32 [some (.inr (0, a)), none, some (.inl x2)] [] 0 0 Γ δ (none, Γ, r) := by
  unfold F_By_addNumber_32 at h
  have oa := hG.ob ha
  refine x_aload_n (i := 0) d_By_addNumber_32 rfl rfl ?_
  refine x_bi (v := 48) d_By_addNumber_33 (by decide) ?_
  refine x_iload_n (i := 2) d_By_addNumber_35 rfl rfl ?_
  refine x_bi (v := 10) d_By_addNumber_36 (by decide) ?_
  refine x_irem d_By_addNumber_38 (by decide) ?_
  refine x_iadd d_By_addNumber_39 ?_
  obtain ⟨δ40, eδ40, h⟩ := bd_e h
  refine y_V1v cs_By_25 rfl oa (by first | decide | omega) (Nat.le_of_ble_eq_true rfl) d_By_addNumber_40 (c_By_add hG a (48 + (x2 - x2 / 10 * 10)) ha δ δ40 eδ40) (Nat.le_refl 0) (Nat.le_refl 0) ?_
  replace h := Option.some.inj h; subst h
  exact x_vret rfl d_By_addNumber_43 (Nat.le_refl 0) (Nat.le_refl 0)
def F_By_addNumber_10 (a : Nat) (x1 : Int32) (δ : Dl) : Option (Dl) :=
  bnd (F_Ma_abs x1) fun v11 => if v11 ≤ 9 then (F_By_addNumber_32 a x1 v11 δ) else ((F_By_add a (48 + (v11 / 10)) δ).bind fun δ29 => F_By_addNumber_32 a x1 v11 δ29)
set_option maxRecDepth 20000 in
set_option maxHeartbeats 4000000 in
theorem j_By_addNumber_10 {l : Launch} {Γ : Gm} (hG : GC Γ) (a : Nat) (x1 : Int32) (ha : Oc a 0) (δ : Dl) (r : Dl) (h : F_By_addNumber_10 a x1  δ = some r) : Xe l M_By_addNumber 1 0 0 NF 10 [some (.inr (0, a)), some (.inl x1), none] [] 0 0 Γ δ (none, Γ, r) := by
  unfold F_By_addNumber_10 at h
  have oa := hG.ob ha
  refine x_iload_n (i := 1) d_By_addNumber_10 rfl rfl ?_
  obtain ⟨v11, ev11, h⟩ := bn_e h
  refine y_S1 cs_By_29 (by first | decide | omega) (Nat.le_of_ble_eq_true rfl) d_By_addNumber_11 (c_Ma_abs x1  δ v11 ev11) (Nat.le_refl 0) (Nat.le_refl 0) ?_
  refine x_stn (i := 2) (ls' := [some (.inr (0, a)), some (.inl x1), some (.inl v11)]) d_By_addNumber_14 rfl (by decide) rfl ?_
  refine x_iload_n (i := 2) d_By_addNumber_15 rfl rfl ?_
  refine x_bi (v := 9) d_By_addNumber_16 (by decide) ?_
  refine x_cmp_le (tgt := 32) d_By_addNumber_18 (by decide) (fun c18 => ?_) (fun c18 => ?_)
  · have h := if_t c18 h
    refine x_wk (ls' := [some (.inr (0, a)), none, some (.inl v11)]) ⟨Or.inr rfl, Or.inl rfl, Or.inr rfl, trivial⟩ ?_
    exact j_By_addNumber_32 hG a x1 ha v11 δ r h
  · have h := if_f c18 h
    refine x_aload_n (i := 0) d_By_addNumber_21 rfl rfl ?_
    refine x_bi (v := 48) d_By_addNumber_22 (by decide) ?_
    refine x_iload_n (i := 2) d_By_addNumber_24 rfl rfl ?_
    refine x_bi (v := 10) d_By_addNumber_25 (by decide) ?_
    refine x_idiv d_By_addNumber_27 (by decide) ?_
    refine x_iadd d_By_addNumber_28 ?_
    obtain ⟨δ29, eδ29, h⟩ := bd_e h
    refine y_V1v cs_By_25 rfl oa (by first | decide | omega) (Nat.le_of_ble_eq_true rfl) d_By_addNumber_29 (c_By_add hG a (48 + (v11 / 10)) ha δ δ29 eδ29) (Nat.le_refl 0) (Nat.le_refl 0) ?_
    refine x_wk (ls' := [some (.inr (0, a)), none, some (.inl v11)]) ⟨Or.inr rfl, Or.inl rfl, Or.inr rfl, trivial⟩ ?_
    exact j_By_addNumber_32 hG a x1 ha v11 δ29 r h
def F_By_addNumber (a : Nat) (x1 : Int32) (δ : Dl) : Option (Dl) :=
  if 0 ≤ x1 then (F_By_addNumber_10 a x1 δ) else ((F_By_add a 45 δ).bind fun δ7 => F_By_addNumber_10 a x1 δ7)
set_option maxRecDepth 20000 in
set_option maxHeartbeats 4000000 in
theorem c_By_addNumber {l : Launch} {Γ : Gm} (hG : GC Γ) (a : Nat) (x1 : Int32) (ha : Oc a 0) (δ : Dl) (r : Dl) (h : F_By_addNumber a x1  δ = some r) : Ct l M_By_addNumber 1 0 0 NF [.inr (0, a), .inl x1] Γ δ (none, Γ, r) := by
  unfold F_By_addNumber at h
  have oa := hG.ob ha
  refine Ct.of2 (n := 1) (ls := [some (.inr (0, a)), some (.inl x1), none]) rfl (by decide +kernel) (Nat.le_of_ble_eq_true rfl) ?_
  refine x_iload_n (i := 1) d_By_addNumber_0 rfl rfl ?_
  refine x_if_ge (tgt := 10) d_By_addNumber_1 (by decide) (fun c1 => ?_) (fun c1 => ?_)
  · have h := if_t c1 h
    exact j_By_addNumber_10 hG a x1 ha  δ r h
  · have h := if_f c1 h
    refine x_aload_n (i := 0) d_By_addNumber_4 rfl rfl ?_
    refine x_bi (v := 45) d_By_addNumber_5 (by decide) ?_
    obtain ⟨δ7, eδ7, h⟩ := bd_e h
    refine y_V1v cs_By_25 rfl oa (by first | decide | omega) (Nat.le_of_ble_eq_true rfl) d_By_addNumber_7 (c_By_add hG a 45 ha δ δ7 eδ7) (Nat.le_refl 0) (Nat.le_refl 0) ?_
    exact j_By_addNumber_10 hG a x1 ha  δ7 r h
-- BlockStage$Bytes.byteAt(I)I
theorem d_By_byteAt_0 : decode M_By_byteAt.2.1 0 = .ok (.iload_n 1, 1) := by decide +kernel
theorem d_By_byteAt_1 : decode M_By_byteAt.2.1 1 = .ok (.ifCond .lt 20, 3) := by decide +kernel
theorem d_By_byteAt_4 : decode M_By_byteAt.2.1 4 = .ok (.iload_n 1, 1) := by decide +kernel
theorem d_By_byteAt_5 : decode M_By_byteAt.2.1 5 = .ok (.aload_n 0, 1) := by decide +kernel
theorem d_By_byteAt_6 : decode M_By_byteAt.2.1 6 = .ok (.getfield 9, 3) := by decide +kernel
theorem d_By_byteAt_9 : decode M_By_byteAt.2.1 9 = .ok (.if_icmp .ge 12, 3) := by decide +kernel
theorem d_By_byteAt_12 : decode M_By_byteAt.2.1 12 = .ok (.aload_n 0, 1) := by decide +kernel
theorem d_By_byteAt_13 : decode M_By_byteAt.2.1 13 = .ok (.getfield 21, 3) := by decide +kernel
theorem d_By_byteAt_16 : decode M_By_byteAt.2.1 16 = .ok (.iload_n 1, 1) := by decide +kernel
theorem d_By_byteAt_17 : decode M_By_byteAt.2.1 17 = .ok (.iaload, 1) := by decide +kernel
theorem d_By_byteAt_18 : decode M_By_byteAt.2.1 18 = .ok (.goto 4, 3) := by decide +kernel
theorem d_By_byteAt_21 : decode M_By_byteAt.2.1 21 = .ok (.iconst (-1), 1) := by decide +kernel
theorem d_By_byteAt_22 : decode M_By_byteAt.2.1 22 = .ok (.ireturn, 1) := by decide +kernel
def F_By_byteAt (a : Nat) (x1 : Int32) (δ : Dl) : Option (Int32) :=
  if x1 < 0 then (some (-1)) else (if (δ.1 10 a) ≤ x1 then (some (-1)) else (if inb x1 (lenB a) then some (δ.2.1 11 a x1) else none))
set_option maxRecDepth 20000 in
set_option maxHeartbeats 4000000 in
theorem c_By_byteAt {l : Launch} {Γ : Gm} (hG : GC Γ) (a : Nat) (x1 : Int32) (ha : Oc a 0) (δ : Dl) (r : Int32) (h : F_By_byteAt a x1  δ = some r) : Ct l M_By_byteAt 0 0 0 NF [.inr (0, a), .inl x1] Γ δ (some (.inl r), Γ, δ) := by
  unfold F_By_byteAt at h
  have oa := hG.ob ha
  refine Ct.of2 (n := 0) (ls := [some (.inr (0, a)), some (.inl x1)]) rfl (by decide +kernel) (Nat.le_of_ble_eq_true rfl) ?_
  refine x_iload_n (i := 1) d_By_byteAt_0 rfl rfl ?_
  refine x_if_lt (tgt := 21) d_By_byteAt_1 (by decide) (fun c1 => ?_) (fun c1 => ?_)
  · have h := if_t c1 h
    refine x_ic (v := -1) d_By_byteAt_21 (by decide) ?_
    replace h := Option.some.inj h; subst h
    exact x_iret rfl d_By_byteAt_22 (Nat.le_refl 0) (Nat.le_refl 0)
  · have h := if_f c1 h
    refine x_iload_n (i := 1) d_By_byteAt_4 rfl rfl ?_
    refine x_aload_n (i := 0) d_By_byteAt_5 rfl rfl ?_
    refine x_getI (f := 10) gl_By_9_0 rfl kf_10 oa d_By_byteAt_6 ?_
    refine x_cmp_ge (tgt := 21) d_By_byteAt_9 (by decide) (fun c9 => ?_) (fun c9 => ?_)
    · have h := if_t c9 h
      refine x_ic (v := -1) d_By_byteAt_21 (by decide) ?_
      replace h := Option.some.inj h; subst h
      exact x_iret rfl d_By_byteAt_22 (Nat.le_refl 0) (Nat.le_refl 0)
    · have h := if_f c9 h
      refine x_aload_n (i := 0) d_By_byteAt_12 rfl rfl ?_
      refine x_getA (f := 11) gl_By_21_0 rfl (by rw [kf_11]; decide) oa d_By_byteAt_13 ?_
      refine x_iload_n (i := 1) d_By_byteAt_16 rfl rfl ?_
      obtain ⟨g17, h⟩ := gd_e h
      refine x_iald (n := (lenB a)) kf_11 (oz_11 oa) (ln_11 _) g17 d_By_byteAt_17 ?_
      refine x_goto (tgt := 22) d_By_byteAt_18 (by decide) ?_
      replace h := Option.some.inj h; subst h
      exact x_iret rfl d_By_byteAt_22 (Nat.le_refl 0) (Nat.le_refl 0)
