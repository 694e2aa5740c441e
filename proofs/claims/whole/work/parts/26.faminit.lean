/-! the constructors of Family and its kin -/
def NA1 (a : Nat) : Nat → Nat → Prop := fun f b => f = 23 ∧ b = a
theorem NA1.ok {a : Nat} : ∀ f b, NA1 a f b → NA1 a f b ∧ f ≠ 2 ∧ f ≠ 4 ∧ f ≠ 5 ∧ f ≠ 6 := fun f b h => ⟨h, by rw [h.1]; decide⟩
abbrev M_Fa_init : MM := (⟨RX1, "<init>", "(II)V"⟩, prog_3_method_1_code, 3, none)
theorem d_Fa_init_0 : decode M_Fa_init.2.1 0 = .ok (.aload_n 0, 1) := by decide +kernel
theorem d_Fa_init_1 : decode M_Fa_init.2.1 1 = .ok (.invokespecial 3, 3) := by decide +kernel
theorem d_Fa_init_4 : decode M_Fa_init.2.1 4 = .ok (.aload_n 0, 1) := by decide +kernel
theorem d_Fa_init_5 : decode M_Fa_init.2.1 5 = .ok (.iconst 0, 1) := by decide +kernel
theorem d_Fa_init_6 : decode M_Fa_init.2.1 6 = .ok (.putfield 9, 3) := by decide +kernel
theorem d_Fa_init_9 : decode M_Fa_init.2.1 9 = .ok (.aload_n 0, 1) := by decide +kernel
theorem d_Fa_init_10 : decode M_Fa_init.2.1 10 = .ok (.bipush 30, 2) := by decide +kernel
theorem d_Fa_init_12 : decode M_Fa_init.2.1 12 = .ok (.newarray .int, 2) := by decide +kernel
theorem d_Fa_init_14 : decode M_Fa_init.2.1 14 = .ok (.putfield 15, 3) := by decide +kernel
theorem d_Fa_init_17 : decode M_Fa_init.2.1 17 = .ok (.aload_n 0, 1) := by decide +kernel
theorem d_Fa_init_18 : decode M_Fa_init.2.1 18 = .ok (.iload_n 1, 1) := by decide +kernel
theorem d_Fa_init_19 : decode M_Fa_init.2.1 19 = .ok (.putfield 19, 3) := by decide +kernel
theorem d_Fa_init_22 : decode M_Fa_init.2.1 22 = .ok (.aload_n 0, 1) := by decide +kernel
theorem d_Fa_init_23 : decode M_Fa_init.2.1 23 = .ok (.iload_n 2, 1) := by decide +kernel
theorem d_Fa_init_24 : decode M_Fa_init.2.1 24 = .ok (.putfield 22, 3) := by decide +kernel
theorem d_Fa_init_27 : decode M_Fa_init.2.1 27 = .ok (.return_, 1) := by decide +kernel
theorem gp_Fa_15_2 : GP RX1 15 2 3 true (.array .int) := ⟨RX2, TX2, 4, RX1, tyX2, rfl, by decide, (lwg_at 942 (by decide +kernel) rfl), rfl, gl_w inX2, tyX2_ok, nmX2, rfl, by decide +kernel, fun h => by first | rfl | cases h⟩
theorem gp_Fa_19_2 : GP RX1 19 2 0 true .int := ⟨RX2, TX2, 4, RX1, tyX2, rfl, by decide, (lwg_at 936 (by decide +kernel) rfl), rfl, gl_w inX2, tyX2_ok, nmX2, rfl, by decide +kernel, fun h => by first | rfl | cases h⟩
theorem gp_Fa_22_2 : GP RX1 22 2 1 true .int := ⟨RX2, TX2, 4, RX1, tyX2, rfl, by decide, (lwg_at 937 (by decide +kernel) rfl), rfl, gl_w inX2, tyX2_ok, nmX2, rfl, by decide +kernel, fun h => by first | rfl | cases h⟩
def F_Fa_init (a : Nat) (x1 x2 : Int32) (δ : Dl) : Dl := (sI (sI (aD (sI δ 22 a 0) 23 a) 20 a x1) 21 a x2)
set_option maxRecDepth 40000 in
set_option maxHeartbeats 4000000 in
theorem c_Fa_init_2 {l : Launch} {Γ : Gm} {a : Nat} (hO : Mk Γ a 2) (x1 x2 : Int32) (δ : Dl) (hR : R1 δ) : Ct l M_Fa_init 1 1 30 (NA1 a) [.inr (0, a), .inl x1, .inl x2] Γ δ (none, gU Γ a [23], F_Fa_init a x1 x2 δ) := by
  refine Ct.of2 (n := 0) (ls := [some (.inr (0, a)), some (.inl x1), some (.inl x2)]) rfl (by decide +kernel) (Nat.le_of_ble_eq_true rfl) ?_
  refine Xe.cΓ (gU_nil (a := a)).symm ?_
  refine x_aload_n (i := 0) d_Fa_init_0 rfl rfl ?_
  refine x_oinit (lwg_at 935 (by decide +kernel) rfl) (lwg_at 27 (by decide +kernel) rfl) (lwg_at 28 (by decide +kernel) rfl) (by decide) (by decide) d_Fa_init_1 ?_
  refine x_aload_n (i := 0) d_Fa_init_4 rfl rfl ?_
  refine x_ic (v := 0) d_Fa_init_5 (by decide) ?_
  refine x_pI gp_Fa_9_2 rfl (by decide) rfl rfl rfl hO.1 hO.z rfl d_Fa_init_6 ?_
  have hR := R1.sI (f := 22) (a := a) (v := 0) hR
  refine x_aload_n (i := 0) d_Fa_init_9 rfl rfl ?_
  refine x_bi (v := 30) d_Fa_init_10 (by decide) ?_
  refine x_nw (f := 23) (b := a) (w := 30) (Or.inl ⟨by decide, rfl⟩) (by decide) (by rfl) (by decide) (by decide) ((gU_ne rfl).trans (hO.a (j := 3) rfl (by decide) rfl (by decide) : Γ 23 a = 0)) hR ⟨rfl, rfl⟩ (by decide) (un_r (fun e => absurd e.1 (by simp)) (un_i (un_i un_nil))) (us_r (fun e => absurd e.1 (by simp)) us_nil) (lwg_at 54 (by decide +kernel) rfl) (by decide) (by decide) d_Fa_init_12 ?_
  have hR := R1.aD (f := 23) (a := a) hR
  refine x_pA gp_Fa_15_2 rfl (by decide) rfl hO.1 hO.z rfl d_Fa_init_14 ?_
  refine x_aload_n (i := 0) d_Fa_init_17 rfl rfl ?_
  refine x_iload_n (i := 1) d_Fa_init_18 rfl rfl ?_
  refine x_pI gp_Fa_19_2 rfl (by decide) rfl rfl rfl hO.1 hO.z rfl d_Fa_init_19 ?_
  have hR := R1.sI (f := 20) (a := a) (v := x1) hR
  refine x_aload_n (i := 0) d_Fa_init_22 rfl rfl ?_
  refine x_iload_n (i := 2) d_Fa_init_23 rfl rfl ?_
  refine x_pI gp_Fa_22_2 rfl (by decide) rfl rfl rfl hO.1 hO.z rfl d_Fa_init_24 ?_
  have hR := R1.sI (f := 21) (a := a) (v := x2) hR
  exact x_vret rfl d_Fa_init_27 (Nat.le_refl _) (Nat.le_refl _)
abbrev M_Or_init : MM := (⟨RX2, "<init>", "(II)V"⟩, prog_4_method_1_code, 3, none)
theorem d_Or_init_0 : decode M_Or_init.2.1 0 = .ok (.aload_n 0, 1) := by decide +kernel
theorem d_Or_init_1 : decode M_Or_init.2.1 1 = .ok (.iload_n 1, 1) := by decide +kernel
theorem d_Or_init_2 : decode M_Or_init.2.1 2 = .ok (.iload_n 2, 1) := by decide +kernel
theorem d_Or_init_3 : decode M_Or_init.2.1 3 = .ok (.invokespecial 1, 3) := by decide +kernel
theorem d_Or_init_6 : decode M_Or_init.2.1 6 = .ok (.return_, 1) := by decide +kernel
theorem mi_Fa_init : MI M_Fa_init 2 := ⟨(lwg_at 16 (by decide +kernel) rfl), (lwg_at 934 (by decide +kernel) rfl), ⟨by decide +kernel, by decide +kernel⟩, by decide +kernel, by decide⟩
theorem ci_Or_1 : CI RX2 1 M_Fa_init 2 := ⟨(lwg_at 932 (by decide +kernel) rfl), (lwg_at 933 (by decide +kernel) rfl), rfl, rfl, mi_Fa_init⟩
set_option maxRecDepth 40000 in
set_option maxHeartbeats 4000000 in
theorem c_Or_init_2 {l : Launch} {Γ : Gm} {a : Nat} (hO : Mk Γ a 2) (x1 x2 : Int32) (δ : Dl) (hR : R1 δ) : Ct l M_Or_init 2 1 30 (NA1 a) [.inr (0, a), .inl x1, .inl x2] Γ δ (none, gU Γ a [23], F_Fa_init a x1 x2 δ) := by
  refine Ct.of2 (n := 0) (ls := [some (.inr (0, a)), some (.inl x1), some (.inl x2)]) rfl (by decide +kernel) (Nat.le_of_ble_eq_true rfl) ?_
  refine x_aload_n (i := 0) d_Or_init_0 rfl rfl ?_
  refine x_iload_n (i := 1) d_Or_init_1 rfl rfl ?_
  refine x_iload_n (i := 2) d_Or_init_2 rfl rfl ?_
  refine y_I2 (kb2 := 1) (sb2 := 30) (Γ2 := gU Γ a [23]) ci_Or_1 (by decide) (Nat.le_of_ble_eq_true rfl) d_Or_init_3 (c_Fa_init_2 hO x1 x2 _ hR) NA1.ok (un_r (fun e => absurd e.1 (by simp)) (un_i (un_i un_nil))) us_nil (by decide) (by decide) (by decide) (by decide) rfl ?_
  exact x_vret rfl d_Or_init_6 (by decide) (by decide)
theorem gp_Fa_15_4 : GP RX1 15 4 3 true (.array .int) := ⟨RX4, TX4, 4, RX1, tyX4, rfl, by decide, (lwg_at 942 (by decide +kernel) rfl), rfl, gl_w inX4, tyX4_ok, nmX4, rfl, by decide +kernel, fun h => by first | rfl | cases h⟩
theorem gp_Fa_19_4 : GP RX1 19 4 0 true .int := ⟨RX4, TX4, 4, RX1, tyX4, rfl, by decide, (lwg_at 936 (by decide +kernel) rfl), rfl, gl_w inX4, tyX4_ok, nmX4, rfl, by decide +kernel, fun h => by first | rfl | cases h⟩
theorem gp_Fa_22_4 : GP RX1 22 4 1 true .int := ⟨RX4, TX4, 4, RX1, tyX4, rfl, by decide, (lwg_at 937 (by decide +kernel) rfl), rfl, gl_w inX4, tyX4_ok, nmX4, rfl, by decide +kernel, fun h => by first | rfl | cases h⟩
set_option maxRecDepth 40000 in
set_option maxHeartbeats 4000000 in
theorem c_Fa_init_4 {l : Launch} {Γ : Gm} {a : Nat} (hO : Mk Γ a 4) (x1 x2 : Int32) (δ : Dl) (hR : R1 δ) : Ct l M_Fa_init 1 1 30 (NA1 a) [.inr (0, a), .inl x1, .inl x2] Γ δ (none, gU Γ a [23], F_Fa_init a x1 x2 δ) := by
  refine Ct.of2 (n := 0) (ls := [some (.inr (0, a)), some (.inl x1), some (.inl x2)]) rfl (by decide +kernel) (Nat.le_of_ble_eq_true rfl) ?_
  refine Xe.cΓ (gU_nil (a := a)).symm ?_
  refine x_aload_n (i := 0) d_Fa_init_0 rfl rfl ?_
  refine x_oinit (lwg_at 935 (by decide +kernel) rfl) (lwg_at 27 (by decide +kernel) rfl) (lwg_at 28 (by decide +kernel) rfl) (by decide) (by decide) d_Fa_init_1 ?_
  refine x_aload_n (i := 0) d_Fa_init_4 rfl rfl ?_
  refine x_ic (v := 0) d_Fa_init_5 (by decide) ?_
  refine x_pI gp_Fa_9_4 rfl (by decide) rfl rfl rfl hO.1 hO.z rfl d_Fa_init_6 ?_
  have hR := R1.sI (f := 22) (a := a) (v := 0) hR
  refine x_aload_n (i := 0) d_Fa_init_9 rfl rfl ?_
  refine x_bi (v := 30) d_Fa_init_10 (by decide) ?_
  refine x_nw (f := 23) (b := a) (w := 30) (Or.inl ⟨by decide, rfl⟩) (by decide) (by rfl) (by decide) (by decide) ((gU_ne rfl).trans (hO.a (j := 3) rfl (by decide) rfl (by decide) : Γ 23 a = 0)) hR ⟨rfl, rfl⟩ (by decide) (un_r (fun e => absurd e.1 (by simp)) (un_i (un_i un_nil))) (us_r (fun e => absurd e.1 (by simp)) us_nil) (lwg_at 54 (by decide +kernel) rfl) (by decide) (by decide) d_Fa_init_12 ?_
  have hR := R1.aD (f := 23) (a := a) hR
  refine x_pA gp_Fa_15_4 rfl (by decide) rfl hO.1 hO.z rfl d_Fa_init_14 ?_
  refine x_aload_n (i := 0) d_Fa_init_17 rfl rfl ?_
  refine x_iload_n (i := 1) d_Fa_init_18 rfl rfl ?_
  refine x_pI gp_Fa_19_4 rfl (by decide) rfl rfl rfl hO.1 hO.z rfl d_Fa_init_19 ?_
  have hR := R1.sI (f := 20) (a := a) (v := x1) hR
  refine x_aload_n (i := 0) d_Fa_init_22 rfl rfl ?_
  refine x_iload_n (i := 2) d_Fa_init_23 rfl rfl ?_
  refine x_pI gp_Fa_22_4 rfl (by decide) rfl rfl rfl hO.1 hO.z rfl d_Fa_init_24 ?_
  have hR := R1.sI (f := 21) (a := a) (v := x2) hR
  exact x_vret rfl d_Fa_init_27 (Nat.le_refl _) (Nat.le_refl _)
abbrev M_Ro_init : MM := (⟨RX4, "<init>", "(II)V"⟩, prog_6_method_1_code, 3, none)
theorem d_Ro_init_0 : decode M_Ro_init.2.1 0 = .ok (.aload_n 0, 1) := by decide +kernel
theorem d_Ro_init_1 : decode M_Ro_init.2.1 1 = .ok (.iload_n 1, 1) := by decide +kernel
theorem d_Ro_init_2 : decode M_Ro_init.2.1 2 = .ok (.iload_n 2, 1) := by decide +kernel
theorem d_Ro_init_3 : decode M_Ro_init.2.1 3 = .ok (.invokespecial 1, 3) := by decide +kernel
theorem d_Ro_init_6 : decode M_Ro_init.2.1 6 = .ok (.return_, 1) := by decide +kernel
theorem ci_Ro_1 : CI RX4 1 M_Fa_init 2 := ⟨(lwg_at 968 (by decide +kernel) rfl), (lwg_at 933 (by decide +kernel) rfl), rfl, rfl, mi_Fa_init⟩
set_option maxRecDepth 40000 in
set_option maxHeartbeats 4000000 in
theorem c_Ro_init_4 {l : Launch} {Γ : Gm} {a : Nat} (hO : Mk Γ a 4) (x1 x2 : Int32) (δ : Dl) (hR : R1 δ) : Ct l M_Ro_init 2 1 30 (NA1 a) [.inr (0, a), .inl x1, .inl x2] Γ δ (none, gU Γ a [23], F_Fa_init a x1 x2 δ) := by
  refine Ct.of2 (n := 0) (ls := [some (.inr (0, a)), some (.inl x1), some (.inl x2)]) rfl (by decide +kernel) (Nat.le_of_ble_eq_true rfl) ?_
  refine x_aload_n (i := 0) d_Ro_init_0 rfl rfl ?_
  refine x_iload_n (i := 1) d_Ro_init_1 rfl rfl ?_
  refine x_iload_n (i := 2) d_Ro_init_2 rfl rfl ?_
  refine y_I2 (kb2 := 1) (sb2 := 30) (Γ2 := gU Γ a [23]) ci_Ro_1 (by decide) (Nat.le_of_ble_eq_true rfl) d_Ro_init_3 (c_Fa_init_4 hO x1 x2 _ hR) NA1.ok (un_r (fun e => absurd e.1 (by simp)) (un_i (un_i un_nil))) us_nil (by decide) (by decide) (by decide) (by decide) rfl ?_
  exact x_vret rfl d_Ro_init_6 (by decide) (by decide)
theorem gp_Fa_15_6 : GP RX1 15 6 3 true (.array .int) := ⟨RX6, TX6, 4, RX1, tyX6, rfl, by decide, (lwg_at 942 (by decide +kernel) rfl), rfl, gl_w inX6, tyX6_ok, nmX6, rfl, by decide +kernel, fun h => by first | rfl | cases h⟩
theorem gp_Fa_19_6 : GP RX1 19 6 0 true .int := ⟨RX6, TX6, 4, RX1, tyX6, rfl, by decide, (lwg_at 936 (by decide +kernel) rfl), rfl, gl_w inX6, tyX6_ok, nmX6, rfl, by decide +kernel, fun h => by first | rfl | cases h⟩
theorem gp_Fa_22_6 : GP RX1 22 6 1 true .int := ⟨RX6, TX6, 4, RX1, tyX6, rfl, by decide, (lwg_at 937 (by decide +kernel) rfl), rfl, gl_w inX6, tyX6_ok, nmX6, rfl, by decide +kernel, fun h => by first | rfl | cases h⟩
set_option maxRecDepth 40000 in
set_option maxHeartbeats 4000000 in
theorem c_Fa_init_6 {l : Launch} {Γ : Gm} {a : Nat} (hO : Mk Γ a 6) (x1 x2 : Int32) (δ : Dl) (hR : R1 δ) : Ct l M_Fa_init 1 1 30 (NA1 a) [.inr (0, a), .inl x1, .inl x2] Γ δ (none, gU Γ a [23], F_Fa_init a x1 x2 δ) := by
  refine Ct.of2 (n := 0) (ls := [some (.inr (0, a)), some (.inl x1), some (.inl x2)]) rfl (by decide +kernel) (Nat.le_of_ble_eq_true rfl) ?_
  refine Xe.cΓ (gU_nil (a := a)).symm ?_
  refine x_aload_n (i := 0) d_Fa_init_0 rfl rfl ?_
  refine x_oinit (lwg_at 935 (by decide +kernel) rfl) (lwg_at 27 (by decide +kernel) rfl) (lwg_at 28 (by decide +kernel) rfl) (by decide) (by decide) d_Fa_init_1 ?_
  refine x_aload_n (i := 0) d_Fa_init_4 rfl rfl ?_
  refine x_ic (v := 0) d_Fa_init_5 (by decide) ?_
  refine x_pI gp_Fa_9_6 rfl (by decide) rfl rfl rfl hO.1 hO.z rfl d_Fa_init_6 ?_
  have hR := R1.sI (f := 22) (a := a) (v := 0) hR
  refine x_aload_n (i := 0) d_Fa_init_9 rfl rfl ?_
  refine x_bi (v := 30) d_Fa_init_10 (by decide) ?_
  refine x_nw (f := 23) (b := a) (w := 30) (Or.inl ⟨by decide, rfl⟩) (by decide) (by rfl) (by decide) (by decide) ((gU_ne rfl).trans (hO.a (j := 3) rfl (by decide) rfl (by decide) : Γ 23 a = 0)) hR ⟨rfl, rfl⟩ (by decide) (un_r (fun e => absurd e.1 (by simp)) (un_i (un_i un_nil))) (us_r (fun e => absurd e.1 (by simp)) us_nil) (lwg_at 54 (by decide +kernel) rfl) (by decide) (by decide) d_Fa_init_12 ?_
  have hR := R1.aD (f := 23) (a := a) hR
  refine x_pA gp_Fa_15_6 rfl (by decide) rfl hO.1 hO.z rfl d_Fa_init_14 ?_
  refine x_aload_n (i := 0) d_Fa_init_17 rfl rfl ?_
  refine x_iload_n (i := 1) d_Fa_init_18 rfl rfl ?_
  refine x_pI gp_Fa_19_6 rfl (by decide) rfl rfl rfl hO.1 hO.z rfl d_Fa_init_19 ?_
  have hR := R1.sI (f := 20) (a := a) (v := x1) hR
  refine x_aload_n (i := 0) d_Fa_init_22 rfl rfl ?_
  refine x_iload_n (i := 2) d_Fa_init_23 rfl rfl ?_
  refine x_pI gp_Fa_22_6 rfl (by decide) rfl rfl rfl hO.1 hO.z rfl d_Fa_init_24 ?_
  have hR := R1.sI (f := 21) (a := a) (v := x2) hR
  exact x_vret rfl d_Fa_init_27 (Nat.le_refl _) (Nat.le_refl _)
set_option maxRecDepth 40000 in
set_option maxHeartbeats 4000000 in
theorem c_Ro_init_6 {l : Launch} {Γ : Gm} {a : Nat} (hO : Mk Γ a 6) (x1 x2 : Int32) (δ : Dl) (hR : R1 δ) : Ct l M_Ro_init 2 1 30 (NA1 a) [.inr (0, a), .inl x1, .inl x2] Γ δ (none, gU Γ a [23], F_Fa_init a x1 x2 δ) := by
  refine Ct.of2 (n := 0) (ls := [some (.inr (0, a)), some (.inl x1), some (.inl x2)]) rfl (by decide +kernel) (Nat.le_of_ble_eq_true rfl) ?_
  refine x_aload_n (i := 0) d_Ro_init_0 rfl rfl ?_
  refine x_iload_n (i := 1) d_Ro_init_1 rfl rfl ?_
  refine x_iload_n (i := 2) d_Ro_init_2 rfl rfl ?_
  refine y_I2 (kb2 := 1) (sb2 := 30) (Γ2 := gU Γ a [23]) ci_Ro_1 (by decide) (Nat.le_of_ble_eq_true rfl) d_Ro_init_3 (c_Fa_init_6 hO x1 x2 _ hR) NA1.ok (un_r (fun e => absurd e.1 (by simp)) (un_i (un_i un_nil))) us_nil (by decide) (by decide) (by decide) (by decide) rfl ?_
  exact x_vret rfl d_Ro_init_6 (by decide) (by decide)
abbrev M_Sp_init : MM := (⟨RX6, "<init>", "(II)V"⟩, prog_8_method_1_code, 3, none)
theorem d_Sp_init_0 : decode M_Sp_init.2.1 0 = .ok (.aload_n 0, 1) := by decide +kernel
theorem d_Sp_init_1 : decode M_Sp_init.2.1 1 = .ok (.iload_n 1, 1) := by decide +kernel
theorem d_Sp_init_2 : decode M_Sp_init.2.1 2 = .ok (.iload_n 2, 1) := by decide +kernel
theorem d_Sp_init_3 : decode M_Sp_init.2.1 3 = .ok (.invokespecial 1, 3) := by decide +kernel
theorem d_Sp_init_6 : decode M_Sp_init.2.1 6 = .ok (.return_, 1) := by decide +kernel
theorem mi_Ro_init : MI M_Ro_init 2 := ⟨(lwg_at 19 (by decide +kernel) rfl), (lwg_at 967 (by decide +kernel) rfl), ⟨by decide +kernel, by decide +kernel⟩, by decide +kernel, by decide⟩
theorem ci_Sp_1 : CI RX6 1 M_Ro_init 2 := ⟨(lwg_at 965 (by decide +kernel) rfl), (lwg_at 966 (by decide +kernel) rfl), rfl, rfl, mi_Ro_init⟩
set_option maxRecDepth 40000 in
set_option maxHeartbeats 4000000 in
theorem c_Sp_init_6 {l : Launch} {Γ : Gm} {a : Nat} (hO : Mk Γ a 6) (x1 x2 : Int32) (δ : Dl) (hR : R1 δ) : Ct l M_Sp_init 3 1 30 (NA1 a) [.inr (0, a), .inl x1, .inl x2] Γ δ (none, gU Γ a [23], F_Fa_init a x1 x2 δ) := by
  refine Ct.of2 (n := 0) (ls := [some (.inr (0, a)), some (.inl x1), some (.inl x2)]) rfl (by decide +kernel) (Nat.le_of_ble_eq_true rfl) ?_
  refine x_aload_n (i := 0) d_Sp_init_0 rfl rfl ?_
  refine x_iload_n (i := 1) d_Sp_init_1 rfl rfl ?_
  refine x_iload_n (i := 2) d_Sp_init_2 rfl rfl ?_
  refine y_I2 (kb2 := 1) (sb2 := 30) (Γ2 := gU Γ a [23]) ci_Sp_1 (by decide) (Nat.le_of_ble_eq_true rfl) d_Sp_init_3 (c_Ro_init_6 hO x1 x2 _ hR) NA1.ok (un_r (fun e => absurd e.1 (by simp)) (un_i (un_i un_nil))) us_nil (by decide) (by decide) (by decide) (by decide) rfl ?_
  exact x_vret rfl d_Sp_init_6 (by decide) (by decide)
theorem gp_Fa_15_8 : GP RX1 15 8 3 true (.array .int) := ⟨RX8, TX8, 4, RX1, tyX8, rfl, by decide, (lwg_at 942 (by decide +kernel) rfl), rfl, gl_w inX8, tyX8_ok, nmX8, rfl, by decide +kernel, fun h => by first | rfl | cases h⟩
theorem gp_Fa_19_8 : GP RX1 19 8 0 true .int := ⟨RX8, TX8, 4, RX1, tyX8, rfl, by decide, (lwg_at 936 (by decide +kernel) rfl), rfl, gl_w inX8, tyX8_ok, nmX8, rfl, by decide +kernel, fun h => by first | rfl | cases h⟩
theorem gp_Fa_22_8 : GP RX1 22 8 1 true .int := ⟨RX8, TX8, 4, RX1, tyX8, rfl, by decide, (lwg_at 937 (by decide +kernel) rfl), rfl, gl_w inX8, tyX8_ok, nmX8, rfl, by decide +kernel, fun h => by first | rfl | cases h⟩
set_option maxRecDepth 40000 in
set_option maxHeartbeats 4000000 in
theorem c_Fa_init_8 {l : Launch} {Γ : Gm} {a : Nat} (hO : Mk Γ a 8) (x1 x2 : Int32) (δ : Dl) (hR : R1 δ) : Ct l M_Fa_init 1 1 30 (NA1 a) [.inr (0, a), .inl x1, .inl x2] Γ δ (none, gU Γ a [23], F_Fa_init a x1 x2 δ) := by
  refine Ct.of2 (n := 0) (ls := [some (.inr (0, a)), some (.inl x1), some (.inl x2)]) rfl (by decide +kernel) (Nat.le_of_ble_eq_true rfl) ?_
  refine Xe.cΓ (gU_nil (a := a)).symm ?_
  refine x_aload_n (i := 0) d_Fa_init_0 rfl rfl ?_
  refine x_oinit (lwg_at 935 (by decide +kernel) rfl) (lwg_at 27 (by decide +kernel) rfl) (lwg_at 28 (by decide +kernel) rfl) (by decide) (by decide) d_Fa_init_1 ?_
  refine x_aload_n (i := 0) d_Fa_init_4 rfl rfl ?_
  refine x_ic (v := 0) d_Fa_init_5 (by decide) ?_
  refine x_pI gp_Fa_9_8 rfl (by decide) rfl rfl rfl hO.1 hO.z rfl d_Fa_init_6 ?_
  have hR := R1.sI (f := 22) (a := a) (v := 0) hR
  refine x_aload_n (i := 0) d_Fa_init_9 rfl rfl ?_
  refine x_bi (v := 30) d_Fa_init_10 (by decide) ?_
  refine x_nw (f := 23) (b := a) (w := 30) (Or.inl ⟨by decide, rfl⟩) (by decide) (by rfl) (by decide) (by decide) ((gU_ne rfl).trans (hO.a (j := 3) rfl (by decide) rfl (by decide) : Γ 23 a = 0)) hR ⟨rfl, rfl⟩ (by decide) (un_r (fun e => absurd e.1 (by simp)) (un_i (un_i un_nil))) (us_r (fun e => absurd e.1 (by simp)) us_nil) (lwg_at 54 (by decide +kernel) rfl) (by decide) (by decide) d_Fa_init_12 ?_
  have hR := R1.aD (f := 23) (a := a) hR
  refine x_pA gp_Fa_15_8 rfl (by decide) rfl hO.1 hO.z rfl d_Fa_init_14 ?_
  refine x_aload_n (i := 0) d_Fa_init_17 rfl rfl ?_
  refine x_iload_n (i := 1) d_Fa_init_18 rfl rfl ?_
  refine x_pI gp_Fa_19_8 rfl (by decide) rfl rfl rfl hO.1 hO.z rfl d_Fa_init_19 ?_
  have hR := R1.sI (f := 20) (a := a) (v := x1) hR
  refine x_aload_n (i := 0) d_Fa_init_22 rfl rfl ?_
  refine x_iload_n (i := 2) d_Fa_init_23 rfl rfl ?_
  refine x_pI gp_Fa_22_8 rfl (by decide) rfl rfl rfl hO.1 hO.z rfl d_Fa_init_24 ?_
  have hR := R1.sI (f := 21) (a := a) (v := x2) hR
  exact x_vret rfl d_Fa_init_27 (Nat.le_refl _) (Nat.le_refl _)
set_option maxRecDepth 40000 in
set_option maxHeartbeats 4000000 in
theorem c_Or_init_8 {l : Launch} {Γ : Gm} {a : Nat} (hO : Mk Γ a 8) (x1 x2 : Int32) (δ : Dl) (hR : R1 δ) : Ct l M_Or_init 2 1 30 (NA1 a) [.inr (0, a), .inl x1, .inl x2] Γ δ (none, gU Γ a [23], F_Fa_init a x1 x2 δ) := by
  refine Ct.of2 (n := 0) (ls := [some (.inr (0, a)), some (.inl x1), some (.inl x2)]) rfl (by decide +kernel) (Nat.le_of_ble_eq_true rfl) ?_
  refine x_aload_n (i := 0) d_Or_init_0 rfl rfl ?_
  refine x_iload_n (i := 1) d_Or_init_1 rfl rfl ?_
  refine x_iload_n (i := 2) d_Or_init_2 rfl rfl ?_
  refine y_I2 (kb2 := 1) (sb2 := 30) (Γ2 := gU Γ a [23]) ci_Or_1 (by decide) (Nat.le_of_ble_eq_true rfl) d_Or_init_3 (c_Fa_init_8 hO x1 x2 _ hR) NA1.ok (un_r (fun e => absurd e.1 (by simp)) (un_i (un_i un_nil))) us_nil (by decide) (by decide) (by decide) (by decide) rfl ?_
  exact x_vret rfl d_Or_init_6 (by decide) (by decide)
abbrev M_Se_init : MM := (⟨RX8, "<init>", "(II)V"⟩, prog_10_method_1_code, 3, none)
theorem d_Se_init_0 : decode M_Se_init.2.1 0 = .ok (.aload_n 0, 1) := by decide +kernel
theorem d_Se_init_1 : decode M_Se_init.2.1 1 = .ok (.iload_n 1, 1) := by decide +kernel
theorem d_Se_init_2 : decode M_Se_init.2.1 2 = .ok (.iload_n 2, 1) := by decide +kernel
theorem d_Se_init_3 : decode M_Se_init.2.1 3 = .ok (.invokespecial 1, 3) := by decide +kernel
theorem d_Se_init_6 : decode M_Se_init.2.1 6 = .ok (.return_, 1) := by decide +kernel
theorem mi_Or_init : MI M_Or_init 2 := ⟨(lwg_at 17 (by decide +kernel) rfl), (lwg_at 931 (by decide +kernel) rfl), ⟨by decide +kernel, by decide +kernel⟩, by decide +kernel, by decide⟩
theorem ci_Se_1 : CI RX8 1 M_Or_init 2 := ⟨(lwg_at 929 (by decide +kernel) rfl), (lwg_at 930 (by decide +kernel) rfl), rfl, rfl, mi_Or_init⟩
set_option maxRecDepth 40000 in
set_option maxHeartbeats 4000000 in
theorem c_Se_init_8 {l : Launch} {Γ : Gm} {a : Nat} (hO : Mk Γ a 8) (x1 x2 : Int32) (δ : Dl) (hR : R1 δ) : Ct l M_Se_init 3 1 30 (NA1 a) [.inr (0, a), .inl x1, .inl x2] Γ δ (none, gU Γ a [23], F_Fa_init a x1 x2 δ) := by
  refine Ct.of2 (n := 0) (ls := [some (.inr (0, a)), some (.inl x1), some (.inl x2)]) rfl (by decide +kernel) (Nat.le_of_ble_eq_true rfl) ?_
  refine x_aload_n (i := 0) d_Se_init_0 rfl rfl ?_
  refine x_iload_n (i := 1) d_Se_init_1 rfl rfl ?_
  refine x_iload_n (i := 2) d_Se_init_2 rfl rfl ?_
  refine y_I2 (kb2 := 1) (sb2 := 30) (Γ2 := gU Γ a [23]) ci_Se_1 (by decide) (Nat.le_of_ble_eq_true rfl) d_Se_init_3 (c_Or_init_8 hO x1 x2 _ hR) NA1.ok (un_r (fun e => absurd e.1 (by simp)) (un_i (un_i un_nil))) us_nil (by decide) (by decide) (by decide) (by decide) rfl ?_
  exact x_vret rfl d_Se_init_6 (by decide) (by decide)
