/-! familyOf, act, trace, count (wip/whole/gen27.py) -/
def NFm : Nat → Nat → Prop := fun f a => (f = 0 ∨ f = 23) ∧ (19 ≤ a ∧ a ≤ 22)
theorem NFm.of {q : Nat} (hq : 19 ≤ q ∧ q ≤ 22) : ∀ f b, NA1 q f b → NFm f b ∧ f ≠ 2 ∧ f ≠ 4 ∧ f ≠ 5 ∧ f ≠ 6 := fun f b h => ⟨⟨Or.inr h.1, by rw [h.2]; exact hq⟩, by rw [h.1]; decide⟩
theorem NFm.ok : ∀ f b, NFm f b → NFm f b ∧ f ≠ 2 ∧ f ≠ 4 ∧ f ≠ 5 ∧ f ≠ 6 := fun f b h => ⟨h, by rcases h.1 with e | e <;> rw [e] <;> decide⟩
def FG (Γ : Gm) (q : Nat) : Gm := gU (nG Γ q (wcls q) 4) q [23]
def FGo (Γ : Gm) (q : Nat) : Gm := if q = 0 then Γ else FG Γ q
theorem FG_ne {Γ : Gm} {q f a : Nat} (h : a ≠ q) : FG Γ q f a = Γ f a := by unfold FG gU nG; rw [if_neg (fun e => h e.1), if_neg (fun e => h e.2), if_neg (fun e => h e.1)]
theorem ob_FG {Γ : Gm} {q a ci : Nat} (h : Ob Γ a ci) (ha : a ≠ q) : Ob (FG Γ q) a ci := ⟨h.1, by rw [FG_ne ha]; exact h.2.1, fun r hr j hj => by rw [FG_ne ha]; exact h.2.2 r hr j hj⟩
theorem gc_FG {Γ : Gm} {q : Nat} (h : GC Γ) (hq : 19 ≤ q) : GC (FG Γ q) := fun a ha => ob_FG (h a ha) (by omega)
theorem ob_fam19 {Γ : Gm} : Ob (FG Γ 19) 19 2 := (Mk.new (b := 19) (ci := 2) (by decide) rfl (by decide) : Mk (nG Γ 19 2 4) 19 2).ob rfl rfl (by decide +kernel)
theorem ob_fam20 {Γ : Gm} : Ob (FG Γ 20) 20 4 := (Mk.new (b := 20) (ci := 4) (by decide) rfl (by decide) : Mk (nG Γ 20 4 4) 20 4).ob rfl rfl (by decide +kernel)
theorem ob_fam21 {Γ : Gm} : Ob (FG Γ 21) 21 6 := (Mk.new (b := 21) (ci := 6) (by decide) rfl (by decide) : Mk (nG Γ 21 6 4) 21 6).ob rfl rfl (by decide +kernel)
theorem ob_fam22 {Γ : Gm} : Ob (FG Γ 22) 22 8 := (Mk.new (b := 22) (ci := 8) (by decide) rfl (by decide) : Mk (nG Γ 22 8 4) 22 8).ob rfl rfl (by decide +kernel)
theorem wsr_lt (f a : Nat) : wsr f a < 19 := by
  by_cases h : wsr f a = 0
  · omega
  · exact (by decide +kernel : ∀ q, q ∈ srL → q.2.2 < 19) _ (wsr_in rfl h)
/-- what the references are when the latest act is let go -/
def RQ (δ : Dl) : Prop := ∀ f a, (δ.2.2 f a).1 ≤ 1 ∧ ((δ.2.2 f a).1 = 0 → (δ.2.2 f a).2 < 19)
def RX (δ : Dl) : Prop := ∀ f a, (δ.2.2 f a).1 ≤ 1 ∧ (¬ (f = 102 ∧ a = 0) → (δ.2.2 f a).1 = 0 → (δ.2.2 f a).2 < 19)
theorem RX.q {δ : Dl} (h : RX δ) : RQ (sR δ 102 0 (1, 0)) := by
  intro f a
  show (if _ then _ else _ : Nat × Nat).1 ≤ 1 ∧ ((if _ then _ else _ : Nat × Nat).1 = 0 → (if _ then _ else _ : Nat × Nat).2 < 19)
  by_cases e : f = 102 ∧ a = 0
  · rw [if_pos e]; exact ⟨Nat.le_refl 1, fun h => by cases h⟩
  · rw [if_neg e]; exact ⟨(h f a).1, (h f a).2 e⟩
theorem RQ.ne {δ : Dl} (h : RQ δ) {q : Nat} (hq : 19 ≤ q) (f a : Nat) : δ.2.2 f a ≠ (0, q) := fun e => by
  have := (h f a).2 (by rw [e])
  rw [e] at this
  exact absurd this (Nat.not_lt.mpr hq)
theorem RQ.r1 {δ : Dl} (h : RQ δ) {b ci n : Nat} : R1 (nD δ b ci n) := by
  intro f a
  show (if _ then _ else _ : Nat × Nat).1 ≤ 1
  split
  · exact Nat.le_refl 1
  · exact (h f a).1
theorem wsr_q {Γ : Gm} {q : Nat} (hq : 19 ≤ q) : ∀ f a, wty f = 2 → Γ f a = 2 → wsr f a ≠ q := fun f a _ _ e => by have := wsr_lt f a; omega
/-- what the latest act may be -/
def LA (Γ : Gm) (δ : Dl) : Prop := δ.2.2 102 0 = (1, 0) ∨ (δ.2.2 102 0 = (0, 19) ∧ Ob Γ 19 2) ∨ (δ.2.2 102 0 = (0, 20) ∧ Ob Γ 20 4) ∨ (δ.2.2 102 0 = (0, 21) ∧ Ob Γ 21 6) ∨ (δ.2.2 102 0 = (0, 22) ∧ Ob Γ 22 8)
section XW
variable {l : Launch} {Y : MM} {d kc ks : Nat} {N : Nat → Nat → Prop} {pc : Nat} {ls : List (Option AV)} {st : List AV} {kb sb : Nat} {Γ : Gm} {δ : Dl} {r : Rs}
theorem y_W1 {idx d' kc' ks' ci nf kb2 sb2 : Nat} {C : String} {T : u_T} {Y' : MM} {x1 : AV} {a : Nat} {N' : Nat → Nat → Prop} {Γ' : Gm} {δ' : Dl} {v : AV} (cw : CV Y.1.cls idx C Y' 1) (hvc : vwCl[ci]? = some (C, T, nf)) (ha : Ob Γ a ci) (hd' : d' + 1 ≤ d) (hst : st.length ≤ 8) (hd : decode Y.2.1 pc = .ok (.invokevirtual idx, 3)) (hC : Ct l Y' d' kc' ks' N' (.inr (0, a) :: [x1]) Γ δ (some v, Γ', δ'))
    (hN : ∀ f a, N' f a → N f a ∧ f ≠ 2 ∧ f ≠ 4 ∧ f ≠ 5 ∧ f ≠ 6) (hl : ∀ v, some v ∈ ls → Un N' v) (hs : ∀ v ∈ st, Un N' v) (hk2 : kb + kc' = kb2) (hs2 : sb + ks' = sb2) (hkk : kb2 ≤ kc) (hss : sb2 ≤ ks) (k : Xe l Y d kc ks N (pc + 3) ls (v :: st) kb2 sb2 Γ' δ' r) : Xe l Y d kc ks N pc ls (x1 :: .inr (0, a) :: st) kb sb Γ δ r := by
  subst hk2; subst hs2
  exact Xe.callV (as := [x1]) cw hvc ha.1 ha.z rfl hd' hkk hss hst hd hC hN hl hs k
end XW

theorem d_Bs_familyOf_0 : decode M_Bs_familyOf.2.1 0 = .ok (.aload_n 0, 1) := by decide +kernel
theorem d_Bs_familyOf_1 : decode M_Bs_familyOf.2.1 1 = .ok (.getfield 14, 3) := by decide +kernel
theorem d_Bs_familyOf_4 : decode M_Bs_familyOf.2.1 4 = .ok (.iload_n 1, 1) := by decide +kernel
theorem d_Bs_familyOf_5 : decode M_Bs_familyOf.2.1 5 = .ok (.invokevirtual 183, 3) := by decide +kernel
theorem d_Bs_familyOf_8 : decode M_Bs_familyOf.2.1 8 = .ok (.istore_n 2, 1) := by decide +kernel
theorem d_Bs_familyOf_9 : decode M_Bs_familyOf.2.1 9 = .ok (.aload_n 0, 1) := by decide +kernel
theorem d_Bs_familyOf_10 : decode M_Bs_familyOf.2.1 10 = .ok (.getfield 14, 3) := by decide +kernel
theorem d_Bs_familyOf_13 : decode M_Bs_familyOf.2.1 13 = .ok (.iload_n 1, 1) := by decide +kernel
theorem d_Bs_familyOf_14 : decode M_Bs_familyOf.2.1 14 = .ok (.invokevirtual 201, 3) := by decide +kernel
theorem d_Bs_familyOf_17 : decode M_Bs_familyOf.2.1 17 = .ok (.istore_n 3, 1) := by decide +kernel
theorem d_Bs_familyOf_18 : decode M_Bs_familyOf.2.1 18 = .ok (.iload_n 2, 1) := by decide +kernel
theorem d_Bs_familyOf_19 : decode M_Bs_familyOf.2.1 19 = .ok (.invokestatic 351, 3) := by decide +kernel
theorem d_Bs_familyOf_22 : decode M_Bs_familyOf.2.1 22 = .ok (.ifCond .eq 13, 3) := by decide +kernel
theorem d_Bs_familyOf_25 : decode M_Bs_familyOf.2.1 25 = .ok (.new 354, 3) := by decide +kernel
theorem d_Bs_familyOf_28 : decode M_Bs_familyOf.2.1 28 = .ok (.dup, 1) := by decide +kernel
theorem d_Bs_familyOf_29 : decode M_Bs_familyOf.2.1 29 = .ok (.iload_n 1, 1) := by decide +kernel
theorem d_Bs_familyOf_30 : decode M_Bs_familyOf.2.1 30 = .ok (.iload_n 3, 1) := by decide +kernel
theorem d_Bs_familyOf_31 : decode M_Bs_familyOf.2.1 31 = .ok (.invokespecial 356, 3) := by decide +kernel
theorem d_Bs_familyOf_34 : decode M_Bs_familyOf.2.1 34 = .ok (.areturn, 1) := by decide +kernel
theorem d_Bs_familyOf_35 : decode M_Bs_familyOf.2.1 35 = .ok (.iload_n 2, 1) := by decide +kernel
theorem d_Bs_familyOf_36 : decode M_Bs_familyOf.2.1 36 = .ok (.invokestatic 223, 3) := by decide +kernel
theorem d_Bs_familyOf_39 : decode M_Bs_familyOf.2.1 39 = .ok (.ifCond .eq 13, 3) := by decide +kernel
theorem d_Bs_familyOf_42 : decode M_Bs_familyOf.2.1 42 = .ok (.new 358, 3) := by decide +kernel
theorem d_Bs_familyOf_45 : decode M_Bs_familyOf.2.1 45 = .ok (.dup, 1) := by decide +kernel
theorem d_Bs_familyOf_46 : decode M_Bs_familyOf.2.1 46 = .ok (.iload_n 1, 1) := by decide +kernel
theorem d_Bs_familyOf_47 : decode M_Bs_familyOf.2.1 47 = .ok (.iload_n 3, 1) := by decide +kernel
theorem d_Bs_familyOf_48 : decode M_Bs_familyOf.2.1 48 = .ok (.invokespecial 360, 3) := by decide +kernel
theorem d_Bs_familyOf_51 : decode M_Bs_familyOf.2.1 51 = .ok (.areturn, 1) := by decide +kernel
theorem d_Bs_familyOf_52 : decode M_Bs_familyOf.2.1 52 = .ok (.iload_n 2, 1) := by decide +kernel
theorem d_Bs_familyOf_53 : decode M_Bs_familyOf.2.1 53 = .ok (.invokestatic 361, 3) := by decide +kernel
theorem d_Bs_familyOf_56 : decode M_Bs_familyOf.2.1 56 = .ok (.ifCond .eq 13, 3) := by decide +kernel
theorem d_Bs_familyOf_59 : decode M_Bs_familyOf.2.1 59 = .ok (.new 364, 3) := by decide +kernel
theorem d_Bs_familyOf_62 : decode M_Bs_familyOf.2.1 62 = .ok (.dup, 1) := by decide +kernel
theorem d_Bs_familyOf_63 : decode M_Bs_familyOf.2.1 63 = .ok (.iload_n 1, 1) := by decide +kernel
theorem d_Bs_familyOf_64 : decode M_Bs_familyOf.2.1 64 = .ok (.iload_n 3, 1) := by decide +kernel
theorem d_Bs_familyOf_65 : decode M_Bs_familyOf.2.1 65 = .ok (.invokespecial 366, 3) := by decide +kernel
theorem d_Bs_familyOf_68 : decode M_Bs_familyOf.2.1 68 = .ok (.areturn, 1) := by decide +kernel
theorem d_Bs_familyOf_69 : decode M_Bs_familyOf.2.1 69 = .ok (.new 367, 3) := by decide +kernel
theorem d_Bs_familyOf_72 : decode M_Bs_familyOf.2.1 72 = .ok (.dup, 1) := by decide +kernel
theorem d_Bs_familyOf_73 : decode M_Bs_familyOf.2.1 73 = .ok (.iload_n 1, 1) := by decide +kernel
theorem d_Bs_familyOf_74 : decode M_Bs_familyOf.2.1 74 = .ok (.iload_n 3, 1) := by decide +kernel
theorem d_Bs_familyOf_75 : decode M_Bs_familyOf.2.1 75 = .ok (.invokespecial 369, 3) := by decide +kernel
theorem d_Bs_familyOf_78 : decode M_Bs_familyOf.2.1 78 = .ok (.areturn, 1) := by decide +kernel
theorem cn_Bs_354 : CN RX11 354 RX8 4 := ⟨(lwg_at 924 (by decide +kernel) rfl), (lwg_at 925 (by decide +kernel) rfl), (lwg_at 18 (by decide +kernel) rfl)⟩
theorem mi_Se_init : MI M_Se_init 2 := ⟨(lwg_at 18 (by decide +kernel) rfl), (lwg_at 928 (by decide +kernel) rfl), ⟨by decide +kernel, by decide +kernel⟩, by decide +kernel, by decide⟩
theorem ci_Bs_356 : CI RX11 356 M_Se_init 2 := ⟨(lwg_at 926 (by decide +kernel) rfl), (lwg_at 927 (by decide +kernel) rfl), rfl, rfl, mi_Se_init⟩
theorem df_8 : ∀ j, j < 4 → defaultValue (tyX8 j) = defv (wfb 8 + j) := fun j hj => dfl ((by decide +kernel : ∀ j, j < 4 → ((isN (tyX8 j) && decide (wty (wfb 8 + j) = 0)) || (isO (tyX8 j) && !decide (wty (wfb 8 + j) = 0))) = true) j hj)
theorem cn_Bs_358 : CN RX11 358 RX2 4 := ⟨(lwg_at 952 (by decide +kernel) rfl), (lwg_at 953 (by decide +kernel) rfl), (lwg_at 17 (by decide +kernel) rfl)⟩
theorem ci_Bs_360 : CI RX11 360 M_Or_init 2 := ⟨(lwg_at 954 (by decide +kernel) rfl), (lwg_at 930 (by decide +kernel) rfl), rfl, rfl, mi_Or_init⟩
theorem df_2 : ∀ j, j < 4 → defaultValue (tyX2 j) = defv (wfb 2 + j) := fun j hj => dfl ((by decide +kernel : ∀ j, j < 4 → ((isN (tyX2 j) && decide (wty (wfb 2 + j) = 0)) || (isO (tyX2 j) && !decide (wty (wfb 2 + j) = 0))) = true) j hj)
theorem cn_Bs_364 : CN RX11 364 RX6 4 := ⟨(lwg_at 960 (by decide +kernel) rfl), (lwg_at 961 (by decide +kernel) rfl), (lwg_at 20 (by decide +kernel) rfl)⟩
theorem mi_Sp_init : MI M_Sp_init 2 := ⟨(lwg_at 20 (by decide +kernel) rfl), (lwg_at 964 (by decide +kernel) rfl), ⟨by decide +kernel, by decide +kernel⟩, by decide +kernel, by decide⟩
theorem ci_Bs_366 : CI RX11 366 M_Sp_init 2 := ⟨(lwg_at 962 (by decide +kernel) rfl), (lwg_at 963 (by decide +kernel) rfl), rfl, rfl, mi_Sp_init⟩
theorem df_6 : ∀ j, j < 4 → defaultValue (tyX6 j) = defv (wfb 6 + j) := fun j hj => dfl ((by decide +kernel : ∀ j, j < 4 → ((isN (tyX6 j) && decide (wty (wfb 6 + j) = 0)) || (isO (tyX6 j) && !decide (wty (wfb 6 + j) = 0))) = true) j hj)
theorem cn_Bs_367 : CN RX11 367 RX4 4 := ⟨(lwg_at 974 (by decide +kernel) rfl), (lwg_at 975 (by decide +kernel) rfl), (lwg_at 19 (by decide +kernel) rfl)⟩
theorem ci_Bs_369 : CI RX11 369 M_Ro_init 2 := ⟨(lwg_at 976 (by decide +kernel) rfl), (lwg_at 966 (by decide +kernel) rfl), rfl, rfl, mi_Ro_init⟩
theorem df_4 : ∀ j, j < 4 → defaultValue (tyX4 j) = defv (wfb 4 + j) := fun j hj => dfl ((by decide +kernel : ∀ j, j < 4 → ((isN (tyX4 j) && decide (wty (wfb 4 + j) = 0)) || (isO (tyX4 j) && !decide (wty (wfb 4 + j) = 0))) = true) j hj)
def F_Bs_familyOf (x1 : Int32) (δ : Dl) : Option (Nat × Dl) :=
  (F_Pr_kindOf 1 x1 δ).bind fun v5 => (F_Pr_numberOf 1 x1 δ).bind fun v14 => (bnd (F_Bs_isShell v5) fun v19 => if v19 = 0 then (bnd (F_Bs_isOrder v5) fun v36 => if v36 = 0 then (bnd (F_Bs_isSharp v5) fun v53 => if v53 = 0 then some (20, F_Fa_init 20 x1 v14 (nD δ 20 4 4)) else some (21, F_Fa_init 21 x1 v14 (nD δ 21 6 4))) else some (19, F_Fa_init 19 x1 v14 (nD δ 19 2 4))) else some (22, F_Fa_init 22 x1 v14 (nD δ 22 8 4)))
set_option maxRecDepth 40000 in
set_option maxHeartbeats 4000000 in
theorem c_Bs_familyOf {l : Launch} {Γ : Gm} (hG : GC Γ) (x1 : Int32) (δ : Dl) (hq : RQ δ) (r : Nat × Dl) (h : F_Bs_familyOf x1 δ = some r) : Ct l M_Bs_familyOf 5 2 34 NFm [.inr (0, 0), .inl x1] Γ δ (some (.inr (0, r.1)), FG Γ r.1, r.2) := by
  unfold F_Bs_familyOf at h
  obtain ⟨v5, e5, h⟩ := bd_e h
  obtain ⟨v14, e14, h⟩ := bd_e h
  refine Ct.of2 (n := 2) (ls := [some (.inr (0, 0)), some (.inl x1), none, none]) rfl (by decide +kernel) (Nat.le_of_ble_eq_true rfl) ?_
  refine x_aload_n (i := 0) d_Bs_familyOf_0 rfl rfl ?_
  refine x_getS (f := 90) (b := 1) gl_Bs_14_11 rfl kf_90 rfl (hG.ob oc_0) d_Bs_familyOf_1 ?_
  refine x_iload_n (i := 1) d_Bs_familyOf_4 rfl rfl ?_
  refine y_V1 cs_Bs_183 rfl (hG.ob oc_1) (by decide) (Nat.le_of_ble_eq_true rfl) d_Bs_familyOf_5 (c_Pr_kindOf hG 1 x1 oc_1 δ v5 e5) (by decide) (by decide) ?_
  refine x_stn (i := 2) (ls' := [some (.inr (0, 0)), some (.inl x1), some (.inl v5), none]) d_Bs_familyOf_8 rfl (by decide) rfl ?_
  refine x_aload_n (i := 0) d_Bs_familyOf_9 rfl rfl ?_
  refine x_getS (f := 90) (b := 1) gl_Bs_14_11 rfl kf_90 rfl (hG.ob oc_0) d_Bs_familyOf_10 ?_
  refine x_iload_n (i := 1) d_Bs_familyOf_13 rfl rfl ?_
  refine y_V1 cs_Bs_201 rfl (hG.ob oc_1) (by decide) (Nat.le_of_ble_eq_true rfl) d_Bs_familyOf_14 (c_Pr_numberOf hG 1 x1 oc_1 δ v14 e14) (by decide) (by decide) ?_
  refine x_stn (i := 3) (ls' := [some (.inr (0, 0)), some (.inl x1), some (.inl v5), some (.inl v14)]) d_Bs_familyOf_17 rfl (by decide) rfl ?_
  obtain ⟨v19, ev19, h⟩ := bn_e h
  refine x_iload_n (i := 2) d_Bs_familyOf_18 rfl rfl ?_
  refine y_S1 cs_Bs_351 (by decide) (Nat.le_of_ble_eq_true rfl) d_Bs_familyOf_19 (c_Bs_isShell v5 δ v19 ev19) (by decide) (by decide) ?_
  refine x_if_eq (tgt := 35) d_Bs_familyOf_22 (by decide) (fun c18 => ?_) (fun c18 => ?_)
  rotate_left
  · have h := if_f c18 h
    cases h
    refine x_nO (b := 22) (ci := 8) (Γ2 := nG Γ 22 8 4) (kb2 := 1) (sb2 := 4) (by decide) rfl tyX8_ok df_8 (gl_w inX8) cn_Bs_354 (by decide) (hq.ne (by decide)) (wsr_q (by decide)) (no5 (by decide)) ⟨Or.inl rfl, by decide⟩ (un_r (fun e => absurd e.2 (by decide)) (un_i (un_i (un_i un_nil)))) us_nil (by decide) (by decide) (by decide) (by decide) rfl d_Bs_familyOf_25 ?_
    refine x_dup d_Bs_familyOf_28 ?_
    refine x_iload_n (i := 1) d_Bs_familyOf_29 rfl rfl ?_
    refine x_iload_n (i := 3) d_Bs_familyOf_30 rfl rfl ?_
    refine y_I2 (kb2 := 2) (sb2 := 34) (Γ2 := FG Γ 22) ci_Bs_356 (by decide) (Nat.le_of_ble_eq_true rfl) d_Bs_familyOf_31 (c_Se_init_8 (Mk.new (by decide) rfl (by decide)) x1 v14 _ hq.r1) (NFm.of (by decide)) (un_r (fun e => absurd e.1 (by decide)) (un_i (un_i (un_i un_nil)))) (us_r (fun e => absurd e.1 (by decide)) us_nil) (by decide) (by decide) (by decide) (by decide) rfl ?_
    exact x_aret rfl d_Bs_familyOf_34 (by decide) (by decide)
  have h := if_t c18 h
  obtain ⟨v36, ev36, h⟩ := bn_e h
  refine x_iload_n (i := 2) d_Bs_familyOf_35 rfl rfl ?_
  refine y_S1 cs_Bs_223 (by decide) (Nat.le_of_ble_eq_true rfl) d_Bs_familyOf_36 (c_Bs_isOrder v5 δ v36 ev36) (by decide) (by decide) ?_
  refine x_if_eq (tgt := 52) d_Bs_familyOf_39 (by decide) (fun c35 => ?_) (fun c35 => ?_)
  rotate_left
  · have h := if_f c35 h
    cases h
    refine x_nO (b := 19) (ci := 2) (Γ2 := nG Γ 19 2 4) (kb2 := 1) (sb2 := 4) (by decide) rfl tyX2_ok df_2 (gl_w inX2) cn_Bs_358 (by decide) (hq.ne (by decide)) (wsr_q (by decide)) (no5 (by decide)) ⟨Or.inl rfl, by decide⟩ (un_r (fun e => absurd e.2 (by decide)) (un_i (un_i (un_i un_nil)))) us_nil (by decide) (by decide) (by decide) (by decide) rfl d_Bs_familyOf_42 ?_
    refine x_dup d_Bs_familyOf_45 ?_
    refine x_iload_n (i := 1) d_Bs_familyOf_46 rfl rfl ?_
    refine x_iload_n (i := 3) d_Bs_familyOf_47 rfl rfl ?_
    refine y_I2 (kb2 := 2) (sb2 := 34) (Γ2 := FG Γ 19) ci_Bs_360 (by decide) (Nat.le_of_ble_eq_true rfl) d_Bs_familyOf_48 (c_Or_init_2 (Mk.new (by decide) rfl (by decide)) x1 v14 _ hq.r1) (NFm.of (by decide)) (un_r (fun e => absurd e.1 (by decide)) (un_i (un_i (un_i un_nil)))) (us_r (fun e => absurd e.1 (by decide)) us_nil) (by decide) (by decide) (by decide) (by decide) rfl ?_
    exact x_aret rfl d_Bs_familyOf_51 (by decide) (by decide)
  have h := if_t c35 h
  obtain ⟨v53, ev53, h⟩ := bn_e h
  refine x_iload_n (i := 2) d_Bs_familyOf_52 rfl rfl ?_
  refine y_S1 cs_Bs_361 (by decide) (Nat.le_of_ble_eq_true rfl) d_Bs_familyOf_53 (c_Bs_isSharp v5 δ v53 ev53) (by decide) (by decide) ?_
  refine x_if_eq (tgt := 69) d_Bs_familyOf_56 (by decide) (fun c52 => ?_) (fun c52 => ?_)
  rotate_left
  · have h := if_f c52 h
    cases h
    refine x_nO (b := 21) (ci := 6) (Γ2 := nG Γ 21 6 4) (kb2 := 1) (sb2 := 4) (by decide) rfl tyX6_ok df_6 (gl_w inX6) cn_Bs_364 (by decide) (hq.ne (by decide)) (wsr_q (by decide)) (no5 (by decide)) ⟨Or.inl rfl, by decide⟩ (un_r (fun e => absurd e.2 (by decide)) (un_i (un_i (un_i un_nil)))) us_nil (by decide) (by decide) (by decide) (by decide) rfl d_Bs_familyOf_59 ?_
    refine x_dup d_Bs_familyOf_62 ?_
    refine x_iload_n (i := 1) d_Bs_familyOf_63 rfl rfl ?_
    refine x_iload_n (i := 3) d_Bs_familyOf_64 rfl rfl ?_
    refine y_I2 (kb2 := 2) (sb2 := 34) (Γ2 := FG Γ 21) ci_Bs_366 (by decide) (Nat.le_of_ble_eq_true rfl) d_Bs_familyOf_65 (c_Sp_init_6 (Mk.new (by decide) rfl (by decide)) x1 v14 _ hq.r1) (NFm.of (by decide)) (un_r (fun e => absurd e.1 (by decide)) (un_i (un_i (un_i un_nil)))) (us_r (fun e => absurd e.1 (by decide)) us_nil) (by decide) (by decide) (by decide) (by decide) rfl ?_
    exact x_aret rfl d_Bs_familyOf_68 (by decide) (by decide)
  have h := if_t c52 h
  cases h
  refine x_nO (b := 20) (ci := 4) (Γ2 := nG Γ 20 4 4) (kb2 := 1) (sb2 := 4) (by decide) rfl tyX4_ok df_4 (gl_w inX4) cn_Bs_367 (by decide) (hq.ne (by decide)) (wsr_q (by decide)) (no5 (by decide)) ⟨Or.inl rfl, by decide⟩ (un_r (fun e => absurd e.2 (by decide)) (un_i (un_i (un_i un_nil)))) us_nil (by decide) (by decide) (by decide) (by decide) rfl d_Bs_familyOf_69 ?_
  refine x_dup d_Bs_familyOf_72 ?_
  refine x_iload_n (i := 1) d_Bs_familyOf_73 rfl rfl ?_
  refine x_iload_n (i := 3) d_Bs_familyOf_74 rfl rfl ?_
  refine y_I2 (kb2 := 2) (sb2 := 34) (Γ2 := FG Γ 20) ci_Bs_369 (by decide) (Nat.le_of_ble_eq_true rfl) d_Bs_familyOf_75 (c_Ro_init_4 (Mk.new (by decide) rfl (by decide)) x1 v14 _ hq.r1) (NFm.of (by decide)) (un_r (fun e => absurd e.1 (by decide)) (un_i (un_i (un_i un_nil)))) (us_r (fun e => absurd e.1 (by decide)) us_nil) (by decide) (by decide) (by decide) (by decide) rfl ?_
  exact x_aret rfl d_Bs_familyOf_78 (by decide) (by decide)
theorem fam_in {x1 : Int32} {δ : Dl} {r : Nat × Dl} (h : F_Bs_familyOf x1 δ = some r) : r.1 = 19 ∨ r.1 = 20 ∨ r.1 = 21 ∨ r.1 = 22 := by
  unfold F_Bs_familyOf at h
  obtain ⟨v5, e5, h⟩ := bd_e h
  obtain ⟨v14, e14, h⟩ := bd_e h
  simp only [bnd] at h
  repeat' split at h
  all_goals (cases h; simp)
theorem d_Bs_act_0 : decode M_Bs_act.2.1 0 = .ok (.aload_n 0, 1) := by decide +kernel
theorem d_Bs_act_1 : decode M_Bs_act.2.1 1 = .ok (.aconst_null, 1) := by decide +kernel
theorem d_Bs_act_2 : decode M_Bs_act.2.1 2 = .ok (.putfield 75, 3) := by decide +kernel
theorem d_Bs_act_5 : decode M_Bs_act.2.1 5 = .ok (.aload_n 0, 1) := by decide +kernel
theorem d_Bs_act_6 : decode M_Bs_act.2.1 6 = .ok (.getfield 14, 3) := by decide +kernel
theorem d_Bs_act_9 : decode M_Bs_act.2.1 9 = .ok (.iload_n 1, 1) := by decide +kernel
theorem d_Bs_act_10 : decode M_Bs_act.2.1 10 = .ok (.invokevirtual 171, 3) := by decide +kernel
theorem d_Bs_act_13 : decode M_Bs_act.2.1 13 = .ok (.ifCond .eq 12, 3) := by decide +kernel
theorem d_Bs_act_16 : decode M_Bs_act.2.1 16 = .ok (.iload_n 2, 1) := by decide +kernel
theorem d_Bs_act_17 : decode M_Bs_act.2.1 17 = .ok (.ifCond .lt 8, 3) := by decide +kernel
theorem d_Bs_act_20 : decode M_Bs_act.2.1 20 = .ok (.iload_n 2, 1) := by decide +kernel
theorem d_Bs_act_21 : decode M_Bs_act.2.1 21 = .ok (.iconst 2, 1) := by decide +kernel
theorem d_Bs_act_22 : decode M_Bs_act.2.1 22 = .ok (.if_icmp .le 5, 3) := by decide +kernel
theorem d_Bs_act_25 : decode M_Bs_act.2.1 25 = .ok (.iconst 0, 1) := by decide +kernel
theorem d_Bs_act_26 : decode M_Bs_act.2.1 26 = .ok (.ireturn, 1) := by decide +kernel
theorem d_Bs_act_27 : decode M_Bs_act.2.1 27 = .ok (.aload_n 0, 1) := by decide +kernel
theorem d_Bs_act_28 : decode M_Bs_act.2.1 28 = .ok (.iload_n 1, 1) := by decide +kernel
theorem d_Bs_act_29 : decode M_Bs_act.2.1 29 = .ok (.invokevirtual 320, 3) := by decide +kernel
theorem d_Bs_act_32 : decode M_Bs_act.2.1 32 = .ok (.astore 4, 2) := by decide +kernel
theorem d_Bs_act_34 : decode M_Bs_act.2.1 34 = .ok (.aload_n 0, 1) := by decide +kernel
theorem d_Bs_act_35 : decode M_Bs_act.2.1 35 = .ok (.aload 4, 2) := by decide +kernel
theorem d_Bs_act_37 : decode M_Bs_act.2.1 37 = .ok (.putfield 75, 3) := by decide +kernel
theorem d_Bs_act_40 : decode M_Bs_act.2.1 40 = .ok (.iload_n 2, 1) := by decide +kernel
theorem d_Bs_act_41 : decode M_Bs_act.2.1 41 = .ok (.ifCond .ne 10, 3) := by decide +kernel
theorem d_Bs_act_44 : decode M_Bs_act.2.1 44 = .ok (.aload 4, 2) := by decide +kernel
theorem d_Bs_act_46 : decode M_Bs_act.2.1 46 = .ok (.iload_n 3, 1) := by decide +kernel
theorem d_Bs_act_47 : decode M_Bs_act.2.1 47 = .ok (.invokevirtual 324, 3) := by decide +kernel
theorem d_Bs_act_50 : decode M_Bs_act.2.1 50 = .ok (.ireturn, 1) := by decide +kernel
theorem d_Bs_act_51 : decode M_Bs_act.2.1 51 = .ok (.iload_n 2, 1) := by decide +kernel
theorem d_Bs_act_52 : decode M_Bs_act.2.1 52 = .ok (.iconst 1, 1) := by decide +kernel
theorem d_Bs_act_53 : decode M_Bs_act.2.1 53 = .ok (.if_icmp .ne 12, 3) := by decide +kernel
theorem d_Bs_act_56 : decode M_Bs_act.2.1 56 = .ok (.aload 4, 2) := by decide +kernel
theorem d_Bs_act_58 : decode M_Bs_act.2.1 58 = .ok (.iload_n 3, 1) := by decide +kernel
theorem d_Bs_act_59 : decode M_Bs_act.2.1 59 = .ok (.invokevirtual 329, 3) := by decide +kernel
theorem d_Bs_act_62 : decode M_Bs_act.2.1 62 = .ok (.goto 9, 3) := by decide +kernel
theorem d_Bs_act_65 : decode M_Bs_act.2.1 65 = .ok (.aload 4, 2) := by decide +kernel
theorem d_Bs_act_67 : decode M_Bs_act.2.1 67 = .ok (.iload_n 3, 1) := by decide +kernel
theorem d_Bs_act_68 : decode M_Bs_act.2.1 68 = .ok (.invokevirtual 332, 3) := by decide +kernel
theorem d_Bs_act_71 : decode M_Bs_act.2.1 71 = .ok (.ireturn, 1) := by decide +kernel
def F_fam (q : Nat) (x2 x3 : Int32) (δ : Dl) : Option (Int32 × Dl) := if q = 19 then (if x2 = 0 then F_Or_runs_2 19 x3 δ else if x2 = 1 then F_Fa_costs_2 19 x3 δ else F_Fa_tells_2 19 x3 δ) else if q = 20 then (if x2 = 0 then F_Fa_runs_4 20 x3 δ else if x2 = 1 then F_Ro_costs_4 20 x3 δ else F_Fa_tells_4 20 x3 δ) else if q = 21 then (if x2 = 0 then F_Sp_runs_6 21 x3 δ else if x2 = 1 then F_Ro_costs_6 21 x3 δ else F_Sp_tells_6 21 x3 δ) else (if x2 = 0 then F_Or_runs_8 22 x3 δ else if x2 = 1 then F_Se_costs_8 22 x3 δ else F_Se_tells_8 22 x3 δ)
def F_Bs_act (x1 x2 x3 : Int32) (δ : Dl) : Option (Int32 × Nat × Dl) :=
  bnd (sR δ 102 0 (1, 0)) fun δ2 => bnd (F_Pr_isBlock 1 x1 δ2) fun v10 => if v10 = 0 then some (0, 0, δ2) else if x2 < 0 then some (0, 0, δ2) else if x2 ≤ 2 then (bd2 (F_Bs_familyOf x1 δ2) fun q δ29 => bnd (sR δ29 102 0 (0, q)) fun δ37 => bd2 (F_fam q x2 x3 δ37) fun v δ4 => some (v, q, δ4)) else some (0, 0, δ2)
theorem mi_Bs_familyOf : MI M_Bs_familyOf 1 := ⟨(lwg_at 1 (by decide +kernel) rfl), (lwg_at 922 (by decide +kernel) rfl), ⟨by decide +kernel, by decide +kernel⟩, by decide +kernel, by decide⟩
theorem cs_Bs_320 : CV RX11 320 RX11 M_Bs_familyOf 1 := ⟨(lwg_at 919 (by decide +kernel) rfl), (lwg_at 921 (by decide +kernel) rfl), (lwg_priv 26 (y := M_Bs_familyOf.1) (n := 18) (by decide +kernel)), mi_Bs_familyOf⟩
theorem cu_Bs_324_2 : CU RX11 324 RX2 RX1 ⟨RX1, "runs", "(I)I"⟩ M_Or_runs 1 := ⟨(lwg_at 982 (by decide +kernel) rfl), (lwg_at 984 (by decide +kernel) rfl), (lwg_at 985 (by decide +kernel) rfl), (lwg_at 986 (by decide +kernel) rfl), Or.inr ⟨(lwg_at 983 (by decide +kernel) rfl), prog_3_method_4_code, 2, (Option.some FieldType.int), (lwg_at 1007 (by decide +kernel) rfl)⟩, ⟨by decide +kernel, by decide +kernel⟩, by decide +kernel, mi_Or_runs⟩
theorem cu_Bs_329_2 : CU RX11 329 RX2 RX1 ⟨RX1, "costs", "(I)I"⟩ M_Fa_costs 1 := ⟨(lwg_at 1009 (by decide +kernel) rfl), (lwg_at 1011 (by decide +kernel) rfl), (lwg_at 1012 (by decide +kernel) rfl), (lwg_at 1010 (by decide +kernel) rfl), Or.inl rfl, ⟨by decide +kernel, by decide +kernel⟩, by decide +kernel, mi_Fa_costs⟩
theorem cu_Bs_332_2 : CU RX11 332 RX2 RX1 ⟨RX1, "tells", "(I)I"⟩ M_Fa_tells 1 := ⟨(lwg_at 1033 (by decide +kernel) rfl), (lwg_at 1035 (by decide +kernel) rfl), (lwg_at 1036 (by decide +kernel) rfl), (lwg_at 1034 (by decide +kernel) rfl), Or.inl rfl, ⟨by decide +kernel, by decide +kernel⟩, by decide +kernel, mi_Fa_tells⟩
theorem cu_Bs_324_4 : CU RX11 324 RX4 RX1 ⟨RX1, "runs", "(I)I"⟩ M_Fa_runs 1 := ⟨(lwg_at 982 (by decide +kernel) rfl), (lwg_at 984 (by decide +kernel) rfl), (lwg_at 996 (by decide +kernel) rfl), (lwg_at 983 (by decide +kernel) rfl), Or.inl rfl, ⟨by decide +kernel, by decide +kernel⟩, by decide +kernel, mi_Fa_runs⟩
theorem cu_Bs_329_4 : CU RX11 329 RX4 RX1 ⟨RX1, "costs", "(I)I"⟩ M_Ro_costs 1 := ⟨(lwg_at 1009 (by decide +kernel) rfl), (lwg_at 1011 (by decide +kernel) rfl), (lwg_at 1013 (by decide +kernel) rfl), (lwg_at 1014 (by decide +kernel) rfl), Or.inr ⟨(lwg_at 1010 (by decide +kernel) rfl), prog_3_method_5_code, 2, (Option.some FieldType.int), (lwg_at 1031 (by decide +kernel) rfl)⟩, ⟨by decide +kernel, by decide +kernel⟩, by decide +kernel, mi_Ro_costs⟩
theorem cu_Bs_332_4 : CU RX11 332 RX4 RX1 ⟨RX1, "tells", "(I)I"⟩ M_Fa_tells 1 := ⟨(lwg_at 1033 (by decide +kernel) rfl), (lwg_at 1035 (by decide +kernel) rfl), (lwg_at 1037 (by decide +kernel) rfl), (lwg_at 1034 (by decide +kernel) rfl), Or.inl rfl, ⟨by decide +kernel, by decide +kernel⟩, by decide +kernel, mi_Fa_tells⟩
theorem cu_Bs_324_6 : CU RX11 324 RX6 RX1 ⟨RX1, "runs", "(I)I"⟩ M_Sp_runs 1 := ⟨(lwg_at 982 (by decide +kernel) rfl), (lwg_at 984 (by decide +kernel) rfl), (lwg_at 997 (by decide +kernel) rfl), (lwg_at 998 (by decide +kernel) rfl), Or.inr ⟨(lwg_at 983 (by decide +kernel) rfl), prog_3_method_4_code, 2, (Option.some FieldType.int), (lwg_at 1007 (by decide +kernel) rfl)⟩, ⟨by decide +kernel, by decide +kernel⟩, by decide +kernel, mi_Sp_runs⟩
theorem cu_Bs_329_6 : CU RX11 329 RX6 RX1 ⟨RX1, "costs", "(I)I"⟩ M_Ro_costs 1 := ⟨(lwg_at 1009 (by decide +kernel) rfl), (lwg_at 1011 (by decide +kernel) rfl), (lwg_at 1021 (by decide +kernel) rfl), (lwg_at 1014 (by decide +kernel) rfl), Or.inr ⟨(lwg_at 1010 (by decide +kernel) rfl), prog_3_method_5_code, 2, (Option.some FieldType.int), (lwg_at 1031 (by decide +kernel) rfl)⟩, ⟨by decide +kernel, by decide +kernel⟩, by decide +kernel, mi_Ro_costs⟩
theorem mi_Sp_tells : MI M_Sp_tells 1 := ⟨(lwg_at 20 (by decide +kernel) rfl), (lwg_at 1040 (by decide +kernel) rfl), ⟨by decide +kernel, by decide +kernel⟩, by decide +kernel, by decide⟩
theorem cu_Bs_332_6 : CU RX11 332 RX6 RX1 ⟨RX1, "tells", "(I)I"⟩ M_Sp_tells 1 := ⟨(lwg_at 1033 (by decide +kernel) rfl), (lwg_at 1035 (by decide +kernel) rfl), (lwg_at 1038 (by decide +kernel) rfl), (lwg_at 1039 (by decide +kernel) rfl), Or.inr ⟨(lwg_at 1034 (by decide +kernel) rfl), prog_3_method_6_code, 2, (Option.some FieldType.int), (lwg_at 1053 (by decide +kernel) rfl)⟩, ⟨by decide +kernel, by decide +kernel⟩, by decide +kernel, mi_Sp_tells⟩
theorem cu_Bs_324_8 : CU RX11 324 RX8 RX1 ⟨RX1, "runs", "(I)I"⟩ M_Or_runs 1 := ⟨(lwg_at 982 (by decide +kernel) rfl), (lwg_at 984 (by decide +kernel) rfl), (lwg_at 1006 (by decide +kernel) rfl), (lwg_at 986 (by decide +kernel) rfl), Or.inr ⟨(lwg_at 983 (by decide +kernel) rfl), prog_3_method_4_code, 2, (Option.some FieldType.int), (lwg_at 1007 (by decide +kernel) rfl)⟩, ⟨by decide +kernel, by decide +kernel⟩, by decide +kernel, mi_Or_runs⟩
theorem cu_Bs_329_8 : CU RX11 329 RX8 RX1 ⟨RX1, "costs", "(I)I"⟩ M_Se_costs 1 := ⟨(lwg_at 1009 (by decide +kernel) rfl), (lwg_at 1011 (by decide +kernel) rfl), (lwg_at 1022 (by decide +kernel) rfl), (lwg_at 1023 (by decide +kernel) rfl), Or.inr ⟨(lwg_at 1010 (by decide +kernel) rfl), prog_3_method_5_code, 2, (Option.some FieldType.int), (lwg_at 1031 (by decide +kernel) rfl)⟩, ⟨by decide +kernel, by decide +kernel⟩, by decide +kernel, mi_Se_costs⟩
theorem mi_Se_tells : MI M_Se_tells 1 := ⟨(lwg_at 18 (by decide +kernel) rfl), (lwg_at 1050 (by decide +kernel) rfl), ⟨by decide +kernel, by decide +kernel⟩, by decide +kernel, by decide⟩
theorem cu_Bs_332_8 : CU RX11 332 RX8 RX1 ⟨RX1, "tells", "(I)I"⟩ M_Se_tells 1 := ⟨(lwg_at 1033 (by decide +kernel) rfl), (lwg_at 1035 (by decide +kernel) rfl), (lwg_at 1048 (by decide +kernel) rfl), (lwg_at 1049 (by decide +kernel) rfl), Or.inr ⟨(lwg_at 1034 (by decide +kernel) rfl), prog_3_method_6_code, 2, (Option.some FieldType.int), (lwg_at 1053 (by decide +kernel) rfl)⟩, ⟨by decide +kernel, by decide +kernel⟩, by decide +kernel, mi_Se_tells⟩
set_option maxRecDepth 40000 in
set_option maxHeartbeats 4000000 in
theorem c_Bs_act {l : Launch} {Γ : Gm} (hG : GC Γ) (x1 x2 x3 : Int32) (δ : Dl) (hx : RX δ) (r : Int32 × Nat × Dl) (h : F_Bs_act x1 x2 x3 δ = some r) : Ct l M_Bs_act 8 2 34 NFm [.inr (0, 0), .inl x1, .inl x2, .inl x3] Γ δ (some (.inl r.1), FGo Γ r.2.1, r.2.2) := by
  unfold F_Bs_act at h
  refine Ct.of2 (n := 1) (ls := [some (.inr (0, 0)), some (.inl x1), some (.inl x2), some (.inl x3), none]) rfl (by decide +kernel) (Nat.le_of_ble_eq_true rfl) ?_
  obtain ⟨δ2, e2, h⟩ := bn_e h
  subst e2
  obtain ⟨v10, e10, h⟩ := bn_e h
  refine x_aload_n (i := 0) d_Bs_act_0 rfl rfl ?_
  refine x_null d_Bs_act_1 ?_
  refine x_putR gp_Bs_75_11 rfl (by decide) (by decide) (hG.ob oc_0).z d_Bs_act_2 ?_
  refine x_aload_n (i := 0) d_Bs_act_5 rfl rfl ?_
  refine x_getS (f := 90) (b := 1) gl_Bs_14_11 rfl kf_90 rfl (hG.ob oc_0) d_Bs_act_6 ?_
  refine x_iload_n (i := 1) d_Bs_act_9 rfl rfl ?_
  refine y_V1 cs_Bs_171 rfl (hG.ob oc_1) (by decide) (Nat.le_of_ble_eq_true rfl) d_Bs_act_10 (c_Pr_isBlock hG 1 x1 oc_1 _ v10 e10) (by decide) (by decide) ?_
  refine x_if_eq (tgt := 25) d_Bs_act_13 (by decide) (fun c => ?_) (fun c => ?_)
  · have h := if_t c h
    cases h
    refine x_ic (v := 0) d_Bs_act_25 (by decide) ?_
    exact x_iret rfl d_Bs_act_26 (by decide) (by decide)
  have h := if_f c h
  refine x_iload_n (i := 2) d_Bs_act_16 rfl rfl ?_
  refine x_if_lt (tgt := 25) d_Bs_act_17 (by decide) (fun c => ?_) (fun c => ?_)
  · have h := if_t c h
    cases h
    refine x_ic (v := 0) d_Bs_act_25 (by decide) ?_
    exact x_iret rfl d_Bs_act_26 (by decide) (by decide)
  have h := if_f c h
  refine x_iload_n (i := 2) d_Bs_act_20 rfl rfl ?_
  refine x_ic (v := 2) d_Bs_act_21 (by decide) ?_
  refine x_cmp_le (tgt := 27) d_Bs_act_22 (by decide) (fun c => ?_) (fun c => ?_)
  rotate_left
  · have h := if_f c h
    cases h
    refine x_ic (v := 0) d_Bs_act_25 (by decide) ?_
    exact x_iret rfl d_Bs_act_26 (by decide) (by decide)
  have h := if_t c h
  obtain ⟨q, δ29, e29, h⟩ := bd2_e h
  obtain ⟨δ37, e37, h⟩ := bn_e h
  subst e37
  obtain ⟨v, δ4, e, h⟩ := bd2_e h
  cases h
  refine x_aload_n (i := 0) d_Bs_act_27 rfl rfl ?_
  refine x_iload_n (i := 1) d_Bs_act_28 rfl rfl ?_
  refine y_W1 (kb2 := 2) (sb2 := 34) cs_Bs_320 rfl (hG.ob oc_0) (by decide) (Nat.le_of_ble_eq_true rfl) d_Bs_act_29 (c_Bs_familyOf hG x1 _ hx.q _ e29) NFm.ok (un_r (fun e => absurd e.2 (by decide)) (un_i (un_i (un_i (un_n un_nil))))) us_nil (by decide) (by decide) (by decide) (by decide) ?_
  have hin := fam_in e29
  simp only at hin
  refine x_asw (i := 4) (ls' := [some (.inr (0, 0)), some (.inl x1), some (.inl x2), some (.inl x3), some (.inr (0, q))]) d_Bs_act_32 (by decide) rfl ?_
  refine x_aload_n (i := 0) d_Bs_act_34 rfl rfl ?_
  refine x_aload (i := 4) d_Bs_act_35 rfl ?_
  refine x_putR gp_Bs_75_11 rfl (by decide) (by decide) (ob_FG (hG.ob oc_0) (by omega)).z d_Bs_act_37 ?_
  refine x_iload_n (i := 2) d_Bs_act_40 rfl rfl ?_
  rcases hin with rfl | rfl | rfl | rfl
  · have e : (if x2 = 0 then F_Or_runs_2 19 x3 (sR δ29 102 0 (0, 19)) else if x2 = 1 then F_Fa_costs_2 19 x3 (sR δ29 102 0 (0, 19)) else F_Fa_tells_2 19 x3 (sR δ29 102 0 (0, 19))) = some (v, δ4) := e
    refine x_if_ne (tgt := 51) d_Bs_act_41 (by decide) (fun c => ?_) (fun c => ?_)
    rotate_left
    · have e := if_t c e
      refine x_aload (i := 4) d_Bs_act_44 rfl ?_
      refine x_iload_n (i := 3) d_Bs_act_46 rfl rfl ?_
      refine y_U1 cu_Bs_324_2 rfl ob_fam19 (by decide) (Nat.le_of_ble_eq_true rfl) d_Bs_act_47 (c_Or_runs_2 ob_fam19 x3 _ _ e) (by decide) (by decide) ?_
      exact x_iret rfl d_Bs_act_50 (by decide) (by decide)
    have e := if_f c e
    refine x_iload_n (i := 2) d_Bs_act_51 rfl rfl ?_
    refine x_ic (v := 1) d_Bs_act_52 (by decide) ?_
    refine x_cmp_ne (tgt := 65) d_Bs_act_53 (by decide) (fun c => ?_) (fun c => ?_)
    rotate_left
    · have e := if_t c e
      refine x_aload (i := 4) d_Bs_act_56 rfl ?_
      refine x_iload_n (i := 3) d_Bs_act_58 rfl rfl ?_
      refine y_U1 cu_Bs_329_2 rfl ob_fam19 (by decide) (Nat.le_of_ble_eq_true rfl) d_Bs_act_59 (c_Fa_costs_2 ob_fam19 x3 _ _ e) (by decide) (by decide) ?_
      refine x_goto (tgt := 71) d_Bs_act_62 (by decide) ?_
      exact x_iret rfl d_Bs_act_71 (by decide) (by decide)
    have e := if_f c e
    refine x_aload (i := 4) d_Bs_act_65 rfl ?_
    refine x_iload_n (i := 3) d_Bs_act_67 rfl rfl ?_
    refine y_U1 cu_Bs_332_2 rfl ob_fam19 (by decide) (Nat.le_of_ble_eq_true rfl) d_Bs_act_68 (c_Fa_tells_2 ob_fam19 x3 _ _ e) (by decide) (by decide) ?_
    exact x_iret rfl d_Bs_act_71 (by decide) (by decide)
  · have e : (if x2 = 0 then F_Fa_runs_4 20 x3 (sR δ29 102 0 (0, 20)) else if x2 = 1 then F_Ro_costs_4 20 x3 (sR δ29 102 0 (0, 20)) else F_Fa_tells_4 20 x3 (sR δ29 102 0 (0, 20))) = some (v, δ4) := e
    refine x_if_ne (tgt := 51) d_Bs_act_41 (by decide) (fun c => ?_) (fun c => ?_)
    rotate_left
    · have e := if_t c e
      refine x_aload (i := 4) d_Bs_act_44 rfl ?_
      refine x_iload_n (i := 3) d_Bs_act_46 rfl rfl ?_
      refine y_U1 cu_Bs_324_4 rfl ob_fam20 (by decide) (Nat.le_of_ble_eq_true rfl) d_Bs_act_47 (c_Fa_runs_4 ob_fam20 x3 _ _ e) (by decide) (by decide) ?_
      exact x_iret rfl d_Bs_act_50 (by decide) (by decide)
    have e := if_f c e
    refine x_iload_n (i := 2) d_Bs_act_51 rfl rfl ?_
    refine x_ic (v := 1) d_Bs_act_52 (by decide) ?_
    refine x_cmp_ne (tgt := 65) d_Bs_act_53 (by decide) (fun c => ?_) (fun c => ?_)
    rotate_left
    · have e := if_t c e
      refine x_aload (i := 4) d_Bs_act_56 rfl ?_
      refine x_iload_n (i := 3) d_Bs_act_58 rfl rfl ?_
      refine y_U1 cu_Bs_329_4 rfl ob_fam20 (by decide) (Nat.le_of_ble_eq_true rfl) d_Bs_act_59 (c_Ro_costs_4 ob_fam20 x3 _ _ e) (by decide) (by decide) ?_
      refine x_goto (tgt := 71) d_Bs_act_62 (by decide) ?_
      exact x_iret rfl d_Bs_act_71 (by decide) (by decide)
    have e := if_f c e
    refine x_aload (i := 4) d_Bs_act_65 rfl ?_
    refine x_iload_n (i := 3) d_Bs_act_67 rfl rfl ?_
    refine y_U1 cu_Bs_332_4 rfl ob_fam20 (by decide) (Nat.le_of_ble_eq_true rfl) d_Bs_act_68 (c_Fa_tells_4 ob_fam20 x3 _ _ e) (by decide) (by decide) ?_
    exact x_iret rfl d_Bs_act_71 (by decide) (by decide)
  · have e : (if x2 = 0 then F_Sp_runs_6 21 x3 (sR δ29 102 0 (0, 21)) else if x2 = 1 then F_Ro_costs_6 21 x3 (sR δ29 102 0 (0, 21)) else F_Sp_tells_6 21 x3 (sR δ29 102 0 (0, 21))) = some (v, δ4) := e
    refine x_if_ne (tgt := 51) d_Bs_act_41 (by decide) (fun c => ?_) (fun c => ?_)
    rotate_left
    · have e := if_t c e
      refine x_aload (i := 4) d_Bs_act_44 rfl ?_
      refine x_iload_n (i := 3) d_Bs_act_46 rfl rfl ?_
      refine y_U1 cu_Bs_324_6 rfl ob_fam21 (by decide) (Nat.le_of_ble_eq_true rfl) d_Bs_act_47 (c_Sp_runs_6 ob_fam21 x3 _ _ e) (by decide) (by decide) ?_
      exact x_iret rfl d_Bs_act_50 (by decide) (by decide)
    have e := if_f c e
    refine x_iload_n (i := 2) d_Bs_act_51 rfl rfl ?_
    refine x_ic (v := 1) d_Bs_act_52 (by decide) ?_
    refine x_cmp_ne (tgt := 65) d_Bs_act_53 (by decide) (fun c => ?_) (fun c => ?_)
    rotate_left
    · have e := if_t c e
      refine x_aload (i := 4) d_Bs_act_56 rfl ?_
      refine x_iload_n (i := 3) d_Bs_act_58 rfl rfl ?_
      refine y_U1 cu_Bs_329_6 rfl ob_fam21 (by decide) (Nat.le_of_ble_eq_true rfl) d_Bs_act_59 (c_Ro_costs_6 ob_fam21 x3 _ _ e) (by decide) (by decide) ?_
      refine x_goto (tgt := 71) d_Bs_act_62 (by decide) ?_
      exact x_iret rfl d_Bs_act_71 (by decide) (by decide)
    have e := if_f c e
    refine x_aload (i := 4) d_Bs_act_65 rfl ?_
    refine x_iload_n (i := 3) d_Bs_act_67 rfl rfl ?_
    refine y_U1 cu_Bs_332_6 rfl ob_fam21 (by decide) (Nat.le_of_ble_eq_true rfl) d_Bs_act_68 (c_Sp_tells_6 ob_fam21 x3 _ _ e) (by decide) (by decide) ?_
    exact x_iret rfl d_Bs_act_71 (by decide) (by decide)
  · have e : (if x2 = 0 then F_Or_runs_8 22 x3 (sR δ29 102 0 (0, 22)) else if x2 = 1 then F_Se_costs_8 22 x3 (sR δ29 102 0 (0, 22)) else F_Se_tells_8 22 x3 (sR δ29 102 0 (0, 22))) = some (v, δ4) := e
    refine x_if_ne (tgt := 51) d_Bs_act_41 (by decide) (fun c => ?_) (fun c => ?_)
    rotate_left
    · have e := if_t c e
      refine x_aload (i := 4) d_Bs_act_44 rfl ?_
      refine x_iload_n (i := 3) d_Bs_act_46 rfl rfl ?_
      refine y_U1 cu_Bs_324_8 rfl ob_fam22 (by decide) (Nat.le_of_ble_eq_true rfl) d_Bs_act_47 (c_Or_runs_8 ob_fam22 x3 _ _ e) (by decide) (by decide) ?_
      exact x_iret rfl d_Bs_act_50 (by decide) (by decide)
    have e := if_f c e
    refine x_iload_n (i := 2) d_Bs_act_51 rfl rfl ?_
    refine x_ic (v := 1) d_Bs_act_52 (by decide) ?_
    refine x_cmp_ne (tgt := 65) d_Bs_act_53 (by decide) (fun c => ?_) (fun c => ?_)
    rotate_left
    · have e := if_t c e
      refine x_aload (i := 4) d_Bs_act_56 rfl ?_
      refine x_iload_n (i := 3) d_Bs_act_58 rfl rfl ?_
      refine y_U1 cu_Bs_329_8 rfl ob_fam22 (by decide) (Nat.le_of_ble_eq_true rfl) d_Bs_act_59 (c_Se_costs_8 ob_fam22 x3 _ _ e) (by decide) (by decide) ?_
      refine x_goto (tgt := 71) d_Bs_act_62 (by decide) ?_
      exact x_iret rfl d_Bs_act_71 (by decide) (by decide)
    have e := if_f c e
    refine x_aload (i := 4) d_Bs_act_65 rfl ?_
    refine x_iload_n (i := 3) d_Bs_act_67 rfl rfl ?_
    refine y_U1 cu_Bs_332_8 rfl ob_fam22 (by decide) (Nat.le_of_ble_eq_true rfl) d_Bs_act_68 (c_Se_tells_8 ob_fam22 x3 _ _ e) (by decide) (by decide) ?_
    exact x_iret rfl d_Bs_act_71 (by decide) (by decide)
theorem d_Bs_trace_0 : decode M_Bs_trace.2.1 0 = .ok (.aload_n 0, 1) := by decide +kernel
theorem d_Bs_trace_1 : decode M_Bs_trace.2.1 1 = .ok (.getfield 75, 3) := by decide +kernel
theorem d_Bs_trace_4 : decode M_Bs_trace.2.1 4 = .ok (.ifnonnull 7, 3) := by decide +kernel
theorem d_Bs_trace_7 : decode M_Bs_trace.2.1 7 = .ok (.iconst (-1), 1) := by decide +kernel
theorem d_Bs_trace_8 : decode M_Bs_trace.2.1 8 = .ok (.goto 11, 3) := by decide +kernel
theorem d_Bs_trace_11 : decode M_Bs_trace.2.1 11 = .ok (.aload_n 0, 1) := by decide +kernel
theorem d_Bs_trace_12 : decode M_Bs_trace.2.1 12 = .ok (.getfield 75, 3) := by decide +kernel
theorem d_Bs_trace_15 : decode M_Bs_trace.2.1 15 = .ok (.iload_n 1, 1) := by decide +kernel
theorem d_Bs_trace_16 : decode M_Bs_trace.2.1 16 = .ok (.invokevirtual 335, 3) := by decide +kernel
theorem d_Bs_trace_19 : decode M_Bs_trace.2.1 19 = .ok (.ireturn, 1) := by decide +kernel
def F_Bs_trace (x1 : Int32) (δ : Dl) : Option Int32 := if (δ.2.2 102 0).1 = 1 then some (-1) else F_Fa_bodyAt_2 (δ.2.2 102 0).2 x1 δ
theorem gl_Bs_75_11 : GL RX11 75 11 12 := ⟨RX11, TX11, 18, RX11, rfl, by decide, (lwg_at 247 (by decide +kernel) rfl), Or.inl rfl, gl_w inX11⟩
theorem mi_Fa_bodyAt : MI M_Fa_bodyAt 1 := ⟨(lwg_at 16 (by decide +kernel) rfl), (lwg_at 1066 (by decide +kernel) rfl), ⟨by decide +kernel, by decide +kernel⟩, by decide +kernel, by decide⟩
theorem cu_Bs_335_2 : CU RX11 335 RX2 RX1 ⟨RX1, "bodyAt", "(I)I"⟩ M_Fa_bodyAt 1 := ⟨(lwg_at 1059 (by decide +kernel) rfl), (lwg_at 1061 (by decide +kernel) rfl), (lwg_at 1062 (by decide +kernel) rfl), (lwg_at 1060 (by decide +kernel) rfl), Or.inl rfl, ⟨by decide +kernel, by decide +kernel⟩, by decide +kernel, mi_Fa_bodyAt⟩
theorem cu_Bs_335_4 : CU RX11 335 RX4 RX1 ⟨RX1, "bodyAt", "(I)I"⟩ M_Fa_bodyAt 1 := ⟨(lwg_at 1059 (by decide +kernel) rfl), (lwg_at 1061 (by decide +kernel) rfl), (lwg_at 1063 (by decide +kernel) rfl), (lwg_at 1060 (by decide +kernel) rfl), Or.inl rfl, ⟨by decide +kernel, by decide +kernel⟩, by decide +kernel, mi_Fa_bodyAt⟩
theorem cu_Bs_335_6 : CU RX11 335 RX6 RX1 ⟨RX1, "bodyAt", "(I)I"⟩ M_Fa_bodyAt 1 := ⟨(lwg_at 1059 (by decide +kernel) rfl), (lwg_at 1061 (by decide +kernel) rfl), (lwg_at 1064 (by decide +kernel) rfl), (lwg_at 1060 (by decide +kernel) rfl), Or.inl rfl, ⟨by decide +kernel, by decide +kernel⟩, by decide +kernel, mi_Fa_bodyAt⟩
theorem cu_Bs_335_8 : CU RX11 335 RX8 RX1 ⟨RX1, "bodyAt", "(I)I"⟩ M_Fa_bodyAt 1 := ⟨(lwg_at 1059 (by decide +kernel) rfl), (lwg_at 1061 (by decide +kernel) rfl), (lwg_at 1065 (by decide +kernel) rfl), (lwg_at 1060 (by decide +kernel) rfl), Or.inl rfl, ⟨by decide +kernel, by decide +kernel⟩, by decide +kernel, mi_Fa_bodyAt⟩
set_option maxRecDepth 40000 in
set_option maxHeartbeats 4000000 in
theorem c_Bs_trace {l : Launch} {Γ : Gm} (hG : GC Γ) (x1 : Int32) (δ : Dl) (hL : LA Γ δ) (r : Int32) (h : F_Bs_trace x1 δ = some r) : Ct l M_Bs_trace 2 0 0 NF [.inr (0, 0), .inl x1] Γ δ (some (.inl r), Γ, δ) := by
  unfold F_Bs_trace at h
  refine Ct.of2 (n := 0) (ls := [some (.inr (0, 0)), some (.inl x1)]) rfl (by decide +kernel) (Nat.le_of_ble_eq_true rfl) ?_
  refine x_aload_n (i := 0) d_Bs_trace_0 rfl rfl ?_
  refine x_getR (f := 102) gl_Bs_75_11 rfl (by decide) (hG.ob oc_0) d_Bs_trace_1 ?_
  rcases hL with hn | hL
  · rw [hn] at h ⊢
    cases h
    refine x_ifnonnull (tgt := 11) d_Bs_trace_4 (by decide) (fun c => absurd rfl c) (fun _ => ?_)
    refine x_ic (v := -1) d_Bs_trace_7 (by decide) ?_
    refine x_goto (tgt := 19) d_Bs_trace_8 (by decide) ?_
    exact x_iret rfl d_Bs_trace_19 (by decide) (by decide)
  rcases hL with hn | hn | hn | hn
  · obtain ⟨hn, oq⟩ := hn
    rw [hn] at h
    have h : F_Fa_bodyAt_2 19 x1 δ = some r := h
    rw [hn]
    refine x_ifnonnull (tgt := 11) d_Bs_trace_4 (by decide) (fun _ => ?_) (fun c => absurd (by decide) c)
    refine x_aload_n (i := 0) d_Bs_trace_11 rfl rfl ?_
    refine x_getR (f := 102) gl_Bs_75_11 rfl (by decide) (hG.ob oc_0) d_Bs_trace_12 ?_
    rw [hn]
    refine x_iload_n (i := 1) d_Bs_trace_15 rfl rfl ?_
    refine y_U1 cu_Bs_335_2 rfl oq (by decide) (Nat.le_of_ble_eq_true rfl) d_Bs_trace_16 (c_Fa_bodyAt_2 oq x1 _ _ h) (by decide) (by decide) ?_
    exact x_iret rfl d_Bs_trace_19 (by decide) (by decide)
  · obtain ⟨hn, oq⟩ := hn
    rw [hn] at h
    have h : F_Fa_bodyAt_4 20 x1 δ = some r := h
    rw [hn]
    refine x_ifnonnull (tgt := 11) d_Bs_trace_4 (by decide) (fun _ => ?_) (fun c => absurd (by decide) c)
    refine x_aload_n (i := 0) d_Bs_trace_11 rfl rfl ?_
    refine x_getR (f := 102) gl_Bs_75_11 rfl (by decide) (hG.ob oc_0) d_Bs_trace_12 ?_
    rw [hn]
    refine x_iload_n (i := 1) d_Bs_trace_15 rfl rfl ?_
    refine y_U1 cu_Bs_335_4 rfl oq (by decide) (Nat.le_of_ble_eq_true rfl) d_Bs_trace_16 (c_Fa_bodyAt_4 oq x1 _ _ h) (by decide) (by decide) ?_
    exact x_iret rfl d_Bs_trace_19 (by decide) (by decide)
  · obtain ⟨hn, oq⟩ := hn
    rw [hn] at h
    have h : F_Fa_bodyAt_6 21 x1 δ = some r := h
    rw [hn]
    refine x_ifnonnull (tgt := 11) d_Bs_trace_4 (by decide) (fun _ => ?_) (fun c => absurd (by decide) c)
    refine x_aload_n (i := 0) d_Bs_trace_11 rfl rfl ?_
    refine x_getR (f := 102) gl_Bs_75_11 rfl (by decide) (hG.ob oc_0) d_Bs_trace_12 ?_
    rw [hn]
    refine x_iload_n (i := 1) d_Bs_trace_15 rfl rfl ?_
    refine y_U1 cu_Bs_335_6 rfl oq (by decide) (Nat.le_of_ble_eq_true rfl) d_Bs_trace_16 (c_Fa_bodyAt_6 oq x1 _ _ h) (by decide) (by decide) ?_
    exact x_iret rfl d_Bs_trace_19 (by decide) (by decide)
  · obtain ⟨hn, oq⟩ := hn
    rw [hn] at h
    have h : F_Fa_bodyAt_8 22 x1 δ = some r := h
    rw [hn]
    refine x_ifnonnull (tgt := 11) d_Bs_trace_4 (by decide) (fun _ => ?_) (fun c => absurd (by decide) c)
    refine x_aload_n (i := 0) d_Bs_trace_11 rfl rfl ?_
    refine x_getR (f := 102) gl_Bs_75_11 rfl (by decide) (hG.ob oc_0) d_Bs_trace_12 ?_
    rw [hn]
    refine x_iload_n (i := 1) d_Bs_trace_15 rfl rfl ?_
    refine y_U1 cu_Bs_335_8 rfl oq (by decide) (Nat.le_of_ble_eq_true rfl) d_Bs_trace_16 (c_Fa_bodyAt_8 oq x1 _ _ h) (by decide) (by decide) ?_
    exact x_iret rfl d_Bs_trace_19 (by decide) (by decide)
