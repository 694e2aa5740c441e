/-! the law's entry: classes, statics, texts (wip/whole/pure) -/
section EN
variable {args : Array Value} {s : State}
theorem en_K (hts : ∀ w ∈ lw_tbl, w.before args s = true) : ∃ (D : va_G) (K : Kd), va_K D vwCl (tysK K) s := by
  have hl : ∀ w ∈ lwg, w.before args s = true := fun w h => hts w (List.mem_filter.mp h).1
  have ht : ∀ w ∈ tables_1, w.before args s = true := fun w h => hts w (List.mem_append_right _ h)
  obtain ⟨c0, i0, h0⟩ := u_known (ws := lwg) (C := RX0) (T := TX0) (N := 2) (n := 2) hl (gl_w inX0) (hl _ cn_Bs_46.2.1)
  obtain ⟨c2, i2, h2⟩ := u_known (ws := lwg) (C := RX2) (T := TX2) (N := 4) (n := 4) hl (gl_w inX2) (hl _ cn_Bs_358.2.1)
  obtain ⟨c3, i3, h3⟩ := u_known (ws := lwg) (C := RX3) (T := TX3) (N := 5) (n := 5) hl (gl_w inX3) (hl _ cn_Bs_11.2.1)
  obtain ⟨c4, i4, h4⟩ := u_known (ws := lwg) (C := RX4) (T := TX4) (N := 4) (n := 4) hl (gl_w inX4) (hl _ cn_Bs_367.2.1)
  obtain ⟨c5, i5, h5⟩ := u_known (ws := lwg) (C := RX5) (T := TX5) (N := 14) (n := 14) hl (gl_w inX5) (hl _ cn_Bs_36.2.1)
  obtain ⟨c6, i6, h6⟩ := u_known (ws := lwg) (C := RX6) (T := TX6) (N := 4) (n := 4) hl (gl_w inX6) (hl _ cn_Bs_364.2.1)
  obtain ⟨c7, i7, h7⟩ := u_known (ws := lwg) (C := RX7) (T := TX7) (N := 3) (n := 3) hl (gl_w inX7) (hl _ cn_Bs_68.2.1)
  obtain ⟨c8, i8, h8⟩ := u_known (ws := lwg) (C := RX8) (T := TX8) (N := 4) (n := 4) hl (gl_w inX8) (hl _ cn_Bs_354.2.1)
  obtain ⟨c9, i9, h9⟩ := u_known (ws := lwg) (C := RX9) (T := TX9) (N := 10) (n := 10) hl (gl_w inX9) (hl _ cn_Bs_21.2.1)
  obtain ⟨c10, i10, h10⟩ := u_known (ws := lwg) (C := RX10) (T := TX10) (N := 7) (n := 7) hl (gl_w inX10) (hl _ cn_Bs_58.2.1)
  obtain ⟨c11, i11, h11⟩ := u_known (ws := lwg) (C := RX11) (T := TX11) (N := 18) (n := 18) hl (gl_w inX11) (hl _ cn_L_7.2.1)
  obtain ⟨c12, i12, h12⟩ := u_known (ws := lwg) (C := RX12) (T := TX12) (N := 82) (n := 82) hl (gl_w inX12) (hl _ cn_L_10.2.1)
  obtain ⟨c1, k1, kp1, e1, -, e3, -, -, e6, -⟩ := Cond.superclass_spec h2.2.1 (ht (.superclass RX2 RX1) (List.mem_of_getElem? (i := 959) (by decide +kernel)))
  have h1 : u_Kn s RX1 TX1 0 c1 (fun _ => 0) := ⟨fun k hk => absurd hk (Nat.not_lt_zero _), e1, kp1, e3, e6⟩
  obtain ⟨cI, kI, qI, a1, a2, a3⟩ := Cond.arrayClass_spec (ht (.arrayClass .int) (List.mem_of_getElem? (i := 54) (by decide +kernel)))
  obtain ⟨cB, kB, qB, b1, b2, b3⟩ := Cond.arrayClass_spec (ht (.arrayClass .boolean) (List.mem_of_getElem? (i := 171) (by decide +kernel)))
  obtain ⟨qS, cS, kS, s1, s2, s3, s4, s5⟩ := Cond.arrayOver_spec (ht (.arrayOver (.object "BlockStage$Stage")) (List.mem_of_getElem? (i := 110) (by decide +kernel)))
  refine ⟨(fun k => [c0, c1, c2, c3, c4, c5, c6, c7, c8, c9, c10, c11, c12].getD k 0, fun k => [i0, (fun _ => 0), i2, i3, i4, i5, i6, i7, i8, i9, i10, i11, i12].getD k (fun _ => 0)), (cI, cB, cS), fun c q hq => ?_, fun k q hq => ?_⟩
  · match c, hq with
    | 0, hq => cases hq; exact h0
    | 1, hq => cases hq; exact h1
    | 2, hq => cases hq; exact h2
    | 3, hq => cases hq; exact h3
    | 4, hq => cases hq; exact h4
    | 5, hq => cases hq; exact h5
    | 6, hq => cases hq; exact h6
    | 7, hq => cases hq; exact h7
    | 8, hq => cases hq; exact h8
    | 9, hq => cases hq; exact h9
    | 10, hq => cases hq; exact h10
    | 11, hq => cases hq; exact h11
    | 12, hq => cases hq; exact h12
    | c + 13, hq => simp [vwCl] at hq
  · match k, hq with
    | 0, hq => cases hq; exact ⟨fun n z => ⟨(fun k h => by cases h), kI, a2, qI, a3⟩, a1⟩
    | 1, hq => cases hq; exact ⟨fun n z => ⟨(fun k h => by cases h), kB, b2, qB, b3⟩, b1⟩
    | 2, hq => cases hq; exact ⟨fun n z => ⟨(fun k h => by cases h), kS, s3, qS, s4⟩, kS, qS, s3, s4, s1, s5⟩
    | k + 3, hq => simp [tysK] at hq
def stI : List Nat := [40, 82, 84, 86, 88, 58]
abbrev tmS (i : Nat) : Term := .string "BlockStage$Wish" (stI.getD i 0)
set_option maxRecDepth 40000 in
theorem en_h : ∀ j : Nat, j < 23 → Cond.eq (.elem (.static "BlockStage" "HOLES_OF_KIND" "[I") (.int (Int32.ofNat j))) (.int (tHKL.getD j 0)) ∈ flatC (Jvm.Cond.and given_1 narrow_1) := by decide +kernel
set_option maxRecDepth 40000 in
theorem en_t : ∀ j : Nat, j < 4 → Cond.eq (.elem (.static "BlockStage$Stage" "STEPS" "[I") (.int (Int32.ofNat j))) (.int (tSTL.getD j 0)) ∈ flatC (Jvm.Cond.and given_1 narrow_1) := by decide +kernel
set_option maxRecDepth 40000 in
theorem en_s1 : ∀ i : Nat, i < 6 → strLen.getD i 0 < 2 ^ 31 ∧ Cond.exactly (tmS i) "java/lang/String" ∈ flatC (Jvm.Cond.and given_1 narrow_1) ∧ Cond.eq (.field (tmS i) "java/lang/String" "coder" "B") (.int 0) ∈ flatC (Jvm.Cond.and given_1 narrow_1) ∧ Cond.arrayOf (.field (tmS i) "java/lang/String" "value" "[B") .byte ∈ flatC (Jvm.Cond.and given_1 narrow_1) ∧ Cond.eq (.length (.field (tmS i) "java/lang/String" "value" "[B")) (.int (Int32.ofNat (strLen.getD i 0))) ∈ flatC (Jvm.Cond.and given_1 narrow_1) := by decide +kernel
set_option maxRecDepth 40000 in
theorem en_s2 : ∀ i : Nat, i < 6 → ∀ j : Nat, j < strLen.getD i 0 → Cond.eq (.elem (.field (tmS i) "java/lang/String" "value" "[B") (.int (Int32.ofNat j))) (.int ((strByt.getD i []).getD j 0)) ∈ flatC (Jvm.Cond.and given_1 narrow_1) := by decide +kernel
set_option maxRecDepth 40000 in
theorem en_s3 : ∀ i : Nat, i < 6 → ∀ j : Nat, j < 6 → i ≠ j → Cond.not (Cond.eq (tmS i) (tmS j)) ∈ flatC (Jvm.Cond.and given_1 narrow_1) ∨ Cond.not (Cond.eq (tmS j) (tmS i)) ∈ flatC (Jvm.Cond.and given_1 narrow_1) := by decide +kernel
theorem en_nw {w : Cond} (h : isNw w = true) : w.onTables = true := by
  cases w <;> first | (simp [isNw] at h; done) | rfl
theorem en_S (hts : ∀ w ∈ lw_tbl, w.before args s = true) (hgv : (Jvm.Cond.and given_1 narrow_1).before args s = true) (b : Nat) : ∃ μ : Gm, SPx μ (fun q => s.heap.size ≤ q) s s.heap ∧ μ 4 2 = b := by
  have ht : ∀ w ∈ tables_1, w.before args s = true := fun w h => hts w (List.mem_append_right _ h)
  have hs := flat_of_before _ hgv
  have hA : ∀ a : Nat, a < s.heap.size → ¬ s.heap.size ≤ a := fun a h => Nat.not_le.mpr h
  obtain ⟨t1, u1, T1⟩ := va_Tof (s := s) (args := args) (tm := .static "BlockStage" "HOLES_OF_KIND" "[I") (ty := .int) (N := 23) (f := fun j => .int (tHKL.getD j 0)) (A := fun q => s.heap.size ≤ q) (by decide) (hs _ (by decide +kernel)) (va_eqt (hs _ (by decide +kernel))) (fun j hj => va_eqt (hs _ (en_h j hj))) hA
  obtain ⟨t2, u2, T2⟩ := va_Tof (s := s) (args := args) (tm := .static "BlockStage$Stage" "STEPS" "[I") (ty := .int) (N := 4) (f := fun j => .int (tSTL.getD j 0)) (A := fun q => s.heap.size ≤ q) (by decide) (hs _ (by decide +kernel)) (va_eqt (hs _ (by decide +kernel))) (fun j hj => va_eqt (hs _ (en_t j hj))) hA
  have Z1 : va_Z "BlockStage" "HOLES_OF_KIND" "[I" (.ref t1) (fun q => s.heap.size ≤ q) s s.heap := va_Zof (ht _ (List.mem_of_getElem? (i := 406) (by decide +kernel))) (ht _ (List.mem_of_getElem? (i := 1) (by decide +kernel))) u1 hA
  have Z2 : va_Z "BlockStage$Stage" "STEPS" "[I" (.ref t2) (fun q => s.heap.size ≤ q) s s.heap := va_Zof (ht _ (List.mem_of_getElem? (i := 616) (by decide +kernel))) (ht _ (List.mem_of_getElem? (i := 3) (by decide +kernel))) u2 hA
  obtain ⟨adK, adV, S1, S2⟩ := vk_Sof (s := s) (args := args) (N := 6) (tm := tmS) (len := strLen) (byt := strByt) (A := fun q => s.heap.size ≤ q) (fun i hi => (en_s1 i hi).1) (fun i hi => hs _ (en_s1 i hi).2.1) (fun i hi => hs _ (en_s1 i hi).2.2.1) (fun i hi => hs _ (en_s1 i hi).2.2.2.1) (fun i hi => hs _ (en_s1 i hi).2.2.2.2) (fun i hi j hj => hs _ (en_s2 i hi j hj)) (fun i j hi hj hij => (en_s3 i hi j hj hij).imp (hs _) (hs _)) hA
  have Z3 : va_Z "java/lang/String" "COMPACT_STRINGS" "Z" (.int 1) (fun q => s.heap.size ≤ q) s s.heap := va_Zof (ht _ (List.mem_of_getElem? (i := 727) (by decide +kernel))) (ht _ (List.mem_of_getElem? (i := 12) (by decide +kernel))) (va_eqi (hs _ (by decide +kernel))) hA
  obtain ⟨z, zz, Z4⟩ : ∃ z zz : Nat, va_Z "jdk/internal/util/Preconditions" "SIOOBE_FORMATTER" "Ljava/util/function/BiFunction;" (if zz = 0 then .ref z else .null) (fun q => s.heap.size ≤ q) s s.heap := by
    rcases va_Zqof (C := "jdk/internal/util/Preconditions") (n := "SIOOBE_FORMATTER") (d := "Ljava/util/function/BiFunction;") (A := fun q => s.heap.size ≤ q) (ht _ (List.mem_of_getElem? (i := 747) (by decide +kernel))) (ht _ (List.mem_of_getElem? (i := 14) (by decide +kernel))) (hs _ (by decide +kernel)) hA with h | ⟨t, h⟩
    · exact ⟨0, 1, h⟩
    · exact ⟨t, 0, h⟩
  refine ⟨fun f a => if f = 4 then (if a = 0 then t1 else if a = 1 then t2 else b) else if f = 2 then adK a else if f = 5 then adV a else if f = 6 then (if a = 0 then z else zz) else 0, ⟨⟨Z1, T1⟩, ⟨Z2, T2⟩, S1, ⟨?_, ?_, ?_, ?_, ?_, ?_⟩, Z3, Z4, fun w hw h => va_Nw.of (en_nw h) (ht w hw), va_AO.of (ht _ (List.mem_of_getElem? (i := 110) (by decide +kernel)))⟩, rfl⟩
  · exact vk_R.of (A := args) (ht _ (List.mem_of_getElem? (i := 713) (by decide +kernel))) (S2 0 (by decide))
  · exact vk_R.of (A := args) (ht _ (List.mem_of_getElem? (i := 778) (by decide +kernel))) (S2 1 (by decide))
  · exact vk_R.of (A := args) (ht _ (List.mem_of_getElem? (i := 779) (by decide +kernel))) (S2 2 (by decide))
  · exact vk_R.of (A := args) (ht _ (List.mem_of_getElem? (i := 780) (by decide +kernel))) (S2 3 (by decide))
  · exact vk_R.of (A := args) (ht _ (List.mem_of_getElem? (i := 781) (by decide +kernel))) (S2 4 (by decide))
  · exact vk_R.of (A := args) (ht _ (List.mem_of_getElem? (i := 782) (by decide +kernel))) (S2 5 (by decide))
end EN
