/-! the law's loop, from its entry to its end (wip/whole/pure) -/
theorem df_11 : ∀ j, j < 18 → defaultValue (tyX11 j) = defv (wfb 11 + j) := fun j hj => dfl ((by decide +kernel : ∀ j, j < 18 → ((isN (tyX11 j) && decide (wty (wfb 11 + j) = 0)) || (isO (tyX11 j) && !decide (wty (wfb 11 + j) = 0))) = true) j hj)
theorem df_12 : ∀ j, j < 82 → defaultValue (tyX12 j) = defv (wfb 12 + j) := fun j hj => dfl ((by decide +kernel : ∀ j, j < 82 → ((isN (tyX12 j) && decide (wty (wfb 12 + j) = 0)) || (isO (tyX12 j) && !decide (wty (wfb 12 + j) = 0))) = true) j hj)
def szL : List Nat := [2, 0, 4, 5, 4, 14, 4, 3, 4, 10, 7, 18, 82]
theorem sz_ok {ci : Nat} {r : vw_C} (h : vwCl[ci]? = some r) : r.2.2 = szL.getD ci 0 := by
  match ci, h with
  | 0, h => cases h; rfl
  | 1, h => cases h; rfl
  | 2, h => cases h; rfl
  | 3, h => cases h; rfl
  | 4, h => cases h; rfl
  | 5, h => cases h; rfl
  | 6, h => cases h; rfl
  | 7, h => cases h; rfl
  | 8, h => cases h; rfl
  | 9, h => cases h; rfl
  | 10, h => cases h; rfl
  | 11, h => cases h; rfl
  | 12, h => cases h; rfl
  | c + 13, h => simp [vwCl] at h
set_option maxRecDepth 40000 in
theorem gb40_ok : ∀ a : Nat, a < 19 → GB40 0 a = 2 ∧ ∀ j : Nat, j < szL.getD (wcls a) 0 → GB40 (wfb (wcls a) + j) a = 2 := by decide +kernel
theorem gc_40 {L : List Nat} : GC (gU (nG GB40 23 12 82) 23 L) := by
  have ne : ∀ f a, a < 19 → gU (nG GB40 23 12 82) 23 L f a = GB40 f a := fun f a ha => by
    unfold gU nG
    rw [if_neg (fun e => by have := e.1; omega), if_neg (fun e => by have := e.2; omega), if_neg (fun e => by have := e.1; omega)]
  intro a ha
  obtain ⟨h1, h2⟩ := gb40_ok a ha
  refine ⟨rfl, by rw [ne 0 a ha]; exact h1, fun r hr j hj => ?_⟩
  rw [ne _ a ha]
  exact h2 j (by rw [← sz_ok hr]; exact hj)
theorem and63 (x : Int32) : ∃ c : Int, (0 ≤ c ∧ c ≤ 63) ∧ x &&& 63 = zi c := by
  refine ⟨(x &&& 63).toInt, ?_, zi_of _⟩
  have h : (x &&& 63).toBitVec.toNat ≤ 63 := by
    rw [Int32.toBitVec_and, BitVec.toNat_and]
    exact Nat.le_trans Nat.and_le_right (by decide)
  have e : (x &&& 63).toInt = ((x &&& 63).toBitVec.toNat : Int) := by
    show (x &&& 63).toBitVec.toInt = _
    rw [BitVec.toInt_eq_toNat_of_lt (by omega)]
  omega
theorem NC.lw : ∀ f a, NC f a → f ≠ 2 ∧ f ≠ 4 ∧ f ≠ 5 ∧ f ≠ 6 := fun _ _ h => h.1
section LP
variable {p : Program} {l : Launch} {e : Env} {s : State} {m : MethodId} {below : List Frame} {meth : Method} {c : Code} {D : va_G} {K : Kd} {μ0 : Gm} {b n : Nat} {xs : Nat → Int32}
set_option maxRecDepth 40000 in
set_option maxHeartbeats 4000000 in
theorem l_loop (hS : XSc (p, l, e, s, m, #[Value.ref b], below, meth, c, D, K, μ0, lw_Z below #[Value.ref b] s) n xs) (hn : n ≤ 3072) : ∀ (k t : Nat), n ≤ 6 * t + k → t ≤ 512 → ∀ (Γ : Gm) (kb sb : Nat) (δ : Dl), kb ≤ 1000 + 2 * t → sb ≤ 10000 + 34 * t → GW Γ δ → INV δ → XL (p, l, e, s, m, #[Value.ref b], below, meth, c, D, K, μ0, lw_Z below #[Value.ref b] s) 18 (LLs (6 * t)) [] kb sb Γ δ := by
  have hRX : ∀ δ, INV δ → RX δ := fun δ h => h.2.2.2.2.2.2.2.2.2.2
  intro k
  induction k using Nat.strongRecOn with
  | _ k ih =>
  intro t hk0 ht Γ kb sb δ hk hsb hW hI
  obtain ⟨i, hi⟩ : ∃ i, i = 6 * t := ⟨_, rfl⟩
  rw [← hi]
  refine l_iload_n (i := 3) d_L_18 rfl rfl ?_
  refine l_aload_n (i := 0) d_L_19 rfl rfl ?_
  refine l_slen hS d_L_20 ?_
  refine l_bi (v := 6) d_L_21 (by decide) ?_
  refine l_isub d_L_23 ?_
  have nt : (Int32.ofNat n).toInt = n := nI_toInt (by omega)
  have it : (nI i).toInt = i := nI_toInt (by omega)
  have e6 : Int32.ofNat n - 6 = zi ((n : Int) - 6) := by
    rw [show Int32.ofNat n = zi n from by rw [zi_of (Int32.ofNat n), nt], show (6 : Int32) = zi 6 from zl 6, zi_sub]
  have hlt : Int32.ofNat n - 6 < nI i ↔ (n : Int) - 6 < i := by
    rw [e6, show nI i = zi i from by rw [zi_of (nI i), it], zi_lt (by omega) (by omega)]
  refine l_cmp_gt (tgt := 1420) d_L_24 (by decide) (fun _ => ?_) (fun hle => ?_)
  · refine l_ic (v := 1) d_L_1420 (by decide) ?_
    exact l_ret d_L_1421 (by omega) (by omega)
  · have hi5 : i + 5 < n := by
      have : ¬ (n : Int) - 6 < i := fun h => hle (hlt.mpr h)
      omega
    have ht5 : t < 512 := by omega
    refine l_aload_n (i := 0) d_L_27 rfl rfl ?_
    refine l_iload_n (i := 3) d_L_28 rfl rfl ?_
    have e2 : (nI i).toNatClampNeg = i := by
      show (nI i).toInt.toNat = i
      rw [it]
      rfl
    have e3 : ¬ nI i < 0 := fun h => by
      have := Int32.lt_iff_toInt_lt.mp h
      rw [it] at this
      have e0 : (0 : Int32).toInt = 0 := rfl
      rw [e0] at this
      omega
    refine l_sald (i := nI i) hS e3 (by rw [e2]; omega) d_L_29 ?_
    rw [e2]
    refine l_bi (v := 63) d_L_30 (by decide) ?_
    refine l_iand d_L_32 ?_
    -- behind a case
    have kk : LK INV (p, l, e, s, m, #[Value.ref b], below, meth, c, D, K, μ0, lw_Z below #[Value.ref b] s) i (t + 1) := by
      intro Γ' kb' sb' δ' hk' hsb' hW' hI'
      refine l_inc (i := 3) (c0 := 6) (ls' := LLs (i + 6)) d_L_1414 (by decide) rfl (by decide) ?_ ?_
      · have : nI i + 6 = nI (i + 6) := (Int32.ofNat_add i 6).symm
        rw [this]
        rfl
      · refine l_goto (tgt := 18) d_L_1417 (by decide) ?_
        have e7 : i + 6 = 6 * (t + 1) := by omega
        rw [e7]
        exact ih (k - 6) (by omega) (t + 1) (by omega) (by omega) Γ' kb' sb' δ' hk' hsb' hW' hI'
    obtain ⟨q, hq, ey⟩ := and63 (xs i)
    rw [ey]
    by_cases q37 : 37 < q
    · exact l_tout (tgt := 1414) d_L_33 (Or.inr (by rw [zi_toInt (by omega)]; exact q37)) (by decide) (kk Γ kb sb δ (by omega) (by omega) hW hI)
    · rcases (show q = 0 ∨ q = 1 ∨ q = 2 ∨ q = 3 ∨ q = 4 ∨ q = 5 ∨ q = 6 ∨ q = 7 ∨ q = 8 ∨ q = 9 ∨ q = 10 ∨ q = 11 ∨ q = 12 ∨ q = 13 ∨ q = 14 ∨ q = 15 ∨ q = 16 ∨ q = 17 ∨ q = 18 ∨ q = 19 ∨ q = 20 ∨ q = 21 ∨ q = 22 ∨ q = 23 ∨ q = 24 ∨ q = 25 ∨ q = 26 ∨ q = 27 ∨ q = 28 ∨ q = 29 ∨ q = 30 ∨ q = 31 ∨ q = 32 ∨ q = 33 ∨ q = 34 ∨ q = 35 ∨ q = 36 ∨ q = 37 by omega) with rfl | rfl | rfl | rfl | rfl | rfl | rfl | rfl | rfl | rfl | rfl | rfl | rfl | rfl | rfl | rfl | rfl | rfl | rfl | rfl | rfl | rfl | rfl | rfl | rfl | rfl | rfl | rfl | rfl | rfl | rfl | rfl | rfl | rfl | rfl | rfl | rfl | rfl
      · exact l_tin (v := 0) (off := 167) (tgt := 200) d_L_33 (zl 0).symm (by decide) (lc_0 hS hi5 hn ht5 hk hsb hRX hW hI (st_stage _ _) kk)
      · exact l_tin (v := 1) (off := 200) (tgt := 233) d_L_33 (zl 1).symm (by decide) (lc_1 hS hi5 hn ht5 hk hsb hRX hW hI (st_wall _ _ _) kk)
      · exact l_tin (v := 2) (off := 243) (tgt := 276) d_L_33 (zl 2).symm (by decide) (lc_2 hS hi5 hn ht5 hk hsb hRX hW hI (st_things _ _ _) kk)
      · exact l_tin (v := 3) (off := 286) (tgt := 319) d_L_33 (zl 3).symm (by decide) (lc_3 hS hi5 hn ht5 hk hsb hRX hW hI (st_actor _ _ _) kk)
      · exact l_tin (v := 4) (off := 329) (tgt := 362) d_L_33 (zl 4).symm (by decide) (lc_4 hS hi5 hn ht5 hk hsb hRX hW hI (st_lay _ _ _) kk)
      · exact l_tin (v := 5) (off := 372) (tgt := 405) d_L_33 (zl 5).symm (by decide) (lc_5 hS hi5 hn ht5 hk hsb hRX hW hI st_keep kk)
      · exact l_tin (v := 6) (off := 385) (tgt := 418) d_L_33 (zl 6).symm (by decide) (lc_6 hS hi5 hn ht5 hk hsb hRX hW hI (st_use _) kk)
      · exact l_tin (v := 7) (off := 408) (tgt := 441) d_L_33 (zl 7).symm (by decide) (lc_7 hS hi5 hn ht5 hk hsb hRX hW hI (st_block _ _) kk)
      · exact l_tin (v := 8) (off := 441) (tgt := 474) d_L_33 (zl 8).symm (by decide) (lc_8 hS hi5 hn ht5 hk hsb hRX hW hI (st_join _ _ _) kk)
      · exact l_tin (v := 9) (off := 484) (tgt := 517) d_L_33 (zl 9).symm (by decide) (lc_9 hS hi5 hn ht5 hk hsb hRX hW hI (st_take _) kk)
      · exact l_tin (v := 10) (off := 507) (tgt := 540) d_L_33 (zl 10).symm (by decide) (lc_10 hS hi5 hn ht5 hk hsb hRX hW hI (st_number _ _) kk)
      · exact l_tin (v := 11) (off := 540) (tgt := 573) d_L_33 (zl 11).symm (by decide) (lc_11 hS hi5 hn ht5 hk hsb hRX hW hI (st_cue _ _ _ _) kk)
      · exact l_tin (v := 12) (off := 593) (tgt := 626) d_L_33 (zl 12).symm (by decide) (lc_12 hS hi5 hn ht5 hk hsb hRX hW hI (st_top _ _) kk)
      · exact l_tin (v := 13) (off := 626) (tgt := 659) d_L_33 (zl 13).symm (by decide) (lc_13 hS hi5 hn ht5 hk hsb hRX hW hI (st_look _ _) kk)
      · exact l_tin (v := 14) (off := 659) (tgt := 692) d_L_33 (zl 14).symm (by decide) (lc_14 hS hi5 hn ht5 hk hsb hRX hW hI (st_hole _ _) kk)
      · exact l_tin (v := 15) (off := 692) (tgt := 725) d_L_33 (zl 15).symm (by decide) (lc_15 hS hi5 hn ht5 hk hsb hRX hW hI (st_of _ _) kk)
      · exact l_tin (v := 16) (off := 725) (tgt := 758) d_L_33 (zl 16).symm (by decide) (lc_16 hS hi5 hn ht5 hk hsb hRX hW hI (st_scriptOf _ _) kk)
      · exact l_tin (v := 17) (off := 758) (tgt := 791) d_L_33 (zl 17).symm (by decide) (lc_17 hS hi5 hn ht5 hk hsb hRX hW hI st_flag kk)
      · exact l_tin (v := 18) (off := 771) (tgt := 804) d_L_33 (zl 18).symm (by decide) (lc_18 hS hi5 hn ht5 hk hsb hRX hW hI (st_tick _) kk)
      · exact l_tin (v := 19) (off := 794) (tgt := 827) d_L_33 (zl 19).symm (by decide) (lc_19 hS hi5 hn ht5 hk hsb hRX hW hI (st_back _) kk)
      · exact l_tin (v := 20) (off := 817) (tgt := 850) d_L_33 (zl 20).symm (by decide) (lc_20 hS hi5 hn ht5 hk hsb hRX hW hI (st_who _ _) kk)
      · exact l_tin (v := 21) (off := 850) (tgt := 883) d_L_33 (zl 21).symm (by decide) (lc_21 hS hi5 hn ht5 hk hsb hRX hW hI (st_item _ _) kk)
      · exact l_tin (v := 22) (off := 883) (tgt := 916) d_L_33 (zl 22).symm (by decide) (lc_22 hS hi5 hn ht5 hk hsb hRX hW hI (st_said _ _) kk)
      · exact l_tin (v := 23) (off := 916) (tgt := 949) d_L_33 (zl 23).symm (by decide) (lc_23 hS hi5 hn ht5 hk hsb hRX hW hI (st_feed _ _) kk)
      · exact l_tin (v := 24) (off := 949) (tgt := 982) d_L_33 (zl 24).symm (by decide) (lc_24 hS hi5 hn ht5 hk hsb hRX hW hI st_wish kk)
      · exact l_tin (v := 25) (off := 962) (tgt := 995) d_L_33 (zl 25).symm (by decide) (lc_25 hS hi5 hn ht5 hk hsb hRX hW hI (st_mark _) kk)
      · exact l_tin (v := 26) (off := 985) (tgt := 1018) d_L_33 (zl 26).symm (by decide) (lc_26 hS hi5 hn ht5 hk hsb hRX hW hI (st_fails _) kk)
      · exact l_tin (v := 27) (off := 1008) (tgt := 1041) d_L_33 (zl 27).symm (by decide) (lc_27 hS hi5 hn ht5 hk hsb hRX hW hI (st_least _) kk)
      · exact l_tin (v := 28) (off := 1031) (tgt := 1064) d_L_33 (zl 28).symm (by decide) (lc_28 hS hi5 hn ht5 hk hsb hRX hW hI (st_hint _ _) kk)
      · exact l_tin (v := 29) (off := 1064) (tgt := 1097) d_L_33 (zl 29).symm (by decide) (lc_29 hS hi5 hn ht5 hk hsb hRX hW hI (st_write _) kk)
      · exact l_tin (v := 30) (off := 1087) (tgt := 1120) d_L_33 (zl 30).symm (by decide) (lc_30 hS hi5 hn ht5 hk hsb hRX hW hI (st_text _) kk)
      · exact l_tin (v := 31) (off := 1110) (tgt := 1143) d_L_33 (zl 31).symm (by decide) (lc_31 hS hi5 hn ht5 hk hsb hRX hW hI (st_act _ _ _) kk)
      · exact l_tin (v := 32) (off := 1153) (tgt := 1186) d_L_33 (zl 32).symm (by decide) (lc_32 hS hi5 hn ht5 hk hsb hRX hW hI (st_trace _) kk)
      · exact l_tin (v := 33) (off := 1176) (tgt := 1209) d_L_33 (zl 33).symm (by decide) (lc_33 hS hi5 hn ht5 hk hsb hRX hW hI (st_taken _ _) kk)
      · exact l_tin (v := 34) (off := 1209) (tgt := 1242) d_L_33 (zl 34).symm (by decide) (lc_34 hS hi5 hn ht5 hk hsb hRX hW hI (st_count _) kk)
      · exact l_tin (v := 35) (off := 1232) (tgt := 1265) d_L_33 (zl 35).symm (by decide) (lc_35 hS hi5 hn ht5 hk hsb hRX hW hI (st_sheet _ _ _) kk)
      · exact l_tin (v := 36) (off := 1275) (tgt := 1308) d_L_33 (zl 36).symm (by decide) (lc_36 hS hi5 hn ht5 hk hsb hRX hW hI (st_cell _ _ _) kk)
      · exact l_tin (v := 37) (off := 1318) (tgt := 1351) d_L_33 (zl 37).symm (by decide) (lc_37 hS hi5 hn ht5 hk hsb hRX hW hI (st_copy _ _ _ _ _) kk)
end LP
set_option maxRecDepth 40000 in
set_option maxHeartbeats 4000000 in
/-- from the entry, for every script of at most 3072 ints, the law comes to its end with true -/
theorem whole_start {p : Program} {e : Env} {s : State} {m : MethodId} {below : List Frame} {meth : Method} {c : Code} (l : Launch) (hflags : l.flags = flags0) {b L : Nat} {xs : Nat → Int32} (hL : L ≤ 3072) (C0 : lw_At p s m meth c b L xs) : W p l e room_1 s m #[Value.ref b] below meth c s.heap [] 0 0 (lw_Z below #[Value.ref b] s) (entryFrame m ([Value.ref b] : List Value).toArray 4) := by
  obtain ⟨hx, hb, hr, hml, hown, hts, hX, hbl, hlocks, hgv⟩ := id C0
  obtain ⟨D, K, hK⟩ := en_K hts
  obtain ⟨μ0, hSP, hμ⟩ := en_S hts hgv b
  have hS : XSc (p, l, e, s, m, #[Value.ref b], below, meth, c, D, K, μ0, lw_Z below #[Value.ref b] s) L xs := by
    show va_X (μ0 4 2) L xs s s.heap
    rw [hμ]
    exact hX
  obtain ⟨δ0, hδ0⟩ : ∃ δ : Dl, δ = ((fun _ _ => 0), (fun _ _ _ => 0), (fun _ _ => (1, 0))) := ⟨_, rfl⟩
  have hR0 : RI δ0 [] := fun f a => Or.inl (by rw [hδ0])
  obtain ⟨r, er, hr1⟩ := first_c (nD δ0 0 11 18) (RI.nD hR0)
  obtain ⟨r2, er2, hI, h102⟩ := first_inv hr1
  have hRr : RI r [(0, 7), (0, 6), (0, 5), (0, 4), (1, 0), (0, 17), (0, 16)] := hr1.2.2.2.2.2.2.2.2.2.2.2.2.2
  have mk : Mk (nG GB40 23 12 82) 23 12 := Mk.new (b := 23) (ci := 12) (by decide) rfl (by decide)
  have kk : XL (p, l, e, s, m, #[Value.ref b], below, meth, c, D, K, μ0, lw_Z below #[Value.ref b] s) 0 [some (.inr (4, 2)), none, none, none] [] 0 0 (fun _ _ => 0) δ0 := by
    refine l_new (idx := 7) (b := 0) (ci := 11) (n := 18) (kb2 := 1) (sb2 := 18) (Γ2 := GB0) (by decide) rfl tyX11_ok df_11 (gl_w inX11) cn_L_7 (by decide) (hR0.ne (by decide)) (fun f a _ h2 => absurd h2 (show ¬ (0 : Nat) = 2 by decide)) (fun f _ _ _ a => rfl) (un_r (fun e => absurd e.1 (by decide)) (un_n (un_n (un_n un_nil)))) us_nil rfl rfl (by decide) (Nat.le_of_ble_eq_true rfl) rfl d_L_0 ?_
    refine l_dup d_L_3 ?_
    refine l_I (idx := 9) (kb2 := 109) (sb2 := 3754) ci_L_9 (Nat.le_of_ble_eq_true rfl) (Nat.le_of_ble_eq_true rfl) d_L_4 (c_Bs_init (nD δ0 0 11 18) (RI.nD hR0) r er) NC.lw (un_r (fun e => e.1.2.1 rfl) (un_n (un_n (un_n un_nil)))) (us_r (fun e => e.2 ⟨rfl, Or.inl rfl⟩) us_nil) rfl rfl (Nat.le_of_ble_eq_true rfl) (Nat.le_of_ble_eq_true rfl) rfl ?_
    refine l_asn (i := 1) d_L_7 rfl (by decide) rfl ?_
    refine l_new (idx := 10) (b := 23) (ci := 12) (n := 82) (kb2 := 110) (sb2 := 3836) (Γ2 := nG GB40 23 12 82) (by decide) rfl tyX12_ok df_12 (gl_w inX12) cn_L_10 (by decide) (hRr.ne (by decide)) (wsr_S (by decide) (by decide +kernel)) (no5 (by decide)) (un_r (fun e => absurd e.1 (by decide)) (un_r (fun e => absurd e.2 (by decide)) (un_n (un_n un_nil)))) us_nil rfl rfl (Nat.le_of_ble_eq_true rfl) (Nat.le_of_ble_eq_true rfl) rfl d_L_8 ?_
    refine l_dup d_L_11 ?_
    refine l_I (idx := 12) (kb2 := 174) (sb2 := 6824) ci_L_12 (Nat.le_of_ble_eq_true rfl) (Nat.le_of_ble_eq_true rfl) d_L_12 (c_M_init mk (nD r 23 12 82) ((RI.nD hRr).r1 (by decide)) r2 er2) NC.lw (un_r (fun e => e.1.2.1 rfl) (un_r (fun e => e.2 ⟨rfl, Or.inl rfl⟩) (un_n (un_n un_nil)))) (us_r (fun e => e.2 ⟨rfl, Or.inr rfl⟩) us_nil) rfl rfl (Nat.le_of_ble_eq_true rfl) (Nat.le_of_ble_eq_true rfl) rfl ?_
    refine l_asn (i := 2) d_L_15 rfl (by decide) rfl ?_
    refine l_ic (v := 0) d_L_16 (by decide) ?_
    refine l_stn (i := 3) (ls' := LLs 0) d_L_17 rfl (by decide) rfl ?_
    exact l_loop hS hL L 0 (by omega) (by omega) _ _ _ _ (by decide) (by decide) ⟨gc_40, mk.ob rfl rfl (by decide +kernel), Or.inl h102⟩ hI
  have hl := lv_entry ([.ref b]) (n := 4) (Nat.le_of_ble_eq_true rfl)
  rw [lg_entry_eq]
  generalize (lg_sl ([.ref b]) ++ List.replicate (4 - (lg_sl ([.ref b])).length) Slot.unset).toArray = ls at hl ⊢
  have hl : lv_has ls 4 [(0, .ref b)] := hl
  refine kk μ0 s.heap [] ls ⟨⟨hx, hb, hr, hml, hown, fun w h => hts w (List.mem_filter.mp h).1, hlocks, rfl, hK⟩, fun q h => h, fun _ _ _ => rfl, hSP, ⟨fun a h => absurd rfl h, fun f a _ h => absurd rfl h, fun f a _ h => absurd rfl h, fun f a _ h => absurd rfl h, fun f a g b h => absurd rfl h.2⟩, fun f a h => absurd rfl h.2, va_S.rf, hl.1, hl.2.1, fun i v h => ?_⟩
  have h0 := hl.2.2 (0, .ref b) List.mem_cons_self
  match i, h with
  | 0, h =>
    cases h
    have : cv μ0 (.inr (4, 2)) = .ref b := by
      show (if 4 = 1 then Value.null else .ref (μ0 4 2)) = _
      rw [hμ]
      rfl
    rw [this]
    exact h0
  | 1, h => cases h
  | 2, h => cases h
  | 3, h => cases h
  | i + 4, h => simp at h
