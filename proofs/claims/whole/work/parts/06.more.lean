/-! statics, constants, the copy of rows, calls up the classes -/
section XM
variable {l : Launch} {Y : MM} {d kc ks : Nat} {N : Nat → Nat → Prop} {pc : Nat} {ls : List (Option AV)} {st : List AV} {kb sb : Nat} {Γ : Gm} {δ : Dl} {r : Rs}
theorem x_ldc {idx : Nat} {v : Int32} (hc : Cond.constant Y.1.cls idx v ∈ lwg) (hd : decode Y.2.1 pc = .ok (.ldc idx, 2)) (k : Xe l Y d kc ks N (pc + 2) ls (.inl v :: st) kb sb Γ δ r) : Xe l Y d kc ks N pc ls st kb sb Γ δ r := by
  intro p e s m args below meth c D K A μ0 μ H locs L X
  exact lv_ldc X.1.1 X.1.2.1 X.1.2.2.2.2.1 (X.1.2.2.2.2.2.1 _ hc) hd (k p e s m args below meth c D K A μ0 μ H locs L X)
theorem x_ldcw {idx : Nat} {v : Int32} (hc : Cond.constant Y.1.cls idx v ∈ lwg) (hd : decode Y.2.1 pc = .ok (.ldc_w idx, 3)) (k : Xe l Y d kc ks N (pc + 3) ls (.inl v :: st) kb sb Γ δ r) : Xe l Y d kc ks N pc ls st kb sb Γ δ r := by
  intro p e s m args below meth c D K A μ0 μ H locs L X
  exact lv_ldcw X.1.1 X.1.2.1 X.1.2.2.2.2.1 (X.1.2.2.2.2.2.1 _ hc) hd (k p e s m args below meth c D K A μ0 μ H locs L X)
theorem cv_s {μ : Gm} {f a : Nat} (h : f = 4 ∨ f = 2 ∨ f = 5) : cv μ (.inr (f, a)) = .ref (μ f a) := cv_a (by rcases h with rfl | rfl | rfl <;> decide)
/-- BlockStage.HOLES_OF_KIND, named by a nest mate -/
theorem x_gstH {idx : Nat} (hc : Cond.fieldLinkNest Y.1.cls idx "BlockStage" "HOLES_OF_KIND" "[I" "BlockStage" ∈ tables_1) (hd : decode Y.2.1 pc = .ok (.getstatic idx, 3)) (k : Xe l Y d kc ks N (pc + 3) ls (.inr (4, 0) :: st) kb sb Γ δ r) : Xe l Y d kc ks N pc ls st kb sb Γ δ r := by
  intro p e s m args below meth c D K A μ0 μ H locs L X
  have kk := k p e s m args below meth c D K A μ0 μ H locs L X
  obtain ⟨⟨hx, hb, hr, hml, hown, hts, hlk, hnm, hK⟩, x2, x3, x4, x5, x6, x7, x8⟩ := X
  exact va_getsN hx hb x4.1.1 x7 hown (va_Nw.use rfl (x4.2.2.2.2.2.2.1 _ hc rfl)) (fun x h => h) hd kk
theorem x_gstS {idx : Nat} (hc : Cond.fieldLink Y.1.cls idx "BlockStage$Stage" "STEPS" "[I" ∈ lwg) (hd : decode Y.2.1 pc = .ok (.getstatic idx, 3)) (k : Xe l Y d kc ks N (pc + 3) ls (.inr (4, 1) :: st) kb sb Γ δ r) : Xe l Y d kc ks N pc ls st kb sb Γ δ r := by
  intro p e s m args below meth c D K A μ0 μ H locs L X
  have kk := k p e s m args below meth c D K A μ0 μ H locs L X
  obtain ⟨⟨hx, hb, hr, hml, hown, hts, hlk, hnm, hK⟩, x2, x3, x4, x5, x6, x7, x8⟩ := X
  exact va_gets hx hb x4.2.1.1 x7 hown (hts _ hc) (fun x h => h) hd kk
def tHK (i : Int32) : Int32 := tHKL.getD i.toNatClampNeg 0
def tST (i : Int32) : Int32 := tSTL.getD i.toNatClampNeg 0
theorem x_tldH {i : Int32} (hi : inb i 23) (hd : decode Y.2.1 pc = .ok (.iaload, 1)) (k : Xe l Y d kc ks N (pc + 1) ls (.inl (tHK i) :: st) kb sb Γ δ r) : Xe l Y d kc ks N pc ls (.inl i :: .inr (4, 0) :: st) kb sb Γ δ r := by
  intro p e s m args below meth c D K A μ0 μ H locs L X
  have kk := k p e s m args below meth c D K A μ0 μ H locs L X
  obtain ⟨⟨hx, hb, hr, hml, hown, hts, hlk, hnm, hK⟩, x2, x3, x4, x5, x6, x7, x8⟩ := X
  exact va_ti hx hb x4.1.2 x7 (inb_vp hi (by decide)) rfl hd kk
theorem x_tldS {i : Int32} (hi : inb i 4) (hd : decode Y.2.1 pc = .ok (.iaload, 1)) (k : Xe l Y d kc ks N (pc + 1) ls (.inl (tST i) :: st) kb sb Γ δ r) : Xe l Y d kc ks N pc ls (.inl i :: .inr (4, 1) :: st) kb sb Γ δ r := by
  intro p e s m args below meth c D K A μ0 μ H locs L X
  have kk := k p e s m args below meth c D K A μ0 μ H locs L X
  obtain ⟨⟨hx, hb, hr, hml, hown, hts, hlk, hnm, hK⟩, x2, x3, x4, x5, x6, x7, x8⟩ := X
  exact va_ti hx hb x4.2.1.2 x7 (inb_vp hi (by decide)) rfl hd kk
theorem x_tlenH (hd : decode Y.2.1 pc = .ok (.arraylength, 1)) (k : Xe l Y d kc ks N (pc + 1) ls (.inl 23 :: st) kb sb Γ δ r) : Xe l Y d kc ks N pc ls (.inr (4, 0) :: st) kb sb Γ δ r := by
  intro p e s m args below meth c D K A μ0 μ H locs L X
  have kk := k p e s m args below meth c D K A μ0 μ H locs L X
  obtain ⟨⟨hx, hb, hr, hml, hown, hts, hlk, hnm, hK⟩, x2, x3, x4, x5, x6, x7, x8⟩ := X
  exact va_tlen hx hb x4.1.2 x7 (by decide) hd kk
/-- System.arraycopy over rows of numbers -/
def cpA (δ : Dl) (f a : Nat) (i : Int32) (g b : Nat) (j n : Int32) : Dl :=
  (δ.1, fun f' b' => if f' = g ∧ b' = b then (fun x => if j ≤ x ∧ x < j + n then δ.2.1 f a (i + (x - j)) else δ.2.1 g b x) else δ.2.1 f' b', δ.2.2)
/-- n places from i on lie within N -/
abbrev inbs (i n N : Int32) : Prop := 0 ≤ i ∧ 0 ≤ n ∧ i ≤ N ∧ n ≤ N - i
theorem inbs_nat {i n N : Int32} {k : Nat} (h : inbs i n N) (hN : N.toInt = k) : ¬ i < 0 ∧ ¬ n < 0 ∧ i.toNatClampNeg + n.toNatClampNeg ≤ k ∧ i.toInt = i.toNatClampNeg ∧ n.toInt = n.toNatClampNeg ∧ (k : Int) < 2 ^ 31 := by
  obtain ⟨h1, h2, h3, h4⟩ := h
  have a1 := Int32.le_iff_toInt_le.mp h1
  have a2 := Int32.le_iff_toInt_le.mp h2
  have a3 := Int32.le_iff_toInt_le.mp h3
  have a4 := Int32.le_iff_toInt_le.mp h4
  have hk := Int32.toInt_lt N
  rw [hN] at a3 hk
  rw [Int32.toInt_zero] at a1 a2
  have e : (N - i).toInt = (k : Int) - i.toInt := by
    rw [Int32.toInt_sub, hN]
    apply Int.bmod_eq_of_le <;> omega
  rw [e] at a4
  have c1 : i.toInt = (i.toNatClampNeg : Int) := by show i.toInt = ((i.toInt.toNat : Nat) : Int); omega
  have c2 : n.toInt = (n.toNatClampNeg : Int) := by show n.toInt = ((n.toInt.toNat : Nat) : Int); omega
  refine ⟨?_, ?_, by omega, c1, c2, hk⟩
  · rw [Int32.lt_iff_toInt_lt, Int32.toInt_zero]; omega
  · rw [Int32.lt_iff_toInt_lt, Int32.toInt_zero]; omega
theorem cp_fun {c0 k0 k1 : Nat} {f g : Int32 → Int32} {i j n N0 N1 : Int32} (h0 : inbs i n N0) (e0 : N0.toInt = k0) (h1 : inbs j n N1) (e1 : N1.toInt = k1) :
    arrV c0 k1 (fun x => .int (va_cpy (fun y => f (nI y)) (fun y => g (nI y)) i.toNatClampNeg j.toNatClampNeg n.toNatClampNeg x)) = arrV c0 k1 (fun x => .int ((fun x => if j ≤ x ∧ x < j + n then f (i + (x - j)) else g x) (nI x))) := by
  obtain ⟨-, -, a3, a4, a5, a6⟩ := inbs_nat h0 e0
  obtain ⟨-, -, b3, b4, -, b6⟩ := inbs_nat h1 e1
  apply arrV_extA
  intro x hx
  have ex : (nI x).toInt = x := nI_toInt (by omega)
  have ejn : (j + n).toInt = j.toInt + n.toInt := by
    rw [Int32.toInt_add]
    apply Int.bmod_eq_of_le <;> omega
  show Value.int (if j.toNatClampNeg ≤ x ∧ x < j.toNatClampNeg + n.toNatClampNeg then f (nI (i.toNatClampNeg + (x - j.toNatClampNeg))) else g (nI x)) = .int (if j ≤ nI x ∧ nI x < j + n then f (i + (nI x - j)) else g (nI x))
  by_cases hc : j.toNatClampNeg ≤ x ∧ x < j.toNatClampNeg + n.toNatClampNeg
  · have hc' : j ≤ nI x ∧ nI x < j + n := by
      rw [Int32.le_iff_toInt_le, Int32.lt_iff_toInt_lt, ejn, ex]
      omega
    rw [if_pos hc, if_pos hc']
    congr 2
    apply Int32.toInt_inj.mp
    have e2 : (nI x - j).toInt = x - j.toInt := by
      rw [Int32.toInt_sub, ex]
      apply Int.bmod_eq_of_le <;> omega
    have e3 : (i + (nI x - j)).toInt = i.toInt + (x - j.toInt) := by
      rw [Int32.toInt_add, e2]
      apply Int.bmod_eq_of_le <;> omega
    rw [e3, nI_toInt (by omega)]
    omega
  · have hc' : ¬ (j ≤ nI x ∧ nI x < j + n) := by
      rw [Int32.le_iff_toInt_le, Int32.lt_iff_toInt_lt, ejn, ex]
      omega
    rw [if_neg hc, if_neg hc']
theorem x_acopy {idx f a g b : Nat} {i j n N0 N1 : Int32} (hl : Cond.methodLink Y.1.cls idx arraycopyName ∈ lwg) (hw0 : wty f = 3) (hw1 : wty g = 3) (h0 : Γ f a ≠ 0) (h1 : Γ g b ≠ 0) (e0 : N0.toInt = (wlen f a : Nat)) (e1 : N1.toInt = (wlen g b : Nat)) (i0 : inbs i n N0) (i1 : inbs j n N1) (hst : st.length ≤ 8) (hdd : 1 ≤ d)
    (hnat : Cond.native arraycopyName ∈ lwg) (hstat : Cond.static arraycopyName ∈ lwg) (hini : Cond.initialized "java/lang/System" ∈ lwg)
    (hd : decode Y.2.1 pc = .ok (.invokestatic idx, 3)) (k : Xe l Y d kc ks N (pc + 3) ls st kb sb Γ (cpA δ f a i g b j n) r) : Xe l Y d kc ks N pc ls (.inl n :: .inl j :: .inr (g, b) :: .inl i :: .inr (f, a) :: st) kb sb Γ δ r := by
  intro p e s m args below meth c D K A μ0 μ H locs L X
  obtain ⟨x1, x2, x3, x4, x5, x6, x7, x8⟩ := X
  obtain ⟨hx, hb, hr, hml, hown, hts, hlk, hnm, hK⟩ := id x1
  obtain ⟨p1, p2, p3, p4, p5, p6⟩ := inbs_nat i0 e0
  obtain ⟨q1, q2, q3, q4, q5, q6⟩ := inbs_nat i1 e1
  have hc0 := x5.2.1 f a hw0 h0
  have hc1 := x5.2.1 g b hw1 h1
  show W p l e (rmO d kc ks) s m args below meth c H locs kb sb _ (F0 m pc L (.int n :: .int j :: cv μ (.inr (g, b)) :: .int i :: cv μ (.inr (f, a)) :: st.map (cv μ)))
  rw [cv_a (wty_ne1 (by omega : 3 ≤ wty g)), cv_a (wty_ne1 (by omega : 3 ≤ wty f))]
  intro T hT S
  obtain ⟨-, k0, hk0, cm0, hkk0⟩ := (hK.2 0 _ rfl).1 (wlen f a) (fun x => .int (δ.2.1 f a (nI x)))
  obtain ⟨-, k1, hk1, cm1, hkk1⟩ := (hK.2 0 _ rfl).1 (wlen g b) (fun x => .int (δ.2.1 g b (nI x)))
  obtain ⟨vm', X', step⟩ := S.arraycopy hx hown (hts _ hl) (hts _ hnat) (hts _ hstat) (hts _ hini) (src := μ f a) (dst := μ g b) (cs := arrV K.1 (wlen f a) (fun x => .int (δ.2.1 f a (nI x)))) (cd := arrV K.1 (wlen g b) (fun x => .int (δ.2.1 g b (nI x)))) (srcPos := i) (destPos := j) (n := n) (by rw [hT]; exact hc0) (by rw [hT]; exact hc1)
    (fun _ h => by cases h) (fun _ h => by cases h) (fun h => by cases h) (fun h => by cases h) hk0 hk1 hkk0 hkk1 (by simp [refKind]) p1 q1 p2
    (by rw [p4, p5, arrV_size]; omega) (by rw [q4, q5, arrV_size]; omega)
    (fun vm₁ _ z hz => by
      have ez : (arrV K.1 (wlen f a) (fun x => .int (δ.2.1 f a (nI x)))).slots.getD (i.toNatClampNeg + z) .null = .int (δ.2.1 f a (nI (i.toNatClampNeg + z))) := by
        rw [Array.getD_eq_getD_getElem?, arrV_read _ _ (by omega)]
        rfl
      refine ⟨?_, ?_⟩
      · rw [ez]
        rfl
      · rw [ez]
        exact trivial)
    (g := F0 m pc L (.int n :: .int j :: .ref (μ g b) :: .int i :: .ref (μ f a) :: st.map (cv μ))) rfl (by rw [hml]; exact x8.1) (rest := st.map (cv μ)) rfl (by rw [hb]; exact hd) (by show 1 ≤ d; exact hdd) (by
      show 2 * 0 + ((st.map (cv μ)).map fun v => v.category).sum + (nativeFrameWords "java/lang/System" "arraycopy" 5 + 11) ≤ 40 * d
      rw [sum_cv]
      have : nativeFrameWords "java/lang/System" "arraycopy" 5 ≤ 20 := by decide +kernel
      omega)
  have e2 : copied (arrV K.1 (wlen f a) (fun x => .int (δ.2.1 f a (nI x)))) (arrV K.1 (wlen g b) (fun x => .int (δ.2.1 g b (nI x)))) i j n = arrV K.1 (wlen g b) (fun x => .int (va_cpy (fun y => δ.2.1 f a (nI y)) (fun y => δ.2.1 g b (nI y)) i.toNatClampNeg j.toNatClampNeg n.toNatClampNeg x)) := va_copied (fun z => .int z) K.1 K.1 (fun y => δ.2.1 f a (nI y)) (fun y => δ.2.1 g b (nI y)) p3
  rw [e2, cp_fun i0 e0 i1 e1] at X' step
  have hl' : μ g b < H.size := (Array.getElem?_eq_some_iff.mp hc1).1
  generalize hcell : (arrV K.1 (wlen g b) fun x => Value.int ((fun x => if j ≤ x ∧ x < j + n then δ.2.1 f a (i + (x - j)) else δ.2.1 g b x) (nI x))) = cell at X' step
  have hheap : ((T.setVm vm').setCell (μ g b) cell).heap = H.setIfInBounds (μ g b) cell := by rw [← hT]; rfl
  have oq : ∀ q : Nat, q ≠ μ g b → (H.setIfInBounds (μ g b) cell)[q]? = H[q]? := fun q hq => by simp [Array.getElem?_setIfInBounds, Ne.symm hq]
  obtain ⟨t, a1, b1⟩ := k p e s m args below meth c D K A μ0 μ (H.setIfInBounds (μ g b) cell) _ L ⟨x1, x2, x3, x4, x5.putA (Or.inl hw1) ⟨fun _ => rfl, fun h => by omega⟩ h1 (by rw [← hcell]; simp [hl']) oq, x6, ⟨by simpa using x7.1, fun q g1 g2 => by
      rw [oq q (fun e => g2 (by rw [e]; exact x6 g b ⟨by omega, h1⟩))]
      exact x7.2.1 q g1 g2, fun q hq => by
      rcases List.mem_append.mp hq with h | h
      · exact x7.2.2 q h
      · obtain ⟨z, -, hz⟩ := List.mem_map.mp h
        rw [← hz]
        exact x6 g b ⟨by omega, h1⟩⟩, x8⟩ _ hheap X'
  exact ⟨t, step t a1, b1⟩
end XM
