/-! more small rows: locals with their new list, texts, what the walks name -/
def RF : Nat := 40
def bd2 {α β γ : Type} (x : Option (α × β)) (k : α → β → Option γ) : Option γ := x.bind fun q => k q.1 q.2
def bn2 {α β γ : Type} (x : α × β) (k : α → β → γ) : γ := k x.1 x.2
theorem bd2_e {α β γ : Type} {x : Option (α × β)} {k : α → β → Option γ} {r : γ} (h : bd2 x k = some r) : ∃ v d, x = some (v, d) ∧ k v d = some r := by
  cases x with
  | none => cases h
  | some q => exact ⟨q.1, q.2, rfl, h⟩
theorem bn2_e {α β γ : Type} {x : α × β} {k : α → β → γ} {r : γ} (h : bn2 x k = r) : ∃ v d, x = (v, d) ∧ k v d = r := ⟨x.1, x.2, rfl, h⟩
theorem nc_of {v : Int32} (h : (v.toUInt32 % 65536).toInt32 = v) : narrow .char (.int v) = .int v := by
  have := pk_nc v
  rw [h] at this
  exact this
/-- which locals are forgotten -/
def wk : List (Option AV) → List (Option AV) → Prop
  | [], _ => True
  | a :: t, b :: u => (a = none ∨ a = b) ∧ wk t u
  | _ :: _, [] => False
theorem wk_at : ∀ (ls' ls : List (Option AV)), wk ls' ls → ∀ (i : Nat) (v : AV), ls'[i]? = some (some v) → ls[i]? = some (some v)
  | [], _, _, i, v, h => by simp at h
  | a :: t, [], hw, i, v, h => hw.elim
  | a :: t, b :: u, hw, 0, v, h => by
    have e : a = some v := by simpa using h
    rcases hw.1 with h1 | h1
    · rw [h1] at e; cases e
    · rw [h1] at e; simp [e]
  | a :: t, b :: u, hw, i + 1, v, h => by
    have := wk_at t u hw.2 i v (by simpa using h)
    simpa using this
def wLen (j : Nat) : Int32 := Int32.ofNat (strLen.getD j 0)
def wByt (j : Nat) (i : Int32) : Int32 := (strByt.getD j []).getD i.toNatClampNeg 0
theorem wLen_t {j : Nat} (h : j < 6) : (wLen j).toInt = (strLen.getD j 0 : Nat) := (by decide +kernel : ∀ j, j < 6 → (wLen j).toInt = (strLen.getD j 0 : Nat)) j h
theorem ac_nat : Cond.native arraycopyName ∈ lwg := lwg_at 367 (by decide +kernel) rfl
theorem ac_sta : Cond.static arraycopyName ∈ lwg := lwg_at 366 (by decide +kernel) rfl
theorem ac_ini : Cond.initialized "java/lang/System" ∈ lwg := lwg_at 11 (by decide +kernel) rfl
section XT
variable {l : Launch} {Y : MM} {d kc ks : Nat} {N : Nat → Nat → Prop} {pc : Nat} {ls : List (Option AV)} {st : List AV} {kb sb : Nat} {Γ : Gm} {δ : Dl} {r : Rs}
theorem x_wk {ls' : List (Option AV)} (h : wk ls' ls) (k : Xe l Y d kc ks N pc ls' st kb sb Γ δ r) : Xe l Y d kc ks N pc ls st kb sb Γ δ r := x_weak (wk_at _ _ h) k
theorem x_stn {i : Nat} {x : Int32} {kf : Fin 4} {ls' : List (Option AV)} (hd : decode Y.2.1 pc = .ok (.istore_n kf, 1)) (hf : (kf : Nat) = i) (hi : i < Y.2.2.1) (hs : ls.set i (some (.inl x)) = ls') (k : Xe l Y d kc ks N (pc + 1) ls' st kb sb Γ δ r) : Xe l Y d kc ks N pc ls (.inl x :: st) kb sb Γ δ r := by
  subst hs; exact x_istore_n hd hf hi k
theorem x_stw {i : Nat} {x : Int32} {ls' : List (Option AV)} (hd : decode Y.2.1 pc = .ok (.istore i, 2)) (hi : i < Y.2.2.1) (hs : ls.set i (some (.inl x)) = ls') (k : Xe l Y d kc ks N (pc + 2) ls' st kb sb Γ δ r) : Xe l Y d kc ks N pc ls (.inl x :: st) kb sb Γ δ r := by
  subst hs; exact x_istore hd hi k
theorem x_asn {i : Nat} {q : Nat × Nat} {kf : Fin 4} {ls' : List (Option AV)} (hd : decode Y.2.1 pc = .ok (.astore_n kf, 1)) (hf : (kf : Nat) = i) (hi : i < Y.2.2.1) (hs : ls.set i (some (.inr q)) = ls') (k : Xe l Y d kc ks N (pc + 1) ls' st kb sb Γ δ r) : Xe l Y d kc ks N pc ls (.inr q :: st) kb sb Γ δ r := by
  subst hs; exact x_astore_n hd hf hi k
theorem x_asw {i : Nat} {q : Nat × Nat} {ls' : List (Option AV)} (hd : decode Y.2.1 pc = .ok (.astore i, 2)) (hi : i < Y.2.2.1) (hs : ls.set i (some (.inr q)) = ls') (k : Xe l Y d kc ks N (pc + 2) ls' st kb sb Γ δ r) : Xe l Y d kc ks N pc ls (.inr q :: st) kb sb Γ δ r := by
  subst hs; exact x_astore hd hi k
theorem x_inc {i : Nat} {n : Int} {x c0 : Int32} {ls' : List (Option AV)} (hd : decode Y.2.1 pc = .ok (.iinc i n, 3)) (hn : Int32.ofInt n = c0) (hl : ls[i]? = some (some (.inl x))) (hi : i < Y.2.2.1) (hs : ls.set i (some (.inl (x + c0))) = ls') (k : Xe l Y d kc ks N (pc + 3) ls' st kb sb Γ δ r) : Xe l Y d kc ks N pc ls st kb sb Γ δ r := by
  subst hs; exact x_iinc hd hn hl hi k
theorem x_ldcS0 (hY : Y.1.cls = "BlockStage$Wish") (hd : decode Y.2.1 pc = .ok (.ldc 40, 2)) (k : Xe l Y d kc ks N (pc + 2) ls (.inr (2, 0) :: st) kb sb Γ δ r) : Xe l Y d kc ks N pc ls st kb sb Γ δ r := by
  intro p e s m args below meth c D K A μ0 μ H locs L X
  have kk := k p e s m args below meth c D K A μ0 μ H locs L X
  obtain ⟨⟨hx, hb, hr, hml, hown, hts, hlk, hnm, hK⟩, x2, x3, x4, x5, x6, x7, x8⟩ := X
  rw [hY] at hown
  exact va_ldcS hx hb hown x4.2.2.2.1.1 hd kk
theorem x_ldcS1 (hY : Y.1.cls = "BlockStage$Wish") (hd : decode Y.2.1 pc = .ok (.ldc 82, 2)) (k : Xe l Y d kc ks N (pc + 2) ls (.inr (2, 1) :: st) kb sb Γ δ r) : Xe l Y d kc ks N pc ls st kb sb Γ δ r := by
  intro p e s m args below meth c D K A μ0 μ H locs L X
  have kk := k p e s m args below meth c D K A μ0 μ H locs L X
  obtain ⟨⟨hx, hb, hr, hml, hown, hts, hlk, hnm, hK⟩, x2, x3, x4, x5, x6, x7, x8⟩ := X
  rw [hY] at hown
  exact va_ldcS hx hb hown x4.2.2.2.1.2.1 hd kk
theorem x_ldcS2 (hY : Y.1.cls = "BlockStage$Wish") (hd : decode Y.2.1 pc = .ok (.ldc 84, 2)) (k : Xe l Y d kc ks N (pc + 2) ls (.inr (2, 2) :: st) kb sb Γ δ r) : Xe l Y d kc ks N pc ls st kb sb Γ δ r := by
  intro p e s m args below meth c D K A μ0 μ H locs L X
  have kk := k p e s m args below meth c D K A μ0 μ H locs L X
  obtain ⟨⟨hx, hb, hr, hml, hown, hts, hlk, hnm, hK⟩, x2, x3, x4, x5, x6, x7, x8⟩ := X
  rw [hY] at hown
  exact va_ldcS hx hb hown x4.2.2.2.1.2.2.1 hd kk
theorem x_ldcS3 (hY : Y.1.cls = "BlockStage$Wish") (hd : decode Y.2.1 pc = .ok (.ldc 86, 2)) (k : Xe l Y d kc ks N (pc + 2) ls (.inr (2, 3) :: st) kb sb Γ δ r) : Xe l Y d kc ks N pc ls st kb sb Γ δ r := by
  intro p e s m args below meth c D K A μ0 μ H locs L X
  have kk := k p e s m args below meth c D K A μ0 μ H locs L X
  obtain ⟨⟨hx, hb, hr, hml, hown, hts, hlk, hnm, hK⟩, x2, x3, x4, x5, x6, x7, x8⟩ := X
  rw [hY] at hown
  exact va_ldcS hx hb hown x4.2.2.2.1.2.2.2.1 hd kk
theorem x_ldcS4 (hY : Y.1.cls = "BlockStage$Wish") (hd : decode Y.2.1 pc = .ok (.ldc 88, 2)) (k : Xe l Y d kc ks N (pc + 2) ls (.inr (2, 4) :: st) kb sb Γ δ r) : Xe l Y d kc ks N pc ls st kb sb Γ δ r := by
  intro p e s m args below meth c D K A μ0 μ H locs L X
  have kk := k p e s m args below meth c D K A μ0 μ H locs L X
  obtain ⟨⟨hx, hb, hr, hml, hown, hts, hlk, hnm, hK⟩, x2, x3, x4, x5, x6, x7, x8⟩ := X
  rw [hY] at hown
  exact va_ldcS hx hb hown x4.2.2.2.1.2.2.2.2.1 hd kk
theorem x_ldcS5 (hY : Y.1.cls = "BlockStage$Wish") (hd : decode Y.2.1 pc = .ok (.ldc 58, 2)) (k : Xe l Y d kc ks N (pc + 2) ls (.inr (2, 5) :: st) kb sb Γ δ r) : Xe l Y d kc ks N pc ls st kb sb Γ δ r := by
  intro p e s m args below meth c D K A μ0 μ H locs L X
  have kk := k p e s m args below meth c D K A μ0 μ H locs L X
  obtain ⟨⟨hx, hb, hr, hml, hown, hts, hlk, hnm, hK⟩, x2, x3, x4, x5, x6, x7, x8⟩ := X
  rw [hY] at hown
  exact va_ldcS hx hb hown x4.2.2.2.1.2.2.2.2.2 hd kk
theorem x_sval {idx j : Nat} (hj : j < 6) (hl : Cond.fieldLink Y.1.cls idx "java/lang/String" "value" "[B" ∈ lwg) (hd : decode Y.2.1 pc = .ok (.getfield idx, 3)) (k : Xe l Y d kc ks N (pc + 3) ls (.inr (5, j) :: st) kb sb Γ δ r) : Xe l Y d kc ks N pc ls (.inr (2, j) :: st) kb sb Γ δ r := by
  intro p e s m args below meth c D K A μ0 μ H locs L X
  have kk := k p e s m args below meth c D K A μ0 μ H locs L X
  obtain ⟨⟨hx, hb, hr, hml, hown, hts, hlk, hnm, hK⟩, x2, x3, x4, x5, x6, x7, x8⟩ := X
  exact vk_getf hx hb (x4.2.2.1.1 j hj).2.2.1 x7 hown (hts _ hl) (fun x h => h) hd kk
theorem x_scod {idx j : Nat} (hj : j < 6) (hl : Cond.fieldLink Y.1.cls idx "java/lang/String" "coder" "B" ∈ lwg) (hd : decode Y.2.1 pc = .ok (.getfield idx, 3)) (k : Xe l Y d kc ks N (pc + 3) ls (.inl 0 :: st) kb sb Γ δ r) : Xe l Y d kc ks N pc ls (.inr (2, j) :: st) kb sb Γ δ r := by
  intro p e s m args below meth c D K A μ0 μ H locs L X
  have kk := k p e s m args below meth c D K A μ0 μ H locs L X
  obtain ⟨⟨hx, hb, hr, hml, hown, hts, hlk, hnm, hK⟩, x2, x3, x4, x5, x6, x7, x8⟩ := X
  exact vk_getf hx hb (x4.2.2.1.1 j hj).2.1 x7 hown (hts _ hl) (fun x h => h) hd kk
theorem x_gstC {idx : Nat} (hl : Cond.fieldLink Y.1.cls idx "java/lang/String" "COMPACT_STRINGS" "Z" ∈ lwg) (hd : decode Y.2.1 pc = .ok (.getstatic idx, 3)) (k : Xe l Y d kc ks N (pc + 3) ls (.inl 1 :: st) kb sb Γ δ r) : Xe l Y d kc ks N pc ls st kb sb Γ δ r := by
  intro p e s m args below meth c D K A μ0 μ H locs L X
  have kk := k p e s m args below meth c D K A μ0 μ H locs L X
  obtain ⟨⟨hx, hb, hr, hml, hown, hts, hlk, hnm, hK⟩, x2, x3, x4, x5, x6, x7, x8⟩ := X
  exact va_gets hx hb x4.2.2.2.2.1 x7 hown (hts _ hl) (fun x h => h) hd kk
theorem x_gstF {idx : Nat} (hl : Cond.fieldLink Y.1.cls idx "jdk/internal/util/Preconditions" "SIOOBE_FORMATTER" "Ljava/util/function/BiFunction;" ∈ lwg) (hd : decode Y.2.1 pc = .ok (.getstatic idx, 3)) (k : ∀ q : Nat × Nat, Xe l Y d kc ks N (pc + 3) ls (.inr q :: st) kb sb Γ δ r) : Xe l Y d kc ks N pc ls st kb sb Γ δ r := by
  intro p e s m args below meth c D K A μ0 μ H locs L X
  have k1 := k (6, 0) p e s m args below meth c D K A μ0 μ H locs L X
  have k2 := k (1, 0) p e s m args below meth c D K A μ0 μ H locs L X
  obtain ⟨⟨hx, hb, hr, hml, hown, hts, hlk, hnm, hK⟩, x2, x3, x4, x5, x6, x7, x8⟩ := X
  have hz := x4.2.2.2.2.2.1
  by_cases h : μ 6 1 = 0
  · rw [if_pos h] at hz
    exact va_gets hx hb hz x7 hown (hts _ hl) (fun x h => h) hd k1
  · rw [if_neg h] at hz
    exact va_gets hx hb hz x7 hown (hts _ hl) (fun x h => h) hd k2
theorem x_slen {j : Nat} (hj : j < 6) (hd : decode Y.2.1 pc = .ok (.arraylength, 1)) (k : Xe l Y d kc ks N (pc + 1) ls (.inl (wLen j) :: st) kb sb Γ δ r) : Xe l Y d kc ks N pc ls (.inr (5, j) :: st) kb sb Γ δ r := by
  intro p e s m args below meth c D K A μ0 μ H locs L X
  have kk := k p e s m args below meth c D K A μ0 μ H locs L X
  obtain ⟨⟨hx, hb, hr, hml, hown, hts, hlk, hnm, hK⟩, x2, x3, x4, x5, x6, x7, x8⟩ := X
  exact va_tlen hx hb (x4.2.2.1.1 j hj).2.2.2 x7 rfl hd kk
theorem x_sbyte {j : Nat} {i : Int32} (hj : j < 6) (hi : inb i (wLen j)) (hd : decode Y.2.1 pc = .ok (.baload, 1)) (k : Xe l Y d kc ks N (pc + 1) ls (.inl (wByt j i) :: st) kb sb Γ δ r) : Xe l Y d kc ks N pc ls (.inl i :: .inr (5, j) :: st) kb sb Γ δ r := by
  intro p e s m args below meth c D K A μ0 μ H locs L X
  have kk := k p e s m args below meth c D K A μ0 μ H locs L X
  obtain ⟨⟨hx, hb, hr, hml, hown, hts, hlk, hnm, hK⟩, x2, x3, x4, x5, x6, x7, x8⟩ := X
  exact va_tb hx hb (x4.2.2.1.1 j hj).2.2.2 x7 (inb_vp hi (wLen_t hj)) rfl hd kk
/-- a call of a text's own method -/
theorem Xe.callT {idx n d' j : Nat} {Y' : MM} {as : List AV} {v : AV} (hj : j < 6) (cw : CV Y.1.cls idx "java/lang/String" Y' n) (hn : as.length = n) (hd' : d' + 1 ≤ d) (hst : st.length ≤ 8)
    (hd : decode Y.2.1 pc = .ok (.invokevirtual idx, 3)) (hC : Ct l Y' d' 0 0 NF (.inr (2, j) :: as) Γ δ (some v, Γ, δ)) (hkb : kb ≤ kc) (hsb : sb ≤ ks)
    (k : Xe l Y d kc ks N (pc + 3) ls (v :: st) kb sb Γ δ r) : Xe l Y d kc ks N pc ls (as.reverse ++ .inr (2, j) :: st) kb sb Γ δ r := by
  intro p e s m args below meth c D K A μ0 μ H locs L X
  have hpre := pre_at X (.inr (2, j) :: as)
  obtain ⟨⟨hx, hb, hre, hml, hown, hts, hlk, hnm, hK⟩, x2, x3, x4, x5, x6, x7, x8⟩ := id X
  refine Xe.behind X (va_runV (As := as.map (cv μ)) (rest := st.map (cv μ)) ⟨hx, hb, hml, hown, hts⟩ (hC D K μ H.size) ⟨callB_at (d := d) hts cw.2.2.2 hd' cw.1, hts _ cw.2.1, hts _ cw.2.2.1⟩ ⟨hpre.1, vk_recv x4.2.2.1 hj x7, hpre.2⟩ rfl (by simpa using hn) x8.1 ?_ (lv_room (by rw [sum_cv]; exact hst)) hd ⟨hkb, hsb⟩) (fun _ _ h => h.elim) (fun v _ => by cases v <;> first | trivial | exact fun h => h) (fun v _ => by cases v <;> first | trivial | exact fun h => h) k
  show (as.reverse ++ .inr (2, j) :: st).map (cv μ) = _
  rw [List.map_append, List.map_reverse]; rfl
theorem y_T0 {idx d' j : Nat} {Y' : MM} {v : AV} (hj : j < 6) (cw : CV Y.1.cls idx "java/lang/String" Y' 0) (hd' : d' + 1 ≤ d) (hst : st.length ≤ 8) (hd : decode Y.2.1 pc = .ok (.invokevirtual idx, 3)) (hC : Ct l Y' d' 0 0 NF [.inr (2, j)] Γ δ (some v, Γ, δ))
    (k : Xe l Y d 0 0 N (pc + 3) ls (v :: st) 0 0 Γ δ r) : Xe l Y d 0 0 N pc ls (.inr (2, j) :: st) 0 0 Γ δ r := Xe.callT (as := []) hj cw rfl hd' hst hd hC (Nat.le_refl 0) (Nat.le_refl 0) k
theorem y_T1 {idx d' j : Nat} {Y' : MM} {v x : AV} (hj : j < 6) (cw : CV Y.1.cls idx "java/lang/String" Y' 1) (hd' : d' + 1 ≤ d) (hst : st.length ≤ 8) (hd : decode Y.2.1 pc = .ok (.invokevirtual idx, 3)) (hC : Ct l Y' d' 0 0 NF [.inr (2, j), x] Γ δ (some v, Γ, δ))
    (k : Xe l Y d 0 0 N (pc + 3) ls (v :: st) 0 0 Γ δ r) : Xe l Y d 0 0 N pc ls (x :: .inr (2, j) :: st) 0 0 Γ δ r := Xe.callT (as := [x]) hj cw rfl hd' hst hd hC (Nat.le_refl 0) (Nat.le_refl 0) k
end XT
