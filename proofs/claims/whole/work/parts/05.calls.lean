/-! calls -/
def NF : Nat → Nat → Prop := fun _ _ => False
/-- a value that a callee leaves where it is -/
def Un (N : Nat → Nat → Prop) : AV → Prop
  | .inl _ => True
  | .inr q => ¬ N q.1 q.2
theorem Un.cv {N : Nat → Nat → Prop} {μ μ' : Gm} (h : ∀ f a, ¬ N f a → μ' f a = μ f a) {v : AV} (hv : Un N v) : cv μ' v = cv μ v := by
  cases v with
  | inl x => rfl
  | inr q =>
    show (if q.1 = 1 then Value.null else .ref (μ' q.1 q.2)) = if q.1 = 1 then Value.null else .ref (μ q.1 q.2)
    rw [h _ _ hv]
/-- a method: its words -/
def MI (Y : MM) (n : Nat) : Prop := Cond.initialized Y.1.cls ∈ lwg ∧ Cond.code Y.1 Y.2.1 Y.2.2.1 Y.2.2.2 ∈ lwg ∧ (Y.1.cls ≠ "java/lang/invoke/MethodHandle" ∧ Y.1.cls ≠ "java/lang/invoke/VarHandle") ∧ (parseMethodDescriptor Y.1.desc).map (fun d => d.parameters.length) = some n ∧ Y.2.2.1 ≤ 21
theorem wY_good {Y : MM} {n : Nat} (h : MI Y n) : GoodIn lwg (wY Y) := by
  intro w hw
  rcases List.mem_cons.mp hw with rfl | hw
  · exact ⟨h.2.1, good_of_word (lwg_gd _ h.2.1)⟩
  · exact ⟨hw, good_of_word (lwg_gd _ hw)⟩
theorem sum_cv (μ : Gm) (st : List AV) : ((st.map (cv μ)).map fun v => v.category).sum = st.length := by
  induction st with
  | nil => rfl
  | cons a t ih =>
    simp only [List.map_cons, List.sum_cons, cv_cat, List.length_cons, ih]
    omega
/-- the callee's start, from the caller's point -/
def PcAt (D : va_G) (K : Kd) (μ Γ : Gm) (δ : Dl) (as : List AV) (sz : Nat) : Array Value → State → Prop :=
  va_Pc (as.map (cv μ)) (fun U => U.heap.size = sz ∧ HP D K μ Γ δ U.heap ∧ va_K D vwCl (tysK K) U ∧ SPx μ (AA μ Γ sz) U U.heap)
theorem AA_sub {A : Nat → Prop} {μ Γ : Gm} {s : State} {H : Heap} {locs : List Loc} (x2 : ∀ q, s.heap.size ≤ q → A q) (x6 : ∀ f a, lv Γ f a → A (μ f a)) (x7 : va_S A s.heap H locs) : ∀ q, AA μ Γ H.size q → A q := by
  rintro q (⟨f, a, h, rfl⟩ | h)
  · exact x6 f a h
  · exact x2 q (Nat.le_trans x7.1 h)
theorem pre_at {Y : MM} {N : Nat → Nat → Prop} {ls : List (Option AV)} {Γ : Gm} {δ : Dl} {p : Program} {s : State} {m : MethodId} {args : Array Value} {meth : Method} {c : Code} {D : va_G} {K : Kd} {A : Nat → Prop} {μ0 μ : Gm} {H : Heap} {locs : List Loc} {L : Array Slot} (X : Xc Y N ls Γ δ p s m args meth c D K A μ0 μ H locs L) (as : List AV) :
    FrameBlind (PcAt D K μ Γ δ as H.size) ∧ ∀ U : State, U.heap = H → s.WarmedH U.vm → PcAt D K μ Γ δ as H.size (as.map (cv μ)).toArray U := by
  obtain ⟨⟨hx, hb, hr, hml, hown, hts, hlk, hnm, hK⟩, x2, x3, x4, x5, x6, x7, x8⟩ := X
  refine ⟨fun a U g mk q => ?_, fun U hU hW => ⟨rfl, by rw [hU], by rw [hU]; exact x5, hK.moved hW.alike, ?_⟩⟩
  · obtain ⟨q0, q1, q2, q3, q4⟩ := q
    exact ⟨q0, q1, q2, va_K.moved (u := U) (U := U.calling g mk a) (Vm.Alike.refl U.vm) q3, SPx.same (s := U) rfl q4⟩
  · rw [hU]
    exact (((x4.kept (fun q h1 h2 => x7.2.1 q h1 h2)).narrow (AA_sub x2 x6 x7)).warm hW)
section XCALL
variable {l : Launch} {Y : MM} {d kc ks : Nat} {N : Nat → Nat → Prop} {pc : Nat} {ls : List (Option AV)} {st : List AV} {kb sb : Nat} {Γ : Gm} {δ : Dl} {r : Rs}
/-- behind any call -/
theorem Xe.behind {N' : Nat → Nat → Prop} {kc' ks' : Nat} {r' : Rs} {st0 : List Value} {av : Array Value} {p : Program} {e : Env} {s : State} {m : MethodId} {args : Array Value} {below : List Frame} {meth : Method} {c : Code} {D : va_G} {K : Kd} {A : Nat → Prop} {μ0 μ : Gm} {H : Heap} {locs : List Loc} {L : Array Slot}
    (X : Xc Y N ls Γ δ p s m args meth c D K A μ0 μ H locs L)
    (hr : va_Run p l e (rmO d kc ks) s m args below meth c H locs kb sb kc' ks' (F0 m pc L st0) (st.map (cv μ)) (Qr D K N' (AA μ Γ H.size) μ r' av) (AA μ Γ H.size))
    (hN : ∀ f a, N' f a → N f a ∧ f ≠ 2 ∧ f ≠ 4 ∧ f ≠ 5 ∧ f ≠ 6) (hl : ∀ v, some v ∈ ls → Un N' v) (hs : ∀ v ∈ st, Un N' v)
    (k : Xe l Y d kc ks N (pc + 3) ls (r'.1.toList ++ st) (kb + kc') (sb + ks') r'.2.1 r'.2.2 r) :
    W p l e (rmO d kc ks) s m args below meth c H locs kb sb (MQ below (Qr D K N A μ0 r) args s kc ks A) (F0 m pc L st0) := by
  obtain ⟨x1, x2, x3, x4, x5, x6, x7, x8⟩ := X
  have hAA := AA_sub x2 x6 x7
  intro T hT S
  obtain ⟨v, st₀, t, T', Lx, h0, X', hL, e1, e2, ⟨⟨μ', hv, g1, g2, g3⟩, hz, hk⟩, stp⟩ := hr T hT S
  cases hv
  rw [h0] at hz hk
  have es : st.map (cv μ) = st.map (cv μ') := List.map_congr_left fun v hv => (Un.cv g1 (hs v hv)).symm
  have e2x : μ' 2 = μ 2 := funext fun a => g1 2 a (fun h => (hN 2 a h).2.1 rfl)
  have e4x : μ' 4 = μ 4 := funext fun a => g1 4 a (fun h => (hN 4 a h).2.2.1 rfl)
  have e5x : μ' 5 = μ 5 := funext fun a => g1 5 a (fun h => (hN 5 a h).2.2.2.1 rfl)
  have e6x : μ' 6 = μ 6 := funext fun a => g1 6 a (fun h => (hN 6 a h).2.2.2.2 rfl)
  obtain ⟨t2, a1, b1⟩ := k p e s m args below meth c D K A μ0 μ' T'.heap (locs ++ Lx) L ⟨x1, x2, fun f a h => (g1 f a (fun h' => h (hN f a h').1)).trans (x3 f a h), x4.to e2x e4x e5x e6x, by rw [e1]; exact g2, fun f a h => hAA _ (g3 f a h),
    ⟨Nat.le_trans x7.1 (by rw [e1]; exact hz), fun q h1 h2 => by rw [e1, hk q (Nat.lt_of_lt_of_le h1 x7.1) (fun z => h2 (hAA q z))]; exact x7.2.1 q h1 h2, fun q hq => by
      rcases List.mem_append.mp hq with h | h
      · exact x7.2.2 q h
      · exact hAA _ (hL q h)⟩, x8.1, x8.2.1, fun i v hv => by
        rw [Un.cv g1 (hl v (List.mem_of_getElem? hv))]
        exact x8.2.2 i v hv⟩ T' rfl X'
  refine ⟨t2, stp t2 ?_, b1⟩
  have ex : (Option.map (cv μ') r'.1).toList ++ st.map (cv μ) = (r'.1.toList ++ st).map (cv μ') := by
    rw [es, List.map_append]
    cases r'.1 <;> rfl
  rw [ex]
  exact a1
/-- a call of an object's own method -/
def CV (own : String) (idx : Nat) (C : String) (Y' : MM) (n : Nat) : Prop := Cond.methodLink own idx Y'.1 ∈ lwg ∧ Cond.instanceMethod Y'.1 ∈ lwg ∧ Cond.selects C Y'.1 Y'.1 ∈ lwg ∧ MI Y' n
theorem HP.recv {D : va_G} {K : Kd} {μ Γ : Gm} {δ : Dl} {H : Heap} {tys : List (ClassId × FieldType)} {s : State} (h : HP D K μ Γ δ H) (hK : va_K D vwCl tys s) {a ci : Nat} {C : String} {T : u_T} {n : Nat} (h0 : Γ 0 a ≠ 0) (hc : wcls a = ci) (hv : vwCl[ci]? = some (C, T, n)) : ∃ cell : Cell, H[μ 0 a]? = some cell ∧ cell.vm.isStatics = false ∧ s.vm.findClass C = some cell.cls := by
  obtain ⟨cell, g1, g2, g3, -⟩ := h.ob h0 hc hv
  exact ⟨cell, g1, by rw [g3]; rfl, by rw [g2]; exact (hK.1 ci _ hv).2.1⟩
theorem callB_at {args : Array Value} {s : State} {own : String} {idx n d' kc' ks' : Nat} {Y' : MM} (hts : ∀ w ∈ lwg, w.before args s = true) (hm : MI Y' n) (hd' : d' + 1 ≤ d) (hl : Cond.methodLink own idx Y'.1 ∈ lwg) :
    CallB (rmO d kc ks) s args own idx Y'.1 Y'.2.1 Y'.2.2.1 Y'.2.2.2 (wY Y') (rmO d' kc' ks') kc' ks' n :=
  callB_of n hts (wY_good hm) rfl rfl rfl (hts _ hm.1) (hts _ hl) ⟨hm.2.2.1.1, hm.2.2.1.2, hm.2.2.2.1⟩ ⟨hd', by show 8 + (Y'.2.2.1 + 11) + 40 * d' ≤ 40 * d; have := hm.2.2.2.2; omega⟩
theorem Xe.callV {idx n d' kc' ks' : Nat} {C : String} {Y' : MM} {N' : Nat → Nat → Prop} {as : List AV} {a ci : Nat} {T : u_T} {nf : Nat} {r' : Rs} (cw : CV Y.1.cls idx C Y' n) (hvc : vwCl[ci]? = some (C, T, nf)) (hci : wcls a = ci) (h0 : Γ 0 a ≠ 0) (hn : as.length = n) (hd' : d' + 1 ≤ d) (hkk : kb + kc' ≤ kc) (hss : sb + ks' ≤ ks) (hst : st.length ≤ 8)
    (hd : decode Y.2.1 pc = .ok (.invokevirtual idx, 3)) (hC : Ct l Y' d' kc' ks' N' (.inr (0, a) :: as) Γ δ r') (hN : ∀ f a, N' f a → N f a ∧ f ≠ 2 ∧ f ≠ 4 ∧ f ≠ 5 ∧ f ≠ 6) (hl : ∀ v, some v ∈ ls → Un N' v) (hs : ∀ v ∈ st, Un N' v)
    (k : Xe l Y d kc ks N (pc + 3) ls (r'.1.toList ++ st) (kb + kc') (sb + ks') r'.2.1 r'.2.2 r) : Xe l Y d kc ks N pc ls (as.reverse ++ .inr (0, a) :: st) kb sb Γ δ r := by
  intro p e s m args below meth c D K A μ0 μ H locs L X
  have hpre := pre_at X (.inr (0, a) :: as)
  obtain ⟨⟨hx, hb, hre, hml, hown, hts, hlk, hnm, hK⟩, x2, x3, x4, x5, x6, x7, x8⟩ := id X
  refine Xe.behind X (va_runV (As := as.map (cv μ)) (rest := st.map (cv μ)) ⟨hx, hb, hml, hown, hts⟩ (hC D K μ H.size) ⟨callB_at (d := d) hts cw.2.2.2 hd' cw.1, hts _ cw.2.1, hts _ cw.2.2.1⟩ ⟨hpre.1, x5.recv hK h0 hci hvc, hpre.2⟩ rfl (by simpa using hn) x8.1 ?_ (lv_room (by rw [sum_cv]; exact hst)) hd ⟨hkk, hss⟩) hN hl hs k
  show (as.reverse ++ .inr (0, a) :: st).map (cv μ) = _
  rw [List.map_append, List.map_reverse]; rfl
def CS (own : String) (idx : Nat) (Y' : MM) (n : Nat) : Prop := Cond.methodLink own idx Y'.1 ∈ lwg ∧ Cond.static Y'.1 ∈ lwg ∧ MI Y' n
theorem Xe.callS {idx n d' kc' ks' : Nat} {Y' : MM} {N' : Nat → Nat → Prop} {as : List AV} {r' : Rs} (cw : CS Y.1.cls idx Y' n) (hn : as.length = n) (hd' : d' + 1 ≤ d) (hkk : kb + kc' ≤ kc) (hss : sb + ks' ≤ ks) (hst : st.length ≤ 8)
    (hd : decode Y.2.1 pc = .ok (.invokestatic idx, 3)) (hC : Ct l Y' d' kc' ks' N' as Γ δ r') (hN : ∀ f a, N' f a → N f a ∧ f ≠ 2 ∧ f ≠ 4 ∧ f ≠ 5 ∧ f ≠ 6) (hl : ∀ v, some v ∈ ls → Un N' v) (hs : ∀ v ∈ st, Un N' v)
    (k : Xe l Y d kc ks N (pc + 3) ls (r'.1.toList ++ st) (kb + kc') (sb + ks') r'.2.1 r'.2.2 r) : Xe l Y d kc ks N pc ls (as.reverse ++ st) kb sb Γ δ r := by
  intro p e s m args below meth c D K A μ0 μ H locs L X
  have hpre := pre_at X as
  obtain ⟨⟨hx, hb, hre, hml, hown, hts, hlk, hnm, hK⟩, x2, x3, x4, x5, x6, x7, x8⟩ := id X
  refine Xe.behind X (va_runS (As := as.map (cv μ)) (rest := st.map (cv μ)) ⟨hx, hb, hml, hown, hts⟩ (hC D K μ H.size) ⟨callB_at (d := d) hts cw.2.2 hd' cw.1, hts _ cw.2.1⟩ hpre rfl (by simpa using hn) x8.1 ?_ (lv_room (by rw [sum_cv]; exact hst)) hd ⟨hkk, hss⟩) hN hl hs k
  show (as.reverse ++ st).map (cv μ) = _
  rw [List.map_append, List.map_reverse]
def CSN (own : String) (idx : Nat) (host : String) (Y' : MM) (n : Nat) : Prop := Cond.methodLinkNest own idx Y'.1 host ∈ tables_1 ∧ Cond.static Y'.1 ∈ lwg ∧ MI Y' n
theorem callN_at {args : Array Value} {s : State} {own host : String} {idx n d' kc' ks' : Nat} {Y' : MM} (hts : ∀ w ∈ lwg, w.before args s = true) (hnw : NWs s) (hm : MI Y' n) (hd' : d' + 1 ≤ d) (hl : Cond.methodLinkNest own idx Y'.1 host ∈ tables_1) :
    va_CN (rmO d kc ks) s args own idx Y'.1 host Y'.2.1 Y'.2.2.1 Y'.2.2.2 (wY Y') (rmO d' kc' ks') kc' ks' n :=
  va_cnB n hts (wY_good hm) rfl rfl rfl (hnw.1 _ hl rfl) (hts _ hm.1) ⟨hm.2.2.1.1, hm.2.2.1.2, hm.2.2.2.1⟩ ⟨hd', by show 8 + (Y'.2.2.1 + 11) + 40 * d' ≤ 40 * d; have := hm.2.2.2.2; omega⟩
theorem Xe.callSN {idx n d' kc' ks' : Nat} {host : String} {Y' : MM} {N' : Nat → Nat → Prop} {as : List AV} {r' : Rs} (cw : CSN Y.1.cls idx host Y' n) (hn : as.length = n) (hd' : d' + 1 ≤ d) (hkk : kb + kc' ≤ kc) (hss : sb + ks' ≤ ks) (hst : st.length ≤ 8)
    (hd : decode Y.2.1 pc = .ok (.invokestatic idx, 3)) (hC : Ct l Y' d' kc' ks' N' as Γ δ r') (hN : ∀ f a, N' f a → N f a ∧ f ≠ 2 ∧ f ≠ 4 ∧ f ≠ 5 ∧ f ≠ 6) (hl : ∀ v, some v ∈ ls → Un N' v) (hs : ∀ v ∈ st, Un N' v)
    (k : Xe l Y d kc ks N (pc + 3) ls (r'.1.toList ++ st) (kb + kc') (sb + ks') r'.2.1 r'.2.2 r) : Xe l Y d kc ks N pc ls (as.reverse ++ st) kb sb Γ δ r := by
  intro p e s m args below meth c D K A μ0 μ H locs L X
  have hpre := pre_at X as
  obtain ⟨⟨hx, hb, hre, hml, hown, hts, hlk, hnm, hK⟩, x2, x3, x4, x5, x6, x7, x8⟩ := id X
  refine Xe.behind X (va_runSN (As := as.map (cv μ)) (rest := st.map (cv μ)) ⟨hx, hb, hml, hown, hts⟩ (hC D K μ H.size) ⟨callN_at (d := d) hts x4.2.2.2.2.2.2 cw.2.2 hd' cw.1, hts _ cw.2.1, trivial⟩ hpre rfl (by simpa using hn) x8.1 ?_ (lv_room (by rw [sum_cv]; exact hst)) hd ⟨hkk, hss⟩) hN hl hs k
  show (as.reverse ++ st).map (cv μ) = _
  rw [List.map_append, List.map_reverse]
def CVN (own : String) (idx : Nat) (host C : String) (Y' : MM) (n : Nat) : Prop := Cond.methodLinkNest own idx Y'.1 host ∈ tables_1 ∧ Cond.instanceMethod Y'.1 ∈ lwg ∧ Cond.selects C Y'.1 Y'.1 ∈ lwg ∧ MI Y' n
theorem Xe.callVN {idx n d' kc' ks' : Nat} {host C : String} {Y' : MM} {N' : Nat → Nat → Prop} {as : List AV} {a ci : Nat} {T : u_T} {nf : Nat} {r' : Rs} (cw : CVN Y.1.cls idx host C Y' n) (hvc : vwCl[ci]? = some (C, T, nf)) (hci : wcls a = ci) (h0 : Γ 0 a ≠ 0) (hn : as.length = n) (hd' : d' + 1 ≤ d) (hkk : kb + kc' ≤ kc) (hss : sb + ks' ≤ ks) (hst : st.length ≤ 8)
    (hd : decode Y.2.1 pc = .ok (.invokevirtual idx, 3)) (hC : Ct l Y' d' kc' ks' N' (.inr (0, a) :: as) Γ δ r') (hN : ∀ f a, N' f a → N f a ∧ f ≠ 2 ∧ f ≠ 4 ∧ f ≠ 5 ∧ f ≠ 6) (hl : ∀ v, some v ∈ ls → Un N' v) (hs : ∀ v ∈ st, Un N' v)
    (k : Xe l Y d kc ks N (pc + 3) ls (r'.1.toList ++ st) (kb + kc') (sb + ks') r'.2.1 r'.2.2 r) : Xe l Y d kc ks N pc ls (as.reverse ++ .inr (0, a) :: st) kb sb Γ δ r := by
  intro p e s m args below meth c D K A μ0 μ H locs L X
  have hpre := pre_at X (.inr (0, a) :: as)
  obtain ⟨⟨hx, hb, hre, hml, hown, hts, hlk, hnm, hK⟩, x2, x3, x4, x5, x6, x7, x8⟩ := id X
  refine Xe.behind X (va_runVN (As := as.map (cv μ)) (rest := st.map (cv μ)) ⟨hx, hb, hml, hown, hts⟩ (hC D K μ H.size) ⟨callN_at (d := d) hts x4.2.2.2.2.2.2 cw.2.2.2 hd' cw.1, hts _ cw.2.1, hts _ cw.2.2.1⟩ ⟨hpre.1, x5.recv hK h0 hci hvc, hpre.2⟩ rfl (by simpa using hn) x8.1 ?_ (lv_room (by rw [sum_cv]; exact hst)) hd ⟨hkk, hss⟩) hN hl hs k
  show (as.reverse ++ .inr (0, a) :: st).map (cv μ) = _
  rw [List.map_append, List.map_reverse]; rfl
def CI (own : String) (idx : Nat) (Y' : MM) (n : Nat) : Prop := Cond.methodLink own idx Y'.1 ∈ lwg ∧ Cond.instanceMethod Y'.1 ∈ lwg ∧ Y'.1.name = "<init>" ∧ Y'.2.2.2 = none ∧ MI Y' n
theorem Xe.callI {idx n d' kc' ks' : Nat} {Y' : MM} {N' : Nat → Nat → Prop} {as : List AV} {a : Nat} {r' : Rs} (cw : CI Y.1.cls idx Y' n) (hn : as.length = n) (hd' : d' + 1 ≤ d) (hkk : kb + kc' ≤ kc) (hss : sb + ks' ≤ ks) (hst : st.length ≤ 8)
    (hd : decode Y.2.1 pc = .ok (.invokespecial idx, 3)) (hC : Ct l Y' d' kc' ks' N' (.inr (0, a) :: as) Γ δ r') (hN : ∀ f a, N' f a → N f a ∧ f ≠ 2 ∧ f ≠ 4 ∧ f ≠ 5 ∧ f ≠ 6) (hl : ∀ v, some v ∈ ls → Un N' v) (hs : ∀ v ∈ st, Un N' v)
    (k : Xe l Y d kc ks N (pc + 3) ls (r'.1.toList ++ st) (kb + kc') (sb + ks') r'.2.1 r'.2.2 r) : Xe l Y d kc ks N pc ls (as.reverse ++ .inr (0, a) :: st) kb sb Γ δ r := by
  intro p e s m args below meth c D K A μ0 μ H locs L X
  have hpre := pre_at X (.inr (0, a) :: as)
  obtain ⟨⟨hx, hb, hre, hml, hown, hts, hlk, hnm, hK⟩, x2, x3, x4, x5, x6, x7, x8⟩ := id X
  have hcb := callB_at (d := d) (kc := kc) (ks := ks) (kc' := kc') (ks' := ks') hts cw.2.2.2.2 hd' cw.1
  rw [cw.2.2.2.1] at hcb
  refine Xe.behind X (va_runI (As := as.map (cv μ)) (rest := st.map (cv μ)) ⟨hx, hb, hml, hown, hts⟩ (hC D K μ H.size) ⟨hcb, cw.2.2.1, hts _ cw.2.1⟩ hpre rfl (by simpa using hn) x8.1 ?_ (lv_room (by rw [sum_cv]; exact hst)) hd ⟨hkk, hss⟩) hN hl hs k
  show (as.reverse ++ .inr (0, a) :: st).map (cv μ) = _
  rw [List.map_append, List.map_reverse]; rfl
def CIN (own : String) (idx : Nat) (host : String) (Y' : MM) (n : Nat) : Prop := Cond.methodLinkNest own idx Y'.1 host ∈ tables_1 ∧ Cond.instanceMethod Y'.1 ∈ lwg ∧ Y'.1.name = "<init>" ∧ Y'.2.2.2 = none ∧ MI Y' n
theorem Xe.callIN {idx n d' kc' ks' : Nat} {host : String} {Y' : MM} {N' : Nat → Nat → Prop} {as : List AV} {a : Nat} {r' : Rs} (cw : CIN Y.1.cls idx host Y' n) (hn : as.length = n) (hd' : d' + 1 ≤ d) (hkk : kb + kc' ≤ kc) (hss : sb + ks' ≤ ks) (hst : st.length ≤ 8)
    (hd : decode Y.2.1 pc = .ok (.invokespecial idx, 3)) (hC : Ct l Y' d' kc' ks' N' (.inr (0, a) :: as) Γ δ r') (hN : ∀ f a, N' f a → N f a ∧ f ≠ 2 ∧ f ≠ 4 ∧ f ≠ 5 ∧ f ≠ 6) (hl : ∀ v, some v ∈ ls → Un N' v) (hs : ∀ v ∈ st, Un N' v)
    (k : Xe l Y d kc ks N (pc + 3) ls (r'.1.toList ++ st) (kb + kc') (sb + ks') r'.2.1 r'.2.2 r) : Xe l Y d kc ks N pc ls (as.reverse ++ .inr (0, a) :: st) kb sb Γ δ r := by
  intro p e s m args below meth c D K A μ0 μ H locs L X
  have hpre := pre_at X (.inr (0, a) :: as)
  obtain ⟨⟨hx, hb, hre, hml, hown, hts, hlk, hnm, hK⟩, x2, x3, x4, x5, x6, x7, x8⟩ := id X
  have hcb := callN_at (d := d) (kc := kc) (ks := ks) (kc' := kc') (ks' := ks') hts x4.2.2.2.2.2.2 cw.2.2.2.2 hd' cw.1
  rw [cw.2.2.2.1] at hcb
  refine Xe.behind X (va_runIN (As := as.map (cv μ)) (rest := st.map (cv μ)) ⟨hx, hb, hml, hown, hts⟩ (hC D K μ H.size) ⟨hcb, cw.2.2.1, hts _ cw.2.1⟩ hpre rfl (by simpa using hn) x8.1 ?_ (lv_room (by rw [sum_cv]; exact hst)) hd ⟨hkk, hss⟩) hN hl hs k
  show (as.reverse ++ .inr (0, a) :: st).map (cv μ) = _
  rw [List.map_append, List.map_reverse]; rfl
end XCALL
