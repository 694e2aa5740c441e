/-! calls up the chain of classes: what a subclass inherits or overrides, and super -/
theorem sub_one {vm : Vm} {a b : ClassId} {k : Class} (hk : vm.classes[a]? = some k) (hs : k.super = some b) : vm.isSubclass a b = true := by
  have hlt : a < vm.classes.size := (Array.getElem?_eq_some_iff.mp hk).1
  obtain ⟨n, hn⟩ : ∃ n, vm.classes.size = n + 1 := ⟨vm.classes.size - 1, (Nat.sub_add_cancel (Nat.lt_of_le_of_lt (Nat.zero_le _) hlt : 0 < vm.classes.size)).symm⟩
  unfold Vm.isSubclass
  rw [hn]
  show (a == b || match vm.classes[a]? with
    | some k => match k.super with
      | some p => vm.isSubclassAux (n + 1) p b
      | none => false
    | none => false) = true
  rw [hk]
  show (a == b || match k.super with
      | some p => vm.isSubclassAux (n + 1) p b
      | none => false) = true
  rw [hs]
  show (a == b || vm.isSubclassAux (n + 1) b b) = true
  have : vm.isSubclassAux (n + 1) b b = true := by simp [Vm.isSubclassAux]
  rw [this, Bool.or_true]
section XSU
variable {p : Program} {l : Launch} {e : Env} {R : Room} {s : State} {m : MethodId} {args : Array Value} {below : List Frame} {meth : Method} {c : Code}
theorem callSU2 {T : State} {locs : List Loc} {cells slots : Nat} (X : Stand p l e R s m args below meth c T locs cells slots) (hexec : p.tables.exec = Jvm.exec) {own : String} {index : Nat} {x y : MethodName} {bytes : ByteArray} {maxL : Nat} {ret : Option FieldType}
    (hown : s.vm.findClass own = some m.cls) (hlink : (Cond.methodLink own index x).before args s = true) (hsame : (Cond.sameMethod x.cls y.cls x.name x.desc).before args s = true) (hsup : (Cond.superclass own x.cls).before args s = true)
    (hup : x.cls = y.cls ∨ (Cond.superclass x.cls y.cls).before args s = true) (hxy : y.name = x.name ∧ y.desc = x.desc)
    (hinst : (Cond.instanceMethod y).before args s = true) (hcode : (Cond.code y bytes maxL ret).before args s = true) (hno : x.name ≠ "<init>")
    {W : Nat} {Pre : Pt → Array Value → Prop} {Post : Pt → Array Value → Option Value → Pt → Prop} (hK : Back l R p e below s args y 3 W Pre Post)
    {b : Addr} {cellB : Cell} {kB : Class} (hcell : T.heap[b]? = some cellB) (hobj : cellB.vm.isStatics = false) (hkB : s.vm.classes[cellB.cls]? = some kB)
    {g : JFrame} (hg : g.method = m) (hsize : g.locals.size = c.maxLocals) {argsL rest : List Value} (hlen : ∀ sig, parseMethodDescriptor y.desc = some sig → argsL.length = sig.parameters.length)
    (hstack : g.stack = argsL.reverse ++ .ref b :: rest) (hW : 2 * g.monitorRoom + (rest.map fun v => v.category).sum ≤ W) (hdg : decode c.code g.pc = .ok (.invokespecial index, 3))
    (hpre : ∀ vm₁, s.WarmedH vm₁ → Pre ⟨T.setVm vm₁, locs, cells, slots⟩ (Value.ref b :: argsL).toArray) :
    ∃ (v : Option Value) (vm₁ : Vm) (B : Pt), s.WarmedH vm₁ ∧ Stand p l e R s m args below meth c B.U B.locs B.cells B.slots ∧ Post ⟨T.setVm vm₁, locs, cells, slots⟩ (Value.ref b :: argsL).toArray v B ∧
      ∀ target, Steps p.tables e below (B.U.setTop { g with pc := g.pc + 3, stack := v.toList ++ rest }) target → Steps p.tables e below (T.setTop g) target := by
  obtain ⟨mk, methM, hnamed, hmethM, hstM, habM⟩ := Cond.instanceMethod_spec hinst
  obtain ⟨methM', cM, hmethM', -, -, -, -, -, -, hsigM⟩ := Cond.code_spec hnamed hcode
  cases hmethM.symm.trans hmethM'
  obtain ⟨ps, dk, kp, hps, hdk, hkp, hsuper, -, -, hnid⟩ := Cond.superclass_spec hown hsup
  have hy : y = ⟨y.cls, x.name, x.desc⟩ := by
    obtain ⟨yc, yn, yd⟩ := y
    obtain ⟨h1, h2⟩ := hxy
    simp only at h1 h2
    rw [h1, h2]
  have hn : s.methodNamed? ⟨y.cls, x.name, x.desc⟩ = some mk := by rw [← hy]; exact hnamed
  have hcy := findClass_of_methodNamed hn
  have hsub : s.vm.isSubclass ps mk.cls = true := by
    rcases hup with e | e
    · have hpm : ps = mk.cls := Option.some.inj (hps.symm.trans (by rw [e]; exact hcy))
      rw [hpm]; simp [Vm.isSubclass, Vm.isSubclassAux]
    · obtain ⟨pq, dq, kq, hpq, hdq, hkq, hsq, -, -, -⟩ := Cond.superclass_spec hps e
      have : pq = mk.cls := Option.some.inj (hpq.symm.trans hcy)
      subst this
      exact sub_one hdq hsq
  obtain ⟨vm₁, X₁, hstep₁⟩ := X.invokespecialUp hexec hown hlink hsame hn hmethM hstM habM hno hdk hnid hps hsuper hsub (a := b) (cell := cellB) hcell
    (fun z h => by rw [h] at hobj; cases hobj) hkB (g := g) hg (argsL := argsL) (rest := rest) (hlen _ hsigM) hstack hdg
  obtain ⟨v, B, X', hpost, hsteps⟩ := hK m meth c ⟨T.setVm vm₁, locs, cells, slots⟩ { g with stack := rest } (.invokespecial index) mk (Value.ref b :: argsL).toArray X₁ hg hsize hdg hW (X₁.named hnamed) (hpre vm₁ X₁.warmed)
  exact ⟨v, vm₁, B, X₁.warmed, X', hpost, fun target h => hstep₁ _ (by rw [doInvoke_state]; exact hsteps.trans h)⟩
abbrev CS2 (R : Room) (s : State) (args : Array Value) (own : String) (index : Nat) (x y : MethodName) (bytes : ByteArray) (maxL : Nat) (ret : Option FieldType) (ws : List Cond) (rm : Room) (mc ms n : Nat) : Prop :=
  (rm.cells = mc ∧ rm.slots = ms ∧ rm.frames + 1 ≤ R.frames ∧ 8 + (maxL + 11) + rm.locals ≤ R.locals ∧ (∀ w ∈ ws, ∀ (a' : Array Value) (U : State), s.WarmedH U.vm → w.before a' U = true) ∧ Cond.code y bytes maxL ret ∈ ws) ∧
  (Cond.methodLink own index x).before args s = true ∧ (Cond.sameMethod x.cls y.cls x.name x.desc).before args s = true ∧ (Cond.superclass own x.cls).before args s = true ∧ (x.cls = y.cls ∨ (Cond.superclass x.cls y.cls).before args s = true) ∧ (y.name = x.name ∧ y.desc = x.desc) ∧
  (Cond.instanceMethod y).before args s = true ∧ (Cond.initialized y.cls).before args s = true ∧ (Cond.code y bytes maxL ret).before args s = true ∧ x.name ≠ "<init>" ∧ (∀ sig, parseMethodDescriptor y.desc = some sig → n = sig.parameters.length)
variable {H : Heap} {locs : List Loc} {cells slots : Nat}
theorem runSU2 {x y : MethodName} {bytes cc : ByteArray} {maxL nL mc ms n index : Nat} {ret : Option FieldType} {ws : List Cond} {rm : Room} {Pc : Array Value → State → Prop} {Qc : Array Value → State → Outcome → State → Prop} {free : Addr → Prop} {Ts : List Cond} {own C : String} {cC : ClassId} {b : Addr} {As rest : List Value} {g : JFrame}
    (hat : ClassAt s C cC) (S : CallFix p m c cc nL s args Ts own) (hM : Met l y ws rm Pc Qc mc ms free) (cw : CS2 R s args own index x y bytes maxL ret ws rm mc ms n) (hp : PreV s H C b Pc As)
    (hg : g.method = m) (hn : As.length = n) (hsize : g.locals.size = nL) (hstack : g.stack = As.reverse ++ .ref b :: rest) (hW : 2 * g.monitorRoom + (rest.map fun v => v.category).sum ≤ 8) (hdg : decode cc g.pc = .ok (.invokespecial index, 3)) (hf : cells + mc ≤ R.cells ∧ slots + ms ≤ R.slots) :
    va_Run p l e R s m args below meth c H locs cells slots mc ms g rest (Qc (Value.ref b :: As).toArray) (free) := by
  obtain ⟨⟨hrc, hrs, hfr, hlo, hws, hcw⟩, hl1, hl2, hl3, hl5, hl6, hl4, hini, hcode, hno, hlen⟩ := cw
  have hK : Back l R p e below s args y 3 8 (PreOf R mc ms Pc) (PostOf Qc mc ms free) := back_of (bytes := bytes) (maxL := maxL) (ret := ret) hM hp.1 hrc hrs hfr hlo hws hcw (fun a' U hW => word_at hW (Or.inl (by first | rfl | simp [Cond.onTables, Cond.keeps, Cond.steady])) hini)
  obtain ⟨hx, hb, hml, ho, -⟩ := S
  obtain ⟨-, ⟨cellB, hcB, hoB, hclB⟩, hPc⟩ := hp
  obtain ⟨hfc, kB, hkB, -⟩ := hat
  cases hfc.symm.trans hclB
  intro T hT X
  obtain ⟨v, vm₁, ⟨U', l2, c2, s2⟩, hW₁, X', ⟨g', mk, t, L, e1, e2, hq, h1, hL, h2, h3⟩, st⟩ := callSU2 X hx (bytes := bytes) (maxL := maxL) (ret := ret) ho hl1 hl2 hl3 hl5 hl6 hl4 hcode hno hK (by rw [hT]; exact hcB) hoB hkB hg (hsize.trans hml.symm) (argsL := As) (rest := rest) (fun sig h => hn.trans (hlen sig h)) hstack hW (by rw [hb]; exact hdg)
    (fun vm₁ hW₁ => ⟨hf.1, hf.2, hPc (T.setVm vm₁) hT hW₁⟩)
  dsimp only [Pt.U, Pt.locs, Pt.cells, Pt.slots] at X' e1 e2 h1 h2 h3 st
  subst h1; subst h2; subst h3
  exact ⟨v, (T.setVm vm₁).calling g' mk (Value.ref b :: As).toArray, t, U', L, hT, X', hL, e1, e2, hq, st⟩
end XSU
section XUP
variable {l : Launch} {Y : MM} {d kc ks : Nat} {N : Nat → Nat → Prop} {pc : Nat} {ls : List (Option AV)} {st : List AV} {kb sb : Nat} {Γ : Gm} {δ : Dl} {r : Rs}
def CU (own : String) (idx : Nat) (C owner : String) (x : MethodName) (Y' : MM) (n : Nat) : Prop := Cond.methodLink own idx x ∈ lwg ∧ Cond.sameMethod x.cls owner x.name x.desc ∈ lwg ∧ Cond.selects C x Y'.1 ∈ lwg ∧ Cond.instanceMethod Y'.1 ∈ lwg ∧ (Y'.1 = ⟨owner, x.name, x.desc⟩ ∨ (Cond.instanceMethod ⟨owner, x.name, x.desc⟩ ∈ lwg ∧ ∃ (b : ByteArray) (k : Nat) (t : Option FieldType), Cond.code ⟨owner, x.name, x.desc⟩ b k t ∈ lwg)) ∧ (owner ≠ "java/lang/invoke/MethodHandle" ∧ owner ≠ "java/lang/invoke/VarHandle") ∧ (parseMethodDescriptor x.desc).map (fun d => d.parameters.length) = some n ∧ MI Y' n
theorem callU_at {args : Array Value} {s : State} {own C owner : String} {idx n d' kc' ks' : Nat} {x : MethodName} {Y' : MM} (hts : ∀ w ∈ lwg, w.before args s = true) (cw : CU own idx C owner x Y' n) (hd' : d' + 1 ≤ d) : va_CU (rmO d kc ks) s args own C owner idx x Y'.1 Y'.2.1 Y'.2.2.1 Y'.2.2.2 (wY Y') (rmO d' kc' ks') kc' ks' n := by
  obtain ⟨h1, h2, h3, h4, h5, h6, h7, hm⟩ := cw
  have hR : (rmO d' kc' ks').frames + 1 ≤ (rmO d kc ks).frames ∧ 8 + (Y'.2.2.1 + 11) + (rmO d' kc' ks').locals ≤ (rmO d kc ks).locals := ⟨hd', by show 8 + (Y'.2.2.1 + 11) + 40 * d' ≤ 40 * d; have := hm.2.2.2.2; omega⟩
  rcases h5 with e | ⟨e1, b, k, t, e2⟩
  · refine va_cwU n hts (fun w hw => ?_) rfl rfl rfl e ⟨h6.1, h6.2, h7⟩ hR
    unfold va_wsU at hw
    rcases List.mem_append.mp hw with h | h
    · have : w ∈ lwg := by
        simp only [List.mem_cons, List.not_mem_nil, or_false] at h
        rcases h with rfl | rfl | rfl | rfl | rfl
        · exact h1
        · exact h2
        · exact h3
        · exact h4
        · exact hm.1
      exact ⟨this, good_of_word (lwg_gd _ this)⟩
    · exact wY_good hm w h
  · refine va_cwO n hts (fun w hw => ?_) rfl rfl rfl e2 ⟨h6.1, h6.2, h7⟩ hR
    unfold va_wsO at hw
    rcases List.mem_append.mp hw with h | h
    · have : w ∈ lwg := by
        simp only [List.mem_cons, List.not_mem_nil, or_false] at h
        rcases h with rfl | rfl | rfl | rfl | rfl | rfl
        · exact h1
        · exact h2
        · exact e1
        · exact h3
        · exact h4
        · exact hm.1
      exact ⟨this, good_of_word (lwg_gd _ this)⟩
    · exact wY_good hm w h
theorem Xe.callU {idx n d' kc' ks' : Nat} {C owner : String} {x : MethodName} {Y' : MM} {N' : Nat → Nat → Prop} {as : List AV} {a ci : Nat} {T : u_T} {nf : Nat} {r' : Rs} (cw : CU Y.1.cls idx C owner x Y' n) (hvc : vwCl[ci]? = some (C, T, nf)) (hci : wcls a = ci) (h0 : Γ 0 a ≠ 0) (hn : as.length = n) (hd' : d' + 1 ≤ d) (hkk : kb + kc' ≤ kc) (hss : sb + ks' ≤ ks) (hst : st.length ≤ 8)
    (hd : decode Y.2.1 pc = .ok (.invokevirtual idx, 3)) (hC : Ct l Y' d' kc' ks' N' (.inr (0, a) :: as) Γ δ r') (hN : ∀ f a, N' f a → N f a ∧ f ≠ 2 ∧ f ≠ 4 ∧ f ≠ 5 ∧ f ≠ 6) (hl : ∀ v, some v ∈ ls → Un N' v) (hs : ∀ v ∈ st, Un N' v)
    (k : Xe l Y d kc ks N (pc + 3) ls (r'.1.toList ++ st) (kb + kc') (sb + ks') r'.2.1 r'.2.2 r) : Xe l Y d kc ks N pc ls (as.reverse ++ .inr (0, a) :: st) kb sb Γ δ r := by
  intro p e s m args below meth c D K A μ0 μ H locs L X
  have hpre := pre_at X (.inr (0, a) :: as)
  obtain ⟨⟨hx, hb, hre, hml, hown, hts, hlk, hnm, hK⟩, x2, x3, x4, x5, x6, x7, x8⟩ := id X
  refine Xe.behind X (va_runU (As := as.map (cv μ)) (rest := st.map (cv μ)) ⟨hx, hb, hml, hown, hts⟩ (hC D K μ H.size) (callU_at (d := d) hts cw hd') ⟨hpre.1, x5.recv hK h0 hci hvc, hpre.2⟩ rfl (by simpa using hn) x8.1 ?_ (lv_room (by rw [sum_cv]; exact hst)) hd ⟨hkk, hss⟩) hN hl hs k
  show (as.reverse ++ .inr (0, a) :: st).map (cv μ) = _
  rw [List.map_append, List.map_reverse]; rfl
def CSU (own : String) (idx : Nat) (x : MethodName) (Y' : MM) (n : Nat) : Prop := Cond.methodLink own idx x ∈ lwg ∧ Cond.sameMethod x.cls Y'.1.cls x.name x.desc ∈ lwg ∧ Cond.superclass own x.cls ∈ lwg ∧ (x.cls = Y'.1.cls ∨ Cond.superclass x.cls Y'.1.cls ∈ lwg) ∧ (Y'.1.name = x.name ∧ Y'.1.desc = x.desc) ∧ Cond.instanceMethod Y'.1 ∈ lwg ∧ x.name ≠ "<init>" ∧ MI Y' n
theorem callSU_at {args : Array Value} {s : State} {own : String} {idx n d' kc' ks' : Nat} {x : MethodName} {Y' : MM} (hts : ∀ w ∈ lwg, w.before args s = true) (cw : CSU own idx x Y' n) (hd' : d' + 1 ≤ d) (hts2 : ∀ w ∈ wY Y', ∀ (a' : Array Value) (U : State), s.WarmedH U.vm → w.before a' U = true) : CS2 (rmO d kc ks) s args own idx x Y'.1 Y'.2.1 Y'.2.2.1 Y'.2.2.2 (wY Y') (rmO d' kc' ks') kc' ks' n := by
  obtain ⟨h1, h2, h3, h4, h5, h6, h7, hm⟩ := cw
  refine ⟨⟨rfl, rfl, hd', by show 8 + (Y'.2.2.1 + 11) + 40 * d' ≤ 40 * d; have := hm.2.2.2.2; omega, hts2, List.mem_cons_self⟩, hts _ h1, hts _ h2, hts _ h3, h4.imp id (hts _), h5, hts _ h6, hts _ hm.1, hts _ hm.2.1, h7, fun sig h => ?_⟩
  have h8 := hm.2.2.2.1
  rw [h] at h8
  exact (Option.some.inj h8).symm
theorem Xe.callSU {idx n d' kc' ks' : Nat} {C : String} {x : MethodName} {Y' : MM} {N' : Nat → Nat → Prop} {as : List AV} {a ci : Nat} {T : u_T} {nf : Nat} {r' : Rs} (cw : CSU Y.1.cls idx x Y' n) (hvc : vwCl[ci]? = some (C, T, nf)) (hci : wcls a = ci) (h0 : Γ 0 a ≠ 0) (hn : as.length = n) (hd' : d' + 1 ≤ d) (hkk : kb + kc' ≤ kc) (hss : sb + ks' ≤ ks) (hst : st.length ≤ 8)
    (hd : decode Y.2.1 pc = .ok (.invokespecial idx, 3)) (hC : Ct l Y' d' kc' ks' N' (.inr (0, a) :: as) Γ δ r') (hN : ∀ f a, N' f a → N f a ∧ f ≠ 2 ∧ f ≠ 4 ∧ f ≠ 5 ∧ f ≠ 6) (hl : ∀ v, some v ∈ ls → Un N' v) (hs : ∀ v ∈ st, Un N' v)
    (k : Xe l Y d kc ks N (pc + 3) ls (r'.1.toList ++ st) (kb + kc') (sb + ks') r'.2.1 r'.2.2 r) : Xe l Y d kc ks N pc ls (as.reverse ++ .inr (0, a) :: st) kb sb Γ δ r := by
  intro p e s m args below meth c D K A μ0 μ H locs L X
  have hpre := pre_at X (.inr (0, a) :: as)
  obtain ⟨⟨hx, hb, hre, hml, hown, hts, hlk, hnm, hK⟩, x2, x3, x4, x5, x6, x7, x8⟩ := id X
  refine Xe.behind X (runSU2 (As := as.map (cv μ)) (rest := st.map (cv μ)) (hK.1 ci _ hvc).2 ⟨hx, hb, hml, hown, hts⟩ (hC D K μ H.size) (callSU_at (d := d) hts cw hd' (pay_in hts (wY_good cw.2.2.2.2.2.2.2))) ⟨hpre.1, x5.recv hK h0 hci hvc, hpre.2⟩ rfl (by simpa using hn) x8.1 ?_ (lv_room (by rw [sum_cv]; exact hst)) hd ⟨hkk, hss⟩) hN hl hs k
  show (as.reverse ++ .inr (0, a) :: st).map (cv μ) = _
  rw [List.map_append, List.map_reverse]; rfl
theorem y_U1 {idx d' ci nf : Nat} {C owner : String} {x : MethodName} {T : u_T} {Y' : MM} {x1 : AV} {a : Nat} {δ' : Dl} {v : AV} (cw : CU Y.1.cls idx C owner x Y' 1) (hvc : vwCl[ci]? = some (C, T, nf)) (ha : Ob Γ a ci) (hd' : d' + 1 ≤ d) (hst : st.length ≤ 8) (hd : decode Y.2.1 pc = .ok (.invokevirtual idx, 3)) (hC : Ct l Y' d' 0 0 NF (.inr (0, a) :: [x1]) Γ δ (some v, Γ, δ')) (hkk : kb + 0 ≤ kc) (hss : sb + 0 ≤ ks) (k : Xe l Y d kc ks N (pc + 3) ls (v :: st) kb sb Γ δ' r) : Xe l Y d kc ks N pc ls (x1 :: .inr (0, a) :: st) kb sb Γ δ r :=
  Xe.callU (as := [x1]) cw hvc ha.1 ha.z rfl hd' hkk hss hst hd hC (fun _ _ h => h.elim) (fun v _ => by cases v <;> first | trivial | exact fun h => h) (fun v _ => by cases v <;> first | trivial | exact fun h => h) k
theorem y_U1v {idx d' ci nf : Nat} {C owner : String} {x : MethodName} {T : u_T} {Y' : MM} {x1 : AV} {a : Nat} {δ' : Dl} (cw : CU Y.1.cls idx C owner x Y' 1) (hvc : vwCl[ci]? = some (C, T, nf)) (ha : Ob Γ a ci) (hd' : d' + 1 ≤ d) (hst : st.length ≤ 8) (hd : decode Y.2.1 pc = .ok (.invokevirtual idx, 3)) (hC : Ct l Y' d' 0 0 NF (.inr (0, a) :: [x1]) Γ δ (none, Γ, δ')) (hkk : kb + 0 ≤ kc) (hss : sb + 0 ≤ ks) (k : Xe l Y d kc ks N (pc + 3) ls st kb sb Γ δ' r) : Xe l Y d kc ks N pc ls (x1 :: .inr (0, a) :: st) kb sb Γ δ r :=
  Xe.callU (as := [x1]) cw hvc ha.1 ha.z rfl hd' hkk hss hst hd hC (fun _ _ h => h.elim) (fun v _ => by cases v <;> first | trivial | exact fun h => h) (fun v _ => by cases v <;> first | trivial | exact fun h => h) k
theorem y_P1 {idx d' ci nf : Nat} {C : String} {x : MethodName} {T : u_T} {Y' : MM} {x1 : AV} {a : Nat} {δ' : Dl} {v : AV} (cw : CSU Y.1.cls idx x Y' 1) (hvc : vwCl[ci]? = some (C, T, nf)) (ha : Ob Γ a ci) (hd' : d' + 1 ≤ d) (hst : st.length ≤ 8) (hd : decode Y.2.1 pc = .ok (.invokespecial idx, 3)) (hC : Ct l Y' d' 0 0 NF (.inr (0, a) :: [x1]) Γ δ (some v, Γ, δ')) (hkk : kb + 0 ≤ kc) (hss : sb + 0 ≤ ks) (k : Xe l Y d kc ks N (pc + 3) ls (v :: st) kb sb Γ δ' r) : Xe l Y d kc ks N pc ls (x1 :: .inr (0, a) :: st) kb sb Γ δ r :=
  Xe.callSU (as := [x1]) cw hvc ha.1 ha.z rfl hd' hkk hss hst hd hC (fun _ _ h => h.elim) (fun v _ => by cases v <;> first | trivial | exact fun h => h) (fun v _ => by cases v <;> first | trivial | exact fun h => h) k
end XUP
abbrev M_Or_runs : MM := (⟨RX2, "runs", "(I)I"⟩, prog_4_method_2_code, 2, (some .int))
theorem d_Or_runs_0 : decode M_Or_runs.2.1 0 = .ok (.aload_n 0, 1) := by decide +kernel
theorem d_Or_runs_1 : decode M_Or_runs.2.1 1 = .ok (.bipush 20, 2) := by decide +kernel
theorem d_Or_runs_3 : decode M_Or_runs.2.1 3 = .ok (.invokevirtual 7, 3) := by decide +kernel
theorem d_Or_runs_6 : decode M_Or_runs.2.1 6 = .ok (.aload_n 0, 1) := by decide +kernel
theorem d_Or_runs_7 : decode M_Or_runs.2.1 7 = .ok (.iload_n 1, 1) := by decide +kernel
theorem d_Or_runs_8 : decode M_Or_runs.2.1 8 = .ok (.invokespecial 13, 3) := by decide +kernel
theorem d_Or_runs_11 : decode M_Or_runs.2.1 11 = .ok (.aload_n 0, 1) := by decide +kernel
theorem d_Or_runs_12 : decode M_Or_runs.2.1 12 = .ok (.getfield 17, 3) := by decide +kernel
theorem d_Or_runs_15 : decode M_Or_runs.2.1 15 = .ok (.isub, 1) := by decide +kernel
theorem d_Or_runs_16 : decode M_Or_runs.2.1 16 = .ok (.ireturn, 1) := by decide +kernel
abbrev M_Fa_begins : MM := (⟨RX1, "begins", "(I)V"⟩, prog_3_method_2_code, 2, none)
theorem d_Fa_begins_0 : decode M_Fa_begins.2.1 0 = .ok (.aload_n 0, 1) := by decide +kernel
theorem d_Fa_begins_1 : decode M_Fa_begins.2.1 1 = .ok (.getfield 9, 3) := by decide +kernel
theorem d_Fa_begins_4 : decode M_Fa_begins.2.1 4 = .ok (.ifCond .lt 22, 3) := by decide +kernel
theorem d_Fa_begins_7 : decode M_Fa_begins.2.1 7 = .ok (.aload_n 0, 1) := by decide +kernel
theorem d_Fa_begins_8 : decode M_Fa_begins.2.1 8 = .ok (.getfield 9, 3) := by decide +kernel
theorem d_Fa_begins_11 : decode M_Fa_begins.2.1 11 = .ok (.bipush 30, 2) := by decide +kernel
theorem d_Fa_begins_13 : decode M_Fa_begins.2.1 13 = .ok (.if_icmp .ge 13, 3) := by decide +kernel
theorem d_Fa_begins_16 : decode M_Fa_begins.2.1 16 = .ok (.aload_n 0, 1) := by decide +kernel
theorem d_Fa_begins_17 : decode M_Fa_begins.2.1 17 = .ok (.getfield 15, 3) := by decide +kernel
theorem d_Fa_begins_20 : decode M_Fa_begins.2.1 20 = .ok (.aload_n 0, 1) := by decide +kernel
theorem d_Fa_begins_21 : decode M_Fa_begins.2.1 21 = .ok (.getfield 9, 3) := by decide +kernel
theorem d_Fa_begins_24 : decode M_Fa_begins.2.1 24 = .ok (.iload_n 1, 1) := by decide +kernel
theorem d_Fa_begins_25 : decode M_Fa_begins.2.1 25 = .ok (.iastore, 1) := by decide +kernel
theorem d_Fa_begins_26 : decode M_Fa_begins.2.1 26 = .ok (.aload_n 0, 1) := by decide +kernel
theorem d_Fa_begins_27 : decode M_Fa_begins.2.1 27 = .ok (.dup, 1) := by decide +kernel
theorem d_Fa_begins_28 : decode M_Fa_begins.2.1 28 = .ok (.getfield 9, 3) := by decide +kernel
theorem d_Fa_begins_31 : decode M_Fa_begins.2.1 31 = .ok (.iconst 1, 1) := by decide +kernel
theorem d_Fa_begins_32 : decode M_Fa_begins.2.1 32 = .ok (.iadd, 1) := by decide +kernel
theorem d_Fa_begins_33 : decode M_Fa_begins.2.1 33 = .ok (.putfield 9, 3) := by decide +kernel
theorem d_Fa_begins_36 : decode M_Fa_begins.2.1 36 = .ok (.return_, 1) := by decide +kernel
theorem gl_Fa_9_2 : GL RX1 9 2 2 := ⟨RX2, TX2, 4, RX1, rfl, by decide, (lwg_at 940 (by decide +kernel) rfl), Or.inl rfl, gl_w inX2⟩
theorem gp_Fa_9_2 : GP RX1 9 2 2 false .int := ⟨RX2, TX2, 4, RX1, tyX2, rfl, by decide, (lwg_at 940 (by decide +kernel) rfl), rfl, gl_w inX2, tyX2_ok, nmX2, rfl, by decide +kernel, fun h => by first | rfl | cases h⟩
theorem gl_Fa_15_2 : GL RX1 15 2 3 := ⟨RX2, TX2, 4, RX1, rfl, by decide, (lwg_at 942 (by decide +kernel) rfl), Or.inl rfl, gl_w inX2⟩
def F_Fa_begins_2 (a : Nat) (x : Int32) (δ : Dl) : Option (Dl) := (if (δ.1 22 a) < 0 then (some (sI δ 22 a ((δ.1 22 a) + 1))) else ((if 30 ≤ (δ.1 22 a) then (some (sI δ 22 a ((δ.1 22 a) + 1))) else (((if inb (δ.1 22 a) 30 then (some (sI (sA δ 23 a (δ.1 22 a) x) 22 a (((sA δ 23 a (δ.1 22 a) x).1 22 a) + 1))) else none))))))
set_option maxRecDepth 40000 in
set_option maxHeartbeats 4000000 in
theorem c_Fa_begins_2 {l : Launch} {Γ : Gm} {a : Nat} (oa : Ob Γ a 2) (x : Int32) (δ : Dl) (r : Dl) (h : F_Fa_begins_2 a x δ = some r) : Ct l M_Fa_begins 0 0 0 NF [.inr (0, a), .inl x] Γ δ (none, Γ, r) := by
  unfold F_Fa_begins_2 at h
  refine Ct.of2 (n := 0) (ls := [some (.inr (0, a)), some (.inl x)]) rfl (by decide +kernel) (Nat.le_of_ble_eq_true rfl) ?_
  refine x_aload_n (i := 0) d_Fa_begins_0 rfl rfl ?_
  refine x_getI (f := 22) gl_Fa_9_2 rfl (by decide) oa d_Fa_begins_1 ?_
  refine x_if_lt (tgt := 26) d_Fa_begins_4 (by decide) (fun c4 => ?_) (fun c4 => ?_)
  · have h := if_t c4 h
    refine x_aload_n (i := 0) d_Fa_begins_26 rfl rfl ?_
    refine x_dup d_Fa_begins_27 ?_
    refine x_getI (f := 22) gl_Fa_9_2 rfl (by decide) oa d_Fa_begins_28 ?_
    refine x_ic (v := 1) d_Fa_begins_31 (by decide) ?_
    refine x_iadd d_Fa_begins_32 ?_
    refine x_putI gp_Fa_9_2 rfl (by decide) (fun h => by cases h) rfl rfl oa.1 oa.z d_Fa_begins_33 ?_
    cases h
    exact x_vret rfl d_Fa_begins_36 (Nat.le_refl 0) (Nat.le_refl 0)
  · have h := if_f c4 h
    refine x_aload_n (i := 0) d_Fa_begins_7 rfl rfl ?_
    refine x_getI (f := 22) gl_Fa_9_2 rfl (by decide) oa d_Fa_begins_8 ?_
    refine x_bi (v := 30) d_Fa_begins_11 (by decide) ?_
    refine x_cmp_ge (tgt := 26) d_Fa_begins_13 (by decide) (fun c13 => ?_) (fun c13 => ?_)
    · have h := if_t c13 h
      refine x_aload_n (i := 0) d_Fa_begins_26 rfl rfl ?_
      refine x_dup d_Fa_begins_27 ?_
      refine x_getI (f := 22) gl_Fa_9_2 rfl (by decide) oa d_Fa_begins_28 ?_
      refine x_ic (v := 1) d_Fa_begins_31 (by decide) ?_
      refine x_iadd d_Fa_begins_32 ?_
      refine x_putI gp_Fa_9_2 rfl (by decide) (fun h => by cases h) rfl rfl oa.1 oa.z d_Fa_begins_33 ?_
      cases h
      exact x_vret rfl d_Fa_begins_36 (Nat.le_refl 0) (Nat.le_refl 0)
    · have h := if_f c13 h
      refine x_aload_n (i := 0) d_Fa_begins_16 rfl rfl ?_
      refine x_getA (f := 23) gl_Fa_15_2 rfl (by decide) oa d_Fa_begins_17 ?_
      refine x_aload_n (i := 0) d_Fa_begins_20 rfl rfl ?_
      refine x_getI (f := 22) gl_Fa_9_2 rfl (by decide) oa d_Fa_begins_21 ?_
      refine x_iload_n (i := 1) d_Fa_begins_24 rfl rfl ?_
      obtain ⟨g25, h⟩ := gd_e h
      refine x_iast (n := 30) (by decide) (by rw [oa.at (j := 3) (f := 23) rfl (by decide) rfl]; decide) (by rfl) g25 d_Fa_begins_25 ?_
      refine x_aload_n (i := 0) d_Fa_begins_26 rfl rfl ?_
      refine x_dup d_Fa_begins_27 ?_
      refine x_getI (f := 22) gl_Fa_9_2 rfl (by decide) oa d_Fa_begins_28 ?_
      refine x_ic (v := 1) d_Fa_begins_31 (by decide) ?_
      refine x_iadd d_Fa_begins_32 ?_
      refine x_putI gp_Fa_9_2 rfl (by decide) (fun h => by cases h) rfl rfl oa.1 oa.z d_Fa_begins_33 ?_
      cases h
      exact x_vret rfl d_Fa_begins_36 (Nat.le_refl 0) (Nat.le_refl 0)
theorem mi_Fa_begins : MI M_Fa_begins 1 := ⟨(lwg_at 16 (by decide +kernel) rfl), (lwg_at 994 (by decide +kernel) rfl), ⟨by decide +kernel, by decide +kernel⟩, by decide +kernel, by decide⟩
theorem cu_Or_7_2 : CU RX2 7 RX2 RX1 ⟨RX2, "begins", "(I)V"⟩ M_Fa_begins 1 := ⟨(lwg_at 988 (by decide +kernel) rfl), (lwg_at 989 (by decide +kernel) rfl), (lwg_at 991 (by decide +kernel) rfl), (lwg_at 993 (by decide +kernel) rfl), Or.inl rfl, ⟨by decide +kernel, by decide +kernel⟩, by decide +kernel, mi_Fa_begins⟩
abbrev M_Fa_runs : MM := (⟨RX1, "runs", "(I)I"⟩, prog_3_method_4_code, 2, (some .int))
theorem d_Fa_runs_0 : decode M_Fa_runs.2.1 0 = .ok (.aload_n 0, 1) := by decide +kernel
theorem d_Fa_runs_1 : decode M_Fa_runs.2.1 1 = .ok (.bipush 10, 2) := by decide +kernel
theorem d_Fa_runs_3 : decode M_Fa_runs.2.1 3 = .ok (.invokevirtual 25, 3) := by decide +kernel
theorem d_Fa_runs_6 : decode M_Fa_runs.2.1 6 = .ok (.iload_n 1, 1) := by decide +kernel
theorem d_Fa_runs_7 : decode M_Fa_runs.2.1 7 = .ok (.aload_n 0, 1) := by decide +kernel
theorem d_Fa_runs_8 : decode M_Fa_runs.2.1 8 = .ok (.getfield 19, 3) := by decide +kernel
theorem d_Fa_runs_11 : decode M_Fa_runs.2.1 11 = .ok (.iadd, 1) := by decide +kernel
theorem d_Fa_runs_12 : decode M_Fa_runs.2.1 12 = .ok (.ireturn, 1) := by decide +kernel
theorem cu_Fa_25_2 : CU RX1 25 RX2 RX1 ⟨RX1, "begins", "(I)V"⟩ M_Fa_begins 1 := ⟨(lwg_at 1008 (by decide +kernel) rfl), (lwg_at 1759 (by decide +kernel) rfl), (lwg_at 1760 (by decide +kernel) rfl), (lwg_at 993 (by decide +kernel) rfl), Or.inl rfl, ⟨by decide +kernel, by decide +kernel⟩, by decide +kernel, mi_Fa_begins⟩
theorem gl_Fa_19_2 : GL RX1 19 2 0 := ⟨RX2, TX2, 4, RX1, rfl, by decide, (lwg_at 936 (by decide +kernel) rfl), Or.inl rfl, gl_w inX2⟩
def F_Fa_runs_2 (a : Nat) (x : Int32) (δ : Dl) : Option (Int32 × Dl) := ((F_Fa_begins_2 a 10 δ).bind fun δ3 => some ((x + (δ3.1 20 a)), δ3))
set_option maxRecDepth 40000 in
set_option maxHeartbeats 4000000 in
theorem c_Fa_runs_2 {l : Launch} {Γ : Gm} {a : Nat} (oa : Ob Γ a 2) (x : Int32) (δ : Dl) (r : Int32 × Dl) (h : F_Fa_runs_2 a x δ = some r) : Ct l M_Fa_runs 1 0 0 NF [.inr (0, a), .inl x] Γ δ (some (.inl r.1), Γ, r.2) := by
  unfold F_Fa_runs_2 at h
  refine Ct.of2 (n := 0) (ls := [some (.inr (0, a)), some (.inl x)]) rfl (by decide +kernel) (Nat.le_of_ble_eq_true rfl) ?_
  refine x_aload_n (i := 0) d_Fa_runs_0 rfl rfl ?_
  refine x_bi (v := 10) d_Fa_runs_1 (by decide) ?_
  obtain ⟨δ3, e3, h⟩ := bd_e h
  refine y_U1v cu_Fa_25_2 rfl oa (by decide) (Nat.le_of_ble_eq_true rfl) d_Fa_runs_3 (c_Fa_begins_2 oa 10 _ _ e3) (Nat.le_refl 0) (Nat.le_refl 0) ?_
  refine x_iload_n (i := 1) d_Fa_runs_6 rfl rfl ?_
  refine x_aload_n (i := 0) d_Fa_runs_7 rfl rfl ?_
  refine x_getI (f := 20) gl_Fa_19_2 rfl (by decide) oa d_Fa_runs_8 ?_
  refine x_iadd d_Fa_runs_11 ?_
  cases h
  exact x_iret rfl d_Fa_runs_12 (Nat.le_refl 0) (Nat.le_refl 0)
theorem mi_Fa_runs : MI M_Fa_runs 1 := ⟨(lwg_at 16 (by decide +kernel) rfl), (lwg_at 1007 (by decide +kernel) rfl), ⟨by decide +kernel, by decide +kernel⟩, by decide +kernel, by decide⟩
theorem csu_Or_13 : CSU RX2 13 ⟨RX1, "runs", "(I)I"⟩ M_Fa_runs 1 := ⟨(lwg_at 995 (by decide +kernel) rfl), (lwg_at 984 (by decide +kernel) rfl), (lwg_at 959 (by decide +kernel) rfl), Or.inl rfl, ⟨rfl, rfl⟩, (lwg_at 983 (by decide +kernel) rfl), by decide, mi_Fa_runs⟩
theorem gl_Or_17_2 : GL RX2 17 2 1 := ⟨RX2, TX2, 4, RX2, rfl, by decide, (lwg_at 938 (by decide +kernel) rfl), Or.inr (lwg_at 939 (by decide +kernel) rfl), gl_w inX2⟩
def F_Or_runs_2 (a : Nat) (x : Int32) (δ : Dl) : Option (Int32 × Dl) := ((F_Fa_begins_2 a 20 δ).bind fun δ3 => bd2 (F_Fa_runs_2 a x δ3) fun v8 δ8 => some ((v8 - (δ8.1 21 a)), δ8))
set_option maxRecDepth 40000 in
set_option maxHeartbeats 4000000 in
theorem c_Or_runs_2 {l : Launch} {Γ : Gm} {a : Nat} (oa : Ob Γ a 2) (x : Int32) (δ : Dl) (r : Int32 × Dl) (h : F_Or_runs_2 a x δ = some r) : Ct l M_Or_runs 2 0 0 NF [.inr (0, a), .inl x] Γ δ (some (.inl r.1), Γ, r.2) := by
  unfold F_Or_runs_2 at h
  refine Ct.of2 (n := 0) (ls := [some (.inr (0, a)), some (.inl x)]) rfl (by decide +kernel) (Nat.le_of_ble_eq_true rfl) ?_
  refine x_aload_n (i := 0) d_Or_runs_0 rfl rfl ?_
  refine x_bi (v := 20) d_Or_runs_1 (by decide) ?_
  obtain ⟨δ3, e3, h⟩ := bd_e h
  refine y_U1v cu_Or_7_2 rfl oa (by decide) (Nat.le_of_ble_eq_true rfl) d_Or_runs_3 (c_Fa_begins_2 oa 20 _ _ e3) (Nat.le_refl 0) (Nat.le_refl 0) ?_
  refine x_aload_n (i := 0) d_Or_runs_6 rfl rfl ?_
  refine x_iload_n (i := 1) d_Or_runs_7 rfl rfl ?_
  obtain ⟨v8, δ8, e8, h⟩ := bd2_e h
  refine y_P1 csu_Or_13 rfl oa (by decide) (Nat.le_of_ble_eq_true rfl) d_Or_runs_8 (c_Fa_runs_2 oa x _ _ e8) (Nat.le_refl 0) (Nat.le_refl 0) ?_
  refine x_aload_n (i := 0) d_Or_runs_11 rfl rfl ?_
  refine x_getI (f := 21) gl_Or_17_2 rfl (by decide) oa d_Or_runs_12 ?_
  refine x_isub d_Or_runs_15 ?_
  cases h
  exact x_iret rfl d_Or_runs_16 (Nat.le_refl 0) (Nat.le_refl 0)
abbrev M_Fa_costs : MM := (⟨RX1, "costs", "(I)I"⟩, prog_3_method_5_code, 2, (some .int))
theorem d_Fa_costs_0 : decode M_Fa_costs.2.1 0 = .ok (.aload_n 0, 1) := by decide +kernel
theorem d_Fa_costs_1 : decode M_Fa_costs.2.1 1 = .ok (.bipush 11, 2) := by decide +kernel
theorem d_Fa_costs_3 : decode M_Fa_costs.2.1 3 = .ok (.invokevirtual 25, 3) := by decide +kernel
theorem d_Fa_costs_6 : decode M_Fa_costs.2.1 6 = .ok (.aload_n 0, 1) := by decide +kernel
theorem d_Fa_costs_7 : decode M_Fa_costs.2.1 7 = .ok (.iload_n 1, 1) := by decide +kernel
theorem d_Fa_costs_8 : decode M_Fa_costs.2.1 8 = .ok (.invokevirtual 29, 3) := by decide +kernel
theorem d_Fa_costs_11 : decode M_Fa_costs.2.1 11 = .ok (.iconst 2, 1) := by decide +kernel
theorem d_Fa_costs_12 : decode M_Fa_costs.2.1 12 = .ok (.imul, 1) := by decide +kernel
theorem d_Fa_costs_13 : decode M_Fa_costs.2.1 13 = .ok (.ireturn, 1) := by decide +kernel
theorem mi_Or_runs : MI M_Or_runs 1 := ⟨(lwg_at 17 (by decide +kernel) rfl), (lwg_at 987 (by decide +kernel) rfl), ⟨by decide +kernel, by decide +kernel⟩, by decide +kernel, by decide⟩
theorem cu_Fa_29_2 : CU RX1 29 RX2 RX1 ⟨RX1, "runs", "(I)I"⟩ M_Or_runs 1 := ⟨(lwg_at 1032 (by decide +kernel) rfl), (lwg_at 984 (by decide +kernel) rfl), (lwg_at 985 (by decide +kernel) rfl), (lwg_at 986 (by decide +kernel) rfl), Or.inr ⟨(lwg_at 983 (by decide +kernel) rfl), prog_3_method_4_code, 2, (Option.some FieldType.int), (lwg_at 1007 (by decide +kernel) rfl)⟩, ⟨by decide +kernel, by decide +kernel⟩, by decide +kernel, mi_Or_runs⟩
def F_Fa_costs_2 (a : Nat) (x : Int32) (δ : Dl) : Option (Int32 × Dl) := ((F_Fa_begins_2 a 11 δ).bind fun δ3 => bd2 (F_Or_runs_2 a x δ3) fun v8 δ8 => some ((v8 * 2), δ8))
set_option maxRecDepth 40000 in
set_option maxHeartbeats 4000000 in
theorem c_Fa_costs_2 {l : Launch} {Γ : Gm} {a : Nat} (oa : Ob Γ a 2) (x : Int32) (δ : Dl) (r : Int32 × Dl) (h : F_Fa_costs_2 a x δ = some r) : Ct l M_Fa_costs 3 0 0 NF [.inr (0, a), .inl x] Γ δ (some (.inl r.1), Γ, r.2) := by
  unfold F_Fa_costs_2 at h
  refine Ct.of2 (n := 0) (ls := [some (.inr (0, a)), some (.inl x)]) rfl (by decide +kernel) (Nat.le_of_ble_eq_true rfl) ?_
  refine x_aload_n (i := 0) d_Fa_costs_0 rfl rfl ?_
  refine x_bi (v := 11) d_Fa_costs_1 (by decide) ?_
  obtain ⟨δ3, e3, h⟩ := bd_e h
  refine y_U1v cu_Fa_25_2 rfl oa (by decide) (Nat.le_of_ble_eq_true rfl) d_Fa_costs_3 (c_Fa_begins_2 oa 11 _ _ e3) (Nat.le_refl 0) (Nat.le_refl 0) ?_
  refine x_aload_n (i := 0) d_Fa_costs_6 rfl rfl ?_
  refine x_iload_n (i := 1) d_Fa_costs_7 rfl rfl ?_
  obtain ⟨v8, δ8, e8, h⟩ := bd2_e h
  refine y_U1 cu_Fa_29_2 rfl oa (by decide) (Nat.le_of_ble_eq_true rfl) d_Fa_costs_8 (c_Or_runs_2 oa x _ _ e8) (Nat.le_refl 0) (Nat.le_refl 0) ?_
  refine x_ic (v := 2) d_Fa_costs_11 (by decide) ?_
  refine x_imul d_Fa_costs_12 ?_
  cases h
  exact x_iret rfl d_Fa_costs_13 (Nat.le_refl 0) (Nat.le_refl 0)
abbrev M_Fa_tells : MM := (⟨RX1, "tells", "(I)I"⟩, prog_3_method_6_code, 2, (some .int))
theorem d_Fa_tells_0 : decode M_Fa_tells.2.1 0 = .ok (.aload_n 0, 1) := by decide +kernel
theorem d_Fa_tells_1 : decode M_Fa_tells.2.1 1 = .ok (.bipush 12, 2) := by decide +kernel
theorem d_Fa_tells_3 : decode M_Fa_tells.2.1 3 = .ok (.invokevirtual 25, 3) := by decide +kernel
theorem d_Fa_tells_6 : decode M_Fa_tells.2.1 6 = .ok (.aload_n 0, 1) := by decide +kernel
theorem d_Fa_tells_7 : decode M_Fa_tells.2.1 7 = .ok (.iload_n 1, 1) := by decide +kernel
theorem d_Fa_tells_8 : decode M_Fa_tells.2.1 8 = .ok (.invokevirtual 33, 3) := by decide +kernel
theorem d_Fa_tells_11 : decode M_Fa_tells.2.1 11 = .ok (.aload_n 0, 1) := by decide +kernel
theorem d_Fa_tells_12 : decode M_Fa_tells.2.1 12 = .ok (.iload_n 1, 1) := by decide +kernel
theorem d_Fa_tells_13 : decode M_Fa_tells.2.1 13 = .ok (.aload_n 0, 1) := by decide +kernel
theorem d_Fa_tells_14 : decode M_Fa_tells.2.1 14 = .ok (.getfield 22, 3) := by decide +kernel
theorem d_Fa_tells_17 : decode M_Fa_tells.2.1 17 = .ok (.iadd, 1) := by decide +kernel
theorem d_Fa_tells_18 : decode M_Fa_tells.2.1 18 = .ok (.invokevirtual 29, 3) := by decide +kernel
theorem d_Fa_tells_21 : decode M_Fa_tells.2.1 21 = .ok (.ixor, 1) := by decide +kernel
theorem d_Fa_tells_22 : decode M_Fa_tells.2.1 22 = .ok (.ireturn, 1) := by decide +kernel
theorem mi_Fa_costs : MI M_Fa_costs 1 := ⟨(lwg_at 16 (by decide +kernel) rfl), (lwg_at 1031 (by decide +kernel) rfl), ⟨by decide +kernel, by decide +kernel⟩, by decide +kernel, by decide⟩
theorem cu_Fa_33_2 : CU RX1 33 RX2 RX1 ⟨RX1, "costs", "(I)I"⟩ M_Fa_costs 1 := ⟨(lwg_at 1054 (by decide +kernel) rfl), (lwg_at 1011 (by decide +kernel) rfl), (lwg_at 1012 (by decide +kernel) rfl), (lwg_at 1010 (by decide +kernel) rfl), Or.inl rfl, ⟨by decide +kernel, by decide +kernel⟩, by decide +kernel, mi_Fa_costs⟩
theorem gl_Fa_22_2 : GL RX1 22 2 1 := ⟨RX2, TX2, 4, RX1, rfl, by decide, (lwg_at 937 (by decide +kernel) rfl), Or.inl rfl, gl_w inX2⟩
def F_Fa_tells_2 (a : Nat) (x : Int32) (δ : Dl) : Option (Int32 × Dl) := ((F_Fa_begins_2 a 12 δ).bind fun δ3 => bd2 (F_Fa_costs_2 a x δ3) fun v8 δ8 => bd2 (F_Or_runs_2 a (x + (δ8.1 21 a)) δ8) fun v18 δ18 => some ((v8 ^^^ v18), δ18))
set_option maxRecDepth 40000 in
set_option maxHeartbeats 4000000 in
theorem c_Fa_tells_2 {l : Launch} {Γ : Gm} {a : Nat} (oa : Ob Γ a 2) (x : Int32) (δ : Dl) (r : Int32 × Dl) (h : F_Fa_tells_2 a x δ = some r) : Ct l M_Fa_tells 4 0 0 NF [.inr (0, a), .inl x] Γ δ (some (.inl r.1), Γ, r.2) := by
  unfold F_Fa_tells_2 at h
  refine Ct.of2 (n := 0) (ls := [some (.inr (0, a)), some (.inl x)]) rfl (by decide +kernel) (Nat.le_of_ble_eq_true rfl) ?_
  refine x_aload_n (i := 0) d_Fa_tells_0 rfl rfl ?_
  refine x_bi (v := 12) d_Fa_tells_1 (by decide) ?_
  obtain ⟨δ3, e3, h⟩ := bd_e h
  refine y_U1v cu_Fa_25_2 rfl oa (by decide) (Nat.le_of_ble_eq_true rfl) d_Fa_tells_3 (c_Fa_begins_2 oa 12 _ _ e3) (Nat.le_refl 0) (Nat.le_refl 0) ?_
  refine x_aload_n (i := 0) d_Fa_tells_6 rfl rfl ?_
  refine x_iload_n (i := 1) d_Fa_tells_7 rfl rfl ?_
  obtain ⟨v8, δ8, e8, h⟩ := bd2_e h
  refine y_U1 cu_Fa_33_2 rfl oa (by decide) (Nat.le_of_ble_eq_true rfl) d_Fa_tells_8 (c_Fa_costs_2 oa x _ _ e8) (Nat.le_refl 0) (Nat.le_refl 0) ?_
  refine x_aload_n (i := 0) d_Fa_tells_11 rfl rfl ?_
  refine x_iload_n (i := 1) d_Fa_tells_12 rfl rfl ?_
  refine x_aload_n (i := 0) d_Fa_tells_13 rfl rfl ?_
  refine x_getI (f := 21) gl_Fa_22_2 rfl (by decide) oa d_Fa_tells_14 ?_
  refine x_iadd d_Fa_tells_17 ?_
  obtain ⟨v18, δ18, e18, h⟩ := bd2_e h
  refine y_U1 cu_Fa_29_2 rfl oa (by decide) (Nat.le_of_ble_eq_true rfl) d_Fa_tells_18 (c_Or_runs_2 oa (x + (δ8.1 21 a)) _ _ e18) (Nat.le_refl 0) (Nat.le_refl 0) ?_
  refine x_ixor d_Fa_tells_21 ?_
  cases h
  exact x_iret rfl d_Fa_tells_22 (Nat.le_refl 0) (Nat.le_refl 0)
abbrev M_Fa_bodyAt : MM := (⟨RX1, "bodyAt", "(I)I"⟩, prog_3_method_3_code, 2, (some .int))
theorem d_Fa_bodyAt_0 : decode M_Fa_bodyAt.2.1 0 = .ok (.iload_n 1, 1) := by decide +kernel
theorem d_Fa_bodyAt_1 : decode M_Fa_bodyAt.2.1 1 = .ok (.ifCond .lt 26, 3) := by decide +kernel
theorem d_Fa_bodyAt_4 : decode M_Fa_bodyAt.2.1 4 = .ok (.iload_n 1, 1) := by decide +kernel
theorem d_Fa_bodyAt_5 : decode M_Fa_bodyAt.2.1 5 = .ok (.aload_n 0, 1) := by decide +kernel
theorem d_Fa_bodyAt_6 : decode M_Fa_bodyAt.2.1 6 = .ok (.getfield 9, 3) := by decide +kernel
theorem d_Fa_bodyAt_9 : decode M_Fa_bodyAt.2.1 9 = .ok (.if_icmp .ge 18, 3) := by decide +kernel
theorem d_Fa_bodyAt_12 : decode M_Fa_bodyAt.2.1 12 = .ok (.iload_n 1, 1) := by decide +kernel
theorem d_Fa_bodyAt_13 : decode M_Fa_bodyAt.2.1 13 = .ok (.bipush 30, 2) := by decide +kernel
theorem d_Fa_bodyAt_15 : decode M_Fa_bodyAt.2.1 15 = .ok (.if_icmp .ge 12, 3) := by decide +kernel
theorem d_Fa_bodyAt_18 : decode M_Fa_bodyAt.2.1 18 = .ok (.aload_n 0, 1) := by decide +kernel
theorem d_Fa_bodyAt_19 : decode M_Fa_bodyAt.2.1 19 = .ok (.getfield 15, 3) := by decide +kernel
theorem d_Fa_bodyAt_22 : decode M_Fa_bodyAt.2.1 22 = .ok (.iload_n 1, 1) := by decide +kernel
theorem d_Fa_bodyAt_23 : decode M_Fa_bodyAt.2.1 23 = .ok (.iaload, 1) := by decide +kernel
theorem d_Fa_bodyAt_24 : decode M_Fa_bodyAt.2.1 24 = .ok (.goto 4, 3) := by decide +kernel
theorem d_Fa_bodyAt_27 : decode M_Fa_bodyAt.2.1 27 = .ok (.iconst (-1), 1) := by decide +kernel
theorem d_Fa_bodyAt_28 : decode M_Fa_bodyAt.2.1 28 = .ok (.ireturn, 1) := by decide +kernel
def F_Fa_bodyAt_2 (a : Nat) (x : Int32) (δ : Dl) : Option (Int32) := (if x < 0 then (some (-1)) else ((if (δ.1 22 a) ≤ x then (some (-1)) else ((if 30 ≤ x then (some (-1)) else ((if inb x 30 then (some (δ.2.1 23 a x)) else none)))))))
set_option maxRecDepth 40000 in
set_option maxHeartbeats 4000000 in
theorem c_Fa_bodyAt_2 {l : Launch} {Γ : Gm} {a : Nat} (oa : Ob Γ a 2) (x : Int32) (δ : Dl) (r : Int32) (h : F_Fa_bodyAt_2 a x δ = some r) : Ct l M_Fa_bodyAt 0 0 0 NF [.inr (0, a), .inl x] Γ δ (some (.inl r), Γ, δ) := by
  unfold F_Fa_bodyAt_2 at h
  refine Ct.of2 (n := 0) (ls := [some (.inr (0, a)), some (.inl x)]) rfl (by decide +kernel) (Nat.le_of_ble_eq_true rfl) ?_
  refine x_iload_n (i := 1) d_Fa_bodyAt_0 rfl rfl ?_
  refine x_if_lt (tgt := 27) d_Fa_bodyAt_1 (by decide) (fun c1 => ?_) (fun c1 => ?_)
  · have h := if_t c1 h
    refine x_ic (v := -1) d_Fa_bodyAt_27 (by decide) ?_
    cases h
    exact x_iret rfl d_Fa_bodyAt_28 (Nat.le_refl 0) (Nat.le_refl 0)
  · have h := if_f c1 h
    refine x_iload_n (i := 1) d_Fa_bodyAt_4 rfl rfl ?_
    refine x_aload_n (i := 0) d_Fa_bodyAt_5 rfl rfl ?_
    refine x_getI (f := 22) gl_Fa_9_2 rfl (by decide) oa d_Fa_bodyAt_6 ?_
    refine x_cmp_ge (tgt := 27) d_Fa_bodyAt_9 (by decide) (fun c9 => ?_) (fun c9 => ?_)
    · have h := if_t c9 h
      refine x_ic (v := -1) d_Fa_bodyAt_27 (by decide) ?_
      cases h
      exact x_iret rfl d_Fa_bodyAt_28 (Nat.le_refl 0) (Nat.le_refl 0)
    · have h := if_f c9 h
      refine x_iload_n (i := 1) d_Fa_bodyAt_12 rfl rfl ?_
      refine x_bi (v := 30) d_Fa_bodyAt_13 (by decide) ?_
      refine x_cmp_ge (tgt := 27) d_Fa_bodyAt_15 (by decide) (fun c15 => ?_) (fun c15 => ?_)
      · have h := if_t c15 h
        refine x_ic (v := -1) d_Fa_bodyAt_27 (by decide) ?_
        cases h
        exact x_iret rfl d_Fa_bodyAt_28 (Nat.le_refl 0) (Nat.le_refl 0)
      · have h := if_f c15 h
        refine x_aload_n (i := 0) d_Fa_bodyAt_18 rfl rfl ?_
        refine x_getA (f := 23) gl_Fa_15_2 rfl (by decide) oa d_Fa_bodyAt_19 ?_
        refine x_iload_n (i := 1) d_Fa_bodyAt_22 rfl rfl ?_
        obtain ⟨g23, h⟩ := gd_e h
        refine x_iald (n := 30) (by decide) (by rw [oa.at (j := 3) (f := 23) rfl (by decide) rfl]; decide) (by rfl) g23 d_Fa_bodyAt_23 ?_
        refine x_goto (tgt := 28) d_Fa_bodyAt_24 (by decide) ?_
        cases h
        exact x_iret rfl d_Fa_bodyAt_28 (Nat.le_refl 0) (Nat.le_refl 0)
theorem gl_Fa_9_4 : GL RX1 9 4 2 := ⟨RX4, TX4, 4, RX1, rfl, by decide, (lwg_at 940 (by decide +kernel) rfl), Or.inl rfl, gl_w inX4⟩
theorem gp_Fa_9_4 : GP RX1 9 4 2 false .int := ⟨RX4, TX4, 4, RX1, tyX4, rfl, by decide, (lwg_at 940 (by decide +kernel) rfl), rfl, gl_w inX4, tyX4_ok, nmX4, rfl, by decide +kernel, fun h => by first | rfl | cases h⟩
theorem gl_Fa_15_4 : GL RX1 15 4 3 := ⟨RX4, TX4, 4, RX1, rfl, by decide, (lwg_at 942 (by decide +kernel) rfl), Or.inl rfl, gl_w inX4⟩
def F_Fa_begins_4 (a : Nat) (x : Int32) (δ : Dl) : Option (Dl) := (if (δ.1 22 a) < 0 then (some (sI δ 22 a ((δ.1 22 a) + 1))) else ((if 30 ≤ (δ.1 22 a) then (some (sI δ 22 a ((δ.1 22 a) + 1))) else (((if inb (δ.1 22 a) 30 then (some (sI (sA δ 23 a (δ.1 22 a) x) 22 a (((sA δ 23 a (δ.1 22 a) x).1 22 a) + 1))) else none))))))
set_option maxRecDepth 40000 in
set_option maxHeartbeats 4000000 in
theorem c_Fa_begins_4 {l : Launch} {Γ : Gm} {a : Nat} (oa : Ob Γ a 4) (x : Int32) (δ : Dl) (r : Dl) (h : F_Fa_begins_4 a x δ = some r) : Ct l M_Fa_begins 0 0 0 NF [.inr (0, a), .inl x] Γ δ (none, Γ, r) := by
  unfold F_Fa_begins_4 at h
  refine Ct.of2 (n := 0) (ls := [some (.inr (0, a)), some (.inl x)]) rfl (by decide +kernel) (Nat.le_of_ble_eq_true rfl) ?_
  refine x_aload_n (i := 0) d_Fa_begins_0 rfl rfl ?_
  refine x_getI (f := 22) gl_Fa_9_4 rfl (by decide) oa d_Fa_begins_1 ?_
  refine x_if_lt (tgt := 26) d_Fa_begins_4 (by decide) (fun c4 => ?_) (fun c4 => ?_)
  · have h := if_t c4 h
    refine x_aload_n (i := 0) d_Fa_begins_26 rfl rfl ?_
    refine x_dup d_Fa_begins_27 ?_
    refine x_getI (f := 22) gl_Fa_9_4 rfl (by decide) oa d_Fa_begins_28 ?_
    refine x_ic (v := 1) d_Fa_begins_31 (by decide) ?_
    refine x_iadd d_Fa_begins_32 ?_
    refine x_putI gp_Fa_9_4 rfl (by decide) (fun h => by cases h) rfl rfl oa.1 oa.z d_Fa_begins_33 ?_
    cases h
    exact x_vret rfl d_Fa_begins_36 (Nat.le_refl 0) (Nat.le_refl 0)
  · have h := if_f c4 h
    refine x_aload_n (i := 0) d_Fa_begins_7 rfl rfl ?_
    refine x_getI (f := 22) gl_Fa_9_4 rfl (by decide) oa d_Fa_begins_8 ?_
    refine x_bi (v := 30) d_Fa_begins_11 (by decide) ?_
    refine x_cmp_ge (tgt := 26) d_Fa_begins_13 (by decide) (fun c13 => ?_) (fun c13 => ?_)
    · have h := if_t c13 h
      refine x_aload_n (i := 0) d_Fa_begins_26 rfl rfl ?_
      refine x_dup d_Fa_begins_27 ?_
      refine x_getI (f := 22) gl_Fa_9_4 rfl (by decide) oa d_Fa_begins_28 ?_
      refine x_ic (v := 1) d_Fa_begins_31 (by decide) ?_
      refine x_iadd d_Fa_begins_32 ?_
      refine x_putI gp_Fa_9_4 rfl (by decide) (fun h => by cases h) rfl rfl oa.1 oa.z d_Fa_begins_33 ?_
      cases h
      exact x_vret rfl d_Fa_begins_36 (Nat.le_refl 0) (Nat.le_refl 0)
    · have h := if_f c13 h
      refine x_aload_n (i := 0) d_Fa_begins_16 rfl rfl ?_
      refine x_getA (f := 23) gl_Fa_15_4 rfl (by decide) oa d_Fa_begins_17 ?_
      refine x_aload_n (i := 0) d_Fa_begins_20 rfl rfl ?_
      refine x_getI (f := 22) gl_Fa_9_4 rfl (by decide) oa d_Fa_begins_21 ?_
      refine x_iload_n (i := 1) d_Fa_begins_24 rfl rfl ?_
      obtain ⟨g25, h⟩ := gd_e h
      refine x_iast (n := 30) (by decide) (by rw [oa.at (j := 3) (f := 23) rfl (by decide) rfl]; decide) (by rfl) g25 d_Fa_begins_25 ?_
      refine x_aload_n (i := 0) d_Fa_begins_26 rfl rfl ?_
      refine x_dup d_Fa_begins_27 ?_
      refine x_getI (f := 22) gl_Fa_9_4 rfl (by decide) oa d_Fa_begins_28 ?_
      refine x_ic (v := 1) d_Fa_begins_31 (by decide) ?_
      refine x_iadd d_Fa_begins_32 ?_
      refine x_putI gp_Fa_9_4 rfl (by decide) (fun h => by cases h) rfl rfl oa.1 oa.z d_Fa_begins_33 ?_
      cases h
      exact x_vret rfl d_Fa_begins_36 (Nat.le_refl 0) (Nat.le_refl 0)
theorem cu_Fa_25_4 : CU RX1 25 RX4 RX1 ⟨RX1, "begins", "(I)V"⟩ M_Fa_begins 1 := ⟨(lwg_at 1008 (by decide +kernel) rfl), (lwg_at 1759 (by decide +kernel) rfl), (lwg_at 1761 (by decide +kernel) rfl), (lwg_at 993 (by decide +kernel) rfl), Or.inl rfl, ⟨by decide +kernel, by decide +kernel⟩, by decide +kernel, mi_Fa_begins⟩
theorem gl_Fa_19_4 : GL RX1 19 4 0 := ⟨RX4, TX4, 4, RX1, rfl, by decide, (lwg_at 936 (by decide +kernel) rfl), Or.inl rfl, gl_w inX4⟩
def F_Fa_runs_4 (a : Nat) (x : Int32) (δ : Dl) : Option (Int32 × Dl) := ((F_Fa_begins_4 a 10 δ).bind fun δ3 => some ((x + (δ3.1 20 a)), δ3))
set_option maxRecDepth 40000 in
set_option maxHeartbeats 4000000 in
theorem c_Fa_runs_4 {l : Launch} {Γ : Gm} {a : Nat} (oa : Ob Γ a 4) (x : Int32) (δ : Dl) (r : Int32 × Dl) (h : F_Fa_runs_4 a x δ = some r) : Ct l M_Fa_runs 1 0 0 NF [.inr (0, a), .inl x] Γ δ (some (.inl r.1), Γ, r.2) := by
  unfold F_Fa_runs_4 at h
  refine Ct.of2 (n := 0) (ls := [some (.inr (0, a)), some (.inl x)]) rfl (by decide +kernel) (Nat.le_of_ble_eq_true rfl) ?_
  refine x_aload_n (i := 0) d_Fa_runs_0 rfl rfl ?_
  refine x_bi (v := 10) d_Fa_runs_1 (by decide) ?_
  obtain ⟨δ3, e3, h⟩ := bd_e h
  refine y_U1v cu_Fa_25_4 rfl oa (by decide) (Nat.le_of_ble_eq_true rfl) d_Fa_runs_3 (c_Fa_begins_4 oa 10 _ _ e3) (Nat.le_refl 0) (Nat.le_refl 0) ?_
  refine x_iload_n (i := 1) d_Fa_runs_6 rfl rfl ?_
  refine x_aload_n (i := 0) d_Fa_runs_7 rfl rfl ?_
  refine x_getI (f := 20) gl_Fa_19_4 rfl (by decide) oa d_Fa_runs_8 ?_
  refine x_iadd d_Fa_runs_11 ?_
  cases h
  exact x_iret rfl d_Fa_runs_12 (Nat.le_refl 0) (Nat.le_refl 0)
abbrev M_Ro_costs : MM := (⟨RX4, "costs", "(I)I"⟩, prog_6_method_2_code, 2, (some .int))
theorem d_Ro_costs_0 : decode M_Ro_costs.2.1 0 = .ok (.aload_n 0, 1) := by decide +kernel
theorem d_Ro_costs_1 : decode M_Ro_costs.2.1 1 = .ok (.bipush 40, 2) := by decide +kernel
theorem d_Ro_costs_3 : decode M_Ro_costs.2.1 3 = .ok (.invokevirtual 7, 3) := by decide +kernel
theorem d_Ro_costs_6 : decode M_Ro_costs.2.1 6 = .ok (.aload_n 0, 1) := by decide +kernel
theorem d_Ro_costs_7 : decode M_Ro_costs.2.1 7 = .ok (.iload_n 1, 1) := by decide +kernel
theorem d_Ro_costs_8 : decode M_Ro_costs.2.1 8 = .ok (.invokespecial 13, 3) := by decide +kernel
theorem d_Ro_costs_11 : decode M_Ro_costs.2.1 11 = .ok (.iconst 3, 1) := by decide +kernel
theorem d_Ro_costs_12 : decode M_Ro_costs.2.1 12 = .ok (.imul, 1) := by decide +kernel
theorem d_Ro_costs_13 : decode M_Ro_costs.2.1 13 = .ok (.ireturn, 1) := by decide +kernel
theorem cu_Ro_7_4 : CU RX4 7 RX4 RX1 ⟨RX4, "begins", "(I)V"⟩ M_Fa_begins 1 := ⟨(lwg_at 1016 (by decide +kernel) rfl), (lwg_at 1017 (by decide +kernel) rfl), (lwg_at 1018 (by decide +kernel) rfl), (lwg_at 993 (by decide +kernel) rfl), Or.inl rfl, ⟨by decide +kernel, by decide +kernel⟩, by decide +kernel, mi_Fa_begins⟩
theorem cu_Fa_29_4 : CU RX1 29 RX4 RX1 ⟨RX1, "runs", "(I)I"⟩ M_Fa_runs 1 := ⟨(lwg_at 1032 (by decide +kernel) rfl), (lwg_at 984 (by decide +kernel) rfl), (lwg_at 996 (by decide +kernel) rfl), (lwg_at 983 (by decide +kernel) rfl), Or.inl rfl, ⟨by decide +kernel, by decide +kernel⟩, by decide +kernel, mi_Fa_runs⟩
def F_Fa_costs_4 (a : Nat) (x : Int32) (δ : Dl) : Option (Int32 × Dl) := ((F_Fa_begins_4 a 11 δ).bind fun δ3 => bd2 (F_Fa_runs_4 a x δ3) fun v8 δ8 => some ((v8 * 2), δ8))
set_option maxRecDepth 40000 in
set_option maxHeartbeats 4000000 in
theorem c_Fa_costs_4 {l : Launch} {Γ : Gm} {a : Nat} (oa : Ob Γ a 4) (x : Int32) (δ : Dl) (r : Int32 × Dl) (h : F_Fa_costs_4 a x δ = some r) : Ct l M_Fa_costs 2 0 0 NF [.inr (0, a), .inl x] Γ δ (some (.inl r.1), Γ, r.2) := by
  unfold F_Fa_costs_4 at h
  refine Ct.of2 (n := 0) (ls := [some (.inr (0, a)), some (.inl x)]) rfl (by decide +kernel) (Nat.le_of_ble_eq_true rfl) ?_
  refine x_aload_n (i := 0) d_Fa_costs_0 rfl rfl ?_
  refine x_bi (v := 11) d_Fa_costs_1 (by decide) ?_
  obtain ⟨δ3, e3, h⟩ := bd_e h
  refine y_U1v cu_Fa_25_4 rfl oa (by decide) (Nat.le_of_ble_eq_true rfl) d_Fa_costs_3 (c_Fa_begins_4 oa 11 _ _ e3) (Nat.le_refl 0) (Nat.le_refl 0) ?_
  refine x_aload_n (i := 0) d_Fa_costs_6 rfl rfl ?_
  refine x_iload_n (i := 1) d_Fa_costs_7 rfl rfl ?_
  obtain ⟨v8, δ8, e8, h⟩ := bd2_e h
  refine y_U1 cu_Fa_29_4 rfl oa (by decide) (Nat.le_of_ble_eq_true rfl) d_Fa_costs_8 (c_Fa_runs_4 oa x _ _ e8) (Nat.le_refl 0) (Nat.le_refl 0) ?_
  refine x_ic (v := 2) d_Fa_costs_11 (by decide) ?_
  refine x_imul d_Fa_costs_12 ?_
  cases h
  exact x_iret rfl d_Fa_costs_13 (Nat.le_refl 0) (Nat.le_refl 0)
theorem csu_Ro_13 : CSU RX4 13 ⟨RX1, "costs", "(I)I"⟩ M_Fa_costs 1 := ⟨(lwg_at 1020 (by decide +kernel) rfl), (lwg_at 1011 (by decide +kernel) rfl), (lwg_at 981 (by decide +kernel) rfl), Or.inl rfl, ⟨rfl, rfl⟩, (lwg_at 1010 (by decide +kernel) rfl), by decide, mi_Fa_costs⟩
def F_Ro_costs_4 (a : Nat) (x : Int32) (δ : Dl) : Option (Int32 × Dl) := ((F_Fa_begins_4 a 40 δ).bind fun δ3 => bd2 (F_Fa_costs_4 a x δ3) fun v8 δ8 => some ((v8 * 3), δ8))
set_option maxRecDepth 40000 in
set_option maxHeartbeats 4000000 in
theorem c_Ro_costs_4 {l : Launch} {Γ : Gm} {a : Nat} (oa : Ob Γ a 4) (x : Int32) (δ : Dl) (r : Int32 × Dl) (h : F_Ro_costs_4 a x δ = some r) : Ct l M_Ro_costs 3 0 0 NF [.inr (0, a), .inl x] Γ δ (some (.inl r.1), Γ, r.2) := by
  unfold F_Ro_costs_4 at h
  refine Ct.of2 (n := 0) (ls := [some (.inr (0, a)), some (.inl x)]) rfl (by decide +kernel) (Nat.le_of_ble_eq_true rfl) ?_
  refine x_aload_n (i := 0) d_Ro_costs_0 rfl rfl ?_
  refine x_bi (v := 40) d_Ro_costs_1 (by decide) ?_
  obtain ⟨δ3, e3, h⟩ := bd_e h
  refine y_U1v cu_Ro_7_4 rfl oa (by decide) (Nat.le_of_ble_eq_true rfl) d_Ro_costs_3 (c_Fa_begins_4 oa 40 _ _ e3) (Nat.le_refl 0) (Nat.le_refl 0) ?_
  refine x_aload_n (i := 0) d_Ro_costs_6 rfl rfl ?_
  refine x_iload_n (i := 1) d_Ro_costs_7 rfl rfl ?_
  obtain ⟨v8, δ8, e8, h⟩ := bd2_e h
  refine y_P1 csu_Ro_13 rfl oa (by decide) (Nat.le_of_ble_eq_true rfl) d_Ro_costs_8 (c_Fa_costs_4 oa x _ _ e8) (Nat.le_refl 0) (Nat.le_refl 0) ?_
  refine x_ic (v := 3) d_Ro_costs_11 (by decide) ?_
  refine x_imul d_Ro_costs_12 ?_
  cases h
  exact x_iret rfl d_Ro_costs_13 (Nat.le_refl 0) (Nat.le_refl 0)
theorem mi_Ro_costs : MI M_Ro_costs 1 := ⟨(lwg_at 19 (by decide +kernel) rfl), (lwg_at 1015 (by decide +kernel) rfl), ⟨by decide +kernel, by decide +kernel⟩, by decide +kernel, by decide⟩
theorem cu_Fa_33_4 : CU RX1 33 RX4 RX1 ⟨RX1, "costs", "(I)I"⟩ M_Ro_costs 1 := ⟨(lwg_at 1054 (by decide +kernel) rfl), (lwg_at 1011 (by decide +kernel) rfl), (lwg_at 1013 (by decide +kernel) rfl), (lwg_at 1014 (by decide +kernel) rfl), Or.inr ⟨(lwg_at 1010 (by decide +kernel) rfl), prog_3_method_5_code, 2, (Option.some FieldType.int), (lwg_at 1031 (by decide +kernel) rfl)⟩, ⟨by decide +kernel, by decide +kernel⟩, by decide +kernel, mi_Ro_costs⟩
theorem gl_Fa_22_4 : GL RX1 22 4 1 := ⟨RX4, TX4, 4, RX1, rfl, by decide, (lwg_at 937 (by decide +kernel) rfl), Or.inl rfl, gl_w inX4⟩
def F_Fa_tells_4 (a : Nat) (x : Int32) (δ : Dl) : Option (Int32 × Dl) := ((F_Fa_begins_4 a 12 δ).bind fun δ3 => bd2 (F_Ro_costs_4 a x δ3) fun v8 δ8 => bd2 (F_Fa_runs_4 a (x + (δ8.1 21 a)) δ8) fun v18 δ18 => some ((v8 ^^^ v18), δ18))
set_option maxRecDepth 40000 in
set_option maxHeartbeats 4000000 in
theorem c_Fa_tells_4 {l : Launch} {Γ : Gm} {a : Nat} (oa : Ob Γ a 4) (x : Int32) (δ : Dl) (r : Int32 × Dl) (h : F_Fa_tells_4 a x δ = some r) : Ct l M_Fa_tells 4 0 0 NF [.inr (0, a), .inl x] Γ δ (some (.inl r.1), Γ, r.2) := by
  unfold F_Fa_tells_4 at h
  refine Ct.of2 (n := 0) (ls := [some (.inr (0, a)), some (.inl x)]) rfl (by decide +kernel) (Nat.le_of_ble_eq_true rfl) ?_
  refine x_aload_n (i := 0) d_Fa_tells_0 rfl rfl ?_
  refine x_bi (v := 12) d_Fa_tells_1 (by decide) ?_
  obtain ⟨δ3, e3, h⟩ := bd_e h
  refine y_U1v cu_Fa_25_4 rfl oa (by decide) (Nat.le_of_ble_eq_true rfl) d_Fa_tells_3 (c_Fa_begins_4 oa 12 _ _ e3) (Nat.le_refl 0) (Nat.le_refl 0) ?_
  refine x_aload_n (i := 0) d_Fa_tells_6 rfl rfl ?_
  refine x_iload_n (i := 1) d_Fa_tells_7 rfl rfl ?_
  obtain ⟨v8, δ8, e8, h⟩ := bd2_e h
  refine y_U1 cu_Fa_33_4 rfl oa (by decide) (Nat.le_of_ble_eq_true rfl) d_Fa_tells_8 (c_Ro_costs_4 oa x _ _ e8) (Nat.le_refl 0) (Nat.le_refl 0) ?_
  refine x_aload_n (i := 0) d_Fa_tells_11 rfl rfl ?_
  refine x_iload_n (i := 1) d_Fa_tells_12 rfl rfl ?_
  refine x_aload_n (i := 0) d_Fa_tells_13 rfl rfl ?_
  refine x_getI (f := 21) gl_Fa_22_4 rfl (by decide) oa d_Fa_tells_14 ?_
  refine x_iadd d_Fa_tells_17 ?_
  obtain ⟨v18, δ18, e18, h⟩ := bd2_e h
  refine y_U1 cu_Fa_29_4 rfl oa (by decide) (Nat.le_of_ble_eq_true rfl) d_Fa_tells_18 (c_Fa_runs_4 oa (x + (δ8.1 21 a)) _ _ e18) (Nat.le_refl 0) (Nat.le_refl 0) ?_
  refine x_ixor d_Fa_tells_21 ?_
  cases h
  exact x_iret rfl d_Fa_tells_22 (Nat.le_refl 0) (Nat.le_refl 0)
def F_Fa_bodyAt_4 (a : Nat) (x : Int32) (δ : Dl) : Option (Int32) := (if x < 0 then (some (-1)) else ((if (δ.1 22 a) ≤ x then (some (-1)) else ((if 30 ≤ x then (some (-1)) else ((if inb x 30 then (some (δ.2.1 23 a x)) else none)))))))
set_option maxRecDepth 40000 in
set_option maxHeartbeats 4000000 in
theorem c_Fa_bodyAt_4 {l : Launch} {Γ : Gm} {a : Nat} (oa : Ob Γ a 4) (x : Int32) (δ : Dl) (r : Int32) (h : F_Fa_bodyAt_4 a x δ = some r) : Ct l M_Fa_bodyAt 0 0 0 NF [.inr (0, a), .inl x] Γ δ (some (.inl r), Γ, δ) := by
  unfold F_Fa_bodyAt_4 at h
  refine Ct.of2 (n := 0) (ls := [some (.inr (0, a)), some (.inl x)]) rfl (by decide +kernel) (Nat.le_of_ble_eq_true rfl) ?_
  refine x_iload_n (i := 1) d_Fa_bodyAt_0 rfl rfl ?_
  refine x_if_lt (tgt := 27) d_Fa_bodyAt_1 (by decide) (fun c1 => ?_) (fun c1 => ?_)
  · have h := if_t c1 h
    refine x_ic (v := -1) d_Fa_bodyAt_27 (by decide) ?_
    cases h
    exact x_iret rfl d_Fa_bodyAt_28 (Nat.le_refl 0) (Nat.le_refl 0)
  · have h := if_f c1 h
    refine x_iload_n (i := 1) d_Fa_bodyAt_4 rfl rfl ?_
    refine x_aload_n (i := 0) d_Fa_bodyAt_5 rfl rfl ?_
    refine x_getI (f := 22) gl_Fa_9_4 rfl (by decide) oa d_Fa_bodyAt_6 ?_
    refine x_cmp_ge (tgt := 27) d_Fa_bodyAt_9 (by decide) (fun c9 => ?_) (fun c9 => ?_)
    · have h := if_t c9 h
      refine x_ic (v := -1) d_Fa_bodyAt_27 (by decide) ?_
      cases h
      exact x_iret rfl d_Fa_bodyAt_28 (Nat.le_refl 0) (Nat.le_refl 0)
    · have h := if_f c9 h
      refine x_iload_n (i := 1) d_Fa_bodyAt_12 rfl rfl ?_
      refine x_bi (v := 30) d_Fa_bodyAt_13 (by decide) ?_
      refine x_cmp_ge (tgt := 27) d_Fa_bodyAt_15 (by decide) (fun c15 => ?_) (fun c15 => ?_)
      · have h := if_t c15 h
        refine x_ic (v := -1) d_Fa_bodyAt_27 (by decide) ?_
        cases h
        exact x_iret rfl d_Fa_bodyAt_28 (Nat.le_refl 0) (Nat.le_refl 0)
      · have h := if_f c15 h
        refine x_aload_n (i := 0) d_Fa_bodyAt_18 rfl rfl ?_
        refine x_getA (f := 23) gl_Fa_15_4 rfl (by decide) oa d_Fa_bodyAt_19 ?_
        refine x_iload_n (i := 1) d_Fa_bodyAt_22 rfl rfl ?_
        obtain ⟨g23, h⟩ := gd_e h
        refine x_iald (n := 30) (by decide) (by rw [oa.at (j := 3) (f := 23) rfl (by decide) rfl]; decide) (by rfl) g23 d_Fa_bodyAt_23 ?_
        refine x_goto (tgt := 28) d_Fa_bodyAt_24 (by decide) ?_
        cases h
        exact x_iret rfl d_Fa_bodyAt_28 (Nat.le_refl 0) (Nat.le_refl 0)
abbrev M_Sp_runs : MM := (⟨RX6, "runs", "(I)I"⟩, prog_8_method_2_code, 2, (some .int))
theorem d_Sp_runs_0 : decode M_Sp_runs.2.1 0 = .ok (.aload_n 0, 1) := by decide +kernel
theorem d_Sp_runs_1 : decode M_Sp_runs.2.1 1 = .ok (.bipush 50, 2) := by decide +kernel
theorem d_Sp_runs_3 : decode M_Sp_runs.2.1 3 = .ok (.invokevirtual 7, 3) := by decide +kernel
theorem d_Sp_runs_6 : decode M_Sp_runs.2.1 6 = .ok (.aload_n 0, 1) := by decide +kernel
theorem d_Sp_runs_7 : decode M_Sp_runs.2.1 7 = .ok (.iload_n 1, 1) := by decide +kernel
theorem d_Sp_runs_8 : decode M_Sp_runs.2.1 8 = .ok (.invokespecial 13, 3) := by decide +kernel
theorem d_Sp_runs_11 : decode M_Sp_runs.2.1 11 = .ok (.bipush 7, 2) := by decide +kernel
theorem d_Sp_runs_13 : decode M_Sp_runs.2.1 13 = .ok (.ixor, 1) := by decide +kernel
theorem d_Sp_runs_14 : decode M_Sp_runs.2.1 14 = .ok (.ireturn, 1) := by decide +kernel
theorem gl_Fa_9_6 : GL RX1 9 6 2 := ⟨RX6, TX6, 4, RX1, rfl, by decide, (lwg_at 940 (by decide +kernel) rfl), Or.inl rfl, gl_w inX6⟩
theorem gp_Fa_9_6 : GP RX1 9 6 2 false .int := ⟨RX6, TX6, 4, RX1, tyX6, rfl, by decide, (lwg_at 940 (by decide +kernel) rfl), rfl, gl_w inX6, tyX6_ok, nmX6, rfl, by decide +kernel, fun h => by first | rfl | cases h⟩
theorem gl_Fa_15_6 : GL RX1 15 6 3 := ⟨RX6, TX6, 4, RX1, rfl, by decide, (lwg_at 942 (by decide +kernel) rfl), Or.inl rfl, gl_w inX6⟩
def F_Fa_begins_6 (a : Nat) (x : Int32) (δ : Dl) : Option (Dl) := (if (δ.1 22 a) < 0 then (some (sI δ 22 a ((δ.1 22 a) + 1))) else ((if 30 ≤ (δ.1 22 a) then (some (sI δ 22 a ((δ.1 22 a) + 1))) else (((if inb (δ.1 22 a) 30 then (some (sI (sA δ 23 a (δ.1 22 a) x) 22 a (((sA δ 23 a (δ.1 22 a) x).1 22 a) + 1))) else none))))))
set_option maxRecDepth 40000 in
set_option maxHeartbeats 4000000 in
theorem c_Fa_begins_6 {l : Launch} {Γ : Gm} {a : Nat} (oa : Ob Γ a 6) (x : Int32) (δ : Dl) (r : Dl) (h : F_Fa_begins_6 a x δ = some r) : Ct l M_Fa_begins 0 0 0 NF [.inr (0, a), .inl x] Γ δ (none, Γ, r) := by
  unfold F_Fa_begins_6 at h
  refine Ct.of2 (n := 0) (ls := [some (.inr (0, a)), some (.inl x)]) rfl (by decide +kernel) (Nat.le_of_ble_eq_true rfl) ?_
  refine x_aload_n (i := 0) d_Fa_begins_0 rfl rfl ?_
  refine x_getI (f := 22) gl_Fa_9_6 rfl (by decide) oa d_Fa_begins_1 ?_
  refine x_if_lt (tgt := 26) d_Fa_begins_4 (by decide) (fun c4 => ?_) (fun c4 => ?_)
  · have h := if_t c4 h
    refine x_aload_n (i := 0) d_Fa_begins_26 rfl rfl ?_
    refine x_dup d_Fa_begins_27 ?_
    refine x_getI (f := 22) gl_Fa_9_6 rfl (by decide) oa d_Fa_begins_28 ?_
    refine x_ic (v := 1) d_Fa_begins_31 (by decide) ?_
    refine x_iadd d_Fa_begins_32 ?_
    refine x_putI gp_Fa_9_6 rfl (by decide) (fun h => by cases h) rfl rfl oa.1 oa.z d_Fa_begins_33 ?_
    cases h
    exact x_vret rfl d_Fa_begins_36 (Nat.le_refl 0) (Nat.le_refl 0)
  · have h := if_f c4 h
    refine x_aload_n (i := 0) d_Fa_begins_7 rfl rfl ?_
    refine x_getI (f := 22) gl_Fa_9_6 rfl (by decide) oa d_Fa_begins_8 ?_
    refine x_bi (v := 30) d_Fa_begins_11 (by decide) ?_
    refine x_cmp_ge (tgt := 26) d_Fa_begins_13 (by decide) (fun c13 => ?_) (fun c13 => ?_)
    · have h := if_t c13 h
      refine x_aload_n (i := 0) d_Fa_begins_26 rfl rfl ?_
      refine x_dup d_Fa_begins_27 ?_
      refine x_getI (f := 22) gl_Fa_9_6 rfl (by decide) oa d_Fa_begins_28 ?_
      refine x_ic (v := 1) d_Fa_begins_31 (by decide) ?_
      refine x_iadd d_Fa_begins_32 ?_
      refine x_putI gp_Fa_9_6 rfl (by decide) (fun h => by cases h) rfl rfl oa.1 oa.z d_Fa_begins_33 ?_
      cases h
      exact x_vret rfl d_Fa_begins_36 (Nat.le_refl 0) (Nat.le_refl 0)
    · have h := if_f c13 h
      refine x_aload_n (i := 0) d_Fa_begins_16 rfl rfl ?_
      refine x_getA (f := 23) gl_Fa_15_6 rfl (by decide) oa d_Fa_begins_17 ?_
      refine x_aload_n (i := 0) d_Fa_begins_20 rfl rfl ?_
      refine x_getI (f := 22) gl_Fa_9_6 rfl (by decide) oa d_Fa_begins_21 ?_
      refine x_iload_n (i := 1) d_Fa_begins_24 rfl rfl ?_
      obtain ⟨g25, h⟩ := gd_e h
      refine x_iast (n := 30) (by decide) (by rw [oa.at (j := 3) (f := 23) rfl (by decide) rfl]; decide) (by rfl) g25 d_Fa_begins_25 ?_
      refine x_aload_n (i := 0) d_Fa_begins_26 rfl rfl ?_
      refine x_dup d_Fa_begins_27 ?_
      refine x_getI (f := 22) gl_Fa_9_6 rfl (by decide) oa d_Fa_begins_28 ?_
      refine x_ic (v := 1) d_Fa_begins_31 (by decide) ?_
      refine x_iadd d_Fa_begins_32 ?_
      refine x_putI gp_Fa_9_6 rfl (by decide) (fun h => by cases h) rfl rfl oa.1 oa.z d_Fa_begins_33 ?_
      cases h
      exact x_vret rfl d_Fa_begins_36 (Nat.le_refl 0) (Nat.le_refl 0)
theorem cu_Sp_7_6 : CU RX6 7 RX6 RX1 ⟨RX6, "begins", "(I)V"⟩ M_Fa_begins 1 := ⟨(lwg_at 1000 (by decide +kernel) rfl), (lwg_at 1001 (by decide +kernel) rfl), (lwg_at 1002 (by decide +kernel) rfl), (lwg_at 993 (by decide +kernel) rfl), Or.inl rfl, ⟨by decide +kernel, by decide +kernel⟩, by decide +kernel, mi_Fa_begins⟩
theorem cu_Fa_25_6 : CU RX1 25 RX6 RX1 ⟨RX1, "begins", "(I)V"⟩ M_Fa_begins 1 := ⟨(lwg_at 1008 (by decide +kernel) rfl), (lwg_at 1759 (by decide +kernel) rfl), (lwg_at 1762 (by decide +kernel) rfl), (lwg_at 993 (by decide +kernel) rfl), Or.inl rfl, ⟨by decide +kernel, by decide +kernel⟩, by decide +kernel, mi_Fa_begins⟩
theorem gl_Fa_19_6 : GL RX1 19 6 0 := ⟨RX6, TX6, 4, RX1, rfl, by decide, (lwg_at 936 (by decide +kernel) rfl), Or.inl rfl, gl_w inX6⟩
def F_Fa_runs_6 (a : Nat) (x : Int32) (δ : Dl) : Option (Int32 × Dl) := ((F_Fa_begins_6 a 10 δ).bind fun δ3 => some ((x + (δ3.1 20 a)), δ3))
set_option maxRecDepth 40000 in
set_option maxHeartbeats 4000000 in
theorem c_Fa_runs_6 {l : Launch} {Γ : Gm} {a : Nat} (oa : Ob Γ a 6) (x : Int32) (δ : Dl) (r : Int32 × Dl) (h : F_Fa_runs_6 a x δ = some r) : Ct l M_Fa_runs 1 0 0 NF [.inr (0, a), .inl x] Γ δ (some (.inl r.1), Γ, r.2) := by
  unfold F_Fa_runs_6 at h
  refine Ct.of2 (n := 0) (ls := [some (.inr (0, a)), some (.inl x)]) rfl (by decide +kernel) (Nat.le_of_ble_eq_true rfl) ?_
  refine x_aload_n (i := 0) d_Fa_runs_0 rfl rfl ?_
  refine x_bi (v := 10) d_Fa_runs_1 (by decide) ?_
  obtain ⟨δ3, e3, h⟩ := bd_e h
  refine y_U1v cu_Fa_25_6 rfl oa (by decide) (Nat.le_of_ble_eq_true rfl) d_Fa_runs_3 (c_Fa_begins_6 oa 10 _ _ e3) (Nat.le_refl 0) (Nat.le_refl 0) ?_
  refine x_iload_n (i := 1) d_Fa_runs_6 rfl rfl ?_
  refine x_aload_n (i := 0) d_Fa_runs_7 rfl rfl ?_
  refine x_getI (f := 20) gl_Fa_19_6 rfl (by decide) oa d_Fa_runs_8 ?_
  refine x_iadd d_Fa_runs_11 ?_
  cases h
  exact x_iret rfl d_Fa_runs_12 (Nat.le_refl 0) (Nat.le_refl 0)
theorem csu_Sp_13 : CSU RX6 13 ⟨RX4, "runs", "(I)I"⟩ M_Fa_runs 1 := ⟨(lwg_at 1003 (by decide +kernel) rfl), (lwg_at 1004 (by decide +kernel) rfl), (lwg_at 973 (by decide +kernel) rfl), Or.inr (lwg_at 981 (by decide +kernel) rfl), ⟨rfl, rfl⟩, (lwg_at 983 (by decide +kernel) rfl), by decide, mi_Fa_runs⟩
def F_Sp_runs_6 (a : Nat) (x : Int32) (δ : Dl) : Option (Int32 × Dl) := ((F_Fa_begins_6 a 50 δ).bind fun δ3 => bd2 (F_Fa_runs_6 a x δ3) fun v8 δ8 => some ((v8 ^^^ 7), δ8))
set_option maxRecDepth 40000 in
set_option maxHeartbeats 4000000 in
theorem c_Sp_runs_6 {l : Launch} {Γ : Gm} {a : Nat} (oa : Ob Γ a 6) (x : Int32) (δ : Dl) (r : Int32 × Dl) (h : F_Sp_runs_6 a x δ = some r) : Ct l M_Sp_runs 2 0 0 NF [.inr (0, a), .inl x] Γ δ (some (.inl r.1), Γ, r.2) := by
  unfold F_Sp_runs_6 at h
  refine Ct.of2 (n := 0) (ls := [some (.inr (0, a)), some (.inl x)]) rfl (by decide +kernel) (Nat.le_of_ble_eq_true rfl) ?_
  refine x_aload_n (i := 0) d_Sp_runs_0 rfl rfl ?_
  refine x_bi (v := 50) d_Sp_runs_1 (by decide) ?_
  obtain ⟨δ3, e3, h⟩ := bd_e h
  refine y_U1v cu_Sp_7_6 rfl oa (by decide) (Nat.le_of_ble_eq_true rfl) d_Sp_runs_3 (c_Fa_begins_6 oa 50 _ _ e3) (Nat.le_refl 0) (Nat.le_refl 0) ?_
  refine x_aload_n (i := 0) d_Sp_runs_6 rfl rfl ?_
  refine x_iload_n (i := 1) d_Sp_runs_7 rfl rfl ?_
  obtain ⟨v8, δ8, e8, h⟩ := bd2_e h
  refine y_P1 csu_Sp_13 rfl oa (by decide) (Nat.le_of_ble_eq_true rfl) d_Sp_runs_8 (c_Fa_runs_6 oa x _ _ e8) (Nat.le_refl 0) (Nat.le_refl 0) ?_
  refine x_bi (v := 7) d_Sp_runs_11 (by decide) ?_
  refine x_ixor d_Sp_runs_13 ?_
  cases h
  exact x_iret rfl d_Sp_runs_14 (Nat.le_refl 0) (Nat.le_refl 0)
theorem cu_Ro_7_6 : CU RX4 7 RX6 RX1 ⟨RX4, "begins", "(I)V"⟩ M_Fa_begins 1 := ⟨(lwg_at 1016 (by decide +kernel) rfl), (lwg_at 1017 (by decide +kernel) rfl), (lwg_at 1019 (by decide +kernel) rfl), (lwg_at 993 (by decide +kernel) rfl), Or.inl rfl, ⟨by decide +kernel, by decide +kernel⟩, by decide +kernel, mi_Fa_begins⟩
theorem mi_Sp_runs : MI M_Sp_runs 1 := ⟨(lwg_at 20 (by decide +kernel) rfl), (lwg_at 999 (by decide +kernel) rfl), ⟨by decide +kernel, by decide +kernel⟩, by decide +kernel, by decide⟩
theorem cu_Fa_29_6 : CU RX1 29 RX6 RX1 ⟨RX1, "runs", "(I)I"⟩ M_Sp_runs 1 := ⟨(lwg_at 1032 (by decide +kernel) rfl), (lwg_at 984 (by decide +kernel) rfl), (lwg_at 997 (by decide +kernel) rfl), (lwg_at 998 (by decide +kernel) rfl), Or.inr ⟨(lwg_at 983 (by decide +kernel) rfl), prog_3_method_4_code, 2, (Option.some FieldType.int), (lwg_at 1007 (by decide +kernel) rfl)⟩, ⟨by decide +kernel, by decide +kernel⟩, by decide +kernel, mi_Sp_runs⟩
def F_Fa_costs_6 (a : Nat) (x : Int32) (δ : Dl) : Option (Int32 × Dl) := ((F_Fa_begins_6 a 11 δ).bind fun δ3 => bd2 (F_Sp_runs_6 a x δ3) fun v8 δ8 => some ((v8 * 2), δ8))
set_option maxRecDepth 40000 in
set_option maxHeartbeats 4000000 in
theorem c_Fa_costs_6 {l : Launch} {Γ : Gm} {a : Nat} (oa : Ob Γ a 6) (x : Int32) (δ : Dl) (r : Int32 × Dl) (h : F_Fa_costs_6 a x δ = some r) : Ct l M_Fa_costs 3 0 0 NF [.inr (0, a), .inl x] Γ δ (some (.inl r.1), Γ, r.2) := by
  unfold F_Fa_costs_6 at h
  refine Ct.of2 (n := 0) (ls := [some (.inr (0, a)), some (.inl x)]) rfl (by decide +kernel) (Nat.le_of_ble_eq_true rfl) ?_
  refine x_aload_n (i := 0) d_Fa_costs_0 rfl rfl ?_
  refine x_bi (v := 11) d_Fa_costs_1 (by decide) ?_
  obtain ⟨δ3, e3, h⟩ := bd_e h
  refine y_U1v cu_Fa_25_6 rfl oa (by decide) (Nat.le_of_ble_eq_true rfl) d_Fa_costs_3 (c_Fa_begins_6 oa 11 _ _ e3) (Nat.le_refl 0) (Nat.le_refl 0) ?_
  refine x_aload_n (i := 0) d_Fa_costs_6 rfl rfl ?_
  refine x_iload_n (i := 1) d_Fa_costs_7 rfl rfl ?_
  obtain ⟨v8, δ8, e8, h⟩ := bd2_e h
  refine y_U1 cu_Fa_29_6 rfl oa (by decide) (Nat.le_of_ble_eq_true rfl) d_Fa_costs_8 (c_Sp_runs_6 oa x _ _ e8) (Nat.le_refl 0) (Nat.le_refl 0) ?_
  refine x_ic (v := 2) d_Fa_costs_11 (by decide) ?_
  refine x_imul d_Fa_costs_12 ?_
  cases h
  exact x_iret rfl d_Fa_costs_13 (Nat.le_refl 0) (Nat.le_refl 0)
def F_Ro_costs_6 (a : Nat) (x : Int32) (δ : Dl) : Option (Int32 × Dl) := ((F_Fa_begins_6 a 40 δ).bind fun δ3 => bd2 (F_Fa_costs_6 a x δ3) fun v8 δ8 => some ((v8 * 3), δ8))
set_option maxRecDepth 40000 in
set_option maxHeartbeats 4000000 in
theorem c_Ro_costs_6 {l : Launch} {Γ : Gm} {a : Nat} (oa : Ob Γ a 6) (x : Int32) (δ : Dl) (r : Int32 × Dl) (h : F_Ro_costs_6 a x δ = some r) : Ct l M_Ro_costs 4 0 0 NF [.inr (0, a), .inl x] Γ δ (some (.inl r.1), Γ, r.2) := by
  unfold F_Ro_costs_6 at h
  refine Ct.of2 (n := 0) (ls := [some (.inr (0, a)), some (.inl x)]) rfl (by decide +kernel) (Nat.le_of_ble_eq_true rfl) ?_
  refine x_aload_n (i := 0) d_Ro_costs_0 rfl rfl ?_
  refine x_bi (v := 40) d_Ro_costs_1 (by decide) ?_
  obtain ⟨δ3, e3, h⟩ := bd_e h
  refine y_U1v cu_Ro_7_6 rfl oa (by decide) (Nat.le_of_ble_eq_true rfl) d_Ro_costs_3 (c_Fa_begins_6 oa 40 _ _ e3) (Nat.le_refl 0) (Nat.le_refl 0) ?_
  refine x_aload_n (i := 0) d_Ro_costs_6 rfl rfl ?_
  refine x_iload_n (i := 1) d_Ro_costs_7 rfl rfl ?_
  obtain ⟨v8, δ8, e8, h⟩ := bd2_e h
  refine y_P1 csu_Ro_13 rfl oa (by decide) (Nat.le_of_ble_eq_true rfl) d_Ro_costs_8 (c_Fa_costs_6 oa x _ _ e8) (Nat.le_refl 0) (Nat.le_refl 0) ?_
  refine x_ic (v := 3) d_Ro_costs_11 (by decide) ?_
  refine x_imul d_Ro_costs_12 ?_
  cases h
  exact x_iret rfl d_Ro_costs_13 (Nat.le_refl 0) (Nat.le_refl 0)
abbrev M_Sp_tells : MM := (⟨RX6, "tells", "(I)I"⟩, prog_8_method_3_code, 2, (some .int))
theorem d_Sp_tells_0 : decode M_Sp_tells.2.1 0 = .ok (.aload_n 0, 1) := by decide +kernel
theorem d_Sp_tells_1 : decode M_Sp_tells.2.1 1 = .ok (.bipush 51, 2) := by decide +kernel
theorem d_Sp_tells_3 : decode M_Sp_tells.2.1 3 = .ok (.invokevirtual 7, 3) := by decide +kernel
theorem d_Sp_tells_6 : decode M_Sp_tells.2.1 6 = .ok (.aload_n 0, 1) := by decide +kernel
theorem d_Sp_tells_7 : decode M_Sp_tells.2.1 7 = .ok (.iload_n 1, 1) := by decide +kernel
theorem d_Sp_tells_8 : decode M_Sp_tells.2.1 8 = .ok (.invokevirtual 17, 3) := by decide +kernel
theorem d_Sp_tells_11 : decode M_Sp_tells.2.1 11 = .ok (.aload_n 0, 1) := by decide +kernel
theorem d_Sp_tells_12 : decode M_Sp_tells.2.1 12 = .ok (.iload_n 1, 1) := by decide +kernel
theorem d_Sp_tells_13 : decode M_Sp_tells.2.1 13 = .ok (.invokespecial 20, 3) := by decide +kernel
theorem d_Sp_tells_16 : decode M_Sp_tells.2.1 16 = .ok (.isub, 1) := by decide +kernel
theorem d_Sp_tells_17 : decode M_Sp_tells.2.1 17 = .ok (.ireturn, 1) := by decide +kernel
theorem cu_Sp_17_6 : CU RX6 17 RX6 RX4 ⟨RX6, "costs", "(I)I"⟩ M_Ro_costs 1 := ⟨(lwg_at 1041 (by decide +kernel) rfl), (lwg_at 1042 (by decide +kernel) rfl), (lwg_at 1044 (by decide +kernel) rfl), (lwg_at 1014 (by decide +kernel) rfl), Or.inl rfl, ⟨by decide +kernel, by decide +kernel⟩, by decide +kernel, mi_Ro_costs⟩
theorem cu_Fa_33_6 : CU RX1 33 RX6 RX1 ⟨RX1, "costs", "(I)I"⟩ M_Ro_costs 1 := ⟨(lwg_at 1054 (by decide +kernel) rfl), (lwg_at 1011 (by decide +kernel) rfl), (lwg_at 1021 (by decide +kernel) rfl), (lwg_at 1014 (by decide +kernel) rfl), Or.inr ⟨(lwg_at 1010 (by decide +kernel) rfl), prog_3_method_5_code, 2, (Option.some FieldType.int), (lwg_at 1031 (by decide +kernel) rfl)⟩, ⟨by decide +kernel, by decide +kernel⟩, by decide +kernel, mi_Ro_costs⟩
theorem gl_Fa_22_6 : GL RX1 22 6 1 := ⟨RX6, TX6, 4, RX1, rfl, by decide, (lwg_at 937 (by decide +kernel) rfl), Or.inl rfl, gl_w inX6⟩
def F_Fa_tells_6 (a : Nat) (x : Int32) (δ : Dl) : Option (Int32 × Dl) := ((F_Fa_begins_6 a 12 δ).bind fun δ3 => bd2 (F_Ro_costs_6 a x δ3) fun v8 δ8 => bd2 (F_Sp_runs_6 a (x + (δ8.1 21 a)) δ8) fun v18 δ18 => some ((v8 ^^^ v18), δ18))
set_option maxRecDepth 40000 in
set_option maxHeartbeats 4000000 in
theorem c_Fa_tells_6 {l : Launch} {Γ : Gm} {a : Nat} (oa : Ob Γ a 6) (x : Int32) (δ : Dl) (r : Int32 × Dl) (h : F_Fa_tells_6 a x δ = some r) : Ct l M_Fa_tells 5 0 0 NF [.inr (0, a), .inl x] Γ δ (some (.inl r.1), Γ, r.2) := by
  unfold F_Fa_tells_6 at h
  refine Ct.of2 (n := 0) (ls := [some (.inr (0, a)), some (.inl x)]) rfl (by decide +kernel) (Nat.le_of_ble_eq_true rfl) ?_
  refine x_aload_n (i := 0) d_Fa_tells_0 rfl rfl ?_
  refine x_bi (v := 12) d_Fa_tells_1 (by decide) ?_
  obtain ⟨δ3, e3, h⟩ := bd_e h
  refine y_U1v cu_Fa_25_6 rfl oa (by decide) (Nat.le_of_ble_eq_true rfl) d_Fa_tells_3 (c_Fa_begins_6 oa 12 _ _ e3) (Nat.le_refl 0) (Nat.le_refl 0) ?_
  refine x_aload_n (i := 0) d_Fa_tells_6 rfl rfl ?_
  refine x_iload_n (i := 1) d_Fa_tells_7 rfl rfl ?_
  obtain ⟨v8, δ8, e8, h⟩ := bd2_e h
  refine y_U1 cu_Fa_33_6 rfl oa (by decide) (Nat.le_of_ble_eq_true rfl) d_Fa_tells_8 (c_Ro_costs_6 oa x _ _ e8) (Nat.le_refl 0) (Nat.le_refl 0) ?_
  refine x_aload_n (i := 0) d_Fa_tells_11 rfl rfl ?_
  refine x_iload_n (i := 1) d_Fa_tells_12 rfl rfl ?_
  refine x_aload_n (i := 0) d_Fa_tells_13 rfl rfl ?_
  refine x_getI (f := 21) gl_Fa_22_6 rfl (by decide) oa d_Fa_tells_14 ?_
  refine x_iadd d_Fa_tells_17 ?_
  obtain ⟨v18, δ18, e18, h⟩ := bd2_e h
  refine y_U1 cu_Fa_29_6 rfl oa (by decide) (Nat.le_of_ble_eq_true rfl) d_Fa_tells_18 (c_Sp_runs_6 oa (x + (δ8.1 21 a)) _ _ e18) (Nat.le_refl 0) (Nat.le_refl 0) ?_
  refine x_ixor d_Fa_tells_21 ?_
  cases h
  exact x_iret rfl d_Fa_tells_22 (Nat.le_refl 0) (Nat.le_refl 0)
theorem mi_Fa_tells : MI M_Fa_tells 1 := ⟨(lwg_at 16 (by decide +kernel) rfl), (lwg_at 1053 (by decide +kernel) rfl), ⟨by decide +kernel, by decide +kernel⟩, by decide +kernel, by decide⟩
theorem csu_Sp_20 : CSU RX6 20 ⟨RX4, "tells", "(I)I"⟩ M_Fa_tells 1 := ⟨(lwg_at 1045 (by decide +kernel) rfl), (lwg_at 1046 (by decide +kernel) rfl), (lwg_at 973 (by decide +kernel) rfl), Or.inr (lwg_at 981 (by decide +kernel) rfl), ⟨rfl, rfl⟩, (lwg_at 1034 (by decide +kernel) rfl), by decide, mi_Fa_tells⟩
def F_Sp_tells_6 (a : Nat) (x : Int32) (δ : Dl) : Option (Int32 × Dl) := ((F_Fa_begins_6 a 51 δ).bind fun δ3 => bd2 (F_Ro_costs_6 a x δ3) fun v8 δ8 => bd2 (F_Fa_tells_6 a x δ8) fun v13 δ13 => some ((v8 - v13), δ13))
set_option maxRecDepth 40000 in
set_option maxHeartbeats 4000000 in
theorem c_Sp_tells_6 {l : Launch} {Γ : Gm} {a : Nat} (oa : Ob Γ a 6) (x : Int32) (δ : Dl) (r : Int32 × Dl) (h : F_Sp_tells_6 a x δ = some r) : Ct l M_Sp_tells 6 0 0 NF [.inr (0, a), .inl x] Γ δ (some (.inl r.1), Γ, r.2) := by
  unfold F_Sp_tells_6 at h
  refine Ct.of2 (n := 0) (ls := [some (.inr (0, a)), some (.inl x)]) rfl (by decide +kernel) (Nat.le_of_ble_eq_true rfl) ?_
  refine x_aload_n (i := 0) d_Sp_tells_0 rfl rfl ?_
  refine x_bi (v := 51) d_Sp_tells_1 (by decide) ?_
  obtain ⟨δ3, e3, h⟩ := bd_e h
  refine y_U1v cu_Sp_7_6 rfl oa (by decide) (Nat.le_of_ble_eq_true rfl) d_Sp_tells_3 (c_Fa_begins_6 oa 51 _ _ e3) (Nat.le_refl 0) (Nat.le_refl 0) ?_
  refine x_aload_n (i := 0) d_Sp_tells_6 rfl rfl ?_
  refine x_iload_n (i := 1) d_Sp_tells_7 rfl rfl ?_
  obtain ⟨v8, δ8, e8, h⟩ := bd2_e h
  refine y_U1 cu_Sp_17_6 rfl oa (by decide) (Nat.le_of_ble_eq_true rfl) d_Sp_tells_8 (c_Ro_costs_6 oa x _ _ e8) (Nat.le_refl 0) (Nat.le_refl 0) ?_
  refine x_aload_n (i := 0) d_Sp_tells_11 rfl rfl ?_
  refine x_iload_n (i := 1) d_Sp_tells_12 rfl rfl ?_
  obtain ⟨v13, δ13, e13, h⟩ := bd2_e h
  refine y_P1 csu_Sp_20 rfl oa (by decide) (Nat.le_of_ble_eq_true rfl) d_Sp_tells_13 (c_Fa_tells_6 oa x _ _ e13) (Nat.le_refl 0) (Nat.le_refl 0) ?_
  refine x_isub d_Sp_tells_16 ?_
  cases h
  exact x_iret rfl d_Sp_tells_17 (Nat.le_refl 0) (Nat.le_refl 0)
def F_Fa_bodyAt_6 (a : Nat) (x : Int32) (δ : Dl) : Option (Int32) := (if x < 0 then (some (-1)) else ((if (δ.1 22 a) ≤ x then (some (-1)) else ((if 30 ≤ x then (some (-1)) else ((if inb x 30 then (some (δ.2.1 23 a x)) else none)))))))
set_option maxRecDepth 40000 in
set_option maxHeartbeats 4000000 in
theorem c_Fa_bodyAt_6 {l : Launch} {Γ : Gm} {a : Nat} (oa : Ob Γ a 6) (x : Int32) (δ : Dl) (r : Int32) (h : F_Fa_bodyAt_6 a x δ = some r) : Ct l M_Fa_bodyAt 0 0 0 NF [.inr (0, a), .inl x] Γ δ (some (.inl r), Γ, δ) := by
  unfold F_Fa_bodyAt_6 at h
  refine Ct.of2 (n := 0) (ls := [some (.inr (0, a)), some (.inl x)]) rfl (by decide +kernel) (Nat.le_of_ble_eq_true rfl) ?_
  refine x_iload_n (i := 1) d_Fa_bodyAt_0 rfl rfl ?_
  refine x_if_lt (tgt := 27) d_Fa_bodyAt_1 (by decide) (fun c1 => ?_) (fun c1 => ?_)
  · have h := if_t c1 h
    refine x_ic (v := -1) d_Fa_bodyAt_27 (by decide) ?_
    cases h
    exact x_iret rfl d_Fa_bodyAt_28 (Nat.le_refl 0) (Nat.le_refl 0)
  · have h := if_f c1 h
    refine x_iload_n (i := 1) d_Fa_bodyAt_4 rfl rfl ?_
    refine x_aload_n (i := 0) d_Fa_bodyAt_5 rfl rfl ?_
    refine x_getI (f := 22) gl_Fa_9_6 rfl (by decide) oa d_Fa_bodyAt_6 ?_
    refine x_cmp_ge (tgt := 27) d_Fa_bodyAt_9 (by decide) (fun c9 => ?_) (fun c9 => ?_)
    · have h := if_t c9 h
      refine x_ic (v := -1) d_Fa_bodyAt_27 (by decide) ?_
      cases h
      exact x_iret rfl d_Fa_bodyAt_28 (Nat.le_refl 0) (Nat.le_refl 0)
    · have h := if_f c9 h
      refine x_iload_n (i := 1) d_Fa_bodyAt_12 rfl rfl ?_
      refine x_bi (v := 30) d_Fa_bodyAt_13 (by decide) ?_
      refine x_cmp_ge (tgt := 27) d_Fa_bodyAt_15 (by decide) (fun c15 => ?_) (fun c15 => ?_)
      · have h := if_t c15 h
        refine x_ic (v := -1) d_Fa_bodyAt_27 (by decide) ?_
        cases h
        exact x_iret rfl d_Fa_bodyAt_28 (Nat.le_refl 0) (Nat.le_refl 0)
      · have h := if_f c15 h
        refine x_aload_n (i := 0) d_Fa_bodyAt_18 rfl rfl ?_
        refine x_getA (f := 23) gl_Fa_15_6 rfl (by decide) oa d_Fa_bodyAt_19 ?_
        refine x_iload_n (i := 1) d_Fa_bodyAt_22 rfl rfl ?_
        obtain ⟨g23, h⟩ := gd_e h
        refine x_iald (n := 30) (by decide) (by rw [oa.at (j := 3) (f := 23) rfl (by decide) rfl]; decide) (by rfl) g23 d_Fa_bodyAt_23 ?_
        refine x_goto (tgt := 28) d_Fa_bodyAt_24 (by decide) ?_
        cases h
        exact x_iret rfl d_Fa_bodyAt_28 (Nat.le_refl 0) (Nat.le_refl 0)
theorem gl_Fa_9_8 : GL RX1 9 8 2 := ⟨RX8, TX8, 4, RX1, rfl, by decide, (lwg_at 940 (by decide +kernel) rfl), Or.inl rfl, gl_w inX8⟩
theorem gp_Fa_9_8 : GP RX1 9 8 2 false .int := ⟨RX8, TX8, 4, RX1, tyX8, rfl, by decide, (lwg_at 940 (by decide +kernel) rfl), rfl, gl_w inX8, tyX8_ok, nmX8, rfl, by decide +kernel, fun h => by first | rfl | cases h⟩
theorem gl_Fa_15_8 : GL RX1 15 8 3 := ⟨RX8, TX8, 4, RX1, rfl, by decide, (lwg_at 942 (by decide +kernel) rfl), Or.inl rfl, gl_w inX8⟩
def F_Fa_begins_8 (a : Nat) (x : Int32) (δ : Dl) : Option (Dl) := (if (δ.1 22 a) < 0 then (some (sI δ 22 a ((δ.1 22 a) + 1))) else ((if 30 ≤ (δ.1 22 a) then (some (sI δ 22 a ((δ.1 22 a) + 1))) else (((if inb (δ.1 22 a) 30 then (some (sI (sA δ 23 a (δ.1 22 a) x) 22 a (((sA δ 23 a (δ.1 22 a) x).1 22 a) + 1))) else none))))))
set_option maxRecDepth 40000 in
set_option maxHeartbeats 4000000 in
theorem c_Fa_begins_8 {l : Launch} {Γ : Gm} {a : Nat} (oa : Ob Γ a 8) (x : Int32) (δ : Dl) (r : Dl) (h : F_Fa_begins_8 a x δ = some r) : Ct l M_Fa_begins 0 0 0 NF [.inr (0, a), .inl x] Γ δ (none, Γ, r) := by
  unfold F_Fa_begins_8 at h
  refine Ct.of2 (n := 0) (ls := [some (.inr (0, a)), some (.inl x)]) rfl (by decide +kernel) (Nat.le_of_ble_eq_true rfl) ?_
  refine x_aload_n (i := 0) d_Fa_begins_0 rfl rfl ?_
  refine x_getI (f := 22) gl_Fa_9_8 rfl (by decide) oa d_Fa_begins_1 ?_
  refine x_if_lt (tgt := 26) d_Fa_begins_4 (by decide) (fun c4 => ?_) (fun c4 => ?_)
  · have h := if_t c4 h
    refine x_aload_n (i := 0) d_Fa_begins_26 rfl rfl ?_
    refine x_dup d_Fa_begins_27 ?_
    refine x_getI (f := 22) gl_Fa_9_8 rfl (by decide) oa d_Fa_begins_28 ?_
    refine x_ic (v := 1) d_Fa_begins_31 (by decide) ?_
    refine x_iadd d_Fa_begins_32 ?_
    refine x_putI gp_Fa_9_8 rfl (by decide) (fun h => by cases h) rfl rfl oa.1 oa.z d_Fa_begins_33 ?_
    cases h
    exact x_vret rfl d_Fa_begins_36 (Nat.le_refl 0) (Nat.le_refl 0)
  · have h := if_f c4 h
    refine x_aload_n (i := 0) d_Fa_begins_7 rfl rfl ?_
    refine x_getI (f := 22) gl_Fa_9_8 rfl (by decide) oa d_Fa_begins_8 ?_
    refine x_bi (v := 30) d_Fa_begins_11 (by decide) ?_
    refine x_cmp_ge (tgt := 26) d_Fa_begins_13 (by decide) (fun c13 => ?_) (fun c13 => ?_)
    · have h := if_t c13 h
      refine x_aload_n (i := 0) d_Fa_begins_26 rfl rfl ?_
      refine x_dup d_Fa_begins_27 ?_
      refine x_getI (f := 22) gl_Fa_9_8 rfl (by decide) oa d_Fa_begins_28 ?_
      refine x_ic (v := 1) d_Fa_begins_31 (by decide) ?_
      refine x_iadd d_Fa_begins_32 ?_
      refine x_putI gp_Fa_9_8 rfl (by decide) (fun h => by cases h) rfl rfl oa.1 oa.z d_Fa_begins_33 ?_
      cases h
      exact x_vret rfl d_Fa_begins_36 (Nat.le_refl 0) (Nat.le_refl 0)
    · have h := if_f c13 h
      refine x_aload_n (i := 0) d_Fa_begins_16 rfl rfl ?_
      refine x_getA (f := 23) gl_Fa_15_8 rfl (by decide) oa d_Fa_begins_17 ?_
      refine x_aload_n (i := 0) d_Fa_begins_20 rfl rfl ?_
      refine x_getI (f := 22) gl_Fa_9_8 rfl (by decide) oa d_Fa_begins_21 ?_
      refine x_iload_n (i := 1) d_Fa_begins_24 rfl rfl ?_
      obtain ⟨g25, h⟩ := gd_e h
      refine x_iast (n := 30) (by decide) (by rw [oa.at (j := 3) (f := 23) rfl (by decide) rfl]; decide) (by rfl) g25 d_Fa_begins_25 ?_
      refine x_aload_n (i := 0) d_Fa_begins_26 rfl rfl ?_
      refine x_dup d_Fa_begins_27 ?_
      refine x_getI (f := 22) gl_Fa_9_8 rfl (by decide) oa d_Fa_begins_28 ?_
      refine x_ic (v := 1) d_Fa_begins_31 (by decide) ?_
      refine x_iadd d_Fa_begins_32 ?_
      refine x_putI gp_Fa_9_8 rfl (by decide) (fun h => by cases h) rfl rfl oa.1 oa.z d_Fa_begins_33 ?_
      cases h
      exact x_vret rfl d_Fa_begins_36 (Nat.le_refl 0) (Nat.le_refl 0)
theorem cu_Or_7_8 : CU RX2 7 RX8 RX1 ⟨RX2, "begins", "(I)V"⟩ M_Fa_begins 1 := ⟨(lwg_at 988 (by decide +kernel) rfl), (lwg_at 989 (by decide +kernel) rfl), (lwg_at 992 (by decide +kernel) rfl), (lwg_at 993 (by decide +kernel) rfl), Or.inl rfl, ⟨by decide +kernel, by decide +kernel⟩, by decide +kernel, mi_Fa_begins⟩
theorem cu_Fa_25_8 : CU RX1 25 RX8 RX1 ⟨RX1, "begins", "(I)V"⟩ M_Fa_begins 1 := ⟨(lwg_at 1008 (by decide +kernel) rfl), (lwg_at 1759 (by decide +kernel) rfl), (lwg_at 1763 (by decide +kernel) rfl), (lwg_at 993 (by decide +kernel) rfl), Or.inl rfl, ⟨by decide +kernel, by decide +kernel⟩, by decide +kernel, mi_Fa_begins⟩
theorem gl_Fa_19_8 : GL RX1 19 8 0 := ⟨RX8, TX8, 4, RX1, rfl, by decide, (lwg_at 936 (by decide +kernel) rfl), Or.inl rfl, gl_w inX8⟩
def F_Fa_runs_8 (a : Nat) (x : Int32) (δ : Dl) : Option (Int32 × Dl) := ((F_Fa_begins_8 a 10 δ).bind fun δ3 => some ((x + (δ3.1 20 a)), δ3))
set_option maxRecDepth 40000 in
set_option maxHeartbeats 4000000 in
theorem c_Fa_runs_8 {l : Launch} {Γ : Gm} {a : Nat} (oa : Ob Γ a 8) (x : Int32) (δ : Dl) (r : Int32 × Dl) (h : F_Fa_runs_8 a x δ = some r) : Ct l M_Fa_runs 1 0 0 NF [.inr (0, a), .inl x] Γ δ (some (.inl r.1), Γ, r.2) := by
  unfold F_Fa_runs_8 at h
  refine Ct.of2 (n := 0) (ls := [some (.inr (0, a)), some (.inl x)]) rfl (by decide +kernel) (Nat.le_of_ble_eq_true rfl) ?_
  refine x_aload_n (i := 0) d_Fa_runs_0 rfl rfl ?_
  refine x_bi (v := 10) d_Fa_runs_1 (by decide) ?_
  obtain ⟨δ3, e3, h⟩ := bd_e h
  refine y_U1v cu_Fa_25_8 rfl oa (by decide) (Nat.le_of_ble_eq_true rfl) d_Fa_runs_3 (c_Fa_begins_8 oa 10 _ _ e3) (Nat.le_refl 0) (Nat.le_refl 0) ?_
  refine x_iload_n (i := 1) d_Fa_runs_6 rfl rfl ?_
  refine x_aload_n (i := 0) d_Fa_runs_7 rfl rfl ?_
  refine x_getI (f := 20) gl_Fa_19_8 rfl (by decide) oa d_Fa_runs_8 ?_
  refine x_iadd d_Fa_runs_11 ?_
  cases h
  exact x_iret rfl d_Fa_runs_12 (Nat.le_refl 0) (Nat.le_refl 0)
theorem gl_Or_17_8 : GL RX2 17 8 1 := ⟨RX8, TX8, 4, RX2, rfl, by decide, (lwg_at 938 (by decide +kernel) rfl), Or.inr (lwg_at 939 (by decide +kernel) rfl), gl_w inX8⟩
def F_Or_runs_8 (a : Nat) (x : Int32) (δ : Dl) : Option (Int32 × Dl) := ((F_Fa_begins_8 a 20 δ).bind fun δ3 => bd2 (F_Fa_runs_8 a x δ3) fun v8 δ8 => some ((v8 - (δ8.1 21 a)), δ8))
set_option maxRecDepth 40000 in
set_option maxHeartbeats 4000000 in
theorem c_Or_runs_8 {l : Launch} {Γ : Gm} {a : Nat} (oa : Ob Γ a 8) (x : Int32) (δ : Dl) (r : Int32 × Dl) (h : F_Or_runs_8 a x δ = some r) : Ct l M_Or_runs 2 0 0 NF [.inr (0, a), .inl x] Γ δ (some (.inl r.1), Γ, r.2) := by
  unfold F_Or_runs_8 at h
  refine Ct.of2 (n := 0) (ls := [some (.inr (0, a)), some (.inl x)]) rfl (by decide +kernel) (Nat.le_of_ble_eq_true rfl) ?_
  refine x_aload_n (i := 0) d_Or_runs_0 rfl rfl ?_
  refine x_bi (v := 20) d_Or_runs_1 (by decide) ?_
  obtain ⟨δ3, e3, h⟩ := bd_e h
  refine y_U1v cu_Or_7_8 rfl oa (by decide) (Nat.le_of_ble_eq_true rfl) d_Or_runs_3 (c_Fa_begins_8 oa 20 _ _ e3) (Nat.le_refl 0) (Nat.le_refl 0) ?_
  refine x_aload_n (i := 0) d_Or_runs_6 rfl rfl ?_
  refine x_iload_n (i := 1) d_Or_runs_7 rfl rfl ?_
  obtain ⟨v8, δ8, e8, h⟩ := bd2_e h
  refine y_P1 csu_Or_13 rfl oa (by decide) (Nat.le_of_ble_eq_true rfl) d_Or_runs_8 (c_Fa_runs_8 oa x _ _ e8) (Nat.le_refl 0) (Nat.le_refl 0) ?_
  refine x_aload_n (i := 0) d_Or_runs_11 rfl rfl ?_
  refine x_getI (f := 21) gl_Or_17_8 rfl (by decide) oa d_Or_runs_12 ?_
  refine x_isub d_Or_runs_15 ?_
  cases h
  exact x_iret rfl d_Or_runs_16 (Nat.le_refl 0) (Nat.le_refl 0)
abbrev M_Se_costs : MM := (⟨RX8, "costs", "(I)I"⟩, prog_10_method_2_code, 2, (some .int))
theorem d_Se_costs_0 : decode M_Se_costs.2.1 0 = .ok (.aload_n 0, 1) := by decide +kernel
theorem d_Se_costs_1 : decode M_Se_costs.2.1 1 = .ok (.bipush 30, 2) := by decide +kernel
theorem d_Se_costs_3 : decode M_Se_costs.2.1 3 = .ok (.invokevirtual 7, 3) := by decide +kernel
theorem d_Se_costs_6 : decode M_Se_costs.2.1 6 = .ok (.aload_n 0, 1) := by decide +kernel
theorem d_Se_costs_7 : decode M_Se_costs.2.1 7 = .ok (.iload_n 1, 1) := by decide +kernel
theorem d_Se_costs_8 : decode M_Se_costs.2.1 8 = .ok (.invokespecial 13, 3) := by decide +kernel
theorem d_Se_costs_11 : decode M_Se_costs.2.1 11 = .ok (.iconst 3, 1) := by decide +kernel
theorem d_Se_costs_12 : decode M_Se_costs.2.1 12 = .ok (.iadd, 1) := by decide +kernel
theorem d_Se_costs_13 : decode M_Se_costs.2.1 13 = .ok (.ireturn, 1) := by decide +kernel
theorem cu_Se_7_8 : CU RX8 7 RX8 RX1 ⟨RX8, "begins", "(I)V"⟩ M_Fa_begins 1 := ⟨(lwg_at 1025 (by decide +kernel) rfl), (lwg_at 1026 (by decide +kernel) rfl), (lwg_at 1027 (by decide +kernel) rfl), (lwg_at 993 (by decide +kernel) rfl), Or.inl rfl, ⟨by decide +kernel, by decide +kernel⟩, by decide +kernel, mi_Fa_begins⟩
theorem cu_Fa_29_8 : CU RX1 29 RX8 RX1 ⟨RX1, "runs", "(I)I"⟩ M_Or_runs 1 := ⟨(lwg_at 1032 (by decide +kernel) rfl), (lwg_at 984 (by decide +kernel) rfl), (lwg_at 1006 (by decide +kernel) rfl), (lwg_at 986 (by decide +kernel) rfl), Or.inr ⟨(lwg_at 983 (by decide +kernel) rfl), prog_3_method_4_code, 2, (Option.some FieldType.int), (lwg_at 1007 (by decide +kernel) rfl)⟩, ⟨by decide +kernel, by decide +kernel⟩, by decide +kernel, mi_Or_runs⟩
def F_Fa_costs_8 (a : Nat) (x : Int32) (δ : Dl) : Option (Int32 × Dl) := ((F_Fa_begins_8 a 11 δ).bind fun δ3 => bd2 (F_Or_runs_8 a x δ3) fun v8 δ8 => some ((v8 * 2), δ8))
set_option maxRecDepth 40000 in
set_option maxHeartbeats 4000000 in
theorem c_Fa_costs_8 {l : Launch} {Γ : Gm} {a : Nat} (oa : Ob Γ a 8) (x : Int32) (δ : Dl) (r : Int32 × Dl) (h : F_Fa_costs_8 a x δ = some r) : Ct l M_Fa_costs 3 0 0 NF [.inr (0, a), .inl x] Γ δ (some (.inl r.1), Γ, r.2) := by
  unfold F_Fa_costs_8 at h
  refine Ct.of2 (n := 0) (ls := [some (.inr (0, a)), some (.inl x)]) rfl (by decide +kernel) (Nat.le_of_ble_eq_true rfl) ?_
  refine x_aload_n (i := 0) d_Fa_costs_0 rfl rfl ?_
  refine x_bi (v := 11) d_Fa_costs_1 (by decide) ?_
  obtain ⟨δ3, e3, h⟩ := bd_e h
  refine y_U1v cu_Fa_25_8 rfl oa (by decide) (Nat.le_of_ble_eq_true rfl) d_Fa_costs_3 (c_Fa_begins_8 oa 11 _ _ e3) (Nat.le_refl 0) (Nat.le_refl 0) ?_
  refine x_aload_n (i := 0) d_Fa_costs_6 rfl rfl ?_
  refine x_iload_n (i := 1) d_Fa_costs_7 rfl rfl ?_
  obtain ⟨v8, δ8, e8, h⟩ := bd2_e h
  refine y_U1 cu_Fa_29_8 rfl oa (by decide) (Nat.le_of_ble_eq_true rfl) d_Fa_costs_8 (c_Or_runs_8 oa x _ _ e8) (Nat.le_refl 0) (Nat.le_refl 0) ?_
  refine x_ic (v := 2) d_Fa_costs_11 (by decide) ?_
  refine x_imul d_Fa_costs_12 ?_
  cases h
  exact x_iret rfl d_Fa_costs_13 (Nat.le_refl 0) (Nat.le_refl 0)
theorem csu_Se_13 : CSU RX8 13 ⟨RX2, "costs", "(I)I"⟩ M_Fa_costs 1 := ⟨(lwg_at 1028 (by decide +kernel) rfl), (lwg_at 1029 (by decide +kernel) rfl), (lwg_at 951 (by decide +kernel) rfl), Or.inr (lwg_at 959 (by decide +kernel) rfl), ⟨rfl, rfl⟩, (lwg_at 1010 (by decide +kernel) rfl), by decide, mi_Fa_costs⟩
def F_Se_costs_8 (a : Nat) (x : Int32) (δ : Dl) : Option (Int32 × Dl) := ((F_Fa_begins_8 a 30 δ).bind fun δ3 => bd2 (F_Fa_costs_8 a x δ3) fun v8 δ8 => some ((v8 + 3), δ8))
set_option maxRecDepth 40000 in
set_option maxHeartbeats 4000000 in
theorem c_Se_costs_8 {l : Launch} {Γ : Gm} {a : Nat} (oa : Ob Γ a 8) (x : Int32) (δ : Dl) (r : Int32 × Dl) (h : F_Se_costs_8 a x δ = some r) : Ct l M_Se_costs 4 0 0 NF [.inr (0, a), .inl x] Γ δ (some (.inl r.1), Γ, r.2) := by
  unfold F_Se_costs_8 at h
  refine Ct.of2 (n := 0) (ls := [some (.inr (0, a)), some (.inl x)]) rfl (by decide +kernel) (Nat.le_of_ble_eq_true rfl) ?_
  refine x_aload_n (i := 0) d_Se_costs_0 rfl rfl ?_
  refine x_bi (v := 30) d_Se_costs_1 (by decide) ?_
  obtain ⟨δ3, e3, h⟩ := bd_e h
  refine y_U1v cu_Se_7_8 rfl oa (by decide) (Nat.le_of_ble_eq_true rfl) d_Se_costs_3 (c_Fa_begins_8 oa 30 _ _ e3) (Nat.le_refl 0) (Nat.le_refl 0) ?_
  refine x_aload_n (i := 0) d_Se_costs_6 rfl rfl ?_
  refine x_iload_n (i := 1) d_Se_costs_7 rfl rfl ?_
  obtain ⟨v8, δ8, e8, h⟩ := bd2_e h
  refine y_P1 csu_Se_13 rfl oa (by decide) (Nat.le_of_ble_eq_true rfl) d_Se_costs_8 (c_Fa_costs_8 oa x _ _ e8) (Nat.le_refl 0) (Nat.le_refl 0) ?_
  refine x_ic (v := 3) d_Se_costs_11 (by decide) ?_
  refine x_iadd d_Se_costs_12 ?_
  cases h
  exact x_iret rfl d_Se_costs_13 (Nat.le_refl 0) (Nat.le_refl 0)
abbrev M_Se_tells : MM := (⟨RX8, "tells", "(I)I"⟩, prog_10_method_3_code, 2, (some .int))
theorem d_Se_tells_0 : decode M_Se_tells.2.1 0 = .ok (.aload_n 0, 1) := by decide +kernel
theorem d_Se_tells_1 : decode M_Se_tells.2.1 1 = .ok (.bipush 31, 2) := by decide +kernel
theorem d_Se_tells_3 : decode M_Se_tells.2.1 3 = .ok (.invokevirtual 7, 3) := by decide +kernel
theorem d_Se_tells_6 : decode M_Se_tells.2.1 6 = .ok (.aload_n 0, 1) := by decide +kernel
theorem d_Se_tells_7 : decode M_Se_tells.2.1 7 = .ok (.iload_n 1, 1) := by decide +kernel
theorem d_Se_tells_8 : decode M_Se_tells.2.1 8 = .ok (.iconst 1, 1) := by decide +kernel
theorem d_Se_tells_9 : decode M_Se_tells.2.1 9 = .ok (.iadd, 1) := by decide +kernel
theorem d_Se_tells_10 : decode M_Se_tells.2.1 10 = .ok (.invokespecial 17, 3) := by decide +kernel
theorem d_Se_tells_13 : decode M_Se_tells.2.1 13 = .ok (.ireturn, 1) := by decide +kernel
theorem mi_Se_costs : MI M_Se_costs 1 := ⟨(lwg_at 18 (by decide +kernel) rfl), (lwg_at 1024 (by decide +kernel) rfl), ⟨by decide +kernel, by decide +kernel⟩, by decide +kernel, by decide⟩
theorem cu_Fa_33_8 : CU RX1 33 RX8 RX1 ⟨RX1, "costs", "(I)I"⟩ M_Se_costs 1 := ⟨(lwg_at 1054 (by decide +kernel) rfl), (lwg_at 1011 (by decide +kernel) rfl), (lwg_at 1022 (by decide +kernel) rfl), (lwg_at 1023 (by decide +kernel) rfl), Or.inr ⟨(lwg_at 1010 (by decide +kernel) rfl), prog_3_method_5_code, 2, (Option.some FieldType.int), (lwg_at 1031 (by decide +kernel) rfl)⟩, ⟨by decide +kernel, by decide +kernel⟩, by decide +kernel, mi_Se_costs⟩
theorem gl_Fa_22_8 : GL RX1 22 8 1 := ⟨RX8, TX8, 4, RX1, rfl, by decide, (lwg_at 937 (by decide +kernel) rfl), Or.inl rfl, gl_w inX8⟩
def F_Fa_tells_8 (a : Nat) (x : Int32) (δ : Dl) : Option (Int32 × Dl) := ((F_Fa_begins_8 a 12 δ).bind fun δ3 => bd2 (F_Se_costs_8 a x δ3) fun v8 δ8 => bd2 (F_Or_runs_8 a (x + (δ8.1 21 a)) δ8) fun v18 δ18 => some ((v8 ^^^ v18), δ18))
set_option maxRecDepth 40000 in
set_option maxHeartbeats 4000000 in
theorem c_Fa_tells_8 {l : Launch} {Γ : Gm} {a : Nat} (oa : Ob Γ a 8) (x : Int32) (δ : Dl) (r : Int32 × Dl) (h : F_Fa_tells_8 a x δ = some r) : Ct l M_Fa_tells 5 0 0 NF [.inr (0, a), .inl x] Γ δ (some (.inl r.1), Γ, r.2) := by
  unfold F_Fa_tells_8 at h
  refine Ct.of2 (n := 0) (ls := [some (.inr (0, a)), some (.inl x)]) rfl (by decide +kernel) (Nat.le_of_ble_eq_true rfl) ?_
  refine x_aload_n (i := 0) d_Fa_tells_0 rfl rfl ?_
  refine x_bi (v := 12) d_Fa_tells_1 (by decide) ?_
  obtain ⟨δ3, e3, h⟩ := bd_e h
  refine y_U1v cu_Fa_25_8 rfl oa (by decide) (Nat.le_of_ble_eq_true rfl) d_Fa_tells_3 (c_Fa_begins_8 oa 12 _ _ e3) (Nat.le_refl 0) (Nat.le_refl 0) ?_
  refine x_aload_n (i := 0) d_Fa_tells_6 rfl rfl ?_
  refine x_iload_n (i := 1) d_Fa_tells_7 rfl rfl ?_
  obtain ⟨v8, δ8, e8, h⟩ := bd2_e h
  refine y_U1 cu_Fa_33_8 rfl oa (by decide) (Nat.le_of_ble_eq_true rfl) d_Fa_tells_8 (c_Se_costs_8 oa x _ _ e8) (Nat.le_refl 0) (Nat.le_refl 0) ?_
  refine x_aload_n (i := 0) d_Fa_tells_11 rfl rfl ?_
  refine x_iload_n (i := 1) d_Fa_tells_12 rfl rfl ?_
  refine x_aload_n (i := 0) d_Fa_tells_13 rfl rfl ?_
  refine x_getI (f := 21) gl_Fa_22_8 rfl (by decide) oa d_Fa_tells_14 ?_
  refine x_iadd d_Fa_tells_17 ?_
  obtain ⟨v18, δ18, e18, h⟩ := bd2_e h
  refine y_U1 cu_Fa_29_8 rfl oa (by decide) (Nat.le_of_ble_eq_true rfl) d_Fa_tells_18 (c_Or_runs_8 oa (x + (δ8.1 21 a)) _ _ e18) (Nat.le_refl 0) (Nat.le_refl 0) ?_
  refine x_ixor d_Fa_tells_21 ?_
  cases h
  exact x_iret rfl d_Fa_tells_22 (Nat.le_refl 0) (Nat.le_refl 0)
theorem csu_Se_17 : CSU RX8 17 ⟨RX2, "tells", "(I)I"⟩ M_Fa_tells 1 := ⟨(lwg_at 1051 (by decide +kernel) rfl), (lwg_at 1052 (by decide +kernel) rfl), (lwg_at 951 (by decide +kernel) rfl), Or.inr (lwg_at 959 (by decide +kernel) rfl), ⟨rfl, rfl⟩, (lwg_at 1034 (by decide +kernel) rfl), by decide, mi_Fa_tells⟩
def F_Se_tells_8 (a : Nat) (x : Int32) (δ : Dl) : Option (Int32 × Dl) := ((F_Fa_begins_8 a 31 δ).bind fun δ3 => bd2 (F_Fa_tells_8 a (x + 1) δ3) fun v10 δ10 => some (v10, δ10))
set_option maxRecDepth 40000 in
set_option maxHeartbeats 4000000 in
theorem c_Se_tells_8 {l : Launch} {Γ : Gm} {a : Nat} (oa : Ob Γ a 8) (x : Int32) (δ : Dl) (r : Int32 × Dl) (h : F_Se_tells_8 a x δ = some r) : Ct l M_Se_tells 6 0 0 NF [.inr (0, a), .inl x] Γ δ (some (.inl r.1), Γ, r.2) := by
  unfold F_Se_tells_8 at h
  refine Ct.of2 (n := 0) (ls := [some (.inr (0, a)), some (.inl x)]) rfl (by decide +kernel) (Nat.le_of_ble_eq_true rfl) ?_
  refine x_aload_n (i := 0) d_Se_tells_0 rfl rfl ?_
  refine x_bi (v := 31) d_Se_tells_1 (by decide) ?_
  obtain ⟨δ3, e3, h⟩ := bd_e h
  refine y_U1v cu_Se_7_8 rfl oa (by decide) (Nat.le_of_ble_eq_true rfl) d_Se_tells_3 (c_Fa_begins_8 oa 31 _ _ e3) (Nat.le_refl 0) (Nat.le_refl 0) ?_
  refine x_aload_n (i := 0) d_Se_tells_6 rfl rfl ?_
  refine x_iload_n (i := 1) d_Se_tells_7 rfl rfl ?_
  refine x_ic (v := 1) d_Se_tells_8 (by decide) ?_
  refine x_iadd d_Se_tells_9 ?_
  obtain ⟨v10, δ10, e10, h⟩ := bd2_e h
  refine y_P1 csu_Se_17 rfl oa (by decide) (Nat.le_of_ble_eq_true rfl) d_Se_tells_10 (c_Fa_tells_8 oa (x + 1) _ _ e10) (Nat.le_refl 0) (Nat.le_refl 0) ?_
  cases h
  exact x_iret rfl d_Se_tells_13 (Nat.le_refl 0) (Nat.le_refl 0)
def F_Fa_bodyAt_8 (a : Nat) (x : Int32) (δ : Dl) : Option (Int32) := (if x < 0 then (some (-1)) else ((if (δ.1 22 a) ≤ x then (some (-1)) else ((if 30 ≤ x then (some (-1)) else ((if inb x 30 then (some (δ.2.1 23 a x)) else none)))))))
set_option maxRecDepth 40000 in
set_option maxHeartbeats 4000000 in
theorem c_Fa_bodyAt_8 {l : Launch} {Γ : Gm} {a : Nat} (oa : Ob Γ a 8) (x : Int32) (δ : Dl) (r : Int32) (h : F_Fa_bodyAt_8 a x δ = some r) : Ct l M_Fa_bodyAt 0 0 0 NF [.inr (0, a), .inl x] Γ δ (some (.inl r), Γ, δ) := by
  unfold F_Fa_bodyAt_8 at h
  refine Ct.of2 (n := 0) (ls := [some (.inr (0, a)), some (.inl x)]) rfl (by decide +kernel) (Nat.le_of_ble_eq_true rfl) ?_
  refine x_iload_n (i := 1) d_Fa_bodyAt_0 rfl rfl ?_
  refine x_if_lt (tgt := 27) d_Fa_bodyAt_1 (by decide) (fun c1 => ?_) (fun c1 => ?_)
  · have h := if_t c1 h
    refine x_ic (v := -1) d_Fa_bodyAt_27 (by decide) ?_
    cases h
    exact x_iret rfl d_Fa_bodyAt_28 (Nat.le_refl 0) (Nat.le_refl 0)
  · have h := if_f c1 h
    refine x_iload_n (i := 1) d_Fa_bodyAt_4 rfl rfl ?_
    refine x_aload_n (i := 0) d_Fa_bodyAt_5 rfl rfl ?_
    refine x_getI (f := 22) gl_Fa_9_8 rfl (by decide) oa d_Fa_bodyAt_6 ?_
    refine x_cmp_ge (tgt := 27) d_Fa_bodyAt_9 (by decide) (fun c9 => ?_) (fun c9 => ?_)
    · have h := if_t c9 h
      refine x_ic (v := -1) d_Fa_bodyAt_27 (by decide) ?_
      cases h
      exact x_iret rfl d_Fa_bodyAt_28 (Nat.le_refl 0) (Nat.le_refl 0)
    · have h := if_f c9 h
      refine x_iload_n (i := 1) d_Fa_bodyAt_12 rfl rfl ?_
      refine x_bi (v := 30) d_Fa_bodyAt_13 (by decide) ?_
      refine x_cmp_ge (tgt := 27) d_Fa_bodyAt_15 (by decide) (fun c15 => ?_) (fun c15 => ?_)
      · have h := if_t c15 h
        refine x_ic (v := -1) d_Fa_bodyAt_27 (by decide) ?_
        cases h
        exact x_iret rfl d_Fa_bodyAt_28 (Nat.le_refl 0) (Nat.le_refl 0)
      · have h := if_f c15 h
        refine x_aload_n (i := 0) d_Fa_bodyAt_18 rfl rfl ?_
        refine x_getA (f := 23) gl_Fa_15_8 rfl (by decide) oa d_Fa_bodyAt_19 ?_
        refine x_iload_n (i := 1) d_Fa_bodyAt_22 rfl rfl ?_
        obtain ⟨g23, h⟩ := gd_e h
        refine x_iald (n := 30) (by decide) (by rw [oa.at (j := 3) (f := 23) rfl (by decide) rfl]; decide) (by rfl) g23 d_Fa_bodyAt_23 ?_
        refine x_goto (tgt := 28) d_Fa_bodyAt_24 (by decide) ?_
        cases h
        exact x_iret rfl d_Fa_bodyAt_28 (Nat.le_refl 0) (Nat.le_refl 0)
