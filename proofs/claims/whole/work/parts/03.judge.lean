/-! THE PICTURE: a heap by fields (numbers of a field of an object, contents of a row that a field of an object holds, references), and the judgement Xe: from this pc, with these locals and this stack, the method returns r -/
abbrev AV : Type := Int32 ⊕ (Nat × Nat)
abbrev Dl : Type := (Nat → Nat → Int32) × (Nat → Nat → Int32 → Int32) × (Nat → Nat → Nat × Nat)
abbrev Gm : Type := Nat → Nat → Nat
abbrev MM : Type := MethodName × ByteArray × Nat × Option FieldType
abbrev Kd : Type := Nat × Nat × Nat
abbrev Rs : Type := Option AV × Gm × Dl
def cv (μ : Gm) : AV → Value
  | .inl x => .int x
  | .inr q => if q.1 = 1 then .null else .ref (μ q.1 q.2)
theorem cv_cat (μ : Gm) (v : AV) : (cv μ v).category = 1 := by
  cases v with
  | inl x => rfl
  | inr q => show (if q.1 = 1 then Value.null else .ref (μ q.1 q.2)).category = 1; split <;> rfl
/-- what a slot holds -/
def fv (μ Γ : Gm) (δ : Dl) (f a : Nat) : Value :=
  if wty f = 0 then .int (δ.1 f a)
  else if wty f = 1 then cv μ (.inr (δ.2.2 f a))
  else if wty f = 2 then (if Γ f a = 2 then .ref (μ 0 (wsr f a)) else .null)
  else (if Γ f a = 2 then .ref (μ f a) else .null)
def lv (Γ : Gm) (f a : Nat) : Prop := 3 ≤ wty f ∧ Γ f a ≠ 0
def HP (D : va_G) (K : Kd) (μ Γ : Gm) (δ : Dl) (H : Heap) : Prop :=
  (∀ a, Γ 0 a ≠ 0 → ∃ r : vw_C, vwCl[wcls a]? = some r ∧ t_OB (μ 0 a) (D.1 (wcls a)) r.2.2 (D.2 (wcls a)) H (fun j => fv μ Γ δ (wfb (wcls a) + j) a)) ∧
  (∀ f a, wty f = 3 → Γ f a ≠ 0 → H[μ f a]? = some (arrV K.1 (wlen f a) (fun j => .int (δ.2.1 f a (nI j))))) ∧
  (∀ f a, wty f = 4 → Γ f a ≠ 0 → H[μ f a]? = some (arrV K.2.1 (wlen f a) (fun j => .int (δ.2.1 f a (nI j))))) ∧
  (∀ f a, wty f = 5 → Γ f a ≠ 0 → H[μ f a]? = some (arrV K.2.2 (wlen f a) (fun j => cv μ (.inr (δ.2.2 f j))))) ∧
  (∀ f a g b, lv Γ f a → lv Γ g b → μ f a = μ g b → f = g ∧ a = b)
/-- the words: the good ones of the tables -/
def lwg : List Cond := lw_tbl.filter goodWord
theorem lwg_mem {w : Cond} (h : w ∈ tables_1) (g : goodWord w = true) : w ∈ lwg := List.mem_filter.mpr ⟨List.mem_append_right _ h, g⟩
theorem lwg_at (i : Nat) {w : Cond} (h : decide (tables_1[i]? = some w) = true) (g : goodWord w = true) : w ∈ lwg := lwg_mem (List.mem_of_getElem? (of_decide_eq_true h)) g
theorem lwg_gd : ∀ w ∈ lwg, goodWord w = true := fun _ h => (List.mem_filter.mp h).2
def wY (Y : MM) : List Cond := Cond.code Y.1 Y.2.1 Y.2.2.1 Y.2.2.2 :: lwg
def rmO (d k s : Nat) : Room := { frames := d, cells := k, slots := s, locals := 40 * d }
def tysK (K : Kd) : List (ClassId × FieldType) := [(K.1, .int), (K.2.1, .boolean), (K.2.2, .object "BlockStage$Stage")]
def tHKL : List Int32 := [1, 1, 1, 1, 9, 9, 1, 1, 9, 25, 11, 11, 15, 0, 0, 24, 0, 8, 24, 0, 24, 8, 0]
def tSTL : List Int32 := [-10, 1, 10, -1]
def strLen : List Nat := [5, 3, 6, 5, 4, 1]
def strByt : List (List Int32) := [[32, 97, 110, 100, 32], [101, 110, 100], [97, 108, 119, 97, 121, 115], [110, 101, 118, 101, 114], [111, 110, 99, 101], [32]]
def isNw : Cond → Bool
  | .declares _ => true
  | .methodLinkNest .. => true
  | .fieldLinkNest .. => true
  | _ => false
/-- the words that want a proof of their own to be handed on -/
def NWs (U : State) : Prop := (∀ w ∈ tables_1, isNw w = true → va_Nw w U) ∧ va_AO "BlockStage$Stage" U
theorem NWs.warm {s U : State} (hW : s.WarmedH U.vm) (h : NWs s) : NWs U := by
  refine ⟨fun w hw hi => ?_, h.2.moved hW.alike⟩
  have h1 := h.1 w hw hi
  cases w <;> first | (simp [isNw] at hi; done) | exact va_Nw.warmD hW h1 | exact va_Nw.warmM hW h1 | exact va_Nw.warmF hW h1
theorem NWs.same {s U : State} (hv : U.vm = s.vm) (h : NWs s) : NWs U := by
  have ha : s.vm.Alike U.vm := by rw [hv]; exact Vm.Alike.refl _
  refine ⟨fun w hw hi => ?_, h.2.moved ha⟩
  have h1 := h.1 w hw hi
  cases w <;> first | (simp [isNw] at hi; done) | exact va_Nw.same rfl hv.symm h1
/-- what the statics and the texts hold, that no method here changes -/
def SPx (μ : Gm) (A : Nat → Prop) (U : State) (H : Heap) : Prop :=
  (va_Z "BlockStage" "HOLES_OF_KIND" "[I" (.ref (μ 4 0)) A U H ∧ va_T .int (μ 4 0) 23 (fun j => .int (tHKL.getD j 0)) A U H) ∧
  (va_Z "BlockStage$Stage" "STEPS" "[I" (.ref (μ 4 1)) A U H ∧ va_T .int (μ 4 1) 4 (fun j => .int (tSTL.getD j 0)) A U H) ∧
  (vk_S 6 strLen strByt (μ 2) (μ 5) A U H) ∧
  (vk_R "BlockStage$Wish" 40 " and " (μ 2 0) U ∧ vk_R "BlockStage$Wish" 82 "end" (μ 2 1) U ∧ vk_R "BlockStage$Wish" 84 "always" (μ 2 2) U ∧ vk_R "BlockStage$Wish" 86 "never" (μ 2 3) U ∧ vk_R "BlockStage$Wish" 88 "once" (μ 2 4) U ∧ vk_R "BlockStage$Wish" 58 " " (μ 2 5) U) ∧
  va_Z "java/lang/String" "COMPACT_STRINGS" "Z" (.int 1) A U H ∧ va_Z "jdk/internal/util/Preconditions" "SIOOBE_FORMATTER" "Ljava/util/function/BiFunction;" (if μ 6 1 = 0 then .ref (μ 6 0) else .null) A U H ∧ NWs U
theorem SPx.kept {μ : Gm} {A : Nat → Prop} {U : State} {H H1 : Heap} (h : SPx μ A U H) (hq : ∀ a : Nat, a < H.size → ¬ A a → H1[a]? = H[a]?) : SPx μ A U H1 := by
  obtain ⟨⟨a1, a2⟩, ⟨b1, b2⟩, c, d, e, f, g⟩ := h
  exact ⟨⟨a1.kept hq, a2.kept hq⟩, ⟨b1.kept hq, b2.kept hq⟩, c.kept hq, d, e.kept hq, f.kept hq, g⟩
theorem SPx.narrow {μ : Gm} {A B : Nat → Prop} {U : State} {H : Heap} (h : SPx μ A U H) (hq : ∀ q, B q → A q) : SPx μ B U H := by
  obtain ⟨⟨a1, a2⟩, ⟨b1, b2⟩, c, d, e, f, g⟩ := h
  exact ⟨⟨a1.narrow hq, a2.narrow hq⟩, ⟨b1.narrow hq, b2.narrow hq⟩, c.narrow hq, d, e.narrow hq, f.narrow hq, g⟩
theorem SPx.warm {μ : Gm} {A : Nat → Prop} {s U : State} {H : Heap} (hW : s.WarmedH U.vm) (h : SPx μ A s H) : SPx μ A U H := by
  obtain ⟨⟨a1, a2⟩, ⟨b1, b2⟩, c, ⟨d1, d2, d3, d4, d5, d6⟩, e, f, g⟩ := h
  exact ⟨⟨a1.moved hW.alike, a2.moved hW.alike⟩, ⟨b1.moved hW.alike, b2.moved hW.alike⟩, c.moved hW.alike, ⟨d1.warm hW, d2.warm hW, d3.warm hW, d4.warm hW, d5.warm hW, d6.warm hW⟩, e.moved hW.alike, f.moved hW.alike, g.warm hW⟩
theorem SPx.same {μ : Gm} {A : Nat → Prop} {s U : State} {H : Heap} (hv : U.vm = s.vm) (h : SPx μ A s H) : SPx μ A U H := by
  have ha : s.vm.Alike U.vm := by rw [hv]; exact Vm.Alike.refl _
  obtain ⟨⟨a1, a2⟩, ⟨b1, b2⟩, c, ⟨d1, d2, d3, d4, d5, d6⟩, e, f, g⟩ := h
  exact ⟨⟨a1.moved ha, a2.moved ha⟩, ⟨b1.moved ha, b2.moved ha⟩, c.moved ha, ⟨d1.same hv, d2.same hv, d3.same hv, d4.same hv, d5.same hv, d6.same hv⟩, e.moved ha, f.moved ha, g.same hv⟩
theorem SPx.to {μ μ' : Gm} {A : Nat → Prop} {U : State} {H : Heap} (h : SPx μ A U H) (h2 : μ' 2 = μ 2) (h4 : μ' 4 = μ 4) (h5 : μ' 5 = μ 5) (h6 : μ' 6 = μ 6) : SPx μ' A U H := by
  unfold SPx at h ⊢
  rw [h2, h4, h5, h6]
  exact h
def lsOk (μ : Gm) (nL : Nat) (ls : List (Option AV)) (L : Array Slot) : Prop := L.size = nL ∧ lv_wf L ∧ ∀ (i : Nat) (v : AV), ls[i]? = some (some v) → L[i]? = some (.val (cv μ v))
/-- what holds at a point of a method's walk -/
def Xc (Y : MM) (N : Nat → Nat → Prop) (ls : List (Option AV)) (Γ : Gm) (δ : Dl) (p : Program) (s : State) (m : MethodId) (args : Array Value) (meth : Method) (c : Code) (D : va_G) (K : Kd) (A : Nat → Prop) (μ0 μ : Gm) (H : Heap) (locs : List Loc) (L : Array Slot) : Prop :=
  (p.tables.exec = Jvm.exec ∧ c.code = Y.2.1 ∧ meth.sig.returnType = Y.2.2.2 ∧ c.maxLocals = Y.2.2.1 ∧ s.vm.findClass Y.1.cls = some m.cls ∧ (∀ w ∈ lwg, w.before args s = true) ∧ meth.locks = false ∧ meth.name = Y.1.name ∧ va_K D vwCl (tysK K) s) ∧
  (∀ q, s.heap.size ≤ q → A q) ∧ (∀ f a, ¬ N f a → μ f a = μ0 f a) ∧ SPx μ A s s.heap ∧ HP D K μ Γ δ H ∧ (∀ f a, lv Γ f a → A (μ f a)) ∧ va_S A s.heap H locs ∧ lsOk μ Y.2.2.1 ls L
def Qr (D : va_G) (K : Kd) (N : Nat → Nat → Prop) (A : Nat → Prop) (μ0 : Gm) (r : Rs) : Array Value → State → Outcome → State → Prop := fun _ s o t =>
  (∃ μ' : Gm, o = .returned (r.1.map (cv μ')) ∧ (∀ f a, ¬ N f a → μ' f a = μ0 f a) ∧ HP D K μ' r.2.1 r.2.2 t.heap ∧ (∀ f a, lv r.2.1 f a → A (μ' f a))) ∧ va_F A s t
def Xe (l : Launch) (Y : MM) (d kc ks : Nat) (N : Nat → Nat → Prop) (pc : Nat) (ls : List (Option AV)) (st : List AV) (kb sb : Nat) (Γ : Gm) (δ : Dl) (r : Rs) : Prop :=
  ∀ (p : Program) (e : Env) (s : State) (m : MethodId) (args : Array Value) (below : List Frame) (meth : Method) (c : Code) (D : va_G) (K : Kd) (A : Nat → Prop) (μ0 μ : Gm) (H : Heap) (locs : List Loc) (L : Array Slot),
    Xc Y N ls Γ δ p s m args meth c D K A μ0 μ H locs L →
    W p l e (rmO d kc ks) s m args below meth c H locs kb sb (MQ below (Qr D K N A μ0 r) args s kc ks A) (F0 m pc L (st.map (cv μ)))
section XE
variable {l : Launch} {Y : MM} {d kc ks : Nat} {N : Nat → Nat → Prop} {pc : Nat} {ls : List (Option AV)} {st : List AV} {kb sb : Nat} {Γ : Gm} {δ : Dl} {r : Rs}
/-- a step that neither heap nor locals feel -/
theorem Xe.stk {pc' : Nat} {st' : List AV}
    (h : ∀ (p : Program) (e : Env) (R : Room) (s : State) (m : MethodId) (args : Array Value) (below : List Frame) (meth : Method) (c : Code) (H : Heap) (locs : List Loc) (k n : Nat) (Q : State → Prop) (L : Array Slot) (μ : Gm), p.tables.exec = Jvm.exec → c.code = Y.2.1 →
      W p l e R s m args below meth c H locs k n Q (F0 m pc' L (st'.map (cv μ))) → W p l e R s m args below meth c H locs k n Q (F0 m pc L (st.map (cv μ))))
    (k : Xe l Y d kc ks N pc' ls st' kb sb Γ δ r) : Xe l Y d kc ks N pc ls st kb sb Γ δ r := by
  intro p e s m args below meth c D K A μ0 μ H locs L X
  exact h _ _ _ _ _ _ _ _ _ _ _ _ _ _ _ _ X.1.1 X.1.2.1 (k p e s m args below meth c D K A μ0 μ H locs L X)
theorem x_ic {n : Int} {v : Int32} (hd : decode Y.2.1 pc = .ok (.iconst n, 1)) (hv : Int32.ofInt n = v) (k : Xe l Y d kc ks N (pc + 1) ls (.inl v :: st) kb sb Γ δ r) : Xe l Y d kc ks N pc ls (st) kb sb Γ δ r :=
  Xe.stk (fun p e R s m args below meth c H locs k n Q L μ hx hb w => lv_iconst hx hb hd hv w) k
theorem x_bi {n : Int} {v : Int32} (hd : decode Y.2.1 pc = .ok (.bipush n, 2)) (hv : (Int8.ofInt n).toInt32 = v) (k : Xe l Y d kc ks N (pc + 2) ls (.inl v :: st) kb sb Γ δ r) : Xe l Y d kc ks N pc ls (st) kb sb Γ δ r :=
  Xe.stk (fun p e R s m args below meth c H locs k n Q L μ hx hb w => lv_bipush hx hb hd hv w) k
theorem x_si {n : Int} {v : Int32} (hd : decode Y.2.1 pc = .ok (.sipush n, 3)) (hv : (Int16.ofInt n).toInt32 = v) (k : Xe l Y d kc ks N (pc + 3) ls (.inl v :: st) kb sb Γ δ r) : Xe l Y d kc ks N pc ls (st) kb sb Γ δ r :=
  Xe.stk (fun p e R s m args below meth c H locs k n Q L μ hx hb w => lv_sipush hx hb hd hv w) k
theorem x_null (hd : decode Y.2.1 pc = .ok (.aconst_null, 1)) (k : Xe l Y d kc ks N (pc + 1) ls (.inr (1, 0) :: st) kb sb Γ δ r) : Xe l Y d kc ks N pc ls (st) kb sb Γ δ r :=
  Xe.stk (fun p e R s m args below meth c H locs k n Q L μ hx hb w => lv_null hx hb hd w) k
theorem x_iadd {x y : Int32} (hd : decode Y.2.1 pc = .ok (.iadd, 1)) (k : Xe l Y d kc ks N (pc + 1) ls (.inl (x + y) :: st) kb sb Γ δ r) : Xe l Y d kc ks N pc ls (.inl y :: .inl x :: st) kb sb Γ δ r :=
  Xe.stk (fun p e R s m args below meth c H locs k n Q L μ hx hb w => lv_iadd hx hb hd w) k
theorem x_isub {x y : Int32} (hd : decode Y.2.1 pc = .ok (.isub, 1)) (k : Xe l Y d kc ks N (pc + 1) ls (.inl (x - y) :: st) kb sb Γ δ r) : Xe l Y d kc ks N pc ls (.inl y :: .inl x :: st) kb sb Γ δ r :=
  Xe.stk (fun p e R s m args below meth c H locs k n Q L μ hx hb w => lv_isub hx hb hd w) k
theorem x_imul {x y : Int32} (hd : decode Y.2.1 pc = .ok (.imul, 1)) (k : Xe l Y d kc ks N (pc + 1) ls (.inl (x * y) :: st) kb sb Γ δ r) : Xe l Y d kc ks N pc ls (.inl y :: .inl x :: st) kb sb Γ δ r :=
  Xe.stk (fun p e R s m args below meth c H locs k n Q L μ hx hb w => lv_imul hx hb hd w) k
theorem x_iand {x y : Int32} (hd : decode Y.2.1 pc = .ok (.iand, 1)) (k : Xe l Y d kc ks N (pc + 1) ls (.inl (x &&& y) :: st) kb sb Γ δ r) : Xe l Y d kc ks N pc ls (.inl y :: .inl x :: st) kb sb Γ δ r :=
  Xe.stk (fun p e R s m args below meth c H locs k n Q L μ hx hb w => lv_iand hx hb hd w) k
theorem x_ior {x y : Int32} (hd : decode Y.2.1 pc = .ok (.ior, 1)) (k : Xe l Y d kc ks N (pc + 1) ls (.inl (x ||| y) :: st) kb sb Γ δ r) : Xe l Y d kc ks N pc ls (.inl y :: .inl x :: st) kb sb Γ δ r :=
  Xe.stk (fun p e R s m args below meth c H locs k n Q L μ hx hb w => lv_ior hx hb hd w) k
theorem x_ixor {x y : Int32} (hd : decode Y.2.1 pc = .ok (.ixor, 1)) (k : Xe l Y d kc ks N (pc + 1) ls (.inl (x ^^^ y) :: st) kb sb Γ δ r) : Xe l Y d kc ks N pc ls (.inl y :: .inl x :: st) kb sb Γ δ r :=
  Xe.stk (fun p e R s m args below meth c H locs k n Q L μ hx hb w => lv_ixor hx hb hd w) k
theorem x_ishl {x y : Int32} (hd : decode Y.2.1 pc = .ok (.ishl, 1)) (k : Xe l Y d kc ks N (pc + 1) ls (.inl (x <<< (y &&& 31)) :: st) kb sb Γ δ r) : Xe l Y d kc ks N pc ls (.inl y :: .inl x :: st) kb sb Γ δ r :=
  Xe.stk (fun p e R s m args below meth c H locs k n Q L μ hx hb w => lv_ishl hx hb hd w) k
theorem x_ishr {x y : Int32} (hd : decode Y.2.1 pc = .ok (.ishr, 1)) (k : Xe l Y d kc ks N (pc + 1) ls (.inl (x >>> (y &&& 31)) :: st) kb sb Γ δ r) : Xe l Y d kc ks N pc ls (.inl y :: .inl x :: st) kb sb Γ δ r :=
  Xe.stk (fun p e R s m args below meth c H locs k n Q L μ hx hb w => lv_ishr hx hb hd w) k
theorem x_idiv {x y : Int32} (hd : decode Y.2.1 pc = .ok (.idiv, 1)) (hne : ¬ y = 0) (k : Xe l Y d kc ks N (pc + 1) ls (.inl (x / y) :: st) kb sb Γ δ r) : Xe l Y d kc ks N pc ls (.inl y :: .inl x :: st) kb sb Γ δ r :=
  Xe.stk (fun p e R s m args below meth c H locs k n Q L μ hx hb w => lv_idiv hx hb hd hne w) k
theorem x_irem {x y : Int32} (hd : decode Y.2.1 pc = .ok (.irem, 1)) (hne : ¬ y = 0) (k : Xe l Y d kc ks N (pc + 1) ls (.inl (x - x / y * y) :: st) kb sb Γ δ r) : Xe l Y d kc ks N pc ls (.inl y :: .inl x :: st) kb sb Γ δ r :=
  Xe.stk (fun p e R s m args below meth c H locs k n Q L μ hx hb w => lv_irem hx hb hd hne w) k
theorem x_ineg {x : Int32} (hd : decode Y.2.1 pc = .ok (.ineg, 1)) (k : Xe l Y d kc ks N (pc + 1) ls (.inl (-x) :: st) kb sb Γ δ r) : Xe l Y d kc ks N pc ls (.inl x :: st) kb sb Γ δ r :=
  Xe.stk (fun p e R s m args below meth c H locs k n Q L μ hx hb w => lv_ineg hx hb hd w) k
theorem x_i2b {x : Int32} (hd : decode Y.2.1 pc = .ok (.i2b, 1)) (k : Xe l Y d kc ks N (pc + 1) ls (.inl x.toInt8.toInt32 :: st) kb sb Γ δ r) : Xe l Y d kc ks N pc ls (.inl x :: st) kb sb Γ δ r :=
  Xe.stk (fun p e R s m args below meth c H locs k n Q L μ hx hb w => lv_i2b hx hb hd rfl w) k
theorem x_i2s {x : Int32} (hd : decode Y.2.1 pc = .ok (.i2s, 1)) (k : Xe l Y d kc ks N (pc + 1) ls (.inl x.toInt16.toInt32 :: st) kb sb Γ δ r) : Xe l Y d kc ks N pc ls (.inl x :: st) kb sb Γ δ r :=
  Xe.stk (fun p e R s m args below meth c H locs k n Q L μ hx hb w => lv_i2s hx hb hd rfl w) k
theorem x_i2c {x : Int32} (hd : decode Y.2.1 pc = .ok (.i2c, 1)) (k : Xe l Y d kc ks N (pc + 1) ls (.inl (x.toUInt32 % 65536).toInt32 :: st) kb sb Γ δ r) : Xe l Y d kc ks N pc ls (.inl x :: st) kb sb Γ δ r :=
  Xe.stk (fun p e R s m args below meth c H locs k n Q L μ hx hb w => lv_i2c hx hb hd rfl w) k
theorem x_dup {v : AV} (hd : decode Y.2.1 pc = .ok (.dup, 1)) (k : Xe l Y d kc ks N (pc + 1) ls (v :: v :: st) kb sb Γ δ r) : Xe l Y d kc ks N pc ls (v :: st) kb sb Γ δ r :=
  Xe.stk (fun p e R s m args below meth c H locs k n Q L μ hx hb w => lv_dup hx hb hd (cv_cat μ v) w) k
theorem x_pop {v : AV} (hd : decode Y.2.1 pc = .ok (.pop, 1)) (k : Xe l Y d kc ks N (pc + 1) ls (st) kb sb Γ δ r) : Xe l Y d kc ks N pc ls (v :: st) kb sb Γ δ r :=
  Xe.stk (fun p e R s m args below meth c H locs k n Q L μ hx hb w => lv_pop hx hb hd (cv_cat μ v) w) k
theorem x_dup2 {v u : AV} (hd : decode Y.2.1 pc = .ok (.dup2, 1)) (k : Xe l Y d kc ks N (pc + 1) ls (v :: u :: v :: u :: st) kb sb Γ δ r) : Xe l Y d kc ks N pc ls (v :: u :: st) kb sb Γ δ r :=
  Xe.stk (fun p e R s m args below meth c H locs k n Q L μ hx hb w => lv_dup2_11 hx hb hd (cv_cat μ v) (cv_cat μ u) w) k
theorem x_goto {off : Int} {tgt : Nat} (hd : decode Y.2.1 pc = .ok (.goto off, 3)) (ht : (pc : Int) + off = (tgt : Int)) (k : Xe l Y d kc ks N tgt ls st kb sb Γ δ r) : Xe l Y d kc ks N pc ls st kb sb Γ δ r :=
  Xe.stk (fun p e R s m args below meth c H locs k n Q L μ hx hb w => lv_goto hx hb hd ht w) k
theorem x_if_eq {x : Int32} {off : Int} {tgt : Nat} (hd : decode Y.2.1 pc = .ok (.ifCond .eq off, 3)) (ht : (pc : Int) + off = (tgt : Int)) (kt : x = 0 → Xe l Y d kc ks N tgt ls st kb sb Γ δ r) (kf : ¬ (x = 0) → Xe l Y d kc ks N (pc + 3) ls st kb sb Γ δ r) : Xe l Y d kc ks N pc ls (.inl x :: st) kb sb Γ δ r := by
  intro p e s m args below meth c D K A μ0 μ H locs L X
  exact lv_if_eq X.1.1 X.1.2.1 hd ht (fun q => kt q p e s m args below meth c D K A μ0 μ H locs L X) (fun q => kf q p e s m args below meth c D K A μ0 μ H locs L X)
theorem x_if_ne {x : Int32} {off : Int} {tgt : Nat} (hd : decode Y.2.1 pc = .ok (.ifCond .ne off, 3)) (ht : (pc : Int) + off = (tgt : Int)) (kt : ¬ x = 0 → Xe l Y d kc ks N tgt ls st kb sb Γ δ r) (kf : x = 0 → Xe l Y d kc ks N (pc + 3) ls st kb sb Γ δ r) : Xe l Y d kc ks N pc ls (.inl x :: st) kb sb Γ δ r := by
  intro p e s m args below meth c D K A μ0 μ H locs L X
  exact lv_if_ne X.1.1 X.1.2.1 hd ht (fun q => kt q p e s m args below meth c D K A μ0 μ H locs L X) (fun q => kf q p e s m args below meth c D K A μ0 μ H locs L X)
theorem x_if_lt {x : Int32} {off : Int} {tgt : Nat} (hd : decode Y.2.1 pc = .ok (.ifCond .lt off, 3)) (ht : (pc : Int) + off = (tgt : Int)) (kt : x < 0 → Xe l Y d kc ks N tgt ls st kb sb Γ δ r) (kf : ¬ (x < 0) → Xe l Y d kc ks N (pc + 3) ls st kb sb Γ δ r) : Xe l Y d kc ks N pc ls (.inl x :: st) kb sb Γ δ r := by
  intro p e s m args below meth c D K A μ0 μ H locs L X
  exact lv_if_lt X.1.1 X.1.2.1 hd ht (fun q => kt q p e s m args below meth c D K A μ0 μ H locs L X) (fun q => kf q p e s m args below meth c D K A μ0 μ H locs L X)
theorem x_if_ge {x : Int32} {off : Int} {tgt : Nat} (hd : decode Y.2.1 pc = .ok (.ifCond .ge off, 3)) (ht : (pc : Int) + off = (tgt : Int)) (kt : 0 ≤ x → Xe l Y d kc ks N tgt ls st kb sb Γ δ r) (kf : ¬ (0 ≤ x) → Xe l Y d kc ks N (pc + 3) ls st kb sb Γ δ r) : Xe l Y d kc ks N pc ls (.inl x :: st) kb sb Γ δ r := by
  intro p e s m args below meth c D K A μ0 μ H locs L X
  exact lv_if_ge X.1.1 X.1.2.1 hd ht (fun q => kt q p e s m args below meth c D K A μ0 μ H locs L X) (fun q => kf q p e s m args below meth c D K A μ0 μ H locs L X)
theorem x_if_gt {x : Int32} {off : Int} {tgt : Nat} (hd : decode Y.2.1 pc = .ok (.ifCond .gt off, 3)) (ht : (pc : Int) + off = (tgt : Int)) (kt : 0 < x → Xe l Y d kc ks N tgt ls st kb sb Γ δ r) (kf : ¬ (0 < x) → Xe l Y d kc ks N (pc + 3) ls st kb sb Γ δ r) : Xe l Y d kc ks N pc ls (.inl x :: st) kb sb Γ δ r := by
  intro p e s m args below meth c D K A μ0 μ H locs L X
  exact lv_if_gt X.1.1 X.1.2.1 hd ht (fun q => kt q p e s m args below meth c D K A μ0 μ H locs L X) (fun q => kf q p e s m args below meth c D K A μ0 μ H locs L X)
theorem x_if_le {x : Int32} {off : Int} {tgt : Nat} (hd : decode Y.2.1 pc = .ok (.ifCond .le off, 3)) (ht : (pc : Int) + off = (tgt : Int)) (kt : x ≤ 0 → Xe l Y d kc ks N tgt ls st kb sb Γ δ r) (kf : ¬ (x ≤ 0) → Xe l Y d kc ks N (pc + 3) ls st kb sb Γ δ r) : Xe l Y d kc ks N pc ls (.inl x :: st) kb sb Γ δ r := by
  intro p e s m args below meth c D K A μ0 μ H locs L X
  exact lv_if_le X.1.1 X.1.2.1 hd ht (fun q => kt q p e s m args below meth c D K A μ0 μ H locs L X) (fun q => kf q p e s m args below meth c D K A μ0 μ H locs L X)
theorem x_cmp_eq {x y : Int32} {off : Int} {tgt : Nat} (hd : decode Y.2.1 pc = .ok (.if_icmp .eq off, 3)) (ht : (pc : Int) + off = (tgt : Int)) (kt : x = y → Xe l Y d kc ks N tgt ls st kb sb Γ δ r) (kf : ¬ (x = y) → Xe l Y d kc ks N (pc + 3) ls st kb sb Γ δ r) : Xe l Y d kc ks N pc ls (.inl y :: .inl x :: st) kb sb Γ δ r := by
  intro p e s m args below meth c D K A μ0 μ H locs L X
  exact lv_icmp_eq X.1.1 X.1.2.1 hd ht (fun q => kt q p e s m args below meth c D K A μ0 μ H locs L X) (fun q => kf q p e s m args below meth c D K A μ0 μ H locs L X)
theorem x_cmp_ne {x y : Int32} {off : Int} {tgt : Nat} (hd : decode Y.2.1 pc = .ok (.if_icmp .ne off, 3)) (ht : (pc : Int) + off = (tgt : Int)) (kt : ¬ x = y → Xe l Y d kc ks N tgt ls st kb sb Γ δ r) (kf : x = y → Xe l Y d kc ks N (pc + 3) ls st kb sb Γ δ r) : Xe l Y d kc ks N pc ls (.inl y :: .inl x :: st) kb sb Γ δ r := by
  intro p e s m args below meth c D K A μ0 μ H locs L X
  exact lv_icmp_ne X.1.1 X.1.2.1 hd ht (fun q => kt q p e s m args below meth c D K A μ0 μ H locs L X) (fun q => kf q p e s m args below meth c D K A μ0 μ H locs L X)
theorem x_cmp_lt {x y : Int32} {off : Int} {tgt : Nat} (hd : decode Y.2.1 pc = .ok (.if_icmp .lt off, 3)) (ht : (pc : Int) + off = (tgt : Int)) (kt : x < y → Xe l Y d kc ks N tgt ls st kb sb Γ δ r) (kf : ¬ (x < y) → Xe l Y d kc ks N (pc + 3) ls st kb sb Γ δ r) : Xe l Y d kc ks N pc ls (.inl y :: .inl x :: st) kb sb Γ δ r := by
  intro p e s m args below meth c D K A μ0 μ H locs L X
  exact lv_icmp_lt X.1.1 X.1.2.1 hd ht (fun q => kt q p e s m args below meth c D K A μ0 μ H locs L X) (fun q => kf q p e s m args below meth c D K A μ0 μ H locs L X)
theorem x_cmp_ge {x y : Int32} {off : Int} {tgt : Nat} (hd : decode Y.2.1 pc = .ok (.if_icmp .ge off, 3)) (ht : (pc : Int) + off = (tgt : Int)) (kt : y ≤ x → Xe l Y d kc ks N tgt ls st kb sb Γ δ r) (kf : ¬ (y ≤ x) → Xe l Y d kc ks N (pc + 3) ls st kb sb Γ δ r) : Xe l Y d kc ks N pc ls (.inl y :: .inl x :: st) kb sb Γ δ r := by
  intro p e s m args below meth c D K A μ0 μ H locs L X
  exact lv_icmp_ge X.1.1 X.1.2.1 hd ht (fun q => kt q p e s m args below meth c D K A μ0 μ H locs L X) (fun q => kf q p e s m args below meth c D K A μ0 μ H locs L X)
theorem x_cmp_gt {x y : Int32} {off : Int} {tgt : Nat} (hd : decode Y.2.1 pc = .ok (.if_icmp .gt off, 3)) (ht : (pc : Int) + off = (tgt : Int)) (kt : y < x → Xe l Y d kc ks N tgt ls st kb sb Γ δ r) (kf : ¬ (y < x) → Xe l Y d kc ks N (pc + 3) ls st kb sb Γ δ r) : Xe l Y d kc ks N pc ls (.inl y :: .inl x :: st) kb sb Γ δ r := by
  intro p e s m args below meth c D K A μ0 μ H locs L X
  exact lv_icmp_gt X.1.1 X.1.2.1 hd ht (fun q => kt q p e s m args below meth c D K A μ0 μ H locs L X) (fun q => kf q p e s m args below meth c D K A μ0 μ H locs L X)
theorem x_cmp_le {x y : Int32} {off : Int} {tgt : Nat} (hd : decode Y.2.1 pc = .ok (.if_icmp .le off, 3)) (ht : (pc : Int) + off = (tgt : Int)) (kt : x ≤ y → Xe l Y d kc ks N tgt ls st kb sb Γ δ r) (kf : ¬ (x ≤ y) → Xe l Y d kc ks N (pc + 3) ls st kb sb Γ δ r) : Xe l Y d kc ks N pc ls (.inl y :: .inl x :: st) kb sb Γ δ r := by
  intro p e s m args below meth c D K A μ0 μ H locs L X
  exact lv_icmp_le X.1.1 X.1.2.1 hd ht (fun q => kt q p e s m args below meth c D K A μ0 μ H locs L X) (fun q => kf q p e s m args below meth c D K A μ0 μ H locs L X)
theorem x_ifnull {q : Nat × Nat} {off : Int} {tgt : Nat} (hd : decode Y.2.1 pc = .ok (.ifnull off, 3)) (ht : (pc : Int) + off = (tgt : Int)) (kt : q.1 = 1 → Xe l Y d kc ks N tgt ls st kb sb Γ δ r) (kf : ¬ q.1 = 1 → Xe l Y d kc ks N (pc + 3) ls st kb sb Γ δ r) : Xe l Y d kc ks N pc ls (.inr q :: st) kb sb Γ δ r := by
  intro p e s m args below meth c D K A μ0 μ H locs L X
  show W p l e (rmO d kc ks) s m args below meth c H locs kb sb _ (F0 m pc L ((if q.1 = 1 then Value.null else .ref (μ q.1 q.2)) :: st.map (cv μ)))
  by_cases h : q.1 = 1
  · rw [if_pos h]
    exact lv_ifnullN X.1.1 X.1.2.1 hd ht (kt h p e s m args below meth c D K A μ0 μ H locs L X)
  · rw [if_neg h]
    exact lv_ifnull X.1.1 X.1.2.1 hd (kf h p e s m args below meth c D K A μ0 μ H locs L X)
theorem x_ifnonnull {q : Nat × Nat} {off : Int} {tgt : Nat} (hd : decode Y.2.1 pc = .ok (.ifnonnull off, 3)) (ht : (pc : Int) + off = (tgt : Int)) (kt : ¬ q.1 = 1 → Xe l Y d kc ks N tgt ls st kb sb Γ δ r) (kf : ¬ ¬ q.1 = 1 → Xe l Y d kc ks N (pc + 3) ls st kb sb Γ δ r) : Xe l Y d kc ks N pc ls (.inr q :: st) kb sb Γ δ r := by
  intro p e s m args below meth c D K A μ0 μ H locs L X
  show W p l e (rmO d kc ks) s m args below meth c H locs kb sb _ (F0 m pc L ((if q.1 = 1 then Value.null else .ref (μ q.1 q.2)) :: st.map (cv μ)))
  by_cases h : q.1 = 1
  · rw [if_pos h]
    exact lv_ifnonnullN X.1.1 X.1.2.1 hd (kf (fun g => g h) p e s m args below meth c D K A μ0 μ H locs L X)
  · rw [if_neg h]
    exact lv_ifnonnull X.1.1 X.1.2.1 hd ht (kt h p e s m args below meth c D K A μ0 μ H locs L X)
theorem x_tin {dflt lo hi : Int} {offs : Array Int} {len : Nat} {x v : Int32} {off : Int} {tgt : Nat} (hd : decode Y.2.1 pc = .ok (.tableswitch dflt lo hi offs, len)) (hx : x = v) (h1 : decide (¬ v.toInt < lo ∧ ¬ hi < v.toInt ∧ offs[(v.toInt - lo).toNat]? = some off ∧ (pc : Int) + off = (tgt : Int)) = true) (k : Xe l Y d kc ks N tgt ls st kb sb Γ δ r) : Xe l Y d kc ks N pc ls (.inl x :: st) kb sb Γ δ r := by
  obtain ⟨g1, g2, g3, g4⟩ := of_decide_eq_true h1
  subst hx
  exact Xe.stk (fun p e R s m args below meth c H locs k n Q L μ hx hb w => lv_tableIn hx hb hd g1 g2 g3 g4 w) k
theorem x_tout {dflt lo hi : Int} {offs : Array Int} {len : Nat} {x : Int32} {tgt : Nat} (hd : decode Y.2.1 pc = .ok (.tableswitch dflt lo hi offs, len)) (h : x.toInt < lo ∨ hi < x.toInt) (ht : (pc : Int) + dflt = (tgt : Int)) (k : Xe l Y d kc ks N tgt ls st kb sb Γ δ r) : Xe l Y d kc ks N pc ls (.inl x :: st) kb sb Γ δ r :=
  Xe.stk (fun p e R s m args below meth c H locs k n Q L μ hx hb w => lv_tableOut hx hb hd h ht w) k
theorem x_lks {dflt : Int} {ps : Array (Int × Int)} {len : Nat} {x : Int32} {off : Int} {tgt : Nat} (hd : decode Y.2.1 pc = .ok (.lookupswitch dflt ps, len)) (hp : (ps.toList.zip (ps.toList.drop 1)).all (fun (a, next) => a.1 < next.1) = true) (ho : Op.lookupswitch.offset ps.toList dflt x.toInt = off) (ht : (pc : Int) + off = (tgt : Int)) (k : Xe l Y d kc ks N tgt ls st kb sb Γ δ r) : Xe l Y d kc ks N pc ls (.inl x :: st) kb sb Γ δ r :=
  Xe.stk (fun p e R s m args below meth c H locs k n Q L μ hx hb w => lv_lookup hx hb hd hp ho ht w) k
/-- the locals -/
theorem Xe.ld {i pc' : Nat} {v : AV} (hl : ls[i]? = some (some v))
    (h : ∀ (p : Program) (e : Env) (R : Room) (s : State) (m : MethodId) (args : Array Value) (below : List Frame) (meth : Method) (c : Code) (H : Heap) (locs : List Loc) (k n : Nat) (Q : State → Prop) (L : Array Slot) (μ : Gm), p.tables.exec = Jvm.exec → c.code = Y.2.1 → L[i]? = some (.val (cv μ v)) →
      W p l e R s m args below meth c H locs k n Q (F0 m pc' L (cv μ v :: st.map (cv μ))) → W p l e R s m args below meth c H locs k n Q (F0 m pc L (st.map (cv μ))))
    (k : Xe l Y d kc ks N pc' ls (v :: st) kb sb Γ δ r) : Xe l Y d kc ks N pc ls st kb sb Γ δ r := by
  intro p e s m args below meth c D K A μ0 μ H locs L X
  exact h _ _ _ _ _ _ _ _ _ _ _ _ _ _ _ _ X.1.1 X.1.2.1 (X.2.2.2.2.2.2.2.2.2 i v hl) (k p e s m args below meth c D K A μ0 μ H locs L X)
theorem x_iload_n {i : Nat} {x : Int32} {kf : Fin 4} (hd : decode Y.2.1 pc = .ok (.iload_n kf, 1)) (hi : (kf : Nat) = i) (hl : ls[i]? = some (some (.inl x))) (k : Xe l Y d kc ks N (pc + 1) ls (.inl x :: st) kb sb Γ δ r) : Xe l Y d kc ks N pc ls st kb sb Γ δ r :=
  Xe.ld hl (fun p e R s m args below meth c H locs k n Q L μ hx hb g w => lv_iload_n hx hb hd hi g w) k
theorem x_iload {i : Nat} {x : Int32} (hd : decode Y.2.1 pc = .ok (.iload i, 2)) (hl : ls[i]? = some (some (.inl x))) (k : Xe l Y d kc ks N (pc + 2) ls (.inl x :: st) kb sb Γ δ r) : Xe l Y d kc ks N pc ls st kb sb Γ δ r :=
  Xe.ld hl (fun p e R s m args below meth c H locs k n Q L μ hx hb g w => lv_iload hx hb hd g w) k
theorem x_aload_n {i : Nat} {q : Nat × Nat} {kf : Fin 4} (hd : decode Y.2.1 pc = .ok (.aload_n kf, 1)) (hi : (kf : Nat) = i) (hl : ls[i]? = some (some (.inr q))) (k : Xe l Y d kc ks N (pc + 1) ls (.inr q :: st) kb sb Γ δ r) : Xe l Y d kc ks N pc ls st kb sb Γ δ r := by
  refine Xe.ld hl (fun p e R s m args below meth c H locs k n Q L μ hx hb g w => ?_) k
  have e1 : cv μ (.inr q) = if q.1 = 1 then Value.null else .ref (μ q.1 q.2) := rfl
  rw [e1] at g w
  by_cases h : q.1 = 1
  · rw [if_pos h] at g w
    exact lv_aload_nN hx hb hd hi g w
  · rw [if_neg h] at g w
    exact lv_aload_n hx hb hd hi g w
theorem x_aload {i : Nat} {q : Nat × Nat} (hd : decode Y.2.1 pc = .ok (.aload i, 2)) (hl : ls[i]? = some (some (.inr q))) (k : Xe l Y d kc ks N (pc + 2) ls (.inr q :: st) kb sb Γ δ r) : Xe l Y d kc ks N pc ls st kb sb Γ δ r := by
  refine Xe.ld hl (fun p e R s m args below meth c H locs k n Q L μ hx hb g w => ?_) k
  have e1 : cv μ (.inr q) = if q.1 = 1 then Value.null else .ref (μ q.1 q.2) := rfl
  rw [e1] at g w
  by_cases h : q.1 = 1
  · rw [if_pos h] at g w
    exact lv_aloadN hx hb hd g w
  · rw [if_neg h] at g w
    exact lv_aload hx hb hd g w
def al (μ : Gm) (ls : List (Option AV)) : List (Nat × Value) := (List.range ls.length).filterMap (fun i => match ls[i]? with
  | some (some v) => some (i, cv μ v)
  | _ => none)
theorem al_mem {μ : Gm} {i : Nat} {w : Value} : (i, w) ∈ al μ ls ↔ ∃ v, ls[i]? = some (some v) ∧ w = cv μ v := by
  unfold al
  rw [List.mem_filterMap]
  constructor
  · rintro ⟨j, -, hj⟩
    split at hj
    · rename_i v hv
      cases hj
      exact ⟨v, hv, rfl⟩
    · cases hj
  · rintro ⟨v, hv, rfl⟩
    refine ⟨i, List.mem_range.mpr (List.getElem?_eq_some_iff.mp hv).1, ?_⟩
    rw [hv]
theorem lsOk.has {μ : Gm} {nL : Nat} {L : Array Slot} (h : lsOk μ nL ls L) : lv_has L nL (al μ ls) := by
  refine ⟨h.1, h.2.1, fun q hq => ?_⟩
  obtain ⟨v, hv, e⟩ := al_mem.mp (show (q.1, q.2) ∈ al μ ls from hq)
  rw [h.2.2 _ _ hv, e]
theorem lsOk.set {μ : Gm} {nL i : Nat} {v : AV} {L : Array Slot} (h : lv_has L nL ((i, cv μ v) :: (al μ ls).filter (fun q => !(q.1 == i) && !(q.1 + 1 == i && q.2.category == 2)))) : lsOk μ nL (ls.set i (some v)) L := by
  refine ⟨h.1, h.2.1, fun j w hw => ?_⟩
  rw [List.getElem?_set] at hw
  by_cases hj : i = j
  · subst hj
    rw [if_pos rfl] at hw
    by_cases hlt : i < ls.length
    · rw [if_pos hlt] at hw
      cases hw
      exact h.2.2 (i, cv μ v) List.mem_cons_self
    · rw [if_neg hlt] at hw
      cases hw
  · rw [if_neg hj] at hw
    refine h.2.2 (j, cv μ w) (List.mem_cons_of_mem _ (List.mem_filter.mpr ⟨al_mem.mpr ⟨w, hw, rfl⟩, ?_⟩))
    have h1 : (j == i) = false := beq_eq_false_iff_ne.mpr (fun q => hj q.symm)
    have h2 : ((cv μ w).category == 2) = false := by rw [cv_cat]; rfl
    simp only [h1, h2, Bool.and_false, Bool.not_false, Bool.and_self]
theorem Xe.sto {i pc' : Nat} {v : AV}
    (h : ∀ (p : Program) (e : Env) (R : Room) (s : State) (m : MethodId) (args : Array Value) (below : List Frame) (meth : Method) (c : Code) (H : Heap) (locs : List Loc) (k n : Nat) (Q : State → Prop) (L : Array Slot) (μ : Gm) (nL : Nat) (lw : List (Nat × Value)), p.tables.exec = Jvm.exec → c.code = Y.2.1 → lv_has L nL lw → i < nL →
      (∀ L', lv_has L' nL ((i, cv μ v) :: lw.filter (fun q => !(q.1 == i) && !(q.1 + 1 == i && q.2.category == 2))) → W p l e R s m args below meth c H locs k n Q (F0 m pc' L' (st.map (cv μ)))) → W p l e R s m args below meth c H locs k n Q (F0 m pc L (cv μ v :: st.map (cv μ))))
    (hi : i < Y.2.2.1) (k : Xe l Y d kc ks N pc' (ls.set i (some v)) st kb sb Γ δ r) : Xe l Y d kc ks N pc ls (v :: st) kb sb Γ δ r := by
  intro p e s m args below meth c D K A μ0 μ H locs L X
  obtain ⟨x1, x2, x3, x4, x5, x6, x7, x8⟩ := X
  exact h _ _ _ _ _ _ _ _ _ _ _ _ _ _ _ _ _ _ x1.1 x1.2.1 x8.has hi (fun L' hl => k p e s m args below meth c D K A μ0 μ H locs L' ⟨x1, x2, x3, x4, x5, x6, x7, lsOk.set hl⟩)
theorem x_istore_n {i : Nat} {x : Int32} {kf : Fin 4} (hd : decode Y.2.1 pc = .ok (.istore_n kf, 1)) (hf : (kf : Nat) = i) (hi : i < Y.2.2.1) (k : Xe l Y d kc ks N (pc + 1) (ls.set i (some (.inl x))) st kb sb Γ δ r) : Xe l Y d kc ks N pc ls (.inl x :: st) kb sb Γ δ r :=
  Xe.sto (fun p e R s m args below meth c H locs k n Q L μ nL lw hx hb h g w => lv_istore_n hx hb hd hf h g rfl w) hi k
theorem x_istore {i : Nat} {x : Int32} (hd : decode Y.2.1 pc = .ok (.istore i, 2)) (hi : i < Y.2.2.1) (k : Xe l Y d kc ks N (pc + 2) (ls.set i (some (.inl x))) st kb sb Γ δ r) : Xe l Y d kc ks N pc ls (.inl x :: st) kb sb Γ δ r :=
  Xe.sto (fun p e R s m args below meth c H locs k n Q L μ nL lw hx hb h g w => lv_istore hx hb hd h g rfl w) hi k
theorem x_astore_n {i : Nat} {q : Nat × Nat} {kf : Fin 4} (hd : decode Y.2.1 pc = .ok (.astore_n kf, 1)) (hf : (kf : Nat) = i) (hi : i < Y.2.2.1) (k : Xe l Y d kc ks N (pc + 1) (ls.set i (some (.inr q))) st kb sb Γ δ r) : Xe l Y d kc ks N pc ls (.inr q :: st) kb sb Γ δ r := by
  refine Xe.sto (fun p e R s m args below meth c H locs k n Q L μ nL lw hx hb h g w => ?_) hi k
  have e1 : cv μ (.inr q) = if q.1 = 1 then Value.null else .ref (μ q.1 q.2) := rfl
  rw [e1] at w ⊢
  by_cases hq : q.1 = 1
  · rw [if_pos hq] at w ⊢
    exact lv_astore_nN hx hb hd hf h g rfl w
  · rw [if_neg hq] at w ⊢
    exact lv_astore_n hx hb hd hf h g rfl w
theorem x_astore {i : Nat} {q : Nat × Nat} (hd : decode Y.2.1 pc = .ok (.astore i, 2)) (hi : i < Y.2.2.1) (k : Xe l Y d kc ks N (pc + 2) (ls.set i (some (.inr q))) st kb sb Γ δ r) : Xe l Y d kc ks N pc ls (.inr q :: st) kb sb Γ δ r := by
  refine Xe.sto (fun p e R s m args below meth c H locs k n Q L μ nL lw hx hb h g w => ?_) hi k
  have e1 : cv μ (.inr q) = if q.1 = 1 then Value.null else .ref (μ q.1 q.2) := rfl
  rw [e1] at w ⊢
  by_cases hq : q.1 = 1
  · rw [if_pos hq] at w ⊢
    exact lv_astoreN hx hb hd h g rfl w
  · rw [if_neg hq] at w ⊢
    exact lv_astore hx hb hd h g rfl w
theorem x_iinc {i : Nat} {n : Int} {x c0 : Int32} (hd : decode Y.2.1 pc = .ok (.iinc i n, 3)) (hn : Int32.ofInt n = c0) (hl : ls[i]? = some (some (.inl x))) (hi : i < Y.2.2.1) (k : Xe l Y d kc ks N (pc + 3) (ls.set i (some (.inl (x + c0)))) st kb sb Γ δ r) : Xe l Y d kc ks N pc ls st kb sb Γ δ r := by
  intro p e s m args below meth c D K A μ0 μ H locs L X
  obtain ⟨x1, x2, x3, x4, x5, x6, x7, x8⟩ := X
  obtain ⟨j, hj⟩ := List.getElem?_of_mem (al_mem.mpr ⟨.inl x, hl, rfl⟩ : (i, cv μ (.inl x)) ∈ al μ ls)
  exact lv_iinc (v := x + c0) x1.1 x1.2.1 hd x8.has hj (by rw [hn]) hi rfl (fun L' hl => k p e s m args below meth c D K A μ0 μ H locs L' ⟨x1, x2, x3, x4, x5, x6, x7, lsOk.set hl⟩)
/-- fewer locals are known -/
theorem x_weak {ls' : List (Option AV)} (h : ∀ (i : Nat) (v : AV), ls'[i]? = some (some v) → ls[i]? = some (some v)) (k : Xe l Y d kc ks N pc ls' st kb sb Γ δ r) : Xe l Y d kc ks N pc ls st kb sb Γ δ r := by
  intro p e s m args below meth c D K A μ0 μ H locs L X
  obtain ⟨x1, x2, x3, x4, x5, x6, x7, x8⟩ := X
  exact k p e s m args below meth c D K A μ0 μ H locs L ⟨x1, x2, x3, x4, x5, x6, x7, x8.1, x8.2.1, fun i v hv => x8.2.2 i v (h i v hv)⟩
end XE
