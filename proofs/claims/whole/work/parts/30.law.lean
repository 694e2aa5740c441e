/-! the law's own judgement: at one launch, over one script, in one world that holds both objects -/
abbrev MLaw : MM := (⟨R_law, "law", "([I)Z"⟩, code, 4, ret)
def NLw : Nat → Nat → Prop := fun f _ => f ≠ 2 ∧ f ≠ 4 ∧ f ≠ 5 ∧ f ≠ 6
def LX : Type := Program × Launch × Env × State × MethodId × Array Value × List Frame × Method × Code × va_G × Kd × Gm × (State → Prop)
def XL : LX → Nat → List (Option AV) → List AV → Nat → Nat → Gm → Dl → Prop
  | (p, l, e, s, m, args, below, meth, c, D, K, μ0, Q), pc, ls, st, kb, sb, Γ, δ => ∀ (μ : Gm) (H : Heap) (locs : List Loc) (L : Array Slot), Xc MLaw NLw ls Γ δ p s m args meth c D K (fun q => s.heap.size ≤ q) μ0 μ H locs L → W p l e room_1 s m args below meth c H locs kb sb Q (F0 m pc L (st.map (cv μ)))
def LX.l (x : LX) : Launch := x.2.1
/-- the script: ints xs, L of them, at (4, 2) -/
def XSc (x : LX) (n : Nat) (xs : Nat → Int32) : Prop := va_X (x.2.2.2.2.2.2.2.2.2.2.2.1 4 2) n xs x.2.2.2.1 x.2.2.2.1.heap
section XLs
variable {x : LX} {pc kb sb : Nat} {ls : List (Option AV)} {st : List AV} {Γ : Gm} {δ : Dl}
theorem XL.stk {pc' : Nat} {st' : List AV}
    (h : ∀ (p : Program) (l : Launch) (e : Env) (R : Room) (s : State) (m : MethodId) (args : Array Value) (below : List Frame) (meth : Method) (c : Code) (H : Heap) (locs : List Loc) (k n : Nat) (Q : State → Prop) (L : Array Slot) (μ : Gm), p.tables.exec = Jvm.exec → c.code = code →
      W p l e R s m args below meth c H locs k n Q (F0 m pc' L (st'.map (cv μ))) → W p l e R s m args below meth c H locs k n Q (F0 m pc L (st.map (cv μ))))
    (k : XL x pc' ls st' kb sb Γ δ) : XL x pc ls st kb sb Γ δ := by
  obtain ⟨p, l, e, s, m, args, below, meth, c, D, K, μ0, Q⟩ := x
  intro μ H locs L X
  exact h _ _ _ _ _ _ _ _ _ _ _ _ _ _ _ _ _ X.1.1 X.1.2.1 (k μ H locs L X)
theorem l_ic {n : Int} {v : Int32} (hd : decode code pc = .ok (.iconst n, 1)) (hv : Int32.ofInt n = v) (k : XL x (pc + 1) ls (.inl v :: st) kb sb Γ δ) : XL x pc ls st kb sb Γ δ :=
  XL.stk (fun p l e R s m args below meth c H locs k n Q L μ hx hb w => lv_iconst hx hb hd hv w) k
theorem l_bi {n : Int} {v : Int32} (hd : decode code pc = .ok (.bipush n, 2)) (hv : (Int8.ofInt n).toInt32 = v) (k : XL x (pc + 2) ls (.inl v :: st) kb sb Γ δ) : XL x pc ls st kb sb Γ δ :=
  XL.stk (fun p l e R s m args below meth c H locs k n Q L μ hx hb w => lv_bipush hx hb hd hv w) k
theorem l_iadd {a b : Int32} (hd : decode code pc = .ok (.iadd, 1)) (k : XL x (pc + 1) ls (.inl (a + b) :: st) kb sb Γ δ) : XL x pc ls (.inl b :: .inl a :: st) kb sb Γ δ :=
  XL.stk (fun p l e R s m args below meth c H locs k n Q L μ hx hb w => lv_iadd hx hb hd w) k
theorem l_isub {a b : Int32} (hd : decode code pc = .ok (.isub, 1)) (k : XL x (pc + 1) ls (.inl (a - b) :: st) kb sb Γ δ) : XL x pc ls (.inl b :: .inl a :: st) kb sb Γ δ :=
  XL.stk (fun p l e R s m args below meth c H locs k n Q L μ hx hb w => lv_isub hx hb hd w) k
theorem l_iand {a b : Int32} (hd : decode code pc = .ok (.iand, 1)) (k : XL x (pc + 1) ls (.inl (a &&& b) :: st) kb sb Γ δ) : XL x pc ls (.inl b :: .inl a :: st) kb sb Γ δ :=
  XL.stk (fun p l e R s m args below meth c H locs k n Q L μ hx hb w => lv_iand hx hb hd w) k
theorem l_dup {v : AV} (hd : decode code pc = .ok (.dup, 1)) (k : XL x (pc + 1) ls (v :: v :: st) kb sb Γ δ) : XL x pc ls (v :: st) kb sb Γ δ :=
  XL.stk (fun p l e R s m args below meth c H locs k n Q L μ hx hb w => lv_dup hx hb hd (cv_cat μ v) w) k
theorem l_goto {off : Int} {tgt : Nat} (hd : decode code pc = .ok (.goto off, 3)) (ht : (pc : Int) + off = (tgt : Int)) (k : XL x tgt ls st kb sb Γ δ) : XL x pc ls st kb sb Γ δ :=
  XL.stk (fun p l e R s m args below meth c H locs k n Q L μ hx hb w => lv_goto hx hb hd ht w) k
theorem XL.ld {i pc' : Nat} {v : AV} (hl : ls[i]? = some (some v))
    (h : ∀ (p : Program) (l : Launch) (e : Env) (R : Room) (s : State) (m : MethodId) (args : Array Value) (below : List Frame) (meth : Method) (c : Code) (H : Heap) (locs : List Loc) (k n : Nat) (Q : State → Prop) (L : Array Slot) (μ : Gm), p.tables.exec = Jvm.exec → c.code = code → L[i]? = some (.val (cv μ v)) →
      W p l e R s m args below meth c H locs k n Q (F0 m pc' L (cv μ v :: st.map (cv μ))) → W p l e R s m args below meth c H locs k n Q (F0 m pc L (st.map (cv μ))))
    (k : XL x pc' ls (v :: st) kb sb Γ δ) : XL x pc ls st kb sb Γ δ := by
  obtain ⟨p, l, e, s, m, args, below, meth, c, D, K, μ0, Q⟩ := x
  intro μ H locs L X
  exact h _ _ _ _ _ _ _ _ _ _ _ _ _ _ _ _ _ X.1.1 X.1.2.1 (X.2.2.2.2.2.2.2.2.2 i v hl) (k μ H locs L X)
theorem l_iload_n {i : Nat} {v : Int32} {kf : Fin 4} (hd : decode code pc = .ok (.iload_n kf, 1)) (hi : (kf : Nat) = i) (hl : ls[i]? = some (some (.inl v))) (k : XL x (pc + 1) ls (.inl v :: st) kb sb Γ δ) : XL x pc ls st kb sb Γ δ :=
  XL.ld hl (fun p l e R s m args below meth c H locs k n Q L μ hx hb g w => lv_iload_n hx hb hd hi g w) k
theorem l_aload_n {i : Nat} {q : Nat × Nat} {kf : Fin 4} (hd : decode code pc = .ok (.aload_n kf, 1)) (hi : (kf : Nat) = i) (hl : ls[i]? = some (some (.inr q))) (k : XL x (pc + 1) ls (.inr q :: st) kb sb Γ δ) : XL x pc ls st kb sb Γ δ := by
  refine XL.ld hl (fun p l e R s m args below meth c H locs k n Q L μ hx hb g w => ?_) k
  have e1 : cv μ (.inr q) = if q.1 = 1 then Value.null else .ref (μ q.1 q.2) := rfl
  rw [e1] at g w
  by_cases h : q.1 = 1
  · rw [if_pos h] at g w
    exact lv_aload_nN hx hb hd hi g w
  · rw [if_neg h] at g w
    exact lv_aload_n hx hb hd hi g w
theorem XL.sto {i pc' : Nat} {v : AV}
    (h : ∀ (p : Program) (l : Launch) (e : Env) (R : Room) (s : State) (m : MethodId) (args : Array Value) (below : List Frame) (meth : Method) (c : Code) (H : Heap) (locs : List Loc) (k n : Nat) (Q : State → Prop) (L : Array Slot) (μ : Gm) (nL : Nat) (lw : List (Nat × Value)), p.tables.exec = Jvm.exec → c.code = code → lv_has L nL lw → i < nL →
      (∀ L', lv_has L' nL ((i, cv μ v) :: lw.filter (fun q => !(q.1 == i) && !(q.1 + 1 == i && q.2.category == 2))) → W p l e R s m args below meth c H locs k n Q (F0 m pc' L' (st.map (cv μ)))) → W p l e R s m args below meth c H locs k n Q (F0 m pc L (cv μ v :: st.map (cv μ))))
    (hi : i < 4) (k : XL x pc' (ls.set i (some v)) st kb sb Γ δ) : XL x pc ls (v :: st) kb sb Γ δ := by
  obtain ⟨p, l, e, s, m, args, below, meth, c, D, K, μ0, Q⟩ := x
  intro μ H locs L X
  obtain ⟨x1, x2, x3, x4, x5, x6, x7, x8⟩ := X
  exact h _ _ _ _ _ _ _ _ _ _ _ _ _ _ _ _ _ _ _ x1.1 x1.2.1 x8.has hi (fun L' hl => k μ H locs L' ⟨x1, x2, x3, x4, x5, x6, x7, lsOk.set hl⟩)
theorem l_stn {i : Nat} {v : Int32} {kf : Fin 4} {ls' : List (Option AV)} (hd : decode code pc = .ok (.istore_n kf, 1)) (hf : (kf : Nat) = i) (hi : i < 4) (hs : ls.set i (some (.inl v)) = ls') (k : XL x (pc + 1) ls' st kb sb Γ δ) : XL x pc ls (.inl v :: st) kb sb Γ δ := by
  subst hs
  exact XL.sto (fun p l e R s m args below meth c H locs k n Q L μ nL lw hx hb h g w => lv_istore_n hx hb hd hf h g rfl w) hi k
theorem l_asn {i : Nat} {q : Nat × Nat} {kf : Fin 4} {ls' : List (Option AV)} (hd : decode code pc = .ok (.astore_n kf, 1)) (hf : (kf : Nat) = i) (hi : i < 4) (hs : ls.set i (some (.inr q)) = ls') (k : XL x (pc + 1) ls' st kb sb Γ δ) : XL x pc ls (.inr q :: st) kb sb Γ δ := by
  subst hs
  refine XL.sto (fun p l e R s m args below meth c H locs k n Q L μ nL lw hx hb h g w => ?_) hi k
  have e1 : cv μ (.inr q) = if q.1 = 1 then Value.null else .ref (μ q.1 q.2) := rfl
  rw [e1] at w ⊢
  by_cases hq : q.1 = 1
  · rw [if_pos hq] at w ⊢
    exact lv_astore_nN hx hb hd hf h g rfl w
  · rw [if_neg hq] at w ⊢
    exact lv_astore_n hx hb hd hf h g rfl w
theorem l_inc {i : Nat} {n : Int} {v c0 : Int32} {ls' : List (Option AV)} (hd : decode code pc = .ok (.iinc i n, 3)) (hn : Int32.ofInt n = c0) (hl : ls[i]? = some (some (.inl v))) (hi : i < 4) (hs : ls.set i (some (.inl (v + c0))) = ls') (k : XL x (pc + 3) ls' st kb sb Γ δ) : XL x pc ls st kb sb Γ δ := by
  subst hs
  obtain ⟨p, l, e, s, m, args, below, meth, c, D, K, μ0, Q⟩ := x
  intro μ H locs L X
  obtain ⟨x1, x2, x3, x4, x5, x6, x7, x8⟩ := X
  obtain ⟨j, hj⟩ := List.getElem?_of_mem (al_mem.mpr ⟨.inl v, hl, rfl⟩ : (i, cv μ (.inl v)) ∈ al μ ls)
  exact lv_iinc (v := v + c0) x1.1 x1.2.1 hd x8.has hj (by rw [hn]) hi rfl (fun L' hl => k μ H locs L' ⟨x1, x2, x3, x4, x5, x6, x7, lsOk.set hl⟩)
theorem l_cmp_eq {a b : Int32} {off : Int} {tgt : Nat} (hd : decode code pc = .ok (.if_icmp .eq off, 3)) (ht : (pc : Int) + off = (tgt : Int)) (kt : a = b → XL x tgt ls st kb sb Γ δ) (kf : ¬ a = b → XL x (pc + 3) ls st kb sb Γ δ) : XL x pc ls (.inl b :: .inl a :: st) kb sb Γ δ := by
  obtain ⟨p, l, e, s, m, args, below, meth, c, D, K, μ0, Q⟩ := x
  intro μ H locs L X
  exact lv_icmp_eq X.1.1 X.1.2.1 hd ht (fun q => kt q μ H locs L X) (fun q => kf q μ H locs L X)
theorem l_cmp_gt {a b : Int32} {off : Int} {tgt : Nat} (hd : decode code pc = .ok (.if_icmp .gt off, 3)) (ht : (pc : Int) + off = (tgt : Int)) (kt : b < a → XL x tgt ls st kb sb Γ δ) (kf : ¬ b < a → XL x (pc + 3) ls st kb sb Γ δ) : XL x pc ls (.inl b :: .inl a :: st) kb sb Γ δ := by
  obtain ⟨p, l, e, s, m, args, below, meth, c, D, K, μ0, Q⟩ := x
  intro μ H locs L X
  exact lv_icmp_gt X.1.1 X.1.2.1 hd ht (fun q => kt q μ H locs L X) (fun q => kf q μ H locs L X)
end XLs
