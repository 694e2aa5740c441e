/-! the law's own judgement: at one launch, over one script, in one world that holds both objects -/
abbrev MLaw (nm : String) : MM := (⟨R_law, nm, "([I)Z"⟩, code, 4, ret)
def NLw : Nat → Nat → Prop := fun f _ => f ≠ 2 ∧ f ≠ 4 ∧ f ≠ 5 ∧ f ≠ 6
def LX : Type := Program × Launch × Env × State × MethodId × Array Value × List Frame × Method × Code × va_G × Kd × Gm × (State → Prop)
def XL : LX → Nat → List (Option AV) → List AV → Nat → Nat → Gm → Dl → Prop
  | (p, l, e, s, m, args, below, meth, c, D, K, μ0, Q), pc, ls, st, kb, sb, Γ, δ => ∀ (μ : Gm) (H : Heap) (locs : List Loc) (L : Array Slot), Xc (MLaw meth.name) NLw ls Γ δ p s m args meth c D K (fun q => s.heap.size ≤ q) μ0 μ H locs L → W p l e room_1 s m args below meth c H locs kb sb Q (F0 m pc L (st.map (cv μ)))
def LX.l (x : LX) : Launch := x.2.1
/-- the script: ints xs, L of them, at (4, 2) -/
def XSc (x : LX) (n : Nat) (xs : Nat → Int32) : Prop := va_X (x.2.2.2.2.2.2.2.2.2.2.2.1 4 2) n xs x.2.2.2.1 x.2.2.2.1.heap
section XLs
variable {x : LX} {pc kb sb : Nat} {ls : List (Option AV)} {st : List AV} {Γ : Gm} {δ : Dl}
theorem XL.stk {pc' : Nat} {st' : List AV}
    (h : ∀ (p : Program) (l : Launch) (e : Env) (R : Room) (s : State) (m : MethodId) (args : Array Value) (below : List Frame) (meth : Method) (c : Code) (H : Heap) (locs : List Loc) (k n : Nat) (Q : State → Prop) (L : Array Slot) (μ : Gm), p.tables.exec = Jvm.exec → c.code = code →
      W p l e R s m args below meth c H locs k n Q (F0 m pc' L (st'.map (cv μ))) → W p l e R s m args below meth c H locs k n Q (F0 m pc L (st.map (cv μ))))
    (k : XL x pc' ls st' kb sb Γ δ) : XL x pc ls st kb sb Γ δ := by
  obtain ⟨p, l, e, s, m, args, below, meth, c, D, K, μ0, Q⟩ := x
  intro μ H locs L X
  exact h _ _ _ _ _ _ _ _ _ _ _ _ _ _ _ _ _ X.1.1 X.1.2.1 (k μ H locs L X)
theorem l_ic {n : Int} {v : Int32} (hd : decode code pc = .ok (.iconst n, 1)) (hv : Int32.ofInt n = v) (k : XL x (pc + 1) ls (.inl v :: st) kb sb Γ δ) : XL x pc ls st kb sb Γ δ :=
  XL.stk (fun p l e R s m args below meth c H locs k n Q L μ hx hb w => lv_iconst hx hb hd hv w) k
theorem l_bi {n : Int} {v : Int32} (hd : decode code pc = .ok (.bipush n, 2)) (hv : (Int8.ofInt n).toInt32 = v) (k : XL x (pc + 2) ls (.inl v :: st) kb sb Γ δ) : XL x pc ls st kb sb Γ δ :=
  XL.stk (fun p l e R s m args below meth c H locs k n Q L μ hx hb w => lv_bipush hx hb hd hv w) k
theorem l_iadd {a b : Int32} (hd : decode code pc = .ok (.iadd, 1)) (k : XL x (pc + 1) ls (.inl (a + b) :: st) kb sb Γ δ) : XL x pc ls (.inl b :: .inl a :: st) kb sb Γ δ :=
  XL.stk (fun p l e R s m args below meth c H locs k n Q L μ hx hb w => lv_iadd hx hb hd w) k
theorem l_isub {a b : Int32} (hd : decode code pc = .ok (.isub, 1)) (k : XL x (pc + 1) ls (.inl (a - b) :: st) kb sb Γ δ) : XL x pc ls (.inl b :: .inl a :: st) kb sb Γ δ :=
  XL.stk (fun p l e R s m args below meth c H locs k n Q L μ hx hb w => lv_isub hx hb hd w) k
theorem l_iand {a b : Int32} (hd : decode code pc = .ok (.iand, 1)) (k : XL x (pc + 1) ls (.inl (a &&& b) :: st) kb sb Γ δ) : XL x pc ls (.inl b :: .inl a :: st) kb sb Γ δ :=
  XL.stk (fun p l e R s m args below meth c H locs k n Q L μ hx hb w => lv_iand hx hb hd w) k
theorem l_dup {v : AV} (hd : decode code pc = .ok (.dup, 1)) (k : XL x (pc + 1) ls (v :: v :: st) kb sb Γ δ) : XL x pc ls (v :: st) kb sb Γ δ :=
  XL.stk (fun p l e R s m args below meth c H locs k n Q L μ hx hb w => lv_dup hx hb hd (cv_cat μ v) w) k
theorem l_goto {off : Int} {tgt : Nat} (hd : decode code pc = .ok (.goto off, 3)) (ht : (pc : Int) + off = (tgt : Int)) (k : XL x tgt ls st kb sb Γ δ) : XL x pc ls st kb sb Γ δ :=
  XL.stk (fun p l e R s m args below meth c H locs k n Q L μ hx hb w => lv_goto hx hb hd ht w) k
theorem XL.ld {i pc' : Nat} {v : AV} (hl : ls[i]? = some (some v))
    (h : ∀ (p : Program) (l : Launch) (e : Env) (R : Room) (s : State) (m : MethodId) (args : Array Value) (below : List Frame) (meth : Method) (c : Code) (H : Heap) (locs : List Loc) (k n : Nat) (Q : State → Prop) (L : Array Slot) (μ : Gm), p.tables.exec = Jvm.exec → c.code = code → L[i]? = some (.val (cv μ v)) →
      W p l e R s m args below meth c H locs k n Q (F0 m pc' L (cv μ v :: st.map (cv μ))) → W p l e R s m args below meth c H locs k n Q (F0 m pc L (st.map (cv μ))))
    (k : XL x pc' ls (v :: st) kb sb Γ δ) : XL x pc ls st kb sb Γ δ := by
  obtain ⟨p, l, e, s, m, args, below, meth, c, D, K, μ0, Q⟩ := x
  intro μ H locs L X
  exact h _ _ _ _ _ _ _ _ _ _ _ _ _ _ _ _ _ X.1.1 X.1.2.1 (X.2.2.2.2.2.2.2.2.2 i v hl) (k μ H locs L X)
theorem l_iload_n {i : Nat} {v : Int32} {kf : Fin 4} (hd : decode code pc = .ok (.iload_n kf, 1)) (hi : (kf : Nat) = i) (hl : ls[i]? = some (some (.inl v))) (k : XL x (pc + 1) ls (.inl v :: st) kb sb Γ δ) : XL x pc ls st kb sb Γ δ :=
  XL.ld hl (fun p l e R s m args below meth c H locs k n Q L μ hx hb g w => lv_iload_n hx hb hd hi g w) k
theorem l_aload_n {i : Nat} {q : Nat × Nat} {kf : Fin 4} (hd : decode code pc = .ok (.aload_n kf, 1)) (hi : (kf : Nat) = i) (hl : ls[i]? = some (some (.inr q))) (k : XL x (pc + 1) ls (.inr q :: st) kb sb Γ δ) : XL x pc ls st kb sb Γ δ := by
  refine XL.ld hl (fun p l e R s m args below meth c H locs k n Q L μ hx hb g w => ?_) k
  have e1 : cv μ (.inr q) = if q.1 = 1 then Value.null else .ref (μ q.1 q.2) := rfl
  rw [e1] at g w
  by_cases h : q.1 = 1
  · rw [if_pos h] at g w
    exact lv_aload_nN hx hb hd hi g w
  · rw [if_neg h] at g w
    exact lv_aload_n hx hb hd hi g w
theorem XL.sto {i pc' : Nat} {v : AV}
    (h : ∀ (p : Program) (l : Launch) (e : Env) (R : Room) (s : State) (m : MethodId) (args : Array Value) (below : List Frame) (meth : Method) (c : Code) (H : Heap) (locs : List Loc) (k n : Nat) (Q : State → Prop) (L : Array Slot) (μ : Gm) (nL : Nat) (lw : List (Nat × Value)), p.tables.exec = Jvm.exec → c.code = code → lv_has L nL lw → i < nL →
      (∀ L', lv_has L' nL ((i, cv μ v) :: lw.filter (fun q => !(q.1 == i) && !(q.1 + 1 == i && q.2.category == 2))) → W p l e R s m args below meth c H locs k n Q (F0 m pc' L' (st.map (cv μ)))) → W p l e R s m args below meth c H locs k n Q (F0 m pc L (cv μ v :: st.map (cv μ))))
    (hi : i < 4) (k : XL x pc' (ls.set i (some v)) st kb sb Γ δ) : XL x pc ls (v :: st) kb sb Γ δ := by
  obtain ⟨p, l, e, s, m, args, below, meth, c, D, K, μ0, Q⟩ := x
  intro μ H locs L X
  obtain ⟨x1, x2, x3, x4, x5, x6, x7, x8⟩ := X
  exact h _ _ _ _ _ _ _ _ _ _ _ _ _ _ _ _ _ _ _ x1.1 x1.2.1 x8.has hi (fun L' hl => k μ H locs L' ⟨x1, x2, x3, x4, x5, x6, x7, lsOk.set hl⟩)
theorem l_stn {i : Nat} {v : Int32} {kf : Fin 4} {ls' : List (Option AV)} (hd : decode code pc = .ok (.istore_n kf, 1)) (hf : (kf : Nat) = i) (hi : i < 4) (hs : ls.set i (some (.inl v)) = ls') (k : XL x (pc + 1) ls' st kb sb Γ δ) : XL x pc ls (.inl v :: st) kb sb Γ δ := by
  subst hs
  exact XL.sto (fun p l e R s m args below meth c H locs k n Q L μ nL lw hx hb h g w => lv_istore_n hx hb hd hf h g rfl w) hi k
theorem l_asn {i : Nat} {q : Nat × Nat} {kf : Fin 4} {ls' : List (Option AV)} (hd : decode code pc = .ok (.astore_n kf, 1)) (hf : (kf : Nat) = i) (hi : i < 4) (hs : ls.set i (some (.inr q)) = ls') (k : XL x (pc + 1) ls' st kb sb Γ δ) : XL x pc ls (.inr q :: st) kb sb Γ δ := by
  subst hs
  refine XL.sto (fun p l e R s m args below meth c H locs k n Q L μ nL lw hx hb h g w => ?_) hi k
  have e1 : cv μ (.inr q) = if q.1 = 1 then Value.null else .ref (μ q.1 q.2) := rfl
  rw [e1] at w ⊢
  by_cases hq : q.1 = 1
  · rw [if_pos hq] at w ⊢
    exact lv_astore_nN hx hb hd hf h g rfl w
  · rw [if_neg hq] at w ⊢
    exact lv_astore_n hx hb hd hf h g rfl w
theorem l_inc {i : Nat} {n : Int} {v c0 : Int32} {ls' : List (Option AV)} (hd : decode code pc = .ok (.iinc i n, 3)) (hn : Int32.ofInt n = c0) (hl : ls[i]? = some (some (.inl v))) (hi : i < 4) (hs : ls.set i (some (.inl (v + c0))) = ls') (k : XL x (pc + 3) ls' st kb sb Γ δ) : XL x pc ls st kb sb Γ δ := by
  subst hs
  obtain ⟨p, l, e, s, m, args, below, meth, c, D, K, μ0, Q⟩ := x
  intro μ H locs L X
  obtain ⟨x1, x2, x3, x4, x5, x6, x7, x8⟩ := X
  obtain ⟨j, hj⟩ := List.getElem?_of_mem (al_mem.mpr ⟨.inl v, hl, rfl⟩ : (i, cv μ (.inl v)) ∈ al μ ls)
  exact lv_iinc (v := v + c0) x1.1 x1.2.1 hd x8.has hj (by rw [hn]) hi rfl (fun L' hl => k μ H locs L' ⟨x1, x2, x3, x4, x5, x6, x7, lsOk.set hl⟩)
theorem l_cmp_eq {a b : Int32} {off : Int} {tgt : Nat} (hd : decode code pc = .ok (.if_icmp .eq off, 3)) (ht : (pc : Int) + off = (tgt : Int)) (kt : a = b → XL x tgt ls st kb sb Γ δ) (kf : ¬ a = b → XL x (pc + 3) ls st kb sb Γ δ) : XL x pc ls (.inl b :: .inl a :: st) kb sb Γ δ := by
  obtain ⟨p, l, e, s, m, args, below, meth, c, D, K, μ0, Q⟩ := x
  intro μ H locs L X
  exact lv_icmp_eq X.1.1 X.1.2.1 hd ht (fun q => kt q μ H locs L X) (fun q => kf q μ H locs L X)
theorem l_cmp_gt {a b : Int32} {off : Int} {tgt : Nat} (hd : decode code pc = .ok (.if_icmp .gt off, 3)) (ht : (pc : Int) + off = (tgt : Int)) (kt : b < a → XL x tgt ls st kb sb Γ δ) (kf : ¬ b < a → XL x (pc + 3) ls st kb sb Γ δ) : XL x pc ls (.inl b :: .inl a :: st) kb sb Γ δ := by
  obtain ⟨p, l, e, s, m, args, below, meth, c, D, K, μ0, Q⟩ := x
  intro μ H locs L X
  exact lv_icmp_gt X.1.1 X.1.2.1 hd ht (fun q => kt q μ H locs L X) (fun q => kf q μ H locs L X)
theorem l_tin {dflt lo hi : Int} {offs : Array Int} {len : Nat} {y v : Int32} {off : Int} {tgt : Nat} (hd : decode code pc = .ok (.tableswitch dflt lo hi offs, len)) (hx : y = v) (h1 : decide (¬ v.toInt < lo ∧ ¬ hi < v.toInt ∧ offs[(v.toInt - lo).toNat]? = some off ∧ (pc : Int) + off = (tgt : Int)) = true) (k : XL x tgt ls st kb sb Γ δ) : XL x pc ls (.inl y :: st) kb sb Γ δ := by
  obtain ⟨g1, g2, g3, g4⟩ := of_decide_eq_true h1
  subst hx
  exact XL.stk (fun p l e R s m args below meth c H locs k n Q L μ hx hb w => lv_tableIn hx hb hd g1 g2 g3 g4 w) k
theorem l_tout {dflt lo hi : Int} {offs : Array Int} {len : Nat} {y : Int32} {tgt : Nat} (hd : decode code pc = .ok (.tableswitch dflt lo hi offs, len)) (h : y.toInt < lo ∨ hi < y.toInt) (ht : (pc : Int) + dflt = (tgt : Int)) (k : XL x tgt ls st kb sb Γ δ) : XL x pc ls (.inl y :: st) kb sb Γ δ :=
  XL.stk (fun p l e R s m args below meth c H locs k n Q L μ hx hb w => lv_tableOut hx hb hd h ht w) k
theorem l_slen {n : Nat} {xs : Nat → Int32} (hS : XSc x n xs) (hd : decode code pc = .ok (.arraylength, 1)) (k : XL x (pc + 1) ls (.inl (Int32.ofNat n) :: st) kb sb Γ δ) : XL x pc ls (.inr (4, 2) :: st) kb sb Γ δ := by
  obtain ⟨p, l, e, s, m, args, below, meth, c, D, K, μ0, Q⟩ := x
  intro μ H locs L X
  have kk := k μ H locs L X
  obtain ⟨⟨hx, hb, hr, hml, hown, hts, hlk, hnm, hK⟩, x2, x3, x4, x5, x6, x7, x8⟩ := X
  obtain ⟨scr, g1, g2, g3, g4, g5⟩ := hS
  have hlt := (Array.getElem?_eq_some_iff.mp g1).1
  have e1 : H[μ 4 2]? = some scr := by
    rw [x3 4 2 (fun h => h.2.1 rfl), x7.2.1 _ hlt (Nat.not_le.mpr hlt)]
    exact g1
  show W p l e room_1 s m args below meth c H locs kb sb _ (F0 m pc L (cv μ (.inr (4, 2)) :: st.map (cv μ)))
  rw [cv_a (by decide)]
  exact W.alen hx hb e1 g2 (by rw [g4]) rfl rfl hd kk
theorem l_sald {n : Nat} {xs : Nat → Int32} {i : Int32} (hS : XSc x n xs) (h0 : ¬ i < 0) (hi : i.toNatClampNeg < n) (hd : decode code pc = .ok (.iaload, 1)) (k : XL x (pc + 1) ls (.inl (xs i.toNatClampNeg) :: st) kb sb Γ δ) : XL x pc ls (.inl i :: .inr (4, 2) :: st) kb sb Γ δ := by
  obtain ⟨p, l, e, s, m, args, below, meth, c, D, K, μ0, Q⟩ := x
  intro μ H locs L X
  have kk := k μ H locs L X
  obtain ⟨⟨hx, hb, hr, hml, hown, hts, hlk, hnm, hK⟩, x2, x3, x4, x5, x6, x7, x8⟩ := X
  obtain ⟨scr, g1, g2, g3, g4, g5⟩ := hS
  have hlt := (Array.getElem?_eq_some_iff.mp g1).1
  have e1 : H[μ 4 2]? = some scr := by
    rw [x3 4 2 (fun h => h.2.1 rfl), x7.2.1 _ hlt (Nat.not_le.mpr hlt)]
    exact g1
  show W p l e room_1 s m args below meth c H locs kb sb _ (F0 m pc L (.int i :: cv μ (.inr (4, 2)) :: st.map (cv μ)))
  rw [cv_a (by decide)]
  exact W.iald (v := .int (xs i.toNatClampNeg)) hx hb e1 g2 g3 (fun q => by rcases q with q | q; exact h0 q; rw [g4] at q; omega) (g5 _ hi) rfl rfl hd kk
theorem l_new {idx b ci n kb2 sb2 : Nat} {C : String} {T : u_T} {ty : Nat → FieldType} {Γ2 : Gm} (hb : wcls b = ci) (hv : vwCl[ci]? = some (C, T, n)) (hty : ∀ k, k < n → parseFieldDescriptor (T k).2.2.1 = some (ty k)) (hdf : ∀ j, j < n → defaultValue (ty j) = defv (wfb ci + j)) (hwd : ∀ w ∈ u_ws C T n, w ∈ lwg) (hc : CN R_law idx C n) (hfb : 0 < wfb ci)
    (hR : ∀ f a, δ.2.2 f a ≠ (0, b)) (hS : ∀ f a, wty f = 2 → Γ f a = 2 → wsr f a ≠ b) (h5 : ∀ f, wty f = 5 → wfb ci ≤ f → f < wfb ci + n → ∀ a, Γ f a = 0) (hl : ∀ v, some v ∈ ls → Un (fun f a => f = 0 ∧ a = b) v) (hs : ∀ v ∈ st, Un (fun f a => f = 0 ∧ a = b) v)
    (hk2 : kb + 1 = kb2) (hs2 : sb + n = sb2) (hkk : kb2 ≤ 600000) (hss : sb2 ≤ 7302250) (hΓ : nG Γ b ci n = Γ2) (hd : decode code pc = .ok (.new idx, 3)) (k : XL x (pc + 3) ls (.inr (0, b) :: st) kb2 sb2 Γ2 (nD δ b ci n)) : XL x pc ls st kb sb Γ δ := by
  subst hk2; subst hs2; subst hΓ
  obtain ⟨p, l, e, s, m, args, below, meth, c, D, K, μ0, Q⟩ := x
  intro μ H locs L X
  obtain ⟨x1, x2, x3, x4, x5, x6, x7, x8⟩ := X
  obtain ⟨hx, hbb, hr, hml, hown, hts, hlk, hnm, hK⟩ := id x1
  have hKn := hK.1 ci _ hv
  have hg : ∀ f a, ¬ (f = 0 ∧ a = b) → sG μ 0 b H.size f a = μ f a := fun f a h => by unfold sG; rw [if_neg h]
  refine W.newcK hx hbb hown (hts _ hc.1) (hts _ hc.2.1) (hts _ hc.2.2) rfl hd hkk hss hKn.2.1 rfl fun H1 kC hkC e1 z1 o1 => ?_
  have hO := (u_born ty hts hwd hKn hkC e1 hty).to hdf
  have es : st.map (cv μ) = st.map (cv (sG μ 0 b H.size)) := List.map_congr_left fun v hv => (Un.cv hg (hs v hv)).symm
  have kk := k (sG μ 0 b H.size) H1 locs L ⟨x1, x2, fun f a h => (hg f a (fun e => h ⟨by omega, by omega, by omega, by omega⟩)).trans (x3 f a h), x4.to (funext fun a => hg 2 a (by omega)) (funext fun a => hg 4 a (by omega)) (funext fun a => hg 5 a (by omega)) (funext fun a => hg 6 a (by omega)),
    x5.newO hb hv (fun q hq => o1 q hq) hO hfb hR hS h5, fun f a hla => ?_, ⟨Nat.le_trans x7.1 (by omega), fun q h1 h2 => (o1 q (Nat.lt_of_lt_of_le h1 x7.1)).trans (x7.2.1 q h1 h2), x7.2.2⟩, x8.to hg hl⟩
  · have ex : (.inr (0, b) :: st).map (cv (sG μ 0 b H.size)) = .ref H.size :: st.map (cv μ) := by
      rw [es]
      show (if 0 = 1 then Value.null else .ref (sG μ 0 b H.size 0 b)) :: _ = _
      have : sG μ 0 b H.size 0 b = H.size := by unfold sG; rw [if_pos ⟨rfl, rfl⟩]
      rw [this]; rfl
    rw [ex] at kk
    exact kk
  · by_cases hn : f = 0 ∧ a = b
    · have : sG μ 0 b H.size f a = H.size := by unfold sG; rw [if_pos hn]
      rw [this]
      exact x2 _ x7.1
    · rw [hg f a hn]
      refine x6 f a ⟨hla.1, fun h0 => hla.2 ?_⟩
      unfold nG
      rw [if_neg hn]
      by_cases hcc : a = b ∧ wfb ci ≤ f ∧ f < wfb ci + n
      · rw [if_pos hcc, if_neg (by have := hla.1; omega)]
      · rw [if_neg hcc]; exact h0
end XLs
section XLc
variable {p : Program} {l : Launch} {e : Env} {s : State} {m : MethodId} {args : Array Value} {below : List Frame} {meth : Method} {c : Code} {D : va_G} {K : Kd} {μ0 : Gm} {Q : State → Prop} {pc kb sb : Nat} {ls : List (Option AV)} {st : List AV} {Γ : Gm} {δ : Dl}
theorem XL.behind {N' : Nat → Nat → Prop} {kc' ks' : Nat} {r' : Rs} {st0 : List Value} {av : Array Value} {μ : Gm} {H : Heap} {locs : List Loc} {L : Array Slot}
    (X : Xc (MLaw meth.name) NLw ls Γ δ p s m args meth c D K (fun q => s.heap.size ≤ q) μ0 μ H locs L)
    (hr : va_Run p l e room_1 s m args below meth c H locs kb sb kc' ks' (F0 m pc L st0) (st.map (cv μ)) (Qr D K N' (AA μ Γ H.size) μ r' av) (AA μ Γ H.size))
    (hN : ∀ f a, N' f a → f ≠ 2 ∧ f ≠ 4 ∧ f ≠ 5 ∧ f ≠ 6) (hl : ∀ v, some v ∈ ls → Un N' v) (hs : ∀ v ∈ st, Un N' v)
    (k : XL (p, l, e, s, m, args, below, meth, c, D, K, μ0, Q) (pc + 3) ls (r'.1.toList ++ st) (kb + kc') (sb + ks') r'.2.1 r'.2.2) :
    W p l e room_1 s m args below meth c H locs kb sb Q (F0 m pc L st0) := by
  obtain ⟨x1, x2, x3, x4, x5, x6, x7, x8⟩ := X
  have hAA := AA_sub x2 x6 x7
  intro T hT S
  obtain ⟨v, st₀, t, T', Lx, h0, X', hL, e1, e2, ⟨⟨μ', hv, g1, g2, g3⟩, hz, hk⟩, stp⟩ := hr T hT S
  cases hv
  rw [h0] at hz hk
  have es : st.map (cv μ) = st.map (cv μ') := List.map_congr_left fun v hv => (Un.cv g1 (hs v hv)).symm
  have e2x : μ' 2 = μ 2 := funext fun a => g1 2 a (fun h => (hN 2 a h).1 rfl)
  have e4x : μ' 4 = μ 4 := funext fun a => g1 4 a (fun h => (hN 4 a h).2.1 rfl)
  have e5x : μ' 5 = μ 5 := funext fun a => g1 5 a (fun h => (hN 5 a h).2.2.1 rfl)
  have e6x : μ' 6 = μ 6 := funext fun a => g1 6 a (fun h => (hN 6 a h).2.2.2 rfl)
  obtain ⟨t2, a1, b1⟩ := k μ' T'.heap (locs ++ Lx) L ⟨x1, x2, fun f a h => (g1 f a (fun h' => h (hN f a h'))).trans (x3 f a h), x4.to e2x e4x e5x e6x, by rw [e1]; exact g2, fun f a h => hAA _ (g3 f a h),
    ⟨Nat.le_trans x7.1 (by rw [e1]; exact hz), fun q h1 h2 => by rw [e1, hk q (Nat.lt_of_lt_of_le h1 x7.1) (fun z => h2 (hAA q z))]; exact x7.2.1 q h1 h2, fun q hq => by
      rcases List.mem_append.mp hq with h | h
      · exact x7.2.2 q h
      · exact hAA _ (hL q h)⟩, x8.1, x8.2.1, fun i v hv => by
        rw [Un.cv g1 (hl v (List.mem_of_getElem? hv))]
        exact x8.2.2 i v hv⟩ T' rfl X'
  refine ⟨t2, stp t2 ?_, b1⟩
  have ex : (Option.map (cv μ') r'.1).toList ++ st.map (cv μ) = (r'.1.toList ++ st).map (cv μ') := by
    rw [es, List.map_append]
    cases r'.1 <;> rfl
  rw [ex]
  exact a1
theorem callL_at {own : String} {idx n d' kc' ks' : Nat} {Y' : MM} (hts : ∀ w ∈ lwg, w.before args s = true) (hm : MI Y' n) (hd' : d' + 1 ≤ 2048) (hl : Cond.methodLink own idx Y'.1 ∈ lwg) :
    CallB room_1 s args own idx Y'.1 Y'.2.1 Y'.2.2.1 Y'.2.2.2 (wY Y') (rmO d' kc' ks') kc' ks' n :=
  callB_of n hts (wY_good hm) rfl rfl rfl (hts _ hm.1) (hts _ hl) ⟨hm.2.2.1.1, hm.2.2.1.2, hm.2.2.2.1⟩ ⟨hd', by show 8 + (Y'.2.2.1 + 11) + 40 * d' ≤ 84000; have := hm.2.2.2.2; omega⟩
theorem l_V {idx n d' kc' ks' kb2 sb2 : Nat} {C : String} {Y' : MM} {N' : Nat → Nat → Prop} {as st0 st' : List AV} {a ci : Nat} {T : u_T} {nf : Nat} {r' : Rs} (cw : CV R_law idx C Y' n) (hvc : vwCl[ci]? = some (C, T, nf)) (ha : Ob Γ a ci) (hn : as.length = n) (hd' : d' + 1 ≤ 2048) (hst : st.length ≤ 8)
    (hd : decode code pc = .ok (.invokevirtual idx, 3)) (hC : Ct l Y' d' kc' ks' N' (.inr (0, a) :: as) Γ δ r') (hN : ∀ f a, N' f a → f ≠ 2 ∧ f ≠ 4 ∧ f ≠ 5 ∧ f ≠ 6) (hl : ∀ v, some v ∈ ls → Un N' v) (hs : ∀ v ∈ st, Un N' v)
    (hk2 : kb + kc' = kb2) (hs2 : sb + ks' = sb2) (hkk : kb2 ≤ 600000) (hss : sb2 ≤ 7302250) (h0 : as.reverse ++ .inr (0, a) :: st = st0) (h1 : r'.1.toList ++ st = st')
    (k : XL (p, l, e, s, m, args, below, meth, c, D, K, μ0, Q) (pc + 3) ls st' kb2 sb2 r'.2.1 r'.2.2) : XL (p, l, e, s, m, args, below, meth, c, D, K, μ0, Q) pc ls st0 kb sb Γ δ := by
  subst hk2; subst hs2; subst h0; subst h1
  intro μ H locs L X
  have hpre := pre_at X (.inr (0, a) :: as)
  obtain ⟨⟨hx, hb, hre, hml, hown, hts, hlk, hnm, hK⟩, x2, x3, x4, x5, x6, x7, x8⟩ := id X
  refine XL.behind X (va_runV (As := as.map (cv μ)) (rest := st.map (cv μ)) ⟨hx, hb, hml, hown, hts⟩ (hC D K μ H.size) ⟨callL_at hts cw.2.2.2 hd' cw.1, hts _ cw.2.1, hts _ cw.2.2.1⟩ ⟨hpre.1, x5.recv hK ha.z ha.1 hvc, hpre.2⟩ rfl (by simpa using hn) x8.1 ?_ (lv_room (by rw [sum_cv]; exact hst)) hd ⟨hkk, hss⟩) hN hl hs k
  show (as.reverse ++ .inr (0, a) :: st).map (cv μ) = _
  rw [List.map_append, List.map_reverse]; rfl
theorem l_I {idx d' kc' ks' kb2 sb2 : Nat} {Y' : MM} {N' : Nat → Nat → Prop} {a : Nat} {Γ' Γ2 : Gm} {δ' : Dl} (cw : CI R_law idx Y' 0) (hd' : d' + 1 ≤ 2048) (hst : st.length ≤ 8)
    (hd : decode code pc = .ok (.invokespecial idx, 3)) (hC : Ct l Y' d' kc' ks' N' [.inr (0, a)] Γ δ (none, Γ', δ')) (hN : ∀ f a, N' f a → f ≠ 2 ∧ f ≠ 4 ∧ f ≠ 5 ∧ f ≠ 6) (hl : ∀ v, some v ∈ ls → Un N' v) (hs : ∀ v ∈ st, Un N' v)
    (hk2 : kb + kc' = kb2) (hs2 : sb + ks' = sb2) (hkk : kb2 ≤ 600000) (hss : sb2 ≤ 7302250) (hΓ : Γ' = Γ2)
    (k : XL (p, l, e, s, m, args, below, meth, c, D, K, μ0, Q) (pc + 3) ls st kb2 sb2 Γ2 δ') : XL (p, l, e, s, m, args, below, meth, c, D, K, μ0, Q) pc ls (.inr (0, a) :: st) kb sb Γ δ := by
  subst hk2; subst hs2; subst hΓ
  intro μ H locs L X
  have hpre := pre_at X [.inr (0, a)]
  obtain ⟨⟨hx, hb, hre, hml, hown, hts, hlk, hnm, hK⟩, x2, x3, x4, x5, x6, x7, x8⟩ := id X
  have hcb := callL_at (kc' := kc') (ks' := ks') hts cw.2.2.2.2 hd' cw.1
  rw [cw.2.2.2.1] at hcb
  exact XL.behind (r' := (none, Γ', δ')) X (va_runI (As := []) (rest := st.map (cv μ)) ⟨hx, hb, hml, hown, hts⟩ (hC D K μ H.size) ⟨hcb, cw.2.2.1, hts _ cw.2.1⟩ hpre rfl rfl x8.1 rfl (lv_room (by rw [sum_cv]; exact hst)) hd ⟨hkk, hss⟩) hN hl hs k
theorem l_ret {b : Nat} {pc : Nat} (hd : decode code pc = .ok (.ireturn, 1)) (hk : kb ≤ 600000) (hs : sb ≤ 7302250) : XL (p, l, e, s, m, #[Value.ref b], below, meth, c, D, K, μ0, lw_Z below #[Value.ref b] s) pc ls [.inl 1] kb sb Γ δ := by
  intro μ H locs L X
  obtain ⟨⟨hx, hb, hre, hml, hown, hts, hlk, hnm, hK⟩, x2, x3, x4, x5, x6, x7, x8⟩ := X
  refine W.widen hk hs ?_
  have := W.forget (L := locs) (fun q hq => x7.2.2 q hq) (lw_ret (l := l) (e := e) (m := m) (b := b) (below := below) hx hb hre hlk (H := H) (ls := L) hd)
  rw [List.nil_append] at this
  exact this
end XLc
