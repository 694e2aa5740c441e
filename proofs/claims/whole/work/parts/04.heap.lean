/-! rows of the heap: fields, rows of numbers, returns; and contracts -/
def sI (δ : Dl) (f a : Nat) (v : Int32) : Dl := (fun g b => if g = f ∧ b = a then v else δ.1 g b, δ.2)
def sA (δ : Dl) (f a : Nat) (i v : Int32) : Dl := (δ.1, fun g b => if g = f ∧ b = a then (fun j => if j = i then v else δ.2.1 f a j) else δ.2.1 g b, δ.2.2)
def sR (δ : Dl) (f a : Nat) (q : Nat × Nat) : Dl := (δ.1, δ.2.1, fun g b => if g = f ∧ b = a then q else δ.2.2 g b)
def sG (Γ : Gm) (f a n : Nat) : Gm := fun g b => if g = f ∧ b = a then n else Γ g b
/-- an index is within -/
abbrev inb (i n : Int32) : Prop := 0 ≤ i ∧ i < n
theorem inb_vp {i n : Int32} {k : Nat} (h : inb i n) (hn : n.toInt = k) : vp_in i k := by
  refine vp_in_iff.mpr ⟨?_, ?_⟩
  · have := Int32.le_iff_toInt_le.mp h.1
    simpa using this
  · have := Int32.lt_iff_toInt_lt.mp h.2
    rw [hn] at this
    exact this
theorem nI_clampI {i : Int32} {k : Nat} (h : vp_in i k) : nI i.toNatClampNeg = i := by
  obtain ⟨h1, -⟩ := vp_in_iff.mp h
  apply Int32.toInt_inj.mp
  have h2 : i.toNatClampNeg < 2 ^ 31 := by
    show i.toInt.toNat < 2 ^ 31
    have := Int32.toInt_lt i
    omega
  rw [nI_toInt h2]
  show ((i.toInt.toNat : Nat) : Int) = i.toInt
  omega
theorem nI_inj {a b : Nat} (ha : a < 2 ^ 31) (hb : b < 2 ^ 31) (h : nI a = nI b) : a = b := (nI_eq ha hb).mp h
def Ob (Γ : Gm) (a ci : Nat) : Prop := wcls a = ci ∧ Γ 0 a = 2 ∧ ∀ r : vw_C, vwCl[ci]? = some r → ∀ j, j < r.2.2 → Γ (wfb ci + j) a = 2
/-- the field of number j of the class ci, as the class own names it by its pool's entry idx -/
def GL (own : String) (idx ci j : Nat) : Prop := ∃ (C : String) (T : u_T) (n : Nat) (ref : String), vwCl[ci]? = some (C, T, n) ∧ j < n ∧ Cond.fieldLink own idx ref (T j).2.1 (T j).2.2.1 ∈ lwg ∧ (ref = (T j).1 ∨ Cond.sameField ref (T j).1 (T j).2.1 (T j).2.2.1 ∈ lwg) ∧ (∀ w ∈ u_ws C T n, w ∈ lwg)
/-- .. and what may be put there -/
def GP (own : String) (idx ci j : Nat) (fin : Bool) (ty : FieldType) : Prop := ∃ (C : String) (T : u_T) (n : Nat) (ref : String) (ty0 : Nat → FieldType), vwCl[ci]? = some (C, T, n) ∧ j < n ∧ Cond.fieldLink own idx ref (T j).2.1 (T j).2.2.1 ∈ lwg ∧ ref = (T j).1 ∧ (∀ w ∈ u_ws C T n, w ∈ lwg) ∧
  (∀ k, k < n → parseFieldDescriptor (T k).2.2.1 = some (ty0 k)) ∧ (∀ a, a < n → ∀ b, b < n → a ≠ b → (T a).2.1 ≠ (T b).2.1) ∧ (T j).2.2.2 = fin ∧ parseFieldDescriptor (T j).2.2.1 = some ty ∧ (fin = true → (T j).1 = own)
theorem wty0 : wty 0 = 6 := by decide +kernel
theorem HP.ob {D : va_G} {K : Kd} {μ Γ : Gm} {δ : Dl} {H : Heap} (h : HP D K μ Γ δ H) {a ci : Nat} {C : String} {T : u_T} {n : Nat} (h0 : Γ 0 a ≠ 0) (hc : wcls a = ci) (hv : vwCl[ci]? = some (C, T, n)) : t_OB (μ 0 a) (D.1 ci) n (D.2 ci) H (fun j => fv μ Γ δ (wfb ci + j) a) := by
  obtain ⟨r, h1, h2⟩ := h.1 a h0
  rw [hc] at h1 h2
  cases h1.symm.trans hv
  exact h2
theorem HP.putO {D : va_G} {K : Kd} {μ Γ Γ' : Gm} {δ δ' : Dl} {H H' : Heap} (h : HP D K μ Γ δ H) {a ci : Nat} {C : String} {T : u_T} {n : Nat} (h0 : Γ 0 a ≠ 0) (hc : wcls a = ci) (hv : vwCl[ci]? = some (C, T, n))
    (c2 : ∀ f b, 3 ≤ wty f → Γ' f b ≠ 0 → Γ f b ≠ 0) (c3 : ∀ b, b ≠ a → ∀ f, fv μ Γ' δ' f b = fv μ Γ δ f b) (c4 : δ'.2.1 = δ.2.1) (c5 : ∀ f j, wty f = 5 → δ'.2.2 f j = δ.2.2 f j)
    (hO : t_OB (μ 0 a) (D.1 ci) n (D.2 ci) H' (fun j => fv μ Γ' δ' (wfb ci + j) a)) (ho : ∀ q, q ≠ μ 0 a → H'[q]? = H[q]?) : HP D K μ Γ' δ' H' := by
  obtain ⟨h1, h2, h3, h4, h5⟩ := h
  have l0 : lv Γ 0 a := ⟨by rw [wty0]; decide, h0⟩
  have ne : ∀ f b, 3 ≤ wty f → wty f ≠ 6 → Γ f b ≠ 0 → μ f b ≠ μ 0 a := by
    intro f b w1 w2 hg e
    have := (h5 f b 0 a ⟨w1, hg⟩ l0 e).1
    subst this
    exact w2 wty0
  refine ⟨fun b hb => ?_, fun f b w hb => ?_, fun f b w hb => ?_, fun f b w hb => ?_, fun f b g e x1 x2 => h5 f b g e ⟨x1.1, c2 f b x1.1 x1.2⟩ ⟨x2.1, c2 g e x2.1 x2.2⟩⟩
  · have hb0 : Γ 0 b ≠ 0 := c2 0 b (by rw [wty0]; decide) hb
    by_cases hba : b = a
    · subst hba
      rw [hc]
      exact ⟨_, hv, hO⟩
    · obtain ⟨r, r1, r2⟩ := h1 b hb0
      refine ⟨r, r1, ?_⟩
      have hne : μ 0 b ≠ μ 0 a := fun e => hba (h5 0 b 0 a ⟨by rw [wty0]; decide, hb0⟩ l0 e).2
      exact (t_OB.kept r2 (ho _ hne)).to (fun k _ => (c3 b hba _).symm)
  · rw [ho _ (ne f b (by omega) (by omega) (c2 f b (by omega) hb)), c4]
    exact h2 f b w (c2 f b (by omega) hb)
  · rw [ho _ (ne f b (by omega) (by omega) (c2 f b (by omega) hb)), c4]
    exact h3 f b w (c2 f b (by omega) hb)
  · rw [ho _ (ne f b (by omega) (by omega) (c2 f b (by omega) hb)), h4 f b w (c2 f b (by omega) hb)]
    have : (fun j => cv μ (.inr (δ.2.2 f j))) = (fun j => cv μ (.inr (δ'.2.2 f j))) := funext fun j => by rw [c5 f j w]
    rw [this]
theorem HP.putA {D : va_G} {K : Kd} {μ Γ : Gm} {δ : Dl} {H H' : Heap} (h : HP D K μ Γ δ H) {f a cK : Nat} {g : Int32 → Int32} (hw : wty f = 3 ∨ wty f = 4) (hK : (wty f = 3 → cK = K.1) ∧ (wty f = 4 → cK = K.2.1)) (h0 : Γ f a ≠ 0)
    (hc : H'[μ f a]? = some (arrV cK (wlen f a) (fun j => .int (g (nI j))))) (ho : ∀ q, q ≠ μ f a → H'[q]? = H[q]?) : HP D K μ Γ (δ.1, fun f' b => if f' = f ∧ b = a then g else δ.2.1 f' b, δ.2.2) H' := by
  obtain ⟨h1, h2, h3, h4, h5⟩ := h
  have w3 : 3 ≤ wty f := by omega
  have ne : ∀ f' b, lv Γ f' b → ¬ (f' = f ∧ b = a) → μ f' b ≠ μ f a := fun f' b l1 hn e => hn (h5 f' b f a l1 ⟨w3, h0⟩ e)
  refine ⟨fun b hb => ?_, fun f' b w hb => ?_, fun f' b w hb => ?_, fun f' b w hb => ?_, h5⟩
  · obtain ⟨r, r1, r2⟩ := h1 b hb
    refine ⟨r, r1, (t_OB.kept r2 (ho _ (ne 0 b ⟨by rw [wty0]; decide, hb⟩ (fun e => ?_)))).to (fun k _ => ?_)⟩
    · have := wty0
      rw [e.1] at this
      omega
    · rfl
  · by_cases he : f' = f ∧ b = a
    · obtain ⟨rfl, rfl⟩ := he
      rw [hc, hK.1 w]
      simp
    · rw [ho _ (ne f' b ⟨by omega, hb⟩ he), h2 f' b w hb]
      simp only [if_neg he]
  · by_cases he : f' = f ∧ b = a
    · obtain ⟨rfl, rfl⟩ := he
      rw [hc, hK.2 w]
      simp
    · rw [ho _ (ne f' b ⟨by omega, hb⟩ he), h3 f' b w hb]
      simp only [if_neg he]
  · rw [ho _ (ne f' b ⟨by omega, hb⟩ (fun e => by rw [e.1] at w; omega)), h4 f' b w hb]
section XH
variable {l : Launch} {Y : MM} {d kc ks : Nat} {N : Nat → Nat → Prop} {pc : Nat} {ls : List (Option AV)} {st : List AV} {kb sb : Nat} {Γ : Gm} {δ : Dl} {r : Rs}
theorem Xe.get {idx ci j a : Nat} {v : AV} (hg : GL Y.1.cls idx ci j) (hc : wcls a = ci) (h0 : Γ 0 a ≠ 0) (hd : decode Y.2.1 pc = .ok (.getfield idx, 3)) (hv : ∀ μ, fv μ Γ δ (wfb ci + j) a = cv μ v) (k : Xe l Y d kc ks N (pc + 3) ls (v :: st) kb sb Γ δ r) : Xe l Y d kc ks N pc ls (.inr (0, a) :: st) kb sb Γ δ r := by
  intro p e s m args below meth c D K A μ0 μ H locs L X
  have kk := k p e s m args below meth c D K A μ0 μ H locs L X
  obtain ⟨⟨hx, hb, hr, hml, hown, hts, hlk, hnm, hK⟩, x2, x3, x4, x5, x6, x7, x8⟩ := X
  obtain ⟨C, T, n, ref, g1, g2, g3, g4, g5⟩ := hg
  obtain ⟨cell, q1, q2, q3, q4⟩ := x5.ob h0 hc g1
  obtain ⟨hS, hfc, kC, hkC, hkind⟩ := hK.1 ci _ g1
  obtain ⟨cf, kf, fi, f, hi, hsl⟩ := hS j g2
  have hi' : s.fieldFound? ref (T j).2.1 (T j).2.2.1 = some (cf, kf, fi, f) := by
    rcases g4 with h | h
    · rw [h]; exact hi
    · exact u_same (hts _ h) _ hi
  show W p l e (rmO d kc ks) s m args below meth c H locs kb sb _ (F0 m pc L (.ref (μ 0 a) :: st.map (cv μ)))
  refine W.getf hx hb hown (hts _ g3) hi' (u_facts hfc hkC (u_lays hts g5 g2) hi).1 q1 (by rw [q3]; exact fun h => by cases h) (v := cv μ v) ?_ rfl rfl hd kk
  rw [hsl, q4 j g2]
  exact congrArg some (hv μ)
/-- a store into an object -/
theorem Xe.put {idx ci j a : Nat} {fin : Bool} {ty : FieldType} {v : AV} {Γ' : Gm} {δ' : Dl} (hg : GP Y.1.cls idx ci j fin ty) (hc : wcls a = ci) (h0 : Γ 0 a ≠ 0) (hd : decode Y.2.1 pc = .ok (.putfield idx, 3)) (hin : fin = true → Y.1.name = "<init>")
    (hn : ∀ μ, narrow ty (cv μ v) = cv μ v) (hf : ∀ μ, fits ty (cv μ v) = true) (c2 : ∀ f b, 3 ≤ wty f → Γ' f b ≠ 0 → Γ f b ≠ 0) (c3 : ∀ μ b, b ≠ a → ∀ f, fv μ Γ' δ' f b = fv μ Γ δ f b) (c4 : δ'.2.1 = δ.2.1) (c5 : ∀ f j, wty f = 5 → δ'.2.2 f j = δ.2.2 f j)
    (c6 : ∀ μ i, fv μ Γ' δ' (wfb ci + i) a = if i = j then cv μ v else fv μ Γ δ (wfb ci + i) a)
    (k : Xe l Y d kc ks N (pc + 3) ls st kb sb Γ' δ' r) : Xe l Y d kc ks N pc ls (v :: .inr (0, a) :: st) kb sb Γ δ r := by
  intro p e s m args below meth c D K A μ0 μ H locs L X
  obtain ⟨x1, x2, x3, x4, x5, x6, x7, x8⟩ := X
  obtain ⟨hx, hb, hr, hml, hown, hts, hlk, hnm, hK⟩ := id x1
  obtain ⟨C, T, n, ref, ty0, g1, g2, g3, g4, g5, g6, g7, g8, g9, g10⟩ := hg
  have hob := x5.ob h0 hc g1
  obtain ⟨cell, q1, q2, q3, q4⟩ := id hob
  obtain ⟨hS, hfc, kC, hkC, hkind⟩ := hK.1 ci _ g1
  obtain ⟨cf, kf, fi, f, hi, hsl⟩ := hS j g2
  have hap := va_apart (own := Y.1.cls) hts g5 ty0 g6 g7 hK g1
  have hAa : A (μ 0 a) := x6 0 a ⟨by rw [wty0]; decide, h0⟩
  have key : ∀ (H' : Heap), H'[μ 0 a]? = some (cell.setSlot f.slot (cv μ v)) → H'.size = H.size → (∀ q, q ≠ μ 0 a → H'[q]? = H[q]?) →
      W p l e (rmO d kc ks) s m args below meth c H' (locs ++ [⟨μ 0 a, f.slot⟩]) kb sb (MQ below (Qr D K N A μ0 r) args s kc ks A) (F0 m (pc + 3) L (st.map (cv μ))) := by
    intro H' e1 e2 e3
    rw [hsl] at e1 ⊢
    refine k p e s m args below meth c D K A μ0 μ H' _ L ⟨x1, x2, x3, x4, x5.putO h0 hc g1 c2 (c3 μ) c4 c5 ?_ e3, fun f b h => x6 f b ⟨h.1, c2 f b h.1 h.2⟩, x7.put e2 e3 hAa, x8⟩
    refine t_OB.to (V := updV (fun i => fv μ Γ δ (wfb ci + i) a) j (cv μ v)) ⟨_, e1, q2, q3, t_set q4 hap g2 (cv μ v)⟩ (fun i _ => ?_)
    rw [c6 μ i]; rfl
  have hlay := hts _ (g5 _ (u_in_lay g2))
  unfold u_lay at hlay
  show W p l e (rmO d kc ks) s m args below meth c H locs kb sb _ (F0 m pc L (cv μ v :: .ref (μ 0 a) :: st.map (cv μ)))
  cases fin with
  | false =>
    rw [if_neg (by rw [g8]; decide)] at hlay
    have h6 := u_store hfc hkC hkind hlay hi g9 (hn μ) (hf μ)
    exact W.putK hx hb (f := f) ⟨hown, hts _ g3, ⟨_, _, _, by rw [g4]; exact hi⟩, (u_facts hfc hkC (u_lays hts g5 g2) hi).1⟩ (by rw [q2]; exact h6) q1 q3 (by rw [hsl]; exact k2_hasslot (q4 j g2)) rfl rfl hd key
  | true =>
    rw [if_pos g8] at hlay
    have hcf : m.cls = cf := by
      obtain ⟨_, _, c', _, _, _, -, -, hf', -, -, -, hown2, -⟩ := Cond.laysFinal_spec hlay
      have e1 : c' = cf := by have := hi.symm.trans hf'; simp at this; exact this.1.symm
      rw [g10 rfl] at hown2
      rw [← e1]; exact Option.some.inj (hown.symm.trans hown2)
    have h6 := u_fits hfc hkC hkind (Or.inr hlay) hi g9 (hn μ) (hf μ)
    exact W.putFinK hx hb hown (hts _ g3) (by rw [g4]; exact hi) (u_facts hfc hkC (u_lays hts g5 g2) hi).1 hcf (by rw [hnm]; exact hin rfl) (by rw [q2]; exact h6) q1 q3 (by rw [hsl]; exact k2_hasslot (q4 j g2)) rfl rfl hd key
theorem fv_0 {μ Γ : Gm} {f a : Nat} (h : wty f = 0) : fv μ Γ δ f a = .int (δ.1 f a) := by unfold fv; rw [if_pos h]
theorem fv_1 {μ Γ : Gm} {f a : Nat} (h : wty f = 1) : fv μ Γ δ f a = cv μ (.inr (δ.2.2 f a)) := by unfold fv; rw [if_neg (by omega), if_pos h]
theorem fv_2 {μ Γ : Gm} {f a : Nat} (h : wty f = 2) (h2 : Γ f a = 2) : fv μ Γ δ f a = .ref (μ 0 (wsr f a)) := by unfold fv; rw [if_neg (by omega), if_neg (by omega), if_pos h, if_pos h2]
theorem fv_3 {μ Γ : Gm} {f a : Nat} (h : 3 ≤ wty f) (h2 : Γ f a = 2) : fv μ Γ δ f a = .ref (μ f a) := by unfold fv; rw [if_neg (by omega), if_neg (by omega), if_neg (by omega), if_pos h2]
theorem x_getI {idx ci j a f : Nat} (hg : GL Y.1.cls idx ci j) (hf : wfb ci + j = f) (ht : wty f = 0) (ha : Ob Γ a ci) (hd : decode Y.2.1 pc = .ok (.getfield idx, 3)) (k : Xe l Y d kc ks N (pc + 3) ls (.inl (δ.1 f a) :: st) kb sb Γ δ r) : Xe l Y d kc ks N pc ls (.inr (0, a) :: st) kb sb Γ δ r :=
  Xe.get hg ha.1 (by rw [ha.2.1]; decide) hd (fun μ => by rw [hf]; exact fv_0 ht) k
theorem x_getR {idx ci j a f : Nat} (hg : GL Y.1.cls idx ci j) (hf : wfb ci + j = f) (ht : wty f = 1) (ha : Ob Γ a ci) (hd : decode Y.2.1 pc = .ok (.getfield idx, 3)) (k : Xe l Y d kc ks N (pc + 3) ls (.inr (δ.2.2 f a) :: st) kb sb Γ δ r) : Xe l Y d kc ks N pc ls (.inr (0, a) :: st) kb sb Γ δ r :=
  Xe.get hg ha.1 (by rw [ha.2.1]; decide) hd (fun μ => by rw [hf]; exact fv_1 ht) k
theorem Ob.at {a ci j f : Nat} {C : String} {T : u_T} {n : Nat} (ha : Ob Γ a ci) (hv : vwCl[ci]? = some (C, T, n)) (hj : j < n) (hf : wfb ci + j = f) : Γ f a = 2 := by rw [← hf]; exact ha.2.2 _ hv j hj
theorem x_getS {idx ci j a f b : Nat} (hg : GL Y.1.cls idx ci j) (hf : wfb ci + j = f) (ht : wty f = 2) (hb : wsr f a = b) (ha : Ob Γ a ci) (hd : decode Y.2.1 pc = .ok (.getfield idx, 3)) (k : Xe l Y d kc ks N (pc + 3) ls (.inr (0, b) :: st) kb sb Γ δ r) : Xe l Y d kc ks N pc ls (.inr (0, a) :: st) kb sb Γ δ r := by
  obtain ⟨C, T, n, ref, g1, g2, -⟩ := id hg
  refine Xe.get hg ha.1 (by rw [ha.2.1]; decide) hd (fun μ => ?_) k
  rw [hf, fv_2 ht (ha.at g1 g2 hf), hb]; rfl
theorem wty_ne1 {f : Nat} (h : 3 ≤ wty f) : ¬ f = 1 := fun e => by subst e; revert h; decide +kernel
theorem cv_a {μ : Gm} {f a : Nat} (h : ¬ f = 1) : cv μ (.inr (f, a)) = .ref (μ f a) := by show (if f = 1 then Value.null else .ref (μ f a)) = _; rw [if_neg h]
theorem x_getA {idx ci j a f : Nat} (hg : GL Y.1.cls idx ci j) (hf : wfb ci + j = f) (ht : 3 ≤ wty f) (ha : Ob Γ a ci) (hd : decode Y.2.1 pc = .ok (.getfield idx, 3)) (k : Xe l Y d kc ks N (pc + 3) ls (.inr (f, a) :: st) kb sb Γ δ r) : Xe l Y d kc ks N pc ls (.inr (0, a) :: st) kb sb Γ δ r := by
  obtain ⟨C, T, n, ref, g1, g2, -⟩ := id hg
  refine Xe.get hg ha.1 (by rw [ha.2.1]; decide) hd (fun μ => ?_) k
  rw [hf, fv_3 ht (ha.at g1 g2 hf), cv_a (wty_ne1 ht)]
theorem fv_sI {μ Γ : Gm} {f a : Nat} {v : Int32} (h : wty f = 0) (g b : Nat) : fv μ Γ (sI δ f a v) g b = if g = f ∧ b = a then .int v else fv μ Γ δ g b := by
  by_cases he : g = f ∧ b = a
  · obtain ⟨rfl, rfl⟩ := he
    rw [fv_0 h, if_pos ⟨rfl, rfl⟩]
    simp [sI]
  · rw [if_neg he]
    unfold fv sI
    simp only [if_neg he]
theorem fv_sR {μ Γ : Gm} {f a : Nat} {q : Nat × Nat} (h : wty f = 1) (g b : Nat) : fv μ Γ (sR δ f a q) g b = if g = f ∧ b = a then cv μ (.inr q) else fv μ Γ δ g b := by
  by_cases he : g = f ∧ b = a
  · obtain ⟨rfl, rfl⟩ := he
    rw [fv_1 h, if_pos ⟨rfl, rfl⟩]
    simp [sR]
  · rw [if_neg he]
    unfold fv sR
    simp only [if_neg he]
theorem x_putI {idx ci j a f : Nat} {fin : Bool} {ty : FieldType} {v : Int32} (hg : GP Y.1.cls idx ci j fin ty) (hf : wfb ci + j = f) (ht : wty f = 0) (hin : fin = true → Y.1.name = "<init>") (hn : narrow ty (.int v) = .int v) (hfi : fits ty (.int v) = true) (hc : wcls a = ci) (h0 : Γ 0 a ≠ 0) (hd : decode Y.2.1 pc = .ok (.putfield idx, 3))
    (k : Xe l Y d kc ks N (pc + 3) ls st kb sb Γ (sI δ f a v) r) : Xe l Y d kc ks N pc ls (.inl v :: .inr (0, a) :: st) kb sb Γ δ r := by
  refine Xe.put (Γ' := Γ) (δ' := sI δ f a v) hg hc h0 hd hin (fun μ => hn) (fun μ => hfi) (fun _ _ _ h => h) (fun μ b hb g => ?_) rfl (fun _ _ _ => rfl) (fun μ i => ?_) k
  · rw [fv_sI ht, if_neg (fun e => hb e.2)]
  · rw [fv_sI ht]
    by_cases hi : i = j
    · subst hi; rw [if_pos ⟨hf, rfl⟩, if_pos rfl]; rfl
    · rw [if_neg (fun e => hi (by have := e.1; omega)), if_neg hi]
theorem x_putR {idx ci j a f : Nat} {C : String} {q : Nat × Nat} (hg : GP Y.1.cls idx ci j false (.object C)) (hf : wfb ci + j = f) (ht : wty f = 1) (hc : wcls a = ci) (h0 : Γ 0 a ≠ 0) (hd : decode Y.2.1 pc = .ok (.putfield idx, 3))
    (k : Xe l Y d kc ks N (pc + 3) ls st kb sb Γ (sR δ f a q) r) : Xe l Y d kc ks N pc ls (.inr q :: .inr (0, a) :: st) kb sb Γ δ r := by
  refine Xe.put (Γ' := Γ) (δ' := sR δ f a q) hg hc h0 hd (fun h => by cases h) (fun μ => rfl) (fun μ => ?_) (fun _ _ _ h => h) (fun μ b hb g => ?_) rfl (fun g j hw => ?_) (fun μ i => ?_) k
  · show fits _ (if q.1 = 1 then Value.null else .ref (μ q.1 q.2)) = true
    split <;> rfl
  · rw [fv_sR ht, if_neg (fun e => hb e.2)]
  · unfold sR
    simp only
    rw [if_neg (fun e => by rw [e.1] at hw; omega)]
  · rw [fv_sR ht]
    by_cases hi : i = j
    · subst hi; rw [if_pos ⟨hf, rfl⟩, if_pos rfl]
    · rw [if_neg (fun e => hi (by have := e.1; omega)), if_neg hi]
/-- a row of numbers is read -/
theorem x_iald {f a : Nat} {i n : Int32} (hw : wty f = 3) (h0 : Γ f a ≠ 0) (hn : n.toInt = (wlen f a : Nat)) (hi : inb i n) (hd : decode Y.2.1 pc = .ok (.iaload, 1)) (k : Xe l Y d kc ks N (pc + 1) ls (.inl (δ.2.1 f a i) :: st) kb sb Γ δ r) : Xe l Y d kc ks N pc ls (.inl i :: .inr (f, a) :: st) kb sb Γ δ r := by
  intro p e s m args below meth c D K A μ0 μ H locs L X
  have kk := k p e s m args below meth c D K A μ0 μ H locs L X
  obtain ⟨⟨hx, hb, hr, hml, hown, hts, hlk, hnm, hK⟩, x2, x3, x4, x5, x6, x7, x8⟩ := X
  have hin := inb_vp hi hn
  have hlt : i.toNatClampNeg < wlen f a := Nat.not_le.mp fun q => hin (Or.inr q)
  show W p l e (rmO d kc ks) s m args below meth c H locs kb sb _ (F0 m pc L (.int i :: cv μ (.inr (f, a)) :: st.map (cv μ)))
  rw [cv_a (wty_ne1 (by omega))]
  refine W.iald (v := .int (δ.2.1 f a i)) hx hb (x5.2.1 f a hw h0) ((hK.2 0 _ rfl).1 _ _) (fun q => by cases q) (by rw [arrV_size]; exact hin) ?_ rfl rfl hd kk
  rw [arrV_read _ _ hlt, nI_clampI hin]
theorem x_zald {f a : Nat} {i n : Int32} (hw : wty f = 4) (h0 : Γ f a ≠ 0) (hn : n.toInt = (wlen f a : Nat)) (hi : inb i n) (hd : decode Y.2.1 pc = .ok (.baload, 1)) (k : Xe l Y d kc ks N (pc + 1) ls (.inl (δ.2.1 f a i) :: st) kb sb Γ δ r) : Xe l Y d kc ks N pc ls (.inl i :: .inr (f, a) :: st) kb sb Γ δ r := by
  intro p e s m args below meth c D K A μ0 μ H locs L X
  have kk := k p e s m args below meth c D K A μ0 μ H locs L X
  obtain ⟨⟨hx, hb, hr, hml, hown, hts, hlk, hnm, hK⟩, x2, x3, x4, x5, x6, x7, x8⟩ := X
  have hin := inb_vp hi hn
  have hlt : i.toNatClampNeg < wlen f a := Nat.not_le.mp fun q => hin (Or.inr q)
  show W p l e (rmO d kc ks) s m args below meth c H locs kb sb _ (F0 m pc L (.int i :: cv μ (.inr (f, a)) :: st.map (cv μ)))
  rw [cv_a (wty_ne1 (by omega))]
  refine W.zald (v := .int (δ.2.1 f a i)) hx hb (x5.2.2.1 f a hw h0) ((hK.2 1 _ rfl).1 _ _) (fun q => by cases q) (by rw [arrV_size]; exact hin) ?_ rfl rfl hd kk
  rw [arrV_read _ _ hlt, nI_clampI hin]
theorem arrV_extA {cI n : Nat} {f g : Nat → Value} (h : ∀ j, j < n → f j = g j) : arrV cI n f = arrV cI n g := by
  unfold arrV
  congr 1
  apply Array.ext
  · simp
  · intro j h1 h2
    simp only [Array.getElem_ofFn]
    exact h j (by simpa using h1)
theorem arr_upd {cI n : Nat} {g : Int32 → Int32} {i v : Int32} {k : Nat} (hin : vp_in i k) (hk : n ≤ 2 ^ 31) (hkn : k = n) : (arrV cI n (fun j => .int (g (nI j)))).setSlot i.toNatClampNeg (.int v) = arrV cI n (fun j => .int ((fun x => if x = i then v else g x) (nI j))) := by
  subst hkn
  have hlt : i.toNatClampNeg < k := Nat.not_le.mp fun q => hin (Or.inr q)
  rw [arrV_store]
  apply arrV_extA
  intro j hj
  show (if j = i.toNatClampNeg then Value.int v else .int (g (nI j))) = .int (if nI j = i then v else g (nI j))
  by_cases h : j = i.toNatClampNeg
  · rw [if_pos h, if_pos (by rw [h]; exact nI_clampI hin)]
  · rw [if_neg h, if_neg (fun e => h (nI_inj (by omega) (by omega) (e.trans (nI_clampI hin).symm)))]
theorem x_iast {f a : Nat} {i n v : Int32} (hw : wty f = 3) (h0 : Γ f a ≠ 0) (hn : n.toInt = (wlen f a : Nat)) (hi : inb i n) (hd : decode Y.2.1 pc = .ok (.iastore, 1)) (k : Xe l Y d kc ks N (pc + 1) ls st kb sb Γ (sA δ f a i v) r) : Xe l Y d kc ks N pc ls (.inl v :: .inl i :: .inr (f, a) :: st) kb sb Γ δ r := by
  intro p e s m args below meth c D K A μ0 μ H locs L X
  obtain ⟨x1, x2, x3, x4, x5, x6, x7, x8⟩ := X
  obtain ⟨hx, hb, hr, hml, hown, hts, hlk, hnm, hK⟩ := id x1
  have hin := inb_vp hi hn
  have hnb := Int32.toInt_lt n
  show W p l e (rmO d kc ks) s m args below meth c H locs kb sb _ (F0 m pc L (.int v :: .int i :: cv μ (.inr (f, a)) :: st.map (cv μ)))
  rw [cv_a (wty_ne1 (by omega))]
  refine W.iast hx hb (x5.2.1 f a hw h0) ((hK.2 0 _ rfl).1 _ _) (fun q => by cases q) (by rw [arrV_size]; exact hin) rfl rfl hd fun H1 e1 z oq => ?_
  rw [arr_upd hin (by omega) rfl] at e1
  exact k p e s m args below meth c D K A μ0 μ H1 _ L ⟨x1, x2, x3, x4, x5.putA (Or.inl hw) ⟨fun _ => rfl, fun h => by omega⟩ h0 e1 oq, x6, x7.put z oq (x6 f a ⟨by omega, h0⟩), x8⟩
theorem x_zast {f a : Nat} {i n v : Int32} (hw : wty f = 4) (h0 : Γ f a ≠ 0) (hn : n.toInt = (wlen f a : Nat)) (hi : inb i n) (hd : decode Y.2.1 pc = .ok (.bastore, 1)) (k : Xe l Y d kc ks N (pc + 1) ls st kb sb Γ (sA δ f a i (v &&& 1)) r) : Xe l Y d kc ks N pc ls (.inl v :: .inl i :: .inr (f, a) :: st) kb sb Γ δ r := by
  intro p e s m args below meth c D K A μ0 μ H locs L X
  obtain ⟨x1, x2, x3, x4, x5, x6, x7, x8⟩ := X
  obtain ⟨hx, hb, hr, hml, hown, hts, hlk, hnm, hK⟩ := id x1
  have hin := inb_vp hi hn
  have hnb := Int32.toInt_lt n
  show W p l e (rmO d kc ks) s m args below meth c H locs kb sb _ (F0 m pc L (.int v :: .int i :: cv μ (.inr (f, a)) :: st.map (cv μ)))
  rw [cv_a (wty_ne1 (by omega))]
  refine W.zast hx hb (x5.2.2.1 f a hw h0) ((hK.2 1 _ rfl).1 _ _) (fun q => by cases q) (by rw [arrV_size]; exact hin) rfl rfl hd fun H1 e1 z oq => ?_
  rw [show narrow .boolean (.int v) = .int (v &&& 1) from rfl, arr_upd hin (by omega) rfl] at e1
  exact k p e s m args below meth c D K A μ0 μ H1 _ L ⟨x1, x2, x3, x4, x5.putA (Or.inr hw) ⟨fun h => by omega, fun _ => rfl⟩ h0 e1 oq, x6, x7.put z oq (x6 f a ⟨by omega, h0⟩), x8⟩
theorem x_alen {f a : Nat} {n : Int32} (hw : wty f = 3 ∨ wty f = 4 ∨ wty f = 5) (h0 : Γ f a ≠ 0) (hn : Int32.ofNat (wlen f a) = n) (hd : decode Y.2.1 pc = .ok (.arraylength, 1)) (k : Xe l Y d kc ks N (pc + 1) ls (.inl n :: st) kb sb Γ δ r) : Xe l Y d kc ks N pc ls (.inr (f, a) :: st) kb sb Γ δ r := by
  intro p e s m args below meth c D K A μ0 μ H locs L X
  have kk := k p e s m args below meth c D K A μ0 μ H locs L X
  obtain ⟨⟨hx, hb, hr, hml, hown, hts, hlk, hnm, hK⟩, x2, x3, x4, x5, x6, x7, x8⟩ := X
  show W p l e (rmO d kc ks) s m args below meth c H locs kb sb _ (F0 m pc L (cv μ (.inr (f, a)) :: st.map (cv μ)))
  rw [cv_a (wty_ne1 (by omega))]
  rcases hw with hw | hw | hw
  · exact W.alen hx hb (x5.2.1 f a hw h0) ((hK.2 0 _ rfl).1 _ _) (by rw [arrV_size]; exact hn) rfl rfl hd kk
  · exact W.alen hx hb (x5.2.2.1 f a hw h0) ((hK.2 1 _ rfl).1 _ _) (by rw [arrV_size]; exact hn) rfl rfl hd kk
  · exact W.alen hx hb (x5.2.2.2.1 f a hw h0) ((hK.2 2 _ rfl).1 _ _) (by rw [arrV_size]; exact hn) rfl rfl hd kk
theorem x_aald {f a : Nat} {i n : Int32} (hw : wty f = 5) (h0 : Γ f a ≠ 0) (hn : n.toInt = (wlen f a : Nat)) (hi : inb i n) (hd : decode Y.2.1 pc = .ok (.aaload, 1)) (k : Xe l Y d kc ks N (pc + 1) ls (.inr (δ.2.2 f i.toNatClampNeg) :: st) kb sb Γ δ r) : Xe l Y d kc ks N pc ls (.inl i :: .inr (f, a) :: st) kb sb Γ δ r := by
  intro p e s m args below meth c D K A μ0 μ H locs L X
  have kk := k p e s m args below meth c D K A μ0 μ H locs L X
  obtain ⟨⟨hx, hb, hr, hml, hown, hts, hlk, hnm, hK⟩, x2, x3, x4, x5, x6, x7, x8⟩ := X
  have hin := inb_vp hi hn
  have hlt : i.toNatClampNeg < wlen f a := Nat.not_le.mp fun q => hin (Or.inr q)
  show W p l e (rmO d kc ks) s m args below meth c H locs kb sb _ (F0 m pc L (.int i :: cv μ (.inr (f, a)) :: st.map (cv μ)))
  rw [cv_a (wty_ne1 (by omega))]
  refine W.aald (v := cv μ (.inr (δ.2.2 f i.toNatClampNeg))) hx hb (x5.2.2.2.1 f a hw h0) ((hK.2 2 _ rfl).1 _ _) rfl (fun q => by cases q) (by rw [arrV_size]; exact hin) ?_ rfl rfl hd kk
  rw [arrV_read _ _ hlt]
/-- the ends -/
theorem Qr.at {D : va_G} {K : Kd} {A : Nat → Prop} {μ0 μ : Gm} {args : Array Value} {s t : State} {H : Heap} {locs : List Loc} {v : Option AV} (x3 : ∀ f a, ¬ N f a → μ f a = μ0 f a) (x5 : HP D K μ Γ δ H) (x6 : ∀ f a, lv Γ f a → A (μ f a)) (x7 : va_S A s.heap H locs) (ht : t.heap = H) : Qr D K N A μ0 (v, Γ, δ) args s (.returned (v.map (cv μ))) t :=
  ⟨⟨μ, rfl, x3, by rw [ht]; exact x5, x6⟩, x7.F ht⟩
theorem x_iret {v : Int32} (hr : Y.2.2.2 = some .int) (hd : decode Y.2.1 pc = .ok (.ireturn, 1)) (hk : kb ≤ kc) (hs : sb ≤ ks) : Xe l Y d kc ks N pc ls [.inl v] kb sb Γ δ (some (.inl v), Γ, δ) := by
  intro p e s m args below meth c D K A μ0 μ H locs L X
  obtain ⟨⟨hx, hb, hre, hml, hown, hts, hlk, hnm, hK⟩, x2, x3, x4, x5, x6, x7, x8⟩ := X
  exact W.widen hk hs (W.iret hx hb (hre.trans hr) (fun t ht hW => Qr.at (v := some (.inl v)) x3 x5 x6 x7 ht) x7.2.2 hd hlk)
theorem x_nret {v : Int32} {ty : FieldType} (hr : Y.2.2.2 = some ty) (hn : narrow ty (.int v) = .int v) (hd : decode Y.2.1 pc = .ok (.ireturn, 1)) (hk : kb ≤ kc) (hs : sb ≤ ks) : Xe l Y d kc ks N pc ls [.inl v] kb sb Γ δ (some (.inl v), Γ, δ) := by
  intro p e s m args below meth c D K A μ0 μ H locs L X
  obtain ⟨⟨hx, hb, hre, hml, hown, hts, hlk, hnm, hK⟩, x2, x3, x4, x5, x6, x7, x8⟩ := X
  exact W.widen hk hs (W.zret hx hb (hre.trans hr) hn (fun t ht hW => Qr.at (v := some (.inl v)) x3 x5 x6 x7 ht) x7.2.2 hd hlk)
theorem x_vret (hr : Y.2.2.2 = none) (hd : decode Y.2.1 pc = .ok (.return_, 1)) (hk : kb ≤ kc) (hs : sb ≤ ks) : Xe l Y d kc ks N pc ls [] kb sb Γ δ (none, Γ, δ) := by
  intro p e s m args below meth c D K A μ0 μ H locs L X
  obtain ⟨⟨hx, hb, hre, hml, hown, hts, hlk, hnm, hK⟩, x2, x3, x4, x5, x6, x7, x8⟩ := X
  exact W.widen hk hs (W.vret hx hb (hre.trans hr) (fun t ht hW => Qr.at (v := none) x3 x5 x6 x7 ht) x7.2.2 hd hlk)
theorem x_aret {q : Nat × Nat} {C : String} (hr : Y.2.2.2 = some (.object C)) (hd : decode Y.2.1 pc = .ok (.areturn, 1)) (hk : kb ≤ kc) (hs : sb ≤ ks) : Xe l Y d kc ks N pc ls [.inr q] kb sb Γ δ (some (.inr q), Γ, δ) := by
  intro p e s m args below meth c D K A μ0 μ H locs L X
  obtain ⟨⟨hx, hb, hre, hml, hown, hts, hlk, hnm, hK⟩, x2, x3, x4, x5, x6, x7, x8⟩ := X
  refine W.widen hk hs (W.aret (v := cv μ (.inr q)) hx hb (hre.trans hr) (Or.inl ⟨_, rfl⟩) ?_ (fun t ht hW => Qr.at (v := some (.inr q)) x3 x5 x6 x7 ht) x7.2.2 hd hlk)
  show (if q.1 = 1 then Value.null else .ref (μ q.1 q.2)) = .null ∨ ∃ a, (if q.1 = 1 then Value.null else .ref (μ q.1 q.2)) = .ref a
  split
  · exact Or.inl rfl
  · exact Or.inr ⟨_, rfl⟩
end XH
/-- which cells a method may change -/
def AA (μ Γ : Gm) (sz : Nat) : Nat → Prop := fun q => (∃ f a, lv Γ f a ∧ μ f a = q) ∨ sz ≤ q
/-- the contract: as, Γ, δ in; r out -/
def Ct (l : Launch) (Y : MM) (d kc ks : Nat) (N : Nat → Nat → Prop) (as : List AV) (Γ : Gm) (δ : Dl) (r : Rs) : Prop :=
  ∀ (D : va_G) (K : Kd) (μ : Gm) (sz : Nat), Met l Y.1 (wY Y) (rmO d kc ks) (va_Pc (as.map (cv μ)) (fun U => U.heap.size = sz ∧ HP D K μ Γ δ U.heap ∧ va_K D vwCl (tysK K) U ∧ SPx μ (AA μ Γ sz) U U.heap)) (Qr D K N (AA μ Γ sz) μ r) kc ks (AA μ Γ sz)
theorem sl_cv (μ : Gm) (as : List AV) : lg_sl (as.map (cv μ)) = as.map (fun v => Slot.val (cv μ v)) := by
  induction as with
  | nil => rfl
  | cons a t ih =>
    have : lg_sl ((a :: t).map (cv μ)) = (if (cv μ a).category = 2 then [Slot.val (cv μ a), .second] else [.val (cv μ a)]) ++ lg_sl (t.map (cv μ)) := by simp [lg_sl]
    rw [this, ih, if_neg (by rw [cv_cat]; decide)]
    rfl
theorem args_cv (μ : Gm) (as : List AV) : ∀ (k i : Nat) (v : AV), as[i]? = some v → (k + i, cv μ v) ∈ lv_args k (as.map (cv μ)) := by
  induction as with
  | nil => intro k i v h; simp at h
  | cons a t ih =>
    intro k i v h
    show (k + i, cv μ v) ∈ (k, cv μ a) :: lv_args (if (cv μ a).category = 2 then k + 2 else k + 1) (t.map (cv μ))
    rw [if_neg (by rw [cv_cat]; decide)]
    cases i with
    | zero =>
      have : a = v := by simpa using h
      subst this
      exact List.mem_cons_self
    | succ i =>
      have := ih (k + 1) i v (by simpa using h)
      rw [show k + (i + 1) = k + 1 + i by omega]
      exact List.mem_cons_of_mem _ this
theorem Ct.of {l : Launch} {Y : MM} {d kc ks : Nat} {N : Nat → Nat → Prop} {as : List AV} {Γ : Gm} {δ : Dl} {r : Rs} {ls : List (Option AV)} (hp : plainFor Y.1 = true) (hln : as.length ≤ Y.2.2.1) (hls : ∀ (i : Nat) (v : AV), ls[i]? = some (some v) → as[i]? = some v)
    (k : Xe l Y d kc ks N 0 ls [] 0 0 Γ δ r) : Ct l Y d kc ks N as Γ δ r := by
  intro D K μ sz
  refine va_MetF (cc := Y.2.1) (maxL := Y.2.2.1) (ret := Y.2.2.2) hp rfl ?_
  intro p e s m args below meth c s₁ B hml hv
  obtain ⟨rfl, hsz, hP, hK, hSP⟩ := hv
  subst hsz
  have hts := atoms_spec (ws := wY Y) B.pre
  have hl := lv_entry (as.map (cv μ)) (n := Y.2.2.1) (by rw [sl_cv]; simpa using hln)
  rw [lg_entry_eq]
  generalize (lg_sl (as.map (cv μ)) ++ List.replicate (Y.2.2.1 - (lg_sl (as.map (cv μ))).length) Slot.unset).toArray = L at hl ⊢
  exact k p e s m _ below meth c D K _ μ μ s.heap [] L ⟨⟨B.exec, B.bytes, B.returns, hml, findClass_of_methodNamed B.named, fun w h => hts w (List.mem_cons_of_mem _ h), B.notSynchronized, (name_of_methodNamed B.named B.method).1, hK⟩, fun q h => Or.inr h, fun _ _ _ => rfl, hSP, hP, fun f a h => Or.inl ⟨f, a, h, rfl⟩, va_S.rf, hl.1, hl.2.1, fun i v h => hl.2.2 (i, cv μ v) (by have := args_cv μ as 0 i v (hls i v h); rwa [Nat.zero_add] at this)⟩
