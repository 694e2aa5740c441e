/-! the one row of objects; what the constructors' walks name -/
theorem wty5 (f : Nat) (h5 : wty f = 5) : f = 93 := by
  by_cases h : f < 192
  · exact (by decide +kernel : ∀ f, f < 192 → wty f = 5 → f = 93) f h h5
  · have : wty f = 0 := by
      unfold wty
      rw [List.getD_eq_getElem?_getD, List.getElem?_eq_none (by have : wtyL.length = 192 := by decide +kernel
                                                                omega)]
      rfl
    omega
theorem fv_5 {μ Γ : Gm} {δ : Dl} {f a : Nat} (h : wty f = 5) : fv μ Γ δ f a = if Γ f a = 2 then .ref (μ f a) else .null := by
  unfold fv
  rw [if_neg (by omega), if_neg (by omega), if_neg (by omega)]
def qD (δ : Dl) (f : Nat) : Dl := (δ.1, δ.2.1, fun g a => if g = f then (1, 0) else δ.2.2 g a)
theorem HP.newQ {D : va_G} {K : Kd} {μ Γ : Gm} {δ : Dl} {H H' : Heap} (h : HP D K μ Γ δ H) {f b : Nat} (hw : wty f = 5) (ho : ∀ q, q < H.size → H'[q]? = H[q]?) (h0 : ∀ a, Γ f a = 0)
    (hc : H'[H.size]? = some (arrV K.2.2 (wlen f b) (fun _ => .null))) (hR : ∀ g a, (δ.2.2 g a).1 ≤ 1) : HP D K (sG μ f b H.size) (sG Γ f b 1) (qD δ f) H' := by
  have hlt : ∀ f a, lv Γ f a → μ f a < H.size := fun f a => h.lt
  have hf : f = 93 := wty5 f hw
  obtain ⟨h1, h2, h3, h4, h6⟩ := h
  have hcv : ∀ g a, cv (sG μ f b H.size) (.inr (δ.2.2 g a)) = cv μ (.inr (δ.2.2 g a)) := by
    intro g a
    show (if (δ.2.2 g a).1 = 1 then Value.null else .ref (sG μ f b H.size (δ.2.2 g a).1 (δ.2.2 g a).2)) = if (δ.2.2 g a).1 = 1 then Value.null else .ref (μ (δ.2.2 g a).1 (δ.2.2 g a).2)
    rw [sG_ne (fun e => by have := hR g a; omega)]
  have hμ : ∀ g a, ¬ (g = f ∧ a = b) → sG μ f b H.size g a = μ g a := fun g a hn => sG_ne hn
  have hΓ : ∀ g a, ¬ (g = f ∧ a = b) → sG Γ f b 1 g a = Γ g a := fun g a hn => sG_ne hn
  have hself : sG μ f b H.size f b = H.size := by unfold sG; rw [if_pos ⟨rfl, rfl⟩]
  have hr : ∀ g a, g ≠ f → (qD δ f).2.2 g a = δ.2.2 g a := fun g a hn => by show (if _ then _ else _) = _; rw [if_neg hn]
  refine ⟨fun a ha => ?_, fun g a w ha => ?_, fun g a w ha => ?_, fun g a w ha => ?_, fun g a g' e x1 x2 he => ?_⟩
  · have n0 : ¬ (0 = f ∧ a = b) := by omega
    rw [hΓ 0 a n0] at ha
    obtain ⟨r, r1, r2⟩ := h1 a ha
    refine ⟨r, r1, ?_⟩
    rw [hμ 0 a n0]
    refine (t_OB.kept r2 (ho _ (hlt 0 a ⟨by rw [wty0]; decide, ha⟩))).to (fun j hj => ?_)
    generalize wfb (wcls a) + j = g
    show fv μ Γ δ g a = fv (sG μ f b H.size) (sG Γ f b 1) (qD δ f) g a
    by_cases hg : g = f
    · subst hg
      have e0 : sG Γ g b 1 g a ≠ 2 := by
        unfold sG
        split
        · decide
        · rw [h0 a]; decide
      have e1 : Γ g a ≠ 2 := by rw [h0 a]; decide
      rw [fv_5 hw, fv_5 hw, if_neg e1, if_neg e0]
    · have hn : ¬ (g = f ∧ a = b) := fun e => hg e.1
      unfold fv
      rw [hr g a hg, hcv, hμ 0 (wsr g a) (by omega), hΓ g a hn, hμ g a hn]
      rfl
  · have hn : ¬ (g = f ∧ a = b) := fun e => by rw [e.1] at w; omega
    rw [hΓ g a hn] at ha
    rw [hμ g a hn, ho _ (hlt g a ⟨by omega, ha⟩)]
    exact h2 g a w ha
  · have hn : ¬ (g = f ∧ a = b) := fun e => by rw [e.1] at w; omega
    rw [hΓ g a hn] at ha
    rw [hμ g a hn, ho _ (hlt g a ⟨by omega, ha⟩)]
    exact h3 g a w ha
  · have hg : g = f := by rw [hf]; exact wty5 g w
    subst hg
    by_cases hab : a = b
    · subst hab
      rw [hself, hc]
      have : (fun j => cv (sG μ g a H.size) (.inr ((qD δ g).2.2 g j))) = fun _ => Value.null := by
        funext j
        have : (qD δ g).2.2 g j = (1, 0) := by show (if _ then _ else _) = _; rw [if_pos rfl]
        rw [this]; rfl
      rw [this]
    · rw [hΓ g a (fun e => hab e.2)] at ha
      exact absurd (h0 a) ha
  · have old : ∀ g a, lv (sG Γ f b 1) g a → ¬ (g = f ∧ a = b) → lv Γ g a := fun g a hl hn => ⟨hl.1, by rw [← hΓ g a hn]; exact hl.2⟩
    by_cases n1 : g = f ∧ a = b
    · by_cases n2 : g' = f ∧ e = b
      · exact ⟨n1.1.trans n2.1.symm, n1.2.trans n2.2.symm⟩
      · have := hlt g' e (old g' e x2 n2)
        rw [hμ g' e n2] at he
        have e0 : sG μ f b H.size g a = H.size := by unfold sG; rw [if_pos n1]
        omega
    · by_cases n2 : g' = f ∧ e = b
      · have := hlt g a (old g a x1 n1)
        rw [hμ g a n1] at he
        have e0 : sG μ f b H.size g' e = H.size := by unfold sG; rw [if_pos n2]
        omega
      · rw [hμ g a n1, hμ g' e n2] at he
        exact h6 g a g' e (old g a x1 n1) (old g' e x2 n2) he
theorem HP.putQ {D : va_G} {K : Kd} {μ Γ : Gm} {δ : Dl} {H H' : Heap} (h : HP D K μ Γ δ H) {f b k : Nat} {q : Nat × Nat} (hw : wty f = 5) (h0 : Γ f b ≠ 0) (h5 : ∀ a, Γ f a ≠ 0 → a = b)
    (hc : H'[μ f b]? = some (arrV K.2.2 (wlen f b) (fun j => cv μ (.inr ((sR δ f k q).2.2 f j))))) (ho : ∀ x, x ≠ μ f b → H'[x]? = H[x]?) : HP D K μ Γ (sR δ f k q) H' := by
  obtain ⟨h1, h2, h3, h4, h6⟩ := h
  have ne : ∀ g a, lv Γ g a → ¬ (g = f ∧ a = b) → μ g a ≠ μ f b := fun g a l1 hn e => hn (h6 g a f b l1 ⟨by omega, h0⟩ e)
  have hr : ∀ g a, g ≠ f → (sR δ f k q).2.2 g a = δ.2.2 g a := fun g a hn => by show (if _ then _ else _) = _; rw [if_neg (fun e => hn e.1)]
  refine ⟨fun a ha => ?_, fun g a w ha => ?_, fun g a w ha => ?_, fun g a w ha => ?_, h6⟩
  · obtain ⟨r, r1, r2⟩ := h1 a ha
    refine ⟨r, r1, (t_OB.kept r2 (ho _ (ne 0 a ⟨by rw [wty0]; decide, ha⟩ (fun e => by have := wty0; rw [e.1] at this; omega)))).to (fun j hj => ?_)⟩
    generalize wfb (wcls a) + j = g
    show fv μ Γ δ g a = fv μ Γ (sR δ f k q) g a
    by_cases hg : g = f
    · subst hg
      rw [fv_5 hw, fv_5 hw]
    · unfold fv
      rw [hr g a hg]; rfl
  · rw [ho _ (ne g a ⟨by omega, ha⟩ (fun e => by rw [e.1] at w; omega))]
    exact h2 g a w ha
  · rw [ho _ (ne g a ⟨by omega, ha⟩ (fun e => by rw [e.1] at w; omega))]
    exact h3 g a w ha
  · have hg : g = f := (wty5 g w).trans (wty5 f hw).symm
    subst hg
    have := h5 a ha
    subst this
    exact hc
/-- the rows of the object a that L names are made and stored -/
def gU (Γ : Gm) (a : Nat) (L : List Nat) : Gm := fun g b => if b = a ∧ L.contains g = true then 2 else Γ g b
theorem gU_nil {Γ : Gm} {a : Nat} : gU Γ a [] = Γ := by funext g b; unfold gU; rw [if_neg (fun e => by cases e.2)]
theorem gU_ne {Γ : Gm} {a f b : Nat} {L : List Nat} (h : L.contains f = false) : gU Γ a L f b = Γ f b := by unfold gU; rw [if_neg (fun e => by rw [h] at e; cases e.2)]
theorem gU_cons {Γ : Gm} {a f : Nat} {L : List Nat} : sG (sG (gU Γ a L) f a 1) f a 2 = gU Γ a (f :: L) := by
  funext g b
  unfold sG gU
  by_cases hb : b = a
  · by_cases hg : g = f
    · subst hg; subst hb
      simp
    · simp [hb, hg]
  · simp [hb]
theorem gU_cons2 {Γ : Gm} {a f : Nat} {L : List Nat} : sG (gU Γ a L) f a 2 = gU Γ a (f :: L) := by
  funext g b
  unfold sG gU
  by_cases hb : b = a
  · by_cases hg : g = f
    · subst hg; subst hb
      simp
    · simp [hb, hg]
  · simp [hb]
theorem sG_self {Γ : Gm} {f a n : Nat} : sG Γ f a n f a = n := by unfold sG; rw [if_pos ⟨rfl, rfl⟩]
/-- the references that are about -/
def RI (δ : Dl) (S : List (Nat × Nat)) : Prop := ∀ f a, δ.2.2 f a = (1, 0) ∨ δ.2.2 f a ∈ S
theorem RI.ne {δ : Dl} {S : List (Nat × Nat)} (h : RI δ S) {b : Nat} (hb : S.contains (0, b) = false) (f a : Nat) : δ.2.2 f a ≠ (0, b) := by
  intro e
  rcases h f a with q | q
  · rw [e] at q; cases q
  · rw [e] at q
    rw [List.contains_iff_mem.mpr q] at hb
    cases hb
theorem RI.le {δ : Dl} {S : List (Nat × Nat)} (h : RI δ S) (hS : S.all (fun q => decide (q.1 ≤ 1)) = true) (f a : Nat) : (δ.2.2 f a).1 ≤ 1 := by
  rcases h f a with q | q
  · rw [q]; exact Nat.le_refl 1
  · exact of_decide_eq_true (List.all_eq_true.mp hS _ q)
theorem RI.nD {δ : Dl} {S : List (Nat × Nat)} (h : RI δ S) {b ci n : Nat} : RI (nD δ b ci n) S := by
  intro f a
  show (if _ then _ else _) = _ ∨ (if _ then _ else _) ∈ S
  split
  · exact Or.inl rfl
  · exact h f a
theorem RI.qD {δ : Dl} {S : List (Nat × Nat)} (h : RI δ S) {g : Nat} : RI (qD δ g) S := by
  intro f a
  show (if _ then _ else _) = _ ∨ (if _ then _ else _) ∈ S
  split
  · exact Or.inl rfl
  · exact h f a
theorem RI.sR {δ : Dl} {S : List (Nat × Nat)} (h : RI δ S) {g b : Nat} {q : Nat × Nat} : RI (sR δ g b q) (q :: S) := by
  intro f a
  show (if _ then _ else _) = _ ∨ (if _ then _ else _) ∈ q :: S
  split
  · exact Or.inr List.mem_cons_self
  · rcases h f a with e | e
    · exact Or.inl e
    · exact Or.inr (List.mem_cons_of_mem _ e)
theorem RI.of {δ δ' : Dl} {S : List (Nat × Nat)} (h : RI δ S) (e : δ'.2.2 = δ.2.2) : RI δ' S := fun f a => by rw [e]; exact h f a
def NL (L : List (Nat × Nat)) : Nat → Nat → Prop := fun f a => (f, a) ∈ L
section XQ
variable {l : Launch} {Y : MM} {d kc ks : Nat} {N : Nat → Nat → Prop} {pc : Nat} {ls : List (Option AV)} {st : List AV} {kb sb : Nat} {Γ : Gm} {δ : Dl} {r : Rs}
theorem Xe.cΓ {Γ' : Gm} (e : Γ = Γ') (k : Xe l Y d kc ks N pc ls st kb sb Γ' δ r) : Xe l Y d kc ks N pc ls st kb sb Γ δ r := by rw [e]; exact k
theorem x_anew {idx f b : Nat} {n : Int32} (hw : wty f = 5) (hn : ¬ n < 0) (hlen : n.toNatClampNeg = wlen f b) (hbig : wlen f b ≤ 100000) (h0 : ∀ a, Γ f a = 0) (hR : ∀ g a, (δ.2.2 g a).1 ≤ 1) (hN : N f b) (hl : ∀ v, some v ∈ ls → Un (fun g a => g = f ∧ a = b) v) (hs : ∀ v ∈ st, Un (fun g a => g = f ∧ a = b) v)
    (hcl : Cond.classLink Y.1.cls idx "BlockStage$Stage" ∈ lwg) (hkk : kb + 1 ≤ kc) (hss : sb + wlen f b ≤ ks) (hd : decode Y.2.1 pc = .ok (.anewarray idx, 3)) (k : Xe l Y d kc ks N (pc + 3) ls (.inr (f, b) :: st) (kb + 1) (sb + wlen f b) (sG Γ f b 1) (qD δ f) r) : Xe l Y d kc ks N pc ls (.inl n :: st) kb sb Γ δ r := by
  intro p e s m args below meth c D K A μ0 μ H locs L X
  obtain ⟨x1, x2, x3, x4, x5, x6, x7, x8⟩ := X
  obtain ⟨hx, hbb, hr, hml, hown, hts, hlk, hnm, hK⟩ := id x1
  have hg : ∀ g a, ¬ (g = f ∧ a = b) → sG μ f b H.size g a = μ g a := fun g a h => sG_ne h
  have hf : f = 93 := wty5 f hw
  have hf1 : ¬ f = 1 := by omega
  show W p l e (rmO d kc ks) s m args below meth c H locs kb sb _ (F0 m pc L (.int n :: st.map (cv μ)))
  refine W.anew hx hbb hown (hts _ hcl) (va_AO.use x4.2.2.2.2.2.2.2) rfl hd rfl hn (by rw [hlen]; exact Nat.le_trans (Nat.mul_le_mul hbig (Nat.le_refl 4)) (Nat.le_of_ble_eq_true rfl)) hkk (by rw [hlen]; exact hss) fun cA kA comp f1 f2 f3 f4 => ?_
  rw [hlen]
  generalize hH1 : H.push ({ cls := cA, slots := Array.replicate (wlen f b) .null, vm := .none } : Cell) = H1
  have z1 : H1.size = H.size + 1 := by rw [← hH1, Array.size_push]
  have e1 : H1[H.size]? = some (arrV cA (wlen f b) (fun _ => .null)) := by rw [← hH1, Array.getElem?_push_size, ← arrV_new]
  have o1 : ∀ q : Nat, q < H.size → H1[q]? = H[q]? := fun q hq => by rw [← hH1, Array.getElem?_push, if_neg (Nat.ne_of_lt hq)]
  have hcK : cA = K.2.2 := by
    obtain ⟨kA', comp', -, -, -, hz⟩ := (hK.2 2 _ rfl).2
    exact Option.some.inj (f1.symm.trans hz)
  subst hcK
  have es : st.map (cv μ) = st.map (cv (sG μ f b H.size)) := List.map_congr_left fun v hv => (Un.cv hg (hs v hv)).symm
  have kk := k p e s m args below meth c D K A μ0 (sG μ f b H.size) H1 locs L ⟨x1, x2, fun g a h => (hg g a (fun e => h (by rw [e.1, e.2]; exact hN))).trans (x3 g a h), x4.to (funext fun a => hg 2 a (by omega)) (funext fun a => hg 4 a (by omega)) (funext fun a => hg 5 a (by omega)) (funext fun a => hg 6 a (by omega)),
    x5.newQ hw (fun q hq => o1 q hq) h0 e1 hR, fun g a hla => ?_, ⟨Nat.le_trans x7.1 (by omega), fun q h1 h2 => (o1 q (Nat.lt_of_lt_of_le h1 x7.1)).trans (x7.2.1 q h1 h2), x7.2.2⟩, x8.to hg hl⟩
  · have ex : (.inr (f, b) :: st).map (cv (sG μ f b H.size)) = .ref H.size :: st.map (cv μ) := by
      rw [es]
      show cv _ (.inr (f, b)) :: _ = _
      rw [cv_a hf1, sG_self]
    rw [ex] at kk
    exact kk
  · by_cases hn : g = f ∧ a = b
    · rw [hn.1, hn.2, sG_self]
      exact x2 _ x7.1
    · rw [hg g a hn]
      exact x6 g a ⟨hla.1, fun h => hla.2 (by rw [sG_ne hn]; exact h)⟩
theorem x_aast {f b c0 : Nat} {i n : Int32} (hw : wty f = 5) (h0 : Γ f b ≠ 0) (h5 : ∀ a, Γ f a ≠ 0 → a = b) (hc0 : wcls c0 = 9) (hg0 : Γ 0 c0 ≠ 0) (hn : n.toInt = (wlen f b : Nat)) (hi : inb i n) (hd : decode Y.2.1 pc = .ok (.aastore, 1)) (k : Xe l Y d kc ks N (pc + 1) ls st kb sb Γ (sR δ f i.toNatClampNeg (0, c0)) r) : Xe l Y d kc ks N pc ls (.inr (0, c0) :: .inl i :: .inr (f, b) :: st) kb sb Γ δ r := by
  intro p e s m args below meth c D K A μ0 μ H locs L X
  obtain ⟨x1, x2, x3, x4, x5, x6, x7, x8⟩ := X
  obtain ⟨hx, hbb, hr, hml, hown, hts, hlk, hnm, hK⟩ := id x1
  have hin := inb_vp hi hn
  have hlt : i.toNatClampNeg < wlen f b := Nat.not_le.mp fun q => hin (Or.inr q)
  have h00 : ¬ i < 0 := fun q => hin (Or.inl q)
  have hf : f = 93 := wty5 f hw
  show W p l e (rmO d kc ks) s m args below meth c H locs kb sb _ (F0 m pc L (.ref (μ 0 c0) :: .int i :: cv μ (.inr (f, b)) :: st.map (cv μ)))
  rw [cv_a (by omega)]
  have hcell := x5.2.2.2.1 f b hw h0
  obtain ⟨cellV, g1, g2, g3, -⟩ := x5.ob hg0 hc0 (C := RX9) (T := TX9) (n := 10) rfl
  have hcls := (hK.1 9 (RX9, TX9, 10) rfl).2
  obtain ⟨kA, comp, k1, k2, k3, -⟩ := (hK.2 2 _ rfl).2
  have hcomp : comp = D.1 9 := Option.some.inj (k3.symm.trans hcls.1)
  subst hcomp
  obtain ⟨kC, hkC, -⟩ := hcls.2
  refine W.aast hx hbb hcell (fun q h => by cases h) (fun h => by cases h) k1 k2 rfl hkC ⟨h00, by rw [arrV_size]; exact hlt⟩ g1 (fun q h => by rw [g3] at h; cases h) (by rw [g2]; exact hkC) (by rw [g2]; exact va_assign hcls) rfl rfl hd fun H1 e1 z oq => ?_
  refine k p e s m args below meth c D K A μ0 μ H1 _ L ⟨x1, x2, x3, x4, x5.putQ hw h0 h5 ?_ oq, x6, x7.put z oq (x6 f b ⟨by omega, h0⟩), x8⟩
  rw [e1, arrV_store]
  congr 1
  apply arrV_extA
  intro j hj
  show (if j = i.toNatClampNeg then Value.ref (μ 0 c0) else cv μ (.inr (δ.2.2 f j))) = cv μ (.inr (if f = f ∧ j = i.toNatClampNeg then (0, c0) else δ.2.2 f j))
  by_cases hj : j = i.toNatClampNeg
  · rw [if_pos hj, if_pos ⟨rfl, hj⟩]; rfl
  · rw [if_neg hj, if_neg (fun e => hj e.2)]
end XQ
