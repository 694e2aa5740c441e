/-! what is made: objects, rows, and how they come into their object's fields -/
/-- the fields of class number ci with n fields, of the object b -/
def inC (b ci n f a : Nat) : Prop := a = b ∧ wfb ci ≤ f ∧ f < wfb ci + n
def nG (Γ : Gm) (b ci n : Nat) : Gm := fun f a => if f = 0 ∧ a = b then 2 else if a = b ∧ wfb ci ≤ f ∧ f < wfb ci + n then (if wty f ≤ 1 then 2 else 0) else Γ f a
def nD (δ : Dl) (b ci n : Nat) : Dl := (fun f a => if a = b ∧ wfb ci ≤ f ∧ f < wfb ci + n then 0 else δ.1 f a, δ.2.1, fun f a => if a = b ∧ wfb ci ≤ f ∧ f < wfb ci + n then (1, 0) else δ.2.2 f a)
def aD (δ : Dl) (f b : Nat) : Dl := (δ.1, fun g a => if g = f ∧ a = b then (fun _ => 0) else δ.2.1 g a, δ.2.2)
theorem wty_le (f : Nat) : wty f ≤ 6 := by
  by_cases h : f < 192
  · exact (by decide +kernel : ∀ f, f < 192 → wty f ≤ 6) f h
  · have : wty f = 0 := by
      unfold wty
      rw [List.getD_eq_getElem?_getD, List.getElem?_eq_none (by have : wtyL.length = 192 := by decide +kernel
                                                                omega)]
      rfl
    omega
theorem wty_6 (f : Nat) (h6 : wty f = 6) : f = 0 := by
  by_cases h : f < 192
  · exact (by decide +kernel : ∀ f, f < 192 → wty f = 6 → f = 0) f h h6
  · have : wty f = 0 := by
      unfold wty
      rw [List.getD_eq_getElem?_getD, List.getElem?_eq_none (by have : wtyL.length = 192 := by decide +kernel
                                                                omega)]
      rfl
    omega
theorem HP.lt {D : va_G} {K : Kd} {μ Γ : Gm} {δ : Dl} {H : Heap} (h : HP D K μ Γ δ H) {f a : Nat} (hl : lv Γ f a) : μ f a < H.size := by
  obtain ⟨h1, h2, h3, h4, -⟩ := h
  have := wty_le f
  obtain ⟨w, g⟩ := hl
  have hc : wty f = 3 ∨ wty f = 4 ∨ wty f = 5 ∨ wty f = 6 := by omega
  rcases hc with e | e | e | e
  · exact (Array.getElem?_eq_some_iff.mp (h2 f a e g)).1
  · exact (Array.getElem?_eq_some_iff.mp (h3 f a e g)).1
  · exact (Array.getElem?_eq_some_iff.mp (h4 f a e g)).1
  · have := wty_6 f e
    subst this
    obtain ⟨r, -, cell, q, -⟩ := h1 a g
    exact (Array.getElem?_eq_some_iff.mp q).1
def defv (f : Nat) : Value := if wty f = 0 then .int 0 else .null
theorem HP.newO {D : va_G} {K : Kd} {μ Γ : Gm} {δ : Dl} {H H' : Heap} (h : HP D K μ Γ δ H) {b ci : Nat} {C : String} {T : u_T} {n : Nat} (hb : wcls b = ci) (hv : vwCl[ci]? = some (C, T, n)) (ho : ∀ q, q < H.size → H'[q]? = H[q]?)
    (hO : t_OB H.size (D.1 ci) n (D.2 ci) H' (fun j => defv (wfb ci + j))) (hfb : 0 < wfb ci) (hR : ∀ f a, δ.2.2 f a ≠ (0, b)) (hS : ∀ f a, wty f = 2 → Γ f a = 2 → wsr f a ≠ b) (h5 : ∀ f, wty f = 5 → wfb ci ≤ f → f < wfb ci + n → ∀ a, Γ f a = 0) :
    HP D K (sG μ 0 b H.size) (nG Γ b ci n) (nD δ b ci n) H' := by
  have hlt : ∀ f a, lv Γ f a → μ f a < H.size := fun f a => h.lt
  obtain ⟨h1, h2, h3, h4, h6⟩ := h
  have hcv : ∀ f a, cv (sG μ 0 b H.size) (.inr (δ.2.2 f a)) = cv μ (.inr (δ.2.2 f a)) := by
    intro f a
    show (if (δ.2.2 f a).1 = 1 then Value.null else .ref (sG μ 0 b H.size (δ.2.2 f a).1 (δ.2.2 f a).2)) = if (δ.2.2 f a).1 = 1 then Value.null else .ref (μ (δ.2.2 f a).1 (δ.2.2 f a).2)
    have : sG μ 0 b H.size (δ.2.2 f a).1 (δ.2.2 f a).2 = μ (δ.2.2 f a).1 (δ.2.2 f a).2 := by
      unfold sG
      rw [if_neg (fun e => hR f a (Prod.ext e.1 e.2))]
    rw [this]
  have hf0 : ∀ f, 3 ≤ wty f → wty f ≠ 6 → f ≠ 0 := fun f _ h6 e => h6 (by rw [e]; exact wty0)
  have hG : ∀ f a, 3 ≤ wty f → wty f ≠ 6 → nG Γ b ci n f a ≠ 0 → Γ f a ≠ 0 ∧ ¬ (a = b ∧ wfb ci ≤ f ∧ f < wfb ci + n) := by
    intro f a w w6 hg
    unfold nG at hg
    rw [if_neg (fun e => hf0 f w w6 e.1)] at hg
    by_cases hc : a = b ∧ wfb ci ≤ f ∧ f < wfb ci + n
    · rw [if_pos hc, if_neg (by omega)] at hg
      exact absurd rfl hg
    · rw [if_neg hc] at hg
      exact ⟨hg, hc⟩
  have hμ : ∀ f a, f ≠ 0 → sG μ 0 b H.size f a = μ f a := fun f a hf => by unfold sG; rw [if_neg (fun e => hf e.1)]
  refine ⟨fun a ha => ?_, fun f a w ha => ?_, fun f a w ha => ?_, fun f a w ha => ?_, fun f a g e x1 x2 he => ?_⟩
  · by_cases hab : a = b
    · subst hab
      rw [hb]
      refine ⟨_, hv, ?_⟩
      have e0 : sG μ 0 a H.size 0 a = H.size := by unfold sG; rw [if_pos ⟨rfl, rfl⟩]
      rw [e0]
      refine hO.to (fun j hj => ?_)
      have hin : a = a ∧ wfb ci ≤ wfb ci + j ∧ wfb ci + j < wfb ci + n := ⟨rfl, by omega, by omega⟩
      have hne : ¬ (wfb ci + j = 0 ∧ a = a) := by omega
      show defv (wfb ci + j) = fv _ _ _ (wfb ci + j) a
      unfold defv fv
      by_cases w0 : wty (wfb ci + j) = 0
      · rw [if_pos w0, if_pos w0]
        show Value.int 0 = .int (if a = a ∧ wfb ci ≤ wfb ci + j ∧ wfb ci + j < wfb ci + n then 0 else _)
        rw [if_pos hin]
      · rw [if_neg w0, if_neg w0]
        by_cases w1 : wty (wfb ci + j) = 1
        · rw [if_pos w1]
          show Value.null = cv _ (.inr (if a = a ∧ wfb ci ≤ wfb ci + j ∧ wfb ci + j < wfb ci + n then (1, 0) else _))
          rw [if_pos hin]
          rfl
        · have hg : nG Γ a ci n (wfb ci + j) a = 0 := by
            unfold nG
            rw [if_neg hne, if_pos hin, if_neg (by omega)]
          rw [if_neg w1, hg]
          split <;> rfl
    · have ha0 : Γ 0 a ≠ 0 := by
        unfold nG at ha
        rw [if_neg (fun e => hab e.2), if_neg (fun e => hab e.1)] at ha
        exact ha
      obtain ⟨r, r1, r2⟩ := h1 a ha0
      refine ⟨r, r1, ?_⟩
      have e0 : sG μ 0 b H.size 0 a = μ 0 a := by unfold sG; rw [if_neg (fun e => hab e.2)]
      rw [e0]
      refine (t_OB.kept r2 (ho _ (hlt 0 a ⟨by rw [wty0]; decide, ha0⟩))).to (fun j hj => ?_)
      generalize wfb (wcls a) + j = f
      have hg : nG Γ b ci n f a = Γ f a := by unfold nG; rw [if_neg (fun e => hab e.2), if_neg (fun e => hab e.1)]
      have hi : (nD δ b ci n).1 f a = δ.1 f a := by show (if _ then _ else _) = _; rw [if_neg (fun e => hab e.1)]
      have hr : (nD δ b ci n).2.2 f a = δ.2.2 f a := by show (if _ then _ else _) = _; rw [if_neg (fun e => hab e.1)]
      have hm : sG μ 0 b H.size f a = μ f a := by unfold sG; rw [if_neg (fun e => hab e.2)]
      unfold fv
      rw [hg, hi, hr, hcv, hm]
      by_cases w2 : wty f = 2
      · by_cases g2 : Γ f a = 2
        · have : sG μ 0 b H.size 0 (wsr f a) = μ 0 (wsr f a) := by unfold sG; rw [if_neg (fun e => hS f a w2 g2 e.2)]
          rw [this]
        · simp only [if_neg g2]
      · rw [if_neg w2, if_neg w2]
  · obtain ⟨g1, g2⟩ := hG f a (by omega) (by omega) ha
    rw [hμ f a (hf0 f (by omega) (by omega)), ho _ (hlt f a ⟨by omega, g1⟩)]
    exact h2 f a w g1
  · obtain ⟨g1, g2⟩ := hG f a (by omega) (by omega) ha
    rw [hμ f a (hf0 f (by omega) (by omega)), ho _ (hlt f a ⟨by omega, g1⟩)]
    exact h3 f a w g1
  · obtain ⟨g1, g2⟩ := hG f a (by omega) (by omega) ha
    rw [hμ f a (hf0 f (by omega) (by omega)), ho _ (hlt f a ⟨by omega, g1⟩), h4 f a w g1]
    have : (fun j => cv μ (.inr (δ.2.2 f j))) = (fun j => cv (sG μ 0 b H.size) (.inr ((nD δ b ci n).2.2 f j))) := by
      funext j
      have hr : (nD δ b ci n).2.2 f j = δ.2.2 f j := by
        show (if _ then _ else _) = _
        rw [if_neg (fun e => g1 (h5 f w e.2.1 e.2.2 a))]
      rw [hr, hcv]
    rw [this]
  · have old : ∀ f a, lv (nG Γ b ci n) f a → ¬ (f = 0 ∧ a = b) → lv Γ f a ∧ sG μ 0 b H.size f a = μ f a := by
      intro f a hl hn
      refine ⟨⟨hl.1, ?_⟩, by unfold sG; rw [if_neg hn]⟩
      by_cases w6 : wty f = 6
      · have hg := hl.2
        have e := wty_6 f w6
        subst e
        have hab : a ≠ b := fun e => hn ⟨rfl, e⟩
        unfold nG at hg
        rw [if_neg hn, if_neg (fun e => hab e.1)] at hg
        exact hg
      · exact (hG f a hl.1 w6 hl.2).1
    by_cases n1 : f = 0 ∧ a = b
    · by_cases n2 : g = 0 ∧ e = b
      · exact ⟨n1.1.trans n2.1.symm, n1.2.trans n2.2.symm⟩
      · obtain ⟨o1, o2⟩ := old g e x2 n2
        have := hlt g e o1
        rw [o2] at he
        have e0 : sG μ 0 b H.size f a = H.size := by unfold sG; rw [if_pos n1]
        omega
    · by_cases n2 : g = 0 ∧ e = b
      · obtain ⟨o1, o2⟩ := old f a x1 n1
        have := hlt f a o1
        rw [o2] at he
        have e0 : sG μ 0 b H.size g e = H.size := by unfold sG; rw [if_pos n2]
        omega
      · obtain ⟨o1, o2⟩ := old f a x1 n1
        obtain ⟨o3, o4⟩ := old g e x2 n2
        rw [o2, o4] at he
        exact h6 f a g e o1 o3 he
theorem HP.newA {D : va_G} {K : Kd} {μ Γ : Gm} {δ : Dl} {H H' : Heap} (h : HP D K μ Γ δ H) {f b cK : Nat} (hw : wty f = 3 ∨ wty f = 4) (hK : (wty f = 3 → cK = K.1) ∧ (wty f = 4 → cK = K.2.1)) (ho : ∀ q, q < H.size → H'[q]? = H[q]?) (h0 : Γ f b = 0)
    (hc : H'[H.size]? = some (arrV cK (wlen f b) (fun _ => .int 0))) (hR : ∀ g a, (δ.2.2 g a).1 ≤ 1) : HP D K (sG μ f b H.size) (sG Γ f b 1) (aD δ f b) H' := by
  have hlt : ∀ f a, lv Γ f a → μ f a < H.size := fun f a => h.lt
  have hf1 : 1 < f := by
    rcases Nat.lt_or_ge 1 f with q | q
    · exact q
    · have : f = 0 ∨ f = 1 := by omega
      rcases this with e | e
      · subst e; rw [wty0] at hw; omega
      · subst e; revert hw; decide +kernel
  obtain ⟨h1, h2, h3, h4, h6⟩ := h
  have hcv : ∀ g a, cv (sG μ f b H.size) (.inr (δ.2.2 g a)) = cv μ (.inr (δ.2.2 g a)) := by
    intro g a
    show (if (δ.2.2 g a).1 = 1 then Value.null else .ref (sG μ f b H.size (δ.2.2 g a).1 (δ.2.2 g a).2)) = if (δ.2.2 g a).1 = 1 then Value.null else .ref (μ (δ.2.2 g a).1 (δ.2.2 g a).2)
    have : sG μ f b H.size (δ.2.2 g a).1 (δ.2.2 g a).2 = μ (δ.2.2 g a).1 (δ.2.2 g a).2 := by
      unfold sG
      rw [if_neg (fun e => by have := hR g a; omega)]
    rw [this]
  have hμ : ∀ g a, ¬ (g = f ∧ a = b) → sG μ f b H.size g a = μ g a := fun g a hn => by unfold sG; rw [if_neg hn]
  have hΓ : ∀ g a, ¬ (g = f ∧ a = b) → sG Γ f b 1 g a = Γ g a := fun g a hn => by unfold sG; rw [if_neg hn]
  have hself : sG μ f b H.size f b = H.size := by unfold sG; rw [if_pos ⟨rfl, rfl⟩]
  have hrow : ∀ g a, ¬ (g = f ∧ a = b) → (aD δ f b).2.1 g a = δ.2.1 g a := fun g a hn => by show (if _ then _ else _) = _; rw [if_neg hn]
  have hrow0 : (aD δ f b).2.1 f b = fun _ => 0 := by show (if _ then _ else _) = _; rw [if_pos ⟨rfl, rfl⟩]
  refine ⟨fun a ha => ?_, fun g a w ha => ?_, fun g a w ha => ?_, fun g a w ha => ?_, fun g a g' e x1 x2 he => ?_⟩
  · have n0 : ¬ (0 = f ∧ a = b) := by omega
    rw [hΓ 0 a n0] at ha
    obtain ⟨r, r1, r2⟩ := h1 a ha
    refine ⟨r, r1, ?_⟩
    rw [hμ 0 a n0]
    refine (t_OB.kept r2 (ho _ (hlt 0 a ⟨by rw [wty0]; decide, ha⟩))).to (fun j hj => ?_)
    generalize wfb (wcls a) + j = g
    show fv μ Γ δ g a = fv (sG μ f b H.size) (sG Γ f b 1) (aD δ f b) g a
    unfold fv
    show _ = if wty g = 0 then Value.int (δ.1 g a) else if wty g = 1 then cv (sG μ f b H.size) (.inr (δ.2.2 g a)) else _
    rw [hcv, hμ 0 (wsr g a) (by omega)]
    by_cases hn : g = f ∧ a = b
    · obtain ⟨rfl, rfl⟩ := hn
      have e1 : sG Γ g a 1 g a = 1 := by unfold sG; rw [if_pos ⟨rfl, rfl⟩]
      rw [e1, h0, if_neg (by omega), if_neg (by omega), if_neg (by omega), if_neg (by decide), if_neg (by omega), if_neg (by omega), if_neg (by omega), if_neg (by decide)]
    · rw [hΓ g a hn, hμ g a hn]
  · by_cases hn : g = f ∧ a = b
    · obtain ⟨rfl, rfl⟩ := hn
      rw [hself, hc, hK.1 w, hrow0]
    · rw [hΓ g a hn] at ha
      rw [hμ g a hn, hrow g a hn, ho _ (hlt g a ⟨by omega, ha⟩)]
      exact h2 g a w ha
  · by_cases hn : g = f ∧ a = b
    · obtain ⟨rfl, rfl⟩ := hn
      rw [hself, hc, hK.2 w, hrow0]
    · rw [hΓ g a hn] at ha
      rw [hμ g a hn, hrow g a hn, ho _ (hlt g a ⟨by omega, ha⟩)]
      exact h3 g a w ha
  · have hn : ¬ (g = f ∧ a = b) := fun e => by rw [e.1] at w; omega
    rw [hΓ g a hn] at ha
    rw [hμ g a hn, ho _ (hlt g a ⟨by omega, ha⟩), h4 g a w ha]
    have : (fun j => cv μ (.inr (δ.2.2 g j))) = (fun j => cv (sG μ f b H.size) (.inr ((aD δ f b).2.2 g j))) := funext fun j => (hcv g j).symm
    rw [this]
  · have old : ∀ g a, lv (sG Γ f b 1) g a → ¬ (g = f ∧ a = b) → lv Γ g a := fun g a hl hn => ⟨hl.1, by rw [← hΓ g a hn]; exact hl.2⟩
    by_cases n1 : g = f ∧ a = b
    · by_cases n2 : g' = f ∧ e = b
      · exact ⟨n1.1.trans n2.1.symm, n1.2.trans n2.2.symm⟩
      · have := hlt g' e (old g' e x2 n2)
        rw [hμ g' e n2] at he
        have e0 : sG μ f b H.size g a = H.size := by unfold sG; rw [if_pos n1]
        omega
    · by_cases n2 : g' = f ∧ e = b
      · have := hlt g a (old g a x1 n1)
        rw [hμ g a n1] at he
        have e0 : sG μ f b H.size g' e = H.size := by unfold sG; rw [if_pos n2]
        omega
      · rw [hμ g a n1, hμ g' e n2] at he
        exact h6 g a g' e (old g a x1 n1) (old g' e x2 n2) he
theorem fv_Γ {μ Γ Γ' : Gm} {δ : Dl} {g b : Nat} (h : Γ' g b = Γ g b) : fv μ Γ' δ g b = fv μ Γ δ g b := by unfold fv; rw [h]
theorem sG_ne {Γ : Gm} {f a n g b : Nat} (h : ¬ (g = f ∧ b = a)) : sG Γ f a n g b = Γ g b := by unfold sG; rw [if_neg h]
section XA
variable {l : Launch} {Y : MM} {d kc ks : Nat} {N : Nat → Nat → Prop} {pc : Nat} {ls : List (Option AV)} {st : List AV} {kb sb : Nat} {Γ : Gm} {δ : Dl} {r : Rs}
def CN (own : String) (idx : Nat) (C : String) (n : Nat) : Prop := Cond.classLink own idx C ∈ lwg ∧ Cond.instantiable C n ∈ lwg ∧ Cond.initialized C ∈ lwg
theorem lsOk.to {μ μ' : Gm} {nL : Nat} {L : Array Slot} {N' : Nat → Nat → Prop} (h : lsOk μ nL ls L) (g : ∀ f a, ¬ N' f a → μ' f a = μ f a) (hl : ∀ v, some v ∈ ls → Un N' v) : lsOk μ' nL ls L :=
  ⟨h.1, h.2.1, fun i v hv => by rw [Un.cv g (hl v (List.mem_of_getElem? hv))]; exact h.2.2 i v hv⟩
theorem x_new {idx b ci n : Nat} {C : String} {T : u_T} {ty : Nat → FieldType} (hb : wcls b = ci) (hv : vwCl[ci]? = some (C, T, n)) (hty : ∀ k, k < n → parseFieldDescriptor (T k).2.2.1 = some (ty k)) (hdf : ∀ j, j < n → defaultValue (ty j) = defv (wfb ci + j)) (hwd : ∀ w ∈ u_ws C T n, w ∈ lwg) (hc : CN Y.1.cls idx C n) (hfb : 0 < wfb ci)
    (hR : ∀ f a, δ.2.2 f a ≠ (0, b)) (hS : ∀ f a, wty f = 2 → Γ f a = 2 → wsr f a ≠ b) (h5 : ∀ f, wty f = 5 → wfb ci ≤ f → f < wfb ci + n → ∀ a, Γ f a = 0) (hN : N 0 b) (hl : ∀ v, some v ∈ ls → Un (fun f a => f = 0 ∧ a = b) v) (hs : ∀ v ∈ st, Un (fun f a => f = 0 ∧ a = b) v)
    (hkk : kb + 1 ≤ kc) (hss : sb + n ≤ ks) (hd : decode Y.2.1 pc = .ok (.new idx, 3)) (k : Xe l Y d kc ks N (pc + 3) ls (.inr (0, b) :: st) (kb + 1) (sb + n) (nG Γ b ci n) (nD δ b ci n) r) : Xe l Y d kc ks N pc ls st kb sb Γ δ r := by
  intro p e s m args below meth c D K A μ0 μ H locs L X
  obtain ⟨x1, x2, x3, x4, x5, x6, x7, x8⟩ := X
  obtain ⟨hx, hbb, hr, hml, hown, hts, hlk, hnm, hK⟩ := id x1
  have hKn := hK.1 ci _ hv
  have hg : ∀ f a, ¬ (f = 0 ∧ a = b) → sG μ 0 b H.size f a = μ f a := fun f a h => by unfold sG; rw [if_neg h]
  refine W.newcK hx hbb hown (hts _ hc.1) (hts _ hc.2.1) (hts _ hc.2.2) rfl hd hkk hss hKn.2.1 rfl fun H1 kC hkC e1 z1 o1 => ?_
  have hO := (u_born ty hts hwd hKn hkC e1 hty).to hdf
  have es : st.map (cv μ) = st.map (cv (sG μ 0 b H.size)) := List.map_congr_left fun v hv => (Un.cv hg (hs v hv)).symm
  have kk := k p e s m args below meth c D K A μ0 (sG μ 0 b H.size) H1 locs L ⟨x1, x2, fun f a h => (hg f a (fun e => h (by rw [e.1, e.2]; exact hN))).trans (x3 f a h), x4.to (funext fun a => hg 2 a (by omega)) (funext fun a => hg 4 a (by omega)) (funext fun a => hg 5 a (by omega)) (funext fun a => hg 6 a (by omega)),
    x5.newO hb hv (fun q hq => o1 q hq) hO hfb hR hS h5, fun f a hla => ?_, ⟨Nat.le_trans x7.1 (by omega), fun q h1 h2 => (o1 q (Nat.lt_of_lt_of_le h1 x7.1)).trans (x7.2.1 q h1 h2), x7.2.2⟩, x8.to hg hl⟩
  · have ex : (.inr (0, b) :: st).map (cv (sG μ 0 b H.size)) = .ref H.size :: st.map (cv μ) := by
      rw [es]
      show (if 0 = 1 then Value.null else .ref (sG μ 0 b H.size 0 b)) :: _ = _
      have : sG μ 0 b H.size 0 b = H.size := by unfold sG; rw [if_pos ⟨rfl, rfl⟩]
      rw [this]; rfl
    rw [ex] at kk
    exact kk
  · by_cases hn : f = 0 ∧ a = b
    · have : sG μ 0 b H.size f a = H.size := by unfold sG; rw [if_pos hn]
      rw [this]
      exact x2 _ x7.1
    · rw [hg f a hn]
      refine x6 f a ⟨hla.1, fun h0 => hla.2 ?_⟩
      unfold nG
      rw [if_neg hn]
      by_cases hcc : a = b ∧ wfb ci ≤ f ∧ f < wfb ci + n
      · rw [if_pos hcc, if_neg (by have := hla.1; omega)]
      · rw [if_neg hcc]; exact h0
theorem x_newa {f b : Nat} {n : Int32} {at_ : ArrayType} (hw : (wty f = 3 ∧ at_ = .int) ∨ (wty f = 4 ∧ at_ = .boolean)) (hn : ¬ n < 0) (hlen : n.toNatClampNeg = wlen f b) (hbig : wlen f b ≤ 100000) (h0 : Γ f b = 0) (hR : ∀ g a, (δ.2.2 g a).1 ≤ 1) (hN : N f b ∧ f ≠ 2 ∧ f ≠ 4 ∧ f ≠ 5 ∧ f ≠ 6) (hl : ∀ v, some v ∈ ls → Un (fun g a => g = f ∧ a = b) v) (hs : ∀ v ∈ st, Un (fun g a => g = f ∧ a = b) v)
    (hac : Cond.arrayClass (newarray.typeOf at_) ∈ lwg) (hkk : kb + 1 ≤ kc) (hss : sb + wlen f b ≤ ks) (hd : decode Y.2.1 pc = .ok (.newarray at_, 2)) (k : Xe l Y d kc ks N (pc + 2) ls (.inr (f, b) :: st) (kb + 1) (sb + wlen f b) (sG Γ f b 1) (aD δ f b) r) : Xe l Y d kc ks N pc ls (.inl n :: st) kb sb Γ δ r := by
  intro p e s m args below meth c D K A μ0 μ H locs L X
  obtain ⟨x1, x2, x3, x4, x5, x6, x7, x8⟩ := X
  obtain ⟨hx, hbb, hr, hml, hown, hts, hlk, hnm, hK⟩ := id x1
  have hg : ∀ g a, ¬ (g = f ∧ a = b) → sG μ f b H.size g a = μ g a := fun g a h => by unfold sG; rw [if_neg h]
  have hf1 : ¬ f = 1 := wty_ne1 (by rcases hw with h | h <;> omega)
  show W p l e (rmO d kc ks) s m args below meth c H locs kb sb _ (F0 m pc L (.int n :: st.map (cv μ)))
  have hcb : componentBytes (newarray.typeOf at_) ≤ 8 := by rcases hw with ⟨-, rfl⟩ | ⟨-, rfl⟩ <;> decide
  refine W.newa hx hbb (hts _ hac) rfl hd rfl hn (by rw [hlen]; exact Nat.le_trans (Nat.mul_le_mul hbig hcb) (Nat.le_of_ble_eq_true rfl)) hkk (by rw [hlen]; exact hss) fun cA kA comp f1 f2 f3 => ?_
  rw [hlen]
  generalize hH1 : H.push ({ cls := cA, slots := Array.replicate (wlen f b) (defaultValue (newarray.typeOf at_)), vm := .none } : Cell) = H1
  have z1 : H1.size = H.size + 1 := by rw [← hH1, Array.size_push]
  have hdv : defaultValue (newarray.typeOf at_) = .int 0 := by rcases hw with ⟨-, rfl⟩ | ⟨-, rfl⟩ <;> rfl
  have e1 : H1[H.size]? = some (arrV cA (wlen f b) (fun _ => .int 0)) := by rw [← hH1, Array.getElem?_push_size, hdv, ← arrV_new]
  have o1 : ∀ q : Nat, q < H.size → H1[q]? = H[q]? := fun q hq => by rw [← hH1, Array.getElem?_push, if_neg (Nat.ne_of_lt hq)]
  have hcK : (wty f = 3 → cA = K.1) ∧ (wty f = 4 → cA = K.2.1) := by
    rcases hw with ⟨w, rfl⟩ | ⟨w, rfl⟩
    · have hz : s.vm.findClass ("[" ++ FieldType.int.toString) = some K.1 := (hK.2 0 _ rfl).2
      exact ⟨fun _ => Option.some.inj (f1.symm.trans hz), fun h => by omega⟩
    · have hz : s.vm.findClass ("[" ++ FieldType.boolean.toString) = some K.2.1 := (hK.2 1 _ rfl).2
      exact ⟨fun h => by omega, fun _ => Option.some.inj (f1.symm.trans hz)⟩
  have es : st.map (cv μ) = st.map (cv (sG μ f b H.size)) := List.map_congr_left fun v hv => (Un.cv hg (hs v hv)).symm
  have kk := k p e s m args below meth c D K A μ0 (sG μ f b H.size) H1 locs L ⟨x1, x2, fun g a h => (hg g a (fun e => h (by rw [e.1, e.2]; exact hN.1))).trans (x3 g a h), x4.to (funext fun a => hg 2 a (fun e => hN.2.1 e.1.symm)) (funext fun a => hg 4 a (fun e => hN.2.2.1 e.1.symm)) (funext fun a => hg 5 a (fun e => hN.2.2.2.1 e.1.symm)) (funext fun a => hg 6 a (fun e => hN.2.2.2.2 e.1.symm)),
    x5.newA (by rcases hw with h | h; exact Or.inl h.1; exact Or.inr h.1) hcK (fun q hq => o1 q hq) h0 e1 hR, fun g a hla => ?_, ⟨Nat.le_trans x7.1 (by omega), fun q h1 h2 => (o1 q (Nat.lt_of_lt_of_le h1 x7.1)).trans (x7.2.1 q h1 h2), x7.2.2⟩, x8.to hg hl⟩
  · have ex : (.inr (f, b) :: st).map (cv (sG μ f b H.size)) = .ref H.size :: st.map (cv μ) := by
      rw [es]
      show cv _ (.inr (f, b)) :: _ = _
      rw [cv_a hf1]
      have : sG μ f b H.size f b = H.size := by unfold sG; rw [if_pos ⟨rfl, rfl⟩]
      rw [this]
    rw [ex] at kk
    exact kk
  · by_cases hn : g = f ∧ a = b
    · have : sG μ f b H.size g a = H.size := by unfold sG; rw [if_pos hn]
      rw [this]
      exact x2 _ x7.1
    · rw [hg g a hn]
      refine x6 g a ⟨hla.1, fun h => hla.2 ?_⟩
      unfold sG
      rw [if_neg hn]; exact h
/-- a row comes into its field, in the constructor -/
theorem x_putA {idx ci j a f : Nat} {ty : FieldType} (hg : GP Y.1.cls idx ci j true (.array ty)) (hf : wfb ci + j = f) (ht : 3 ≤ wty f) (ht6 : wty f ≠ 6) (hin : Y.1.name = "<init>") (hc : wcls a = ci) (h0 : Γ 0 a ≠ 0) (h1 : Γ f a ≠ 0) (hd : decode Y.2.1 pc = .ok (.putfield idx, 3))
    (k : Xe l Y d kc ks N (pc + 3) ls st kb sb (sG Γ f a 2) δ r) : Xe l Y d kc ks N pc ls (.inr (f, a) :: .inr (0, a) :: st) kb sb Γ δ r := by
  have hf0 : f ≠ 0 := fun e => ht6 (by rw [e]; exact wty0)
  refine Xe.put (Γ' := sG Γ f a 2) (δ' := δ) hg hc h0 hd (fun _ => hin) (fun μ => ?_) (fun μ => ?_) (fun g b hw h e => ?_) (fun μ b hb g => ?_) rfl (fun _ _ _ => rfl) (fun μ i => ?_) k
  · rw [cv_a (wty_ne1 ht)]; rfl
  · rw [cv_a (wty_ne1 ht)]; rfl
  · unfold sG at h
    by_cases he : g = f ∧ b = a
    · rw [he.1, he.2] at e; exact h1 e
    · rw [if_neg he] at h; exact h e
  · exact fv_Γ (sG_ne (fun e => hb e.2))
  · by_cases hi : i = j
    · subst hi
      rw [if_pos rfl, hf, fv_3 ht (by unfold sG; rw [if_pos ⟨rfl, rfl⟩]), cv_a (wty_ne1 ht)]
    · rw [if_neg hi]
      have : ¬ (wfb ci + i = f ∧ a = a) := fun e => hi (by have := e.1; omega)
      exact fv_Γ (sG_ne this)
/-- a part that stays comes into its field -/
theorem x_putS {idx ci j a f b : Nat} {C : String} (hg : GP Y.1.cls idx ci j true (.object C)) (hf : wfb ci + j = f) (ht : wty f = 2) (hb : wsr f a = b) (hin : Y.1.name = "<init>") (hc : wcls a = ci) (h0 : Γ 0 a ≠ 0) (hd : decode Y.2.1 pc = .ok (.putfield idx, 3))
    (k : Xe l Y d kc ks N (pc + 3) ls st kb sb (sG Γ f a 2) δ r) : Xe l Y d kc ks N pc ls (.inr (0, b) :: .inr (0, a) :: st) kb sb Γ δ r := by
  refine Xe.put (Γ' := sG Γ f a 2) (δ' := δ) hg hc h0 hd (fun _ => hin) (fun μ => rfl) (fun μ => rfl) (fun g e hw h => ?_) (fun μ e hb g => ?_) rfl (fun _ _ _ => rfl) (fun μ i => ?_) k
  · unfold sG at h
    by_cases he : g = f ∧ e = a
    · rw [he.1] at hw; omega
    · rw [if_neg he] at h; exact h
  · exact fv_Γ (sG_ne (fun e' => hb e'.2))
  · by_cases hi : i = j
    · subst hi
      rw [if_pos rfl, hf, fv_2 ht (by unfold sG; rw [if_pos ⟨rfl, rfl⟩]), hb]; rfl
    · rw [if_neg hi]
      have : ¬ (wfb ci + i = f ∧ a = a) := fun e => hi (by have := e.1; omega)
      exact fv_Γ (sG_ne this)
/-- Object's constructor -/
theorem x_oinit {idx a : Nat} (hl : Cond.methodLink Y.1.cls idx objectInit ∈ lwg) (hi : Cond.instanceMethod objectInit ∈ lwg) (hc : Cond.code objectInit ⟨#[0xb1]⟩ 1 none ∈ lwg) (hst : st.length ≤ 8) (hdd : 1 ≤ d) (hd : decode Y.2.1 pc = .ok (.invokespecial idx, 3)) (k : Xe l Y d kc ks N (pc + 3) ls st kb sb Γ δ r) : Xe l Y d kc ks N pc ls (.inr (0, a) :: st) kb sb Γ δ r := by
  intro p e s m args below meth c D K A μ0 μ H locs L X
  have kk := k p e s m args below meth c D K A μ0 μ H locs L X
  obtain ⟨⟨hx, hb, hr, hml, hown, hts, hlk, hnm, hK⟩, x2, x3, x4, x5, x6, x7, x8⟩ := X
  exact W.objInit hx hb hown (hts _ hl) (hts _ hi) (hts _ hc) rfl (by rw [hml]; exact x8.1) rfl hd hdd (by
    show 2 * 0 + ((st.map (cv μ)).map fun v => v.category).sum + 12 ≤ 40 * d
    rw [sum_cv]; omega) kk
end XA
