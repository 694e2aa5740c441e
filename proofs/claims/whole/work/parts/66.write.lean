/-! a program in letters (wip/whole/pure) -/
def sumN (f : Nat → Nat) : Nat → Nat
  | 0 => 0
  | n + 1 => sumN f n + f n
theorem sumN6 {f0 f1 f2 f3 f4 g h : Nat → Nat} : ∀ n, (∀ x, x < n → f0 x + f1 x + f2 x + f3 x + f4 x + g x ≤ h x) → sumN f0 n + sumN f1 n + sumN f2 n + sumN f3 n + sumN f4 n + sumN g n ≤ sumN h n := by
  intro n
  induction n with
  | zero => intro _; exact Nat.le_refl 0
  | succ n ih =>
    intro hx
    have a := ih (fun x hx' => hx x (by omega))
    have b := hx n (by omega)
    show sumN f0 n + f0 n + (sumN f1 n + f1 n) + (sumN f2 n + f2 n) + (sumN f3 n + f3 n) + (sumN f4 n + f4 n) + (sumN g n + g n) ≤ sumN h n + h n
    omega
theorem sumN_le {f : Nat → Nat} : ∀ n, (∀ x, f x ≤ 1) → sumN f n ≤ n := by
  intro n
  induction n with
  | zero => intro _; exact Nat.le_refl 0
  | succ n ih =>
    intro h
    have := ih h
    have := h n
    show sumN f n + f n ≤ n + 1
    omega
theorem sumN_one {b : Int} : ∀ n : Nat, 0 ≤ b → b < n → 1 ≤ sumN (fun x => if (x : Int) = b then 1 else 0) n := by
  intro n
  induction n with
  | zero => intro _ _; omega
  | succ n ih =>
    intro b0 b1
    show 1 ≤ sumN (fun x => if (x : Int) = b then 1 else 0) n + (if (n : Int) = b then 1 else 0)
    by_cases q : (n : Int) = b
    · rw [if_pos q]; omega
    · have := ih b0 (by omega)
      omega
section WN
variable {v : PG}
def Wn (v : PG) (b x : Int) : Prop := ∃ j : Nat, (∀ i, i ≤ j → 0 ≤ anc v x i ∧ anc v x i < v.1) ∧ anc v x j = b
theorem anc_ne (W : PW v) {x : Int} {n : Nat} (h : ∀ i, i ≤ n → 0 ≤ anc v x i ∧ anc v x i < v.1) : ∀ i j, i < j → j ≤ n → anc v x i ≠ anc v x j := by
  obtain ⟨-, -, -, -, rk, wR⟩ := W
  have inc : ∀ i d, i + d + 1 ≤ n → rk (anc v x i) < rk (anc v x (i + d + 1)) := by
    intro i d
    induction d with
    | zero =>
      intro hd
      have h1 := h i (by omega)
      have h2 := h (i + 1) (by omega)
      exact wR _ h1.1 h1.2 (fun e => by have : anc v x (i + 1) = -1 := e; omega)
    | succ d ih =>
      intro hd
      have h0 := ih (by omega)
      have h1 := h (i + d + 1) (by omega)
      have h2 := h (i + d + 1 + 1) (by omega)
      have := wR _ h1.1 h1.2 (fun e => by have : anc v x (i + d + 1 + 1) = -1 := e; omega)
      exact Nat.lt_trans h0 this
  intro i j hij hj e
  have := inc i (j - i - 1) (by omega)
  rw [show i + (j - i - 1) + 1 = j by omega, e] at this
  exact Nat.lt_irrefl _ this
theorem ch_up (W : PW v) {b h : Int} (b0 : 0 ≤ b) (b1 : b < v.1) (h0 : 0 ≤ h) (h5 : h < 5) (hc : v.2.2.2.1 b h ≠ -1) : (0 ≤ v.2.2.2.1 b h ∧ v.2.2.2.1 b h < v.1) ∧ v.2.2.1 (v.2.2.2.1 b h) 2 = b ∧ v.2.2.1 (v.2.2.2.1 b h) 3 = h := by
  rcases (W.2.2.1 b b0 b1).2.2.2.2 h h0 h5 with e | e
  · exact absurd e hc
  · exact e
theorem wn_up (W : PW v) {b h x : Int} (b0 : 0 ≤ b) (b1 : b < v.1) (h0 : 0 ≤ h) (h5 : h < 5) (hc : v.2.2.2.1 b h ≠ -1) (hx : Wn v (v.2.2.2.1 b h) x) : ∃ j : Nat, (∀ i, i ≤ j + 1 → 0 ≤ anc v x i ∧ anc v x i < v.1) ∧ anc v x j = v.2.2.2.1 b h ∧ anc v x (j + 1) = b := by
  obtain ⟨j, j1, j2⟩ := hx
  obtain ⟨c1, c2, c3⟩ := ch_up W b0 b1 h0 h5 hc
  have e : anc v x (j + 1) = b := by
    show v.2.2.1 (anc v x j) 2 = b
    rw [j2]; exact c2
  refine ⟨j, fun i hi => ?_, j2, e⟩
  by_cases q : i = j + 1
  · rw [q, e]; exact ⟨b0, b1⟩
  · exact j1 i (by omega)
theorem wn_one (W : PW v) {b h h' x : Int} (b0 : 0 ≤ b) (b1 : b < v.1) (h0 : 0 ≤ h) (h5 : h < 5) (h0' : 0 ≤ h') (h5' : h' < 5) (hc : v.2.2.2.1 b h ≠ -1) (hc' : v.2.2.2.1 b h' ≠ -1) (hx : Wn v (v.2.2.2.1 b h) x) (hx' : Wn v (v.2.2.2.1 b h') x) : h = h' := by
  obtain ⟨j, j1, j2, j3⟩ := wn_up W b0 b1 h0 h5 hc hx
  obtain ⟨k, k1, k2, k3⟩ := wn_up W b0 b1 h0' h5' hc' hx'
  have hjk : j = k := by
    by_cases q : j = k
    · exact q
    · exfalso
      by_cases q2 : j < k
      · exact anc_ne W k1 (j + 1) (k + 1) (by omega) (by omega) (j3.trans k3.symm)
      · exact anc_ne W j1 (k + 1) (j + 1) (by omega) (by omega) (k3.trans j3.symm)
  subst hjk
  have e := (ch_up W b0 b1 h0 h5 hc).2.2
  have e' := (ch_up W b0 b1 h0' h5' hc').2.2
  rw [← j2] at e
  rw [← k2] at e'
  exact e.symm.trans e'
theorem wn_self (W : PW v) {b h : Int} (b0 : 0 ≤ b) (b1 : b < v.1) (h0 : 0 ≤ h) (h5 : h < 5) (hc : v.2.2.2.1 b h ≠ -1) : ¬ Wn v (v.2.2.2.1 b h) b := by
  intro hx
  obtain ⟨j, j1, j2, j3⟩ := wn_up W b0 b1 h0 h5 hc hx
  exact anc_ne W j1 0 (j + 1) (by omega) (by omega) j3.symm
def cw (v : PG) (w : Int → Nat → Nat) (b : Int) : Nat := if b = -1 then 0 else sumN (w b) (v.1).toNat
theorem cw_sum (W : PW v) {w : Int → Nat → Nat} (hw : ∀ b x, (Wn v b (x : Nat) ∧ w b x = 1) ∨ (¬ Wn v b (x : Nat) ∧ w b x = 0)) {b : Int} (b0 : 0 ≤ b) (b1 : b < v.1) : cw v w (v.2.2.2.1 b 0) + cw v w (v.2.2.2.1 b 1) + cw v w (v.2.2.2.1 b 2) + cw v w (v.2.2.2.1 b 3) + cw v w (v.2.2.2.1 b 4) + 1 ≤ cw v w b := by
  have key := sumN6 (f0 := fun x => if v.2.2.2.1 b 0 = -1 then 0 else w (v.2.2.2.1 b 0) x) (f1 := fun x => if v.2.2.2.1 b 1 = -1 then 0 else w (v.2.2.2.1 b 1) x) (f2 := fun x => if v.2.2.2.1 b 2 = -1 then 0 else w (v.2.2.2.1 b 2) x) (f3 := fun x => if v.2.2.2.1 b 3 = -1 then 0 else w (v.2.2.2.1 b 3) x) (f4 := fun x => if v.2.2.2.1 b 4 = -1 then 0 else w (v.2.2.2.1 b 4) x) (g := fun x => if (x : Int) = b then 1 else 0) (h := w b) (v.1).toNat (fun x hx => by
    have one : ∀ h, 0 ≤ h → h < 5 → (if v.2.2.2.1 b h = -1 then 0 else w (v.2.2.2.1 b h) x) ≤ w b x ∧ ((x : Int) = b → (if v.2.2.2.1 b h = -1 then 0 else w (v.2.2.2.1 b h) x) = 0) ∧ (if v.2.2.2.1 b h = -1 then 0 else w (v.2.2.2.1 b h) x) ≤ 1 := by
      intro h h0 h5
      by_cases q : v.2.2.2.1 b h = -1
      · rw [if_pos q]; exact ⟨Nat.zero_le _, fun _ => rfl, Nat.zero_le _⟩
      · rw [if_neg q]
        rcases hw (v.2.2.2.1 b h) x with ⟨a1, a2⟩ | ⟨a1, a2⟩
        · obtain ⟨j, j1, j2, j3⟩ := wn_up W b0 b1 h0 h5 q a1
          rw [a2]
          refine ⟨?_, fun e => ?_, Nat.le_refl _⟩
          · rcases hw b x with ⟨-, c2⟩ | ⟨c1, -⟩
            · omega
            · exact absurd ⟨j + 1, j1, j3⟩ c1
          · rw [e] at a1
            exact absurd a1 (wn_self W b0 b1 h0 h5 q)
        · rw [a2]; exact ⟨Nat.zero_le _, fun _ => rfl, Nat.zero_le _⟩
    have two : ∀ h h', 0 ≤ h → h < 5 → 0 ≤ h' → h' < 5 → h ≠ h' → (if v.2.2.2.1 b h = -1 then 0 else w (v.2.2.2.1 b h) x) + (if v.2.2.2.1 b h' = -1 then 0 else w (v.2.2.2.1 b h') x) ≤ 1 := by
      intro h h' h0 h5 h0' h5' hne
      have o1 := (one h h0 h5).2.2
      have o2 := (one h' h0' h5').2.2
      by_cases q : v.2.2.2.1 b h = -1
      · rw [if_pos q] at o1 ⊢; omega
      · by_cases q' : v.2.2.2.1 b h' = -1
        · rw [if_pos q'] at o2 ⊢; omega
        · rw [if_neg q, if_neg q']
          rcases hw (v.2.2.2.1 b h) x with ⟨a1, a2⟩ | ⟨a1, a2⟩
          · rcases hw (v.2.2.2.1 b h') x with ⟨c1, c2⟩ | ⟨c1, c2⟩
            · exact absurd (wn_one W b0 b1 h0 h5 h0' h5' q q' a1 c1) hne
            · omega
          · rcases hw (v.2.2.2.1 b h') x with ⟨c1, c2⟩ | ⟨c1, c2⟩ <;> omega
    have a0 := one 0 (by decide) (by decide)
    have a1 := one 1 (by decide) (by decide)
    have a2 := one 2 (by decide) (by decide)
    have a3 := one 3 (by decide) (by decide)
    have a4 := one 4 (by decide) (by decide)
    have t01 := two 0 1 (by decide) (by decide) (by decide) (by decide) (by decide)
    have t02 := two 0 2 (by decide) (by decide) (by decide) (by decide) (by decide)
    have t03 := two 0 3 (by decide) (by decide) (by decide) (by decide) (by decide)
    have t04 := two 0 4 (by decide) (by decide) (by decide) (by decide) (by decide)
    have t12 := two 1 2 (by decide) (by decide) (by decide) (by decide) (by decide)
    have t13 := two 1 3 (by decide) (by decide) (by decide) (by decide) (by decide)
    have t14 := two 1 4 (by decide) (by decide) (by decide) (by decide) (by decide)
    have t23 := two 2 3 (by decide) (by decide) (by decide) (by decide) (by decide)
    have t24 := two 2 4 (by decide) (by decide) (by decide) (by decide) (by decide)
    have t34 := two 3 4 (by decide) (by decide) (by decide) (by decide) (by decide)
    have s : (x : Int) = b → w b x = 1 := by
      intro e
      rcases hw b x with ⟨-, c2⟩ | ⟨c1, -⟩
      · exact c2
      · exact absurd ⟨0, fun i hi => by
          have : i = 0 := by omega
          subst this
          show 0 ≤ (x : Int) ∧ (x : Int) < _
          omega, e⟩ c1
    show (if v.2.2.2.1 b 0 = -1 then 0 else w (v.2.2.2.1 b 0) x) + (if v.2.2.2.1 b 1 = -1 then 0 else w (v.2.2.2.1 b 1) x) + (if v.2.2.2.1 b 2 = -1 then 0 else w (v.2.2.2.1 b 2) x) + (if v.2.2.2.1 b 3 = -1 then 0 else w (v.2.2.2.1 b 3) x) + (if v.2.2.2.1 b 4 = -1 then 0 else w (v.2.2.2.1 b 4) x) + (if (x : Int) = b then 1 else 0) ≤ w b x
    generalize (if v.2.2.2.1 b 0 = -1 then 0 else w (v.2.2.2.1 b 0) x) = y0 at *
    generalize (if v.2.2.2.1 b 1 = -1 then 0 else w (v.2.2.2.1 b 1) x) = y1 at *
    generalize (if v.2.2.2.1 b 2 = -1 then 0 else w (v.2.2.2.1 b 2) x) = y2 at *
    generalize (if v.2.2.2.1 b 3 = -1 then 0 else w (v.2.2.2.1 b 3) x) = y3 at *
    generalize (if v.2.2.2.1 b 4 = -1 then 0 else w (v.2.2.2.1 b 4) x) = y4 at *
    clear one two
    by_cases q : (x : Int) = b
    · rw [if_pos q]
      have := s q
      have := a0.2.1 q
      have := a1.2.1 q
      have := a2.2.1 q
      have := a3.2.1 q
      have := a4.2.1 q
      omega
    · rw [if_neg q]
      omega)
  have e : ∀ h, cw v w (v.2.2.2.1 b h) = sumN (fun x => if v.2.2.2.1 b h = -1 then 0 else w (v.2.2.2.1 b h) x) (v.1).toNat := by
    intro h
    unfold cw
    by_cases q : v.2.2.2.1 b h = -1
    · rw [if_pos q]
      simp only [if_pos q]
      generalize (v.1).toNat = m
      induction m with
      | zero => rfl
      | succ m ih => show 0 = sumN (fun _ => 0) m + 0; rw [← ih]
    · rw [if_neg q]
      simp only [if_neg q]
  have o := sumN_one (b := b) (v.1).toNat b0 (by omega)
  rw [e 0, e 1, e 2, e 3, e 4]
  have eb : cw v w b = sumN (w b) (v.1).toNat := by unfold cw; rw [if_neg (by omega)]
  rw [eb]
  omega
end WN
/-! what is appended -/
def Ap (fN fA a : Nat) (L : List Int32) (n : Int) (δ δ' : Dl) : Prop := δ'.1 fN a = zi (n + L.length) ∧ Fr (fun f b => b = a ∧ (f = fN ∨ f = fA)) δ δ' ∧ (∀ i, 0 ≤ i → i < n → δ'.2.1 fA a (zi i) = δ.2.1 fA a (zi i)) ∧ ∀ i : Nat, i < L.length → δ'.2.1 fA a (zi (n + i)) = L.getD i 0
section AP
variable {fN fA a : Nat} {n : Int} {δ δ1 δ2 : Dl}
theorem Ap.nil (h : δ.1 fN a = zi n) : Ap fN fA a [] n δ δ := ⟨by rw [h]; simp, Fr.rf, fun _ _ _ => rfl, fun i hi => absurd hi (Nat.not_lt_zero i)⟩
theorem Ap.one {u : Int32} (hn : 0 ≤ n ∧ n < 90000) : Ap fN fA a [u] n δ (sI (sA δ fA a (zi n) u) fN a (zi (n + 1))) := by
  refine ⟨sI_at, (Fr.sA (S := fun f b => b = a ∧ (f = fN ∨ f = fA)) Fr.rf ⟨rfl, Or.inr rfl⟩).sI ⟨rfl, Or.inl rfl⟩, fun i i0 i1 => ?_, fun i hi => ?_⟩
  · show (sA δ fA a (zi n) u).2.1 fA a (zi i) = _
    rw [rAi, if_neg (fun e => by have := zi_inj e (by omega) (by omega); omega)]
  · have : i = 0 := by simpa using hi
    subst this
    show (sA δ fA a (zi n) u).2.1 fA a (zi (n + 0)) = u
    rw [rAi, if_pos (by rw [show n + 0 = n by omega])]
theorem Ap.ap {L1 L2 : List Int32} (hn : 0 ≤ n) (h1 : Ap fN fA a L1 n δ δ1) (h2 : Ap fN fA a L2 (n + L1.length) δ1 δ2) : Ap fN fA a (L1 ++ L2) n δ δ2 := by
  obtain ⟨a1, a2, a3, a4⟩ := h1
  obtain ⟨b1, b2, b3, b4⟩ := h2
  refine ⟨by rw [b1, List.length_append]; congr 1; omega, a2.tr b2, fun i i0 i1 => ?_, fun i hi => ?_⟩
  · rw [b3 i i0 (by omega), a3 i i0 i1]
  · rw [List.length_append] at hi
    by_cases q : i < L1.length
    · rw [b3 _ (by omega) (by omega), a4 i q]
      simp [List.getD, List.getElem?_append_left q]
    · have e := b4 (i - L1.length) (by omega)
      rw [show n + (L1.length : Int) + ((i - L1.length : Nat) : Int) = n + i by omega] at e
      rw [e]
      simp [List.getD, List.getElem?_append_right (show L1.length ≤ i by omega)]
end AP
def DoC (v : PG) (F : Dl → Option Dl) (L : List Int32) : Prop := ∀ δ n, CP 1 δ v → δ.1 10 15 = zi n → 0 ≤ n → n + L.length ≤ 300 → ∃ δ', F δ = some δ' ∧ Ap 10 11 15 L n δ δ'
def DoM (v : PG) (F : Dl → Option Dl) (L : List Int32) : Prop := ∀ δ n, MP δ v → δ.1 168 23 = zi n → 0 ≤ n → n + L.length ≤ 300 → ∃ δ', F δ = some δ' ∧ Ap 168 167 23 L n δ δ'
section DO
variable {v : PG}
theorem DoC.nil : DoC v (fun δ => some δ) [] := fun δ n _ h _ _ => ⟨δ, rfl, Ap.nil h⟩
theorem DoM.nil : DoM v (fun δ => some δ) [] := fun δ n _ h _ _ => ⟨δ, rfl, Ap.nil h⟩
theorem DoC.cg {F F' : Dl → Option Dl} {L : List Int32} (e : ∀ δ, CP 1 δ v → F δ = F' δ) (h : DoC v F' L) : DoC v F L := fun δ n C a b c => by rw [e δ C]; exact h δ n C a b c
theorem DoM.cg {F F' : Dl → Option Dl} {L : List Int32} (e : ∀ δ, MP δ v → F δ = F' δ) (h : DoM v F' L) : DoM v F L := fun δ n C a b c => by rw [e δ C]; exact h δ n C a b c
theorem DoC.seq {F G : Dl → Option Dl} {L1 L2 : List Int32} (h1 : DoC v F L1) (h2 : DoC v G L2) : DoC v (fun δ => (F δ).bind G) (L1 ++ L2) := by
  intro δ n C a b c
  rw [List.length_append] at c
  obtain ⟨d1, e1, A1⟩ := h1 δ n C a b (by omega)
  obtain ⟨d2, e2, A2⟩ := h2 d1 (n + L1.length) (C.fr A1.2.1 (fun f q1 q2 e => absurd e.1 (by decide))) A1.1 (by omega) (by omega)
  exact ⟨d2, by show (F δ).bind G = _; rw [e1]; exact e2, Ap.ap b A1 A2⟩
theorem DoM.seq {F G : Dl → Option Dl} {L1 L2 : List Int32} (h1 : DoM v F L1) (h2 : DoM v G L2) : DoM v (fun δ => (F δ).bind G) (L1 ++ L2) := by
  intro δ n C a b c
  rw [List.length_append] at c
  obtain ⟨d1, e1, A1⟩ := h1 δ n C a b (by omega)
  obtain ⟨d2, e2, A2⟩ := h2 d1 (n + L1.length) (C.fr A1.2.1 (fun f q1 q2 e => by have := e.2; omega)) A1.1 (by omega) (by omega)
  exact ⟨d2, by show (F δ).bind G = _; rw [e1]; exact e2, Ap.ap b A1 A2⟩
theorem lenB15 : lenB 15 = zi 300 := by decide
theorem c_ad (u : Int32) : DoC v (fun δ => F_By_add 15 u δ) [u] := by
  intro δ n C a b c
  have c' : n + 1 ≤ 300 := c
  refine ⟨_, ?_, Ap.one ⟨b, by omega⟩⟩
  simp (disch := omega) only [F_By_add, lenB15, a, q1A, ↓bnd_eq, bd2, bn2, Option.bind_some, Option.bind_none, ↓reduceIte, inb, zl, zi_add, zi_sub, zi_mul, zi_neg, zi_le_t, zi_le_f, zi_lt_t, zi_lt_f, zi_eq_t, zi_eq_f, if_true, if_false, ite_true, ite_false, true_and, and_true, false_and, and_false, not_true_eq_false, not_false_eq_true, true_or, or_true, false_or, or_false, and_self, ge_iff_le, gt_iff_lt]
theorem m_ad (u : Int32) : DoM v (fun δ => F_M_writes u δ) [u] := by
  intro δ n C a b c
  have c' : n + 1 ≤ 300 := c
  refine ⟨_, ?_, Ap.one ⟨b, by omega⟩⟩
  simp (disch := omega) only [F_M_writes, a, q1A, ↓bnd_eq, bd2, bn2, Option.bind_some, Option.bind_none, ↓reduceIte, inb, zl, zi_add, zi_sub, zi_mul, zi_neg, zi_le_t, zi_le_f, zi_lt_t, zi_lt_f, zi_eq_t, zi_eq_f, if_true, if_false, ite_true, ite_false, true_and, and_true, false_and, and_false, not_true_eq_false, not_false_eq_true, true_or, or_true, false_or, or_false, and_self, ge_iff_le, gt_iff_lt]
theorem c_ad1 (u : Int32) : DoC v (fun δ => (F_By_add 15 u δ).bind fun δ' => some δ') ([u] ++ []) := DoC.seq (c_ad u) DoC.nil
theorem m_ad1 (u : Int32) : DoM v (fun δ => (F_M_writes u δ).bind fun δ' => some δ') ([u] ++ []) := DoM.seq (m_ad u) DoM.nil
/-- a number, in letters -/
theorem nu_dig {k : Int} (hk : 0 ≤ k ∧ k ≤ 99) : ∃ L : List Int32, L.length ≤ 2 ∧ DoC v (fun δ => if zi k ≤ zi 9 then F_By_addNumber_32 15 (zi k) (zi k) δ else ((F_By_add 15 (zi (48 + k / 10)) δ).bind fun δ29 => F_By_addNumber_32 15 (zi k) (zi k) δ29)) L ∧ ∀ x1, DoM v (fun δ => F_M_writesNumber_21 x1 (zi k) δ) L := by
  have c32 : ∀ x, DoC v (fun δ => F_By_addNumber_32 15 x (zi k) δ) ([zi (48 + (k - k / 10 * 10))] ++ []) := fun x => DoC.cg (fun δ _ => by simp (disch := omega) only [F_By_addNumber_32, zi_div, ↓reduceIte, inb, zl, zi_add, zi_sub, zi_mul, zi_neg, zi_le_t, zi_le_f, zi_lt_t, zi_lt_f, zi_eq_t, zi_eq_f, if_true, if_false, ite_true, ite_false, true_and, and_true, false_and, and_false, not_true_eq_false, not_false_eq_true, true_or, or_true, false_or, or_false, and_self, ge_iff_le, gt_iff_lt]) (c_ad1 _)
  have m38 : ∀ x, DoM v (fun δ => F_M_writesNumber_38 x (zi k) δ) ([zi (48 + (k - k / 10 * 10))] ++ []) := fun x => DoM.cg (fun δ _ => by simp (disch := omega) only [F_M_writesNumber_38, zi_div, ↓reduceIte, inb, zl, zi_add, zi_sub, zi_mul, zi_neg, zi_le_t, zi_le_f, zi_lt_t, zi_lt_f, zi_eq_t, zi_eq_f, if_true, if_false, ite_true, ite_false, true_and, and_true, false_and, and_false, not_true_eq_false, not_false_eq_true, true_or, or_true, false_or, or_false, and_self, ge_iff_le, gt_iff_lt]) (m_ad1 _)
  by_cases q : k ≤ 9
  · refine ⟨_, ?_, DoC.cg (fun δ _ => ?_) (c32 (zi k)), fun x1 => DoM.cg (fun δ _ => ?_) (m38 x1)⟩
    · simp
    · exact if_pos (by rw [zi_le (by omega) (by omega)]; omega)
    · simp (disch := omega) only [F_M_writesNumber_21, ↓reduceIte, inb, zl, zi_add, zi_sub, zi_mul, zi_neg, zi_le_t, zi_le_f, zi_lt_t, zi_lt_f, zi_eq_t, zi_eq_f, if_true, if_false, ite_true, ite_false, true_and, and_true, false_and, and_false, not_true_eq_false, not_false_eq_true, true_or, or_true, false_or, or_false, and_self, ge_iff_le, gt_iff_lt]
  · refine ⟨_, ?_, DoC.cg (fun δ _ => ?_) (DoC.seq (c_ad (zi (48 + k / 10))) (c32 (zi k))), fun x1 => DoM.cg (fun δ _ => ?_) (DoM.seq (m_ad (zi (48 + k / 10))) (m38 x1))⟩
    · simp
    · exact if_neg (by rw [zi_le (by omega) (by omega)]; omega)
    · simp (disch := omega) only [F_M_writesNumber_21, zi_div, ↓reduceIte, inb, zl, zi_add, zi_sub, zi_mul, zi_neg, zi_le_t, zi_le_f, zi_lt_t, zi_lt_f, zi_eq_t, zi_eq_f, if_true, if_false, ite_true, ite_false, true_and, and_true, false_and, and_false, not_true_eq_false, not_false_eq_true, true_or, or_true, false_or, or_false, and_self, ge_iff_le, gt_iff_lt]
theorem nu {k : Int} (hk : -99 ≤ k ∧ k ≤ 99) : ∃ L : List Int32, L.length ≤ 3 ∧ DoC v (fun δ => F_By_addNumber 15 (zi k) δ) L ∧ DoM v (fun δ => F_M_writesNumber (zi k) δ) L := by
  by_cases q : 0 ≤ k
  · obtain ⟨L, h1, h2, h3⟩ := nu_dig (v := v) (k := k) ⟨q, hk.2⟩
    refine ⟨L, by omega, DoC.cg (fun δ _ => ?_) h2, DoM.cg (fun δ _ => ?_) (h3 (zi k))⟩
    · by_cases q9 : k ≤ 9
      · simp (disch := omega) only [F_By_addNumber, F_By_addNumber_10, F_Ma_abs, ↓bnd_eq, bd2, bn2, Option.bind_some, Option.bind_none, ↓reduceIte, inb, zl, zi_add, zi_sub, zi_mul, zi_neg, zi_le_t, zi_le_f, zi_lt_t, zi_lt_f, zi_eq_t, zi_eq_f, if_true, if_false, ite_true, ite_false, true_and, and_true, false_and, and_false, not_true_eq_false, not_false_eq_true, true_or, or_true, false_or, or_false, and_self, ge_iff_le, gt_iff_lt]
      · simp (disch := omega) only [F_By_addNumber, F_By_addNumber_10, F_Ma_abs, zi_div, ↓bnd_eq, bd2, bn2, Option.bind_some, Option.bind_none, ↓reduceIte, inb, zl, zi_add, zi_sub, zi_mul, zi_neg, zi_le_t, zi_le_f, zi_lt_t, zi_lt_f, zi_eq_t, zi_eq_f, if_true, if_false, ite_true, ite_false, true_and, and_true, false_and, and_false, not_true_eq_false, not_false_eq_true, true_or, or_true, false_or, or_false, and_self, ge_iff_le, gt_iff_lt]
    · simp (disch := omega) only [F_M_writesNumber, F_M_writesNumber_10, ↓reduceIte, inb, zl, zi_add, zi_sub, zi_mul, zi_neg, zi_le_t, zi_le_f, zi_lt_t, zi_lt_f, zi_eq_t, zi_eq_f, if_true, if_false, ite_true, ite_false, true_and, and_true, false_and, and_false, not_true_eq_false, not_false_eq_true, true_or, or_true, false_or, or_false, and_self, ge_iff_le, gt_iff_lt]
  · obtain ⟨L, h1, h2, h3⟩ := nu_dig (v := v) (k := -k) ⟨by omega, by omega⟩
    refine ⟨[zi 45] ++ L, by simp; omega, DoC.cg (fun δ _ => ?_) (DoC.seq (c_ad (zi 45)) (G := fun δ => F_By_addNumber_10 15 (zi k) δ) (DoC.cg (fun δ _ => ?_) h2)), DoM.cg (fun δ _ => ?_) (DoM.seq (m_ad (zi 45)) (h3 (zi k)))⟩
    · simp (disch := omega) only [F_By_addNumber, ↓reduceIte, inb, zl, zi_add, zi_sub, zi_mul, zi_neg, zi_le_t, zi_le_f, zi_lt_t, zi_lt_f, zi_eq_t, zi_eq_f, if_true, if_false, ite_true, ite_false, true_and, and_true, false_and, and_false, not_true_eq_false, not_false_eq_true, true_or, or_true, false_or, or_false, and_self, ge_iff_le, gt_iff_lt]
    · have c32 : ∀ δ', F_By_addNumber_32 15 (zi k) (zi (-k)) δ' = F_By_addNumber_32 15 (zi (-k)) (zi (-k)) δ' := fun _ => rfl
      by_cases q9 : -k ≤ 9
      · simp (disch := omega) only [F_By_addNumber_10, F_Ma_abs, c32, ↓bnd_eq, bd2, bn2, Option.bind_some, Option.bind_none, ↓reduceIte, inb, zl, zi_add, zi_sub, zi_mul, zi_neg, zi_le_t, zi_le_f, zi_lt_t, zi_lt_f, zi_eq_t, zi_eq_f, if_true, if_false, ite_true, ite_false, true_and, and_true, false_and, and_false, not_true_eq_false, not_false_eq_true, true_or, or_true, false_or, or_false, and_self, ge_iff_le, gt_iff_lt]
      · simp (disch := omega) only [F_By_addNumber_10, F_Ma_abs, c32, zi_div, ↓bnd_eq, bd2, bn2, Option.bind_some, Option.bind_none, ↓reduceIte, inb, zl, zi_add, zi_sub, zi_mul, zi_neg, zi_le_t, zi_le_f, zi_lt_t, zi_lt_f, zi_eq_t, zi_eq_f, if_true, if_false, ite_true, ite_false, true_and, and_true, false_and, and_false, not_true_eq_false, not_false_eq_true, true_or, or_true, false_or, or_false, and_self, ge_iff_le, gt_iff_lt]
    · simp (disch := omega) only [F_M_writesNumber, F_M_writesNumber_10, ↓reduceIte, inb, zl, zi_add, zi_sub, zi_mul, zi_neg, zi_le_t, zi_le_f, zi_lt_t, zi_lt_f, zi_eq_t, zi_eq_f, if_true, if_false, ite_true, ite_false, true_and, and_true, false_and, and_false, not_true_eq_false, not_false_eq_true, true_or, or_true, false_or, or_false, and_self, ge_iff_le, gt_iff_lt]
end DO
def DP (v : PG) (d : Nat) (b : Int) : Prop := ∀ i, i ≤ d → 0 ≤ anc v b i ∧ anc v b i < v.1
section SPL
variable {v : PG}
theorem DoM.el {F : Dl → Option Dl} {L L' : List Int32} (e : L = L') (h : DoM v F L) : DoM v F L' := e ▸ h
theorem dp_ch (W : PW v) {b h : Int} {d : Nat} (b0 : 0 ≤ b) (b1 : b < v.1) (h0 : 0 ≤ h) (h5 : h < 5) (hc : v.2.2.2.1 b h ≠ -1) (D : DP v d b) : DP v (d + 1) (v.2.2.2.1 b h) := by
  obtain ⟨c1, c2, c3⟩ := ch_up W b0 b1 h0 h5 hc
  intro i hi
  cases i with
  | zero => exact c1
  | succ i =>
    rw [anc_s, c2]
    exact D i (by omega)
theorem dp_le {b : Int} {d d' : Nat} (h : d' ≤ d) (D : DP v d b) : DP v d' b := fun i hi => D i (by omega)
def Blk (v : PG) (rk : Int → Nat) (r d : Nat) (b : Int) : Prop := b = -1 ∨ ((0 ≤ b ∧ b < v.1) ∧ rk b < r ∧ DP v d b)
theorem blk_ch (W : PW v) {rk : Int → Nat} (wR : RKd v rk) {b h : Int} {r d : Nat} (b0 : 0 ≤ b) (b1 : b < v.1) (hr : rk b < r + 1) (D : DP v d b) (h0 : 0 ≤ h) (h5 : h < 5) : Blk v rk r (d + 1) (v.2.2.2.1 b h) := by
  by_cases q : v.2.2.2.1 b h = -1
  · exact Or.inl q
  · obtain ⟨c1, c2, c3⟩ := ch_up W b0 b1 h0 h5 q
    have := wR _ c1.1 c1.2 (by rw [c2]; omega)
    rw [c2] at this
    exact Or.inr ⟨c1, by omega, dp_ch W b0 b1 h0 h5 q D⟩
theorem hole_ok (W : PW v) {w : Int → Nat → Nat} {b h : Int} {f d : Nat} (b0 : 0 ≤ b) (b1 : b < v.1) (h0 : 1 ≤ h) (h5 : h < 5)
    (hrc : ∃ Lc : List Int32, Lc.length ≤ 9 * cw v w (v.2.2.2.1 b h) ∧ DoC v (fun δ => F_Pr_spell f 1 (zi (v.2.2.2.1 b h)) 15 (zi (d + 1)) δ) Lc ∧ DoM v (fun δ => F_M_writesBlock f (zi (v.2.2.2.1 b h)) δ) Lc) :
    ∃ L : List Int32, L.length ≤ 2 + 9 * cw v w (v.2.2.2.1 b h) ∧ (¬ HH (v.2.2.1 b 0) h → L = []) ∧ DoC v (fun δ => F_Pr_spellHole (F_Pr_spell f) 1 (zi b) (zi h) 15 (zi d) δ) L ∧
      ∀ (x1 : Int32) (k2 : Int32 → Dl → Option Dl) (k64 : Int32 → Int32 → Dl → Option Dl) (x3 : Int) (L2 : List Int32), DoM v (fun δ => k64 (zi b) (zi (x3 + 1)) δ) L2 → DoM v (fun δ => F_M_writesBlock_96 (F_M_writesBlock f) x1 k2 k64 (zi b) (zi x3) (zi h) δ) (L ++ L2) := by
  have hN := W.1
  have hk := W.k b0 b1
  have hhr := W.h b0 b1 (show 0 ≤ h by omega) h5
  obtain ⟨Lc, l1, l2, l3⟩ := hrc
  rcases m_hasHole hk (h := h) (by omega) with ⟨e, hh⟩ | ⟨e, hh⟩
  · rw [zl1] at e
    refine ⟨[zi 40] ++ (Lc ++ ([zi 41] ++ [])), by simp; omega, fun hn => absurd hh hn, ?_, fun x1 k2 k64 x3 L2 h2 => ?_⟩
    · refine DoC.cg (fun δ C => ?_) (DoC.seq (c_ad (zi 40)) (G := fun δ13 => (F_Pr_inHole 1 (zi b) (zi h) δ13).bind fun v20 => (F_Pr_spell f 1 v20 15 (zi (d + 1)) δ13).bind fun δ28 => (F_By_add 15 (zi 41) δ28).bind fun δ34 => some δ34) (DoC.cg (fun δ C => ?_) (DoC.seq l2 (c_ad1 (zi 41)))))
      · have ch := c_hasHole C W b0 b1 (h := h) (by omega)
        rw [e] at ch
        simp (disch := omega) only [F_Pr_spellHole, ↓bse ch, ↓reduceIte, inb, zl, zi_add, zi_sub, zi_mul, zi_neg, zi_le_t, zi_le_f, zi_lt_t, zi_lt_f, zi_eq_t, zi_eq_f, if_true, if_false, ite_true, ite_false, true_and, and_true, false_and, and_false, not_true_eq_false, not_false_eq_true, true_or, or_true, false_or, or_false, and_self, ge_iff_le, gt_iff_lt]
      · have ci := c_inHole C W b0 b1 (show 0 ≤ h by omega) h5
        exact bse ci
    · refine DoM.el (L := [zi 40] ++ (Lc ++ ([zi 41] ++ L2))) (by simp) ?_
      refine DoM.cg (fun δ C => ?_) (DoM.seq (m_ad (zi 40)) (G := fun δ115 => if inb ((5 * zi b) + zi h) 150 then (F_M_writesBlock f (δ115.2.1 121 23 ((5 * zi b) + zi h)) δ115).bind fun δ130 => (F_M_writes (zi 41) δ130).bind fun δ136 => F_M_writesBlock_139 (F_M_writesBlock f) x1 k2 k64 (zi b) (zi x3) δ136 else none) (DoM.cg (fun δ C => ?_) (DoM.seq l3 (DoM.seq (m_ad (zi 41)) (G := fun δ136 => F_M_writesBlock_139 (F_M_writesBlock f) x1 k2 k64 (zi b) (zi x3) δ136) (DoM.cg (fun δ C => ?_) h2)))))
      · have f0 := (C.2.2.1 b b0 b1).1
        simp (disch := omega) only [F_M_writesBlock_96, ↓bnd_eq, bd2, bn2, Option.bind_some, Option.bind_none, f0, e, ↓reduceIte, inb, zl, zi_add, zi_sub, zi_mul, zi_neg, zi_le_t, zi_le_f, zi_lt_t, zi_lt_f, zi_eq_t, zi_eq_f, if_true, if_false, ite_true, ite_false, true_and, and_true, false_and, and_false, not_true_eq_false, not_false_eq_true, true_or, or_true, false_or, or_false, and_self, ge_iff_le, gt_iff_lt]
      · have g := C.2.2.2.1 b h b0 b1 (by omega) h5
        simp (disch := omega) only [g, ↓reduceIte, inb, zl, zi_add, zi_sub, zi_mul, zi_neg, zi_le_t, zi_le_f, zi_lt_t, zi_lt_f, zi_eq_t, zi_eq_f, if_true, if_false, ite_true, ite_false, true_and, and_true, false_and, and_false, not_true_eq_false, not_false_eq_true, true_or, or_true, false_or, or_false, and_self, ge_iff_le, gt_iff_lt]
      · simp (disch := omega) only [F_M_writesBlock_139, ↓reduceIte, inb, zl, zi_add, zi_sub, zi_mul, zi_neg, zi_le_t, zi_le_f, zi_lt_t, zi_lt_f, zi_eq_t, zi_eq_f, if_true, if_false, ite_true, ite_false, true_and, and_true, false_and, and_false, not_true_eq_false, not_false_eq_true, true_or, or_true, false_or, or_false, and_self, ge_iff_le, gt_iff_lt]
  · rw [zl0] at e
    refine ⟨[], by simp, fun _ => rfl, DoC.cg (fun δ C => ?_) DoC.nil, fun x1 k2 k64 x3 L2 h2 => DoM.cg (fun δ C => ?_) h2⟩
    · have ch := c_hasHole C W b0 b1 (h := h) (by omega)
      rw [e] at ch
      simp (disch := omega) only [F_Pr_spellHole, ↓bse ch, ↓reduceIte, inb, zl, zi_add, zi_sub, zi_mul, zi_neg, zi_le_t, zi_le_f, zi_lt_t, zi_lt_f, zi_eq_t, zi_eq_f, if_true, if_false, ite_true, ite_false, true_and, and_true, false_and, and_false, not_true_eq_false, not_false_eq_true, true_or, or_true, false_or, or_false, and_self, ge_iff_le, gt_iff_lt]
    · have f0 := (C.2.2.1 b b0 b1).1
      simp (disch := omega) only [F_M_writesBlock_96, F_M_writesBlock_139, ↓bnd_eq, bd2, bn2, Option.bind_some, Option.bind_none, f0, e, ↓reduceIte, inb, zl, zi_add, zi_sub, zi_mul, zi_neg, zi_le_t, zi_le_f, zi_lt_t, zi_lt_f, zi_eq_t, zi_eq_f, if_true, if_false, ite_true, ite_false, true_and, and_true, false_and, and_false, not_true_eq_false, not_false_eq_true, true_or, or_true, false_or, or_false, and_self, ge_iff_le, gt_iff_lt]
def QSp (v : PG) (rk : Int → Nat) (w : Int → Nat → Nat) (r : Nat) : Prop := ∀ (b : Int) (x5 d f fu1 fu2 : Nat) (x1 x1' : Int32), Blk v rk r (d + x5) b → d + x5 ≤ 30 → 32 ≤ d + f → 30 < x5 + fu1 → 30 < x5 + fu2 → ∃ L : List Int32, L.length ≤ 9 * cw v w b ∧ DoC v (fun δ => F_Pr_spell_13 (F_Pr_spell f) 1 x1 15 (zi d) fu1 (zi b) (zi x5) δ) L ∧ DoM v (fun δ => F_M_writesBlock_2 (F_M_writesBlock f) x1' fu2 (zi b) δ) L
def PSp (v : PG) (rk : Int → Nat) (w : Int → Nat → Nat) (r : Nat) : Prop := ∀ (b : Int) (d f : Nat), Blk v rk r d b → d ≤ 30 → 33 ≤ d + f → ∃ L : List Int32, L.length ≤ 9 * cw v w b ∧ DoC v (fun δ => F_Pr_spell f 1 (zi b) 15 (zi d) δ) L ∧ DoM v (fun δ => F_M_writesBlock f (zi b) δ) L
theorem psp_of {rk : Int → Nat} {w : Int → Nat → Nat} {r : Nat} (q : QSp v rk w r) : PSp v rk w r := by
  intro b d f B hd hf
  obtain ⟨f, rfl⟩ : ∃ q, f = q + 1 := ⟨f - 1, by omega⟩
  obtain ⟨L, l1, l2, l3⟩ := q b 0 d f FU FU (zi b) (zi b) B (by omega) (by omega) (by unfold FU; omega) (by unfold FU; omega)
  refine ⟨L, l1, DoC.cg (fun δ C => ?_) l2, l3⟩
  show F_Pr_spell_b (F_Pr_spell f) 1 (zi b) 15 (zi d) δ = F_Pr_spell_13 (F_Pr_spell f) 1 (zi b) 15 (zi d) FU (zi b) (zi 0) δ
  unfold F_Pr_spell_b
  rw [if_pos (by rw [show (30 : Int32) = zi 30 from zl 30, zi_le (by omega) (by omega)]; omega), zl0]
theorem qsp_none {rk : Int → Nat} {w : Int → Nat → Nat} (W : PW v) {x5 d f fu1 fu2 : Nat} {x1 x1' : Int32} (hd : d + x5 ≤ 30) (h1 : 30 < x5 + fu1) (h2 : 30 < x5 + fu2) : ∃ L : List Int32, L.length ≤ 9 * cw v w (-1) ∧ DoC v (fun δ => F_Pr_spell_13 (F_Pr_spell f) 1 x1 15 (zi d) fu1 (zi (-1)) (zi x5) δ) L ∧ DoM v (fun δ => F_M_writesBlock_2 (F_M_writesBlock f) x1' fu2 (zi (-1)) δ) L := by
  obtain ⟨fu1, rfl⟩ : ∃ q, fu1 = q + 1 := ⟨fu1 - 1, by omega⟩
  obtain ⟨fu2, rfl⟩ : ∃ q, fu2 = q + 1 := ⟨fu2 - 1, by omega⟩
  refine ⟨[], by simp, DoC.cg (fun δ C => ?_) DoC.nil, DoM.cg (fun δ C => ?_) DoM.nil⟩
  · have cb := c_isBlock C W (b := -1) (by decide)
    rw [if_neg (by omega), zl0] at cb
    by_cases q : 30 ≤ x5
    · simp (disch := omega) only [F_Pr_spell_13, F_Pr_spell_13_b, ↓bnd_eq, bd2, bn2, Option.bind_some, Option.bind_none, ↓reduceIte, inb, zl, zi_add, zi_sub, zi_mul, zi_neg, zi_le_t, zi_le_f, zi_lt_t, zi_lt_f, zi_eq_t, zi_eq_f, if_true, if_false, ite_true, ite_false, true_and, and_true, false_and, and_false, not_true_eq_false, not_false_eq_true, true_or, or_true, false_or, or_false, and_self, ge_iff_le, gt_iff_lt]
    · simp (disch := omega) only [F_Pr_spell_13, F_Pr_spell_13_b, ↓bnd_eq, bd2, bn2, Option.bind_some, Option.bind_none, cb, ↓reduceIte, inb, zl, zi_add, zi_sub, zi_mul, zi_neg, zi_le_t, zi_le_f, zi_lt_t, zi_lt_f, zi_eq_t, zi_eq_f, if_true, if_false, ite_true, ite_false, true_and, and_true, false_and, and_false, not_true_eq_false, not_false_eq_true, true_or, or_true, false_or, or_false, and_self, ge_iff_le, gt_iff_lt]
  · simp (disch := omega) only [F_M_writesBlock_2, F_M_writesBlock_2_b, ↓reduceIte, inb, zl, zi_add, zi_sub, zi_mul, zi_neg, zi_le_t, zi_le_f, zi_lt_t, zi_lt_f, zi_eq_t, zi_eq_f, if_true, if_false, ite_true, ite_false, true_and, and_true, false_and, and_false, not_true_eq_false, not_false_eq_true, true_or, or_true, false_or, or_false, and_self, ge_iff_le, gt_iff_lt]
theorem qsp_all (W : PW v) {rk : Int → Nat} (wR : RKd v rk) {w : Int → Nat → Nat} (hw : ∀ b x, (Wn v b (x : Nat) ∧ w b x = 1) ∨ (¬ Wn v b (x : Nat) ∧ w b x = 0)) : ∀ r, QSp v rk w r := by
  intro r
  induction r with
  | zero =>
    intro b x5 d f fu1 fu2 x1 x1' B hd hf h1 h2
    rcases B with rfl | ⟨-, hr, -⟩
    · exact qsp_none (rk := rk) W hd h1 h2
    · omega
  | succ r ih =>
    intro b x5 d f fu1 fu2 x1 x1' B hd hf h1 h2
    rcases B with rfl | ⟨⟨b0, b1⟩, hr, D⟩
    · exact qsp_none (rk := rk) W hd h1 h2
    · have hN := W.1
      have hk := W.k b0 b1
      have hn := W.n b0 b1
      have hh0 := W.h b0 b1 (show (0 : Int) ≤ 0 by omega) (by omega)
      have lt := anc_lt W D
      have cs := cw_sum W hw b0 b1
      have P := psp_of ih
      obtain ⟨fu1, rfl⟩ : ∃ q, fu1 = q + 1 := ⟨fu1 - 1, by omega⟩
      obtain ⟨fu2, rfl⟩ : ∃ q, fu2 = q + 1 := ⟨fu2 - 1, by omega⟩
      have ch : ∀ h : Int, 1 ≤ h → h < 5 → ∃ Lc : List Int32, Lc.length ≤ 9 * cw v w (v.2.2.2.1 b h) ∧ DoC v (fun δ => F_Pr_spell f 1 (zi (v.2.2.2.1 b h)) 15 (zi (d + 1)) δ) Lc ∧ DoM v (fun δ => F_M_writesBlock f (zi (v.2.2.2.1 b h)) δ) Lc := by
        intro h h0 h5
        have := P (v.2.2.2.1 b h) (d + 1) f (blk_ch W wR b0 b1 hr (dp_le (by omega) D) (by omega) h5) (by omega) (by omega)
        exact this
      obtain ⟨L3, a31, a32, a33, a34⟩ := hole_ok W (w := w) b0 b1 (h := 3) (by omega) (by omega) (ch 3 (by omega) (by omega))
      obtain ⟨L4, a41, a42, a43, a44⟩ := hole_ok W (w := w) b0 b1 (h := 4) (by omega) (by omega) (ch 4 (by omega) (by omega))
      obtain ⟨L1, a11, a12, a13, a14⟩ := hole_ok W (w := w) b0 b1 (h := 1) (by omega) (by omega) (ch 1 (by omega) (by omega))
      obtain ⟨L2, a21, a22, a23, a24⟩ := hole_ok W (w := w) b0 b1 (h := 2) (by omega) (by omega) (ch 2 (by omega) (by omega))
      obtain ⟨Lt, t1, t2, t3⟩ := ih (v.2.2.2.1 b 0) (x5 + 1) d f fu1 fu2 x1 x1' (blk_ch W wR b0 b1 hr D (by omega) (by omega)) (by omega) hf (by omega) (by omega)
      have tl : DoC v (fun δ97 => (F_Pr_inHole 1 (zi b) (zi 0) δ97).bind fun v104 => F_Pr_spell_13 (F_Pr_spell f) 1 x1 15 (zi d) fu1 v104 (zi ((x5 + 1 : Nat) : Int)) δ97) Lt := DoC.cg (fun δ C => bse (c_inHole C W b0 b1 (by omega) (by omega))) t2
      have c64 : DoC v (fun δ => F_Pr_spell_64 (F_Pr_spell f) 1 x1 15 (zi d) (F_Pr_spell_13 (F_Pr_spell f) 1 x1 15 (zi d) fu1) (zi b) (zi x5) δ) (L3 ++ (L4 ++ (L1 ++ (L2 ++ Lt)))) := DoC.cg (fun δ C => by
        simp only [F_Pr_spell_64, zl, zi_add, Int.natCast_add, Int.natCast_one]) (DoC.seq a33 (DoC.seq a43 (DoC.seq a13 (DoC.seq a23 tl))))
      have m64 : DoM v (fun δ => F_M_writesBlock_64 (F_M_writesBlock f) x1' (F_M_writesBlock_2 (F_M_writesBlock f) x1' fu2) FU (zi b) (zi 0) δ) (L3 ++ (L4 ++ (L1 ++ (L2 ++ Lt)))) := by
        obtain ⟨q, hq⟩ : ∃ q, FU = q + 1 + 1 + 1 + 1 + 1 := ⟨FU - 5, by unfold FU; omega⟩
        rw [hq]
        refine DoM.cg (fun δ C => ?_) (a34 x1' (F_M_writesBlock_2 (F_M_writesBlock f) x1' fu2) (F_M_writesBlock_64 (F_M_writesBlock f) x1' (F_M_writesBlock_2 (F_M_writesBlock f) x1' fu2) (q + 1 + 1 + 1 + 1)) 0 _ (DoM.cg (fun δ C => ?_) (a44 x1' (F_M_writesBlock_2 (F_M_writesBlock f) x1' fu2) (F_M_writesBlock_64 (F_M_writesBlock f) x1' (F_M_writesBlock_2 (F_M_writesBlock f) x1' fu2) (q + 1 + 1 + 1)) 1 _ (DoM.cg (fun δ C => ?_) (a14 x1' (F_M_writesBlock_2 (F_M_writesBlock f) x1' fu2) (F_M_writesBlock_64 (F_M_writesBlock f) x1' (F_M_writesBlock_2 (F_M_writesBlock f) x1' fu2) (q + 1 + 1)) 2 _ (DoM.cg (fun δ C => ?_) (a24 x1' (F_M_writesBlock_2 (F_M_writesBlock f) x1' fu2) (F_M_writesBlock_64 (F_M_writesBlock f) x1' (F_M_writesBlock_2 (F_M_writesBlock f) x1' fu2) (q + 1)) 3 _ (DoM.cg (fun δ C => ?_) t3))))))))
        · show F_M_writesBlock_64_b _ _ _ _ _ _ _ = _
          simp (disch := omega) only [F_M_writesBlock_64_b, ↓reduceIte, inb, zl, zi_add, zi_sub, zi_mul, zi_neg, zi_le_t, zi_le_f, zi_lt_t, zi_lt_f, zi_eq_t, zi_eq_f, if_true, if_false, ite_true, ite_false, true_and, and_true, false_and, and_false, not_true_eq_false, not_false_eq_true, true_or, or_true, false_or, or_false, and_self, ge_iff_le, gt_iff_lt]
        · show F_M_writesBlock_64_b _ _ _ _ _ _ _ = _
          simp (disch := omega) only [F_M_writesBlock_64_b, ↓reduceIte, inb, zl, zi_add, zi_sub, zi_mul, zi_neg, zi_le_t, zi_le_f, zi_lt_t, zi_lt_f, zi_eq_t, zi_eq_f, if_true, if_false, ite_true, ite_false, true_and, and_true, false_and, and_false, not_true_eq_false, not_false_eq_true, true_or, or_true, false_or, or_false, and_self, ge_iff_le, gt_iff_lt]
          rfl
        · show F_M_writesBlock_64_b _ _ _ _ _ _ _ = _
          simp (disch := omega) only [F_M_writesBlock_64_b, ↓reduceIte, inb, zl, zi_add, zi_sub, zi_mul, zi_neg, zi_le_t, zi_le_f, zi_lt_t, zi_lt_f, zi_eq_t, zi_eq_f, if_true, if_false, ite_true, ite_false, true_and, and_true, false_and, and_false, not_true_eq_false, not_false_eq_true, true_or, or_true, false_or, or_false, and_self, ge_iff_le, gt_iff_lt]
          rfl
        · show F_M_writesBlock_64_b _ _ _ _ _ _ _ = _
          simp (disch := omega) only [F_M_writesBlock_64_b, ↓reduceIte, inb, zl, zi_add, zi_sub, zi_mul, zi_neg, zi_le_t, zi_le_f, zi_lt_t, zi_lt_f, zi_eq_t, zi_eq_f, if_true, if_false, ite_true, ite_false, true_and, and_true, false_and, and_false, not_true_eq_false, not_false_eq_true, true_or, or_true, false_or, or_false, and_self, ge_iff_le, gt_iff_lt]
          rfl
        · have g := C.2.2.2.1 b 0 b0 b1 (by omega) (by omega)
          show F_M_writesBlock_64_b _ _ _ _ _ _ _ = _
          simp (disch := omega) only [F_M_writesBlock_64_b, g, ↓bnd_eq, bd2, bn2, Option.bind_some, Option.bind_none, ↓reduceIte, inb, zl, zi_add, zi_sub, zi_mul, zi_neg, zi_le_t, zi_le_f, zi_lt_t, zi_lt_f, zi_eq_t, zi_eq_f, if_true, if_false, ite_true, ite_false, true_and, and_true, false_and, and_false, not_true_eq_false, not_false_eq_true, true_or, or_true, false_or, or_false, and_self, ge_iff_le, gt_iff_lt]
      by_cases qk : v.2.2.1 b 0 = 1 ∨ v.2.2.1 b 0 = 6 ∨ v.2.2.1 b 0 = 13
      · obtain ⟨Ln, n1, n2, n3⟩ := nu (v := v) hn
        have e3 := a32 (by unfold HH; omega)
        have e4 := a42 (by unfold HH; omega)
        have e1 := a12 (by unfold HH; omega)
        have e2 := a22 (by unfold HH; omega)
        have hnum : F_Bs_hasNumber (zi (v.2.2.1 b 0)) = zi 1 := by
          rcases qk with e | e | e <;> rw [e] <;> decide
        refine ⟨[zi (97 + v.2.2.1 b 0)] ++ (Ln ++ (L3 ++ (L4 ++ (L1 ++ (L2 ++ Lt))))), ?_, DoC.cg (fun δ C => ?_) (DoC.seq (c_ad (zi (97 + v.2.2.1 b 0))) (G := fun δ43 => (F_Pr_numberOf 1 (zi b) δ43).bind fun v58 => (F_By_addNumber 15 v58 δ43).bind fun δ61 => F_Pr_spell_64 (F_Pr_spell f) 1 x1 15 (zi d) (F_Pr_spell_13 (F_Pr_spell f) 1 x1 15 (zi d) fu1) (zi b) (zi x5) δ61) (DoC.cg (fun δ C => ?_) (DoC.seq n2 c64))), DoM.cg (fun δ C => ?_) (DoM.seq (m_ad (zi (97 + v.2.2.1 b 0))) (G := fun δ17 => if δ17.2.1 119 23 (zi b) = zi 1 then F_M_writesBlock_52 (F_M_writesBlock f) x1' (F_M_writesBlock_2 (F_M_writesBlock f) x1' fu2) (zi b) δ17 else if δ17.2.1 119 23 (zi b) = zi 6 then F_M_writesBlock_52 (F_M_writesBlock f) x1' (F_M_writesBlock_2 (F_M_writesBlock f) x1' fu2) (zi b) δ17 else if δ17.2.1 119 23 (zi b) = zi 13 then F_M_writesBlock_52 (F_M_writesBlock f) x1' (F_M_writesBlock_2 (F_M_writesBlock f) x1' fu2) (zi b) δ17 else F_M_writesBlock_62 (F_M_writesBlock f) x1' (F_M_writesBlock_2 (F_M_writesBlock f) x1' fu2) (zi b) δ17) (DoM.cg (fun δ C => ?_) (DoM.seq n3 m64)))⟩
        · rw [e3, e4, e1, e2]
          simp
          omega
        · have cb := c_isBlock C W (b := b) (by omega)
          rw [if_pos ⟨b0, b1⟩, zl1] at cb
          have ck := c_kind C W b0 b1
          simp (disch := omega) only [F_Pr_spell_13, F_Pr_spell_13_b, ↓bnd_eq, bd2, bn2, Option.bind_some, Option.bind_none, cb, ↓bse ck, hnum, ↓reduceIte, inb, zl, zi_add, zi_sub, zi_mul, zi_neg, zi_le_t, zi_le_f, zi_lt_t, zi_lt_f, zi_eq_t, zi_eq_f, if_true, if_false, ite_true, ite_false, true_and, and_true, false_and, and_false, not_true_eq_false, not_false_eq_true, true_or, or_true, false_or, or_false, and_self, ge_iff_le, gt_iff_lt]
        · exact bse (c_num C W b0 b1)
        · have f0 := (C.2.2.1 b b0 b1).1
          simp (disch := omega) only [F_M_writesBlock_2, F_M_writesBlock_2_b, f0, ↓reduceIte, inb, zl, zi_add, zi_sub, zi_mul, zi_neg, zi_le_t, zi_le_f, zi_lt_t, zi_lt_f, zi_eq_t, zi_eq_f, if_true, if_false, ite_true, ite_false, true_and, and_true, false_and, and_false, not_true_eq_false, not_false_eq_true, true_or, or_true, false_or, or_false, and_self, ge_iff_le, gt_iff_lt]
        · obtain ⟨f0, f1, -⟩ := C.2.2.1 b b0 b1
          have e52 : F_M_writesBlock_52 (F_M_writesBlock f) x1' (F_M_writesBlock_2 (F_M_writesBlock f) x1' fu2) (zi b) δ = (F_M_writesNumber (zi (v.2.2.1 b 1)) δ).bind fun δ59 => F_M_writesBlock_64 (F_M_writesBlock f) x1' (F_M_writesBlock_2 (F_M_writesBlock f) x1' fu2) FU (zi b) (zi 0) δ59 := by
            unfold F_M_writesBlock_52
            simp (disch := omega) only [F_M_writesBlock_62, f1, ↓reduceIte, inb, zl, zi_add, zi_sub, zi_mul, zi_neg, zi_le_t, zi_le_f, zi_lt_t, zi_lt_f, zi_eq_t, zi_eq_f, if_true, if_false, ite_true, ite_false, true_and, and_true, false_and, and_false, not_true_eq_false, not_false_eq_true, true_or, or_true, false_or, or_false, and_self, ge_iff_le, gt_iff_lt]
          rcases qk with e | e | e
          · rw [e] at f0
            show (if δ.2.1 119 23 (zi b) = zi 1 then _ else _) = _
            rw [f0, if_pos rfl]; exact e52
          · rw [e] at f0
            show (if δ.2.1 119 23 (zi b) = zi 1 then _ else if δ.2.1 119 23 (zi b) = zi 6 then _ else _) = _
            rw [f0, if_neg (by decide), if_pos rfl]; exact e52
          · rw [e] at f0
            show (if δ.2.1 119 23 (zi b) = zi 1 then _ else if δ.2.1 119 23 (zi b) = zi 6 then _ else if δ.2.1 119 23 (zi b) = zi 13 then _ else _) = _
            rw [f0, if_neg (by decide), if_neg (by decide), if_pos rfl]; exact e52
      · have hnum : F_Bs_hasNumber (zi (v.2.2.1 b 0)) = zi 0 := by simp (disch := omega) only [F_Bs_hasNumber, ↓reduceIte, inb, zl, zi_add, zi_sub, zi_mul, zi_neg, zi_le_t, zi_le_f, zi_lt_t, zi_lt_f, zi_eq_t, zi_eq_f, if_true, if_false, ite_true, ite_false, true_and, and_true, false_and, and_false, not_true_eq_false, not_false_eq_true, true_or, or_true, false_or, or_false, and_self, ge_iff_le, gt_iff_lt]
        refine ⟨[zi (97 + v.2.2.1 b 0)] ++ (L3 ++ (L4 ++ (L1 ++ (L2 ++ Lt)))), ?_, DoC.cg (fun δ C => ?_) (DoC.seq (c_ad (zi (97 + v.2.2.1 b 0))) c64), DoM.cg (fun δ C => ?_) (DoM.seq (m_ad (zi (97 + v.2.2.1 b 0))) (G := fun δ17 => if δ17.2.1 119 23 (zi b) = zi 1 then F_M_writesBlock_52 (F_M_writesBlock f) x1' (F_M_writesBlock_2 (F_M_writesBlock f) x1' fu2) (zi b) δ17 else if δ17.2.1 119 23 (zi b) = zi 6 then F_M_writesBlock_52 (F_M_writesBlock f) x1' (F_M_writesBlock_2 (F_M_writesBlock f) x1' fu2) (zi b) δ17 else if δ17.2.1 119 23 (zi b) = zi 13 then F_M_writesBlock_52 (F_M_writesBlock f) x1' (F_M_writesBlock_2 (F_M_writesBlock f) x1' fu2) (zi b) δ17 else F_M_writesBlock_62 (F_M_writesBlock f) x1' (F_M_writesBlock_2 (F_M_writesBlock f) x1' fu2) (zi b) δ17) (DoM.cg (fun δ C => ?_) m64))⟩
        · simp
          omega
        · have cb := c_isBlock C W (b := b) (by omega)
          rw [if_pos ⟨b0, b1⟩, zl1] at cb
          have ck := c_kind C W b0 b1
          simp (disch := omega) only [F_Pr_spell_13, F_Pr_spell_13_b, ↓bnd_eq, bd2, bn2, Option.bind_some, Option.bind_none, cb, ↓bse ck, hnum, ↓reduceIte, inb, zl, zi_add, zi_sub, zi_mul, zi_neg, zi_le_t, zi_le_f, zi_lt_t, zi_lt_f, zi_eq_t, zi_eq_f, if_true, if_false, ite_true, ite_false, true_and, and_true, false_and, and_false, not_true_eq_false, not_false_eq_true, true_or, or_true, false_or, or_false, and_self, ge_iff_le, gt_iff_lt]
        · have f0 := (C.2.2.1 b b0 b1).1
          simp (disch := omega) only [F_M_writesBlock_2, F_M_writesBlock_2_b, f0, ↓reduceIte, inb, zl, zi_add, zi_sub, zi_mul, zi_neg, zi_le_t, zi_le_f, zi_lt_t, zi_lt_f, zi_eq_t, zi_eq_f, if_true, if_false, ite_true, ite_false, true_and, and_true, false_and, and_false, not_true_eq_false, not_false_eq_true, true_or, or_true, false_or, or_false, and_self, ge_iff_le, gt_iff_lt]
        · have f0 := (C.2.2.1 b b0 b1).1
          show (if δ.2.1 119 23 (zi b) = zi 1 then _ else if δ.2.1 119 23 (zi b) = zi 6 then _ else if δ.2.1 119 23 (zi b) = zi 13 then _ else _) = _
          rw [f0, if_neg (fun e => by have := zi_inj e (by omega) (by omega); omega), if_neg (fun e => by have := zi_inj e (by omega) (by omega); omega), if_neg (fun e => by have := zi_inj e (by omega) (by omega); omega)]
          unfold F_M_writesBlock_62
          rw [zl0]
end SPL
theorem st_write (x1 : Int32) : S2 INV (F_Bs_write x1) (F_M_write x1) := by
  intro δ I
  obtain ⟨⟨v, g, h1, h2, h4⟩, ⟨kn, gk, h3⟩, hr⟩ := id I
  obtain ⟨W, C, M⟩ := id h1
  have hN := W.1
  have hM := W.2.1
  obtain ⟨s, rfl, hs⟩ := zi_ex x1
  have ms := m_isScript M W hs
  have cs := c_isScript C W hs
  by_cases q : 0 ≤ s ∧ s < v.2.1
  · rw [if_pos q, zl1] at ms cs
    have ct := c_topOf C W q.1 q.2
    have htp := W.tp q.1 q.2
    obtain ⟨-, -, -, -, t4⟩ := M.2.2.2.2 s q.1 q.2
    by_cases qt : v.2.2.2.2 s 4 = -1
    · rw [qt] at ct t4
      refine ⟨zi (-3), δ, δ, ?_, ?_, I, rfl⟩
      · simp (disch := omega) only [F_Bs_write, ↓bnd_eq, bd2, bn2, Option.bind_some, Option.bind_none, cs, ↓bse ct, ↓reduceIte, inb, zl, zi_add, zi_sub, zi_mul, zi_neg, zi_le_t, zi_le_f, zi_lt_t, zi_lt_f, zi_eq_t, zi_eq_f, if_true, if_false, ite_true, ite_false, true_and, and_true, false_and, and_false, not_true_eq_false, not_false_eq_true, true_or, or_true, false_or, or_false, and_self, ge_iff_le, gt_iff_lt]
      · simp (disch := omega) only [F_M_write, ↓bnd_eq, bd2, bn2, Option.bind_some, Option.bind_none, ms, t4, ↓reduceIte, inb, zl, zi_add, zi_sub, zi_mul, zi_neg, zi_le_t, zi_le_f, zi_lt_t, zi_lt_f, zi_eq_t, zi_eq_f, if_true, if_false, ite_true, ite_false, true_and, and_true, false_and, and_false, not_true_eq_false, not_false_eq_true, true_or, or_true, false_or, or_false, and_self, ge_iff_le, gt_iff_lt]
    · obtain ⟨w, hw⟩ : ∃ w : Int → Nat → Nat, ∀ b x, (Wn v b (x : Nat) ∧ w b x = 1) ∨ (¬ Wn v b (x : Nat) ∧ w b x = 0) := by
        refine ⟨fun b x => @ite _ (Wn v b (x : Nat)) (Classical.propDecidable _) 1 0, fun b x => ?_⟩
        by_cases c : Wn v b (x : Nat)
        · exact Or.inl ⟨c, @if_pos _ (Classical.propDecidable _) c _ _ _⟩
        · exact Or.inr ⟨c, @if_neg _ (Classical.propDecidable _) c _ _ _⟩
      obtain ⟨rk, wR⟩ := W.2.2.2.2
      obtain ⟨L, l1, l2, l3⟩ := psp_of (qsp_all W wR hw (rk (v.2.2.2.2 s 4) + 1)) (v.2.2.2.2 s 4) 0 RF (Or.inr ⟨by omega, by omega, fun i hi => by
        have : i = 0 := by omega
        subst this
        show 0 ≤ v.2.2.2.2 s 4 ∧ v.2.2.2.2 s 4 < v.1
        omega⟩) (by omega) (by decide)
      have hlen : L.length ≤ 270 := by
        have e : cw v w (v.2.2.2.2 s 4) = sumN (w (v.2.2.2.2 s 4)) (v.1).toNat := by unfold cw; rw [if_neg qt]
        have := sumN_le (f := w (v.2.2.2.2 s 4)) (v.1).toNat (fun x => by rcases hw (v.2.2.2.2 s 4) x with h | h <;> omega)
        omega
      obtain ⟨d1, e1, A1⟩ := l2 (sI δ 10 15 (zi 0)) 0 C sI_at (by omega) (by omega)
      have F1 : Fr (fun f a => (a = 15 ∧ 10 ≤ f ∧ f ≤ 11)) δ d1 := (Fr.sI (S := fun f a => (a = 15 ∧ 10 ≤ f ∧ f ≤ 11)) Fr.rf ⟨rfl, by decide, by decide⟩).tr (A1.2.1.to (fun f a e => by
        have := e.2
        exact ⟨e.1, by omega, by omega⟩))
      have M1 : MP (sI d1 168 23 (zi 0)) v := by
        have : MP d1 v := M.fr F1 (fun f q1 q2 e => absurd e.1 (by decide))
        exact this
      obtain ⟨d2, e2, A2⟩ := l3 (sI d1 168 23 (zi 0)) 0 M1 sI_at (by omega) (by omega)
      have F2 : Fr (fun f a => (a = 23 ∧ 167 ≤ f ∧ f ≤ 168)) d1 d2 := (Fr.sI (S := fun f a => (a = 23 ∧ 167 ≤ f ∧ f ≤ 168)) Fr.rf ⟨rfl, by decide, by decide⟩).tr (A2.2.1.to (fun f a e => by
        have := e.2
        exact ⟨e.1, by omega, by omega⟩))
      have F : Fr (fun f a => (a = 15 ∧ 10 ≤ f ∧ f ≤ 11) ∨ (a = 23 ∧ 167 ≤ f ∧ f ≤ 168)) δ d2 := (Fr.to (S' := fun f a => (a = 15 ∧ 10 ≤ f ∧ f ≤ 11) ∨ (a = 23 ∧ 167 ≤ f ∧ f ≤ 168)) F1 (fun f a e => Or.inl e)).tr (F2.to (fun f a e => Or.inr e))
      have b1 : d1.1 10 15 = zi L.length := by rw [A1.1]; congr 1; omega
      have b2 : d2.1 168 23 = zi L.length := by rw [A2.1]; congr 1; omega
      have o10 : d2.1 10 15 = zi L.length := by rw [(F2.2 10 15 (fun e => absurd e.1 (by decide))).1]; exact b1
      have o11 : d2.2.1 11 15 = d1.2.1 11 15 := (F2.2 11 15 (fun e => absurd e.1 (by decide))).2
      refine ⟨zi L.length, d1, d2, ?_, ?_, I.jr F (fun f a e => Or.inl ?_) (I.2.2.s9 F (fun f a e => Or.inl e) ⟨L.length, ⟨by omega, by omega⟩, o10, b2, fun i i0 i1 => ?_⟩), by rw [F.1]⟩
      · simp only [F_Bs_write, zl, zi_add, zi_sub, zi_mul, zi_neg]
        have e1' : F_Pr_spell RF 1 (zi (v.2.2.2.2 s 4)) 15 (zi 0) (F_By_clear 15 δ) = some d1 := e1
        simp (disch := omega) only [↓bnd_eq, bd2, bn2, Option.bind_some, Option.bind_none, cs, ↓bse ct, ↓bse e1', b1, ↓reduceIte, inb, zl, zi_add, zi_sub, zi_mul, zi_neg, zi_le_t, zi_le_f, zi_lt_t, zi_lt_f, zi_eq_t, zi_eq_f, if_true, if_false, ite_true, ite_false, true_and, and_true, false_and, and_false, not_true_eq_false, not_false_eq_true, true_or, or_true, false_or, or_false, and_self, ge_iff_le, gt_iff_lt]
      · have ms1 : F_M_isScript (zi s) d1 = zi 1 := by
          have := m_isScript (M.fr F1 (fun f q1 q2 e => absurd e.1 (by decide))) W hs
          rw [if_pos q, zl1] at this
          exact this
        have t4' : d1.2.1 130 23 (zi s) = zi (v.2.2.2.2 s 4) := by rw [(F1.2 130 23 (fun e => absurd e.1 (by decide))).2]; exact t4
        simp (disch := omega) only [F_M_write, ↓bnd_eq, bd2, bn2, Option.bind_some, Option.bind_none, ms1, t4', q2I, ↓bse e2, b2, ↓reduceIte, inb, zl, zi_add, zi_sub, zi_mul, zi_neg, zi_le_t, zi_le_f, zi_lt_t, zi_lt_f, zi_eq_t, zi_eq_f, if_true, if_false, ite_true, ite_false, true_and, and_true, false_and, and_false, not_true_eq_false, not_false_eq_true, true_or, or_true, false_or, or_false, and_self, ge_iff_le, gt_iff_lt]
      · show (a = 14 ∧ 10 ≤ f ∧ f ≤ 11) ∨ (16 ≤ a ∧ a ≤ 17 ∧ 80 ≤ f ∧ f ≤ 85) ∨ (a = 0 ∧ 103 ≤ f ∧ f ≤ 107) ∨ (a = 15 ∧ 10 ≤ f ∧ f ≤ 11) ∨ (19 ≤ a ∧ a ≤ 22 ∧ 22 ≤ f ∧ f ≤ 23) ∨ (a = 18 ∧ 60 ≤ f ∧ f ≤ 62) ∨ (a = 23 ∧ ((153 ≤ f ∧ f ≤ 173) ∨ f = 177))
        omega
      · obtain ⟨j, rfl⟩ : ∃ j : Nat, i = j := ⟨i.toNat, by omega⟩
        have u1 := A1.2.2.2 j (by omega)
        have u2 := A2.2.2.2 j (by omega)
        rw [show (0 : Int) + j = j by omega] at u1 u2
        rw [o11, u1, u2]
  · rw [if_neg q, zl0] at ms cs
    refine ⟨zi (-1), δ, δ, ?_, ?_, I, rfl⟩
    · simp (disch := omega) only [F_Bs_write, ↓bnd_eq, bd2, bn2, Option.bind_some, Option.bind_none, cs, ↓reduceIte, inb, zl, zi_add, zi_sub, zi_mul, zi_neg, zi_le_t, zi_le_f, zi_lt_t, zi_lt_f, zi_eq_t, zi_eq_f, if_true, if_false, ite_true, ite_false, true_and, and_true, false_and, and_false, not_true_eq_false, not_false_eq_true, true_or, or_true, false_or, or_false, and_self, ge_iff_le, gt_iff_lt]
    · simp (disch := omega) only [F_M_write, ↓bnd_eq, bd2, bn2, Option.bind_some, Option.bind_none, ms, ↓reduceIte, inb, zl, zi_add, zi_sub, zi_mul, zi_neg, zi_le_t, zi_le_f, zi_lt_t, zi_lt_f, zi_eq_t, zi_eq_f, if_true, if_false, ite_true, ite_false, true_and, and_true, false_and, and_false, not_true_eq_false, not_false_eq_true, true_or, or_true, false_or, or_false, and_self, ge_iff_le, gt_iff_lt]
