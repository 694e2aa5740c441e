/-! when a wish is lost, on both sides (wip/whole/pure) -/
def oI (m i : Int) : Int := if bI m i = zi 1 then 1 else 0
theorem oI_e {m i : Int} (hm : 0 ≤ m ∧ m < 16) (hi : 0 ≤ i ∧ i < 4) : bI m i = zi (oI m i) ∧ (oI m i = 0 ∨ oI m i = 1) := by
  unfold oI
  rcases (bI01 hm hi).1 with e | e <;> rw [e] <;> decide
theorem or_ex {a b : Int} (ha : 0 ≤ a ∧ a < 16) (hb : 0 ≤ b ∧ b < 16) : ∃ m : Int, (0 ≤ m ∧ m < 16) ∧ zi a ||| zi b = zi m ∧ ∀ i, 0 ≤ i → i < 4 → oI m i = onceN (oI a i) (oI b i) := by
  obtain ⟨h1, h2, h3⟩ := msk_or a.toNat (by omega) b.toNat (by omega)
  rw [Int.toNat_of_nonneg ha.1, Int.toNat_of_nonneg hb.1] at h1
  refine ⟨_, ⟨by omega, by omega⟩, h1, fun i i0 i4 => ?_⟩
  have h := h3 i.toNat (by omega)
  rw [Int.toNat_of_nonneg i0, Int.toNat_of_nonneg ha.1, Int.toNat_of_nonneg hb.1] at h
  unfold onceN
  unfold oI at *
  rw [h]
  by_cases c : bI a i = zi 1
  · rw [if_pos c, if_pos rfl, if_pos c, if_neg (fun e => absurd e.1 (by decide))]
  · rw [if_neg c, if_neg c]
    by_cases d : bI b i = zi 1
    · rw [if_pos d, if_neg (fun e => absurd e.2 (by decide))]
    · rw [if_neg d, if_pos ⟨rfl, rfl⟩]
def WS (w : Nat) (n : Int) (wh : Int → Int) (c m : Dl) : Prop := c.1 80 w = zi n ∧ m.1 155 23 = zi n ∧ (∀ i, 0 ≤ i → i < n → WP2 w c m i) ∧ WB2 w n c m ∧ ∀ i, 0 ≤ i → i < n → (0 ≤ wh i ∧ wh i ≤ 3) ∧ m.2.1 156 23 (zi i) = zi (wh i)
section MF
variable {S S' : Nat → Nat → Prop} {c c' m m' : Dl} {w : Nat} {n : Int} {wh : Int → Int}
theorem WS.fr (h : WS w n wh c m) (F : Fr S c c') (F' : Fr S' m m') (h1 : ∀ f, 80 ≤ f → f ≤ 85 → ¬ S f w) (h2 : ∀ f, 155 ≤ f → f ≤ 160 → ¬ S' f 23) : WS w n wh c' m' := by
  unfold WS WP2 WB2 at h ⊢
  rw [(F.2 80 w (h1 80 (by decide) (by decide))).1, (F.2 81 w (h1 81 (by decide) (by decide))).2, (F.2 82 w (h1 82 (by decide) (by decide))).2, (F.2 83 w (h1 83 (by decide) (by decide))).2, (F.2 84 w (h1 84 (by decide) (by decide))).2, (F.2 85 w (h1 85 (by decide) (by decide))).2, (F'.2 155 23 (h2 155 (by decide) (by decide))).1, (F'.2 156 23 (h2 156 (by decide) (by decide))).2, (F'.2 157 23 (h2 157 (by decide) (by decide))).2, (F'.2 158 23 (h2 158 (by decide) (by decide))).2, (F'.2 159 23 (h2 159 (by decide) (by decide))).2, (F'.2 160 23 (h2 160 (by decide) (by decide))).2]
  exact h
theorem RR0.frM {a p s : Nat} {v : PG} {g : SG} {k t Q : Int} (h : RR0 a p s v g k t Q c m) (F : Fr S' m m') (q : ∀ f, 110 ≤ f → f ≤ 151 → ¬ S' f 23) : RR0 a p s v g k t Q c m' := by
  obtain ⟨h1, h2, h3, h4, ⟨x, hx, t1, t2⟩, h6, h7⟩ := h
  have F0 : Fr (fun _ _ => False) c c := Fr.rf
  exact ⟨h1, h2.fr F (fun f q1 q2 => q f (by omega) (by omega)), h3.fr F ⟨q 131 (by decide) (by decide), q 110 (by decide) (by decide), q 111 (by decide) (by decide), q 113 (by decide) (by decide)⟩, h4.fr F0 F (fun f q1 q2 e => e) (fun f q1 q2 => q f (by omega) (by omega)), ⟨x, hx, t1, fun i c0 c4 => by rw [(F.2 146 23 (q 146 (by decide) (by decide))).2]; exact t2 i c0 c4⟩, h6.fr F0 F ⟨fun e => e, fun e => e, fun e => e⟩ ⟨q 132 (by decide) (by decide), q 148 (by decide) (by decide), q 149 (by decide) (by decide), q 150 (by decide) (by decide), q 151 (by decide) (by decide)⟩, h7.fr F0 F (fun f q1 q2 e => e) (fun f q1 q2 => q f (by omega) (by omega))⟩
end MF
abbrev SLm : Nat → Nat → Prop := fun g _ => (131 ≤ g ∧ g ≤ 151) ∨ g = 174 ∨ (183 ≤ g ∧ g ≤ 184)
theorem slm183 {δ δ' : Dl} (F : Fr S183 δ δ') : Fr SLm δ δ' := F.to (fun f a e => by
  have : a = 23 ∧ 183 ≤ f ∧ f ≤ 184 := e
  show (131 ≤ f ∧ f ≤ 151) ∨ f = 174 ∨ (183 ≤ f ∧ f ≤ 184)
  omega)
theorem slmR {δ δ' : Dl} (F : Fr SRm δ δ') : Fr SLm δ δ' := F.to (fun f a e => by
  have : (132 ≤ f ∧ f ≤ 151) ∨ f = 174 := e
  show (131 ≤ f ∧ f ≤ 151) ∨ f = 174 ∨ (183 ≤ f ∧ f ≤ 184)
  omega)
theorem slmB {δ δ' : Dl} (F : Fr SBm δ δ') : Fr SLm δ δ' := F.to (fun f a e => by
  have : (131 ≤ f ∧ f ≤ 151) ∨ f = 174 := e
  show (131 ≤ f ∧ f ≤ 151) ∨ f = 174 ∨ (183 ≤ f ∧ f ≤ 184)
  omega)
theorem slcR {δ δ' : Dl} (F : Fr (SRc 11 13) δ δ') : Fr (SBc 11 13) δ δ' := F.to (fun f a e => by
  have : (a = 13 ∧ 73 ≤ f ∧ f ≤ 79) ∨ (a = 11 ∧ 43 ≤ f ∧ f ≤ 53) := e
  show (a = 13 ∧ 70 ≤ f ∧ f ≤ 79) ∨ (a = 11 ∧ 42 ≤ f ∧ f ≤ 53)
  omega)
theorem w4011 : wsr 40 11 = 12 := by decide
section ML
variable {v : PG} {g : SG} {k x n : Int} {w : Nat} {wh : Int → Int}
theorem lk_look {c m : Dl} {t Q so : Int} {L : Int → Int} (wg : WG g) (hn : 0 ≤ n ∧ n ≤ 4) (hS : WS w n wh c m) (H : RR0 11 12 13 v g k t Q c m) (ht : 0 ≤ t ∧ t ≤ 40) (hx : 0 ≤ x ∧ x ≤ 40) (hso : 0 ≤ so ∧ so < 16) (hL : ∀ i, 0 ≤ i → i < n → (-1 ≤ L i ∧ L i ≤ 40) ∧ m.2.1 183 23 (zi i) = zi (L i) ∧ m.2.1 184 23 (zi i) = zi (oI so i)) :
    ∃ (M : Int) (m' : Dl) (s2 : Int), (0 ≤ M ∧ M < 16) ∧ F_Wi_partsSo w 11 c = some (zi M) ∧ F_M_looks (zi x) m = some m' ∧ Fr S183 m m' ∧ (0 ≤ s2 ∧ s2 < 16) ∧ zi so ||| zi M = zi s2 ∧ (∀ i, 0 ≤ i → i < 4 → oI s2 i = onceN (oI so i) (oI M i)) ∧ (∀ i, 0 ≤ i → i < n → m'.2.1 183 23 (zi i) = zi (lostN (wh i) (oI M i) (oI so i) (L i) t x) ∧ m'.2.1 184 23 (zi i) = zi (oI s2 i)) ∧ RR0 11 12 13 v g k t Q c m' ∧ WS w n wh c m' := by
  obtain ⟨e80, e155, P, B, hwh⟩ := hS
  obtain ⟨M, hM, e1, e2⟩ := lk_parts wg H hn e80 P
  obtain ⟨q, hq, -, e132, -⟩ := H.2.2.2.2.2.1
  obtain ⟨m', e3, F, r⟩ := m_looks (δ := m) (wh := wh) (o := oI so) (r := oI M) (L := L) hn hx ht e155 e132 (fun i i0 i1 => by
    obtain ⟨l1, l2, l3⟩ := hL i i0 i1
    obtain ⟨w1, w2⟩ := hwh i i0 i1
    obtain ⟨b1, b2⟩ := oI_e hM (i := i) ⟨i0, by omega⟩
    obtain ⟨b3, b4⟩ := oI_e hso (i := i) ⟨i0, by omega⟩
    exact ⟨w1, b4, b2, l1, w2, l2, l3, by rw [(e2 i i0 (by omega)).1 i1, b1]⟩)
  obtain ⟨s2, h2, h3, h4⟩ := or_ex hso hM
  refine ⟨M, m', s2, hM, e1, e3, F, h2, h3, h4, fun i i0 i1 => ?_, H.frM F (fun f q1 q2 e => ?_), WS.fr (c := c) (S := fun _ _ => False) ⟨e80, e155, P, B, hwh⟩ Fr.rf F (fun f q1 q2 e => e) (fun f q1 q2 e => ?_)⟩
  · rw [h4 i i0 (by omega)]; exact r i i0 i1
  · have : (23 : Nat) = 23 ∧ 183 ≤ f ∧ f ≤ 184 := e
    omega
  · have : (23 : Nat) = 23 ∧ 183 ≤ f ∧ f ≤ 184 := e
    omega
/-- both sides tick: what stays -/
theorem lk_tick2 {c m : Dl} {t : Int} (W : PW v) (wg : WG g) (hw : w = 16 ∨ w = 17) (hS : WS w n wh c m) (H : RR0 11 12 13 v g k t (6 * t) c m) (ht : 0 ≤ t ∧ t ≤ 40) : ∃ c' m', F_Ru_oneTick 11 c = some c' ∧ F_M_ticks m = some m' ∧ RR0 11 12 13 v g k (t + 1) (6 * (t + 1)) c' m' ∧ WS w n wh c' m' ∧ m'.2.1 183 23 = m.2.1 183 23 ∧ m'.2.1 184 23 = m.2.1 184 23 ∧ Fr (SRc 11 13) c c' ∧ Fr SRm m m' := by
  obtain ⟨c', m', e1, e2, R, F1, F2⟩ := lk_tick W wg w4011 wsr11 H (by omega) (by omega)
  refine ⟨c', m', e1, e2, by rw [show 6 * (t + 1) = 6 * t + 6 by omega]; exact R, hS.fr F1 F2 (fun f q1 q2 e => ?_) (fun f q1 q2 e => ?_), (F2.2 183 23 (by decide)).2, (F2.2 184 23 (by decide)).2, F1, F2⟩
  · have : (w = 13 ∧ 73 ≤ f ∧ f ≤ 79) ∨ (w = 11 ∧ 43 ≤ f ∧ f ≤ 53) := e
    omega
  · have : (132 ≤ f ∧ f ≤ 151) ∨ f = 174 := e
    omega
/-- once lost, the reference goes on to the end: the answer stays -/
theorem lk_goes {t0 : Int} (W : PW v) (wg : WG g) (hw : w = 16 ∨ w = 17) (hn : 0 ≤ n ∧ n ≤ 4) (hx : 0 ≤ x ∧ x ≤ 40) : ∀ (j : Nat) (t so : Int) (fu : Nat) (c m : Dl) (L : Int → Int), t + j = x → j < fu → (0 ≤ t0 ∧ t0 ≤ t) → RR0 11 12 13 v g k t (6 * t) c m → WS w n wh c m → (0 ≤ so ∧ so < 16) → (∀ i, 0 ≤ i → i < n → ((L i = -1 ∨ t0 ≤ L i) ∧ L i ≤ 40) ∧ m.2.1 183 23 (zi i) = zi (L i) ∧ m.2.1 184 23 (zi i) = zi (oI so i)) → (∃ i, (0 ≤ i ∧ i < n) ∧ L i = t0 ∧ (t = x ∨ wh i = 1 ∨ wh i = 2)) →
    ∃ m', F_M_loses_39 (zi k) (zi x) fu (zi t) m = some (zi t0, m') ∧ Fr SLm m m' := by
  intro j
  induction j with
  | zero =>
    intro t so fu c m L hj hf ht H hS hso hL ⟨i0, hi0, l0, _⟩
    obtain ⟨fu, rfl⟩ : ∃ q, fu = q + 1 := ⟨fu - 1, by omega⟩
    have e := m_l64 (x1 := zi k) (x2 := zi x) (L := L) hn hS.2.1 (fun i i0 i1 => ⟨by have := (hL i i0 i1).1; omega, (hL i i0 i1).2.1⟩) n.toNat 0 (-1) FU (by omega) (by omega) (by unfold FU; omega) (by omega)
    have e' := mnL_is (L := L) ht.1 n.toNat 0 (-1) (fun i i0 i1 => (hL i i0 (by omega)).1.1) (Or.inl rfl) (Or.inr ⟨i0, ⟨hi0.1, by omega⟩, l0⟩)
    rw [e'] at e
    refine ⟨m, ?_, Fr.rf⟩
    rw [← e]
    have : t = x := by omega
    subst this
    show F_M_loses_39_b (zi k) (zi t) (F_M_loses_39 (zi k) (zi t) fu) (zi t) m = _
    unfold F_M_loses_39_b
    rw [if_pos (by rw [zi_le (by omega) (by omega)]; omega)]
    rfl
  | succ j ih =>
    intro t so fu c m L hj hf ht H hS hso hL ⟨i0, hi0, l0, h0⟩
    obtain ⟨fu, rfl⟩ : ∃ q, fu = q + 1 := ⟨fu - 1, by omega⟩
    obtain ⟨c1, m1, e1, e2, H1, S1, r3, r4, F1, F2⟩ := lk_tick2 W wg hw hS H (by omega)
    obtain ⟨M, m2, s2, hM, -, e4, F4, hs2, -, -, r5, H2, S2⟩ := lk_look (L := L) (so := so) wg hn S1 H1 (by omega) hx hso (fun i i0 i1 => ⟨by have := (hL i i0 i1).1; omega, by rw [r3]; exact (hL i i0 i1).2.1, by rw [r4]; exact (hL i i0 i1).2.2⟩)
    obtain ⟨m', e, F⟩ := ih (t + 1) s2 fu c1 m2 (fun i => lostN (wh i) (oI M i) (oI so i) (L i) (t + 1) x) (by omega) (by omega) (by omega) H2 S2 hs2 (fun i i0 i1 => ⟨by
      have := (hL i i0 i1).1
      show (lostN _ _ _ _ _ _ = -1 ∨ t0 ≤ lostN _ _ _ _ _ _) ∧ lostN _ _ _ _ _ _ ≤ 40
      unfold lostN lostA
      split
      · omega
      · split <;> omega, r5 i i0 i1⟩) ⟨i0, hi0, by
      show lostN _ _ _ _ _ _ = t0
      unfold lostN lostA
      rw [if_neg (by omega), if_neg (by omega)]
      exact l0, by omega⟩
    refine ⟨m', ?_, ((slmR F2).tr (slm183 F4)).tr F⟩
    rw [← e]
    simp (disch := omega) only [F_M_loses_39, F_M_loses_39_b, ↓bse e2, ↓bse e4, ↓reduceIte, inb, zl, zi_add, zi_sub, zi_mul, zi_neg, zi_le_t, zi_le_f, zi_lt_t, zi_lt_f, zi_eq_t, zi_eq_f, if_true, if_false, ite_true, ite_false, true_and, and_true, false_and, and_false, not_true_eq_false, not_false_eq_true, true_or, or_true, false_or, or_false, and_self, ge_iff_le, gt_iff_lt]
end ML
theorem oc10 {w : Nat} (hw : w = 16 ∨ w = 17) : Oc w 10 := by rcases hw with rfl | rfl <;> decide
