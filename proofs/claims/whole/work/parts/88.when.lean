/-! reading WHEN and a whole part, on both sides (wip/whole/pure) -/
def wr (k x3 : Nat) : List Int := ((whL.drop (6 * k + x3)).take (6 - x3)).filter (fun u => decide (u ≠ 0))
theorem wr_0 : ∀ k : Nat, k < 4 → wr k 0 = wl (k + 1) := by decide
theorem wr_6 : ∀ k : Nat, k < 4 → wr k 6 = [] := by decide
theorem wr_s : ∀ k : Nat, k < 4 → ∀ x : Nat, x < 6 → (0 ≤ whL.getD (6 * k + x) 0 ∧ whL.getD (6 * k + x) 0 ≤ 255) ∧ wr k x = if whL.getD (6 * k + x) 0 = 0 then wr k (x + 1) else whL.getD (6 * k + x) 0 :: wr k (x + 1) := by decide
section WN
variable {n : Int} {T : Int → Int} {c m : Dl} {w : Nat} {i : Int}
theorem J13.s175 {m' : Dl} (h : J13 m) (F : Fr SPm m m') : J13 m' := h.fr F (by decide)
theorem m_56_no {k : Nat} {p : Int} {x3 : Nat} (hx : x3 ≤ 6) {fu : Nat} (R : RD p 1 m) : F_M_readsPart_56 (zi i) (fu + 1) (zi k) (zi x3) m = F_M_readsPart_104 (zi i) (zi k) m := by
  show F_M_readsPart_56_b (zi i) (F_M_readsPart_56 (zi i) fu) (zi k) (zi x3) m = _
  unfold F_M_readsPart_56_b
  by_cases q : x3 = 6
  · rw [if_pos (by rw [show (6 : Int32) = zi 6 from zl 6, zi_le (by omega) (by omega)]; omega)]
  · rw [if_neg (by rw [show (6 : Int32) = zi 6 from zl 6, zi_le (by omega) (by omega)]; omega), R.2, if_neg (by decide)]
theorem m_56 (tw : TW n T) {k : Nat} (hk : k < 4) : ∀ (j x3 fu : Nat) (m : Dl) (p : Int), x3 + j = 6 → j < fu → TPm n T m → J13 m → 0 ≤ p → p ≤ n → RD p 0 m → ∃ m', F_M_readsPart_56 (zi i) fu (zi k) (zi x3) m = F_M_readsPart_104 (zi i) (zi k) m' ∧ RD (rdL (bt n T) (wr k x3) p) (fz (okL (bt n T) (wr k x3) p)) m' ∧ Fr S175 m m' := by
  intro j
  induction j with
  | zero =>
    intro x3 fu m p hj hf hT h13 p0 p1 R
    obtain ⟨fu, rfl⟩ : ∃ q, fu = q + 1 := ⟨fu - 1, by omega⟩
    have : x3 = 6 := by omega
    subst this
    rw [wr_6 k hk]
    refine ⟨m, ?_, R, Fr.rf⟩
    show F_M_readsPart_56_b (zi i) (F_M_readsPart_56 (zi i) fu) (zi k) (zi (6 : Nat)) m = _
    unfold F_M_readsPart_56_b
    rw [if_pos (by decide)]
  | succ j ih =>
    intro x3 fu m p hj hf hT h13 p0 p1 R
    obtain ⟨fu, rfl⟩ : ∃ q, fu = q + 1 := ⟨fu - 1, by omega⟩
    obtain ⟨hb, hs⟩ := wr_s k hk x3 (by omega)
    have e177 : m.2.1 177 23 (zi (6 * (k : Int) + (x3 : Int))) = zi (whL.getD (6 * k + x3) 0) := h13 (6 * k + x3) (by omega)
    have hz : (6 : Int32) * zi k + zi x3 = zi (6 * (k : Int) + (x3 : Int)) := by rw [show (6 : Int32) = zi 6 from zl 6, zi_mul, zi_add]
    have h1 : zi (x3 : Int) + 1 = zi ((x3 + 1 : Nat) : Int) := by rw [show (1 : Int32) = zi 1 from zl 1, zi_add]; rfl
    have hin : inb (zi (6 * (k : Int) + (x3 : Int))) 24 := by
      unfold inb
      rw [zl0, show (24 : Int32) = zi 24 from zl 24, zi_le (by omega) (by omega), zi_lt (by omega) (by omega)]
      omega
    have e : F_M_readsPart_56 (zi i) (fu + 1) (zi k) (zi x3) m = if zi (whL.getD (6 * k + x3) 0) = 0 then F_M_readsPart_56 (zi i) fu (zi k) (zi ((x3 + 1 : Nat) : Int)) m else (F_M_must (zi (whL.getD (6 * k + x3) 0)) m).bind fun δ95 => F_M_readsPart_56 (zi i) fu (zi k) (zi ((x3 + 1 : Nat) : Int)) δ95 := by
      show F_M_readsPart_56_b (zi i) (F_M_readsPart_56 (zi i) fu) (zi k) (zi x3) m = _
      unfold F_M_readsPart_56_b F_M_readsPart_98
      rw [if_neg (by rw [show (6 : Int32) = zi 6 from zl 6, zi_le (by omega) (by omega)]; omega), R.2, if_pos (by decide), hz, if_pos hin, e177, if_pos hin, h1]
    rw [e]
    by_cases q : whL.getD (6 * k + x3) 0 = 0
    · rw [if_pos (by rw [q]; decide), hs, if_pos q]
      exact ih (x3 + 1) fu m p (by omega) (by omega) hT h13 p0 p1 R
    · rw [if_neg (fun e => q (zi_inj (e.trans (zl 0)) (by omega) (by decide))), hs, if_neg q]
      obtain ⟨m1, d1, F1, a1, a2⟩ := m_must tw hT p0 p1 hb R.1 R.2
      rw [d1, Option.bind_some]
      have hbt := bt_b tw p0
      show ∃ m', F_M_readsPart_56 (zi i) fu (zi k) (zi ((x3 + 1 : Nat) : Int)) m1 = F_M_readsPart_104 (zi i) (zi k) m' ∧ RD (if bt n T p = whL.getD (6 * k + x3) 0 then rdL (bt n T) (wr k (x3 + 1)) (p + 1) else p) (fz (if bt n T p = whL.getD (6 * k + x3) 0 then okL (bt n T) (wr k (x3 + 1)) (p + 1) else false)) m' ∧ Fr S175 m m'
      by_cases qb : bt n T p = whL.getD (6 * k + x3) 0
      · rw [if_pos qb] at a1 a2
        rw [if_pos qb, if_pos qb]
        obtain ⟨m', h1, h2, h3⟩ := ih (x3 + 1) fu m1 (p + 1) (by omega) (by omega) (hT.s175 F1) (h13.s175 (spm F1)) (by omega) (by omega) ⟨a1, a2⟩
        exact ⟨m', h1, h2, F1.tr h3⟩
      · rw [if_neg qb] at a1 a2
        rw [if_neg qb, if_neg qb]
        obtain ⟨fu, rfl⟩ : ∃ q, fu = q + 1 := ⟨fu - 1, by omega⟩
        exact ⟨m1, m_56_no (by omega) ⟨a1, a2⟩, ⟨a1, a2⟩, F1⟩
/-- which WHEN its first letter tells: 4 is none -/
def kO (b : Int) : Nat := if b = 101 then 0 else if b = 97 then 1 else if b = 110 then 2 else if b = 111 then 3 else 4
theorem m_find (tw : TW n T) (hT : TPm n T m) (h13 : J13 m) {p : Int} (p0 : 0 ≤ p) (p1 : p ≤ n) {fl : Int} (R : RD p fl m) : F_M_readsPart (zi i) m = F_M_readsPart_33 (zi i) (zi (kO (bt n T p))) m := by
  have em := m_at tw hT p0 p1
  have hb := bt_b tw p0
  have st : ∀ (k fu : Nat), k < 4 → F_M_readsPart_2 (zi i) (fu + 1) (zi k) m = if bt n T p = whL.getD (6 * k) 0 then F_M_readsPart_33 (zi i) (zi k) m else F_M_readsPart_2 (zi i) fu (zi ((k + 1 : Nat) : Int)) m := by
    intro k fu hk
    obtain ⟨hw, -⟩ := wr_s k hk 0 (by decide)
    rw [Nat.add_zero] at hw
    have e177 : m.2.1 177 23 (zi (6 * (k : Int))) = zi (whL.getD (6 * k) 0) := by
      have := h13 (6 * k) (by omega)
      rw [← this]
      rfl
    have h1 : zi (k : Int) + 1 = zi ((k + 1 : Nat) : Int) := by rw [show (1 : Int32) = zi 1 from zl 1, zi_add]; rfl
    have hin : inb (zi (6 * (k : Int))) 24 := by
      unfold inb
      rw [zl0, show (24 : Int32) = zi 24 from zl 24, zi_le (by omega) (by omega), zi_lt (by omega) (by omega)]
      omega
    show F_M_readsPart_2_b (zi i) (F_M_readsPart_2 (zi i) fu) (zi k) m = _
    unfold F_M_readsPart_2_b
    rw [if_neg (by rw [show (4 : Int32) = zi 4 from zl 4, zi_le (by omega) (by omega)]; omega), R.1, bse em, show (6 : Int32) = zi 6 from zl 6, zi_mul, if_pos hin, e177, h1]
    by_cases q : bt n T p = whL.getD (6 * k) 0
    · rw [if_pos q, if_pos (by rw [q])]
    · rw [if_neg q, if_neg (fun e => q (zi_inj e (by omega) (by omega)))]
  obtain ⟨f, hf⟩ : ∃ f, FU = f + 5 := ⟨FU - 5, by unfold FU; omega⟩
  unfold F_M_readsPart
  rw [hf, zl0]
  have s0 := st 0 (f + 4) (by decide)
  have s1 := st 1 (f + 3) (by decide)
  have s2 := st 2 (f + 2) (by decide)
  have s3 := st 3 (f + 1) (by decide)
  have s4 : F_M_readsPart_2 (zi i) (f + 1) (zi ((3 + 1 : Nat) : Int)) m = F_M_readsPart_33 (zi i) (zi ((4 : Nat) : Int)) m := by
    show F_M_readsPart_2_b (zi i) (F_M_readsPart_2 (zi i) f) (zi ((3 + 1 : Nat) : Int)) m = _
    unfold F_M_readsPart_2_b
    rw [if_pos (by decide)]
  show F_M_readsPart_2 (zi i) (f + 4 + 1) (zi ((0 : Nat) : Int)) m = _
  rw [s0]
  unfold kO
  by_cases q0 : bt n T p = 101
  · rw [if_pos (show bt n T p = whL.getD (6 * 0) 0 from q0), if_pos q0]
  rw [if_neg (show ¬ bt n T p = whL.getD (6 * 0) 0 from q0), if_neg q0]
  show F_M_readsPart_2 (zi i) (f + 3 + 1) (zi ((1 : Nat) : Int)) m = _
  rw [s1]
  by_cases q1 : bt n T p = 97
  · rw [if_pos (show bt n T p = whL.getD (6 * 1) 0 from q1), if_pos q1]
  rw [if_neg (show ¬ bt n T p = whL.getD (6 * 1) 0 from q1), if_neg q1]
  show F_M_readsPart_2 (zi i) (f + 2 + 1) (zi ((2 : Nat) : Int)) m = _
  rw [s2]
  by_cases q2 : bt n T p = 110
  · rw [if_pos (show bt n T p = whL.getD (6 * 2) 0 from q2), if_pos q2]
  rw [if_neg (show ¬ bt n T p = whL.getD (6 * 2) 0 from q2), if_neg q2]
  show F_M_readsPart_2 (zi i) (f + 1 + 1) (zi ((3 : Nat) : Int)) m = _
  rw [s3]
  by_cases q3 : bt n T p = 111
  · rw [if_pos (show bt n T p = whL.getD (6 * 3) 0 from q3), if_pos q3]
  rw [if_neg (show ¬ bt n T p = whL.getD (6 * 3) 0 from q3), if_neg q3]
  exact s4
theorem kO_le {b : Int} : kO b ≤ 4 := by
  unfold kO
  split
  · decide
  · split
    · decide
    · split
      · decide
      · split <;> decide
/-- a part, read behind a fault -/
theorem m_part_no (tw : TW n T) (hT : TPm n T m) (h13 : J13 m) (hi : 0 ≤ i ∧ i < 4) {p : Int} (p0 : 0 ≤ p) (p1 : p ≤ n) (R : RD p 1 m) : ∃ m', F_M_readsPart (zi i) m = some m' ∧ RD p 1 m' ∧ Fr SPm m m' := by
  rw [m_find tw hT h13 p0 p1 R]
  obtain ⟨R1, F1⟩ := rd176 (x := zi 1) R rfl
  have hk := kO_le (b := bt n T p)
  unfold F_M_readsPart_33 F_M_readsPart_46 F_M_readsPart_51
  rw [R.2, if_neg (by decide), show (1 : Int32) = zi 1 from zl 1, if_pos (by decide), bnd_eq]
  obtain ⟨f, hf⟩ : ∃ f, FU = f + 1 := ⟨FU - 1, by unfold FU; omega⟩
  have e := m_56_no (i := i) (k := kO (bt n T p)) (x3 := 0) (by decide) (fu := f) R1
  obtain ⟨m', g1, g2, g3⟩ := m_104_no (x2 := zi (kO (bt n T p))) tw (hT.s175 F1) hi p0 p1 R1
  refine ⟨m', ?_, g2, (spm F1).tr g3⟩
  rw [hf, zl0]
  exact e.trans g1
abbrev SWf (w : Nat) : Nat → Nat → Prop := fun f a => a = w ∧ 81 ≤ f ∧ f ≤ 86
/-- a part, read -/
theorem lk_part (tw : TW n T) (hw : w = 16 ∨ w = 17) (hi : 0 ≤ i ∧ i < 4) {p : Int} (hc : TPc n T c) (hm : TPm n T m) (h13 : J13 m) (p0 : 0 ≤ p) (p1 : p ≤ n) (e86 : c.1 86 w = zi p) (R : RD p 0 m) :
    ∃ (p' : Int) (ok : Bool) (c' m' : Dl), (p ≤ p' ∧ p' ≤ n) ∧ F_Wi_readPart w 14 (zi i) c = some (zi (oz ok), c') ∧ F_M_readsPart (zi i) m = some m' ∧ c'.1 86 w = zi p' ∧ RD p' (fz ok) m' ∧ Fr (SWf w) c c' ∧ Fr SPm m m' ∧ (ok = true → ∃ k : Int, (0 ≤ k ∧ k ≤ 3) ∧ PP w i (zi k) c c' m m' ∧ ∀ q, 0 ≤ q → q < 4 → c'.2.1 81 w (zi q) = if q = k then c.2.1 81 w (zi k) ||| (zi 1 <<< (zi i &&& zi 31)) else c.2.1 81 w (zi q)) := by
  have hn := tw.1
  have ec := c_at tw hc p0 p1
  have hb := bt_b tw p0
  have z1 : (1 : Int32) = zi 1 := zl 1
  have toN : ∀ {k : Int} {x : Int32}, x = zi k → (-2147483648 ≤ k ∧ k < 2147483648) → bt n T p ≠ k → ¬ zi (bt n T p) = x := fun hx hk h e => h (zi_inj (e.trans hx) (by omega) hk)
  have eP : ∀ (ok : Bool) (c1 : Dl), F_Wi_readWhen w 14 (zi i) c = some (zi (oz ok), c1) → F_Wi_readPart w 14 (zi i) c = if zi (oz ok) = 0 then some (0, c1) else bd2 (F_Wi_readWord w 14 5 c1) fun v24 δ24 => if v24 = 0 then (some (0, δ24)) else cE w i δ24 := by
    intro ok c1 e
    unfold F_Wi_readPart
    rw [zl0, if_neg (by rw [zi_lt (by omega) (by omega)]; omega), if_pos (by rw [show (4 : Int32) = zi 4 from zl 4, zi_lt (by omega) (by omega)]; omega), b2e e]
    unfold cE
    rw [zl0]
  -- WHEN is none
  by_cases qk : kO (bt n T p) = 4
  · have hne : bt n T p ≠ 101 ∧ bt n T p ≠ 97 ∧ bt n T p ≠ 110 ∧ bt n T p ≠ 111 := by
      refine ⟨fun e => ?_, fun e => ?_, fun e => ?_, fun e => ?_⟩ <;> (rw [e] at qk; revert qk; decide)
    have ew : F_Wi_readWhen w 14 (zi i) c = some (zi (oz false), c) := by
      unfold F_Wi_readWhen
      rw [e86, bse ec, if_neg (toN (zl 97) (by decide) hne.2.1), if_neg (toN (zl 101) (by decide) hne.1), if_neg (toN (zl 110) (by decide) hne.2.2.1), if_neg (toN (zl 111) (by decide) hne.2.2.2), zl0]
      rfl
    obtain ⟨R1, F1⟩ := rd176 (x := zi 1) R rfl
    obtain ⟨f, hf⟩ : ∃ f, FU = f + 1 := ⟨FU - 1, by unfold FU; omega⟩
    have e := m_56_no (i := i) (k := 4) (x3 := 0) (by decide) (fu := f) R1
    obtain ⟨m', g1, g2, g3⟩ := m_104_no (x2 := zi (4 : Nat)) tw (hm.s175 F1) hi p0 p1 R1
    refine ⟨p, false, c, m', ⟨Int.le_refl _, p1⟩, ?_, ?_, e86, g2, Fr.rf, (spm F1).tr g3, fun e => absurd e (by decide)⟩
    · rw [eP false c ew, if_pos (by decide), zl0]
      rfl
    · rw [m_find tw hm h13 p0 p1 R, qk]
      unfold F_M_readsPart_33 F_M_readsPart_46 F_M_readsPart_51
      rw [R.2, if_pos (by decide), if_pos (by decide), z1, if_pos (by decide), bnd_eq, hf, zl0]
      exact e.trans g1
  · have hk4 := kO_le (b := bt n T p)
    have hk : kO (bt n T p) < 4 := by omega
    -- the word, the reference
    obtain ⟨R1, F1⟩ := rd176 (x := zi 0) R rfl
    obtain ⟨m2, g2, R2, F2⟩ := m_56 (i := i) tw hk 6 0 FU (sI m 176 23 (zi 0)) p (by omega) (by unfold FU; omega) (hm.s175 F1) (h13.s175 (spm F1)) p0 p1 R1
    rw [wr_0 _ hk] at R2
    have er : F_M_readsPart (zi i) m = F_M_readsPart_104 (zi i) (zi (kO (bt n T p))) m2 := by
      rw [m_find tw hm h13 p0 p1 R, ← g2]
      unfold F_M_readsPart_33 F_M_readsPart_51
      rw [R.2, if_pos (by decide), if_neg (by rw [show (4 : Int32) = zi 4 from zl 4, zi_eq (by omega) (by omega)]; omega), zl0, if_pos (by decide), bnd_eq]
      rfl
    -- the word, the class
    have FC1 : Fr (SWf w) c (sA c 81 w (zi (kO (bt n T p))) (c.2.1 81 w (zi (kO (bt n T p))) ||| (zi 1 <<< (zi i &&& zi 31)))) := Fr.rf.sA ⟨rfl, by decide, by decide⟩
    obtain ⟨c2, d2, G2, k86⟩ := c_word (c := sA c 81 w (zi (kO (bt n T p))) (c.2.1 81 w (zi (kO (bt n T p))) ||| (zi 1 <<< (zi i &&& zi 31)))) tw (q := kO (bt n T p) + 1) (by omega) hw (hc.fr FC1 (fun e => absurd e.2 (by decide)) (fun e => absurd e.2 (by decide))) p0 p1 (show (sA c 81 w (zi (kO (bt n T p))) (c.2.1 81 w (zi (kO (bt n T p))) ||| (zi 1 <<< (zi i &&& zi 31)))).1 86 w = zi p from e86)
    have FC2 : Fr (SWf w) c c2 := FC1.tr (G2.to (fun f a e => ⟨e.1, by rw [e.2]; decide, by rw [e.2]; decide⟩))
    have e90 : ∀ (x3 : Int32) (x4 : Nat), x3 = zi (kO (bt n T p)) → x4 = kO (bt n T p) + 1 → F_Wi_readWhen_90 w 14 (zi i) x3 x4 c = some (zi (oz (okL (bt n T) (wl (kO (bt n T p) + 1)) p)), c2) := by
      intro x3 x4 h3 h4
      subst h3 h4
      have hin : inb (zi (kO (bt n T p))) 4 := by
        unfold inb
        rw [zl0, show (4 : Int32) = zi 4 from zl 4, zi_le (by omega) (by omega), zi_lt (by omega) (by omega)]
        omega
      unfold F_Wi_readWhen_90
      rw [if_pos hin, if_pos hin, bnd_eq, z1, show (31 : Int32) = zi 31 from zl 31, b2e d2, if_pos (by
        cases okL (bt n T) (wl (kO (bt n T p) + 1)) p <;> decide)]
    have ew : F_Wi_readWhen w 14 (zi i) c = some (zi (oz (okL (bt n T) (wl (kO (bt n T p) + 1)) p)), c2) := by
      unfold F_Wi_readWhen
      rw [e86, bse ec]
      by_cases q1 : bt n T p = 97
      · rw [if_pos (by rw [q1]; decide)]
        exact e90 _ _ (by rw [q1]; decide) (by rw [q1]; decide)
      rw [if_neg (toN (zl 97) (by decide) q1)]
      by_cases q0 : bt n T p = 101
      · rw [if_pos (by rw [q0]; decide)]
        exact e90 _ _ (by rw [q0]; decide) (by rw [q0]; decide)
      rw [if_neg (toN (zl 101) (by decide) q0)]
      by_cases q2 : bt n T p = 110
      · rw [if_pos (by rw [q2]; decide)]
        exact e90 _ _ (by rw [q2]; decide) (by rw [q2]; decide)
      rw [if_neg (toN (zl 110) (by decide) q2)]
      by_cases q3 : bt n T p = 111
      · rw [if_pos (by rw [q3]; decide)]
        exact e90 _ _ (by rw [q3]; decide) (by rw [q3]; decide)
      exfalso
      apply qk
      unfold kO
      rw [if_neg q0, if_neg q1, if_neg q2, if_neg q3]
    have hwb := wl_b (kO (bt n T p) + 1) (by omega)
    have hle := rdL_le tw (wl (kO (bt n T p) + 1)) p p0 p1 (fun u hu => (hwb.2 u hu).1)
    have hm2 := (hm.s175 F1).s175 F2
    have hc2 : TPc n T c2 := hc.fr FC2 (fun e => absurd e.2 (by decide)) (fun e => absurd e.2 (by decide))
    have k81 : ∀ q, 0 ≤ q → q < 4 → c2.2.1 81 w (zi q) = if q = (kO (bt n T p) : Int) then c.2.1 81 w (zi (kO (bt n T p))) ||| (zi 1 <<< (zi i &&& zi 31)) else c.2.1 81 w (zi q) := fun q q0 q4 => by
      rw [(G2.2 81 w (fun e => absurd e.2 (by decide))).2, rAi]
      by_cases h : q = (kO (bt n T p) : Int)
      · rw [if_pos h, if_pos (by rw [h])]
      · rw [if_neg h, if_neg (fun e => h (zi_inj e (by omega) (by omega)))]
    generalize rdL (bt n T) (wl (kO (bt n T p) + 1)) p = p2 at *
    cases hok : okL (bt n T) (wl (kO (bt n T p) + 1)) p with
    | false =>
      rw [hok] at ew R2
      obtain ⟨m', h1, h2, h3⟩ := m_104_no (x2 := zi (kO (bt n T p))) tw hm2 hi (p := p2) (by omega) hle.2 R2
      refine ⟨p2, false, c2, m', hle, ?_, by rw [er]; exact h1, k86, h2, FC2, (((spm F1).tr (spm F2))).tr h3, fun e => absurd e (by decide)⟩
      rw [eP false c2 ew, if_pos (by decide), zl0]
      rfl
    | true =>
      rw [hok] at ew R2
      -- the blank
      have e5 : wl 5 = [32] := rfl
      obtain ⟨c3, d3, G3, k86'⟩ := c_word (q := 5) tw (by decide) hw hc2 (p := p2) (by omega) hle.2 k86
      obtain ⟨m3, g3, F3, a1, a2⟩ := m_must tw hm2 (u := 32) (p := p2) (by omega) hle.2 (by decide) R2.1 R2.2
      have FC3 : Fr (SWf w) c c3 := FC2.tr (G3.to (fun f a e => ⟨e.1, by rw [e.2]; decide, by rw [e.2]; decide⟩))
      have FM3 : Fr SPm m m3 := ((spm F1).tr (spm F2)).tr (spm F3)
      have hb2 := bt_b tw (p := p2) (by omega)
      rw [e5] at d3 k86'
      have e104' : F_M_readsPart (zi i) m = rE (zi i) (zi (kO (bt n T p))) m3 := by
        rw [er, e104, show (32 : Int32) = zi 32 from zl 32, g3]
        rfl
      by_cases q : bt n T p2 = 32
      · rw [if_pos q] at a1 a2
        have r5 : rdL (bt n T) [32] p2 = p2 + 1 := by
          show (if bt n T p2 = 32 then p2 + 1 else p2) = _
          rw [if_pos q]
        have o5 : okL (bt n T) [32] p2 = true := by
          show (if bt n T p2 = 32 then true else false) = _
          rw [if_pos q]
        rw [r5] at k86'
        rw [o5] at d3
        obtain ⟨p', ok, c', m', h1, h2, h3, h4, h5, h6, h7, h8⟩ := lk_fd (x2 := zi (kO (bt n T p))) tw hw hi (p := p2 + 1) (hc2.fr G3 (fun e => absurd e.2 (by decide)) (fun e => absurd e.2 (by decide))) (hm2.s175 F3) (by omega) (by omega) k86' ⟨a1, a2⟩
        refine ⟨p', ok, c', m', ⟨by omega, h1.2⟩, ?_, by rw [e104']; exact h3, h4, h5, FC3.tr (h6.to (fun f a e => ⟨e.1, by omega, e.2.2⟩)), FM3.tr h7, fun hk' => ?_⟩
        · rw [eP true c2 ew, if_neg (by decide), b2e d3, if_neg (by decide)]
          exact h2
        · obtain ⟨f, x, o, b, y1, y2, y3, y4, y5, y6, y7, y8, y9, y10, y11, y12, y13, y14⟩ := h8 hk'
          refine ⟨kO (bt n T p), by omega, ⟨f, x, o, b, y1, y2, y3, y4, y5, y6, y7, y8, y9, y10, y11, y12, fun f f0 f1 j j0 j4 hj => ?_, fun f f0 f1 j j0 j4 hj => ?_⟩, fun q q0 q4 => ?_⟩
          · rw [y13 f f0 f1 j j0 j4 hj, (G3.2 f w (fun e => by have := e.2; omega)).2, (G2.2 f w (fun e => by have := e.2; omega)).2, q2A, if_neg (by omega)]
          · have nf : ¬ S175 f 23 := fun e => by
              have : (23 : Nat) = 23 ∧ 175 ≤ f ∧ f ≤ 176 := e
              omega
            rw [y14 f f0 f1 j j0 j4 hj, (F3.2 f 23 nf).2, (F2.2 f 23 nf).2]
            rfl
          · rw [(h6.2 81 w (fun e => by have : w = w ∧ 82 ≤ 81 ∧ 81 ≤ 86 := e; omega)).2, (G3.2 81 w (fun e => absurd e.2 (by decide))).2]
            exact k81 q q0 q4
      · rw [if_neg q] at a1 a2
        have r5 : rdL (bt n T) [32] p2 = p2 := by
          show (if bt n T p2 = 32 then p2 + 1 else p2) = _
          rw [if_neg q]
        have o5 : okL (bt n T) [32] p2 = false := by
          show (if bt n T p2 = 32 then true else false) = _
          rw [if_neg q]
        rw [r5] at k86'
        rw [o5] at d3
        obtain ⟨m', h1, h2, h3⟩ := m_E_no (x2 := zi (kO (bt n T p))) tw (hm2.s175 F3) hi (p := p2) (by omega) hle.2 ⟨a1, a2⟩
        refine ⟨p2, false, c3, m', hle, ?_, by rw [e104']; exact h1, k86', h2, FC3, FM3.tr h3, fun e => absurd e (by decide)⟩
        rw [eP true c2 ew, if_neg (by decide), b2e d3, if_pos (by decide), zl0]
        rfl
end WN
