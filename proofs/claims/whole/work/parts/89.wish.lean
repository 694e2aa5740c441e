/-! a wish read from the tape, on both sides (wip/whole/pure) -/
/-- a part read, the two states apart -/
def WQ (w : Nat) (wh : Int → Int) (c m : Dl) (j : Int) : Prop := (0 ≤ wh j ∧ wh j ≤ 3) ∧ ∃ f x o b : Int, (0 ≤ f ∧ f ≤ 6) ∧ (f ≤ 4 → 0 ≤ x ∧ x ≤ 2) ∧ (o = 60 ∨ o = 61 ∨ o = 62) ∧ (-999 ≤ b ∧ b ≤ 999) ∧ m.2.1 178 23 (zi j) = zi (wh j) ∧ m.2.1 179 23 (zi j) = zi (fch f) ∧ c.2.1 82 w (zi j) = zi f ∧ (f ≤ 4 → m.2.1 180 23 (zi j) = zi x ∧ c.2.1 83 w (zi j) = zi x) ∧ m.2.1 181 23 (zi j) = zi o ∧ c.2.1 84 w (zi j) = zi o ∧ m.2.1 182 23 (zi j) = zi b ∧ c.2.1 85 w (zi j) = zi b
def WM (w : Nat) (n : Int) (wh : Int → Int) (c : Dl) : Prop := ∀ q, 0 ≤ q → q < 4 → ∃ mm : Int, (0 ≤ mm ∧ mm < 16) ∧ c.2.1 81 w (zi q) = zi mm ∧ ∀ i, 0 ≤ i → i < 4 → bI mm i = if i < n ∧ wh i = q then zi 1 else zi 0
abbrev SVc (w : Nat) : Nat → Nat → Prop := fun f a => a = w ∧ 80 ≤ f ∧ f ≤ 86
section WI
variable {n : Int} {T : Int → Int} {w : Nat}
theorem svF {c c' : Dl} (F : Fr (SWf w) c c') : Fr (SVc w) c c' := F.to (fun f a e => ⟨e.1, by have := e.2; omega, by have := e.2; omega⟩)
theorem sv86 {c c' : Dl} (F : Fr (S86 w) c c') : Fr (SVc w) c c' := F.to (fun f a e => ⟨e.1, by rw [e.2]; decide, by rw [e.2]; decide⟩)
/-- " and ", byte by byte -/
theorem m_and {k14 : Int32 → Int32 → Dl → Option (Int32 × Dl)} {x1 : Int32} {m m' : Dl} (e : mustL (wl 0) m = some m') : F_M_wish_56 k14 x1 (zi 1) m = k14 x1 (zi 1) m' := by
  unfold F_M_wish_56
  rw [if_neg (by decide)]
  have : ∀ (k : Dl → Option (Int32 × Dl)), ((F_M_must 32 m).bind fun δ64 => (F_M_must 97 δ64).bind fun δ70 => (F_M_must 110 δ70).bind fun δ76 => (F_M_must 100 δ76).bind fun δ82 => (F_M_must 32 δ82).bind k) = (mustL (wl 0) m).bind k := by
    intro k
    show _ = Option.bind ((F_M_must (zi 32) m).bind fun a => (F_M_must (zi 97) a).bind fun a => (F_M_must (zi 110) a).bind fun a => (F_M_must (zi 100) a).bind fun a => (F_M_must (zi 32) a).bind fun a => some a) k
    rw [show (32 : Int32) = zi 32 from zl 32, show (97 : Int32) = zi 97 from zl 97, show (110 : Int32) = zi 110 from zl 110, show (100 : Int32) = zi 100 from zl 100]
    cases F_M_must (zi 32) m with
    | none => rfl
    | some a =>
      show Option.bind (F_M_must (zi 97) a) _ = _
      simp only [Option.bind_some]
      cases F_M_must (zi 97) a with
      | none => rfl
      | some a =>
        simp only [Option.bind_some]
        cases F_M_must (zi 110) a with
        | none => rfl
        | some a =>
          simp only [Option.bind_some]
          cases F_M_must (zi 100) a with
          | none => rfl
          | some a =>
            simp only [Option.bind_some]
            cases F_M_must (zi 32) a with
            | none => rfl
            | some a => rfl
  rw [this, e]
  rfl
/-- what comes of reading: a fault, or a wish -/
def RO (n : Int) (w : Nat) (c m : Dl) (fc fm : Option (Int32 × Dl)) : Prop := (∃ (p : Int) (c' m' : Dl), (0 ≤ p ∧ p ≤ n) ∧ fc = some (zi p, c') ∧ fm = some (zi (-10 - p), sI m' 154 23 (zi 0)) ∧ Fr (SVc w) c c' ∧ Fr SPm m m') ∨
  ∃ (N : Int) (wh : Int → Int) (c' m' : Dl), (1 ≤ N ∧ N ≤ 4) ∧ fc = some (zi (-1), c') ∧ fm = F_M_wish_143 FU (zi N) (zi 0) (sI (sI m' 154 23 (zi 0)) 155 23 (zi N)) ∧ c'.1 80 w = zi N ∧ (∀ j, 0 ≤ j → j < N → WQ w wh c' m' j) ∧ WM w N wh c' ∧ Fr (SVc w) c c' ∧ Fr SPm m m'
/-- the reference's end at a fault -/
theorem m_bad {f2 : Nat} {x1 : Int32} {p : Int} {m : Dl} (R : RD p 1 m) : F_M_wish_14 (f2 + 1) x1 (zi 0) m = some (zi (-10 - p), sI m 154 23 (zi 0)) := by
  show F_M_wish_14_b (F_M_wish_14 f2) x1 (zi 0) m = _
  unfold F_M_wish_14_b F_M_wish_116 F_M_wish_117
  rw [if_pos (by decide), R.2, if_neg (by decide), bnd_eq, zl0, if_pos rfl]
  have e : (sI m 154 23 (zi 0)).1 175 23 = zi p := by rw [q1I, if_neg (by decide)]; exact R.1
  rw [e, show (-10 : Int32) = zi (-10) by decide, zi_sub]
theorem lk_read_l (tw : TW n T) (hw : w = 16 ∨ w = 17) : ∀ (j : Nat) (i : Int) (p : Int) (wh : Int → Int) (fu f2 : Nat) (c m : Dl) (kc : Int32 → Dl → Option (Int32 × Dl)), i + j = 4 → 0 < j → j < fu → 2 * j + 1 < f2 → 0 ≤ i → kc = F_Wi_read_20 w 14 fu → TPc n T c → TPm n T m → J13 m → 0 ≤ p → p ≤ n → c.1 86 w = zi p → RD p 0 m → (∀ q, 0 ≤ q → q < i → WQ w wh c m q) → WM w i wh c → RO n w c m (F_Wi_read_44 w 14 kc (zi i) c) (F_M_wish_14 f2 (zi i) (zi 1) m) := by
  have hn := tw.1
  have z1 : (1 : Int32) = zi 1 := zl 1
  intro j
  induction j with
  | zero => intro i p wh fu f2 c m kc hi h0; omega
  | succ j ih =>
    intro i p wh fu f2 c m kc hi h0 hf hf2 i0 hk hc hm h13 p0 p1 e86 R hq hM
    obtain ⟨f2, rfl⟩ : ∃ q, f2 = q + 1 := ⟨f2 - 1, by omega⟩
    obtain ⟨p', ok, c1, m1, h1, h2, h3, h4, R1, h6, h7, h8⟩ := lk_part tw hw (i := i) (by omega) hc hm h13 p0 p1 e86 R
    have hc1 : TPc n T c1 := hc.fr h6 (fun e => by have := e.1; omega) (fun e => by have := e.1; omega)
    have hm1 : TPm n T m1 := hm.fr h7 (by decide) (by decide)
    have h131 := h13.s175 h7
    have em : F_M_wish_14 (f2 + 1) (zi i) (zi 1) m = if m1.1 176 23 = 0 then (if 4 ≤ zi (i + 1) then F_M_wish_56 (F_M_wish_14 f2) (zi (i + 1)) (zi 0) m1 else (F_M_byteAt (m1.1 175 23) m1).bind fun v43 => if v43 = 32 then F_M_wish_56 (F_M_wish_14 f2) (zi (i + 1)) (zi 1) m1 else F_M_wish_56 (F_M_wish_14 f2) (zi (i + 1)) (zi 0) m1) else F_M_wish_56 (F_M_wish_14 f2) (zi (i + 1)) (zi 0) m1 := by
      show F_M_wish_14_b (F_M_wish_14 f2) (zi i) (zi 1) m = _
      unfold F_M_wish_14_b F_M_wish_55
      rw [if_neg (by decide), bse h3, z1, zi_add, zl0]
    have e56 : F_M_wish_56 (F_M_wish_14 f2) (zi (i + 1)) (zi 0) m1 = F_M_wish_14 f2 (zi (i + 1)) (zi 0) m1 := by
      unfold F_M_wish_56
      rw [if_pos (by decide)]
    obtain ⟨f2, rfl⟩ : ∃ q, f2 = q + 1 := ⟨f2 - 1, by omega⟩
    cases ok with
    | false =>
      refine Or.inl ⟨p', c1, m1, ⟨by omega, h1.2⟩, ?_, ?_, svF h6, h7⟩
      · unfold F_Wi_read_44
        rw [b2e h2, if_pos (by decide), h4]
      · rw [em, R1.2, if_neg (by decide), e56]
        exact m_bad R1
    | true =>
      obtain ⟨k, hk3, ⟨f, x, o, b, y1, y2, y3, y4, y5, y6, y7, y8, y9, y10, y11, y12, y13, y14⟩, y15⟩ := h8 rfl
      -- the parts read so far
      have FC2 : Fr (SVc w) c (sI c1 80 w (zi (i + 1))) := (svF h6).sI ⟨rfl, by decide, by decide⟩
      have hq2 : ∀ q, 0 ≤ q → q < i + 1 → WQ w (fun y => if y = i then k else wh y) (sI c1 80 w (zi (i + 1))) m1 q := by
        intro q q0 q1
        by_cases e : q = i
        · subst e
          refine ⟨by show 0 ≤ (if q = q then k else wh q) ∧ (if q = q then k else wh q) ≤ 3; rw [if_pos rfl]; exact hk3, f, x, o, b, y1, y2, y3, y4, ?_, y6, y7, y8, y9, y10, y11, y12⟩
          show _ = zi (if q = q then k else wh q)
          rw [if_pos rfl]
          exact y5
        · obtain ⟨u1, f', x', o', b', u2, u3, u4, u5, u6, u7, u8, u9, u10, u11, u12, u13⟩ := hq q q0 (by omega)
          have rc : ∀ f, 82 ≤ f → f ≤ 85 → (sI c1 80 w (zi (i + 1))).2.1 f w (zi q) = c.2.1 f w (zi q) := fun f f0 f1 => y13 f f0 f1 q q0 (by omega) e
          have rm : ∀ f, 178 ≤ f → f ≤ 182 → m1.2.1 f 23 (zi q) = m.2.1 f 23 (zi q) := fun f f0 f1 => y14 f f0 f1 q q0 (by omega) e
          refine ⟨by show 0 ≤ (if q = i then k else wh q) ∧ (if q = i then k else wh q) ≤ 3; rw [if_neg e]; exact u1, f', x', o', b', u2, u3, u4, u5, ?_, by rw [rm 179 (by decide) (by decide)]; exact u7, by rw [rc 82 (by decide) (by decide)]; exact u8, fun hf => ⟨by rw [rm 180 (by decide) (by decide)]; exact (u9 hf).1, by rw [rc 83 (by decide) (by decide)]; exact (u9 hf).2⟩, by rw [rm 181 (by decide) (by decide)]; exact u10, by rw [rc 84 (by decide) (by decide)]; exact u11, by rw [rm 182 (by decide) (by decide)]; exact u12, by rw [rc 85 (by decide) (by decide)]; exact u13⟩
          show _ = zi (if q = i then k else wh q)
          rw [if_neg e, rm 178 (by decide) (by decide)]
          exact u6
      have hM2 : WM w (i + 1) (fun y => if y = i then k else wh y) (sI c1 80 w (zi (i + 1))) := by
        intro q q0 q4
        obtain ⟨mm, b1, b2, b3⟩ := hM q q0 q4
        have b4 := y15 q q0 q4
        by_cases e : q = k
        · subst e
          rw [if_pos rfl, b2] at b4
          obtain ⟨m2, d1, d2, d3⟩ := bI_or b1 (n := i) ⟨i0, by omega⟩
          rw [d2] at b4
          refine ⟨m2, d1, b4, fun y y0 y4 => ?_⟩
          rw [d3 y y0 y4]
          show _ = if y < i + 1 ∧ (if y = i then q else wh y) = q then zi 1 else zi 0
          by_cases ey : y = i
          · rw [if_pos ey, if_pos ⟨by omega, by rw [if_pos ey]⟩]
          · rw [if_neg ey, b3 y y0 y4, if_neg ey]
            by_cases ei : y < i
            · by_cases ew : wh y = q
              · rw [if_pos ⟨ei, ew⟩, if_pos ⟨by omega, ew⟩]
              · rw [if_neg (fun h => ew h.2), if_neg (fun h => ew h.2)]
            · rw [if_neg (fun h => ei h.1), if_neg (fun h => by have := h.1; omega)]
        · rw [if_neg e, b2] at b4
          refine ⟨mm, b1, b4, fun y y0 y4 => ?_⟩
          rw [b3 y y0 y4]
          show _ = if y < i + 1 ∧ (if y = i then k else wh y) = q then zi 1 else zi 0
          by_cases ey : y = i
          · rw [if_neg (fun h => by have := h.1; omega), if_neg (fun h => by have := h.2; rw [if_pos ey] at this; exact e this.symm)]
          · rw [if_neg ey]
            by_cases ei : y < i
            · by_cases ew : wh y = q
              · rw [if_pos ⟨ei, ew⟩, if_pos ⟨by omega, ew⟩]
              · rw [if_neg (fun h => ew h.2), if_neg (fun h => ew h.2)]
            · rw [if_neg (fun h => ei h.1), if_neg (fun h => by have := h.1; omega)]
      have e10 : (sI c1 80 w (zi (i + 1))).1 10 14 = zi n := by rw [q1I, if_neg (fun e => absurd e.1 (by decide))]; exact hc1.1
      have e86' : (sI c1 80 w (zi (i + 1))).1 86 w = zi p' := by rw [q1I, if_neg (fun e => absurd e.1 (by decide))]; exact h4
      have e80 : (sI c1 80 w (zi (i + 1))).1 80 w = zi (i + 1) := sI_at
      have ec : F_Wi_read_44 w 14 kc (zi i) c = if zi p' = zi n then some (zi (-1), sI c1 80 w (zi (i + 1))) else kc (zi (i + 1)) (sI c1 80 w (zi (i + 1))) := by
        unfold F_Wi_read_44
        rw [b2e h2, if_neg (by decide), bnd_eq, show (-1 : Int32) = zi (-1) by decide, z1, zi_add, e86', e10]
      have hb := bt_b tw (p := p') (by omega)
      have ea := m_at tw hm1 (p := p') (by omega) h1.2
      -- the reference, when it goes no further: at the end, or a fault
      have e175 : (sI m1 154 23 (zi 0)).1 175 23 = zi p' := by rw [q1I, if_neg (by decide)]; exact R1.1
      have stopE : zi p' = zi n → F_M_wish_14 (f2 + 1) (zi (i + 1)) (zi 0) m1 = F_M_wish_143 FU (zi (i + 1)) (zi 0) (sI (sI m1 154 23 (zi 0)) 155 23 (zi (i + 1))) := by
        intro qz
        show F_M_wish_14_b (F_M_wish_14 f2) (zi (i + 1)) (zi 0) m1 = _
        unfold F_M_wish_14_b F_M_wish_117
        rw [if_pos (by decide), R1.2, if_pos (by decide), R1.1, hm1.1, if_pos qz, bnd_eq, if_neg (by decide), bnd_eq, zl0]
      have stopF : ¬ zi p' = zi n → F_M_wish_14 (f2 + 1) (zi (i + 1)) (zi 0) m1 = some (zi (-10 - p'), sI m1 154 23 (zi 0)) := by
        intro qz
        show F_M_wish_14_b (F_M_wish_14 f2) (zi (i + 1)) (zi 0) m1 = _
        unfold F_M_wish_14_b F_M_wish_116 F_M_wish_117
        rw [if_pos (by decide), R1.2, if_pos (by decide), R1.1, hm1.1, if_neg qz, bnd_eq, if_pos rfl, zl0, e175, show (-10 : Int32) = zi (-10) by decide, zi_sub]
      by_cases qe : p' = n
      · -- the whole tape
        have qz : zi p' = zi n := by rw [qe]
        refine Or.inr ⟨i + 1, fun y => if y = i then k else wh y, sI c1 80 w (zi (i + 1)), m1, by omega, by rw [ec, if_pos qz], ?_, e80, hq2, hM2, FC2, h7⟩
        rw [em, R1.2, if_pos (by decide), e56, stopE qz, R1.1, bse ea]
        by_cases q4 : 4 ≤ i + 1
        · rw [if_pos (by rw [show (4 : Int32) = zi 4 from zl 4, zi_le (by omega) (by omega)]; exact q4)]
        · rw [if_neg (by rw [show (4 : Int32) = zi 4 from zl 4, zi_le (by omega) (by omega)]; exact q4), if_neg (fun e => by
            have := zi_inj (e.trans (zl 32)) (by omega) (by decide)
            have h := hb.2.2.2 (by omega)
            rw [h] at this
            exact absurd this (by decide))]
      · have qz : ¬ zi p' = zi n := fun e => qe (zi_inj e (by omega) (by omega))
        have fc' : F_Wi_read_44 w 14 kc (zi i) c = kc (zi (i + 1)) (sI c1 80 w (zi (i + 1))) := by rw [ec, if_neg qz]
        obtain ⟨fu, rfl⟩ : ∃ q, fu = q + 1 := ⟨fu - 1, by omega⟩
        by_cases q4 : 4 ≤ i + 1
        · -- a fifth part
          refine Or.inl ⟨p', sI c1 80 w (zi (i + 1)), m1, ⟨by omega, h1.2⟩, ?_, ?_, FC2, h7⟩
          · rw [fc', hk]
            show F_Wi_read_20_b w 14 (F_Wi_read_20 w 14 fu) (zi (i + 1)) (sI c1 80 w (zi (i + 1))) = _
            unfold F_Wi_read_20_b
            rw [if_pos (by rw [show (4 : Int32) = zi 4 from zl 4, zi_le (by omega) (by omega)]; exact q4), e86']
          · rw [em, R1.2, if_pos (by decide), if_pos (by rw [show (4 : Int32) = zi 4 from zl 4, zi_le (by omega) (by omega)]; exact q4), e56, stopF qz]
        · have hle4 : ¬ (4 : Int32) ≤ zi (i + 1) := by rw [show (4 : Int32) = zi 4 from zl 4, zi_le (by omega) (by omega)]; exact q4
          obtain ⟨c2, d2, G2, k86⟩ := c_word (q := 0) tw (by decide) hw (hc1.fr (Fr.sI (S := SVc w) Fr.rf ⟨rfl, by decide, by decide⟩) (fun e => by have := e.1; omega) (fun e => by have := e.1; omega)) (p := p') (by omega) h1.2 e86'
          have FC3 := FC2.tr (sv86 G2)
          have hwb := wl_b 0 (by decide)
          have hle := rdL_le tw (wl 0) p' (by omega) h1.2 (fun u hu => (hwb.2 u hu).1)
          have ec20 : ∀ ok, okL (bt n T) (wl 0) p' = ok → F_Wi_read_44 w 14 kc (zi i) c = if zi (oz ok) = 0 then some (c2.1 86 w, c2) else F_Wi_read_44 w 14 (F_Wi_read_20 w 14 fu) (zi (i + 1)) c2 := by
            intro ok hok
            rw [fc', hk]
            show F_Wi_read_20_b w 14 (F_Wi_read_20 w 14 fu) (zi (i + 1)) (sI c1 80 w (zi (i + 1))) = _
            unfold F_Wi_read_20_b
            rw [if_neg hle4, if_neg (by rw [zl0, zi_le (by omega) (by omega)]; omega), b2e d2, hok]
          by_cases qb : bt n T p' = 32
          · obtain ⟨m2, g2, F2, a1, a2⟩ := mustL_ok tw (wl 0) m1 p' hm1 (by omega) h1.2 hwb.2 R1.1 R1.2
            have em2 : F_M_wish_14 (f2 + 1 + 1) (zi i) (zi 1) m = F_M_wish_14 (f2 + 1) (zi (i + 1)) (zi 1) m2 := by
              rw [em, R1.2, if_pos (by decide), if_neg hle4, R1.1, bse ea, if_pos (by rw [qb]; decide)]
              exact m_and g2
            have hm2 := hm1.s175 F2
            have h132 := h131.s175 (spm F2)
            cases hok : okL (bt n T) (wl 0) p' with
            | false =>
              rw [hok] at a2
              -- " and " broken off: a fault
              obtain ⟨m3, g3, R3, F3⟩ := m_part_no tw hm2 h132 (i := i + 1) (by omega) (p := rdL (bt n T) (wl 0) p') (by omega) hle.2 ⟨a1, a2⟩
              refine Or.inl ⟨rdL (bt n T) (wl 0) p', c2, m3, ⟨by omega, hle.2⟩, ?_, ?_, FC3, (h7.tr (spm F2)).tr F3⟩
              · rw [ec20 false hok, if_pos (by decide), k86]
              · rw [em2]
                obtain ⟨f2, rfl⟩ : ∃ q, f2 = q + 1 := ⟨f2 - 1, by omega⟩
                show F_M_wish_14_b (F_M_wish_14 (f2 + 1)) (zi (i + 1)) (zi 1) m2 = _
                unfold F_M_wish_14_b F_M_wish_55 F_M_wish_56
                rw [if_neg (by decide), bse g3, R3.2, if_neg (by decide), zl0, if_pos rfl]
                exact m_bad R3
            | true =>
              rw [hok] at a2
              have hq3 : ∀ q, 0 ≤ q → q < i + 1 → WQ w (fun y => if y = i then k else wh y) c2 m2 q := by
                intro q q0 q1
                have h := hq2 q q0 q1
                unfold WQ at h ⊢
                rw [(G2.2 82 w (fun e => absurd e.2 (by decide))).2, (G2.2 83 w (fun e => absurd e.2 (by decide))).2, (G2.2 84 w (fun e => absurd e.2 (by decide))).2, (G2.2 85 w (fun e => absurd e.2 (by decide))).2, (F2.2 178 23 (by decide)).2, (F2.2 179 23 (by decide)).2, (F2.2 180 23 (by decide)).2, (F2.2 181 23 (by decide)).2, (F2.2 182 23 (by decide)).2]
                exact h
              have hM3 : WM w (i + 1) (fun y => if y = i then k else wh y) c2 := by
                unfold WM at hM2 ⊢
                rw [(G2.2 81 w (fun e => absurd e.2 (by decide))).2]
                exact hM2
              have hc2 : TPc n T c2 := hc.fr FC3 (fun e => by have := e.1; omega) (fun e => by have := e.1; omega)
              have r := ih (i + 1) (rdL (bt n T) (wl 0) p') (fun y => if y = i then k else wh y) fu (f2 + 1) c2 m2 (F_Wi_read_20 w 14 fu) (by omega) (by omega) (by omega) (by omega) (by omega) rfl hc2 hm2 h132 (by omega) hle.2 k86 ⟨a1, a2⟩ hq3 hM3
              rw [ec20 true hok, if_neg (by decide), em2]
              rcases r with ⟨pp, c', m', r1, r2, r3, r4, r5⟩ | ⟨N, wh', c', m', r1, r2, r3, r4, r5, r6, r7, r8⟩
              · exact Or.inl ⟨pp, c', m', r1, r2, r3, FC3.tr r4, (h7.tr (spm F2)).tr r5⟩
              · exact Or.inr ⟨N, wh', c', m', r1, r2, r3, r4, r5, r6, FC3.tr r7, (h7.tr (spm F2)).tr r8⟩
          · -- not " and "
            have o0 : okL (bt n T) (wl 0) p' = false := by
              show (if bt n T p' = 32 then okL (bt n T) [97, 110, 100, 32] (p' + 1) else false) = _
              rw [if_neg qb]
            have r0 : rdL (bt n T) (wl 0) p' = p' := by
              show (if bt n T p' = 32 then rdL (bt n T) [97, 110, 100, 32] (p' + 1) else p') = _
              rw [if_neg qb]
            rw [r0] at k86
            refine Or.inl ⟨p', c2, m1, ⟨by omega, h1.2⟩, ?_, ?_, FC3, h7⟩
            · rw [ec20 false o0, if_pos (by decide), k86]
            · rw [em, R1.2, if_pos (by decide), if_neg hle4, R1.1, bse ea, if_neg (fun e => qb (zi_inj (e.trans (zl 32)) (by omega) (by decide))), e56, stopF qz]
end WI
