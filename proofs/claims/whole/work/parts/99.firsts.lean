/-! the first states of both (wip/whole/pure) -/
def preM (δ : Dl) : Dl := (aD (aD (aD (aD (aD (aD (aD (aD (aD (aD (aD (aD (aD (aD (sA (sA (sA (sA (sA (sA (sA (sA (sA (sA (sA (sA (sA (sA (sA (sA (sA (sA (sA (sA (sA (sA (sA (sA (aD (aD (aD (aD (aD (aD (aD (aD (sI (sI (aD (aD (aD (aD (aD (aD (sI (aD (aD (aD (aD (aD (aD (aD (aD (aD (aD (aD (aD (aD (aD (aD (aD (aD (aD (aD (aD (aD (aD (aD (aD (aD (aD (aD (aD (aD (aD (aD (aD (aD (aD (aD (aD δ 110 23) 111 23) 112 23) 113 23) 114 23) 115 23) 116 23) 119 23) 120 23) 121 23) 122 23) 123 23) 124 23) 126 23) 127 23) 128 23) 129 23) 130 23) 133 23) 134 23) 135 23) 136 23) 137 23) 138 23) 139 23) 140 23) 141 23) 142 23) 143 23) 144 23) 145 23) 146 23) 147 23) 149 23) 150 23) 151 23) 152 23 (-1)) 153 23) 156 23) 157 23) 158 23) 159 23) 160 23) 162 23 (-1)) 163 23 (-1)) 165 23) 166 23) 167 23) 170 23) 171 23) 172 23) 173 23) 177 23) 177 23 0 101) 177 23 1 110) 177 23 2 100) 177 23 3 0) 177 23 4 0) 177 23 5 0) 177 23 6 97) 177 23 7 108) 177 23 8 119) 177 23 9 97) 177 23 10 121) 177 23 11 115) 177 23 12 110) 177 23 13 101) 177 23 14 118) 177 23 15 101) 177 23 16 114) 177 23 17 0) 177 23 18 111) 177 23 19 110) 177 23 20 99) 177 23 21 101) 177 23 22 0) 177 23 23 0) 178 23) 179 23) 180 23) 181 23) 182 23) 183 23) 184 23) 185 23) 186 23) 187 23) 188 23) 189 23) 190 23) 191 23)
theorem aD_1 {δ : Dl} {f b : Nat} : (aD δ f b).1 = δ.1 := rfl
theorem aD_2 {δ : Dl} {f b g a : Nat} : (aD δ f b).2.1 g a = if g = f ∧ a = b then (fun _ => 0) else δ.2.1 g a := rfl
theorem aD_3 {δ : Dl} {f b : Nat} : (aD δ f b).2.2 = δ.2.2 := rfl
theorem sI_2 {δ : Dl} {f b : Nat} {v : Int32} : (sI δ f b v).2 = δ.2 := rfl
theorem sA_2 {δ : Dl} {f b g a : Nat} {i v : Int32} : (sA δ f b i v).2.1 g a = if g = f ∧ a = b then (fun j => if j = i then v else δ.2.1 f b j) else δ.2.1 g a := rfl
set_option maxRecDepth 40000 in
theorem preM_3 {δ : Dl} : (preM δ).2.2 = δ.2.2 := by
  unfold preM
  simp only [aD_3, q3A, sI_2]
set_option maxRecDepth 40000 in
theorem preM_1 {δ : Dl} {f a : Nat} : (preM δ).1 f a = if f = 163 ∧ a = 23 then -1 else if f = 162 ∧ a = 23 then -1 else if f = 152 ∧ a = 23 then -1 else δ.1 f a := by
  unfold preM
  simp only [aD_1, q1A, q1I]
def w177 : Int32 → Int32 := fun j => if j = 23 then 0 else if j = 22 then 0 else if j = 21 then 101 else if j = 20 then 99 else if j = 19 then 110 else if j = 18 then 111 else if j = 17 then 0 else if j = 16 then 114 else if j = 15 then 101 else if j = 14 then 118 else if j = 13 then 101 else if j = 12 then 110 else if j = 11 then 115 else if j = 10 then 121 else if j = 9 then 97 else if j = 8 then 119 else if j = 7 then 108 else if j = 6 then 97 else if j = 5 then 0 else if j = 4 then 0 else if j = 3 then 0 else if j = 2 then 100 else if j = 1 then 110 else if j = 0 then 101 else 0
set_option maxRecDepth 40000 in
theorem preM_177 {δ : Dl} : (preM δ).2.1 177 23 = w177 := by
  unfold preM w177
  simp only [aD_2, sA_2, sI_2, Nat.reduceEqDiff, false_and, and_self, if_true, if_false, ↓reduceIte]
set_option maxRecDepth 40000 in
theorem preM_172 {δ : Dl} : (preM δ).2.1 172 23 = fun _ => 0 := by
  unfold preM
  simp only [aD_2, sA_2, sI_2, Nat.reduceEqDiff, false_and, and_self, if_true, if_false, ↓reduceIte]
set_option maxRecDepth 40000 in
theorem preM_2 {δ : Dl} {f a : Nat} (h : a ≠ 23) : (preM δ).2.1 f a = δ.2.1 f a := by
  unfold preM
  simp only [aD_2, sA_2, sI_2, h, and_false, if_false, ↓reduceIte]
theorem w177_ok : ∀ i : Nat, i < 24 → w177 (zi i) = zi (whL.getD i 0) := by decide +kernel
theorem first_m (d : Dl) : ∃ r, F_M_init (nD d 23 12 82) = some r ∧ FI (fun _ a => a = 23) d r ∧ r.2.2 = (nD d 23 12 82).2.2 ∧ MG 4 r (emptyG 4 4) ∧ (∀ f, 117 ≤ f → f < 192 → f ≠ 152 → f ≠ 162 → f ≠ 163 → r.1 f 23 = 0) ∧ r.1 152 23 = -1 ∧ r.1 162 23 = -1 ∧ r.1 163 23 = -1 ∧ J13 r ∧ r.2.1 172 23 = (fun _ => 0) ∧ ∀ s, 0 ≤ s → s < 3 → r.2.1 171 23 (zi s) = zi (-1) := by
  obtain ⟨δ1, e, F, -, G⟩ := m_clears (w := 4) (h := 4) (δ := preM (nD d 23 12 82)) (by decide) (by decide)
  have F2 : Fr (fun f a => f = 171 ∧ a = 23) δ1 (sA (sA (sA δ1 171 23 0 (-1)) 171 23 1 (-1)) 171 23 2 (-1)) := ((Fr.rf.sA ⟨rfl, rfl⟩).sA ⟨rfl, rfl⟩).sA ⟨rfl, rfl⟩
  have eF : F_M_init (nD d 23 12 82) = some (sA (sA (sA δ1 171 23 0 (-1)) 171 23 1 (-1)) 171 23 2 (-1)) := by
    show (F_M_clears 4 4 (preM (nD d 23 12 82))).bind _ = _
    rw [show (4 : Int32) = zi 4 from zl 4, e]
    rfl
  have e171 : ∀ s, 0 ≤ s → s < 3 → (sA (sA (sA δ1 171 23 0 (-1)) 171 23 1 (-1)) 171 23 2 (-1)).2.1 171 23 (zi s) = zi (-1) := by
    intro s s0 s1
    have m1 : (-1 : Int32) = zi (-1) := by decide
    rw [rAi, rAi, rAi, show (0 : Int32) = zi 0 from zl 0, show (1 : Int32) = zi 1 from zl 1, show (2 : Int32) = zi 2 from zl 2, zi_neg]
    rcases (show s = 0 ∨ s = 1 ∨ s = 2 by omega) with rfl | rfl | rfl
    · rw [if_neg (by decide), if_neg (by decide), if_pos rfl]
    · rw [if_neg (by decide), if_pos rfl]
    · rw [if_pos rfl]
  generalize hr : sA (sA (sA δ1 171 23 0 (-1)) 171 23 1 (-1)) 171 23 2 (-1) = r at *
  have k1 : ∀ f, 117 ≤ f → r.1 f 23 = (preM (nD d 23 12 82)).1 f 23 := fun f hf => by
    have a1 : r.1 f 23 = δ1.1 f 23 := by rw [← hr]; rfl
    rw [a1, (F.2 f 23 (fun e => by omega)).1]
  have kn : ∀ f, 110 ≤ f → f < 192 → (nD d 23 12 82).1 f 23 = 0 := fun f h0 h1 => by
    show (if (23 : Nat) = 23 ∧ 110 ≤ f ∧ f < 110 + 82 then (0 : Int32) else d.1 f 23) = 0
    rw [if_pos ⟨rfl, h0, by omega⟩]
  refine ⟨r, eF, fun f a ha => ?_, ?_, G.fr F2 (fun f h1 h2 e => by omega), fun f h0 h1 h2 h3 h4 => ?_, ?_, ?_, ?_, fun i hi => ?_, ?_, e171⟩
  · have ha : a ≠ 23 := ha
    have a1 := F2.2 f a (fun e => ha e.2)
    have a2 := F.2 f a (fun e => ha e.1)
    refine ⟨?_, ?_⟩
    · rw [a1.1, a2.1, preM_1, if_neg (fun e => ha e.2), if_neg (fun e => ha e.2), if_neg (fun e => ha e.2)]
      show (if a = 23 ∧ _ then (0 : Int32) else d.1 f a) = _
      rw [if_neg (fun e => ha e.1)]
    · rw [a1.2, a2.2, preM_2 ha]
      rfl
  · rw [F2.1, F.1, preM_3]
  · rw [k1 f h0, preM_1, if_neg (fun e => h4 e.1), if_neg (fun e => h3 e.1), if_neg (fun e => h2 e.1)]
    exact kn f (by omega) h1
  · rw [k1 152 (by decide), preM_1]
    rfl
  · rw [k1 162 (by decide), preM_1]
    rfl
  · rw [k1 163 (by decide), preM_1]
    rfl
  · rw [(F2.2 177 23 (by decide)).2, (F.2 177 23 (by decide)).2, preM_177]
    exact w177_ok i hi
  · rw [(F2.2 172 23 (by decide)).2, (F.2 172 23 (by decide)).2, preM_172]
def v0 : PG := (0, 0, fun _ _ => 0, fun _ _ => 0, fun _ _ => 0)
theorem pw_v0 : PW v0 := ⟨by decide, by decide, fun b b0 b1 => absurd (show b < 0 from b1) (by omega), fun b b0 b1 => absurd (show b < 0 from b1) (by omega), fun _ => 0, fun b b0 b1 => absurd (show b < 0 from b1) (by omega)⟩
/-- behind both constructors the invariant holds -/
theorem first_inv {d : Dl} (h : CF d) : ∃ r, F_M_init (nD d 23 12 82) = some r ∧ INV r ∧ r.2.2 102 0 = (1, 0) := by
  obtain ⟨⟨c30, c31⟩, cG, c94, c42, c10, c15, ⟨c80, c81⟩, ⟨c103, c104, c105, c107⟩, ⟨c60, c61, c62, c63⟩, ⟨r0, r1, r2, r3⟩, r99, r100, r102, hRI⟩ := h
  obtain ⟨r, e, F, eR, G, z, z152, z162, z163, h13, z172, z171⟩ := first_m d
  have k : ∀ f a, a ≠ 23 → r.1 f a = d.1 f a ∧ r.2.1 f a = d.2.1 f a := fun f a ha => F f a ha
  have kr : ∀ f a, a ≠ 23 → r.2.2 f a = d.2.2 f a := fun f a ha => by
    rw [eR]
    show (if a = 23 ∧ _ then (1, 0) else d.2.2 f a) = _
    rw [if_neg (fun e => ha e.1)]
  have m1 : (-1 : Int32) = zi (-1) := by decide
  have hx : RX r := by
    have hL : RI r [(0, 7), (0, 6), (0, 5), (0, 4), (1, 0), (0, 17), (0, 16)] := RI.of (RI.nD hRI) eR
    intro f a
    rcases hL f a with e | e
    · rw [e]; exact ⟨Nat.le_refl 1, fun _ e => absurd e (by decide)⟩
    · have : ∀ q : Nat × Nat, q ∈ [(0, 7), (0, 6), (0, 5), (0, 4), (1, 0), (0, 17), (0, 16)] → q.1 ≤ 1 ∧ q.2 < 19 := by decide
      obtain ⟨a1, a2⟩ := this _ e
      exact ⟨a1, fun _ _ => a2⟩
  refine ⟨r, e, ⟨⟨v0, emptyG 4 4, ⟨pw_v0, ⟨?_, ?_, ?_, ?_, ?_⟩, ⟨?_, ?_, ?_, ?_, ?_⟩⟩, ⟨WG.empty (by decide) (by decide), ?_, G⟩, Or.inl ⟨?_, ?_⟩⟩, ⟨0, fun _ => emptyG 4 4, by decide, ?_, ?_, fun i hi => ?_, fun i hi => absurd hi (by omega)⟩, ⟨0, by decide, ?_, ?_, fun i i0 i1 => by omega⟩, ⟨16, 17, 0, Or.inl ⟨rfl, rfl⟩, by decide, ?_, ?_, ?_, ?_, fun i i0 i1 => by omega, fun q q0 q4 => ⟨0, by decide, ?_, fun i i0 i4 => ?_⟩⟩, ⟨?_, ?_, ?_⟩, ⟨0, by decide, ?_, ?_, fun i i0 i1 => by omega⟩, ⟨0, by decide, ?_, ?_, fun i i0 i1 => by omega⟩, Or.inl ⟨?_, ?_⟩, fun s s0 s1 => ⟨-1, 0, by decide, by decide, ?_, z171 s s0 s1, ?_, ?_, fun i i0 i1 => by omega⟩, h13, hx⟩, ?_⟩
  · rw [(k 30 1 (by decide)).1, c30, zl0]; rfl
  · rw [(k 31 1 (by decide)).1, c31, zl0]; rfl
  · intro b j b0 b1; exact absurd (show b < 0 from b1) (by omega)
  · intro b j b0 b1; exact absurd (show b < 0 from b1) (by omega)
  · intro b j b0 b1; exact absurd (show b < 0 from b1) (by omega)
  · rw [z 118 (by decide) (by decide) (by decide) (by decide) (by decide), zl0]; rfl
  · rw [z 125 (by decide) (by decide) (by decide) (by decide) (by decide), zl0]; rfl
  · intro b b0 b1; exact absurd (show b < 0 from b1) (by omega)
  · intro b j b0 b1; exact absurd (show b < 0 from b1) (by omega)
  · intro b b0 b1; exact absurd (show b < 0 from b1) (by omega)
  · have kk : ∀ f, r.1 f 3 = d.1 f 3 ∧ r.2.1 f 3 = d.2.1 f 3 := fun f => k f 3 (by decide)
    unfold CG at cG ⊢
    rw [(kk 70).1, (kk 71).1, (kk 72).1, (kk 73).2, (kk 74).2, (kk 75).2, (kk 76).2, (kk 77).2, (kk 78).2]
    exact cG
  · rw [(k 42 8 (by decide)).1, c42, zl0]
  · rw [z152, m1]
  · rw [(k 94 0 (by decide)).1, c94, zl0]
  · rw [z 117 (by decide) (by decide) (by decide) (by decide) (by decide), zl0]
  · rcases (show i = 0 ∨ i = 1 ∨ i = 2 ∨ i = 3 by omega) with rfl | rfl | rfl | rfl
    · rw [kr 93 0 (by decide)]; exact r0
    · rw [kr 93 1 (by decide)]; exact r1
    · rw [kr 93 2 (by decide)]; exact r2
    · rw [kr 93 3 (by decide)]; exact r3
  · rw [(k 10 14 (by decide)).1, c10, zl0]
  · rw [z 154 (by decide) (by decide) (by decide) (by decide) (by decide), zl0]
  · rw [kr 99 0 (by decide)]; exact r99
  · rw [kr 100 0 (by decide)]; exact r100
  · rw [(k 80 16 (by decide)).1, c80, zl0]
  · rw [z 155 (by decide) (by decide) (by decide) (by decide) (by decide), zl0]
  · rw [(k 81 16 (by decide)).2, c81, zl0]
  · have := bI0 i.toNat (by omega)
    rw [Int.toNat_of_nonneg i0] at this
    rw [this, if_neg (fun h => by have := h.1; omega)]
  · rw [(k 103 0 (by decide)).1, c103, z 161 (by decide) (by decide) (by decide) (by decide) (by decide)]
  · rw [(k 104 0 (by decide)).1, c104, z162]
  · rw [(k 105 0 (by decide)).1, c105, z163]
  · rw [(k 107 0 (by decide)).1, c107, zl0]
  · rw [z 164 (by decide) (by decide) (by decide) (by decide) (by decide), zl0]
  · rw [(k 10 15 (by decide)).1, c15, zl0]
  · rw [z 168 (by decide) (by decide) (by decide) (by decide) (by decide), zl0]
  · rw [kr 102 0 (by decide)]; exact r102
  · rw [z 169 (by decide) (by decide) (by decide) (by decide) (by decide), zl0]
  · rw [(k 60 18 (by decide)).2]
    rcases (show s = 0 ∨ s = 1 ∨ s = 2 by omega) with rfl | rfl | rfl
    · rw [← zl0, c60, m1]
    · rw [← zl1, c61, m1]
    · rw [show zi 2 = (2 : Int32) from (zl 2).symm, c62, m1]
  · rw [(k 61 18 (by decide)).2, c63, zl0]
  · rw [z172, zl0]
  · rw [kr 102 0 (by decide)]; exact r102
