/-! the invariant between calls (wip/whole/pure) -/
def J1 (v : PG) (δ : Dl) : Prop := PW v ∧ CP 1 δ v ∧ MP δ v
def J2 (g : SG) (δ : Dl) : Prop := WG g ∧ CG 3 δ g ∧ MG 4 δ g
def J3 (n : Int) (gk : Int → SG) (δ : Dl) : Prop := (0 ≤ n ∧ n ≤ 4) ∧ δ.1 94 0 = zi n ∧ δ.1 117 23 = zi n ∧ (∀ i : Nat, i < 4 → δ.2.2 93 i = (0, 4 + i)) ∧ (∀ i : Nat, (i : Int) < n → WG (gk i) ∧ CG (4 + i) δ (gk i) ∧ MG i δ (gk i))
/-- what a run of t ticks shows, whatever the reference's run was before -/
def PL (v : PG) (g : SG) (t : Int) (δ : Dl) : Prop := ∀ δm, MP δm v → MG 4 δm g → ∃ d : Nat → Dl, F_M_starts (zi 4) δm = some (d 0) ∧ (∀ i, i < t.toNat → F_M_ticks (d i) = some (d (i + 1)) ∧ Fr SRm (d i) (d (i + 1))) ∧ RR0 8 9 10 v g 4 t (6 * t) δ (d t.toNat) ∧ Fr SBm δm (d 0)
def J4 (v : PG) (g : SG) (δ : Dl) : Prop := (δ.1 42 8 = zi 0 ∧ δ.1 152 23 = zi (-1)) ∨ (δ.1 42 8 = zi 1 ∧ ∃ t : Int, (0 ≤ t ∧ t ≤ 300) ∧ δ.1 43 8 = zi t ∧ δ.1 152 23 = zi t ∧ CP 9 δ v ∧ PL v g t δ)
/-- two rows of numbers alike up to a length -/
def RW2 (f a h b : Nat) (n : Int) (δ : Dl) : Prop := ∀ i, 0 ≤ i → i < n → δ.2.1 f a (zi i) = δ.2.1 h b (zi i)
def J5 (δ : Dl) : Prop := ∃ n : Int, (0 ≤ n ∧ n ≤ 80) ∧ δ.1 10 14 = zi n ∧ δ.1 154 23 = zi n ∧ ∀ i, 0 ≤ i → i < n → ∃ c : Int, (0 ≤ c ∧ c ≤ 255) ∧ δ.2.1 11 14 (zi i) = zi c ∧ δ.2.1 153 23 (zi i) = zi c
/-- a part of the wish, on both sides: WHEN, FIELD, actor, sign, bound -/
def fch : Int → Int := fun c => if c = 0 then 120 else if c = 1 then 121 else if c = 2 then 104 else if c = 3 then 118 else if c = 4 then 98 else if c = 5 then 103 else 115
def WP (w : Nat) (δ : Dl) (i : Int) : Prop := ∃ wh f x o b : Int, (0 ≤ wh ∧ wh ≤ 3) ∧ (0 ≤ f ∧ f ≤ 6) ∧ (f ≤ 4 → 0 ≤ x ∧ x ≤ 2) ∧ (o = 60 ∨ o = 61 ∨ o = 62) ∧ (-999 ≤ b ∧ b ≤ 999) ∧
  δ.2.1 156 23 (zi i) = zi wh ∧ δ.2.1 157 23 (zi i) = zi (fch f) ∧ δ.2.1 82 w (zi i) = zi f ∧ (f ≤ 4 → δ.2.1 158 23 (zi i) = zi x ∧ δ.2.1 83 w (zi i) = zi x) ∧ δ.2.1 159 23 (zi i) = zi o ∧ δ.2.1 84 w (zi i) = zi o ∧ δ.2.1 160 23 (zi i) = zi b ∧ δ.2.1 85 w (zi i) = zi b
/-- .. and of each WHEN the parts that have it, as bits -/
def WB (w : Nat) (n : Int) (δ : Dl) : Prop := ∀ q, 0 ≤ q → q < 4 → ∃ m : Int, (0 ≤ m ∧ m < 16) ∧ δ.2.1 81 w (zi q) = zi m ∧ ∀ i, 0 ≤ i → i < 4 → bI m i = if i < n ∧ δ.2.1 156 23 (zi i) = zi q then zi 1 else zi 0
def J6 (δ : Dl) : Prop := ∃ (w w' : Nat) (n : Int), ((w = 16 ∧ w' = 17) ∨ (w = 17 ∧ w' = 16)) ∧ (0 ≤ n ∧ n ≤ 4) ∧ δ.2.2 99 0 = (0, w) ∧ δ.2.2 100 0 = (0, w') ∧ δ.1 80 w = zi n ∧ δ.1 155 23 = zi n ∧ (∀ i, 0 ≤ i → i < n → WP w δ i) ∧ WB w n δ
def J7 (δ : Dl) : Prop := δ.1 103 0 = δ.1 161 23 ∧ δ.1 104 0 = δ.1 162 23 ∧ δ.1 105 0 = δ.1 163 23
def J8 (δ : Dl) : Prop := ∃ n : Int, (0 ≤ n ∧ n ≤ 2) ∧ δ.1 107 0 = zi n ∧ δ.1 164 23 = zi n ∧ ∀ i, 0 ≤ i → i < n → δ.2.1 106 0 (zi (2 * i)) = δ.2.1 165 23 (zi i) ∧ δ.2.1 106 0 (zi (2 * i + 1)) = δ.2.1 166 23 (zi i)
def J9 (δ : Dl) : Prop := ∃ n : Int, (0 ≤ n ∧ n ≤ 300) ∧ δ.1 10 15 = zi n ∧ δ.1 168 23 = zi n ∧ RW2 11 15 167 23 n δ
def J10 (δ : Dl) : Prop := (δ.2.2 102 0 = (1, 0) ∧ δ.1 169 23 = zi 0) ∨ ∃ (q : Nat) (n : Int), (q = 19 ∨ q = 20 ∨ q = 21 ∨ q = 22) ∧ δ.2.2 102 0 = (0, q) ∧ (0 ≤ n ∧ n ≤ 1000) ∧ δ.1 22 q = zi n ∧ δ.1 169 23 = zi n ∧ ∀ i, 0 ≤ i → i < n → i < 30 → δ.2.1 23 q (zi i) = δ.2.1 170 23 (zi i)
def J11 (δ : Dl) : Prop := ∀ s, 0 ≤ s → s < 3 → ∃ so n : Int, (-1 ≤ so ∧ so ≤ 2) ∧ (0 ≤ n ∧ n ≤ 70) ∧ δ.2.1 60 18 (zi s) = zi so ∧ δ.2.1 171 23 (zi s) = zi so ∧ δ.2.1 61 18 (zi s) = zi n ∧ δ.2.1 172 23 (zi s) = zi n ∧ ∀ i, 0 ≤ i → i < n → δ.2.1 62 18 (zi (s * 70 + i)) = δ.2.1 173 23 (zi (70 * s + i))
def whL : List Int := [101, 110, 100, 0, 0, 0, 97, 108, 119, 97, 121, 115, 110, 101, 118, 101, 114, 0, 111, 110, 99, 101, 0, 0]
def J13 (δ : Dl) : Prop := ∀ i : Nat, i < 24 → δ.2.1 177 23 (zi i) = zi (whL.getD i 0)
def JR (δ : Dl) : Prop := J5 δ ∧ J6 δ ∧ J7 δ ∧ J8 δ ∧ J9 δ ∧ J10 δ ∧ J11 δ ∧ J13 δ ∧ RX δ
def INV (δ : Dl) : Prop := (∃ v g, J1 v δ ∧ J2 g δ ∧ J4 v g δ) ∧ (∃ n gk, J3 n gk δ) ∧ JR δ
section JF
variable {S : Nat → Nat → Prop} {δ δ' : Dl} {v : PG} {g : SG}
theorem J1.fr (h : J1 v δ) (F : Fr S δ δ') (n : ∀ f a, (a = 1 ∧ 30 ≤ f ∧ f ≤ 34) ∨ (a = 23 ∧ 118 ≤ f ∧ f ≤ 130) → ¬ S f a) : J1 v δ' := ⟨h.1, h.2.1.fr F (fun f h1 h2 => n f 1 (by omega)), h.2.2.fr F (fun f h1 h2 => n f 23 (by omega))⟩
theorem J2.fr (h : J2 g δ) (F : Fr S δ δ') (n : ∀ f a, (a = 3 ∧ 70 ≤ f ∧ f ≤ 79) ∨ (a = 23 ∧ 110 ≤ f ∧ f ≤ 116) → ¬ S f a) : J2 g δ' := ⟨h.1, h.2.1.fr F (fun f h1 h2 => n f 3 (by omega)), h.2.2.fr F (fun f h1 h2 => n f 23 (by omega))⟩
theorem J3.fr {m : Int} {gk : Int → SG} (h : J3 m gk δ) (F : Fr S δ δ') (n : ∀ f a, (f = 94 ∧ a = 0) ∨ (4 ≤ a ∧ a ≤ 7 ∧ 70 ≤ f ∧ f ≤ 79) ∨ (a = 23 ∧ ((110 ≤ f ∧ f ≤ 116) ∨ f = 117)) → ¬ S f a) : J3 m gk δ' := by
  obtain ⟨h0, h1, h2, h3, h4⟩ := h
  refine ⟨h0, by rw [(F.2 94 0 (n 94 0 (by omega))).1]; exact h1, by rw [(F.2 117 23 (n 117 23 (by omega))).1]; exact h2, by rw [F.1]; exact h3, fun i hi => ?_⟩
  obtain ⟨a1, a2, a3⟩ := h4 i hi
  exact ⟨a1, a2.fr F (fun f q1 q2 => n f (4 + i) (by omega)), a3.fr F (fun f q1 q2 => n f 23 (by omega))⟩
theorem RT0.fr {a : Nat} {δm : Dl} (h : RT0 a δ δm) (F : Fr S δ δ') (n : ¬ S 51 a) : RT0 a δ' δm := by
  obtain ⟨m, hm, e1, e2⟩ := h
  exact ⟨m, hm, by rw [(F.2 51 a n).1]; exact e1, e2⟩
theorem RR0.frC {t Q : Int} {δm : Dl} (h : RR0 8 9 10 v g 4 t Q δ δm) (F : Fr S δ δ') (n : ∀ f a, (a = 8 ∧ 42 ≤ f ∧ f ≤ 53) ∨ (a = 9 ∧ 30 ≤ f ∧ f ≤ 34) ∨ (a = 10 ∧ 70 ≤ f ∧ f ≤ 79) → ¬ S f a) : RR0 8 9 10 v g 4 t Q δ' δm := by
  obtain ⟨h1, h2, h3, h4, h5, h6, h7⟩ := h
  have F' : Fr (fun _ _ => False) δm δm := Fr.rf
  exact ⟨h1.fr F (fun f q1 q2 => n f 9 (by omega)), h2, h3, h4.fr F F' (fun f q1 q2 => n f 10 (by omega)) (fun f q1 q2 e => e), h5.fr F (n 51 8 (by omega)), h6.fr F F' ⟨n 43 8 (by omega), n 44 8 (by omega), n 45 8 (by omega)⟩ ⟨fun e => e, fun e => e, fun e => e, fun e => e, fun e => e⟩, h7.fr F F' (fun f q1 q2 => n f 8 (by omega)) (fun f q1 q2 e => e)⟩
theorem PL.fr {t : Int} (h : PL v g t δ) (F : Fr S δ δ') (n : ∀ f a, (a = 8 ∧ 42 ≤ f ∧ f ≤ 53) ∨ (a = 9 ∧ 30 ≤ f ∧ f ≤ 34) ∨ (a = 10 ∧ 70 ≤ f ∧ f ≤ 79) → ¬ S f a) : PL v g t δ' := by
  intro δm h1 h2
  obtain ⟨d, e0, e1, e2, e3⟩ := h δm h1 h2
  exact ⟨d, e0, e1, e2.frC F n, e3⟩
theorem J4.fr (h : J4 v g δ) (F : Fr S δ δ') (n : ∀ f a, (a = 8 ∧ 42 ≤ f ∧ f ≤ 53) ∨ (a = 9 ∧ 30 ≤ f ∧ f ≤ 34) ∨ (a = 10 ∧ 70 ≤ f ∧ f ≤ 79) ∨ (f = 152 ∧ a = 23) → ¬ S f a) : J4 v g δ' := by
  rcases h with ⟨h1, h2⟩ | ⟨h1, t, ht, h2, h3, h4, h5⟩
  · left
    exact ⟨by rw [(F.2 42 8 (n 42 8 (by omega))).1]; exact h1, by rw [(F.2 152 23 (n 152 23 (by omega))).1]; exact h2⟩
  · right
    exact ⟨by rw [(F.2 42 8 (n 42 8 (by omega))).1]; exact h1, t, ht, by rw [(F.2 43 8 (n 43 8 (by omega))).1]; exact h2, by rw [(F.2 152 23 (n 152 23 (by omega))).1]; exact h3, h4.fr F (fun f q1 q2 => n f 9 (by omega)), h5.fr F (fun f a q => n f a (by omega))⟩
theorem J5.fr (h : J5 δ) (F : Fr S δ δ') (n : ∀ f a, (a = 14 ∧ 10 ≤ f ∧ f ≤ 11) ∨ (a = 23 ∧ 153 ≤ f ∧ f ≤ 154) → ¬ S f a) : J5 δ' := by
  unfold J5 at h ⊢
  rw [(F.2 10 14 (n 10 14 (by omega))).1, (F.2 154 23 (n 154 23 (by omega))).1, (F.2 11 14 (n 11 14 (by omega))).2, (F.2 153 23 (n 153 23 (by omega))).2]
  exact h
theorem WP.fr {w : Nat} {i : Int} (h : WP w δ i) (F : Fr S δ δ') (n : ∀ f a, (a = w ∧ 80 ≤ f ∧ f ≤ 85) ∨ (a = 23 ∧ 155 ≤ f ∧ f ≤ 160) → ¬ S f a) : WP w δ' i := by
  unfold WP at h ⊢
  rw [(F.2 156 23 (n 156 23 (by omega))).2, (F.2 157 23 (n 157 23 (by omega))).2, (F.2 158 23 (n 158 23 (by omega))).2, (F.2 159 23 (n 159 23 (by omega))).2, (F.2 160 23 (n 160 23 (by omega))).2, (F.2 82 w (n 82 w (by omega))).2, (F.2 83 w (n 83 w (by omega))).2, (F.2 84 w (n 84 w (by omega))).2, (F.2 85 w (n 85 w (by omega))).2]
  exact h
theorem WB.fr {w : Nat} {m : Int} (h : WB w m δ) (F : Fr S δ δ') (n : ∀ f a, (a = w ∧ 80 ≤ f ∧ f ≤ 85) ∨ (a = 23 ∧ 155 ≤ f ∧ f ≤ 160) → ¬ S f a) : WB w m δ' := by
  unfold WB at h ⊢
  rw [(F.2 156 23 (n 156 23 (by omega))).2, (F.2 81 w (n 81 w (by omega))).2]
  exact h
theorem J6.fr (h : J6 δ) (F : Fr S δ δ') (n : ∀ f a, (16 ≤ a ∧ a ≤ 17 ∧ 80 ≤ f ∧ f ≤ 85) ∨ (a = 23 ∧ 155 ≤ f ∧ f ≤ 160) → ¬ S f a) : J6 δ' := by
  obtain ⟨w, w', m, hw, hm, h1, h2, h3, h4, h5, h6⟩ := h
  exact ⟨w, w', m, hw, hm, by rw [F.1]; exact h1, by rw [F.1]; exact h2, by rw [(F.2 80 w (n 80 w (by omega))).1]; exact h3, by rw [(F.2 155 23 (n 155 23 (by omega))).1]; exact h4, fun i i0 i1 => (h5 i i0 i1).fr F (fun f a q => n f a (by omega)), h6.fr F (fun f a q => n f a (by omega))⟩
theorem J7.fr (h : J7 δ) (F : Fr S δ δ') (n : ∀ f a, (a = 0 ∧ 103 ≤ f ∧ f ≤ 105) ∨ (a = 23 ∧ 161 ≤ f ∧ f ≤ 163) → ¬ S f a) : J7 δ' := by
  unfold J7 at h ⊢
  rw [(F.2 103 0 (n 103 0 (by omega))).1, (F.2 104 0 (n 104 0 (by omega))).1, (F.2 105 0 (n 105 0 (by omega))).1, (F.2 161 23 (n 161 23 (by omega))).1, (F.2 162 23 (n 162 23 (by omega))).1, (F.2 163 23 (n 163 23 (by omega))).1]
  exact h
theorem J8.fr (h : J8 δ) (F : Fr S δ δ') (n : ∀ f a, (a = 0 ∧ 106 ≤ f ∧ f ≤ 107) ∨ (a = 23 ∧ 164 ≤ f ∧ f ≤ 166) → ¬ S f a) : J8 δ' := by
  unfold J8 at h ⊢
  rw [(F.2 107 0 (n 107 0 (by omega))).1, (F.2 164 23 (n 164 23 (by omega))).1, (F.2 106 0 (n 106 0 (by omega))).2, (F.2 165 23 (n 165 23 (by omega))).2, (F.2 166 23 (n 166 23 (by omega))).2]
  exact h
theorem J9.fr (h : J9 δ) (F : Fr S δ δ') (n : ∀ f a, (a = 15 ∧ 10 ≤ f ∧ f ≤ 11) ∨ (a = 23 ∧ 167 ≤ f ∧ f ≤ 168) → ¬ S f a) : J9 δ' := by
  unfold J9 RW2 at h ⊢
  rw [(F.2 10 15 (n 10 15 (by omega))).1, (F.2 168 23 (n 168 23 (by omega))).1, (F.2 11 15 (n 11 15 (by omega))).2, (F.2 167 23 (n 167 23 (by omega))).2]
  exact h
theorem J10.fr (h : J10 δ) (F : Fr S δ δ') (n : ∀ f a, (19 ≤ a ∧ a ≤ 22 ∧ 22 ≤ f ∧ f ≤ 23) ∨ (a = 23 ∧ 169 ≤ f ∧ f ≤ 170) → ¬ S f a) : J10 δ' := by
  rcases h with ⟨h1, h2⟩ | ⟨q, m, hq, h1, hm, h2, h3, h4⟩
  · left
    exact ⟨by rw [F.1]; exact h1, by rw [(F.2 169 23 (n 169 23 (by omega))).1]; exact h2⟩
  · right
    refine ⟨q, m, hq, by rw [F.1]; exact h1, hm, by rw [(F.2 22 q (n 22 q (by omega))).1]; exact h2, by rw [(F.2 169 23 (n 169 23 (by omega))).1]; exact h3, ?_⟩
    rw [(F.2 23 q (n 23 q (by omega))).2, (F.2 170 23 (n 170 23 (by omega))).2]
    exact h4
theorem J11.fr (h : J11 δ) (F : Fr S δ δ') (n : ∀ f a, (a = 18 ∧ 60 ≤ f ∧ f ≤ 62) ∨ (a = 23 ∧ 171 ≤ f ∧ f ≤ 173) → ¬ S f a) : J11 δ' := by
  unfold J11 at h ⊢
  rw [(F.2 60 18 (n 60 18 (by omega))).2, (F.2 61 18 (n 61 18 (by omega))).2, (F.2 62 18 (n 62 18 (by omega))).2, (F.2 171 23 (n 171 23 (by omega))).2, (F.2 172 23 (n 172 23 (by omega))).2, (F.2 173 23 (n 173 23 (by omega))).2]
  exact h
theorem J13.fr (h : J13 δ) (F : Fr S δ δ') (n : ¬ S 177 23) : J13 δ' := by
  unfold J13 at h ⊢
  rw [(F.2 177 23 n).2]
  exact h
theorem RX.fr (h : RX δ) (F : Fr S δ δ') : RX δ' := by
  unfold RX at h ⊢
  rw [F.1]
  exact h
/-- what neither the beginning, the program, the kept nor the runs touch -/
abbrev SJR : Nat → Nat → Prop := fun f a => (a = 14 ∧ 10 ≤ f ∧ f ≤ 11) ∨ (16 ≤ a ∧ a ≤ 17 ∧ 80 ≤ f ∧ f ≤ 85) ∨ (a = 0 ∧ 103 ≤ f ∧ f ≤ 107) ∨ (a = 15 ∧ 10 ≤ f ∧ f ≤ 11) ∨ (19 ≤ a ∧ a ≤ 22 ∧ 22 ≤ f ∧ f ≤ 23) ∨ (a = 18 ∧ 60 ≤ f ∧ f ≤ 62) ∨ (a = 23 ∧ ((153 ≤ f ∧ f ≤ 173) ∨ f = 177))
theorem JR.fr (h : JR δ) (F : Fr S δ δ') (n : ∀ f a, SJR f a → ¬ S f a) : JR δ' := by
  obtain ⟨h5, h6, h7, h8, h9, h10, h11, h13, hx⟩ := h
  have n' : ∀ f a, ((a = 14 ∧ 10 ≤ f ∧ f ≤ 11) ∨ (16 ≤ a ∧ a ≤ 17 ∧ 80 ≤ f ∧ f ≤ 85) ∨ (a = 0 ∧ 103 ≤ f ∧ f ≤ 107) ∨ (a = 15 ∧ 10 ≤ f ∧ f ≤ 11) ∨ (19 ≤ a ∧ a ≤ 22 ∧ 22 ≤ f ∧ f ≤ 23) ∨ (a = 18 ∧ 60 ≤ f ∧ f ≤ 62) ∨ (a = 23 ∧ ((153 ≤ f ∧ f ≤ 173) ∨ f = 177))) → ¬ S f a := n
  exact ⟨h5.fr F (fun f a q => n' f a (by omega)), h6.fr F (fun f a q => n' f a (by omega)), h7.fr F (fun f a q => n' f a (by omega)), h8.fr F (fun f a q => n' f a (by omega)), h9.fr F (fun f a q => n' f a (by omega)), h10.fr F (fun f a q => n' f a (by omega)), h11.fr F (fun f a q => n' f a (by omega)), h13.fr F (n' 177 23 (by omega)), hx.fr F⟩
end JF
/-- what the reference's run alone may have changed keeps the invariant -/
theorem INV.run {δ δ' : Dl} (h : INV δ) (F : Fr SBm δ δ') : INV δ' := by
  obtain ⟨⟨v, g, h1, h2, h4⟩, ⟨n, gk, h3⟩, hr⟩ := h
  have e' : ∀ f a, SBm f a → (131 ≤ f ∧ f ≤ 151) ∨ f = 174 := fun f a e => e
  exact ⟨⟨v, g, h1.fr F (fun f a q e => by have := e' f a e; omega), h2.fr F (fun f a q e => by have := e' f a e; omega), h4.fr F (fun f a q e => by have := e' f a e; omega)⟩, ⟨n, gk, h3.fr F (fun f a q e => by have := e' f a e; omega)⟩, hr.fr F (fun f a q e => by
    have q' : (a = 14 ∧ 10 ≤ f ∧ f ≤ 11) ∨ (16 ≤ a ∧ a ≤ 17 ∧ 80 ≤ f ∧ f ≤ 85) ∨ (a = 0 ∧ 103 ≤ f ∧ f ≤ 107) ∨ (a = 15 ∧ 10 ≤ f ∧ f ≤ 11) ∨ (19 ≤ a ∧ a ≤ 22 ∧ 22 ≤ f ∧ f ≤ 23) ∨ (a = 18 ∧ 60 ≤ f ∧ f ≤ 62) ∨ (a = 23 ∧ ((153 ≤ f ∧ f ≤ 173) ∨ f = 177)) := q
    have := e' f a e
    omega)⟩
