/-! programs: that what changes them keeps them whole (wip/whole/pure) -/
/-- a loose block is put into an empty hole of a block that isn't within it -/
theorem PW.att {v : PG} (W : PW v) {b h o : Int} (b0 : 0 ≤ b) (b1 : b < v.1) (h0 : 0 ≤ h) (h1 : h < 5) (o0 : 0 ≤ o) (o1 : o < v.1) (he : v.2.2.2.1 b h = -1) (hu : v.2.2.1 o 2 = -1) (ht : v.2.2.1 o 4 = -1) (hh : HH (v.2.2.1 b 0) h) (hf1 : h ≤ 2 → v.2.2.1 o 0 ≤ 12) (hf2 : 3 ≤ h → 13 ≤ v.2.2.1 o 0)
    (A : Int → Prop) (hA : A b) (hAu : ∀ x, 0 ≤ x → x < v.1 → A x → v.2.2.1 x 2 ≠ -1 → A (v.2.2.1 x 2)) (hAo : ¬ A o) : PW (attV v b h o) := by
  obtain ⟨wN, wM, wB, wS, rk, wR⟩ := W
  have hbo : b ≠ o := fun e => hAo (e ▸ hA)
  have eB : ∀ x j, (attV v b h o).2.2.1 x j = if j = 3 ∧ x = o then h else if j = 2 ∧ x = o then b else v.2.2.1 x j := fun _ _ => rfl
  have eH : ∀ x j, (attV v b h o).2.2.2.1 x j = if j = h ∧ x = b then o else v.2.2.2.1 x j := fun _ _ => rfl
  have eS : ∀ x j, (attV v b h o).2.2.2.2 x j = v.2.2.2.2 x j := fun _ _ => rfl
  have eN : (attV v b h o).1 = v.1 := rfl
  have eM : (attV v b h o).2.1 = v.2.1 := rfl
  refine ⟨wN, wM, fun x x0 x1 => ?_, fun s s0 s1 => ?_, ?_⟩
  · have x1 : x < v.1 := x1
    obtain ⟨k1, n1, u1, t1, l1⟩ := wB x x0 x1
    refine ⟨?_, ?_, ?_, ?_, fun j j0 j5 => ?_⟩
    · simp only [eB]; simpa using k1
    · simp only [eB]; simpa using n1
    · by_cases q : x = o
      · subst q
        right
        simp only [eB, eH, eN]
        have hne : ¬ (b = x) := hbo
        simp [hne]
        refine ⟨⟨b0, b1⟩, ⟨h0, h1⟩, ht, hh, hf1, hf2⟩
      · rcases u1 with ⟨u2, u3⟩ | ⟨u2, u3, u4, u5, u6, u7, u8⟩
        · left
          simp only [eB]
          simp [q]
          exact ⟨u2, u3⟩
        · right
          have e2 : (attV v b h o).2.2.1 x 2 = v.2.2.1 x 2 := by simp [eB, q]
          have e3 : (attV v b h o).2.2.1 x 3 = v.2.2.1 x 3 := by simp [eB, q]
          have e4 : (attV v b h o).2.2.1 x 4 = v.2.2.1 x 4 := by simp [eB]
          have e0 : ∀ y, (attV v b h o).2.2.1 y 0 = v.2.2.1 y 0 := fun y => by simp [eB]
          rw [e2, e3, e4, e0, e0, eN]
          refine ⟨u2, u3, ?_, u5, u6, u7, u8⟩
          rw [eH, if_neg (fun e => ?_)]
          · exact u4
          · rw [e.1, e.2, he] at u4
            omega
    · rw [eB, eB, eM, eS, if_neg (by omega), if_neg (by omega), if_neg (by omega), if_neg (by omega)]
      exact t1
    · rw [eH]
      by_cases q : j = h ∧ x = b
      · rw [if_pos q]
        right
        refine ⟨⟨o0, o1⟩, ?_, ?_⟩
        · rw [eB]; simp [q.2]
        · rw [eB]; simp [q.1]
      · rw [if_neg q]
        rcases l1 j j0 j5 with e | ⟨l2, l3, l4⟩
        · exact Or.inl e
        · right
          have hne : v.2.2.2.1 x j ≠ o := fun e => by rw [e, hu] at l3; omega
          refine ⟨l2, ?_, ?_⟩
          · rw [eB]; simp [hne]; exact l3
          · rw [eB]; simp [hne]; exact l4
  · obtain ⟨s1, s2, s3, s4, s5, s6, s7⟩ := wS s s0 s1
    refine ⟨s1, s2, s3, s4, s5, s6, ?_⟩
    rcases s7 with e | ⟨s8, s9⟩
    · exact Or.inl e
    · right
      refine ⟨s8, ?_⟩
      rw [eS, eB, if_neg (by omega), if_neg (by omega)]
      exact s9
  · have dA : ∀ x, Decidable (A x) := fun x => Classical.propDecidable _
    refine ⟨fun x => rk x + (if A x then rk o + 1 else 0), fun x x0 x1 hx => ?_⟩
    have x1 : x < v.1 := x1
    rw [eB] at hx ⊢
    by_cases q : x = o
    · subst q
      rw [if_neg (by omega), if_pos ⟨rfl, rfl⟩]
      show rk x + (if A x then rk x + 1 else 0) < rk b + (if A b then rk x + 1 else 0)
      rw [if_neg hAo, if_pos hA]
      omega
    · rw [if_neg (by omega), if_neg (fun e => q e.2)] at hx ⊢
      have h2 := wR x x0 x1 hx
      show rk x + (if A x then rk o + 1 else 0) < rk (v.2.2.1 x 2) + (if A (v.2.2.1 x 2) then rk o + 1 else 0)
      by_cases qa : A x
      · rw [if_pos qa, if_pos (hAu x x0 x1 qa hx)]; omega
      · rw [if_neg qa]; omega
/-- a loose order becomes the top of a script that has none -/
theorem PW.top {v : PG} (W : PW v) {s b : Int} (s0 : 0 ≤ s) (s1 : s < v.2.1) (b0 : 0 ≤ b) (b1 : b < v.1) (he : v.2.2.2.2 s 4 = -1) (hu : v.2.2.1 b 2 = -1) (ht : v.2.2.1 b 4 = -1) (hk : v.2.2.1 b 0 ≤ 12) : PW (topV v s b) := by
  obtain ⟨wN, wM, wB, wS, rk, wR⟩ := W
  have eB : ∀ x j, (topV v s b).2.2.1 x j = if j = 4 ∧ x = b then s else v.2.2.1 x j := fun _ _ => rfl
  have eS : ∀ x j, (topV v s b).2.2.2.2 x j = if j = 4 ∧ x = s then b else v.2.2.2.2 x j := fun _ _ => rfl
  refine ⟨wN, wM, fun x x0 x1 => ?_, fun r r0 r1 => ?_, rk, fun x x0 x1 hx => ?_⟩
  · obtain ⟨k1, n1, u1, t1, l1⟩ := wB x x0 x1
    refine ⟨?_, ?_, ?_, ?_, fun j j0 j5 => ?_⟩
    · simp only [eB]; simpa using k1
    · simp only [eB]; simpa using n1
    · have e2 : ∀ y, (topV v s b).2.2.1 y 2 = v.2.2.1 y 2 := fun y => by simp [eB]
      have e3 : ∀ y, (topV v s b).2.2.1 y 3 = v.2.2.1 y 3 := fun y => by simp [eB]
      have e0 : ∀ y, (topV v s b).2.2.1 y 0 = v.2.2.1 y 0 := fun y => by simp [eB]
      rw [e2, e3, e0, e0]
      rcases u1 with u1 | ⟨u2, u3, u4, u5, u6, u7, u8⟩
      · exact Or.inl u1
      · right
        refine ⟨u2, u3, u4, ?_, u6, u7, u8⟩
        rw [eB, if_neg (fun e => ?_)]
        · exact u5
        · rw [e.2, hu] at u2; omega
    · by_cases q : x = b
      · subst q
        right
        rw [eB, eB, if_pos ⟨rfl, rfl⟩, if_neg (by omega)]
        exact ⟨⟨s0, s1⟩, by rw [eS, if_pos ⟨rfl, rfl⟩], hk⟩
      · rw [eB, eB, if_neg (fun e => q e.2), if_neg (by omega)]
        rcases t1 with e | ⟨t2, t3, t4⟩
        · exact Or.inl e
        · right
          refine ⟨t2, ?_, t4⟩
          rw [eS, if_neg (fun e => ?_)]
          · exact t3
          · rw [e.2, he] at t3; omega
    · rcases l1 j j0 j5 with e | ⟨l2, l3, l4⟩
      · exact Or.inl e
      · right
        refine ⟨l2, ?_, ?_⟩
        · rw [eB, if_neg (by omega)]; exact l3
        · rw [eB, if_neg (by omega)]; exact l4
  · obtain ⟨s1', s2, s3, s4, s5, s6, s7⟩ := wS r r0 r1
    have e : ∀ j, j ≠ 4 → (topV v s b).2.2.2.2 r j = v.2.2.2.2 r j := fun j hj => by rw [eS, if_neg (fun e => hj e.1)]
    refine ⟨by rw [e 0 (by decide)]; exact s1', by rw [e 1 (by decide)]; exact s2, by rw [e 2 (by decide)]; exact s3, by rw [e 1 (by decide), e 2 (by decide)]; exact s4, by rw [e 1 (by decide), e 2 (by decide)]; exact s5, by rw [e 3 (by decide)]; exact s6, ?_⟩
    by_cases q : r = s
    · subst q
      right
      rw [eS, if_pos ⟨rfl, rfl⟩]
      exact ⟨⟨b0, b1⟩, by rw [eB, if_pos ⟨rfl, rfl⟩]⟩
    · rw [eS, if_neg (fun e => q e.2)]
      rcases s7 with e | ⟨s8, s9⟩
      · exact Or.inl e
      · right
        refine ⟨s8, ?_⟩
        rw [eB, if_neg (fun e => ?_)]
        · exact s9
        · rw [e.2, ht] at s9; omega
  · have e2 : ∀ y, (topV v s b).2.2.1 y 2 = v.2.2.1 y 2 := fun y => by simp [eB]
    rw [e2] at hx ⊢
    exact wR x x0 x1 hx
/-- what leaving does, entry by entry -/
theorem lvV_B {v : PG} {b x j : Int} : (lvV v b).2.2.1 x j = if (j = 2 ∨ j = 3 ∨ j = 4) ∧ x = b then -1 else v.2.2.1 x j := by
  have e : (lvB v b).2.2.1 = v.2.2.1 := by
    unfold lvB lvA
    split <;> split <;> rfl
  show (if j = 4 ∧ x = b then (-1 : Int) else if j = 3 ∧ x = b then -1 else if j = 2 ∧ x = b then -1 else (lvB v b).2.2.1 x j) = _
  rw [e]
  by_cases q : x = b
  · by_cases j2 : j = 2
    · simp [q, j2]
    · by_cases j3 : j = 3
      · simp [q, j3]
      · by_cases j4 : j = 4
        · simp [q, j4]
        · simp [j2, j3, j4]
  · simp [q]
theorem lvV_H {v : PG} {b x j : Int} : (lvV v b).2.2.2.1 x j = if v.2.2.1 b 2 ≠ -1 ∧ j = v.2.2.1 b 3 ∧ x = v.2.2.1 b 2 then -1 else v.2.2.2.1 x j := by
  show (lvB v b).2.2.2.1 x j = _
  have e : (lvB v b).2.2.2.1 = (lvA v b).2.2.2.1 := by unfold lvB; split <;> rfl
  rw [e]
  unfold lvA
  by_cases q : v.2.2.1 b 2 = -1
  · rw [if_pos q, if_neg (fun h => h.1 q)]
  · rw [if_neg q]
    show (if j = v.2.2.1 b 3 ∧ x = v.2.2.1 b 2 then (-1 : Int) else v.2.2.2.1 x j) = _
    by_cases q2 : j = v.2.2.1 b 3 ∧ x = v.2.2.1 b 2
    · rw [if_pos q2, if_pos ⟨q, q2⟩]
    · rw [if_neg q2, if_neg (fun h => q2 h.2)]
theorem lvV_S {v : PG} {b x j : Int} : (lvV v b).2.2.2.2 x j = if v.2.2.1 b 4 ≠ -1 ∧ j = 4 ∧ x = v.2.2.1 b 4 then -1 else v.2.2.2.2 x j := by
  show (lvB v b).2.2.2.2 x j = _
  have e : (lvA v b).2.2.2.2 = v.2.2.2.2 := by unfold lvA; split <;> rfl
  unfold lvB
  by_cases q : v.2.2.1 b 4 = -1
  · rw [if_pos q, if_neg (fun h => h.1 q), e]
  · rw [if_neg q]
    show (if j = 4 ∧ x = v.2.2.1 b 4 then (-1 : Int) else (lvA v b).2.2.2.2 x j) = _
    rw [e]
    by_cases q2 : j = 4 ∧ x = v.2.2.1 b 4
    · rw [if_pos q2, if_pos ⟨q, q2⟩]
    · rw [if_neg q2, if_neg (fun h => q2 h.2)]
theorem lvV_N {v : PG} {b : Int} : (lvV v b).1 = v.1 := by
  show (lvB v b).1 = v.1
  unfold lvB lvA
  split <;> split <;> rfl
theorem lvV_M {v : PG} {b : Int} : (lvV v b).2.1 = v.2.1 := by
  show (lvB v b).2.1 = v.2.1
  unfold lvB lvA
  split <;> split <;> rfl
theorem PW.lv {v : PG} (W : PW v) {b : Int} (b0 : 0 ≤ b) (b1 : b < v.1) : PW (lvV v b) := by
  obtain ⟨wN, wM, wB, wS, rk, wR⟩ := W
  refine ⟨by rw [lvV_N]; exact wN, by rw [lvV_M]; exact wM, fun x x0 x1 => ?_, fun s s0 s1 => ?_, rk, fun x x0 x1 hx => ?_⟩
  · rw [lvV_N] at x1
    obtain ⟨k1, n1, u1, t1, l1⟩ := wB x x0 x1
    have e0 : ∀ y, (lvV v b).2.2.1 y 0 = v.2.2.1 y 0 := fun y => by simp [lvV_B]
    have e1 : ∀ y, (lvV v b).2.2.1 y 1 = v.2.2.1 y 1 := fun y => by simp [lvV_B]
    refine ⟨by rw [e0]; exact k1, by rw [e0, e1]; exact n1, ?_, ?_, fun j j0 j5 => ?_⟩
    · by_cases q : x = b
      · left
        simp [lvV_B, q]
      · have e2 : ∀ i, (lvV v b).2.2.1 x i = v.2.2.1 x i := fun i => by rw [lvV_B, if_neg (fun e => q e.2)]
        rcases u1 with u1 | ⟨u2, u3, u4, u5, u6, u7, u8⟩
        · left; rw [e2, e2]; exact u1
        · right
          rw [e2, e2, e2, e0, e0, lvV_N, lvV_H, if_neg (fun e => ?_)]
          · exact ⟨u2, u3, u4, u5, u6, u7, u8⟩
          · have := (wB b b0 b1).2.2.1
            rcases this with ⟨g1, -⟩ | ⟨-, -, g3, -⟩
            · exact e.1 g1
            · rw [← e.2.1, ← e.2.2] at g3
              rw [u4] at g3
              exact q g3
    · by_cases q : x = b
      · left
        simp [lvV_B, q]
      · rw [lvV_B, if_neg (fun e => q e.2), e0, lvV_M]
        rcases t1 with e | ⟨t2, t3, t4⟩
        · exact Or.inl e
        · right
          refine ⟨t2, ?_, t4⟩
          rw [lvV_S, if_neg (fun e => ?_)]
          · exact t3
          · have := (wB b b0 b1).2.2.2.1
            rcases this with g | ⟨-, g, -⟩
            · exact e.1 g
            · rw [← e.2.2, t3] at g
              exact q g
    · rw [lvV_H, lvV_N]
      by_cases q : v.2.2.1 b 2 ≠ -1 ∧ j = v.2.2.1 b 3 ∧ x = v.2.2.1 b 2
      · rw [if_pos q]; exact Or.inl rfl
      · rw [if_neg q]
        rcases l1 j j0 j5 with e | ⟨l2, l3, l4⟩
        · exact Or.inl e
        · right
          have hne : v.2.2.2.1 x j ≠ b := fun e => by
            rw [e] at l3 l4
            exact q ⟨by omega, l4.symm, l3.symm⟩
          refine ⟨l2, ?_, ?_⟩
          · rw [lvV_B, if_neg (fun e => hne e.2)]; exact l3
          · rw [lvV_B, if_neg (fun e => hne e.2)]; exact l4
  · rw [lvV_M] at s1
    obtain ⟨s1', s2, s3, s4, s5, s6, s7⟩ := wS s s0 s1
    have e : ∀ j, j ≠ 4 → (lvV v b).2.2.2.2 s j = v.2.2.2.2 s j := fun j hj => by rw [lvV_S, if_neg (fun e => hj e.2.1)]
    refine ⟨by rw [e 0 (by decide)]; exact s1', by rw [e 1 (by decide)]; exact s2, by rw [e 2 (by decide)]; exact s3, by rw [e 1 (by decide), e 2 (by decide)]; exact s4, by rw [e 1 (by decide), e 2 (by decide)]; exact s5, by rw [e 3 (by decide)]; exact s6, ?_⟩
    rw [lvV_S, lvV_N]
    by_cases q : v.2.2.1 b 4 ≠ -1 ∧ (4 : Int) = 4 ∧ s = v.2.2.1 b 4
    · rw [if_pos q]; exact Or.inl rfl
    · rw [if_neg q]
      rcases s7 with e | ⟨s8, s9⟩
      · exact Or.inl e
      · right
        refine ⟨s8, ?_⟩
        rw [lvV_B, if_neg (fun e => ?_)]
        · exact s9
        · rw [e.2] at s9
          exact q ⟨by omega, rfl, s9.symm⟩
  · rw [lvV_N] at x1
    by_cases q : x = b
    · exfalso
      apply hx
      simp [lvV_B, q]
    · rw [lvV_B, if_neg (fun e => q e.2)] at hx ⊢
      exact wR x x0 x1 hx
