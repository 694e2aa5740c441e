/-! the least of the losses (wip/whole/pure) -/
theorem mnL_no {L : Int → Int} : ∀ (j : Nat) (i c : Int), (∀ k, i ≤ k → k < i + j → L k = -1) → mnL L j i c = c := by
  intro j
  induction j with
  | zero => intro i c _; rfl
  | succ j ih =>
    intro i c h
    show mnL L j (i + 1) (if L i = -1 then c else if c = -1 then L i else if c ≤ L i then c else L i) = c
    rw [if_pos (h i (by omega) (by omega))]
    exact ih (i + 1) c (fun k k0 k1 => h k (by omega) (by omega))
theorem mnL_is {L : Int → Int} {t : Int} (ht : 0 ≤ t) : ∀ (j : Nat) (i c : Int), (∀ k, i ≤ k → k < i + j → L k = -1 ∨ t ≤ L k) → (c = -1 ∨ t ≤ c) → (c = t ∨ ∃ k, (i ≤ k ∧ k < i + j) ∧ L k = t) → mnL L j i c = t := by
  intro j
  induction j with
  | zero =>
    intro i c _ _ h3
    rcases h3 with h | ⟨k, hk, _⟩
    · exact h
    · omega
  | succ j ih =>
    intro i c h1 h2 h3
    show mnL L j (i + 1) (if L i = -1 then c else if c = -1 then L i else if c ≤ L i then c else L i) = t
    have hi := h1 i (by omega) (by omega)
    refine ih (i + 1) _ (fun k k0 k1 => h1 k (by omega) (by omega)) ?_ ?_
    · by_cases q1 : L i = -1
      · rw [if_pos q1]; exact h2
      · rw [if_neg q1]
        by_cases q2 : c = -1
        · rw [if_pos q2]; omega
        · rw [if_neg q2]
          by_cases q3 : c ≤ L i
          · rw [if_pos q3]; exact h2
          · rw [if_neg q3]; omega
    · rcases h3 with h | ⟨k, hk, hl⟩
      · left
        subst h
        by_cases q1 : L i = -1
        · rw [if_pos q1]
        · rw [if_neg q1, if_neg (by omega), if_pos (by omega)]
      · by_cases q : k = i
        · left
          subst q
          rw [if_neg (by omega)]
          by_cases q2 : c = -1
          · rw [if_pos q2]; exact hl
          · rw [if_neg q2]
            by_cases q3 : c ≤ L k
            · rw [if_pos q3]; omega
            · rw [if_neg q3]; exact hl
        · right
          exact ⟨k, ⟨by omega, by omega⟩, hl⟩
