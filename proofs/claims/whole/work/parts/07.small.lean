/-! small rows for the printed walks -/
def FU : Nat := 100000
def bnd {α β : Type} (x : α) (k : α → β) : β := k x
theorem bn_e {α β : Type} {x : α} {k : α → β} {r : β} (h : bnd x k = r) : ∃ z, x = z ∧ k z = r := ⟨x, rfl, h⟩
theorem bd_e {α β : Type} {x : Option α} {k : α → Option β} {r : β} (h : x.bind k = some r) : ∃ v, x = some v ∧ k v = some r := by
  cases x with
  | none => cases h
  | some v => exact ⟨v, rfl, h⟩
theorem gd_e {β : Type} {p : Prop} {i : Decidable p} {k : Option β} {r : β} (h : @ite (Option β) p i k none = some r) : p ∧ k = some r := by
  by_cases hp : p
  · rw [if_pos hp] at h; exact ⟨hp, h⟩
  · rw [if_neg hp] at h; cases h
theorem if_t {β : Type} {p : Prop} {i : Decidable p} {a b r : β} (c : p) (h : @ite β p i a b = r) : a = r := by rw [if_pos c] at h; exact h
theorem if_f {β : Type} {p : Prop} {i : Decidable p} {a b r : β} (c : ¬ p) (h : @ite β p i a b = r) : b = r := by rw [if_neg c] at h; exact h
abbrev Oc (a ci : Nat) : Prop := a < 19 ∧ wcls a = ci
/-- the class's world is whole -/
def GC (Γ : Gm) : Prop := ∀ a, a < 19 → Ob Γ a (wcls a)
theorem GC.ob {Γ : Gm} (h : GC Γ) {a ci : Nat} (ha : Oc a ci) : Ob Γ a ci := ha.2 ▸ h a ha.1
theorem Ob.z {Γ : Gm} {a ci : Nat} (h : Ob Γ a ci) : Γ 0 a ≠ 0 := by rw [h.2.1]; decide
theorem run_prog : ∀ r, Oc r 5 → Oc (wsr 40 r) 3 := fun r h => (by decide +kernel : ∀ r, r < 19 → wcls r = 5 → Oc (wsr 40 r) 3) r h.1 h.2
theorem run_stage : ∀ r, Oc r 5 → Oc (wsr 41 r) 9 := fun r h => (by decide +kernel : ∀ r, r < 19 → wcls r = 5 → Oc (wsr 41 r) 9) r h.1 h.2
theorem nb_of {v : Int32} (h : v = 0 ∨ v = 1) : narrow .boolean (.int v) = .int v := by rcases h with rfl | rfl <;> rfl
theorem fb_of {v : Int32} (h : v = 0 ∨ v = 1) : fits .boolean (.int v) = true := by rcases h with rfl | rfl <;> rfl
theorem prod0 {q : Nat × Nat} (h : q.1 = 0) : q = (0, q.2) := Prod.ext h rfl
theorem lwg_priv (j : Nat) {y : MethodName} {n : Nat} (h : decide (lw_privs[j]? = some (y, n)) = true) : Cond.selects y.cls y y ∈ lwg :=
  List.mem_filter.mpr ⟨List.mem_append_left _ (List.mem_map.mpr ⟨(y, n), List.mem_of_getElem? (of_decide_eq_true h), rfl⟩), rfl⟩
theorem gl_w {C : String} {T : u_T} {n : Nat} (h : ∀ w ∈ u_ws C T n, w ∈ tables_1 ∧ goodWord w = true) : ∀ w ∈ u_ws C T n, w ∈ lwg := fun w hw => lwg_mem (h w hw).1 (h w hw).2
theorem neT {x k : Int32} (h : ¬ x = k) : x.toInt ≠ k.toInt := fun q => h (Int32.toInt_inj.mp q)
def lenB (a : Nat) : Int32 := if a = 14 then 80 else 300
theorem kf_10 : wty 10 = 0 := by decide +kernel
theorem kf_11 : wty 11 = 3 := by decide +kernel
theorem of_11 {Γ : Gm} {a : Nat} (h : Ob Γ a 0) : Γ 11 a = 2 := h.2.2 (RX0, TX0, 2) rfl 1 (by decide)
theorem oz_11 {Γ : Gm} {a : Nat} (h : Ob Γ a 0) : Γ 11 a ≠ 0 := by rw [of_11 h]; decide
theorem ln_11 (a : Nat) : (lenB a).toInt = (wlen 11 a : Nat) := by unfold lenB; by_cases h : a = 14 <;> simp [wlen, h]
theorem lo_11 (a : Nat) : Int32.ofNat (wlen 11 a) = lenB a := by unfold lenB; by_cases h : a = 14 <;> simp [wlen, h] <;> rfl
theorem kf_20 : wty 20 = 0 := by decide +kernel
theorem kf_21 : wty 21 = 0 := by decide +kernel
theorem kf_22 : wty 22 = 0 := by decide +kernel
theorem kf_23 : wty 23 = 3 := by decide +kernel
theorem of_23 {Γ : Gm} {a : Nat} (h : Ob Γ a 2) : Γ 23 a = 2 := h.2.2 (RX2, TX2, 4) rfl 3 (by decide)
theorem oz_23 {Γ : Gm} {a : Nat} (h : Ob Γ a 2) : Γ 23 a ≠ 0 := by rw [of_23 h]; decide
theorem of_23_4 {Γ : Gm} {a : Nat} (h : Ob Γ a 4) : Γ 23 a = 2 := h.2.2 (RX4, TX4, 4) rfl 3 (by decide)
theorem oz_23_4 {Γ : Gm} {a : Nat} (h : Ob Γ a 4) : Γ 23 a ≠ 0 := by rw [of_23_4 h]; decide
theorem of_23_6 {Γ : Gm} {a : Nat} (h : Ob Γ a 6) : Γ 23 a = 2 := h.2.2 (RX6, TX6, 4) rfl 3 (by decide)
theorem oz_23_6 {Γ : Gm} {a : Nat} (h : Ob Γ a 6) : Γ 23 a ≠ 0 := by rw [of_23_6 h]; decide
theorem of_23_8 {Γ : Gm} {a : Nat} (h : Ob Γ a 8) : Γ 23 a = 2 := h.2.2 (RX8, TX8, 4) rfl 3 (by decide)
theorem oz_23_8 {Γ : Gm} {a : Nat} (h : Ob Γ a 8) : Γ 23 a ≠ 0 := by rw [of_23_8 h]; decide
theorem wl_23 (a : Nat) : wlen 23 a = 30 := rfl
theorem ln_23 (a : Nat) : (30 : Int32).toInt = (wlen 23 a : Nat) := by rw [wl_23]; decide
theorem lo_23 (a : Nat) : Int32.ofNat (wlen 23 a) = 30 := by rw [wl_23]; decide
theorem kf_30 : wty 30 = 0 := by decide +kernel
theorem kf_31 : wty 31 = 0 := by decide +kernel
theorem kf_32 : wty 32 = 3 := by decide +kernel
theorem of_32 {Γ : Gm} {a : Nat} (h : Ob Γ a 3) : Γ 32 a = 2 := h.2.2 (RX3, TX3, 5) rfl 2 (by decide)
theorem oz_32 {Γ : Gm} {a : Nat} (h : Ob Γ a 3) : Γ 32 a ≠ 0 := by rw [of_32 h]; decide
theorem wl_32 (a : Nat) : wlen 32 a = 150 := rfl
theorem ln_32 (a : Nat) : (150 : Int32).toInt = (wlen 32 a : Nat) := by rw [wl_32]; decide
theorem lo_32 (a : Nat) : Int32.ofNat (wlen 32 a) = 150 := by rw [wl_32]; decide
theorem kf_33 : wty 33 = 3 := by decide +kernel
theorem of_33 {Γ : Gm} {a : Nat} (h : Ob Γ a 3) : Γ 33 a = 2 := h.2.2 (RX3, TX3, 5) rfl 3 (by decide)
theorem oz_33 {Γ : Gm} {a : Nat} (h : Ob Γ a 3) : Γ 33 a ≠ 0 := by rw [of_33 h]; decide
theorem wl_33 (a : Nat) : wlen 33 a = 150 := rfl
theorem ln_33 (a : Nat) : (150 : Int32).toInt = (wlen 33 a : Nat) := by rw [wl_33]; decide
theorem lo_33 (a : Nat) : Int32.ofNat (wlen 33 a) = 150 := by rw [wl_33]; decide
theorem kf_34 : wty 34 = 3 := by decide +kernel
theorem of_34 {Γ : Gm} {a : Nat} (h : Ob Γ a 3) : Γ 34 a = 2 := h.2.2 (RX3, TX3, 5) rfl 4 (by decide)
theorem oz_34 {Γ : Gm} {a : Nat} (h : Ob Γ a 3) : Γ 34 a ≠ 0 := by rw [of_34 h]; decide
theorem wl_34 (a : Nat) : wlen 34 a = 30 := rfl
theorem ln_34 (a : Nat) : (30 : Int32).toInt = (wlen 34 a : Nat) := by rw [wl_34]; decide
theorem lo_34 (a : Nat) : Int32.ofNat (wlen 34 a) = 30 := by rw [wl_34]; decide
theorem kf_40 : wty 40 = 2 := by decide +kernel
theorem of_40 {Γ : Gm} {a : Nat} (h : Ob Γ a 5) : Γ 40 a = 2 := h.2.2 (RX5, TX5, 14) rfl 0 (by decide)
theorem oz_40 {Γ : Gm} {a : Nat} (h : Ob Γ a 5) : Γ 40 a ≠ 0 := by rw [of_40 h]; decide
theorem kf_41 : wty 41 = 2 := by decide +kernel
theorem of_41 {Γ : Gm} {a : Nat} (h : Ob Γ a 5) : Γ 41 a = 2 := h.2.2 (RX5, TX5, 14) rfl 1 (by decide)
theorem oz_41 {Γ : Gm} {a : Nat} (h : Ob Γ a 5) : Γ 41 a ≠ 0 := by rw [of_41 h]; decide
theorem kf_42 : wty 42 = 0 := by decide +kernel
theorem kf_43 : wty 43 = 0 := by decide +kernel
theorem kf_44 : wty 44 = 0 := by decide +kernel
theorem kf_45 : wty 45 = 3 := by decide +kernel
theorem of_45 {Γ : Gm} {a : Nat} (h : Ob Γ a 5) : Γ 45 a = 2 := h.2.2 (RX5, TX5, 14) rfl 5 (by decide)
theorem oz_45 {Γ : Gm} {a : Nat} (h : Ob Γ a 5) : Γ 45 a ≠ 0 := by rw [of_45 h]; decide
theorem wl_45 (a : Nat) : wlen 45 a = 150 := rfl
theorem ln_45 (a : Nat) : (150 : Int32).toInt = (wlen 45 a : Nat) := by rw [wl_45]; decide
theorem lo_45 (a : Nat) : Int32.ofNat (wlen 45 a) = 150 := by rw [wl_45]; decide
theorem kf_46 : wty 46 = 3 := by decide +kernel
theorem of_46 {Γ : Gm} {a : Nat} (h : Ob Γ a 5) : Γ 46 a = 2 := h.2.2 (RX5, TX5, 14) rfl 6 (by decide)
theorem oz_46 {Γ : Gm} {a : Nat} (h : Ob Γ a 5) : Γ 46 a ≠ 0 := by rw [of_46 h]; decide
theorem wl_46 (a : Nat) : wlen 46 a = 6 := rfl
theorem ln_46 (a : Nat) : (6 : Int32).toInt = (wlen 46 a : Nat) := by rw [wl_46]; decide
theorem lo_46 (a : Nat) : Int32.ofNat (wlen 46 a) = 6 := by rw [wl_46]; decide
theorem kf_47 : wty 47 = 3 := by decide +kernel
theorem of_47 {Γ : Gm} {a : Nat} (h : Ob Γ a 5) : Γ 47 a = 2 := h.2.2 (RX5, TX5, 14) rfl 7 (by decide)
theorem oz_47 {Γ : Gm} {a : Nat} (h : Ob Γ a 5) : Γ 47 a ≠ 0 := by rw [of_47 h]; decide
theorem wl_47 (a : Nat) : wlen 47 a = 6 := rfl
theorem ln_47 (a : Nat) : (6 : Int32).toInt = (wlen 47 a : Nat) := by rw [wl_47]; decide
theorem lo_47 (a : Nat) : Int32.ofNat (wlen 47 a) = 6 := by rw [wl_47]; decide
theorem kf_48 : wty 48 = 4 := by decide +kernel
theorem of_48 {Γ : Gm} {a : Nat} (h : Ob Γ a 5) : Γ 48 a = 2 := h.2.2 (RX5, TX5, 14) rfl 8 (by decide)
theorem oz_48 {Γ : Gm} {a : Nat} (h : Ob Γ a 5) : Γ 48 a ≠ 0 := by rw [of_48 h]; decide
theorem wl_48 (a : Nat) : wlen 48 a = 6 := rfl
theorem ln_48 (a : Nat) : (6 : Int32).toInt = (wlen 48 a : Nat) := by rw [wl_48]; decide
theorem lo_48 (a : Nat) : Int32.ofNat (wlen 48 a) = 6 := by rw [wl_48]; decide
theorem kf_49 : wty 49 = 3 := by decide +kernel
theorem of_49 {Γ : Gm} {a : Nat} (h : Ob Γ a 5) : Γ 49 a = 2 := h.2.2 (RX5, TX5, 14) rfl 9 (by decide)
theorem oz_49 {Γ : Gm} {a : Nat} (h : Ob Γ a 5) : Γ 49 a ≠ 0 := by rw [of_49 h]; decide
theorem wl_49 (a : Nat) : wlen 49 a = 6 := rfl
theorem ln_49 (a : Nat) : (6 : Int32).toInt = (wlen 49 a : Nat) := by rw [wl_49]; decide
theorem lo_49 (a : Nat) : Int32.ofNat (wlen 49 a) = 6 := by rw [wl_49]; decide
theorem kf_50 : wty 50 = 3 := by decide +kernel
theorem of_50 {Γ : Gm} {a : Nat} (h : Ob Γ a 5) : Γ 50 a = 2 := h.2.2 (RX5, TX5, 14) rfl 10 (by decide)
theorem oz_50 {Γ : Gm} {a : Nat} (h : Ob Γ a 5) : Γ 50 a ≠ 0 := by rw [of_50 h]; decide
theorem wl_50 (a : Nat) : wlen 50 a = 30 := rfl
theorem ln_50 (a : Nat) : (30 : Int32).toInt = (wlen 50 a : Nat) := by rw [wl_50]; decide
theorem lo_50 (a : Nat) : Int32.ofNat (wlen 50 a) = 30 := by rw [wl_50]; decide
theorem kf_51 : wty 51 = 0 := by decide +kernel
theorem kf_52 : wty 52 = 0 := by decide +kernel
theorem kf_53 : wty 53 = 0 := by decide +kernel
theorem kf_60 : wty 60 = 3 := by decide +kernel
theorem of_60 {Γ : Gm} {a : Nat} (h : Ob Γ a 7) : Γ 60 a = 2 := h.2.2 (RX7, TX7, 3) rfl 0 (by decide)
theorem oz_60 {Γ : Gm} {a : Nat} (h : Ob Γ a 7) : Γ 60 a ≠ 0 := by rw [of_60 h]; decide
theorem wl_60 (a : Nat) : wlen 60 a = 3 := rfl
theorem ln_60 (a : Nat) : (3 : Int32).toInt = (wlen 60 a : Nat) := by rw [wl_60]; decide
theorem lo_60 (a : Nat) : Int32.ofNat (wlen 60 a) = 3 := by rw [wl_60]; decide
theorem kf_61 : wty 61 = 3 := by decide +kernel
theorem of_61 {Γ : Gm} {a : Nat} (h : Ob Γ a 7) : Γ 61 a = 2 := h.2.2 (RX7, TX7, 3) rfl 1 (by decide)
theorem oz_61 {Γ : Gm} {a : Nat} (h : Ob Γ a 7) : Γ 61 a ≠ 0 := by rw [of_61 h]; decide
theorem wl_61 (a : Nat) : wlen 61 a = 3 := rfl
theorem ln_61 (a : Nat) : (3 : Int32).toInt = (wlen 61 a : Nat) := by rw [wl_61]; decide
theorem lo_61 (a : Nat) : Int32.ofNat (wlen 61 a) = 3 := by rw [wl_61]; decide
theorem kf_62 : wty 62 = 3 := by decide +kernel
theorem of_62 {Γ : Gm} {a : Nat} (h : Ob Γ a 7) : Γ 62 a = 2 := h.2.2 (RX7, TX7, 3) rfl 2 (by decide)
theorem oz_62 {Γ : Gm} {a : Nat} (h : Ob Γ a 7) : Γ 62 a ≠ 0 := by rw [of_62 h]; decide
theorem wl_62 (a : Nat) : wlen 62 a = 210 := rfl
theorem ln_62 (a : Nat) : (210 : Int32).toInt = (wlen 62 a : Nat) := by rw [wl_62]; decide
theorem lo_62 (a : Nat) : Int32.ofNat (wlen 62 a) = 210 := by rw [wl_62]; decide
theorem kf_70 : wty 70 = 0 := by decide +kernel
theorem kf_71 : wty 71 = 0 := by decide +kernel
theorem kf_72 : wty 72 = 0 := by decide +kernel
theorem kf_73 : wty 73 = 3 := by decide +kernel
theorem of_73 {Γ : Gm} {a : Nat} (h : Ob Γ a 9) : Γ 73 a = 2 := h.2.2 (RX9, TX9, 10) rfl 3 (by decide)
theorem oz_73 {Γ : Gm} {a : Nat} (h : Ob Γ a 9) : Γ 73 a ≠ 0 := by rw [of_73 h]; decide
theorem wl_73 (a : Nat) : wlen 73 a = 100 := rfl
theorem ln_73 (a : Nat) : (100 : Int32).toInt = (wlen 73 a : Nat) := by rw [wl_73]; decide
theorem lo_73 (a : Nat) : Int32.ofNat (wlen 73 a) = 100 := by rw [wl_73]; decide
theorem kf_74 : wty 74 = 3 := by decide +kernel
theorem of_74 {Γ : Gm} {a : Nat} (h : Ob Γ a 9) : Γ 74 a = 2 := h.2.2 (RX9, TX9, 10) rfl 4 (by decide)
theorem oz_74 {Γ : Gm} {a : Nat} (h : Ob Γ a 9) : Γ 74 a ≠ 0 := by rw [of_74 h]; decide
theorem wl_74 (a : Nat) : wlen 74 a = 3 := rfl
theorem ln_74 (a : Nat) : (3 : Int32).toInt = (wlen 74 a : Nat) := by rw [wl_74]; decide
theorem lo_74 (a : Nat) : Int32.ofNat (wlen 74 a) = 3 := by rw [wl_74]; decide
theorem kf_75 : wty 75 = 3 := by decide +kernel
theorem of_75 {Γ : Gm} {a : Nat} (h : Ob Γ a 9) : Γ 75 a = 2 := h.2.2 (RX9, TX9, 10) rfl 5 (by decide)
theorem oz_75 {Γ : Gm} {a : Nat} (h : Ob Γ a 9) : Γ 75 a ≠ 0 := by rw [of_75 h]; decide
theorem wl_75 (a : Nat) : wlen 75 a = 3 := rfl
theorem ln_75 (a : Nat) : (3 : Int32).toInt = (wlen 75 a : Nat) := by rw [wl_75]; decide
theorem lo_75 (a : Nat) : Int32.ofNat (wlen 75 a) = 3 := by rw [wl_75]; decide
theorem kf_76 : wty 76 = 3 := by decide +kernel
theorem of_76 {Γ : Gm} {a : Nat} (h : Ob Γ a 9) : Γ 76 a = 2 := h.2.2 (RX9, TX9, 10) rfl 6 (by decide)
theorem oz_76 {Γ : Gm} {a : Nat} (h : Ob Γ a 9) : Γ 76 a ≠ 0 := by rw [of_76 h]; decide
theorem wl_76 (a : Nat) : wlen 76 a = 3 := rfl
theorem ln_76 (a : Nat) : (3 : Int32).toInt = (wlen 76 a : Nat) := by rw [wl_76]; decide
theorem lo_76 (a : Nat) : Int32.ofNat (wlen 76 a) = 3 := by rw [wl_76]; decide
theorem kf_77 : wty 77 = 3 := by decide +kernel
theorem of_77 {Γ : Gm} {a : Nat} (h : Ob Γ a 9) : Γ 77 a = 2 := h.2.2 (RX9, TX9, 10) rfl 7 (by decide)
theorem oz_77 {Γ : Gm} {a : Nat} (h : Ob Γ a 9) : Γ 77 a ≠ 0 := by rw [of_77 h]; decide
theorem wl_77 (a : Nat) : wlen 77 a = 3 := rfl
theorem ln_77 (a : Nat) : (3 : Int32).toInt = (wlen 77 a : Nat) := by rw [wl_77]; decide
theorem lo_77 (a : Nat) : Int32.ofNat (wlen 77 a) = 3 := by rw [wl_77]; decide
theorem kf_78 : wty 78 = 3 := by decide +kernel
theorem of_78 {Γ : Gm} {a : Nat} (h : Ob Γ a 9) : Γ 78 a = 2 := h.2.2 (RX9, TX9, 10) rfl 8 (by decide)
theorem oz_78 {Γ : Gm} {a : Nat} (h : Ob Γ a 9) : Γ 78 a ≠ 0 := by rw [of_78 h]; decide
theorem wl_78 (a : Nat) : wlen 78 a = 3 := rfl
theorem ln_78 (a : Nat) : (3 : Int32).toInt = (wlen 78 a : Nat) := by rw [wl_78]; decide
theorem lo_78 (a : Nat) : Int32.ofNat (wlen 78 a) = 3 := by rw [wl_78]; decide
theorem kf_79 : wty 79 = 3 := by decide +kernel
theorem of_79 {Γ : Gm} {a : Nat} (h : Ob Γ a 9) : Γ 79 a = 2 := h.2.2 (RX9, TX9, 10) rfl 9 (by decide)
theorem oz_79 {Γ : Gm} {a : Nat} (h : Ob Γ a 9) : Γ 79 a ≠ 0 := by rw [of_79 h]; decide
theorem wl_79 (a : Nat) : wlen 79 a = 60 := rfl
theorem ln_79 (a : Nat) : (60 : Int32).toInt = (wlen 79 a : Nat) := by rw [wl_79]; decide
theorem lo_79 (a : Nat) : Int32.ofNat (wlen 79 a) = 60 := by rw [wl_79]; decide
theorem kf_80 : wty 80 = 0 := by decide +kernel
theorem kf_81 : wty 81 = 3 := by decide +kernel
theorem of_81 {Γ : Gm} {a : Nat} (h : Ob Γ a 10) : Γ 81 a = 2 := h.2.2 (RX10, TX10, 7) rfl 1 (by decide)
theorem oz_81 {Γ : Gm} {a : Nat} (h : Ob Γ a 10) : Γ 81 a ≠ 0 := by rw [of_81 h]; decide
theorem wl_81 (a : Nat) : wlen 81 a = 4 := rfl
theorem ln_81 (a : Nat) : (4 : Int32).toInt = (wlen 81 a : Nat) := by rw [wl_81]; decide
theorem lo_81 (a : Nat) : Int32.ofNat (wlen 81 a) = 4 := by rw [wl_81]; decide
theorem kf_82 : wty 82 = 3 := by decide +kernel
theorem of_82 {Γ : Gm} {a : Nat} (h : Ob Γ a 10) : Γ 82 a = 2 := h.2.2 (RX10, TX10, 7) rfl 2 (by decide)
theorem oz_82 {Γ : Gm} {a : Nat} (h : Ob Γ a 10) : Γ 82 a ≠ 0 := by rw [of_82 h]; decide
theorem wl_82 (a : Nat) : wlen 82 a = 4 := rfl
theorem ln_82 (a : Nat) : (4 : Int32).toInt = (wlen 82 a : Nat) := by rw [wl_82]; decide
theorem lo_82 (a : Nat) : Int32.ofNat (wlen 82 a) = 4 := by rw [wl_82]; decide
theorem kf_83 : wty 83 = 3 := by decide +kernel
theorem of_83 {Γ : Gm} {a : Nat} (h : Ob Γ a 10) : Γ 83 a = 2 := h.2.2 (RX10, TX10, 7) rfl 3 (by decide)
theorem oz_83 {Γ : Gm} {a : Nat} (h : Ob Γ a 10) : Γ 83 a ≠ 0 := by rw [of_83 h]; decide
theorem wl_83 (a : Nat) : wlen 83 a = 4 := rfl
theorem ln_83 (a : Nat) : (4 : Int32).toInt = (wlen 83 a : Nat) := by rw [wl_83]; decide
theorem lo_83 (a : Nat) : Int32.ofNat (wlen 83 a) = 4 := by rw [wl_83]; decide
theorem kf_84 : wty 84 = 3 := by decide +kernel
theorem of_84 {Γ : Gm} {a : Nat} (h : Ob Γ a 10) : Γ 84 a = 2 := h.2.2 (RX10, TX10, 7) rfl 4 (by decide)
theorem oz_84 {Γ : Gm} {a : Nat} (h : Ob Γ a 10) : Γ 84 a ≠ 0 := by rw [of_84 h]; decide
theorem wl_84 (a : Nat) : wlen 84 a = 4 := rfl
theorem ln_84 (a : Nat) : (4 : Int32).toInt = (wlen 84 a : Nat) := by rw [wl_84]; decide
theorem lo_84 (a : Nat) : Int32.ofNat (wlen 84 a) = 4 := by rw [wl_84]; decide
theorem kf_85 : wty 85 = 3 := by decide +kernel
theorem of_85 {Γ : Gm} {a : Nat} (h : Ob Γ a 10) : Γ 85 a = 2 := h.2.2 (RX10, TX10, 7) rfl 5 (by decide)
theorem oz_85 {Γ : Gm} {a : Nat} (h : Ob Γ a 10) : Γ 85 a ≠ 0 := by rw [of_85 h]; decide
theorem wl_85 (a : Nat) : wlen 85 a = 4 := rfl
theorem ln_85 (a : Nat) : (4 : Int32).toInt = (wlen 85 a : Nat) := by rw [wl_85]; decide
theorem lo_85 (a : Nat) : Int32.ofNat (wlen 85 a) = 4 := by rw [wl_85]; decide
theorem kf_86 : wty 86 = 0 := by decide +kernel
theorem kf_90 : wty 90 = 2 := by decide +kernel
theorem of_90 {Γ : Gm} {a : Nat} (h : Ob Γ a 11) : Γ 90 a = 2 := h.2.2 (RX11, TX11, 18) rfl 0 (by decide)
theorem oz_90 {Γ : Gm} {a : Nat} (h : Ob Γ a 11) : Γ 90 a ≠ 0 := by rw [of_90 h]; decide
theorem kf_91 : wty 91 = 2 := by decide +kernel
theorem of_91 {Γ : Gm} {a : Nat} (h : Ob Γ a 11) : Γ 91 a = 2 := h.2.2 (RX11, TX11, 18) rfl 1 (by decide)
theorem oz_91 {Γ : Gm} {a : Nat} (h : Ob Γ a 11) : Γ 91 a ≠ 0 := by rw [of_91 h]; decide
theorem kf_92 : wty 92 = 2 := by decide +kernel
theorem of_92 {Γ : Gm} {a : Nat} (h : Ob Γ a 11) : Γ 92 a = 2 := h.2.2 (RX11, TX11, 18) rfl 2 (by decide)
theorem oz_92 {Γ : Gm} {a : Nat} (h : Ob Γ a 11) : Γ 92 a ≠ 0 := by rw [of_92 h]; decide
theorem kf_93 : wty 93 = 5 := by decide +kernel
theorem of_93 {Γ : Gm} {a : Nat} (h : Ob Γ a 11) : Γ 93 a = 2 := h.2.2 (RX11, TX11, 18) rfl 3 (by decide)
theorem oz_93 {Γ : Gm} {a : Nat} (h : Ob Γ a 11) : Γ 93 a ≠ 0 := by rw [of_93 h]; decide
theorem wl_93 (a : Nat) : wlen 93 a = 4 := rfl
theorem ln_93 (a : Nat) : (4 : Int32).toInt = (wlen 93 a : Nat) := by rw [wl_93]; decide
theorem lo_93 (a : Nat) : Int32.ofNat (wlen 93 a) = 4 := by rw [wl_93]; decide
theorem kf_94 : wty 94 = 0 := by decide +kernel
theorem kf_95 : wty 95 = 2 := by decide +kernel
theorem of_95 {Γ : Gm} {a : Nat} (h : Ob Γ a 11) : Γ 95 a = 2 := h.2.2 (RX11, TX11, 18) rfl 5 (by decide)
theorem oz_95 {Γ : Gm} {a : Nat} (h : Ob Γ a 11) : Γ 95 a ≠ 0 := by rw [of_95 h]; decide
theorem kf_96 : wty 96 = 2 := by decide +kernel
theorem of_96 {Γ : Gm} {a : Nat} (h : Ob Γ a 11) : Γ 96 a = 2 := h.2.2 (RX11, TX11, 18) rfl 6 (by decide)
theorem oz_96 {Γ : Gm} {a : Nat} (h : Ob Γ a 11) : Γ 96 a ≠ 0 := by rw [of_96 h]; decide
theorem kf_97 : wty 97 = 2 := by decide +kernel
theorem of_97 {Γ : Gm} {a : Nat} (h : Ob Γ a 11) : Γ 97 a = 2 := h.2.2 (RX11, TX11, 18) rfl 7 (by decide)
theorem oz_97 {Γ : Gm} {a : Nat} (h : Ob Γ a 11) : Γ 97 a ≠ 0 := by rw [of_97 h]; decide
theorem kf_98 : wty 98 = 2 := by decide +kernel
theorem of_98 {Γ : Gm} {a : Nat} (h : Ob Γ a 11) : Γ 98 a = 2 := h.2.2 (RX11, TX11, 18) rfl 8 (by decide)
theorem oz_98 {Γ : Gm} {a : Nat} (h : Ob Γ a 11) : Γ 98 a ≠ 0 := by rw [of_98 h]; decide
theorem kf_99 : wty 99 = 1 := by decide +kernel
theorem kf_100 : wty 100 = 1 := by decide +kernel
theorem kf_101 : wty 101 = 2 := by decide +kernel
theorem of_101 {Γ : Gm} {a : Nat} (h : Ob Γ a 11) : Γ 101 a = 2 := h.2.2 (RX11, TX11, 18) rfl 11 (by decide)
theorem oz_101 {Γ : Gm} {a : Nat} (h : Ob Γ a 11) : Γ 101 a ≠ 0 := by rw [of_101 h]; decide
theorem kf_102 : wty 102 = 1 := by decide +kernel
theorem kf_103 : wty 103 = 0 := by decide +kernel
theorem kf_104 : wty 104 = 0 := by decide +kernel
theorem kf_105 : wty 105 = 0 := by decide +kernel
theorem kf_106 : wty 106 = 3 := by decide +kernel
theorem of_106 {Γ : Gm} {a : Nat} (h : Ob Γ a 11) : Γ 106 a = 2 := h.2.2 (RX11, TX11, 18) rfl 16 (by decide)
theorem oz_106 {Γ : Gm} {a : Nat} (h : Ob Γ a 11) : Γ 106 a ≠ 0 := by rw [of_106 h]; decide
theorem wl_106 (a : Nat) : wlen 106 a = 4 := rfl
theorem ln_106 (a : Nat) : (4 : Int32).toInt = (wlen 106 a : Nat) := by rw [wl_106]; decide
theorem lo_106 (a : Nat) : Int32.ofNat (wlen 106 a) = 4 := by rw [wl_106]; decide
theorem kf_107 : wty 107 = 0 := by decide +kernel
theorem kf_110 : wty 110 = 3 := by decide +kernel
theorem of_110 {Γ : Gm} {a : Nat} (h : Ob Γ a 12) : Γ 110 a = 2 := h.2.2 (RX12, TX12, 82) rfl 0 (by decide)
theorem oz_110 {Γ : Gm} {a : Nat} (h : Ob Γ a 12) : Γ 110 a ≠ 0 := by rw [of_110 h]; decide
theorem wl_110 (a : Nat) : wlen 110 a = 5 := rfl
theorem ln_110 (a : Nat) : (5 : Int32).toInt = (wlen 110 a : Nat) := by rw [wl_110]; decide
theorem lo_110 (a : Nat) : Int32.ofNat (wlen 110 a) = 5 := by rw [wl_110]; decide
theorem kf_111 : wty 111 = 3 := by decide +kernel
theorem of_111 {Γ : Gm} {a : Nat} (h : Ob Γ a 12) : Γ 111 a = 2 := h.2.2 (RX12, TX12, 82) rfl 1 (by decide)
theorem oz_111 {Γ : Gm} {a : Nat} (h : Ob Γ a 12) : Γ 111 a ≠ 0 := by rw [of_111 h]; decide
theorem wl_111 (a : Nat) : wlen 111 a = 5 := rfl
theorem ln_111 (a : Nat) : (5 : Int32).toInt = (wlen 111 a : Nat) := by rw [wl_111]; decide
theorem lo_111 (a : Nat) : Int32.ofNat (wlen 111 a) = 5 := by rw [wl_111]; decide
theorem kf_112 : wty 112 = 3 := by decide +kernel
theorem of_112 {Γ : Gm} {a : Nat} (h : Ob Γ a 12) : Γ 112 a = 2 := h.2.2 (RX12, TX12, 82) rfl 2 (by decide)
theorem oz_112 {Γ : Gm} {a : Nat} (h : Ob Γ a 12) : Γ 112 a ≠ 0 := by rw [of_112 h]; decide
theorem wl_112 (a : Nat) : wlen 112 a = 320 := rfl
theorem ln_112 (a : Nat) : (320 : Int32).toInt = (wlen 112 a : Nat) := by rw [wl_112]; decide
theorem lo_112 (a : Nat) : Int32.ofNat (wlen 112 a) = 320 := by rw [wl_112]; decide
theorem kf_113 : wty 113 = 3 := by decide +kernel
theorem of_113 {Γ : Gm} {a : Nat} (h : Ob Γ a 12) : Γ 113 a = 2 := h.2.2 (RX12, TX12, 82) rfl 3 (by decide)
theorem oz_113 {Γ : Gm} {a : Nat} (h : Ob Γ a 12) : Γ 113 a ≠ 0 := by rw [of_113 h]; decide
theorem wl_113 (a : Nat) : wlen 113 a = 5 := rfl
theorem ln_113 (a : Nat) : (5 : Int32).toInt = (wlen 113 a : Nat) := by rw [wl_113]; decide
theorem lo_113 (a : Nat) : Int32.ofNat (wlen 113 a) = 5 := by rw [wl_113]; decide
theorem kf_114 : wty 114 = 3 := by decide +kernel
theorem of_114 {Γ : Gm} {a : Nat} (h : Ob Γ a 12) : Γ 114 a = 2 := h.2.2 (RX12, TX12, 82) rfl 4 (by decide)
theorem oz_114 {Γ : Gm} {a : Nat} (h : Ob Γ a 12) : Γ 114 a ≠ 0 := by rw [of_114 h]; decide
theorem wl_114 (a : Nat) : wlen 114 a = 15 := rfl
theorem ln_114 (a : Nat) : (15 : Int32).toInt = (wlen 114 a : Nat) := by rw [wl_114]; decide
theorem lo_114 (a : Nat) : Int32.ofNat (wlen 114 a) = 15 := by rw [wl_114]; decide
theorem kf_115 : wty 115 = 3 := by decide +kernel
theorem of_115 {Γ : Gm} {a : Nat} (h : Ob Γ a 12) : Γ 115 a = 2 := h.2.2 (RX12, TX12, 82) rfl 5 (by decide)
theorem oz_115 {Γ : Gm} {a : Nat} (h : Ob Γ a 12) : Γ 115 a ≠ 0 := by rw [of_115 h]; decide
theorem wl_115 (a : Nat) : wlen 115 a = 15 := rfl
theorem ln_115 (a : Nat) : (15 : Int32).toInt = (wlen 115 a : Nat) := by rw [wl_115]; decide
theorem lo_115 (a : Nat) : Int32.ofNat (wlen 115 a) = 15 := by rw [wl_115]; decide
theorem kf_116 : wty 116 = 3 := by decide +kernel
theorem of_116 {Γ : Gm} {a : Nat} (h : Ob Γ a 12) : Γ 116 a = 2 := h.2.2 (RX12, TX12, 82) rfl 6 (by decide)
theorem oz_116 {Γ : Gm} {a : Nat} (h : Ob Γ a 12) : Γ 116 a ≠ 0 := by rw [of_116 h]; decide
theorem wl_116 (a : Nat) : wlen 116 a = 15 := rfl
theorem ln_116 (a : Nat) : (15 : Int32).toInt = (wlen 116 a : Nat) := by rw [wl_116]; decide
theorem lo_116 (a : Nat) : Int32.ofNat (wlen 116 a) = 15 := by rw [wl_116]; decide
theorem kf_117 : wty 117 = 0 := by decide +kernel
theorem kf_118 : wty 118 = 0 := by decide +kernel
theorem kf_119 : wty 119 = 3 := by decide +kernel
theorem of_119 {Γ : Gm} {a : Nat} (h : Ob Γ a 12) : Γ 119 a = 2 := h.2.2 (RX12, TX12, 82) rfl 9 (by decide)
theorem oz_119 {Γ : Gm} {a : Nat} (h : Ob Γ a 12) : Γ 119 a ≠ 0 := by rw [of_119 h]; decide
theorem wl_119 (a : Nat) : wlen 119 a = 30 := rfl
theorem ln_119 (a : Nat) : (30 : Int32).toInt = (wlen 119 a : Nat) := by rw [wl_119]; decide
theorem lo_119 (a : Nat) : Int32.ofNat (wlen 119 a) = 30 := by rw [wl_119]; decide
theorem kf_120 : wty 120 = 3 := by decide +kernel
theorem of_120 {Γ : Gm} {a : Nat} (h : Ob Γ a 12) : Γ 120 a = 2 := h.2.2 (RX12, TX12, 82) rfl 10 (by decide)
theorem oz_120 {Γ : Gm} {a : Nat} (h : Ob Γ a 12) : Γ 120 a ≠ 0 := by rw [of_120 h]; decide
theorem wl_120 (a : Nat) : wlen 120 a = 30 := rfl
theorem ln_120 (a : Nat) : (30 : Int32).toInt = (wlen 120 a : Nat) := by rw [wl_120]; decide
theorem lo_120 (a : Nat) : Int32.ofNat (wlen 120 a) = 30 := by rw [wl_120]; decide
theorem kf_121 : wty 121 = 3 := by decide +kernel
theorem of_121 {Γ : Gm} {a : Nat} (h : Ob Γ a 12) : Γ 121 a = 2 := h.2.2 (RX12, TX12, 82) rfl 11 (by decide)
theorem oz_121 {Γ : Gm} {a : Nat} (h : Ob Γ a 12) : Γ 121 a ≠ 0 := by rw [of_121 h]; decide
theorem wl_121 (a : Nat) : wlen 121 a = 150 := rfl
theorem ln_121 (a : Nat) : (150 : Int32).toInt = (wlen 121 a : Nat) := by rw [wl_121]; decide
theorem lo_121 (a : Nat) : Int32.ofNat (wlen 121 a) = 150 := by rw [wl_121]; decide
theorem kf_122 : wty 122 = 3 := by decide +kernel
theorem of_122 {Γ : Gm} {a : Nat} (h : Ob Γ a 12) : Γ 122 a = 2 := h.2.2 (RX12, TX12, 82) rfl 12 (by decide)
theorem oz_122 {Γ : Gm} {a : Nat} (h : Ob Γ a 12) : Γ 122 a ≠ 0 := by rw [of_122 h]; decide
theorem wl_122 (a : Nat) : wlen 122 a = 30 := rfl
theorem ln_122 (a : Nat) : (30 : Int32).toInt = (wlen 122 a : Nat) := by rw [wl_122]; decide
theorem lo_122 (a : Nat) : Int32.ofNat (wlen 122 a) = 30 := by rw [wl_122]; decide
theorem kf_123 : wty 123 = 3 := by decide +kernel
theorem of_123 {Γ : Gm} {a : Nat} (h : Ob Γ a 12) : Γ 123 a = 2 := h.2.2 (RX12, TX12, 82) rfl 13 (by decide)
theorem oz_123 {Γ : Gm} {a : Nat} (h : Ob Γ a 12) : Γ 123 a ≠ 0 := by rw [of_123 h]; decide
theorem wl_123 (a : Nat) : wlen 123 a = 30 := rfl
theorem ln_123 (a : Nat) : (30 : Int32).toInt = (wlen 123 a : Nat) := by rw [wl_123]; decide
theorem lo_123 (a : Nat) : Int32.ofNat (wlen 123 a) = 30 := by rw [wl_123]; decide
theorem kf_124 : wty 124 = 3 := by decide +kernel
theorem of_124 {Γ : Gm} {a : Nat} (h : Ob Γ a 12) : Γ 124 a = 2 := h.2.2 (RX12, TX12, 82) rfl 14 (by decide)
theorem oz_124 {Γ : Gm} {a : Nat} (h : Ob Γ a 12) : Γ 124 a ≠ 0 := by rw [of_124 h]; decide
theorem wl_124 (a : Nat) : wlen 124 a = 30 := rfl
theorem ln_124 (a : Nat) : (30 : Int32).toInt = (wlen 124 a : Nat) := by rw [wl_124]; decide
theorem lo_124 (a : Nat) : Int32.ofNat (wlen 124 a) = 30 := by rw [wl_124]; decide
theorem kf_125 : wty 125 = 0 := by decide +kernel
theorem kf_126 : wty 126 = 3 := by decide +kernel
theorem of_126 {Γ : Gm} {a : Nat} (h : Ob Γ a 12) : Γ 126 a = 2 := h.2.2 (RX12, TX12, 82) rfl 16 (by decide)
theorem oz_126 {Γ : Gm} {a : Nat} (h : Ob Γ a 12) : Γ 126 a ≠ 0 := by rw [of_126 h]; decide
theorem wl_126 (a : Nat) : wlen 126 a = 6 := rfl
theorem ln_126 (a : Nat) : (6 : Int32).toInt = (wlen 126 a : Nat) := by rw [wl_126]; decide
theorem lo_126 (a : Nat) : Int32.ofNat (wlen 126 a) = 6 := by rw [wl_126]; decide
theorem kf_127 : wty 127 = 3 := by decide +kernel
theorem of_127 {Γ : Gm} {a : Nat} (h : Ob Γ a 12) : Γ 127 a = 2 := h.2.2 (RX12, TX12, 82) rfl 17 (by decide)
theorem oz_127 {Γ : Gm} {a : Nat} (h : Ob Γ a 12) : Γ 127 a ≠ 0 := by rw [of_127 h]; decide
theorem wl_127 (a : Nat) : wlen 127 a = 6 := rfl
theorem ln_127 (a : Nat) : (6 : Int32).toInt = (wlen 127 a : Nat) := by rw [wl_127]; decide
theorem lo_127 (a : Nat) : Int32.ofNat (wlen 127 a) = 6 := by rw [wl_127]; decide
theorem kf_128 : wty 128 = 3 := by decide +kernel
theorem of_128 {Γ : Gm} {a : Nat} (h : Ob Γ a 12) : Γ 128 a = 2 := h.2.2 (RX12, TX12, 82) rfl 18 (by decide)
theorem oz_128 {Γ : Gm} {a : Nat} (h : Ob Γ a 12) : Γ 128 a ≠ 0 := by rw [of_128 h]; decide
theorem wl_128 (a : Nat) : wlen 128 a = 6 := rfl
theorem ln_128 (a : Nat) : (6 : Int32).toInt = (wlen 128 a : Nat) := by rw [wl_128]; decide
theorem lo_128 (a : Nat) : Int32.ofNat (wlen 128 a) = 6 := by rw [wl_128]; decide
theorem kf_129 : wty 129 = 3 := by decide +kernel
theorem of_129 {Γ : Gm} {a : Nat} (h : Ob Γ a 12) : Γ 129 a = 2 := h.2.2 (RX12, TX12, 82) rfl 19 (by decide)
theorem oz_129 {Γ : Gm} {a : Nat} (h : Ob Γ a 12) : Γ 129 a ≠ 0 := by rw [of_129 h]; decide
theorem wl_129 (a : Nat) : wlen 129 a = 6 := rfl
theorem ln_129 (a : Nat) : (6 : Int32).toInt = (wlen 129 a : Nat) := by rw [wl_129]; decide
theorem lo_129 (a : Nat) : Int32.ofNat (wlen 129 a) = 6 := by rw [wl_129]; decide
theorem kf_130 : wty 130 = 3 := by decide +kernel
theorem of_130 {Γ : Gm} {a : Nat} (h : Ob Γ a 12) : Γ 130 a = 2 := h.2.2 (RX12, TX12, 82) rfl 20 (by decide)
theorem oz_130 {Γ : Gm} {a : Nat} (h : Ob Γ a 12) : Γ 130 a ≠ 0 := by rw [of_130 h]; decide
theorem wl_130 (a : Nat) : wlen 130 a = 6 := rfl
theorem ln_130 (a : Nat) : (6 : Int32).toInt = (wlen 130 a : Nat) := by rw [wl_130]; decide
theorem lo_130 (a : Nat) : Int32.ofNat (wlen 130 a) = 6 := by rw [wl_130]; decide
theorem kf_131 : wty 131 = 0 := by decide +kernel
theorem kf_132 : wty 132 = 0 := by decide +kernel
theorem kf_133 : wty 133 = 3 := by decide +kernel
theorem of_133 {Γ : Gm} {a : Nat} (h : Ob Γ a 12) : Γ 133 a = 2 := h.2.2 (RX12, TX12, 82) rfl 23 (by decide)
theorem oz_133 {Γ : Gm} {a : Nat} (h : Ob Γ a 12) : Γ 133 a ≠ 0 := by rw [of_133 h]; decide
theorem wl_133 (a : Nat) : wlen 133 a = 64 := rfl
theorem ln_133 (a : Nat) : (64 : Int32).toInt = (wlen 133 a : Nat) := by rw [wl_133]; decide
theorem lo_133 (a : Nat) : Int32.ofNat (wlen 133 a) = 64 := by rw [wl_133]; decide
theorem kf_134 : wty 134 = 3 := by decide +kernel
theorem of_134 {Γ : Gm} {a : Nat} (h : Ob Γ a 12) : Γ 134 a = 2 := h.2.2 (RX12, TX12, 82) rfl 24 (by decide)
theorem oz_134 {Γ : Gm} {a : Nat} (h : Ob Γ a 12) : Γ 134 a ≠ 0 := by rw [of_134 h]; decide
theorem wl_134 (a : Nat) : wlen 134 a = 3 := rfl
theorem ln_134 (a : Nat) : (3 : Int32).toInt = (wlen 134 a : Nat) := by rw [wl_134]; decide
theorem lo_134 (a : Nat) : Int32.ofNat (wlen 134 a) = 3 := by rw [wl_134]; decide
theorem kf_135 : wty 135 = 3 := by decide +kernel
theorem of_135 {Γ : Gm} {a : Nat} (h : Ob Γ a 12) : Γ 135 a = 2 := h.2.2 (RX12, TX12, 82) rfl 25 (by decide)
theorem oz_135 {Γ : Gm} {a : Nat} (h : Ob Γ a 12) : Γ 135 a ≠ 0 := by rw [of_135 h]; decide
theorem wl_135 (a : Nat) : wlen 135 a = 3 := rfl
theorem ln_135 (a : Nat) : (3 : Int32).toInt = (wlen 135 a : Nat) := by rw [wl_135]; decide
theorem lo_135 (a : Nat) : Int32.ofNat (wlen 135 a) = 3 := by rw [wl_135]; decide
theorem kf_136 : wty 136 = 3 := by decide +kernel
theorem of_136 {Γ : Gm} {a : Nat} (h : Ob Γ a 12) : Γ 136 a = 2 := h.2.2 (RX12, TX12, 82) rfl 26 (by decide)
theorem oz_136 {Γ : Gm} {a : Nat} (h : Ob Γ a 12) : Γ 136 a ≠ 0 := by rw [of_136 h]; decide
theorem wl_136 (a : Nat) : wlen 136 a = 3 := rfl
theorem ln_136 (a : Nat) : (3 : Int32).toInt = (wlen 136 a : Nat) := by rw [wl_136]; decide
theorem lo_136 (a : Nat) : Int32.ofNat (wlen 136 a) = 3 := by rw [wl_136]; decide
theorem kf_137 : wty 137 = 3 := by decide +kernel
theorem of_137 {Γ : Gm} {a : Nat} (h : Ob Γ a 12) : Γ 137 a = 2 := h.2.2 (RX12, TX12, 82) rfl 27 (by decide)
theorem oz_137 {Γ : Gm} {a : Nat} (h : Ob Γ a 12) : Γ 137 a ≠ 0 := by rw [of_137 h]; decide
theorem wl_137 (a : Nat) : wlen 137 a = 3 := rfl
theorem ln_137 (a : Nat) : (3 : Int32).toInt = (wlen 137 a : Nat) := by rw [wl_137]; decide
theorem lo_137 (a : Nat) : Int32.ofNat (wlen 137 a) = 3 := by rw [wl_137]; decide
theorem kf_138 : wty 138 = 3 := by decide +kernel
theorem of_138 {Γ : Gm} {a : Nat} (h : Ob Γ a 12) : Γ 138 a = 2 := h.2.2 (RX12, TX12, 82) rfl 28 (by decide)
theorem oz_138 {Γ : Gm} {a : Nat} (h : Ob Γ a 12) : Γ 138 a ≠ 0 := by rw [of_138 h]; decide
theorem wl_138 (a : Nat) : wlen 138 a = 3 := rfl
theorem ln_138 (a : Nat) : (3 : Int32).toInt = (wlen 138 a : Nat) := by rw [wl_138]; decide
theorem lo_138 (a : Nat) : Int32.ofNat (wlen 138 a) = 3 := by rw [wl_138]; decide
theorem kf_139 : wty 139 = 3 := by decide +kernel
theorem of_139 {Γ : Gm} {a : Nat} (h : Ob Γ a 12) : Γ 139 a = 2 := h.2.2 (RX12, TX12, 82) rfl 29 (by decide)
theorem oz_139 {Γ : Gm} {a : Nat} (h : Ob Γ a 12) : Γ 139 a ≠ 0 := by rw [of_139 h]; decide
theorem wl_139 (a : Nat) : wlen 139 a = 3 := rfl
theorem ln_139 (a : Nat) : (3 : Int32).toInt = (wlen 139 a : Nat) := by rw [wl_139]; decide
theorem lo_139 (a : Nat) : Int32.ofNat (wlen 139 a) = 3 := by rw [wl_139]; decide
theorem kf_140 : wty 140 = 3 := by decide +kernel
theorem of_140 {Γ : Gm} {a : Nat} (h : Ob Γ a 12) : Γ 140 a = 2 := h.2.2 (RX12, TX12, 82) rfl 30 (by decide)
theorem oz_140 {Γ : Gm} {a : Nat} (h : Ob Γ a 12) : Γ 140 a ≠ 0 := by rw [of_140 h]; decide
theorem wl_140 (a : Nat) : wlen 140 a = 60 := rfl
theorem ln_140 (a : Nat) : (60 : Int32).toInt = (wlen 140 a : Nat) := by rw [wl_140]; decide
theorem lo_140 (a : Nat) : Int32.ofNat (wlen 140 a) = 60 := by rw [wl_140]; decide
theorem kf_141 : wty 141 = 3 := by decide +kernel
theorem of_141 {Γ : Gm} {a : Nat} (h : Ob Γ a 12) : Γ 141 a = 2 := h.2.2 (RX12, TX12, 82) rfl 31 (by decide)
theorem oz_141 {Γ : Gm} {a : Nat} (h : Ob Γ a 12) : Γ 141 a ≠ 0 := by rw [of_141 h]; decide
theorem wl_141 (a : Nat) : wlen 141 a = 6 := rfl
theorem ln_141 (a : Nat) : (6 : Int32).toInt = (wlen 141 a : Nat) := by rw [wl_141]; decide
theorem lo_141 (a : Nat) : Int32.ofNat (wlen 141 a) = 6 := by rw [wl_141]; decide
theorem kf_142 : wty 142 = 3 := by decide +kernel
theorem of_142 {Γ : Gm} {a : Nat} (h : Ob Γ a 12) : Γ 142 a = 2 := h.2.2 (RX12, TX12, 82) rfl 32 (by decide)
theorem oz_142 {Γ : Gm} {a : Nat} (h : Ob Γ a 12) : Γ 142 a ≠ 0 := by rw [of_142 h]; decide
theorem wl_142 (a : Nat) : wlen 142 a = 6 := rfl
theorem ln_142 (a : Nat) : (6 : Int32).toInt = (wlen 142 a : Nat) := by rw [wl_142]; decide
theorem lo_142 (a : Nat) : Int32.ofNat (wlen 142 a) = 6 := by rw [wl_142]; decide
theorem kf_143 : wty 143 = 3 := by decide +kernel
theorem of_143 {Γ : Gm} {a : Nat} (h : Ob Γ a 12) : Γ 143 a = 2 := h.2.2 (RX12, TX12, 82) rfl 33 (by decide)
theorem oz_143 {Γ : Gm} {a : Nat} (h : Ob Γ a 12) : Γ 143 a ≠ 0 := by rw [of_143 h]; decide
theorem wl_143 (a : Nat) : wlen 143 a = 6 := rfl
theorem ln_143 (a : Nat) : (6 : Int32).toInt = (wlen 143 a : Nat) := by rw [wl_143]; decide
theorem lo_143 (a : Nat) : Int32.ofNat (wlen 143 a) = 6 := by rw [wl_143]; decide
theorem kf_144 : wty 144 = 3 := by decide +kernel
theorem of_144 {Γ : Gm} {a : Nat} (h : Ob Γ a 12) : Γ 144 a = 2 := h.2.2 (RX12, TX12, 82) rfl 34 (by decide)
theorem oz_144 {Γ : Gm} {a : Nat} (h : Ob Γ a 12) : Γ 144 a ≠ 0 := by rw [of_144 h]; decide
theorem wl_144 (a : Nat) : wlen 144 a = 30 := rfl
theorem ln_144 (a : Nat) : (30 : Int32).toInt = (wlen 144 a : Nat) := by rw [wl_144]; decide
theorem lo_144 (a : Nat) : Int32.ofNat (wlen 144 a) = 30 := by rw [wl_144]; decide
theorem kf_145 : wty 145 = 4 := by decide +kernel
theorem of_145 {Γ : Gm} {a : Nat} (h : Ob Γ a 12) : Γ 145 a = 2 := h.2.2 (RX12, TX12, 82) rfl 35 (by decide)
theorem oz_145 {Γ : Gm} {a : Nat} (h : Ob Γ a 12) : Γ 145 a ≠ 0 := by rw [of_145 h]; decide
theorem wl_145 (a : Nat) : wlen 145 a = 6 := rfl
theorem ln_145 (a : Nat) : (6 : Int32).toInt = (wlen 145 a : Nat) := by rw [wl_145]; decide
theorem lo_145 (a : Nat) : Int32.ofNat (wlen 145 a) = 6 := by rw [wl_145]; decide
theorem kf_146 : wty 146 = 4 := by decide +kernel
theorem of_146 {Γ : Gm} {a : Nat} (h : Ob Γ a 12) : Γ 146 a = 2 := h.2.2 (RX12, TX12, 82) rfl 36 (by decide)
theorem oz_146 {Γ : Gm} {a : Nat} (h : Ob Γ a 12) : Γ 146 a ≠ 0 := by rw [of_146 h]; decide
theorem wl_146 (a : Nat) : wlen 146 a = 4 := rfl
theorem ln_146 (a : Nat) : (4 : Int32).toInt = (wlen 146 a : Nat) := by rw [wl_146]; decide
theorem lo_146 (a : Nat) : Int32.ofNat (wlen 146 a) = 4 := by rw [wl_146]; decide
theorem kf_147 : wty 147 = 4 := by decide +kernel
theorem of_147 {Γ : Gm} {a : Nat} (h : Ob Γ a 12) : Γ 147 a = 2 := h.2.2 (RX12, TX12, 82) rfl 37 (by decide)
theorem oz_147 {Γ : Gm} {a : Nat} (h : Ob Γ a 12) : Γ 147 a ≠ 0 := by rw [of_147 h]; decide
theorem wl_147 (a : Nat) : wlen 147 a = 4 := rfl
theorem ln_147 (a : Nat) : (4 : Int32).toInt = (wlen 147 a : Nat) := by rw [wl_147]; decide
theorem lo_147 (a : Nat) : Int32.ofNat (wlen 147 a) = 4 := by rw [wl_147]; decide
theorem kf_148 : wty 148 = 0 := by decide +kernel
theorem kf_149 : wty 149 = 3 := by decide +kernel
theorem of_149 {Γ : Gm} {a : Nat} (h : Ob Γ a 12) : Γ 149 a = 2 := h.2.2 (RX12, TX12, 82) rfl 39 (by decide)
theorem oz_149 {Γ : Gm} {a : Nat} (h : Ob Γ a 12) : Γ 149 a ≠ 0 := by rw [of_149 h]; decide
theorem wl_149 (a : Nat) : wlen 149 a = 50 := rfl
theorem ln_149 (a : Nat) : (50 : Int32).toInt = (wlen 149 a : Nat) := by rw [wl_149]; decide
theorem lo_149 (a : Nat) : Int32.ofNat (wlen 149 a) = 50 := by rw [wl_149]; decide
theorem kf_150 : wty 150 = 3 := by decide +kernel
theorem of_150 {Γ : Gm} {a : Nat} (h : Ob Γ a 12) : Γ 150 a = 2 := h.2.2 (RX12, TX12, 82) rfl 40 (by decide)
theorem oz_150 {Γ : Gm} {a : Nat} (h : Ob Γ a 12) : Γ 150 a ≠ 0 := by rw [of_150 h]; decide
theorem wl_150 (a : Nat) : wlen 150 a = 50 := rfl
theorem ln_150 (a : Nat) : (50 : Int32).toInt = (wlen 150 a : Nat) := by rw [wl_150]; decide
theorem lo_150 (a : Nat) : Int32.ofNat (wlen 150 a) = 50 := by rw [wl_150]; decide
theorem kf_151 : wty 151 = 3 := by decide +kernel
theorem of_151 {Γ : Gm} {a : Nat} (h : Ob Γ a 12) : Γ 151 a = 2 := h.2.2 (RX12, TX12, 82) rfl 41 (by decide)
theorem oz_151 {Γ : Gm} {a : Nat} (h : Ob Γ a 12) : Γ 151 a ≠ 0 := by rw [of_151 h]; decide
theorem wl_151 (a : Nat) : wlen 151 a = 50 := rfl
theorem ln_151 (a : Nat) : (50 : Int32).toInt = (wlen 151 a : Nat) := by rw [wl_151]; decide
theorem lo_151 (a : Nat) : Int32.ofNat (wlen 151 a) = 50 := by rw [wl_151]; decide
theorem kf_152 : wty 152 = 0 := by decide +kernel
theorem kf_153 : wty 153 = 3 := by decide +kernel
theorem of_153 {Γ : Gm} {a : Nat} (h : Ob Γ a 12) : Γ 153 a = 2 := h.2.2 (RX12, TX12, 82) rfl 43 (by decide)
theorem oz_153 {Γ : Gm} {a : Nat} (h : Ob Γ a 12) : Γ 153 a ≠ 0 := by rw [of_153 h]; decide
theorem wl_153 (a : Nat) : wlen 153 a = 80 := rfl
theorem ln_153 (a : Nat) : (80 : Int32).toInt = (wlen 153 a : Nat) := by rw [wl_153]; decide
theorem lo_153 (a : Nat) : Int32.ofNat (wlen 153 a) = 80 := by rw [wl_153]; decide
theorem kf_154 : wty 154 = 0 := by decide +kernel
theorem kf_155 : wty 155 = 0 := by decide +kernel
theorem kf_156 : wty 156 = 3 := by decide +kernel
theorem of_156 {Γ : Gm} {a : Nat} (h : Ob Γ a 12) : Γ 156 a = 2 := h.2.2 (RX12, TX12, 82) rfl 46 (by decide)
theorem oz_156 {Γ : Gm} {a : Nat} (h : Ob Γ a 12) : Γ 156 a ≠ 0 := by rw [of_156 h]; decide
theorem wl_156 (a : Nat) : wlen 156 a = 4 := rfl
theorem ln_156 (a : Nat) : (4 : Int32).toInt = (wlen 156 a : Nat) := by rw [wl_156]; decide
theorem lo_156 (a : Nat) : Int32.ofNat (wlen 156 a) = 4 := by rw [wl_156]; decide
theorem kf_157 : wty 157 = 3 := by decide +kernel
theorem of_157 {Γ : Gm} {a : Nat} (h : Ob Γ a 12) : Γ 157 a = 2 := h.2.2 (RX12, TX12, 82) rfl 47 (by decide)
theorem oz_157 {Γ : Gm} {a : Nat} (h : Ob Γ a 12) : Γ 157 a ≠ 0 := by rw [of_157 h]; decide
theorem wl_157 (a : Nat) : wlen 157 a = 4 := rfl
theorem ln_157 (a : Nat) : (4 : Int32).toInt = (wlen 157 a : Nat) := by rw [wl_157]; decide
theorem lo_157 (a : Nat) : Int32.ofNat (wlen 157 a) = 4 := by rw [wl_157]; decide
theorem kf_158 : wty 158 = 3 := by decide +kernel
theorem of_158 {Γ : Gm} {a : Nat} (h : Ob Γ a 12) : Γ 158 a = 2 := h.2.2 (RX12, TX12, 82) rfl 48 (by decide)
theorem oz_158 {Γ : Gm} {a : Nat} (h : Ob Γ a 12) : Γ 158 a ≠ 0 := by rw [of_158 h]; decide
theorem wl_158 (a : Nat) : wlen 158 a = 4 := rfl
theorem ln_158 (a : Nat) : (4 : Int32).toInt = (wlen 158 a : Nat) := by rw [wl_158]; decide
theorem lo_158 (a : Nat) : Int32.ofNat (wlen 158 a) = 4 := by rw [wl_158]; decide
theorem kf_159 : wty 159 = 3 := by decide +kernel
theorem of_159 {Γ : Gm} {a : Nat} (h : Ob Γ a 12) : Γ 159 a = 2 := h.2.2 (RX12, TX12, 82) rfl 49 (by decide)
theorem oz_159 {Γ : Gm} {a : Nat} (h : Ob Γ a 12) : Γ 159 a ≠ 0 := by rw [of_159 h]; decide
theorem wl_159 (a : Nat) : wlen 159 a = 4 := rfl
theorem ln_159 (a : Nat) : (4 : Int32).toInt = (wlen 159 a : Nat) := by rw [wl_159]; decide
theorem lo_159 (a : Nat) : Int32.ofNat (wlen 159 a) = 4 := by rw [wl_159]; decide
theorem kf_160 : wty 160 = 3 := by decide +kernel
theorem of_160 {Γ : Gm} {a : Nat} (h : Ob Γ a 12) : Γ 160 a = 2 := h.2.2 (RX12, TX12, 82) rfl 50 (by decide)
theorem oz_160 {Γ : Gm} {a : Nat} (h : Ob Γ a 12) : Γ 160 a ≠ 0 := by rw [of_160 h]; decide
theorem wl_160 (a : Nat) : wlen 160 a = 4 := rfl
theorem ln_160 (a : Nat) : (4 : Int32).toInt = (wlen 160 a : Nat) := by rw [wl_160]; decide
theorem lo_160 (a : Nat) : Int32.ofNat (wlen 160 a) = 4 := by rw [wl_160]; decide
theorem kf_161 : wty 161 = 0 := by decide +kernel
theorem kf_162 : wty 162 = 0 := by decide +kernel
theorem kf_163 : wty 163 = 0 := by decide +kernel
theorem kf_164 : wty 164 = 0 := by decide +kernel
theorem kf_165 : wty 165 = 3 := by decide +kernel
theorem of_165 {Γ : Gm} {a : Nat} (h : Ob Γ a 12) : Γ 165 a = 2 := h.2.2 (RX12, TX12, 82) rfl 55 (by decide)
theorem oz_165 {Γ : Gm} {a : Nat} (h : Ob Γ a 12) : Γ 165 a ≠ 0 := by rw [of_165 h]; decide
theorem wl_165 (a : Nat) : wlen 165 a = 2 := rfl
theorem ln_165 (a : Nat) : (2 : Int32).toInt = (wlen 165 a : Nat) := by rw [wl_165]; decide
theorem lo_165 (a : Nat) : Int32.ofNat (wlen 165 a) = 2 := by rw [wl_165]; decide
theorem kf_166 : wty 166 = 3 := by decide +kernel
theorem of_166 {Γ : Gm} {a : Nat} (h : Ob Γ a 12) : Γ 166 a = 2 := h.2.2 (RX12, TX12, 82) rfl 56 (by decide)
theorem oz_166 {Γ : Gm} {a : Nat} (h : Ob Γ a 12) : Γ 166 a ≠ 0 := by rw [of_166 h]; decide
theorem wl_166 (a : Nat) : wlen 166 a = 2 := rfl
theorem ln_166 (a : Nat) : (2 : Int32).toInt = (wlen 166 a : Nat) := by rw [wl_166]; decide
theorem lo_166 (a : Nat) : Int32.ofNat (wlen 166 a) = 2 := by rw [wl_166]; decide
theorem kf_167 : wty 167 = 3 := by decide +kernel
theorem of_167 {Γ : Gm} {a : Nat} (h : Ob Γ a 12) : Γ 167 a = 2 := h.2.2 (RX12, TX12, 82) rfl 57 (by decide)
theorem oz_167 {Γ : Gm} {a : Nat} (h : Ob Γ a 12) : Γ 167 a ≠ 0 := by rw [of_167 h]; decide
theorem wl_167 (a : Nat) : wlen 167 a = 900 := rfl
theorem ln_167 (a : Nat) : (900 : Int32).toInt = (wlen 167 a : Nat) := by rw [wl_167]; decide
theorem lo_167 (a : Nat) : Int32.ofNat (wlen 167 a) = 900 := by rw [wl_167]; decide
theorem kf_168 : wty 168 = 0 := by decide +kernel
theorem kf_169 : wty 169 = 0 := by decide +kernel
theorem kf_170 : wty 170 = 3 := by decide +kernel
theorem of_170 {Γ : Gm} {a : Nat} (h : Ob Γ a 12) : Γ 170 a = 2 := h.2.2 (RX12, TX12, 82) rfl 60 (by decide)
theorem oz_170 {Γ : Gm} {a : Nat} (h : Ob Γ a 12) : Γ 170 a ≠ 0 := by rw [of_170 h]; decide
theorem wl_170 (a : Nat) : wlen 170 a = 30 := rfl
theorem ln_170 (a : Nat) : (30 : Int32).toInt = (wlen 170 a : Nat) := by rw [wl_170]; decide
theorem lo_170 (a : Nat) : Int32.ofNat (wlen 170 a) = 30 := by rw [wl_170]; decide
theorem kf_171 : wty 171 = 3 := by decide +kernel
theorem of_171 {Γ : Gm} {a : Nat} (h : Ob Γ a 12) : Γ 171 a = 2 := h.2.2 (RX12, TX12, 82) rfl 61 (by decide)
theorem oz_171 {Γ : Gm} {a : Nat} (h : Ob Γ a 12) : Γ 171 a ≠ 0 := by rw [of_171 h]; decide
theorem wl_171 (a : Nat) : wlen 171 a = 3 := rfl
theorem ln_171 (a : Nat) : (3 : Int32).toInt = (wlen 171 a : Nat) := by rw [wl_171]; decide
theorem lo_171 (a : Nat) : Int32.ofNat (wlen 171 a) = 3 := by rw [wl_171]; decide
theorem kf_172 : wty 172 = 3 := by decide +kernel
theorem of_172 {Γ : Gm} {a : Nat} (h : Ob Γ a 12) : Γ 172 a = 2 := h.2.2 (RX12, TX12, 82) rfl 62 (by decide)
theorem oz_172 {Γ : Gm} {a : Nat} (h : Ob Γ a 12) : Γ 172 a ≠ 0 := by rw [of_172 h]; decide
theorem wl_172 (a : Nat) : wlen 172 a = 3 := rfl
theorem ln_172 (a : Nat) : (3 : Int32).toInt = (wlen 172 a : Nat) := by rw [wl_172]; decide
theorem lo_172 (a : Nat) : Int32.ofNat (wlen 172 a) = 3 := by rw [wl_172]; decide
theorem kf_173 : wty 173 = 3 := by decide +kernel
theorem of_173 {Γ : Gm} {a : Nat} (h : Ob Γ a 12) : Γ 173 a = 2 := h.2.2 (RX12, TX12, 82) rfl 63 (by decide)
theorem oz_173 {Γ : Gm} {a : Nat} (h : Ob Γ a 12) : Γ 173 a ≠ 0 := by rw [of_173 h]; decide
theorem wl_173 (a : Nat) : wlen 173 a = 210 := rfl
theorem ln_173 (a : Nat) : (210 : Int32).toInt = (wlen 173 a : Nat) := by rw [wl_173]; decide
theorem lo_173 (a : Nat) : Int32.ofNat (wlen 173 a) = 210 := by rw [wl_173]; decide
theorem kf_174 : wty 174 = 0 := by decide +kernel
theorem kf_175 : wty 175 = 0 := by decide +kernel
theorem kf_176 : wty 176 = 0 := by decide +kernel
theorem kf_177 : wty 177 = 3 := by decide +kernel
theorem of_177 {Γ : Gm} {a : Nat} (h : Ob Γ a 12) : Γ 177 a = 2 := h.2.2 (RX12, TX12, 82) rfl 67 (by decide)
theorem oz_177 {Γ : Gm} {a : Nat} (h : Ob Γ a 12) : Γ 177 a ≠ 0 := by rw [of_177 h]; decide
theorem wl_177 (a : Nat) : wlen 177 a = 24 := rfl
theorem ln_177 (a : Nat) : (24 : Int32).toInt = (wlen 177 a : Nat) := by rw [wl_177]; decide
theorem lo_177 (a : Nat) : Int32.ofNat (wlen 177 a) = 24 := by rw [wl_177]; decide
theorem kf_178 : wty 178 = 3 := by decide +kernel
theorem of_178 {Γ : Gm} {a : Nat} (h : Ob Γ a 12) : Γ 178 a = 2 := h.2.2 (RX12, TX12, 82) rfl 68 (by decide)
theorem oz_178 {Γ : Gm} {a : Nat} (h : Ob Γ a 12) : Γ 178 a ≠ 0 := by rw [of_178 h]; decide
theorem wl_178 (a : Nat) : wlen 178 a = 4 := rfl
theorem ln_178 (a : Nat) : (4 : Int32).toInt = (wlen 178 a : Nat) := by rw [wl_178]; decide
theorem lo_178 (a : Nat) : Int32.ofNat (wlen 178 a) = 4 := by rw [wl_178]; decide
theorem kf_179 : wty 179 = 3 := by decide +kernel
theorem of_179 {Γ : Gm} {a : Nat} (h : Ob Γ a 12) : Γ 179 a = 2 := h.2.2 (RX12, TX12, 82) rfl 69 (by decide)
theorem oz_179 {Γ : Gm} {a : Nat} (h : Ob Γ a 12) : Γ 179 a ≠ 0 := by rw [of_179 h]; decide
theorem wl_179 (a : Nat) : wlen 179 a = 4 := rfl
theorem ln_179 (a : Nat) : (4 : Int32).toInt = (wlen 179 a : Nat) := by rw [wl_179]; decide
theorem lo_179 (a : Nat) : Int32.ofNat (wlen 179 a) = 4 := by rw [wl_179]; decide
theorem kf_180 : wty 180 = 3 := by decide +kernel
theorem of_180 {Γ : Gm} {a : Nat} (h : Ob Γ a 12) : Γ 180 a = 2 := h.2.2 (RX12, TX12, 82) rfl 70 (by decide)
theorem oz_180 {Γ : Gm} {a : Nat} (h : Ob Γ a 12) : Γ 180 a ≠ 0 := by rw [of_180 h]; decide
theorem wl_180 (a : Nat) : wlen 180 a = 4 := rfl
theorem ln_180 (a : Nat) : (4 : Int32).toInt = (wlen 180 a : Nat) := by rw [wl_180]; decide
theorem lo_180 (a : Nat) : Int32.ofNat (wlen 180 a) = 4 := by rw [wl_180]; decide
theorem kf_181 : wty 181 = 3 := by decide +kernel
theorem of_181 {Γ : Gm} {a : Nat} (h : Ob Γ a 12) : Γ 181 a = 2 := h.2.2 (RX12, TX12, 82) rfl 71 (by decide)
theorem oz_181 {Γ : Gm} {a : Nat} (h : Ob Γ a 12) : Γ 181 a ≠ 0 := by rw [of_181 h]; decide
theorem wl_181 (a : Nat) : wlen 181 a = 4 := rfl
theorem ln_181 (a : Nat) : (4 : Int32).toInt = (wlen 181 a : Nat) := by rw [wl_181]; decide
theorem lo_181 (a : Nat) : Int32.ofNat (wlen 181 a) = 4 := by rw [wl_181]; decide
theorem kf_182 : wty 182 = 3 := by decide +kernel
theorem of_182 {Γ : Gm} {a : Nat} (h : Ob Γ a 12) : Γ 182 a = 2 := h.2.2 (RX12, TX12, 82) rfl 72 (by decide)
theorem oz_182 {Γ : Gm} {a : Nat} (h : Ob Γ a 12) : Γ 182 a ≠ 0 := by rw [of_182 h]; decide
theorem wl_182 (a : Nat) : wlen 182 a = 4 := rfl
theorem ln_182 (a : Nat) : (4 : Int32).toInt = (wlen 182 a : Nat) := by rw [wl_182]; decide
theorem lo_182 (a : Nat) : Int32.ofNat (wlen 182 a) = 4 := by rw [wl_182]; decide
theorem kf_183 : wty 183 = 3 := by decide +kernel
theorem of_183 {Γ : Gm} {a : Nat} (h : Ob Γ a 12) : Γ 183 a = 2 := h.2.2 (RX12, TX12, 82) rfl 73 (by decide)
theorem oz_183 {Γ : Gm} {a : Nat} (h : Ob Γ a 12) : Γ 183 a ≠ 0 := by rw [of_183 h]; decide
theorem wl_183 (a : Nat) : wlen 183 a = 4 := rfl
theorem ln_183 (a : Nat) : (4 : Int32).toInt = (wlen 183 a : Nat) := by rw [wl_183]; decide
theorem lo_183 (a : Nat) : Int32.ofNat (wlen 183 a) = 4 := by rw [wl_183]; decide
theorem kf_184 : wty 184 = 4 := by decide +kernel
theorem of_184 {Γ : Gm} {a : Nat} (h : Ob Γ a 12) : Γ 184 a = 2 := h.2.2 (RX12, TX12, 82) rfl 74 (by decide)
theorem oz_184 {Γ : Gm} {a : Nat} (h : Ob Γ a 12) : Γ 184 a ≠ 0 := by rw [of_184 h]; decide
theorem wl_184 (a : Nat) : wlen 184 a = 4 := rfl
theorem ln_184 (a : Nat) : (4 : Int32).toInt = (wlen 184 a : Nat) := by rw [wl_184]; decide
theorem lo_184 (a : Nat) : Int32.ofNat (wlen 184 a) = 4 := by rw [wl_184]; decide
theorem kf_185 : wty 185 = 3 := by decide +kernel
theorem of_185 {Γ : Gm} {a : Nat} (h : Ob Γ a 12) : Γ 185 a = 2 := h.2.2 (RX12, TX12, 82) rfl 75 (by decide)
theorem oz_185 {Γ : Gm} {a : Nat} (h : Ob Γ a 12) : Γ 185 a ≠ 0 := by rw [of_185 h]; decide
theorem wl_185 (a : Nat) : wlen 185 a = 60 := rfl
theorem ln_185 (a : Nat) : (60 : Int32).toInt = (wlen 185 a : Nat) := by rw [wl_185]; decide
theorem lo_185 (a : Nat) : Int32.ofNat (wlen 185 a) = 60 := by rw [wl_185]; decide
theorem kf_186 : wty 186 = 3 := by decide +kernel
theorem of_186 {Γ : Gm} {a : Nat} (h : Ob Γ a 12) : Γ 186 a = 2 := h.2.2 (RX12, TX12, 82) rfl 76 (by decide)
theorem oz_186 {Γ : Gm} {a : Nat} (h : Ob Γ a 12) : Γ 186 a ≠ 0 := by rw [of_186 h]; decide
theorem wl_186 (a : Nat) : wlen 186 a = 300 := rfl
theorem ln_186 (a : Nat) : (300 : Int32).toInt = (wlen 186 a : Nat) := by rw [wl_186]; decide
theorem lo_186 (a : Nat) : Int32.ofNat (wlen 186 a) = 300 := by rw [wl_186]; decide
theorem kf_187 : wty 187 = 3 := by decide +kernel
theorem of_187 {Γ : Gm} {a : Nat} (h : Ob Γ a 12) : Γ 187 a = 2 := h.2.2 (RX12, TX12, 82) rfl 77 (by decide)
theorem oz_187 {Γ : Gm} {a : Nat} (h : Ob Γ a 12) : Γ 187 a ≠ 0 := by rw [of_187 h]; decide
theorem wl_187 (a : Nat) : wlen 187 a = 60 := rfl
theorem ln_187 (a : Nat) : (60 : Int32).toInt = (wlen 187 a : Nat) := by rw [wl_187]; decide
theorem lo_187 (a : Nat) : Int32.ofNat (wlen 187 a) = 60 := by rw [wl_187]; decide
theorem kf_188 : wty 188 = 3 := by decide +kernel
theorem of_188 {Γ : Gm} {a : Nat} (h : Ob Γ a 12) : Γ 188 a = 2 := h.2.2 (RX12, TX12, 82) rfl 78 (by decide)
theorem oz_188 {Γ : Gm} {a : Nat} (h : Ob Γ a 12) : Γ 188 a ≠ 0 := by rw [of_188 h]; decide
theorem wl_188 (a : Nat) : wlen 188 a = 60 := rfl
theorem ln_188 (a : Nat) : (60 : Int32).toInt = (wlen 188 a : Nat) := by rw [wl_188]; decide
theorem lo_188 (a : Nat) : Int32.ofNat (wlen 188 a) = 60 := by rw [wl_188]; decide
theorem kf_189 : wty 189 = 3 := by decide +kernel
theorem of_189 {Γ : Gm} {a : Nat} (h : Ob Γ a 12) : Γ 189 a = 2 := h.2.2 (RX12, TX12, 82) rfl 79 (by decide)
theorem oz_189 {Γ : Gm} {a : Nat} (h : Ob Γ a 12) : Γ 189 a ≠ 0 := by rw [of_189 h]; decide
theorem wl_189 (a : Nat) : wlen 189 a = 60 := rfl
theorem ln_189 (a : Nat) : (60 : Int32).toInt = (wlen 189 a : Nat) := by rw [wl_189]; decide
theorem lo_189 (a : Nat) : Int32.ofNat (wlen 189 a) = 60 := by rw [wl_189]; decide
theorem kf_190 : wty 190 = 3 := by decide +kernel
theorem of_190 {Γ : Gm} {a : Nat} (h : Ob Γ a 12) : Γ 190 a = 2 := h.2.2 (RX12, TX12, 82) rfl 80 (by decide)
theorem oz_190 {Γ : Gm} {a : Nat} (h : Ob Γ a 12) : Γ 190 a ≠ 0 := by rw [of_190 h]; decide
theorem wl_190 (a : Nat) : wlen 190 a = 12 := rfl
theorem ln_190 (a : Nat) : (12 : Int32).toInt = (wlen 190 a : Nat) := by rw [wl_190]; decide
theorem lo_190 (a : Nat) : Int32.ofNat (wlen 190 a) = 12 := by rw [wl_190]; decide
theorem kf_191 : wty 191 = 3 := by decide +kernel
theorem of_191 {Γ : Gm} {a : Nat} (h : Ob Γ a 12) : Γ 191 a = 2 := h.2.2 (RX12, TX12, 82) rfl 81 (by decide)
theorem oz_191 {Γ : Gm} {a : Nat} (h : Ob Γ a 12) : Γ 191 a ≠ 0 := by rw [of_191 h]; decide
theorem wl_191 (a : Nat) : wlen 191 a = 70 := rfl
theorem ln_191 (a : Nat) : (70 : Int32).toInt = (wlen 191 a : Nat) := by rw [wl_191]; decide
theorem lo_191 (a : Nat) : Int32.ofNat (wlen 191 a) = 70 := by rw [wl_191]; decide
section XW
variable {l : Launch} {Y : MM} {d kc ks : Nat} {N : Nat → Nat → Prop} {pc : Nat} {ls : List (Option AV)} {st : List AV} {kb sb : Nat} {Γ : Gm} {δ : Dl} {r : Rs}
theorem Xe.cst {st' : List AV} (e : st = st') (k : Xe l Y d kc ks N pc ls st' kb sb Γ δ r) : Xe l Y d kc ks N pc ls st kb sb Γ δ r := by rw [e]; exact k
theorem Xe.cδ {δ' : Dl} (e : δ = δ') (k : Xe l Y d kc ks N pc ls st kb sb Γ δ' r) : Xe l Y d kc ks N pc ls st kb sb Γ δ r := by rw [e]; exact k
theorem Xe.top {x y : Int32} (e : x = y) (k : Xe l Y d kc ks N pc ls (.inl y :: st) kb sb Γ δ r) : Xe l Y d kc ks N pc ls (.inl x :: st) kb sb Γ δ r := by rw [e]; exact k
theorem Ct.of2 {as : List AV} {n : Nat} {ls : List (Option AV)} (hls : ls = as.map some ++ List.replicate n none) (hp : plainFor Y.1 = true) (hln : as.length ≤ Y.2.2.1) (k : Xe l Y d kc ks N 0 ls [] 0 0 Γ δ r) : Ct l Y d kc ks N as Γ δ r := by
  refine Ct.of hp hln (fun i v h => ?_) k
  rw [hls, List.getElem?_append] at h
  split at h
  · rw [List.getElem?_map] at h
    cases ha : as[i]? with
    | none => rw [ha] at h; cases h
    | some w => rw [ha] at h; cases h; rfl
  · rw [List.getElem?_replicate] at h
    split at h <;> cases h
theorem y_V0 {idx d' ci nf : Nat} {C : String} {T : u_T} {Y' : MM} {a : Nat} {δ' : Dl} {v : AV} (cw : CV Y.1.cls idx C Y' 0) (hvc : vwCl[ci]? = some (C, T, nf)) (ha : Ob Γ a ci) (hd' : d' + 1 ≤ d) (hst : st.length ≤ 8) (hd : decode Y.2.1 pc = .ok (.invokevirtual idx, 3)) (hC : Ct l Y' d' 0 0 NF (.inr (0, a) :: []) Γ δ (some v, Γ, δ')) (hkk : kb + 0 ≤ kc) (hss : sb + 0 ≤ ks) (k : Xe l Y d kc ks N (pc + 3) ls (v :: st) kb sb Γ δ' r) : Xe l Y d kc ks N pc ls (.inr (0, a) :: st) kb sb Γ δ r :=
  Xe.callV (as := []) cw hvc ha.1 ha.z rfl hd' hkk hss hst hd hC (fun _ _ h => h.elim) (fun v _ => by cases v <;> first | trivial | exact fun h => h) (fun v _ => by cases v <;> first | trivial | exact fun h => h) k
theorem y_V0v {idx d' ci nf : Nat} {C : String} {T : u_T} {Y' : MM} {a : Nat} {δ' : Dl} (cw : CV Y.1.cls idx C Y' 0) (hvc : vwCl[ci]? = some (C, T, nf)) (ha : Ob Γ a ci) (hd' : d' + 1 ≤ d) (hst : st.length ≤ 8) (hd : decode Y.2.1 pc = .ok (.invokevirtual idx, 3)) (hC : Ct l Y' d' 0 0 NF (.inr (0, a) :: []) Γ δ (none, Γ, δ')) (hkk : kb + 0 ≤ kc) (hss : sb + 0 ≤ ks) (k : Xe l Y d kc ks N (pc + 3) ls st kb sb Γ δ' r) : Xe l Y d kc ks N pc ls (.inr (0, a) :: st) kb sb Γ δ r :=
  Xe.callV (as := []) cw hvc ha.1 ha.z rfl hd' hkk hss hst hd hC (fun _ _ h => h.elim) (fun v _ => by cases v <;> first | trivial | exact fun h => h) (fun v _ => by cases v <;> first | trivial | exact fun h => h) k
theorem y_V1 {idx d' ci nf : Nat} {C : String} {T : u_T} {Y' : MM} {x1 : AV} {a : Nat} {δ' : Dl} {v : AV} (cw : CV Y.1.cls idx C Y' 1) (hvc : vwCl[ci]? = some (C, T, nf)) (ha : Ob Γ a ci) (hd' : d' + 1 ≤ d) (hst : st.length ≤ 8) (hd : decode Y.2.1 pc = .ok (.invokevirtual idx, 3)) (hC : Ct l Y' d' 0 0 NF (.inr (0, a) :: [x1]) Γ δ (some v, Γ, δ')) (hkk : kb + 0 ≤ kc) (hss : sb + 0 ≤ ks) (k : Xe l Y d kc ks N (pc + 3) ls (v :: st) kb sb Γ δ' r) : Xe l Y d kc ks N pc ls (x1 :: .inr (0, a) :: st) kb sb Γ δ r :=
  Xe.callV (as := [x1]) cw hvc ha.1 ha.z rfl hd' hkk hss hst hd hC (fun _ _ h => h.elim) (fun v _ => by cases v <;> first | trivial | exact fun h => h) (fun v _ => by cases v <;> first | trivial | exact fun h => h) k
theorem y_V1v {idx d' ci nf : Nat} {C : String} {T : u_T} {Y' : MM} {x1 : AV} {a : Nat} {δ' : Dl} (cw : CV Y.1.cls idx C Y' 1) (hvc : vwCl[ci]? = some (C, T, nf)) (ha : Ob Γ a ci) (hd' : d' + 1 ≤ d) (hst : st.length ≤ 8) (hd : decode Y.2.1 pc = .ok (.invokevirtual idx, 3)) (hC : Ct l Y' d' 0 0 NF (.inr (0, a) :: [x1]) Γ δ (none, Γ, δ')) (hkk : kb + 0 ≤ kc) (hss : sb + 0 ≤ ks) (k : Xe l Y d kc ks N (pc + 3) ls st kb sb Γ δ' r) : Xe l Y d kc ks N pc ls (x1 :: .inr (0, a) :: st) kb sb Γ δ r :=
  Xe.callV (as := [x1]) cw hvc ha.1 ha.z rfl hd' hkk hss hst hd hC (fun _ _ h => h.elim) (fun v _ => by cases v <;> first | trivial | exact fun h => h) (fun v _ => by cases v <;> first | trivial | exact fun h => h) k
theorem y_V2 {idx d' ci nf : Nat} {C : String} {T : u_T} {Y' : MM} {x1 x2 : AV} {a : Nat} {δ' : Dl} {v : AV} (cw : CV Y.1.cls idx C Y' 2) (hvc : vwCl[ci]? = some (C, T, nf)) (ha : Ob Γ a ci) (hd' : d' + 1 ≤ d) (hst : st.length ≤ 8) (hd : decode Y.2.1 pc = .ok (.invokevirtual idx, 3)) (hC : Ct l Y' d' 0 0 NF (.inr (0, a) :: [x1, x2]) Γ δ (some v, Γ, δ')) (hkk : kb + 0 ≤ kc) (hss : sb + 0 ≤ ks) (k : Xe l Y d kc ks N (pc + 3) ls (v :: st) kb sb Γ δ' r) : Xe l Y d kc ks N pc ls (x2 :: x1 :: .inr (0, a) :: st) kb sb Γ δ r :=
  Xe.callV (as := [x1, x2]) cw hvc ha.1 ha.z rfl hd' hkk hss hst hd hC (fun _ _ h => h.elim) (fun v _ => by cases v <;> first | trivial | exact fun h => h) (fun v _ => by cases v <;> first | trivial | exact fun h => h) k
theorem y_V2v {idx d' ci nf : Nat} {C : String} {T : u_T} {Y' : MM} {x1 x2 : AV} {a : Nat} {δ' : Dl} (cw : CV Y.1.cls idx C Y' 2) (hvc : vwCl[ci]? = some (C, T, nf)) (ha : Ob Γ a ci) (hd' : d' + 1 ≤ d) (hst : st.length ≤ 8) (hd : decode Y.2.1 pc = .ok (.invokevirtual idx, 3)) (hC : Ct l Y' d' 0 0 NF (.inr (0, a) :: [x1, x2]) Γ δ (none, Γ, δ')) (hkk : kb + 0 ≤ kc) (hss : sb + 0 ≤ ks) (k : Xe l Y d kc ks N (pc + 3) ls st kb sb Γ δ' r) : Xe l Y d kc ks N pc ls (x2 :: x1 :: .inr (0, a) :: st) kb sb Γ δ r :=
  Xe.callV (as := [x1, x2]) cw hvc ha.1 ha.z rfl hd' hkk hss hst hd hC (fun _ _ h => h.elim) (fun v _ => by cases v <;> first | trivial | exact fun h => h) (fun v _ => by cases v <;> first | trivial | exact fun h => h) k
theorem y_V3 {idx d' ci nf : Nat} {C : String} {T : u_T} {Y' : MM} {x1 x2 x3 : AV} {a : Nat} {δ' : Dl} {v : AV} (cw : CV Y.1.cls idx C Y' 3) (hvc : vwCl[ci]? = some (C, T, nf)) (ha : Ob Γ a ci) (hd' : d' + 1 ≤ d) (hst : st.length ≤ 8) (hd : decode Y.2.1 pc = .ok (.invokevirtual idx, 3)) (hC : Ct l Y' d' 0 0 NF (.inr (0, a) :: [x1, x2, x3]) Γ δ (some v, Γ, δ')) (hkk : kb + 0 ≤ kc) (hss : sb + 0 ≤ ks) (k : Xe l Y d kc ks N (pc + 3) ls (v :: st) kb sb Γ δ' r) : Xe l Y d kc ks N pc ls (x3 :: x2 :: x1 :: .inr (0, a) :: st) kb sb Γ δ r :=
  Xe.callV (as := [x1, x2, x3]) cw hvc ha.1 ha.z rfl hd' hkk hss hst hd hC (fun _ _ h => h.elim) (fun v _ => by cases v <;> first | trivial | exact fun h => h) (fun v _ => by cases v <;> first | trivial | exact fun h => h) k
theorem y_V3v {idx d' ci nf : Nat} {C : String} {T : u_T} {Y' : MM} {x1 x2 x3 : AV} {a : Nat} {δ' : Dl} (cw : CV Y.1.cls idx C Y' 3) (hvc : vwCl[ci]? = some (C, T, nf)) (ha : Ob Γ a ci) (hd' : d' + 1 ≤ d) (hst : st.length ≤ 8) (hd : decode Y.2.1 pc = .ok (.invokevirtual idx, 3)) (hC : Ct l Y' d' 0 0 NF (.inr (0, a) :: [x1, x2, x3]) Γ δ (none, Γ, δ')) (hkk : kb + 0 ≤ kc) (hss : sb + 0 ≤ ks) (k : Xe l Y d kc ks N (pc + 3) ls st kb sb Γ δ' r) : Xe l Y d kc ks N pc ls (x3 :: x2 :: x1 :: .inr (0, a) :: st) kb sb Γ δ r :=
  Xe.callV (as := [x1, x2, x3]) cw hvc ha.1 ha.z rfl hd' hkk hss hst hd hC (fun _ _ h => h.elim) (fun v _ => by cases v <;> first | trivial | exact fun h => h) (fun v _ => by cases v <;> first | trivial | exact fun h => h) k
theorem y_V4 {idx d' ci nf : Nat} {C : String} {T : u_T} {Y' : MM} {x1 x2 x3 x4 : AV} {a : Nat} {δ' : Dl} {v : AV} (cw : CV Y.1.cls idx C Y' 4) (hvc : vwCl[ci]? = some (C, T, nf)) (ha : Ob Γ a ci) (hd' : d' + 1 ≤ d) (hst : st.length ≤ 8) (hd : decode Y.2.1 pc = .ok (.invokevirtual idx, 3)) (hC : Ct l Y' d' 0 0 NF (.inr (0, a) :: [x1, x2, x3, x4]) Γ δ (some v, Γ, δ')) (hkk : kb + 0 ≤ kc) (hss : sb + 0 ≤ ks) (k : Xe l Y d kc ks N (pc + 3) ls (v :: st) kb sb Γ δ' r) : Xe l Y d kc ks N pc ls (x4 :: x3 :: x2 :: x1 :: .inr (0, a) :: st) kb sb Γ δ r :=
  Xe.callV (as := [x1, x2, x3, x4]) cw hvc ha.1 ha.z rfl hd' hkk hss hst hd hC (fun _ _ h => h.elim) (fun v _ => by cases v <;> first | trivial | exact fun h => h) (fun v _ => by cases v <;> first | trivial | exact fun h => h) k
theorem y_V4v {idx d' ci nf : Nat} {C : String} {T : u_T} {Y' : MM} {x1 x2 x3 x4 : AV} {a : Nat} {δ' : Dl} (cw : CV Y.1.cls idx C Y' 4) (hvc : vwCl[ci]? = some (C, T, nf)) (ha : Ob Γ a ci) (hd' : d' + 1 ≤ d) (hst : st.length ≤ 8) (hd : decode Y.2.1 pc = .ok (.invokevirtual idx, 3)) (hC : Ct l Y' d' 0 0 NF (.inr (0, a) :: [x1, x2, x3, x4]) Γ δ (none, Γ, δ')) (hkk : kb + 0 ≤ kc) (hss : sb + 0 ≤ ks) (k : Xe l Y d kc ks N (pc + 3) ls st kb sb Γ δ' r) : Xe l Y d kc ks N pc ls (x4 :: x3 :: x2 :: x1 :: .inr (0, a) :: st) kb sb Γ δ r :=
  Xe.callV (as := [x1, x2, x3, x4]) cw hvc ha.1 ha.z rfl hd' hkk hss hst hd hC (fun _ _ h => h.elim) (fun v _ => by cases v <;> first | trivial | exact fun h => h) (fun v _ => by cases v <;> first | trivial | exact fun h => h) k
theorem y_V5 {idx d' ci nf : Nat} {C : String} {T : u_T} {Y' : MM} {x1 x2 x3 x4 x5 : AV} {a : Nat} {δ' : Dl} {v : AV} (cw : CV Y.1.cls idx C Y' 5) (hvc : vwCl[ci]? = some (C, T, nf)) (ha : Ob Γ a ci) (hd' : d' + 1 ≤ d) (hst : st.length ≤ 8) (hd : decode Y.2.1 pc = .ok (.invokevirtual idx, 3)) (hC : Ct l Y' d' 0 0 NF (.inr (0, a) :: [x1, x2, x3, x4, x5]) Γ δ (some v, Γ, δ')) (hkk : kb + 0 ≤ kc) (hss : sb + 0 ≤ ks) (k : Xe l Y d kc ks N (pc + 3) ls (v :: st) kb sb Γ δ' r) : Xe l Y d kc ks N pc ls (x5 :: x4 :: x3 :: x2 :: x1 :: .inr (0, a) :: st) kb sb Γ δ r :=
  Xe.callV (as := [x1, x2, x3, x4, x5]) cw hvc ha.1 ha.z rfl hd' hkk hss hst hd hC (fun _ _ h => h.elim) (fun v _ => by cases v <;> first | trivial | exact fun h => h) (fun v _ => by cases v <;> first | trivial | exact fun h => h) k
theorem y_V5v {idx d' ci nf : Nat} {C : String} {T : u_T} {Y' : MM} {x1 x2 x3 x4 x5 : AV} {a : Nat} {δ' : Dl} (cw : CV Y.1.cls idx C Y' 5) (hvc : vwCl[ci]? = some (C, T, nf)) (ha : Ob Γ a ci) (hd' : d' + 1 ≤ d) (hst : st.length ≤ 8) (hd : decode Y.2.1 pc = .ok (.invokevirtual idx, 3)) (hC : Ct l Y' d' 0 0 NF (.inr (0, a) :: [x1, x2, x3, x4, x5]) Γ δ (none, Γ, δ')) (hkk : kb + 0 ≤ kc) (hss : sb + 0 ≤ ks) (k : Xe l Y d kc ks N (pc + 3) ls st kb sb Γ δ' r) : Xe l Y d kc ks N pc ls (x5 :: x4 :: x3 :: x2 :: x1 :: .inr (0, a) :: st) kb sb Γ δ r :=
  Xe.callV (as := [x1, x2, x3, x4, x5]) cw hvc ha.1 ha.z rfl hd' hkk hss hst hd hC (fun _ _ h => h.elim) (fun v _ => by cases v <;> first | trivial | exact fun h => h) (fun v _ => by cases v <;> first | trivial | exact fun h => h) k
theorem y_VN0 {idx d' ci nf : Nat} {C host : String} {T : u_T} {Y' : MM} {a : Nat} {δ' : Dl} {v : AV} (cw : CVN Y.1.cls idx host C Y' 0) (hvc : vwCl[ci]? = some (C, T, nf)) (ha : Ob Γ a ci) (hd' : d' + 1 ≤ d) (hst : st.length ≤ 8) (hd : decode Y.2.1 pc = .ok (.invokevirtual idx, 3)) (hC : Ct l Y' d' 0 0 NF (.inr (0, a) :: []) Γ δ (some v, Γ, δ')) (hkk : kb + 0 ≤ kc) (hss : sb + 0 ≤ ks) (k : Xe l Y d kc ks N (pc + 3) ls (v :: st) kb sb Γ δ' r) : Xe l Y d kc ks N pc ls (.inr (0, a) :: st) kb sb Γ δ r :=
  Xe.callVN (as := []) cw hvc ha.1 ha.z rfl hd' hkk hss hst hd hC (fun _ _ h => h.elim) (fun v _ => by cases v <;> first | trivial | exact fun h => h) (fun v _ => by cases v <;> first | trivial | exact fun h => h) k
theorem y_VN0v {idx d' ci nf : Nat} {C host : String} {T : u_T} {Y' : MM} {a : Nat} {δ' : Dl} (cw : CVN Y.1.cls idx host C Y' 0) (hvc : vwCl[ci]? = some (C, T, nf)) (ha : Ob Γ a ci) (hd' : d' + 1 ≤ d) (hst : st.length ≤ 8) (hd : decode Y.2.1 pc = .ok (.invokevirtual idx, 3)) (hC : Ct l Y' d' 0 0 NF (.inr (0, a) :: []) Γ δ (none, Γ, δ')) (hkk : kb + 0 ≤ kc) (hss : sb + 0 ≤ ks) (k : Xe l Y d kc ks N (pc + 3) ls st kb sb Γ δ' r) : Xe l Y d kc ks N pc ls (.inr (0, a) :: st) kb sb Γ δ r :=
  Xe.callVN (as := []) cw hvc ha.1 ha.z rfl hd' hkk hss hst hd hC (fun _ _ h => h.elim) (fun v _ => by cases v <;> first | trivial | exact fun h => h) (fun v _ => by cases v <;> first | trivial | exact fun h => h) k
theorem y_VN1 {idx d' ci nf : Nat} {C host : String} {T : u_T} {Y' : MM} {x1 : AV} {a : Nat} {δ' : Dl} {v : AV} (cw : CVN Y.1.cls idx host C Y' 1) (hvc : vwCl[ci]? = some (C, T, nf)) (ha : Ob Γ a ci) (hd' : d' + 1 ≤ d) (hst : st.length ≤ 8) (hd : decode Y.2.1 pc = .ok (.invokevirtual idx, 3)) (hC : Ct l Y' d' 0 0 NF (.inr (0, a) :: [x1]) Γ δ (some v, Γ, δ')) (hkk : kb + 0 ≤ kc) (hss : sb + 0 ≤ ks) (k : Xe l Y d kc ks N (pc + 3) ls (v :: st) kb sb Γ δ' r) : Xe l Y d kc ks N pc ls (x1 :: .inr (0, a) :: st) kb sb Γ δ r :=
  Xe.callVN (as := [x1]) cw hvc ha.1 ha.z rfl hd' hkk hss hst hd hC (fun _ _ h => h.elim) (fun v _ => by cases v <;> first | trivial | exact fun h => h) (fun v _ => by cases v <;> first | trivial | exact fun h => h) k
theorem y_VN1v {idx d' ci nf : Nat} {C host : String} {T : u_T} {Y' : MM} {x1 : AV} {a : Nat} {δ' : Dl} (cw : CVN Y.1.cls idx host C Y' 1) (hvc : vwCl[ci]? = some (C, T, nf)) (ha : Ob Γ a ci) (hd' : d' + 1 ≤ d) (hst : st.length ≤ 8) (hd : decode Y.2.1 pc = .ok (.invokevirtual idx, 3)) (hC : Ct l Y' d' 0 0 NF (.inr (0, a) :: [x1]) Γ δ (none, Γ, δ')) (hkk : kb + 0 ≤ kc) (hss : sb + 0 ≤ ks) (k : Xe l Y d kc ks N (pc + 3) ls st kb sb Γ δ' r) : Xe l Y d kc ks N pc ls (x1 :: .inr (0, a) :: st) kb sb Γ δ r :=
  Xe.callVN (as := [x1]) cw hvc ha.1 ha.z rfl hd' hkk hss hst hd hC (fun _ _ h => h.elim) (fun v _ => by cases v <;> first | trivial | exact fun h => h) (fun v _ => by cases v <;> first | trivial | exact fun h => h) k
theorem y_VN2 {idx d' ci nf : Nat} {C host : String} {T : u_T} {Y' : MM} {x1 x2 : AV} {a : Nat} {δ' : Dl} {v : AV} (cw : CVN Y.1.cls idx host C Y' 2) (hvc : vwCl[ci]? = some (C, T, nf)) (ha : Ob Γ a ci) (hd' : d' + 1 ≤ d) (hst : st.length ≤ 8) (hd : decode Y.2.1 pc = .ok (.invokevirtual idx, 3)) (hC : Ct l Y' d' 0 0 NF (.inr (0, a) :: [x1, x2]) Γ δ (some v, Γ, δ')) (hkk : kb + 0 ≤ kc) (hss : sb + 0 ≤ ks) (k : Xe l Y d kc ks N (pc + 3) ls (v :: st) kb sb Γ δ' r) : Xe l Y d kc ks N pc ls (x2 :: x1 :: .inr (0, a) :: st) kb sb Γ δ r :=
  Xe.callVN (as := [x1, x2]) cw hvc ha.1 ha.z rfl hd' hkk hss hst hd hC (fun _ _ h => h.elim) (fun v _ => by cases v <;> first | trivial | exact fun h => h) (fun v _ => by cases v <;> first | trivial | exact fun h => h) k
theorem y_VN2v {idx d' ci nf : Nat} {C host : String} {T : u_T} {Y' : MM} {x1 x2 : AV} {a : Nat} {δ' : Dl} (cw : CVN Y.1.cls idx host C Y' 2) (hvc : vwCl[ci]? = some (C, T, nf)) (ha : Ob Γ a ci) (hd' : d' + 1 ≤ d) (hst : st.length ≤ 8) (hd : decode Y.2.1 pc = .ok (.invokevirtual idx, 3)) (hC : Ct l Y' d' 0 0 NF (.inr (0, a) :: [x1, x2]) Γ δ (none, Γ, δ')) (hkk : kb + 0 ≤ kc) (hss : sb + 0 ≤ ks) (k : Xe l Y d kc ks N (pc + 3) ls st kb sb Γ δ' r) : Xe l Y d kc ks N pc ls (x2 :: x1 :: .inr (0, a) :: st) kb sb Γ δ r :=
  Xe.callVN (as := [x1, x2]) cw hvc ha.1 ha.z rfl hd' hkk hss hst hd hC (fun _ _ h => h.elim) (fun v _ => by cases v <;> first | trivial | exact fun h => h) (fun v _ => by cases v <;> first | trivial | exact fun h => h) k
theorem y_VN3 {idx d' ci nf : Nat} {C host : String} {T : u_T} {Y' : MM} {x1 x2 x3 : AV} {a : Nat} {δ' : Dl} {v : AV} (cw : CVN Y.1.cls idx host C Y' 3) (hvc : vwCl[ci]? = some (C, T, nf)) (ha : Ob Γ a ci) (hd' : d' + 1 ≤ d) (hst : st.length ≤ 8) (hd : decode Y.2.1 pc = .ok (.invokevirtual idx, 3)) (hC : Ct l Y' d' 0 0 NF (.inr (0, a) :: [x1, x2, x3]) Γ δ (some v, Γ, δ')) (hkk : kb + 0 ≤ kc) (hss : sb + 0 ≤ ks) (k : Xe l Y d kc ks N (pc + 3) ls (v :: st) kb sb Γ δ' r) : Xe l Y d kc ks N pc ls (x3 :: x2 :: x1 :: .inr (0, a) :: st) kb sb Γ δ r :=
  Xe.callVN (as := [x1, x2, x3]) cw hvc ha.1 ha.z rfl hd' hkk hss hst hd hC (fun _ _ h => h.elim) (fun v _ => by cases v <;> first | trivial | exact fun h => h) (fun v _ => by cases v <;> first | trivial | exact fun h => h) k
theorem y_VN3v {idx d' ci nf : Nat} {C host : String} {T : u_T} {Y' : MM} {x1 x2 x3 : AV} {a : Nat} {δ' : Dl} (cw : CVN Y.1.cls idx host C Y' 3) (hvc : vwCl[ci]? = some (C, T, nf)) (ha : Ob Γ a ci) (hd' : d' + 1 ≤ d) (hst : st.length ≤ 8) (hd : decode Y.2.1 pc = .ok (.invokevirtual idx, 3)) (hC : Ct l Y' d' 0 0 NF (.inr (0, a) :: [x1, x2, x3]) Γ δ (none, Γ, δ')) (hkk : kb + 0 ≤ kc) (hss : sb + 0 ≤ ks) (k : Xe l Y d kc ks N (pc + 3) ls st kb sb Γ δ' r) : Xe l Y d kc ks N pc ls (x3 :: x2 :: x1 :: .inr (0, a) :: st) kb sb Γ δ r :=
  Xe.callVN (as := [x1, x2, x3]) cw hvc ha.1 ha.z rfl hd' hkk hss hst hd hC (fun _ _ h => h.elim) (fun v _ => by cases v <;> first | trivial | exact fun h => h) (fun v _ => by cases v <;> first | trivial | exact fun h => h) k
theorem y_VN4 {idx d' ci nf : Nat} {C host : String} {T : u_T} {Y' : MM} {x1 x2 x3 x4 : AV} {a : Nat} {δ' : Dl} {v : AV} (cw : CVN Y.1.cls idx host C Y' 4) (hvc : vwCl[ci]? = some (C, T, nf)) (ha : Ob Γ a ci) (hd' : d' + 1 ≤ d) (hst : st.length ≤ 8) (hd : decode Y.2.1 pc = .ok (.invokevirtual idx, 3)) (hC : Ct l Y' d' 0 0 NF (.inr (0, a) :: [x1, x2, x3, x4]) Γ δ (some v, Γ, δ')) (hkk : kb + 0 ≤ kc) (hss : sb + 0 ≤ ks) (k : Xe l Y d kc ks N (pc + 3) ls (v :: st) kb sb Γ δ' r) : Xe l Y d kc ks N pc ls (x4 :: x3 :: x2 :: x1 :: .inr (0, a) :: st) kb sb Γ δ r :=
  Xe.callVN (as := [x1, x2, x3, x4]) cw hvc ha.1 ha.z rfl hd' hkk hss hst hd hC (fun _ _ h => h.elim) (fun v _ => by cases v <;> first | trivial | exact fun h => h) (fun v _ => by cases v <;> first | trivial | exact fun h => h) k
theorem y_VN4v {idx d' ci nf : Nat} {C host : String} {T : u_T} {Y' : MM} {x1 x2 x3 x4 : AV} {a : Nat} {δ' : Dl} (cw : CVN Y.1.cls idx host C Y' 4) (hvc : vwCl[ci]? = some (C, T, nf)) (ha : Ob Γ a ci) (hd' : d' + 1 ≤ d) (hst : st.length ≤ 8) (hd : decode Y.2.1 pc = .ok (.invokevirtual idx, 3)) (hC : Ct l Y' d' 0 0 NF (.inr (0, a) :: [x1, x2, x3, x4]) Γ δ (none, Γ, δ')) (hkk : kb + 0 ≤ kc) (hss : sb + 0 ≤ ks) (k : Xe l Y d kc ks N (pc + 3) ls st kb sb Γ δ' r) : Xe l Y d kc ks N pc ls (x4 :: x3 :: x2 :: x1 :: .inr (0, a) :: st) kb sb Γ δ r :=
  Xe.callVN (as := [x1, x2, x3, x4]) cw hvc ha.1 ha.z rfl hd' hkk hss hst hd hC (fun _ _ h => h.elim) (fun v _ => by cases v <;> first | trivial | exact fun h => h) (fun v _ => by cases v <;> first | trivial | exact fun h => h) k
theorem y_VN5 {idx d' ci nf : Nat} {C host : String} {T : u_T} {Y' : MM} {x1 x2 x3 x4 x5 : AV} {a : Nat} {δ' : Dl} {v : AV} (cw : CVN Y.1.cls idx host C Y' 5) (hvc : vwCl[ci]? = some (C, T, nf)) (ha : Ob Γ a ci) (hd' : d' + 1 ≤ d) (hst : st.length ≤ 8) (hd : decode Y.2.1 pc = .ok (.invokevirtual idx, 3)) (hC : Ct l Y' d' 0 0 NF (.inr (0, a) :: [x1, x2, x3, x4, x5]) Γ δ (some v, Γ, δ')) (hkk : kb + 0 ≤ kc) (hss : sb + 0 ≤ ks) (k : Xe l Y d kc ks N (pc + 3) ls (v :: st) kb sb Γ δ' r) : Xe l Y d kc ks N pc ls (x5 :: x4 :: x3 :: x2 :: x1 :: .inr (0, a) :: st) kb sb Γ δ r :=
  Xe.callVN (as := [x1, x2, x3, x4, x5]) cw hvc ha.1 ha.z rfl hd' hkk hss hst hd hC (fun _ _ h => h.elim) (fun v _ => by cases v <;> first | trivial | exact fun h => h) (fun v _ => by cases v <;> first | trivial | exact fun h => h) k
theorem y_VN5v {idx d' ci nf : Nat} {C host : String} {T : u_T} {Y' : MM} {x1 x2 x3 x4 x5 : AV} {a : Nat} {δ' : Dl} (cw : CVN Y.1.cls idx host C Y' 5) (hvc : vwCl[ci]? = some (C, T, nf)) (ha : Ob Γ a ci) (hd' : d' + 1 ≤ d) (hst : st.length ≤ 8) (hd : decode Y.2.1 pc = .ok (.invokevirtual idx, 3)) (hC : Ct l Y' d' 0 0 NF (.inr (0, a) :: [x1, x2, x3, x4, x5]) Γ δ (none, Γ, δ')) (hkk : kb + 0 ≤ kc) (hss : sb + 0 ≤ ks) (k : Xe l Y d kc ks N (pc + 3) ls st kb sb Γ δ' r) : Xe l Y d kc ks N pc ls (x5 :: x4 :: x3 :: x2 :: x1 :: .inr (0, a) :: st) kb sb Γ δ r :=
  Xe.callVN (as := [x1, x2, x3, x4, x5]) cw hvc ha.1 ha.z rfl hd' hkk hss hst hd hC (fun _ _ h => h.elim) (fun v _ => by cases v <;> first | trivial | exact fun h => h) (fun v _ => by cases v <;> first | trivial | exact fun h => h) k
theorem y_S1 {idx d' : Nat} {Y' : MM} {x1 : AV} {δ' : Dl} {v : AV} (cw : CS Y.1.cls idx Y' 1) (hd' : d' + 1 ≤ d) (hst : st.length ≤ 8) (hd : decode Y.2.1 pc = .ok (.invokestatic idx, 3)) (hC : Ct l Y' d' 0 0 NF [x1] Γ δ (some v, Γ, δ')) (hkk : kb + 0 ≤ kc) (hss : sb + 0 ≤ ks) (k : Xe l Y d kc ks N (pc + 3) ls (v :: st) kb sb Γ δ' r) : Xe l Y d kc ks N pc ls (x1 :: st) kb sb Γ δ r :=
  Xe.callS (as := [x1]) cw rfl hd' hkk hss hst hd hC (fun _ _ h => h.elim) (fun v _ => by cases v <;> first | trivial | exact fun h => h) (fun v _ => by cases v <;> first | trivial | exact fun h => h) k
theorem y_S1v {idx d' : Nat} {Y' : MM} {x1 : AV} {δ' : Dl} (cw : CS Y.1.cls idx Y' 1) (hd' : d' + 1 ≤ d) (hst : st.length ≤ 8) (hd : decode Y.2.1 pc = .ok (.invokestatic idx, 3)) (hC : Ct l Y' d' 0 0 NF [x1] Γ δ (none, Γ, δ')) (hkk : kb + 0 ≤ kc) (hss : sb + 0 ≤ ks) (k : Xe l Y d kc ks N (pc + 3) ls st kb sb Γ δ' r) : Xe l Y d kc ks N pc ls (x1 :: st) kb sb Γ δ r :=
  Xe.callS (as := [x1]) cw rfl hd' hkk hss hst hd hC (fun _ _ h => h.elim) (fun v _ => by cases v <;> first | trivial | exact fun h => h) (fun v _ => by cases v <;> first | trivial | exact fun h => h) k
theorem y_S2 {idx d' : Nat} {Y' : MM} {x1 x2 : AV} {δ' : Dl} {v : AV} (cw : CS Y.1.cls idx Y' 2) (hd' : d' + 1 ≤ d) (hst : st.length ≤ 8) (hd : decode Y.2.1 pc = .ok (.invokestatic idx, 3)) (hC : Ct l Y' d' 0 0 NF [x1, x2] Γ δ (some v, Γ, δ')) (hkk : kb + 0 ≤ kc) (hss : sb + 0 ≤ ks) (k : Xe l Y d kc ks N (pc + 3) ls (v :: st) kb sb Γ δ' r) : Xe l Y d kc ks N pc ls (x2 :: x1 :: st) kb sb Γ δ r :=
  Xe.callS (as := [x1, x2]) cw rfl hd' hkk hss hst hd hC (fun _ _ h => h.elim) (fun v _ => by cases v <;> first | trivial | exact fun h => h) (fun v _ => by cases v <;> first | trivial | exact fun h => h) k
theorem y_S2v {idx d' : Nat} {Y' : MM} {x1 x2 : AV} {δ' : Dl} (cw : CS Y.1.cls idx Y' 2) (hd' : d' + 1 ≤ d) (hst : st.length ≤ 8) (hd : decode Y.2.1 pc = .ok (.invokestatic idx, 3)) (hC : Ct l Y' d' 0 0 NF [x1, x2] Γ δ (none, Γ, δ')) (hkk : kb + 0 ≤ kc) (hss : sb + 0 ≤ ks) (k : Xe l Y d kc ks N (pc + 3) ls st kb sb Γ δ' r) : Xe l Y d kc ks N pc ls (x2 :: x1 :: st) kb sb Γ δ r :=
  Xe.callS (as := [x1, x2]) cw rfl hd' hkk hss hst hd hC (fun _ _ h => h.elim) (fun v _ => by cases v <;> first | trivial | exact fun h => h) (fun v _ => by cases v <;> first | trivial | exact fun h => h) k
theorem y_S3 {idx d' : Nat} {Y' : MM} {x1 x2 x3 : AV} {δ' : Dl} {v : AV} (cw : CS Y.1.cls idx Y' 3) (hd' : d' + 1 ≤ d) (hst : st.length ≤ 8) (hd : decode Y.2.1 pc = .ok (.invokestatic idx, 3)) (hC : Ct l Y' d' 0 0 NF [x1, x2, x3] Γ δ (some v, Γ, δ')) (hkk : kb + 0 ≤ kc) (hss : sb + 0 ≤ ks) (k : Xe l Y d kc ks N (pc + 3) ls (v :: st) kb sb Γ δ' r) : Xe l Y d kc ks N pc ls (x3 :: x2 :: x1 :: st) kb sb Γ δ r :=
  Xe.callS (as := [x1, x2, x3]) cw rfl hd' hkk hss hst hd hC (fun _ _ h => h.elim) (fun v _ => by cases v <;> first | trivial | exact fun h => h) (fun v _ => by cases v <;> first | trivial | exact fun h => h) k
theorem y_S3v {idx d' : Nat} {Y' : MM} {x1 x2 x3 : AV} {δ' : Dl} (cw : CS Y.1.cls idx Y' 3) (hd' : d' + 1 ≤ d) (hst : st.length ≤ 8) (hd : decode Y.2.1 pc = .ok (.invokestatic idx, 3)) (hC : Ct l Y' d' 0 0 NF [x1, x2, x3] Γ δ (none, Γ, δ')) (hkk : kb + 0 ≤ kc) (hss : sb + 0 ≤ ks) (k : Xe l Y d kc ks N (pc + 3) ls st kb sb Γ δ' r) : Xe l Y d kc ks N pc ls (x3 :: x2 :: x1 :: st) kb sb Γ δ r :=
  Xe.callS (as := [x1, x2, x3]) cw rfl hd' hkk hss hst hd hC (fun _ _ h => h.elim) (fun v _ => by cases v <;> first | trivial | exact fun h => h) (fun v _ => by cases v <;> first | trivial | exact fun h => h) k
theorem y_S4 {idx d' : Nat} {Y' : MM} {x1 x2 x3 x4 : AV} {δ' : Dl} {v : AV} (cw : CS Y.1.cls idx Y' 4) (hd' : d' + 1 ≤ d) (hst : st.length ≤ 8) (hd : decode Y.2.1 pc = .ok (.invokestatic idx, 3)) (hC : Ct l Y' d' 0 0 NF [x1, x2, x3, x4] Γ δ (some v, Γ, δ')) (hkk : kb + 0 ≤ kc) (hss : sb + 0 ≤ ks) (k : Xe l Y d kc ks N (pc + 3) ls (v :: st) kb sb Γ δ' r) : Xe l Y d kc ks N pc ls (x4 :: x3 :: x2 :: x1 :: st) kb sb Γ δ r :=
  Xe.callS (as := [x1, x2, x3, x4]) cw rfl hd' hkk hss hst hd hC (fun _ _ h => h.elim) (fun v _ => by cases v <;> first | trivial | exact fun h => h) (fun v _ => by cases v <;> first | trivial | exact fun h => h) k
theorem y_S4v {idx d' : Nat} {Y' : MM} {x1 x2 x3 x4 : AV} {δ' : Dl} (cw : CS Y.1.cls idx Y' 4) (hd' : d' + 1 ≤ d) (hst : st.length ≤ 8) (hd : decode Y.2.1 pc = .ok (.invokestatic idx, 3)) (hC : Ct l Y' d' 0 0 NF [x1, x2, x3, x4] Γ δ (none, Γ, δ')) (hkk : kb + 0 ≤ kc) (hss : sb + 0 ≤ ks) (k : Xe l Y d kc ks N (pc + 3) ls st kb sb Γ δ' r) : Xe l Y d kc ks N pc ls (x4 :: x3 :: x2 :: x1 :: st) kb sb Γ δ r :=
  Xe.callS (as := [x1, x2, x3, x4]) cw rfl hd' hkk hss hst hd hC (fun _ _ h => h.elim) (fun v _ => by cases v <;> first | trivial | exact fun h => h) (fun v _ => by cases v <;> first | trivial | exact fun h => h) k
theorem y_S5 {idx d' : Nat} {Y' : MM} {x1 x2 x3 x4 x5 : AV} {δ' : Dl} {v : AV} (cw : CS Y.1.cls idx Y' 5) (hd' : d' + 1 ≤ d) (hst : st.length ≤ 8) (hd : decode Y.2.1 pc = .ok (.invokestatic idx, 3)) (hC : Ct l Y' d' 0 0 NF [x1, x2, x3, x4, x5] Γ δ (some v, Γ, δ')) (hkk : kb + 0 ≤ kc) (hss : sb + 0 ≤ ks) (k : Xe l Y d kc ks N (pc + 3) ls (v :: st) kb sb Γ δ' r) : Xe l Y d kc ks N pc ls (x5 :: x4 :: x3 :: x2 :: x1 :: st) kb sb Γ δ r :=
  Xe.callS (as := [x1, x2, x3, x4, x5]) cw rfl hd' hkk hss hst hd hC (fun _ _ h => h.elim) (fun v _ => by cases v <;> first | trivial | exact fun h => h) (fun v _ => by cases v <;> first | trivial | exact fun h => h) k
theorem y_S5v {idx d' : Nat} {Y' : MM} {x1 x2 x3 x4 x5 : AV} {δ' : Dl} (cw : CS Y.1.cls idx Y' 5) (hd' : d' + 1 ≤ d) (hst : st.length ≤ 8) (hd : decode Y.2.1 pc = .ok (.invokestatic idx, 3)) (hC : Ct l Y' d' 0 0 NF [x1, x2, x3, x4, x5] Γ δ (none, Γ, δ')) (hkk : kb + 0 ≤ kc) (hss : sb + 0 ≤ ks) (k : Xe l Y d kc ks N (pc + 3) ls st kb sb Γ δ' r) : Xe l Y d kc ks N pc ls (x5 :: x4 :: x3 :: x2 :: x1 :: st) kb sb Γ δ r :=
  Xe.callS (as := [x1, x2, x3, x4, x5]) cw rfl hd' hkk hss hst hd hC (fun _ _ h => h.elim) (fun v _ => by cases v <;> first | trivial | exact fun h => h) (fun v _ => by cases v <;> first | trivial | exact fun h => h) k
theorem y_SN1 {idx d' : Nat} {host : String} {Y' : MM} {x1 : AV} {δ' : Dl} {v : AV} (cw : CSN Y.1.cls idx host Y' 1) (hd' : d' + 1 ≤ d) (hst : st.length ≤ 8) (hd : decode Y.2.1 pc = .ok (.invokestatic idx, 3)) (hC : Ct l Y' d' 0 0 NF [x1] Γ δ (some v, Γ, δ')) (hkk : kb + 0 ≤ kc) (hss : sb + 0 ≤ ks) (k : Xe l Y d kc ks N (pc + 3) ls (v :: st) kb sb Γ δ' r) : Xe l Y d kc ks N pc ls (x1 :: st) kb sb Γ δ r :=
  Xe.callSN (as := [x1]) cw rfl hd' hkk hss hst hd hC (fun _ _ h => h.elim) (fun v _ => by cases v <;> first | trivial | exact fun h => h) (fun v _ => by cases v <;> first | trivial | exact fun h => h) k
theorem y_SN1v {idx d' : Nat} {host : String} {Y' : MM} {x1 : AV} {δ' : Dl} (cw : CSN Y.1.cls idx host Y' 1) (hd' : d' + 1 ≤ d) (hst : st.length ≤ 8) (hd : decode Y.2.1 pc = .ok (.invokestatic idx, 3)) (hC : Ct l Y' d' 0 0 NF [x1] Γ δ (none, Γ, δ')) (hkk : kb + 0 ≤ kc) (hss : sb + 0 ≤ ks) (k : Xe l Y d kc ks N (pc + 3) ls st kb sb Γ δ' r) : Xe l Y d kc ks N pc ls (x1 :: st) kb sb Γ δ r :=
  Xe.callSN (as := [x1]) cw rfl hd' hkk hss hst hd hC (fun _ _ h => h.elim) (fun v _ => by cases v <;> first | trivial | exact fun h => h) (fun v _ => by cases v <;> first | trivial | exact fun h => h) k
theorem y_SN2 {idx d' : Nat} {host : String} {Y' : MM} {x1 x2 : AV} {δ' : Dl} {v : AV} (cw : CSN Y.1.cls idx host Y' 2) (hd' : d' + 1 ≤ d) (hst : st.length ≤ 8) (hd : decode Y.2.1 pc = .ok (.invokestatic idx, 3)) (hC : Ct l Y' d' 0 0 NF [x1, x2] Γ δ (some v, Γ, δ')) (hkk : kb + 0 ≤ kc) (hss : sb + 0 ≤ ks) (k : Xe l Y d kc ks N (pc + 3) ls (v :: st) kb sb Γ δ' r) : Xe l Y d kc ks N pc ls (x2 :: x1 :: st) kb sb Γ δ r :=
  Xe.callSN (as := [x1, x2]) cw rfl hd' hkk hss hst hd hC (fun _ _ h => h.elim) (fun v _ => by cases v <;> first | trivial | exact fun h => h) (fun v _ => by cases v <;> first | trivial | exact fun h => h) k
theorem y_SN2v {idx d' : Nat} {host : String} {Y' : MM} {x1 x2 : AV} {δ' : Dl} (cw : CSN Y.1.cls idx host Y' 2) (hd' : d' + 1 ≤ d) (hst : st.length ≤ 8) (hd : decode Y.2.1 pc = .ok (.invokestatic idx, 3)) (hC : Ct l Y' d' 0 0 NF [x1, x2] Γ δ (none, Γ, δ')) (hkk : kb + 0 ≤ kc) (hss : sb + 0 ≤ ks) (k : Xe l Y d kc ks N (pc + 3) ls st kb sb Γ δ' r) : Xe l Y d kc ks N pc ls (x2 :: x1 :: st) kb sb Γ δ r :=
  Xe.callSN (as := [x1, x2]) cw rfl hd' hkk hss hst hd hC (fun _ _ h => h.elim) (fun v _ => by cases v <;> first | trivial | exact fun h => h) (fun v _ => by cases v <;> first | trivial | exact fun h => h) k
theorem y_SN3 {idx d' : Nat} {host : String} {Y' : MM} {x1 x2 x3 : AV} {δ' : Dl} {v : AV} (cw : CSN Y.1.cls idx host Y' 3) (hd' : d' + 1 ≤ d) (hst : st.length ≤ 8) (hd : decode Y.2.1 pc = .ok (.invokestatic idx, 3)) (hC : Ct l Y' d' 0 0 NF [x1, x2, x3] Γ δ (some v, Γ, δ')) (hkk : kb + 0 ≤ kc) (hss : sb + 0 ≤ ks) (k : Xe l Y d kc ks N (pc + 3) ls (v :: st) kb sb Γ δ' r) : Xe l Y d kc ks N pc ls (x3 :: x2 :: x1 :: st) kb sb Γ δ r :=
  Xe.callSN (as := [x1, x2, x3]) cw rfl hd' hkk hss hst hd hC (fun _ _ h => h.elim) (fun v _ => by cases v <;> first | trivial | exact fun h => h) (fun v _ => by cases v <;> first | trivial | exact fun h => h) k
theorem y_SN3v {idx d' : Nat} {host : String} {Y' : MM} {x1 x2 x3 : AV} {δ' : Dl} (cw : CSN Y.1.cls idx host Y' 3) (hd' : d' + 1 ≤ d) (hst : st.length ≤ 8) (hd : decode Y.2.1 pc = .ok (.invokestatic idx, 3)) (hC : Ct l Y' d' 0 0 NF [x1, x2, x3] Γ δ (none, Γ, δ')) (hkk : kb + 0 ≤ kc) (hss : sb + 0 ≤ ks) (k : Xe l Y d kc ks N (pc + 3) ls st kb sb Γ δ' r) : Xe l Y d kc ks N pc ls (x3 :: x2 :: x1 :: st) kb sb Γ δ r :=
  Xe.callSN (as := [x1, x2, x3]) cw rfl hd' hkk hss hst hd hC (fun _ _ h => h.elim) (fun v _ => by cases v <;> first | trivial | exact fun h => h) (fun v _ => by cases v <;> first | trivial | exact fun h => h) k
theorem y_SN4 {idx d' : Nat} {host : String} {Y' : MM} {x1 x2 x3 x4 : AV} {δ' : Dl} {v : AV} (cw : CSN Y.1.cls idx host Y' 4) (hd' : d' + 1 ≤ d) (hst : st.length ≤ 8) (hd : decode Y.2.1 pc = .ok (.invokestatic idx, 3)) (hC : Ct l Y' d' 0 0 NF [x1, x2, x3, x4] Γ δ (some v, Γ, δ')) (hkk : kb + 0 ≤ kc) (hss : sb + 0 ≤ ks) (k : Xe l Y d kc ks N (pc + 3) ls (v :: st) kb sb Γ δ' r) : Xe l Y d kc ks N pc ls (x4 :: x3 :: x2 :: x1 :: st) kb sb Γ δ r :=
  Xe.callSN (as := [x1, x2, x3, x4]) cw rfl hd' hkk hss hst hd hC (fun _ _ h => h.elim) (fun v _ => by cases v <;> first | trivial | exact fun h => h) (fun v _ => by cases v <;> first | trivial | exact fun h => h) k
theorem y_SN4v {idx d' : Nat} {host : String} {Y' : MM} {x1 x2 x3 x4 : AV} {δ' : Dl} (cw : CSN Y.1.cls idx host Y' 4) (hd' : d' + 1 ≤ d) (hst : st.length ≤ 8) (hd : decode Y.2.1 pc = .ok (.invokestatic idx, 3)) (hC : Ct l Y' d' 0 0 NF [x1, x2, x3, x4] Γ δ (none, Γ, δ')) (hkk : kb + 0 ≤ kc) (hss : sb + 0 ≤ ks) (k : Xe l Y d kc ks N (pc + 3) ls st kb sb Γ δ' r) : Xe l Y d kc ks N pc ls (x4 :: x3 :: x2 :: x1 :: st) kb sb Γ δ r :=
  Xe.callSN (as := [x1, x2, x3, x4]) cw rfl hd' hkk hss hst hd hC (fun _ _ h => h.elim) (fun v _ => by cases v <;> first | trivial | exact fun h => h) (fun v _ => by cases v <;> first | trivial | exact fun h => h) k
theorem y_SN5 {idx d' : Nat} {host : String} {Y' : MM} {x1 x2 x3 x4 x5 : AV} {δ' : Dl} {v : AV} (cw : CSN Y.1.cls idx host Y' 5) (hd' : d' + 1 ≤ d) (hst : st.length ≤ 8) (hd : decode Y.2.1 pc = .ok (.invokestatic idx, 3)) (hC : Ct l Y' d' 0 0 NF [x1, x2, x3, x4, x5] Γ δ (some v, Γ, δ')) (hkk : kb + 0 ≤ kc) (hss : sb + 0 ≤ ks) (k : Xe l Y d kc ks N (pc + 3) ls (v :: st) kb sb Γ δ' r) : Xe l Y d kc ks N pc ls (x5 :: x4 :: x3 :: x2 :: x1 :: st) kb sb Γ δ r :=
  Xe.callSN (as := [x1, x2, x3, x4, x5]) cw rfl hd' hkk hss hst hd hC (fun _ _ h => h.elim) (fun v _ => by cases v <;> first | trivial | exact fun h => h) (fun v _ => by cases v <;> first | trivial | exact fun h => h) k
theorem y_SN5v {idx d' : Nat} {host : String} {Y' : MM} {x1 x2 x3 x4 x5 : AV} {δ' : Dl} (cw : CSN Y.1.cls idx host Y' 5) (hd' : d' + 1 ≤ d) (hst : st.length ≤ 8) (hd : decode Y.2.1 pc = .ok (.invokestatic idx, 3)) (hC : Ct l Y' d' 0 0 NF [x1, x2, x3, x4, x5] Γ δ (none, Γ, δ')) (hkk : kb + 0 ≤ kc) (hss : sb + 0 ≤ ks) (k : Xe l Y d kc ks N (pc + 3) ls st kb sb Γ δ' r) : Xe l Y d kc ks N pc ls (x5 :: x4 :: x3 :: x2 :: x1 :: st) kb sb Γ δ r :=
  Xe.callSN (as := [x1, x2, x3, x4, x5]) cw rfl hd' hkk hss hst hd hC (fun _ _ h => h.elim) (fun v _ => by cases v <;> first | trivial | exact fun h => h) (fun v _ => by cases v <;> first | trivial | exact fun h => h) k
end XW
