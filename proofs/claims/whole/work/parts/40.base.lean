/-! the pure side: numbers, reading behind writing, frames (wip/whole/pure) -/
def zi (a : Int) : Int32 := Int32.ofInt a
theorem zi_toInt {a : Int} (h : -2147483648 ≤ a ∧ a < 2147483648) : (zi a).toInt = a := Int32.toInt_ofInt_of_le h.1 h.2
theorem zi_of (x : Int32) : x = zi x.toInt := (Int32.ofInt_toInt x).symm
theorem zi_ex (x : Int32) : ∃ a : Int, x = zi a ∧ -2147483648 ≤ a ∧ a < 2147483648 := ⟨x.toInt, zi_of x, Int32.le_toInt x, Int32.toInt_lt x⟩
theorem zl (n : Nat) : (OfNat.ofNat n : Int32) = zi (OfNat.ofNat n) := Int32.ofInt_eq_ofNat.symm
theorem zi_add (a b : Int) : zi a + zi b = zi (a + b) := (Int32.ofInt_add a b).symm
theorem zi_sub (a b : Int) : zi a - zi b = zi (a - b) := (Int32.ofInt_sub a b).symm
theorem zi_mul (a b : Int) : zi a * zi b = zi (a * b) := (Int32.ofInt_mul a b).symm
theorem zi_neg (a : Int) : -zi a = zi (-a) := (Int32.ofInt_neg a).symm
theorem zi_le {a b : Int} (ha : -2147483648 ≤ a ∧ a < 2147483648) (hb : -2147483648 ≤ b ∧ b < 2147483648) : (zi a ≤ zi b) = (a ≤ b) := by
  rw [Int32.le_iff_toInt_le, zi_toInt ha, zi_toInt hb]
theorem zi_lt {a b : Int} (ha : -2147483648 ≤ a ∧ a < 2147483648) (hb : -2147483648 ≤ b ∧ b < 2147483648) : (zi a < zi b) = (a < b) := by
  rw [Int32.lt_iff_toInt_lt, zi_toInt ha, zi_toInt hb]
theorem zi_eq {a b : Int} (ha : -2147483648 ≤ a ∧ a < 2147483648) (hb : -2147483648 ≤ b ∧ b < 2147483648) : (zi a = zi b) = (a = b) := by
  rw [← Int32.toInt_inj, zi_toInt ha, zi_toInt hb]
theorem zi_inj {a b : Int} (h : zi a = zi b) (ha : -2147483648 ≤ a ∧ a < 2147483648) (hb : -2147483648 ≤ b ∧ b < 2147483648) : a = b := by rwa [zi_eq ha hb] at h
theorem zi_le_t {a b : Int} (h : -2147483648 ≤ a ∧ a ≤ b ∧ b < 2147483648) : (zi a ≤ zi b) = True := by rw [zi_le (by omega) (by omega)]; exact eq_true h.2.1
theorem zi_le_f {a b : Int} (h : -2147483648 ≤ b ∧ b < a ∧ a < 2147483648) : (zi a ≤ zi b) = False := by rw [zi_le (by omega) (by omega)]; exact eq_false (by omega)
theorem zi_lt_t {a b : Int} (h : -2147483648 ≤ a ∧ a < b ∧ b < 2147483648) : (zi a < zi b) = True := by rw [zi_lt (by omega) (by omega)]; exact eq_true h.2.1
theorem zi_lt_f {a b : Int} (h : -2147483648 ≤ b ∧ b ≤ a ∧ a < 2147483648) : (zi a < zi b) = False := by rw [zi_lt (by omega) (by omega)]; exact eq_false (by omega)
theorem zi_eq_t {a b : Int} (h : a = b) : (zi a = zi b) = True := by rw [h]; exact eq_true rfl
theorem zi_eq_f {a b : Int} (h : ((-2147483648 ≤ a ∧ a < 2147483648) ∧ (-2147483648 ≤ b ∧ b < 2147483648)) ∧ ¬ a = b) : (zi a = zi b) = False := by rw [zi_eq h.1.1 h.1.2]; exact eq_false h.2
theorem zi_div {a b : Int} (h : 0 ≤ a ∧ a < 2147483648 ∧ 0 < b ∧ b < 2147483648) : zi a / zi b = zi (a / b) := by
  apply Int32.toInt_inj.mp
  have h1 : 0 ≤ a / b := Int.ediv_nonneg h.1 (by omega)
  have h2 : a / b ≤ a := Int.ediv_le_self _ h.1
  rw [Int32.toInt_div_of_ne_right _ _ (fun e => by
    have : (zi b).toInt = (-1 : Int32).toInt := by rw [e]
    rw [zi_toInt (by omega)] at this
    have e1 : (-1 : Int32).toInt = -1 := by decide
    omega), zi_toInt (by omega), zi_toInt (by omega), zi_toInt (by omega), Int.tdiv_eq_ediv_of_nonneg h.1]
theorem q1I {δ : Dl} {f a g b : Nat} {v : Int32} : (sI δ f a v).1 g b = if g = f ∧ b = a then v else δ.1 g b := rfl
theorem q2I {δ : Dl} {f a : Nat} {v : Int32} : (sI δ f a v).2 = δ.2 := rfl
theorem q1A {δ : Dl} {f a : Nat} {i v : Int32} : (sA δ f a i v).1 = δ.1 := rfl
theorem q2A {δ : Dl} {f a g b : Nat} {i v j : Int32} : (sA δ f a i v).2.1 g b j = if g = f ∧ b = a ∧ j = i then v else δ.2.1 g b j := by
  by_cases h : g = f ∧ b = a
  · obtain ⟨rfl, rfl⟩ := h
    by_cases hj : j = i <;> simp [sA, hj]
  · rw [if_neg (fun e => h ⟨e.1, e.2.1⟩)]
    show (if g = f ∧ b = a then (fun j => if j = i then v else δ.2.1 f a j) else δ.2.1 g b) j = _
    rw [if_neg h]
theorem q3A {δ : Dl} {f a : Nat} {i v : Int32} : (sA δ f a i v).2.2 = δ.2.2 := rfl
/-- a whole row set -/
def sW (δ : Dl) (f a : Nat) (row : Int32 → Int32) : Dl := (δ.1, fun g b => if g = f ∧ b = a then row else δ.2.1 g b, δ.2.2)
theorem bnd_eq {α β : Type} {x : α} {k : α → β} : bnd x k = k x := rfl
theorem bse {α β : Type} {x : Option α} {v : α} {k : α → Option β} (h : x = some v) : x.bind k = k v := by rw [h]; rfl
theorem b2e {α β γ : Type} {x : Option (α × β)} {v : α} {d : β} {k : α → β → Option γ} (h : x = some (v, d)) : bd2 x k = k v d := by rw [h]; rfl
theorem bind_some_e {α β : Type} {x : Option α} {v : α} {k : α → Option β} (h : x = some v) : x.bind k = k v := by rw [h]; rfl
/-- what a step leaves as it was -/
def Fr (S : Nat → Nat → Prop) (δ δ' : Dl) : Prop := δ'.2.2 = δ.2.2 ∧ ∀ g b, ¬ S g b → δ'.1 g b = δ.1 g b ∧ δ'.2.1 g b = δ.2.1 g b
theorem Fr.rf {S : Nat → Nat → Prop} {δ : Dl} : Fr S δ δ := ⟨rfl, fun _ _ _ => ⟨rfl, rfl⟩⟩
theorem Fr.tr {S : Nat → Nat → Prop} {δ δ1 δ2 : Dl} (h : Fr S δ δ1) (h' : Fr S δ1 δ2) : Fr S δ δ2 := ⟨h'.1.trans h.1, fun g b hn => ⟨(h'.2 g b hn).1.trans (h.2 g b hn).1, (h'.2 g b hn).2.trans (h.2 g b hn).2⟩⟩
theorem Fr.to {S S' : Nat → Nat → Prop} {δ δ1 : Dl} (h : Fr S δ δ1) (hs : ∀ g b, S g b → S' g b) : Fr S' δ δ1 := ⟨h.1, fun g b hn => h.2 g b (fun e => hn (hs g b e))⟩
theorem Fr.sI {S : Nat → Nat → Prop} {δ δ1 : Dl} {f a : Nat} {v : Int32} (h : Fr S δ δ1) (hs : S f a) : Fr S δ (sI δ1 f a v) := ⟨h.1, fun g b hn => ⟨by
  rw [q1I, if_neg (fun e => hn (by rw [e.1, e.2]; exact hs))]; exact (h.2 g b hn).1, (h.2 g b hn).2⟩⟩
theorem Fr.sA {S : Nat → Nat → Prop} {δ δ1 : Dl} {f a : Nat} {i v : Int32} (h : Fr S δ δ1) (hs : S f a) : Fr S δ (sA δ1 f a i v) := ⟨h.1, fun g b hn => ⟨(h.2 g b hn).1, by
  show (if g = f ∧ b = a then _ else δ1.2.1 g b) = _
  rw [if_neg (fun e => hn (by rw [e.1, e.2]; exact hs))]; exact (h.2 g b hn).2⟩⟩
theorem Fr.sW {S : Nat → Nat → Prop} {δ δ1 : Dl} {f a : Nat} {row : Int32 → Int32} (h : Fr S δ δ1) (hs : S f a) : Fr S δ (sW δ1 f a row) := ⟨h.1, fun g b hn => ⟨(h.2 g b hn).1, by
  show (if g = f ∧ b = a then _ else δ1.2.1 g b) = _
  rw [if_neg (fun e => hn (by rw [e.1, e.2]; exact hs))]; exact (h.2 g b hn).2⟩⟩
