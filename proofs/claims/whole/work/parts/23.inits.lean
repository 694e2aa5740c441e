/-! the constructors (wip/whole/gen23.py) -/
def NB (P : List Nat) : Nat → Nat → Prop := fun f b => (f ≠ 2 ∧ f ≠ 4 ∧ f ≠ 5 ∧ f ≠ 6) ∧ f ≠ 93 ∧ ¬ (f = 0 ∧ b ∈ P)
def NC : Nat → Nat → Prop := fun f b => (f ≠ 2 ∧ f ≠ 4 ∧ f ≠ 5 ∧ f ≠ 6) ∧ ¬ (f = 0 ∧ (b = 0 ∨ b = 23))
theorem un_nil {N : Nat → Nat → Prop} : ∀ v, some v ∈ ([] : List (Option AV)) → Un N v := fun _ h => by cases h
theorem un_n {N : Nat → Nat → Prop} {ls : List (Option AV)} (h : ∀ v, some v ∈ ls → Un N v) : ∀ v, some v ∈ (none :: ls) → Un N v := fun v hv => by
  rcases List.mem_cons.mp hv with e | e
  · cases e
  · exact h v e
theorem un_i {N : Nat → Nat → Prop} {ls : List (Option AV)} {x : Int32} (h : ∀ v, some v ∈ ls → Un N v) : ∀ v, some v ∈ (some (.inl x) :: ls) → Un N v := fun v hv => by
  rcases List.mem_cons.mp hv with e | e
  · cases e; trivial
  · exact h v e
theorem un_r {N : Nat → Nat → Prop} {ls : List (Option AV)} {q : Nat × Nat} (hq : ¬ N q.1 q.2) (h : ∀ v, some v ∈ ls → Un N v) : ∀ v, some v ∈ (some (.inr q) :: ls) → Un N v := fun v hv => by
  rcases List.mem_cons.mp hv with e | e
  · cases e; exact hq
  · exact h v e
theorem us_nil {N : Nat → Nat → Prop} : ∀ v ∈ ([] : List AV), Un N v := fun _ h => by cases h
theorem us_i {N : Nat → Nat → Prop} {st : List AV} {x : Int32} (h : ∀ v ∈ st, Un N v) : ∀ v ∈ (.inl x :: st), Un N v := fun v hv => by
  rcases List.mem_cons.mp hv with e | e
  · cases e; trivial
  · exact h v e
theorem us_r {N : Nat → Nat → Prop} {st : List AV} {q : Nat × Nat} (hq : ¬ N q.1 q.2) (h : ∀ v ∈ st, Un N v) : ∀ v ∈ (.inr q :: st), Un N v := fun v hv => by
  rcases List.mem_cons.mp hv with e | e
  · cases e; exact hq
  · exact h v e
def isN : FieldType → Bool
  | .int => true
  | .boolean => true
  | _ => false
def isO : FieldType → Bool
  | .object _ => true
  | .array _ => true
  | _ => false
theorem dfl {t : FieldType} {f : Nat} (h : ((isN t && decide (wty f = 0)) || (isO t && !decide (wty f = 0))) = true) : defaultValue t = defv f := by
  unfold defv
  by_cases w : wty f = 0
  · rw [if_pos w]
    simp only [w, decide_true, Bool.and_true, Bool.not_true, Bool.and_false, Bool.or_false] at h
    cases t <;> simp [isN] at h <;> rfl
  · rw [if_neg w]
    simp only [w, decide_false, Bool.and_false, Bool.not_false, Bool.and_true, Bool.false_or] at h
    cases t <;> simp [isO] at h <;> rfl
/-- an object as new leaves it -/
def Mk (Γ : Gm) (a ci : Nat) : Prop := wcls a = ci ∧ Γ 0 a = 2 ∧ ∀ r : vw_C, vwCl[ci]? = some r → ∀ j, j < r.2.2 → Γ (wfb ci + j) a = if wty (wfb ci + j) ≤ 1 then 2 else 0
theorem Mk.z {Γ : Gm} {a ci : Nat} (h : Mk Γ a ci) : Γ 0 a ≠ 0 := by rw [h.2.1]; decide
theorem Mk.a {Γ : Gm} {a ci j f : Nat} {C : String} {T : u_T} {n : Nat} (h : Mk Γ a ci) (hv : vwCl[ci]? = some (C, T, n)) (hj : j < n) (hf : wfb ci + j = f) (hw : ¬ wty f ≤ 1) : Γ f a = 0 := by
  have := h.2.2 _ hv j hj
  rw [hf, if_neg hw] at this
  exact this
theorem Mk.new {Γ : Gm} {b ci : Nat} {C : String} {T : u_T} {n : Nat} (hc : wcls b = ci) (hv : vwCl[ci]? = some (C, T, n)) (hfb : 0 < wfb ci) : Mk (nG Γ b ci n) b ci := by
  refine ⟨hc, by unfold nG; rw [if_pos ⟨rfl, rfl⟩], fun r hr j hj => ?_⟩
  cases hv.symm.trans hr
  unfold nG
  rw [if_neg (by omega), if_pos ⟨rfl, by omega, by simp only at hj; omega⟩]
theorem Mk.ob {Γ : Gm} {a ci : Nat} {C : String} {T : u_T} {n : Nat} {L : List Nat} (h : Mk Γ a ci) (hv : vwCl[ci]? = some (C, T, n)) (hL : L.contains 0 = false) (hall : (List.range n).all (fun j => decide (wty (wfb ci + j) ≤ 1) || L.contains (wfb ci + j)) = true) : Ob (gU Γ a L) a ci := by
  refine ⟨h.1, (gU_ne hL).trans h.2.1, fun r hr j hj => ?_⟩
  have hj' := h.2.2 r hr j hj
  cases hv.symm.trans hr
  have := List.all_eq_true.mp hall j (List.mem_range.mpr hj)
  rcases Bool.or_eq_true_iff.mp this with e | e
  · unfold gU
    split
    · rfl
    · rw [hj', if_pos (of_decide_eq_true e)]
  · unfold gU; rw [if_pos ⟨rfl, e⟩]
def srL : List (Nat × Nat × Nat) := [(40, 8, 9), (40, 11, 12), (41, 8, 10), (41, 11, 13), (90, 0, 1), (91, 0, 2), (92, 0, 3), (95, 0, 8), (96, 0, 11), (97, 0, 14), (98, 0, 15), (101, 0, 18)]
theorem wsr_in {f a b : Nat} (h : wsr f a = b) (hb : b ≠ 0) : (f, a, b) ∈ srL := by
  unfold wsr at h
  repeat' split at h
  all_goals first | (exact absurd h.symm hb) | (rename_i hh; obtain ⟨rfl, rfl⟩ := hh; subst h; decide)
theorem wsr_S {Γ : Gm} {b : Nat} (hb : b ≠ 0) (h : srL.all (fun q => decide (q.2.2 ≠ b) || decide (Γ q.1 q.2.1 ≠ 2)) = true) : ∀ f a, wty f = 2 → Γ f a = 2 → wsr f a ≠ b := by
  intro f a _ h2 e
  have := List.all_eq_true.mp h _ (wsr_in e hb)
  rcases Bool.or_eq_true_iff.mp this with q | q
  · exact of_decide_eq_true q rfl
  · exact of_decide_eq_true q h2
theorem no5 {Γ : Gm} {ci n : Nat} (h : ¬ (wfb ci ≤ 93 ∧ 93 < wfb ci + n)) : ∀ f, wty f = 5 → wfb ci ≤ f → f < wfb ci + n → ∀ a, Γ f a = 0 := by
  intro f w h1 h2
  have := wty5 f w
  subst this
  exact absurd ⟨h1, h2⟩ h
def R1 (δ : Dl) : Prop := ∀ g b, (δ.2.2 g b).1 ≤ 1
theorem R1.aD {δ : Dl} (h : R1 δ) {f a : Nat} : R1 (aD δ f a) := h
theorem R1.sI {δ : Dl} (h : R1 δ) {f a : Nat} {v : Int32} : R1 (sI δ f a v) := h
theorem R1.sA {δ : Dl} (h : R1 δ) {f a : Nat} {i v : Int32} : R1 (sA δ f a i v) := h
theorem RI.aD {δ : Dl} {S : List (Nat × Nat)} (h : RI δ S) {f a : Nat} : RI (aD δ f a) S := h
theorem RI.sI {δ : Dl} {S : List (Nat × Nat)} (h : RI δ S) {f a : Nat} {v : Int32} : RI (sI δ f a v) S := h
theorem RI.r1 {δ : Dl} {S : List (Nat × Nat)} (h : RI δ S) (hS : S.all (fun q => decide (q.1 ≤ 1)) = true) : R1 δ := fun f a => h.le hS f a
section XN
variable {l : Launch} {Y : MM} {d kc ks : Nat} {N : Nat → Nat → Prop} {pc : Nat} {ls : List (Option AV)} {st : List AV} {kb sb : Nat} {Γ : Gm} {δ : Dl} {r : Rs}
theorem x_nw {f b w : Nat} {n : Int32} {at_ : ArrayType} (hw : (wty f = 3 ∧ at_ = .int) ∨ (wty f = 4 ∧ at_ = .boolean)) (hn : ¬ n < 0) (hwl : wlen f b = w) (hnw : n.toNatClampNeg = w) (hbig : w ≤ 100000) (h0 : Γ f b = 0) (hR : R1 δ) (hN : N f b) (hf : f ≠ 2 ∧ f ≠ 4 ∧ f ≠ 5 ∧ f ≠ 6) (hl : ∀ v, some v ∈ ls → Un (fun g a => g = f ∧ a = b) v) (hs : ∀ v ∈ st, Un (fun g a => g = f ∧ a = b) v)
    (hac : Cond.arrayClass (newarray.typeOf at_) ∈ lwg) (hkk : kb + 1 ≤ kc) (hss : sb + w ≤ ks) (hd : decode Y.2.1 pc = .ok (.newarray at_, 2)) (k : Xe l Y d kc ks N (pc + 2) ls (.inr (f, b) :: st) (kb + 1) (sb + w) (sG Γ f b 1) (aD δ f b) r) : Xe l Y d kc ks N pc ls (.inl n :: st) kb sb Γ δ r := by
  subst hwl
  exact x_newa hw hn hnw hbig h0 hR ⟨hN, hf⟩ hl hs hac hkk hss hd k
theorem x_pA {idx ci j a f : Nat} {L : List Nat} {ty : FieldType} (hg : GP Y.1.cls idx ci j true (.array ty)) (hf : wfb ci + j = f) (ht : 3 ≤ wty f ∧ wty f ≠ 6) (hin : Y.1.name = "<init>") (hc : wcls a = ci) (h0 : Γ 0 a ≠ 0) (hL : L.contains 0 = false) (hd : decode Y.2.1 pc = .ok (.putfield idx, 3))
    (k : Xe l Y d kc ks N (pc + 3) ls st kb sb (gU Γ a (f :: L)) δ r) : Xe l Y d kc ks N pc ls (.inr (f, a) :: .inr (0, a) :: st) kb sb (sG (gU Γ a L) f a 1) δ r := by
  have hf0 : f ≠ 0 := fun e => ht.2 (by rw [e]; exact wty0)
  refine x_putA hg hf ht.1 ht.2 hin hc ?_ (by rw [sG_self]; decide) hd (Xe.cΓ gU_cons k)
  rw [sG_ne (fun e => hf0 e.1.symm), gU_ne hL]
  exact h0
theorem x_pI {idx ci j a f : Nat} {L : List Nat} {fin : Bool} {ty : FieldType} {v : Int32} (hg : GP Y.1.cls idx ci j fin ty) (hf : wfb ci + j = f) (ht : wty f = 0) (hin : Y.1.name = "<init>") (hn : narrow ty (.int v) = .int v) (hfi : fits ty (.int v) = true) (hc : wcls a = ci) (h0 : Γ 0 a ≠ 0) (hL : L.contains 0 = false) (hd : decode Y.2.1 pc = .ok (.putfield idx, 3))
    (k : Xe l Y d kc ks N (pc + 3) ls st kb sb (gU Γ a L) (sI δ f a v) r) : Xe l Y d kc ks N pc ls (.inl v :: .inr (0, a) :: st) kb sb (gU Γ a L) δ r :=
  x_putI hg hf ht (fun _ => hin) hn hfi hc (by rw [gU_ne hL]; exact h0) hd k
theorem x_iastN {f a : Nat} {i n v : Int32} (hw : wty f = 3) (hn : n.toInt = (wlen f a : Nat)) (hi : inb i n) (hd : decode Y.2.1 pc = .ok (.iastore, 1)) (k : Xe l Y d kc ks N (pc + 1) ls st kb sb (sG Γ f a 1) (sA δ f a i v) r) : Xe l Y d kc ks N pc ls (.inl v :: .inl i :: .inr (f, a) :: st) kb sb (sG Γ f a 1) δ r :=
  x_iast hw (by rw [sG_self]; decide) hn hi hd k
end XN


theorem ob_of {Γ : Gm} {a ci : Nat} {C : String} {T : u_T} {n : Nat} (hv : vwCl[ci]? = some (C, T, n)) (h : (decide (wcls a = ci) && decide (Γ 0 a = 2) && (List.range n).all (fun j => decide (Γ (wfb ci + j) a = 2))) = true) : Ob Γ a ci := by
  simp only [Bool.and_eq_true, decide_eq_true_eq] at h
  refine ⟨h.1.1, h.1.2, fun r hr j hj => ?_⟩
  cases hv.symm.trans hr
  exact of_decide_eq_true (List.all_eq_true.mp h.2 j (List.mem_range.mpr hj))
def Z50 (Γ : Gm) : Prop := ∀ a, Γ 93 a = 0
def Z5 (Γ : Gm) : Prop := ∀ a, Γ 93 a ≠ 0 → a = 0
theorem z50_nG {Γ : Gm} (h : Z50 Γ) {b ci n : Nat} (hc : ¬ (wfb ci ≤ 93 ∧ 93 < wfb ci + n)) : Z50 (nG Γ b ci n) := fun a => by
  unfold nG
  rw [if_neg (by omega), if_neg (fun e => hc e.2)]; exact h a
theorem z50_gU {Γ : Gm} (h : Z50 Γ) {b : Nat} {L : List Nat} (hc : L.contains 93 = false) : Z50 (gU Γ b L) := fun a => (gU_ne hc).trans (h a)
theorem z50_sG {Γ : Gm} (h : Z50 Γ) {f b n : Nat} (hc : f ≠ 93) : Z50 (sG Γ f b n) := fun a => (sG_ne (fun e => hc e.1.symm)).trans (h a)
theorem z5_nG {Γ : Gm} (h : Z5 Γ) {b ci n : Nat} (hc : ¬ (wfb ci ≤ 93 ∧ 93 < wfb ci + n)) : Z5 (nG Γ b ci n) := fun a => by
  unfold nG
  rw [if_neg (by omega), if_neg (fun e => hc e.2)]; exact h a
theorem z5_gU {Γ : Gm} (h : Z5 Γ) {b : Nat} {L : List Nat} (hc : L.contains 93 = false) : Z5 (gU Γ b L) := fun a => by rw [gU_ne hc]; exact h a
theorem z5_sG {Γ : Gm} (h : Z5 Γ) {f b n : Nat} (hc : f ≠ 93) : Z5 (sG Γ f b n) := fun a => by rw [sG_ne (fun e => hc e.1.symm)]; exact h a
theorem z5_self {Γ : Gm} (h : Z5 Γ) {n : Nat} : Z5 (sG Γ 93 0 n) := fun a => by
  by_cases e : a = 0
  · exact fun _ => e
  · rw [sG_ne (fun q => e q.2)]; exact h a
theorem z50_z {Γ : Gm} (h : Z50 Γ) : Z5 Γ := fun a e => absurd (h a) e
theorem NB.toB {P P' : List Nat} (h : ∀ b, b ∈ P → b ∈ P') : ∀ f a, NB P' f a → NB P f a ∧ f ≠ 2 ∧ f ≠ 4 ∧ f ≠ 5 ∧ f ≠ 6 := fun _ _ q => ⟨⟨q.1, q.2.1, fun e => q.2.2 ⟨e.1, h _ e.2⟩⟩, q.1⟩
theorem NB.toC {P' : List Nat} (h0 : 0 ∈ P') (h2 : 23 ∈ P') : ∀ f a, NB P' f a → NC f a ∧ f ≠ 2 ∧ f ≠ 4 ∧ f ≠ 5 ∧ f ≠ 6 := fun _ _ q => ⟨⟨q.1, fun e => q.2.2 ⟨e.1, by rcases e.2 with e | e <;> rw [e] <;> assumption⟩⟩, q.1⟩
section XN2
variable {l : Launch} {Y : MM} {d kc ks : Nat} {N : Nat → Nat → Prop} {pc : Nat} {ls : List (Option AV)} {st : List AV} {kb sb : Nat} {Γ : Gm} {δ : Dl} {r : Rs}
theorem x_nO {idx b ci n kb2 sb2 : Nat} {C : String} {T : u_T} {ty : Nat → FieldType} {Γ2 : Gm} (hb : wcls b = ci) (hv : vwCl[ci]? = some (C, T, n)) (hty : ∀ k, k < n → parseFieldDescriptor (T k).2.2.1 = some (ty k)) (hdf : ∀ j, j < n → defaultValue (ty j) = defv (wfb ci + j)) (hwd : ∀ w ∈ u_ws C T n, w ∈ lwg) (hc : CN Y.1.cls idx C n) (hfb : 0 < wfb ci)
    (hR : ∀ f a, δ.2.2 f a ≠ (0, b)) (hS : ∀ f a, wty f = 2 → Γ f a = 2 → wsr f a ≠ b) (h5 : ∀ f, wty f = 5 → wfb ci ≤ f → f < wfb ci + n → ∀ a, Γ f a = 0) (hN : N 0 b) (hl : ∀ v, some v ∈ ls → Un (fun f a => f = 0 ∧ a = b) v) (hs : ∀ v ∈ st, Un (fun f a => f = 0 ∧ a = b) v)
    (hk2 : kb + 1 = kb2) (hs2 : sb + n = sb2) (hkk : kb2 ≤ kc) (hss : sb2 ≤ ks) (hΓ : nG Γ b ci n = Γ2) (hd : decode Y.2.1 pc = .ok (.new idx, 3)) (k : Xe l Y d kc ks N (pc + 3) ls (.inr (0, b) :: st) kb2 sb2 Γ2 (nD δ b ci n) r) : Xe l Y d kc ks N pc ls st kb sb Γ δ r := by
  subst hk2; subst hs2; subst hΓ
  exact x_new hb hv hty hdf hwd hc hfb hR hS h5 hN hl hs hkk hss hd k
theorem y_I0 {idx d' kc' ks' a kb2 sb2 : Nat} {Y' : MM} {N' : Nat → Nat → Prop} {Γ' Γ2 : Gm} {δ' : Dl} (cw : CI Y.1.cls idx Y' 0) (hd' : d' + 1 ≤ d) (hst : st.length ≤ 8) (hd : decode Y.2.1 pc = .ok (.invokespecial idx, 3)) (hC : Ct l Y' d' kc' ks' N' [.inr (0, a)] Γ δ (none, Γ', δ')) (hN : ∀ f a, N' f a → N f a ∧ f ≠ 2 ∧ f ≠ 4 ∧ f ≠ 5 ∧ f ≠ 6) (hl : ∀ v, some v ∈ ls → Un N' v) (hs : ∀ v ∈ st, Un N' v)
    (hk2 : kb + kc' = kb2) (hs2 : sb + ks' = sb2) (hkk : kb2 ≤ kc) (hss : sb2 ≤ ks) (hΓ : Γ' = Γ2) (k : Xe l Y d kc ks N (pc + 3) ls st kb2 sb2 Γ2 δ' r) : Xe l Y d kc ks N pc ls (.inr (0, a) :: st) kb sb Γ δ r := by
  subst hk2; subst hs2; subst hΓ
  exact Xe.callI (as := []) cw rfl hd' hkk hss hst hd hC hN hl hs k
theorem y_IN0 {idx d' kc' ks' a kb2 sb2 : Nat} {host : String} {Y' : MM} {N' : Nat → Nat → Prop} {Γ' Γ2 : Gm} {δ' : Dl} (cw : CIN Y.1.cls idx host Y' 0) (hd' : d' + 1 ≤ d) (hst : st.length ≤ 8) (hd : decode Y.2.1 pc = .ok (.invokespecial idx, 3)) (hC : Ct l Y' d' kc' ks' N' [.inr (0, a)] Γ δ (none, Γ', δ')) (hN : ∀ f a, N' f a → N f a ∧ f ≠ 2 ∧ f ≠ 4 ∧ f ≠ 5 ∧ f ≠ 6) (hl : ∀ v, some v ∈ ls → Un N' v) (hs : ∀ v ∈ st, Un N' v)
    (hk2 : kb + kc' = kb2) (hs2 : sb + ks' = sb2) (hkk : kb2 ≤ kc) (hss : sb2 ≤ ks) (hΓ : Γ' = Γ2) (k : Xe l Y d kc ks N (pc + 3) ls st kb2 sb2 Γ2 δ' r) : Xe l Y d kc ks N pc ls (.inr (0, a) :: st) kb sb Γ δ r := by
  subst hk2; subst hs2; subst hΓ
  exact Xe.callIN (as := []) cw rfl hd' hkk hss hst hd hC hN hl hs k
theorem y_I1 {idx d' kc' ks' a kb2 sb2 : Nat} {x : AV} {Y' : MM} {N' : Nat → Nat → Prop} {Γ' Γ2 : Gm} {δ' : Dl} (cw : CI Y.1.cls idx Y' 1) (hd' : d' + 1 ≤ d) (hst : st.length ≤ 8) (hd : decode Y.2.1 pc = .ok (.invokespecial idx, 3)) (hC : Ct l Y' d' kc' ks' N' [.inr (0, a), x] Γ δ (none, Γ', δ')) (hN : ∀ f a, N' f a → N f a ∧ f ≠ 2 ∧ f ≠ 4 ∧ f ≠ 5 ∧ f ≠ 6) (hl : ∀ v, some v ∈ ls → Un N' v) (hs : ∀ v ∈ st, Un N' v)
    (hk2 : kb + kc' = kb2) (hs2 : sb + ks' = sb2) (hkk : kb2 ≤ kc) (hss : sb2 ≤ ks) (hΓ : Γ' = Γ2) (k : Xe l Y d kc ks N (pc + 3) ls st kb2 sb2 Γ2 δ' r) : Xe l Y d kc ks N pc ls (x :: .inr (0, a) :: st) kb sb Γ δ r := by
  subst hk2; subst hs2; subst hΓ
  exact Xe.callI (as := [x]) cw rfl hd' hkk hss hst hd hC hN hl hs k
theorem y_I2 {idx d' kc' ks' a kb2 sb2 : Nat} {x y : AV} {Y' : MM} {N' : Nat → Nat → Prop} {Γ' Γ2 : Gm} {δ' : Dl} (cw : CI Y.1.cls idx Y' 2) (hd' : d' + 1 ≤ d) (hst : st.length ≤ 8) (hd : decode Y.2.1 pc = .ok (.invokespecial idx, 3)) (hC : Ct l Y' d' kc' ks' N' [.inr (0, a), x, y] Γ δ (none, Γ', δ')) (hN : ∀ f a, N' f a → N f a ∧ f ≠ 2 ∧ f ≠ 4 ∧ f ≠ 5 ∧ f ≠ 6) (hl : ∀ v, some v ∈ ls → Un N' v) (hs : ∀ v ∈ st, Un N' v)
    (hk2 : kb + kc' = kb2) (hs2 : sb + ks' = sb2) (hkk : kb2 ≤ kc) (hss : sb2 ≤ ks) (hΓ : Γ' = Γ2) (k : Xe l Y d kc ks N (pc + 3) ls st kb2 sb2 Γ2 δ' r) : Xe l Y d kc ks N pc ls (y :: x :: .inr (0, a) :: st) kb sb Γ δ r := by
  subst hk2; subst hs2; subst hΓ
  exact Xe.callI (as := [x, y]) cw rfl hd' hkk hss hst hd hC hN hl hs k
end XN2

abbrev M_By_init : MM := (⟨RX0, "<init>", "(I)V"⟩, prog_2_method_1_code, 2, none)
theorem d_By_init_0 : decode M_By_init.2.1 0 = .ok (.aload_n 0, 1) := by decide +kernel
theorem d_By_init_1 : decode M_By_init.2.1 1 = .ok (.invokespecial 3, 3) := by decide +kernel
theorem d_By_init_4 : decode M_By_init.2.1 4 = .ok (.aload_n 0, 1) := by decide +kernel
theorem d_By_init_5 : decode M_By_init.2.1 5 = .ok (.iconst 0, 1) := by decide +kernel
theorem d_By_init_6 : decode M_By_init.2.1 6 = .ok (.putfield 9, 3) := by decide +kernel
theorem d_By_init_9 : decode M_By_init.2.1 9 = .ok (.aload_n 0, 1) := by decide +kernel
theorem d_By_init_10 : decode M_By_init.2.1 10 = .ok (.iconst 0, 1) := by decide +kernel
theorem d_By_init_11 : decode M_By_init.2.1 11 = .ok (.iload_n 1, 1) := by decide +kernel
theorem d_By_init_12 : decode M_By_init.2.1 12 = .ok (.invokestatic 15, 3) := by decide +kernel
theorem d_By_init_15 : decode M_By_init.2.1 15 = .ok (.newarray .int, 2) := by decide +kernel
theorem d_By_init_17 : decode M_By_init.2.1 17 = .ok (.putfield 21, 3) := by decide +kernel
theorem d_By_init_20 : decode M_By_init.2.1 20 = .ok (.return_, 1) := by decide +kernel
theorem cs_By_15 : CS RX0 15 M_Ma_max 2 := ⟨(lwg_at 178 (by decide +kernel) rfl), (lwg_at 179 (by decide +kernel) rfl), mi_Ma_max⟩
theorem gp_By_21_0 : GP RX0 21 0 1 true (.array .int) := ⟨RX0, TX0, 2, RX0, tyX0, rfl, by decide, (lwg_at 184 (by decide +kernel) rfl), rfl, gl_w inX0, tyX0_ok, nmX0, rfl, by decide +kernel, fun h => by first | rfl | cases h⟩
def F_By_init14 (δ : Dl) : Dl := (aD (sI δ 10 14 0) 11 14)
set_option maxRecDepth 40000 in
set_option maxHeartbeats 4000000 in
theorem c_By_init14 {l : Launch} {Γ : Gm} (hO : Mk Γ 14 0) (δ : Dl) (hR : R1 δ) : Ct l M_By_init 1 1 80 (NB [0, 23, 8, 11, 14]) [.inr (0, 14), .inl 80] Γ δ (none, gU Γ 14 [11], F_By_init14 δ) := by
  refine Ct.of2 (n := 0) (ls := [some (.inr (0, 14)), some (.inl 80)]) rfl (by decide +kernel) (Nat.le_of_ble_eq_true rfl) ?_
  refine Xe.cΓ (gU_nil (a := 14)).symm ?_
  refine x_aload_n (i := 0) d_By_init_0 rfl rfl ?_
  refine x_oinit (lwg_at 177 (by decide +kernel) rfl) (lwg_at 27 (by decide +kernel) rfl) (lwg_at 28 (by decide +kernel) rfl) (by decide) (by decide) d_By_init_1 ?_
  refine x_aload_n (i := 0) d_By_init_4 rfl rfl ?_
  refine x_ic (v := 0) d_By_init_5 (by decide) ?_
  refine x_pI gp_By_9_0 rfl (by decide) rfl rfl rfl hO.1 hO.z rfl d_By_init_6 ?_
  have hR := R1.sI (f := 10) (a := 14) (v := 0) hR
  refine x_aload_n (i := 0) d_By_init_9 rfl rfl ?_
  refine x_ic (v := 0) d_By_init_10 (by decide) ?_
  refine x_iload_n (i := 1) d_By_init_11 rfl rfl ?_
  refine y_S2 cs_By_15 (by first | decide | omega) (Nat.le_of_ble_eq_true rfl) d_By_init_12 (c_Ma_max 0 80 _ 80 (by decide)) (by decide) (by decide) ?_
  refine x_nw (f := 11) (b := 14) (w := 80) (Or.inl ⟨by decide, rfl⟩) (by decide) (by rfl) (by decide) (by decide) ((gU_ne rfl).trans (hO.a (j := 1) rfl (by decide) rfl (by decide) : Γ 11 14 = 0)) hR ⟨by decide, by decide, fun e => absurd e.1 (by decide)⟩ (by decide) (un_r (fun e => absurd e.1 (by simp)) (un_i un_nil)) (us_r (fun e => absurd e.1 (by simp)) us_nil) (lwg_at 54 (by decide +kernel) rfl) (by decide) (by decide) d_By_init_15 ?_
  have hR := R1.aD (f := 11) (a := 14) hR
  refine x_pA gp_By_21_0 rfl (by decide) rfl hO.1 hO.z rfl d_By_init_17 ?_
  exact x_vret rfl d_By_init_20 (Nat.le_refl _) (Nat.le_refl _)
def F_By_init15 (δ : Dl) : Dl := (aD (sI δ 10 15 0) 11 15)
set_option maxRecDepth 40000 in
set_option maxHeartbeats 4000000 in
theorem c_By_init15 {l : Launch} {Γ : Gm} (hO : Mk Γ 15 0) (δ : Dl) (hR : R1 δ) : Ct l M_By_init 1 1 300 (NB [0, 23, 8, 11, 15]) [.inr (0, 15), .inl 300] Γ δ (none, gU Γ 15 [11], F_By_init15 δ) := by
  refine Ct.of2 (n := 0) (ls := [some (.inr (0, 15)), some (.inl 300)]) rfl (by decide +kernel) (Nat.le_of_ble_eq_true rfl) ?_
  refine Xe.cΓ (gU_nil (a := 15)).symm ?_
  refine x_aload_n (i := 0) d_By_init_0 rfl rfl ?_
  refine x_oinit (lwg_at 177 (by decide +kernel) rfl) (lwg_at 27 (by decide +kernel) rfl) (lwg_at 28 (by decide +kernel) rfl) (by decide) (by decide) d_By_init_1 ?_
  refine x_aload_n (i := 0) d_By_init_4 rfl rfl ?_
  refine x_ic (v := 0) d_By_init_5 (by decide) ?_
  refine x_pI gp_By_9_0 rfl (by decide) rfl rfl rfl hO.1 hO.z rfl d_By_init_6 ?_
  have hR := R1.sI (f := 10) (a := 15) (v := 0) hR
  refine x_aload_n (i := 0) d_By_init_9 rfl rfl ?_
  refine x_ic (v := 0) d_By_init_10 (by decide) ?_
  refine x_iload_n (i := 1) d_By_init_11 rfl rfl ?_
  refine y_S2 cs_By_15 (by first | decide | omega) (Nat.le_of_ble_eq_true rfl) d_By_init_12 (c_Ma_max 0 300 _ 300 (by decide)) (by decide) (by decide) ?_
  refine x_nw (f := 11) (b := 15) (w := 300) (Or.inl ⟨by decide, rfl⟩) (by decide) (by rfl) (by decide) (by decide) ((gU_ne rfl).trans (hO.a (j := 1) rfl (by decide) rfl (by decide) : Γ 11 15 = 0)) hR ⟨by decide, by decide, fun e => absurd e.1 (by decide)⟩ (by decide) (un_r (fun e => absurd e.1 (by simp)) (un_i un_nil)) (us_r (fun e => absurd e.1 (by simp)) us_nil) (lwg_at 54 (by decide +kernel) rfl) (by decide) (by decide) d_By_init_15 ?_
  have hR := R1.aD (f := 11) (a := 15) hR
  refine x_pA gp_By_21_0 rfl (by decide) rfl hO.1 hO.z rfl d_By_init_17 ?_
  exact x_vret rfl d_By_init_20 (Nat.le_refl _) (Nat.le_refl _)
abbrev M_Pr_init : MM := (⟨RX3, "<init>", "()V"⟩, prog_5_method_1_code, 1, none)
theorem d_Pr_init_0 : decode M_Pr_init.2.1 0 = .ok (.aload_n 0, 1) := by decide +kernel
theorem d_Pr_init_1 : decode M_Pr_init.2.1 1 = .ok (.invokespecial 3, 3) := by decide +kernel
theorem d_Pr_init_4 : decode M_Pr_init.2.1 4 = .ok (.aload_n 0, 1) := by decide +kernel
theorem d_Pr_init_5 : decode M_Pr_init.2.1 5 = .ok (.iconst 0, 1) := by decide +kernel
theorem d_Pr_init_6 : decode M_Pr_init.2.1 6 = .ok (.putfield 9, 3) := by decide +kernel
theorem d_Pr_init_9 : decode M_Pr_init.2.1 9 = .ok (.aload_n 0, 1) := by decide +kernel
theorem d_Pr_init_10 : decode M_Pr_init.2.1 10 = .ok (.iconst 0, 1) := by decide +kernel
theorem d_Pr_init_11 : decode M_Pr_init.2.1 11 = .ok (.putfield 15, 3) := by decide +kernel
theorem d_Pr_init_14 : decode M_Pr_init.2.1 14 = .ok (.aload_n 0, 1) := by decide +kernel
theorem d_Pr_init_15 : decode M_Pr_init.2.1 15 = .ok (.sipush 150, 3) := by decide +kernel
theorem d_Pr_init_18 : decode M_Pr_init.2.1 18 = .ok (.newarray .int, 2) := by decide +kernel
theorem d_Pr_init_20 : decode M_Pr_init.2.1 20 = .ok (.putfield 18, 3) := by decide +kernel
theorem d_Pr_init_23 : decode M_Pr_init.2.1 23 = .ok (.aload_n 0, 1) := by decide +kernel
theorem d_Pr_init_24 : decode M_Pr_init.2.1 24 = .ok (.sipush 150, 3) := by decide +kernel
theorem d_Pr_init_27 : decode M_Pr_init.2.1 27 = .ok (.newarray .int, 2) := by decide +kernel
theorem d_Pr_init_29 : decode M_Pr_init.2.1 29 = .ok (.putfield 22, 3) := by decide +kernel
theorem d_Pr_init_32 : decode M_Pr_init.2.1 32 = .ok (.aload_n 0, 1) := by decide +kernel
theorem d_Pr_init_33 : decode M_Pr_init.2.1 33 = .ok (.bipush 30, 2) := by decide +kernel
theorem d_Pr_init_35 : decode M_Pr_init.2.1 35 = .ok (.newarray .int, 2) := by decide +kernel
theorem d_Pr_init_37 : decode M_Pr_init.2.1 37 = .ok (.putfield 25, 3) := by decide +kernel
theorem d_Pr_init_40 : decode M_Pr_init.2.1 40 = .ok (.return_, 1) := by decide +kernel
theorem gp_Pr_18_3 : GP RX3 18 3 2 true (.array .int) := ⟨RX3, TX3, 5, RX3, tyX3, rfl, by decide, (lwg_at 40 (by decide +kernel) rfl), rfl, gl_w inX3, tyX3_ok, nmX3, rfl, by decide +kernel, fun h => by first | rfl | cases h⟩
theorem gp_Pr_22_3 : GP RX3 22 3 3 true (.array .int) := ⟨RX3, TX3, 5, RX3, tyX3, rfl, by decide, (lwg_at 41 (by decide +kernel) rfl), rfl, gl_w inX3, tyX3_ok, nmX3, rfl, by decide +kernel, fun h => by first | rfl | cases h⟩
theorem gp_Pr_25_3 : GP RX3 25 3 4 true (.array .int) := ⟨RX3, TX3, 5, RX3, tyX3, rfl, by decide, (lwg_at 42 (by decide +kernel) rfl), rfl, gl_w inX3, tyX3_ok, nmX3, rfl, by decide +kernel, fun h => by first | rfl | cases h⟩
def F_Pr_init (a : Nat) (δ : Dl) : Dl := (aD (aD (aD (sI (sI δ 30 a 0) 31 a 0) 32 a) 33 a) 34 a)
set_option maxRecDepth 40000 in
set_option maxHeartbeats 4000000 in
theorem c_Pr_init {l : Launch} {Γ : Gm} {a : Nat} (hO : Mk Γ a 3) (δ : Dl) (hR : R1 δ) : Ct l M_Pr_init 1 3 330 (NB [0, 23, 8, 11, a]) [.inr (0, a)] Γ δ (none, gU Γ a [34, 33, 32], F_Pr_init a δ) := by
  refine Ct.of2 (n := 0) (ls := [some (.inr (0, a))]) rfl (by decide +kernel) (Nat.le_of_ble_eq_true rfl) ?_
  refine Xe.cΓ (gU_nil (a := a)).symm ?_
  refine x_aload_n (i := 0) d_Pr_init_0 rfl rfl ?_
  refine x_oinit (lwg_at 34 (by decide +kernel) rfl) (lwg_at 27 (by decide +kernel) rfl) (lwg_at 28 (by decide +kernel) rfl) (by decide) (by decide) d_Pr_init_1 ?_
  refine x_aload_n (i := 0) d_Pr_init_4 rfl rfl ?_
  refine x_ic (v := 0) d_Pr_init_5 (by decide) ?_
  refine x_pI gp_Pr_9_3 rfl (by decide) rfl rfl rfl hO.1 hO.z rfl d_Pr_init_6 ?_
  have hR := R1.sI (f := 30) (a := a) (v := 0) hR
  refine x_aload_n (i := 0) d_Pr_init_9 rfl rfl ?_
  refine x_ic (v := 0) d_Pr_init_10 (by decide) ?_
  refine x_pI gp_Pr_15_3 rfl (by decide) rfl rfl rfl hO.1 hO.z rfl d_Pr_init_11 ?_
  have hR := R1.sI (f := 31) (a := a) (v := 0) hR
  refine x_aload_n (i := 0) d_Pr_init_14 rfl rfl ?_
  refine x_si (v := 150) d_Pr_init_15 (by decide) ?_
  refine x_nw (f := 32) (b := a) (w := 150) (Or.inl ⟨by decide, rfl⟩) (by decide) (by rfl) (by decide) (by decide) ((gU_ne rfl).trans (hO.a (j := 2) rfl (by decide) rfl (by decide) : Γ 32 a = 0)) hR ⟨by decide, by decide, fun e => absurd e.1 (by decide)⟩ (by decide) (un_r (fun e => absurd e.1 (by simp)) un_nil) (us_r (fun e => absurd e.1 (by simp)) us_nil) (lwg_at 54 (by decide +kernel) rfl) (by decide) (by decide) d_Pr_init_18 ?_
  have hR := R1.aD (f := 32) (a := a) hR
  refine x_pA gp_Pr_18_3 rfl (by decide) rfl hO.1 hO.z rfl d_Pr_init_20 ?_
  refine x_aload_n (i := 0) d_Pr_init_23 rfl rfl ?_
  refine x_si (v := 150) d_Pr_init_24 (by decide) ?_
  refine x_nw (f := 33) (b := a) (w := 150) (Or.inl ⟨by decide, rfl⟩) (by decide) (by rfl) (by decide) (by decide) ((gU_ne rfl).trans (hO.a (j := 3) rfl (by decide) rfl (by decide) : Γ 33 a = 0)) hR ⟨by decide, by decide, fun e => absurd e.1 (by decide)⟩ (by decide) (un_r (fun e => absurd e.1 (by simp)) un_nil) (us_r (fun e => absurd e.1 (by simp)) us_nil) (lwg_at 54 (by decide +kernel) rfl) (by decide) (by decide) d_Pr_init_27 ?_
  have hR := R1.aD (f := 33) (a := a) hR
  refine x_pA gp_Pr_22_3 rfl (by decide) rfl hO.1 hO.z rfl d_Pr_init_29 ?_
  refine x_aload_n (i := 0) d_Pr_init_32 rfl rfl ?_
  refine x_bi (v := 30) d_Pr_init_33 (by decide) ?_
  refine x_nw (f := 34) (b := a) (w := 30) (Or.inl ⟨by decide, rfl⟩) (by decide) (by rfl) (by decide) (by decide) ((gU_ne rfl).trans (hO.a (j := 4) rfl (by decide) rfl (by decide) : Γ 34 a = 0)) hR ⟨by decide, by decide, fun e => absurd e.1 (by decide)⟩ (by decide) (un_r (fun e => absurd e.1 (by simp)) un_nil) (us_r (fun e => absurd e.1 (by simp)) us_nil) (lwg_at 54 (by decide +kernel) rfl) (by decide) (by decide) d_Pr_init_35 ?_
  have hR := R1.aD (f := 34) (a := a) hR
  refine x_pA gp_Pr_25_3 rfl (by decide) rfl hO.1 hO.z rfl d_Pr_init_37 ?_
  exact x_vret rfl d_Pr_init_40 (Nat.le_refl _) (Nat.le_refl _)
abbrev M_Wi_init : MM := (⟨RX10, "<init>", "()V"⟩, prog_12_method_1_code, 1, none)
theorem d_Wi_init_0 : decode M_Wi_init.2.1 0 = .ok (.aload_n 0, 1) := by decide +kernel
theorem d_Wi_init_1 : decode M_Wi_init.2.1 1 = .ok (.invokespecial 3, 3) := by decide +kernel
theorem d_Wi_init_4 : decode M_Wi_init.2.1 4 = .ok (.aload_n 0, 1) := by decide +kernel
theorem d_Wi_init_5 : decode M_Wi_init.2.1 5 = .ok (.iconst 0, 1) := by decide +kernel
theorem d_Wi_init_6 : decode M_Wi_init.2.1 6 = .ok (.putfield 9, 3) := by decide +kernel
theorem d_Wi_init_9 : decode M_Wi_init.2.1 9 = .ok (.aload_n 0, 1) := by decide +kernel
theorem d_Wi_init_10 : decode M_Wi_init.2.1 10 = .ok (.iconst 4, 1) := by decide +kernel
theorem d_Wi_init_11 : decode M_Wi_init.2.1 11 = .ok (.newarray .int, 2) := by decide +kernel
theorem d_Wi_init_13 : decode M_Wi_init.2.1 13 = .ok (.putfield 15, 3) := by decide +kernel
theorem d_Wi_init_16 : decode M_Wi_init.2.1 16 = .ok (.aload_n 0, 1) := by decide +kernel
theorem d_Wi_init_17 : decode M_Wi_init.2.1 17 = .ok (.iconst 4, 1) := by decide +kernel
theorem d_Wi_init_18 : decode M_Wi_init.2.1 18 = .ok (.newarray .int, 2) := by decide +kernel
theorem d_Wi_init_20 : decode M_Wi_init.2.1 20 = .ok (.putfield 19, 3) := by decide +kernel
theorem d_Wi_init_23 : decode M_Wi_init.2.1 23 = .ok (.aload_n 0, 1) := by decide +kernel
theorem d_Wi_init_24 : decode M_Wi_init.2.1 24 = .ok (.iconst 4, 1) := by decide +kernel
theorem d_Wi_init_25 : decode M_Wi_init.2.1 25 = .ok (.newarray .int, 2) := by decide +kernel
theorem d_Wi_init_27 : decode M_Wi_init.2.1 27 = .ok (.putfield 22, 3) := by decide +kernel
theorem d_Wi_init_30 : decode M_Wi_init.2.1 30 = .ok (.aload_n 0, 1) := by decide +kernel
theorem d_Wi_init_31 : decode M_Wi_init.2.1 31 = .ok (.iconst 4, 1) := by decide +kernel
theorem d_Wi_init_32 : decode M_Wi_init.2.1 32 = .ok (.newarray .int, 2) := by decide +kernel
theorem d_Wi_init_34 : decode M_Wi_init.2.1 34 = .ok (.putfield 25, 3) := by decide +kernel
theorem d_Wi_init_37 : decode M_Wi_init.2.1 37 = .ok (.aload_n 0, 1) := by decide +kernel
theorem d_Wi_init_38 : decode M_Wi_init.2.1 38 = .ok (.iconst 4, 1) := by decide +kernel
theorem d_Wi_init_39 : decode M_Wi_init.2.1 39 = .ok (.newarray .int, 2) := by decide +kernel
theorem d_Wi_init_41 : decode M_Wi_init.2.1 41 = .ok (.putfield 28, 3) := by decide +kernel
theorem d_Wi_init_44 : decode M_Wi_init.2.1 44 = .ok (.aload_n 0, 1) := by decide +kernel
theorem d_Wi_init_45 : decode M_Wi_init.2.1 45 = .ok (.iconst 0, 1) := by decide +kernel
theorem d_Wi_init_46 : decode M_Wi_init.2.1 46 = .ok (.putfield 31, 3) := by decide +kernel
theorem d_Wi_init_49 : decode M_Wi_init.2.1 49 = .ok (.return_, 1) := by decide +kernel
theorem gp_Wi_15_10 : GP RX10 15 10 1 true (.array .int) := ⟨RX10, TX10, 7, RX10, tyX10, rfl, by decide, (lwg_at 198 (by decide +kernel) rfl), rfl, gl_w inX10, tyX10_ok, nmX10, rfl, by decide +kernel, fun h => by first | rfl | cases h⟩
theorem gp_Wi_19_10 : GP RX10 19 10 2 true (.array .int) := ⟨RX10, TX10, 7, RX10, tyX10, rfl, by decide, (lwg_at 199 (by decide +kernel) rfl), rfl, gl_w inX10, tyX10_ok, nmX10, rfl, by decide +kernel, fun h => by first | rfl | cases h⟩
theorem gp_Wi_22_10 : GP RX10 22 10 3 true (.array .int) := ⟨RX10, TX10, 7, RX10, tyX10, rfl, by decide, (lwg_at 200 (by decide +kernel) rfl), rfl, gl_w inX10, tyX10_ok, nmX10, rfl, by decide +kernel, fun h => by first | rfl | cases h⟩
theorem gp_Wi_25_10 : GP RX10 25 10 4 true (.array .int) := ⟨RX10, TX10, 7, RX10, tyX10, rfl, by decide, (lwg_at 201 (by decide +kernel) rfl), rfl, gl_w inX10, tyX10_ok, nmX10, rfl, by decide +kernel, fun h => by first | rfl | cases h⟩
theorem gp_Wi_28_10 : GP RX10 28 10 5 true (.array .int) := ⟨RX10, TX10, 7, RX10, tyX10, rfl, by decide, (lwg_at 202 (by decide +kernel) rfl), rfl, gl_w inX10, tyX10_ok, nmX10, rfl, by decide +kernel, fun h => by first | rfl | cases h⟩
def F_Wi_init (a : Nat) (δ : Dl) : Dl := (sI (aD (aD (aD (aD (aD (sI δ 80 a 0) 81 a) 82 a) 83 a) 84 a) 85 a) 86 a 0)
set_option maxRecDepth 40000 in
set_option maxHeartbeats 4000000 in
theorem c_Wi_init {l : Launch} {Γ : Gm} {a : Nat} (hO : Mk Γ a 10) (δ : Dl) (hR : R1 δ) : Ct l M_Wi_init 1 5 20 (NB [0, 23, 8, 11, a]) [.inr (0, a)] Γ δ (none, gU Γ a [85, 84, 83, 82, 81], F_Wi_init a δ) := by
  refine Ct.of2 (n := 0) (ls := [some (.inr (0, a))]) rfl (by decide +kernel) (Nat.le_of_ble_eq_true rfl) ?_
  refine Xe.cΓ (gU_nil (a := a)).symm ?_
  refine x_aload_n (i := 0) d_Wi_init_0 rfl rfl ?_
  refine x_oinit (lwg_at 195 (by decide +kernel) rfl) (lwg_at 27 (by decide +kernel) rfl) (lwg_at 28 (by decide +kernel) rfl) (by decide) (by decide) d_Wi_init_1 ?_
  refine x_aload_n (i := 0) d_Wi_init_4 rfl rfl ?_
  refine x_ic (v := 0) d_Wi_init_5 (by decide) ?_
  refine x_pI gp_Wi_9_10 rfl (by decide) rfl rfl rfl hO.1 hO.z rfl d_Wi_init_6 ?_
  have hR := R1.sI (f := 80) (a := a) (v := 0) hR
  refine x_aload_n (i := 0) d_Wi_init_9 rfl rfl ?_
  refine x_ic (v := 4) d_Wi_init_10 (by decide) ?_
  refine x_nw (f := 81) (b := a) (w := 4) (Or.inl ⟨by decide, rfl⟩) (by decide) (by rfl) (by decide) (by decide) ((gU_ne rfl).trans (hO.a (j := 1) rfl (by decide) rfl (by decide) : Γ 81 a = 0)) hR ⟨by decide, by decide, fun e => absurd e.1 (by decide)⟩ (by decide) (un_r (fun e => absurd e.1 (by simp)) un_nil) (us_r (fun e => absurd e.1 (by simp)) us_nil) (lwg_at 54 (by decide +kernel) rfl) (by decide) (by decide) d_Wi_init_11 ?_
  have hR := R1.aD (f := 81) (a := a) hR
  refine x_pA gp_Wi_15_10 rfl (by decide) rfl hO.1 hO.z rfl d_Wi_init_13 ?_
  refine x_aload_n (i := 0) d_Wi_init_16 rfl rfl ?_
  refine x_ic (v := 4) d_Wi_init_17 (by decide) ?_
  refine x_nw (f := 82) (b := a) (w := 4) (Or.inl ⟨by decide, rfl⟩) (by decide) (by rfl) (by decide) (by decide) ((gU_ne rfl).trans (hO.a (j := 2) rfl (by decide) rfl (by decide) : Γ 82 a = 0)) hR ⟨by decide, by decide, fun e => absurd e.1 (by decide)⟩ (by decide) (un_r (fun e => absurd e.1 (by simp)) un_nil) (us_r (fun e => absurd e.1 (by simp)) us_nil) (lwg_at 54 (by decide +kernel) rfl) (by decide) (by decide) d_Wi_init_18 ?_
  have hR := R1.aD (f := 82) (a := a) hR
  refine x_pA gp_Wi_19_10 rfl (by decide) rfl hO.1 hO.z rfl d_Wi_init_20 ?_
  refine x_aload_n (i := 0) d_Wi_init_23 rfl rfl ?_
  refine x_ic (v := 4) d_Wi_init_24 (by decide) ?_
  refine x_nw (f := 83) (b := a) (w := 4) (Or.inl ⟨by decide, rfl⟩) (by decide) (by rfl) (by decide) (by decide) ((gU_ne rfl).trans (hO.a (j := 3) rfl (by decide) rfl (by decide) : Γ 83 a = 0)) hR ⟨by decide, by decide, fun e => absurd e.1 (by decide)⟩ (by decide) (un_r (fun e => absurd e.1 (by simp)) un_nil) (us_r (fun e => absurd e.1 (by simp)) us_nil) (lwg_at 54 (by decide +kernel) rfl) (by decide) (by decide) d_Wi_init_25 ?_
  have hR := R1.aD (f := 83) (a := a) hR
  refine x_pA gp_Wi_22_10 rfl (by decide) rfl hO.1 hO.z rfl d_Wi_init_27 ?_
  refine x_aload_n (i := 0) d_Wi_init_30 rfl rfl ?_
  refine x_ic (v := 4) d_Wi_init_31 (by decide) ?_
  refine x_nw (f := 84) (b := a) (w := 4) (Or.inl ⟨by decide, rfl⟩) (by decide) (by rfl) (by decide) (by decide) ((gU_ne rfl).trans (hO.a (j := 4) rfl (by decide) rfl (by decide) : Γ 84 a = 0)) hR ⟨by decide, by decide, fun e => absurd e.1 (by decide)⟩ (by decide) (un_r (fun e => absurd e.1 (by simp)) un_nil) (us_r (fun e => absurd e.1 (by simp)) us_nil) (lwg_at 54 (by decide +kernel) rfl) (by decide) (by decide) d_Wi_init_32 ?_
  have hR := R1.aD (f := 84) (a := a) hR
  refine x_pA gp_Wi_25_10 rfl (by decide) rfl hO.1 hO.z rfl d_Wi_init_34 ?_
  refine x_aload_n (i := 0) d_Wi_init_37 rfl rfl ?_
  refine x_ic (v := 4) d_Wi_init_38 (by decide) ?_
  refine x_nw (f := 85) (b := a) (w := 4) (Or.inl ⟨by decide, rfl⟩) (by decide) (by rfl) (by decide) (by decide) ((gU_ne rfl).trans (hO.a (j := 5) rfl (by decide) rfl (by decide) : Γ 85 a = 0)) hR ⟨by decide, by decide, fun e => absurd e.1 (by decide)⟩ (by decide) (un_r (fun e => absurd e.1 (by simp)) un_nil) (us_r (fun e => absurd e.1 (by simp)) us_nil) (lwg_at 54 (by decide +kernel) rfl) (by decide) (by decide) d_Wi_init_39 ?_
  have hR := R1.aD (f := 85) (a := a) hR
  refine x_pA gp_Wi_28_10 rfl (by decide) rfl hO.1 hO.z rfl d_Wi_init_41 ?_
  refine x_aload_n (i := 0) d_Wi_init_44 rfl rfl ?_
  refine x_ic (v := 0) d_Wi_init_45 (by decide) ?_
  refine x_pI gp_Wi_31_10 rfl (by decide) rfl rfl rfl hO.1 hO.z rfl d_Wi_init_46 ?_
  have hR := R1.sI (f := 86) (a := a) (v := 0) hR
  exact x_vret rfl d_Wi_init_49 (Nat.le_refl _) (Nat.le_refl _)
abbrev M_Sh_init : MM := (⟨RX7, "<init>", "()V"⟩, prog_9_method_1_code, 1, none)
theorem d_Sh_init_0 : decode M_Sh_init.2.1 0 = .ok (.aload_n 0, 1) := by decide +kernel
theorem d_Sh_init_1 : decode M_Sh_init.2.1 1 = .ok (.invokespecial 1, 3) := by decide +kernel
theorem d_Sh_init_4 : decode M_Sh_init.2.1 4 = .ok (.aload_n 0, 1) := by decide +kernel
theorem d_Sh_init_5 : decode M_Sh_init.2.1 5 = .ok (.iconst 3, 1) := by decide +kernel
theorem d_Sh_init_6 : decode M_Sh_init.2.1 6 = .ok (.newarray .int, 2) := by decide +kernel
theorem d_Sh_init_8 : decode M_Sh_init.2.1 8 = .ok (.dup, 1) := by decide +kernel
theorem d_Sh_init_9 : decode M_Sh_init.2.1 9 = .ok (.iconst 0, 1) := by decide +kernel
theorem d_Sh_init_10 : decode M_Sh_init.2.1 10 = .ok (.iconst (-1), 1) := by decide +kernel
theorem d_Sh_init_11 : decode M_Sh_init.2.1 11 = .ok (.iastore, 1) := by decide +kernel
theorem d_Sh_init_12 : decode M_Sh_init.2.1 12 = .ok (.dup, 1) := by decide +kernel
theorem d_Sh_init_13 : decode M_Sh_init.2.1 13 = .ok (.iconst 1, 1) := by decide +kernel
theorem d_Sh_init_14 : decode M_Sh_init.2.1 14 = .ok (.iconst (-1), 1) := by decide +kernel
theorem d_Sh_init_15 : decode M_Sh_init.2.1 15 = .ok (.iastore, 1) := by decide +kernel
theorem d_Sh_init_16 : decode M_Sh_init.2.1 16 = .ok (.dup, 1) := by decide +kernel
theorem d_Sh_init_17 : decode M_Sh_init.2.1 17 = .ok (.iconst 2, 1) := by decide +kernel
theorem d_Sh_init_18 : decode M_Sh_init.2.1 18 = .ok (.iconst (-1), 1) := by decide +kernel
theorem d_Sh_init_19 : decode M_Sh_init.2.1 19 = .ok (.iastore, 1) := by decide +kernel
theorem d_Sh_init_20 : decode M_Sh_init.2.1 20 = .ok (.putfield 9, 3) := by decide +kernel
theorem d_Sh_init_23 : decode M_Sh_init.2.1 23 = .ok (.aload_n 0, 1) := by decide +kernel
theorem d_Sh_init_24 : decode M_Sh_init.2.1 24 = .ok (.iconst 3, 1) := by decide +kernel
theorem d_Sh_init_25 : decode M_Sh_init.2.1 25 = .ok (.newarray .int, 2) := by decide +kernel
theorem d_Sh_init_27 : decode M_Sh_init.2.1 27 = .ok (.putfield 13, 3) := by decide +kernel
theorem d_Sh_init_30 : decode M_Sh_init.2.1 30 = .ok (.aload_n 0, 1) := by decide +kernel
theorem d_Sh_init_31 : decode M_Sh_init.2.1 31 = .ok (.sipush 210, 3) := by decide +kernel
theorem d_Sh_init_34 : decode M_Sh_init.2.1 34 = .ok (.newarray .int, 2) := by decide +kernel
theorem d_Sh_init_36 : decode M_Sh_init.2.1 36 = .ok (.putfield 16, 3) := by decide +kernel
theorem d_Sh_init_39 : decode M_Sh_init.2.1 39 = .ok (.return_, 1) := by decide +kernel
theorem gp_Sh_9_7 : GP RX7 9 7 0 true (.array .int) := ⟨RX7, TX7, 3, RX7, tyX7, rfl, by decide, (lwg_at 225 (by decide +kernel) rfl), rfl, gl_w inX7, tyX7_ok, nmX7, rfl, by decide +kernel, fun h => by first | rfl | cases h⟩
theorem gp_Sh_13_7 : GP RX7 13 7 1 true (.array .int) := ⟨RX7, TX7, 3, RX7, tyX7, rfl, by decide, (lwg_at 226 (by decide +kernel) rfl), rfl, gl_w inX7, tyX7_ok, nmX7, rfl, by decide +kernel, fun h => by first | rfl | cases h⟩
theorem gp_Sh_16_7 : GP RX7 16 7 2 true (.array .int) := ⟨RX7, TX7, 3, RX7, tyX7, rfl, by decide, (lwg_at 227 (by decide +kernel) rfl), rfl, gl_w inX7, tyX7_ok, nmX7, rfl, by decide +kernel, fun h => by first | rfl | cases h⟩
def F_Sh_init (a : Nat) (δ : Dl) : Dl := (aD (aD (sA (sA (sA (aD δ 60 a) 60 a 0 (-1)) 60 a 1 (-1)) 60 a 2 (-1)) 61 a) 62 a)
set_option maxRecDepth 40000 in
set_option maxHeartbeats 4000000 in
theorem c_Sh_init {l : Launch} {Γ : Gm} {a : Nat} (hO : Mk Γ a 7) (δ : Dl) (hR : R1 δ) : Ct l M_Sh_init 1 3 216 (NB [0, 23, 8, 11, a]) [.inr (0, a)] Γ δ (none, gU Γ a [62, 61, 60], F_Sh_init a δ) := by
  refine Ct.of2 (n := 0) (ls := [some (.inr (0, a))]) rfl (by decide +kernel) (Nat.le_of_ble_eq_true rfl) ?_
  refine Xe.cΓ (gU_nil (a := a)).symm ?_
  refine x_aload_n (i := 0) d_Sh_init_0 rfl rfl ?_
  refine x_oinit (lwg_at 224 (by decide +kernel) rfl) (lwg_at 27 (by decide +kernel) rfl) (lwg_at 28 (by decide +kernel) rfl) (by decide) (by decide) d_Sh_init_1 ?_
  refine x_aload_n (i := 0) d_Sh_init_4 rfl rfl ?_
  refine x_ic (v := 3) d_Sh_init_5 (by decide) ?_
  refine x_nw (f := 60) (b := a) (w := 3) (Or.inl ⟨by decide, rfl⟩) (by decide) (by rfl) (by decide) (by decide) ((gU_ne rfl).trans (hO.a (j := 0) rfl (by decide) rfl (by decide) : Γ 60 a = 0)) hR ⟨by decide, by decide, fun e => absurd e.1 (by decide)⟩ (by decide) (un_r (fun e => absurd e.1 (by simp)) un_nil) (us_r (fun e => absurd e.1 (by simp)) us_nil) (lwg_at 54 (by decide +kernel) rfl) (by decide) (by decide) d_Sh_init_6 ?_
  have hR := R1.aD (f := 60) (a := a) hR
  refine x_dup d_Sh_init_8 ?_
  refine x_ic (v := 0) d_Sh_init_9 (by decide) ?_
  refine x_ic (v := -1) d_Sh_init_10 (by decide) ?_
  refine x_iastN (n := 3) (by decide) (by rfl) (by decide) d_Sh_init_11 ?_
  have hR := R1.sA (f := 60) (a := a) (i := 0) (v := (-1)) hR
  refine x_dup d_Sh_init_12 ?_
  refine x_ic (v := 1) d_Sh_init_13 (by decide) ?_
  refine x_ic (v := -1) d_Sh_init_14 (by decide) ?_
  refine x_iastN (n := 3) (by decide) (by rfl) (by decide) d_Sh_init_15 ?_
  have hR := R1.sA (f := 60) (a := a) (i := 1) (v := (-1)) hR
  refine x_dup d_Sh_init_16 ?_
  refine x_ic (v := 2) d_Sh_init_17 (by decide) ?_
  refine x_ic (v := -1) d_Sh_init_18 (by decide) ?_
  refine x_iastN (n := 3) (by decide) (by rfl) (by decide) d_Sh_init_19 ?_
  have hR := R1.sA (f := 60) (a := a) (i := 2) (v := (-1)) hR
  refine x_pA gp_Sh_9_7 rfl (by decide) rfl hO.1 hO.z rfl d_Sh_init_20 ?_
  refine x_aload_n (i := 0) d_Sh_init_23 rfl rfl ?_
  refine x_ic (v := 3) d_Sh_init_24 (by decide) ?_
  refine x_nw (f := 61) (b := a) (w := 3) (Or.inl ⟨by decide, rfl⟩) (by decide) (by rfl) (by decide) (by decide) ((gU_ne rfl).trans (hO.a (j := 1) rfl (by decide) rfl (by decide) : Γ 61 a = 0)) hR ⟨by decide, by decide, fun e => absurd e.1 (by decide)⟩ (by decide) (un_r (fun e => absurd e.1 (by simp)) un_nil) (us_r (fun e => absurd e.1 (by simp)) us_nil) (lwg_at 54 (by decide +kernel) rfl) (by decide) (by decide) d_Sh_init_25 ?_
  have hR := R1.aD (f := 61) (a := a) hR
  refine x_pA gp_Sh_13_7 rfl (by decide) rfl hO.1 hO.z rfl d_Sh_init_27 ?_
  refine x_aload_n (i := 0) d_Sh_init_30 rfl rfl ?_
  refine x_si (v := 210) d_Sh_init_31 (by decide) ?_
  refine x_nw (f := 62) (b := a) (w := 210) (Or.inl ⟨by decide, rfl⟩) (by decide) (by rfl) (by decide) (by decide) ((gU_ne rfl).trans (hO.a (j := 2) rfl (by decide) rfl (by decide) : Γ 62 a = 0)) hR ⟨by decide, by decide, fun e => absurd e.1 (by decide)⟩ (by decide) (un_r (fun e => absurd e.1 (by simp)) un_nil) (us_r (fun e => absurd e.1 (by simp)) us_nil) (lwg_at 54 (by decide +kernel) rfl) (by decide) (by decide) d_Sh_init_34 ?_
  have hR := R1.aD (f := 62) (a := a) hR
  refine x_pA gp_Sh_16_7 rfl (by decide) rfl hO.1 hO.z rfl d_Sh_init_36 ?_
  exact x_vret rfl d_Sh_init_39 (Nat.le_refl _) (Nat.le_refl _)
abbrev M_St_init : MM := (⟨RX9, "<init>", "()V"⟩, prog_11_method_1_code, 1, none)
theorem d_St_init_0 : decode M_St_init.2.1 0 = .ok (.aload_n 0, 1) := by decide +kernel
theorem d_St_init_1 : decode M_St_init.2.1 1 = .ok (.invokespecial 5, 3) := by decide +kernel
theorem d_St_init_4 : decode M_St_init.2.1 4 = .ok (.aload_n 0, 1) := by decide +kernel
theorem d_St_init_5 : decode M_St_init.2.1 5 = .ok (.iconst 0, 1) := by decide +kernel
theorem d_St_init_6 : decode M_St_init.2.1 6 = .ok (.putfield 11, 3) := by decide +kernel
theorem d_St_init_9 : decode M_St_init.2.1 9 = .ok (.aload_n 0, 1) := by decide +kernel
theorem d_St_init_10 : decode M_St_init.2.1 10 = .ok (.iconst 0, 1) := by decide +kernel
theorem d_St_init_11 : decode M_St_init.2.1 11 = .ok (.putfield 15, 3) := by decide +kernel
theorem d_St_init_14 : decode M_St_init.2.1 14 = .ok (.aload_n 0, 1) := by decide +kernel
theorem d_St_init_15 : decode M_St_init.2.1 15 = .ok (.iconst 0, 1) := by decide +kernel
theorem d_St_init_16 : decode M_St_init.2.1 16 = .ok (.putfield 18, 3) := by decide +kernel
theorem d_St_init_19 : decode M_St_init.2.1 19 = .ok (.aload_n 0, 1) := by decide +kernel
theorem d_St_init_20 : decode M_St_init.2.1 20 = .ok (.bipush 100, 2) := by decide +kernel
theorem d_St_init_22 : decode M_St_init.2.1 22 = .ok (.newarray .int, 2) := by decide +kernel
theorem d_St_init_24 : decode M_St_init.2.1 24 = .ok (.putfield 21, 3) := by decide +kernel
theorem d_St_init_27 : decode M_St_init.2.1 27 = .ok (.aload_n 0, 1) := by decide +kernel
theorem d_St_init_28 : decode M_St_init.2.1 28 = .ok (.iconst 3, 1) := by decide +kernel
theorem d_St_init_29 : decode M_St_init.2.1 29 = .ok (.newarray .int, 2) := by decide +kernel
theorem d_St_init_31 : decode M_St_init.2.1 31 = .ok (.putfield 25, 3) := by decide +kernel
theorem d_St_init_34 : decode M_St_init.2.1 34 = .ok (.aload_n 0, 1) := by decide +kernel
theorem d_St_init_35 : decode M_St_init.2.1 35 = .ok (.iconst 3, 1) := by decide +kernel
theorem d_St_init_36 : decode M_St_init.2.1 36 = .ok (.newarray .int, 2) := by decide +kernel
theorem d_St_init_38 : decode M_St_init.2.1 38 = .ok (.putfield 28, 3) := by decide +kernel
theorem d_St_init_41 : decode M_St_init.2.1 41 = .ok (.aload_n 0, 1) := by decide +kernel
theorem d_St_init_42 : decode M_St_init.2.1 42 = .ok (.iconst 3, 1) := by decide +kernel
theorem d_St_init_43 : decode M_St_init.2.1 43 = .ok (.newarray .int, 2) := by decide +kernel
theorem d_St_init_45 : decode M_St_init.2.1 45 = .ok (.putfield 31, 3) := by decide +kernel
theorem d_St_init_48 : decode M_St_init.2.1 48 = .ok (.aload_n 0, 1) := by decide +kernel
theorem d_St_init_49 : decode M_St_init.2.1 49 = .ok (.iconst 3, 1) := by decide +kernel
theorem d_St_init_50 : decode M_St_init.2.1 50 = .ok (.newarray .int, 2) := by decide +kernel
theorem d_St_init_52 : decode M_St_init.2.1 52 = .ok (.putfield 34, 3) := by decide +kernel
theorem d_St_init_55 : decode M_St_init.2.1 55 = .ok (.aload_n 0, 1) := by decide +kernel
theorem d_St_init_56 : decode M_St_init.2.1 56 = .ok (.iconst 3, 1) := by decide +kernel
theorem d_St_init_57 : decode M_St_init.2.1 57 = .ok (.newarray .int, 2) := by decide +kernel
theorem d_St_init_59 : decode M_St_init.2.1 59 = .ok (.putfield 37, 3) := by decide +kernel
theorem d_St_init_62 : decode M_St_init.2.1 62 = .ok (.aload_n 0, 1) := by decide +kernel
theorem d_St_init_63 : decode M_St_init.2.1 63 = .ok (.bipush 60, 2) := by decide +kernel
theorem d_St_init_65 : decode M_St_init.2.1 65 = .ok (.newarray .int, 2) := by decide +kernel
theorem d_St_init_67 : decode M_St_init.2.1 67 = .ok (.putfield 40, 3) := by decide +kernel
theorem d_St_init_70 : decode M_St_init.2.1 70 = .ok (.aload_n 0, 1) := by decide +kernel
theorem d_St_init_71 : decode M_St_init.2.1 71 = .ok (.iconst 4, 1) := by decide +kernel
theorem d_St_init_72 : decode M_St_init.2.1 72 = .ok (.iconst 4, 1) := by decide +kernel
theorem d_St_init_73 : decode M_St_init.2.1 73 = .ok (.invokevirtual 43, 3) := by decide +kernel
theorem d_St_init_76 : decode M_St_init.2.1 76 = .ok (.return_, 1) := by decide +kernel
theorem gp_St_21_9 : GP RX9 21 9 3 true (.array .int) := ⟨RX9, TX9, 10, RX9, tyX9, rfl, by decide, (lwg_at 82 (by decide +kernel) rfl), rfl, gl_w inX9, tyX9_ok, nmX9, rfl, by decide +kernel, fun h => by first | rfl | cases h⟩
theorem gp_St_25_9 : GP RX9 25 9 4 true (.array .int) := ⟨RX9, TX9, 10, RX9, tyX9, rfl, by decide, (lwg_at 83 (by decide +kernel) rfl), rfl, gl_w inX9, tyX9_ok, nmX9, rfl, by decide +kernel, fun h => by first | rfl | cases h⟩
theorem gp_St_28_9 : GP RX9 28 9 5 true (.array .int) := ⟨RX9, TX9, 10, RX9, tyX9, rfl, by decide, (lwg_at 84 (by decide +kernel) rfl), rfl, gl_w inX9, tyX9_ok, nmX9, rfl, by decide +kernel, fun h => by first | rfl | cases h⟩
theorem gp_St_31_9 : GP RX9 31 9 6 true (.array .int) := ⟨RX9, TX9, 10, RX9, tyX9, rfl, by decide, (lwg_at 85 (by decide +kernel) rfl), rfl, gl_w inX9, tyX9_ok, nmX9, rfl, by decide +kernel, fun h => by first | rfl | cases h⟩
theorem gp_St_34_9 : GP RX9 34 9 7 true (.array .int) := ⟨RX9, TX9, 10, RX9, tyX9, rfl, by decide, (lwg_at 86 (by decide +kernel) rfl), rfl, gl_w inX9, tyX9_ok, nmX9, rfl, by decide +kernel, fun h => by first | rfl | cases h⟩
theorem gp_St_37_9 : GP RX9 37 9 8 true (.array .int) := ⟨RX9, TX9, 10, RX9, tyX9, rfl, by decide, (lwg_at 87 (by decide +kernel) rfl), rfl, gl_w inX9, tyX9_ok, nmX9, rfl, by decide +kernel, fun h => by first | rfl | cases h⟩
theorem gp_St_40_9 : GP RX9 40 9 9 true (.array .int) := ⟨RX9, TX9, 10, RX9, tyX9, rfl, by decide, (lwg_at 88 (by decide +kernel) rfl), rfl, gl_w inX9, tyX9_ok, nmX9, rfl, by decide +kernel, fun h => by first | rfl | cases h⟩
theorem cs_St_43 : CV RX9 43 RX9 M_St_empty 2 := ⟨(lwg_at 61 (by decide +kernel) rfl), (lwg_at 62 (by decide +kernel) rfl), (lwg_at 63 (by decide +kernel) rfl), mi_St_empty⟩
set_option maxRecDepth 20000 in
set_option maxHeartbeats 4000000 in
theorem c_St_placeOfX {l : Launch} {Γ : Gm} (a : Nat) (oa : Ob Γ a 9) (x1 : Int32) (x2 : Int32) (ha : Oc a 9) (δ : Dl) (r : Int32) (h : F_St_placeOf a x1 x2  δ = r) : Ct l M_St_placeOf 0 0 0 NF [.inr (0, a), .inl x1, .inl x2] Γ δ (some (.inl r), Γ, δ) := by
  unfold F_St_placeOf at h
  refine Ct.of2 (n := 0) (ls := [some (.inr (0, a)), some (.inl x1), some (.inl x2)]) rfl (by decide +kernel) (Nat.le_of_ble_eq_true rfl) ?_
  refine x_iload_n (i := 1) d_St_placeOf_0 rfl rfl ?_
  refine x_if_lt (tgt := 24) d_St_placeOf_1 (by decide) (fun c1 => ?_) (fun c1 => ?_)
  · have h := if_t c1 h
    refine x_ic (v := -1) d_St_placeOf_24 (by decide) ?_
    subst h
    exact x_iret rfl d_St_placeOf_25 (Nat.le_refl 0) (Nat.le_refl 0)
  · have h := if_f c1 h
    refine x_iload_n (i := 2) d_St_placeOf_4 rfl rfl ?_
    refine x_if_lt (tgt := 24) d_St_placeOf_5 (by decide) (fun c5 => ?_) (fun c5 => ?_)
    · have h := if_t c5 h
      refine x_ic (v := -1) d_St_placeOf_24 (by decide) ?_
      subst h
      exact x_iret rfl d_St_placeOf_25 (Nat.le_refl 0) (Nat.le_refl 0)
    · have h := if_f c5 h
      refine x_iload_n (i := 1) d_St_placeOf_8 rfl rfl ?_
      refine x_aload_n (i := 0) d_St_placeOf_9 rfl rfl ?_
      refine x_getI (f := 70) gl_St_11_9 rfl kf_70 oa d_St_placeOf_10 ?_
      refine x_cmp_ge (tgt := 24) d_St_placeOf_13 (by decide) (fun c13 => ?_) (fun c13 => ?_)
      · have h := if_t c13 h
        refine x_ic (v := -1) d_St_placeOf_24 (by decide) ?_
        subst h
        exact x_iret rfl d_St_placeOf_25 (Nat.le_refl 0) (Nat.le_refl 0)
      · have h := if_f c13 h
        refine x_iload_n (i := 2) d_St_placeOf_16 rfl rfl ?_
        refine x_aload_n (i := 0) d_St_placeOf_17 rfl rfl ?_
        refine x_getI (f := 71) gl_St_15_9 rfl kf_71 oa d_St_placeOf_18 ?_
        refine x_cmp_lt (tgt := 26) d_St_placeOf_21 (by decide) (fun c21 => ?_) (fun c21 => ?_)
        · have h := if_t c21 h
          refine x_iload_n (i := 2) d_St_placeOf_26 rfl rfl ?_
          refine x_ic (v := 1) d_St_placeOf_27 (by decide) ?_
          refine x_iadd d_St_placeOf_28 ?_
          refine x_bi (v := 10) d_St_placeOf_29 (by decide) ?_
          refine x_imul d_St_placeOf_31 ?_
          refine x_iload_n (i := 1) d_St_placeOf_32 rfl rfl ?_
          refine x_iadd d_St_placeOf_33 ?_
          refine x_ic (v := 1) d_St_placeOf_34 (by decide) ?_
          refine x_iadd d_St_placeOf_35 ?_
          subst h
          exact x_iret rfl d_St_placeOf_36 (Nat.le_refl 0) (Nat.le_refl 0)
        · have h := if_f c21 h
          refine x_ic (v := -1) d_St_placeOf_24 (by decide) ?_
          subst h
          exact x_iret rfl d_St_placeOf_25 (Nat.le_refl 0) (Nat.le_refl 0)
set_option maxRecDepth 20000 in
set_option maxHeartbeats 4000000 in
theorem c_St_setCellX {l : Launch} {Γ : Gm} (a : Nat) (oa : Ob Γ a 9) (x1 : Int32) (x2 : Int32) (x3 : Int32) (ha : Oc a 9) (δ : Dl) (r : Dl) (h : F_St_setCell a x1 x2 x3  δ = some r) : Ct l M_St_setCell 1 0 0 NF [.inr (0, a), .inl x1, .inl x2, .inl x3] Γ δ (none, Γ, r) := by
  unfold F_St_setCell at h
  refine Ct.of2 (n := 1) (ls := [some (.inr (0, a)), some (.inl x1), some (.inl x2), some (.inl x3), none]) rfl (by decide +kernel) (Nat.le_of_ble_eq_true rfl) ?_
  refine x_aload_n (i := 0) d_St_setCell_0 rfl rfl ?_
  refine x_iload_n (i := 1) d_St_setCell_1 rfl rfl ?_
  refine x_iload_n (i := 2) d_St_setCell_2 rfl rfl ?_
  obtain ⟨v3, ev3, h⟩ := bn_e h
  refine y_V2 cs_St_63 rfl oa (by first | decide | omega) (Nat.le_of_ble_eq_true rfl) d_St_setCell_3 (c_St_placeOfX a oa x1 x2 ha δ v3 ev3) (Nat.le_refl 0) (Nat.le_refl 0) ?_
  refine x_stw (i := 4) (ls' := [some (.inr (0, a)), some (.inl x1), some (.inl x2), some (.inl x3), some (.inl v3)]) d_St_setCell_6 (by decide) rfl ?_
  refine x_iload (i := 4) d_St_setCell_8 rfl ?_
  refine x_if_lt (tgt := 31) d_St_setCell_10 (by decide) (fun c10 => ?_) (fun c10 => ?_)
  · have h := if_t c10 h
    replace h := Option.some.inj h; subst h
    exact x_vret rfl d_St_setCell_31 (Nat.le_refl 0) (Nat.le_refl 0)
  · have h := if_f c10 h
    refine x_iload (i := 4) d_St_setCell_13 rfl ?_
    refine x_aload_n (i := 0) d_St_setCell_15 rfl rfl ?_
    refine x_getA (f := 73) gl_St_21_9 rfl (by rw [kf_73]; decide) oa d_St_setCell_16 ?_
    refine x_alen (n := 100) (Or.inl kf_73) (oz_73 oa) (lo_73 _) d_St_setCell_19 ?_
    refine x_cmp_ge (tgt := 31) d_St_setCell_20 (by decide) (fun c20 => ?_) (fun c20 => ?_)
    · have h := if_t c20 h
      replace h := Option.some.inj h; subst h
      exact x_vret rfl d_St_setCell_31 (Nat.le_refl 0) (Nat.le_refl 0)
    · have h := if_f c20 h
      refine x_aload_n (i := 0) d_St_setCell_23 rfl rfl ?_
      refine x_getA (f := 73) gl_St_21_9 rfl (by rw [kf_73]; decide) oa d_St_setCell_24 ?_
      refine x_iload (i := 4) d_St_setCell_27 rfl ?_
      refine x_iload_n (i := 3) d_St_setCell_29 rfl rfl ?_
      obtain ⟨g30, h⟩ := gd_e h
      obtain ⟨δ30, eδ30, h⟩ := bn_e h
      refine x_iast (n := 100) kf_73 (oz_73 oa) (ln_73 _) g30 d_St_setCell_30 (Xe.cδ eδ30 ?_)
      replace h := Option.some.inj h; subst h
      exact x_vret rfl d_St_setCell_31 (Nat.le_refl 0) (Nat.le_refl 0)
set_option maxRecDepth 20000 in
set_option maxHeartbeats 4000000 in
theorem j_St_empty_33_bX {l : Launch} {Γ : Gm} (a : Nat) (oa : Ob Γ a 9) (x1 : Int32) (x2 : Int32) (ha : Oc a 9) (k25 : Int32 → Dl → Option (Dl)) (k33 : Int32 → Int32 → Dl → Option (Dl)) (x3 : Int32) (x4 : Int32) (δ : Dl) (r : Dl) (hk25 : ∀ (x3 : Int32) (δ : Dl),  k25 x3 δ = some r → Xe l M_St_empty 2 0 0 NF 25 [some (.inr (0, a)), some (.inl x1), some (.inl x2), some (.inl x3), none] [] 0 0 Γ δ (none, Γ, r)) (hk33 : ∀ (x3 : Int32) (x4 : Int32) (δ : Dl),  k33 x3 x4 δ = some r → Xe l M_St_empty 2 0 0 NF 33 [some (.inr (0, a)), some (.inl x1), some (.inl x2), some (.inl x3), some (.inl x4)] [] 0 0 Γ δ (none, Γ, r)) (h : F_St_empty_33_b a x1 x2 k25 k33 x3 x4 δ = some r) : Xe l M_St_empty 2 0 0 NF 33 [some (.inr (0, a)), some (.inl x1), some (.inl x2), some (.inl x3), some (.inl x4)] [] 0 0 Γ δ (none, Γ, r) := by
  unfold F_St_empty_33_b at h
  refine x_iload (i := 4) d_St_empty_33 rfl ?_
  refine x_iload_n (i := 1) d_St_empty_35 rfl rfl ?_
  refine x_cmp_ge (tgt := 53) d_St_empty_36 (by decide) (fun c36 => ?_) (fun c36 => ?_)
  · have h := if_t c36 h
    refine x_inc (i := 3) (c0 := 1) (ls' := [some (.inr (0, a)), some (.inl x1), some (.inl x2), some (.inl (x3 + 1)), some (.inl x4)]) d_St_empty_53 (by decide) rfl (by decide) rfl ?_
    refine x_goto (tgt := 25) d_St_empty_56 (by decide) ?_
    refine x_wk (ls' := [some (.inr (0, a)), some (.inl x1), some (.inl x2), some (.inl (x3 + 1)), none]) ⟨Or.inr rfl, Or.inr rfl, Or.inr rfl, Or.inr rfl, Or.inl rfl, trivial⟩ ?_
    exact hk25 ((x3 + 1)) δ h
  · have h := if_f c36 h
    refine x_aload_n (i := 0) d_St_empty_39 rfl rfl ?_
    refine x_iload (i := 4) d_St_empty_40 rfl ?_
    refine x_iload_n (i := 3) d_St_empty_42 rfl rfl ?_
    refine x_ic (v := 0) d_St_empty_43 (by decide) ?_
    obtain ⟨δ44, eδ44, h⟩ := bd_e h
    refine y_V3v cs_St_53 rfl oa (by first | decide | omega) (Nat.le_of_ble_eq_true rfl) d_St_empty_44 (c_St_setCellX a oa x4 x3 0 ha δ δ44 eδ44) (Nat.le_refl 0) (Nat.le_refl 0) ?_
    refine x_inc (i := 4) (c0 := 1) (ls' := [some (.inr (0, a)), some (.inl x1), some (.inl x2), some (.inl x3), some (.inl (x4 + 1))]) d_St_empty_47 (by decide) rfl (by decide) rfl ?_
    refine x_goto (tgt := 33) d_St_empty_50 (by decide) ?_
    exact hk33 x3 ((x4 + 1)) δ44 h
theorem j_St_empty_33X {l : Launch} {Γ : Gm} (a : Nat) (oa : Ob Γ a 9) (x1 : Int32) (x2 : Int32) (ha : Oc a 9) (k25 : Int32 → Dl → Option (Dl)) (n : Nat) (x3 : Int32) (x4 : Int32) (δ : Dl) (r : Dl) (hk25 : ∀ (x3 : Int32) (δ : Dl),  k25 x3 δ = some r → Xe l M_St_empty 2 0 0 NF 25 [some (.inr (0, a)), some (.inl x1), some (.inl x2), some (.inl x3), none] [] 0 0 Γ δ (none, Γ, r)) (h : F_St_empty_33 a x1 x2 k25 n x3 x4 δ = some r) : Xe l M_St_empty 2 0 0 NF 33 [some (.inr (0, a)), some (.inl x1), some (.inl x2), some (.inl x3), some (.inl x4)] [] 0 0 Γ δ (none, Γ, r) := by
  induction n generalizing x3 x4 δ with
  | zero => cases h
  | succ n ih => exact j_St_empty_33_bX a oa x1 x2 ha k25 (F_St_empty_33 a x1 x2 k25 n) x3 x4 δ r hk25 (fun x3 x4 δ hh => ih x3 x4 δ hh) h
set_option maxRecDepth 20000 in
set_option maxHeartbeats 4000000 in
theorem j_St_empty_25_bX {l : Launch} {Γ : Gm} (a : Nat) (oa : Ob Γ a 9) (x1 : Int32) (x2 : Int32) (ha : Oc a 9) (k25 : Int32 → Dl → Option (Dl)) (x3 : Int32) (δ : Dl) (r : Dl) (hk25 : ∀ (x3 : Int32) (δ : Dl),  k25 x3 δ = some r → Xe l M_St_empty 2 0 0 NF 25 [some (.inr (0, a)), some (.inl x1), some (.inl x2), some (.inl x3), none] [] 0 0 Γ δ (none, Γ, r)) (h : F_St_empty_25_b a x1 x2 k25 x3 δ = some r) : Xe l M_St_empty 2 0 0 NF 25 [some (.inr (0, a)), some (.inl x1), some (.inl x2), some (.inl x3), none] [] 0 0 Γ δ (none, Γ, r) := by
  unfold F_St_empty_25_b at h
  refine x_iload_n (i := 3) d_St_empty_25 rfl rfl ?_
  refine x_iload_n (i := 2) d_St_empty_26 rfl rfl ?_
  refine x_cmp_ge (tgt := 59) d_St_empty_27 (by decide) (fun c27 => ?_) (fun c27 => ?_)
  · have h := if_t c27 h
    replace h := Option.some.inj h; subst h
    exact x_vret rfl d_St_empty_59 (Nat.le_refl 0) (Nat.le_refl 0)
  · have h := if_f c27 h
    refine x_ic (v := 0) d_St_empty_30 (by decide) ?_
    refine x_stw (i := 4) (ls' := [some (.inr (0, a)), some (.inl x1), some (.inl x2), some (.inl x3), some (.inl 0)]) d_St_empty_31 (by decide) rfl ?_
    exact j_St_empty_33X a oa x1 x2 ha k25 FU x3 0 δ r hk25 h
theorem j_St_empty_25X {l : Launch} {Γ : Gm} (a : Nat) (oa : Ob Γ a 9) (x1 : Int32) (x2 : Int32) (ha : Oc a 9) (n : Nat) (x3 : Int32) (δ : Dl) (r : Dl) (h : F_St_empty_25 a x1 x2 n x3 δ = some r) : Xe l M_St_empty 2 0 0 NF 25 [some (.inr (0, a)), some (.inl x1), some (.inl x2), some (.inl x3), none] [] 0 0 Γ δ (none, Γ, r) := by
  induction n generalizing x3 δ with
  | zero => cases h
  | succ n ih => exact j_St_empty_25_bX a oa x1 x2 ha (F_St_empty_25 a x1 x2 n) x3 δ r (fun x3 δ hh => ih x3 δ hh) h
set_option maxRecDepth 20000 in
set_option maxHeartbeats 4000000 in
theorem c_St_emptyX {l : Launch} {Γ : Gm} (a : Nat) (oa : Ob Γ a 9) (x1 : Int32) (x2 : Int32) (ha : Oc a 9) (δ : Dl) (r : Dl) (h : F_St_empty a x1 x2  δ = some r) : Ct l M_St_empty 2 0 0 NF [.inr (0, a), .inl x1, .inl x2] Γ δ (none, Γ, r) := by
  unfold F_St_empty at h
  refine Ct.of2 (n := 2) (ls := [some (.inr (0, a)), some (.inl x1), some (.inl x2), none, none]) rfl (by decide +kernel) (Nat.le_of_ble_eq_true rfl) ?_
  refine x_aload_n (i := 0) d_St_empty_0 rfl rfl ?_
  refine x_iload_n (i := 1) d_St_empty_1 rfl rfl ?_
  obtain ⟨δ2, eδ2, h⟩ := bn_e h
  refine x_putI (f := 70) gp_St_11_9 rfl kf_70 (fun h => by cases h) rfl rfl oa.1 oa.z d_St_empty_2 (Xe.cδ eδ2 ?_)
  refine x_aload_n (i := 0) d_St_empty_5 rfl rfl ?_
  refine x_iload_n (i := 2) d_St_empty_6 rfl rfl ?_
  obtain ⟨δ7, eδ7, h⟩ := bn_e h
  refine x_putI (f := 71) gp_St_15_9 rfl kf_71 (fun h => by cases h) rfl rfl oa.1 oa.z d_St_empty_7 (Xe.cδ eδ7 ?_)
  refine x_aload_n (i := 0) d_St_empty_10 rfl rfl ?_
  refine x_ic (v := 0) d_St_empty_11 (by decide) ?_
  obtain ⟨δ12, eδ12, h⟩ := bn_e h
  refine x_putI (f := 72) gp_St_18_9 rfl kf_72 (fun h => by cases h) rfl rfl oa.1 oa.z d_St_empty_12 (Xe.cδ eδ12 ?_)
  refine x_aload_n (i := 0) d_St_empty_15 rfl rfl ?_
  refine x_getA (f := 73) gl_St_21_9 rfl (by rw [kf_73]; decide) oa d_St_empty_16 ?_
  refine x_ic (v := -1) d_St_empty_19 (by decide) ?_
  obtain ⟨δ20, eδ20, h⟩ := bd_e h
  refine y_S2v cs_St_47 (by first | decide | omega) (Nat.le_of_ble_eq_true rfl) d_St_empty_20 (c_Ar_fill2 73 a 100 (-1) kf_73 (oz_73 oa) (ln_73 _) (lo_73 _) δ12 δ20 eδ20) (Nat.le_refl 0) (Nat.le_refl 0) ?_
  refine x_ic (v := 0) d_St_empty_23 (by decide) ?_
  refine x_stn (i := 3) (ls' := [some (.inr (0, a)), some (.inl x1), some (.inl x2), some (.inl 0), none]) d_St_empty_24 rfl (by decide) rfl ?_
  exact j_St_empty_25X a oa x1 x2 ha FU 0 δ20 r h
def F_St_init (a : Nat) (δ : Dl) : Option Dl := F_St_empty a 4 4 (aD (aD (aD (aD (aD (aD (aD (sI (sI (sI δ 70 a 0) 71 a 0) 72 a 0) 73 a) 74 a) 75 a) 76 a) 77 a) 78 a) 79 a)
set_option maxRecDepth 40000 in
set_option maxHeartbeats 4000000 in
theorem c_St_init {l : Launch} {Γ : Gm} {a : Nat} (hO : Mk Γ a 9) (ha : Oc a 9) (δ : Dl) (hR : R1 δ) (r : Dl) (h : F_St_init a δ = some r) : Ct l M_St_init 3 7 175 (NB [0, 23, 8, 11, a]) [.inr (0, a)] Γ δ (none, gU Γ a [79, 78, 77, 76, 75, 74, 73], r) := by
  unfold F_St_init at h
  refine Ct.of2 (n := 0) (ls := [some (.inr (0, a))]) rfl (by decide +kernel) (Nat.le_of_ble_eq_true rfl) ?_
  refine Xe.cΓ (gU_nil (a := a)).symm ?_
  refine x_aload_n (i := 0) d_St_init_0 rfl rfl ?_
  refine x_oinit (lwg_at 60 (by decide +kernel) rfl) (lwg_at 27 (by decide +kernel) rfl) (lwg_at 28 (by decide +kernel) rfl) (by decide) (by decide) d_St_init_1 ?_
  refine x_aload_n (i := 0) d_St_init_4 rfl rfl ?_
  refine x_ic (v := 0) d_St_init_5 (by decide) ?_
  refine x_pI gp_St_11_9 rfl (by decide) rfl rfl rfl hO.1 hO.z rfl d_St_init_6 ?_
  have hR := R1.sI (f := 70) (a := a) (v := 0) hR
  refine x_aload_n (i := 0) d_St_init_9 rfl rfl ?_
  refine x_ic (v := 0) d_St_init_10 (by decide) ?_
  refine x_pI gp_St_15_9 rfl (by decide) rfl rfl rfl hO.1 hO.z rfl d_St_init_11 ?_
  have hR := R1.sI (f := 71) (a := a) (v := 0) hR
  refine x_aload_n (i := 0) d_St_init_14 rfl rfl ?_
  refine x_ic (v := 0) d_St_init_15 (by decide) ?_
  refine x_pI gp_St_18_9 rfl (by decide) rfl rfl rfl hO.1 hO.z rfl d_St_init_16 ?_
  have hR := R1.sI (f := 72) (a := a) (v := 0) hR
  refine x_aload_n (i := 0) d_St_init_19 rfl rfl ?_
  refine x_bi (v := 100) d_St_init_20 (by decide) ?_
  refine x_nw (f := 73) (b := a) (w := 100) (Or.inl ⟨by decide, rfl⟩) (by decide) (by rfl) (by decide) (by decide) ((gU_ne rfl).trans (hO.a (j := 3) rfl (by decide) rfl (by decide) : Γ 73 a = 0)) hR ⟨by decide, by decide, fun e => absurd e.1 (by decide)⟩ (by decide) (un_r (fun e => absurd e.1 (by simp)) un_nil) (us_r (fun e => absurd e.1 (by simp)) us_nil) (lwg_at 54 (by decide +kernel) rfl) (by decide) (by decide) d_St_init_22 ?_
  have hR := R1.aD (f := 73) (a := a) hR
  refine x_pA gp_St_21_9 rfl (by decide) rfl hO.1 hO.z rfl d_St_init_24 ?_
  refine x_aload_n (i := 0) d_St_init_27 rfl rfl ?_
  refine x_ic (v := 3) d_St_init_28 (by decide) ?_
  refine x_nw (f := 74) (b := a) (w := 3) (Or.inl ⟨by decide, rfl⟩) (by decide) (by rfl) (by decide) (by decide) ((gU_ne rfl).trans (hO.a (j := 4) rfl (by decide) rfl (by decide) : Γ 74 a = 0)) hR ⟨by decide, by decide, fun e => absurd e.1 (by decide)⟩ (by decide) (un_r (fun e => absurd e.1 (by simp)) un_nil) (us_r (fun e => absurd e.1 (by simp)) us_nil) (lwg_at 54 (by decide +kernel) rfl) (by decide) (by decide) d_St_init_29 ?_
  have hR := R1.aD (f := 74) (a := a) hR
  refine x_pA gp_St_25_9 rfl (by decide) rfl hO.1 hO.z rfl d_St_init_31 ?_
  refine x_aload_n (i := 0) d_St_init_34 rfl rfl ?_
  refine x_ic (v := 3) d_St_init_35 (by decide) ?_
  refine x_nw (f := 75) (b := a) (w := 3) (Or.inl ⟨by decide, rfl⟩) (by decide) (by rfl) (by decide) (by decide) ((gU_ne rfl).trans (hO.a (j := 5) rfl (by decide) rfl (by decide) : Γ 75 a = 0)) hR ⟨by decide, by decide, fun e => absurd e.1 (by decide)⟩ (by decide) (un_r (fun e => absurd e.1 (by simp)) un_nil) (us_r (fun e => absurd e.1 (by simp)) us_nil) (lwg_at 54 (by decide +kernel) rfl) (by decide) (by decide) d_St_init_36 ?_
  have hR := R1.aD (f := 75) (a := a) hR
  refine x_pA gp_St_28_9 rfl (by decide) rfl hO.1 hO.z rfl d_St_init_38 ?_
  refine x_aload_n (i := 0) d_St_init_41 rfl rfl ?_
  refine x_ic (v := 3) d_St_init_42 (by decide) ?_
  refine x_nw (f := 76) (b := a) (w := 3) (Or.inl ⟨by decide, rfl⟩) (by decide) (by rfl) (by decide) (by decide) ((gU_ne rfl).trans (hO.a (j := 6) rfl (by decide) rfl (by decide) : Γ 76 a = 0)) hR ⟨by decide, by decide, fun e => absurd e.1 (by decide)⟩ (by decide) (un_r (fun e => absurd e.1 (by simp)) un_nil) (us_r (fun e => absurd e.1 (by simp)) us_nil) (lwg_at 54 (by decide +kernel) rfl) (by decide) (by decide) d_St_init_43 ?_
  have hR := R1.aD (f := 76) (a := a) hR
  refine x_pA gp_St_31_9 rfl (by decide) rfl hO.1 hO.z rfl d_St_init_45 ?_
  refine x_aload_n (i := 0) d_St_init_48 rfl rfl ?_
  refine x_ic (v := 3) d_St_init_49 (by decide) ?_
  refine x_nw (f := 77) (b := a) (w := 3) (Or.inl ⟨by decide, rfl⟩) (by decide) (by rfl) (by decide) (by decide) ((gU_ne rfl).trans (hO.a (j := 7) rfl (by decide) rfl (by decide) : Γ 77 a = 0)) hR ⟨by decide, by decide, fun e => absurd e.1 (by decide)⟩ (by decide) (un_r (fun e => absurd e.1 (by simp)) un_nil) (us_r (fun e => absurd e.1 (by simp)) us_nil) (lwg_at 54 (by decide +kernel) rfl) (by decide) (by decide) d_St_init_50 ?_
  have hR := R1.aD (f := 77) (a := a) hR
  refine x_pA gp_St_34_9 rfl (by decide) rfl hO.1 hO.z rfl d_St_init_52 ?_
  refine x_aload_n (i := 0) d_St_init_55 rfl rfl ?_
  refine x_ic (v := 3) d_St_init_56 (by decide) ?_
  refine x_nw (f := 78) (b := a) (w := 3) (Or.inl ⟨by decide, rfl⟩) (by decide) (by rfl) (by decide) (by decide) ((gU_ne rfl).trans (hO.a (j := 8) rfl (by decide) rfl (by decide) : Γ 78 a = 0)) hR ⟨by decide, by decide, fun e => absurd e.1 (by decide)⟩ (by decide) (un_r (fun e => absurd e.1 (by simp)) un_nil) (us_r (fun e => absurd e.1 (by simp)) us_nil) (lwg_at 54 (by decide +kernel) rfl) (by decide) (by decide) d_St_init_57 ?_
  have hR := R1.aD (f := 78) (a := a) hR
  refine x_pA gp_St_37_9 rfl (by decide) rfl hO.1 hO.z rfl d_St_init_59 ?_
  refine x_aload_n (i := 0) d_St_init_62 rfl rfl ?_
  refine x_bi (v := 60) d_St_init_63 (by decide) ?_
  refine x_nw (f := 79) (b := a) (w := 60) (Or.inl ⟨by decide, rfl⟩) (by decide) (by rfl) (by decide) (by decide) ((gU_ne rfl).trans (hO.a (j := 9) rfl (by decide) rfl (by decide) : Γ 79 a = 0)) hR ⟨by decide, by decide, fun e => absurd e.1 (by decide)⟩ (by decide) (un_r (fun e => absurd e.1 (by simp)) un_nil) (us_r (fun e => absurd e.1 (by simp)) us_nil) (lwg_at 54 (by decide +kernel) rfl) (by decide) (by decide) d_St_init_65 ?_
  have hR := R1.aD (f := 79) (a := a) hR
  refine x_pA gp_St_40_9 rfl (by decide) rfl hO.1 hO.z rfl d_St_init_67 ?_
  refine x_aload_n (i := 0) d_St_init_70 rfl rfl ?_
  refine x_ic (v := 4) d_St_init_71 (by decide) ?_
  refine x_ic (v := 4) d_St_init_72 (by decide) ?_
  have oa : Ob (gU Γ a (79 :: 78 :: 77 :: 76 :: 75 :: 74 :: 73 :: [])) a 9 := hO.ob rfl rfl (by decide +kernel)
  refine y_V2v cs_St_43 rfl oa (by decide) (Nat.le_of_ble_eq_true rfl) d_St_init_73 (c_St_emptyX a oa 4 4 ha _ _ h) (by decide) (by decide) ?_
  exact x_vret rfl d_St_init_76 (Nat.le_refl _) (Nat.le_refl _)
abbrev M_M_init : MM := (⟨RX12, "<init>", "()V"⟩, prog_14_method_1_code, 2, none)
theorem d_M_init_0 : decode M_M_init.2.1 0 = .ok (.aload_n 0, 1) := by decide +kernel
theorem d_M_init_1 : decode M_M_init.2.1 1 = .ok (.invokespecial 3, 3) := by decide +kernel
theorem d_M_init_4 : decode M_M_init.2.1 4 = .ok (.aload_n 0, 1) := by decide +kernel
theorem d_M_init_5 : decode M_M_init.2.1 5 = .ok (.iconst 5, 1) := by decide +kernel
theorem d_M_init_6 : decode M_M_init.2.1 6 = .ok (.newarray .int, 2) := by decide +kernel
theorem d_M_init_8 : decode M_M_init.2.1 8 = .ok (.putfield 9, 3) := by decide +kernel
theorem d_M_init_11 : decode M_M_init.2.1 11 = .ok (.aload_n 0, 1) := by decide +kernel
theorem d_M_init_12 : decode M_M_init.2.1 12 = .ok (.iconst 5, 1) := by decide +kernel
theorem d_M_init_13 : decode M_M_init.2.1 13 = .ok (.newarray .int, 2) := by decide +kernel
theorem d_M_init_15 : decode M_M_init.2.1 15 = .ok (.putfield 15, 3) := by decide +kernel
theorem d_M_init_18 : decode M_M_init.2.1 18 = .ok (.aload_n 0, 1) := by decide +kernel
theorem d_M_init_19 : decode M_M_init.2.1 19 = .ok (.sipush 320, 3) := by decide +kernel
theorem d_M_init_22 : decode M_M_init.2.1 22 = .ok (.newarray .int, 2) := by decide +kernel
theorem d_M_init_24 : decode M_M_init.2.1 24 = .ok (.putfield 18, 3) := by decide +kernel
theorem d_M_init_27 : decode M_M_init.2.1 27 = .ok (.aload_n 0, 1) := by decide +kernel
theorem d_M_init_28 : decode M_M_init.2.1 28 = .ok (.iconst 5, 1) := by decide +kernel
theorem d_M_init_29 : decode M_M_init.2.1 29 = .ok (.newarray .int, 2) := by decide +kernel
theorem d_M_init_31 : decode M_M_init.2.1 31 = .ok (.putfield 21, 3) := by decide +kernel
theorem d_M_init_34 : decode M_M_init.2.1 34 = .ok (.aload_n 0, 1) := by decide +kernel
theorem d_M_init_35 : decode M_M_init.2.1 35 = .ok (.bipush 15, 2) := by decide +kernel
theorem d_M_init_37 : decode M_M_init.2.1 37 = .ok (.newarray .int, 2) := by decide +kernel
theorem d_M_init_39 : decode M_M_init.2.1 39 = .ok (.putfield 24, 3) := by decide +kernel
theorem d_M_init_42 : decode M_M_init.2.1 42 = .ok (.aload_n 0, 1) := by decide +kernel
theorem d_M_init_43 : decode M_M_init.2.1 43 = .ok (.bipush 15, 2) := by decide +kernel
theorem d_M_init_45 : decode M_M_init.2.1 45 = .ok (.newarray .int, 2) := by decide +kernel
theorem d_M_init_47 : decode M_M_init.2.1 47 = .ok (.putfield 27, 3) := by decide +kernel
theorem d_M_init_50 : decode M_M_init.2.1 50 = .ok (.aload_n 0, 1) := by decide +kernel
theorem d_M_init_51 : decode M_M_init.2.1 51 = .ok (.bipush 15, 2) := by decide +kernel
theorem d_M_init_53 : decode M_M_init.2.1 53 = .ok (.newarray .int, 2) := by decide +kernel
theorem d_M_init_55 : decode M_M_init.2.1 55 = .ok (.putfield 30, 3) := by decide +kernel
theorem d_M_init_58 : decode M_M_init.2.1 58 = .ok (.aload_n 0, 1) := by decide +kernel
theorem d_M_init_59 : decode M_M_init.2.1 59 = .ok (.bipush 30, 2) := by decide +kernel
theorem d_M_init_61 : decode M_M_init.2.1 61 = .ok (.newarray .int, 2) := by decide +kernel
theorem d_M_init_63 : decode M_M_init.2.1 63 = .ok (.putfield 33, 3) := by decide +kernel
theorem d_M_init_66 : decode M_M_init.2.1 66 = .ok (.aload_n 0, 1) := by decide +kernel
theorem d_M_init_67 : decode M_M_init.2.1 67 = .ok (.bipush 30, 2) := by decide +kernel
theorem d_M_init_69 : decode M_M_init.2.1 69 = .ok (.newarray .int, 2) := by decide +kernel
theorem d_M_init_71 : decode M_M_init.2.1 71 = .ok (.putfield 36, 3) := by decide +kernel
theorem d_M_init_74 : decode M_M_init.2.1 74 = .ok (.aload_n 0, 1) := by decide +kernel
theorem d_M_init_75 : decode M_M_init.2.1 75 = .ok (.sipush 150, 3) := by decide +kernel
theorem d_M_init_78 : decode M_M_init.2.1 78 = .ok (.newarray .int, 2) := by decide +kernel
theorem d_M_init_80 : decode M_M_init.2.1 80 = .ok (.putfield 39, 3) := by decide +kernel
theorem d_M_init_83 : decode M_M_init.2.1 83 = .ok (.aload_n 0, 1) := by decide +kernel
theorem d_M_init_84 : decode M_M_init.2.1 84 = .ok (.bipush 30, 2) := by decide +kernel
theorem d_M_init_86 : decode M_M_init.2.1 86 = .ok (.newarray .int, 2) := by decide +kernel
theorem d_M_init_88 : decode M_M_init.2.1 88 = .ok (.putfield 42, 3) := by decide +kernel
theorem d_M_init_91 : decode M_M_init.2.1 91 = .ok (.aload_n 0, 1) := by decide +kernel
theorem d_M_init_92 : decode M_M_init.2.1 92 = .ok (.bipush 30, 2) := by decide +kernel
theorem d_M_init_94 : decode M_M_init.2.1 94 = .ok (.newarray .int, 2) := by decide +kernel
theorem d_M_init_96 : decode M_M_init.2.1 96 = .ok (.putfield 45, 3) := by decide +kernel
theorem d_M_init_99 : decode M_M_init.2.1 99 = .ok (.aload_n 0, 1) := by decide +kernel
theorem d_M_init_100 : decode M_M_init.2.1 100 = .ok (.bipush 30, 2) := by decide +kernel
theorem d_M_init_102 : decode M_M_init.2.1 102 = .ok (.newarray .int, 2) := by decide +kernel
theorem d_M_init_104 : decode M_M_init.2.1 104 = .ok (.putfield 48, 3) := by decide +kernel
theorem d_M_init_107 : decode M_M_init.2.1 107 = .ok (.aload_n 0, 1) := by decide +kernel
theorem d_M_init_108 : decode M_M_init.2.1 108 = .ok (.bipush 6, 2) := by decide +kernel
theorem d_M_init_110 : decode M_M_init.2.1 110 = .ok (.newarray .int, 2) := by decide +kernel
theorem d_M_init_112 : decode M_M_init.2.1 112 = .ok (.putfield 51, 3) := by decide +kernel
theorem d_M_init_115 : decode M_M_init.2.1 115 = .ok (.aload_n 0, 1) := by decide +kernel
theorem d_M_init_116 : decode M_M_init.2.1 116 = .ok (.bipush 6, 2) := by decide +kernel
theorem d_M_init_118 : decode M_M_init.2.1 118 = .ok (.newarray .int, 2) := by decide +kernel
theorem d_M_init_120 : decode M_M_init.2.1 120 = .ok (.putfield 54, 3) := by decide +kernel
theorem d_M_init_123 : decode M_M_init.2.1 123 = .ok (.aload_n 0, 1) := by decide +kernel
theorem d_M_init_124 : decode M_M_init.2.1 124 = .ok (.bipush 6, 2) := by decide +kernel
theorem d_M_init_126 : decode M_M_init.2.1 126 = .ok (.newarray .int, 2) := by decide +kernel
theorem d_M_init_128 : decode M_M_init.2.1 128 = .ok (.putfield 57, 3) := by decide +kernel
theorem d_M_init_131 : decode M_M_init.2.1 131 = .ok (.aload_n 0, 1) := by decide +kernel
theorem d_M_init_132 : decode M_M_init.2.1 132 = .ok (.bipush 6, 2) := by decide +kernel
theorem d_M_init_134 : decode M_M_init.2.1 134 = .ok (.newarray .int, 2) := by decide +kernel
theorem d_M_init_136 : decode M_M_init.2.1 136 = .ok (.putfield 60, 3) := by decide +kernel
theorem d_M_init_139 : decode M_M_init.2.1 139 = .ok (.aload_n 0, 1) := by decide +kernel
theorem d_M_init_140 : decode M_M_init.2.1 140 = .ok (.bipush 6, 2) := by decide +kernel
theorem d_M_init_142 : decode M_M_init.2.1 142 = .ok (.newarray .int, 2) := by decide +kernel
theorem d_M_init_144 : decode M_M_init.2.1 144 = .ok (.putfield 63, 3) := by decide +kernel
theorem d_M_init_147 : decode M_M_init.2.1 147 = .ok (.aload_n 0, 1) := by decide +kernel
theorem d_M_init_148 : decode M_M_init.2.1 148 = .ok (.bipush 64, 2) := by decide +kernel
theorem d_M_init_150 : decode M_M_init.2.1 150 = .ok (.newarray .int, 2) := by decide +kernel
theorem d_M_init_152 : decode M_M_init.2.1 152 = .ok (.putfield 66, 3) := by decide +kernel
theorem d_M_init_155 : decode M_M_init.2.1 155 = .ok (.aload_n 0, 1) := by decide +kernel
theorem d_M_init_156 : decode M_M_init.2.1 156 = .ok (.iconst 3, 1) := by decide +kernel
theorem d_M_init_157 : decode M_M_init.2.1 157 = .ok (.newarray .int, 2) := by decide +kernel
theorem d_M_init_159 : decode M_M_init.2.1 159 = .ok (.putfield 69, 3) := by decide +kernel
theorem d_M_init_162 : decode M_M_init.2.1 162 = .ok (.aload_n 0, 1) := by decide +kernel
theorem d_M_init_163 : decode M_M_init.2.1 163 = .ok (.iconst 3, 1) := by decide +kernel
theorem d_M_init_164 : decode M_M_init.2.1 164 = .ok (.newarray .int, 2) := by decide +kernel
theorem d_M_init_166 : decode M_M_init.2.1 166 = .ok (.putfield 72, 3) := by decide +kernel
theorem d_M_init_169 : decode M_M_init.2.1 169 = .ok (.aload_n 0, 1) := by decide +kernel
theorem d_M_init_170 : decode M_M_init.2.1 170 = .ok (.iconst 3, 1) := by decide +kernel
theorem d_M_init_171 : decode M_M_init.2.1 171 = .ok (.newarray .int, 2) := by decide +kernel
theorem d_M_init_173 : decode M_M_init.2.1 173 = .ok (.putfield 75, 3) := by decide +kernel
theorem d_M_init_176 : decode M_M_init.2.1 176 = .ok (.aload_n 0, 1) := by decide +kernel
theorem d_M_init_177 : decode M_M_init.2.1 177 = .ok (.iconst 3, 1) := by decide +kernel
theorem d_M_init_178 : decode M_M_init.2.1 178 = .ok (.newarray .int, 2) := by decide +kernel
theorem d_M_init_180 : decode M_M_init.2.1 180 = .ok (.putfield 78, 3) := by decide +kernel
theorem d_M_init_183 : decode M_M_init.2.1 183 = .ok (.aload_n 0, 1) := by decide +kernel
theorem d_M_init_184 : decode M_M_init.2.1 184 = .ok (.iconst 3, 1) := by decide +kernel
theorem d_M_init_185 : decode M_M_init.2.1 185 = .ok (.newarray .int, 2) := by decide +kernel
theorem d_M_init_187 : decode M_M_init.2.1 187 = .ok (.putfield 81, 3) := by decide +kernel
theorem d_M_init_190 : decode M_M_init.2.1 190 = .ok (.aload_n 0, 1) := by decide +kernel
theorem d_M_init_191 : decode M_M_init.2.1 191 = .ok (.iconst 3, 1) := by decide +kernel
theorem d_M_init_192 : decode M_M_init.2.1 192 = .ok (.newarray .int, 2) := by decide +kernel
theorem d_M_init_194 : decode M_M_init.2.1 194 = .ok (.putfield 84, 3) := by decide +kernel
theorem d_M_init_197 : decode M_M_init.2.1 197 = .ok (.aload_n 0, 1) := by decide +kernel
theorem d_M_init_198 : decode M_M_init.2.1 198 = .ok (.bipush 60, 2) := by decide +kernel
theorem d_M_init_200 : decode M_M_init.2.1 200 = .ok (.newarray .int, 2) := by decide +kernel
theorem d_M_init_202 : decode M_M_init.2.1 202 = .ok (.putfield 87, 3) := by decide +kernel
theorem d_M_init_205 : decode M_M_init.2.1 205 = .ok (.aload_n 0, 1) := by decide +kernel
theorem d_M_init_206 : decode M_M_init.2.1 206 = .ok (.bipush 6, 2) := by decide +kernel
theorem d_M_init_208 : decode M_M_init.2.1 208 = .ok (.newarray .int, 2) := by decide +kernel
theorem d_M_init_210 : decode M_M_init.2.1 210 = .ok (.putfield 90, 3) := by decide +kernel
theorem d_M_init_213 : decode M_M_init.2.1 213 = .ok (.aload_n 0, 1) := by decide +kernel
theorem d_M_init_214 : decode M_M_init.2.1 214 = .ok (.bipush 6, 2) := by decide +kernel
theorem d_M_init_216 : decode M_M_init.2.1 216 = .ok (.newarray .int, 2) := by decide +kernel
theorem d_M_init_218 : decode M_M_init.2.1 218 = .ok (.putfield 93, 3) := by decide +kernel
theorem d_M_init_221 : decode M_M_init.2.1 221 = .ok (.aload_n 0, 1) := by decide +kernel
theorem d_M_init_222 : decode M_M_init.2.1 222 = .ok (.bipush 6, 2) := by decide +kernel
theorem d_M_init_224 : decode M_M_init.2.1 224 = .ok (.newarray .int, 2) := by decide +kernel
theorem d_M_init_226 : decode M_M_init.2.1 226 = .ok (.putfield 96, 3) := by decide +kernel
theorem d_M_init_229 : decode M_M_init.2.1 229 = .ok (.aload_n 0, 1) := by decide +kernel
theorem d_M_init_230 : decode M_M_init.2.1 230 = .ok (.bipush 30, 2) := by decide +kernel
theorem d_M_init_232 : decode M_M_init.2.1 232 = .ok (.newarray .int, 2) := by decide +kernel
theorem d_M_init_234 : decode M_M_init.2.1 234 = .ok (.putfield 99, 3) := by decide +kernel
theorem d_M_init_237 : decode M_M_init.2.1 237 = .ok (.aload_n 0, 1) := by decide +kernel
theorem d_M_init_238 : decode M_M_init.2.1 238 = .ok (.bipush 6, 2) := by decide +kernel
theorem d_M_init_240 : decode M_M_init.2.1 240 = .ok (.newarray .boolean, 2) := by decide +kernel
theorem d_M_init_242 : decode M_M_init.2.1 242 = .ok (.putfield 102, 3) := by decide +kernel
theorem d_M_init_245 : decode M_M_init.2.1 245 = .ok (.aload_n 0, 1) := by decide +kernel
theorem d_M_init_246 : decode M_M_init.2.1 246 = .ok (.iconst 4, 1) := by decide +kernel
theorem d_M_init_247 : decode M_M_init.2.1 247 = .ok (.newarray .boolean, 2) := by decide +kernel
theorem d_M_init_249 : decode M_M_init.2.1 249 = .ok (.putfield 106, 3) := by decide +kernel
theorem d_M_init_252 : decode M_M_init.2.1 252 = .ok (.aload_n 0, 1) := by decide +kernel
theorem d_M_init_253 : decode M_M_init.2.1 253 = .ok (.iconst 4, 1) := by decide +kernel
theorem d_M_init_254 : decode M_M_init.2.1 254 = .ok (.newarray .boolean, 2) := by decide +kernel
theorem d_M_init_256 : decode M_M_init.2.1 256 = .ok (.putfield 109, 3) := by decide +kernel
theorem d_M_init_259 : decode M_M_init.2.1 259 = .ok (.aload_n 0, 1) := by decide +kernel
theorem d_M_init_260 : decode M_M_init.2.1 260 = .ok (.bipush 50, 2) := by decide +kernel
theorem d_M_init_262 : decode M_M_init.2.1 262 = .ok (.newarray .int, 2) := by decide +kernel
theorem d_M_init_264 : decode M_M_init.2.1 264 = .ok (.putfield 112, 3) := by decide +kernel
theorem d_M_init_267 : decode M_M_init.2.1 267 = .ok (.aload_n 0, 1) := by decide +kernel
theorem d_M_init_268 : decode M_M_init.2.1 268 = .ok (.bipush 50, 2) := by decide +kernel
theorem d_M_init_270 : decode M_M_init.2.1 270 = .ok (.newarray .int, 2) := by decide +kernel
theorem d_M_init_272 : decode M_M_init.2.1 272 = .ok (.putfield 115, 3) := by decide +kernel
theorem d_M_init_275 : decode M_M_init.2.1 275 = .ok (.aload_n 0, 1) := by decide +kernel
theorem d_M_init_276 : decode M_M_init.2.1 276 = .ok (.bipush 50, 2) := by decide +kernel
theorem d_M_init_278 : decode M_M_init.2.1 278 = .ok (.newarray .int, 2) := by decide +kernel
theorem d_M_init_280 : decode M_M_init.2.1 280 = .ok (.putfield 118, 3) := by decide +kernel
theorem d_M_init_283 : decode M_M_init.2.1 283 = .ok (.aload_n 0, 1) := by decide +kernel
theorem d_M_init_284 : decode M_M_init.2.1 284 = .ok (.iconst (-1), 1) := by decide +kernel
theorem d_M_init_285 : decode M_M_init.2.1 285 = .ok (.putfield 121, 3) := by decide +kernel
theorem d_M_init_288 : decode M_M_init.2.1 288 = .ok (.aload_n 0, 1) := by decide +kernel
theorem d_M_init_289 : decode M_M_init.2.1 289 = .ok (.bipush 80, 2) := by decide +kernel
theorem d_M_init_291 : decode M_M_init.2.1 291 = .ok (.newarray .int, 2) := by decide +kernel
theorem d_M_init_293 : decode M_M_init.2.1 293 = .ok (.putfield 125, 3) := by decide +kernel
theorem d_M_init_296 : decode M_M_init.2.1 296 = .ok (.aload_n 0, 1) := by decide +kernel
theorem d_M_init_297 : decode M_M_init.2.1 297 = .ok (.iconst 4, 1) := by decide +kernel
theorem d_M_init_298 : decode M_M_init.2.1 298 = .ok (.newarray .int, 2) := by decide +kernel
theorem d_M_init_300 : decode M_M_init.2.1 300 = .ok (.putfield 128, 3) := by decide +kernel
theorem d_M_init_303 : decode M_M_init.2.1 303 = .ok (.aload_n 0, 1) := by decide +kernel
theorem d_M_init_304 : decode M_M_init.2.1 304 = .ok (.iconst 4, 1) := by decide +kernel
theorem d_M_init_305 : decode M_M_init.2.1 305 = .ok (.newarray .int, 2) := by decide +kernel
theorem d_M_init_307 : decode M_M_init.2.1 307 = .ok (.putfield 131, 3) := by decide +kernel
theorem d_M_init_310 : decode M_M_init.2.1 310 = .ok (.aload_n 0, 1) := by decide +kernel
theorem d_M_init_311 : decode M_M_init.2.1 311 = .ok (.iconst 4, 1) := by decide +kernel
theorem d_M_init_312 : decode M_M_init.2.1 312 = .ok (.newarray .int, 2) := by decide +kernel
theorem d_M_init_314 : decode M_M_init.2.1 314 = .ok (.putfield 134, 3) := by decide +kernel
theorem d_M_init_317 : decode M_M_init.2.1 317 = .ok (.aload_n 0, 1) := by decide +kernel
theorem d_M_init_318 : decode M_M_init.2.1 318 = .ok (.iconst 4, 1) := by decide +kernel
theorem d_M_init_319 : decode M_M_init.2.1 319 = .ok (.newarray .int, 2) := by decide +kernel
theorem d_M_init_321 : decode M_M_init.2.1 321 = .ok (.putfield 137, 3) := by decide +kernel
theorem d_M_init_324 : decode M_M_init.2.1 324 = .ok (.aload_n 0, 1) := by decide +kernel
theorem d_M_init_325 : decode M_M_init.2.1 325 = .ok (.iconst 4, 1) := by decide +kernel
theorem d_M_init_326 : decode M_M_init.2.1 326 = .ok (.newarray .int, 2) := by decide +kernel
theorem d_M_init_328 : decode M_M_init.2.1 328 = .ok (.putfield 140, 3) := by decide +kernel
theorem d_M_init_331 : decode M_M_init.2.1 331 = .ok (.aload_n 0, 1) := by decide +kernel
theorem d_M_init_332 : decode M_M_init.2.1 332 = .ok (.iconst (-1), 1) := by decide +kernel
theorem d_M_init_333 : decode M_M_init.2.1 333 = .ok (.putfield 143, 3) := by decide +kernel
theorem d_M_init_336 : decode M_M_init.2.1 336 = .ok (.aload_n 0, 1) := by decide +kernel
theorem d_M_init_337 : decode M_M_init.2.1 337 = .ok (.iconst (-1), 1) := by decide +kernel
theorem d_M_init_338 : decode M_M_init.2.1 338 = .ok (.putfield 146, 3) := by decide +kernel
theorem d_M_init_341 : decode M_M_init.2.1 341 = .ok (.aload_n 0, 1) := by decide +kernel
theorem d_M_init_342 : decode M_M_init.2.1 342 = .ok (.iconst 2, 1) := by decide +kernel
theorem d_M_init_343 : decode M_M_init.2.1 343 = .ok (.newarray .int, 2) := by decide +kernel
theorem d_M_init_345 : decode M_M_init.2.1 345 = .ok (.putfield 149, 3) := by decide +kernel
theorem d_M_init_348 : decode M_M_init.2.1 348 = .ok (.aload_n 0, 1) := by decide +kernel
theorem d_M_init_349 : decode M_M_init.2.1 349 = .ok (.iconst 2, 1) := by decide +kernel
theorem d_M_init_350 : decode M_M_init.2.1 350 = .ok (.newarray .int, 2) := by decide +kernel
theorem d_M_init_352 : decode M_M_init.2.1 352 = .ok (.putfield 152, 3) := by decide +kernel
theorem d_M_init_355 : decode M_M_init.2.1 355 = .ok (.aload_n 0, 1) := by decide +kernel
theorem d_M_init_356 : decode M_M_init.2.1 356 = .ok (.sipush 900, 3) := by decide +kernel
theorem d_M_init_359 : decode M_M_init.2.1 359 = .ok (.newarray .int, 2) := by decide +kernel
theorem d_M_init_361 : decode M_M_init.2.1 361 = .ok (.putfield 155, 3) := by decide +kernel
theorem d_M_init_364 : decode M_M_init.2.1 364 = .ok (.aload_n 0, 1) := by decide +kernel
theorem d_M_init_365 : decode M_M_init.2.1 365 = .ok (.bipush 30, 2) := by decide +kernel
theorem d_M_init_367 : decode M_M_init.2.1 367 = .ok (.newarray .int, 2) := by decide +kernel
theorem d_M_init_369 : decode M_M_init.2.1 369 = .ok (.putfield 158, 3) := by decide +kernel
theorem d_M_init_372 : decode M_M_init.2.1 372 = .ok (.aload_n 0, 1) := by decide +kernel
theorem d_M_init_373 : decode M_M_init.2.1 373 = .ok (.iconst 3, 1) := by decide +kernel
theorem d_M_init_374 : decode M_M_init.2.1 374 = .ok (.newarray .int, 2) := by decide +kernel
theorem d_M_init_376 : decode M_M_init.2.1 376 = .ok (.putfield 161, 3) := by decide +kernel
theorem d_M_init_379 : decode M_M_init.2.1 379 = .ok (.aload_n 0, 1) := by decide +kernel
theorem d_M_init_380 : decode M_M_init.2.1 380 = .ok (.iconst 3, 1) := by decide +kernel
theorem d_M_init_381 : decode M_M_init.2.1 381 = .ok (.newarray .int, 2) := by decide +kernel
theorem d_M_init_383 : decode M_M_init.2.1 383 = .ok (.putfield 164, 3) := by decide +kernel
theorem d_M_init_386 : decode M_M_init.2.1 386 = .ok (.aload_n 0, 1) := by decide +kernel
theorem d_M_init_387 : decode M_M_init.2.1 387 = .ok (.sipush 210, 3) := by decide +kernel
theorem d_M_init_390 : decode M_M_init.2.1 390 = .ok (.newarray .int, 2) := by decide +kernel
theorem d_M_init_392 : decode M_M_init.2.1 392 = .ok (.putfield 167, 3) := by decide +kernel
theorem d_M_init_395 : decode M_M_init.2.1 395 = .ok (.aload_n 0, 1) := by decide +kernel
theorem d_M_init_396 : decode M_M_init.2.1 396 = .ok (.bipush 24, 2) := by decide +kernel
theorem d_M_init_398 : decode M_M_init.2.1 398 = .ok (.newarray .int, 2) := by decide +kernel
theorem d_M_init_400 : decode M_M_init.2.1 400 = .ok (.dup, 1) := by decide +kernel
theorem d_M_init_401 : decode M_M_init.2.1 401 = .ok (.iconst 0, 1) := by decide +kernel
theorem d_M_init_402 : decode M_M_init.2.1 402 = .ok (.bipush 101, 2) := by decide +kernel
theorem d_M_init_404 : decode M_M_init.2.1 404 = .ok (.iastore, 1) := by decide +kernel
theorem d_M_init_405 : decode M_M_init.2.1 405 = .ok (.dup, 1) := by decide +kernel
theorem d_M_init_406 : decode M_M_init.2.1 406 = .ok (.iconst 1, 1) := by decide +kernel
theorem d_M_init_407 : decode M_M_init.2.1 407 = .ok (.bipush 110, 2) := by decide +kernel
theorem d_M_init_409 : decode M_M_init.2.1 409 = .ok (.iastore, 1) := by decide +kernel
theorem d_M_init_410 : decode M_M_init.2.1 410 = .ok (.dup, 1) := by decide +kernel
theorem d_M_init_411 : decode M_M_init.2.1 411 = .ok (.iconst 2, 1) := by decide +kernel
theorem d_M_init_412 : decode M_M_init.2.1 412 = .ok (.bipush 100, 2) := by decide +kernel
theorem d_M_init_414 : decode M_M_init.2.1 414 = .ok (.iastore, 1) := by decide +kernel
theorem d_M_init_415 : decode M_M_init.2.1 415 = .ok (.dup, 1) := by decide +kernel
theorem d_M_init_416 : decode M_M_init.2.1 416 = .ok (.iconst 3, 1) := by decide +kernel
theorem d_M_init_417 : decode M_M_init.2.1 417 = .ok (.iconst 0, 1) := by decide +kernel
theorem d_M_init_418 : decode M_M_init.2.1 418 = .ok (.iastore, 1) := by decide +kernel
theorem d_M_init_419 : decode M_M_init.2.1 419 = .ok (.dup, 1) := by decide +kernel
theorem d_M_init_420 : decode M_M_init.2.1 420 = .ok (.iconst 4, 1) := by decide +kernel
theorem d_M_init_421 : decode M_M_init.2.1 421 = .ok (.iconst 0, 1) := by decide +kernel
theorem d_M_init_422 : decode M_M_init.2.1 422 = .ok (.iastore, 1) := by decide +kernel
theorem d_M_init_423 : decode M_M_init.2.1 423 = .ok (.dup, 1) := by decide +kernel
theorem d_M_init_424 : decode M_M_init.2.1 424 = .ok (.iconst 5, 1) := by decide +kernel
theorem d_M_init_425 : decode M_M_init.2.1 425 = .ok (.iconst 0, 1) := by decide +kernel
theorem d_M_init_426 : decode M_M_init.2.1 426 = .ok (.iastore, 1) := by decide +kernel
theorem d_M_init_427 : decode M_M_init.2.1 427 = .ok (.dup, 1) := by decide +kernel
theorem d_M_init_428 : decode M_M_init.2.1 428 = .ok (.bipush 6, 2) := by decide +kernel
theorem d_M_init_430 : decode M_M_init.2.1 430 = .ok (.bipush 97, 2) := by decide +kernel
theorem d_M_init_432 : decode M_M_init.2.1 432 = .ok (.iastore, 1) := by decide +kernel
theorem d_M_init_433 : decode M_M_init.2.1 433 = .ok (.dup, 1) := by decide +kernel
theorem d_M_init_434 : decode M_M_init.2.1 434 = .ok (.bipush 7, 2) := by decide +kernel
theorem d_M_init_436 : decode M_M_init.2.1 436 = .ok (.bipush 108, 2) := by decide +kernel
theorem d_M_init_438 : decode M_M_init.2.1 438 = .ok (.iastore, 1) := by decide +kernel
theorem d_M_init_439 : decode M_M_init.2.1 439 = .ok (.dup, 1) := by decide +kernel
theorem d_M_init_440 : decode M_M_init.2.1 440 = .ok (.bipush 8, 2) := by decide +kernel
theorem d_M_init_442 : decode M_M_init.2.1 442 = .ok (.bipush 119, 2) := by decide +kernel
theorem d_M_init_444 : decode M_M_init.2.1 444 = .ok (.iastore, 1) := by decide +kernel
theorem d_M_init_445 : decode M_M_init.2.1 445 = .ok (.dup, 1) := by decide +kernel
theorem d_M_init_446 : decode M_M_init.2.1 446 = .ok (.bipush 9, 2) := by decide +kernel
theorem d_M_init_448 : decode M_M_init.2.1 448 = .ok (.bipush 97, 2) := by decide +kernel
theorem d_M_init_450 : decode M_M_init.2.1 450 = .ok (.iastore, 1) := by decide +kernel
theorem d_M_init_451 : decode M_M_init.2.1 451 = .ok (.dup, 1) := by decide +kernel
theorem d_M_init_452 : decode M_M_init.2.1 452 = .ok (.bipush 10, 2) := by decide +kernel
theorem d_M_init_454 : decode M_M_init.2.1 454 = .ok (.bipush 121, 2) := by decide +kernel
theorem d_M_init_456 : decode M_M_init.2.1 456 = .ok (.iastore, 1) := by decide +kernel
theorem d_M_init_457 : decode M_M_init.2.1 457 = .ok (.dup, 1) := by decide +kernel
theorem d_M_init_458 : decode M_M_init.2.1 458 = .ok (.bipush 11, 2) := by decide +kernel
theorem d_M_init_460 : decode M_M_init.2.1 460 = .ok (.bipush 115, 2) := by decide +kernel
theorem d_M_init_462 : decode M_M_init.2.1 462 = .ok (.iastore, 1) := by decide +kernel
theorem d_M_init_463 : decode M_M_init.2.1 463 = .ok (.dup, 1) := by decide +kernel
theorem d_M_init_464 : decode M_M_init.2.1 464 = .ok (.bipush 12, 2) := by decide +kernel
theorem d_M_init_466 : decode M_M_init.2.1 466 = .ok (.bipush 110, 2) := by decide +kernel
theorem d_M_init_468 : decode M_M_init.2.1 468 = .ok (.iastore, 1) := by decide +kernel
theorem d_M_init_469 : decode M_M_init.2.1 469 = .ok (.dup, 1) := by decide +kernel
theorem d_M_init_470 : decode M_M_init.2.1 470 = .ok (.bipush 13, 2) := by decide +kernel
theorem d_M_init_472 : decode M_M_init.2.1 472 = .ok (.bipush 101, 2) := by decide +kernel
theorem d_M_init_474 : decode M_M_init.2.1 474 = .ok (.iastore, 1) := by decide +kernel
theorem d_M_init_475 : decode M_M_init.2.1 475 = .ok (.dup, 1) := by decide +kernel
theorem d_M_init_476 : decode M_M_init.2.1 476 = .ok (.bipush 14, 2) := by decide +kernel
theorem d_M_init_478 : decode M_M_init.2.1 478 = .ok (.bipush 118, 2) := by decide +kernel
theorem d_M_init_480 : decode M_M_init.2.1 480 = .ok (.iastore, 1) := by decide +kernel
theorem d_M_init_481 : decode M_M_init.2.1 481 = .ok (.dup, 1) := by decide +kernel
theorem d_M_init_482 : decode M_M_init.2.1 482 = .ok (.bipush 15, 2) := by decide +kernel
theorem d_M_init_484 : decode M_M_init.2.1 484 = .ok (.bipush 101, 2) := by decide +kernel
theorem d_M_init_486 : decode M_M_init.2.1 486 = .ok (.iastore, 1) := by decide +kernel
theorem d_M_init_487 : decode M_M_init.2.1 487 = .ok (.dup, 1) := by decide +kernel
theorem d_M_init_488 : decode M_M_init.2.1 488 = .ok (.bipush 16, 2) := by decide +kernel
theorem d_M_init_490 : decode M_M_init.2.1 490 = .ok (.bipush 114, 2) := by decide +kernel
theorem d_M_init_492 : decode M_M_init.2.1 492 = .ok (.iastore, 1) := by decide +kernel
theorem d_M_init_493 : decode M_M_init.2.1 493 = .ok (.dup, 1) := by decide +kernel
theorem d_M_init_494 : decode M_M_init.2.1 494 = .ok (.bipush 17, 2) := by decide +kernel
theorem d_M_init_496 : decode M_M_init.2.1 496 = .ok (.iconst 0, 1) := by decide +kernel
theorem d_M_init_497 : decode M_M_init.2.1 497 = .ok (.iastore, 1) := by decide +kernel
theorem d_M_init_498 : decode M_M_init.2.1 498 = .ok (.dup, 1) := by decide +kernel
theorem d_M_init_499 : decode M_M_init.2.1 499 = .ok (.bipush 18, 2) := by decide +kernel
theorem d_M_init_501 : decode M_M_init.2.1 501 = .ok (.bipush 111, 2) := by decide +kernel
theorem d_M_init_503 : decode M_M_init.2.1 503 = .ok (.iastore, 1) := by decide +kernel
theorem d_M_init_504 : decode M_M_init.2.1 504 = .ok (.dup, 1) := by decide +kernel
theorem d_M_init_505 : decode M_M_init.2.1 505 = .ok (.bipush 19, 2) := by decide +kernel
theorem d_M_init_507 : decode M_M_init.2.1 507 = .ok (.bipush 110, 2) := by decide +kernel
theorem d_M_init_509 : decode M_M_init.2.1 509 = .ok (.iastore, 1) := by decide +kernel
theorem d_M_init_510 : decode M_M_init.2.1 510 = .ok (.dup, 1) := by decide +kernel
theorem d_M_init_511 : decode M_M_init.2.1 511 = .ok (.bipush 20, 2) := by decide +kernel
theorem d_M_init_513 : decode M_M_init.2.1 513 = .ok (.bipush 99, 2) := by decide +kernel
theorem d_M_init_515 : decode M_M_init.2.1 515 = .ok (.iastore, 1) := by decide +kernel
theorem d_M_init_516 : decode M_M_init.2.1 516 = .ok (.dup, 1) := by decide +kernel
theorem d_M_init_517 : decode M_M_init.2.1 517 = .ok (.bipush 21, 2) := by decide +kernel
theorem d_M_init_519 : decode M_M_init.2.1 519 = .ok (.bipush 101, 2) := by decide +kernel
theorem d_M_init_521 : decode M_M_init.2.1 521 = .ok (.iastore, 1) := by decide +kernel
theorem d_M_init_522 : decode M_M_init.2.1 522 = .ok (.dup, 1) := by decide +kernel
theorem d_M_init_523 : decode M_M_init.2.1 523 = .ok (.bipush 22, 2) := by decide +kernel
theorem d_M_init_525 : decode M_M_init.2.1 525 = .ok (.iconst 0, 1) := by decide +kernel
theorem d_M_init_526 : decode M_M_init.2.1 526 = .ok (.iastore, 1) := by decide +kernel
theorem d_M_init_527 : decode M_M_init.2.1 527 = .ok (.dup, 1) := by decide +kernel
theorem d_M_init_528 : decode M_M_init.2.1 528 = .ok (.bipush 23, 2) := by decide +kernel
theorem d_M_init_530 : decode M_M_init.2.1 530 = .ok (.iconst 0, 1) := by decide +kernel
theorem d_M_init_531 : decode M_M_init.2.1 531 = .ok (.iastore, 1) := by decide +kernel
theorem d_M_init_532 : decode M_M_init.2.1 532 = .ok (.putfield 170, 3) := by decide +kernel
theorem d_M_init_535 : decode M_M_init.2.1 535 = .ok (.aload_n 0, 1) := by decide +kernel
theorem d_M_init_536 : decode M_M_init.2.1 536 = .ok (.iconst 4, 1) := by decide +kernel
theorem d_M_init_537 : decode M_M_init.2.1 537 = .ok (.newarray .int, 2) := by decide +kernel
theorem d_M_init_539 : decode M_M_init.2.1 539 = .ok (.putfield 173, 3) := by decide +kernel
theorem d_M_init_542 : decode M_M_init.2.1 542 = .ok (.aload_n 0, 1) := by decide +kernel
theorem d_M_init_543 : decode M_M_init.2.1 543 = .ok (.iconst 4, 1) := by decide +kernel
theorem d_M_init_544 : decode M_M_init.2.1 544 = .ok (.newarray .int, 2) := by decide +kernel
theorem d_M_init_546 : decode M_M_init.2.1 546 = .ok (.putfield 176, 3) := by decide +kernel
theorem d_M_init_549 : decode M_M_init.2.1 549 = .ok (.aload_n 0, 1) := by decide +kernel
theorem d_M_init_550 : decode M_M_init.2.1 550 = .ok (.iconst 4, 1) := by decide +kernel
theorem d_M_init_551 : decode M_M_init.2.1 551 = .ok (.newarray .int, 2) := by decide +kernel
theorem d_M_init_553 : decode M_M_init.2.1 553 = .ok (.putfield 179, 3) := by decide +kernel
theorem d_M_init_556 : decode M_M_init.2.1 556 = .ok (.aload_n 0, 1) := by decide +kernel
theorem d_M_init_557 : decode M_M_init.2.1 557 = .ok (.iconst 4, 1) := by decide +kernel
theorem d_M_init_558 : decode M_M_init.2.1 558 = .ok (.newarray .int, 2) := by decide +kernel
theorem d_M_init_560 : decode M_M_init.2.1 560 = .ok (.putfield 182, 3) := by decide +kernel
theorem d_M_init_563 : decode M_M_init.2.1 563 = .ok (.aload_n 0, 1) := by decide +kernel
theorem d_M_init_564 : decode M_M_init.2.1 564 = .ok (.iconst 4, 1) := by decide +kernel
theorem d_M_init_565 : decode M_M_init.2.1 565 = .ok (.newarray .int, 2) := by decide +kernel
theorem d_M_init_567 : decode M_M_init.2.1 567 = .ok (.putfield 185, 3) := by decide +kernel
theorem d_M_init_570 : decode M_M_init.2.1 570 = .ok (.aload_n 0, 1) := by decide +kernel
theorem d_M_init_571 : decode M_M_init.2.1 571 = .ok (.iconst 4, 1) := by decide +kernel
theorem d_M_init_572 : decode M_M_init.2.1 572 = .ok (.newarray .int, 2) := by decide +kernel
theorem d_M_init_574 : decode M_M_init.2.1 574 = .ok (.putfield 188, 3) := by decide +kernel
theorem d_M_init_577 : decode M_M_init.2.1 577 = .ok (.aload_n 0, 1) := by decide +kernel
theorem d_M_init_578 : decode M_M_init.2.1 578 = .ok (.iconst 4, 1) := by decide +kernel
theorem d_M_init_579 : decode M_M_init.2.1 579 = .ok (.newarray .boolean, 2) := by decide +kernel
theorem d_M_init_581 : decode M_M_init.2.1 581 = .ok (.putfield 191, 3) := by decide +kernel
theorem d_M_init_584 : decode M_M_init.2.1 584 = .ok (.aload_n 0, 1) := by decide +kernel
theorem d_M_init_585 : decode M_M_init.2.1 585 = .ok (.bipush 60, 2) := by decide +kernel
theorem d_M_init_587 : decode M_M_init.2.1 587 = .ok (.newarray .int, 2) := by decide +kernel
theorem d_M_init_589 : decode M_M_init.2.1 589 = .ok (.putfield 194, 3) := by decide +kernel
theorem d_M_init_592 : decode M_M_init.2.1 592 = .ok (.aload_n 0, 1) := by decide +kernel
theorem d_M_init_593 : decode M_M_init.2.1 593 = .ok (.sipush 300, 3) := by decide +kernel
theorem d_M_init_596 : decode M_M_init.2.1 596 = .ok (.newarray .int, 2) := by decide +kernel
theorem d_M_init_598 : decode M_M_init.2.1 598 = .ok (.putfield 197, 3) := by decide +kernel
theorem d_M_init_601 : decode M_M_init.2.1 601 = .ok (.aload_n 0, 1) := by decide +kernel
theorem d_M_init_602 : decode M_M_init.2.1 602 = .ok (.bipush 60, 2) := by decide +kernel
theorem d_M_init_604 : decode M_M_init.2.1 604 = .ok (.newarray .int, 2) := by decide +kernel
theorem d_M_init_606 : decode M_M_init.2.1 606 = .ok (.putfield 200, 3) := by decide +kernel
theorem d_M_init_609 : decode M_M_init.2.1 609 = .ok (.aload_n 0, 1) := by decide +kernel
theorem d_M_init_610 : decode M_M_init.2.1 610 = .ok (.bipush 60, 2) := by decide +kernel
theorem d_M_init_612 : decode M_M_init.2.1 612 = .ok (.newarray .int, 2) := by decide +kernel
theorem d_M_init_614 : decode M_M_init.2.1 614 = .ok (.putfield 203, 3) := by decide +kernel
theorem d_M_init_617 : decode M_M_init.2.1 617 = .ok (.aload_n 0, 1) := by decide +kernel
theorem d_M_init_618 : decode M_M_init.2.1 618 = .ok (.bipush 60, 2) := by decide +kernel
theorem d_M_init_620 : decode M_M_init.2.1 620 = .ok (.newarray .int, 2) := by decide +kernel
theorem d_M_init_622 : decode M_M_init.2.1 622 = .ok (.putfield 206, 3) := by decide +kernel
theorem d_M_init_625 : decode M_M_init.2.1 625 = .ok (.aload_n 0, 1) := by decide +kernel
theorem d_M_init_626 : decode M_M_init.2.1 626 = .ok (.bipush 12, 2) := by decide +kernel
theorem d_M_init_628 : decode M_M_init.2.1 628 = .ok (.newarray .int, 2) := by decide +kernel
theorem d_M_init_630 : decode M_M_init.2.1 630 = .ok (.putfield 209, 3) := by decide +kernel
theorem d_M_init_633 : decode M_M_init.2.1 633 = .ok (.aload_n 0, 1) := by decide +kernel
theorem d_M_init_634 : decode M_M_init.2.1 634 = .ok (.bipush 70, 2) := by decide +kernel
theorem d_M_init_636 : decode M_M_init.2.1 636 = .ok (.newarray .int, 2) := by decide +kernel
theorem d_M_init_638 : decode M_M_init.2.1 638 = .ok (.putfield 212, 3) := by decide +kernel
theorem d_M_init_641 : decode M_M_init.2.1 641 = .ok (.aload_n 0, 1) := by decide +kernel
theorem d_M_init_642 : decode M_M_init.2.1 642 = .ok (.iconst 4, 1) := by decide +kernel
theorem d_M_init_643 : decode M_M_init.2.1 643 = .ok (.iconst 4, 1) := by decide +kernel
theorem d_M_init_644 : decode M_M_init.2.1 644 = .ok (.invokevirtual 215, 3) := by decide +kernel
theorem d_M_init_647 : decode M_M_init.2.1 647 = .ok (.iconst 0, 1) := by decide +kernel
theorem d_M_init_648 : decode M_M_init.2.1 648 = .ok (.istore_n 1, 1) := by decide +kernel
theorem d_M_init_649 : decode M_M_init.2.1 649 = .ok (.iload_n 1, 1) := by decide +kernel
theorem d_M_init_650 : decode M_M_init.2.1 650 = .ok (.iconst 3, 1) := by decide +kernel
theorem d_M_init_651 : decode M_M_init.2.1 651 = .ok (.if_icmp .ge 16, 3) := by decide +kernel
theorem d_M_init_654 : decode M_M_init.2.1 654 = .ok (.aload_n 0, 1) := by decide +kernel
theorem d_M_init_655 : decode M_M_init.2.1 655 = .ok (.getfield 161, 3) := by decide +kernel
theorem d_M_init_658 : decode M_M_init.2.1 658 = .ok (.iload_n 1, 1) := by decide +kernel
theorem d_M_init_659 : decode M_M_init.2.1 659 = .ok (.iconst (-1), 1) := by decide +kernel
theorem d_M_init_660 : decode M_M_init.2.1 660 = .ok (.iastore, 1) := by decide +kernel
theorem d_M_init_661 : decode M_M_init.2.1 661 = .ok (.iinc 1 1, 3) := by decide +kernel
theorem d_M_init_664 : decode M_M_init.2.1 664 = .ok (.goto (-15), 3) := by decide +kernel
theorem d_M_init_667 : decode M_M_init.2.1 667 = .ok (.return_, 1) := by decide +kernel
theorem gp_M_9_12 : GP RX12 9 12 0 true (.array .int) := ⟨RX12, TX12, 82, RX12, tyX12, rfl, by decide, (lwg_at 1115 (by decide +kernel) rfl), rfl, gl_w inX12, tyX12_ok, nmX12, rfl, by decide +kernel, fun h => by first | rfl | cases h⟩
theorem gp_M_15_12 : GP RX12 15 12 1 true (.array .int) := ⟨RX12, TX12, 82, RX12, tyX12, rfl, by decide, (lwg_at 1116 (by decide +kernel) rfl), rfl, gl_w inX12, tyX12_ok, nmX12, rfl, by decide +kernel, fun h => by first | rfl | cases h⟩
theorem gp_M_18_12 : GP RX12 18 12 2 true (.array .int) := ⟨RX12, TX12, 82, RX12, tyX12, rfl, by decide, (lwg_at 1117 (by decide +kernel) rfl), rfl, gl_w inX12, tyX12_ok, nmX12, rfl, by decide +kernel, fun h => by first | rfl | cases h⟩
theorem gp_M_21_12 : GP RX12 21 12 3 true (.array .int) := ⟨RX12, TX12, 82, RX12, tyX12, rfl, by decide, (lwg_at 1118 (by decide +kernel) rfl), rfl, gl_w inX12, tyX12_ok, nmX12, rfl, by decide +kernel, fun h => by first | rfl | cases h⟩
theorem gp_M_24_12 : GP RX12 24 12 4 true (.array .int) := ⟨RX12, TX12, 82, RX12, tyX12, rfl, by decide, (lwg_at 1119 (by decide +kernel) rfl), rfl, gl_w inX12, tyX12_ok, nmX12, rfl, by decide +kernel, fun h => by first | rfl | cases h⟩
theorem gp_M_27_12 : GP RX12 27 12 5 true (.array .int) := ⟨RX12, TX12, 82, RX12, tyX12, rfl, by decide, (lwg_at 1120 (by decide +kernel) rfl), rfl, gl_w inX12, tyX12_ok, nmX12, rfl, by decide +kernel, fun h => by first | rfl | cases h⟩
theorem gp_M_30_12 : GP RX12 30 12 6 true (.array .int) := ⟨RX12, TX12, 82, RX12, tyX12, rfl, by decide, (lwg_at 1121 (by decide +kernel) rfl), rfl, gl_w inX12, tyX12_ok, nmX12, rfl, by decide +kernel, fun h => by first | rfl | cases h⟩
theorem gp_M_33_12 : GP RX12 33 12 9 true (.array .int) := ⟨RX12, TX12, 82, RX12, tyX12, rfl, by decide, (lwg_at 1124 (by decide +kernel) rfl), rfl, gl_w inX12, tyX12_ok, nmX12, rfl, by decide +kernel, fun h => by first | rfl | cases h⟩
theorem gp_M_36_12 : GP RX12 36 12 10 true (.array .int) := ⟨RX12, TX12, 82, RX12, tyX12, rfl, by decide, (lwg_at 1125 (by decide +kernel) rfl), rfl, gl_w inX12, tyX12_ok, nmX12, rfl, by decide +kernel, fun h => by first | rfl | cases h⟩
theorem gp_M_39_12 : GP RX12 39 12 11 true (.array .int) := ⟨RX12, TX12, 82, RX12, tyX12, rfl, by decide, (lwg_at 1126 (by decide +kernel) rfl), rfl, gl_w inX12, tyX12_ok, nmX12, rfl, by decide +kernel, fun h => by first | rfl | cases h⟩
theorem gp_M_42_12 : GP RX12 42 12 12 true (.array .int) := ⟨RX12, TX12, 82, RX12, tyX12, rfl, by decide, (lwg_at 1127 (by decide +kernel) rfl), rfl, gl_w inX12, tyX12_ok, nmX12, rfl, by decide +kernel, fun h => by first | rfl | cases h⟩
theorem gp_M_45_12 : GP RX12 45 12 13 true (.array .int) := ⟨RX12, TX12, 82, RX12, tyX12, rfl, by decide, (lwg_at 1128 (by decide +kernel) rfl), rfl, gl_w inX12, tyX12_ok, nmX12, rfl, by decide +kernel, fun h => by first | rfl | cases h⟩
theorem gp_M_48_12 : GP RX12 48 12 14 true (.array .int) := ⟨RX12, TX12, 82, RX12, tyX12, rfl, by decide, (lwg_at 1129 (by decide +kernel) rfl), rfl, gl_w inX12, tyX12_ok, nmX12, rfl, by decide +kernel, fun h => by first | rfl | cases h⟩
theorem gp_M_51_12 : GP RX12 51 12 16 true (.array .int) := ⟨RX12, TX12, 82, RX12, tyX12, rfl, by decide, (lwg_at 1131 (by decide +kernel) rfl), rfl, gl_w inX12, tyX12_ok, nmX12, rfl, by decide +kernel, fun h => by first | rfl | cases h⟩
theorem gp_M_54_12 : GP RX12 54 12 17 true (.array .int) := ⟨RX12, TX12, 82, RX12, tyX12, rfl, by decide, (lwg_at 1132 (by decide +kernel) rfl), rfl, gl_w inX12, tyX12_ok, nmX12, rfl, by decide +kernel, fun h => by first | rfl | cases h⟩
theorem gp_M_57_12 : GP RX12 57 12 18 true (.array .int) := ⟨RX12, TX12, 82, RX12, tyX12, rfl, by decide, (lwg_at 1133 (by decide +kernel) rfl), rfl, gl_w inX12, tyX12_ok, nmX12, rfl, by decide +kernel, fun h => by first | rfl | cases h⟩
theorem gp_M_60_12 : GP RX12 60 12 19 true (.array .int) := ⟨RX12, TX12, 82, RX12, tyX12, rfl, by decide, (lwg_at 1134 (by decide +kernel) rfl), rfl, gl_w inX12, tyX12_ok, nmX12, rfl, by decide +kernel, fun h => by first | rfl | cases h⟩
theorem gp_M_63_12 : GP RX12 63 12 20 true (.array .int) := ⟨RX12, TX12, 82, RX12, tyX12, rfl, by decide, (lwg_at 1135 (by decide +kernel) rfl), rfl, gl_w inX12, tyX12_ok, nmX12, rfl, by decide +kernel, fun h => by first | rfl | cases h⟩
theorem gp_M_66_12 : GP RX12 66 12 23 true (.array .int) := ⟨RX12, TX12, 82, RX12, tyX12, rfl, by decide, (lwg_at 1138 (by decide +kernel) rfl), rfl, gl_w inX12, tyX12_ok, nmX12, rfl, by decide +kernel, fun h => by first | rfl | cases h⟩
theorem gp_M_69_12 : GP RX12 69 12 24 true (.array .int) := ⟨RX12, TX12, 82, RX12, tyX12, rfl, by decide, (lwg_at 1139 (by decide +kernel) rfl), rfl, gl_w inX12, tyX12_ok, nmX12, rfl, by decide +kernel, fun h => by first | rfl | cases h⟩
theorem gp_M_72_12 : GP RX12 72 12 25 true (.array .int) := ⟨RX12, TX12, 82, RX12, tyX12, rfl, by decide, (lwg_at 1140 (by decide +kernel) rfl), rfl, gl_w inX12, tyX12_ok, nmX12, rfl, by decide +kernel, fun h => by first | rfl | cases h⟩
theorem gp_M_75_12 : GP RX12 75 12 26 true (.array .int) := ⟨RX12, TX12, 82, RX12, tyX12, rfl, by decide, (lwg_at 1141 (by decide +kernel) rfl), rfl, gl_w inX12, tyX12_ok, nmX12, rfl, by decide +kernel, fun h => by first | rfl | cases h⟩
theorem gp_M_78_12 : GP RX12 78 12 27 true (.array .int) := ⟨RX12, TX12, 82, RX12, tyX12, rfl, by decide, (lwg_at 1142 (by decide +kernel) rfl), rfl, gl_w inX12, tyX12_ok, nmX12, rfl, by decide +kernel, fun h => by first | rfl | cases h⟩
theorem gp_M_81_12 : GP RX12 81 12 28 true (.array .int) := ⟨RX12, TX12, 82, RX12, tyX12, rfl, by decide, (lwg_at 1143 (by decide +kernel) rfl), rfl, gl_w inX12, tyX12_ok, nmX12, rfl, by decide +kernel, fun h => by first | rfl | cases h⟩
theorem gp_M_84_12 : GP RX12 84 12 29 true (.array .int) := ⟨RX12, TX12, 82, RX12, tyX12, rfl, by decide, (lwg_at 1144 (by decide +kernel) rfl), rfl, gl_w inX12, tyX12_ok, nmX12, rfl, by decide +kernel, fun h => by first | rfl | cases h⟩
theorem gp_M_87_12 : GP RX12 87 12 30 true (.array .int) := ⟨RX12, TX12, 82, RX12, tyX12, rfl, by decide, (lwg_at 1145 (by decide +kernel) rfl), rfl, gl_w inX12, tyX12_ok, nmX12, rfl, by decide +kernel, fun h => by first | rfl | cases h⟩
theorem gp_M_90_12 : GP RX12 90 12 31 true (.array .int) := ⟨RX12, TX12, 82, RX12, tyX12, rfl, by decide, (lwg_at 1146 (by decide +kernel) rfl), rfl, gl_w inX12, tyX12_ok, nmX12, rfl, by decide +kernel, fun h => by first | rfl | cases h⟩
theorem gp_M_93_12 : GP RX12 93 12 32 true (.array .int) := ⟨RX12, TX12, 82, RX12, tyX12, rfl, by decide, (lwg_at 1147 (by decide +kernel) rfl), rfl, gl_w inX12, tyX12_ok, nmX12, rfl, by decide +kernel, fun h => by first | rfl | cases h⟩
theorem gp_M_96_12 : GP RX12 96 12 33 true (.array .int) := ⟨RX12, TX12, 82, RX12, tyX12, rfl, by decide, (lwg_at 1148 (by decide +kernel) rfl), rfl, gl_w inX12, tyX12_ok, nmX12, rfl, by decide +kernel, fun h => by first | rfl | cases h⟩
theorem gp_M_99_12 : GP RX12 99 12 34 true (.array .int) := ⟨RX12, TX12, 82, RX12, tyX12, rfl, by decide, (lwg_at 1149 (by decide +kernel) rfl), rfl, gl_w inX12, tyX12_ok, nmX12, rfl, by decide +kernel, fun h => by first | rfl | cases h⟩
theorem gp_M_102_12 : GP RX12 102 12 35 true (.array .boolean) := ⟨RX12, TX12, 82, RX12, tyX12, rfl, by decide, (lwg_at 1150 (by decide +kernel) rfl), rfl, gl_w inX12, tyX12_ok, nmX12, rfl, by decide +kernel, fun h => by first | rfl | cases h⟩
theorem gp_M_106_12 : GP RX12 106 12 36 true (.array .boolean) := ⟨RX12, TX12, 82, RX12, tyX12, rfl, by decide, (lwg_at 1151 (by decide +kernel) rfl), rfl, gl_w inX12, tyX12_ok, nmX12, rfl, by decide +kernel, fun h => by first | rfl | cases h⟩
theorem gp_M_109_12 : GP RX12 109 12 37 true (.array .boolean) := ⟨RX12, TX12, 82, RX12, tyX12, rfl, by decide, (lwg_at 1152 (by decide +kernel) rfl), rfl, gl_w inX12, tyX12_ok, nmX12, rfl, by decide +kernel, fun h => by first | rfl | cases h⟩
theorem gp_M_112_12 : GP RX12 112 12 39 true (.array .int) := ⟨RX12, TX12, 82, RX12, tyX12, rfl, by decide, (lwg_at 1154 (by decide +kernel) rfl), rfl, gl_w inX12, tyX12_ok, nmX12, rfl, by decide +kernel, fun h => by first | rfl | cases h⟩
theorem gp_M_115_12 : GP RX12 115 12 40 true (.array .int) := ⟨RX12, TX12, 82, RX12, tyX12, rfl, by decide, (lwg_at 1155 (by decide +kernel) rfl), rfl, gl_w inX12, tyX12_ok, nmX12, rfl, by decide +kernel, fun h => by first | rfl | cases h⟩
theorem gp_M_118_12 : GP RX12 118 12 41 true (.array .int) := ⟨RX12, TX12, 82, RX12, tyX12, rfl, by decide, (lwg_at 1156 (by decide +kernel) rfl), rfl, gl_w inX12, tyX12_ok, nmX12, rfl, by decide +kernel, fun h => by first | rfl | cases h⟩
theorem gp_M_125_12 : GP RX12 125 12 43 true (.array .int) := ⟨RX12, TX12, 82, RX12, tyX12, rfl, by decide, (lwg_at 1158 (by decide +kernel) rfl), rfl, gl_w inX12, tyX12_ok, nmX12, rfl, by decide +kernel, fun h => by first | rfl | cases h⟩
theorem gp_M_128_12 : GP RX12 128 12 46 true (.array .int) := ⟨RX12, TX12, 82, RX12, tyX12, rfl, by decide, (lwg_at 1161 (by decide +kernel) rfl), rfl, gl_w inX12, tyX12_ok, nmX12, rfl, by decide +kernel, fun h => by first | rfl | cases h⟩
theorem gp_M_131_12 : GP RX12 131 12 47 true (.array .int) := ⟨RX12, TX12, 82, RX12, tyX12, rfl, by decide, (lwg_at 1162 (by decide +kernel) rfl), rfl, gl_w inX12, tyX12_ok, nmX12, rfl, by decide +kernel, fun h => by first | rfl | cases h⟩
theorem gp_M_134_12 : GP RX12 134 12 48 true (.array .int) := ⟨RX12, TX12, 82, RX12, tyX12, rfl, by decide, (lwg_at 1163 (by decide +kernel) rfl), rfl, gl_w inX12, tyX12_ok, nmX12, rfl, by decide +kernel, fun h => by first | rfl | cases h⟩
theorem gp_M_137_12 : GP RX12 137 12 49 true (.array .int) := ⟨RX12, TX12, 82, RX12, tyX12, rfl, by decide, (lwg_at 1164 (by decide +kernel) rfl), rfl, gl_w inX12, tyX12_ok, nmX12, rfl, by decide +kernel, fun h => by first | rfl | cases h⟩
theorem gp_M_140_12 : GP RX12 140 12 50 true (.array .int) := ⟨RX12, TX12, 82, RX12, tyX12, rfl, by decide, (lwg_at 1165 (by decide +kernel) rfl), rfl, gl_w inX12, tyX12_ok, nmX12, rfl, by decide +kernel, fun h => by first | rfl | cases h⟩
theorem gp_M_149_12 : GP RX12 149 12 55 true (.array .int) := ⟨RX12, TX12, 82, RX12, tyX12, rfl, by decide, (lwg_at 1170 (by decide +kernel) rfl), rfl, gl_w inX12, tyX12_ok, nmX12, rfl, by decide +kernel, fun h => by first | rfl | cases h⟩
theorem gp_M_152_12 : GP RX12 152 12 56 true (.array .int) := ⟨RX12, TX12, 82, RX12, tyX12, rfl, by decide, (lwg_at 1171 (by decide +kernel) rfl), rfl, gl_w inX12, tyX12_ok, nmX12, rfl, by decide +kernel, fun h => by first | rfl | cases h⟩
theorem gp_M_155_12 : GP RX12 155 12 57 true (.array .int) := ⟨RX12, TX12, 82, RX12, tyX12, rfl, by decide, (lwg_at 1172 (by decide +kernel) rfl), rfl, gl_w inX12, tyX12_ok, nmX12, rfl, by decide +kernel, fun h => by first | rfl | cases h⟩
theorem gp_M_158_12 : GP RX12 158 12 60 true (.array .int) := ⟨RX12, TX12, 82, RX12, tyX12, rfl, by decide, (lwg_at 1175 (by decide +kernel) rfl), rfl, gl_w inX12, tyX12_ok, nmX12, rfl, by decide +kernel, fun h => by first | rfl | cases h⟩
theorem gp_M_161_12 : GP RX12 161 12 61 true (.array .int) := ⟨RX12, TX12, 82, RX12, tyX12, rfl, by decide, (lwg_at 1176 (by decide +kernel) rfl), rfl, gl_w inX12, tyX12_ok, nmX12, rfl, by decide +kernel, fun h => by first | rfl | cases h⟩
theorem gp_M_164_12 : GP RX12 164 12 62 true (.array .int) := ⟨RX12, TX12, 82, RX12, tyX12, rfl, by decide, (lwg_at 1177 (by decide +kernel) rfl), rfl, gl_w inX12, tyX12_ok, nmX12, rfl, by decide +kernel, fun h => by first | rfl | cases h⟩
theorem gp_M_167_12 : GP RX12 167 12 63 true (.array .int) := ⟨RX12, TX12, 82, RX12, tyX12, rfl, by decide, (lwg_at 1178 (by decide +kernel) rfl), rfl, gl_w inX12, tyX12_ok, nmX12, rfl, by decide +kernel, fun h => by first | rfl | cases h⟩
theorem gp_M_170_12 : GP RX12 170 12 67 true (.array .int) := ⟨RX12, TX12, 82, RX12, tyX12, rfl, by decide, (lwg_at 1182 (by decide +kernel) rfl), rfl, gl_w inX12, tyX12_ok, nmX12, rfl, by decide +kernel, fun h => by first | rfl | cases h⟩
theorem gp_M_173_12 : GP RX12 173 12 68 true (.array .int) := ⟨RX12, TX12, 82, RX12, tyX12, rfl, by decide, (lwg_at 1183 (by decide +kernel) rfl), rfl, gl_w inX12, tyX12_ok, nmX12, rfl, by decide +kernel, fun h => by first | rfl | cases h⟩
theorem gp_M_176_12 : GP RX12 176 12 69 true (.array .int) := ⟨RX12, TX12, 82, RX12, tyX12, rfl, by decide, (lwg_at 1184 (by decide +kernel) rfl), rfl, gl_w inX12, tyX12_ok, nmX12, rfl, by decide +kernel, fun h => by first | rfl | cases h⟩
theorem gp_M_179_12 : GP RX12 179 12 70 true (.array .int) := ⟨RX12, TX12, 82, RX12, tyX12, rfl, by decide, (lwg_at 1185 (by decide +kernel) rfl), rfl, gl_w inX12, tyX12_ok, nmX12, rfl, by decide +kernel, fun h => by first | rfl | cases h⟩
theorem gp_M_182_12 : GP RX12 182 12 71 true (.array .int) := ⟨RX12, TX12, 82, RX12, tyX12, rfl, by decide, (lwg_at 1186 (by decide +kernel) rfl), rfl, gl_w inX12, tyX12_ok, nmX12, rfl, by decide +kernel, fun h => by first | rfl | cases h⟩
theorem gp_M_185_12 : GP RX12 185 12 72 true (.array .int) := ⟨RX12, TX12, 82, RX12, tyX12, rfl, by decide, (lwg_at 1187 (by decide +kernel) rfl), rfl, gl_w inX12, tyX12_ok, nmX12, rfl, by decide +kernel, fun h => by first | rfl | cases h⟩
theorem gp_M_188_12 : GP RX12 188 12 73 true (.array .int) := ⟨RX12, TX12, 82, RX12, tyX12, rfl, by decide, (lwg_at 1188 (by decide +kernel) rfl), rfl, gl_w inX12, tyX12_ok, nmX12, rfl, by decide +kernel, fun h => by first | rfl | cases h⟩
theorem gp_M_191_12 : GP RX12 191 12 74 true (.array .boolean) := ⟨RX12, TX12, 82, RX12, tyX12, rfl, by decide, (lwg_at 1189 (by decide +kernel) rfl), rfl, gl_w inX12, tyX12_ok, nmX12, rfl, by decide +kernel, fun h => by first | rfl | cases h⟩
theorem gp_M_194_12 : GP RX12 194 12 75 true (.array .int) := ⟨RX12, TX12, 82, RX12, tyX12, rfl, by decide, (lwg_at 1190 (by decide +kernel) rfl), rfl, gl_w inX12, tyX12_ok, nmX12, rfl, by decide +kernel, fun h => by first | rfl | cases h⟩
theorem gp_M_197_12 : GP RX12 197 12 76 true (.array .int) := ⟨RX12, TX12, 82, RX12, tyX12, rfl, by decide, (lwg_at 1191 (by decide +kernel) rfl), rfl, gl_w inX12, tyX12_ok, nmX12, rfl, by decide +kernel, fun h => by first | rfl | cases h⟩
theorem gp_M_200_12 : GP RX12 200 12 77 true (.array .int) := ⟨RX12, TX12, 82, RX12, tyX12, rfl, by decide, (lwg_at 1192 (by decide +kernel) rfl), rfl, gl_w inX12, tyX12_ok, nmX12, rfl, by decide +kernel, fun h => by first | rfl | cases h⟩
theorem gp_M_203_12 : GP RX12 203 12 78 true (.array .int) := ⟨RX12, TX12, 82, RX12, tyX12, rfl, by decide, (lwg_at 1193 (by decide +kernel) rfl), rfl, gl_w inX12, tyX12_ok, nmX12, rfl, by decide +kernel, fun h => by first | rfl | cases h⟩
theorem gp_M_206_12 : GP RX12 206 12 79 true (.array .int) := ⟨RX12, TX12, 82, RX12, tyX12, rfl, by decide, (lwg_at 1194 (by decide +kernel) rfl), rfl, gl_w inX12, tyX12_ok, nmX12, rfl, by decide +kernel, fun h => by first | rfl | cases h⟩
theorem gp_M_209_12 : GP RX12 209 12 80 true (.array .int) := ⟨RX12, TX12, 82, RX12, tyX12, rfl, by decide, (lwg_at 1195 (by decide +kernel) rfl), rfl, gl_w inX12, tyX12_ok, nmX12, rfl, by decide +kernel, fun h => by first | rfl | cases h⟩
theorem gp_M_212_12 : GP RX12 212 12 81 true (.array .int) := ⟨RX12, TX12, 82, RX12, tyX12, rfl, by decide, (lwg_at 1196 (by decide +kernel) rfl), rfl, gl_w inX12, tyX12_ok, nmX12, rfl, by decide +kernel, fun h => by first | rfl | cases h⟩
def F_M_init (δ : Dl) : Option Dl := (F_M_clears 4 4 (aD (aD (aD (aD (aD (aD (aD (aD (aD (aD (aD (aD (aD (aD (sA (sA (sA (sA (sA (sA (sA (sA (sA (sA (sA (sA (sA (sA (sA (sA (sA (sA (sA (sA (sA (sA (sA (sA (aD (aD (aD (aD (aD (aD (aD (aD (sI (sI (aD (aD (aD (aD (aD (aD (sI (aD (aD (aD (aD (aD (aD (aD (aD (aD (aD (aD (aD (aD (aD (aD (aD (aD (aD (aD (aD (aD (aD (aD (aD (aD (aD (aD (aD (aD (aD (aD (aD (aD (aD (aD (aD δ 110 23) 111 23) 112 23) 113 23) 114 23) 115 23) 116 23) 119 23) 120 23) 121 23) 122 23) 123 23) 124 23) 126 23) 127 23) 128 23) 129 23) 130 23) 133 23) 134 23) 135 23) 136 23) 137 23) 138 23) 139 23) 140 23) 141 23) 142 23) 143 23) 144 23) 145 23) 146 23) 147 23) 149 23) 150 23) 151 23) 152 23 (-1)) 153 23) 156 23) 157 23) 158 23) 159 23) 160 23) 162 23 (-1)) 163 23 (-1)) 165 23) 166 23) 167 23) 170 23) 171 23) 172 23) 173 23) 177 23) 177 23 0 101) 177 23 1 110) 177 23 2 100) 177 23 3 0) 177 23 4 0) 177 23 5 0) 177 23 6 97) 177 23 7 108) 177 23 8 119) 177 23 9 97) 177 23 10 121) 177 23 11 115) 177 23 12 110) 177 23 13 101) 177 23 14 118) 177 23 15 101) 177 23 16 114) 177 23 17 0) 177 23 18 111) 177 23 19 110) 177 23 20 99) 177 23 21 101) 177 23 22 0) 177 23 23 0) 178 23) 179 23) 180 23) 181 23) 182 23) 183 23) 184 23) 185 23) 186 23) 187 23) 188 23) 189 23) 190 23) 191 23)).bind fun δ1 => some (sA (sA (sA δ1 171 23 0 (-1)) 171 23 1 (-1)) 171 23 2 (-1))
set_option maxRecDepth 40000 in
set_option maxHeartbeats 4000000 in
theorem c_M_init {l : Launch} {Γ : Gm} (hO : Mk Γ 23 12) (δ : Dl) (hR : R1 δ) (r : Dl) (h : F_M_init δ = some r) : Ct l M_M_init 1 64 2988 NC [.inr (0, 23)] Γ δ (none, gU Γ 23 (191 :: 190 :: 189 :: 188 :: 187 :: 186 :: 185 :: 184 :: 183 :: 182 :: 181 :: 180 :: 179 :: 178 :: 177 :: 173 :: 172 :: 171 :: 170 :: 167 :: 166 :: 165 :: 160 :: 159 :: 158 :: 157 :: 156 :: 153 :: 151 :: 150 :: 149 :: 147 :: 146 :: 145 :: 144 :: 143 :: 142 :: 141 :: 140 :: 139 :: 138 :: 137 :: 136 :: 135 :: 134 :: 133 :: 130 :: 129 :: 128 :: 127 :: 126 :: 124 :: 123 :: 122 :: 121 :: 120 :: 119 :: 116 :: 115 :: 114 :: 113 :: 112 :: 111 :: 110 :: []), r) := by
  obtain ⟨δ1, e, h⟩ := Option.bind_eq_some_iff.mp h
  cases h
  refine Ct.of2 (n := 1) (ls := [some (.inr (0, 23)), none]) rfl (by decide +kernel) (Nat.le_of_ble_eq_true rfl) ?_
  refine Xe.cΓ (gU_nil (a := 23)).symm ?_
  refine x_aload_n (i := 0) d_M_init_0 rfl rfl ?_
  refine x_oinit (lwg_at 1110 (by decide +kernel) rfl) (lwg_at 27 (by decide +kernel) rfl) (lwg_at 28 (by decide +kernel) rfl) (by decide) (by decide) d_M_init_1 ?_
  refine x_aload_n (i := 0) d_M_init_4 rfl rfl ?_
  refine x_ic (v := 5) d_M_init_5 (by decide) ?_
  refine x_nw (f := 110) (b := 23) (w := 5) (Or.inl ⟨by decide, rfl⟩) (by decide) (by rfl) (by decide) (by decide) ((gU_ne rfl).trans (hO.a (j := 0) rfl (by decide) rfl (by decide) : Γ 110 23 = 0)) hR ⟨by decide, fun e => absurd e.1 (by decide)⟩ (by decide) (un_r (fun e => absurd e.1 (by simp)) (un_n un_nil)) (us_r (fun e => absurd e.1 (by simp)) us_nil) (lwg_at 54 (by decide +kernel) rfl) (by decide) (by decide) d_M_init_6 ?_
  have hR := R1.aD (f := 110) (a := 23) hR
  refine x_pA gp_M_9_12 rfl (by decide) rfl hO.1 hO.z rfl d_M_init_8 ?_
  refine x_aload_n (i := 0) d_M_init_11 rfl rfl ?_
  refine x_ic (v := 5) d_M_init_12 (by decide) ?_
  refine x_nw (f := 111) (b := 23) (w := 5) (Or.inl ⟨by decide, rfl⟩) (by decide) (by rfl) (by decide) (by decide) ((gU_ne rfl).trans (hO.a (j := 1) rfl (by decide) rfl (by decide) : Γ 111 23 = 0)) hR ⟨by decide, fun e => absurd e.1 (by decide)⟩ (by decide) (un_r (fun e => absurd e.1 (by simp)) (un_n un_nil)) (us_r (fun e => absurd e.1 (by simp)) us_nil) (lwg_at 54 (by decide +kernel) rfl) (by decide) (by decide) d_M_init_13 ?_
  have hR := R1.aD (f := 111) (a := 23) hR
  refine x_pA gp_M_15_12 rfl (by decide) rfl hO.1 hO.z rfl d_M_init_15 ?_
  refine x_aload_n (i := 0) d_M_init_18 rfl rfl ?_
  refine x_si (v := 320) d_M_init_19 (by decide) ?_
  refine x_nw (f := 112) (b := 23) (w := 320) (Or.inl ⟨by decide, rfl⟩) (by decide) (by rfl) (by decide) (by decide) ((gU_ne rfl).trans (hO.a (j := 2) rfl (by decide) rfl (by decide) : Γ 112 23 = 0)) hR ⟨by decide, fun e => absurd e.1 (by decide)⟩ (by decide) (un_r (fun e => absurd e.1 (by simp)) (un_n un_nil)) (us_r (fun e => absurd e.1 (by simp)) us_nil) (lwg_at 54 (by decide +kernel) rfl) (by decide) (by decide) d_M_init_22 ?_
  have hR := R1.aD (f := 112) (a := 23) hR
  refine x_pA gp_M_18_12 rfl (by decide) rfl hO.1 hO.z rfl d_M_init_24 ?_
  refine x_aload_n (i := 0) d_M_init_27 rfl rfl ?_
  refine x_ic (v := 5) d_M_init_28 (by decide) ?_
  refine x_nw (f := 113) (b := 23) (w := 5) (Or.inl ⟨by decide, rfl⟩) (by decide) (by rfl) (by decide) (by decide) ((gU_ne rfl).trans (hO.a (j := 3) rfl (by decide) rfl (by decide) : Γ 113 23 = 0)) hR ⟨by decide, fun e => absurd e.1 (by decide)⟩ (by decide) (un_r (fun e => absurd e.1 (by simp)) (un_n un_nil)) (us_r (fun e => absurd e.1 (by simp)) us_nil) (lwg_at 54 (by decide +kernel) rfl) (by decide) (by decide) d_M_init_29 ?_
  have hR := R1.aD (f := 113) (a := 23) hR
  refine x_pA gp_M_21_12 rfl (by decide) rfl hO.1 hO.z rfl d_M_init_31 ?_
  refine x_aload_n (i := 0) d_M_init_34 rfl rfl ?_
  refine x_bi (v := 15) d_M_init_35 (by decide) ?_
  refine x_nw (f := 114) (b := 23) (w := 15) (Or.inl ⟨by decide, rfl⟩) (by decide) (by rfl) (by decide) (by decide) ((gU_ne rfl).trans (hO.a (j := 4) rfl (by decide) rfl (by decide) : Γ 114 23 = 0)) hR ⟨by decide, fun e => absurd e.1 (by decide)⟩ (by decide) (un_r (fun e => absurd e.1 (by simp)) (un_n un_nil)) (us_r (fun e => absurd e.1 (by simp)) us_nil) (lwg_at 54 (by decide +kernel) rfl) (by decide) (by decide) d_M_init_37 ?_
  have hR := R1.aD (f := 114) (a := 23) hR
  refine x_pA gp_M_24_12 rfl (by decide) rfl hO.1 hO.z rfl d_M_init_39 ?_
  refine x_aload_n (i := 0) d_M_init_42 rfl rfl ?_
  refine x_bi (v := 15) d_M_init_43 (by decide) ?_
  refine x_nw (f := 115) (b := 23) (w := 15) (Or.inl ⟨by decide, rfl⟩) (by decide) (by rfl) (by decide) (by decide) ((gU_ne rfl).trans (hO.a (j := 5) rfl (by decide) rfl (by decide) : Γ 115 23 = 0)) hR ⟨by decide, fun e => absurd e.1 (by decide)⟩ (by decide) (un_r (fun e => absurd e.1 (by simp)) (un_n un_nil)) (us_r (fun e => absurd e.1 (by simp)) us_nil) (lwg_at 54 (by decide +kernel) rfl) (by decide) (by decide) d_M_init_45 ?_
  have hR := R1.aD (f := 115) (a := 23) hR
  refine x_pA gp_M_27_12 rfl (by decide) rfl hO.1 hO.z rfl d_M_init_47 ?_
  refine x_aload_n (i := 0) d_M_init_50 rfl rfl ?_
  refine x_bi (v := 15) d_M_init_51 (by decide) ?_
  refine x_nw (f := 116) (b := 23) (w := 15) (Or.inl ⟨by decide, rfl⟩) (by decide) (by rfl) (by decide) (by decide) ((gU_ne rfl).trans (hO.a (j := 6) rfl (by decide) rfl (by decide) : Γ 116 23 = 0)) hR ⟨by decide, fun e => absurd e.1 (by decide)⟩ (by decide) (un_r (fun e => absurd e.1 (by simp)) (un_n un_nil)) (us_r (fun e => absurd e.1 (by simp)) us_nil) (lwg_at 54 (by decide +kernel) rfl) (by decide) (by decide) d_M_init_53 ?_
  have hR := R1.aD (f := 116) (a := 23) hR
  refine x_pA gp_M_30_12 rfl (by decide) rfl hO.1 hO.z rfl d_M_init_55 ?_
  refine x_aload_n (i := 0) d_M_init_58 rfl rfl ?_
  refine x_bi (v := 30) d_M_init_59 (by decide) ?_
  refine x_nw (f := 119) (b := 23) (w := 30) (Or.inl ⟨by decide, rfl⟩) (by decide) (by rfl) (by decide) (by decide) ((gU_ne rfl).trans (hO.a (j := 9) rfl (by decide) rfl (by decide) : Γ 119 23 = 0)) hR ⟨by decide, fun e => absurd e.1 (by decide)⟩ (by decide) (un_r (fun e => absurd e.1 (by simp)) (un_n un_nil)) (us_r (fun e => absurd e.1 (by simp)) us_nil) (lwg_at 54 (by decide +kernel) rfl) (by decide) (by decide) d_M_init_61 ?_
  have hR := R1.aD (f := 119) (a := 23) hR
  refine x_pA gp_M_33_12 rfl (by decide) rfl hO.1 hO.z rfl d_M_init_63 ?_
  refine x_aload_n (i := 0) d_M_init_66 rfl rfl ?_
  refine x_bi (v := 30) d_M_init_67 (by decide) ?_
  refine x_nw (f := 120) (b := 23) (w := 30) (Or.inl ⟨by decide, rfl⟩) (by decide) (by rfl) (by decide) (by decide) ((gU_ne rfl).trans (hO.a (j := 10) rfl (by decide) rfl (by decide) : Γ 120 23 = 0)) hR ⟨by decide, fun e => absurd e.1 (by decide)⟩ (by decide) (un_r (fun e => absurd e.1 (by simp)) (un_n un_nil)) (us_r (fun e => absurd e.1 (by simp)) us_nil) (lwg_at 54 (by decide +kernel) rfl) (by decide) (by decide) d_M_init_69 ?_
  have hR := R1.aD (f := 120) (a := 23) hR
  refine x_pA gp_M_36_12 rfl (by decide) rfl hO.1 hO.z rfl d_M_init_71 ?_
  refine x_aload_n (i := 0) d_M_init_74 rfl rfl ?_
  refine x_si (v := 150) d_M_init_75 (by decide) ?_
  refine x_nw (f := 121) (b := 23) (w := 150) (Or.inl ⟨by decide, rfl⟩) (by decide) (by rfl) (by decide) (by decide) ((gU_ne rfl).trans (hO.a (j := 11) rfl (by decide) rfl (by decide) : Γ 121 23 = 0)) hR ⟨by decide, fun e => absurd e.1 (by decide)⟩ (by decide) (un_r (fun e => absurd e.1 (by simp)) (un_n un_nil)) (us_r (fun e => absurd e.1 (by simp)) us_nil) (lwg_at 54 (by decide +kernel) rfl) (by decide) (by decide) d_M_init_78 ?_
  have hR := R1.aD (f := 121) (a := 23) hR
  refine x_pA gp_M_39_12 rfl (by decide) rfl hO.1 hO.z rfl d_M_init_80 ?_
  refine x_aload_n (i := 0) d_M_init_83 rfl rfl ?_
  refine x_bi (v := 30) d_M_init_84 (by decide) ?_
  refine x_nw (f := 122) (b := 23) (w := 30) (Or.inl ⟨by decide, rfl⟩) (by decide) (by rfl) (by decide) (by decide) ((gU_ne rfl).trans (hO.a (j := 12) rfl (by decide) rfl (by decide) : Γ 122 23 = 0)) hR ⟨by decide, fun e => absurd e.1 (by decide)⟩ (by decide) (un_r (fun e => absurd e.1 (by simp)) (un_n un_nil)) (us_r (fun e => absurd e.1 (by simp)) us_nil) (lwg_at 54 (by decide +kernel) rfl) (by decide) (by decide) d_M_init_86 ?_
  have hR := R1.aD (f := 122) (a := 23) hR
  refine x_pA gp_M_42_12 rfl (by decide) rfl hO.1 hO.z rfl d_M_init_88 ?_
  refine x_aload_n (i := 0) d_M_init_91 rfl rfl ?_
  refine x_bi (v := 30) d_M_init_92 (by decide) ?_
  refine x_nw (f := 123) (b := 23) (w := 30) (Or.inl ⟨by decide, rfl⟩) (by decide) (by rfl) (by decide) (by decide) ((gU_ne rfl).trans (hO.a (j := 13) rfl (by decide) rfl (by decide) : Γ 123 23 = 0)) hR ⟨by decide, fun e => absurd e.1 (by decide)⟩ (by decide) (un_r (fun e => absurd e.1 (by simp)) (un_n un_nil)) (us_r (fun e => absurd e.1 (by simp)) us_nil) (lwg_at 54 (by decide +kernel) rfl) (by decide) (by decide) d_M_init_94 ?_
  have hR := R1.aD (f := 123) (a := 23) hR
  refine x_pA gp_M_45_12 rfl (by decide) rfl hO.1 hO.z rfl d_M_init_96 ?_
  refine x_aload_n (i := 0) d_M_init_99 rfl rfl ?_
  refine x_bi (v := 30) d_M_init_100 (by decide) ?_
  refine x_nw (f := 124) (b := 23) (w := 30) (Or.inl ⟨by decide, rfl⟩) (by decide) (by rfl) (by decide) (by decide) ((gU_ne rfl).trans (hO.a (j := 14) rfl (by decide) rfl (by decide) : Γ 124 23 = 0)) hR ⟨by decide, fun e => absurd e.1 (by decide)⟩ (by decide) (un_r (fun e => absurd e.1 (by simp)) (un_n un_nil)) (us_r (fun e => absurd e.1 (by simp)) us_nil) (lwg_at 54 (by decide +kernel) rfl) (by decide) (by decide) d_M_init_102 ?_
  have hR := R1.aD (f := 124) (a := 23) hR
  refine x_pA gp_M_48_12 rfl (by decide) rfl hO.1 hO.z rfl d_M_init_104 ?_
  refine x_aload_n (i := 0) d_M_init_107 rfl rfl ?_
  refine x_bi (v := 6) d_M_init_108 (by decide) ?_
  refine x_nw (f := 126) (b := 23) (w := 6) (Or.inl ⟨by decide, rfl⟩) (by decide) (by rfl) (by decide) (by decide) ((gU_ne rfl).trans (hO.a (j := 16) rfl (by decide) rfl (by decide) : Γ 126 23 = 0)) hR ⟨by decide, fun e => absurd e.1 (by decide)⟩ (by decide) (un_r (fun e => absurd e.1 (by simp)) (un_n un_nil)) (us_r (fun e => absurd e.1 (by simp)) us_nil) (lwg_at 54 (by decide +kernel) rfl) (by decide) (by decide) d_M_init_110 ?_
  have hR := R1.aD (f := 126) (a := 23) hR
  refine x_pA gp_M_51_12 rfl (by decide) rfl hO.1 hO.z rfl d_M_init_112 ?_
  refine x_aload_n (i := 0) d_M_init_115 rfl rfl ?_
  refine x_bi (v := 6) d_M_init_116 (by decide) ?_
  refine x_nw (f := 127) (b := 23) (w := 6) (Or.inl ⟨by decide, rfl⟩) (by decide) (by rfl) (by decide) (by decide) ((gU_ne rfl).trans (hO.a (j := 17) rfl (by decide) rfl (by decide) : Γ 127 23 = 0)) hR ⟨by decide, fun e => absurd e.1 (by decide)⟩ (by decide) (un_r (fun e => absurd e.1 (by simp)) (un_n un_nil)) (us_r (fun e => absurd e.1 (by simp)) us_nil) (lwg_at 54 (by decide +kernel) rfl) (by decide) (by decide) d_M_init_118 ?_
  have hR := R1.aD (f := 127) (a := 23) hR
  refine x_pA gp_M_54_12 rfl (by decide) rfl hO.1 hO.z rfl d_M_init_120 ?_
  refine x_aload_n (i := 0) d_M_init_123 rfl rfl ?_
  refine x_bi (v := 6) d_M_init_124 (by decide) ?_
  refine x_nw (f := 128) (b := 23) (w := 6) (Or.inl ⟨by decide, rfl⟩) (by decide) (by rfl) (by decide) (by decide) ((gU_ne rfl).trans (hO.a (j := 18) rfl (by decide) rfl (by decide) : Γ 128 23 = 0)) hR ⟨by decide, fun e => absurd e.1 (by decide)⟩ (by decide) (un_r (fun e => absurd e.1 (by simp)) (un_n un_nil)) (us_r (fun e => absurd e.1 (by simp)) us_nil) (lwg_at 54 (by decide +kernel) rfl) (by decide) (by decide) d_M_init_126 ?_
  have hR := R1.aD (f := 128) (a := 23) hR
  refine x_pA gp_M_57_12 rfl (by decide) rfl hO.1 hO.z rfl d_M_init_128 ?_
  refine x_aload_n (i := 0) d_M_init_131 rfl rfl ?_
  refine x_bi (v := 6) d_M_init_132 (by decide) ?_
  refine x_nw (f := 129) (b := 23) (w := 6) (Or.inl ⟨by decide, rfl⟩) (by decide) (by rfl) (by decide) (by decide) ((gU_ne rfl).trans (hO.a (j := 19) rfl (by decide) rfl (by decide) : Γ 129 23 = 0)) hR ⟨by decide, fun e => absurd e.1 (by decide)⟩ (by decide) (un_r (fun e => absurd e.1 (by simp)) (un_n un_nil)) (us_r (fun e => absurd e.1 (by simp)) us_nil) (lwg_at 54 (by decide +kernel) rfl) (by decide) (by decide) d_M_init_134 ?_
  have hR := R1.aD (f := 129) (a := 23) hR
  refine x_pA gp_M_60_12 rfl (by decide) rfl hO.1 hO.z rfl d_M_init_136 ?_
  refine x_aload_n (i := 0) d_M_init_139 rfl rfl ?_
  refine x_bi (v := 6) d_M_init_140 (by decide) ?_
  refine x_nw (f := 130) (b := 23) (w := 6) (Or.inl ⟨by decide, rfl⟩) (by decide) (by rfl) (by decide) (by decide) ((gU_ne rfl).trans (hO.a (j := 20) rfl (by decide) rfl (by decide) : Γ 130 23 = 0)) hR ⟨by decide, fun e => absurd e.1 (by decide)⟩ (by decide) (un_r (fun e => absurd e.1 (by simp)) (un_n un_nil)) (us_r (fun e => absurd e.1 (by simp)) us_nil) (lwg_at 54 (by decide +kernel) rfl) (by decide) (by decide) d_M_init_142 ?_
  have hR := R1.aD (f := 130) (a := 23) hR
  refine x_pA gp_M_63_12 rfl (by decide) rfl hO.1 hO.z rfl d_M_init_144 ?_
  refine x_aload_n (i := 0) d_M_init_147 rfl rfl ?_
  refine x_bi (v := 64) d_M_init_148 (by decide) ?_
  refine x_nw (f := 133) (b := 23) (w := 64) (Or.inl ⟨by decide, rfl⟩) (by decide) (by rfl) (by decide) (by decide) ((gU_ne rfl).trans (hO.a (j := 23) rfl (by decide) rfl (by decide) : Γ 133 23 = 0)) hR ⟨by decide, fun e => absurd e.1 (by decide)⟩ (by decide) (un_r (fun e => absurd e.1 (by simp)) (un_n un_nil)) (us_r (fun e => absurd e.1 (by simp)) us_nil) (lwg_at 54 (by decide +kernel) rfl) (by decide) (by decide) d_M_init_150 ?_
  have hR := R1.aD (f := 133) (a := 23) hR
  refine x_pA gp_M_66_12 rfl (by decide) rfl hO.1 hO.z rfl d_M_init_152 ?_
  refine x_aload_n (i := 0) d_M_init_155 rfl rfl ?_
  refine x_ic (v := 3) d_M_init_156 (by decide) ?_
  refine x_nw (f := 134) (b := 23) (w := 3) (Or.inl ⟨by decide, rfl⟩) (by decide) (by rfl) (by decide) (by decide) ((gU_ne rfl).trans (hO.a (j := 24) rfl (by decide) rfl (by decide) : Γ 134 23 = 0)) hR ⟨by decide, fun e => absurd e.1 (by decide)⟩ (by decide) (un_r (fun e => absurd e.1 (by simp)) (un_n un_nil)) (us_r (fun e => absurd e.1 (by simp)) us_nil) (lwg_at 54 (by decide +kernel) rfl) (by decide) (by decide) d_M_init_157 ?_
  have hR := R1.aD (f := 134) (a := 23) hR
  refine x_pA gp_M_69_12 rfl (by decide) rfl hO.1 hO.z rfl d_M_init_159 ?_
  refine x_aload_n (i := 0) d_M_init_162 rfl rfl ?_
  refine x_ic (v := 3) d_M_init_163 (by decide) ?_
  refine x_nw (f := 135) (b := 23) (w := 3) (Or.inl ⟨by decide, rfl⟩) (by decide) (by rfl) (by decide) (by decide) ((gU_ne rfl).trans (hO.a (j := 25) rfl (by decide) rfl (by decide) : Γ 135 23 = 0)) hR ⟨by decide, fun e => absurd e.1 (by decide)⟩ (by decide) (un_r (fun e => absurd e.1 (by simp)) (un_n un_nil)) (us_r (fun e => absurd e.1 (by simp)) us_nil) (lwg_at 54 (by decide +kernel) rfl) (by decide) (by decide) d_M_init_164 ?_
  have hR := R1.aD (f := 135) (a := 23) hR
  refine x_pA gp_M_72_12 rfl (by decide) rfl hO.1 hO.z rfl d_M_init_166 ?_
  refine x_aload_n (i := 0) d_M_init_169 rfl rfl ?_
  refine x_ic (v := 3) d_M_init_170 (by decide) ?_
  refine x_nw (f := 136) (b := 23) (w := 3) (Or.inl ⟨by decide, rfl⟩) (by decide) (by rfl) (by decide) (by decide) ((gU_ne rfl).trans (hO.a (j := 26) rfl (by decide) rfl (by decide) : Γ 136 23 = 0)) hR ⟨by decide, fun e => absurd e.1 (by decide)⟩ (by decide) (un_r (fun e => absurd e.1 (by simp)) (un_n un_nil)) (us_r (fun e => absurd e.1 (by simp)) us_nil) (lwg_at 54 (by decide +kernel) rfl) (by decide) (by decide) d_M_init_171 ?_
  have hR := R1.aD (f := 136) (a := 23) hR
  refine x_pA gp_M_75_12 rfl (by decide) rfl hO.1 hO.z rfl d_M_init_173 ?_
  refine x_aload_n (i := 0) d_M_init_176 rfl rfl ?_
  refine x_ic (v := 3) d_M_init_177 (by decide) ?_
  refine x_nw (f := 137) (b := 23) (w := 3) (Or.inl ⟨by decide, rfl⟩) (by decide) (by rfl) (by decide) (by decide) ((gU_ne rfl).trans (hO.a (j := 27) rfl (by decide) rfl (by decide) : Γ 137 23 = 0)) hR ⟨by decide, fun e => absurd e.1 (by decide)⟩ (by decide) (un_r (fun e => absurd e.1 (by simp)) (un_n un_nil)) (us_r (fun e => absurd e.1 (by simp)) us_nil) (lwg_at 54 (by decide +kernel) rfl) (by decide) (by decide) d_M_init_178 ?_
  have hR := R1.aD (f := 137) (a := 23) hR
  refine x_pA gp_M_78_12 rfl (by decide) rfl hO.1 hO.z rfl d_M_init_180 ?_
  refine x_aload_n (i := 0) d_M_init_183 rfl rfl ?_
  refine x_ic (v := 3) d_M_init_184 (by decide) ?_
  refine x_nw (f := 138) (b := 23) (w := 3) (Or.inl ⟨by decide, rfl⟩) (by decide) (by rfl) (by decide) (by decide) ((gU_ne rfl).trans (hO.a (j := 28) rfl (by decide) rfl (by decide) : Γ 138 23 = 0)) hR ⟨by decide, fun e => absurd e.1 (by decide)⟩ (by decide) (un_r (fun e => absurd e.1 (by simp)) (un_n un_nil)) (us_r (fun e => absurd e.1 (by simp)) us_nil) (lwg_at 54 (by decide +kernel) rfl) (by decide) (by decide) d_M_init_185 ?_
  have hR := R1.aD (f := 138) (a := 23) hR
  refine x_pA gp_M_81_12 rfl (by decide) rfl hO.1 hO.z rfl d_M_init_187 ?_
  refine x_aload_n (i := 0) d_M_init_190 rfl rfl ?_
  refine x_ic (v := 3) d_M_init_191 (by decide) ?_
  refine x_nw (f := 139) (b := 23) (w := 3) (Or.inl ⟨by decide, rfl⟩) (by decide) (by rfl) (by decide) (by decide) ((gU_ne rfl).trans (hO.a (j := 29) rfl (by decide) rfl (by decide) : Γ 139 23 = 0)) hR ⟨by decide, fun e => absurd e.1 (by decide)⟩ (by decide) (un_r (fun e => absurd e.1 (by simp)) (un_n un_nil)) (us_r (fun e => absurd e.1 (by simp)) us_nil) (lwg_at 54 (by decide +kernel) rfl) (by decide) (by decide) d_M_init_192 ?_
  have hR := R1.aD (f := 139) (a := 23) hR
  refine x_pA gp_M_84_12 rfl (by decide) rfl hO.1 hO.z rfl d_M_init_194 ?_
  refine x_aload_n (i := 0) d_M_init_197 rfl rfl ?_
  refine x_bi (v := 60) d_M_init_198 (by decide) ?_
  refine x_nw (f := 140) (b := 23) (w := 60) (Or.inl ⟨by decide, rfl⟩) (by decide) (by rfl) (by decide) (by decide) ((gU_ne rfl).trans (hO.a (j := 30) rfl (by decide) rfl (by decide) : Γ 140 23 = 0)) hR ⟨by decide, fun e => absurd e.1 (by decide)⟩ (by decide) (un_r (fun e => absurd e.1 (by simp)) (un_n un_nil)) (us_r (fun e => absurd e.1 (by simp)) us_nil) (lwg_at 54 (by decide +kernel) rfl) (by decide) (by decide) d_M_init_200 ?_
  have hR := R1.aD (f := 140) (a := 23) hR
  refine x_pA gp_M_87_12 rfl (by decide) rfl hO.1 hO.z rfl d_M_init_202 ?_
  refine x_aload_n (i := 0) d_M_init_205 rfl rfl ?_
  refine x_bi (v := 6) d_M_init_206 (by decide) ?_
  refine x_nw (f := 141) (b := 23) (w := 6) (Or.inl ⟨by decide, rfl⟩) (by decide) (by rfl) (by decide) (by decide) ((gU_ne rfl).trans (hO.a (j := 31) rfl (by decide) rfl (by decide) : Γ 141 23 = 0)) hR ⟨by decide, fun e => absurd e.1 (by decide)⟩ (by decide) (un_r (fun e => absurd e.1 (by simp)) (un_n un_nil)) (us_r (fun e => absurd e.1 (by simp)) us_nil) (lwg_at 54 (by decide +kernel) rfl) (by decide) (by decide) d_M_init_208 ?_
  have hR := R1.aD (f := 141) (a := 23) hR
  refine x_pA gp_M_90_12 rfl (by decide) rfl hO.1 hO.z rfl d_M_init_210 ?_
  refine x_aload_n (i := 0) d_M_init_213 rfl rfl ?_
  refine x_bi (v := 6) d_M_init_214 (by decide) ?_
  refine x_nw (f := 142) (b := 23) (w := 6) (Or.inl ⟨by decide, rfl⟩) (by decide) (by rfl) (by decide) (by decide) ((gU_ne rfl).trans (hO.a (j := 32) rfl (by decide) rfl (by decide) : Γ 142 23 = 0)) hR ⟨by decide, fun e => absurd e.1 (by decide)⟩ (by decide) (un_r (fun e => absurd e.1 (by simp)) (un_n un_nil)) (us_r (fun e => absurd e.1 (by simp)) us_nil) (lwg_at 54 (by decide +kernel) rfl) (by decide) (by decide) d_M_init_216 ?_
  have hR := R1.aD (f := 142) (a := 23) hR
  refine x_pA gp_M_93_12 rfl (by decide) rfl hO.1 hO.z rfl d_M_init_218 ?_
  refine x_aload_n (i := 0) d_M_init_221 rfl rfl ?_
  refine x_bi (v := 6) d_M_init_222 (by decide) ?_
  refine x_nw (f := 143) (b := 23) (w := 6) (Or.inl ⟨by decide, rfl⟩) (by decide) (by rfl) (by decide) (by decide) ((gU_ne rfl).trans (hO.a (j := 33) rfl (by decide) rfl (by decide) : Γ 143 23 = 0)) hR ⟨by decide, fun e => absurd e.1 (by decide)⟩ (by decide) (un_r (fun e => absurd e.1 (by simp)) (un_n un_nil)) (us_r (fun e => absurd e.1 (by simp)) us_nil) (lwg_at 54 (by decide +kernel) rfl) (by decide) (by decide) d_M_init_224 ?_
  have hR := R1.aD (f := 143) (a := 23) hR
  refine x_pA gp_M_96_12 rfl (by decide) rfl hO.1 hO.z rfl d_M_init_226 ?_
  refine x_aload_n (i := 0) d_M_init_229 rfl rfl ?_
  refine x_bi (v := 30) d_M_init_230 (by decide) ?_
  refine x_nw (f := 144) (b := 23) (w := 30) (Or.inl ⟨by decide, rfl⟩) (by decide) (by rfl) (by decide) (by decide) ((gU_ne rfl).trans (hO.a (j := 34) rfl (by decide) rfl (by decide) : Γ 144 23 = 0)) hR ⟨by decide, fun e => absurd e.1 (by decide)⟩ (by decide) (un_r (fun e => absurd e.1 (by simp)) (un_n un_nil)) (us_r (fun e => absurd e.1 (by simp)) us_nil) (lwg_at 54 (by decide +kernel) rfl) (by decide) (by decide) d_M_init_232 ?_
  have hR := R1.aD (f := 144) (a := 23) hR
  refine x_pA gp_M_99_12 rfl (by decide) rfl hO.1 hO.z rfl d_M_init_234 ?_
  refine x_aload_n (i := 0) d_M_init_237 rfl rfl ?_
  refine x_bi (v := 6) d_M_init_238 (by decide) ?_
  refine x_nw (f := 145) (b := 23) (w := 6) (Or.inr ⟨by decide, rfl⟩) (by decide) (by rfl) (by decide) (by decide) ((gU_ne rfl).trans (hO.a (j := 35) rfl (by decide) rfl (by decide) : Γ 145 23 = 0)) hR ⟨by decide, fun e => absurd e.1 (by decide)⟩ (by decide) (un_r (fun e => absurd e.1 (by simp)) (un_n un_nil)) (us_r (fun e => absurd e.1 (by simp)) us_nil) (lwg_at 171 (by decide +kernel) rfl) (by decide) (by decide) d_M_init_240 ?_
  have hR := R1.aD (f := 145) (a := 23) hR
  refine x_pA gp_M_102_12 rfl (by decide) rfl hO.1 hO.z rfl d_M_init_242 ?_
  refine x_aload_n (i := 0) d_M_init_245 rfl rfl ?_
  refine x_ic (v := 4) d_M_init_246 (by decide) ?_
  refine x_nw (f := 146) (b := 23) (w := 4) (Or.inr ⟨by decide, rfl⟩) (by decide) (by rfl) (by decide) (by decide) ((gU_ne rfl).trans (hO.a (j := 36) rfl (by decide) rfl (by decide) : Γ 146 23 = 0)) hR ⟨by decide, fun e => absurd e.1 (by decide)⟩ (by decide) (un_r (fun e => absurd e.1 (by simp)) (un_n un_nil)) (us_r (fun e => absurd e.1 (by simp)) us_nil) (lwg_at 171 (by decide +kernel) rfl) (by decide) (by decide) d_M_init_247 ?_
  have hR := R1.aD (f := 146) (a := 23) hR
  refine x_pA gp_M_106_12 rfl (by decide) rfl hO.1 hO.z rfl d_M_init_249 ?_
  refine x_aload_n (i := 0) d_M_init_252 rfl rfl ?_
  refine x_ic (v := 4) d_M_init_253 (by decide) ?_
  refine x_nw (f := 147) (b := 23) (w := 4) (Or.inr ⟨by decide, rfl⟩) (by decide) (by rfl) (by decide) (by decide) ((gU_ne rfl).trans (hO.a (j := 37) rfl (by decide) rfl (by decide) : Γ 147 23 = 0)) hR ⟨by decide, fun e => absurd e.1 (by decide)⟩ (by decide) (un_r (fun e => absurd e.1 (by simp)) (un_n un_nil)) (us_r (fun e => absurd e.1 (by simp)) us_nil) (lwg_at 171 (by decide +kernel) rfl) (by decide) (by decide) d_M_init_254 ?_
  have hR := R1.aD (f := 147) (a := 23) hR
  refine x_pA gp_M_109_12 rfl (by decide) rfl hO.1 hO.z rfl d_M_init_256 ?_
  refine x_aload_n (i := 0) d_M_init_259 rfl rfl ?_
  refine x_bi (v := 50) d_M_init_260 (by decide) ?_
  refine x_nw (f := 149) (b := 23) (w := 50) (Or.inl ⟨by decide, rfl⟩) (by decide) (by rfl) (by decide) (by decide) ((gU_ne rfl).trans (hO.a (j := 39) rfl (by decide) rfl (by decide) : Γ 149 23 = 0)) hR ⟨by decide, fun e => absurd e.1 (by decide)⟩ (by decide) (un_r (fun e => absurd e.1 (by simp)) (un_n un_nil)) (us_r (fun e => absurd e.1 (by simp)) us_nil) (lwg_at 54 (by decide +kernel) rfl) (by decide) (by decide) d_M_init_262 ?_
  have hR := R1.aD (f := 149) (a := 23) hR
  refine x_pA gp_M_112_12 rfl (by decide) rfl hO.1 hO.z rfl d_M_init_264 ?_
  refine x_aload_n (i := 0) d_M_init_267 rfl rfl ?_
  refine x_bi (v := 50) d_M_init_268 (by decide) ?_
  refine x_nw (f := 150) (b := 23) (w := 50) (Or.inl ⟨by decide, rfl⟩) (by decide) (by rfl) (by decide) (by decide) ((gU_ne rfl).trans (hO.a (j := 40) rfl (by decide) rfl (by decide) : Γ 150 23 = 0)) hR ⟨by decide, fun e => absurd e.1 (by decide)⟩ (by decide) (un_r (fun e => absurd e.1 (by simp)) (un_n un_nil)) (us_r (fun e => absurd e.1 (by simp)) us_nil) (lwg_at 54 (by decide +kernel) rfl) (by decide) (by decide) d_M_init_270 ?_
  have hR := R1.aD (f := 150) (a := 23) hR
  refine x_pA gp_M_115_12 rfl (by decide) rfl hO.1 hO.z rfl d_M_init_272 ?_
  refine x_aload_n (i := 0) d_M_init_275 rfl rfl ?_
  refine x_bi (v := 50) d_M_init_276 (by decide) ?_
  refine x_nw (f := 151) (b := 23) (w := 50) (Or.inl ⟨by decide, rfl⟩) (by decide) (by rfl) (by decide) (by decide) ((gU_ne rfl).trans (hO.a (j := 41) rfl (by decide) rfl (by decide) : Γ 151 23 = 0)) hR ⟨by decide, fun e => absurd e.1 (by decide)⟩ (by decide) (un_r (fun e => absurd e.1 (by simp)) (un_n un_nil)) (us_r (fun e => absurd e.1 (by simp)) us_nil) (lwg_at 54 (by decide +kernel) rfl) (by decide) (by decide) d_M_init_278 ?_
  have hR := R1.aD (f := 151) (a := 23) hR
  refine x_pA gp_M_118_12 rfl (by decide) rfl hO.1 hO.z rfl d_M_init_280 ?_
  refine x_aload_n (i := 0) d_M_init_283 rfl rfl ?_
  refine x_ic (v := -1) d_M_init_284 (by decide) ?_
  refine x_pI gp_M_121_12 rfl (by decide) rfl rfl rfl hO.1 hO.z rfl d_M_init_285 ?_
  have hR := R1.sI (f := 152) (a := 23) (v := (-1)) hR
  refine x_aload_n (i := 0) d_M_init_288 rfl rfl ?_
  refine x_bi (v := 80) d_M_init_289 (by decide) ?_
  refine x_nw (f := 153) (b := 23) (w := 80) (Or.inl ⟨by decide, rfl⟩) (by decide) (by rfl) (by decide) (by decide) ((gU_ne rfl).trans (hO.a (j := 43) rfl (by decide) rfl (by decide) : Γ 153 23 = 0)) hR ⟨by decide, fun e => absurd e.1 (by decide)⟩ (by decide) (un_r (fun e => absurd e.1 (by simp)) (un_n un_nil)) (us_r (fun e => absurd e.1 (by simp)) us_nil) (lwg_at 54 (by decide +kernel) rfl) (by decide) (by decide) d_M_init_291 ?_
  have hR := R1.aD (f := 153) (a := 23) hR
  refine x_pA gp_M_125_12 rfl (by decide) rfl hO.1 hO.z rfl d_M_init_293 ?_
  refine x_aload_n (i := 0) d_M_init_296 rfl rfl ?_
  refine x_ic (v := 4) d_M_init_297 (by decide) ?_
  refine x_nw (f := 156) (b := 23) (w := 4) (Or.inl ⟨by decide, rfl⟩) (by decide) (by rfl) (by decide) (by decide) ((gU_ne rfl).trans (hO.a (j := 46) rfl (by decide) rfl (by decide) : Γ 156 23 = 0)) hR ⟨by decide, fun e => absurd e.1 (by decide)⟩ (by decide) (un_r (fun e => absurd e.1 (by simp)) (un_n un_nil)) (us_r (fun e => absurd e.1 (by simp)) us_nil) (lwg_at 54 (by decide +kernel) rfl) (by decide) (by decide) d_M_init_298 ?_
  have hR := R1.aD (f := 156) (a := 23) hR
  refine x_pA gp_M_128_12 rfl (by decide) rfl hO.1 hO.z rfl d_M_init_300 ?_
  refine x_aload_n (i := 0) d_M_init_303 rfl rfl ?_
  refine x_ic (v := 4) d_M_init_304 (by decide) ?_
  refine x_nw (f := 157) (b := 23) (w := 4) (Or.inl ⟨by decide, rfl⟩) (by decide) (by rfl) (by decide) (by decide) ((gU_ne rfl).trans (hO.a (j := 47) rfl (by decide) rfl (by decide) : Γ 157 23 = 0)) hR ⟨by decide, fun e => absurd e.1 (by decide)⟩ (by decide) (un_r (fun e => absurd e.1 (by simp)) (un_n un_nil)) (us_r (fun e => absurd e.1 (by simp)) us_nil) (lwg_at 54 (by decide +kernel) rfl) (by decide) (by decide) d_M_init_305 ?_
  have hR := R1.aD (f := 157) (a := 23) hR
  refine x_pA gp_M_131_12 rfl (by decide) rfl hO.1 hO.z rfl d_M_init_307 ?_
  refine x_aload_n (i := 0) d_M_init_310 rfl rfl ?_
  refine x_ic (v := 4) d_M_init_311 (by decide) ?_
  refine x_nw (f := 158) (b := 23) (w := 4) (Or.inl ⟨by decide, rfl⟩) (by decide) (by rfl) (by decide) (by decide) ((gU_ne rfl).trans (hO.a (j := 48) rfl (by decide) rfl (by decide) : Γ 158 23 = 0)) hR ⟨by decide, fun e => absurd e.1 (by decide)⟩ (by decide) (un_r (fun e => absurd e.1 (by simp)) (un_n un_nil)) (us_r (fun e => absurd e.1 (by simp)) us_nil) (lwg_at 54 (by decide +kernel) rfl) (by decide) (by decide) d_M_init_312 ?_
  have hR := R1.aD (f := 158) (a := 23) hR
  refine x_pA gp_M_134_12 rfl (by decide) rfl hO.1 hO.z rfl d_M_init_314 ?_
  refine x_aload_n (i := 0) d_M_init_317 rfl rfl ?_
  refine x_ic (v := 4) d_M_init_318 (by decide) ?_
  refine x_nw (f := 159) (b := 23) (w := 4) (Or.inl ⟨by decide, rfl⟩) (by decide) (by rfl) (by decide) (by decide) ((gU_ne rfl).trans (hO.a (j := 49) rfl (by decide) rfl (by decide) : Γ 159 23 = 0)) hR ⟨by decide, fun e => absurd e.1 (by decide)⟩ (by decide) (un_r (fun e => absurd e.1 (by simp)) (un_n un_nil)) (us_r (fun e => absurd e.1 (by simp)) us_nil) (lwg_at 54 (by decide +kernel) rfl) (by decide) (by decide) d_M_init_319 ?_
  have hR := R1.aD (f := 159) (a := 23) hR
  refine x_pA gp_M_137_12 rfl (by decide) rfl hO.1 hO.z rfl d_M_init_321 ?_
  refine x_aload_n (i := 0) d_M_init_324 rfl rfl ?_
  refine x_ic (v := 4) d_M_init_325 (by decide) ?_
  refine x_nw (f := 160) (b := 23) (w := 4) (Or.inl ⟨by decide, rfl⟩) (by decide) (by rfl) (by decide) (by decide) ((gU_ne rfl).trans (hO.a (j := 50) rfl (by decide) rfl (by decide) : Γ 160 23 = 0)) hR ⟨by decide, fun e => absurd e.1 (by decide)⟩ (by decide) (un_r (fun e => absurd e.1 (by simp)) (un_n un_nil)) (us_r (fun e => absurd e.1 (by simp)) us_nil) (lwg_at 54 (by decide +kernel) rfl) (by decide) (by decide) d_M_init_326 ?_
  have hR := R1.aD (f := 160) (a := 23) hR
  refine x_pA gp_M_140_12 rfl (by decide) rfl hO.1 hO.z rfl d_M_init_328 ?_
  refine x_aload_n (i := 0) d_M_init_331 rfl rfl ?_
  refine x_ic (v := -1) d_M_init_332 (by decide) ?_
  refine x_pI gp_M_143_12 rfl (by decide) rfl rfl rfl hO.1 hO.z rfl d_M_init_333 ?_
  have hR := R1.sI (f := 162) (a := 23) (v := (-1)) hR
  refine x_aload_n (i := 0) d_M_init_336 rfl rfl ?_
  refine x_ic (v := -1) d_M_init_337 (by decide) ?_
  refine x_pI gp_M_146_12 rfl (by decide) rfl rfl rfl hO.1 hO.z rfl d_M_init_338 ?_
  have hR := R1.sI (f := 163) (a := 23) (v := (-1)) hR
  refine x_aload_n (i := 0) d_M_init_341 rfl rfl ?_
  refine x_ic (v := 2) d_M_init_342 (by decide) ?_
  refine x_nw (f := 165) (b := 23) (w := 2) (Or.inl ⟨by decide, rfl⟩) (by decide) (by rfl) (by decide) (by decide) ((gU_ne rfl).trans (hO.a (j := 55) rfl (by decide) rfl (by decide) : Γ 165 23 = 0)) hR ⟨by decide, fun e => absurd e.1 (by decide)⟩ (by decide) (un_r (fun e => absurd e.1 (by simp)) (un_n un_nil)) (us_r (fun e => absurd e.1 (by simp)) us_nil) (lwg_at 54 (by decide +kernel) rfl) (by decide) (by decide) d_M_init_343 ?_
  have hR := R1.aD (f := 165) (a := 23) hR
  refine x_pA gp_M_149_12 rfl (by decide) rfl hO.1 hO.z rfl d_M_init_345 ?_
  refine x_aload_n (i := 0) d_M_init_348 rfl rfl ?_
  refine x_ic (v := 2) d_M_init_349 (by decide) ?_
  refine x_nw (f := 166) (b := 23) (w := 2) (Or.inl ⟨by decide, rfl⟩) (by decide) (by rfl) (by decide) (by decide) ((gU_ne rfl).trans (hO.a (j := 56) rfl (by decide) rfl (by decide) : Γ 166 23 = 0)) hR ⟨by decide, fun e => absurd e.1 (by decide)⟩ (by decide) (un_r (fun e => absurd e.1 (by simp)) (un_n un_nil)) (us_r (fun e => absurd e.1 (by simp)) us_nil) (lwg_at 54 (by decide +kernel) rfl) (by decide) (by decide) d_M_init_350 ?_
  have hR := R1.aD (f := 166) (a := 23) hR
  refine x_pA gp_M_152_12 rfl (by decide) rfl hO.1 hO.z rfl d_M_init_352 ?_
  refine x_aload_n (i := 0) d_M_init_355 rfl rfl ?_
  refine x_si (v := 900) d_M_init_356 (by decide) ?_
  refine x_nw (f := 167) (b := 23) (w := 900) (Or.inl ⟨by decide, rfl⟩) (by decide) (by rfl) (by decide) (by decide) ((gU_ne rfl).trans (hO.a (j := 57) rfl (by decide) rfl (by decide) : Γ 167 23 = 0)) hR ⟨by decide, fun e => absurd e.1 (by decide)⟩ (by decide) (un_r (fun e => absurd e.1 (by simp)) (un_n un_nil)) (us_r (fun e => absurd e.1 (by simp)) us_nil) (lwg_at 54 (by decide +kernel) rfl) (by decide) (by decide) d_M_init_359 ?_
  have hR := R1.aD (f := 167) (a := 23) hR
  refine x_pA gp_M_155_12 rfl (by decide) rfl hO.1 hO.z rfl d_M_init_361 ?_
  refine x_aload_n (i := 0) d_M_init_364 rfl rfl ?_
  refine x_bi (v := 30) d_M_init_365 (by decide) ?_
  refine x_nw (f := 170) (b := 23) (w := 30) (Or.inl ⟨by decide, rfl⟩) (by decide) (by rfl) (by decide) (by decide) ((gU_ne rfl).trans (hO.a (j := 60) rfl (by decide) rfl (by decide) : Γ 170 23 = 0)) hR ⟨by decide, fun e => absurd e.1 (by decide)⟩ (by decide) (un_r (fun e => absurd e.1 (by simp)) (un_n un_nil)) (us_r (fun e => absurd e.1 (by simp)) us_nil) (lwg_at 54 (by decide +kernel) rfl) (by decide) (by decide) d_M_init_367 ?_
  have hR := R1.aD (f := 170) (a := 23) hR
  refine x_pA gp_M_158_12 rfl (by decide) rfl hO.1 hO.z rfl d_M_init_369 ?_
  refine x_aload_n (i := 0) d_M_init_372 rfl rfl ?_
  refine x_ic (v := 3) d_M_init_373 (by decide) ?_
  refine x_nw (f := 171) (b := 23) (w := 3) (Or.inl ⟨by decide, rfl⟩) (by decide) (by rfl) (by decide) (by decide) ((gU_ne rfl).trans (hO.a (j := 61) rfl (by decide) rfl (by decide) : Γ 171 23 = 0)) hR ⟨by decide, fun e => absurd e.1 (by decide)⟩ (by decide) (un_r (fun e => absurd e.1 (by simp)) (un_n un_nil)) (us_r (fun e => absurd e.1 (by simp)) us_nil) (lwg_at 54 (by decide +kernel) rfl) (by decide) (by decide) d_M_init_374 ?_
  have hR := R1.aD (f := 171) (a := 23) hR
  refine x_pA gp_M_161_12 rfl (by decide) rfl hO.1 hO.z rfl d_M_init_376 ?_
  refine x_aload_n (i := 0) d_M_init_379 rfl rfl ?_
  refine x_ic (v := 3) d_M_init_380 (by decide) ?_
  refine x_nw (f := 172) (b := 23) (w := 3) (Or.inl ⟨by decide, rfl⟩) (by decide) (by rfl) (by decide) (by decide) ((gU_ne rfl).trans (hO.a (j := 62) rfl (by decide) rfl (by decide) : Γ 172 23 = 0)) hR ⟨by decide, fun e => absurd e.1 (by decide)⟩ (by decide) (un_r (fun e => absurd e.1 (by simp)) (un_n un_nil)) (us_r (fun e => absurd e.1 (by simp)) us_nil) (lwg_at 54 (by decide +kernel) rfl) (by decide) (by decide) d_M_init_381 ?_
  have hR := R1.aD (f := 172) (a := 23) hR
  refine x_pA gp_M_164_12 rfl (by decide) rfl hO.1 hO.z rfl d_M_init_383 ?_
  refine x_aload_n (i := 0) d_M_init_386 rfl rfl ?_
  refine x_si (v := 210) d_M_init_387 (by decide) ?_
  refine x_nw (f := 173) (b := 23) (w := 210) (Or.inl ⟨by decide, rfl⟩) (by decide) (by rfl) (by decide) (by decide) ((gU_ne rfl).trans (hO.a (j := 63) rfl (by decide) rfl (by decide) : Γ 173 23 = 0)) hR ⟨by decide, fun e => absurd e.1 (by decide)⟩ (by decide) (un_r (fun e => absurd e.1 (by simp)) (un_n un_nil)) (us_r (fun e => absurd e.1 (by simp)) us_nil) (lwg_at 54 (by decide +kernel) rfl) (by decide) (by decide) d_M_init_390 ?_
  have hR := R1.aD (f := 173) (a := 23) hR
  refine x_pA gp_M_167_12 rfl (by decide) rfl hO.1 hO.z rfl d_M_init_392 ?_
  refine x_aload_n (i := 0) d_M_init_395 rfl rfl ?_
  refine x_bi (v := 24) d_M_init_396 (by decide) ?_
  refine x_nw (f := 177) (b := 23) (w := 24) (Or.inl ⟨by decide, rfl⟩) (by decide) (by rfl) (by decide) (by decide) ((gU_ne rfl).trans (hO.a (j := 67) rfl (by decide) rfl (by decide) : Γ 177 23 = 0)) hR ⟨by decide, fun e => absurd e.1 (by decide)⟩ (by decide) (un_r (fun e => absurd e.1 (by simp)) (un_n un_nil)) (us_r (fun e => absurd e.1 (by simp)) us_nil) (lwg_at 54 (by decide +kernel) rfl) (by decide) (by decide) d_M_init_398 ?_
  have hR := R1.aD (f := 177) (a := 23) hR
  refine x_dup d_M_init_400 ?_
  refine x_ic (v := 0) d_M_init_401 (by decide) ?_
  refine x_bi (v := 101) d_M_init_402 (by decide) ?_
  refine x_iastN (n := 24) (by decide) (by rfl) (by decide) d_M_init_404 ?_
  have hR := R1.sA (f := 177) (a := 23) (i := 0) (v := 101) hR
  refine x_dup d_M_init_405 ?_
  refine x_ic (v := 1) d_M_init_406 (by decide) ?_
  refine x_bi (v := 110) d_M_init_407 (by decide) ?_
  refine x_iastN (n := 24) (by decide) (by rfl) (by decide) d_M_init_409 ?_
  have hR := R1.sA (f := 177) (a := 23) (i := 1) (v := 110) hR
  refine x_dup d_M_init_410 ?_
  refine x_ic (v := 2) d_M_init_411 (by decide) ?_
  refine x_bi (v := 100) d_M_init_412 (by decide) ?_
  refine x_iastN (n := 24) (by decide) (by rfl) (by decide) d_M_init_414 ?_
  have hR := R1.sA (f := 177) (a := 23) (i := 2) (v := 100) hR
  refine x_dup d_M_init_415 ?_
  refine x_ic (v := 3) d_M_init_416 (by decide) ?_
  refine x_ic (v := 0) d_M_init_417 (by decide) ?_
  refine x_iastN (n := 24) (by decide) (by rfl) (by decide) d_M_init_418 ?_
  have hR := R1.sA (f := 177) (a := 23) (i := 3) (v := 0) hR
  refine x_dup d_M_init_419 ?_
  refine x_ic (v := 4) d_M_init_420 (by decide) ?_
  refine x_ic (v := 0) d_M_init_421 (by decide) ?_
  refine x_iastN (n := 24) (by decide) (by rfl) (by decide) d_M_init_422 ?_
  have hR := R1.sA (f := 177) (a := 23) (i := 4) (v := 0) hR
  refine x_dup d_M_init_423 ?_
  refine x_ic (v := 5) d_M_init_424 (by decide) ?_
  refine x_ic (v := 0) d_M_init_425 (by decide) ?_
  refine x_iastN (n := 24) (by decide) (by rfl) (by decide) d_M_init_426 ?_
  have hR := R1.sA (f := 177) (a := 23) (i := 5) (v := 0) hR
  refine x_dup d_M_init_427 ?_
  refine x_bi (v := 6) d_M_init_428 (by decide) ?_
  refine x_bi (v := 97) d_M_init_430 (by decide) ?_
  refine x_iastN (n := 24) (by decide) (by rfl) (by decide) d_M_init_432 ?_
  have hR := R1.sA (f := 177) (a := 23) (i := 6) (v := 97) hR
  refine x_dup d_M_init_433 ?_
  refine x_bi (v := 7) d_M_init_434 (by decide) ?_
  refine x_bi (v := 108) d_M_init_436 (by decide) ?_
  refine x_iastN (n := 24) (by decide) (by rfl) (by decide) d_M_init_438 ?_
  have hR := R1.sA (f := 177) (a := 23) (i := 7) (v := 108) hR
  refine x_dup d_M_init_439 ?_
  refine x_bi (v := 8) d_M_init_440 (by decide) ?_
  refine x_bi (v := 119) d_M_init_442 (by decide) ?_
  refine x_iastN (n := 24) (by decide) (by rfl) (by decide) d_M_init_444 ?_
  have hR := R1.sA (f := 177) (a := 23) (i := 8) (v := 119) hR
  refine x_dup d_M_init_445 ?_
  refine x_bi (v := 9) d_M_init_446 (by decide) ?_
  refine x_bi (v := 97) d_M_init_448 (by decide) ?_
  refine x_iastN (n := 24) (by decide) (by rfl) (by decide) d_M_init_450 ?_
  have hR := R1.sA (f := 177) (a := 23) (i := 9) (v := 97) hR
  refine x_dup d_M_init_451 ?_
  refine x_bi (v := 10) d_M_init_452 (by decide) ?_
  refine x_bi (v := 121) d_M_init_454 (by decide) ?_
  refine x_iastN (n := 24) (by decide) (by rfl) (by decide) d_M_init_456 ?_
  have hR := R1.sA (f := 177) (a := 23) (i := 10) (v := 121) hR
  refine x_dup d_M_init_457 ?_
  refine x_bi (v := 11) d_M_init_458 (by decide) ?_
  refine x_bi (v := 115) d_M_init_460 (by decide) ?_
  refine x_iastN (n := 24) (by decide) (by rfl) (by decide) d_M_init_462 ?_
  have hR := R1.sA (f := 177) (a := 23) (i := 11) (v := 115) hR
  refine x_dup d_M_init_463 ?_
  refine x_bi (v := 12) d_M_init_464 (by decide) ?_
  refine x_bi (v := 110) d_M_init_466 (by decide) ?_
  refine x_iastN (n := 24) (by decide) (by rfl) (by decide) d_M_init_468 ?_
  have hR := R1.sA (f := 177) (a := 23) (i := 12) (v := 110) hR
  refine x_dup d_M_init_469 ?_
  refine x_bi (v := 13) d_M_init_470 (by decide) ?_
  refine x_bi (v := 101) d_M_init_472 (by decide) ?_
  refine x_iastN (n := 24) (by decide) (by rfl) (by decide) d_M_init_474 ?_
  have hR := R1.sA (f := 177) (a := 23) (i := 13) (v := 101) hR
  refine x_dup d_M_init_475 ?_
  refine x_bi (v := 14) d_M_init_476 (by decide) ?_
  refine x_bi (v := 118) d_M_init_478 (by decide) ?_
  refine x_iastN (n := 24) (by decide) (by rfl) (by decide) d_M_init_480 ?_
  have hR := R1.sA (f := 177) (a := 23) (i := 14) (v := 118) hR
  refine x_dup d_M_init_481 ?_
  refine x_bi (v := 15) d_M_init_482 (by decide) ?_
  refine x_bi (v := 101) d_M_init_484 (by decide) ?_
  refine x_iastN (n := 24) (by decide) (by rfl) (by decide) d_M_init_486 ?_
  have hR := R1.sA (f := 177) (a := 23) (i := 15) (v := 101) hR
  refine x_dup d_M_init_487 ?_
  refine x_bi (v := 16) d_M_init_488 (by decide) ?_
  refine x_bi (v := 114) d_M_init_490 (by decide) ?_
  refine x_iastN (n := 24) (by decide) (by rfl) (by decide) d_M_init_492 ?_
  have hR := R1.sA (f := 177) (a := 23) (i := 16) (v := 114) hR
  refine x_dup d_M_init_493 ?_
  refine x_bi (v := 17) d_M_init_494 (by decide) ?_
  refine x_ic (v := 0) d_M_init_496 (by decide) ?_
  refine x_iastN (n := 24) (by decide) (by rfl) (by decide) d_M_init_497 ?_
  have hR := R1.sA (f := 177) (a := 23) (i := 17) (v := 0) hR
  refine x_dup d_M_init_498 ?_
  refine x_bi (v := 18) d_M_init_499 (by decide) ?_
  refine x_bi (v := 111) d_M_init_501 (by decide) ?_
  refine x_iastN (n := 24) (by decide) (by rfl) (by decide) d_M_init_503 ?_
  have hR := R1.sA (f := 177) (a := 23) (i := 18) (v := 111) hR
  refine x_dup d_M_init_504 ?_
  refine x_bi (v := 19) d_M_init_505 (by decide) ?_
  refine x_bi (v := 110) d_M_init_507 (by decide) ?_
  refine x_iastN (n := 24) (by decide) (by rfl) (by decide) d_M_init_509 ?_
  have hR := R1.sA (f := 177) (a := 23) (i := 19) (v := 110) hR
  refine x_dup d_M_init_510 ?_
  refine x_bi (v := 20) d_M_init_511 (by decide) ?_
  refine x_bi (v := 99) d_M_init_513 (by decide) ?_
  refine x_iastN (n := 24) (by decide) (by rfl) (by decide) d_M_init_515 ?_
  have hR := R1.sA (f := 177) (a := 23) (i := 20) (v := 99) hR
  refine x_dup d_M_init_516 ?_
  refine x_bi (v := 21) d_M_init_517 (by decide) ?_
  refine x_bi (v := 101) d_M_init_519 (by decide) ?_
  refine x_iastN (n := 24) (by decide) (by rfl) (by decide) d_M_init_521 ?_
  have hR := R1.sA (f := 177) (a := 23) (i := 21) (v := 101) hR
  refine x_dup d_M_init_522 ?_
  refine x_bi (v := 22) d_M_init_523 (by decide) ?_
  refine x_ic (v := 0) d_M_init_525 (by decide) ?_
  refine x_iastN (n := 24) (by decide) (by rfl) (by decide) d_M_init_526 ?_
  have hR := R1.sA (f := 177) (a := 23) (i := 22) (v := 0) hR
  refine x_dup d_M_init_527 ?_
  refine x_bi (v := 23) d_M_init_528 (by decide) ?_
  refine x_ic (v := 0) d_M_init_530 (by decide) ?_
  refine x_iastN (n := 24) (by decide) (by rfl) (by decide) d_M_init_531 ?_
  have hR := R1.sA (f := 177) (a := 23) (i := 23) (v := 0) hR
  refine x_pA gp_M_170_12 rfl (by decide) rfl hO.1 hO.z rfl d_M_init_532 ?_
  refine x_aload_n (i := 0) d_M_init_535 rfl rfl ?_
  refine x_ic (v := 4) d_M_init_536 (by decide) ?_
  refine x_nw (f := 178) (b := 23) (w := 4) (Or.inl ⟨by decide, rfl⟩) (by decide) (by rfl) (by decide) (by decide) ((gU_ne rfl).trans (hO.a (j := 68) rfl (by decide) rfl (by decide) : Γ 178 23 = 0)) hR ⟨by decide, fun e => absurd e.1 (by decide)⟩ (by decide) (un_r (fun e => absurd e.1 (by simp)) (un_n un_nil)) (us_r (fun e => absurd e.1 (by simp)) us_nil) (lwg_at 54 (by decide +kernel) rfl) (by decide) (by decide) d_M_init_537 ?_
  have hR := R1.aD (f := 178) (a := 23) hR
  refine x_pA gp_M_173_12 rfl (by decide) rfl hO.1 hO.z rfl d_M_init_539 ?_
  refine x_aload_n (i := 0) d_M_init_542 rfl rfl ?_
  refine x_ic (v := 4) d_M_init_543 (by decide) ?_
  refine x_nw (f := 179) (b := 23) (w := 4) (Or.inl ⟨by decide, rfl⟩) (by decide) (by rfl) (by decide) (by decide) ((gU_ne rfl).trans (hO.a (j := 69) rfl (by decide) rfl (by decide) : Γ 179 23 = 0)) hR ⟨by decide, fun e => absurd e.1 (by decide)⟩ (by decide) (un_r (fun e => absurd e.1 (by simp)) (un_n un_nil)) (us_r (fun e => absurd e.1 (by simp)) us_nil) (lwg_at 54 (by decide +kernel) rfl) (by decide) (by decide) d_M_init_544 ?_
  have hR := R1.aD (f := 179) (a := 23) hR
  refine x_pA gp_M_176_12 rfl (by decide) rfl hO.1 hO.z rfl d_M_init_546 ?_
  refine x_aload_n (i := 0) d_M_init_549 rfl rfl ?_
  refine x_ic (v := 4) d_M_init_550 (by decide) ?_
  refine x_nw (f := 180) (b := 23) (w := 4) (Or.inl ⟨by decide, rfl⟩) (by decide) (by rfl) (by decide) (by decide) ((gU_ne rfl).trans (hO.a (j := 70) rfl (by decide) rfl (by decide) : Γ 180 23 = 0)) hR ⟨by decide, fun e => absurd e.1 (by decide)⟩ (by decide) (un_r (fun e => absurd e.1 (by simp)) (un_n un_nil)) (us_r (fun e => absurd e.1 (by simp)) us_nil) (lwg_at 54 (by decide +kernel) rfl) (by decide) (by decide) d_M_init_551 ?_
  have hR := R1.aD (f := 180) (a := 23) hR
  refine x_pA gp_M_179_12 rfl (by decide) rfl hO.1 hO.z rfl d_M_init_553 ?_
  refine x_aload_n (i := 0) d_M_init_556 rfl rfl ?_
  refine x_ic (v := 4) d_M_init_557 (by decide) ?_
  refine x_nw (f := 181) (b := 23) (w := 4) (Or.inl ⟨by decide, rfl⟩) (by decide) (by rfl) (by decide) (by decide) ((gU_ne rfl).trans (hO.a (j := 71) rfl (by decide) rfl (by decide) : Γ 181 23 = 0)) hR ⟨by decide, fun e => absurd e.1 (by decide)⟩ (by decide) (un_r (fun e => absurd e.1 (by simp)) (un_n un_nil)) (us_r (fun e => absurd e.1 (by simp)) us_nil) (lwg_at 54 (by decide +kernel) rfl) (by decide) (by decide) d_M_init_558 ?_
  have hR := R1.aD (f := 181) (a := 23) hR
  refine x_pA gp_M_182_12 rfl (by decide) rfl hO.1 hO.z rfl d_M_init_560 ?_
  refine x_aload_n (i := 0) d_M_init_563 rfl rfl ?_
  refine x_ic (v := 4) d_M_init_564 (by decide) ?_
  refine x_nw (f := 182) (b := 23) (w := 4) (Or.inl ⟨by decide, rfl⟩) (by decide) (by rfl) (by decide) (by decide) ((gU_ne rfl).trans (hO.a (j := 72) rfl (by decide) rfl (by decide) : Γ 182 23 = 0)) hR ⟨by decide, fun e => absurd e.1 (by decide)⟩ (by decide) (un_r (fun e => absurd e.1 (by simp)) (un_n un_nil)) (us_r (fun e => absurd e.1 (by simp)) us_nil) (lwg_at 54 (by decide +kernel) rfl) (by decide) (by decide) d_M_init_565 ?_
  have hR := R1.aD (f := 182) (a := 23) hR
  refine x_pA gp_M_185_12 rfl (by decide) rfl hO.1 hO.z rfl d_M_init_567 ?_
  refine x_aload_n (i := 0) d_M_init_570 rfl rfl ?_
  refine x_ic (v := 4) d_M_init_571 (by decide) ?_
  refine x_nw (f := 183) (b := 23) (w := 4) (Or.inl ⟨by decide, rfl⟩) (by decide) (by rfl) (by decide) (by decide) ((gU_ne rfl).trans (hO.a (j := 73) rfl (by decide) rfl (by decide) : Γ 183 23 = 0)) hR ⟨by decide, fun e => absurd e.1 (by decide)⟩ (by decide) (un_r (fun e => absurd e.1 (by simp)) (un_n un_nil)) (us_r (fun e => absurd e.1 (by simp)) us_nil) (lwg_at 54 (by decide +kernel) rfl) (by decide) (by decide) d_M_init_572 ?_
  have hR := R1.aD (f := 183) (a := 23) hR
  refine x_pA gp_M_188_12 rfl (by decide) rfl hO.1 hO.z rfl d_M_init_574 ?_
  refine x_aload_n (i := 0) d_M_init_577 rfl rfl ?_
  refine x_ic (v := 4) d_M_init_578 (by decide) ?_
  refine x_nw (f := 184) (b := 23) (w := 4) (Or.inr ⟨by decide, rfl⟩) (by decide) (by rfl) (by decide) (by decide) ((gU_ne rfl).trans (hO.a (j := 74) rfl (by decide) rfl (by decide) : Γ 184 23 = 0)) hR ⟨by decide, fun e => absurd e.1 (by decide)⟩ (by decide) (un_r (fun e => absurd e.1 (by simp)) (un_n un_nil)) (us_r (fun e => absurd e.1 (by simp)) us_nil) (lwg_at 171 (by decide +kernel) rfl) (by decide) (by decide) d_M_init_579 ?_
  have hR := R1.aD (f := 184) (a := 23) hR
  refine x_pA gp_M_191_12 rfl (by decide) rfl hO.1 hO.z rfl d_M_init_581 ?_
  refine x_aload_n (i := 0) d_M_init_584 rfl rfl ?_
  refine x_bi (v := 60) d_M_init_585 (by decide) ?_
  refine x_nw (f := 185) (b := 23) (w := 60) (Or.inl ⟨by decide, rfl⟩) (by decide) (by rfl) (by decide) (by decide) ((gU_ne rfl).trans (hO.a (j := 75) rfl (by decide) rfl (by decide) : Γ 185 23 = 0)) hR ⟨by decide, fun e => absurd e.1 (by decide)⟩ (by decide) (un_r (fun e => absurd e.1 (by simp)) (un_n un_nil)) (us_r (fun e => absurd e.1 (by simp)) us_nil) (lwg_at 54 (by decide +kernel) rfl) (by decide) (by decide) d_M_init_587 ?_
  have hR := R1.aD (f := 185) (a := 23) hR
  refine x_pA gp_M_194_12 rfl (by decide) rfl hO.1 hO.z rfl d_M_init_589 ?_
  refine x_aload_n (i := 0) d_M_init_592 rfl rfl ?_
  refine x_si (v := 300) d_M_init_593 (by decide) ?_
  refine x_nw (f := 186) (b := 23) (w := 300) (Or.inl ⟨by decide, rfl⟩) (by decide) (by rfl) (by decide) (by decide) ((gU_ne rfl).trans (hO.a (j := 76) rfl (by decide) rfl (by decide) : Γ 186 23 = 0)) hR ⟨by decide, fun e => absurd e.1 (by decide)⟩ (by decide) (un_r (fun e => absurd e.1 (by simp)) (un_n un_nil)) (us_r (fun e => absurd e.1 (by simp)) us_nil) (lwg_at 54 (by decide +kernel) rfl) (by decide) (by decide) d_M_init_596 ?_
  have hR := R1.aD (f := 186) (a := 23) hR
  refine x_pA gp_M_197_12 rfl (by decide) rfl hO.1 hO.z rfl d_M_init_598 ?_
  refine x_aload_n (i := 0) d_M_init_601 rfl rfl ?_
  refine x_bi (v := 60) d_M_init_602 (by decide) ?_
  refine x_nw (f := 187) (b := 23) (w := 60) (Or.inl ⟨by decide, rfl⟩) (by decide) (by rfl) (by decide) (by decide) ((gU_ne rfl).trans (hO.a (j := 77) rfl (by decide) rfl (by decide) : Γ 187 23 = 0)) hR ⟨by decide, fun e => absurd e.1 (by decide)⟩ (by decide) (un_r (fun e => absurd e.1 (by simp)) (un_n un_nil)) (us_r (fun e => absurd e.1 (by simp)) us_nil) (lwg_at 54 (by decide +kernel) rfl) (by decide) (by decide) d_M_init_604 ?_
  have hR := R1.aD (f := 187) (a := 23) hR
  refine x_pA gp_M_200_12 rfl (by decide) rfl hO.1 hO.z rfl d_M_init_606 ?_
  refine x_aload_n (i := 0) d_M_init_609 rfl rfl ?_
  refine x_bi (v := 60) d_M_init_610 (by decide) ?_
  refine x_nw (f := 188) (b := 23) (w := 60) (Or.inl ⟨by decide, rfl⟩) (by decide) (by rfl) (by decide) (by decide) ((gU_ne rfl).trans (hO.a (j := 78) rfl (by decide) rfl (by decide) : Γ 188 23 = 0)) hR ⟨by decide, fun e => absurd e.1 (by decide)⟩ (by decide) (un_r (fun e => absurd e.1 (by simp)) (un_n un_nil)) (us_r (fun e => absurd e.1 (by simp)) us_nil) (lwg_at 54 (by decide +kernel) rfl) (by decide) (by decide) d_M_init_612 ?_
  have hR := R1.aD (f := 188) (a := 23) hR
  refine x_pA gp_M_203_12 rfl (by decide) rfl hO.1 hO.z rfl d_M_init_614 ?_
  refine x_aload_n (i := 0) d_M_init_617 rfl rfl ?_
  refine x_bi (v := 60) d_M_init_618 (by decide) ?_
  refine x_nw (f := 189) (b := 23) (w := 60) (Or.inl ⟨by decide, rfl⟩) (by decide) (by rfl) (by decide) (by decide) ((gU_ne rfl).trans (hO.a (j := 79) rfl (by decide) rfl (by decide) : Γ 189 23 = 0)) hR ⟨by decide, fun e => absurd e.1 (by decide)⟩ (by decide) (un_r (fun e => absurd e.1 (by simp)) (un_n un_nil)) (us_r (fun e => absurd e.1 (by simp)) us_nil) (lwg_at 54 (by decide +kernel) rfl) (by decide) (by decide) d_M_init_620 ?_
  have hR := R1.aD (f := 189) (a := 23) hR
  refine x_pA gp_M_206_12 rfl (by decide) rfl hO.1 hO.z rfl d_M_init_622 ?_
  refine x_aload_n (i := 0) d_M_init_625 rfl rfl ?_
  refine x_bi (v := 12) d_M_init_626 (by decide) ?_
  refine x_nw (f := 190) (b := 23) (w := 12) (Or.inl ⟨by decide, rfl⟩) (by decide) (by rfl) (by decide) (by decide) ((gU_ne rfl).trans (hO.a (j := 80) rfl (by decide) rfl (by decide) : Γ 190 23 = 0)) hR ⟨by decide, fun e => absurd e.1 (by decide)⟩ (by decide) (un_r (fun e => absurd e.1 (by simp)) (un_n un_nil)) (us_r (fun e => absurd e.1 (by simp)) us_nil) (lwg_at 54 (by decide +kernel) rfl) (by decide) (by decide) d_M_init_628 ?_
  have hR := R1.aD (f := 190) (a := 23) hR
  refine x_pA gp_M_209_12 rfl (by decide) rfl hO.1 hO.z rfl d_M_init_630 ?_
  refine x_aload_n (i := 0) d_M_init_633 rfl rfl ?_
  refine x_bi (v := 70) d_M_init_634 (by decide) ?_
  refine x_nw (f := 191) (b := 23) (w := 70) (Or.inl ⟨by decide, rfl⟩) (by decide) (by rfl) (by decide) (by decide) ((gU_ne rfl).trans (hO.a (j := 81) rfl (by decide) rfl (by decide) : Γ 191 23 = 0)) hR ⟨by decide, fun e => absurd e.1 (by decide)⟩ (by decide) (un_r (fun e => absurd e.1 (by simp)) (un_n un_nil)) (us_r (fun e => absurd e.1 (by simp)) us_nil) (lwg_at 54 (by decide +kernel) rfl) (by decide) (by decide) d_M_init_636 ?_
  have hR := R1.aD (f := 191) (a := 23) hR
  refine x_pA gp_M_212_12 rfl (by decide) rfl hO.1 hO.z rfl d_M_init_638 ?_
  refine x_aload_n (i := 0) d_M_init_641 rfl rfl ?_
  refine x_ic (v := 4) d_M_init_642 (by decide) ?_
  refine x_ic (v := 4) d_M_init_643 (by decide) ?_
  have oa : Ob (gU Γ 23 (191 :: 190 :: 189 :: 188 :: 187 :: 186 :: 185 :: 184 :: 183 :: 182 :: 181 :: 180 :: 179 :: 178 :: 177 :: 173 :: 172 :: 171 :: 170 :: 167 :: 166 :: 165 :: 160 :: 159 :: 158 :: 157 :: 156 :: 153 :: 151 :: 150 :: 149 :: 147 :: 146 :: 145 :: 144 :: 143 :: 142 :: 141 :: 140 :: 139 :: 138 :: 137 :: 136 :: 135 :: 134 :: 133 :: 130 :: 129 :: 128 :: 127 :: 126 :: 124 :: 123 :: 122 :: 121 :: 120 :: 119 :: 116 :: 115 :: 114 :: 113 :: 112 :: 111 :: 110 :: [])) 23 12 := hO.ob rfl rfl (by decide +kernel)
  refine y_V2v cs_M_215 rfl oa (by decide) (Nat.le_of_ble_eq_true rfl) d_M_init_644 (c_M_clears oa 4 4 _ _ e) (by decide) (by decide) ?_
  refine x_ic (v := 0) d_M_init_647 (by decide) ?_
  refine x_stn (i := 1) (ls' := [some (.inr (0, 23)), some (.inl 0)]) d_M_init_648 rfl (by decide) rfl ?_
  refine x_iload_n (i := 1) d_M_init_649 rfl rfl ?_
  refine x_ic (v := 3) d_M_init_650 (by decide) ?_
  refine x_cmp_ge (tgt := 667) d_M_init_651 (by decide) (fun c => absurd c (by decide)) (fun _ => ?_)
  refine x_aload_n (i := 0) d_M_init_654 rfl rfl ?_
  refine x_getA (f := 171) gl_M_161_12 rfl (by decide) oa d_M_init_655 ?_
  refine x_iload_n (i := 1) d_M_init_658 rfl rfl ?_
  refine x_ic (v := -1) d_M_init_659 (by decide) ?_
  refine x_iast (n := 3) (by decide) (by rw [oa.at (j := 61) (f := 171) rfl (by decide) rfl]; decide) (by rfl) (by decide) d_M_init_660 ?_
  refine x_inc (i := 1) (c0 := 1) (ls' := [some (.inr (0, 23)), some (.inl 1)]) d_M_init_661 (by decide) rfl (by decide) rfl ?_
  refine x_goto (tgt := 649) d_M_init_664 (by decide) ?_
  refine x_iload_n (i := 1) d_M_init_649 rfl rfl ?_
  refine x_ic (v := 3) d_M_init_650 (by decide) ?_
  refine x_cmp_ge (tgt := 667) d_M_init_651 (by decide) (fun c => absurd c (by decide)) (fun _ => ?_)
  refine x_aload_n (i := 0) d_M_init_654 rfl rfl ?_
  refine x_getA (f := 171) gl_M_161_12 rfl (by decide) oa d_M_init_655 ?_
  refine x_iload_n (i := 1) d_M_init_658 rfl rfl ?_
  refine x_ic (v := -1) d_M_init_659 (by decide) ?_
  refine x_iast (n := 3) (by decide) (by rw [oa.at (j := 61) (f := 171) rfl (by decide) rfl]; decide) (by rfl) (by decide) d_M_init_660 ?_
  refine x_inc (i := 1) (c0 := 1) (ls' := [some (.inr (0, 23)), some (.inl 2)]) d_M_init_661 (by decide) rfl (by decide) rfl ?_
  refine x_goto (tgt := 649) d_M_init_664 (by decide) ?_
  refine x_iload_n (i := 1) d_M_init_649 rfl rfl ?_
  refine x_ic (v := 3) d_M_init_650 (by decide) ?_
  refine x_cmp_ge (tgt := 667) d_M_init_651 (by decide) (fun c => absurd c (by decide)) (fun _ => ?_)
  refine x_aload_n (i := 0) d_M_init_654 rfl rfl ?_
  refine x_getA (f := 171) gl_M_161_12 rfl (by decide) oa d_M_init_655 ?_
  refine x_iload_n (i := 1) d_M_init_658 rfl rfl ?_
  refine x_ic (v := -1) d_M_init_659 (by decide) ?_
  refine x_iast (n := 3) (by decide) (by rw [oa.at (j := 61) (f := 171) rfl (by decide) rfl]; decide) (by rfl) (by decide) d_M_init_660 ?_
  refine x_inc (i := 1) (c0 := 1) (ls' := [some (.inr (0, 23)), some (.inl 3)]) d_M_init_661 (by decide) rfl (by decide) rfl ?_
  refine x_goto (tgt := 649) d_M_init_664 (by decide) ?_
  refine x_iload_n (i := 1) d_M_init_649 rfl rfl ?_
  refine x_ic (v := 3) d_M_init_650 (by decide) ?_
  refine x_cmp_ge (tgt := 667) d_M_init_651 (by decide) (fun _ => ?_) (fun c => absurd (by decide) c)
  exact x_vret rfl d_M_init_667 (Nat.le_refl _) (Nat.le_refl _)
