/-! the constructors of Run and BlockStage (wip/whole/gen24.py) -/
theorem fr_Pr_init {a : Nat} {δ : Dl} : (F_Pr_init a δ).2.2 = δ.2.2 := rfl
theorem fr_Wi_init {a : Nat} {δ : Dl} : (F_Wi_init a δ).2.2 = δ.2.2 := rfl
theorem fr_Sh_init {a : Nat} {δ : Dl} : (F_Sh_init a δ).2.2 = δ.2.2 := rfl
theorem fr_By_init14 {δ : Dl} : (F_By_init14 δ).2.2 = δ.2.2 := rfl
theorem fr_By_init15 {δ : Dl} : (F_By_init15 δ).2.2 = δ.2.2 := rfl
theorem fr_St_setCell {a : Nat} {x y z : Int32} {δ r : Dl} (h : F_St_setCell a x y z δ = some r) : r.2.2 = δ.2.2 := by
  unfold F_St_setCell at h
  simp only [bnd] at h
  split at h
  · cases h; rfl
  split at h
  · cases h; rfl
  split at h
  · cases h; rfl
  · cases h
theorem fr_St_empty_33 {a : Nat} {x1 x2 : Int32} {k : Int32 → Dl → Option Dl} (hk : ∀ x δ r, k x δ = some r → r.2.2 = δ.2.2) : ∀ (n : Nat) (x3 x4 : Int32) (δ r : Dl), F_St_empty_33 a x1 x2 k n x3 x4 δ = some r → r.2.2 = δ.2.2 := by
  intro n
  induction n with
  | zero => intro x3 x4 δ r h; cases h
  | succ n ih =>
    intro x3 x4 δ r h
    have h : F_St_empty_33_b a x1 x2 k (F_St_empty_33 a x1 x2 k n) x3 x4 δ = some r := h
    unfold F_St_empty_33_b at h
    split at h
    · exact hk _ _ _ h
    · obtain ⟨δ1, e1, h⟩ := bd_e h
      exact (ih _ _ _ _ h).trans (fr_St_setCell e1)
theorem fr_St_empty_25 {a : Nat} {x1 x2 : Int32} : ∀ (n : Nat) (x3 : Int32) (δ r : Dl), F_St_empty_25 a x1 x2 n x3 δ = some r → r.2.2 = δ.2.2 := by
  intro n
  induction n with
  | zero => intro x3 δ r h; cases h
  | succ n ih =>
    intro x3 δ r h
    have h : F_St_empty_25_b a x1 x2 (F_St_empty_25 a x1 x2 n) x3 δ = some r := h
    unfold F_St_empty_25_b at h
    split at h
    · cases h; rfl
    · exact fr_St_empty_33 (fun x δ r h => ih x δ r h) _ _ _ _ _ h
theorem fr_Ar_fill2_5 {f0 b0 : Nat} {N0 x1 : Int32} : ∀ (n : Nat) (x2 x3 : Int32) (δ r : Dl), F_Ar_fill2_5 f0 b0 N0 x1 n x2 x3 δ = some r → r.2.2 = δ.2.2 := by
  intro n
  induction n with
  | zero => intro x2 x3 δ r h; cases h
  | succ n ih =>
    intro x2 x3 δ r h
    have h : F_Ar_fill2_5_b f0 b0 N0 x1 (F_Ar_fill2_5 f0 b0 N0 x1 n) x2 x3 δ = some r := h
    unfold F_Ar_fill2_5_b at h
    simp only [bnd] at h
    split at h
    · cases h; rfl
    split at h
    · exact (ih _ _ _ _ h).trans rfl
    · cases h
theorem r_aD {δ X : Dl} {f a : Nat} (h : X.2.2 = δ.2.2) : (aD X f a).2.2 = δ.2.2 := h
theorem r_sI {δ X : Dl} {f a : Nat} {v : Int32} (h : X.2.2 = δ.2.2) : (sI X f a v).2.2 = δ.2.2 := h
theorem r_nD {Z X : Dl} {b ci n : Nat} (h : X.2.2 = Z.2.2) : (nD X b ci n).2.2 = (nD Z b ci n).2.2 := by
  show (fun f a => if a = b ∧ wfb ci ≤ f ∧ f < wfb ci + n then (1, 0) else X.2.2 f a) = fun f a => if a = b ∧ wfb ci ≤ f ∧ f < wfb ci + n then (1, 0) else Z.2.2 f a
  rw [h]
theorem fr_St_init {a : Nat} {δ r : Dl} (h : F_St_init a δ = some r) : r.2.2 = δ.2.2 := by
  unfold F_St_init F_St_empty at h
  simp only [bnd] at h
  obtain ⟨δ1, e1, h⟩ := bd_e h
  exact (fr_St_empty_25 _ _ _ _ h).trans ((fr_Ar_fill2_5 _ _ _ _ _ e1).trans (r_sI (r_sI (r_sI (r_aD (r_aD (r_aD (r_aD (r_aD (r_aD (r_aD (r_sI (r_sI (r_sI rfl))))))))))))))

abbrev M_Ru_init : MM := (⟨RX5, "<init>", "()V"⟩, prog_7_method_1_code, 1, none)
theorem d_Ru_init_0 : decode M_Ru_init.2.1 0 = .ok (.aload_n 0, 1) := by decide +kernel
theorem d_Ru_init_1 : decode M_Ru_init.2.1 1 = .ok (.invokespecial 3, 3) := by decide +kernel
theorem d_Ru_init_4 : decode M_Ru_init.2.1 4 = .ok (.aload_n 0, 1) := by decide +kernel
theorem d_Ru_init_5 : decode M_Ru_init.2.1 5 = .ok (.new 9, 3) := by decide +kernel
theorem d_Ru_init_8 : decode M_Ru_init.2.1 8 = .ok (.dup, 1) := by decide +kernel
theorem d_Ru_init_9 : decode M_Ru_init.2.1 9 = .ok (.invokespecial 11, 3) := by decide +kernel
theorem d_Ru_init_12 : decode M_Ru_init.2.1 12 = .ok (.putfield 12, 3) := by decide +kernel
theorem d_Ru_init_15 : decode M_Ru_init.2.1 15 = .ok (.aload_n 0, 1) := by decide +kernel
theorem d_Ru_init_16 : decode M_Ru_init.2.1 16 = .ok (.new 18, 3) := by decide +kernel
theorem d_Ru_init_19 : decode M_Ru_init.2.1 19 = .ok (.dup, 1) := by decide +kernel
theorem d_Ru_init_20 : decode M_Ru_init.2.1 20 = .ok (.invokespecial 20, 3) := by decide +kernel
theorem d_Ru_init_23 : decode M_Ru_init.2.1 23 = .ok (.putfield 21, 3) := by decide +kernel
theorem d_Ru_init_26 : decode M_Ru_init.2.1 26 = .ok (.aload_n 0, 1) := by decide +kernel
theorem d_Ru_init_27 : decode M_Ru_init.2.1 27 = .ok (.iconst 0, 1) := by decide +kernel
theorem d_Ru_init_28 : decode M_Ru_init.2.1 28 = .ok (.putfield 25, 3) := by decide +kernel
theorem d_Ru_init_31 : decode M_Ru_init.2.1 31 = .ok (.aload_n 0, 1) := by decide +kernel
theorem d_Ru_init_32 : decode M_Ru_init.2.1 32 = .ok (.iconst 0, 1) := by decide +kernel
theorem d_Ru_init_33 : decode M_Ru_init.2.1 33 = .ok (.putfield 29, 3) := by decide +kernel
theorem d_Ru_init_36 : decode M_Ru_init.2.1 36 = .ok (.aload_n 0, 1) := by decide +kernel
theorem d_Ru_init_37 : decode M_Ru_init.2.1 37 = .ok (.iconst 0, 1) := by decide +kernel
theorem d_Ru_init_38 : decode M_Ru_init.2.1 38 = .ok (.putfield 33, 3) := by decide +kernel
theorem d_Ru_init_41 : decode M_Ru_init.2.1 41 = .ok (.aload_n 0, 1) := by decide +kernel
theorem d_Ru_init_42 : decode M_Ru_init.2.1 42 = .ok (.sipush 150, 3) := by decide +kernel
theorem d_Ru_init_45 : decode M_Ru_init.2.1 45 = .ok (.newarray .int, 2) := by decide +kernel
theorem d_Ru_init_47 : decode M_Ru_init.2.1 47 = .ok (.putfield 36, 3) := by decide +kernel
theorem d_Ru_init_50 : decode M_Ru_init.2.1 50 = .ok (.aload_n 0, 1) := by decide +kernel
theorem d_Ru_init_51 : decode M_Ru_init.2.1 51 = .ok (.bipush 6, 2) := by decide +kernel
theorem d_Ru_init_53 : decode M_Ru_init.2.1 53 = .ok (.newarray .int, 2) := by decide +kernel
theorem d_Ru_init_55 : decode M_Ru_init.2.1 55 = .ok (.putfield 40, 3) := by decide +kernel
theorem d_Ru_init_58 : decode M_Ru_init.2.1 58 = .ok (.aload_n 0, 1) := by decide +kernel
theorem d_Ru_init_59 : decode M_Ru_init.2.1 59 = .ok (.bipush 6, 2) := by decide +kernel
theorem d_Ru_init_61 : decode M_Ru_init.2.1 61 = .ok (.newarray .int, 2) := by decide +kernel
theorem d_Ru_init_63 : decode M_Ru_init.2.1 63 = .ok (.putfield 43, 3) := by decide +kernel
theorem d_Ru_init_66 : decode M_Ru_init.2.1 66 = .ok (.aload_n 0, 1) := by decide +kernel
theorem d_Ru_init_67 : decode M_Ru_init.2.1 67 = .ok (.bipush 6, 2) := by decide +kernel
theorem d_Ru_init_69 : decode M_Ru_init.2.1 69 = .ok (.newarray .boolean, 2) := by decide +kernel
theorem d_Ru_init_71 : decode M_Ru_init.2.1 71 = .ok (.putfield 46, 3) := by decide +kernel
theorem d_Ru_init_74 : decode M_Ru_init.2.1 74 = .ok (.aload_n 0, 1) := by decide +kernel
theorem d_Ru_init_75 : decode M_Ru_init.2.1 75 = .ok (.bipush 6, 2) := by decide +kernel
theorem d_Ru_init_77 : decode M_Ru_init.2.1 77 = .ok (.newarray .int, 2) := by decide +kernel
theorem d_Ru_init_79 : decode M_Ru_init.2.1 79 = .ok (.putfield 50, 3) := by decide +kernel
theorem d_Ru_init_82 : decode M_Ru_init.2.1 82 = .ok (.aload_n 0, 1) := by decide +kernel
theorem d_Ru_init_83 : decode M_Ru_init.2.1 83 = .ok (.bipush 30, 2) := by decide +kernel
theorem d_Ru_init_85 : decode M_Ru_init.2.1 85 = .ok (.newarray .int, 2) := by decide +kernel
theorem d_Ru_init_87 : decode M_Ru_init.2.1 87 = .ok (.putfield 53, 3) := by decide +kernel
theorem d_Ru_init_90 : decode M_Ru_init.2.1 90 = .ok (.aload_n 0, 1) := by decide +kernel
theorem d_Ru_init_91 : decode M_Ru_init.2.1 91 = .ok (.iconst 0, 1) := by decide +kernel
theorem d_Ru_init_92 : decode M_Ru_init.2.1 92 = .ok (.putfield 56, 3) := by decide +kernel
theorem d_Ru_init_95 : decode M_Ru_init.2.1 95 = .ok (.aload_n 0, 1) := by decide +kernel
theorem d_Ru_init_96 : decode M_Ru_init.2.1 96 = .ok (.iconst 0, 1) := by decide +kernel
theorem d_Ru_init_97 : decode M_Ru_init.2.1 97 = .ok (.putfield 59, 3) := by decide +kernel
theorem d_Ru_init_100 : decode M_Ru_init.2.1 100 = .ok (.aload_n 0, 1) := by decide +kernel
theorem d_Ru_init_101 : decode M_Ru_init.2.1 101 = .ok (.iconst 0, 1) := by decide +kernel
theorem d_Ru_init_102 : decode M_Ru_init.2.1 102 = .ok (.putfield 62, 3) := by decide +kernel
theorem d_Ru_init_105 : decode M_Ru_init.2.1 105 = .ok (.return_, 1) := by decide +kernel
abbrev M_Bs_init : MM := (⟨RX11, "<init>", "()V"⟩, prog_1_method_1_code, 2, none)
theorem d_Bs_init_0 : decode M_Bs_init.2.1 0 = .ok (.aload_n 0, 1) := by decide +kernel
theorem d_Bs_init_1 : decode M_Bs_init.2.1 1 = .ok (.invokespecial 5, 3) := by decide +kernel
theorem d_Bs_init_4 : decode M_Bs_init.2.1 4 = .ok (.aload_n 0, 1) := by decide +kernel
theorem d_Bs_init_5 : decode M_Bs_init.2.1 5 = .ok (.new 11, 3) := by decide +kernel
theorem d_Bs_init_8 : decode M_Bs_init.2.1 8 = .ok (.dup, 1) := by decide +kernel
theorem d_Bs_init_9 : decode M_Bs_init.2.1 9 = .ok (.invokespecial 13, 3) := by decide +kernel
theorem d_Bs_init_12 : decode M_Bs_init.2.1 12 = .ok (.putfield 14, 3) := by decide +kernel
theorem d_Bs_init_15 : decode M_Bs_init.2.1 15 = .ok (.aload_n 0, 1) := by decide +kernel
theorem d_Bs_init_16 : decode M_Bs_init.2.1 16 = .ok (.new 11, 3) := by decide +kernel
theorem d_Bs_init_19 : decode M_Bs_init.2.1 19 = .ok (.dup, 1) := by decide +kernel
theorem d_Bs_init_20 : decode M_Bs_init.2.1 20 = .ok (.invokespecial 13, 3) := by decide +kernel
theorem d_Bs_init_23 : decode M_Bs_init.2.1 23 = .ok (.putfield 18, 3) := by decide +kernel
theorem d_Bs_init_26 : decode M_Bs_init.2.1 26 = .ok (.aload_n 0, 1) := by decide +kernel
theorem d_Bs_init_27 : decode M_Bs_init.2.1 27 = .ok (.new 21, 3) := by decide +kernel
theorem d_Bs_init_30 : decode M_Bs_init.2.1 30 = .ok (.dup, 1) := by decide +kernel
theorem d_Bs_init_31 : decode M_Bs_init.2.1 31 = .ok (.invokespecial 23, 3) := by decide +kernel
theorem d_Bs_init_34 : decode M_Bs_init.2.1 34 = .ok (.putfield 24, 3) := by decide +kernel
theorem d_Bs_init_37 : decode M_Bs_init.2.1 37 = .ok (.aload_n 0, 1) := by decide +kernel
theorem d_Bs_init_38 : decode M_Bs_init.2.1 38 = .ok (.iconst 4, 1) := by decide +kernel
theorem d_Bs_init_39 : decode M_Bs_init.2.1 39 = .ok (.anewarray 21, 3) := by decide +kernel
theorem d_Bs_init_42 : decode M_Bs_init.2.1 42 = .ok (.putfield 28, 3) := by decide +kernel
theorem d_Bs_init_45 : decode M_Bs_init.2.1 45 = .ok (.aload_n 0, 1) := by decide +kernel
theorem d_Bs_init_46 : decode M_Bs_init.2.1 46 = .ok (.iconst 0, 1) := by decide +kernel
theorem d_Bs_init_47 : decode M_Bs_init.2.1 47 = .ok (.putfield 32, 3) := by decide +kernel
theorem d_Bs_init_50 : decode M_Bs_init.2.1 50 = .ok (.aload_n 0, 1) := by decide +kernel
theorem d_Bs_init_51 : decode M_Bs_init.2.1 51 = .ok (.new 36, 3) := by decide +kernel
theorem d_Bs_init_54 : decode M_Bs_init.2.1 54 = .ok (.dup, 1) := by decide +kernel
theorem d_Bs_init_55 : decode M_Bs_init.2.1 55 = .ok (.invokespecial 38, 3) := by decide +kernel
theorem d_Bs_init_58 : decode M_Bs_init.2.1 58 = .ok (.putfield 39, 3) := by decide +kernel
theorem d_Bs_init_61 : decode M_Bs_init.2.1 61 = .ok (.aload_n 0, 1) := by decide +kernel
theorem d_Bs_init_62 : decode M_Bs_init.2.1 62 = .ok (.new 36, 3) := by decide +kernel
theorem d_Bs_init_65 : decode M_Bs_init.2.1 65 = .ok (.dup, 1) := by decide +kernel
theorem d_Bs_init_66 : decode M_Bs_init.2.1 66 = .ok (.invokespecial 38, 3) := by decide +kernel
theorem d_Bs_init_69 : decode M_Bs_init.2.1 69 = .ok (.putfield 43, 3) := by decide +kernel
theorem d_Bs_init_72 : decode M_Bs_init.2.1 72 = .ok (.aload_n 0, 1) := by decide +kernel
theorem d_Bs_init_73 : decode M_Bs_init.2.1 73 = .ok (.new 46, 3) := by decide +kernel
theorem d_Bs_init_76 : decode M_Bs_init.2.1 76 = .ok (.dup, 1) := by decide +kernel
theorem d_Bs_init_77 : decode M_Bs_init.2.1 77 = .ok (.bipush 80, 2) := by decide +kernel
theorem d_Bs_init_79 : decode M_Bs_init.2.1 79 = .ok (.invokespecial 48, 3) := by decide +kernel
theorem d_Bs_init_82 : decode M_Bs_init.2.1 82 = .ok (.putfield 51, 3) := by decide +kernel
theorem d_Bs_init_85 : decode M_Bs_init.2.1 85 = .ok (.aload_n 0, 1) := by decide +kernel
theorem d_Bs_init_86 : decode M_Bs_init.2.1 86 = .ok (.new 46, 3) := by decide +kernel
theorem d_Bs_init_89 : decode M_Bs_init.2.1 89 = .ok (.dup, 1) := by decide +kernel
theorem d_Bs_init_90 : decode M_Bs_init.2.1 90 = .ok (.sipush 300, 3) := by decide +kernel
theorem d_Bs_init_93 : decode M_Bs_init.2.1 93 = .ok (.invokespecial 48, 3) := by decide +kernel
theorem d_Bs_init_96 : decode M_Bs_init.2.1 96 = .ok (.putfield 55, 3) := by decide +kernel
theorem d_Bs_init_99 : decode M_Bs_init.2.1 99 = .ok (.aload_n 0, 1) := by decide +kernel
theorem d_Bs_init_100 : decode M_Bs_init.2.1 100 = .ok (.new 58, 3) := by decide +kernel
theorem d_Bs_init_103 : decode M_Bs_init.2.1 103 = .ok (.dup, 1) := by decide +kernel
theorem d_Bs_init_104 : decode M_Bs_init.2.1 104 = .ok (.invokespecial 60, 3) := by decide +kernel
theorem d_Bs_init_107 : decode M_Bs_init.2.1 107 = .ok (.putfield 61, 3) := by decide +kernel
theorem d_Bs_init_110 : decode M_Bs_init.2.1 110 = .ok (.aload_n 0, 1) := by decide +kernel
theorem d_Bs_init_111 : decode M_Bs_init.2.1 111 = .ok (.new 58, 3) := by decide +kernel
theorem d_Bs_init_114 : decode M_Bs_init.2.1 114 = .ok (.dup, 1) := by decide +kernel
theorem d_Bs_init_115 : decode M_Bs_init.2.1 115 = .ok (.invokespecial 60, 3) := by decide +kernel
theorem d_Bs_init_118 : decode M_Bs_init.2.1 118 = .ok (.putfield 65, 3) := by decide +kernel
theorem d_Bs_init_121 : decode M_Bs_init.2.1 121 = .ok (.aload_n 0, 1) := by decide +kernel
theorem d_Bs_init_122 : decode M_Bs_init.2.1 122 = .ok (.new 68, 3) := by decide +kernel
theorem d_Bs_init_125 : decode M_Bs_init.2.1 125 = .ok (.dup, 1) := by decide +kernel
theorem d_Bs_init_126 : decode M_Bs_init.2.1 126 = .ok (.invokespecial 70, 3) := by decide +kernel
theorem d_Bs_init_129 : decode M_Bs_init.2.1 129 = .ok (.putfield 71, 3) := by decide +kernel
theorem d_Bs_init_132 : decode M_Bs_init.2.1 132 = .ok (.aload_n 0, 1) := by decide +kernel
theorem d_Bs_init_133 : decode M_Bs_init.2.1 133 = .ok (.aconst_null, 1) := by decide +kernel
theorem d_Bs_init_134 : decode M_Bs_init.2.1 134 = .ok (.putfield 75, 3) := by decide +kernel
theorem d_Bs_init_137 : decode M_Bs_init.2.1 137 = .ok (.aload_n 0, 1) := by decide +kernel
theorem d_Bs_init_138 : decode M_Bs_init.2.1 138 = .ok (.iconst 0, 1) := by decide +kernel
theorem d_Bs_init_139 : decode M_Bs_init.2.1 139 = .ok (.putfield 79, 3) := by decide +kernel
theorem d_Bs_init_142 : decode M_Bs_init.2.1 142 = .ok (.aload_n 0, 1) := by decide +kernel
theorem d_Bs_init_143 : decode M_Bs_init.2.1 143 = .ok (.iconst (-1), 1) := by decide +kernel
theorem d_Bs_init_144 : decode M_Bs_init.2.1 144 = .ok (.putfield 83, 3) := by decide +kernel
theorem d_Bs_init_147 : decode M_Bs_init.2.1 147 = .ok (.aload_n 0, 1) := by decide +kernel
theorem d_Bs_init_148 : decode M_Bs_init.2.1 148 = .ok (.iconst (-1), 1) := by decide +kernel
theorem d_Bs_init_149 : decode M_Bs_init.2.1 149 = .ok (.putfield 86, 3) := by decide +kernel
theorem d_Bs_init_152 : decode M_Bs_init.2.1 152 = .ok (.aload_n 0, 1) := by decide +kernel
theorem d_Bs_init_153 : decode M_Bs_init.2.1 153 = .ok (.iconst 4, 1) := by decide +kernel
theorem d_Bs_init_154 : decode M_Bs_init.2.1 154 = .ok (.newarray .int, 2) := by decide +kernel
theorem d_Bs_init_156 : decode M_Bs_init.2.1 156 = .ok (.putfield 89, 3) := by decide +kernel
theorem d_Bs_init_159 : decode M_Bs_init.2.1 159 = .ok (.aload_n 0, 1) := by decide +kernel
theorem d_Bs_init_160 : decode M_Bs_init.2.1 160 = .ok (.iconst 0, 1) := by decide +kernel
theorem d_Bs_init_161 : decode M_Bs_init.2.1 161 = .ok (.putfield 93, 3) := by decide +kernel
theorem d_Bs_init_164 : decode M_Bs_init.2.1 164 = .ok (.iconst 0, 1) := by decide +kernel
theorem d_Bs_init_165 : decode M_Bs_init.2.1 165 = .ok (.istore_n 1, 1) := by decide +kernel
theorem d_Bs_init_166 : decode M_Bs_init.2.1 166 = .ok (.iload_n 1, 1) := by decide +kernel
theorem d_Bs_init_167 : decode M_Bs_init.2.1 167 = .ok (.iconst 4, 1) := by decide +kernel
theorem d_Bs_init_168 : decode M_Bs_init.2.1 168 = .ok (.if_icmp .ge 22, 3) := by decide +kernel
theorem d_Bs_init_171 : decode M_Bs_init.2.1 171 = .ok (.aload_n 0, 1) := by decide +kernel
theorem d_Bs_init_172 : decode M_Bs_init.2.1 172 = .ok (.getfield 28, 3) := by decide +kernel
theorem d_Bs_init_175 : decode M_Bs_init.2.1 175 = .ok (.iload_n 1, 1) := by decide +kernel
theorem d_Bs_init_176 : decode M_Bs_init.2.1 176 = .ok (.new 21, 3) := by decide +kernel
theorem d_Bs_init_179 : decode M_Bs_init.2.1 179 = .ok (.dup, 1) := by decide +kernel
theorem d_Bs_init_180 : decode M_Bs_init.2.1 180 = .ok (.invokespecial 23, 3) := by decide +kernel
theorem d_Bs_init_183 : decode M_Bs_init.2.1 183 = .ok (.aastore, 1) := by decide +kernel
theorem d_Bs_init_184 : decode M_Bs_init.2.1 184 = .ok (.iinc 1 1, 3) := by decide +kernel
theorem d_Bs_init_187 : decode M_Bs_init.2.1 187 = .ok (.goto (-21), 3) := by decide +kernel
theorem d_Bs_init_190 : decode M_Bs_init.2.1 190 = .ok (.return_, 1) := by decide +kernel
theorem df_3 : ∀ j, j < 5 → defaultValue (tyX3 j) = defv (wfb 3 + j) := fun j hj => dfl ((by decide +kernel : ∀ j, j < 5 → ((isN (tyX3 j) && decide (wty (wfb 3 + j) = 0)) || (isO (tyX3 j) && !decide (wty (wfb 3 + j) = 0))) = true) j hj)
theorem cn_Bs_11 : CN RX11 11 RX3 5 := ⟨(lwg_at 29 (by decide +kernel) rfl), (lwg_at 30 (by decide +kernel) rfl), (lwg_at 2 (by decide +kernel) rfl)⟩
theorem mi_Pr_init : MI M_Pr_init 0 := ⟨(lwg_at 2 (by decide +kernel) rfl), (lwg_at 33 (by decide +kernel) rfl), ⟨by decide +kernel, by decide +kernel⟩, by decide +kernel, by decide⟩
theorem ci_Bs_13 : CIN RX11 13 RX11 M_Pr_init 0 := ⟨(List.mem_of_getElem? (i := 31) (by decide +kernel)), (lwg_at 32 (by decide +kernel) rfl), rfl, rfl, mi_Pr_init⟩
theorem gp_Bs_14_11 : GP RX11 14 11 0 true (.object "BlockStage$Program") := ⟨RX11, TX11, 18, RX11, tyX11, rfl, by decide, (lwg_at 235 (by decide +kernel) rfl), rfl, gl_w inX11, tyX11_ok, nmX11, rfl, by decide +kernel, fun h => by first | rfl | cases h⟩
theorem gp_Bs_18_11 : GP RX11 18 11 1 true (.object "BlockStage$Program") := ⟨RX11, TX11, 18, RX11, tyX11, rfl, by decide, (lwg_at 236 (by decide +kernel) rfl), rfl, gl_w inX11, tyX11_ok, nmX11, rfl, by decide +kernel, fun h => by first | rfl | cases h⟩
theorem df_9 : ∀ j, j < 10 → defaultValue (tyX9 j) = defv (wfb 9 + j) := fun j hj => dfl ((by decide +kernel : ∀ j, j < 10 → ((isN (tyX9 j) && decide (wty (wfb 9 + j) = 0)) || (isO (tyX9 j) && !decide (wty (wfb 9 + j) = 0))) = true) j hj)
theorem cn_Bs_21 : CN RX11 21 RX9 10 := ⟨(lwg_at 55 (by decide +kernel) rfl), (lwg_at 56 (by decide +kernel) rfl), (lwg_at 3 (by decide +kernel) rfl)⟩
theorem mi_St_init : MI M_St_init 0 := ⟨(lwg_at 3 (by decide +kernel) rfl), (lwg_at 59 (by decide +kernel) rfl), ⟨by decide +kernel, by decide +kernel⟩, by decide +kernel, by decide⟩
theorem ci_Bs_23 : CI RX11 23 M_St_init 0 := ⟨(lwg_at 57 (by decide +kernel) rfl), (lwg_at 58 (by decide +kernel) rfl), rfl, rfl, mi_St_init⟩
theorem gp_Bs_24_11 : GP RX11 24 11 2 true (.object "BlockStage$Stage") := ⟨RX11, TX11, 18, RX11, tyX11, rfl, by decide, (lwg_at 237 (by decide +kernel) rfl), rfl, gl_w inX11, tyX11_ok, nmX11, rfl, by decide +kernel, fun h => by first | rfl | cases h⟩
theorem gp_Bs_28_11 : GP RX11 28 11 3 true (.array (.object "BlockStage$Stage")) := ⟨RX11, TX11, 18, RX11, tyX11, rfl, by decide, (lwg_at 238 (by decide +kernel) rfl), rfl, gl_w inX11, tyX11_ok, nmX11, rfl, by decide +kernel, fun h => by first | rfl | cases h⟩
theorem df_5 : ∀ j, j < 14 → defaultValue (tyX5 j) = defv (wfb 5 + j) := fun j hj => dfl ((by decide +kernel : ∀ j, j < 14 → ((isN (tyX5 j) && decide (wty (wfb 5 + j) = 0)) || (isO (tyX5 j) && !decide (wty (wfb 5 + j) = 0))) = true) j hj)
theorem cn_Bs_36 : CN RX11 36 RX5 14 := ⟨(lwg_at 111 (by decide +kernel) rfl), (lwg_at 112 (by decide +kernel) rfl), (lwg_at 5 (by decide +kernel) rfl)⟩
theorem mi_Ru_init : MI M_Ru_init 0 := ⟨(lwg_at 5 (by decide +kernel) rfl), (lwg_at 115 (by decide +kernel) rfl), ⟨by decide +kernel, by decide +kernel⟩, by decide +kernel, by decide⟩
theorem ci_Bs_38 : CIN RX11 38 RX11 M_Ru_init 0 := ⟨(List.mem_of_getElem? (i := 113) (by decide +kernel)), (lwg_at 114 (by decide +kernel) rfl), rfl, rfl, mi_Ru_init⟩
theorem cn_Ru_9 : CN RX5 9 RX3 5 := ⟨(lwg_at 117 (by decide +kernel) rfl), (lwg_at 30 (by decide +kernel) rfl), (lwg_at 2 (by decide +kernel) rfl)⟩
theorem ci_Ru_11 : CIN RX5 11 RX11 M_Pr_init 0 := ⟨(List.mem_of_getElem? (i := 118) (by decide +kernel)), (lwg_at 32 (by decide +kernel) rfl), rfl, rfl, mi_Pr_init⟩
theorem gp_Ru_12_5 : GP RX5 12 5 0 true (.object "BlockStage$Program") := ⟨RX5, TX5, 14, RX5, tyX5, rfl, by decide, (lwg_at 121 (by decide +kernel) rfl), rfl, gl_w inX5, tyX5_ok, nmX5, rfl, by decide +kernel, fun h => by first | rfl | cases h⟩
theorem cn_Ru_18 : CN RX5 18 RX9 10 := ⟨(lwg_at 119 (by decide +kernel) rfl), (lwg_at 56 (by decide +kernel) rfl), (lwg_at 3 (by decide +kernel) rfl)⟩
theorem ci_Ru_20 : CI RX5 20 M_St_init 0 := ⟨(lwg_at 120 (by decide +kernel) rfl), (lwg_at 58 (by decide +kernel) rfl), rfl, rfl, mi_St_init⟩
theorem gp_Ru_21_5 : GP RX5 21 5 1 true (.object "BlockStage$Stage") := ⟨RX5, TX5, 14, RX5, tyX5, rfl, by decide, (lwg_at 123 (by decide +kernel) rfl), rfl, gl_w inX5, tyX5_ok, nmX5, rfl, by decide +kernel, fun h => by first | rfl | cases h⟩
theorem gp_Ru_36_5 : GP RX5 36 5 5 true (.array .int) := ⟨RX5, TX5, 14, RX5, tyX5, rfl, by decide, (lwg_at 133 (by decide +kernel) rfl), rfl, gl_w inX5, tyX5_ok, nmX5, rfl, by decide +kernel, fun h => by first | rfl | cases h⟩
theorem gp_Ru_40_5 : GP RX5 40 5 6 true (.array .int) := ⟨RX5, TX5, 14, RX5, tyX5, rfl, by decide, (lwg_at 134 (by decide +kernel) rfl), rfl, gl_w inX5, tyX5_ok, nmX5, rfl, by decide +kernel, fun h => by first | rfl | cases h⟩
theorem gp_Ru_43_5 : GP RX5 43 5 7 true (.array .int) := ⟨RX5, TX5, 14, RX5, tyX5, rfl, by decide, (lwg_at 135 (by decide +kernel) rfl), rfl, gl_w inX5, tyX5_ok, nmX5, rfl, by decide +kernel, fun h => by first | rfl | cases h⟩
theorem gp_Ru_46_5 : GP RX5 46 5 8 true (.array .boolean) := ⟨RX5, TX5, 14, RX5, tyX5, rfl, by decide, (lwg_at 136 (by decide +kernel) rfl), rfl, gl_w inX5, tyX5_ok, nmX5, rfl, by decide +kernel, fun h => by first | rfl | cases h⟩
theorem gp_Ru_50_5 : GP RX5 50 5 9 true (.array .int) := ⟨RX5, TX5, 14, RX5, tyX5, rfl, by decide, (lwg_at 137 (by decide +kernel) rfl), rfl, gl_w inX5, tyX5_ok, nmX5, rfl, by decide +kernel, fun h => by first | rfl | cases h⟩
theorem gp_Ru_53_5 : GP RX5 53 5 10 true (.array .int) := ⟨RX5, TX5, 14, RX5, tyX5, rfl, by decide, (lwg_at 138 (by decide +kernel) rfl), rfl, gl_w inX5, tyX5_ok, nmX5, rfl, by decide +kernel, fun h => by first | rfl | cases h⟩
theorem gp_Bs_39_11 : GP RX11 39 11 5 true (.object "BlockStage$Run") := ⟨RX11, TX11, 18, RX11, tyX11, rfl, by decide, (lwg_at 240 (by decide +kernel) rfl), rfl, gl_w inX11, tyX11_ok, nmX11, rfl, by decide +kernel, fun h => by first | rfl | cases h⟩
theorem gp_Bs_43_11 : GP RX11 43 11 6 true (.object "BlockStage$Run") := ⟨RX11, TX11, 18, RX11, tyX11, rfl, by decide, (lwg_at 241 (by decide +kernel) rfl), rfl, gl_w inX11, tyX11_ok, nmX11, rfl, by decide +kernel, fun h => by first | rfl | cases h⟩
theorem df_0 : ∀ j, j < 2 → defaultValue (tyX0 j) = defv (wfb 0 + j) := fun j hj => dfl ((by decide +kernel : ∀ j, j < 2 → ((isN (tyX0 j) && decide (wty (wfb 0 + j) = 0)) || (isO (tyX0 j) && !decide (wty (wfb 0 + j) = 0))) = true) j hj)
theorem cn_Bs_46 : CN RX11 46 RX0 2 := ⟨(lwg_at 172 (by decide +kernel) rfl), (lwg_at 173 (by decide +kernel) rfl), (lwg_at 6 (by decide +kernel) rfl)⟩
theorem mi_By_init : MI M_By_init 1 := ⟨(lwg_at 6 (by decide +kernel) rfl), (lwg_at 176 (by decide +kernel) rfl), ⟨by decide +kernel, by decide +kernel⟩, by decide +kernel, by decide⟩
theorem ci_Bs_48 : CI RX11 48 M_By_init 1 := ⟨(lwg_at 174 (by decide +kernel) rfl), (lwg_at 175 (by decide +kernel) rfl), rfl, rfl, mi_By_init⟩
theorem gp_Bs_51_11 : GP RX11 51 11 7 true (.object "BlockStage$Bytes") := ⟨RX11, TX11, 18, RX11, tyX11, rfl, by decide, (lwg_at 242 (by decide +kernel) rfl), rfl, gl_w inX11, tyX11_ok, nmX11, rfl, by decide +kernel, fun h => by first | rfl | cases h⟩
theorem gp_Bs_55_11 : GP RX11 55 11 8 true (.object "BlockStage$Bytes") := ⟨RX11, TX11, 18, RX11, tyX11, rfl, by decide, (lwg_at 243 (by decide +kernel) rfl), rfl, gl_w inX11, tyX11_ok, nmX11, rfl, by decide +kernel, fun h => by first | rfl | cases h⟩
theorem df_10 : ∀ j, j < 7 → defaultValue (tyX10 j) = defv (wfb 10 + j) := fun j hj => dfl ((by decide +kernel : ∀ j, j < 7 → ((isN (tyX10 j) && decide (wty (wfb 10 + j) = 0)) || (isO (tyX10 j) && !decide (wty (wfb 10 + j) = 0))) = true) j hj)
theorem cn_Bs_58 : CN RX11 58 RX10 7 := ⟨(lwg_at 190 (by decide +kernel) rfl), (lwg_at 191 (by decide +kernel) rfl), (lwg_at 8 (by decide +kernel) rfl)⟩
theorem mi_Wi_init : MI M_Wi_init 0 := ⟨(lwg_at 8 (by decide +kernel) rfl), (lwg_at 194 (by decide +kernel) rfl), ⟨by decide +kernel, by decide +kernel⟩, by decide +kernel, by decide⟩
theorem ci_Bs_60 : CIN RX11 60 RX11 M_Wi_init 0 := ⟨(List.mem_of_getElem? (i := 192) (by decide +kernel)), (lwg_at 193 (by decide +kernel) rfl), rfl, rfl, mi_Wi_init⟩
theorem df_7 : ∀ j, j < 3 → defaultValue (tyX7 j) = defv (wfb 7 + j) := fun j hj => dfl ((by decide +kernel : ∀ j, j < 3 → ((isN (tyX7 j) && decide (wty (wfb 7 + j) = 0)) || (isO (tyX7 j) && !decide (wty (wfb 7 + j) = 0))) = true) j hj)
theorem cn_Bs_68 : CN RX11 68 RX7 3 := ⟨(lwg_at 219 (by decide +kernel) rfl), (lwg_at 220 (by decide +kernel) rfl), (lwg_at 9 (by decide +kernel) rfl)⟩
theorem mi_Sh_init : MI M_Sh_init 0 := ⟨(lwg_at 9 (by decide +kernel) rfl), (lwg_at 223 (by decide +kernel) rfl), ⟨by decide +kernel, by decide +kernel⟩, by decide +kernel, by decide⟩
theorem ci_Bs_70 : CIN RX11 70 RX11 M_Sh_init 0 := ⟨(List.mem_of_getElem? (i := 221) (by decide +kernel)), (lwg_at 222 (by decide +kernel) rfl), rfl, rfl, mi_Sh_init⟩
theorem gp_Bs_71_11 : GP RX11 71 11 11 true (.object "BlockStage$Sheets") := ⟨RX11, TX11, 18, RX11, tyX11, rfl, by decide, (lwg_at 246 (by decide +kernel) rfl), rfl, gl_w inX11, tyX11_ok, nmX11, rfl, by decide +kernel, fun h => by first | rfl | cases h⟩
theorem gp_Bs_75_11 : GP RX11 75 11 12 false (.object "BlockStage$Family") := ⟨RX11, TX11, 18, RX11, tyX11, rfl, by decide, (lwg_at 247 (by decide +kernel) rfl), rfl, gl_w inX11, tyX11_ok, nmX11, rfl, by decide +kernel, fun h => by first | rfl | cases h⟩
theorem gp_Bs_89_11 : GP RX11 89 11 16 true (.array .int) := ⟨RX11, TX11, 18, RX11, tyX11, rfl, by decide, (lwg_at 251 (by decide +kernel) rfl), rfl, gl_w inX11, tyX11_ok, nmX11, rfl, by decide +kernel, fun h => by first | rfl | cases h⟩
def GB0 : Gm := nG (fun _ _ => 0) 0 11 18
theorem z_GB0 : Z50 GB0 := fun a => by
  show (if 93 = 0 ∧ a = 0 then 2 else if a = 0 ∧ wfb 11 ≤ 93 ∧ 93 < wfb 11 + 18 then (if wty 93 ≤ 1 then 2 else 0) else 0) = 0
  rw [if_neg (fun e => absurd e.1 (by decide))]
  split
  · decide +kernel
  · rfl
def GB1 : Gm := nG GB0 1 3 5
theorem z_GB1 : Z50 GB1 := z50_nG z_GB0 (by decide)
def GB2 : Gm := gU GB1 1 (34 :: 33 :: 32 :: [])
theorem z_GB2 : Z50 GB2 := z50_gU z_GB1 (by decide)
def GB3 : Gm := sG GB2 90 0 2
theorem z_GB3 : Z50 GB3 := z50_sG z_GB2 (by decide)
def GB4 : Gm := nG GB3 2 3 5
theorem z_GB4 : Z50 GB4 := z50_nG z_GB3 (by decide)
def GB5 : Gm := gU GB4 2 (34 :: 33 :: 32 :: [])
theorem z_GB5 : Z50 GB5 := z50_gU z_GB4 (by decide)
def GB6 : Gm := sG GB5 91 0 2
theorem z_GB6 : Z50 GB6 := z50_sG z_GB5 (by decide)
def GB7 : Gm := nG GB6 3 9 10
theorem z_GB7 : Z50 GB7 := z50_nG z_GB6 (by decide)
def GB8 : Gm := gU GB7 3 (79 :: 78 :: 77 :: 76 :: 75 :: 74 :: 73 :: [])
theorem z_GB8 : Z50 GB8 := z50_gU z_GB7 (by decide)
def GB9 : Gm := sG GB8 92 0 2
theorem z_GB9 : Z50 GB9 := z50_sG z_GB8 (by decide)
def GB10 : Gm := sG GB9 93 0 1
theorem z_GB10 : Z5 GB10 := z5_self (z50_z z_GB9)
def GB11 : Gm := sG GB10 93 0 2
theorem z_GB11 : Z5 GB11 := z5_self z_GB10
def GB12 : Gm := nG GB11 8 5 14
theorem z_GB12 : Z5 GB12 := z5_nG z_GB11 (by decide)
def GR8_0 : Gm := GB12
theorem z_GR8_0 : Z5 GR8_0 := z_GB12
def GR8_1 : Gm := nG GR8_0 9 3 5
theorem z_GR8_1 : Z5 GR8_1 := z5_nG z_GR8_0 (by decide)
def GR8_2 : Gm := gU GR8_1 9 (34 :: 33 :: 32 :: [])
theorem z_GR8_2 : Z5 GR8_2 := z5_gU z_GR8_1 (by decide)
def GR8_3 : Gm := sG GR8_2 40 8 2
theorem z_GR8_3 : Z5 GR8_3 := z5_sG z_GR8_2 (by decide)
def GR8_4 : Gm := nG GR8_3 10 9 10
theorem z_GR8_4 : Z5 GR8_4 := z5_nG z_GR8_3 (by decide)
def GR8_5 : Gm := gU GR8_4 10 (79 :: 78 :: 77 :: 76 :: 75 :: 74 :: 73 :: [])
theorem z_GR8_5 : Z5 GR8_5 := z5_gU z_GR8_4 (by decide)
def GR8_6 : Gm := sG GR8_5 41 8 2
theorem z_GR8_6 : Z5 GR8_6 := z5_sG z_GR8_5 (by decide)
def GR8_7 : Gm := sG GR8_6 45 8 1
theorem z_GR8_7 : Z5 GR8_7 := z5_sG z_GR8_6 (by decide)
def GR8_8 : Gm := sG GR8_7 45 8 2
theorem z_GR8_8 : Z5 GR8_8 := z5_sG z_GR8_7 (by decide)
def GR8_9 : Gm := sG GR8_8 46 8 1
theorem z_GR8_9 : Z5 GR8_9 := z5_sG z_GR8_8 (by decide)
def GR8_10 : Gm := sG GR8_9 46 8 2
theorem z_GR8_10 : Z5 GR8_10 := z5_sG z_GR8_9 (by decide)
def GR8_11 : Gm := sG GR8_10 47 8 1
theorem z_GR8_11 : Z5 GR8_11 := z5_sG z_GR8_10 (by decide)
def GR8_12 : Gm := sG GR8_11 47 8 2
theorem z_GR8_12 : Z5 GR8_12 := z5_sG z_GR8_11 (by decide)
def GR8_13 : Gm := sG GR8_12 48 8 1
theorem z_GR8_13 : Z5 GR8_13 := z5_sG z_GR8_12 (by decide)
def GR8_14 : Gm := sG GR8_13 48 8 2
theorem z_GR8_14 : Z5 GR8_14 := z5_sG z_GR8_13 (by decide)
def GR8_15 : Gm := sG GR8_14 49 8 1
theorem z_GR8_15 : Z5 GR8_15 := z5_sG z_GR8_14 (by decide)
def GR8_16 : Gm := sG GR8_15 49 8 2
theorem z_GR8_16 : Z5 GR8_16 := z5_sG z_GR8_15 (by decide)
def GR8_17 : Gm := sG GR8_16 50 8 1
theorem z_GR8_17 : Z5 GR8_17 := z5_sG z_GR8_16 (by decide)
def GR8_18 : Gm := sG GR8_17 50 8 2
theorem z_GR8_18 : Z5 GR8_18 := z5_sG z_GR8_17 (by decide)
def F_Ru_init8 (δ : Dl) : Option Dl := (F_St_init 10 (nD (F_Pr_init 9 (nD δ 9 3 5)) 10 9 10)).bind fun δ20 => some (sI (sI (sI (aD (aD (aD (aD (aD (aD (sI (sI (sI δ20 42 8 0) 43 8 0) 44 8 0) 45 8) 46 8) 47 8) 48 8) 49 8) 50 8) 51 8 0) 52 8 0) 53 8 0)
theorem fr_Ru_init8 {δ r : Dl} (h : F_Ru_init8 δ = some r) : r.2.2 = (nD (nD δ 9 3 5) 10 9 10).2.2 := by
  unfold F_Ru_init8 at h
  obtain ⟨δ1, e1, h⟩ := bd_e h
  cases h
  have e2 : δ1.2.2 = (nD (nD δ 9 3 5) 10 9 10).2.2 := (fr_St_init e1).trans (r_nD fr_Pr_init)
  exact r_sI (r_sI (r_sI (r_aD (r_aD (r_aD (r_aD (r_aD (r_aD (r_sI (r_sI (r_sI e2)))))))))))
set_option maxRecDepth 40000 in
set_option maxHeartbeats 4000000 in
theorem c_Ru_init8 {l : Launch} (δ : Dl) (hR : RI δ []) (r : Dl) (h : F_Ru_init8 δ = some r) : Ct l M_Ru_init 4 18 724 (NB [0, 23, 8]) [.inr (0, 8)] GR8_0 δ (none, GR8_18, r) := by
  unfold F_Ru_init8 at h
  refine Ct.of2 (n := 0) (ls := [some (.inr (0, 8))]) rfl (by decide +kernel) (Nat.le_of_ble_eq_true rfl) ?_
  refine x_aload_n (i := 0) d_Ru_init_0 rfl rfl ?_
  refine x_oinit (lwg_at 116 (by decide +kernel) rfl) (lwg_at 27 (by decide +kernel) rfl) (lwg_at 28 (by decide +kernel) rfl) (by decide) (by decide) d_Ru_init_1 ?_
  refine x_aload_n (i := 0) d_Ru_init_4 rfl rfl ?_
  refine x_nO (b := 9) (ci := 3) (Γ2 := GR8_1) (kb2 := 1) (sb2 := 5) (by decide) rfl tyX3_ok df_3 (gl_w inX3) cn_Ru_9 (by decide) (RI.ne hR (by decide)) (wsr_S (by decide) (by decide +kernel)) (no5 (by decide)) ⟨by decide, by decide, fun e => absurd e.2 (by decide)⟩ (un_r (fun e => absurd e.2 (by decide)) un_nil) (us_r (fun e => absurd e.2 (by decide)) us_nil) (by decide) (by decide) (by decide) (by decide) rfl d_Ru_init_5 ?_
  have R1 : RI ((nD δ 9 3 5)) [] := RI.nD hR
  refine x_dup d_Ru_init_8 ?_
  refine y_IN0 (kb2 := 4) (sb2 := 335) (Γ2 := GR8_2) ci_Ru_11 (by decide) (Nat.le_of_ble_eq_true rfl) d_Ru_init_9 (c_Pr_init (Mk.new (by decide) rfl (by decide)) _ (RI.r1 R1 (by decide))) (NB.toB (by decide)) (un_r (fun e => e.2.2 ⟨rfl, by decide⟩) un_nil) (us_r (fun e => e.2.2 ⟨rfl, by decide⟩) (us_r (fun e => e.2.2 ⟨rfl, by decide⟩) us_nil)) (by decide) (by decide) (by decide) (by decide) rfl ?_
  have R2 : RI ((F_Pr_init 9 (nD δ 9 3 5))) [] := RI.of R1 fr_Pr_init
  refine x_putS (f := 40) (b := 9) gp_Ru_12_5 rfl (by decide) (by decide) rfl (by decide) (by decide +kernel) d_Ru_init_12 ?_
  refine Xe.cΓ (Γ' := GR8_3) rfl ?_
  refine x_aload_n (i := 0) d_Ru_init_15 rfl rfl ?_
  refine x_nO (b := 10) (ci := 9) (Γ2 := GR8_4) (kb2 := 5) (sb2 := 345) (by decide) rfl tyX9_ok df_9 (gl_w inX9) cn_Ru_18 (by decide) (RI.ne R2 (by decide)) (wsr_S (by decide) (by decide +kernel)) (no5 (by decide)) ⟨by decide, by decide, fun e => absurd e.2 (by decide)⟩ (un_r (fun e => absurd e.2 (by decide)) un_nil) (us_r (fun e => absurd e.2 (by decide)) us_nil) (by decide) (by decide) (by decide) (by decide) rfl d_Ru_init_16 ?_
  have R3 : RI ((nD (F_Pr_init 9 (nD δ 9 3 5)) 10 9 10)) [] := RI.nD R2
  refine x_dup d_Ru_init_19 ?_
  obtain ⟨δ20, e20, h⟩ := bd_e h
  refine y_I0 (kb2 := 12) (sb2 := 520) (Γ2 := GR8_5) ci_Ru_20 (by decide) (Nat.le_of_ble_eq_true rfl) d_Ru_init_20 (c_St_init (Mk.new (by decide) rfl (by decide)) (by decide) _ (RI.r1 R3 (by decide)) _ e20) (NB.toB (by decide)) (un_r (fun e => e.2.2 ⟨rfl, by decide⟩) un_nil) (us_r (fun e => e.2.2 ⟨rfl, by decide⟩) (us_r (fun e => e.2.2 ⟨rfl, by decide⟩) us_nil)) (by decide) (by decide) (by decide) (by decide) rfl ?_
  have R4 : RI (δ20) [] := RI.of R3 (fr_St_init e20)
  refine x_putS (f := 41) (b := 10) gp_Ru_21_5 rfl (by decide) (by decide) rfl (by decide) (by decide +kernel) d_Ru_init_23 ?_
  refine Xe.cΓ (Γ' := GR8_6) rfl ?_
  refine x_aload_n (i := 0) d_Ru_init_26 rfl rfl ?_
  refine x_ic (v := 0) d_Ru_init_27 (by decide) ?_
  refine x_putI gp_Ru_25_5 rfl (by decide) (fun _ => rfl) rfl rfl (by decide) (by decide +kernel) d_Ru_init_28 ?_
  have R5 : RI ((sI δ20 42 8 0)) [] := RI.sI R4
  refine x_aload_n (i := 0) d_Ru_init_31 rfl rfl ?_
  refine x_ic (v := 0) d_Ru_init_32 (by decide) ?_
  refine x_putI gp_Ru_29_5 rfl (by decide) (fun _ => rfl) rfl rfl (by decide) (by decide +kernel) d_Ru_init_33 ?_
  have R6 : RI ((sI (sI δ20 42 8 0) 43 8 0)) [] := RI.sI R5
  refine x_aload_n (i := 0) d_Ru_init_36 rfl rfl ?_
  refine x_ic (v := 0) d_Ru_init_37 (by decide) ?_
  refine x_putI gp_Ru_33_5 rfl (by decide) (fun _ => rfl) rfl rfl (by decide) (by decide +kernel) d_Ru_init_38 ?_
  have R7 : RI ((sI (sI (sI δ20 42 8 0) 43 8 0) 44 8 0)) [] := RI.sI R6
  refine x_aload_n (i := 0) d_Ru_init_41 rfl rfl ?_
  refine x_si (v := 150) d_Ru_init_42 (by decide) ?_
  refine x_nw (f := 45) (b := 8) (w := 150) (Or.inl ⟨by decide, rfl⟩) (by decide) (by rfl) (by decide) (by decide) (by decide +kernel) (RI.r1 R7 (by decide)) ⟨by decide, by decide, fun e => absurd e.1 (by decide)⟩ (by decide) (un_r (fun e => absurd e.1 (by decide)) un_nil) (us_r (fun e => absurd e.1 (by decide)) us_nil) (lwg_at 54 (by decide +kernel) rfl) (by decide) (by decide) d_Ru_init_45 ?_
  refine Xe.cΓ (Γ' := GR8_7) rfl ?_
  have R8 : RI ((aD (sI (sI (sI δ20 42 8 0) 43 8 0) 44 8 0) 45 8)) [] := RI.aD R7
  refine x_putA (f := 45) gp_Ru_36_5 rfl (by decide) (by decide) rfl (by decide) (by decide +kernel) (by decide +kernel) d_Ru_init_47 ?_
  refine Xe.cΓ (Γ' := GR8_8) rfl ?_
  refine x_aload_n (i := 0) d_Ru_init_50 rfl rfl ?_
  refine x_bi (v := 6) d_Ru_init_51 (by decide) ?_
  refine x_nw (f := 46) (b := 8) (w := 6) (Or.inl ⟨by decide, rfl⟩) (by decide) (by rfl) (by decide) (by decide) (by decide +kernel) (RI.r1 R8 (by decide)) ⟨by decide, by decide, fun e => absurd e.1 (by decide)⟩ (by decide) (un_r (fun e => absurd e.1 (by decide)) un_nil) (us_r (fun e => absurd e.1 (by decide)) us_nil) (lwg_at 54 (by decide +kernel) rfl) (by decide) (by decide) d_Ru_init_53 ?_
  refine Xe.cΓ (Γ' := GR8_9) rfl ?_
  have R9 : RI ((aD (aD (sI (sI (sI δ20 42 8 0) 43 8 0) 44 8 0) 45 8) 46 8)) [] := RI.aD R8
  refine x_putA (f := 46) gp_Ru_40_5 rfl (by decide) (by decide) rfl (by decide) (by decide +kernel) (by decide +kernel) d_Ru_init_55 ?_
  refine Xe.cΓ (Γ' := GR8_10) rfl ?_
  refine x_aload_n (i := 0) d_Ru_init_58 rfl rfl ?_
  refine x_bi (v := 6) d_Ru_init_59 (by decide) ?_
  refine x_nw (f := 47) (b := 8) (w := 6) (Or.inl ⟨by decide, rfl⟩) (by decide) (by rfl) (by decide) (by decide) (by decide +kernel) (RI.r1 R9 (by decide)) ⟨by decide, by decide, fun e => absurd e.1 (by decide)⟩ (by decide) (un_r (fun e => absurd e.1 (by decide)) un_nil) (us_r (fun e => absurd e.1 (by decide)) us_nil) (lwg_at 54 (by decide +kernel) rfl) (by decide) (by decide) d_Ru_init_61 ?_
  refine Xe.cΓ (Γ' := GR8_11) rfl ?_
  have R10 : RI ((aD (aD (aD (sI (sI (sI δ20 42 8 0) 43 8 0) 44 8 0) 45 8) 46 8) 47 8)) [] := RI.aD R9
  refine x_putA (f := 47) gp_Ru_43_5 rfl (by decide) (by decide) rfl (by decide) (by decide +kernel) (by decide +kernel) d_Ru_init_63 ?_
  refine Xe.cΓ (Γ' := GR8_12) rfl ?_
  refine x_aload_n (i := 0) d_Ru_init_66 rfl rfl ?_
  refine x_bi (v := 6) d_Ru_init_67 (by decide) ?_
  refine x_nw (f := 48) (b := 8) (w := 6) (Or.inr ⟨by decide, rfl⟩) (by decide) (by rfl) (by decide) (by decide) (by decide +kernel) (RI.r1 R10 (by decide)) ⟨by decide, by decide, fun e => absurd e.1 (by decide)⟩ (by decide) (un_r (fun e => absurd e.1 (by decide)) un_nil) (us_r (fun e => absurd e.1 (by decide)) us_nil) (lwg_at 171 (by decide +kernel) rfl) (by decide) (by decide) d_Ru_init_69 ?_
  refine Xe.cΓ (Γ' := GR8_13) rfl ?_
  have R11 : RI ((aD (aD (aD (aD (sI (sI (sI δ20 42 8 0) 43 8 0) 44 8 0) 45 8) 46 8) 47 8) 48 8)) [] := RI.aD R10
  refine x_putA (f := 48) gp_Ru_46_5 rfl (by decide) (by decide) rfl (by decide) (by decide +kernel) (by decide +kernel) d_Ru_init_71 ?_
  refine Xe.cΓ (Γ' := GR8_14) rfl ?_
  refine x_aload_n (i := 0) d_Ru_init_74 rfl rfl ?_
  refine x_bi (v := 6) d_Ru_init_75 (by decide) ?_
  refine x_nw (f := 49) (b := 8) (w := 6) (Or.inl ⟨by decide, rfl⟩) (by decide) (by rfl) (by decide) (by decide) (by decide +kernel) (RI.r1 R11 (by decide)) ⟨by decide, by decide, fun e => absurd e.1 (by decide)⟩ (by decide) (un_r (fun e => absurd e.1 (by decide)) un_nil) (us_r (fun e => absurd e.1 (by decide)) us_nil) (lwg_at 54 (by decide +kernel) rfl) (by decide) (by decide) d_Ru_init_77 ?_
  refine Xe.cΓ (Γ' := GR8_15) rfl ?_
  have R12 : RI ((aD (aD (aD (aD (aD (sI (sI (sI δ20 42 8 0) 43 8 0) 44 8 0) 45 8) 46 8) 47 8) 48 8) 49 8)) [] := RI.aD R11
  refine x_putA (f := 49) gp_Ru_50_5 rfl (by decide) (by decide) rfl (by decide) (by decide +kernel) (by decide +kernel) d_Ru_init_79 ?_
  refine Xe.cΓ (Γ' := GR8_16) rfl ?_
  refine x_aload_n (i := 0) d_Ru_init_82 rfl rfl ?_
  refine x_bi (v := 30) d_Ru_init_83 (by decide) ?_
  refine x_nw (f := 50) (b := 8) (w := 30) (Or.inl ⟨by decide, rfl⟩) (by decide) (by rfl) (by decide) (by decide) (by decide +kernel) (RI.r1 R12 (by decide)) ⟨by decide, by decide, fun e => absurd e.1 (by decide)⟩ (by decide) (un_r (fun e => absurd e.1 (by decide)) un_nil) (us_r (fun e => absurd e.1 (by decide)) us_nil) (lwg_at 54 (by decide +kernel) rfl) (by decide) (by decide) d_Ru_init_85 ?_
  refine Xe.cΓ (Γ' := GR8_17) rfl ?_
  have R13 : RI ((aD (aD (aD (aD (aD (aD (sI (sI (sI δ20 42 8 0) 43 8 0) 44 8 0) 45 8) 46 8) 47 8) 48 8) 49 8) 50 8)) [] := RI.aD R12
  refine x_putA (f := 50) gp_Ru_53_5 rfl (by decide) (by decide) rfl (by decide) (by decide +kernel) (by decide +kernel) d_Ru_init_87 ?_
  refine Xe.cΓ (Γ' := GR8_18) rfl ?_
  refine x_aload_n (i := 0) d_Ru_init_90 rfl rfl ?_
  refine x_ic (v := 0) d_Ru_init_91 (by decide) ?_
  refine x_putI gp_Ru_56_5 rfl (by decide) (fun _ => rfl) rfl rfl (by decide) (by decide +kernel) d_Ru_init_92 ?_
  have R14 : RI ((sI (aD (aD (aD (aD (aD (aD (sI (sI (sI δ20 42 8 0) 43 8 0) 44 8 0) 45 8) 46 8) 47 8) 48 8) 49 8) 50 8) 51 8 0)) [] := RI.sI R13
  refine x_aload_n (i := 0) d_Ru_init_95 rfl rfl ?_
  refine x_ic (v := 0) d_Ru_init_96 (by decide) ?_
  refine x_putI gp_Ru_59_5 rfl (by decide) (fun _ => rfl) rfl rfl (by decide) (by decide +kernel) d_Ru_init_97 ?_
  have R15 : RI ((sI (sI (aD (aD (aD (aD (aD (aD (sI (sI (sI δ20 42 8 0) 43 8 0) 44 8 0) 45 8) 46 8) 47 8) 48 8) 49 8) 50 8) 51 8 0) 52 8 0)) [] := RI.sI R14
  refine x_aload_n (i := 0) d_Ru_init_100 rfl rfl ?_
  refine x_ic (v := 0) d_Ru_init_101 (by decide) ?_
  refine x_putI gp_Ru_62_5 rfl (by decide) (fun _ => rfl) rfl rfl (by decide) (by decide +kernel) d_Ru_init_102 ?_
  have R16 : RI ((sI (sI (sI (aD (aD (aD (aD (aD (aD (sI (sI (sI δ20 42 8 0) 43 8 0) 44 8 0) 45 8) 46 8) 47 8) 48 8) 49 8) 50 8) 51 8 0) 52 8 0) 53 8 0)) [] := RI.sI R15
  cases h
  exact x_vret rfl d_Ru_init_105 (by decide) (by decide)
def GB13 : Gm := GR8_18
theorem z_GB13 : Z5 GB13 := z_GR8_18
def GB14 : Gm := sG GB13 95 0 2
theorem z_GB14 : Z5 GB14 := z5_sG z_GB13 (by decide)
def GB15 : Gm := nG GB14 11 5 14
theorem z_GB15 : Z5 GB15 := z5_nG z_GB14 (by decide)
def GR11_0 : Gm := GB15
theorem z_GR11_0 : Z5 GR11_0 := z_GB15
def GR11_1 : Gm := nG GR11_0 12 3 5
theorem z_GR11_1 : Z5 GR11_1 := z5_nG z_GR11_0 (by decide)
def GR11_2 : Gm := gU GR11_1 12 (34 :: 33 :: 32 :: [])
theorem z_GR11_2 : Z5 GR11_2 := z5_gU z_GR11_1 (by decide)
def GR11_3 : Gm := sG GR11_2 40 11 2
theorem z_GR11_3 : Z5 GR11_3 := z5_sG z_GR11_2 (by decide)
def GR11_4 : Gm := nG GR11_3 13 9 10
theorem z_GR11_4 : Z5 GR11_4 := z5_nG z_GR11_3 (by decide)
def GR11_5 : Gm := gU GR11_4 13 (79 :: 78 :: 77 :: 76 :: 75 :: 74 :: 73 :: [])
theorem z_GR11_5 : Z5 GR11_5 := z5_gU z_GR11_4 (by decide)
def GR11_6 : Gm := sG GR11_5 41 11 2
theorem z_GR11_6 : Z5 GR11_6 := z5_sG z_GR11_5 (by decide)
def GR11_7 : Gm := sG GR11_6 45 11 1
theorem z_GR11_7 : Z5 GR11_7 := z5_sG z_GR11_6 (by decide)
def GR11_8 : Gm := sG GR11_7 45 11 2
theorem z_GR11_8 : Z5 GR11_8 := z5_sG z_GR11_7 (by decide)
def GR11_9 : Gm := sG GR11_8 46 11 1
theorem z_GR11_9 : Z5 GR11_9 := z5_sG z_GR11_8 (by decide)
def GR11_10 : Gm := sG GR11_9 46 11 2
theorem z_GR11_10 : Z5 GR11_10 := z5_sG z_GR11_9 (by decide)
def GR11_11 : Gm := sG GR11_10 47 11 1
theorem z_GR11_11 : Z5 GR11_11 := z5_sG z_GR11_10 (by decide)
def GR11_12 : Gm := sG GR11_11 47 11 2
theorem z_GR11_12 : Z5 GR11_12 := z5_sG z_GR11_11 (by decide)
def GR11_13 : Gm := sG GR11_12 48 11 1
theorem z_GR11_13 : Z5 GR11_13 := z5_sG z_GR11_12 (by decide)
def GR11_14 : Gm := sG GR11_13 48 11 2
theorem z_GR11_14 : Z5 GR11_14 := z5_sG z_GR11_13 (by decide)
def GR11_15 : Gm := sG GR11_14 49 11 1
theorem z_GR11_15 : Z5 GR11_15 := z5_sG z_GR11_14 (by decide)
def GR11_16 : Gm := sG GR11_15 49 11 2
theorem z_GR11_16 : Z5 GR11_16 := z5_sG z_GR11_15 (by decide)
def GR11_17 : Gm := sG GR11_16 50 11 1
theorem z_GR11_17 : Z5 GR11_17 := z5_sG z_GR11_16 (by decide)
def GR11_18 : Gm := sG GR11_17 50 11 2
theorem z_GR11_18 : Z5 GR11_18 := z5_sG z_GR11_17 (by decide)
def F_Ru_init11 (δ : Dl) : Option Dl := (F_St_init 13 (nD (F_Pr_init 12 (nD δ 12 3 5)) 13 9 10)).bind fun δ20 => some (sI (sI (sI (aD (aD (aD (aD (aD (aD (sI (sI (sI δ20 42 11 0) 43 11 0) 44 11 0) 45 11) 46 11) 47 11) 48 11) 49 11) 50 11) 51 11 0) 52 11 0) 53 11 0)
theorem fr_Ru_init11 {δ r : Dl} (h : F_Ru_init11 δ = some r) : r.2.2 = (nD (nD δ 12 3 5) 13 9 10).2.2 := by
  unfold F_Ru_init11 at h
  obtain ⟨δ1, e1, h⟩ := bd_e h
  cases h
  have e2 : δ1.2.2 = (nD (nD δ 12 3 5) 13 9 10).2.2 := (fr_St_init e1).trans (r_nD fr_Pr_init)
  exact r_sI (r_sI (r_sI (r_aD (r_aD (r_aD (r_aD (r_aD (r_aD (r_sI (r_sI (r_sI e2)))))))))))
set_option maxRecDepth 40000 in
set_option maxHeartbeats 4000000 in
theorem c_Ru_init11 {l : Launch} (δ : Dl) (hR : RI δ []) (r : Dl) (h : F_Ru_init11 δ = some r) : Ct l M_Ru_init 4 18 724 (NB [0, 23, 11]) [.inr (0, 11)] GR11_0 δ (none, GR11_18, r) := by
  unfold F_Ru_init11 at h
  refine Ct.of2 (n := 0) (ls := [some (.inr (0, 11))]) rfl (by decide +kernel) (Nat.le_of_ble_eq_true rfl) ?_
  refine x_aload_n (i := 0) d_Ru_init_0 rfl rfl ?_
  refine x_oinit (lwg_at 116 (by decide +kernel) rfl) (lwg_at 27 (by decide +kernel) rfl) (lwg_at 28 (by decide +kernel) rfl) (by decide) (by decide) d_Ru_init_1 ?_
  refine x_aload_n (i := 0) d_Ru_init_4 rfl rfl ?_
  refine x_nO (b := 12) (ci := 3) (Γ2 := GR11_1) (kb2 := 1) (sb2 := 5) (by decide) rfl tyX3_ok df_3 (gl_w inX3) cn_Ru_9 (by decide) (RI.ne hR (by decide)) (wsr_S (by decide) (by decide +kernel)) (no5 (by decide)) ⟨by decide, by decide, fun e => absurd e.2 (by decide)⟩ (un_r (fun e => absurd e.2 (by decide)) un_nil) (us_r (fun e => absurd e.2 (by decide)) us_nil) (by decide) (by decide) (by decide) (by decide) rfl d_Ru_init_5 ?_
  have R1 : RI ((nD δ 12 3 5)) [] := RI.nD hR
  refine x_dup d_Ru_init_8 ?_
  refine y_IN0 (kb2 := 4) (sb2 := 335) (Γ2 := GR11_2) ci_Ru_11 (by decide) (Nat.le_of_ble_eq_true rfl) d_Ru_init_9 (c_Pr_init (Mk.new (by decide) rfl (by decide)) _ (RI.r1 R1 (by decide))) (NB.toB (by decide)) (un_r (fun e => e.2.2 ⟨rfl, by decide⟩) un_nil) (us_r (fun e => e.2.2 ⟨rfl, by decide⟩) (us_r (fun e => e.2.2 ⟨rfl, by decide⟩) us_nil)) (by decide) (by decide) (by decide) (by decide) rfl ?_
  have R2 : RI ((F_Pr_init 12 (nD δ 12 3 5))) [] := RI.of R1 fr_Pr_init
  refine x_putS (f := 40) (b := 12) gp_Ru_12_5 rfl (by decide) (by decide) rfl (by decide) (by decide +kernel) d_Ru_init_12 ?_
  refine Xe.cΓ (Γ' := GR11_3) rfl ?_
  refine x_aload_n (i := 0) d_Ru_init_15 rfl rfl ?_
  refine x_nO (b := 13) (ci := 9) (Γ2 := GR11_4) (kb2 := 5) (sb2 := 345) (by decide) rfl tyX9_ok df_9 (gl_w inX9) cn_Ru_18 (by decide) (RI.ne R2 (by decide)) (wsr_S (by decide) (by decide +kernel)) (no5 (by decide)) ⟨by decide, by decide, fun e => absurd e.2 (by decide)⟩ (un_r (fun e => absurd e.2 (by decide)) un_nil) (us_r (fun e => absurd e.2 (by decide)) us_nil) (by decide) (by decide) (by decide) (by decide) rfl d_Ru_init_16 ?_
  have R3 : RI ((nD (F_Pr_init 12 (nD δ 12 3 5)) 13 9 10)) [] := RI.nD R2
  refine x_dup d_Ru_init_19 ?_
  obtain ⟨δ20, e20, h⟩ := bd_e h
  refine y_I0 (kb2 := 12) (sb2 := 520) (Γ2 := GR11_5) ci_Ru_20 (by decide) (Nat.le_of_ble_eq_true rfl) d_Ru_init_20 (c_St_init (Mk.new (by decide) rfl (by decide)) (by decide) _ (RI.r1 R3 (by decide)) _ e20) (NB.toB (by decide)) (un_r (fun e => e.2.2 ⟨rfl, by decide⟩) un_nil) (us_r (fun e => e.2.2 ⟨rfl, by decide⟩) (us_r (fun e => e.2.2 ⟨rfl, by decide⟩) us_nil)) (by decide) (by decide) (by decide) (by decide) rfl ?_
  have R4 : RI (δ20) [] := RI.of R3 (fr_St_init e20)
  refine x_putS (f := 41) (b := 13) gp_Ru_21_5 rfl (by decide) (by decide) rfl (by decide) (by decide +kernel) d_Ru_init_23 ?_
  refine Xe.cΓ (Γ' := GR11_6) rfl ?_
  refine x_aload_n (i := 0) d_Ru_init_26 rfl rfl ?_
  refine x_ic (v := 0) d_Ru_init_27 (by decide) ?_
  refine x_putI gp_Ru_25_5 rfl (by decide) (fun _ => rfl) rfl rfl (by decide) (by decide +kernel) d_Ru_init_28 ?_
  have R5 : RI ((sI δ20 42 11 0)) [] := RI.sI R4
  refine x_aload_n (i := 0) d_Ru_init_31 rfl rfl ?_
  refine x_ic (v := 0) d_Ru_init_32 (by decide) ?_
  refine x_putI gp_Ru_29_5 rfl (by decide) (fun _ => rfl) rfl rfl (by decide) (by decide +kernel) d_Ru_init_33 ?_
  have R6 : RI ((sI (sI δ20 42 11 0) 43 11 0)) [] := RI.sI R5
  refine x_aload_n (i := 0) d_Ru_init_36 rfl rfl ?_
  refine x_ic (v := 0) d_Ru_init_37 (by decide) ?_
  refine x_putI gp_Ru_33_5 rfl (by decide) (fun _ => rfl) rfl rfl (by decide) (by decide +kernel) d_Ru_init_38 ?_
  have R7 : RI ((sI (sI (sI δ20 42 11 0) 43 11 0) 44 11 0)) [] := RI.sI R6
  refine x_aload_n (i := 0) d_Ru_init_41 rfl rfl ?_
  refine x_si (v := 150) d_Ru_init_42 (by decide) ?_
  refine x_nw (f := 45) (b := 11) (w := 150) (Or.inl ⟨by decide, rfl⟩) (by decide) (by rfl) (by decide) (by decide) (by decide +kernel) (RI.r1 R7 (by decide)) ⟨by decide, by decide, fun e => absurd e.1 (by decide)⟩ (by decide) (un_r (fun e => absurd e.1 (by decide)) un_nil) (us_r (fun e => absurd e.1 (by decide)) us_nil) (lwg_at 54 (by decide +kernel) rfl) (by decide) (by decide) d_Ru_init_45 ?_
  refine Xe.cΓ (Γ' := GR11_7) rfl ?_
  have R8 : RI ((aD (sI (sI (sI δ20 42 11 0) 43 11 0) 44 11 0) 45 11)) [] := RI.aD R7
  refine x_putA (f := 45) gp_Ru_36_5 rfl (by decide) (by decide) rfl (by decide) (by decide +kernel) (by decide +kernel) d_Ru_init_47 ?_
  refine Xe.cΓ (Γ' := GR11_8) rfl ?_
  refine x_aload_n (i := 0) d_Ru_init_50 rfl rfl ?_
  refine x_bi (v := 6) d_Ru_init_51 (by decide) ?_
  refine x_nw (f := 46) (b := 11) (w := 6) (Or.inl ⟨by decide, rfl⟩) (by decide) (by rfl) (by decide) (by decide) (by decide +kernel) (RI.r1 R8 (by decide)) ⟨by decide, by decide, fun e => absurd e.1 (by decide)⟩ (by decide) (un_r (fun e => absurd e.1 (by decide)) un_nil) (us_r (fun e => absurd e.1 (by decide)) us_nil) (lwg_at 54 (by decide +kernel) rfl) (by decide) (by decide) d_Ru_init_53 ?_
  refine Xe.cΓ (Γ' := GR11_9) rfl ?_
  have R9 : RI ((aD (aD (sI (sI (sI δ20 42 11 0) 43 11 0) 44 11 0) 45 11) 46 11)) [] := RI.aD R8
  refine x_putA (f := 46) gp_Ru_40_5 rfl (by decide) (by decide) rfl (by decide) (by decide +kernel) (by decide +kernel) d_Ru_init_55 ?_
  refine Xe.cΓ (Γ' := GR11_10) rfl ?_
  refine x_aload_n (i := 0) d_Ru_init_58 rfl rfl ?_
  refine x_bi (v := 6) d_Ru_init_59 (by decide) ?_
  refine x_nw (f := 47) (b := 11) (w := 6) (Or.inl ⟨by decide, rfl⟩) (by decide) (by rfl) (by decide) (by decide) (by decide +kernel) (RI.r1 R9 (by decide)) ⟨by decide, by decide, fun e => absurd e.1 (by decide)⟩ (by decide) (un_r (fun e => absurd e.1 (by decide)) un_nil) (us_r (fun e => absurd e.1 (by decide)) us_nil) (lwg_at 54 (by decide +kernel) rfl) (by decide) (by decide) d_Ru_init_61 ?_
  refine Xe.cΓ (Γ' := GR11_11) rfl ?_
  have R10 : RI ((aD (aD (aD (sI (sI (sI δ20 42 11 0) 43 11 0) 44 11 0) 45 11) 46 11) 47 11)) [] := RI.aD R9
  refine x_putA (f := 47) gp_Ru_43_5 rfl (by decide) (by decide) rfl (by decide) (by decide +kernel) (by decide +kernel) d_Ru_init_63 ?_
  refine Xe.cΓ (Γ' := GR11_12) rfl ?_
  refine x_aload_n (i := 0) d_Ru_init_66 rfl rfl ?_
  refine x_bi (v := 6) d_Ru_init_67 (by decide) ?_
  refine x_nw (f := 48) (b := 11) (w := 6) (Or.inr ⟨by decide, rfl⟩) (by decide) (by rfl) (by decide) (by decide) (by decide +kernel) (RI.r1 R10 (by decide)) ⟨by decide, by decide, fun e => absurd e.1 (by decide)⟩ (by decide) (un_r (fun e => absurd e.1 (by decide)) un_nil) (us_r (fun e => absurd e.1 (by decide)) us_nil) (lwg_at 171 (by decide +kernel) rfl) (by decide) (by decide) d_Ru_init_69 ?_
  refine Xe.cΓ (Γ' := GR11_13) rfl ?_
  have R11 : RI ((aD (aD (aD (aD (sI (sI (sI δ20 42 11 0) 43 11 0) 44 11 0) 45 11) 46 11) 47 11) 48 11)) [] := RI.aD R10
  refine x_putA (f := 48) gp_Ru_46_5 rfl (by decide) (by decide) rfl (by decide) (by decide +kernel) (by decide +kernel) d_Ru_init_71 ?_
  refine Xe.cΓ (Γ' := GR11_14) rfl ?_
  refine x_aload_n (i := 0) d_Ru_init_74 rfl rfl ?_
  refine x_bi (v := 6) d_Ru_init_75 (by decide) ?_
  refine x_nw (f := 49) (b := 11) (w := 6) (Or.inl ⟨by decide, rfl⟩) (by decide) (by rfl) (by decide) (by decide) (by decide +kernel) (RI.r1 R11 (by decide)) ⟨by decide, by decide, fun e => absurd e.1 (by decide)⟩ (by decide) (un_r (fun e => absurd e.1 (by decide)) un_nil) (us_r (fun e => absurd e.1 (by decide)) us_nil) (lwg_at 54 (by decide +kernel) rfl) (by decide) (by decide) d_Ru_init_77 ?_
  refine Xe.cΓ (Γ' := GR11_15) rfl ?_
  have R12 : RI ((aD (aD (aD (aD (aD (sI (sI (sI δ20 42 11 0) 43 11 0) 44 11 0) 45 11) 46 11) 47 11) 48 11) 49 11)) [] := RI.aD R11
  refine x_putA (f := 49) gp_Ru_50_5 rfl (by decide) (by decide) rfl (by decide) (by decide +kernel) (by decide +kernel) d_Ru_init_79 ?_
  refine Xe.cΓ (Γ' := GR11_16) rfl ?_
  refine x_aload_n (i := 0) d_Ru_init_82 rfl rfl ?_
  refine x_bi (v := 30) d_Ru_init_83 (by decide) ?_
  refine x_nw (f := 50) (b := 11) (w := 30) (Or.inl ⟨by decide, rfl⟩) (by decide) (by rfl) (by decide) (by decide) (by decide +kernel) (RI.r1 R12 (by decide)) ⟨by decide, by decide, fun e => absurd e.1 (by decide)⟩ (by decide) (un_r (fun e => absurd e.1 (by decide)) un_nil) (us_r (fun e => absurd e.1 (by decide)) us_nil) (lwg_at 54 (by decide +kernel) rfl) (by decide) (by decide) d_Ru_init_85 ?_
  refine Xe.cΓ (Γ' := GR11_17) rfl ?_
  have R13 : RI ((aD (aD (aD (aD (aD (aD (sI (sI (sI δ20 42 11 0) 43 11 0) 44 11 0) 45 11) 46 11) 47 11) 48 11) 49 11) 50 11)) [] := RI.aD R12
  refine x_putA (f := 50) gp_Ru_53_5 rfl (by decide) (by decide) rfl (by decide) (by decide +kernel) (by decide +kernel) d_Ru_init_87 ?_
  refine Xe.cΓ (Γ' := GR11_18) rfl ?_
  refine x_aload_n (i := 0) d_Ru_init_90 rfl rfl ?_
  refine x_ic (v := 0) d_Ru_init_91 (by decide) ?_
  refine x_putI gp_Ru_56_5 rfl (by decide) (fun _ => rfl) rfl rfl (by decide) (by decide +kernel) d_Ru_init_92 ?_
  have R14 : RI ((sI (aD (aD (aD (aD (aD (aD (sI (sI (sI δ20 42 11 0) 43 11 0) 44 11 0) 45 11) 46 11) 47 11) 48 11) 49 11) 50 11) 51 11 0)) [] := RI.sI R13
  refine x_aload_n (i := 0) d_Ru_init_95 rfl rfl ?_
  refine x_ic (v := 0) d_Ru_init_96 (by decide) ?_
  refine x_putI gp_Ru_59_5 rfl (by decide) (fun _ => rfl) rfl rfl (by decide) (by decide +kernel) d_Ru_init_97 ?_
  have R15 : RI ((sI (sI (aD (aD (aD (aD (aD (aD (sI (sI (sI δ20 42 11 0) 43 11 0) 44 11 0) 45 11) 46 11) 47 11) 48 11) 49 11) 50 11) 51 11 0) 52 11 0)) [] := RI.sI R14
  refine x_aload_n (i := 0) d_Ru_init_100 rfl rfl ?_
  refine x_ic (v := 0) d_Ru_init_101 (by decide) ?_
  refine x_putI gp_Ru_62_5 rfl (by decide) (fun _ => rfl) rfl rfl (by decide) (by decide +kernel) d_Ru_init_102 ?_
  have R16 : RI ((sI (sI (sI (aD (aD (aD (aD (aD (aD (sI (sI (sI δ20 42 11 0) 43 11 0) 44 11 0) 45 11) 46 11) 47 11) 48 11) 49 11) 50 11) 51 11 0) 52 11 0) 53 11 0)) [] := RI.sI R15
  cases h
  exact x_vret rfl d_Ru_init_105 (by decide) (by decide)
def GB16 : Gm := GR11_18
theorem z_GB16 : Z5 GB16 := z_GR11_18
def GB17 : Gm := sG GB16 96 0 2
theorem z_GB17 : Z5 GB17 := z5_sG z_GB16 (by decide)
def GB18 : Gm := nG GB17 14 0 2
theorem z_GB18 : Z5 GB18 := z5_nG z_GB17 (by decide)
def GB19 : Gm := gU GB18 14 (11 :: [])
theorem z_GB19 : Z5 GB19 := z5_gU z_GB18 (by decide)
def GB20 : Gm := sG GB19 97 0 2
theorem z_GB20 : Z5 GB20 := z5_sG z_GB19 (by decide)
def GB21 : Gm := nG GB20 15 0 2
theorem z_GB21 : Z5 GB21 := z5_nG z_GB20 (by decide)
def GB22 : Gm := gU GB21 15 (11 :: [])
theorem z_GB22 : Z5 GB22 := z5_gU z_GB21 (by decide)
def GB23 : Gm := sG GB22 98 0 2
theorem z_GB23 : Z5 GB23 := z5_sG z_GB22 (by decide)
def GB24 : Gm := nG GB23 16 10 7
theorem z_GB24 : Z5 GB24 := z5_nG z_GB23 (by decide)
def GB25 : Gm := gU GB24 16 (85 :: 84 :: 83 :: 82 :: 81 :: [])
theorem z_GB25 : Z5 GB25 := z5_gU z_GB24 (by decide)
def GB26 : Gm := nG GB25 17 10 7
theorem z_GB26 : Z5 GB26 := z5_nG z_GB25 (by decide)
def GB27 : Gm := gU GB26 17 (85 :: 84 :: 83 :: 82 :: 81 :: [])
theorem z_GB27 : Z5 GB27 := z5_gU z_GB26 (by decide)
def GB28 : Gm := nG GB27 18 7 3
theorem z_GB28 : Z5 GB28 := z5_nG z_GB27 (by decide)
def GB29 : Gm := gU GB28 18 (62 :: 61 :: 60 :: [])
theorem z_GB29 : Z5 GB29 := z5_gU z_GB28 (by decide)
def GB30 : Gm := sG GB29 101 0 2
theorem z_GB30 : Z5 GB30 := z5_sG z_GB29 (by decide)
def GB31 : Gm := sG GB30 106 0 1
theorem z_GB31 : Z5 GB31 := z5_sG z_GB30 (by decide)
def GB32 : Gm := sG GB31 106 0 2
theorem z_GB32 : Z5 GB32 := z5_sG z_GB31 (by decide)
def GB33 : Gm := nG GB32 4 9 10
theorem z_GB33 : Z5 GB33 := z5_nG z_GB32 (by decide)
def GB34 : Gm := gU GB33 4 (79 :: 78 :: 77 :: 76 :: 75 :: 74 :: 73 :: [])
theorem z_GB34 : Z5 GB34 := z5_gU z_GB33 (by decide)
def GB35 : Gm := nG GB34 5 9 10
theorem z_GB35 : Z5 GB35 := z5_nG z_GB34 (by decide)
def GB36 : Gm := gU GB35 5 (79 :: 78 :: 77 :: 76 :: 75 :: 74 :: 73 :: [])
theorem z_GB36 : Z5 GB36 := z5_gU z_GB35 (by decide)
def GB37 : Gm := nG GB36 6 9 10
theorem z_GB37 : Z5 GB37 := z5_nG z_GB36 (by decide)
def GB38 : Gm := gU GB37 6 (79 :: 78 :: 77 :: 76 :: 75 :: 74 :: 73 :: [])
theorem z_GB38 : Z5 GB38 := z5_gU z_GB37 (by decide)
def GB39 : Gm := nG GB38 7 9 10
theorem z_GB39 : Z5 GB39 := z5_nG z_GB38 (by decide)
def GB40 : Gm := gU GB39 7 (79 :: 78 :: 77 :: 76 :: 75 :: 74 :: 73 :: [])
theorem z_GB40 : Z5 GB40 := z5_gU z_GB39 (by decide)
def F_Bs_init (δ : Dl) : Option Dl := (F_St_init 3 (nD (F_Pr_init 2 (nD (F_Pr_init 1 (nD δ 1 3 5)) 2 3 5)) 3 9 10)).bind fun δ31 => (F_Ru_init8 (nD (sI (qD δ31 93) 94 0 0) 8 5 14)).bind fun δ55 => (F_Ru_init11 (nD δ55 11 5 14)).bind fun δ66 => (F_St_init 4 (nD (sI (aD (sI (sI (sI (sR (F_Sh_init 18 (nD (sR (F_Wi_init 17 (nD (sR (F_Wi_init 16 (nD (F_By_init15 (nD (F_By_init14 (nD δ66 14 0 2)) 15 0 2)) 16 10 7)) 99 0 (0, 16)) 17 10 7)) 100 0 (0, 17)) 18 7 3)) 102 0 (1, 0)) 103 0 0) 104 0 (-1)) 105 0 (-1)) 106 0) 107 0 0) 4 9 10)).bind fun δ180 => (F_St_init 5 (nD (sR δ180 93 (0 : Int32).toNatClampNeg (0, 4)) 5 9 10)).bind fun δ180 => (F_St_init 6 (nD (sR δ180 93 (1 : Int32).toNatClampNeg (0, 5)) 6 9 10)).bind fun δ180 => (F_St_init 7 (nD (sR δ180 93 (2 : Int32).toNatClampNeg (0, 6)) 7 9 10)).bind fun δ180 => some (sR δ180 93 (3 : Int32).toNatClampNeg (0, 7))
set_option maxRecDepth 40000 in
set_option maxHeartbeats 4000000 in
theorem c_Bs_init {l : Launch} (δ : Dl) (hR : RI δ []) (r : Dl) (h : F_Bs_init δ = some r) : Ct l M_Bs_init 5 108 3736 NC [.inr (0, 0)] GB0 δ (none, GB40, r) := by
  unfold F_Bs_init at h
  refine Ct.of2 (n := 1) (ls := [some (.inr (0, 0)), none]) rfl (by decide +kernel) (Nat.le_of_ble_eq_true rfl) ?_
  refine x_aload_n (i := 0) d_Bs_init_0 rfl rfl ?_
  refine x_oinit (lwg_at 26 (by decide +kernel) rfl) (lwg_at 27 (by decide +kernel) rfl) (lwg_at 28 (by decide +kernel) rfl) (by decide) (by decide) d_Bs_init_1 ?_
  refine x_aload_n (i := 0) d_Bs_init_4 rfl rfl ?_
  refine x_nO (b := 1) (ci := 3) (Γ2 := GB1) (kb2 := 1) (sb2 := 5) (by decide) rfl tyX3_ok df_3 (gl_w inX3) cn_Bs_11 (by decide) (RI.ne hR (by decide)) (wsr_S (by decide) (by decide +kernel)) (no5 (by decide)) ⟨by decide, fun e => absurd e.2 (by decide)⟩ (un_r (fun e => absurd e.2 (by decide)) (un_n un_nil)) (us_r (fun e => absurd e.2 (by decide)) us_nil) (by decide) (by decide) (by decide) (by decide) rfl d_Bs_init_5 ?_
  have R1 : RI ((nD δ 1 3 5)) [] := RI.nD hR
  refine x_dup d_Bs_init_8 ?_
  refine y_IN0 (kb2 := 4) (sb2 := 335) (Γ2 := GB2) ci_Bs_13 (by decide) (Nat.le_of_ble_eq_true rfl) d_Bs_init_9 (c_Pr_init (Mk.new (by decide) rfl (by decide)) _ (RI.r1 R1 (by decide))) (NB.toC (by decide) (by decide)) (un_r (fun e => e.2.2 ⟨rfl, by decide⟩) (un_n un_nil)) (us_r (fun e => e.2.2 ⟨rfl, by decide⟩) (us_r (fun e => e.2.2 ⟨rfl, by decide⟩) us_nil)) (by decide) (by decide) (by decide) (by decide) rfl ?_
  have R2 : RI ((F_Pr_init 1 (nD δ 1 3 5))) [] := RI.of R1 fr_Pr_init
  refine x_putS (f := 90) (b := 1) gp_Bs_14_11 rfl (by decide) (by decide) rfl (by decide) (by decide +kernel) d_Bs_init_12 ?_
  refine Xe.cΓ (Γ' := GB3) rfl ?_
  refine x_aload_n (i := 0) d_Bs_init_15 rfl rfl ?_
  refine x_nO (b := 2) (ci := 3) (Γ2 := GB4) (kb2 := 5) (sb2 := 340) (by decide) rfl tyX3_ok df_3 (gl_w inX3) cn_Bs_11 (by decide) (RI.ne R2 (by decide)) (wsr_S (by decide) (by decide +kernel)) (no5 (by decide)) ⟨by decide, fun e => absurd e.2 (by decide)⟩ (un_r (fun e => absurd e.2 (by decide)) (un_n un_nil)) (us_r (fun e => absurd e.2 (by decide)) us_nil) (by decide) (by decide) (by decide) (by decide) rfl d_Bs_init_16 ?_
  have R3 : RI ((nD (F_Pr_init 1 (nD δ 1 3 5)) 2 3 5)) [] := RI.nD R2
  refine x_dup d_Bs_init_19 ?_
  refine y_IN0 (kb2 := 8) (sb2 := 670) (Γ2 := GB5) ci_Bs_13 (by decide) (Nat.le_of_ble_eq_true rfl) d_Bs_init_20 (c_Pr_init (Mk.new (by decide) rfl (by decide)) _ (RI.r1 R3 (by decide))) (NB.toC (by decide) (by decide)) (un_r (fun e => e.2.2 ⟨rfl, by decide⟩) (un_n un_nil)) (us_r (fun e => e.2.2 ⟨rfl, by decide⟩) (us_r (fun e => e.2.2 ⟨rfl, by decide⟩) us_nil)) (by decide) (by decide) (by decide) (by decide) rfl ?_
  have R4 : RI ((F_Pr_init 2 (nD (F_Pr_init 1 (nD δ 1 3 5)) 2 3 5))) [] := RI.of R3 fr_Pr_init
  refine x_putS (f := 91) (b := 2) gp_Bs_18_11 rfl (by decide) (by decide) rfl (by decide) (by decide +kernel) d_Bs_init_23 ?_
  refine Xe.cΓ (Γ' := GB6) rfl ?_
  refine x_aload_n (i := 0) d_Bs_init_26 rfl rfl ?_
  refine x_nO (b := 3) (ci := 9) (Γ2 := GB7) (kb2 := 9) (sb2 := 680) (by decide) rfl tyX9_ok df_9 (gl_w inX9) cn_Bs_21 (by decide) (RI.ne R4 (by decide)) (wsr_S (by decide) (by decide +kernel)) (no5 (by decide)) ⟨by decide, fun e => absurd e.2 (by decide)⟩ (un_r (fun e => absurd e.2 (by decide)) (un_n un_nil)) (us_r (fun e => absurd e.2 (by decide)) us_nil) (by decide) (by decide) (by decide) (by decide) rfl d_Bs_init_27 ?_
  have R5 : RI ((nD (F_Pr_init 2 (nD (F_Pr_init 1 (nD δ 1 3 5)) 2 3 5)) 3 9 10)) [] := RI.nD R4
  refine x_dup d_Bs_init_30 ?_
  obtain ⟨δ31, e31, h⟩ := bd_e h
  refine y_I0 (kb2 := 16) (sb2 := 855) (Γ2 := GB8) ci_Bs_23 (by decide) (Nat.le_of_ble_eq_true rfl) d_Bs_init_31 (c_St_init (Mk.new (by decide) rfl (by decide)) (by decide) _ (RI.r1 R5 (by decide)) _ e31) (NB.toC (by decide) (by decide)) (un_r (fun e => e.2.2 ⟨rfl, by decide⟩) (un_n un_nil)) (us_r (fun e => e.2.2 ⟨rfl, by decide⟩) (us_r (fun e => e.2.2 ⟨rfl, by decide⟩) us_nil)) (by decide) (by decide) (by decide) (by decide) rfl ?_
  have R6 : RI (δ31) [] := RI.of R5 (fr_St_init e31)
  refine x_putS (f := 92) (b := 3) gp_Bs_24_11 rfl (by decide) (by decide) rfl (by decide) (by decide +kernel) d_Bs_init_34 ?_
  refine Xe.cΓ (Γ' := GB9) rfl ?_
  refine x_aload_n (i := 0) d_Bs_init_37 rfl rfl ?_
  refine x_ic (v := 4) d_Bs_init_38 (by decide) ?_
  refine x_anew (f := 93) (b := 0) (by decide) (by decide) (by rfl) (by decide) z_GB9 (RI.le R6 (by decide)) ⟨by decide, fun e => absurd e.1 (by decide)⟩ (un_r (fun e => absurd e.1 (by decide)) (un_n un_nil)) (us_r (fun e => absurd e.1 (by decide)) us_nil) (lwg_at 55 (by decide +kernel) rfl) (by decide) (by decide) d_Bs_init_39 ?_
  refine Xe.cΓ (Γ' := GB10) rfl ?_
  have R7 : RI ((qD δ31 93)) [] := RI.qD R6
  refine x_putA (f := 93) gp_Bs_28_11 rfl (by decide) (by decide) rfl (by decide) (by decide +kernel) (by decide +kernel) d_Bs_init_42 ?_
  refine Xe.cΓ (Γ' := GB11) rfl ?_
  refine x_aload_n (i := 0) d_Bs_init_45 rfl rfl ?_
  refine x_ic (v := 0) d_Bs_init_46 (by decide) ?_
  refine x_putI gp_Bs_32_11 rfl (by decide) (fun _ => rfl) rfl rfl (by decide) (by decide +kernel) d_Bs_init_47 ?_
  have R8 : RI ((sI (qD δ31 93) 94 0 0)) [] := RI.sI R7
  refine x_aload_n (i := 0) d_Bs_init_50 rfl rfl ?_
  refine x_nO (b := 8) (ci := 5) (Γ2 := GB12) (kb2 := 18) (sb2 := 873) (by decide) rfl tyX5_ok df_5 (gl_w inX5) cn_Bs_36 (by decide) (RI.ne R8 (by decide)) (wsr_S (by decide) (by decide +kernel)) (no5 (by decide)) ⟨by decide, fun e => absurd e.2 (by decide)⟩ (un_r (fun e => absurd e.2 (by decide)) (un_n un_nil)) (us_r (fun e => absurd e.2 (by decide)) us_nil) (by decide) (by decide) (by decide) (by decide) rfl d_Bs_init_51 ?_
  have R9 : RI ((nD (sI (qD δ31 93) 94 0 0) 8 5 14)) [] := RI.nD R8
  refine x_dup d_Bs_init_54 ?_
  obtain ⟨δ55, e55, h⟩ := bd_e h
  refine y_IN0 (kb2 := 36) (sb2 := 1597) (Γ2 := GB13) ci_Bs_38 (by decide) (Nat.le_of_ble_eq_true rfl) d_Bs_init_55 (c_Ru_init8 _ R9 _ e55) (NB.toC (by decide) (by decide)) (un_r (fun e => e.2.2 ⟨rfl, by decide⟩) (un_n un_nil)) (us_r (fun e => e.2.2 ⟨rfl, by decide⟩) (us_r (fun e => e.2.2 ⟨rfl, by decide⟩) us_nil)) (by decide) (by decide) (by decide) (by decide) rfl ?_
  have R10 : RI (δ55) [] := RI.of (RI.nD (RI.nD R9)) (fr_Ru_init8 e55)
  refine x_putS (f := 95) (b := 8) gp_Bs_39_11 rfl (by decide) (by decide) rfl (by decide) (by decide +kernel) d_Bs_init_58 ?_
  refine Xe.cΓ (Γ' := GB14) rfl ?_
  refine x_aload_n (i := 0) d_Bs_init_61 rfl rfl ?_
  refine x_nO (b := 11) (ci := 5) (Γ2 := GB15) (kb2 := 37) (sb2 := 1611) (by decide) rfl tyX5_ok df_5 (gl_w inX5) cn_Bs_36 (by decide) (RI.ne R10 (by decide)) (wsr_S (by decide) (by decide +kernel)) (no5 (by decide)) ⟨by decide, fun e => absurd e.2 (by decide)⟩ (un_r (fun e => absurd e.2 (by decide)) (un_n un_nil)) (us_r (fun e => absurd e.2 (by decide)) us_nil) (by decide) (by decide) (by decide) (by decide) rfl d_Bs_init_62 ?_
  have R11 : RI ((nD δ55 11 5 14)) [] := RI.nD R10
  refine x_dup d_Bs_init_65 ?_
  obtain ⟨δ66, e66, h⟩ := bd_e h
  refine y_IN0 (kb2 := 55) (sb2 := 2335) (Γ2 := GB16) ci_Bs_38 (by decide) (Nat.le_of_ble_eq_true rfl) d_Bs_init_66 (c_Ru_init11 _ R11 _ e66) (NB.toC (by decide) (by decide)) (un_r (fun e => e.2.2 ⟨rfl, by decide⟩) (un_n un_nil)) (us_r (fun e => e.2.2 ⟨rfl, by decide⟩) (us_r (fun e => e.2.2 ⟨rfl, by decide⟩) us_nil)) (by decide) (by decide) (by decide) (by decide) rfl ?_
  have R12 : RI (δ66) [] := RI.of (RI.nD (RI.nD R11)) (fr_Ru_init11 e66)
  refine x_putS (f := 96) (b := 11) gp_Bs_43_11 rfl (by decide) (by decide) rfl (by decide) (by decide +kernel) d_Bs_init_69 ?_
  refine Xe.cΓ (Γ' := GB17) rfl ?_
  refine x_aload_n (i := 0) d_Bs_init_72 rfl rfl ?_
  refine x_nO (b := 14) (ci := 0) (Γ2 := GB18) (kb2 := 56) (sb2 := 2337) (by decide) rfl tyX0_ok df_0 (gl_w inX0) cn_Bs_46 (by decide) (RI.ne R12 (by decide)) (wsr_S (by decide) (by decide +kernel)) (no5 (by decide)) ⟨by decide, fun e => absurd e.2 (by decide)⟩ (un_r (fun e => absurd e.2 (by decide)) (un_n un_nil)) (us_r (fun e => absurd e.2 (by decide)) us_nil) (by decide) (by decide) (by decide) (by decide) rfl d_Bs_init_73 ?_
  have R13 : RI ((nD δ66 14 0 2)) [] := RI.nD R12
  refine x_dup d_Bs_init_76 ?_
  refine x_bi (v := 80) d_Bs_init_77 (by decide) ?_
  refine y_I1 (kb2 := 57) (sb2 := 2417) (Γ2 := GB19) ci_Bs_48 (by decide) (Nat.le_of_ble_eq_true rfl) d_Bs_init_79 (c_By_init14 (Mk.new (by decide) rfl (by decide)) _ (RI.r1 R13 (by decide))) (NB.toC (by decide) (by decide)) (un_r (fun e => e.2.2 ⟨rfl, by decide⟩) (un_n un_nil)) (us_r (fun e => e.2.2 ⟨rfl, by decide⟩) (us_r (fun e => e.2.2 ⟨rfl, by decide⟩) us_nil)) (by decide) (by decide) (by decide) (by decide) rfl ?_
  have R14 : RI ((F_By_init14 (nD δ66 14 0 2))) [] := RI.of R13 fr_By_init14
  refine x_putS (f := 97) (b := 14) gp_Bs_51_11 rfl (by decide) (by decide) rfl (by decide) (by decide +kernel) d_Bs_init_82 ?_
  refine Xe.cΓ (Γ' := GB20) rfl ?_
  refine x_aload_n (i := 0) d_Bs_init_85 rfl rfl ?_
  refine x_nO (b := 15) (ci := 0) (Γ2 := GB21) (kb2 := 58) (sb2 := 2419) (by decide) rfl tyX0_ok df_0 (gl_w inX0) cn_Bs_46 (by decide) (RI.ne R14 (by decide)) (wsr_S (by decide) (by decide +kernel)) (no5 (by decide)) ⟨by decide, fun e => absurd e.2 (by decide)⟩ (un_r (fun e => absurd e.2 (by decide)) (un_n un_nil)) (us_r (fun e => absurd e.2 (by decide)) us_nil) (by decide) (by decide) (by decide) (by decide) rfl d_Bs_init_86 ?_
  have R15 : RI ((nD (F_By_init14 (nD δ66 14 0 2)) 15 0 2)) [] := RI.nD R14
  refine x_dup d_Bs_init_89 ?_
  refine x_si (v := 300) d_Bs_init_90 (by decide) ?_
  refine y_I1 (kb2 := 59) (sb2 := 2719) (Γ2 := GB22) ci_Bs_48 (by decide) (Nat.le_of_ble_eq_true rfl) d_Bs_init_93 (c_By_init15 (Mk.new (by decide) rfl (by decide)) _ (RI.r1 R15 (by decide))) (NB.toC (by decide) (by decide)) (un_r (fun e => e.2.2 ⟨rfl, by decide⟩) (un_n un_nil)) (us_r (fun e => e.2.2 ⟨rfl, by decide⟩) (us_r (fun e => e.2.2 ⟨rfl, by decide⟩) us_nil)) (by decide) (by decide) (by decide) (by decide) rfl ?_
  have R16 : RI ((F_By_init15 (nD (F_By_init14 (nD δ66 14 0 2)) 15 0 2))) [] := RI.of R15 fr_By_init15
  refine x_putS (f := 98) (b := 15) gp_Bs_55_11 rfl (by decide) (by decide) rfl (by decide) (by decide +kernel) d_Bs_init_96 ?_
  refine Xe.cΓ (Γ' := GB23) rfl ?_
  refine x_aload_n (i := 0) d_Bs_init_99 rfl rfl ?_
  refine x_nO (b := 16) (ci := 10) (Γ2 := GB24) (kb2 := 60) (sb2 := 2726) (by decide) rfl tyX10_ok df_10 (gl_w inX10) cn_Bs_58 (by decide) (RI.ne R16 (by decide)) (wsr_S (by decide) (by decide +kernel)) (no5 (by decide)) ⟨by decide, fun e => absurd e.2 (by decide)⟩ (un_r (fun e => absurd e.2 (by decide)) (un_n un_nil)) (us_r (fun e => absurd e.2 (by decide)) us_nil) (by decide) (by decide) (by decide) (by decide) rfl d_Bs_init_100 ?_
  have R17 : RI ((nD (F_By_init15 (nD (F_By_init14 (nD δ66 14 0 2)) 15 0 2)) 16 10 7)) [] := RI.nD R16
  refine x_dup d_Bs_init_103 ?_
  refine y_IN0 (kb2 := 65) (sb2 := 2746) (Γ2 := GB25) ci_Bs_60 (by decide) (Nat.le_of_ble_eq_true rfl) d_Bs_init_104 (c_Wi_init (Mk.new (by decide) rfl (by decide)) _ (RI.r1 R17 (by decide))) (NB.toC (by decide) (by decide)) (un_r (fun e => e.2.2 ⟨rfl, by decide⟩) (un_n un_nil)) (us_r (fun e => e.2.2 ⟨rfl, by decide⟩) (us_r (fun e => e.2.2 ⟨rfl, by decide⟩) us_nil)) (by decide) (by decide) (by decide) (by decide) rfl ?_
  have R18 : RI ((F_Wi_init 16 (nD (F_By_init15 (nD (F_By_init14 (nD δ66 14 0 2)) 15 0 2)) 16 10 7))) [] := RI.of R17 fr_Wi_init
  refine x_putR gp_Bs_61_11 rfl (by decide) (by decide) (by decide +kernel) d_Bs_init_107 ?_
  have R19 : RI ((sR (F_Wi_init 16 (nD (F_By_init15 (nD (F_By_init14 (nD δ66 14 0 2)) 15 0 2)) 16 10 7)) 99 0 (0, 16))) ((0, 16) :: []) := RI.sR R18
  refine x_aload_n (i := 0) d_Bs_init_110 rfl rfl ?_
  refine x_nO (b := 17) (ci := 10) (Γ2 := GB26) (kb2 := 66) (sb2 := 2753) (by decide) rfl tyX10_ok df_10 (gl_w inX10) cn_Bs_58 (by decide) (RI.ne R19 (by decide)) (wsr_S (by decide) (by decide +kernel)) (no5 (by decide)) ⟨by decide, fun e => absurd e.2 (by decide)⟩ (un_r (fun e => absurd e.2 (by decide)) (un_n un_nil)) (us_r (fun e => absurd e.2 (by decide)) us_nil) (by decide) (by decide) (by decide) (by decide) rfl d_Bs_init_111 ?_
  have R20 : RI ((nD (sR (F_Wi_init 16 (nD (F_By_init15 (nD (F_By_init14 (nD δ66 14 0 2)) 15 0 2)) 16 10 7)) 99 0 (0, 16)) 17 10 7)) ((0, 16) :: []) := RI.nD R19
  refine x_dup d_Bs_init_114 ?_
  refine y_IN0 (kb2 := 71) (sb2 := 2773) (Γ2 := GB27) ci_Bs_60 (by decide) (Nat.le_of_ble_eq_true rfl) d_Bs_init_115 (c_Wi_init (Mk.new (by decide) rfl (by decide)) _ (RI.r1 R20 (by decide))) (NB.toC (by decide) (by decide)) (un_r (fun e => e.2.2 ⟨rfl, by decide⟩) (un_n un_nil)) (us_r (fun e => e.2.2 ⟨rfl, by decide⟩) (us_r (fun e => e.2.2 ⟨rfl, by decide⟩) us_nil)) (by decide) (by decide) (by decide) (by decide) rfl ?_
  have R21 : RI ((F_Wi_init 17 (nD (sR (F_Wi_init 16 (nD (F_By_init15 (nD (F_By_init14 (nD δ66 14 0 2)) 15 0 2)) 16 10 7)) 99 0 (0, 16)) 17 10 7))) ((0, 16) :: []) := RI.of R20 fr_Wi_init
  refine x_putR gp_Bs_65_11 rfl (by decide) (by decide) (by decide +kernel) d_Bs_init_118 ?_
  have R22 : RI ((sR (F_Wi_init 17 (nD (sR (F_Wi_init 16 (nD (F_By_init15 (nD (F_By_init14 (nD δ66 14 0 2)) 15 0 2)) 16 10 7)) 99 0 (0, 16)) 17 10 7)) 100 0 (0, 17))) ((0, 17) :: ((0, 16) :: [])) := RI.sR R21
  refine x_aload_n (i := 0) d_Bs_init_121 rfl rfl ?_
  refine x_nO (b := 18) (ci := 7) (Γ2 := GB28) (kb2 := 72) (sb2 := 2776) (by decide) rfl tyX7_ok df_7 (gl_w inX7) cn_Bs_68 (by decide) (RI.ne R22 (by decide)) (wsr_S (by decide) (by decide +kernel)) (no5 (by decide)) ⟨by decide, fun e => absurd e.2 (by decide)⟩ (un_r (fun e => absurd e.2 (by decide)) (un_n un_nil)) (us_r (fun e => absurd e.2 (by decide)) us_nil) (by decide) (by decide) (by decide) (by decide) rfl d_Bs_init_122 ?_
  have R23 : RI ((nD (sR (F_Wi_init 17 (nD (sR (F_Wi_init 16 (nD (F_By_init15 (nD (F_By_init14 (nD δ66 14 0 2)) 15 0 2)) 16 10 7)) 99 0 (0, 16)) 17 10 7)) 100 0 (0, 17)) 18 7 3)) ((0, 17) :: ((0, 16) :: [])) := RI.nD R22
  refine x_dup d_Bs_init_125 ?_
  refine y_IN0 (kb2 := 75) (sb2 := 2992) (Γ2 := GB29) ci_Bs_70 (by decide) (Nat.le_of_ble_eq_true rfl) d_Bs_init_126 (c_Sh_init (Mk.new (by decide) rfl (by decide)) _ (RI.r1 R23 (by decide))) (NB.toC (by decide) (by decide)) (un_r (fun e => e.2.2 ⟨rfl, by decide⟩) (un_n un_nil)) (us_r (fun e => e.2.2 ⟨rfl, by decide⟩) (us_r (fun e => e.2.2 ⟨rfl, by decide⟩) us_nil)) (by decide) (by decide) (by decide) (by decide) rfl ?_
  have R24 : RI ((F_Sh_init 18 (nD (sR (F_Wi_init 17 (nD (sR (F_Wi_init 16 (nD (F_By_init15 (nD (F_By_init14 (nD δ66 14 0 2)) 15 0 2)) 16 10 7)) 99 0 (0, 16)) 17 10 7)) 100 0 (0, 17)) 18 7 3))) ((0, 17) :: ((0, 16) :: [])) := RI.of R23 fr_Sh_init
  refine x_putS (f := 101) (b := 18) gp_Bs_71_11 rfl (by decide) (by decide) rfl (by decide) (by decide +kernel) d_Bs_init_129 ?_
  refine Xe.cΓ (Γ' := GB30) rfl ?_
  refine x_aload_n (i := 0) d_Bs_init_132 rfl rfl ?_
  refine x_null d_Bs_init_133 ?_
  refine x_putR gp_Bs_75_11 rfl (by decide) (by decide) (by decide +kernel) d_Bs_init_134 ?_
  have R25 : RI ((sR (F_Sh_init 18 (nD (sR (F_Wi_init 17 (nD (sR (F_Wi_init 16 (nD (F_By_init15 (nD (F_By_init14 (nD δ66 14 0 2)) 15 0 2)) 16 10 7)) 99 0 (0, 16)) 17 10 7)) 100 0 (0, 17)) 18 7 3)) 102 0 (1, 0))) ((1, 0) :: ((0, 17) :: ((0, 16) :: []))) := RI.sR R24
  refine x_aload_n (i := 0) d_Bs_init_137 rfl rfl ?_
  refine x_ic (v := 0) d_Bs_init_138 (by decide) ?_
  refine x_putI gp_Bs_79_11 rfl (by decide) (fun _ => rfl) rfl rfl (by decide) (by decide +kernel) d_Bs_init_139 ?_
  have R26 : RI ((sI (sR (F_Sh_init 18 (nD (sR (F_Wi_init 17 (nD (sR (F_Wi_init 16 (nD (F_By_init15 (nD (F_By_init14 (nD δ66 14 0 2)) 15 0 2)) 16 10 7)) 99 0 (0, 16)) 17 10 7)) 100 0 (0, 17)) 18 7 3)) 102 0 (1, 0)) 103 0 0)) ((1, 0) :: ((0, 17) :: ((0, 16) :: []))) := RI.sI R25
  refine x_aload_n (i := 0) d_Bs_init_142 rfl rfl ?_
  refine x_ic (v := -1) d_Bs_init_143 (by decide) ?_
  refine x_putI gp_Bs_83_11 rfl (by decide) (fun _ => rfl) rfl rfl (by decide) (by decide +kernel) d_Bs_init_144 ?_
  have R27 : RI ((sI (sI (sR (F_Sh_init 18 (nD (sR (F_Wi_init 17 (nD (sR (F_Wi_init 16 (nD (F_By_init15 (nD (F_By_init14 (nD δ66 14 0 2)) 15 0 2)) 16 10 7)) 99 0 (0, 16)) 17 10 7)) 100 0 (0, 17)) 18 7 3)) 102 0 (1, 0)) 103 0 0) 104 0 (-1))) ((1, 0) :: ((0, 17) :: ((0, 16) :: []))) := RI.sI R26
  refine x_aload_n (i := 0) d_Bs_init_147 rfl rfl ?_
  refine x_ic (v := -1) d_Bs_init_148 (by decide) ?_
  refine x_putI gp_Bs_86_11 rfl (by decide) (fun _ => rfl) rfl rfl (by decide) (by decide +kernel) d_Bs_init_149 ?_
  have R28 : RI ((sI (sI (sI (sR (F_Sh_init 18 (nD (sR (F_Wi_init 17 (nD (sR (F_Wi_init 16 (nD (F_By_init15 (nD (F_By_init14 (nD δ66 14 0 2)) 15 0 2)) 16 10 7)) 99 0 (0, 16)) 17 10 7)) 100 0 (0, 17)) 18 7 3)) 102 0 (1, 0)) 103 0 0) 104 0 (-1)) 105 0 (-1))) ((1, 0) :: ((0, 17) :: ((0, 16) :: []))) := RI.sI R27
  refine x_aload_n (i := 0) d_Bs_init_152 rfl rfl ?_
  refine x_ic (v := 4) d_Bs_init_153 (by decide) ?_
  refine x_nw (f := 106) (b := 0) (w := 4) (Or.inl ⟨by decide, rfl⟩) (by decide) (by rfl) (by decide) (by decide) (by decide +kernel) (RI.r1 R28 (by decide)) ⟨by decide, fun e => absurd e.1 (by decide)⟩ (by decide) (un_r (fun e => absurd e.1 (by decide)) (un_n un_nil)) (us_r (fun e => absurd e.1 (by decide)) us_nil) (lwg_at 54 (by decide +kernel) rfl) (by decide) (by decide) d_Bs_init_154 ?_
  refine Xe.cΓ (Γ' := GB31) rfl ?_
  have R29 : RI ((aD (sI (sI (sI (sR (F_Sh_init 18 (nD (sR (F_Wi_init 17 (nD (sR (F_Wi_init 16 (nD (F_By_init15 (nD (F_By_init14 (nD δ66 14 0 2)) 15 0 2)) 16 10 7)) 99 0 (0, 16)) 17 10 7)) 100 0 (0, 17)) 18 7 3)) 102 0 (1, 0)) 103 0 0) 104 0 (-1)) 105 0 (-1)) 106 0)) ((1, 0) :: ((0, 17) :: ((0, 16) :: []))) := RI.aD R28
  refine x_putA (f := 106) gp_Bs_89_11 rfl (by decide) (by decide) rfl (by decide) (by decide +kernel) (by decide +kernel) d_Bs_init_156 ?_
  refine Xe.cΓ (Γ' := GB32) rfl ?_
  refine x_aload_n (i := 0) d_Bs_init_159 rfl rfl ?_
  refine x_ic (v := 0) d_Bs_init_160 (by decide) ?_
  refine x_putI gp_Bs_93_11 rfl (by decide) (fun _ => rfl) rfl rfl (by decide) (by decide +kernel) d_Bs_init_161 ?_
  have R30 : RI ((sI (aD (sI (sI (sI (sR (F_Sh_init 18 (nD (sR (F_Wi_init 17 (nD (sR (F_Wi_init 16 (nD (F_By_init15 (nD (F_By_init14 (nD δ66 14 0 2)) 15 0 2)) 16 10 7)) 99 0 (0, 16)) 17 10 7)) 100 0 (0, 17)) 18 7 3)) 102 0 (1, 0)) 103 0 0) 104 0 (-1)) 105 0 (-1)) 106 0) 107 0 0)) ((1, 0) :: ((0, 17) :: ((0, 16) :: []))) := RI.sI R29
  refine x_ic (v := 0) d_Bs_init_164 (by decide) ?_
  refine x_stn (i := 1) (ls' := [some (.inr (0, 0)), some (.inl 0)]) d_Bs_init_165 rfl (by decide) rfl ?_
  refine x_iload_n (i := 1) d_Bs_init_166 rfl rfl ?_
  refine x_ic (v := 4) d_Bs_init_167 (by decide) ?_
  refine x_cmp_ge (tgt := 190) d_Bs_init_168 (by decide) (fun c => absurd c (by decide)) (fun _ => ?_)
  refine x_aload_n (i := 0) d_Bs_init_171 rfl rfl ?_
  refine x_getA (f := 93) gl_Bs_28_11 rfl (by decide) (ob_of rfl (by decide +kernel)) d_Bs_init_172 ?_
  refine x_iload_n (i := 1) d_Bs_init_175 rfl rfl ?_
  refine x_nO (b := 4) (ci := 9) (Γ2 := GB33) (kb2 := 77) (sb2 := 3006) (by decide) rfl tyX9_ok df_9 (gl_w inX9) cn_Bs_21 (by decide) (RI.ne R30 (by decide)) (wsr_S (by decide) (by decide +kernel)) (no5 (by decide)) ⟨by decide, fun e => absurd e.2 (by decide)⟩ (un_r (fun e => absurd e.2 (by decide)) (un_i un_nil)) (us_i (us_r (fun e => absurd e.1 (by decide)) us_nil)) (by decide) (by decide) (by decide) (by decide) rfl d_Bs_init_176 ?_
  have R31 : RI ((nD (sI (aD (sI (sI (sI (sR (F_Sh_init 18 (nD (sR (F_Wi_init 17 (nD (sR (F_Wi_init 16 (nD (F_By_init15 (nD (F_By_init14 (nD δ66 14 0 2)) 15 0 2)) 16 10 7)) 99 0 (0, 16)) 17 10 7)) 100 0 (0, 17)) 18 7 3)) 102 0 (1, 0)) 103 0 0) 104 0 (-1)) 105 0 (-1)) 106 0) 107 0 0) 4 9 10)) ((1, 0) :: ((0, 17) :: ((0, 16) :: []))) := RI.nD R30
  refine x_dup d_Bs_init_179 ?_
  obtain ⟨δ180, e180, h⟩ := bd_e h
  refine y_I0 (kb2 := 84) (sb2 := 3181) (Γ2 := GB34) ci_Bs_23 (by decide) (Nat.le_of_ble_eq_true rfl) d_Bs_init_180 (c_St_init (Mk.new (by decide) rfl (by decide)) (by decide) _ (RI.r1 R31 (by decide)) _ e180) (NB.toC (by decide) (by decide)) (un_r (fun e => e.2.2 ⟨rfl, by decide⟩) (un_i un_nil)) (us_r (fun e => e.2.2 ⟨rfl, by decide⟩) (us_i (us_r (fun e => e.2.1 rfl) us_nil))) (by decide) (by decide) (by decide) (by decide) rfl ?_
  have R32 : RI (δ180) ((1, 0) :: ((0, 17) :: ((0, 16) :: []))) := RI.of R31 (fr_St_init e180)
  refine x_aast (n := 4) (by decide) (by decide +kernel) z_GB34 (by decide) (by decide +kernel) (by rfl) (by decide) d_Bs_init_183 ?_
  have R33 : RI ((sR δ180 93 (0 : Int32).toNatClampNeg (0, 4))) ((0, 4) :: ((1, 0) :: ((0, 17) :: ((0, 16) :: [])))) := RI.sR R32
  refine x_inc (i := 1) (c0 := 1) (ls' := [some (.inr (0, 0)), some (.inl 1)]) d_Bs_init_184 (by decide) rfl (by decide) rfl ?_
  refine x_goto (tgt := 166) d_Bs_init_187 (by decide) ?_
  refine x_iload_n (i := 1) d_Bs_init_166 rfl rfl ?_
  refine x_ic (v := 4) d_Bs_init_167 (by decide) ?_
  refine x_cmp_ge (tgt := 190) d_Bs_init_168 (by decide) (fun c => absurd c (by decide)) (fun _ => ?_)
  refine x_aload_n (i := 0) d_Bs_init_171 rfl rfl ?_
  refine x_getA (f := 93) gl_Bs_28_11 rfl (by decide) (ob_of rfl (by decide +kernel)) d_Bs_init_172 ?_
  refine x_iload_n (i := 1) d_Bs_init_175 rfl rfl ?_
  refine x_nO (b := 5) (ci := 9) (Γ2 := GB35) (kb2 := 85) (sb2 := 3191) (by decide) rfl tyX9_ok df_9 (gl_w inX9) cn_Bs_21 (by decide) (RI.ne R33 (by decide)) (wsr_S (by decide) (by decide +kernel)) (no5 (by decide)) ⟨by decide, fun e => absurd e.2 (by decide)⟩ (un_r (fun e => absurd e.2 (by decide)) (un_i un_nil)) (us_i (us_r (fun e => absurd e.1 (by decide)) us_nil)) (by decide) (by decide) (by decide) (by decide) rfl d_Bs_init_176 ?_
  have R34 : RI ((nD (sR δ180 93 (0 : Int32).toNatClampNeg (0, 4)) 5 9 10)) ((0, 4) :: ((1, 0) :: ((0, 17) :: ((0, 16) :: [])))) := RI.nD R33
  refine x_dup d_Bs_init_179 ?_
  obtain ⟨δ180, e180, h⟩ := bd_e h
  refine y_I0 (kb2 := 92) (sb2 := 3366) (Γ2 := GB36) ci_Bs_23 (by decide) (Nat.le_of_ble_eq_true rfl) d_Bs_init_180 (c_St_init (Mk.new (by decide) rfl (by decide)) (by decide) _ (RI.r1 R34 (by decide)) _ e180) (NB.toC (by decide) (by decide)) (un_r (fun e => e.2.2 ⟨rfl, by decide⟩) (un_i un_nil)) (us_r (fun e => e.2.2 ⟨rfl, by decide⟩) (us_i (us_r (fun e => e.2.1 rfl) us_nil))) (by decide) (by decide) (by decide) (by decide) rfl ?_
  have R35 : RI (δ180) ((0, 4) :: ((1, 0) :: ((0, 17) :: ((0, 16) :: [])))) := RI.of R34 (fr_St_init e180)
  refine x_aast (n := 4) (by decide) (by decide +kernel) z_GB36 (by decide) (by decide +kernel) (by rfl) (by decide) d_Bs_init_183 ?_
  have R36 : RI ((sR δ180 93 (1 : Int32).toNatClampNeg (0, 5))) ((0, 5) :: ((0, 4) :: ((1, 0) :: ((0, 17) :: ((0, 16) :: []))))) := RI.sR R35
  refine x_inc (i := 1) (c0 := 1) (ls' := [some (.inr (0, 0)), some (.inl 2)]) d_Bs_init_184 (by decide) rfl (by decide) rfl ?_
  refine x_goto (tgt := 166) d_Bs_init_187 (by decide) ?_
  refine x_iload_n (i := 1) d_Bs_init_166 rfl rfl ?_
  refine x_ic (v := 4) d_Bs_init_167 (by decide) ?_
  refine x_cmp_ge (tgt := 190) d_Bs_init_168 (by decide) (fun c => absurd c (by decide)) (fun _ => ?_)
  refine x_aload_n (i := 0) d_Bs_init_171 rfl rfl ?_
  refine x_getA (f := 93) gl_Bs_28_11 rfl (by decide) (ob_of rfl (by decide +kernel)) d_Bs_init_172 ?_
  refine x_iload_n (i := 1) d_Bs_init_175 rfl rfl ?_
  refine x_nO (b := 6) (ci := 9) (Γ2 := GB37) (kb2 := 93) (sb2 := 3376) (by decide) rfl tyX9_ok df_9 (gl_w inX9) cn_Bs_21 (by decide) (RI.ne R36 (by decide)) (wsr_S (by decide) (by decide +kernel)) (no5 (by decide)) ⟨by decide, fun e => absurd e.2 (by decide)⟩ (un_r (fun e => absurd e.2 (by decide)) (un_i un_nil)) (us_i (us_r (fun e => absurd e.1 (by decide)) us_nil)) (by decide) (by decide) (by decide) (by decide) rfl d_Bs_init_176 ?_
  have R37 : RI ((nD (sR δ180 93 (1 : Int32).toNatClampNeg (0, 5)) 6 9 10)) ((0, 5) :: ((0, 4) :: ((1, 0) :: ((0, 17) :: ((0, 16) :: []))))) := RI.nD R36
  refine x_dup d_Bs_init_179 ?_
  obtain ⟨δ180, e180, h⟩ := bd_e h
  refine y_I0 (kb2 := 100) (sb2 := 3551) (Γ2 := GB38) ci_Bs_23 (by decide) (Nat.le_of_ble_eq_true rfl) d_Bs_init_180 (c_St_init (Mk.new (by decide) rfl (by decide)) (by decide) _ (RI.r1 R37 (by decide)) _ e180) (NB.toC (by decide) (by decide)) (un_r (fun e => e.2.2 ⟨rfl, by decide⟩) (un_i un_nil)) (us_r (fun e => e.2.2 ⟨rfl, by decide⟩) (us_i (us_r (fun e => e.2.1 rfl) us_nil))) (by decide) (by decide) (by decide) (by decide) rfl ?_
  have R38 : RI (δ180) ((0, 5) :: ((0, 4) :: ((1, 0) :: ((0, 17) :: ((0, 16) :: []))))) := RI.of R37 (fr_St_init e180)
  refine x_aast (n := 4) (by decide) (by decide +kernel) z_GB38 (by decide) (by decide +kernel) (by rfl) (by decide) d_Bs_init_183 ?_
  have R39 : RI ((sR δ180 93 (2 : Int32).toNatClampNeg (0, 6))) ((0, 6) :: ((0, 5) :: ((0, 4) :: ((1, 0) :: ((0, 17) :: ((0, 16) :: [])))))) := RI.sR R38
  refine x_inc (i := 1) (c0 := 1) (ls' := [some (.inr (0, 0)), some (.inl 3)]) d_Bs_init_184 (by decide) rfl (by decide) rfl ?_
  refine x_goto (tgt := 166) d_Bs_init_187 (by decide) ?_
  refine x_iload_n (i := 1) d_Bs_init_166 rfl rfl ?_
  refine x_ic (v := 4) d_Bs_init_167 (by decide) ?_
  refine x_cmp_ge (tgt := 190) d_Bs_init_168 (by decide) (fun c => absurd c (by decide)) (fun _ => ?_)
  refine x_aload_n (i := 0) d_Bs_init_171 rfl rfl ?_
  refine x_getA (f := 93) gl_Bs_28_11 rfl (by decide) (ob_of rfl (by decide +kernel)) d_Bs_init_172 ?_
  refine x_iload_n (i := 1) d_Bs_init_175 rfl rfl ?_
  refine x_nO (b := 7) (ci := 9) (Γ2 := GB39) (kb2 := 101) (sb2 := 3561) (by decide) rfl tyX9_ok df_9 (gl_w inX9) cn_Bs_21 (by decide) (RI.ne R39 (by decide)) (wsr_S (by decide) (by decide +kernel)) (no5 (by decide)) ⟨by decide, fun e => absurd e.2 (by decide)⟩ (un_r (fun e => absurd e.2 (by decide)) (un_i un_nil)) (us_i (us_r (fun e => absurd e.1 (by decide)) us_nil)) (by decide) (by decide) (by decide) (by decide) rfl d_Bs_init_176 ?_
  have R40 : RI ((nD (sR δ180 93 (2 : Int32).toNatClampNeg (0, 6)) 7 9 10)) ((0, 6) :: ((0, 5) :: ((0, 4) :: ((1, 0) :: ((0, 17) :: ((0, 16) :: [])))))) := RI.nD R39
  refine x_dup d_Bs_init_179 ?_
  obtain ⟨δ180, e180, h⟩ := bd_e h
  refine y_I0 (kb2 := 108) (sb2 := 3736) (Γ2 := GB40) ci_Bs_23 (by decide) (Nat.le_of_ble_eq_true rfl) d_Bs_init_180 (c_St_init (Mk.new (by decide) rfl (by decide)) (by decide) _ (RI.r1 R40 (by decide)) _ e180) (NB.toC (by decide) (by decide)) (un_r (fun e => e.2.2 ⟨rfl, by decide⟩) (un_i un_nil)) (us_r (fun e => e.2.2 ⟨rfl, by decide⟩) (us_i (us_r (fun e => e.2.1 rfl) us_nil))) (by decide) (by decide) (by decide) (by decide) rfl ?_
  have R41 : RI (δ180) ((0, 6) :: ((0, 5) :: ((0, 4) :: ((1, 0) :: ((0, 17) :: ((0, 16) :: [])))))) := RI.of R40 (fr_St_init e180)
  refine x_aast (n := 4) (by decide) (by decide +kernel) z_GB40 (by decide) (by decide +kernel) (by rfl) (by decide) d_Bs_init_183 ?_
  have R42 : RI ((sR δ180 93 (3 : Int32).toNatClampNeg (0, 7))) ((0, 7) :: ((0, 6) :: ((0, 5) :: ((0, 4) :: ((1, 0) :: ((0, 17) :: ((0, 16) :: []))))))) := RI.sR R41
  refine x_inc (i := 1) (c0 := 1) (ls' := [some (.inr (0, 0)), some (.inl 4)]) d_Bs_init_184 (by decide) rfl (by decide) rfl ?_
  refine x_goto (tgt := 166) d_Bs_init_187 (by decide) ?_
  refine x_iload_n (i := 1) d_Bs_init_166 rfl rfl ?_
  refine x_ic (v := 4) d_Bs_init_167 (by decide) ?_
  refine x_cmp_ge (tgt := 190) d_Bs_init_168 (by decide) (fun _ => ?_) (fun c => absurd (by decide) c)
  cases h
  exact x_vret rfl d_Bs_init_190 (by decide) (by decide)
