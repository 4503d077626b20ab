/-! LinenTunnelModel.undo -/
def fX8_undo_24 (F : Nat) (l1 : Int32) : Nat → Int32 → mm_M → Option (mm_M)
  | 0, _, _ => none
  | k + 1, l2, σ => mm_g 12 l1 ((if l2 < (σ 13 l1.toNatClampNeg) then mm_g 240 (((20 : Int32) * l1) + l2) (mm_g 100 (σ 14 (((20 : Int32) * l1) + l2).toNatClampNeg) (mm_g 100 (σ 14 (((20 : Int32) * l1) + l2).toNatClampNeg) (fX8_undo_24 F l1 k (l2 + 1) (mm_up (mm_up σ 9 (σ 14 (((20 : Int32) * l1) + l2).toNatClampNeg).toNatClampNeg (1 : Int32)) 11 (σ 14 (((20 : Int32) * l1) + l2).toNatClampNeg).toNatClampNeg (-1 : Int32))))) else some (σ)))
def fX8_undo_78 (F : Nat) (l1 : Int32) : Nat → Int32 → mm_M → Option (mm_M)
  | 0, _, _ => none
  | k + 1, l2, σ => (if l2 < (σ 0 13) then mm_g 12 l2 (mm_g 12 l2 (mm_g 12 l2 (fX8_undo_78 F l1 k (l2 + 1) (mm_up σ 15 l2.toNatClampNeg ((σ 15 l2.toNatClampNeg) - (if l1 < (σ 15 l2.toNatClampNeg) then (1 : Int32) else (0 : Int32))))))) else some (σ))
def fX8_undo_156 (F : Nat) (l2 : Int32) : Nat → Int32 → mm_M → Option (mm_M)
  | 0, _, _ => none
  | k + 1, l3, σ => mm_g 12 l2 ((if l3 < (σ 13 l2.toNatClampNeg) then mm_g 240 ((((20 : Int32) * l2) + (20 : Int32)) + l3) (mm_g 240 (((20 : Int32) * l2) + l3) (mm_g 240 (((20 : Int32) * l2) + l3) (mm_g 100 ((mm_up σ 14 (((20 : Int32) * l2) + l3).toNatClampNeg (σ 14 ((((20 : Int32) * l2) + (20 : Int32)) + l3).toNatClampNeg)) 14 (((20 : Int32) * l2) + l3).toNatClampNeg) (fX8_undo_156 F l2 k (l3 + 1) (mm_up (mm_up σ 14 (((20 : Int32) * l2) + l3).toNatClampNeg (σ 14 ((((20 : Int32) * l2) + (20 : Int32)) + l3).toNatClampNeg)) 11 ((mm_up σ 14 (((20 : Int32) * l2) + l3).toNatClampNeg (σ 14 ((((20 : Int32) * l2) + (20 : Int32)) + l3).toNatClampNeg)) 14 (((20 : Int32) * l2) + l3).toNatClampNeg).toNatClampNeg l2))))) else some (σ)))
def fX8_undo_118 (F : Nat) : Nat → Int32 → mm_M → Option (mm_M)
  | 0, _, _ => none
  | k + 1, l2, σ => (if l2 < (σ 0 13) then mm_g 12 (l2 + (1 : Int32)) (mm_g 12 l2 (mm_g 12 (l2 + (1 : Int32)) (mm_g 12 l2 ((fX8_undo_156 F l2 F (0 : Int32) (mm_up (mm_up σ 12 l2.toNatClampNeg (σ 12 (l2 + (1 : Int32)).toNatClampNeg)) 13 l2.toNatClampNeg (σ 13 (l2 + (1 : Int32)).toNatClampNeg))).bind fun q6 => fX8_undo_118 F k (l2 + 1) q6)))) else some (σ))
def fX8_undo (F : Nat) (σ : mm_M) : Option (Int32 × mm_M) := (if (σ 0 13) = 0 then some ((-4 : Int32), σ) else mm_g 12 ((σ 0 13) - (1 : Int32)) ((fX8_undo_24 F (σ 15 ((σ 0 13) - (1 : Int32)).toNatClampNeg) F (0 : Int32) σ).bind fun q3 => (fX8_undo_78 F (σ 15 ((σ 0 13) - (1 : Int32)).toNatClampNeg) F (0 : Int32) (mm_up q3 0 13 ((q3 0 13) - (1 : Int32)))).bind fun q4 => (fX8_undo_118 F F (σ 15 ((σ 0 13) - (1 : Int32)).toNatClampNeg) q4).bind fun q5 => some ((q5 0 13), q5)))
abbrev rX8_undo : Room := { frames := 0, cells := 0, slots := 0, locals := 0 }
theorem hyX8_undo : yX8_undo.cls = RX8 ∧ yX8_undo.cls ≠ "java/lang/invoke/MethodHandle" ∧ yX8_undo.cls ≠ "java/lang/invoke/VarHandle" ∧ (parseMethodDescriptor yX8_undo.desc).map (fun d => d.parameters.length) = some 0 := by decide +kernel
theorem kX8_undo_1 : (Cond.fieldLink RX8 133 "LinenTunnelModel" "batches" "I" : Cond) ∈ wsX8_undo := List.mem_of_getElem? (i := 1) rfl
theorem uX8_undo_8 : ∀ w ∈ u_ws RX8 TX8 37, w ∈ wsX8_undo := fun _ h => (List.mem_cons_of_mem _ (List.mem_append_right _ h))
theorem kX8_undo_2 : (Cond.fieldLink RX8 53 "LinenTunnelModel" "order" "[I" : Cond) ∈ wsX8_undo := List.mem_of_getElem? (i := 2) rfl
theorem kX8_undo_3 : (Cond.fieldLink RX8 47 "LinenTunnelModel" "batchMany" "[I" : Cond) ∈ wsX8_undo := List.mem_of_getElem? (i := 3) rfl
theorem kX8_undo_4 : (Cond.fieldLink RX8 50 "LinenTunnelModel" "batchPiece" "[I" : Cond) ∈ wsX8_undo := List.mem_of_getElem? (i := 4) rfl
theorem kX8_undo_5 : (Cond.fieldLink RX8 35 "LinenTunnelModel" "placeOf" "[I" : Cond) ∈ wsX8_undo := List.mem_of_getElem? (i := 5) rfl
theorem kX8_undo_6 : (Cond.fieldLink RX8 41 "LinenTunnelModel" "batchOf" "[I" : Cond) ∈ wsX8_undo := List.mem_of_getElem? (i := 6) rfl
theorem kX8_undo_7 : (Cond.fieldLink RX8 44 "LinenTunnelModel" "batchKind" "[I" : Cond) ∈ wsX8_undo := List.mem_of_getElem? (i := 7) rfl
set_option maxRecDepth 100000 in
set_option maxHeartbeats 4000000 in
theorem tX8_undo_24 {l : Launch} {K : mm_K} {D : va_G} {cI cZ : ClassId} {a : Nat → Nat} (X : eC K rX8_undo cX8_undo 4 (some .int) wsX8_undo RX8 D cI cZ a) (hL : mm_L K l) (hJ : mm_J 29 a) {F : Nat} {l1 : Int32} {out : mm_M} (hx : eG K D cI cZ a out 66 [(0, .ref (a 0)), (1, .int l1)] []) : ∀ (k : Nat) (l2 : Int32) (σ : mm_M), fX8_undo_24 F l1 k l2 σ = some out → eG K D cI cZ a σ 24 [(0, .ref (a 0)), (1, .int l1), (2, .int l2)] [] := by
  intro k
  induction k with
  | zero =>
    intro l2 σ h
    have h : none = some out := h
    cases h
  | succ k ih =>
    intro l2 σ h
    rw [fX8_undo_24] at h
    refine mm_iload_n X dX8_undo_24 2 rfl ?_
    refine mm_aload_n X dX8_undo_25 0 rfl ?_
    refine mm_get X dX8_undo_26 0 15 (by decide) md_cf_0 rfl (by decide) uX8_undo_8 kX8_undo_3 rfl (v := .ref (a 13)) rfl ?_
    refine mm_iload_n X dX8_undo_29 1 rfl ?_
    obtain ⟨hi1, h⟩ := mm_g_some h
    refine mm_iald X dX8_undo_30 13 0 (by decide) rfl rfl hi1 (v := (σ 13 l1.toNatClampNeg)) rfl ?_
    refine mm_icmp_ge X dX8_undo_31 (tgt := 66) (by decide) (fun c2 => ?_) (fun c2 => ?_)
    · have h := (if_neg c2).symm.trans h
      obtain rfl := Option.some.inj h
      refine mm_loc [0, 1] rfl ?_
      exact hx
    · have h := (if_pos c2).symm.trans h
      refine mm_aload_n X dX8_undo_34 0 rfl ?_
      refine mm_get X dX8_undo_35 0 16 (by decide) md_cf_0 rfl (by decide) uX8_undo_8 kX8_undo_4 rfl (v := .ref (a 14)) rfl ?_
      refine mm_bipush X dX8_undo_38 (v := 20) (by decide) ?_
      refine mm_iload_n X dX8_undo_40 1 rfl ?_
      refine mm_imul X dX8_undo_41 ?_
      refine mm_iload_n X dX8_undo_42 2 rfl ?_
      refine mm_iadd X dX8_undo_43 ?_
      obtain ⟨hi3, h⟩ := mm_g_some h
      refine mm_iald X dX8_undo_44 14 0 (by decide) rfl rfl hi3 (v := (σ 14 (((20 : Int32) * l1) + l2).toNatClampNeg)) rfl ?_
      refine mm_istore_n X dX8_undo_45 (by decide) (lv2 := [(3, .int (σ 14 (((20 : Int32) * l1) + l2).toNatClampNeg)), (0, .ref (a 0)), (1, .int l1), (2, .int l2)]) rfl ?_
      refine mm_aload_n X dX8_undo_46 1 rfl ?_
      refine mm_get X dX8_undo_47 0 10 (by decide) md_cf_0 rfl (by decide) uX8_undo_8 kX8_undo_5 rfl (v := .ref (a 9)) rfl ?_
      refine mm_iload_n X dX8_undo_50 0 rfl ?_
      refine mm_iconst X dX8_undo_51 (v := 1) (by decide) ?_
      obtain ⟨hi4, h⟩ := mm_g_some h
      refine mm_iast X dX8_undo_52 9 0 (by decide) (fun _ => rfl) rfl hi4 ?_
      refine mm_aload_n X dX8_undo_53 1 rfl ?_
      refine mm_get X dX8_undo_54 0 12 (by decide) md_cf_0 rfl (by decide) uX8_undo_8 kX8_undo_6 rfl (v := .ref (a 11)) rfl ?_
      refine mm_iload_n X dX8_undo_57 0 rfl ?_
      refine mm_iconst X dX8_undo_58 (v := -1) (by decide) ?_
      obtain ⟨hi5, h⟩ := mm_g_some h
      refine mm_iast X dX8_undo_59 11 0 (by decide) (fun _ => rfl) rfl hi5 ?_
      refine mm_iinc X dX8_undo_60 3 rfl (v := (l2 + 1)) rfl (by decide) (lv2 := [(2, .int (l2 + 1)), (3, .int (σ 14 (((20 : Int32) * l1) + l2).toNatClampNeg)), (0, .ref (a 0)), (1, .int l1)]) rfl ?_
      refine mm_goto X dX8_undo_63 (tgt := 24) (by decide) ?_
      refine mm_loc [2, 3, 0] rfl ?_
      exact ih _ _ h
set_option maxRecDepth 100000 in
set_option maxHeartbeats 4000000 in
theorem tX8_undo_78 {l : Launch} {K : mm_K} {D : va_G} {cI cZ : ClassId} {a : Nat → Nat} (X : eC K rX8_undo cX8_undo 4 (some .int) wsX8_undo RX8 D cI cZ a) (hL : mm_L K l) (hJ : mm_J 29 a) {F : Nat} {l1 : Int32} {out : mm_M} (hx : eG K D cI cZ a out 116 [(0, .ref (a 0)), (1, .int l1)] []) : ∀ (k : Nat) (l2 : Int32) (σ : mm_M), fX8_undo_78 F l1 k l2 σ = some out → eG K D cI cZ a σ 78 [(0, .ref (a 0)), (1, .int l1), (2, .int l2)] [] := by
  intro k
  induction k with
  | zero =>
    intro l2 σ h
    have h : none = some out := h
    cases h
  | succ k ih =>
    intro l2 σ h
    rw [fX8_undo_78] at h
    refine mm_iload_n X dX8_undo_78 2 rfl ?_
    refine mm_aload_n X dX8_undo_79 0 rfl ?_
    refine mm_get X dX8_undo_80 0 13 (by decide) md_cf_0 rfl (by decide) uX8_undo_8 kX8_undo_1 rfl (v := .int (σ 0 13)) rfl ?_
    refine mm_icmp_ge X dX8_undo_83 (tgt := 116) (by decide) (fun c1 => ?_) (fun c1 => ?_)
    · have h := (if_neg c1).symm.trans h
      obtain rfl := Option.some.inj h
      refine mm_loc [0, 1] rfl ?_
      exact hx
    · have h := (if_pos c1).symm.trans h
      refine mm_aload_n X dX8_undo_86 0 rfl ?_
      refine mm_get X dX8_undo_87 0 17 (by decide) md_cf_0 rfl (by decide) uX8_undo_8 kX8_undo_2 rfl (v := .ref (a 15)) rfl ?_
      refine mm_iload_n X dX8_undo_90 2 rfl ?_
      refine mm_dup2 X dX8_undo_91 rfl rfl ?_
      obtain ⟨hi2, h⟩ := mm_g_some h
      refine mm_iald X dX8_undo_92 15 0 (by decide) rfl rfl hi2 (v := (σ 15 l2.toNatClampNeg)) rfl ?_
      refine mm_aload_n X dX8_undo_93 0 rfl ?_
      refine mm_get X dX8_undo_94 0 17 (by decide) md_cf_0 rfl (by decide) uX8_undo_8 kX8_undo_2 rfl (v := .ref (a 15)) rfl ?_
      refine mm_iload_n X dX8_undo_97 2 rfl ?_
      obtain ⟨hi3, h⟩ := mm_g_some h
      refine mm_iald X dX8_undo_98 15 0 (by decide) rfl rfl hi3 (v := (σ 15 l2.toNatClampNeg)) rfl ?_
      refine mm_iload_n X dX8_undo_99 1 rfl ?_
      have J6 : ∀ (v4 : Int32), v4 = (if l1 < (σ 15 l2.toNatClampNeg) then (1 : Int32) else (0 : Int32)) → eG K D cI cZ a σ 108 [(0, .ref (a 0)), (1, .int l1), (2, .int l2)] [.int v4, .int (σ 15 l2.toNatClampNeg), .int l2, .ref (a 15)] := by
        intro v4 ev4
        subst ev4
        refine mm_isub X dX8_undo_108 ?_
        obtain ⟨hi5, h⟩ := mm_g_some h
        refine mm_iast X dX8_undo_109 15 0 (by decide) (fun _ => rfl) rfl hi5 ?_
        refine mm_iinc X dX8_undo_110 2 rfl (v := (l2 + 1)) rfl (by decide) (lv2 := [(2, .int (l2 + 1)), (0, .ref (a 0)), (1, .int l1)]) rfl ?_
        refine mm_goto X dX8_undo_113 (tgt := 78) (by decide) ?_
        refine mm_loc [1, 2, 0] rfl ?_
        exact ih _ _ h
      refine mm_icmp_le X dX8_undo_100 (tgt := 107) (by decide) (fun c7 => ?_) (fun c7 => ?_)
      · refine mm_iconst X dX8_undo_107 (v := 0) (by decide) ?_
        exact J6 _ (by rw [if_neg c7])
      · refine mm_iconst X dX8_undo_103 (v := 1) (by decide) ?_
        refine mm_goto X dX8_undo_104 (tgt := 108) (by decide) ?_
        exact J6 _ (by rw [if_pos c7])
set_option maxRecDepth 100000 in
set_option maxHeartbeats 4000000 in
theorem tX8_undo_156 {l : Launch} {K : mm_K} {D : va_G} {cI cZ : ClassId} {a : Nat → Nat} (X : eC K rX8_undo cX8_undo 4 (some .int) wsX8_undo RX8 D cI cZ a) (hL : mm_L K l) (hJ : mm_J 29 a) {F : Nat} {l2 : Int32} {out : mm_M} (hx : eG K D cI cZ a out 214 [(0, .ref (a 0)), (2, .int l2)] []) : ∀ (k : Nat) (l3 : Int32) (σ : mm_M), fX8_undo_156 F l2 k l3 σ = some out → eG K D cI cZ a σ 156 [(0, .ref (a 0)), (2, .int l2), (3, .int l3)] [] := by
  intro k
  induction k with
  | zero =>
    intro l3 σ h
    have h : none = some out := h
    cases h
  | succ k ih =>
    intro l3 σ h
    rw [fX8_undo_156] at h
    refine mm_iload_n X dX8_undo_156 2 rfl ?_
    refine mm_aload_n X dX8_undo_157 0 rfl ?_
    refine mm_get X dX8_undo_158 0 15 (by decide) md_cf_0 rfl (by decide) uX8_undo_8 kX8_undo_3 rfl (v := .ref (a 13)) rfl ?_
    refine mm_iload_n X dX8_undo_161 1 rfl ?_
    obtain ⟨hi1, h⟩ := mm_g_some h
    refine mm_iald X dX8_undo_162 13 0 (by decide) rfl rfl hi1 (v := (σ 13 l2.toNatClampNeg)) rfl ?_
    refine mm_icmp_ge X dX8_undo_163 (tgt := 214) (by decide) (fun c2 => ?_) (fun c2 => ?_)
    · have h := (if_neg c2).symm.trans h
      obtain rfl := Option.some.inj h
      refine mm_loc [0, 1] rfl ?_
      exact hx
    · have h := (if_pos c2).symm.trans h
      refine mm_aload_n X dX8_undo_166 0 rfl ?_
      refine mm_get X dX8_undo_167 0 16 (by decide) md_cf_0 rfl (by decide) uX8_undo_8 kX8_undo_4 rfl (v := .ref (a 14)) rfl ?_
      refine mm_bipush X dX8_undo_170 (v := 20) (by decide) ?_
      refine mm_iload_n X dX8_undo_172 1 rfl ?_
      refine mm_imul X dX8_undo_173 ?_
      refine mm_iload_n X dX8_undo_174 2 rfl ?_
      refine mm_iadd X dX8_undo_175 ?_
      refine mm_aload_n X dX8_undo_176 0 rfl ?_
      refine mm_get X dX8_undo_177 0 16 (by decide) md_cf_0 rfl (by decide) uX8_undo_8 kX8_undo_4 rfl (v := .ref (a 14)) rfl ?_
      refine mm_bipush X dX8_undo_180 (v := 20) (by decide) ?_
      refine mm_iload_n X dX8_undo_182 1 rfl ?_
      refine mm_imul X dX8_undo_183 ?_
      refine mm_bipush X dX8_undo_184 (v := 20) (by decide) ?_
      refine mm_iadd X dX8_undo_186 ?_
      refine mm_iload_n X dX8_undo_187 2 rfl ?_
      refine mm_iadd X dX8_undo_188 ?_
      obtain ⟨hi3, h⟩ := mm_g_some h
      refine mm_iald X dX8_undo_189 14 0 (by decide) rfl rfl hi3 (v := (σ 14 ((((20 : Int32) * l2) + (20 : Int32)) + l3).toNatClampNeg)) rfl ?_
      obtain ⟨hi4, h⟩ := mm_g_some h
      refine mm_iast X dX8_undo_190 14 0 (by decide) (fun _ => rfl) rfl hi4 ?_
      refine mm_aload_n X dX8_undo_191 0 rfl ?_
      refine mm_get X dX8_undo_192 0 12 (by decide) md_cf_0 rfl (by decide) uX8_undo_8 kX8_undo_6 rfl (v := .ref (a 11)) rfl ?_
      refine mm_aload_n X dX8_undo_195 0 rfl ?_
      refine mm_get X dX8_undo_196 0 16 (by decide) md_cf_0 rfl (by decide) uX8_undo_8 kX8_undo_4 rfl (v := .ref (a 14)) rfl ?_
      refine mm_bipush X dX8_undo_199 (v := 20) (by decide) ?_
      refine mm_iload_n X dX8_undo_201 1 rfl ?_
      refine mm_imul X dX8_undo_202 ?_
      refine mm_iload_n X dX8_undo_203 2 rfl ?_
      refine mm_iadd X dX8_undo_204 ?_
      obtain ⟨hi5, h⟩ := mm_g_some h
      refine mm_iald X dX8_undo_205 14 0 (by decide) rfl rfl hi5 (v := ((mm_up σ 14 (((20 : Int32) * l2) + l3).toNatClampNeg (σ 14 ((((20 : Int32) * l2) + (20 : Int32)) + l3).toNatClampNeg)) 14 (((20 : Int32) * l2) + l3).toNatClampNeg)) rfl ?_
      refine mm_iload_n X dX8_undo_206 1 rfl ?_
      obtain ⟨hi6, h⟩ := mm_g_some h
      refine mm_iast X dX8_undo_207 11 0 (by decide) (fun _ => rfl) rfl hi6 ?_
      refine mm_iinc X dX8_undo_208 2 rfl (v := (l3 + 1)) rfl (by decide) (lv2 := [(3, .int (l3 + 1)), (0, .ref (a 0)), (2, .int l2)]) rfl ?_
      refine mm_goto X dX8_undo_211 (tgt := 156) (by decide) ?_
      refine mm_loc [1, 2, 0] rfl ?_
      exact ih _ _ h
set_option maxRecDepth 100000 in
set_option maxHeartbeats 4000000 in
theorem tX8_undo_118 {l : Launch} {K : mm_K} {D : va_G} {cI cZ : ClassId} {a : Nat → Nat} (X : eC K rX8_undo cX8_undo 4 (some .int) wsX8_undo RX8 D cI cZ a) (hL : mm_L K l) (hJ : mm_J 29 a) {F : Nat} {out : mm_M} (hx : eG K D cI cZ a out 220 [(0, .ref (a 0))] []) : ∀ (k : Nat) (l2 : Int32) (σ : mm_M), fX8_undo_118 F k l2 σ = some out → eG K D cI cZ a σ 118 [(0, .ref (a 0)), (2, .int l2)] [] := by
  intro k
  induction k with
  | zero =>
    intro l2 σ h
    have h : none = some out := h
    cases h
  | succ k ih =>
    intro l2 σ h
    rw [fX8_undo_118] at h
    refine mm_iload_n X dX8_undo_118 1 rfl ?_
    refine mm_aload_n X dX8_undo_119 0 rfl ?_
    refine mm_get X dX8_undo_120 0 13 (by decide) md_cf_0 rfl (by decide) uX8_undo_8 kX8_undo_1 rfl (v := .int (σ 0 13)) rfl ?_
    refine mm_icmp_ge X dX8_undo_123 (tgt := 220) (by decide) (fun c1 => ?_) (fun c1 => ?_)
    · have h := (if_neg c1).symm.trans h
      obtain rfl := Option.some.inj h
      refine mm_loc [0] rfl ?_
      exact hx
    · have h := (if_pos c1).symm.trans h
      refine mm_aload_n X dX8_undo_126 0 rfl ?_
      refine mm_get X dX8_undo_127 0 14 (by decide) md_cf_0 rfl (by decide) uX8_undo_8 kX8_undo_7 rfl (v := .ref (a 12)) rfl ?_
      refine mm_iload_n X dX8_undo_130 1 rfl ?_
      refine mm_aload_n X dX8_undo_131 0 rfl ?_
      refine mm_get X dX8_undo_132 0 14 (by decide) md_cf_0 rfl (by decide) uX8_undo_8 kX8_undo_7 rfl (v := .ref (a 12)) rfl ?_
      refine mm_iload_n X dX8_undo_135 1 rfl ?_
      refine mm_iconst X dX8_undo_136 (v := 1) (by decide) ?_
      refine mm_iadd X dX8_undo_137 ?_
      obtain ⟨hi2, h⟩ := mm_g_some h
      refine mm_iald X dX8_undo_138 12 0 (by decide) rfl rfl hi2 (v := (σ 12 (l2 + (1 : Int32)).toNatClampNeg)) rfl ?_
      obtain ⟨hi3, h⟩ := mm_g_some h
      refine mm_iast X dX8_undo_139 12 0 (by decide) (fun _ => rfl) rfl hi3 ?_
      refine mm_aload_n X dX8_undo_140 0 rfl ?_
      refine mm_get X dX8_undo_141 0 15 (by decide) md_cf_0 rfl (by decide) uX8_undo_8 kX8_undo_3 rfl (v := .ref (a 13)) rfl ?_
      refine mm_iload_n X dX8_undo_144 1 rfl ?_
      refine mm_aload_n X dX8_undo_145 0 rfl ?_
      refine mm_get X dX8_undo_146 0 15 (by decide) md_cf_0 rfl (by decide) uX8_undo_8 kX8_undo_3 rfl (v := .ref (a 13)) rfl ?_
      refine mm_iload_n X dX8_undo_149 1 rfl ?_
      refine mm_iconst X dX8_undo_150 (v := 1) (by decide) ?_
      refine mm_iadd X dX8_undo_151 ?_
      obtain ⟨hi4, h⟩ := mm_g_some h
      refine mm_iald X dX8_undo_152 13 0 (by decide) rfl rfl hi4 (v := (σ 13 (l2 + (1 : Int32)).toNatClampNeg)) rfl ?_
      obtain ⟨hi5, h⟩ := mm_g_some h
      refine mm_iast X dX8_undo_153 13 0 (by decide) (fun _ => rfl) rfl hi5 ?_
      refine mm_iconst X dX8_undo_154 (v := 0) (by decide) ?_
      refine mm_istore_n X dX8_undo_155 (by decide) (lv2 := [(3, .int (0 : Int32)), (0, .ref (a 0)), (2, .int l2)]) rfl ?_
      obtain ⟨q6, hq6, h⟩ := Option.bind_eq_some_iff.mp h
      refine mm_loc [1, 2, 0] rfl ?_
      refine tX8_undo_156 X hL hJ ?_ F (0 : Int32) (mm_up (mm_up σ 12 l2.toNatClampNeg (σ 12 (l2 + (1 : Int32)).toNatClampNeg)) 13 l2.toNatClampNeg (σ 13 (l2 + (1 : Int32)).toNatClampNeg)) hq6
      refine mm_iinc X dX8_undo_214 1 rfl (v := (l2 + 1)) rfl (by decide) (lv2 := [(2, .int (l2 + 1)), (0, .ref (a 0))]) rfl ?_
      refine mm_goto X dX8_undo_217 (tgt := 118) (by decide) ?_
      refine mm_loc [1, 0] rfl ?_
      exact ih _ _ h
set_option maxRecDepth 100000 in
set_option maxHeartbeats 4000000 in
theorem mX8_undo {l : Launch} {D : va_G} {cI cZ : ClassId} {a : Nat → Nat} (hJ : mm_J 29 a) {F : Nat} {σ : mm_M} {res : Int32 × mm_M} (h : fX8_undo F σ = some res) (sz : Nat) : Met l yX8_undo wsX8_undo rX8_undo (eP D cI cZ a σ [.ref (a 0)] sz) (eQi D cI cZ a res.1 res.2 sz) 0 0 (mm_A 29 a sz) := by
  refine mm_met (fun sz => eQi D cI cZ a res.1 res.2 sz) (lv := [(0, .ref (a 0))]) (ret := (some .int)) (cc := cX8_undo) (maxL := 4) (own := RX8) hJ (by decide +kernel) rfl rfl (Nat.le_of_ble_eq_true rfl) rfl ?_ sz
  intro K hL X hQ
  unfold fX8_undo at h
  refine mm_aload_n X dX8_undo_0 0 rfl ?_
  refine mm_get X dX8_undo_1 0 13 (by decide) md_cf_0 rfl (by decide) uX8_undo_8 kX8_undo_1 rfl (v := .int (σ 0 13)) rfl ?_
  refine mm_if_ne X dX8_undo_4 (tgt := 10) (by decide) (fun c1 => ?_) (fun c1 => ?_)
  · have h := (if_neg c1).symm.trans h
    refine mm_aload_n X dX8_undo_10 0 rfl ?_
    refine mm_get X dX8_undo_11 0 17 (by decide) md_cf_0 rfl (by decide) uX8_undo_8 kX8_undo_2 rfl (v := .ref (a 15)) rfl ?_
    refine mm_aload_n X dX8_undo_14 0 rfl ?_
    refine mm_get X dX8_undo_15 0 13 (by decide) md_cf_0 rfl (by decide) uX8_undo_8 kX8_undo_1 rfl (v := .int (σ 0 13)) rfl ?_
    refine mm_iconst X dX8_undo_18 (v := 1) (by decide) ?_
    refine mm_isub X dX8_undo_19 ?_
    obtain ⟨hi2, h⟩ := mm_g_some h
    refine mm_iald X dX8_undo_20 15 0 (by decide) rfl rfl hi2 (v := (σ 15 ((σ 0 13) - (1 : Int32)).toNatClampNeg)) rfl ?_
    refine mm_istore_n X dX8_undo_21 (by decide) (lv2 := [(1, .int (σ 15 ((σ 0 13) - (1 : Int32)).toNatClampNeg)), (0, .ref (a 0))]) rfl ?_
    refine mm_iconst X dX8_undo_22 (v := 0) (by decide) ?_
    refine mm_istore_n X dX8_undo_23 (by decide) (lv2 := [(2, .int (0 : Int32)), (1, .int (σ 15 ((σ 0 13) - (1 : Int32)).toNatClampNeg)), (0, .ref (a 0))]) rfl ?_
    obtain ⟨q3, hq3, h⟩ := Option.bind_eq_some_iff.mp h
    refine mm_loc [2, 1, 0] rfl ?_
    refine tX8_undo_24 X hL hJ ?_ F (0 : Int32) σ hq3
    refine mm_aload_n X dX8_undo_66 0 rfl ?_
    refine mm_dup X dX8_undo_67 rfl ?_
    refine mm_get X dX8_undo_68 0 13 (by decide) md_cf_0 rfl (by decide) uX8_undo_8 kX8_undo_1 rfl (v := .int (q3 0 13)) rfl ?_
    refine mm_iconst X dX8_undo_71 (v := 1) (by decide) ?_
    refine mm_isub X dX8_undo_72 ?_
    refine mm_put X dX8_undo_73 0 13 (by decide) tyX8 tyX8_ok nmX8 md_cf_0 rfl rfl (by decide) uX8_undo_8 kX8_undo_1 rfl rfl rfl (Nat.le_of_ble_eq_true rfl) ?_
    refine mm_iconst X dX8_undo_76 (v := 0) (by decide) ?_
    refine mm_istore_n X dX8_undo_77 (by decide) (lv2 := [(2, .int (0 : Int32)), (0, .ref (a 0)), (1, .int (σ 15 ((σ 0 13) - (1 : Int32)).toNatClampNeg))]) rfl ?_
    obtain ⟨q4, hq4, h⟩ := Option.bind_eq_some_iff.mp h
    refine mm_loc [1, 2, 0] rfl ?_
    refine tX8_undo_78 X hL hJ ?_ F (0 : Int32) (mm_up q3 0 13 ((q3 0 13) - (1 : Int32))) hq4
    refine mm_iload_n X dX8_undo_116 1 rfl ?_
    refine mm_istore_n X dX8_undo_117 (by decide) (lv2 := [(2, .int (σ 15 ((σ 0 13) - (1 : Int32)).toNatClampNeg)), (0, .ref (a 0)), (1, .int (σ 15 ((σ 0 13) - (1 : Int32)).toNatClampNeg))]) rfl ?_
    obtain ⟨q5, hq5, h⟩ := Option.bind_eq_some_iff.mp h
    refine mm_loc [1, 0] rfl ?_
    refine tX8_undo_118 X hL hJ ?_ F (σ 15 ((σ 0 13) - (1 : Int32)).toNatClampNeg) q4 hq5
    refine mm_aload_n X dX8_undo_220 0 rfl ?_
    refine mm_get X dX8_undo_221 0 13 (by decide) md_cf_0 rfl (by decide) uX8_undo_8 kX8_undo_1 rfl (v := .int (q5 0 13)) rfl ?_
    obtain rfl := Option.some.inj h
    exact mm_iret X dX8_undo_224 rfl hQ rfl
  · have h := (if_pos c1).symm.trans h
    refine mm_bipush X dX8_undo_7 (v := -4) (by decide) ?_
    obtain rfl := Option.some.inj h
    exact mm_iret X dX8_undo_9 rfl hQ rfl
/-! LinenTunnelModel.emptiesOf -/
def fX8_emptiesOf (σ : mm_M) (p1 p2 : Int32) : Option (Int32) := mm_g 8 p2 (mm_g 8 p1 (((if (σ 2 p2.toNatClampNeg) < (σ 2 p1.toNatClampNeg) then mm_g 8 p1 (mm_g 8 p2 (some (((σ 2 p1.toNatClampNeg) - (σ 2 p2.toNatClampNeg))))) else some ((0 : Int32)))).bind fun q3 => mm_g 8 p1 (mm_g 8 p2 (mm_g 8 p1 (((if (σ 3 p1.toNatClampNeg) = 0 then some ((0 : Int32)) else mm_g 8 p2 ((if (σ 3 p2.toNatClampNeg) = 0 then some ((2 : Int32)) else some ((0 : Int32)))))).bind fun q12 => some ((q3 + (if (1 : Int32) < ((σ 1 p1.toNatClampNeg) - (σ 1 p2.toNatClampNeg)) then (1 : Int32) else (if ((σ 1 p1.toNatClampNeg) - (σ 1 p2.toNatClampNeg)) < (-1 : Int32) then (1 : Int32) else (0 : Int32)))) + q12))))))
abbrev rX8_emptiesOf : Room := { frames := 0, cells := 0, slots := 0, locals := 0 }
theorem hyX8_emptiesOf : yX8_emptiesOf.cls = RX8 ∧ yX8_emptiesOf.cls ≠ "java/lang/invoke/MethodHandle" ∧ yX8_emptiesOf.cls ≠ "java/lang/invoke/VarHandle" ∧ (parseMethodDescriptor yX8_emptiesOf.desc).map (fun d => d.parameters.length) = some 2 := by decide +kernel
theorem kX8_emptiesOf_1 : (Cond.fieldLink RX8 13 "LinenTunnelModel" "colours" "[I" : Cond) ∈ wsX8_emptiesOf := List.mem_of_getElem? (i := 1) rfl
theorem uX8_emptiesOf_8 : ∀ w ∈ u_ws RX8 TX8 37, w ∈ wsX8_emptiesOf := fun _ h => (List.mem_cons_of_mem _ (List.mem_append_right _ h))
theorem kX8_emptiesOf_2 : (Cond.fieldLink RX8 7 "LinenTunnelModel" "heats" "[I" : Cond) ∈ wsX8_emptiesOf := List.mem_of_getElem? (i := 2) rfl
theorem kX8_emptiesOf_3 : (Cond.fieldLink RX8 16 "LinenTunnelModel" "isFoul" "[Z" : Cond) ∈ wsX8_emptiesOf := List.mem_of_getElem? (i := 3) rfl
set_option maxRecDepth 100000 in
set_option maxHeartbeats 4000000 in
theorem mX8_emptiesOf {l : Launch} {D : va_G} {cI cZ : ClassId} {a : Nat → Nat} (hJ : mm_J 29 a) {σ : mm_M} {p1 p2 : Int32} {res : Int32} (h : fX8_emptiesOf σ p1 p2 = some res) (sz : Nat) : Met l yX8_emptiesOf wsX8_emptiesOf rX8_emptiesOf (eP D cI cZ a σ [.ref (a 0), .int p1, .int p2] sz) (eQi D cI cZ a res σ sz) 0 0 (mm_A 29 a sz) := by
  refine mm_met (fun sz => eQi D cI cZ a res σ sz) (lv := [(0, .ref (a 0)), (1, .int p1), (2, .int p2)]) (ret := (some .int)) (cc := cX8_emptiesOf) (maxL := 5) (own := RX8) hJ (by decide +kernel) rfl rfl (Nat.le_of_ble_eq_true rfl) rfl ?_ sz
  intro K hL X hQ
  unfold fX8_emptiesOf at h
  refine mm_aload_n X dX8_emptiesOf_0 0 rfl ?_
  refine mm_get X dX8_emptiesOf_1 0 2 (by decide) md_cf_0 rfl (by decide) uX8_emptiesOf_8 kX8_emptiesOf_1 rfl (v := .ref (a 2)) rfl ?_
  refine mm_iload_n X dX8_emptiesOf_4 2 rfl ?_
  obtain ⟨hi1, h⟩ := mm_g_some h
  refine mm_iald X dX8_emptiesOf_5 2 0 (by decide) rfl rfl hi1 (v := (σ 2 p2.toNatClampNeg)) rfl ?_
  refine mm_aload_n X dX8_emptiesOf_6 0 rfl ?_
  refine mm_get X dX8_emptiesOf_7 0 2 (by decide) md_cf_0 rfl (by decide) uX8_emptiesOf_8 kX8_emptiesOf_1 rfl (v := .ref (a 2)) rfl ?_
  refine mm_iload_n X dX8_emptiesOf_10 1 rfl ?_
  obtain ⟨hi2, h⟩ := mm_g_some h
  refine mm_iald X dX8_emptiesOf_11 2 0 (by decide) rfl rfl hi2 (v := (σ 2 p1.toNatClampNeg)) rfl ?_
  obtain ⟨q3, hq3, h⟩ := Option.bind_eq_some_iff.mp h
  have J4 : eG K D cI cZ a σ 32 [(0, .ref (a 0)), (1, .int p1), (2, .int p2)] [.int q3] := by
    refine mm_istore_n X dX8_emptiesOf_32 (by decide) (lv2 := [(3, .int q3), (0, .ref (a 0)), (1, .int p1), (2, .int p2)]) rfl ?_
    refine mm_aload_n X dX8_emptiesOf_33 1 rfl ?_
    refine mm_get X dX8_emptiesOf_34 0 1 (by decide) md_cf_0 rfl (by decide) uX8_emptiesOf_8 kX8_emptiesOf_2 rfl (v := .ref (a 1)) rfl ?_
    refine mm_iload_n X dX8_emptiesOf_37 2 rfl ?_
    obtain ⟨hi8, h⟩ := mm_g_some h
    refine mm_iald X dX8_emptiesOf_38 1 0 (by decide) rfl rfl hi8 (v := (σ 1 p1.toNatClampNeg)) rfl ?_
    refine mm_aload_n X dX8_emptiesOf_39 1 rfl ?_
    refine mm_get X dX8_emptiesOf_40 0 1 (by decide) md_cf_0 rfl (by decide) uX8_emptiesOf_8 kX8_emptiesOf_2 rfl (v := .ref (a 1)) rfl ?_
    refine mm_iload_n X dX8_emptiesOf_43 3 rfl ?_
    obtain ⟨hi9, h⟩ := mm_g_some h
    refine mm_iald X dX8_emptiesOf_44 1 0 (by decide) rfl rfl hi9 (v := (σ 1 p2.toNatClampNeg)) rfl ?_
    refine mm_isub X dX8_emptiesOf_45 ?_
    refine mm_istore X dX8_emptiesOf_46 (by decide) (lv2 := [(4, .int ((σ 1 p1.toNatClampNeg) - (σ 1 p2.toNatClampNeg))), (3, .int q3), (0, .ref (a 0)), (1, .int p1), (2, .int p2)]) rfl ?_
    refine mm_iload_n X dX8_emptiesOf_48 1 rfl ?_
    refine mm_iload X dX8_emptiesOf_49 0 rfl ?_
    refine mm_iconst X dX8_emptiesOf_51 (v := 1) (by decide) ?_
    have J17 : ∀ (v10 : Int32), v10 = (if (1 : Int32) < ((σ 1 p1.toNatClampNeg) - (σ 1 p2.toNatClampNeg)) then (1 : Int32) else (if ((σ 1 p1.toNatClampNeg) - (σ 1 p2.toNatClampNeg)) < (-1 : Int32) then (1 : Int32) else (0 : Int32))) → eG K D cI cZ a σ 66 [(0, .ref (a 0)), (1, .int p1), (2, .int p2)] [.int v10, .int q3] := by
      intro v10 ev10
      subst ev10
      refine mm_iadd X dX8_emptiesOf_66 ?_
      refine mm_istore_n X dX8_emptiesOf_67 (by decide) (lv2 := [(3, .int (q3 + (if (1 : Int32) < ((σ 1 p1.toNatClampNeg) - (σ 1 p2.toNatClampNeg)) then (1 : Int32) else (if ((σ 1 p1.toNatClampNeg) - (σ 1 p2.toNatClampNeg)) < (-1 : Int32) then (1 : Int32) else (0 : Int32))))), (0, .ref (a 0)), (1, .int p1), (2, .int p2)]) rfl ?_
      refine mm_iload_n X dX8_emptiesOf_68 0 rfl ?_
      refine mm_aload_n X dX8_emptiesOf_69 1 rfl ?_
      refine mm_get X dX8_emptiesOf_70 0 3 (by decide) md_cf_0 rfl (by decide) uX8_emptiesOf_8 kX8_emptiesOf_3 rfl (v := .ref (a 3)) rfl ?_
      refine mm_iload_n X dX8_emptiesOf_73 2 rfl ?_
      obtain ⟨hi11, h⟩ := mm_g_some h
      refine mm_zald X dX8_emptiesOf_74 3 1 (by decide) rfl rfl hi11 (v := (σ 3 p1.toNatClampNeg)) rfl ?_
      obtain ⟨q12, hq12, h⟩ := Option.bind_eq_some_iff.mp h
      have J13 : eG K D cI cZ a σ 92 [] [.int q12, .int (q3 + (if (1 : Int32) < ((σ 1 p1.toNatClampNeg) - (σ 1 p2.toNatClampNeg)) then (1 : Int32) else (if ((σ 1 p1.toNatClampNeg) - (σ 1 p2.toNatClampNeg)) < (-1 : Int32) then (1 : Int32) else (0 : Int32))))] := by
        refine mm_iadd X dX8_emptiesOf_92 ?_
        obtain rfl := Option.some.inj h
        exact mm_iret X dX8_emptiesOf_93 rfl hQ rfl
      have h := hq12
      refine mm_if_eq X dX8_emptiesOf_75 (tgt := 91) (by decide) (fun c14 => ?_) (fun c14 => ?_)
      · have h := (if_pos c14).symm.trans h
        refine mm_iconst X dX8_emptiesOf_91 (v := 0) (by decide) ?_
        obtain rfl := Option.some.inj h
        refine mm_loc [] rfl ?_
        exact J13
      · have h := (if_neg c14).symm.trans h
        refine mm_aload_n X dX8_emptiesOf_78 1 rfl ?_
        refine mm_get X dX8_emptiesOf_79 0 3 (by decide) md_cf_0 rfl (by decide) uX8_emptiesOf_8 kX8_emptiesOf_3 rfl (v := .ref (a 3)) rfl ?_
        refine mm_iload_n X dX8_emptiesOf_82 3 rfl ?_
        obtain ⟨hi15, h⟩ := mm_g_some h
        refine mm_zald X dX8_emptiesOf_83 3 1 (by decide) rfl rfl hi15 (v := (σ 3 p2.toNatClampNeg)) rfl ?_
        refine mm_if_ne X dX8_emptiesOf_84 (tgt := 91) (by decide) (fun c16 => ?_) (fun c16 => ?_)
        · have h := (if_neg c16).symm.trans h
          refine mm_iconst X dX8_emptiesOf_91 (v := 0) (by decide) ?_
          obtain rfl := Option.some.inj h
          refine mm_loc [] rfl ?_
          exact J13
        · have h := (if_pos c16).symm.trans h
          refine mm_iconst X dX8_emptiesOf_87 (v := 2) (by decide) ?_
          refine mm_goto X dX8_emptiesOf_88 (tgt := 92) (by decide) ?_
          obtain rfl := Option.some.inj h
          refine mm_loc [] rfl ?_
          exact J13
    refine mm_icmp_gt X dX8_emptiesOf_52 (tgt := 61) (by decide) (fun c18 => ?_) (fun c18 => ?_)
    · refine mm_iconst X dX8_emptiesOf_61 (v := 1) (by decide) ?_
      refine mm_goto X dX8_emptiesOf_62 (tgt := 66) (by decide) ?_
      refine mm_loc [2, 3, 4] rfl ?_
      exact J17 _ (by rw [if_pos c18])
    · refine mm_iload X dX8_emptiesOf_55 0 rfl ?_
      refine mm_iconst X dX8_emptiesOf_57 (v := -1) (by decide) ?_
      refine mm_icmp_ge X dX8_emptiesOf_58 (tgt := 65) (by decide) (fun c19 => ?_) (fun c19 => ?_)
      · refine mm_iconst X dX8_emptiesOf_65 (v := 0) (by decide) ?_
        refine mm_loc [2, 3, 4] rfl ?_
        exact J17 _ (by rw [if_neg c18, if_neg c19])
      · refine mm_iconst X dX8_emptiesOf_61 (v := 1) (by decide) ?_
        refine mm_goto X dX8_emptiesOf_62 (tgt := 66) (by decide) ?_
        refine mm_loc [2, 3, 4] rfl ?_
        exact J17 _ (by rw [if_neg c18, if_pos c19])
  have h := hq3
  refine mm_icmp_ge X dX8_emptiesOf_12 (tgt := 31) (by decide) (fun c5 => ?_) (fun c5 => ?_)
  · have h := (if_neg c5).symm.trans h
    refine mm_iconst X dX8_emptiesOf_31 (v := 0) (by decide) ?_
    obtain rfl := Option.some.inj h
    exact J4
  · have h := (if_pos c5).symm.trans h
    refine mm_aload_n X dX8_emptiesOf_15 0 rfl ?_
    refine mm_get X dX8_emptiesOf_16 0 2 (by decide) md_cf_0 rfl (by decide) uX8_emptiesOf_8 kX8_emptiesOf_1 rfl (v := .ref (a 2)) rfl ?_
    refine mm_iload_n X dX8_emptiesOf_19 1 rfl ?_
    obtain ⟨hi6, h⟩ := mm_g_some h
    refine mm_iald X dX8_emptiesOf_20 2 0 (by decide) rfl rfl hi6 (v := (σ 2 p1.toNatClampNeg)) rfl ?_
    refine mm_aload_n X dX8_emptiesOf_21 0 rfl ?_
    refine mm_get X dX8_emptiesOf_22 0 2 (by decide) md_cf_0 rfl (by decide) uX8_emptiesOf_8 kX8_emptiesOf_1 rfl (v := .ref (a 2)) rfl ?_
    refine mm_iload_n X dX8_emptiesOf_25 2 rfl ?_
    obtain ⟨hi7, h⟩ := mm_g_some h
    refine mm_iald X dX8_emptiesOf_26 2 0 (by decide) rfl rfl hi7 (v := (σ 2 p2.toNatClampNeg)) rfl ?_
    refine mm_isub X dX8_emptiesOf_27 ?_
    refine mm_goto X dX8_emptiesOf_28 (tgt := 32) (by decide) ?_
    obtain rfl := Option.some.inj h
    exact J4
/-! LinenTunnelModel.between -/
def fX8_between (σ : mm_M) (p1 p2 : Int32) : Option (Int32) := (if (fX8_isKind σ p1) = 0 then some (-2 : Int32) else (if (fX8_isKind σ p2) = 0 then some (-2 : Int32) else (fX8_emptiesOf σ p1 p2).bind fun q3 => some q3))
abbrev rX8_between : Room := { frames := 2, cells := 0, slots := 0, locals := 43 }
theorem hyX8_between : yX8_between.cls = RX8 ∧ yX8_between.cls ≠ "java/lang/invoke/MethodHandle" ∧ yX8_between.cls ≠ "java/lang/invoke/VarHandle" ∧ (parseMethodDescriptor yX8_between.desc).map (fun d => d.parameters.length) = some 2 := by decide +kernel
set_option maxRecDepth 100000 in
set_option maxHeartbeats 4000000 in
theorem mX8_between {l : Launch} {D : va_G} {cI cZ : ClassId} {a : Nat → Nat} (hJ : mm_J 29 a) {σ : mm_M} {p1 p2 : Int32} {res : Int32} (h : fX8_between σ p1 p2 = some res) (sz : Nat) : Met l yX8_between wsX8_between rX8_between (eP D cI cZ a σ [.ref (a 0), .int p1, .int p2] sz) (eQi D cI cZ a res σ sz) 0 0 (mm_A 29 a sz) := by
  refine mm_met (fun sz => eQi D cI cZ a res σ sz) (lv := [(0, .ref (a 0)), (1, .int p1), (2, .int p2)]) (ret := (some .int)) (cc := cX8_between) (maxL := 3) (own := RX8) hJ (by decide +kernel) rfl rfl (Nat.le_of_ble_eq_true rfl) rfl ?_ sz
  intro K hL X hQ
  unfold fX8_between at h
  refine mm_aload_n X dX8_between_0 0 rfl ?_
  refine mm_iload_n X dX8_between_1 1 rfl ?_
  refine mm_callVi X dX8_between_2 (As := [.int p1]) (rest := []) 0 (by decide) md_cf_0 rfl hL (mX8_isKind hJ (res := fX8_isKind σ p1) rfl) gX8_between_X8_isKind rfl ⟨rfl, rfl⟩ hyX8_isKind ⟨Nat.le_of_ble_eq_true rfl, Nat.le_of_ble_eq_true rfl⟩ rfl (Nat.le_of_ble_eq_true rfl) ?_
  refine mm_if_eq X dX8_between_5 (tgt := 25) (by decide) (fun c1 => ?_) (fun c1 => ?_)
  · have h := (if_pos c1).symm.trans h
    refine mm_bipush X dX8_between_25 (v := -2) (by decide) ?_
    obtain rfl := Option.some.inj h
    exact mm_iret X dX8_between_27 rfl hQ rfl
  · have h := (if_neg c1).symm.trans h
    refine mm_aload_n X dX8_between_8 0 rfl ?_
    refine mm_iload_n X dX8_between_9 2 rfl ?_
    refine mm_callVi X dX8_between_10 (As := [.int p2]) (rest := []) 0 (by decide) md_cf_0 rfl hL (mX8_isKind hJ (res := fX8_isKind σ p2) rfl) gX8_between_X8_isKind rfl ⟨rfl, rfl⟩ hyX8_isKind ⟨Nat.le_of_ble_eq_true rfl, Nat.le_of_ble_eq_true rfl⟩ rfl (Nat.le_of_ble_eq_true rfl) ?_
    refine mm_if_eq X dX8_between_13 (tgt := 25) (by decide) (fun c2 => ?_) (fun c2 => ?_)
    · have h := (if_pos c2).symm.trans h
      refine mm_bipush X dX8_between_25 (v := -2) (by decide) ?_
      obtain rfl := Option.some.inj h
      exact mm_iret X dX8_between_27 rfl hQ rfl
    · have h := (if_neg c2).symm.trans h
      refine mm_aload_n X dX8_between_16 0 rfl ?_
      refine mm_iload_n X dX8_between_17 1 rfl ?_
      refine mm_iload_n X dX8_between_18 2 rfl ?_
      obtain ⟨q3, hq3, h⟩ := Option.bind_eq_some_iff.mp h
      refine mm_callVi X dX8_between_19 (As := [.int p1, .int p2]) (rest := []) 0 (by decide) md_cf_0 rfl hL (mX8_emptiesOf hJ hq3) gX8_between_X8_emptiesOf rfl ⟨rfl, rfl⟩ hyX8_emptiesOf ⟨Nat.le_of_ble_eq_true rfl, Nat.le_of_ble_eq_true rfl⟩ rfl (Nat.le_of_ble_eq_true rfl) ?_
      refine mm_goto X dX8_between_22 (tgt := 27) (by decide) ?_
      obtain rfl := Option.some.inj h
      exact mm_iret X dX8_between_27 rfl hQ rfl
/-! LinenTunnelModel.betweenBatches -/
def fX8_betweenBatches (σ : mm_M) (p1 p2 : Int32) : Option (Int32) := mm_g 12 p1 (mm_g 12 p2 ((fX8_emptiesOf σ (σ 12 p1.toNatClampNeg) (σ 12 p2.toNatClampNeg)).bind fun q3 => some q3))
abbrev rX8_betweenBatches : Room := { frames := 1, cells := 0, slots := 0, locals := 24 }
theorem hyX8_betweenBatches : yX8_betweenBatches.cls = RX8 ∧ yX8_betweenBatches.cls ≠ "java/lang/invoke/MethodHandle" ∧ yX8_betweenBatches.cls ≠ "java/lang/invoke/VarHandle" ∧ (parseMethodDescriptor yX8_betweenBatches.desc).map (fun d => d.parameters.length) = some 2 := by decide +kernel
theorem kX8_betweenBatches_1 : (Cond.fieldLink RX8 44 "LinenTunnelModel" "batchKind" "[I" : Cond) ∈ wsX8_betweenBatches := List.mem_of_getElem? (i := 1) rfl
theorem uX8_betweenBatches_8 : ∀ w ∈ u_ws RX8 TX8 37, w ∈ wsX8_betweenBatches := fun _ h => (List.mem_cons_of_mem _ (List.mem_append_right _ h))
set_option maxRecDepth 100000 in
set_option maxHeartbeats 4000000 in
theorem mX8_betweenBatches {l : Launch} {D : va_G} {cI cZ : ClassId} {a : Nat → Nat} (hJ : mm_J 29 a) {σ : mm_M} {p1 p2 : Int32} {res : Int32} (h : fX8_betweenBatches σ p1 p2 = some res) (sz : Nat) : Met l yX8_betweenBatches wsX8_betweenBatches rX8_betweenBatches (eP D cI cZ a σ [.ref (a 0), .int p1, .int p2] sz) (eQi D cI cZ a res σ sz) 0 0 (mm_A 29 a sz) := by
  refine mm_met (fun sz => eQi D cI cZ a res σ sz) (lv := [(0, .ref (a 0)), (1, .int p1), (2, .int p2)]) (ret := (some .int)) (cc := cX8_betweenBatches) (maxL := 3) (own := RX8) hJ (by decide +kernel) rfl rfl (Nat.le_of_ble_eq_true rfl) rfl ?_ sz
  intro K hL X hQ
  unfold fX8_betweenBatches at h
  refine mm_aload_n X dX8_betweenBatches_0 0 rfl ?_
  refine mm_aload_n X dX8_betweenBatches_1 0 rfl ?_
  refine mm_get X dX8_betweenBatches_2 0 14 (by decide) md_cf_0 rfl (by decide) uX8_betweenBatches_8 kX8_betweenBatches_1 rfl (v := .ref (a 12)) rfl ?_
  refine mm_iload_n X dX8_betweenBatches_5 1 rfl ?_
  obtain ⟨hi1, h⟩ := mm_g_some h
  refine mm_iald X dX8_betweenBatches_6 12 0 (by decide) rfl rfl hi1 (v := (σ 12 p1.toNatClampNeg)) rfl ?_
  refine mm_aload_n X dX8_betweenBatches_7 0 rfl ?_
  refine mm_get X dX8_betweenBatches_8 0 14 (by decide) md_cf_0 rfl (by decide) uX8_betweenBatches_8 kX8_betweenBatches_1 rfl (v := .ref (a 12)) rfl ?_
  refine mm_iload_n X dX8_betweenBatches_11 2 rfl ?_
  obtain ⟨hi2, h⟩ := mm_g_some h
  refine mm_iald X dX8_betweenBatches_12 12 0 (by decide) rfl rfl hi2 (v := (σ 12 p2.toNatClampNeg)) rfl ?_
  obtain ⟨q3, hq3, h⟩ := Option.bind_eq_some_iff.mp h
  refine mm_callVi X dX8_betweenBatches_13 (As := [.int (σ 12 p1.toNatClampNeg), .int (σ 12 p2.toNatClampNeg)]) (rest := []) 0 (by decide) md_cf_0 rfl hL (mX8_emptiesOf hJ hq3) gX8_betweenBatches_X8_emptiesOf rfl ⟨rfl, rfl⟩ hyX8_emptiesOf ⟨Nat.le_of_ble_eq_true rfl, Nat.le_of_ble_eq_true rfl⟩ rfl (Nat.le_of_ble_eq_true rfl) ?_
  obtain rfl := Option.some.inj h
  exact mm_iret X dX8_betweenBatches_16 rfl hQ rfl
/-! LinenTunnelModel.empties -/
def fX8_empties_4 (F : Nat) (σ : mm_M) : Nat → Int32 → Int32 → Option (Int32)
  | 0, _, _ => none
  | k + 1, l1, l2 => (if l2 < (σ 0 13) then mm_g 12 (l2 - (1 : Int32)) (mm_g 12 l2 ((fX8_betweenBatches σ (σ 15 (l2 - (1 : Int32)).toNatClampNeg) (σ 15 l2.toNatClampNeg)).bind fun q4 => fX8_empties_4 F σ k (l1 + q4) (l2 + 1))) else some (l1))
def fX8_empties (F : Nat) (σ : mm_M) : Option (Int32) := (fX8_empties_4 F σ F (0 : Int32) (1 : Int32)).bind fun q1 => some q1
abbrev rX8_empties : Room := { frames := 2, cells := 0, slots := 0, locals := 46 }
theorem hyX8_empties : yX8_empties.cls = RX8 ∧ yX8_empties.cls ≠ "java/lang/invoke/MethodHandle" ∧ yX8_empties.cls ≠ "java/lang/invoke/VarHandle" ∧ (parseMethodDescriptor yX8_empties.desc).map (fun d => d.parameters.length) = some 0 := by decide +kernel
theorem kX8_empties_1 : (Cond.fieldLink RX8 133 "LinenTunnelModel" "batches" "I" : Cond) ∈ wsX8_empties := List.mem_of_getElem? (i := 1) rfl
theorem uX8_empties_8 : ∀ w ∈ u_ws RX8 TX8 37, w ∈ wsX8_empties := fun _ h => (List.mem_cons_of_mem _ (List.mem_append_right _ h))
theorem kX8_empties_2 : (Cond.fieldLink RX8 53 "LinenTunnelModel" "order" "[I" : Cond) ∈ wsX8_empties := List.mem_of_getElem? (i := 2) rfl
set_option maxRecDepth 100000 in
set_option maxHeartbeats 4000000 in
theorem tX8_empties_4 {l : Launch} {K : mm_K} {D : va_G} {cI cZ : ClassId} {a : Nat → Nat} (X : eC K rX8_empties cX8_empties 3 (some .int) wsX8_empties RX8 D cI cZ a) (hL : mm_L K l) (hJ : mm_J 29 a) {F : Nat} {σ : mm_M} {out : Int32} (hx : eG K D cI cZ a σ 39 [(1, .int out)] []) : ∀ (k : Nat) (l1 : Int32) (l2 : Int32), fX8_empties_4 F σ k l1 l2 = some out → eG K D cI cZ a σ 4 [(0, .ref (a 0)), (1, .int l1), (2, .int l2)] [] := by
  intro k
  induction k with
  | zero =>
    intro l1 l2 h
    have h : none = some out := h
    cases h
  | succ k ih =>
    intro l1 l2 h
    rw [fX8_empties_4] at h
    refine mm_iload_n X dX8_empties_4 2 rfl ?_
    refine mm_aload_n X dX8_empties_5 0 rfl ?_
    refine mm_get X dX8_empties_6 0 13 (by decide) md_cf_0 rfl (by decide) uX8_empties_8 kX8_empties_1 rfl (v := .int (σ 0 13)) rfl ?_
    refine mm_icmp_ge X dX8_empties_9 (tgt := 39) (by decide) (fun c1 => ?_) (fun c1 => ?_)
    · have h := (if_neg c1).symm.trans h
      obtain rfl := Option.some.inj h
      refine mm_loc [1] rfl ?_
      exact hx
    · have h := (if_pos c1).symm.trans h
      refine mm_iload_n X dX8_empties_12 1 rfl ?_
      refine mm_aload_n X dX8_empties_13 0 rfl ?_
      refine mm_aload_n X dX8_empties_14 0 rfl ?_
      refine mm_get X dX8_empties_15 0 17 (by decide) md_cf_0 rfl (by decide) uX8_empties_8 kX8_empties_2 rfl (v := .ref (a 15)) rfl ?_
      refine mm_iload_n X dX8_empties_18 2 rfl ?_
      refine mm_iconst X dX8_empties_19 (v := 1) (by decide) ?_
      refine mm_isub X dX8_empties_20 ?_
      obtain ⟨hi2, h⟩ := mm_g_some h
      refine mm_iald X dX8_empties_21 15 0 (by decide) rfl rfl hi2 (v := (σ 15 (l2 - (1 : Int32)).toNatClampNeg)) rfl ?_
      refine mm_aload_n X dX8_empties_22 0 rfl ?_
      refine mm_get X dX8_empties_23 0 17 (by decide) md_cf_0 rfl (by decide) uX8_empties_8 kX8_empties_2 rfl (v := .ref (a 15)) rfl ?_
      refine mm_iload_n X dX8_empties_26 2 rfl ?_
      obtain ⟨hi3, h⟩ := mm_g_some h
      refine mm_iald X dX8_empties_27 15 0 (by decide) rfl rfl hi3 (v := (σ 15 l2.toNatClampNeg)) rfl ?_
      obtain ⟨q4, hq4, h⟩ := Option.bind_eq_some_iff.mp h
      refine mm_callVi X dX8_empties_28 (As := [.int (σ 15 (l2 - (1 : Int32)).toNatClampNeg), .int (σ 15 l2.toNatClampNeg)]) (rest := [.int l1]) 0 (by decide) md_cf_0 rfl hL (mX8_betweenBatches hJ hq4) gX8_empties_X8_betweenBatches rfl ⟨rfl, rfl⟩ hyX8_betweenBatches ⟨Nat.le_of_ble_eq_true rfl, Nat.le_of_ble_eq_true rfl⟩ rfl (Nat.le_of_ble_eq_true rfl) ?_
      refine mm_iadd X dX8_empties_31 ?_
      refine mm_istore_n X dX8_empties_32 (by decide) (lv2 := [(1, .int (l1 + q4)), (0, .ref (a 0)), (2, .int l2)]) rfl ?_
      refine mm_iinc X dX8_empties_33 2 rfl (v := (l2 + 1)) rfl (by decide) (lv2 := [(2, .int (l2 + 1)), (1, .int (l1 + q4)), (0, .ref (a 0))]) rfl ?_
      refine mm_goto X dX8_empties_36 (tgt := 4) (by decide) ?_
      refine mm_loc [2, 1, 0] rfl ?_
      exact ih _ _ h
set_option maxRecDepth 100000 in
set_option maxHeartbeats 4000000 in
theorem mX8_empties {l : Launch} {D : va_G} {cI cZ : ClassId} {a : Nat → Nat} (hJ : mm_J 29 a) {F : Nat} {σ : mm_M} {res : Int32} (h : fX8_empties F σ = some res) (sz : Nat) : Met l yX8_empties wsX8_empties rX8_empties (eP D cI cZ a σ [.ref (a 0)] sz) (eQi D cI cZ a res σ sz) 0 0 (mm_A 29 a sz) := by
  refine mm_met (fun sz => eQi D cI cZ a res σ sz) (lv := [(0, .ref (a 0))]) (ret := (some .int)) (cc := cX8_empties) (maxL := 3) (own := RX8) hJ (by decide +kernel) rfl rfl (Nat.le_of_ble_eq_true rfl) rfl ?_ sz
  intro K hL X hQ
  unfold fX8_empties at h
  refine mm_iconst X dX8_empties_0 (v := 0) (by decide) ?_
  refine mm_istore_n X dX8_empties_1 (by decide) (lv2 := [(1, .int (0 : Int32)), (0, .ref (a 0))]) rfl ?_
  refine mm_iconst X dX8_empties_2 (v := 1) (by decide) ?_
  refine mm_istore_n X dX8_empties_3 (by decide) (lv2 := [(2, .int (1 : Int32)), (1, .int (0 : Int32)), (0, .ref (a 0))]) rfl ?_
  obtain ⟨q1, hq1, h⟩ := Option.bind_eq_some_iff.mp h
  refine mm_loc [2, 1, 0] rfl ?_
  refine tX8_empties_4 X hL hJ ?_ F (0 : Int32) (1 : Int32) hq1
  refine mm_iload_n X dX8_empties_39 0 rfl ?_
  obtain rfl := Option.some.inj h
  exact mm_iret X dX8_empties_40 rfl hQ rfl
