/-! LinenTunnelModel.plan -/
def fX8_plan_81 (F : Nat) (l1 : Int32) (l2 : Int32) (l3 : Int32) (l4 : Int32) : Nat → Int32 → mm_M → Option (mm_M)
  | 0, _, _ => none
  | k + 1, l5, σ => (if l5 < (σ 0 13) then (if ((l2 >>> (l3 &&& 31)) &&& (1 : Int32)) = (1 : Int32) then ((if ((l4 >>> (l5 &&& 31)) &&& (1 : Int32)) = (1 : Int32) then (fX8_betweenBatches σ l3 l5).bind fun q6 => mm_g 3072 (((12 : Int32) * l4) + l5) (mm_g 3072 (((12 : Int32) * l2) + l3) (((if (q6 + (σ 16 (((12 : Int32) * l4) + l5).toNatClampNeg)) < (σ 16 (((12 : Int32) * l2) + l3).toNatClampNeg) then some ((q6 + (σ 16 (((12 : Int32) * l4) + l5).toNatClampNeg))) else mm_g 3072 (((12 : Int32) * l2) + l3) (some ((σ 16 (((12 : Int32) * l2) + l3).toNatClampNeg))))).bind fun q9 => mm_g 3072 (((12 : Int32) * l2) + l3) (some ((mm_up σ 16 (((12 : Int32) * l2) + l3).toNatClampNeg q9))))) else some (σ))).bind fun q3 => fX8_plan_81 F l1 l2 l3 l4 k (l5 + 1) q3 else some (σ)) else some (σ))
def fX8_plan_39 (F : Nat) (l1 : Int32) (l2 : Int32) : Nat → Int32 → mm_M → Option (mm_M)
  | 0, _, _ => none
  | k + 1, l3, σ => (if l3 < (σ 0 13) then mm_g 3072 (((12 : Int32) * l2) + l3) ((fX8_plan_81 F l1 l2 l3 (l2 &&& (((1 : Int32) <<< (l3 &&& 31)) ^^^ (-1 : Int32))) F (0 : Int32) (mm_up σ 16 (((12 : Int32) * l2) + l3).toNatClampNeg (if (l2 &&& (((1 : Int32) <<< (l3 &&& 31)) ^^^ (-1 : Int32))) = 0 then (0 : Int32) else (1000000 : Int32)))).bind fun q4 => fX8_plan_39 F l1 l2 k (l3 + 1) q4) else some (σ))
def fX8_plan_32 (F : Nat) (l1 : Int32) : Nat → Int32 → mm_M → Option (mm_M)
  | 0, _, _ => none
  | k + 1, l2, σ => (if l1 < l2 then some (σ) else (fX8_plan_39 F l1 l2 F (0 : Int32) σ).bind fun q2 => fX8_plan_32 F l1 k (l2 + 1) q2)
def fX8_plan_198 (F : Nat) (σ : mm_M) (l1 : Int32) : Nat → Int32 → Int32 → Option (Int32)
  | 0, _, _ => none
  | k + 1, l2, l3 => (if l3 < (σ 0 13) then mm_g 3072 (((12 : Int32) * l1) + l3) (mm_g 3072 (((12 : Int32) * l1) + l2) (fX8_plan_198 F σ l1 k (if (σ 16 (((12 : Int32) * l1) + l3).toNatClampNeg) < (σ 16 (((12 : Int32) * l1) + l2).toNatClampNeg) then l3 else l2) (l3 + 1))) else some (l2))
def fX8_plan_295 (F : Nat) (σ : mm_M) (l3 : Int32) (l4 : Int32) (l5 : Int32) (l6 : Int32) (l7 : Int32) : Nat → Int32 → Option (Int32)
  | 0, _ => none
  | k + 1, l8 => (if ((l7 >>> (l8 &&& 31)) &&& (1 : Int32)) = 0 then fX8_plan_295 F σ l3 l4 l5 l6 l7 k (l8 + 1) else (fX8_betweenBatches σ l5 l8).bind fun q2 => mm_g 3072 (((12 : Int32) * l7) + l8) (mm_g 3072 (((12 : Int32) * l4) + l5) ((if (q2 + (σ 16 (((12 : Int32) * l7) + l8).toNatClampNeg)) = (σ 16 (((12 : Int32) * l4) + l5).toNatClampNeg) then some (l8) else fX8_plan_295 F σ l3 l4 l5 l6 l7 k (l8 + 1)))))
def fX8_plan_272 (F : Nat) (l3 : Int32) : Nat → Int32 → Int32 → Int32 → mm_M → Option (mm_M)
  | 0, _, _, _, _ => none
  | k + 1, l4, l5, l6, σ => (if l6 < (σ 0 13) then (fX8_plan_295 F σ l3 l4 l5 l6 (l4 &&& (((1 : Int32) <<< (l5 &&& 31)) ^^^ (-1 : Int32))) F (0 : Int32)).bind fun q2 => mm_g 12 l6 (fX8_plan_272 F l3 k (l4 &&& (((1 : Int32) <<< (l5 &&& 31)) ^^^ (-1 : Int32))) q2 (l6 + 1) (mm_up σ 15 l6.toNatClampNeg q2)) else some (σ))
def fX8_plan (F : Nat) (σ : mm_M) : Option (Int32 × mm_M) := (if (8 : Int32) < (σ 0 13) then some ((-4 : Int32), σ) else (if (σ 0 13) = 0 then some ((0 : Int32), σ) else (fX8_plan_32 F (((1 : Int32) <<< ((σ 0 13) &&& 31)) - (1 : Int32)) F (1 : Int32) σ).bind fun q3 => (fX8_plan_198 F q3 (((1 : Int32) <<< ((σ 0 13) &&& 31)) - (1 : Int32)) F (0 : Int32) (1 : Int32)).bind fun q4 => mm_g 3072 (((12 : Int32) * (((1 : Int32) <<< ((σ 0 13) &&& 31)) - (1 : Int32))) + q4) (mm_g 12 (0 : Int32) ((fX8_plan_272 F (q3 16 (((12 : Int32) * (((1 : Int32) <<< ((σ 0 13) &&& 31)) - (1 : Int32))) + q4).toNatClampNeg) F (((1 : Int32) <<< ((σ 0 13) &&& 31)) - (1 : Int32)) q4 (1 : Int32) (mm_up q3 15 (0 : Int32).toNatClampNeg q4)).bind fun q7 => some ((q3 16 (((12 : Int32) * (((1 : Int32) <<< ((σ 0 13) &&& 31)) - (1 : Int32))) + q4).toNatClampNeg), q7)))))
abbrev rX8_plan : Room := { frames := 2, cells := 0, slots := 0, locals := 46 }
theorem hyX8_plan : yX8_plan.cls = RX8 ∧ yX8_plan.cls ≠ "java/lang/invoke/MethodHandle" ∧ yX8_plan.cls ≠ "java/lang/invoke/VarHandle" ∧ (parseMethodDescriptor yX8_plan.desc).map (fun d => d.parameters.length) = some 0 := by decide +kernel
theorem kX8_plan_1 : (Cond.fieldLink RX8 133 "LinenTunnelModel" "batches" "I" : Cond) ∈ wsX8_plan := List.mem_of_getElem? (i := 1) rfl
theorem uX8_plan_8 : ∀ w ∈ u_ws RX8 TX8 37, w ∈ wsX8_plan := fun _ h => (List.mem_cons_of_mem _ (List.mem_append_right _ h))
theorem kX8_plan_2 : (Cond.fieldLink RX8 66 "LinenTunnelModel" "yet" "[I" : Cond) ∈ wsX8_plan := List.mem_of_getElem? (i := 2) rfl
theorem kX8_plan_3 : (Cond.constant RX8 146 (1000000) : Cond) ∈ wsX8_plan := List.mem_of_getElem? (i := 3) rfl
theorem kX8_plan_4 : (Cond.fieldLink RX8 53 "LinenTunnelModel" "order" "[I" : Cond) ∈ wsX8_plan := List.mem_of_getElem? (i := 4) rfl
set_option maxRecDepth 100000 in
set_option maxHeartbeats 4000000 in
theorem tX8_plan_81 {l : Launch} {K : mm_K} {D : va_G} {cI cZ : ClassId} {a : Nat → Nat} (X : eC K rX8_plan cX8_plan 9 (some .int) wsX8_plan RX8 D cI cZ a) (hL : mm_L K l) (hJ : mm_J 29 a) {F : Nat} {l1 : Int32} {l2 : Int32} {l3 : Int32} {l4 : Int32} {out : mm_M} (hx : eG K D cI cZ a out 182 [(0, .ref (a 0)), (1, .int l1), (2, .int l2), (3, .int l3)] []) : ∀ (k : Nat) (l5 : Int32) (σ : mm_M), fX8_plan_81 F l1 l2 l3 l4 k l5 σ = some out → eG K D cI cZ a σ 81 [(0, .ref (a 0)), (1, .int l1), (2, .int l2), (3, .int l3), (4, .int l4), (5, .int l5)] [] := by
  intro k
  induction k with
  | zero =>
    intro l5 σ h
    have h : none = some out := h
    cases h
  | succ k ih =>
    intro l5 σ h
    rw [fX8_plan_81] at h
    refine mm_iload X dX8_plan_81 5 rfl ?_
    refine mm_aload_n X dX8_plan_83 0 rfl ?_
    refine mm_get X dX8_plan_84 0 13 (by decide) md_cf_0 rfl (by decide) uX8_plan_8 kX8_plan_1 rfl (v := .int (σ 0 13)) rfl ?_
    refine mm_icmp_ge X dX8_plan_87 (tgt := 182) (by decide) (fun c1 => ?_) (fun c1 => ?_)
    · have h := (if_neg c1).symm.trans h
      obtain rfl := Option.some.inj h
      refine mm_loc [0, 1, 2, 3] rfl ?_
      exact hx
    · have h := (if_pos c1).symm.trans h
      refine mm_iload_n X dX8_plan_90 2 rfl ?_
      refine mm_iload_n X dX8_plan_91 3 rfl ?_
      refine mm_ishr X dX8_plan_92 ?_
      refine mm_iconst X dX8_plan_93 (v := 1) (by decide) ?_
      refine mm_iand X dX8_plan_94 ?_
      refine mm_iconst X dX8_plan_95 (v := 1) (by decide) ?_
      refine mm_icmp_ne X dX8_plan_96 (tgt := 182) (by decide) (fun c2 => ?_) (fun c2 => ?_)
      · have h := (if_neg c2).symm.trans h
        obtain rfl := Option.some.inj h
        refine mm_loc [0, 1, 2, 3] rfl ?_
        exact hx
      · have h := (if_pos c2).symm.trans h
        refine mm_iload X dX8_plan_99 4 rfl ?_
        refine mm_iload X dX8_plan_101 5 rfl ?_
        refine mm_ishr X dX8_plan_103 ?_
        refine mm_iconst X dX8_plan_104 (v := 1) (by decide) ?_
        refine mm_iand X dX8_plan_105 ?_
        refine mm_iconst X dX8_plan_106 (v := 1) (by decide) ?_
        obtain ⟨q3, hq3, h⟩ := Option.bind_eq_some_iff.mp h
        have J4 : eG K D cI cZ a q3 176 [(0, .ref (a 0)), (1, .int l1), (2, .int l2), (3, .int l3), (4, .int l4), (5, .int l5)] [] := by
          refine mm_iinc X dX8_plan_176 5 rfl (v := (l5 + 1)) rfl (by decide) (lv2 := [(5, .int (l5 + 1)), (0, .ref (a 0)), (1, .int l1), (2, .int l2), (3, .int l3), (4, .int l4)]) rfl ?_
          refine mm_goto X dX8_plan_179 (tgt := 81) (by decide) ?_
          refine mm_loc [1, 2, 3, 4, 5, 0] rfl ?_
          exact ih _ _ h
        have h := hq3
        refine mm_icmp_ne X dX8_plan_107 (tgt := 176) (by decide) (fun c5 => ?_) (fun c5 => ?_)
        · have h := (if_neg c5).symm.trans h
          obtain rfl := Option.some.inj h
          exact J4
        · have h := (if_pos c5).symm.trans h
          refine mm_aload_n X dX8_plan_110 0 rfl ?_
          refine mm_iload_n X dX8_plan_111 3 rfl ?_
          refine mm_iload X dX8_plan_112 5 rfl ?_
          obtain ⟨q6, hq6, h⟩ := Option.bind_eq_some_iff.mp h
          refine mm_callVi X dX8_plan_114 (As := [.int l3, .int l5]) (rest := []) 0 (by decide) md_cf_0 rfl hL (mX8_betweenBatches hJ hq6) gX8_plan_X8_betweenBatches rfl ⟨rfl, rfl⟩ hyX8_betweenBatches ⟨Nat.le_of_ble_eq_true rfl, Nat.le_of_ble_eq_true rfl⟩ rfl (Nat.le_of_ble_eq_true rfl) ?_
          refine mm_aload_n X dX8_plan_117 0 rfl ?_
          refine mm_get X dX8_plan_118 0 22 (by decide) md_cf_0 rfl (by decide) uX8_plan_8 kX8_plan_2 rfl (v := .ref (a 16)) rfl ?_
          refine mm_bipush X dX8_plan_121 (v := 12) (by decide) ?_
          refine mm_iload X dX8_plan_123 4 rfl ?_
          refine mm_imul X dX8_plan_125 ?_
          refine mm_iload X dX8_plan_126 5 rfl ?_
          refine mm_iadd X dX8_plan_128 ?_
          obtain ⟨hi7, h⟩ := mm_g_some h
          refine mm_iald X dX8_plan_129 16 0 (by decide) rfl rfl hi7 (v := (σ 16 (((12 : Int32) * l4) + l5).toNatClampNeg)) rfl ?_
          refine mm_iadd X dX8_plan_130 ?_
          refine mm_istore X dX8_plan_131 (by decide) (lv2 := [(6, .int (q6 + (σ 16 (((12 : Int32) * l4) + l5).toNatClampNeg))), (0, .ref (a 0)), (1, .int l1), (2, .int l2), (3, .int l3), (4, .int l4), (5, .int l5)]) rfl ?_
          refine mm_aload_n X dX8_plan_133 1 rfl ?_
          refine mm_get X dX8_plan_134 0 22 (by decide) md_cf_0 rfl (by decide) uX8_plan_8 kX8_plan_2 rfl (v := .ref (a 16)) rfl ?_
          refine mm_bipush X dX8_plan_137 (v := 12) (by decide) ?_
          refine mm_iload_n X dX8_plan_139 3 rfl ?_
          refine mm_imul X dX8_plan_140 ?_
          refine mm_iload_n X dX8_plan_141 4 rfl ?_
          refine mm_iadd X dX8_plan_142 ?_
          refine mm_iload X dX8_plan_143 0 rfl ?_
          refine mm_aload_n X dX8_plan_145 1 rfl ?_
          refine mm_get X dX8_plan_146 0 22 (by decide) md_cf_0 rfl (by decide) uX8_plan_8 kX8_plan_2 rfl (v := .ref (a 16)) rfl ?_
          refine mm_bipush X dX8_plan_149 (v := 12) (by decide) ?_
          refine mm_iload_n X dX8_plan_151 3 rfl ?_
          refine mm_imul X dX8_plan_152 ?_
          refine mm_iload_n X dX8_plan_153 4 rfl ?_
          refine mm_iadd X dX8_plan_154 ?_
          obtain ⟨hi8, h⟩ := mm_g_some h
          refine mm_iald X dX8_plan_155 16 0 (by decide) rfl rfl hi8 (v := (σ 16 (((12 : Int32) * l2) + l3).toNatClampNeg)) rfl ?_
          obtain ⟨q9, hq9, h⟩ := Option.bind_eq_some_iff.mp h
          have J10 : eG K D cI cZ a σ 175 [(0, .ref (a 0)), (1, .int l1), (2, .int l2), (3, .int l3), (4, .int l4), (5, .int l5)] [.int q9, .int (((12 : Int32) * l2) + l3), .ref (a 16)] := by
            obtain ⟨hi13, h⟩ := mm_g_some h
            refine mm_iast X dX8_plan_175 16 0 (by decide) (fun _ => rfl) rfl hi13 ?_
            obtain rfl := Option.some.inj h
            exact J4
          have h := hq9
          refine mm_icmp_ge X dX8_plan_156 (tgt := 164) (by decide) (fun c11 => ?_) (fun c11 => ?_)
          · have h := (if_neg c11).symm.trans h
            refine mm_aload_n X dX8_plan_164 1 rfl ?_
            refine mm_get X dX8_plan_165 0 22 (by decide) md_cf_0 rfl (by decide) uX8_plan_8 kX8_plan_2 rfl (v := .ref (a 16)) rfl ?_
            refine mm_bipush X dX8_plan_168 (v := 12) (by decide) ?_
            refine mm_iload_n X dX8_plan_170 3 rfl ?_
            refine mm_imul X dX8_plan_171 ?_
            refine mm_iload_n X dX8_plan_172 4 rfl ?_
            refine mm_iadd X dX8_plan_173 ?_
            obtain ⟨hi12, h⟩ := mm_g_some h
            refine mm_iald X dX8_plan_174 16 0 (by decide) rfl rfl hi12 (v := (σ 16 (((12 : Int32) * l2) + l3).toNatClampNeg)) rfl ?_
            obtain rfl := Option.some.inj h
            refine mm_loc [1, 2, 3, 4, 5, 6] rfl ?_
            exact J10
          · have h := (if_pos c11).symm.trans h
            refine mm_iload X dX8_plan_159 0 rfl ?_
            refine mm_goto X dX8_plan_161 (tgt := 175) (by decide) ?_
            obtain rfl := Option.some.inj h
            refine mm_loc [1, 2, 3, 4, 5, 6] rfl ?_
            exact J10
set_option maxRecDepth 100000 in
set_option maxHeartbeats 4000000 in
theorem tX8_plan_39 {l : Launch} {K : mm_K} {D : va_G} {cI cZ : ClassId} {a : Nat → Nat} (X : eC K rX8_plan cX8_plan 9 (some .int) wsX8_plan RX8 D cI cZ a) (hL : mm_L K l) (hJ : mm_J 29 a) {F : Nat} {l1 : Int32} {l2 : Int32} {out : mm_M} (hx : eG K D cI cZ a out 188 [(0, .ref (a 0)), (1, .int l1), (2, .int l2)] []) : ∀ (k : Nat) (l3 : Int32) (σ : mm_M), fX8_plan_39 F l1 l2 k l3 σ = some out → eG K D cI cZ a σ 39 [(0, .ref (a 0)), (1, .int l1), (2, .int l2), (3, .int l3)] [] := by
  intro k
  induction k with
  | zero =>
    intro l3 σ h
    have h : none = some out := h
    cases h
  | succ k ih =>
    intro l3 σ h
    rw [fX8_plan_39] at h
    refine mm_iload_n X dX8_plan_39 3 rfl ?_
    refine mm_aload_n X dX8_plan_40 0 rfl ?_
    refine mm_get X dX8_plan_41 0 13 (by decide) md_cf_0 rfl (by decide) uX8_plan_8 kX8_plan_1 rfl (v := .int (σ 0 13)) rfl ?_
    refine mm_icmp_ge X dX8_plan_44 (tgt := 188) (by decide) (fun c1 => ?_) (fun c1 => ?_)
    · have h := (if_neg c1).symm.trans h
      obtain rfl := Option.some.inj h
      refine mm_loc [0, 1, 2] rfl ?_
      exact hx
    · have h := (if_pos c1).symm.trans h
      refine mm_iload_n X dX8_plan_47 2 rfl ?_
      refine mm_iconst X dX8_plan_48 (v := 1) (by decide) ?_
      refine mm_iload_n X dX8_plan_49 3 rfl ?_
      refine mm_ishl X dX8_plan_50 ?_
      refine mm_iconst X dX8_plan_51 (v := -1) (by decide) ?_
      refine mm_ixor X dX8_plan_52 ?_
      refine mm_iand X dX8_plan_53 ?_
      refine mm_istore X dX8_plan_54 (by decide) (lv2 := [(4, .int (l2 &&& (((1 : Int32) <<< (l3 &&& 31)) ^^^ (-1 : Int32)))), (0, .ref (a 0)), (1, .int l1), (2, .int l2), (3, .int l3)]) rfl ?_
      refine mm_aload_n X dX8_plan_56 1 rfl ?_
      refine mm_get X dX8_plan_57 0 22 (by decide) md_cf_0 rfl (by decide) uX8_plan_8 kX8_plan_2 rfl (v := .ref (a 16)) rfl ?_
      refine mm_bipush X dX8_plan_60 (v := 12) (by decide) ?_
      refine mm_iload_n X dX8_plan_62 3 rfl ?_
      refine mm_imul X dX8_plan_63 ?_
      refine mm_iload_n X dX8_plan_64 4 rfl ?_
      refine mm_iadd X dX8_plan_65 ?_
      refine mm_iload X dX8_plan_66 0 rfl ?_
      have J5 : ∀ (v2 : Int32), v2 = (if (l2 &&& (((1 : Int32) <<< (l3 &&& 31)) ^^^ (-1 : Int32))) = 0 then (0 : Int32) else (1000000 : Int32)) → eG K D cI cZ a σ 77 [(0, .ref (a 0)), (1, .int l1), (2, .int l2), (3, .int l3), (4, .int (l2 &&& (((1 : Int32) <<< (l3 &&& 31)) ^^^ (-1 : Int32))))] [.int v2, .int (((12 : Int32) * l2) + l3), .ref (a 16)] := by
        intro v2 ev2
        subst ev2
        obtain ⟨hi3, h⟩ := mm_g_some h
        refine mm_iast X dX8_plan_77 16 0 (by decide) (fun _ => rfl) rfl hi3 ?_
        refine mm_iconst X dX8_plan_78 (v := 0) (by decide) ?_
        refine mm_istore X dX8_plan_79 (by decide) (lv2 := [(5, .int (0 : Int32)), (0, .ref (a 0)), (1, .int l1), (2, .int l2), (3, .int l3), (4, .int (l2 &&& (((1 : Int32) <<< (l3 &&& 31)) ^^^ (-1 : Int32))))]) rfl ?_
        obtain ⟨q4, hq4, h⟩ := Option.bind_eq_some_iff.mp h
        refine mm_loc [1, 2, 3, 4, 5, 0] rfl ?_
        refine tX8_plan_81 X hL hJ ?_ F (0 : Int32) (mm_up σ 16 (((12 : Int32) * l2) + l3).toNatClampNeg (if (l2 &&& (((1 : Int32) <<< (l3 &&& 31)) ^^^ (-1 : Int32))) = 0 then (0 : Int32) else (1000000 : Int32))) hq4
        refine mm_iinc X dX8_plan_182 3 rfl (v := (l3 + 1)) rfl (by decide) (lv2 := [(3, .int (l3 + 1)), (0, .ref (a 0)), (1, .int l1), (2, .int l2)]) rfl ?_
        refine mm_goto X dX8_plan_185 (tgt := 39) (by decide) ?_
        refine mm_loc [1, 2, 3, 0] rfl ?_
        exact ih _ _ h
      refine mm_if_ne X dX8_plan_68 (tgt := 75) (by decide) (fun c6 => ?_) (fun c6 => ?_)
      · refine mm_ldc X dX8_plan_75 kX8_plan_3 ?_
        refine mm_loc [1, 2, 3, 4, 0] rfl ?_
        exact J5 _ (by rw [if_neg c6])
      · refine mm_iconst X dX8_plan_71 (v := 0) (by decide) ?_
        refine mm_goto X dX8_plan_72 (tgt := 77) (by decide) ?_
        refine mm_loc [1, 2, 3, 4, 0] rfl ?_
        exact J5 _ (by rw [if_pos c6])
set_option maxRecDepth 100000 in
set_option maxHeartbeats 4000000 in
theorem tX8_plan_32 {l : Launch} {K : mm_K} {D : va_G} {cI cZ : ClassId} {a : Nat → Nat} (X : eC K rX8_plan cX8_plan 9 (some .int) wsX8_plan RX8 D cI cZ a) (hL : mm_L K l) (hJ : mm_J 29 a) {F : Nat} {l1 : Int32} {out : mm_M} (hx : eG K D cI cZ a out 194 [(0, .ref (a 0)), (1, .int l1)] []) : ∀ (k : Nat) (l2 : Int32) (σ : mm_M), fX8_plan_32 F l1 k l2 σ = some out → eG K D cI cZ a σ 32 [(0, .ref (a 0)), (1, .int l1), (2, .int l2)] [] := by
  intro k
  induction k with
  | zero =>
    intro l2 σ h
    have h : none = some out := h
    cases h
  | succ k ih =>
    intro l2 σ h
    rw [fX8_plan_32] at h
    refine mm_iload_n X dX8_plan_32 2 rfl ?_
    refine mm_iload_n X dX8_plan_33 1 rfl ?_
    refine mm_icmp_gt X dX8_plan_34 (tgt := 194) (by decide) (fun c1 => ?_) (fun c1 => ?_)
    · have h := (if_pos c1).symm.trans h
      obtain rfl := Option.some.inj h
      refine mm_loc [0, 1] rfl ?_
      exact hx
    · have h := (if_neg c1).symm.trans h
      refine mm_iconst X dX8_plan_37 (v := 0) (by decide) ?_
      refine mm_istore_n X dX8_plan_38 (by decide) (lv2 := [(3, .int (0 : Int32)), (0, .ref (a 0)), (1, .int l1), (2, .int l2)]) rfl ?_
      obtain ⟨q2, hq2, h⟩ := Option.bind_eq_some_iff.mp h
      refine mm_loc [1, 2, 3, 0] rfl ?_
      refine tX8_plan_39 X hL hJ ?_ F (0 : Int32) σ hq2
      refine mm_iinc X dX8_plan_188 2 rfl (v := (l2 + 1)) rfl (by decide) (lv2 := [(2, .int (l2 + 1)), (0, .ref (a 0)), (1, .int l1)]) rfl ?_
      refine mm_goto X dX8_plan_191 (tgt := 32) (by decide) ?_
      refine mm_loc [1, 2, 0] rfl ?_
      exact ih _ _ h
set_option maxRecDepth 100000 in
set_option maxHeartbeats 4000000 in
theorem tX8_plan_198 {l : Launch} {K : mm_K} {D : va_G} {cI cZ : ClassId} {a : Nat → Nat} (X : eC K rX8_plan cX8_plan 9 (some .int) wsX8_plan RX8 D cI cZ a) (hL : mm_L K l) (hJ : mm_J 29 a) {F : Nat} {σ : mm_M} {l1 : Int32} {out : Int32} (hx : eG K D cI cZ a σ 243 [(0, .ref (a 0)), (1, .int l1), (2, .int out)] []) : ∀ (k : Nat) (l2 : Int32) (l3 : Int32), fX8_plan_198 F σ l1 k l2 l3 = some out → eG K D cI cZ a σ 198 [(0, .ref (a 0)), (1, .int l1), (2, .int l2), (3, .int l3)] [] := by
  intro k
  induction k with
  | zero =>
    intro l2 l3 h
    have h : none = some out := h
    cases h
  | succ k ih =>
    intro l2 l3 h
    rw [fX8_plan_198] at h
    refine mm_iload_n X dX8_plan_198 3 rfl ?_
    refine mm_aload_n X dX8_plan_199 0 rfl ?_
    refine mm_get X dX8_plan_200 0 13 (by decide) md_cf_0 rfl (by decide) uX8_plan_8 kX8_plan_1 rfl (v := .int (σ 0 13)) rfl ?_
    refine mm_icmp_ge X dX8_plan_203 (tgt := 243) (by decide) (fun c1 => ?_) (fun c1 => ?_)
    · have h := (if_neg c1).symm.trans h
      obtain rfl := Option.some.inj h
      refine mm_loc [0, 1, 2] rfl ?_
      exact hx
    · have h := (if_pos c1).symm.trans h
      refine mm_aload_n X dX8_plan_206 0 rfl ?_
      refine mm_get X dX8_plan_207 0 22 (by decide) md_cf_0 rfl (by decide) uX8_plan_8 kX8_plan_2 rfl (v := .ref (a 16)) rfl ?_
      refine mm_bipush X dX8_plan_210 (v := 12) (by decide) ?_
      refine mm_iload_n X dX8_plan_212 1 rfl ?_
      refine mm_imul X dX8_plan_213 ?_
      refine mm_iload_n X dX8_plan_214 3 rfl ?_
      refine mm_iadd X dX8_plan_215 ?_
      obtain ⟨hi2, h⟩ := mm_g_some h
      refine mm_iald X dX8_plan_216 16 0 (by decide) rfl rfl hi2 (v := (σ 16 (((12 : Int32) * l1) + l3).toNatClampNeg)) rfl ?_
      refine mm_aload_n X dX8_plan_217 0 rfl ?_
      refine mm_get X dX8_plan_218 0 22 (by decide) md_cf_0 rfl (by decide) uX8_plan_8 kX8_plan_2 rfl (v := .ref (a 16)) rfl ?_
      refine mm_bipush X dX8_plan_221 (v := 12) (by decide) ?_
      refine mm_iload_n X dX8_plan_223 1 rfl ?_
      refine mm_imul X dX8_plan_224 ?_
      refine mm_iload_n X dX8_plan_225 2 rfl ?_
      refine mm_iadd X dX8_plan_226 ?_
      obtain ⟨hi3, h⟩ := mm_g_some h
      refine mm_iald X dX8_plan_227 16 0 (by decide) rfl rfl hi3 (v := (σ 16 (((12 : Int32) * l1) + l2).toNatClampNeg)) rfl ?_
      have J5 : ∀ (v4 : Int32), v4 = (if (σ 16 (((12 : Int32) * l1) + l3).toNatClampNeg) < (σ 16 (((12 : Int32) * l1) + l2).toNatClampNeg) then l3 else l2) → eG K D cI cZ a σ 236 [(0, .ref (a 0)), (1, .int l1), (3, .int l3)] [.int v4] := by
        intro v4 ev4
        subst ev4
        refine mm_istore_n X dX8_plan_236 (by decide) (lv2 := [(2, .int (if (σ 16 (((12 : Int32) * l1) + l3).toNatClampNeg) < (σ 16 (((12 : Int32) * l1) + l2).toNatClampNeg) then l3 else l2)), (0, .ref (a 0)), (1, .int l1), (3, .int l3)]) rfl ?_
        refine mm_iinc X dX8_plan_237 3 rfl (v := (l3 + 1)) rfl (by decide) (lv2 := [(3, .int (l3 + 1)), (2, .int (if (σ 16 (((12 : Int32) * l1) + l3).toNatClampNeg) < (σ 16 (((12 : Int32) * l1) + l2).toNatClampNeg) then l3 else l2)), (0, .ref (a 0)), (1, .int l1)]) rfl ?_
        refine mm_goto X dX8_plan_240 (tgt := 198) (by decide) ?_
        refine mm_loc [2, 3, 1, 0] rfl ?_
        exact ih _ _ h
      refine mm_icmp_ge X dX8_plan_228 (tgt := 235) (by decide) (fun c6 => ?_) (fun c6 => ?_)
      · refine mm_iload_n X dX8_plan_235 2 rfl ?_
        refine mm_loc [0, 1, 3] rfl ?_
        exact J5 _ (by rw [if_neg c6])
      · refine mm_iload_n X dX8_plan_231 3 rfl ?_
        refine mm_goto X dX8_plan_232 (tgt := 236) (by decide) ?_
        refine mm_loc [0, 1, 3] rfl ?_
        exact J5 _ (by rw [if_pos c6])
set_option maxRecDepth 100000 in
set_option maxHeartbeats 4000000 in
theorem tX8_plan_295 {l : Launch} {K : mm_K} {D : va_G} {cI cZ : ClassId} {a : Nat → Nat} (X : eC K rX8_plan cX8_plan 9 (some .int) wsX8_plan RX8 D cI cZ a) (hL : mm_L K l) (hJ : mm_J 29 a) {F : Nat} {σ : mm_M} {l3 : Int32} {l4 : Int32} {l5 : Int32} {l6 : Int32} {l7 : Int32} {out : Int32} (hx : eG K D cI cZ a σ 349 [(0, .ref (a 0)), (3, .int l3), (6, .int l6), (7, .int l7), (8, .int out)] []) : ∀ (k : Nat) (l8 : Int32), fX8_plan_295 F σ l3 l4 l5 l6 l7 k l8 = some out → eG K D cI cZ a σ 295 [(0, .ref (a 0)), (3, .int l3), (4, .int l4), (5, .int l5), (6, .int l6), (7, .int l7), (8, .int l8)] [] := by
  intro k
  induction k with
  | zero =>
    intro l8 h
    have h : none = some out := h
    cases h
  | succ k ih =>
    intro l8 h
    rw [fX8_plan_295] at h
    refine mm_iload X dX8_plan_295 5 rfl ?_
    refine mm_iload X dX8_plan_297 6 rfl ?_
    refine mm_ishr X dX8_plan_299 ?_
    refine mm_iconst X dX8_plan_300 (v := 1) (by decide) ?_
    refine mm_iand X dX8_plan_301 ?_
    refine mm_if_eq X dX8_plan_302 (tgt := 343) (by decide) (fun c1 => ?_) (fun c1 => ?_)
    · have h := (if_pos c1).symm.trans h
      refine mm_iinc X dX8_plan_343 6 rfl (v := (l8 + 1)) rfl (by decide) (lv2 := [(8, .int (l8 + 1)), (0, .ref (a 0)), (3, .int l3), (4, .int l4), (5, .int l5), (6, .int l6), (7, .int l7)]) rfl ?_
      refine mm_goto X dX8_plan_346 (tgt := 295) (by decide) ?_
      refine mm_loc [1, 2, 3, 4, 5, 6, 0] rfl ?_
      exact ih _ h
    · have h := (if_neg c1).symm.trans h
      refine mm_aload_n X dX8_plan_305 0 rfl ?_
      refine mm_iload X dX8_plan_306 3 rfl ?_
      refine mm_iload X dX8_plan_308 6 rfl ?_
      obtain ⟨q2, hq2, h⟩ := Option.bind_eq_some_iff.mp h
      refine mm_callVi X dX8_plan_310 (As := [.int l5, .int l8]) (rest := []) 0 (by decide) md_cf_0 rfl hL (mX8_betweenBatches hJ hq2) gX8_plan_X8_betweenBatches rfl ⟨rfl, rfl⟩ hyX8_betweenBatches ⟨Nat.le_of_ble_eq_true rfl, Nat.le_of_ble_eq_true rfl⟩ rfl (Nat.le_of_ble_eq_true rfl) ?_
      refine mm_aload_n X dX8_plan_313 0 rfl ?_
      refine mm_get X dX8_plan_314 0 22 (by decide) md_cf_0 rfl (by decide) uX8_plan_8 kX8_plan_2 rfl (v := .ref (a 16)) rfl ?_
      refine mm_bipush X dX8_plan_317 (v := 12) (by decide) ?_
      refine mm_iload X dX8_plan_319 5 rfl ?_
      refine mm_imul X dX8_plan_321 ?_
      refine mm_iload X dX8_plan_322 6 rfl ?_
      refine mm_iadd X dX8_plan_324 ?_
      obtain ⟨hi3, h⟩ := mm_g_some h
      refine mm_iald X dX8_plan_325 16 0 (by decide) rfl rfl hi3 (v := (σ 16 (((12 : Int32) * l7) + l8).toNatClampNeg)) rfl ?_
      refine mm_iadd X dX8_plan_326 ?_
      refine mm_aload_n X dX8_plan_327 0 rfl ?_
      refine mm_get X dX8_plan_328 0 22 (by decide) md_cf_0 rfl (by decide) uX8_plan_8 kX8_plan_2 rfl (v := .ref (a 16)) rfl ?_
      refine mm_bipush X dX8_plan_331 (v := 12) (by decide) ?_
      refine mm_iload X dX8_plan_333 2 rfl ?_
      refine mm_imul X dX8_plan_335 ?_
      refine mm_iload X dX8_plan_336 3 rfl ?_
      refine mm_iadd X dX8_plan_338 ?_
      obtain ⟨hi4, h⟩ := mm_g_some h
      refine mm_iald X dX8_plan_339 16 0 (by decide) rfl rfl hi4 (v := (σ 16 (((12 : Int32) * l4) + l5).toNatClampNeg)) rfl ?_
      refine mm_icmp_eq X dX8_plan_340 (tgt := 349) (by decide) (fun c5 => ?_) (fun c5 => ?_)
      · have h := (if_pos c5).symm.trans h
        obtain rfl := Option.some.inj h
        refine mm_loc [0, 1, 4, 5, 6] rfl ?_
        exact hx
      · have h := (if_neg c5).symm.trans h
        refine mm_iinc X dX8_plan_343 6 rfl (v := (l8 + 1)) rfl (by decide) (lv2 := [(8, .int (l8 + 1)), (0, .ref (a 0)), (3, .int l3), (4, .int l4), (5, .int l5), (6, .int l6), (7, .int l7)]) rfl ?_
        refine mm_goto X dX8_plan_346 (tgt := 295) (by decide) ?_
        refine mm_loc [1, 2, 3, 4, 5, 6, 0] rfl ?_
        exact ih _ h
set_option maxRecDepth 100000 in
set_option maxHeartbeats 4000000 in
theorem tX8_plan_272 {l : Launch} {K : mm_K} {D : va_G} {cI cZ : ClassId} {a : Nat → Nat} (X : eC K rX8_plan cX8_plan 9 (some .int) wsX8_plan RX8 D cI cZ a) (hL : mm_L K l) (hJ : mm_J 29 a) {F : Nat} {l3 : Int32} {out : mm_M} (hx : eG K D cI cZ a out 372 [(3, .int l3)] []) : ∀ (k : Nat) (l4 : Int32) (l5 : Int32) (l6 : Int32) (σ : mm_M), fX8_plan_272 F l3 k l4 l5 l6 σ = some out → eG K D cI cZ a σ 272 [(0, .ref (a 0)), (3, .int l3), (4, .int l4), (5, .int l5), (6, .int l6)] [] := by
  intro k
  induction k with
  | zero =>
    intro l4 l5 l6 σ h
    have h : none = some out := h
    cases h
  | succ k ih =>
    intro l4 l5 l6 σ h
    rw [fX8_plan_272] at h
    refine mm_iload X dX8_plan_272 4 rfl ?_
    refine mm_aload_n X dX8_plan_274 0 rfl ?_
    refine mm_get X dX8_plan_275 0 13 (by decide) md_cf_0 rfl (by decide) uX8_plan_8 kX8_plan_1 rfl (v := .int (σ 0 13)) rfl ?_
    refine mm_icmp_ge X dX8_plan_278 (tgt := 372) (by decide) (fun c1 => ?_) (fun c1 => ?_)
    · have h := (if_neg c1).symm.trans h
      obtain rfl := Option.some.inj h
      refine mm_loc [1] rfl ?_
      exact hx
    · have h := (if_pos c1).symm.trans h
      refine mm_iload X dX8_plan_281 2 rfl ?_
      refine mm_iconst X dX8_plan_283 (v := 1) (by decide) ?_
      refine mm_iload X dX8_plan_284 3 rfl ?_
      refine mm_ishl X dX8_plan_286 ?_
      refine mm_iconst X dX8_plan_287 (v := -1) (by decide) ?_
      refine mm_ixor X dX8_plan_288 ?_
      refine mm_iand X dX8_plan_289 ?_
      refine mm_istore X dX8_plan_290 (by decide) (lv2 := [(7, .int (l4 &&& (((1 : Int32) <<< (l5 &&& 31)) ^^^ (-1 : Int32)))), (0, .ref (a 0)), (3, .int l3), (4, .int l4), (5, .int l5), (6, .int l6)]) rfl ?_
      refine mm_iconst X dX8_plan_292 (v := 0) (by decide) ?_
      refine mm_istore X dX8_plan_293 (by decide) (lv2 := [(8, .int (0 : Int32)), (7, .int (l4 &&& (((1 : Int32) <<< (l5 &&& 31)) ^^^ (-1 : Int32)))), (0, .ref (a 0)), (3, .int l3), (4, .int l4), (5, .int l5), (6, .int l6)]) rfl ?_
      obtain ⟨q2, hq2, h⟩ := Option.bind_eq_some_iff.mp h
      refine mm_loc [2, 3, 4, 5, 6, 1, 0] rfl ?_
      refine tX8_plan_295 X hL hJ ?_ F (0 : Int32) hq2
      refine mm_iload X dX8_plan_349 3 rfl ?_
      refine mm_istore X dX8_plan_351 (by decide) (lv2 := [(4, .int (l4 &&& (((1 : Int32) <<< (l5 &&& 31)) ^^^ (-1 : Int32)))), (0, .ref (a 0)), (3, .int l3), (6, .int l6), (7, .int (l4 &&& (((1 : Int32) <<< (l5 &&& 31)) ^^^ (-1 : Int32)))), (8, .int q2)]) rfl ?_
      refine mm_iload X dX8_plan_353 5 rfl ?_
      refine mm_istore X dX8_plan_355 (by decide) (lv2 := [(5, .int q2), (4, .int (l4 &&& (((1 : Int32) <<< (l5 &&& 31)) ^^^ (-1 : Int32)))), (0, .ref (a 0)), (3, .int l3), (6, .int l6), (7, .int (l4 &&& (((1 : Int32) <<< (l5 &&& 31)) ^^^ (-1 : Int32)))), (8, .int q2)]) rfl ?_
      refine mm_aload_n X dX8_plan_357 2 rfl ?_
      refine mm_get X dX8_plan_358 0 17 (by decide) md_cf_0 rfl (by decide) uX8_plan_8 kX8_plan_4 rfl (v := .ref (a 15)) rfl ?_
      refine mm_iload X dX8_plan_361 4 rfl ?_
      refine mm_iload X dX8_plan_363 0 rfl ?_
      obtain ⟨hi3, h⟩ := mm_g_some h
      refine mm_iast X dX8_plan_365 15 0 (by decide) (fun _ => rfl) rfl hi3 ?_
      refine mm_iinc X dX8_plan_366 4 rfl (v := (l6 + 1)) rfl (by decide) (lv2 := [(6, .int (l6 + 1)), (5, .int q2), (4, .int (l4 &&& (((1 : Int32) <<< (l5 &&& 31)) ^^^ (-1 : Int32)))), (0, .ref (a 0)), (3, .int l3), (7, .int (l4 &&& (((1 : Int32) <<< (l5 &&& 31)) ^^^ (-1 : Int32)))), (8, .int q2)]) rfl ?_
      refine mm_goto X dX8_plan_369 (tgt := 272) (by decide) ?_
      refine mm_loc [3, 4, 2, 1, 0] rfl ?_
      exact ih _ _ _ _ h
set_option maxRecDepth 100000 in
set_option maxHeartbeats 4000000 in
theorem mX8_plan {l : Launch} {D : va_G} {cI cZ : ClassId} {a : Nat → Nat} (hJ : mm_J 29 a) {F : Nat} {σ : mm_M} {res : Int32 × mm_M} (h : fX8_plan F σ = some res) (sz : Nat) : Met l yX8_plan wsX8_plan rX8_plan (eP D cI cZ a σ [.ref (a 0)] sz) (eQi D cI cZ a res.1 res.2 sz) 0 0 (mm_A 29 a sz) := by
  refine mm_met (fun sz => eQi D cI cZ a res.1 res.2 sz) (lv := [(0, .ref (a 0))]) (ret := (some .int)) (cc := cX8_plan) (maxL := 9) (own := RX8) hJ (by decide +kernel) rfl rfl (Nat.le_of_ble_eq_true rfl) rfl ?_ sz
  intro K hL X hQ
  unfold fX8_plan at h
  refine mm_aload_n X dX8_plan_0 0 rfl ?_
  refine mm_get X dX8_plan_1 0 13 (by decide) md_cf_0 rfl (by decide) uX8_plan_8 kX8_plan_1 rfl (v := .int (σ 0 13)) rfl ?_
  refine mm_bipush X dX8_plan_4 (v := 8) (by decide) ?_
  refine mm_icmp_le X dX8_plan_6 (tgt := 12) (by decide) (fun c1 => ?_) (fun c1 => ?_)
  · have h := (if_neg c1).symm.trans h
    refine mm_aload_n X dX8_plan_12 0 rfl ?_
    refine mm_get X dX8_plan_13 0 13 (by decide) md_cf_0 rfl (by decide) uX8_plan_8 kX8_plan_1 rfl (v := .int (σ 0 13)) rfl ?_
    refine mm_if_ne X dX8_plan_16 (tgt := 21) (by decide) (fun c2 => ?_) (fun c2 => ?_)
    · have h := (if_neg c2).symm.trans h
      refine mm_iconst X dX8_plan_21 (v := 1) (by decide) ?_
      refine mm_aload_n X dX8_plan_22 0 rfl ?_
      refine mm_get X dX8_plan_23 0 13 (by decide) md_cf_0 rfl (by decide) uX8_plan_8 kX8_plan_1 rfl (v := .int (σ 0 13)) rfl ?_
      refine mm_ishl X dX8_plan_26 ?_
      refine mm_iconst X dX8_plan_27 (v := 1) (by decide) ?_
      refine mm_isub X dX8_plan_28 ?_
      refine mm_istore_n X dX8_plan_29 (by decide) (lv2 := [(1, .int (((1 : Int32) <<< ((σ 0 13) &&& 31)) - (1 : Int32))), (0, .ref (a 0))]) rfl ?_
      refine mm_iconst X dX8_plan_30 (v := 1) (by decide) ?_
      refine mm_istore_n X dX8_plan_31 (by decide) (lv2 := [(2, .int (1 : Int32)), (1, .int (((1 : Int32) <<< ((σ 0 13) &&& 31)) - (1 : Int32))), (0, .ref (a 0))]) rfl ?_
      obtain ⟨q3, hq3, h⟩ := Option.bind_eq_some_iff.mp h
      refine mm_loc [2, 1, 0] rfl ?_
      refine tX8_plan_32 X hL hJ ?_ F (1 : Int32) σ hq3
      refine mm_iconst X dX8_plan_194 (v := 0) (by decide) ?_
      refine mm_istore_n X dX8_plan_195 (by decide) (lv2 := [(2, .int (0 : Int32)), (0, .ref (a 0)), (1, .int (((1 : Int32) <<< ((σ 0 13) &&& 31)) - (1 : Int32)))]) rfl ?_
      refine mm_iconst X dX8_plan_196 (v := 1) (by decide) ?_
      refine mm_istore_n X dX8_plan_197 (by decide) (lv2 := [(3, .int (1 : Int32)), (2, .int (0 : Int32)), (0, .ref (a 0)), (1, .int (((1 : Int32) <<< ((σ 0 13) &&& 31)) - (1 : Int32)))]) rfl ?_
      obtain ⟨q4, hq4, h⟩ := Option.bind_eq_some_iff.mp h
      refine mm_loc [2, 3, 1, 0] rfl ?_
      refine tX8_plan_198 X hL hJ ?_ F (0 : Int32) (1 : Int32) hq4
      refine mm_aload_n X dX8_plan_243 0 rfl ?_
      refine mm_get X dX8_plan_244 0 22 (by decide) md_cf_0 rfl (by decide) uX8_plan_8 kX8_plan_2 rfl (v := .ref (a 16)) rfl ?_
      refine mm_bipush X dX8_plan_247 (v := 12) (by decide) ?_
      refine mm_iload_n X dX8_plan_249 1 rfl ?_
      refine mm_imul X dX8_plan_250 ?_
      refine mm_iload_n X dX8_plan_251 2 rfl ?_
      refine mm_iadd X dX8_plan_252 ?_
      obtain ⟨hi5, h⟩ := mm_g_some h
      refine mm_iald X dX8_plan_253 16 0 (by decide) rfl rfl hi5 (v := (q3 16 (((12 : Int32) * (((1 : Int32) <<< ((σ 0 13) &&& 31)) - (1 : Int32))) + q4).toNatClampNeg)) rfl ?_
      refine mm_istore_n X dX8_plan_254 (by decide) (lv2 := [(3, .int (q3 16 (((12 : Int32) * (((1 : Int32) <<< ((σ 0 13) &&& 31)) - (1 : Int32))) + q4).toNatClampNeg)), (0, .ref (a 0)), (1, .int (((1 : Int32) <<< ((σ 0 13) &&& 31)) - (1 : Int32))), (2, .int q4)]) rfl ?_
      refine mm_iload_n X dX8_plan_255 2 rfl ?_
      refine mm_istore X dX8_plan_256 (by decide) (lv2 := [(4, .int (((1 : Int32) <<< ((σ 0 13) &&& 31)) - (1 : Int32))), (3, .int (q3 16 (((12 : Int32) * (((1 : Int32) <<< ((σ 0 13) &&& 31)) - (1 : Int32))) + q4).toNatClampNeg)), (0, .ref (a 0)), (1, .int (((1 : Int32) <<< ((σ 0 13) &&& 31)) - (1 : Int32))), (2, .int q4)]) rfl ?_
      refine mm_iload_n X dX8_plan_258 4 rfl ?_
      refine mm_istore X dX8_plan_259 (by decide) (lv2 := [(5, .int q4), (4, .int (((1 : Int32) <<< ((σ 0 13) &&& 31)) - (1 : Int32))), (3, .int (q3 16 (((12 : Int32) * (((1 : Int32) <<< ((σ 0 13) &&& 31)) - (1 : Int32))) + q4).toNatClampNeg)), (0, .ref (a 0)), (1, .int (((1 : Int32) <<< ((σ 0 13) &&& 31)) - (1 : Int32))), (2, .int q4)]) rfl ?_
      refine mm_aload_n X dX8_plan_261 3 rfl ?_
      refine mm_get X dX8_plan_262 0 17 (by decide) md_cf_0 rfl (by decide) uX8_plan_8 kX8_plan_4 rfl (v := .ref (a 15)) rfl ?_
      refine mm_iconst X dX8_plan_265 (v := 0) (by decide) ?_
      refine mm_iload X dX8_plan_266 0 rfl ?_
      obtain ⟨hi6, h⟩ := mm_g_some h
      refine mm_iast X dX8_plan_268 15 0 (by decide) (fun _ => rfl) rfl hi6 ?_
      refine mm_iconst X dX8_plan_269 (v := 1) (by decide) ?_
      refine mm_istore X dX8_plan_270 (by decide) (lv2 := [(6, .int (1 : Int32)), (5, .int q4), (4, .int (((1 : Int32) <<< ((σ 0 13) &&& 31)) - (1 : Int32))), (3, .int (q3 16 (((12 : Int32) * (((1 : Int32) <<< ((σ 0 13) &&& 31)) - (1 : Int32))) + q4).toNatClampNeg)), (0, .ref (a 0)), (1, .int (((1 : Int32) <<< ((σ 0 13) &&& 31)) - (1 : Int32))), (2, .int q4)]) rfl ?_
      obtain ⟨q7, hq7, h⟩ := Option.bind_eq_some_iff.mp h
      refine mm_loc [4, 3, 2, 1, 0] rfl ?_
      refine tX8_plan_272 X hL hJ ?_ F (((1 : Int32) <<< ((σ 0 13) &&& 31)) - (1 : Int32)) q4 (1 : Int32) (mm_up q3 15 (0 : Int32).toNatClampNeg q4) hq7
      refine mm_iload_n X dX8_plan_372 0 rfl ?_
      obtain rfl := Option.some.inj h
      exact mm_iret X dX8_plan_373 rfl hQ rfl
    · have h := (if_pos c2).symm.trans h
      refine mm_iconst X dX8_plan_19 (v := 0) (by decide) ?_
      obtain rfl := Option.some.inj h
      exact mm_iret X dX8_plan_20 rfl hQ rfl
  · have h := (if_pos c1).symm.trans h
    refine mm_bipush X dX8_plan_9 (v := -4) (by decide) ?_
    obtain rfl := Option.some.inj h
    exact mm_iret X dX8_plan_11 rfl hQ rfl
/-! LinenTunnelModel.greedy -/
def fX8_greedy_4 (F : Nat) (σ : mm_M) : Nat → Int32 → Int32 → Option (Int32)
  | 0, _, _ => none
  | k + 1, l1, l2 => (if l2 < (σ 0 13) then mm_g 12 l2 (fX8_greedy_4 F σ k (l1 ||| ((1 : Int32) <<< ((σ 15 l2.toNatClampNeg) &&& 31))) (l2 + 1)) else some (l1))
def fX8_greedy_44 (F : Nat) (σ : mm_M) (l1 : Int32) (l2 : Int32) : Nat → Int32 → Int32 → Option (Int32)
  | 0, _, _ => none
  | k + 1, l3, l4 => (if l4 < (σ 0 13) then ((if ((l1 >>> (l4 &&& 31)) &&& (1 : Int32)) = (1 : Int32) then (if l3 = (-1 : Int32) then some (l4) else mm_g 12 (l2 - (1 : Int32)) ((fX8_betweenBatches σ (σ 15 (l2 - (1 : Int32)).toNatClampNeg) l4).bind fun q7 => mm_g 12 (l2 - (1 : Int32)) ((fX8_betweenBatches σ (σ 15 (l2 - (1 : Int32)).toNatClampNeg) l3).bind fun q9 => (if q7 < q9 then some (l4) else some (l3))))) else some (l3))).bind fun q2 => fX8_greedy_44 F σ l1 l2 k q2 (l4 + 1) else some (l3))
def fX8_greedy_31 (F : Nat) : Nat → Int32 → Int32 → mm_M → Option (mm_M)
  | 0, _, _, _ => none
  | k + 1, l1, l2, σ => (if l2 < (σ 0 13) then (fX8_greedy_44 F σ l1 l2 F (-1 : Int32) (0 : Int32)).bind fun q2 => mm_g 12 l2 (fX8_greedy_31 F k (l1 &&& (((1 : Int32) <<< (q2 &&& 31)) ^^^ (-1 : Int32))) (l2 + 1) (mm_up σ 15 l2.toNatClampNeg q2)) else some (σ))
def fX8_greedy (F : Nat) (σ : mm_M) : Option (Int32 × mm_M) := (fX8_greedy_4 F σ F (0 : Int32) (1 : Int32)).bind fun q1 => (fX8_greedy_31 F F q1 (1 : Int32) σ).bind fun q2 => (fX8_empties F q2).bind fun q3 => some (q3, q2)
abbrev rX8_greedy : Room := { frames := 3, cells := 0, slots := 0, locals := 68 }
theorem hyX8_greedy : yX8_greedy.cls = RX8 ∧ yX8_greedy.cls ≠ "java/lang/invoke/MethodHandle" ∧ yX8_greedy.cls ≠ "java/lang/invoke/VarHandle" ∧ (parseMethodDescriptor yX8_greedy.desc).map (fun d => d.parameters.length) = some 0 := by decide +kernel
theorem kX8_greedy_1 : (Cond.fieldLink RX8 133 "LinenTunnelModel" "batches" "I" : Cond) ∈ wsX8_greedy := List.mem_of_getElem? (i := 1) rfl
theorem uX8_greedy_8 : ∀ w ∈ u_ws RX8 TX8 37, w ∈ wsX8_greedy := fun _ h => (List.mem_cons_of_mem _ (List.mem_append_right _ h))
theorem kX8_greedy_2 : (Cond.fieldLink RX8 53 "LinenTunnelModel" "order" "[I" : Cond) ∈ wsX8_greedy := List.mem_of_getElem? (i := 2) rfl
set_option maxRecDepth 100000 in
set_option maxHeartbeats 4000000 in
theorem tX8_greedy_4 {l : Launch} {K : mm_K} {D : va_G} {cI cZ : ClassId} {a : Nat → Nat} (X : eC K rX8_greedy cX8_greedy 5 (some .int) wsX8_greedy RX8 D cI cZ a) (hL : mm_L K l) (hJ : mm_J 29 a) {F : Nat} {σ : mm_M} {out : Int32} (hx : eG K D cI cZ a σ 29 [(0, .ref (a 0)), (1, .int out)] []) : ∀ (k : Nat) (l1 : Int32) (l2 : Int32), fX8_greedy_4 F σ k l1 l2 = some out → eG K D cI cZ a σ 4 [(0, .ref (a 0)), (1, .int l1), (2, .int l2)] [] := by
  intro k
  induction k with
  | zero =>
    intro l1 l2 h
    have h : none = some out := h
    cases h
  | succ k ih =>
    intro l1 l2 h
    rw [fX8_greedy_4] at h
    refine mm_iload_n X dX8_greedy_4 2 rfl ?_
    refine mm_aload_n X dX8_greedy_5 0 rfl ?_
    refine mm_get X dX8_greedy_6 0 13 (by decide) md_cf_0 rfl (by decide) uX8_greedy_8 kX8_greedy_1 rfl (v := .int (σ 0 13)) rfl ?_
    refine mm_icmp_ge X dX8_greedy_9 (tgt := 29) (by decide) (fun c1 => ?_) (fun c1 => ?_)
    · have h := (if_neg c1).symm.trans h
      obtain rfl := Option.some.inj h
      refine mm_loc [0, 1] rfl ?_
      exact hx
    · have h := (if_pos c1).symm.trans h
      refine mm_iload_n X dX8_greedy_12 1 rfl ?_
      refine mm_iconst X dX8_greedy_13 (v := 1) (by decide) ?_
      refine mm_aload_n X dX8_greedy_14 0 rfl ?_
      refine mm_get X dX8_greedy_15 0 17 (by decide) md_cf_0 rfl (by decide) uX8_greedy_8 kX8_greedy_2 rfl (v := .ref (a 15)) rfl ?_
      refine mm_iload_n X dX8_greedy_18 2 rfl ?_
      obtain ⟨hi2, h⟩ := mm_g_some h
      refine mm_iald X dX8_greedy_19 15 0 (by decide) rfl rfl hi2 (v := (σ 15 l2.toNatClampNeg)) rfl ?_
      refine mm_ishl X dX8_greedy_20 ?_
      refine mm_ior X dX8_greedy_21 ?_
      refine mm_istore_n X dX8_greedy_22 (by decide) (lv2 := [(1, .int (l1 ||| ((1 : Int32) <<< ((σ 15 l2.toNatClampNeg) &&& 31)))), (0, .ref (a 0)), (2, .int l2)]) rfl ?_
      refine mm_iinc X dX8_greedy_23 2 rfl (v := (l2 + 1)) rfl (by decide) (lv2 := [(2, .int (l2 + 1)), (1, .int (l1 ||| ((1 : Int32) <<< ((σ 15 l2.toNatClampNeg) &&& 31)))), (0, .ref (a 0))]) rfl ?_
      refine mm_goto X dX8_greedy_26 (tgt := 4) (by decide) ?_
      refine mm_loc [2, 1, 0] rfl ?_
      exact ih _ _ h
set_option maxRecDepth 100000 in
set_option maxHeartbeats 4000000 in
theorem tX8_greedy_44 {l : Launch} {K : mm_K} {D : va_G} {cI cZ : ClassId} {a : Nat → Nat} (X : eC K rX8_greedy cX8_greedy 5 (some .int) wsX8_greedy RX8 D cI cZ a) (hL : mm_L K l) (hJ : mm_J 29 a) {F : Nat} {σ : mm_M} {l1 : Int32} {l2 : Int32} {out : Int32} (hx : eG K D cI cZ a σ 107 [(0, .ref (a 0)), (1, .int l1), (2, .int l2), (3, .int out)] []) : ∀ (k : Nat) (l3 : Int32) (l4 : Int32), fX8_greedy_44 F σ l1 l2 k l3 l4 = some out → eG K D cI cZ a σ 44 [(0, .ref (a 0)), (1, .int l1), (2, .int l2), (3, .int l3), (4, .int l4)] [] := by
  intro k
  induction k with
  | zero =>
    intro l3 l4 h
    have h : none = some out := h
    cases h
  | succ k ih =>
    intro l3 l4 h
    rw [fX8_greedy_44] at h
    refine mm_iload X dX8_greedy_44 4 rfl ?_
    refine mm_aload_n X dX8_greedy_46 0 rfl ?_
    refine mm_get X dX8_greedy_47 0 13 (by decide) md_cf_0 rfl (by decide) uX8_greedy_8 kX8_greedy_1 rfl (v := .int (σ 0 13)) rfl ?_
    refine mm_icmp_ge X dX8_greedy_50 (tgt := 107) (by decide) (fun c1 => ?_) (fun c1 => ?_)
    · have h := (if_neg c1).symm.trans h
      obtain rfl := Option.some.inj h
      refine mm_loc [0, 1, 2, 3] rfl ?_
      exact hx
    · have h := (if_pos c1).symm.trans h
      refine mm_iload_n X dX8_greedy_53 1 rfl ?_
      refine mm_iload X dX8_greedy_54 4 rfl ?_
      refine mm_ishr X dX8_greedy_56 ?_
      refine mm_iconst X dX8_greedy_57 (v := 1) (by decide) ?_
      refine mm_iand X dX8_greedy_58 ?_
      refine mm_iconst X dX8_greedy_59 (v := 1) (by decide) ?_
      obtain ⟨q2, hq2, h⟩ := Option.bind_eq_some_iff.mp h
      have J3 : eG K D cI cZ a σ 101 [(0, .ref (a 0)), (1, .int l1), (2, .int l2), (3, .int q2), (4, .int l4)] [] := by
        refine mm_iinc X dX8_greedy_101 4 rfl (v := (l4 + 1)) rfl (by decide) (lv2 := [(4, .int (l4 + 1)), (0, .ref (a 0)), (1, .int l1), (2, .int l2), (3, .int q2)]) rfl ?_
        refine mm_goto X dX8_greedy_104 (tgt := 44) (by decide) ?_
        refine mm_loc [1, 2, 3, 4, 0] rfl ?_
        exact ih _ _ h
      have h := hq2
      refine mm_icmp_ne X dX8_greedy_60 (tgt := 101) (by decide) (fun c4 => ?_) (fun c4 => ?_)
      · have h := (if_neg c4).symm.trans h
        obtain rfl := Option.some.inj h
        exact J3
      · have h := (if_pos c4).symm.trans h
        refine mm_iload_n X dX8_greedy_63 3 rfl ?_
        refine mm_iconst X dX8_greedy_64 (v := -1) (by decide) ?_
        refine mm_icmp_eq X dX8_greedy_65 (tgt := 98) (by decide) (fun c5 => ?_) (fun c5 => ?_)
        · have h := (if_pos c5).symm.trans h
          refine mm_iload X dX8_greedy_98 4 rfl ?_
          refine mm_istore_n X dX8_greedy_100 (by decide) (lv2 := [(3, .int l4), (0, .ref (a 0)), (1, .int l1), (2, .int l2), (4, .int l4)]) rfl ?_
          obtain rfl := Option.some.inj h
          refine mm_loc [1, 2, 3, 0, 4] rfl ?_
          exact J3
        · have h := (if_neg c5).symm.trans h
          refine mm_aload_n X dX8_greedy_68 0 rfl ?_
          refine mm_aload_n X dX8_greedy_69 0 rfl ?_
          refine mm_get X dX8_greedy_70 0 17 (by decide) md_cf_0 rfl (by decide) uX8_greedy_8 kX8_greedy_2 rfl (v := .ref (a 15)) rfl ?_
          refine mm_iload_n X dX8_greedy_73 2 rfl ?_
          refine mm_iconst X dX8_greedy_74 (v := 1) (by decide) ?_
          refine mm_isub X dX8_greedy_75 ?_
          obtain ⟨hi6, h⟩ := mm_g_some h
          refine mm_iald X dX8_greedy_76 15 0 (by decide) rfl rfl hi6 (v := (σ 15 (l2 - (1 : Int32)).toNatClampNeg)) rfl ?_
          refine mm_iload X dX8_greedy_77 4 rfl ?_
          obtain ⟨q7, hq7, h⟩ := Option.bind_eq_some_iff.mp h
          refine mm_callVi X dX8_greedy_79 (As := [.int (σ 15 (l2 - (1 : Int32)).toNatClampNeg), .int l4]) (rest := []) 0 (by decide) md_cf_0 rfl hL (mX8_betweenBatches hJ hq7) gX8_greedy_X8_betweenBatches rfl ⟨rfl, rfl⟩ hyX8_betweenBatches ⟨Nat.le_of_ble_eq_true rfl, Nat.le_of_ble_eq_true rfl⟩ rfl (Nat.le_of_ble_eq_true rfl) ?_
          refine mm_aload_n X dX8_greedy_82 0 rfl ?_
          refine mm_aload_n X dX8_greedy_83 0 rfl ?_
          refine mm_get X dX8_greedy_84 0 17 (by decide) md_cf_0 rfl (by decide) uX8_greedy_8 kX8_greedy_2 rfl (v := .ref (a 15)) rfl ?_
          refine mm_iload_n X dX8_greedy_87 2 rfl ?_
          refine mm_iconst X dX8_greedy_88 (v := 1) (by decide) ?_
          refine mm_isub X dX8_greedy_89 ?_
          obtain ⟨hi8, h⟩ := mm_g_some h
          refine mm_iald X dX8_greedy_90 15 0 (by decide) rfl rfl hi8 (v := (σ 15 (l2 - (1 : Int32)).toNatClampNeg)) rfl ?_
          refine mm_iload_n X dX8_greedy_91 3 rfl ?_
          obtain ⟨q9, hq9, h⟩ := Option.bind_eq_some_iff.mp h
          refine mm_callVi X dX8_greedy_92 (As := [.int (σ 15 (l2 - (1 : Int32)).toNatClampNeg), .int l3]) (rest := [.int q7]) 0 (by decide) md_cf_0 rfl hL (mX8_betweenBatches hJ hq9) gX8_greedy_X8_betweenBatches rfl ⟨rfl, rfl⟩ hyX8_betweenBatches ⟨Nat.le_of_ble_eq_true rfl, Nat.le_of_ble_eq_true rfl⟩ rfl (Nat.le_of_ble_eq_true rfl) ?_
          refine mm_icmp_ge X dX8_greedy_95 (tgt := 101) (by decide) (fun c10 => ?_) (fun c10 => ?_)
          · have h := (if_neg c10).symm.trans h
            obtain rfl := Option.some.inj h
            exact J3
          · have h := (if_pos c10).symm.trans h
            refine mm_iload X dX8_greedy_98 4 rfl ?_
            refine mm_istore_n X dX8_greedy_100 (by decide) (lv2 := [(3, .int l4), (0, .ref (a 0)), (1, .int l1), (2, .int l2), (4, .int l4)]) rfl ?_
            obtain rfl := Option.some.inj h
            refine mm_loc [1, 2, 3, 0, 4] rfl ?_
            exact J3
set_option maxRecDepth 100000 in
set_option maxHeartbeats 4000000 in
theorem tX8_greedy_31 {l : Launch} {K : mm_K} {D : va_G} {cI cZ : ClassId} {a : Nat → Nat} (X : eC K rX8_greedy cX8_greedy 5 (some .int) wsX8_greedy RX8 D cI cZ a) (hL : mm_L K l) (hJ : mm_J 29 a) {F : Nat} {out : mm_M} (hx : eG K D cI cZ a out 128 [(0, .ref (a 0))] []) : ∀ (k : Nat) (l1 : Int32) (l2 : Int32) (σ : mm_M), fX8_greedy_31 F k l1 l2 σ = some out → eG K D cI cZ a σ 31 [(0, .ref (a 0)), (1, .int l1), (2, .int l2)] [] := by
  intro k
  induction k with
  | zero =>
    intro l1 l2 σ h
    have h : none = some out := h
    cases h
  | succ k ih =>
    intro l1 l2 σ h
    rw [fX8_greedy_31] at h
    refine mm_iload_n X dX8_greedy_31 2 rfl ?_
    refine mm_aload_n X dX8_greedy_32 0 rfl ?_
    refine mm_get X dX8_greedy_33 0 13 (by decide) md_cf_0 rfl (by decide) uX8_greedy_8 kX8_greedy_1 rfl (v := .int (σ 0 13)) rfl ?_
    refine mm_icmp_ge X dX8_greedy_36 (tgt := 128) (by decide) (fun c1 => ?_) (fun c1 => ?_)
    · have h := (if_neg c1).symm.trans h
      obtain rfl := Option.some.inj h
      refine mm_loc [0] rfl ?_
      exact hx
    · have h := (if_pos c1).symm.trans h
      refine mm_iconst X dX8_greedy_39 (v := -1) (by decide) ?_
      refine mm_istore_n X dX8_greedy_40 (by decide) (lv2 := [(3, .int (-1 : Int32)), (0, .ref (a 0)), (1, .int l1), (2, .int l2)]) rfl ?_
      refine mm_iconst X dX8_greedy_41 (v := 0) (by decide) ?_
      refine mm_istore X dX8_greedy_42 (by decide) (lv2 := [(4, .int (0 : Int32)), (3, .int (-1 : Int32)), (0, .ref (a 0)), (1, .int l1), (2, .int l2)]) rfl ?_
      obtain ⟨q2, hq2, h⟩ := Option.bind_eq_some_iff.mp h
      refine mm_loc [2, 3, 4, 1, 0] rfl ?_
      refine tX8_greedy_44 X hL hJ ?_ F (-1 : Int32) (0 : Int32) hq2
      refine mm_aload_n X dX8_greedy_107 0 rfl ?_
      refine mm_get X dX8_greedy_108 0 17 (by decide) md_cf_0 rfl (by decide) uX8_greedy_8 kX8_greedy_2 rfl (v := .ref (a 15)) rfl ?_
      refine mm_iload_n X dX8_greedy_111 2 rfl ?_
      refine mm_iload_n X dX8_greedy_112 3 rfl ?_
      obtain ⟨hi3, h⟩ := mm_g_some h
      refine mm_iast X dX8_greedy_113 15 0 (by decide) (fun _ => rfl) rfl hi3 ?_
      refine mm_iload_n X dX8_greedy_114 1 rfl ?_
      refine mm_iconst X dX8_greedy_115 (v := 1) (by decide) ?_
      refine mm_iload_n X dX8_greedy_116 3 rfl ?_
      refine mm_ishl X dX8_greedy_117 ?_
      refine mm_iconst X dX8_greedy_118 (v := -1) (by decide) ?_
      refine mm_ixor X dX8_greedy_119 ?_
      refine mm_iand X dX8_greedy_120 ?_
      refine mm_istore_n X dX8_greedy_121 (by decide) (lv2 := [(1, .int (l1 &&& (((1 : Int32) <<< (q2 &&& 31)) ^^^ (-1 : Int32)))), (0, .ref (a 0)), (2, .int l2), (3, .int q2)]) rfl ?_
      refine mm_iinc X dX8_greedy_122 2 rfl (v := (l2 + 1)) rfl (by decide) (lv2 := [(2, .int (l2 + 1)), (1, .int (l1 &&& (((1 : Int32) <<< (q2 &&& 31)) ^^^ (-1 : Int32)))), (0, .ref (a 0)), (3, .int q2)]) rfl ?_
      refine mm_goto X dX8_greedy_125 (tgt := 31) (by decide) ?_
      refine mm_loc [2, 1, 0] rfl ?_
      exact ih _ _ _ h
set_option maxRecDepth 100000 in
set_option maxHeartbeats 4000000 in
theorem mX8_greedy {l : Launch} {D : va_G} {cI cZ : ClassId} {a : Nat → Nat} (hJ : mm_J 29 a) {F : Nat} {σ : mm_M} {res : Int32 × mm_M} (h : fX8_greedy F σ = some res) (sz : Nat) : Met l yX8_greedy wsX8_greedy rX8_greedy (eP D cI cZ a σ [.ref (a 0)] sz) (eQi D cI cZ a res.1 res.2 sz) 0 0 (mm_A 29 a sz) := by
  refine mm_met (fun sz => eQi D cI cZ a res.1 res.2 sz) (lv := [(0, .ref (a 0))]) (ret := (some .int)) (cc := cX8_greedy) (maxL := 5) (own := RX8) hJ (by decide +kernel) rfl rfl (Nat.le_of_ble_eq_true rfl) rfl ?_ sz
  intro K hL X hQ
  unfold fX8_greedy at h
  refine mm_iconst X dX8_greedy_0 (v := 0) (by decide) ?_
  refine mm_istore_n X dX8_greedy_1 (by decide) (lv2 := [(1, .int (0 : Int32)), (0, .ref (a 0))]) rfl ?_
  refine mm_iconst X dX8_greedy_2 (v := 1) (by decide) ?_
  refine mm_istore_n X dX8_greedy_3 (by decide) (lv2 := [(2, .int (1 : Int32)), (1, .int (0 : Int32)), (0, .ref (a 0))]) rfl ?_
  obtain ⟨q1, hq1, h⟩ := Option.bind_eq_some_iff.mp h
  refine mm_loc [2, 1, 0] rfl ?_
  refine tX8_greedy_4 X hL hJ ?_ F (0 : Int32) (1 : Int32) hq1
  refine mm_iconst X dX8_greedy_29 (v := 1) (by decide) ?_
  refine mm_istore_n X dX8_greedy_30 (by decide) (lv2 := [(2, .int (1 : Int32)), (0, .ref (a 0)), (1, .int q1)]) rfl ?_
  obtain ⟨q2, hq2, h⟩ := Option.bind_eq_some_iff.mp h
  refine mm_loc [1, 2, 0] rfl ?_
  refine tX8_greedy_31 X hL hJ ?_ F q1 (1 : Int32) σ hq2
  refine mm_aload_n X dX8_greedy_128 0 rfl ?_
  obtain ⟨q3, hq3, h⟩ := Option.bind_eq_some_iff.mp h
  refine mm_callVi X dX8_greedy_129 (As := []) (rest := []) 0 (by decide) md_cf_0 rfl hL (mX8_empties hJ hq3) gX8_greedy_X8_empties rfl ⟨rfl, rfl⟩ hyX8_empties ⟨Nat.le_of_ble_eq_true rfl, Nat.le_of_ble_eq_true rfl⟩ rfl (Nat.le_of_ble_eq_true rfl) ?_
  obtain rfl := Option.some.inj h
  exact mm_iret X dX8_greedy_132 rfl hQ rfl
/-! LinenTunnelModel.tunnel -/
def fX8_tunnel (σ : mm_M) (p1 p2 p3 : Int32) : Int32 × mm_M := (if (fX8_in p1 (2 : Int32) (10 : Int32)) = 0 then ((-2 : Int32), σ) else (if (fX8_in p2 (1 : Int32) (4 : Int32)) = 0 then ((-2 : Int32), σ) else (if (fX8_in p3 (1 : Int32) (3 : Int32)) = 0 then ((-2 : Int32), σ) else ((1 : Int32), (mm_up (mm_up (mm_up σ 0 18 p1) 0 19 p2) 0 20 p3)))))
abbrev rX8_tunnel : Room := { frames := 1, cells := 0, slots := 0, locals := 22 }
theorem hyX8_tunnel : yX8_tunnel.cls = RX8 ∧ yX8_tunnel.cls ≠ "java/lang/invoke/MethodHandle" ∧ yX8_tunnel.cls ≠ "java/lang/invoke/VarHandle" ∧ (parseMethodDescriptor yX8_tunnel.desc).map (fun d => d.parameters.length) = some 3 := by decide +kernel
theorem kX8_tunnel_1 : (Cond.fieldLink RX8 56 "LinenTunnelModel" "compartments" "I" : Cond) ∈ wsX8_tunnel := List.mem_of_getElem? (i := 1) rfl
theorem uX8_tunnel_8 : ∀ w ∈ u_ws RX8 TX8 37, w ∈ wsX8_tunnel := fun _ h => (List.mem_cons_of_mem _ (List.mem_append_right _ h))
theorem kX8_tunnel_2 : (Cond.fieldLink RX8 60 "LinenTunnelModel" "dryers" "I" : Cond) ∈ wsX8_tunnel := List.mem_of_getElem? (i := 2) rfl
theorem kX8_tunnel_3 : (Cond.fieldLink RX8 63 "LinenTunnelModel" "ironMany" "I" : Cond) ∈ wsX8_tunnel := List.mem_of_getElem? (i := 3) rfl
set_option maxRecDepth 100000 in
set_option maxHeartbeats 4000000 in
theorem mX8_tunnel {l : Launch} {D : va_G} {cI cZ : ClassId} {a : Nat → Nat} (hJ : mm_J 29 a) {σ : mm_M} {p1 p2 p3 : Int32} {res : Int32 × mm_M} (h : fX8_tunnel σ p1 p2 p3 = res) (sz : Nat) : Met l yX8_tunnel wsX8_tunnel rX8_tunnel (eP D cI cZ a σ [.ref (a 0), .int p1, .int p2, .int p3] sz) (eQi D cI cZ a res.1 res.2 sz) 0 0 (mm_A 29 a sz) := by
  refine mm_met (fun sz => eQi D cI cZ a res.1 res.2 sz) (lv := [(0, .ref (a 0)), (1, .int p1), (2, .int p2), (3, .int p3)]) (ret := (some .int)) (cc := cX8_tunnel) (maxL := 4) (own := RX8) hJ (by decide +kernel) rfl rfl (Nat.le_of_ble_eq_true rfl) rfl ?_ sz
  intro K hL X hQ
  unfold fX8_tunnel at h
  refine mm_iload_n X dX8_tunnel_0 1 rfl ?_
  refine mm_iconst X dX8_tunnel_1 (v := 2) (by decide) ?_
  refine mm_bipush X dX8_tunnel_2 (v := 10) (by decide) ?_
  refine mm_callSi X dX8_tunnel_4 (As := [.int p1, .int (2 : Int32), .int (10 : Int32)]) (rest := []) hL (mX8_in hJ (res := fX8_in p1 (2 : Int32) (10 : Int32)) rfl) gX8_tunnel_X8_in rfl ⟨rfl, rfl⟩ hyX8_in ⟨Nat.le_of_ble_eq_true rfl, Nat.le_of_ble_eq_true rfl⟩ rfl (Nat.le_of_ble_eq_true rfl) ?_
  refine mm_if_eq X dX8_tunnel_7 (tgt := 28) (by decide) (fun c1 => ?_) (fun c1 => ?_)
  · have h := (if_pos c1).symm.trans h
    refine mm_bipush X dX8_tunnel_28 (v := -2) (by decide) ?_
    subst h
    exact mm_iret X dX8_tunnel_30 rfl hQ rfl
  · have h := (if_neg c1).symm.trans h
    refine mm_iload_n X dX8_tunnel_10 2 rfl ?_
    refine mm_iconst X dX8_tunnel_11 (v := 1) (by decide) ?_
    refine mm_iconst X dX8_tunnel_12 (v := 4) (by decide) ?_
    refine mm_callSi X dX8_tunnel_13 (As := [.int p2, .int (1 : Int32), .int (4 : Int32)]) (rest := []) hL (mX8_in hJ (res := fX8_in p2 (1 : Int32) (4 : Int32)) rfl) gX8_tunnel_X8_in rfl ⟨rfl, rfl⟩ hyX8_in ⟨Nat.le_of_ble_eq_true rfl, Nat.le_of_ble_eq_true rfl⟩ rfl (Nat.le_of_ble_eq_true rfl) ?_
    refine mm_if_eq X dX8_tunnel_16 (tgt := 28) (by decide) (fun c2 => ?_) (fun c2 => ?_)
    · have h := (if_pos c2).symm.trans h
      refine mm_bipush X dX8_tunnel_28 (v := -2) (by decide) ?_
      subst h
      exact mm_iret X dX8_tunnel_30 rfl hQ rfl
    · have h := (if_neg c2).symm.trans h
      refine mm_iload_n X dX8_tunnel_19 3 rfl ?_
      refine mm_iconst X dX8_tunnel_20 (v := 1) (by decide) ?_
      refine mm_iconst X dX8_tunnel_21 (v := 3) (by decide) ?_
      refine mm_callSi X dX8_tunnel_22 (As := [.int p3, .int (1 : Int32), .int (3 : Int32)]) (rest := []) hL (mX8_in hJ (res := fX8_in p3 (1 : Int32) (3 : Int32)) rfl) gX8_tunnel_X8_in rfl ⟨rfl, rfl⟩ hyX8_in ⟨Nat.le_of_ble_eq_true rfl, Nat.le_of_ble_eq_true rfl⟩ rfl (Nat.le_of_ble_eq_true rfl) ?_
      refine mm_if_ne X dX8_tunnel_25 (tgt := 31) (by decide) (fun c3 => ?_) (fun c3 => ?_)
      · have h := (if_neg c3).symm.trans h
        refine mm_aload_n X dX8_tunnel_31 0 rfl ?_
        refine mm_iload_n X dX8_tunnel_32 1 rfl ?_
        refine mm_put X dX8_tunnel_33 0 18 (by decide) tyX8 tyX8_ok nmX8 md_cf_0 rfl rfl (by decide) uX8_tunnel_8 kX8_tunnel_1 rfl rfl rfl (Nat.le_of_ble_eq_true rfl) ?_
        refine mm_aload_n X dX8_tunnel_36 0 rfl ?_
        refine mm_iload_n X dX8_tunnel_37 2 rfl ?_
        refine mm_put X dX8_tunnel_38 0 19 (by decide) tyX8 tyX8_ok nmX8 md_cf_0 rfl rfl (by decide) uX8_tunnel_8 kX8_tunnel_2 rfl rfl rfl (Nat.le_of_ble_eq_true rfl) ?_
        refine mm_aload_n X dX8_tunnel_41 0 rfl ?_
        refine mm_iload_n X dX8_tunnel_42 3 rfl ?_
        refine mm_put X dX8_tunnel_43 0 20 (by decide) tyX8 tyX8_ok nmX8 md_cf_0 rfl rfl (by decide) uX8_tunnel_8 kX8_tunnel_3 rfl rfl rfl (Nat.le_of_ble_eq_true rfl) ?_
        refine mm_iconst X dX8_tunnel_46 (v := 1) (by decide) ?_
        subst h
        exact mm_iret X dX8_tunnel_47 rfl hQ rfl
      · have h := (if_pos c3).symm.trans h
        refine mm_bipush X dX8_tunnel_28 (v := -2) (by decide) ?_
        subst h
        exact mm_iret X dX8_tunnel_30 rfl hQ rfl
/-! LinenTunnelModel.dryerAt -/
def fX8_dryerAt_2 (F : Nat) (σ : mm_M) (l1 : Int32) : Nat → Int32 → Option (Int32)
  | 0, _ => none
  | k + 1, l2 => (if l2 < (σ 0 19) then mm_g 4 l2 ((if l1 < (σ 19 l2.toNatClampNeg) then fX8_dryerAt_2 F σ l1 k (l2 + 1) else some l2)) else some (-1 : Int32))
def fX8_dryerAt (F : Nat) (σ : mm_M) (p1 : Int32) : Option (Int32) := fX8_dryerAt_2 F σ p1 F (0 : Int32)
abbrev rX8_dryerAt : Room := { frames := 0, cells := 0, slots := 0, locals := 0 }
theorem hyX8_dryerAt : yX8_dryerAt.cls = RX8 ∧ yX8_dryerAt.cls ≠ "java/lang/invoke/MethodHandle" ∧ yX8_dryerAt.cls ≠ "java/lang/invoke/VarHandle" ∧ (parseMethodDescriptor yX8_dryerAt.desc).map (fun d => d.parameters.length) = some 1 := by decide +kernel
theorem kX8_dryerAt_1 : (Cond.fieldLink RX8 60 "LinenTunnelModel" "dryers" "I" : Cond) ∈ wsX8_dryerAt := List.mem_of_getElem? (i := 1) rfl
theorem uX8_dryerAt_8 : ∀ w ∈ u_ws RX8 TX8 37, w ∈ wsX8_dryerAt := fun _ h => (List.mem_cons_of_mem _ (List.mem_append_right _ h))
theorem kX8_dryerAt_2 : (Cond.fieldLink RX8 75 "LinenTunnelModel" "dryerFree" "[I" : Cond) ∈ wsX8_dryerAt := List.mem_of_getElem? (i := 2) rfl
set_option maxRecDepth 100000 in
set_option maxHeartbeats 4000000 in
theorem tX8_dryerAt_2 {l : Launch} {K : mm_K} {D : va_G} {cI cZ : ClassId} {a : Nat → Nat} (X : eC K rX8_dryerAt cX8_dryerAt 3 (some .int) wsX8_dryerAt RX8 D cI cZ a) (hL : mm_L K l) (hJ : mm_J 29 a) {F : Nat} {σ : mm_M} {l1 : Int32} {out : Int32} (hQ : mm_H K 29 a (fun sz => eQi D cI cZ a out σ sz)) : ∀ (k : Nat) (l2 : Int32), fX8_dryerAt_2 F σ l1 k l2 = some out → eG K D cI cZ a σ 2 [(0, .ref (a 0)), (1, .int l1), (2, .int l2)] [] := by
  intro k
  induction k with
  | zero =>
    intro l2 h
    have h : none = some out := h
    cases h
  | succ k ih =>
    intro l2 h
    rw [fX8_dryerAt_2] at h
    refine mm_iload_n X dX8_dryerAt_2 2 rfl ?_
    refine mm_aload_n X dX8_dryerAt_3 0 rfl ?_
    refine mm_get X dX8_dryerAt_4 0 19 (by decide) md_cf_0 rfl (by decide) uX8_dryerAt_8 kX8_dryerAt_1 rfl (v := .int (σ 0 19)) rfl ?_
    refine mm_icmp_ge X dX8_dryerAt_7 (tgt := 28) (by decide) (fun c1 => ?_) (fun c1 => ?_)
    · have h := (if_neg c1).symm.trans h
      refine mm_iconst X dX8_dryerAt_28 (v := -1) (by decide) ?_
      obtain rfl := Option.some.inj h
      exact mm_iret X dX8_dryerAt_29 rfl hQ rfl
    · have h := (if_pos c1).symm.trans h
      refine mm_aload_n X dX8_dryerAt_10 0 rfl ?_
      refine mm_get X dX8_dryerAt_11 0 25 (by decide) md_cf_0 rfl (by decide) uX8_dryerAt_8 kX8_dryerAt_2 rfl (v := .ref (a 19)) rfl ?_
      refine mm_iload_n X dX8_dryerAt_14 2 rfl ?_
      obtain ⟨hi2, h⟩ := mm_g_some h
      refine mm_iald X dX8_dryerAt_15 19 0 (by decide) rfl rfl hi2 (v := (σ 19 l2.toNatClampNeg)) rfl ?_
      refine mm_iload_n X dX8_dryerAt_16 1 rfl ?_
      refine mm_icmp_gt X dX8_dryerAt_17 (tgt := 22) (by decide) (fun c3 => ?_) (fun c3 => ?_)
      · have h := (if_pos c3).symm.trans h
        refine mm_iinc X dX8_dryerAt_22 2 rfl (v := (l2 + 1)) rfl (by decide) (lv2 := [(2, .int (l2 + 1)), (0, .ref (a 0)), (1, .int l1)]) rfl ?_
        refine mm_goto X dX8_dryerAt_25 (tgt := 2) (by decide) ?_
        refine mm_loc [1, 2, 0] rfl ?_
        exact ih _ h
      · have h := (if_neg c3).symm.trans h
        refine mm_iload_n X dX8_dryerAt_20 2 rfl ?_
        obtain rfl := Option.some.inj h
        exact mm_iret X dX8_dryerAt_21 rfl hQ rfl
set_option maxRecDepth 100000 in
set_option maxHeartbeats 4000000 in
theorem mX8_dryerAt {l : Launch} {D : va_G} {cI cZ : ClassId} {a : Nat → Nat} (hJ : mm_J 29 a) {F : Nat} {σ : mm_M} {p1 : Int32} {res : Int32} (h : fX8_dryerAt F σ p1 = some res) (sz : Nat) : Met l yX8_dryerAt wsX8_dryerAt rX8_dryerAt (eP D cI cZ a σ [.ref (a 0), .int p1] sz) (eQi D cI cZ a res σ sz) 0 0 (mm_A 29 a sz) := by
  refine mm_met (fun sz => eQi D cI cZ a res σ sz) (lv := [(0, .ref (a 0)), (1, .int p1)]) (ret := (some .int)) (cc := cX8_dryerAt) (maxL := 3) (own := RX8) hJ (by decide +kernel) rfl rfl (Nat.le_of_ble_eq_true rfl) rfl ?_ sz
  intro K hL X hQ
  unfold fX8_dryerAt at h
  refine mm_iconst X dX8_dryerAt_0 (v := 0) (by decide) ?_
  refine mm_istore_n X dX8_dryerAt_1 (by decide) (lv2 := [(2, .int (0 : Int32)), (0, .ref (a 0)), (1, .int p1)]) rfl ?_
  refine mm_loc [1, 2, 0] rfl ?_
  exact tX8_dryerAt_2 X hL hJ hQ F (0 : Int32) h
/-! LinenTunnelModel.kindAt -/
def fX8_kindAt (σ : mm_M) (p1 : Int32) : Option (Int32) := mm_g 12 p1 (mm_g 12 (σ 15 p1.toNatClampNeg) (some (σ 12 (σ 15 p1.toNatClampNeg).toNatClampNeg)))
abbrev rX8_kindAt : Room := { frames := 0, cells := 0, slots := 0, locals := 0 }
theorem hyX8_kindAt : yX8_kindAt.cls = RX8 ∧ yX8_kindAt.cls ≠ "java/lang/invoke/MethodHandle" ∧ yX8_kindAt.cls ≠ "java/lang/invoke/VarHandle" ∧ (parseMethodDescriptor yX8_kindAt.desc).map (fun d => d.parameters.length) = some 1 := by decide +kernel
theorem kX8_kindAt_1 : (Cond.fieldLink RX8 44 "LinenTunnelModel" "batchKind" "[I" : Cond) ∈ wsX8_kindAt := List.mem_of_getElem? (i := 1) rfl
theorem uX8_kindAt_8 : ∀ w ∈ u_ws RX8 TX8 37, w ∈ wsX8_kindAt := fun _ h => (List.mem_cons_of_mem _ (List.mem_append_right _ h))
theorem kX8_kindAt_2 : (Cond.fieldLink RX8 53 "LinenTunnelModel" "order" "[I" : Cond) ∈ wsX8_kindAt := List.mem_of_getElem? (i := 2) rfl
set_option maxRecDepth 100000 in
set_option maxHeartbeats 4000000 in
theorem mX8_kindAt {l : Launch} {D : va_G} {cI cZ : ClassId} {a : Nat → Nat} (hJ : mm_J 29 a) {σ : mm_M} {p1 : Int32} {res : Int32} (h : fX8_kindAt σ p1 = some res) (sz : Nat) : Met l yX8_kindAt wsX8_kindAt rX8_kindAt (eP D cI cZ a σ [.ref (a 0), .int p1] sz) (eQi D cI cZ a res σ sz) 0 0 (mm_A 29 a sz) := by
  refine mm_met (fun sz => eQi D cI cZ a res σ sz) (lv := [(0, .ref (a 0)), (1, .int p1)]) (ret := (some .int)) (cc := cX8_kindAt) (maxL := 2) (own := RX8) hJ (by decide +kernel) rfl rfl (Nat.le_of_ble_eq_true rfl) rfl ?_ sz
  intro K hL X hQ
  unfold fX8_kindAt at h
  refine mm_aload_n X dX8_kindAt_0 0 rfl ?_
  refine mm_get X dX8_kindAt_1 0 14 (by decide) md_cf_0 rfl (by decide) uX8_kindAt_8 kX8_kindAt_1 rfl (v := .ref (a 12)) rfl ?_
  refine mm_aload_n X dX8_kindAt_4 0 rfl ?_
  refine mm_get X dX8_kindAt_5 0 17 (by decide) md_cf_0 rfl (by decide) uX8_kindAt_8 kX8_kindAt_2 rfl (v := .ref (a 15)) rfl ?_
  refine mm_iload_n X dX8_kindAt_8 1 rfl ?_
  obtain ⟨hi1, h⟩ := mm_g_some h
  refine mm_iald X dX8_kindAt_9 15 0 (by decide) rfl rfl hi1 (v := (σ 15 p1.toNatClampNeg)) rfl ?_
  obtain ⟨hi2, h⟩ := mm_g_some h
  refine mm_iald X dX8_kindAt_10 12 0 (by decide) rfl rfl hi2 (v := (σ 12 (σ 15 p1.toNatClampNeg).toNatClampNeg)) rfl ?_
  obtain rfl := Option.some.inj h
  exact mm_iret X dX8_kindAt_11 rfl hQ rfl
