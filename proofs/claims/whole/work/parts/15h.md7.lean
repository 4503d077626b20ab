/-! LinenTunnelModel.copy -/
def fX8_copy_120 (F : Nat) (l1 : Int32) (l2 : Int32) (l3 : Int32) (l4 : Int32) (l5 : Int32) : Nat → Int32 → mm_M → Option (mm_M)
  | 0, _, _ => none
  | k + 1, l6, σ => (if l6 < l5 then mm_g 240 ((((60 : Int32) * l1) + l2) + l6) (mm_g 60 l6 (fX8_copy_120 F l1 l2 l3 l4 l5 k (l6 + 1) (mm_up σ 28 l6.toNatClampNeg (σ 27 ((((60 : Int32) * l1) + l2) + l6).toNatClampNeg)))) else some (σ))
def fX8_copy_157 (F : Nat) (l3 : Int32) (l4 : Int32) (l5 : Int32) : Nat → Int32 → mm_M → Option (mm_M)
  | 0, _, _ => none
  | k + 1, l6, σ => (if l6 < l5 then mm_g 60 l6 (mm_g 240 ((((60 : Int32) * l3) + l4) + l6) (fX8_copy_157 F l3 l4 l5 k (l6 + 1) (mm_up σ 27 ((((60 : Int32) * l3) + l4) + l6).toNatClampNeg (σ 28 l6.toNatClampNeg)))) else some (σ))
def fX8_copy (F : Nat) (σ : mm_M) (p1 p2 p3 p4 p5 : Int32) : Option (Int32 × mm_M) := (if (fX8_isSheet p1) = 0 then some ((-2 : Int32), σ) else (if (fX8_isSheet p3) = 0 then some ((-2 : Int32), σ) else mm_g 4 p1 ((if (σ 24 p1.toNatClampNeg) = 0 then some ((fX8_meets σ (1 : Int32)).1, (fX8_meets σ (1 : Int32)).2) else mm_g 4 p3 ((if (σ 24 p3.toNatClampNeg) = 0 then some ((fX8_meets σ (1 : Int32)).1, (fX8_meets σ (1 : Int32)).2) else mm_g 4 p1 (mm_g 4 p3 ((if (σ 25 p1.toNatClampNeg) = (σ 25 p3.toNatClampNeg) then (if p2 < 0 then some ((fX8_meets σ (2 : Int32)).1, (fX8_meets σ (2 : Int32)).2) else (if p4 < 0 then some ((fX8_meets σ (2 : Int32)).1, (fX8_meets σ (2 : Int32)).2) else (if p5 < 0 then some ((fX8_meets σ (2 : Int32)).1, (fX8_meets σ (2 : Int32)).2) else mm_g 4 p1 ((if 0 < (lg_cmp (p2.toInt64 + p5.toInt64) (σ 26 p1.toNatClampNeg).toInt64) then some ((fX8_meets σ (2 : Int32)).1, (fX8_meets σ (2 : Int32)).2) else mm_g 4 p3 ((if 0 < (lg_cmp (p4.toInt64 + p5.toInt64) (σ 26 p3.toNatClampNeg).toInt64) then some ((fX8_meets σ (2 : Int32)).1, (fX8_meets σ (2 : Int32)).2) else (fX8_copy_120 F p1 p2 p3 p4 p5 F (0 : Int32) σ).bind fun q17 => (fX8_copy_157 F p3 p4 p5 F (0 : Int32) q17).bind fun q18 => some ((1 : Int32), q18)))))))) else some ((fX8_meets σ (4 : Int32)).1, (fX8_meets σ (4 : Int32)).2))))))))))
abbrev rX8_copy : Room := { frames := 2, cells := 0, slots := 0, locals := 42 }
theorem hyX8_copy : yX8_copy.cls = RX8 ∧ yX8_copy.cls ≠ "java/lang/invoke/MethodHandle" ∧ yX8_copy.cls ≠ "java/lang/invoke/VarHandle" ∧ (parseMethodDescriptor yX8_copy.desc).map (fun d => d.parameters.length) = some 5 := by decide +kernel
theorem kX8_copy_1 : (Cond.fieldLink RX8 90 "LinenTunnelModel" "isThere" "[Z" : Cond) ∈ wsX8_copy := List.mem_of_getElem? (i := 1) rfl
theorem uX8_copy_8 : ∀ w ∈ u_ws RX8 TX8 37, w ∈ wsX8_copy := fun _ h => (List.mem_cons_of_mem _ (List.mem_append_right _ h))
theorem kX8_copy_2 : (Cond.fieldLink RX8 93 "LinenTunnelModel" "forms" "[I" : Cond) ∈ wsX8_copy := List.mem_of_getElem? (i := 2) rfl
theorem kX8_copy_3 : (Cond.fieldLink RX8 96 "LinenTunnelModel" "sizes" "[I" : Cond) ∈ wsX8_copy := List.mem_of_getElem? (i := 3) rfl
theorem kX8_copy_4 : (Cond.fieldLink RX8 102 "LinenTunnelModel" "moved" "[I" : Cond) ∈ wsX8_copy := List.mem_of_getElem? (i := 4) rfl
theorem kX8_copy_5 : (Cond.fieldLink RX8 99 "LinenTunnelModel" "items" "[I" : Cond) ∈ wsX8_copy := List.mem_of_getElem? (i := 5) rfl
set_option maxRecDepth 100000 in
set_option maxHeartbeats 4000000 in
theorem tX8_copy_120 {l : Launch} {K : mm_K} {D : va_G} {cI cZ : ClassId} {a : Nat → Nat} (X : eC K rX8_copy cX8_copy 7 (some .int) wsX8_copy RX8 D cI cZ a) (hL : mm_L K l) (hJ : mm_J 29 a) {F : Nat} {l1 : Int32} {l2 : Int32} {l3 : Int32} {l4 : Int32} {l5 : Int32} {out : mm_M} (hx : eG K D cI cZ a out 154 [(0, .ref (a 0)), (3, .int l3), (4, .int l4), (5, .int l5)] []) : ∀ (k : Nat) (l6 : Int32) (σ : mm_M), fX8_copy_120 F l1 l2 l3 l4 l5 k l6 σ = some out → eG K D cI cZ a σ 120 [(0, .ref (a 0)), (1, .int l1), (2, .int l2), (3, .int l3), (4, .int l4), (5, .int l5), (6, .int l6)] [] := by
  intro k
  induction k with
  | zero =>
    intro l6 σ h
    have h : none = some out := h
    cases h
  | succ k ih =>
    intro l6 σ h
    rw [fX8_copy_120] at h
    refine mm_iload X dX8_copy_120 6 rfl ?_
    refine mm_iload X dX8_copy_122 5 rfl ?_
    refine mm_icmp_ge X dX8_copy_124 (tgt := 154) (by decide) (fun c1 => ?_) (fun c1 => ?_)
    · have h := (if_neg c1).symm.trans h
      obtain rfl := Option.some.inj h
      refine mm_loc [0, 3, 4, 5] rfl ?_
      exact hx
    · have h := (if_pos c1).symm.trans h
      refine mm_aload_n X dX8_copy_127 0 rfl ?_
      refine mm_get X dX8_copy_128 0 35 (by decide) md_cf_0 rfl (by decide) uX8_copy_8 kX8_copy_4 rfl (v := .ref (a 28)) rfl ?_
      refine mm_iload X dX8_copy_131 6 rfl ?_
      refine mm_aload_n X dX8_copy_133 0 rfl ?_
      refine mm_get X dX8_copy_134 0 34 (by decide) md_cf_0 rfl (by decide) uX8_copy_8 kX8_copy_5 rfl (v := .ref (a 27)) rfl ?_
      refine mm_bipush X dX8_copy_137 (v := 60) (by decide) ?_
      refine mm_iload_n X dX8_copy_139 1 rfl ?_
      refine mm_imul X dX8_copy_140 ?_
      refine mm_iload_n X dX8_copy_141 2 rfl ?_
      refine mm_iadd X dX8_copy_142 ?_
      refine mm_iload X dX8_copy_143 6 rfl ?_
      refine mm_iadd X dX8_copy_145 ?_
      obtain ⟨hi2, h⟩ := mm_g_some h
      refine mm_iald X dX8_copy_146 27 0 (by decide) rfl rfl hi2 (v := (σ 27 ((((60 : Int32) * l1) + l2) + l6).toNatClampNeg)) rfl ?_
      obtain ⟨hi3, h⟩ := mm_g_some h
      refine mm_iast X dX8_copy_147 28 0 (by decide) (fun _ => rfl) rfl hi3 ?_
      refine mm_iinc X dX8_copy_148 6 rfl (v := (l6 + 1)) rfl (by decide) (lv2 := [(6, .int (l6 + 1)), (0, .ref (a 0)), (1, .int l1), (2, .int l2), (3, .int l3), (4, .int l4), (5, .int l5)]) rfl ?_
      refine mm_goto X dX8_copy_151 (tgt := 120) (by decide) ?_
      refine mm_loc [1, 2, 3, 4, 5, 6, 0] rfl ?_
      exact ih _ _ h
set_option maxRecDepth 100000 in
set_option maxHeartbeats 4000000 in
theorem tX8_copy_157 {l : Launch} {K : mm_K} {D : va_G} {cI cZ : ClassId} {a : Nat → Nat} (X : eC K rX8_copy cX8_copy 7 (some .int) wsX8_copy RX8 D cI cZ a) (hL : mm_L K l) (hJ : mm_J 29 a) {F : Nat} {l3 : Int32} {l4 : Int32} {l5 : Int32} {out : mm_M} (hx : eG K D cI cZ a out 192 [] []) : ∀ (k : Nat) (l6 : Int32) (σ : mm_M), fX8_copy_157 F l3 l4 l5 k l6 σ = some out → eG K D cI cZ a σ 157 [(0, .ref (a 0)), (3, .int l3), (4, .int l4), (5, .int l5), (6, .int l6)] [] := by
  intro k
  induction k with
  | zero =>
    intro l6 σ h
    have h : none = some out := h
    cases h
  | succ k ih =>
    intro l6 σ h
    rw [fX8_copy_157] at h
    refine mm_iload X dX8_copy_157 4 rfl ?_
    refine mm_iload X dX8_copy_159 3 rfl ?_
    refine mm_icmp_ge X dX8_copy_161 (tgt := 192) (by decide) (fun c1 => ?_) (fun c1 => ?_)
    · have h := (if_neg c1).symm.trans h
      obtain rfl := Option.some.inj h
      refine mm_loc [] rfl ?_
      exact hx
    · have h := (if_pos c1).symm.trans h
      refine mm_aload_n X dX8_copy_164 0 rfl ?_
      refine mm_get X dX8_copy_165 0 34 (by decide) md_cf_0 rfl (by decide) uX8_copy_8 kX8_copy_5 rfl (v := .ref (a 27)) rfl ?_
      refine mm_bipush X dX8_copy_168 (v := 60) (by decide) ?_
      refine mm_iload_n X dX8_copy_170 1 rfl ?_
      refine mm_imul X dX8_copy_171 ?_
      refine mm_iload X dX8_copy_172 2 rfl ?_
      refine mm_iadd X dX8_copy_174 ?_
      refine mm_iload X dX8_copy_175 4 rfl ?_
      refine mm_iadd X dX8_copy_177 ?_
      refine mm_aload_n X dX8_copy_178 0 rfl ?_
      refine mm_get X dX8_copy_179 0 35 (by decide) md_cf_0 rfl (by decide) uX8_copy_8 kX8_copy_4 rfl (v := .ref (a 28)) rfl ?_
      refine mm_iload X dX8_copy_182 4 rfl ?_
      obtain ⟨hi2, h⟩ := mm_g_some h
      refine mm_iald X dX8_copy_184 28 0 (by decide) rfl rfl hi2 (v := (σ 28 l6.toNatClampNeg)) rfl ?_
      obtain ⟨hi3, h⟩ := mm_g_some h
      refine mm_iast X dX8_copy_185 27 0 (by decide) (fun _ => rfl) rfl hi3 ?_
      refine mm_iinc X dX8_copy_186 4 rfl (v := (l6 + 1)) rfl (by decide) (lv2 := [(6, .int (l6 + 1)), (0, .ref (a 0)), (3, .int l3), (4, .int l4), (5, .int l5)]) rfl ?_
      refine mm_goto X dX8_copy_189 (tgt := 157) (by decide) ?_
      refine mm_loc [1, 2, 3, 4, 0] rfl ?_
      exact ih _ _ h
set_option maxRecDepth 100000 in
set_option maxHeartbeats 4000000 in
theorem mX8_copy {l : Launch} {D : va_G} {cI cZ : ClassId} {a : Nat → Nat} (hJ : mm_J 29 a) {F : Nat} {σ : mm_M} {p1 p2 p3 p4 p5 : Int32} {res : Int32 × mm_M} (h : fX8_copy F σ p1 p2 p3 p4 p5 = some res) (sz : Nat) : Met l yX8_copy wsX8_copy rX8_copy (eP D cI cZ a σ [.ref (a 0), .int p1, .int p2, .int p3, .int p4, .int p5] sz) (eQi D cI cZ a res.1 res.2 sz) 0 0 (mm_A 29 a sz) := by
  refine mm_met (fun sz => eQi D cI cZ a res.1 res.2 sz) (lv := [(0, .ref (a 0)), (1, .int p1), (2, .int p2), (3, .int p3), (4, .int p4), (5, .int p5)]) (ret := (some .int)) (cc := cX8_copy) (maxL := 7) (own := RX8) hJ (by decide +kernel) rfl rfl (Nat.le_of_ble_eq_true rfl) rfl ?_ sz
  intro K hL X hQ
  unfold fX8_copy at h
  refine mm_iload_n X dX8_copy_0 1 rfl ?_
  refine mm_callSi X dX8_copy_1 (As := [.int p1]) (rest := []) hL (mX8_isSheet hJ (res := fX8_isSheet p1) rfl) gX8_copy_X8_isSheet rfl ⟨rfl, rfl⟩ hyX8_isSheet ⟨Nat.le_of_ble_eq_true rfl, Nat.le_of_ble_eq_true rfl⟩ rfl (Nat.le_of_ble_eq_true rfl) ?_
  refine mm_if_eq X dX8_copy_4 (tgt := 14) (by decide) (fun c1 => ?_) (fun c1 => ?_)
  · have h := (if_pos c1).symm.trans h
    refine mm_bipush X dX8_copy_14 (v := -2) (by decide) ?_
    obtain rfl := Option.some.inj h
    exact mm_iret X dX8_copy_16 rfl hQ rfl
  · have h := (if_neg c1).symm.trans h
    refine mm_iload_n X dX8_copy_7 3 rfl ?_
    refine mm_callSi X dX8_copy_8 (As := [.int p3]) (rest := []) hL (mX8_isSheet hJ (res := fX8_isSheet p3) rfl) gX8_copy_X8_isSheet rfl ⟨rfl, rfl⟩ hyX8_isSheet ⟨Nat.le_of_ble_eq_true rfl, Nat.le_of_ble_eq_true rfl⟩ rfl (Nat.le_of_ble_eq_true rfl) ?_
    refine mm_if_ne X dX8_copy_11 (tgt := 17) (by decide) (fun c2 => ?_) (fun c2 => ?_)
    · have h := (if_neg c2).symm.trans h
      refine mm_aload_n X dX8_copy_17 0 rfl ?_
      refine mm_get X dX8_copy_18 0 31 (by decide) md_cf_0 rfl (by decide) uX8_copy_8 kX8_copy_1 rfl (v := .ref (a 24)) rfl ?_
      refine mm_iload_n X dX8_copy_21 1 rfl ?_
      obtain ⟨hi3, h⟩ := mm_g_some h
      refine mm_zald X dX8_copy_22 24 1 (by decide) rfl rfl hi3 (v := (σ 24 p1.toNatClampNeg)) rfl ?_
      refine mm_if_eq X dX8_copy_23 (tgt := 35) (by decide) (fun c4 => ?_) (fun c4 => ?_)
      · have h := (if_pos c4).symm.trans h
        refine mm_aload_n X dX8_copy_35 0 rfl ?_
        refine mm_iconst X dX8_copy_36 (v := 1) (by decide) ?_
        refine mm_callVi X dX8_copy_37 (As := [.int (1 : Int32)]) (rest := []) 0 (by decide) md_cf_0 rfl hL (mX8_meets hJ (res := fX8_meets σ (1 : Int32)) rfl) gX8_copy_X8_meets rfl ⟨rfl, rfl⟩ hyX8_meets ⟨Nat.le_of_ble_eq_true rfl, Nat.le_of_ble_eq_true rfl⟩ rfl (Nat.le_of_ble_eq_true rfl) ?_
        obtain rfl := Option.some.inj h
        exact mm_iret X dX8_copy_40 rfl hQ rfl
      · have h := (if_neg c4).symm.trans h
        refine mm_aload_n X dX8_copy_26 0 rfl ?_
        refine mm_get X dX8_copy_27 0 31 (by decide) md_cf_0 rfl (by decide) uX8_copy_8 kX8_copy_1 rfl (v := .ref (a 24)) rfl ?_
        refine mm_iload_n X dX8_copy_30 3 rfl ?_
        obtain ⟨hi5, h⟩ := mm_g_some h
        refine mm_zald X dX8_copy_31 24 1 (by decide) rfl rfl hi5 (v := (σ 24 p3.toNatClampNeg)) rfl ?_
        refine mm_if_ne X dX8_copy_32 (tgt := 41) (by decide) (fun c6 => ?_) (fun c6 => ?_)
        · have h := (if_neg c6).symm.trans h
          refine mm_aload_n X dX8_copy_41 0 rfl ?_
          refine mm_get X dX8_copy_42 0 32 (by decide) md_cf_0 rfl (by decide) uX8_copy_8 kX8_copy_2 rfl (v := .ref (a 25)) rfl ?_
          refine mm_iload_n X dX8_copy_45 1 rfl ?_
          obtain ⟨hi7, h⟩ := mm_g_some h
          refine mm_iald X dX8_copy_46 25 0 (by decide) rfl rfl hi7 (v := (σ 25 p1.toNatClampNeg)) rfl ?_
          refine mm_aload_n X dX8_copy_47 0 rfl ?_
          refine mm_get X dX8_copy_48 0 32 (by decide) md_cf_0 rfl (by decide) uX8_copy_8 kX8_copy_2 rfl (v := .ref (a 25)) rfl ?_
          refine mm_iload_n X dX8_copy_51 3 rfl ?_
          obtain ⟨hi8, h⟩ := mm_g_some h
          refine mm_iald X dX8_copy_52 25 0 (by decide) rfl rfl hi8 (v := (σ 25 p3.toNatClampNeg)) rfl ?_
          refine mm_icmp_eq X dX8_copy_53 (tgt := 62) (by decide) (fun c9 => ?_) (fun c9 => ?_)
          · have h := (if_pos c9).symm.trans h
            refine mm_iload_n X dX8_copy_62 2 rfl ?_
            refine mm_if_lt X dX8_copy_63 (tgt := 111) (by decide) (fun c10 => ?_) (fun c10 => ?_)
            · have h := (if_pos c10).symm.trans h
              refine mm_aload_n X dX8_copy_111 0 rfl ?_
              refine mm_iconst X dX8_copy_112 (v := 2) (by decide) ?_
              refine mm_callVi X dX8_copy_113 (As := [.int (2 : Int32)]) (rest := []) 0 (by decide) md_cf_0 rfl hL (mX8_meets hJ (res := fX8_meets σ (2 : Int32)) rfl) gX8_copy_X8_meets rfl ⟨rfl, rfl⟩ hyX8_meets ⟨Nat.le_of_ble_eq_true rfl, Nat.le_of_ble_eq_true rfl⟩ rfl (Nat.le_of_ble_eq_true rfl) ?_
              obtain rfl := Option.some.inj h
              exact mm_iret X dX8_copy_116 rfl hQ rfl
            · have h := (if_neg c10).symm.trans h
              refine mm_iload X dX8_copy_66 4 rfl ?_
              refine mm_if_lt X dX8_copy_68 (tgt := 111) (by decide) (fun c11 => ?_) (fun c11 => ?_)
              · have h := (if_pos c11).symm.trans h
                refine mm_aload_n X dX8_copy_111 0 rfl ?_
                refine mm_iconst X dX8_copy_112 (v := 2) (by decide) ?_
                refine mm_callVi X dX8_copy_113 (As := [.int (2 : Int32)]) (rest := []) 0 (by decide) md_cf_0 rfl hL (mX8_meets hJ (res := fX8_meets σ (2 : Int32)) rfl) gX8_copy_X8_meets rfl ⟨rfl, rfl⟩ hyX8_meets ⟨Nat.le_of_ble_eq_true rfl, Nat.le_of_ble_eq_true rfl⟩ rfl (Nat.le_of_ble_eq_true rfl) ?_
                obtain rfl := Option.some.inj h
                exact mm_iret X dX8_copy_116 rfl hQ rfl
              · have h := (if_neg c11).symm.trans h
                refine mm_iload X dX8_copy_71 5 rfl ?_
                refine mm_if_lt X dX8_copy_73 (tgt := 111) (by decide) (fun c12 => ?_) (fun c12 => ?_)
                · have h := (if_pos c12).symm.trans h
                  refine mm_aload_n X dX8_copy_111 0 rfl ?_
                  refine mm_iconst X dX8_copy_112 (v := 2) (by decide) ?_
                  refine mm_callVi X dX8_copy_113 (As := [.int (2 : Int32)]) (rest := []) 0 (by decide) md_cf_0 rfl hL (mX8_meets hJ (res := fX8_meets σ (2 : Int32)) rfl) gX8_copy_X8_meets rfl ⟨rfl, rfl⟩ hyX8_meets ⟨Nat.le_of_ble_eq_true rfl, Nat.le_of_ble_eq_true rfl⟩ rfl (Nat.le_of_ble_eq_true rfl) ?_
                  obtain rfl := Option.some.inj h
                  exact mm_iret X dX8_copy_116 rfl hQ rfl
                · have h := (if_neg c12).symm.trans h
                  refine mm_iload_n X dX8_copy_76 2 rfl ?_
                  refine mm_i2l X dX8_copy_77 ?_
                  refine mm_iload X dX8_copy_78 5 rfl ?_
                  refine mm_i2l X dX8_copy_80 ?_
                  refine mm_ladd X dX8_copy_81 ?_
                  refine mm_aload_n X dX8_copy_82 0 rfl ?_
                  refine mm_get X dX8_copy_83 0 33 (by decide) md_cf_0 rfl (by decide) uX8_copy_8 kX8_copy_3 rfl (v := .ref (a 26)) rfl ?_
                  refine mm_iload_n X dX8_copy_86 1 rfl ?_
                  obtain ⟨hi13, h⟩ := mm_g_some h
                  refine mm_iald X dX8_copy_87 26 0 (by decide) rfl rfl hi13 (v := (σ 26 p1.toNatClampNeg)) rfl ?_
                  refine mm_i2l X dX8_copy_88 ?_
                  refine mm_lcmp X dX8_copy_89 ?_
                  refine mm_if_gt X dX8_copy_90 (tgt := 111) (by decide) (fun c14 => ?_) (fun c14 => ?_)
                  · have h := (if_pos c14).symm.trans h
                    refine mm_aload_n X dX8_copy_111 0 rfl ?_
                    refine mm_iconst X dX8_copy_112 (v := 2) (by decide) ?_
                    refine mm_callVi X dX8_copy_113 (As := [.int (2 : Int32)]) (rest := []) 0 (by decide) md_cf_0 rfl hL (mX8_meets hJ (res := fX8_meets σ (2 : Int32)) rfl) gX8_copy_X8_meets rfl ⟨rfl, rfl⟩ hyX8_meets ⟨Nat.le_of_ble_eq_true rfl, Nat.le_of_ble_eq_true rfl⟩ rfl (Nat.le_of_ble_eq_true rfl) ?_
                    obtain rfl := Option.some.inj h
                    exact mm_iret X dX8_copy_116 rfl hQ rfl
                  · have h := (if_neg c14).symm.trans h
                    refine mm_iload X dX8_copy_93 4 rfl ?_
                    refine mm_i2l X dX8_copy_95 ?_
                    refine mm_iload X dX8_copy_96 5 rfl ?_
                    refine mm_i2l X dX8_copy_98 ?_
                    refine mm_ladd X dX8_copy_99 ?_
                    refine mm_aload_n X dX8_copy_100 0 rfl ?_
                    refine mm_get X dX8_copy_101 0 33 (by decide) md_cf_0 rfl (by decide) uX8_copy_8 kX8_copy_3 rfl (v := .ref (a 26)) rfl ?_
                    refine mm_iload_n X dX8_copy_104 3 rfl ?_
                    obtain ⟨hi15, h⟩ := mm_g_some h
                    refine mm_iald X dX8_copy_105 26 0 (by decide) rfl rfl hi15 (v := (σ 26 p3.toNatClampNeg)) rfl ?_
                    refine mm_i2l X dX8_copy_106 ?_
                    refine mm_lcmp X dX8_copy_107 ?_
                    refine mm_if_le X dX8_copy_108 (tgt := 117) (by decide) (fun c16 => ?_) (fun c16 => ?_)
                    · have h := (if_neg c16).symm.trans h
                      refine mm_iconst X dX8_copy_117 (v := 0) (by decide) ?_
                      refine mm_istore X dX8_copy_118 (by decide) (lv2 := [(6, .int (0 : Int32)), (0, .ref (a 0)), (1, .int p1), (2, .int p2), (3, .int p3), (4, .int p4), (5, .int p5)]) rfl ?_
                      obtain ⟨q17, hq17, h⟩ := Option.bind_eq_some_iff.mp h
                      refine mm_loc [1, 2, 3, 4, 5, 6, 0] rfl ?_
                      refine tX8_copy_120 X hL hJ ?_ F (0 : Int32) σ hq17
                      refine mm_iconst X dX8_copy_154 (v := 0) (by decide) ?_
                      refine mm_istore X dX8_copy_155 (by decide) (lv2 := [(6, .int (0 : Int32)), (0, .ref (a 0)), (3, .int p3), (4, .int p4), (5, .int p5)]) rfl ?_
                      obtain ⟨q18, hq18, h⟩ := Option.bind_eq_some_iff.mp h
                      refine mm_loc [1, 2, 3, 4, 0] rfl ?_
                      refine tX8_copy_157 X hL hJ ?_ F (0 : Int32) q17 hq18
                      refine mm_iconst X dX8_copy_192 (v := 1) (by decide) ?_
                      obtain rfl := Option.some.inj h
                      exact mm_iret X dX8_copy_193 rfl hQ rfl
                    · have h := (if_pos c16).symm.trans h
                      refine mm_aload_n X dX8_copy_111 0 rfl ?_
                      refine mm_iconst X dX8_copy_112 (v := 2) (by decide) ?_
                      refine mm_callVi X dX8_copy_113 (As := [.int (2 : Int32)]) (rest := []) 0 (by decide) md_cf_0 rfl hL (mX8_meets hJ (res := fX8_meets σ (2 : Int32)) rfl) gX8_copy_X8_meets rfl ⟨rfl, rfl⟩ hyX8_meets ⟨Nat.le_of_ble_eq_true rfl, Nat.le_of_ble_eq_true rfl⟩ rfl (Nat.le_of_ble_eq_true rfl) ?_
                      obtain rfl := Option.some.inj h
                      exact mm_iret X dX8_copy_116 rfl hQ rfl
          · have h := (if_neg c9).symm.trans h
            refine mm_aload_n X dX8_copy_56 0 rfl ?_
            refine mm_iconst X dX8_copy_57 (v := 4) (by decide) ?_
            refine mm_callVi X dX8_copy_58 (As := [.int (4 : Int32)]) (rest := []) 0 (by decide) md_cf_0 rfl hL (mX8_meets hJ (res := fX8_meets σ (4 : Int32)) rfl) gX8_copy_X8_meets rfl ⟨rfl, rfl⟩ hyX8_meets ⟨Nat.le_of_ble_eq_true rfl, Nat.le_of_ble_eq_true rfl⟩ rfl (Nat.le_of_ble_eq_true rfl) ?_
            obtain rfl := Option.some.inj h
            exact mm_iret X dX8_copy_61 rfl hQ rfl
        · have h := (if_pos c6).symm.trans h
          refine mm_aload_n X dX8_copy_35 0 rfl ?_
          refine mm_iconst X dX8_copy_36 (v := 1) (by decide) ?_
          refine mm_callVi X dX8_copy_37 (As := [.int (1 : Int32)]) (rest := []) 0 (by decide) md_cf_0 rfl hL (mX8_meets hJ (res := fX8_meets σ (1 : Int32)) rfl) gX8_copy_X8_meets rfl ⟨rfl, rfl⟩ hyX8_meets ⟨Nat.le_of_ble_eq_true rfl, Nat.le_of_ble_eq_true rfl⟩ rfl (Nat.le_of_ble_eq_true rfl) ?_
          obtain rfl := Option.some.inj h
          exact mm_iret X dX8_copy_40 rfl hQ rfl
    · have h := (if_pos c2).symm.trans h
      refine mm_bipush X dX8_copy_14 (v := -2) (by decide) ?_
      obtain rfl := Option.some.inj h
      exact mm_iret X dX8_copy_16 rfl hQ rfl
/-! LinenTunnelModel.list -/
def fX8_list_49 (F : Nat) (l1 : Int32) (l2 : Int32) (l3 : Int32) : Nat → Int32 → Int32 → mm_M → Option (Int32 × mm_M)
  | 0, _, _, _ => none
  | k + 1, l4, l5, σ => (if l5 < (σ 0 6) then mm_g 4 l1 ((if l4 < (σ 26 l1.toNatClampNeg) then (fX8_is σ l5 l2 (-1 : Int32) l3).bind fun q4 => ((if q4 = 0 then some (l4, σ) else (fX8_lay σ l1 l4 l5).bind fun q8 => some ((l4 + 1), q8))).bind fun q5 => fX8_list_49 F l1 l2 l3 k q5.1 (l5 + 1) q5.2 else some (l4, σ))) else some (l4, σ))
def fX8_list (F : Nat) (σ : mm_M) (p1 p2 p3 : Int32) : Option (Int32 × mm_M) := (if (fX8_isSheet p1) = 0 then some ((-2 : Int32), σ) else (if (fX8_in p2 (-1 : Int32) (5 : Int32)) = 0 then some ((-2 : Int32), σ) else (if (fX8_in p3 (0 : Int32) (4 : Int32)) = 0 then some ((-2 : Int32), σ) else mm_g 4 p1 ((if (σ 24 p1.toNatClampNeg) = 0 then some ((fX8_meets σ (1 : Int32)).1, (fX8_meets σ (1 : Int32)).2) else (fX8_list_49 F p1 p2 p3 F (0 : Int32) (0 : Int32) σ).bind fun q6 => some (q6.1, q6.2))))))
abbrev rX8_list : Room := { frames := 2, cells := 0, slots := 0, locals := 42 }
theorem hyX8_list : yX8_list.cls = RX8 ∧ yX8_list.cls ≠ "java/lang/invoke/MethodHandle" ∧ yX8_list.cls ≠ "java/lang/invoke/VarHandle" ∧ (parseMethodDescriptor yX8_list.desc).map (fun d => d.parameters.length) = some 3 := by decide +kernel
theorem kX8_list_1 : (Cond.fieldLink RX8 90 "LinenTunnelModel" "isThere" "[Z" : Cond) ∈ wsX8_list := List.mem_of_getElem? (i := 1) rfl
theorem uX8_list_8 : ∀ w ∈ u_ws RX8 TX8 37, w ∈ wsX8_list := fun _ h => (List.mem_cons_of_mem _ (List.mem_append_right _ h))
theorem kX8_list_2 : (Cond.fieldLink RX8 112 "LinenTunnelModel" "pieceMany" "I" : Cond) ∈ wsX8_list := List.mem_of_getElem? (i := 2) rfl
theorem kX8_list_3 : (Cond.fieldLink RX8 96 "LinenTunnelModel" "sizes" "[I" : Cond) ∈ wsX8_list := List.mem_of_getElem? (i := 3) rfl
set_option maxRecDepth 100000 in
set_option maxHeartbeats 4000000 in
theorem tX8_list_49 {l : Launch} {K : mm_K} {D : va_G} {cI cZ : ClassId} {a : Nat → Nat} (X : eC K rX8_list cX8_list 6 (some .int) wsX8_list RX8 D cI cZ a) (hL : mm_L K l) (hJ : mm_J 29 a) {F : Nat} {l1 : Int32} {l2 : Int32} {l3 : Int32} {out : Int32 × mm_M} (hx : eG K D cI cZ a out.2 99 [(4, .int out.1)] []) : ∀ (k : Nat) (l4 : Int32) (l5 : Int32) (σ : mm_M), fX8_list_49 F l1 l2 l3 k l4 l5 σ = some out → eG K D cI cZ a σ 49 [(0, .ref (a 0)), (1, .int l1), (2, .int l2), (3, .int l3), (4, .int l4), (5, .int l5)] [] := by
  intro k
  induction k with
  | zero =>
    intro l4 l5 σ h
    have h : none = some out := h
    cases h
  | succ k ih =>
    intro l4 l5 σ h
    rw [fX8_list_49] at h
    refine mm_iload X dX8_list_49 5 rfl ?_
    refine mm_aload_n X dX8_list_51 0 rfl ?_
    refine mm_get X dX8_list_52 0 6 (by decide) md_cf_0 rfl (by decide) uX8_list_8 kX8_list_2 rfl (v := .int (σ 0 6)) rfl ?_
    refine mm_icmp_ge X dX8_list_55 (tgt := 99) (by decide) (fun c1 => ?_) (fun c1 => ?_)
    · have h := (if_neg c1).symm.trans h
      obtain rfl := Option.some.inj h
      refine mm_loc [4] rfl ?_
      exact hx
    · have h := (if_pos c1).symm.trans h
      refine mm_iload X dX8_list_58 4 rfl ?_
      refine mm_aload_n X dX8_list_60 0 rfl ?_
      refine mm_get X dX8_list_61 0 33 (by decide) md_cf_0 rfl (by decide) uX8_list_8 kX8_list_3 rfl (v := .ref (a 26)) rfl ?_
      refine mm_iload_n X dX8_list_64 1 rfl ?_
      obtain ⟨hi2, h⟩ := mm_g_some h
      refine mm_iald X dX8_list_65 26 0 (by decide) rfl rfl hi2 (v := (σ 26 l1.toNatClampNeg)) rfl ?_
      refine mm_icmp_ge X dX8_list_66 (tgt := 99) (by decide) (fun c3 => ?_) (fun c3 => ?_)
      · have h := (if_neg c3).symm.trans h
        obtain rfl := Option.some.inj h
        refine mm_loc [4] rfl ?_
        exact hx
      · have h := (if_pos c3).symm.trans h
        refine mm_aload_n X dX8_list_69 0 rfl ?_
        refine mm_iload X dX8_list_70 5 rfl ?_
        refine mm_iload_n X dX8_list_72 2 rfl ?_
        refine mm_iconst X dX8_list_73 (v := -1) (by decide) ?_
        refine mm_iload_n X dX8_list_74 3 rfl ?_
        obtain ⟨q4, hq4, h⟩ := Option.bind_eq_some_iff.mp h
        refine mm_callVi X dX8_list_75 (As := [.int l5, .int l2, .int (-1 : Int32), .int l3]) (rest := []) 0 (by decide) md_cf_0 rfl hL (mX8_is hJ hq4) gX8_list_X8_is rfl ⟨rfl, rfl⟩ hyX8_is ⟨Nat.le_of_ble_eq_true rfl, Nat.le_of_ble_eq_true rfl⟩ rfl (Nat.le_of_ble_eq_true rfl) ?_
        obtain ⟨q5, hq5, h⟩ := Option.bind_eq_some_iff.mp h
        have J6 : eG K D cI cZ a q5.2 93 [(0, .ref (a 0)), (1, .int l1), (2, .int l2), (3, .int l3), (4, .int q5.1), (5, .int l5)] [] := by
          refine mm_iinc X dX8_list_93 5 rfl (v := (l5 + 1)) rfl (by decide) (lv2 := [(5, .int (l5 + 1)), (0, .ref (a 0)), (1, .int l1), (2, .int l2), (3, .int l3), (4, .int q5.1)]) rfl ?_
          refine mm_goto X dX8_list_96 (tgt := 49) (by decide) ?_
          refine mm_loc [1, 2, 3, 4, 5, 0] rfl ?_
          exact ih _ _ _ h
        have h := hq5
        refine mm_if_eq X dX8_list_78 (tgt := 93) (by decide) (fun c7 => ?_) (fun c7 => ?_)
        · have h := (if_pos c7).symm.trans h
          obtain rfl := Option.some.inj h
          exact J6
        · have h := (if_neg c7).symm.trans h
          refine mm_aload_n X dX8_list_81 0 rfl ?_
          refine mm_iload_n X dX8_list_82 1 rfl ?_
          refine mm_iload X dX8_list_83 4 rfl ?_
          refine mm_iload X dX8_list_85 5 rfl ?_
          obtain ⟨q8, hq8, h⟩ := Option.bind_eq_some_iff.mp h
          refine mm_callVv X dX8_list_87 (As := [.int l1, .int l4, .int l5]) (rest := []) 0 (by decide) md_cf_0 rfl hL (mX8_lay hJ hq8) gX8_list_X8_lay rfl ⟨rfl, rfl⟩ hyX8_lay ⟨Nat.le_of_ble_eq_true rfl, Nat.le_of_ble_eq_true rfl⟩ rfl (Nat.le_of_ble_eq_true rfl) ?_
          refine mm_iinc X dX8_list_90 4 rfl (v := (l4 + 1)) rfl (by decide) (lv2 := [(4, .int (l4 + 1)), (0, .ref (a 0)), (1, .int l1), (2, .int l2), (3, .int l3), (5, .int l5)]) rfl ?_
          obtain rfl := Option.some.inj h
          refine mm_loc [1, 2, 3, 4, 0, 5] rfl ?_
          exact J6
set_option maxRecDepth 100000 in
set_option maxHeartbeats 4000000 in
theorem mX8_list {l : Launch} {D : va_G} {cI cZ : ClassId} {a : Nat → Nat} (hJ : mm_J 29 a) {F : Nat} {σ : mm_M} {p1 p2 p3 : Int32} {res : Int32 × mm_M} (h : fX8_list F σ p1 p2 p3 = some res) (sz : Nat) : Met l yX8_list wsX8_list rX8_list (eP D cI cZ a σ [.ref (a 0), .int p1, .int p2, .int p3] sz) (eQi D cI cZ a res.1 res.2 sz) 0 0 (mm_A 29 a sz) := by
  refine mm_met (fun sz => eQi D cI cZ a res.1 res.2 sz) (lv := [(0, .ref (a 0)), (1, .int p1), (2, .int p2), (3, .int p3)]) (ret := (some .int)) (cc := cX8_list) (maxL := 6) (own := RX8) hJ (by decide +kernel) rfl rfl (Nat.le_of_ble_eq_true rfl) rfl ?_ sz
  intro K hL X hQ
  unfold fX8_list at h
  refine mm_iload_n X dX8_list_0 1 rfl ?_
  refine mm_callSi X dX8_list_1 (As := [.int p1]) (rest := []) hL (mX8_isSheet hJ (res := fX8_isSheet p1) rfl) gX8_list_X8_isSheet rfl ⟨rfl, rfl⟩ hyX8_isSheet ⟨Nat.le_of_ble_eq_true rfl, Nat.le_of_ble_eq_true rfl⟩ rfl (Nat.le_of_ble_eq_true rfl) ?_
  refine mm_if_eq X dX8_list_4 (tgt := 25) (by decide) (fun c1 => ?_) (fun c1 => ?_)
  · have h := (if_pos c1).symm.trans h
    refine mm_bipush X dX8_list_25 (v := -2) (by decide) ?_
    obtain rfl := Option.some.inj h
    exact mm_iret X dX8_list_27 rfl hQ rfl
  · have h := (if_neg c1).symm.trans h
    refine mm_iload_n X dX8_list_7 2 rfl ?_
    refine mm_iconst X dX8_list_8 (v := -1) (by decide) ?_
    refine mm_iconst X dX8_list_9 (v := 5) (by decide) ?_
    refine mm_callSi X dX8_list_10 (As := [.int p2, .int (-1 : Int32), .int (5 : Int32)]) (rest := []) hL (mX8_in hJ (res := fX8_in p2 (-1 : Int32) (5 : Int32)) rfl) gX8_list_X8_in rfl ⟨rfl, rfl⟩ hyX8_in ⟨Nat.le_of_ble_eq_true rfl, Nat.le_of_ble_eq_true rfl⟩ rfl (Nat.le_of_ble_eq_true rfl) ?_
    refine mm_if_eq X dX8_list_13 (tgt := 25) (by decide) (fun c2 => ?_) (fun c2 => ?_)
    · have h := (if_pos c2).symm.trans h
      refine mm_bipush X dX8_list_25 (v := -2) (by decide) ?_
      obtain rfl := Option.some.inj h
      exact mm_iret X dX8_list_27 rfl hQ rfl
    · have h := (if_neg c2).symm.trans h
      refine mm_iload_n X dX8_list_16 3 rfl ?_
      refine mm_iconst X dX8_list_17 (v := 0) (by decide) ?_
      refine mm_iconst X dX8_list_18 (v := 4) (by decide) ?_
      refine mm_callSi X dX8_list_19 (As := [.int p3, .int (0 : Int32), .int (4 : Int32)]) (rest := []) hL (mX8_in hJ (res := fX8_in p3 (0 : Int32) (4 : Int32)) rfl) gX8_list_X8_in rfl ⟨rfl, rfl⟩ hyX8_in ⟨Nat.le_of_ble_eq_true rfl, Nat.le_of_ble_eq_true rfl⟩ rfl (Nat.le_of_ble_eq_true rfl) ?_
      refine mm_if_ne X dX8_list_22 (tgt := 28) (by decide) (fun c3 => ?_) (fun c3 => ?_)
      · have h := (if_neg c3).symm.trans h
        refine mm_aload_n X dX8_list_28 0 rfl ?_
        refine mm_get X dX8_list_29 0 31 (by decide) md_cf_0 rfl (by decide) uX8_list_8 kX8_list_1 rfl (v := .ref (a 24)) rfl ?_
        refine mm_iload_n X dX8_list_32 1 rfl ?_
        obtain ⟨hi4, h⟩ := mm_g_some h
        refine mm_zald X dX8_list_33 24 1 (by decide) rfl rfl hi4 (v := (σ 24 p1.toNatClampNeg)) rfl ?_
        refine mm_if_ne X dX8_list_34 (tgt := 43) (by decide) (fun c5 => ?_) (fun c5 => ?_)
        · have h := (if_neg c5).symm.trans h
          refine mm_iconst X dX8_list_43 (v := 0) (by decide) ?_
          refine mm_istore X dX8_list_44 (by decide) (lv2 := [(4, .int (0 : Int32)), (0, .ref (a 0)), (1, .int p1), (2, .int p2), (3, .int p3)]) rfl ?_
          refine mm_iconst X dX8_list_46 (v := 0) (by decide) ?_
          refine mm_istore X dX8_list_47 (by decide) (lv2 := [(5, .int (0 : Int32)), (4, .int (0 : Int32)), (0, .ref (a 0)), (1, .int p1), (2, .int p2), (3, .int p3)]) rfl ?_
          obtain ⟨q6, hq6, h⟩ := Option.bind_eq_some_iff.mp h
          refine mm_loc [2, 3, 4, 5, 1, 0] rfl ?_
          refine tX8_list_49 X hL hJ ?_ F (0 : Int32) (0 : Int32) σ hq6
          refine mm_iload X dX8_list_99 0 rfl ?_
          obtain rfl := Option.some.inj h
          exact mm_iret X dX8_list_101 rfl hQ rfl
        · have h := (if_pos c5).symm.trans h
          refine mm_aload_n X dX8_list_37 0 rfl ?_
          refine mm_iconst X dX8_list_38 (v := 1) (by decide) ?_
          refine mm_callVi X dX8_list_39 (As := [.int (1 : Int32)]) (rest := []) 0 (by decide) md_cf_0 rfl hL (mX8_meets hJ (res := fX8_meets σ (1 : Int32)) rfl) gX8_list_X8_meets rfl ⟨rfl, rfl⟩ hyX8_meets ⟨Nat.le_of_ble_eq_true rfl, Nat.le_of_ble_eq_true rfl⟩ rfl (Nat.le_of_ble_eq_true rfl) ?_
          obtain rfl := Option.some.inj h
          exact mm_iret X dX8_list_42 rfl hQ rfl
      · have h := (if_pos c3).symm.trans h
        refine mm_bipush X dX8_list_25 (v := -2) (by decide) ?_
        obtain rfl := Option.some.inj h
        exact mm_iret X dX8_list_27 rfl hQ rfl
/-! LinenTunnelModel.count -/
def fX8_count (σ : mm_M) (p1 : Int32) : Int32 := (if p1 = 0 then (σ 0 0) else (if p1 = 1 then (σ 0 6) else (if p1 = 2 then (σ 0 13) else (if p1 = 3 then (σ 0 18) else (if p1 = 4 then (σ 0 19) else (if p1 = 5 then (σ 0 20) else (if p1 = 6 then (σ 0 36) else (if p1 = 7 then (σ 0 21) else (-2 : Int32)))))))))
abbrev rX8_count : Room := { frames := 0, cells := 0, slots := 0, locals := 0 }
theorem hyX8_count : yX8_count.cls = RX8 ∧ yX8_count.cls ≠ "java/lang/invoke/MethodHandle" ∧ yX8_count.cls ≠ "java/lang/invoke/VarHandle" ∧ (parseMethodDescriptor yX8_count.desc).map (fun d => d.parameters.length) = some 1 := by decide +kernel
theorem kX8_count_1 : (Cond.fieldLink RX8 105 "LinenTunnelModel" "kinds" "I" : Cond) ∈ wsX8_count := List.mem_of_getElem? (i := 1) rfl
theorem uX8_count_8 : ∀ w ∈ u_ws RX8 TX8 37, w ∈ wsX8_count := fun _ h => (List.mem_cons_of_mem _ (List.mem_append_right _ h))
theorem kX8_count_2 : (Cond.fieldLink RX8 112 "LinenTunnelModel" "pieceMany" "I" : Cond) ∈ wsX8_count := List.mem_of_getElem? (i := 2) rfl
theorem kX8_count_3 : (Cond.fieldLink RX8 133 "LinenTunnelModel" "batches" "I" : Cond) ∈ wsX8_count := List.mem_of_getElem? (i := 3) rfl
theorem kX8_count_4 : (Cond.fieldLink RX8 56 "LinenTunnelModel" "compartments" "I" : Cond) ∈ wsX8_count := List.mem_of_getElem? (i := 4) rfl
theorem kX8_count_5 : (Cond.fieldLink RX8 60 "LinenTunnelModel" "dryers" "I" : Cond) ∈ wsX8_count := List.mem_of_getElem? (i := 5) rfl
theorem kX8_count_6 : (Cond.fieldLink RX8 63 "LinenTunnelModel" "ironMany" "I" : Cond) ∈ wsX8_count := List.mem_of_getElem? (i := 6) rfl
theorem kX8_count_7 : (Cond.fieldLink RX8 172 "LinenTunnelModel" "finding" "I" : Cond) ∈ wsX8_count := List.mem_of_getElem? (i := 7) rfl
theorem kX8_count_8 : (Cond.fieldLink RX8 169 "LinenTunnelModel" "washMany" "I" : Cond) ∈ wsX8_count := List.mem_of_getElem? (i := 8) rfl
set_option maxRecDepth 100000 in
set_option maxHeartbeats 4000000 in
theorem mX8_count {l : Launch} {D : va_G} {cI cZ : ClassId} {a : Nat → Nat} (hJ : mm_J 29 a) {σ : mm_M} {p1 : Int32} {res : Int32} (h : fX8_count σ p1 = res) (sz : Nat) : Met l yX8_count wsX8_count rX8_count (eP D cI cZ a σ [.ref (a 0), .int p1] sz) (eQi D cI cZ a res σ sz) 0 0 (mm_A 29 a sz) := by
  refine mm_met (fun sz => eQi D cI cZ a res σ sz) (lv := [(0, .ref (a 0)), (1, .int p1)]) (ret := (some .int)) (cc := cX8_count) (maxL := 2) (own := RX8) hJ (by decide +kernel) rfl rfl (Nat.le_of_ble_eq_true rfl) rfl ?_ sz
  intro K hL X hQ
  unfold fX8_count at h
  refine mm_iload_n X dX8_count_0 1 rfl ?_
  by_cases c1 : p1 = 0
  · have h := (if_pos c1).symm.trans h
    refine mm_swIn X dX8_count_1 0 (by rw [c1]; decide) (by decide) (tgt := 48) (by rfl) (by decide) ?_
    refine mm_aload_n X dX8_count_48 0 rfl ?_
    refine mm_get X dX8_count_49 0 0 (by decide) md_cf_0 rfl (by decide) uX8_count_8 kX8_count_1 rfl (v := .int (σ 0 0)) rfl ?_
    subst h
    exact mm_iret X dX8_count_52 rfl hQ rfl
  have h := (if_neg c1).symm.trans h
  by_cases c2 : p1 = 1
  · have h := (if_pos c2).symm.trans h
    refine mm_swIn X dX8_count_1 1 (by rw [c2]; decide) (by decide) (tgt := 53) (by rfl) (by decide) ?_
    refine mm_aload_n X dX8_count_53 0 rfl ?_
    refine mm_get X dX8_count_54 0 6 (by decide) md_cf_0 rfl (by decide) uX8_count_8 kX8_count_2 rfl (v := .int (σ 0 6)) rfl ?_
    subst h
    exact mm_iret X dX8_count_57 rfl hQ rfl
  have h := (if_neg c2).symm.trans h
  by_cases c3 : p1 = 2
  · have h := (if_pos c3).symm.trans h
    refine mm_swIn X dX8_count_1 2 (by rw [c3]; decide) (by decide) (tgt := 58) (by rfl) (by decide) ?_
    refine mm_aload_n X dX8_count_58 0 rfl ?_
    refine mm_get X dX8_count_59 0 13 (by decide) md_cf_0 rfl (by decide) uX8_count_8 kX8_count_3 rfl (v := .int (σ 0 13)) rfl ?_
    subst h
    exact mm_iret X dX8_count_62 rfl hQ rfl
  have h := (if_neg c3).symm.trans h
  by_cases c4 : p1 = 3
  · have h := (if_pos c4).symm.trans h
    refine mm_swIn X dX8_count_1 3 (by rw [c4]; decide) (by decide) (tgt := 63) (by rfl) (by decide) ?_
    refine mm_aload_n X dX8_count_63 0 rfl ?_
    refine mm_get X dX8_count_64 0 18 (by decide) md_cf_0 rfl (by decide) uX8_count_8 kX8_count_4 rfl (v := .int (σ 0 18)) rfl ?_
    subst h
    exact mm_iret X dX8_count_67 rfl hQ rfl
  have h := (if_neg c4).symm.trans h
  by_cases c5 : p1 = 4
  · have h := (if_pos c5).symm.trans h
    refine mm_swIn X dX8_count_1 4 (by rw [c5]; decide) (by decide) (tgt := 68) (by rfl) (by decide) ?_
    refine mm_aload_n X dX8_count_68 0 rfl ?_
    refine mm_get X dX8_count_69 0 19 (by decide) md_cf_0 rfl (by decide) uX8_count_8 kX8_count_5 rfl (v := .int (σ 0 19)) rfl ?_
    subst h
    exact mm_iret X dX8_count_72 rfl hQ rfl
  have h := (if_neg c5).symm.trans h
  by_cases c6 : p1 = 5
  · have h := (if_pos c6).symm.trans h
    refine mm_swIn X dX8_count_1 5 (by rw [c6]; decide) (by decide) (tgt := 73) (by rfl) (by decide) ?_
    refine mm_aload_n X dX8_count_73 0 rfl ?_
    refine mm_get X dX8_count_74 0 20 (by decide) md_cf_0 rfl (by decide) uX8_count_8 kX8_count_6 rfl (v := .int (σ 0 20)) rfl ?_
    subst h
    exact mm_iret X dX8_count_77 rfl hQ rfl
  have h := (if_neg c6).symm.trans h
  by_cases c7 : p1 = 6
  · have h := (if_pos c7).symm.trans h
    refine mm_swIn X dX8_count_1 6 (by rw [c7]; decide) (by decide) (tgt := 78) (by rfl) (by decide) ?_
    refine mm_aload_n X dX8_count_78 0 rfl ?_
    refine mm_get X dX8_count_79 0 36 (by decide) md_cf_0 rfl (by decide) uX8_count_8 kX8_count_7 rfl (v := .int (σ 0 36)) rfl ?_
    subst h
    exact mm_iret X dX8_count_82 rfl hQ rfl
  have h := (if_neg c7).symm.trans h
  by_cases c8 : p1 = 7
  · have h := (if_pos c8).symm.trans h
    refine mm_swIn X dX8_count_1 7 (by rw [c8]; decide) (by decide) (tgt := 83) (by rfl) (by decide) ?_
    refine mm_aload_n X dX8_count_83 0 rfl ?_
    refine mm_get X dX8_count_84 0 21 (by decide) md_cf_0 rfl (by decide) uX8_count_8 kX8_count_8 rfl (v := .int (σ 0 21)) rfl ?_
    subst h
    exact mm_iret X dX8_count_87 rfl hQ rfl
  have h := (if_neg c8).symm.trans h
  have zc1 : ¬ (p1).toInt = (0 : Int) := lv_neT c1 (by decide)
  have zc2 : ¬ (p1).toInt = (1 : Int) := lv_neT c2 (by decide)
  have zc3 : ¬ (p1).toInt = (2 : Int) := lv_neT c3 (by decide)
  have zc4 : ¬ (p1).toInt = (3 : Int) := lv_neT c4 (by decide)
  have zc5 : ¬ (p1).toInt = (4 : Int) := lv_neT c5 (by decide)
  have zc6 : ¬ (p1).toInt = (5 : Int) := lv_neT c6 (by decide)
  have zc7 : ¬ (p1).toInt = (6 : Int) := lv_neT c7 (by decide)
  have zc8 : ¬ (p1).toInt = (7 : Int) := lv_neT c8 (by decide)
  refine mm_swOut X dX8_count_1 (by omega) (tgt := 88) (by decide) ?_
  refine mm_bipush X dX8_count_88 (v := -2) (by decide) ?_
  subst h
  exact mm_iret X dX8_count_90 rfl hQ rfl
/-! LinenTunnelModel.digest -/
def fX8_digest_6 (F : Nat) (σ : mm_M) : Nat → Int64 → Int32 → Option (Int64)
  | 0, _, _ => none
  | k + 1, l1, l3 => (if l3 < (8 : Int32) then fX8_digest_6 F σ k (if l3 = (6 : Int32) then l1 else (((31 : Int64) * l1) + (fX8_count σ l3).toInt64)) (l3 + 1) else some (l1))
def fX8_digest_54 (F : Nat) (σ : mm_M) (l3 : Int32) : Nat → Int64 → Int32 → Option (Int64)
  | 0, _, _ => none
  | k + 1, l1, l4 => (if l4 < (6 : Int32) then (fX8_about σ l3 l4).bind fun q2 => fX8_digest_54 F σ l3 k (((31 : Int64) * l1) + q2.toInt64) (l4 + 1) else some (l1))
def fX8_digest_43 (F : Nat) (σ : mm_M) : Nat → Int64 → Int32 → Option (Int64)
  | 0, _, _ => none
  | k + 1, l1, l3 => (if l3 < (σ 0 6) then (fX8_digest_54 F σ l3 F l1 (2 : Int32)).bind fun q2 => fX8_digest_43 F σ k q2 (l3 + 1) else some (l1))
def fX8_digest_90 (F : Nat) (σ : mm_M) : Nat → Int64 → Int32 → Option (Int64)
  | 0, _, _ => none
  | k + 1, l1, l3 => (if l3 < (σ 0 13) then mm_g 12 l3 (fX8_digest_90 F σ k (((31 : Int64) * l1) + (σ 15 l3.toNatClampNeg).toInt64) (l3 + 1)) else some (l1))
def fX8_digest_120 (F : Nat) (σ : mm_M) : Nat → Int64 → Int32 → Option (Int64)
  | 0, _, _ => none
  | k + 1, l1, l3 => (if l3 < (7 : Int32) then mm_g 7 l3 (fX8_digest_120 F σ k (((31 : Int64) * l1) + (σ 21 l3.toNatClampNeg).toInt64) (l3 + 1)) else some (l1))
def fX8_digest (F : Nat) (σ : mm_M) : Option (Int64) := (fX8_digest_6 F σ F (17 : Int64) (0 : Int32)).bind fun q1 => (fX8_digest_43 F σ F q1 (0 : Int32)).bind fun q2 => (fX8_digest_90 F σ F q2 (0 : Int32)).bind fun q3 => (fX8_digest_120 F σ F q3 (0 : Int32)).bind fun q4 => some q4
abbrev rX8_digest : Room := { frames := 3, cells := 0, slots := 0, locals := 65 }
theorem hyX8_digest : yX8_digest.cls = RX8 ∧ yX8_digest.cls ≠ "java/lang/invoke/MethodHandle" ∧ yX8_digest.cls ≠ "java/lang/invoke/VarHandle" ∧ (parseMethodDescriptor yX8_digest.desc).map (fun d => d.parameters.length) = some 0 := by decide +kernel
theorem kX8_digest_1 : (Cond.constantLong RX8 183 (17) : Cond) ∈ wsX8_digest := List.mem_of_getElem? (i := 1) rfl
theorem kX8_digest_2 : (Cond.constantLong RX8 185 (31) : Cond) ∈ wsX8_digest := List.mem_of_getElem? (i := 2) rfl
theorem kX8_digest_3 : (Cond.fieldLink RX8 112 "LinenTunnelModel" "pieceMany" "I" : Cond) ∈ wsX8_digest := List.mem_of_getElem? (i := 3) rfl
theorem uX8_digest_8 : ∀ w ∈ u_ws RX8 TX8 37, w ∈ wsX8_digest := fun _ h => (List.mem_cons_of_mem _ (List.mem_append_right _ h))
theorem kX8_digest_4 : (Cond.fieldLink RX8 133 "LinenTunnelModel" "batches" "I" : Cond) ∈ wsX8_digest := List.mem_of_getElem? (i := 4) rfl
theorem kX8_digest_5 : (Cond.fieldLink RX8 53 "LinenTunnelModel" "order" "[I" : Cond) ∈ wsX8_digest := List.mem_of_getElem? (i := 5) rfl
theorem kX8_digest_6 : (Cond.fieldLink RX8 81 "LinenTunnelModel" "washed" "[I" : Cond) ∈ wsX8_digest := List.mem_of_getElem? (i := 6) rfl
set_option maxRecDepth 100000 in
set_option maxHeartbeats 4000000 in
theorem tX8_digest_6 {l : Launch} {K : mm_K} {D : va_G} {cI cZ : ClassId} {a : Nat → Nat} (X : eC K rX8_digest cX8_digest 5 (some .long) wsX8_digest RX8 D cI cZ a) (hL : mm_L K l) (hJ : mm_J 29 a) {F : Nat} {σ : mm_M} {out : Int64} (hx : eG K D cI cZ a σ 41 [(0, .ref (a 0)), (1, .long out)] []) : ∀ (k : Nat) (l1 : Int64) (l3 : Int32), fX8_digest_6 F σ k l1 l3 = some out → eG K D cI cZ a σ 6 [(0, .ref (a 0)), (1, .long l1), (3, .int l3)] [] := by
  intro k
  induction k with
  | zero =>
    intro l1 l3 h
    have h : none = some out := h
    cases h
  | succ k ih =>
    intro l1 l3 h
    rw [fX8_digest_6] at h
    refine mm_iload_n X dX8_digest_6 2 rfl ?_
    refine mm_bipush X dX8_digest_7 (v := 8) (by decide) ?_
    refine mm_icmp_ge X dX8_digest_9 (tgt := 41) (by decide) (fun c1 => ?_) (fun c1 => ?_)
    · have h := (if_neg c1).symm.trans h
      obtain rfl := Option.some.inj h
      refine mm_loc [0, 1] rfl ?_
      exact hx
    · have h := (if_pos c1).symm.trans h
      refine mm_iload_n X dX8_digest_12 2 rfl ?_
      refine mm_bipush X dX8_digest_13 (v := 6) (by decide) ?_
      have J3 : ∀ (v2 : Int64), v2 = (if l3 = (6 : Int32) then l1 else (((31 : Int64) * l1) + (fX8_count σ l3).toInt64)) → eG K D cI cZ a σ 34 [(0, .ref (a 0)), (3, .int l3)] [.long v2] := by
        intro v2 ev2
        subst ev2
        refine mm_lstore_n X dX8_digest_34 (by decide) (lv2 := [(1, .long (if l3 = (6 : Int32) then l1 else (((31 : Int64) * l1) + (fX8_count σ l3).toInt64))), (0, .ref (a 0)), (3, .int l3)]) rfl ?_
        refine mm_iinc X dX8_digest_35 2 rfl (v := (l3 + 1)) rfl (by decide) (lv2 := [(3, .int (l3 + 1)), (1, .long (if l3 = (6 : Int32) then l1 else (((31 : Int64) * l1) + (fX8_count σ l3).toInt64))), (0, .ref (a 0))]) rfl ?_
        refine mm_goto X dX8_digest_38 (tgt := 6) (by decide) ?_
        refine mm_loc [2, 1, 0] rfl ?_
        exact ih _ _ h
      refine mm_icmp_ne X dX8_digest_15 (tgt := 22) (by decide) (fun c4 => ?_) (fun c4 => ?_)
      · refine mm_ldc2 X dX8_digest_22 kX8_digest_2 ?_
        refine mm_lload_n X dX8_digest_25 1 rfl ?_
        refine mm_lmul X dX8_digest_26 ?_
        refine mm_aload_n X dX8_digest_27 0 rfl ?_
        refine mm_iload_n X dX8_digest_28 2 rfl ?_
        refine mm_callVi X dX8_digest_29 (As := [.int l3]) (rest := [.long ((31 : Int64) * l1)]) 0 (by decide) md_cf_0 rfl hL (mX8_count hJ (res := fX8_count σ l3) rfl) gX8_digest_X8_count rfl ⟨rfl, rfl⟩ hyX8_count ⟨Nat.le_of_ble_eq_true rfl, Nat.le_of_ble_eq_true rfl⟩ rfl (Nat.le_of_ble_eq_true rfl) ?_
        refine mm_i2l X dX8_digest_32 ?_
        refine mm_ladd X dX8_digest_33 ?_
        refine mm_loc [0, 2] rfl ?_
        exact J3 _ (by rw [if_neg c4])
      · refine mm_lload_n X dX8_digest_18 1 rfl ?_
        refine mm_goto X dX8_digest_19 (tgt := 34) (by decide) ?_
        refine mm_loc [0, 2] rfl ?_
        exact J3 _ (by rw [if_pos c4])
set_option maxRecDepth 100000 in
set_option maxHeartbeats 4000000 in
theorem tX8_digest_54 {l : Launch} {K : mm_K} {D : va_G} {cI cZ : ClassId} {a : Nat → Nat} (X : eC K rX8_digest cX8_digest 5 (some .long) wsX8_digest RX8 D cI cZ a) (hL : mm_L K l) (hJ : mm_J 29 a) {F : Nat} {σ : mm_M} {l3 : Int32} {out : Int64} (hx : eG K D cI cZ a σ 82 [(0, .ref (a 0)), (1, .long out), (3, .int l3)] []) : ∀ (k : Nat) (l1 : Int64) (l4 : Int32), fX8_digest_54 F σ l3 k l1 l4 = some out → eG K D cI cZ a σ 54 [(0, .ref (a 0)), (1, .long l1), (3, .int l3), (4, .int l4)] [] := by
  intro k
  induction k with
  | zero =>
    intro l1 l4 h
    have h : none = some out := h
    cases h
  | succ k ih =>
    intro l1 l4 h
    rw [fX8_digest_54] at h
    refine mm_iload X dX8_digest_54 3 rfl ?_
    refine mm_bipush X dX8_digest_56 (v := 6) (by decide) ?_
    refine mm_icmp_ge X dX8_digest_58 (tgt := 82) (by decide) (fun c1 => ?_) (fun c1 => ?_)
    · have h := (if_neg c1).symm.trans h
      obtain rfl := Option.some.inj h
      refine mm_loc [0, 1, 2] rfl ?_
      exact hx
    · have h := (if_pos c1).symm.trans h
      refine mm_ldc2 X dX8_digest_61 kX8_digest_2 ?_
      refine mm_lload_n X dX8_digest_64 1 rfl ?_
      refine mm_lmul X dX8_digest_65 ?_
      refine mm_aload_n X dX8_digest_66 0 rfl ?_
      refine mm_iload_n X dX8_digest_67 2 rfl ?_
      refine mm_iload X dX8_digest_68 3 rfl ?_
      obtain ⟨q2, hq2, h⟩ := Option.bind_eq_some_iff.mp h
      refine mm_callVi X dX8_digest_70 (As := [.int l3, .int l4]) (rest := [.long ((31 : Int64) * l1)]) 0 (by decide) md_cf_0 rfl hL (mX8_about hJ hq2) gX8_digest_X8_about rfl ⟨rfl, rfl⟩ hyX8_about ⟨Nat.le_of_ble_eq_true rfl, Nat.le_of_ble_eq_true rfl⟩ rfl (Nat.le_of_ble_eq_true rfl) ?_
      refine mm_i2l X dX8_digest_73 ?_
      refine mm_ladd X dX8_digest_74 ?_
      refine mm_lstore_n X dX8_digest_75 (by decide) (lv2 := [(1, .long (((31 : Int64) * l1) + q2.toInt64)), (0, .ref (a 0)), (3, .int l3), (4, .int l4)]) rfl ?_
      refine mm_iinc X dX8_digest_76 3 rfl (v := (l4 + 1)) rfl (by decide) (lv2 := [(4, .int (l4 + 1)), (1, .long (((31 : Int64) * l1) + q2.toInt64)), (0, .ref (a 0)), (3, .int l3)]) rfl ?_
      refine mm_goto X dX8_digest_79 (tgt := 54) (by decide) ?_
      refine mm_loc [2, 1, 3, 0] rfl ?_
      exact ih _ _ h
set_option maxRecDepth 100000 in
set_option maxHeartbeats 4000000 in
theorem tX8_digest_43 {l : Launch} {K : mm_K} {D : va_G} {cI cZ : ClassId} {a : Nat → Nat} (X : eC K rX8_digest cX8_digest 5 (some .long) wsX8_digest RX8 D cI cZ a) (hL : mm_L K l) (hJ : mm_J 29 a) {F : Nat} {σ : mm_M} {out : Int64} (hx : eG K D cI cZ a σ 88 [(0, .ref (a 0)), (1, .long out)] []) : ∀ (k : Nat) (l1 : Int64) (l3 : Int32), fX8_digest_43 F σ k l1 l3 = some out → eG K D cI cZ a σ 43 [(0, .ref (a 0)), (1, .long l1), (3, .int l3)] [] := by
  intro k
  induction k with
  | zero =>
    intro l1 l3 h
    have h : none = some out := h
    cases h
  | succ k ih =>
    intro l1 l3 h
    rw [fX8_digest_43] at h
    refine mm_iload_n X dX8_digest_43 2 rfl ?_
    refine mm_aload_n X dX8_digest_44 0 rfl ?_
    refine mm_get X dX8_digest_45 0 6 (by decide) md_cf_0 rfl (by decide) uX8_digest_8 kX8_digest_3 rfl (v := .int (σ 0 6)) rfl ?_
    refine mm_icmp_ge X dX8_digest_48 (tgt := 88) (by decide) (fun c1 => ?_) (fun c1 => ?_)
    · have h := (if_neg c1).symm.trans h
      obtain rfl := Option.some.inj h
      refine mm_loc [0, 1] rfl ?_
      exact hx
    · have h := (if_pos c1).symm.trans h
      refine mm_iconst X dX8_digest_51 (v := 2) (by decide) ?_
      refine mm_istore X dX8_digest_52 (by decide) (lv2 := [(4, .int (2 : Int32)), (0, .ref (a 0)), (1, .long l1), (3, .int l3)]) rfl ?_
      obtain ⟨q2, hq2, h⟩ := Option.bind_eq_some_iff.mp h
      refine mm_loc [1, 2, 3, 0] rfl ?_
      refine tX8_digest_54 X hL hJ ?_ F l1 (2 : Int32) hq2
      refine mm_iinc X dX8_digest_82 2 rfl (v := (l3 + 1)) rfl (by decide) (lv2 := [(3, .int (l3 + 1)), (0, .ref (a 0)), (1, .long q2)]) rfl ?_
      refine mm_goto X dX8_digest_85 (tgt := 43) (by decide) ?_
      refine mm_loc [1, 2, 0] rfl ?_
      exact ih _ _ h
set_option maxRecDepth 100000 in
set_option maxHeartbeats 4000000 in
theorem tX8_digest_90 {l : Launch} {K : mm_K} {D : va_G} {cI cZ : ClassId} {a : Nat → Nat} (X : eC K rX8_digest cX8_digest 5 (some .long) wsX8_digest RX8 D cI cZ a) (hL : mm_L K l) (hJ : mm_J 29 a) {F : Nat} {σ : mm_M} {out : Int64} (hx : eG K D cI cZ a σ 118 [(0, .ref (a 0)), (1, .long out)] []) : ∀ (k : Nat) (l1 : Int64) (l3 : Int32), fX8_digest_90 F σ k l1 l3 = some out → eG K D cI cZ a σ 90 [(0, .ref (a 0)), (1, .long l1), (3, .int l3)] [] := by
  intro k
  induction k with
  | zero =>
    intro l1 l3 h
    have h : none = some out := h
    cases h
  | succ k ih =>
    intro l1 l3 h
    rw [fX8_digest_90] at h
    refine mm_iload_n X dX8_digest_90 2 rfl ?_
    refine mm_aload_n X dX8_digest_91 0 rfl ?_
    refine mm_get X dX8_digest_92 0 13 (by decide) md_cf_0 rfl (by decide) uX8_digest_8 kX8_digest_4 rfl (v := .int (σ 0 13)) rfl ?_
    refine mm_icmp_ge X dX8_digest_95 (tgt := 118) (by decide) (fun c1 => ?_) (fun c1 => ?_)
    · have h := (if_neg c1).symm.trans h
      obtain rfl := Option.some.inj h
      refine mm_loc [0, 1] rfl ?_
      exact hx
    · have h := (if_pos c1).symm.trans h
      refine mm_ldc2 X dX8_digest_98 kX8_digest_2 ?_
      refine mm_lload_n X dX8_digest_101 1 rfl ?_
      refine mm_lmul X dX8_digest_102 ?_
      refine mm_aload_n X dX8_digest_103 0 rfl ?_
      refine mm_get X dX8_digest_104 0 17 (by decide) md_cf_0 rfl (by decide) uX8_digest_8 kX8_digest_5 rfl (v := .ref (a 15)) rfl ?_
      refine mm_iload_n X dX8_digest_107 2 rfl ?_
      obtain ⟨hi2, h⟩ := mm_g_some h
      refine mm_iald X dX8_digest_108 15 0 (by decide) rfl rfl hi2 (v := (σ 15 l3.toNatClampNeg)) rfl ?_
      refine mm_i2l X dX8_digest_109 ?_
      refine mm_ladd X dX8_digest_110 ?_
      refine mm_lstore_n X dX8_digest_111 (by decide) (lv2 := [(1, .long (((31 : Int64) * l1) + (σ 15 l3.toNatClampNeg).toInt64)), (0, .ref (a 0)), (3, .int l3)]) rfl ?_
      refine mm_iinc X dX8_digest_112 2 rfl (v := (l3 + 1)) rfl (by decide) (lv2 := [(3, .int (l3 + 1)), (1, .long (((31 : Int64) * l1) + (σ 15 l3.toNatClampNeg).toInt64)), (0, .ref (a 0))]) rfl ?_
      refine mm_goto X dX8_digest_115 (tgt := 90) (by decide) ?_
      refine mm_loc [2, 1, 0] rfl ?_
      exact ih _ _ h
set_option maxRecDepth 100000 in
set_option maxHeartbeats 4000000 in
theorem tX8_digest_120 {l : Launch} {K : mm_K} {D : va_G} {cI cZ : ClassId} {a : Nat → Nat} (X : eC K rX8_digest cX8_digest 5 (some .long) wsX8_digest RX8 D cI cZ a) (hL : mm_L K l) (hJ : mm_J 29 a) {F : Nat} {σ : mm_M} {out : Int64} (hx : eG K D cI cZ a σ 146 [(1, .long out)] []) : ∀ (k : Nat) (l1 : Int64) (l3 : Int32), fX8_digest_120 F σ k l1 l3 = some out → eG K D cI cZ a σ 120 [(0, .ref (a 0)), (1, .long l1), (3, .int l3)] [] := by
  intro k
  induction k with
  | zero =>
    intro l1 l3 h
    have h : none = some out := h
    cases h
  | succ k ih =>
    intro l1 l3 h
    rw [fX8_digest_120] at h
    refine mm_iload_n X dX8_digest_120 2 rfl ?_
    refine mm_bipush X dX8_digest_121 (v := 7) (by decide) ?_
    refine mm_icmp_ge X dX8_digest_123 (tgt := 146) (by decide) (fun c1 => ?_) (fun c1 => ?_)
    · have h := (if_neg c1).symm.trans h
      obtain rfl := Option.some.inj h
      refine mm_loc [1] rfl ?_
      exact hx
    · have h := (if_pos c1).symm.trans h
      refine mm_ldc2 X dX8_digest_126 kX8_digest_2 ?_
      refine mm_lload_n X dX8_digest_129 1 rfl ?_
      refine mm_lmul X dX8_digest_130 ?_
      refine mm_aload_n X dX8_digest_131 0 rfl ?_
      refine mm_get X dX8_digest_132 0 27 (by decide) md_cf_0 rfl (by decide) uX8_digest_8 kX8_digest_6 rfl (v := .ref (a 21)) rfl ?_
      refine mm_iload_n X dX8_digest_135 2 rfl ?_
      obtain ⟨hi2, h⟩ := mm_g_some h
      refine mm_iald X dX8_digest_136 21 0 (by decide) rfl rfl hi2 (v := (σ 21 l3.toNatClampNeg)) rfl ?_
      refine mm_i2l X dX8_digest_137 ?_
      refine mm_ladd X dX8_digest_138 ?_
      refine mm_lstore_n X dX8_digest_139 (by decide) (lv2 := [(1, .long (((31 : Int64) * l1) + (σ 21 l3.toNatClampNeg).toInt64)), (0, .ref (a 0)), (3, .int l3)]) rfl ?_
      refine mm_iinc X dX8_digest_140 2 rfl (v := (l3 + 1)) rfl (by decide) (lv2 := [(3, .int (l3 + 1)), (1, .long (((31 : Int64) * l1) + (σ 21 l3.toNatClampNeg).toInt64)), (0, .ref (a 0))]) rfl ?_
      refine mm_goto X dX8_digest_143 (tgt := 120) (by decide) ?_
      refine mm_loc [2, 1, 0] rfl ?_
      exact ih _ _ h
set_option maxRecDepth 100000 in
set_option maxHeartbeats 4000000 in
theorem mX8_digest {l : Launch} {D : va_G} {cI cZ : ClassId} {a : Nat → Nat} (hJ : mm_J 29 a) {F : Nat} {σ : mm_M} {res : Int64} (h : fX8_digest F σ = some res) (sz : Nat) : Met l yX8_digest wsX8_digest rX8_digest (eP D cI cZ a σ [.ref (a 0)] sz) (eQl D cI cZ a res σ sz) 0 0 (mm_A 29 a sz) := by
  refine mm_met (fun sz => eQl D cI cZ a res σ sz) (lv := [(0, .ref (a 0))]) (ret := (some .long)) (cc := cX8_digest) (maxL := 5) (own := RX8) hJ (by decide +kernel) rfl rfl (Nat.le_of_ble_eq_true rfl) rfl ?_ sz
  intro K hL X hQ
  unfold fX8_digest at h
  refine mm_ldc2 X dX8_digest_0 kX8_digest_1 ?_
  refine mm_lstore_n X dX8_digest_3 (by decide) (lv2 := [(1, .long (17 : Int64)), (0, .ref (a 0))]) rfl ?_
  refine mm_iconst X dX8_digest_4 (v := 0) (by decide) ?_
  refine mm_istore_n X dX8_digest_5 (by decide) (lv2 := [(3, .int (0 : Int32)), (1, .long (17 : Int64)), (0, .ref (a 0))]) rfl ?_
  obtain ⟨q1, hq1, h⟩ := Option.bind_eq_some_iff.mp h
  refine mm_loc [2, 1, 0] rfl ?_
  refine tX8_digest_6 X hL hJ ?_ F (17 : Int64) (0 : Int32) hq1
  refine mm_iconst X dX8_digest_41 (v := 0) (by decide) ?_
  refine mm_istore_n X dX8_digest_42 (by decide) (lv2 := [(3, .int (0 : Int32)), (0, .ref (a 0)), (1, .long q1)]) rfl ?_
  obtain ⟨q2, hq2, h⟩ := Option.bind_eq_some_iff.mp h
  refine mm_loc [1, 2, 0] rfl ?_
  refine tX8_digest_43 X hL hJ ?_ F q1 (0 : Int32) hq2
  refine mm_iconst X dX8_digest_88 (v := 0) (by decide) ?_
  refine mm_istore_n X dX8_digest_89 (by decide) (lv2 := [(3, .int (0 : Int32)), (0, .ref (a 0)), (1, .long q2)]) rfl ?_
  obtain ⟨q3, hq3, h⟩ := Option.bind_eq_some_iff.mp h
  refine mm_loc [1, 2, 0] rfl ?_
  refine tX8_digest_90 X hL hJ ?_ F q2 (0 : Int32) hq3
  refine mm_iconst X dX8_digest_118 (v := 0) (by decide) ?_
  refine mm_istore_n X dX8_digest_119 (by decide) (lv2 := [(3, .int (0 : Int32)), (0, .ref (a 0)), (1, .long q3)]) rfl ?_
  obtain ⟨q4, hq4, h⟩ := Option.bind_eq_some_iff.mp h
  refine mm_loc [1, 2, 0] rfl ?_
  refine tX8_digest_120 X hL hJ ?_ F q3 (0 : Int32) hq4
  refine mm_lload_n X dX8_digest_146 0 rfl ?_
  obtain rfl := Option.some.inj h
  exact mm_lret X dX8_digest_147 rfl hQ rfl
