/-! LinenTunnelModel.waterNow -/
def fX8_waterNow_4 (F : Nat) (σ : mm_M) : Nat → Int32 → Int32 → Option (Int32)
  | 0, _, _ => none
  | k + 1, l1, l2 => (if l2 < (σ 0 18) then mm_g 10 l2 (((if (σ 18 l2.toNatClampNeg) = (-1 : Int32) then some (l1) else ((if (l2 + (1 : Int32)) < (σ 0 18) then mm_g 10 (l2 + (1 : Int32)) ((if (σ 18 (l2 + (1 : Int32)).toNatClampNeg) = (-1 : Int32) then some ((0 : Int32)) else mm_g 10 (l2 + (1 : Int32)) ((fX8_kindAt σ (σ 18 (l2 + (1 : Int32)).toNatClampNeg)).bind fun q12 => mm_g 8 q12 (mm_g 10 l2 ((fX8_kindAt σ (σ 18 l2.toNatClampNeg)).bind fun q15 => mm_g 8 q15 ((if (σ 2 q15.toNatClampNeg) < (σ 2 q12.toNatClampNeg) then some ((0 : Int32)) else some ((1 : Int32))))))))) else some ((0 : Int32)))).bind fun q6 => ((if q6 = 0 then mm_g 10 l2 (mm_g 12 (σ 18 l2.toNatClampNeg) (mm_g 12 (σ 15 (σ 18 l2.toNatClampNeg).toNatClampNeg) (some (((10 : Int32) * (σ 13 (σ 15 (σ 18 l2.toNatClampNeg).toNatClampNeg).toNatClampNeg)))))) else some ((0 : Int32)))).bind fun q18 => some ((l1 + q18)))).bind fun q3 => fX8_waterNow_4 F σ k q3 (l2 + 1)) else some (l1))
def fX8_waterNow (F : Nat) (σ : mm_M) : Option (Int32) := (fX8_waterNow_4 F σ F (0 : Int32) (0 : Int32)).bind fun q1 => some q1
abbrev rX8_waterNow : Room := { frames := 1, cells := 0, slots := 0, locals := 21 }
theorem hyX8_waterNow : yX8_waterNow.cls = RX8 ∧ yX8_waterNow.cls ≠ "java/lang/invoke/MethodHandle" ∧ yX8_waterNow.cls ≠ "java/lang/invoke/VarHandle" ∧ (parseMethodDescriptor yX8_waterNow.desc).map (fun d => d.parameters.length) = some 0 := by decide +kernel
theorem kX8_waterNow_1 : (Cond.fieldLink RX8 56 "LinenTunnelModel" "compartments" "I" : Cond) ∈ wsX8_waterNow := List.mem_of_getElem? (i := 1) rfl
theorem uX8_waterNow_8 : ∀ w ∈ u_ws RX8 TX8 37, w ∈ wsX8_waterNow := fun _ h => (List.mem_cons_of_mem _ (List.mem_append_right _ h))
theorem kX8_waterNow_2 : (Cond.fieldLink RX8 72 "LinenTunnelModel" "inside" "[I" : Cond) ∈ wsX8_waterNow := List.mem_of_getElem? (i := 2) rfl
theorem kX8_waterNow_3 : (Cond.fieldLink RX8 13 "LinenTunnelModel" "colours" "[I" : Cond) ∈ wsX8_waterNow := List.mem_of_getElem? (i := 3) rfl
theorem kX8_waterNow_4 : (Cond.fieldLink RX8 47 "LinenTunnelModel" "batchMany" "[I" : Cond) ∈ wsX8_waterNow := List.mem_of_getElem? (i := 4) rfl
theorem kX8_waterNow_5 : (Cond.fieldLink RX8 53 "LinenTunnelModel" "order" "[I" : Cond) ∈ wsX8_waterNow := List.mem_of_getElem? (i := 5) rfl
set_option maxRecDepth 100000 in
set_option maxHeartbeats 4000000 in
theorem tX8_waterNow_4 {l : Launch} {K : mm_K} {D : va_G} {cI cZ : ClassId} {a : Nat → Nat} (X : eC K rX8_waterNow cX8_waterNow 4 (some .int) wsX8_waterNow RX8 D cI cZ a) (hL : mm_L K l) (hJ : mm_J 29 a) {F : Nat} {σ : mm_M} {out : Int32} (hx : eG K D cI cZ a σ 121 [(1, .int out)] []) : ∀ (k : Nat) (l1 : Int32) (l2 : Int32), fX8_waterNow_4 F σ k l1 l2 = some out → eG K D cI cZ a σ 4 [(0, .ref (a 0)), (1, .int l1), (2, .int l2)] [] := by
  intro k
  induction k with
  | zero =>
    intro l1 l2 h
    have h : none = some out := h
    cases h
  | succ k ih =>
    intro l1 l2 h
    rw [fX8_waterNow_4] at h
    refine mm_iload_n X dX8_waterNow_4 2 rfl ?_
    refine mm_aload_n X dX8_waterNow_5 0 rfl ?_
    refine mm_get X dX8_waterNow_6 0 18 (by decide) md_cf_0 rfl (by decide) uX8_waterNow_8 kX8_waterNow_1 rfl (v := .int (σ 0 18)) rfl ?_
    refine mm_icmp_ge X dX8_waterNow_9 (tgt := 121) (by decide) (fun c1 => ?_) (fun c1 => ?_)
    · have h := (if_neg c1).symm.trans h
      obtain rfl := Option.some.inj h
      refine mm_loc [1] rfl ?_
      exact hx
    · have h := (if_pos c1).symm.trans h
      refine mm_aload_n X dX8_waterNow_12 0 rfl ?_
      refine mm_get X dX8_waterNow_13 0 24 (by decide) md_cf_0 rfl (by decide) uX8_waterNow_8 kX8_waterNow_2 rfl (v := .ref (a 18)) rfl ?_
      refine mm_iload_n X dX8_waterNow_16 2 rfl ?_
      obtain ⟨hi2, h⟩ := mm_g_some h
      refine mm_iald X dX8_waterNow_17 18 0 (by decide) rfl rfl hi2 (v := (σ 18 l2.toNatClampNeg)) rfl ?_
      refine mm_iconst X dX8_waterNow_18 (v := -1) (by decide) ?_
      obtain ⟨q3, hq3, h⟩ := Option.bind_eq_some_iff.mp h
      have J4 : eG K D cI cZ a σ 115 [(0, .ref (a 0)), (1, .int q3), (2, .int l2)] [] := by
        refine mm_iinc X dX8_waterNow_115 2 rfl (v := (l2 + 1)) rfl (by decide) (lv2 := [(2, .int (l2 + 1)), (0, .ref (a 0)), (1, .int q3)]) rfl ?_
        refine mm_goto X dX8_waterNow_118 (tgt := 4) (by decide) ?_
        refine mm_loc [1, 2, 0] rfl ?_
        exact ih _ _ h
      have h := hq3
      refine mm_icmp_eq X dX8_waterNow_19 (tgt := 115) (by decide) (fun c5 => ?_) (fun c5 => ?_)
      · have h := (if_pos c5).symm.trans h
        obtain rfl := Option.some.inj h
        exact J4
      · have h := (if_neg c5).symm.trans h
        refine mm_iload_n X dX8_waterNow_22 2 rfl ?_
        refine mm_iconst X dX8_waterNow_23 (v := 1) (by decide) ?_
        refine mm_iadd X dX8_waterNow_24 ?_
        refine mm_aload_n X dX8_waterNow_25 0 rfl ?_
        refine mm_get X dX8_waterNow_26 0 18 (by decide) md_cf_0 rfl (by decide) uX8_waterNow_8 kX8_waterNow_1 rfl (v := .int (σ 0 18)) rfl ?_
        obtain ⟨q6, hq6, h⟩ := Option.bind_eq_some_iff.mp h
        have J7 : eG K D cI cZ a σ 84 [(0, .ref (a 0)), (1, .int l1), (2, .int l2)] [.int q6] := by
          refine mm_istore_n X dX8_waterNow_84 (by decide) (lv2 := [(3, .int q6), (0, .ref (a 0)), (1, .int l1), (2, .int l2)]) rfl ?_
          refine mm_iload_n X dX8_waterNow_85 2 rfl ?_
          refine mm_iload_n X dX8_waterNow_86 0 rfl ?_
          obtain ⟨q18, hq18, h⟩ := Option.bind_eq_some_iff.mp h
          have J19 : eG K D cI cZ a σ 113 [(0, .ref (a 0)), (2, .int l2)] [.int q18, .int l1] := by
            refine mm_iadd X dX8_waterNow_113 ?_
            refine mm_istore_n X dX8_waterNow_114 (by decide) (lv2 := [(1, .int (l1 + q18)), (0, .ref (a 0)), (2, .int l2)]) rfl ?_
            obtain rfl := Option.some.inj h
            refine mm_loc [1, 0, 2] rfl ?_
            exact J4
          have h := hq18
          refine mm_if_eq X dX8_waterNow_87 (tgt := 94) (by decide) (fun c20 => ?_) (fun c20 => ?_)
          · have h := (if_pos c20).symm.trans h
            refine mm_bipush X dX8_waterNow_94 (v := 10) (by decide) ?_
            refine mm_aload_n X dX8_waterNow_96 1 rfl ?_
            refine mm_get X dX8_waterNow_97 0 15 (by decide) md_cf_0 rfl (by decide) uX8_waterNow_8 kX8_waterNow_4 rfl (v := .ref (a 13)) rfl ?_
            refine mm_aload_n X dX8_waterNow_100 1 rfl ?_
            refine mm_get X dX8_waterNow_101 0 17 (by decide) md_cf_0 rfl (by decide) uX8_waterNow_8 kX8_waterNow_5 rfl (v := .ref (a 15)) rfl ?_
            refine mm_aload_n X dX8_waterNow_104 1 rfl ?_
            refine mm_get X dX8_waterNow_105 0 24 (by decide) md_cf_0 rfl (by decide) uX8_waterNow_8 kX8_waterNow_2 rfl (v := .ref (a 18)) rfl ?_
            refine mm_iload_n X dX8_waterNow_108 3 rfl ?_
            obtain ⟨hi21, h⟩ := mm_g_some h
            refine mm_iald X dX8_waterNow_109 18 0 (by decide) rfl rfl hi21 (v := (σ 18 l2.toNatClampNeg)) rfl ?_
            obtain ⟨hi22, h⟩ := mm_g_some h
            refine mm_iald X dX8_waterNow_110 15 0 (by decide) rfl rfl hi22 (v := (σ 15 (σ 18 l2.toNatClampNeg).toNatClampNeg)) rfl ?_
            obtain ⟨hi23, h⟩ := mm_g_some h
            refine mm_iald X dX8_waterNow_111 13 0 (by decide) rfl rfl hi23 (v := (σ 13 (σ 15 (σ 18 l2.toNatClampNeg).toNatClampNeg).toNatClampNeg)) rfl ?_
            refine mm_imul X dX8_waterNow_112 ?_
            obtain rfl := Option.some.inj h
            refine mm_loc [1, 3] rfl ?_
            exact J19
          · have h := (if_neg c20).symm.trans h
            refine mm_iconst X dX8_waterNow_90 (v := 0) (by decide) ?_
            refine mm_goto X dX8_waterNow_91 (tgt := 113) (by decide) ?_
            obtain rfl := Option.some.inj h
            refine mm_loc [1, 3] rfl ?_
            exact J19
        have h := hq6
        refine mm_icmp_ge X dX8_waterNow_29 (tgt := 83) (by decide) (fun c8 => ?_) (fun c8 => ?_)
        · have h := (if_neg c8).symm.trans h
          refine mm_iconst X dX8_waterNow_83 (v := 0) (by decide) ?_
          obtain rfl := Option.some.inj h
          exact J7
        · have h := (if_pos c8).symm.trans h
          refine mm_aload_n X dX8_waterNow_32 0 rfl ?_
          refine mm_get X dX8_waterNow_33 0 24 (by decide) md_cf_0 rfl (by decide) uX8_waterNow_8 kX8_waterNow_2 rfl (v := .ref (a 18)) rfl ?_
          refine mm_iload_n X dX8_waterNow_36 2 rfl ?_
          refine mm_iconst X dX8_waterNow_37 (v := 1) (by decide) ?_
          refine mm_iadd X dX8_waterNow_38 ?_
          obtain ⟨hi9, h⟩ := mm_g_some h
          refine mm_iald X dX8_waterNow_39 18 0 (by decide) rfl rfl hi9 (v := (σ 18 (l2 + (1 : Int32)).toNatClampNeg)) rfl ?_
          refine mm_iconst X dX8_waterNow_40 (v := -1) (by decide) ?_
          refine mm_icmp_eq X dX8_waterNow_41 (tgt := 83) (by decide) (fun c10 => ?_) (fun c10 => ?_)
          · have h := (if_pos c10).symm.trans h
            refine mm_iconst X dX8_waterNow_83 (v := 0) (by decide) ?_
            obtain rfl := Option.some.inj h
            exact J7
          · have h := (if_neg c10).symm.trans h
            refine mm_aload_n X dX8_waterNow_44 0 rfl ?_
            refine mm_get X dX8_waterNow_45 0 2 (by decide) md_cf_0 rfl (by decide) uX8_waterNow_8 kX8_waterNow_3 rfl (v := .ref (a 2)) rfl ?_
            refine mm_aload_n X dX8_waterNow_48 0 rfl ?_
            refine mm_aload_n X dX8_waterNow_49 0 rfl ?_
            refine mm_get X dX8_waterNow_50 0 24 (by decide) md_cf_0 rfl (by decide) uX8_waterNow_8 kX8_waterNow_2 rfl (v := .ref (a 18)) rfl ?_
            refine mm_iload_n X dX8_waterNow_53 2 rfl ?_
            refine mm_iconst X dX8_waterNow_54 (v := 1) (by decide) ?_
            refine mm_iadd X dX8_waterNow_55 ?_
            obtain ⟨hi11, h⟩ := mm_g_some h
            refine mm_iald X dX8_waterNow_56 18 0 (by decide) rfl rfl hi11 (v := (σ 18 (l2 + (1 : Int32)).toNatClampNeg)) rfl ?_
            obtain ⟨q12, hq12, h⟩ := Option.bind_eq_some_iff.mp h
            refine mm_callVi X dX8_waterNow_57 (As := [.int (σ 18 (l2 + (1 : Int32)).toNatClampNeg)]) (rest := [.ref (a 2)]) 0 (by decide) md_cf_0 rfl hL (mX8_kindAt hJ hq12) gX8_waterNow_X8_kindAt rfl ⟨rfl, rfl⟩ hyX8_kindAt ⟨Nat.le_of_ble_eq_true rfl, Nat.le_of_ble_eq_true rfl⟩ rfl (Nat.le_of_ble_eq_true rfl) ?_
            obtain ⟨hi13, h⟩ := mm_g_some h
            refine mm_iald X dX8_waterNow_60 2 0 (by decide) rfl rfl hi13 (v := (σ 2 q12.toNatClampNeg)) rfl ?_
            refine mm_aload_n X dX8_waterNow_61 0 rfl ?_
            refine mm_get X dX8_waterNow_62 0 2 (by decide) md_cf_0 rfl (by decide) uX8_waterNow_8 kX8_waterNow_3 rfl (v := .ref (a 2)) rfl ?_
            refine mm_aload_n X dX8_waterNow_65 0 rfl ?_
            refine mm_aload_n X dX8_waterNow_66 0 rfl ?_
            refine mm_get X dX8_waterNow_67 0 24 (by decide) md_cf_0 rfl (by decide) uX8_waterNow_8 kX8_waterNow_2 rfl (v := .ref (a 18)) rfl ?_
            refine mm_iload_n X dX8_waterNow_70 2 rfl ?_
            obtain ⟨hi14, h⟩ := mm_g_some h
            refine mm_iald X dX8_waterNow_71 18 0 (by decide) rfl rfl hi14 (v := (σ 18 l2.toNatClampNeg)) rfl ?_
            obtain ⟨q15, hq15, h⟩ := Option.bind_eq_some_iff.mp h
            refine mm_callVi X dX8_waterNow_72 (As := [.int (σ 18 l2.toNatClampNeg)]) (rest := [.ref (a 2), .int (σ 2 q12.toNatClampNeg)]) 0 (by decide) md_cf_0 rfl hL (mX8_kindAt hJ hq15) gX8_waterNow_X8_kindAt rfl ⟨rfl, rfl⟩ hyX8_kindAt ⟨Nat.le_of_ble_eq_true rfl, Nat.le_of_ble_eq_true rfl⟩ rfl (Nat.le_of_ble_eq_true rfl) ?_
            obtain ⟨hi16, h⟩ := mm_g_some h
            refine mm_iald X dX8_waterNow_75 2 0 (by decide) rfl rfl hi16 (v := (σ 2 q15.toNatClampNeg)) rfl ?_
            refine mm_icmp_gt X dX8_waterNow_76 (tgt := 83) (by decide) (fun c17 => ?_) (fun c17 => ?_)
            · have h := (if_pos c17).symm.trans h
              refine mm_iconst X dX8_waterNow_83 (v := 0) (by decide) ?_
              obtain rfl := Option.some.inj h
              exact J7
            · have h := (if_neg c17).symm.trans h
              refine mm_iconst X dX8_waterNow_79 (v := 1) (by decide) ?_
              refine mm_goto X dX8_waterNow_80 (tgt := 84) (by decide) ?_
              obtain rfl := Option.some.inj h
              exact J7
set_option maxRecDepth 100000 in
set_option maxHeartbeats 4000000 in
theorem mX8_waterNow {l : Launch} {D : va_G} {cI cZ : ClassId} {a : Nat → Nat} (hJ : mm_J 29 a) {F : Nat} {σ : mm_M} {res : Int32} (h : fX8_waterNow F σ = some res) (sz : Nat) : Met l yX8_waterNow wsX8_waterNow rX8_waterNow (eP D cI cZ a σ [.ref (a 0)] sz) (eQi D cI cZ a res σ sz) 0 0 (mm_A 29 a sz) := by
  refine mm_met (fun sz => eQi D cI cZ a res σ sz) (lv := [(0, .ref (a 0))]) (ret := (some .int)) (cc := cX8_waterNow) (maxL := 4) (own := RX8) hJ (by decide +kernel) rfl rfl (Nat.le_of_ble_eq_true rfl) rfl ?_ sz
  intro K hL X hQ
  unfold fX8_waterNow at h
  refine mm_iconst X dX8_waterNow_0 (v := 0) (by decide) ?_
  refine mm_istore_n X dX8_waterNow_1 (by decide) (lv2 := [(1, .int (0 : Int32)), (0, .ref (a 0))]) rfl ?_
  refine mm_iconst X dX8_waterNow_2 (v := 0) (by decide) ?_
  refine mm_istore_n X dX8_waterNow_3 (by decide) (lv2 := [(2, .int (0 : Int32)), (1, .int (0 : Int32)), (0, .ref (a 0))]) rfl ?_
  obtain ⟨q1, hq1, h⟩ := Option.bind_eq_some_iff.mp h
  refine mm_loc [2, 1, 0] rfl ?_
  refine tX8_waterNow_4 X hL hJ ?_ F (0 : Int32) (0 : Int32) hq1
  refine mm_iload_n X dX8_waterNow_121 0 rfl ?_
  obtain rfl := Option.some.inj h
  exact mm_iret X dX8_waterNow_122 rfl hQ rfl
/-! LinenTunnelModel.goesOut -/
def fX8_goesOut (F : Nat) (σ : mm_M) (p1 p2 p3 : Int32) : Option (mm_M) := (fX8_kindAt σ p1).bind fun q1 => mm_g 8 q1 (mm_g 84 (((7 : Int32) * p1) + (2 : Int32)) (mm_g 84 (((7 : Int32) * p1) + (3 : Int32)) (mm_g 84 (((7 : Int32) * p1) + (4 : Int32)) (((if 0 < (σ 4 q1.toNatClampNeg) then (fX8_dryerAt F (mm_up (mm_up (mm_up σ 22 (((7 : Int32) * p1) + (2 : Int32)).toNatClampNeg p2) 22 (((7 : Int32) * p1) + (3 : Int32)).toNatClampNeg (-1 : Int32)) 22 (((7 : Int32) * p1) + (4 : Int32)).toNatClampNeg p2) p2).bind fun q9 => mm_g 4 q9 (mm_g 84 (((7 : Int32) * p1) + (3 : Int32)) (mm_g 84 (((7 : Int32) * p1) + (4 : Int32)) (some ((mm_up (mm_up (mm_up (mm_up (mm_up (mm_up σ 22 (((7 : Int32) * p1) + (2 : Int32)).toNatClampNeg p2) 22 (((7 : Int32) * p1) + (3 : Int32)).toNatClampNeg (-1 : Int32)) 22 (((7 : Int32) * p1) + (4 : Int32)).toNatClampNeg p2) 19 q9.toNatClampNeg (p2 + (σ 4 q1.toNatClampNeg))) 22 (((7 : Int32) * p1) + (3 : Int32)).toNatClampNeg q9) 22 (((7 : Int32) * p1) + (4 : Int32)).toNatClampNeg (p2 + (σ 4 q1.toNatClampNeg))))))) else some ((mm_up (mm_up (mm_up σ 22 (((7 : Int32) * p1) + (2 : Int32)).toNatClampNeg p2) 22 (((7 : Int32) * p1) + (3 : Int32)).toNatClampNeg (-1 : Int32)) 22 (((7 : Int32) * p1) + (4 : Int32)).toNatClampNeg p2)))).bind fun q6 => mm_g 12 p3 (some (mm_up q6 23 p3.toNatClampNeg p1))))))
abbrev rX8_goesOut : Room := { frames := 1, cells := 0, slots := 0, locals := 22 }
theorem hyX8_goesOut : yX8_goesOut.cls = RX8 ∧ yX8_goesOut.cls ≠ "java/lang/invoke/MethodHandle" ∧ yX8_goesOut.cls ≠ "java/lang/invoke/VarHandle" ∧ (parseMethodDescriptor yX8_goesOut.desc).map (fun d => d.parameters.length) = some 3 := by decide +kernel
theorem kX8_goesOut_1 : (Cond.fieldLink RX8 20 "LinenTunnelModel" "dries" "[I" : Cond) ∈ wsX8_goesOut := List.mem_of_getElem? (i := 1) rfl
theorem uX8_goesOut_8 : ∀ w ∈ u_ws RX8 TX8 37, w ∈ wsX8_goesOut := fun _ h => (List.mem_cons_of_mem _ (List.mem_append_right _ h))
theorem kX8_goesOut_2 : (Cond.fieldLink RX8 84 "LinenTunnelModel" "runRows" "[I" : Cond) ∈ wsX8_goesOut := List.mem_of_getElem? (i := 2) rfl
theorem kX8_goesOut_3 : (Cond.fieldLink RX8 75 "LinenTunnelModel" "dryerFree" "[I" : Cond) ∈ wsX8_goesOut := List.mem_of_getElem? (i := 3) rfl
theorem kX8_goesOut_4 : (Cond.fieldLink RX8 87 "LinenTunnelModel" "wentOut" "[I" : Cond) ∈ wsX8_goesOut := List.mem_of_getElem? (i := 4) rfl
set_option maxRecDepth 100000 in
set_option maxHeartbeats 4000000 in
theorem mX8_goesOut {l : Launch} {D : va_G} {cI cZ : ClassId} {a : Nat → Nat} (hJ : mm_J 29 a) {F : Nat} {σ : mm_M} {p1 p2 p3 : Int32} {res : mm_M} (h : fX8_goesOut F σ p1 p2 p3 = some res) (sz : Nat) : Met l yX8_goesOut wsX8_goesOut rX8_goesOut (eP D cI cZ a σ [.ref (a 0), .int p1, .int p2, .int p3] sz) (eQv D cI cZ a res sz) 0 0 (mm_A 29 a sz) := by
  refine mm_met (fun sz => eQv D cI cZ a res sz) (lv := [(0, .ref (a 0)), (1, .int p1), (2, .int p2), (3, .int p3)]) (ret := none) (cc := cX8_goesOut) (maxL := 6) (own := RX8) hJ (by decide +kernel) rfl rfl (Nat.le_of_ble_eq_true rfl) rfl ?_ sz
  intro K hL X hQ
  unfold fX8_goesOut at h
  refine mm_aload_n X dX8_goesOut_0 0 rfl ?_
  refine mm_get X dX8_goesOut_1 0 4 (by decide) md_cf_0 rfl (by decide) uX8_goesOut_8 kX8_goesOut_1 rfl (v := .ref (a 4)) rfl ?_
  refine mm_aload_n X dX8_goesOut_4 0 rfl ?_
  refine mm_iload_n X dX8_goesOut_5 1 rfl ?_
  obtain ⟨q1, hq1, h⟩ := Option.bind_eq_some_iff.mp h
  refine mm_callVi X dX8_goesOut_6 (As := [.int p1]) (rest := [.ref (a 4)]) 0 (by decide) md_cf_0 rfl hL (mX8_kindAt hJ hq1) gX8_goesOut_X8_kindAt rfl ⟨rfl, rfl⟩ hyX8_kindAt ⟨Nat.le_of_ble_eq_true rfl, Nat.le_of_ble_eq_true rfl⟩ rfl (Nat.le_of_ble_eq_true rfl) ?_
  obtain ⟨hi2, h⟩ := mm_g_some h
  refine mm_iald X dX8_goesOut_9 4 0 (by decide) rfl rfl hi2 (v := (σ 4 q1.toNatClampNeg)) rfl ?_
  refine mm_istore X dX8_goesOut_10 (by decide) (lv2 := [(4, .int (σ 4 q1.toNatClampNeg)), (0, .ref (a 0)), (1, .int p1), (2, .int p2), (3, .int p3)]) rfl ?_
  refine mm_aload_n X dX8_goesOut_12 1 rfl ?_
  refine mm_get X dX8_goesOut_13 0 29 (by decide) md_cf_0 rfl (by decide) uX8_goesOut_8 kX8_goesOut_2 rfl (v := .ref (a 22)) rfl ?_
  refine mm_bipush X dX8_goesOut_16 (v := 7) (by decide) ?_
  refine mm_iload_n X dX8_goesOut_18 2 rfl ?_
  refine mm_imul X dX8_goesOut_19 ?_
  refine mm_iconst X dX8_goesOut_20 (v := 2) (by decide) ?_
  refine mm_iadd X dX8_goesOut_21 ?_
  refine mm_iload_n X dX8_goesOut_22 3 rfl ?_
  obtain ⟨hi3, h⟩ := mm_g_some h
  refine mm_iast X dX8_goesOut_23 22 0 (by decide) (fun _ => rfl) rfl hi3 ?_
  refine mm_aload_n X dX8_goesOut_24 1 rfl ?_
  refine mm_get X dX8_goesOut_25 0 29 (by decide) md_cf_0 rfl (by decide) uX8_goesOut_8 kX8_goesOut_2 rfl (v := .ref (a 22)) rfl ?_
  refine mm_bipush X dX8_goesOut_28 (v := 7) (by decide) ?_
  refine mm_iload_n X dX8_goesOut_30 2 rfl ?_
  refine mm_imul X dX8_goesOut_31 ?_
  refine mm_iconst X dX8_goesOut_32 (v := 3) (by decide) ?_
  refine mm_iadd X dX8_goesOut_33 ?_
  refine mm_iconst X dX8_goesOut_34 (v := -1) (by decide) ?_
  obtain ⟨hi4, h⟩ := mm_g_some h
  refine mm_iast X dX8_goesOut_35 22 0 (by decide) (fun _ => rfl) rfl hi4 ?_
  refine mm_aload_n X dX8_goesOut_36 1 rfl ?_
  refine mm_get X dX8_goesOut_37 0 29 (by decide) md_cf_0 rfl (by decide) uX8_goesOut_8 kX8_goesOut_2 rfl (v := .ref (a 22)) rfl ?_
  refine mm_bipush X dX8_goesOut_40 (v := 7) (by decide) ?_
  refine mm_iload_n X dX8_goesOut_42 2 rfl ?_
  refine mm_imul X dX8_goesOut_43 ?_
  refine mm_iconst X dX8_goesOut_44 (v := 4) (by decide) ?_
  refine mm_iadd X dX8_goesOut_45 ?_
  refine mm_iload_n X dX8_goesOut_46 3 rfl ?_
  obtain ⟨hi5, h⟩ := mm_g_some h
  refine mm_iast X dX8_goesOut_47 22 0 (by decide) (fun _ => rfl) rfl hi5 ?_
  refine mm_iload X dX8_goesOut_48 0 rfl ?_
  obtain ⟨q6, hq6, h⟩ := Option.bind_eq_some_iff.mp h
  have J7 : eG K D cI cZ a q6 99 [(0, .ref (a 0)), (1, .int p1), (3, .int p3)] [] := by
    refine mm_aload_n X dX8_goesOut_99 0 rfl ?_
    refine mm_get X dX8_goesOut_100 0 30 (by decide) md_cf_0 rfl (by decide) uX8_goesOut_8 kX8_goesOut_4 rfl (v := .ref (a 23)) rfl ?_
    refine mm_iload_n X dX8_goesOut_103 2 rfl ?_
    refine mm_iload_n X dX8_goesOut_104 1 rfl ?_
    obtain ⟨hi13, h⟩ := mm_g_some h
    refine mm_iast X dX8_goesOut_105 23 0 (by decide) (fun _ => rfl) rfl hi13 ?_
    obtain rfl := Option.some.inj h
    exact mm_vret X dX8_goesOut_106 rfl hQ
  have h := hq6
  refine mm_if_le X dX8_goesOut_50 (tgt := 99) (by decide) (fun c8 => ?_) (fun c8 => ?_)
  · have h := (if_neg c8).symm.trans h
    obtain rfl := Option.some.inj h
    refine mm_loc [1, 2, 4] rfl ?_
    exact J7
  · have h := (if_pos c8).symm.trans h
    refine mm_aload_n X dX8_goesOut_53 1 rfl ?_
    refine mm_iload_n X dX8_goesOut_54 3 rfl ?_
    obtain ⟨q9, hq9, h⟩ := Option.bind_eq_some_iff.mp h
    refine mm_callVi X dX8_goesOut_55 (As := [.int p2]) (rest := []) 0 (by decide) md_cf_0 rfl hL (mX8_dryerAt hJ hq9) gX8_goesOut_X8_dryerAt rfl ⟨rfl, rfl⟩ hyX8_dryerAt ⟨Nat.le_of_ble_eq_true rfl, Nat.le_of_ble_eq_true rfl⟩ rfl (Nat.le_of_ble_eq_true rfl) ?_
    refine mm_istore X dX8_goesOut_58 (by decide) (lv2 := [(5, .int q9), (4, .int (σ 4 q1.toNatClampNeg)), (0, .ref (a 0)), (1, .int p1), (2, .int p2), (3, .int p3)]) rfl ?_
    refine mm_aload_n X dX8_goesOut_60 2 rfl ?_
    refine mm_get X dX8_goesOut_61 0 25 (by decide) md_cf_0 rfl (by decide) uX8_goesOut_8 kX8_goesOut_3 rfl (v := .ref (a 19)) rfl ?_
    refine mm_iload X dX8_goesOut_64 0 rfl ?_
    refine mm_iload_n X dX8_goesOut_66 4 rfl ?_
    refine mm_iload X dX8_goesOut_67 1 rfl ?_
    refine mm_iadd X dX8_goesOut_69 ?_
    obtain ⟨hi10, h⟩ := mm_g_some h
    refine mm_iast X dX8_goesOut_70 19 0 (by decide) (fun _ => rfl) rfl hi10 ?_
    refine mm_aload_n X dX8_goesOut_71 2 rfl ?_
    refine mm_get X dX8_goesOut_72 0 29 (by decide) md_cf_0 rfl (by decide) uX8_goesOut_8 kX8_goesOut_2 rfl (v := .ref (a 22)) rfl ?_
    refine mm_bipush X dX8_goesOut_75 (v := 7) (by decide) ?_
    refine mm_iload_n X dX8_goesOut_77 3 rfl ?_
    refine mm_imul X dX8_goesOut_78 ?_
    refine mm_iconst X dX8_goesOut_79 (v := 3) (by decide) ?_
    refine mm_iadd X dX8_goesOut_80 ?_
    refine mm_iload X dX8_goesOut_81 0 rfl ?_
    obtain ⟨hi11, h⟩ := mm_g_some h
    refine mm_iast X dX8_goesOut_83 22 0 (by decide) (fun _ => rfl) rfl hi11 ?_
    refine mm_aload_n X dX8_goesOut_84 2 rfl ?_
    refine mm_get X dX8_goesOut_85 0 29 (by decide) md_cf_0 rfl (by decide) uX8_goesOut_8 kX8_goesOut_2 rfl (v := .ref (a 22)) rfl ?_
    refine mm_bipush X dX8_goesOut_88 (v := 7) (by decide) ?_
    refine mm_iload_n X dX8_goesOut_90 3 rfl ?_
    refine mm_imul X dX8_goesOut_91 ?_
    refine mm_iconst X dX8_goesOut_92 (v := 4) (by decide) ?_
    refine mm_iadd X dX8_goesOut_93 ?_
    refine mm_iload_n X dX8_goesOut_94 4 rfl ?_
    refine mm_iload X dX8_goesOut_95 1 rfl ?_
    refine mm_iadd X dX8_goesOut_97 ?_
    obtain ⟨hi12, h⟩ := mm_g_some h
    refine mm_iast X dX8_goesOut_98 22 0 (by decide) (fun _ => rfl) rfl hi12 ?_
    obtain rfl := Option.some.inj h
    refine mm_loc [2, 3, 5] rfl ?_
    exact J7
/-! LinenTunnelModel.irons -/
def fX8_irons_2 (F : Nat) : Nat → Int32 → mm_M → Option (mm_M)
  | 0, _, _ => none
  | k + 1, l1, σ => (if l1 < (σ 0 20) then mm_g 3 l1 (fX8_irons_2 F k (l1 + 1) (mm_up σ 20 l1.toNatClampNeg (0 : Int32))) else some (σ))
def fX8_irons_42 (F : Nat) (l1 : Int32) (l2 : Int32) : Nat → Int32 → mm_M → Option (Int32 × mm_M)
  | 0, _, _ => none
  | k + 1, l3, σ => (if 0 < l3 then mm_g 12 (l3 - (1 : Int32)) (mm_g 84 (((7 : Int32) * (σ 23 (l3 - (1 : Int32)).toNatClampNeg)) + (4 : Int32)) (mm_g 84 (((7 : Int32) * l2) + (4 : Int32)) ((if (σ 22 (((7 : Int32) * l2) + (4 : Int32)).toNatClampNeg) < (σ 22 (((7 : Int32) * (σ 23 (l3 - (1 : Int32)).toNatClampNeg)) + (4 : Int32)).toNatClampNeg) then mm_g 12 (l3 - (1 : Int32)) (mm_g 12 l3 (fX8_irons_42 F l1 l2 k (l3 + (-1 : Int32)) (mm_up σ 23 l3.toNatClampNeg (σ 23 (l3 - (1 : Int32)).toNatClampNeg)))) else some (l3, σ))))) else some (l3, σ))
def fX8_irons_25 (F : Nat) : Nat → Int32 → mm_M → Option (mm_M)
  | 0, _, _ => none
  | k + 1, l1, σ => (if l1 < (σ 0 28) then mm_g 12 l1 ((fX8_irons_42 F l1 (σ 23 l1.toNatClampNeg) F l1 σ).bind fun q3 => mm_g 12 q3.1 (fX8_irons_25 F k (l1 + 1) (mm_up q3.2 23 q3.1.toNatClampNeg (σ 23 l1.toNatClampNeg)))) else some (σ))
def fX8_irons_183 (F : Nat) (σ : mm_M) (l1 : Int32) (l2 : Int32) (l3 : Int32) : Nat → Int32 → Int32 → Option (Int32)
  | 0, _, _ => none
  | k + 1, l4, l5 => (if l5 < (σ 0 20) then mm_g 3 l5 (mm_g 3 l4 (fX8_irons_183 F σ l1 l2 l3 k (if (σ 20 l5.toNatClampNeg) < (σ 20 l4.toNatClampNeg) then l5 else l4) (l5 + 1))) else some (l4))
def fX8_irons_113 (F : Nat) : Nat → Int32 → mm_M → Option (mm_M)
  | 0, _, _ => none
  | k + 1, l1, σ => (if l1 < (σ 0 28) then mm_g 12 l1 (mm_g 12 l1 ((fX8_kindAt σ (σ 23 l1.toNatClampNeg)).bind fun q4 => mm_g 8 q4 (mm_g 84 (((7 : Int32) * (σ 23 l1.toNatClampNeg)) + (5 : Int32)) (mm_g 84 (((7 : Int32) * (σ 23 l1.toNatClampNeg)) + (4 : Int32)) (mm_g 84 (((7 : Int32) * (σ 23 l1.toNatClampNeg)) + (6 : Int32)) ((if 0 < (σ 5 q4.toNatClampNeg) then (fX8_irons_183 F (mm_up (mm_up σ 22 (((7 : Int32) * (σ 23 l1.toNatClampNeg)) + (5 : Int32)).toNatClampNeg (-1 : Int32)) 22 (((7 : Int32) * (σ 23 l1.toNatClampNeg)) + (6 : Int32)).toNatClampNeg ((mm_up σ 22 (((7 : Int32) * (σ 23 l1.toNatClampNeg)) + (5 : Int32)).toNatClampNeg (-1 : Int32)) 22 (((7 : Int32) * (σ 23 l1.toNatClampNeg)) + (4 : Int32)).toNatClampNeg)) l1 ((7 : Int32) * (σ 23 l1.toNatClampNeg)) (σ 5 q4.toNatClampNeg) F (0 : Int32) (1 : Int32)).bind fun q10 => mm_g 3 q10 (mm_g 84 (((7 : Int32) * (σ 23 l1.toNatClampNeg)) + (4 : Int32)) (((if ((mm_up (mm_up σ 22 (((7 : Int32) * (σ 23 l1.toNatClampNeg)) + (5 : Int32)).toNatClampNeg (-1 : Int32)) 22 (((7 : Int32) * (σ 23 l1.toNatClampNeg)) + (6 : Int32)).toNatClampNeg ((mm_up σ 22 (((7 : Int32) * (σ 23 l1.toNatClampNeg)) + (5 : Int32)).toNatClampNeg (-1 : Int32)) 22 (((7 : Int32) * (σ 23 l1.toNatClampNeg)) + (4 : Int32)).toNatClampNeg)) 22 (((7 : Int32) * (σ 23 l1.toNatClampNeg)) + (4 : Int32)).toNatClampNeg) < (σ 20 q10.toNatClampNeg) then mm_g 3 q10 (some ((σ 20 q10.toNatClampNeg))) else mm_g 84 (((7 : Int32) * (σ 23 l1.toNatClampNeg)) + (4 : Int32)) (some (((mm_up (mm_up σ 22 (((7 : Int32) * (σ 23 l1.toNatClampNeg)) + (5 : Int32)).toNatClampNeg (-1 : Int32)) 22 (((7 : Int32) * (σ 23 l1.toNatClampNeg)) + (6 : Int32)).toNatClampNeg ((mm_up σ 22 (((7 : Int32) * (σ 23 l1.toNatClampNeg)) + (5 : Int32)).toNatClampNeg (-1 : Int32)) 22 (((7 : Int32) * (σ 23 l1.toNatClampNeg)) + (4 : Int32)).toNatClampNeg)) 22 (((7 : Int32) * (σ 23 l1.toNatClampNeg)) + (4 : Int32)).toNatClampNeg))))).bind fun q13 => mm_g 3 q10 (mm_g 84 (((7 : Int32) * (σ 23 l1.toNatClampNeg)) + (5 : Int32)) (mm_g 84 (((7 : Int32) * (σ 23 l1.toNatClampNeg)) + (6 : Int32)) (fX8_irons_113 F k (l1 + 1) (mm_up (mm_up (mm_up (mm_up (mm_up σ 22 (((7 : Int32) * (σ 23 l1.toNatClampNeg)) + (5 : Int32)).toNatClampNeg (-1 : Int32)) 22 (((7 : Int32) * (σ 23 l1.toNatClampNeg)) + (6 : Int32)).toNatClampNeg ((mm_up σ 22 (((7 : Int32) * (σ 23 l1.toNatClampNeg)) + (5 : Int32)).toNatClampNeg (-1 : Int32)) 22 (((7 : Int32) * (σ 23 l1.toNatClampNeg)) + (4 : Int32)).toNatClampNeg)) 20 q10.toNatClampNeg (q13 + (σ 5 q4.toNatClampNeg))) 22 (((7 : Int32) * (σ 23 l1.toNatClampNeg)) + (5 : Int32)).toNatClampNeg q10) 22 (((7 : Int32) * (σ 23 l1.toNatClampNeg)) + (6 : Int32)).toNatClampNeg (q13 + (σ 5 q4.toNatClampNeg)))))))) else fX8_irons_113 F k (l1 + 1) (mm_up (mm_up σ 22 (((7 : Int32) * (σ 23 l1.toNatClampNeg)) + (5 : Int32)).toNatClampNeg (-1 : Int32)) 22 (((7 : Int32) * (σ 23 l1.toNatClampNeg)) + (6 : Int32)).toNatClampNeg ((mm_up σ 22 (((7 : Int32) * (σ 23 l1.toNatClampNeg)) + (5 : Int32)).toNatClampNeg (-1 : Int32)) 22 (((7 : Int32) * (σ 23 l1.toNatClampNeg)) + (4 : Int32)).toNatClampNeg))))))))) else some (σ))
def fX8_irons (F : Nat) (σ : mm_M) : Option (mm_M) := (fX8_irons_2 F F (0 : Int32) σ).bind fun q1 => (fX8_irons_25 F F (1 : Int32) q1).bind fun q2 => (fX8_irons_113 F F (0 : Int32) q2).bind fun q3 => some q3
abbrev rX8_irons : Room := { frames := 1, cells := 0, slots := 0, locals := 21 }
theorem hyX8_irons : yX8_irons.cls = RX8 ∧ yX8_irons.cls ≠ "java/lang/invoke/MethodHandle" ∧ yX8_irons.cls ≠ "java/lang/invoke/VarHandle" ∧ (parseMethodDescriptor yX8_irons.desc).map (fun d => d.parameters.length) = some 0 := by decide +kernel
theorem kX8_irons_1 : (Cond.fieldLink RX8 63 "LinenTunnelModel" "ironMany" "I" : Cond) ∈ wsX8_irons := List.mem_of_getElem? (i := 1) rfl
theorem uX8_irons_8 : ∀ w ∈ u_ws RX8 TX8 37, w ∈ wsX8_irons := fun _ h => (List.mem_cons_of_mem _ (List.mem_append_right _ h))
theorem kX8_irons_2 : (Cond.fieldLink RX8 78 "LinenTunnelModel" "ironFree" "[I" : Cond) ∈ wsX8_irons := List.mem_of_getElem? (i := 2) rfl
theorem kX8_irons_3 : (Cond.fieldLink RX8 157 "LinenTunnelModel" "runs" "I" : Cond) ∈ wsX8_irons := List.mem_of_getElem? (i := 3) rfl
theorem kX8_irons_4 : (Cond.fieldLink RX8 87 "LinenTunnelModel" "wentOut" "[I" : Cond) ∈ wsX8_irons := List.mem_of_getElem? (i := 4) rfl
theorem kX8_irons_5 : (Cond.fieldLink RX8 84 "LinenTunnelModel" "runRows" "[I" : Cond) ∈ wsX8_irons := List.mem_of_getElem? (i := 5) rfl
theorem kX8_irons_6 : (Cond.fieldLink RX8 23 "LinenTunnelModel" "irons" "[I" : Cond) ∈ wsX8_irons := List.mem_of_getElem? (i := 6) rfl
set_option maxRecDepth 100000 in
set_option maxHeartbeats 4000000 in
theorem tX8_irons_2 {l : Launch} {K : mm_K} {D : va_G} {cI cZ : ClassId} {a : Nat → Nat} (X : eC K rX8_irons cX8_irons 6 none wsX8_irons RX8 D cI cZ a) (hL : mm_L K l) (hJ : mm_J 29 a) {F : Nat} {out : mm_M} (hx : eG K D cI cZ a out 23 [(0, .ref (a 0))] []) : ∀ (k : Nat) (l1 : Int32) (σ : mm_M), fX8_irons_2 F k l1 σ = some out → eG K D cI cZ a σ 2 [(0, .ref (a 0)), (1, .int l1)] [] := by
  intro k
  induction k with
  | zero =>
    intro l1 σ h
    have h : none = some out := h
    cases h
  | succ k ih =>
    intro l1 σ h
    rw [fX8_irons_2] at h
    refine mm_iload_n X dX8_irons_2 1 rfl ?_
    refine mm_aload_n X dX8_irons_3 0 rfl ?_
    refine mm_get X dX8_irons_4 0 20 (by decide) md_cf_0 rfl (by decide) uX8_irons_8 kX8_irons_1 rfl (v := .int (σ 0 20)) rfl ?_
    refine mm_icmp_ge X dX8_irons_7 (tgt := 23) (by decide) (fun c1 => ?_) (fun c1 => ?_)
    · have h := (if_neg c1).symm.trans h
      obtain rfl := Option.some.inj h
      refine mm_loc [0] rfl ?_
      exact hx
    · have h := (if_pos c1).symm.trans h
      refine mm_aload_n X dX8_irons_10 0 rfl ?_
      refine mm_get X dX8_irons_11 0 26 (by decide) md_cf_0 rfl (by decide) uX8_irons_8 kX8_irons_2 rfl (v := .ref (a 20)) rfl ?_
      refine mm_iload_n X dX8_irons_14 1 rfl ?_
      refine mm_iconst X dX8_irons_15 (v := 0) (by decide) ?_
      obtain ⟨hi2, h⟩ := mm_g_some h
      refine mm_iast X dX8_irons_16 20 0 (by decide) (fun _ => rfl) rfl hi2 ?_
      refine mm_iinc X dX8_irons_17 1 rfl (v := (l1 + 1)) rfl (by decide) (lv2 := [(1, .int (l1 + 1)), (0, .ref (a 0))]) rfl ?_
      refine mm_goto X dX8_irons_20 (tgt := 2) (by decide) ?_
      refine mm_loc [1, 0] rfl ?_
      exact ih _ _ h
set_option maxRecDepth 100000 in
set_option maxHeartbeats 4000000 in
theorem tX8_irons_42 {l : Launch} {K : mm_K} {D : va_G} {cI cZ : ClassId} {a : Nat → Nat} (X : eC K rX8_irons cX8_irons 6 none wsX8_irons RX8 D cI cZ a) (hL : mm_L K l) (hJ : mm_J 29 a) {F : Nat} {l1 : Int32} {l2 : Int32} {out : Int32 × mm_M} (hx : eG K D cI cZ a out.2 98 [(0, .ref (a 0)), (1, .int l1), (2, .int l2), (3, .int out.1)] []) : ∀ (k : Nat) (l3 : Int32) (σ : mm_M), fX8_irons_42 F l1 l2 k l3 σ = some out → eG K D cI cZ a σ 42 [(0, .ref (a 0)), (1, .int l1), (2, .int l2), (3, .int l3)] [] := by
  intro k
  induction k with
  | zero =>
    intro l3 σ h
    have h : none = some out := h
    cases h
  | succ k ih =>
    intro l3 σ h
    rw [fX8_irons_42] at h
    refine mm_iload_n X dX8_irons_42 3 rfl ?_
    refine mm_if_le X dX8_irons_43 (tgt := 98) (by decide) (fun c1 => ?_) (fun c1 => ?_)
    · have h := (if_neg c1).symm.trans h
      obtain rfl := Option.some.inj h
      exact hx
    · have h := (if_pos c1).symm.trans h
      refine mm_aload_n X dX8_irons_46 0 rfl ?_
      refine mm_get X dX8_irons_47 0 29 (by decide) md_cf_0 rfl (by decide) uX8_irons_8 kX8_irons_5 rfl (v := .ref (a 22)) rfl ?_
      refine mm_bipush X dX8_irons_50 (v := 7) (by decide) ?_
      refine mm_aload_n X dX8_irons_52 0 rfl ?_
      refine mm_get X dX8_irons_53 0 30 (by decide) md_cf_0 rfl (by decide) uX8_irons_8 kX8_irons_4 rfl (v := .ref (a 23)) rfl ?_
      refine mm_iload_n X dX8_irons_56 3 rfl ?_
      refine mm_iconst X dX8_irons_57 (v := 1) (by decide) ?_
      refine mm_isub X dX8_irons_58 ?_
      obtain ⟨hi2, h⟩ := mm_g_some h
      refine mm_iald X dX8_irons_59 23 0 (by decide) rfl rfl hi2 (v := (σ 23 (l3 - (1 : Int32)).toNatClampNeg)) rfl ?_
      refine mm_imul X dX8_irons_60 ?_
      refine mm_iconst X dX8_irons_61 (v := 4) (by decide) ?_
      refine mm_iadd X dX8_irons_62 ?_
      obtain ⟨hi3, h⟩ := mm_g_some h
      refine mm_iald X dX8_irons_63 22 0 (by decide) rfl rfl hi3 (v := (σ 22 (((7 : Int32) * (σ 23 (l3 - (1 : Int32)).toNatClampNeg)) + (4 : Int32)).toNatClampNeg)) rfl ?_
      refine mm_aload_n X dX8_irons_64 0 rfl ?_
      refine mm_get X dX8_irons_65 0 29 (by decide) md_cf_0 rfl (by decide) uX8_irons_8 kX8_irons_5 rfl (v := .ref (a 22)) rfl ?_
      refine mm_bipush X dX8_irons_68 (v := 7) (by decide) ?_
      refine mm_iload_n X dX8_irons_70 2 rfl ?_
      refine mm_imul X dX8_irons_71 ?_
      refine mm_iconst X dX8_irons_72 (v := 4) (by decide) ?_
      refine mm_iadd X dX8_irons_73 ?_
      obtain ⟨hi4, h⟩ := mm_g_some h
      refine mm_iald X dX8_irons_74 22 0 (by decide) rfl rfl hi4 (v := (σ 22 (((7 : Int32) * l2) + (4 : Int32)).toNatClampNeg)) rfl ?_
      refine mm_icmp_le X dX8_irons_75 (tgt := 98) (by decide) (fun c5 => ?_) (fun c5 => ?_)
      · have h := (if_neg c5).symm.trans h
        obtain rfl := Option.some.inj h
        exact hx
      · have h := (if_pos c5).symm.trans h
        refine mm_aload_n X dX8_irons_78 0 rfl ?_
        refine mm_get X dX8_irons_79 0 30 (by decide) md_cf_0 rfl (by decide) uX8_irons_8 kX8_irons_4 rfl (v := .ref (a 23)) rfl ?_
        refine mm_iload_n X dX8_irons_82 3 rfl ?_
        refine mm_aload_n X dX8_irons_83 0 rfl ?_
        refine mm_get X dX8_irons_84 0 30 (by decide) md_cf_0 rfl (by decide) uX8_irons_8 kX8_irons_4 rfl (v := .ref (a 23)) rfl ?_
        refine mm_iload_n X dX8_irons_87 3 rfl ?_
        refine mm_iconst X dX8_irons_88 (v := 1) (by decide) ?_
        refine mm_isub X dX8_irons_89 ?_
        obtain ⟨hi6, h⟩ := mm_g_some h
        refine mm_iald X dX8_irons_90 23 0 (by decide) rfl rfl hi6 (v := (σ 23 (l3 - (1 : Int32)).toNatClampNeg)) rfl ?_
        obtain ⟨hi7, h⟩ := mm_g_some h
        refine mm_iast X dX8_irons_91 23 0 (by decide) (fun _ => rfl) rfl hi7 ?_
        refine mm_iinc X dX8_irons_92 3 rfl (v := (l3 + (-1 : Int32))) rfl (by decide) (lv2 := [(3, .int (l3 + (-1 : Int32))), (0, .ref (a 0)), (1, .int l1), (2, .int l2)]) rfl ?_
        refine mm_goto X dX8_irons_95 (tgt := 42) (by decide) ?_
        refine mm_loc [1, 2, 3, 0] rfl ?_
        exact ih _ _ h
set_option maxRecDepth 100000 in
set_option maxHeartbeats 4000000 in
theorem tX8_irons_25 {l : Launch} {K : mm_K} {D : va_G} {cI cZ : ClassId} {a : Nat → Nat} (X : eC K rX8_irons cX8_irons 6 none wsX8_irons RX8 D cI cZ a) (hL : mm_L K l) (hJ : mm_J 29 a) {F : Nat} {out : mm_M} (hx : eG K D cI cZ a out 111 [(0, .ref (a 0))] []) : ∀ (k : Nat) (l1 : Int32) (σ : mm_M), fX8_irons_25 F k l1 σ = some out → eG K D cI cZ a σ 25 [(0, .ref (a 0)), (1, .int l1)] [] := by
  intro k
  induction k with
  | zero =>
    intro l1 σ h
    have h : none = some out := h
    cases h
  | succ k ih =>
    intro l1 σ h
    rw [fX8_irons_25] at h
    refine mm_iload_n X dX8_irons_25 1 rfl ?_
    refine mm_aload_n X dX8_irons_26 0 rfl ?_
    refine mm_get X dX8_irons_27 0 28 (by decide) md_cf_0 rfl (by decide) uX8_irons_8 kX8_irons_3 rfl (v := .int (σ 0 28)) rfl ?_
    refine mm_icmp_ge X dX8_irons_30 (tgt := 111) (by decide) (fun c1 => ?_) (fun c1 => ?_)
    · have h := (if_neg c1).symm.trans h
      obtain rfl := Option.some.inj h
      refine mm_loc [0] rfl ?_
      exact hx
    · have h := (if_pos c1).symm.trans h
      refine mm_aload_n X dX8_irons_33 0 rfl ?_
      refine mm_get X dX8_irons_34 0 30 (by decide) md_cf_0 rfl (by decide) uX8_irons_8 kX8_irons_4 rfl (v := .ref (a 23)) rfl ?_
      refine mm_iload_n X dX8_irons_37 1 rfl ?_
      obtain ⟨hi2, h⟩ := mm_g_some h
      refine mm_iald X dX8_irons_38 23 0 (by decide) rfl rfl hi2 (v := (σ 23 l1.toNatClampNeg)) rfl ?_
      refine mm_istore_n X dX8_irons_39 (by decide) (lv2 := [(2, .int (σ 23 l1.toNatClampNeg)), (0, .ref (a 0)), (1, .int l1)]) rfl ?_
      refine mm_iload_n X dX8_irons_40 2 rfl ?_
      refine mm_istore_n X dX8_irons_41 (by decide) (lv2 := [(3, .int l1), (2, .int (σ 23 l1.toNatClampNeg)), (0, .ref (a 0)), (1, .int l1)]) rfl ?_
      obtain ⟨q3, hq3, h⟩ := Option.bind_eq_some_iff.mp h
      refine mm_loc [2, 3, 1, 0] rfl ?_
      refine tX8_irons_42 X hL hJ ?_ F l1 σ hq3
      refine mm_aload_n X dX8_irons_98 0 rfl ?_
      refine mm_get X dX8_irons_99 0 30 (by decide) md_cf_0 rfl (by decide) uX8_irons_8 kX8_irons_4 rfl (v := .ref (a 23)) rfl ?_
      refine mm_iload_n X dX8_irons_102 3 rfl ?_
      refine mm_iload_n X dX8_irons_103 2 rfl ?_
      obtain ⟨hi4, h⟩ := mm_g_some h
      refine mm_iast X dX8_irons_104 23 0 (by decide) (fun _ => rfl) rfl hi4 ?_
      refine mm_iinc X dX8_irons_105 1 rfl (v := (l1 + 1)) rfl (by decide) (lv2 := [(1, .int (l1 + 1)), (0, .ref (a 0)), (2, .int (σ 23 l1.toNatClampNeg)), (3, .int q3.1)]) rfl ?_
      refine mm_goto X dX8_irons_108 (tgt := 25) (by decide) ?_
      refine mm_loc [1, 0] rfl ?_
      exact ih _ _ h
set_option maxRecDepth 100000 in
set_option maxHeartbeats 4000000 in
theorem tX8_irons_183 {l : Launch} {K : mm_K} {D : va_G} {cI cZ : ClassId} {a : Nat → Nat} (X : eC K rX8_irons cX8_irons 6 none wsX8_irons RX8 D cI cZ a) (hL : mm_L K l) (hJ : mm_J 29 a) {F : Nat} {σ : mm_M} {l1 : Int32} {l2 : Int32} {l3 : Int32} {out : Int32} (hx : eG K D cI cZ a σ 224 [(0, .ref (a 0)), (1, .int l1), (2, .int l2), (3, .int l3), (4, .int out)] []) : ∀ (k : Nat) (l4 : Int32) (l5 : Int32), fX8_irons_183 F σ l1 l2 l3 k l4 l5 = some out → eG K D cI cZ a σ 183 [(0, .ref (a 0)), (1, .int l1), (2, .int l2), (3, .int l3), (4, .int l4), (5, .int l5)] [] := by
  intro k
  induction k with
  | zero =>
    intro l4 l5 h
    have h : none = some out := h
    cases h
  | succ k ih =>
    intro l4 l5 h
    rw [fX8_irons_183] at h
    refine mm_iload X dX8_irons_183 5 rfl ?_
    refine mm_aload_n X dX8_irons_185 0 rfl ?_
    refine mm_get X dX8_irons_186 0 20 (by decide) md_cf_0 rfl (by decide) uX8_irons_8 kX8_irons_1 rfl (v := .int (σ 0 20)) rfl ?_
    refine mm_icmp_ge X dX8_irons_189 (tgt := 224) (by decide) (fun c1 => ?_) (fun c1 => ?_)
    · have h := (if_neg c1).symm.trans h
      obtain rfl := Option.some.inj h
      refine mm_loc [0, 1, 2, 3, 4] rfl ?_
      exact hx
    · have h := (if_pos c1).symm.trans h
      refine mm_aload_n X dX8_irons_192 0 rfl ?_
      refine mm_get X dX8_irons_193 0 26 (by decide) md_cf_0 rfl (by decide) uX8_irons_8 kX8_irons_2 rfl (v := .ref (a 20)) rfl ?_
      refine mm_iload X dX8_irons_196 5 rfl ?_
      obtain ⟨hi2, h⟩ := mm_g_some h
      refine mm_iald X dX8_irons_198 20 0 (by decide) rfl rfl hi2 (v := (σ 20 l5.toNatClampNeg)) rfl ?_
      refine mm_aload_n X dX8_irons_199 0 rfl ?_
      refine mm_get X dX8_irons_200 0 26 (by decide) md_cf_0 rfl (by decide) uX8_irons_8 kX8_irons_2 rfl (v := .ref (a 20)) rfl ?_
      refine mm_iload X dX8_irons_203 4 rfl ?_
      obtain ⟨hi3, h⟩ := mm_g_some h
      refine mm_iald X dX8_irons_205 20 0 (by decide) rfl rfl hi3 (v := (σ 20 l4.toNatClampNeg)) rfl ?_
      have J5 : ∀ (v4 : Int32), v4 = (if (σ 20 l5.toNatClampNeg) < (σ 20 l4.toNatClampNeg) then l5 else l4) → eG K D cI cZ a σ 216 [(0, .ref (a 0)), (1, .int l1), (2, .int l2), (3, .int l3), (5, .int l5)] [.int v4] := by
        intro v4 ev4
        subst ev4
        refine mm_istore X dX8_irons_216 (by decide) (lv2 := [(4, .int (if (σ 20 l5.toNatClampNeg) < (σ 20 l4.toNatClampNeg) then l5 else l4)), (0, .ref (a 0)), (1, .int l1), (2, .int l2), (3, .int l3), (5, .int l5)]) rfl ?_
        refine mm_iinc X dX8_irons_218 5 rfl (v := (l5 + 1)) rfl (by decide) (lv2 := [(5, .int (l5 + 1)), (4, .int (if (σ 20 l5.toNatClampNeg) < (σ 20 l4.toNatClampNeg) then l5 else l4)), (0, .ref (a 0)), (1, .int l1), (2, .int l2), (3, .int l3)]) rfl ?_
        refine mm_goto X dX8_irons_221 (tgt := 183) (by decide) ?_
        refine mm_loc [2, 3, 4, 5, 1, 0] rfl ?_
        exact ih _ _ h
      refine mm_icmp_ge X dX8_irons_206 (tgt := 214) (by decide) (fun c6 => ?_) (fun c6 => ?_)
      · refine mm_iload X dX8_irons_214 4 rfl ?_
        refine mm_loc [0, 1, 2, 3, 5] rfl ?_
        exact J5 _ (by rw [if_neg c6])
      · refine mm_iload X dX8_irons_209 5 rfl ?_
        refine mm_goto X dX8_irons_211 (tgt := 216) (by decide) ?_
        refine mm_loc [0, 1, 2, 3, 5] rfl ?_
        exact J5 _ (by rw [if_pos c6])
set_option maxRecDepth 100000 in
set_option maxHeartbeats 4000000 in
theorem tX8_irons_113 {l : Launch} {K : mm_K} {D : va_G} {cI cZ : ClassId} {a : Nat → Nat} (X : eC K rX8_irons cX8_irons 6 none wsX8_irons RX8 D cI cZ a) (hL : mm_L K l) (hJ : mm_J 29 a) {F : Nat} {out : mm_M} (hx : eG K D cI cZ a out 302 [] []) : ∀ (k : Nat) (l1 : Int32) (σ : mm_M), fX8_irons_113 F k l1 σ = some out → eG K D cI cZ a σ 113 [(0, .ref (a 0)), (1, .int l1)] [] := by
  intro k
  induction k with
  | zero =>
    intro l1 σ h
    have h : none = some out := h
    cases h
  | succ k ih =>
    intro l1 σ h
    rw [fX8_irons_113] at h
    refine mm_iload_n X dX8_irons_113 1 rfl ?_
    refine mm_aload_n X dX8_irons_114 0 rfl ?_
    refine mm_get X dX8_irons_115 0 28 (by decide) md_cf_0 rfl (by decide) uX8_irons_8 kX8_irons_3 rfl (v := .int (σ 0 28)) rfl ?_
    refine mm_icmp_ge X dX8_irons_118 (tgt := 302) (by decide) (fun c1 => ?_) (fun c1 => ?_)
    · have h := (if_neg c1).symm.trans h
      obtain rfl := Option.some.inj h
      refine mm_loc [] rfl ?_
      exact hx
    · have h := (if_pos c1).symm.trans h
      refine mm_bipush X dX8_irons_121 (v := 7) (by decide) ?_
      refine mm_aload_n X dX8_irons_123 0 rfl ?_
      refine mm_get X dX8_irons_124 0 30 (by decide) md_cf_0 rfl (by decide) uX8_irons_8 kX8_irons_4 rfl (v := .ref (a 23)) rfl ?_
      refine mm_iload_n X dX8_irons_127 1 rfl ?_
      obtain ⟨hi2, h⟩ := mm_g_some h
      refine mm_iald X dX8_irons_128 23 0 (by decide) rfl rfl hi2 (v := (σ 23 l1.toNatClampNeg)) rfl ?_
      refine mm_imul X dX8_irons_129 ?_
      refine mm_istore_n X dX8_irons_130 (by decide) (lv2 := [(2, .int ((7 : Int32) * (σ 23 l1.toNatClampNeg))), (0, .ref (a 0)), (1, .int l1)]) rfl ?_
      refine mm_aload_n X dX8_irons_131 1 rfl ?_
      refine mm_get X dX8_irons_132 0 5 (by decide) md_cf_0 rfl (by decide) uX8_irons_8 kX8_irons_6 rfl (v := .ref (a 5)) rfl ?_
      refine mm_aload_n X dX8_irons_135 1 rfl ?_
      refine mm_aload_n X dX8_irons_136 1 rfl ?_
      refine mm_get X dX8_irons_137 0 30 (by decide) md_cf_0 rfl (by decide) uX8_irons_8 kX8_irons_4 rfl (v := .ref (a 23)) rfl ?_
      refine mm_iload_n X dX8_irons_140 2 rfl ?_
      obtain ⟨hi3, h⟩ := mm_g_some h
      refine mm_iald X dX8_irons_141 23 0 (by decide) rfl rfl hi3 (v := (σ 23 l1.toNatClampNeg)) rfl ?_
      obtain ⟨q4, hq4, h⟩ := Option.bind_eq_some_iff.mp h
      refine mm_callVi X dX8_irons_142 (As := [.int (σ 23 l1.toNatClampNeg)]) (rest := [.ref (a 5)]) 0 (by decide) md_cf_0 rfl hL (mX8_kindAt hJ hq4) gX8_irons_X8_kindAt rfl ⟨rfl, rfl⟩ hyX8_kindAt ⟨Nat.le_of_ble_eq_true rfl, Nat.le_of_ble_eq_true rfl⟩ rfl (Nat.le_of_ble_eq_true rfl) ?_
      obtain ⟨hi5, h⟩ := mm_g_some h
      refine mm_iald X dX8_irons_145 5 0 (by decide) rfl rfl hi5 (v := (σ 5 q4.toNatClampNeg)) rfl ?_
      refine mm_istore_n X dX8_irons_146 (by decide) (lv2 := [(3, .int (σ 5 q4.toNatClampNeg)), (2, .int ((7 : Int32) * (σ 23 l1.toNatClampNeg))), (0, .ref (a 0)), (1, .int l1)]) rfl ?_
      refine mm_aload_n X dX8_irons_147 2 rfl ?_
      refine mm_get X dX8_irons_148 0 29 (by decide) md_cf_0 rfl (by decide) uX8_irons_8 kX8_irons_5 rfl (v := .ref (a 22)) rfl ?_
      refine mm_iload_n X dX8_irons_151 1 rfl ?_
      refine mm_iconst X dX8_irons_152 (v := 5) (by decide) ?_
      refine mm_iadd X dX8_irons_153 ?_
      refine mm_iconst X dX8_irons_154 (v := -1) (by decide) ?_
      obtain ⟨hi6, h⟩ := mm_g_some h
      refine mm_iast X dX8_irons_155 22 0 (by decide) (fun _ => rfl) rfl hi6 ?_
      refine mm_aload_n X dX8_irons_156 2 rfl ?_
      refine mm_get X dX8_irons_157 0 29 (by decide) md_cf_0 rfl (by decide) uX8_irons_8 kX8_irons_5 rfl (v := .ref (a 22)) rfl ?_
      refine mm_iload_n X dX8_irons_160 1 rfl ?_
      refine mm_bipush X dX8_irons_161 (v := 6) (by decide) ?_
      refine mm_iadd X dX8_irons_163 ?_
      refine mm_aload_n X dX8_irons_164 2 rfl ?_
      refine mm_get X dX8_irons_165 0 29 (by decide) md_cf_0 rfl (by decide) uX8_irons_8 kX8_irons_5 rfl (v := .ref (a 22)) rfl ?_
      refine mm_iload_n X dX8_irons_168 1 rfl ?_
      refine mm_iconst X dX8_irons_169 (v := 4) (by decide) ?_
      refine mm_iadd X dX8_irons_170 ?_
      obtain ⟨hi7, h⟩ := mm_g_some h
      refine mm_iald X dX8_irons_171 22 0 (by decide) rfl rfl hi7 (v := ((mm_up σ 22 (((7 : Int32) * (σ 23 l1.toNatClampNeg)) + (5 : Int32)).toNatClampNeg (-1 : Int32)) 22 (((7 : Int32) * (σ 23 l1.toNatClampNeg)) + (4 : Int32)).toNatClampNeg)) rfl ?_
      obtain ⟨hi8, h⟩ := mm_g_some h
      refine mm_iast X dX8_irons_172 22 0 (by decide) (fun _ => rfl) rfl hi8 ?_
      refine mm_iload_n X dX8_irons_173 0 rfl ?_
      refine mm_if_le X dX8_irons_174 (tgt := 296) (by decide) (fun c9 => ?_) (fun c9 => ?_)
      · have h := (if_neg c9).symm.trans h
        refine mm_iinc X dX8_irons_296 3 rfl (v := (l1 + 1)) rfl (by decide) (lv2 := [(1, .int (l1 + 1)), (3, .int (σ 5 q4.toNatClampNeg)), (2, .int ((7 : Int32) * (σ 23 l1.toNatClampNeg))), (0, .ref (a 0))]) rfl ?_
        refine mm_goto X dX8_irons_299 (tgt := 113) (by decide) ?_
        refine mm_loc [3, 0] rfl ?_
        exact ih _ _ h
      · have h := (if_pos c9).symm.trans h
        refine mm_iconst X dX8_irons_177 (v := 0) (by decide) ?_
        refine mm_istore X dX8_irons_178 (by decide) (lv2 := [(4, .int (0 : Int32)), (3, .int (σ 5 q4.toNatClampNeg)), (2, .int ((7 : Int32) * (σ 23 l1.toNatClampNeg))), (0, .ref (a 0)), (1, .int l1)]) rfl ?_
        refine mm_iconst X dX8_irons_180 (v := 1) (by decide) ?_
        refine mm_istore X dX8_irons_181 (by decide) (lv2 := [(5, .int (1 : Int32)), (4, .int (0 : Int32)), (3, .int (σ 5 q4.toNatClampNeg)), (2, .int ((7 : Int32) * (σ 23 l1.toNatClampNeg))), (0, .ref (a 0)), (1, .int l1)]) rfl ?_
        obtain ⟨q10, hq10, h⟩ := Option.bind_eq_some_iff.mp h
        refine mm_loc [4, 5, 3, 2, 1, 0] rfl ?_
        refine tX8_irons_183 X hL hJ ?_ F (0 : Int32) (1 : Int32) hq10
        refine mm_aload_n X dX8_irons_224 0 rfl ?_
        refine mm_get X dX8_irons_225 0 26 (by decide) md_cf_0 rfl (by decide) uX8_irons_8 kX8_irons_2 rfl (v := .ref (a 20)) rfl ?_
        refine mm_iload X dX8_irons_228 4 rfl ?_
        obtain ⟨hi11, h⟩ := mm_g_some h
        refine mm_iald X dX8_irons_230 20 0 (by decide) rfl rfl hi11 (v := (σ 20 q10.toNatClampNeg)) rfl ?_
        refine mm_aload_n X dX8_irons_231 0 rfl ?_
        refine mm_get X dX8_irons_232 0 29 (by decide) md_cf_0 rfl (by decide) uX8_irons_8 kX8_irons_5 rfl (v := .ref (a 22)) rfl ?_
        refine mm_iload_n X dX8_irons_235 2 rfl ?_
        refine mm_iconst X dX8_irons_236 (v := 4) (by decide) ?_
        refine mm_iadd X dX8_irons_237 ?_
        obtain ⟨hi12, h⟩ := mm_g_some h
        refine mm_iald X dX8_irons_238 22 0 (by decide) rfl rfl hi12 (v := ((mm_up (mm_up σ 22 (((7 : Int32) * (σ 23 l1.toNatClampNeg)) + (5 : Int32)).toNatClampNeg (-1 : Int32)) 22 (((7 : Int32) * (σ 23 l1.toNatClampNeg)) + (6 : Int32)).toNatClampNeg ((mm_up σ 22 (((7 : Int32) * (σ 23 l1.toNatClampNeg)) + (5 : Int32)).toNatClampNeg (-1 : Int32)) 22 (((7 : Int32) * (σ 23 l1.toNatClampNeg)) + (4 : Int32)).toNatClampNeg)) 22 (((7 : Int32) * (σ 23 l1.toNatClampNeg)) + (4 : Int32)).toNatClampNeg)) rfl ?_
        obtain ⟨q13, hq13, h⟩ := Option.bind_eq_some_iff.mp h
        have J14 : eG K D cI cZ a (mm_up (mm_up σ 22 (((7 : Int32) * (σ 23 l1.toNatClampNeg)) + (5 : Int32)).toNatClampNeg (-1 : Int32)) 22 (((7 : Int32) * (σ 23 l1.toNatClampNeg)) + (6 : Int32)).toNatClampNeg ((mm_up σ 22 (((7 : Int32) * (σ 23 l1.toNatClampNeg)) + (5 : Int32)).toNatClampNeg (-1 : Int32)) 22 (((7 : Int32) * (σ 23 l1.toNatClampNeg)) + (4 : Int32)).toNatClampNeg)) 260 [(0, .ref (a 0)), (1, .int l1), (2, .int ((7 : Int32) * (σ 23 l1.toNatClampNeg))), (3, .int (σ 5 q4.toNatClampNeg)), (4, .int q10)] [.int q13] := by
          refine mm_istore X dX8_irons_260 (by decide) (lv2 := [(5, .int q13), (0, .ref (a 0)), (1, .int l1), (2, .int ((7 : Int32) * (σ 23 l1.toNatClampNeg))), (3, .int (σ 5 q4.toNatClampNeg)), (4, .int q10)]) rfl ?_
          refine mm_aload_n X dX8_irons_262 1 rfl ?_
          refine mm_get X dX8_irons_263 0 26 (by decide) md_cf_0 rfl (by decide) uX8_irons_8 kX8_irons_2 rfl (v := .ref (a 20)) rfl ?_
          refine mm_iload X dX8_irons_266 5 rfl ?_
          refine mm_iload X dX8_irons_268 0 rfl ?_
          refine mm_iload_n X dX8_irons_270 4 rfl ?_
          refine mm_iadd X dX8_irons_271 ?_
          obtain ⟨hi18, h⟩ := mm_g_some h
          refine mm_iast X dX8_irons_272 20 0 (by decide) (fun _ => rfl) rfl hi18 ?_
          refine mm_aload_n X dX8_irons_273 1 rfl ?_
          refine mm_get X dX8_irons_274 0 29 (by decide) md_cf_0 rfl (by decide) uX8_irons_8 kX8_irons_5 rfl (v := .ref (a 22)) rfl ?_
          refine mm_iload_n X dX8_irons_277 3 rfl ?_
          refine mm_iconst X dX8_irons_278 (v := 5) (by decide) ?_
          refine mm_iadd X dX8_irons_279 ?_
          refine mm_iload X dX8_irons_280 5 rfl ?_
          obtain ⟨hi19, h⟩ := mm_g_some h
          refine mm_iast X dX8_irons_282 22 0 (by decide) (fun _ => rfl) rfl hi19 ?_
          refine mm_aload_n X dX8_irons_283 1 rfl ?_
          refine mm_get X dX8_irons_284 0 29 (by decide) md_cf_0 rfl (by decide) uX8_irons_8 kX8_irons_5 rfl (v := .ref (a 22)) rfl ?_
          refine mm_iload_n X dX8_irons_287 3 rfl ?_
          refine mm_bipush X dX8_irons_288 (v := 6) (by decide) ?_
          refine mm_iadd X dX8_irons_290 ?_
          refine mm_iload X dX8_irons_291 0 rfl ?_
          refine mm_iload_n X dX8_irons_293 4 rfl ?_
          refine mm_iadd X dX8_irons_294 ?_
          obtain ⟨hi20, h⟩ := mm_g_some h
          refine mm_iast X dX8_irons_295 22 0 (by decide) (fun _ => rfl) rfl hi20 ?_
          refine mm_iinc X dX8_irons_296 2 rfl (v := (l1 + 1)) rfl (by decide) (lv2 := [(1, .int (l1 + 1)), (5, .int q13), (0, .ref (a 0)), (2, .int ((7 : Int32) * (σ 23 l1.toNatClampNeg))), (3, .int (σ 5 q4.toNatClampNeg)), (4, .int q10)]) rfl ?_
          refine mm_goto X dX8_irons_299 (tgt := 113) (by decide) ?_
          refine mm_loc [2, 0] rfl ?_
          exact ih _ _ h
        have h := hq13
        refine mm_icmp_le X dX8_irons_239 (tgt := 252) (by decide) (fun c15 => ?_) (fun c15 => ?_)
        · have h := (if_neg c15).symm.trans h
          refine mm_aload_n X dX8_irons_252 0 rfl ?_
          refine mm_get X dX8_irons_253 0 29 (by decide) md_cf_0 rfl (by decide) uX8_irons_8 kX8_irons_5 rfl (v := .ref (a 22)) rfl ?_
          refine mm_iload_n X dX8_irons_256 2 rfl ?_
          refine mm_iconst X dX8_irons_257 (v := 4) (by decide) ?_
          refine mm_iadd X dX8_irons_258 ?_
          obtain ⟨hi16, h⟩ := mm_g_some h
          refine mm_iald X dX8_irons_259 22 0 (by decide) rfl rfl hi16 (v := ((mm_up (mm_up σ 22 (((7 : Int32) * (σ 23 l1.toNatClampNeg)) + (5 : Int32)).toNatClampNeg (-1 : Int32)) 22 (((7 : Int32) * (σ 23 l1.toNatClampNeg)) + (6 : Int32)).toNatClampNeg ((mm_up σ 22 (((7 : Int32) * (σ 23 l1.toNatClampNeg)) + (5 : Int32)).toNatClampNeg (-1 : Int32)) 22 (((7 : Int32) * (σ 23 l1.toNatClampNeg)) + (4 : Int32)).toNatClampNeg)) 22 (((7 : Int32) * (σ 23 l1.toNatClampNeg)) + (4 : Int32)).toNatClampNeg)) rfl ?_
          obtain rfl := Option.some.inj h
          exact J14
        · have h := (if_pos c15).symm.trans h
          refine mm_aload_n X dX8_irons_242 0 rfl ?_
          refine mm_get X dX8_irons_243 0 26 (by decide) md_cf_0 rfl (by decide) uX8_irons_8 kX8_irons_2 rfl (v := .ref (a 20)) rfl ?_
          refine mm_iload X dX8_irons_246 4 rfl ?_
          obtain ⟨hi17, h⟩ := mm_g_some h
          refine mm_iald X dX8_irons_248 20 0 (by decide) rfl rfl hi17 (v := (σ 20 q10.toNatClampNeg)) rfl ?_
          refine mm_goto X dX8_irons_249 (tgt := 260) (by decide) ?_
          obtain rfl := Option.some.inj h
          exact J14
set_option maxRecDepth 100000 in
set_option maxHeartbeats 4000000 in
theorem mX8_irons {l : Launch} {D : va_G} {cI cZ : ClassId} {a : Nat → Nat} (hJ : mm_J 29 a) {F : Nat} {σ : mm_M} {res : mm_M} (h : fX8_irons F σ = some res) (sz : Nat) : Met l yX8_irons wsX8_irons rX8_irons (eP D cI cZ a σ [.ref (a 0)] sz) (eQv D cI cZ a res sz) 0 0 (mm_A 29 a sz) := by
  refine mm_met (fun sz => eQv D cI cZ a res sz) (lv := [(0, .ref (a 0))]) (ret := none) (cc := cX8_irons) (maxL := 6) (own := RX8) hJ (by decide +kernel) rfl rfl (Nat.le_of_ble_eq_true rfl) rfl ?_ sz
  intro K hL X hQ
  unfold fX8_irons at h
  refine mm_iconst X dX8_irons_0 (v := 0) (by decide) ?_
  refine mm_istore_n X dX8_irons_1 (by decide) (lv2 := [(1, .int (0 : Int32)), (0, .ref (a 0))]) rfl ?_
  obtain ⟨q1, hq1, h⟩ := Option.bind_eq_some_iff.mp h
  refine mm_loc [1, 0] rfl ?_
  refine tX8_irons_2 X hL hJ ?_ F (0 : Int32) σ hq1
  refine mm_iconst X dX8_irons_23 (v := 1) (by decide) ?_
  refine mm_istore_n X dX8_irons_24 (by decide) (lv2 := [(1, .int (1 : Int32)), (0, .ref (a 0))]) rfl ?_
  obtain ⟨q2, hq2, h⟩ := Option.bind_eq_some_iff.mp h
  refine mm_loc [1, 0] rfl ?_
  refine tX8_irons_25 X hL hJ ?_ F (1 : Int32) q1 hq2
  refine mm_iconst X dX8_irons_111 (v := 0) (by decide) ?_
  refine mm_istore_n X dX8_irons_112 (by decide) (lv2 := [(1, .int (0 : Int32)), (0, .ref (a 0))]) rfl ?_
  obtain ⟨q3, hq3, h⟩ := Option.bind_eq_some_iff.mp h
  refine mm_loc [1, 0] rfl ?_
  refine tX8_irons_113 X hL hJ ?_ F (0 : Int32) q2 hq3
  obtain rfl := Option.some.inj h
  exact mm_vret X dX8_irons_302 rfl hQ
