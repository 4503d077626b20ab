/-! LinenTunnelModel.scan -/
def fX8_scan_56 (F : Nat) (l1 : Int32) (l2 : Int32) : Nat → Int32 → Int32 → mm_M → Option (Int32 × mm_M)
  | 0, _, _, _ => none
  | k + 1, l3, l4, σ => (if l4 < l2 then mm_g 240 (((60 : Int32) * l1) + l4) (((if (fX8_isPiece σ (σ 27 (((60 : Int32) * l1) + l4).toNatClampNeg)) = 0 then some (l3, σ) else mm_g 100 (σ 27 (((60 : Int32) * l1) + l4).toNatClampNeg) ((if (σ 9 (σ 27 (((60 : Int32) * l1) + l4).toNatClampNeg).toNatClampNeg) = 0 then mm_g 100 (σ 27 (((60 : Int32) * l1) + l4).toNatClampNeg) ((if (σ 8 (σ 27 (((60 : Int32) * l1) + l4).toNatClampNeg).toNatClampNeg) = 0 then some (l3, σ) else mm_g 100 (σ 27 (((60 : Int32) * l1) + l4).toNatClampNeg) (some ((l3 + 1), (mm_up σ 9 (σ 27 (((60 : Int32) * l1) + l4).toNatClampNeg).toNatClampNeg (1 : Int32)))))) else some (l3, σ))))).bind fun q3 => fX8_scan_56 F l1 l2 k q3.1 (l4 + 1) q3.2) else some (l3, σ))
def fX8_scan (F : Nat) (σ : mm_M) (p1 p2 : Int32) : Option (Int32 × mm_M) := (if (fX8_isSheet p1) = 0 then some ((-2 : Int32), σ) else (if (fX8_in p2 (0 : Int32) (60 : Int32)) = 0 then some ((-2 : Int32), σ) else mm_g 4 p1 ((if (σ 24 p1.toNatClampNeg) = 0 then some ((fX8_meets σ (1 : Int32)).1, (fX8_meets σ (1 : Int32)).2) else mm_g 4 p1 ((if (σ 26 p1.toNatClampNeg) < p2 then some ((fX8_meets σ (2 : Int32)).1, (fX8_meets σ (2 : Int32)).2) else (fX8_scan_56 F p1 p2 F (0 : Int32) (0 : Int32) σ).bind fun q7 => some (q7.1, q7.2)))))))
abbrev rX8_scan : Room := { frames := 2, cells := 0, slots := 0, locals := 43 }
theorem hyX8_scan : yX8_scan.cls = RX8 ∧ yX8_scan.cls ≠ "java/lang/invoke/MethodHandle" ∧ yX8_scan.cls ≠ "java/lang/invoke/VarHandle" ∧ (parseMethodDescriptor yX8_scan.desc).map (fun d => d.parameters.length) = some 2 := by decide +kernel
theorem kX8_scan_1 : (Cond.fieldLink RX8 90 "LinenTunnelModel" "isThere" "[Z" : Cond) ∈ wsX8_scan := List.mem_of_getElem? (i := 1) rfl
theorem uX8_scan_8 : ∀ w ∈ u_ws RX8 TX8 37, w ∈ wsX8_scan := fun _ h => (List.mem_cons_of_mem _ (List.mem_append_right _ h))
theorem kX8_scan_2 : (Cond.fieldLink RX8 96 "LinenTunnelModel" "sizes" "[I" : Cond) ∈ wsX8_scan := List.mem_of_getElem? (i := 2) rfl
theorem kX8_scan_3 : (Cond.fieldLink RX8 99 "LinenTunnelModel" "items" "[I" : Cond) ∈ wsX8_scan := List.mem_of_getElem? (i := 3) rfl
theorem kX8_scan_4 : (Cond.fieldLink RX8 35 "LinenTunnelModel" "placeOf" "[I" : Cond) ∈ wsX8_scan := List.mem_of_getElem? (i := 4) rfl
theorem kX8_scan_5 : (Cond.fieldLink RX8 32 "LinenTunnelModel" "hasChip" "[Z" : Cond) ∈ wsX8_scan := List.mem_of_getElem? (i := 5) rfl
set_option maxRecDepth 100000 in
set_option maxHeartbeats 4000000 in
theorem tX8_scan_56 {l : Launch} {K : mm_K} {D : va_G} {cI cZ : ClassId} {a : Nat → Nat} (X : eC K rX8_scan cX8_scan 6 (some .int) wsX8_scan RX8 D cI cZ a) (hL : mm_L K l) (hJ : mm_J 29 a) {F : Nat} {l1 : Int32} {l2 : Int32} {out : Int32 × mm_M} (hx : eG K D cI cZ a out.2 122 [(3, .int out.1)] []) : ∀ (k : Nat) (l3 : Int32) (l4 : Int32) (σ : mm_M), fX8_scan_56 F l1 l2 k l3 l4 σ = some out → eG K D cI cZ a σ 56 [(0, .ref (a 0)), (1, .int l1), (2, .int l2), (3, .int l3), (4, .int l4)] [] := by
  intro k
  induction k with
  | zero =>
    intro l3 l4 σ h
    have h : none = some out := h
    cases h
  | succ k ih =>
    intro l3 l4 σ h
    rw [fX8_scan_56] at h
    refine mm_iload X dX8_scan_56 4 rfl ?_
    refine mm_iload_n X dX8_scan_58 2 rfl ?_
    refine mm_icmp_ge X dX8_scan_59 (tgt := 122) (by decide) (fun c1 => ?_) (fun c1 => ?_)
    · have h := (if_neg c1).symm.trans h
      obtain rfl := Option.some.inj h
      refine mm_loc [3] rfl ?_
      exact hx
    · have h := (if_pos c1).symm.trans h
      refine mm_aload_n X dX8_scan_62 0 rfl ?_
      refine mm_get X dX8_scan_63 0 34 (by decide) md_cf_0 rfl (by decide) uX8_scan_8 kX8_scan_3 rfl (v := .ref (a 27)) rfl ?_
      refine mm_bipush X dX8_scan_66 (v := 60) (by decide) ?_
      refine mm_iload_n X dX8_scan_68 1 rfl ?_
      refine mm_imul X dX8_scan_69 ?_
      refine mm_iload X dX8_scan_70 4 rfl ?_
      refine mm_iadd X dX8_scan_72 ?_
      obtain ⟨hi2, h⟩ := mm_g_some h
      refine mm_iald X dX8_scan_73 27 0 (by decide) rfl rfl hi2 (v := (σ 27 (((60 : Int32) * l1) + l4).toNatClampNeg)) rfl ?_
      refine mm_istore X dX8_scan_74 (by decide) (lv2 := [(5, .int (σ 27 (((60 : Int32) * l1) + l4).toNatClampNeg)), (0, .ref (a 0)), (1, .int l1), (2, .int l2), (3, .int l3), (4, .int l4)]) rfl ?_
      refine mm_aload_n X dX8_scan_76 1 rfl ?_
      refine mm_iload X dX8_scan_77 0 rfl ?_
      refine mm_callVi X dX8_scan_79 (As := [.int (σ 27 (((60 : Int32) * l1) + l4).toNatClampNeg)]) (rest := []) 0 (by decide) md_cf_0 rfl hL (mX8_isPiece hJ (res := fX8_isPiece σ (σ 27 (((60 : Int32) * l1) + l4).toNatClampNeg)) rfl) gX8_scan_X8_isPiece rfl ⟨rfl, rfl⟩ hyX8_isPiece ⟨Nat.le_of_ble_eq_true rfl, Nat.le_of_ble_eq_true rfl⟩ rfl (Nat.le_of_ble_eq_true rfl) ?_
      obtain ⟨q3, hq3, h⟩ := Option.bind_eq_some_iff.mp h
      have J4 : eG K D cI cZ a q3.2 116 [(0, .ref (a 0)), (1, .int l1), (2, .int l2), (3, .int q3.1), (4, .int l4)] [] := by
        refine mm_iinc X dX8_scan_116 4 rfl (v := (l4 + 1)) rfl (by decide) (lv2 := [(4, .int (l4 + 1)), (0, .ref (a 0)), (1, .int l1), (2, .int l2), (3, .int q3.1)]) rfl ?_
        refine mm_goto X dX8_scan_119 (tgt := 56) (by decide) ?_
        refine mm_loc [1, 2, 3, 4, 0] rfl ?_
        exact ih _ _ _ h
      have h := hq3
      refine mm_if_eq X dX8_scan_82 (tgt := 116) (by decide) (fun c5 => ?_) (fun c5 => ?_)
      · have h := (if_pos c5).symm.trans h
        obtain rfl := Option.some.inj h
        refine mm_loc [1, 2, 3, 4, 5] rfl ?_
        exact J4
      · have h := (if_neg c5).symm.trans h
        refine mm_aload_n X dX8_scan_85 1 rfl ?_
        refine mm_get X dX8_scan_86 0 10 (by decide) md_cf_0 rfl (by decide) uX8_scan_8 kX8_scan_4 rfl (v := .ref (a 9)) rfl ?_
        refine mm_iload X dX8_scan_89 0 rfl ?_
        obtain ⟨hi6, h⟩ := mm_g_some h
        refine mm_iald X dX8_scan_91 9 0 (by decide) rfl rfl hi6 (v := (σ 9 (σ 27 (((60 : Int32) * l1) + l4).toNatClampNeg).toNatClampNeg)) rfl ?_
        refine mm_if_ne X dX8_scan_92 (tgt := 116) (by decide) (fun c7 => ?_) (fun c7 => ?_)
        · have h := (if_neg c7).symm.trans h
          obtain rfl := Option.some.inj h
          refine mm_loc [1, 2, 3, 4, 5] rfl ?_
          exact J4
        · have h := (if_pos c7).symm.trans h
          refine mm_aload_n X dX8_scan_95 1 rfl ?_
          refine mm_get X dX8_scan_96 0 9 (by decide) md_cf_0 rfl (by decide) uX8_scan_8 kX8_scan_5 rfl (v := .ref (a 8)) rfl ?_
          refine mm_iload X dX8_scan_99 0 rfl ?_
          obtain ⟨hi8, h⟩ := mm_g_some h
          refine mm_zald X dX8_scan_101 8 1 (by decide) rfl rfl hi8 (v := (σ 8 (σ 27 (((60 : Int32) * l1) + l4).toNatClampNeg).toNatClampNeg)) rfl ?_
          refine mm_if_eq X dX8_scan_102 (tgt := 116) (by decide) (fun c9 => ?_) (fun c9 => ?_)
          · have h := (if_pos c9).symm.trans h
            obtain rfl := Option.some.inj h
            refine mm_loc [1, 2, 3, 4, 5] rfl ?_
            exact J4
          · have h := (if_neg c9).symm.trans h
            refine mm_aload_n X dX8_scan_105 1 rfl ?_
            refine mm_get X dX8_scan_106 0 10 (by decide) md_cf_0 rfl (by decide) uX8_scan_8 kX8_scan_4 rfl (v := .ref (a 9)) rfl ?_
            refine mm_iload X dX8_scan_109 0 rfl ?_
            refine mm_iconst X dX8_scan_111 (v := 1) (by decide) ?_
            obtain ⟨hi10, h⟩ := mm_g_some h
            refine mm_iast X dX8_scan_112 9 0 (by decide) (fun _ => rfl) rfl hi10 ?_
            refine mm_iinc X dX8_scan_113 4 rfl (v := (l3 + 1)) rfl (by decide) (lv2 := [(3, .int (l3 + 1)), (5, .int (σ 27 (((60 : Int32) * l1) + l4).toNatClampNeg)), (0, .ref (a 0)), (1, .int l1), (2, .int l2), (4, .int l4)]) rfl ?_
            obtain rfl := Option.some.inj h
            refine mm_loc [2, 3, 4, 0, 5] rfl ?_
            exact J4
set_option maxRecDepth 100000 in
set_option maxHeartbeats 4000000 in
theorem mX8_scan {l : Launch} {D : va_G} {cI cZ : ClassId} {a : Nat → Nat} (hJ : mm_J 29 a) {F : Nat} {σ : mm_M} {p1 p2 : Int32} {res : Int32 × mm_M} (h : fX8_scan F σ p1 p2 = some res) (sz : Nat) : Met l yX8_scan wsX8_scan rX8_scan (eP D cI cZ a σ [.ref (a 0), .int p1, .int p2] sz) (eQi D cI cZ a res.1 res.2 sz) 0 0 (mm_A 29 a sz) := by
  refine mm_met (fun sz => eQi D cI cZ a res.1 res.2 sz) (lv := [(0, .ref (a 0)), (1, .int p1), (2, .int p2)]) (ret := (some .int)) (cc := cX8_scan) (maxL := 6) (own := RX8) hJ (by decide +kernel) rfl rfl (Nat.le_of_ble_eq_true rfl) rfl ?_ sz
  intro K hL X hQ
  unfold fX8_scan at h
  refine mm_iload_n X dX8_scan_0 1 rfl ?_
  refine mm_callSi X dX8_scan_1 (As := [.int p1]) (rest := []) hL (mX8_isSheet hJ (res := fX8_isSheet p1) rfl) gX8_scan_X8_isSheet rfl ⟨rfl, rfl⟩ hyX8_isSheet ⟨Nat.le_of_ble_eq_true rfl, Nat.le_of_ble_eq_true rfl⟩ rfl (Nat.le_of_ble_eq_true rfl) ?_
  refine mm_if_eq X dX8_scan_4 (tgt := 17) (by decide) (fun c1 => ?_) (fun c1 => ?_)
  · have h := (if_pos c1).symm.trans h
    refine mm_bipush X dX8_scan_17 (v := -2) (by decide) ?_
    obtain rfl := Option.some.inj h
    exact mm_iret X dX8_scan_19 rfl hQ rfl
  · have h := (if_neg c1).symm.trans h
    refine mm_iload_n X dX8_scan_7 2 rfl ?_
    refine mm_iconst X dX8_scan_8 (v := 0) (by decide) ?_
    refine mm_bipush X dX8_scan_9 (v := 60) (by decide) ?_
    refine mm_callSi X dX8_scan_11 (As := [.int p2, .int (0 : Int32), .int (60 : Int32)]) (rest := []) hL (mX8_in hJ (res := fX8_in p2 (0 : Int32) (60 : Int32)) rfl) gX8_scan_X8_in rfl ⟨rfl, rfl⟩ hyX8_in ⟨Nat.le_of_ble_eq_true rfl, Nat.le_of_ble_eq_true rfl⟩ rfl (Nat.le_of_ble_eq_true rfl) ?_
    refine mm_if_ne X dX8_scan_14 (tgt := 20) (by decide) (fun c2 => ?_) (fun c2 => ?_)
    · have h := (if_neg c2).symm.trans h
      refine mm_aload_n X dX8_scan_20 0 rfl ?_
      refine mm_get X dX8_scan_21 0 31 (by decide) md_cf_0 rfl (by decide) uX8_scan_8 kX8_scan_1 rfl (v := .ref (a 24)) rfl ?_
      refine mm_iload_n X dX8_scan_24 1 rfl ?_
      obtain ⟨hi3, h⟩ := mm_g_some h
      refine mm_zald X dX8_scan_25 24 1 (by decide) rfl rfl hi3 (v := (σ 24 p1.toNatClampNeg)) rfl ?_
      refine mm_if_ne X dX8_scan_26 (tgt := 35) (by decide) (fun c4 => ?_) (fun c4 => ?_)
      · have h := (if_neg c4).symm.trans h
        refine mm_iload_n X dX8_scan_35 2 rfl ?_
        refine mm_aload_n X dX8_scan_36 0 rfl ?_
        refine mm_get X dX8_scan_37 0 33 (by decide) md_cf_0 rfl (by decide) uX8_scan_8 kX8_scan_2 rfl (v := .ref (a 26)) rfl ?_
        refine mm_iload_n X dX8_scan_40 1 rfl ?_
        obtain ⟨hi5, h⟩ := mm_g_some h
        refine mm_iald X dX8_scan_41 26 0 (by decide) rfl rfl hi5 (v := (σ 26 p1.toNatClampNeg)) rfl ?_
        refine mm_icmp_le X dX8_scan_42 (tgt := 51) (by decide) (fun c6 => ?_) (fun c6 => ?_)
        · have h := (if_neg c6).symm.trans h
          refine mm_iconst X dX8_scan_51 (v := 0) (by decide) ?_
          refine mm_istore_n X dX8_scan_52 (by decide) (lv2 := [(3, .int (0 : Int32)), (0, .ref (a 0)), (1, .int p1), (2, .int p2)]) rfl ?_
          refine mm_iconst X dX8_scan_53 (v := 0) (by decide) ?_
          refine mm_istore X dX8_scan_54 (by decide) (lv2 := [(4, .int (0 : Int32)), (3, .int (0 : Int32)), (0, .ref (a 0)), (1, .int p1), (2, .int p2)]) rfl ?_
          obtain ⟨q7, hq7, h⟩ := Option.bind_eq_some_iff.mp h
          refine mm_loc [2, 3, 4, 1, 0] rfl ?_
          refine tX8_scan_56 X hL hJ ?_ F (0 : Int32) (0 : Int32) σ hq7
          refine mm_iload_n X dX8_scan_122 0 rfl ?_
          obtain rfl := Option.some.inj h
          exact mm_iret X dX8_scan_123 rfl hQ rfl
        · have h := (if_pos c6).symm.trans h
          refine mm_aload_n X dX8_scan_45 0 rfl ?_
          refine mm_iconst X dX8_scan_46 (v := 2) (by decide) ?_
          refine mm_callVi X dX8_scan_47 (As := [.int (2 : Int32)]) (rest := []) 0 (by decide) md_cf_0 rfl hL (mX8_meets hJ (res := fX8_meets σ (2 : Int32)) rfl) gX8_scan_X8_meets rfl ⟨rfl, rfl⟩ hyX8_meets ⟨Nat.le_of_ble_eq_true rfl, Nat.le_of_ble_eq_true rfl⟩ rfl (Nat.le_of_ble_eq_true rfl) ?_
          obtain rfl := Option.some.inj h
          exact mm_iret X dX8_scan_50 rfl hQ rfl
      · have h := (if_pos c4).symm.trans h
        refine mm_aload_n X dX8_scan_29 0 rfl ?_
        refine mm_iconst X dX8_scan_30 (v := 1) (by decide) ?_
        refine mm_callVi X dX8_scan_31 (As := [.int (1 : Int32)]) (rest := []) 0 (by decide) md_cf_0 rfl hL (mX8_meets hJ (res := fX8_meets σ (1 : Int32)) rfl) gX8_scan_X8_meets rfl ⟨rfl, rfl⟩ hyX8_meets ⟨Nat.le_of_ble_eq_true rfl, Nat.le_of_ble_eq_true rfl⟩ rfl (Nat.le_of_ble_eq_true rfl) ?_
        obtain rfl := Option.some.inj h
        exact mm_iret X dX8_scan_34 rfl hQ rfl
    · have h := (if_pos c2).symm.trans h
      refine mm_bipush X dX8_scan_17 (v := -2) (by decide) ?_
      obtain rfl := Option.some.inj h
      exact mm_iret X dX8_scan_19 rfl hQ rfl
/-! LinenTunnelModel.hand -/
def fX8_hand (σ : mm_M) (p1 : Int32) : Option (Int32 × mm_M) := (if (fX8_isPiece σ p1) = 0 then some ((-2 : Int32), σ) else mm_g 100 p1 ((if (σ 9 p1.toNatClampNeg) = 0 then mm_g 100 p1 (some ((1 : Int32), (mm_up σ 9 p1.toNatClampNeg (1 : Int32)))) else some ((-4 : Int32), σ))))
abbrev rX8_hand : Room := { frames := 2, cells := 0, slots := 0, locals := 43 }
theorem hyX8_hand : yX8_hand.cls = RX8 ∧ yX8_hand.cls ≠ "java/lang/invoke/MethodHandle" ∧ yX8_hand.cls ≠ "java/lang/invoke/VarHandle" ∧ (parseMethodDescriptor yX8_hand.desc).map (fun d => d.parameters.length) = some 1 := by decide +kernel
theorem kX8_hand_1 : (Cond.fieldLink RX8 35 "LinenTunnelModel" "placeOf" "[I" : Cond) ∈ wsX8_hand := List.mem_of_getElem? (i := 1) rfl
theorem uX8_hand_8 : ∀ w ∈ u_ws RX8 TX8 37, w ∈ wsX8_hand := fun _ h => (List.mem_cons_of_mem _ (List.mem_append_right _ h))
set_option maxRecDepth 100000 in
set_option maxHeartbeats 4000000 in
theorem mX8_hand {l : Launch} {D : va_G} {cI cZ : ClassId} {a : Nat → Nat} (hJ : mm_J 29 a) {σ : mm_M} {p1 : Int32} {res : Int32 × mm_M} (h : fX8_hand σ p1 = some res) (sz : Nat) : Met l yX8_hand wsX8_hand rX8_hand (eP D cI cZ a σ [.ref (a 0), .int p1] sz) (eQi D cI cZ a res.1 res.2 sz) 0 0 (mm_A 29 a sz) := by
  refine mm_met (fun sz => eQi D cI cZ a res.1 res.2 sz) (lv := [(0, .ref (a 0)), (1, .int p1)]) (ret := (some .int)) (cc := cX8_hand) (maxL := 2) (own := RX8) hJ (by decide +kernel) rfl rfl (Nat.le_of_ble_eq_true rfl) rfl ?_ sz
  intro K hL X hQ
  unfold fX8_hand at h
  refine mm_aload_n X dX8_hand_0 0 rfl ?_
  refine mm_iload_n X dX8_hand_1 1 rfl ?_
  refine mm_callVi X dX8_hand_2 (As := [.int p1]) (rest := []) 0 (by decide) md_cf_0 rfl hL (mX8_isPiece hJ (res := fX8_isPiece σ p1) rfl) gX8_hand_X8_isPiece rfl ⟨rfl, rfl⟩ hyX8_isPiece ⟨Nat.le_of_ble_eq_true rfl, Nat.le_of_ble_eq_true rfl⟩ rfl (Nat.le_of_ble_eq_true rfl) ?_
  refine mm_if_ne X dX8_hand_5 (tgt := 11) (by decide) (fun c1 => ?_) (fun c1 => ?_)
  · have h := (if_neg c1).symm.trans h
    refine mm_aload_n X dX8_hand_11 0 rfl ?_
    refine mm_get X dX8_hand_12 0 10 (by decide) md_cf_0 rfl (by decide) uX8_hand_8 kX8_hand_1 rfl (v := .ref (a 9)) rfl ?_
    refine mm_iload_n X dX8_hand_15 1 rfl ?_
    obtain ⟨hi2, h⟩ := mm_g_some h
    refine mm_iald X dX8_hand_16 9 0 (by decide) rfl rfl hi2 (v := (σ 9 p1.toNatClampNeg)) rfl ?_
    refine mm_if_eq X dX8_hand_17 (tgt := 23) (by decide) (fun c3 => ?_) (fun c3 => ?_)
    · have h := (if_pos c3).symm.trans h
      refine mm_aload_n X dX8_hand_23 0 rfl ?_
      refine mm_get X dX8_hand_24 0 10 (by decide) md_cf_0 rfl (by decide) uX8_hand_8 kX8_hand_1 rfl (v := .ref (a 9)) rfl ?_
      refine mm_iload_n X dX8_hand_27 1 rfl ?_
      refine mm_iconst X dX8_hand_28 (v := 1) (by decide) ?_
      obtain ⟨hi4, h⟩ := mm_g_some h
      refine mm_iast X dX8_hand_29 9 0 (by decide) (fun _ => rfl) rfl hi4 ?_
      refine mm_iconst X dX8_hand_30 (v := 1) (by decide) ?_
      obtain rfl := Option.some.inj h
      exact mm_iret X dX8_hand_31 rfl hQ rfl
    · have h := (if_neg c3).symm.trans h
      refine mm_bipush X dX8_hand_20 (v := -4) (by decide) ?_
      obtain rfl := Option.some.inj h
      exact mm_iret X dX8_hand_22 rfl hQ rfl
  · have h := (if_pos c1).symm.trans h
    refine mm_bipush X dX8_hand_8 (v := -2) (by decide) ?_
    obtain rfl := Option.some.inj h
    exact mm_iret X dX8_hand_10 rfl hQ rfl
/-! LinenTunnelModel.batch -/
def fX8_batch_48 (F : Nat) (l1 : Int32) (l2 : Int32) (l3 : Int32) : Nat → Int32 → Int32 → mm_M → Option (Int32 × mm_M)
  | 0, _, _, _ => none
  | k + 1, l4, l5, σ => (if l5 < (σ 0 6) then (if l4 < l3 then (fX8_is σ l5 l2 l1 (1 : Int32)).bind fun q3 => ((if q3 = 0 then some (l4, σ) else mm_g 240 (((20 : Int32) * (σ 0 13)) + l4) (mm_g 100 l5 (mm_g 100 l5 (some ((l4 + 1), (mm_up (mm_up (mm_up σ 14 (((20 : Int32) * (σ 0 13)) + l4).toNatClampNeg l5) 9 l5.toNatClampNeg (2 : Int32)) 11 l5.toNatClampNeg (σ 0 13)))))))).bind fun q4 => fX8_batch_48 F l1 l2 l3 k q4.1 (l5 + 1) q4.2 else some (l4, σ)) else some (l4, σ))
def fX8_batch (F : Nat) (σ : mm_M) (p1 p2 p3 : Int32) : Option (Int32 × mm_M) := (if (fX8_isKind σ p1) = 0 then some ((-2 : Int32), σ) else (if (fX8_in p2 (-1 : Int32) (5 : Int32)) = 0 then some ((-2 : Int32), σ) else (if (fX8_in p3 (1 : Int32) (20 : Int32)) = 0 then some ((-2 : Int32), σ) else (if (σ 0 13) = (12 : Int32) then some ((-3 : Int32), σ) else (fX8_batch_48 F p1 p2 p3 F (0 : Int32) (0 : Int32) σ).bind fun q5 => (if q5.1 = 0 then some ((-4 : Int32), q5.2) else mm_g 12 (q5.2 0 13) (mm_g 12 (q5.2 0 13) (mm_g 12 (q5.2 0 13) (some (q5.1, (mm_up (mm_up (mm_up (mm_up q5.2 12 (q5.2 0 13).toNatClampNeg p1) 13 (q5.2 0 13).toNatClampNeg q5.1) 15 (q5.2 0 13).toNatClampNeg (q5.2 0 13)) 0 13 ((q5.2 0 13) + (1 : Int32))))))))))))
abbrev rX8_batch : Room := { frames := 2, cells := 0, slots := 0, locals := 43 }
theorem hyX8_batch : yX8_batch.cls = RX8 ∧ yX8_batch.cls ≠ "java/lang/invoke/MethodHandle" ∧ yX8_batch.cls ≠ "java/lang/invoke/VarHandle" ∧ (parseMethodDescriptor yX8_batch.desc).map (fun d => d.parameters.length) = some 3 := by decide +kernel
theorem kX8_batch_1 : (Cond.fieldLink RX8 133 "LinenTunnelModel" "batches" "I" : Cond) ∈ wsX8_batch := List.mem_of_getElem? (i := 1) rfl
theorem uX8_batch_8 : ∀ w ∈ u_ws RX8 TX8 37, w ∈ wsX8_batch := fun _ h => (List.mem_cons_of_mem _ (List.mem_append_right _ h))
theorem kX8_batch_2 : (Cond.fieldLink RX8 112 "LinenTunnelModel" "pieceMany" "I" : Cond) ∈ wsX8_batch := List.mem_of_getElem? (i := 2) rfl
theorem kX8_batch_3 : (Cond.fieldLink RX8 50 "LinenTunnelModel" "batchPiece" "[I" : Cond) ∈ wsX8_batch := List.mem_of_getElem? (i := 3) rfl
theorem kX8_batch_4 : (Cond.fieldLink RX8 35 "LinenTunnelModel" "placeOf" "[I" : Cond) ∈ wsX8_batch := List.mem_of_getElem? (i := 4) rfl
theorem kX8_batch_5 : (Cond.fieldLink RX8 41 "LinenTunnelModel" "batchOf" "[I" : Cond) ∈ wsX8_batch := List.mem_of_getElem? (i := 5) rfl
theorem kX8_batch_6 : (Cond.fieldLink RX8 44 "LinenTunnelModel" "batchKind" "[I" : Cond) ∈ wsX8_batch := List.mem_of_getElem? (i := 6) rfl
theorem kX8_batch_7 : (Cond.fieldLink RX8 47 "LinenTunnelModel" "batchMany" "[I" : Cond) ∈ wsX8_batch := List.mem_of_getElem? (i := 7) rfl
theorem kX8_batch_8 : (Cond.fieldLink RX8 53 "LinenTunnelModel" "order" "[I" : Cond) ∈ wsX8_batch := List.mem_of_getElem? (i := 8) rfl
set_option maxRecDepth 100000 in
set_option maxHeartbeats 4000000 in
theorem tX8_batch_48 {l : Launch} {K : mm_K} {D : va_G} {cI cZ : ClassId} {a : Nat → Nat} (X : eC K rX8_batch cX8_batch 6 (some .int) wsX8_batch RX8 D cI cZ a) (hL : mm_L K l) (hJ : mm_J 29 a) {F : Nat} {l1 : Int32} {l2 : Int32} {l3 : Int32} {out : Int32 × mm_M} (hx : eG K D cI cZ a out.2 120 [(0, .ref (a 0)), (1, .int l1), (4, .int out.1)] []) : ∀ (k : Nat) (l4 : Int32) (l5 : Int32) (σ : mm_M), fX8_batch_48 F l1 l2 l3 k l4 l5 σ = some out → eG K D cI cZ a σ 48 [(0, .ref (a 0)), (1, .int l1), (2, .int l2), (3, .int l3), (4, .int l4), (5, .int l5)] [] := by
  intro k
  induction k with
  | zero =>
    intro l4 l5 σ h
    have h : none = some out := h
    cases h
  | succ k ih =>
    intro l4 l5 σ h
    rw [fX8_batch_48] at h
    refine mm_iload X dX8_batch_48 5 rfl ?_
    refine mm_aload_n X dX8_batch_50 0 rfl ?_
    refine mm_get X dX8_batch_51 0 6 (by decide) md_cf_0 rfl (by decide) uX8_batch_8 kX8_batch_2 rfl (v := .int (σ 0 6)) rfl ?_
    refine mm_icmp_ge X dX8_batch_54 (tgt := 120) (by decide) (fun c1 => ?_) (fun c1 => ?_)
    · have h := (if_neg c1).symm.trans h
      obtain rfl := Option.some.inj h
      refine mm_loc [0, 1, 4] rfl ?_
      exact hx
    · have h := (if_pos c1).symm.trans h
      refine mm_iload X dX8_batch_57 4 rfl ?_
      refine mm_iload_n X dX8_batch_59 3 rfl ?_
      refine mm_icmp_ge X dX8_batch_60 (tgt := 120) (by decide) (fun c2 => ?_) (fun c2 => ?_)
      · have h := (if_neg c2).symm.trans h
        obtain rfl := Option.some.inj h
        refine mm_loc [0, 1, 4] rfl ?_
        exact hx
      · have h := (if_pos c2).symm.trans h
        refine mm_aload_n X dX8_batch_63 0 rfl ?_
        refine mm_iload X dX8_batch_64 5 rfl ?_
        refine mm_iload_n X dX8_batch_66 2 rfl ?_
        refine mm_iload_n X dX8_batch_67 1 rfl ?_
        refine mm_iconst X dX8_batch_68 (v := 1) (by decide) ?_
        obtain ⟨q3, hq3, h⟩ := Option.bind_eq_some_iff.mp h
        refine mm_callVi X dX8_batch_69 (As := [.int l5, .int l2, .int l1, .int (1 : Int32)]) (rest := []) 0 (by decide) md_cf_0 rfl hL (mX8_is hJ hq3) gX8_batch_X8_is rfl ⟨rfl, rfl⟩ hyX8_is ⟨Nat.le_of_ble_eq_true rfl, Nat.le_of_ble_eq_true rfl⟩ rfl (Nat.le_of_ble_eq_true rfl) ?_
        obtain ⟨q4, hq4, h⟩ := Option.bind_eq_some_iff.mp h
        have J5 : eG K D cI cZ a q4.2 114 [(0, .ref (a 0)), (1, .int l1), (2, .int l2), (3, .int l3), (4, .int q4.1), (5, .int l5)] [] := by
          refine mm_iinc X dX8_batch_114 5 rfl (v := (l5 + 1)) rfl (by decide) (lv2 := [(5, .int (l5 + 1)), (0, .ref (a 0)), (1, .int l1), (2, .int l2), (3, .int l3), (4, .int q4.1)]) rfl ?_
          refine mm_goto X dX8_batch_117 (tgt := 48) (by decide) ?_
          refine mm_loc [1, 2, 3, 4, 5, 0] rfl ?_
          exact ih _ _ _ h
        have h := hq4
        refine mm_if_eq X dX8_batch_72 (tgt := 114) (by decide) (fun c6 => ?_) (fun c6 => ?_)
        · have h := (if_pos c6).symm.trans h
          obtain rfl := Option.some.inj h
          exact J5
        · have h := (if_neg c6).symm.trans h
          refine mm_aload_n X dX8_batch_75 0 rfl ?_
          refine mm_get X dX8_batch_76 0 16 (by decide) md_cf_0 rfl (by decide) uX8_batch_8 kX8_batch_3 rfl (v := .ref (a 14)) rfl ?_
          refine mm_bipush X dX8_batch_79 (v := 20) (by decide) ?_
          refine mm_aload_n X dX8_batch_81 0 rfl ?_
          refine mm_get X dX8_batch_82 0 13 (by decide) md_cf_0 rfl (by decide) uX8_batch_8 kX8_batch_1 rfl (v := .int (σ 0 13)) rfl ?_
          refine mm_imul X dX8_batch_85 ?_
          refine mm_iload X dX8_batch_86 4 rfl ?_
          refine mm_iadd X dX8_batch_88 ?_
          refine mm_iload X dX8_batch_89 5 rfl ?_
          obtain ⟨hi7, h⟩ := mm_g_some h
          refine mm_iast X dX8_batch_91 14 0 (by decide) (fun _ => rfl) rfl hi7 ?_
          refine mm_aload_n X dX8_batch_92 0 rfl ?_
          refine mm_get X dX8_batch_93 0 10 (by decide) md_cf_0 rfl (by decide) uX8_batch_8 kX8_batch_4 rfl (v := .ref (a 9)) rfl ?_
          refine mm_iload X dX8_batch_96 5 rfl ?_
          refine mm_iconst X dX8_batch_98 (v := 2) (by decide) ?_
          obtain ⟨hi8, h⟩ := mm_g_some h
          refine mm_iast X dX8_batch_99 9 0 (by decide) (fun _ => rfl) rfl hi8 ?_
          refine mm_aload_n X dX8_batch_100 0 rfl ?_
          refine mm_get X dX8_batch_101 0 12 (by decide) md_cf_0 rfl (by decide) uX8_batch_8 kX8_batch_5 rfl (v := .ref (a 11)) rfl ?_
          refine mm_iload X dX8_batch_104 5 rfl ?_
          refine mm_aload_n X dX8_batch_106 0 rfl ?_
          refine mm_get X dX8_batch_107 0 13 (by decide) md_cf_0 rfl (by decide) uX8_batch_8 kX8_batch_1 rfl (v := .int (σ 0 13)) rfl ?_
          obtain ⟨hi9, h⟩ := mm_g_some h
          refine mm_iast X dX8_batch_110 11 0 (by decide) (fun _ => rfl) rfl hi9 ?_
          refine mm_iinc X dX8_batch_111 4 rfl (v := (l4 + 1)) rfl (by decide) (lv2 := [(4, .int (l4 + 1)), (0, .ref (a 0)), (1, .int l1), (2, .int l2), (3, .int l3), (5, .int l5)]) rfl ?_
          obtain rfl := Option.some.inj h
          refine mm_loc [1, 2, 3, 4, 0, 5] rfl ?_
          exact J5
set_option maxRecDepth 100000 in
set_option maxHeartbeats 4000000 in
theorem mX8_batch {l : Launch} {D : va_G} {cI cZ : ClassId} {a : Nat → Nat} (hJ : mm_J 29 a) {F : Nat} {σ : mm_M} {p1 p2 p3 : Int32} {res : Int32 × mm_M} (h : fX8_batch F σ p1 p2 p3 = some res) (sz : Nat) : Met l yX8_batch wsX8_batch rX8_batch (eP D cI cZ a σ [.ref (a 0), .int p1, .int p2, .int p3] sz) (eQi D cI cZ a res.1 res.2 sz) 0 0 (mm_A 29 a sz) := by
  refine mm_met (fun sz => eQi D cI cZ a res.1 res.2 sz) (lv := [(0, .ref (a 0)), (1, .int p1), (2, .int p2), (3, .int p3)]) (ret := (some .int)) (cc := cX8_batch) (maxL := 6) (own := RX8) hJ (by decide +kernel) rfl rfl (Nat.le_of_ble_eq_true rfl) rfl ?_ sz
  intro K hL X hQ
  unfold fX8_batch at h
  refine mm_aload_n X dX8_batch_0 0 rfl ?_
  refine mm_iload_n X dX8_batch_1 1 rfl ?_
  refine mm_callVi X dX8_batch_2 (As := [.int p1]) (rest := []) 0 (by decide) md_cf_0 rfl hL (mX8_isKind hJ (res := fX8_isKind σ p1) rfl) gX8_batch_X8_isKind rfl ⟨rfl, rfl⟩ hyX8_isKind ⟨Nat.le_of_ble_eq_true rfl, Nat.le_of_ble_eq_true rfl⟩ rfl (Nat.le_of_ble_eq_true rfl) ?_
  refine mm_if_eq X dX8_batch_5 (tgt := 27) (by decide) (fun c1 => ?_) (fun c1 => ?_)
  · have h := (if_pos c1).symm.trans h
    refine mm_bipush X dX8_batch_27 (v := -2) (by decide) ?_
    obtain rfl := Option.some.inj h
    exact mm_iret X dX8_batch_29 rfl hQ rfl
  · have h := (if_neg c1).symm.trans h
    refine mm_iload_n X dX8_batch_8 2 rfl ?_
    refine mm_iconst X dX8_batch_9 (v := -1) (by decide) ?_
    refine mm_iconst X dX8_batch_10 (v := 5) (by decide) ?_
    refine mm_callSi X dX8_batch_11 (As := [.int p2, .int (-1 : Int32), .int (5 : Int32)]) (rest := []) hL (mX8_in hJ (res := fX8_in p2 (-1 : Int32) (5 : Int32)) rfl) gX8_batch_X8_in rfl ⟨rfl, rfl⟩ hyX8_in ⟨Nat.le_of_ble_eq_true rfl, Nat.le_of_ble_eq_true rfl⟩ rfl (Nat.le_of_ble_eq_true rfl) ?_
    refine mm_if_eq X dX8_batch_14 (tgt := 27) (by decide) (fun c2 => ?_) (fun c2 => ?_)
    · have h := (if_pos c2).symm.trans h
      refine mm_bipush X dX8_batch_27 (v := -2) (by decide) ?_
      obtain rfl := Option.some.inj h
      exact mm_iret X dX8_batch_29 rfl hQ rfl
    · have h := (if_neg c2).symm.trans h
      refine mm_iload_n X dX8_batch_17 3 rfl ?_
      refine mm_iconst X dX8_batch_18 (v := 1) (by decide) ?_
      refine mm_bipush X dX8_batch_19 (v := 20) (by decide) ?_
      refine mm_callSi X dX8_batch_21 (As := [.int p3, .int (1 : Int32), .int (20 : Int32)]) (rest := []) hL (mX8_in hJ (res := fX8_in p3 (1 : Int32) (20 : Int32)) rfl) gX8_batch_X8_in rfl ⟨rfl, rfl⟩ hyX8_in ⟨Nat.le_of_ble_eq_true rfl, Nat.le_of_ble_eq_true rfl⟩ rfl (Nat.le_of_ble_eq_true rfl) ?_
      refine mm_if_ne X dX8_batch_24 (tgt := 30) (by decide) (fun c3 => ?_) (fun c3 => ?_)
      · have h := (if_neg c3).symm.trans h
        refine mm_aload_n X dX8_batch_30 0 rfl ?_
        refine mm_get X dX8_batch_31 0 13 (by decide) md_cf_0 rfl (by decide) uX8_batch_8 kX8_batch_1 rfl (v := .int (σ 0 13)) rfl ?_
        refine mm_bipush X dX8_batch_34 (v := 12) (by decide) ?_
        refine mm_icmp_ne X dX8_batch_36 (tgt := 42) (by decide) (fun c4 => ?_) (fun c4 => ?_)
        · have h := (if_neg c4).symm.trans h
          refine mm_iconst X dX8_batch_42 (v := 0) (by decide) ?_
          refine mm_istore X dX8_batch_43 (by decide) (lv2 := [(4, .int (0 : Int32)), (0, .ref (a 0)), (1, .int p1), (2, .int p2), (3, .int p3)]) rfl ?_
          refine mm_iconst X dX8_batch_45 (v := 0) (by decide) ?_
          refine mm_istore X dX8_batch_46 (by decide) (lv2 := [(5, .int (0 : Int32)), (4, .int (0 : Int32)), (0, .ref (a 0)), (1, .int p1), (2, .int p2), (3, .int p3)]) rfl ?_
          obtain ⟨q5, hq5, h⟩ := Option.bind_eq_some_iff.mp h
          refine mm_loc [2, 3, 4, 5, 1, 0] rfl ?_
          refine tX8_batch_48 X hL hJ ?_ F (0 : Int32) (0 : Int32) σ hq5
          refine mm_iload X dX8_batch_120 2 rfl ?_
          refine mm_if_ne X dX8_batch_122 (tgt := 128) (by decide) (fun c6 => ?_) (fun c6 => ?_)
          · have h := (if_neg c6).symm.trans h
            refine mm_aload_n X dX8_batch_128 0 rfl ?_
            refine mm_get X dX8_batch_129 0 14 (by decide) md_cf_0 rfl (by decide) uX8_batch_8 kX8_batch_6 rfl (v := .ref (a 12)) rfl ?_
            refine mm_aload_n X dX8_batch_132 0 rfl ?_
            refine mm_get X dX8_batch_133 0 13 (by decide) md_cf_0 rfl (by decide) uX8_batch_8 kX8_batch_1 rfl (v := .int (q5.2 0 13)) rfl ?_
            refine mm_iload_n X dX8_batch_136 1 rfl ?_
            obtain ⟨hi7, h⟩ := mm_g_some h
            refine mm_iast X dX8_batch_137 12 0 (by decide) (fun _ => rfl) rfl hi7 ?_
            refine mm_aload_n X dX8_batch_138 0 rfl ?_
            refine mm_get X dX8_batch_139 0 15 (by decide) md_cf_0 rfl (by decide) uX8_batch_8 kX8_batch_7 rfl (v := .ref (a 13)) rfl ?_
            refine mm_aload_n X dX8_batch_142 0 rfl ?_
            refine mm_get X dX8_batch_143 0 13 (by decide) md_cf_0 rfl (by decide) uX8_batch_8 kX8_batch_1 rfl (v := .int (q5.2 0 13)) rfl ?_
            refine mm_iload X dX8_batch_146 2 rfl ?_
            obtain ⟨hi8, h⟩ := mm_g_some h
            refine mm_iast X dX8_batch_148 13 0 (by decide) (fun _ => rfl) rfl hi8 ?_
            refine mm_aload_n X dX8_batch_149 0 rfl ?_
            refine mm_get X dX8_batch_150 0 17 (by decide) md_cf_0 rfl (by decide) uX8_batch_8 kX8_batch_8 rfl (v := .ref (a 15)) rfl ?_
            refine mm_aload_n X dX8_batch_153 0 rfl ?_
            refine mm_get X dX8_batch_154 0 13 (by decide) md_cf_0 rfl (by decide) uX8_batch_8 kX8_batch_1 rfl (v := .int (q5.2 0 13)) rfl ?_
            refine mm_aload_n X dX8_batch_157 0 rfl ?_
            refine mm_get X dX8_batch_158 0 13 (by decide) md_cf_0 rfl (by decide) uX8_batch_8 kX8_batch_1 rfl (v := .int (q5.2 0 13)) rfl ?_
            obtain ⟨hi9, h⟩ := mm_g_some h
            refine mm_iast X dX8_batch_161 15 0 (by decide) (fun _ => rfl) rfl hi9 ?_
            refine mm_aload_n X dX8_batch_162 0 rfl ?_
            refine mm_dup X dX8_batch_163 rfl ?_
            refine mm_get X dX8_batch_164 0 13 (by decide) md_cf_0 rfl (by decide) uX8_batch_8 kX8_batch_1 rfl (v := .int (q5.2 0 13)) rfl ?_
            refine mm_iconst X dX8_batch_167 (v := 1) (by decide) ?_
            refine mm_iadd X dX8_batch_168 ?_
            refine mm_put X dX8_batch_169 0 13 (by decide) tyX8 tyX8_ok nmX8 md_cf_0 rfl rfl (by decide) uX8_batch_8 kX8_batch_1 rfl rfl rfl (Nat.le_of_ble_eq_true rfl) ?_
            refine mm_iload X dX8_batch_172 2 rfl ?_
            obtain rfl := Option.some.inj h
            exact mm_iret X dX8_batch_174 rfl hQ rfl
          · have h := (if_pos c6).symm.trans h
            refine mm_bipush X dX8_batch_125 (v := -4) (by decide) ?_
            obtain rfl := Option.some.inj h
            exact mm_iret X dX8_batch_127 rfl hQ rfl
        · have h := (if_pos c4).symm.trans h
          refine mm_bipush X dX8_batch_39 (v := -3) (by decide) ?_
          obtain rfl := Option.some.inj h
          exact mm_iret X dX8_batch_41 rfl hQ rfl
      · have h := (if_pos c3).symm.trans h
        refine mm_bipush X dX8_batch_27 (v := -2) (by decide) ?_
        obtain rfl := Option.some.inj h
        exact mm_iret X dX8_batch_29 rfl hQ rfl
/-! LinenTunnelModel.at -/
def fX8_at (σ : mm_M) (p1 : Int32) : Option (Int32) := (if (fX8_in p1 (0 : Int32) ((σ 0 13) - (1 : Int32))) = 0 then some (-1 : Int32) else mm_g 12 p1 (some (σ 15 p1.toNatClampNeg)))
abbrev rX8_at : Room := { frames := 1, cells := 0, slots := 0, locals := 22 }
theorem hyX8_at : yX8_at.cls = RX8 ∧ yX8_at.cls ≠ "java/lang/invoke/MethodHandle" ∧ yX8_at.cls ≠ "java/lang/invoke/VarHandle" ∧ (parseMethodDescriptor yX8_at.desc).map (fun d => d.parameters.length) = some 1 := by decide +kernel
theorem kX8_at_1 : (Cond.fieldLink RX8 133 "LinenTunnelModel" "batches" "I" : Cond) ∈ wsX8_at := List.mem_of_getElem? (i := 1) rfl
theorem uX8_at_8 : ∀ w ∈ u_ws RX8 TX8 37, w ∈ wsX8_at := fun _ h => (List.mem_cons_of_mem _ (List.mem_append_right _ h))
theorem kX8_at_2 : (Cond.fieldLink RX8 53 "LinenTunnelModel" "order" "[I" : Cond) ∈ wsX8_at := List.mem_of_getElem? (i := 2) rfl
set_option maxRecDepth 100000 in
set_option maxHeartbeats 4000000 in
theorem mX8_at {l : Launch} {D : va_G} {cI cZ : ClassId} {a : Nat → Nat} (hJ : mm_J 29 a) {σ : mm_M} {p1 : Int32} {res : Int32} (h : fX8_at σ p1 = some res) (sz : Nat) : Met l yX8_at wsX8_at rX8_at (eP D cI cZ a σ [.ref (a 0), .int p1] sz) (eQi D cI cZ a res σ sz) 0 0 (mm_A 29 a sz) := by
  refine mm_met (fun sz => eQi D cI cZ a res σ sz) (lv := [(0, .ref (a 0)), (1, .int p1)]) (ret := (some .int)) (cc := cX8_at) (maxL := 2) (own := RX8) hJ (by decide +kernel) rfl rfl (Nat.le_of_ble_eq_true rfl) rfl ?_ sz
  intro K hL X hQ
  unfold fX8_at at h
  refine mm_iload_n X dX8_at_0 1 rfl ?_
  refine mm_iconst X dX8_at_1 (v := 0) (by decide) ?_
  refine mm_aload_n X dX8_at_2 0 rfl ?_
  refine mm_get X dX8_at_3 0 13 (by decide) md_cf_0 rfl (by decide) uX8_at_8 kX8_at_1 rfl (v := .int (σ 0 13)) rfl ?_
  refine mm_iconst X dX8_at_6 (v := 1) (by decide) ?_
  refine mm_isub X dX8_at_7 ?_
  refine mm_callSi X dX8_at_8 (As := [.int p1, .int (0 : Int32), .int ((σ 0 13) - (1 : Int32))]) (rest := []) hL (mX8_in hJ (res := fX8_in p1 (0 : Int32) ((σ 0 13) - (1 : Int32))) rfl) gX8_at_X8_in rfl ⟨rfl, rfl⟩ hyX8_in ⟨Nat.le_of_ble_eq_true rfl, Nat.le_of_ble_eq_true rfl⟩ rfl (Nat.le_of_ble_eq_true rfl) ?_
  refine mm_if_eq X dX8_at_11 (tgt := 23) (by decide) (fun c1 => ?_) (fun c1 => ?_)
  · have h := (if_pos c1).symm.trans h
    refine mm_iconst X dX8_at_23 (v := -1) (by decide) ?_
    obtain rfl := Option.some.inj h
    exact mm_iret X dX8_at_24 rfl hQ rfl
  · have h := (if_neg c1).symm.trans h
    refine mm_aload_n X dX8_at_14 0 rfl ?_
    refine mm_get X dX8_at_15 0 17 (by decide) md_cf_0 rfl (by decide) uX8_at_8 kX8_at_2 rfl (v := .ref (a 15)) rfl ?_
    refine mm_iload_n X dX8_at_18 1 rfl ?_
    obtain ⟨hi2, h⟩ := mm_g_some h
    refine mm_iald X dX8_at_19 15 0 (by decide) rfl rfl hi2 (v := (σ 15 p1.toNatClampNeg)) rfl ?_
    refine mm_goto X dX8_at_20 (tgt := 24) (by decide) ?_
    obtain rfl := Option.some.inj h
    exact mm_iret X dX8_at_24 rfl hQ rfl
/-! LinenTunnelModel.placeIn -/
def fX8_placeIn_2 (F : Nat) (σ : mm_M) (l1 : Int32) : Nat → Int32 → Option (Int32)
  | 0, _ => none
  | k + 1, l2 => mm_g 12 l2 ((if (σ 15 l2.toNatClampNeg) = l1 then some (l2) else fX8_placeIn_2 F σ l1 k (l2 + 1)))
def fX8_placeIn (F : Nat) (σ : mm_M) (p1 : Int32) : Option (Int32) := (fX8_placeIn_2 F σ p1 F (0 : Int32)).bind fun q1 => some q1
abbrev rX8_placeIn : Room := { frames := 0, cells := 0, slots := 0, locals := 0 }
theorem hyX8_placeIn : yX8_placeIn.cls = RX8 ∧ yX8_placeIn.cls ≠ "java/lang/invoke/MethodHandle" ∧ yX8_placeIn.cls ≠ "java/lang/invoke/VarHandle" ∧ (parseMethodDescriptor yX8_placeIn.desc).map (fun d => d.parameters.length) = some 1 := by decide +kernel
theorem kX8_placeIn_1 : (Cond.fieldLink RX8 53 "LinenTunnelModel" "order" "[I" : Cond) ∈ wsX8_placeIn := List.mem_of_getElem? (i := 1) rfl
theorem uX8_placeIn_8 : ∀ w ∈ u_ws RX8 TX8 37, w ∈ wsX8_placeIn := fun _ h => (List.mem_cons_of_mem _ (List.mem_append_right _ h))
set_option maxRecDepth 100000 in
set_option maxHeartbeats 4000000 in
theorem tX8_placeIn_2 {l : Launch} {K : mm_K} {D : va_G} {cI cZ : ClassId} {a : Nat → Nat} (X : eC K rX8_placeIn cX8_placeIn 3 (some .int) wsX8_placeIn RX8 D cI cZ a) (hL : mm_L K l) (hJ : mm_J 29 a) {F : Nat} {σ : mm_M} {l1 : Int32} {out : Int32} (hx : eG K D cI cZ a σ 18 [(2, .int out)] []) : ∀ (k : Nat) (l2 : Int32), fX8_placeIn_2 F σ l1 k l2 = some out → eG K D cI cZ a σ 2 [(0, .ref (a 0)), (1, .int l1), (2, .int l2)] [] := by
  intro k
  induction k with
  | zero =>
    intro l2 h
    have h : none = some out := h
    cases h
  | succ k ih =>
    intro l2 h
    rw [fX8_placeIn_2] at h
    refine mm_aload_n X dX8_placeIn_2 0 rfl ?_
    refine mm_get X dX8_placeIn_3 0 17 (by decide) md_cf_0 rfl (by decide) uX8_placeIn_8 kX8_placeIn_1 rfl (v := .ref (a 15)) rfl ?_
    refine mm_iload_n X dX8_placeIn_6 2 rfl ?_
    obtain ⟨hi1, h⟩ := mm_g_some h
    refine mm_iald X dX8_placeIn_7 15 0 (by decide) rfl rfl hi1 (v := (σ 15 l2.toNatClampNeg)) rfl ?_
    refine mm_iload_n X dX8_placeIn_8 1 rfl ?_
    refine mm_icmp_eq X dX8_placeIn_9 (tgt := 18) (by decide) (fun c2 => ?_) (fun c2 => ?_)
    · have h := (if_pos c2).symm.trans h
      obtain rfl := Option.some.inj h
      refine mm_loc [2] rfl ?_
      exact hx
    · have h := (if_neg c2).symm.trans h
      refine mm_iinc X dX8_placeIn_12 2 rfl (v := (l2 + 1)) rfl (by decide) (lv2 := [(2, .int (l2 + 1)), (0, .ref (a 0)), (1, .int l1)]) rfl ?_
      refine mm_goto X dX8_placeIn_15 (tgt := 2) (by decide) ?_
      refine mm_loc [1, 2, 0] rfl ?_
      exact ih _ h
set_option maxRecDepth 100000 in
set_option maxHeartbeats 4000000 in
theorem mX8_placeIn {l : Launch} {D : va_G} {cI cZ : ClassId} {a : Nat → Nat} (hJ : mm_J 29 a) {F : Nat} {σ : mm_M} {p1 : Int32} {res : Int32} (h : fX8_placeIn F σ p1 = some res) (sz : Nat) : Met l yX8_placeIn wsX8_placeIn rX8_placeIn (eP D cI cZ a σ [.ref (a 0), .int p1] sz) (eQi D cI cZ a res σ sz) 0 0 (mm_A 29 a sz) := by
  refine mm_met (fun sz => eQi D cI cZ a res σ sz) (lv := [(0, .ref (a 0)), (1, .int p1)]) (ret := (some .int)) (cc := cX8_placeIn) (maxL := 3) (own := RX8) hJ (by decide +kernel) rfl rfl (Nat.le_of_ble_eq_true rfl) rfl ?_ sz
  intro K hL X hQ
  unfold fX8_placeIn at h
  refine mm_iconst X dX8_placeIn_0 (v := 0) (by decide) ?_
  refine mm_istore_n X dX8_placeIn_1 (by decide) (lv2 := [(2, .int (0 : Int32)), (0, .ref (a 0)), (1, .int p1)]) rfl ?_
  obtain ⟨q1, hq1, h⟩ := Option.bind_eq_some_iff.mp h
  refine mm_loc [1, 2, 0] rfl ?_
  refine tX8_placeIn_2 X hL hJ ?_ F (0 : Int32) hq1
  refine mm_iload_n X dX8_placeIn_18 0 rfl ?_
  obtain rfl := Option.some.inj h
  exact mm_iret X dX8_placeIn_19 rfl hQ rfl
/-! LinenTunnelModel.of -/
def fX8_of (F : Nat) (σ : mm_M) (p1 p2 : Int32) : Option (Int32) := (if (fX8_in p1 (0 : Int32) ((σ 0 13) - (1 : Int32))) = 0 then some (-2 : Int32) else (if p2 = 0 then mm_g 12 p1 (some (σ 12 p1.toNatClampNeg)) else (if p2 = 1 then mm_g 12 p1 (some (σ 13 p1.toNatClampNeg)) else (if p2 = 2 then (fX8_placeIn F σ p1).bind fun q7 => some q7 else mm_g 12 p1 ((if (fX8_in p2 (10 : Int32) ((9 : Int32) + (σ 13 p1.toNatClampNeg))) = 0 then some (-2 : Int32) else mm_g 240 ((((20 : Int32) * p1) + p2) - (10 : Int32)) (some (σ 14 ((((20 : Int32) * p1) + p2) - (10 : Int32)).toNatClampNeg))))))))
abbrev rX8_of : Room := { frames := 1, cells := 0, slots := 0, locals := 22 }
theorem hyX8_of : yX8_of.cls = RX8 ∧ yX8_of.cls ≠ "java/lang/invoke/MethodHandle" ∧ yX8_of.cls ≠ "java/lang/invoke/VarHandle" ∧ (parseMethodDescriptor yX8_of.desc).map (fun d => d.parameters.length) = some 2 := by decide +kernel
theorem kX8_of_1 : (Cond.fieldLink RX8 133 "LinenTunnelModel" "batches" "I" : Cond) ∈ wsX8_of := List.mem_of_getElem? (i := 1) rfl
theorem uX8_of_8 : ∀ w ∈ u_ws RX8 TX8 37, w ∈ wsX8_of := fun _ h => (List.mem_cons_of_mem _ (List.mem_append_right _ h))
theorem kX8_of_2 : (Cond.fieldLink RX8 44 "LinenTunnelModel" "batchKind" "[I" : Cond) ∈ wsX8_of := List.mem_of_getElem? (i := 2) rfl
theorem kX8_of_3 : (Cond.fieldLink RX8 47 "LinenTunnelModel" "batchMany" "[I" : Cond) ∈ wsX8_of := List.mem_of_getElem? (i := 3) rfl
theorem kX8_of_4 : (Cond.fieldLink RX8 50 "LinenTunnelModel" "batchPiece" "[I" : Cond) ∈ wsX8_of := List.mem_of_getElem? (i := 4) rfl
set_option maxRecDepth 100000 in
set_option maxHeartbeats 4000000 in
theorem mX8_of {l : Launch} {D : va_G} {cI cZ : ClassId} {a : Nat → Nat} (hJ : mm_J 29 a) {F : Nat} {σ : mm_M} {p1 p2 : Int32} {res : Int32} (h : fX8_of F σ p1 p2 = some res) (sz : Nat) : Met l yX8_of wsX8_of rX8_of (eP D cI cZ a σ [.ref (a 0), .int p1, .int p2] sz) (eQi D cI cZ a res σ sz) 0 0 (mm_A 29 a sz) := by
  refine mm_met (fun sz => eQi D cI cZ a res σ sz) (lv := [(0, .ref (a 0)), (1, .int p1), (2, .int p2)]) (ret := (some .int)) (cc := cX8_of) (maxL := 3) (own := RX8) hJ (by decide +kernel) rfl rfl (Nat.le_of_ble_eq_true rfl) rfl ?_ sz
  intro K hL X hQ
  unfold fX8_of at h
  refine mm_iload_n X dX8_of_0 1 rfl ?_
  refine mm_iconst X dX8_of_1 (v := 0) (by decide) ?_
  refine mm_aload_n X dX8_of_2 0 rfl ?_
  refine mm_get X dX8_of_3 0 13 (by decide) md_cf_0 rfl (by decide) uX8_of_8 kX8_of_1 rfl (v := .int (σ 0 13)) rfl ?_
  refine mm_iconst X dX8_of_6 (v := 1) (by decide) ?_
  refine mm_isub X dX8_of_7 ?_
  refine mm_callSi X dX8_of_8 (As := [.int p1, .int (0 : Int32), .int ((σ 0 13) - (1 : Int32))]) (rest := []) hL (mX8_in hJ (res := fX8_in p1 (0 : Int32) ((σ 0 13) - (1 : Int32))) rfl) gX8_of_X8_in rfl ⟨rfl, rfl⟩ hyX8_in ⟨Nat.le_of_ble_eq_true rfl, Nat.le_of_ble_eq_true rfl⟩ rfl (Nat.le_of_ble_eq_true rfl) ?_
  refine mm_if_ne X dX8_of_11 (tgt := 17) (by decide) (fun c1 => ?_) (fun c1 => ?_)
  · have h := (if_neg c1).symm.trans h
    refine mm_iload_n X dX8_of_17 2 rfl ?_
    by_cases c2 : p2 = 0
    · have h := (if_pos c2).symm.trans h
      refine mm_swIn X dX8_of_18 0 (by rw [c2]; decide) (by decide) (tgt := 44) (by rfl) (by decide) ?_
      refine mm_aload_n X dX8_of_44 0 rfl ?_
      refine mm_get X dX8_of_45 0 14 (by decide) md_cf_0 rfl (by decide) uX8_of_8 kX8_of_2 rfl (v := .ref (a 12)) rfl ?_
      refine mm_iload_n X dX8_of_48 1 rfl ?_
      obtain ⟨hi3, h⟩ := mm_g_some h
      refine mm_iald X dX8_of_49 12 0 (by decide) rfl rfl hi3 (v := (σ 12 p1.toNatClampNeg)) rfl ?_
      obtain rfl := Option.some.inj h
      exact mm_iret X dX8_of_50 rfl hQ rfl
    have h := (if_neg c2).symm.trans h
    by_cases c4 : p2 = 1
    · have h := (if_pos c4).symm.trans h
      refine mm_swIn X dX8_of_18 1 (by rw [c4]; decide) (by decide) (tgt := 51) (by rfl) (by decide) ?_
      refine mm_aload_n X dX8_of_51 0 rfl ?_
      refine mm_get X dX8_of_52 0 15 (by decide) md_cf_0 rfl (by decide) uX8_of_8 kX8_of_3 rfl (v := .ref (a 13)) rfl ?_
      refine mm_iload_n X dX8_of_55 1 rfl ?_
      obtain ⟨hi5, h⟩ := mm_g_some h
      refine mm_iald X dX8_of_56 13 0 (by decide) rfl rfl hi5 (v := (σ 13 p1.toNatClampNeg)) rfl ?_
      obtain rfl := Option.some.inj h
      exact mm_iret X dX8_of_57 rfl hQ rfl
    have h := (if_neg c4).symm.trans h
    by_cases c6 : p2 = 2
    · have h := (if_pos c6).symm.trans h
      refine mm_swIn X dX8_of_18 2 (by rw [c6]; decide) (by decide) (tgt := 58) (by rfl) (by decide) ?_
      refine mm_aload_n X dX8_of_58 0 rfl ?_
      refine mm_iload_n X dX8_of_59 1 rfl ?_
      obtain ⟨q7, hq7, h⟩ := Option.bind_eq_some_iff.mp h
      refine mm_callVi X dX8_of_60 (As := [.int p1]) (rest := []) 0 (by decide) md_cf_0 rfl hL (mX8_placeIn hJ hq7) gX8_of_X8_placeIn rfl ⟨rfl, rfl⟩ hyX8_placeIn ⟨Nat.le_of_ble_eq_true rfl, Nat.le_of_ble_eq_true rfl⟩ rfl (Nat.le_of_ble_eq_true rfl) ?_
      obtain rfl := Option.some.inj h
      exact mm_iret X dX8_of_63 rfl hQ rfl
    have h := (if_neg c6).symm.trans h
    have zc2 : ¬ (p2).toInt = (0 : Int) := lv_neT c2 (by decide)
    have zc4 : ¬ (p2).toInt = (1 : Int) := lv_neT c4 (by decide)
    have zc6 : ¬ (p2).toInt = (2 : Int) := lv_neT c6 (by decide)
    refine mm_swOut X dX8_of_18 (by omega) (tgt := 64) (by decide) ?_
    refine mm_iload_n X dX8_of_64 2 rfl ?_
    refine mm_bipush X dX8_of_65 (v := 10) (by decide) ?_
    refine mm_bipush X dX8_of_67 (v := 9) (by decide) ?_
    refine mm_aload_n X dX8_of_69 0 rfl ?_
    refine mm_get X dX8_of_70 0 15 (by decide) md_cf_0 rfl (by decide) uX8_of_8 kX8_of_3 rfl (v := .ref (a 13)) rfl ?_
    refine mm_iload_n X dX8_of_73 1 rfl ?_
    obtain ⟨hi8, h⟩ := mm_g_some h
    refine mm_iald X dX8_of_74 13 0 (by decide) rfl rfl hi8 (v := (σ 13 p1.toNatClampNeg)) rfl ?_
    refine mm_iadd X dX8_of_75 ?_
    refine mm_callSi X dX8_of_76 (As := [.int p2, .int (10 : Int32), .int ((9 : Int32) + (σ 13 p1.toNatClampNeg))]) (rest := []) hL (mX8_in hJ (res := fX8_in p2 (10 : Int32) ((9 : Int32) + (σ 13 p1.toNatClampNeg))) rfl) gX8_of_X8_in rfl ⟨rfl, rfl⟩ hyX8_in ⟨Nat.le_of_ble_eq_true rfl, Nat.le_of_ble_eq_true rfl⟩ rfl (Nat.le_of_ble_eq_true rfl) ?_
    refine mm_if_eq X dX8_of_79 (tgt := 99) (by decide) (fun c9 => ?_) (fun c9 => ?_)
    · have h := (if_pos c9).symm.trans h
      refine mm_bipush X dX8_of_99 (v := -2) (by decide) ?_
      obtain rfl := Option.some.inj h
      exact mm_iret X dX8_of_101 rfl hQ rfl
    · have h := (if_neg c9).symm.trans h
      refine mm_aload_n X dX8_of_82 0 rfl ?_
      refine mm_get X dX8_of_83 0 16 (by decide) md_cf_0 rfl (by decide) uX8_of_8 kX8_of_4 rfl (v := .ref (a 14)) rfl ?_
      refine mm_bipush X dX8_of_86 (v := 20) (by decide) ?_
      refine mm_iload_n X dX8_of_88 1 rfl ?_
      refine mm_imul X dX8_of_89 ?_
      refine mm_iload_n X dX8_of_90 2 rfl ?_
      refine mm_iadd X dX8_of_91 ?_
      refine mm_bipush X dX8_of_92 (v := 10) (by decide) ?_
      refine mm_isub X dX8_of_94 ?_
      obtain ⟨hi10, h⟩ := mm_g_some h
      refine mm_iald X dX8_of_95 14 0 (by decide) rfl rfl hi10 (v := (σ 14 ((((20 : Int32) * p1) + p2) - (10 : Int32)).toNatClampNeg)) rfl ?_
      refine mm_goto X dX8_of_96 (tgt := 101) (by decide) ?_
      obtain rfl := Option.some.inj h
      exact mm_iret X dX8_of_101 rfl hQ rfl
  · have h := (if_pos c1).symm.trans h
    refine mm_bipush X dX8_of_14 (v := -2) (by decide) ?_
    obtain rfl := Option.some.inj h
    exact mm_iret X dX8_of_16 rfl hQ rfl
/-! LinenTunnelModel.swap -/
def fX8_swap (σ : mm_M) (p1 p2 : Int32) : Option (Int32 × mm_M) := (if (fX8_in p1 (0 : Int32) ((σ 0 13) - (1 : Int32))) = 0 then some ((-2 : Int32), σ) else (if (fX8_in p2 (0 : Int32) ((σ 0 13) - (1 : Int32))) = 0 then some ((-2 : Int32), σ) else mm_g 12 p1 (mm_g 12 p2 (mm_g 12 p1 (mm_g 12 p2 (some ((1 : Int32), (mm_up (mm_up σ 15 p1.toNatClampNeg (σ 15 p2.toNatClampNeg)) 15 p2.toNatClampNeg (σ 15 p1.toNatClampNeg)))))))))
abbrev rX8_swap : Room := { frames := 1, cells := 0, slots := 0, locals := 22 }
theorem hyX8_swap : yX8_swap.cls = RX8 ∧ yX8_swap.cls ≠ "java/lang/invoke/MethodHandle" ∧ yX8_swap.cls ≠ "java/lang/invoke/VarHandle" ∧ (parseMethodDescriptor yX8_swap.desc).map (fun d => d.parameters.length) = some 2 := by decide +kernel
theorem kX8_swap_1 : (Cond.fieldLink RX8 133 "LinenTunnelModel" "batches" "I" : Cond) ∈ wsX8_swap := List.mem_of_getElem? (i := 1) rfl
theorem uX8_swap_8 : ∀ w ∈ u_ws RX8 TX8 37, w ∈ wsX8_swap := fun _ h => (List.mem_cons_of_mem _ (List.mem_append_right _ h))
theorem kX8_swap_2 : (Cond.fieldLink RX8 53 "LinenTunnelModel" "order" "[I" : Cond) ∈ wsX8_swap := List.mem_of_getElem? (i := 2) rfl
set_option maxRecDepth 100000 in
set_option maxHeartbeats 4000000 in
theorem mX8_swap {l : Launch} {D : va_G} {cI cZ : ClassId} {a : Nat → Nat} (hJ : mm_J 29 a) {σ : mm_M} {p1 p2 : Int32} {res : Int32 × mm_M} (h : fX8_swap σ p1 p2 = some res) (sz : Nat) : Met l yX8_swap wsX8_swap rX8_swap (eP D cI cZ a σ [.ref (a 0), .int p1, .int p2] sz) (eQi D cI cZ a res.1 res.2 sz) 0 0 (mm_A 29 a sz) := by
  refine mm_met (fun sz => eQi D cI cZ a res.1 res.2 sz) (lv := [(0, .ref (a 0)), (1, .int p1), (2, .int p2)]) (ret := (some .int)) (cc := cX8_swap) (maxL := 4) (own := RX8) hJ (by decide +kernel) rfl rfl (Nat.le_of_ble_eq_true rfl) rfl ?_ sz
  intro K hL X hQ
  unfold fX8_swap at h
  refine mm_iload_n X dX8_swap_0 1 rfl ?_
  refine mm_iconst X dX8_swap_1 (v := 0) (by decide) ?_
  refine mm_aload_n X dX8_swap_2 0 rfl ?_
  refine mm_get X dX8_swap_3 0 13 (by decide) md_cf_0 rfl (by decide) uX8_swap_8 kX8_swap_1 rfl (v := .int (σ 0 13)) rfl ?_
  refine mm_iconst X dX8_swap_6 (v := 1) (by decide) ?_
  refine mm_isub X dX8_swap_7 ?_
  refine mm_callSi X dX8_swap_8 (As := [.int p1, .int (0 : Int32), .int ((σ 0 13) - (1 : Int32))]) (rest := []) hL (mX8_in hJ (res := fX8_in p1 (0 : Int32) ((σ 0 13) - (1 : Int32))) rfl) gX8_swap_X8_in rfl ⟨rfl, rfl⟩ hyX8_in ⟨Nat.le_of_ble_eq_true rfl, Nat.le_of_ble_eq_true rfl⟩ rfl (Nat.le_of_ble_eq_true rfl) ?_
  refine mm_if_eq X dX8_swap_11 (tgt := 28) (by decide) (fun c1 => ?_) (fun c1 => ?_)
  · have h := (if_pos c1).symm.trans h
    refine mm_bipush X dX8_swap_28 (v := -2) (by decide) ?_
    obtain rfl := Option.some.inj h
    exact mm_iret X dX8_swap_30 rfl hQ rfl
  · have h := (if_neg c1).symm.trans h
    refine mm_iload_n X dX8_swap_14 2 rfl ?_
    refine mm_iconst X dX8_swap_15 (v := 0) (by decide) ?_
    refine mm_aload_n X dX8_swap_16 0 rfl ?_
    refine mm_get X dX8_swap_17 0 13 (by decide) md_cf_0 rfl (by decide) uX8_swap_8 kX8_swap_1 rfl (v := .int (σ 0 13)) rfl ?_
    refine mm_iconst X dX8_swap_20 (v := 1) (by decide) ?_
    refine mm_isub X dX8_swap_21 ?_
    refine mm_callSi X dX8_swap_22 (As := [.int p2, .int (0 : Int32), .int ((σ 0 13) - (1 : Int32))]) (rest := []) hL (mX8_in hJ (res := fX8_in p2 (0 : Int32) ((σ 0 13) - (1 : Int32))) rfl) gX8_swap_X8_in rfl ⟨rfl, rfl⟩ hyX8_in ⟨Nat.le_of_ble_eq_true rfl, Nat.le_of_ble_eq_true rfl⟩ rfl (Nat.le_of_ble_eq_true rfl) ?_
    refine mm_if_ne X dX8_swap_25 (tgt := 31) (by decide) (fun c2 => ?_) (fun c2 => ?_)
    · have h := (if_neg c2).symm.trans h
      refine mm_aload_n X dX8_swap_31 0 rfl ?_
      refine mm_get X dX8_swap_32 0 17 (by decide) md_cf_0 rfl (by decide) uX8_swap_8 kX8_swap_2 rfl (v := .ref (a 15)) rfl ?_
      refine mm_iload_n X dX8_swap_35 1 rfl ?_
      obtain ⟨hi3, h⟩ := mm_g_some h
      refine mm_iald X dX8_swap_36 15 0 (by decide) rfl rfl hi3 (v := (σ 15 p1.toNatClampNeg)) rfl ?_
      refine mm_istore_n X dX8_swap_37 (by decide) (lv2 := [(3, .int (σ 15 p1.toNatClampNeg)), (0, .ref (a 0)), (1, .int p1), (2, .int p2)]) rfl ?_
      refine mm_aload_n X dX8_swap_38 1 rfl ?_
      refine mm_get X dX8_swap_39 0 17 (by decide) md_cf_0 rfl (by decide) uX8_swap_8 kX8_swap_2 rfl (v := .ref (a 15)) rfl ?_
      refine mm_iload_n X dX8_swap_42 2 rfl ?_
      refine mm_aload_n X dX8_swap_43 1 rfl ?_
      refine mm_get X dX8_swap_44 0 17 (by decide) md_cf_0 rfl (by decide) uX8_swap_8 kX8_swap_2 rfl (v := .ref (a 15)) rfl ?_
      refine mm_iload_n X dX8_swap_47 3 rfl ?_
      obtain ⟨hi4, h⟩ := mm_g_some h
      refine mm_iald X dX8_swap_48 15 0 (by decide) rfl rfl hi4 (v := (σ 15 p2.toNatClampNeg)) rfl ?_
      obtain ⟨hi5, h⟩ := mm_g_some h
      refine mm_iast X dX8_swap_49 15 0 (by decide) (fun _ => rfl) rfl hi5 ?_
      refine mm_aload_n X dX8_swap_50 1 rfl ?_
      refine mm_get X dX8_swap_51 0 17 (by decide) md_cf_0 rfl (by decide) uX8_swap_8 kX8_swap_2 rfl (v := .ref (a 15)) rfl ?_
      refine mm_iload_n X dX8_swap_54 3 rfl ?_
      refine mm_iload_n X dX8_swap_55 0 rfl ?_
      obtain ⟨hi6, h⟩ := mm_g_some h
      refine mm_iast X dX8_swap_56 15 0 (by decide) (fun _ => rfl) rfl hi6 ?_
      refine mm_iconst X dX8_swap_57 (v := 1) (by decide) ?_
      obtain rfl := Option.some.inj h
      exact mm_iret X dX8_swap_58 rfl hQ rfl
    · have h := (if_pos c2).symm.trans h
      refine mm_bipush X dX8_swap_28 (v := -2) (by decide) ?_
      obtain rfl := Option.some.inj h
      exact mm_iret X dX8_swap_30 rfl hQ rfl
