/-! LinenTunnelModel.in -/
def fX8_in (p0 p1 p2 : Int32) : Int32 := (if p0 < p1 then (0 : Int32) else (if p2 < p0 then (0 : Int32) else (1 : Int32)))
theorem bX8_in {p0 p1 p2 : Int32} : narrow .boolean (.int (fX8_in p0 p1 p2)) = .int (fX8_in p0 p1 p2) := by
  unfold fX8_in
  first | exact rfl | ((repeat' split) <;> first | rfl)
abbrev rX8_in : Room := { frames := 0, cells := 0, slots := 0, locals := 0 }
theorem hyX8_in : yX8_in.cls ≠ "java/lang/invoke/MethodHandle" ∧ yX8_in.cls ≠ "java/lang/invoke/VarHandle" ∧ (parseMethodDescriptor yX8_in.desc).map (fun d => d.parameters.length) = some 3 := by decide +kernel
set_option maxRecDepth 100000 in
set_option maxHeartbeats 4000000 in
theorem mX8_in {l : Launch} {D : va_G} {cI cZ : ClassId} {a : Nat → Nat} (hJ : mm_J 29 a) {σ : mm_M} {p0 p1 p2 : Int32} {res : Int32} (h : fX8_in p0 p1 p2 = res) (sz : Nat) : Met l yX8_in wsX8_in rX8_in (eP D cI cZ a σ [.int p0, .int p1, .int p2] sz) (eQi D cI cZ a res σ sz) 0 0 (mm_A 29 a sz) := by
  refine mm_met (fun sz => eQi D cI cZ a res σ sz) (lv := [(0, .int p0), (1, .int p1), (2, .int p2)]) (ret := (some .boolean)) (cc := cX8_in) (maxL := 3) (own := RX8) hJ (by decide +kernel) rfl rfl (Nat.le_of_ble_eq_true rfl) rfl ?_ sz
  intro K hL X hQ
  unfold fX8_in at h
  refine mm_iload_n X dX8_in_0 0 rfl ?_
  refine mm_iload_n X dX8_in_1 1 rfl ?_
  refine mm_icmp_lt X dX8_in_2 (tgt := 14) (by decide) (fun c1 => ?_) (fun c1 => ?_)
  · have h := (if_pos c1).symm.trans h
    refine mm_iconst X dX8_in_14 (v := 0) (by decide) ?_
    subst h
    exact mm_zret X dX8_in_15 rfl rfl hQ rfl
  · have h := (if_neg c1).symm.trans h
    refine mm_iload_n X dX8_in_5 0 rfl ?_
    refine mm_iload_n X dX8_in_6 2 rfl ?_
    refine mm_icmp_gt X dX8_in_7 (tgt := 14) (by decide) (fun c2 => ?_) (fun c2 => ?_)
    · have h := (if_pos c2).symm.trans h
      refine mm_iconst X dX8_in_14 (v := 0) (by decide) ?_
      subst h
      exact mm_zret X dX8_in_15 rfl rfl hQ rfl
    · have h := (if_neg c2).symm.trans h
      refine mm_iconst X dX8_in_10 (v := 1) (by decide) ?_
      refine mm_goto X dX8_in_11 (tgt := 15) (by decide) ?_
      subst h
      exact mm_zret X dX8_in_15 rfl rfl hQ rfl
/-! LinenTunnelModel.isKind -/
def fX8_isKind (σ : mm_M) (p1 : Int32) : Int32 := (fX8_in p1 (0 : Int32) ((σ 0 0) - (1 : Int32)))
theorem bX8_isKind {σ : mm_M} {p1 : Int32} : narrow .boolean (.int (fX8_isKind σ p1)) = .int (fX8_isKind σ p1) := by
  unfold fX8_isKind
  first | exact bX8_in | exact rfl | ((repeat' split) <;> first | rfl | exact bX8_in)
abbrev rX8_isKind : Room := { frames := 1, cells := 0, slots := 0, locals := 22 }
theorem hyX8_isKind : yX8_isKind.cls = RX8 ∧ yX8_isKind.cls ≠ "java/lang/invoke/MethodHandle" ∧ yX8_isKind.cls ≠ "java/lang/invoke/VarHandle" ∧ (parseMethodDescriptor yX8_isKind.desc).map (fun d => d.parameters.length) = some 1 := by decide +kernel
theorem kX8_isKind_1 : (Cond.fieldLink RX8 105 "LinenTunnelModel" "kinds" "I" : Cond) ∈ wsX8_isKind := List.mem_of_getElem? (i := 1) rfl
theorem uX8_isKind_8 : ∀ w ∈ u_ws RX8 TX8 37, w ∈ wsX8_isKind := fun _ h => (List.mem_cons_of_mem _ (List.mem_append_right _ h))
set_option maxRecDepth 100000 in
set_option maxHeartbeats 4000000 in
theorem mX8_isKind {l : Launch} {D : va_G} {cI cZ : ClassId} {a : Nat → Nat} (hJ : mm_J 29 a) {σ : mm_M} {p1 : Int32} {res : Int32} (h : fX8_isKind σ p1 = res) (sz : Nat) : Met l yX8_isKind wsX8_isKind rX8_isKind (eP D cI cZ a σ [.ref (a 0), .int p1] sz) (eQi D cI cZ a res σ sz) 0 0 (mm_A 29 a sz) := by
  refine mm_met (fun sz => eQi D cI cZ a res σ sz) (lv := [(0, .ref (a 0)), (1, .int p1)]) (ret := (some .boolean)) (cc := cX8_isKind) (maxL := 2) (own := RX8) hJ (by decide +kernel) rfl rfl (Nat.le_of_ble_eq_true rfl) rfl ?_ sz
  intro K hL X hQ
  unfold fX8_isKind at h
  refine mm_iload_n X dX8_isKind_0 1 rfl ?_
  refine mm_iconst X dX8_isKind_1 (v := 0) (by decide) ?_
  refine mm_aload_n X dX8_isKind_2 0 rfl ?_
  refine mm_get X dX8_isKind_3 0 0 (by decide) md_cf_0 rfl (by decide) uX8_isKind_8 kX8_isKind_1 rfl (v := .int (σ 0 0)) rfl ?_
  refine mm_iconst X dX8_isKind_6 (v := 1) (by decide) ?_
  refine mm_isub X dX8_isKind_7 ?_
  refine mm_callSi X dX8_isKind_8 (As := [.int p1, .int (0 : Int32), .int ((σ 0 0) - (1 : Int32))]) (rest := []) hL (mX8_in hJ (res := fX8_in p1 (0 : Int32) ((σ 0 0) - (1 : Int32))) rfl) gX8_isKind_X8_in rfl ⟨rfl, rfl⟩ hyX8_in ⟨Nat.le_of_ble_eq_true rfl, Nat.le_of_ble_eq_true rfl⟩ rfl (Nat.le_of_ble_eq_true rfl) ?_
  subst h
  exact mm_zret X dX8_isKind_11 rfl bX8_in hQ rfl
/-! LinenTunnelModel.isPiece -/
def fX8_isPiece (σ : mm_M) (p1 : Int32) : Int32 := (fX8_in p1 (0 : Int32) ((σ 0 6) - (1 : Int32)))
theorem bX8_isPiece {σ : mm_M} {p1 : Int32} : narrow .boolean (.int (fX8_isPiece σ p1)) = .int (fX8_isPiece σ p1) := by
  unfold fX8_isPiece
  first | exact bX8_in | exact rfl | ((repeat' split) <;> first | rfl | exact bX8_in)
abbrev rX8_isPiece : Room := { frames := 1, cells := 0, slots := 0, locals := 22 }
theorem hyX8_isPiece : yX8_isPiece.cls = RX8 ∧ yX8_isPiece.cls ≠ "java/lang/invoke/MethodHandle" ∧ yX8_isPiece.cls ≠ "java/lang/invoke/VarHandle" ∧ (parseMethodDescriptor yX8_isPiece.desc).map (fun d => d.parameters.length) = some 1 := by decide +kernel
theorem kX8_isPiece_1 : (Cond.fieldLink RX8 112 "LinenTunnelModel" "pieceMany" "I" : Cond) ∈ wsX8_isPiece := List.mem_of_getElem? (i := 1) rfl
theorem uX8_isPiece_8 : ∀ w ∈ u_ws RX8 TX8 37, w ∈ wsX8_isPiece := fun _ h => (List.mem_cons_of_mem _ (List.mem_append_right _ h))
set_option maxRecDepth 100000 in
set_option maxHeartbeats 4000000 in
theorem mX8_isPiece {l : Launch} {D : va_G} {cI cZ : ClassId} {a : Nat → Nat} (hJ : mm_J 29 a) {σ : mm_M} {p1 : Int32} {res : Int32} (h : fX8_isPiece σ p1 = res) (sz : Nat) : Met l yX8_isPiece wsX8_isPiece rX8_isPiece (eP D cI cZ a σ [.ref (a 0), .int p1] sz) (eQi D cI cZ a res σ sz) 0 0 (mm_A 29 a sz) := by
  refine mm_met (fun sz => eQi D cI cZ a res σ sz) (lv := [(0, .ref (a 0)), (1, .int p1)]) (ret := (some .boolean)) (cc := cX8_isPiece) (maxL := 2) (own := RX8) hJ (by decide +kernel) rfl rfl (Nat.le_of_ble_eq_true rfl) rfl ?_ sz
  intro K hL X hQ
  unfold fX8_isPiece at h
  refine mm_iload_n X dX8_isPiece_0 1 rfl ?_
  refine mm_iconst X dX8_isPiece_1 (v := 0) (by decide) ?_
  refine mm_aload_n X dX8_isPiece_2 0 rfl ?_
  refine mm_get X dX8_isPiece_3 0 6 (by decide) md_cf_0 rfl (by decide) uX8_isPiece_8 kX8_isPiece_1 rfl (v := .int (σ 0 6)) rfl ?_
  refine mm_iconst X dX8_isPiece_6 (v := 1) (by decide) ?_
  refine mm_isub X dX8_isPiece_7 ?_
  refine mm_callSi X dX8_isPiece_8 (As := [.int p1, .int (0 : Int32), .int ((σ 0 6) - (1 : Int32))]) (rest := []) hL (mX8_in hJ (res := fX8_in p1 (0 : Int32) ((σ 0 6) - (1 : Int32))) rfl) gX8_isPiece_X8_in rfl ⟨rfl, rfl⟩ hyX8_in ⟨Nat.le_of_ble_eq_true rfl, Nat.le_of_ble_eq_true rfl⟩ rfl (Nat.le_of_ble_eq_true rfl) ?_
  subst h
  exact mm_zret X dX8_isPiece_11 rfl bX8_in hQ rfl
/-! LinenTunnelModel.kind -/
def fX8_kind (σ : mm_M) (p1 p2 p3 p4 p5 : Int32) : Option (Int32 × mm_M) := (if (fX8_in p1 (0 : Int32) (3 : Int32)) = 0 then some ((-2 : Int32), σ) else (if (fX8_in p2 (0 : Int32) (2 : Int32)) = 0 then some ((-2 : Int32), σ) else (if (fX8_in p4 (0 : Int32) (9 : Int32)) = 0 then some ((-2 : Int32), σ) else (if (fX8_in p5 (0 : Int32) (9 : Int32)) = 0 then some ((-2 : Int32), σ) else (if (σ 0 0) = (8 : Int32) then some ((-3 : Int32), σ) else mm_g 8 (σ 0 0) (mm_g 8 (σ 0 0) (mm_g 8 (σ 0 0) (mm_g 8 (σ 0 0) (mm_g 8 (σ 0 0) (some ((((σ 0 0) + (1 : Int32)) - (1 : Int32)), (mm_up (mm_up (mm_up (mm_up (mm_up (mm_up σ 1 (σ 0 0).toNatClampNeg p1) 2 (σ 0 0).toNatClampNeg p2) 3 (σ 0 0).toNatClampNeg (vp_nar .boolean p3)) 4 (σ 0 0).toNatClampNeg p4) 5 (σ 0 0).toNatClampNeg p5) 0 0 ((σ 0 0) + (1 : Int32))))))))))))))
abbrev rX8_kind : Room := { frames := 1, cells := 0, slots := 0, locals := 22 }
theorem hyX8_kind : yX8_kind.cls = RX8 ∧ yX8_kind.cls ≠ "java/lang/invoke/MethodHandle" ∧ yX8_kind.cls ≠ "java/lang/invoke/VarHandle" ∧ (parseMethodDescriptor yX8_kind.desc).map (fun d => d.parameters.length) = some 5 := by decide +kernel
theorem kX8_kind_1 : (Cond.fieldLink RX8 105 "LinenTunnelModel" "kinds" "I" : Cond) ∈ wsX8_kind := List.mem_of_getElem? (i := 1) rfl
theorem uX8_kind_8 : ∀ w ∈ u_ws RX8 TX8 37, w ∈ wsX8_kind := fun _ h => (List.mem_cons_of_mem _ (List.mem_append_right _ h))
theorem kX8_kind_2 : (Cond.fieldLink RX8 7 "LinenTunnelModel" "heats" "[I" : Cond) ∈ wsX8_kind := List.mem_of_getElem? (i := 2) rfl
theorem kX8_kind_3 : (Cond.fieldLink RX8 13 "LinenTunnelModel" "colours" "[I" : Cond) ∈ wsX8_kind := List.mem_of_getElem? (i := 3) rfl
theorem kX8_kind_4 : (Cond.fieldLink RX8 16 "LinenTunnelModel" "isFoul" "[Z" : Cond) ∈ wsX8_kind := List.mem_of_getElem? (i := 4) rfl
theorem kX8_kind_5 : (Cond.fieldLink RX8 20 "LinenTunnelModel" "dries" "[I" : Cond) ∈ wsX8_kind := List.mem_of_getElem? (i := 5) rfl
theorem kX8_kind_6 : (Cond.fieldLink RX8 23 "LinenTunnelModel" "irons" "[I" : Cond) ∈ wsX8_kind := List.mem_of_getElem? (i := 6) rfl
set_option maxRecDepth 100000 in
set_option maxHeartbeats 4000000 in
theorem mX8_kind {l : Launch} {D : va_G} {cI cZ : ClassId} {a : Nat → Nat} (hJ : mm_J 29 a) {σ : mm_M} {p1 p2 p3 p4 p5 : Int32} {res : Int32 × mm_M} (h : fX8_kind σ p1 p2 p3 p4 p5 = some res) (sz : Nat) : Met l yX8_kind wsX8_kind rX8_kind (eP D cI cZ a σ [.ref (a 0), .int p1, .int p2, .int p3, .int p4, .int p5] sz) (eQi D cI cZ a res.1 res.2 sz) 0 0 (mm_A 29 a sz) := by
  refine mm_met (fun sz => eQi D cI cZ a res.1 res.2 sz) (lv := [(0, .ref (a 0)), (1, .int p1), (2, .int p2), (3, .int p3), (4, .int p4), (5, .int p5)]) (ret := (some .int)) (cc := cX8_kind) (maxL := 6) (own := RX8) hJ (by decide +kernel) rfl rfl (Nat.le_of_ble_eq_true rfl) rfl ?_ sz
  intro K hL X hQ
  unfold fX8_kind at h
  refine mm_iload_n X dX8_kind_0 1 rfl ?_
  refine mm_iconst X dX8_kind_1 (v := 0) (by decide) ?_
  refine mm_iconst X dX8_kind_2 (v := 3) (by decide) ?_
  refine mm_callSi X dX8_kind_3 (As := [.int p1, .int (0 : Int32), .int (3 : Int32)]) (rest := []) hL (mX8_in hJ (res := fX8_in p1 (0 : Int32) (3 : Int32)) rfl) gX8_kind_X8_in rfl ⟨rfl, rfl⟩ hyX8_in ⟨Nat.le_of_ble_eq_true rfl, Nat.le_of_ble_eq_true rfl⟩ rfl (Nat.le_of_ble_eq_true rfl) ?_
  refine mm_if_eq X dX8_kind_6 (tgt := 40) (by decide) (fun c1 => ?_) (fun c1 => ?_)
  · have h := (if_pos c1).symm.trans h
    refine mm_bipush X dX8_kind_40 (v := -2) (by decide) ?_
    obtain rfl := Option.some.inj h
    exact mm_iret X dX8_kind_42 rfl hQ rfl
  · have h := (if_neg c1).symm.trans h
    refine mm_iload_n X dX8_kind_9 2 rfl ?_
    refine mm_iconst X dX8_kind_10 (v := 0) (by decide) ?_
    refine mm_iconst X dX8_kind_11 (v := 2) (by decide) ?_
    refine mm_callSi X dX8_kind_12 (As := [.int p2, .int (0 : Int32), .int (2 : Int32)]) (rest := []) hL (mX8_in hJ (res := fX8_in p2 (0 : Int32) (2 : Int32)) rfl) gX8_kind_X8_in rfl ⟨rfl, rfl⟩ hyX8_in ⟨Nat.le_of_ble_eq_true rfl, Nat.le_of_ble_eq_true rfl⟩ rfl (Nat.le_of_ble_eq_true rfl) ?_
    refine mm_if_eq X dX8_kind_15 (tgt := 40) (by decide) (fun c2 => ?_) (fun c2 => ?_)
    · have h := (if_pos c2).symm.trans h
      refine mm_bipush X dX8_kind_40 (v := -2) (by decide) ?_
      obtain rfl := Option.some.inj h
      exact mm_iret X dX8_kind_42 rfl hQ rfl
    · have h := (if_neg c2).symm.trans h
      refine mm_iload X dX8_kind_18 4 rfl ?_
      refine mm_iconst X dX8_kind_20 (v := 0) (by decide) ?_
      refine mm_bipush X dX8_kind_21 (v := 9) (by decide) ?_
      refine mm_callSi X dX8_kind_23 (As := [.int p4, .int (0 : Int32), .int (9 : Int32)]) (rest := []) hL (mX8_in hJ (res := fX8_in p4 (0 : Int32) (9 : Int32)) rfl) gX8_kind_X8_in rfl ⟨rfl, rfl⟩ hyX8_in ⟨Nat.le_of_ble_eq_true rfl, Nat.le_of_ble_eq_true rfl⟩ rfl (Nat.le_of_ble_eq_true rfl) ?_
      refine mm_if_eq X dX8_kind_26 (tgt := 40) (by decide) (fun c3 => ?_) (fun c3 => ?_)
      · have h := (if_pos c3).symm.trans h
        refine mm_bipush X dX8_kind_40 (v := -2) (by decide) ?_
        obtain rfl := Option.some.inj h
        exact mm_iret X dX8_kind_42 rfl hQ rfl
      · have h := (if_neg c3).symm.trans h
        refine mm_iload X dX8_kind_29 5 rfl ?_
        refine mm_iconst X dX8_kind_31 (v := 0) (by decide) ?_
        refine mm_bipush X dX8_kind_32 (v := 9) (by decide) ?_
        refine mm_callSi X dX8_kind_34 (As := [.int p5, .int (0 : Int32), .int (9 : Int32)]) (rest := []) hL (mX8_in hJ (res := fX8_in p5 (0 : Int32) (9 : Int32)) rfl) gX8_kind_X8_in rfl ⟨rfl, rfl⟩ hyX8_in ⟨Nat.le_of_ble_eq_true rfl, Nat.le_of_ble_eq_true rfl⟩ rfl (Nat.le_of_ble_eq_true rfl) ?_
        refine mm_if_ne X dX8_kind_37 (tgt := 43) (by decide) (fun c4 => ?_) (fun c4 => ?_)
        · have h := (if_neg c4).symm.trans h
          refine mm_aload_n X dX8_kind_43 0 rfl ?_
          refine mm_get X dX8_kind_44 0 0 (by decide) md_cf_0 rfl (by decide) uX8_kind_8 kX8_kind_1 rfl (v := .int (σ 0 0)) rfl ?_
          refine mm_bipush X dX8_kind_47 (v := 8) (by decide) ?_
          refine mm_icmp_ne X dX8_kind_49 (tgt := 55) (by decide) (fun c5 => ?_) (fun c5 => ?_)
          · have h := (if_neg c5).symm.trans h
            refine mm_aload_n X dX8_kind_55 0 rfl ?_
            refine mm_get X dX8_kind_56 0 1 (by decide) md_cf_0 rfl (by decide) uX8_kind_8 kX8_kind_2 rfl (v := .ref (a 1)) rfl ?_
            refine mm_aload_n X dX8_kind_59 0 rfl ?_
            refine mm_get X dX8_kind_60 0 0 (by decide) md_cf_0 rfl (by decide) uX8_kind_8 kX8_kind_1 rfl (v := .int (σ 0 0)) rfl ?_
            refine mm_iload_n X dX8_kind_63 1 rfl ?_
            obtain ⟨hi6, h⟩ := mm_g_some h
            refine mm_iast X dX8_kind_64 1 0 (by decide) (fun _ => rfl) rfl hi6 ?_
            refine mm_aload_n X dX8_kind_65 0 rfl ?_
            refine mm_get X dX8_kind_66 0 2 (by decide) md_cf_0 rfl (by decide) uX8_kind_8 kX8_kind_3 rfl (v := .ref (a 2)) rfl ?_
            refine mm_aload_n X dX8_kind_69 0 rfl ?_
            refine mm_get X dX8_kind_70 0 0 (by decide) md_cf_0 rfl (by decide) uX8_kind_8 kX8_kind_1 rfl (v := .int (σ 0 0)) rfl ?_
            refine mm_iload_n X dX8_kind_73 2 rfl ?_
            obtain ⟨hi7, h⟩ := mm_g_some h
            refine mm_iast X dX8_kind_74 2 0 (by decide) (fun _ => rfl) rfl hi7 ?_
            refine mm_aload_n X dX8_kind_75 0 rfl ?_
            refine mm_get X dX8_kind_76 0 3 (by decide) md_cf_0 rfl (by decide) uX8_kind_8 kX8_kind_4 rfl (v := .ref (a 3)) rfl ?_
            refine mm_aload_n X dX8_kind_79 0 rfl ?_
            refine mm_get X dX8_kind_80 0 0 (by decide) md_cf_0 rfl (by decide) uX8_kind_8 kX8_kind_1 rfl (v := .int (σ 0 0)) rfl ?_
            refine mm_iload_n X dX8_kind_83 3 rfl ?_
            obtain ⟨hi8, h⟩ := mm_g_some h
            refine mm_zast X dX8_kind_84 3 1 (by decide) (fun _ => rfl) rfl hi8 ?_
            refine mm_aload_n X dX8_kind_85 0 rfl ?_
            refine mm_get X dX8_kind_86 0 4 (by decide) md_cf_0 rfl (by decide) uX8_kind_8 kX8_kind_5 rfl (v := .ref (a 4)) rfl ?_
            refine mm_aload_n X dX8_kind_89 0 rfl ?_
            refine mm_get X dX8_kind_90 0 0 (by decide) md_cf_0 rfl (by decide) uX8_kind_8 kX8_kind_1 rfl (v := .int (σ 0 0)) rfl ?_
            refine mm_iload X dX8_kind_93 4 rfl ?_
            obtain ⟨hi9, h⟩ := mm_g_some h
            refine mm_iast X dX8_kind_95 4 0 (by decide) (fun _ => rfl) rfl hi9 ?_
            refine mm_aload_n X dX8_kind_96 0 rfl ?_
            refine mm_get X dX8_kind_97 0 5 (by decide) md_cf_0 rfl (by decide) uX8_kind_8 kX8_kind_6 rfl (v := .ref (a 5)) rfl ?_
            refine mm_aload_n X dX8_kind_100 0 rfl ?_
            refine mm_get X dX8_kind_101 0 0 (by decide) md_cf_0 rfl (by decide) uX8_kind_8 kX8_kind_1 rfl (v := .int (σ 0 0)) rfl ?_
            refine mm_iload X dX8_kind_104 5 rfl ?_
            obtain ⟨hi10, h⟩ := mm_g_some h
            refine mm_iast X dX8_kind_106 5 0 (by decide) (fun _ => rfl) rfl hi10 ?_
            refine mm_aload_n X dX8_kind_107 0 rfl ?_
            refine mm_dup X dX8_kind_108 rfl ?_
            refine mm_get X dX8_kind_109 0 0 (by decide) md_cf_0 rfl (by decide) uX8_kind_8 kX8_kind_1 rfl (v := .int (σ 0 0)) rfl ?_
            refine mm_iconst X dX8_kind_112 (v := 1) (by decide) ?_
            refine mm_iadd X dX8_kind_113 ?_
            refine mm_put X dX8_kind_114 0 0 (by decide) tyX8 tyX8_ok nmX8 md_cf_0 rfl rfl (by decide) uX8_kind_8 kX8_kind_1 rfl rfl rfl (Nat.le_of_ble_eq_true rfl) ?_
            refine mm_aload_n X dX8_kind_117 0 rfl ?_
            refine mm_get X dX8_kind_118 0 0 (by decide) md_cf_0 rfl (by decide) uX8_kind_8 kX8_kind_1 rfl (v := .int ((σ 0 0) + (1 : Int32))) rfl ?_
            refine mm_iconst X dX8_kind_121 (v := 1) (by decide) ?_
            refine mm_isub X dX8_kind_122 ?_
            obtain rfl := Option.some.inj h
            exact mm_iret X dX8_kind_123 rfl hQ rfl
          · have h := (if_pos c5).symm.trans h
            refine mm_bipush X dX8_kind_52 (v := -3) (by decide) ?_
            obtain rfl := Option.some.inj h
            exact mm_iret X dX8_kind_54 rfl hQ rfl
        · have h := (if_pos c4).symm.trans h
          refine mm_bipush X dX8_kind_40 (v := -2) (by decide) ?_
          obtain rfl := Option.some.inj h
          exact mm_iret X dX8_kind_42 rfl hQ rfl
/-! LinenTunnelModel.piece -/
def fX8_piece (σ : mm_M) (p1 p2 p3 : Int32) : Option (Int32 × mm_M) := (if (fX8_isKind σ p1) = 0 then some ((-2 : Int32), σ) else (if (fX8_in p2 (0 : Int32) (5 : Int32)) = 0 then some ((-2 : Int32), σ) else (if (σ 0 6) = (100 : Int32) then some ((-3 : Int32), σ) else mm_g 100 (σ 0 6) (mm_g 100 (σ 0 6) (mm_g 100 (σ 0 6) (mm_g 100 (σ 0 6) (mm_g 100 (σ 0 6) (some ((((σ 0 6) + (1 : Int32)) - (1 : Int32)), (mm_up (mm_up (mm_up (mm_up (mm_up (mm_up σ 6 (σ 0 6).toNatClampNeg p1) 7 (σ 0 6).toNatClampNeg p2) 8 (σ 0 6).toNatClampNeg (vp_nar .boolean p3)) 9 (σ 0 6).toNatClampNeg (0 : Int32)) 11 (σ 0 6).toNatClampNeg (-1 : Int32)) 0 6 ((σ 0 6) + (1 : Int32))))))))))))
abbrev rX8_piece : Room := { frames := 2, cells := 0, slots := 0, locals := 43 }
theorem hyX8_piece : yX8_piece.cls = RX8 ∧ yX8_piece.cls ≠ "java/lang/invoke/MethodHandle" ∧ yX8_piece.cls ≠ "java/lang/invoke/VarHandle" ∧ (parseMethodDescriptor yX8_piece.desc).map (fun d => d.parameters.length) = some 3 := by decide +kernel
theorem kX8_piece_1 : (Cond.fieldLink RX8 112 "LinenTunnelModel" "pieceMany" "I" : Cond) ∈ wsX8_piece := List.mem_of_getElem? (i := 1) rfl
theorem uX8_piece_8 : ∀ w ∈ u_ws RX8 TX8 37, w ∈ wsX8_piece := fun _ h => (List.mem_cons_of_mem _ (List.mem_append_right _ h))
theorem kX8_piece_2 : (Cond.fieldLink RX8 26 "LinenTunnelModel" "kindOf" "[I" : Cond) ∈ wsX8_piece := List.mem_of_getElem? (i := 2) rfl
theorem kX8_piece_3 : (Cond.fieldLink RX8 29 "LinenTunnelModel" "ownerOf" "[I" : Cond) ∈ wsX8_piece := List.mem_of_getElem? (i := 3) rfl
theorem kX8_piece_4 : (Cond.fieldLink RX8 32 "LinenTunnelModel" "hasChip" "[Z" : Cond) ∈ wsX8_piece := List.mem_of_getElem? (i := 4) rfl
theorem kX8_piece_5 : (Cond.fieldLink RX8 35 "LinenTunnelModel" "placeOf" "[I" : Cond) ∈ wsX8_piece := List.mem_of_getElem? (i := 5) rfl
theorem kX8_piece_6 : (Cond.fieldLink RX8 41 "LinenTunnelModel" "batchOf" "[I" : Cond) ∈ wsX8_piece := List.mem_of_getElem? (i := 6) rfl
set_option maxRecDepth 100000 in
set_option maxHeartbeats 4000000 in
theorem mX8_piece {l : Launch} {D : va_G} {cI cZ : ClassId} {a : Nat → Nat} (hJ : mm_J 29 a) {σ : mm_M} {p1 p2 p3 : Int32} {res : Int32 × mm_M} (h : fX8_piece σ p1 p2 p3 = some res) (sz : Nat) : Met l yX8_piece wsX8_piece rX8_piece (eP D cI cZ a σ [.ref (a 0), .int p1, .int p2, .int p3] sz) (eQi D cI cZ a res.1 res.2 sz) 0 0 (mm_A 29 a sz) := by
  refine mm_met (fun sz => eQi D cI cZ a res.1 res.2 sz) (lv := [(0, .ref (a 0)), (1, .int p1), (2, .int p2), (3, .int p3)]) (ret := (some .int)) (cc := cX8_piece) (maxL := 4) (own := RX8) hJ (by decide +kernel) rfl rfl (Nat.le_of_ble_eq_true rfl) rfl ?_ sz
  intro K hL X hQ
  unfold fX8_piece at h
  refine mm_aload_n X dX8_piece_0 0 rfl ?_
  refine mm_iload_n X dX8_piece_1 1 rfl ?_
  refine mm_callVi X dX8_piece_2 (As := [.int p1]) (rest := []) 0 (by decide) md_cf_0 rfl hL (mX8_isKind hJ (res := fX8_isKind σ p1) rfl) gX8_piece_X8_isKind rfl ⟨rfl, rfl⟩ hyX8_isKind ⟨Nat.le_of_ble_eq_true rfl, Nat.le_of_ble_eq_true rfl⟩ rfl (Nat.le_of_ble_eq_true rfl) ?_
  refine mm_if_eq X dX8_piece_5 (tgt := 17) (by decide) (fun c1 => ?_) (fun c1 => ?_)
  · have h := (if_pos c1).symm.trans h
    refine mm_bipush X dX8_piece_17 (v := -2) (by decide) ?_
    obtain rfl := Option.some.inj h
    exact mm_iret X dX8_piece_19 rfl hQ rfl
  · have h := (if_neg c1).symm.trans h
    refine mm_iload_n X dX8_piece_8 2 rfl ?_
    refine mm_iconst X dX8_piece_9 (v := 0) (by decide) ?_
    refine mm_iconst X dX8_piece_10 (v := 5) (by decide) ?_
    refine mm_callSi X dX8_piece_11 (As := [.int p2, .int (0 : Int32), .int (5 : Int32)]) (rest := []) hL (mX8_in hJ (res := fX8_in p2 (0 : Int32) (5 : Int32)) rfl) gX8_piece_X8_in rfl ⟨rfl, rfl⟩ hyX8_in ⟨Nat.le_of_ble_eq_true rfl, Nat.le_of_ble_eq_true rfl⟩ rfl (Nat.le_of_ble_eq_true rfl) ?_
    refine mm_if_ne X dX8_piece_14 (tgt := 20) (by decide) (fun c2 => ?_) (fun c2 => ?_)
    · have h := (if_neg c2).symm.trans h
      refine mm_aload_n X dX8_piece_20 0 rfl ?_
      refine mm_get X dX8_piece_21 0 6 (by decide) md_cf_0 rfl (by decide) uX8_piece_8 kX8_piece_1 rfl (v := .int (σ 0 6)) rfl ?_
      refine mm_bipush X dX8_piece_24 (v := 100) (by decide) ?_
      refine mm_icmp_ne X dX8_piece_26 (tgt := 32) (by decide) (fun c3 => ?_) (fun c3 => ?_)
      · have h := (if_neg c3).symm.trans h
        refine mm_aload_n X dX8_piece_32 0 rfl ?_
        refine mm_get X dX8_piece_33 0 7 (by decide) md_cf_0 rfl (by decide) uX8_piece_8 kX8_piece_2 rfl (v := .ref (a 6)) rfl ?_
        refine mm_aload_n X dX8_piece_36 0 rfl ?_
        refine mm_get X dX8_piece_37 0 6 (by decide) md_cf_0 rfl (by decide) uX8_piece_8 kX8_piece_1 rfl (v := .int (σ 0 6)) rfl ?_
        refine mm_iload_n X dX8_piece_40 1 rfl ?_
        obtain ⟨hi4, h⟩ := mm_g_some h
        refine mm_iast X dX8_piece_41 6 0 (by decide) (fun _ => rfl) rfl hi4 ?_
        refine mm_aload_n X dX8_piece_42 0 rfl ?_
        refine mm_get X dX8_piece_43 0 8 (by decide) md_cf_0 rfl (by decide) uX8_piece_8 kX8_piece_3 rfl (v := .ref (a 7)) rfl ?_
        refine mm_aload_n X dX8_piece_46 0 rfl ?_
        refine mm_get X dX8_piece_47 0 6 (by decide) md_cf_0 rfl (by decide) uX8_piece_8 kX8_piece_1 rfl (v := .int (σ 0 6)) rfl ?_
        refine mm_iload_n X dX8_piece_50 2 rfl ?_
        obtain ⟨hi5, h⟩ := mm_g_some h
        refine mm_iast X dX8_piece_51 7 0 (by decide) (fun _ => rfl) rfl hi5 ?_
        refine mm_aload_n X dX8_piece_52 0 rfl ?_
        refine mm_get X dX8_piece_53 0 9 (by decide) md_cf_0 rfl (by decide) uX8_piece_8 kX8_piece_4 rfl (v := .ref (a 8)) rfl ?_
        refine mm_aload_n X dX8_piece_56 0 rfl ?_
        refine mm_get X dX8_piece_57 0 6 (by decide) md_cf_0 rfl (by decide) uX8_piece_8 kX8_piece_1 rfl (v := .int (σ 0 6)) rfl ?_
        refine mm_iload_n X dX8_piece_60 3 rfl ?_
        obtain ⟨hi6, h⟩ := mm_g_some h
        refine mm_zast X dX8_piece_61 8 1 (by decide) (fun _ => rfl) rfl hi6 ?_
        refine mm_aload_n X dX8_piece_62 0 rfl ?_
        refine mm_get X dX8_piece_63 0 10 (by decide) md_cf_0 rfl (by decide) uX8_piece_8 kX8_piece_5 rfl (v := .ref (a 9)) rfl ?_
        refine mm_aload_n X dX8_piece_66 0 rfl ?_
        refine mm_get X dX8_piece_67 0 6 (by decide) md_cf_0 rfl (by decide) uX8_piece_8 kX8_piece_1 rfl (v := .int (σ 0 6)) rfl ?_
        refine mm_iconst X dX8_piece_70 (v := 0) (by decide) ?_
        obtain ⟨hi7, h⟩ := mm_g_some h
        refine mm_iast X dX8_piece_71 9 0 (by decide) (fun _ => rfl) rfl hi7 ?_
        refine mm_aload_n X dX8_piece_72 0 rfl ?_
        refine mm_get X dX8_piece_73 0 12 (by decide) md_cf_0 rfl (by decide) uX8_piece_8 kX8_piece_6 rfl (v := .ref (a 11)) rfl ?_
        refine mm_aload_n X dX8_piece_76 0 rfl ?_
        refine mm_get X dX8_piece_77 0 6 (by decide) md_cf_0 rfl (by decide) uX8_piece_8 kX8_piece_1 rfl (v := .int (σ 0 6)) rfl ?_
        refine mm_iconst X dX8_piece_80 (v := -1) (by decide) ?_
        obtain ⟨hi8, h⟩ := mm_g_some h
        refine mm_iast X dX8_piece_81 11 0 (by decide) (fun _ => rfl) rfl hi8 ?_
        refine mm_aload_n X dX8_piece_82 0 rfl ?_
        refine mm_dup X dX8_piece_83 rfl ?_
        refine mm_get X dX8_piece_84 0 6 (by decide) md_cf_0 rfl (by decide) uX8_piece_8 kX8_piece_1 rfl (v := .int (σ 0 6)) rfl ?_
        refine mm_iconst X dX8_piece_87 (v := 1) (by decide) ?_
        refine mm_iadd X dX8_piece_88 ?_
        refine mm_put X dX8_piece_89 0 6 (by decide) tyX8 tyX8_ok nmX8 md_cf_0 rfl rfl (by decide) uX8_piece_8 kX8_piece_1 rfl rfl rfl (Nat.le_of_ble_eq_true rfl) ?_
        refine mm_aload_n X dX8_piece_92 0 rfl ?_
        refine mm_get X dX8_piece_93 0 6 (by decide) md_cf_0 rfl (by decide) uX8_piece_8 kX8_piece_1 rfl (v := .int ((σ 0 6) + (1 : Int32))) rfl ?_
        refine mm_iconst X dX8_piece_96 (v := 1) (by decide) ?_
        refine mm_isub X dX8_piece_97 ?_
        obtain rfl := Option.some.inj h
        exact mm_iret X dX8_piece_98 rfl hQ rfl
      · have h := (if_pos c3).symm.trans h
        refine mm_bipush X dX8_piece_29 (v := -3) (by decide) ?_
        obtain rfl := Option.some.inj h
        exact mm_iret X dX8_piece_31 rfl hQ rfl
    · have h := (if_pos c2).symm.trans h
      refine mm_bipush X dX8_piece_17 (v := -2) (by decide) ?_
      obtain rfl := Option.some.inj h
      exact mm_iret X dX8_piece_19 rfl hQ rfl
/-! LinenTunnelModel.about -/
def fX8_about (σ : mm_M) (p1 p2 : Int32) : Option (Int32) := (if (fX8_isPiece σ p1) = 0 then some (-2 : Int32) else (if p2 = 0 then mm_g 100 p1 (some (σ 6 p1.toNatClampNeg)) else (if p2 = 1 then mm_g 100 p1 (some (σ 7 p1.toNatClampNeg)) else (if p2 = 2 then mm_g 100 p1 ((if (σ 8 p1.toNatClampNeg) = 0 then some (0 : Int32) else some (1 : Int32))) else (if p2 = 3 then mm_g 100 p1 (some (σ 9 p1.toNatClampNeg)) else (if p2 = 4 then mm_g 100 p1 (some (σ 10 p1.toNatClampNeg)) else (if p2 = 5 then mm_g 100 p1 (some (σ 11 p1.toNatClampNeg)) else some (-2 : Int32))))))))
abbrev rX8_about : Room := { frames := 2, cells := 0, slots := 0, locals := 43 }
theorem hyX8_about : yX8_about.cls = RX8 ∧ yX8_about.cls ≠ "java/lang/invoke/MethodHandle" ∧ yX8_about.cls ≠ "java/lang/invoke/VarHandle" ∧ (parseMethodDescriptor yX8_about.desc).map (fun d => d.parameters.length) = some 2 := by decide +kernel
theorem kX8_about_1 : (Cond.fieldLink RX8 26 "LinenTunnelModel" "kindOf" "[I" : Cond) ∈ wsX8_about := List.mem_of_getElem? (i := 1) rfl
theorem uX8_about_8 : ∀ w ∈ u_ws RX8 TX8 37, w ∈ wsX8_about := fun _ h => (List.mem_cons_of_mem _ (List.mem_append_right _ h))
theorem kX8_about_2 : (Cond.fieldLink RX8 29 "LinenTunnelModel" "ownerOf" "[I" : Cond) ∈ wsX8_about := List.mem_of_getElem? (i := 2) rfl
theorem kX8_about_3 : (Cond.fieldLink RX8 32 "LinenTunnelModel" "hasChip" "[Z" : Cond) ∈ wsX8_about := List.mem_of_getElem? (i := 3) rfl
theorem kX8_about_4 : (Cond.fieldLink RX8 35 "LinenTunnelModel" "placeOf" "[I" : Cond) ∈ wsX8_about := List.mem_of_getElem? (i := 4) rfl
theorem kX8_about_5 : (Cond.fieldLink RX8 38 "LinenTunnelModel" "washes" "[I" : Cond) ∈ wsX8_about := List.mem_of_getElem? (i := 5) rfl
theorem kX8_about_6 : (Cond.fieldLink RX8 41 "LinenTunnelModel" "batchOf" "[I" : Cond) ∈ wsX8_about := List.mem_of_getElem? (i := 6) rfl
set_option maxRecDepth 100000 in
set_option maxHeartbeats 4000000 in
theorem mX8_about {l : Launch} {D : va_G} {cI cZ : ClassId} {a : Nat → Nat} (hJ : mm_J 29 a) {σ : mm_M} {p1 p2 : Int32} {res : Int32} (h : fX8_about σ p1 p2 = some res) (sz : Nat) : Met l yX8_about wsX8_about rX8_about (eP D cI cZ a σ [.ref (a 0), .int p1, .int p2] sz) (eQi D cI cZ a res σ sz) 0 0 (mm_A 29 a sz) := by
  refine mm_met (fun sz => eQi D cI cZ a res σ sz) (lv := [(0, .ref (a 0)), (1, .int p1), (2, .int p2)]) (ret := (some .int)) (cc := cX8_about) (maxL := 3) (own := RX8) hJ (by decide +kernel) rfl rfl (Nat.le_of_ble_eq_true rfl) rfl ?_ sz
  intro K hL X hQ
  unfold fX8_about at h
  refine mm_aload_n X dX8_about_0 0 rfl ?_
  refine mm_iload_n X dX8_about_1 1 rfl ?_
  refine mm_callVi X dX8_about_2 (As := [.int p1]) (rest := []) 0 (by decide) md_cf_0 rfl hL (mX8_isPiece hJ (res := fX8_isPiece σ p1) rfl) gX8_about_X8_isPiece rfl ⟨rfl, rfl⟩ hyX8_isPiece ⟨Nat.le_of_ble_eq_true rfl, Nat.le_of_ble_eq_true rfl⟩ rfl (Nat.le_of_ble_eq_true rfl) ?_
  refine mm_if_ne X dX8_about_5 (tgt := 11) (by decide) (fun c1 => ?_) (fun c1 => ?_)
  · have h := (if_neg c1).symm.trans h
    refine mm_iload_n X dX8_about_11 2 rfl ?_
    by_cases c2 : p2 = 0
    · have h := (if_pos c2).symm.trans h
      refine mm_swIn X dX8_about_12 0 (by rw [c2]; decide) (by decide) (tgt := 52) (by rfl) (by decide) ?_
      refine mm_aload_n X dX8_about_52 0 rfl ?_
      refine mm_get X dX8_about_53 0 7 (by decide) md_cf_0 rfl (by decide) uX8_about_8 kX8_about_1 rfl (v := .ref (a 6)) rfl ?_
      refine mm_iload_n X dX8_about_56 1 rfl ?_
      obtain ⟨hi3, h⟩ := mm_g_some h
      refine mm_iald X dX8_about_57 6 0 (by decide) rfl rfl hi3 (v := (σ 6 p1.toNatClampNeg)) rfl ?_
      obtain rfl := Option.some.inj h
      exact mm_iret X dX8_about_58 rfl hQ rfl
    have h := (if_neg c2).symm.trans h
    by_cases c4 : p2 = 1
    · have h := (if_pos c4).symm.trans h
      refine mm_swIn X dX8_about_12 1 (by rw [c4]; decide) (by decide) (tgt := 59) (by rfl) (by decide) ?_
      refine mm_aload_n X dX8_about_59 0 rfl ?_
      refine mm_get X dX8_about_60 0 8 (by decide) md_cf_0 rfl (by decide) uX8_about_8 kX8_about_2 rfl (v := .ref (a 7)) rfl ?_
      refine mm_iload_n X dX8_about_63 1 rfl ?_
      obtain ⟨hi5, h⟩ := mm_g_some h
      refine mm_iald X dX8_about_64 7 0 (by decide) rfl rfl hi5 (v := (σ 7 p1.toNatClampNeg)) rfl ?_
      obtain rfl := Option.some.inj h
      exact mm_iret X dX8_about_65 rfl hQ rfl
    have h := (if_neg c4).symm.trans h
    by_cases c6 : p2 = 2
    · have h := (if_pos c6).symm.trans h
      refine mm_swIn X dX8_about_12 2 (by rw [c6]; decide) (by decide) (tgt := 66) (by rfl) (by decide) ?_
      refine mm_aload_n X dX8_about_66 0 rfl ?_
      refine mm_get X dX8_about_67 0 9 (by decide) md_cf_0 rfl (by decide) uX8_about_8 kX8_about_3 rfl (v := .ref (a 8)) rfl ?_
      refine mm_iload_n X dX8_about_70 1 rfl ?_
      obtain ⟨hi7, h⟩ := mm_g_some h
      refine mm_zald X dX8_about_71 8 1 (by decide) rfl rfl hi7 (v := (σ 8 p1.toNatClampNeg)) rfl ?_
      refine mm_if_eq X dX8_about_72 (tgt := 79) (by decide) (fun c8 => ?_) (fun c8 => ?_)
      · have h := (if_pos c8).symm.trans h
        refine mm_iconst X dX8_about_79 (v := 0) (by decide) ?_
        obtain rfl := Option.some.inj h
        exact mm_iret X dX8_about_80 rfl hQ rfl
      · have h := (if_neg c8).symm.trans h
        refine mm_iconst X dX8_about_75 (v := 1) (by decide) ?_
        refine mm_goto X dX8_about_76 (tgt := 80) (by decide) ?_
        obtain rfl := Option.some.inj h
        exact mm_iret X dX8_about_80 rfl hQ rfl
    have h := (if_neg c6).symm.trans h
    by_cases c9 : p2 = 3
    · have h := (if_pos c9).symm.trans h
      refine mm_swIn X dX8_about_12 3 (by rw [c9]; decide) (by decide) (tgt := 81) (by rfl) (by decide) ?_
      refine mm_aload_n X dX8_about_81 0 rfl ?_
      refine mm_get X dX8_about_82 0 10 (by decide) md_cf_0 rfl (by decide) uX8_about_8 kX8_about_4 rfl (v := .ref (a 9)) rfl ?_
      refine mm_iload_n X dX8_about_85 1 rfl ?_
      obtain ⟨hi10, h⟩ := mm_g_some h
      refine mm_iald X dX8_about_86 9 0 (by decide) rfl rfl hi10 (v := (σ 9 p1.toNatClampNeg)) rfl ?_
      obtain rfl := Option.some.inj h
      exact mm_iret X dX8_about_87 rfl hQ rfl
    have h := (if_neg c9).symm.trans h
    by_cases c11 : p2 = 4
    · have h := (if_pos c11).symm.trans h
      refine mm_swIn X dX8_about_12 4 (by rw [c11]; decide) (by decide) (tgt := 88) (by rfl) (by decide) ?_
      refine mm_aload_n X dX8_about_88 0 rfl ?_
      refine mm_get X dX8_about_89 0 11 (by decide) md_cf_0 rfl (by decide) uX8_about_8 kX8_about_5 rfl (v := .ref (a 10)) rfl ?_
      refine mm_iload_n X dX8_about_92 1 rfl ?_
      obtain ⟨hi12, h⟩ := mm_g_some h
      refine mm_iald X dX8_about_93 10 0 (by decide) rfl rfl hi12 (v := (σ 10 p1.toNatClampNeg)) rfl ?_
      obtain rfl := Option.some.inj h
      exact mm_iret X dX8_about_94 rfl hQ rfl
    have h := (if_neg c11).symm.trans h
    by_cases c13 : p2 = 5
    · have h := (if_pos c13).symm.trans h
      refine mm_swIn X dX8_about_12 5 (by rw [c13]; decide) (by decide) (tgt := 95) (by rfl) (by decide) ?_
      refine mm_aload_n X dX8_about_95 0 rfl ?_
      refine mm_get X dX8_about_96 0 12 (by decide) md_cf_0 rfl (by decide) uX8_about_8 kX8_about_6 rfl (v := .ref (a 11)) rfl ?_
      refine mm_iload_n X dX8_about_99 1 rfl ?_
      obtain ⟨hi14, h⟩ := mm_g_some h
      refine mm_iald X dX8_about_100 11 0 (by decide) rfl rfl hi14 (v := (σ 11 p1.toNatClampNeg)) rfl ?_
      obtain rfl := Option.some.inj h
      exact mm_iret X dX8_about_101 rfl hQ rfl
    have h := (if_neg c13).symm.trans h
    have zc2 : ¬ (p2).toInt = (0 : Int) := lv_neT c2 (by decide)
    have zc4 : ¬ (p2).toInt = (1 : Int) := lv_neT c4 (by decide)
    have zc6 : ¬ (p2).toInt = (2 : Int) := lv_neT c6 (by decide)
    have zc9 : ¬ (p2).toInt = (3 : Int) := lv_neT c9 (by decide)
    have zc11 : ¬ (p2).toInt = (4 : Int) := lv_neT c11 (by decide)
    have zc13 : ¬ (p2).toInt = (5 : Int) := lv_neT c13 (by decide)
    refine mm_swOut X dX8_about_12 (by omega) (tgt := 102) (by decide) ?_
    refine mm_bipush X dX8_about_102 (v := -2) (by decide) ?_
    obtain rfl := Option.some.inj h
    exact mm_iret X dX8_about_104 rfl hQ rfl
  · have h := (if_pos c1).symm.trans h
    refine mm_bipush X dX8_about_8 (v := -2) (by decide) ?_
    obtain rfl := Option.some.inj h
    exact mm_iret X dX8_about_10 rfl hQ rfl
/-! LinenTunnelModel.chip -/
def fX8_chip (σ : mm_M) (p1 p2 : Int32) : Option (Int32 × mm_M) := (if (fX8_isPiece σ p1) = 0 then some ((-2 : Int32), σ) else mm_g 100 p1 (some ((1 : Int32), (mm_up σ 8 p1.toNatClampNeg (vp_nar .boolean p2)))))
abbrev rX8_chip : Room := { frames := 2, cells := 0, slots := 0, locals := 43 }
theorem hyX8_chip : yX8_chip.cls = RX8 ∧ yX8_chip.cls ≠ "java/lang/invoke/MethodHandle" ∧ yX8_chip.cls ≠ "java/lang/invoke/VarHandle" ∧ (parseMethodDescriptor yX8_chip.desc).map (fun d => d.parameters.length) = some 2 := by decide +kernel
theorem kX8_chip_1 : (Cond.fieldLink RX8 32 "LinenTunnelModel" "hasChip" "[Z" : Cond) ∈ wsX8_chip := List.mem_of_getElem? (i := 1) rfl
theorem uX8_chip_8 : ∀ w ∈ u_ws RX8 TX8 37, w ∈ wsX8_chip := fun _ h => (List.mem_cons_of_mem _ (List.mem_append_right _ h))
set_option maxRecDepth 100000 in
set_option maxHeartbeats 4000000 in
theorem mX8_chip {l : Launch} {D : va_G} {cI cZ : ClassId} {a : Nat → Nat} (hJ : mm_J 29 a) {σ : mm_M} {p1 p2 : Int32} {res : Int32 × mm_M} (h : fX8_chip σ p1 p2 = some res) (sz : Nat) : Met l yX8_chip wsX8_chip rX8_chip (eP D cI cZ a σ [.ref (a 0), .int p1, .int p2] sz) (eQi D cI cZ a res.1 res.2 sz) 0 0 (mm_A 29 a sz) := by
  refine mm_met (fun sz => eQi D cI cZ a res.1 res.2 sz) (lv := [(0, .ref (a 0)), (1, .int p1), (2, .int p2)]) (ret := (some .int)) (cc := cX8_chip) (maxL := 3) (own := RX8) hJ (by decide +kernel) rfl rfl (Nat.le_of_ble_eq_true rfl) rfl ?_ sz
  intro K hL X hQ
  unfold fX8_chip at h
  refine mm_aload_n X dX8_chip_0 0 rfl ?_
  refine mm_iload_n X dX8_chip_1 1 rfl ?_
  refine mm_callVi X dX8_chip_2 (As := [.int p1]) (rest := []) 0 (by decide) md_cf_0 rfl hL (mX8_isPiece hJ (res := fX8_isPiece σ p1) rfl) gX8_chip_X8_isPiece rfl ⟨rfl, rfl⟩ hyX8_isPiece ⟨Nat.le_of_ble_eq_true rfl, Nat.le_of_ble_eq_true rfl⟩ rfl (Nat.le_of_ble_eq_true rfl) ?_
  refine mm_if_ne X dX8_chip_5 (tgt := 11) (by decide) (fun c1 => ?_) (fun c1 => ?_)
  · have h := (if_neg c1).symm.trans h
    refine mm_aload_n X dX8_chip_11 0 rfl ?_
    refine mm_get X dX8_chip_12 0 9 (by decide) md_cf_0 rfl (by decide) uX8_chip_8 kX8_chip_1 rfl (v := .ref (a 8)) rfl ?_
    refine mm_iload_n X dX8_chip_15 1 rfl ?_
    refine mm_iload_n X dX8_chip_16 2 rfl ?_
    obtain ⟨hi2, h⟩ := mm_g_some h
    refine mm_zast X dX8_chip_17 8 1 (by decide) (fun _ => rfl) rfl hi2 ?_
    refine mm_iconst X dX8_chip_18 (v := 1) (by decide) ?_
    obtain rfl := Option.some.inj h
    exact mm_iret X dX8_chip_19 rfl hQ rfl
  · have h := (if_pos c1).symm.trans h
    refine mm_bipush X dX8_chip_8 (v := -2) (by decide) ?_
    obtain rfl := Option.some.inj h
    exact mm_iret X dX8_chip_10 rfl hQ rfl
/-! LinenTunnelModel.lost -/
def fX8_lost (σ : mm_M) (p1 : Int32) : Option (Int32 × mm_M) := (if (fX8_isPiece σ p1) = 0 then some ((-2 : Int32), σ) else mm_g 100 p1 ((if (σ 9 p1.toNatClampNeg) = (2 : Int32) then some ((-4 : Int32), σ) else mm_g 100 p1 (mm_g 100 p1 (mm_g 100 p1 (some (((mm_up σ 9 p1.toNatClampNeg (if (σ 9 p1.toNatClampNeg) = (4 : Int32) then (0 : Int32) else (4 : Int32))) 9 p1.toNatClampNeg), (mm_up σ 9 p1.toNatClampNeg (if (σ 9 p1.toNatClampNeg) = (4 : Int32) then (0 : Int32) else (4 : Int32))))))))))
abbrev rX8_lost : Room := { frames := 2, cells := 0, slots := 0, locals := 43 }
theorem hyX8_lost : yX8_lost.cls = RX8 ∧ yX8_lost.cls ≠ "java/lang/invoke/MethodHandle" ∧ yX8_lost.cls ≠ "java/lang/invoke/VarHandle" ∧ (parseMethodDescriptor yX8_lost.desc).map (fun d => d.parameters.length) = some 1 := by decide +kernel
theorem kX8_lost_1 : (Cond.fieldLink RX8 35 "LinenTunnelModel" "placeOf" "[I" : Cond) ∈ wsX8_lost := List.mem_of_getElem? (i := 1) rfl
theorem uX8_lost_8 : ∀ w ∈ u_ws RX8 TX8 37, w ∈ wsX8_lost := fun _ h => (List.mem_cons_of_mem _ (List.mem_append_right _ h))
set_option maxRecDepth 100000 in
set_option maxHeartbeats 4000000 in
theorem mX8_lost {l : Launch} {D : va_G} {cI cZ : ClassId} {a : Nat → Nat} (hJ : mm_J 29 a) {σ : mm_M} {p1 : Int32} {res : Int32 × mm_M} (h : fX8_lost σ p1 = some res) (sz : Nat) : Met l yX8_lost wsX8_lost rX8_lost (eP D cI cZ a σ [.ref (a 0), .int p1] sz) (eQi D cI cZ a res.1 res.2 sz) 0 0 (mm_A 29 a sz) := by
  refine mm_met (fun sz => eQi D cI cZ a res.1 res.2 sz) (lv := [(0, .ref (a 0)), (1, .int p1)]) (ret := (some .int)) (cc := cX8_lost) (maxL := 2) (own := RX8) hJ (by decide +kernel) rfl rfl (Nat.le_of_ble_eq_true rfl) rfl ?_ sz
  intro K hL X hQ
  unfold fX8_lost at h
  refine mm_aload_n X dX8_lost_0 0 rfl ?_
  refine mm_iload_n X dX8_lost_1 1 rfl ?_
  refine mm_callVi X dX8_lost_2 (As := [.int p1]) (rest := []) 0 (by decide) md_cf_0 rfl hL (mX8_isPiece hJ (res := fX8_isPiece σ p1) rfl) gX8_lost_X8_isPiece rfl ⟨rfl, rfl⟩ hyX8_isPiece ⟨Nat.le_of_ble_eq_true rfl, Nat.le_of_ble_eq_true rfl⟩ rfl (Nat.le_of_ble_eq_true rfl) ?_
  refine mm_if_ne X dX8_lost_5 (tgt := 11) (by decide) (fun c1 => ?_) (fun c1 => ?_)
  · have h := (if_neg c1).symm.trans h
    refine mm_aload_n X dX8_lost_11 0 rfl ?_
    refine mm_get X dX8_lost_12 0 10 (by decide) md_cf_0 rfl (by decide) uX8_lost_8 kX8_lost_1 rfl (v := .ref (a 9)) rfl ?_
    refine mm_iload_n X dX8_lost_15 1 rfl ?_
    obtain ⟨hi2, h⟩ := mm_g_some h
    refine mm_iald X dX8_lost_16 9 0 (by decide) rfl rfl hi2 (v := (σ 9 p1.toNatClampNeg)) rfl ?_
    refine mm_iconst X dX8_lost_17 (v := 2) (by decide) ?_
    refine mm_icmp_ne X dX8_lost_18 (tgt := 24) (by decide) (fun c3 => ?_) (fun c3 => ?_)
    · have h := (if_neg c3).symm.trans h
      refine mm_aload_n X dX8_lost_24 0 rfl ?_
      refine mm_get X dX8_lost_25 0 10 (by decide) md_cf_0 rfl (by decide) uX8_lost_8 kX8_lost_1 rfl (v := .ref (a 9)) rfl ?_
      refine mm_iload_n X dX8_lost_28 1 rfl ?_
      refine mm_aload_n X dX8_lost_29 0 rfl ?_
      refine mm_get X dX8_lost_30 0 10 (by decide) md_cf_0 rfl (by decide) uX8_lost_8 kX8_lost_1 rfl (v := .ref (a 9)) rfl ?_
      refine mm_iload_n X dX8_lost_33 1 rfl ?_
      obtain ⟨hi4, h⟩ := mm_g_some h
      refine mm_iald X dX8_lost_34 9 0 (by decide) rfl rfl hi4 (v := (σ 9 p1.toNatClampNeg)) rfl ?_
      refine mm_iconst X dX8_lost_35 (v := 4) (by decide) ?_
      have J8 : ∀ (v5 : Int32), v5 = (if (σ 9 p1.toNatClampNeg) = (4 : Int32) then (0 : Int32) else (4 : Int32)) → eG K D cI cZ a σ 44 [(0, .ref (a 0)), (1, .int p1)] [.int v5, .int p1, .ref (a 9)] := by
        intro v5 ev5
        subst ev5
        obtain ⟨hi6, h⟩ := mm_g_some h
        refine mm_iast X dX8_lost_44 9 0 (by decide) (fun _ => rfl) rfl hi6 ?_
        refine mm_aload_n X dX8_lost_45 0 rfl ?_
        refine mm_get X dX8_lost_46 0 10 (by decide) md_cf_0 rfl (by decide) uX8_lost_8 kX8_lost_1 rfl (v := .ref (a 9)) rfl ?_
        refine mm_iload_n X dX8_lost_49 1 rfl ?_
        obtain ⟨hi7, h⟩ := mm_g_some h
        refine mm_iald X dX8_lost_50 9 0 (by decide) rfl rfl hi7 (v := ((mm_up σ 9 p1.toNatClampNeg (if (σ 9 p1.toNatClampNeg) = (4 : Int32) then (0 : Int32) else (4 : Int32))) 9 p1.toNatClampNeg)) rfl ?_
        obtain rfl := Option.some.inj h
        exact mm_iret X dX8_lost_51 rfl hQ rfl
      refine mm_icmp_ne X dX8_lost_36 (tgt := 43) (by decide) (fun c9 => ?_) (fun c9 => ?_)
      · refine mm_iconst X dX8_lost_43 (v := 4) (by decide) ?_
        exact J8 _ (by rw [if_neg c9])
      · refine mm_iconst X dX8_lost_39 (v := 0) (by decide) ?_
        refine mm_goto X dX8_lost_40 (tgt := 44) (by decide) ?_
        exact J8 _ (by rw [if_pos c9])
    · have h := (if_pos c3).symm.trans h
      refine mm_bipush X dX8_lost_21 (v := -4) (by decide) ?_
      obtain rfl := Option.some.inj h
      exact mm_iret X dX8_lost_23 rfl hQ rfl
  · have h := (if_pos c1).symm.trans h
    refine mm_bipush X dX8_lost_8 (v := -2) (by decide) ?_
    obtain rfl := Option.some.inj h
    exact mm_iret X dX8_lost_10 rfl hQ rfl
/-! LinenTunnelModel.again -/
def fX8_again (σ : mm_M) (p1 : Int32) : Option (Int32 × mm_M) := (if (fX8_isPiece σ p1) = 0 then some ((-2 : Int32), σ) else mm_g 100 p1 ((if (σ 9 p1.toNatClampNeg) = (3 : Int32) then mm_g 100 p1 (some ((1 : Int32), (mm_up σ 9 p1.toNatClampNeg (1 : Int32)))) else some ((-4 : Int32), σ))))
abbrev rX8_again : Room := { frames := 2, cells := 0, slots := 0, locals := 43 }
theorem hyX8_again : yX8_again.cls = RX8 ∧ yX8_again.cls ≠ "java/lang/invoke/MethodHandle" ∧ yX8_again.cls ≠ "java/lang/invoke/VarHandle" ∧ (parseMethodDescriptor yX8_again.desc).map (fun d => d.parameters.length) = some 1 := by decide +kernel
theorem kX8_again_1 : (Cond.fieldLink RX8 35 "LinenTunnelModel" "placeOf" "[I" : Cond) ∈ wsX8_again := List.mem_of_getElem? (i := 1) rfl
theorem uX8_again_8 : ∀ w ∈ u_ws RX8 TX8 37, w ∈ wsX8_again := fun _ h => (List.mem_cons_of_mem _ (List.mem_append_right _ h))
set_option maxRecDepth 100000 in
set_option maxHeartbeats 4000000 in
theorem mX8_again {l : Launch} {D : va_G} {cI cZ : ClassId} {a : Nat → Nat} (hJ : mm_J 29 a) {σ : mm_M} {p1 : Int32} {res : Int32 × mm_M} (h : fX8_again σ p1 = some res) (sz : Nat) : Met l yX8_again wsX8_again rX8_again (eP D cI cZ a σ [.ref (a 0), .int p1] sz) (eQi D cI cZ a res.1 res.2 sz) 0 0 (mm_A 29 a sz) := by
  refine mm_met (fun sz => eQi D cI cZ a res.1 res.2 sz) (lv := [(0, .ref (a 0)), (1, .int p1)]) (ret := (some .int)) (cc := cX8_again) (maxL := 2) (own := RX8) hJ (by decide +kernel) rfl rfl (Nat.le_of_ble_eq_true rfl) rfl ?_ sz
  intro K hL X hQ
  unfold fX8_again at h
  refine mm_aload_n X dX8_again_0 0 rfl ?_
  refine mm_iload_n X dX8_again_1 1 rfl ?_
  refine mm_callVi X dX8_again_2 (As := [.int p1]) (rest := []) 0 (by decide) md_cf_0 rfl hL (mX8_isPiece hJ (res := fX8_isPiece σ p1) rfl) gX8_again_X8_isPiece rfl ⟨rfl, rfl⟩ hyX8_isPiece ⟨Nat.le_of_ble_eq_true rfl, Nat.le_of_ble_eq_true rfl⟩ rfl (Nat.le_of_ble_eq_true rfl) ?_
  refine mm_if_ne X dX8_again_5 (tgt := 11) (by decide) (fun c1 => ?_) (fun c1 => ?_)
  · have h := (if_neg c1).symm.trans h
    refine mm_aload_n X dX8_again_11 0 rfl ?_
    refine mm_get X dX8_again_12 0 10 (by decide) md_cf_0 rfl (by decide) uX8_again_8 kX8_again_1 rfl (v := .ref (a 9)) rfl ?_
    refine mm_iload_n X dX8_again_15 1 rfl ?_
    obtain ⟨hi2, h⟩ := mm_g_some h
    refine mm_iald X dX8_again_16 9 0 (by decide) rfl rfl hi2 (v := (σ 9 p1.toNatClampNeg)) rfl ?_
    refine mm_iconst X dX8_again_17 (v := 3) (by decide) ?_
    refine mm_icmp_eq X dX8_again_18 (tgt := 24) (by decide) (fun c3 => ?_) (fun c3 => ?_)
    · have h := (if_pos c3).symm.trans h
      refine mm_aload_n X dX8_again_24 0 rfl ?_
      refine mm_get X dX8_again_25 0 10 (by decide) md_cf_0 rfl (by decide) uX8_again_8 kX8_again_1 rfl (v := .ref (a 9)) rfl ?_
      refine mm_iload_n X dX8_again_28 1 rfl ?_
      refine mm_iconst X dX8_again_29 (v := 1) (by decide) ?_
      obtain ⟨hi4, h⟩ := mm_g_some h
      refine mm_iast X dX8_again_30 9 0 (by decide) (fun _ => rfl) rfl hi4 ?_
      refine mm_iconst X dX8_again_31 (v := 1) (by decide) ?_
      obtain rfl := Option.some.inj h
      exact mm_iret X dX8_again_32 rfl hQ rfl
    · have h := (if_neg c3).symm.trans h
      refine mm_bipush X dX8_again_21 (v := -4) (by decide) ?_
      obtain rfl := Option.some.inj h
      exact mm_iret X dX8_again_23 rfl hQ rfl
  · have h := (if_pos c1).symm.trans h
    refine mm_bipush X dX8_again_8 (v := -2) (by decide) ?_
    obtain rfl := Option.some.inj h
    exact mm_iret X dX8_again_10 rfl hQ rfl
/-! LinenTunnelModel.is -/
def fX8_is (σ : mm_M) (p1 p2 p3 p4 : Int32) : Option (Int32) := mm_g 100 p1 ((if (σ 9 p1.toNatClampNeg) = p4 then (if p2 < 0 then (if p3 < 0 then some (1 : Int32) else mm_g 100 p1 ((if (σ 6 p1.toNatClampNeg) = p3 then some (1 : Int32) else some (0 : Int32)))) else mm_g 100 p1 ((if (σ 7 p1.toNatClampNeg) = p2 then (if p3 < 0 then some (1 : Int32) else mm_g 100 p1 ((if (σ 6 p1.toNatClampNeg) = p3 then some (1 : Int32) else some (0 : Int32)))) else some (0 : Int32)))) else some (0 : Int32)))
abbrev rX8_is : Room := { frames := 0, cells := 0, slots := 0, locals := 0 }
theorem hyX8_is : yX8_is.cls = RX8 ∧ yX8_is.cls ≠ "java/lang/invoke/MethodHandle" ∧ yX8_is.cls ≠ "java/lang/invoke/VarHandle" ∧ (parseMethodDescriptor yX8_is.desc).map (fun d => d.parameters.length) = some 4 := by decide +kernel
theorem kX8_is_1 : (Cond.fieldLink RX8 35 "LinenTunnelModel" "placeOf" "[I" : Cond) ∈ wsX8_is := List.mem_of_getElem? (i := 1) rfl
theorem uX8_is_8 : ∀ w ∈ u_ws RX8 TX8 37, w ∈ wsX8_is := fun _ h => (List.mem_cons_of_mem _ (List.mem_append_right _ h))
theorem kX8_is_3 : (Cond.fieldLink RX8 26 "LinenTunnelModel" "kindOf" "[I" : Cond) ∈ wsX8_is := List.mem_of_getElem? (i := 3) rfl
theorem kX8_is_2 : (Cond.fieldLink RX8 29 "LinenTunnelModel" "ownerOf" "[I" : Cond) ∈ wsX8_is := List.mem_of_getElem? (i := 2) rfl
set_option maxRecDepth 100000 in
set_option maxHeartbeats 4000000 in
theorem mX8_is {l : Launch} {D : va_G} {cI cZ : ClassId} {a : Nat → Nat} (hJ : mm_J 29 a) {σ : mm_M} {p1 p2 p3 p4 : Int32} {res : Int32} (h : fX8_is σ p1 p2 p3 p4 = some res) (sz : Nat) : Met l yX8_is wsX8_is rX8_is (eP D cI cZ a σ [.ref (a 0), .int p1, .int p2, .int p3, .int p4] sz) (eQi D cI cZ a res σ sz) 0 0 (mm_A 29 a sz) := by
  refine mm_met (fun sz => eQi D cI cZ a res σ sz) (lv := [(0, .ref (a 0)), (1, .int p1), (2, .int p2), (3, .int p3), (4, .int p4)]) (ret := (some .boolean)) (cc := cX8_is) (maxL := 5) (own := RX8) hJ (by decide +kernel) rfl rfl (Nat.le_of_ble_eq_true rfl) rfl ?_ sz
  intro K hL X hQ
  unfold fX8_is at h
  refine mm_aload_n X dX8_is_0 0 rfl ?_
  refine mm_get X dX8_is_1 0 10 (by decide) md_cf_0 rfl (by decide) uX8_is_8 kX8_is_1 rfl (v := .ref (a 9)) rfl ?_
  refine mm_iload_n X dX8_is_4 1 rfl ?_
  obtain ⟨hi1, h⟩ := mm_g_some h
  refine mm_iald X dX8_is_5 9 0 (by decide) rfl rfl hi1 (v := (σ 9 p1.toNatClampNeg)) rfl ?_
  refine mm_iload X dX8_is_6 4 rfl ?_
  refine mm_icmp_ne X dX8_is_8 (tgt := 43) (by decide) (fun c2 => ?_) (fun c2 => ?_)
  · have h := (if_neg c2).symm.trans h
    refine mm_iconst X dX8_is_43 (v := 0) (by decide) ?_
    obtain rfl := Option.some.inj h
    exact mm_zret X dX8_is_44 rfl rfl hQ rfl
  · have h := (if_pos c2).symm.trans h
    refine mm_iload_n X dX8_is_11 2 rfl ?_
    refine mm_if_lt X dX8_is_12 (tgt := 25) (by decide) (fun c3 => ?_) (fun c3 => ?_)
    · have h := (if_pos c3).symm.trans h
      refine mm_iload_n X dX8_is_25 3 rfl ?_
      refine mm_if_lt X dX8_is_26 (tgt := 39) (by decide) (fun c4 => ?_) (fun c4 => ?_)
      · have h := (if_pos c4).symm.trans h
        refine mm_iconst X dX8_is_39 (v := 1) (by decide) ?_
        refine mm_goto X dX8_is_40 (tgt := 44) (by decide) ?_
        obtain rfl := Option.some.inj h
        exact mm_zret X dX8_is_44 rfl rfl hQ rfl
      · have h := (if_neg c4).symm.trans h
        refine mm_aload_n X dX8_is_29 0 rfl ?_
        refine mm_get X dX8_is_30 0 7 (by decide) md_cf_0 rfl (by decide) uX8_is_8 kX8_is_3 rfl (v := .ref (a 6)) rfl ?_
        refine mm_iload_n X dX8_is_33 1 rfl ?_
        obtain ⟨hi5, h⟩ := mm_g_some h
        refine mm_iald X dX8_is_34 6 0 (by decide) rfl rfl hi5 (v := (σ 6 p1.toNatClampNeg)) rfl ?_
        refine mm_iload_n X dX8_is_35 3 rfl ?_
        refine mm_icmp_ne X dX8_is_36 (tgt := 43) (by decide) (fun c6 => ?_) (fun c6 => ?_)
        · have h := (if_neg c6).symm.trans h
          refine mm_iconst X dX8_is_43 (v := 0) (by decide) ?_
          obtain rfl := Option.some.inj h
          exact mm_zret X dX8_is_44 rfl rfl hQ rfl
        · have h := (if_pos c6).symm.trans h
          refine mm_iconst X dX8_is_39 (v := 1) (by decide) ?_
          refine mm_goto X dX8_is_40 (tgt := 44) (by decide) ?_
          obtain rfl := Option.some.inj h
          exact mm_zret X dX8_is_44 rfl rfl hQ rfl
    · have h := (if_neg c3).symm.trans h
      refine mm_aload_n X dX8_is_15 0 rfl ?_
      refine mm_get X dX8_is_16 0 8 (by decide) md_cf_0 rfl (by decide) uX8_is_8 kX8_is_2 rfl (v := .ref (a 7)) rfl ?_
      refine mm_iload_n X dX8_is_19 1 rfl ?_
      obtain ⟨hi7, h⟩ := mm_g_some h
      refine mm_iald X dX8_is_20 7 0 (by decide) rfl rfl hi7 (v := (σ 7 p1.toNatClampNeg)) rfl ?_
      refine mm_iload_n X dX8_is_21 2 rfl ?_
      refine mm_icmp_ne X dX8_is_22 (tgt := 43) (by decide) (fun c8 => ?_) (fun c8 => ?_)
      · have h := (if_neg c8).symm.trans h
        refine mm_iconst X dX8_is_43 (v := 0) (by decide) ?_
        obtain rfl := Option.some.inj h
        exact mm_zret X dX8_is_44 rfl rfl hQ rfl
      · have h := (if_pos c8).symm.trans h
        refine mm_iload_n X dX8_is_25 3 rfl ?_
        refine mm_if_lt X dX8_is_26 (tgt := 39) (by decide) (fun c9 => ?_) (fun c9 => ?_)
        · have h := (if_pos c9).symm.trans h
          refine mm_iconst X dX8_is_39 (v := 1) (by decide) ?_
          refine mm_goto X dX8_is_40 (tgt := 44) (by decide) ?_
          obtain rfl := Option.some.inj h
          exact mm_zret X dX8_is_44 rfl rfl hQ rfl
        · have h := (if_neg c9).symm.trans h
          refine mm_aload_n X dX8_is_29 0 rfl ?_
          refine mm_get X dX8_is_30 0 7 (by decide) md_cf_0 rfl (by decide) uX8_is_8 kX8_is_3 rfl (v := .ref (a 6)) rfl ?_
          refine mm_iload_n X dX8_is_33 1 rfl ?_
          obtain ⟨hi10, h⟩ := mm_g_some h
          refine mm_iald X dX8_is_34 6 0 (by decide) rfl rfl hi10 (v := (σ 6 p1.toNatClampNeg)) rfl ?_
          refine mm_iload_n X dX8_is_35 3 rfl ?_
          refine mm_icmp_ne X dX8_is_36 (tgt := 43) (by decide) (fun c11 => ?_) (fun c11 => ?_)
          · have h := (if_neg c11).symm.trans h
            refine mm_iconst X dX8_is_43 (v := 0) (by decide) ?_
            obtain rfl := Option.some.inj h
            exact mm_zret X dX8_is_44 rfl rfl hQ rfl
          · have h := (if_pos c11).symm.trans h
            refine mm_iconst X dX8_is_39 (v := 1) (by decide) ?_
            refine mm_goto X dX8_is_40 (tgt := 44) (by decide) ?_
            obtain rfl := Option.some.inj h
            exact mm_zret X dX8_is_44 rfl rfl hQ rfl
/-! LinenTunnelModel.pieces -/
def fX8_pieces_40 (F : Nat) (σ : mm_M) (l1 : Int32) (l2 : Int32) (l3 : Int32) : Nat → Int32 → Int32 → Option (Int32)
  | 0, _, _ => none
  | k + 1, l4, l5 => (if l5 < (σ 0 6) then (fX8_is σ l5 l1 l2 l3).bind fun q2 => fX8_pieces_40 F σ l1 l2 l3 k (l4 + (if q2 = 0 then (0 : Int32) else (1 : Int32))) (l5 + 1) else some (l4))
def fX8_pieces (F : Nat) (σ : mm_M) (p1 p2 p3 : Int32) : Option (Int32) := (if (fX8_in p1 (-1 : Int32) (5 : Int32)) = 0 then some (-2 : Int32) else (if p2 = (-1 : Int32) then (if (fX8_in p3 (0 : Int32) (4 : Int32)) = 0 then some (-2 : Int32) else (fX8_pieces_40 F σ p1 p2 p3 F (0 : Int32) (0 : Int32)).bind fun q4 => some q4) else (if (fX8_isKind σ p2) = 0 then some (-2 : Int32) else (if (fX8_in p3 (0 : Int32) (4 : Int32)) = 0 then some (-2 : Int32) else (fX8_pieces_40 F σ p1 p2 p3 F (0 : Int32) (0 : Int32)).bind fun q7 => some q7))))
abbrev rX8_pieces : Room := { frames := 2, cells := 0, slots := 0, locals := 43 }
theorem hyX8_pieces : yX8_pieces.cls = RX8 ∧ yX8_pieces.cls ≠ "java/lang/invoke/MethodHandle" ∧ yX8_pieces.cls ≠ "java/lang/invoke/VarHandle" ∧ (parseMethodDescriptor yX8_pieces.desc).map (fun d => d.parameters.length) = some 3 := by decide +kernel
theorem kX8_pieces_1 : (Cond.fieldLink RX8 112 "LinenTunnelModel" "pieceMany" "I" : Cond) ∈ wsX8_pieces := List.mem_of_getElem? (i := 1) rfl
theorem uX8_pieces_8 : ∀ w ∈ u_ws RX8 TX8 37, w ∈ wsX8_pieces := fun _ h => (List.mem_cons_of_mem _ (List.mem_append_right _ h))
set_option maxRecDepth 100000 in
set_option maxHeartbeats 4000000 in
theorem tX8_pieces_40 {l : Launch} {K : mm_K} {D : va_G} {cI cZ : ClassId} {a : Nat → Nat} (X : eC K rX8_pieces cX8_pieces 6 (some .int) wsX8_pieces RX8 D cI cZ a) (hL : mm_L K l) (hJ : mm_J 29 a) {F : Nat} {σ : mm_M} {l1 : Int32} {l2 : Int32} {l3 : Int32} {out : Int32} (hx : eG K D cI cZ a σ 77 [(4, .int out)] []) : ∀ (k : Nat) (l4 : Int32) (l5 : Int32), fX8_pieces_40 F σ l1 l2 l3 k l4 l5 = some out → eG K D cI cZ a σ 40 [(0, .ref (a 0)), (1, .int l1), (2, .int l2), (3, .int l3), (4, .int l4), (5, .int l5)] [] := by
  intro k
  induction k with
  | zero =>
    intro l4 l5 h
    have h : none = some out := h
    cases h
  | succ k ih =>
    intro l4 l5 h
    rw [fX8_pieces_40] at h
    refine mm_iload X dX8_pieces_40 5 rfl ?_
    refine mm_aload_n X dX8_pieces_42 0 rfl ?_
    refine mm_get X dX8_pieces_43 0 6 (by decide) md_cf_0 rfl (by decide) uX8_pieces_8 kX8_pieces_1 rfl (v := .int (σ 0 6)) rfl ?_
    refine mm_icmp_ge X dX8_pieces_46 (tgt := 77) (by decide) (fun c1 => ?_) (fun c1 => ?_)
    · have h := (if_neg c1).symm.trans h
      obtain rfl := Option.some.inj h
      refine mm_loc [4] rfl ?_
      exact hx
    · have h := (if_pos c1).symm.trans h
      refine mm_iload X dX8_pieces_49 4 rfl ?_
      refine mm_aload_n X dX8_pieces_51 0 rfl ?_
      refine mm_iload X dX8_pieces_52 5 rfl ?_
      refine mm_iload_n X dX8_pieces_54 1 rfl ?_
      refine mm_iload_n X dX8_pieces_55 2 rfl ?_
      refine mm_iload_n X dX8_pieces_56 3 rfl ?_
      obtain ⟨q2, hq2, h⟩ := Option.bind_eq_some_iff.mp h
      refine mm_callVi X dX8_pieces_57 (As := [.int l5, .int l1, .int l2, .int l3]) (rest := [.int l4]) 0 (by decide) md_cf_0 rfl hL (mX8_is hJ hq2) gX8_pieces_X8_is rfl ⟨rfl, rfl⟩ hyX8_is ⟨Nat.le_of_ble_eq_true rfl, Nat.le_of_ble_eq_true rfl⟩ rfl (Nat.le_of_ble_eq_true rfl) ?_
      have J4 : ∀ (v3 : Int32), v3 = (if q2 = 0 then (0 : Int32) else (1 : Int32)) → eG K D cI cZ a σ 68 [(0, .ref (a 0)), (1, .int l1), (2, .int l2), (3, .int l3), (5, .int l5)] [.int v3, .int l4] := by
        intro v3 ev3
        subst ev3
        refine mm_iadd X dX8_pieces_68 ?_
        refine mm_istore X dX8_pieces_69 (by decide) (lv2 := [(4, .int (l4 + (if q2 = 0 then (0 : Int32) else (1 : Int32)))), (0, .ref (a 0)), (1, .int l1), (2, .int l2), (3, .int l3), (5, .int l5)]) rfl ?_
        refine mm_iinc X dX8_pieces_71 5 rfl (v := (l5 + 1)) rfl (by decide) (lv2 := [(5, .int (l5 + 1)), (4, .int (l4 + (if q2 = 0 then (0 : Int32) else (1 : Int32)))), (0, .ref (a 0)), (1, .int l1), (2, .int l2), (3, .int l3)]) rfl ?_
        refine mm_goto X dX8_pieces_74 (tgt := 40) (by decide) ?_
        refine mm_loc [2, 3, 4, 5, 1, 0] rfl ?_
        exact ih _ _ h
      refine mm_if_eq X dX8_pieces_60 (tgt := 67) (by decide) (fun c5 => ?_) (fun c5 => ?_)
      · refine mm_iconst X dX8_pieces_67 (v := 0) (by decide) ?_
        refine mm_loc [0, 1, 2, 3, 5] rfl ?_
        exact J4 _ (by rw [if_pos c5])
      · refine mm_iconst X dX8_pieces_63 (v := 1) (by decide) ?_
        refine mm_goto X dX8_pieces_64 (tgt := 68) (by decide) ?_
        refine mm_loc [0, 1, 2, 3, 5] rfl ?_
        exact J4 _ (by rw [if_neg c5])
set_option maxRecDepth 100000 in
set_option maxHeartbeats 4000000 in
theorem mX8_pieces {l : Launch} {D : va_G} {cI cZ : ClassId} {a : Nat → Nat} (hJ : mm_J 29 a) {F : Nat} {σ : mm_M} {p1 p2 p3 : Int32} {res : Int32} (h : fX8_pieces F σ p1 p2 p3 = some res) (sz : Nat) : Met l yX8_pieces wsX8_pieces rX8_pieces (eP D cI cZ a σ [.ref (a 0), .int p1, .int p2, .int p3] sz) (eQi D cI cZ a res σ sz) 0 0 (mm_A 29 a sz) := by
  refine mm_met (fun sz => eQi D cI cZ a res σ sz) (lv := [(0, .ref (a 0)), (1, .int p1), (2, .int p2), (3, .int p3)]) (ret := (some .int)) (cc := cX8_pieces) (maxL := 6) (own := RX8) hJ (by decide +kernel) rfl rfl (Nat.le_of_ble_eq_true rfl) rfl ?_ sz
  intro K hL X hQ
  unfold fX8_pieces at h
  refine mm_iload_n X dX8_pieces_0 1 rfl ?_
  refine mm_iconst X dX8_pieces_1 (v := -1) (by decide) ?_
  refine mm_iconst X dX8_pieces_2 (v := 5) (by decide) ?_
  refine mm_callSi X dX8_pieces_3 (As := [.int p1, .int (-1 : Int32), .int (5 : Int32)]) (rest := []) hL (mX8_in hJ (res := fX8_in p1 (-1 : Int32) (5 : Int32)) rfl) gX8_pieces_X8_in rfl ⟨rfl, rfl⟩ hyX8_in ⟨Nat.le_of_ble_eq_true rfl, Nat.le_of_ble_eq_true rfl⟩ rfl (Nat.le_of_ble_eq_true rfl) ?_
  refine mm_if_eq X dX8_pieces_6 (tgt := 31) (by decide) (fun c1 => ?_) (fun c1 => ?_)
  · have h := (if_pos c1).symm.trans h
    refine mm_bipush X dX8_pieces_31 (v := -2) (by decide) ?_
    obtain rfl := Option.some.inj h
    exact mm_iret X dX8_pieces_33 rfl hQ rfl
  · have h := (if_neg c1).symm.trans h
    refine mm_iload_n X dX8_pieces_9 2 rfl ?_
    refine mm_iconst X dX8_pieces_10 (v := -1) (by decide) ?_
    refine mm_icmp_eq X dX8_pieces_11 (tgt := 22) (by decide) (fun c2 => ?_) (fun c2 => ?_)
    · have h := (if_pos c2).symm.trans h
      refine mm_iload_n X dX8_pieces_22 3 rfl ?_
      refine mm_iconst X dX8_pieces_23 (v := 0) (by decide) ?_
      refine mm_iconst X dX8_pieces_24 (v := 4) (by decide) ?_
      refine mm_callSi X dX8_pieces_25 (As := [.int p3, .int (0 : Int32), .int (4 : Int32)]) (rest := []) hL (mX8_in hJ (res := fX8_in p3 (0 : Int32) (4 : Int32)) rfl) gX8_pieces_X8_in rfl ⟨rfl, rfl⟩ hyX8_in ⟨Nat.le_of_ble_eq_true rfl, Nat.le_of_ble_eq_true rfl⟩ rfl (Nat.le_of_ble_eq_true rfl) ?_
      refine mm_if_ne X dX8_pieces_28 (tgt := 34) (by decide) (fun c3 => ?_) (fun c3 => ?_)
      · have h := (if_neg c3).symm.trans h
        refine mm_iconst X dX8_pieces_34 (v := 0) (by decide) ?_
        refine mm_istore X dX8_pieces_35 (by decide) (lv2 := [(4, .int (0 : Int32)), (0, .ref (a 0)), (1, .int p1), (2, .int p2), (3, .int p3)]) rfl ?_
        refine mm_iconst X dX8_pieces_37 (v := 0) (by decide) ?_
        refine mm_istore X dX8_pieces_38 (by decide) (lv2 := [(5, .int (0 : Int32)), (4, .int (0 : Int32)), (0, .ref (a 0)), (1, .int p1), (2, .int p2), (3, .int p3)]) rfl ?_
        obtain ⟨q4, hq4, h⟩ := Option.bind_eq_some_iff.mp h
        refine mm_loc [2, 3, 4, 5, 1, 0] rfl ?_
        refine tX8_pieces_40 X hL hJ ?_ F (0 : Int32) (0 : Int32) hq4
        refine mm_iload X dX8_pieces_77 0 rfl ?_
        obtain rfl := Option.some.inj h
        exact mm_iret X dX8_pieces_79 rfl hQ rfl
      · have h := (if_pos c3).symm.trans h
        refine mm_bipush X dX8_pieces_31 (v := -2) (by decide) ?_
        obtain rfl := Option.some.inj h
        exact mm_iret X dX8_pieces_33 rfl hQ rfl
    · have h := (if_neg c2).symm.trans h
      refine mm_aload_n X dX8_pieces_14 0 rfl ?_
      refine mm_iload_n X dX8_pieces_15 2 rfl ?_
      refine mm_callVi X dX8_pieces_16 (As := [.int p2]) (rest := []) 0 (by decide) md_cf_0 rfl hL (mX8_isKind hJ (res := fX8_isKind σ p2) rfl) gX8_pieces_X8_isKind rfl ⟨rfl, rfl⟩ hyX8_isKind ⟨Nat.le_of_ble_eq_true rfl, Nat.le_of_ble_eq_true rfl⟩ rfl (Nat.le_of_ble_eq_true rfl) ?_
      refine mm_if_eq X dX8_pieces_19 (tgt := 31) (by decide) (fun c5 => ?_) (fun c5 => ?_)
      · have h := (if_pos c5).symm.trans h
        refine mm_bipush X dX8_pieces_31 (v := -2) (by decide) ?_
        obtain rfl := Option.some.inj h
        exact mm_iret X dX8_pieces_33 rfl hQ rfl
      · have h := (if_neg c5).symm.trans h
        refine mm_iload_n X dX8_pieces_22 3 rfl ?_
        refine mm_iconst X dX8_pieces_23 (v := 0) (by decide) ?_
        refine mm_iconst X dX8_pieces_24 (v := 4) (by decide) ?_
        refine mm_callSi X dX8_pieces_25 (As := [.int p3, .int (0 : Int32), .int (4 : Int32)]) (rest := []) hL (mX8_in hJ (res := fX8_in p3 (0 : Int32) (4 : Int32)) rfl) gX8_pieces_X8_in rfl ⟨rfl, rfl⟩ hyX8_in ⟨Nat.le_of_ble_eq_true rfl, Nat.le_of_ble_eq_true rfl⟩ rfl (Nat.le_of_ble_eq_true rfl) ?_
        refine mm_if_ne X dX8_pieces_28 (tgt := 34) (by decide) (fun c6 => ?_) (fun c6 => ?_)
        · have h := (if_neg c6).symm.trans h
          refine mm_iconst X dX8_pieces_34 (v := 0) (by decide) ?_
          refine mm_istore X dX8_pieces_35 (by decide) (lv2 := [(4, .int (0 : Int32)), (0, .ref (a 0)), (1, .int p1), (2, .int p2), (3, .int p3)]) rfl ?_
          refine mm_iconst X dX8_pieces_37 (v := 0) (by decide) ?_
          refine mm_istore X dX8_pieces_38 (by decide) (lv2 := [(5, .int (0 : Int32)), (4, .int (0 : Int32)), (0, .ref (a 0)), (1, .int p1), (2, .int p2), (3, .int p3)]) rfl ?_
          obtain ⟨q7, hq7, h⟩ := Option.bind_eq_some_iff.mp h
          refine mm_loc [2, 3, 4, 5, 1, 0] rfl ?_
          refine tX8_pieces_40 X hL hJ ?_ F (0 : Int32) (0 : Int32) hq7
          refine mm_iload X dX8_pieces_77 0 rfl ?_
          obtain rfl := Option.some.inj h
          exact mm_iret X dX8_pieces_79 rfl hQ rfl
        · have h := (if_pos c6).symm.trans h
          refine mm_bipush X dX8_pieces_31 (v := -2) (by decide) ?_
          obtain rfl := Option.some.inj h
          exact mm_iret X dX8_pieces_33 rfl hQ rfl
/-! LinenTunnelModel.isSheet -/
def fX8_isSheet (p0 : Int32) : Int32 := (fX8_in p0 (0 : Int32) (3 : Int32))
theorem bX8_isSheet {p0 : Int32} : narrow .boolean (.int (fX8_isSheet p0)) = .int (fX8_isSheet p0) := by
  unfold fX8_isSheet
  first | exact bX8_in | exact rfl | ((repeat' split) <;> first | rfl | exact bX8_in)
abbrev rX8_isSheet : Room := { frames := 1, cells := 0, slots := 0, locals := 22 }
theorem hyX8_isSheet : yX8_isSheet.cls ≠ "java/lang/invoke/MethodHandle" ∧ yX8_isSheet.cls ≠ "java/lang/invoke/VarHandle" ∧ (parseMethodDescriptor yX8_isSheet.desc).map (fun d => d.parameters.length) = some 1 := by decide +kernel
set_option maxRecDepth 100000 in
set_option maxHeartbeats 4000000 in
theorem mX8_isSheet {l : Launch} {D : va_G} {cI cZ : ClassId} {a : Nat → Nat} (hJ : mm_J 29 a) {σ : mm_M} {p0 : Int32} {res : Int32} (h : fX8_isSheet p0 = res) (sz : Nat) : Met l yX8_isSheet wsX8_isSheet rX8_isSheet (eP D cI cZ a σ [.int p0] sz) (eQi D cI cZ a res σ sz) 0 0 (mm_A 29 a sz) := by
  refine mm_met (fun sz => eQi D cI cZ a res σ sz) (lv := [(0, .int p0)]) (ret := (some .boolean)) (cc := cX8_isSheet) (maxL := 1) (own := RX8) hJ (by decide +kernel) rfl rfl (Nat.le_of_ble_eq_true rfl) rfl ?_ sz
  intro K hL X hQ
  unfold fX8_isSheet at h
  refine mm_iload_n X dX8_isSheet_0 0 rfl ?_
  refine mm_iconst X dX8_isSheet_1 (v := 0) (by decide) ?_
  refine mm_iconst X dX8_isSheet_2 (v := 3) (by decide) ?_
  refine mm_callSi X dX8_isSheet_3 (As := [.int p0, .int (0 : Int32), .int (3 : Int32)]) (rest := []) hL (mX8_in hJ (res := fX8_in p0 (0 : Int32) (3 : Int32)) rfl) gX8_isSheet_X8_in rfl ⟨rfl, rfl⟩ hyX8_in ⟨Nat.le_of_ble_eq_true rfl, Nat.le_of_ble_eq_true rfl⟩ rfl (Nat.le_of_ble_eq_true rfl) ?_
  subst h
  exact mm_zret X dX8_isSheet_6 rfl bX8_in hQ rfl
/-! LinenTunnelModel.meets -/
def fX8_meets (σ : mm_M) (p1 : Int32) : Int32 × mm_M := (((-10 : Int32) - p1), (mm_up σ 0 36 p1))
abbrev rX8_meets : Room := { frames := 0, cells := 0, slots := 0, locals := 0 }
theorem hyX8_meets : yX8_meets.cls = RX8 ∧ yX8_meets.cls ≠ "java/lang/invoke/MethodHandle" ∧ yX8_meets.cls ≠ "java/lang/invoke/VarHandle" ∧ (parseMethodDescriptor yX8_meets.desc).map (fun d => d.parameters.length) = some 1 := by decide +kernel
theorem kX8_meets_1 : (Cond.fieldLink RX8 172 "LinenTunnelModel" "finding" "I" : Cond) ∈ wsX8_meets := List.mem_of_getElem? (i := 1) rfl
theorem uX8_meets_8 : ∀ w ∈ u_ws RX8 TX8 37, w ∈ wsX8_meets := fun _ h => (List.mem_cons_of_mem _ (List.mem_append_right _ h))
set_option maxRecDepth 100000 in
set_option maxHeartbeats 4000000 in
theorem mX8_meets {l : Launch} {D : va_G} {cI cZ : ClassId} {a : Nat → Nat} (hJ : mm_J 29 a) {σ : mm_M} {p1 : Int32} {res : Int32 × mm_M} (h : fX8_meets σ p1 = res) (sz : Nat) : Met l yX8_meets wsX8_meets rX8_meets (eP D cI cZ a σ [.ref (a 0), .int p1] sz) (eQi D cI cZ a res.1 res.2 sz) 0 0 (mm_A 29 a sz) := by
  refine mm_met (fun sz => eQi D cI cZ a res.1 res.2 sz) (lv := [(0, .ref (a 0)), (1, .int p1)]) (ret := (some .int)) (cc := cX8_meets) (maxL := 2) (own := RX8) hJ (by decide +kernel) rfl rfl (Nat.le_of_ble_eq_true rfl) rfl ?_ sz
  intro K hL X hQ
  unfold fX8_meets at h
  refine mm_aload_n X dX8_meets_0 0 rfl ?_
  refine mm_iload_n X dX8_meets_1 1 rfl ?_
  refine mm_put X dX8_meets_2 0 36 (by decide) tyX8 tyX8_ok nmX8 md_cf_0 rfl rfl (by decide) uX8_meets_8 kX8_meets_1 rfl rfl rfl (Nat.le_of_ble_eq_true rfl) ?_
  refine mm_bipush X dX8_meets_5 (v := -10) (by decide) ?_
  refine mm_iload_n X dX8_meets_7 1 rfl ?_
  refine mm_isub X dX8_meets_8 ?_
  subst h
  exact mm_iret X dX8_meets_9 rfl hQ rfl
