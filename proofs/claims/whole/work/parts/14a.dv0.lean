/-! LinenTunnel.within -/
def fX7_within (p0 p1 p2 : Int32) : Int32 := (if p0 < p1 then (0 : Int32) else (if p2 < p0 then (0 : Int32) else (1 : Int32)))
theorem bX7_within {p0 p1 p2 : Int32} : narrow .boolean (.int (fX7_within p0 p1 p2)) = .int (fX7_within p0 p1 p2) := by
  unfold fX7_within
  first | exact rfl | ((repeat' split) <;> first | rfl)
abbrev rX7_within : Room := { frames := 0, cells := 0, slots := 0, locals := 0 }
theorem hyX7_within : yX7_within.cls ≠ "java/lang/invoke/MethodHandle" ∧ yX7_within.cls ≠ "java/lang/invoke/VarHandle" ∧ (parseMethodDescriptor yX7_within.desc).map (fun d => d.parameters.length) = some 3 := by decide +kernel
set_option maxRecDepth 100000 in
set_option maxHeartbeats 4000000 in
theorem mX7_within {l : Launch} {D : va_G} {cI : ClassId} {a : Nat → Nat} (hJ : mm_J 59 a) {σ : mm_M} {p0 p1 p2 : Int32} {res : Int32} (h : fX7_within p0 p1 p2 = res) (sz : Nat) : Met l yX7_within wsX7_within rX7_within (dP D cI a σ [.int p0, .int p1, .int p2] sz) (dQi D cI a res σ sz) 0 0 (mm_A 59 a sz) := by
  refine mm_met (fun sz => dQi D cI a res σ sz) (lv := [(0, .int p0), (1, .int p1), (2, .int p2)]) (ret := (some .boolean)) (cc := cX7_within) (maxL := 3) (own := RX7) hJ (by decide +kernel) rfl rfl (Nat.le_of_ble_eq_true rfl) rfl ?_ sz
  intro K hL X hQ
  unfold fX7_within at h
  refine mm_iload_n X dX7_within_0 0 rfl ?_
  refine mm_iload_n X dX7_within_1 1 rfl ?_
  refine mm_icmp_lt X dX7_within_2 (tgt := 14) (by decide) (fun c1 => ?_) (fun c1 => ?_)
  · have h := (if_pos c1).symm.trans h
    refine mm_iconst X dX7_within_14 (v := 0) (by decide) ?_
    subst h
    exact mm_zret X dX7_within_15 rfl rfl hQ rfl
  · have h := (if_neg c1).symm.trans h
    refine mm_iload_n X dX7_within_5 0 rfl ?_
    refine mm_iload_n X dX7_within_6 2 rfl ?_
    refine mm_icmp_gt X dX7_within_7 (tgt := 14) (by decide) (fun c2 => ?_) (fun c2 => ?_)
    · have h := (if_pos c2).symm.trans h
      refine mm_iconst X dX7_within_14 (v := 0) (by decide) ?_
      subst h
      exact mm_zret X dX7_within_15 rfl rfl hQ rfl
    · have h := (if_neg c2).symm.trans h
      refine mm_iconst X dX7_within_10 (v := 1) (by decide) ?_
      refine mm_goto X dX7_within_11 (tgt := 15) (by decide) ?_
      subst h
      exact mm_zret X dX7_within_15 rfl rfl hQ rfl
/-! LinenTunnel$Kinds.add -/
def fX1_add (σ : mm_M) (p1 p2 p3 p4 p5 : Int32) : Int32 × mm_M := ((((σ 1 0) + (1 : Int32)) - (1 : Int32)), (mm_up (dr_wr (dr_wr (dr_wr (dr_wr (dr_wr σ 7 (σ 1 0) p1) 8 (σ 1 0) p2) 9 (σ 1 0) (if p3 = 0 then (0 : Int32) else (1 : Int32))) 10 (σ 1 0) p4) 11 (σ 1 0) p5) 1 0 ((σ 1 0) + (1 : Int32))))
abbrev rX1_add : Room := { frames := 1, cells := 0, slots := 0, locals := 22 }
theorem hyX1_add : yX1_add.cls = RX1 ∧ yX1_add.cls ≠ "java/lang/invoke/MethodHandle" ∧ yX1_add.cls ≠ "java/lang/invoke/VarHandle" ∧ (parseMethodDescriptor yX1_add.desc).map (fun d => d.parameters.length) = some 5 := by decide +kernel
theorem kX1_add_1 : (Cond.fieldLink RX1 20 "LinenTunnel$Kinds" "heat" "LLinenTunnel$Row;" : Cond) ∈ wsX1_add := List.mem_of_getElem? (i := 1) rfl
theorem uX1_add_1 : ∀ w ∈ u_ws RX1 TX1 6, w ∈ wsX1_add := fun _ h => (List.mem_cons_of_mem _ (List.mem_append_left _ (List.mem_append_right _ h)))
theorem kX1_add_2 : (Cond.fieldLink RX1 9 "LinenTunnel$Kinds" "number" "I" : Cond) ∈ wsX1_add := List.mem_of_getElem? (i := 2) rfl
theorem kX1_add_3 : (Cond.fieldLink RX1 24 "LinenTunnel$Kinds" "colour" "LLinenTunnel$Row;" : Cond) ∈ wsX1_add := List.mem_of_getElem? (i := 3) rfl
theorem kX1_add_4 : (Cond.fieldLink RX1 27 "LinenTunnel$Kinds" "foul" "LLinenTunnel$Row;" : Cond) ∈ wsX1_add := List.mem_of_getElem? (i := 4) rfl
theorem kX1_add_5 : (Cond.fieldLink RX1 30 "LinenTunnel$Kinds" "dry" "LLinenTunnel$Row;" : Cond) ∈ wsX1_add := List.mem_of_getElem? (i := 5) rfl
theorem kX1_add_6 : (Cond.fieldLink RX1 33 "LinenTunnel$Kinds" "iron" "LLinenTunnel$Row;" : Cond) ∈ wsX1_add := List.mem_of_getElem? (i := 6) rfl
set_option maxRecDepth 100000 in
set_option maxHeartbeats 4000000 in
theorem mX1_add {l : Launch} {D : va_G} {cI : ClassId} {a : Nat → Nat} (hJ : mm_J 59 a) {σ : mm_M} {p1 p2 p3 p4 p5 : Int32} {res : Int32 × mm_M} (h : fX1_add σ p1 p2 p3 p4 p5 = res) (sz : Nat) : Met l yX1_add wsX1_add rX1_add (dP D cI a σ [.ref (a 1), .int p1, .int p2, .int p3, .int p4, .int p5] sz) (dQi D cI a res.1 res.2 sz) 0 0 (mm_A 59 a sz) := by
  refine mm_met (fun sz => dQi D cI a res.1 res.2 sz) (lv := [(0, .ref (a 1)), (1, .int p1), (2, .int p2), (3, .int p3), (4, .int p4), (5, .int p5)]) (ret := (some .int)) (cc := cX1_add) (maxL := 6) (own := RX1) hJ (by decide +kernel) rfl rfl (Nat.le_of_ble_eq_true rfl) rfl ?_ sz
  intro K hL X hQ
  unfold fX1_add at h
  refine mm_aload_n X dX1_add_0 0 rfl ?_
  refine mm_get X dX1_add_1 1 1 (by decide) dv_cf_1 rfl (by decide) uX1_add_1 kX1_add_1 rfl (v := .ref (a 33)) rfl ?_
  refine mm_aload_n X dX1_add_4 0 rfl ?_
  refine mm_get X dX1_add_5 1 0 (by decide) dv_cf_1 rfl (by decide) uX1_add_1 kX1_add_2 rfl (v := .int (σ 1 0)) rfl ?_
  refine mm_iload_n X dX1_add_8 1 rfl ?_
  refine mm_callVv X dX1_add_9 (As := [.int (σ 1 0), .int p1]) (rest := []) 33 (by decide) (dv_cf_row (j := 7) (by decide)) rfl hL (mX4_write hJ (j := 7) (by decide) (by decide) (res := dr_wr σ 7 (σ 1 0) p1) rfl) gX1_add_X4_write rfl ⟨rfl, rfl⟩ hyX4_write ⟨Nat.le_of_ble_eq_true rfl, Nat.le_of_ble_eq_true rfl⟩ rfl (Nat.le_of_ble_eq_true rfl) ?_
  refine mm_aload_n X dX1_add_12 0 rfl ?_
  refine mm_get X dX1_add_13 1 2 (by decide) dv_cf_1 rfl (by decide) uX1_add_1 kX1_add_3 rfl (v := .ref (a 34)) rfl ?_
  refine mm_aload_n X dX1_add_16 0 rfl ?_
  refine mm_get X dX1_add_17 1 0 (by decide) dv_cf_1 rfl (by decide) uX1_add_1 kX1_add_2 rfl (v := .int (σ 1 0)) rfl ?_
  refine mm_iload_n X dX1_add_20 2 rfl ?_
  refine mm_callVv X dX1_add_21 (As := [.int (σ 1 0), .int p2]) (rest := []) 34 (by decide) (dv_cf_row (j := 8) (by decide)) rfl hL (mX4_write hJ (j := 8) (by decide) (by decide) (res := dr_wr (dr_wr σ 7 (σ 1 0) p1) 8 (σ 1 0) p2) rfl) gX1_add_X4_write rfl ⟨rfl, rfl⟩ hyX4_write ⟨Nat.le_of_ble_eq_true rfl, Nat.le_of_ble_eq_true rfl⟩ rfl (Nat.le_of_ble_eq_true rfl) ?_
  refine mm_aload_n X dX1_add_24 0 rfl ?_
  refine mm_get X dX1_add_25 1 3 (by decide) dv_cf_1 rfl (by decide) uX1_add_1 kX1_add_4 rfl (v := .ref (a 35)) rfl ?_
  refine mm_aload_n X dX1_add_28 0 rfl ?_
  refine mm_get X dX1_add_29 1 0 (by decide) dv_cf_1 rfl (by decide) uX1_add_1 kX1_add_2 rfl (v := .int (σ 1 0)) rfl ?_
  refine mm_iload_n X dX1_add_32 3 rfl ?_
  have J2 : ∀ (v1 : Int32), v1 = (if p3 = 0 then (0 : Int32) else (1 : Int32)) → dG K D cI a (dr_wr (dr_wr σ 7 (σ 1 0) p1) 8 (σ 1 0) p2) 41 [(0, .ref (a 1)), (4, .int p4), (5, .int p5)] [.int v1, .int (σ 1 0), .ref (a 35)] := by
    intro v1 ev1
    subst ev1
    refine mm_callVv X dX1_add_41 (As := [.int (σ 1 0), .int (if p3 = 0 then (0 : Int32) else (1 : Int32))]) (rest := []) 35 (by decide) (dv_cf_row (j := 9) (by decide)) rfl hL (mX4_write hJ (j := 9) (by decide) (by decide) (res := dr_wr (dr_wr (dr_wr σ 7 (σ 1 0) p1) 8 (σ 1 0) p2) 9 (σ 1 0) (if p3 = 0 then (0 : Int32) else (1 : Int32))) rfl) gX1_add_X4_write rfl ⟨rfl, rfl⟩ hyX4_write ⟨Nat.le_of_ble_eq_true rfl, Nat.le_of_ble_eq_true rfl⟩ rfl (Nat.le_of_ble_eq_true rfl) ?_
    refine mm_aload_n X dX1_add_44 0 rfl ?_
    refine mm_get X dX1_add_45 1 4 (by decide) dv_cf_1 rfl (by decide) uX1_add_1 kX1_add_5 rfl (v := .ref (a 36)) rfl ?_
    refine mm_aload_n X dX1_add_48 0 rfl ?_
    refine mm_get X dX1_add_49 1 0 (by decide) dv_cf_1 rfl (by decide) uX1_add_1 kX1_add_2 rfl (v := .int (σ 1 0)) rfl ?_
    refine mm_iload X dX1_add_52 1 rfl ?_
    refine mm_callVv X dX1_add_54 (As := [.int (σ 1 0), .int p4]) (rest := []) 36 (by decide) (dv_cf_row (j := 10) (by decide)) rfl hL (mX4_write hJ (j := 10) (by decide) (by decide) (res := dr_wr (dr_wr (dr_wr (dr_wr σ 7 (σ 1 0) p1) 8 (σ 1 0) p2) 9 (σ 1 0) (if p3 = 0 then (0 : Int32) else (1 : Int32))) 10 (σ 1 0) p4) rfl) gX1_add_X4_write rfl ⟨rfl, rfl⟩ hyX4_write ⟨Nat.le_of_ble_eq_true rfl, Nat.le_of_ble_eq_true rfl⟩ rfl (Nat.le_of_ble_eq_true rfl) ?_
    refine mm_aload_n X dX1_add_57 0 rfl ?_
    refine mm_get X dX1_add_58 1 5 (by decide) dv_cf_1 rfl (by decide) uX1_add_1 kX1_add_6 rfl (v := .ref (a 37)) rfl ?_
    refine mm_aload_n X dX1_add_61 0 rfl ?_
    refine mm_get X dX1_add_62 1 0 (by decide) dv_cf_1 rfl (by decide) uX1_add_1 kX1_add_2 rfl (v := .int (σ 1 0)) rfl ?_
    refine mm_iload X dX1_add_65 2 rfl ?_
    refine mm_callVv X dX1_add_67 (As := [.int (σ 1 0), .int p5]) (rest := []) 37 (by decide) (dv_cf_row (j := 11) (by decide)) rfl hL (mX4_write hJ (j := 11) (by decide) (by decide) (res := dr_wr (dr_wr (dr_wr (dr_wr (dr_wr σ 7 (σ 1 0) p1) 8 (σ 1 0) p2) 9 (σ 1 0) (if p3 = 0 then (0 : Int32) else (1 : Int32))) 10 (σ 1 0) p4) 11 (σ 1 0) p5) rfl) gX1_add_X4_write rfl ⟨rfl, rfl⟩ hyX4_write ⟨Nat.le_of_ble_eq_true rfl, Nat.le_of_ble_eq_true rfl⟩ rfl (Nat.le_of_ble_eq_true rfl) ?_
    refine mm_aload_n X dX1_add_70 0 rfl ?_
    refine mm_dup X dX1_add_71 rfl ?_
    refine mm_get X dX1_add_72 1 0 (by decide) dv_cf_1 rfl (by decide) uX1_add_1 kX1_add_2 rfl (v := .int (σ 1 0)) rfl ?_
    refine mm_iconst X dX1_add_75 (v := 1) (by decide) ?_
    refine mm_iadd X dX1_add_76 ?_
    refine mm_put X dX1_add_77 1 0 (by decide) tyX1 tyX1_ok nmX1 dv_cf_1 rfl rfl (by decide) uX1_add_1 kX1_add_2 rfl rfl rfl (Nat.le_of_ble_eq_true rfl) ?_
    refine mm_aload_n X dX1_add_80 0 rfl ?_
    refine mm_get X dX1_add_81 1 0 (by decide) dv_cf_1 rfl (by decide) uX1_add_1 kX1_add_2 rfl (v := .int ((σ 1 0) + (1 : Int32))) rfl ?_
    refine mm_iconst X dX1_add_84 (v := 1) (by decide) ?_
    refine mm_isub X dX1_add_85 ?_
    subst h
    exact mm_iret X dX1_add_86 rfl hQ rfl
  refine mm_if_eq X dX1_add_33 (tgt := 40) (by decide) (fun c3 => ?_) (fun c3 => ?_)
  · refine mm_iconst X dX1_add_40 (v := 0) (by decide) ?_
    refine mm_loc [0, 4, 5] rfl ?_
    exact J2 _ (by rw [if_pos c3])
  · refine mm_iconst X dX1_add_36 (v := 1) (by decide) ?_
    refine mm_goto X dX1_add_37 (tgt := 41) (by decide) ?_
    refine mm_loc [0, 4, 5] rfl ?_
    exact J2 _ (by rw [if_neg c3])
/-! LinenTunnel.kind -/
def fX7_kind (σ : mm_M) (p1 p2 p3 p4 p5 : Int32) : Int32 × mm_M := (if (fX7_within p1 (0 : Int32) (3 : Int32)) = 0 then ((-2 : Int32), σ) else (if (fX7_within p2 (0 : Int32) (2 : Int32)) = 0 then ((-2 : Int32), σ) else (if (fX7_within p4 (0 : Int32) (9 : Int32)) = 0 then ((-2 : Int32), σ) else (if (fX7_within p5 (0 : Int32) (9 : Int32)) = 0 then ((-2 : Int32), σ) else (if (σ 1 0) < (8 : Int32) then ((fX1_add σ p1 p2 p3 p4 p5).1, (fX1_add σ p1 p2 p3 p4 p5).2) else ((-3 : Int32), σ))))))
abbrev rX7_kind : Room := { frames := 2, cells := 0, slots := 0, locals := 47 }
theorem hyX7_kind : yX7_kind.cls = RX7 ∧ yX7_kind.cls ≠ "java/lang/invoke/MethodHandle" ∧ yX7_kind.cls ≠ "java/lang/invoke/VarHandle" ∧ (parseMethodDescriptor yX7_kind.desc).map (fun d => d.parameters.length) = some 5 := by decide +kernel
theorem kX7_kind_1 : (Cond.fieldLink RX7 12 "LinenTunnel" "kinds" "LLinenTunnel$Kinds;" : Cond) ∈ wsX7_kind := List.mem_of_getElem? (i := 1) rfl
theorem uX7_kind_7 : ∀ w ∈ u_ws RX7 TX7 7, w ∈ wsX7_kind := fun _ h => (List.mem_cons_of_mem _ (List.mem_append_left _ (List.mem_append_left _ (List.mem_append_right _ h))))
theorem uX7_kind_1 : ∀ w ∈ u_ws RX1 TX1 6, w ∈ wsX7_kind := fun _ h => (List.mem_cons_of_mem _ (List.mem_append_left _ (List.mem_append_right _ h)))
set_option maxRecDepth 100000 in
set_option maxHeartbeats 4000000 in
theorem mX7_kind {l : Launch} {D : va_G} {cI : ClassId} {a : Nat → Nat} (hJ : mm_J 59 a) {σ : mm_M} {p1 p2 p3 p4 p5 : Int32} {res : Int32 × mm_M} (h : fX7_kind σ p1 p2 p3 p4 p5 = res) (sz : Nat) : Met l yX7_kind wsX7_kind rX7_kind (dP D cI a σ [.ref (a 0), .int p1, .int p2, .int p3, .int p4, .int p5] sz) (dQi D cI a res.1 res.2 sz) 0 0 (mm_A 59 a sz) := by
  refine mm_met (fun sz => dQi D cI a res.1 res.2 sz) (lv := [(0, .ref (a 0)), (1, .int p1), (2, .int p2), (3, .int p3), (4, .int p4), (5, .int p5)]) (ret := (some .int)) (cc := cX7_kind) (maxL := 6) (own := RX7) hJ (by decide +kernel) rfl rfl (Nat.le_of_ble_eq_true rfl) rfl ?_ sz
  intro K hL X hQ
  unfold fX7_kind at h
  refine mm_iload_n X dX7_kind_0 1 rfl ?_
  refine mm_iconst X dX7_kind_1 (v := 0) (by decide) ?_
  refine mm_iconst X dX7_kind_2 (v := 3) (by decide) ?_
  refine mm_callSi X dX7_kind_3 (As := [.int p1, .int (0 : Int32), .int (3 : Int32)]) (rest := []) hL (mX7_within hJ (res := fX7_within p1 (0 : Int32) (3 : Int32)) rfl) gX7_kind_X7_within rfl ⟨rfl, rfl⟩ hyX7_within ⟨Nat.le_of_ble_eq_true rfl, Nat.le_of_ble_eq_true rfl⟩ rfl (Nat.le_of_ble_eq_true rfl) ?_
  refine mm_if_eq X dX7_kind_6 (tgt := 18) (by decide) (fun c1 => ?_) (fun c1 => ?_)
  · have h := (if_pos c1).symm.trans h
    refine mm_bipush X dX7_kind_18 (v := -2) (by decide) ?_
    subst h
    exact mm_iret X dX7_kind_20 rfl hQ rfl
  · have h := (if_neg c1).symm.trans h
    refine mm_iload_n X dX7_kind_9 2 rfl ?_
    refine mm_iconst X dX7_kind_10 (v := 0) (by decide) ?_
    refine mm_iconst X dX7_kind_11 (v := 2) (by decide) ?_
    refine mm_callSi X dX7_kind_12 (As := [.int p2, .int (0 : Int32), .int (2 : Int32)]) (rest := []) hL (mX7_within hJ (res := fX7_within p2 (0 : Int32) (2 : Int32)) rfl) gX7_kind_X7_within rfl ⟨rfl, rfl⟩ hyX7_within ⟨Nat.le_of_ble_eq_true rfl, Nat.le_of_ble_eq_true rfl⟩ rfl (Nat.le_of_ble_eq_true rfl) ?_
    refine mm_if_ne X dX7_kind_15 (tgt := 21) (by decide) (fun c2 => ?_) (fun c2 => ?_)
    · have h := (if_neg c2).symm.trans h
      refine mm_iload X dX7_kind_21 4 rfl ?_
      refine mm_iconst X dX7_kind_23 (v := 0) (by decide) ?_
      refine mm_bipush X dX7_kind_24 (v := 9) (by decide) ?_
      refine mm_callSi X dX7_kind_26 (As := [.int p4, .int (0 : Int32), .int (9 : Int32)]) (rest := []) hL (mX7_within hJ (res := fX7_within p4 (0 : Int32) (9 : Int32)) rfl) gX7_kind_X7_within rfl ⟨rfl, rfl⟩ hyX7_within ⟨Nat.le_of_ble_eq_true rfl, Nat.le_of_ble_eq_true rfl⟩ rfl (Nat.le_of_ble_eq_true rfl) ?_
      refine mm_if_eq X dX7_kind_29 (tgt := 43) (by decide) (fun c3 => ?_) (fun c3 => ?_)
      · have h := (if_pos c3).symm.trans h
        refine mm_bipush X dX7_kind_43 (v := -2) (by decide) ?_
        subst h
        exact mm_iret X dX7_kind_45 rfl hQ rfl
      · have h := (if_neg c3).symm.trans h
        refine mm_iload X dX7_kind_32 5 rfl ?_
        refine mm_iconst X dX7_kind_34 (v := 0) (by decide) ?_
        refine mm_bipush X dX7_kind_35 (v := 9) (by decide) ?_
        refine mm_callSi X dX7_kind_37 (As := [.int p5, .int (0 : Int32), .int (9 : Int32)]) (rest := []) hL (mX7_within hJ (res := fX7_within p5 (0 : Int32) (9 : Int32)) rfl) gX7_kind_X7_within rfl ⟨rfl, rfl⟩ hyX7_within ⟨Nat.le_of_ble_eq_true rfl, Nat.le_of_ble_eq_true rfl⟩ rfl (Nat.le_of_ble_eq_true rfl) ?_
        refine mm_if_ne X dX7_kind_40 (tgt := 46) (by decide) (fun c4 => ?_) (fun c4 => ?_)
        · have h := (if_neg c4).symm.trans h
          refine mm_aload_n X dX7_kind_46 0 rfl ?_
          refine mm_get X dX7_kind_47 0 0 (by decide) dv_cf_0 rfl (by decide) uX7_kind_7 kX7_kind_1 rfl (v := .ref (a 1)) rfl ?_
          refine mm_getN X dX7_kind_50 1 0 (by decide) dv_cf_1 rfl (by decide) uX7_kind_1 (List.mem_of_getElem? (i := 0) rfl) rfl (v := .int (σ 1 0)) rfl ?_
          refine mm_bipush X dX7_kind_53 (v := 8) (by decide) ?_
          refine mm_icmp_lt X dX7_kind_55 (tgt := 61) (by decide) (fun c5 => ?_) (fun c5 => ?_)
          · have h := (if_pos c5).symm.trans h
            refine mm_aload_n X dX7_kind_61 0 rfl ?_
            refine mm_get X dX7_kind_62 0 0 (by decide) dv_cf_0 rfl (by decide) uX7_kind_7 kX7_kind_1 rfl (v := .ref (a 1)) rfl ?_
            refine mm_iload_n X dX7_kind_65 1 rfl ?_
            refine mm_iload_n X dX7_kind_66 2 rfl ?_
            refine mm_iload_n X dX7_kind_67 3 rfl ?_
            refine mm_iload X dX7_kind_68 4 rfl ?_
            refine mm_iload X dX7_kind_70 5 rfl ?_
            refine mm_callVi X dX7_kind_72 (As := [.int p1, .int p2, .int p3, .int p4, .int p5]) (rest := []) 1 (by decide) dv_cf_1 rfl hL (mX1_add hJ (res := fX1_add σ p1 p2 p3 p4 p5) rfl) gX7_kind_X1_add rfl ⟨rfl, rfl⟩ hyX1_add ⟨Nat.le_of_ble_eq_true rfl, Nat.le_of_ble_eq_true rfl⟩ rfl (Nat.le_of_ble_eq_true rfl) ?_
            subst h
            exact mm_iret X dX7_kind_75 rfl hQ rfl
          · have h := (if_neg c5).symm.trans h
            refine mm_bipush X dX7_kind_58 (v := -3) (by decide) ?_
            subst h
            exact mm_iret X dX7_kind_60 rfl hQ rfl
        · have h := (if_pos c4).symm.trans h
          refine mm_bipush X dX7_kind_43 (v := -2) (by decide) ?_
          subst h
          exact mm_iret X dX7_kind_45 rfl hQ rfl
    · have h := (if_pos c2).symm.trans h
      refine mm_bipush X dX7_kind_18 (v := -2) (by decide) ?_
      subst h
      exact mm_iret X dX7_kind_20 rfl hQ rfl
/-! LinenTunnel.isKind -/
def fX7_isKind (σ : mm_M) (p1 : Int32) : Int32 := (fX7_within p1 (0 : Int32) ((σ 1 0) - (1 : Int32)))
theorem bX7_isKind {σ : mm_M} {p1 : Int32} : narrow .boolean (.int (fX7_isKind σ p1)) = .int (fX7_isKind σ p1) := by
  unfold fX7_isKind
  first | exact bX7_within | exact rfl | ((repeat' split) <;> first | rfl | exact bX7_within)
abbrev rX7_isKind : Room := { frames := 1, cells := 0, slots := 0, locals := 22 }
theorem hyX7_isKind : yX7_isKind.cls = RX7 ∧ yX7_isKind.cls ≠ "java/lang/invoke/MethodHandle" ∧ yX7_isKind.cls ≠ "java/lang/invoke/VarHandle" ∧ (parseMethodDescriptor yX7_isKind.desc).map (fun d => d.parameters.length) = some 1 := by decide +kernel
theorem kX7_isKind_1 : (Cond.fieldLink RX7 12 "LinenTunnel" "kinds" "LLinenTunnel$Kinds;" : Cond) ∈ wsX7_isKind := List.mem_of_getElem? (i := 1) rfl
theorem uX7_isKind_7 : ∀ w ∈ u_ws RX7 TX7 7, w ∈ wsX7_isKind := fun _ h => (List.mem_cons_of_mem _ (List.mem_append_left _ (List.mem_append_right _ h)))
theorem uX7_isKind_1 : ∀ w ∈ u_ws RX1 TX1 6, w ∈ wsX7_isKind := fun _ h => (List.mem_cons_of_mem _ (List.mem_append_right _ h))
set_option maxRecDepth 100000 in
set_option maxHeartbeats 4000000 in
theorem mX7_isKind {l : Launch} {D : va_G} {cI : ClassId} {a : Nat → Nat} (hJ : mm_J 59 a) {σ : mm_M} {p1 : Int32} {res : Int32} (h : fX7_isKind σ p1 = res) (sz : Nat) : Met l yX7_isKind wsX7_isKind rX7_isKind (dP D cI a σ [.ref (a 0), .int p1] sz) (dQi D cI a res σ sz) 0 0 (mm_A 59 a sz) := by
  refine mm_met (fun sz => dQi D cI a res σ sz) (lv := [(0, .ref (a 0)), (1, .int p1)]) (ret := (some .boolean)) (cc := cX7_isKind) (maxL := 2) (own := RX7) hJ (by decide +kernel) rfl rfl (Nat.le_of_ble_eq_true rfl) rfl ?_ sz
  intro K hL X hQ
  unfold fX7_isKind at h
  refine mm_iload_n X dX7_isKind_0 1 rfl ?_
  refine mm_iconst X dX7_isKind_1 (v := 0) (by decide) ?_
  refine mm_aload_n X dX7_isKind_2 0 rfl ?_
  refine mm_get X dX7_isKind_3 0 0 (by decide) dv_cf_0 rfl (by decide) uX7_isKind_7 kX7_isKind_1 rfl (v := .ref (a 1)) rfl ?_
  refine mm_getN X dX7_isKind_6 1 0 (by decide) dv_cf_1 rfl (by decide) uX7_isKind_1 (List.mem_of_getElem? (i := 0) rfl) rfl (v := .int (σ 1 0)) rfl ?_
  refine mm_iconst X dX7_isKind_9 (v := 1) (by decide) ?_
  refine mm_isub X dX7_isKind_10 ?_
  refine mm_callSi X dX7_isKind_11 (As := [.int p1, .int (0 : Int32), .int ((σ 1 0) - (1 : Int32))]) (rest := []) hL (mX7_within hJ (res := fX7_within p1 (0 : Int32) ((σ 1 0) - (1 : Int32))) rfl) gX7_isKind_X7_within rfl ⟨rfl, rfl⟩ hyX7_within ⟨Nat.le_of_ble_eq_true rfl, Nat.le_of_ble_eq_true rfl⟩ rfl (Nat.le_of_ble_eq_true rfl) ?_
  subst h
  exact mm_zret X dX7_isKind_14 rfl bX7_within hQ rfl
/-! LinenTunnel.isOwner -/
def fX7_isOwner (p0 : Int32) : Int32 := (fX7_within p0 (0 : Int32) (5 : Int32))
theorem bX7_isOwner {p0 : Int32} : narrow .boolean (.int (fX7_isOwner p0)) = .int (fX7_isOwner p0) := by
  unfold fX7_isOwner
  first | exact bX7_within | exact rfl | ((repeat' split) <;> first | rfl | exact bX7_within)
abbrev rX7_isOwner : Room := { frames := 1, cells := 0, slots := 0, locals := 22 }
theorem hyX7_isOwner : yX7_isOwner.cls ≠ "java/lang/invoke/MethodHandle" ∧ yX7_isOwner.cls ≠ "java/lang/invoke/VarHandle" ∧ (parseMethodDescriptor yX7_isOwner.desc).map (fun d => d.parameters.length) = some 1 := by decide +kernel
set_option maxRecDepth 100000 in
set_option maxHeartbeats 4000000 in
theorem mX7_isOwner {l : Launch} {D : va_G} {cI : ClassId} {a : Nat → Nat} (hJ : mm_J 59 a) {σ : mm_M} {p0 : Int32} {res : Int32} (h : fX7_isOwner p0 = res) (sz : Nat) : Met l yX7_isOwner wsX7_isOwner rX7_isOwner (dP D cI a σ [.int p0] sz) (dQi D cI a res σ sz) 0 0 (mm_A 59 a sz) := by
  refine mm_met (fun sz => dQi D cI a res σ sz) (lv := [(0, .int p0)]) (ret := (some .boolean)) (cc := cX7_isOwner) (maxL := 1) (own := RX7) hJ (by decide +kernel) rfl rfl (Nat.le_of_ble_eq_true rfl) rfl ?_ sz
  intro K hL X hQ
  unfold fX7_isOwner at h
  refine mm_iload_n X dX7_isOwner_0 0 rfl ?_
  refine mm_iconst X dX7_isOwner_1 (v := 0) (by decide) ?_
  refine mm_iconst X dX7_isOwner_2 (v := 5) (by decide) ?_
  refine mm_callSi X dX7_isOwner_3 (As := [.int p0, .int (0 : Int32), .int (5 : Int32)]) (rest := []) hL (mX7_within hJ (res := fX7_within p0 (0 : Int32) (5 : Int32)) rfl) gX7_isOwner_X7_within rfl ⟨rfl, rfl⟩ hyX7_within ⟨Nat.le_of_ble_eq_true rfl, Nat.le_of_ble_eq_true rfl⟩ rfl (Nat.le_of_ble_eq_true rfl) ?_
  subst h
  exact mm_zret X dX7_isOwner_6 rfl bX7_within hQ rfl
/-! LinenTunnel$Linen.add -/
def fX2_add (σ : mm_M) (p1 p2 p3 : Int32) : Int32 × mm_M := ((((σ 2 0) + (1 : Int32)) - (1 : Int32)), (mm_up (dr_wr (dr_wr (dr_wr (dr_wr (dr_wr (dr_wr σ 12 (σ 2 0) p1) 13 (σ 2 0) p2) 14 (σ 2 0) (if p3 = 0 then (0 : Int32) else (1 : Int32))) 15 (σ 2 0) (0 : Int32)) 16 (σ 2 0) (0 : Int32)) 17 (σ 2 0) (-1 : Int32)) 2 0 ((σ 2 0) + (1 : Int32))))
abbrev rX2_add : Room := { frames := 1, cells := 0, slots := 0, locals := 22 }
theorem hyX2_add : yX2_add.cls = RX2 ∧ yX2_add.cls ≠ "java/lang/invoke/MethodHandle" ∧ yX2_add.cls ≠ "java/lang/invoke/VarHandle" ∧ (parseMethodDescriptor yX2_add.desc).map (fun d => d.parameters.length) = some 3 := by decide +kernel
theorem kX2_add_1 : (Cond.fieldLink RX2 20 "LinenTunnel$Linen" "kind" "LLinenTunnel$Row;" : Cond) ∈ wsX2_add := List.mem_of_getElem? (i := 1) rfl
theorem uX2_add_2 : ∀ w ∈ u_ws RX2 TX2 7, w ∈ wsX2_add := fun _ h => (List.mem_cons_of_mem _ (List.mem_append_left _ (List.mem_append_right _ h)))
theorem kX2_add_2 : (Cond.fieldLink RX2 9 "LinenTunnel$Linen" "number" "I" : Cond) ∈ wsX2_add := List.mem_of_getElem? (i := 2) rfl
theorem kX2_add_3 : (Cond.fieldLink RX2 24 "LinenTunnel$Linen" "owner" "LLinenTunnel$Row;" : Cond) ∈ wsX2_add := List.mem_of_getElem? (i := 3) rfl
theorem kX2_add_4 : (Cond.fieldLink RX2 27 "LinenTunnel$Linen" "chip" "LLinenTunnel$Row;" : Cond) ∈ wsX2_add := List.mem_of_getElem? (i := 4) rfl
theorem kX2_add_5 : (Cond.fieldLink RX2 30 "LinenTunnel$Linen" "place" "LLinenTunnel$Row;" : Cond) ∈ wsX2_add := List.mem_of_getElem? (i := 5) rfl
theorem kX2_add_6 : (Cond.fieldLink RX2 33 "LinenTunnel$Linen" "washes" "LLinenTunnel$Row;" : Cond) ∈ wsX2_add := List.mem_of_getElem? (i := 6) rfl
theorem kX2_add_7 : (Cond.fieldLink RX2 36 "LinenTunnel$Linen" "batch" "LLinenTunnel$Row;" : Cond) ∈ wsX2_add := List.mem_of_getElem? (i := 7) rfl
set_option maxRecDepth 100000 in
set_option maxHeartbeats 4000000 in
theorem mX2_add {l : Launch} {D : va_G} {cI : ClassId} {a : Nat → Nat} (hJ : mm_J 59 a) {σ : mm_M} {p1 p2 p3 : Int32} {res : Int32 × mm_M} (h : fX2_add σ p1 p2 p3 = res) (sz : Nat) : Met l yX2_add wsX2_add rX2_add (dP D cI a σ [.ref (a 2), .int p1, .int p2, .int p3] sz) (dQi D cI a res.1 res.2 sz) 0 0 (mm_A 59 a sz) := by
  refine mm_met (fun sz => dQi D cI a res.1 res.2 sz) (lv := [(0, .ref (a 2)), (1, .int p1), (2, .int p2), (3, .int p3)]) (ret := (some .int)) (cc := cX2_add) (maxL := 4) (own := RX2) hJ (by decide +kernel) rfl rfl (Nat.le_of_ble_eq_true rfl) rfl ?_ sz
  intro K hL X hQ
  unfold fX2_add at h
  refine mm_aload_n X dX2_add_0 0 rfl ?_
  refine mm_get X dX2_add_1 2 1 (by decide) dv_cf_2 rfl (by decide) uX2_add_2 kX2_add_1 rfl (v := .ref (a 38)) rfl ?_
  refine mm_aload_n X dX2_add_4 0 rfl ?_
  refine mm_get X dX2_add_5 2 0 (by decide) dv_cf_2 rfl (by decide) uX2_add_2 kX2_add_2 rfl (v := .int (σ 2 0)) rfl ?_
  refine mm_iload_n X dX2_add_8 1 rfl ?_
  refine mm_callVv X dX2_add_9 (As := [.int (σ 2 0), .int p1]) (rest := []) 38 (by decide) (dv_cf_row (j := 12) (by decide)) rfl hL (mX4_write hJ (j := 12) (by decide) (by decide) (res := dr_wr σ 12 (σ 2 0) p1) rfl) gX2_add_X4_write rfl ⟨rfl, rfl⟩ hyX4_write ⟨Nat.le_of_ble_eq_true rfl, Nat.le_of_ble_eq_true rfl⟩ rfl (Nat.le_of_ble_eq_true rfl) ?_
  refine mm_aload_n X dX2_add_12 0 rfl ?_
  refine mm_get X dX2_add_13 2 2 (by decide) dv_cf_2 rfl (by decide) uX2_add_2 kX2_add_3 rfl (v := .ref (a 39)) rfl ?_
  refine mm_aload_n X dX2_add_16 0 rfl ?_
  refine mm_get X dX2_add_17 2 0 (by decide) dv_cf_2 rfl (by decide) uX2_add_2 kX2_add_2 rfl (v := .int (σ 2 0)) rfl ?_
  refine mm_iload_n X dX2_add_20 2 rfl ?_
  refine mm_callVv X dX2_add_21 (As := [.int (σ 2 0), .int p2]) (rest := []) 39 (by decide) (dv_cf_row (j := 13) (by decide)) rfl hL (mX4_write hJ (j := 13) (by decide) (by decide) (res := dr_wr (dr_wr σ 12 (σ 2 0) p1) 13 (σ 2 0) p2) rfl) gX2_add_X4_write rfl ⟨rfl, rfl⟩ hyX4_write ⟨Nat.le_of_ble_eq_true rfl, Nat.le_of_ble_eq_true rfl⟩ rfl (Nat.le_of_ble_eq_true rfl) ?_
  refine mm_aload_n X dX2_add_24 0 rfl ?_
  refine mm_get X dX2_add_25 2 3 (by decide) dv_cf_2 rfl (by decide) uX2_add_2 kX2_add_4 rfl (v := .ref (a 40)) rfl ?_
  refine mm_aload_n X dX2_add_28 0 rfl ?_
  refine mm_get X dX2_add_29 2 0 (by decide) dv_cf_2 rfl (by decide) uX2_add_2 kX2_add_2 rfl (v := .int (σ 2 0)) rfl ?_
  refine mm_iload_n X dX2_add_32 3 rfl ?_
  have J2 : ∀ (v1 : Int32), v1 = (if p3 = 0 then (0 : Int32) else (1 : Int32)) → dG K D cI a (dr_wr (dr_wr σ 12 (σ 2 0) p1) 13 (σ 2 0) p2) 41 [(0, .ref (a 2))] [.int v1, .int (σ 2 0), .ref (a 40)] := by
    intro v1 ev1
    subst ev1
    refine mm_callVv X dX2_add_41 (As := [.int (σ 2 0), .int (if p3 = 0 then (0 : Int32) else (1 : Int32))]) (rest := []) 40 (by decide) (dv_cf_row (j := 14) (by decide)) rfl hL (mX4_write hJ (j := 14) (by decide) (by decide) (res := dr_wr (dr_wr (dr_wr σ 12 (σ 2 0) p1) 13 (σ 2 0) p2) 14 (σ 2 0) (if p3 = 0 then (0 : Int32) else (1 : Int32))) rfl) gX2_add_X4_write rfl ⟨rfl, rfl⟩ hyX4_write ⟨Nat.le_of_ble_eq_true rfl, Nat.le_of_ble_eq_true rfl⟩ rfl (Nat.le_of_ble_eq_true rfl) ?_
    refine mm_aload_n X dX2_add_44 0 rfl ?_
    refine mm_get X dX2_add_45 2 4 (by decide) dv_cf_2 rfl (by decide) uX2_add_2 kX2_add_5 rfl (v := .ref (a 41)) rfl ?_
    refine mm_aload_n X dX2_add_48 0 rfl ?_
    refine mm_get X dX2_add_49 2 0 (by decide) dv_cf_2 rfl (by decide) uX2_add_2 kX2_add_2 rfl (v := .int (σ 2 0)) rfl ?_
    refine mm_iconst X dX2_add_52 (v := 0) (by decide) ?_
    refine mm_callVv X dX2_add_53 (As := [.int (σ 2 0), .int (0 : Int32)]) (rest := []) 41 (by decide) (dv_cf_row (j := 15) (by decide)) rfl hL (mX4_write hJ (j := 15) (by decide) (by decide) (res := dr_wr (dr_wr (dr_wr (dr_wr σ 12 (σ 2 0) p1) 13 (σ 2 0) p2) 14 (σ 2 0) (if p3 = 0 then (0 : Int32) else (1 : Int32))) 15 (σ 2 0) (0 : Int32)) rfl) gX2_add_X4_write rfl ⟨rfl, rfl⟩ hyX4_write ⟨Nat.le_of_ble_eq_true rfl, Nat.le_of_ble_eq_true rfl⟩ rfl (Nat.le_of_ble_eq_true rfl) ?_
    refine mm_aload_n X dX2_add_56 0 rfl ?_
    refine mm_get X dX2_add_57 2 5 (by decide) dv_cf_2 rfl (by decide) uX2_add_2 kX2_add_6 rfl (v := .ref (a 42)) rfl ?_
    refine mm_aload_n X dX2_add_60 0 rfl ?_
    refine mm_get X dX2_add_61 2 0 (by decide) dv_cf_2 rfl (by decide) uX2_add_2 kX2_add_2 rfl (v := .int (σ 2 0)) rfl ?_
    refine mm_iconst X dX2_add_64 (v := 0) (by decide) ?_
    refine mm_callVv X dX2_add_65 (As := [.int (σ 2 0), .int (0 : Int32)]) (rest := []) 42 (by decide) (dv_cf_row (j := 16) (by decide)) rfl hL (mX4_write hJ (j := 16) (by decide) (by decide) (res := dr_wr (dr_wr (dr_wr (dr_wr (dr_wr σ 12 (σ 2 0) p1) 13 (σ 2 0) p2) 14 (σ 2 0) (if p3 = 0 then (0 : Int32) else (1 : Int32))) 15 (σ 2 0) (0 : Int32)) 16 (σ 2 0) (0 : Int32)) rfl) gX2_add_X4_write rfl ⟨rfl, rfl⟩ hyX4_write ⟨Nat.le_of_ble_eq_true rfl, Nat.le_of_ble_eq_true rfl⟩ rfl (Nat.le_of_ble_eq_true rfl) ?_
    refine mm_aload_n X dX2_add_68 0 rfl ?_
    refine mm_get X dX2_add_69 2 6 (by decide) dv_cf_2 rfl (by decide) uX2_add_2 kX2_add_7 rfl (v := .ref (a 43)) rfl ?_
    refine mm_aload_n X dX2_add_72 0 rfl ?_
    refine mm_get X dX2_add_73 2 0 (by decide) dv_cf_2 rfl (by decide) uX2_add_2 kX2_add_2 rfl (v := .int (σ 2 0)) rfl ?_
    refine mm_iconst X dX2_add_76 (v := -1) (by decide) ?_
    refine mm_callVv X dX2_add_77 (As := [.int (σ 2 0), .int (-1 : Int32)]) (rest := []) 43 (by decide) (dv_cf_row (j := 17) (by decide)) rfl hL (mX4_write hJ (j := 17) (by decide) (by decide) (res := dr_wr (dr_wr (dr_wr (dr_wr (dr_wr (dr_wr σ 12 (σ 2 0) p1) 13 (σ 2 0) p2) 14 (σ 2 0) (if p3 = 0 then (0 : Int32) else (1 : Int32))) 15 (σ 2 0) (0 : Int32)) 16 (σ 2 0) (0 : Int32)) 17 (σ 2 0) (-1 : Int32)) rfl) gX2_add_X4_write rfl ⟨rfl, rfl⟩ hyX4_write ⟨Nat.le_of_ble_eq_true rfl, Nat.le_of_ble_eq_true rfl⟩ rfl (Nat.le_of_ble_eq_true rfl) ?_
    refine mm_aload_n X dX2_add_80 0 rfl ?_
    refine mm_dup X dX2_add_81 rfl ?_
    refine mm_get X dX2_add_82 2 0 (by decide) dv_cf_2 rfl (by decide) uX2_add_2 kX2_add_2 rfl (v := .int (σ 2 0)) rfl ?_
    refine mm_iconst X dX2_add_85 (v := 1) (by decide) ?_
    refine mm_iadd X dX2_add_86 ?_
    refine mm_put X dX2_add_87 2 0 (by decide) tyX2 tyX2_ok nmX2 dv_cf_2 rfl rfl (by decide) uX2_add_2 kX2_add_2 rfl rfl rfl (Nat.le_of_ble_eq_true rfl) ?_
    refine mm_aload_n X dX2_add_90 0 rfl ?_
    refine mm_get X dX2_add_91 2 0 (by decide) dv_cf_2 rfl (by decide) uX2_add_2 kX2_add_2 rfl (v := .int ((σ 2 0) + (1 : Int32))) rfl ?_
    refine mm_iconst X dX2_add_94 (v := 1) (by decide) ?_
    refine mm_isub X dX2_add_95 ?_
    subst h
    exact mm_iret X dX2_add_96 rfl hQ rfl
  refine mm_if_eq X dX2_add_33 (tgt := 40) (by decide) (fun c3 => ?_) (fun c3 => ?_)
  · refine mm_iconst X dX2_add_40 (v := 0) (by decide) ?_
    refine mm_loc [0] rfl ?_
    exact J2 _ (by rw [if_pos c3])
  · refine mm_iconst X dX2_add_36 (v := 1) (by decide) ?_
    refine mm_goto X dX2_add_37 (tgt := 41) (by decide) ?_
    refine mm_loc [0] rfl ?_
    exact J2 _ (by rw [if_neg c3])
/-! LinenTunnel.piece -/
def fX7_piece (σ : mm_M) (p1 p2 p3 : Int32) : Int32 × mm_M := (if (fX7_isKind σ p1) = 0 then ((-2 : Int32), σ) else (if (fX7_isOwner p2) = 0 then ((-2 : Int32), σ) else (if (σ 2 0) < (100 : Int32) then ((fX2_add σ p1 p2 p3).1, (fX2_add σ p1 p2 p3).2) else ((-3 : Int32), σ))))
abbrev rX7_piece : Room := { frames := 2, cells := 0, slots := 0, locals := 45 }
theorem hyX7_piece : yX7_piece.cls = RX7 ∧ yX7_piece.cls ≠ "java/lang/invoke/MethodHandle" ∧ yX7_piece.cls ≠ "java/lang/invoke/VarHandle" ∧ (parseMethodDescriptor yX7_piece.desc).map (fun d => d.parameters.length) = some 3 := by decide +kernel
theorem kX7_piece_1 : (Cond.fieldLink RX7 19 "LinenTunnel" "linen" "LLinenTunnel$Linen;" : Cond) ∈ wsX7_piece := List.mem_of_getElem? (i := 1) rfl
theorem uX7_piece_7 : ∀ w ∈ u_ws RX7 TX7 7, w ∈ wsX7_piece := fun _ h => (List.mem_cons_of_mem _ (List.mem_append_left _ (List.mem_append_left _ (List.mem_append_left _ (List.mem_append_right _ h)))))
theorem uX7_piece_2 : ∀ w ∈ u_ws RX2 TX2 7, w ∈ wsX7_piece := fun _ h => (List.mem_cons_of_mem _ (List.mem_append_left _ (List.mem_append_left _ (List.mem_append_right _ h))))
set_option maxRecDepth 100000 in
set_option maxHeartbeats 4000000 in
theorem mX7_piece {l : Launch} {D : va_G} {cI : ClassId} {a : Nat → Nat} (hJ : mm_J 59 a) {σ : mm_M} {p1 p2 p3 : Int32} {res : Int32 × mm_M} (h : fX7_piece σ p1 p2 p3 = res) (sz : Nat) : Met l yX7_piece wsX7_piece rX7_piece (dP D cI a σ [.ref (a 0), .int p1, .int p2, .int p3] sz) (dQi D cI a res.1 res.2 sz) 0 0 (mm_A 59 a sz) := by
  refine mm_met (fun sz => dQi D cI a res.1 res.2 sz) (lv := [(0, .ref (a 0)), (1, .int p1), (2, .int p2), (3, .int p3)]) (ret := (some .int)) (cc := cX7_piece) (maxL := 4) (own := RX7) hJ (by decide +kernel) rfl rfl (Nat.le_of_ble_eq_true rfl) rfl ?_ sz
  intro K hL X hQ
  unfold fX7_piece at h
  refine mm_aload_n X dX7_piece_0 0 rfl ?_
  refine mm_iload_n X dX7_piece_1 1 rfl ?_
  refine mm_callVi X dX7_piece_2 (As := [.int p1]) (rest := []) 0 (by decide) dv_cf_0 rfl hL (mX7_isKind hJ (res := fX7_isKind σ p1) rfl) gX7_piece_X7_isKind rfl ⟨rfl, rfl⟩ hyX7_isKind ⟨Nat.le_of_ble_eq_true rfl, Nat.le_of_ble_eq_true rfl⟩ rfl (Nat.le_of_ble_eq_true rfl) ?_
  refine mm_if_eq X dX7_piece_5 (tgt := 15) (by decide) (fun c1 => ?_) (fun c1 => ?_)
  · have h := (if_pos c1).symm.trans h
    refine mm_bipush X dX7_piece_15 (v := -2) (by decide) ?_
    subst h
    exact mm_iret X dX7_piece_17 rfl hQ rfl
  · have h := (if_neg c1).symm.trans h
    refine mm_iload_n X dX7_piece_8 2 rfl ?_
    refine mm_callSi X dX7_piece_9 (As := [.int p2]) (rest := []) hL (mX7_isOwner hJ (res := fX7_isOwner p2) rfl) gX7_piece_X7_isOwner rfl ⟨rfl, rfl⟩ hyX7_isOwner ⟨Nat.le_of_ble_eq_true rfl, Nat.le_of_ble_eq_true rfl⟩ rfl (Nat.le_of_ble_eq_true rfl) ?_
    refine mm_if_ne X dX7_piece_12 (tgt := 18) (by decide) (fun c2 => ?_) (fun c2 => ?_)
    · have h := (if_neg c2).symm.trans h
      refine mm_aload_n X dX7_piece_18 0 rfl ?_
      refine mm_get X dX7_piece_19 0 1 (by decide) dv_cf_0 rfl (by decide) uX7_piece_7 kX7_piece_1 rfl (v := .ref (a 2)) rfl ?_
      refine mm_getN X dX7_piece_22 2 0 (by decide) dv_cf_2 rfl (by decide) uX7_piece_2 (List.mem_of_getElem? (i := 4) rfl) rfl (v := .int (σ 2 0)) rfl ?_
      refine mm_bipush X dX7_piece_25 (v := 100) (by decide) ?_
      refine mm_icmp_lt X dX7_piece_27 (tgt := 33) (by decide) (fun c3 => ?_) (fun c3 => ?_)
      · have h := (if_pos c3).symm.trans h
        refine mm_aload_n X dX7_piece_33 0 rfl ?_
        refine mm_get X dX7_piece_34 0 1 (by decide) dv_cf_0 rfl (by decide) uX7_piece_7 kX7_piece_1 rfl (v := .ref (a 2)) rfl ?_
        refine mm_iload_n X dX7_piece_37 1 rfl ?_
        refine mm_iload_n X dX7_piece_38 2 rfl ?_
        refine mm_iload_n X dX7_piece_39 3 rfl ?_
        refine mm_callVi X dX7_piece_40 (As := [.int p1, .int p2, .int p3]) (rest := []) 2 (by decide) dv_cf_2 rfl hL (mX2_add hJ (res := fX2_add σ p1 p2 p3) rfl) gX7_piece_X2_add rfl ⟨rfl, rfl⟩ hyX2_add ⟨Nat.le_of_ble_eq_true rfl, Nat.le_of_ble_eq_true rfl⟩ rfl (Nat.le_of_ble_eq_true rfl) ?_
        subst h
        exact mm_iret X dX7_piece_43 rfl hQ rfl
      · have h := (if_neg c3).symm.trans h
        refine mm_bipush X dX7_piece_30 (v := -3) (by decide) ?_
        subst h
        exact mm_iret X dX7_piece_32 rfl hQ rfl
    · have h := (if_pos c2).symm.trans h
      refine mm_bipush X dX7_piece_15 (v := -2) (by decide) ?_
      subst h
      exact mm_iret X dX7_piece_17 rfl hQ rfl
/-! LinenTunnel.isPiece -/
def fX7_isPiece (σ : mm_M) (p1 : Int32) : Int32 := (fX7_within p1 (0 : Int32) ((σ 2 0) - (1 : Int32)))
theorem bX7_isPiece {σ : mm_M} {p1 : Int32} : narrow .boolean (.int (fX7_isPiece σ p1)) = .int (fX7_isPiece σ p1) := by
  unfold fX7_isPiece
  first | exact bX7_within | exact rfl | ((repeat' split) <;> first | rfl | exact bX7_within)
abbrev rX7_isPiece : Room := { frames := 1, cells := 0, slots := 0, locals := 22 }
theorem hyX7_isPiece : yX7_isPiece.cls = RX7 ∧ yX7_isPiece.cls ≠ "java/lang/invoke/MethodHandle" ∧ yX7_isPiece.cls ≠ "java/lang/invoke/VarHandle" ∧ (parseMethodDescriptor yX7_isPiece.desc).map (fun d => d.parameters.length) = some 1 := by decide +kernel
theorem kX7_isPiece_1 : (Cond.fieldLink RX7 19 "LinenTunnel" "linen" "LLinenTunnel$Linen;" : Cond) ∈ wsX7_isPiece := List.mem_of_getElem? (i := 1) rfl
theorem uX7_isPiece_7 : ∀ w ∈ u_ws RX7 TX7 7, w ∈ wsX7_isPiece := fun _ h => (List.mem_cons_of_mem _ (List.mem_append_left _ (List.mem_append_right _ h)))
theorem uX7_isPiece_2 : ∀ w ∈ u_ws RX2 TX2 7, w ∈ wsX7_isPiece := fun _ h => (List.mem_cons_of_mem _ (List.mem_append_right _ h))
set_option maxRecDepth 100000 in
set_option maxHeartbeats 4000000 in
theorem mX7_isPiece {l : Launch} {D : va_G} {cI : ClassId} {a : Nat → Nat} (hJ : mm_J 59 a) {σ : mm_M} {p1 : Int32} {res : Int32} (h : fX7_isPiece σ p1 = res) (sz : Nat) : Met l yX7_isPiece wsX7_isPiece rX7_isPiece (dP D cI a σ [.ref (a 0), .int p1] sz) (dQi D cI a res σ sz) 0 0 (mm_A 59 a sz) := by
  refine mm_met (fun sz => dQi D cI a res σ sz) (lv := [(0, .ref (a 0)), (1, .int p1)]) (ret := (some .boolean)) (cc := cX7_isPiece) (maxL := 2) (own := RX7) hJ (by decide +kernel) rfl rfl (Nat.le_of_ble_eq_true rfl) rfl ?_ sz
  intro K hL X hQ
  unfold fX7_isPiece at h
  refine mm_iload_n X dX7_isPiece_0 1 rfl ?_
  refine mm_iconst X dX7_isPiece_1 (v := 0) (by decide) ?_
  refine mm_aload_n X dX7_isPiece_2 0 rfl ?_
  refine mm_get X dX7_isPiece_3 0 1 (by decide) dv_cf_0 rfl (by decide) uX7_isPiece_7 kX7_isPiece_1 rfl (v := .ref (a 2)) rfl ?_
  refine mm_getN X dX7_isPiece_6 2 0 (by decide) dv_cf_2 rfl (by decide) uX7_isPiece_2 (List.mem_of_getElem? (i := 4) rfl) rfl (v := .int (σ 2 0)) rfl ?_
  refine mm_iconst X dX7_isPiece_9 (v := 1) (by decide) ?_
  refine mm_isub X dX7_isPiece_10 ?_
  refine mm_callSi X dX7_isPiece_11 (As := [.int p1, .int (0 : Int32), .int ((σ 2 0) - (1 : Int32))]) (rest := []) hL (mX7_within hJ (res := fX7_within p1 (0 : Int32) ((σ 2 0) - (1 : Int32))) rfl) gX7_isPiece_X7_within rfl ⟨rfl, rfl⟩ hyX7_within ⟨Nat.le_of_ble_eq_true rfl, Nat.le_of_ble_eq_true rfl⟩ rfl (Nat.le_of_ble_eq_true rfl) ?_
  subst h
  exact mm_zret X dX7_isPiece_14 rfl bX7_within hQ rfl
/-! LinenTunnel.about -/
def fX7_about (σ : mm_M) (p1 p2 : Int32) : Int32 := (if (fX7_isPiece σ p1) = 0 then (-2 : Int32) else (if p2 = 0 then (dr_rd σ 12 p1) else (if p2 = 1 then (dr_rd σ 13 p1) else (if p2 = 2 then (dr_rd σ 14 p1) else (if p2 = 3 then (dr_rd σ 15 p1) else (if p2 = 4 then (dr_rd σ 16 p1) else (if p2 = 5 then (dr_rd σ 17 p1) else (-2 : Int32))))))))
abbrev rX7_about : Room := { frames := 2, cells := 0, slots := 0, locals := 43 }
theorem hyX7_about : yX7_about.cls = RX7 ∧ yX7_about.cls ≠ "java/lang/invoke/MethodHandle" ∧ yX7_about.cls ≠ "java/lang/invoke/VarHandle" ∧ (parseMethodDescriptor yX7_about.desc).map (fun d => d.parameters.length) = some 2 := by decide +kernel
theorem kX7_about_1 : (Cond.fieldLink RX7 19 "LinenTunnel" "linen" "LLinenTunnel$Linen;" : Cond) ∈ wsX7_about := List.mem_of_getElem? (i := 1) rfl
theorem uX7_about_7 : ∀ w ∈ u_ws RX7 TX7 7, w ∈ wsX7_about := fun _ h => (List.mem_cons_of_mem _ (List.mem_append_left _ (List.mem_append_left _ (List.mem_append_right _ h))))
theorem uX7_about_2 : ∀ w ∈ u_ws RX2 TX2 7, w ∈ wsX7_about := fun _ h => (List.mem_cons_of_mem _ (List.mem_append_left _ (List.mem_append_right _ h)))
set_option maxRecDepth 100000 in
set_option maxHeartbeats 4000000 in
theorem mX7_about {l : Launch} {D : va_G} {cI : ClassId} {a : Nat → Nat} (hJ : mm_J 59 a) {σ : mm_M} {p1 p2 : Int32} {res : Int32} (h : fX7_about σ p1 p2 = res) (sz : Nat) : Met l yX7_about wsX7_about rX7_about (dP D cI a σ [.ref (a 0), .int p1, .int p2] sz) (dQi D cI a res σ sz) 0 0 (mm_A 59 a sz) := by
  refine mm_met (fun sz => dQi D cI a res σ sz) (lv := [(0, .ref (a 0)), (1, .int p1), (2, .int p2)]) (ret := (some .int)) (cc := cX7_about) (maxL := 3) (own := RX7) hJ (by decide +kernel) rfl rfl (Nat.le_of_ble_eq_true rfl) rfl ?_ sz
  intro K hL X hQ
  unfold fX7_about at h
  refine mm_aload_n X dX7_about_0 0 rfl ?_
  refine mm_iload_n X dX7_about_1 1 rfl ?_
  refine mm_callVi X dX7_about_2 (As := [.int p1]) (rest := []) 0 (by decide) dv_cf_0 rfl hL (mX7_isPiece hJ (res := fX7_isPiece σ p1) rfl) gX7_about_X7_isPiece rfl ⟨rfl, rfl⟩ hyX7_isPiece ⟨Nat.le_of_ble_eq_true rfl, Nat.le_of_ble_eq_true rfl⟩ rfl (Nat.le_of_ble_eq_true rfl) ?_
  refine mm_if_ne X dX7_about_5 (tgt := 11) (by decide) (fun c1 => ?_) (fun c1 => ?_)
  · have h := (if_neg c1).symm.trans h
    refine mm_iload_n X dX7_about_11 2 rfl ?_
    by_cases c2 : p2 = 0
    · have h := (if_pos c2).symm.trans h
      refine mm_swIn X dX7_about_12 0 (by rw [c2]; decide) (by decide) (tgt := 52) (by rfl) (by decide) ?_
      refine mm_aload_n X dX7_about_52 0 rfl ?_
      refine mm_get X dX7_about_53 0 1 (by decide) dv_cf_0 rfl (by decide) uX7_about_7 kX7_about_1 rfl (v := .ref (a 2)) rfl ?_
      refine mm_getN X dX7_about_56 2 1 (by decide) dv_cf_2 rfl (by decide) uX7_about_2 (List.mem_of_getElem? (i := 5) rfl) rfl (v := .ref (a 38)) rfl ?_
      refine mm_iload_n X dX7_about_59 1 rfl ?_
      refine mm_callVi X dX7_about_60 (As := [.int p1]) (rest := []) 38 (by decide) (dv_cf_row (j := 12) (by decide)) rfl hL (mX4_read hJ (j := 12) (by decide) (by decide) (res := (dr_rd σ 12 p1)) rfl) gX7_about_X4_read rfl ⟨rfl, rfl⟩ hyX4_read ⟨Nat.le_of_ble_eq_true rfl, Nat.le_of_ble_eq_true rfl⟩ rfl (Nat.le_of_ble_eq_true rfl) ?_
      subst h
      exact mm_iret X dX7_about_63 rfl hQ rfl
    have h := (if_neg c2).symm.trans h
    by_cases c3 : p2 = 1
    · have h := (if_pos c3).symm.trans h
      refine mm_swIn X dX7_about_12 1 (by rw [c3]; decide) (by decide) (tgt := 64) (by rfl) (by decide) ?_
      refine mm_aload_n X dX7_about_64 0 rfl ?_
      refine mm_get X dX7_about_65 0 1 (by decide) dv_cf_0 rfl (by decide) uX7_about_7 kX7_about_1 rfl (v := .ref (a 2)) rfl ?_
      refine mm_getN X dX7_about_68 2 2 (by decide) dv_cf_2 rfl (by decide) uX7_about_2 (List.mem_of_getElem? (i := 6) rfl) rfl (v := .ref (a 39)) rfl ?_
      refine mm_iload_n X dX7_about_71 1 rfl ?_
      refine mm_callVi X dX7_about_72 (As := [.int p1]) (rest := []) 39 (by decide) (dv_cf_row (j := 13) (by decide)) rfl hL (mX4_read hJ (j := 13) (by decide) (by decide) (res := (dr_rd σ 13 p1)) rfl) gX7_about_X4_read rfl ⟨rfl, rfl⟩ hyX4_read ⟨Nat.le_of_ble_eq_true rfl, Nat.le_of_ble_eq_true rfl⟩ rfl (Nat.le_of_ble_eq_true rfl) ?_
      subst h
      exact mm_iret X dX7_about_75 rfl hQ rfl
    have h := (if_neg c3).symm.trans h
    by_cases c4 : p2 = 2
    · have h := (if_pos c4).symm.trans h
      refine mm_swIn X dX7_about_12 2 (by rw [c4]; decide) (by decide) (tgt := 76) (by rfl) (by decide) ?_
      refine mm_aload_n X dX7_about_76 0 rfl ?_
      refine mm_get X dX7_about_77 0 1 (by decide) dv_cf_0 rfl (by decide) uX7_about_7 kX7_about_1 rfl (v := .ref (a 2)) rfl ?_
      refine mm_getN X dX7_about_80 2 3 (by decide) dv_cf_2 rfl (by decide) uX7_about_2 (List.mem_of_getElem? (i := 7) rfl) rfl (v := .ref (a 40)) rfl ?_
      refine mm_iload_n X dX7_about_83 1 rfl ?_
      refine mm_callVi X dX7_about_84 (As := [.int p1]) (rest := []) 40 (by decide) (dv_cf_row (j := 14) (by decide)) rfl hL (mX4_read hJ (j := 14) (by decide) (by decide) (res := (dr_rd σ 14 p1)) rfl) gX7_about_X4_read rfl ⟨rfl, rfl⟩ hyX4_read ⟨Nat.le_of_ble_eq_true rfl, Nat.le_of_ble_eq_true rfl⟩ rfl (Nat.le_of_ble_eq_true rfl) ?_
      subst h
      exact mm_iret X dX7_about_87 rfl hQ rfl
    have h := (if_neg c4).symm.trans h
    by_cases c5 : p2 = 3
    · have h := (if_pos c5).symm.trans h
      refine mm_swIn X dX7_about_12 3 (by rw [c5]; decide) (by decide) (tgt := 88) (by rfl) (by decide) ?_
      refine mm_aload_n X dX7_about_88 0 rfl ?_
      refine mm_get X dX7_about_89 0 1 (by decide) dv_cf_0 rfl (by decide) uX7_about_7 kX7_about_1 rfl (v := .ref (a 2)) rfl ?_
      refine mm_getN X dX7_about_92 2 4 (by decide) dv_cf_2 rfl (by decide) uX7_about_2 (List.mem_of_getElem? (i := 8) rfl) rfl (v := .ref (a 41)) rfl ?_
      refine mm_iload_n X dX7_about_95 1 rfl ?_
      refine mm_callVi X dX7_about_96 (As := [.int p1]) (rest := []) 41 (by decide) (dv_cf_row (j := 15) (by decide)) rfl hL (mX4_read hJ (j := 15) (by decide) (by decide) (res := (dr_rd σ 15 p1)) rfl) gX7_about_X4_read rfl ⟨rfl, rfl⟩ hyX4_read ⟨Nat.le_of_ble_eq_true rfl, Nat.le_of_ble_eq_true rfl⟩ rfl (Nat.le_of_ble_eq_true rfl) ?_
      subst h
      exact mm_iret X dX7_about_99 rfl hQ rfl
    have h := (if_neg c5).symm.trans h
    by_cases c6 : p2 = 4
    · have h := (if_pos c6).symm.trans h
      refine mm_swIn X dX7_about_12 4 (by rw [c6]; decide) (by decide) (tgt := 100) (by rfl) (by decide) ?_
      refine mm_aload_n X dX7_about_100 0 rfl ?_
      refine mm_get X dX7_about_101 0 1 (by decide) dv_cf_0 rfl (by decide) uX7_about_7 kX7_about_1 rfl (v := .ref (a 2)) rfl ?_
      refine mm_getN X dX7_about_104 2 5 (by decide) dv_cf_2 rfl (by decide) uX7_about_2 (List.mem_of_getElem? (i := 9) rfl) rfl (v := .ref (a 42)) rfl ?_
      refine mm_iload_n X dX7_about_107 1 rfl ?_
      refine mm_callVi X dX7_about_108 (As := [.int p1]) (rest := []) 42 (by decide) (dv_cf_row (j := 16) (by decide)) rfl hL (mX4_read hJ (j := 16) (by decide) (by decide) (res := (dr_rd σ 16 p1)) rfl) gX7_about_X4_read rfl ⟨rfl, rfl⟩ hyX4_read ⟨Nat.le_of_ble_eq_true rfl, Nat.le_of_ble_eq_true rfl⟩ rfl (Nat.le_of_ble_eq_true rfl) ?_
      subst h
      exact mm_iret X dX7_about_111 rfl hQ rfl
    have h := (if_neg c6).symm.trans h
    by_cases c7 : p2 = 5
    · have h := (if_pos c7).symm.trans h
      refine mm_swIn X dX7_about_12 5 (by rw [c7]; decide) (by decide) (tgt := 112) (by rfl) (by decide) ?_
      refine mm_aload_n X dX7_about_112 0 rfl ?_
      refine mm_get X dX7_about_113 0 1 (by decide) dv_cf_0 rfl (by decide) uX7_about_7 kX7_about_1 rfl (v := .ref (a 2)) rfl ?_
      refine mm_getN X dX7_about_116 2 6 (by decide) dv_cf_2 rfl (by decide) uX7_about_2 (List.mem_of_getElem? (i := 10) rfl) rfl (v := .ref (a 43)) rfl ?_
      refine mm_iload_n X dX7_about_119 1 rfl ?_
      refine mm_callVi X dX7_about_120 (As := [.int p1]) (rest := []) 43 (by decide) (dv_cf_row (j := 17) (by decide)) rfl hL (mX4_read hJ (j := 17) (by decide) (by decide) (res := (dr_rd σ 17 p1)) rfl) gX7_about_X4_read rfl ⟨rfl, rfl⟩ hyX4_read ⟨Nat.le_of_ble_eq_true rfl, Nat.le_of_ble_eq_true rfl⟩ rfl (Nat.le_of_ble_eq_true rfl) ?_
      subst h
      exact mm_iret X dX7_about_123 rfl hQ rfl
    have h := (if_neg c7).symm.trans h
    have zc2 : ¬ (p2).toInt = (0 : Int) := lv_neT c2 (by decide)
    have zc3 : ¬ (p2).toInt = (1 : Int) := lv_neT c3 (by decide)
    have zc4 : ¬ (p2).toInt = (2 : Int) := lv_neT c4 (by decide)
    have zc5 : ¬ (p2).toInt = (3 : Int) := lv_neT c5 (by decide)
    have zc6 : ¬ (p2).toInt = (4 : Int) := lv_neT c6 (by decide)
    have zc7 : ¬ (p2).toInt = (5 : Int) := lv_neT c7 (by decide)
    refine mm_swOut X dX7_about_12 (by omega) (tgt := 124) (by decide) ?_
    refine mm_bipush X dX7_about_124 (v := -2) (by decide) ?_
    subst h
    exact mm_iret X dX7_about_126 rfl hQ rfl
  · have h := (if_pos c1).symm.trans h
    refine mm_bipush X dX7_about_8 (v := -2) (by decide) ?_
    subst h
    exact mm_iret X dX7_about_10 rfl hQ rfl
/-! LinenTunnel.chip -/
def fX7_chip (σ : mm_M) (p1 p2 : Int32) : Int32 × mm_M := (if (fX7_isPiece σ p1) = 0 then ((-2 : Int32), σ) else ((1 : Int32), (dr_wr σ 14 p1 (if p2 = 0 then (0 : Int32) else (1 : Int32)))))
abbrev rX7_chip : Room := { frames := 2, cells := 0, slots := 0, locals := 43 }
theorem hyX7_chip : yX7_chip.cls = RX7 ∧ yX7_chip.cls ≠ "java/lang/invoke/MethodHandle" ∧ yX7_chip.cls ≠ "java/lang/invoke/VarHandle" ∧ (parseMethodDescriptor yX7_chip.desc).map (fun d => d.parameters.length) = some 2 := by decide +kernel
theorem kX7_chip_1 : (Cond.fieldLink RX7 19 "LinenTunnel" "linen" "LLinenTunnel$Linen;" : Cond) ∈ wsX7_chip := List.mem_of_getElem? (i := 1) rfl
theorem uX7_chip_7 : ∀ w ∈ u_ws RX7 TX7 7, w ∈ wsX7_chip := fun _ h => (List.mem_cons_of_mem _ (List.mem_append_left _ (List.mem_append_left _ (List.mem_append_right _ h))))
theorem uX7_chip_2 : ∀ w ∈ u_ws RX2 TX2 7, w ∈ wsX7_chip := fun _ h => (List.mem_cons_of_mem _ (List.mem_append_left _ (List.mem_append_right _ h)))
set_option maxRecDepth 100000 in
set_option maxHeartbeats 4000000 in
theorem mX7_chip {l : Launch} {D : va_G} {cI : ClassId} {a : Nat → Nat} (hJ : mm_J 59 a) {σ : mm_M} {p1 p2 : Int32} {res : Int32 × mm_M} (h : fX7_chip σ p1 p2 = res) (sz : Nat) : Met l yX7_chip wsX7_chip rX7_chip (dP D cI a σ [.ref (a 0), .int p1, .int p2] sz) (dQi D cI a res.1 res.2 sz) 0 0 (mm_A 59 a sz) := by
  refine mm_met (fun sz => dQi D cI a res.1 res.2 sz) (lv := [(0, .ref (a 0)), (1, .int p1), (2, .int p2)]) (ret := (some .int)) (cc := cX7_chip) (maxL := 3) (own := RX7) hJ (by decide +kernel) rfl rfl (Nat.le_of_ble_eq_true rfl) rfl ?_ sz
  intro K hL X hQ
  unfold fX7_chip at h
  refine mm_aload_n X dX7_chip_0 0 rfl ?_
  refine mm_iload_n X dX7_chip_1 1 rfl ?_
  refine mm_callVi X dX7_chip_2 (As := [.int p1]) (rest := []) 0 (by decide) dv_cf_0 rfl hL (mX7_isPiece hJ (res := fX7_isPiece σ p1) rfl) gX7_chip_X7_isPiece rfl ⟨rfl, rfl⟩ hyX7_isPiece ⟨Nat.le_of_ble_eq_true rfl, Nat.le_of_ble_eq_true rfl⟩ rfl (Nat.le_of_ble_eq_true rfl) ?_
  refine mm_if_ne X dX7_chip_5 (tgt := 11) (by decide) (fun c1 => ?_) (fun c1 => ?_)
  · have h := (if_neg c1).symm.trans h
    refine mm_aload_n X dX7_chip_11 0 rfl ?_
    refine mm_get X dX7_chip_12 0 1 (by decide) dv_cf_0 rfl (by decide) uX7_chip_7 kX7_chip_1 rfl (v := .ref (a 2)) rfl ?_
    refine mm_getN X dX7_chip_15 2 3 (by decide) dv_cf_2 rfl (by decide) uX7_chip_2 (List.mem_of_getElem? (i := 7) rfl) rfl (v := .ref (a 40)) rfl ?_
    refine mm_iload_n X dX7_chip_18 1 rfl ?_
    refine mm_iload_n X dX7_chip_19 2 rfl ?_
    have J3 : ∀ (v2 : Int32), v2 = (if p2 = 0 then (0 : Int32) else (1 : Int32)) → dG K D cI a σ 28 [] [.int v2, .int p1, .ref (a 40)] := by
      intro v2 ev2
      subst ev2
      refine mm_callVv X dX7_chip_28 (As := [.int p1, .int (if p2 = 0 then (0 : Int32) else (1 : Int32))]) (rest := []) 40 (by decide) (dv_cf_row (j := 14) (by decide)) rfl hL (mX4_write hJ (j := 14) (by decide) (by decide) (res := dr_wr σ 14 p1 (if p2 = 0 then (0 : Int32) else (1 : Int32))) rfl) gX7_chip_X4_write rfl ⟨rfl, rfl⟩ hyX4_write ⟨Nat.le_of_ble_eq_true rfl, Nat.le_of_ble_eq_true rfl⟩ rfl (Nat.le_of_ble_eq_true rfl) ?_
      refine mm_iconst X dX7_chip_31 (v := 1) (by decide) ?_
      subst h
      exact mm_iret X dX7_chip_32 rfl hQ rfl
    refine mm_if_eq X dX7_chip_20 (tgt := 27) (by decide) (fun c4 => ?_) (fun c4 => ?_)
    · refine mm_iconst X dX7_chip_27 (v := 0) (by decide) ?_
      refine mm_loc [] rfl ?_
      exact J3 _ (by rw [if_pos c4])
    · refine mm_iconst X dX7_chip_23 (v := 1) (by decide) ?_
      refine mm_goto X dX7_chip_24 (tgt := 28) (by decide) ?_
      refine mm_loc [] rfl ?_
      exact J3 _ (by rw [if_neg c4])
  · have h := (if_pos c1).symm.trans h
    refine mm_bipush X dX7_chip_8 (v := -2) (by decide) ?_
    subst h
    exact mm_iret X dX7_chip_10 rfl hQ rfl
/-! LinenTunnel.lost -/
def fX7_lost (σ : mm_M) (p1 : Int32) : Int32 × mm_M := (if (fX7_isPiece σ p1) = 0 then ((-2 : Int32), σ) else (if (dr_rd σ 15 p1) = (2 : Int32) then ((-4 : Int32), σ) else ((if (dr_rd σ 15 p1) = (4 : Int32) then (0 : Int32) else (4 : Int32)), (dr_wr σ 15 p1 (if (dr_rd σ 15 p1) = (4 : Int32) then (0 : Int32) else (4 : Int32))))))
abbrev rX7_lost : Room := { frames := 2, cells := 0, slots := 0, locals := 43 }
theorem hyX7_lost : yX7_lost.cls = RX7 ∧ yX7_lost.cls ≠ "java/lang/invoke/MethodHandle" ∧ yX7_lost.cls ≠ "java/lang/invoke/VarHandle" ∧ (parseMethodDescriptor yX7_lost.desc).map (fun d => d.parameters.length) = some 1 := by decide +kernel
theorem kX7_lost_1 : (Cond.fieldLink RX7 19 "LinenTunnel" "linen" "LLinenTunnel$Linen;" : Cond) ∈ wsX7_lost := List.mem_of_getElem? (i := 1) rfl
theorem uX7_lost_7 : ∀ w ∈ u_ws RX7 TX7 7, w ∈ wsX7_lost := fun _ h => (List.mem_cons_of_mem _ (List.mem_append_left _ (List.mem_append_left _ (List.mem_append_right _ h))))
theorem uX7_lost_2 : ∀ w ∈ u_ws RX2 TX2 7, w ∈ wsX7_lost := fun _ h => (List.mem_cons_of_mem _ (List.mem_append_left _ (List.mem_append_right _ h)))
set_option maxRecDepth 100000 in
set_option maxHeartbeats 4000000 in
theorem mX7_lost {l : Launch} {D : va_G} {cI : ClassId} {a : Nat → Nat} (hJ : mm_J 59 a) {σ : mm_M} {p1 : Int32} {res : Int32 × mm_M} (h : fX7_lost σ p1 = res) (sz : Nat) : Met l yX7_lost wsX7_lost rX7_lost (dP D cI a σ [.ref (a 0), .int p1] sz) (dQi D cI a res.1 res.2 sz) 0 0 (mm_A 59 a sz) := by
  refine mm_met (fun sz => dQi D cI a res.1 res.2 sz) (lv := [(0, .ref (a 0)), (1, .int p1)]) (ret := (some .int)) (cc := cX7_lost) (maxL := 4) (own := RX7) hJ (by decide +kernel) rfl rfl (Nat.le_of_ble_eq_true rfl) rfl ?_ sz
  intro K hL X hQ
  unfold fX7_lost at h
  refine mm_aload_n X dX7_lost_0 0 rfl ?_
  refine mm_iload_n X dX7_lost_1 1 rfl ?_
  refine mm_callVi X dX7_lost_2 (As := [.int p1]) (rest := []) 0 (by decide) dv_cf_0 rfl hL (mX7_isPiece hJ (res := fX7_isPiece σ p1) rfl) gX7_lost_X7_isPiece rfl ⟨rfl, rfl⟩ hyX7_isPiece ⟨Nat.le_of_ble_eq_true rfl, Nat.le_of_ble_eq_true rfl⟩ rfl (Nat.le_of_ble_eq_true rfl) ?_
  refine mm_if_ne X dX7_lost_5 (tgt := 11) (by decide) (fun c1 => ?_) (fun c1 => ?_)
  · have h := (if_neg c1).symm.trans h
    refine mm_aload_n X dX7_lost_11 0 rfl ?_
    refine mm_get X dX7_lost_12 0 1 (by decide) dv_cf_0 rfl (by decide) uX7_lost_7 kX7_lost_1 rfl (v := .ref (a 2)) rfl ?_
    refine mm_getN X dX7_lost_15 2 4 (by decide) dv_cf_2 rfl (by decide) uX7_lost_2 (List.mem_of_getElem? (i := 8) rfl) rfl (v := .ref (a 41)) rfl ?_
    refine mm_iload_n X dX7_lost_18 1 rfl ?_
    refine mm_callVi X dX7_lost_19 (As := [.int p1]) (rest := []) 41 (by decide) (dv_cf_row (j := 15) (by decide)) rfl hL (mX4_read hJ (j := 15) (by decide) (by decide) (res := (dr_rd σ 15 p1)) rfl) gX7_lost_X4_read rfl ⟨rfl, rfl⟩ hyX4_read ⟨Nat.le_of_ble_eq_true rfl, Nat.le_of_ble_eq_true rfl⟩ rfl (Nat.le_of_ble_eq_true rfl) ?_
    refine mm_istore_n X dX7_lost_22 (by decide) (lv2 := [(2, .int (dr_rd σ 15 p1)), (0, .ref (a 0)), (1, .int p1)]) rfl ?_
    refine mm_iload_n X dX7_lost_23 0 rfl ?_
    refine mm_iconst X dX7_lost_24 (v := 2) (by decide) ?_
    refine mm_icmp_ne X dX7_lost_25 (tgt := 31) (by decide) (fun c2 => ?_) (fun c2 => ?_)
    · have h := (if_neg c2).symm.trans h
      refine mm_iload_n X dX7_lost_31 0 rfl ?_
      refine mm_iconst X dX7_lost_32 (v := 4) (by decide) ?_
      have J4 : ∀ (v3 : Int32), v3 = (if (dr_rd σ 15 p1) = (4 : Int32) then (0 : Int32) else (4 : Int32)) → dG K D cI a σ 41 [(0, .ref (a 0)), (1, .int p1)] [.int v3] := by
        intro v3 ev3
        subst ev3
        refine mm_istore_n X dX7_lost_41 (by decide) (lv2 := [(3, .int (if (dr_rd σ 15 p1) = (4 : Int32) then (0 : Int32) else (4 : Int32))), (0, .ref (a 0)), (1, .int p1)]) rfl ?_
        refine mm_aload_n X dX7_lost_42 1 rfl ?_
        refine mm_get X dX7_lost_43 0 1 (by decide) dv_cf_0 rfl (by decide) uX7_lost_7 kX7_lost_1 rfl (v := .ref (a 2)) rfl ?_
        refine mm_getN X dX7_lost_46 2 4 (by decide) dv_cf_2 rfl (by decide) uX7_lost_2 (List.mem_of_getElem? (i := 8) rfl) rfl (v := .ref (a 41)) rfl ?_
        refine mm_iload_n X dX7_lost_49 2 rfl ?_
        refine mm_iload_n X dX7_lost_50 0 rfl ?_
        refine mm_callVv X dX7_lost_51 (As := [.int p1, .int (if (dr_rd σ 15 p1) = (4 : Int32) then (0 : Int32) else (4 : Int32))]) (rest := []) 41 (by decide) (dv_cf_row (j := 15) (by decide)) rfl hL (mX4_write hJ (j := 15) (by decide) (by decide) (res := dr_wr σ 15 p1 (if (dr_rd σ 15 p1) = (4 : Int32) then (0 : Int32) else (4 : Int32))) rfl) gX7_lost_X4_write rfl ⟨rfl, rfl⟩ hyX4_write ⟨Nat.le_of_ble_eq_true rfl, Nat.le_of_ble_eq_true rfl⟩ rfl (Nat.le_of_ble_eq_true rfl) ?_
        refine mm_iload_n X dX7_lost_54 0 rfl ?_
        subst h
        exact mm_iret X dX7_lost_55 rfl hQ rfl
      refine mm_icmp_ne X dX7_lost_33 (tgt := 40) (by decide) (fun c5 => ?_) (fun c5 => ?_)
      · refine mm_iconst X dX7_lost_40 (v := 4) (by decide) ?_
        refine mm_loc [1, 2] rfl ?_
        exact J4 _ (by rw [if_neg c5])
      · refine mm_iconst X dX7_lost_36 (v := 0) (by decide) ?_
        refine mm_goto X dX7_lost_37 (tgt := 41) (by decide) ?_
        refine mm_loc [1, 2] rfl ?_
        exact J4 _ (by rw [if_pos c5])
    · have h := (if_pos c2).symm.trans h
      refine mm_bipush X dX7_lost_28 (v := -4) (by decide) ?_
      subst h
      exact mm_iret X dX7_lost_30 rfl hQ rfl
  · have h := (if_pos c1).symm.trans h
    refine mm_bipush X dX7_lost_8 (v := -2) (by decide) ?_
    subst h
    exact mm_iret X dX7_lost_10 rfl hQ rfl
/-! LinenTunnel.soilFrom -/
def fX7_soilFrom (σ : mm_M) (p1 p2 : Int32) : Int32 × mm_M := (if (fX7_isPiece σ p1) = 0 then ((-2 : Int32), σ) else (if (dr_rd σ 15 p1) = p2 then ((1 : Int32), (dr_wr σ 15 p1 (1 : Int32))) else ((-4 : Int32), σ)))
abbrev rX7_soilFrom : Room := { frames := 2, cells := 0, slots := 0, locals := 43 }
theorem hyX7_soilFrom : yX7_soilFrom.cls = RX7 ∧ yX7_soilFrom.cls ≠ "java/lang/invoke/MethodHandle" ∧ yX7_soilFrom.cls ≠ "java/lang/invoke/VarHandle" ∧ (parseMethodDescriptor yX7_soilFrom.desc).map (fun d => d.parameters.length) = some 2 := by decide +kernel
theorem kX7_soilFrom_1 : (Cond.fieldLink RX7 19 "LinenTunnel" "linen" "LLinenTunnel$Linen;" : Cond) ∈ wsX7_soilFrom := List.mem_of_getElem? (i := 1) rfl
theorem uX7_soilFrom_7 : ∀ w ∈ u_ws RX7 TX7 7, w ∈ wsX7_soilFrom := fun _ h => (List.mem_cons_of_mem _ (List.mem_append_left _ (List.mem_append_left _ (List.mem_append_right _ h))))
theorem uX7_soilFrom_2 : ∀ w ∈ u_ws RX2 TX2 7, w ∈ wsX7_soilFrom := fun _ h => (List.mem_cons_of_mem _ (List.mem_append_left _ (List.mem_append_right _ h)))
set_option maxRecDepth 100000 in
set_option maxHeartbeats 4000000 in
theorem mX7_soilFrom {l : Launch} {D : va_G} {cI : ClassId} {a : Nat → Nat} (hJ : mm_J 59 a) {σ : mm_M} {p1 p2 : Int32} {res : Int32 × mm_M} (h : fX7_soilFrom σ p1 p2 = res) (sz : Nat) : Met l yX7_soilFrom wsX7_soilFrom rX7_soilFrom (dP D cI a σ [.ref (a 0), .int p1, .int p2] sz) (dQi D cI a res.1 res.2 sz) 0 0 (mm_A 59 a sz) := by
  refine mm_met (fun sz => dQi D cI a res.1 res.2 sz) (lv := [(0, .ref (a 0)), (1, .int p1), (2, .int p2)]) (ret := (some .int)) (cc := cX7_soilFrom) (maxL := 3) (own := RX7) hJ (by decide +kernel) rfl rfl (Nat.le_of_ble_eq_true rfl) rfl ?_ sz
  intro K hL X hQ
  unfold fX7_soilFrom at h
  refine mm_aload_n X dX7_soilFrom_0 0 rfl ?_
  refine mm_iload_n X dX7_soilFrom_1 1 rfl ?_
  refine mm_callVi X dX7_soilFrom_2 (As := [.int p1]) (rest := []) 0 (by decide) dv_cf_0 rfl hL (mX7_isPiece hJ (res := fX7_isPiece σ p1) rfl) gX7_soilFrom_X7_isPiece rfl ⟨rfl, rfl⟩ hyX7_isPiece ⟨Nat.le_of_ble_eq_true rfl, Nat.le_of_ble_eq_true rfl⟩ rfl (Nat.le_of_ble_eq_true rfl) ?_
  refine mm_if_ne X dX7_soilFrom_5 (tgt := 11) (by decide) (fun c1 => ?_) (fun c1 => ?_)
  · have h := (if_neg c1).symm.trans h
    refine mm_aload_n X dX7_soilFrom_11 0 rfl ?_
    refine mm_get X dX7_soilFrom_12 0 1 (by decide) dv_cf_0 rfl (by decide) uX7_soilFrom_7 kX7_soilFrom_1 rfl (v := .ref (a 2)) rfl ?_
    refine mm_getN X dX7_soilFrom_15 2 4 (by decide) dv_cf_2 rfl (by decide) uX7_soilFrom_2 (List.mem_of_getElem? (i := 8) rfl) rfl (v := .ref (a 41)) rfl ?_
    refine mm_iload_n X dX7_soilFrom_18 1 rfl ?_
    refine mm_callVi X dX7_soilFrom_19 (As := [.int p1]) (rest := []) 41 (by decide) (dv_cf_row (j := 15) (by decide)) rfl hL (mX4_read hJ (j := 15) (by decide) (by decide) (res := (dr_rd σ 15 p1)) rfl) gX7_soilFrom_X4_read rfl ⟨rfl, rfl⟩ hyX4_read ⟨Nat.le_of_ble_eq_true rfl, Nat.le_of_ble_eq_true rfl⟩ rfl (Nat.le_of_ble_eq_true rfl) ?_
    refine mm_iload_n X dX7_soilFrom_22 2 rfl ?_
    refine mm_icmp_eq X dX7_soilFrom_23 (tgt := 29) (by decide) (fun c2 => ?_) (fun c2 => ?_)
    · have h := (if_pos c2).symm.trans h
      refine mm_aload_n X dX7_soilFrom_29 0 rfl ?_
      refine mm_get X dX7_soilFrom_30 0 1 (by decide) dv_cf_0 rfl (by decide) uX7_soilFrom_7 kX7_soilFrom_1 rfl (v := .ref (a 2)) rfl ?_
      refine mm_getN X dX7_soilFrom_33 2 4 (by decide) dv_cf_2 rfl (by decide) uX7_soilFrom_2 (List.mem_of_getElem? (i := 8) rfl) rfl (v := .ref (a 41)) rfl ?_
      refine mm_iload_n X dX7_soilFrom_36 1 rfl ?_
      refine mm_iconst X dX7_soilFrom_37 (v := 1) (by decide) ?_
      refine mm_callVv X dX7_soilFrom_38 (As := [.int p1, .int (1 : Int32)]) (rest := []) 41 (by decide) (dv_cf_row (j := 15) (by decide)) rfl hL (mX4_write hJ (j := 15) (by decide) (by decide) (res := dr_wr σ 15 p1 (1 : Int32)) rfl) gX7_soilFrom_X4_write rfl ⟨rfl, rfl⟩ hyX4_write ⟨Nat.le_of_ble_eq_true rfl, Nat.le_of_ble_eq_true rfl⟩ rfl (Nat.le_of_ble_eq_true rfl) ?_
      refine mm_iconst X dX7_soilFrom_41 (v := 1) (by decide) ?_
      subst h
      exact mm_iret X dX7_soilFrom_42 rfl hQ rfl
    · have h := (if_neg c2).symm.trans h
      refine mm_bipush X dX7_soilFrom_26 (v := -4) (by decide) ?_
      subst h
      exact mm_iret X dX7_soilFrom_28 rfl hQ rfl
  · have h := (if_pos c1).symm.trans h
    refine mm_bipush X dX7_soilFrom_8 (v := -2) (by decide) ?_
    subst h
    exact mm_iret X dX7_soilFrom_10 rfl hQ rfl
/-! LinenTunnel.again -/
def fX7_again (σ : mm_M) (p1 : Int32) : Int32 × mm_M := ((fX7_soilFrom σ p1 (3 : Int32)).1, (fX7_soilFrom σ p1 (3 : Int32)).2)
abbrev rX7_again : Room := { frames := 3, cells := 0, slots := 0, locals := 65 }
theorem hyX7_again : yX7_again.cls = RX7 ∧ yX7_again.cls ≠ "java/lang/invoke/MethodHandle" ∧ yX7_again.cls ≠ "java/lang/invoke/VarHandle" ∧ (parseMethodDescriptor yX7_again.desc).map (fun d => d.parameters.length) = some 1 := by decide +kernel
set_option maxRecDepth 100000 in
set_option maxHeartbeats 4000000 in
theorem mX7_again {l : Launch} {D : va_G} {cI : ClassId} {a : Nat → Nat} (hJ : mm_J 59 a) {σ : mm_M} {p1 : Int32} {res : Int32 × mm_M} (h : fX7_again σ p1 = res) (sz : Nat) : Met l yX7_again wsX7_again rX7_again (dP D cI a σ [.ref (a 0), .int p1] sz) (dQi D cI a res.1 res.2 sz) 0 0 (mm_A 59 a sz) := by
  refine mm_met (fun sz => dQi D cI a res.1 res.2 sz) (lv := [(0, .ref (a 0)), (1, .int p1)]) (ret := (some .int)) (cc := cX7_again) (maxL := 2) (own := RX7) hJ (by decide +kernel) rfl rfl (Nat.le_of_ble_eq_true rfl) rfl ?_ sz
  intro K hL X hQ
  unfold fX7_again at h
  refine mm_aload_n X dX7_again_0 0 rfl ?_
  refine mm_iload_n X dX7_again_1 1 rfl ?_
  refine mm_iconst X dX7_again_2 (v := 3) (by decide) ?_
  refine mm_callVi X dX7_again_3 (As := [.int p1, .int (3 : Int32)]) (rest := []) 0 (by decide) dv_cf_0 rfl hL (mX7_soilFrom hJ (res := fX7_soilFrom σ p1 (3 : Int32)) rfl) gX7_again_X7_soilFrom rfl ⟨rfl, rfl⟩ hyX7_soilFrom ⟨Nat.le_of_ble_eq_true rfl, Nat.le_of_ble_eq_true rfl⟩ rfl (Nat.le_of_ble_eq_true rfl) ?_
  subst h
  exact mm_iret X dX7_again_6 rfl hQ rfl
/-! LinenTunnel.isOwnerOrAny -/
def fX7_isOwnerOrAny (p0 : Int32) : Int32 := (if p0 = (-1 : Int32) then (1 : Int32) else (if (fX7_isOwner p0) = 0 then (0 : Int32) else (1 : Int32)))
theorem bX7_isOwnerOrAny {p0 : Int32} : narrow .boolean (.int (fX7_isOwnerOrAny p0)) = .int (fX7_isOwnerOrAny p0) := by
  unfold fX7_isOwnerOrAny
  first | exact bX7_isOwner | exact rfl | ((repeat' split) <;> first | rfl | exact bX7_isOwner)
abbrev rX7_isOwnerOrAny : Room := { frames := 2, cells := 0, slots := 0, locals := 42 }
theorem hyX7_isOwnerOrAny : yX7_isOwnerOrAny.cls ≠ "java/lang/invoke/MethodHandle" ∧ yX7_isOwnerOrAny.cls ≠ "java/lang/invoke/VarHandle" ∧ (parseMethodDescriptor yX7_isOwnerOrAny.desc).map (fun d => d.parameters.length) = some 1 := by decide +kernel
set_option maxRecDepth 100000 in
set_option maxHeartbeats 4000000 in
theorem mX7_isOwnerOrAny {l : Launch} {D : va_G} {cI : ClassId} {a : Nat → Nat} (hJ : mm_J 59 a) {σ : mm_M} {p0 : Int32} {res : Int32} (h : fX7_isOwnerOrAny p0 = res) (sz : Nat) : Met l yX7_isOwnerOrAny wsX7_isOwnerOrAny rX7_isOwnerOrAny (dP D cI a σ [.int p0] sz) (dQi D cI a res σ sz) 0 0 (mm_A 59 a sz) := by
  refine mm_met (fun sz => dQi D cI a res σ sz) (lv := [(0, .int p0)]) (ret := (some .boolean)) (cc := cX7_isOwnerOrAny) (maxL := 1) (own := RX7) hJ (by decide +kernel) rfl rfl (Nat.le_of_ble_eq_true rfl) rfl ?_ sz
  intro K hL X hQ
  unfold fX7_isOwnerOrAny at h
  refine mm_iload_n X dX7_isOwnerOrAny_0 0 rfl ?_
  refine mm_iconst X dX7_isOwnerOrAny_1 (v := -1) (by decide) ?_
  refine mm_icmp_eq X dX7_isOwnerOrAny_2 (tgt := 12) (by decide) (fun c1 => ?_) (fun c1 => ?_)
  · have h := (if_pos c1).symm.trans h
    refine mm_iconst X dX7_isOwnerOrAny_12 (v := 1) (by decide) ?_
    refine mm_goto X dX7_isOwnerOrAny_13 (tgt := 17) (by decide) ?_
    subst h
    exact mm_zret X dX7_isOwnerOrAny_17 rfl rfl hQ rfl
  · have h := (if_neg c1).symm.trans h
    refine mm_iload_n X dX7_isOwnerOrAny_5 0 rfl ?_
    refine mm_callSi X dX7_isOwnerOrAny_6 (As := [.int p0]) (rest := []) hL (mX7_isOwner hJ (res := fX7_isOwner p0) rfl) gX7_isOwnerOrAny_X7_isOwner rfl ⟨rfl, rfl⟩ hyX7_isOwner ⟨Nat.le_of_ble_eq_true rfl, Nat.le_of_ble_eq_true rfl⟩ rfl (Nat.le_of_ble_eq_true rfl) ?_
    refine mm_if_eq X dX7_isOwnerOrAny_9 (tgt := 16) (by decide) (fun c2 => ?_) (fun c2 => ?_)
    · have h := (if_pos c2).symm.trans h
      refine mm_iconst X dX7_isOwnerOrAny_16 (v := 0) (by decide) ?_
      subst h
      exact mm_zret X dX7_isOwnerOrAny_17 rfl rfl hQ rfl
    · have h := (if_neg c2).symm.trans h
      refine mm_iconst X dX7_isOwnerOrAny_12 (v := 1) (by decide) ?_
      refine mm_goto X dX7_isOwnerOrAny_13 (tgt := 17) (by decide) ?_
      subst h
      exact mm_zret X dX7_isOwnerOrAny_17 rfl rfl hQ rfl
/-! LinenTunnel.isKindOrAny -/
def fX7_isKindOrAny (σ : mm_M) (p1 : Int32) : Int32 := (if p1 = (-1 : Int32) then (1 : Int32) else (if (fX7_isKind σ p1) = 0 then (0 : Int32) else (1 : Int32)))
theorem bX7_isKindOrAny {σ : mm_M} {p1 : Int32} : narrow .boolean (.int (fX7_isKindOrAny σ p1)) = .int (fX7_isKindOrAny σ p1) := by
  unfold fX7_isKindOrAny
  first | exact bX7_isKind | exact rfl | ((repeat' split) <;> first | rfl | exact bX7_isKind)
abbrev rX7_isKindOrAny : Room := { frames := 2, cells := 0, slots := 0, locals := 43 }
theorem hyX7_isKindOrAny : yX7_isKindOrAny.cls = RX7 ∧ yX7_isKindOrAny.cls ≠ "java/lang/invoke/MethodHandle" ∧ yX7_isKindOrAny.cls ≠ "java/lang/invoke/VarHandle" ∧ (parseMethodDescriptor yX7_isKindOrAny.desc).map (fun d => d.parameters.length) = some 1 := by decide +kernel
set_option maxRecDepth 100000 in
set_option maxHeartbeats 4000000 in
theorem mX7_isKindOrAny {l : Launch} {D : va_G} {cI : ClassId} {a : Nat → Nat} (hJ : mm_J 59 a) {σ : mm_M} {p1 : Int32} {res : Int32} (h : fX7_isKindOrAny σ p1 = res) (sz : Nat) : Met l yX7_isKindOrAny wsX7_isKindOrAny rX7_isKindOrAny (dP D cI a σ [.ref (a 0), .int p1] sz) (dQi D cI a res σ sz) 0 0 (mm_A 59 a sz) := by
  refine mm_met (fun sz => dQi D cI a res σ sz) (lv := [(0, .ref (a 0)), (1, .int p1)]) (ret := (some .boolean)) (cc := cX7_isKindOrAny) (maxL := 2) (own := RX7) hJ (by decide +kernel) rfl rfl (Nat.le_of_ble_eq_true rfl) rfl ?_ sz
  intro K hL X hQ
  unfold fX7_isKindOrAny at h
  refine mm_iload_n X dX7_isKindOrAny_0 1 rfl ?_
  refine mm_iconst X dX7_isKindOrAny_1 (v := -1) (by decide) ?_
  refine mm_icmp_eq X dX7_isKindOrAny_2 (tgt := 13) (by decide) (fun c1 => ?_) (fun c1 => ?_)
  · have h := (if_pos c1).symm.trans h
    refine mm_iconst X dX7_isKindOrAny_13 (v := 1) (by decide) ?_
    refine mm_goto X dX7_isKindOrAny_14 (tgt := 18) (by decide) ?_
    subst h
    exact mm_zret X dX7_isKindOrAny_18 rfl rfl hQ rfl
  · have h := (if_neg c1).symm.trans h
    refine mm_aload_n X dX7_isKindOrAny_5 0 rfl ?_
    refine mm_iload_n X dX7_isKindOrAny_6 1 rfl ?_
    refine mm_callVi X dX7_isKindOrAny_7 (As := [.int p1]) (rest := []) 0 (by decide) dv_cf_0 rfl hL (mX7_isKind hJ (res := fX7_isKind σ p1) rfl) gX7_isKindOrAny_X7_isKind rfl ⟨rfl, rfl⟩ hyX7_isKind ⟨Nat.le_of_ble_eq_true rfl, Nat.le_of_ble_eq_true rfl⟩ rfl (Nat.le_of_ble_eq_true rfl) ?_
    refine mm_if_eq X dX7_isKindOrAny_10 (tgt := 17) (by decide) (fun c2 => ?_) (fun c2 => ?_)
    · have h := (if_pos c2).symm.trans h
      refine mm_iconst X dX7_isKindOrAny_17 (v := 0) (by decide) ?_
      subst h
      exact mm_zret X dX7_isKindOrAny_18 rfl rfl hQ rfl
    · have h := (if_neg c2).symm.trans h
      refine mm_iconst X dX7_isKindOrAny_13 (v := 1) (by decide) ?_
      refine mm_goto X dX7_isKindOrAny_14 (tgt := 18) (by decide) ?_
      subst h
      exact mm_zret X dX7_isKindOrAny_18 rfl rfl hQ rfl
/-! LinenTunnel.isPlace -/
def fX7_isPlace (p0 : Int32) : Int32 := (fX7_within p0 (0 : Int32) (4 : Int32))
theorem bX7_isPlace {p0 : Int32} : narrow .boolean (.int (fX7_isPlace p0)) = .int (fX7_isPlace p0) := by
  unfold fX7_isPlace
  first | exact bX7_within | exact rfl | ((repeat' split) <;> first | rfl | exact bX7_within)
abbrev rX7_isPlace : Room := { frames := 1, cells := 0, slots := 0, locals := 22 }
theorem hyX7_isPlace : yX7_isPlace.cls ≠ "java/lang/invoke/MethodHandle" ∧ yX7_isPlace.cls ≠ "java/lang/invoke/VarHandle" ∧ (parseMethodDescriptor yX7_isPlace.desc).map (fun d => d.parameters.length) = some 1 := by decide +kernel
set_option maxRecDepth 100000 in
set_option maxHeartbeats 4000000 in
theorem mX7_isPlace {l : Launch} {D : va_G} {cI : ClassId} {a : Nat → Nat} (hJ : mm_J 59 a) {σ : mm_M} {p0 : Int32} {res : Int32} (h : fX7_isPlace p0 = res) (sz : Nat) : Met l yX7_isPlace wsX7_isPlace rX7_isPlace (dP D cI a σ [.int p0] sz) (dQi D cI a res σ sz) 0 0 (mm_A 59 a sz) := by
  refine mm_met (fun sz => dQi D cI a res σ sz) (lv := [(0, .int p0)]) (ret := (some .boolean)) (cc := cX7_isPlace) (maxL := 1) (own := RX7) hJ (by decide +kernel) rfl rfl (Nat.le_of_ble_eq_true rfl) rfl ?_ sz
  intro K hL X hQ
  unfold fX7_isPlace at h
  refine mm_iload_n X dX7_isPlace_0 0 rfl ?_
  refine mm_iconst X dX7_isPlace_1 (v := 0) (by decide) ?_
  refine mm_iconst X dX7_isPlace_2 (v := 4) (by decide) ?_
  refine mm_callSi X dX7_isPlace_3 (As := [.int p0, .int (0 : Int32), .int (4 : Int32)]) (rest := []) hL (mX7_within hJ (res := fX7_within p0 (0 : Int32) (4 : Int32)) rfl) gX7_isPlace_X7_within rfl ⟨rfl, rfl⟩ hyX7_within ⟨Nat.le_of_ble_eq_true rfl, Nat.le_of_ble_eq_true rfl⟩ rfl (Nat.le_of_ble_eq_true rfl) ?_
  subst h
  exact mm_zret X dX7_isPlace_6 rfl bX7_within hQ rfl
