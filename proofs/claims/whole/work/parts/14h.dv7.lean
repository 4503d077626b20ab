/-! LinenTunnel$Sheets.setItem -/
def fX5_setItem (σ : mm_M) (p1 p2 p3 : Int32) : mm_M := (dr_wr σ 32 ((p1 * (60 : Int32)) + p2) (fX5_lowestBits (dr_rd σ 30 p1) p3))
abbrev rX5_setItem : Room := { frames := 1, cells := 0, slots := 0, locals := 22 }
theorem hyX5_setItem : yX5_setItem.cls = RX5 ∧ yX5_setItem.cls ≠ "java/lang/invoke/MethodHandle" ∧ yX5_setItem.cls ≠ "java/lang/invoke/VarHandle" ∧ (parseMethodDescriptor yX5_setItem.desc).map (fun d => d.parameters.length) = some 3 := by decide +kernel
theorem kX5_setItem_1 : (Cond.fieldLink RX5 23 "LinenTunnel$Sheets" "items" "LLinenTunnel$Row;" : Cond) ∈ wsX5_setItem := List.mem_of_getElem? (i := 1) rfl
theorem uX5_setItem_5 : ∀ w ∈ u_ws RX5 TX5 3, w ∈ wsX5_setItem := fun _ h => (List.mem_cons_of_mem _ (List.mem_append_left _ (List.mem_append_right _ h)))
theorem kX5_setItem_2 : (Cond.fieldLink RX5 14 "LinenTunnel$Sheets" "form" "LLinenTunnel$Row;" : Cond) ∈ wsX5_setItem := List.mem_of_getElem? (i := 2) rfl
set_option maxRecDepth 100000 in
set_option maxHeartbeats 4000000 in
theorem mX5_setItem {l : Launch} {D : va_G} {cI : ClassId} {a : Nat → Nat} (hJ : mm_J 59 a) {σ : mm_M} {p1 p2 p3 : Int32} {res : mm_M} (h : fX5_setItem σ p1 p2 p3 = res) (sz : Nat) : Met l yX5_setItem wsX5_setItem rX5_setItem (dP D cI a σ [.ref (a 6), .int p1, .int p2, .int p3] sz) (dQv D cI a res sz) 0 0 (mm_A 59 a sz) := by
  refine mm_met (fun sz => dQv D cI a res sz) (lv := [(0, .ref (a 6)), (1, .int p1), (2, .int p2), (3, .int p3)]) (ret := none) (cc := cX5_setItem) (maxL := 4) (own := RX5) hJ (by decide +kernel) rfl rfl (Nat.le_of_ble_eq_true rfl) rfl ?_ sz
  intro K hL X hQ
  unfold fX5_setItem at h
  refine mm_aload_n X dX5_setItem_0 0 rfl ?_
  refine mm_get X dX5_setItem_1 6 2 (by decide) dv_cf_6 rfl (by decide) uX5_setItem_5 kX5_setItem_1 rfl (v := .ref (a 58)) rfl ?_
  refine mm_iload_n X dX5_setItem_4 1 rfl ?_
  refine mm_bipush X dX5_setItem_5 (v := 60) (by decide) ?_
  refine mm_imul X dX5_setItem_7 ?_
  refine mm_iload_n X dX5_setItem_8 2 rfl ?_
  refine mm_iadd X dX5_setItem_9 ?_
  refine mm_aload_n X dX5_setItem_10 0 rfl ?_
  refine mm_get X dX5_setItem_11 6 0 (by decide) dv_cf_6 rfl (by decide) uX5_setItem_5 kX5_setItem_2 rfl (v := .ref (a 56)) rfl ?_
  refine mm_iload_n X dX5_setItem_14 1 rfl ?_
  refine mm_callVi X dX5_setItem_15 (As := [.int p1]) (rest := [.int ((p1 * (60 : Int32)) + p2), .ref (a 58)]) 56 (by decide) (dv_cf_row (j := 30) (by decide)) rfl hL (mX4_read hJ (j := 30) (by decide) (by decide) (res := (dr_rd σ 30 p1)) rfl) gX5_setItem_X4_read rfl ⟨rfl, rfl⟩ hyX4_read ⟨Nat.le_of_ble_eq_true rfl, Nat.le_of_ble_eq_true rfl⟩ rfl (Nat.le_of_ble_eq_true rfl) ?_
  refine mm_iload_n X dX5_setItem_18 3 rfl ?_
  refine mm_callSi X dX5_setItem_19 (As := [.int (dr_rd σ 30 p1), .int p3]) (rest := [.int ((p1 * (60 : Int32)) + p2), .ref (a 58)]) hL (mX5_lowestBits hJ (res := fX5_lowestBits (dr_rd σ 30 p1) p3) rfl) gX5_setItem_X5_lowestBits rfl ⟨rfl, rfl⟩ hyX5_lowestBits ⟨Nat.le_of_ble_eq_true rfl, Nat.le_of_ble_eq_true rfl⟩ rfl (Nat.le_of_ble_eq_true rfl) ?_
  refine mm_callVv X dX5_setItem_22 (As := [.int ((p1 * (60 : Int32)) + p2), .int (fX5_lowestBits (dr_rd σ 30 p1) p3)]) (rest := []) 58 (by decide) (dv_cf_row (j := 32) (by decide)) rfl hL (mX4_write hJ (j := 32) (by decide) (by decide) (res := dr_wr σ 32 ((p1 * (60 : Int32)) + p2) (fX5_lowestBits (dr_rd σ 30 p1) p3)) rfl) gX5_setItem_X4_write rfl ⟨rfl, rfl⟩ hyX4_write ⟨Nat.le_of_ble_eq_true rfl, Nat.le_of_ble_eq_true rfl⟩ rfl (Nat.le_of_ble_eq_true rfl) ?_
  subst h
  exact mm_vret X dX5_setItem_25 rfl hQ
/-! LinenTunnel.put -/
def fX7_put (σ : mm_M) (p1 p2 p3 p4 : Int32) : Int32 × mm_M := (if (fX7_isSheet p1) = 0 then ((-2 : Int32), σ) else (if (fX7_isForm p2) = 0 then ((-2 : Int32), σ) else (if (fX5_findingAt σ p1 p2 p3) = 0 then ((1 : Int32), (fX5_setItem σ p1 p3 p4)) else ((fX7_find σ (fX5_findingAt σ p1 p2 p3)).1, (fX7_find σ (fX5_findingAt σ p1 p2 p3)).2))))
abbrev rX7_put : Room := { frames := 3, cells := 0, slots := 0, locals := 65 }
theorem hyX7_put : yX7_put.cls = RX7 ∧ yX7_put.cls ≠ "java/lang/invoke/MethodHandle" ∧ yX7_put.cls ≠ "java/lang/invoke/VarHandle" ∧ (parseMethodDescriptor yX7_put.desc).map (fun d => d.parameters.length) = some 4 := by decide +kernel
theorem kX7_put_1 : (Cond.fieldLink RX7 53 "LinenTunnel" "sheets" "LLinenTunnel$Sheets;" : Cond) ∈ wsX7_put := List.mem_of_getElem? (i := 1) rfl
theorem uX7_put_7 : ∀ w ∈ u_ws RX7 TX7 7, w ∈ wsX7_put := fun _ h => (List.mem_cons_of_mem _ (List.mem_append_left _ (List.mem_append_left _ (List.mem_append_right _ h))))
set_option maxRecDepth 100000 in
set_option maxHeartbeats 4000000 in
theorem mX7_put {l : Launch} {D : va_G} {cI : ClassId} {a : Nat → Nat} (hJ : mm_J 59 a) {σ : mm_M} {p1 p2 p3 p4 : Int32} {res : Int32 × mm_M} (h : fX7_put σ p1 p2 p3 p4 = res) (sz : Nat) : Met l yX7_put wsX7_put rX7_put (dP D cI a σ [.ref (a 0), .int p1, .int p2, .int p3, .int p4] sz) (dQi D cI a res.1 res.2 sz) 0 0 (mm_A 59 a sz) := by
  refine mm_met (fun sz => dQi D cI a res.1 res.2 sz) (lv := [(0, .ref (a 0)), (1, .int p1), (2, .int p2), (3, .int p3), (4, .int p4)]) (ret := (some .int)) (cc := cX7_put) (maxL := 6) (own := RX7) hJ (by decide +kernel) rfl rfl (Nat.le_of_ble_eq_true rfl) rfl ?_ sz
  intro K hL X hQ
  unfold fX7_put at h
  refine mm_iload_n X dX7_put_0 1 rfl ?_
  refine mm_callSi X dX7_put_1 (As := [.int p1]) (rest := []) hL (mX7_isSheet hJ (res := fX7_isSheet p1) rfl) gX7_put_X7_isSheet rfl ⟨rfl, rfl⟩ hyX7_isSheet ⟨Nat.le_of_ble_eq_true rfl, Nat.le_of_ble_eq_true rfl⟩ rfl (Nat.le_of_ble_eq_true rfl) ?_
  refine mm_if_eq X dX7_put_4 (tgt := 14) (by decide) (fun c1 => ?_) (fun c1 => ?_)
  · have h := (if_pos c1).symm.trans h
    refine mm_bipush X dX7_put_14 (v := -2) (by decide) ?_
    subst h
    exact mm_iret X dX7_put_16 rfl hQ rfl
  · have h := (if_neg c1).symm.trans h
    refine mm_iload_n X dX7_put_7 2 rfl ?_
    refine mm_callSi X dX7_put_8 (As := [.int p2]) (rest := []) hL (mX7_isForm hJ (res := fX7_isForm p2) rfl) gX7_put_X7_isForm rfl ⟨rfl, rfl⟩ hyX7_isForm ⟨Nat.le_of_ble_eq_true rfl, Nat.le_of_ble_eq_true rfl⟩ rfl (Nat.le_of_ble_eq_true rfl) ?_
    refine mm_if_ne X dX7_put_11 (tgt := 17) (by decide) (fun c2 => ?_) (fun c2 => ?_)
    · have h := (if_neg c2).symm.trans h
      refine mm_aload_n X dX7_put_17 0 rfl ?_
      refine mm_get X dX7_put_18 0 5 (by decide) dv_cf_0 rfl (by decide) uX7_put_7 kX7_put_1 rfl (v := .ref (a 6)) rfl ?_
      refine mm_iload_n X dX7_put_21 1 rfl ?_
      refine mm_iload_n X dX7_put_22 2 rfl ?_
      refine mm_iload_n X dX7_put_23 3 rfl ?_
      refine mm_callVi X dX7_put_24 (As := [.int p1, .int p2, .int p3]) (rest := []) 6 (by decide) dv_cf_6 rfl hL (mX5_findingAt hJ (res := fX5_findingAt σ p1 p2 p3) rfl) gX7_put_X5_findingAt rfl ⟨rfl, rfl⟩ hyX5_findingAt ⟨Nat.le_of_ble_eq_true rfl, Nat.le_of_ble_eq_true rfl⟩ rfl (Nat.le_of_ble_eq_true rfl) ?_
      refine mm_istore X dX7_put_27 (by decide) (lv2 := [(5, .int (fX5_findingAt σ p1 p2 p3)), (0, .ref (a 0)), (1, .int p1), (2, .int p2), (3, .int p3), (4, .int p4)]) rfl ?_
      refine mm_iload X dX7_put_29 0 rfl ?_
      refine mm_if_eq X dX7_put_31 (tgt := 41) (by decide) (fun c3 => ?_) (fun c3 => ?_)
      · have h := (if_pos c3).symm.trans h
        refine mm_aload_n X dX7_put_41 1 rfl ?_
        refine mm_get X dX7_put_42 0 5 (by decide) dv_cf_0 rfl (by decide) uX7_put_7 kX7_put_1 rfl (v := .ref (a 6)) rfl ?_
        refine mm_iload_n X dX7_put_45 2 rfl ?_
        refine mm_iload_n X dX7_put_46 4 rfl ?_
        refine mm_iload X dX7_put_47 5 rfl ?_
        refine mm_callVv X dX7_put_49 (As := [.int p1, .int p3, .int p4]) (rest := []) 6 (by decide) dv_cf_6 rfl hL (mX5_setItem hJ (res := fX5_setItem σ p1 p3 p4) rfl) gX7_put_X5_setItem rfl ⟨rfl, rfl⟩ hyX5_setItem ⟨Nat.le_of_ble_eq_true rfl, Nat.le_of_ble_eq_true rfl⟩ rfl (Nat.le_of_ble_eq_true rfl) ?_
        refine mm_iconst X dX7_put_52 (v := 1) (by decide) ?_
        subst h
        exact mm_iret X dX7_put_53 rfl hQ rfl
      · have h := (if_neg c3).symm.trans h
        refine mm_aload_n X dX7_put_34 1 rfl ?_
        refine mm_iload X dX7_put_35 0 rfl ?_
        refine mm_callVi X dX7_put_37 (As := [.int (fX5_findingAt σ p1 p2 p3)]) (rest := []) 0 (by decide) dv_cf_0 rfl hL (mX7_find hJ (res := fX7_find σ (fX5_findingAt σ p1 p2 p3)) rfl) gX7_put_X7_find rfl ⟨rfl, rfl⟩ hyX7_find ⟨Nat.le_of_ble_eq_true rfl, Nat.le_of_ble_eq_true rfl⟩ rfl (Nat.le_of_ble_eq_true rfl) ?_
        subst h
        exact mm_iret X dX7_put_40 rfl hQ rfl
    · have h := (if_pos c2).symm.trans h
      refine mm_bipush X dX7_put_14 (v := -2) (by decide) ?_
      subst h
      exact mm_iret X dX7_put_16 rfl hQ rfl
/-! LinenTunnel.get -/
def fX7_get (σ : mm_M) (p1 p2 p3 : Int32) : Int32 × mm_M := (if (fX7_isSheet p1) = 0 then ((-2147483648 : Int32), σ) else (if (fX7_isForm p2) = 0 then ((-2147483648 : Int32), σ) else (if (fX5_findingAt σ p1 p2 p3) = 0 then ((fX5_item σ p1 p3), σ) else ((-2147483648 : Int32), (mm_up σ 0 6 (fX5_findingAt σ p1 p2 p3))))))
abbrev rX7_get : Room := { frames := 3, cells := 0, slots := 0, locals := 65 }
theorem hyX7_get : yX7_get.cls = RX7 ∧ yX7_get.cls ≠ "java/lang/invoke/MethodHandle" ∧ yX7_get.cls ≠ "java/lang/invoke/VarHandle" ∧ (parseMethodDescriptor yX7_get.desc).map (fun d => d.parameters.length) = some 3 := by decide +kernel
theorem kX7_get_1 : (Cond.constant RX7 228 (-2147483648) : Cond) ∈ wsX7_get := List.mem_of_getElem? (i := 1) rfl
theorem kX7_get_2 : (Cond.fieldLink RX7 53 "LinenTunnel" "sheets" "LLinenTunnel$Sheets;" : Cond) ∈ wsX7_get := List.mem_of_getElem? (i := 2) rfl
theorem uX7_get_7 : ∀ w ∈ u_ws RX7 TX7 7, w ∈ wsX7_get := fun _ h => (List.mem_cons_of_mem _ (List.mem_append_left _ (List.mem_append_left _ (List.mem_append_right _ h))))
theorem kX7_get_3 : (Cond.fieldLink RX7 57 "LinenTunnel" "latestFinding" "I" : Cond) ∈ wsX7_get := List.mem_of_getElem? (i := 3) rfl
set_option maxRecDepth 100000 in
set_option maxHeartbeats 4000000 in
theorem mX7_get {l : Launch} {D : va_G} {cI : ClassId} {a : Nat → Nat} (hJ : mm_J 59 a) {σ : mm_M} {p1 p2 p3 : Int32} {res : Int32 × mm_M} (h : fX7_get σ p1 p2 p3 = res) (sz : Nat) : Met l yX7_get wsX7_get rX7_get (dP D cI a σ [.ref (a 0), .int p1, .int p2, .int p3] sz) (dQi D cI a res.1 res.2 sz) 0 0 (mm_A 59 a sz) := by
  refine mm_met (fun sz => dQi D cI a res.1 res.2 sz) (lv := [(0, .ref (a 0)), (1, .int p1), (2, .int p2), (3, .int p3)]) (ret := (some .int)) (cc := cX7_get) (maxL := 5) (own := RX7) hJ (by decide +kernel) rfl rfl (Nat.le_of_ble_eq_true rfl) rfl ?_ sz
  intro K hL X hQ
  unfold fX7_get at h
  refine mm_iload_n X dX7_get_0 1 rfl ?_
  refine mm_callSi X dX7_get_1 (As := [.int p1]) (rest := []) hL (mX7_isSheet hJ (res := fX7_isSheet p1) rfl) gX7_get_X7_isSheet rfl ⟨rfl, rfl⟩ hyX7_isSheet ⟨Nat.le_of_ble_eq_true rfl, Nat.le_of_ble_eq_true rfl⟩ rfl (Nat.le_of_ble_eq_true rfl) ?_
  refine mm_if_eq X dX7_get_4 (tgt := 14) (by decide) (fun c1 => ?_) (fun c1 => ?_)
  · have h := (if_pos c1).symm.trans h
    refine mm_ldc X dX7_get_14 kX7_get_1 ?_
    subst h
    exact mm_iret X dX7_get_16 rfl hQ rfl
  · have h := (if_neg c1).symm.trans h
    refine mm_iload_n X dX7_get_7 2 rfl ?_
    refine mm_callSi X dX7_get_8 (As := [.int p2]) (rest := []) hL (mX7_isForm hJ (res := fX7_isForm p2) rfl) gX7_get_X7_isForm rfl ⟨rfl, rfl⟩ hyX7_isForm ⟨Nat.le_of_ble_eq_true rfl, Nat.le_of_ble_eq_true rfl⟩ rfl (Nat.le_of_ble_eq_true rfl) ?_
    refine mm_if_ne X dX7_get_11 (tgt := 17) (by decide) (fun c2 => ?_) (fun c2 => ?_)
    · have h := (if_neg c2).symm.trans h
      refine mm_aload_n X dX7_get_17 0 rfl ?_
      refine mm_get X dX7_get_18 0 5 (by decide) dv_cf_0 rfl (by decide) uX7_get_7 kX7_get_2 rfl (v := .ref (a 6)) rfl ?_
      refine mm_iload_n X dX7_get_21 1 rfl ?_
      refine mm_iload_n X dX7_get_22 2 rfl ?_
      refine mm_iload_n X dX7_get_23 3 rfl ?_
      refine mm_callVi X dX7_get_24 (As := [.int p1, .int p2, .int p3]) (rest := []) 6 (by decide) dv_cf_6 rfl hL (mX5_findingAt hJ (res := fX5_findingAt σ p1 p2 p3) rfl) gX7_get_X5_findingAt rfl ⟨rfl, rfl⟩ hyX5_findingAt ⟨Nat.le_of_ble_eq_true rfl, Nat.le_of_ble_eq_true rfl⟩ rfl (Nat.le_of_ble_eq_true rfl) ?_
      refine mm_istore X dX7_get_27 (by decide) (lv2 := [(4, .int (fX5_findingAt σ p1 p2 p3)), (0, .ref (a 0)), (1, .int p1), (2, .int p2), (3, .int p3)]) rfl ?_
      refine mm_iload X dX7_get_29 0 rfl ?_
      refine mm_if_eq X dX7_get_31 (tgt := 43) (by decide) (fun c3 => ?_) (fun c3 => ?_)
      · have h := (if_pos c3).symm.trans h
        refine mm_aload_n X dX7_get_43 1 rfl ?_
        refine mm_get X dX7_get_44 0 5 (by decide) dv_cf_0 rfl (by decide) uX7_get_7 kX7_get_2 rfl (v := .ref (a 6)) rfl ?_
        refine mm_iload_n X dX7_get_47 2 rfl ?_
        refine mm_iload_n X dX7_get_48 4 rfl ?_
        refine mm_callVi X dX7_get_49 (As := [.int p1, .int p3]) (rest := []) 6 (by decide) dv_cf_6 rfl hL (mX5_item hJ (res := fX5_item σ p1 p3) rfl) gX7_get_X5_item rfl ⟨rfl, rfl⟩ hyX5_item ⟨Nat.le_of_ble_eq_true rfl, Nat.le_of_ble_eq_true rfl⟩ rfl (Nat.le_of_ble_eq_true rfl) ?_
        subst h
        exact mm_iret X dX7_get_52 rfl hQ rfl
      · have h := (if_neg c3).symm.trans h
        refine mm_aload_n X dX7_get_34 1 rfl ?_
        refine mm_iload X dX7_get_35 0 rfl ?_
        refine mm_put X dX7_get_37 0 6 (by decide) tyX7 tyX7_ok nmX7 dv_cf_0 rfl rfl (by decide) uX7_get_7 kX7_get_3 rfl rfl rfl (Nat.le_of_ble_eq_true rfl) ?_
        refine mm_ldc X dX7_get_40 kX7_get_1 ?_
        subst h
        exact mm_iret X dX7_get_42 rfl hQ rfl
    · have h := (if_pos c2).symm.trans h
      refine mm_ldc X dX7_get_14 kX7_get_1 ?_
      subst h
      exact mm_iret X dX7_get_16 rfl hQ rfl
/-! LinenTunnel$Sheets.moveItems -/
def fX5_moveItems_16 (F : Nat) (l1 : Int32) (l2 : Int32) (l3 : Int32) (l4 : Int32) (l5 : Int32) (l6 : Int32) : Nat → Int32 → mm_M → Option (mm_M)
  | 0, _, _ => none
  | k + 1, l7, σ => (if l7 < l5 then fX5_moveItems_16 F l1 l2 l3 l4 l5 l6 k (l7 + 1) (fX5_setItem σ l3 (l4 + (if l6 = 0 then l7 else ((l5 - (1 : Int32)) - l7))) (fX5_item σ l1 (l2 + (if l6 = 0 then l7 else ((l5 - (1 : Int32)) - l7))))) else some (σ))
def fX5_moveItems (F : Nat) (σ : mm_M) (p1 p2 p3 p4 p5 : Int32) : Option (mm_M) := (fX5_moveItems_16 F p1 p2 p3 p4 p5 (if p2 < p4 then (1 : Int32) else (0 : Int32)) F (0 : Int32) σ).bind fun q2 => some q2
abbrev rX5_moveItems : Room := { frames := 2, cells := 0, slots := 0, locals := 45 }
theorem hyX5_moveItems : yX5_moveItems.cls = RX5 ∧ yX5_moveItems.cls ≠ "java/lang/invoke/MethodHandle" ∧ yX5_moveItems.cls ≠ "java/lang/invoke/VarHandle" ∧ (parseMethodDescriptor yX5_moveItems.desc).map (fun d => d.parameters.length) = some 5 := by decide +kernel
set_option maxRecDepth 100000 in
set_option maxHeartbeats 4000000 in
theorem tX5_moveItems_16 {l : Launch} {K : mm_K} {D : va_G} {cI : ClassId} {a : Nat → Nat} (X : dC K rX5_moveItems cX5_moveItems 9 none wsX5_moveItems RX5 D cI a) (hL : mm_L K l) (hJ : mm_J 59 a) {F : Nat} {l1 : Int32} {l2 : Int32} {l3 : Int32} {l4 : Int32} {l5 : Int32} {l6 : Int32} {out : mm_M} (hx : dG K D cI a out 67 [] []) : ∀ (k : Nat) (l7 : Int32) (σ : mm_M), fX5_moveItems_16 F l1 l2 l3 l4 l5 l6 k l7 σ = some out → dG K D cI a σ 16 [(0, .ref (a 6)), (1, .int l1), (2, .int l2), (3, .int l3), (4, .int l4), (5, .int l5), (6, .int l6), (7, .int l7)] [] := by
  intro k
  induction k with
  | zero =>
    intro l7 σ h
    have h : none = some out := h
    cases h
  | succ k ih =>
    intro l7 σ h
    rw [fX5_moveItems_16] at h
    refine mm_iload X dX5_moveItems_16 7 rfl ?_
    refine mm_iload X dX5_moveItems_18 5 rfl ?_
    refine mm_icmp_ge X dX5_moveItems_20 (tgt := 67) (by decide) (fun c1 => ?_) (fun c1 => ?_)
    · have h := (if_neg c1).symm.trans h
      obtain rfl := Option.some.inj h
      refine mm_loc [] rfl ?_
      exact hx
    · have h := (if_pos c1).symm.trans h
      refine mm_iload X dX5_moveItems_23 6 rfl ?_
      have J3 : ∀ (v2 : Int32), v2 = (if l6 = 0 then l7 else ((l5 - (1 : Int32)) - l7)) → dG K D cI a σ 40 [(0, .ref (a 6)), (1, .int l1), (2, .int l2), (3, .int l3), (4, .int l4), (5, .int l5), (6, .int l6), (7, .int l7)] [.int v2] := by
        intro v2 ev2
        subst ev2
        refine mm_istore X dX5_moveItems_40 (by decide) (lv2 := [(8, .int (if l6 = 0 then l7 else ((l5 - (1 : Int32)) - l7))), (0, .ref (a 6)), (1, .int l1), (2, .int l2), (3, .int l3), (4, .int l4), (5, .int l5), (6, .int l6), (7, .int l7)]) rfl ?_
        refine mm_aload_n X dX5_moveItems_42 1 rfl ?_
        refine mm_iload_n X dX5_moveItems_43 4 rfl ?_
        refine mm_iload X dX5_moveItems_44 5 rfl ?_
        refine mm_iload X dX5_moveItems_46 0 rfl ?_
        refine mm_iadd X dX5_moveItems_48 ?_
        refine mm_aload_n X dX5_moveItems_49 1 rfl ?_
        refine mm_iload_n X dX5_moveItems_50 2 rfl ?_
        refine mm_iload_n X dX5_moveItems_51 3 rfl ?_
        refine mm_iload X dX5_moveItems_52 0 rfl ?_
        refine mm_iadd X dX5_moveItems_54 ?_
        refine mm_callVi X dX5_moveItems_55 (As := [.int l1, .int (l2 + (if l6 = 0 then l7 else ((l5 - (1 : Int32)) - l7)))]) (rest := [.int (l4 + (if l6 = 0 then l7 else ((l5 - (1 : Int32)) - l7))), .int l3, .ref (a 6)]) 6 (by decide) dv_cf_6 rfl hL (mX5_item hJ (res := fX5_item σ l1 (l2 + (if l6 = 0 then l7 else ((l5 - (1 : Int32)) - l7)))) rfl) gX5_moveItems_X5_item rfl ⟨rfl, rfl⟩ hyX5_item ⟨Nat.le_of_ble_eq_true rfl, Nat.le_of_ble_eq_true rfl⟩ rfl (Nat.le_of_ble_eq_true rfl) ?_
        refine mm_callVv X dX5_moveItems_58 (As := [.int l3, .int (l4 + (if l6 = 0 then l7 else ((l5 - (1 : Int32)) - l7))), .int (fX5_item σ l1 (l2 + (if l6 = 0 then l7 else ((l5 - (1 : Int32)) - l7))))]) (rest := []) 6 (by decide) dv_cf_6 rfl hL (mX5_setItem hJ (res := fX5_setItem σ l3 (l4 + (if l6 = 0 then l7 else ((l5 - (1 : Int32)) - l7))) (fX5_item σ l1 (l2 + (if l6 = 0 then l7 else ((l5 - (1 : Int32)) - l7))))) rfl) gX5_moveItems_X5_setItem rfl ⟨rfl, rfl⟩ hyX5_setItem ⟨Nat.le_of_ble_eq_true rfl, Nat.le_of_ble_eq_true rfl⟩ rfl (Nat.le_of_ble_eq_true rfl) ?_
        refine mm_iinc X dX5_moveItems_61 8 rfl (v := (l7 + 1)) rfl (by decide) (lv2 := [(7, .int (l7 + 1)), (8, .int (if l6 = 0 then l7 else ((l5 - (1 : Int32)) - l7))), (0, .ref (a 6)), (1, .int l1), (2, .int l2), (3, .int l3), (4, .int l4), (5, .int l5), (6, .int l6)]) rfl ?_
        refine mm_goto X dX5_moveItems_64 (tgt := 16) (by decide) ?_
        refine mm_loc [2, 3, 4, 5, 6, 7, 8, 0] rfl ?_
        exact ih _ _ h
      refine mm_if_eq X dX5_moveItems_25 (tgt := 38) (by decide) (fun c4 => ?_) (fun c4 => ?_)
      · refine mm_iload X dX5_moveItems_38 7 rfl ?_
        exact J3 _ (by rw [if_pos c4])
      · refine mm_iload X dX5_moveItems_28 5 rfl ?_
        refine mm_iconst X dX5_moveItems_30 (v := 1) (by decide) ?_
        refine mm_isub X dX5_moveItems_31 ?_
        refine mm_iload X dX5_moveItems_32 7 rfl ?_
        refine mm_isub X dX5_moveItems_34 ?_
        refine mm_goto X dX5_moveItems_35 (tgt := 40) (by decide) ?_
        exact J3 _ (by rw [if_neg c4])
set_option maxRecDepth 100000 in
set_option maxHeartbeats 4000000 in
theorem mX5_moveItems {l : Launch} {D : va_G} {cI : ClassId} {a : Nat → Nat} (hJ : mm_J 59 a) {F : Nat} {σ : mm_M} {p1 p2 p3 p4 p5 : Int32} {res : mm_M} (h : fX5_moveItems F σ p1 p2 p3 p4 p5 = some res) (sz : Nat) : Met l yX5_moveItems wsX5_moveItems rX5_moveItems (dP D cI a σ [.ref (a 6), .int p1, .int p2, .int p3, .int p4, .int p5] sz) (dQv D cI a res sz) 0 0 (mm_A 59 a sz) := by
  refine mm_met (fun sz => dQv D cI a res sz) (lv := [(0, .ref (a 6)), (1, .int p1), (2, .int p2), (3, .int p3), (4, .int p4), (5, .int p5)]) (ret := none) (cc := cX5_moveItems) (maxL := 9) (own := RX5) hJ (by decide +kernel) rfl rfl (Nat.le_of_ble_eq_true rfl) rfl ?_ sz
  intro K hL X hQ
  unfold fX5_moveItems at h
  refine mm_iload_n X dX5_moveItems_0 2 rfl ?_
  refine mm_iload X dX5_moveItems_1 4 rfl ?_
  have J3 : ∀ (v1 : Int32), v1 = (if p2 < p4 then (1 : Int32) else (0 : Int32)) → dG K D cI a σ 11 [(0, .ref (a 6)), (1, .int p1), (2, .int p2), (3, .int p3), (4, .int p4), (5, .int p5)] [.int v1] := by
    intro v1 ev1
    subst ev1
    refine mm_istore X dX5_moveItems_11 (by decide) (lv2 := [(6, .int (if p2 < p4 then (1 : Int32) else (0 : Int32))), (0, .ref (a 6)), (1, .int p1), (2, .int p2), (3, .int p3), (4, .int p4), (5, .int p5)]) rfl ?_
    refine mm_iconst X dX5_moveItems_13 (v := 0) (by decide) ?_
    refine mm_istore X dX5_moveItems_14 (by decide) (lv2 := [(7, .int (0 : Int32)), (6, .int (if p2 < p4 then (1 : Int32) else (0 : Int32))), (0, .ref (a 6)), (1, .int p1), (2, .int p2), (3, .int p3), (4, .int p4), (5, .int p5)]) rfl ?_
    obtain ⟨q2, hq2, h⟩ := Option.bind_eq_some_iff.mp h
    refine mm_loc [2, 3, 4, 5, 6, 7, 1, 0] rfl ?_
    refine tX5_moveItems_16 X hL hJ ?_ F (0 : Int32) σ hq2
    obtain rfl := Option.some.inj h
    exact mm_vret X dX5_moveItems_67 rfl hQ
  refine mm_icmp_ge X dX5_moveItems_3 (tgt := 10) (by decide) (fun c4 => ?_) (fun c4 => ?_)
  · refine mm_iconst X dX5_moveItems_10 (v := 0) (by decide) ?_
    exact J3 _ (by rw [if_neg c4])
  · refine mm_iconst X dX5_moveItems_6 (v := 1) (by decide) ?_
    refine mm_goto X dX5_moveItems_7 (tgt := 11) (by decide) ?_
    exact J3 _ (by rw [if_pos c4])
/-! LinenTunnel.copy -/
def fX7_copy (F : Nat) (σ : mm_M) (p1 p2 p3 p4 p5 : Int32) : Option (Int32 × mm_M) := (if (fX7_isSheet p1) = 0 then some ((-2 : Int32), σ) else (if (fX7_isSheet p3) = 0 then some ((-2 : Int32), σ) else (if (fX5_isLost σ p1) = 0 then (if (fX5_isLost σ p3) = 0 then (if (dr_rd σ 30 p1) = (dr_rd σ 30 p3) then (if (fX5_holds σ p1 p2 p5) = 0 then some ((fX7_find σ (2 : Int32)).1, (fX7_find σ (2 : Int32)).2) else (if (fX5_holds σ p3 p4 p5) = 0 then some ((fX7_find σ (2 : Int32)).1, (fX7_find σ (2 : Int32)).2) else (fX5_moveItems F σ p1 p2 p3 p4 p5).bind fun q8 => some ((1 : Int32), q8))) else some ((fX7_find σ (4 : Int32)).1, (fX7_find σ (4 : Int32)).2)) else some ((fX7_find σ (1 : Int32)).1, (fX7_find σ (1 : Int32)).2)) else some ((fX7_find σ (1 : Int32)).1, (fX7_find σ (1 : Int32)).2))))
abbrev rX7_copy : Room := { frames := 3, cells := 0, slots := 0, locals := 73 }
theorem hyX7_copy : yX7_copy.cls = RX7 ∧ yX7_copy.cls ≠ "java/lang/invoke/MethodHandle" ∧ yX7_copy.cls ≠ "java/lang/invoke/VarHandle" ∧ (parseMethodDescriptor yX7_copy.desc).map (fun d => d.parameters.length) = some 5 := by decide +kernel
theorem kX7_copy_1 : (Cond.fieldLink RX7 53 "LinenTunnel" "sheets" "LLinenTunnel$Sheets;" : Cond) ∈ wsX7_copy := List.mem_of_getElem? (i := 1) rfl
theorem uX7_copy_7 : ∀ w ∈ u_ws RX7 TX7 7, w ∈ wsX7_copy := fun _ h => (List.mem_cons_of_mem _ (List.mem_append_left _ (List.mem_append_left _ (List.mem_append_right _ h))))
theorem uX7_copy_5 : ∀ w ∈ u_ws RX5 TX5 3, w ∈ wsX7_copy := fun _ h => (List.mem_cons_of_mem _ (List.mem_append_left _ (List.mem_append_right _ h)))
set_option maxRecDepth 100000 in
set_option maxHeartbeats 4000000 in
theorem mX7_copy {l : Launch} {D : va_G} {cI : ClassId} {a : Nat → Nat} (hJ : mm_J 59 a) {F : Nat} {σ : mm_M} {p1 p2 p3 p4 p5 : Int32} {res : Int32 × mm_M} (h : fX7_copy F σ p1 p2 p3 p4 p5 = some res) (sz : Nat) : Met l yX7_copy wsX7_copy rX7_copy (dP D cI a σ [.ref (a 0), .int p1, .int p2, .int p3, .int p4, .int p5] sz) (dQi D cI a res.1 res.2 sz) 0 0 (mm_A 59 a sz) := by
  refine mm_met (fun sz => dQi D cI a res.1 res.2 sz) (lv := [(0, .ref (a 0)), (1, .int p1), (2, .int p2), (3, .int p3), (4, .int p4), (5, .int p5)]) (ret := (some .int)) (cc := cX7_copy) (maxL := 6) (own := RX7) hJ (by decide +kernel) rfl rfl (Nat.le_of_ble_eq_true rfl) rfl ?_ sz
  intro K hL X hQ
  unfold fX7_copy at h
  refine mm_iload_n X dX7_copy_0 1 rfl ?_
  refine mm_callSi X dX7_copy_1 (As := [.int p1]) (rest := []) hL (mX7_isSheet hJ (res := fX7_isSheet p1) rfl) gX7_copy_X7_isSheet rfl ⟨rfl, rfl⟩ hyX7_isSheet ⟨Nat.le_of_ble_eq_true rfl, Nat.le_of_ble_eq_true rfl⟩ rfl (Nat.le_of_ble_eq_true rfl) ?_
  refine mm_if_eq X dX7_copy_4 (tgt := 14) (by decide) (fun c1 => ?_) (fun c1 => ?_)
  · have h := (if_pos c1).symm.trans h
    refine mm_bipush X dX7_copy_14 (v := -2) (by decide) ?_
    obtain rfl := Option.some.inj h
    exact mm_iret X dX7_copy_16 rfl hQ rfl
  · have h := (if_neg c1).symm.trans h
    refine mm_iload_n X dX7_copy_7 3 rfl ?_
    refine mm_callSi X dX7_copy_8 (As := [.int p3]) (rest := []) hL (mX7_isSheet hJ (res := fX7_isSheet p3) rfl) gX7_copy_X7_isSheet rfl ⟨rfl, rfl⟩ hyX7_isSheet ⟨Nat.le_of_ble_eq_true rfl, Nat.le_of_ble_eq_true rfl⟩ rfl (Nat.le_of_ble_eq_true rfl) ?_
    refine mm_if_ne X dX7_copy_11 (tgt := 17) (by decide) (fun c2 => ?_) (fun c2 => ?_)
    · have h := (if_neg c2).symm.trans h
      refine mm_aload_n X dX7_copy_17 0 rfl ?_
      refine mm_get X dX7_copy_18 0 5 (by decide) dv_cf_0 rfl (by decide) uX7_copy_7 kX7_copy_1 rfl (v := .ref (a 6)) rfl ?_
      refine mm_iload_n X dX7_copy_21 1 rfl ?_
      refine mm_callVi X dX7_copy_22 (As := [.int p1]) (rest := []) 6 (by decide) dv_cf_6 rfl hL (mX5_isLost hJ (res := fX5_isLost σ p1) rfl) gX7_copy_X5_isLost rfl ⟨rfl, rfl⟩ hyX5_isLost ⟨Nat.le_of_ble_eq_true rfl, Nat.le_of_ble_eq_true rfl⟩ rfl (Nat.le_of_ble_eq_true rfl) ?_
      refine mm_if_ne X dX7_copy_25 (tgt := 39) (by decide) (fun c3 => ?_) (fun c3 => ?_)
      · have h := (if_neg c3).symm.trans h
        refine mm_aload_n X dX7_copy_39 0 rfl ?_
        refine mm_iconst X dX7_copy_40 (v := 1) (by decide) ?_
        refine mm_callVi X dX7_copy_41 (As := [.int (1 : Int32)]) (rest := []) 0 (by decide) dv_cf_0 rfl hL (mX7_find hJ (res := fX7_find σ (1 : Int32)) rfl) gX7_copy_X7_find rfl ⟨rfl, rfl⟩ hyX7_find ⟨Nat.le_of_ble_eq_true rfl, Nat.le_of_ble_eq_true rfl⟩ rfl (Nat.le_of_ble_eq_true rfl) ?_
        obtain rfl := Option.some.inj h
        exact mm_iret X dX7_copy_44 rfl hQ rfl
      · have h := (if_pos c3).symm.trans h
        refine mm_aload_n X dX7_copy_28 0 rfl ?_
        refine mm_get X dX7_copy_29 0 5 (by decide) dv_cf_0 rfl (by decide) uX7_copy_7 kX7_copy_1 rfl (v := .ref (a 6)) rfl ?_
        refine mm_iload_n X dX7_copy_32 3 rfl ?_
        refine mm_callVi X dX7_copy_33 (As := [.int p3]) (rest := []) 6 (by decide) dv_cf_6 rfl hL (mX5_isLost hJ (res := fX5_isLost σ p3) rfl) gX7_copy_X5_isLost rfl ⟨rfl, rfl⟩ hyX5_isLost ⟨Nat.le_of_ble_eq_true rfl, Nat.le_of_ble_eq_true rfl⟩ rfl (Nat.le_of_ble_eq_true rfl) ?_
        refine mm_if_eq X dX7_copy_36 (tgt := 45) (by decide) (fun c4 => ?_) (fun c4 => ?_)
        · have h := (if_pos c4).symm.trans h
          refine mm_aload_n X dX7_copy_45 0 rfl ?_
          refine mm_get X dX7_copy_46 0 5 (by decide) dv_cf_0 rfl (by decide) uX7_copy_7 kX7_copy_1 rfl (v := .ref (a 6)) rfl ?_
          refine mm_getN X dX7_copy_49 6 0 (by decide) dv_cf_6 rfl (by decide) uX7_copy_5 (List.mem_of_getElem? (i := 26) rfl) rfl (v := .ref (a 56)) rfl ?_
          refine mm_iload_n X dX7_copy_52 1 rfl ?_
          refine mm_callVi X dX7_copy_53 (As := [.int p1]) (rest := []) 56 (by decide) (dv_cf_row (j := 30) (by decide)) rfl hL (mX4_read hJ (j := 30) (by decide) (by decide) (res := (dr_rd σ 30 p1)) rfl) gX7_copy_X4_read rfl ⟨rfl, rfl⟩ hyX4_read ⟨Nat.le_of_ble_eq_true rfl, Nat.le_of_ble_eq_true rfl⟩ rfl (Nat.le_of_ble_eq_true rfl) ?_
          refine mm_aload_n X dX7_copy_56 0 rfl ?_
          refine mm_get X dX7_copy_57 0 5 (by decide) dv_cf_0 rfl (by decide) uX7_copy_7 kX7_copy_1 rfl (v := .ref (a 6)) rfl ?_
          refine mm_getN X dX7_copy_60 6 0 (by decide) dv_cf_6 rfl (by decide) uX7_copy_5 (List.mem_of_getElem? (i := 26) rfl) rfl (v := .ref (a 56)) rfl ?_
          refine mm_iload_n X dX7_copy_63 3 rfl ?_
          refine mm_callVi X dX7_copy_64 (As := [.int p3]) (rest := [.int (dr_rd σ 30 p1)]) 56 (by decide) (dv_cf_row (j := 30) (by decide)) rfl hL (mX4_read hJ (j := 30) (by decide) (by decide) (res := (dr_rd σ 30 p3)) rfl) gX7_copy_X4_read rfl ⟨rfl, rfl⟩ hyX4_read ⟨Nat.le_of_ble_eq_true rfl, Nat.le_of_ble_eq_true rfl⟩ rfl (Nat.le_of_ble_eq_true rfl) ?_
          refine mm_icmp_eq X dX7_copy_67 (tgt := 76) (by decide) (fun c5 => ?_) (fun c5 => ?_)
          · have h := (if_pos c5).symm.trans h
            refine mm_aload_n X dX7_copy_76 0 rfl ?_
            refine mm_get X dX7_copy_77 0 5 (by decide) dv_cf_0 rfl (by decide) uX7_copy_7 kX7_copy_1 rfl (v := .ref (a 6)) rfl ?_
            refine mm_iload_n X dX7_copy_80 1 rfl ?_
            refine mm_iload_n X dX7_copy_81 2 rfl ?_
            refine mm_iload X dX7_copy_82 5 rfl ?_
            refine mm_callVi X dX7_copy_84 (As := [.int p1, .int p2, .int p5]) (rest := []) 6 (by decide) dv_cf_6 rfl hL (mX5_holds hJ (res := fX5_holds σ p1 p2 p5) rfl) gX7_copy_X5_holds rfl ⟨rfl, rfl⟩ hyX5_holds ⟨Nat.le_of_ble_eq_true rfl, Nat.le_of_ble_eq_true rfl⟩ rfl (Nat.le_of_ble_eq_true rfl) ?_
            refine mm_if_eq X dX7_copy_87 (tgt := 105) (by decide) (fun c6 => ?_) (fun c6 => ?_)
            · have h := (if_pos c6).symm.trans h
              refine mm_aload_n X dX7_copy_105 0 rfl ?_
              refine mm_iconst X dX7_copy_106 (v := 2) (by decide) ?_
              refine mm_callVi X dX7_copy_107 (As := [.int (2 : Int32)]) (rest := []) 0 (by decide) dv_cf_0 rfl hL (mX7_find hJ (res := fX7_find σ (2 : Int32)) rfl) gX7_copy_X7_find rfl ⟨rfl, rfl⟩ hyX7_find ⟨Nat.le_of_ble_eq_true rfl, Nat.le_of_ble_eq_true rfl⟩ rfl (Nat.le_of_ble_eq_true rfl) ?_
              obtain rfl := Option.some.inj h
              exact mm_iret X dX7_copy_110 rfl hQ rfl
            · have h := (if_neg c6).symm.trans h
              refine mm_aload_n X dX7_copy_90 0 rfl ?_
              refine mm_get X dX7_copy_91 0 5 (by decide) dv_cf_0 rfl (by decide) uX7_copy_7 kX7_copy_1 rfl (v := .ref (a 6)) rfl ?_
              refine mm_iload_n X dX7_copy_94 3 rfl ?_
              refine mm_iload X dX7_copy_95 4 rfl ?_
              refine mm_iload X dX7_copy_97 5 rfl ?_
              refine mm_callVi X dX7_copy_99 (As := [.int p3, .int p4, .int p5]) (rest := []) 6 (by decide) dv_cf_6 rfl hL (mX5_holds hJ (res := fX5_holds σ p3 p4 p5) rfl) gX7_copy_X5_holds rfl ⟨rfl, rfl⟩ hyX5_holds ⟨Nat.le_of_ble_eq_true rfl, Nat.le_of_ble_eq_true rfl⟩ rfl (Nat.le_of_ble_eq_true rfl) ?_
              refine mm_if_ne X dX7_copy_102 (tgt := 111) (by decide) (fun c7 => ?_) (fun c7 => ?_)
              · have h := (if_neg c7).symm.trans h
                refine mm_aload_n X dX7_copy_111 0 rfl ?_
                refine mm_get X dX7_copy_112 0 5 (by decide) dv_cf_0 rfl (by decide) uX7_copy_7 kX7_copy_1 rfl (v := .ref (a 6)) rfl ?_
                refine mm_iload_n X dX7_copy_115 1 rfl ?_
                refine mm_iload_n X dX7_copy_116 2 rfl ?_
                refine mm_iload_n X dX7_copy_117 3 rfl ?_
                refine mm_iload X dX7_copy_118 4 rfl ?_
                refine mm_iload X dX7_copy_120 5 rfl ?_
                obtain ⟨q8, hq8, h⟩ := Option.bind_eq_some_iff.mp h
                refine mm_callVv X dX7_copy_122 (As := [.int p1, .int p2, .int p3, .int p4, .int p5]) (rest := []) 6 (by decide) dv_cf_6 rfl hL (mX5_moveItems hJ hq8) gX7_copy_X5_moveItems rfl ⟨rfl, rfl⟩ hyX5_moveItems ⟨Nat.le_of_ble_eq_true rfl, Nat.le_of_ble_eq_true rfl⟩ rfl (Nat.le_of_ble_eq_true rfl) ?_
                refine mm_iconst X dX7_copy_125 (v := 1) (by decide) ?_
                obtain rfl := Option.some.inj h
                exact mm_iret X dX7_copy_126 rfl hQ rfl
              · have h := (if_pos c7).symm.trans h
                refine mm_aload_n X dX7_copy_105 0 rfl ?_
                refine mm_iconst X dX7_copy_106 (v := 2) (by decide) ?_
                refine mm_callVi X dX7_copy_107 (As := [.int (2 : Int32)]) (rest := []) 0 (by decide) dv_cf_0 rfl hL (mX7_find hJ (res := fX7_find σ (2 : Int32)) rfl) gX7_copy_X7_find rfl ⟨rfl, rfl⟩ hyX7_find ⟨Nat.le_of_ble_eq_true rfl, Nat.le_of_ble_eq_true rfl⟩ rfl (Nat.le_of_ble_eq_true rfl) ?_
                obtain rfl := Option.some.inj h
                exact mm_iret X dX7_copy_110 rfl hQ rfl
          · have h := (if_neg c5).symm.trans h
            refine mm_aload_n X dX7_copy_70 0 rfl ?_
            refine mm_iconst X dX7_copy_71 (v := 4) (by decide) ?_
            refine mm_callVi X dX7_copy_72 (As := [.int (4 : Int32)]) (rest := []) 0 (by decide) dv_cf_0 rfl hL (mX7_find hJ (res := fX7_find σ (4 : Int32)) rfl) gX7_copy_X7_find rfl ⟨rfl, rfl⟩ hyX7_find ⟨Nat.le_of_ble_eq_true rfl, Nat.le_of_ble_eq_true rfl⟩ rfl (Nat.le_of_ble_eq_true rfl) ?_
            obtain rfl := Option.some.inj h
            exact mm_iret X dX7_copy_75 rfl hQ rfl
        · have h := (if_neg c4).symm.trans h
          refine mm_aload_n X dX7_copy_39 0 rfl ?_
          refine mm_iconst X dX7_copy_40 (v := 1) (by decide) ?_
          refine mm_callVi X dX7_copy_41 (As := [.int (1 : Int32)]) (rest := []) 0 (by decide) dv_cf_0 rfl hL (mX7_find hJ (res := fX7_find σ (1 : Int32)) rfl) gX7_copy_X7_find rfl ⟨rfl, rfl⟩ hyX7_find ⟨Nat.le_of_ble_eq_true rfl, Nat.le_of_ble_eq_true rfl⟩ rfl (Nat.le_of_ble_eq_true rfl) ?_
          obtain rfl := Option.some.inj h
          exact mm_iret X dX7_copy_44 rfl hQ rfl
    · have h := (if_pos c2).symm.trans h
      refine mm_bipush X dX7_copy_14 (v := -2) (by decide) ?_
      obtain rfl := Option.some.inj h
      exact mm_iret X dX7_copy_16 rfl hQ rfl
/-! LinenTunnel.list -/
def fX7_list_60 (F : Nat) (l1 : Int32) (l2 : Int32) (l3 : Int32) (l4 : Int32) : Nat → Int32 → Int32 → mm_M → Option (Int32 × mm_M)
  | 0, _, _, _ => none
  | k + 1, l5, l6, σ => (if l6 < (σ 2 0) then (if l5 < l4 then fX7_list_60 F l1 l2 l3 l4 k (if (fX2_fits σ l6 l2 (-1 : Int32) l3) = 0 then l5 else (l5 + 1)) (l6 + 1) (if (fX2_fits σ l6 l2 (-1 : Int32) l3) = 0 then σ else (fX5_setItem σ l1 l5 l6)) else some (l5, σ)) else some (l5, σ))
def fX7_list (F : Nat) (σ : mm_M) (p1 p2 p3 : Int32) : Option (Int32 × mm_M) := (if (fX7_isSheet p1) = 0 then some ((-2 : Int32), σ) else (if (fX7_isOwnerOrAny p2) = 0 then some ((-2 : Int32), σ) else (if (fX7_isPlace p3) = 0 then some ((-2 : Int32), σ) else (if (fX5_isLost σ p1) = 0 then (fX7_list_60 F p1 p2 p3 (dr_rd σ 31 p1) F (0 : Int32) (0 : Int32) σ).bind fun q5 => some (q5.1, q5.2) else some ((fX7_find σ (1 : Int32)).1, (fX7_find σ (1 : Int32)).2)))))
abbrev rX7_list : Room := { frames := 3, cells := 0, slots := 0, locals := 62 }
theorem hyX7_list : yX7_list.cls = RX7 ∧ yX7_list.cls ≠ "java/lang/invoke/MethodHandle" ∧ yX7_list.cls ≠ "java/lang/invoke/VarHandle" ∧ (parseMethodDescriptor yX7_list.desc).map (fun d => d.parameters.length) = some 3 := by decide +kernel
theorem kX7_list_1 : (Cond.fieldLink RX7 53 "LinenTunnel" "sheets" "LLinenTunnel$Sheets;" : Cond) ∈ wsX7_list := List.mem_of_getElem? (i := 1) rfl
theorem uX7_list_7 : ∀ w ∈ u_ws RX7 TX7 7, w ∈ wsX7_list := fun _ h => (List.mem_cons_of_mem _ (List.mem_append_left _ (List.mem_append_left _ (List.mem_append_left _ (List.mem_append_right _ h)))))
theorem uX7_list_5 : ∀ w ∈ u_ws RX5 TX5 3, w ∈ wsX7_list := fun _ h => (List.mem_cons_of_mem _ (List.mem_append_left _ (List.mem_append_left _ (List.mem_append_right _ h))))
theorem kX7_list_2 : (Cond.fieldLink RX7 19 "LinenTunnel" "linen" "LLinenTunnel$Linen;" : Cond) ∈ wsX7_list := List.mem_of_getElem? (i := 2) rfl
theorem uX7_list_2 : ∀ w ∈ u_ws RX2 TX2 7, w ∈ wsX7_list := fun _ h => (List.mem_cons_of_mem _ (List.mem_append_left _ (List.mem_append_right _ h)))
set_option maxRecDepth 100000 in
set_option maxHeartbeats 4000000 in
theorem tX7_list_60 {l : Launch} {K : mm_K} {D : va_G} {cI : ClassId} {a : Nat → Nat} (X : dC K rX7_list cX7_list 7 (some .int) wsX7_list RX7 D cI a) (hL : mm_L K l) (hJ : mm_J 59 a) {F : Nat} {l1 : Int32} {l2 : Int32} {l3 : Int32} {l4 : Int32} {out : Int32 × mm_M} (hx : dG K D cI a out.2 115 [(5, .int out.1)] []) : ∀ (k : Nat) (l5 : Int32) (l6 : Int32) (σ : mm_M), fX7_list_60 F l1 l2 l3 l4 k l5 l6 σ = some out → dG K D cI a σ 60 [(0, .ref (a 0)), (1, .int l1), (2, .int l2), (3, .int l3), (4, .int l4), (5, .int l5), (6, .int l6)] [] := by
  intro k
  induction k with
  | zero =>
    intro l5 l6 σ h
    have h : none = some out := h
    cases h
  | succ k ih =>
    intro l5 l6 σ h
    rw [fX7_list_60] at h
    refine mm_iload X dX7_list_60 6 rfl ?_
    refine mm_aload_n X dX7_list_62 0 rfl ?_
    refine mm_get X dX7_list_63 0 1 (by decide) dv_cf_0 rfl (by decide) uX7_list_7 kX7_list_2 rfl (v := .ref (a 2)) rfl ?_
    refine mm_getN X dX7_list_66 2 0 (by decide) dv_cf_2 rfl (by decide) uX7_list_2 (List.mem_of_getElem? (i := 4) rfl) rfl (v := .int (σ 2 0)) rfl ?_
    refine mm_icmp_ge X dX7_list_69 (tgt := 115) (by decide) (fun c1 => ?_) (fun c1 => ?_)
    · have h := (if_neg c1).symm.trans h
      obtain rfl := Option.some.inj h
      refine mm_loc [5] rfl ?_
      exact hx
    · have h := (if_pos c1).symm.trans h
      refine mm_iload X dX7_list_72 5 rfl ?_
      refine mm_iload X dX7_list_74 4 rfl ?_
      refine mm_icmp_ge X dX7_list_76 (tgt := 115) (by decide) (fun c2 => ?_) (fun c2 => ?_)
      · have h := (if_neg c2).symm.trans h
        obtain rfl := Option.some.inj h
        refine mm_loc [5] rfl ?_
        exact hx
      · have h := (if_pos c2).symm.trans h
        refine mm_aload_n X dX7_list_79 0 rfl ?_
        refine mm_get X dX7_list_80 0 1 (by decide) dv_cf_0 rfl (by decide) uX7_list_7 kX7_list_2 rfl (v := .ref (a 2)) rfl ?_
        refine mm_iload X dX7_list_83 6 rfl ?_
        refine mm_iload_n X dX7_list_85 2 rfl ?_
        refine mm_iconst X dX7_list_86 (v := -1) (by decide) ?_
        refine mm_iload_n X dX7_list_87 3 rfl ?_
        refine mm_callVi X dX7_list_88 (As := [.int l6, .int l2, .int (-1 : Int32), .int l3]) (rest := []) 2 (by decide) dv_cf_2 rfl hL (mX2_fits hJ (res := fX2_fits σ l6 l2 (-1 : Int32) l3) rfl) gX7_list_X2_fits rfl ⟨rfl, rfl⟩ hyX2_fits ⟨Nat.le_of_ble_eq_true rfl, Nat.le_of_ble_eq_true rfl⟩ rfl (Nat.le_of_ble_eq_true rfl) ?_
        have J5 : ∀ (v3 : Int32) (v4 : mm_M), v3 = (if (fX2_fits σ l6 l2 (-1 : Int32) l3) = 0 then l5 else (l5 + 1)) → v4 = (if (fX2_fits σ l6 l2 (-1 : Int32) l3) = 0 then σ else (fX5_setItem σ l1 l5 l6)) → dG K D cI a v4 109 [(0, .ref (a 0)), (1, .int l1), (2, .int l2), (3, .int l3), (4, .int l4), (5, .int v3), (6, .int l6)] [] := by
          intro v3 v4 ev3 ev4
          subst ev3
          subst ev4
          refine mm_iinc X dX7_list_109 6 rfl (v := (l6 + 1)) rfl (by decide) (lv2 := [(6, .int (l6 + 1)), (0, .ref (a 0)), (1, .int l1), (2, .int l2), (3, .int l3), (4, .int l4), (5, .int (if (fX2_fits σ l6 l2 (-1 : Int32) l3) = 0 then l5 else (l5 + 1)))]) rfl ?_
          refine mm_goto X dX7_list_112 (tgt := 60) (by decide) ?_
          refine mm_loc [1, 2, 3, 4, 5, 6, 0] rfl ?_
          exact ih _ _ _ h
        refine mm_if_eq X dX7_list_91 (tgt := 109) (by decide) (fun c6 => ?_) (fun c6 => ?_)
        · exact J5 _ _ (by rw [if_pos c6]) (by rw [if_pos c6])
        · refine mm_aload_n X dX7_list_94 0 rfl ?_
          refine mm_get X dX7_list_95 0 5 (by decide) dv_cf_0 rfl (by decide) uX7_list_7 kX7_list_1 rfl (v := .ref (a 6)) rfl ?_
          refine mm_iload_n X dX7_list_98 1 rfl ?_
          refine mm_iload X dX7_list_99 5 rfl ?_
          refine mm_iload X dX7_list_101 6 rfl ?_
          refine mm_callVv X dX7_list_103 (As := [.int l1, .int l5, .int l6]) (rest := []) 6 (by decide) dv_cf_6 rfl hL (mX5_setItem hJ (res := fX5_setItem σ l1 l5 l6) rfl) gX7_list_X5_setItem rfl ⟨rfl, rfl⟩ hyX5_setItem ⟨Nat.le_of_ble_eq_true rfl, Nat.le_of_ble_eq_true rfl⟩ rfl (Nat.le_of_ble_eq_true rfl) ?_
          refine mm_iinc X dX7_list_106 5 rfl (v := (l5 + 1)) rfl (by decide) (lv2 := [(5, .int (l5 + 1)), (0, .ref (a 0)), (1, .int l1), (2, .int l2), (3, .int l3), (4, .int l4), (6, .int l6)]) rfl ?_
          refine mm_loc [1, 2, 3, 4, 5, 0, 6] rfl ?_
          exact J5 _ _ (by rw [if_neg c6]) (by rw [if_neg c6])
set_option maxRecDepth 100000 in
set_option maxHeartbeats 4000000 in
theorem mX7_list {l : Launch} {D : va_G} {cI : ClassId} {a : Nat → Nat} (hJ : mm_J 59 a) {F : Nat} {σ : mm_M} {p1 p2 p3 : Int32} {res : Int32 × mm_M} (h : fX7_list F σ p1 p2 p3 = some res) (sz : Nat) : Met l yX7_list wsX7_list rX7_list (dP D cI a σ [.ref (a 0), .int p1, .int p2, .int p3] sz) (dQi D cI a res.1 res.2 sz) 0 0 (mm_A 59 a sz) := by
  refine mm_met (fun sz => dQi D cI a res.1 res.2 sz) (lv := [(0, .ref (a 0)), (1, .int p1), (2, .int p2), (3, .int p3)]) (ret := (some .int)) (cc := cX7_list) (maxL := 7) (own := RX7) hJ (by decide +kernel) rfl rfl (Nat.le_of_ble_eq_true rfl) rfl ?_ sz
  intro K hL X hQ
  unfold fX7_list at h
  refine mm_iload_n X dX7_list_0 1 rfl ?_
  refine mm_callSi X dX7_list_1 (As := [.int p1]) (rest := []) hL (mX7_isSheet hJ (res := fX7_isSheet p1) rfl) gX7_list_X7_isSheet rfl ⟨rfl, rfl⟩ hyX7_isSheet ⟨Nat.le_of_ble_eq_true rfl, Nat.le_of_ble_eq_true rfl⟩ rfl (Nat.le_of_ble_eq_true rfl) ?_
  refine mm_if_eq X dX7_list_4 (tgt := 21) (by decide) (fun c1 => ?_) (fun c1 => ?_)
  · have h := (if_pos c1).symm.trans h
    refine mm_bipush X dX7_list_21 (v := -2) (by decide) ?_
    obtain rfl := Option.some.inj h
    exact mm_iret X dX7_list_23 rfl hQ rfl
  · have h := (if_neg c1).symm.trans h
    refine mm_iload_n X dX7_list_7 2 rfl ?_
    refine mm_callSi X dX7_list_8 (As := [.int p2]) (rest := []) hL (mX7_isOwnerOrAny hJ (res := fX7_isOwnerOrAny p2) rfl) gX7_list_X7_isOwnerOrAny rfl ⟨rfl, rfl⟩ hyX7_isOwnerOrAny ⟨Nat.le_of_ble_eq_true rfl, Nat.le_of_ble_eq_true rfl⟩ rfl (Nat.le_of_ble_eq_true rfl) ?_
    refine mm_if_eq X dX7_list_11 (tgt := 21) (by decide) (fun c2 => ?_) (fun c2 => ?_)
    · have h := (if_pos c2).symm.trans h
      refine mm_bipush X dX7_list_21 (v := -2) (by decide) ?_
      obtain rfl := Option.some.inj h
      exact mm_iret X dX7_list_23 rfl hQ rfl
    · have h := (if_neg c2).symm.trans h
      refine mm_iload_n X dX7_list_14 3 rfl ?_
      refine mm_callSi X dX7_list_15 (As := [.int p3]) (rest := []) hL (mX7_isPlace hJ (res := fX7_isPlace p3) rfl) gX7_list_X7_isPlace rfl ⟨rfl, rfl⟩ hyX7_isPlace ⟨Nat.le_of_ble_eq_true rfl, Nat.le_of_ble_eq_true rfl⟩ rfl (Nat.le_of_ble_eq_true rfl) ?_
      refine mm_if_ne X dX7_list_18 (tgt := 24) (by decide) (fun c3 => ?_) (fun c3 => ?_)
      · have h := (if_neg c3).symm.trans h
        refine mm_aload_n X dX7_list_24 0 rfl ?_
        refine mm_get X dX7_list_25 0 5 (by decide) dv_cf_0 rfl (by decide) uX7_list_7 kX7_list_1 rfl (v := .ref (a 6)) rfl ?_
        refine mm_iload_n X dX7_list_28 1 rfl ?_
        refine mm_callVi X dX7_list_29 (As := [.int p1]) (rest := []) 6 (by decide) dv_cf_6 rfl hL (mX5_isLost hJ (res := fX5_isLost σ p1) rfl) gX7_list_X5_isLost rfl ⟨rfl, rfl⟩ hyX5_isLost ⟨Nat.le_of_ble_eq_true rfl, Nat.le_of_ble_eq_true rfl⟩ rfl (Nat.le_of_ble_eq_true rfl) ?_
        refine mm_if_eq X dX7_list_32 (tgt := 41) (by decide) (fun c4 => ?_) (fun c4 => ?_)
        · have h := (if_pos c4).symm.trans h
          refine mm_aload_n X dX7_list_41 0 rfl ?_
          refine mm_get X dX7_list_42 0 5 (by decide) dv_cf_0 rfl (by decide) uX7_list_7 kX7_list_1 rfl (v := .ref (a 6)) rfl ?_
          refine mm_getN X dX7_list_45 6 1 (by decide) dv_cf_6 rfl (by decide) uX7_list_5 (List.mem_of_getElem? (i := 27) rfl) rfl (v := .ref (a 57)) rfl ?_
          refine mm_iload_n X dX7_list_48 1 rfl ?_
          refine mm_callVi X dX7_list_49 (As := [.int p1]) (rest := []) 57 (by decide) (dv_cf_row (j := 31) (by decide)) rfl hL (mX4_read hJ (j := 31) (by decide) (by decide) (res := (dr_rd σ 31 p1)) rfl) gX7_list_X4_read rfl ⟨rfl, rfl⟩ hyX4_read ⟨Nat.le_of_ble_eq_true rfl, Nat.le_of_ble_eq_true rfl⟩ rfl (Nat.le_of_ble_eq_true rfl) ?_
          refine mm_istore X dX7_list_52 (by decide) (lv2 := [(4, .int (dr_rd σ 31 p1)), (0, .ref (a 0)), (1, .int p1), (2, .int p2), (3, .int p3)]) rfl ?_
          refine mm_iconst X dX7_list_54 (v := 0) (by decide) ?_
          refine mm_istore X dX7_list_55 (by decide) (lv2 := [(5, .int (0 : Int32)), (4, .int (dr_rd σ 31 p1)), (0, .ref (a 0)), (1, .int p1), (2, .int p2), (3, .int p3)]) rfl ?_
          refine mm_iconst X dX7_list_57 (v := 0) (by decide) ?_
          refine mm_istore X dX7_list_58 (by decide) (lv2 := [(6, .int (0 : Int32)), (5, .int (0 : Int32)), (4, .int (dr_rd σ 31 p1)), (0, .ref (a 0)), (1, .int p1), (2, .int p2), (3, .int p3)]) rfl ?_
          obtain ⟨q5, hq5, h⟩ := Option.bind_eq_some_iff.mp h
          refine mm_loc [3, 4, 5, 6, 2, 1, 0] rfl ?_
          refine tX7_list_60 X hL hJ ?_ F (0 : Int32) (0 : Int32) σ hq5
          refine mm_iload X dX7_list_115 0 rfl ?_
          obtain rfl := Option.some.inj h
          exact mm_iret X dX7_list_117 rfl hQ rfl
        · have h := (if_neg c4).symm.trans h
          refine mm_aload_n X dX7_list_35 0 rfl ?_
          refine mm_iconst X dX7_list_36 (v := 1) (by decide) ?_
          refine mm_callVi X dX7_list_37 (As := [.int (1 : Int32)]) (rest := []) 0 (by decide) dv_cf_0 rfl hL (mX7_find hJ (res := fX7_find σ (1 : Int32)) rfl) gX7_list_X7_find rfl ⟨rfl, rfl⟩ hyX7_find ⟨Nat.le_of_ble_eq_true rfl, Nat.le_of_ble_eq_true rfl⟩ rfl (Nat.le_of_ble_eq_true rfl) ?_
          obtain rfl := Option.some.inj h
          exact mm_iret X dX7_list_40 rfl hQ rfl
      · have h := (if_pos c3).symm.trans h
        refine mm_bipush X dX7_list_21 (v := -2) (by decide) ?_
        obtain rfl := Option.some.inj h
        exact mm_iret X dX7_list_23 rfl hQ rfl
/-! LinenTunnel.count -/
def fX7_count (σ : mm_M) (p1 : Int32) : Int32 := (if p1 = 0 then (σ 1 0) else (if p1 = 1 then (σ 2 0) else (if p1 = 2 then (σ 3 1) else (if p1 = 3 then (σ 5 2) else (if p1 = 4 then (σ 5 3) else (if p1 = 5 then (σ 5 4) else (if p1 = 6 then (σ 0 6) else (if p1 = 7 then (σ 5 5) else (-2 : Int32)))))))))
abbrev rX7_count : Room := { frames := 0, cells := 0, slots := 0, locals := 0 }
theorem hyX7_count : yX7_count.cls = RX7 ∧ yX7_count.cls ≠ "java/lang/invoke/MethodHandle" ∧ yX7_count.cls ≠ "java/lang/invoke/VarHandle" ∧ (parseMethodDescriptor yX7_count.desc).map (fun d => d.parameters.length) = some 1 := by decide +kernel
theorem kX7_count_1 : (Cond.fieldLink RX7 12 "LinenTunnel" "kinds" "LLinenTunnel$Kinds;" : Cond) ∈ wsX7_count := List.mem_of_getElem? (i := 1) rfl
theorem uX7_count_7 : ∀ w ∈ u_ws RX7 TX7 7, w ∈ wsX7_count := fun _ h => (List.mem_cons_of_mem _ (List.mem_append_left _ (List.mem_append_left _ (List.mem_append_left _ (List.mem_append_left _ (List.mem_append_right _ h))))))
theorem uX7_count_1 : ∀ w ∈ u_ws RX1 TX1 6, w ∈ wsX7_count := fun _ h => (List.mem_cons_of_mem _ (List.mem_append_left _ (List.mem_append_left _ (List.mem_append_left _ (List.mem_append_right _ h)))))
theorem kX7_count_2 : (Cond.fieldLink RX7 19 "LinenTunnel" "linen" "LLinenTunnel$Linen;" : Cond) ∈ wsX7_count := List.mem_of_getElem? (i := 2) rfl
theorem uX7_count_2 : ∀ w ∈ u_ws RX2 TX2 7, w ∈ wsX7_count := fun _ h => (List.mem_cons_of_mem _ (List.mem_append_left _ (List.mem_append_left _ (List.mem_append_right _ h))))
theorem kX7_count_3 : (Cond.fieldLink RX7 28 "LinenTunnel" "waiting" "LLinenTunnel$Waiting;" : Cond) ∈ wsX7_count := List.mem_of_getElem? (i := 3) rfl
theorem uX7_count_6 : ∀ w ∈ u_ws RX6 TX6 5, w ∈ wsX7_count := fun _ h => (List.mem_cons_of_mem _ (List.mem_append_left _ (List.mem_append_right _ h)))
theorem kX7_count_4 : (Cond.fieldLink RX7 46 "LinenTunnel" "house" "LLinenTunnel$House;" : Cond) ∈ wsX7_count := List.mem_of_getElem? (i := 4) rfl
theorem uX7_count_0 : ∀ w ∈ u_ws RX0 TX0 16, w ∈ wsX7_count := fun _ h => (List.mem_cons_of_mem _ (List.mem_append_right _ h))
theorem kX7_count_5 : (Cond.fieldLink RX7 57 "LinenTunnel" "latestFinding" "I" : Cond) ∈ wsX7_count := List.mem_of_getElem? (i := 5) rfl
set_option maxRecDepth 100000 in
set_option maxHeartbeats 4000000 in
theorem mX7_count {l : Launch} {D : va_G} {cI : ClassId} {a : Nat → Nat} (hJ : mm_J 59 a) {σ : mm_M} {p1 : Int32} {res : Int32} (h : fX7_count σ p1 = res) (sz : Nat) : Met l yX7_count wsX7_count rX7_count (dP D cI a σ [.ref (a 0), .int p1] sz) (dQi D cI a res σ sz) 0 0 (mm_A 59 a sz) := by
  refine mm_met (fun sz => dQi D cI a res σ sz) (lv := [(0, .ref (a 0)), (1, .int p1)]) (ret := (some .int)) (cc := cX7_count) (maxL := 2) (own := RX7) hJ (by decide +kernel) rfl rfl (Nat.le_of_ble_eq_true rfl) rfl ?_ sz
  intro K hL X hQ
  unfold fX7_count at h
  refine mm_iload_n X dX7_count_0 1 rfl ?_
  by_cases c1 : p1 = 0
  · have h := (if_pos c1).symm.trans h
    refine mm_swIn X dX7_count_1 0 (by rw [c1]; decide) (by decide) (tgt := 48) (by rfl) (by decide) ?_
    refine mm_aload_n X dX7_count_48 0 rfl ?_
    refine mm_get X dX7_count_49 0 0 (by decide) dv_cf_0 rfl (by decide) uX7_count_7 kX7_count_1 rfl (v := .ref (a 1)) rfl ?_
    refine mm_getN X dX7_count_52 1 0 (by decide) dv_cf_1 rfl (by decide) uX7_count_1 (List.mem_of_getElem? (i := 0) rfl) rfl (v := .int (σ 1 0)) rfl ?_
    subst h
    exact mm_iret X dX7_count_55 rfl hQ rfl
  have h := (if_neg c1).symm.trans h
  by_cases c2 : p1 = 1
  · have h := (if_pos c2).symm.trans h
    refine mm_swIn X dX7_count_1 1 (by rw [c2]; decide) (by decide) (tgt := 56) (by rfl) (by decide) ?_
    refine mm_aload_n X dX7_count_56 0 rfl ?_
    refine mm_get X dX7_count_57 0 1 (by decide) dv_cf_0 rfl (by decide) uX7_count_7 kX7_count_2 rfl (v := .ref (a 2)) rfl ?_
    refine mm_getN X dX7_count_60 2 0 (by decide) dv_cf_2 rfl (by decide) uX7_count_2 (List.mem_of_getElem? (i := 4) rfl) rfl (v := .int (σ 2 0)) rfl ?_
    subst h
    exact mm_iret X dX7_count_63 rfl hQ rfl
  have h := (if_neg c2).symm.trans h
  by_cases c3 : p1 = 2
  · have h := (if_pos c3).symm.trans h
    refine mm_swIn X dX7_count_1 2 (by rw [c3]; decide) (by decide) (tgt := 64) (by rfl) (by decide) ?_
    refine mm_aload_n X dX7_count_64 0 rfl ?_
    refine mm_get X dX7_count_65 0 2 (by decide) dv_cf_0 rfl (by decide) uX7_count_7 kX7_count_3 rfl (v := .ref (a 3)) rfl ?_
    refine mm_getN X dX7_count_68 3 1 (by decide) dv_cf_3 rfl (by decide) uX7_count_6 (List.mem_of_getElem? (i := 13) rfl) rfl (v := .int (σ 3 1)) rfl ?_
    subst h
    exact mm_iret X dX7_count_71 rfl hQ rfl
  have h := (if_neg c3).symm.trans h
  by_cases c4 : p1 = 3
  · have h := (if_pos c4).symm.trans h
    refine mm_swIn X dX7_count_1 3 (by rw [c4]; decide) (by decide) (tgt := 72) (by rfl) (by decide) ?_
    refine mm_aload_n X dX7_count_72 0 rfl ?_
    refine mm_get X dX7_count_73 0 4 (by decide) dv_cf_0 rfl (by decide) uX7_count_7 kX7_count_4 rfl (v := .ref (a 5)) rfl ?_
    refine mm_getN X dX7_count_76 5 2 (by decide) dv_cf_5 rfl (by decide) uX7_count_0 (List.mem_of_getElem? (i := 21) rfl) rfl (v := .int (σ 5 2)) rfl ?_
    subst h
    exact mm_iret X dX7_count_79 rfl hQ rfl
  have h := (if_neg c4).symm.trans h
  by_cases c5 : p1 = 4
  · have h := (if_pos c5).symm.trans h
    refine mm_swIn X dX7_count_1 4 (by rw [c5]; decide) (by decide) (tgt := 80) (by rfl) (by decide) ?_
    refine mm_aload_n X dX7_count_80 0 rfl ?_
    refine mm_get X dX7_count_81 0 4 (by decide) dv_cf_0 rfl (by decide) uX7_count_7 kX7_count_4 rfl (v := .ref (a 5)) rfl ?_
    refine mm_getN X dX7_count_84 5 3 (by decide) dv_cf_5 rfl (by decide) uX7_count_0 (List.mem_of_getElem? (i := 22) rfl) rfl (v := .int (σ 5 3)) rfl ?_
    subst h
    exact mm_iret X dX7_count_87 rfl hQ rfl
  have h := (if_neg c5).symm.trans h
  by_cases c6 : p1 = 5
  · have h := (if_pos c6).symm.trans h
    refine mm_swIn X dX7_count_1 5 (by rw [c6]; decide) (by decide) (tgt := 88) (by rfl) (by decide) ?_
    refine mm_aload_n X dX7_count_88 0 rfl ?_
    refine mm_get X dX7_count_89 0 4 (by decide) dv_cf_0 rfl (by decide) uX7_count_7 kX7_count_4 rfl (v := .ref (a 5)) rfl ?_
    refine mm_getN X dX7_count_92 5 4 (by decide) dv_cf_5 rfl (by decide) uX7_count_0 (List.mem_of_getElem? (i := 23) rfl) rfl (v := .int (σ 5 4)) rfl ?_
    subst h
    exact mm_iret X dX7_count_95 rfl hQ rfl
  have h := (if_neg c6).symm.trans h
  by_cases c7 : p1 = 6
  · have h := (if_pos c7).symm.trans h
    refine mm_swIn X dX7_count_1 6 (by rw [c7]; decide) (by decide) (tgt := 96) (by rfl) (by decide) ?_
    refine mm_aload_n X dX7_count_96 0 rfl ?_
    refine mm_get X dX7_count_97 0 6 (by decide) dv_cf_0 rfl (by decide) uX7_count_7 kX7_count_5 rfl (v := .int (σ 0 6)) rfl ?_
    subst h
    exact mm_iret X dX7_count_100 rfl hQ rfl
  have h := (if_neg c7).symm.trans h
  by_cases c8 : p1 = 7
  · have h := (if_pos c8).symm.trans h
    refine mm_swIn X dX7_count_1 7 (by rw [c8]; decide) (by decide) (tgt := 101) (by rfl) (by decide) ?_
    refine mm_aload_n X dX7_count_101 0 rfl ?_
    refine mm_get X dX7_count_102 0 4 (by decide) dv_cf_0 rfl (by decide) uX7_count_7 kX7_count_4 rfl (v := .ref (a 5)) rfl ?_
    refine mm_getN X dX7_count_105 5 5 (by decide) dv_cf_5 rfl (by decide) uX7_count_0 (List.mem_of_getElem? (i := 24) rfl) rfl (v := .int (σ 5 5)) rfl ?_
    subst h
    exact mm_iret X dX7_count_108 rfl hQ rfl
  have h := (if_neg c8).symm.trans h
  have zc1 : ¬ (p1).toInt = (0 : Int) := lv_neT c1 (by decide)
  have zc2 : ¬ (p1).toInt = (1 : Int) := lv_neT c2 (by decide)
  have zc3 : ¬ (p1).toInt = (2 : Int) := lv_neT c3 (by decide)
  have zc4 : ¬ (p1).toInt = (3 : Int) := lv_neT c4 (by decide)
  have zc5 : ¬ (p1).toInt = (4 : Int) := lv_neT c5 (by decide)
  have zc6 : ¬ (p1).toInt = (5 : Int) := lv_neT c6 (by decide)
  have zc7 : ¬ (p1).toInt = (6 : Int) := lv_neT c7 (by decide)
  have zc8 : ¬ (p1).toInt = (7 : Int) := lv_neT c8 (by decide)
  refine mm_swOut X dX7_count_1 (by omega) (tgt := 109) (by decide) ?_
  refine mm_bipush X dX7_count_109 (v := -2) (by decide) ?_
  subst h
  exact mm_iret X dX7_count_111 rfl hQ rfl
