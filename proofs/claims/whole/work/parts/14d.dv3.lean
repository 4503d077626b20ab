/-! LinenTunnel$Waiting.gapOf -/
def fX6_gapOf (σ : mm_M) (p1 p2 : Int32) : Int32 := (fX1_gap σ (dr_rd σ 18 p1) (dr_rd σ 18 p2))
abbrev rX6_gapOf : Room := { frames := 2, cells := 0, slots := 0, locals := 44 }
theorem hyX6_gapOf : yX6_gapOf.cls = RX6 ∧ yX6_gapOf.cls ≠ "java/lang/invoke/MethodHandle" ∧ yX6_gapOf.cls ≠ "java/lang/invoke/VarHandle" ∧ (parseMethodDescriptor yX6_gapOf.desc).map (fun d => d.parameters.length) = some 2 := by decide +kernel
theorem kX6_gapOf_1 : (Cond.fieldLink RX6 30 "LinenTunnel$Waiting" "kinds" "LLinenTunnel$Kinds;" : Cond) ∈ wsX6_gapOf := List.mem_of_getElem? (i := 1) rfl
theorem uX6_gapOf_6 : ∀ w ∈ u_ws RX6 TX6 5, w ∈ wsX6_gapOf := fun _ h => (List.mem_cons_of_mem _ (List.mem_append_left _ (List.mem_append_left _ (List.mem_append_right _ h))))
theorem kX6_gapOf_2 : (Cond.fieldLink RX6 20 "LinenTunnel$Waiting" "kind" "LLinenTunnel$Row;" : Cond) ∈ wsX6_gapOf := List.mem_of_getElem? (i := 2) rfl
set_option maxRecDepth 100000 in
set_option maxHeartbeats 4000000 in
theorem mX6_gapOf {l : Launch} {D : va_G} {cI : ClassId} {a : Nat → Nat} (hJ : mm_J 59 a) {σ : mm_M} {p1 p2 : Int32} {res : Int32} (h : fX6_gapOf σ p1 p2 = res) (sz : Nat) : Met l yX6_gapOf wsX6_gapOf rX6_gapOf (dP D cI a σ [.ref (a 3), .int p1, .int p2] sz) (dQi D cI a res σ sz) 0 0 (mm_A 59 a sz) := by
  refine mm_met (fun sz => dQi D cI a res σ sz) (lv := [(0, .ref (a 3)), (1, .int p1), (2, .int p2)]) (ret := (some .int)) (cc := cX6_gapOf) (maxL := 3) (own := RX6) hJ (by decide +kernel) rfl rfl (Nat.le_of_ble_eq_true rfl) rfl ?_ sz
  intro K hL X hQ
  unfold fX6_gapOf at h
  refine mm_aload_n X dX6_gapOf_0 0 rfl ?_
  refine mm_get X dX6_gapOf_1 3 0 (by decide) dv_cf_3 rfl (by decide) uX6_gapOf_6 kX6_gapOf_1 rfl (v := .ref (a 1)) rfl ?_
  refine mm_aload_n X dX6_gapOf_4 0 rfl ?_
  refine mm_get X dX6_gapOf_5 3 2 (by decide) dv_cf_3 rfl (by decide) uX6_gapOf_6 kX6_gapOf_2 rfl (v := .ref (a 44)) rfl ?_
  refine mm_iload_n X dX6_gapOf_8 1 rfl ?_
  refine mm_callVi X dX6_gapOf_9 (As := [.int p1]) (rest := [.ref (a 1)]) 44 (by decide) (dv_cf_row (j := 18) (by decide)) rfl hL (mX4_read hJ (j := 18) (by decide) (by decide) (res := (dr_rd σ 18 p1)) rfl) gX6_gapOf_X4_read rfl ⟨rfl, rfl⟩ hyX4_read ⟨Nat.le_of_ble_eq_true rfl, Nat.le_of_ble_eq_true rfl⟩ rfl (Nat.le_of_ble_eq_true rfl) ?_
  refine mm_aload_n X dX6_gapOf_12 0 rfl ?_
  refine mm_get X dX6_gapOf_13 3 2 (by decide) dv_cf_3 rfl (by decide) uX6_gapOf_6 kX6_gapOf_2 rfl (v := .ref (a 44)) rfl ?_
  refine mm_iload_n X dX6_gapOf_16 2 rfl ?_
  refine mm_callVi X dX6_gapOf_17 (As := [.int p2]) (rest := [.int (dr_rd σ 18 p1), .ref (a 1)]) 44 (by decide) (dv_cf_row (j := 18) (by decide)) rfl hL (mX4_read hJ (j := 18) (by decide) (by decide) (res := (dr_rd σ 18 p2)) rfl) gX6_gapOf_X4_read rfl ⟨rfl, rfl⟩ hyX4_read ⟨Nat.le_of_ble_eq_true rfl, Nat.le_of_ble_eq_true rfl⟩ rfl (Nat.le_of_ble_eq_true rfl) ?_
  refine mm_callVi X dX6_gapOf_20 (As := [.int (dr_rd σ 18 p1), .int (dr_rd σ 18 p2)]) (rest := []) 1 (by decide) dv_cf_1 rfl hL (mX1_gap hJ (res := fX1_gap σ (dr_rd σ 18 p1) (dr_rd σ 18 p2)) rfl) gX6_gapOf_X1_gap rfl ⟨rfl, rfl⟩ hyX1_gap ⟨Nat.le_of_ble_eq_true rfl, Nat.le_of_ble_eq_true rfl⟩ rfl (Nat.le_of_ble_eq_true rfl) ?_
  subst h
  exact mm_iret X dX6_gapOf_23 rfl hQ rfl
/-! LinenTunnel$Waiting.gapAhead -/
def fX6_gapAhead (σ : mm_M) (p1 : Int32) : Int32 := (if 0 < p1 then (fX6_gapOf σ (dr_rd σ 20 (p1 - (1 : Int32))) (dr_rd σ 20 p1)) else (0 : Int32))
abbrev rX6_gapAhead : Room := { frames := 3, cells := 0, slots := 0, locals := 66 }
theorem hyX6_gapAhead : yX6_gapAhead.cls = RX6 ∧ yX6_gapAhead.cls ≠ "java/lang/invoke/MethodHandle" ∧ yX6_gapAhead.cls ≠ "java/lang/invoke/VarHandle" ∧ (parseMethodDescriptor yX6_gapAhead.desc).map (fun d => d.parameters.length) = some 1 := by decide +kernel
theorem kX6_gapAhead_1 : (Cond.fieldLink RX6 27 "LinenTunnel$Waiting" "order" "LLinenTunnel$Row;" : Cond) ∈ wsX6_gapAhead := List.mem_of_getElem? (i := 1) rfl
theorem uX6_gapAhead_6 : ∀ w ∈ u_ws RX6 TX6 5, w ∈ wsX6_gapAhead := fun _ h => (List.mem_cons_of_mem _ (List.mem_append_left _ (List.mem_append_left _ (List.mem_append_right _ h))))
set_option maxRecDepth 100000 in
set_option maxHeartbeats 4000000 in
theorem mX6_gapAhead {l : Launch} {D : va_G} {cI : ClassId} {a : Nat → Nat} (hJ : mm_J 59 a) {σ : mm_M} {p1 : Int32} {res : Int32} (h : fX6_gapAhead σ p1 = res) (sz : Nat) : Met l yX6_gapAhead wsX6_gapAhead rX6_gapAhead (dP D cI a σ [.ref (a 3), .int p1] sz) (dQi D cI a res σ sz) 0 0 (mm_A 59 a sz) := by
  refine mm_met (fun sz => dQi D cI a res σ sz) (lv := [(0, .ref (a 3)), (1, .int p1)]) (ret := (some .int)) (cc := cX6_gapAhead) (maxL := 2) (own := RX6) hJ (by decide +kernel) rfl rfl (Nat.le_of_ble_eq_true rfl) rfl ?_ sz
  intro K hL X hQ
  unfold fX6_gapAhead at h
  refine mm_iload_n X dX6_gapAhead_0 1 rfl ?_
  refine mm_if_le X dX6_gapAhead_1 (tgt := 29) (by decide) (fun c1 => ?_) (fun c1 => ?_)
  · have h := (if_neg c1).symm.trans h
    refine mm_iconst X dX6_gapAhead_29 (v := 0) (by decide) ?_
    subst h
    exact mm_iret X dX6_gapAhead_30 rfl hQ rfl
  · have h := (if_pos c1).symm.trans h
    refine mm_aload_n X dX6_gapAhead_4 0 rfl ?_
    refine mm_aload_n X dX6_gapAhead_5 0 rfl ?_
    refine mm_get X dX6_gapAhead_6 3 4 (by decide) dv_cf_3 rfl (by decide) uX6_gapAhead_6 kX6_gapAhead_1 rfl (v := .ref (a 46)) rfl ?_
    refine mm_iload_n X dX6_gapAhead_9 1 rfl ?_
    refine mm_iconst X dX6_gapAhead_10 (v := 1) (by decide) ?_
    refine mm_isub X dX6_gapAhead_11 ?_
    refine mm_callVi X dX6_gapAhead_12 (As := [.int (p1 - (1 : Int32))]) (rest := [.ref (a 3)]) 46 (by decide) (dv_cf_row (j := 20) (by decide)) rfl hL (mX4_read hJ (j := 20) (by decide) (by decide) (res := (dr_rd σ 20 (p1 - (1 : Int32)))) rfl) gX6_gapAhead_X4_read rfl ⟨rfl, rfl⟩ hyX4_read ⟨Nat.le_of_ble_eq_true rfl, Nat.le_of_ble_eq_true rfl⟩ rfl (Nat.le_of_ble_eq_true rfl) ?_
    refine mm_aload_n X dX6_gapAhead_15 0 rfl ?_
    refine mm_get X dX6_gapAhead_16 3 4 (by decide) dv_cf_3 rfl (by decide) uX6_gapAhead_6 kX6_gapAhead_1 rfl (v := .ref (a 46)) rfl ?_
    refine mm_iload_n X dX6_gapAhead_19 1 rfl ?_
    refine mm_callVi X dX6_gapAhead_20 (As := [.int p1]) (rest := [.int (dr_rd σ 20 (p1 - (1 : Int32))), .ref (a 3)]) 46 (by decide) (dv_cf_row (j := 20) (by decide)) rfl hL (mX4_read hJ (j := 20) (by decide) (by decide) (res := (dr_rd σ 20 p1)) rfl) gX6_gapAhead_X4_read rfl ⟨rfl, rfl⟩ hyX4_read ⟨Nat.le_of_ble_eq_true rfl, Nat.le_of_ble_eq_true rfl⟩ rfl (Nat.le_of_ble_eq_true rfl) ?_
    refine mm_callVi X dX6_gapAhead_23 (As := [.int (dr_rd σ 20 (p1 - (1 : Int32))), .int (dr_rd σ 20 p1)]) (rest := []) 3 (by decide) dv_cf_3 rfl hL (mX6_gapOf hJ (res := fX6_gapOf σ (dr_rd σ 20 (p1 - (1 : Int32))) (dr_rd σ 20 p1)) rfl) gX6_gapAhead_X6_gapOf rfl ⟨rfl, rfl⟩ hyX6_gapOf ⟨Nat.le_of_ble_eq_true rfl, Nat.le_of_ble_eq_true rfl⟩ rfl (Nat.le_of_ble_eq_true rfl) ?_
    refine mm_goto X dX6_gapAhead_26 (tgt := 30) (by decide) ?_
    subst h
    exact mm_iret X dX6_gapAhead_30 rfl hQ rfl
/-! LinenTunnel$Waiting.gapsInOrder -/
def fX6_gapsInOrder_4 (F : Nat) (σ : mm_M) : Nat → Int32 → Int32 → Option (Int32)
  | 0, _, _ => none
  | k + 1, l1, l2 => (if l2 < (σ 3 1) then fX6_gapsInOrder_4 F σ k (l1 + (fX6_gapAhead σ l2)) (l2 + 1) else some (l1))
def fX6_gapsInOrder (F : Nat) (σ : mm_M) : Option (Int32) := (fX6_gapsInOrder_4 F σ F (0 : Int32) (1 : Int32)).bind fun q1 => some q1
abbrev rX6_gapsInOrder : Room := { frames := 4, cells := 0, slots := 0, locals := 87 }
theorem hyX6_gapsInOrder : yX6_gapsInOrder.cls = RX6 ∧ yX6_gapsInOrder.cls ≠ "java/lang/invoke/MethodHandle" ∧ yX6_gapsInOrder.cls ≠ "java/lang/invoke/VarHandle" ∧ (parseMethodDescriptor yX6_gapsInOrder.desc).map (fun d => d.parameters.length) = some 0 := by decide +kernel
theorem kX6_gapsInOrder_1 : (Cond.fieldLink RX6 9 "LinenTunnel$Waiting" "number" "I" : Cond) ∈ wsX6_gapsInOrder := List.mem_of_getElem? (i := 1) rfl
theorem uX6_gapsInOrder_6 : ∀ w ∈ u_ws RX6 TX6 5, w ∈ wsX6_gapsInOrder := fun _ h => (List.mem_cons_of_mem _ (List.mem_append_left _ (List.mem_append_left _ (List.mem_append_right _ h))))
set_option maxRecDepth 100000 in
set_option maxHeartbeats 4000000 in
theorem tX6_gapsInOrder_4 {l : Launch} {K : mm_K} {D : va_G} {cI : ClassId} {a : Nat → Nat} (X : dC K rX6_gapsInOrder cX6_gapsInOrder 3 (some .int) wsX6_gapsInOrder RX6 D cI a) (hL : mm_L K l) (hJ : mm_J 59 a) {F : Nat} {σ : mm_M} {out : Int32} (hx : dG K D cI a σ 26 [(1, .int out)] []) : ∀ (k : Nat) (l1 : Int32) (l2 : Int32), fX6_gapsInOrder_4 F σ k l1 l2 = some out → dG K D cI a σ 4 [(0, .ref (a 3)), (1, .int l1), (2, .int l2)] [] := by
  intro k
  induction k with
  | zero =>
    intro l1 l2 h
    have h : none = some out := h
    cases h
  | succ k ih =>
    intro l1 l2 h
    rw [fX6_gapsInOrder_4] at h
    refine mm_iload_n X dX6_gapsInOrder_4 2 rfl ?_
    refine mm_aload_n X dX6_gapsInOrder_5 0 rfl ?_
    refine mm_get X dX6_gapsInOrder_6 3 1 (by decide) dv_cf_3 rfl (by decide) uX6_gapsInOrder_6 kX6_gapsInOrder_1 rfl (v := .int (σ 3 1)) rfl ?_
    refine mm_icmp_ge X dX6_gapsInOrder_9 (tgt := 26) (by decide) (fun c1 => ?_) (fun c1 => ?_)
    · have h := (if_neg c1).symm.trans h
      obtain rfl := Option.some.inj h
      refine mm_loc [1] rfl ?_
      exact hx
    · have h := (if_pos c1).symm.trans h
      refine mm_iload_n X dX6_gapsInOrder_12 1 rfl ?_
      refine mm_aload_n X dX6_gapsInOrder_13 0 rfl ?_
      refine mm_iload_n X dX6_gapsInOrder_14 2 rfl ?_
      refine mm_callVi X dX6_gapsInOrder_15 (As := [.int l2]) (rest := [.int l1]) 3 (by decide) dv_cf_3 rfl hL (mX6_gapAhead hJ (res := fX6_gapAhead σ l2) rfl) gX6_gapsInOrder_X6_gapAhead rfl ⟨rfl, rfl⟩ hyX6_gapAhead ⟨Nat.le_of_ble_eq_true rfl, Nat.le_of_ble_eq_true rfl⟩ rfl (Nat.le_of_ble_eq_true rfl) ?_
      refine mm_iadd X dX6_gapsInOrder_18 ?_
      refine mm_istore_n X dX6_gapsInOrder_19 (by decide) (lv2 := [(1, .int (l1 + (fX6_gapAhead σ l2))), (0, .ref (a 3)), (2, .int l2)]) rfl ?_
      refine mm_iinc X dX6_gapsInOrder_20 2 rfl (v := (l2 + 1)) rfl (by decide) (lv2 := [(2, .int (l2 + 1)), (1, .int (l1 + (fX6_gapAhead σ l2))), (0, .ref (a 3))]) rfl ?_
      refine mm_goto X dX6_gapsInOrder_23 (tgt := 4) (by decide) ?_
      refine mm_loc [2, 1, 0] rfl ?_
      exact ih _ _ h
set_option maxRecDepth 100000 in
set_option maxHeartbeats 4000000 in
theorem mX6_gapsInOrder {l : Launch} {D : va_G} {cI : ClassId} {a : Nat → Nat} (hJ : mm_J 59 a) {F : Nat} {σ : mm_M} {res : Int32} (h : fX6_gapsInOrder F σ = some res) (sz : Nat) : Met l yX6_gapsInOrder wsX6_gapsInOrder rX6_gapsInOrder (dP D cI a σ [.ref (a 3)] sz) (dQi D cI a res σ sz) 0 0 (mm_A 59 a sz) := by
  refine mm_met (fun sz => dQi D cI a res σ sz) (lv := [(0, .ref (a 3))]) (ret := (some .int)) (cc := cX6_gapsInOrder) (maxL := 3) (own := RX6) hJ (by decide +kernel) rfl rfl (Nat.le_of_ble_eq_true rfl) rfl ?_ sz
  intro K hL X hQ
  unfold fX6_gapsInOrder at h
  refine mm_iconst X dX6_gapsInOrder_0 (v := 0) (by decide) ?_
  refine mm_istore_n X dX6_gapsInOrder_1 (by decide) (lv2 := [(1, .int (0 : Int32)), (0, .ref (a 3))]) rfl ?_
  refine mm_iconst X dX6_gapsInOrder_2 (v := 1) (by decide) ?_
  refine mm_istore_n X dX6_gapsInOrder_3 (by decide) (lv2 := [(2, .int (1 : Int32)), (1, .int (0 : Int32)), (0, .ref (a 3))]) rfl ?_
  obtain ⟨q1, hq1, h⟩ := Option.bind_eq_some_iff.mp h
  refine mm_loc [2, 1, 0] rfl ?_
  refine tX6_gapsInOrder_4 X hL hJ ?_ F (0 : Int32) (1 : Int32) hq1
  refine mm_iload_n X dX6_gapsInOrder_26 0 rfl ?_
  obtain rfl := Option.some.inj h
  exact mm_iret X dX6_gapsInOrder_27 rfl hQ rfl
/-! LinenTunnel.empties -/
def fX7_empties (F : Nat) (σ : mm_M) : Option (Int32) := (fX6_gapsInOrder F σ).bind fun q1 => some q1
abbrev rX7_empties : Room := { frames := 5, cells := 0, slots := 0, locals := 109 }
theorem hyX7_empties : yX7_empties.cls = RX7 ∧ yX7_empties.cls ≠ "java/lang/invoke/MethodHandle" ∧ yX7_empties.cls ≠ "java/lang/invoke/VarHandle" ∧ (parseMethodDescriptor yX7_empties.desc).map (fun d => d.parameters.length) = some 0 := by decide +kernel
theorem kX7_empties_1 : (Cond.fieldLink RX7 28 "LinenTunnel" "waiting" "LLinenTunnel$Waiting;" : Cond) ∈ wsX7_empties := List.mem_of_getElem? (i := 1) rfl
theorem uX7_empties_7 : ∀ w ∈ u_ws RX7 TX7 7, w ∈ wsX7_empties := fun _ h => (List.mem_cons_of_mem _ (List.mem_append_left _ (List.mem_append_left _ (List.mem_append_left _ (List.mem_append_right _ h)))))
set_option maxRecDepth 100000 in
set_option maxHeartbeats 4000000 in
theorem mX7_empties {l : Launch} {D : va_G} {cI : ClassId} {a : Nat → Nat} (hJ : mm_J 59 a) {F : Nat} {σ : mm_M} {res : Int32} (h : fX7_empties F σ = some res) (sz : Nat) : Met l yX7_empties wsX7_empties rX7_empties (dP D cI a σ [.ref (a 0)] sz) (dQi D cI a res σ sz) 0 0 (mm_A 59 a sz) := by
  refine mm_met (fun sz => dQi D cI a res σ sz) (lv := [(0, .ref (a 0))]) (ret := (some .int)) (cc := cX7_empties) (maxL := 1) (own := RX7) hJ (by decide +kernel) rfl rfl (Nat.le_of_ble_eq_true rfl) rfl ?_ sz
  intro K hL X hQ
  unfold fX7_empties at h
  refine mm_aload_n X dX7_empties_0 0 rfl ?_
  refine mm_get X dX7_empties_1 0 2 (by decide) dv_cf_0 rfl (by decide) uX7_empties_7 kX7_empties_1 rfl (v := .ref (a 3)) rfl ?_
  obtain ⟨q1, hq1, h⟩ := Option.bind_eq_some_iff.mp h
  refine mm_callVi X dX7_empties_4 (As := []) (rest := []) 3 (by decide) dv_cf_3 rfl hL (mX6_gapsInOrder hJ hq1) gX7_empties_X6_gapsInOrder rfl ⟨rfl, rfl⟩ hyX6_gapsInOrder ⟨Nat.le_of_ble_eq_true rfl, Nat.le_of_ble_eq_true rfl⟩ rfl (Nat.le_of_ble_eq_true rfl) ?_
  obtain rfl := Option.some.inj h
  exact mm_iret X dX7_empties_7 rfl hQ rfl
/-! LinenTunnel$Planner.fillGaps -/
def fX3_fillGaps_15 (F : Nat) (l1 : Int32) : Nat → Int32 → mm_M → Option (mm_M)
  | 0, _, _ => none
  | k + 1, l2, σ => (if l2 < (σ 3 1) then fX3_fillGaps_15 F l1 k (l2 + 1) (dr_wr σ 21 ((l1 * (8 : Int32)) + l2) (fX6_gapOf σ l1 l2)) else some (σ))
def fX3_fillGaps_2 (F : Nat) : Nat → Int32 → mm_M → Option (mm_M)
  | 0, _, _ => none
  | k + 1, l1, σ => (if l1 < (σ 3 1) then (fX3_fillGaps_15 F l1 F (0 : Int32) σ).bind fun q2 => fX3_fillGaps_2 F k (l1 + 1) q2 else some (σ))
def fX3_fillGaps (F : Nat) (σ : mm_M) : Option (mm_M) := (fX3_fillGaps_2 F F (0 : Int32) σ).bind fun q1 => some q1
abbrev rX3_fillGaps : Room := { frames := 3, cells := 0, slots := 0, locals := 66 }
theorem hyX3_fillGaps : yX3_fillGaps.cls = RX3 ∧ yX3_fillGaps.cls ≠ "java/lang/invoke/MethodHandle" ∧ yX3_fillGaps.cls ≠ "java/lang/invoke/VarHandle" ∧ (parseMethodDescriptor yX3_fillGaps.desc).map (fun d => d.parameters.length) = some 0 := by decide +kernel
theorem kX3_fillGaps_1 : (Cond.fieldLink RX3 23 "LinenTunnel$Planner" "waiting" "LLinenTunnel$Waiting;" : Cond) ∈ wsX3_fillGaps := List.mem_of_getElem? (i := 1) rfl
theorem uX3_fillGaps_3 : ∀ w ∈ u_ws RX3 TX3 3, w ∈ wsX3_fillGaps := fun _ h => (List.mem_cons_of_mem _ (List.mem_append_left _ (List.mem_append_left _ (List.mem_append_left _ (List.mem_append_right _ h)))))
theorem uX3_fillGaps_6 : ∀ w ∈ u_ws RX6 TX6 5, w ∈ wsX3_fillGaps := fun _ h => (List.mem_cons_of_mem _ (List.mem_append_left _ (List.mem_append_left _ (List.mem_append_right _ h))))
theorem kX3_fillGaps_2 : (Cond.fieldLink RX3 14 "LinenTunnel$Planner" "gaps" "LLinenTunnel$Row;" : Cond) ∈ wsX3_fillGaps := List.mem_of_getElem? (i := 2) rfl
set_option maxRecDepth 100000 in
set_option maxHeartbeats 4000000 in
theorem tX3_fillGaps_15 {l : Launch} {K : mm_K} {D : va_G} {cI : ClassId} {a : Nat → Nat} (X : dC K rX3_fillGaps cX3_fillGaps 3 none wsX3_fillGaps RX3 D cI a) (hL : mm_L K l) (hJ : mm_J 59 a) {F : Nat} {l1 : Int32} {out : mm_M} (hx : dG K D cI a out 54 [(0, .ref (a 4)), (1, .int l1)] []) : ∀ (k : Nat) (l2 : Int32) (σ : mm_M), fX3_fillGaps_15 F l1 k l2 σ = some out → dG K D cI a σ 15 [(0, .ref (a 4)), (1, .int l1), (2, .int l2)] [] := by
  intro k
  induction k with
  | zero =>
    intro l2 σ h
    have h : none = some out := h
    cases h
  | succ k ih =>
    intro l2 σ h
    rw [fX3_fillGaps_15] at h
    refine mm_iload_n X dX3_fillGaps_15 2 rfl ?_
    refine mm_aload_n X dX3_fillGaps_16 0 rfl ?_
    refine mm_get X dX3_fillGaps_17 4 0 (by decide) dv_cf_4 rfl (by decide) uX3_fillGaps_3 kX3_fillGaps_1 rfl (v := .ref (a 3)) rfl ?_
    refine mm_getN X dX3_fillGaps_20 3 1 (by decide) dv_cf_3 rfl (by decide) uX3_fillGaps_6 (List.mem_of_getElem? (i := 11) rfl) rfl (v := .int (σ 3 1)) rfl ?_
    refine mm_icmp_ge X dX3_fillGaps_23 (tgt := 54) (by decide) (fun c1 => ?_) (fun c1 => ?_)
    · have h := (if_neg c1).symm.trans h
      obtain rfl := Option.some.inj h
      refine mm_loc [0, 1] rfl ?_
      exact hx
    · have h := (if_pos c1).symm.trans h
      refine mm_aload_n X dX3_fillGaps_26 0 rfl ?_
      refine mm_get X dX3_fillGaps_27 4 1 (by decide) dv_cf_4 rfl (by decide) uX3_fillGaps_3 kX3_fillGaps_2 rfl (v := .ref (a 47)) rfl ?_
      refine mm_iload_n X dX3_fillGaps_30 1 rfl ?_
      refine mm_bipush X dX3_fillGaps_31 (v := 8) (by decide) ?_
      refine mm_imul X dX3_fillGaps_33 ?_
      refine mm_iload_n X dX3_fillGaps_34 2 rfl ?_
      refine mm_iadd X dX3_fillGaps_35 ?_
      refine mm_aload_n X dX3_fillGaps_36 0 rfl ?_
      refine mm_get X dX3_fillGaps_37 4 0 (by decide) dv_cf_4 rfl (by decide) uX3_fillGaps_3 kX3_fillGaps_1 rfl (v := .ref (a 3)) rfl ?_
      refine mm_iload_n X dX3_fillGaps_40 1 rfl ?_
      refine mm_iload_n X dX3_fillGaps_41 2 rfl ?_
      refine mm_callVi X dX3_fillGaps_42 (As := [.int l1, .int l2]) (rest := [.int ((l1 * (8 : Int32)) + l2), .ref (a 47)]) 3 (by decide) dv_cf_3 rfl hL (mX6_gapOf hJ (res := fX6_gapOf σ l1 l2) rfl) gX3_fillGaps_X6_gapOf rfl ⟨rfl, rfl⟩ hyX6_gapOf ⟨Nat.le_of_ble_eq_true rfl, Nat.le_of_ble_eq_true rfl⟩ rfl (Nat.le_of_ble_eq_true rfl) ?_
      refine mm_callVv X dX3_fillGaps_45 (As := [.int ((l1 * (8 : Int32)) + l2), .int (fX6_gapOf σ l1 l2)]) (rest := []) 47 (by decide) (dv_cf_row (j := 21) (by decide)) rfl hL (mX4_write hJ (j := 21) (by decide) (by decide) (res := dr_wr σ 21 ((l1 * (8 : Int32)) + l2) (fX6_gapOf σ l1 l2)) rfl) gX3_fillGaps_X4_write rfl ⟨rfl, rfl⟩ hyX4_write ⟨Nat.le_of_ble_eq_true rfl, Nat.le_of_ble_eq_true rfl⟩ rfl (Nat.le_of_ble_eq_true rfl) ?_
      refine mm_iinc X dX3_fillGaps_48 2 rfl (v := (l2 + 1)) rfl (by decide) (lv2 := [(2, .int (l2 + 1)), (0, .ref (a 4)), (1, .int l1)]) rfl ?_
      refine mm_goto X dX3_fillGaps_51 (tgt := 15) (by decide) ?_
      refine mm_loc [1, 2, 0] rfl ?_
      exact ih _ _ h
set_option maxRecDepth 100000 in
set_option maxHeartbeats 4000000 in
theorem tX3_fillGaps_2 {l : Launch} {K : mm_K} {D : va_G} {cI : ClassId} {a : Nat → Nat} (X : dC K rX3_fillGaps cX3_fillGaps 3 none wsX3_fillGaps RX3 D cI a) (hL : mm_L K l) (hJ : mm_J 59 a) {F : Nat} {out : mm_M} (hx : dG K D cI a out 60 [] []) : ∀ (k : Nat) (l1 : Int32) (σ : mm_M), fX3_fillGaps_2 F k l1 σ = some out → dG K D cI a σ 2 [(0, .ref (a 4)), (1, .int l1)] [] := by
  intro k
  induction k with
  | zero =>
    intro l1 σ h
    have h : none = some out := h
    cases h
  | succ k ih =>
    intro l1 σ h
    rw [fX3_fillGaps_2] at h
    refine mm_iload_n X dX3_fillGaps_2 1 rfl ?_
    refine mm_aload_n X dX3_fillGaps_3 0 rfl ?_
    refine mm_get X dX3_fillGaps_4 4 0 (by decide) dv_cf_4 rfl (by decide) uX3_fillGaps_3 kX3_fillGaps_1 rfl (v := .ref (a 3)) rfl ?_
    refine mm_getN X dX3_fillGaps_7 3 1 (by decide) dv_cf_3 rfl (by decide) uX3_fillGaps_6 (List.mem_of_getElem? (i := 11) rfl) rfl (v := .int (σ 3 1)) rfl ?_
    refine mm_icmp_ge X dX3_fillGaps_10 (tgt := 60) (by decide) (fun c1 => ?_) (fun c1 => ?_)
    · have h := (if_neg c1).symm.trans h
      obtain rfl := Option.some.inj h
      refine mm_loc [] rfl ?_
      exact hx
    · have h := (if_pos c1).symm.trans h
      refine mm_iconst X dX3_fillGaps_13 (v := 0) (by decide) ?_
      refine mm_istore_n X dX3_fillGaps_14 (by decide) (lv2 := [(2, .int (0 : Int32)), (0, .ref (a 4)), (1, .int l1)]) rfl ?_
      obtain ⟨q2, hq2, h⟩ := Option.bind_eq_some_iff.mp h
      refine mm_loc [1, 2, 0] rfl ?_
      refine tX3_fillGaps_15 X hL hJ ?_ F (0 : Int32) σ hq2
      refine mm_iinc X dX3_fillGaps_54 1 rfl (v := (l1 + 1)) rfl (by decide) (lv2 := [(1, .int (l1 + 1)), (0, .ref (a 4))]) rfl ?_
      refine mm_goto X dX3_fillGaps_57 (tgt := 2) (by decide) ?_
      refine mm_loc [1, 0] rfl ?_
      exact ih _ _ h
set_option maxRecDepth 100000 in
set_option maxHeartbeats 4000000 in
theorem mX3_fillGaps {l : Launch} {D : va_G} {cI : ClassId} {a : Nat → Nat} (hJ : mm_J 59 a) {F : Nat} {σ : mm_M} {res : mm_M} (h : fX3_fillGaps F σ = some res) (sz : Nat) : Met l yX3_fillGaps wsX3_fillGaps rX3_fillGaps (dP D cI a σ [.ref (a 4)] sz) (dQv D cI a res sz) 0 0 (mm_A 59 a sz) := by
  refine mm_met (fun sz => dQv D cI a res sz) (lv := [(0, .ref (a 4))]) (ret := none) (cc := cX3_fillGaps) (maxL := 3) (own := RX3) hJ (by decide +kernel) rfl rfl (Nat.le_of_ble_eq_true rfl) rfl ?_ sz
  intro K hL X hQ
  unfold fX3_fillGaps at h
  refine mm_iconst X dX3_fillGaps_0 (v := 0) (by decide) ?_
  refine mm_istore_n X dX3_fillGaps_1 (by decide) (lv2 := [(1, .int (0 : Int32)), (0, .ref (a 4))]) rfl ?_
  obtain ⟨q1, hq1, h⟩ := Option.bind_eq_some_iff.mp h
  refine mm_loc [1, 0] rfl ?_
  refine tX3_fillGaps_2 X hL hJ ?_ F (0 : Int32) σ hq1
  obtain rfl := Option.some.inj h
  exact mm_vret X dX3_fillGaps_60 rfl hQ
/-! LinenTunnel$Planner.costBehind -/
def fX3_costBehind (σ : mm_M) (p1 p2 p3 : Int32) : Int32 := ((if p2 = (-1 : Int32) then (0 : Int32) else (dr_rd σ 21 ((p2 * (8 : Int32)) + p3))) + (dr_rd σ 22 (((p1 ||| ((1 : Int32) <<< (p3 &&& 31))) * (8 : Int32)) + p3)))
abbrev rX3_costBehind : Room := { frames := 1, cells := 0, slots := 0, locals := 21 }
theorem hyX3_costBehind : yX3_costBehind.cls = RX3 ∧ yX3_costBehind.cls ≠ "java/lang/invoke/MethodHandle" ∧ yX3_costBehind.cls ≠ "java/lang/invoke/VarHandle" ∧ (parseMethodDescriptor yX3_costBehind.desc).map (fun d => d.parameters.length) = some 3 := by decide +kernel
theorem kX3_costBehind_2 : (Cond.fieldLink RX3 20 "LinenTunnel$Planner" "fewest" "LLinenTunnel$Row;" : Cond) ∈ wsX3_costBehind := List.mem_of_getElem? (i := 2) rfl
theorem uX3_costBehind_3 : ∀ w ∈ u_ws RX3 TX3 3, w ∈ wsX3_costBehind := fun _ h => (List.mem_cons_of_mem _ (List.mem_append_left _ (List.mem_append_right _ h)))
theorem kX3_costBehind_1 : (Cond.fieldLink RX3 14 "LinenTunnel$Planner" "gaps" "LLinenTunnel$Row;" : Cond) ∈ wsX3_costBehind := List.mem_of_getElem? (i := 1) rfl
set_option maxRecDepth 100000 in
set_option maxHeartbeats 4000000 in
theorem mX3_costBehind {l : Launch} {D : va_G} {cI : ClassId} {a : Nat → Nat} (hJ : mm_J 59 a) {σ : mm_M} {p1 p2 p3 : Int32} {res : Int32} (h : fX3_costBehind σ p1 p2 p3 = res) (sz : Nat) : Met l yX3_costBehind wsX3_costBehind rX3_costBehind (dP D cI a σ [.ref (a 4), .int p1, .int p2, .int p3] sz) (dQi D cI a res σ sz) 0 0 (mm_A 59 a sz) := by
  refine mm_met (fun sz => dQi D cI a res σ sz) (lv := [(0, .ref (a 4)), (1, .int p1), (2, .int p2), (3, .int p3)]) (ret := (some .int)) (cc := cX3_costBehind) (maxL := 5) (own := RX3) hJ (by decide +kernel) rfl rfl (Nat.le_of_ble_eq_true rfl) rfl ?_ sz
  intro K hL X hQ
  unfold fX3_costBehind at h
  refine mm_iload_n X dX3_costBehind_0 2 rfl ?_
  refine mm_iconst X dX3_costBehind_1 (v := -1) (by decide) ?_
  have J2 : ∀ (v1 : Int32), v1 = (if p2 = (-1 : Int32) then (0 : Int32) else (dr_rd σ 21 ((p2 * (8 : Int32)) + p3))) → dG K D cI a σ 22 [(0, .ref (a 4)), (1, .int p1), (3, .int p3)] [.int v1] := by
    intro v1 ev1
    subst ev1
    refine mm_istore X dX3_costBehind_22 (by decide) (lv2 := [(4, .int (if p2 = (-1 : Int32) then (0 : Int32) else (dr_rd σ 21 ((p2 * (8 : Int32)) + p3)))), (0, .ref (a 4)), (1, .int p1), (3, .int p3)]) rfl ?_
    refine mm_iload X dX3_costBehind_24 0 rfl ?_
    refine mm_aload_n X dX3_costBehind_26 1 rfl ?_
    refine mm_get X dX3_costBehind_27 4 2 (by decide) dv_cf_4 rfl (by decide) uX3_costBehind_3 kX3_costBehind_2 rfl (v := .ref (a 48)) rfl ?_
    refine mm_iload_n X dX3_costBehind_30 2 rfl ?_
    refine mm_iconst X dX3_costBehind_31 (v := 1) (by decide) ?_
    refine mm_iload_n X dX3_costBehind_32 3 rfl ?_
    refine mm_ishl X dX3_costBehind_33 ?_
    refine mm_ior X dX3_costBehind_34 ?_
    refine mm_bipush X dX3_costBehind_35 (v := 8) (by decide) ?_
    refine mm_imul X dX3_costBehind_37 ?_
    refine mm_iload_n X dX3_costBehind_38 3 rfl ?_
    refine mm_iadd X dX3_costBehind_39 ?_
    refine mm_callVi X dX3_costBehind_40 (As := [.int (((p1 ||| ((1 : Int32) <<< (p3 &&& 31))) * (8 : Int32)) + p3)]) (rest := [.int (if p2 = (-1 : Int32) then (0 : Int32) else (dr_rd σ 21 ((p2 * (8 : Int32)) + p3)))]) 48 (by decide) (dv_cf_row (j := 22) (by decide)) rfl hL (mX4_read hJ (j := 22) (by decide) (by decide) (res := (dr_rd σ 22 (((p1 ||| ((1 : Int32) <<< (p3 &&& 31))) * (8 : Int32)) + p3))) rfl) gX3_costBehind_X4_read rfl ⟨rfl, rfl⟩ hyX4_read ⟨Nat.le_of_ble_eq_true rfl, Nat.le_of_ble_eq_true rfl⟩ rfl (Nat.le_of_ble_eq_true rfl) ?_
    refine mm_iadd X dX3_costBehind_43 ?_
    subst h
    exact mm_iret X dX3_costBehind_44 rfl hQ rfl
  refine mm_icmp_ne X dX3_costBehind_2 (tgt := 9) (by decide) (fun c3 => ?_) (fun c3 => ?_)
  · refine mm_aload_n X dX3_costBehind_9 0 rfl ?_
    refine mm_get X dX3_costBehind_10 4 1 (by decide) dv_cf_4 rfl (by decide) uX3_costBehind_3 kX3_costBehind_1 rfl (v := .ref (a 47)) rfl ?_
    refine mm_iload_n X dX3_costBehind_13 2 rfl ?_
    refine mm_bipush X dX3_costBehind_14 (v := 8) (by decide) ?_
    refine mm_imul X dX3_costBehind_16 ?_
    refine mm_iload_n X dX3_costBehind_17 3 rfl ?_
    refine mm_iadd X dX3_costBehind_18 ?_
    refine mm_callVi X dX3_costBehind_19 (As := [.int ((p2 * (8 : Int32)) + p3)]) (rest := []) 47 (by decide) (dv_cf_row (j := 21) (by decide)) rfl hL (mX4_read hJ (j := 21) (by decide) (by decide) (res := (dr_rd σ 21 ((p2 * (8 : Int32)) + p3))) rfl) gX3_costBehind_X4_read rfl ⟨rfl, rfl⟩ hyX4_read ⟨Nat.le_of_ble_eq_true rfl, Nat.le_of_ble_eq_true rfl⟩ rfl (Nat.le_of_ble_eq_true rfl) ?_
    refine mm_loc [0, 1, 3] rfl ?_
    exact J2 _ (by rw [if_neg c3])
  · refine mm_iconst X dX3_costBehind_5 (v := 0) (by decide) ?_
    refine mm_goto X dX3_costBehind_6 (tgt := 22) (by decide) ?_
    refine mm_loc [0, 1, 3] rfl ?_
    exact J2 _ (by rw [if_pos c3])
/-! LinenTunnel$Planner.bestBehind -/
def fX3_bestBehind_8 (F : Nat) (σ : mm_M) (l1 : Int32) (l2 : Int32) : Nat → Int32 → Int32 → Int32 → Option (Int32)
  | 0, _, _, _ => none
  | k + 1, l3, l4, l5 => (if l5 < (σ 3 1) then fX3_bestBehind_8 F σ l1 l2 k (if ((l1 >>> (l5 &&& 31)) &&& (1 : Int32)) = 0 then (if l3 = (-1 : Int32) then l5 else (if (fX3_costBehind σ l1 l2 l5) < l4 then l5 else l3)) else l3) (if ((l1 >>> (l5 &&& 31)) &&& (1 : Int32)) = 0 then (if l3 = (-1 : Int32) then (fX3_costBehind σ l1 l2 l5) else (if (fX3_costBehind σ l1 l2 l5) < l4 then (fX3_costBehind σ l1 l2 l5) else l4)) else l4) (l5 + 1) else some (l3))
def fX3_bestBehind (F : Nat) (σ : mm_M) (p1 p2 : Int32) : Option (Int32) := (fX3_bestBehind_8 F σ p1 p2 F (-1 : Int32) (0 : Int32) (0 : Int32)).bind fun q1 => some q1
abbrev rX3_bestBehind : Room := { frames := 2, cells := 0, slots := 0, locals := 45 }
theorem hyX3_bestBehind : yX3_bestBehind.cls = RX3 ∧ yX3_bestBehind.cls ≠ "java/lang/invoke/MethodHandle" ∧ yX3_bestBehind.cls ≠ "java/lang/invoke/VarHandle" ∧ (parseMethodDescriptor yX3_bestBehind.desc).map (fun d => d.parameters.length) = some 2 := by decide +kernel
theorem kX3_bestBehind_1 : (Cond.fieldLink RX3 23 "LinenTunnel$Planner" "waiting" "LLinenTunnel$Waiting;" : Cond) ∈ wsX3_bestBehind := List.mem_of_getElem? (i := 1) rfl
theorem uX3_bestBehind_3 : ∀ w ∈ u_ws RX3 TX3 3, w ∈ wsX3_bestBehind := fun _ h => (List.mem_cons_of_mem _ (List.mem_append_left _ (List.mem_append_left _ (List.mem_append_right _ h))))
theorem uX3_bestBehind_6 : ∀ w ∈ u_ws RX6 TX6 5, w ∈ wsX3_bestBehind := fun _ h => (List.mem_cons_of_mem _ (List.mem_append_left _ (List.mem_append_right _ h)))
set_option maxRecDepth 100000 in
set_option maxHeartbeats 4000000 in
theorem tX3_bestBehind_8 {l : Launch} {K : mm_K} {D : va_G} {cI : ClassId} {a : Nat → Nat} (X : dC K rX3_bestBehind cX3_bestBehind 7 (some .int) wsX3_bestBehind RX3 D cI a) (hL : mm_L K l) (hJ : mm_J 59 a) {F : Nat} {σ : mm_M} {l1 : Int32} {l2 : Int32} {out : Int32} (hx : dG K D cI a σ 64 [(3, .int out)] []) : ∀ (k : Nat) (l3 : Int32) (l4 : Int32) (l5 : Int32), fX3_bestBehind_8 F σ l1 l2 k l3 l4 l5 = some out → dG K D cI a σ 8 [(0, .ref (a 4)), (1, .int l1), (2, .int l2), (3, .int l3), (4, .int l4), (5, .int l5)] [] := by
  intro k
  induction k with
  | zero =>
    intro l3 l4 l5 h
    have h : none = some out := h
    cases h
  | succ k ih =>
    intro l3 l4 l5 h
    rw [fX3_bestBehind_8] at h
    refine mm_iload X dX3_bestBehind_8 5 rfl ?_
    refine mm_aload_n X dX3_bestBehind_10 0 rfl ?_
    refine mm_get X dX3_bestBehind_11 4 0 (by decide) dv_cf_4 rfl (by decide) uX3_bestBehind_3 kX3_bestBehind_1 rfl (v := .ref (a 3)) rfl ?_
    refine mm_getN X dX3_bestBehind_14 3 1 (by decide) dv_cf_3 rfl (by decide) uX3_bestBehind_6 (List.mem_of_getElem? (i := 11) rfl) rfl (v := .int (σ 3 1)) rfl ?_
    refine mm_icmp_ge X dX3_bestBehind_17 (tgt := 64) (by decide) (fun c1 => ?_) (fun c1 => ?_)
    · have h := (if_neg c1).symm.trans h
      obtain rfl := Option.some.inj h
      refine mm_loc [3] rfl ?_
      exact hx
    · have h := (if_pos c1).symm.trans h
      refine mm_iload_n X dX3_bestBehind_20 1 rfl ?_
      refine mm_iload X dX3_bestBehind_21 5 rfl ?_
      refine mm_ishr X dX3_bestBehind_23 ?_
      refine mm_iconst X dX3_bestBehind_24 (v := 1) (by decide) ?_
      refine mm_iand X dX3_bestBehind_25 ?_
      have J4 : ∀ (v2 : Int32) (v3 : Int32), v2 = (if ((l1 >>> (l5 &&& 31)) &&& (1 : Int32)) = 0 then (if l3 = (-1 : Int32) then l5 else (if (fX3_costBehind σ l1 l2 l5) < l4 then l5 else l3)) else l3) → v3 = (if ((l1 >>> (l5 &&& 31)) &&& (1 : Int32)) = 0 then (if l3 = (-1 : Int32) then (fX3_costBehind σ l1 l2 l5) else (if (fX3_costBehind σ l1 l2 l5) < l4 then (fX3_costBehind σ l1 l2 l5) else l4)) else l4) → dG K D cI a σ 58 [(0, .ref (a 4)), (1, .int l1), (2, .int l2), (3, .int v2), (4, .int v3), (5, .int l5)] [] := by
        intro v2 v3 ev2 ev3
        subst ev2
        subst ev3
        refine mm_iinc X dX3_bestBehind_58 5 rfl (v := (l5 + 1)) rfl (by decide) (lv2 := [(5, .int (l5 + 1)), (0, .ref (a 4)), (1, .int l1), (2, .int l2), (3, .int (if ((l1 >>> (l5 &&& 31)) &&& (1 : Int32)) = 0 then (if l3 = (-1 : Int32) then l5 else (if (fX3_costBehind σ l1 l2 l5) < l4 then l5 else l3)) else l3)), (4, .int (if ((l1 >>> (l5 &&& 31)) &&& (1 : Int32)) = 0 then (if l3 = (-1 : Int32) then (fX3_costBehind σ l1 l2 l5) else (if (fX3_costBehind σ l1 l2 l5) < l4 then (fX3_costBehind σ l1 l2 l5) else l4)) else l4))]) rfl ?_
        refine mm_goto X dX3_bestBehind_61 (tgt := 8) (by decide) ?_
        refine mm_loc [1, 2, 3, 4, 5, 0] rfl ?_
        exact ih _ _ _ h
      refine mm_if_ne X dX3_bestBehind_26 (tgt := 58) (by decide) (fun c5 => ?_) (fun c5 => ?_)
      · exact J4 _ _ (by rw [if_neg c5]) (by rw [if_neg c5])
      · refine mm_aload_n X dX3_bestBehind_29 0 rfl ?_
        refine mm_iload_n X dX3_bestBehind_30 1 rfl ?_
        refine mm_iload_n X dX3_bestBehind_31 2 rfl ?_
        refine mm_iload X dX3_bestBehind_32 5 rfl ?_
        refine mm_callVi X dX3_bestBehind_34 (As := [.int l1, .int l2, .int l5]) (rest := []) 4 (by decide) dv_cf_4 rfl hL (mX3_costBehind hJ (res := fX3_costBehind σ l1 l2 l5) rfl) gX3_bestBehind_X3_costBehind rfl ⟨rfl, rfl⟩ hyX3_costBehind ⟨Nat.le_of_ble_eq_true rfl, Nat.le_of_ble_eq_true rfl⟩ rfl (Nat.le_of_ble_eq_true rfl) ?_
        refine mm_istore X dX3_bestBehind_37 (by decide) (lv2 := [(6, .int (fX3_costBehind σ l1 l2 l5)), (0, .ref (a 4)), (1, .int l1), (2, .int l2), (3, .int l3), (4, .int l4), (5, .int l5)]) rfl ?_
        refine mm_iload_n X dX3_bestBehind_39 4 rfl ?_
        refine mm_iconst X dX3_bestBehind_40 (v := -1) (by decide) ?_
        refine mm_icmp_eq X dX3_bestBehind_41 (tgt := 51) (by decide) (fun c6 => ?_) (fun c6 => ?_)
        · refine mm_iload X dX3_bestBehind_51 6 rfl ?_
          refine mm_istore_n X dX3_bestBehind_53 (by decide) (lv2 := [(3, .int l5), (6, .int (fX3_costBehind σ l1 l2 l5)), (0, .ref (a 4)), (1, .int l1), (2, .int l2), (4, .int l4), (5, .int l5)]) rfl ?_
          refine mm_iload X dX3_bestBehind_54 1 rfl ?_
          refine mm_istore X dX3_bestBehind_56 (by decide) (lv2 := [(4, .int (fX3_costBehind σ l1 l2 l5)), (3, .int l5), (6, .int (fX3_costBehind σ l1 l2 l5)), (0, .ref (a 4)), (1, .int l1), (2, .int l2), (5, .int l5)]) rfl ?_
          refine mm_loc [3, 4, 5, 1, 0, 6] rfl ?_
          exact J4 _ _ (by rw [if_pos c5, if_pos c6]) (by rw [if_pos c5, if_pos c6])
        · refine mm_iload X dX3_bestBehind_44 0 rfl ?_
          refine mm_iload X dX3_bestBehind_46 5 rfl ?_
          refine mm_icmp_ge X dX3_bestBehind_48 (tgt := 58) (by decide) (fun c7 => ?_) (fun c7 => ?_)
          · refine mm_loc [1, 2, 3, 4, 5, 6] rfl ?_
            exact J4 _ _ (by rw [if_pos c5, if_neg c6, if_neg c7]) (by rw [if_pos c5, if_neg c6, if_neg c7])
          · refine mm_iload X dX3_bestBehind_51 6 rfl ?_
            refine mm_istore_n X dX3_bestBehind_53 (by decide) (lv2 := [(3, .int l5), (6, .int (fX3_costBehind σ l1 l2 l5)), (0, .ref (a 4)), (1, .int l1), (2, .int l2), (4, .int l4), (5, .int l5)]) rfl ?_
            refine mm_iload X dX3_bestBehind_54 1 rfl ?_
            refine mm_istore X dX3_bestBehind_56 (by decide) (lv2 := [(4, .int (fX3_costBehind σ l1 l2 l5)), (3, .int l5), (6, .int (fX3_costBehind σ l1 l2 l5)), (0, .ref (a 4)), (1, .int l1), (2, .int l2), (5, .int l5)]) rfl ?_
            refine mm_loc [3, 4, 5, 1, 0, 6] rfl ?_
            exact J4 _ _ (by rw [if_pos c5, if_neg c6, if_pos c7]) (by rw [if_pos c5, if_neg c6, if_pos c7])
set_option maxRecDepth 100000 in
set_option maxHeartbeats 4000000 in
theorem mX3_bestBehind {l : Launch} {D : va_G} {cI : ClassId} {a : Nat → Nat} (hJ : mm_J 59 a) {F : Nat} {σ : mm_M} {p1 p2 : Int32} {res : Int32} (h : fX3_bestBehind F σ p1 p2 = some res) (sz : Nat) : Met l yX3_bestBehind wsX3_bestBehind rX3_bestBehind (dP D cI a σ [.ref (a 4), .int p1, .int p2] sz) (dQi D cI a res σ sz) 0 0 (mm_A 59 a sz) := by
  refine mm_met (fun sz => dQi D cI a res σ sz) (lv := [(0, .ref (a 4)), (1, .int p1), (2, .int p2)]) (ret := (some .int)) (cc := cX3_bestBehind) (maxL := 7) (own := RX3) hJ (by decide +kernel) rfl rfl (Nat.le_of_ble_eq_true rfl) rfl ?_ sz
  intro K hL X hQ
  unfold fX3_bestBehind at h
  refine mm_iconst X dX3_bestBehind_0 (v := -1) (by decide) ?_
  refine mm_istore_n X dX3_bestBehind_1 (by decide) (lv2 := [(3, .int (-1 : Int32)), (0, .ref (a 4)), (1, .int p1), (2, .int p2)]) rfl ?_
  refine mm_iconst X dX3_bestBehind_2 (v := 0) (by decide) ?_
  refine mm_istore X dX3_bestBehind_3 (by decide) (lv2 := [(4, .int (0 : Int32)), (3, .int (-1 : Int32)), (0, .ref (a 4)), (1, .int p1), (2, .int p2)]) rfl ?_
  refine mm_iconst X dX3_bestBehind_5 (v := 0) (by decide) ?_
  refine mm_istore X dX3_bestBehind_6 (by decide) (lv2 := [(5, .int (0 : Int32)), (4, .int (0 : Int32)), (3, .int (-1 : Int32)), (0, .ref (a 4)), (1, .int p1), (2, .int p2)]) rfl ?_
  obtain ⟨q1, hq1, h⟩ := Option.bind_eq_some_iff.mp h
  refine mm_loc [3, 4, 5, 2, 1, 0] rfl ?_
  refine tX3_bestBehind_8 X hL hJ ?_ F (-1 : Int32) (0 : Int32) (0 : Int32) hq1
  refine mm_iload_n X dX3_bestBehind_64 0 rfl ?_
  obtain rfl := Option.some.inj h
  exact mm_iret X dX3_bestBehind_65 rfl hQ rfl
/-! LinenTunnel$Planner.fillFewest -/
def fX3_fillFewest_18 (F : Nat) (l1 : Int32) : Nat → Int32 → mm_M → Option (mm_M)
  | 0, _, _ => none
  | k + 1, l2, σ => (if l2 < (σ 3 1) then ((if ((l1 >>> (l2 &&& 31)) &&& (1 : Int32)) = (1 : Int32) then (fX3_bestBehind F σ l1 l2).bind fun q5 => some ((dr_wr σ 22 ((l1 * (8 : Int32)) + l2) (if q5 = (-1 : Int32) then (0 : Int32) else (fX3_costBehind σ l1 l2 q5)))) else some (σ))).bind fun q2 => fX3_fillFewest_18 F l1 k (l2 + 1) q2 else some (σ))
def fX3_fillFewest_12 (F : Nat) : Nat → Int32 → mm_M → Option (mm_M)
  | 0, _, _ => none
  | k + 1, l1, σ => (if 0 < l1 then (fX3_fillFewest_18 F l1 F (0 : Int32) σ).bind fun q2 => fX3_fillFewest_12 F k (l1 + (-1 : Int32)) q2 else some (σ))
def fX3_fillFewest (F : Nat) (σ : mm_M) : Option (mm_M) := (fX3_fillFewest_12 F F (((1 : Int32) <<< ((σ 3 1) &&& 31)) - (1 : Int32)) σ).bind fun q1 => some q1
abbrev rX3_fillFewest : Room := { frames := 3, cells := 0, slots := 0, locals := 71 }
theorem hyX3_fillFewest : yX3_fillFewest.cls = RX3 ∧ yX3_fillFewest.cls ≠ "java/lang/invoke/MethodHandle" ∧ yX3_fillFewest.cls ≠ "java/lang/invoke/VarHandle" ∧ (parseMethodDescriptor yX3_fillFewest.desc).map (fun d => d.parameters.length) = some 0 := by decide +kernel
theorem kX3_fillFewest_1 : (Cond.fieldLink RX3 23 "LinenTunnel$Planner" "waiting" "LLinenTunnel$Waiting;" : Cond) ∈ wsX3_fillFewest := List.mem_of_getElem? (i := 1) rfl
theorem uX3_fillFewest_3 : ∀ w ∈ u_ws RX3 TX3 3, w ∈ wsX3_fillFewest := fun _ h => (List.mem_cons_of_mem _ (List.mem_append_left _ (List.mem_append_left _ (List.mem_append_right _ h))))
theorem uX3_fillFewest_6 : ∀ w ∈ u_ws RX6 TX6 5, w ∈ wsX3_fillFewest := fun _ h => (List.mem_cons_of_mem _ (List.mem_append_left _ (List.mem_append_right _ h)))
theorem kX3_fillFewest_2 : (Cond.fieldLink RX3 20 "LinenTunnel$Planner" "fewest" "LLinenTunnel$Row;" : Cond) ∈ wsX3_fillFewest := List.mem_of_getElem? (i := 2) rfl
set_option maxRecDepth 100000 in
set_option maxHeartbeats 4000000 in
theorem tX3_fillFewest_18 {l : Launch} {K : mm_K} {D : va_G} {cI : ClassId} {a : Nat → Nat} (X : dC K rX3_fillFewest cX3_fillFewest 5 none wsX3_fillFewest RX3 D cI a) (hL : mm_L K l) (hJ : mm_J 59 a) {F : Nat} {l1 : Int32} {out : mm_M} (hx : dG K D cI a out 84 [(0, .ref (a 4)), (1, .int l1)] []) : ∀ (k : Nat) (l2 : Int32) (σ : mm_M), fX3_fillFewest_18 F l1 k l2 σ = some out → dG K D cI a σ 18 [(0, .ref (a 4)), (1, .int l1), (2, .int l2)] [] := by
  intro k
  induction k with
  | zero =>
    intro l2 σ h
    have h : none = some out := h
    cases h
  | succ k ih =>
    intro l2 σ h
    rw [fX3_fillFewest_18] at h
    refine mm_iload_n X dX3_fillFewest_18 2 rfl ?_
    refine mm_aload_n X dX3_fillFewest_19 0 rfl ?_
    refine mm_get X dX3_fillFewest_20 4 0 (by decide) dv_cf_4 rfl (by decide) uX3_fillFewest_3 kX3_fillFewest_1 rfl (v := .ref (a 3)) rfl ?_
    refine mm_getN X dX3_fillFewest_23 3 1 (by decide) dv_cf_3 rfl (by decide) uX3_fillFewest_6 (List.mem_of_getElem? (i := 11) rfl) rfl (v := .int (σ 3 1)) rfl ?_
    refine mm_icmp_ge X dX3_fillFewest_26 (tgt := 84) (by decide) (fun c1 => ?_) (fun c1 => ?_)
    · have h := (if_neg c1).symm.trans h
      obtain rfl := Option.some.inj h
      refine mm_loc [0, 1] rfl ?_
      exact hx
    · have h := (if_pos c1).symm.trans h
      refine mm_iload_n X dX3_fillFewest_29 1 rfl ?_
      refine mm_iload_n X dX3_fillFewest_30 2 rfl ?_
      refine mm_ishr X dX3_fillFewest_31 ?_
      refine mm_iconst X dX3_fillFewest_32 (v := 1) (by decide) ?_
      refine mm_iand X dX3_fillFewest_33 ?_
      refine mm_iconst X dX3_fillFewest_34 (v := 1) (by decide) ?_
      obtain ⟨q2, hq2, h⟩ := Option.bind_eq_some_iff.mp h
      have J3 : dG K D cI a q2 78 [(0, .ref (a 4)), (1, .int l1), (2, .int l2)] [] := by
        refine mm_iinc X dX3_fillFewest_78 2 rfl (v := (l2 + 1)) rfl (by decide) (lv2 := [(2, .int (l2 + 1)), (0, .ref (a 4)), (1, .int l1)]) rfl ?_
        refine mm_goto X dX3_fillFewest_81 (tgt := 18) (by decide) ?_
        refine mm_loc [1, 2, 0] rfl ?_
        exact ih _ _ h
      have h := hq2
      refine mm_icmp_ne X dX3_fillFewest_35 (tgt := 78) (by decide) (fun c4 => ?_) (fun c4 => ?_)
      · have h := (if_neg c4).symm.trans h
        obtain rfl := Option.some.inj h
        exact J3
      · have h := (if_pos c4).symm.trans h
        refine mm_aload_n X dX3_fillFewest_38 0 rfl ?_
        refine mm_iload_n X dX3_fillFewest_39 1 rfl ?_
        refine mm_iload_n X dX3_fillFewest_40 2 rfl ?_
        obtain ⟨q5, hq5, h⟩ := Option.bind_eq_some_iff.mp h
        refine mm_callVi X dX3_fillFewest_41 (As := [.int l1, .int l2]) (rest := []) 4 (by decide) dv_cf_4 rfl hL (mX3_bestBehind hJ hq5) gX3_fillFewest_X3_bestBehind rfl ⟨rfl, rfl⟩ hyX3_bestBehind ⟨Nat.le_of_ble_eq_true rfl, Nat.le_of_ble_eq_true rfl⟩ rfl (Nat.le_of_ble_eq_true rfl) ?_
        refine mm_istore_n X dX3_fillFewest_44 (by decide) (lv2 := [(3, .int q5), (0, .ref (a 4)), (1, .int l1), (2, .int l2)]) rfl ?_
        refine mm_iload_n X dX3_fillFewest_45 0 rfl ?_
        refine mm_iconst X dX3_fillFewest_46 (v := -1) (by decide) ?_
        have J7 : ∀ (v6 : Int32), v6 = (if q5 = (-1 : Int32) then (0 : Int32) else (fX3_costBehind σ l1 l2 q5)) → dG K D cI a σ 61 [(0, .ref (a 4)), (1, .int l1), (2, .int l2)] [.int v6] := by
          intro v6 ev6
          subst ev6
          refine mm_istore X dX3_fillFewest_61 (by decide) (lv2 := [(4, .int (if q5 = (-1 : Int32) then (0 : Int32) else (fX3_costBehind σ l1 l2 q5))), (0, .ref (a 4)), (1, .int l1), (2, .int l2)]) rfl ?_
          refine mm_aload_n X dX3_fillFewest_63 1 rfl ?_
          refine mm_get X dX3_fillFewest_64 4 2 (by decide) dv_cf_4 rfl (by decide) uX3_fillFewest_3 kX3_fillFewest_2 rfl (v := .ref (a 48)) rfl ?_
          refine mm_iload_n X dX3_fillFewest_67 2 rfl ?_
          refine mm_bipush X dX3_fillFewest_68 (v := 8) (by decide) ?_
          refine mm_imul X dX3_fillFewest_70 ?_
          refine mm_iload_n X dX3_fillFewest_71 3 rfl ?_
          refine mm_iadd X dX3_fillFewest_72 ?_
          refine mm_iload X dX3_fillFewest_73 0 rfl ?_
          refine mm_callVv X dX3_fillFewest_75 (As := [.int ((l1 * (8 : Int32)) + l2), .int (if q5 = (-1 : Int32) then (0 : Int32) else (fX3_costBehind σ l1 l2 q5))]) (rest := []) 48 (by decide) (dv_cf_row (j := 22) (by decide)) rfl hL (mX4_write hJ (j := 22) (by decide) (by decide) (res := dr_wr σ 22 ((l1 * (8 : Int32)) + l2) (if q5 = (-1 : Int32) then (0 : Int32) else (fX3_costBehind σ l1 l2 q5))) rfl) gX3_fillFewest_X4_write rfl ⟨rfl, rfl⟩ hyX4_write ⟨Nat.le_of_ble_eq_true rfl, Nat.le_of_ble_eq_true rfl⟩ rfl (Nat.le_of_ble_eq_true rfl) ?_
          obtain rfl := Option.some.inj h
          refine mm_loc [1, 2, 3] rfl ?_
          exact J3
        refine mm_icmp_ne X dX3_fillFewest_47 (tgt := 54) (by decide) (fun c8 => ?_) (fun c8 => ?_)
        · refine mm_aload_n X dX3_fillFewest_54 1 rfl ?_
          refine mm_iload_n X dX3_fillFewest_55 2 rfl ?_
          refine mm_iload_n X dX3_fillFewest_56 3 rfl ?_
          refine mm_iload_n X dX3_fillFewest_57 0 rfl ?_
          refine mm_callVi X dX3_fillFewest_58 (As := [.int l1, .int l2, .int q5]) (rest := []) 4 (by decide) dv_cf_4 rfl hL (mX3_costBehind hJ (res := fX3_costBehind σ l1 l2 q5) rfl) gX3_fillFewest_X3_costBehind rfl ⟨rfl, rfl⟩ hyX3_costBehind ⟨Nat.le_of_ble_eq_true rfl, Nat.le_of_ble_eq_true rfl⟩ rfl (Nat.le_of_ble_eq_true rfl) ?_
          refine mm_loc [1, 2, 3] rfl ?_
          exact J7 _ (by rw [if_neg c8])
        · refine mm_iconst X dX3_fillFewest_50 (v := 0) (by decide) ?_
          refine mm_goto X dX3_fillFewest_51 (tgt := 61) (by decide) ?_
          refine mm_loc [1, 2, 3] rfl ?_
          exact J7 _ (by rw [if_pos c8])
set_option maxRecDepth 100000 in
set_option maxHeartbeats 4000000 in
theorem tX3_fillFewest_12 {l : Launch} {K : mm_K} {D : va_G} {cI : ClassId} {a : Nat → Nat} (X : dC K rX3_fillFewest cX3_fillFewest 5 none wsX3_fillFewest RX3 D cI a) (hL : mm_L K l) (hJ : mm_J 59 a) {F : Nat} {out : mm_M} (hx : dG K D cI a out 90 [] []) : ∀ (k : Nat) (l1 : Int32) (σ : mm_M), fX3_fillFewest_12 F k l1 σ = some out → dG K D cI a σ 12 [(0, .ref (a 4)), (1, .int l1)] [] := by
  intro k
  induction k with
  | zero =>
    intro l1 σ h
    have h : none = some out := h
    cases h
  | succ k ih =>
    intro l1 σ h
    rw [fX3_fillFewest_12] at h
    refine mm_iload_n X dX3_fillFewest_12 1 rfl ?_
    refine mm_if_le X dX3_fillFewest_13 (tgt := 90) (by decide) (fun c1 => ?_) (fun c1 => ?_)
    · have h := (if_neg c1).symm.trans h
      obtain rfl := Option.some.inj h
      refine mm_loc [] rfl ?_
      exact hx
    · have h := (if_pos c1).symm.trans h
      refine mm_iconst X dX3_fillFewest_16 (v := 0) (by decide) ?_
      refine mm_istore_n X dX3_fillFewest_17 (by decide) (lv2 := [(2, .int (0 : Int32)), (0, .ref (a 4)), (1, .int l1)]) rfl ?_
      obtain ⟨q2, hq2, h⟩ := Option.bind_eq_some_iff.mp h
      refine mm_loc [1, 2, 0] rfl ?_
      refine tX3_fillFewest_18 X hL hJ ?_ F (0 : Int32) σ hq2
      refine mm_iinc X dX3_fillFewest_84 1 rfl (v := (l1 + (-1 : Int32))) rfl (by decide) (lv2 := [(1, .int (l1 + (-1 : Int32))), (0, .ref (a 4))]) rfl ?_
      refine mm_goto X dX3_fillFewest_87 (tgt := 12) (by decide) ?_
      refine mm_loc [1, 0] rfl ?_
      exact ih _ _ h
set_option maxRecDepth 100000 in
set_option maxHeartbeats 4000000 in
theorem mX3_fillFewest {l : Launch} {D : va_G} {cI : ClassId} {a : Nat → Nat} (hJ : mm_J 59 a) {F : Nat} {σ : mm_M} {res : mm_M} (h : fX3_fillFewest F σ = some res) (sz : Nat) : Met l yX3_fillFewest wsX3_fillFewest rX3_fillFewest (dP D cI a σ [.ref (a 4)] sz) (dQv D cI a res sz) 0 0 (mm_A 59 a sz) := by
  refine mm_met (fun sz => dQv D cI a res sz) (lv := [(0, .ref (a 4))]) (ret := none) (cc := cX3_fillFewest) (maxL := 5) (own := RX3) hJ (by decide +kernel) rfl rfl (Nat.le_of_ble_eq_true rfl) rfl ?_ sz
  intro K hL X hQ
  unfold fX3_fillFewest at h
  refine mm_iconst X dX3_fillFewest_0 (v := 1) (by decide) ?_
  refine mm_aload_n X dX3_fillFewest_1 0 rfl ?_
  refine mm_get X dX3_fillFewest_2 4 0 (by decide) dv_cf_4 rfl (by decide) uX3_fillFewest_3 kX3_fillFewest_1 rfl (v := .ref (a 3)) rfl ?_
  refine mm_getN X dX3_fillFewest_5 3 1 (by decide) dv_cf_3 rfl (by decide) uX3_fillFewest_6 (List.mem_of_getElem? (i := 11) rfl) rfl (v := .int (σ 3 1)) rfl ?_
  refine mm_ishl X dX3_fillFewest_8 ?_
  refine mm_iconst X dX3_fillFewest_9 (v := 1) (by decide) ?_
  refine mm_isub X dX3_fillFewest_10 ?_
  refine mm_istore_n X dX3_fillFewest_11 (by decide) (lv2 := [(1, .int (((1 : Int32) <<< ((σ 3 1) &&& 31)) - (1 : Int32))), (0, .ref (a 4))]) rfl ?_
  obtain ⟨q1, hq1, h⟩ := Option.bind_eq_some_iff.mp h
  refine mm_loc [1, 0] rfl ?_
  refine tX3_fillFewest_12 X hL hJ ?_ F (((1 : Int32) <<< ((σ 3 1) &&& 31)) - (1 : Int32)) σ hq1
  obtain rfl := Option.some.inj h
  exact mm_vret X dX3_fillFewest_90 rfl hQ
/-! LinenTunnel$Planner.orderBest -/
def fX3_orderBest_14 (F : Nat) : Nat → Int32 → Int32 → Int32 → mm_M → Option (mm_M)
  | 0, _, _, _, _ => none
  | k + 1, l1, l2, l3, σ => (if l3 < (σ 3 1) then (fX3_bestBehind F σ l1 l2).bind fun q2 => fX3_orderBest_14 F k (l1 ||| ((1 : Int32) <<< (q2 &&& 31))) q2 (l3 + 1) (dr_wr σ 20 l3 q2) else some (σ))
def fX3_orderBest (F : Nat) (σ : mm_M) : Option (mm_M) := (fX3_fillGaps F σ).bind fun q1 => (fX3_fillFewest F q1).bind fun q2 => (fX3_orderBest_14 F F (0 : Int32) (-1 : Int32) (0 : Int32) q2).bind fun q3 => some q3
abbrev rX3_orderBest : Room := { frames := 4, cells := 0, slots := 0, locals := 95 }
theorem hyX3_orderBest : yX3_orderBest.cls = RX3 ∧ yX3_orderBest.cls ≠ "java/lang/invoke/MethodHandle" ∧ yX3_orderBest.cls ≠ "java/lang/invoke/VarHandle" ∧ (parseMethodDescriptor yX3_orderBest.desc).map (fun d => d.parameters.length) = some 0 := by decide +kernel
theorem kX3_orderBest_1 : (Cond.fieldLink RX3 23 "LinenTunnel$Planner" "waiting" "LLinenTunnel$Waiting;" : Cond) ∈ wsX3_orderBest := List.mem_of_getElem? (i := 1) rfl
theorem uX3_orderBest_3 : ∀ w ∈ u_ws RX3 TX3 3, w ∈ wsX3_orderBest := fun _ h => (List.mem_cons_of_mem _ (List.mem_append_left _ (List.mem_append_left _ (List.mem_append_left _ (List.mem_append_right _ h)))))
theorem uX3_orderBest_6 : ∀ w ∈ u_ws RX6 TX6 5, w ∈ wsX3_orderBest := fun _ h => (List.mem_cons_of_mem _ (List.mem_append_left _ (List.mem_append_left _ (List.mem_append_right _ h))))
set_option maxRecDepth 100000 in
set_option maxHeartbeats 4000000 in
theorem tX3_orderBest_14 {l : Launch} {K : mm_K} {D : va_G} {cI : ClassId} {a : Nat → Nat} (X : dC K rX3_orderBest cX3_orderBest 4 none wsX3_orderBest RX3 D cI a) (hL : mm_L K l) (hJ : mm_J 59 a) {F : Nat} {out : mm_M} (hx : dG K D cI a out 56 [] []) : ∀ (k : Nat) (l1 : Int32) (l2 : Int32) (l3 : Int32) (σ : mm_M), fX3_orderBest_14 F k l1 l2 l3 σ = some out → dG K D cI a σ 14 [(0, .ref (a 4)), (1, .int l1), (2, .int l2), (3, .int l3)] [] := by
  intro k
  induction k with
  | zero =>
    intro l1 l2 l3 σ h
    have h : none = some out := h
    cases h
  | succ k ih =>
    intro l1 l2 l3 σ h
    rw [fX3_orderBest_14] at h
    refine mm_iload_n X dX3_orderBest_14 3 rfl ?_
    refine mm_aload_n X dX3_orderBest_15 0 rfl ?_
    refine mm_get X dX3_orderBest_16 4 0 (by decide) dv_cf_4 rfl (by decide) uX3_orderBest_3 kX3_orderBest_1 rfl (v := .ref (a 3)) rfl ?_
    refine mm_getN X dX3_orderBest_19 3 1 (by decide) dv_cf_3 rfl (by decide) uX3_orderBest_6 (List.mem_of_getElem? (i := 11) rfl) rfl (v := .int (σ 3 1)) rfl ?_
    refine mm_icmp_ge X dX3_orderBest_22 (tgt := 56) (by decide) (fun c1 => ?_) (fun c1 => ?_)
    · have h := (if_neg c1).symm.trans h
      obtain rfl := Option.some.inj h
      refine mm_loc [] rfl ?_
      exact hx
    · have h := (if_pos c1).symm.trans h
      refine mm_aload_n X dX3_orderBest_25 0 rfl ?_
      refine mm_iload_n X dX3_orderBest_26 1 rfl ?_
      refine mm_iload_n X dX3_orderBest_27 2 rfl ?_
      obtain ⟨q2, hq2, h⟩ := Option.bind_eq_some_iff.mp h
      refine mm_callVi X dX3_orderBest_28 (As := [.int l1, .int l2]) (rest := []) 4 (by decide) dv_cf_4 rfl hL (mX3_bestBehind hJ hq2) gX3_orderBest_X3_bestBehind rfl ⟨rfl, rfl⟩ hyX3_bestBehind ⟨Nat.le_of_ble_eq_true rfl, Nat.le_of_ble_eq_true rfl⟩ rfl (Nat.le_of_ble_eq_true rfl) ?_
      refine mm_istore_n X dX3_orderBest_31 (by decide) (lv2 := [(2, .int q2), (0, .ref (a 4)), (1, .int l1), (3, .int l3)]) rfl ?_
      refine mm_iload_n X dX3_orderBest_32 2 rfl ?_
      refine mm_iconst X dX3_orderBest_33 (v := 1) (by decide) ?_
      refine mm_iload_n X dX3_orderBest_34 0 rfl ?_
      refine mm_ishl X dX3_orderBest_35 ?_
      refine mm_ior X dX3_orderBest_36 ?_
      refine mm_istore_n X dX3_orderBest_37 (by decide) (lv2 := [(1, .int (l1 ||| ((1 : Int32) <<< (q2 &&& 31)))), (2, .int q2), (0, .ref (a 4)), (3, .int l3)]) rfl ?_
      refine mm_aload_n X dX3_orderBest_38 2 rfl ?_
      refine mm_get X dX3_orderBest_39 4 0 (by decide) dv_cf_4 rfl (by decide) uX3_orderBest_3 kX3_orderBest_1 rfl (v := .ref (a 3)) rfl ?_
      refine mm_getN X dX3_orderBest_42 3 4 (by decide) dv_cf_3 rfl (by decide) uX3_orderBest_6 (List.mem_of_getElem? (i := 18) rfl) rfl (v := .ref (a 46)) rfl ?_
      refine mm_iload_n X dX3_orderBest_45 3 rfl ?_
      refine mm_iload_n X dX3_orderBest_46 1 rfl ?_
      refine mm_callVv X dX3_orderBest_47 (As := [.int l3, .int q2]) (rest := []) 46 (by decide) (dv_cf_row (j := 20) (by decide)) rfl hL (mX4_write hJ (j := 20) (by decide) (by decide) (res := dr_wr σ 20 l3 q2) rfl) gX3_orderBest_X4_write rfl ⟨rfl, rfl⟩ hyX4_write ⟨Nat.le_of_ble_eq_true rfl, Nat.le_of_ble_eq_true rfl⟩ rfl (Nat.le_of_ble_eq_true rfl) ?_
      refine mm_iinc X dX3_orderBest_50 3 rfl (v := (l3 + 1)) rfl (by decide) (lv2 := [(3, .int (l3 + 1)), (1, .int (l1 ||| ((1 : Int32) <<< (q2 &&& 31)))), (2, .int q2), (0, .ref (a 4))]) rfl ?_
      refine mm_goto X dX3_orderBest_53 (tgt := 14) (by decide) ?_
      refine mm_loc [3, 1, 2, 0] rfl ?_
      exact ih _ _ _ _ h
set_option maxRecDepth 100000 in
set_option maxHeartbeats 4000000 in
theorem mX3_orderBest {l : Launch} {D : va_G} {cI : ClassId} {a : Nat → Nat} (hJ : mm_J 59 a) {F : Nat} {σ : mm_M} {res : mm_M} (h : fX3_orderBest F σ = some res) (sz : Nat) : Met l yX3_orderBest wsX3_orderBest rX3_orderBest (dP D cI a σ [.ref (a 4)] sz) (dQv D cI a res sz) 0 0 (mm_A 59 a sz) := by
  refine mm_met (fun sz => dQv D cI a res sz) (lv := [(0, .ref (a 4))]) (ret := none) (cc := cX3_orderBest) (maxL := 4) (own := RX3) hJ (by decide +kernel) rfl rfl (Nat.le_of_ble_eq_true rfl) rfl ?_ sz
  intro K hL X hQ
  unfold fX3_orderBest at h
  refine mm_aload_n X dX3_orderBest_0 0 rfl ?_
  obtain ⟨q1, hq1, h⟩ := Option.bind_eq_some_iff.mp h
  refine mm_callVv X dX3_orderBest_1 (As := []) (rest := []) 4 (by decide) dv_cf_4 rfl hL (mX3_fillGaps hJ hq1) gX3_orderBest_X3_fillGaps rfl ⟨rfl, rfl⟩ hyX3_fillGaps ⟨Nat.le_of_ble_eq_true rfl, Nat.le_of_ble_eq_true rfl⟩ rfl (Nat.le_of_ble_eq_true rfl) ?_
  refine mm_aload_n X dX3_orderBest_4 0 rfl ?_
  obtain ⟨q2, hq2, h⟩ := Option.bind_eq_some_iff.mp h
  refine mm_callVv X dX3_orderBest_5 (As := []) (rest := []) 4 (by decide) dv_cf_4 rfl hL (mX3_fillFewest hJ hq2) gX3_orderBest_X3_fillFewest rfl ⟨rfl, rfl⟩ hyX3_fillFewest ⟨Nat.le_of_ble_eq_true rfl, Nat.le_of_ble_eq_true rfl⟩ rfl (Nat.le_of_ble_eq_true rfl) ?_
  refine mm_iconst X dX3_orderBest_8 (v := 0) (by decide) ?_
  refine mm_istore_n X dX3_orderBest_9 (by decide) (lv2 := [(1, .int (0 : Int32)), (0, .ref (a 4))]) rfl ?_
  refine mm_iconst X dX3_orderBest_10 (v := -1) (by decide) ?_
  refine mm_istore_n X dX3_orderBest_11 (by decide) (lv2 := [(2, .int (-1 : Int32)), (1, .int (0 : Int32)), (0, .ref (a 4))]) rfl ?_
  refine mm_iconst X dX3_orderBest_12 (v := 0) (by decide) ?_
  refine mm_istore_n X dX3_orderBest_13 (by decide) (lv2 := [(3, .int (0 : Int32)), (2, .int (-1 : Int32)), (1, .int (0 : Int32)), (0, .ref (a 4))]) rfl ?_
  obtain ⟨q3, hq3, h⟩ := Option.bind_eq_some_iff.mp h
  refine mm_loc [3, 2, 1, 0] rfl ?_
  refine tX3_orderBest_14 X hL hJ ?_ F (0 : Int32) (-1 : Int32) (0 : Int32) q2 hq3
  obtain rfl := Option.some.inj h
  exact mm_vret X dX3_orderBest_56 rfl hQ
/-! LinenTunnel.plan -/
def fX7_plan (F : Nat) (σ : mm_M) : Option (Int32 × mm_M) := (if (8 : Int32) < (σ 3 1) then some ((-4 : Int32), σ) else (fX3_orderBest F σ).bind fun q2 => (fX6_gapsInOrder F q2).bind fun q3 => some (q3, q2))
abbrev rX7_plan : Room := { frames := 5, cells := 0, slots := 0, locals := 118 }
theorem hyX7_plan : yX7_plan.cls = RX7 ∧ yX7_plan.cls ≠ "java/lang/invoke/MethodHandle" ∧ yX7_plan.cls ≠ "java/lang/invoke/VarHandle" ∧ (parseMethodDescriptor yX7_plan.desc).map (fun d => d.parameters.length) = some 0 := by decide +kernel
theorem kX7_plan_1 : (Cond.fieldLink RX7 28 "LinenTunnel" "waiting" "LLinenTunnel$Waiting;" : Cond) ∈ wsX7_plan := List.mem_of_getElem? (i := 1) rfl
theorem uX7_plan_7 : ∀ w ∈ u_ws RX7 TX7 7, w ∈ wsX7_plan := fun _ h => (List.mem_cons_of_mem _ (List.mem_append_left _ (List.mem_append_left _ (List.mem_append_left _ (List.mem_append_left _ (List.mem_append_right _ h))))))
theorem uX7_plan_6 : ∀ w ∈ u_ws RX6 TX6 5, w ∈ wsX7_plan := fun _ h => (List.mem_cons_of_mem _ (List.mem_append_left _ (List.mem_append_left _ (List.mem_append_left _ (List.mem_append_right _ h)))))
theorem kX7_plan_2 : (Cond.fieldLink RX7 37 "LinenTunnel" "planner" "LLinenTunnel$Planner;" : Cond) ∈ wsX7_plan := List.mem_of_getElem? (i := 2) rfl
set_option maxRecDepth 100000 in
set_option maxHeartbeats 4000000 in
theorem mX7_plan {l : Launch} {D : va_G} {cI : ClassId} {a : Nat → Nat} (hJ : mm_J 59 a) {F : Nat} {σ : mm_M} {res : Int32 × mm_M} (h : fX7_plan F σ = some res) (sz : Nat) : Met l yX7_plan wsX7_plan rX7_plan (dP D cI a σ [.ref (a 0)] sz) (dQi D cI a res.1 res.2 sz) 0 0 (mm_A 59 a sz) := by
  refine mm_met (fun sz => dQi D cI a res.1 res.2 sz) (lv := [(0, .ref (a 0))]) (ret := (some .int)) (cc := cX7_plan) (maxL := 1) (own := RX7) hJ (by decide +kernel) rfl rfl (Nat.le_of_ble_eq_true rfl) rfl ?_ sz
  intro K hL X hQ
  unfold fX7_plan at h
  refine mm_aload_n X dX7_plan_0 0 rfl ?_
  refine mm_get X dX7_plan_1 0 2 (by decide) dv_cf_0 rfl (by decide) uX7_plan_7 kX7_plan_1 rfl (v := .ref (a 3)) rfl ?_
  refine mm_getN X dX7_plan_4 3 1 (by decide) dv_cf_3 rfl (by decide) uX7_plan_6 (List.mem_of_getElem? (i := 13) rfl) rfl (v := .int (σ 3 1)) rfl ?_
  refine mm_bipush X dX7_plan_7 (v := 8) (by decide) ?_
  refine mm_icmp_le X dX7_plan_9 (tgt := 15) (by decide) (fun c1 => ?_) (fun c1 => ?_)
  · have h := (if_neg c1).symm.trans h
    refine mm_aload_n X dX7_plan_15 0 rfl ?_
    refine mm_get X dX7_plan_16 0 3 (by decide) dv_cf_0 rfl (by decide) uX7_plan_7 kX7_plan_2 rfl (v := .ref (a 4)) rfl ?_
    obtain ⟨q2, hq2, h⟩ := Option.bind_eq_some_iff.mp h
    refine mm_callVv X dX7_plan_19 (As := []) (rest := []) 4 (by decide) dv_cf_4 rfl hL (mX3_orderBest hJ hq2) gX7_plan_X3_orderBest rfl ⟨rfl, rfl⟩ hyX3_orderBest ⟨Nat.le_of_ble_eq_true rfl, Nat.le_of_ble_eq_true rfl⟩ rfl (Nat.le_of_ble_eq_true rfl) ?_
    refine mm_aload_n X dX7_plan_22 0 rfl ?_
    refine mm_get X dX7_plan_23 0 2 (by decide) dv_cf_0 rfl (by decide) uX7_plan_7 kX7_plan_1 rfl (v := .ref (a 3)) rfl ?_
    obtain ⟨q3, hq3, h⟩ := Option.bind_eq_some_iff.mp h
    refine mm_callVi X dX7_plan_26 (As := []) (rest := []) 3 (by decide) dv_cf_3 rfl hL (mX6_gapsInOrder hJ hq3) gX7_plan_X6_gapsInOrder rfl ⟨rfl, rfl⟩ hyX6_gapsInOrder ⟨Nat.le_of_ble_eq_true rfl, Nat.le_of_ble_eq_true rfl⟩ rfl (Nat.le_of_ble_eq_true rfl) ?_
    obtain rfl := Option.some.inj h
    exact mm_iret X dX7_plan_29 rfl hQ rfl
  · have h := (if_pos c1).symm.trans h
    refine mm_bipush X dX7_plan_12 (v := -4) (by decide) ?_
    obtain rfl := Option.some.inj h
    exact mm_iret X dX7_plan_14 rfl hQ rfl
/-! LinenTunnel$Waiting.nextOf -/
def fX6_nextOf_5 (F : Nat) (σ : mm_M) (l1 : Int32) (l2 : Int32) : Nat → Int32 → Int32 → Option (Int32)
  | 0, _, _ => none
  | k + 1, l3, l4 => (if l4 < (σ 3 1) then fX6_nextOf_5 F σ l1 l2 k (if (if ((l1 >>> (l4 &&& 31)) &&& (1 : Int32)) = (1 : Int32) then (1 : Int32) else (0 : Int32)) = 0 then l3 else (if l3 = (-1 : Int32) then l4 else (if (fX6_gapOf σ l2 l4) < (fX6_gapOf σ l2 l3) then l4 else l3))) (l4 + 1) else some (l3))
def fX6_nextOf (F : Nat) (σ : mm_M) (p1 p2 : Int32) : Option (Int32) := (fX6_nextOf_5 F σ p1 p2 F (-1 : Int32) (0 : Int32)).bind fun q1 => some q1
abbrev rX6_nextOf : Room := { frames := 3, cells := 0, slots := 0, locals := 66 }
theorem hyX6_nextOf : yX6_nextOf.cls = RX6 ∧ yX6_nextOf.cls ≠ "java/lang/invoke/MethodHandle" ∧ yX6_nextOf.cls ≠ "java/lang/invoke/VarHandle" ∧ (parseMethodDescriptor yX6_nextOf.desc).map (fun d => d.parameters.length) = some 2 := by decide +kernel
theorem kX6_nextOf_1 : (Cond.fieldLink RX6 9 "LinenTunnel$Waiting" "number" "I" : Cond) ∈ wsX6_nextOf := List.mem_of_getElem? (i := 1) rfl
theorem uX6_nextOf_6 : ∀ w ∈ u_ws RX6 TX6 5, w ∈ wsX6_nextOf := fun _ h => (List.mem_cons_of_mem _ (List.mem_append_left _ (List.mem_append_left _ (List.mem_append_right _ h))))
set_option maxRecDepth 100000 in
set_option maxHeartbeats 4000000 in
theorem tX6_nextOf_5 {l : Launch} {K : mm_K} {D : va_G} {cI : ClassId} {a : Nat → Nat} (X : dC K rX6_nextOf cX6_nextOf 6 (some .int) wsX6_nextOf RX6 D cI a) (hL : mm_L K l) (hJ : mm_J 59 a) {F : Nat} {σ : mm_M} {l1 : Int32} {l2 : Int32} {out : Int32} (hx : dG K D cI a σ 66 [(3, .int out)] []) : ∀ (k : Nat) (l3 : Int32) (l4 : Int32), fX6_nextOf_5 F σ l1 l2 k l3 l4 = some out → dG K D cI a σ 5 [(0, .ref (a 3)), (1, .int l1), (2, .int l2), (3, .int l3), (4, .int l4)] [] := by
  intro k
  induction k with
  | zero =>
    intro l3 l4 h
    have h : none = some out := h
    cases h
  | succ k ih =>
    intro l3 l4 h
    rw [fX6_nextOf_5] at h
    refine mm_iload X dX6_nextOf_5 4 rfl ?_
    refine mm_aload_n X dX6_nextOf_7 0 rfl ?_
    refine mm_get X dX6_nextOf_8 3 1 (by decide) dv_cf_3 rfl (by decide) uX6_nextOf_6 kX6_nextOf_1 rfl (v := .int (σ 3 1)) rfl ?_
    refine mm_icmp_ge X dX6_nextOf_11 (tgt := 66) (by decide) (fun c1 => ?_) (fun c1 => ?_)
    · have h := (if_neg c1).symm.trans h
      obtain rfl := Option.some.inj h
      refine mm_loc [3] rfl ?_
      exact hx
    · have h := (if_pos c1).symm.trans h
      refine mm_iload_n X dX6_nextOf_14 1 rfl ?_
      refine mm_iload X dX6_nextOf_15 4 rfl ?_
      refine mm_ishr X dX6_nextOf_17 ?_
      refine mm_iconst X dX6_nextOf_18 (v := 1) (by decide) ?_
      refine mm_iand X dX6_nextOf_19 ?_
      refine mm_iconst X dX6_nextOf_20 (v := 1) (by decide) ?_
      have J8 : ∀ (v2 : Int32), v2 = (if ((l1 >>> (l4 &&& 31)) &&& (1 : Int32)) = (1 : Int32) then (1 : Int32) else (0 : Int32)) → dG K D cI a σ 29 [(0, .ref (a 3)), (1, .int l1), (2, .int l2), (3, .int l3), (4, .int l4)] [.int v2] := by
        intro v2 ev2
        subst ev2
        refine mm_istore X dX6_nextOf_29 (by decide) (lv2 := [(5, .int (if ((l1 >>> (l4 &&& 31)) &&& (1 : Int32)) = (1 : Int32) then (1 : Int32) else (0 : Int32))), (0, .ref (a 3)), (1, .int l1), (2, .int l2), (3, .int l3), (4, .int l4)]) rfl ?_
        refine mm_iload X dX6_nextOf_31 0 rfl ?_
        have J4 : ∀ (v3 : Int32), v3 = (if (if ((l1 >>> (l4 &&& 31)) &&& (1 : Int32)) = (1 : Int32) then (1 : Int32) else (0 : Int32)) = 0 then l3 else (if l3 = (-1 : Int32) then l4 else (if (fX6_gapOf σ l2 l4) < (fX6_gapOf σ l2 l3) then l4 else l3))) → dG K D cI a σ 60 [(0, .ref (a 3)), (1, .int l1), (2, .int l2), (3, .int v3), (4, .int l4)] [] := by
          intro v3 ev3
          subst ev3
          refine mm_iinc X dX6_nextOf_60 4 rfl (v := (l4 + 1)) rfl (by decide) (lv2 := [(4, .int (l4 + 1)), (0, .ref (a 3)), (1, .int l1), (2, .int l2), (3, .int (if (if ((l1 >>> (l4 &&& 31)) &&& (1 : Int32)) = (1 : Int32) then (1 : Int32) else (0 : Int32)) = 0 then l3 else (if l3 = (-1 : Int32) then l4 else (if (fX6_gapOf σ l2 l4) < (fX6_gapOf σ l2 l3) then l4 else l3))))]) rfl ?_
          refine mm_goto X dX6_nextOf_63 (tgt := 5) (by decide) ?_
          refine mm_loc [1, 2, 3, 4, 0] rfl ?_
          exact ih _ _ h
        refine mm_if_eq X dX6_nextOf_33 (tgt := 60) (by decide) (fun c5 => ?_) (fun c5 => ?_)
        · refine mm_loc [1, 2, 3, 4, 5] rfl ?_
          exact J4 _ (by rw [if_pos c5])
        · refine mm_iload_n X dX6_nextOf_36 4 rfl ?_
          refine mm_iconst X dX6_nextOf_37 (v := -1) (by decide) ?_
          refine mm_icmp_eq X dX6_nextOf_38 (tgt := 57) (by decide) (fun c6 => ?_) (fun c6 => ?_)
          · refine mm_iload X dX6_nextOf_57 5 rfl ?_
            refine mm_istore_n X dX6_nextOf_59 (by decide) (lv2 := [(3, .int l4), (5, .int (if ((l1 >>> (l4 &&& 31)) &&& (1 : Int32)) = (1 : Int32) then (1 : Int32) else (0 : Int32))), (0, .ref (a 3)), (1, .int l1), (2, .int l2), (4, .int l4)]) rfl ?_
            refine mm_loc [2, 3, 4, 0, 5] rfl ?_
            exact J4 _ (by rw [if_neg c5, if_pos c6])
          · refine mm_aload_n X dX6_nextOf_41 1 rfl ?_
            refine mm_iload_n X dX6_nextOf_42 3 rfl ?_
            refine mm_iload X dX6_nextOf_43 5 rfl ?_
            refine mm_callVi X dX6_nextOf_45 (As := [.int l2, .int l4]) (rest := []) 3 (by decide) dv_cf_3 rfl hL (mX6_gapOf hJ (res := fX6_gapOf σ l2 l4) rfl) gX6_nextOf_X6_gapOf rfl ⟨rfl, rfl⟩ hyX6_gapOf ⟨Nat.le_of_ble_eq_true rfl, Nat.le_of_ble_eq_true rfl⟩ rfl (Nat.le_of_ble_eq_true rfl) ?_
            refine mm_aload_n X dX6_nextOf_48 1 rfl ?_
            refine mm_iload_n X dX6_nextOf_49 3 rfl ?_
            refine mm_iload_n X dX6_nextOf_50 4 rfl ?_
            refine mm_callVi X dX6_nextOf_51 (As := [.int l2, .int l3]) (rest := [.int (fX6_gapOf σ l2 l4)]) 3 (by decide) dv_cf_3 rfl hL (mX6_gapOf hJ (res := fX6_gapOf σ l2 l3) rfl) gX6_nextOf_X6_gapOf rfl ⟨rfl, rfl⟩ hyX6_gapOf ⟨Nat.le_of_ble_eq_true rfl, Nat.le_of_ble_eq_true rfl⟩ rfl (Nat.le_of_ble_eq_true rfl) ?_
            refine mm_icmp_ge X dX6_nextOf_54 (tgt := 60) (by decide) (fun c7 => ?_) (fun c7 => ?_)
            · refine mm_loc [1, 2, 3, 4, 5] rfl ?_
              exact J4 _ (by rw [if_neg c5, if_neg c6, if_neg c7])
            · refine mm_iload X dX6_nextOf_57 5 rfl ?_
              refine mm_istore_n X dX6_nextOf_59 (by decide) (lv2 := [(3, .int l4), (5, .int (if ((l1 >>> (l4 &&& 31)) &&& (1 : Int32)) = (1 : Int32) then (1 : Int32) else (0 : Int32))), (0, .ref (a 3)), (1, .int l1), (2, .int l2), (4, .int l4)]) rfl ?_
              refine mm_loc [2, 3, 4, 0, 5] rfl ?_
              exact J4 _ (by rw [if_neg c5, if_neg c6, if_pos c7])
      refine mm_icmp_ne X dX6_nextOf_21 (tgt := 28) (by decide) (fun c9 => ?_) (fun c9 => ?_)
      · refine mm_iconst X dX6_nextOf_28 (v := 0) (by decide) ?_
        exact J8 _ (by rw [if_neg c9])
      · refine mm_iconst X dX6_nextOf_24 (v := 1) (by decide) ?_
        refine mm_goto X dX6_nextOf_25 (tgt := 29) (by decide) ?_
        exact J8 _ (by rw [if_pos c9])
set_option maxRecDepth 100000 in
set_option maxHeartbeats 4000000 in
theorem mX6_nextOf {l : Launch} {D : va_G} {cI : ClassId} {a : Nat → Nat} (hJ : mm_J 59 a) {F : Nat} {σ : mm_M} {p1 p2 : Int32} {res : Int32} (h : fX6_nextOf F σ p1 p2 = some res) (sz : Nat) : Met l yX6_nextOf wsX6_nextOf rX6_nextOf (dP D cI a σ [.ref (a 3), .int p1, .int p2] sz) (dQi D cI a res σ sz) 0 0 (mm_A 59 a sz) := by
  refine mm_met (fun sz => dQi D cI a res σ sz) (lv := [(0, .ref (a 3)), (1, .int p1), (2, .int p2)]) (ret := (some .int)) (cc := cX6_nextOf) (maxL := 6) (own := RX6) hJ (by decide +kernel) rfl rfl (Nat.le_of_ble_eq_true rfl) rfl ?_ sz
  intro K hL X hQ
  unfold fX6_nextOf at h
  refine mm_iconst X dX6_nextOf_0 (v := -1) (by decide) ?_
  refine mm_istore_n X dX6_nextOf_1 (by decide) (lv2 := [(3, .int (-1 : Int32)), (0, .ref (a 3)), (1, .int p1), (2, .int p2)]) rfl ?_
  refine mm_iconst X dX6_nextOf_2 (v := 0) (by decide) ?_
  refine mm_istore X dX6_nextOf_3 (by decide) (lv2 := [(4, .int (0 : Int32)), (3, .int (-1 : Int32)), (0, .ref (a 3)), (1, .int p1), (2, .int p2)]) rfl ?_
  obtain ⟨q1, hq1, h⟩ := Option.bind_eq_some_iff.mp h
  refine mm_loc [2, 3, 4, 1, 0] rfl ?_
  refine tX6_nextOf_5 X hL hJ ?_ F (-1 : Int32) (0 : Int32) hq1
  refine mm_iload_n X dX6_nextOf_66 0 rfl ?_
  obtain rfl := Option.some.inj h
  exact mm_iret X dX6_nextOf_67 rfl hQ rfl
