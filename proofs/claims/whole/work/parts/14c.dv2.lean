/-! LinenTunnel.at -/
def fX7_at (σ : mm_M) (p1 : Int32) : Int32 := (if (fX7_isOrderPlace σ p1) = 0 then (-1 : Int32) else (dr_rd σ 20 p1))
abbrev rX7_at : Room := { frames := 2, cells := 0, slots := 0, locals := 43 }
theorem hyX7_at : yX7_at.cls = RX7 ∧ yX7_at.cls ≠ "java/lang/invoke/MethodHandle" ∧ yX7_at.cls ≠ "java/lang/invoke/VarHandle" ∧ (parseMethodDescriptor yX7_at.desc).map (fun d => d.parameters.length) = some 1 := by decide +kernel
theorem kX7_at_1 : (Cond.fieldLink RX7 28 "LinenTunnel" "waiting" "LLinenTunnel$Waiting;" : Cond) ∈ wsX7_at := List.mem_of_getElem? (i := 1) rfl
theorem uX7_at_7 : ∀ w ∈ u_ws RX7 TX7 7, w ∈ wsX7_at := fun _ h => (List.mem_cons_of_mem _ (List.mem_append_left _ (List.mem_append_left _ (List.mem_append_right _ h))))
theorem uX7_at_6 : ∀ w ∈ u_ws RX6 TX6 5, w ∈ wsX7_at := fun _ h => (List.mem_cons_of_mem _ (List.mem_append_left _ (List.mem_append_right _ h)))
set_option maxRecDepth 100000 in
set_option maxHeartbeats 4000000 in
theorem mX7_at {l : Launch} {D : va_G} {cI : ClassId} {a : Nat → Nat} (hJ : mm_J 59 a) {σ : mm_M} {p1 : Int32} {res : Int32} (h : fX7_at σ p1 = res) (sz : Nat) : Met l yX7_at wsX7_at rX7_at (dP D cI a σ [.ref (a 0), .int p1] sz) (dQi D cI a res σ sz) 0 0 (mm_A 59 a sz) := by
  refine mm_met (fun sz => dQi D cI a res σ sz) (lv := [(0, .ref (a 0)), (1, .int p1)]) (ret := (some .int)) (cc := cX7_at) (maxL := 2) (own := RX7) hJ (by decide +kernel) rfl rfl (Nat.le_of_ble_eq_true rfl) rfl ?_ sz
  intro K hL X hQ
  unfold fX7_at at h
  refine mm_aload_n X dX7_at_0 0 rfl ?_
  refine mm_iload_n X dX7_at_1 1 rfl ?_
  refine mm_callVi X dX7_at_2 (As := [.int p1]) (rest := []) 0 (by decide) dv_cf_0 rfl hL (mX7_isOrderPlace hJ (res := fX7_isOrderPlace σ p1) rfl) gX7_at_X7_isOrderPlace rfl ⟨rfl, rfl⟩ hyX7_isOrderPlace ⟨Nat.le_of_ble_eq_true rfl, Nat.le_of_ble_eq_true rfl⟩ rfl (Nat.le_of_ble_eq_true rfl) ?_
  refine mm_if_eq X dX7_at_5 (tgt := 22) (by decide) (fun c1 => ?_) (fun c1 => ?_)
  · have h := (if_pos c1).symm.trans h
    refine mm_iconst X dX7_at_22 (v := -1) (by decide) ?_
    subst h
    exact mm_iret X dX7_at_23 rfl hQ rfl
  · have h := (if_neg c1).symm.trans h
    refine mm_aload_n X dX7_at_8 0 rfl ?_
    refine mm_get X dX7_at_9 0 2 (by decide) dv_cf_0 rfl (by decide) uX7_at_7 kX7_at_1 rfl (v := .ref (a 3)) rfl ?_
    refine mm_getN X dX7_at_12 3 4 (by decide) dv_cf_3 rfl (by decide) uX7_at_6 (List.mem_of_getElem? (i := 20) rfl) rfl (v := .ref (a 46)) rfl ?_
    refine mm_iload_n X dX7_at_15 1 rfl ?_
    refine mm_callVi X dX7_at_16 (As := [.int p1]) (rest := []) 46 (by decide) (dv_cf_row (j := 20) (by decide)) rfl hL (mX4_read hJ (j := 20) (by decide) (by decide) (res := (dr_rd σ 20 p1)) rfl) gX7_at_X4_read rfl ⟨rfl, rfl⟩ hyX4_read ⟨Nat.le_of_ble_eq_true rfl, Nat.le_of_ble_eq_true rfl⟩ rfl (Nat.le_of_ble_eq_true rfl) ?_
    refine mm_goto X dX7_at_19 (tgt := 23) (by decide) ?_
    subst h
    exact mm_iret X dX7_at_23 rfl hQ rfl
/-! LinenTunnel$Linen.pieceOfBatch -/
def fX2_pieceOfBatch_5 (F : Nat) (σ : mm_M) (l1 : Int32) (l2 : Int32) : Nat → Int32 → Int32 → Option (Int32)
  | 0, _, _ => none
  | k + 1, l3, l4 => (if l4 < (σ 2 0) then (if (dr_rd σ 17 l4) = l1 then (if l3 = l2 then some l4 else fX2_pieceOfBatch_5 F σ l1 l2 k (l3 + 1) (l4 + 1)) else fX2_pieceOfBatch_5 F σ l1 l2 k l3 (l4 + 1)) else some (-1 : Int32))
def fX2_pieceOfBatch (F : Nat) (σ : mm_M) (p1 p2 : Int32) : Option (Int32) := fX2_pieceOfBatch_5 F σ p1 p2 F (0 : Int32) (0 : Int32)
abbrev rX2_pieceOfBatch : Room := { frames := 1, cells := 0, slots := 0, locals := 21 }
theorem hyX2_pieceOfBatch : yX2_pieceOfBatch.cls = RX2 ∧ yX2_pieceOfBatch.cls ≠ "java/lang/invoke/MethodHandle" ∧ yX2_pieceOfBatch.cls ≠ "java/lang/invoke/VarHandle" ∧ (parseMethodDescriptor yX2_pieceOfBatch.desc).map (fun d => d.parameters.length) = some 2 := by decide +kernel
theorem kX2_pieceOfBatch_1 : (Cond.fieldLink RX2 9 "LinenTunnel$Linen" "number" "I" : Cond) ∈ wsX2_pieceOfBatch := List.mem_of_getElem? (i := 1) rfl
theorem uX2_pieceOfBatch_2 : ∀ w ∈ u_ws RX2 TX2 7, w ∈ wsX2_pieceOfBatch := fun _ h => (List.mem_cons_of_mem _ (List.mem_append_left _ (List.mem_append_right _ h)))
theorem kX2_pieceOfBatch_2 : (Cond.fieldLink RX2 36 "LinenTunnel$Linen" "batch" "LLinenTunnel$Row;" : Cond) ∈ wsX2_pieceOfBatch := List.mem_of_getElem? (i := 2) rfl
set_option maxRecDepth 100000 in
set_option maxHeartbeats 4000000 in
theorem tX2_pieceOfBatch_5 {l : Launch} {K : mm_K} {D : va_G} {cI : ClassId} {a : Nat → Nat} (X : dC K rX2_pieceOfBatch cX2_pieceOfBatch 5 (some .int) wsX2_pieceOfBatch RX2 D cI a) (hL : mm_L K l) (hJ : mm_J 59 a) {F : Nat} {σ : mm_M} {l1 : Int32} {l2 : Int32} {out : Int32} (hQ : mm_H K 59 a (fun sz => dQi D cI a out σ sz)) : ∀ (k : Nat) (l3 : Int32) (l4 : Int32), fX2_pieceOfBatch_5 F σ l1 l2 k l3 l4 = some out → dG K D cI a σ 5 [(0, .ref (a 2)), (1, .int l1), (2, .int l2), (3, .int l3), (4, .int l4)] [] := by
  intro k
  induction k with
  | zero =>
    intro l3 l4 h
    have h : none = some out := h
    cases h
  | succ k ih =>
    intro l3 l4 h
    rw [fX2_pieceOfBatch_5] at h
    refine mm_iload X dX2_pieceOfBatch_5 4 rfl ?_
    refine mm_aload_n X dX2_pieceOfBatch_7 0 rfl ?_
    refine mm_get X dX2_pieceOfBatch_8 2 0 (by decide) dv_cf_2 rfl (by decide) uX2_pieceOfBatch_2 kX2_pieceOfBatch_1 rfl (v := .int (σ 2 0)) rfl ?_
    refine mm_icmp_ge X dX2_pieceOfBatch_11 (tgt := 44) (by decide) (fun c1 => ?_) (fun c1 => ?_)
    · have h := (if_neg c1).symm.trans h
      refine mm_iconst X dX2_pieceOfBatch_44 (v := -1) (by decide) ?_
      obtain rfl := Option.some.inj h
      exact mm_iret X dX2_pieceOfBatch_45 rfl hQ rfl
    · have h := (if_pos c1).symm.trans h
      refine mm_aload_n X dX2_pieceOfBatch_14 0 rfl ?_
      refine mm_get X dX2_pieceOfBatch_15 2 6 (by decide) dv_cf_2 rfl (by decide) uX2_pieceOfBatch_2 kX2_pieceOfBatch_2 rfl (v := .ref (a 43)) rfl ?_
      refine mm_iload X dX2_pieceOfBatch_18 4 rfl ?_
      refine mm_callVi X dX2_pieceOfBatch_20 (As := [.int l4]) (rest := []) 43 (by decide) (dv_cf_row (j := 17) (by decide)) rfl hL (mX4_read hJ (j := 17) (by decide) (by decide) (res := (dr_rd σ 17 l4)) rfl) gX2_pieceOfBatch_X4_read rfl ⟨rfl, rfl⟩ hyX4_read ⟨Nat.le_of_ble_eq_true rfl, Nat.le_of_ble_eq_true rfl⟩ rfl (Nat.le_of_ble_eq_true rfl) ?_
      refine mm_iload_n X dX2_pieceOfBatch_23 1 rfl ?_
      refine mm_icmp_ne X dX2_pieceOfBatch_24 (tgt := 38) (by decide) (fun c2 => ?_) (fun c2 => ?_)
      · have h := (if_neg c2).symm.trans h
        refine mm_iinc X dX2_pieceOfBatch_38 4 rfl (v := (l4 + 1)) rfl (by decide) (lv2 := [(4, .int (l4 + 1)), (0, .ref (a 2)), (1, .int l1), (2, .int l2), (3, .int l3)]) rfl ?_
        refine mm_goto X dX2_pieceOfBatch_41 (tgt := 5) (by decide) ?_
        refine mm_loc [1, 2, 3, 4, 0] rfl ?_
        exact ih _ _ h
      · have h := (if_pos c2).symm.trans h
        refine mm_iload_n X dX2_pieceOfBatch_27 3 rfl ?_
        refine mm_iload_n X dX2_pieceOfBatch_28 2 rfl ?_
        refine mm_icmp_ne X dX2_pieceOfBatch_29 (tgt := 35) (by decide) (fun c3 => ?_) (fun c3 => ?_)
        · have h := (if_neg c3).symm.trans h
          refine mm_iinc X dX2_pieceOfBatch_35 3 rfl (v := (l3 + 1)) rfl (by decide) (lv2 := [(3, .int (l3 + 1)), (0, .ref (a 2)), (1, .int l1), (2, .int l2), (4, .int l4)]) rfl ?_
          refine mm_iinc X dX2_pieceOfBatch_38 4 rfl (v := (l4 + 1)) rfl (by decide) (lv2 := [(4, .int (l4 + 1)), (3, .int (l3 + 1)), (0, .ref (a 2)), (1, .int l1), (2, .int l2)]) rfl ?_
          refine mm_goto X dX2_pieceOfBatch_41 (tgt := 5) (by decide) ?_
          refine mm_loc [2, 3, 4, 1, 0] rfl ?_
          exact ih _ _ h
        · have h := (if_pos c3).symm.trans h
          refine mm_iload X dX2_pieceOfBatch_32 4 rfl ?_
          obtain rfl := Option.some.inj h
          exact mm_iret X dX2_pieceOfBatch_34 rfl hQ rfl
set_option maxRecDepth 100000 in
set_option maxHeartbeats 4000000 in
theorem mX2_pieceOfBatch {l : Launch} {D : va_G} {cI : ClassId} {a : Nat → Nat} (hJ : mm_J 59 a) {F : Nat} {σ : mm_M} {p1 p2 : Int32} {res : Int32} (h : fX2_pieceOfBatch F σ p1 p2 = some res) (sz : Nat) : Met l yX2_pieceOfBatch wsX2_pieceOfBatch rX2_pieceOfBatch (dP D cI a σ [.ref (a 2), .int p1, .int p2] sz) (dQi D cI a res σ sz) 0 0 (mm_A 59 a sz) := by
  refine mm_met (fun sz => dQi D cI a res σ sz) (lv := [(0, .ref (a 2)), (1, .int p1), (2, .int p2)]) (ret := (some .int)) (cc := cX2_pieceOfBatch) (maxL := 5) (own := RX2) hJ (by decide +kernel) rfl rfl (Nat.le_of_ble_eq_true rfl) rfl ?_ sz
  intro K hL X hQ
  unfold fX2_pieceOfBatch at h
  refine mm_iconst X dX2_pieceOfBatch_0 (v := 0) (by decide) ?_
  refine mm_istore_n X dX2_pieceOfBatch_1 (by decide) (lv2 := [(3, .int (0 : Int32)), (0, .ref (a 2)), (1, .int p1), (2, .int p2)]) rfl ?_
  refine mm_iconst X dX2_pieceOfBatch_2 (v := 0) (by decide) ?_
  refine mm_istore X dX2_pieceOfBatch_3 (by decide) (lv2 := [(4, .int (0 : Int32)), (3, .int (0 : Int32)), (0, .ref (a 2)), (1, .int p1), (2, .int p2)]) rfl ?_
  refine mm_loc [2, 3, 4, 1, 0] rfl ?_
  exact tX2_pieceOfBatch_5 X hL hJ hQ F (0 : Int32) (0 : Int32) h
/-! LinenTunnel$Waiting.placeOf -/
def fX6_placeOf_2 (F : Nat) (σ : mm_M) (l1 : Int32) : Nat → Int32 → Option (Int32)
  | 0, _ => none
  | k + 1, l2 => (if l2 < (σ 3 1) then (if (dr_rd σ 20 l2) = l1 then some l2 else fX6_placeOf_2 F σ l1 k (l2 + 1)) else some (-1 : Int32))
def fX6_placeOf (F : Nat) (σ : mm_M) (p1 : Int32) : Option (Int32) := fX6_placeOf_2 F σ p1 F (0 : Int32)
abbrev rX6_placeOf : Room := { frames := 1, cells := 0, slots := 0, locals := 21 }
theorem hyX6_placeOf : yX6_placeOf.cls = RX6 ∧ yX6_placeOf.cls ≠ "java/lang/invoke/MethodHandle" ∧ yX6_placeOf.cls ≠ "java/lang/invoke/VarHandle" ∧ (parseMethodDescriptor yX6_placeOf.desc).map (fun d => d.parameters.length) = some 1 := by decide +kernel
theorem kX6_placeOf_1 : (Cond.fieldLink RX6 9 "LinenTunnel$Waiting" "number" "I" : Cond) ∈ wsX6_placeOf := List.mem_of_getElem? (i := 1) rfl
theorem uX6_placeOf_6 : ∀ w ∈ u_ws RX6 TX6 5, w ∈ wsX6_placeOf := fun _ h => (List.mem_cons_of_mem _ (List.mem_append_left _ (List.mem_append_right _ h)))
theorem kX6_placeOf_2 : (Cond.fieldLink RX6 27 "LinenTunnel$Waiting" "order" "LLinenTunnel$Row;" : Cond) ∈ wsX6_placeOf := List.mem_of_getElem? (i := 2) rfl
set_option maxRecDepth 100000 in
set_option maxHeartbeats 4000000 in
theorem tX6_placeOf_2 {l : Launch} {K : mm_K} {D : va_G} {cI : ClassId} {a : Nat → Nat} (X : dC K rX6_placeOf cX6_placeOf 3 (some .int) wsX6_placeOf RX6 D cI a) (hL : mm_L K l) (hJ : mm_J 59 a) {F : Nat} {σ : mm_M} {l1 : Int32} {out : Int32} (hQ : mm_H K 59 a (fun sz => dQi D cI a out σ sz)) : ∀ (k : Nat) (l2 : Int32), fX6_placeOf_2 F σ l1 k l2 = some out → dG K D cI a σ 2 [(0, .ref (a 3)), (1, .int l1), (2, .int l2)] [] := by
  intro k
  induction k with
  | zero =>
    intro l2 h
    have h : none = some out := h
    cases h
  | succ k ih =>
    intro l2 h
    rw [fX6_placeOf_2] at h
    refine mm_iload_n X dX6_placeOf_2 2 rfl ?_
    refine mm_aload_n X dX6_placeOf_3 0 rfl ?_
    refine mm_get X dX6_placeOf_4 3 1 (by decide) dv_cf_3 rfl (by decide) uX6_placeOf_6 kX6_placeOf_1 rfl (v := .int (σ 3 1)) rfl ?_
    refine mm_icmp_ge X dX6_placeOf_7 (tgt := 30) (by decide) (fun c1 => ?_) (fun c1 => ?_)
    · have h := (if_neg c1).symm.trans h
      refine mm_iconst X dX6_placeOf_30 (v := -1) (by decide) ?_
      obtain rfl := Option.some.inj h
      exact mm_iret X dX6_placeOf_31 rfl hQ rfl
    · have h := (if_pos c1).symm.trans h
      refine mm_aload_n X dX6_placeOf_10 0 rfl ?_
      refine mm_get X dX6_placeOf_11 3 4 (by decide) dv_cf_3 rfl (by decide) uX6_placeOf_6 kX6_placeOf_2 rfl (v := .ref (a 46)) rfl ?_
      refine mm_iload_n X dX6_placeOf_14 2 rfl ?_
      refine mm_callVi X dX6_placeOf_15 (As := [.int l2]) (rest := []) 46 (by decide) (dv_cf_row (j := 20) (by decide)) rfl hL (mX4_read hJ (j := 20) (by decide) (by decide) (res := (dr_rd σ 20 l2)) rfl) gX6_placeOf_X4_read rfl ⟨rfl, rfl⟩ hyX4_read ⟨Nat.le_of_ble_eq_true rfl, Nat.le_of_ble_eq_true rfl⟩ rfl (Nat.le_of_ble_eq_true rfl) ?_
      refine mm_iload_n X dX6_placeOf_18 1 rfl ?_
      refine mm_icmp_ne X dX6_placeOf_19 (tgt := 24) (by decide) (fun c2 => ?_) (fun c2 => ?_)
      · have h := (if_neg c2).symm.trans h
        refine mm_iinc X dX6_placeOf_24 2 rfl (v := (l2 + 1)) rfl (by decide) (lv2 := [(2, .int (l2 + 1)), (0, .ref (a 3)), (1, .int l1)]) rfl ?_
        refine mm_goto X dX6_placeOf_27 (tgt := 2) (by decide) ?_
        refine mm_loc [1, 2, 0] rfl ?_
        exact ih _ h
      · have h := (if_pos c2).symm.trans h
        refine mm_iload_n X dX6_placeOf_22 2 rfl ?_
        obtain rfl := Option.some.inj h
        exact mm_iret X dX6_placeOf_23 rfl hQ rfl
set_option maxRecDepth 100000 in
set_option maxHeartbeats 4000000 in
theorem mX6_placeOf {l : Launch} {D : va_G} {cI : ClassId} {a : Nat → Nat} (hJ : mm_J 59 a) {F : Nat} {σ : mm_M} {p1 : Int32} {res : Int32} (h : fX6_placeOf F σ p1 = some res) (sz : Nat) : Met l yX6_placeOf wsX6_placeOf rX6_placeOf (dP D cI a σ [.ref (a 3), .int p1] sz) (dQi D cI a res σ sz) 0 0 (mm_A 59 a sz) := by
  refine mm_met (fun sz => dQi D cI a res σ sz) (lv := [(0, .ref (a 3)), (1, .int p1)]) (ret := (some .int)) (cc := cX6_placeOf) (maxL := 3) (own := RX6) hJ (by decide +kernel) rfl rfl (Nat.le_of_ble_eq_true rfl) rfl ?_ sz
  intro K hL X hQ
  unfold fX6_placeOf at h
  refine mm_iconst X dX6_placeOf_0 (v := 0) (by decide) ?_
  refine mm_istore_n X dX6_placeOf_1 (by decide) (lv2 := [(2, .int (0 : Int32)), (0, .ref (a 3)), (1, .int p1)]) rfl ?_
  refine mm_loc [1, 2, 0] rfl ?_
  exact tX6_placeOf_2 X hL hJ hQ F (0 : Int32) h
/-! LinenTunnel.of -/
def fX7_of (F : Nat) (σ : mm_M) (p1 p2 : Int32) : Option (Int32) := (if (fX7_within p1 (0 : Int32) ((σ 3 1) - (1 : Int32))) = 0 then some (-2 : Int32) else (if (fX7_within p2 (10 : Int32) (((10 : Int32) + (dr_rd σ 19 p1)) - (1 : Int32))) = 0 then (if p2 = 0 then some (dr_rd σ 18 p1) else (if p2 = 1 then some (dr_rd σ 19 p1) else (if p2 = 2 then (fX6_placeOf F σ p1).bind fun q6 => some q6 else some (-2 : Int32)))) else (fX2_pieceOfBatch F σ p1 (p2 - (10 : Int32))).bind fun q7 => some q7))
abbrev rX7_of : Room := { frames := 2, cells := 0, slots := 0, locals := 45 }
theorem hyX7_of : yX7_of.cls = RX7 ∧ yX7_of.cls ≠ "java/lang/invoke/MethodHandle" ∧ yX7_of.cls ≠ "java/lang/invoke/VarHandle" ∧ (parseMethodDescriptor yX7_of.desc).map (fun d => d.parameters.length) = some 2 := by decide +kernel
theorem kX7_of_1 : (Cond.fieldLink RX7 28 "LinenTunnel" "waiting" "LLinenTunnel$Waiting;" : Cond) ∈ wsX7_of := List.mem_of_getElem? (i := 1) rfl
theorem uX7_of_7 : ∀ w ∈ u_ws RX7 TX7 7, w ∈ wsX7_of := fun _ h => (List.mem_cons_of_mem _ (List.mem_append_left _ (List.mem_append_left _ (List.mem_append_left _ (List.mem_append_right _ h)))))
theorem uX7_of_6 : ∀ w ∈ u_ws RX6 TX6 5, w ∈ wsX7_of := fun _ h => (List.mem_cons_of_mem _ (List.mem_append_left _ (List.mem_append_left _ (List.mem_append_right _ h))))
theorem kX7_of_2 : (Cond.fieldLink RX7 19 "LinenTunnel" "linen" "LLinenTunnel$Linen;" : Cond) ∈ wsX7_of := List.mem_of_getElem? (i := 2) rfl
set_option maxRecDepth 100000 in
set_option maxHeartbeats 4000000 in
theorem mX7_of {l : Launch} {D : va_G} {cI : ClassId} {a : Nat → Nat} (hJ : mm_J 59 a) {F : Nat} {σ : mm_M} {p1 p2 : Int32} {res : Int32} (h : fX7_of F σ p1 p2 = some res) (sz : Nat) : Met l yX7_of wsX7_of rX7_of (dP D cI a σ [.ref (a 0), .int p1, .int p2] sz) (dQi D cI a res σ sz) 0 0 (mm_A 59 a sz) := by
  refine mm_met (fun sz => dQi D cI a res σ sz) (lv := [(0, .ref (a 0)), (1, .int p1), (2, .int p2)]) (ret := (some .int)) (cc := cX7_of) (maxL := 4) (own := RX7) hJ (by decide +kernel) rfl rfl (Nat.le_of_ble_eq_true rfl) rfl ?_ sz
  intro K hL X hQ
  unfold fX7_of at h
  refine mm_iload_n X dX7_of_0 1 rfl ?_
  refine mm_iconst X dX7_of_1 (v := 0) (by decide) ?_
  refine mm_aload_n X dX7_of_2 0 rfl ?_
  refine mm_get X dX7_of_3 0 2 (by decide) dv_cf_0 rfl (by decide) uX7_of_7 kX7_of_1 rfl (v := .ref (a 3)) rfl ?_
  refine mm_getN X dX7_of_6 3 1 (by decide) dv_cf_3 rfl (by decide) uX7_of_6 (List.mem_of_getElem? (i := 13) rfl) rfl (v := .int (σ 3 1)) rfl ?_
  refine mm_iconst X dX7_of_9 (v := 1) (by decide) ?_
  refine mm_isub X dX7_of_10 ?_
  refine mm_callSi X dX7_of_11 (As := [.int p1, .int (0 : Int32), .int ((σ 3 1) - (1 : Int32))]) (rest := []) hL (mX7_within hJ (res := fX7_within p1 (0 : Int32) ((σ 3 1) - (1 : Int32))) rfl) gX7_of_X7_within rfl ⟨rfl, rfl⟩ hyX7_within ⟨Nat.le_of_ble_eq_true rfl, Nat.le_of_ble_eq_true rfl⟩ rfl (Nat.le_of_ble_eq_true rfl) ?_
  refine mm_if_ne X dX7_of_14 (tgt := 20) (by decide) (fun c1 => ?_) (fun c1 => ?_)
  · have h := (if_neg c1).symm.trans h
    refine mm_aload_n X dX7_of_20 0 rfl ?_
    refine mm_get X dX7_of_21 0 2 (by decide) dv_cf_0 rfl (by decide) uX7_of_7 kX7_of_1 rfl (v := .ref (a 3)) rfl ?_
    refine mm_getN X dX7_of_24 3 3 (by decide) dv_cf_3 rfl (by decide) uX7_of_6 (List.mem_of_getElem? (i := 17) rfl) rfl (v := .ref (a 45)) rfl ?_
    refine mm_iload_n X dX7_of_27 1 rfl ?_
    refine mm_callVi X dX7_of_28 (As := [.int p1]) (rest := []) 45 (by decide) (dv_cf_row (j := 19) (by decide)) rfl hL (mX4_read hJ (j := 19) (by decide) (by decide) (res := (dr_rd σ 19 p1)) rfl) gX7_of_X4_read rfl ⟨rfl, rfl⟩ hyX4_read ⟨Nat.le_of_ble_eq_true rfl, Nat.le_of_ble_eq_true rfl⟩ rfl (Nat.le_of_ble_eq_true rfl) ?_
    refine mm_istore_n X dX7_of_31 (by decide) (lv2 := [(3, .int (dr_rd σ 19 p1)), (0, .ref (a 0)), (1, .int p1), (2, .int p2)]) rfl ?_
    refine mm_iload_n X dX7_of_32 3 rfl ?_
    refine mm_bipush X dX7_of_33 (v := 10) (by decide) ?_
    refine mm_bipush X dX7_of_35 (v := 10) (by decide) ?_
    refine mm_iload_n X dX7_of_37 0 rfl ?_
    refine mm_iadd X dX7_of_38 ?_
    refine mm_iconst X dX7_of_39 (v := 1) (by decide) ?_
    refine mm_isub X dX7_of_40 ?_
    refine mm_callSi X dX7_of_41 (As := [.int p2, .int (10 : Int32), .int (((10 : Int32) + (dr_rd σ 19 p1)) - (1 : Int32))]) (rest := []) hL (mX7_within hJ (res := fX7_within p2 (10 : Int32) (((10 : Int32) + (dr_rd σ 19 p1)) - (1 : Int32))) rfl) gX7_of_X7_within rfl ⟨rfl, rfl⟩ hyX7_within ⟨Nat.le_of_ble_eq_true rfl, Nat.le_of_ble_eq_true rfl⟩ rfl (Nat.le_of_ble_eq_true rfl) ?_
    refine mm_if_eq X dX7_of_44 (tgt := 60) (by decide) (fun c2 => ?_) (fun c2 => ?_)
    · have h := (if_pos c2).symm.trans h
      refine mm_iload_n X dX7_of_60 3 rfl ?_
      by_cases c3 : p2 = 0
      · have h := (if_pos c3).symm.trans h
        refine mm_swIn X dX7_of_61 0 (by rw [c3]; decide) (by decide) (tgt := 88) (by rfl) (by decide) ?_
        refine mm_aload_n X dX7_of_88 1 rfl ?_
        refine mm_get X dX7_of_89 0 2 (by decide) dv_cf_0 rfl (by decide) uX7_of_7 kX7_of_1 rfl (v := .ref (a 3)) rfl ?_
        refine mm_getN X dX7_of_92 3 2 (by decide) dv_cf_3 rfl (by decide) uX7_of_6 (List.mem_of_getElem? (i := 15) rfl) rfl (v := .ref (a 44)) rfl ?_
        refine mm_iload_n X dX7_of_95 2 rfl ?_
        refine mm_callVi X dX7_of_96 (As := [.int p1]) (rest := []) 44 (by decide) (dv_cf_row (j := 18) (by decide)) rfl hL (mX4_read hJ (j := 18) (by decide) (by decide) (res := (dr_rd σ 18 p1)) rfl) gX7_of_X4_read rfl ⟨rfl, rfl⟩ hyX4_read ⟨Nat.le_of_ble_eq_true rfl, Nat.le_of_ble_eq_true rfl⟩ rfl (Nat.le_of_ble_eq_true rfl) ?_
        obtain rfl := Option.some.inj h
        exact mm_iret X dX7_of_99 rfl hQ rfl
      have h := (if_neg c3).symm.trans h
      by_cases c4 : p2 = 1
      · have h := (if_pos c4).symm.trans h
        refine mm_swIn X dX7_of_61 1 (by rw [c4]; decide) (by decide) (tgt := 100) (by rfl) (by decide) ?_
        refine mm_iload_n X dX7_of_100 0 rfl ?_
        obtain rfl := Option.some.inj h
        exact mm_iret X dX7_of_101 rfl hQ rfl
      have h := (if_neg c4).symm.trans h
      by_cases c5 : p2 = 2
      · have h := (if_pos c5).symm.trans h
        refine mm_swIn X dX7_of_61 2 (by rw [c5]; decide) (by decide) (tgt := 102) (by rfl) (by decide) ?_
        refine mm_aload_n X dX7_of_102 1 rfl ?_
        refine mm_get X dX7_of_103 0 2 (by decide) dv_cf_0 rfl (by decide) uX7_of_7 kX7_of_1 rfl (v := .ref (a 3)) rfl ?_
        refine mm_iload_n X dX7_of_106 2 rfl ?_
        obtain ⟨q6, hq6, h⟩ := Option.bind_eq_some_iff.mp h
        refine mm_callVi X dX7_of_107 (As := [.int p1]) (rest := []) 3 (by decide) dv_cf_3 rfl hL (mX6_placeOf hJ hq6) gX7_of_X6_placeOf rfl ⟨rfl, rfl⟩ hyX6_placeOf ⟨Nat.le_of_ble_eq_true rfl, Nat.le_of_ble_eq_true rfl⟩ rfl (Nat.le_of_ble_eq_true rfl) ?_
        obtain rfl := Option.some.inj h
        exact mm_iret X dX7_of_110 rfl hQ rfl
      have h := (if_neg c5).symm.trans h
      have zc3 : ¬ (p2).toInt = (0 : Int) := lv_neT c3 (by decide)
      have zc4 : ¬ (p2).toInt = (1 : Int) := lv_neT c4 (by decide)
      have zc5 : ¬ (p2).toInt = (2 : Int) := lv_neT c5 (by decide)
      refine mm_swOut X dX7_of_61 (by omega) (tgt := 111) (by decide) ?_
      refine mm_bipush X dX7_of_111 (v := -2) (by decide) ?_
      obtain rfl := Option.some.inj h
      exact mm_iret X dX7_of_113 rfl hQ rfl
    · have h := (if_neg c2).symm.trans h
      refine mm_aload_n X dX7_of_47 1 rfl ?_
      refine mm_get X dX7_of_48 0 1 (by decide) dv_cf_0 rfl (by decide) uX7_of_7 kX7_of_2 rfl (v := .ref (a 2)) rfl ?_
      refine mm_iload_n X dX7_of_51 2 rfl ?_
      refine mm_iload_n X dX7_of_52 3 rfl ?_
      refine mm_bipush X dX7_of_53 (v := 10) (by decide) ?_
      refine mm_isub X dX7_of_55 ?_
      obtain ⟨q7, hq7, h⟩ := Option.bind_eq_some_iff.mp h
      refine mm_callVi X dX7_of_56 (As := [.int p1, .int (p2 - (10 : Int32))]) (rest := []) 2 (by decide) dv_cf_2 rfl hL (mX2_pieceOfBatch hJ hq7) gX7_of_X2_pieceOfBatch rfl ⟨rfl, rfl⟩ hyX2_pieceOfBatch ⟨Nat.le_of_ble_eq_true rfl, Nat.le_of_ble_eq_true rfl⟩ rfl (Nat.le_of_ble_eq_true rfl) ?_
      obtain rfl := Option.some.inj h
      exact mm_iret X dX7_of_59 rfl hQ rfl
  · have h := (if_pos c1).symm.trans h
    refine mm_bipush X dX7_of_17 (v := -2) (by decide) ?_
    obtain rfl := Option.some.inj h
    exact mm_iret X dX7_of_19 rfl hQ rfl
/-! LinenTunnel.swap -/
def fX7_swap (σ : mm_M) (p1 p2 : Int32) : Int32 × mm_M := (if (fX7_isOrderPlace σ p1) = 0 then ((-2 : Int32), σ) else (if (fX7_isOrderPlace σ p2) = 0 then ((-2 : Int32), σ) else ((1 : Int32), (dr_wr (dr_wr σ 20 p1 (dr_rd σ 20 p2)) 20 p2 (dr_rd σ 20 p1)))))
abbrev rX7_swap : Room := { frames := 2, cells := 0, slots := 0, locals := 43 }
theorem hyX7_swap : yX7_swap.cls = RX7 ∧ yX7_swap.cls ≠ "java/lang/invoke/MethodHandle" ∧ yX7_swap.cls ≠ "java/lang/invoke/VarHandle" ∧ (parseMethodDescriptor yX7_swap.desc).map (fun d => d.parameters.length) = some 2 := by decide +kernel
theorem kX7_swap_1 : (Cond.fieldLink RX7 28 "LinenTunnel" "waiting" "LLinenTunnel$Waiting;" : Cond) ∈ wsX7_swap := List.mem_of_getElem? (i := 1) rfl
theorem uX7_swap_7 : ∀ w ∈ u_ws RX7 TX7 7, w ∈ wsX7_swap := fun _ h => (List.mem_cons_of_mem _ (List.mem_append_left _ (List.mem_append_left _ (List.mem_append_right _ h))))
theorem uX7_swap_6 : ∀ w ∈ u_ws RX6 TX6 5, w ∈ wsX7_swap := fun _ h => (List.mem_cons_of_mem _ (List.mem_append_left _ (List.mem_append_right _ h)))
set_option maxRecDepth 100000 in
set_option maxHeartbeats 4000000 in
theorem mX7_swap {l : Launch} {D : va_G} {cI : ClassId} {a : Nat → Nat} (hJ : mm_J 59 a) {σ : mm_M} {p1 p2 : Int32} {res : Int32 × mm_M} (h : fX7_swap σ p1 p2 = res) (sz : Nat) : Met l yX7_swap wsX7_swap rX7_swap (dP D cI a σ [.ref (a 0), .int p1, .int p2] sz) (dQi D cI a res.1 res.2 sz) 0 0 (mm_A 59 a sz) := by
  refine mm_met (fun sz => dQi D cI a res.1 res.2 sz) (lv := [(0, .ref (a 0)), (1, .int p1), (2, .int p2)]) (ret := (some .int)) (cc := cX7_swap) (maxL := 4) (own := RX7) hJ (by decide +kernel) rfl rfl (Nat.le_of_ble_eq_true rfl) rfl ?_ sz
  intro K hL X hQ
  unfold fX7_swap at h
  refine mm_aload_n X dX7_swap_0 0 rfl ?_
  refine mm_iload_n X dX7_swap_1 1 rfl ?_
  refine mm_callVi X dX7_swap_2 (As := [.int p1]) (rest := []) 0 (by decide) dv_cf_0 rfl hL (mX7_isOrderPlace hJ (res := fX7_isOrderPlace σ p1) rfl) gX7_swap_X7_isOrderPlace rfl ⟨rfl, rfl⟩ hyX7_isOrderPlace ⟨Nat.le_of_ble_eq_true rfl, Nat.le_of_ble_eq_true rfl⟩ rfl (Nat.le_of_ble_eq_true rfl) ?_
  refine mm_if_eq X dX7_swap_5 (tgt := 16) (by decide) (fun c1 => ?_) (fun c1 => ?_)
  · have h := (if_pos c1).symm.trans h
    refine mm_bipush X dX7_swap_16 (v := -2) (by decide) ?_
    subst h
    exact mm_iret X dX7_swap_18 rfl hQ rfl
  · have h := (if_neg c1).symm.trans h
    refine mm_aload_n X dX7_swap_8 0 rfl ?_
    refine mm_iload_n X dX7_swap_9 2 rfl ?_
    refine mm_callVi X dX7_swap_10 (As := [.int p2]) (rest := []) 0 (by decide) dv_cf_0 rfl hL (mX7_isOrderPlace hJ (res := fX7_isOrderPlace σ p2) rfl) gX7_swap_X7_isOrderPlace rfl ⟨rfl, rfl⟩ hyX7_isOrderPlace ⟨Nat.le_of_ble_eq_true rfl, Nat.le_of_ble_eq_true rfl⟩ rfl (Nat.le_of_ble_eq_true rfl) ?_
    refine mm_if_ne X dX7_swap_13 (tgt := 19) (by decide) (fun c2 => ?_) (fun c2 => ?_)
    · have h := (if_neg c2).symm.trans h
      refine mm_aload_n X dX7_swap_19 0 rfl ?_
      refine mm_get X dX7_swap_20 0 2 (by decide) dv_cf_0 rfl (by decide) uX7_swap_7 kX7_swap_1 rfl (v := .ref (a 3)) rfl ?_
      refine mm_getN X dX7_swap_23 3 4 (by decide) dv_cf_3 rfl (by decide) uX7_swap_6 (List.mem_of_getElem? (i := 20) rfl) rfl (v := .ref (a 46)) rfl ?_
      refine mm_iload_n X dX7_swap_26 1 rfl ?_
      refine mm_callVi X dX7_swap_27 (As := [.int p1]) (rest := []) 46 (by decide) (dv_cf_row (j := 20) (by decide)) rfl hL (mX4_read hJ (j := 20) (by decide) (by decide) (res := (dr_rd σ 20 p1)) rfl) gX7_swap_X4_read rfl ⟨rfl, rfl⟩ hyX4_read ⟨Nat.le_of_ble_eq_true rfl, Nat.le_of_ble_eq_true rfl⟩ rfl (Nat.le_of_ble_eq_true rfl) ?_
      refine mm_istore_n X dX7_swap_30 (by decide) (lv2 := [(3, .int (dr_rd σ 20 p1)), (0, .ref (a 0)), (1, .int p1), (2, .int p2)]) rfl ?_
      refine mm_aload_n X dX7_swap_31 1 rfl ?_
      refine mm_get X dX7_swap_32 0 2 (by decide) dv_cf_0 rfl (by decide) uX7_swap_7 kX7_swap_1 rfl (v := .ref (a 3)) rfl ?_
      refine mm_getN X dX7_swap_35 3 4 (by decide) dv_cf_3 rfl (by decide) uX7_swap_6 (List.mem_of_getElem? (i := 20) rfl) rfl (v := .ref (a 46)) rfl ?_
      refine mm_iload_n X dX7_swap_38 2 rfl ?_
      refine mm_aload_n X dX7_swap_39 1 rfl ?_
      refine mm_get X dX7_swap_40 0 2 (by decide) dv_cf_0 rfl (by decide) uX7_swap_7 kX7_swap_1 rfl (v := .ref (a 3)) rfl ?_
      refine mm_getN X dX7_swap_43 3 4 (by decide) dv_cf_3 rfl (by decide) uX7_swap_6 (List.mem_of_getElem? (i := 20) rfl) rfl (v := .ref (a 46)) rfl ?_
      refine mm_iload_n X dX7_swap_46 3 rfl ?_
      refine mm_callVi X dX7_swap_47 (As := [.int p2]) (rest := [.int p1, .ref (a 46)]) 46 (by decide) (dv_cf_row (j := 20) (by decide)) rfl hL (mX4_read hJ (j := 20) (by decide) (by decide) (res := (dr_rd σ 20 p2)) rfl) gX7_swap_X4_read rfl ⟨rfl, rfl⟩ hyX4_read ⟨Nat.le_of_ble_eq_true rfl, Nat.le_of_ble_eq_true rfl⟩ rfl (Nat.le_of_ble_eq_true rfl) ?_
      refine mm_callVv X dX7_swap_50 (As := [.int p1, .int (dr_rd σ 20 p2)]) (rest := []) 46 (by decide) (dv_cf_row (j := 20) (by decide)) rfl hL (mX4_write hJ (j := 20) (by decide) (by decide) (res := dr_wr σ 20 p1 (dr_rd σ 20 p2)) rfl) gX7_swap_X4_write rfl ⟨rfl, rfl⟩ hyX4_write ⟨Nat.le_of_ble_eq_true rfl, Nat.le_of_ble_eq_true rfl⟩ rfl (Nat.le_of_ble_eq_true rfl) ?_
      refine mm_aload_n X dX7_swap_53 1 rfl ?_
      refine mm_get X dX7_swap_54 0 2 (by decide) dv_cf_0 rfl (by decide) uX7_swap_7 kX7_swap_1 rfl (v := .ref (a 3)) rfl ?_
      refine mm_getN X dX7_swap_57 3 4 (by decide) dv_cf_3 rfl (by decide) uX7_swap_6 (List.mem_of_getElem? (i := 20) rfl) rfl (v := .ref (a 46)) rfl ?_
      refine mm_iload_n X dX7_swap_60 3 rfl ?_
      refine mm_iload_n X dX7_swap_61 0 rfl ?_
      refine mm_callVv X dX7_swap_62 (As := [.int p2, .int (dr_rd σ 20 p1)]) (rest := []) 46 (by decide) (dv_cf_row (j := 20) (by decide)) rfl hL (mX4_write hJ (j := 20) (by decide) (by decide) (res := dr_wr (dr_wr σ 20 p1 (dr_rd σ 20 p2)) 20 p2 (dr_rd σ 20 p1)) rfl) gX7_swap_X4_write rfl ⟨rfl, rfl⟩ hyX4_write ⟨Nat.le_of_ble_eq_true rfl, Nat.le_of_ble_eq_true rfl⟩ rfl (Nat.le_of_ble_eq_true rfl) ?_
      refine mm_iconst X dX7_swap_65 (v := 1) (by decide) ?_
      subst h
      exact mm_iret X dX7_swap_66 rfl hQ rfl
    · have h := (if_pos c2).symm.trans h
      refine mm_bipush X dX7_swap_16 (v := -2) (by decide) ?_
      subst h
      exact mm_iret X dX7_swap_18 rfl hQ rfl
/-! LinenTunnel$Linen.emptyBatch -/
def fX2_emptyBatch_2 (F : Nat) (l1 : Int32) : Nat → Int32 → mm_M → Option (mm_M)
  | 0, _, _ => none
  | k + 1, l2, σ => (if l2 < (σ 2 0) then fX2_emptyBatch_2 F l1 k (l2 + 1) (if (dr_rd σ 17 l2) = l1 then (dr_wr (dr_wr σ 15 l2 (1 : Int32)) 17 l2 (-1 : Int32)) else (if l1 < (dr_rd σ 17 l2) then (dr_wr σ 17 l2 ((dr_rd σ 17 l2) - (1 : Int32))) else σ)) else some (σ))
def fX2_emptyBatch (F : Nat) (σ : mm_M) (p1 : Int32) : Option (mm_M) := (fX2_emptyBatch_2 F p1 F (0 : Int32) σ).bind fun q1 => some q1
abbrev rX2_emptyBatch : Room := { frames := 1, cells := 0, slots := 0, locals := 22 }
theorem hyX2_emptyBatch : yX2_emptyBatch.cls = RX2 ∧ yX2_emptyBatch.cls ≠ "java/lang/invoke/MethodHandle" ∧ yX2_emptyBatch.cls ≠ "java/lang/invoke/VarHandle" ∧ (parseMethodDescriptor yX2_emptyBatch.desc).map (fun d => d.parameters.length) = some 1 := by decide +kernel
theorem kX2_emptyBatch_1 : (Cond.fieldLink RX2 9 "LinenTunnel$Linen" "number" "I" : Cond) ∈ wsX2_emptyBatch := List.mem_of_getElem? (i := 1) rfl
theorem uX2_emptyBatch_2 : ∀ w ∈ u_ws RX2 TX2 7, w ∈ wsX2_emptyBatch := fun _ h => (List.mem_cons_of_mem _ (List.mem_append_left _ (List.mem_append_right _ h)))
theorem kX2_emptyBatch_2 : (Cond.fieldLink RX2 36 "LinenTunnel$Linen" "batch" "LLinenTunnel$Row;" : Cond) ∈ wsX2_emptyBatch := List.mem_of_getElem? (i := 2) rfl
theorem kX2_emptyBatch_3 : (Cond.fieldLink RX2 30 "LinenTunnel$Linen" "place" "LLinenTunnel$Row;" : Cond) ∈ wsX2_emptyBatch := List.mem_of_getElem? (i := 3) rfl
set_option maxRecDepth 100000 in
set_option maxHeartbeats 4000000 in
theorem tX2_emptyBatch_2 {l : Launch} {K : mm_K} {D : va_G} {cI : ClassId} {a : Nat → Nat} (X : dC K rX2_emptyBatch cX2_emptyBatch 4 none wsX2_emptyBatch RX2 D cI a) (hL : mm_L K l) (hJ : mm_J 59 a) {F : Nat} {l1 : Int32} {out : mm_M} (hx : dG K D cI a out 67 [] []) : ∀ (k : Nat) (l2 : Int32) (σ : mm_M), fX2_emptyBatch_2 F l1 k l2 σ = some out → dG K D cI a σ 2 [(0, .ref (a 2)), (1, .int l1), (2, .int l2)] [] := by
  intro k
  induction k with
  | zero =>
    intro l2 σ h
    have h : none = some out := h
    cases h
  | succ k ih =>
    intro l2 σ h
    rw [fX2_emptyBatch_2] at h
    refine mm_iload_n X dX2_emptyBatch_2 2 rfl ?_
    refine mm_aload_n X dX2_emptyBatch_3 0 rfl ?_
    refine mm_get X dX2_emptyBatch_4 2 0 (by decide) dv_cf_2 rfl (by decide) uX2_emptyBatch_2 kX2_emptyBatch_1 rfl (v := .int (σ 2 0)) rfl ?_
    refine mm_icmp_ge X dX2_emptyBatch_7 (tgt := 67) (by decide) (fun c1 => ?_) (fun c1 => ?_)
    · have h := (if_neg c1).symm.trans h
      obtain rfl := Option.some.inj h
      refine mm_loc [] rfl ?_
      exact hx
    · have h := (if_pos c1).symm.trans h
      refine mm_aload_n X dX2_emptyBatch_10 0 rfl ?_
      refine mm_get X dX2_emptyBatch_11 2 6 (by decide) dv_cf_2 rfl (by decide) uX2_emptyBatch_2 kX2_emptyBatch_2 rfl (v := .ref (a 43)) rfl ?_
      refine mm_iload_n X dX2_emptyBatch_14 2 rfl ?_
      refine mm_callVi X dX2_emptyBatch_15 (As := [.int l2]) (rest := []) 43 (by decide) (dv_cf_row (j := 17) (by decide)) rfl hL (mX4_read hJ (j := 17) (by decide) (by decide) (res := (dr_rd σ 17 l2)) rfl) gX2_emptyBatch_X4_read rfl ⟨rfl, rfl⟩ hyX4_read ⟨Nat.le_of_ble_eq_true rfl, Nat.le_of_ble_eq_true rfl⟩ rfl (Nat.le_of_ble_eq_true rfl) ?_
      refine mm_istore_n X dX2_emptyBatch_18 (by decide) (lv2 := [(3, .int (dr_rd σ 17 l2)), (0, .ref (a 2)), (1, .int l1), (2, .int l2)]) rfl ?_
      refine mm_iload_n X dX2_emptyBatch_19 0 rfl ?_
      refine mm_iload_n X dX2_emptyBatch_20 2 rfl ?_
      have J3 : ∀ (v2 : mm_M), v2 = (if (dr_rd σ 17 l2) = l1 then (dr_wr (dr_wr σ 15 l2 (1 : Int32)) 17 l2 (-1 : Int32)) else (if l1 < (dr_rd σ 17 l2) then (dr_wr σ 17 l2 ((dr_rd σ 17 l2) - (1 : Int32))) else σ)) → dG K D cI a v2 61 [(0, .ref (a 2)), (1, .int l1), (2, .int l2)] [] := by
        intro v2 ev2
        subst ev2
        refine mm_iinc X dX2_emptyBatch_61 2 rfl (v := (l2 + 1)) rfl (by decide) (lv2 := [(2, .int (l2 + 1)), (0, .ref (a 2)), (1, .int l1)]) rfl ?_
        refine mm_goto X dX2_emptyBatch_64 (tgt := 2) (by decide) ?_
        refine mm_loc [1, 2, 0] rfl ?_
        exact ih _ _ h
      refine mm_icmp_ne X dX2_emptyBatch_21 (tgt := 45) (by decide) (fun c4 => ?_) (fun c4 => ?_)
      · refine mm_iload_n X dX2_emptyBatch_45 0 rfl ?_
        refine mm_iload_n X dX2_emptyBatch_46 2 rfl ?_
        refine mm_icmp_le X dX2_emptyBatch_47 (tgt := 61) (by decide) (fun c5 => ?_) (fun c5 => ?_)
        · refine mm_loc [1, 2, 3] rfl ?_
          exact J3 _ (by rw [if_neg c4, if_neg c5])
        · refine mm_aload_n X dX2_emptyBatch_50 1 rfl ?_
          refine mm_get X dX2_emptyBatch_51 2 6 (by decide) dv_cf_2 rfl (by decide) uX2_emptyBatch_2 kX2_emptyBatch_2 rfl (v := .ref (a 43)) rfl ?_
          refine mm_iload_n X dX2_emptyBatch_54 3 rfl ?_
          refine mm_iload_n X dX2_emptyBatch_55 0 rfl ?_
          refine mm_iconst X dX2_emptyBatch_56 (v := 1) (by decide) ?_
          refine mm_isub X dX2_emptyBatch_57 ?_
          refine mm_callVv X dX2_emptyBatch_58 (As := [.int l2, .int ((dr_rd σ 17 l2) - (1 : Int32))]) (rest := []) 43 (by decide) (dv_cf_row (j := 17) (by decide)) rfl hL (mX4_write hJ (j := 17) (by decide) (by decide) (res := dr_wr σ 17 l2 ((dr_rd σ 17 l2) - (1 : Int32))) rfl) gX2_emptyBatch_X4_write rfl ⟨rfl, rfl⟩ hyX4_write ⟨Nat.le_of_ble_eq_true rfl, Nat.le_of_ble_eq_true rfl⟩ rfl (Nat.le_of_ble_eq_true rfl) ?_
          refine mm_loc [1, 2, 3] rfl ?_
          exact J3 _ (by rw [if_neg c4, if_pos c5])
      · refine mm_aload_n X dX2_emptyBatch_24 1 rfl ?_
        refine mm_get X dX2_emptyBatch_25 2 4 (by decide) dv_cf_2 rfl (by decide) uX2_emptyBatch_2 kX2_emptyBatch_3 rfl (v := .ref (a 41)) rfl ?_
        refine mm_iload_n X dX2_emptyBatch_28 3 rfl ?_
        refine mm_iconst X dX2_emptyBatch_29 (v := 1) (by decide) ?_
        refine mm_callVv X dX2_emptyBatch_30 (As := [.int l2, .int (1 : Int32)]) (rest := []) 41 (by decide) (dv_cf_row (j := 15) (by decide)) rfl hL (mX4_write hJ (j := 15) (by decide) (by decide) (res := dr_wr σ 15 l2 (1 : Int32)) rfl) gX2_emptyBatch_X4_write rfl ⟨rfl, rfl⟩ hyX4_write ⟨Nat.le_of_ble_eq_true rfl, Nat.le_of_ble_eq_true rfl⟩ rfl (Nat.le_of_ble_eq_true rfl) ?_
        refine mm_aload_n X dX2_emptyBatch_33 1 rfl ?_
        refine mm_get X dX2_emptyBatch_34 2 6 (by decide) dv_cf_2 rfl (by decide) uX2_emptyBatch_2 kX2_emptyBatch_2 rfl (v := .ref (a 43)) rfl ?_
        refine mm_iload_n X dX2_emptyBatch_37 3 rfl ?_
        refine mm_iconst X dX2_emptyBatch_38 (v := -1) (by decide) ?_
        refine mm_callVv X dX2_emptyBatch_39 (As := [.int l2, .int (-1 : Int32)]) (rest := []) 43 (by decide) (dv_cf_row (j := 17) (by decide)) rfl hL (mX4_write hJ (j := 17) (by decide) (by decide) (res := dr_wr (dr_wr σ 15 l2 (1 : Int32)) 17 l2 (-1 : Int32)) rfl) gX2_emptyBatch_X4_write rfl ⟨rfl, rfl⟩ hyX4_write ⟨Nat.le_of_ble_eq_true rfl, Nat.le_of_ble_eq_true rfl⟩ rfl (Nat.le_of_ble_eq_true rfl) ?_
        refine mm_goto X dX2_emptyBatch_42 (tgt := 61) (by decide) ?_
        refine mm_loc [1, 2, 3] rfl ?_
        exact J3 _ (by rw [if_pos c4])
set_option maxRecDepth 100000 in
set_option maxHeartbeats 4000000 in
theorem mX2_emptyBatch {l : Launch} {D : va_G} {cI : ClassId} {a : Nat → Nat} (hJ : mm_J 59 a) {F : Nat} {σ : mm_M} {p1 : Int32} {res : mm_M} (h : fX2_emptyBatch F σ p1 = some res) (sz : Nat) : Met l yX2_emptyBatch wsX2_emptyBatch rX2_emptyBatch (dP D cI a σ [.ref (a 2), .int p1] sz) (dQv D cI a res sz) 0 0 (mm_A 59 a sz) := by
  refine mm_met (fun sz => dQv D cI a res sz) (lv := [(0, .ref (a 2)), (1, .int p1)]) (ret := none) (cc := cX2_emptyBatch) (maxL := 4) (own := RX2) hJ (by decide +kernel) rfl rfl (Nat.le_of_ble_eq_true rfl) rfl ?_ sz
  intro K hL X hQ
  unfold fX2_emptyBatch at h
  refine mm_iconst X dX2_emptyBatch_0 (v := 0) (by decide) ?_
  refine mm_istore_n X dX2_emptyBatch_1 (by decide) (lv2 := [(2, .int (0 : Int32)), (0, .ref (a 2)), (1, .int p1)]) rfl ?_
  obtain ⟨q1, hq1, h⟩ := Option.bind_eq_some_iff.mp h
  refine mm_loc [1, 2, 0] rfl ?_
  refine tX2_emptyBatch_2 X hL hJ ?_ F (0 : Int32) σ hq1
  obtain rfl := Option.some.inj h
  exact mm_vret X dX2_emptyBatch_67 rfl hQ
/-! LinenTunnel$Waiting.dropLast -/
def fX6_dropLast_12 (F : Nat) (l1 : Int32) : Nat → Int32 → mm_M → Option (mm_M)
  | 0, _, _ => none
  | k + 1, l2, σ => (if l2 < (σ 3 1) then fX6_dropLast_12 F l1 k (l2 + 1) (dr_wr (dr_wr σ 18 l2 (dr_rd σ 18 (l2 + (1 : Int32)))) 19 l2 (dr_rd σ 19 (l2 + (1 : Int32)))) else some (σ))
def fX6_dropLast_64 (F : Nat) (l1 : Int32) : Nat → Int32 → mm_M → Option (mm_M)
  | 0, _, _ => none
  | k + 1, l2, σ => (if l2 < (σ 3 1) then fX6_dropLast_64 F l1 k (l2 + 1) (dr_wr σ 20 l2 (if l1 < (dr_rd σ 20 l2) then ((dr_rd σ 20 l2) - (1 : Int32)) else (dr_rd σ 20 l2))) else some (σ))
def fX6_dropLast (F : Nat) (σ : mm_M) (p1 : Int32) : Option (mm_M) := (fX6_dropLast_12 F p1 F p1 (mm_up σ 3 1 ((σ 3 1) - (1 : Int32)))).bind fun q1 => (fX6_dropLast_64 F p1 F (0 : Int32) q1).bind fun q2 => some q2
abbrev rX6_dropLast : Room := { frames := 1, cells := 0, slots := 0, locals := 22 }
theorem hyX6_dropLast : yX6_dropLast.cls = RX6 ∧ yX6_dropLast.cls ≠ "java/lang/invoke/MethodHandle" ∧ yX6_dropLast.cls ≠ "java/lang/invoke/VarHandle" ∧ (parseMethodDescriptor yX6_dropLast.desc).map (fun d => d.parameters.length) = some 1 := by decide +kernel
theorem kX6_dropLast_1 : (Cond.fieldLink RX6 9 "LinenTunnel$Waiting" "number" "I" : Cond) ∈ wsX6_dropLast := List.mem_of_getElem? (i := 1) rfl
theorem uX6_dropLast_6 : ∀ w ∈ u_ws RX6 TX6 5, w ∈ wsX6_dropLast := fun _ h => (List.mem_cons_of_mem _ (List.mem_append_left _ (List.mem_append_right _ h)))
theorem kX6_dropLast_2 : (Cond.fieldLink RX6 20 "LinenTunnel$Waiting" "kind" "LLinenTunnel$Row;" : Cond) ∈ wsX6_dropLast := List.mem_of_getElem? (i := 2) rfl
theorem kX6_dropLast_3 : (Cond.fieldLink RX6 24 "LinenTunnel$Waiting" "size" "LLinenTunnel$Row;" : Cond) ∈ wsX6_dropLast := List.mem_of_getElem? (i := 3) rfl
theorem kX6_dropLast_4 : (Cond.fieldLink RX6 27 "LinenTunnel$Waiting" "order" "LLinenTunnel$Row;" : Cond) ∈ wsX6_dropLast := List.mem_of_getElem? (i := 4) rfl
set_option maxRecDepth 100000 in
set_option maxHeartbeats 4000000 in
theorem tX6_dropLast_12 {l : Launch} {K : mm_K} {D : va_G} {cI : ClassId} {a : Nat → Nat} (X : dC K rX6_dropLast cX6_dropLast 4 none wsX6_dropLast RX6 D cI a) (hL : mm_L K l) (hJ : mm_J 59 a) {F : Nat} {l1 : Int32} {out : mm_M} (hx : dG K D cI a out 62 [(0, .ref (a 3)), (1, .int l1)] []) : ∀ (k : Nat) (l2 : Int32) (σ : mm_M), fX6_dropLast_12 F l1 k l2 σ = some out → dG K D cI a σ 12 [(0, .ref (a 3)), (1, .int l1), (2, .int l2)] [] := by
  intro k
  induction k with
  | zero =>
    intro l2 σ h
    have h : none = some out := h
    cases h
  | succ k ih =>
    intro l2 σ h
    rw [fX6_dropLast_12] at h
    refine mm_iload_n X dX6_dropLast_12 2 rfl ?_
    refine mm_aload_n X dX6_dropLast_13 0 rfl ?_
    refine mm_get X dX6_dropLast_14 3 1 (by decide) dv_cf_3 rfl (by decide) uX6_dropLast_6 kX6_dropLast_1 rfl (v := .int (σ 3 1)) rfl ?_
    refine mm_icmp_ge X dX6_dropLast_17 (tgt := 62) (by decide) (fun c1 => ?_) (fun c1 => ?_)
    · have h := (if_neg c1).symm.trans h
      obtain rfl := Option.some.inj h
      refine mm_loc [0, 1] rfl ?_
      exact hx
    · have h := (if_pos c1).symm.trans h
      refine mm_aload_n X dX6_dropLast_20 0 rfl ?_
      refine mm_get X dX6_dropLast_21 3 2 (by decide) dv_cf_3 rfl (by decide) uX6_dropLast_6 kX6_dropLast_2 rfl (v := .ref (a 44)) rfl ?_
      refine mm_iload_n X dX6_dropLast_24 2 rfl ?_
      refine mm_aload_n X dX6_dropLast_25 0 rfl ?_
      refine mm_get X dX6_dropLast_26 3 2 (by decide) dv_cf_3 rfl (by decide) uX6_dropLast_6 kX6_dropLast_2 rfl (v := .ref (a 44)) rfl ?_
      refine mm_iload_n X dX6_dropLast_29 2 rfl ?_
      refine mm_iconst X dX6_dropLast_30 (v := 1) (by decide) ?_
      refine mm_iadd X dX6_dropLast_31 ?_
      refine mm_callVi X dX6_dropLast_32 (As := [.int (l2 + (1 : Int32))]) (rest := [.int l2, .ref (a 44)]) 44 (by decide) (dv_cf_row (j := 18) (by decide)) rfl hL (mX4_read hJ (j := 18) (by decide) (by decide) (res := (dr_rd σ 18 (l2 + (1 : Int32)))) rfl) gX6_dropLast_X4_read rfl ⟨rfl, rfl⟩ hyX4_read ⟨Nat.le_of_ble_eq_true rfl, Nat.le_of_ble_eq_true rfl⟩ rfl (Nat.le_of_ble_eq_true rfl) ?_
      refine mm_callVv X dX6_dropLast_35 (As := [.int l2, .int (dr_rd σ 18 (l2 + (1 : Int32)))]) (rest := []) 44 (by decide) (dv_cf_row (j := 18) (by decide)) rfl hL (mX4_write hJ (j := 18) (by decide) (by decide) (res := dr_wr σ 18 l2 (dr_rd σ 18 (l2 + (1 : Int32)))) rfl) gX6_dropLast_X4_write rfl ⟨rfl, rfl⟩ hyX4_write ⟨Nat.le_of_ble_eq_true rfl, Nat.le_of_ble_eq_true rfl⟩ rfl (Nat.le_of_ble_eq_true rfl) ?_
      refine mm_aload_n X dX6_dropLast_38 0 rfl ?_
      refine mm_get X dX6_dropLast_39 3 3 (by decide) dv_cf_3 rfl (by decide) uX6_dropLast_6 kX6_dropLast_3 rfl (v := .ref (a 45)) rfl ?_
      refine mm_iload_n X dX6_dropLast_42 2 rfl ?_
      refine mm_aload_n X dX6_dropLast_43 0 rfl ?_
      refine mm_get X dX6_dropLast_44 3 3 (by decide) dv_cf_3 rfl (by decide) uX6_dropLast_6 kX6_dropLast_3 rfl (v := .ref (a 45)) rfl ?_
      refine mm_iload_n X dX6_dropLast_47 2 rfl ?_
      refine mm_iconst X dX6_dropLast_48 (v := 1) (by decide) ?_
      refine mm_iadd X dX6_dropLast_49 ?_
      refine mm_callVi X dX6_dropLast_50 (As := [.int (l2 + (1 : Int32))]) (rest := [.int l2, .ref (a 45)]) 45 (by decide) (dv_cf_row (j := 19) (by decide)) rfl hL (mX4_read hJ (j := 19) (by decide) (by decide) (res := (dr_rd σ 19 (l2 + (1 : Int32)))) rfl) gX6_dropLast_X4_read rfl ⟨rfl, rfl⟩ hyX4_read ⟨Nat.le_of_ble_eq_true rfl, Nat.le_of_ble_eq_true rfl⟩ rfl (Nat.le_of_ble_eq_true rfl) ?_
      refine mm_callVv X dX6_dropLast_53 (As := [.int l2, .int (dr_rd σ 19 (l2 + (1 : Int32)))]) (rest := []) 45 (by decide) (dv_cf_row (j := 19) (by decide)) rfl hL (mX4_write hJ (j := 19) (by decide) (by decide) (res := dr_wr (dr_wr σ 18 l2 (dr_rd σ 18 (l2 + (1 : Int32)))) 19 l2 (dr_rd σ 19 (l2 + (1 : Int32)))) rfl) gX6_dropLast_X4_write rfl ⟨rfl, rfl⟩ hyX4_write ⟨Nat.le_of_ble_eq_true rfl, Nat.le_of_ble_eq_true rfl⟩ rfl (Nat.le_of_ble_eq_true rfl) ?_
      refine mm_iinc X dX6_dropLast_56 2 rfl (v := (l2 + 1)) rfl (by decide) (lv2 := [(2, .int (l2 + 1)), (0, .ref (a 3)), (1, .int l1)]) rfl ?_
      refine mm_goto X dX6_dropLast_59 (tgt := 12) (by decide) ?_
      refine mm_loc [1, 2, 0] rfl ?_
      exact ih _ _ h
set_option maxRecDepth 100000 in
set_option maxHeartbeats 4000000 in
theorem tX6_dropLast_64 {l : Launch} {K : mm_K} {D : va_G} {cI : ClassId} {a : Nat → Nat} (X : dC K rX6_dropLast cX6_dropLast 4 none wsX6_dropLast RX6 D cI a) (hL : mm_L K l) (hJ : mm_J 59 a) {F : Nat} {l1 : Int32} {out : mm_M} (hx : dG K D cI a out 107 [] []) : ∀ (k : Nat) (l2 : Int32) (σ : mm_M), fX6_dropLast_64 F l1 k l2 σ = some out → dG K D cI a σ 64 [(0, .ref (a 3)), (1, .int l1), (2, .int l2)] [] := by
  intro k
  induction k with
  | zero =>
    intro l2 σ h
    have h : none = some out := h
    cases h
  | succ k ih =>
    intro l2 σ h
    rw [fX6_dropLast_64] at h
    refine mm_iload_n X dX6_dropLast_64 2 rfl ?_
    refine mm_aload_n X dX6_dropLast_65 0 rfl ?_
    refine mm_get X dX6_dropLast_66 3 1 (by decide) dv_cf_3 rfl (by decide) uX6_dropLast_6 kX6_dropLast_1 rfl (v := .int (σ 3 1)) rfl ?_
    refine mm_icmp_ge X dX6_dropLast_69 (tgt := 107) (by decide) (fun c1 => ?_) (fun c1 => ?_)
    · have h := (if_neg c1).symm.trans h
      obtain rfl := Option.some.inj h
      refine mm_loc [] rfl ?_
      exact hx
    · have h := (if_pos c1).symm.trans h
      refine mm_aload_n X dX6_dropLast_72 0 rfl ?_
      refine mm_get X dX6_dropLast_73 3 4 (by decide) dv_cf_3 rfl (by decide) uX6_dropLast_6 kX6_dropLast_4 rfl (v := .ref (a 46)) rfl ?_
      refine mm_iload_n X dX6_dropLast_76 2 rfl ?_
      refine mm_callVi X dX6_dropLast_77 (As := [.int l2]) (rest := []) 46 (by decide) (dv_cf_row (j := 20) (by decide)) rfl hL (mX4_read hJ (j := 20) (by decide) (by decide) (res := (dr_rd σ 20 l2)) rfl) gX6_dropLast_X4_read rfl ⟨rfl, rfl⟩ hyX4_read ⟨Nat.le_of_ble_eq_true rfl, Nat.le_of_ble_eq_true rfl⟩ rfl (Nat.le_of_ble_eq_true rfl) ?_
      refine mm_istore_n X dX6_dropLast_80 (by decide) (lv2 := [(3, .int (dr_rd σ 20 l2)), (0, .ref (a 3)), (1, .int l1), (2, .int l2)]) rfl ?_
      refine mm_aload_n X dX6_dropLast_81 1 rfl ?_
      refine mm_get X dX6_dropLast_82 3 4 (by decide) dv_cf_3 rfl (by decide) uX6_dropLast_6 kX6_dropLast_4 rfl (v := .ref (a 46)) rfl ?_
      refine mm_iload_n X dX6_dropLast_85 3 rfl ?_
      refine mm_iload_n X dX6_dropLast_86 0 rfl ?_
      refine mm_iload_n X dX6_dropLast_87 2 rfl ?_
      have J3 : ∀ (v2 : Int32), v2 = (if l1 < (dr_rd σ 20 l2) then ((dr_rd σ 20 l2) - (1 : Int32)) else (dr_rd σ 20 l2)) → dG K D cI a σ 98 [(0, .ref (a 3)), (1, .int l1), (2, .int l2)] [.int v2, .int l2, .ref (a 46)] := by
        intro v2 ev2
        subst ev2
        refine mm_callVv X dX6_dropLast_98 (As := [.int l2, .int (if l1 < (dr_rd σ 20 l2) then ((dr_rd σ 20 l2) - (1 : Int32)) else (dr_rd σ 20 l2))]) (rest := []) 46 (by decide) (dv_cf_row (j := 20) (by decide)) rfl hL (mX4_write hJ (j := 20) (by decide) (by decide) (res := dr_wr σ 20 l2 (if l1 < (dr_rd σ 20 l2) then ((dr_rd σ 20 l2) - (1 : Int32)) else (dr_rd σ 20 l2))) rfl) gX6_dropLast_X4_write rfl ⟨rfl, rfl⟩ hyX4_write ⟨Nat.le_of_ble_eq_true rfl, Nat.le_of_ble_eq_true rfl⟩ rfl (Nat.le_of_ble_eq_true rfl) ?_
        refine mm_iinc X dX6_dropLast_101 2 rfl (v := (l2 + 1)) rfl (by decide) (lv2 := [(2, .int (l2 + 1)), (0, .ref (a 3)), (1, .int l1)]) rfl ?_
        refine mm_goto X dX6_dropLast_104 (tgt := 64) (by decide) ?_
        refine mm_loc [1, 2, 0] rfl ?_
        exact ih _ _ h
      refine mm_icmp_le X dX6_dropLast_88 (tgt := 97) (by decide) (fun c4 => ?_) (fun c4 => ?_)
      · refine mm_iload_n X dX6_dropLast_97 0 rfl ?_
        refine mm_loc [1, 2, 3] rfl ?_
        exact J3 _ (by rw [if_neg c4])
      · refine mm_iload_n X dX6_dropLast_91 0 rfl ?_
        refine mm_iconst X dX6_dropLast_92 (v := 1) (by decide) ?_
        refine mm_isub X dX6_dropLast_93 ?_
        refine mm_goto X dX6_dropLast_94 (tgt := 98) (by decide) ?_
        refine mm_loc [1, 2, 3] rfl ?_
        exact J3 _ (by rw [if_pos c4])
set_option maxRecDepth 100000 in
set_option maxHeartbeats 4000000 in
theorem mX6_dropLast {l : Launch} {D : va_G} {cI : ClassId} {a : Nat → Nat} (hJ : mm_J 59 a) {F : Nat} {σ : mm_M} {p1 : Int32} {res : mm_M} (h : fX6_dropLast F σ p1 = some res) (sz : Nat) : Met l yX6_dropLast wsX6_dropLast rX6_dropLast (dP D cI a σ [.ref (a 3), .int p1] sz) (dQv D cI a res sz) 0 0 (mm_A 59 a sz) := by
  refine mm_met (fun sz => dQv D cI a res sz) (lv := [(0, .ref (a 3)), (1, .int p1)]) (ret := none) (cc := cX6_dropLast) (maxL := 4) (own := RX6) hJ (by decide +kernel) rfl rfl (Nat.le_of_ble_eq_true rfl) rfl ?_ sz
  intro K hL X hQ
  unfold fX6_dropLast at h
  refine mm_aload_n X dX6_dropLast_0 0 rfl ?_
  refine mm_dup X dX6_dropLast_1 rfl ?_
  refine mm_get X dX6_dropLast_2 3 1 (by decide) dv_cf_3 rfl (by decide) uX6_dropLast_6 kX6_dropLast_1 rfl (v := .int (σ 3 1)) rfl ?_
  refine mm_iconst X dX6_dropLast_5 (v := 1) (by decide) ?_
  refine mm_isub X dX6_dropLast_6 ?_
  refine mm_put X dX6_dropLast_7 3 1 (by decide) tyX6 tyX6_ok nmX6 dv_cf_3 rfl rfl (by decide) uX6_dropLast_6 kX6_dropLast_1 rfl rfl rfl (Nat.le_of_ble_eq_true rfl) ?_
  refine mm_iload_n X dX6_dropLast_10 1 rfl ?_
  refine mm_istore_n X dX6_dropLast_11 (by decide) (lv2 := [(2, .int p1), (0, .ref (a 3)), (1, .int p1)]) rfl ?_
  obtain ⟨q1, hq1, h⟩ := Option.bind_eq_some_iff.mp h
  refine mm_loc [1, 2, 0] rfl ?_
  refine tX6_dropLast_12 X hL hJ ?_ F p1 (mm_up σ 3 1 ((σ 3 1) - (1 : Int32))) hq1
  refine mm_iconst X dX6_dropLast_62 (v := 0) (by decide) ?_
  refine mm_istore_n X dX6_dropLast_63 (by decide) (lv2 := [(2, .int (0 : Int32)), (0, .ref (a 3)), (1, .int p1)]) rfl ?_
  obtain ⟨q2, hq2, h⟩ := Option.bind_eq_some_iff.mp h
  refine mm_loc [1, 2, 0] rfl ?_
  refine tX6_dropLast_64 X hL hJ ?_ F (0 : Int32) q1 hq2
  obtain rfl := Option.some.inj h
  exact mm_vret X dX6_dropLast_107 rfl hQ
/-! LinenTunnel.undo -/
def fX7_undo (F : Nat) (σ : mm_M) : Option (Int32 × mm_M) := (if (σ 3 1) = 0 then some ((-4 : Int32), σ) else (fX2_emptyBatch F σ (dr_rd σ 20 ((σ 3 1) - (1 : Int32)))).bind fun q2 => (fX6_dropLast F q2 (dr_rd σ 20 ((σ 3 1) - (1 : Int32)))).bind fun q3 => some ((q3 3 1), q3))
abbrev rX7_undo : Room := { frames := 2, cells := 0, slots := 0, locals := 45 }
theorem hyX7_undo : yX7_undo.cls = RX7 ∧ yX7_undo.cls ≠ "java/lang/invoke/MethodHandle" ∧ yX7_undo.cls ≠ "java/lang/invoke/VarHandle" ∧ (parseMethodDescriptor yX7_undo.desc).map (fun d => d.parameters.length) = some 0 := by decide +kernel
theorem kX7_undo_1 : (Cond.fieldLink RX7 28 "LinenTunnel" "waiting" "LLinenTunnel$Waiting;" : Cond) ∈ wsX7_undo := List.mem_of_getElem? (i := 1) rfl
theorem uX7_undo_7 : ∀ w ∈ u_ws RX7 TX7 7, w ∈ wsX7_undo := fun _ h => (List.mem_cons_of_mem _ (List.mem_append_left _ (List.mem_append_left _ (List.mem_append_left _ (List.mem_append_right _ h)))))
theorem uX7_undo_6 : ∀ w ∈ u_ws RX6 TX6 5, w ∈ wsX7_undo := fun _ h => (List.mem_cons_of_mem _ (List.mem_append_left _ (List.mem_append_left _ (List.mem_append_right _ h))))
theorem kX7_undo_2 : (Cond.fieldLink RX7 19 "LinenTunnel" "linen" "LLinenTunnel$Linen;" : Cond) ∈ wsX7_undo := List.mem_of_getElem? (i := 2) rfl
set_option maxRecDepth 100000 in
set_option maxHeartbeats 4000000 in
theorem mX7_undo {l : Launch} {D : va_G} {cI : ClassId} {a : Nat → Nat} (hJ : mm_J 59 a) {F : Nat} {σ : mm_M} {res : Int32 × mm_M} (h : fX7_undo F σ = some res) (sz : Nat) : Met l yX7_undo wsX7_undo rX7_undo (dP D cI a σ [.ref (a 0)] sz) (dQi D cI a res.1 res.2 sz) 0 0 (mm_A 59 a sz) := by
  refine mm_met (fun sz => dQi D cI a res.1 res.2 sz) (lv := [(0, .ref (a 0))]) (ret := (some .int)) (cc := cX7_undo) (maxL := 2) (own := RX7) hJ (by decide +kernel) rfl rfl (Nat.le_of_ble_eq_true rfl) rfl ?_ sz
  intro K hL X hQ
  unfold fX7_undo at h
  refine mm_aload_n X dX7_undo_0 0 rfl ?_
  refine mm_get X dX7_undo_1 0 2 (by decide) dv_cf_0 rfl (by decide) uX7_undo_7 kX7_undo_1 rfl (v := .ref (a 3)) rfl ?_
  refine mm_getN X dX7_undo_4 3 1 (by decide) dv_cf_3 rfl (by decide) uX7_undo_6 (List.mem_of_getElem? (i := 13) rfl) rfl (v := .int (σ 3 1)) rfl ?_
  refine mm_if_ne X dX7_undo_7 (tgt := 13) (by decide) (fun c1 => ?_) (fun c1 => ?_)
  · have h := (if_neg c1).symm.trans h
    refine mm_aload_n X dX7_undo_13 0 rfl ?_
    refine mm_get X dX7_undo_14 0 2 (by decide) dv_cf_0 rfl (by decide) uX7_undo_7 kX7_undo_1 rfl (v := .ref (a 3)) rfl ?_
    refine mm_getN X dX7_undo_17 3 4 (by decide) dv_cf_3 rfl (by decide) uX7_undo_6 (List.mem_of_getElem? (i := 20) rfl) rfl (v := .ref (a 46)) rfl ?_
    refine mm_aload_n X dX7_undo_20 0 rfl ?_
    refine mm_get X dX7_undo_21 0 2 (by decide) dv_cf_0 rfl (by decide) uX7_undo_7 kX7_undo_1 rfl (v := .ref (a 3)) rfl ?_
    refine mm_getN X dX7_undo_24 3 1 (by decide) dv_cf_3 rfl (by decide) uX7_undo_6 (List.mem_of_getElem? (i := 13) rfl) rfl (v := .int (σ 3 1)) rfl ?_
    refine mm_iconst X dX7_undo_27 (v := 1) (by decide) ?_
    refine mm_isub X dX7_undo_28 ?_
    refine mm_callVi X dX7_undo_29 (As := [.int ((σ 3 1) - (1 : Int32))]) (rest := []) 46 (by decide) (dv_cf_row (j := 20) (by decide)) rfl hL (mX4_read hJ (j := 20) (by decide) (by decide) (res := (dr_rd σ 20 ((σ 3 1) - (1 : Int32)))) rfl) gX7_undo_X4_read rfl ⟨rfl, rfl⟩ hyX4_read ⟨Nat.le_of_ble_eq_true rfl, Nat.le_of_ble_eq_true rfl⟩ rfl (Nat.le_of_ble_eq_true rfl) ?_
    refine mm_istore_n X dX7_undo_32 (by decide) (lv2 := [(1, .int (dr_rd σ 20 ((σ 3 1) - (1 : Int32)))), (0, .ref (a 0))]) rfl ?_
    refine mm_aload_n X dX7_undo_33 1 rfl ?_
    refine mm_get X dX7_undo_34 0 1 (by decide) dv_cf_0 rfl (by decide) uX7_undo_7 kX7_undo_2 rfl (v := .ref (a 2)) rfl ?_
    refine mm_iload_n X dX7_undo_37 0 rfl ?_
    obtain ⟨q2, hq2, h⟩ := Option.bind_eq_some_iff.mp h
    refine mm_callVv X dX7_undo_38 (As := [.int (dr_rd σ 20 ((σ 3 1) - (1 : Int32)))]) (rest := []) 2 (by decide) dv_cf_2 rfl hL (mX2_emptyBatch hJ hq2) gX7_undo_X2_emptyBatch rfl ⟨rfl, rfl⟩ hyX2_emptyBatch ⟨Nat.le_of_ble_eq_true rfl, Nat.le_of_ble_eq_true rfl⟩ rfl (Nat.le_of_ble_eq_true rfl) ?_
    refine mm_aload_n X dX7_undo_41 1 rfl ?_
    refine mm_get X dX7_undo_42 0 2 (by decide) dv_cf_0 rfl (by decide) uX7_undo_7 kX7_undo_1 rfl (v := .ref (a 3)) rfl ?_
    refine mm_iload_n X dX7_undo_45 0 rfl ?_
    obtain ⟨q3, hq3, h⟩ := Option.bind_eq_some_iff.mp h
    refine mm_callVv X dX7_undo_46 (As := [.int (dr_rd σ 20 ((σ 3 1) - (1 : Int32)))]) (rest := []) 3 (by decide) dv_cf_3 rfl hL (mX6_dropLast hJ hq3) gX7_undo_X6_dropLast rfl ⟨rfl, rfl⟩ hyX6_dropLast ⟨Nat.le_of_ble_eq_true rfl, Nat.le_of_ble_eq_true rfl⟩ rfl (Nat.le_of_ble_eq_true rfl) ?_
    refine mm_aload_n X dX7_undo_49 1 rfl ?_
    refine mm_get X dX7_undo_50 0 2 (by decide) dv_cf_0 rfl (by decide) uX7_undo_7 kX7_undo_1 rfl (v := .ref (a 3)) rfl ?_
    refine mm_getN X dX7_undo_53 3 1 (by decide) dv_cf_3 rfl (by decide) uX7_undo_6 (List.mem_of_getElem? (i := 13) rfl) rfl (v := .int (q3 3 1)) rfl ?_
    obtain rfl := Option.some.inj h
    exact mm_iret X dX7_undo_56 rfl hQ rfl
  · have h := (if_pos c1).symm.trans h
    refine mm_bipush X dX7_undo_10 (v := -4) (by decide) ?_
    obtain rfl := Option.some.inj h
    exact mm_iret X dX7_undo_12 rfl hQ rfl
/-! LinenTunnel$Kinds.gap -/
def fX1_gap (σ : mm_M) (p1 p2 : Int32) : Int32 := (if (dr_rd σ 9 p1) = (1 : Int32) then (if (dr_rd σ 9 p2) = 0 then ((if (1 : Int32) < (if 0 ≤ ((dr_rd σ 7 p1) - (dr_rd σ 7 p2)) then ((dr_rd σ 7 p1) - (dr_rd σ 7 p2)) else 0 - ((dr_rd σ 7 p1) - (dr_rd σ 7 p2))) then ((if (0 : Int32) < ((dr_rd σ 8 p1) - (dr_rd σ 8 p2)) then ((dr_rd σ 8 p1) - (dr_rd σ 8 p2)) else (0 : Int32)) + 1) else (if (0 : Int32) < ((dr_rd σ 8 p1) - (dr_rd σ 8 p2)) then ((dr_rd σ 8 p1) - (dr_rd σ 8 p2)) else (0 : Int32))) + 2) else (if (1 : Int32) < (if 0 ≤ ((dr_rd σ 7 p1) - (dr_rd σ 7 p2)) then ((dr_rd σ 7 p1) - (dr_rd σ 7 p2)) else 0 - ((dr_rd σ 7 p1) - (dr_rd σ 7 p2))) then ((if (0 : Int32) < ((dr_rd σ 8 p1) - (dr_rd σ 8 p2)) then ((dr_rd σ 8 p1) - (dr_rd σ 8 p2)) else (0 : Int32)) + 1) else (if (0 : Int32) < ((dr_rd σ 8 p1) - (dr_rd σ 8 p2)) then ((dr_rd σ 8 p1) - (dr_rd σ 8 p2)) else (0 : Int32)))) else (if (1 : Int32) < (if 0 ≤ ((dr_rd σ 7 p1) - (dr_rd σ 7 p2)) then ((dr_rd σ 7 p1) - (dr_rd σ 7 p2)) else 0 - ((dr_rd σ 7 p1) - (dr_rd σ 7 p2))) then ((if (0 : Int32) < ((dr_rd σ 8 p1) - (dr_rd σ 8 p2)) then ((dr_rd σ 8 p1) - (dr_rd σ 8 p2)) else (0 : Int32)) + 1) else (if (0 : Int32) < ((dr_rd σ 8 p1) - (dr_rd σ 8 p2)) then ((dr_rd σ 8 p1) - (dr_rd σ 8 p2)) else (0 : Int32))))
abbrev rX1_gap : Room := { frames := 1, cells := 0, slots := 0, locals := 21 }
theorem hyX1_gap : yX1_gap.cls = RX1 ∧ yX1_gap.cls ≠ "java/lang/invoke/MethodHandle" ∧ yX1_gap.cls ≠ "java/lang/invoke/VarHandle" ∧ (parseMethodDescriptor yX1_gap.desc).map (fun d => d.parameters.length) = some 2 := by decide +kernel
theorem kX1_gap_1 : (Cond.fieldLink RX1 24 "LinenTunnel$Kinds" "colour" "LLinenTunnel$Row;" : Cond) ∈ wsX1_gap := List.mem_of_getElem? (i := 1) rfl
theorem uX1_gap_1 : ∀ w ∈ u_ws RX1 TX1 6, w ∈ wsX1_gap := fun _ h => (List.mem_cons_of_mem _ (List.mem_append_left _ (List.mem_append_right _ h)))
theorem kX1_gap_2 : (Cond.methodLink RX1 44 Lib.Math.max.name : Cond) ∈ wsX1_gap := List.mem_of_getElem? (i := 2) rfl
theorem kX1_gap_3 : (Cond.static Lib.Math.max.name : Cond) ∈ wsX1_gap := List.mem_of_getElem? (i := 3) rfl
theorem kX1_gap_4 : (Cond.initialized "java/lang/Math" : Cond) ∈ wsX1_gap := List.mem_of_getElem? (i := 4) rfl
theorem kX1_gap_5 : (Cond.code Lib.Math.max.name Lib.Math.max.code 2 (some .int) : Cond) ∈ wsX1_gap := List.mem_of_getElem? (i := 5) rfl
theorem kX1_gap_6 : (Cond.fieldLink RX1 20 "LinenTunnel$Kinds" "heat" "LLinenTunnel$Row;" : Cond) ∈ wsX1_gap := List.mem_of_getElem? (i := 6) rfl
theorem kX1_gap_7 : (Cond.methodLink RX1 50 Lib.Math.abs.name : Cond) ∈ wsX1_gap := List.mem_of_getElem? (i := 7) rfl
theorem kX1_gap_8 : (Cond.static Lib.Math.abs.name : Cond) ∈ wsX1_gap := List.mem_of_getElem? (i := 8) rfl
theorem kX1_gap_9 : (Cond.code Lib.Math.abs.name Lib.Math.abs.code 1 (some .int) : Cond) ∈ wsX1_gap := List.mem_of_getElem? (i := 9) rfl
theorem kX1_gap_10 : (Cond.fieldLink RX1 27 "LinenTunnel$Kinds" "foul" "LLinenTunnel$Row;" : Cond) ∈ wsX1_gap := List.mem_of_getElem? (i := 10) rfl
set_option maxRecDepth 100000 in
set_option maxHeartbeats 4000000 in
theorem mX1_gap {l : Launch} {D : va_G} {cI : ClassId} {a : Nat → Nat} (hJ : mm_J 59 a) {σ : mm_M} {p1 p2 : Int32} {res : Int32} (h : fX1_gap σ p1 p2 = res) (sz : Nat) : Met l yX1_gap wsX1_gap rX1_gap (dP D cI a σ [.ref (a 1), .int p1, .int p2] sz) (dQi D cI a res σ sz) 0 0 (mm_A 59 a sz) := by
  refine mm_met (fun sz => dQi D cI a res σ sz) (lv := [(0, .ref (a 1)), (1, .int p1), (2, .int p2)]) (ret := (some .int)) (cc := cX1_gap) (maxL := 4) (own := RX1) hJ (by decide +kernel) rfl rfl (Nat.le_of_ble_eq_true rfl) rfl ?_ sz
  intro K hL X hQ
  unfold fX1_gap at h
  refine mm_iconst X dX1_gap_0 (v := 0) (by decide) ?_
  refine mm_aload_n X dX1_gap_1 0 rfl ?_
  refine mm_get X dX1_gap_2 1 2 (by decide) dv_cf_1 rfl (by decide) uX1_gap_1 kX1_gap_1 rfl (v := .ref (a 34)) rfl ?_
  refine mm_iload_n X dX1_gap_5 1 rfl ?_
  refine mm_callVi X dX1_gap_6 (As := [.int p1]) (rest := [.int (0 : Int32)]) 34 (by decide) (dv_cf_row (j := 8) (by decide)) rfl hL (mX4_read hJ (j := 8) (by decide) (by decide) (res := (dr_rd σ 8 p1)) rfl) gX1_gap_X4_read rfl ⟨rfl, rfl⟩ hyX4_read ⟨Nat.le_of_ble_eq_true rfl, Nat.le_of_ble_eq_true rfl⟩ rfl (Nat.le_of_ble_eq_true rfl) ?_
  refine mm_aload_n X dX1_gap_9 0 rfl ?_
  refine mm_get X dX1_gap_10 1 2 (by decide) dv_cf_1 rfl (by decide) uX1_gap_1 kX1_gap_1 rfl (v := .ref (a 34)) rfl ?_
  refine mm_iload_n X dX1_gap_13 2 rfl ?_
  refine mm_callVi X dX1_gap_14 (As := [.int p2]) (rest := [.int (dr_rd σ 8 p1), .int (0 : Int32)]) 34 (by decide) (dv_cf_row (j := 8) (by decide)) rfl hL (mX4_read hJ (j := 8) (by decide) (by decide) (res := (dr_rd σ 8 p2)) rfl) gX1_gap_X4_read rfl ⟨rfl, rfl⟩ hyX4_read ⟨Nat.le_of_ble_eq_true rfl, Nat.le_of_ble_eq_true rfl⟩ rfl (Nat.le_of_ble_eq_true rfl) ?_
  refine mm_isub X dX1_gap_17 ?_
  refine mm_mmax X dX1_gap_18 kX1_gap_2 kX1_gap_3 kX1_gap_4 kX1_gap_5 ⟨Nat.le_of_ble_eq_true rfl, Nat.le_of_ble_eq_true rfl⟩ ?_
  refine mm_istore_n X dX1_gap_21 (by decide) (lv2 := [(3, .int (if (0 : Int32) < ((dr_rd σ 8 p1) - (dr_rd σ 8 p2)) then ((dr_rd σ 8 p1) - (dr_rd σ 8 p2)) else (0 : Int32))), (0, .ref (a 1)), (1, .int p1), (2, .int p2)]) rfl ?_
  refine mm_aload_n X dX1_gap_22 1 rfl ?_
  refine mm_get X dX1_gap_23 1 1 (by decide) dv_cf_1 rfl (by decide) uX1_gap_1 kX1_gap_6 rfl (v := .ref (a 33)) rfl ?_
  refine mm_iload_n X dX1_gap_26 2 rfl ?_
  refine mm_callVi X dX1_gap_27 (As := [.int p1]) (rest := []) 33 (by decide) (dv_cf_row (j := 7) (by decide)) rfl hL (mX4_read hJ (j := 7) (by decide) (by decide) (res := (dr_rd σ 7 p1)) rfl) gX1_gap_X4_read rfl ⟨rfl, rfl⟩ hyX4_read ⟨Nat.le_of_ble_eq_true rfl, Nat.le_of_ble_eq_true rfl⟩ rfl (Nat.le_of_ble_eq_true rfl) ?_
  refine mm_aload_n X dX1_gap_30 1 rfl ?_
  refine mm_get X dX1_gap_31 1 1 (by decide) dv_cf_1 rfl (by decide) uX1_gap_1 kX1_gap_6 rfl (v := .ref (a 33)) rfl ?_
  refine mm_iload_n X dX1_gap_34 3 rfl ?_
  refine mm_callVi X dX1_gap_35 (As := [.int p2]) (rest := [.int (dr_rd σ 7 p1)]) 33 (by decide) (dv_cf_row (j := 7) (by decide)) rfl hL (mX4_read hJ (j := 7) (by decide) (by decide) (res := (dr_rd σ 7 p2)) rfl) gX1_gap_X4_read rfl ⟨rfl, rfl⟩ hyX4_read ⟨Nat.le_of_ble_eq_true rfl, Nat.le_of_ble_eq_true rfl⟩ rfl (Nat.le_of_ble_eq_true rfl) ?_
  refine mm_isub X dX1_gap_38 ?_
  refine mm_mabs X dX1_gap_39 kX1_gap_7 kX1_gap_8 kX1_gap_4 kX1_gap_9 ⟨Nat.le_of_ble_eq_true rfl, Nat.le_of_ble_eq_true rfl⟩ ?_
  refine mm_iconst X dX1_gap_42 (v := 1) (by decide) ?_
  have J6 : ∀ (v1 : Int32), v1 = (if (1 : Int32) < (if 0 ≤ ((dr_rd σ 7 p1) - (dr_rd σ 7 p2)) then ((dr_rd σ 7 p1) - (dr_rd σ 7 p2)) else 0 - ((dr_rd σ 7 p1) - (dr_rd σ 7 p2))) then ((if (0 : Int32) < ((dr_rd σ 8 p1) - (dr_rd σ 8 p2)) then ((dr_rd σ 8 p1) - (dr_rd σ 8 p2)) else (0 : Int32)) + 1) else (if (0 : Int32) < ((dr_rd σ 8 p1) - (dr_rd σ 8 p2)) then ((dr_rd σ 8 p1) - (dr_rd σ 8 p2)) else (0 : Int32))) → dG K D cI a σ 49 [(0, .ref (a 1)), (1, .int p1), (2, .int p2), (3, .int v1)] [] := by
    intro v1 ev1
    subst ev1
    refine mm_aload_n X dX1_gap_49 0 rfl ?_
    refine mm_get X dX1_gap_50 1 3 (by decide) dv_cf_1 rfl (by decide) uX1_gap_1 kX1_gap_10 rfl (v := .ref (a 35)) rfl ?_
    refine mm_iload_n X dX1_gap_53 1 rfl ?_
    refine mm_callVi X dX1_gap_54 (As := [.int p1]) (rest := []) 35 (by decide) (dv_cf_row (j := 9) (by decide)) rfl hL (mX4_read hJ (j := 9) (by decide) (by decide) (res := (dr_rd σ 9 p1)) rfl) gX1_gap_X4_read rfl ⟨rfl, rfl⟩ hyX4_read ⟨Nat.le_of_ble_eq_true rfl, Nat.le_of_ble_eq_true rfl⟩ rfl (Nat.le_of_ble_eq_true rfl) ?_
    refine mm_iconst X dX1_gap_57 (v := 1) (by decide) ?_
    have J3 : ∀ (v2 : Int32), v2 = (if (dr_rd σ 9 p1) = (1 : Int32) then (if (dr_rd σ 9 p2) = 0 then ((if (1 : Int32) < (if 0 ≤ ((dr_rd σ 7 p1) - (dr_rd σ 7 p2)) then ((dr_rd σ 7 p1) - (dr_rd σ 7 p2)) else 0 - ((dr_rd σ 7 p1) - (dr_rd σ 7 p2))) then ((if (0 : Int32) < ((dr_rd σ 8 p1) - (dr_rd σ 8 p2)) then ((dr_rd σ 8 p1) - (dr_rd σ 8 p2)) else (0 : Int32)) + 1) else (if (0 : Int32) < ((dr_rd σ 8 p1) - (dr_rd σ 8 p2)) then ((dr_rd σ 8 p1) - (dr_rd σ 8 p2)) else (0 : Int32))) + 2) else (if (1 : Int32) < (if 0 ≤ ((dr_rd σ 7 p1) - (dr_rd σ 7 p2)) then ((dr_rd σ 7 p1) - (dr_rd σ 7 p2)) else 0 - ((dr_rd σ 7 p1) - (dr_rd σ 7 p2))) then ((if (0 : Int32) < ((dr_rd σ 8 p1) - (dr_rd σ 8 p2)) then ((dr_rd σ 8 p1) - (dr_rd σ 8 p2)) else (0 : Int32)) + 1) else (if (0 : Int32) < ((dr_rd σ 8 p1) - (dr_rd σ 8 p2)) then ((dr_rd σ 8 p1) - (dr_rd σ 8 p2)) else (0 : Int32)))) else (if (1 : Int32) < (if 0 ≤ ((dr_rd σ 7 p1) - (dr_rd σ 7 p2)) then ((dr_rd σ 7 p1) - (dr_rd σ 7 p2)) else 0 - ((dr_rd σ 7 p1) - (dr_rd σ 7 p2))) then ((if (0 : Int32) < ((dr_rd σ 8 p1) - (dr_rd σ 8 p2)) then ((dr_rd σ 8 p1) - (dr_rd σ 8 p2)) else (0 : Int32)) + 1) else (if (0 : Int32) < ((dr_rd σ 8 p1) - (dr_rd σ 8 p2)) then ((dr_rd σ 8 p1) - (dr_rd σ 8 p2)) else (0 : Int32)))) → dG K D cI a σ 75 [(3, .int v2)] [] := by
      intro v2 ev2
      subst ev2
      refine mm_iload_n X dX1_gap_75 0 rfl ?_
      subst h
      exact mm_iret X dX1_gap_76 rfl hQ rfl
    refine mm_icmp_ne X dX1_gap_58 (tgt := 75) (by decide) (fun c4 => ?_) (fun c4 => ?_)
    · refine mm_loc [3] rfl ?_
      exact J3 _ (by rw [if_neg c4])
    · refine mm_aload_n X dX1_gap_61 0 rfl ?_
      refine mm_get X dX1_gap_62 1 3 (by decide) dv_cf_1 rfl (by decide) uX1_gap_1 kX1_gap_10 rfl (v := .ref (a 35)) rfl ?_
      refine mm_iload_n X dX1_gap_65 2 rfl ?_
      refine mm_callVi X dX1_gap_66 (As := [.int p2]) (rest := []) 35 (by decide) (dv_cf_row (j := 9) (by decide)) rfl hL (mX4_read hJ (j := 9) (by decide) (by decide) (res := (dr_rd σ 9 p2)) rfl) gX1_gap_X4_read rfl ⟨rfl, rfl⟩ hyX4_read ⟨Nat.le_of_ble_eq_true rfl, Nat.le_of_ble_eq_true rfl⟩ rfl (Nat.le_of_ble_eq_true rfl) ?_
      refine mm_if_ne X dX1_gap_69 (tgt := 75) (by decide) (fun c5 => ?_) (fun c5 => ?_)
      · refine mm_loc [3] rfl ?_
        exact J3 _ (by rw [if_pos c4, if_neg c5])
      · refine mm_iinc X dX1_gap_72 3 rfl (v := ((if (1 : Int32) < (if 0 ≤ ((dr_rd σ 7 p1) - (dr_rd σ 7 p2)) then ((dr_rd σ 7 p1) - (dr_rd σ 7 p2)) else 0 - ((dr_rd σ 7 p1) - (dr_rd σ 7 p2))) then ((if (0 : Int32) < ((dr_rd σ 8 p1) - (dr_rd σ 8 p2)) then ((dr_rd σ 8 p1) - (dr_rd σ 8 p2)) else (0 : Int32)) + 1) else (if (0 : Int32) < ((dr_rd σ 8 p1) - (dr_rd σ 8 p2)) then ((dr_rd σ 8 p1) - (dr_rd σ 8 p2)) else (0 : Int32))) + 2)) rfl (by decide) (lv2 := [(3, .int ((if (1 : Int32) < (if 0 ≤ ((dr_rd σ 7 p1) - (dr_rd σ 7 p2)) then ((dr_rd σ 7 p1) - (dr_rd σ 7 p2)) else 0 - ((dr_rd σ 7 p1) - (dr_rd σ 7 p2))) then ((if (0 : Int32) < ((dr_rd σ 8 p1) - (dr_rd σ 8 p2)) then ((dr_rd σ 8 p1) - (dr_rd σ 8 p2)) else (0 : Int32)) + 1) else (if (0 : Int32) < ((dr_rd σ 8 p1) - (dr_rd σ 8 p2)) then ((dr_rd σ 8 p1) - (dr_rd σ 8 p2)) else (0 : Int32))) + 2)), (0, .ref (a 1)), (1, .int p1), (2, .int p2)]) rfl ?_
        refine mm_loc [0] rfl ?_
        exact J3 _ (by rw [if_pos c4, if_pos c5])
  refine mm_icmp_le X dX1_gap_43 (tgt := 49) (by decide) (fun c7 => ?_) (fun c7 => ?_)
  · refine mm_loc [1, 2, 3, 0] rfl ?_
    exact J6 _ (by rw [if_neg c7])
  · refine mm_iinc X dX1_gap_46 0 rfl (v := ((if (0 : Int32) < ((dr_rd σ 8 p1) - (dr_rd σ 8 p2)) then ((dr_rd σ 8 p1) - (dr_rd σ 8 p2)) else (0 : Int32)) + 1)) rfl (by decide) (lv2 := [(3, .int ((if (0 : Int32) < ((dr_rd σ 8 p1) - (dr_rd σ 8 p2)) then ((dr_rd σ 8 p1) - (dr_rd σ 8 p2)) else (0 : Int32)) + 1)), (0, .ref (a 1)), (1, .int p1), (2, .int p2)]) rfl ?_
    refine mm_loc [1, 2, 3, 0] rfl ?_
    exact J6 _ (by rw [if_pos c7])
/-! LinenTunnel.between -/
def fX7_between (σ : mm_M) (p1 p2 : Int32) : Int32 := (if (fX7_isKind σ p1) = 0 then (-2 : Int32) else (if (fX7_isKind σ p2) = 0 then (-2 : Int32) else (fX1_gap σ p1 p2)))
abbrev rX7_between : Room := { frames := 2, cells := 0, slots := 0, locals := 44 }
theorem hyX7_between : yX7_between.cls = RX7 ∧ yX7_between.cls ≠ "java/lang/invoke/MethodHandle" ∧ yX7_between.cls ≠ "java/lang/invoke/VarHandle" ∧ (parseMethodDescriptor yX7_between.desc).map (fun d => d.parameters.length) = some 2 := by decide +kernel
theorem kX7_between_1 : (Cond.fieldLink RX7 12 "LinenTunnel" "kinds" "LLinenTunnel$Kinds;" : Cond) ∈ wsX7_between := List.mem_of_getElem? (i := 1) rfl
theorem uX7_between_7 : ∀ w ∈ u_ws RX7 TX7 7, w ∈ wsX7_between := fun _ h => (List.mem_cons_of_mem _ (List.mem_append_left _ (List.mem_append_left _ (List.mem_append_right _ h))))
set_option maxRecDepth 100000 in
set_option maxHeartbeats 4000000 in
theorem mX7_between {l : Launch} {D : va_G} {cI : ClassId} {a : Nat → Nat} (hJ : mm_J 59 a) {σ : mm_M} {p1 p2 : Int32} {res : Int32} (h : fX7_between σ p1 p2 = res) (sz : Nat) : Met l yX7_between wsX7_between rX7_between (dP D cI a σ [.ref (a 0), .int p1, .int p2] sz) (dQi D cI a res σ sz) 0 0 (mm_A 59 a sz) := by
  refine mm_met (fun sz => dQi D cI a res σ sz) (lv := [(0, .ref (a 0)), (1, .int p1), (2, .int p2)]) (ret := (some .int)) (cc := cX7_between) (maxL := 3) (own := RX7) hJ (by decide +kernel) rfl rfl (Nat.le_of_ble_eq_true rfl) rfl ?_ sz
  intro K hL X hQ
  unfold fX7_between at h
  refine mm_aload_n X dX7_between_0 0 rfl ?_
  refine mm_iload_n X dX7_between_1 1 rfl ?_
  refine mm_callVi X dX7_between_2 (As := [.int p1]) (rest := []) 0 (by decide) dv_cf_0 rfl hL (mX7_isKind hJ (res := fX7_isKind σ p1) rfl) gX7_between_X7_isKind rfl ⟨rfl, rfl⟩ hyX7_isKind ⟨Nat.le_of_ble_eq_true rfl, Nat.le_of_ble_eq_true rfl⟩ rfl (Nat.le_of_ble_eq_true rfl) ?_
  refine mm_if_eq X dX7_between_5 (tgt := 28) (by decide) (fun c1 => ?_) (fun c1 => ?_)
  · have h := (if_pos c1).symm.trans h
    refine mm_bipush X dX7_between_28 (v := -2) (by decide) ?_
    subst h
    exact mm_iret X dX7_between_30 rfl hQ rfl
  · have h := (if_neg c1).symm.trans h
    refine mm_aload_n X dX7_between_8 0 rfl ?_
    refine mm_iload_n X dX7_between_9 2 rfl ?_
    refine mm_callVi X dX7_between_10 (As := [.int p2]) (rest := []) 0 (by decide) dv_cf_0 rfl hL (mX7_isKind hJ (res := fX7_isKind σ p2) rfl) gX7_between_X7_isKind rfl ⟨rfl, rfl⟩ hyX7_isKind ⟨Nat.le_of_ble_eq_true rfl, Nat.le_of_ble_eq_true rfl⟩ rfl (Nat.le_of_ble_eq_true rfl) ?_
    refine mm_if_eq X dX7_between_13 (tgt := 28) (by decide) (fun c2 => ?_) (fun c2 => ?_)
    · have h := (if_pos c2).symm.trans h
      refine mm_bipush X dX7_between_28 (v := -2) (by decide) ?_
      subst h
      exact mm_iret X dX7_between_30 rfl hQ rfl
    · have h := (if_neg c2).symm.trans h
      refine mm_aload_n X dX7_between_16 0 rfl ?_
      refine mm_get X dX7_between_17 0 0 (by decide) dv_cf_0 rfl (by decide) uX7_between_7 kX7_between_1 rfl (v := .ref (a 1)) rfl ?_
      refine mm_iload_n X dX7_between_20 1 rfl ?_
      refine mm_iload_n X dX7_between_21 2 rfl ?_
      refine mm_callVi X dX7_between_22 (As := [.int p1, .int p2]) (rest := []) 1 (by decide) dv_cf_1 rfl hL (mX1_gap hJ (res := fX1_gap σ p1 p2) rfl) gX7_between_X1_gap rfl ⟨rfl, rfl⟩ hyX1_gap ⟨Nat.le_of_ble_eq_true rfl, Nat.le_of_ble_eq_true rfl⟩ rfl (Nat.le_of_ble_eq_true rfl) ?_
      refine mm_goto X dX7_between_25 (tgt := 30) (by decide) ?_
      subst h
      exact mm_iret X dX7_between_30 rfl hQ rfl
