/-! LinenTunnel$House.washOrder -/
def fX0_washOrder_6 (F : Nat) : Nat → Int32 → mm_M → Option (mm_M)
  | 0, _, _ => none
  | k + 1, l1, σ => (if l1 < (σ 3 1) then (fX0_lineUp F σ l1).bind fun q2 => fX0_washOrder_6 F k (l1 + 1) q2 else some (σ))
def fX0_washOrder_30 (F : Nat) : Nat → Int32 → mm_M → Option (Int32 × mm_M)
  | 0, _, _ => none
  | k + 1, l1, σ => (if (σ 5 8) < (dr_rd σ 29 (5 : Int32)) then (if l1 < (1000000 : Int32) then (fX0_doBeat F σ (l1 + 1)).bind fun q3 => fX0_washOrder_30 F k (l1 + 1) q3 else some (l1, σ)) else some (l1, σ))
def fX0_washOrder (F : Nat) (σ : mm_M) : Option (Int32 × mm_M) := (fX0_washOrder_6 F F (0 : Int32) (fX0_clear σ)).bind fun q1 => (fX0_washOrder_30 F F (0 : Int32) q1).bind fun q2 => (fX0_ironAll F (dr_wr q2.2 29 (0 : Int32) q2.1)).bind fun q3 => some (q2.1, (mm_up q3 5 5 ((q3 5 5) + (1 : Int32))))
abbrev rX0_washOrder : Room := { frames := 6, cells := 0, slots := 0, locals := 133 }
theorem hyX0_washOrder : yX0_washOrder.cls = RX0 ∧ yX0_washOrder.cls ≠ "java/lang/invoke/MethodHandle" ∧ yX0_washOrder.cls ≠ "java/lang/invoke/VarHandle" ∧ (parseMethodDescriptor yX0_washOrder.desc).map (fun d => d.parameters.length) = some 0 := by decide +kernel
theorem kX0_washOrder_1 : (Cond.fieldLink RX0 64 "LinenTunnel$House" "waiting" "LLinenTunnel$Waiting;" : Cond) ∈ wsX0_washOrder := List.mem_of_getElem? (i := 1) rfl
theorem uX0_washOrder_0 : ∀ w ∈ u_ws RX0 TX0 16, w ∈ wsX0_washOrder := fun _ h => (List.mem_cons_of_mem _ (List.mem_append_left _ (List.mem_append_left _ (List.mem_append_left _ (List.mem_append_right _ h)))))
theorem uX0_washOrder_6 : ∀ w ∈ u_ws RX6 TX6 5, w ∈ wsX0_washOrder := fun _ h => (List.mem_cons_of_mem _ (List.mem_append_left _ (List.mem_append_left _ (List.mem_append_right _ h))))
theorem kX0_washOrder_2 : (Cond.fieldLink RX0 30 "LinenTunnel$House" "gone" "I" : Cond) ∈ wsX0_washOrder := List.mem_of_getElem? (i := 2) rfl
theorem kX0_washOrder_3 : (Cond.fieldLink RX0 57 "LinenTunnel$House" "totals" "LLinenTunnel$Row;" : Cond) ∈ wsX0_washOrder := List.mem_of_getElem? (i := 3) rfl
theorem kX0_washOrder_4 : (Cond.constant RX0 87 (1000000) : Cond) ∈ wsX0_washOrder := List.mem_of_getElem? (i := 4) rfl
theorem kX0_washOrder_5 : (Cond.fieldLink RX0 21 "LinenTunnel$House" "washes" "I" : Cond) ∈ wsX0_washOrder := List.mem_of_getElem? (i := 5) rfl
set_option maxRecDepth 100000 in
set_option maxHeartbeats 4000000 in
theorem tX0_washOrder_6 {l : Launch} {K : mm_K} {D : va_G} {cI : ClassId} {a : Nat → Nat} (X : dC K rX0_washOrder cX0_washOrder 2 (some .int) wsX0_washOrder RX0 D cI a) (hL : mm_L K l) (hJ : mm_J 59 a) {F : Nat} {out : mm_M} (hx : dG K D cI a out 28 [(0, .ref (a 5))] []) : ∀ (k : Nat) (l1 : Int32) (σ : mm_M), fX0_washOrder_6 F k l1 σ = some out → dG K D cI a σ 6 [(0, .ref (a 5)), (1, .int l1)] [] := by
  intro k
  induction k with
  | zero =>
    intro l1 σ h
    have h : none = some out := h
    cases h
  | succ k ih =>
    intro l1 σ h
    rw [fX0_washOrder_6] at h
    refine mm_iload_n X dX0_washOrder_6 1 rfl ?_
    refine mm_aload_n X dX0_washOrder_7 0 rfl ?_
    refine mm_get X dX0_washOrder_8 5 1 (by decide) dv_cf_5 rfl (by decide) uX0_washOrder_0 kX0_washOrder_1 rfl (v := .ref (a 3)) rfl ?_
    refine mm_getN X dX0_washOrder_11 3 1 (by decide) dv_cf_3 rfl (by decide) uX0_washOrder_6 (List.mem_of_getElem? (i := 12) rfl) rfl (v := .int (σ 3 1)) rfl ?_
    refine mm_icmp_ge X dX0_washOrder_14 (tgt := 28) (by decide) (fun c1 => ?_) (fun c1 => ?_)
    · have h := (if_neg c1).symm.trans h
      obtain rfl := Option.some.inj h
      refine mm_loc [0] rfl ?_
      exact hx
    · have h := (if_pos c1).symm.trans h
      refine mm_aload_n X dX0_washOrder_17 0 rfl ?_
      refine mm_iload_n X dX0_washOrder_18 1 rfl ?_
      obtain ⟨q2, hq2, h⟩ := Option.bind_eq_some_iff.mp h
      refine mm_callVv X dX0_washOrder_19 (As := [.int l1]) (rest := []) 5 (by decide) dv_cf_5 rfl hL (mX0_lineUp hJ hq2) gX0_washOrder_X0_lineUp rfl ⟨rfl, rfl⟩ hyX0_lineUp ⟨Nat.le_of_ble_eq_true rfl, Nat.le_of_ble_eq_true rfl⟩ rfl (Nat.le_of_ble_eq_true rfl) ?_
      refine mm_iinc X dX0_washOrder_22 1 rfl (v := (l1 + 1)) rfl (by decide) (lv2 := [(1, .int (l1 + 1)), (0, .ref (a 5))]) rfl ?_
      refine mm_goto X dX0_washOrder_25 (tgt := 6) (by decide) ?_
      refine mm_loc [1, 0] rfl ?_
      exact ih _ _ h
set_option maxRecDepth 100000 in
set_option maxHeartbeats 4000000 in
theorem tX0_washOrder_30 {l : Launch} {K : mm_K} {D : va_G} {cI : ClassId} {a : Nat → Nat} (X : dC K rX0_washOrder cX0_washOrder 2 (some .int) wsX0_washOrder RX0 D cI a) (hL : mm_L K l) (hJ : mm_J 59 a) {F : Nat} {out : Int32 × mm_M} (hx : dG K D cI a out.2 62 [(0, .ref (a 5)), (1, .int out.1)] []) : ∀ (k : Nat) (l1 : Int32) (σ : mm_M), fX0_washOrder_30 F k l1 σ = some out → dG K D cI a σ 30 [(0, .ref (a 5)), (1, .int l1)] [] := by
  intro k
  induction k with
  | zero =>
    intro l1 σ h
    have h : none = some out := h
    cases h
  | succ k ih =>
    intro l1 σ h
    rw [fX0_washOrder_30] at h
    refine mm_aload_n X dX0_washOrder_30 0 rfl ?_
    refine mm_get X dX0_washOrder_31 5 8 (by decide) dv_cf_5 rfl (by decide) uX0_washOrder_0 kX0_washOrder_2 rfl (v := .int (σ 5 8)) rfl ?_
    refine mm_aload_n X dX0_washOrder_34 0 rfl ?_
    refine mm_get X dX0_washOrder_35 5 15 (by decide) dv_cf_5 rfl (by decide) uX0_washOrder_0 kX0_washOrder_3 rfl (v := .ref (a 55)) rfl ?_
    refine mm_iconst X dX0_washOrder_38 (v := 5) (by decide) ?_
    refine mm_callVi X dX0_washOrder_39 (As := [.int (5 : Int32)]) (rest := [.int (σ 5 8)]) 55 (by decide) (dv_cf_row (j := 29) (by decide)) rfl hL (mX4_read hJ (j := 29) (by decide) (by decide) (res := (dr_rd σ 29 (5 : Int32))) rfl) gX0_washOrder_X4_read rfl ⟨rfl, rfl⟩ hyX4_read ⟨Nat.le_of_ble_eq_true rfl, Nat.le_of_ble_eq_true rfl⟩ rfl (Nat.le_of_ble_eq_true rfl) ?_
    refine mm_icmp_ge X dX0_washOrder_42 (tgt := 62) (by decide) (fun c1 => ?_) (fun c1 => ?_)
    · have h := (if_neg c1).symm.trans h
      obtain rfl := Option.some.inj h
      exact hx
    · have h := (if_pos c1).symm.trans h
      refine mm_iload_n X dX0_washOrder_45 1 rfl ?_
      refine mm_ldc X dX0_washOrder_46 kX0_washOrder_4 ?_
      refine mm_icmp_ge X dX0_washOrder_48 (tgt := 62) (by decide) (fun c2 => ?_) (fun c2 => ?_)
      · have h := (if_neg c2).symm.trans h
        obtain rfl := Option.some.inj h
        exact hx
      · have h := (if_pos c2).symm.trans h
        refine mm_iinc X dX0_washOrder_51 1 rfl (v := (l1 + 1)) rfl (by decide) (lv2 := [(1, .int (l1 + 1)), (0, .ref (a 5))]) rfl ?_
        refine mm_aload_n X dX0_washOrder_54 1 rfl ?_
        refine mm_iload_n X dX0_washOrder_55 0 rfl ?_
        obtain ⟨q3, hq3, h⟩ := Option.bind_eq_some_iff.mp h
        refine mm_callVv X dX0_washOrder_56 (As := [.int (l1 + 1)]) (rest := []) 5 (by decide) dv_cf_5 rfl hL (mX0_doBeat hJ hq3) gX0_washOrder_X0_doBeat rfl ⟨rfl, rfl⟩ hyX0_doBeat ⟨Nat.le_of_ble_eq_true rfl, Nat.le_of_ble_eq_true rfl⟩ rfl (Nat.le_of_ble_eq_true rfl) ?_
        refine mm_goto X dX0_washOrder_59 (tgt := 30) (by decide) ?_
        refine mm_loc [1, 0] rfl ?_
        exact ih _ _ h
set_option maxRecDepth 100000 in
set_option maxHeartbeats 4000000 in
theorem mX0_washOrder {l : Launch} {D : va_G} {cI : ClassId} {a : Nat → Nat} (hJ : mm_J 59 a) {F : Nat} {σ : mm_M} {res : Int32 × mm_M} (h : fX0_washOrder F σ = some res) (sz : Nat) : Met l yX0_washOrder wsX0_washOrder rX0_washOrder (dP D cI a σ [.ref (a 5)] sz) (dQi D cI a res.1 res.2 sz) 0 0 (mm_A 59 a sz) := by
  refine mm_met (fun sz => dQi D cI a res.1 res.2 sz) (lv := [(0, .ref (a 5))]) (ret := (some .int)) (cc := cX0_washOrder) (maxL := 2) (own := RX0) hJ (by decide +kernel) rfl rfl (Nat.le_of_ble_eq_true rfl) rfl ?_ sz
  intro K hL X hQ
  unfold fX0_washOrder at h
  refine mm_aload_n X dX0_washOrder_0 0 rfl ?_
  refine mm_callVv X dX0_washOrder_1 (As := []) (rest := []) 5 (by decide) dv_cf_5 rfl hL (mX0_clear hJ (res := fX0_clear σ) rfl) gX0_washOrder_X0_clear rfl ⟨rfl, rfl⟩ hyX0_clear ⟨Nat.le_of_ble_eq_true rfl, Nat.le_of_ble_eq_true rfl⟩ rfl (Nat.le_of_ble_eq_true rfl) ?_
  refine mm_iconst X dX0_washOrder_4 (v := 0) (by decide) ?_
  refine mm_istore_n X dX0_washOrder_5 (by decide) (lv2 := [(1, .int (0 : Int32)), (0, .ref (a 5))]) rfl ?_
  obtain ⟨q1, hq1, h⟩ := Option.bind_eq_some_iff.mp h
  refine mm_loc [1, 0] rfl ?_
  refine tX0_washOrder_6 X hL hJ ?_ F (0 : Int32) (fX0_clear σ) hq1
  refine mm_iconst X dX0_washOrder_28 (v := 0) (by decide) ?_
  refine mm_istore_n X dX0_washOrder_29 (by decide) (lv2 := [(1, .int (0 : Int32)), (0, .ref (a 5))]) rfl ?_
  obtain ⟨q2, hq2, h⟩ := Option.bind_eq_some_iff.mp h
  refine mm_loc [1, 0] rfl ?_
  refine tX0_washOrder_30 X hL hJ ?_ F (0 : Int32) q1 hq2
  refine mm_aload_n X dX0_washOrder_62 0 rfl ?_
  refine mm_get X dX0_washOrder_63 5 15 (by decide) dv_cf_5 rfl (by decide) uX0_washOrder_0 kX0_washOrder_3 rfl (v := .ref (a 55)) rfl ?_
  refine mm_iconst X dX0_washOrder_66 (v := 0) (by decide) ?_
  refine mm_iload_n X dX0_washOrder_67 1 rfl ?_
  refine mm_callVv X dX0_washOrder_68 (As := [.int (0 : Int32), .int q2.1]) (rest := []) 55 (by decide) (dv_cf_row (j := 29) (by decide)) rfl hL (mX4_write hJ (j := 29) (by decide) (by decide) (res := dr_wr q2.2 29 (0 : Int32) q2.1) rfl) gX0_washOrder_X4_write rfl ⟨rfl, rfl⟩ hyX4_write ⟨Nat.le_of_ble_eq_true rfl, Nat.le_of_ble_eq_true rfl⟩ rfl (Nat.le_of_ble_eq_true rfl) ?_
  refine mm_aload_n X dX0_washOrder_71 0 rfl ?_
  obtain ⟨q3, hq3, h⟩ := Option.bind_eq_some_iff.mp h
  refine mm_callVv X dX0_washOrder_72 (As := []) (rest := []) 5 (by decide) dv_cf_5 rfl hL (mX0_ironAll hJ hq3) gX0_washOrder_X0_ironAll rfl ⟨rfl, rfl⟩ hyX0_ironAll ⟨Nat.le_of_ble_eq_true rfl, Nat.le_of_ble_eq_true rfl⟩ rfl (Nat.le_of_ble_eq_true rfl) ?_
  refine mm_aload_n X dX0_washOrder_75 0 rfl ?_
  refine mm_dup X dX0_washOrder_76 rfl ?_
  refine mm_get X dX0_washOrder_77 5 5 (by decide) dv_cf_5 rfl (by decide) uX0_washOrder_0 kX0_washOrder_5 rfl (v := .int (q3 5 5)) rfl ?_
  refine mm_iconst X dX0_washOrder_80 (v := 1) (by decide) ?_
  refine mm_iadd X dX0_washOrder_81 ?_
  refine mm_put X dX0_washOrder_82 5 5 (by decide) tyX0 tyX0_ok nmX0 dv_cf_5 rfl rfl (by decide) uX0_washOrder_0 kX0_washOrder_5 rfl rfl rfl (Nat.le_of_ble_eq_true rfl) ?_
  refine mm_iload_n X dX0_washOrder_85 1 rfl ?_
  obtain rfl := Option.some.inj h
  exact mm_iret X dX0_washOrder_86 rfl hQ rfl
/-! LinenTunnel$Linen.cleanBatches -/
def fX2_cleanBatches_2 (F : Nat) : Nat → Int32 → mm_M → Option (mm_M)
  | 0, _, _ => none
  | k + 1, l1, σ => (if l1 < (σ 2 0) then fX2_cleanBatches_2 F k (l1 + 1) (if (dr_rd σ 15 l1) = (2 : Int32) then (dr_wr (dr_wr (dr_wr σ 15 l1 (3 : Int32)) 17 l1 (-1 : Int32)) 16 l1 ((dr_rd σ 16 l1) + (1 : Int32))) else σ) else some (σ))
def fX2_cleanBatches (F : Nat) (σ : mm_M) : Option (mm_M) := (fX2_cleanBatches_2 F F (0 : Int32) σ).bind fun q1 => some q1
abbrev rX2_cleanBatches : Room := { frames := 1, cells := 0, slots := 0, locals := 22 }
theorem hyX2_cleanBatches : yX2_cleanBatches.cls = RX2 ∧ yX2_cleanBatches.cls ≠ "java/lang/invoke/MethodHandle" ∧ yX2_cleanBatches.cls ≠ "java/lang/invoke/VarHandle" ∧ (parseMethodDescriptor yX2_cleanBatches.desc).map (fun d => d.parameters.length) = some 0 := by decide +kernel
theorem kX2_cleanBatches_1 : (Cond.fieldLink RX2 9 "LinenTunnel$Linen" "number" "I" : Cond) ∈ wsX2_cleanBatches := List.mem_of_getElem? (i := 1) rfl
theorem uX2_cleanBatches_2 : ∀ w ∈ u_ws RX2 TX2 7, w ∈ wsX2_cleanBatches := fun _ h => (List.mem_cons_of_mem _ (List.mem_append_left _ (List.mem_append_right _ h)))
theorem kX2_cleanBatches_2 : (Cond.fieldLink RX2 30 "LinenTunnel$Linen" "place" "LLinenTunnel$Row;" : Cond) ∈ wsX2_cleanBatches := List.mem_of_getElem? (i := 2) rfl
theorem kX2_cleanBatches_3 : (Cond.fieldLink RX2 36 "LinenTunnel$Linen" "batch" "LLinenTunnel$Row;" : Cond) ∈ wsX2_cleanBatches := List.mem_of_getElem? (i := 3) rfl
theorem kX2_cleanBatches_4 : (Cond.fieldLink RX2 33 "LinenTunnel$Linen" "washes" "LLinenTunnel$Row;" : Cond) ∈ wsX2_cleanBatches := List.mem_of_getElem? (i := 4) rfl
set_option maxRecDepth 100000 in
set_option maxHeartbeats 4000000 in
theorem tX2_cleanBatches_2 {l : Launch} {K : mm_K} {D : va_G} {cI : ClassId} {a : Nat → Nat} (X : dC K rX2_cleanBatches cX2_cleanBatches 2 none wsX2_cleanBatches RX2 D cI a) (hL : mm_L K l) (hJ : mm_J 59 a) {F : Nat} {out : mm_M} (hx : dG K D cI a out 64 [] []) : ∀ (k : Nat) (l1 : Int32) (σ : mm_M), fX2_cleanBatches_2 F k l1 σ = some out → dG K D cI a σ 2 [(0, .ref (a 2)), (1, .int l1)] [] := by
  intro k
  induction k with
  | zero =>
    intro l1 σ h
    have h : none = some out := h
    cases h
  | succ k ih =>
    intro l1 σ h
    rw [fX2_cleanBatches_2] at h
    refine mm_iload_n X dX2_cleanBatches_2 1 rfl ?_
    refine mm_aload_n X dX2_cleanBatches_3 0 rfl ?_
    refine mm_get X dX2_cleanBatches_4 2 0 (by decide) dv_cf_2 rfl (by decide) uX2_cleanBatches_2 kX2_cleanBatches_1 rfl (v := .int (σ 2 0)) rfl ?_
    refine mm_icmp_ge X dX2_cleanBatches_7 (tgt := 64) (by decide) (fun c1 => ?_) (fun c1 => ?_)
    · have h := (if_neg c1).symm.trans h
      obtain rfl := Option.some.inj h
      refine mm_loc [] rfl ?_
      exact hx
    · have h := (if_pos c1).symm.trans h
      refine mm_aload_n X dX2_cleanBatches_10 0 rfl ?_
      refine mm_get X dX2_cleanBatches_11 2 4 (by decide) dv_cf_2 rfl (by decide) uX2_cleanBatches_2 kX2_cleanBatches_2 rfl (v := .ref (a 41)) rfl ?_
      refine mm_iload_n X dX2_cleanBatches_14 1 rfl ?_
      refine mm_callVi X dX2_cleanBatches_15 (As := [.int l1]) (rest := []) 41 (by decide) (dv_cf_row (j := 15) (by decide)) rfl hL (mX4_read hJ (j := 15) (by decide) (by decide) (res := (dr_rd σ 15 l1)) rfl) gX2_cleanBatches_X4_read rfl ⟨rfl, rfl⟩ hyX4_read ⟨Nat.le_of_ble_eq_true rfl, Nat.le_of_ble_eq_true rfl⟩ rfl (Nat.le_of_ble_eq_true rfl) ?_
      refine mm_iconst X dX2_cleanBatches_18 (v := 2) (by decide) ?_
      have J3 : ∀ (v2 : mm_M), v2 = (if (dr_rd σ 15 l1) = (2 : Int32) then (dr_wr (dr_wr (dr_wr σ 15 l1 (3 : Int32)) 17 l1 (-1 : Int32)) 16 l1 ((dr_rd σ 16 l1) + (1 : Int32))) else σ) → dG K D cI a v2 58 [(0, .ref (a 2)), (1, .int l1)] [] := by
        intro v2 ev2
        subst ev2
        refine mm_iinc X dX2_cleanBatches_58 1 rfl (v := (l1 + 1)) rfl (by decide) (lv2 := [(1, .int (l1 + 1)), (0, .ref (a 2))]) rfl ?_
        refine mm_goto X dX2_cleanBatches_61 (tgt := 2) (by decide) ?_
        refine mm_loc [1, 0] rfl ?_
        exact ih _ _ h
      refine mm_icmp_ne X dX2_cleanBatches_19 (tgt := 58) (by decide) (fun c4 => ?_) (fun c4 => ?_)
      · exact J3 _ (by rw [if_neg c4])
      · refine mm_aload_n X dX2_cleanBatches_22 0 rfl ?_
        refine mm_get X dX2_cleanBatches_23 2 4 (by decide) dv_cf_2 rfl (by decide) uX2_cleanBatches_2 kX2_cleanBatches_2 rfl (v := .ref (a 41)) rfl ?_
        refine mm_iload_n X dX2_cleanBatches_26 1 rfl ?_
        refine mm_iconst X dX2_cleanBatches_27 (v := 3) (by decide) ?_
        refine mm_callVv X dX2_cleanBatches_28 (As := [.int l1, .int (3 : Int32)]) (rest := []) 41 (by decide) (dv_cf_row (j := 15) (by decide)) rfl hL (mX4_write hJ (j := 15) (by decide) (by decide) (res := dr_wr σ 15 l1 (3 : Int32)) rfl) gX2_cleanBatches_X4_write rfl ⟨rfl, rfl⟩ hyX4_write ⟨Nat.le_of_ble_eq_true rfl, Nat.le_of_ble_eq_true rfl⟩ rfl (Nat.le_of_ble_eq_true rfl) ?_
        refine mm_aload_n X dX2_cleanBatches_31 0 rfl ?_
        refine mm_get X dX2_cleanBatches_32 2 6 (by decide) dv_cf_2 rfl (by decide) uX2_cleanBatches_2 kX2_cleanBatches_3 rfl (v := .ref (a 43)) rfl ?_
        refine mm_iload_n X dX2_cleanBatches_35 1 rfl ?_
        refine mm_iconst X dX2_cleanBatches_36 (v := -1) (by decide) ?_
        refine mm_callVv X dX2_cleanBatches_37 (As := [.int l1, .int (-1 : Int32)]) (rest := []) 43 (by decide) (dv_cf_row (j := 17) (by decide)) rfl hL (mX4_write hJ (j := 17) (by decide) (by decide) (res := dr_wr (dr_wr σ 15 l1 (3 : Int32)) 17 l1 (-1 : Int32)) rfl) gX2_cleanBatches_X4_write rfl ⟨rfl, rfl⟩ hyX4_write ⟨Nat.le_of_ble_eq_true rfl, Nat.le_of_ble_eq_true rfl⟩ rfl (Nat.le_of_ble_eq_true rfl) ?_
        refine mm_aload_n X dX2_cleanBatches_40 0 rfl ?_
        refine mm_get X dX2_cleanBatches_41 2 5 (by decide) dv_cf_2 rfl (by decide) uX2_cleanBatches_2 kX2_cleanBatches_4 rfl (v := .ref (a 42)) rfl ?_
        refine mm_iload_n X dX2_cleanBatches_44 1 rfl ?_
        refine mm_aload_n X dX2_cleanBatches_45 0 rfl ?_
        refine mm_get X dX2_cleanBatches_46 2 5 (by decide) dv_cf_2 rfl (by decide) uX2_cleanBatches_2 kX2_cleanBatches_4 rfl (v := .ref (a 42)) rfl ?_
        refine mm_iload_n X dX2_cleanBatches_49 1 rfl ?_
        refine mm_callVi X dX2_cleanBatches_50 (As := [.int l1]) (rest := [.int l1, .ref (a 42)]) 42 (by decide) (dv_cf_row (j := 16) (by decide)) rfl hL (mX4_read hJ (j := 16) (by decide) (by decide) (res := (dr_rd σ 16 l1)) rfl) gX2_cleanBatches_X4_read rfl ⟨rfl, rfl⟩ hyX4_read ⟨Nat.le_of_ble_eq_true rfl, Nat.le_of_ble_eq_true rfl⟩ rfl (Nat.le_of_ble_eq_true rfl) ?_
        refine mm_iconst X dX2_cleanBatches_53 (v := 1) (by decide) ?_
        refine mm_iadd X dX2_cleanBatches_54 ?_
        refine mm_callVv X dX2_cleanBatches_55 (As := [.int l1, .int ((dr_rd σ 16 l1) + (1 : Int32))]) (rest := []) 42 (by decide) (dv_cf_row (j := 16) (by decide)) rfl hL (mX4_write hJ (j := 16) (by decide) (by decide) (res := dr_wr (dr_wr (dr_wr σ 15 l1 (3 : Int32)) 17 l1 (-1 : Int32)) 16 l1 ((dr_rd σ 16 l1) + (1 : Int32))) rfl) gX2_cleanBatches_X4_write rfl ⟨rfl, rfl⟩ hyX4_write ⟨Nat.le_of_ble_eq_true rfl, Nat.le_of_ble_eq_true rfl⟩ rfl (Nat.le_of_ble_eq_true rfl) ?_
        exact J3 _ (by rw [if_pos c4])
set_option maxRecDepth 100000 in
set_option maxHeartbeats 4000000 in
theorem mX2_cleanBatches {l : Launch} {D : va_G} {cI : ClassId} {a : Nat → Nat} (hJ : mm_J 59 a) {F : Nat} {σ : mm_M} {res : mm_M} (h : fX2_cleanBatches F σ = some res) (sz : Nat) : Met l yX2_cleanBatches wsX2_cleanBatches rX2_cleanBatches (dP D cI a σ [.ref (a 2)] sz) (dQv D cI a res sz) 0 0 (mm_A 59 a sz) := by
  refine mm_met (fun sz => dQv D cI a res sz) (lv := [(0, .ref (a 2))]) (ret := none) (cc := cX2_cleanBatches) (maxL := 2) (own := RX2) hJ (by decide +kernel) rfl rfl (Nat.le_of_ble_eq_true rfl) rfl ?_ sz
  intro K hL X hQ
  unfold fX2_cleanBatches at h
  refine mm_iconst X dX2_cleanBatches_0 (v := 0) (by decide) ?_
  refine mm_istore_n X dX2_cleanBatches_1 (by decide) (lv2 := [(1, .int (0 : Int32)), (0, .ref (a 2))]) rfl ?_
  obtain ⟨q1, hq1, h⟩ := Option.bind_eq_some_iff.mp h
  refine mm_loc [1, 0] rfl ?_
  refine tX2_cleanBatches_2 X hL hJ ?_ F (0 : Int32) σ hq1
  obtain rfl := Option.some.inj h
  exact mm_vret X dX2_cleanBatches_64 rfl hQ
/-! LinenTunnel.wash -/
def fX7_wash (F : Nat) (σ : mm_M) : Option (Int32 × mm_M) := (if (σ 3 1) = 0 then some ((-4 : Int32), σ) else (fX0_washOrder F σ).bind fun q2 => (fX2_cleanBatches F q2.2).bind fun q3 => some (q2.1, (mm_up q3 3 1 (0 : Int32))))
abbrev rX7_wash : Room := { frames := 7, cells := 0, slots := 0, locals := 154 }
theorem hyX7_wash : yX7_wash.cls = RX7 ∧ yX7_wash.cls ≠ "java/lang/invoke/MethodHandle" ∧ yX7_wash.cls ≠ "java/lang/invoke/VarHandle" ∧ (parseMethodDescriptor yX7_wash.desc).map (fun d => d.parameters.length) = some 0 := by decide +kernel
theorem kX7_wash_1 : (Cond.fieldLink RX7 28 "LinenTunnel" "waiting" "LLinenTunnel$Waiting;" : Cond) ∈ wsX7_wash := List.mem_of_getElem? (i := 1) rfl
theorem uX7_wash_7 : ∀ w ∈ u_ws RX7 TX7 7, w ∈ wsX7_wash := fun _ h => (List.mem_cons_of_mem _ (List.mem_append_left _ (List.mem_append_left _ (List.mem_append_left _ (List.mem_append_left _ (List.mem_append_left _ (List.mem_append_right _ h)))))))
theorem uX7_wash_6 : ∀ w ∈ u_ws RX6 TX6 5, w ∈ wsX7_wash := fun _ h => (List.mem_cons_of_mem _ (List.mem_append_left _ (List.mem_append_left _ (List.mem_append_left _ (List.mem_append_left _ (List.mem_append_right _ h))))))
theorem kX7_wash_2 : (Cond.fieldLink RX7 46 "LinenTunnel" "house" "LLinenTunnel$House;" : Cond) ∈ wsX7_wash := List.mem_of_getElem? (i := 2) rfl
theorem kX7_wash_3 : (Cond.fieldLink RX7 19 "LinenTunnel" "linen" "LLinenTunnel$Linen;" : Cond) ∈ wsX7_wash := List.mem_of_getElem? (i := 3) rfl
set_option maxRecDepth 100000 in
set_option maxHeartbeats 4000000 in
theorem mX7_wash {l : Launch} {D : va_G} {cI : ClassId} {a : Nat → Nat} (hJ : mm_J 59 a) {F : Nat} {σ : mm_M} {res : Int32 × mm_M} (h : fX7_wash F σ = some res) (sz : Nat) : Met l yX7_wash wsX7_wash rX7_wash (dP D cI a σ [.ref (a 0)] sz) (dQi D cI a res.1 res.2 sz) 0 0 (mm_A 59 a sz) := by
  refine mm_met (fun sz => dQi D cI a res.1 res.2 sz) (lv := [(0, .ref (a 0))]) (ret := (some .int)) (cc := cX7_wash) (maxL := 2) (own := RX7) hJ (by decide +kernel) rfl rfl (Nat.le_of_ble_eq_true rfl) rfl ?_ sz
  intro K hL X hQ
  unfold fX7_wash at h
  refine mm_aload_n X dX7_wash_0 0 rfl ?_
  refine mm_get X dX7_wash_1 0 2 (by decide) dv_cf_0 rfl (by decide) uX7_wash_7 kX7_wash_1 rfl (v := .ref (a 3)) rfl ?_
  refine mm_getN X dX7_wash_4 3 1 (by decide) dv_cf_3 rfl (by decide) uX7_wash_6 (List.mem_of_getElem? (i := 13) rfl) rfl (v := .int (σ 3 1)) rfl ?_
  refine mm_if_ne X dX7_wash_7 (tgt := 13) (by decide) (fun c1 => ?_) (fun c1 => ?_)
  · have h := (if_neg c1).symm.trans h
    refine mm_aload_n X dX7_wash_13 0 rfl ?_
    refine mm_get X dX7_wash_14 0 4 (by decide) dv_cf_0 rfl (by decide) uX7_wash_7 kX7_wash_2 rfl (v := .ref (a 5)) rfl ?_
    obtain ⟨q2, hq2, h⟩ := Option.bind_eq_some_iff.mp h
    refine mm_callVi X dX7_wash_17 (As := []) (rest := []) 5 (by decide) dv_cf_5 rfl hL (mX0_washOrder hJ hq2) gX7_wash_X0_washOrder rfl ⟨rfl, rfl⟩ hyX0_washOrder ⟨Nat.le_of_ble_eq_true rfl, Nat.le_of_ble_eq_true rfl⟩ rfl (Nat.le_of_ble_eq_true rfl) ?_
    refine mm_istore_n X dX7_wash_20 (by decide) (lv2 := [(1, .int q2.1), (0, .ref (a 0))]) rfl ?_
    refine mm_aload_n X dX7_wash_21 1 rfl ?_
    refine mm_get X dX7_wash_22 0 1 (by decide) dv_cf_0 rfl (by decide) uX7_wash_7 kX7_wash_3 rfl (v := .ref (a 2)) rfl ?_
    obtain ⟨q3, hq3, h⟩ := Option.bind_eq_some_iff.mp h
    refine mm_callVv X dX7_wash_25 (As := []) (rest := []) 2 (by decide) dv_cf_2 rfl hL (mX2_cleanBatches hJ hq3) gX7_wash_X2_cleanBatches rfl ⟨rfl, rfl⟩ hyX2_cleanBatches ⟨Nat.le_of_ble_eq_true rfl, Nat.le_of_ble_eq_true rfl⟩ rfl (Nat.le_of_ble_eq_true rfl) ?_
    refine mm_aload_n X dX7_wash_28 1 rfl ?_
    refine mm_get X dX7_wash_29 0 2 (by decide) dv_cf_0 rfl (by decide) uX7_wash_7 kX7_wash_1 rfl (v := .ref (a 3)) rfl ?_
    refine mm_iconst X dX7_wash_32 (v := 0) (by decide) ?_
    refine mm_putN X dX7_wash_33 3 1 (by decide) tyX6 tyX6_ok nmX6 dv_cf_3 rfl rfl (by decide) uX7_wash_6 (List.mem_of_getElem? (i := 13) rfl) rfl rfl rfl (Nat.le_of_ble_eq_true rfl) ?_
    refine mm_iload_n X dX7_wash_36 0 rfl ?_
    obtain rfl := Option.some.inj h
    exact mm_iret X dX7_wash_37 rfl hQ rfl
  · have h := (if_pos c1).symm.trans h
    refine mm_bipush X dX7_wash_10 (v := -4) (by decide) ?_
    obtain rfl := Option.some.inj h
    exact mm_iret X dX7_wash_12 rfl hQ rfl
/-! LinenTunnel.washed -/
def fX7_washed (σ : mm_M) (p1 : Int32) : Int32 := (if (fX7_within p1 (0 : Int32) (6 : Int32)) = 0 then (-2 : Int32) else (dr_rd σ 29 p1))
abbrev rX7_washed : Room := { frames := 1, cells := 0, slots := 0, locals := 22 }
theorem hyX7_washed : yX7_washed.cls = RX7 ∧ yX7_washed.cls ≠ "java/lang/invoke/MethodHandle" ∧ yX7_washed.cls ≠ "java/lang/invoke/VarHandle" ∧ (parseMethodDescriptor yX7_washed.desc).map (fun d => d.parameters.length) = some 1 := by decide +kernel
theorem kX7_washed_1 : (Cond.fieldLink RX7 46 "LinenTunnel" "house" "LLinenTunnel$House;" : Cond) ∈ wsX7_washed := List.mem_of_getElem? (i := 1) rfl
theorem uX7_washed_7 : ∀ w ∈ u_ws RX7 TX7 7, w ∈ wsX7_washed := fun _ h => (List.mem_cons_of_mem _ (List.mem_append_left _ (List.mem_append_left _ (List.mem_append_right _ h))))
theorem uX7_washed_0 : ∀ w ∈ u_ws RX0 TX0 16, w ∈ wsX7_washed := fun _ h => (List.mem_cons_of_mem _ (List.mem_append_left _ (List.mem_append_right _ h)))
set_option maxRecDepth 100000 in
set_option maxHeartbeats 4000000 in
theorem mX7_washed {l : Launch} {D : va_G} {cI : ClassId} {a : Nat → Nat} (hJ : mm_J 59 a) {σ : mm_M} {p1 : Int32} {res : Int32} (h : fX7_washed σ p1 = res) (sz : Nat) : Met l yX7_washed wsX7_washed rX7_washed (dP D cI a σ [.ref (a 0), .int p1] sz) (dQi D cI a res σ sz) 0 0 (mm_A 59 a sz) := by
  refine mm_met (fun sz => dQi D cI a res σ sz) (lv := [(0, .ref (a 0)), (1, .int p1)]) (ret := (some .int)) (cc := cX7_washed) (maxL := 2) (own := RX7) hJ (by decide +kernel) rfl rfl (Nat.le_of_ble_eq_true rfl) rfl ?_ sz
  intro K hL X hQ
  unfold fX7_washed at h
  refine mm_iload_n X dX7_washed_0 1 rfl ?_
  refine mm_iconst X dX7_washed_1 (v := 0) (by decide) ?_
  refine mm_bipush X dX7_washed_2 (v := 6) (by decide) ?_
  refine mm_callSi X dX7_washed_4 (As := [.int p1, .int (0 : Int32), .int (6 : Int32)]) (rest := []) hL (mX7_within hJ (res := fX7_within p1 (0 : Int32) (6 : Int32)) rfl) gX7_washed_X7_within rfl ⟨rfl, rfl⟩ hyX7_within ⟨Nat.le_of_ble_eq_true rfl, Nat.le_of_ble_eq_true rfl⟩ rfl (Nat.le_of_ble_eq_true rfl) ?_
  refine mm_if_eq X dX7_washed_7 (tgt := 24) (by decide) (fun c1 => ?_) (fun c1 => ?_)
  · have h := (if_pos c1).symm.trans h
    refine mm_bipush X dX7_washed_24 (v := -2) (by decide) ?_
    subst h
    exact mm_iret X dX7_washed_26 rfl hQ rfl
  · have h := (if_neg c1).symm.trans h
    refine mm_aload_n X dX7_washed_10 0 rfl ?_
    refine mm_get X dX7_washed_11 0 4 (by decide) dv_cf_0 rfl (by decide) uX7_washed_7 kX7_washed_1 rfl (v := .ref (a 5)) rfl ?_
    refine mm_getN X dX7_washed_14 5 15 (by decide) dv_cf_5 rfl (by decide) uX7_washed_0 (List.mem_of_getElem? (i := 25) rfl) rfl (v := .ref (a 55)) rfl ?_
    refine mm_iload_n X dX7_washed_17 1 rfl ?_
    refine mm_callVi X dX7_washed_18 (As := [.int p1]) (rest := []) 55 (by decide) (dv_cf_row (j := 29) (by decide)) rfl hL (mX4_read hJ (j := 29) (by decide) (by decide) (res := (dr_rd σ 29 p1)) rfl) gX7_washed_X4_read rfl ⟨rfl, rfl⟩ hyX4_read ⟨Nat.le_of_ble_eq_true rfl, Nat.le_of_ble_eq_true rfl⟩ rfl (Nat.le_of_ble_eq_true rfl) ?_
    refine mm_goto X dX7_washed_21 (tgt := 26) (by decide) ?_
    subst h
    exact mm_iret X dX7_washed_26 rfl hQ rfl
/-! LinenTunnel.run -/
def fX7_run (σ : mm_M) (p1 p2 : Int32) : Int32 := (if (fX7_within p1 (0 : Int32) ((dr_rd σ 29 (5 : Int32)) - (1 : Int32))) = 0 then (-2 : Int32) else (if (fX7_within p2 (0 : Int32) (6 : Int32)) = 0 then (-2 : Int32) else (fX0_fact σ p1 p2)))
abbrev rX7_run : Room := { frames := 2, cells := 0, slots := 0, locals := 43 }
theorem hyX7_run : yX7_run.cls = RX7 ∧ yX7_run.cls ≠ "java/lang/invoke/MethodHandle" ∧ yX7_run.cls ≠ "java/lang/invoke/VarHandle" ∧ (parseMethodDescriptor yX7_run.desc).map (fun d => d.parameters.length) = some 2 := by decide +kernel
theorem kX7_run_1 : (Cond.fieldLink RX7 46 "LinenTunnel" "house" "LLinenTunnel$House;" : Cond) ∈ wsX7_run := List.mem_of_getElem? (i := 1) rfl
theorem uX7_run_7 : ∀ w ∈ u_ws RX7 TX7 7, w ∈ wsX7_run := fun _ h => (List.mem_cons_of_mem _ (List.mem_append_left _ (List.mem_append_left _ (List.mem_append_right _ h))))
theorem uX7_run_0 : ∀ w ∈ u_ws RX0 TX0 16, w ∈ wsX7_run := fun _ h => (List.mem_cons_of_mem _ (List.mem_append_left _ (List.mem_append_right _ h)))
set_option maxRecDepth 100000 in
set_option maxHeartbeats 4000000 in
theorem mX7_run {l : Launch} {D : va_G} {cI : ClassId} {a : Nat → Nat} (hJ : mm_J 59 a) {σ : mm_M} {p1 p2 : Int32} {res : Int32} (h : fX7_run σ p1 p2 = res) (sz : Nat) : Met l yX7_run wsX7_run rX7_run (dP D cI a σ [.ref (a 0), .int p1, .int p2] sz) (dQi D cI a res σ sz) 0 0 (mm_A 59 a sz) := by
  refine mm_met (fun sz => dQi D cI a res σ sz) (lv := [(0, .ref (a 0)), (1, .int p1), (2, .int p2)]) (ret := (some .int)) (cc := cX7_run) (maxL := 3) (own := RX7) hJ (by decide +kernel) rfl rfl (Nat.le_of_ble_eq_true rfl) rfl ?_ sz
  intro K hL X hQ
  unfold fX7_run at h
  refine mm_iload_n X dX7_run_0 1 rfl ?_
  refine mm_iconst X dX7_run_1 (v := 0) (by decide) ?_
  refine mm_aload_n X dX7_run_2 0 rfl ?_
  refine mm_get X dX7_run_3 0 4 (by decide) dv_cf_0 rfl (by decide) uX7_run_7 kX7_run_1 rfl (v := .ref (a 5)) rfl ?_
  refine mm_getN X dX7_run_6 5 15 (by decide) dv_cf_5 rfl (by decide) uX7_run_0 (List.mem_of_getElem? (i := 25) rfl) rfl (v := .ref (a 55)) rfl ?_
  refine mm_iconst X dX7_run_9 (v := 5) (by decide) ?_
  refine mm_callVi X dX7_run_10 (As := [.int (5 : Int32)]) (rest := [.int (0 : Int32), .int p1]) 55 (by decide) (dv_cf_row (j := 29) (by decide)) rfl hL (mX4_read hJ (j := 29) (by decide) (by decide) (res := (dr_rd σ 29 (5 : Int32))) rfl) gX7_run_X4_read rfl ⟨rfl, rfl⟩ hyX4_read ⟨Nat.le_of_ble_eq_true rfl, Nat.le_of_ble_eq_true rfl⟩ rfl (Nat.le_of_ble_eq_true rfl) ?_
  refine mm_iconst X dX7_run_13 (v := 1) (by decide) ?_
  refine mm_isub X dX7_run_14 ?_
  refine mm_callSi X dX7_run_15 (As := [.int p1, .int (0 : Int32), .int ((dr_rd σ 29 (5 : Int32)) - (1 : Int32))]) (rest := []) hL (mX7_within hJ (res := fX7_within p1 (0 : Int32) ((dr_rd σ 29 (5 : Int32)) - (1 : Int32))) rfl) gX7_run_X7_within rfl ⟨rfl, rfl⟩ hyX7_within ⟨Nat.le_of_ble_eq_true rfl, Nat.le_of_ble_eq_true rfl⟩ rfl (Nat.le_of_ble_eq_true rfl) ?_
  refine mm_if_eq X dX7_run_18 (tgt := 31) (by decide) (fun c1 => ?_) (fun c1 => ?_)
  · have h := (if_pos c1).symm.trans h
    refine mm_bipush X dX7_run_31 (v := -2) (by decide) ?_
    subst h
    exact mm_iret X dX7_run_33 rfl hQ rfl
  · have h := (if_neg c1).symm.trans h
    refine mm_iload_n X dX7_run_21 2 rfl ?_
    refine mm_iconst X dX7_run_22 (v := 0) (by decide) ?_
    refine mm_bipush X dX7_run_23 (v := 6) (by decide) ?_
    refine mm_callSi X dX7_run_25 (As := [.int p2, .int (0 : Int32), .int (6 : Int32)]) (rest := []) hL (mX7_within hJ (res := fX7_within p2 (0 : Int32) (6 : Int32)) rfl) gX7_run_X7_within rfl ⟨rfl, rfl⟩ hyX7_within ⟨Nat.le_of_ble_eq_true rfl, Nat.le_of_ble_eq_true rfl⟩ rfl (Nat.le_of_ble_eq_true rfl) ?_
    refine mm_if_ne X dX7_run_28 (tgt := 34) (by decide) (fun c2 => ?_) (fun c2 => ?_)
    · have h := (if_neg c2).symm.trans h
      refine mm_aload_n X dX7_run_34 0 rfl ?_
      refine mm_get X dX7_run_35 0 4 (by decide) dv_cf_0 rfl (by decide) uX7_run_7 kX7_run_1 rfl (v := .ref (a 5)) rfl ?_
      refine mm_iload_n X dX7_run_38 1 rfl ?_
      refine mm_iload_n X dX7_run_39 2 rfl ?_
      refine mm_callVi X dX7_run_40 (As := [.int p1, .int p2]) (rest := []) 5 (by decide) dv_cf_5 rfl hL (mX0_fact hJ (res := fX0_fact σ p1 p2) rfl) gX7_run_X0_fact rfl ⟨rfl, rfl⟩ hyX0_fact ⟨Nat.le_of_ble_eq_true rfl, Nat.le_of_ble_eq_true rfl⟩ rfl (Nat.le_of_ble_eq_true rfl) ?_
      subst h
      exact mm_iret X dX7_run_43 rfl hQ rfl
    · have h := (if_pos c2).symm.trans h
      refine mm_bipush X dX7_run_31 (v := -2) (by decide) ?_
      subst h
      exact mm_iret X dX7_run_33 rfl hQ rfl
/-! LinenTunnel$Linen.sendOut -/
def fX2_sendOut_6 (F : Nat) (l1 : Int32) (l2 : Int32) (l3 : Int32) : Nat → Int32 → Int32 → mm_M → Option (Int32 × mm_M)
  | 0, _, _, _ => none
  | k + 1, l4, l5, σ => (if l5 < (σ 2 0) then (if l4 < l3 then fX2_sendOut_6 F l1 l2 l3 k (if (fX2_fits σ l5 l1 l2 (3 : Int32)) = 0 then l4 else (l4 + 1)) (l5 + 1) (if (fX2_fits σ l5 l1 l2 (3 : Int32)) = 0 then σ else (dr_wr σ 15 l5 (0 : Int32))) else some (l4, σ)) else some (l4, σ))
def fX2_sendOut (F : Nat) (σ : mm_M) (p1 p2 p3 : Int32) : Option (Int32 × mm_M) := (fX2_sendOut_6 F p1 p2 p3 F (0 : Int32) (0 : Int32) σ).bind fun q1 => some (q1.1, q1.2)
abbrev rX2_sendOut : Room := { frames := 2, cells := 0, slots := 0, locals := 45 }
theorem hyX2_sendOut : yX2_sendOut.cls = RX2 ∧ yX2_sendOut.cls ≠ "java/lang/invoke/MethodHandle" ∧ yX2_sendOut.cls ≠ "java/lang/invoke/VarHandle" ∧ (parseMethodDescriptor yX2_sendOut.desc).map (fun d => d.parameters.length) = some 3 := by decide +kernel
theorem kX2_sendOut_1 : (Cond.fieldLink RX2 9 "LinenTunnel$Linen" "number" "I" : Cond) ∈ wsX2_sendOut := List.mem_of_getElem? (i := 1) rfl
theorem uX2_sendOut_2 : ∀ w ∈ u_ws RX2 TX2 7, w ∈ wsX2_sendOut := fun _ h => (List.mem_cons_of_mem _ (List.mem_append_left _ (List.mem_append_right _ h)))
theorem kX2_sendOut_2 : (Cond.fieldLink RX2 30 "LinenTunnel$Linen" "place" "LLinenTunnel$Row;" : Cond) ∈ wsX2_sendOut := List.mem_of_getElem? (i := 2) rfl
set_option maxRecDepth 100000 in
set_option maxHeartbeats 4000000 in
theorem tX2_sendOut_6 {l : Launch} {K : mm_K} {D : va_G} {cI : ClassId} {a : Nat → Nat} (X : dC K rX2_sendOut cX2_sendOut 6 (some .int) wsX2_sendOut RX2 D cI a) (hL : mm_L K l) (hJ : mm_J 59 a) {F : Nat} {l1 : Int32} {l2 : Int32} {l3 : Int32} {out : Int32 × mm_M} (hx : dG K D cI a out.2 52 [(4, .int out.1)] []) : ∀ (k : Nat) (l4 : Int32) (l5 : Int32) (σ : mm_M), fX2_sendOut_6 F l1 l2 l3 k l4 l5 σ = some out → dG K D cI a σ 6 [(0, .ref (a 2)), (1, .int l1), (2, .int l2), (3, .int l3), (4, .int l4), (5, .int l5)] [] := by
  intro k
  induction k with
  | zero =>
    intro l4 l5 σ h
    have h : none = some out := h
    cases h
  | succ k ih =>
    intro l4 l5 σ h
    rw [fX2_sendOut_6] at h
    refine mm_iload X dX2_sendOut_6 5 rfl ?_
    refine mm_aload_n X dX2_sendOut_8 0 rfl ?_
    refine mm_get X dX2_sendOut_9 2 0 (by decide) dv_cf_2 rfl (by decide) uX2_sendOut_2 kX2_sendOut_1 rfl (v := .int (σ 2 0)) rfl ?_
    refine mm_icmp_ge X dX2_sendOut_12 (tgt := 52) (by decide) (fun c1 => ?_) (fun c1 => ?_)
    · have h := (if_neg c1).symm.trans h
      obtain rfl := Option.some.inj h
      refine mm_loc [4] rfl ?_
      exact hx
    · have h := (if_pos c1).symm.trans h
      refine mm_iload X dX2_sendOut_15 4 rfl ?_
      refine mm_iload_n X dX2_sendOut_17 3 rfl ?_
      refine mm_icmp_ge X dX2_sendOut_18 (tgt := 52) (by decide) (fun c2 => ?_) (fun c2 => ?_)
      · have h := (if_neg c2).symm.trans h
        obtain rfl := Option.some.inj h
        refine mm_loc [4] rfl ?_
        exact hx
      · have h := (if_pos c2).symm.trans h
        refine mm_aload_n X dX2_sendOut_21 0 rfl ?_
        refine mm_iload X dX2_sendOut_22 5 rfl ?_
        refine mm_iload_n X dX2_sendOut_24 1 rfl ?_
        refine mm_iload_n X dX2_sendOut_25 2 rfl ?_
        refine mm_iconst X dX2_sendOut_26 (v := 3) (by decide) ?_
        refine mm_callVi X dX2_sendOut_27 (As := [.int l5, .int l1, .int l2, .int (3 : Int32)]) (rest := []) 2 (by decide) dv_cf_2 rfl hL (mX2_fits hJ (res := fX2_fits σ l5 l1 l2 (3 : Int32)) rfl) gX2_sendOut_X2_fits rfl ⟨rfl, rfl⟩ hyX2_fits ⟨Nat.le_of_ble_eq_true rfl, Nat.le_of_ble_eq_true rfl⟩ rfl (Nat.le_of_ble_eq_true rfl) ?_
        have J5 : ∀ (v3 : Int32) (v4 : mm_M), v3 = (if (fX2_fits σ l5 l1 l2 (3 : Int32)) = 0 then l4 else (l4 + 1)) → v4 = (if (fX2_fits σ l5 l1 l2 (3 : Int32)) = 0 then σ else (dr_wr σ 15 l5 (0 : Int32))) → dG K D cI a v4 46 [(0, .ref (a 2)), (1, .int l1), (2, .int l2), (3, .int l3), (4, .int v3), (5, .int l5)] [] := by
          intro v3 v4 ev3 ev4
          subst ev3
          subst ev4
          refine mm_iinc X dX2_sendOut_46 5 rfl (v := (l5 + 1)) rfl (by decide) (lv2 := [(5, .int (l5 + 1)), (0, .ref (a 2)), (1, .int l1), (2, .int l2), (3, .int l3), (4, .int (if (fX2_fits σ l5 l1 l2 (3 : Int32)) = 0 then l4 else (l4 + 1)))]) rfl ?_
          refine mm_goto X dX2_sendOut_49 (tgt := 6) (by decide) ?_
          refine mm_loc [1, 2, 3, 4, 5, 0] rfl ?_
          exact ih _ _ _ h
        refine mm_if_eq X dX2_sendOut_30 (tgt := 46) (by decide) (fun c6 => ?_) (fun c6 => ?_)
        · exact J5 _ _ (by rw [if_pos c6]) (by rw [if_pos c6])
        · refine mm_aload_n X dX2_sendOut_33 0 rfl ?_
          refine mm_get X dX2_sendOut_34 2 4 (by decide) dv_cf_2 rfl (by decide) uX2_sendOut_2 kX2_sendOut_2 rfl (v := .ref (a 41)) rfl ?_
          refine mm_iload X dX2_sendOut_37 5 rfl ?_
          refine mm_iconst X dX2_sendOut_39 (v := 0) (by decide) ?_
          refine mm_callVv X dX2_sendOut_40 (As := [.int l5, .int (0 : Int32)]) (rest := []) 41 (by decide) (dv_cf_row (j := 15) (by decide)) rfl hL (mX4_write hJ (j := 15) (by decide) (by decide) (res := dr_wr σ 15 l5 (0 : Int32)) rfl) gX2_sendOut_X4_write rfl ⟨rfl, rfl⟩ hyX4_write ⟨Nat.le_of_ble_eq_true rfl, Nat.le_of_ble_eq_true rfl⟩ rfl (Nat.le_of_ble_eq_true rfl) ?_
          refine mm_iinc X dX2_sendOut_43 4 rfl (v := (l4 + 1)) rfl (by decide) (lv2 := [(4, .int (l4 + 1)), (0, .ref (a 2)), (1, .int l1), (2, .int l2), (3, .int l3), (5, .int l5)]) rfl ?_
          refine mm_loc [1, 2, 3, 4, 0, 5] rfl ?_
          exact J5 _ _ (by rw [if_neg c6]) (by rw [if_neg c6])
set_option maxRecDepth 100000 in
set_option maxHeartbeats 4000000 in
theorem mX2_sendOut {l : Launch} {D : va_G} {cI : ClassId} {a : Nat → Nat} (hJ : mm_J 59 a) {F : Nat} {σ : mm_M} {p1 p2 p3 : Int32} {res : Int32 × mm_M} (h : fX2_sendOut F σ p1 p2 p3 = some res) (sz : Nat) : Met l yX2_sendOut wsX2_sendOut rX2_sendOut (dP D cI a σ [.ref (a 2), .int p1, .int p2, .int p3] sz) (dQi D cI a res.1 res.2 sz) 0 0 (mm_A 59 a sz) := by
  refine mm_met (fun sz => dQi D cI a res.1 res.2 sz) (lv := [(0, .ref (a 2)), (1, .int p1), (2, .int p2), (3, .int p3)]) (ret := (some .int)) (cc := cX2_sendOut) (maxL := 6) (own := RX2) hJ (by decide +kernel) rfl rfl (Nat.le_of_ble_eq_true rfl) rfl ?_ sz
  intro K hL X hQ
  unfold fX2_sendOut at h
  refine mm_iconst X dX2_sendOut_0 (v := 0) (by decide) ?_
  refine mm_istore X dX2_sendOut_1 (by decide) (lv2 := [(4, .int (0 : Int32)), (0, .ref (a 2)), (1, .int p1), (2, .int p2), (3, .int p3)]) rfl ?_
  refine mm_iconst X dX2_sendOut_3 (v := 0) (by decide) ?_
  refine mm_istore X dX2_sendOut_4 (by decide) (lv2 := [(5, .int (0 : Int32)), (4, .int (0 : Int32)), (0, .ref (a 2)), (1, .int p1), (2, .int p2), (3, .int p3)]) rfl ?_
  obtain ⟨q1, hq1, h⟩ := Option.bind_eq_some_iff.mp h
  refine mm_loc [2, 3, 4, 5, 1, 0] rfl ?_
  refine tX2_sendOut_6 X hL hJ ?_ F (0 : Int32) (0 : Int32) σ hq1
  refine mm_iload X dX2_sendOut_52 0 rfl ?_
  obtain rfl := Option.some.inj h
  exact mm_iret X dX2_sendOut_54 rfl hQ rfl
/-! LinenTunnel.pack -/
def fX7_pack (F : Nat) (σ : mm_M) (p1 p2 p3 : Int32) : Option (Int32 × mm_M) := (if (fX7_isOwner p1) = 0 then some ((-2 : Int32), σ) else (if (fX7_isKind σ p2) = 0 then some ((-2 : Int32), σ) else (if (fX7_within p3 (1 : Int32) (40 : Int32)) = 0 then some ((-2 : Int32), σ) else (fX2_tally F σ p1 p2 (3 : Int32)).bind fun q4 => (if 0 < (p3 - q4) then some (((-100 : Int32) - (p3 - q4)), σ) else (fX2_sendOut F σ p1 p2 p3).bind fun q6 => some (q6.1, q6.2)))))
abbrev rX7_pack : Room := { frames := 3, cells := 0, slots := 0, locals := 70 }
theorem hyX7_pack : yX7_pack.cls = RX7 ∧ yX7_pack.cls ≠ "java/lang/invoke/MethodHandle" ∧ yX7_pack.cls ≠ "java/lang/invoke/VarHandle" ∧ (parseMethodDescriptor yX7_pack.desc).map (fun d => d.parameters.length) = some 3 := by decide +kernel
theorem kX7_pack_1 : (Cond.fieldLink RX7 19 "LinenTunnel" "linen" "LLinenTunnel$Linen;" : Cond) ∈ wsX7_pack := List.mem_of_getElem? (i := 1) rfl
theorem uX7_pack_7 : ∀ w ∈ u_ws RX7 TX7 7, w ∈ wsX7_pack := fun _ h => (List.mem_cons_of_mem _ (List.mem_append_left _ (List.mem_append_left _ (List.mem_append_left _ (List.mem_append_right _ h)))))
set_option maxRecDepth 100000 in
set_option maxHeartbeats 4000000 in
theorem mX7_pack {l : Launch} {D : va_G} {cI : ClassId} {a : Nat → Nat} (hJ : mm_J 59 a) {F : Nat} {σ : mm_M} {p1 p2 p3 : Int32} {res : Int32 × mm_M} (h : fX7_pack F σ p1 p2 p3 = some res) (sz : Nat) : Met l yX7_pack wsX7_pack rX7_pack (dP D cI a σ [.ref (a 0), .int p1, .int p2, .int p3] sz) (dQi D cI a res.1 res.2 sz) 0 0 (mm_A 59 a sz) := by
  refine mm_met (fun sz => dQi D cI a res.1 res.2 sz) (lv := [(0, .ref (a 0)), (1, .int p1), (2, .int p2), (3, .int p3)]) (ret := (some .int)) (cc := cX7_pack) (maxL := 5) (own := RX7) hJ (by decide +kernel) rfl rfl (Nat.le_of_ble_eq_true rfl) rfl ?_ sz
  intro K hL X hQ
  unfold fX7_pack at h
  refine mm_iload_n X dX7_pack_0 1 rfl ?_
  refine mm_callSi X dX7_pack_1 (As := [.int p1]) (rest := []) hL (mX7_isOwner hJ (res := fX7_isOwner p1) rfl) gX7_pack_X7_isOwner rfl ⟨rfl, rfl⟩ hyX7_isOwner ⟨Nat.le_of_ble_eq_true rfl, Nat.le_of_ble_eq_true rfl⟩ rfl (Nat.le_of_ble_eq_true rfl) ?_
  refine mm_if_eq X dX7_pack_4 (tgt := 25) (by decide) (fun c1 => ?_) (fun c1 => ?_)
  · have h := (if_pos c1).symm.trans h
    refine mm_bipush X dX7_pack_25 (v := -2) (by decide) ?_
    obtain rfl := Option.some.inj h
    exact mm_iret X dX7_pack_27 rfl hQ rfl
  · have h := (if_neg c1).symm.trans h
    refine mm_aload_n X dX7_pack_7 0 rfl ?_
    refine mm_iload_n X dX7_pack_8 2 rfl ?_
    refine mm_callVi X dX7_pack_9 (As := [.int p2]) (rest := []) 0 (by decide) dv_cf_0 rfl hL (mX7_isKind hJ (res := fX7_isKind σ p2) rfl) gX7_pack_X7_isKind rfl ⟨rfl, rfl⟩ hyX7_isKind ⟨Nat.le_of_ble_eq_true rfl, Nat.le_of_ble_eq_true rfl⟩ rfl (Nat.le_of_ble_eq_true rfl) ?_
    refine mm_if_eq X dX7_pack_12 (tgt := 25) (by decide) (fun c2 => ?_) (fun c2 => ?_)
    · have h := (if_pos c2).symm.trans h
      refine mm_bipush X dX7_pack_25 (v := -2) (by decide) ?_
      obtain rfl := Option.some.inj h
      exact mm_iret X dX7_pack_27 rfl hQ rfl
    · have h := (if_neg c2).symm.trans h
      refine mm_iload_n X dX7_pack_15 3 rfl ?_
      refine mm_iconst X dX7_pack_16 (v := 1) (by decide) ?_
      refine mm_bipush X dX7_pack_17 (v := 40) (by decide) ?_
      refine mm_callSi X dX7_pack_19 (As := [.int p3, .int (1 : Int32), .int (40 : Int32)]) (rest := []) hL (mX7_within hJ (res := fX7_within p3 (1 : Int32) (40 : Int32)) rfl) gX7_pack_X7_within rfl ⟨rfl, rfl⟩ hyX7_within ⟨Nat.le_of_ble_eq_true rfl, Nat.le_of_ble_eq_true rfl⟩ rfl (Nat.le_of_ble_eq_true rfl) ?_
      refine mm_if_ne X dX7_pack_22 (tgt := 28) (by decide) (fun c3 => ?_) (fun c3 => ?_)
      · have h := (if_neg c3).symm.trans h
        refine mm_iload_n X dX7_pack_28 3 rfl ?_
        refine mm_aload_n X dX7_pack_29 0 rfl ?_
        refine mm_get X dX7_pack_30 0 1 (by decide) dv_cf_0 rfl (by decide) uX7_pack_7 kX7_pack_1 rfl (v := .ref (a 2)) rfl ?_
        refine mm_iload_n X dX7_pack_33 1 rfl ?_
        refine mm_iload_n X dX7_pack_34 2 rfl ?_
        refine mm_iconst X dX7_pack_35 (v := 3) (by decide) ?_
        obtain ⟨q4, hq4, h⟩ := Option.bind_eq_some_iff.mp h
        refine mm_callVi X dX7_pack_36 (As := [.int p1, .int p2, .int (3 : Int32)]) (rest := [.int p3]) 2 (by decide) dv_cf_2 rfl hL (mX2_tally hJ hq4) gX7_pack_X2_tally rfl ⟨rfl, rfl⟩ hyX2_tally ⟨Nat.le_of_ble_eq_true rfl, Nat.le_of_ble_eq_true rfl⟩ rfl (Nat.le_of_ble_eq_true rfl) ?_
        refine mm_isub X dX7_pack_39 ?_
        refine mm_istore X dX7_pack_40 (by decide) (lv2 := [(4, .int (p3 - q4)), (0, .ref (a 0)), (1, .int p1), (2, .int p2), (3, .int p3)]) rfl ?_
        refine mm_iload X dX7_pack_42 0 rfl ?_
        refine mm_if_le X dX7_pack_44 (tgt := 53) (by decide) (fun c5 => ?_) (fun c5 => ?_)
        · have h := (if_neg c5).symm.trans h
          refine mm_aload_n X dX7_pack_53 1 rfl ?_
          refine mm_get X dX7_pack_54 0 1 (by decide) dv_cf_0 rfl (by decide) uX7_pack_7 kX7_pack_1 rfl (v := .ref (a 2)) rfl ?_
          refine mm_iload_n X dX7_pack_57 2 rfl ?_
          refine mm_iload_n X dX7_pack_58 3 rfl ?_
          refine mm_iload_n X dX7_pack_59 4 rfl ?_
          obtain ⟨q6, hq6, h⟩ := Option.bind_eq_some_iff.mp h
          refine mm_callVi X dX7_pack_60 (As := [.int p1, .int p2, .int p3]) (rest := []) 2 (by decide) dv_cf_2 rfl hL (mX2_sendOut hJ hq6) gX7_pack_X2_sendOut rfl ⟨rfl, rfl⟩ hyX2_sendOut ⟨Nat.le_of_ble_eq_true rfl, Nat.le_of_ble_eq_true rfl⟩ rfl (Nat.le_of_ble_eq_true rfl) ?_
          obtain rfl := Option.some.inj h
          exact mm_iret X dX7_pack_63 rfl hQ rfl
        · have h := (if_pos c5).symm.trans h
          refine mm_bipush X dX7_pack_47 (v := -100) (by decide) ?_
          refine mm_iload X dX7_pack_49 0 rfl ?_
          refine mm_isub X dX7_pack_51 ?_
          obtain rfl := Option.some.inj h
          exact mm_iret X dX7_pack_52 rfl hQ rfl
      · have h := (if_pos c3).symm.trans h
        refine mm_bipush X dX7_pack_25 (v := -2) (by decide) ?_
        obtain rfl := Option.some.inj h
        exact mm_iret X dX7_pack_27 rfl hQ rfl
/-! LinenTunnel.isForm -/
def fX7_isForm (p0 : Int32) : Int32 := (fX7_within p0 (0 : Int32) (2 : Int32))
theorem bX7_isForm {p0 : Int32} : narrow .boolean (.int (fX7_isForm p0)) = .int (fX7_isForm p0) := by
  unfold fX7_isForm
  first | exact bX7_within | exact rfl | ((repeat' split) <;> first | rfl | exact bX7_within)
abbrev rX7_isForm : Room := { frames := 1, cells := 0, slots := 0, locals := 22 }
theorem hyX7_isForm : yX7_isForm.cls ≠ "java/lang/invoke/MethodHandle" ∧ yX7_isForm.cls ≠ "java/lang/invoke/VarHandle" ∧ (parseMethodDescriptor yX7_isForm.desc).map (fun d => d.parameters.length) = some 1 := by decide +kernel
set_option maxRecDepth 100000 in
set_option maxHeartbeats 4000000 in
theorem mX7_isForm {l : Launch} {D : va_G} {cI : ClassId} {a : Nat → Nat} (hJ : mm_J 59 a) {σ : mm_M} {p0 : Int32} {res : Int32} (h : fX7_isForm p0 = res) (sz : Nat) : Met l yX7_isForm wsX7_isForm rX7_isForm (dP D cI a σ [.int p0] sz) (dQi D cI a res σ sz) 0 0 (mm_A 59 a sz) := by
  refine mm_met (fun sz => dQi D cI a res σ sz) (lv := [(0, .int p0)]) (ret := (some .boolean)) (cc := cX7_isForm) (maxL := 1) (own := RX7) hJ (by decide +kernel) rfl rfl (Nat.le_of_ble_eq_true rfl) rfl ?_ sz
  intro K hL X hQ
  unfold fX7_isForm at h
  refine mm_iload_n X dX7_isForm_0 0 rfl ?_
  refine mm_iconst X dX7_isForm_1 (v := 0) (by decide) ?_
  refine mm_iconst X dX7_isForm_2 (v := 2) (by decide) ?_
  refine mm_callSi X dX7_isForm_3 (As := [.int p0, .int (0 : Int32), .int (2 : Int32)]) (rest := []) hL (mX7_within hJ (res := fX7_within p0 (0 : Int32) (2 : Int32)) rfl) gX7_isForm_X7_within rfl ⟨rfl, rfl⟩ hyX7_within ⟨Nat.le_of_ble_eq_true rfl, Nat.le_of_ble_eq_true rfl⟩ rfl (Nat.le_of_ble_eq_true rfl) ?_
  subst h
  exact mm_zret X dX7_isForm_6 rfl bX7_within hQ rfl
/-! LinenTunnel$Sheets.renew -/
def fX5_renew_21 (F : Nat) (l1 : Int32) : Nat → Int32 → mm_M → Option (mm_M)
  | 0, _, _ => none
  | k + 1, l4, σ => (if l4 < (60 : Int32) then fX5_renew_21 F l1 k (l4 + 1) (dr_wr σ 32 ((l1 * (60 : Int32)) + l4) (0 : Int32)) else some (σ))
def fX5_renew (F : Nat) (σ : mm_M) (p1 p2 p3 : Int32) : Option (mm_M) := (fX5_renew_21 F p1 F (0 : Int32) (dr_wr (dr_wr σ 30 p1 p2) 31 p1 p3)).bind fun q1 => some q1
abbrev rX5_renew : Room := { frames := 1, cells := 0, slots := 0, locals := 22 }
theorem hyX5_renew : yX5_renew.cls = RX5 ∧ yX5_renew.cls ≠ "java/lang/invoke/MethodHandle" ∧ yX5_renew.cls ≠ "java/lang/invoke/VarHandle" ∧ (parseMethodDescriptor yX5_renew.desc).map (fun d => d.parameters.length) = some 3 := by decide +kernel
theorem kX5_renew_1 : (Cond.fieldLink RX5 14 "LinenTunnel$Sheets" "form" "LLinenTunnel$Row;" : Cond) ∈ wsX5_renew := List.mem_of_getElem? (i := 1) rfl
theorem uX5_renew_5 : ∀ w ∈ u_ws RX5 TX5 3, w ∈ wsX5_renew := fun _ h => (List.mem_cons_of_mem _ (List.mem_append_left _ (List.mem_append_right _ h)))
theorem kX5_renew_2 : (Cond.fieldLink RX5 20 "LinenTunnel$Sheets" "size" "LLinenTunnel$Row;" : Cond) ∈ wsX5_renew := List.mem_of_getElem? (i := 2) rfl
theorem kX5_renew_3 : (Cond.fieldLink RX5 23 "LinenTunnel$Sheets" "items" "LLinenTunnel$Row;" : Cond) ∈ wsX5_renew := List.mem_of_getElem? (i := 3) rfl
set_option maxRecDepth 100000 in
set_option maxHeartbeats 4000000 in
theorem tX5_renew_21 {l : Launch} {K : mm_K} {D : va_G} {cI : ClassId} {a : Nat → Nat} (X : dC K rX5_renew cX5_renew 5 none wsX5_renew RX5 D cI a) (hL : mm_L K l) (hJ : mm_J 59 a) {F : Nat} {l1 : Int32} {out : mm_M} (hx : dG K D cI a out 49 [] []) : ∀ (k : Nat) (l4 : Int32) (σ : mm_M), fX5_renew_21 F l1 k l4 σ = some out → dG K D cI a σ 21 [(0, .ref (a 6)), (1, .int l1), (4, .int l4)] [] := by
  intro k
  induction k with
  | zero =>
    intro l4 σ h
    have h : none = some out := h
    cases h
  | succ k ih =>
    intro l4 σ h
    rw [fX5_renew_21] at h
    refine mm_iload X dX5_renew_21 2 rfl ?_
    refine mm_bipush X dX5_renew_23 (v := 60) (by decide) ?_
    refine mm_icmp_ge X dX5_renew_25 (tgt := 49) (by decide) (fun c1 => ?_) (fun c1 => ?_)
    · have h := (if_neg c1).symm.trans h
      obtain rfl := Option.some.inj h
      refine mm_loc [] rfl ?_
      exact hx
    · have h := (if_pos c1).symm.trans h
      refine mm_aload_n X dX5_renew_28 0 rfl ?_
      refine mm_get X dX5_renew_29 6 2 (by decide) dv_cf_6 rfl (by decide) uX5_renew_5 kX5_renew_3 rfl (v := .ref (a 58)) rfl ?_
      refine mm_iload_n X dX5_renew_32 1 rfl ?_
      refine mm_bipush X dX5_renew_33 (v := 60) (by decide) ?_
      refine mm_imul X dX5_renew_35 ?_
      refine mm_iload X dX5_renew_36 2 rfl ?_
      refine mm_iadd X dX5_renew_38 ?_
      refine mm_iconst X dX5_renew_39 (v := 0) (by decide) ?_
      refine mm_callVv X dX5_renew_40 (As := [.int ((l1 * (60 : Int32)) + l4), .int (0 : Int32)]) (rest := []) 58 (by decide) (dv_cf_row (j := 32) (by decide)) rfl hL (mX4_write hJ (j := 32) (by decide) (by decide) (res := dr_wr σ 32 ((l1 * (60 : Int32)) + l4) (0 : Int32)) rfl) gX5_renew_X4_write rfl ⟨rfl, rfl⟩ hyX4_write ⟨Nat.le_of_ble_eq_true rfl, Nat.le_of_ble_eq_true rfl⟩ rfl (Nat.le_of_ble_eq_true rfl) ?_
      refine mm_iinc X dX5_renew_43 2 rfl (v := (l4 + 1)) rfl (by decide) (lv2 := [(4, .int (l4 + 1)), (0, .ref (a 6)), (1, .int l1)]) rfl ?_
      refine mm_goto X dX5_renew_46 (tgt := 21) (by decide) ?_
      refine mm_loc [1, 2, 0] rfl ?_
      exact ih _ _ h
set_option maxRecDepth 100000 in
set_option maxHeartbeats 4000000 in
theorem mX5_renew {l : Launch} {D : va_G} {cI : ClassId} {a : Nat → Nat} (hJ : mm_J 59 a) {F : Nat} {σ : mm_M} {p1 p2 p3 : Int32} {res : mm_M} (h : fX5_renew F σ p1 p2 p3 = some res) (sz : Nat) : Met l yX5_renew wsX5_renew rX5_renew (dP D cI a σ [.ref (a 6), .int p1, .int p2, .int p3] sz) (dQv D cI a res sz) 0 0 (mm_A 59 a sz) := by
  refine mm_met (fun sz => dQv D cI a res sz) (lv := [(0, .ref (a 6)), (1, .int p1), (2, .int p2), (3, .int p3)]) (ret := none) (cc := cX5_renew) (maxL := 5) (own := RX5) hJ (by decide +kernel) rfl rfl (Nat.le_of_ble_eq_true rfl) rfl ?_ sz
  intro K hL X hQ
  unfold fX5_renew at h
  refine mm_aload_n X dX5_renew_0 0 rfl ?_
  refine mm_get X dX5_renew_1 6 0 (by decide) dv_cf_6 rfl (by decide) uX5_renew_5 kX5_renew_1 rfl (v := .ref (a 56)) rfl ?_
  refine mm_iload_n X dX5_renew_4 1 rfl ?_
  refine mm_iload_n X dX5_renew_5 2 rfl ?_
  refine mm_callVv X dX5_renew_6 (As := [.int p1, .int p2]) (rest := []) 56 (by decide) (dv_cf_row (j := 30) (by decide)) rfl hL (mX4_write hJ (j := 30) (by decide) (by decide) (res := dr_wr σ 30 p1 p2) rfl) gX5_renew_X4_write rfl ⟨rfl, rfl⟩ hyX4_write ⟨Nat.le_of_ble_eq_true rfl, Nat.le_of_ble_eq_true rfl⟩ rfl (Nat.le_of_ble_eq_true rfl) ?_
  refine mm_aload_n X dX5_renew_9 0 rfl ?_
  refine mm_get X dX5_renew_10 6 1 (by decide) dv_cf_6 rfl (by decide) uX5_renew_5 kX5_renew_2 rfl (v := .ref (a 57)) rfl ?_
  refine mm_iload_n X dX5_renew_13 1 rfl ?_
  refine mm_iload_n X dX5_renew_14 3 rfl ?_
  refine mm_callVv X dX5_renew_15 (As := [.int p1, .int p3]) (rest := []) 57 (by decide) (dv_cf_row (j := 31) (by decide)) rfl hL (mX4_write hJ (j := 31) (by decide) (by decide) (res := dr_wr (dr_wr σ 30 p1 p2) 31 p1 p3) rfl) gX5_renew_X4_write rfl ⟨rfl, rfl⟩ hyX4_write ⟨Nat.le_of_ble_eq_true rfl, Nat.le_of_ble_eq_true rfl⟩ rfl (Nat.le_of_ble_eq_true rfl) ?_
  refine mm_iconst X dX5_renew_18 (v := 0) (by decide) ?_
  refine mm_istore X dX5_renew_19 (by decide) (lv2 := [(4, .int (0 : Int32)), (0, .ref (a 6)), (1, .int p1), (2, .int p2), (3, .int p3)]) rfl ?_
  obtain ⟨q1, hq1, h⟩ := Option.bind_eq_some_iff.mp h
  refine mm_loc [1, 2, 0] rfl ?_
  refine tX5_renew_21 X hL hJ ?_ F (0 : Int32) (dr_wr (dr_wr σ 30 p1 p2) 31 p1 p3) hq1
  obtain rfl := Option.some.inj h
  exact mm_vret X dX5_renew_49 rfl hQ
/-! LinenTunnel.sheet -/
def fX7_sheet (F : Nat) (σ : mm_M) (p1 p2 p3 : Int32) : Option (Int32 × mm_M) := (if (fX7_isSheet p1) = 0 then some ((-2 : Int32), σ) else (if (fX7_isForm p2) = 0 then some ((-2 : Int32), σ) else (if (60 : Int32) < p3 then some ((-2 : Int32), σ) else (if p3 < 0 then some ((fX7_find σ (5 : Int32)).1, (fX7_find σ (5 : Int32)).2) else (fX5_renew F σ p1 p2 p3).bind fun q5 => some (p3, q5)))))
abbrev rX7_sheet : Room := { frames := 2, cells := 0, slots := 0, locals := 46 }
theorem hyX7_sheet : yX7_sheet.cls = RX7 ∧ yX7_sheet.cls ≠ "java/lang/invoke/MethodHandle" ∧ yX7_sheet.cls ≠ "java/lang/invoke/VarHandle" ∧ (parseMethodDescriptor yX7_sheet.desc).map (fun d => d.parameters.length) = some 3 := by decide +kernel
theorem kX7_sheet_1 : (Cond.fieldLink RX7 53 "LinenTunnel" "sheets" "LLinenTunnel$Sheets;" : Cond) ∈ wsX7_sheet := List.mem_of_getElem? (i := 1) rfl
theorem uX7_sheet_7 : ∀ w ∈ u_ws RX7 TX7 7, w ∈ wsX7_sheet := fun _ h => (List.mem_cons_of_mem _ (List.mem_append_left _ (List.mem_append_left _ (List.mem_append_right _ h))))
set_option maxRecDepth 100000 in
set_option maxHeartbeats 4000000 in
theorem mX7_sheet {l : Launch} {D : va_G} {cI : ClassId} {a : Nat → Nat} (hJ : mm_J 59 a) {F : Nat} {σ : mm_M} {p1 p2 p3 : Int32} {res : Int32 × mm_M} (h : fX7_sheet F σ p1 p2 p3 = some res) (sz : Nat) : Met l yX7_sheet wsX7_sheet rX7_sheet (dP D cI a σ [.ref (a 0), .int p1, .int p2, .int p3] sz) (dQi D cI a res.1 res.2 sz) 0 0 (mm_A 59 a sz) := by
  refine mm_met (fun sz => dQi D cI a res.1 res.2 sz) (lv := [(0, .ref (a 0)), (1, .int p1), (2, .int p2), (3, .int p3)]) (ret := (some .int)) (cc := cX7_sheet) (maxL := 4) (own := RX7) hJ (by decide +kernel) rfl rfl (Nat.le_of_ble_eq_true rfl) rfl ?_ sz
  intro K hL X hQ
  unfold fX7_sheet at h
  refine mm_iload_n X dX7_sheet_0 1 rfl ?_
  refine mm_callSi X dX7_sheet_1 (As := [.int p1]) (rest := []) hL (mX7_isSheet hJ (res := fX7_isSheet p1) rfl) gX7_sheet_X7_isSheet rfl ⟨rfl, rfl⟩ hyX7_isSheet ⟨Nat.le_of_ble_eq_true rfl, Nat.le_of_ble_eq_true rfl⟩ rfl (Nat.le_of_ble_eq_true rfl) ?_
  refine mm_if_eq X dX7_sheet_4 (tgt := 20) (by decide) (fun c1 => ?_) (fun c1 => ?_)
  · have h := (if_pos c1).symm.trans h
    refine mm_bipush X dX7_sheet_20 (v := -2) (by decide) ?_
    obtain rfl := Option.some.inj h
    exact mm_iret X dX7_sheet_22 rfl hQ rfl
  · have h := (if_neg c1).symm.trans h
    refine mm_iload_n X dX7_sheet_7 2 rfl ?_
    refine mm_callSi X dX7_sheet_8 (As := [.int p2]) (rest := []) hL (mX7_isForm hJ (res := fX7_isForm p2) rfl) gX7_sheet_X7_isForm rfl ⟨rfl, rfl⟩ hyX7_isForm ⟨Nat.le_of_ble_eq_true rfl, Nat.le_of_ble_eq_true rfl⟩ rfl (Nat.le_of_ble_eq_true rfl) ?_
    refine mm_if_eq X dX7_sheet_11 (tgt := 20) (by decide) (fun c2 => ?_) (fun c2 => ?_)
    · have h := (if_pos c2).symm.trans h
      refine mm_bipush X dX7_sheet_20 (v := -2) (by decide) ?_
      obtain rfl := Option.some.inj h
      exact mm_iret X dX7_sheet_22 rfl hQ rfl
    · have h := (if_neg c2).symm.trans h
      refine mm_iload_n X dX7_sheet_14 3 rfl ?_
      refine mm_bipush X dX7_sheet_15 (v := 60) (by decide) ?_
      refine mm_icmp_le X dX7_sheet_17 (tgt := 23) (by decide) (fun c3 => ?_) (fun c3 => ?_)
      · have h := (if_neg c3).symm.trans h
        refine mm_iload_n X dX7_sheet_23 3 rfl ?_
        refine mm_if_ge X dX7_sheet_24 (tgt := 33) (by decide) (fun c4 => ?_) (fun c4 => ?_)
        · have h := (if_neg c4).symm.trans h
          refine mm_aload_n X dX7_sheet_33 0 rfl ?_
          refine mm_get X dX7_sheet_34 0 5 (by decide) dv_cf_0 rfl (by decide) uX7_sheet_7 kX7_sheet_1 rfl (v := .ref (a 6)) rfl ?_
          refine mm_iload_n X dX7_sheet_37 1 rfl ?_
          refine mm_iload_n X dX7_sheet_38 2 rfl ?_
          refine mm_iload_n X dX7_sheet_39 3 rfl ?_
          obtain ⟨q5, hq5, h⟩ := Option.bind_eq_some_iff.mp h
          refine mm_callVv X dX7_sheet_40 (As := [.int p1, .int p2, .int p3]) (rest := []) 6 (by decide) dv_cf_6 rfl hL (mX5_renew hJ hq5) gX7_sheet_X5_renew rfl ⟨rfl, rfl⟩ hyX5_renew ⟨Nat.le_of_ble_eq_true rfl, Nat.le_of_ble_eq_true rfl⟩ rfl (Nat.le_of_ble_eq_true rfl) ?_
          refine mm_iload_n X dX7_sheet_43 3 rfl ?_
          obtain rfl := Option.some.inj h
          exact mm_iret X dX7_sheet_44 rfl hQ rfl
        · have h := (if_pos c4).symm.trans h
          refine mm_aload_n X dX7_sheet_27 0 rfl ?_
          refine mm_iconst X dX7_sheet_28 (v := 5) (by decide) ?_
          refine mm_callVi X dX7_sheet_29 (As := [.int (5 : Int32)]) (rest := []) 0 (by decide) dv_cf_0 rfl hL (mX7_find hJ (res := fX7_find σ (5 : Int32)) rfl) gX7_sheet_X7_find rfl ⟨rfl, rfl⟩ hyX7_find ⟨Nat.le_of_ble_eq_true rfl, Nat.le_of_ble_eq_true rfl⟩ rfl (Nat.le_of_ble_eq_true rfl) ?_
          obtain rfl := Option.some.inj h
          exact mm_iret X dX7_sheet_32 rfl hQ rfl
      · have h := (if_pos c3).symm.trans h
        refine mm_bipush X dX7_sheet_20 (v := -2) (by decide) ?_
        obtain rfl := Option.some.inj h
        exact mm_iret X dX7_sheet_22 rfl hQ rfl
/-! LinenTunnel.lose -/
def fX7_lose (F : Nat) (σ : mm_M) (p1 : Int32) : Option (Int32 × mm_M) := (if (fX7_isSheet p1) = 0 then some ((-2 : Int32), σ) else (if (fX5_isLost σ p1) = 0 then (fX5_renew F σ p1 (-1 : Int32) (0 : Int32)).bind fun q3 => some ((dr_rd σ 31 p1), q3) else some ((fX7_find σ (1 : Int32)).1, (fX7_find σ (1 : Int32)).2)))
abbrev rX7_lose : Room := { frames := 2, cells := 0, slots := 0, locals := 46 }
theorem hyX7_lose : yX7_lose.cls = RX7 ∧ yX7_lose.cls ≠ "java/lang/invoke/MethodHandle" ∧ yX7_lose.cls ≠ "java/lang/invoke/VarHandle" ∧ (parseMethodDescriptor yX7_lose.desc).map (fun d => d.parameters.length) = some 1 := by decide +kernel
theorem kX7_lose_1 : (Cond.fieldLink RX7 53 "LinenTunnel" "sheets" "LLinenTunnel$Sheets;" : Cond) ∈ wsX7_lose := List.mem_of_getElem? (i := 1) rfl
theorem uX7_lose_7 : ∀ w ∈ u_ws RX7 TX7 7, w ∈ wsX7_lose := fun _ h => (List.mem_cons_of_mem _ (List.mem_append_left _ (List.mem_append_left _ (List.mem_append_right _ h))))
theorem uX7_lose_5 : ∀ w ∈ u_ws RX5 TX5 3, w ∈ wsX7_lose := fun _ h => (List.mem_cons_of_mem _ (List.mem_append_left _ (List.mem_append_right _ h)))
set_option maxRecDepth 100000 in
set_option maxHeartbeats 4000000 in
theorem mX7_lose {l : Launch} {D : va_G} {cI : ClassId} {a : Nat → Nat} (hJ : mm_J 59 a) {F : Nat} {σ : mm_M} {p1 : Int32} {res : Int32 × mm_M} (h : fX7_lose F σ p1 = some res) (sz : Nat) : Met l yX7_lose wsX7_lose rX7_lose (dP D cI a σ [.ref (a 0), .int p1] sz) (dQi D cI a res.1 res.2 sz) 0 0 (mm_A 59 a sz) := by
  refine mm_met (fun sz => dQi D cI a res.1 res.2 sz) (lv := [(0, .ref (a 0)), (1, .int p1)]) (ret := (some .int)) (cc := cX7_lose) (maxL := 3) (own := RX7) hJ (by decide +kernel) rfl rfl (Nat.le_of_ble_eq_true rfl) rfl ?_ sz
  intro K hL X hQ
  unfold fX7_lose at h
  refine mm_iload_n X dX7_lose_0 1 rfl ?_
  refine mm_callSi X dX7_lose_1 (As := [.int p1]) (rest := []) hL (mX7_isSheet hJ (res := fX7_isSheet p1) rfl) gX7_lose_X7_isSheet rfl ⟨rfl, rfl⟩ hyX7_isSheet ⟨Nat.le_of_ble_eq_true rfl, Nat.le_of_ble_eq_true rfl⟩ rfl (Nat.le_of_ble_eq_true rfl) ?_
  refine mm_if_ne X dX7_lose_4 (tgt := 10) (by decide) (fun c1 => ?_) (fun c1 => ?_)
  · have h := (if_neg c1).symm.trans h
    refine mm_aload_n X dX7_lose_10 0 rfl ?_
    refine mm_get X dX7_lose_11 0 5 (by decide) dv_cf_0 rfl (by decide) uX7_lose_7 kX7_lose_1 rfl (v := .ref (a 6)) rfl ?_
    refine mm_iload_n X dX7_lose_14 1 rfl ?_
    refine mm_callVi X dX7_lose_15 (As := [.int p1]) (rest := []) 6 (by decide) dv_cf_6 rfl hL (mX5_isLost hJ (res := fX5_isLost σ p1) rfl) gX7_lose_X5_isLost rfl ⟨rfl, rfl⟩ hyX5_isLost ⟨Nat.le_of_ble_eq_true rfl, Nat.le_of_ble_eq_true rfl⟩ rfl (Nat.le_of_ble_eq_true rfl) ?_
    refine mm_if_eq X dX7_lose_18 (tgt := 27) (by decide) (fun c2 => ?_) (fun c2 => ?_)
    · have h := (if_pos c2).symm.trans h
      refine mm_aload_n X dX7_lose_27 0 rfl ?_
      refine mm_get X dX7_lose_28 0 5 (by decide) dv_cf_0 rfl (by decide) uX7_lose_7 kX7_lose_1 rfl (v := .ref (a 6)) rfl ?_
      refine mm_getN X dX7_lose_31 6 1 (by decide) dv_cf_6 rfl (by decide) uX7_lose_5 (List.mem_of_getElem? (i := 27) rfl) rfl (v := .ref (a 57)) rfl ?_
      refine mm_iload_n X dX7_lose_34 1 rfl ?_
      refine mm_callVi X dX7_lose_35 (As := [.int p1]) (rest := []) 57 (by decide) (dv_cf_row (j := 31) (by decide)) rfl hL (mX4_read hJ (j := 31) (by decide) (by decide) (res := (dr_rd σ 31 p1)) rfl) gX7_lose_X4_read rfl ⟨rfl, rfl⟩ hyX4_read ⟨Nat.le_of_ble_eq_true rfl, Nat.le_of_ble_eq_true rfl⟩ rfl (Nat.le_of_ble_eq_true rfl) ?_
      refine mm_istore_n X dX7_lose_38 (by decide) (lv2 := [(2, .int (dr_rd σ 31 p1)), (0, .ref (a 0)), (1, .int p1)]) rfl ?_
      refine mm_aload_n X dX7_lose_39 1 rfl ?_
      refine mm_get X dX7_lose_40 0 5 (by decide) dv_cf_0 rfl (by decide) uX7_lose_7 kX7_lose_1 rfl (v := .ref (a 6)) rfl ?_
      refine mm_iload_n X dX7_lose_43 2 rfl ?_
      refine mm_iconst X dX7_lose_44 (v := -1) (by decide) ?_
      refine mm_iconst X dX7_lose_45 (v := 0) (by decide) ?_
      obtain ⟨q3, hq3, h⟩ := Option.bind_eq_some_iff.mp h
      refine mm_callVv X dX7_lose_46 (As := [.int p1, .int (-1 : Int32), .int (0 : Int32)]) (rest := []) 6 (by decide) dv_cf_6 rfl hL (mX5_renew hJ hq3) gX7_lose_X5_renew rfl ⟨rfl, rfl⟩ hyX5_renew ⟨Nat.le_of_ble_eq_true rfl, Nat.le_of_ble_eq_true rfl⟩ rfl (Nat.le_of_ble_eq_true rfl) ?_
      refine mm_iload_n X dX7_lose_49 0 rfl ?_
      obtain rfl := Option.some.inj h
      exact mm_iret X dX7_lose_50 rfl hQ rfl
    · have h := (if_neg c2).symm.trans h
      refine mm_aload_n X dX7_lose_21 0 rfl ?_
      refine mm_iconst X dX7_lose_22 (v := 1) (by decide) ?_
      refine mm_callVi X dX7_lose_23 (As := [.int (1 : Int32)]) (rest := []) 0 (by decide) dv_cf_0 rfl hL (mX7_find hJ (res := fX7_find σ (1 : Int32)) rfl) gX7_lose_X7_find rfl ⟨rfl, rfl⟩ hyX7_find ⟨Nat.le_of_ble_eq_true rfl, Nat.le_of_ble_eq_true rfl⟩ rfl (Nat.le_of_ble_eq_true rfl) ?_
      obtain rfl := Option.some.inj h
      exact mm_iret X dX7_lose_26 rfl hQ rfl
  · have h := (if_pos c1).symm.trans h
    refine mm_bipush X dX7_lose_7 (v := -2) (by decide) ?_
    obtain rfl := Option.some.inj h
    exact mm_iret X dX7_lose_9 rfl hQ rfl
/-! LinenTunnel$Sheets.findingAt -/
def fX5_findingAt (σ : mm_M) (p1 p2 p3 : Int32) : Int32 := (if (fX5_isLost σ p1) = 0 then (if (dr_rd σ 30 p1) = p2 then (if p3 < 0 then (2 : Int32) else (if p3 < (dr_rd σ 31 p1) then (0 : Int32) else (2 : Int32))) else (3 : Int32)) else (1 : Int32))
abbrev rX5_findingAt : Room := { frames := 2, cells := 0, slots := 0, locals := 42 }
theorem hyX5_findingAt : yX5_findingAt.cls = RX5 ∧ yX5_findingAt.cls ≠ "java/lang/invoke/MethodHandle" ∧ yX5_findingAt.cls ≠ "java/lang/invoke/VarHandle" ∧ (parseMethodDescriptor yX5_findingAt.desc).map (fun d => d.parameters.length) = some 3 := by decide +kernel
theorem kX5_findingAt_1 : (Cond.fieldLink RX5 14 "LinenTunnel$Sheets" "form" "LLinenTunnel$Row;" : Cond) ∈ wsX5_findingAt := List.mem_of_getElem? (i := 1) rfl
theorem uX5_findingAt_5 : ∀ w ∈ u_ws RX5 TX5 3, w ∈ wsX5_findingAt := fun _ h => (List.mem_cons_of_mem _ (List.mem_append_left _ (List.mem_append_right _ h)))
theorem kX5_findingAt_2 : (Cond.fieldLink RX5 20 "LinenTunnel$Sheets" "size" "LLinenTunnel$Row;" : Cond) ∈ wsX5_findingAt := List.mem_of_getElem? (i := 2) rfl
set_option maxRecDepth 100000 in
set_option maxHeartbeats 4000000 in
theorem mX5_findingAt {l : Launch} {D : va_G} {cI : ClassId} {a : Nat → Nat} (hJ : mm_J 59 a) {σ : mm_M} {p1 p2 p3 : Int32} {res : Int32} (h : fX5_findingAt σ p1 p2 p3 = res) (sz : Nat) : Met l yX5_findingAt wsX5_findingAt rX5_findingAt (dP D cI a σ [.ref (a 6), .int p1, .int p2, .int p3] sz) (dQi D cI a res σ sz) 0 0 (mm_A 59 a sz) := by
  refine mm_met (fun sz => dQi D cI a res σ sz) (lv := [(0, .ref (a 6)), (1, .int p1), (2, .int p2), (3, .int p3)]) (ret := (some .int)) (cc := cX5_findingAt) (maxL := 4) (own := RX5) hJ (by decide +kernel) rfl rfl (Nat.le_of_ble_eq_true rfl) rfl ?_ sz
  intro K hL X hQ
  unfold fX5_findingAt at h
  refine mm_aload_n X dX5_findingAt_0 0 rfl ?_
  refine mm_iload_n X dX5_findingAt_1 1 rfl ?_
  refine mm_callVi X dX5_findingAt_2 (As := [.int p1]) (rest := []) 6 (by decide) dv_cf_6 rfl hL (mX5_isLost hJ (res := fX5_isLost σ p1) rfl) gX5_findingAt_X5_isLost rfl ⟨rfl, rfl⟩ hyX5_isLost ⟨Nat.le_of_ble_eq_true rfl, Nat.le_of_ble_eq_true rfl⟩ rfl (Nat.le_of_ble_eq_true rfl) ?_
  refine mm_if_eq X dX5_findingAt_5 (tgt := 10) (by decide) (fun c1 => ?_) (fun c1 => ?_)
  · have h := (if_pos c1).symm.trans h
    refine mm_aload_n X dX5_findingAt_10 0 rfl ?_
    refine mm_get X dX5_findingAt_11 6 0 (by decide) dv_cf_6 rfl (by decide) uX5_findingAt_5 kX5_findingAt_1 rfl (v := .ref (a 56)) rfl ?_
    refine mm_iload_n X dX5_findingAt_14 1 rfl ?_
    refine mm_callVi X dX5_findingAt_15 (As := [.int p1]) (rest := []) 56 (by decide) (dv_cf_row (j := 30) (by decide)) rfl hL (mX4_read hJ (j := 30) (by decide) (by decide) (res := (dr_rd σ 30 p1)) rfl) gX5_findingAt_X4_read rfl ⟨rfl, rfl⟩ hyX4_read ⟨Nat.le_of_ble_eq_true rfl, Nat.le_of_ble_eq_true rfl⟩ rfl (Nat.le_of_ble_eq_true rfl) ?_
    refine mm_iload_n X dX5_findingAt_18 2 rfl ?_
    refine mm_icmp_eq X dX5_findingAt_19 (tgt := 24) (by decide) (fun c2 => ?_) (fun c2 => ?_)
    · have h := (if_pos c2).symm.trans h
      refine mm_iload_n X dX5_findingAt_24 3 rfl ?_
      refine mm_if_lt X dX5_findingAt_25 (tgt := 44) (by decide) (fun c3 => ?_) (fun c3 => ?_)
      · have h := (if_pos c3).symm.trans h
        refine mm_iconst X dX5_findingAt_44 (v := 2) (by decide) ?_
        subst h
        exact mm_iret X dX5_findingAt_45 rfl hQ rfl
      · have h := (if_neg c3).symm.trans h
        refine mm_iload_n X dX5_findingAt_28 3 rfl ?_
        refine mm_aload_n X dX5_findingAt_29 0 rfl ?_
        refine mm_get X dX5_findingAt_30 6 1 (by decide) dv_cf_6 rfl (by decide) uX5_findingAt_5 kX5_findingAt_2 rfl (v := .ref (a 57)) rfl ?_
        refine mm_iload_n X dX5_findingAt_33 1 rfl ?_
        refine mm_callVi X dX5_findingAt_34 (As := [.int p1]) (rest := [.int p3]) 57 (by decide) (dv_cf_row (j := 31) (by decide)) rfl hL (mX4_read hJ (j := 31) (by decide) (by decide) (res := (dr_rd σ 31 p1)) rfl) gX5_findingAt_X4_read rfl ⟨rfl, rfl⟩ hyX4_read ⟨Nat.le_of_ble_eq_true rfl, Nat.le_of_ble_eq_true rfl⟩ rfl (Nat.le_of_ble_eq_true rfl) ?_
        refine mm_icmp_ge X dX5_findingAt_37 (tgt := 44) (by decide) (fun c4 => ?_) (fun c4 => ?_)
        · have h := (if_neg c4).symm.trans h
          refine mm_iconst X dX5_findingAt_44 (v := 2) (by decide) ?_
          subst h
          exact mm_iret X dX5_findingAt_45 rfl hQ rfl
        · have h := (if_pos c4).symm.trans h
          refine mm_iconst X dX5_findingAt_40 (v := 0) (by decide) ?_
          refine mm_goto X dX5_findingAt_41 (tgt := 45) (by decide) ?_
          subst h
          exact mm_iret X dX5_findingAt_45 rfl hQ rfl
    · have h := (if_neg c2).symm.trans h
      refine mm_iconst X dX5_findingAt_22 (v := 3) (by decide) ?_
      subst h
      exact mm_iret X dX5_findingAt_23 rfl hQ rfl
  · have h := (if_neg c1).symm.trans h
    refine mm_iconst X dX5_findingAt_8 (v := 1) (by decide) ?_
    subst h
    exact mm_iret X dX5_findingAt_9 rfl hQ rfl
/-! LinenTunnel$Sheets.lowestBits -/
def fX5_lowestBits (p0 p1 : Int32) : Int32 := (if p0 = 0 then (p1).toInt8.toInt32 else (if p0 = (1 : Int32) then (p1).toInt16.toInt32 else p1))
abbrev rX5_lowestBits : Room := { frames := 0, cells := 0, slots := 0, locals := 0 }
theorem hyX5_lowestBits : yX5_lowestBits.cls ≠ "java/lang/invoke/MethodHandle" ∧ yX5_lowestBits.cls ≠ "java/lang/invoke/VarHandle" ∧ (parseMethodDescriptor yX5_lowestBits.desc).map (fun d => d.parameters.length) = some 2 := by decide +kernel
set_option maxRecDepth 100000 in
set_option maxHeartbeats 4000000 in
theorem mX5_lowestBits {l : Launch} {D : va_G} {cI : ClassId} {a : Nat → Nat} (hJ : mm_J 59 a) {σ : mm_M} {p0 p1 : Int32} {res : Int32} (h : fX5_lowestBits p0 p1 = res) (sz : Nat) : Met l yX5_lowestBits wsX5_lowestBits rX5_lowestBits (dP D cI a σ [.int p0, .int p1] sz) (dQi D cI a res σ sz) 0 0 (mm_A 59 a sz) := by
  refine mm_met (fun sz => dQi D cI a res σ sz) (lv := [(0, .int p0), (1, .int p1)]) (ret := (some .int)) (cc := cX5_lowestBits) (maxL := 2) (own := RX5) hJ (by decide +kernel) rfl rfl (Nat.le_of_ble_eq_true rfl) rfl ?_ sz
  intro K hL X hQ
  unfold fX5_lowestBits at h
  refine mm_iload_n X dX5_lowestBits_0 0 rfl ?_
  refine mm_if_ne X dX5_lowestBits_1 (tgt := 7) (by decide) (fun c1 => ?_) (fun c1 => ?_)
  · have h := (if_neg c1).symm.trans h
    refine mm_iload_n X dX5_lowestBits_7 0 rfl ?_
    refine mm_iconst X dX5_lowestBits_8 (v := 1) (by decide) ?_
    refine mm_icmp_ne X dX5_lowestBits_9 (tgt := 17) (by decide) (fun c2 => ?_) (fun c2 => ?_)
    · have h := (if_neg c2).symm.trans h
      refine mm_iload_n X dX5_lowestBits_17 1 rfl ?_
      subst h
      exact mm_iret X dX5_lowestBits_18 rfl hQ rfl
    · have h := (if_pos c2).symm.trans h
      refine mm_iload_n X dX5_lowestBits_12 1 rfl ?_
      refine mm_i2s X dX5_lowestBits_13 ?_
      refine mm_goto X dX5_lowestBits_14 (tgt := 18) (by decide) ?_
      subst h
      exact mm_iret X dX5_lowestBits_18 rfl hQ rfl
  · have h := (if_pos c1).symm.trans h
    refine mm_iload_n X dX5_lowestBits_4 1 rfl ?_
    refine mm_i2b X dX5_lowestBits_5 ?_
    subst h
    exact mm_iret X dX5_lowestBits_6 rfl hQ rfl
