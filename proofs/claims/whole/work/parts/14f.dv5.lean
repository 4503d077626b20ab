/-! LinenTunnel$House.hasWaterOfNext -/
def fX0_hasWaterOfNext (σ : mm_M) (p1 : Int32) : Int32 := (if (if p1 < ((σ 5 2) - (1 : Int32)) then (dr_rd σ 24 (p1 + (1 : Int32))) else (-1 : Int32)) = (-1 : Int32) then (0 : Int32) else (if (fX0_colourAt σ (dr_rd σ 24 p1)) < (fX0_colourAt σ (if p1 < ((σ 5 2) - (1 : Int32)) then (dr_rd σ 24 (p1 + (1 : Int32))) else (-1 : Int32))) then (0 : Int32) else (1 : Int32)))
theorem bX0_hasWaterOfNext {σ : mm_M} {p1 : Int32} : narrow .boolean (.int (fX0_hasWaterOfNext σ p1)) = .int (fX0_hasWaterOfNext σ p1) := by
  unfold fX0_hasWaterOfNext
  first | exact rfl | ((repeat' split) <;> first | rfl)
abbrev rX0_hasWaterOfNext : Room := { frames := 3, cells := 0, slots := 0, locals := 64 }
theorem hyX0_hasWaterOfNext : yX0_hasWaterOfNext.cls = RX0 ∧ yX0_hasWaterOfNext.cls ≠ "java/lang/invoke/MethodHandle" ∧ yX0_hasWaterOfNext.cls ≠ "java/lang/invoke/VarHandle" ∧ (parseMethodDescriptor yX0_hasWaterOfNext.desc).map (fun d => d.parameters.length) = some 1 := by decide +kernel
theorem kX0_hasWaterOfNext_1 : (Cond.fieldLink RX0 9 "LinenTunnel$House" "compartments" "I" : Cond) ∈ wsX0_hasWaterOfNext := List.mem_of_getElem? (i := 1) rfl
theorem uX0_hasWaterOfNext_0 : ∀ w ∈ u_ws RX0 TX0 16, w ∈ wsX0_hasWaterOfNext := fun _ h => (List.mem_cons_of_mem _ (List.mem_append_left _ (List.mem_append_left _ (List.mem_append_right _ h))))
theorem kX0_hasWaterOfNext_2 : (Cond.fieldLink RX0 42 "LinenTunnel$House" "inside" "LLinenTunnel$Row;" : Cond) ∈ wsX0_hasWaterOfNext := List.mem_of_getElem? (i := 2) rfl
set_option maxRecDepth 100000 in
set_option maxHeartbeats 4000000 in
theorem mX0_hasWaterOfNext {l : Launch} {D : va_G} {cI : ClassId} {a : Nat → Nat} (hJ : mm_J 59 a) {σ : mm_M} {p1 : Int32} {res : Int32} (h : fX0_hasWaterOfNext σ p1 = res) (sz : Nat) : Met l yX0_hasWaterOfNext wsX0_hasWaterOfNext rX0_hasWaterOfNext (dP D cI a σ [.ref (a 5), .int p1] sz) (dQi D cI a res σ sz) 0 0 (mm_A 59 a sz) := by
  refine mm_met (fun sz => dQi D cI a res σ sz) (lv := [(0, .ref (a 5)), (1, .int p1)]) (ret := (some .boolean)) (cc := cX0_hasWaterOfNext) (maxL := 3) (own := RX0) hJ (by decide +kernel) rfl rfl (Nat.le_of_ble_eq_true rfl) rfl ?_ sz
  intro K hL X hQ
  unfold fX0_hasWaterOfNext at h
  refine mm_iload_n X dX0_hasWaterOfNext_0 1 rfl ?_
  refine mm_aload_n X dX0_hasWaterOfNext_1 0 rfl ?_
  refine mm_get X dX0_hasWaterOfNext_2 5 2 (by decide) dv_cf_5 rfl (by decide) uX0_hasWaterOfNext_0 kX0_hasWaterOfNext_1 rfl (v := .int (σ 5 2)) rfl ?_
  refine mm_iconst X dX0_hasWaterOfNext_5 (v := 1) (by decide) ?_
  refine mm_isub X dX0_hasWaterOfNext_6 ?_
  have J4 : ∀ (v1 : Int32), v1 = (if p1 < ((σ 5 2) - (1 : Int32)) then (dr_rd σ 24 (p1 + (1 : Int32))) else (-1 : Int32)) → dG K D cI a σ 24 [(0, .ref (a 5)), (1, .int p1)] [.int v1] := by
    intro v1 ev1
    subst ev1
    refine mm_istore_n X dX0_hasWaterOfNext_24 (by decide) (lv2 := [(2, .int (if p1 < ((σ 5 2) - (1 : Int32)) then (dr_rd σ 24 (p1 + (1 : Int32))) else (-1 : Int32))), (0, .ref (a 5)), (1, .int p1)]) rfl ?_
    refine mm_iload_n X dX0_hasWaterOfNext_25 0 rfl ?_
    refine mm_iconst X dX0_hasWaterOfNext_26 (v := -1) (by decide) ?_
    refine mm_icmp_eq X dX0_hasWaterOfNext_27 (tgt := 54) (by decide) (fun c2 => ?_) (fun c2 => ?_)
    · have h := (if_pos c2).symm.trans h
      refine mm_iconst X dX0_hasWaterOfNext_54 (v := 0) (by decide) ?_
      subst h
      exact mm_zret X dX0_hasWaterOfNext_55 rfl rfl hQ rfl
    · have h := (if_neg c2).symm.trans h
      refine mm_aload_n X dX0_hasWaterOfNext_30 1 rfl ?_
      refine mm_iload_n X dX0_hasWaterOfNext_31 0 rfl ?_
      refine mm_callVi X dX0_hasWaterOfNext_32 (As := [.int (if p1 < ((σ 5 2) - (1 : Int32)) then (dr_rd σ 24 (p1 + (1 : Int32))) else (-1 : Int32))]) (rest := []) 5 (by decide) dv_cf_5 rfl hL (mX0_colourAt hJ (res := fX0_colourAt σ (if p1 < ((σ 5 2) - (1 : Int32)) then (dr_rd σ 24 (p1 + (1 : Int32))) else (-1 : Int32))) rfl) gX0_hasWaterOfNext_X0_colourAt rfl ⟨rfl, rfl⟩ hyX0_colourAt ⟨Nat.le_of_ble_eq_true rfl, Nat.le_of_ble_eq_true rfl⟩ rfl (Nat.le_of_ble_eq_true rfl) ?_
      refine mm_aload_n X dX0_hasWaterOfNext_35 1 rfl ?_
      refine mm_aload_n X dX0_hasWaterOfNext_36 1 rfl ?_
      refine mm_get X dX0_hasWaterOfNext_37 5 10 (by decide) dv_cf_5 rfl (by decide) uX0_hasWaterOfNext_0 kX0_hasWaterOfNext_2 rfl (v := .ref (a 50)) rfl ?_
      refine mm_iload_n X dX0_hasWaterOfNext_40 2 rfl ?_
      refine mm_callVi X dX0_hasWaterOfNext_41 (As := [.int p1]) (rest := [.ref (a 5), .int (fX0_colourAt σ (if p1 < ((σ 5 2) - (1 : Int32)) then (dr_rd σ 24 (p1 + (1 : Int32))) else (-1 : Int32)))]) 50 (by decide) (dv_cf_row (j := 24) (by decide)) rfl hL (mX4_read hJ (j := 24) (by decide) (by decide) (res := (dr_rd σ 24 p1)) rfl) gX0_hasWaterOfNext_X4_read rfl ⟨rfl, rfl⟩ hyX4_read ⟨Nat.le_of_ble_eq_true rfl, Nat.le_of_ble_eq_true rfl⟩ rfl (Nat.le_of_ble_eq_true rfl) ?_
      refine mm_callVi X dX0_hasWaterOfNext_44 (As := [.int (dr_rd σ 24 p1)]) (rest := [.int (fX0_colourAt σ (if p1 < ((σ 5 2) - (1 : Int32)) then (dr_rd σ 24 (p1 + (1 : Int32))) else (-1 : Int32)))]) 5 (by decide) dv_cf_5 rfl hL (mX0_colourAt hJ (res := fX0_colourAt σ (dr_rd σ 24 p1)) rfl) gX0_hasWaterOfNext_X0_colourAt rfl ⟨rfl, rfl⟩ hyX0_colourAt ⟨Nat.le_of_ble_eq_true rfl, Nat.le_of_ble_eq_true rfl⟩ rfl (Nat.le_of_ble_eq_true rfl) ?_
      refine mm_icmp_gt X dX0_hasWaterOfNext_47 (tgt := 54) (by decide) (fun c3 => ?_) (fun c3 => ?_)
      · have h := (if_pos c3).symm.trans h
        refine mm_iconst X dX0_hasWaterOfNext_54 (v := 0) (by decide) ?_
        subst h
        exact mm_zret X dX0_hasWaterOfNext_55 rfl rfl hQ rfl
      · have h := (if_neg c3).symm.trans h
        refine mm_iconst X dX0_hasWaterOfNext_50 (v := 1) (by decide) ?_
        refine mm_goto X dX0_hasWaterOfNext_51 (tgt := 55) (by decide) ?_
        subst h
        exact mm_zret X dX0_hasWaterOfNext_55 rfl rfl hQ rfl
  refine mm_icmp_ge X dX0_hasWaterOfNext_7 (tgt := 23) (by decide) (fun c5 => ?_) (fun c5 => ?_)
  · refine mm_iconst X dX0_hasWaterOfNext_23 (v := -1) (by decide) ?_
    exact J4 _ (by rw [if_neg c5])
  · refine mm_aload_n X dX0_hasWaterOfNext_10 0 rfl ?_
    refine mm_get X dX0_hasWaterOfNext_11 5 10 (by decide) dv_cf_5 rfl (by decide) uX0_hasWaterOfNext_0 kX0_hasWaterOfNext_2 rfl (v := .ref (a 50)) rfl ?_
    refine mm_iload_n X dX0_hasWaterOfNext_14 1 rfl ?_
    refine mm_iconst X dX0_hasWaterOfNext_15 (v := 1) (by decide) ?_
    refine mm_iadd X dX0_hasWaterOfNext_16 ?_
    refine mm_callVi X dX0_hasWaterOfNext_17 (As := [.int (p1 + (1 : Int32))]) (rest := []) 50 (by decide) (dv_cf_row (j := 24) (by decide)) rfl hL (mX4_read hJ (j := 24) (by decide) (by decide) (res := (dr_rd σ 24 (p1 + (1 : Int32)))) rfl) gX0_hasWaterOfNext_X4_read rfl ⟨rfl, rfl⟩ hyX4_read ⟨Nat.le_of_ble_eq_true rfl, Nat.le_of_ble_eq_true rfl⟩ rfl (Nat.le_of_ble_eq_true rfl) ?_
    refine mm_goto X dX0_hasWaterOfNext_20 (tgt := 24) (by decide) ?_
    exact J4 _ (by rw [if_pos c5])
/-! LinenTunnel$House.waterOfBeat -/
def fX0_waterOfBeat_4 (F : Nat) (σ : mm_M) : Nat → Int32 → Int32 → Option (Int32)
  | 0, _, _ => none
  | k + 1, l1, l2 => (if l2 < (σ 5 2) then fX0_waterOfBeat_4 F σ k (if (dr_rd σ 24 l2) = (-1 : Int32) then l1 else (if (fX0_hasWaterOfNext σ l2) = 0 then (l1 + ((10 : Int32) * (dr_rd σ 27 (dr_rd σ 24 l2)))) else l1)) (l2 + 1) else some (l1))
def fX0_waterOfBeat (F : Nat) (σ : mm_M) : Option (Int32) := (fX0_waterOfBeat_4 F σ F (0 : Int32) (0 : Int32)).bind fun q1 => some q1
abbrev rX0_waterOfBeat : Room := { frames := 4, cells := 0, slots := 0, locals := 86 }
theorem hyX0_waterOfBeat : yX0_waterOfBeat.cls = RX0 ∧ yX0_waterOfBeat.cls ≠ "java/lang/invoke/MethodHandle" ∧ yX0_waterOfBeat.cls ≠ "java/lang/invoke/VarHandle" ∧ (parseMethodDescriptor yX0_waterOfBeat.desc).map (fun d => d.parameters.length) = some 0 := by decide +kernel
theorem kX0_waterOfBeat_1 : (Cond.fieldLink RX0 9 "LinenTunnel$House" "compartments" "I" : Cond) ∈ wsX0_waterOfBeat := List.mem_of_getElem? (i := 1) rfl
theorem uX0_waterOfBeat_0 : ∀ w ∈ u_ws RX0 TX0 16, w ∈ wsX0_waterOfBeat := fun _ h => (List.mem_cons_of_mem _ (List.mem_append_left _ (List.mem_append_left _ (List.mem_append_right _ h))))
theorem kX0_waterOfBeat_2 : (Cond.fieldLink RX0 42 "LinenTunnel$House" "inside" "LLinenTunnel$Row;" : Cond) ∈ wsX0_waterOfBeat := List.mem_of_getElem? (i := 2) rfl
theorem kX0_waterOfBeat_3 : (Cond.fieldLink RX0 51 "LinenTunnel$House" "size" "LLinenTunnel$Row;" : Cond) ∈ wsX0_waterOfBeat := List.mem_of_getElem? (i := 3) rfl
set_option maxRecDepth 100000 in
set_option maxHeartbeats 4000000 in
theorem tX0_waterOfBeat_4 {l : Launch} {K : mm_K} {D : va_G} {cI : ClassId} {a : Nat → Nat} (X : dC K rX0_waterOfBeat cX0_waterOfBeat 4 (some .int) wsX0_waterOfBeat RX0 D cI a) (hL : mm_L K l) (hJ : mm_J 59 a) {F : Nat} {σ : mm_M} {out : Int32} (hx : dG K D cI a σ 54 [(1, .int out)] []) : ∀ (k : Nat) (l1 : Int32) (l2 : Int32), fX0_waterOfBeat_4 F σ k l1 l2 = some out → dG K D cI a σ 4 [(0, .ref (a 5)), (1, .int l1), (2, .int l2)] [] := by
  intro k
  induction k with
  | zero =>
    intro l1 l2 h
    have h : none = some out := h
    cases h
  | succ k ih =>
    intro l1 l2 h
    rw [fX0_waterOfBeat_4] at h
    refine mm_iload_n X dX0_waterOfBeat_4 2 rfl ?_
    refine mm_aload_n X dX0_waterOfBeat_5 0 rfl ?_
    refine mm_get X dX0_waterOfBeat_6 5 2 (by decide) dv_cf_5 rfl (by decide) uX0_waterOfBeat_0 kX0_waterOfBeat_1 rfl (v := .int (σ 5 2)) rfl ?_
    refine mm_icmp_ge X dX0_waterOfBeat_9 (tgt := 54) (by decide) (fun c1 => ?_) (fun c1 => ?_)
    · have h := (if_neg c1).symm.trans h
      obtain rfl := Option.some.inj h
      refine mm_loc [1] rfl ?_
      exact hx
    · have h := (if_pos c1).symm.trans h
      refine mm_aload_n X dX0_waterOfBeat_12 0 rfl ?_
      refine mm_get X dX0_waterOfBeat_13 5 10 (by decide) dv_cf_5 rfl (by decide) uX0_waterOfBeat_0 kX0_waterOfBeat_2 rfl (v := .ref (a 50)) rfl ?_
      refine mm_iload_n X dX0_waterOfBeat_16 2 rfl ?_
      refine mm_callVi X dX0_waterOfBeat_17 (As := [.int l2]) (rest := []) 50 (by decide) (dv_cf_row (j := 24) (by decide)) rfl hL (mX4_read hJ (j := 24) (by decide) (by decide) (res := (dr_rd σ 24 l2)) rfl) gX0_waterOfBeat_X4_read rfl ⟨rfl, rfl⟩ hyX4_read ⟨Nat.le_of_ble_eq_true rfl, Nat.le_of_ble_eq_true rfl⟩ rfl (Nat.le_of_ble_eq_true rfl) ?_
      refine mm_istore_n X dX0_waterOfBeat_20 (by decide) (lv2 := [(3, .int (dr_rd σ 24 l2)), (0, .ref (a 5)), (1, .int l1), (2, .int l2)]) rfl ?_
      refine mm_iload_n X dX0_waterOfBeat_21 0 rfl ?_
      refine mm_iconst X dX0_waterOfBeat_22 (v := -1) (by decide) ?_
      have J3 : ∀ (v2 : Int32), v2 = (if (dr_rd σ 24 l2) = (-1 : Int32) then l1 else (if (fX0_hasWaterOfNext σ l2) = 0 then (l1 + ((10 : Int32) * (dr_rd σ 27 (dr_rd σ 24 l2)))) else l1)) → dG K D cI a σ 48 [(0, .ref (a 5)), (1, .int v2), (2, .int l2)] [] := by
        intro v2 ev2
        subst ev2
        refine mm_iinc X dX0_waterOfBeat_48 2 rfl (v := (l2 + 1)) rfl (by decide) (lv2 := [(2, .int (l2 + 1)), (0, .ref (a 5)), (1, .int (if (dr_rd σ 24 l2) = (-1 : Int32) then l1 else (if (fX0_hasWaterOfNext σ l2) = 0 then (l1 + ((10 : Int32) * (dr_rd σ 27 (dr_rd σ 24 l2)))) else l1)))]) rfl ?_
        refine mm_goto X dX0_waterOfBeat_51 (tgt := 4) (by decide) ?_
        refine mm_loc [1, 2, 0] rfl ?_
        exact ih _ _ h
      refine mm_icmp_eq X dX0_waterOfBeat_23 (tgt := 48) (by decide) (fun c4 => ?_) (fun c4 => ?_)
      · refine mm_loc [1, 2, 3] rfl ?_
        exact J3 _ (by rw [if_pos c4])
      · refine mm_aload_n X dX0_waterOfBeat_26 1 rfl ?_
        refine mm_iload_n X dX0_waterOfBeat_27 3 rfl ?_
        refine mm_callVi X dX0_waterOfBeat_28 (As := [.int l2]) (rest := []) 5 (by decide) dv_cf_5 rfl hL (mX0_hasWaterOfNext hJ (res := fX0_hasWaterOfNext σ l2) rfl) gX0_waterOfBeat_X0_hasWaterOfNext rfl ⟨rfl, rfl⟩ hyX0_hasWaterOfNext ⟨Nat.le_of_ble_eq_true rfl, Nat.le_of_ble_eq_true rfl⟩ rfl (Nat.le_of_ble_eq_true rfl) ?_
        refine mm_if_ne X dX0_waterOfBeat_31 (tgt := 48) (by decide) (fun c5 => ?_) (fun c5 => ?_)
        · refine mm_loc [1, 2, 3] rfl ?_
          exact J3 _ (by rw [if_neg c4, if_neg c5])
        · refine mm_iload_n X dX0_waterOfBeat_34 2 rfl ?_
          refine mm_bipush X dX0_waterOfBeat_35 (v := 10) (by decide) ?_
          refine mm_aload_n X dX0_waterOfBeat_37 1 rfl ?_
          refine mm_get X dX0_waterOfBeat_38 5 13 (by decide) dv_cf_5 rfl (by decide) uX0_waterOfBeat_0 kX0_waterOfBeat_3 rfl (v := .ref (a 53)) rfl ?_
          refine mm_iload_n X dX0_waterOfBeat_41 0 rfl ?_
          refine mm_callVi X dX0_waterOfBeat_42 (As := [.int (dr_rd σ 24 l2)]) (rest := [.int (10 : Int32), .int l1]) 53 (by decide) (dv_cf_row (j := 27) (by decide)) rfl hL (mX4_read hJ (j := 27) (by decide) (by decide) (res := (dr_rd σ 27 (dr_rd σ 24 l2))) rfl) gX0_waterOfBeat_X4_read rfl ⟨rfl, rfl⟩ hyX4_read ⟨Nat.le_of_ble_eq_true rfl, Nat.le_of_ble_eq_true rfl⟩ rfl (Nat.le_of_ble_eq_true rfl) ?_
          refine mm_imul X dX0_waterOfBeat_45 ?_
          refine mm_iadd X dX0_waterOfBeat_46 ?_
          refine mm_istore_n X dX0_waterOfBeat_47 (by decide) (lv2 := [(1, .int (l1 + ((10 : Int32) * (dr_rd σ 27 (dr_rd σ 24 l2))))), (3, .int (dr_rd σ 24 l2)), (0, .ref (a 5)), (2, .int l2)]) rfl ?_
          refine mm_loc [2, 0, 3] rfl ?_
          exact J3 _ (by rw [if_neg c4, if_pos c5])
set_option maxRecDepth 100000 in
set_option maxHeartbeats 4000000 in
theorem mX0_waterOfBeat {l : Launch} {D : va_G} {cI : ClassId} {a : Nat → Nat} (hJ : mm_J 59 a) {F : Nat} {σ : mm_M} {res : Int32} (h : fX0_waterOfBeat F σ = some res) (sz : Nat) : Met l yX0_waterOfBeat wsX0_waterOfBeat rX0_waterOfBeat (dP D cI a σ [.ref (a 5)] sz) (dQi D cI a res σ sz) 0 0 (mm_A 59 a sz) := by
  refine mm_met (fun sz => dQi D cI a res σ sz) (lv := [(0, .ref (a 5))]) (ret := (some .int)) (cc := cX0_waterOfBeat) (maxL := 4) (own := RX0) hJ (by decide +kernel) rfl rfl (Nat.le_of_ble_eq_true rfl) rfl ?_ sz
  intro K hL X hQ
  unfold fX0_waterOfBeat at h
  refine mm_iconst X dX0_waterOfBeat_0 (v := 0) (by decide) ?_
  refine mm_istore_n X dX0_waterOfBeat_1 (by decide) (lv2 := [(1, .int (0 : Int32)), (0, .ref (a 5))]) rfl ?_
  refine mm_iconst X dX0_waterOfBeat_2 (v := 0) (by decide) ?_
  refine mm_istore_n X dX0_waterOfBeat_3 (by decide) (lv2 := [(2, .int (0 : Int32)), (1, .int (0 : Int32)), (0, .ref (a 5))]) rfl ?_
  obtain ⟨q1, hq1, h⟩ := Option.bind_eq_some_iff.mp h
  refine mm_loc [2, 1, 0] rfl ?_
  refine tX0_waterOfBeat_4 X hL hJ ?_ F (0 : Int32) (0 : Int32) hq1
  refine mm_iload_n X dX0_waterOfBeat_54 0 rfl ?_
  obtain rfl := Option.some.inj h
  exact mm_iret X dX0_waterOfBeat_55 rfl hQ rfl
/-! LinenTunnel$House.doBeat -/
def fX0_doBeat (F : Nat) (σ : mm_M) (p1 : Int32) : Option (mm_M) := (if (dr_rd σ 24 ((σ 5 2) - (1 : Int32))) = (-1 : Int32) then (fX0_moveOn F σ p1).bind fun q2 => (fX0_waterOfBeat F q2).bind fun q3 => some (fX0_addTotal q2 (3 : Int32) q3) else (fX0_freeDryer F σ p1).bind fun q4 => (if 0 < (dr_rd σ 10 (fX0_fact σ (dr_rd σ 24 ((σ 5 2) - (1 : Int32))) (0 : Int32))) then (if q4 = (-1 : Int32) then some (fX0_addTotal σ (2 : Int32) (1 : Int32)) else (fX0_moveOn F (fX0_goOut σ (dr_rd σ 24 ((σ 5 2) - (1 : Int32))) p1 (dr_rd σ 10 (fX0_fact σ (dr_rd σ 24 ((σ 5 2) - (1 : Int32))) (0 : Int32))) q4) p1).bind fun q9 => (fX0_waterOfBeat F q9).bind fun q10 => some (fX0_addTotal q9 (3 : Int32) q10)) else (fX0_moveOn F (fX0_goOut σ (dr_rd σ 24 ((σ 5 2) - (1 : Int32))) p1 (dr_rd σ 10 (fX0_fact σ (dr_rd σ 24 ((σ 5 2) - (1 : Int32))) (0 : Int32))) q4) p1).bind fun q6 => (fX0_waterOfBeat F q6).bind fun q7 => some (fX0_addTotal q6 (3 : Int32) q7)))
abbrev rX0_doBeat : Room := { frames := 5, cells := 0, slots := 0, locals := 109 }
theorem hyX0_doBeat : yX0_doBeat.cls = RX0 ∧ yX0_doBeat.cls ≠ "java/lang/invoke/MethodHandle" ∧ yX0_doBeat.cls ≠ "java/lang/invoke/VarHandle" ∧ (parseMethodDescriptor yX0_doBeat.desc).map (fun d => d.parameters.length) = some 1 := by decide +kernel
theorem kX0_doBeat_1 : (Cond.fieldLink RX0 42 "LinenTunnel$House" "inside" "LLinenTunnel$Row;" : Cond) ∈ wsX0_doBeat := List.mem_of_getElem? (i := 1) rfl
theorem uX0_doBeat_0 : ∀ w ∈ u_ws RX0 TX0 16, w ∈ wsX0_doBeat := fun _ h => (List.mem_cons_of_mem _ (List.mem_append_left _ (List.mem_append_left _ (List.mem_append_right _ h))))
theorem kX0_doBeat_2 : (Cond.fieldLink RX0 9 "LinenTunnel$House" "compartments" "I" : Cond) ∈ wsX0_doBeat := List.mem_of_getElem? (i := 2) rfl
theorem kX0_doBeat_3 : (Cond.fieldLink RX0 60 "LinenTunnel$House" "kinds" "LLinenTunnel$Kinds;" : Cond) ∈ wsX0_doBeat := List.mem_of_getElem? (i := 3) rfl
theorem uX0_doBeat_1 : ∀ w ∈ u_ws RX1 TX1 6, w ∈ wsX0_doBeat := fun _ h => (List.mem_cons_of_mem _ (List.mem_append_left _ (List.mem_append_right _ h)))
set_option maxRecDepth 100000 in
set_option maxHeartbeats 4000000 in
theorem mX0_doBeat {l : Launch} {D : va_G} {cI : ClassId} {a : Nat → Nat} (hJ : mm_J 59 a) {F : Nat} {σ : mm_M} {p1 : Int32} {res : mm_M} (h : fX0_doBeat F σ p1 = some res) (sz : Nat) : Met l yX0_doBeat wsX0_doBeat rX0_doBeat (dP D cI a σ [.ref (a 5), .int p1] sz) (dQv D cI a res sz) 0 0 (mm_A 59 a sz) := by
  refine mm_met (fun sz => dQv D cI a res sz) (lv := [(0, .ref (a 5)), (1, .int p1)]) (ret := none) (cc := cX0_doBeat) (maxL := 5) (own := RX0) hJ (by decide +kernel) rfl rfl (Nat.le_of_ble_eq_true rfl) rfl ?_ sz
  intro K hL X hQ
  unfold fX0_doBeat at h
  refine mm_aload_n X dX0_doBeat_0 0 rfl ?_
  refine mm_get X dX0_doBeat_1 5 10 (by decide) dv_cf_5 rfl (by decide) uX0_doBeat_0 kX0_doBeat_1 rfl (v := .ref (a 50)) rfl ?_
  refine mm_aload_n X dX0_doBeat_4 0 rfl ?_
  refine mm_get X dX0_doBeat_5 5 2 (by decide) dv_cf_5 rfl (by decide) uX0_doBeat_0 kX0_doBeat_2 rfl (v := .int (σ 5 2)) rfl ?_
  refine mm_iconst X dX0_doBeat_8 (v := 1) (by decide) ?_
  refine mm_isub X dX0_doBeat_9 ?_
  refine mm_callVi X dX0_doBeat_10 (As := [.int ((σ 5 2) - (1 : Int32))]) (rest := []) 50 (by decide) (dv_cf_row (j := 24) (by decide)) rfl hL (mX4_read hJ (j := 24) (by decide) (by decide) (res := (dr_rd σ 24 ((σ 5 2) - (1 : Int32)))) rfl) gX0_doBeat_X4_read rfl ⟨rfl, rfl⟩ hyX4_read ⟨Nat.le_of_ble_eq_true rfl, Nat.le_of_ble_eq_true rfl⟩ rfl (Nat.le_of_ble_eq_true rfl) ?_
  refine mm_istore_n X dX0_doBeat_13 (by decide) (lv2 := [(2, .int (dr_rd σ 24 ((σ 5 2) - (1 : Int32)))), (0, .ref (a 5)), (1, .int p1)]) rfl ?_
  refine mm_iload_n X dX0_doBeat_14 0 rfl ?_
  refine mm_iconst X dX0_doBeat_15 (v := -1) (by decide) ?_
  refine mm_icmp_eq X dX0_doBeat_16 (tgt := 69) (by decide) (fun c1 => ?_) (fun c1 => ?_)
  · have h := (if_pos c1).symm.trans h
    refine mm_aload_n X dX0_doBeat_69 1 rfl ?_
    refine mm_iload_n X dX0_doBeat_70 2 rfl ?_
    obtain ⟨q2, hq2, h⟩ := Option.bind_eq_some_iff.mp h
    refine mm_callVv X dX0_doBeat_71 (As := [.int p1]) (rest := []) 5 (by decide) dv_cf_5 rfl hL (mX0_moveOn hJ hq2) gX0_doBeat_X0_moveOn rfl ⟨rfl, rfl⟩ hyX0_moveOn ⟨Nat.le_of_ble_eq_true rfl, Nat.le_of_ble_eq_true rfl⟩ rfl (Nat.le_of_ble_eq_true rfl) ?_
    refine mm_aload_n X dX0_doBeat_74 1 rfl ?_
    refine mm_iconst X dX0_doBeat_75 (v := 3) (by decide) ?_
    refine mm_aload_n X dX0_doBeat_76 1 rfl ?_
    obtain ⟨q3, hq3, h⟩ := Option.bind_eq_some_iff.mp h
    refine mm_callVi X dX0_doBeat_77 (As := []) (rest := [.int (3 : Int32), .ref (a 5)]) 5 (by decide) dv_cf_5 rfl hL (mX0_waterOfBeat hJ hq3) gX0_doBeat_X0_waterOfBeat rfl ⟨rfl, rfl⟩ hyX0_waterOfBeat ⟨Nat.le_of_ble_eq_true rfl, Nat.le_of_ble_eq_true rfl⟩ rfl (Nat.le_of_ble_eq_true rfl) ?_
    refine mm_callVv X dX0_doBeat_80 (As := [.int (3 : Int32), .int q3]) (rest := []) 5 (by decide) dv_cf_5 rfl hL (mX0_addTotal hJ (res := fX0_addTotal q2 (3 : Int32) q3) rfl) gX0_doBeat_X0_addTotal rfl ⟨rfl, rfl⟩ hyX0_addTotal ⟨Nat.le_of_ble_eq_true rfl, Nat.le_of_ble_eq_true rfl⟩ rfl (Nat.le_of_ble_eq_true rfl) ?_
    obtain rfl := Option.some.inj h
    exact mm_vret X dX0_doBeat_83 rfl hQ
  · have h := (if_neg c1).symm.trans h
    refine mm_aload_n X dX0_doBeat_19 1 rfl ?_
    refine mm_get X dX0_doBeat_20 5 0 (by decide) dv_cf_5 rfl (by decide) uX0_doBeat_0 kX0_doBeat_3 rfl (v := .ref (a 1)) rfl ?_
    refine mm_getN X dX0_doBeat_23 1 4 (by decide) dv_cf_1 rfl (by decide) uX0_doBeat_1 (List.mem_of_getElem? (i := 2) rfl) rfl (v := .ref (a 36)) rfl ?_
    refine mm_aload_n X dX0_doBeat_26 1 rfl ?_
    refine mm_iload_n X dX0_doBeat_27 0 rfl ?_
    refine mm_iconst X dX0_doBeat_28 (v := 0) (by decide) ?_
    refine mm_callVi X dX0_doBeat_29 (As := [.int (dr_rd σ 24 ((σ 5 2) - (1 : Int32))), .int (0 : Int32)]) (rest := [.ref (a 36)]) 5 (by decide) dv_cf_5 rfl hL (mX0_fact hJ (res := fX0_fact σ (dr_rd σ 24 ((σ 5 2) - (1 : Int32))) (0 : Int32)) rfl) gX0_doBeat_X0_fact rfl ⟨rfl, rfl⟩ hyX0_fact ⟨Nat.le_of_ble_eq_true rfl, Nat.le_of_ble_eq_true rfl⟩ rfl (Nat.le_of_ble_eq_true rfl) ?_
    refine mm_callVi X dX0_doBeat_32 (As := [.int (fX0_fact σ (dr_rd σ 24 ((σ 5 2) - (1 : Int32))) (0 : Int32))]) (rest := []) 36 (by decide) (dv_cf_row (j := 10) (by decide)) rfl hL (mX4_read hJ (j := 10) (by decide) (by decide) (res := (dr_rd σ 10 (fX0_fact σ (dr_rd σ 24 ((σ 5 2) - (1 : Int32))) (0 : Int32)))) rfl) gX0_doBeat_X4_read rfl ⟨rfl, rfl⟩ hyX4_read ⟨Nat.le_of_ble_eq_true rfl, Nat.le_of_ble_eq_true rfl⟩ rfl (Nat.le_of_ble_eq_true rfl) ?_
    refine mm_istore_n X dX0_doBeat_35 (by decide) (lv2 := [(3, .int (dr_rd σ 10 (fX0_fact σ (dr_rd σ 24 ((σ 5 2) - (1 : Int32))) (0 : Int32)))), (2, .int (dr_rd σ 24 ((σ 5 2) - (1 : Int32)))), (0, .ref (a 5)), (1, .int p1)]) rfl ?_
    refine mm_aload_n X dX0_doBeat_36 2 rfl ?_
    refine mm_iload_n X dX0_doBeat_37 3 rfl ?_
    obtain ⟨q4, hq4, h⟩ := Option.bind_eq_some_iff.mp h
    refine mm_callVi X dX0_doBeat_38 (As := [.int p1]) (rest := []) 5 (by decide) dv_cf_5 rfl hL (mX0_freeDryer hJ hq4) gX0_doBeat_X0_freeDryer rfl ⟨rfl, rfl⟩ hyX0_freeDryer ⟨Nat.le_of_ble_eq_true rfl, Nat.le_of_ble_eq_true rfl⟩ rfl (Nat.le_of_ble_eq_true rfl) ?_
    refine mm_istore X dX0_doBeat_41 (by decide) (lv2 := [(4, .int q4), (3, .int (dr_rd σ 10 (fX0_fact σ (dr_rd σ 24 ((σ 5 2) - (1 : Int32))) (0 : Int32)))), (2, .int (dr_rd σ 24 ((σ 5 2) - (1 : Int32)))), (0, .ref (a 5)), (1, .int p1)]) rfl ?_
    refine mm_iload_n X dX0_doBeat_43 1 rfl ?_
    refine mm_if_le X dX0_doBeat_44 (tgt := 60) (by decide) (fun c5 => ?_) (fun c5 => ?_)
    · have h := (if_neg c5).symm.trans h
      refine mm_aload_n X dX0_doBeat_60 3 rfl ?_
      refine mm_iload_n X dX0_doBeat_61 2 rfl ?_
      refine mm_iload_n X dX0_doBeat_62 4 rfl ?_
      refine mm_iload_n X dX0_doBeat_63 1 rfl ?_
      refine mm_iload X dX0_doBeat_64 0 rfl ?_
      refine mm_callVv X dX0_doBeat_66 (As := [.int (dr_rd σ 24 ((σ 5 2) - (1 : Int32))), .int p1, .int (dr_rd σ 10 (fX0_fact σ (dr_rd σ 24 ((σ 5 2) - (1 : Int32))) (0 : Int32))), .int q4]) (rest := []) 5 (by decide) dv_cf_5 rfl hL (mX0_goOut hJ (res := fX0_goOut σ (dr_rd σ 24 ((σ 5 2) - (1 : Int32))) p1 (dr_rd σ 10 (fX0_fact σ (dr_rd σ 24 ((σ 5 2) - (1 : Int32))) (0 : Int32))) q4) rfl) gX0_doBeat_X0_goOut rfl ⟨rfl, rfl⟩ hyX0_goOut ⟨Nat.le_of_ble_eq_true rfl, Nat.le_of_ble_eq_true rfl⟩ rfl (Nat.le_of_ble_eq_true rfl) ?_
      refine mm_aload_n X dX0_doBeat_69 3 rfl ?_
      refine mm_iload_n X dX0_doBeat_70 4 rfl ?_
      obtain ⟨q6, hq6, h⟩ := Option.bind_eq_some_iff.mp h
      refine mm_callVv X dX0_doBeat_71 (As := [.int p1]) (rest := []) 5 (by decide) dv_cf_5 rfl hL (mX0_moveOn hJ hq6) gX0_doBeat_X0_moveOn rfl ⟨rfl, rfl⟩ hyX0_moveOn ⟨Nat.le_of_ble_eq_true rfl, Nat.le_of_ble_eq_true rfl⟩ rfl (Nat.le_of_ble_eq_true rfl) ?_
      refine mm_aload_n X dX0_doBeat_74 3 rfl ?_
      refine mm_iconst X dX0_doBeat_75 (v := 3) (by decide) ?_
      refine mm_aload_n X dX0_doBeat_76 3 rfl ?_
      obtain ⟨q7, hq7, h⟩ := Option.bind_eq_some_iff.mp h
      refine mm_callVi X dX0_doBeat_77 (As := []) (rest := [.int (3 : Int32), .ref (a 5)]) 5 (by decide) dv_cf_5 rfl hL (mX0_waterOfBeat hJ hq7) gX0_doBeat_X0_waterOfBeat rfl ⟨rfl, rfl⟩ hyX0_waterOfBeat ⟨Nat.le_of_ble_eq_true rfl, Nat.le_of_ble_eq_true rfl⟩ rfl (Nat.le_of_ble_eq_true rfl) ?_
      refine mm_callVv X dX0_doBeat_80 (As := [.int (3 : Int32), .int q7]) (rest := []) 5 (by decide) dv_cf_5 rfl hL (mX0_addTotal hJ (res := fX0_addTotal q6 (3 : Int32) q7) rfl) gX0_doBeat_X0_addTotal rfl ⟨rfl, rfl⟩ hyX0_addTotal ⟨Nat.le_of_ble_eq_true rfl, Nat.le_of_ble_eq_true rfl⟩ rfl (Nat.le_of_ble_eq_true rfl) ?_
      obtain rfl := Option.some.inj h
      exact mm_vret X dX0_doBeat_83 rfl hQ
    · have h := (if_pos c5).symm.trans h
      refine mm_iload X dX0_doBeat_47 0 rfl ?_
      refine mm_iconst X dX0_doBeat_49 (v := -1) (by decide) ?_
      refine mm_icmp_ne X dX0_doBeat_50 (tgt := 60) (by decide) (fun c8 => ?_) (fun c8 => ?_)
      · have h := (if_neg c8).symm.trans h
        refine mm_aload_n X dX0_doBeat_60 3 rfl ?_
        refine mm_iload_n X dX0_doBeat_61 2 rfl ?_
        refine mm_iload_n X dX0_doBeat_62 4 rfl ?_
        refine mm_iload_n X dX0_doBeat_63 1 rfl ?_
        refine mm_iload X dX0_doBeat_64 0 rfl ?_
        refine mm_callVv X dX0_doBeat_66 (As := [.int (dr_rd σ 24 ((σ 5 2) - (1 : Int32))), .int p1, .int (dr_rd σ 10 (fX0_fact σ (dr_rd σ 24 ((σ 5 2) - (1 : Int32))) (0 : Int32))), .int q4]) (rest := []) 5 (by decide) dv_cf_5 rfl hL (mX0_goOut hJ (res := fX0_goOut σ (dr_rd σ 24 ((σ 5 2) - (1 : Int32))) p1 (dr_rd σ 10 (fX0_fact σ (dr_rd σ 24 ((σ 5 2) - (1 : Int32))) (0 : Int32))) q4) rfl) gX0_doBeat_X0_goOut rfl ⟨rfl, rfl⟩ hyX0_goOut ⟨Nat.le_of_ble_eq_true rfl, Nat.le_of_ble_eq_true rfl⟩ rfl (Nat.le_of_ble_eq_true rfl) ?_
        refine mm_aload_n X dX0_doBeat_69 3 rfl ?_
        refine mm_iload_n X dX0_doBeat_70 4 rfl ?_
        obtain ⟨q9, hq9, h⟩ := Option.bind_eq_some_iff.mp h
        refine mm_callVv X dX0_doBeat_71 (As := [.int p1]) (rest := []) 5 (by decide) dv_cf_5 rfl hL (mX0_moveOn hJ hq9) gX0_doBeat_X0_moveOn rfl ⟨rfl, rfl⟩ hyX0_moveOn ⟨Nat.le_of_ble_eq_true rfl, Nat.le_of_ble_eq_true rfl⟩ rfl (Nat.le_of_ble_eq_true rfl) ?_
        refine mm_aload_n X dX0_doBeat_74 3 rfl ?_
        refine mm_iconst X dX0_doBeat_75 (v := 3) (by decide) ?_
        refine mm_aload_n X dX0_doBeat_76 3 rfl ?_
        obtain ⟨q10, hq10, h⟩ := Option.bind_eq_some_iff.mp h
        refine mm_callVi X dX0_doBeat_77 (As := []) (rest := [.int (3 : Int32), .ref (a 5)]) 5 (by decide) dv_cf_5 rfl hL (mX0_waterOfBeat hJ hq10) gX0_doBeat_X0_waterOfBeat rfl ⟨rfl, rfl⟩ hyX0_waterOfBeat ⟨Nat.le_of_ble_eq_true rfl, Nat.le_of_ble_eq_true rfl⟩ rfl (Nat.le_of_ble_eq_true rfl) ?_
        refine mm_callVv X dX0_doBeat_80 (As := [.int (3 : Int32), .int q10]) (rest := []) 5 (by decide) dv_cf_5 rfl hL (mX0_addTotal hJ (res := fX0_addTotal q9 (3 : Int32) q10) rfl) gX0_doBeat_X0_addTotal rfl ⟨rfl, rfl⟩ hyX0_addTotal ⟨Nat.le_of_ble_eq_true rfl, Nat.le_of_ble_eq_true rfl⟩ rfl (Nat.le_of_ble_eq_true rfl) ?_
        obtain rfl := Option.some.inj h
        exact mm_vret X dX0_doBeat_83 rfl hQ
      · have h := (if_pos c8).symm.trans h
        refine mm_aload_n X dX0_doBeat_53 3 rfl ?_
        refine mm_iconst X dX0_doBeat_54 (v := 2) (by decide) ?_
        refine mm_iconst X dX0_doBeat_55 (v := 1) (by decide) ?_
        refine mm_callVv X dX0_doBeat_56 (As := [.int (2 : Int32), .int (1 : Int32)]) (rest := []) 5 (by decide) dv_cf_5 rfl hL (mX0_addTotal hJ (res := fX0_addTotal σ (2 : Int32) (1 : Int32)) rfl) gX0_doBeat_X0_addTotal rfl ⟨rfl, rfl⟩ hyX0_addTotal ⟨Nat.le_of_ble_eq_true rfl, Nat.le_of_ble_eq_true rfl⟩ rfl (Nat.le_of_ble_eq_true rfl) ?_
        obtain rfl := Option.some.inj h
        exact mm_vret X dX0_doBeat_59 rfl hQ
/-! LinenTunnel$House.firstDry -/
def fX0_firstDry_4 (F : Nat) (σ : mm_M) (l1 : Int32) : Nat → Int32 → Int32 → Option (Int32)
  | 0, _, _ => none
  | k + 1, l2, l3 => (if l3 < (dr_rd σ 29 (5 : Int32)) then fX0_firstDry_4 F σ l1 k (if (if ((l1 >>> (l3 &&& 31)) &&& (1 : Int32)) = 0 then (1 : Int32) else (0 : Int32)) = 0 then l2 else (if l2 = (-1 : Int32) then l3 else (if (fX0_fact σ l3 (4 : Int32)) < (fX0_fact σ l2 (4 : Int32)) then l3 else l2))) (l3 + 1) else some (l2))
def fX0_firstDry (F : Nat) (σ : mm_M) (p1 : Int32) : Option (Int32) := (fX0_firstDry_4 F σ p1 F (-1 : Int32) (0 : Int32)).bind fun q1 => some q1
abbrev rX0_firstDry : Room := { frames := 2, cells := 0, slots := 0, locals := 43 }
theorem hyX0_firstDry : yX0_firstDry.cls = RX0 ∧ yX0_firstDry.cls ≠ "java/lang/invoke/MethodHandle" ∧ yX0_firstDry.cls ≠ "java/lang/invoke/VarHandle" ∧ (parseMethodDescriptor yX0_firstDry.desc).map (fun d => d.parameters.length) = some 1 := by decide +kernel
theorem kX0_firstDry_1 : (Cond.fieldLink RX0 57 "LinenTunnel$House" "totals" "LLinenTunnel$Row;" : Cond) ∈ wsX0_firstDry := List.mem_of_getElem? (i := 1) rfl
theorem uX0_firstDry_0 : ∀ w ∈ u_ws RX0 TX0 16, w ∈ wsX0_firstDry := fun _ h => (List.mem_cons_of_mem _ (List.mem_append_left _ (List.mem_append_right _ h)))
set_option maxRecDepth 100000 in
set_option maxHeartbeats 4000000 in
theorem tX0_firstDry_4 {l : Launch} {K : mm_K} {D : va_G} {cI : ClassId} {a : Nat → Nat} (X : dC K rX0_firstDry cX0_firstDry 5 (some .int) wsX0_firstDry RX0 D cI a) (hL : mm_L K l) (hJ : mm_J 59 a) {F : Nat} {σ : mm_M} {l1 : Int32} {out : Int32} (hx : dG K D cI a σ 64 [(2, .int out)] []) : ∀ (k : Nat) (l2 : Int32) (l3 : Int32), fX0_firstDry_4 F σ l1 k l2 l3 = some out → dG K D cI a σ 4 [(0, .ref (a 5)), (1, .int l1), (2, .int l2), (3, .int l3)] [] := by
  intro k
  induction k with
  | zero =>
    intro l2 l3 h
    have h : none = some out := h
    cases h
  | succ k ih =>
    intro l2 l3 h
    rw [fX0_firstDry_4] at h
    refine mm_iload_n X dX0_firstDry_4 3 rfl ?_
    refine mm_aload_n X dX0_firstDry_5 0 rfl ?_
    refine mm_get X dX0_firstDry_6 5 15 (by decide) dv_cf_5 rfl (by decide) uX0_firstDry_0 kX0_firstDry_1 rfl (v := .ref (a 55)) rfl ?_
    refine mm_iconst X dX0_firstDry_9 (v := 5) (by decide) ?_
    refine mm_callVi X dX0_firstDry_10 (As := [.int (5 : Int32)]) (rest := [.int l3]) 55 (by decide) (dv_cf_row (j := 29) (by decide)) rfl hL (mX4_read hJ (j := 29) (by decide) (by decide) (res := (dr_rd σ 29 (5 : Int32))) rfl) gX0_firstDry_X4_read rfl ⟨rfl, rfl⟩ hyX4_read ⟨Nat.le_of_ble_eq_true rfl, Nat.le_of_ble_eq_true rfl⟩ rfl (Nat.le_of_ble_eq_true rfl) ?_
    refine mm_icmp_ge X dX0_firstDry_13 (tgt := 64) (by decide) (fun c1 => ?_) (fun c1 => ?_)
    · have h := (if_neg c1).symm.trans h
      obtain rfl := Option.some.inj h
      refine mm_loc [2] rfl ?_
      exact hx
    · have h := (if_pos c1).symm.trans h
      refine mm_iload_n X dX0_firstDry_16 1 rfl ?_
      refine mm_iload_n X dX0_firstDry_17 3 rfl ?_
      refine mm_ishr X dX0_firstDry_18 ?_
      refine mm_iconst X dX0_firstDry_19 (v := 1) (by decide) ?_
      refine mm_iand X dX0_firstDry_20 ?_
      have J8 : ∀ (v2 : Int32), v2 = (if ((l1 >>> (l3 &&& 31)) &&& (1 : Int32)) = 0 then (1 : Int32) else (0 : Int32)) → dG K D cI a σ 29 [(0, .ref (a 5)), (1, .int l1), (2, .int l2), (3, .int l3)] [.int v2] := by
        intro v2 ev2
        subst ev2
        refine mm_istore X dX0_firstDry_29 (by decide) (lv2 := [(4, .int (if ((l1 >>> (l3 &&& 31)) &&& (1 : Int32)) = 0 then (1 : Int32) else (0 : Int32))), (0, .ref (a 5)), (1, .int l1), (2, .int l2), (3, .int l3)]) rfl ?_
        refine mm_iload X dX0_firstDry_31 0 rfl ?_
        have J4 : ∀ (v3 : Int32), v3 = (if (if ((l1 >>> (l3 &&& 31)) &&& (1 : Int32)) = 0 then (1 : Int32) else (0 : Int32)) = 0 then l2 else (if l2 = (-1 : Int32) then l3 else (if (fX0_fact σ l3 (4 : Int32)) < (fX0_fact σ l2 (4 : Int32)) then l3 else l2))) → dG K D cI a σ 58 [(0, .ref (a 5)), (1, .int l1), (2, .int v3), (3, .int l3)] [] := by
          intro v3 ev3
          subst ev3
          refine mm_iinc X dX0_firstDry_58 3 rfl (v := (l3 + 1)) rfl (by decide) (lv2 := [(3, .int (l3 + 1)), (0, .ref (a 5)), (1, .int l1), (2, .int (if (if ((l1 >>> (l3 &&& 31)) &&& (1 : Int32)) = 0 then (1 : Int32) else (0 : Int32)) = 0 then l2 else (if l2 = (-1 : Int32) then l3 else (if (fX0_fact σ l3 (4 : Int32)) < (fX0_fact σ l2 (4 : Int32)) then l3 else l2))))]) rfl ?_
          refine mm_goto X dX0_firstDry_61 (tgt := 4) (by decide) ?_
          refine mm_loc [1, 2, 3, 0] rfl ?_
          exact ih _ _ h
        refine mm_if_eq X dX0_firstDry_33 (tgt := 58) (by decide) (fun c5 => ?_) (fun c5 => ?_)
        · refine mm_loc [1, 2, 3, 4] rfl ?_
          exact J4 _ (by rw [if_pos c5])
        · refine mm_iload_n X dX0_firstDry_36 3 rfl ?_
          refine mm_iconst X dX0_firstDry_37 (v := -1) (by decide) ?_
          refine mm_icmp_eq X dX0_firstDry_38 (tgt := 56) (by decide) (fun c6 => ?_) (fun c6 => ?_)
          · refine mm_iload_n X dX0_firstDry_56 4 rfl ?_
            refine mm_istore_n X dX0_firstDry_57 (by decide) (lv2 := [(2, .int l3), (4, .int (if ((l1 >>> (l3 &&& 31)) &&& (1 : Int32)) = 0 then (1 : Int32) else (0 : Int32))), (0, .ref (a 5)), (1, .int l1), (3, .int l3)]) rfl ?_
            refine mm_loc [2, 3, 0, 4] rfl ?_
            exact J4 _ (by rw [if_neg c5, if_pos c6])
          · refine mm_aload_n X dX0_firstDry_41 1 rfl ?_
            refine mm_iload_n X dX0_firstDry_42 4 rfl ?_
            refine mm_iconst X dX0_firstDry_43 (v := 4) (by decide) ?_
            refine mm_callVi X dX0_firstDry_44 (As := [.int l3, .int (4 : Int32)]) (rest := []) 5 (by decide) dv_cf_5 rfl hL (mX0_fact hJ (res := fX0_fact σ l3 (4 : Int32)) rfl) gX0_firstDry_X0_fact rfl ⟨rfl, rfl⟩ hyX0_fact ⟨Nat.le_of_ble_eq_true rfl, Nat.le_of_ble_eq_true rfl⟩ rfl (Nat.le_of_ble_eq_true rfl) ?_
            refine mm_aload_n X dX0_firstDry_47 1 rfl ?_
            refine mm_iload_n X dX0_firstDry_48 3 rfl ?_
            refine mm_iconst X dX0_firstDry_49 (v := 4) (by decide) ?_
            refine mm_callVi X dX0_firstDry_50 (As := [.int l2, .int (4 : Int32)]) (rest := [.int (fX0_fact σ l3 (4 : Int32))]) 5 (by decide) dv_cf_5 rfl hL (mX0_fact hJ (res := fX0_fact σ l2 (4 : Int32)) rfl) gX0_firstDry_X0_fact rfl ⟨rfl, rfl⟩ hyX0_fact ⟨Nat.le_of_ble_eq_true rfl, Nat.le_of_ble_eq_true rfl⟩ rfl (Nat.le_of_ble_eq_true rfl) ?_
            refine mm_icmp_ge X dX0_firstDry_53 (tgt := 58) (by decide) (fun c7 => ?_) (fun c7 => ?_)
            · refine mm_loc [1, 2, 3, 4] rfl ?_
              exact J4 _ (by rw [if_neg c5, if_neg c6, if_neg c7])
            · refine mm_iload_n X dX0_firstDry_56 4 rfl ?_
              refine mm_istore_n X dX0_firstDry_57 (by decide) (lv2 := [(2, .int l3), (4, .int (if ((l1 >>> (l3 &&& 31)) &&& (1 : Int32)) = 0 then (1 : Int32) else (0 : Int32))), (0, .ref (a 5)), (1, .int l1), (3, .int l3)]) rfl ?_
              refine mm_loc [2, 3, 0, 4] rfl ?_
              exact J4 _ (by rw [if_neg c5, if_neg c6, if_pos c7])
      refine mm_if_ne X dX0_firstDry_21 (tgt := 28) (by decide) (fun c9 => ?_) (fun c9 => ?_)
      · refine mm_iconst X dX0_firstDry_28 (v := 0) (by decide) ?_
        exact J8 _ (by rw [if_neg c9])
      · refine mm_iconst X dX0_firstDry_24 (v := 1) (by decide) ?_
        refine mm_goto X dX0_firstDry_25 (tgt := 29) (by decide) ?_
        exact J8 _ (by rw [if_pos c9])
set_option maxRecDepth 100000 in
set_option maxHeartbeats 4000000 in
theorem mX0_firstDry {l : Launch} {D : va_G} {cI : ClassId} {a : Nat → Nat} (hJ : mm_J 59 a) {F : Nat} {σ : mm_M} {p1 : Int32} {res : Int32} (h : fX0_firstDry F σ p1 = some res) (sz : Nat) : Met l yX0_firstDry wsX0_firstDry rX0_firstDry (dP D cI a σ [.ref (a 5), .int p1] sz) (dQi D cI a res σ sz) 0 0 (mm_A 59 a sz) := by
  refine mm_met (fun sz => dQi D cI a res σ sz) (lv := [(0, .ref (a 5)), (1, .int p1)]) (ret := (some .int)) (cc := cX0_firstDry) (maxL := 5) (own := RX0) hJ (by decide +kernel) rfl rfl (Nat.le_of_ble_eq_true rfl) rfl ?_ sz
  intro K hL X hQ
  unfold fX0_firstDry at h
  refine mm_iconst X dX0_firstDry_0 (v := -1) (by decide) ?_
  refine mm_istore_n X dX0_firstDry_1 (by decide) (lv2 := [(2, .int (-1 : Int32)), (0, .ref (a 5)), (1, .int p1)]) rfl ?_
  refine mm_iconst X dX0_firstDry_2 (v := 0) (by decide) ?_
  refine mm_istore_n X dX0_firstDry_3 (by decide) (lv2 := [(3, .int (0 : Int32)), (2, .int (-1 : Int32)), (0, .ref (a 5)), (1, .int p1)]) rfl ?_
  obtain ⟨q1, hq1, h⟩ := Option.bind_eq_some_iff.mp h
  refine mm_loc [2, 3, 1, 0] rfl ?_
  refine tX0_firstDry_4 X hL hJ ?_ F (-1 : Int32) (0 : Int32) hq1
  refine mm_iload_n X dX0_firstDry_64 0 rfl ?_
  obtain rfl := Option.some.inj h
  exact mm_iret X dX0_firstDry_65 rfl hQ rfl
/-! LinenTunnel$House.firstIron -/
def fX0_firstIron_4 (F : Nat) (σ : mm_M) : Nat → Int32 → Int32 → Option (Int32)
  | 0, _, _ => none
  | k + 1, l1, l2 => (if l2 < (σ 5 4) then fX0_firstIron_4 F σ k (if (dr_rd σ 26 l2) < (dr_rd σ 26 l1) then l2 else l1) (l2 + 1) else some (l1))
def fX0_firstIron (F : Nat) (σ : mm_M) : Option (Int32) := (fX0_firstIron_4 F σ F (0 : Int32) (1 : Int32)).bind fun q1 => some q1
abbrev rX0_firstIron : Room := { frames := 1, cells := 0, slots := 0, locals := 21 }
theorem hyX0_firstIron : yX0_firstIron.cls = RX0 ∧ yX0_firstIron.cls ≠ "java/lang/invoke/MethodHandle" ∧ yX0_firstIron.cls ≠ "java/lang/invoke/VarHandle" ∧ (parseMethodDescriptor yX0_firstIron.desc).map (fun d => d.parameters.length) = some 0 := by decide +kernel
theorem kX0_firstIron_1 : (Cond.fieldLink RX0 18 "LinenTunnel$House" "irons" "I" : Cond) ∈ wsX0_firstIron := List.mem_of_getElem? (i := 1) rfl
theorem uX0_firstIron_0 : ∀ w ∈ u_ws RX0 TX0 16, w ∈ wsX0_firstIron := fun _ h => (List.mem_cons_of_mem _ (List.mem_append_left _ (List.mem_append_right _ h)))
theorem kX0_firstIron_2 : (Cond.fieldLink RX0 48 "LinenTunnel$House" "ironTill" "LLinenTunnel$Row;" : Cond) ∈ wsX0_firstIron := List.mem_of_getElem? (i := 2) rfl
set_option maxRecDepth 100000 in
set_option maxHeartbeats 4000000 in
theorem tX0_firstIron_4 {l : Launch} {K : mm_K} {D : va_G} {cI : ClassId} {a : Nat → Nat} (X : dC K rX0_firstIron cX0_firstIron 3 (some .int) wsX0_firstIron RX0 D cI a) (hL : mm_L K l) (hJ : mm_J 59 a) {F : Nat} {σ : mm_M} {out : Int32} (hx : dG K D cI a σ 39 [(1, .int out)] []) : ∀ (k : Nat) (l1 : Int32) (l2 : Int32), fX0_firstIron_4 F σ k l1 l2 = some out → dG K D cI a σ 4 [(0, .ref (a 5)), (1, .int l1), (2, .int l2)] [] := by
  intro k
  induction k with
  | zero =>
    intro l1 l2 h
    have h : none = some out := h
    cases h
  | succ k ih =>
    intro l1 l2 h
    rw [fX0_firstIron_4] at h
    refine mm_iload_n X dX0_firstIron_4 2 rfl ?_
    refine mm_aload_n X dX0_firstIron_5 0 rfl ?_
    refine mm_get X dX0_firstIron_6 5 4 (by decide) dv_cf_5 rfl (by decide) uX0_firstIron_0 kX0_firstIron_1 rfl (v := .int (σ 5 4)) rfl ?_
    refine mm_icmp_ge X dX0_firstIron_9 (tgt := 39) (by decide) (fun c1 => ?_) (fun c1 => ?_)
    · have h := (if_neg c1).symm.trans h
      obtain rfl := Option.some.inj h
      refine mm_loc [1] rfl ?_
      exact hx
    · have h := (if_pos c1).symm.trans h
      refine mm_aload_n X dX0_firstIron_12 0 rfl ?_
      refine mm_get X dX0_firstIron_13 5 12 (by decide) dv_cf_5 rfl (by decide) uX0_firstIron_0 kX0_firstIron_2 rfl (v := .ref (a 52)) rfl ?_
      refine mm_iload_n X dX0_firstIron_16 2 rfl ?_
      refine mm_callVi X dX0_firstIron_17 (As := [.int l2]) (rest := []) 52 (by decide) (dv_cf_row (j := 26) (by decide)) rfl hL (mX4_read hJ (j := 26) (by decide) (by decide) (res := (dr_rd σ 26 l2)) rfl) gX0_firstIron_X4_read rfl ⟨rfl, rfl⟩ hyX4_read ⟨Nat.le_of_ble_eq_true rfl, Nat.le_of_ble_eq_true rfl⟩ rfl (Nat.le_of_ble_eq_true rfl) ?_
      refine mm_aload_n X dX0_firstIron_20 0 rfl ?_
      refine mm_get X dX0_firstIron_21 5 12 (by decide) dv_cf_5 rfl (by decide) uX0_firstIron_0 kX0_firstIron_2 rfl (v := .ref (a 52)) rfl ?_
      refine mm_iload_n X dX0_firstIron_24 1 rfl ?_
      refine mm_callVi X dX0_firstIron_25 (As := [.int l1]) (rest := [.int (dr_rd σ 26 l2)]) 52 (by decide) (dv_cf_row (j := 26) (by decide)) rfl hL (mX4_read hJ (j := 26) (by decide) (by decide) (res := (dr_rd σ 26 l1)) rfl) gX0_firstIron_X4_read rfl ⟨rfl, rfl⟩ hyX4_read ⟨Nat.le_of_ble_eq_true rfl, Nat.le_of_ble_eq_true rfl⟩ rfl (Nat.le_of_ble_eq_true rfl) ?_
      have J3 : ∀ (v2 : Int32), v2 = (if (dr_rd σ 26 l2) < (dr_rd σ 26 l1) then l2 else l1) → dG K D cI a σ 33 [(0, .ref (a 5)), (1, .int v2), (2, .int l2)] [] := by
        intro v2 ev2
        subst ev2
        refine mm_iinc X dX0_firstIron_33 2 rfl (v := (l2 + 1)) rfl (by decide) (lv2 := [(2, .int (l2 + 1)), (0, .ref (a 5)), (1, .int (if (dr_rd σ 26 l2) < (dr_rd σ 26 l1) then l2 else l1))]) rfl ?_
        refine mm_goto X dX0_firstIron_36 (tgt := 4) (by decide) ?_
        refine mm_loc [1, 2, 0] rfl ?_
        exact ih _ _ h
      refine mm_icmp_ge X dX0_firstIron_28 (tgt := 33) (by decide) (fun c4 => ?_) (fun c4 => ?_)
      · exact J3 _ (by rw [if_neg c4])
      · refine mm_iload_n X dX0_firstIron_31 2 rfl ?_
        refine mm_istore_n X dX0_firstIron_32 (by decide) (lv2 := [(1, .int l2), (0, .ref (a 5)), (2, .int l2)]) rfl ?_
        refine mm_loc [1, 0, 2] rfl ?_
        exact J3 _ (by rw [if_pos c4])
set_option maxRecDepth 100000 in
set_option maxHeartbeats 4000000 in
theorem mX0_firstIron {l : Launch} {D : va_G} {cI : ClassId} {a : Nat → Nat} (hJ : mm_J 59 a) {F : Nat} {σ : mm_M} {res : Int32} (h : fX0_firstIron F σ = some res) (sz : Nat) : Met l yX0_firstIron wsX0_firstIron rX0_firstIron (dP D cI a σ [.ref (a 5)] sz) (dQi D cI a res σ sz) 0 0 (mm_A 59 a sz) := by
  refine mm_met (fun sz => dQi D cI a res σ sz) (lv := [(0, .ref (a 5))]) (ret := (some .int)) (cc := cX0_firstIron) (maxL := 3) (own := RX0) hJ (by decide +kernel) rfl rfl (Nat.le_of_ble_eq_true rfl) rfl ?_ sz
  intro K hL X hQ
  unfold fX0_firstIron at h
  refine mm_iconst X dX0_firstIron_0 (v := 0) (by decide) ?_
  refine mm_istore_n X dX0_firstIron_1 (by decide) (lv2 := [(1, .int (0 : Int32)), (0, .ref (a 5))]) rfl ?_
  refine mm_iconst X dX0_firstIron_2 (v := 1) (by decide) ?_
  refine mm_istore_n X dX0_firstIron_3 (by decide) (lv2 := [(2, .int (1 : Int32)), (1, .int (0 : Int32)), (0, .ref (a 5))]) rfl ?_
  obtain ⟨q1, hq1, h⟩ := Option.bind_eq_some_iff.mp h
  refine mm_loc [2, 1, 0] rfl ?_
  refine tX0_firstIron_4 X hL hJ ?_ F (0 : Int32) (1 : Int32) hq1
  refine mm_iload_n X dX0_firstIron_39 0 rfl ?_
  obtain rfl := Option.some.inj h
  exact mm_iret X dX0_firstIron_40 rfl hQ rfl
/-! LinenTunnel$House.ironOne -/
def fX0_ironOne (F : Nat) (σ : mm_M) (p1 : Int32) : Option (mm_M) := (if (dr_rd σ 11 (fX0_fact σ p1 (0 : Int32))) = 0 then some (fX0_note σ p1 (6 : Int32) (fX0_fact σ p1 (4 : Int32))) else (fX0_firstIron F σ).bind fun q2 => some (fX0_note (fX0_note (dr_wr σ 26 q2 ((if (fX0_fact σ p1 (4 : Int32)) < (dr_rd σ 26 q2) then (dr_rd σ 26 q2) else (fX0_fact σ p1 (4 : Int32))) + (dr_rd σ 11 (fX0_fact σ p1 (0 : Int32))))) p1 (5 : Int32) q2) p1 (6 : Int32) ((if (fX0_fact σ p1 (4 : Int32)) < (dr_rd σ 26 q2) then (dr_rd σ 26 q2) else (fX0_fact σ p1 (4 : Int32))) + (dr_rd σ 11 (fX0_fact σ p1 (0 : Int32))))))
abbrev rX0_ironOne : Room := { frames := 2, cells := 0, slots := 0, locals := 45 }
theorem hyX0_ironOne : yX0_ironOne.cls = RX0 ∧ yX0_ironOne.cls ≠ "java/lang/invoke/MethodHandle" ∧ yX0_ironOne.cls ≠ "java/lang/invoke/VarHandle" ∧ (parseMethodDescriptor yX0_ironOne.desc).map (fun d => d.parameters.length) = some 1 := by decide +kernel
theorem kX0_ironOne_1 : (Cond.fieldLink RX0 60 "LinenTunnel$House" "kinds" "LLinenTunnel$Kinds;" : Cond) ∈ wsX0_ironOne := List.mem_of_getElem? (i := 1) rfl
theorem uX0_ironOne_0 : ∀ w ∈ u_ws RX0 TX0 16, w ∈ wsX0_ironOne := fun _ h => (List.mem_cons_of_mem _ (List.mem_append_left _ (List.mem_append_left _ (List.mem_append_right _ h))))
theorem uX0_ironOne_1 : ∀ w ∈ u_ws RX1 TX1 6, w ∈ wsX0_ironOne := fun _ h => (List.mem_cons_of_mem _ (List.mem_append_left _ (List.mem_append_right _ h)))
theorem kX0_ironOne_2 : (Cond.fieldLink RX0 48 "LinenTunnel$House" "ironTill" "LLinenTunnel$Row;" : Cond) ∈ wsX0_ironOne := List.mem_of_getElem? (i := 2) rfl
theorem kX0_ironOne_3 : (Cond.methodLink RX0 156 Lib.Math.max.name : Cond) ∈ wsX0_ironOne := List.mem_of_getElem? (i := 3) rfl
theorem kX0_ironOne_4 : (Cond.static Lib.Math.max.name : Cond) ∈ wsX0_ironOne := List.mem_of_getElem? (i := 4) rfl
theorem kX0_ironOne_5 : (Cond.initialized "java/lang/Math" : Cond) ∈ wsX0_ironOne := List.mem_of_getElem? (i := 5) rfl
theorem kX0_ironOne_6 : (Cond.code Lib.Math.max.name Lib.Math.max.code 2 (some .int) : Cond) ∈ wsX0_ironOne := List.mem_of_getElem? (i := 6) rfl
set_option maxRecDepth 100000 in
set_option maxHeartbeats 4000000 in
theorem mX0_ironOne {l : Launch} {D : va_G} {cI : ClassId} {a : Nat → Nat} (hJ : mm_J 59 a) {F : Nat} {σ : mm_M} {p1 : Int32} {res : mm_M} (h : fX0_ironOne F σ p1 = some res) (sz : Nat) : Met l yX0_ironOne wsX0_ironOne rX0_ironOne (dP D cI a σ [.ref (a 5), .int p1] sz) (dQv D cI a res sz) 0 0 (mm_A 59 a sz) := by
  refine mm_met (fun sz => dQv D cI a res sz) (lv := [(0, .ref (a 5)), (1, .int p1)]) (ret := none) (cc := cX0_ironOne) (maxL := 6) (own := RX0) hJ (by decide +kernel) rfl rfl (Nat.le_of_ble_eq_true rfl) rfl ?_ sz
  intro K hL X hQ
  unfold fX0_ironOne at h
  refine mm_aload_n X dX0_ironOne_0 0 rfl ?_
  refine mm_iload_n X dX0_ironOne_1 1 rfl ?_
  refine mm_iconst X dX0_ironOne_2 (v := 4) (by decide) ?_
  refine mm_callVi X dX0_ironOne_3 (As := [.int p1, .int (4 : Int32)]) (rest := []) 5 (by decide) dv_cf_5 rfl hL (mX0_fact hJ (res := fX0_fact σ p1 (4 : Int32)) rfl) gX0_ironOne_X0_fact rfl ⟨rfl, rfl⟩ hyX0_fact ⟨Nat.le_of_ble_eq_true rfl, Nat.le_of_ble_eq_true rfl⟩ rfl (Nat.le_of_ble_eq_true rfl) ?_
  refine mm_istore_n X dX0_ironOne_6 (by decide) (lv2 := [(2, .int (fX0_fact σ p1 (4 : Int32))), (0, .ref (a 5)), (1, .int p1)]) rfl ?_
  refine mm_aload_n X dX0_ironOne_7 1 rfl ?_
  refine mm_get X dX0_ironOne_8 5 0 (by decide) dv_cf_5 rfl (by decide) uX0_ironOne_0 kX0_ironOne_1 rfl (v := .ref (a 1)) rfl ?_
  refine mm_getN X dX0_ironOne_11 1 5 (by decide) dv_cf_1 rfl (by decide) uX0_ironOne_1 (List.mem_of_getElem? (i := 3) rfl) rfl (v := .ref (a 37)) rfl ?_
  refine mm_aload_n X dX0_ironOne_14 1 rfl ?_
  refine mm_iload_n X dX0_ironOne_15 2 rfl ?_
  refine mm_iconst X dX0_ironOne_16 (v := 0) (by decide) ?_
  refine mm_callVi X dX0_ironOne_17 (As := [.int p1, .int (0 : Int32)]) (rest := [.ref (a 37)]) 5 (by decide) dv_cf_5 rfl hL (mX0_fact hJ (res := fX0_fact σ p1 (0 : Int32)) rfl) gX0_ironOne_X0_fact rfl ⟨rfl, rfl⟩ hyX0_fact ⟨Nat.le_of_ble_eq_true rfl, Nat.le_of_ble_eq_true rfl⟩ rfl (Nat.le_of_ble_eq_true rfl) ?_
  refine mm_callVi X dX0_ironOne_20 (As := [.int (fX0_fact σ p1 (0 : Int32))]) (rest := []) 37 (by decide) (dv_cf_row (j := 11) (by decide)) rfl hL (mX4_read hJ (j := 11) (by decide) (by decide) (res := (dr_rd σ 11 (fX0_fact σ p1 (0 : Int32)))) rfl) gX0_ironOne_X4_read rfl ⟨rfl, rfl⟩ hyX4_read ⟨Nat.le_of_ble_eq_true rfl, Nat.le_of_ble_eq_true rfl⟩ rfl (Nat.le_of_ble_eq_true rfl) ?_
  refine mm_istore_n X dX0_ironOne_23 (by decide) (lv2 := [(3, .int (dr_rd σ 11 (fX0_fact σ p1 (0 : Int32)))), (2, .int (fX0_fact σ p1 (4 : Int32))), (0, .ref (a 5)), (1, .int p1)]) rfl ?_
  refine mm_iload_n X dX0_ironOne_24 0 rfl ?_
  refine mm_if_ne X dX0_ironOne_25 (tgt := 37) (by decide) (fun c1 => ?_) (fun c1 => ?_)
  · have h := (if_neg c1).symm.trans h
    refine mm_aload_n X dX0_ironOne_37 2 rfl ?_
    obtain ⟨q2, hq2, h⟩ := Option.bind_eq_some_iff.mp h
    refine mm_callVi X dX0_ironOne_38 (As := []) (rest := []) 5 (by decide) dv_cf_5 rfl hL (mX0_firstIron hJ hq2) gX0_ironOne_X0_firstIron rfl ⟨rfl, rfl⟩ hyX0_firstIron ⟨Nat.le_of_ble_eq_true rfl, Nat.le_of_ble_eq_true rfl⟩ rfl (Nat.le_of_ble_eq_true rfl) ?_
    refine mm_istore X dX0_ironOne_41 (by decide) (lv2 := [(4, .int q2), (3, .int (dr_rd σ 11 (fX0_fact σ p1 (0 : Int32)))), (2, .int (fX0_fact σ p1 (4 : Int32))), (0, .ref (a 5)), (1, .int p1)]) rfl ?_
    refine mm_iload_n X dX0_ironOne_43 2 rfl ?_
    refine mm_aload_n X dX0_ironOne_44 3 rfl ?_
    refine mm_get X dX0_ironOne_45 5 12 (by decide) dv_cf_5 rfl (by decide) uX0_ironOne_0 kX0_ironOne_2 rfl (v := .ref (a 52)) rfl ?_
    refine mm_iload X dX0_ironOne_48 0 rfl ?_
    refine mm_callVi X dX0_ironOne_50 (As := [.int q2]) (rest := [.int (fX0_fact σ p1 (4 : Int32))]) 52 (by decide) (dv_cf_row (j := 26) (by decide)) rfl hL (mX4_read hJ (j := 26) (by decide) (by decide) (res := (dr_rd σ 26 q2)) rfl) gX0_ironOne_X4_read rfl ⟨rfl, rfl⟩ hyX4_read ⟨Nat.le_of_ble_eq_true rfl, Nat.le_of_ble_eq_true rfl⟩ rfl (Nat.le_of_ble_eq_true rfl) ?_
    refine mm_mmax X dX0_ironOne_53 kX0_ironOne_3 kX0_ironOne_4 kX0_ironOne_5 kX0_ironOne_6 ⟨Nat.le_of_ble_eq_true rfl, Nat.le_of_ble_eq_true rfl⟩ ?_
    refine mm_iload_n X dX0_ironOne_56 1 rfl ?_
    refine mm_iadd X dX0_ironOne_57 ?_
    refine mm_istore X dX0_ironOne_58 (by decide) (lv2 := [(5, .int ((if (fX0_fact σ p1 (4 : Int32)) < (dr_rd σ 26 q2) then (dr_rd σ 26 q2) else (fX0_fact σ p1 (4 : Int32))) + (dr_rd σ 11 (fX0_fact σ p1 (0 : Int32))))), (4, .int q2), (3, .int (dr_rd σ 11 (fX0_fact σ p1 (0 : Int32)))), (2, .int (fX0_fact σ p1 (4 : Int32))), (0, .ref (a 5)), (1, .int p1)]) rfl ?_
    refine mm_aload_n X dX0_ironOne_60 4 rfl ?_
    refine mm_get X dX0_ironOne_61 5 12 (by decide) dv_cf_5 rfl (by decide) uX0_ironOne_0 kX0_ironOne_2 rfl (v := .ref (a 52)) rfl ?_
    refine mm_iload X dX0_ironOne_64 1 rfl ?_
    refine mm_iload X dX0_ironOne_66 0 rfl ?_
    refine mm_callVv X dX0_ironOne_68 (As := [.int q2, .int ((if (fX0_fact σ p1 (4 : Int32)) < (dr_rd σ 26 q2) then (dr_rd σ 26 q2) else (fX0_fact σ p1 (4 : Int32))) + (dr_rd σ 11 (fX0_fact σ p1 (0 : Int32))))]) (rest := []) 52 (by decide) (dv_cf_row (j := 26) (by decide)) rfl hL (mX4_write hJ (j := 26) (by decide) (by decide) (res := dr_wr σ 26 q2 ((if (fX0_fact σ p1 (4 : Int32)) < (dr_rd σ 26 q2) then (dr_rd σ 26 q2) else (fX0_fact σ p1 (4 : Int32))) + (dr_rd σ 11 (fX0_fact σ p1 (0 : Int32))))) rfl) gX0_ironOne_X4_write rfl ⟨rfl, rfl⟩ hyX4_write ⟨Nat.le_of_ble_eq_true rfl, Nat.le_of_ble_eq_true rfl⟩ rfl (Nat.le_of_ble_eq_true rfl) ?_
    refine mm_aload_n X dX0_ironOne_71 4 rfl ?_
    refine mm_iload_n X dX0_ironOne_72 5 rfl ?_
    refine mm_iconst X dX0_ironOne_73 (v := 5) (by decide) ?_
    refine mm_iload X dX0_ironOne_74 1 rfl ?_
    refine mm_callVv X dX0_ironOne_76 (As := [.int p1, .int (5 : Int32), .int q2]) (rest := []) 5 (by decide) dv_cf_5 rfl hL (mX0_note hJ (res := fX0_note (dr_wr σ 26 q2 ((if (fX0_fact σ p1 (4 : Int32)) < (dr_rd σ 26 q2) then (dr_rd σ 26 q2) else (fX0_fact σ p1 (4 : Int32))) + (dr_rd σ 11 (fX0_fact σ p1 (0 : Int32))))) p1 (5 : Int32) q2) rfl) gX0_ironOne_X0_note rfl ⟨rfl, rfl⟩ hyX0_note ⟨Nat.le_of_ble_eq_true rfl, Nat.le_of_ble_eq_true rfl⟩ rfl (Nat.le_of_ble_eq_true rfl) ?_
    refine mm_aload_n X dX0_ironOne_79 4 rfl ?_
    refine mm_iload_n X dX0_ironOne_80 5 rfl ?_
    refine mm_bipush X dX0_ironOne_81 (v := 6) (by decide) ?_
    refine mm_iload X dX0_ironOne_83 0 rfl ?_
    refine mm_callVv X dX0_ironOne_85 (As := [.int p1, .int (6 : Int32), .int ((if (fX0_fact σ p1 (4 : Int32)) < (dr_rd σ 26 q2) then (dr_rd σ 26 q2) else (fX0_fact σ p1 (4 : Int32))) + (dr_rd σ 11 (fX0_fact σ p1 (0 : Int32))))]) (rest := []) 5 (by decide) dv_cf_5 rfl hL (mX0_note hJ (res := fX0_note (fX0_note (dr_wr σ 26 q2 ((if (fX0_fact σ p1 (4 : Int32)) < (dr_rd σ 26 q2) then (dr_rd σ 26 q2) else (fX0_fact σ p1 (4 : Int32))) + (dr_rd σ 11 (fX0_fact σ p1 (0 : Int32))))) p1 (5 : Int32) q2) p1 (6 : Int32) ((if (fX0_fact σ p1 (4 : Int32)) < (dr_rd σ 26 q2) then (dr_rd σ 26 q2) else (fX0_fact σ p1 (4 : Int32))) + (dr_rd σ 11 (fX0_fact σ p1 (0 : Int32))))) rfl) gX0_ironOne_X0_note rfl ⟨rfl, rfl⟩ hyX0_note ⟨Nat.le_of_ble_eq_true rfl, Nat.le_of_ble_eq_true rfl⟩ rfl (Nat.le_of_ble_eq_true rfl) ?_
    obtain rfl := Option.some.inj h
    exact mm_vret X dX0_ironOne_88 rfl hQ
  · have h := (if_pos c1).symm.trans h
    refine mm_aload_n X dX0_ironOne_28 2 rfl ?_
    refine mm_iload_n X dX0_ironOne_29 3 rfl ?_
    refine mm_bipush X dX0_ironOne_30 (v := 6) (by decide) ?_
    refine mm_iload_n X dX0_ironOne_32 1 rfl ?_
    refine mm_callVv X dX0_ironOne_33 (As := [.int p1, .int (6 : Int32), .int (fX0_fact σ p1 (4 : Int32))]) (rest := []) 5 (by decide) dv_cf_5 rfl hL (mX0_note hJ (res := fX0_note σ p1 (6 : Int32) (fX0_fact σ p1 (4 : Int32))) rfl) gX0_ironOne_X0_note rfl ⟨rfl, rfl⟩ hyX0_note ⟨Nat.le_of_ble_eq_true rfl, Nat.le_of_ble_eq_true rfl⟩ rfl (Nat.le_of_ble_eq_true rfl) ?_
    obtain rfl := Option.some.inj h
    exact mm_vret X dX0_ironOne_36 rfl hQ
/-! LinenTunnel$House.ironAll -/
def fX0_ironAll_13 (F : Nat) (l1 : Int32) : Nat → Int32 → Int32 → mm_M → Option (mm_M)
  | 0, _, _, _ => none
  | k + 1, l2, l3, σ => (if l3 < l1 then (fX0_firstDry F σ l2).bind fun q2 => (fX0_ironOne F σ q2).bind fun q3 => fX0_ironAll_13 F l1 k (l2 ||| ((1 : Int32) <<< (q2 &&& 31))) (l3 + 1) (dr_wr q3 29 (4 : Int32) (if (dr_rd q3 29 (4 : Int32)) < (fX0_fact q3 q2 (6 : Int32)) then (fX0_fact q3 q2 (6 : Int32)) else (dr_rd q3 29 (4 : Int32)))) else some (σ))
def fX0_ironAll (F : Nat) (σ : mm_M) : Option (mm_M) := (fX0_ironAll_13 F (dr_rd σ 29 (5 : Int32)) F (0 : Int32) (0 : Int32) σ).bind fun q1 => some q1
abbrev rX0_ironAll : Room := { frames := 3, cells := 0, slots := 0, locals := 70 }
theorem hyX0_ironAll : yX0_ironAll.cls = RX0 ∧ yX0_ironAll.cls ≠ "java/lang/invoke/MethodHandle" ∧ yX0_ironAll.cls ≠ "java/lang/invoke/VarHandle" ∧ (parseMethodDescriptor yX0_ironAll.desc).map (fun d => d.parameters.length) = some 0 := by decide +kernel
theorem kX0_ironAll_1 : (Cond.fieldLink RX0 57 "LinenTunnel$House" "totals" "LLinenTunnel$Row;" : Cond) ∈ wsX0_ironAll := List.mem_of_getElem? (i := 1) rfl
theorem uX0_ironAll_0 : ∀ w ∈ u_ws RX0 TX0 16, w ∈ wsX0_ironAll := fun _ h => (List.mem_cons_of_mem _ (List.mem_append_left _ (List.mem_append_left _ (List.mem_append_right _ h))))
theorem kX0_ironAll_2 : (Cond.methodLink RX0 156 Lib.Math.max.name : Cond) ∈ wsX0_ironAll := List.mem_of_getElem? (i := 2) rfl
theorem kX0_ironAll_3 : (Cond.static Lib.Math.max.name : Cond) ∈ wsX0_ironAll := List.mem_of_getElem? (i := 3) rfl
theorem kX0_ironAll_4 : (Cond.initialized "java/lang/Math" : Cond) ∈ wsX0_ironAll := List.mem_of_getElem? (i := 4) rfl
theorem kX0_ironAll_5 : (Cond.code Lib.Math.max.name Lib.Math.max.code 2 (some .int) : Cond) ∈ wsX0_ironAll := List.mem_of_getElem? (i := 5) rfl
set_option maxRecDepth 100000 in
set_option maxHeartbeats 4000000 in
theorem tX0_ironAll_13 {l : Launch} {K : mm_K} {D : va_G} {cI : ClassId} {a : Nat → Nat} (X : dC K rX0_ironAll cX0_ironAll 5 none wsX0_ironAll RX0 D cI a) (hL : mm_L K l) (hJ : mm_J 59 a) {F : Nat} {l1 : Int32} {out : mm_M} (hx : dG K D cI a out 71 [] []) : ∀ (k : Nat) (l2 : Int32) (l3 : Int32) (σ : mm_M), fX0_ironAll_13 F l1 k l2 l3 σ = some out → dG K D cI a σ 13 [(0, .ref (a 5)), (1, .int l1), (2, .int l2), (3, .int l3)] [] := by
  intro k
  induction k with
  | zero =>
    intro l2 l3 σ h
    have h : none = some out := h
    cases h
  | succ k ih =>
    intro l2 l3 σ h
    rw [fX0_ironAll_13] at h
    refine mm_iload_n X dX0_ironAll_13 3 rfl ?_
    refine mm_iload_n X dX0_ironAll_14 1 rfl ?_
    refine mm_icmp_ge X dX0_ironAll_15 (tgt := 71) (by decide) (fun c1 => ?_) (fun c1 => ?_)
    · have h := (if_neg c1).symm.trans h
      obtain rfl := Option.some.inj h
      refine mm_loc [] rfl ?_
      exact hx
    · have h := (if_pos c1).symm.trans h
      refine mm_aload_n X dX0_ironAll_18 0 rfl ?_
      refine mm_iload_n X dX0_ironAll_19 2 rfl ?_
      obtain ⟨q2, hq2, h⟩ := Option.bind_eq_some_iff.mp h
      refine mm_callVi X dX0_ironAll_20 (As := [.int l2]) (rest := []) 5 (by decide) dv_cf_5 rfl hL (mX0_firstDry hJ hq2) gX0_ironAll_X0_firstDry rfl ⟨rfl, rfl⟩ hyX0_firstDry ⟨Nat.le_of_ble_eq_true rfl, Nat.le_of_ble_eq_true rfl⟩ rfl (Nat.le_of_ble_eq_true rfl) ?_
      refine mm_istore X dX0_ironAll_23 (by decide) (lv2 := [(4, .int q2), (0, .ref (a 5)), (1, .int l1), (2, .int l2), (3, .int l3)]) rfl ?_
      refine mm_iload_n X dX0_ironAll_25 3 rfl ?_
      refine mm_iconst X dX0_ironAll_26 (v := 1) (by decide) ?_
      refine mm_iload X dX0_ironAll_27 0 rfl ?_
      refine mm_ishl X dX0_ironAll_29 ?_
      refine mm_ior X dX0_ironAll_30 ?_
      refine mm_istore_n X dX0_ironAll_31 (by decide) (lv2 := [(2, .int (l2 ||| ((1 : Int32) <<< (q2 &&& 31)))), (4, .int q2), (0, .ref (a 5)), (1, .int l1), (3, .int l3)]) rfl ?_
      refine mm_aload_n X dX0_ironAll_32 2 rfl ?_
      refine mm_iload X dX0_ironAll_33 1 rfl ?_
      obtain ⟨q3, hq3, h⟩ := Option.bind_eq_some_iff.mp h
      refine mm_callVv X dX0_ironAll_35 (As := [.int q2]) (rest := []) 5 (by decide) dv_cf_5 rfl hL (mX0_ironOne hJ hq3) gX0_ironAll_X0_ironOne rfl ⟨rfl, rfl⟩ hyX0_ironOne ⟨Nat.le_of_ble_eq_true rfl, Nat.le_of_ble_eq_true rfl⟩ rfl (Nat.le_of_ble_eq_true rfl) ?_
      refine mm_aload_n X dX0_ironAll_38 2 rfl ?_
      refine mm_get X dX0_ironAll_39 5 15 (by decide) dv_cf_5 rfl (by decide) uX0_ironAll_0 kX0_ironAll_1 rfl (v := .ref (a 55)) rfl ?_
      refine mm_iconst X dX0_ironAll_42 (v := 4) (by decide) ?_
      refine mm_aload_n X dX0_ironAll_43 2 rfl ?_
      refine mm_get X dX0_ironAll_44 5 15 (by decide) dv_cf_5 rfl (by decide) uX0_ironAll_0 kX0_ironAll_1 rfl (v := .ref (a 55)) rfl ?_
      refine mm_iconst X dX0_ironAll_47 (v := 4) (by decide) ?_
      refine mm_callVi X dX0_ironAll_48 (As := [.int (4 : Int32)]) (rest := [.int (4 : Int32), .ref (a 55)]) 55 (by decide) (dv_cf_row (j := 29) (by decide)) rfl hL (mX4_read hJ (j := 29) (by decide) (by decide) (res := (dr_rd q3 29 (4 : Int32))) rfl) gX0_ironAll_X4_read rfl ⟨rfl, rfl⟩ hyX4_read ⟨Nat.le_of_ble_eq_true rfl, Nat.le_of_ble_eq_true rfl⟩ rfl (Nat.le_of_ble_eq_true rfl) ?_
      refine mm_aload_n X dX0_ironAll_51 2 rfl ?_
      refine mm_iload X dX0_ironAll_52 1 rfl ?_
      refine mm_bipush X dX0_ironAll_54 (v := 6) (by decide) ?_
      refine mm_callVi X dX0_ironAll_56 (As := [.int q2, .int (6 : Int32)]) (rest := [.int (dr_rd q3 29 (4 : Int32)), .int (4 : Int32), .ref (a 55)]) 5 (by decide) dv_cf_5 rfl hL (mX0_fact hJ (res := fX0_fact q3 q2 (6 : Int32)) rfl) gX0_ironAll_X0_fact rfl ⟨rfl, rfl⟩ hyX0_fact ⟨Nat.le_of_ble_eq_true rfl, Nat.le_of_ble_eq_true rfl⟩ rfl (Nat.le_of_ble_eq_true rfl) ?_
      refine mm_mmax X dX0_ironAll_59 kX0_ironAll_2 kX0_ironAll_3 kX0_ironAll_4 kX0_ironAll_5 ⟨Nat.le_of_ble_eq_true rfl, Nat.le_of_ble_eq_true rfl⟩ ?_
      refine mm_callVv X dX0_ironAll_62 (As := [.int (4 : Int32), .int (if (dr_rd q3 29 (4 : Int32)) < (fX0_fact q3 q2 (6 : Int32)) then (fX0_fact q3 q2 (6 : Int32)) else (dr_rd q3 29 (4 : Int32)))]) (rest := []) 55 (by decide) (dv_cf_row (j := 29) (by decide)) rfl hL (mX4_write hJ (j := 29) (by decide) (by decide) (res := dr_wr q3 29 (4 : Int32) (if (dr_rd q3 29 (4 : Int32)) < (fX0_fact q3 q2 (6 : Int32)) then (fX0_fact q3 q2 (6 : Int32)) else (dr_rd q3 29 (4 : Int32)))) rfl) gX0_ironAll_X4_write rfl ⟨rfl, rfl⟩ hyX4_write ⟨Nat.le_of_ble_eq_true rfl, Nat.le_of_ble_eq_true rfl⟩ rfl (Nat.le_of_ble_eq_true rfl) ?_
      refine mm_iinc X dX0_ironAll_65 4 rfl (v := (l3 + 1)) rfl (by decide) (lv2 := [(3, .int (l3 + 1)), (2, .int (l2 ||| ((1 : Int32) <<< (q2 &&& 31)))), (4, .int q2), (0, .ref (a 5)), (1, .int l1)]) rfl ?_
      refine mm_goto X dX0_ironAll_68 (tgt := 13) (by decide) ?_
      refine mm_loc [3, 4, 1, 0] rfl ?_
      exact ih _ _ _ h
set_option maxRecDepth 100000 in
set_option maxHeartbeats 4000000 in
theorem mX0_ironAll {l : Launch} {D : va_G} {cI : ClassId} {a : Nat → Nat} (hJ : mm_J 59 a) {F : Nat} {σ : mm_M} {res : mm_M} (h : fX0_ironAll F σ = some res) (sz : Nat) : Met l yX0_ironAll wsX0_ironAll rX0_ironAll (dP D cI a σ [.ref (a 5)] sz) (dQv D cI a res sz) 0 0 (mm_A 59 a sz) := by
  refine mm_met (fun sz => dQv D cI a res sz) (lv := [(0, .ref (a 5))]) (ret := none) (cc := cX0_ironAll) (maxL := 5) (own := RX0) hJ (by decide +kernel) rfl rfl (Nat.le_of_ble_eq_true rfl) rfl ?_ sz
  intro K hL X hQ
  unfold fX0_ironAll at h
  refine mm_aload_n X dX0_ironAll_0 0 rfl ?_
  refine mm_get X dX0_ironAll_1 5 15 (by decide) dv_cf_5 rfl (by decide) uX0_ironAll_0 kX0_ironAll_1 rfl (v := .ref (a 55)) rfl ?_
  refine mm_iconst X dX0_ironAll_4 (v := 5) (by decide) ?_
  refine mm_callVi X dX0_ironAll_5 (As := [.int (5 : Int32)]) (rest := []) 55 (by decide) (dv_cf_row (j := 29) (by decide)) rfl hL (mX4_read hJ (j := 29) (by decide) (by decide) (res := (dr_rd σ 29 (5 : Int32))) rfl) gX0_ironAll_X4_read rfl ⟨rfl, rfl⟩ hyX4_read ⟨Nat.le_of_ble_eq_true rfl, Nat.le_of_ble_eq_true rfl⟩ rfl (Nat.le_of_ble_eq_true rfl) ?_
  refine mm_istore_n X dX0_ironAll_8 (by decide) (lv2 := [(1, .int (dr_rd σ 29 (5 : Int32))), (0, .ref (a 5))]) rfl ?_
  refine mm_iconst X dX0_ironAll_9 (v := 0) (by decide) ?_
  refine mm_istore_n X dX0_ironAll_10 (by decide) (lv2 := [(2, .int (0 : Int32)), (1, .int (dr_rd σ 29 (5 : Int32))), (0, .ref (a 5))]) rfl ?_
  refine mm_iconst X dX0_ironAll_11 (v := 0) (by decide) ?_
  refine mm_istore_n X dX0_ironAll_12 (by decide) (lv2 := [(3, .int (0 : Int32)), (2, .int (0 : Int32)), (1, .int (dr_rd σ 29 (5 : Int32))), (0, .ref (a 5))]) rfl ?_
  obtain ⟨q1, hq1, h⟩ := Option.bind_eq_some_iff.mp h
  refine mm_loc [3, 2, 1, 0] rfl ?_
  refine tX0_ironAll_13 X hL hJ ?_ F (0 : Int32) (0 : Int32) σ hq1
  obtain rfl := Option.some.inj h
  exact mm_vret X dX0_ironAll_71 rfl hQ
