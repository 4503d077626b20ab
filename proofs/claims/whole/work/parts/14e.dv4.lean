/-! LinenTunnel$Waiting.orderByNext -/
def fX6_orderByNext_11 (F : Nat) : Nat → Int32 → Int32 → mm_M → Option (mm_M)
  | 0, _, _, _ => none
  | k + 1, l1, l2, σ => (if l2 < (σ 3 1) then ((if l2 = 0 then some ((dr_rd σ 20 (0 : Int32))) else (fX6_nextOf F σ l1 (dr_rd σ 20 (l2 - (1 : Int32)))).bind fun q5 => some (q5))).bind fun q2 => fX6_orderByNext_11 F k (l1 &&& (((1 : Int32) <<< (q2 &&& 31)) ^^^ (-1 : Int32))) (l2 + 1) (dr_wr σ 20 l2 q2) else some (σ))
def fX6_orderByNext (F : Nat) (σ : mm_M) : Option (mm_M) := (fX6_orderByNext_11 F F (((1 : Int32) <<< ((σ 3 1) &&& 31)) - (1 : Int32)) (0 : Int32) σ).bind fun q1 => some q1
abbrev rX6_orderByNext : Room := { frames := 4, cells := 0, slots := 0, locals := 91 }
theorem hyX6_orderByNext : yX6_orderByNext.cls = RX6 ∧ yX6_orderByNext.cls ≠ "java/lang/invoke/MethodHandle" ∧ yX6_orderByNext.cls ≠ "java/lang/invoke/VarHandle" ∧ (parseMethodDescriptor yX6_orderByNext.desc).map (fun d => d.parameters.length) = some 0 := by decide +kernel
theorem kX6_orderByNext_1 : (Cond.fieldLink RX6 9 "LinenTunnel$Waiting" "number" "I" : Cond) ∈ wsX6_orderByNext := List.mem_of_getElem? (i := 1) rfl
theorem uX6_orderByNext_6 : ∀ w ∈ u_ws RX6 TX6 5, w ∈ wsX6_orderByNext := fun _ h => (List.mem_cons_of_mem _ (List.mem_append_left _ (List.mem_append_left _ (List.mem_append_right _ h))))
theorem kX6_orderByNext_2 : (Cond.fieldLink RX6 27 "LinenTunnel$Waiting" "order" "LLinenTunnel$Row;" : Cond) ∈ wsX6_orderByNext := List.mem_of_getElem? (i := 2) rfl
set_option maxRecDepth 100000 in
set_option maxHeartbeats 4000000 in
theorem tX6_orderByNext_11 {l : Launch} {K : mm_K} {D : va_G} {cI : ClassId} {a : Nat → Nat} (X : dC K rX6_orderByNext cX6_orderByNext 4 none wsX6_orderByNext RX6 D cI a) (hL : mm_L K l) (hJ : mm_J 59 a) {F : Nat} {out : mm_M} (hx : dG K D cI a out 73 [] []) : ∀ (k : Nat) (l1 : Int32) (l2 : Int32) (σ : mm_M), fX6_orderByNext_11 F k l1 l2 σ = some out → dG K D cI a σ 11 [(0, .ref (a 3)), (1, .int l1), (2, .int l2)] [] := by
  intro k
  induction k with
  | zero =>
    intro l1 l2 σ h
    have h : none = some out := h
    cases h
  | succ k ih =>
    intro l1 l2 σ h
    rw [fX6_orderByNext_11] at h
    refine mm_iload_n X dX6_orderByNext_11 2 rfl ?_
    refine mm_aload_n X dX6_orderByNext_12 0 rfl ?_
    refine mm_get X dX6_orderByNext_13 3 1 (by decide) dv_cf_3 rfl (by decide) uX6_orderByNext_6 kX6_orderByNext_1 rfl (v := .int (σ 3 1)) rfl ?_
    refine mm_icmp_ge X dX6_orderByNext_16 (tgt := 73) (by decide) (fun c1 => ?_) (fun c1 => ?_)
    · have h := (if_neg c1).symm.trans h
      obtain rfl := Option.some.inj h
      refine mm_loc [] rfl ?_
      exact hx
    · have h := (if_pos c1).symm.trans h
      refine mm_iload_n X dX6_orderByNext_19 2 rfl ?_
      obtain ⟨q2, hq2, h⟩ := Option.bind_eq_some_iff.mp h
      have J3 : dG K D cI a σ 49 [(0, .ref (a 3)), (1, .int l1), (2, .int l2)] [.int q2] := by
        refine mm_istore_n X dX6_orderByNext_49 (by decide) (lv2 := [(3, .int q2), (0, .ref (a 3)), (1, .int l1), (2, .int l2)]) rfl ?_
        refine mm_aload_n X dX6_orderByNext_50 1 rfl ?_
        refine mm_get X dX6_orderByNext_51 3 4 (by decide) dv_cf_3 rfl (by decide) uX6_orderByNext_6 kX6_orderByNext_2 rfl (v := .ref (a 46)) rfl ?_
        refine mm_iload_n X dX6_orderByNext_54 3 rfl ?_
        refine mm_iload_n X dX6_orderByNext_55 0 rfl ?_
        refine mm_callVv X dX6_orderByNext_56 (As := [.int l2, .int q2]) (rest := []) 46 (by decide) (dv_cf_row (j := 20) (by decide)) rfl hL (mX4_write hJ (j := 20) (by decide) (by decide) (res := dr_wr σ 20 l2 q2) rfl) gX6_orderByNext_X4_write rfl ⟨rfl, rfl⟩ hyX4_write ⟨Nat.le_of_ble_eq_true rfl, Nat.le_of_ble_eq_true rfl⟩ rfl (Nat.le_of_ble_eq_true rfl) ?_
        refine mm_iload_n X dX6_orderByNext_59 2 rfl ?_
        refine mm_iconst X dX6_orderByNext_60 (v := 1) (by decide) ?_
        refine mm_iload_n X dX6_orderByNext_61 0 rfl ?_
        refine mm_ishl X dX6_orderByNext_62 ?_
        refine mm_iconst X dX6_orderByNext_63 (v := -1) (by decide) ?_
        refine mm_ixor X dX6_orderByNext_64 ?_
        refine mm_iand X dX6_orderByNext_65 ?_
        refine mm_istore_n X dX6_orderByNext_66 (by decide) (lv2 := [(1, .int (l1 &&& (((1 : Int32) <<< (q2 &&& 31)) ^^^ (-1 : Int32)))), (3, .int q2), (0, .ref (a 3)), (2, .int l2)]) rfl ?_
        refine mm_iinc X dX6_orderByNext_67 3 rfl (v := (l2 + 1)) rfl (by decide) (lv2 := [(2, .int (l2 + 1)), (1, .int (l1 &&& (((1 : Int32) <<< (q2 &&& 31)) ^^^ (-1 : Int32)))), (3, .int q2), (0, .ref (a 3))]) rfl ?_
        refine mm_goto X dX6_orderByNext_70 (tgt := 11) (by decide) ?_
        refine mm_loc [3, 1, 0] rfl ?_
        exact ih _ _ _ h
      have h := hq2
      refine mm_if_ne X dX6_orderByNext_20 (tgt := 34) (by decide) (fun c4 => ?_) (fun c4 => ?_)
      · have h := (if_neg c4).symm.trans h
        refine mm_aload_n X dX6_orderByNext_34 0 rfl ?_
        refine mm_iload_n X dX6_orderByNext_35 1 rfl ?_
        refine mm_aload_n X dX6_orderByNext_36 0 rfl ?_
        refine mm_get X dX6_orderByNext_37 3 4 (by decide) dv_cf_3 rfl (by decide) uX6_orderByNext_6 kX6_orderByNext_2 rfl (v := .ref (a 46)) rfl ?_
        refine mm_iload_n X dX6_orderByNext_40 2 rfl ?_
        refine mm_iconst X dX6_orderByNext_41 (v := 1) (by decide) ?_
        refine mm_isub X dX6_orderByNext_42 ?_
        refine mm_callVi X dX6_orderByNext_43 (As := [.int (l2 - (1 : Int32))]) (rest := [.int l1, .ref (a 3)]) 46 (by decide) (dv_cf_row (j := 20) (by decide)) rfl hL (mX4_read hJ (j := 20) (by decide) (by decide) (res := (dr_rd σ 20 (l2 - (1 : Int32)))) rfl) gX6_orderByNext_X4_read rfl ⟨rfl, rfl⟩ hyX4_read ⟨Nat.le_of_ble_eq_true rfl, Nat.le_of_ble_eq_true rfl⟩ rfl (Nat.le_of_ble_eq_true rfl) ?_
        obtain ⟨q5, hq5, h⟩ := Option.bind_eq_some_iff.mp h
        refine mm_callVi X dX6_orderByNext_46 (As := [.int l1, .int (dr_rd σ 20 (l2 - (1 : Int32)))]) (rest := []) 3 (by decide) dv_cf_3 rfl hL (mX6_nextOf hJ hq5) gX6_orderByNext_X6_nextOf rfl ⟨rfl, rfl⟩ hyX6_nextOf ⟨Nat.le_of_ble_eq_true rfl, Nat.le_of_ble_eq_true rfl⟩ rfl (Nat.le_of_ble_eq_true rfl) ?_
        obtain rfl := Option.some.inj h
        exact J3
      · have h := (if_pos c4).symm.trans h
        refine mm_aload_n X dX6_orderByNext_23 0 rfl ?_
        refine mm_get X dX6_orderByNext_24 3 4 (by decide) dv_cf_3 rfl (by decide) uX6_orderByNext_6 kX6_orderByNext_2 rfl (v := .ref (a 46)) rfl ?_
        refine mm_iconst X dX6_orderByNext_27 (v := 0) (by decide) ?_
        refine mm_callVi X dX6_orderByNext_28 (As := [.int (0 : Int32)]) (rest := []) 46 (by decide) (dv_cf_row (j := 20) (by decide)) rfl hL (mX4_read hJ (j := 20) (by decide) (by decide) (res := (dr_rd σ 20 (0 : Int32))) rfl) gX6_orderByNext_X4_read rfl ⟨rfl, rfl⟩ hyX4_read ⟨Nat.le_of_ble_eq_true rfl, Nat.le_of_ble_eq_true rfl⟩ rfl (Nat.le_of_ble_eq_true rfl) ?_
        refine mm_goto X dX6_orderByNext_31 (tgt := 49) (by decide) ?_
        obtain rfl := Option.some.inj h
        exact J3
set_option maxRecDepth 100000 in
set_option maxHeartbeats 4000000 in
theorem mX6_orderByNext {l : Launch} {D : va_G} {cI : ClassId} {a : Nat → Nat} (hJ : mm_J 59 a) {F : Nat} {σ : mm_M} {res : mm_M} (h : fX6_orderByNext F σ = some res) (sz : Nat) : Met l yX6_orderByNext wsX6_orderByNext rX6_orderByNext (dP D cI a σ [.ref (a 3)] sz) (dQv D cI a res sz) 0 0 (mm_A 59 a sz) := by
  refine mm_met (fun sz => dQv D cI a res sz) (lv := [(0, .ref (a 3))]) (ret := none) (cc := cX6_orderByNext) (maxL := 4) (own := RX6) hJ (by decide +kernel) rfl rfl (Nat.le_of_ble_eq_true rfl) rfl ?_ sz
  intro K hL X hQ
  unfold fX6_orderByNext at h
  refine mm_iconst X dX6_orderByNext_0 (v := 1) (by decide) ?_
  refine mm_aload_n X dX6_orderByNext_1 0 rfl ?_
  refine mm_get X dX6_orderByNext_2 3 1 (by decide) dv_cf_3 rfl (by decide) uX6_orderByNext_6 kX6_orderByNext_1 rfl (v := .int (σ 3 1)) rfl ?_
  refine mm_ishl X dX6_orderByNext_5 ?_
  refine mm_iconst X dX6_orderByNext_6 (v := 1) (by decide) ?_
  refine mm_isub X dX6_orderByNext_7 ?_
  refine mm_istore_n X dX6_orderByNext_8 (by decide) (lv2 := [(1, .int (((1 : Int32) <<< ((σ 3 1) &&& 31)) - (1 : Int32))), (0, .ref (a 3))]) rfl ?_
  refine mm_iconst X dX6_orderByNext_9 (v := 0) (by decide) ?_
  refine mm_istore_n X dX6_orderByNext_10 (by decide) (lv2 := [(2, .int (0 : Int32)), (1, .int (((1 : Int32) <<< ((σ 3 1) &&& 31)) - (1 : Int32))), (0, .ref (a 3))]) rfl ?_
  obtain ⟨q1, hq1, h⟩ := Option.bind_eq_some_iff.mp h
  refine mm_loc [2, 1, 0] rfl ?_
  refine tX6_orderByNext_11 X hL hJ ?_ F (((1 : Int32) <<< ((σ 3 1) &&& 31)) - (1 : Int32)) (0 : Int32) σ hq1
  obtain rfl := Option.some.inj h
  exact mm_vret X dX6_orderByNext_73 rfl hQ
/-! LinenTunnel.greedy -/
def fX7_greedy (F : Nat) (σ : mm_M) : Option (Int32 × mm_M) := (fX6_orderByNext F σ).bind fun q1 => (fX6_gapsInOrder F q1).bind fun q2 => some (q2, q1)
abbrev rX7_greedy : Room := { frames := 5, cells := 0, slots := 0, locals := 114 }
theorem hyX7_greedy : yX7_greedy.cls = RX7 ∧ yX7_greedy.cls ≠ "java/lang/invoke/MethodHandle" ∧ yX7_greedy.cls ≠ "java/lang/invoke/VarHandle" ∧ (parseMethodDescriptor yX7_greedy.desc).map (fun d => d.parameters.length) = some 0 := by decide +kernel
theorem kX7_greedy_1 : (Cond.fieldLink RX7 28 "LinenTunnel" "waiting" "LLinenTunnel$Waiting;" : Cond) ∈ wsX7_greedy := List.mem_of_getElem? (i := 1) rfl
theorem uX7_greedy_7 : ∀ w ∈ u_ws RX7 TX7 7, w ∈ wsX7_greedy := fun _ h => (List.mem_cons_of_mem _ (List.mem_append_left _ (List.mem_append_left _ (List.mem_append_left _ (List.mem_append_right _ h)))))
set_option maxRecDepth 100000 in
set_option maxHeartbeats 4000000 in
theorem mX7_greedy {l : Launch} {D : va_G} {cI : ClassId} {a : Nat → Nat} (hJ : mm_J 59 a) {F : Nat} {σ : mm_M} {res : Int32 × mm_M} (h : fX7_greedy F σ = some res) (sz : Nat) : Met l yX7_greedy wsX7_greedy rX7_greedy (dP D cI a σ [.ref (a 0)] sz) (dQi D cI a res.1 res.2 sz) 0 0 (mm_A 59 a sz) := by
  refine mm_met (fun sz => dQi D cI a res.1 res.2 sz) (lv := [(0, .ref (a 0))]) (ret := (some .int)) (cc := cX7_greedy) (maxL := 1) (own := RX7) hJ (by decide +kernel) rfl rfl (Nat.le_of_ble_eq_true rfl) rfl ?_ sz
  intro K hL X hQ
  unfold fX7_greedy at h
  refine mm_aload_n X dX7_greedy_0 0 rfl ?_
  refine mm_get X dX7_greedy_1 0 2 (by decide) dv_cf_0 rfl (by decide) uX7_greedy_7 kX7_greedy_1 rfl (v := .ref (a 3)) rfl ?_
  obtain ⟨q1, hq1, h⟩ := Option.bind_eq_some_iff.mp h
  refine mm_callVv X dX7_greedy_4 (As := []) (rest := []) 3 (by decide) dv_cf_3 rfl hL (mX6_orderByNext hJ hq1) gX7_greedy_X6_orderByNext rfl ⟨rfl, rfl⟩ hyX6_orderByNext ⟨Nat.le_of_ble_eq_true rfl, Nat.le_of_ble_eq_true rfl⟩ rfl (Nat.le_of_ble_eq_true rfl) ?_
  refine mm_aload_n X dX7_greedy_7 0 rfl ?_
  refine mm_get X dX7_greedy_8 0 2 (by decide) dv_cf_0 rfl (by decide) uX7_greedy_7 kX7_greedy_1 rfl (v := .ref (a 3)) rfl ?_
  obtain ⟨q2, hq2, h⟩ := Option.bind_eq_some_iff.mp h
  refine mm_callVi X dX7_greedy_11 (As := []) (rest := []) 3 (by decide) dv_cf_3 rfl hL (mX6_gapsInOrder hJ hq2) gX7_greedy_X6_gapsInOrder rfl ⟨rfl, rfl⟩ hyX6_gapsInOrder ⟨Nat.le_of_ble_eq_true rfl, Nat.le_of_ble_eq_true rfl⟩ rfl (Nat.le_of_ble_eq_true rfl) ?_
  obtain rfl := Option.some.inj h
  exact mm_iret X dX7_greedy_14 rfl hQ rfl
/-! LinenTunnel.tunnel -/
def fX7_tunnel (σ : mm_M) (p1 p2 p3 : Int32) : Int32 × mm_M := (if (fX7_within p1 (2 : Int32) (10 : Int32)) = 0 then ((-2 : Int32), σ) else (if (fX7_within p2 (1 : Int32) (4 : Int32)) = 0 then ((-2 : Int32), σ) else (if (fX7_within p3 (1 : Int32) (3 : Int32)) = 0 then ((-2 : Int32), σ) else ((1 : Int32), (mm_up (mm_up (mm_up σ 5 2 p1) 5 3 p2) 5 4 p3)))))
abbrev rX7_tunnel : Room := { frames := 1, cells := 0, slots := 0, locals := 22 }
theorem hyX7_tunnel : yX7_tunnel.cls = RX7 ∧ yX7_tunnel.cls ≠ "java/lang/invoke/MethodHandle" ∧ yX7_tunnel.cls ≠ "java/lang/invoke/VarHandle" ∧ (parseMethodDescriptor yX7_tunnel.desc).map (fun d => d.parameters.length) = some 3 := by decide +kernel
theorem kX7_tunnel_1 : (Cond.fieldLink RX7 46 "LinenTunnel" "house" "LLinenTunnel$House;" : Cond) ∈ wsX7_tunnel := List.mem_of_getElem? (i := 1) rfl
theorem uX7_tunnel_7 : ∀ w ∈ u_ws RX7 TX7 7, w ∈ wsX7_tunnel := fun _ h => (List.mem_cons_of_mem _ (List.mem_append_left _ (List.mem_append_right _ h)))
theorem uX7_tunnel_0 : ∀ w ∈ u_ws RX0 TX0 16, w ∈ wsX7_tunnel := fun _ h => (List.mem_cons_of_mem _ (List.mem_append_right _ h))
set_option maxRecDepth 100000 in
set_option maxHeartbeats 4000000 in
theorem mX7_tunnel {l : Launch} {D : va_G} {cI : ClassId} {a : Nat → Nat} (hJ : mm_J 59 a) {σ : mm_M} {p1 p2 p3 : Int32} {res : Int32 × mm_M} (h : fX7_tunnel σ p1 p2 p3 = res) (sz : Nat) : Met l yX7_tunnel wsX7_tunnel rX7_tunnel (dP D cI a σ [.ref (a 0), .int p1, .int p2, .int p3] sz) (dQi D cI a res.1 res.2 sz) 0 0 (mm_A 59 a sz) := by
  refine mm_met (fun sz => dQi D cI a res.1 res.2 sz) (lv := [(0, .ref (a 0)), (1, .int p1), (2, .int p2), (3, .int p3)]) (ret := (some .int)) (cc := cX7_tunnel) (maxL := 4) (own := RX7) hJ (by decide +kernel) rfl rfl (Nat.le_of_ble_eq_true rfl) rfl ?_ sz
  intro K hL X hQ
  unfold fX7_tunnel at h
  refine mm_iload_n X dX7_tunnel_0 1 rfl ?_
  refine mm_iconst X dX7_tunnel_1 (v := 2) (by decide) ?_
  refine mm_bipush X dX7_tunnel_2 (v := 10) (by decide) ?_
  refine mm_callSi X dX7_tunnel_4 (As := [.int p1, .int (2 : Int32), .int (10 : Int32)]) (rest := []) hL (mX7_within hJ (res := fX7_within p1 (2 : Int32) (10 : Int32)) rfl) gX7_tunnel_X7_within rfl ⟨rfl, rfl⟩ hyX7_within ⟨Nat.le_of_ble_eq_true rfl, Nat.le_of_ble_eq_true rfl⟩ rfl (Nat.le_of_ble_eq_true rfl) ?_
  refine mm_if_eq X dX7_tunnel_7 (tgt := 28) (by decide) (fun c1 => ?_) (fun c1 => ?_)
  · have h := (if_pos c1).symm.trans h
    refine mm_bipush X dX7_tunnel_28 (v := -2) (by decide) ?_
    subst h
    exact mm_iret X dX7_tunnel_30 rfl hQ rfl
  · have h := (if_neg c1).symm.trans h
    refine mm_iload_n X dX7_tunnel_10 2 rfl ?_
    refine mm_iconst X dX7_tunnel_11 (v := 1) (by decide) ?_
    refine mm_iconst X dX7_tunnel_12 (v := 4) (by decide) ?_
    refine mm_callSi X dX7_tunnel_13 (As := [.int p2, .int (1 : Int32), .int (4 : Int32)]) (rest := []) hL (mX7_within hJ (res := fX7_within p2 (1 : Int32) (4 : Int32)) rfl) gX7_tunnel_X7_within rfl ⟨rfl, rfl⟩ hyX7_within ⟨Nat.le_of_ble_eq_true rfl, Nat.le_of_ble_eq_true rfl⟩ rfl (Nat.le_of_ble_eq_true rfl) ?_
    refine mm_if_eq X dX7_tunnel_16 (tgt := 28) (by decide) (fun c2 => ?_) (fun c2 => ?_)
    · have h := (if_pos c2).symm.trans h
      refine mm_bipush X dX7_tunnel_28 (v := -2) (by decide) ?_
      subst h
      exact mm_iret X dX7_tunnel_30 rfl hQ rfl
    · have h := (if_neg c2).symm.trans h
      refine mm_iload_n X dX7_tunnel_19 3 rfl ?_
      refine mm_iconst X dX7_tunnel_20 (v := 1) (by decide) ?_
      refine mm_iconst X dX7_tunnel_21 (v := 3) (by decide) ?_
      refine mm_callSi X dX7_tunnel_22 (As := [.int p3, .int (1 : Int32), .int (3 : Int32)]) (rest := []) hL (mX7_within hJ (res := fX7_within p3 (1 : Int32) (3 : Int32)) rfl) gX7_tunnel_X7_within rfl ⟨rfl, rfl⟩ hyX7_within ⟨Nat.le_of_ble_eq_true rfl, Nat.le_of_ble_eq_true rfl⟩ rfl (Nat.le_of_ble_eq_true rfl) ?_
      refine mm_if_ne X dX7_tunnel_25 (tgt := 31) (by decide) (fun c3 => ?_) (fun c3 => ?_)
      · have h := (if_neg c3).symm.trans h
        refine mm_aload_n X dX7_tunnel_31 0 rfl ?_
        refine mm_get X dX7_tunnel_32 0 4 (by decide) dv_cf_0 rfl (by decide) uX7_tunnel_7 kX7_tunnel_1 rfl (v := .ref (a 5)) rfl ?_
        refine mm_iload_n X dX7_tunnel_35 1 rfl ?_
        refine mm_putN X dX7_tunnel_36 5 2 (by decide) tyX0 tyX0_ok nmX0 dv_cf_5 rfl rfl (by decide) uX7_tunnel_0 (List.mem_of_getElem? (i := 21) rfl) rfl rfl rfl (Nat.le_of_ble_eq_true rfl) ?_
        refine mm_aload_n X dX7_tunnel_39 0 rfl ?_
        refine mm_get X dX7_tunnel_40 0 4 (by decide) dv_cf_0 rfl (by decide) uX7_tunnel_7 kX7_tunnel_1 rfl (v := .ref (a 5)) rfl ?_
        refine mm_iload_n X dX7_tunnel_43 2 rfl ?_
        refine mm_putN X dX7_tunnel_44 5 3 (by decide) tyX0 tyX0_ok nmX0 dv_cf_5 rfl rfl (by decide) uX7_tunnel_0 (List.mem_of_getElem? (i := 22) rfl) rfl rfl rfl (Nat.le_of_ble_eq_true rfl) ?_
        refine mm_aload_n X dX7_tunnel_47 0 rfl ?_
        refine mm_get X dX7_tunnel_48 0 4 (by decide) dv_cf_0 rfl (by decide) uX7_tunnel_7 kX7_tunnel_1 rfl (v := .ref (a 5)) rfl ?_
        refine mm_iload_n X dX7_tunnel_51 3 rfl ?_
        refine mm_putN X dX7_tunnel_52 5 4 (by decide) tyX0 tyX0_ok nmX0 dv_cf_5 rfl rfl (by decide) uX7_tunnel_0 (List.mem_of_getElem? (i := 23) rfl) rfl rfl rfl (Nat.le_of_ble_eq_true rfl) ?_
        refine mm_iconst X dX7_tunnel_55 (v := 1) (by decide) ?_
        subst h
        exact mm_iret X dX7_tunnel_56 rfl hQ rfl
      · have h := (if_pos c3).symm.trans h
        refine mm_bipush X dX7_tunnel_28 (v := -2) (by decide) ?_
        subst h
        exact mm_iret X dX7_tunnel_30 rfl hQ rfl
/-! LinenTunnel$House.clear -/
def fX0_clear (σ : mm_M) : mm_M := (dr_fl (dr_fl (dr_fl (dr_fl (dr_fl (mm_up (mm_up (mm_up σ 5 6 (0 : Int32)) 5 7 (0 : Int32)) 5 8 (0 : Int32)) 29 (0 : Int32)) 28 (-1 : Int32)) 24 (-1 : Int32)) 25 (0 : Int32)) 26 (0 : Int32))
abbrev rX0_clear : Room := { frames := 1, cells := 0, slots := 0, locals := 22 }
theorem hyX0_clear : yX0_clear.cls = RX0 ∧ yX0_clear.cls ≠ "java/lang/invoke/MethodHandle" ∧ yX0_clear.cls ≠ "java/lang/invoke/VarHandle" ∧ (parseMethodDescriptor yX0_clear.desc).map (fun d => d.parameters.length) = some 0 := by decide +kernel
theorem kX0_clear_1 : (Cond.fieldLink RX0 24 "LinenTunnel$House" "slotNumber" "I" : Cond) ∈ wsX0_clear := List.mem_of_getElem? (i := 1) rfl
theorem uX0_clear_0 : ∀ w ∈ u_ws RX0 TX0 16, w ∈ wsX0_clear := fun _ h => (List.mem_cons_of_mem _ (List.mem_append_left _ (List.mem_append_right _ h)))
theorem kX0_clear_2 : (Cond.fieldLink RX0 27 "LinenTunnel$House" "nextSlot" "I" : Cond) ∈ wsX0_clear := List.mem_of_getElem? (i := 2) rfl
theorem kX0_clear_3 : (Cond.fieldLink RX0 30 "LinenTunnel$House" "gone" "I" : Cond) ∈ wsX0_clear := List.mem_of_getElem? (i := 3) rfl
theorem kX0_clear_4 : (Cond.fieldLink RX0 57 "LinenTunnel$House" "totals" "LLinenTunnel$Row;" : Cond) ∈ wsX0_clear := List.mem_of_getElem? (i := 4) rfl
theorem kX0_clear_5 : (Cond.fieldLink RX0 54 "LinenTunnel$House" "facts" "LLinenTunnel$Row;" : Cond) ∈ wsX0_clear := List.mem_of_getElem? (i := 5) rfl
theorem kX0_clear_6 : (Cond.fieldLink RX0 42 "LinenTunnel$House" "inside" "LLinenTunnel$Row;" : Cond) ∈ wsX0_clear := List.mem_of_getElem? (i := 6) rfl
theorem kX0_clear_7 : (Cond.fieldLink RX0 45 "LinenTunnel$House" "dryerTill" "LLinenTunnel$Row;" : Cond) ∈ wsX0_clear := List.mem_of_getElem? (i := 7) rfl
theorem kX0_clear_8 : (Cond.fieldLink RX0 48 "LinenTunnel$House" "ironTill" "LLinenTunnel$Row;" : Cond) ∈ wsX0_clear := List.mem_of_getElem? (i := 8) rfl
set_option maxRecDepth 100000 in
set_option maxHeartbeats 4000000 in
theorem mX0_clear {l : Launch} {D : va_G} {cI : ClassId} {a : Nat → Nat} (hJ : mm_J 59 a) {σ : mm_M} {res : mm_M} (h : fX0_clear σ = res) (sz : Nat) : Met l yX0_clear wsX0_clear rX0_clear (dP D cI a σ [.ref (a 5)] sz) (dQv D cI a res sz) 0 0 (mm_A 59 a sz) := by
  refine mm_met (fun sz => dQv D cI a res sz) (lv := [(0, .ref (a 5))]) (ret := none) (cc := cX0_clear) (maxL := 1) (own := RX0) hJ (by decide +kernel) rfl rfl (Nat.le_of_ble_eq_true rfl) rfl ?_ sz
  intro K hL X hQ
  unfold fX0_clear at h
  refine mm_aload_n X dX0_clear_0 0 rfl ?_
  refine mm_iconst X dX0_clear_1 (v := 0) (by decide) ?_
  refine mm_put X dX0_clear_2 5 6 (by decide) tyX0 tyX0_ok nmX0 dv_cf_5 rfl rfl (by decide) uX0_clear_0 kX0_clear_1 rfl rfl rfl (Nat.le_of_ble_eq_true rfl) ?_
  refine mm_aload_n X dX0_clear_5 0 rfl ?_
  refine mm_iconst X dX0_clear_6 (v := 0) (by decide) ?_
  refine mm_put X dX0_clear_7 5 7 (by decide) tyX0 tyX0_ok nmX0 dv_cf_5 rfl rfl (by decide) uX0_clear_0 kX0_clear_2 rfl rfl rfl (Nat.le_of_ble_eq_true rfl) ?_
  refine mm_aload_n X dX0_clear_10 0 rfl ?_
  refine mm_iconst X dX0_clear_11 (v := 0) (by decide) ?_
  refine mm_put X dX0_clear_12 5 8 (by decide) tyX0 tyX0_ok nmX0 dv_cf_5 rfl rfl (by decide) uX0_clear_0 kX0_clear_3 rfl rfl rfl (Nat.le_of_ble_eq_true rfl) ?_
  refine mm_aload_n X dX0_clear_15 0 rfl ?_
  refine mm_get X dX0_clear_16 5 15 (by decide) dv_cf_5 rfl (by decide) uX0_clear_0 kX0_clear_4 rfl (v := .ref (a 55)) rfl ?_
  refine mm_iconst X dX0_clear_19 (v := 0) (by decide) ?_
  refine mm_callVv X dX0_clear_20 (As := [.int (0 : Int32)]) (rest := []) 55 (by decide) (dv_cf_row (j := 29) (by decide)) rfl hL (mX4_fill hJ (j := 29) (by decide) (by decide) (res := dr_fl (mm_up (mm_up (mm_up σ 5 6 (0 : Int32)) 5 7 (0 : Int32)) 5 8 (0 : Int32)) 29 (0 : Int32)) rfl) gX0_clear_X4_fill rfl ⟨rfl, rfl⟩ hyX4_fill ⟨Nat.le_of_ble_eq_true rfl, Nat.le_of_ble_eq_true rfl⟩ rfl (Nat.le_of_ble_eq_true rfl) ?_
  refine mm_aload_n X dX0_clear_23 0 rfl ?_
  refine mm_get X dX0_clear_24 5 14 (by decide) dv_cf_5 rfl (by decide) uX0_clear_0 kX0_clear_5 rfl (v := .ref (a 54)) rfl ?_
  refine mm_iconst X dX0_clear_27 (v := -1) (by decide) ?_
  refine mm_callVv X dX0_clear_28 (As := [.int (-1 : Int32)]) (rest := []) 54 (by decide) (dv_cf_row (j := 28) (by decide)) rfl hL (mX4_fill hJ (j := 28) (by decide) (by decide) (res := dr_fl (dr_fl (mm_up (mm_up (mm_up σ 5 6 (0 : Int32)) 5 7 (0 : Int32)) 5 8 (0 : Int32)) 29 (0 : Int32)) 28 (-1 : Int32)) rfl) gX0_clear_X4_fill rfl ⟨rfl, rfl⟩ hyX4_fill ⟨Nat.le_of_ble_eq_true rfl, Nat.le_of_ble_eq_true rfl⟩ rfl (Nat.le_of_ble_eq_true rfl) ?_
  refine mm_aload_n X dX0_clear_31 0 rfl ?_
  refine mm_get X dX0_clear_32 5 10 (by decide) dv_cf_5 rfl (by decide) uX0_clear_0 kX0_clear_6 rfl (v := .ref (a 50)) rfl ?_
  refine mm_iconst X dX0_clear_35 (v := -1) (by decide) ?_
  refine mm_callVv X dX0_clear_36 (As := [.int (-1 : Int32)]) (rest := []) 50 (by decide) (dv_cf_row (j := 24) (by decide)) rfl hL (mX4_fill hJ (j := 24) (by decide) (by decide) (res := dr_fl (dr_fl (dr_fl (mm_up (mm_up (mm_up σ 5 6 (0 : Int32)) 5 7 (0 : Int32)) 5 8 (0 : Int32)) 29 (0 : Int32)) 28 (-1 : Int32)) 24 (-1 : Int32)) rfl) gX0_clear_X4_fill rfl ⟨rfl, rfl⟩ hyX4_fill ⟨Nat.le_of_ble_eq_true rfl, Nat.le_of_ble_eq_true rfl⟩ rfl (Nat.le_of_ble_eq_true rfl) ?_
  refine mm_aload_n X dX0_clear_39 0 rfl ?_
  refine mm_get X dX0_clear_40 5 11 (by decide) dv_cf_5 rfl (by decide) uX0_clear_0 kX0_clear_7 rfl (v := .ref (a 51)) rfl ?_
  refine mm_iconst X dX0_clear_43 (v := 0) (by decide) ?_
  refine mm_callVv X dX0_clear_44 (As := [.int (0 : Int32)]) (rest := []) 51 (by decide) (dv_cf_row (j := 25) (by decide)) rfl hL (mX4_fill hJ (j := 25) (by decide) (by decide) (res := dr_fl (dr_fl (dr_fl (dr_fl (mm_up (mm_up (mm_up σ 5 6 (0 : Int32)) 5 7 (0 : Int32)) 5 8 (0 : Int32)) 29 (0 : Int32)) 28 (-1 : Int32)) 24 (-1 : Int32)) 25 (0 : Int32)) rfl) gX0_clear_X4_fill rfl ⟨rfl, rfl⟩ hyX4_fill ⟨Nat.le_of_ble_eq_true rfl, Nat.le_of_ble_eq_true rfl⟩ rfl (Nat.le_of_ble_eq_true rfl) ?_
  refine mm_aload_n X dX0_clear_47 0 rfl ?_
  refine mm_get X dX0_clear_48 5 12 (by decide) dv_cf_5 rfl (by decide) uX0_clear_0 kX0_clear_8 rfl (v := .ref (a 52)) rfl ?_
  refine mm_iconst X dX0_clear_51 (v := 0) (by decide) ?_
  refine mm_callVv X dX0_clear_52 (As := [.int (0 : Int32)]) (rest := []) 52 (by decide) (dv_cf_row (j := 26) (by decide)) rfl hL (mX4_fill hJ (j := 26) (by decide) (by decide) (res := dr_fl (dr_fl (dr_fl (dr_fl (dr_fl (mm_up (mm_up (mm_up σ 5 6 (0 : Int32)) 5 7 (0 : Int32)) 5 8 (0 : Int32)) 29 (0 : Int32)) 28 (-1 : Int32)) 24 (-1 : Int32)) 25 (0 : Int32)) 26 (0 : Int32)) rfl) gX0_clear_X4_fill rfl ⟨rfl, rfl⟩ hyX4_fill ⟨Nat.le_of_ble_eq_true rfl, Nat.le_of_ble_eq_true rfl⟩ rfl (Nat.le_of_ble_eq_true rfl) ?_
  subst h
  exact mm_vret X dX0_clear_55 rfl hQ
/-! LinenTunnel$House.addSlot -/
def fX0_addSlot (σ : mm_M) (p1 : Int32) : mm_M := (mm_up (dr_wr σ 23 (σ 5 6) p1) 5 6 ((σ 5 6) + (1 : Int32)))
abbrev rX0_addSlot : Room := { frames := 1, cells := 0, slots := 0, locals := 22 }
theorem hyX0_addSlot : yX0_addSlot.cls = RX0 ∧ yX0_addSlot.cls ≠ "java/lang/invoke/MethodHandle" ∧ yX0_addSlot.cls ≠ "java/lang/invoke/VarHandle" ∧ (parseMethodDescriptor yX0_addSlot.desc).map (fun d => d.parameters.length) = some 1 := by decide +kernel
theorem kX0_addSlot_1 : (Cond.fieldLink RX0 38 "LinenTunnel$House" "slots" "LLinenTunnel$Row;" : Cond) ∈ wsX0_addSlot := List.mem_of_getElem? (i := 1) rfl
theorem uX0_addSlot_0 : ∀ w ∈ u_ws RX0 TX0 16, w ∈ wsX0_addSlot := fun _ h => (List.mem_cons_of_mem _ (List.mem_append_left _ (List.mem_append_right _ h)))
theorem kX0_addSlot_2 : (Cond.fieldLink RX0 24 "LinenTunnel$House" "slotNumber" "I" : Cond) ∈ wsX0_addSlot := List.mem_of_getElem? (i := 2) rfl
set_option maxRecDepth 100000 in
set_option maxHeartbeats 4000000 in
theorem mX0_addSlot {l : Launch} {D : va_G} {cI : ClassId} {a : Nat → Nat} (hJ : mm_J 59 a) {σ : mm_M} {p1 : Int32} {res : mm_M} (h : fX0_addSlot σ p1 = res) (sz : Nat) : Met l yX0_addSlot wsX0_addSlot rX0_addSlot (dP D cI a σ [.ref (a 5), .int p1] sz) (dQv D cI a res sz) 0 0 (mm_A 59 a sz) := by
  refine mm_met (fun sz => dQv D cI a res sz) (lv := [(0, .ref (a 5)), (1, .int p1)]) (ret := none) (cc := cX0_addSlot) (maxL := 2) (own := RX0) hJ (by decide +kernel) rfl rfl (Nat.le_of_ble_eq_true rfl) rfl ?_ sz
  intro K hL X hQ
  unfold fX0_addSlot at h
  refine mm_aload_n X dX0_addSlot_0 0 rfl ?_
  refine mm_get X dX0_addSlot_1 5 9 (by decide) dv_cf_5 rfl (by decide) uX0_addSlot_0 kX0_addSlot_1 rfl (v := .ref (a 49)) rfl ?_
  refine mm_aload_n X dX0_addSlot_4 0 rfl ?_
  refine mm_get X dX0_addSlot_5 5 6 (by decide) dv_cf_5 rfl (by decide) uX0_addSlot_0 kX0_addSlot_2 rfl (v := .int (σ 5 6)) rfl ?_
  refine mm_iload_n X dX0_addSlot_8 1 rfl ?_
  refine mm_callVv X dX0_addSlot_9 (As := [.int (σ 5 6), .int p1]) (rest := []) 49 (by decide) (dv_cf_row (j := 23) (by decide)) rfl hL (mX4_write hJ (j := 23) (by decide) (by decide) (res := dr_wr σ 23 (σ 5 6) p1) rfl) gX0_addSlot_X4_write rfl ⟨rfl, rfl⟩ hyX4_write ⟨Nat.le_of_ble_eq_true rfl, Nat.le_of_ble_eq_true rfl⟩ rfl (Nat.le_of_ble_eq_true rfl) ?_
  refine mm_aload_n X dX0_addSlot_12 0 rfl ?_
  refine mm_dup X dX0_addSlot_13 rfl ?_
  refine mm_get X dX0_addSlot_14 5 6 (by decide) dv_cf_5 rfl (by decide) uX0_addSlot_0 kX0_addSlot_2 rfl (v := .int (σ 5 6)) rfl ?_
  refine mm_iconst X dX0_addSlot_17 (v := 1) (by decide) ?_
  refine mm_iadd X dX0_addSlot_18 ?_
  refine mm_put X dX0_addSlot_19 5 6 (by decide) tyX0 tyX0_ok nmX0 dv_cf_5 rfl rfl (by decide) uX0_addSlot_0 kX0_addSlot_2 rfl rfl rfl (Nat.le_of_ble_eq_true rfl) ?_
  subst h
  exact mm_vret X dX0_addSlot_22 rfl hQ
/-! LinenTunnel$House.note -/
def fX0_note (σ : mm_M) (p1 p2 p3 : Int32) : mm_M := (dr_wr σ 28 ((p1 * (7 : Int32)) + p2) p3)
abbrev rX0_note : Room := { frames := 1, cells := 0, slots := 0, locals := 22 }
theorem hyX0_note : yX0_note.cls = RX0 ∧ yX0_note.cls ≠ "java/lang/invoke/MethodHandle" ∧ yX0_note.cls ≠ "java/lang/invoke/VarHandle" ∧ (parseMethodDescriptor yX0_note.desc).map (fun d => d.parameters.length) = some 3 := by decide +kernel
theorem kX0_note_1 : (Cond.fieldLink RX0 54 "LinenTunnel$House" "facts" "LLinenTunnel$Row;" : Cond) ∈ wsX0_note := List.mem_of_getElem? (i := 1) rfl
theorem uX0_note_0 : ∀ w ∈ u_ws RX0 TX0 16, w ∈ wsX0_note := fun _ h => (List.mem_cons_of_mem _ (List.mem_append_left _ (List.mem_append_right _ h)))
set_option maxRecDepth 100000 in
set_option maxHeartbeats 4000000 in
theorem mX0_note {l : Launch} {D : va_G} {cI : ClassId} {a : Nat → Nat} (hJ : mm_J 59 a) {σ : mm_M} {p1 p2 p3 : Int32} {res : mm_M} (h : fX0_note σ p1 p2 p3 = res) (sz : Nat) : Met l yX0_note wsX0_note rX0_note (dP D cI a σ [.ref (a 5), .int p1, .int p2, .int p3] sz) (dQv D cI a res sz) 0 0 (mm_A 59 a sz) := by
  refine mm_met (fun sz => dQv D cI a res sz) (lv := [(0, .ref (a 5)), (1, .int p1), (2, .int p2), (3, .int p3)]) (ret := none) (cc := cX0_note) (maxL := 4) (own := RX0) hJ (by decide +kernel) rfl rfl (Nat.le_of_ble_eq_true rfl) rfl ?_ sz
  intro K hL X hQ
  unfold fX0_note at h
  refine mm_aload_n X dX0_note_0 0 rfl ?_
  refine mm_get X dX0_note_1 5 14 (by decide) dv_cf_5 rfl (by decide) uX0_note_0 kX0_note_1 rfl (v := .ref (a 54)) rfl ?_
  refine mm_iload_n X dX0_note_4 1 rfl ?_
  refine mm_bipush X dX0_note_5 (v := 7) (by decide) ?_
  refine mm_imul X dX0_note_7 ?_
  refine mm_iload_n X dX0_note_8 2 rfl ?_
  refine mm_iadd X dX0_note_9 ?_
  refine mm_iload_n X dX0_note_10 3 rfl ?_
  refine mm_callVv X dX0_note_11 (As := [.int ((p1 * (7 : Int32)) + p2), .int p3]) (rest := []) 54 (by decide) (dv_cf_row (j := 28) (by decide)) rfl hL (mX4_write hJ (j := 28) (by decide) (by decide) (res := dr_wr σ 28 ((p1 * (7 : Int32)) + p2) p3) rfl) gX0_note_X4_write rfl ⟨rfl, rfl⟩ hyX4_write ⟨Nat.le_of_ble_eq_true rfl, Nat.le_of_ble_eq_true rfl⟩ rfl (Nat.le_of_ble_eq_true rfl) ?_
  subst h
  exact mm_vret X dX0_note_14 rfl hQ
/-! LinenTunnel$House.addTotal -/
def fX0_addTotal (σ : mm_M) (p1 p2 : Int32) : mm_M := (dr_wr σ 29 p1 ((dr_rd σ 29 p1) + p2))
abbrev rX0_addTotal : Room := { frames := 1, cells := 0, slots := 0, locals := 22 }
theorem hyX0_addTotal : yX0_addTotal.cls = RX0 ∧ yX0_addTotal.cls ≠ "java/lang/invoke/MethodHandle" ∧ yX0_addTotal.cls ≠ "java/lang/invoke/VarHandle" ∧ (parseMethodDescriptor yX0_addTotal.desc).map (fun d => d.parameters.length) = some 2 := by decide +kernel
theorem kX0_addTotal_1 : (Cond.fieldLink RX0 57 "LinenTunnel$House" "totals" "LLinenTunnel$Row;" : Cond) ∈ wsX0_addTotal := List.mem_of_getElem? (i := 1) rfl
theorem uX0_addTotal_0 : ∀ w ∈ u_ws RX0 TX0 16, w ∈ wsX0_addTotal := fun _ h => (List.mem_cons_of_mem _ (List.mem_append_left _ (List.mem_append_right _ h)))
set_option maxRecDepth 100000 in
set_option maxHeartbeats 4000000 in
theorem mX0_addTotal {l : Launch} {D : va_G} {cI : ClassId} {a : Nat → Nat} (hJ : mm_J 59 a) {σ : mm_M} {p1 p2 : Int32} {res : mm_M} (h : fX0_addTotal σ p1 p2 = res) (sz : Nat) : Met l yX0_addTotal wsX0_addTotal rX0_addTotal (dP D cI a σ [.ref (a 5), .int p1, .int p2] sz) (dQv D cI a res sz) 0 0 (mm_A 59 a sz) := by
  refine mm_met (fun sz => dQv D cI a res sz) (lv := [(0, .ref (a 5)), (1, .int p1), (2, .int p2)]) (ret := none) (cc := cX0_addTotal) (maxL := 3) (own := RX0) hJ (by decide +kernel) rfl rfl (Nat.le_of_ble_eq_true rfl) rfl ?_ sz
  intro K hL X hQ
  unfold fX0_addTotal at h
  refine mm_aload_n X dX0_addTotal_0 0 rfl ?_
  refine mm_get X dX0_addTotal_1 5 15 (by decide) dv_cf_5 rfl (by decide) uX0_addTotal_0 kX0_addTotal_1 rfl (v := .ref (a 55)) rfl ?_
  refine mm_iload_n X dX0_addTotal_4 1 rfl ?_
  refine mm_aload_n X dX0_addTotal_5 0 rfl ?_
  refine mm_get X dX0_addTotal_6 5 15 (by decide) dv_cf_5 rfl (by decide) uX0_addTotal_0 kX0_addTotal_1 rfl (v := .ref (a 55)) rfl ?_
  refine mm_iload_n X dX0_addTotal_9 1 rfl ?_
  refine mm_callVi X dX0_addTotal_10 (As := [.int p1]) (rest := [.int p1, .ref (a 55)]) 55 (by decide) (dv_cf_row (j := 29) (by decide)) rfl hL (mX4_read hJ (j := 29) (by decide) (by decide) (res := (dr_rd σ 29 p1)) rfl) gX0_addTotal_X4_read rfl ⟨rfl, rfl⟩ hyX4_read ⟨Nat.le_of_ble_eq_true rfl, Nat.le_of_ble_eq_true rfl⟩ rfl (Nat.le_of_ble_eq_true rfl) ?_
  refine mm_iload_n X dX0_addTotal_13 2 rfl ?_
  refine mm_iadd X dX0_addTotal_14 ?_
  refine mm_callVv X dX0_addTotal_15 (As := [.int p1, .int ((dr_rd σ 29 p1) + p2)]) (rest := []) 55 (by decide) (dv_cf_row (j := 29) (by decide)) rfl hL (mX4_write hJ (j := 29) (by decide) (by decide) (res := dr_wr σ 29 p1 ((dr_rd σ 29 p1) + p2)) rfl) gX0_addTotal_X4_write rfl ⟨rfl, rfl⟩ hyX4_write ⟨Nat.le_of_ble_eq_true rfl, Nat.le_of_ble_eq_true rfl⟩ rfl (Nat.le_of_ble_eq_true rfl) ?_
  subst h
  exact mm_vret X dX0_addTotal_18 rfl hQ
/-! LinenTunnel$House.lineUp -/
def fX0_lineUp_37 (F : Nat) (l1 : Int32) (l2 : Int32) (l3 : Int32) (l4 : Int32) : Nat → Int32 → mm_M → Option (mm_M)
  | 0, _, _ => none
  | k + 1, l5, σ => (if l5 < l4 then fX0_lineUp_37 F l1 l2 l3 l4 k (l5 + 1) (fX0_addSlot σ (-1 : Int32)) else some (σ))
def fX0_lineUp (F : Nat) (σ : mm_M) (p1 : Int32) : Option (mm_M) := (fX0_lineUp_37 F p1 (dr_rd σ 20 p1) (dr_rd σ 19 (dr_rd σ 20 p1)) (fX6_gapAhead σ p1) F (0 : Int32) σ).bind fun q1 => some (fX0_addTotal (fX0_addTotal (fX0_addTotal (dr_wr (fX0_note (fX0_addSlot q1 p1) p1 (0 : Int32) (dr_rd (fX0_addSlot q1 p1) 18 (dr_rd σ 20 p1))) 27 p1 (dr_rd σ 19 (dr_rd σ 20 p1))) (1 : Int32) (fX6_gapAhead σ p1)) (5 : Int32) (1 : Int32)) (6 : Int32) (dr_rd σ 19 (dr_rd σ 20 p1)))
abbrev rX0_lineUp : Room := { frames := 4, cells := 0, slots := 0, locals := 87 }
theorem hyX0_lineUp : yX0_lineUp.cls = RX0 ∧ yX0_lineUp.cls ≠ "java/lang/invoke/MethodHandle" ∧ yX0_lineUp.cls ≠ "java/lang/invoke/VarHandle" ∧ (parseMethodDescriptor yX0_lineUp.desc).map (fun d => d.parameters.length) = some 1 := by decide +kernel
theorem kX0_lineUp_1 : (Cond.fieldLink RX0 64 "LinenTunnel$House" "waiting" "LLinenTunnel$Waiting;" : Cond) ∈ wsX0_lineUp := List.mem_of_getElem? (i := 1) rfl
theorem uX0_lineUp_0 : ∀ w ∈ u_ws RX0 TX0 16, w ∈ wsX0_lineUp := fun _ h => (List.mem_cons_of_mem _ (List.mem_append_left _ (List.mem_append_left _ (List.mem_append_left _ (List.mem_append_right _ h)))))
theorem uX0_lineUp_6 : ∀ w ∈ u_ws RX6 TX6 5, w ∈ wsX0_lineUp := fun _ h => (List.mem_cons_of_mem _ (List.mem_append_left _ (List.mem_append_left _ (List.mem_append_right _ h))))
theorem kX0_lineUp_2 : (Cond.fieldLink RX0 51 "LinenTunnel$House" "size" "LLinenTunnel$Row;" : Cond) ∈ wsX0_lineUp := List.mem_of_getElem? (i := 2) rfl
set_option maxRecDepth 100000 in
set_option maxHeartbeats 4000000 in
theorem tX0_lineUp_37 {l : Launch} {K : mm_K} {D : va_G} {cI : ClassId} {a : Nat → Nat} (X : dC K rX0_lineUp cX0_lineUp 6 none wsX0_lineUp RX0 D cI a) (hL : mm_L K l) (hJ : mm_J 59 a) {F : Nat} {l1 : Int32} {l2 : Int32} {l3 : Int32} {l4 : Int32} {out : mm_M} (hx : dG K D cI a out 55 [(0, .ref (a 5)), (1, .int l1), (2, .int l2), (3, .int l3), (4, .int l4)] []) : ∀ (k : Nat) (l5 : Int32) (σ : mm_M), fX0_lineUp_37 F l1 l2 l3 l4 k l5 σ = some out → dG K D cI a σ 37 [(0, .ref (a 5)), (1, .int l1), (2, .int l2), (3, .int l3), (4, .int l4), (5, .int l5)] [] := by
  intro k
  induction k with
  | zero =>
    intro l5 σ h
    have h : none = some out := h
    cases h
  | succ k ih =>
    intro l5 σ h
    rw [fX0_lineUp_37] at h
    refine mm_iload X dX0_lineUp_37 5 rfl ?_
    refine mm_iload X dX0_lineUp_39 4 rfl ?_
    refine mm_icmp_ge X dX0_lineUp_41 (tgt := 55) (by decide) (fun c1 => ?_) (fun c1 => ?_)
    · have h := (if_neg c1).symm.trans h
      obtain rfl := Option.some.inj h
      refine mm_loc [0, 1, 2, 3, 4] rfl ?_
      exact hx
    · have h := (if_pos c1).symm.trans h
      refine mm_aload_n X dX0_lineUp_44 0 rfl ?_
      refine mm_iconst X dX0_lineUp_45 (v := -1) (by decide) ?_
      refine mm_callVv X dX0_lineUp_46 (As := [.int (-1 : Int32)]) (rest := []) 5 (by decide) dv_cf_5 rfl hL (mX0_addSlot hJ (res := fX0_addSlot σ (-1 : Int32)) rfl) gX0_lineUp_X0_addSlot rfl ⟨rfl, rfl⟩ hyX0_addSlot ⟨Nat.le_of_ble_eq_true rfl, Nat.le_of_ble_eq_true rfl⟩ rfl (Nat.le_of_ble_eq_true rfl) ?_
      refine mm_iinc X dX0_lineUp_49 5 rfl (v := (l5 + 1)) rfl (by decide) (lv2 := [(5, .int (l5 + 1)), (0, .ref (a 5)), (1, .int l1), (2, .int l2), (3, .int l3), (4, .int l4)]) rfl ?_
      refine mm_goto X dX0_lineUp_52 (tgt := 37) (by decide) ?_
      refine mm_loc [1, 2, 3, 4, 5, 0] rfl ?_
      exact ih _ _ h
set_option maxRecDepth 100000 in
set_option maxHeartbeats 4000000 in
theorem mX0_lineUp {l : Launch} {D : va_G} {cI : ClassId} {a : Nat → Nat} (hJ : mm_J 59 a) {F : Nat} {σ : mm_M} {p1 : Int32} {res : mm_M} (h : fX0_lineUp F σ p1 = some res) (sz : Nat) : Met l yX0_lineUp wsX0_lineUp rX0_lineUp (dP D cI a σ [.ref (a 5), .int p1] sz) (dQv D cI a res sz) 0 0 (mm_A 59 a sz) := by
  refine mm_met (fun sz => dQv D cI a res sz) (lv := [(0, .ref (a 5)), (1, .int p1)]) (ret := none) (cc := cX0_lineUp) (maxL := 6) (own := RX0) hJ (by decide +kernel) rfl rfl (Nat.le_of_ble_eq_true rfl) rfl ?_ sz
  intro K hL X hQ
  unfold fX0_lineUp at h
  refine mm_aload_n X dX0_lineUp_0 0 rfl ?_
  refine mm_get X dX0_lineUp_1 5 1 (by decide) dv_cf_5 rfl (by decide) uX0_lineUp_0 kX0_lineUp_1 rfl (v := .ref (a 3)) rfl ?_
  refine mm_getN X dX0_lineUp_4 3 4 (by decide) dv_cf_3 rfl (by decide) uX0_lineUp_6 (List.mem_of_getElem? (i := 19) rfl) rfl (v := .ref (a 46)) rfl ?_
  refine mm_iload_n X dX0_lineUp_7 1 rfl ?_
  refine mm_callVi X dX0_lineUp_8 (As := [.int p1]) (rest := []) 46 (by decide) (dv_cf_row (j := 20) (by decide)) rfl hL (mX4_read hJ (j := 20) (by decide) (by decide) (res := (dr_rd σ 20 p1)) rfl) gX0_lineUp_X4_read rfl ⟨rfl, rfl⟩ hyX4_read ⟨Nat.le_of_ble_eq_true rfl, Nat.le_of_ble_eq_true rfl⟩ rfl (Nat.le_of_ble_eq_true rfl) ?_
  refine mm_istore_n X dX0_lineUp_11 (by decide) (lv2 := [(2, .int (dr_rd σ 20 p1)), (0, .ref (a 5)), (1, .int p1)]) rfl ?_
  refine mm_aload_n X dX0_lineUp_12 1 rfl ?_
  refine mm_get X dX0_lineUp_13 5 1 (by decide) dv_cf_5 rfl (by decide) uX0_lineUp_0 kX0_lineUp_1 rfl (v := .ref (a 3)) rfl ?_
  refine mm_getN X dX0_lineUp_16 3 3 (by decide) dv_cf_3 rfl (by decide) uX0_lineUp_6 (List.mem_of_getElem? (i := 16) rfl) rfl (v := .ref (a 45)) rfl ?_
  refine mm_iload_n X dX0_lineUp_19 0 rfl ?_
  refine mm_callVi X dX0_lineUp_20 (As := [.int (dr_rd σ 20 p1)]) (rest := []) 45 (by decide) (dv_cf_row (j := 19) (by decide)) rfl hL (mX4_read hJ (j := 19) (by decide) (by decide) (res := (dr_rd σ 19 (dr_rd σ 20 p1))) rfl) gX0_lineUp_X4_read rfl ⟨rfl, rfl⟩ hyX4_read ⟨Nat.le_of_ble_eq_true rfl, Nat.le_of_ble_eq_true rfl⟩ rfl (Nat.le_of_ble_eq_true rfl) ?_
  refine mm_istore_n X dX0_lineUp_23 (by decide) (lv2 := [(3, .int (dr_rd σ 19 (dr_rd σ 20 p1))), (2, .int (dr_rd σ 20 p1)), (0, .ref (a 5)), (1, .int p1)]) rfl ?_
  refine mm_aload_n X dX0_lineUp_24 2 rfl ?_
  refine mm_get X dX0_lineUp_25 5 1 (by decide) dv_cf_5 rfl (by decide) uX0_lineUp_0 kX0_lineUp_1 rfl (v := .ref (a 3)) rfl ?_
  refine mm_iload_n X dX0_lineUp_28 3 rfl ?_
  refine mm_callVi X dX0_lineUp_29 (As := [.int p1]) (rest := []) 3 (by decide) dv_cf_3 rfl hL (mX6_gapAhead hJ (res := fX6_gapAhead σ p1) rfl) gX0_lineUp_X6_gapAhead rfl ⟨rfl, rfl⟩ hyX6_gapAhead ⟨Nat.le_of_ble_eq_true rfl, Nat.le_of_ble_eq_true rfl⟩ rfl (Nat.le_of_ble_eq_true rfl) ?_
  refine mm_istore X dX0_lineUp_32 (by decide) (lv2 := [(4, .int (fX6_gapAhead σ p1)), (3, .int (dr_rd σ 19 (dr_rd σ 20 p1))), (2, .int (dr_rd σ 20 p1)), (0, .ref (a 5)), (1, .int p1)]) rfl ?_
  refine mm_iconst X dX0_lineUp_34 (v := 0) (by decide) ?_
  refine mm_istore X dX0_lineUp_35 (by decide) (lv2 := [(5, .int (0 : Int32)), (4, .int (fX6_gapAhead σ p1)), (3, .int (dr_rd σ 19 (dr_rd σ 20 p1))), (2, .int (dr_rd σ 20 p1)), (0, .ref (a 5)), (1, .int p1)]) rfl ?_
  obtain ⟨q1, hq1, h⟩ := Option.bind_eq_some_iff.mp h
  refine mm_loc [4, 5, 3, 2, 1, 0] rfl ?_
  refine tX0_lineUp_37 X hL hJ ?_ F (0 : Int32) σ hq1
  refine mm_aload_n X dX0_lineUp_55 0 rfl ?_
  refine mm_iload_n X dX0_lineUp_56 1 rfl ?_
  refine mm_callVv X dX0_lineUp_57 (As := [.int p1]) (rest := []) 5 (by decide) dv_cf_5 rfl hL (mX0_addSlot hJ (res := fX0_addSlot q1 p1) rfl) gX0_lineUp_X0_addSlot rfl ⟨rfl, rfl⟩ hyX0_addSlot ⟨Nat.le_of_ble_eq_true rfl, Nat.le_of_ble_eq_true rfl⟩ rfl (Nat.le_of_ble_eq_true rfl) ?_
  refine mm_aload_n X dX0_lineUp_60 0 rfl ?_
  refine mm_iload_n X dX0_lineUp_61 1 rfl ?_
  refine mm_iconst X dX0_lineUp_62 (v := 0) (by decide) ?_
  refine mm_aload_n X dX0_lineUp_63 0 rfl ?_
  refine mm_get X dX0_lineUp_64 5 1 (by decide) dv_cf_5 rfl (by decide) uX0_lineUp_0 kX0_lineUp_1 rfl (v := .ref (a 3)) rfl ?_
  refine mm_getN X dX0_lineUp_67 3 2 (by decide) dv_cf_3 rfl (by decide) uX0_lineUp_6 (List.mem_of_getElem? (i := 14) rfl) rfl (v := .ref (a 44)) rfl ?_
  refine mm_iload_n X dX0_lineUp_70 2 rfl ?_
  refine mm_callVi X dX0_lineUp_71 (As := [.int (dr_rd σ 20 p1)]) (rest := [.int (0 : Int32), .int p1, .ref (a 5)]) 44 (by decide) (dv_cf_row (j := 18) (by decide)) rfl hL (mX4_read hJ (j := 18) (by decide) (by decide) (res := (dr_rd (fX0_addSlot q1 p1) 18 (dr_rd σ 20 p1))) rfl) gX0_lineUp_X4_read rfl ⟨rfl, rfl⟩ hyX4_read ⟨Nat.le_of_ble_eq_true rfl, Nat.le_of_ble_eq_true rfl⟩ rfl (Nat.le_of_ble_eq_true rfl) ?_
  refine mm_callVv X dX0_lineUp_74 (As := [.int p1, .int (0 : Int32), .int (dr_rd (fX0_addSlot q1 p1) 18 (dr_rd σ 20 p1))]) (rest := []) 5 (by decide) dv_cf_5 rfl hL (mX0_note hJ (res := fX0_note (fX0_addSlot q1 p1) p1 (0 : Int32) (dr_rd (fX0_addSlot q1 p1) 18 (dr_rd σ 20 p1))) rfl) gX0_lineUp_X0_note rfl ⟨rfl, rfl⟩ hyX0_note ⟨Nat.le_of_ble_eq_true rfl, Nat.le_of_ble_eq_true rfl⟩ rfl (Nat.le_of_ble_eq_true rfl) ?_
  refine mm_aload_n X dX0_lineUp_77 0 rfl ?_
  refine mm_get X dX0_lineUp_78 5 13 (by decide) dv_cf_5 rfl (by decide) uX0_lineUp_0 kX0_lineUp_2 rfl (v := .ref (a 53)) rfl ?_
  refine mm_iload_n X dX0_lineUp_81 1 rfl ?_
  refine mm_iload_n X dX0_lineUp_82 3 rfl ?_
  refine mm_callVv X dX0_lineUp_83 (As := [.int p1, .int (dr_rd σ 19 (dr_rd σ 20 p1))]) (rest := []) 53 (by decide) (dv_cf_row (j := 27) (by decide)) rfl hL (mX4_write hJ (j := 27) (by decide) (by decide) (res := dr_wr (fX0_note (fX0_addSlot q1 p1) p1 (0 : Int32) (dr_rd (fX0_addSlot q1 p1) 18 (dr_rd σ 20 p1))) 27 p1 (dr_rd σ 19 (dr_rd σ 20 p1))) rfl) gX0_lineUp_X4_write rfl ⟨rfl, rfl⟩ hyX4_write ⟨Nat.le_of_ble_eq_true rfl, Nat.le_of_ble_eq_true rfl⟩ rfl (Nat.le_of_ble_eq_true rfl) ?_
  refine mm_aload_n X dX0_lineUp_86 0 rfl ?_
  refine mm_iconst X dX0_lineUp_87 (v := 1) (by decide) ?_
  refine mm_iload X dX0_lineUp_88 4 rfl ?_
  refine mm_callVv X dX0_lineUp_90 (As := [.int (1 : Int32), .int (fX6_gapAhead σ p1)]) (rest := []) 5 (by decide) dv_cf_5 rfl hL (mX0_addTotal hJ (res := fX0_addTotal (dr_wr (fX0_note (fX0_addSlot q1 p1) p1 (0 : Int32) (dr_rd (fX0_addSlot q1 p1) 18 (dr_rd σ 20 p1))) 27 p1 (dr_rd σ 19 (dr_rd σ 20 p1))) (1 : Int32) (fX6_gapAhead σ p1)) rfl) gX0_lineUp_X0_addTotal rfl ⟨rfl, rfl⟩ hyX0_addTotal ⟨Nat.le_of_ble_eq_true rfl, Nat.le_of_ble_eq_true rfl⟩ rfl (Nat.le_of_ble_eq_true rfl) ?_
  refine mm_aload_n X dX0_lineUp_93 0 rfl ?_
  refine mm_iconst X dX0_lineUp_94 (v := 5) (by decide) ?_
  refine mm_iconst X dX0_lineUp_95 (v := 1) (by decide) ?_
  refine mm_callVv X dX0_lineUp_96 (As := [.int (5 : Int32), .int (1 : Int32)]) (rest := []) 5 (by decide) dv_cf_5 rfl hL (mX0_addTotal hJ (res := fX0_addTotal (fX0_addTotal (dr_wr (fX0_note (fX0_addSlot q1 p1) p1 (0 : Int32) (dr_rd (fX0_addSlot q1 p1) 18 (dr_rd σ 20 p1))) 27 p1 (dr_rd σ 19 (dr_rd σ 20 p1))) (1 : Int32) (fX6_gapAhead σ p1)) (5 : Int32) (1 : Int32)) rfl) gX0_lineUp_X0_addTotal rfl ⟨rfl, rfl⟩ hyX0_addTotal ⟨Nat.le_of_ble_eq_true rfl, Nat.le_of_ble_eq_true rfl⟩ rfl (Nat.le_of_ble_eq_true rfl) ?_
  refine mm_aload_n X dX0_lineUp_99 0 rfl ?_
  refine mm_bipush X dX0_lineUp_100 (v := 6) (by decide) ?_
  refine mm_iload_n X dX0_lineUp_102 3 rfl ?_
  refine mm_callVv X dX0_lineUp_103 (As := [.int (6 : Int32), .int (dr_rd σ 19 (dr_rd σ 20 p1))]) (rest := []) 5 (by decide) dv_cf_5 rfl hL (mX0_addTotal hJ (res := fX0_addTotal (fX0_addTotal (fX0_addTotal (dr_wr (fX0_note (fX0_addSlot q1 p1) p1 (0 : Int32) (dr_rd (fX0_addSlot q1 p1) 18 (dr_rd σ 20 p1))) 27 p1 (dr_rd σ 19 (dr_rd σ 20 p1))) (1 : Int32) (fX6_gapAhead σ p1)) (5 : Int32) (1 : Int32)) (6 : Int32) (dr_rd σ 19 (dr_rd σ 20 p1))) rfl) gX0_lineUp_X0_addTotal rfl ⟨rfl, rfl⟩ hyX0_addTotal ⟨Nat.le_of_ble_eq_true rfl, Nat.le_of_ble_eq_true rfl⟩ rfl (Nat.le_of_ble_eq_true rfl) ?_
  obtain rfl := Option.some.inj h
  exact mm_vret X dX0_lineUp_106 rfl hQ
/-! LinenTunnel$House.fact -/
def fX0_fact (σ : mm_M) (p1 p2 : Int32) : Int32 := (dr_rd σ 28 ((p1 * (7 : Int32)) + p2))
abbrev rX0_fact : Room := { frames := 1, cells := 0, slots := 0, locals := 21 }
theorem hyX0_fact : yX0_fact.cls = RX0 ∧ yX0_fact.cls ≠ "java/lang/invoke/MethodHandle" ∧ yX0_fact.cls ≠ "java/lang/invoke/VarHandle" ∧ (parseMethodDescriptor yX0_fact.desc).map (fun d => d.parameters.length) = some 2 := by decide +kernel
theorem kX0_fact_1 : (Cond.fieldLink RX0 54 "LinenTunnel$House" "facts" "LLinenTunnel$Row;" : Cond) ∈ wsX0_fact := List.mem_of_getElem? (i := 1) rfl
theorem uX0_fact_0 : ∀ w ∈ u_ws RX0 TX0 16, w ∈ wsX0_fact := fun _ h => (List.mem_cons_of_mem _ (List.mem_append_left _ (List.mem_append_right _ h)))
set_option maxRecDepth 100000 in
set_option maxHeartbeats 4000000 in
theorem mX0_fact {l : Launch} {D : va_G} {cI : ClassId} {a : Nat → Nat} (hJ : mm_J 59 a) {σ : mm_M} {p1 p2 : Int32} {res : Int32} (h : fX0_fact σ p1 p2 = res) (sz : Nat) : Met l yX0_fact wsX0_fact rX0_fact (dP D cI a σ [.ref (a 5), .int p1, .int p2] sz) (dQi D cI a res σ sz) 0 0 (mm_A 59 a sz) := by
  refine mm_met (fun sz => dQi D cI a res σ sz) (lv := [(0, .ref (a 5)), (1, .int p1), (2, .int p2)]) (ret := (some .int)) (cc := cX0_fact) (maxL := 3) (own := RX0) hJ (by decide +kernel) rfl rfl (Nat.le_of_ble_eq_true rfl) rfl ?_ sz
  intro K hL X hQ
  unfold fX0_fact at h
  refine mm_aload_n X dX0_fact_0 0 rfl ?_
  refine mm_get X dX0_fact_1 5 14 (by decide) dv_cf_5 rfl (by decide) uX0_fact_0 kX0_fact_1 rfl (v := .ref (a 54)) rfl ?_
  refine mm_iload_n X dX0_fact_4 1 rfl ?_
  refine mm_bipush X dX0_fact_5 (v := 7) (by decide) ?_
  refine mm_imul X dX0_fact_7 ?_
  refine mm_iload_n X dX0_fact_8 2 rfl ?_
  refine mm_iadd X dX0_fact_9 ?_
  refine mm_callVi X dX0_fact_10 (As := [.int ((p1 * (7 : Int32)) + p2)]) (rest := []) 54 (by decide) (dv_cf_row (j := 28) (by decide)) rfl hL (mX4_read hJ (j := 28) (by decide) (by decide) (res := (dr_rd σ 28 ((p1 * (7 : Int32)) + p2))) rfl) gX0_fact_X4_read rfl ⟨rfl, rfl⟩ hyX4_read ⟨Nat.le_of_ble_eq_true rfl, Nat.le_of_ble_eq_true rfl⟩ rfl (Nat.le_of_ble_eq_true rfl) ?_
  subst h
  exact mm_iret X dX0_fact_13 rfl hQ rfl
/-! LinenTunnel$House.freeDryer -/
def fX0_freeDryer_2 (F : Nat) (σ : mm_M) (l1 : Int32) : Nat → Int32 → Option (Int32)
  | 0, _ => none
  | k + 1, l2 => (if l2 < (σ 5 3) then (if l1 < (dr_rd σ 25 l2) then fX0_freeDryer_2 F σ l1 k (l2 + 1) else some l2) else some (-1 : Int32))
def fX0_freeDryer (F : Nat) (σ : mm_M) (p1 : Int32) : Option (Int32) := fX0_freeDryer_2 F σ p1 F (0 : Int32)
abbrev rX0_freeDryer : Room := { frames := 1, cells := 0, slots := 0, locals := 21 }
theorem hyX0_freeDryer : yX0_freeDryer.cls = RX0 ∧ yX0_freeDryer.cls ≠ "java/lang/invoke/MethodHandle" ∧ yX0_freeDryer.cls ≠ "java/lang/invoke/VarHandle" ∧ (parseMethodDescriptor yX0_freeDryer.desc).map (fun d => d.parameters.length) = some 1 := by decide +kernel
theorem kX0_freeDryer_1 : (Cond.fieldLink RX0 15 "LinenTunnel$House" "dryers" "I" : Cond) ∈ wsX0_freeDryer := List.mem_of_getElem? (i := 1) rfl
theorem uX0_freeDryer_0 : ∀ w ∈ u_ws RX0 TX0 16, w ∈ wsX0_freeDryer := fun _ h => (List.mem_cons_of_mem _ (List.mem_append_left _ (List.mem_append_right _ h)))
theorem kX0_freeDryer_2 : (Cond.fieldLink RX0 45 "LinenTunnel$House" "dryerTill" "LLinenTunnel$Row;" : Cond) ∈ wsX0_freeDryer := List.mem_of_getElem? (i := 2) rfl
set_option maxRecDepth 100000 in
set_option maxHeartbeats 4000000 in
theorem tX0_freeDryer_2 {l : Launch} {K : mm_K} {D : va_G} {cI : ClassId} {a : Nat → Nat} (X : dC K rX0_freeDryer cX0_freeDryer 3 (some .int) wsX0_freeDryer RX0 D cI a) (hL : mm_L K l) (hJ : mm_J 59 a) {F : Nat} {σ : mm_M} {l1 : Int32} {out : Int32} (hQ : mm_H K 59 a (fun sz => dQi D cI a out σ sz)) : ∀ (k : Nat) (l2 : Int32), fX0_freeDryer_2 F σ l1 k l2 = some out → dG K D cI a σ 2 [(0, .ref (a 5)), (1, .int l1), (2, .int l2)] [] := by
  intro k
  induction k with
  | zero =>
    intro l2 h
    have h : none = some out := h
    cases h
  | succ k ih =>
    intro l2 h
    rw [fX0_freeDryer_2] at h
    refine mm_iload_n X dX0_freeDryer_2 2 rfl ?_
    refine mm_aload_n X dX0_freeDryer_3 0 rfl ?_
    refine mm_get X dX0_freeDryer_4 5 3 (by decide) dv_cf_5 rfl (by decide) uX0_freeDryer_0 kX0_freeDryer_1 rfl (v := .int (σ 5 3)) rfl ?_
    refine mm_icmp_ge X dX0_freeDryer_7 (tgt := 30) (by decide) (fun c1 => ?_) (fun c1 => ?_)
    · have h := (if_neg c1).symm.trans h
      refine mm_iconst X dX0_freeDryer_30 (v := -1) (by decide) ?_
      obtain rfl := Option.some.inj h
      exact mm_iret X dX0_freeDryer_31 rfl hQ rfl
    · have h := (if_pos c1).symm.trans h
      refine mm_aload_n X dX0_freeDryer_10 0 rfl ?_
      refine mm_get X dX0_freeDryer_11 5 11 (by decide) dv_cf_5 rfl (by decide) uX0_freeDryer_0 kX0_freeDryer_2 rfl (v := .ref (a 51)) rfl ?_
      refine mm_iload_n X dX0_freeDryer_14 2 rfl ?_
      refine mm_callVi X dX0_freeDryer_15 (As := [.int l2]) (rest := []) 51 (by decide) (dv_cf_row (j := 25) (by decide)) rfl hL (mX4_read hJ (j := 25) (by decide) (by decide) (res := (dr_rd σ 25 l2)) rfl) gX0_freeDryer_X4_read rfl ⟨rfl, rfl⟩ hyX4_read ⟨Nat.le_of_ble_eq_true rfl, Nat.le_of_ble_eq_true rfl⟩ rfl (Nat.le_of_ble_eq_true rfl) ?_
      refine mm_iload_n X dX0_freeDryer_18 1 rfl ?_
      refine mm_icmp_gt X dX0_freeDryer_19 (tgt := 24) (by decide) (fun c2 => ?_) (fun c2 => ?_)
      · have h := (if_pos c2).symm.trans h
        refine mm_iinc X dX0_freeDryer_24 2 rfl (v := (l2 + 1)) rfl (by decide) (lv2 := [(2, .int (l2 + 1)), (0, .ref (a 5)), (1, .int l1)]) rfl ?_
        refine mm_goto X dX0_freeDryer_27 (tgt := 2) (by decide) ?_
        refine mm_loc [1, 2, 0] rfl ?_
        exact ih _ h
      · have h := (if_neg c2).symm.trans h
        refine mm_iload_n X dX0_freeDryer_22 2 rfl ?_
        obtain rfl := Option.some.inj h
        exact mm_iret X dX0_freeDryer_23 rfl hQ rfl
set_option maxRecDepth 100000 in
set_option maxHeartbeats 4000000 in
theorem mX0_freeDryer {l : Launch} {D : va_G} {cI : ClassId} {a : Nat → Nat} (hJ : mm_J 59 a) {F : Nat} {σ : mm_M} {p1 : Int32} {res : Int32} (h : fX0_freeDryer F σ p1 = some res) (sz : Nat) : Met l yX0_freeDryer wsX0_freeDryer rX0_freeDryer (dP D cI a σ [.ref (a 5), .int p1] sz) (dQi D cI a res σ sz) 0 0 (mm_A 59 a sz) := by
  refine mm_met (fun sz => dQi D cI a res σ sz) (lv := [(0, .ref (a 5)), (1, .int p1)]) (ret := (some .int)) (cc := cX0_freeDryer) (maxL := 3) (own := RX0) hJ (by decide +kernel) rfl rfl (Nat.le_of_ble_eq_true rfl) rfl ?_ sz
  intro K hL X hQ
  unfold fX0_freeDryer at h
  refine mm_iconst X dX0_freeDryer_0 (v := 0) (by decide) ?_
  refine mm_istore_n X dX0_freeDryer_1 (by decide) (lv2 := [(2, .int (0 : Int32)), (0, .ref (a 5)), (1, .int p1)]) rfl ?_
  refine mm_loc [1, 2, 0] rfl ?_
  exact tX0_freeDryer_2 X hL hJ hQ F (0 : Int32) h
/-! LinenTunnel$House.goOut -/
def fX0_goOut (σ : mm_M) (p1 p2 p3 p4 : Int32) : mm_M := (if 0 < p3 then (dr_wr (fX0_note (fX0_note (fX0_note (mm_up σ 5 8 ((σ 5 8) + (1 : Int32))) p1 (2 : Int32) p2) p1 (4 : Int32) (p2 + p3)) p1 (3 : Int32) p4) 25 p4 (p2 + p3)) else (fX0_note (fX0_note (mm_up σ 5 8 ((σ 5 8) + (1 : Int32))) p1 (2 : Int32) p2) p1 (4 : Int32) (p2 + p3)))
abbrev rX0_goOut : Room := { frames := 2, cells := 0, slots := 0, locals := 45 }
theorem hyX0_goOut : yX0_goOut.cls = RX0 ∧ yX0_goOut.cls ≠ "java/lang/invoke/MethodHandle" ∧ yX0_goOut.cls ≠ "java/lang/invoke/VarHandle" ∧ (parseMethodDescriptor yX0_goOut.desc).map (fun d => d.parameters.length) = some 4 := by decide +kernel
theorem kX0_goOut_1 : (Cond.fieldLink RX0 30 "LinenTunnel$House" "gone" "I" : Cond) ∈ wsX0_goOut := List.mem_of_getElem? (i := 1) rfl
theorem uX0_goOut_0 : ∀ w ∈ u_ws RX0 TX0 16, w ∈ wsX0_goOut := fun _ h => (List.mem_cons_of_mem _ (List.mem_append_left _ (List.mem_append_right _ h)))
theorem kX0_goOut_2 : (Cond.fieldLink RX0 45 "LinenTunnel$House" "dryerTill" "LLinenTunnel$Row;" : Cond) ∈ wsX0_goOut := List.mem_of_getElem? (i := 2) rfl
set_option maxRecDepth 100000 in
set_option maxHeartbeats 4000000 in
theorem mX0_goOut {l : Launch} {D : va_G} {cI : ClassId} {a : Nat → Nat} (hJ : mm_J 59 a) {σ : mm_M} {p1 p2 p3 p4 : Int32} {res : mm_M} (h : fX0_goOut σ p1 p2 p3 p4 = res) (sz : Nat) : Met l yX0_goOut wsX0_goOut rX0_goOut (dP D cI a σ [.ref (a 5), .int p1, .int p2, .int p3, .int p4] sz) (dQv D cI a res sz) 0 0 (mm_A 59 a sz) := by
  refine mm_met (fun sz => dQv D cI a res sz) (lv := [(0, .ref (a 5)), (1, .int p1), (2, .int p2), (3, .int p3), (4, .int p4)]) (ret := none) (cc := cX0_goOut) (maxL := 5) (own := RX0) hJ (by decide +kernel) rfl rfl (Nat.le_of_ble_eq_true rfl) rfl ?_ sz
  intro K hL X hQ
  unfold fX0_goOut at h
  refine mm_aload_n X dX0_goOut_0 0 rfl ?_
  refine mm_dup X dX0_goOut_1 rfl ?_
  refine mm_get X dX0_goOut_2 5 8 (by decide) dv_cf_5 rfl (by decide) uX0_goOut_0 kX0_goOut_1 rfl (v := .int (σ 5 8)) rfl ?_
  refine mm_iconst X dX0_goOut_5 (v := 1) (by decide) ?_
  refine mm_iadd X dX0_goOut_6 ?_
  refine mm_put X dX0_goOut_7 5 8 (by decide) tyX0 tyX0_ok nmX0 dv_cf_5 rfl rfl (by decide) uX0_goOut_0 kX0_goOut_1 rfl rfl rfl (Nat.le_of_ble_eq_true rfl) ?_
  refine mm_aload_n X dX0_goOut_10 0 rfl ?_
  refine mm_iload_n X dX0_goOut_11 1 rfl ?_
  refine mm_iconst X dX0_goOut_12 (v := 2) (by decide) ?_
  refine mm_iload_n X dX0_goOut_13 2 rfl ?_
  refine mm_callVv X dX0_goOut_14 (As := [.int p1, .int (2 : Int32), .int p2]) (rest := []) 5 (by decide) dv_cf_5 rfl hL (mX0_note hJ (res := fX0_note (mm_up σ 5 8 ((σ 5 8) + (1 : Int32))) p1 (2 : Int32) p2) rfl) gX0_goOut_X0_note rfl ⟨rfl, rfl⟩ hyX0_note ⟨Nat.le_of_ble_eq_true rfl, Nat.le_of_ble_eq_true rfl⟩ rfl (Nat.le_of_ble_eq_true rfl) ?_
  refine mm_aload_n X dX0_goOut_17 0 rfl ?_
  refine mm_iload_n X dX0_goOut_18 1 rfl ?_
  refine mm_iconst X dX0_goOut_19 (v := 4) (by decide) ?_
  refine mm_iload_n X dX0_goOut_20 2 rfl ?_
  refine mm_iload_n X dX0_goOut_21 3 rfl ?_
  refine mm_iadd X dX0_goOut_22 ?_
  refine mm_callVv X dX0_goOut_23 (As := [.int p1, .int (4 : Int32), .int (p2 + p3)]) (rest := []) 5 (by decide) dv_cf_5 rfl hL (mX0_note hJ (res := fX0_note (fX0_note (mm_up σ 5 8 ((σ 5 8) + (1 : Int32))) p1 (2 : Int32) p2) p1 (4 : Int32) (p2 + p3)) rfl) gX0_goOut_X0_note rfl ⟨rfl, rfl⟩ hyX0_note ⟨Nat.le_of_ble_eq_true rfl, Nat.le_of_ble_eq_true rfl⟩ rfl (Nat.le_of_ble_eq_true rfl) ?_
  refine mm_iload_n X dX0_goOut_26 3 rfl ?_
  refine mm_if_le X dX0_goOut_27 (tgt := 50) (by decide) (fun c1 => ?_) (fun c1 => ?_)
  · have h := (if_neg c1).symm.trans h
    subst h
    exact mm_vret X dX0_goOut_50 rfl hQ
  · have h := (if_pos c1).symm.trans h
    refine mm_aload_n X dX0_goOut_30 0 rfl ?_
    refine mm_iload_n X dX0_goOut_31 1 rfl ?_
    refine mm_iconst X dX0_goOut_32 (v := 3) (by decide) ?_
    refine mm_iload X dX0_goOut_33 4 rfl ?_
    refine mm_callVv X dX0_goOut_35 (As := [.int p1, .int (3 : Int32), .int p4]) (rest := []) 5 (by decide) dv_cf_5 rfl hL (mX0_note hJ (res := fX0_note (fX0_note (fX0_note (mm_up σ 5 8 ((σ 5 8) + (1 : Int32))) p1 (2 : Int32) p2) p1 (4 : Int32) (p2 + p3)) p1 (3 : Int32) p4) rfl) gX0_goOut_X0_note rfl ⟨rfl, rfl⟩ hyX0_note ⟨Nat.le_of_ble_eq_true rfl, Nat.le_of_ble_eq_true rfl⟩ rfl (Nat.le_of_ble_eq_true rfl) ?_
    refine mm_aload_n X dX0_goOut_38 0 rfl ?_
    refine mm_get X dX0_goOut_39 5 11 (by decide) dv_cf_5 rfl (by decide) uX0_goOut_0 kX0_goOut_2 rfl (v := .ref (a 51)) rfl ?_
    refine mm_iload X dX0_goOut_42 4 rfl ?_
    refine mm_iload_n X dX0_goOut_44 2 rfl ?_
    refine mm_iload_n X dX0_goOut_45 3 rfl ?_
    refine mm_iadd X dX0_goOut_46 ?_
    refine mm_callVv X dX0_goOut_47 (As := [.int p4, .int (p2 + p3)]) (rest := []) 51 (by decide) (dv_cf_row (j := 25) (by decide)) rfl hL (mX4_write hJ (j := 25) (by decide) (by decide) (res := dr_wr (fX0_note (fX0_note (fX0_note (mm_up σ 5 8 ((σ 5 8) + (1 : Int32))) p1 (2 : Int32) p2) p1 (4 : Int32) (p2 + p3)) p1 (3 : Int32) p4) 25 p4 (p2 + p3)) rfl) gX0_goOut_X4_write rfl ⟨rfl, rfl⟩ hyX4_write ⟨Nat.le_of_ble_eq_true rfl, Nat.le_of_ble_eq_true rfl⟩ rfl (Nat.le_of_ble_eq_true rfl) ?_
    subst h
    exact mm_vret X dX0_goOut_50 rfl hQ
/-! LinenTunnel$House.moveOn -/
def fX0_moveOn_7 (F : Nat) (l1 : Int32) : Nat → Int32 → mm_M → Option (mm_M)
  | 0, _, _ => none
  | k + 1, l2, σ => (if 0 < l2 then fX0_moveOn_7 F l1 k (l2 + (-1 : Int32)) (dr_wr σ 24 l2 (dr_rd σ 24 (l2 - (1 : Int32)))) else some (σ))
def fX0_moveOn (F : Nat) (σ : mm_M) (p1 : Int32) : Option (mm_M) := (fX0_moveOn_7 F p1 F ((σ 5 2) - (1 : Int32)) σ).bind fun q1 => (if (if (q1 5 7) < (q1 5 6) then (dr_rd q1 23 (q1 5 7)) else (-1 : Int32)) = (-1 : Int32) then some (dr_wr (mm_up q1 5 7 ((q1 5 7) + (1 : Int32))) 24 (0 : Int32) (if (q1 5 7) < (q1 5 6) then (dr_rd q1 23 (q1 5 7)) else (-1 : Int32))) else some (fX0_note (dr_wr (mm_up q1 5 7 ((q1 5 7) + (1 : Int32))) 24 (0 : Int32) (if (q1 5 7) < (q1 5 6) then (dr_rd q1 23 (q1 5 7)) else (-1 : Int32))) (if (q1 5 7) < (q1 5 6) then (dr_rd q1 23 (q1 5 7)) else (-1 : Int32)) (1 : Int32) p1))
abbrev rX0_moveOn : Room := { frames := 2, cells := 0, slots := 0, locals := 45 }
theorem hyX0_moveOn : yX0_moveOn.cls = RX0 ∧ yX0_moveOn.cls ≠ "java/lang/invoke/MethodHandle" ∧ yX0_moveOn.cls ≠ "java/lang/invoke/VarHandle" ∧ (parseMethodDescriptor yX0_moveOn.desc).map (fun d => d.parameters.length) = some 1 := by decide +kernel
theorem kX0_moveOn_1 : (Cond.fieldLink RX0 9 "LinenTunnel$House" "compartments" "I" : Cond) ∈ wsX0_moveOn := List.mem_of_getElem? (i := 1) rfl
theorem uX0_moveOn_0 : ∀ w ∈ u_ws RX0 TX0 16, w ∈ wsX0_moveOn := fun _ h => (List.mem_cons_of_mem _ (List.mem_append_left _ (List.mem_append_right _ h)))
theorem kX0_moveOn_2 : (Cond.fieldLink RX0 42 "LinenTunnel$House" "inside" "LLinenTunnel$Row;" : Cond) ∈ wsX0_moveOn := List.mem_of_getElem? (i := 2) rfl
theorem kX0_moveOn_3 : (Cond.fieldLink RX0 27 "LinenTunnel$House" "nextSlot" "I" : Cond) ∈ wsX0_moveOn := List.mem_of_getElem? (i := 3) rfl
theorem kX0_moveOn_4 : (Cond.fieldLink RX0 24 "LinenTunnel$House" "slotNumber" "I" : Cond) ∈ wsX0_moveOn := List.mem_of_getElem? (i := 4) rfl
theorem kX0_moveOn_5 : (Cond.fieldLink RX0 38 "LinenTunnel$House" "slots" "LLinenTunnel$Row;" : Cond) ∈ wsX0_moveOn := List.mem_of_getElem? (i := 5) rfl
set_option maxRecDepth 100000 in
set_option maxHeartbeats 4000000 in
theorem tX0_moveOn_7 {l : Launch} {K : mm_K} {D : va_G} {cI : ClassId} {a : Nat → Nat} (X : dC K rX0_moveOn cX0_moveOn 3 none wsX0_moveOn RX0 D cI a) (hL : mm_L K l) (hJ : mm_J 59 a) {F : Nat} {l1 : Int32} {out : mm_M} (hx : dG K D cI a out 35 [(0, .ref (a 5)), (1, .int l1)] []) : ∀ (k : Nat) (l2 : Int32) (σ : mm_M), fX0_moveOn_7 F l1 k l2 σ = some out → dG K D cI a σ 7 [(0, .ref (a 5)), (1, .int l1), (2, .int l2)] [] := by
  intro k
  induction k with
  | zero =>
    intro l2 σ h
    have h : none = some out := h
    cases h
  | succ k ih =>
    intro l2 σ h
    rw [fX0_moveOn_7] at h
    refine mm_iload_n X dX0_moveOn_7 2 rfl ?_
    refine mm_if_le X dX0_moveOn_8 (tgt := 35) (by decide) (fun c1 => ?_) (fun c1 => ?_)
    · have h := (if_neg c1).symm.trans h
      obtain rfl := Option.some.inj h
      refine mm_loc [0, 1] rfl ?_
      exact hx
    · have h := (if_pos c1).symm.trans h
      refine mm_aload_n X dX0_moveOn_11 0 rfl ?_
      refine mm_get X dX0_moveOn_12 5 10 (by decide) dv_cf_5 rfl (by decide) uX0_moveOn_0 kX0_moveOn_2 rfl (v := .ref (a 50)) rfl ?_
      refine mm_iload_n X dX0_moveOn_15 2 rfl ?_
      refine mm_aload_n X dX0_moveOn_16 0 rfl ?_
      refine mm_get X dX0_moveOn_17 5 10 (by decide) dv_cf_5 rfl (by decide) uX0_moveOn_0 kX0_moveOn_2 rfl (v := .ref (a 50)) rfl ?_
      refine mm_iload_n X dX0_moveOn_20 2 rfl ?_
      refine mm_iconst X dX0_moveOn_21 (v := 1) (by decide) ?_
      refine mm_isub X dX0_moveOn_22 ?_
      refine mm_callVi X dX0_moveOn_23 (As := [.int (l2 - (1 : Int32))]) (rest := [.int l2, .ref (a 50)]) 50 (by decide) (dv_cf_row (j := 24) (by decide)) rfl hL (mX4_read hJ (j := 24) (by decide) (by decide) (res := (dr_rd σ 24 (l2 - (1 : Int32)))) rfl) gX0_moveOn_X4_read rfl ⟨rfl, rfl⟩ hyX4_read ⟨Nat.le_of_ble_eq_true rfl, Nat.le_of_ble_eq_true rfl⟩ rfl (Nat.le_of_ble_eq_true rfl) ?_
      refine mm_callVv X dX0_moveOn_26 (As := [.int l2, .int (dr_rd σ 24 (l2 - (1 : Int32)))]) (rest := []) 50 (by decide) (dv_cf_row (j := 24) (by decide)) rfl hL (mX4_write hJ (j := 24) (by decide) (by decide) (res := dr_wr σ 24 l2 (dr_rd σ 24 (l2 - (1 : Int32)))) rfl) gX0_moveOn_X4_write rfl ⟨rfl, rfl⟩ hyX4_write ⟨Nat.le_of_ble_eq_true rfl, Nat.le_of_ble_eq_true rfl⟩ rfl (Nat.le_of_ble_eq_true rfl) ?_
      refine mm_iinc X dX0_moveOn_29 2 rfl (v := (l2 + (-1 : Int32))) rfl (by decide) (lv2 := [(2, .int (l2 + (-1 : Int32))), (0, .ref (a 5)), (1, .int l1)]) rfl ?_
      refine mm_goto X dX0_moveOn_32 (tgt := 7) (by decide) ?_
      refine mm_loc [1, 2, 0] rfl ?_
      exact ih _ _ h
set_option maxRecDepth 100000 in
set_option maxHeartbeats 4000000 in
theorem mX0_moveOn {l : Launch} {D : va_G} {cI : ClassId} {a : Nat → Nat} (hJ : mm_J 59 a) {F : Nat} {σ : mm_M} {p1 : Int32} {res : mm_M} (h : fX0_moveOn F σ p1 = some res) (sz : Nat) : Met l yX0_moveOn wsX0_moveOn rX0_moveOn (dP D cI a σ [.ref (a 5), .int p1] sz) (dQv D cI a res sz) 0 0 (mm_A 59 a sz) := by
  refine mm_met (fun sz => dQv D cI a res sz) (lv := [(0, .ref (a 5)), (1, .int p1)]) (ret := none) (cc := cX0_moveOn) (maxL := 3) (own := RX0) hJ (by decide +kernel) rfl rfl (Nat.le_of_ble_eq_true rfl) rfl ?_ sz
  intro K hL X hQ
  unfold fX0_moveOn at h
  refine mm_aload_n X dX0_moveOn_0 0 rfl ?_
  refine mm_get X dX0_moveOn_1 5 2 (by decide) dv_cf_5 rfl (by decide) uX0_moveOn_0 kX0_moveOn_1 rfl (v := .int (σ 5 2)) rfl ?_
  refine mm_iconst X dX0_moveOn_4 (v := 1) (by decide) ?_
  refine mm_isub X dX0_moveOn_5 ?_
  refine mm_istore_n X dX0_moveOn_6 (by decide) (lv2 := [(2, .int ((σ 5 2) - (1 : Int32))), (0, .ref (a 5)), (1, .int p1)]) rfl ?_
  obtain ⟨q1, hq1, h⟩ := Option.bind_eq_some_iff.mp h
  refine mm_loc [1, 2, 0] rfl ?_
  refine tX0_moveOn_7 X hL hJ ?_ F ((σ 5 2) - (1 : Int32)) σ hq1
  refine mm_aload_n X dX0_moveOn_35 0 rfl ?_
  refine mm_get X dX0_moveOn_36 5 7 (by decide) dv_cf_5 rfl (by decide) uX0_moveOn_0 kX0_moveOn_3 rfl (v := .int (q1 5 7)) rfl ?_
  refine mm_aload_n X dX0_moveOn_39 0 rfl ?_
  refine mm_get X dX0_moveOn_40 5 6 (by decide) dv_cf_5 rfl (by decide) uX0_moveOn_0 kX0_moveOn_4 rfl (v := .int (q1 5 6)) rfl ?_
  have J4 : ∀ (v2 : Int32), v2 = (if (q1 5 7) < (q1 5 6) then (dr_rd q1 23 (q1 5 7)) else (-1 : Int32)) → dG K D cI a q1 61 [(0, .ref (a 5)), (1, .int p1)] [.int v2] := by
    intro v2 ev2
    subst ev2
    refine mm_istore_n X dX0_moveOn_61 (by decide) (lv2 := [(2, .int (if (q1 5 7) < (q1 5 6) then (dr_rd q1 23 (q1 5 7)) else (-1 : Int32))), (0, .ref (a 5)), (1, .int p1)]) rfl ?_
    refine mm_aload_n X dX0_moveOn_62 1 rfl ?_
    refine mm_dup X dX0_moveOn_63 rfl ?_
    refine mm_get X dX0_moveOn_64 5 7 (by decide) dv_cf_5 rfl (by decide) uX0_moveOn_0 kX0_moveOn_3 rfl (v := .int (q1 5 7)) rfl ?_
    refine mm_iconst X dX0_moveOn_67 (v := 1) (by decide) ?_
    refine mm_iadd X dX0_moveOn_68 ?_
    refine mm_put X dX0_moveOn_69 5 7 (by decide) tyX0 tyX0_ok nmX0 dv_cf_5 rfl rfl (by decide) uX0_moveOn_0 kX0_moveOn_3 rfl rfl rfl (Nat.le_of_ble_eq_true rfl) ?_
    refine mm_aload_n X dX0_moveOn_72 1 rfl ?_
    refine mm_get X dX0_moveOn_73 5 10 (by decide) dv_cf_5 rfl (by decide) uX0_moveOn_0 kX0_moveOn_2 rfl (v := .ref (a 50)) rfl ?_
    refine mm_iconst X dX0_moveOn_76 (v := 0) (by decide) ?_
    refine mm_iload_n X dX0_moveOn_77 0 rfl ?_
    refine mm_callVv X dX0_moveOn_78 (As := [.int (0 : Int32), .int (if (q1 5 7) < (q1 5 6) then (dr_rd q1 23 (q1 5 7)) else (-1 : Int32))]) (rest := []) 50 (by decide) (dv_cf_row (j := 24) (by decide)) rfl hL (mX4_write hJ (j := 24) (by decide) (by decide) (res := dr_wr (mm_up q1 5 7 ((q1 5 7) + (1 : Int32))) 24 (0 : Int32) (if (q1 5 7) < (q1 5 6) then (dr_rd q1 23 (q1 5 7)) else (-1 : Int32))) rfl) gX0_moveOn_X4_write rfl ⟨rfl, rfl⟩ hyX4_write ⟨Nat.le_of_ble_eq_true rfl, Nat.le_of_ble_eq_true rfl⟩ rfl (Nat.le_of_ble_eq_true rfl) ?_
    refine mm_iload_n X dX0_moveOn_81 0 rfl ?_
    refine mm_iconst X dX0_moveOn_82 (v := -1) (by decide) ?_
    refine mm_icmp_eq X dX0_moveOn_83 (tgt := 93) (by decide) (fun c3 => ?_) (fun c3 => ?_)
    · have h := (if_pos c3).symm.trans h
      obtain rfl := Option.some.inj h
      exact mm_vret X dX0_moveOn_93 rfl hQ
    · have h := (if_neg c3).symm.trans h
      refine mm_aload_n X dX0_moveOn_86 1 rfl ?_
      refine mm_iload_n X dX0_moveOn_87 0 rfl ?_
      refine mm_iconst X dX0_moveOn_88 (v := 1) (by decide) ?_
      refine mm_iload_n X dX0_moveOn_89 2 rfl ?_
      refine mm_callVv X dX0_moveOn_90 (As := [.int (if (q1 5 7) < (q1 5 6) then (dr_rd q1 23 (q1 5 7)) else (-1 : Int32)), .int (1 : Int32), .int p1]) (rest := []) 5 (by decide) dv_cf_5 rfl hL (mX0_note hJ (res := fX0_note (dr_wr (mm_up q1 5 7 ((q1 5 7) + (1 : Int32))) 24 (0 : Int32) (if (q1 5 7) < (q1 5 6) then (dr_rd q1 23 (q1 5 7)) else (-1 : Int32))) (if (q1 5 7) < (q1 5 6) then (dr_rd q1 23 (q1 5 7)) else (-1 : Int32)) (1 : Int32) p1) rfl) gX0_moveOn_X0_note rfl ⟨rfl, rfl⟩ hyX0_note ⟨Nat.le_of_ble_eq_true rfl, Nat.le_of_ble_eq_true rfl⟩ rfl (Nat.le_of_ble_eq_true rfl) ?_
      obtain rfl := Option.some.inj h
      exact mm_vret X dX0_moveOn_93 rfl hQ
  refine mm_icmp_ge X dX0_moveOn_43 (tgt := 60) (by decide) (fun c5 => ?_) (fun c5 => ?_)
  · refine mm_iconst X dX0_moveOn_60 (v := -1) (by decide) ?_
    exact J4 _ (by rw [if_neg c5])
  · refine mm_aload_n X dX0_moveOn_46 0 rfl ?_
    refine mm_get X dX0_moveOn_47 5 9 (by decide) dv_cf_5 rfl (by decide) uX0_moveOn_0 kX0_moveOn_5 rfl (v := .ref (a 49)) rfl ?_
    refine mm_aload_n X dX0_moveOn_50 0 rfl ?_
    refine mm_get X dX0_moveOn_51 5 7 (by decide) dv_cf_5 rfl (by decide) uX0_moveOn_0 kX0_moveOn_3 rfl (v := .int (q1 5 7)) rfl ?_
    refine mm_callVi X dX0_moveOn_54 (As := [.int (q1 5 7)]) (rest := []) 49 (by decide) (dv_cf_row (j := 23) (by decide)) rfl hL (mX4_read hJ (j := 23) (by decide) (by decide) (res := (dr_rd q1 23 (q1 5 7))) rfl) gX0_moveOn_X4_read rfl ⟨rfl, rfl⟩ hyX4_read ⟨Nat.le_of_ble_eq_true rfl, Nat.le_of_ble_eq_true rfl⟩ rfl (Nat.le_of_ble_eq_true rfl) ?_
    refine mm_goto X dX0_moveOn_57 (tgt := 61) (by decide) ?_
    exact J4 _ (by rw [if_pos c5])
/-! LinenTunnel$House.colourAt -/
def fX0_colourAt (σ : mm_M) (p1 : Int32) : Int32 := (dr_rd σ 8 (fX0_fact σ p1 (0 : Int32)))
abbrev rX0_colourAt : Room := { frames := 2, cells := 0, slots := 0, locals := 43 }
theorem hyX0_colourAt : yX0_colourAt.cls = RX0 ∧ yX0_colourAt.cls ≠ "java/lang/invoke/MethodHandle" ∧ yX0_colourAt.cls ≠ "java/lang/invoke/VarHandle" ∧ (parseMethodDescriptor yX0_colourAt.desc).map (fun d => d.parameters.length) = some 1 := by decide +kernel
theorem kX0_colourAt_1 : (Cond.fieldLink RX0 60 "LinenTunnel$House" "kinds" "LLinenTunnel$Kinds;" : Cond) ∈ wsX0_colourAt := List.mem_of_getElem? (i := 1) rfl
theorem uX0_colourAt_0 : ∀ w ∈ u_ws RX0 TX0 16, w ∈ wsX0_colourAt := fun _ h => (List.mem_cons_of_mem _ (List.mem_append_left _ (List.mem_append_left _ (List.mem_append_right _ h))))
theorem uX0_colourAt_1 : ∀ w ∈ u_ws RX1 TX1 6, w ∈ wsX0_colourAt := fun _ h => (List.mem_cons_of_mem _ (List.mem_append_left _ (List.mem_append_right _ h)))
set_option maxRecDepth 100000 in
set_option maxHeartbeats 4000000 in
theorem mX0_colourAt {l : Launch} {D : va_G} {cI : ClassId} {a : Nat → Nat} (hJ : mm_J 59 a) {σ : mm_M} {p1 : Int32} {res : Int32} (h : fX0_colourAt σ p1 = res) (sz : Nat) : Met l yX0_colourAt wsX0_colourAt rX0_colourAt (dP D cI a σ [.ref (a 5), .int p1] sz) (dQi D cI a res σ sz) 0 0 (mm_A 59 a sz) := by
  refine mm_met (fun sz => dQi D cI a res σ sz) (lv := [(0, .ref (a 5)), (1, .int p1)]) (ret := (some .int)) (cc := cX0_colourAt) (maxL := 2) (own := RX0) hJ (by decide +kernel) rfl rfl (Nat.le_of_ble_eq_true rfl) rfl ?_ sz
  intro K hL X hQ
  unfold fX0_colourAt at h
  refine mm_aload_n X dX0_colourAt_0 0 rfl ?_
  refine mm_get X dX0_colourAt_1 5 0 (by decide) dv_cf_5 rfl (by decide) uX0_colourAt_0 kX0_colourAt_1 rfl (v := .ref (a 1)) rfl ?_
  refine mm_getN X dX0_colourAt_4 1 2 (by decide) dv_cf_1 rfl (by decide) uX0_colourAt_1 (List.mem_of_getElem? (i := 1) rfl) rfl (v := .ref (a 34)) rfl ?_
  refine mm_aload_n X dX0_colourAt_7 0 rfl ?_
  refine mm_iload_n X dX0_colourAt_8 1 rfl ?_
  refine mm_iconst X dX0_colourAt_9 (v := 0) (by decide) ?_
  refine mm_callVi X dX0_colourAt_10 (As := [.int p1, .int (0 : Int32)]) (rest := [.ref (a 34)]) 5 (by decide) dv_cf_5 rfl hL (mX0_fact hJ (res := fX0_fact σ p1 (0 : Int32)) rfl) gX0_colourAt_X0_fact rfl ⟨rfl, rfl⟩ hyX0_fact ⟨Nat.le_of_ble_eq_true rfl, Nat.le_of_ble_eq_true rfl⟩ rfl (Nat.le_of_ble_eq_true rfl) ?_
  refine mm_callVi X dX0_colourAt_13 (As := [.int (fX0_fact σ p1 (0 : Int32))]) (rest := []) 34 (by decide) (dv_cf_row (j := 8) (by decide)) rfl hL (mX4_read hJ (j := 8) (by decide) (by decide) (res := (dr_rd σ 8 (fX0_fact σ p1 (0 : Int32)))) rfl) gX0_colourAt_X4_read rfl ⟨rfl, rfl⟩ hyX4_read ⟨Nat.le_of_ble_eq_true rfl, Nat.le_of_ble_eq_true rfl⟩ rfl (Nat.le_of_ble_eq_true rfl) ?_
  subst h
  exact mm_iret X dX0_colourAt_16 rfl hQ rfl
