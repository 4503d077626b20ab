/-! LinenTunnel$Linen.fits -/
def fX2_fits (σ : mm_M) (p1 p2 p3 p4 : Int32) : Int32 := (if (dr_rd σ 15 p1) = p4 then (if p2 = (-1 : Int32) then (if p3 = (-1 : Int32) then (1 : Int32) else (if (dr_rd σ 12 p1) = p3 then (1 : Int32) else (0 : Int32))) else (if (dr_rd σ 13 p1) = p2 then (if p3 = (-1 : Int32) then (1 : Int32) else (if (dr_rd σ 12 p1) = p3 then (1 : Int32) else (0 : Int32))) else (0 : Int32))) else (0 : Int32))
theorem bX2_fits {σ : mm_M} {p1 p2 p3 p4 : Int32} : narrow .boolean (.int (fX2_fits σ p1 p2 p3 p4)) = .int (fX2_fits σ p1 p2 p3 p4) := by
  unfold fX2_fits
  first | exact rfl | ((repeat' split) <;> first | rfl)
abbrev rX2_fits : Room := { frames := 1, cells := 0, slots := 0, locals := 21 }
theorem hyX2_fits : yX2_fits.cls = RX2 ∧ yX2_fits.cls ≠ "java/lang/invoke/MethodHandle" ∧ yX2_fits.cls ≠ "java/lang/invoke/VarHandle" ∧ (parseMethodDescriptor yX2_fits.desc).map (fun d => d.parameters.length) = some 4 := by decide +kernel
theorem kX2_fits_1 : (Cond.fieldLink RX2 30 "LinenTunnel$Linen" "place" "LLinenTunnel$Row;" : Cond) ∈ wsX2_fits := List.mem_of_getElem? (i := 1) rfl
theorem uX2_fits_2 : ∀ w ∈ u_ws RX2 TX2 7, w ∈ wsX2_fits := fun _ h => (List.mem_cons_of_mem _ (List.mem_append_left _ (List.mem_append_right _ h)))
theorem kX2_fits_3 : (Cond.fieldLink RX2 20 "LinenTunnel$Linen" "kind" "LLinenTunnel$Row;" : Cond) ∈ wsX2_fits := List.mem_of_getElem? (i := 3) rfl
theorem kX2_fits_2 : (Cond.fieldLink RX2 24 "LinenTunnel$Linen" "owner" "LLinenTunnel$Row;" : Cond) ∈ wsX2_fits := List.mem_of_getElem? (i := 2) rfl
set_option maxRecDepth 100000 in
set_option maxHeartbeats 4000000 in
theorem mX2_fits {l : Launch} {D : va_G} {cI : ClassId} {a : Nat → Nat} (hJ : mm_J 59 a) {σ : mm_M} {p1 p2 p3 p4 : Int32} {res : Int32} (h : fX2_fits σ p1 p2 p3 p4 = res) (sz : Nat) : Met l yX2_fits wsX2_fits rX2_fits (dP D cI a σ [.ref (a 2), .int p1, .int p2, .int p3, .int p4] sz) (dQi D cI a res σ sz) 0 0 (mm_A 59 a sz) := by
  refine mm_met (fun sz => dQi D cI a res σ sz) (lv := [(0, .ref (a 2)), (1, .int p1), (2, .int p2), (3, .int p3), (4, .int p4)]) (ret := (some .boolean)) (cc := cX2_fits) (maxL := 5) (own := RX2) hJ (by decide +kernel) rfl rfl (Nat.le_of_ble_eq_true rfl) rfl ?_ sz
  intro K hL X hQ
  unfold fX2_fits at h
  refine mm_aload_n X dX2_fits_0 0 rfl ?_
  refine mm_get X dX2_fits_1 2 4 (by decide) dv_cf_2 rfl (by decide) uX2_fits_2 kX2_fits_1 rfl (v := .ref (a 41)) rfl ?_
  refine mm_iload_n X dX2_fits_4 1 rfl ?_
  refine mm_callVi X dX2_fits_5 (As := [.int p1]) (rest := []) 41 (by decide) (dv_cf_row (j := 15) (by decide)) rfl hL (mX4_read hJ (j := 15) (by decide) (by decide) (res := (dr_rd σ 15 p1)) rfl) gX2_fits_X4_read rfl ⟨rfl, rfl⟩ hyX4_read ⟨Nat.le_of_ble_eq_true rfl, Nat.le_of_ble_eq_true rfl⟩ rfl (Nat.le_of_ble_eq_true rfl) ?_
  refine mm_iload X dX2_fits_8 4 rfl ?_
  refine mm_icmp_ne X dX2_fits_10 (tgt := 51) (by decide) (fun c1 => ?_) (fun c1 => ?_)
  · have h := (if_neg c1).symm.trans h
    refine mm_iconst X dX2_fits_51 (v := 0) (by decide) ?_
    subst h
    exact mm_zret X dX2_fits_52 rfl rfl hQ rfl
  · have h := (if_pos c1).symm.trans h
    refine mm_iload_n X dX2_fits_13 2 rfl ?_
    refine mm_iconst X dX2_fits_14 (v := -1) (by decide) ?_
    refine mm_icmp_eq X dX2_fits_15 (tgt := 30) (by decide) (fun c2 => ?_) (fun c2 => ?_)
    · have h := (if_pos c2).symm.trans h
      refine mm_iload_n X dX2_fits_30 3 rfl ?_
      refine mm_iconst X dX2_fits_31 (v := -1) (by decide) ?_
      refine mm_icmp_eq X dX2_fits_32 (tgt := 47) (by decide) (fun c3 => ?_) (fun c3 => ?_)
      · have h := (if_pos c3).symm.trans h
        refine mm_iconst X dX2_fits_47 (v := 1) (by decide) ?_
        refine mm_goto X dX2_fits_48 (tgt := 52) (by decide) ?_
        subst h
        exact mm_zret X dX2_fits_52 rfl rfl hQ rfl
      · have h := (if_neg c3).symm.trans h
        refine mm_aload_n X dX2_fits_35 0 rfl ?_
        refine mm_get X dX2_fits_36 2 1 (by decide) dv_cf_2 rfl (by decide) uX2_fits_2 kX2_fits_3 rfl (v := .ref (a 38)) rfl ?_
        refine mm_iload_n X dX2_fits_39 1 rfl ?_
        refine mm_callVi X dX2_fits_40 (As := [.int p1]) (rest := []) 38 (by decide) (dv_cf_row (j := 12) (by decide)) rfl hL (mX4_read hJ (j := 12) (by decide) (by decide) (res := (dr_rd σ 12 p1)) rfl) gX2_fits_X4_read rfl ⟨rfl, rfl⟩ hyX4_read ⟨Nat.le_of_ble_eq_true rfl, Nat.le_of_ble_eq_true rfl⟩ rfl (Nat.le_of_ble_eq_true rfl) ?_
        refine mm_iload_n X dX2_fits_43 3 rfl ?_
        refine mm_icmp_ne X dX2_fits_44 (tgt := 51) (by decide) (fun c4 => ?_) (fun c4 => ?_)
        · have h := (if_neg c4).symm.trans h
          refine mm_iconst X dX2_fits_51 (v := 0) (by decide) ?_
          subst h
          exact mm_zret X dX2_fits_52 rfl rfl hQ rfl
        · have h := (if_pos c4).symm.trans h
          refine mm_iconst X dX2_fits_47 (v := 1) (by decide) ?_
          refine mm_goto X dX2_fits_48 (tgt := 52) (by decide) ?_
          subst h
          exact mm_zret X dX2_fits_52 rfl rfl hQ rfl
    · have h := (if_neg c2).symm.trans h
      refine mm_aload_n X dX2_fits_18 0 rfl ?_
      refine mm_get X dX2_fits_19 2 2 (by decide) dv_cf_2 rfl (by decide) uX2_fits_2 kX2_fits_2 rfl (v := .ref (a 39)) rfl ?_
      refine mm_iload_n X dX2_fits_22 1 rfl ?_
      refine mm_callVi X dX2_fits_23 (As := [.int p1]) (rest := []) 39 (by decide) (dv_cf_row (j := 13) (by decide)) rfl hL (mX4_read hJ (j := 13) (by decide) (by decide) (res := (dr_rd σ 13 p1)) rfl) gX2_fits_X4_read rfl ⟨rfl, rfl⟩ hyX4_read ⟨Nat.le_of_ble_eq_true rfl, Nat.le_of_ble_eq_true rfl⟩ rfl (Nat.le_of_ble_eq_true rfl) ?_
      refine mm_iload_n X dX2_fits_26 2 rfl ?_
      refine mm_icmp_ne X dX2_fits_27 (tgt := 51) (by decide) (fun c5 => ?_) (fun c5 => ?_)
      · have h := (if_neg c5).symm.trans h
        refine mm_iconst X dX2_fits_51 (v := 0) (by decide) ?_
        subst h
        exact mm_zret X dX2_fits_52 rfl rfl hQ rfl
      · have h := (if_pos c5).symm.trans h
        refine mm_iload_n X dX2_fits_30 3 rfl ?_
        refine mm_iconst X dX2_fits_31 (v := -1) (by decide) ?_
        refine mm_icmp_eq X dX2_fits_32 (tgt := 47) (by decide) (fun c6 => ?_) (fun c6 => ?_)
        · have h := (if_pos c6).symm.trans h
          refine mm_iconst X dX2_fits_47 (v := 1) (by decide) ?_
          refine mm_goto X dX2_fits_48 (tgt := 52) (by decide) ?_
          subst h
          exact mm_zret X dX2_fits_52 rfl rfl hQ rfl
        · have h := (if_neg c6).symm.trans h
          refine mm_aload_n X dX2_fits_35 0 rfl ?_
          refine mm_get X dX2_fits_36 2 1 (by decide) dv_cf_2 rfl (by decide) uX2_fits_2 kX2_fits_3 rfl (v := .ref (a 38)) rfl ?_
          refine mm_iload_n X dX2_fits_39 1 rfl ?_
          refine mm_callVi X dX2_fits_40 (As := [.int p1]) (rest := []) 38 (by decide) (dv_cf_row (j := 12) (by decide)) rfl hL (mX4_read hJ (j := 12) (by decide) (by decide) (res := (dr_rd σ 12 p1)) rfl) gX2_fits_X4_read rfl ⟨rfl, rfl⟩ hyX4_read ⟨Nat.le_of_ble_eq_true rfl, Nat.le_of_ble_eq_true rfl⟩ rfl (Nat.le_of_ble_eq_true rfl) ?_
          refine mm_iload_n X dX2_fits_43 3 rfl ?_
          refine mm_icmp_ne X dX2_fits_44 (tgt := 51) (by decide) (fun c7 => ?_) (fun c7 => ?_)
          · have h := (if_neg c7).symm.trans h
            refine mm_iconst X dX2_fits_51 (v := 0) (by decide) ?_
            subst h
            exact mm_zret X dX2_fits_52 rfl rfl hQ rfl
          · have h := (if_pos c7).symm.trans h
            refine mm_iconst X dX2_fits_47 (v := 1) (by decide) ?_
            refine mm_goto X dX2_fits_48 (tgt := 52) (by decide) ?_
            subst h
            exact mm_zret X dX2_fits_52 rfl rfl hQ rfl
/-! LinenTunnel$Linen.tally -/
def fX2_tally_6 (F : Nat) (σ : mm_M) (l1 : Int32) (l2 : Int32) (l3 : Int32) : Nat → Int32 → Int32 → Option (Int32)
  | 0, _, _ => none
  | k + 1, l4, l5 => (if l5 < (σ 2 0) then fX2_tally_6 F σ l1 l2 l3 k (if (fX2_fits σ l5 l1 l2 l3) = 0 then l4 else (l4 + 1)) (l5 + 1) else some (l4))
def fX2_tally (F : Nat) (σ : mm_M) (p1 p2 p3 : Int32) : Option (Int32) := (fX2_tally_6 F σ p1 p2 p3 F (0 : Int32) (0 : Int32)).bind fun q1 => some q1
abbrev rX2_tally : Room := { frames := 2, cells := 0, slots := 0, locals := 45 }
theorem hyX2_tally : yX2_tally.cls = RX2 ∧ yX2_tally.cls ≠ "java/lang/invoke/MethodHandle" ∧ yX2_tally.cls ≠ "java/lang/invoke/VarHandle" ∧ (parseMethodDescriptor yX2_tally.desc).map (fun d => d.parameters.length) = some 3 := by decide +kernel
theorem kX2_tally_1 : (Cond.fieldLink RX2 9 "LinenTunnel$Linen" "number" "I" : Cond) ∈ wsX2_tally := List.mem_of_getElem? (i := 1) rfl
theorem uX2_tally_2 : ∀ w ∈ u_ws RX2 TX2 7, w ∈ wsX2_tally := fun _ h => (List.mem_cons_of_mem _ (List.mem_append_left _ (List.mem_append_right _ h)))
set_option maxRecDepth 100000 in
set_option maxHeartbeats 4000000 in
theorem tX2_tally_6 {l : Launch} {K : mm_K} {D : va_G} {cI : ClassId} {a : Nat → Nat} (X : dC K rX2_tally cX2_tally 6 (some .int) wsX2_tally RX2 D cI a) (hL : mm_L K l) (hJ : mm_J 59 a) {F : Nat} {σ : mm_M} {l1 : Int32} {l2 : Int32} {l3 : Int32} {out : Int32} (hx : dG K D cI a σ 36 [(4, .int out)] []) : ∀ (k : Nat) (l4 : Int32) (l5 : Int32), fX2_tally_6 F σ l1 l2 l3 k l4 l5 = some out → dG K D cI a σ 6 [(0, .ref (a 2)), (1, .int l1), (2, .int l2), (3, .int l3), (4, .int l4), (5, .int l5)] [] := by
  intro k
  induction k with
  | zero =>
    intro l4 l5 h
    have h : none = some out := h
    cases h
  | succ k ih =>
    intro l4 l5 h
    rw [fX2_tally_6] at h
    refine mm_iload X dX2_tally_6 5 rfl ?_
    refine mm_aload_n X dX2_tally_8 0 rfl ?_
    refine mm_get X dX2_tally_9 2 0 (by decide) dv_cf_2 rfl (by decide) uX2_tally_2 kX2_tally_1 rfl (v := .int (σ 2 0)) rfl ?_
    refine mm_icmp_ge X dX2_tally_12 (tgt := 36) (by decide) (fun c1 => ?_) (fun c1 => ?_)
    · have h := (if_neg c1).symm.trans h
      obtain rfl := Option.some.inj h
      refine mm_loc [4] rfl ?_
      exact hx
    · have h := (if_pos c1).symm.trans h
      refine mm_aload_n X dX2_tally_15 0 rfl ?_
      refine mm_iload X dX2_tally_16 5 rfl ?_
      refine mm_iload_n X dX2_tally_18 1 rfl ?_
      refine mm_iload_n X dX2_tally_19 2 rfl ?_
      refine mm_iload_n X dX2_tally_20 3 rfl ?_
      refine mm_callVi X dX2_tally_21 (As := [.int l5, .int l1, .int l2, .int l3]) (rest := []) 2 (by decide) dv_cf_2 rfl hL (mX2_fits hJ (res := fX2_fits σ l5 l1 l2 l3) rfl) gX2_tally_X2_fits rfl ⟨rfl, rfl⟩ hyX2_fits ⟨Nat.le_of_ble_eq_true rfl, Nat.le_of_ble_eq_true rfl⟩ rfl (Nat.le_of_ble_eq_true rfl) ?_
      have J3 : ∀ (v2 : Int32), v2 = (if (fX2_fits σ l5 l1 l2 l3) = 0 then l4 else (l4 + 1)) → dG K D cI a σ 30 [(0, .ref (a 2)), (1, .int l1), (2, .int l2), (3, .int l3), (4, .int v2), (5, .int l5)] [] := by
        intro v2 ev2
        subst ev2
        refine mm_iinc X dX2_tally_30 5 rfl (v := (l5 + 1)) rfl (by decide) (lv2 := [(5, .int (l5 + 1)), (0, .ref (a 2)), (1, .int l1), (2, .int l2), (3, .int l3), (4, .int (if (fX2_fits σ l5 l1 l2 l3) = 0 then l4 else (l4 + 1)))]) rfl ?_
        refine mm_goto X dX2_tally_33 (tgt := 6) (by decide) ?_
        refine mm_loc [1, 2, 3, 4, 5, 0] rfl ?_
        exact ih _ _ h
      refine mm_if_eq X dX2_tally_24 (tgt := 30) (by decide) (fun c4 => ?_) (fun c4 => ?_)
      · exact J3 _ (by rw [if_pos c4])
      · refine mm_iinc X dX2_tally_27 4 rfl (v := (l4 + 1)) rfl (by decide) (lv2 := [(4, .int (l4 + 1)), (0, .ref (a 2)), (1, .int l1), (2, .int l2), (3, .int l3), (5, .int l5)]) rfl ?_
        refine mm_loc [1, 2, 3, 4, 0, 5] rfl ?_
        exact J3 _ (by rw [if_neg c4])
set_option maxRecDepth 100000 in
set_option maxHeartbeats 4000000 in
theorem mX2_tally {l : Launch} {D : va_G} {cI : ClassId} {a : Nat → Nat} (hJ : mm_J 59 a) {F : Nat} {σ : mm_M} {p1 p2 p3 : Int32} {res : Int32} (h : fX2_tally F σ p1 p2 p3 = some res) (sz : Nat) : Met l yX2_tally wsX2_tally rX2_tally (dP D cI a σ [.ref (a 2), .int p1, .int p2, .int p3] sz) (dQi D cI a res σ sz) 0 0 (mm_A 59 a sz) := by
  refine mm_met (fun sz => dQi D cI a res σ sz) (lv := [(0, .ref (a 2)), (1, .int p1), (2, .int p2), (3, .int p3)]) (ret := (some .int)) (cc := cX2_tally) (maxL := 6) (own := RX2) hJ (by decide +kernel) rfl rfl (Nat.le_of_ble_eq_true rfl) rfl ?_ sz
  intro K hL X hQ
  unfold fX2_tally at h
  refine mm_iconst X dX2_tally_0 (v := 0) (by decide) ?_
  refine mm_istore X dX2_tally_1 (by decide) (lv2 := [(4, .int (0 : Int32)), (0, .ref (a 2)), (1, .int p1), (2, .int p2), (3, .int p3)]) rfl ?_
  refine mm_iconst X dX2_tally_3 (v := 0) (by decide) ?_
  refine mm_istore X dX2_tally_4 (by decide) (lv2 := [(5, .int (0 : Int32)), (4, .int (0 : Int32)), (0, .ref (a 2)), (1, .int p1), (2, .int p2), (3, .int p3)]) rfl ?_
  obtain ⟨q1, hq1, h⟩ := Option.bind_eq_some_iff.mp h
  refine mm_loc [2, 3, 4, 5, 1, 0] rfl ?_
  refine tX2_tally_6 X hL hJ ?_ F (0 : Int32) (0 : Int32) hq1
  refine mm_iload X dX2_tally_36 0 rfl ?_
  obtain rfl := Option.some.inj h
  exact mm_iret X dX2_tally_38 rfl hQ rfl
/-! LinenTunnel.pieces -/
def fX7_pieces (F : Nat) (σ : mm_M) (p1 p2 p3 : Int32) : Option (Int32) := (if (fX7_isOwnerOrAny p1) = 0 then some (-2 : Int32) else (if (fX7_isKindOrAny σ p2) = 0 then some (-2 : Int32) else (if (fX7_isPlace p3) = 0 then some (-2 : Int32) else (fX2_tally F σ p1 p2 p3).bind fun q4 => some q4)))
abbrev rX7_pieces : Room := { frames := 3, cells := 0, slots := 0, locals := 70 }
theorem hyX7_pieces : yX7_pieces.cls = RX7 ∧ yX7_pieces.cls ≠ "java/lang/invoke/MethodHandle" ∧ yX7_pieces.cls ≠ "java/lang/invoke/VarHandle" ∧ (parseMethodDescriptor yX7_pieces.desc).map (fun d => d.parameters.length) = some 3 := by decide +kernel
theorem kX7_pieces_1 : (Cond.fieldLink RX7 19 "LinenTunnel" "linen" "LLinenTunnel$Linen;" : Cond) ∈ wsX7_pieces := List.mem_of_getElem? (i := 1) rfl
theorem uX7_pieces_7 : ∀ w ∈ u_ws RX7 TX7 7, w ∈ wsX7_pieces := fun _ h => (List.mem_cons_of_mem _ (List.mem_append_left _ (List.mem_append_left _ (List.mem_append_left _ (List.mem_append_right _ h)))))
set_option maxRecDepth 100000 in
set_option maxHeartbeats 4000000 in
theorem mX7_pieces {l : Launch} {D : va_G} {cI : ClassId} {a : Nat → Nat} (hJ : mm_J 59 a) {F : Nat} {σ : mm_M} {p1 p2 p3 : Int32} {res : Int32} (h : fX7_pieces F σ p1 p2 p3 = some res) (sz : Nat) : Met l yX7_pieces wsX7_pieces rX7_pieces (dP D cI a σ [.ref (a 0), .int p1, .int p2, .int p3] sz) (dQi D cI a res σ sz) 0 0 (mm_A 59 a sz) := by
  refine mm_met (fun sz => dQi D cI a res σ sz) (lv := [(0, .ref (a 0)), (1, .int p1), (2, .int p2), (3, .int p3)]) (ret := (some .int)) (cc := cX7_pieces) (maxL := 4) (own := RX7) hJ (by decide +kernel) rfl rfl (Nat.le_of_ble_eq_true rfl) rfl ?_ sz
  intro K hL X hQ
  unfold fX7_pieces at h
  refine mm_iload_n X dX7_pieces_0 1 rfl ?_
  refine mm_callSi X dX7_pieces_1 (As := [.int p1]) (rest := []) hL (mX7_isOwnerOrAny hJ (res := fX7_isOwnerOrAny p1) rfl) gX7_pieces_X7_isOwnerOrAny rfl ⟨rfl, rfl⟩ hyX7_isOwnerOrAny ⟨Nat.le_of_ble_eq_true rfl, Nat.le_of_ble_eq_true rfl⟩ rfl (Nat.le_of_ble_eq_true rfl) ?_
  refine mm_if_eq X dX7_pieces_4 (tgt := 22) (by decide) (fun c1 => ?_) (fun c1 => ?_)
  · have h := (if_pos c1).symm.trans h
    refine mm_bipush X dX7_pieces_22 (v := -2) (by decide) ?_
    obtain rfl := Option.some.inj h
    exact mm_iret X dX7_pieces_24 rfl hQ rfl
  · have h := (if_neg c1).symm.trans h
    refine mm_aload_n X dX7_pieces_7 0 rfl ?_
    refine mm_iload_n X dX7_pieces_8 2 rfl ?_
    refine mm_callVi X dX7_pieces_9 (As := [.int p2]) (rest := []) 0 (by decide) dv_cf_0 rfl hL (mX7_isKindOrAny hJ (res := fX7_isKindOrAny σ p2) rfl) gX7_pieces_X7_isKindOrAny rfl ⟨rfl, rfl⟩ hyX7_isKindOrAny ⟨Nat.le_of_ble_eq_true rfl, Nat.le_of_ble_eq_true rfl⟩ rfl (Nat.le_of_ble_eq_true rfl) ?_
    refine mm_if_eq X dX7_pieces_12 (tgt := 22) (by decide) (fun c2 => ?_) (fun c2 => ?_)
    · have h := (if_pos c2).symm.trans h
      refine mm_bipush X dX7_pieces_22 (v := -2) (by decide) ?_
      obtain rfl := Option.some.inj h
      exact mm_iret X dX7_pieces_24 rfl hQ rfl
    · have h := (if_neg c2).symm.trans h
      refine mm_iload_n X dX7_pieces_15 3 rfl ?_
      refine mm_callSi X dX7_pieces_16 (As := [.int p3]) (rest := []) hL (mX7_isPlace hJ (res := fX7_isPlace p3) rfl) gX7_pieces_X7_isPlace rfl ⟨rfl, rfl⟩ hyX7_isPlace ⟨Nat.le_of_ble_eq_true rfl, Nat.le_of_ble_eq_true rfl⟩ rfl (Nat.le_of_ble_eq_true rfl) ?_
      refine mm_if_ne X dX7_pieces_19 (tgt := 25) (by decide) (fun c3 => ?_) (fun c3 => ?_)
      · have h := (if_neg c3).symm.trans h
        refine mm_aload_n X dX7_pieces_25 0 rfl ?_
        refine mm_get X dX7_pieces_26 0 1 (by decide) dv_cf_0 rfl (by decide) uX7_pieces_7 kX7_pieces_1 rfl (v := .ref (a 2)) rfl ?_
        refine mm_iload_n X dX7_pieces_29 1 rfl ?_
        refine mm_iload_n X dX7_pieces_30 2 rfl ?_
        refine mm_iload_n X dX7_pieces_31 3 rfl ?_
        obtain ⟨q4, hq4, h⟩ := Option.bind_eq_some_iff.mp h
        refine mm_callVi X dX7_pieces_32 (As := [.int p1, .int p2, .int p3]) (rest := []) 2 (by decide) dv_cf_2 rfl hL (mX2_tally hJ hq4) gX7_pieces_X2_tally rfl ⟨rfl, rfl⟩ hyX2_tally ⟨Nat.le_of_ble_eq_true rfl, Nat.le_of_ble_eq_true rfl⟩ rfl (Nat.le_of_ble_eq_true rfl) ?_
        obtain rfl := Option.some.inj h
        exact mm_iret X dX7_pieces_35 rfl hQ rfl
      · have h := (if_pos c3).symm.trans h
        refine mm_bipush X dX7_pieces_22 (v := -2) (by decide) ?_
        obtain rfl := Option.some.inj h
        exact mm_iret X dX7_pieces_24 rfl hQ rfl
/-! LinenTunnel.isSheet -/
def fX7_isSheet (p0 : Int32) : Int32 := (fX7_within p0 (0 : Int32) (3 : Int32))
theorem bX7_isSheet {p0 : Int32} : narrow .boolean (.int (fX7_isSheet p0)) = .int (fX7_isSheet p0) := by
  unfold fX7_isSheet
  first | exact bX7_within | exact rfl | ((repeat' split) <;> first | rfl | exact bX7_within)
abbrev rX7_isSheet : Room := { frames := 1, cells := 0, slots := 0, locals := 22 }
theorem hyX7_isSheet : yX7_isSheet.cls ≠ "java/lang/invoke/MethodHandle" ∧ yX7_isSheet.cls ≠ "java/lang/invoke/VarHandle" ∧ (parseMethodDescriptor yX7_isSheet.desc).map (fun d => d.parameters.length) = some 1 := by decide +kernel
set_option maxRecDepth 100000 in
set_option maxHeartbeats 4000000 in
theorem mX7_isSheet {l : Launch} {D : va_G} {cI : ClassId} {a : Nat → Nat} (hJ : mm_J 59 a) {σ : mm_M} {p0 : Int32} {res : Int32} (h : fX7_isSheet p0 = res) (sz : Nat) : Met l yX7_isSheet wsX7_isSheet rX7_isSheet (dP D cI a σ [.int p0] sz) (dQi D cI a res σ sz) 0 0 (mm_A 59 a sz) := by
  refine mm_met (fun sz => dQi D cI a res σ sz) (lv := [(0, .int p0)]) (ret := (some .boolean)) (cc := cX7_isSheet) (maxL := 1) (own := RX7) hJ (by decide +kernel) rfl rfl (Nat.le_of_ble_eq_true rfl) rfl ?_ sz
  intro K hL X hQ
  unfold fX7_isSheet at h
  refine mm_iload_n X dX7_isSheet_0 0 rfl ?_
  refine mm_iconst X dX7_isSheet_1 (v := 0) (by decide) ?_
  refine mm_iconst X dX7_isSheet_2 (v := 3) (by decide) ?_
  refine mm_callSi X dX7_isSheet_3 (As := [.int p0, .int (0 : Int32), .int (3 : Int32)]) (rest := []) hL (mX7_within hJ (res := fX7_within p0 (0 : Int32) (3 : Int32)) rfl) gX7_isSheet_X7_within rfl ⟨rfl, rfl⟩ hyX7_within ⟨Nat.le_of_ble_eq_true rfl, Nat.le_of_ble_eq_true rfl⟩ rfl (Nat.le_of_ble_eq_true rfl) ?_
  subst h
  exact mm_zret X dX7_isSheet_6 rfl bX7_within hQ rfl
/-! LinenTunnel$Sheets.isLost -/
def fX5_isLost (σ : mm_M) (p1 : Int32) : Int32 := (if (dr_rd σ 30 p1) = (-1 : Int32) then (1 : Int32) else (0 : Int32))
theorem bX5_isLost {σ : mm_M} {p1 : Int32} : narrow .boolean (.int (fX5_isLost σ p1)) = .int (fX5_isLost σ p1) := by
  unfold fX5_isLost
  first | exact rfl | ((repeat' split) <;> first | rfl)
abbrev rX5_isLost : Room := { frames := 1, cells := 0, slots := 0, locals := 21 }
theorem hyX5_isLost : yX5_isLost.cls = RX5 ∧ yX5_isLost.cls ≠ "java/lang/invoke/MethodHandle" ∧ yX5_isLost.cls ≠ "java/lang/invoke/VarHandle" ∧ (parseMethodDescriptor yX5_isLost.desc).map (fun d => d.parameters.length) = some 1 := by decide +kernel
theorem kX5_isLost_1 : (Cond.fieldLink RX5 14 "LinenTunnel$Sheets" "form" "LLinenTunnel$Row;" : Cond) ∈ wsX5_isLost := List.mem_of_getElem? (i := 1) rfl
theorem uX5_isLost_5 : ∀ w ∈ u_ws RX5 TX5 3, w ∈ wsX5_isLost := fun _ h => (List.mem_cons_of_mem _ (List.mem_append_left _ (List.mem_append_right _ h)))
set_option maxRecDepth 100000 in
set_option maxHeartbeats 4000000 in
theorem mX5_isLost {l : Launch} {D : va_G} {cI : ClassId} {a : Nat → Nat} (hJ : mm_J 59 a) {σ : mm_M} {p1 : Int32} {res : Int32} (h : fX5_isLost σ p1 = res) (sz : Nat) : Met l yX5_isLost wsX5_isLost rX5_isLost (dP D cI a σ [.ref (a 6), .int p1] sz) (dQi D cI a res σ sz) 0 0 (mm_A 59 a sz) := by
  refine mm_met (fun sz => dQi D cI a res σ sz) (lv := [(0, .ref (a 6)), (1, .int p1)]) (ret := (some .boolean)) (cc := cX5_isLost) (maxL := 2) (own := RX5) hJ (by decide +kernel) rfl rfl (Nat.le_of_ble_eq_true rfl) rfl ?_ sz
  intro K hL X hQ
  unfold fX5_isLost at h
  refine mm_aload_n X dX5_isLost_0 0 rfl ?_
  refine mm_get X dX5_isLost_1 6 0 (by decide) dv_cf_6 rfl (by decide) uX5_isLost_5 kX5_isLost_1 rfl (v := .ref (a 56)) rfl ?_
  refine mm_iload_n X dX5_isLost_4 1 rfl ?_
  refine mm_callVi X dX5_isLost_5 (As := [.int p1]) (rest := []) 56 (by decide) (dv_cf_row (j := 30) (by decide)) rfl hL (mX4_read hJ (j := 30) (by decide) (by decide) (res := (dr_rd σ 30 p1)) rfl) gX5_isLost_X4_read rfl ⟨rfl, rfl⟩ hyX4_read ⟨Nat.le_of_ble_eq_true rfl, Nat.le_of_ble_eq_true rfl⟩ rfl (Nat.le_of_ble_eq_true rfl) ?_
  refine mm_iconst X dX5_isLost_8 (v := -1) (by decide) ?_
  refine mm_icmp_ne X dX5_isLost_9 (tgt := 16) (by decide) (fun c1 => ?_) (fun c1 => ?_)
  · have h := (if_neg c1).symm.trans h
    refine mm_iconst X dX5_isLost_16 (v := 0) (by decide) ?_
    subst h
    exact mm_zret X dX5_isLost_17 rfl rfl hQ rfl
  · have h := (if_pos c1).symm.trans h
    refine mm_iconst X dX5_isLost_12 (v := 1) (by decide) ?_
    refine mm_goto X dX5_isLost_13 (tgt := 17) (by decide) ?_
    subst h
    exact mm_zret X dX5_isLost_17 rfl rfl hQ rfl
/-! LinenTunnel.find -/
def fX7_find (σ : mm_M) (p1 : Int32) : Int32 × mm_M := (((-10 : Int32) - p1), (mm_up σ 0 6 p1))
abbrev rX7_find : Room := { frames := 0, cells := 0, slots := 0, locals := 0 }
theorem hyX7_find : yX7_find.cls = RX7 ∧ yX7_find.cls ≠ "java/lang/invoke/MethodHandle" ∧ yX7_find.cls ≠ "java/lang/invoke/VarHandle" ∧ (parseMethodDescriptor yX7_find.desc).map (fun d => d.parameters.length) = some 1 := by decide +kernel
theorem kX7_find_1 : (Cond.fieldLink RX7 57 "LinenTunnel" "latestFinding" "I" : Cond) ∈ wsX7_find := List.mem_of_getElem? (i := 1) rfl
theorem uX7_find_7 : ∀ w ∈ u_ws RX7 TX7 7, w ∈ wsX7_find := fun _ h => (List.mem_cons_of_mem _ (List.mem_append_right _ h))
set_option maxRecDepth 100000 in
set_option maxHeartbeats 4000000 in
theorem mX7_find {l : Launch} {D : va_G} {cI : ClassId} {a : Nat → Nat} (hJ : mm_J 59 a) {σ : mm_M} {p1 : Int32} {res : Int32 × mm_M} (h : fX7_find σ p1 = res) (sz : Nat) : Met l yX7_find wsX7_find rX7_find (dP D cI a σ [.ref (a 0), .int p1] sz) (dQi D cI a res.1 res.2 sz) 0 0 (mm_A 59 a sz) := by
  refine mm_met (fun sz => dQi D cI a res.1 res.2 sz) (lv := [(0, .ref (a 0)), (1, .int p1)]) (ret := (some .int)) (cc := cX7_find) (maxL := 2) (own := RX7) hJ (by decide +kernel) rfl rfl (Nat.le_of_ble_eq_true rfl) rfl ?_ sz
  intro K hL X hQ
  unfold fX7_find at h
  refine mm_aload_n X dX7_find_0 0 rfl ?_
  refine mm_iload_n X dX7_find_1 1 rfl ?_
  refine mm_put X dX7_find_2 0 6 (by decide) tyX7 tyX7_ok nmX7 dv_cf_0 rfl rfl (by decide) uX7_find_7 kX7_find_1 rfl rfl rfl (Nat.le_of_ble_eq_true rfl) ?_
  refine mm_bipush X dX7_find_5 (v := -10) (by decide) ?_
  refine mm_iload_n X dX7_find_7 1 rfl ?_
  refine mm_isub X dX7_find_8 ?_
  subst h
  exact mm_iret X dX7_find_9 rfl hQ rfl
/-! LinenTunnel$Sheets.holds -/
def fX5_holds (σ : mm_M) (p1 p2 p3 : Int32) : Int32 := (if p2 < 0 then (0 : Int32) else (if p3 < 0 then (0 : Int32) else (if (dr_rd σ 31 p1) < p2 then (0 : Int32) else (if ((dr_rd σ 31 p1) - p2) < p3 then (0 : Int32) else (1 : Int32)))))
theorem bX5_holds {σ : mm_M} {p1 p2 p3 : Int32} : narrow .boolean (.int (fX5_holds σ p1 p2 p3)) = .int (fX5_holds σ p1 p2 p3) := by
  unfold fX5_holds
  first | exact rfl | ((repeat' split) <;> first | rfl)
abbrev rX5_holds : Room := { frames := 1, cells := 0, slots := 0, locals := 21 }
theorem hyX5_holds : yX5_holds.cls = RX5 ∧ yX5_holds.cls ≠ "java/lang/invoke/MethodHandle" ∧ yX5_holds.cls ≠ "java/lang/invoke/VarHandle" ∧ (parseMethodDescriptor yX5_holds.desc).map (fun d => d.parameters.length) = some 3 := by decide +kernel
theorem kX5_holds_1 : (Cond.fieldLink RX5 20 "LinenTunnel$Sheets" "size" "LLinenTunnel$Row;" : Cond) ∈ wsX5_holds := List.mem_of_getElem? (i := 1) rfl
theorem uX5_holds_5 : ∀ w ∈ u_ws RX5 TX5 3, w ∈ wsX5_holds := fun _ h => (List.mem_cons_of_mem _ (List.mem_append_left _ (List.mem_append_right _ h)))
set_option maxRecDepth 100000 in
set_option maxHeartbeats 4000000 in
theorem mX5_holds {l : Launch} {D : va_G} {cI : ClassId} {a : Nat → Nat} (hJ : mm_J 59 a) {σ : mm_M} {p1 p2 p3 : Int32} {res : Int32} (h : fX5_holds σ p1 p2 p3 = res) (sz : Nat) : Met l yX5_holds wsX5_holds rX5_holds (dP D cI a σ [.ref (a 6), .int p1, .int p2, .int p3] sz) (dQi D cI a res σ sz) 0 0 (mm_A 59 a sz) := by
  refine mm_met (fun sz => dQi D cI a res σ sz) (lv := [(0, .ref (a 6)), (1, .int p1), (2, .int p2), (3, .int p3)]) (ret := (some .boolean)) (cc := cX5_holds) (maxL := 4) (own := RX5) hJ (by decide +kernel) rfl rfl (Nat.le_of_ble_eq_true rfl) rfl ?_ sz
  intro K hL X hQ
  unfold fX5_holds at h
  refine mm_iload_n X dX5_holds_0 2 rfl ?_
  refine mm_if_lt X dX5_holds_1 (tgt := 38) (by decide) (fun c1 => ?_) (fun c1 => ?_)
  · have h := (if_pos c1).symm.trans h
    refine mm_iconst X dX5_holds_38 (v := 0) (by decide) ?_
    subst h
    exact mm_zret X dX5_holds_39 rfl rfl hQ rfl
  · have h := (if_neg c1).symm.trans h
    refine mm_iload_n X dX5_holds_4 3 rfl ?_
    refine mm_if_lt X dX5_holds_5 (tgt := 38) (by decide) (fun c2 => ?_) (fun c2 => ?_)
    · have h := (if_pos c2).symm.trans h
      refine mm_iconst X dX5_holds_38 (v := 0) (by decide) ?_
      subst h
      exact mm_zret X dX5_holds_39 rfl rfl hQ rfl
    · have h := (if_neg c2).symm.trans h
      refine mm_iload_n X dX5_holds_8 2 rfl ?_
      refine mm_aload_n X dX5_holds_9 0 rfl ?_
      refine mm_get X dX5_holds_10 6 1 (by decide) dv_cf_6 rfl (by decide) uX5_holds_5 kX5_holds_1 rfl (v := .ref (a 57)) rfl ?_
      refine mm_iload_n X dX5_holds_13 1 rfl ?_
      refine mm_callVi X dX5_holds_14 (As := [.int p1]) (rest := [.int p2]) 57 (by decide) (dv_cf_row (j := 31) (by decide)) rfl hL (mX4_read hJ (j := 31) (by decide) (by decide) (res := (dr_rd σ 31 p1)) rfl) gX5_holds_X4_read rfl ⟨rfl, rfl⟩ hyX4_read ⟨Nat.le_of_ble_eq_true rfl, Nat.le_of_ble_eq_true rfl⟩ rfl (Nat.le_of_ble_eq_true rfl) ?_
      refine mm_icmp_gt X dX5_holds_17 (tgt := 38) (by decide) (fun c3 => ?_) (fun c3 => ?_)
      · have h := (if_pos c3).symm.trans h
        refine mm_iconst X dX5_holds_38 (v := 0) (by decide) ?_
        subst h
        exact mm_zret X dX5_holds_39 rfl rfl hQ rfl
      · have h := (if_neg c3).symm.trans h
        refine mm_iload_n X dX5_holds_20 3 rfl ?_
        refine mm_aload_n X dX5_holds_21 0 rfl ?_
        refine mm_get X dX5_holds_22 6 1 (by decide) dv_cf_6 rfl (by decide) uX5_holds_5 kX5_holds_1 rfl (v := .ref (a 57)) rfl ?_
        refine mm_iload_n X dX5_holds_25 1 rfl ?_
        refine mm_callVi X dX5_holds_26 (As := [.int p1]) (rest := [.int p3]) 57 (by decide) (dv_cf_row (j := 31) (by decide)) rfl hL (mX4_read hJ (j := 31) (by decide) (by decide) (res := (dr_rd σ 31 p1)) rfl) gX5_holds_X4_read rfl ⟨rfl, rfl⟩ hyX4_read ⟨Nat.le_of_ble_eq_true rfl, Nat.le_of_ble_eq_true rfl⟩ rfl (Nat.le_of_ble_eq_true rfl) ?_
        refine mm_iload_n X dX5_holds_29 2 rfl ?_
        refine mm_isub X dX5_holds_30 ?_
        refine mm_icmp_gt X dX5_holds_31 (tgt := 38) (by decide) (fun c4 => ?_) (fun c4 => ?_)
        · have h := (if_pos c4).symm.trans h
          refine mm_iconst X dX5_holds_38 (v := 0) (by decide) ?_
          subst h
          exact mm_zret X dX5_holds_39 rfl rfl hQ rfl
        · have h := (if_neg c4).symm.trans h
          refine mm_iconst X dX5_holds_34 (v := 1) (by decide) ?_
          refine mm_goto X dX5_holds_35 (tgt := 39) (by decide) ?_
          subst h
          exact mm_zret X dX5_holds_39 rfl rfl hQ rfl
/-! LinenTunnel$Sheets.item -/
def fX5_item (σ : mm_M) (p1 p2 : Int32) : Int32 := (dr_rd σ 32 ((p1 * (60 : Int32)) + p2))
abbrev rX5_item : Room := { frames := 1, cells := 0, slots := 0, locals := 21 }
theorem hyX5_item : yX5_item.cls = RX5 ∧ yX5_item.cls ≠ "java/lang/invoke/MethodHandle" ∧ yX5_item.cls ≠ "java/lang/invoke/VarHandle" ∧ (parseMethodDescriptor yX5_item.desc).map (fun d => d.parameters.length) = some 2 := by decide +kernel
theorem kX5_item_1 : (Cond.fieldLink RX5 23 "LinenTunnel$Sheets" "items" "LLinenTunnel$Row;" : Cond) ∈ wsX5_item := List.mem_of_getElem? (i := 1) rfl
theorem uX5_item_5 : ∀ w ∈ u_ws RX5 TX5 3, w ∈ wsX5_item := fun _ h => (List.mem_cons_of_mem _ (List.mem_append_left _ (List.mem_append_right _ h)))
set_option maxRecDepth 100000 in
set_option maxHeartbeats 4000000 in
theorem mX5_item {l : Launch} {D : va_G} {cI : ClassId} {a : Nat → Nat} (hJ : mm_J 59 a) {σ : mm_M} {p1 p2 : Int32} {res : Int32} (h : fX5_item σ p1 p2 = res) (sz : Nat) : Met l yX5_item wsX5_item rX5_item (dP D cI a σ [.ref (a 6), .int p1, .int p2] sz) (dQi D cI a res σ sz) 0 0 (mm_A 59 a sz) := by
  refine mm_met (fun sz => dQi D cI a res σ sz) (lv := [(0, .ref (a 6)), (1, .int p1), (2, .int p2)]) (ret := (some .int)) (cc := cX5_item) (maxL := 3) (own := RX5) hJ (by decide +kernel) rfl rfl (Nat.le_of_ble_eq_true rfl) rfl ?_ sz
  intro K hL X hQ
  unfold fX5_item at h
  refine mm_aload_n X dX5_item_0 0 rfl ?_
  refine mm_get X dX5_item_1 6 2 (by decide) dv_cf_6 rfl (by decide) uX5_item_5 kX5_item_1 rfl (v := .ref (a 58)) rfl ?_
  refine mm_iload_n X dX5_item_4 1 rfl ?_
  refine mm_bipush X dX5_item_5 (v := 60) (by decide) ?_
  refine mm_imul X dX5_item_7 ?_
  refine mm_iload_n X dX5_item_8 2 rfl ?_
  refine mm_iadd X dX5_item_9 ?_
  refine mm_callVi X dX5_item_10 (As := [.int ((p1 * (60 : Int32)) + p2)]) (rest := []) 58 (by decide) (dv_cf_row (j := 32) (by decide)) rfl hL (mX4_read hJ (j := 32) (by decide) (by decide) (res := (dr_rd σ 32 ((p1 * (60 : Int32)) + p2))) rfl) gX5_item_X4_read rfl ⟨rfl, rfl⟩ hyX4_read ⟨Nat.le_of_ble_eq_true rfl, Nat.le_of_ble_eq_true rfl⟩ rfl (Nat.le_of_ble_eq_true rfl) ?_
  subst h
  exact mm_iret X dX5_item_13 rfl hQ rfl
/-! LinenTunnel.scan -/
def fX7_scan_61 (F : Nat) (l1 : Int32) (l2 : Int32) : Nat → Int32 → Int32 → mm_M → Option (Int32 × mm_M)
  | 0, _, _, _ => none
  | k + 1, l3, l4, σ => (if l4 < l2 then fX7_scan_61 F l1 l2 k (if (fX7_isPiece σ (fX5_item σ l1 l4)) = 0 then l3 else (if (dr_rd σ 14 (fX5_item σ l1 l4)) = (1 : Int32) then (if (fX7_soilFrom σ (fX5_item σ l1 l4) (0 : Int32)).1 = (1 : Int32) then (l3 + 1) else l3) else l3)) (l4 + 1) (if (fX7_isPiece σ (fX5_item σ l1 l4)) = 0 then σ else (if (dr_rd σ 14 (fX5_item σ l1 l4)) = (1 : Int32) then (if (fX7_soilFrom σ (fX5_item σ l1 l4) (0 : Int32)).1 = (1 : Int32) then (fX7_soilFrom σ (fX5_item σ l1 l4) (0 : Int32)).2 else (fX7_soilFrom σ (fX5_item σ l1 l4) (0 : Int32)).2) else σ)) else some (l3, σ))
def fX7_scan (F : Nat) (σ : mm_M) (p1 p2 : Int32) : Option (Int32 × mm_M) := (if (fX7_isSheet p1) = 0 then some ((-2 : Int32), σ) else (if (fX7_within p2 (0 : Int32) (60 : Int32)) = 0 then some ((-2 : Int32), σ) else (if (fX5_isLost σ p1) = 0 then (if (fX5_holds σ p1 (0 : Int32) p2) = 0 then some ((fX7_find σ (2 : Int32)).1, (fX7_find σ (2 : Int32)).2) else (fX7_scan_61 F p1 p2 F (0 : Int32) (0 : Int32) σ).bind fun q5 => some (q5.1, q5.2)) else some ((fX7_find σ (1 : Int32)).1, (fX7_find σ (1 : Int32)).2))))
abbrev rX7_scan : Room := { frames := 3, cells := 0, slots := 0, locals := 65 }
theorem hyX7_scan : yX7_scan.cls = RX7 ∧ yX7_scan.cls ≠ "java/lang/invoke/MethodHandle" ∧ yX7_scan.cls ≠ "java/lang/invoke/VarHandle" ∧ (parseMethodDescriptor yX7_scan.desc).map (fun d => d.parameters.length) = some 2 := by decide +kernel
theorem kX7_scan_1 : (Cond.fieldLink RX7 53 "LinenTunnel" "sheets" "LLinenTunnel$Sheets;" : Cond) ∈ wsX7_scan := List.mem_of_getElem? (i := 1) rfl
theorem uX7_scan_7 : ∀ w ∈ u_ws RX7 TX7 7, w ∈ wsX7_scan := fun _ h => (List.mem_cons_of_mem _ (List.mem_append_left _ (List.mem_append_left _ (List.mem_append_left _ (List.mem_append_right _ h)))))
theorem kX7_scan_2 : (Cond.fieldLink RX7 19 "LinenTunnel" "linen" "LLinenTunnel$Linen;" : Cond) ∈ wsX7_scan := List.mem_of_getElem? (i := 2) rfl
theorem uX7_scan_2 : ∀ w ∈ u_ws RX2 TX2 7, w ∈ wsX7_scan := fun _ h => (List.mem_cons_of_mem _ (List.mem_append_left _ (List.mem_append_left _ (List.mem_append_right _ h))))
set_option maxRecDepth 100000 in
set_option maxHeartbeats 4000000 in
theorem tX7_scan_61 {l : Launch} {K : mm_K} {D : va_G} {cI : ClassId} {a : Nat → Nat} (X : dC K rX7_scan cX7_scan 6 (some .int) wsX7_scan RX7 D cI a) (hL : mm_L K l) (hJ : mm_J 59 a) {F : Nat} {l1 : Int32} {l2 : Int32} {out : Int32 × mm_M} (hx : dG K D cI a out.2 124 [(3, .int out.1)] []) : ∀ (k : Nat) (l3 : Int32) (l4 : Int32) (σ : mm_M), fX7_scan_61 F l1 l2 k l3 l4 σ = some out → dG K D cI a σ 61 [(0, .ref (a 0)), (1, .int l1), (2, .int l2), (3, .int l3), (4, .int l4)] [] := by
  intro k
  induction k with
  | zero =>
    intro l3 l4 σ h
    have h : none = some out := h
    cases h
  | succ k ih =>
    intro l3 l4 σ h
    rw [fX7_scan_61] at h
    refine mm_iload X dX7_scan_61 4 rfl ?_
    refine mm_iload_n X dX7_scan_63 2 rfl ?_
    refine mm_icmp_ge X dX7_scan_64 (tgt := 124) (by decide) (fun c1 => ?_) (fun c1 => ?_)
    · have h := (if_neg c1).symm.trans h
      obtain rfl := Option.some.inj h
      refine mm_loc [3] rfl ?_
      exact hx
    · have h := (if_pos c1).symm.trans h
      refine mm_aload_n X dX7_scan_67 0 rfl ?_
      refine mm_get X dX7_scan_68 0 5 (by decide) dv_cf_0 rfl (by decide) uX7_scan_7 kX7_scan_1 rfl (v := .ref (a 6)) rfl ?_
      refine mm_iload_n X dX7_scan_71 1 rfl ?_
      refine mm_iload X dX7_scan_72 4 rfl ?_
      refine mm_callVi X dX7_scan_74 (As := [.int l1, .int l4]) (rest := []) 6 (by decide) dv_cf_6 rfl hL (mX5_item hJ (res := fX5_item σ l1 l4) rfl) gX7_scan_X5_item rfl ⟨rfl, rfl⟩ hyX5_item ⟨Nat.le_of_ble_eq_true rfl, Nat.le_of_ble_eq_true rfl⟩ rfl (Nat.le_of_ble_eq_true rfl) ?_
      refine mm_istore X dX7_scan_77 (by decide) (lv2 := [(5, .int (fX5_item σ l1 l4)), (0, .ref (a 0)), (1, .int l1), (2, .int l2), (3, .int l3), (4, .int l4)]) rfl ?_
      refine mm_aload_n X dX7_scan_79 1 rfl ?_
      refine mm_iload X dX7_scan_80 0 rfl ?_
      refine mm_callVi X dX7_scan_82 (As := [.int (fX5_item σ l1 l4)]) (rest := []) 0 (by decide) dv_cf_0 rfl hL (mX7_isPiece hJ (res := fX7_isPiece σ (fX5_item σ l1 l4)) rfl) gX7_scan_X7_isPiece rfl ⟨rfl, rfl⟩ hyX7_isPiece ⟨Nat.le_of_ble_eq_true rfl, Nat.le_of_ble_eq_true rfl⟩ rfl (Nat.le_of_ble_eq_true rfl) ?_
      have J4 : ∀ (v2 : Int32) (v3 : mm_M), v2 = (if (fX7_isPiece σ (fX5_item σ l1 l4)) = 0 then l3 else (if (dr_rd σ 14 (fX5_item σ l1 l4)) = (1 : Int32) then (if (fX7_soilFrom σ (fX5_item σ l1 l4) (0 : Int32)).1 = (1 : Int32) then (l3 + 1) else l3) else l3)) → v3 = (if (fX7_isPiece σ (fX5_item σ l1 l4)) = 0 then σ else (if (dr_rd σ 14 (fX5_item σ l1 l4)) = (1 : Int32) then (if (fX7_soilFrom σ (fX5_item σ l1 l4) (0 : Int32)).1 = (1 : Int32) then (fX7_soilFrom σ (fX5_item σ l1 l4) (0 : Int32)).2 else (fX7_soilFrom σ (fX5_item σ l1 l4) (0 : Int32)).2) else σ)) → dG K D cI a v3 118 [(0, .ref (a 0)), (1, .int l1), (2, .int l2), (3, .int v2), (4, .int l4)] [] := by
        intro v2 v3 ev2 ev3
        subst ev2
        subst ev3
        refine mm_iinc X dX7_scan_118 4 rfl (v := (l4 + 1)) rfl (by decide) (lv2 := [(4, .int (l4 + 1)), (0, .ref (a 0)), (1, .int l1), (2, .int l2), (3, .int (if (fX7_isPiece σ (fX5_item σ l1 l4)) = 0 then l3 else (if (dr_rd σ 14 (fX5_item σ l1 l4)) = (1 : Int32) then (if (fX7_soilFrom σ (fX5_item σ l1 l4) (0 : Int32)).1 = (1 : Int32) then (l3 + 1) else l3) else l3)))]) rfl ?_
        refine mm_goto X dX7_scan_121 (tgt := 61) (by decide) ?_
        refine mm_loc [1, 2, 3, 4, 0] rfl ?_
        exact ih _ _ _ h
      refine mm_if_eq X dX7_scan_85 (tgt := 118) (by decide) (fun c5 => ?_) (fun c5 => ?_)
      · refine mm_loc [1, 2, 3, 4, 5] rfl ?_
        exact J4 _ _ (by rw [if_pos c5]) (by rw [if_pos c5])
      · refine mm_aload_n X dX7_scan_88 1 rfl ?_
        refine mm_get X dX7_scan_89 0 1 (by decide) dv_cf_0 rfl (by decide) uX7_scan_7 kX7_scan_2 rfl (v := .ref (a 2)) rfl ?_
        refine mm_getN X dX7_scan_92 2 3 (by decide) dv_cf_2 rfl (by decide) uX7_scan_2 (List.mem_of_getElem? (i := 7) rfl) rfl (v := .ref (a 40)) rfl ?_
        refine mm_iload X dX7_scan_95 0 rfl ?_
        refine mm_callVi X dX7_scan_97 (As := [.int (fX5_item σ l1 l4)]) (rest := []) 40 (by decide) (dv_cf_row (j := 14) (by decide)) rfl hL (mX4_read hJ (j := 14) (by decide) (by decide) (res := (dr_rd σ 14 (fX5_item σ l1 l4))) rfl) gX7_scan_X4_read rfl ⟨rfl, rfl⟩ hyX4_read ⟨Nat.le_of_ble_eq_true rfl, Nat.le_of_ble_eq_true rfl⟩ rfl (Nat.le_of_ble_eq_true rfl) ?_
        refine mm_iconst X dX7_scan_100 (v := 1) (by decide) ?_
        refine mm_icmp_ne X dX7_scan_101 (tgt := 118) (by decide) (fun c6 => ?_) (fun c6 => ?_)
        · refine mm_loc [1, 2, 3, 4, 5] rfl ?_
          exact J4 _ _ (by rw [if_neg c5, if_neg c6]) (by rw [if_neg c5, if_neg c6])
        · refine mm_aload_n X dX7_scan_104 1 rfl ?_
          refine mm_iload X dX7_scan_105 0 rfl ?_
          refine mm_iconst X dX7_scan_107 (v := 0) (by decide) ?_
          refine mm_callVi X dX7_scan_108 (As := [.int (fX5_item σ l1 l4), .int (0 : Int32)]) (rest := []) 0 (by decide) dv_cf_0 rfl hL (mX7_soilFrom hJ (res := fX7_soilFrom σ (fX5_item σ l1 l4) (0 : Int32)) rfl) gX7_scan_X7_soilFrom rfl ⟨rfl, rfl⟩ hyX7_soilFrom ⟨Nat.le_of_ble_eq_true rfl, Nat.le_of_ble_eq_true rfl⟩ rfl (Nat.le_of_ble_eq_true rfl) ?_
          refine mm_iconst X dX7_scan_111 (v := 1) (by decide) ?_
          refine mm_icmp_ne X dX7_scan_112 (tgt := 118) (by decide) (fun c7 => ?_) (fun c7 => ?_)
          · refine mm_loc [1, 2, 3, 4, 5] rfl ?_
            exact J4 _ _ (by rw [if_neg c5, if_pos c6, if_neg c7]) (by rw [if_neg c5, if_pos c6, if_neg c7])
          · refine mm_iinc X dX7_scan_115 4 rfl (v := (l3 + 1)) rfl (by decide) (lv2 := [(3, .int (l3 + 1)), (5, .int (fX5_item σ l1 l4)), (0, .ref (a 0)), (1, .int l1), (2, .int l2), (4, .int l4)]) rfl ?_
            refine mm_loc [2, 3, 4, 0, 5] rfl ?_
            exact J4 _ _ (by rw [if_neg c5, if_pos c6, if_pos c7]) (by rw [if_neg c5, if_pos c6, if_pos c7])
set_option maxRecDepth 100000 in
set_option maxHeartbeats 4000000 in
theorem mX7_scan {l : Launch} {D : va_G} {cI : ClassId} {a : Nat → Nat} (hJ : mm_J 59 a) {F : Nat} {σ : mm_M} {p1 p2 : Int32} {res : Int32 × mm_M} (h : fX7_scan F σ p1 p2 = some res) (sz : Nat) : Met l yX7_scan wsX7_scan rX7_scan (dP D cI a σ [.ref (a 0), .int p1, .int p2] sz) (dQi D cI a res.1 res.2 sz) 0 0 (mm_A 59 a sz) := by
  refine mm_met (fun sz => dQi D cI a res.1 res.2 sz) (lv := [(0, .ref (a 0)), (1, .int p1), (2, .int p2)]) (ret := (some .int)) (cc := cX7_scan) (maxL := 6) (own := RX7) hJ (by decide +kernel) rfl rfl (Nat.le_of_ble_eq_true rfl) rfl ?_ sz
  intro K hL X hQ
  unfold fX7_scan at h
  refine mm_iload_n X dX7_scan_0 1 rfl ?_
  refine mm_callSi X dX7_scan_1 (As := [.int p1]) (rest := []) hL (mX7_isSheet hJ (res := fX7_isSheet p1) rfl) gX7_scan_X7_isSheet rfl ⟨rfl, rfl⟩ hyX7_isSheet ⟨Nat.le_of_ble_eq_true rfl, Nat.le_of_ble_eq_true rfl⟩ rfl (Nat.le_of_ble_eq_true rfl) ?_
  refine mm_if_eq X dX7_scan_4 (tgt := 17) (by decide) (fun c1 => ?_) (fun c1 => ?_)
  · have h := (if_pos c1).symm.trans h
    refine mm_bipush X dX7_scan_17 (v := -2) (by decide) ?_
    obtain rfl := Option.some.inj h
    exact mm_iret X dX7_scan_19 rfl hQ rfl
  · have h := (if_neg c1).symm.trans h
    refine mm_iload_n X dX7_scan_7 2 rfl ?_
    refine mm_iconst X dX7_scan_8 (v := 0) (by decide) ?_
    refine mm_bipush X dX7_scan_9 (v := 60) (by decide) ?_
    refine mm_callSi X dX7_scan_11 (As := [.int p2, .int (0 : Int32), .int (60 : Int32)]) (rest := []) hL (mX7_within hJ (res := fX7_within p2 (0 : Int32) (60 : Int32)) rfl) gX7_scan_X7_within rfl ⟨rfl, rfl⟩ hyX7_within ⟨Nat.le_of_ble_eq_true rfl, Nat.le_of_ble_eq_true rfl⟩ rfl (Nat.le_of_ble_eq_true rfl) ?_
    refine mm_if_ne X dX7_scan_14 (tgt := 20) (by decide) (fun c2 => ?_) (fun c2 => ?_)
    · have h := (if_neg c2).symm.trans h
      refine mm_aload_n X dX7_scan_20 0 rfl ?_
      refine mm_get X dX7_scan_21 0 5 (by decide) dv_cf_0 rfl (by decide) uX7_scan_7 kX7_scan_1 rfl (v := .ref (a 6)) rfl ?_
      refine mm_iload_n X dX7_scan_24 1 rfl ?_
      refine mm_callVi X dX7_scan_25 (As := [.int p1]) (rest := []) 6 (by decide) dv_cf_6 rfl hL (mX5_isLost hJ (res := fX5_isLost σ p1) rfl) gX7_scan_X5_isLost rfl ⟨rfl, rfl⟩ hyX5_isLost ⟨Nat.le_of_ble_eq_true rfl, Nat.le_of_ble_eq_true rfl⟩ rfl (Nat.le_of_ble_eq_true rfl) ?_
      refine mm_if_eq X dX7_scan_28 (tgt := 37) (by decide) (fun c3 => ?_) (fun c3 => ?_)
      · have h := (if_pos c3).symm.trans h
        refine mm_aload_n X dX7_scan_37 0 rfl ?_
        refine mm_get X dX7_scan_38 0 5 (by decide) dv_cf_0 rfl (by decide) uX7_scan_7 kX7_scan_1 rfl (v := .ref (a 6)) rfl ?_
        refine mm_iload_n X dX7_scan_41 1 rfl ?_
        refine mm_iconst X dX7_scan_42 (v := 0) (by decide) ?_
        refine mm_iload_n X dX7_scan_43 2 rfl ?_
        refine mm_callVi X dX7_scan_44 (As := [.int p1, .int (0 : Int32), .int p2]) (rest := []) 6 (by decide) dv_cf_6 rfl hL (mX5_holds hJ (res := fX5_holds σ p1 (0 : Int32) p2) rfl) gX7_scan_X5_holds rfl ⟨rfl, rfl⟩ hyX5_holds ⟨Nat.le_of_ble_eq_true rfl, Nat.le_of_ble_eq_true rfl⟩ rfl (Nat.le_of_ble_eq_true rfl) ?_
        refine mm_if_ne X dX7_scan_47 (tgt := 56) (by decide) (fun c4 => ?_) (fun c4 => ?_)
        · have h := (if_neg c4).symm.trans h
          refine mm_iconst X dX7_scan_56 (v := 0) (by decide) ?_
          refine mm_istore_n X dX7_scan_57 (by decide) (lv2 := [(3, .int (0 : Int32)), (0, .ref (a 0)), (1, .int p1), (2, .int p2)]) rfl ?_
          refine mm_iconst X dX7_scan_58 (v := 0) (by decide) ?_
          refine mm_istore X dX7_scan_59 (by decide) (lv2 := [(4, .int (0 : Int32)), (3, .int (0 : Int32)), (0, .ref (a 0)), (1, .int p1), (2, .int p2)]) rfl ?_
          obtain ⟨q5, hq5, h⟩ := Option.bind_eq_some_iff.mp h
          refine mm_loc [2, 3, 4, 1, 0] rfl ?_
          refine tX7_scan_61 X hL hJ ?_ F (0 : Int32) (0 : Int32) σ hq5
          refine mm_iload_n X dX7_scan_124 0 rfl ?_
          obtain rfl := Option.some.inj h
          exact mm_iret X dX7_scan_125 rfl hQ rfl
        · have h := (if_pos c4).symm.trans h
          refine mm_aload_n X dX7_scan_50 0 rfl ?_
          refine mm_iconst X dX7_scan_51 (v := 2) (by decide) ?_
          refine mm_callVi X dX7_scan_52 (As := [.int (2 : Int32)]) (rest := []) 0 (by decide) dv_cf_0 rfl hL (mX7_find hJ (res := fX7_find σ (2 : Int32)) rfl) gX7_scan_X7_find rfl ⟨rfl, rfl⟩ hyX7_find ⟨Nat.le_of_ble_eq_true rfl, Nat.le_of_ble_eq_true rfl⟩ rfl (Nat.le_of_ble_eq_true rfl) ?_
          obtain rfl := Option.some.inj h
          exact mm_iret X dX7_scan_55 rfl hQ rfl
      · have h := (if_neg c3).symm.trans h
        refine mm_aload_n X dX7_scan_31 0 rfl ?_
        refine mm_iconst X dX7_scan_32 (v := 1) (by decide) ?_
        refine mm_callVi X dX7_scan_33 (As := [.int (1 : Int32)]) (rest := []) 0 (by decide) dv_cf_0 rfl hL (mX7_find hJ (res := fX7_find σ (1 : Int32)) rfl) gX7_scan_X7_find rfl ⟨rfl, rfl⟩ hyX7_find ⟨Nat.le_of_ble_eq_true rfl, Nat.le_of_ble_eq_true rfl⟩ rfl (Nat.le_of_ble_eq_true rfl) ?_
        obtain rfl := Option.some.inj h
        exact mm_iret X dX7_scan_36 rfl hQ rfl
    · have h := (if_pos c2).symm.trans h
      refine mm_bipush X dX7_scan_17 (v := -2) (by decide) ?_
      obtain rfl := Option.some.inj h
      exact mm_iret X dX7_scan_19 rfl hQ rfl
/-! LinenTunnel.hand -/
def fX7_hand (σ : mm_M) (p1 : Int32) : Int32 × mm_M := ((fX7_soilFrom σ p1 (0 : Int32)).1, (fX7_soilFrom σ p1 (0 : Int32)).2)
abbrev rX7_hand : Room := { frames := 3, cells := 0, slots := 0, locals := 65 }
theorem hyX7_hand : yX7_hand.cls = RX7 ∧ yX7_hand.cls ≠ "java/lang/invoke/MethodHandle" ∧ yX7_hand.cls ≠ "java/lang/invoke/VarHandle" ∧ (parseMethodDescriptor yX7_hand.desc).map (fun d => d.parameters.length) = some 1 := by decide +kernel
set_option maxRecDepth 100000 in
set_option maxHeartbeats 4000000 in
theorem mX7_hand {l : Launch} {D : va_G} {cI : ClassId} {a : Nat → Nat} (hJ : mm_J 59 a) {σ : mm_M} {p1 : Int32} {res : Int32 × mm_M} (h : fX7_hand σ p1 = res) (sz : Nat) : Met l yX7_hand wsX7_hand rX7_hand (dP D cI a σ [.ref (a 0), .int p1] sz) (dQi D cI a res.1 res.2 sz) 0 0 (mm_A 59 a sz) := by
  refine mm_met (fun sz => dQi D cI a res.1 res.2 sz) (lv := [(0, .ref (a 0)), (1, .int p1)]) (ret := (some .int)) (cc := cX7_hand) (maxL := 2) (own := RX7) hJ (by decide +kernel) rfl rfl (Nat.le_of_ble_eq_true rfl) rfl ?_ sz
  intro K hL X hQ
  unfold fX7_hand at h
  refine mm_aload_n X dX7_hand_0 0 rfl ?_
  refine mm_iload_n X dX7_hand_1 1 rfl ?_
  refine mm_iconst X dX7_hand_2 (v := 0) (by decide) ?_
  refine mm_callVi X dX7_hand_3 (As := [.int p1, .int (0 : Int32)]) (rest := []) 0 (by decide) dv_cf_0 rfl hL (mX7_soilFrom hJ (res := fX7_soilFrom σ p1 (0 : Int32)) rfl) gX7_hand_X7_soilFrom rfl ⟨rfl, rfl⟩ hyX7_soilFrom ⟨Nat.le_of_ble_eq_true rfl, Nat.le_of_ble_eq_true rfl⟩ rfl (Nat.le_of_ble_eq_true rfl) ?_
  subst h
  exact mm_iret X dX7_hand_6 rfl hQ rfl
/-! LinenTunnel$Linen.fillBatch -/
def fX2_fillBatch_6 (F : Nat) (l1 : Int32) (l2 : Int32) (l3 : Int32) (l4 : Int32) : Nat → Int32 → Int32 → mm_M → Option (Int32 × mm_M)
  | 0, _, _, _ => none
  | k + 1, l5, l6, σ => (if l6 < (σ 2 0) then (if l5 < l4 then fX2_fillBatch_6 F l1 l2 l3 l4 k (if (fX2_fits σ l6 l3 l2 (1 : Int32)) = 0 then l5 else (l5 + 1)) (l6 + 1) (if (fX2_fits σ l6 l3 l2 (1 : Int32)) = 0 then σ else (dr_wr (dr_wr σ 15 l6 (2 : Int32)) 17 l6 l1)) else some (l5, σ)) else some (l5, σ))
def fX2_fillBatch (F : Nat) (σ : mm_M) (p1 p2 p3 p4 : Int32) : Option (Int32 × mm_M) := (fX2_fillBatch_6 F p1 p2 p3 p4 F (0 : Int32) (0 : Int32) σ).bind fun q1 => some (q1.1, q1.2)
abbrev rX2_fillBatch : Room := { frames := 2, cells := 0, slots := 0, locals := 45 }
theorem hyX2_fillBatch : yX2_fillBatch.cls = RX2 ∧ yX2_fillBatch.cls ≠ "java/lang/invoke/MethodHandle" ∧ yX2_fillBatch.cls ≠ "java/lang/invoke/VarHandle" ∧ (parseMethodDescriptor yX2_fillBatch.desc).map (fun d => d.parameters.length) = some 4 := by decide +kernel
theorem kX2_fillBatch_1 : (Cond.fieldLink RX2 9 "LinenTunnel$Linen" "number" "I" : Cond) ∈ wsX2_fillBatch := List.mem_of_getElem? (i := 1) rfl
theorem uX2_fillBatch_2 : ∀ w ∈ u_ws RX2 TX2 7, w ∈ wsX2_fillBatch := fun _ h => (List.mem_cons_of_mem _ (List.mem_append_left _ (List.mem_append_right _ h)))
theorem kX2_fillBatch_2 : (Cond.fieldLink RX2 30 "LinenTunnel$Linen" "place" "LLinenTunnel$Row;" : Cond) ∈ wsX2_fillBatch := List.mem_of_getElem? (i := 2) rfl
theorem kX2_fillBatch_3 : (Cond.fieldLink RX2 36 "LinenTunnel$Linen" "batch" "LLinenTunnel$Row;" : Cond) ∈ wsX2_fillBatch := List.mem_of_getElem? (i := 3) rfl
set_option maxRecDepth 100000 in
set_option maxHeartbeats 4000000 in
theorem tX2_fillBatch_6 {l : Launch} {K : mm_K} {D : va_G} {cI : ClassId} {a : Nat → Nat} (X : dC K rX2_fillBatch cX2_fillBatch 7 (some .int) wsX2_fillBatch RX2 D cI a) (hL : mm_L K l) (hJ : mm_J 59 a) {F : Nat} {l1 : Int32} {l2 : Int32} {l3 : Int32} {l4 : Int32} {out : Int32 × mm_M} (hx : dG K D cI a out.2 63 [(5, .int out.1)] []) : ∀ (k : Nat) (l5 : Int32) (l6 : Int32) (σ : mm_M), fX2_fillBatch_6 F l1 l2 l3 l4 k l5 l6 σ = some out → dG K D cI a σ 6 [(0, .ref (a 2)), (1, .int l1), (2, .int l2), (3, .int l3), (4, .int l4), (5, .int l5), (6, .int l6)] [] := by
  intro k
  induction k with
  | zero =>
    intro l5 l6 σ h
    have h : none = some out := h
    cases h
  | succ k ih =>
    intro l5 l6 σ h
    rw [fX2_fillBatch_6] at h
    refine mm_iload X dX2_fillBatch_6 6 rfl ?_
    refine mm_aload_n X dX2_fillBatch_8 0 rfl ?_
    refine mm_get X dX2_fillBatch_9 2 0 (by decide) dv_cf_2 rfl (by decide) uX2_fillBatch_2 kX2_fillBatch_1 rfl (v := .int (σ 2 0)) rfl ?_
    refine mm_icmp_ge X dX2_fillBatch_12 (tgt := 63) (by decide) (fun c1 => ?_) (fun c1 => ?_)
    · have h := (if_neg c1).symm.trans h
      obtain rfl := Option.some.inj h
      refine mm_loc [5] rfl ?_
      exact hx
    · have h := (if_pos c1).symm.trans h
      refine mm_iload X dX2_fillBatch_15 5 rfl ?_
      refine mm_iload X dX2_fillBatch_17 4 rfl ?_
      refine mm_icmp_ge X dX2_fillBatch_19 (tgt := 63) (by decide) (fun c2 => ?_) (fun c2 => ?_)
      · have h := (if_neg c2).symm.trans h
        obtain rfl := Option.some.inj h
        refine mm_loc [5] rfl ?_
        exact hx
      · have h := (if_pos c2).symm.trans h
        refine mm_aload_n X dX2_fillBatch_22 0 rfl ?_
        refine mm_iload X dX2_fillBatch_23 6 rfl ?_
        refine mm_iload_n X dX2_fillBatch_25 3 rfl ?_
        refine mm_iload_n X dX2_fillBatch_26 2 rfl ?_
        refine mm_iconst X dX2_fillBatch_27 (v := 1) (by decide) ?_
        refine mm_callVi X dX2_fillBatch_28 (As := [.int l6, .int l3, .int l2, .int (1 : Int32)]) (rest := []) 2 (by decide) dv_cf_2 rfl hL (mX2_fits hJ (res := fX2_fits σ l6 l3 l2 (1 : Int32)) rfl) gX2_fillBatch_X2_fits rfl ⟨rfl, rfl⟩ hyX2_fits ⟨Nat.le_of_ble_eq_true rfl, Nat.le_of_ble_eq_true rfl⟩ rfl (Nat.le_of_ble_eq_true rfl) ?_
        have J5 : ∀ (v3 : Int32) (v4 : mm_M), v3 = (if (fX2_fits σ l6 l3 l2 (1 : Int32)) = 0 then l5 else (l5 + 1)) → v4 = (if (fX2_fits σ l6 l3 l2 (1 : Int32)) = 0 then σ else (dr_wr (dr_wr σ 15 l6 (2 : Int32)) 17 l6 l1)) → dG K D cI a v4 57 [(0, .ref (a 2)), (1, .int l1), (2, .int l2), (3, .int l3), (4, .int l4), (5, .int v3), (6, .int l6)] [] := by
          intro v3 v4 ev3 ev4
          subst ev3
          subst ev4
          refine mm_iinc X dX2_fillBatch_57 6 rfl (v := (l6 + 1)) rfl (by decide) (lv2 := [(6, .int (l6 + 1)), (0, .ref (a 2)), (1, .int l1), (2, .int l2), (3, .int l3), (4, .int l4), (5, .int (if (fX2_fits σ l6 l3 l2 (1 : Int32)) = 0 then l5 else (l5 + 1)))]) rfl ?_
          refine mm_goto X dX2_fillBatch_60 (tgt := 6) (by decide) ?_
          refine mm_loc [1, 2, 3, 4, 5, 6, 0] rfl ?_
          exact ih _ _ _ h
        refine mm_if_eq X dX2_fillBatch_31 (tgt := 57) (by decide) (fun c6 => ?_) (fun c6 => ?_)
        · exact J5 _ _ (by rw [if_pos c6]) (by rw [if_pos c6])
        · refine mm_aload_n X dX2_fillBatch_34 0 rfl ?_
          refine mm_get X dX2_fillBatch_35 2 4 (by decide) dv_cf_2 rfl (by decide) uX2_fillBatch_2 kX2_fillBatch_2 rfl (v := .ref (a 41)) rfl ?_
          refine mm_iload X dX2_fillBatch_38 6 rfl ?_
          refine mm_iconst X dX2_fillBatch_40 (v := 2) (by decide) ?_
          refine mm_callVv X dX2_fillBatch_41 (As := [.int l6, .int (2 : Int32)]) (rest := []) 41 (by decide) (dv_cf_row (j := 15) (by decide)) rfl hL (mX4_write hJ (j := 15) (by decide) (by decide) (res := dr_wr σ 15 l6 (2 : Int32)) rfl) gX2_fillBatch_X4_write rfl ⟨rfl, rfl⟩ hyX4_write ⟨Nat.le_of_ble_eq_true rfl, Nat.le_of_ble_eq_true rfl⟩ rfl (Nat.le_of_ble_eq_true rfl) ?_
          refine mm_aload_n X dX2_fillBatch_44 0 rfl ?_
          refine mm_get X dX2_fillBatch_45 2 6 (by decide) dv_cf_2 rfl (by decide) uX2_fillBatch_2 kX2_fillBatch_3 rfl (v := .ref (a 43)) rfl ?_
          refine mm_iload X dX2_fillBatch_48 6 rfl ?_
          refine mm_iload_n X dX2_fillBatch_50 1 rfl ?_
          refine mm_callVv X dX2_fillBatch_51 (As := [.int l6, .int l1]) (rest := []) 43 (by decide) (dv_cf_row (j := 17) (by decide)) rfl hL (mX4_write hJ (j := 17) (by decide) (by decide) (res := dr_wr (dr_wr σ 15 l6 (2 : Int32)) 17 l6 l1) rfl) gX2_fillBatch_X4_write rfl ⟨rfl, rfl⟩ hyX4_write ⟨Nat.le_of_ble_eq_true rfl, Nat.le_of_ble_eq_true rfl⟩ rfl (Nat.le_of_ble_eq_true rfl) ?_
          refine mm_iinc X dX2_fillBatch_54 5 rfl (v := (l5 + 1)) rfl (by decide) (lv2 := [(5, .int (l5 + 1)), (0, .ref (a 2)), (1, .int l1), (2, .int l2), (3, .int l3), (4, .int l4), (6, .int l6)]) rfl ?_
          refine mm_loc [1, 2, 3, 4, 5, 0, 6] rfl ?_
          exact J5 _ _ (by rw [if_neg c6]) (by rw [if_neg c6])
set_option maxRecDepth 100000 in
set_option maxHeartbeats 4000000 in
theorem mX2_fillBatch {l : Launch} {D : va_G} {cI : ClassId} {a : Nat → Nat} (hJ : mm_J 59 a) {F : Nat} {σ : mm_M} {p1 p2 p3 p4 : Int32} {res : Int32 × mm_M} (h : fX2_fillBatch F σ p1 p2 p3 p4 = some res) (sz : Nat) : Met l yX2_fillBatch wsX2_fillBatch rX2_fillBatch (dP D cI a σ [.ref (a 2), .int p1, .int p2, .int p3, .int p4] sz) (dQi D cI a res.1 res.2 sz) 0 0 (mm_A 59 a sz) := by
  refine mm_met (fun sz => dQi D cI a res.1 res.2 sz) (lv := [(0, .ref (a 2)), (1, .int p1), (2, .int p2), (3, .int p3), (4, .int p4)]) (ret := (some .int)) (cc := cX2_fillBatch) (maxL := 7) (own := RX2) hJ (by decide +kernel) rfl rfl (Nat.le_of_ble_eq_true rfl) rfl ?_ sz
  intro K hL X hQ
  unfold fX2_fillBatch at h
  refine mm_iconst X dX2_fillBatch_0 (v := 0) (by decide) ?_
  refine mm_istore X dX2_fillBatch_1 (by decide) (lv2 := [(5, .int (0 : Int32)), (0, .ref (a 2)), (1, .int p1), (2, .int p2), (3, .int p3), (4, .int p4)]) rfl ?_
  refine mm_iconst X dX2_fillBatch_3 (v := 0) (by decide) ?_
  refine mm_istore X dX2_fillBatch_4 (by decide) (lv2 := [(6, .int (0 : Int32)), (5, .int (0 : Int32)), (0, .ref (a 2)), (1, .int p1), (2, .int p2), (3, .int p3), (4, .int p4)]) rfl ?_
  obtain ⟨q1, hq1, h⟩ := Option.bind_eq_some_iff.mp h
  refine mm_loc [2, 3, 4, 5, 6, 1, 0] rfl ?_
  refine tX2_fillBatch_6 X hL hJ ?_ F (0 : Int32) (0 : Int32) σ hq1
  refine mm_iload X dX2_fillBatch_63 0 rfl ?_
  obtain rfl := Option.some.inj h
  exact mm_iret X dX2_fillBatch_65 rfl hQ rfl
/-! LinenTunnel$Waiting.add -/
def fX6_add (σ : mm_M) (p1 p2 : Int32) : mm_M := (mm_up (dr_wr (dr_wr (dr_wr σ 18 (σ 3 1) p1) 19 (σ 3 1) p2) 20 (σ 3 1) (σ 3 1)) 3 1 ((σ 3 1) + (1 : Int32)))
abbrev rX6_add : Room := { frames := 1, cells := 0, slots := 0, locals := 22 }
theorem hyX6_add : yX6_add.cls = RX6 ∧ yX6_add.cls ≠ "java/lang/invoke/MethodHandle" ∧ yX6_add.cls ≠ "java/lang/invoke/VarHandle" ∧ (parseMethodDescriptor yX6_add.desc).map (fun d => d.parameters.length) = some 2 := by decide +kernel
theorem kX6_add_1 : (Cond.fieldLink RX6 20 "LinenTunnel$Waiting" "kind" "LLinenTunnel$Row;" : Cond) ∈ wsX6_add := List.mem_of_getElem? (i := 1) rfl
theorem uX6_add_6 : ∀ w ∈ u_ws RX6 TX6 5, w ∈ wsX6_add := fun _ h => (List.mem_cons_of_mem _ (List.mem_append_left _ (List.mem_append_right _ h)))
theorem kX6_add_2 : (Cond.fieldLink RX6 9 "LinenTunnel$Waiting" "number" "I" : Cond) ∈ wsX6_add := List.mem_of_getElem? (i := 2) rfl
theorem kX6_add_3 : (Cond.fieldLink RX6 24 "LinenTunnel$Waiting" "size" "LLinenTunnel$Row;" : Cond) ∈ wsX6_add := List.mem_of_getElem? (i := 3) rfl
theorem kX6_add_4 : (Cond.fieldLink RX6 27 "LinenTunnel$Waiting" "order" "LLinenTunnel$Row;" : Cond) ∈ wsX6_add := List.mem_of_getElem? (i := 4) rfl
set_option maxRecDepth 100000 in
set_option maxHeartbeats 4000000 in
theorem mX6_add {l : Launch} {D : va_G} {cI : ClassId} {a : Nat → Nat} (hJ : mm_J 59 a) {σ : mm_M} {p1 p2 : Int32} {res : mm_M} (h : fX6_add σ p1 p2 = res) (sz : Nat) : Met l yX6_add wsX6_add rX6_add (dP D cI a σ [.ref (a 3), .int p1, .int p2] sz) (dQv D cI a res sz) 0 0 (mm_A 59 a sz) := by
  refine mm_met (fun sz => dQv D cI a res sz) (lv := [(0, .ref (a 3)), (1, .int p1), (2, .int p2)]) (ret := none) (cc := cX6_add) (maxL := 3) (own := RX6) hJ (by decide +kernel) rfl rfl (Nat.le_of_ble_eq_true rfl) rfl ?_ sz
  intro K hL X hQ
  unfold fX6_add at h
  refine mm_aload_n X dX6_add_0 0 rfl ?_
  refine mm_get X dX6_add_1 3 2 (by decide) dv_cf_3 rfl (by decide) uX6_add_6 kX6_add_1 rfl (v := .ref (a 44)) rfl ?_
  refine mm_aload_n X dX6_add_4 0 rfl ?_
  refine mm_get X dX6_add_5 3 1 (by decide) dv_cf_3 rfl (by decide) uX6_add_6 kX6_add_2 rfl (v := .int (σ 3 1)) rfl ?_
  refine mm_iload_n X dX6_add_8 1 rfl ?_
  refine mm_callVv X dX6_add_9 (As := [.int (σ 3 1), .int p1]) (rest := []) 44 (by decide) (dv_cf_row (j := 18) (by decide)) rfl hL (mX4_write hJ (j := 18) (by decide) (by decide) (res := dr_wr σ 18 (σ 3 1) p1) rfl) gX6_add_X4_write rfl ⟨rfl, rfl⟩ hyX4_write ⟨Nat.le_of_ble_eq_true rfl, Nat.le_of_ble_eq_true rfl⟩ rfl (Nat.le_of_ble_eq_true rfl) ?_
  refine mm_aload_n X dX6_add_12 0 rfl ?_
  refine mm_get X dX6_add_13 3 3 (by decide) dv_cf_3 rfl (by decide) uX6_add_6 kX6_add_3 rfl (v := .ref (a 45)) rfl ?_
  refine mm_aload_n X dX6_add_16 0 rfl ?_
  refine mm_get X dX6_add_17 3 1 (by decide) dv_cf_3 rfl (by decide) uX6_add_6 kX6_add_2 rfl (v := .int (σ 3 1)) rfl ?_
  refine mm_iload_n X dX6_add_20 2 rfl ?_
  refine mm_callVv X dX6_add_21 (As := [.int (σ 3 1), .int p2]) (rest := []) 45 (by decide) (dv_cf_row (j := 19) (by decide)) rfl hL (mX4_write hJ (j := 19) (by decide) (by decide) (res := dr_wr (dr_wr σ 18 (σ 3 1) p1) 19 (σ 3 1) p2) rfl) gX6_add_X4_write rfl ⟨rfl, rfl⟩ hyX4_write ⟨Nat.le_of_ble_eq_true rfl, Nat.le_of_ble_eq_true rfl⟩ rfl (Nat.le_of_ble_eq_true rfl) ?_
  refine mm_aload_n X dX6_add_24 0 rfl ?_
  refine mm_get X dX6_add_25 3 4 (by decide) dv_cf_3 rfl (by decide) uX6_add_6 kX6_add_4 rfl (v := .ref (a 46)) rfl ?_
  refine mm_aload_n X dX6_add_28 0 rfl ?_
  refine mm_get X dX6_add_29 3 1 (by decide) dv_cf_3 rfl (by decide) uX6_add_6 kX6_add_2 rfl (v := .int (σ 3 1)) rfl ?_
  refine mm_aload_n X dX6_add_32 0 rfl ?_
  refine mm_get X dX6_add_33 3 1 (by decide) dv_cf_3 rfl (by decide) uX6_add_6 kX6_add_2 rfl (v := .int (σ 3 1)) rfl ?_
  refine mm_callVv X dX6_add_36 (As := [.int (σ 3 1), .int (σ 3 1)]) (rest := []) 46 (by decide) (dv_cf_row (j := 20) (by decide)) rfl hL (mX4_write hJ (j := 20) (by decide) (by decide) (res := dr_wr (dr_wr (dr_wr σ 18 (σ 3 1) p1) 19 (σ 3 1) p2) 20 (σ 3 1) (σ 3 1)) rfl) gX6_add_X4_write rfl ⟨rfl, rfl⟩ hyX4_write ⟨Nat.le_of_ble_eq_true rfl, Nat.le_of_ble_eq_true rfl⟩ rfl (Nat.le_of_ble_eq_true rfl) ?_
  refine mm_aload_n X dX6_add_39 0 rfl ?_
  refine mm_dup X dX6_add_40 rfl ?_
  refine mm_get X dX6_add_41 3 1 (by decide) dv_cf_3 rfl (by decide) uX6_add_6 kX6_add_2 rfl (v := .int (σ 3 1)) rfl ?_
  refine mm_iconst X dX6_add_44 (v := 1) (by decide) ?_
  refine mm_iadd X dX6_add_45 ?_
  refine mm_put X dX6_add_46 3 1 (by decide) tyX6 tyX6_ok nmX6 dv_cf_3 rfl rfl (by decide) uX6_add_6 kX6_add_2 rfl rfl rfl (Nat.le_of_ble_eq_true rfl) ?_
  subst h
  exact mm_vret X dX6_add_49 rfl hQ
/-! LinenTunnel.batch -/
def fX7_batch (F : Nat) (σ : mm_M) (p1 p2 p3 : Int32) : Option (Int32 × mm_M) := (if (fX7_isKind σ p1) = 0 then some ((-2 : Int32), σ) else (if (fX7_isOwnerOrAny p2) = 0 then some ((-2 : Int32), σ) else (if (fX7_within p3 (1 : Int32) (20 : Int32)) = 0 then some ((-2 : Int32), σ) else (if (σ 3 1) < (12 : Int32) then (fX2_fillBatch F σ (σ 3 1) p1 p2 p3).bind fun q5 => (if q5.1 = 0 then some ((-4 : Int32), q5.2) else some (q5.1, (fX6_add q5.2 p1 q5.1))) else some ((-3 : Int32), σ)))))
abbrev rX7_batch : Room := { frames := 3, cells := 0, slots := 0, locals := 71 }
theorem hyX7_batch : yX7_batch.cls = RX7 ∧ yX7_batch.cls ≠ "java/lang/invoke/MethodHandle" ∧ yX7_batch.cls ≠ "java/lang/invoke/VarHandle" ∧ (parseMethodDescriptor yX7_batch.desc).map (fun d => d.parameters.length) = some 3 := by decide +kernel
theorem kX7_batch_1 : (Cond.fieldLink RX7 28 "LinenTunnel" "waiting" "LLinenTunnel$Waiting;" : Cond) ∈ wsX7_batch := List.mem_of_getElem? (i := 1) rfl
theorem uX7_batch_7 : ∀ w ∈ u_ws RX7 TX7 7, w ∈ wsX7_batch := fun _ h => (List.mem_cons_of_mem _ (List.mem_append_left _ (List.mem_append_left _ (List.mem_append_left _ (List.mem_append_left _ (List.mem_append_right _ h))))))
theorem uX7_batch_6 : ∀ w ∈ u_ws RX6 TX6 5, w ∈ wsX7_batch := fun _ h => (List.mem_cons_of_mem _ (List.mem_append_left _ (List.mem_append_left _ (List.mem_append_left _ (List.mem_append_right _ h)))))
theorem kX7_batch_2 : (Cond.fieldLink RX7 19 "LinenTunnel" "linen" "LLinenTunnel$Linen;" : Cond) ∈ wsX7_batch := List.mem_of_getElem? (i := 2) rfl
set_option maxRecDepth 100000 in
set_option maxHeartbeats 4000000 in
theorem mX7_batch {l : Launch} {D : va_G} {cI : ClassId} {a : Nat → Nat} (hJ : mm_J 59 a) {F : Nat} {σ : mm_M} {p1 p2 p3 : Int32} {res : Int32 × mm_M} (h : fX7_batch F σ p1 p2 p3 = some res) (sz : Nat) : Met l yX7_batch wsX7_batch rX7_batch (dP D cI a σ [.ref (a 0), .int p1, .int p2, .int p3] sz) (dQi D cI a res.1 res.2 sz) 0 0 (mm_A 59 a sz) := by
  refine mm_met (fun sz => dQi D cI a res.1 res.2 sz) (lv := [(0, .ref (a 0)), (1, .int p1), (2, .int p2), (3, .int p3)]) (ret := (some .int)) (cc := cX7_batch) (maxL := 5) (own := RX7) hJ (by decide +kernel) rfl rfl (Nat.le_of_ble_eq_true rfl) rfl ?_ sz
  intro K hL X hQ
  unfold fX7_batch at h
  refine mm_aload_n X dX7_batch_0 0 rfl ?_
  refine mm_iload_n X dX7_batch_1 1 rfl ?_
  refine mm_callVi X dX7_batch_2 (As := [.int p1]) (rest := []) 0 (by decide) dv_cf_0 rfl hL (mX7_isKind hJ (res := fX7_isKind σ p1) rfl) gX7_batch_X7_isKind rfl ⟨rfl, rfl⟩ hyX7_isKind ⟨Nat.le_of_ble_eq_true rfl, Nat.le_of_ble_eq_true rfl⟩ rfl (Nat.le_of_ble_eq_true rfl) ?_
  refine mm_if_eq X dX7_batch_5 (tgt := 25) (by decide) (fun c1 => ?_) (fun c1 => ?_)
  · have h := (if_pos c1).symm.trans h
    refine mm_bipush X dX7_batch_25 (v := -2) (by decide) ?_
    obtain rfl := Option.some.inj h
    exact mm_iret X dX7_batch_27 rfl hQ rfl
  · have h := (if_neg c1).symm.trans h
    refine mm_iload_n X dX7_batch_8 2 rfl ?_
    refine mm_callSi X dX7_batch_9 (As := [.int p2]) (rest := []) hL (mX7_isOwnerOrAny hJ (res := fX7_isOwnerOrAny p2) rfl) gX7_batch_X7_isOwnerOrAny rfl ⟨rfl, rfl⟩ hyX7_isOwnerOrAny ⟨Nat.le_of_ble_eq_true rfl, Nat.le_of_ble_eq_true rfl⟩ rfl (Nat.le_of_ble_eq_true rfl) ?_
    refine mm_if_eq X dX7_batch_12 (tgt := 25) (by decide) (fun c2 => ?_) (fun c2 => ?_)
    · have h := (if_pos c2).symm.trans h
      refine mm_bipush X dX7_batch_25 (v := -2) (by decide) ?_
      obtain rfl := Option.some.inj h
      exact mm_iret X dX7_batch_27 rfl hQ rfl
    · have h := (if_neg c2).symm.trans h
      refine mm_iload_n X dX7_batch_15 3 rfl ?_
      refine mm_iconst X dX7_batch_16 (v := 1) (by decide) ?_
      refine mm_bipush X dX7_batch_17 (v := 20) (by decide) ?_
      refine mm_callSi X dX7_batch_19 (As := [.int p3, .int (1 : Int32), .int (20 : Int32)]) (rest := []) hL (mX7_within hJ (res := fX7_within p3 (1 : Int32) (20 : Int32)) rfl) gX7_batch_X7_within rfl ⟨rfl, rfl⟩ hyX7_within ⟨Nat.le_of_ble_eq_true rfl, Nat.le_of_ble_eq_true rfl⟩ rfl (Nat.le_of_ble_eq_true rfl) ?_
      refine mm_if_ne X dX7_batch_22 (tgt := 28) (by decide) (fun c3 => ?_) (fun c3 => ?_)
      · have h := (if_neg c3).symm.trans h
        refine mm_aload_n X dX7_batch_28 0 rfl ?_
        refine mm_get X dX7_batch_29 0 2 (by decide) dv_cf_0 rfl (by decide) uX7_batch_7 kX7_batch_1 rfl (v := .ref (a 3)) rfl ?_
        refine mm_getN X dX7_batch_32 3 1 (by decide) dv_cf_3 rfl (by decide) uX7_batch_6 (List.mem_of_getElem? (i := 13) rfl) rfl (v := .int (σ 3 1)) rfl ?_
        refine mm_bipush X dX7_batch_35 (v := 12) (by decide) ?_
        refine mm_icmp_lt X dX7_batch_37 (tgt := 43) (by decide) (fun c4 => ?_) (fun c4 => ?_)
        · have h := (if_pos c4).symm.trans h
          refine mm_aload_n X dX7_batch_43 0 rfl ?_
          refine mm_get X dX7_batch_44 0 1 (by decide) dv_cf_0 rfl (by decide) uX7_batch_7 kX7_batch_2 rfl (v := .ref (a 2)) rfl ?_
          refine mm_aload_n X dX7_batch_47 0 rfl ?_
          refine mm_get X dX7_batch_48 0 2 (by decide) dv_cf_0 rfl (by decide) uX7_batch_7 kX7_batch_1 rfl (v := .ref (a 3)) rfl ?_
          refine mm_getN X dX7_batch_51 3 1 (by decide) dv_cf_3 rfl (by decide) uX7_batch_6 (List.mem_of_getElem? (i := 13) rfl) rfl (v := .int (σ 3 1)) rfl ?_
          refine mm_iload_n X dX7_batch_54 1 rfl ?_
          refine mm_iload_n X dX7_batch_55 2 rfl ?_
          refine mm_iload_n X dX7_batch_56 3 rfl ?_
          obtain ⟨q5, hq5, h⟩ := Option.bind_eq_some_iff.mp h
          refine mm_callVi X dX7_batch_57 (As := [.int (σ 3 1), .int p1, .int p2, .int p3]) (rest := []) 2 (by decide) dv_cf_2 rfl hL (mX2_fillBatch hJ hq5) gX7_batch_X2_fillBatch rfl ⟨rfl, rfl⟩ hyX2_fillBatch ⟨Nat.le_of_ble_eq_true rfl, Nat.le_of_ble_eq_true rfl⟩ rfl (Nat.le_of_ble_eq_true rfl) ?_
          refine mm_istore X dX7_batch_60 (by decide) (lv2 := [(4, .int q5.1), (0, .ref (a 0)), (1, .int p1), (2, .int p2), (3, .int p3)]) rfl ?_
          refine mm_iload X dX7_batch_62 0 rfl ?_
          refine mm_if_ne X dX7_batch_64 (tgt := 70) (by decide) (fun c6 => ?_) (fun c6 => ?_)
          · have h := (if_neg c6).symm.trans h
            refine mm_aload_n X dX7_batch_70 1 rfl ?_
            refine mm_get X dX7_batch_71 0 2 (by decide) dv_cf_0 rfl (by decide) uX7_batch_7 kX7_batch_1 rfl (v := .ref (a 3)) rfl ?_
            refine mm_iload_n X dX7_batch_74 2 rfl ?_
            refine mm_iload X dX7_batch_75 0 rfl ?_
            refine mm_callVv X dX7_batch_77 (As := [.int p1, .int q5.1]) (rest := []) 3 (by decide) dv_cf_3 rfl hL (mX6_add hJ (res := fX6_add q5.2 p1 q5.1) rfl) gX7_batch_X6_add rfl ⟨rfl, rfl⟩ hyX6_add ⟨Nat.le_of_ble_eq_true rfl, Nat.le_of_ble_eq_true rfl⟩ rfl (Nat.le_of_ble_eq_true rfl) ?_
            refine mm_iload X dX7_batch_80 0 rfl ?_
            obtain rfl := Option.some.inj h
            exact mm_iret X dX7_batch_82 rfl hQ rfl
          · have h := (if_pos c6).symm.trans h
            refine mm_bipush X dX7_batch_67 (v := -4) (by decide) ?_
            obtain rfl := Option.some.inj h
            exact mm_iret X dX7_batch_69 rfl hQ rfl
        · have h := (if_neg c4).symm.trans h
          refine mm_bipush X dX7_batch_40 (v := -3) (by decide) ?_
          obtain rfl := Option.some.inj h
          exact mm_iret X dX7_batch_42 rfl hQ rfl
      · have h := (if_pos c3).symm.trans h
        refine mm_bipush X dX7_batch_25 (v := -2) (by decide) ?_
        obtain rfl := Option.some.inj h
        exact mm_iret X dX7_batch_27 rfl hQ rfl
/-! LinenTunnel.isOrderPlace -/
def fX7_isOrderPlace (σ : mm_M) (p1 : Int32) : Int32 := (fX7_within p1 (0 : Int32) ((σ 3 1) - (1 : Int32)))
theorem bX7_isOrderPlace {σ : mm_M} {p1 : Int32} : narrow .boolean (.int (fX7_isOrderPlace σ p1)) = .int (fX7_isOrderPlace σ p1) := by
  unfold fX7_isOrderPlace
  first | exact bX7_within | exact rfl | ((repeat' split) <;> first | rfl | exact bX7_within)
abbrev rX7_isOrderPlace : Room := { frames := 1, cells := 0, slots := 0, locals := 22 }
theorem hyX7_isOrderPlace : yX7_isOrderPlace.cls = RX7 ∧ yX7_isOrderPlace.cls ≠ "java/lang/invoke/MethodHandle" ∧ yX7_isOrderPlace.cls ≠ "java/lang/invoke/VarHandle" ∧ (parseMethodDescriptor yX7_isOrderPlace.desc).map (fun d => d.parameters.length) = some 1 := by decide +kernel
theorem kX7_isOrderPlace_1 : (Cond.fieldLink RX7 28 "LinenTunnel" "waiting" "LLinenTunnel$Waiting;" : Cond) ∈ wsX7_isOrderPlace := List.mem_of_getElem? (i := 1) rfl
theorem uX7_isOrderPlace_7 : ∀ w ∈ u_ws RX7 TX7 7, w ∈ wsX7_isOrderPlace := fun _ h => (List.mem_cons_of_mem _ (List.mem_append_left _ (List.mem_append_right _ h)))
theorem uX7_isOrderPlace_6 : ∀ w ∈ u_ws RX6 TX6 5, w ∈ wsX7_isOrderPlace := fun _ h => (List.mem_cons_of_mem _ (List.mem_append_right _ h))
set_option maxRecDepth 100000 in
set_option maxHeartbeats 4000000 in
theorem mX7_isOrderPlace {l : Launch} {D : va_G} {cI : ClassId} {a : Nat → Nat} (hJ : mm_J 59 a) {σ : mm_M} {p1 : Int32} {res : Int32} (h : fX7_isOrderPlace σ p1 = res) (sz : Nat) : Met l yX7_isOrderPlace wsX7_isOrderPlace rX7_isOrderPlace (dP D cI a σ [.ref (a 0), .int p1] sz) (dQi D cI a res σ sz) 0 0 (mm_A 59 a sz) := by
  refine mm_met (fun sz => dQi D cI a res σ sz) (lv := [(0, .ref (a 0)), (1, .int p1)]) (ret := (some .boolean)) (cc := cX7_isOrderPlace) (maxL := 2) (own := RX7) hJ (by decide +kernel) rfl rfl (Nat.le_of_ble_eq_true rfl) rfl ?_ sz
  intro K hL X hQ
  unfold fX7_isOrderPlace at h
  refine mm_iload_n X dX7_isOrderPlace_0 1 rfl ?_
  refine mm_iconst X dX7_isOrderPlace_1 (v := 0) (by decide) ?_
  refine mm_aload_n X dX7_isOrderPlace_2 0 rfl ?_
  refine mm_get X dX7_isOrderPlace_3 0 2 (by decide) dv_cf_0 rfl (by decide) uX7_isOrderPlace_7 kX7_isOrderPlace_1 rfl (v := .ref (a 3)) rfl ?_
  refine mm_getN X dX7_isOrderPlace_6 3 1 (by decide) dv_cf_3 rfl (by decide) uX7_isOrderPlace_6 (List.mem_of_getElem? (i := 13) rfl) rfl (v := .int (σ 3 1)) rfl ?_
  refine mm_iconst X dX7_isOrderPlace_9 (v := 1) (by decide) ?_
  refine mm_isub X dX7_isOrderPlace_10 ?_
  refine mm_callSi X dX7_isOrderPlace_11 (As := [.int p1, .int (0 : Int32), .int ((σ 3 1) - (1 : Int32))]) (rest := []) hL (mX7_within hJ (res := fX7_within p1 (0 : Int32) ((σ 3 1) - (1 : Int32))) rfl) gX7_isOrderPlace_X7_within rfl ⟨rfl, rfl⟩ hyX7_within ⟨Nat.le_of_ble_eq_true rfl, Nat.le_of_ble_eq_true rfl⟩ rfl (Nat.le_of_ble_eq_true rfl) ?_
  subst h
  exact mm_zret X dX7_isOrderPlace_14 rfl bX7_within hQ rfl
