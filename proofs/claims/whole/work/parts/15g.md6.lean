/-! LinenTunnelModel.washed -/
def fX8_washed (σ : mm_M) (p1 : Int32) : Option (Int32) := (if (fX8_in p1 (0 : Int32) (6 : Int32)) = 0 then some (-2 : Int32) else mm_g 7 p1 (some (σ 21 p1.toNatClampNeg)))
abbrev rX8_washed : Room := { frames := 1, cells := 0, slots := 0, locals := 22 }
theorem hyX8_washed : yX8_washed.cls = RX8 ∧ yX8_washed.cls ≠ "java/lang/invoke/MethodHandle" ∧ yX8_washed.cls ≠ "java/lang/invoke/VarHandle" ∧ (parseMethodDescriptor yX8_washed.desc).map (fun d => d.parameters.length) = some 1 := by decide +kernel
theorem kX8_washed_1 : (Cond.fieldLink RX8 81 "LinenTunnelModel" "washed" "[I" : Cond) ∈ wsX8_washed := List.mem_of_getElem? (i := 1) rfl
theorem uX8_washed_8 : ∀ w ∈ u_ws RX8 TX8 37, w ∈ wsX8_washed := fun _ h => (List.mem_cons_of_mem _ (List.mem_append_right _ h))
set_option maxRecDepth 100000 in
set_option maxHeartbeats 4000000 in
theorem mX8_washed {l : Launch} {D : va_G} {cI cZ : ClassId} {a : Nat → Nat} (hJ : mm_J 29 a) {σ : mm_M} {p1 : Int32} {res : Int32} (h : fX8_washed σ p1 = some res) (sz : Nat) : Met l yX8_washed wsX8_washed rX8_washed (eP D cI cZ a σ [.ref (a 0), .int p1] sz) (eQi D cI cZ a res σ sz) 0 0 (mm_A 29 a sz) := by
  refine mm_met (fun sz => eQi D cI cZ a res σ sz) (lv := [(0, .ref (a 0)), (1, .int p1)]) (ret := (some .int)) (cc := cX8_washed) (maxL := 2) (own := RX8) hJ (by decide +kernel) rfl rfl (Nat.le_of_ble_eq_true rfl) rfl ?_ sz
  intro K hL X hQ
  unfold fX8_washed at h
  refine mm_iload_n X dX8_washed_0 1 rfl ?_
  refine mm_iconst X dX8_washed_1 (v := 0) (by decide) ?_
  refine mm_bipush X dX8_washed_2 (v := 6) (by decide) ?_
  refine mm_callSi X dX8_washed_4 (As := [.int p1, .int (0 : Int32), .int (6 : Int32)]) (rest := []) hL (mX8_in hJ (res := fX8_in p1 (0 : Int32) (6 : Int32)) rfl) gX8_washed_X8_in rfl ⟨rfl, rfl⟩ hyX8_in ⟨Nat.le_of_ble_eq_true rfl, Nat.le_of_ble_eq_true rfl⟩ rfl (Nat.le_of_ble_eq_true rfl) ?_
  refine mm_if_eq X dX8_washed_7 (tgt := 19) (by decide) (fun c1 => ?_) (fun c1 => ?_)
  · have h := (if_pos c1).symm.trans h
    refine mm_bipush X dX8_washed_19 (v := -2) (by decide) ?_
    obtain rfl := Option.some.inj h
    exact mm_iret X dX8_washed_21 rfl hQ rfl
  · have h := (if_neg c1).symm.trans h
    refine mm_aload_n X dX8_washed_10 0 rfl ?_
    refine mm_get X dX8_washed_11 0 27 (by decide) md_cf_0 rfl (by decide) uX8_washed_8 kX8_washed_1 rfl (v := .ref (a 21)) rfl ?_
    refine mm_iload_n X dX8_washed_14 1 rfl ?_
    obtain ⟨hi2, h⟩ := mm_g_some h
    refine mm_iald X dX8_washed_15 21 0 (by decide) rfl rfl hi2 (v := (σ 21 p1.toNatClampNeg)) rfl ?_
    refine mm_goto X dX8_washed_16 (tgt := 21) (by decide) ?_
    obtain rfl := Option.some.inj h
    exact mm_iret X dX8_washed_21 rfl hQ rfl
/-! LinenTunnelModel.run -/
def fX8_run (σ : mm_M) (p1 p2 : Int32) : Option (Int32) := (if (fX8_in p1 (0 : Int32) ((σ 0 28) - (1 : Int32))) = 0 then some (-2 : Int32) else (if (fX8_in p2 (0 : Int32) (6 : Int32)) = 0 then some (-2 : Int32) else mm_g 84 (((7 : Int32) * p1) + p2) (some (σ 22 (((7 : Int32) * p1) + p2).toNatClampNeg))))
abbrev rX8_run : Room := { frames := 1, cells := 0, slots := 0, locals := 22 }
theorem hyX8_run : yX8_run.cls = RX8 ∧ yX8_run.cls ≠ "java/lang/invoke/MethodHandle" ∧ yX8_run.cls ≠ "java/lang/invoke/VarHandle" ∧ (parseMethodDescriptor yX8_run.desc).map (fun d => d.parameters.length) = some 2 := by decide +kernel
theorem kX8_run_1 : (Cond.fieldLink RX8 157 "LinenTunnelModel" "runs" "I" : Cond) ∈ wsX8_run := List.mem_of_getElem? (i := 1) rfl
theorem uX8_run_8 : ∀ w ∈ u_ws RX8 TX8 37, w ∈ wsX8_run := fun _ h => (List.mem_cons_of_mem _ (List.mem_append_right _ h))
theorem kX8_run_2 : (Cond.fieldLink RX8 84 "LinenTunnelModel" "runRows" "[I" : Cond) ∈ wsX8_run := List.mem_of_getElem? (i := 2) rfl
set_option maxRecDepth 100000 in
set_option maxHeartbeats 4000000 in
theorem mX8_run {l : Launch} {D : va_G} {cI cZ : ClassId} {a : Nat → Nat} (hJ : mm_J 29 a) {σ : mm_M} {p1 p2 : Int32} {res : Int32} (h : fX8_run σ p1 p2 = some res) (sz : Nat) : Met l yX8_run wsX8_run rX8_run (eP D cI cZ a σ [.ref (a 0), .int p1, .int p2] sz) (eQi D cI cZ a res σ sz) 0 0 (mm_A 29 a sz) := by
  refine mm_met (fun sz => eQi D cI cZ a res σ sz) (lv := [(0, .ref (a 0)), (1, .int p1), (2, .int p2)]) (ret := (some .int)) (cc := cX8_run) (maxL := 3) (own := RX8) hJ (by decide +kernel) rfl rfl (Nat.le_of_ble_eq_true rfl) rfl ?_ sz
  intro K hL X hQ
  unfold fX8_run at h
  refine mm_iload_n X dX8_run_0 1 rfl ?_
  refine mm_iconst X dX8_run_1 (v := 0) (by decide) ?_
  refine mm_aload_n X dX8_run_2 0 rfl ?_
  refine mm_get X dX8_run_3 0 28 (by decide) md_cf_0 rfl (by decide) uX8_run_8 kX8_run_1 rfl (v := .int (σ 0 28)) rfl ?_
  refine mm_iconst X dX8_run_6 (v := 1) (by decide) ?_
  refine mm_isub X dX8_run_7 ?_
  refine mm_callSi X dX8_run_8 (As := [.int p1, .int (0 : Int32), .int ((σ 0 28) - (1 : Int32))]) (rest := []) hL (mX8_in hJ (res := fX8_in p1 (0 : Int32) ((σ 0 28) - (1 : Int32))) rfl) gX8_run_X8_in rfl ⟨rfl, rfl⟩ hyX8_in ⟨Nat.le_of_ble_eq_true rfl, Nat.le_of_ble_eq_true rfl⟩ rfl (Nat.le_of_ble_eq_true rfl) ?_
  refine mm_if_eq X dX8_run_11 (tgt := 38) (by decide) (fun c1 => ?_) (fun c1 => ?_)
  · have h := (if_pos c1).symm.trans h
    refine mm_bipush X dX8_run_38 (v := -2) (by decide) ?_
    obtain rfl := Option.some.inj h
    exact mm_iret X dX8_run_40 rfl hQ rfl
  · have h := (if_neg c1).symm.trans h
    refine mm_iload_n X dX8_run_14 2 rfl ?_
    refine mm_iconst X dX8_run_15 (v := 0) (by decide) ?_
    refine mm_bipush X dX8_run_16 (v := 6) (by decide) ?_
    refine mm_callSi X dX8_run_18 (As := [.int p2, .int (0 : Int32), .int (6 : Int32)]) (rest := []) hL (mX8_in hJ (res := fX8_in p2 (0 : Int32) (6 : Int32)) rfl) gX8_run_X8_in rfl ⟨rfl, rfl⟩ hyX8_in ⟨Nat.le_of_ble_eq_true rfl, Nat.le_of_ble_eq_true rfl⟩ rfl (Nat.le_of_ble_eq_true rfl) ?_
    refine mm_if_eq X dX8_run_21 (tgt := 38) (by decide) (fun c2 => ?_) (fun c2 => ?_)
    · have h := (if_pos c2).symm.trans h
      refine mm_bipush X dX8_run_38 (v := -2) (by decide) ?_
      obtain rfl := Option.some.inj h
      exact mm_iret X dX8_run_40 rfl hQ rfl
    · have h := (if_neg c2).symm.trans h
      refine mm_aload_n X dX8_run_24 0 rfl ?_
      refine mm_get X dX8_run_25 0 29 (by decide) md_cf_0 rfl (by decide) uX8_run_8 kX8_run_2 rfl (v := .ref (a 22)) rfl ?_
      refine mm_bipush X dX8_run_28 (v := 7) (by decide) ?_
      refine mm_iload_n X dX8_run_30 1 rfl ?_
      refine mm_imul X dX8_run_31 ?_
      refine mm_iload_n X dX8_run_32 2 rfl ?_
      refine mm_iadd X dX8_run_33 ?_
      obtain ⟨hi3, h⟩ := mm_g_some h
      refine mm_iald X dX8_run_34 22 0 (by decide) rfl rfl hi3 (v := (σ 22 (((7 : Int32) * p1) + p2).toNatClampNeg)) rfl ?_
      refine mm_goto X dX8_run_35 (tgt := 40) (by decide) ?_
      obtain rfl := Option.some.inj h
      exact mm_iret X dX8_run_40 rfl hQ rfl
/-! LinenTunnelModel.pack -/
def fX8_pack_36 (F : Nat) (σ : mm_M) (l1 : Int32) (l2 : Int32) (l3 : Int32) : Nat → Int32 → Int32 → Option (Int32)
  | 0, _, _ => none
  | k + 1, l4, l5 => (if l5 < (σ 0 6) then (fX8_is σ l5 l1 l2 (3 : Int32)).bind fun q2 => fX8_pack_36 F σ l1 l2 l3 k (l4 + (if q2 = 0 then (0 : Int32) else (1 : Int32))) (l5 + 1) else some (l4))
def fX8_pack_93 (F : Nat) (l1 : Int32) (l2 : Int32) (l3 : Int32) : Nat → Int32 → Int32 → mm_M → Option (mm_M)
  | 0, _, _, _ => none
  | k + 1, l5, l6, σ => (if l6 < (σ 0 6) then (if 0 < l5 then (fX8_is σ l6 l1 l2 (3 : Int32)).bind fun q3 => ((if q3 = 0 then some (l5, σ) else mm_g 100 l6 (some ((l5 + (-1 : Int32)), (mm_up σ 9 l6.toNatClampNeg (0 : Int32)))))).bind fun q4 => fX8_pack_93 F l1 l2 l3 k q4.1 (l6 + 1) q4.2 else some (σ)) else some (σ))
def fX8_pack (F : Nat) (σ : mm_M) (p1 p2 p3 : Int32) : Option (Int32 × mm_M) := (if (fX8_in p1 (0 : Int32) (5 : Int32)) = 0 then some ((-2 : Int32), σ) else (if (fX8_isKind σ p2) = 0 then some ((-2 : Int32), σ) else (if (fX8_in p3 (1 : Int32) (40 : Int32)) = 0 then some ((-2 : Int32), σ) else (fX8_pack_36 F σ p1 p2 p3 F (0 : Int32) (0 : Int32)).bind fun q4 => (if q4 < p3 then some (((-100 : Int32) - (p3 - q4)), σ) else (fX8_pack_93 F p1 p2 p3 F p3 (0 : Int32) σ).bind fun q6 => some (p3, q6)))))
abbrev rX8_pack : Room := { frames := 2, cells := 0, slots := 0, locals := 43 }
theorem hyX8_pack : yX8_pack.cls = RX8 ∧ yX8_pack.cls ≠ "java/lang/invoke/MethodHandle" ∧ yX8_pack.cls ≠ "java/lang/invoke/VarHandle" ∧ (parseMethodDescriptor yX8_pack.desc).map (fun d => d.parameters.length) = some 3 := by decide +kernel
theorem kX8_pack_1 : (Cond.fieldLink RX8 112 "LinenTunnelModel" "pieceMany" "I" : Cond) ∈ wsX8_pack := List.mem_of_getElem? (i := 1) rfl
theorem uX8_pack_8 : ∀ w ∈ u_ws RX8 TX8 37, w ∈ wsX8_pack := fun _ h => (List.mem_cons_of_mem _ (List.mem_append_right _ h))
theorem kX8_pack_2 : (Cond.fieldLink RX8 35 "LinenTunnelModel" "placeOf" "[I" : Cond) ∈ wsX8_pack := List.mem_of_getElem? (i := 2) rfl
set_option maxRecDepth 100000 in
set_option maxHeartbeats 4000000 in
theorem tX8_pack_36 {l : Launch} {K : mm_K} {D : va_G} {cI cZ : ClassId} {a : Nat → Nat} (X : eC K rX8_pack cX8_pack 7 (some .int) wsX8_pack RX8 D cI cZ a) (hL : mm_L K l) (hJ : mm_J 29 a) {F : Nat} {σ : mm_M} {l1 : Int32} {l2 : Int32} {l3 : Int32} {out : Int32} (hx : eG K D cI cZ a σ 73 [(0, .ref (a 0)), (1, .int l1), (2, .int l2), (3, .int l3), (4, .int out)] []) : ∀ (k : Nat) (l4 : Int32) (l5 : Int32), fX8_pack_36 F σ l1 l2 l3 k l4 l5 = some out → eG K D cI cZ a σ 36 [(0, .ref (a 0)), (1, .int l1), (2, .int l2), (3, .int l3), (4, .int l4), (5, .int l5)] [] := by
  intro k
  induction k with
  | zero =>
    intro l4 l5 h
    have h : none = some out := h
    cases h
  | succ k ih =>
    intro l4 l5 h
    rw [fX8_pack_36] at h
    refine mm_iload X dX8_pack_36 5 rfl ?_
    refine mm_aload_n X dX8_pack_38 0 rfl ?_
    refine mm_get X dX8_pack_39 0 6 (by decide) md_cf_0 rfl (by decide) uX8_pack_8 kX8_pack_1 rfl (v := .int (σ 0 6)) rfl ?_
    refine mm_icmp_ge X dX8_pack_42 (tgt := 73) (by decide) (fun c1 => ?_) (fun c1 => ?_)
    · have h := (if_neg c1).symm.trans h
      obtain rfl := Option.some.inj h
      refine mm_loc [0, 1, 2, 3, 4] rfl ?_
      exact hx
    · have h := (if_pos c1).symm.trans h
      refine mm_iload X dX8_pack_45 4 rfl ?_
      refine mm_aload_n X dX8_pack_47 0 rfl ?_
      refine mm_iload X dX8_pack_48 5 rfl ?_
      refine mm_iload_n X dX8_pack_50 1 rfl ?_
      refine mm_iload_n X dX8_pack_51 2 rfl ?_
      refine mm_iconst X dX8_pack_52 (v := 3) (by decide) ?_
      obtain ⟨q2, hq2, h⟩ := Option.bind_eq_some_iff.mp h
      refine mm_callVi X dX8_pack_53 (As := [.int l5, .int l1, .int l2, .int (3 : Int32)]) (rest := [.int l4]) 0 (by decide) md_cf_0 rfl hL (mX8_is hJ hq2) gX8_pack_X8_is rfl ⟨rfl, rfl⟩ hyX8_is ⟨Nat.le_of_ble_eq_true rfl, Nat.le_of_ble_eq_true rfl⟩ rfl (Nat.le_of_ble_eq_true rfl) ?_
      have J4 : ∀ (v3 : Int32), v3 = (if q2 = 0 then (0 : Int32) else (1 : Int32)) → eG K D cI cZ a σ 64 [(0, .ref (a 0)), (1, .int l1), (2, .int l2), (3, .int l3), (5, .int l5)] [.int v3, .int l4] := by
        intro v3 ev3
        subst ev3
        refine mm_iadd X dX8_pack_64 ?_
        refine mm_istore X dX8_pack_65 (by decide) (lv2 := [(4, .int (l4 + (if q2 = 0 then (0 : Int32) else (1 : Int32)))), (0, .ref (a 0)), (1, .int l1), (2, .int l2), (3, .int l3), (5, .int l5)]) rfl ?_
        refine mm_iinc X dX8_pack_67 5 rfl (v := (l5 + 1)) rfl (by decide) (lv2 := [(5, .int (l5 + 1)), (4, .int (l4 + (if q2 = 0 then (0 : Int32) else (1 : Int32)))), (0, .ref (a 0)), (1, .int l1), (2, .int l2), (3, .int l3)]) rfl ?_
        refine mm_goto X dX8_pack_70 (tgt := 36) (by decide) ?_
        refine mm_loc [2, 3, 4, 5, 1, 0] rfl ?_
        exact ih _ _ h
      refine mm_if_eq X dX8_pack_56 (tgt := 63) (by decide) (fun c5 => ?_) (fun c5 => ?_)
      · refine mm_iconst X dX8_pack_63 (v := 0) (by decide) ?_
        refine mm_loc [0, 1, 2, 3, 5] rfl ?_
        exact J4 _ (by rw [if_pos c5])
      · refine mm_iconst X dX8_pack_59 (v := 1) (by decide) ?_
        refine mm_goto X dX8_pack_60 (tgt := 64) (by decide) ?_
        refine mm_loc [0, 1, 2, 3, 5] rfl ?_
        exact J4 _ (by rw [if_neg c5])
set_option maxRecDepth 100000 in
set_option maxHeartbeats 4000000 in
theorem tX8_pack_93 {l : Launch} {K : mm_K} {D : va_G} {cI cZ : ClassId} {a : Nat → Nat} (X : eC K rX8_pack cX8_pack 7 (some .int) wsX8_pack RX8 D cI cZ a) (hL : mm_L K l) (hJ : mm_J 29 a) {F : Nat} {l1 : Int32} {l2 : Int32} {l3 : Int32} {out : mm_M} (hx : eG K D cI cZ a out 136 [(3, .int l3)] []) : ∀ (k : Nat) (l5 : Int32) (l6 : Int32) (σ : mm_M), fX8_pack_93 F l1 l2 l3 k l5 l6 σ = some out → eG K D cI cZ a σ 93 [(0, .ref (a 0)), (1, .int l1), (2, .int l2), (3, .int l3), (5, .int l5), (6, .int l6)] [] := by
  intro k
  induction k with
  | zero =>
    intro l5 l6 σ h
    have h : none = some out := h
    cases h
  | succ k ih =>
    intro l5 l6 σ h
    rw [fX8_pack_93] at h
    refine mm_iload X dX8_pack_93 5 rfl ?_
    refine mm_aload_n X dX8_pack_95 0 rfl ?_
    refine mm_get X dX8_pack_96 0 6 (by decide) md_cf_0 rfl (by decide) uX8_pack_8 kX8_pack_1 rfl (v := .int (σ 0 6)) rfl ?_
    refine mm_icmp_ge X dX8_pack_99 (tgt := 136) (by decide) (fun c1 => ?_) (fun c1 => ?_)
    · have h := (if_neg c1).symm.trans h
      obtain rfl := Option.some.inj h
      refine mm_loc [3] rfl ?_
      exact hx
    · have h := (if_pos c1).symm.trans h
      refine mm_iload X dX8_pack_102 4 rfl ?_
      refine mm_if_le X dX8_pack_104 (tgt := 136) (by decide) (fun c2 => ?_) (fun c2 => ?_)
      · have h := (if_neg c2).symm.trans h
        obtain rfl := Option.some.inj h
        refine mm_loc [3] rfl ?_
        exact hx
      · have h := (if_pos c2).symm.trans h
        refine mm_aload_n X dX8_pack_107 0 rfl ?_
        refine mm_iload X dX8_pack_108 5 rfl ?_
        refine mm_iload_n X dX8_pack_110 1 rfl ?_
        refine mm_iload_n X dX8_pack_111 2 rfl ?_
        refine mm_iconst X dX8_pack_112 (v := 3) (by decide) ?_
        obtain ⟨q3, hq3, h⟩ := Option.bind_eq_some_iff.mp h
        refine mm_callVi X dX8_pack_113 (As := [.int l6, .int l1, .int l2, .int (3 : Int32)]) (rest := []) 0 (by decide) md_cf_0 rfl hL (mX8_is hJ hq3) gX8_pack_X8_is rfl ⟨rfl, rfl⟩ hyX8_is ⟨Nat.le_of_ble_eq_true rfl, Nat.le_of_ble_eq_true rfl⟩ rfl (Nat.le_of_ble_eq_true rfl) ?_
        obtain ⟨q4, hq4, h⟩ := Option.bind_eq_some_iff.mp h
        have J5 : eG K D cI cZ a q4.2 130 [(0, .ref (a 0)), (1, .int l1), (2, .int l2), (3, .int l3), (5, .int q4.1), (6, .int l6)] [] := by
          refine mm_iinc X dX8_pack_130 5 rfl (v := (l6 + 1)) rfl (by decide) (lv2 := [(6, .int (l6 + 1)), (0, .ref (a 0)), (1, .int l1), (2, .int l2), (3, .int l3), (5, .int q4.1)]) rfl ?_
          refine mm_goto X dX8_pack_133 (tgt := 93) (by decide) ?_
          refine mm_loc [1, 2, 3, 4, 5, 0] rfl ?_
          exact ih _ _ _ h
        have h := hq4
        refine mm_if_eq X dX8_pack_116 (tgt := 130) (by decide) (fun c6 => ?_) (fun c6 => ?_)
        · have h := (if_pos c6).symm.trans h
          obtain rfl := Option.some.inj h
          exact J5
        · have h := (if_neg c6).symm.trans h
          refine mm_aload_n X dX8_pack_119 0 rfl ?_
          refine mm_get X dX8_pack_120 0 10 (by decide) md_cf_0 rfl (by decide) uX8_pack_8 kX8_pack_2 rfl (v := .ref (a 9)) rfl ?_
          refine mm_iload X dX8_pack_123 5 rfl ?_
          refine mm_iconst X dX8_pack_125 (v := 0) (by decide) ?_
          obtain ⟨hi7, h⟩ := mm_g_some h
          refine mm_iast X dX8_pack_126 9 0 (by decide) (fun _ => rfl) rfl hi7 ?_
          refine mm_iinc X dX8_pack_127 4 rfl (v := (l5 + (-1 : Int32))) rfl (by decide) (lv2 := [(5, .int (l5 + (-1 : Int32))), (0, .ref (a 0)), (1, .int l1), (2, .int l2), (3, .int l3), (6, .int l6)]) rfl ?_
          obtain rfl := Option.some.inj h
          refine mm_loc [1, 2, 3, 4, 0, 5] rfl ?_
          exact J5
set_option maxRecDepth 100000 in
set_option maxHeartbeats 4000000 in
theorem mX8_pack {l : Launch} {D : va_G} {cI cZ : ClassId} {a : Nat → Nat} (hJ : mm_J 29 a) {F : Nat} {σ : mm_M} {p1 p2 p3 : Int32} {res : Int32 × mm_M} (h : fX8_pack F σ p1 p2 p3 = some res) (sz : Nat) : Met l yX8_pack wsX8_pack rX8_pack (eP D cI cZ a σ [.ref (a 0), .int p1, .int p2, .int p3] sz) (eQi D cI cZ a res.1 res.2 sz) 0 0 (mm_A 29 a sz) := by
  refine mm_met (fun sz => eQi D cI cZ a res.1 res.2 sz) (lv := [(0, .ref (a 0)), (1, .int p1), (2, .int p2), (3, .int p3)]) (ret := (some .int)) (cc := cX8_pack) (maxL := 7) (own := RX8) hJ (by decide +kernel) rfl rfl (Nat.le_of_ble_eq_true rfl) rfl ?_ sz
  intro K hL X hQ
  unfold fX8_pack at h
  refine mm_iload_n X dX8_pack_0 1 rfl ?_
  refine mm_iconst X dX8_pack_1 (v := 0) (by decide) ?_
  refine mm_iconst X dX8_pack_2 (v := 5) (by decide) ?_
  refine mm_callSi X dX8_pack_3 (As := [.int p1, .int (0 : Int32), .int (5 : Int32)]) (rest := []) hL (mX8_in hJ (res := fX8_in p1 (0 : Int32) (5 : Int32)) rfl) gX8_pack_X8_in rfl ⟨rfl, rfl⟩ hyX8_in ⟨Nat.le_of_ble_eq_true rfl, Nat.le_of_ble_eq_true rfl⟩ rfl (Nat.le_of_ble_eq_true rfl) ?_
  refine mm_if_eq X dX8_pack_6 (tgt := 27) (by decide) (fun c1 => ?_) (fun c1 => ?_)
  · have h := (if_pos c1).symm.trans h
    refine mm_bipush X dX8_pack_27 (v := -2) (by decide) ?_
    obtain rfl := Option.some.inj h
    exact mm_iret X dX8_pack_29 rfl hQ rfl
  · have h := (if_neg c1).symm.trans h
    refine mm_aload_n X dX8_pack_9 0 rfl ?_
    refine mm_iload_n X dX8_pack_10 2 rfl ?_
    refine mm_callVi X dX8_pack_11 (As := [.int p2]) (rest := []) 0 (by decide) md_cf_0 rfl hL (mX8_isKind hJ (res := fX8_isKind σ p2) rfl) gX8_pack_X8_isKind rfl ⟨rfl, rfl⟩ hyX8_isKind ⟨Nat.le_of_ble_eq_true rfl, Nat.le_of_ble_eq_true rfl⟩ rfl (Nat.le_of_ble_eq_true rfl) ?_
    refine mm_if_eq X dX8_pack_14 (tgt := 27) (by decide) (fun c2 => ?_) (fun c2 => ?_)
    · have h := (if_pos c2).symm.trans h
      refine mm_bipush X dX8_pack_27 (v := -2) (by decide) ?_
      obtain rfl := Option.some.inj h
      exact mm_iret X dX8_pack_29 rfl hQ rfl
    · have h := (if_neg c2).symm.trans h
      refine mm_iload_n X dX8_pack_17 3 rfl ?_
      refine mm_iconst X dX8_pack_18 (v := 1) (by decide) ?_
      refine mm_bipush X dX8_pack_19 (v := 40) (by decide) ?_
      refine mm_callSi X dX8_pack_21 (As := [.int p3, .int (1 : Int32), .int (40 : Int32)]) (rest := []) hL (mX8_in hJ (res := fX8_in p3 (1 : Int32) (40 : Int32)) rfl) gX8_pack_X8_in rfl ⟨rfl, rfl⟩ hyX8_in ⟨Nat.le_of_ble_eq_true rfl, Nat.le_of_ble_eq_true rfl⟩ rfl (Nat.le_of_ble_eq_true rfl) ?_
      refine mm_if_ne X dX8_pack_24 (tgt := 30) (by decide) (fun c3 => ?_) (fun c3 => ?_)
      · have h := (if_neg c3).symm.trans h
        refine mm_iconst X dX8_pack_30 (v := 0) (by decide) ?_
        refine mm_istore X dX8_pack_31 (by decide) (lv2 := [(4, .int (0 : Int32)), (0, .ref (a 0)), (1, .int p1), (2, .int p2), (3, .int p3)]) rfl ?_
        refine mm_iconst X dX8_pack_33 (v := 0) (by decide) ?_
        refine mm_istore X dX8_pack_34 (by decide) (lv2 := [(5, .int (0 : Int32)), (4, .int (0 : Int32)), (0, .ref (a 0)), (1, .int p1), (2, .int p2), (3, .int p3)]) rfl ?_
        obtain ⟨q4, hq4, h⟩ := Option.bind_eq_some_iff.mp h
        refine mm_loc [2, 3, 4, 5, 1, 0] rfl ?_
        refine tX8_pack_36 X hL hJ ?_ F (0 : Int32) (0 : Int32) hq4
        refine mm_iload X dX8_pack_73 4 rfl ?_
        refine mm_iload_n X dX8_pack_75 3 rfl ?_
        refine mm_icmp_ge X dX8_pack_76 (tgt := 87) (by decide) (fun c5 => ?_) (fun c5 => ?_)
        · have h := (if_neg c5).symm.trans h
          refine mm_iload_n X dX8_pack_87 3 rfl ?_
          refine mm_istore X dX8_pack_88 (by decide) (lv2 := [(5, .int p3), (0, .ref (a 0)), (1, .int p1), (2, .int p2), (3, .int p3), (4, .int q4)]) rfl ?_
          refine mm_iconst X dX8_pack_90 (v := 0) (by decide) ?_
          refine mm_istore X dX8_pack_91 (by decide) (lv2 := [(6, .int (0 : Int32)), (5, .int p3), (0, .ref (a 0)), (1, .int p1), (2, .int p2), (3, .int p3), (4, .int q4)]) rfl ?_
          obtain ⟨q6, hq6, h⟩ := Option.bind_eq_some_iff.mp h
          refine mm_loc [2, 3, 4, 5, 1, 0] rfl ?_
          refine tX8_pack_93 X hL hJ ?_ F p3 (0 : Int32) σ hq6
          refine mm_iload_n X dX8_pack_136 0 rfl ?_
          obtain rfl := Option.some.inj h
          exact mm_iret X dX8_pack_137 rfl hQ rfl
        · have h := (if_pos c5).symm.trans h
          refine mm_bipush X dX8_pack_79 (v := -100) (by decide) ?_
          refine mm_iload_n X dX8_pack_81 3 rfl ?_
          refine mm_iload X dX8_pack_82 4 rfl ?_
          refine mm_isub X dX8_pack_84 ?_
          refine mm_isub X dX8_pack_85 ?_
          obtain rfl := Option.some.inj h
          exact mm_iret X dX8_pack_86 rfl hQ rfl
      · have h := (if_pos c3).symm.trans h
        refine mm_bipush X dX8_pack_27 (v := -2) (by decide) ?_
        obtain rfl := Option.some.inj h
        exact mm_iret X dX8_pack_29 rfl hQ rfl
/-! LinenTunnelModel.sheet -/
def fX8_sheet_59 (F : Nat) (l1 : Int32) (l3 : Int32) : Nat → Int32 → mm_M → Option (mm_M)
  | 0, _, _ => none
  | k + 1, l4, σ => (if l4 < (60 : Int32) then mm_g 240 (((60 : Int32) * l1) + l4) (fX8_sheet_59 F l1 l3 k (l4 + 1) (mm_up σ 27 (((60 : Int32) * l1) + l4).toNatClampNeg (0 : Int32))) else some (σ))
def fX8_sheet (F : Nat) (σ : mm_M) (p1 p2 p3 : Int32) : Option (Int32 × mm_M) := (if (fX8_isSheet p1) = 0 then some ((-2 : Int32), σ) else (if (fX8_in p2 (0 : Int32) (2 : Int32)) = 0 then some ((-2 : Int32), σ) else (if (60 : Int32) < p3 then some ((-2 : Int32), σ) else (if p3 < 0 then some ((fX8_meets σ (5 : Int32)).1, (fX8_meets σ (5 : Int32)).2) else mm_g 4 p1 (mm_g 4 p1 (mm_g 4 p1 ((fX8_sheet_59 F p1 p3 F (0 : Int32) (mm_up (mm_up (mm_up σ 24 p1.toNatClampNeg (vp_nar .boolean (1 : Int32))) 25 p1.toNatClampNeg p2) 26 p1.toNatClampNeg p3)).bind fun q8 => some (p3, q8))))))))
abbrev rX8_sheet : Room := { frames := 2, cells := 0, slots := 0, locals := 42 }
theorem hyX8_sheet : yX8_sheet.cls = RX8 ∧ yX8_sheet.cls ≠ "java/lang/invoke/MethodHandle" ∧ yX8_sheet.cls ≠ "java/lang/invoke/VarHandle" ∧ (parseMethodDescriptor yX8_sheet.desc).map (fun d => d.parameters.length) = some 3 := by decide +kernel
theorem kX8_sheet_1 : (Cond.fieldLink RX8 90 "LinenTunnelModel" "isThere" "[Z" : Cond) ∈ wsX8_sheet := List.mem_of_getElem? (i := 1) rfl
theorem uX8_sheet_8 : ∀ w ∈ u_ws RX8 TX8 37, w ∈ wsX8_sheet := fun _ h => (List.mem_cons_of_mem _ (List.mem_append_right _ h))
theorem kX8_sheet_2 : (Cond.fieldLink RX8 93 "LinenTunnelModel" "forms" "[I" : Cond) ∈ wsX8_sheet := List.mem_of_getElem? (i := 2) rfl
theorem kX8_sheet_3 : (Cond.fieldLink RX8 96 "LinenTunnelModel" "sizes" "[I" : Cond) ∈ wsX8_sheet := List.mem_of_getElem? (i := 3) rfl
theorem kX8_sheet_4 : (Cond.fieldLink RX8 99 "LinenTunnelModel" "items" "[I" : Cond) ∈ wsX8_sheet := List.mem_of_getElem? (i := 4) rfl
set_option maxRecDepth 100000 in
set_option maxHeartbeats 4000000 in
theorem tX8_sheet_59 {l : Launch} {K : mm_K} {D : va_G} {cI cZ : ClassId} {a : Nat → Nat} (X : eC K rX8_sheet cX8_sheet 5 (some .int) wsX8_sheet RX8 D cI cZ a) (hL : mm_L K l) (hJ : mm_J 29 a) {F : Nat} {l1 : Int32} {l3 : Int32} {out : mm_M} (hx : eG K D cI cZ a out 85 [(3, .int l3)] []) : ∀ (k : Nat) (l4 : Int32) (σ : mm_M), fX8_sheet_59 F l1 l3 k l4 σ = some out → eG K D cI cZ a σ 59 [(0, .ref (a 0)), (1, .int l1), (3, .int l3), (4, .int l4)] [] := by
  intro k
  induction k with
  | zero =>
    intro l4 σ h
    have h : none = some out := h
    cases h
  | succ k ih =>
    intro l4 σ h
    rw [fX8_sheet_59] at h
    refine mm_iload X dX8_sheet_59 3 rfl ?_
    refine mm_bipush X dX8_sheet_61 (v := 60) (by decide) ?_
    refine mm_icmp_ge X dX8_sheet_63 (tgt := 85) (by decide) (fun c1 => ?_) (fun c1 => ?_)
    · have h := (if_neg c1).symm.trans h
      obtain rfl := Option.some.inj h
      refine mm_loc [2] rfl ?_
      exact hx
    · have h := (if_pos c1).symm.trans h
      refine mm_aload_n X dX8_sheet_66 0 rfl ?_
      refine mm_get X dX8_sheet_67 0 34 (by decide) md_cf_0 rfl (by decide) uX8_sheet_8 kX8_sheet_4 rfl (v := .ref (a 27)) rfl ?_
      refine mm_bipush X dX8_sheet_70 (v := 60) (by decide) ?_
      refine mm_iload_n X dX8_sheet_72 1 rfl ?_
      refine mm_imul X dX8_sheet_73 ?_
      refine mm_iload X dX8_sheet_74 3 rfl ?_
      refine mm_iadd X dX8_sheet_76 ?_
      refine mm_iconst X dX8_sheet_77 (v := 0) (by decide) ?_
      obtain ⟨hi2, h⟩ := mm_g_some h
      refine mm_iast X dX8_sheet_78 27 0 (by decide) (fun _ => rfl) rfl hi2 ?_
      refine mm_iinc X dX8_sheet_79 3 rfl (v := (l4 + 1)) rfl (by decide) (lv2 := [(4, .int (l4 + 1)), (0, .ref (a 0)), (1, .int l1), (3, .int l3)]) rfl ?_
      refine mm_goto X dX8_sheet_82 (tgt := 59) (by decide) ?_
      refine mm_loc [1, 2, 3, 0] rfl ?_
      exact ih _ _ h
set_option maxRecDepth 100000 in
set_option maxHeartbeats 4000000 in
theorem mX8_sheet {l : Launch} {D : va_G} {cI cZ : ClassId} {a : Nat → Nat} (hJ : mm_J 29 a) {F : Nat} {σ : mm_M} {p1 p2 p3 : Int32} {res : Int32 × mm_M} (h : fX8_sheet F σ p1 p2 p3 = some res) (sz : Nat) : Met l yX8_sheet wsX8_sheet rX8_sheet (eP D cI cZ a σ [.ref (a 0), .int p1, .int p2, .int p3] sz) (eQi D cI cZ a res.1 res.2 sz) 0 0 (mm_A 29 a sz) := by
  refine mm_met (fun sz => eQi D cI cZ a res.1 res.2 sz) (lv := [(0, .ref (a 0)), (1, .int p1), (2, .int p2), (3, .int p3)]) (ret := (some .int)) (cc := cX8_sheet) (maxL := 5) (own := RX8) hJ (by decide +kernel) rfl rfl (Nat.le_of_ble_eq_true rfl) rfl ?_ sz
  intro K hL X hQ
  unfold fX8_sheet at h
  refine mm_iload_n X dX8_sheet_0 1 rfl ?_
  refine mm_callSi X dX8_sheet_1 (As := [.int p1]) (rest := []) hL (mX8_isSheet hJ (res := fX8_isSheet p1) rfl) gX8_sheet_X8_isSheet rfl ⟨rfl, rfl⟩ hyX8_isSheet ⟨Nat.le_of_ble_eq_true rfl, Nat.le_of_ble_eq_true rfl⟩ rfl (Nat.le_of_ble_eq_true rfl) ?_
  refine mm_if_eq X dX8_sheet_4 (tgt := 22) (by decide) (fun c1 => ?_) (fun c1 => ?_)
  · have h := (if_pos c1).symm.trans h
    refine mm_bipush X dX8_sheet_22 (v := -2) (by decide) ?_
    obtain rfl := Option.some.inj h
    exact mm_iret X dX8_sheet_24 rfl hQ rfl
  · have h := (if_neg c1).symm.trans h
    refine mm_iload_n X dX8_sheet_7 2 rfl ?_
    refine mm_iconst X dX8_sheet_8 (v := 0) (by decide) ?_
    refine mm_iconst X dX8_sheet_9 (v := 2) (by decide) ?_
    refine mm_callSi X dX8_sheet_10 (As := [.int p2, .int (0 : Int32), .int (2 : Int32)]) (rest := []) hL (mX8_in hJ (res := fX8_in p2 (0 : Int32) (2 : Int32)) rfl) gX8_sheet_X8_in rfl ⟨rfl, rfl⟩ hyX8_in ⟨Nat.le_of_ble_eq_true rfl, Nat.le_of_ble_eq_true rfl⟩ rfl (Nat.le_of_ble_eq_true rfl) ?_
    refine mm_if_eq X dX8_sheet_13 (tgt := 22) (by decide) (fun c2 => ?_) (fun c2 => ?_)
    · have h := (if_pos c2).symm.trans h
      refine mm_bipush X dX8_sheet_22 (v := -2) (by decide) ?_
      obtain rfl := Option.some.inj h
      exact mm_iret X dX8_sheet_24 rfl hQ rfl
    · have h := (if_neg c2).symm.trans h
      refine mm_iload_n X dX8_sheet_16 3 rfl ?_
      refine mm_bipush X dX8_sheet_17 (v := 60) (by decide) ?_
      refine mm_icmp_le X dX8_sheet_19 (tgt := 25) (by decide) (fun c3 => ?_) (fun c3 => ?_)
      · have h := (if_neg c3).symm.trans h
        refine mm_iload_n X dX8_sheet_25 3 rfl ?_
        refine mm_if_ge X dX8_sheet_26 (tgt := 35) (by decide) (fun c4 => ?_) (fun c4 => ?_)
        · have h := (if_neg c4).symm.trans h
          refine mm_aload_n X dX8_sheet_35 0 rfl ?_
          refine mm_get X dX8_sheet_36 0 31 (by decide) md_cf_0 rfl (by decide) uX8_sheet_8 kX8_sheet_1 rfl (v := .ref (a 24)) rfl ?_
          refine mm_iload_n X dX8_sheet_39 1 rfl ?_
          refine mm_iconst X dX8_sheet_40 (v := 1) (by decide) ?_
          obtain ⟨hi5, h⟩ := mm_g_some h
          refine mm_zast X dX8_sheet_41 24 1 (by decide) (fun _ => rfl) rfl hi5 ?_
          refine mm_aload_n X dX8_sheet_42 0 rfl ?_
          refine mm_get X dX8_sheet_43 0 32 (by decide) md_cf_0 rfl (by decide) uX8_sheet_8 kX8_sheet_2 rfl (v := .ref (a 25)) rfl ?_
          refine mm_iload_n X dX8_sheet_46 1 rfl ?_
          refine mm_iload_n X dX8_sheet_47 2 rfl ?_
          obtain ⟨hi6, h⟩ := mm_g_some h
          refine mm_iast X dX8_sheet_48 25 0 (by decide) (fun _ => rfl) rfl hi6 ?_
          refine mm_aload_n X dX8_sheet_49 0 rfl ?_
          refine mm_get X dX8_sheet_50 0 33 (by decide) md_cf_0 rfl (by decide) uX8_sheet_8 kX8_sheet_3 rfl (v := .ref (a 26)) rfl ?_
          refine mm_iload_n X dX8_sheet_53 1 rfl ?_
          refine mm_iload_n X dX8_sheet_54 3 rfl ?_
          obtain ⟨hi7, h⟩ := mm_g_some h
          refine mm_iast X dX8_sheet_55 26 0 (by decide) (fun _ => rfl) rfl hi7 ?_
          refine mm_iconst X dX8_sheet_56 (v := 0) (by decide) ?_
          refine mm_istore X dX8_sheet_57 (by decide) (lv2 := [(4, .int (0 : Int32)), (0, .ref (a 0)), (1, .int p1), (2, .int p2), (3, .int p3)]) rfl ?_
          obtain ⟨q8, hq8, h⟩ := Option.bind_eq_some_iff.mp h
          refine mm_loc [1, 2, 4, 0] rfl ?_
          refine tX8_sheet_59 X hL hJ ?_ F (0 : Int32) (mm_up (mm_up (mm_up σ 24 p1.toNatClampNeg (vp_nar .boolean (1 : Int32))) 25 p1.toNatClampNeg p2) 26 p1.toNatClampNeg p3) hq8
          refine mm_iload_n X dX8_sheet_85 0 rfl ?_
          obtain rfl := Option.some.inj h
          exact mm_iret X dX8_sheet_86 rfl hQ rfl
        · have h := (if_pos c4).symm.trans h
          refine mm_aload_n X dX8_sheet_29 0 rfl ?_
          refine mm_iconst X dX8_sheet_30 (v := 5) (by decide) ?_
          refine mm_callVi X dX8_sheet_31 (As := [.int (5 : Int32)]) (rest := []) 0 (by decide) md_cf_0 rfl hL (mX8_meets hJ (res := fX8_meets σ (5 : Int32)) rfl) gX8_sheet_X8_meets rfl ⟨rfl, rfl⟩ hyX8_meets ⟨Nat.le_of_ble_eq_true rfl, Nat.le_of_ble_eq_true rfl⟩ rfl (Nat.le_of_ble_eq_true rfl) ?_
          obtain rfl := Option.some.inj h
          exact mm_iret X dX8_sheet_34 rfl hQ rfl
      · have h := (if_pos c3).symm.trans h
        refine mm_bipush X dX8_sheet_22 (v := -2) (by decide) ?_
        obtain rfl := Option.some.inj h
        exact mm_iret X dX8_sheet_24 rfl hQ rfl
/-! LinenTunnelModel.lose -/
def fX8_lose (σ : mm_M) (p1 : Int32) : Option (Int32 × mm_M) := (if (fX8_isSheet p1) = 0 then some ((-2 : Int32), σ) else mm_g 4 p1 ((if (σ 24 p1.toNatClampNeg) = 0 then some ((fX8_meets σ (1 : Int32)).1, (fX8_meets σ (1 : Int32)).2) else mm_g 4 p1 (mm_g 4 p1 (some ((σ 26 p1.toNatClampNeg), (mm_up σ 24 p1.toNatClampNeg (vp_nar .boolean (0 : Int32)))))))))
abbrev rX8_lose : Room := { frames := 2, cells := 0, slots := 0, locals := 42 }
theorem hyX8_lose : yX8_lose.cls = RX8 ∧ yX8_lose.cls ≠ "java/lang/invoke/MethodHandle" ∧ yX8_lose.cls ≠ "java/lang/invoke/VarHandle" ∧ (parseMethodDescriptor yX8_lose.desc).map (fun d => d.parameters.length) = some 1 := by decide +kernel
theorem kX8_lose_1 : (Cond.fieldLink RX8 90 "LinenTunnelModel" "isThere" "[Z" : Cond) ∈ wsX8_lose := List.mem_of_getElem? (i := 1) rfl
theorem uX8_lose_8 : ∀ w ∈ u_ws RX8 TX8 37, w ∈ wsX8_lose := fun _ h => (List.mem_cons_of_mem _ (List.mem_append_right _ h))
theorem kX8_lose_2 : (Cond.fieldLink RX8 96 "LinenTunnelModel" "sizes" "[I" : Cond) ∈ wsX8_lose := List.mem_of_getElem? (i := 2) rfl
set_option maxRecDepth 100000 in
set_option maxHeartbeats 4000000 in
theorem mX8_lose {l : Launch} {D : va_G} {cI cZ : ClassId} {a : Nat → Nat} (hJ : mm_J 29 a) {σ : mm_M} {p1 : Int32} {res : Int32 × mm_M} (h : fX8_lose σ p1 = some res) (sz : Nat) : Met l yX8_lose wsX8_lose rX8_lose (eP D cI cZ a σ [.ref (a 0), .int p1] sz) (eQi D cI cZ a res.1 res.2 sz) 0 0 (mm_A 29 a sz) := by
  refine mm_met (fun sz => eQi D cI cZ a res.1 res.2 sz) (lv := [(0, .ref (a 0)), (1, .int p1)]) (ret := (some .int)) (cc := cX8_lose) (maxL := 2) (own := RX8) hJ (by decide +kernel) rfl rfl (Nat.le_of_ble_eq_true rfl) rfl ?_ sz
  intro K hL X hQ
  unfold fX8_lose at h
  refine mm_iload_n X dX8_lose_0 1 rfl ?_
  refine mm_callSi X dX8_lose_1 (As := [.int p1]) (rest := []) hL (mX8_isSheet hJ (res := fX8_isSheet p1) rfl) gX8_lose_X8_isSheet rfl ⟨rfl, rfl⟩ hyX8_isSheet ⟨Nat.le_of_ble_eq_true rfl, Nat.le_of_ble_eq_true rfl⟩ rfl (Nat.le_of_ble_eq_true rfl) ?_
  refine mm_if_ne X dX8_lose_4 (tgt := 10) (by decide) (fun c1 => ?_) (fun c1 => ?_)
  · have h := (if_neg c1).symm.trans h
    refine mm_aload_n X dX8_lose_10 0 rfl ?_
    refine mm_get X dX8_lose_11 0 31 (by decide) md_cf_0 rfl (by decide) uX8_lose_8 kX8_lose_1 rfl (v := .ref (a 24)) rfl ?_
    refine mm_iload_n X dX8_lose_14 1 rfl ?_
    obtain ⟨hi2, h⟩ := mm_g_some h
    refine mm_zald X dX8_lose_15 24 1 (by decide) rfl rfl hi2 (v := (σ 24 p1.toNatClampNeg)) rfl ?_
    refine mm_if_ne X dX8_lose_16 (tgt := 25) (by decide) (fun c3 => ?_) (fun c3 => ?_)
    · have h := (if_neg c3).symm.trans h
      refine mm_aload_n X dX8_lose_25 0 rfl ?_
      refine mm_get X dX8_lose_26 0 31 (by decide) md_cf_0 rfl (by decide) uX8_lose_8 kX8_lose_1 rfl (v := .ref (a 24)) rfl ?_
      refine mm_iload_n X dX8_lose_29 1 rfl ?_
      refine mm_iconst X dX8_lose_30 (v := 0) (by decide) ?_
      obtain ⟨hi4, h⟩ := mm_g_some h
      refine mm_zast X dX8_lose_31 24 1 (by decide) (fun _ => rfl) rfl hi4 ?_
      refine mm_aload_n X dX8_lose_32 0 rfl ?_
      refine mm_get X dX8_lose_33 0 33 (by decide) md_cf_0 rfl (by decide) uX8_lose_8 kX8_lose_2 rfl (v := .ref (a 26)) rfl ?_
      refine mm_iload_n X dX8_lose_36 1 rfl ?_
      obtain ⟨hi5, h⟩ := mm_g_some h
      refine mm_iald X dX8_lose_37 26 0 (by decide) rfl rfl hi5 (v := (σ 26 p1.toNatClampNeg)) rfl ?_
      obtain rfl := Option.some.inj h
      exact mm_iret X dX8_lose_38 rfl hQ rfl
    · have h := (if_pos c3).symm.trans h
      refine mm_aload_n X dX8_lose_19 0 rfl ?_
      refine mm_iconst X dX8_lose_20 (v := 1) (by decide) ?_
      refine mm_callVi X dX8_lose_21 (As := [.int (1 : Int32)]) (rest := []) 0 (by decide) md_cf_0 rfl hL (mX8_meets hJ (res := fX8_meets σ (1 : Int32)) rfl) gX8_lose_X8_meets rfl ⟨rfl, rfl⟩ hyX8_meets ⟨Nat.le_of_ble_eq_true rfl, Nat.le_of_ble_eq_true rfl⟩ rfl (Nat.le_of_ble_eq_true rfl) ?_
      obtain rfl := Option.some.inj h
      exact mm_iret X dX8_lose_24 rfl hQ rfl
  · have h := (if_pos c1).symm.trans h
    refine mm_bipush X dX8_lose_7 (v := -2) (by decide) ?_
    obtain rfl := Option.some.inj h
    exact mm_iret X dX8_lose_9 rfl hQ rfl
/-! LinenTunnelModel.lacks -/
def fX8_lacks (σ : mm_M) (p1 p2 p3 : Int32) : Option (Int32) := mm_g 4 p1 ((if (σ 24 p1.toNatClampNeg) = 0 then some (1 : Int32) else mm_g 4 p1 ((if (σ 25 p1.toNatClampNeg) = p2 then mm_g 4 p1 ((if (fX8_in p3 (0 : Int32) ((σ 26 p1.toNatClampNeg) - (1 : Int32))) = 0 then some (2 : Int32) else some (0 : Int32))) else some (3 : Int32)))))
abbrev rX8_lacks : Room := { frames := 1, cells := 0, slots := 0, locals := 22 }
theorem hyX8_lacks : yX8_lacks.cls = RX8 ∧ yX8_lacks.cls ≠ "java/lang/invoke/MethodHandle" ∧ yX8_lacks.cls ≠ "java/lang/invoke/VarHandle" ∧ (parseMethodDescriptor yX8_lacks.desc).map (fun d => d.parameters.length) = some 3 := by decide +kernel
theorem kX8_lacks_1 : (Cond.fieldLink RX8 90 "LinenTunnelModel" "isThere" "[Z" : Cond) ∈ wsX8_lacks := List.mem_of_getElem? (i := 1) rfl
theorem uX8_lacks_8 : ∀ w ∈ u_ws RX8 TX8 37, w ∈ wsX8_lacks := fun _ h => (List.mem_cons_of_mem _ (List.mem_append_right _ h))
theorem kX8_lacks_2 : (Cond.fieldLink RX8 93 "LinenTunnelModel" "forms" "[I" : Cond) ∈ wsX8_lacks := List.mem_of_getElem? (i := 2) rfl
theorem kX8_lacks_3 : (Cond.fieldLink RX8 96 "LinenTunnelModel" "sizes" "[I" : Cond) ∈ wsX8_lacks := List.mem_of_getElem? (i := 3) rfl
set_option maxRecDepth 100000 in
set_option maxHeartbeats 4000000 in
theorem mX8_lacks {l : Launch} {D : va_G} {cI cZ : ClassId} {a : Nat → Nat} (hJ : mm_J 29 a) {σ : mm_M} {p1 p2 p3 : Int32} {res : Int32} (h : fX8_lacks σ p1 p2 p3 = some res) (sz : Nat) : Met l yX8_lacks wsX8_lacks rX8_lacks (eP D cI cZ a σ [.ref (a 0), .int p1, .int p2, .int p3] sz) (eQi D cI cZ a res σ sz) 0 0 (mm_A 29 a sz) := by
  refine mm_met (fun sz => eQi D cI cZ a res σ sz) (lv := [(0, .ref (a 0)), (1, .int p1), (2, .int p2), (3, .int p3)]) (ret := (some .int)) (cc := cX8_lacks) (maxL := 4) (own := RX8) hJ (by decide +kernel) rfl rfl (Nat.le_of_ble_eq_true rfl) rfl ?_ sz
  intro K hL X hQ
  unfold fX8_lacks at h
  refine mm_aload_n X dX8_lacks_0 0 rfl ?_
  refine mm_get X dX8_lacks_1 0 31 (by decide) md_cf_0 rfl (by decide) uX8_lacks_8 kX8_lacks_1 rfl (v := .ref (a 24)) rfl ?_
  refine mm_iload_n X dX8_lacks_4 1 rfl ?_
  obtain ⟨hi1, h⟩ := mm_g_some h
  refine mm_zald X dX8_lacks_5 24 1 (by decide) rfl rfl hi1 (v := (σ 24 p1.toNatClampNeg)) rfl ?_
  refine mm_if_ne X dX8_lacks_6 (tgt := 13) (by decide) (fun c2 => ?_) (fun c2 => ?_)
  · have h := (if_neg c2).symm.trans h
    refine mm_aload_n X dX8_lacks_13 0 rfl ?_
    refine mm_get X dX8_lacks_14 0 32 (by decide) md_cf_0 rfl (by decide) uX8_lacks_8 kX8_lacks_2 rfl (v := .ref (a 25)) rfl ?_
    refine mm_iload_n X dX8_lacks_17 1 rfl ?_
    obtain ⟨hi3, h⟩ := mm_g_some h
    refine mm_iald X dX8_lacks_18 25 0 (by decide) rfl rfl hi3 (v := (σ 25 p1.toNatClampNeg)) rfl ?_
    refine mm_iload_n X dX8_lacks_19 2 rfl ?_
    refine mm_icmp_eq X dX8_lacks_20 (tgt := 27) (by decide) (fun c4 => ?_) (fun c4 => ?_)
    · have h := (if_pos c4).symm.trans h
      refine mm_iload_n X dX8_lacks_27 3 rfl ?_
      refine mm_iconst X dX8_lacks_28 (v := 0) (by decide) ?_
      refine mm_aload_n X dX8_lacks_29 0 rfl ?_
      refine mm_get X dX8_lacks_30 0 33 (by decide) md_cf_0 rfl (by decide) uX8_lacks_8 kX8_lacks_3 rfl (v := .ref (a 26)) rfl ?_
      refine mm_iload_n X dX8_lacks_33 1 rfl ?_
      obtain ⟨hi5, h⟩ := mm_g_some h
      refine mm_iald X dX8_lacks_34 26 0 (by decide) rfl rfl hi5 (v := (σ 26 p1.toNatClampNeg)) rfl ?_
      refine mm_iconst X dX8_lacks_35 (v := 1) (by decide) ?_
      refine mm_isub X dX8_lacks_36 ?_
      refine mm_callSi X dX8_lacks_37 (As := [.int p3, .int (0 : Int32), .int ((σ 26 p1.toNatClampNeg) - (1 : Int32))]) (rest := []) hL (mX8_in hJ (res := fX8_in p3 (0 : Int32) ((σ 26 p1.toNatClampNeg) - (1 : Int32))) rfl) gX8_lacks_X8_in rfl ⟨rfl, rfl⟩ hyX8_in ⟨Nat.le_of_ble_eq_true rfl, Nat.le_of_ble_eq_true rfl⟩ rfl (Nat.le_of_ble_eq_true rfl) ?_
      refine mm_if_eq X dX8_lacks_40 (tgt := 47) (by decide) (fun c6 => ?_) (fun c6 => ?_)
      · have h := (if_pos c6).symm.trans h
        refine mm_iconst X dX8_lacks_47 (v := 2) (by decide) ?_
        obtain rfl := Option.some.inj h
        exact mm_iret X dX8_lacks_48 rfl hQ rfl
      · have h := (if_neg c6).symm.trans h
        refine mm_iconst X dX8_lacks_43 (v := 0) (by decide) ?_
        refine mm_goto X dX8_lacks_44 (tgt := 48) (by decide) ?_
        obtain rfl := Option.some.inj h
        exact mm_iret X dX8_lacks_48 rfl hQ rfl
    · have h := (if_neg c4).symm.trans h
      refine mm_iconst X dX8_lacks_23 (v := 3) (by decide) ?_
      refine mm_goto X dX8_lacks_24 (tgt := 48) (by decide) ?_
      obtain rfl := Option.some.inj h
      exact mm_iret X dX8_lacks_48 rfl hQ rfl
  · have h := (if_pos c2).symm.trans h
    refine mm_iconst X dX8_lacks_9 (v := 1) (by decide) ?_
    refine mm_goto X dX8_lacks_10 (tgt := 48) (by decide) ?_
    obtain rfl := Option.some.inj h
    exact mm_iret X dX8_lacks_48 rfl hQ rfl
/-! LinenTunnelModel.lay -/
def fX8_lay (σ : mm_M) (p1 p2 p3 : Int32) : Option (mm_M) := mm_g 4 p1 (((if (σ 25 p1.toNatClampNeg) = 0 then some ((p3).toInt8.toInt32) else mm_g 4 p1 ((if (σ 25 p1.toNatClampNeg) = (1 : Int32) then some ((p3).toInt16.toInt32) else some (p3))))).bind fun q2 => mm_g 240 (((60 : Int32) * p1) + p2) (some (mm_up σ 27 (((60 : Int32) * p1) + p2).toNatClampNeg q2)))
abbrev rX8_lay : Room := { frames := 0, cells := 0, slots := 0, locals := 0 }
theorem hyX8_lay : yX8_lay.cls = RX8 ∧ yX8_lay.cls ≠ "java/lang/invoke/MethodHandle" ∧ yX8_lay.cls ≠ "java/lang/invoke/VarHandle" ∧ (parseMethodDescriptor yX8_lay.desc).map (fun d => d.parameters.length) = some 3 := by decide +kernel
theorem kX8_lay_1 : (Cond.fieldLink RX8 99 "LinenTunnelModel" "items" "[I" : Cond) ∈ wsX8_lay := List.mem_of_getElem? (i := 1) rfl
theorem uX8_lay_8 : ∀ w ∈ u_ws RX8 TX8 37, w ∈ wsX8_lay := fun _ h => (List.mem_cons_of_mem _ (List.mem_append_right _ h))
theorem kX8_lay_2 : (Cond.fieldLink RX8 93 "LinenTunnelModel" "forms" "[I" : Cond) ∈ wsX8_lay := List.mem_of_getElem? (i := 2) rfl
set_option maxRecDepth 100000 in
set_option maxHeartbeats 4000000 in
theorem mX8_lay {l : Launch} {D : va_G} {cI cZ : ClassId} {a : Nat → Nat} (hJ : mm_J 29 a) {σ : mm_M} {p1 p2 p3 : Int32} {res : mm_M} (h : fX8_lay σ p1 p2 p3 = some res) (sz : Nat) : Met l yX8_lay wsX8_lay rX8_lay (eP D cI cZ a σ [.ref (a 0), .int p1, .int p2, .int p3] sz) (eQv D cI cZ a res sz) 0 0 (mm_A 29 a sz) := by
  refine mm_met (fun sz => eQv D cI cZ a res sz) (lv := [(0, .ref (a 0)), (1, .int p1), (2, .int p2), (3, .int p3)]) (ret := none) (cc := cX8_lay) (maxL := 4) (own := RX8) hJ (by decide +kernel) rfl rfl (Nat.le_of_ble_eq_true rfl) rfl ?_ sz
  intro K hL X hQ
  unfold fX8_lay at h
  refine mm_aload_n X dX8_lay_0 0 rfl ?_
  refine mm_get X dX8_lay_1 0 34 (by decide) md_cf_0 rfl (by decide) uX8_lay_8 kX8_lay_1 rfl (v := .ref (a 27)) rfl ?_
  refine mm_bipush X dX8_lay_4 (v := 60) (by decide) ?_
  refine mm_iload_n X dX8_lay_6 1 rfl ?_
  refine mm_imul X dX8_lay_7 ?_
  refine mm_iload_n X dX8_lay_8 2 rfl ?_
  refine mm_iadd X dX8_lay_9 ?_
  refine mm_aload_n X dX8_lay_10 0 rfl ?_
  refine mm_get X dX8_lay_11 0 32 (by decide) md_cf_0 rfl (by decide) uX8_lay_8 kX8_lay_2 rfl (v := .ref (a 25)) rfl ?_
  refine mm_iload_n X dX8_lay_14 1 rfl ?_
  obtain ⟨hi1, h⟩ := mm_g_some h
  refine mm_iald X dX8_lay_15 25 0 (by decide) rfl rfl hi1 (v := (σ 25 p1.toNatClampNeg)) rfl ?_
  obtain ⟨q2, hq2, h⟩ := Option.bind_eq_some_iff.mp h
  have J3 : eG K D cI cZ a σ 40 [] [.int q2, .int (((60 : Int32) * p1) + p2), .ref (a 27)] := by
    obtain ⟨hi7, h⟩ := mm_g_some h
    refine mm_iast X dX8_lay_40 27 0 (by decide) (fun _ => rfl) rfl hi7 ?_
    obtain rfl := Option.some.inj h
    exact mm_vret X dX8_lay_41 rfl hQ
  have h := hq2
  refine mm_if_ne X dX8_lay_16 (tgt := 24) (by decide) (fun c4 => ?_) (fun c4 => ?_)
  · have h := (if_neg c4).symm.trans h
    refine mm_aload_n X dX8_lay_24 0 rfl ?_
    refine mm_get X dX8_lay_25 0 32 (by decide) md_cf_0 rfl (by decide) uX8_lay_8 kX8_lay_2 rfl (v := .ref (a 25)) rfl ?_
    refine mm_iload_n X dX8_lay_28 1 rfl ?_
    obtain ⟨hi5, h⟩ := mm_g_some h
    refine mm_iald X dX8_lay_29 25 0 (by decide) rfl rfl hi5 (v := (σ 25 p1.toNatClampNeg)) rfl ?_
    refine mm_iconst X dX8_lay_30 (v := 1) (by decide) ?_
    refine mm_icmp_ne X dX8_lay_31 (tgt := 39) (by decide) (fun c6 => ?_) (fun c6 => ?_)
    · have h := (if_neg c6).symm.trans h
      refine mm_iload_n X dX8_lay_39 3 rfl ?_
      obtain rfl := Option.some.inj h
      refine mm_loc [] rfl ?_
      exact J3
    · have h := (if_pos c6).symm.trans h
      refine mm_iload_n X dX8_lay_34 3 rfl ?_
      refine mm_i2s X dX8_lay_35 ?_
      refine mm_goto X dX8_lay_36 (tgt := 40) (by decide) ?_
      obtain rfl := Option.some.inj h
      refine mm_loc [] rfl ?_
      exact J3
  · have h := (if_pos c4).symm.trans h
    refine mm_iload_n X dX8_lay_19 3 rfl ?_
    refine mm_i2b X dX8_lay_20 ?_
    refine mm_goto X dX8_lay_21 (tgt := 40) (by decide) ?_
    obtain rfl := Option.some.inj h
    refine mm_loc [] rfl ?_
    exact J3
/-! LinenTunnelModel.put -/
def fX8_put (σ : mm_M) (p1 p2 p3 p4 : Int32) : Option (Int32 × mm_M) := (if (fX8_isSheet p1) = 0 then some ((-2 : Int32), σ) else (if (fX8_in p2 (0 : Int32) (2 : Int32)) = 0 then some ((-2 : Int32), σ) else (fX8_lacks σ p1 p2 p3).bind fun q3 => (if 0 < q3 then some ((fX8_meets σ q3).1, (fX8_meets σ q3).2) else (fX8_lay σ p1 p3 p4).bind fun q5 => some ((1 : Int32), q5))))
abbrev rX8_put : Room := { frames := 2, cells := 0, slots := 0, locals := 45 }
theorem hyX8_put : yX8_put.cls = RX8 ∧ yX8_put.cls ≠ "java/lang/invoke/MethodHandle" ∧ yX8_put.cls ≠ "java/lang/invoke/VarHandle" ∧ (parseMethodDescriptor yX8_put.desc).map (fun d => d.parameters.length) = some 4 := by decide +kernel
set_option maxRecDepth 100000 in
set_option maxHeartbeats 4000000 in
theorem mX8_put {l : Launch} {D : va_G} {cI cZ : ClassId} {a : Nat → Nat} (hJ : mm_J 29 a) {σ : mm_M} {p1 p2 p3 p4 : Int32} {res : Int32 × mm_M} (h : fX8_put σ p1 p2 p3 p4 = some res) (sz : Nat) : Met l yX8_put wsX8_put rX8_put (eP D cI cZ a σ [.ref (a 0), .int p1, .int p2, .int p3, .int p4] sz) (eQi D cI cZ a res.1 res.2 sz) 0 0 (mm_A 29 a sz) := by
  refine mm_met (fun sz => eQi D cI cZ a res.1 res.2 sz) (lv := [(0, .ref (a 0)), (1, .int p1), (2, .int p2), (3, .int p3), (4, .int p4)]) (ret := (some .int)) (cc := cX8_put) (maxL := 6) (own := RX8) hJ (by decide +kernel) rfl rfl (Nat.le_of_ble_eq_true rfl) rfl ?_ sz
  intro K hL X hQ
  unfold fX8_put at h
  refine mm_iload_n X dX8_put_0 1 rfl ?_
  refine mm_callSi X dX8_put_1 (As := [.int p1]) (rest := []) hL (mX8_isSheet hJ (res := fX8_isSheet p1) rfl) gX8_put_X8_isSheet rfl ⟨rfl, rfl⟩ hyX8_isSheet ⟨Nat.le_of_ble_eq_true rfl, Nat.le_of_ble_eq_true rfl⟩ rfl (Nat.le_of_ble_eq_true rfl) ?_
  refine mm_if_eq X dX8_put_4 (tgt := 16) (by decide) (fun c1 => ?_) (fun c1 => ?_)
  · have h := (if_pos c1).symm.trans h
    refine mm_bipush X dX8_put_16 (v := -2) (by decide) ?_
    obtain rfl := Option.some.inj h
    exact mm_iret X dX8_put_18 rfl hQ rfl
  · have h := (if_neg c1).symm.trans h
    refine mm_iload_n X dX8_put_7 2 rfl ?_
    refine mm_iconst X dX8_put_8 (v := 0) (by decide) ?_
    refine mm_iconst X dX8_put_9 (v := 2) (by decide) ?_
    refine mm_callSi X dX8_put_10 (As := [.int p2, .int (0 : Int32), .int (2 : Int32)]) (rest := []) hL (mX8_in hJ (res := fX8_in p2 (0 : Int32) (2 : Int32)) rfl) gX8_put_X8_in rfl ⟨rfl, rfl⟩ hyX8_in ⟨Nat.le_of_ble_eq_true rfl, Nat.le_of_ble_eq_true rfl⟩ rfl (Nat.le_of_ble_eq_true rfl) ?_
    refine mm_if_ne X dX8_put_13 (tgt := 19) (by decide) (fun c2 => ?_) (fun c2 => ?_)
    · have h := (if_neg c2).symm.trans h
      refine mm_aload_n X dX8_put_19 0 rfl ?_
      refine mm_iload_n X dX8_put_20 1 rfl ?_
      refine mm_iload_n X dX8_put_21 2 rfl ?_
      refine mm_iload_n X dX8_put_22 3 rfl ?_
      obtain ⟨q3, hq3, h⟩ := Option.bind_eq_some_iff.mp h
      refine mm_callVi X dX8_put_23 (As := [.int p1, .int p2, .int p3]) (rest := []) 0 (by decide) md_cf_0 rfl hL (mX8_lacks hJ hq3) gX8_put_X8_lacks rfl ⟨rfl, rfl⟩ hyX8_lacks ⟨Nat.le_of_ble_eq_true rfl, Nat.le_of_ble_eq_true rfl⟩ rfl (Nat.le_of_ble_eq_true rfl) ?_
      refine mm_istore X dX8_put_26 (by decide) (lv2 := [(5, .int q3), (0, .ref (a 0)), (1, .int p1), (2, .int p2), (3, .int p3), (4, .int p4)]) rfl ?_
      refine mm_iload X dX8_put_28 0 rfl ?_
      refine mm_if_le X dX8_put_30 (tgt := 40) (by decide) (fun c4 => ?_) (fun c4 => ?_)
      · have h := (if_neg c4).symm.trans h
        refine mm_aload_n X dX8_put_40 1 rfl ?_
        refine mm_iload_n X dX8_put_41 2 rfl ?_
        refine mm_iload_n X dX8_put_42 4 rfl ?_
        refine mm_iload X dX8_put_43 5 rfl ?_
        obtain ⟨q5, hq5, h⟩ := Option.bind_eq_some_iff.mp h
        refine mm_callVv X dX8_put_45 (As := [.int p1, .int p3, .int p4]) (rest := []) 0 (by decide) md_cf_0 rfl hL (mX8_lay hJ hq5) gX8_put_X8_lay rfl ⟨rfl, rfl⟩ hyX8_lay ⟨Nat.le_of_ble_eq_true rfl, Nat.le_of_ble_eq_true rfl⟩ rfl (Nat.le_of_ble_eq_true rfl) ?_
        refine mm_iconst X dX8_put_48 (v := 1) (by decide) ?_
        obtain rfl := Option.some.inj h
        exact mm_iret X dX8_put_49 rfl hQ rfl
      · have h := (if_pos c4).symm.trans h
        refine mm_aload_n X dX8_put_33 1 rfl ?_
        refine mm_iload X dX8_put_34 0 rfl ?_
        refine mm_callVi X dX8_put_36 (As := [.int q3]) (rest := []) 0 (by decide) md_cf_0 rfl hL (mX8_meets hJ (res := fX8_meets σ q3) rfl) gX8_put_X8_meets rfl ⟨rfl, rfl⟩ hyX8_meets ⟨Nat.le_of_ble_eq_true rfl, Nat.le_of_ble_eq_true rfl⟩ rfl (Nat.le_of_ble_eq_true rfl) ?_
        obtain rfl := Option.some.inj h
        exact mm_iret X dX8_put_39 rfl hQ rfl
    · have h := (if_pos c2).symm.trans h
      refine mm_bipush X dX8_put_16 (v := -2) (by decide) ?_
      obtain rfl := Option.some.inj h
      exact mm_iret X dX8_put_18 rfl hQ rfl
/-! LinenTunnelModel.get -/
def fX8_get (σ : mm_M) (p1 p2 p3 : Int32) : Option (Int32 × mm_M) := (if (fX8_isSheet p1) = 0 then some ((-2147483648 : Int32), σ) else (if (fX8_in p2 (0 : Int32) (2 : Int32)) = 0 then some ((-2147483648 : Int32), σ) else (fX8_lacks σ p1 p2 p3).bind fun q3 => (if 0 < q3 then some ((-2147483648 : Int32), (mm_up σ 0 36 q3)) else mm_g 240 (((60 : Int32) * p1) + p3) (some ((σ 27 (((60 : Int32) * p1) + p3).toNatClampNeg), σ)))))
abbrev rX8_get : Room := { frames := 2, cells := 0, slots := 0, locals := 45 }
theorem hyX8_get : yX8_get.cls = RX8 ∧ yX8_get.cls ≠ "java/lang/invoke/MethodHandle" ∧ yX8_get.cls ≠ "java/lang/invoke/VarHandle" ∧ (parseMethodDescriptor yX8_get.desc).map (fun d => d.parameters.length) = some 3 := by decide +kernel
theorem kX8_get_1 : (Cond.constant RX8 182 (-2147483648) : Cond) ∈ wsX8_get := List.mem_of_getElem? (i := 1) rfl
theorem kX8_get_3 : (Cond.fieldLink RX8 99 "LinenTunnelModel" "items" "[I" : Cond) ∈ wsX8_get := List.mem_of_getElem? (i := 3) rfl
theorem uX8_get_8 : ∀ w ∈ u_ws RX8 TX8 37, w ∈ wsX8_get := fun _ h => (List.mem_cons_of_mem _ (List.mem_append_right _ h))
theorem kX8_get_2 : (Cond.fieldLink RX8 172 "LinenTunnelModel" "finding" "I" : Cond) ∈ wsX8_get := List.mem_of_getElem? (i := 2) rfl
set_option maxRecDepth 100000 in
set_option maxHeartbeats 4000000 in
theorem mX8_get {l : Launch} {D : va_G} {cI cZ : ClassId} {a : Nat → Nat} (hJ : mm_J 29 a) {σ : mm_M} {p1 p2 p3 : Int32} {res : Int32 × mm_M} (h : fX8_get σ p1 p2 p3 = some res) (sz : Nat) : Met l yX8_get wsX8_get rX8_get (eP D cI cZ a σ [.ref (a 0), .int p1, .int p2, .int p3] sz) (eQi D cI cZ a res.1 res.2 sz) 0 0 (mm_A 29 a sz) := by
  refine mm_met (fun sz => eQi D cI cZ a res.1 res.2 sz) (lv := [(0, .ref (a 0)), (1, .int p1), (2, .int p2), (3, .int p3)]) (ret := (some .int)) (cc := cX8_get) (maxL := 5) (own := RX8) hJ (by decide +kernel) rfl rfl (Nat.le_of_ble_eq_true rfl) rfl ?_ sz
  intro K hL X hQ
  unfold fX8_get at h
  refine mm_iload_n X dX8_get_0 1 rfl ?_
  refine mm_callSi X dX8_get_1 (As := [.int p1]) (rest := []) hL (mX8_isSheet hJ (res := fX8_isSheet p1) rfl) gX8_get_X8_isSheet rfl ⟨rfl, rfl⟩ hyX8_isSheet ⟨Nat.le_of_ble_eq_true rfl, Nat.le_of_ble_eq_true rfl⟩ rfl (Nat.le_of_ble_eq_true rfl) ?_
  refine mm_if_eq X dX8_get_4 (tgt := 16) (by decide) (fun c1 => ?_) (fun c1 => ?_)
  · have h := (if_pos c1).symm.trans h
    refine mm_ldc X dX8_get_16 kX8_get_1 ?_
    obtain rfl := Option.some.inj h
    exact mm_iret X dX8_get_18 rfl hQ rfl
  · have h := (if_neg c1).symm.trans h
    refine mm_iload_n X dX8_get_7 2 rfl ?_
    refine mm_iconst X dX8_get_8 (v := 0) (by decide) ?_
    refine mm_iconst X dX8_get_9 (v := 2) (by decide) ?_
    refine mm_callSi X dX8_get_10 (As := [.int p2, .int (0 : Int32), .int (2 : Int32)]) (rest := []) hL (mX8_in hJ (res := fX8_in p2 (0 : Int32) (2 : Int32)) rfl) gX8_get_X8_in rfl ⟨rfl, rfl⟩ hyX8_in ⟨Nat.le_of_ble_eq_true rfl, Nat.le_of_ble_eq_true rfl⟩ rfl (Nat.le_of_ble_eq_true rfl) ?_
    refine mm_if_ne X dX8_get_13 (tgt := 19) (by decide) (fun c2 => ?_) (fun c2 => ?_)
    · have h := (if_neg c2).symm.trans h
      refine mm_aload_n X dX8_get_19 0 rfl ?_
      refine mm_iload_n X dX8_get_20 1 rfl ?_
      refine mm_iload_n X dX8_get_21 2 rfl ?_
      refine mm_iload_n X dX8_get_22 3 rfl ?_
      obtain ⟨q3, hq3, h⟩ := Option.bind_eq_some_iff.mp h
      refine mm_callVi X dX8_get_23 (As := [.int p1, .int p2, .int p3]) (rest := []) 0 (by decide) md_cf_0 rfl hL (mX8_lacks hJ hq3) gX8_get_X8_lacks rfl ⟨rfl, rfl⟩ hyX8_lacks ⟨Nat.le_of_ble_eq_true rfl, Nat.le_of_ble_eq_true rfl⟩ rfl (Nat.le_of_ble_eq_true rfl) ?_
      refine mm_istore X dX8_get_26 (by decide) (lv2 := [(4, .int q3), (0, .ref (a 0)), (1, .int p1), (2, .int p2), (3, .int p3)]) rfl ?_
      refine mm_iload X dX8_get_28 0 rfl ?_
      refine mm_if_le X dX8_get_30 (tgt := 42) (by decide) (fun c4 => ?_) (fun c4 => ?_)
      · have h := (if_neg c4).symm.trans h
        refine mm_aload_n X dX8_get_42 1 rfl ?_
        refine mm_get X dX8_get_43 0 34 (by decide) md_cf_0 rfl (by decide) uX8_get_8 kX8_get_3 rfl (v := .ref (a 27)) rfl ?_
        refine mm_bipush X dX8_get_46 (v := 60) (by decide) ?_
        refine mm_iload_n X dX8_get_48 2 rfl ?_
        refine mm_imul X dX8_get_49 ?_
        refine mm_iload_n X dX8_get_50 4 rfl ?_
        refine mm_iadd X dX8_get_51 ?_
        obtain ⟨hi5, h⟩ := mm_g_some h
        refine mm_iald X dX8_get_52 27 0 (by decide) rfl rfl hi5 (v := (σ 27 (((60 : Int32) * p1) + p3).toNatClampNeg)) rfl ?_
        obtain rfl := Option.some.inj h
        exact mm_iret X dX8_get_53 rfl hQ rfl
      · have h := (if_pos c4).symm.trans h
        refine mm_aload_n X dX8_get_33 1 rfl ?_
        refine mm_iload X dX8_get_34 0 rfl ?_
        refine mm_put X dX8_get_36 0 36 (by decide) tyX8 tyX8_ok nmX8 md_cf_0 rfl rfl (by decide) uX8_get_8 kX8_get_2 rfl rfl rfl (Nat.le_of_ble_eq_true rfl) ?_
        refine mm_ldc X dX8_get_39 kX8_get_1 ?_
        obtain rfl := Option.some.inj h
        exact mm_iret X dX8_get_41 rfl hQ rfl
    · have h := (if_pos c2).symm.trans h
      refine mm_ldc X dX8_get_16 kX8_get_1 ?_
      obtain rfl := Option.some.inj h
      exact mm_iret X dX8_get_18 rfl hQ rfl
