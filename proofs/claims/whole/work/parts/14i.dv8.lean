/-! LinenTunnel.digest -/
def fX7_digest_6 (F : Nat) (σ : mm_M) : Nat → Int64 → Int32 → Option (Int64)
  | 0, _, _ => none
  | k + 1, l1, l3 => (if (5 : Int32) < l3 then some (l1) else fX7_digest_6 F σ k (((31 : Int64) * l1) + (fX7_count σ l3).toInt64) (l3 + 1))
def fX7_digest_60 (F : Nat) (σ : mm_M) (l3 : Int32) : Nat → Int64 → Int32 → Option (Int64)
  | 0, _, _ => none
  | k + 1, l1, l4 => (if (5 : Int32) < l4 then some (l1) else fX7_digest_60 F σ l3 k (((31 : Int64) * l1) + (fX7_about σ l3 l4).toInt64) (l4 + 1))
def fX7_digest_46 (F : Nat) (σ : mm_M) : Nat → Int64 → Int32 → Option (Int64)
  | 0, _, _ => none
  | k + 1, l1, l3 => (if l3 < (σ 2 0) then (fX7_digest_60 F σ l3 F l1 (2 : Int32)).bind fun q2 => fX7_digest_46 F σ k q2 (l3 + 1) else some (l1))
def fX7_digest_95 (F : Nat) (σ : mm_M) : Nat → Int64 → Int32 → Option (Int64)
  | 0, _, _ => none
  | k + 1, l1, l3 => (if l3 < (σ 3 1) then fX7_digest_95 F σ k (((31 : Int64) * l1) + (fX7_at σ l3).toInt64) (l3 + 1) else some (l1))
def fX7_digest_127 (F : Nat) (σ : mm_M) : Nat → Int64 → Int32 → Option (Int64)
  | 0, _, _ => none
  | k + 1, l1, l3 => (if l3 < (7 : Int32) then fX7_digest_127 F σ k (((31 : Int64) * l1) + (fX7_washed σ l3).toInt64) (l3 + 1) else some (l1))
def fX7_digest (F : Nat) (σ : mm_M) : Option (Int64) := (fX7_digest_6 F σ F (17 : Int64) (0 : Int32)).bind fun q1 => (fX7_digest_46 F σ F (((31 : Int64) * q1) + (fX7_count σ (7 : Int32)).toInt64) (0 : Int32)).bind fun q2 => (fX7_digest_95 F σ F q2 (0 : Int32)).bind fun q3 => (fX7_digest_127 F σ F q3 (0 : Int32)).bind fun q4 => some q4
abbrev rX7_digest : Room := { frames := 3, cells := 0, slots := 0, locals := 65 }
theorem hyX7_digest : yX7_digest.cls = RX7 ∧ yX7_digest.cls ≠ "java/lang/invoke/MethodHandle" ∧ yX7_digest.cls ≠ "java/lang/invoke/VarHandle" ∧ (parseMethodDescriptor yX7_digest.desc).map (fun d => d.parameters.length) = some 0 := by decide +kernel
theorem kX7_digest_1 : (Cond.constantLong RX7 242 (17) : Cond) ∈ wsX7_digest := List.mem_of_getElem? (i := 1) rfl
theorem kX7_digest_2 : (Cond.constantLong RX7 244 (31) : Cond) ∈ wsX7_digest := List.mem_of_getElem? (i := 2) rfl
theorem kX7_digest_3 : (Cond.fieldLink RX7 19 "LinenTunnel" "linen" "LLinenTunnel$Linen;" : Cond) ∈ wsX7_digest := List.mem_of_getElem? (i := 3) rfl
theorem uX7_digest_7 : ∀ w ∈ u_ws RX7 TX7 7, w ∈ wsX7_digest := fun _ h => (List.mem_cons_of_mem _ (List.mem_append_left _ (List.mem_append_left _ (List.mem_append_left _ (List.mem_append_left _ (List.mem_append_left _ (List.mem_append_right _ h)))))))
theorem uX7_digest_2 : ∀ w ∈ u_ws RX2 TX2 7, w ∈ wsX7_digest := fun _ h => (List.mem_cons_of_mem _ (List.mem_append_left _ (List.mem_append_left _ (List.mem_append_left _ (List.mem_append_left _ (List.mem_append_right _ h))))))
theorem kX7_digest_4 : (Cond.fieldLink RX7 28 "LinenTunnel" "waiting" "LLinenTunnel$Waiting;" : Cond) ∈ wsX7_digest := List.mem_of_getElem? (i := 4) rfl
theorem uX7_digest_6 : ∀ w ∈ u_ws RX6 TX6 5, w ∈ wsX7_digest := fun _ h => (List.mem_cons_of_mem _ (List.mem_append_left _ (List.mem_append_left _ (List.mem_append_left _ (List.mem_append_right _ h)))))
set_option maxRecDepth 100000 in
set_option maxHeartbeats 4000000 in
theorem tX7_digest_6 {l : Launch} {K : mm_K} {D : va_G} {cI : ClassId} {a : Nat → Nat} (X : dC K rX7_digest cX7_digest 5 (some .long) wsX7_digest RX7 D cI a) (hL : mm_L K l) (hJ : mm_J 59 a) {F : Nat} {σ : mm_M} {out : Int64} (hx : dG K D cI a σ 30 [(0, .ref (a 0)), (1, .long out)] []) : ∀ (k : Nat) (l1 : Int64) (l3 : Int32), fX7_digest_6 F σ k l1 l3 = some out → dG K D cI a σ 6 [(0, .ref (a 0)), (1, .long l1), (3, .int l3)] [] := by
  intro k
  induction k with
  | zero =>
    intro l1 l3 h
    have h : none = some out := h
    cases h
  | succ k ih =>
    intro l1 l3 h
    rw [fX7_digest_6] at h
    refine mm_iload_n X dX7_digest_6 2 rfl ?_
    refine mm_iconst X dX7_digest_7 (v := 5) (by decide) ?_
    refine mm_icmp_gt X dX7_digest_8 (tgt := 30) (by decide) (fun c1 => ?_) (fun c1 => ?_)
    · have h := (if_pos c1).symm.trans h
      obtain rfl := Option.some.inj h
      refine mm_loc [0, 1] rfl ?_
      exact hx
    · have h := (if_neg c1).symm.trans h
      refine mm_ldc2 X dX7_digest_11 kX7_digest_2 ?_
      refine mm_lload_n X dX7_digest_14 1 rfl ?_
      refine mm_lmul X dX7_digest_15 ?_
      refine mm_aload_n X dX7_digest_16 0 rfl ?_
      refine mm_iload_n X dX7_digest_17 2 rfl ?_
      refine mm_callVi X dX7_digest_18 (As := [.int l3]) (rest := [.long ((31 : Int64) * l1)]) 0 (by decide) dv_cf_0 rfl hL (mX7_count hJ (res := fX7_count σ l3) rfl) gX7_digest_X7_count rfl ⟨rfl, rfl⟩ hyX7_count ⟨Nat.le_of_ble_eq_true rfl, Nat.le_of_ble_eq_true rfl⟩ rfl (Nat.le_of_ble_eq_true rfl) ?_
      refine mm_i2l X dX7_digest_21 ?_
      refine mm_ladd X dX7_digest_22 ?_
      refine mm_lstore_n X dX7_digest_23 (by decide) (lv2 := [(1, .long (((31 : Int64) * l1) + (fX7_count σ l3).toInt64)), (0, .ref (a 0)), (3, .int l3)]) rfl ?_
      refine mm_iinc X dX7_digest_24 2 rfl (v := (l3 + 1)) rfl (by decide) (lv2 := [(3, .int (l3 + 1)), (1, .long (((31 : Int64) * l1) + (fX7_count σ l3).toInt64)), (0, .ref (a 0))]) rfl ?_
      refine mm_goto X dX7_digest_27 (tgt := 6) (by decide) ?_
      refine mm_loc [2, 1, 0] rfl ?_
      exact ih _ _ h
set_option maxRecDepth 100000 in
set_option maxHeartbeats 4000000 in
theorem tX7_digest_60 {l : Launch} {K : mm_K} {D : va_G} {cI : ClassId} {a : Nat → Nat} (X : dC K rX7_digest cX7_digest 5 (some .long) wsX7_digest RX7 D cI a) (hL : mm_L K l) (hJ : mm_J 59 a) {F : Nat} {σ : mm_M} {l3 : Int32} {out : Int64} (hx : dG K D cI a σ 87 [(0, .ref (a 0)), (1, .long out), (3, .int l3)] []) : ∀ (k : Nat) (l1 : Int64) (l4 : Int32), fX7_digest_60 F σ l3 k l1 l4 = some out → dG K D cI a σ 60 [(0, .ref (a 0)), (1, .long l1), (3, .int l3), (4, .int l4)] [] := by
  intro k
  induction k with
  | zero =>
    intro l1 l4 h
    have h : none = some out := h
    cases h
  | succ k ih =>
    intro l1 l4 h
    rw [fX7_digest_60] at h
    refine mm_iload X dX7_digest_60 3 rfl ?_
    refine mm_iconst X dX7_digest_62 (v := 5) (by decide) ?_
    refine mm_icmp_gt X dX7_digest_63 (tgt := 87) (by decide) (fun c1 => ?_) (fun c1 => ?_)
    · have h := (if_pos c1).symm.trans h
      obtain rfl := Option.some.inj h
      refine mm_loc [0, 1, 2] rfl ?_
      exact hx
    · have h := (if_neg c1).symm.trans h
      refine mm_ldc2 X dX7_digest_66 kX7_digest_2 ?_
      refine mm_lload_n X dX7_digest_69 1 rfl ?_
      refine mm_lmul X dX7_digest_70 ?_
      refine mm_aload_n X dX7_digest_71 0 rfl ?_
      refine mm_iload_n X dX7_digest_72 2 rfl ?_
      refine mm_iload X dX7_digest_73 3 rfl ?_
      refine mm_callVi X dX7_digest_75 (As := [.int l3, .int l4]) (rest := [.long ((31 : Int64) * l1)]) 0 (by decide) dv_cf_0 rfl hL (mX7_about hJ (res := fX7_about σ l3 l4) rfl) gX7_digest_X7_about rfl ⟨rfl, rfl⟩ hyX7_about ⟨Nat.le_of_ble_eq_true rfl, Nat.le_of_ble_eq_true rfl⟩ rfl (Nat.le_of_ble_eq_true rfl) ?_
      refine mm_i2l X dX7_digest_78 ?_
      refine mm_ladd X dX7_digest_79 ?_
      refine mm_lstore_n X dX7_digest_80 (by decide) (lv2 := [(1, .long (((31 : Int64) * l1) + (fX7_about σ l3 l4).toInt64)), (0, .ref (a 0)), (3, .int l3), (4, .int l4)]) rfl ?_
      refine mm_iinc X dX7_digest_81 3 rfl (v := (l4 + 1)) rfl (by decide) (lv2 := [(4, .int (l4 + 1)), (1, .long (((31 : Int64) * l1) + (fX7_about σ l3 l4).toInt64)), (0, .ref (a 0)), (3, .int l3)]) rfl ?_
      refine mm_goto X dX7_digest_84 (tgt := 60) (by decide) ?_
      refine mm_loc [2, 1, 3, 0] rfl ?_
      exact ih _ _ h
set_option maxRecDepth 100000 in
set_option maxHeartbeats 4000000 in
theorem tX7_digest_46 {l : Launch} {K : mm_K} {D : va_G} {cI : ClassId} {a : Nat → Nat} (X : dC K rX7_digest cX7_digest 5 (some .long) wsX7_digest RX7 D cI a) (hL : mm_L K l) (hJ : mm_J 59 a) {F : Nat} {σ : mm_M} {out : Int64} (hx : dG K D cI a σ 93 [(0, .ref (a 0)), (1, .long out)] []) : ∀ (k : Nat) (l1 : Int64) (l3 : Int32), fX7_digest_46 F σ k l1 l3 = some out → dG K D cI a σ 46 [(0, .ref (a 0)), (1, .long l1), (3, .int l3)] [] := by
  intro k
  induction k with
  | zero =>
    intro l1 l3 h
    have h : none = some out := h
    cases h
  | succ k ih =>
    intro l1 l3 h
    rw [fX7_digest_46] at h
    refine mm_iload_n X dX7_digest_46 2 rfl ?_
    refine mm_aload_n X dX7_digest_47 0 rfl ?_
    refine mm_get X dX7_digest_48 0 1 (by decide) dv_cf_0 rfl (by decide) uX7_digest_7 kX7_digest_3 rfl (v := .ref (a 2)) rfl ?_
    refine mm_getN X dX7_digest_51 2 0 (by decide) dv_cf_2 rfl (by decide) uX7_digest_2 (List.mem_of_getElem? (i := 4) rfl) rfl (v := .int (σ 2 0)) rfl ?_
    refine mm_icmp_ge X dX7_digest_54 (tgt := 93) (by decide) (fun c1 => ?_) (fun c1 => ?_)
    · have h := (if_neg c1).symm.trans h
      obtain rfl := Option.some.inj h
      refine mm_loc [0, 1] rfl ?_
      exact hx
    · have h := (if_pos c1).symm.trans h
      refine mm_iconst X dX7_digest_57 (v := 2) (by decide) ?_
      refine mm_istore X dX7_digest_58 (by decide) (lv2 := [(4, .int (2 : Int32)), (0, .ref (a 0)), (1, .long l1), (3, .int l3)]) rfl ?_
      obtain ⟨q2, hq2, h⟩ := Option.bind_eq_some_iff.mp h
      refine mm_loc [1, 2, 3, 0] rfl ?_
      refine tX7_digest_60 X hL hJ ?_ F l1 (2 : Int32) hq2
      refine mm_iinc X dX7_digest_87 2 rfl (v := (l3 + 1)) rfl (by decide) (lv2 := [(3, .int (l3 + 1)), (0, .ref (a 0)), (1, .long q2)]) rfl ?_
      refine mm_goto X dX7_digest_90 (tgt := 46) (by decide) ?_
      refine mm_loc [1, 2, 0] rfl ?_
      exact ih _ _ h
set_option maxRecDepth 100000 in
set_option maxHeartbeats 4000000 in
theorem tX7_digest_95 {l : Launch} {K : mm_K} {D : va_G} {cI : ClassId} {a : Nat → Nat} (X : dC K rX7_digest cX7_digest 5 (some .long) wsX7_digest RX7 D cI a) (hL : mm_L K l) (hJ : mm_J 59 a) {F : Nat} {σ : mm_M} {out : Int64} (hx : dG K D cI a σ 125 [(0, .ref (a 0)), (1, .long out)] []) : ∀ (k : Nat) (l1 : Int64) (l3 : Int32), fX7_digest_95 F σ k l1 l3 = some out → dG K D cI a σ 95 [(0, .ref (a 0)), (1, .long l1), (3, .int l3)] [] := by
  intro k
  induction k with
  | zero =>
    intro l1 l3 h
    have h : none = some out := h
    cases h
  | succ k ih =>
    intro l1 l3 h
    rw [fX7_digest_95] at h
    refine mm_iload_n X dX7_digest_95 2 rfl ?_
    refine mm_aload_n X dX7_digest_96 0 rfl ?_
    refine mm_get X dX7_digest_97 0 2 (by decide) dv_cf_0 rfl (by decide) uX7_digest_7 kX7_digest_4 rfl (v := .ref (a 3)) rfl ?_
    refine mm_getN X dX7_digest_100 3 1 (by decide) dv_cf_3 rfl (by decide) uX7_digest_6 (List.mem_of_getElem? (i := 13) rfl) rfl (v := .int (σ 3 1)) rfl ?_
    refine mm_icmp_ge X dX7_digest_103 (tgt := 125) (by decide) (fun c1 => ?_) (fun c1 => ?_)
    · have h := (if_neg c1).symm.trans h
      obtain rfl := Option.some.inj h
      refine mm_loc [0, 1] rfl ?_
      exact hx
    · have h := (if_pos c1).symm.trans h
      refine mm_ldc2 X dX7_digest_106 kX7_digest_2 ?_
      refine mm_lload_n X dX7_digest_109 1 rfl ?_
      refine mm_lmul X dX7_digest_110 ?_
      refine mm_aload_n X dX7_digest_111 0 rfl ?_
      refine mm_iload_n X dX7_digest_112 2 rfl ?_
      refine mm_callVi X dX7_digest_113 (As := [.int l3]) (rest := [.long ((31 : Int64) * l1)]) 0 (by decide) dv_cf_0 rfl hL (mX7_at hJ (res := fX7_at σ l3) rfl) gX7_digest_X7_at rfl ⟨rfl, rfl⟩ hyX7_at ⟨Nat.le_of_ble_eq_true rfl, Nat.le_of_ble_eq_true rfl⟩ rfl (Nat.le_of_ble_eq_true rfl) ?_
      refine mm_i2l X dX7_digest_116 ?_
      refine mm_ladd X dX7_digest_117 ?_
      refine mm_lstore_n X dX7_digest_118 (by decide) (lv2 := [(1, .long (((31 : Int64) * l1) + (fX7_at σ l3).toInt64)), (0, .ref (a 0)), (3, .int l3)]) rfl ?_
      refine mm_iinc X dX7_digest_119 2 rfl (v := (l3 + 1)) rfl (by decide) (lv2 := [(3, .int (l3 + 1)), (1, .long (((31 : Int64) * l1) + (fX7_at σ l3).toInt64)), (0, .ref (a 0))]) rfl ?_
      refine mm_goto X dX7_digest_122 (tgt := 95) (by decide) ?_
      refine mm_loc [2, 1, 0] rfl ?_
      exact ih _ _ h
set_option maxRecDepth 100000 in
set_option maxHeartbeats 4000000 in
theorem tX7_digest_127 {l : Launch} {K : mm_K} {D : va_G} {cI : ClassId} {a : Nat → Nat} (X : dC K rX7_digest cX7_digest 5 (some .long) wsX7_digest RX7 D cI a) (hL : mm_L K l) (hJ : mm_J 59 a) {F : Nat} {σ : mm_M} {out : Int64} (hx : dG K D cI a σ 152 [(1, .long out)] []) : ∀ (k : Nat) (l1 : Int64) (l3 : Int32), fX7_digest_127 F σ k l1 l3 = some out → dG K D cI a σ 127 [(0, .ref (a 0)), (1, .long l1), (3, .int l3)] [] := by
  intro k
  induction k with
  | zero =>
    intro l1 l3 h
    have h : none = some out := h
    cases h
  | succ k ih =>
    intro l1 l3 h
    rw [fX7_digest_127] at h
    refine mm_iload_n X dX7_digest_127 2 rfl ?_
    refine mm_bipush X dX7_digest_128 (v := 7) (by decide) ?_
    refine mm_icmp_ge X dX7_digest_130 (tgt := 152) (by decide) (fun c1 => ?_) (fun c1 => ?_)
    · have h := (if_neg c1).symm.trans h
      obtain rfl := Option.some.inj h
      refine mm_loc [1] rfl ?_
      exact hx
    · have h := (if_pos c1).symm.trans h
      refine mm_ldc2 X dX7_digest_133 kX7_digest_2 ?_
      refine mm_lload_n X dX7_digest_136 1 rfl ?_
      refine mm_lmul X dX7_digest_137 ?_
      refine mm_aload_n X dX7_digest_138 0 rfl ?_
      refine mm_iload_n X dX7_digest_139 2 rfl ?_
      refine mm_callVi X dX7_digest_140 (As := [.int l3]) (rest := [.long ((31 : Int64) * l1)]) 0 (by decide) dv_cf_0 rfl hL (mX7_washed hJ (res := fX7_washed σ l3) rfl) gX7_digest_X7_washed rfl ⟨rfl, rfl⟩ hyX7_washed ⟨Nat.le_of_ble_eq_true rfl, Nat.le_of_ble_eq_true rfl⟩ rfl (Nat.le_of_ble_eq_true rfl) ?_
      refine mm_i2l X dX7_digest_143 ?_
      refine mm_ladd X dX7_digest_144 ?_
      refine mm_lstore_n X dX7_digest_145 (by decide) (lv2 := [(1, .long (((31 : Int64) * l1) + (fX7_washed σ l3).toInt64)), (0, .ref (a 0)), (3, .int l3)]) rfl ?_
      refine mm_iinc X dX7_digest_146 2 rfl (v := (l3 + 1)) rfl (by decide) (lv2 := [(3, .int (l3 + 1)), (1, .long (((31 : Int64) * l1) + (fX7_washed σ l3).toInt64)), (0, .ref (a 0))]) rfl ?_
      refine mm_goto X dX7_digest_149 (tgt := 127) (by decide) ?_
      refine mm_loc [2, 1, 0] rfl ?_
      exact ih _ _ h
set_option maxRecDepth 100000 in
set_option maxHeartbeats 4000000 in
theorem mX7_digest {l : Launch} {D : va_G} {cI : ClassId} {a : Nat → Nat} (hJ : mm_J 59 a) {F : Nat} {σ : mm_M} {res : Int64} (h : fX7_digest F σ = some res) (sz : Nat) : Met l yX7_digest wsX7_digest rX7_digest (dP D cI a σ [.ref (a 0)] sz) (dQl D cI a res σ sz) 0 0 (mm_A 59 a sz) := by
  refine mm_met (fun sz => dQl D cI a res σ sz) (lv := [(0, .ref (a 0))]) (ret := (some .long)) (cc := cX7_digest) (maxL := 5) (own := RX7) hJ (by decide +kernel) rfl rfl (Nat.le_of_ble_eq_true rfl) rfl ?_ sz
  intro K hL X hQ
  unfold fX7_digest at h
  refine mm_ldc2 X dX7_digest_0 kX7_digest_1 ?_
  refine mm_lstore_n X dX7_digest_3 (by decide) (lv2 := [(1, .long (17 : Int64)), (0, .ref (a 0))]) rfl ?_
  refine mm_iconst X dX7_digest_4 (v := 0) (by decide) ?_
  refine mm_istore_n X dX7_digest_5 (by decide) (lv2 := [(3, .int (0 : Int32)), (1, .long (17 : Int64)), (0, .ref (a 0))]) rfl ?_
  obtain ⟨q1, hq1, h⟩ := Option.bind_eq_some_iff.mp h
  refine mm_loc [2, 1, 0] rfl ?_
  refine tX7_digest_6 X hL hJ ?_ F (17 : Int64) (0 : Int32) hq1
  refine mm_ldc2 X dX7_digest_30 kX7_digest_2 ?_
  refine mm_lload_n X dX7_digest_33 1 rfl ?_
  refine mm_lmul X dX7_digest_34 ?_
  refine mm_aload_n X dX7_digest_35 0 rfl ?_
  refine mm_bipush X dX7_digest_36 (v := 7) (by decide) ?_
  refine mm_callVi X dX7_digest_38 (As := [.int (7 : Int32)]) (rest := [.long ((31 : Int64) * q1)]) 0 (by decide) dv_cf_0 rfl hL (mX7_count hJ (res := fX7_count σ (7 : Int32)) rfl) gX7_digest_X7_count rfl ⟨rfl, rfl⟩ hyX7_count ⟨Nat.le_of_ble_eq_true rfl, Nat.le_of_ble_eq_true rfl⟩ rfl (Nat.le_of_ble_eq_true rfl) ?_
  refine mm_i2l X dX7_digest_41 ?_
  refine mm_ladd X dX7_digest_42 ?_
  refine mm_lstore_n X dX7_digest_43 (by decide) (lv2 := [(1, .long (((31 : Int64) * q1) + (fX7_count σ (7 : Int32)).toInt64)), (0, .ref (a 0))]) rfl ?_
  refine mm_iconst X dX7_digest_44 (v := 0) (by decide) ?_
  refine mm_istore_n X dX7_digest_45 (by decide) (lv2 := [(3, .int (0 : Int32)), (1, .long (((31 : Int64) * q1) + (fX7_count σ (7 : Int32)).toInt64)), (0, .ref (a 0))]) rfl ?_
  obtain ⟨q2, hq2, h⟩ := Option.bind_eq_some_iff.mp h
  refine mm_loc [2, 1, 0] rfl ?_
  refine tX7_digest_46 X hL hJ ?_ F (((31 : Int64) * q1) + (fX7_count σ (7 : Int32)).toInt64) (0 : Int32) hq2
  refine mm_iconst X dX7_digest_93 (v := 0) (by decide) ?_
  refine mm_istore_n X dX7_digest_94 (by decide) (lv2 := [(3, .int (0 : Int32)), (0, .ref (a 0)), (1, .long q2)]) rfl ?_
  obtain ⟨q3, hq3, h⟩ := Option.bind_eq_some_iff.mp h
  refine mm_loc [1, 2, 0] rfl ?_
  refine tX7_digest_95 X hL hJ ?_ F q2 (0 : Int32) hq3
  refine mm_iconst X dX7_digest_125 (v := 0) (by decide) ?_
  refine mm_istore_n X dX7_digest_126 (by decide) (lv2 := [(3, .int (0 : Int32)), (0, .ref (a 0)), (1, .long q3)]) rfl ?_
  obtain ⟨q4, hq4, h⟩ := Option.bind_eq_some_iff.mp h
  refine mm_loc [1, 2, 0] rfl ?_
  refine tX7_digest_127 X hL hJ ?_ F q3 (0 : Int32) hq4
  refine mm_lload_n X dX7_digest_152 0 rfl ?_
  obtain rfl := Option.some.inj h
  exact mm_lret X dX7_digest_153 rfl hQ rfl
