/-! ===== the rows ===== -/
theorem mm_in {i : Int32} {n : Nat} (h1 : ¬ i < 0) (h2 : i < nI n) (hn : n < 2 ^ 31) : ¬ (i < 0 ∨ n ≤ i.toNatClampNeg) := by
  rintro (h | h)
  · exact h1 h
  · rw [Int32.lt_iff_toInt_lt, nI_toInt hn] at h2
    rw [Int32.lt_iff_toInt_lt, Int32.toInt_zero] at h1
    rw [← Int32.toNat_toInt] at h
    omega
theorem dv_len_lt (j : Nat) : dv_len j < 2 ^ 31 := Nat.lt_of_le_of_lt (dv_len_le j) (by decide)
theorem dr_wr_lo {σ : mm_M} {j : Nat} {i v : Int32} (h : i < 0) : dr_wr σ j i v = σ := by
  funext c
  unfold dr_wr
  split
  · subst_vars
    rfl
  · rfl
theorem dr_wr_hi {σ : mm_M} {j : Nat} {i v : Int32} (h : ¬ i < 0) (h2 : ¬ i < nI (dv_len j)) : dr_wr σ j i v = σ := by
  funext c
  unfold dr_wr
  rw [if_neg h, if_neg h2]
  split
  · subst_vars
    rfl
  · rfl
theorem dr_wr_in {σ : mm_M} {j : Nat} {i v : Int32} (h : ¬ i < 0) (h2 : i < nI (dv_len j)) : dr_wr σ j i v = mm_up σ j i.toNatClampNeg v := by
  funext c
  unfold dr_wr mm_up
  rw [if_neg h, if_pos h2]
def dr_fk (σ : mm_M) (j k : Nat) (v : Int32) : mm_M := fun c => if c = j then (fun i => if i < k then v else σ j i) else σ c
theorem dr_fk_0 {σ : mm_M} {j : Nat} {v : Int32} : dr_fk σ j 0 v = σ := by
  funext c
  unfold dr_fk
  split
  · subst_vars
    rfl
  · rfl
theorem dr_fk_s {σ : mm_M} {j k : Nat} {v : Int32} : mm_up (dr_fk σ j k v) j k v = dr_fk σ j (k + 1) v := by
  funext c
  unfold mm_up dr_fk upd
  by_cases hc : c = j
  · subst hc
    simp only [if_true]
    funext i
    by_cases hi : i = k
    · subst hi
      simp
    · by_cases h2 : i < k
      · simp [hi, h2, Nat.lt_succ_of_lt h2]
      · have h3 : ¬ i < k + 1 := by omega
        simp [hi, h2, h3]
  · simp [hc]
abbrev rX4_read : Room := { frames := 0, cells := 0, slots := 0, locals := 0 }
abbrev rX4_write : Room := { frames := 0, cells := 0, slots := 0, locals := 0 }
abbrev rX4_fill : Room := { frames := 0, cells := 0, slots := 0, locals := 0 }
theorem hyX4_read : yX4_read.cls = RX4 ∧ yX4_read.cls ≠ "java/lang/invoke/MethodHandle" ∧ yX4_read.cls ≠ "java/lang/invoke/VarHandle" ∧ (parseMethodDescriptor yX4_read.desc).map (fun d => d.parameters.length) = some 1 := by decide +kernel
theorem hyX4_write : yX4_write.cls = RX4 ∧ yX4_write.cls ≠ "java/lang/invoke/MethodHandle" ∧ yX4_write.cls ≠ "java/lang/invoke/VarHandle" ∧ (parseMethodDescriptor yX4_write.desc).map (fun d => d.parameters.length) = some 2 := by decide +kernel
theorem hyX4_fill : yX4_fill.cls = RX4 ∧ yX4_fill.cls ≠ "java/lang/invoke/MethodHandle" ∧ yX4_fill.cls ≠ "java/lang/invoke/VarHandle" ∧ (parseMethodDescriptor yX4_fill.desc).map (fun d => d.parameters.length) = some 1 := by decide +kernel
theorem kX4_read : (Cond.fieldLink RX4 7 "LinenTunnel$Row" "items" "[I" : Cond) ∈ wsX4_read := List.mem_of_getElem? (i := 1) rfl
theorem kX4_write : (Cond.fieldLink RX4 7 "LinenTunnel$Row" "items" "[I" : Cond) ∈ wsX4_write := List.mem_of_getElem? (i := 1) rfl
theorem kX4_fill : (Cond.fieldLink RX4 7 "LinenTunnel$Row" "items" "[I" : Cond) ∈ wsX4_fill := List.mem_of_getElem? (i := 1) rfl
theorem uX4_read : ∀ w ∈ u_ws RX4 TX4 1, w ∈ wsX4_read := fun _ h => (List.mem_cons_of_mem _ (List.mem_append_right _ h))
theorem uX4_write : ∀ w ∈ u_ws RX4 TX4 1, w ∈ wsX4_write := fun _ h => (List.mem_cons_of_mem _ (List.mem_append_right _ h))
theorem uX4_fill : ∀ w ∈ u_ws RX4 TX4 1, w ∈ wsX4_fill := fun _ h => (List.mem_cons_of_mem _ (List.mem_append_right _ h))
set_option maxRecDepth 100000 in
set_option maxHeartbeats 4000000 in
theorem mX4_read {l : Launch} {D : va_G} {cI : ClassId} {a : Nat → Nat} (hJ : mm_J 59 a) {j : Nat} (h1 : 7 ≤ j) (h2 : j < 33) {σ : mm_M} {p1 : Int32} {res : Int32} (h : dr_rd σ j p1 = res) (sz : Nat) : Met l yX4_read wsX4_read rX4_read (dP D cI a σ [.ref (a (j + 26)), .int p1] sz) (dQi D cI a res σ sz) 0 0 (mm_A 59 a sz) := by
  refine mm_met (fun sz => dQi D cI a res σ sz) (lv := [(0, .ref (a (j + 26))), (1, .int p1)]) (ret := (some .int)) (cc := cX4_read) (maxL := 2) (own := RX4) hJ (by decide +kernel) rfl rfl (Nat.le_of_ble_eq_true rfl) rfl ?_ sz
  intro K hL X hQ
  unfold dr_rd at h
  refine mm_iload_n X dX4_read_0 1 rfl ?_
  refine mm_if_lt X dX4_read_1 (tgt := 22) (by decide) (fun c => ?_) (fun c => ?_)
  · have h := (if_pos c).symm.trans h
    refine mm_iconst X dX4_read_22 (v := 0) (by decide) ?_
    exact mm_iret X dX4_read_23 rfl hQ h
  · have h := (if_neg c).symm.trans h
    refine mm_iload_n X dX4_read_4 1 rfl ?_
    refine mm_aload_n X dX4_read_5 0 rfl ?_
    refine mm_get X dX4_read_6 (j + 26) 0 (by omega) (dv_cf_row h1) rfl (by decide) uX4_read kX4_read rfl (v := .ref (a j)) rfl ?_
    refine mm_alen X dX4_read_9 j 0 (by omega) (dv_cf_arr h1 h2) rfl (v := nI (dv_len j)) rfl ?_
    refine mm_icmp_ge X dX4_read_10 (tgt := 22) (by decide) (fun c2 => ?_) (fun c2 => ?_)
    · have h := (if_neg c2).symm.trans h
      refine mm_iconst X dX4_read_22 (v := 0) (by decide) ?_
      exact mm_iret X dX4_read_23 rfl hQ h
    · have h := (if_pos c2).symm.trans h
      refine mm_aload_n X dX4_read_13 0 rfl ?_
      refine mm_get X dX4_read_14 (j + 26) 0 (by omega) (dv_cf_row h1) rfl (by decide) uX4_read kX4_read rfl (v := .ref (a j)) rfl ?_
      refine mm_iload_n X dX4_read_17 1 rfl ?_
      refine mm_iald X dX4_read_18 j 0 (by omega) (dv_cf_arr h1 h2) rfl (mm_in c c2 (dv_len_lt j)) (v := res) h ?_
      refine mm_goto X dX4_read_19 (tgt := 23) (by decide) ?_
      exact mm_iret X dX4_read_23 rfl hQ rfl
set_option maxRecDepth 100000 in
set_option maxHeartbeats 4000000 in
theorem mX4_write {l : Launch} {D : va_G} {cI : ClassId} {a : Nat → Nat} (hJ : mm_J 59 a) {j : Nat} (h1 : 7 ≤ j) (h2 : j < 33) {σ : mm_M} {p1 p2 : Int32} {res : mm_M} (h : dr_wr σ j p1 p2 = res) (sz : Nat) : Met l yX4_write wsX4_write rX4_write (dP D cI a σ [.ref (a (j + 26)), .int p1, .int p2] sz) (dQv D cI a res sz) 0 0 (mm_A 59 a sz) := by
  refine mm_met (fun sz => dQv D cI a res sz) (lv := [(0, .ref (a (j + 26))), (1, .int p1), (2, .int p2)]) (ret := none) (cc := cX4_write) (maxL := 3) (own := RX4) hJ (by decide +kernel) rfl rfl (Nat.le_of_ble_eq_true rfl) rfl ?_ sz
  intro K hL X hQ
  refine mm_iload_n X dX4_write_0 1 rfl ?_
  refine mm_if_lt X dX4_write_1 (tgt := 20) (by decide) (fun c => ?_) (fun c => ?_)
  · rw [dr_wr_lo c] at h
    subst h
    exact mm_vret X dX4_write_20 rfl hQ
  · refine mm_iload_n X dX4_write_4 1 rfl ?_
    refine mm_aload_n X dX4_write_5 0 rfl ?_
    refine mm_get X dX4_write_6 (j + 26) 0 (by omega) (dv_cf_row h1) rfl (by decide) uX4_write kX4_write rfl (v := .ref (a j)) rfl ?_
    refine mm_alen X dX4_write_9 j 0 (by omega) (dv_cf_arr h1 h2) rfl (v := nI (dv_len j)) rfl ?_
    refine mm_icmp_ge X dX4_write_10 (tgt := 20) (by decide) (fun c2 => ?_) (fun c2 => ?_)
    · rw [dr_wr_hi c c2] at h
      subst h
      exact mm_vret X dX4_write_20 rfl hQ
    · rw [dr_wr_in c c2] at h
      subst h
      refine mm_aload_n X dX4_write_13 0 rfl ?_
      refine mm_get X dX4_write_14 (j + 26) 0 (by omega) (dv_cf_row h1) rfl (by decide) uX4_write kX4_write rfl (v := .ref (a j)) rfl ?_
      refine mm_iload_n X dX4_write_17 1 rfl ?_
      refine mm_iload_n X dX4_write_18 2 rfl ?_
      refine mm_iast X dX4_write_19 j 0 (by omega) (fun _ => dv_cf_arr h1 h2) rfl (mm_in c c2 (dv_len_lt j)) ?_
      exact mm_vret X dX4_write_20 rfl hQ
set_option maxRecDepth 100000 in
set_option maxHeartbeats 4000000 in
theorem mX4_fill {l : Launch} {D : va_G} {cI : ClassId} {a : Nat → Nat} (hJ : mm_J 59 a) {j : Nat} (h1 : 7 ≤ j) (h2 : j < 33) {σ : mm_M} {p1 : Int32} {res : mm_M} (h : dr_fl σ j p1 = res) (sz : Nat) : Met l yX4_fill wsX4_fill rX4_fill (dP D cI a σ [.ref (a (j + 26)), .int p1] sz) (dQv D cI a res sz) 0 0 (mm_A 59 a sz) := by
  refine mm_met (fun sz => dQv D cI a res sz) (lv := [(0, .ref (a (j + 26))), (1, .int p1)]) (ret := none) (cc := cX4_fill) (maxL := 3) (own := RX4) hJ (by decide +kernel) rfl rfl (Nat.le_of_ble_eq_true rfl) rfl ?_ sz
  intro K hL X hQ
  have hlen := dv_len_lt j
  have hloop : ∀ (n k : Nat), k + n = dv_len j → dG K D cI a (dr_fk σ j k p1) 2 [(2, .int (nI k)), (0, .ref (a (j + 26))), (1, .int p1)] [] := by
    intro n
    induction n with
    | zero =>
      intro k hk
      have hk : k = dv_len j := hk
      have e : dr_fk σ j k p1 = res := by rw [hk]; exact h
      rw [e]
      refine mm_iload_n X dX4_fill_2 0 rfl ?_
      refine mm_aload_n X dX4_fill_3 1 rfl ?_
      refine mm_get X dX4_fill_4 (j + 26) 0 (by omega) (dv_cf_row h1) rfl (by decide) uX4_fill kX4_fill rfl (v := .ref (a j)) rfl ?_
      refine mm_alen X dX4_fill_7 j 0 (by omega) (dv_cf_arr h1 h2) rfl (v := nI (dv_len j)) rfl ?_
      refine mm_icmp_ge X dX4_fill_8 (tgt := 24) (by decide) (fun c2 => ?_) (fun c2 => ?_)
      · exact mm_vret X dX4_fill_24 rfl hQ
      · exact absurd c2 (nI_nlt (by omega) (by omega))
    | succ n ih =>
      intro k hk
      refine mm_iload_n X dX4_fill_2 0 rfl ?_
      refine mm_aload_n X dX4_fill_3 1 rfl ?_
      refine mm_get X dX4_fill_4 (j + 26) 0 (by omega) (dv_cf_row h1) rfl (by decide) uX4_fill kX4_fill rfl (v := .ref (a j)) rfl ?_
      refine mm_alen X dX4_fill_7 j 0 (by omega) (dv_cf_arr h1 h2) rfl (v := nI (dv_len j)) rfl ?_
      refine mm_icmp_ge X dX4_fill_8 (tgt := 24) (by decide) (fun c2 => ?_) (fun c2 => ?_)
      · exact absurd (nI_lt (by omega) (by omega)) c2
      · refine mm_aload_n X dX4_fill_11 1 rfl ?_
        refine mm_get X dX4_fill_12 (j + 26) 0 (by omega) (dv_cf_row h1) rfl (by decide) uX4_fill kX4_fill rfl (v := .ref (a j)) rfl ?_
        refine mm_iload_n X dX4_fill_15 0 rfl ?_
        refine mm_iload_n X dX4_fill_16 2 rfl ?_
        refine mm_iast X dX4_fill_17 j 0 (by omega) (fun _ => dv_cf_arr h1 h2) rfl (mm_in (nI_pos (by omega)) c2 hlen) ?_
        rw [nI_clamp (by omega), dr_fk_s]
        refine mm_iinc X dX4_fill_18 0 rfl (v := nI (k + 1)) (nI_succ k).symm (by decide) (lv2 := [(2, .int (nI (k + 1))), (0, .ref (a (j + 26))), (1, .int p1)]) rfl ?_
        refine mm_goto X dX4_fill_21 (tgt := 2) (by decide) ?_
        exact ih (k + 1) (by omega)
  refine mm_iconst X dX4_fill_0 (v := 0) (by decide) ?_
  refine mm_istore_n X dX4_fill_1 (by decide) (lv2 := [(2, .int (0 : Int32)), (0, .ref (a (j + 26))), (1, .int p1)]) rfl ?_
  have h0 := hloop (dv_len j) 0 (by omega)
  rw [dr_fk_0, nI_0] at h0
  exact h0
