def sm_cf (cI : ClassId) (n : Nat) : mm_F := fun a k f => if k = 0 then .inr (4, [.ref (a 1)]) else .inl (cI, n, .inl f)
def z0 : mm_M := fun _ _ => 0
abbrev rX4_init (n : Nat) : Room := { frames := 1, cells := 1, slots := n, locals := 12 }
theorem hyX4_init : yX4_init.cls ≠ "java/lang/invoke/MethodHandle" ∧ yX4_init.cls ≠ "java/lang/invoke/VarHandle" ∧ (parseMethodDescriptor yX4_init.desc).map (fun d => d.parameters.length) = some 1 := by decide +kernel
theorem uX4_init : ∀ w ∈ u_ws RX4 TX4 1, w ∈ wsX4_init := fun _ h => (List.mem_cons_of_mem _ (List.mem_append_right _ h))
set_option maxRecDepth 100000 in
set_option maxHeartbeats 4000000 in
theorem nX4_init {l : Launch} {D : va_G} {cI : ClassId} {h0 : Nat} {n : Int32} {M : Nat} (hM : n = nI M) (h1 : 0 < M) (h2 : M ≤ 3072) (sz : Nat) : Met l yX4_init wsX4_init (rX4_init M) (gg_P [] D [(cI, .int)] [(h0, .inr (4, [.null]))] [.ref h0, .int n] sz) (gg_Q D [(h0, .inr (4, [.null]))] h0 (sm_cf cI M) 2 z0 sz) 1 M (va_A [(h0, .inr (4, [.null]))] sz) := by
  refine gg_met (fun sz => gg_Q D [(h0, .inr (4, [.null]))] h0 (sm_cf cI M) 2 z0 sz) (lv := [(0, .ref h0), (1, .int n)]) (cc := cX4_init) (maxL := 2) (own := RX4) (by decide +kernel) rfl rfl rfl (Nat.le_of_ble_eq_true rfl) rfl ?_ sz
  intro K hL X hQ
  subst hM
  refine gg_aload_n X dX4_init_0 0 rfl ?_
  refine gg_obj X dX4_init_1 (List.mem_of_getElem? (i := 1) rfl) (List.mem_of_getElem? (i := 2) rfl) (List.mem_of_getElem? (i := 3) rfl) (Nat.le_of_ble_eq_true rfl) (Nat.le_of_ble_eq_true rfl) ?_
  refine gg_aload_n X dX4_init_4 0 rfl ?_
  refine gg_iload_n X dX4_init_5 1 rfl ?_
  refine gg_if_leF X dX4_init_6 (tgt := 13) (by decide) (nI_nle h1 (by omega)) ?_
  refine gg_iload_n X dX4_init_9 1 rfl ?_
  refine gg_goto X dX4_init_10 (tgt := 14) (by decide) ?_
  have hcb : componentBytes .int = 4 := rfl
  refine gg_newa X (atype := .int) (ty := .int) (M := M) (c2 := 1) (s2 := M) dX4_init_14 rfl (fun C h => by cases h) 0 rfl (List.mem_of_getElem? (i := 4) rfl) rfl (nI_pos (by omega)) (nI_clamp (by omega)) (by rw [hcb]; omega) rfl (by omega) (Nat.le_of_ble_eq_true rfl) (Nat.le_refl _) (fun q => ?_)
  refine gg_putF X (ty := .array .int) dX4_init_16 0 0 tyX4 tyX4_ok nmX4 (fs := [.null]) rfl rfl (by decide) uX4_init (List.mem_of_getElem? (i := 5) rfl) rfl rfl rfl (by decide +kernel) rfl rfl (Nat.le_of_ble_eq_true rfl) (ws2 := [(h0, .inr (4, [.ref q])), (q, .inl (cI, M, .inl (fun _ => 0)))]) rfl ?_
  exact gg_ret X dX4_init_19 hQ (fun k => if k = 0 then h0 else q) rfl [0, 1] (by decide) rfl
set_option maxRecDepth 100000 in
set_option maxHeartbeats 4000000 in
theorem nX4_fill {l : Launch} {D : va_G} {cI : ClassId} {n : Nat} {a : Nat → Nat} (hlen : n < 2 ^ 31) (hJ : mm_J 2 a) {σ : mm_M} {p1 : Int32} (sz : Nat) : Met l yX4_fill wsX4_fill rX4_fill (mm_P [] D (sm_cf cI n) 2 a [(cI, .int)] σ [.ref (a 0), .int p1] sz) (mm_Qv D (sm_cf cI n) 2 a (dr_fk σ 1 n p1) sz) 0 0 (mm_A 2 a sz) := by
  refine mm_met (fun sz => mm_Qv D (sm_cf cI n) 2 a (dr_fk σ 1 n p1) sz) (lv := [(0, .ref (a 0)), (1, .int p1)]) (ret := none) (cc := cX4_fill) (maxL := 3) (own := RX4) hJ (by decide +kernel) rfl rfl (Nat.le_of_ble_eq_true rfl) rfl ?_ sz
  intro K hL X hQ
  have hloop : ∀ (r k : Nat), k + r = n → mm_G K D (sm_cf cI n) 2 a (dr_fk σ 1 k p1) 2 [(2, .int (nI k)), (0, .ref (a 0)), (1, .int p1)] [] := by
    intro r
    induction r with
    | zero =>
      intro k hk
      have hk : k = n := hk
      subst hk
      refine mm_iload_n X dX4_fill_2 0 rfl ?_
      refine mm_aload_n X dX4_fill_3 1 rfl ?_
      refine mm_get X dX4_fill_4 0 0 (by decide) rfl rfl (by decide) uX4_fill kX4_fill rfl (v := .ref (a 1)) rfl ?_
      refine mm_alen X dX4_fill_7 1 0 (by decide) rfl rfl (v := nI k) rfl ?_
      refine mm_icmp_ge X dX4_fill_8 (tgt := 24) (by decide) (fun c2 => ?_) (fun c2 => ?_)
      · exact mm_vret X dX4_fill_24 rfl hQ
      · exact absurd c2 (nI_nlt (Nat.le_refl _) hlen)
    | succ r ih =>
      intro k hk
      refine mm_iload_n X dX4_fill_2 0 rfl ?_
      refine mm_aload_n X dX4_fill_3 1 rfl ?_
      refine mm_get X dX4_fill_4 0 0 (by decide) rfl rfl (by decide) uX4_fill kX4_fill rfl (v := .ref (a 1)) rfl ?_
      refine mm_alen X dX4_fill_7 1 0 (by decide) rfl rfl (v := nI n) rfl ?_
      refine mm_icmp_ge X dX4_fill_8 (tgt := 24) (by decide) (fun c2 => ?_) (fun c2 => ?_)
      · exact absurd (nI_lt (by omega) hlen) c2
      · refine mm_aload_n X dX4_fill_11 1 rfl ?_
        refine mm_get X dX4_fill_12 0 0 (by decide) rfl rfl (by decide) uX4_fill kX4_fill rfl (v := .ref (a 1)) rfl ?_
        refine mm_iload_n X dX4_fill_15 0 rfl ?_
        refine mm_iload_n X dX4_fill_16 2 rfl ?_
        refine mm_iast X dX4_fill_17 1 0 (by decide) (fun _ => rfl) rfl (mm_in (nI_pos (by omega)) c2 hlen) ?_
        rw [nI_clamp (by omega), dr_fk_s]
        refine mm_iinc X dX4_fill_18 0 rfl (v := nI (k + 1)) (nI_succ k).symm (by decide) (lv2 := [(2, .int (nI (k + 1))), (0, .ref (a 0)), (1, .int p1)]) rfl ?_
        refine mm_goto X dX4_fill_21 (tgt := 2) (by decide) ?_
        exact ih (k + 1) (by omega)
  refine mm_iconst X dX4_fill_0 (v := 0) (by decide) ?_
  refine mm_istore_n X dX4_fill_1 (by decide) (lv2 := [(2, .int (0 : Int32)), (0, .ref (a 0)), (1, .int p1)]) rfl ?_
  have h0 := hloop n 0 (by omega)
  rw [dr_fk_0, nI_0] at h0
  exact h0
set_option maxRecDepth 20000 in
theorem ggX0_init_X4_init : GoodIn wsX0_init wsX4_init := goodIn_r _ [25, 26, 2, 3, 27, 28, 45] (by decide +kernel) (by decide +kernel)
set_option maxRecDepth 20000 in
theorem gX0_init_X4_init : GoodIn wsX0_init (wsX4_init) := ggX0_init_X4_init
def ck_1 (cI : ClassId) : mm_F := fun a k f => match k with
  | 0 => .inr (1, [.int (f 0), .ref (a 1), .ref (a 2), .ref (a 3), .ref (a 4), .ref (a 5)])
  | 1 => .inr (4, [.ref (a 6)])
  | 2 => .inr (4, [.ref (a 7)])
  | 3 => .inr (4, [.ref (a 8)])
  | 4 => .inr (4, [.ref (a 9)])
  | 5 => .inr (4, [.ref (a 10)])
  | 6 => .inl (cI, 8, .inl f)
  | 7 => .inl (cI, 8, .inl f)
  | 8 => .inl (cI, 8, .inl f)
  | 9 => .inl (cI, 8, .inl f)
  | _ => .inl (cI, 8, .inl f)
def sX1_init : mm_M := z0
abbrev rX1_init : Room := { frames := 2, cells := 10, slots := 45, locals := 33 }
theorem hyX1_init : yX1_init.cls ≠ "java/lang/invoke/MethodHandle" ∧ yX1_init.cls ≠ "java/lang/invoke/VarHandle" ∧ (parseMethodDescriptor yX1_init.desc).map (fun d => d.parameters.length) = some 0 := by decide +kernel
set_option maxRecDepth 100000 in
set_option maxHeartbeats 4000000 in
theorem nX1_init {l : Launch} {D : va_G} {cI : ClassId} {h0 : Nat} (sz : Nat) : Met l yX1_init wsX1_init rX1_init (gg_P [] D [(cI, .int)] [(h0, .inr (1, [.int 0, .null, .null, .null, .null, .null]))] [.ref h0] sz) (gg_Q D [(h0, .inr (1, [.int 0, .null, .null, .null, .null, .null]))] h0 (ck_1 cI) 11 sX1_init sz) 10 45 (va_A [(h0, .inr (1, [.int 0, .null, .null, .null, .null, .null]))] sz) := by
  refine gg_met (y := yX1_init) (ws := wsX1_init) (rm := rX1_init) (D := D) (tys := [(cI, .int)]) (w0 := [(h0, .inr (1, [.int 0, .null, .null, .null, .null, .null]))]) (mc := 10) (ms := 45) (av := [.ref h0]) (fun sz => gg_Q D [(h0, .inr (1, [.int 0, .null, .null, .null, .null, .null]))] h0 (ck_1 cI) 11 sX1_init sz) (lv := [(0, .ref h0)]) (cc := cX1_init) (maxL := 1) (own := RX1) (by decide +kernel) rfl rfl rfl (Nat.le_of_ble_eq_true rfl) rfl ?_ sz
  intro K hL X hQ
  refine gg_aload_n X dX1_init_0 0 rfl ?_
  refine gg_obj X dX1_init_1 (List.mem_of_getElem? (i := 1) rfl) (List.mem_of_getElem? (i := 2) rfl) (List.mem_of_getElem? (i := 3) rfl) (Nat.le_of_ble_eq_true rfl) (Nat.le_of_ble_eq_true rfl) ?_
  refine gg_aload_n X dX1_init_4 0 rfl ?_
  refine gg_iconst X dX1_init_5 (v := 0) (by decide) ?_
  refine gg_put X (ty := .int) dX1_init_6 0 0 tyX1 tyX1_ok nmX1 rfl rfl (by decide) (fun _ h => (List.mem_cons_of_mem _ (List.mem_append_left _ (List.mem_append_right _ h)))) (List.mem_of_getElem? (i := 4) rfl) rfl rfl (by decide +kernel) rfl rfl (Nat.le_of_ble_eq_true rfl) (ws2 := [(h0, .inr (1, [.int 0, .null, .null, .null, .null, .null]))]) rfl ?_
  refine gg_aload_n X dX1_init_9 0 rfl ?_
  refine gg_new X (ci := 4) (M := 1) (c2 := 1) (s2 := 1) (fs := [.null]) dX1_init_10 tyX4 tyX4_ok rfl (fun _ h => (List.mem_cons_of_mem _ (List.mem_append_right _ h))) (List.mem_of_getElem? (i := 5) rfl) (List.mem_of_getElem? (i := 6) rfl) (List.mem_of_getElem? (i := 7) rfl) (fun j hj => by rcases (show j = 0 by omega) with rfl <;> rfl) rfl rfl (Nat.le_of_ble_eq_true rfl) (Nat.le_of_ble_eq_true rfl) (fun q0 => ?_)
  refine gg_eq (ws2 := [(h0, .inr (1, [.int 0, .null, .null, .null, .null, .null])), (q0, .inr (4, [.null]))]) rfl ?_
  refine gg_dup X dX1_init_13 rfl ?_
  refine gg_bipush X dX1_init_14 (v := 8) (by decide) ?_
  refine gg_call X (nw2 := []) (As := [.int 8]) (rest := [.ref q0, .ref h0]) (cf := (sm_cf cI 8)) (N := 2) (σ := z0) (c2 := 2) (s2 := 9) (wr := [(h0, .inr (1, [.int 0, .null, .null, .null, .null, .null]))]) dX1_init_16 hL (fun sz => nX4_init rfl (by decide) (by decide) sz) gX1_init_X4_init rfl ⟨rfl, rfl⟩ (List.mem_of_getElem? (i := 13) rfl) (List.mem_of_getElem? (i := 14) rfl) (List.mem_of_getElem? (i := 7) rfl) rfl hyX4_init ⟨Nat.le_of_ble_eq_true rfl, Nat.le_of_ble_eq_true rfl⟩ rfl (Nat.le_of_ble_eq_true rfl) (fun w h => by cases h) [0] rfl 1 [0] rfl rfl (by decide) (by decide) rfl rfl (Nat.le_of_ble_eq_true rfl) (Nat.le_of_ble_eq_true rfl) (fun a1 ea1 => ?_)
  subst ea1
  refine gg_eq (ws2 := [(h0, .inr (1, [.int 0, .null, .null, .null, .null, .null])), ((a1 0), .inr (4, [.ref (a1 1)])), ((a1 1), .inl (cI, 8, .inl (fun _ => 0)))]) rfl ?_
  refine gg_putF X (ty := (.object "LinenTunnel$Row")) dX1_init_19 0 1 tyX1 tyX1_ok nmX1 rfl rfl (by decide) (fun _ h => (List.mem_cons_of_mem _ (List.mem_append_left _ (List.mem_append_right _ h)))) (List.mem_of_getElem? (i := 8) rfl) rfl rfl rfl (by decide +kernel) rfl rfl (Nat.le_of_ble_eq_true rfl) (ws2 := [(h0, .inr (1, [.int 0, .ref (a1 0), .null, .null, .null, .null])), ((a1 0), .inr (4, [.ref (a1 1)])), ((a1 1), .inl (cI, 8, .inl (fun _ => 0)))]) rfl ?_
  refine gg_aload_n X dX1_init_22 0 rfl ?_
  refine gg_new X (ci := 4) (M := 1) (c2 := 3) (s2 := 10) (fs := [.null]) dX1_init_23 tyX4 tyX4_ok rfl (fun _ h => (List.mem_cons_of_mem _ (List.mem_append_right _ h))) (List.mem_of_getElem? (i := 5) rfl) (List.mem_of_getElem? (i := 6) rfl) (List.mem_of_getElem? (i := 7) rfl) (fun j hj => by rcases (show j = 0 by omega) with rfl <;> rfl) rfl rfl (Nat.le_of_ble_eq_true rfl) (Nat.le_of_ble_eq_true rfl) (fun q2 => ?_)
  refine gg_eq (ws2 := [(h0, .inr (1, [.int 0, .ref (a1 0), .null, .null, .null, .null])), ((a1 0), .inr (4, [.ref (a1 1)])), ((a1 1), .inl (cI, 8, .inl (fun _ => 0))), (q2, .inr (4, [.null]))]) rfl ?_
  refine gg_dup X dX1_init_26 rfl ?_
  refine gg_bipush X dX1_init_27 (v := 8) (by decide) ?_
  refine gg_call X (nw2 := []) (As := [.int 8]) (rest := [.ref q2, .ref h0]) (cf := (sm_cf cI 8)) (N := 2) (σ := z0) (c2 := 4) (s2 := 18) (wr := [(h0, .inr (1, [.int 0, .ref (a1 0), .null, .null, .null, .null])), ((a1 0), .inr (4, [.ref (a1 1)])), ((a1 1), .inl (cI, 8, .inl (fun _ => 0)))]) dX1_init_29 hL (fun sz => nX4_init rfl (by decide) (by decide) sz) gX1_init_X4_init rfl ⟨rfl, rfl⟩ (List.mem_of_getElem? (i := 13) rfl) (List.mem_of_getElem? (i := 14) rfl) (List.mem_of_getElem? (i := 7) rfl) rfl hyX4_init ⟨Nat.le_of_ble_eq_true rfl, Nat.le_of_ble_eq_true rfl⟩ rfl (Nat.le_of_ble_eq_true rfl) (fun w h => by cases h) [0] rfl 3 [0, 1, 2] rfl rfl (by decide) (by decide) rfl rfl (Nat.le_of_ble_eq_true rfl) (Nat.le_of_ble_eq_true rfl) (fun a3 ea3 => ?_)
  subst ea3
  refine gg_eq (ws2 := [(h0, .inr (1, [.int 0, .ref (a1 0), .null, .null, .null, .null])), ((a1 0), .inr (4, [.ref (a1 1)])), ((a1 1), .inl (cI, 8, .inl (fun _ => 0))), ((a3 0), .inr (4, [.ref (a3 1)])), ((a3 1), .inl (cI, 8, .inl (fun _ => 0)))]) rfl ?_
  refine gg_putF X (ty := (.object "LinenTunnel$Row")) dX1_init_32 0 2 tyX1 tyX1_ok nmX1 rfl rfl (by decide) (fun _ h => (List.mem_cons_of_mem _ (List.mem_append_left _ (List.mem_append_right _ h)))) (List.mem_of_getElem? (i := 9) rfl) rfl rfl rfl (by decide +kernel) rfl rfl (Nat.le_of_ble_eq_true rfl) (ws2 := [(h0, .inr (1, [.int 0, .ref (a1 0), .ref (a3 0), .null, .null, .null])), ((a1 0), .inr (4, [.ref (a1 1)])), ((a1 1), .inl (cI, 8, .inl (fun _ => 0))), ((a3 0), .inr (4, [.ref (a3 1)])), ((a3 1), .inl (cI, 8, .inl (fun _ => 0)))]) rfl ?_
  refine gg_aload_n X dX1_init_35 0 rfl ?_
  refine gg_new X (ci := 4) (M := 1) (c2 := 5) (s2 := 19) (fs := [.null]) dX1_init_36 tyX4 tyX4_ok rfl (fun _ h => (List.mem_cons_of_mem _ (List.mem_append_right _ h))) (List.mem_of_getElem? (i := 5) rfl) (List.mem_of_getElem? (i := 6) rfl) (List.mem_of_getElem? (i := 7) rfl) (fun j hj => by rcases (show j = 0 by omega) with rfl <;> rfl) rfl rfl (Nat.le_of_ble_eq_true rfl) (Nat.le_of_ble_eq_true rfl) (fun q4 => ?_)
  refine gg_eq (ws2 := [(h0, .inr (1, [.int 0, .ref (a1 0), .ref (a3 0), .null, .null, .null])), ((a1 0), .inr (4, [.ref (a1 1)])), ((a1 1), .inl (cI, 8, .inl (fun _ => 0))), ((a3 0), .inr (4, [.ref (a3 1)])), ((a3 1), .inl (cI, 8, .inl (fun _ => 0))), (q4, .inr (4, [.null]))]) rfl ?_
  refine gg_dup X dX1_init_39 rfl ?_
  refine gg_bipush X dX1_init_40 (v := 8) (by decide) ?_
  refine gg_call X (nw2 := []) (As := [.int 8]) (rest := [.ref q4, .ref h0]) (cf := (sm_cf cI 8)) (N := 2) (σ := z0) (c2 := 6) (s2 := 27) (wr := [(h0, .inr (1, [.int 0, .ref (a1 0), .ref (a3 0), .null, .null, .null])), ((a1 0), .inr (4, [.ref (a1 1)])), ((a1 1), .inl (cI, 8, .inl (fun _ => 0))), ((a3 0), .inr (4, [.ref (a3 1)])), ((a3 1), .inl (cI, 8, .inl (fun _ => 0)))]) dX1_init_42 hL (fun sz => nX4_init rfl (by decide) (by decide) sz) gX1_init_X4_init rfl ⟨rfl, rfl⟩ (List.mem_of_getElem? (i := 13) rfl) (List.mem_of_getElem? (i := 14) rfl) (List.mem_of_getElem? (i := 7) rfl) rfl hyX4_init ⟨Nat.le_of_ble_eq_true rfl, Nat.le_of_ble_eq_true rfl⟩ rfl (Nat.le_of_ble_eq_true rfl) (fun w h => by cases h) [0] rfl 5 [0, 1, 2, 3, 4] rfl rfl (by decide) (by decide) rfl rfl (Nat.le_of_ble_eq_true rfl) (Nat.le_of_ble_eq_true rfl) (fun a5 ea5 => ?_)
  subst ea5
  refine gg_eq (ws2 := [(h0, .inr (1, [.int 0, .ref (a1 0), .ref (a3 0), .null, .null, .null])), ((a1 0), .inr (4, [.ref (a1 1)])), ((a1 1), .inl (cI, 8, .inl (fun _ => 0))), ((a3 0), .inr (4, [.ref (a3 1)])), ((a3 1), .inl (cI, 8, .inl (fun _ => 0))), ((a5 0), .inr (4, [.ref (a5 1)])), ((a5 1), .inl (cI, 8, .inl (fun _ => 0)))]) rfl ?_
  refine gg_putF X (ty := (.object "LinenTunnel$Row")) dX1_init_45 0 3 tyX1 tyX1_ok nmX1 rfl rfl (by decide) (fun _ h => (List.mem_cons_of_mem _ (List.mem_append_left _ (List.mem_append_right _ h)))) (List.mem_of_getElem? (i := 10) rfl) rfl rfl rfl (by decide +kernel) rfl rfl (Nat.le_of_ble_eq_true rfl) (ws2 := [(h0, .inr (1, [.int 0, .ref (a1 0), .ref (a3 0), .ref (a5 0), .null, .null])), ((a1 0), .inr (4, [.ref (a1 1)])), ((a1 1), .inl (cI, 8, .inl (fun _ => 0))), ((a3 0), .inr (4, [.ref (a3 1)])), ((a3 1), .inl (cI, 8, .inl (fun _ => 0))), ((a5 0), .inr (4, [.ref (a5 1)])), ((a5 1), .inl (cI, 8, .inl (fun _ => 0)))]) rfl ?_
  refine gg_aload_n X dX1_init_48 0 rfl ?_
  refine gg_new X (ci := 4) (M := 1) (c2 := 7) (s2 := 28) (fs := [.null]) dX1_init_49 tyX4 tyX4_ok rfl (fun _ h => (List.mem_cons_of_mem _ (List.mem_append_right _ h))) (List.mem_of_getElem? (i := 5) rfl) (List.mem_of_getElem? (i := 6) rfl) (List.mem_of_getElem? (i := 7) rfl) (fun j hj => by rcases (show j = 0 by omega) with rfl <;> rfl) rfl rfl (Nat.le_of_ble_eq_true rfl) (Nat.le_of_ble_eq_true rfl) (fun q6 => ?_)
  refine gg_eq (ws2 := [(h0, .inr (1, [.int 0, .ref (a1 0), .ref (a3 0), .ref (a5 0), .null, .null])), ((a1 0), .inr (4, [.ref (a1 1)])), ((a1 1), .inl (cI, 8, .inl (fun _ => 0))), ((a3 0), .inr (4, [.ref (a3 1)])), ((a3 1), .inl (cI, 8, .inl (fun _ => 0))), ((a5 0), .inr (4, [.ref (a5 1)])), ((a5 1), .inl (cI, 8, .inl (fun _ => 0))), (q6, .inr (4, [.null]))]) rfl ?_
  refine gg_dup X dX1_init_52 rfl ?_
  refine gg_bipush X dX1_init_53 (v := 8) (by decide) ?_
  refine gg_call X (nw2 := []) (As := [.int 8]) (rest := [.ref q6, .ref h0]) (cf := (sm_cf cI 8)) (N := 2) (σ := z0) (c2 := 8) (s2 := 36) (wr := [(h0, .inr (1, [.int 0, .ref (a1 0), .ref (a3 0), .ref (a5 0), .null, .null])), ((a1 0), .inr (4, [.ref (a1 1)])), ((a1 1), .inl (cI, 8, .inl (fun _ => 0))), ((a3 0), .inr (4, [.ref (a3 1)])), ((a3 1), .inl (cI, 8, .inl (fun _ => 0))), ((a5 0), .inr (4, [.ref (a5 1)])), ((a5 1), .inl (cI, 8, .inl (fun _ => 0)))]) dX1_init_55 hL (fun sz => nX4_init rfl (by decide) (by decide) sz) gX1_init_X4_init rfl ⟨rfl, rfl⟩ (List.mem_of_getElem? (i := 13) rfl) (List.mem_of_getElem? (i := 14) rfl) (List.mem_of_getElem? (i := 7) rfl) rfl hyX4_init ⟨Nat.le_of_ble_eq_true rfl, Nat.le_of_ble_eq_true rfl⟩ rfl (Nat.le_of_ble_eq_true rfl) (fun w h => by cases h) [0] rfl 7 [0, 1, 2, 3, 4, 5, 6] rfl rfl (by decide) (by decide) rfl rfl (Nat.le_of_ble_eq_true rfl) (Nat.le_of_ble_eq_true rfl) (fun a7 ea7 => ?_)
  subst ea7
  refine gg_eq (ws2 := [(h0, .inr (1, [.int 0, .ref (a1 0), .ref (a3 0), .ref (a5 0), .null, .null])), ((a1 0), .inr (4, [.ref (a1 1)])), ((a1 1), .inl (cI, 8, .inl (fun _ => 0))), ((a3 0), .inr (4, [.ref (a3 1)])), ((a3 1), .inl (cI, 8, .inl (fun _ => 0))), ((a5 0), .inr (4, [.ref (a5 1)])), ((a5 1), .inl (cI, 8, .inl (fun _ => 0))), ((a7 0), .inr (4, [.ref (a7 1)])), ((a7 1), .inl (cI, 8, .inl (fun _ => 0)))]) rfl ?_
  refine gg_putF X (ty := (.object "LinenTunnel$Row")) dX1_init_58 0 4 tyX1 tyX1_ok nmX1 rfl rfl (by decide) (fun _ h => (List.mem_cons_of_mem _ (List.mem_append_left _ (List.mem_append_right _ h)))) (List.mem_of_getElem? (i := 11) rfl) rfl rfl rfl (by decide +kernel) rfl rfl (Nat.le_of_ble_eq_true rfl) (ws2 := [(h0, .inr (1, [.int 0, .ref (a1 0), .ref (a3 0), .ref (a5 0), .ref (a7 0), .null])), ((a1 0), .inr (4, [.ref (a1 1)])), ((a1 1), .inl (cI, 8, .inl (fun _ => 0))), ((a3 0), .inr (4, [.ref (a3 1)])), ((a3 1), .inl (cI, 8, .inl (fun _ => 0))), ((a5 0), .inr (4, [.ref (a5 1)])), ((a5 1), .inl (cI, 8, .inl (fun _ => 0))), ((a7 0), .inr (4, [.ref (a7 1)])), ((a7 1), .inl (cI, 8, .inl (fun _ => 0)))]) rfl ?_
  refine gg_aload_n X dX1_init_61 0 rfl ?_
  refine gg_new X (ci := 4) (M := 1) (c2 := 9) (s2 := 37) (fs := [.null]) dX1_init_62 tyX4 tyX4_ok rfl (fun _ h => (List.mem_cons_of_mem _ (List.mem_append_right _ h))) (List.mem_of_getElem? (i := 5) rfl) (List.mem_of_getElem? (i := 6) rfl) (List.mem_of_getElem? (i := 7) rfl) (fun j hj => by rcases (show j = 0 by omega) with rfl <;> rfl) rfl rfl (Nat.le_of_ble_eq_true rfl) (Nat.le_of_ble_eq_true rfl) (fun q8 => ?_)
  refine gg_eq (ws2 := [(h0, .inr (1, [.int 0, .ref (a1 0), .ref (a3 0), .ref (a5 0), .ref (a7 0), .null])), ((a1 0), .inr (4, [.ref (a1 1)])), ((a1 1), .inl (cI, 8, .inl (fun _ => 0))), ((a3 0), .inr (4, [.ref (a3 1)])), ((a3 1), .inl (cI, 8, .inl (fun _ => 0))), ((a5 0), .inr (4, [.ref (a5 1)])), ((a5 1), .inl (cI, 8, .inl (fun _ => 0))), ((a7 0), .inr (4, [.ref (a7 1)])), ((a7 1), .inl (cI, 8, .inl (fun _ => 0))), (q8, .inr (4, [.null]))]) rfl ?_
  refine gg_dup X dX1_init_65 rfl ?_
  refine gg_bipush X dX1_init_66 (v := 8) (by decide) ?_
  refine gg_call X (nw2 := []) (As := [.int 8]) (rest := [.ref q8, .ref h0]) (cf := (sm_cf cI 8)) (N := 2) (σ := z0) (c2 := 10) (s2 := 45) (wr := [(h0, .inr (1, [.int 0, .ref (a1 0), .ref (a3 0), .ref (a5 0), .ref (a7 0), .null])), ((a1 0), .inr (4, [.ref (a1 1)])), ((a1 1), .inl (cI, 8, .inl (fun _ => 0))), ((a3 0), .inr (4, [.ref (a3 1)])), ((a3 1), .inl (cI, 8, .inl (fun _ => 0))), ((a5 0), .inr (4, [.ref (a5 1)])), ((a5 1), .inl (cI, 8, .inl (fun _ => 0))), ((a7 0), .inr (4, [.ref (a7 1)])), ((a7 1), .inl (cI, 8, .inl (fun _ => 0)))]) dX1_init_68 hL (fun sz => nX4_init rfl (by decide) (by decide) sz) gX1_init_X4_init rfl ⟨rfl, rfl⟩ (List.mem_of_getElem? (i := 13) rfl) (List.mem_of_getElem? (i := 14) rfl) (List.mem_of_getElem? (i := 7) rfl) rfl hyX4_init ⟨Nat.le_of_ble_eq_true rfl, Nat.le_of_ble_eq_true rfl⟩ rfl (Nat.le_of_ble_eq_true rfl) (fun w h => by cases h) [0] rfl 9 [0, 1, 2, 3, 4, 5, 6, 7, 8] rfl rfl (by decide) (by decide) rfl rfl (Nat.le_of_ble_eq_true rfl) (Nat.le_of_ble_eq_true rfl) (fun a9 ea9 => ?_)
  subst ea9
  refine gg_eq (ws2 := [(h0, .inr (1, [.int 0, .ref (a1 0), .ref (a3 0), .ref (a5 0), .ref (a7 0), .null])), ((a1 0), .inr (4, [.ref (a1 1)])), ((a1 1), .inl (cI, 8, .inl (fun _ => 0))), ((a3 0), .inr (4, [.ref (a3 1)])), ((a3 1), .inl (cI, 8, .inl (fun _ => 0))), ((a5 0), .inr (4, [.ref (a5 1)])), ((a5 1), .inl (cI, 8, .inl (fun _ => 0))), ((a7 0), .inr (4, [.ref (a7 1)])), ((a7 1), .inl (cI, 8, .inl (fun _ => 0))), ((a9 0), .inr (4, [.ref (a9 1)])), ((a9 1), .inl (cI, 8, .inl (fun _ => 0)))]) rfl ?_
  refine gg_putF X (ty := (.object "LinenTunnel$Row")) dX1_init_71 0 5 tyX1 tyX1_ok nmX1 rfl rfl (by decide) (fun _ h => (List.mem_cons_of_mem _ (List.mem_append_left _ (List.mem_append_right _ h)))) (List.mem_of_getElem? (i := 12) rfl) rfl rfl rfl (by decide +kernel) rfl rfl (Nat.le_of_ble_eq_true rfl) (ws2 := [(h0, .inr (1, [.int 0, .ref (a1 0), .ref (a3 0), .ref (a5 0), .ref (a7 0), .ref (a9 0)])), ((a1 0), .inr (4, [.ref (a1 1)])), ((a1 1), .inl (cI, 8, .inl (fun _ => 0))), ((a3 0), .inr (4, [.ref (a3 1)])), ((a3 1), .inl (cI, 8, .inl (fun _ => 0))), ((a5 0), .inr (4, [.ref (a5 1)])), ((a5 1), .inl (cI, 8, .inl (fun _ => 0))), ((a7 0), .inr (4, [.ref (a7 1)])), ((a7 1), .inl (cI, 8, .inl (fun _ => 0))), ((a9 0), .inr (4, [.ref (a9 1)])), ((a9 1), .inl (cI, 8, .inl (fun _ => 0)))]) rfl ?_
  exact gg_ret X dX1_init_74 hQ (fun k => [h0, (a1 0), (a3 0), (a5 0), (a7 0), (a9 0), (a1 1), (a3 1), (a5 1), (a7 1), (a9 1)].getD k 0) rfl [0, 1, 3, 5, 7, 9, 2, 4, 6, 8, 10] (by decide) rfl
def ck_2 (cI : ClassId) : mm_F := fun a k f => match k with
  | 0 => .inr (2, [.int (f 0), .ref (a 1), .ref (a 2), .ref (a 3), .ref (a 4), .ref (a 5), .ref (a 6)])
  | 1 => .inr (4, [.ref (a 7)])
  | 2 => .inr (4, [.ref (a 8)])
  | 3 => .inr (4, [.ref (a 9)])
  | 4 => .inr (4, [.ref (a 10)])
  | 5 => .inr (4, [.ref (a 11)])
  | 6 => .inr (4, [.ref (a 12)])
  | 7 => .inl (cI, 100, .inl f)
  | 8 => .inl (cI, 100, .inl f)
  | 9 => .inl (cI, 100, .inl f)
  | 10 => .inl (cI, 100, .inl f)
  | 11 => .inl (cI, 100, .inl f)
  | _ => .inl (cI, 100, .inl f)
def sX2_init : mm_M := z0
abbrev rX2_init : Room := { frames := 2, cells := 12, slots := 606, locals := 33 }
theorem hyX2_init : yX2_init.cls ≠ "java/lang/invoke/MethodHandle" ∧ yX2_init.cls ≠ "java/lang/invoke/VarHandle" ∧ (parseMethodDescriptor yX2_init.desc).map (fun d => d.parameters.length) = some 0 := by decide +kernel
set_option maxRecDepth 100000 in
set_option maxHeartbeats 4000000 in
theorem nX2_init {l : Launch} {D : va_G} {cI : ClassId} {h0 : Nat} (sz : Nat) : Met l yX2_init wsX2_init rX2_init (gg_P [] D [(cI, .int)] [(h0, .inr (2, [.int 0, .null, .null, .null, .null, .null, .null]))] [.ref h0] sz) (gg_Q D [(h0, .inr (2, [.int 0, .null, .null, .null, .null, .null, .null]))] h0 (ck_2 cI) 13 sX2_init sz) 12 606 (va_A [(h0, .inr (2, [.int 0, .null, .null, .null, .null, .null, .null]))] sz) := by
  refine gg_met (y := yX2_init) (ws := wsX2_init) (rm := rX2_init) (D := D) (tys := [(cI, .int)]) (w0 := [(h0, .inr (2, [.int 0, .null, .null, .null, .null, .null, .null]))]) (mc := 12) (ms := 606) (av := [.ref h0]) (fun sz => gg_Q D [(h0, .inr (2, [.int 0, .null, .null, .null, .null, .null, .null]))] h0 (ck_2 cI) 13 sX2_init sz) (lv := [(0, .ref h0)]) (cc := cX2_init) (maxL := 1) (own := RX2) (by decide +kernel) rfl rfl rfl (Nat.le_of_ble_eq_true rfl) rfl ?_ sz
  intro K hL X hQ
  refine gg_aload_n X dX2_init_0 0 rfl ?_
  refine gg_obj X dX2_init_1 (List.mem_of_getElem? (i := 1) rfl) (List.mem_of_getElem? (i := 2) rfl) (List.mem_of_getElem? (i := 3) rfl) (Nat.le_of_ble_eq_true rfl) (Nat.le_of_ble_eq_true rfl) ?_
  refine gg_aload_n X dX2_init_4 0 rfl ?_
  refine gg_iconst X dX2_init_5 (v := 0) (by decide) ?_
  refine gg_put X (ty := .int) dX2_init_6 0 0 tyX2 tyX2_ok nmX2 rfl rfl (by decide) (fun _ h => (List.mem_cons_of_mem _ (List.mem_append_left _ (List.mem_append_right _ h)))) (List.mem_of_getElem? (i := 4) rfl) rfl rfl (by decide +kernel) rfl rfl (Nat.le_of_ble_eq_true rfl) (ws2 := [(h0, .inr (2, [.int 0, .null, .null, .null, .null, .null, .null]))]) rfl ?_
  refine gg_aload_n X dX2_init_9 0 rfl ?_
  refine gg_new X (ci := 4) (M := 1) (c2 := 1) (s2 := 1) (fs := [.null]) dX2_init_10 tyX4 tyX4_ok rfl (fun _ h => (List.mem_cons_of_mem _ (List.mem_append_right _ h))) (List.mem_of_getElem? (i := 5) rfl) (List.mem_of_getElem? (i := 6) rfl) (List.mem_of_getElem? (i := 7) rfl) (fun j hj => by rcases (show j = 0 by omega) with rfl <;> rfl) rfl rfl (Nat.le_of_ble_eq_true rfl) (Nat.le_of_ble_eq_true rfl) (fun q0 => ?_)
  refine gg_eq (ws2 := [(h0, .inr (2, [.int 0, .null, .null, .null, .null, .null, .null])), (q0, .inr (4, [.null]))]) rfl ?_
  refine gg_dup X dX2_init_13 rfl ?_
  refine gg_bipush X dX2_init_14 (v := 100) (by decide) ?_
  refine gg_call X (nw2 := []) (As := [.int 100]) (rest := [.ref q0, .ref h0]) (cf := (sm_cf cI 100)) (N := 2) (σ := z0) (c2 := 2) (s2 := 101) (wr := [(h0, .inr (2, [.int 0, .null, .null, .null, .null, .null, .null]))]) dX2_init_16 hL (fun sz => nX4_init rfl (by decide) (by decide) sz) gX2_init_X4_init rfl ⟨rfl, rfl⟩ (List.mem_of_getElem? (i := 14) rfl) (List.mem_of_getElem? (i := 15) rfl) (List.mem_of_getElem? (i := 7) rfl) rfl hyX4_init ⟨Nat.le_of_ble_eq_true rfl, Nat.le_of_ble_eq_true rfl⟩ rfl (Nat.le_of_ble_eq_true rfl) (fun w h => by cases h) [0] rfl 1 [0] rfl rfl (by decide) (by decide) rfl rfl (Nat.le_of_ble_eq_true rfl) (Nat.le_of_ble_eq_true rfl) (fun a1 ea1 => ?_)
  subst ea1
  refine gg_eq (ws2 := [(h0, .inr (2, [.int 0, .null, .null, .null, .null, .null, .null])), ((a1 0), .inr (4, [.ref (a1 1)])), ((a1 1), .inl (cI, 100, .inl (fun _ => 0)))]) rfl ?_
  refine gg_putF X (ty := (.object "LinenTunnel$Row")) dX2_init_19 0 1 tyX2 tyX2_ok nmX2 rfl rfl (by decide) (fun _ h => (List.mem_cons_of_mem _ (List.mem_append_left _ (List.mem_append_right _ h)))) (List.mem_of_getElem? (i := 8) rfl) rfl rfl rfl (by decide +kernel) rfl rfl (Nat.le_of_ble_eq_true rfl) (ws2 := [(h0, .inr (2, [.int 0, .ref (a1 0), .null, .null, .null, .null, .null])), ((a1 0), .inr (4, [.ref (a1 1)])), ((a1 1), .inl (cI, 100, .inl (fun _ => 0)))]) rfl ?_
  refine gg_aload_n X dX2_init_22 0 rfl ?_
  refine gg_new X (ci := 4) (M := 1) (c2 := 3) (s2 := 102) (fs := [.null]) dX2_init_23 tyX4 tyX4_ok rfl (fun _ h => (List.mem_cons_of_mem _ (List.mem_append_right _ h))) (List.mem_of_getElem? (i := 5) rfl) (List.mem_of_getElem? (i := 6) rfl) (List.mem_of_getElem? (i := 7) rfl) (fun j hj => by rcases (show j = 0 by omega) with rfl <;> rfl) rfl rfl (Nat.le_of_ble_eq_true rfl) (Nat.le_of_ble_eq_true rfl) (fun q2 => ?_)
  refine gg_eq (ws2 := [(h0, .inr (2, [.int 0, .ref (a1 0), .null, .null, .null, .null, .null])), ((a1 0), .inr (4, [.ref (a1 1)])), ((a1 1), .inl (cI, 100, .inl (fun _ => 0))), (q2, .inr (4, [.null]))]) rfl ?_
  refine gg_dup X dX2_init_26 rfl ?_
  refine gg_bipush X dX2_init_27 (v := 100) (by decide) ?_
  refine gg_call X (nw2 := []) (As := [.int 100]) (rest := [.ref q2, .ref h0]) (cf := (sm_cf cI 100)) (N := 2) (σ := z0) (c2 := 4) (s2 := 202) (wr := [(h0, .inr (2, [.int 0, .ref (a1 0), .null, .null, .null, .null, .null])), ((a1 0), .inr (4, [.ref (a1 1)])), ((a1 1), .inl (cI, 100, .inl (fun _ => 0)))]) dX2_init_29 hL (fun sz => nX4_init rfl (by decide) (by decide) sz) gX2_init_X4_init rfl ⟨rfl, rfl⟩ (List.mem_of_getElem? (i := 14) rfl) (List.mem_of_getElem? (i := 15) rfl) (List.mem_of_getElem? (i := 7) rfl) rfl hyX4_init ⟨Nat.le_of_ble_eq_true rfl, Nat.le_of_ble_eq_true rfl⟩ rfl (Nat.le_of_ble_eq_true rfl) (fun w h => by cases h) [0] rfl 3 [0, 1, 2] rfl rfl (by decide) (by decide) rfl rfl (Nat.le_of_ble_eq_true rfl) (Nat.le_of_ble_eq_true rfl) (fun a3 ea3 => ?_)
  subst ea3
  refine gg_eq (ws2 := [(h0, .inr (2, [.int 0, .ref (a1 0), .null, .null, .null, .null, .null])), ((a1 0), .inr (4, [.ref (a1 1)])), ((a1 1), .inl (cI, 100, .inl (fun _ => 0))), ((a3 0), .inr (4, [.ref (a3 1)])), ((a3 1), .inl (cI, 100, .inl (fun _ => 0)))]) rfl ?_
  refine gg_putF X (ty := (.object "LinenTunnel$Row")) dX2_init_32 0 2 tyX2 tyX2_ok nmX2 rfl rfl (by decide) (fun _ h => (List.mem_cons_of_mem _ (List.mem_append_left _ (List.mem_append_right _ h)))) (List.mem_of_getElem? (i := 9) rfl) rfl rfl rfl (by decide +kernel) rfl rfl (Nat.le_of_ble_eq_true rfl) (ws2 := [(h0, .inr (2, [.int 0, .ref (a1 0), .ref (a3 0), .null, .null, .null, .null])), ((a1 0), .inr (4, [.ref (a1 1)])), ((a1 1), .inl (cI, 100, .inl (fun _ => 0))), ((a3 0), .inr (4, [.ref (a3 1)])), ((a3 1), .inl (cI, 100, .inl (fun _ => 0)))]) rfl ?_
  refine gg_aload_n X dX2_init_35 0 rfl ?_
  refine gg_new X (ci := 4) (M := 1) (c2 := 5) (s2 := 203) (fs := [.null]) dX2_init_36 tyX4 tyX4_ok rfl (fun _ h => (List.mem_cons_of_mem _ (List.mem_append_right _ h))) (List.mem_of_getElem? (i := 5) rfl) (List.mem_of_getElem? (i := 6) rfl) (List.mem_of_getElem? (i := 7) rfl) (fun j hj => by rcases (show j = 0 by omega) with rfl <;> rfl) rfl rfl (Nat.le_of_ble_eq_true rfl) (Nat.le_of_ble_eq_true rfl) (fun q4 => ?_)
  refine gg_eq (ws2 := [(h0, .inr (2, [.int 0, .ref (a1 0), .ref (a3 0), .null, .null, .null, .null])), ((a1 0), .inr (4, [.ref (a1 1)])), ((a1 1), .inl (cI, 100, .inl (fun _ => 0))), ((a3 0), .inr (4, [.ref (a3 1)])), ((a3 1), .inl (cI, 100, .inl (fun _ => 0))), (q4, .inr (4, [.null]))]) rfl ?_
  refine gg_dup X dX2_init_39 rfl ?_
  refine gg_bipush X dX2_init_40 (v := 100) (by decide) ?_
  refine gg_call X (nw2 := []) (As := [.int 100]) (rest := [.ref q4, .ref h0]) (cf := (sm_cf cI 100)) (N := 2) (σ := z0) (c2 := 6) (s2 := 303) (wr := [(h0, .inr (2, [.int 0, .ref (a1 0), .ref (a3 0), .null, .null, .null, .null])), ((a1 0), .inr (4, [.ref (a1 1)])), ((a1 1), .inl (cI, 100, .inl (fun _ => 0))), ((a3 0), .inr (4, [.ref (a3 1)])), ((a3 1), .inl (cI, 100, .inl (fun _ => 0)))]) dX2_init_42 hL (fun sz => nX4_init rfl (by decide) (by decide) sz) gX2_init_X4_init rfl ⟨rfl, rfl⟩ (List.mem_of_getElem? (i := 14) rfl) (List.mem_of_getElem? (i := 15) rfl) (List.mem_of_getElem? (i := 7) rfl) rfl hyX4_init ⟨Nat.le_of_ble_eq_true rfl, Nat.le_of_ble_eq_true rfl⟩ rfl (Nat.le_of_ble_eq_true rfl) (fun w h => by cases h) [0] rfl 5 [0, 1, 2, 3, 4] rfl rfl (by decide) (by decide) rfl rfl (Nat.le_of_ble_eq_true rfl) (Nat.le_of_ble_eq_true rfl) (fun a5 ea5 => ?_)
  subst ea5
  refine gg_eq (ws2 := [(h0, .inr (2, [.int 0, .ref (a1 0), .ref (a3 0), .null, .null, .null, .null])), ((a1 0), .inr (4, [.ref (a1 1)])), ((a1 1), .inl (cI, 100, .inl (fun _ => 0))), ((a3 0), .inr (4, [.ref (a3 1)])), ((a3 1), .inl (cI, 100, .inl (fun _ => 0))), ((a5 0), .inr (4, [.ref (a5 1)])), ((a5 1), .inl (cI, 100, .inl (fun _ => 0)))]) rfl ?_
  refine gg_putF X (ty := (.object "LinenTunnel$Row")) dX2_init_45 0 3 tyX2 tyX2_ok nmX2 rfl rfl (by decide) (fun _ h => (List.mem_cons_of_mem _ (List.mem_append_left _ (List.mem_append_right _ h)))) (List.mem_of_getElem? (i := 10) rfl) rfl rfl rfl (by decide +kernel) rfl rfl (Nat.le_of_ble_eq_true rfl) (ws2 := [(h0, .inr (2, [.int 0, .ref (a1 0), .ref (a3 0), .ref (a5 0), .null, .null, .null])), ((a1 0), .inr (4, [.ref (a1 1)])), ((a1 1), .inl (cI, 100, .inl (fun _ => 0))), ((a3 0), .inr (4, [.ref (a3 1)])), ((a3 1), .inl (cI, 100, .inl (fun _ => 0))), ((a5 0), .inr (4, [.ref (a5 1)])), ((a5 1), .inl (cI, 100, .inl (fun _ => 0)))]) rfl ?_
  refine gg_aload_n X dX2_init_48 0 rfl ?_
  refine gg_new X (ci := 4) (M := 1) (c2 := 7) (s2 := 304) (fs := [.null]) dX2_init_49 tyX4 tyX4_ok rfl (fun _ h => (List.mem_cons_of_mem _ (List.mem_append_right _ h))) (List.mem_of_getElem? (i := 5) rfl) (List.mem_of_getElem? (i := 6) rfl) (List.mem_of_getElem? (i := 7) rfl) (fun j hj => by rcases (show j = 0 by omega) with rfl <;> rfl) rfl rfl (Nat.le_of_ble_eq_true rfl) (Nat.le_of_ble_eq_true rfl) (fun q6 => ?_)
  refine gg_eq (ws2 := [(h0, .inr (2, [.int 0, .ref (a1 0), .ref (a3 0), .ref (a5 0), .null, .null, .null])), ((a1 0), .inr (4, [.ref (a1 1)])), ((a1 1), .inl (cI, 100, .inl (fun _ => 0))), ((a3 0), .inr (4, [.ref (a3 1)])), ((a3 1), .inl (cI, 100, .inl (fun _ => 0))), ((a5 0), .inr (4, [.ref (a5 1)])), ((a5 1), .inl (cI, 100, .inl (fun _ => 0))), (q6, .inr (4, [.null]))]) rfl ?_
  refine gg_dup X dX2_init_52 rfl ?_
  refine gg_bipush X dX2_init_53 (v := 100) (by decide) ?_
  refine gg_call X (nw2 := []) (As := [.int 100]) (rest := [.ref q6, .ref h0]) (cf := (sm_cf cI 100)) (N := 2) (σ := z0) (c2 := 8) (s2 := 404) (wr := [(h0, .inr (2, [.int 0, .ref (a1 0), .ref (a3 0), .ref (a5 0), .null, .null, .null])), ((a1 0), .inr (4, [.ref (a1 1)])), ((a1 1), .inl (cI, 100, .inl (fun _ => 0))), ((a3 0), .inr (4, [.ref (a3 1)])), ((a3 1), .inl (cI, 100, .inl (fun _ => 0))), ((a5 0), .inr (4, [.ref (a5 1)])), ((a5 1), .inl (cI, 100, .inl (fun _ => 0)))]) dX2_init_55 hL (fun sz => nX4_init rfl (by decide) (by decide) sz) gX2_init_X4_init rfl ⟨rfl, rfl⟩ (List.mem_of_getElem? (i := 14) rfl) (List.mem_of_getElem? (i := 15) rfl) (List.mem_of_getElem? (i := 7) rfl) rfl hyX4_init ⟨Nat.le_of_ble_eq_true rfl, Nat.le_of_ble_eq_true rfl⟩ rfl (Nat.le_of_ble_eq_true rfl) (fun w h => by cases h) [0] rfl 7 [0, 1, 2, 3, 4, 5, 6] rfl rfl (by decide) (by decide) rfl rfl (Nat.le_of_ble_eq_true rfl) (Nat.le_of_ble_eq_true rfl) (fun a7 ea7 => ?_)
  subst ea7
  refine gg_eq (ws2 := [(h0, .inr (2, [.int 0, .ref (a1 0), .ref (a3 0), .ref (a5 0), .null, .null, .null])), ((a1 0), .inr (4, [.ref (a1 1)])), ((a1 1), .inl (cI, 100, .inl (fun _ => 0))), ((a3 0), .inr (4, [.ref (a3 1)])), ((a3 1), .inl (cI, 100, .inl (fun _ => 0))), ((a5 0), .inr (4, [.ref (a5 1)])), ((a5 1), .inl (cI, 100, .inl (fun _ => 0))), ((a7 0), .inr (4, [.ref (a7 1)])), ((a7 1), .inl (cI, 100, .inl (fun _ => 0)))]) rfl ?_
  refine gg_putF X (ty := (.object "LinenTunnel$Row")) dX2_init_58 0 4 tyX2 tyX2_ok nmX2 rfl rfl (by decide) (fun _ h => (List.mem_cons_of_mem _ (List.mem_append_left _ (List.mem_append_right _ h)))) (List.mem_of_getElem? (i := 11) rfl) rfl rfl rfl (by decide +kernel) rfl rfl (Nat.le_of_ble_eq_true rfl) (ws2 := [(h0, .inr (2, [.int 0, .ref (a1 0), .ref (a3 0), .ref (a5 0), .ref (a7 0), .null, .null])), ((a1 0), .inr (4, [.ref (a1 1)])), ((a1 1), .inl (cI, 100, .inl (fun _ => 0))), ((a3 0), .inr (4, [.ref (a3 1)])), ((a3 1), .inl (cI, 100, .inl (fun _ => 0))), ((a5 0), .inr (4, [.ref (a5 1)])), ((a5 1), .inl (cI, 100, .inl (fun _ => 0))), ((a7 0), .inr (4, [.ref (a7 1)])), ((a7 1), .inl (cI, 100, .inl (fun _ => 0)))]) rfl ?_
  refine gg_aload_n X dX2_init_61 0 rfl ?_
  refine gg_new X (ci := 4) (M := 1) (c2 := 9) (s2 := 405) (fs := [.null]) dX2_init_62 tyX4 tyX4_ok rfl (fun _ h => (List.mem_cons_of_mem _ (List.mem_append_right _ h))) (List.mem_of_getElem? (i := 5) rfl) (List.mem_of_getElem? (i := 6) rfl) (List.mem_of_getElem? (i := 7) rfl) (fun j hj => by rcases (show j = 0 by omega) with rfl <;> rfl) rfl rfl (Nat.le_of_ble_eq_true rfl) (Nat.le_of_ble_eq_true rfl) (fun q8 => ?_)
  refine gg_eq (ws2 := [(h0, .inr (2, [.int 0, .ref (a1 0), .ref (a3 0), .ref (a5 0), .ref (a7 0), .null, .null])), ((a1 0), .inr (4, [.ref (a1 1)])), ((a1 1), .inl (cI, 100, .inl (fun _ => 0))), ((a3 0), .inr (4, [.ref (a3 1)])), ((a3 1), .inl (cI, 100, .inl (fun _ => 0))), ((a5 0), .inr (4, [.ref (a5 1)])), ((a5 1), .inl (cI, 100, .inl (fun _ => 0))), ((a7 0), .inr (4, [.ref (a7 1)])), ((a7 1), .inl (cI, 100, .inl (fun _ => 0))), (q8, .inr (4, [.null]))]) rfl ?_
  refine gg_dup X dX2_init_65 rfl ?_
  refine gg_bipush X dX2_init_66 (v := 100) (by decide) ?_
  refine gg_call X (nw2 := []) (As := [.int 100]) (rest := [.ref q8, .ref h0]) (cf := (sm_cf cI 100)) (N := 2) (σ := z0) (c2 := 10) (s2 := 505) (wr := [(h0, .inr (2, [.int 0, .ref (a1 0), .ref (a3 0), .ref (a5 0), .ref (a7 0), .null, .null])), ((a1 0), .inr (4, [.ref (a1 1)])), ((a1 1), .inl (cI, 100, .inl (fun _ => 0))), ((a3 0), .inr (4, [.ref (a3 1)])), ((a3 1), .inl (cI, 100, .inl (fun _ => 0))), ((a5 0), .inr (4, [.ref (a5 1)])), ((a5 1), .inl (cI, 100, .inl (fun _ => 0))), ((a7 0), .inr (4, [.ref (a7 1)])), ((a7 1), .inl (cI, 100, .inl (fun _ => 0)))]) dX2_init_68 hL (fun sz => nX4_init rfl (by decide) (by decide) sz) gX2_init_X4_init rfl ⟨rfl, rfl⟩ (List.mem_of_getElem? (i := 14) rfl) (List.mem_of_getElem? (i := 15) rfl) (List.mem_of_getElem? (i := 7) rfl) rfl hyX4_init ⟨Nat.le_of_ble_eq_true rfl, Nat.le_of_ble_eq_true rfl⟩ rfl (Nat.le_of_ble_eq_true rfl) (fun w h => by cases h) [0] rfl 9 [0, 1, 2, 3, 4, 5, 6, 7, 8] rfl rfl (by decide) (by decide) rfl rfl (Nat.le_of_ble_eq_true rfl) (Nat.le_of_ble_eq_true rfl) (fun a9 ea9 => ?_)
  subst ea9
  refine gg_eq (ws2 := [(h0, .inr (2, [.int 0, .ref (a1 0), .ref (a3 0), .ref (a5 0), .ref (a7 0), .null, .null])), ((a1 0), .inr (4, [.ref (a1 1)])), ((a1 1), .inl (cI, 100, .inl (fun _ => 0))), ((a3 0), .inr (4, [.ref (a3 1)])), ((a3 1), .inl (cI, 100, .inl (fun _ => 0))), ((a5 0), .inr (4, [.ref (a5 1)])), ((a5 1), .inl (cI, 100, .inl (fun _ => 0))), ((a7 0), .inr (4, [.ref (a7 1)])), ((a7 1), .inl (cI, 100, .inl (fun _ => 0))), ((a9 0), .inr (4, [.ref (a9 1)])), ((a9 1), .inl (cI, 100, .inl (fun _ => 0)))]) rfl ?_
  refine gg_putF X (ty := (.object "LinenTunnel$Row")) dX2_init_71 0 5 tyX2 tyX2_ok nmX2 rfl rfl (by decide) (fun _ h => (List.mem_cons_of_mem _ (List.mem_append_left _ (List.mem_append_right _ h)))) (List.mem_of_getElem? (i := 12) rfl) rfl rfl rfl (by decide +kernel) rfl rfl (Nat.le_of_ble_eq_true rfl) (ws2 := [(h0, .inr (2, [.int 0, .ref (a1 0), .ref (a3 0), .ref (a5 0), .ref (a7 0), .ref (a9 0), .null])), ((a1 0), .inr (4, [.ref (a1 1)])), ((a1 1), .inl (cI, 100, .inl (fun _ => 0))), ((a3 0), .inr (4, [.ref (a3 1)])), ((a3 1), .inl (cI, 100, .inl (fun _ => 0))), ((a5 0), .inr (4, [.ref (a5 1)])), ((a5 1), .inl (cI, 100, .inl (fun _ => 0))), ((a7 0), .inr (4, [.ref (a7 1)])), ((a7 1), .inl (cI, 100, .inl (fun _ => 0))), ((a9 0), .inr (4, [.ref (a9 1)])), ((a9 1), .inl (cI, 100, .inl (fun _ => 0)))]) rfl ?_
  refine gg_aload_n X dX2_init_74 0 rfl ?_
  refine gg_new X (ci := 4) (M := 1) (c2 := 11) (s2 := 506) (fs := [.null]) dX2_init_75 tyX4 tyX4_ok rfl (fun _ h => (List.mem_cons_of_mem _ (List.mem_append_right _ h))) (List.mem_of_getElem? (i := 5) rfl) (List.mem_of_getElem? (i := 6) rfl) (List.mem_of_getElem? (i := 7) rfl) (fun j hj => by rcases (show j = 0 by omega) with rfl <;> rfl) rfl rfl (Nat.le_of_ble_eq_true rfl) (Nat.le_of_ble_eq_true rfl) (fun q10 => ?_)
  refine gg_eq (ws2 := [(h0, .inr (2, [.int 0, .ref (a1 0), .ref (a3 0), .ref (a5 0), .ref (a7 0), .ref (a9 0), .null])), ((a1 0), .inr (4, [.ref (a1 1)])), ((a1 1), .inl (cI, 100, .inl (fun _ => 0))), ((a3 0), .inr (4, [.ref (a3 1)])), ((a3 1), .inl (cI, 100, .inl (fun _ => 0))), ((a5 0), .inr (4, [.ref (a5 1)])), ((a5 1), .inl (cI, 100, .inl (fun _ => 0))), ((a7 0), .inr (4, [.ref (a7 1)])), ((a7 1), .inl (cI, 100, .inl (fun _ => 0))), ((a9 0), .inr (4, [.ref (a9 1)])), ((a9 1), .inl (cI, 100, .inl (fun _ => 0))), (q10, .inr (4, [.null]))]) rfl ?_
  refine gg_dup X dX2_init_78 rfl ?_
  refine gg_bipush X dX2_init_79 (v := 100) (by decide) ?_
  refine gg_call X (nw2 := []) (As := [.int 100]) (rest := [.ref q10, .ref h0]) (cf := (sm_cf cI 100)) (N := 2) (σ := z0) (c2 := 12) (s2 := 606) (wr := [(h0, .inr (2, [.int 0, .ref (a1 0), .ref (a3 0), .ref (a5 0), .ref (a7 0), .ref (a9 0), .null])), ((a1 0), .inr (4, [.ref (a1 1)])), ((a1 1), .inl (cI, 100, .inl (fun _ => 0))), ((a3 0), .inr (4, [.ref (a3 1)])), ((a3 1), .inl (cI, 100, .inl (fun _ => 0))), ((a5 0), .inr (4, [.ref (a5 1)])), ((a5 1), .inl (cI, 100, .inl (fun _ => 0))), ((a7 0), .inr (4, [.ref (a7 1)])), ((a7 1), .inl (cI, 100, .inl (fun _ => 0))), ((a9 0), .inr (4, [.ref (a9 1)])), ((a9 1), .inl (cI, 100, .inl (fun _ => 0)))]) dX2_init_81 hL (fun sz => nX4_init rfl (by decide) (by decide) sz) gX2_init_X4_init rfl ⟨rfl, rfl⟩ (List.mem_of_getElem? (i := 14) rfl) (List.mem_of_getElem? (i := 15) rfl) (List.mem_of_getElem? (i := 7) rfl) rfl hyX4_init ⟨Nat.le_of_ble_eq_true rfl, Nat.le_of_ble_eq_true rfl⟩ rfl (Nat.le_of_ble_eq_true rfl) (fun w h => by cases h) [0] rfl 11 [0, 1, 2, 3, 4, 5, 6, 7, 8, 9, 10] rfl rfl (by decide) (by decide) rfl rfl (Nat.le_of_ble_eq_true rfl) (Nat.le_of_ble_eq_true rfl) (fun a11 ea11 => ?_)
  subst ea11
  refine gg_eq (ws2 := [(h0, .inr (2, [.int 0, .ref (a1 0), .ref (a3 0), .ref (a5 0), .ref (a7 0), .ref (a9 0), .null])), ((a1 0), .inr (4, [.ref (a1 1)])), ((a1 1), .inl (cI, 100, .inl (fun _ => 0))), ((a3 0), .inr (4, [.ref (a3 1)])), ((a3 1), .inl (cI, 100, .inl (fun _ => 0))), ((a5 0), .inr (4, [.ref (a5 1)])), ((a5 1), .inl (cI, 100, .inl (fun _ => 0))), ((a7 0), .inr (4, [.ref (a7 1)])), ((a7 1), .inl (cI, 100, .inl (fun _ => 0))), ((a9 0), .inr (4, [.ref (a9 1)])), ((a9 1), .inl (cI, 100, .inl (fun _ => 0))), ((a11 0), .inr (4, [.ref (a11 1)])), ((a11 1), .inl (cI, 100, .inl (fun _ => 0)))]) rfl ?_
  refine gg_putF X (ty := (.object "LinenTunnel$Row")) dX2_init_84 0 6 tyX2 tyX2_ok nmX2 rfl rfl (by decide) (fun _ h => (List.mem_cons_of_mem _ (List.mem_append_left _ (List.mem_append_right _ h)))) (List.mem_of_getElem? (i := 13) rfl) rfl rfl rfl (by decide +kernel) rfl rfl (Nat.le_of_ble_eq_true rfl) (ws2 := [(h0, .inr (2, [.int 0, .ref (a1 0), .ref (a3 0), .ref (a5 0), .ref (a7 0), .ref (a9 0), .ref (a11 0)])), ((a1 0), .inr (4, [.ref (a1 1)])), ((a1 1), .inl (cI, 100, .inl (fun _ => 0))), ((a3 0), .inr (4, [.ref (a3 1)])), ((a3 1), .inl (cI, 100, .inl (fun _ => 0))), ((a5 0), .inr (4, [.ref (a5 1)])), ((a5 1), .inl (cI, 100, .inl (fun _ => 0))), ((a7 0), .inr (4, [.ref (a7 1)])), ((a7 1), .inl (cI, 100, .inl (fun _ => 0))), ((a9 0), .inr (4, [.ref (a9 1)])), ((a9 1), .inl (cI, 100, .inl (fun _ => 0))), ((a11 0), .inr (4, [.ref (a11 1)])), ((a11 1), .inl (cI, 100, .inl (fun _ => 0)))]) rfl ?_
  exact gg_ret X dX2_init_87 hQ (fun k => [h0, (a1 0), (a3 0), (a5 0), (a7 0), (a9 0), (a11 0), (a1 1), (a3 1), (a5 1), (a7 1), (a9 1), (a11 1)].getD k 0) rfl [0, 1, 3, 5, 7, 9, 11, 2, 4, 6, 8, 10, 12] (by decide) rfl
def ck_6 (cI : ClassId) (k0 : Nat) : mm_F := fun a k f => match k with
  | 0 => .inr (6, [.ref k0, .int (f 1), .ref (a 1), .ref (a 2), .ref (a 3)])
  | 1 => .inr (4, [.ref (a 4)])
  | 2 => .inr (4, [.ref (a 5)])
  | 3 => .inr (4, [.ref (a 6)])
  | 4 => .inl (cI, 12, .inl f)
  | 5 => .inl (cI, 12, .inl f)
  | _ => .inl (cI, 12, .inl f)
def sX6_init : mm_M := z0
abbrev rX6_init : Room := { frames := 2, cells := 6, slots := 39, locals := 33 }
theorem hyX6_init : yX6_init.cls ≠ "java/lang/invoke/MethodHandle" ∧ yX6_init.cls ≠ "java/lang/invoke/VarHandle" ∧ (parseMethodDescriptor yX6_init.desc).map (fun d => d.parameters.length) = some 1 := by decide +kernel
set_option maxRecDepth 100000 in
set_option maxHeartbeats 4000000 in
theorem nX6_init {l : Launch} {D : va_G} {cI : ClassId} {h0 : Nat} {k0 : Nat} (sz : Nat) : Met l yX6_init wsX6_init rX6_init (gg_P [] D [(cI, .int)] [(h0, .inr (6, [.null, .int 0, .null, .null, .null]))] [.ref h0, .ref k0] sz) (gg_Q D [(h0, .inr (6, [.null, .int 0, .null, .null, .null]))] h0 (ck_6 cI k0) 7 sX6_init sz) 6 39 (va_A [(h0, .inr (6, [.null, .int 0, .null, .null, .null]))] sz) := by
  refine gg_met (y := yX6_init) (ws := wsX6_init) (rm := rX6_init) (D := D) (tys := [(cI, .int)]) (w0 := [(h0, .inr (6, [.null, .int 0, .null, .null, .null]))]) (mc := 6) (ms := 39) (av := [.ref h0, .ref k0]) (fun sz => gg_Q D [(h0, .inr (6, [.null, .int 0, .null, .null, .null]))] h0 (ck_6 cI k0) 7 sX6_init sz) (lv := [(0, .ref h0), (1, .ref k0)]) (cc := cX6_init) (maxL := 2) (own := RX6) (by decide +kernel) rfl rfl rfl (Nat.le_of_ble_eq_true rfl) rfl ?_ sz
  intro K hL X hQ
  refine gg_aload_n X dX6_init_0 0 rfl ?_
  refine gg_obj X dX6_init_1 (List.mem_of_getElem? (i := 1) rfl) (List.mem_of_getElem? (i := 2) rfl) (List.mem_of_getElem? (i := 3) rfl) (Nat.le_of_ble_eq_true rfl) (Nat.le_of_ble_eq_true rfl) ?_
  refine gg_aload_n X dX6_init_4 0 rfl ?_
  refine gg_iconst X dX6_init_5 (v := 0) (by decide) ?_
  refine gg_put X (ty := .int) dX6_init_6 0 1 tyX6 tyX6_ok nmX6 rfl rfl (by decide) (fun _ h => (List.mem_cons_of_mem _ (List.mem_append_left _ (List.mem_append_right _ h)))) (List.mem_of_getElem? (i := 4) rfl) rfl rfl (by decide +kernel) rfl rfl (Nat.le_of_ble_eq_true rfl) (ws2 := [(h0, .inr (6, [.null, .int 0, .null, .null, .null]))]) rfl ?_
  refine gg_aload_n X dX6_init_9 0 rfl ?_
  refine gg_new X (ci := 4) (M := 1) (c2 := 1) (s2 := 1) (fs := [.null]) dX6_init_10 tyX4 tyX4_ok rfl (fun _ h => (List.mem_cons_of_mem _ (List.mem_append_right _ h))) (List.mem_of_getElem? (i := 5) rfl) (List.mem_of_getElem? (i := 6) rfl) (List.mem_of_getElem? (i := 7) rfl) (fun j hj => by rcases (show j = 0 by omega) with rfl <;> rfl) rfl rfl (Nat.le_of_ble_eq_true rfl) (Nat.le_of_ble_eq_true rfl) (fun q0 => ?_)
  refine gg_eq (ws2 := [(h0, .inr (6, [.null, .int 0, .null, .null, .null])), (q0, .inr (4, [.null]))]) rfl ?_
  refine gg_dup X dX6_init_13 rfl ?_
  refine gg_bipush X dX6_init_14 (v := 12) (by decide) ?_
  refine gg_call X (nw2 := []) (As := [.int 12]) (rest := [.ref q0, .ref h0]) (cf := (sm_cf cI 12)) (N := 2) (σ := z0) (c2 := 2) (s2 := 13) (wr := [(h0, .inr (6, [.null, .int 0, .null, .null, .null]))]) dX6_init_16 hL (fun sz => nX4_init rfl (by decide) (by decide) sz) gX6_init_X4_init rfl ⟨rfl, rfl⟩ (List.mem_of_getElem? (i := 12) rfl) (List.mem_of_getElem? (i := 13) rfl) (List.mem_of_getElem? (i := 7) rfl) rfl hyX4_init ⟨Nat.le_of_ble_eq_true rfl, Nat.le_of_ble_eq_true rfl⟩ rfl (Nat.le_of_ble_eq_true rfl) (fun w h => by cases h) [0] rfl 1 [0] rfl rfl (by decide) (by decide) rfl rfl (Nat.le_of_ble_eq_true rfl) (Nat.le_of_ble_eq_true rfl) (fun a1 ea1 => ?_)
  subst ea1
  refine gg_eq (ws2 := [(h0, .inr (6, [.null, .int 0, .null, .null, .null])), ((a1 0), .inr (4, [.ref (a1 1)])), ((a1 1), .inl (cI, 12, .inl (fun _ => 0)))]) rfl ?_
  refine gg_putF X (ty := (.object "LinenTunnel$Row")) dX6_init_19 0 2 tyX6 tyX6_ok nmX6 rfl rfl (by decide) (fun _ h => (List.mem_cons_of_mem _ (List.mem_append_left _ (List.mem_append_right _ h)))) (List.mem_of_getElem? (i := 8) rfl) rfl rfl rfl (by decide +kernel) rfl rfl (Nat.le_of_ble_eq_true rfl) (ws2 := [(h0, .inr (6, [.null, .int 0, .ref (a1 0), .null, .null])), ((a1 0), .inr (4, [.ref (a1 1)])), ((a1 1), .inl (cI, 12, .inl (fun _ => 0)))]) rfl ?_
  refine gg_aload_n X dX6_init_22 0 rfl ?_
  refine gg_new X (ci := 4) (M := 1) (c2 := 3) (s2 := 14) (fs := [.null]) dX6_init_23 tyX4 tyX4_ok rfl (fun _ h => (List.mem_cons_of_mem _ (List.mem_append_right _ h))) (List.mem_of_getElem? (i := 5) rfl) (List.mem_of_getElem? (i := 6) rfl) (List.mem_of_getElem? (i := 7) rfl) (fun j hj => by rcases (show j = 0 by omega) with rfl <;> rfl) rfl rfl (Nat.le_of_ble_eq_true rfl) (Nat.le_of_ble_eq_true rfl) (fun q2 => ?_)
  refine gg_eq (ws2 := [(h0, .inr (6, [.null, .int 0, .ref (a1 0), .null, .null])), ((a1 0), .inr (4, [.ref (a1 1)])), ((a1 1), .inl (cI, 12, .inl (fun _ => 0))), (q2, .inr (4, [.null]))]) rfl ?_
  refine gg_dup X dX6_init_26 rfl ?_
  refine gg_bipush X dX6_init_27 (v := 12) (by decide) ?_
  refine gg_call X (nw2 := []) (As := [.int 12]) (rest := [.ref q2, .ref h0]) (cf := (sm_cf cI 12)) (N := 2) (σ := z0) (c2 := 4) (s2 := 26) (wr := [(h0, .inr (6, [.null, .int 0, .ref (a1 0), .null, .null])), ((a1 0), .inr (4, [.ref (a1 1)])), ((a1 1), .inl (cI, 12, .inl (fun _ => 0)))]) dX6_init_29 hL (fun sz => nX4_init rfl (by decide) (by decide) sz) gX6_init_X4_init rfl ⟨rfl, rfl⟩ (List.mem_of_getElem? (i := 12) rfl) (List.mem_of_getElem? (i := 13) rfl) (List.mem_of_getElem? (i := 7) rfl) rfl hyX4_init ⟨Nat.le_of_ble_eq_true rfl, Nat.le_of_ble_eq_true rfl⟩ rfl (Nat.le_of_ble_eq_true rfl) (fun w h => by cases h) [0] rfl 3 [0, 1, 2] rfl rfl (by decide) (by decide) rfl rfl (Nat.le_of_ble_eq_true rfl) (Nat.le_of_ble_eq_true rfl) (fun a3 ea3 => ?_)
  subst ea3
  refine gg_eq (ws2 := [(h0, .inr (6, [.null, .int 0, .ref (a1 0), .null, .null])), ((a1 0), .inr (4, [.ref (a1 1)])), ((a1 1), .inl (cI, 12, .inl (fun _ => 0))), ((a3 0), .inr (4, [.ref (a3 1)])), ((a3 1), .inl (cI, 12, .inl (fun _ => 0)))]) rfl ?_
  refine gg_putF X (ty := (.object "LinenTunnel$Row")) dX6_init_32 0 3 tyX6 tyX6_ok nmX6 rfl rfl (by decide) (fun _ h => (List.mem_cons_of_mem _ (List.mem_append_left _ (List.mem_append_right _ h)))) (List.mem_of_getElem? (i := 9) rfl) rfl rfl rfl (by decide +kernel) rfl rfl (Nat.le_of_ble_eq_true rfl) (ws2 := [(h0, .inr (6, [.null, .int 0, .ref (a1 0), .ref (a3 0), .null])), ((a1 0), .inr (4, [.ref (a1 1)])), ((a1 1), .inl (cI, 12, .inl (fun _ => 0))), ((a3 0), .inr (4, [.ref (a3 1)])), ((a3 1), .inl (cI, 12, .inl (fun _ => 0)))]) rfl ?_
  refine gg_aload_n X dX6_init_35 0 rfl ?_
  refine gg_new X (ci := 4) (M := 1) (c2 := 5) (s2 := 27) (fs := [.null]) dX6_init_36 tyX4 tyX4_ok rfl (fun _ h => (List.mem_cons_of_mem _ (List.mem_append_right _ h))) (List.mem_of_getElem? (i := 5) rfl) (List.mem_of_getElem? (i := 6) rfl) (List.mem_of_getElem? (i := 7) rfl) (fun j hj => by rcases (show j = 0 by omega) with rfl <;> rfl) rfl rfl (Nat.le_of_ble_eq_true rfl) (Nat.le_of_ble_eq_true rfl) (fun q4 => ?_)
  refine gg_eq (ws2 := [(h0, .inr (6, [.null, .int 0, .ref (a1 0), .ref (a3 0), .null])), ((a1 0), .inr (4, [.ref (a1 1)])), ((a1 1), .inl (cI, 12, .inl (fun _ => 0))), ((a3 0), .inr (4, [.ref (a3 1)])), ((a3 1), .inl (cI, 12, .inl (fun _ => 0))), (q4, .inr (4, [.null]))]) rfl ?_
  refine gg_dup X dX6_init_39 rfl ?_
  refine gg_bipush X dX6_init_40 (v := 12) (by decide) ?_
  refine gg_call X (nw2 := []) (As := [.int 12]) (rest := [.ref q4, .ref h0]) (cf := (sm_cf cI 12)) (N := 2) (σ := z0) (c2 := 6) (s2 := 39) (wr := [(h0, .inr (6, [.null, .int 0, .ref (a1 0), .ref (a3 0), .null])), ((a1 0), .inr (4, [.ref (a1 1)])), ((a1 1), .inl (cI, 12, .inl (fun _ => 0))), ((a3 0), .inr (4, [.ref (a3 1)])), ((a3 1), .inl (cI, 12, .inl (fun _ => 0)))]) dX6_init_42 hL (fun sz => nX4_init rfl (by decide) (by decide) sz) gX6_init_X4_init rfl ⟨rfl, rfl⟩ (List.mem_of_getElem? (i := 12) rfl) (List.mem_of_getElem? (i := 13) rfl) (List.mem_of_getElem? (i := 7) rfl) rfl hyX4_init ⟨Nat.le_of_ble_eq_true rfl, Nat.le_of_ble_eq_true rfl⟩ rfl (Nat.le_of_ble_eq_true rfl) (fun w h => by cases h) [0] rfl 5 [0, 1, 2, 3, 4] rfl rfl (by decide) (by decide) rfl rfl (Nat.le_of_ble_eq_true rfl) (Nat.le_of_ble_eq_true rfl) (fun a5 ea5 => ?_)
  subst ea5
  refine gg_eq (ws2 := [(h0, .inr (6, [.null, .int 0, .ref (a1 0), .ref (a3 0), .null])), ((a1 0), .inr (4, [.ref (a1 1)])), ((a1 1), .inl (cI, 12, .inl (fun _ => 0))), ((a3 0), .inr (4, [.ref (a3 1)])), ((a3 1), .inl (cI, 12, .inl (fun _ => 0))), ((a5 0), .inr (4, [.ref (a5 1)])), ((a5 1), .inl (cI, 12, .inl (fun _ => 0)))]) rfl ?_
  refine gg_putF X (ty := (.object "LinenTunnel$Row")) dX6_init_45 0 4 tyX6 tyX6_ok nmX6 rfl rfl (by decide) (fun _ h => (List.mem_cons_of_mem _ (List.mem_append_left _ (List.mem_append_right _ h)))) (List.mem_of_getElem? (i := 10) rfl) rfl rfl rfl (by decide +kernel) rfl rfl (Nat.le_of_ble_eq_true rfl) (ws2 := [(h0, .inr (6, [.null, .int 0, .ref (a1 0), .ref (a3 0), .ref (a5 0)])), ((a1 0), .inr (4, [.ref (a1 1)])), ((a1 1), .inl (cI, 12, .inl (fun _ => 0))), ((a3 0), .inr (4, [.ref (a3 1)])), ((a3 1), .inl (cI, 12, .inl (fun _ => 0))), ((a5 0), .inr (4, [.ref (a5 1)])), ((a5 1), .inl (cI, 12, .inl (fun _ => 0)))]) rfl ?_
  refine gg_aload_n X dX6_init_48 0 rfl ?_
  refine gg_aload_n X dX6_init_49 1 rfl ?_
  refine gg_putF X (ty := (.object "LinenTunnel$Kinds")) dX6_init_50 0 0 tyX6 tyX6_ok nmX6 rfl rfl (by decide) (fun _ h => (List.mem_cons_of_mem _ (List.mem_append_left _ (List.mem_append_right _ h)))) (List.mem_of_getElem? (i := 11) rfl) rfl rfl rfl (by decide +kernel) rfl rfl (Nat.le_of_ble_eq_true rfl) (ws2 := [(h0, .inr (6, [.ref k0, .int 0, .ref (a1 0), .ref (a3 0), .ref (a5 0)])), ((a1 0), .inr (4, [.ref (a1 1)])), ((a1 1), .inl (cI, 12, .inl (fun _ => 0))), ((a3 0), .inr (4, [.ref (a3 1)])), ((a3 1), .inl (cI, 12, .inl (fun _ => 0))), ((a5 0), .inr (4, [.ref (a5 1)])), ((a5 1), .inl (cI, 12, .inl (fun _ => 0)))]) rfl ?_
  exact gg_ret X dX6_init_53 hQ (fun k => [h0, (a1 0), (a3 0), (a5 0), (a1 1), (a3 1), (a5 1)].getD k 0) rfl [0, 1, 3, 5, 2, 4, 6] (by decide) rfl
def ck_3 (cI : ClassId) (k0 : Nat) : mm_F := fun a k f => match k with
  | 0 => .inr (3, [.ref k0, .ref (a 1), .ref (a 2)])
  | 1 => .inr (4, [.ref (a 3)])
  | 2 => .inr (4, [.ref (a 4)])
  | 3 => .inl (cI, 64, .inl f)
  | _ => .inl (cI, 2048, .inl f)
def sX3_init : mm_M := z0
abbrev rX3_init : Room := { frames := 2, cells := 4, slots := 2114, locals := 33 }
theorem hyX3_init : yX3_init.cls ≠ "java/lang/invoke/MethodHandle" ∧ yX3_init.cls ≠ "java/lang/invoke/VarHandle" ∧ (parseMethodDescriptor yX3_init.desc).map (fun d => d.parameters.length) = some 1 := by decide +kernel
set_option maxRecDepth 100000 in
set_option maxHeartbeats 4000000 in
theorem nX3_init {l : Launch} {D : va_G} {cI : ClassId} {h0 : Nat} {k0 : Nat} (sz : Nat) : Met l yX3_init wsX3_init rX3_init (gg_P [] D [(cI, .int)] [(h0, .inr (3, [.null, .null, .null]))] [.ref h0, .ref k0] sz) (gg_Q D [(h0, .inr (3, [.null, .null, .null]))] h0 (ck_3 cI k0) 5 sX3_init sz) 4 2114 (va_A [(h0, .inr (3, [.null, .null, .null]))] sz) := by
  refine gg_met (y := yX3_init) (ws := wsX3_init) (rm := rX3_init) (D := D) (tys := [(cI, .int)]) (w0 := [(h0, .inr (3, [.null, .null, .null]))]) (mc := 4) (ms := 2114) (av := [.ref h0, .ref k0]) (fun sz => gg_Q D [(h0, .inr (3, [.null, .null, .null]))] h0 (ck_3 cI k0) 5 sX3_init sz) (lv := [(0, .ref h0), (1, .ref k0)]) (cc := cX3_init) (maxL := 2) (own := RX3) (by decide +kernel) rfl rfl rfl (Nat.le_of_ble_eq_true rfl) rfl ?_ sz
  intro K hL X hQ
  refine gg_aload_n X dX3_init_0 0 rfl ?_
  refine gg_obj X dX3_init_1 (List.mem_of_getElem? (i := 1) rfl) (List.mem_of_getElem? (i := 2) rfl) (List.mem_of_getElem? (i := 3) rfl) (Nat.le_of_ble_eq_true rfl) (Nat.le_of_ble_eq_true rfl) ?_
  refine gg_aload_n X dX3_init_4 0 rfl ?_
  refine gg_new X (ci := 4) (M := 1) (c2 := 1) (s2 := 1) (fs := [.null]) dX3_init_5 tyX4 tyX4_ok rfl (fun _ h => (List.mem_cons_of_mem _ (List.mem_append_left _ (List.mem_append_right _ h)))) (List.mem_of_getElem? (i := 4) rfl) (List.mem_of_getElem? (i := 5) rfl) (List.mem_of_getElem? (i := 6) rfl) (fun j hj => by rcases (show j = 0 by omega) with rfl <;> rfl) rfl rfl (Nat.le_of_ble_eq_true rfl) (Nat.le_of_ble_eq_true rfl) (fun q0 => ?_)
  refine gg_eq (ws2 := [(h0, .inr (3, [.null, .null, .null])), (q0, .inr (4, [.null]))]) rfl ?_
  refine gg_dup X dX3_init_8 rfl ?_
  refine gg_bipush X dX3_init_9 (v := 64) (by decide) ?_
  refine gg_call X (nw2 := []) (As := [.int 64]) (rest := [.ref q0, .ref h0]) (cf := (sm_cf cI 64)) (N := 2) (σ := z0) (c2 := 2) (s2 := 65) (wr := [(h0, .inr (3, [.null, .null, .null]))]) dX3_init_11 hL (fun sz => nX4_init rfl (by decide) (by decide) sz) gX3_init_X4_init rfl ⟨rfl, rfl⟩ (List.mem_of_getElem? (i := 10) rfl) (List.mem_of_getElem? (i := 11) rfl) (List.mem_of_getElem? (i := 6) rfl) rfl hyX4_init ⟨Nat.le_of_ble_eq_true rfl, Nat.le_of_ble_eq_true rfl⟩ rfl (Nat.le_of_ble_eq_true rfl) (fun w h => by cases h) [0] rfl 1 [0] rfl rfl (by decide) (by decide) rfl rfl (Nat.le_of_ble_eq_true rfl) (Nat.le_of_ble_eq_true rfl) (fun a1 ea1 => ?_)
  subst ea1
  refine gg_eq (ws2 := [(h0, .inr (3, [.null, .null, .null])), ((a1 0), .inr (4, [.ref (a1 1)])), ((a1 1), .inl (cI, 64, .inl (fun _ => 0)))]) rfl ?_
  refine gg_putF X (ty := (.object "LinenTunnel$Row")) dX3_init_14 0 1 tyX3 tyX3_ok nmX3 rfl rfl (by decide) (fun _ h => (List.mem_cons_of_mem _ (List.mem_append_right _ h))) (List.mem_of_getElem? (i := 7) rfl) rfl rfl rfl (by decide +kernel) rfl rfl (Nat.le_of_ble_eq_true rfl) (ws2 := [(h0, .inr (3, [.null, .ref (a1 0), .null])), ((a1 0), .inr (4, [.ref (a1 1)])), ((a1 1), .inl (cI, 64, .inl (fun _ => 0)))]) rfl ?_
  refine gg_aload_n X dX3_init_17 0 rfl ?_
  refine gg_new X (ci := 4) (M := 1) (c2 := 3) (s2 := 66) (fs := [.null]) dX3_init_18 tyX4 tyX4_ok rfl (fun _ h => (List.mem_cons_of_mem _ (List.mem_append_left _ (List.mem_append_right _ h)))) (List.mem_of_getElem? (i := 4) rfl) (List.mem_of_getElem? (i := 5) rfl) (List.mem_of_getElem? (i := 6) rfl) (fun j hj => by rcases (show j = 0 by omega) with rfl <;> rfl) rfl rfl (Nat.le_of_ble_eq_true rfl) (Nat.le_of_ble_eq_true rfl) (fun q2 => ?_)
  refine gg_eq (ws2 := [(h0, .inr (3, [.null, .ref (a1 0), .null])), ((a1 0), .inr (4, [.ref (a1 1)])), ((a1 1), .inl (cI, 64, .inl (fun _ => 0))), (q2, .inr (4, [.null]))]) rfl ?_
  refine gg_dup X dX3_init_21 rfl ?_
  refine gg_sipush X dX3_init_22 (v := 2048) (by decide) ?_
  refine gg_call X (nw2 := []) (As := [.int 2048]) (rest := [.ref q2, .ref h0]) (cf := (sm_cf cI 2048)) (N := 2) (σ := z0) (c2 := 4) (s2 := 2114) (wr := [(h0, .inr (3, [.null, .ref (a1 0), .null])), ((a1 0), .inr (4, [.ref (a1 1)])), ((a1 1), .inl (cI, 64, .inl (fun _ => 0)))]) dX3_init_25 hL (fun sz => nX4_init rfl (by decide) (by decide) sz) gX3_init_X4_init rfl ⟨rfl, rfl⟩ (List.mem_of_getElem? (i := 10) rfl) (List.mem_of_getElem? (i := 11) rfl) (List.mem_of_getElem? (i := 6) rfl) rfl hyX4_init ⟨Nat.le_of_ble_eq_true rfl, Nat.le_of_ble_eq_true rfl⟩ rfl (Nat.le_of_ble_eq_true rfl) (fun w h => by cases h) [0] rfl 3 [0, 1, 2] rfl rfl (by decide) (by decide) rfl rfl (Nat.le_of_ble_eq_true rfl) (Nat.le_of_ble_eq_true rfl) (fun a3 ea3 => ?_)
  subst ea3
  refine gg_eq (ws2 := [(h0, .inr (3, [.null, .ref (a1 0), .null])), ((a1 0), .inr (4, [.ref (a1 1)])), ((a1 1), .inl (cI, 64, .inl (fun _ => 0))), ((a3 0), .inr (4, [.ref (a3 1)])), ((a3 1), .inl (cI, 2048, .inl (fun _ => 0)))]) rfl ?_
  refine gg_putF X (ty := (.object "LinenTunnel$Row")) dX3_init_28 0 2 tyX3 tyX3_ok nmX3 rfl rfl (by decide) (fun _ h => (List.mem_cons_of_mem _ (List.mem_append_right _ h))) (List.mem_of_getElem? (i := 8) rfl) rfl rfl rfl (by decide +kernel) rfl rfl (Nat.le_of_ble_eq_true rfl) (ws2 := [(h0, .inr (3, [.null, .ref (a1 0), .ref (a3 0)])), ((a1 0), .inr (4, [.ref (a1 1)])), ((a1 1), .inl (cI, 64, .inl (fun _ => 0))), ((a3 0), .inr (4, [.ref (a3 1)])), ((a3 1), .inl (cI, 2048, .inl (fun _ => 0)))]) rfl ?_
  refine gg_aload_n X dX3_init_31 0 rfl ?_
  refine gg_aload_n X dX3_init_32 1 rfl ?_
  refine gg_putF X (ty := (.object "LinenTunnel$Waiting")) dX3_init_33 0 0 tyX3 tyX3_ok nmX3 rfl rfl (by decide) (fun _ h => (List.mem_cons_of_mem _ (List.mem_append_right _ h))) (List.mem_of_getElem? (i := 9) rfl) rfl rfl rfl (by decide +kernel) rfl rfl (Nat.le_of_ble_eq_true rfl) (ws2 := [(h0, .inr (3, [.ref k0, .ref (a1 0), .ref (a3 0)])), ((a1 0), .inr (4, [.ref (a1 1)])), ((a1 1), .inl (cI, 64, .inl (fun _ => 0))), ((a3 0), .inr (4, [.ref (a3 1)])), ((a3 1), .inl (cI, 2048, .inl (fun _ => 0)))]) rfl ?_
  exact gg_ret X dX3_init_36 hQ (fun k => [h0, (a1 0), (a3 0), (a1 1), (a3 1)].getD k 0) rfl [0, 1, 3, 2, 4] (by decide) rfl
