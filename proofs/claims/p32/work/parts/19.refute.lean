/-! ===== the law's beginning: both objects are made; what that takes of the heap ===== -/
def lw_P (b : Addr) (xs : List Int32) (args : Array Value) (s : State) : Prop := args = #[.ref b] ∧ s.IntsAt b xs ∧ xs.length ≤ 3072 ∧ (Jvm.Cond.and given_1 narrow_1).before args s = true
theorem lw_pre_spec {args : Array Value} {s : State} (h : (Jvm.Cond.and given_1 narrow_1).before args s = true) (hr : rest_1_c.before args s = true) : ∃ (b : Addr) (xs : List Int32), lw_P b xs args s := by
  have hs := flat_of_before _ h
  have hq := flat_of_before _ hr
  have hc : (Cond.count 1).before args s = true := hs _ (by decide +kernel)
  have harr : (Cond.arrayOf (.arg 0) .int).before args s = true := hs _ (by decide +kernel)
  have hle : (Cond.le (.length (.arg 0)) (.int 3072)).before args s = true := hs _ (by decide +kernel)
  have hlen : (Cond.isInt (.length (.arg 0))).before args s = true := hq _ (by decide +kernel)
  have hall : (Cond.all (.arg 0) (.isInt (.elem (.arg 0) (.index 0)))).before args s = true := hq _ (by decide +kernel)
  obtain ⟨b, xs, hb, hx⟩ := State.ints_of_pre rfl harr hlen hall
  have hsm : xs.length < 2 ^ 31 := hx.choose_spec.2.2.2
  have hev : (Term.length (.arg 0)).eval args s none [] s = some (.int xs.length.toInt32) := hx.length_eval hb
  have hv := Cond.le_ints hev (show (Term.int 3072).eval args s none [] s = some (.int 3072) from rfl)
  have hd : xs.length.toInt32 ≤ 3072 := by
    simpa [Cond.before, Cond.holds, hv] using hle
  have hN : xs.length ≤ 3072 := (Int32.ofNat_le_ofNat hsm (by decide)).mp (show Int32.ofNat xs.length ≤ Int32.ofNat 3072 from hd)
  exact ⟨b, xs, Cond.one_arg hc (show args[0]? = some (.ref b) from hb), hx, hN, h⟩
abbrev rmL : Room := { frames := 10, cells := 88, slots := 7853, locals := 350 }
theorem rf_one : ∀ (l : List Nat) (i x : Nat), l[i]? = some x → x ≤ l.sum
  | [], i, x, h => by simp at h
  | z :: l, 0, x, h => by
    have : z = x := by simpa using h
    subst this
    simp
  | z :: l, i + 1, x, h => by
    have := rf_one l i x (by simpa using h)
    simp
    omega
theorem rf_two : ∀ (l : List Nat) (i j x y : Nat), l[i]? = some x → l[j]? = some y → i ≠ j → x + y ≤ l.sum
  | [], i, j, x, y, h, _, _ => by simp at h
  | z :: l, 0, 0, x, y, _, _, h => absurd rfl h
  | z :: l, 0, j + 1, x, y, h1, h2, _ => by
    have e : z = x := by simpa using h1
    have := rf_one l j y (by simpa using h2)
    subst e
    simp
    omega
  | z :: l, i + 1, 0, x, y, h1, h2, _ => by
    have e : z = y := by simpa using h2
    have := rf_one l i x (by simpa using h1)
    subst e
    simp
    omega
  | z :: l, i + 1, j + 1, x, y, h1, h2, h => by
    have := rf_two l i j x y (by simpa using h1) (by simpa using h2) (by omega)
    simp
    omega
theorem rf_book {s T : State} {locs : List Loc} {cells slots a b : Nat} {ca cb : Cell} (hX : s.sameButNew (T.setVm s.vm) locs cells slots) (ha : T.heap[a]? = some ca) (hb : T.heap[b]? = some cb) (hn : a ≠ b) (h1 : s.heap.size ≤ a) (h2 : s.heap.size ≤ b) : s.slotsUsed + (ca.slots.size + cb.slots.size) ≤ T.slotsUsed := by
  obtain ⟨-, -, -, h4, -, -⟩ := hX
  have h4 : T.slotsUsed = s.slotsUsed + ((T.heap.toList.drop s.heap.size).map (·.slots.size)).sum := h4
  have e1 : ((T.heap.toList.drop s.heap.size).map (·.slots.size))[a - s.heap.size]? = some ca.slots.size := by
    rw [List.getElem?_map, List.getElem?_drop, show s.heap.size + (a - s.heap.size) = a by omega, Array.getElem?_toList, ha]
    rfl
  have e2 : ((T.heap.toList.drop s.heap.size).map (·.slots.size))[b - s.heap.size]? = some cb.slots.size := by
    rw [List.getElem?_map, List.getElem?_drop, show s.heap.size + (b - s.heap.size) = b by omega, Array.getElem?_toList, hb]
    rfl
  have := rf_two _ _ _ _ _ e1 e2 (by omega)
  omega
theorem rf_K {s : State} {args : Array Value} (hts : ∀ w ∈ lw_tbl, w.before args s = true) : ∃ (D : va_G) (cI cZ : ClassId), va_K D vwCl [(cI, .int), (cZ, .boolean)] s := by
  obtain ⟨c0, i0, h0⟩ := u_known (C := RX0) (T := TX0) (N := 16) (n := 16) hts uT_0 (hts _ wI_0)
  obtain ⟨c1, i1, h1⟩ := u_known (C := RX1) (T := TX1) (N := 6) (n := 6) hts uT_1 (hts _ wI_1)
  obtain ⟨c2, i2, h2⟩ := u_known (C := RX2) (T := TX2) (N := 7) (n := 7) hts uT_2 (hts _ wI_2)
  obtain ⟨c3, i3, h3⟩ := u_known (C := RX3) (T := TX3) (N := 3) (n := 3) hts uT_3 (hts _ wI_3)
  obtain ⟨c4, i4, h4⟩ := u_known (C := RX4) (T := TX4) (N := 1) (n := 1) hts uT_4 (hts _ wI_4)
  obtain ⟨c5, i5, h5⟩ := u_known (C := RX5) (T := TX5) (N := 3) (n := 3) hts uT_5 (hts _ wI_5)
  obtain ⟨c6, i6, h6⟩ := u_known (C := RX6) (T := TX6) (N := 5) (n := 5) hts uT_6 (hts _ wI_6)
  obtain ⟨c7, i7, h7⟩ := u_known (C := RX7) (T := TX7) (N := 7) (n := 7) hts uT_7 (hts _ wI_7)
  obtain ⟨c8, i8, h8⟩ := u_known (C := RX8) (T := TX8) (N := 37) (n := 37) hts uT_8 (hts _ wI_8)
  obtain ⟨cI, kI, pI, f1, f2, f3⟩ := Cond.arrayClass_spec (hts _ wA_I)
  obtain ⟨cZ, kZ, pZ, g1, g2, g3⟩ := Cond.arrayClass_spec (hts _ wA_Z)
  refine ⟨(fun k => match k with | 0 => c0 | 1 => c1 | 2 => c2 | 3 => c3 | 4 => c4 | 5 => c5 | 6 => c6 | 7 => c7 | _ => c8, fun k => match k with | 0 => i0 | 1 => i1 | 2 => i2 | 3 => i3 | 4 => i4 | 5 => i5 | 6 => i6 | 7 => i7 | _ => i8), cI, cZ, ?_, ?_⟩
  · intro k q hq
    match k, hq with
    | 0, hq => cases hq; exact h0
    | 1, hq => cases hq; exact h1
    | 2, hq => cases hq; exact h2
    | 3, hq => cases hq; exact h3
    | 4, hq => cases hq; exact h4
    | 5, hq => cases hq; exact h5
    | 6, hq => cases hq; exact h6
    | 7, hq => cases hq; exact h7
    | 8, hq => cases hq; exact h8
    | k + 9, hq => simp [vwCl] at hq
  · intro k q hq
    match k, hq with
    | 0, hq => cases hq; exact ⟨fun n z => ⟨fun k h => (by cases h), kI, f2, pI, f3⟩, f1⟩
    | 1, hq => cases hq; exact ⟨fun n z => ⟨fun k h => (by cases h), kZ, g2, pZ, g3⟩, g1⟩
    | k + 2, hq => simp at hq
set_option maxHeartbeats 4000000 in
set_option maxRecDepth 100000 in
theorem rf_run {p : Program} {e : Env} {s : State} {m : MethodId} {below : List Frame} {meth : Method} {c : Code} (l : Launch) {b : Nat} (hx : p.tables.exec = Jvm.exec) (hb : c.code = code) (hml : c.maxLocals = 4) (hown : s.vm.findClass RL = some m.cls) (hts : ∀ w ∈ lw_tbl, w.before #[Value.ref b] s = true) :
    W p l e rmL s m #[Value.ref b] below meth c s.heap [] 0 0 (fun t => s.slotsUsed + 5120 ≤ t.slotsUsed) (entryFrame m ([Value.ref b] : List Value).toArray 4) := by
  obtain ⟨D, cI, cZ, hK⟩ := rf_K hts
  have hl := lv_entry ([.ref b]) (n := 4) (Nat.le_of_ble_eq_true rfl)
  rw [lg_entry_eq]
  generalize (lg_sl ([.ref b]) ++ List.replicate (4 - (lg_sl ([.ref b])).length) Slot.unset).toArray = ls at hl ⊢
  have hl : lv_has ls 4 [(0, .ref b)] := hl
  have hN : mm_N mm_nw s := fun w hw => ⟨nT_nst w hw, by
    have h0 := hts w (nT_in w hw)
    have h1 := nT_nst w hw
    refine va_Nw.of ?_ h0
    cases w <;> first | rfl | cases h1⟩
  obtain ⟨K, hKe⟩ : ∃ K : mm_K, K = (p, l, e, rmL, s, m, #[Value.ref b], below, meth, c, 4, (fun q => s.heap.size ≤ q), (fun t => s.slotsUsed + 5120 ≤ t.slotsUsed)) := ⟨_, rfl⟩
  have X : gg_D (fun _ => True) mm_nw K rmL cL_law 4 lw_tbl RL D [(cI, .int), (cZ, .boolean)] := by
    rw [hKe]
    exact ⟨⟨hx, hb, hml, hts, hown, hK, fun q hq => hq, hN, trivial⟩, rfl, rfl⟩
  have hL : mm_L K l := by rw [hKe]; rfl
  have go : gg_G K D [] 0 0 0 [(0, .ref b)] [] := by
    refine gg_new X (ci := 7) (M := 7) (c2 := 1) (s2 := 7) (fs := [.null, .null, .null, .null, .null, .null, .int 0]) dL_law_0 tyX7 tyX7_ok rfl uT_7 wT_1 wI_7 wZ_7 (fun j hj => by rcases (show j = 0 ∨ j = 1 ∨ j = 2 ∨ j = 3 ∨ j = 4 ∨ j = 5 ∨ j = 6 by omega) with rfl | rfl | rfl | rfl | rfl | rfl | rfl <;> rfl) rfl rfl (Nat.le_of_ble_eq_true rfl) (Nat.le_of_ble_eq_true rfl) (fun q => ?_)
    refine gg_eq (ws2 := [(q, .inr (7, [.null, .null, .null, .null, .null, .null, .int 0]))]) rfl ?_
    refine gg_dup X dL_law_3 rfl ?_
    refine gg_call X (nw2 := mm_nw) (tys2 := [(cI, .int)]) (As := []) (rest := [.ref q]) (cf := dv_cf cI) (N := 59) (σ := dv_0) (c2 := 59) (s2 := 3296) (wr := []) dL_law_4 hL (fun sz => nX7_init sz) gT_X7_init rfl ⟨rfl, rfl⟩ wT_2 wT_3 wZ_7 rfl hyX7_init ⟨Nat.le_of_ble_eq_true rfl, Nat.le_of_ble_eq_true rfl⟩ rfl (Nat.le_of_ble_eq_true rfl) (fun w h => h) [0] rfl 0 [] rfl rfl (by decide) (by decide) rfl rfl (Nat.le_of_ble_eq_true rfl) (Nat.le_of_ble_eq_true rfl) (fun a ea => ?_)
    refine gg_eq (ws2 := mm_W (dv_cf cI) 59 a dv_0) rfl ?_
    refine gg_astore_n X dL_law_7 (by decide) (lv2 := [(1, .ref q), (0, .ref b)]) rfl ?_
    refine gg_new X (ci := 8) (M := 37) (c2 := 60) (s2 := 3333) (fs := [.int 0, .null, .null, .null, .null, .null, .int 0, .null, .null, .null, .null, .null, .null, .int 0, .null, .null, .null, .null, .int 0, .int 0, .int 0, .int 0, .null, .null, .null, .null, .null, .null, .int 0, .null, .null, .null, .null, .null, .null, .null, .int 0]) dL_law_8 tyX8 tyX8_ok rfl uT_8 wT_4 wI_8 wZ_8 (fun j hj => by rcases (show j = 0 ∨ j = 1 ∨ j = 2 ∨ j = 3 ∨ j = 4 ∨ j = 5 ∨ j = 6 ∨ j = 7 ∨ j = 8 ∨ j = 9 ∨ j = 10 ∨ j = 11 ∨ j = 12 ∨ j = 13 ∨ j = 14 ∨ j = 15 ∨ j = 16 ∨ j = 17 ∨ j = 18 ∨ j = 19 ∨ j = 20 ∨ j = 21 ∨ j = 22 ∨ j = 23 ∨ j = 24 ∨ j = 25 ∨ j = 26 ∨ j = 27 ∨ j = 28 ∨ j = 29 ∨ j = 30 ∨ j = 31 ∨ j = 32 ∨ j = 33 ∨ j = 34 ∨ j = 35 ∨ j = 36 by omega) with rfl | rfl | rfl | rfl | rfl | rfl | rfl | rfl | rfl | rfl | rfl | rfl | rfl | rfl | rfl | rfl | rfl | rfl | rfl | rfl | rfl | rfl | rfl | rfl | rfl | rfl | rfl | rfl | rfl | rfl | rfl | rfl | rfl | rfl | rfl | rfl | rfl <;> rfl) rfl rfl (Nat.le_of_ble_eq_true rfl) (Nat.le_of_ble_eq_true rfl) (fun r => ?_)
    refine gg_dup X dL_law_11 rfl ?_
    refine gg_call X (nw2 := []) (tys2 := [(cI, .int), (cZ, .boolean)]) (As := []) (rest := [.ref r]) (cf := md_cf cI cZ) (N := 29) (σ := md_0) (c2 := 88) (s2 := 7853) (wr := mm_W (dv_cf cI) 59 a dv_0) dL_law_12 hL (fun sz => nX8_init sz) gT_X8_init rfl ⟨rfl, rfl⟩ wT_5 wT_6 wZ_8 rfl hyX8_init ⟨Nat.le_of_ble_eq_true rfl, Nat.le_of_ble_eq_true rfl⟩ rfl (Nat.le_of_ble_eq_true rfl) (fun w h => by cases h) [0, 1] rfl 59 (List.range 59) rfl rfl (by decide) (by decide) rfl rfl (Nat.le_of_ble_eq_true rfl) (Nat.le_of_ble_eq_true rfl) (fun a2 ea2 => ?_)
    refine gg_astore_n X dL_law_15 (by decide) (lv2 := [(2, .ref r), (1, .ref q), (0, .ref b)]) rfl ?_
    subst hKe
    intro H locs ls2 hP hD hS hl2 T hT Y
    refine ⟨_, Steps.refl _, ?_⟩
    show s.slotsUsed + 5120 ≤ T.slotsUsed
    have k1 : (mm_W (dv_cf cI) 59 a dv_0 ++ mm_W (md_cf cI cZ) 29 a2 md_0)[22]? = some (a 22, .inl (cI, 2048, .inl (dv_0 22))) := rfl
    have k2 : (mm_W (dv_cf cI) 59 a dv_0 ++ mm_W (md_cf cI cZ) 29 a2 md_0)[75]? = some (a2 16, .inl (cI, 3072, .inl (md_0 16))) := rfl
    have c1 := hP 22 _ k1
    have c2 := hP 75 _ k2
    have n1 := hD.2 22 _ k1
    have n2 := hD.2 75 _ k2
    have ne : a 22 ≠ a2 16 := fun h => absurd (hD.1 22 75 _ _ k1 k2 h) (by decide)
    have c1 : T.heap[a 22]? = some (vp_cell cI (2048, .inl (dv_0 22))) := by rw [hT]; exact c1
    have c2 : T.heap[a2 16]? = some (vp_cell cI (3072, .inl (md_0 16))) := by rw [hT]; exact c2
    have := rf_book Y.same c1 c2 ne n1 n2
    rw [vp_cell_i, vp_cell_i, arrV_size, arrV_size] at this
    omega
  subst hKe
  have hP0 : va_P D vwCl ([] : va_W) s.heap := fun k q h => by simp at h
  have hD0 : va_D (fun q : Nat => s.heap.size ≤ q) ([] : va_W) := ⟨fun i j p q h => by simp at h, fun k q h => by simp at h⟩
  exact go s.heap [] ls hP0 hD0 va_S.rf hl
/-- the first step of an invocation -/
theorem rf_enter {p : Program} {l : Launch} {e : Env} {s : State} {m : MethodId} {args : Array Value} {below : List Frame} {ws : List Cond} {rm : Room} (ha : l.admits e) (hc : FairCas e.choices) (hk : FairClock e.choices) (hf : s.frames = .invoking m args :: below) (happ : (headSpec ws rm).appliesLoose x e.platform s = true) (hw : Cond.code x code maxLocals ret ∈ ws) :
    ∃ (meth : Method) (c : Code) (s₁ : State), BodyLoose p l x (headSpec ws rm) code maxLocals ret e s m args below meth c s₁ ∧ c.maxLocals = maxLocals ∧ ∀ s₂, Steps p.tables e below (s₁.setTop (entryFrame m args maxLocals)) s₂ → Steps p.tables e below s s₂ := by
  obtain ⟨hrun, hable, halone, hname, hhears, hinit, hroom, hpre⟩ := (Spec.appliesLoose_iff hf).mp happ
  obtain ⟨meth, c, hmeth, hcode, hbytes, hlocals, hret, hlocks, -, -⟩ := Cond.code_spec hname (atoms_spec (ws := ws) hpre _ hw)
  have hcur := State.cur_lt_of_frames hf
  have hf1 : (s.setFrames (.java (entryFrame m args maxLocals) :: below)).frames = .java (entryFrame m args maxLocals) :: below := State.frames_setFrames _ hcur
  have ht1 := State.topJava?_of_frames hf1
  have hplain : (s.setFrames (.java (entryFrame m args maxLocals) :: below)).plainMethod m := State.plainMethod.of_named (s := s) (plainFor_of_name (by decide)) hname hmeth
  have hAt : At (s.setFrames (.java (entryFrame m args maxLocals) :: below)) m c below :=
    ⟨by rw [ht1]; rfl, ⟨[], by rw [hf1]; rfl⟩, hrun, by simpa using hable, by simpa using halone, by rw [State.code?_eq]; simp [State.setFrames, hmeth, hcode], hplain⟩
  have hstep : (stepThread p.tables e s).1 = (s.setFrames (.java (entryFrame m args maxLocals) :: below)).setTop (entryFrame m args maxLocals) := by
    have hfull : e.platform.stackFull (s.setFrames below).me (s.setFrames below).frames c.maxLocals = false := by
      obtain ⟨-, h1, -, h2⟩ := State.hasRoom_stack hroom
      rw [hf, List.length_cons] at h1
      rw [State.localsInUse_invoking hf hmeth hcode] at h2
      have hq := stackUse_le_stackWeight below
      rw [State.frames_setFrames _ hcur]
      simp only [vmFrameWords] at h2
      exact Platform.stackFull_eq_false (by rw [State.stackLimits_setFrames]; omega) (by rw [State.stackLimits_setFrames]; omega)
    rw [stepThread_invoking hf, (doInvoke_java (s := s.setFrames below) (e := e) (meth := meth) (code := c) hmeth hcode hlocks hfull).1, State.setTop_self ht1]
    simp only [State.pushFrame, State.frames_setFrames _ hcur, State.setFrames_setFrames, hlocals, entryFrame]
  refine ⟨meth, c, _, ⟨ha, hc, hk, by cases p <;> rfl, hf, hname, hhears, hinit, hroom, hpre, hmeth, hret, hlocks, hbytes, rfl, hAt⟩, hlocals, fun s₂ hs => ?_⟩
  exact Steps.head (tb := p.tables) (e := e) ⟨hrun, hable, halone⟩ ⟨[.invoking m args], hf, by simp, by simp⟩ (hstep ▸ hs)
/-- an end is no place within -/
theorem rf_apart {t : State} {below : List Frame} {o : Outcome} (h1 : Ended t below o) (h2 : Within t below) : False := by
  obtain ⟨above, hf, hne, hthr⟩ := h2
  have hlen : t.frames.length = above.length + below.length := by rw [hf, List.length_append]
  have hpos : 0 < above.length := List.length_pos_iff.mpr hne
  cases o with
  | threw a =>
    have h1 : t.frames = .throwing a :: below := h1
    rw [h1] at hf
    exact hthr a (List.append_cancel_right (as := above) (bs := below) (cs := [Frame.throwing a]) (by rw [← hf]; rfl))
  | returned v =>
    have key : t.frames.length = below.length := by
      cases below with
      | nil =>
        have h : v = none ∧ t.frames = [] := h1
        rw [h.2]
      | cons fr r =>
        cases fr <;> first
          | (obtain ⟨c, i, len, -, -, h⟩ := h1; rw [h]; rfl)
          | (have h : v = none ∧ t.frames = _ := h1; rw [h.2])
          | (have h : t.frames = _ := h1; rw [h]; rfl)
    omega
/-- THE STATEMENT AS IT IS PRINTED IS FALSE: wherever there is a start, there is one at which the law's run makes more slots than the frame allows -/
theorem p32_false (hw : WitnessClaimed_1) : ¬ Claimed_1_1 := by
  intro hC
  obtain ⟨p, e, s, m, args, below, hL, hW, hadm, hleast, hcas, hclk, hf, hfit, hheap, happ, hcalls, hrest, hpre⟩ := hw
  obtain ⟨a1, a2, a3, a4, hp, a6, a7, a8, arest⟩ := hadm
  obtain ⟨pl, hpl⟩ : ∃ pl : Platform, pl = { e.platform with maxSlots := e.platform.maxSlots + 10000 } := ⟨_, rfl⟩
  obtain ⟨e2, he2⟩ : ∃ e2 : Env, e2 = { e with platform := pl } := ⟨_, rfl⟩
  have hadm2 : launch0.admits e2 := by
    subst he2
    subst hpl
    refine ⟨a1, a2, a3, a4, ?_, a6, a7, Nat.le_trans a8 (Nat.le_add_right _ _), arest⟩
    exact congrArg (fun P : Platform => { P with maxSlots := e.platform.maxSlots + 10000 }) hp
  have hroom : ∀ k, k ≤ 10000 → s.hasRoom e2.platform { frames := 10, cells := 88, slots := 4630 + k, locals := 350 } = true := by
    intro k hk
    have h := ((Spec.applies_iff hf).mp happ).2.2.2.2.2.2.1
    subst he2
    subst hpl
    have h : s.hasRoom e.platform ({ frames := 10, cells := 88, slots := 4630, locals := 350 } : Room) = true := h
    unfold State.hasRoom at h ⊢
    simp only [Bool.and_eq_true] at h ⊢
    refine ⟨⟨⟨h.1.1.1, h.1.1.2⟩, ?_⟩, h.2⟩
    have h4 := of_decide_eq_true h.1.2
    refine decide_eq_true ?_
    show s.slotsUsed + (4630 + k) ≤ e.platform.maxSlots + 10000
    have h4 : s.slotsUsed + 4630 ≤ e.platform.maxSlots := h4
    omega
  have happ1 : (headSpec (Jvm.Cond.code x code maxLocals ret :: tables_1) room_1).applies x e2.platform s = true := by
    obtain ⟨b1, b2, b3, b4, b5, b6, b7, b8⟩ := (Spec.applies_iff hf).mp happ
    exact (Spec.applies_iff hf).mpr ⟨b1, b2, b3, b4, b5, b6, hroom 0 (by omega), b8⟩
  have happ2 : (headSpec (Jvm.Cond.code x code maxLocals ret :: tables_1) rmL).appliesLoose x e2.platform s = true := by
    obtain ⟨b1, b2, b3, b4, b5, b6, b7, b8⟩ := (Spec.appliesLoose_iff hf).mp ((Spec.applies_iff_loose hf).mp happ1).1
    exact (Spec.appliesLoose_iff hf).mpr ⟨b1, b2, b3, b4, b5, b6, hroom 3223 (by omega), b8⟩
  have hcas2 : FairCas e2.choices := by subst he2; exact hcas
  have hclk2 : FairClock e2.choices := by subst he2; exact hclk
  obtain ⟨n, o, h1, h2, h3, h4⟩ := hC launch0 rfl hL hW p e2 hadm2 hcas2 hclk2 s m args below hf hfit hheap happ1 ⟨hcalls, hrest, hpre⟩
  obtain ⟨-, -, -, hsame⟩ := h4
  obtain ⟨-, -, -, q4, q5, -⟩ := hsame
  have hend : (stepsAlone p.tables e2 n s).slotsUsed ≤ s.slotsUsed + 4630 := by
    have q4 : (stepsAlone p.tables e2 n s).slotsUsed = s.slotsUsed + _ := q4
    rw [q4]
    exact Nat.add_le_add_left q5 _
  obtain ⟨b, xs, hPre⟩ := lw_pre_spec hpre hrest
  obtain ⟨rfl, -, -, -⟩ := hPre
  obtain ⟨meth, c, s₁, B, hml, hgo⟩ := rf_enter (p := p) (l := launch0) hadm2 hcas2 hclk2 hf happ2 List.mem_cons_self
  have hts0 : ∀ c ∈ (Jvm.Cond.code x code maxLocals ret :: tables_1), c.before #[Value.ref b] s = true := atoms_spec (ws := Jvm.Cond.code x code maxLocals ret :: tables_1) B.pre
  have hts : ∀ w ∈ lw_tbl, w.before #[Value.ref b] s = true := k2_hts_sels lw_privs (fun w hw => hts0 w (List.mem_cons_of_mem _ hw)) lw_privs_ok
  have hown : s.vm.findClass RL = some m.cls := findClass_of_methodNamed B.named
  have X₀ : Stand p launch0 e2 rmL s m #[Value.ref b] below meth c s₁ [] 0 0 := Stand.of_body B
  have hh0 : s₁.heap = s.heap := by rw [B.state]; rfl
  obtain ⟨T, hT, hQ⟩ := rf_run launch0 B.exec B.bytes hml hown hts s₁ hh0 X₀
  obtain ⟨k, hk, hkw⟩ := hgo T hT
  have hkn : k ≤ n := by
    rcases Nat.lt_or_ge n k with h | h
    · exact absurd (hkw n h) (fun z => rf_apart h3 z)
    · exact h
  obtain ⟨r, hr⟩ : ∃ r, n = k + r := ⟨n - k, by omega⟩
  have hgrow := (stepsAlone_heap_grows p.tables e2 r T).2
  rw [hr, stepsAlone_add, hk] at hend
  omega
