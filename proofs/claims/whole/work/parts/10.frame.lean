/-! ===== a memory: cells by numbers, slots by numbers; a world is such a memory at given addresses ===== -/
abbrev mm_M : Type := Nat → Nat → Int32
def mm_up (σ : mm_M) (c j : Nat) (v : Int32) : mm_M := fun c' => if c' = c then upd (σ c) j v else σ c'
abbrev mm_F : Type := (Nat → Nat) → Nat → (Nat → Int32) → va_E
def mm_W (cf : mm_F) (N : Nat) (a : Nat → Nat) (σ : mm_M) : va_W := (List.range N).map fun k => (a k, cf a k (σ k))
theorem mm_W_at {cf : mm_F} {N : Nat} {a : Nat → Nat} {σ : mm_M} {k : Nat} (hk : k < N) : (mm_W cf N a σ)[k]? = some (a k, cf a k (σ k)) := by
  simp [mm_W, hk]
theorem mm_W_lt {cf : mm_F} {N : Nat} {a : Nat → Nat} {σ : mm_M} {k : Nat} {q : Nat × va_E} (h : (mm_W cf N a σ)[k]? = some q) : k < N ∧ q = (a k, cf a k (σ k)) := by
  have hk : k < N := by
    have := (List.getElem?_eq_some_iff.mp h).1
    simpa [mm_W] using this
  rw [mm_W_at hk] at h
  exact ⟨hk, (Option.some.inj h).symm⟩
theorem mm_W_set {cf : mm_F} {N : Nat} {a : Nat → Nat} {σ : mm_M} {k j : Nat} {v : Int32} {e : va_E} (he : cf a k (upd (σ k) j v) = e) : (mm_W cf N a σ).set k (a k, e) = mm_W cf N a (mm_up σ k j v) := by
  apply List.ext_getElem?
  intro i
  by_cases hi : i < N
  · rw [mm_W_at hi]
    by_cases hk : k = i
    · subst hk
      rw [List.getElem?_set_self (by simpa [mm_W] using hi)]
      simp [mm_up, he]
    · rw [List.getElem?_set_ne hk, mm_W_at hi]
      simp [mm_up, Ne.symm hk]
  · rw [List.getElem?_eq_none (by simpa [mm_W] using hi), List.getElem?_eq_none (by simpa [mm_W] using hi)]
def mm_A (N : Nat) (a : Nat → Nat) (sz : Nat) : Nat → Prop := fun q => (∃ k, k < N ∧ q = a k) ∨ sz ≤ q
def mm_J (N : Nat) (a : Nat → Nat) : Prop := ∀ i j, i < N → j < N → a i = a j → i = j
theorem mm_D {cf : mm_F} {N : Nat} {a : Nat → Nat} {σ : mm_M} {A : Nat → Prop} (hJ : mm_J N a) (hA : ∀ k, k < N → A (a k)) : va_D A (mm_W cf N a σ) := by
  refine ⟨fun i j p q hi hj h => ?_, fun k q hk => ?_⟩
  · obtain ⟨h1, rfl⟩ := mm_W_lt hi
    obtain ⟨h2, rfl⟩ := mm_W_lt hj
    exact hJ i j h1 h2 h
  · obtain ⟨h1, rfl⟩ := mm_W_lt hk
    exact hA k h1
/-- the tables' words of nest mates -/
def mm_nst (w : Cond) : Bool := match w with
  | .fieldLinkNest _ _ _ _ _ _ => true
  | .methodLinkNest _ _ _ _ => true
  | _ => false
def mm_N (nw : List Cond) (U : State) : Prop := ∀ w ∈ nw, mm_nst w = true ∧ va_Nw w U
theorem mm_N.warm {nw : List Cond} {s U : State} (hW : s.WarmedH U.vm) (h : mm_N nw s) : mm_N nw U := by
  intro w hw
  obtain ⟨h1, h2⟩ := h w hw
  refine ⟨h1, ?_⟩
  cases w <;> first | exact va_Nw.warmM hW h2 | exact va_Nw.warmF hW h2 | cases h1
theorem mm_N.same {nw : List Cond} {u U : State} (hv : u.vm = U.vm) (h : mm_N nw u) : mm_N nw U := by
  intro w hw
  obtain ⟨h1, h2⟩ := h w hw
  refine ⟨h1, va_Nw.same ?_ hv h2⟩
  cases w <;> first | rfl | cases h1
theorem mm_N.use {nw : List Cond} {U : State} {A : Array Value} (h : mm_N nw U) {w : Cond} (hw : w ∈ nw) : w.before A U = true := by
  obtain ⟨h1, h2⟩ := h w hw
  refine va_Nw.use ?_ h2
  cases w <;> first | rfl | cases h1
/-- the start of a method over a world; its ends -/
def mm_P (nw : List Cond) (D : va_G) (cf : mm_F) (N : Nat) (a : Nat → Nat) (tys : List (ClassId × FieldType)) (σ : mm_M) (av : List Value) (sz : Nat) : Array Value → State → Prop := va_Pc av (fun U => U.heap.size = sz ∧ va_P D vwCl (mm_W cf N a σ) U.heap ∧ va_K D vwCl tys U ∧ mm_N nw U)
def mm_E (D : va_G) (cf : mm_F) (N : Nat) (a : Nat → Nat) (σ : mm_M) : Unit → State → Prop := fun _ t => va_P D vwCl (mm_W cf N a σ) t.heap
def mm_Qi (D : va_G) (cf : mm_F) (N : Nat) (a : Nat → Nat) (r : Int32) (σ : mm_M) (sz : Nat) : Array Value → State → Outcome → State → Prop := va_Qi (fun r' (_ : Unit) => r' = r) (mm_E D cf N a σ) (mm_A N a sz)
def mm_Ql (D : va_G) (cf : mm_F) (N : Nat) (a : Nat → Nat) (r : Int64) (σ : mm_M) (sz : Nat) : Array Value → State → Outcome → State → Prop := va_Ql (fun r' (_ : Unit) => r' = r) (mm_E D cf N a σ) (mm_A N a sz)
def mm_Qv (D : va_G) (cf : mm_F) (N : Nat) (a : Nat → Nat) (σ : mm_M) (sz : Nat) : Array Value → State → Outcome → State → Prop := va_Qv (fun (_ : Unit) => True) (mm_E D cf N a σ) (mm_A N a sz)
theorem mm_P.blind {nw : List Cond} {D : va_G} {cf : mm_F} {N : Nat} {a : Nat → Nat} {tys : List (ClassId × FieldType)} {σ : mm_M} {av : List Value} {sz : Nat} : FrameBlind (mm_P nw D cf N a tys σ av sz) := by
  intro ar U g mk h
  obtain ⟨q0, q1, qP, qK, qN⟩ := h
  exact ⟨q0, q1, qP, va_K.moved (u := U) (U := U.calling g mk ar) (Vm.Alike.refl U.vm) qK, mm_N.same (u := U) rfl qN⟩
/-- a run: the machine's parts, how many locals, what may change, what is to come -/
abbrev mm_K := Program × Launch × Env × Room × State × MethodId × Array Value × List Frame × Method × Code × Nat × (Nat → Prop) × (State → Prop)
/-- what holds all through a method's run -/
def mm_C (nw : List Cond) (K : mm_K) (R : Room) (cc : ByteArray) (n : Nat) (ret : Option FieldType) (Ts : List Cond) (own : String) (D : va_G) (N : Nat) (a : Nat → Nat) (tys : List (ClassId × FieldType)) : Prop :=
  match K with
  | (p, _, _, R0, s, m, args, _, meth, c, n0, A, _) => (p.tables.exec = Jvm.exec ∧ c.code = cc ∧ c.maxLocals = n0 ∧ (∀ w ∈ Ts, w.before args s = true) ∧ s.vm.findClass own = some m.cls ∧ va_K D vwCl tys s ∧ mm_J N a ∧ (∀ k, k < N → A (a k)) ∧ (∀ q, s.heap.size ≤ q → A q) ∧ mm_N nw s ∧ meth.sig.returnType = ret ∧ meth.locks = false) ∧ R0 = R ∧ n0 = n
/-- what is to come: the method's end -/
def mm_H (K : mm_K) (N : Nat) (a : Nat → Nat) (Qc : Nat → Array Value → State → Outcome → State → Prop) : Prop :=
  match K with
  | (_, _, _, _, s, _, args, below, _, _, _, A, Q) => A = mm_A N a s.heap.size ∧ Q = MQ below (Qc s.heap.size) args s 0 0 (mm_A N a s.heap.size)
/-- the machine, at a place of a method, over a world -/
def mm_G (K : mm_K) (D : va_G) (cf : mm_F) (N : Nat) (a : Nat → Nat) (σ : mm_M) (pc : Nat) (lv : List (Nat × Value)) (st : List Value) : Prop :=
  match K with
  | (p, l, e, R, s, m, args, below, meth, c, n, A, Q) => ∀ (H : Heap) (locs : List Loc) (ls : Array Slot), va_P D vwCl (mm_W cf N a σ) H → va_S A s.heap H locs → lv_has ls n lv → W p l e R s m args below meth c H locs 0 0 Q (F0 m pc ls st)
def mm_L (K : mm_K) (l : Launch) : Prop := K.2.1 = l
/-- a method's contract over a world, out of its run -/
theorem mm_met {nw : List Cond} {l : Launch} {y : MethodName} {ws ws' : List Cond} {rm : Room} {cc : ByteArray} {maxL : Nat} {ret : Option FieldType} {own : String} {D : va_G} {cf : mm_F} {N : Nat} {a : Nat → Nat} {tys : List (ClassId × FieldType)} {σ : mm_M} {av : List Value} {lv : List (Nat × Value)} (Qc : Nat → Array Value → State → Outcome → State → Prop)
    (hJ : mm_J N a) (hy : plainName y.cls = true) (hw : ws = Cond.code y cc maxL ret :: ws') (hown : own = y.cls) (hlen : (lg_sl av).length ≤ maxL) (hlv : lv_args 0 av = lv)
    (body : ∀ K : mm_K, mm_L K l → mm_C nw K rm cc maxL ret ws own D N a tys → mm_H K N a Qc → mm_G K D cf N a σ 0 lv []) (sz : Nat) :
    Met l y ws rm (mm_P nw D cf N a tys σ av sz) (Qc sz) 0 0 (mm_A N a sz) := by
  refine Met.ofW (cc := cc) (maxL := maxL) (ret := ret) hy hw ?_
  intro p e s m args below meth c s₁ B hml hv
  obtain ⟨rfl, hsz, hP, hK, hN⟩ := hv
  have hts := atoms_spec (ws := ws) B.pre
  have ho : s.vm.findClass y.cls = some m.cls := findClass_of_methodNamed B.named
  subst hsz
  subst hown
  have hl := lv_entry av (n := maxL) hlen
  rw [lg_entry_eq]
  rw [hlv] at hl
  exact body (p, l, e, rm, s, m, av.toArray, below, meth, c, maxL, mm_A N a s.heap.size, MQ below (Qc s.heap.size) av.toArray s 0 0 (mm_A N a s.heap.size)) rfl ⟨⟨B.exec, B.bytes, hml, hts, ho, hK, hJ, fun k hk => Or.inl ⟨k, hk, rfl⟩, fun q hq => Or.inr hq, hN, B.returns, B.notSynchronized⟩, rfl, rfl⟩ ⟨rfl, rfl⟩ s.heap [] _ hP va_S.rf hl
