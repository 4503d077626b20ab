/-! ===== a memory: cells by numbers, slots by numbers; a world is such a memory at given addresses ===== -/
abbrev mm_M : Type := Nat → Nat → Int32
def mm_up (σ : mm_M) (c j : Nat) (v : Int32) : mm_M := fun c' => if c' = c then upd (σ c) j v else σ c'
abbrev mm_F : Type := (Nat → Nat) → Nat → (Nat → Int32) → va_E
def mm_W (cf : mm_F) (N : Nat) (a : Nat → Nat) (σ : mm_M) : va_W := (List.range N).map fun k => (a k, cf a k (σ k))
theorem mm_W_at {cf : mm_F} {N : Nat} {a : Nat → Nat} {σ : mm_M} {k : Nat} (hk : k < N) : (mm_W cf N a σ)[k]? = some (a k, cf a k (σ k)) := by
  simp [mm_W, hk]
theorem mm_W_lt {cf : mm_F} {N : Nat} {a : Nat → Nat} {σ : mm_M} {k : Nat} {q : Nat × va_E} (h : (mm_W cf N a σ)[k]? = some q) : k < N ∧ q = (a k, cf a k (σ k)) := by
  have hk : k < N := by
    have := (List.getElem?_eq_some_iff.mp h).1
    simpa [mm_W] using this
  rw [mm_W_at hk] at h
  exact ⟨hk, (Option.some.inj h).symm⟩
theorem mm_W_set {cf : mm_F} {N : Nat} {a : Nat → Nat} {σ : mm_M} {k j : Nat} {v : Int32} {e : va_E} (he : cf a k (upd (σ k) j v) = e) : (mm_W cf N a σ).set k (a k, e) = mm_W cf N a (mm_up σ k j v) := by
  apply List.ext_getElem?
  intro i
  by_cases hi : i < N
  · rw [mm_W_at hi]
    by_cases hk : k = i
    · subst hk
      rw [List.getElem?_set_self (by simpa [mm_W] using hi)]
      simp [mm_up, he]
    · rw [List.getElem?_set_ne hk, mm_W_at hi]
      simp [mm_up, Ne.symm hk]
  · rw [List.getElem?_eq_none (by simpa [mm_W] using hi), List.getElem?_eq_none (by simpa [mm_W] using hi)]
def mm_A (N : Nat) (a : Nat → Nat) (sz : Nat) : Nat → Prop := fun q => (∃ k, k < N ∧ q = a k) ∨ sz ≤ q
def mm_J (N : Nat) (a : Nat → Nat) : Prop := ∀ i j, i < N → j < N → a i = a j → i = j
theorem mm_D {cf : mm_F} {N : Nat} {a : Nat → Nat} {σ : mm_M} {A : Nat → Prop} (hJ : mm_J N a) (hA : ∀ k, k < N → A (a k)) : va_D A (mm_W cf N a σ) := by
  refine ⟨fun i j p q hi hj h => ?_, fun k q hk => ?_⟩
  · obtain ⟨h1, rfl⟩ := mm_W_lt hi
    obtain ⟨h2, rfl⟩ := mm_W_lt hj
    exact hJ i j h1 h2 h
  · obtain ⟨h1, rfl⟩ := mm_W_lt hk
    exact hA k h1
/-- the tables' words of nest mates -/
def mm_nst (w : Cond) : Bool := match w with
  | .fieldLinkNest _ _ _ _ _ _ => true
  | .methodLinkNest _ _ _ _ => true
  | _ => false
def mm_N (nw : List Cond) (U : State) : Prop := ∀ w ∈ nw, mm_nst w = true ∧ va_Nw w U
theorem mm_N.warm {nw : List Cond} {s U : State} (hW : s.WarmedH U.vm) (h : mm_N nw s) : mm_N nw U := by
  intro w hw
  obtain ⟨h1, h2⟩ := h w hw
  refine ⟨h1, ?_⟩
  cases w <;> first | exact va_Nw.warmM hW h2 | exact va_Nw.warmF hW h2 | cases h1
theorem mm_N.same {nw : List Cond} {u U : State} (hv : u.vm = U.vm) (h : mm_N nw u) : mm_N nw U := by
  intro w hw
  obtain ⟨h1, h2⟩ := h w hw
  refine ⟨h1, va_Nw.same ?_ hv h2⟩
  cases w <;> first | rfl | cases h1
/-- the start of a method over a world; its ends -/
def mm_P (nw : List Cond) (D : va_G) (cf : mm_F) (N : Nat) (a : Nat → Nat) (tys : List (ClassId × FieldType)) (σ : mm_M) (av : List Value) (sz : Nat) : Array Value → State → Prop := va_Pc av (fun U => U.heap.size = sz ∧ va_P D vwCl (mm_W cf N a σ) U.heap ∧ va_K D vwCl tys U ∧ mm_N nw U)
def mm_E (D : va_G) (cf : mm_F) (N : Nat) (a : Nat → Nat) (σ : mm_M) : Unit → State → Prop := fun _ t => va_P D vwCl (mm_W cf N a σ) t.heap
def mm_Qv (D : va_G) (cf : mm_F) (N : Nat) (a : Nat → Nat) (σ : mm_M) (sz : Nat) : Array Value → State → Outcome → State → Prop := va_Qv (fun (_ : Unit) => True) (mm_E D cf N a σ) (mm_A N a sz)
theorem mm_P.blind {nw : List Cond} {D : va_G} {cf : mm_F} {N : Nat} {a : Nat → Nat} {tys : List (ClassId × FieldType)} {σ : mm_M} {av : List Value} {sz : Nat} : FrameBlind (mm_P nw D cf N a tys σ av sz) := by
  intro ar U g mk h
  obtain ⟨q0, q1, qP, qK, qN⟩ := h
  exact ⟨q0, q1, qP, va_K.moved (u := U) (U := U.calling g mk ar) (Vm.Alike.refl U.vm) qK, mm_N.same (u := U) rfl qN⟩
/-- a run: the machine's parts, how many locals, what may change, what is to come -/
abbrev mm_K := Program × Launch × Env × Room × State × MethodId × Array Value × List Frame × Method × Code × Nat × (Nat → Prop) × (State → Prop)
/-- what holds all through a method's run -/
def mm_C (nw : List Cond) (K : mm_K) (R : Room) (cc : ByteArray) (n : Nat) (ret : Option FieldType) (Ts : List Cond) (own : String) (D : va_G) (N : Nat) (a : Nat → Nat) (tys : List (ClassId × FieldType)) : Prop :=
  match K with
  | (p, _, _, R0, s, m, args, _, meth, c, n0, A, _) => (p.tables.exec = Jvm.exec ∧ c.code = cc ∧ c.maxLocals = n0 ∧ (∀ w ∈ Ts, w.before args s = true) ∧ s.vm.findClass own = some m.cls ∧ va_K D vwCl tys s ∧ mm_J N a ∧ (∀ k, k < N → A (a k)) ∧ (∀ q, s.heap.size ≤ q → A q) ∧ mm_N nw s ∧ meth.sig.returnType = ret ∧ meth.locks = false) ∧ R0 = R ∧ n0 = n
/-- what is to come: the method's end -/
def mm_H (K : mm_K) (N : Nat) (a : Nat → Nat) (Qc : Nat → Array Value → State → Outcome → State → Prop) : Prop :=
  match K with
  | (_, _, _, _, s, _, args, below, _, _, _, A, Q) => A = mm_A N a s.heap.size ∧ Q = MQ below (Qc s.heap.size) args s 0 0 (mm_A N a s.heap.size)
/-- the machine, at a place of a method, over a world -/
def mm_G (K : mm_K) (D : va_G) (cf : mm_F) (N : Nat) (a : Nat → Nat) (σ : mm_M) (pc : Nat) (lv : List (Nat × Value)) (st : List Value) : Prop :=
  match K with
  | (p, l, e, R, s, m, args, below, meth, c, n, A, Q) => ∀ (H : Heap) (locs : List Loc) (ls : Array Slot), va_P D vwCl (mm_W cf N a σ) H → va_S A s.heap H locs → lv_has ls n lv → W p l e R s m args below meth c H locs 0 0 Q (F0 m pc ls st)
def mm_L (K : mm_K) (l : Launch) : Prop := K.2.1 = l
/-- a method's contract over a world, out of its run -/
theorem mm_met {nw : List Cond} {l : Launch} {y : MethodName} {ws ws' : List Cond} {rm : Room} {cc : ByteArray} {maxL : Nat} {ret : Option FieldType} {own : String} {D : va_G} {cf : mm_F} {N : Nat} {a : Nat → Nat} {tys : List (ClassId × FieldType)} {σ : mm_M} {av : List Value} {lv : List (Nat × Value)} (Qc : Nat → Array Value → State → Outcome → State → Prop)
    (hJ : mm_J N a) (hy : plainName y.cls = true) (hw : ws = Cond.code y cc maxL ret :: ws') (hown : own = y.cls) (hlen : (lg_sl av).length ≤ maxL) (hlv : lv_args 0 av = lv)
    (body : ∀ K : mm_K, mm_L K l → mm_C nw K rm cc maxL ret ws own D N a tys → mm_H K N a Qc → mm_G K D cf N a σ 0 lv []) (sz : Nat) :
    Met l y ws rm (mm_P nw D cf N a tys σ av sz) (Qc sz) 0 0 (mm_A N a sz) := by
  refine Met.ofW (cc := cc) (maxL := maxL) (ret := ret) hy hw ?_
  intro p e s m args below meth c s₁ B hml hv
  obtain ⟨rfl, hsz, hP, hK, hN⟩ := hv
  have hts := atoms_spec (ws := ws) B.pre
  have ho : s.vm.findClass y.cls = some m.cls := findClass_of_methodNamed B.named
  subst hsz
  subst hown
  have hl := lv_entry av (n := maxL) hlen
  rw [lg_entry_eq]
  rw [hlv] at hl
  exact body (p, l, e, rm, s, m, av.toArray, below, meth, c, maxL, mm_A N a s.heap.size, MQ below (Qc s.heap.size) av.toArray s 0 0 (mm_A N a s.heap.size)) rfl ⟨⟨B.exec, B.bytes, hml, hts, ho, hK, hJ, fun k hk => Or.inl ⟨k, hk, rfl⟩, fun q hq => Or.inr hq, hN, B.returns, B.notSynchronized⟩, rfl, rfl⟩ ⟨rfl, rfl⟩ s.heap [] _ hP va_S.rf hl
section MMR
variable {nw : List Cond} {K : mm_K} {l : Launch} {R : Room} {n : Nat} {D : va_G} {cf : mm_F} {N : Nat} {a : Nat → Nat} {σ : mm_M} {pc : Nat} {lv : List (Nat × Value)} {rest : List Value} {cc : ByteArray} {ret : Option FieldType} {Ts : List Cond} {own : String} {tys : List (ClassId × FieldType)}
theorem mm_iconst (X : mm_C nw K R cc n ret Ts own D N a tys) {z : Int} {v : Int32} (hd : decode cc pc = .ok (.iconst z, 1)) (hv : Int32.ofInt z = v) (k : mm_G K D cf N a σ (pc + 1) lv (.int v :: rest)) : mm_G K D cf N a σ pc lv rest := by
  obtain ⟨p, l, e, R0, s, m, args, below, meth, c, n0, A, Q⟩ := K
  obtain ⟨⟨hx, hb, hml, hts, hown, hK, hJ, hA1, hA2, hN, hrt, hlk⟩, rfl, rfl⟩ := X
  intro H locs ls hP hS hl
  exact lv_iconst hx hb hd hv (k H locs ls hP hS hl)
theorem mm_iload_n (X : mm_C nw K R cc n ret Ts own D N a tys) {i : Fin 4} {x : Int32} (hd : decode cc pc = .ok (.iload_n i, 1)) (j : Nat) (hj : lv[j]? = some ((i : Nat), .int x)) (k : mm_G K D cf N a σ (pc + 1) lv (.int x :: rest)) : mm_G K D cf N a σ pc lv rest := by
  obtain ⟨p, l, e, R0, s, m, args, below, meth, c, n0, A, Q⟩ := K
  obtain ⟨⟨hx, hb, hml, hts, hown, hK, hJ, hA1, hA2, hN, hrt, hlk⟩, rfl, rfl⟩ := X
  intro H locs ls hP hS hl
  exact lv_iload_n hx hb hd rfl (lv_at hl j hj) (k H locs ls hP hS hl)
theorem mm_aload_n (X : mm_C nw K R cc n ret Ts own D N a tys) {i : Fin 4} {x : Nat} (hd : decode cc pc = .ok (.aload_n i, 1)) (j : Nat) (hj : lv[j]? = some ((i : Nat), .ref x)) (k : mm_G K D cf N a σ (pc + 1) lv (.ref x :: rest)) : mm_G K D cf N a σ pc lv rest := by
  obtain ⟨p, l, e, R0, s, m, args, below, meth, c, n0, A, Q⟩ := K
  obtain ⟨⟨hx, hb, hml, hts, hown, hK, hJ, hA1, hA2, hN, hrt, hlk⟩, rfl, rfl⟩ := X
  intro H locs ls hP hS hl
  exact lv_aload_n hx hb hd rfl (lv_at hl j hj) (k H locs ls hP hS hl)
theorem mm_istore_n (X : mm_C nw K R cc n ret Ts own D N a tys) {i : Fin 4} {x : Int32} {lv2 : List (Nat × Value)} (hd : decode cc pc = .ok (.istore_n i, 1)) (hn : (i : Nat) < n) (hv : ((i : Nat), Value.int x) :: lv.filter (fun q => !(q.1 == (i : Nat)) && !(q.1 + 1 == (i : Nat) && q.2.category == 2)) = lv2) (k : mm_G K D cf N a σ (pc + 1) lv2 rest) : mm_G K D cf N a σ pc lv (.int x :: rest) := by
  obtain ⟨p, l, e, R0, s, m, args, below, meth, c, n0, A, Q⟩ := K
  obtain ⟨⟨hx, hb, hml, hts, hown, hK, hJ, hA1, hA2, hN, hrt, hlk⟩, rfl, rfl⟩ := X
  intro H locs ls hP hS hl
  exact lv_istore_n hx hb hd rfl hl hn hv (fun ls2 h2 => k H locs ls2 hP hS h2)
theorem mm_iinc (X : mm_C nw K R cc n ret Ts own D N a tys) {i : Nat} {z : Int} {x v : Int32} {lv2 : List (Nat × Value)} (hd : decode cc pc = .ok (.iinc i z, 3)) (j : Nat) (hj : lv[j]? = some (i, .int x)) (hz : x + Int32.ofInt z = v) (hn : i < n) (hv : (i, Value.int v) :: lv.filter (fun q => !(q.1 == i) && !(q.1 + 1 == i && q.2.category == 2)) = lv2) (k : mm_G K D cf N a σ (pc + 3) lv2 rest) : mm_G K D cf N a σ pc lv rest := by
  obtain ⟨p, l, e, R0, s, m, args, below, meth, c, n0, A, Q⟩ := K
  obtain ⟨⟨hx, hb, hml, hts, hown, hK, hJ, hA1, hA2, hN, hrt, hlk⟩, rfl, rfl⟩ := X
  intro H locs ls hP hS hl
  exact lv_iinc hx hb hd hl hj hz hn hv (fun ls2 h2 => k H locs ls2 hP hS h2)
theorem mm_icmp_ge (X : mm_C nw K R cc n ret Ts own D N a tys) {x y : Int32} {off : Int} {tgt : Nat} (hd : decode cc pc = .ok (.if_icmp .ge off, 3)) (ht : (pc : Int) + off = (tgt : Int)) (kt : ¬ x < y → mm_G K D cf N a σ tgt lv rest) (kf : x < y → mm_G K D cf N a σ (pc + 3) lv rest) : mm_G K D cf N a σ pc lv (.int y :: .int x :: rest) := by
  obtain ⟨p, l, e, R0, s, m, args, below, meth, c, n0, A, Q⟩ := K
  obtain ⟨⟨hx, hb, hml, hts, hown, hK, hJ, hA1, hA2, hN, hrt, hlk⟩, rfl, rfl⟩ := X
  intro H locs ls hP hS hl
  exact lv_icmp_ge hx hb hd ht (fun h => kt (Int32.not_lt.mpr h) H locs ls hP hS hl) (fun h => kf (Int32.not_le.mp h) H locs ls hP hS hl)
theorem mm_goto (X : mm_C nw K R cc n ret Ts own D N a tys) {off : Int} {tgt : Nat} (hd : decode cc pc = .ok (.goto off, 3)) (ht : (pc : Int) + off = (tgt : Int)) (k : mm_G K D cf N a σ tgt lv rest) : mm_G K D cf N a σ pc lv rest := by
  obtain ⟨p, l, e, R0, s, m, args, below, meth, c, n0, A, Q⟩ := K
  obtain ⟨⟨hx, hb, hml, hts, hown, hK, hJ, hA1, hA2, hN, hrt, hlk⟩, rfl, rfl⟩ := X
  intro H locs ls hP hS hl
  exact lv_goto hx hb hd ht (k H locs ls hP hS hl)
theorem mm_get (X : mm_C nw K R cc n ret Ts own D N a tys) {ref C : String} {T : u_T} {M ci index : Nat} (hd : decode cc pc = .ok (.getfield index, 3)) (o j : Nat) (ho : o < N) {fs : List Value} (he : cf a o (σ o) = .inr (ci, fs)) (hc : vwCl[ci]? = some (C, T, M)) (hj : j < M) (hin : ∀ w ∈ u_ws C T M, w ∈ Ts) (hlink : (Cond.fieldLink own index ref (T j).2.1 (T j).2.2.1) ∈ Ts) (hsame : (T j).1 = ref) {v : Value} (hv : fs[j]? = some v) (k : mm_G K D cf N a σ (pc + 3) lv (v :: rest)) : mm_G K D cf N a σ pc lv (.ref (a o) :: rest) := by
  obtain ⟨p, l, e, R0, s, m, args, below, meth, c, n0, A, Q⟩ := K
  obtain ⟨⟨hx, hb, hml, hts, hown, hK, hJ, hA1, hA2, hN, hrt, hlk⟩, rfl, rfl⟩ := X
  intro H locs ls hP hS hl
  exact va_get hx hb hts hin hown hK hP o ((mm_W_at ho).trans (by rw [he])) hc j hj (hts _ hlink) (fun x h => by rw [← hsame]; exact h) hv hd (k H locs ls hP hS hl)
theorem mm_iast (X : mm_C nw K R cc n ret Ts own D N a tys) {cA : ClassId} {M : Nat} {i x : Int32} (hd : decode cc pc = .ok (.iastore, 1)) (o t : Nat) (ho : o < N) (he : ∀ f : Nat → Int32, cf a o f = .inl (cA, M, .inl f)) (ht : tys[t]? = some (cA, .int)) (hi : ¬ (i < 0 ∨ M ≤ i.toNatClampNeg)) (k : mm_G K D cf N a (mm_up σ o i.toNatClampNeg x) (pc + 1) lv rest) : mm_G K D cf N a σ pc lv (.int x :: .int i :: .ref (a o) :: rest) := by
  obtain ⟨p, l, e, R0, s, m, args, below, meth, c, n0, A, Q⟩ := K
  obtain ⟨⟨hx, hb, hml, hts, hown, hK, hJ, hA1, hA2, hN, hrt, hlk⟩, rfl, rfl⟩ := X
  intro H locs ls hP hS hl
  refine va_iast hx hb hK hP (mm_D hJ hA1) hS o t ((mm_W_at ho).trans (by rw [he])) ht hi hd (fun H1 locs1 hP1 hD1 hS1 => ?_)
  rw [mm_W_set (he _)] at hP1
  exact k H1 locs1 ls hP1 hS1 hl
theorem mm_alen (X : mm_C nw K R cc n ret Ts own D N a tys) {cA : ClassId} {M : Nat} {v : Int32} {f : Nat → Int32} {ty : FieldType} (hd : decode cc pc = .ok (.arraylength, 1)) (o t : Nat) (ho : o < N) (he : cf a o (σ o) = .inl (cA, M, .inl f)) (ht : tys[t]? = some (cA, ty)) (hv : Int32.ofNat M = v) (k : mm_G K D cf N a σ (pc + 1) lv (.int v :: rest)) : mm_G K D cf N a σ pc lv (.ref (a o) :: rest) := by
  obtain ⟨p, l, e, R0, s, m, args, below, meth, c, n0, A, Q⟩ := K
  obtain ⟨⟨hx, hb, hml, hts, hown, hK, hJ, hA1, hA2, hN, hrt, hlk⟩, rfl, rfl⟩ := X
  intro H locs ls hP hS hl
  exact va_alen hx hb hK hP o t ((mm_W_at ho).trans (by rw [he])) ht hv hd (k H locs ls hP hS hl)
end MMR
section MMK
variable {nw : List Cond} {K : mm_K} {l : Launch} {R : Room} {n : Nat} {D : va_G} {cf : mm_F} {N : Nat} {a : Nat → Nat} {σ σ2 : mm_M} {pc : Nat} {lv : List (Nat × Value)} {rest : List Value} {cc : ByteArray} {ret : Option FieldType} {Ts : List Cond} {own : String} {tys : List (ClassId × FieldType)}
variable {y : MethodName} {ws ws' : List Cond} {bytes : ByteArray} {maxL index : Nat} {rety : Option FieldType} {rm : Room} {C : String}
theorem mm_vret (X : mm_C nw K R cc n ret Ts own D N a tys) (hd : decode cc pc = .ok (.return_, 1)) (hr : ret = none) (hQ : mm_H K N a (fun sz => mm_Qv D cf N a σ sz)) : mm_G K D cf N a σ pc lv [] := by
  obtain ⟨p, l, e, R0, s, m, args, below, meth, c, n0, A, Q⟩ := K
  obtain ⟨⟨hx, hb, hml, hts, hown, hK, hJ, hA1, hA2, hN, hrt, hlk⟩, rfl, rfl⟩ := X
  intro H locs ls hP hS hl
  obtain ⟨rfl, rfl⟩ := hQ
  exact W.vret hx hb (hrt.trans hr) (fun t ht hW => ⟨⟨(), rfl, trivial, by show va_P _ _ _ t.heap; rw [ht]; exact hP⟩, hS.F ht⟩) hS.2.2 hd hlk
end MMK
/-! ===== the class: cells 0 to 6 its objects, 7 to 32 the arrays of its rows, 33 to 58 the rows (a row is its array + 26) ===== -/
def dv_len (k : Nat) : Nat := [8, 8, 8, 8, 8, 100, 100, 100, 100, 100, 100, 12, 12, 12, 64, 2048, 67, 10, 4, 3, 12, 84, 7, 4, 4, 240].getD (k - 7) 0
def dv_cf (cI : ClassId) : mm_F := fun a k f => if 33 ≤ k then .inr (4, [.ref (a (k - 26))]) else if 7 ≤ k then .inl (cI, dv_len k, .inl f) else match k with
  | 0 => .inr (7, [.ref (a 1), .ref (a 2), .ref (a 3), .ref (a 4), .ref (a 5), .ref (a 6), .int (f 6)])
  | 1 => .inr (1, [.int (f 0), .ref (a 33), .ref (a 34), .ref (a 35), .ref (a 36), .ref (a 37)])
  | 2 => .inr (2, [.int (f 0), .ref (a 38), .ref (a 39), .ref (a 40), .ref (a 41), .ref (a 42), .ref (a 43)])
  | 3 => .inr (6, [.ref (a 1), .int (f 1), .ref (a 44), .ref (a 45), .ref (a 46)])
  | 4 => .inr (3, [.ref (a 3), .ref (a 47), .ref (a 48)])
  | 5 => .inr (0, [.ref (a 1), .ref (a 3), .int (f 2), .int (f 3), .int (f 4), .int (f 5), .int (f 6), .int (f 7), .int (f 8), .ref (a 49), .ref (a 50), .ref (a 51), .ref (a 52), .ref (a 53), .ref (a 54), .ref (a 55)])
  | _ => .inr (5, [.ref (a 56), .ref (a 57), .ref (a 58)])
def mm_nw : List Cond := [.fieldLinkNest "LinenTunnel" 65 "LinenTunnel$Kinds" "number" "I" "LinenTunnel", .fieldLinkNest "LinenTunnel$House" 147 "LinenTunnel$Kinds" "colour" "LLinenTunnel$Row;" "LinenTunnel", .fieldLinkNest "LinenTunnel$House" 117 "LinenTunnel$Kinds" "dry" "LLinenTunnel$Row;" "LinenTunnel", .fieldLinkNest "LinenTunnel$House" 161 "LinenTunnel$Kinds" "iron" "LLinenTunnel$Row;" "LinenTunnel", .fieldLinkNest "LinenTunnel" 79 "LinenTunnel$Linen" "number" "I" "LinenTunnel", .fieldLinkNest "LinenTunnel" 86 "LinenTunnel$Linen" "kind" "LLinenTunnel$Row;" "LinenTunnel", .fieldLinkNest "LinenTunnel" 96 "LinenTunnel$Linen" "owner" "LLinenTunnel$Row;" "LinenTunnel", .fieldLinkNest "LinenTunnel" 99 "LinenTunnel$Linen" "chip" "LLinenTunnel$Row;" "LinenTunnel", .fieldLinkNest "LinenTunnel" 102 "LinenTunnel$Linen" "place" "LLinenTunnel$Row;" "LinenTunnel", .fieldLinkNest "LinenTunnel" 105 "LinenTunnel$Linen" "washes" "LLinenTunnel$Row;" "LinenTunnel", .fieldLinkNest "LinenTunnel" 108 "LinenTunnel$Linen" "batch" "LLinenTunnel$Row;" "LinenTunnel", .fieldLinkNest "LinenTunnel$Planner" 33 "LinenTunnel$Waiting" "number" "I" "LinenTunnel", .fieldLinkNest "LinenTunnel$House" 79 "LinenTunnel$Waiting" "number" "I" "LinenTunnel", .fieldLinkNest "LinenTunnel" 147 "LinenTunnel$Waiting" "number" "I" "LinenTunnel", .fieldLinkNest "LinenTunnel$House" 107 "LinenTunnel$Waiting" "kind" "LLinenTunnel$Row;" "LinenTunnel", .fieldLinkNest "LinenTunnel" 166 "LinenTunnel$Waiting" "kind" "LLinenTunnel$Row;" "LinenTunnel", .fieldLinkNest "LinenTunnel$House" 100 "LinenTunnel$Waiting" "size" "LLinenTunnel$Row;" "LinenTunnel", .fieldLinkNest "LinenTunnel" 160 "LinenTunnel$Waiting" "size" "LLinenTunnel$Row;" "LinenTunnel", .fieldLinkNest "LinenTunnel$Planner" 43 "LinenTunnel$Waiting" "order" "LLinenTunnel$Row;" "LinenTunnel", .fieldLinkNest "LinenTunnel$House" 97 "LinenTunnel$Waiting" "order" "LLinenTunnel$Row;" "LinenTunnel", .fieldLinkNest "LinenTunnel" 157 "LinenTunnel$Waiting" "order" "LLinenTunnel$Row;" "LinenTunnel", .fieldLinkNest "LinenTunnel" 190 "LinenTunnel$House" "compartments" "I" "LinenTunnel", .fieldLinkNest "LinenTunnel" 193 "LinenTunnel$House" "dryers" "I" "LinenTunnel", .fieldLinkNest "LinenTunnel" 196 "LinenTunnel$House" "irons" "I" "LinenTunnel", .fieldLinkNest "LinenTunnel" 240 "LinenTunnel$House" "washes" "I" "LinenTunnel", .fieldLinkNest "LinenTunnel" 205 "LinenTunnel$House" "totals" "LLinenTunnel$Row;" "LinenTunnel", .fieldLinkNest "LinenTunnel" 229 "LinenTunnel$Sheets" "form" "LLinenTunnel$Row;" "LinenTunnel", .fieldLinkNest "LinenTunnel" 221 "LinenTunnel$Sheets" "size" "LLinenTunnel$Row;" "LinenTunnel", .methodLinkNest "LinenTunnel" 11 ⟨"LinenTunnel$Kinds", "<init>", "()V"⟩ "LinenTunnel", .methodLinkNest "LinenTunnel" 18 ⟨"LinenTunnel$Linen", "<init>", "()V"⟩ "LinenTunnel"]
/-! ===== the reference: cell 0 its object, 1 to 28 its arrays ===== -/
def md_len (k : Nat) : Nat := [0, 8, 8, 8, 8, 8, 100, 100, 100, 100, 100, 100, 12, 12, 240, 12, 3072, 100, 10, 4, 3, 7, 84, 12, 4, 4, 4, 240, 60].getD k 0
def md_cf (cI cZ : ClassId) : mm_F := fun a k f => if k = 0 then .inr (8, [.int (f 0), .ref (a 1), .ref (a 2), .ref (a 3), .ref (a 4), .ref (a 5), .int (f 6), .ref (a 6), .ref (a 7), .ref (a 8), .ref (a 9), .ref (a 10), .ref (a 11), .int (f 13), .ref (a 12), .ref (a 13), .ref (a 14), .ref (a 15), .int (f 18), .int (f 19), .int (f 20), .int (f 21), .ref (a 16), .ref (a 17), .ref (a 18), .ref (a 19), .ref (a 20), .ref (a 21), .int (f 28), .ref (a 22), .ref (a 23), .ref (a 24), .ref (a 25), .ref (a 26), .ref (a 27), .ref (a 28), .int (f 36)]) else if k = 3 ∨ k = 8 ∨ k = 24 then .inl (cZ, md_len k, .inl f) else .inl (cI, md_len k, .inl f)
/-! ===== the rows ===== -/
theorem mm_in {i : Int32} {n : Nat} (h1 : ¬ i < 0) (h2 : i < nI n) (hn : n < 2 ^ 31) : ¬ (i < 0 ∨ n ≤ i.toNatClampNeg) := by
  rintro (h | h)
  · exact h1 h
  · rw [Int32.lt_iff_toInt_lt, nI_toInt hn] at h2
    rw [Int32.lt_iff_toInt_lt, Int32.toInt_zero] at h1
    rw [← Int32.toNat_toInt] at h
    omega
def dr_fk (σ : mm_M) (j k : Nat) (v : Int32) : mm_M := fun c => if c = j then (fun i => if i < k then v else σ j i) else σ c
theorem dr_fk_0 {σ : mm_M} {j : Nat} {v : Int32} : dr_fk σ j 0 v = σ := by
  funext c
  unfold dr_fk
  split
  · subst_vars
    rfl
  · rfl
theorem dr_fk_s {σ : mm_M} {j k : Nat} {v : Int32} : mm_up (dr_fk σ j k v) j k v = dr_fk σ j (k + 1) v := by
  funext c
  unfold mm_up dr_fk upd
  by_cases hc : c = j
  · subst hc
    simp only [if_true]
    funext i
    by_cases hi : i = k
    · subst hi
      simp
    · by_cases h2 : i < k
      · simp [hi, h2, Nat.lt_succ_of_lt h2]
      · have h3 : ¬ i < k + 1 := by omega
        simp [hi, h2, h3]
  · simp [hc]
abbrev rX4_fill : Room := { frames := 0, cells := 0, slots := 0, locals := 0 }
theorem hyX4_fill : yX4_fill.cls = RX4 ∧ yX4_fill.cls ≠ "java/lang/invoke/MethodHandle" ∧ yX4_fill.cls ≠ "java/lang/invoke/VarHandle" ∧ (parseMethodDescriptor yX4_fill.desc).map (fun d => d.parameters.length) = some 1 := by decide +kernel
theorem kX4_fill : (Cond.fieldLink RX4 7 "LinenTunnel$Row" "items" "[I" : Cond) ∈ wsX4_fill := List.mem_of_getElem? (i := 1) rfl
theorem uX4_fill : ∀ w ∈ u_ws RX4 TX4 1, w ∈ wsX4_fill := fun _ h => (List.mem_cons_of_mem _ (List.mem_append_right _ h))
/-! ===== constructors: a world that grows ===== -/
def gg_D (E : Method → Prop) (nw : List Cond) (K : mm_K) (R : Room) (cc : ByteArray) (n : Nat) (Ts : List Cond) (own : String) (D : va_G) (tys : List (ClassId × FieldType)) : Prop :=
  match K with
  | (p, _, _, R0, s, m, args, _, meth, c, n0, A, _) => (p.tables.exec = Jvm.exec ∧ c.code = cc ∧ c.maxLocals = n0 ∧ (∀ w ∈ Ts, w.before args s = true) ∧ s.vm.findClass own = some m.cls ∧ va_K D vwCl tys s ∧ (∀ q, s.heap.size ≤ q → A q) ∧ mm_N nw s ∧ E meth) ∧ R0 = R ∧ n0 = n
def gg_E (meth : Method) : Prop := meth.sig.returnType = none ∧ meth.locks = false ∧ meth.name = "<init>"
abbrev gg_C (nw : List Cond) (K : mm_K) (R : Room) (cc : ByteArray) (n : Nat) (Ts : List Cond) (own : String) (D : va_G) (tys : List (ClassId × FieldType)) : Prop := gg_D gg_E nw K R cc n Ts own D tys
def gg_G (K : mm_K) (D : va_G) (ws : va_W) (cells slots : Nat) (pc : Nat) (lv : List (Nat × Value)) (st : List Value) : Prop :=
  match K with
  | (p, l, e, R, s, m, args, below, meth, c, n, A, Q) => ∀ (H : Heap) (locs : List Loc) (ls : Array Slot), va_P D vwCl ws H → va_D A ws → va_S A s.heap H locs → lv_has ls n lv → W p l e R s m args below meth c H locs cells slots Q (F0 m pc ls st)
/-- a constructor's start: its object; its end: the cells of a world of its own, at addresses that come with it -/
def gg_P (nw : List Cond) (D : va_G) (tys : List (ClassId × FieldType)) (w0 : va_W) (av : List Value) (sz : Nat) : Array Value → State → Prop := va_Pc av (fun U => U.heap.size = sz ∧ va_P D vwCl w0 U.heap ∧ va_D (fun _ => True) w0 ∧ va_K D vwCl tys U ∧ mm_N nw U)
def gg_Q (D : va_G) (w0 : va_W) (h0 : Nat) (cf : mm_F) (N : Nat) (σ : mm_M) (sz : Nat) : Array Value → State → Outcome → State → Prop := va_Qv (fun a : Nat → Nat => a 0 = h0) (fun a t => va_P D vwCl (mm_W cf N a σ) t.heap ∧ va_D (va_A w0 sz) (mm_W cf N a σ)) (va_A w0 sz)
def gg_H (K : mm_K) (w0 : va_W) (Qc : Nat → Array Value → State → Outcome → State → Prop) (mc ms : Nat) : Prop :=
  match K with
  | (_, _, _, _, s, _, args, below, _, _, _, A, Q) => A = va_A w0 s.heap.size ∧ Q = MQ below (Qc s.heap.size) args s mc ms (va_A w0 s.heap.size)
theorem gg_P.blind {nw : List Cond} {D : va_G} {tys : List (ClassId × FieldType)} {w0 : va_W} {av : List Value} {sz : Nat} : FrameBlind (gg_P nw D tys w0 av sz) := by
  intro ar U g mk h
  obtain ⟨q0, q1, qP, qD, qK, qN⟩ := h
  exact ⟨q0, q1, qP, qD, va_K.moved (u := U) (U := U.calling g mk ar) (Vm.Alike.refl U.vm) qK, mm_N.same (u := U) rfl qN⟩
theorem gg_met {nw : List Cond} {l : Launch} {y : MethodName} {ws ws' : List Cond} {rm : Room} {cc : ByteArray} {maxL : Nat} {own : String} {D : va_G} {tys : List (ClassId × FieldType)} {w0 : va_W} {mc ms : Nat} {av : List Value} {lv : List (Nat × Value)} (Qc : Nat → Array Value → State → Outcome → State → Prop)
    (hy : plainName y.cls = true) (hyn : y.name = "<init>") (hw : ws = Cond.code y cc maxL none :: ws') (hown : own = y.cls) (hlen : (lg_sl av).length ≤ maxL) (hlv : lv_args 0 av = lv)
    (body : ∀ K : mm_K, mm_L K l → gg_C nw K rm cc maxL ws own D tys → gg_H K w0 Qc mc ms → gg_G K D w0 0 0 0 lv []) (sz : Nat) :
    Met l y ws rm (gg_P nw D tys w0 av sz) (Qc sz) mc ms (va_A w0 sz) := by
  refine Met.ofW (cc := cc) (maxL := maxL) (ret := none) hy hw ?_
  intro p e s m args below meth c s₁ B hml hv
  obtain ⟨rfl, hsz, hP, hD, hK, hN⟩ := hv
  have hts := atoms_spec (ws := ws) B.pre
  have ho : s.vm.findClass y.cls = some m.cls := findClass_of_methodNamed B.named
  have hin : meth.name = y.name := (name_of_methodNamed B.named B.method).1
  subst hsz
  subst hown
  have hl := lv_entry av (n := maxL) hlen
  rw [lg_entry_eq]
  rw [hlv] at hl
  exact body (p, l, e, rm, s, m, av.toArray, below, meth, c, maxL, va_A w0 s.heap.size, MQ below (Qc s.heap.size) av.toArray s mc ms (va_A w0 s.heap.size)) rfl ⟨⟨B.exec, B.bytes, hml, hts, ho, hK, fun q hq => Or.inr hq, hN, B.returns, B.notSynchronized, hin.trans hyn⟩, rfl, rfl⟩ ⟨rfl, rfl⟩ s.heap [] _ hP hD.self va_S.rf hl
theorem gg_RA {U : State} {cA : ClassId} {ty : FieldType} (hno : ∀ C, ty ≠ .object C) (h : va_RA U cA ty) : U.vm.findClass ("[" ++ ty.toString) = some cA := by
  cases ty <;> first | exact h | exact absurd rfl (hno _)
section GGR
variable {E : Method → Prop} {nw : List Cond} {K : mm_K} {l : Launch} {R : Room} {n : Nat} {D : va_G} {ws : va_W} {cells slots pc : Nat} {lv : List (Nat × Value)} {rest : List Value} {cc : ByteArray} {Ts : List Cond} {own : String} {tys : List (ClassId × FieldType)}
theorem gg_iconst (X : gg_D E nw K R cc n Ts own D tys) {z : Int} {v : Int32} (hd : decode cc pc = .ok (.iconst z, 1)) (hv : Int32.ofInt z = v) (k : gg_G K D ws cells slots (pc + 1) lv (.int v :: rest)) : gg_G K D ws cells slots pc lv rest := by
  obtain ⟨p, l, e, R0, s, m, args, below, meth, c, n0, A, Q⟩ := K
  obtain ⟨⟨hx, hb, hml, hts, hown, hK, hA2, hN, hE⟩, rfl, rfl⟩ := X
  intro H locs ls hP hD hS hl
  exact lv_iconst hx hb hd hv (k H locs ls hP hD hS hl)
theorem gg_bipush (X : gg_D E nw K R cc n Ts own D tys) {z : Int} {v : Int32} (hd : decode cc pc = .ok (.bipush z, 2)) (hv : (Int8.ofInt z).toInt32 = v) (k : gg_G K D ws cells slots (pc + 2) lv (.int v :: rest)) : gg_G K D ws cells slots pc lv rest := by
  obtain ⟨p, l, e, R0, s, m, args, below, meth, c, n0, A, Q⟩ := K
  obtain ⟨⟨hx, hb, hml, hts, hown, hK, hA2, hN, hE⟩, rfl, rfl⟩ := X
  intro H locs ls hP hD hS hl
  exact lv_bipush hx hb hd hv (k H locs ls hP hD hS hl)
theorem gg_sipush (X : gg_D E nw K R cc n Ts own D tys) {z : Int} {v : Int32} (hd : decode cc pc = .ok (.sipush z, 3)) (hv : (Int16.ofInt z).toInt32 = v) (k : gg_G K D ws cells slots (pc + 3) lv (.int v :: rest)) : gg_G K D ws cells slots pc lv rest := by
  obtain ⟨p, l, e, R0, s, m, args, below, meth, c, n0, A, Q⟩ := K
  obtain ⟨⟨hx, hb, hml, hts, hown, hK, hA2, hN, hE⟩, rfl, rfl⟩ := X
  intro H locs ls hP hD hS hl
  exact lv_sipush hx hb hd hv (k H locs ls hP hD hS hl)
theorem gg_iload_n (X : gg_D E nw K R cc n Ts own D tys) {i : Fin 4} {x : Int32} (hd : decode cc pc = .ok (.iload_n i, 1)) (j : Nat) (hj : lv[j]? = some ((i : Nat), .int x)) (k : gg_G K D ws cells slots (pc + 1) lv (.int x :: rest)) : gg_G K D ws cells slots pc lv rest := by
  obtain ⟨p, l, e, R0, s, m, args, below, meth, c, n0, A, Q⟩ := K
  obtain ⟨⟨hx, hb, hml, hts, hown, hK, hA2, hN, hE⟩, rfl, rfl⟩ := X
  intro H locs ls hP hD hS hl
  exact lv_iload_n hx hb hd rfl (lv_at hl j hj) (k H locs ls hP hD hS hl)
theorem gg_aload_n (X : gg_D E nw K R cc n Ts own D tys) {i : Fin 4} {x : Nat} (hd : decode cc pc = .ok (.aload_n i, 1)) (j : Nat) (hj : lv[j]? = some ((i : Nat), .ref x)) (k : gg_G K D ws cells slots (pc + 1) lv (.ref x :: rest)) : gg_G K D ws cells slots pc lv rest := by
  obtain ⟨p, l, e, R0, s, m, args, below, meth, c, n0, A, Q⟩ := K
  obtain ⟨⟨hx, hb, hml, hts, hown, hK, hA2, hN, hE⟩, rfl, rfl⟩ := X
  intro H locs ls hP hD hS hl
  exact lv_aload_n hx hb hd rfl (lv_at hl j hj) (k H locs ls hP hD hS hl)
theorem gg_astore_n (X : gg_D E nw K R cc n Ts own D tys) {i : Fin 4} {x : Nat} {lv2 : List (Nat × Value)} (hd : decode cc pc = .ok (.astore_n i, 1)) (hn : (i : Nat) < n) (hv : ((i : Nat), Value.ref x) :: lv.filter (fun q => !(q.1 == (i : Nat)) && !(q.1 + 1 == (i : Nat) && q.2.category == 2)) = lv2) (k : gg_G K D ws cells slots (pc + 1) lv2 rest) : gg_G K D ws cells slots pc lv (.ref x :: rest) := by
  obtain ⟨p, l, e, R0, s, m, args, below, meth, c, n0, A, Q⟩ := K
  obtain ⟨⟨hx, hb, hml, hts, hown, hK, hA2, hN, hE⟩, rfl, rfl⟩ := X
  intro H locs ls hP hD hS hl
  exact lv_astore_n hx hb hd rfl hl hn hv (fun ls2 h2 => k H locs ls2 hP hD hS h2)
theorem gg_dup (X : gg_D E nw K R cc n Ts own D tys) {v : Value} (hd : decode cc pc = .ok (.dup, 1)) (hc : v.category = 1) (k : gg_G K D ws cells slots (pc + 1) lv (v :: v :: rest)) : gg_G K D ws cells slots pc lv (v :: rest) := by
  obtain ⟨p, l, e, R0, s, m, args, below, meth, c, n0, A, Q⟩ := K
  obtain ⟨⟨hx, hb, hml, hts, hown, hK, hA2, hN, hE⟩, rfl, rfl⟩ := X
  intro H locs ls hP hD hS hl
  exact lv_dup hx hb hd hc (k H locs ls hP hD hS hl)
theorem gg_goto (X : gg_D E nw K R cc n Ts own D tys) {off : Int} {tgt : Nat} (hd : decode cc pc = .ok (.goto off, 3)) (ht : (pc : Int) + off = (tgt : Int)) (k : gg_G K D ws cells slots tgt lv rest) : gg_G K D ws cells slots pc lv rest := by
  obtain ⟨p, l, e, R0, s, m, args, below, meth, c, n0, A, Q⟩ := K
  obtain ⟨⟨hx, hb, hml, hts, hown, hK, hA2, hN, hE⟩, rfl, rfl⟩ := X
  intro H locs ls hP hD hS hl
  exact lv_goto hx hb hd ht (k H locs ls hP hD hS hl)
theorem gg_if_leF (X : gg_D E nw K R cc n Ts own D tys) {x : Int32} {off : Int} {tgt : Nat} (hd : decode cc pc = .ok (.ifCond .le off, 3)) (ht : (pc : Int) + off = (tgt : Int)) (hf : ¬ x ≤ 0) (k : gg_G K D ws cells slots (pc + 3) lv rest) : gg_G K D ws cells slots pc lv (.int x :: rest) := by
  obtain ⟨p, l, e, R0, s, m, args, below, meth, c, n0, A, Q⟩ := K
  obtain ⟨⟨hx, hb, hml, hts, hown, hK, hA2, hN, hE⟩, rfl, rfl⟩ := X
  intro H locs ls hP hD hS hl
  exact lv_if_le hx hb hd ht (fun h => absurd h hf) (fun _ => k H locs ls hP hD hS hl)
theorem gg_obj (X : gg_D E nw K R cc n Ts own D tys) {b idx : Nat} (hd : decode cc pc = .ok (.invokespecial idx, 3)) (h1 : Cond.methodLink own idx objectInit ∈ Ts) (h2 : Cond.instanceMethod objectInit ∈ Ts) (h3 : Cond.code objectInit ⟨#[0xb1]⟩ 1 none ∈ Ts) (hf : 1 ≤ R.frames) (hlo : 12 ≤ R.locals) (k : gg_G K D ws cells slots (pc + 3) lv []) : gg_G K D ws cells slots pc lv [.ref b] := by
  obtain ⟨p, l, e, R0, s, m, args, below, meth, c, n0, A, Q⟩ := K
  obtain ⟨⟨hx, hb, hml, hts, hown, hK, hA2, hN, hE⟩, rfl, rfl⟩ := X
  intro H locs ls hP hD hS hl
  refine W.objInit hx hb hown (hts _ h1) (hts _ h2) (hts _ h3) rfl (by rw [hml]; exact hl.1) rfl hd hf hlo ?_
  exact W.eq (g2 := F0 m (pc + 3) ls []) rfl (k H locs ls hP hD hS hl)
theorem gg_get (X : gg_D E nw K R cc n Ts own D tys) {ref C : String} {T : u_T} {M ci index : Nat} {b : Nat} (hd : decode cc pc = .ok (.getfield index, 3)) (q0 j : Nat) {fs : List Value} (he : ws[q0]? = some (b, .inr (ci, fs))) (hc : vwCl[ci]? = some (C, T, M)) (hj : j < M) (hin0 : ∀ w ∈ u_ws C T M, w ∈ Ts) (hlink : (Cond.fieldLink own index ref (T j).2.1 (T j).2.2.1) ∈ Ts) (hsame : (T j).1 = ref) {v : Value} (hv : fs[j]? = some v) (k : gg_G K D ws cells slots (pc + 3) lv (v :: rest)) : gg_G K D ws cells slots pc lv (.ref b :: rest) := by
  obtain ⟨p, l, e, R0, s, m, args, below, meth, c, n0, A, Q⟩ := K
  obtain ⟨⟨hx, hb, hml, hts, hown, hK, hA2, hN, hE⟩, rfl, rfl⟩ := X
  intro H locs ls hP hD hS hl
  exact va_get hx hb hts hin0 hown hK hP q0 he hc j hj (hts _ hlink) (fun x h => by rw [← hsame]; exact h) hv hd (k H locs ls hP hD hS hl)
theorem gg_put (X : gg_D E nw K R cc n Ts own D tys) {ref C : String} {T : u_T} {M ci index : Nat} {b : Nat} {v : Value} {ty : FieldType} {ws2 : va_W} (hd : decode cc pc = .ok (.putfield index, 3)) (q0 j : Nat) {fs : List Value} (ty0 : Nat → FieldType) (hty : ∀ k, k < M → parseFieldDescriptor (T k).2.2.1 = some (ty0 k)) (hnm : ∀ a, a < M → ∀ b, b < M → a ≠ b → (T a).2.1 ≠ (T b).2.1) (he : ws[q0]? = some (b, .inr (ci, fs))) (hc : vwCl[ci]? = some (C, T, M)) (hj : j < M) (hin0 : ∀ w ∈ u_ws C T M, w ∈ Ts) (hlink : (Cond.fieldLink own index ref (T j).2.1 (T j).2.2.1) ∈ Ts) (hsame : (T j).1 = ref) (hfin : (T j).2.2.2 = false) (hdt : parseFieldDescriptor (T j).2.2.1 = some ty) (hn : narrow ty v = v) (hfit : fits ty v = true) (hlen : j < fs.length) (hw2 : ws.set q0 (b, .inr (ci, fs.set j v)) = ws2) (k : gg_G K D ws2 cells slots (pc + 3) lv rest) : gg_G K D ws cells slots pc lv (v :: .ref b :: rest) := by
  obtain ⟨p, l, e, R0, s, m, args, below, meth, c, n0, A, Q⟩ := K
  obtain ⟨⟨hx, hb, hml, hts, hown, hK, hA2, hN, hE⟩, rfl, rfl⟩ := X
  intro H locs ls hP hD hS hl
  subst hw2
  exact va_put hx hb hts hin0 ty0 hty hnm hown hK hP hD hS q0 he hc j hj (hts _ hlink) (fun x h => by rw [← hsame]; exact h) hfin hdt hn hfit hlen hd (fun H1 locs1 hP1 hD1 hS1 => k H1 locs1 ls hP1 hD1 hS1 hl)
theorem gg_putF (X : gg_C nw K R cc n Ts own D tys) {ref C : String} {T : u_T} {M ci index : Nat} {b : Nat} {v : Value} {ty : FieldType} {ws2 : va_W} (hd : decode cc pc = .ok (.putfield index, 3)) (q0 j : Nat) {fs : List Value} (ty0 : Nat → FieldType) (hty : ∀ k, k < M → parseFieldDescriptor (T k).2.2.1 = some (ty0 k)) (hnm : ∀ a, a < M → ∀ b, b < M → a ≠ b → (T a).2.1 ≠ (T b).2.1) (he : ws[q0]? = some (b, .inr (ci, fs))) (hc : vwCl[ci]? = some (C, T, M)) (hj : j < M) (hin0 : ∀ w ∈ u_ws C T M, w ∈ Ts) (hlink : (Cond.fieldLink own index ref (T j).2.1 (T j).2.2.1) ∈ Ts) (hsame : (T j).1 = ref) (hfin : (T j).2.2.2 = true) (hdecl : (T j).1 = own) (hdt : parseFieldDescriptor (T j).2.2.1 = some ty) (hn : narrow ty v = v) (hfit : fits ty v = true) (hlen : j < fs.length) (hw2 : ws.set q0 (b, .inr (ci, fs.set j v)) = ws2) (k : gg_G K D ws2 cells slots (pc + 3) lv rest) : gg_G K D ws cells slots pc lv (v :: .ref b :: rest) := by
  obtain ⟨p, l, e, R0, s, m, args, below, meth, c, n0, A, Q⟩ := K
  obtain ⟨⟨hx, hb, hml, hts, hown, hK, hA2, hN, hrt, hlk, hin⟩, rfl, rfl⟩ := X
  intro H locs ls hP hD hS hl
  subst hw2
  exact va_putF hx hb hts hin0 ty0 hty hnm hown hK hP hD hS q0 he hc j hj (hts _ hlink) (fun x h => by rw [← hsame]; exact h) hfin hin hdecl hdt hn hfit hlen hd (fun H1 locs1 hP1 hD1 hS1 => k H1 locs1 ls hP1 hD1 hS1 hl)
theorem gg_new (X : gg_D E nw K R cc n Ts own D tys) {C : String} {T : u_T} {M ci index c2 s2 : Nat} {fs : List Value} (hd : decode cc pc = .ok (.new index, 3)) (ty0 : Nat → FieldType) (hty : ∀ k, k < M → parseFieldDescriptor (T k).2.2.1 = some (ty0 k)) (hc : vwCl[ci]? = some (C, T, M)) (hin0 : ∀ w ∈ u_ws C T M, w ∈ Ts) (h1 : Cond.classLink own index C ∈ Ts) (h2 : Cond.instantiable C M ∈ Ts) (h3 : Cond.initialized C ∈ Ts) (hfs : ∀ j, j < M → defaultValue (ty0 j) = vp_V fs j) (hc2 : cells + 1 = c2) (hs2 : slots + M = s2) (hcR : c2 ≤ R.cells) (hsR : s2 ≤ R.slots) (k : ∀ q : Nat, gg_G K D (ws ++ [(q, .inr (ci, fs))]) c2 s2 (pc + 3) lv (.ref q :: rest)) : gg_G K D ws cells slots pc lv rest := by
  obtain ⟨p, l, e, R0, s, m, args, below, meth, c, n0, A, Q⟩ := K
  obtain ⟨⟨hx, hb, hml, hts, hown, hK, hA2, hN, hE⟩, rfl, rfl⟩ := X
  intro H locs ls hP hD hS hl
  subst hc2
  subst hs2
  exact va_new hx hb hts hin0 ty0 hty hown (hts _ h1) (hts _ h2) (hts _ h3) hK hP hD hS hA2 hc hfs hcR hsR hd (fun q H1 hP1 hD1 hS1 => k q H1 locs ls hP1 hD1 hS1 hl)
theorem gg_newa (X : gg_D E nw K R cc n Ts own D tys) {atype : ArrayType} {ty : FieldType} {cA : ClassId} {x : Int32} {M c2 s2 : Nat} (hd : decode cc pc = .ok (.newarray atype, 2)) (hty : newarray.typeOf atype = ty) (hno : ∀ C, ty ≠ .object C) (t : Nat) (ht : tys[t]? = some (cA, ty)) (h1 : Cond.arrayClass ty ∈ Ts) (hd0 : defaultValue ty = .int 0) (hn : ¬ x < 0) (hM : x.toNatClampNeg = M) (hby : M * componentBytes ty ≤ 536870912) (hc2 : cells + 1 = c2) (hs2 : slots + M = s2) (hcR : c2 ≤ R.cells) (hsR : s2 ≤ R.slots) (k : ∀ q : Nat, gg_G K D (ws ++ [(q, .inl (cA, M, .inl (fun _ => 0)))]) c2 s2 (pc + 2) lv (.ref q :: rest)) : gg_G K D ws cells slots pc lv (.int x :: rest) := by
  obtain ⟨p, l, e, R0, s, m, args, below, meth, c, n0, A, Q⟩ := K
  obtain ⟨⟨hx, hb, hml, hts, hown, hK, hA2, hN, hE⟩, rfl, rfl⟩ := X
  intro H locs ls hP hD hS hl
  subst hc2
  subst hs2
  subst hty
  refine va_newa (a0 := (M, .inl (fun _ => 0))) hx hb (hts _ h1) rfl hK hP hD hS hA2 (fun cB => ?_) hn hM hby hcR hsR hd (fun q cB H1 hK1 hP1 hD1 hS1 => ?_)
  · rw [vp_cell_i, hd0]
  · have ht1 : (tys ++ [(cB, newarray.typeOf atype)])[t]? = some (cA, newarray.typeOf atype) := by
      rw [List.getElem?_append_left (List.getElem?_eq_some_iff.mp ht).1]; exact ht
    have ht2 : (tys ++ [(cB, newarray.typeOf atype)])[tys.length]? = some (cB, newarray.typeOf atype) := by simp
    have e1 := (hK1.2 _ _ ht1).2
    have e2 := (hK1.2 _ _ ht2).2
    have e : cB = cA := by
      exact Option.some.inj ((gg_RA hno e2).symm.trans (gg_RA hno e1))
    subst e
    exact k q H1 locs ls hP1 hD1 hS1 hl
/-- a constructor's call -/
theorem gg_call (X : gg_D E nw K R cc n Ts own D tys) {y : MethodName} {wy wy' : List Cond} {bytes : ByteArray} {maxL index b : Nat} {rm : Room} {As : List Value} {e0 : va_E} {cf : mm_F} {N mc ms c2 s2 : Nat} {σ : mm_M} {wr : va_W} {nw2 : List Cond} {tys2 : List (ClassId × FieldType)} (hd : decode cc pc = .ok (.invokespecial index, 3)) (hL : mm_L K l)
    (hM : ∀ sz, Met l y wy rm (gg_P nw2 D tys2 [(b, e0)] (.ref b :: As) sz) (gg_Q D [(b, e0)] b cf N σ sz) mc ms (va_A [(b, e0)] sz)) (g : GoodIn Ts wy) (hw : wy = Cond.code y bytes maxL none :: wy') (hr0 : rm.cells = mc ∧ rm.slots = ms) (h1 : Cond.methodLink own index y ∈ Ts) (h2 : Cond.instanceMethod y ∈ Ts) (h3 : Cond.initialized y.cls ∈ Ts) (hy1 : y.name = "<init>")
    (hy : y.cls ≠ "java/lang/invoke/MethodHandle" ∧ y.cls ≠ "java/lang/invoke/VarHandle" ∧ (parseMethodDescriptor y.desc).map (fun d => d.parameters.length) = some As.length) (hR : rm.frames + 1 ≤ R.frames ∧ 8 + (maxL + 11) + rm.locals ≤ R.locals) {st : List Value} (hst : st = As.reverse ++ .ref b :: rest) (hroom : (rest.map fun v => v.category).sum ≤ 8) (hnw : ∀ w ∈ nw2, w ∈ nw) (isT : List Nat) (hT : isT.filterMap (fun i => tys[i]?) = tys2)
    (q0 : Nat) (isR : List Nat) (hC : ws[q0]? = some (b, e0)) (hRr : isR.map (fun i => ws[i]?) = wr.map some) (hnd : va_nd isR = true) (hdis : ∀ i ∈ isR, i ∉ [q0]) (hc2 : cells + mc = c2) (hs2 : slots + ms = s2) (hcR : c2 ≤ R.cells) (hsR : s2 ≤ R.slots)
    (k : ∀ a : Nat → Nat, a 0 = b → gg_G K D (wr ++ mm_W cf N a σ) c2 s2 (pc + 3) lv rest) : gg_G K D ws cells slots pc lv st := by
  obtain ⟨p, l1, e, R0, s, m, args, below, meth, c, n0, A, Q⟩ := K
  obtain ⟨⟨hx, hb, hml, hts, hown, hK, hA2, hN, hE⟩, rfl, rfl⟩ := X
  intro H locs ls hP hD hS hl
  have hL : l1 = l := hL
  subst hL
  subst hc2
  subst hs2
  have hC1 : [q0].map (fun i => ws[i]?) = [(b, e0)].map some := by simp [hC]
  have hPc : va_P D vwCl [(b, e0)] H := hP.sub [q0] (by simp [hC])
  have hDc : va_D A [(b, e0)] := hD.sub [q0] rfl hC1
  have hFc := va_free (wc := [(b, e0)]) hD hS hA2 [q0] hC1
  refine va_callv (va_runI (As := As) (rest := rest) ⟨hx, hb, hml, hown, hts⟩ (hM H.size) (cwI As.length hts g hw hr0.1 hr0.2 (hts _ h3) (hts _ h1) (hts _ h2) hy1 hy hR) ⟨gg_P.blind, fun U hU hW => ⟨rfl, by rw [hU], by rw [hU]; exact hPc, hDc.weaken (fun _ _ _ _ => trivial), va_K.moved hW.alike (hK.sub isT hT), fun w hw2 => (hN.warm hW) w (hnw w hw2)⟩⟩ rfl rfl hl.1 hst (lv_room hroom) hd ⟨hcR, hsR⟩) hS (fun q _ h => hFc q h) hFc (fun u t H1 locs1 ht hvm hw1 hB hz hk hS1 => ?_)
  obtain ⟨hP1, hD1⟩ := hB
  rw [ht] at hP1
  obtain ⟨hP2, hD2⟩ := va_join (wr := wr) hP hD [q0] isR hC1 hRr hnd hdis hk hFc hP1 hD1
  exact k u hw1 H1 locs1 ls hP2 hD2 hS1 hl
/-- a call of a nest mate's constructor -/
theorem gg_callN (X : gg_D E nw K R cc n Ts own D tys) {y : MethodName} {wy wy' : List Cond} {bytes : ByteArray} {maxL index b : Nat} {rm : Room} {As : List Value} {e0 : va_E} {cf : mm_F} {N mc ms c2 s2 : Nat} {σ : mm_M} {wr : va_W} {nw2 : List Cond} {tys2 : List (ClassId × FieldType)} {host : String} (hd : decode cc pc = .ok (.invokespecial index, 3)) (hL : mm_L K l)
    (hM : ∀ sz, Met l y wy rm (gg_P nw2 D tys2 [(b, e0)] (.ref b :: As) sz) (gg_Q D [(b, e0)] b cf N σ sz) mc ms (va_A [(b, e0)] sz)) (g : GoodIn Ts wy) (hw : wy = Cond.code y bytes maxL none :: wy') (hr0 : rm.cells = mc ∧ rm.slots = ms) (h1 : Cond.methodLinkNest own index y host ∈ nw) (h2 : Cond.instanceMethod y ∈ Ts) (h3 : Cond.initialized y.cls ∈ Ts) (hy1 : y.name = "<init>")
    (hy : y.cls ≠ "java/lang/invoke/MethodHandle" ∧ y.cls ≠ "java/lang/invoke/VarHandle" ∧ (parseMethodDescriptor y.desc).map (fun d => d.parameters.length) = some As.length) (hR : rm.frames + 1 ≤ R.frames ∧ 8 + (maxL + 11) + rm.locals ≤ R.locals) {st : List Value} (hst : st = As.reverse ++ .ref b :: rest) (hroom : (rest.map fun v => v.category).sum ≤ 8) (hnw : ∀ w ∈ nw2, w ∈ nw) (isT : List Nat) (hT : isT.filterMap (fun i => tys[i]?) = tys2)
    (q0 : Nat) (isR : List Nat) (hC : ws[q0]? = some (b, e0)) (hRr : isR.map (fun i => ws[i]?) = wr.map some) (hnd : va_nd isR = true) (hdis : ∀ i ∈ isR, i ∉ [q0]) (hc2 : cells + mc = c2) (hs2 : slots + ms = s2) (hcR : c2 ≤ R.cells) (hsR : s2 ≤ R.slots)
    (k : ∀ a : Nat → Nat, a 0 = b → gg_G K D (wr ++ mm_W cf N a σ) c2 s2 (pc + 3) lv rest) : gg_G K D ws cells slots pc lv st := by
  obtain ⟨p, l1, e, R0, s, m, args, below, meth, c, n0, A, Q⟩ := K
  obtain ⟨⟨hx, hb, hml, hts, hown, hK, hA2, hN, hE⟩, rfl, rfl⟩ := X
  intro H locs ls hP hD hS hl
  have hL : l1 = l := hL
  subst hL
  subst hc2
  subst hs2
  have hC1 : [q0].map (fun i => ws[i]?) = [(b, e0)].map some := by simp [hC]
  have hPc : va_P D vwCl [(b, e0)] H := hP.sub [q0] (by simp [hC])
  have hDc : va_D A [(b, e0)] := hD.sub [q0] rfl hC1
  have hFc := va_free (wc := [(b, e0)]) hD hS hA2 [q0] hC1
  refine va_callv (va_runIN (As := As) (rest := rest) ⟨hx, hb, hml, hown, hts⟩ (hM H.size) ⟨va_cnB As.length hts g hw hr0.1 hr0.2 ((hN _ h1).2) (hts _ h3) hy hR, hy1, hts _ h2⟩ ⟨gg_P.blind, fun U hU hW => ⟨rfl, by rw [hU], by rw [hU]; exact hPc, hDc.weaken (fun _ _ _ _ => trivial), va_K.moved hW.alike (hK.sub isT hT), fun w hw2 => (hN.warm hW) w (hnw w hw2)⟩⟩ rfl rfl hl.1 hst (lv_room hroom) hd ⟨hcR, hsR⟩) hS (fun q _ h => hFc q h) hFc (fun u t H1 locs1 ht hvm hw1 hB hz hk hS1 => ?_)
  obtain ⟨hP1, hD1⟩ := hB
  rw [ht] at hP1
  obtain ⟨hP2, hD2⟩ := va_join (wr := wr) hP hD [q0] isR hC1 hRr hnd hdis hk hFc hP1 hD1
  exact k u hw1 H1 locs1 ls hP2 hD2 hS1 hl
theorem gg_eq {ws2 : va_W} (h : ws = ws2) (k : gg_G K D ws2 cells slots pc lv rest) : gg_G K D ws cells slots pc lv rest := h ▸ k
theorem gg_ret (X : gg_C nw K R cc n Ts own D tys) {w0 : va_W} {h0 N : Nat} {cf : mm_F} {σ : mm_M} (hd : decode cc pc = .ok (.return_, 1)) (hQ : gg_H K w0 (fun sz => gg_Q D w0 h0 cf N σ sz) cells slots) (a : Nat → Nat) (ha : a 0 = h0) (is : List Nat) (hnd : va_nd is = true) (his : is.map (fun i => ws[i]?) = (mm_W cf N a σ).map some) : gg_G K D ws cells slots pc lv [] := by
  obtain ⟨p, l, e, R0, s, m, args, below, meth, c, n0, A, Q⟩ := K
  obtain ⟨⟨hx, hb, hml, hts, hown, hK, hA2, hN, hrt, hlk, hin⟩, rfl, rfl⟩ := X
  intro H locs ls hP hD hS hl
  obtain ⟨rfl, rfl⟩ := hQ
  have hfm : is.filterMap (fun i => ws[i]?) = mm_W cf N a σ := by
    have : (is.map (fun i => ws[i]?)).filterMap id = ((mm_W cf N a σ).map some).filterMap id := by rw [his]
    rw [List.filterMap_map, List.filterMap_map] at this
    simpa using this
  exact W.vret hx hb hrt (fun t ht hW => ⟨⟨a, rfl, ha, by rw [ht]; exact hP.sub is hfm, hD.sub is hnd his⟩, hS.F ht⟩) hS.2.2 hd hlk
/-- the filling of a row that was just made -/
theorem gg_fill (X : gg_D E nw K R cc n Ts own D tys) {y : MethodName} {wy wy' : List Cond} {bytes : ByteArray} {maxL index : Nat} {C : String} {rm : Room} {As : List Value} {cf : mm_F} {aa : Nat → Nat} {σ σ2 : mm_M} {ci : Nat} {fs : List Value} {T : u_T} {M : Nat} {wr : va_W} (hd : decode cc pc = .ok (.invokevirtual index, 3)) (hL : mm_L K l) (hJ : mm_J 2 aa)
    (hM : ∀ sz, Met l y wy rm (mm_P [] D cf 2 aa tys σ (.ref (aa 0) :: As) sz) (mm_Qv D cf 2 aa σ2 sz) 0 0 (mm_A 2 aa sz)) (g : GoodIn Ts (wsV own index C y wy)) (hw : wy = Cond.code y bytes maxL none :: wy') (hr0 : rm.cells = 0 ∧ rm.slots = 0)
    (hy : y.cls = C ∧ y.cls ≠ "java/lang/invoke/MethodHandle" ∧ y.cls ≠ "java/lang/invoke/VarHandle" ∧ (parseMethodDescriptor y.desc).map (fun d => d.parameters.length) = some As.length) (hR : rm.frames + 1 ≤ R.frames ∧ 8 + (maxL + 11) + rm.locals ≤ R.locals) {st : List Value} (hst : st = As.reverse ++ .ref (aa 0) :: rest) (hroom : (rest.map fun v => v.category).sum ≤ 8)
    (he : cf aa 0 (σ 0) = .inr (ci, fs)) (hc : vwCl[ci]? = some (C, T, M)) (q0 q1 : Nat) (isR : List Nat) (hne : va_nd [q0, q1] = true) (hC : [q0, q1].map (fun i => ws[i]?) = (mm_W cf 2 aa σ).map some) (hRr : isR.map (fun i => ws[i]?) = wr.map some) (hnd : va_nd isR = true) (hdis : ∀ i ∈ isR, i ∉ [q0, q1])
    (hcR : cells ≤ R.cells) (hsR : slots ≤ R.slots) (k : gg_G K D (wr ++ mm_W cf 2 aa σ2) cells slots (pc + 3) lv rest) : gg_G K D ws cells slots pc lv st := by
  obtain ⟨p, l1, e, R0, s, m, args, below, meth, c, n0, A, Q⟩ := K
  obtain ⟨⟨hx, hb, hml, hts, hown, hK, hA2, hN, hE⟩, rfl, rfl⟩ := X
  intro H locs ls hP hD hS hl
  have hL : l1 = l := hL
  subst hL
  have hfm : [q0, q1].filterMap (fun i => ws[i]?) = mm_W cf 2 aa σ := by
    have : ([q0, q1].map (fun i => ws[i]?)).filterMap id = ((mm_W cf 2 aa σ).map some).filterMap id := by rw [hC]
    rw [List.filterMap_map, List.filterMap_map] at this
    simpa using this
  have hPc : va_P D vwCl (mm_W cf 2 aa σ) H := hP.sub [q0, q1] hfm
  have hDc : va_D A (mm_W cf 2 aa σ) := hD.sub [q0, q1] hne hC
  have hFc := va_free (wc := mm_W cf 2 aa σ) hD hS hA2 [q0, q1] hC
  have hAe : ∀ q, mm_A 2 aa H.size q → va_A (mm_W cf 2 aa σ) H.size q := by
    intro q h
    rcases h with ⟨j, hj, rfl⟩ | h
    · exact Or.inl ⟨j, _, mm_W_at hj⟩
    · exact Or.inr h
  have hAe2 : ∀ q, ¬ va_A (mm_W cf 2 aa σ) H.size q → ¬ mm_A 2 aa H.size q := fun q h z => h (hAe q z)
  refine va_callv (va_runV (As := As) (rest := rest) ⟨hx, hb, hml, hown, hts⟩ (hM H.size) (cwV As.length hts g hw hr0.1 hr0.2 hy hR) ⟨mm_P.blind, va_recv (q := (C, T, M)) (q0 := 0) hK hPc hc ((mm_W_at (k := 0) (by decide)).trans (by rw [he])), fun U hU hW => ⟨rfl, by rw [hU], by rw [hU]; exact hPc, va_K.moved hW.alike hK, fun w hw2 => by cases hw2⟩⟩ rfl rfl hl.1 hst (lv_room hroom) hd ⟨hcR, hsR⟩) hS (fun q _ h => hFc q (hAe q h)) (fun q h => hFc q (hAe q h)) (fun u t H1 locs1 ht hvm hw1 hB hz hk hS1 => ?_)
  have hB : va_P D vwCl (mm_W cf 2 aa σ2) t.heap := hB
  rw [ht] at hB
  have hD1 : va_D (va_A (mm_W cf 2 aa σ) H.size) (mm_W cf 2 aa σ2) := mm_D hJ (fun j hj => Or.inl ⟨j, _, mm_W_at hj⟩)
  obtain ⟨hP2, hD2⟩ := va_join (wc := mm_W cf 2 aa σ) (wr := wr) hP hD [q0, q1] isR hC hRr hnd hdis (fun q h1 h2 => hk q h1 (hAe2 q h2)) hFc hB hD1
  exact k H1 locs1 ls hP2 hD2 hS1 hl
/-- two cells of a world are apart -/
theorem gg_apart (X : gg_D E nw K R cc n Ts own D tys) (q0 q1 : Nat) {b c : Nat} {e1 e2 : va_E} (h0 : ws[q0]? = some (b, e1)) (h1 : ws[q1]? = some (c, e2)) (hne : q0 ≠ q1) (k : b ≠ c → gg_G K D ws cells slots pc lv rest) : gg_G K D ws cells slots pc lv rest := by
  obtain ⟨p, l1, e, R0, s, m, args, below, meth, c0, n0, A, Q⟩ := K
  intro H locs ls hP hD hS hl
  exact k (fun h => hne (hD.1 q0 q1 _ _ h0 h1 h)) H locs ls hP hD hS hl
end GGR
