section MMR
variable {nw : List Cond} {K : mm_K} {l : Launch} {R : Room} {n : Nat} {D : va_G} {cf : mm_F} {N : Nat} {a : Nat → Nat} {σ : mm_M} {pc : Nat} {lv : List (Nat × Value)} {rest : List Value} {cc : ByteArray} {ret : Option FieldType} {Ts : List Cond} {own : String} {tys : List (ClassId × FieldType)}
theorem mm_iconst (X : mm_C nw K R cc n ret Ts own D N a tys) {z : Int} {v : Int32} (hd : decode cc pc = .ok (.iconst z, 1)) (hv : Int32.ofInt z = v) (k : mm_G K D cf N a σ (pc + 1) lv (.int v :: rest)) : mm_G K D cf N a σ pc lv rest := by
  obtain ⟨p, l, e, R0, s, m, args, below, meth, c, n0, A, Q⟩ := K
  obtain ⟨⟨hx, hb, hml, hts, hown, hK, hJ, hA1, hA2, hN, hrt, hlk⟩, rfl, rfl⟩ := X
  intro H locs ls hP hS hl
  exact lv_iconst hx hb hd hv (k H locs ls hP hS hl)
theorem mm_bipush (X : mm_C nw K R cc n ret Ts own D N a tys) {z : Int} {v : Int32} (hd : decode cc pc = .ok (.bipush z, 2)) (hv : (Int8.ofInt z).toInt32 = v) (k : mm_G K D cf N a σ (pc + 2) lv (.int v :: rest)) : mm_G K D cf N a σ pc lv rest := by
  obtain ⟨p, l, e, R0, s, m, args, below, meth, c, n0, A, Q⟩ := K
  obtain ⟨⟨hx, hb, hml, hts, hown, hK, hJ, hA1, hA2, hN, hrt, hlk⟩, rfl, rfl⟩ := X
  intro H locs ls hP hS hl
  exact lv_bipush hx hb hd hv (k H locs ls hP hS hl)
theorem mm_sipush (X : mm_C nw K R cc n ret Ts own D N a tys) {z : Int} {v : Int32} (hd : decode cc pc = .ok (.sipush z, 3)) (hv : (Int16.ofInt z).toInt32 = v) (k : mm_G K D cf N a σ (pc + 3) lv (.int v :: rest)) : mm_G K D cf N a σ pc lv rest := by
  obtain ⟨p, l, e, R0, s, m, args, below, meth, c, n0, A, Q⟩ := K
  obtain ⟨⟨hx, hb, hml, hts, hown, hK, hJ, hA1, hA2, hN, hrt, hlk⟩, rfl, rfl⟩ := X
  intro H locs ls hP hS hl
  exact lv_sipush hx hb hd hv (k H locs ls hP hS hl)
theorem mm_iload_n (X : mm_C nw K R cc n ret Ts own D N a tys) {i : Fin 4} {x : Int32} (hd : decode cc pc = .ok (.iload_n i, 1)) (j : Nat) (hj : lv[j]? = some ((i : Nat), .int x)) (k : mm_G K D cf N a σ (pc + 1) lv (.int x :: rest)) : mm_G K D cf N a σ pc lv rest := by
  obtain ⟨p, l, e, R0, s, m, args, below, meth, c, n0, A, Q⟩ := K
  obtain ⟨⟨hx, hb, hml, hts, hown, hK, hJ, hA1, hA2, hN, hrt, hlk⟩, rfl, rfl⟩ := X
  intro H locs ls hP hS hl
  exact lv_iload_n hx hb hd rfl (lv_at hl j hj) (k H locs ls hP hS hl)
theorem mm_iload (X : mm_C nw K R cc n ret Ts own D N a tys) {i : Nat} {x : Int32} (hd : decode cc pc = .ok (.iload i, 2)) (j : Nat) (hj : lv[j]? = some (i, .int x)) (k : mm_G K D cf N a σ (pc + 2) lv (.int x :: rest)) : mm_G K D cf N a σ pc lv rest := by
  obtain ⟨p, l, e, R0, s, m, args, below, meth, c, n0, A, Q⟩ := K
  obtain ⟨⟨hx, hb, hml, hts, hown, hK, hJ, hA1, hA2, hN, hrt, hlk⟩, rfl, rfl⟩ := X
  intro H locs ls hP hS hl
  exact lv_iload hx hb hd (lv_at hl j hj) (k H locs ls hP hS hl)
theorem mm_lload_n (X : mm_C nw K R cc n ret Ts own D N a tys) {i : Fin 4} {x : Int64} (hd : decode cc pc = .ok (.lload_n i, 1)) (j : Nat) (hj : lv[j]? = some ((i : Nat), .long x)) (k : mm_G K D cf N a σ (pc + 1) lv (.long x :: rest)) : mm_G K D cf N a σ pc lv rest := by
  obtain ⟨p, l, e, R0, s, m, args, below, meth, c, n0, A, Q⟩ := K
  obtain ⟨⟨hx, hb, hml, hts, hown, hK, hJ, hA1, hA2, hN, hrt, hlk⟩, rfl, rfl⟩ := X
  intro H locs ls hP hS hl
  exact lv_lload_n hx hb hd rfl (lv_at hl j hj) (k H locs ls hP hS hl)
theorem mm_lload (X : mm_C nw K R cc n ret Ts own D N a tys) {i : Nat} {x : Int64} (hd : decode cc pc = .ok (.lload i, 2)) (j : Nat) (hj : lv[j]? = some (i, .long x)) (k : mm_G K D cf N a σ (pc + 2) lv (.long x :: rest)) : mm_G K D cf N a σ pc lv rest := by
  obtain ⟨p, l, e, R0, s, m, args, below, meth, c, n0, A, Q⟩ := K
  obtain ⟨⟨hx, hb, hml, hts, hown, hK, hJ, hA1, hA2, hN, hrt, hlk⟩, rfl, rfl⟩ := X
  intro H locs ls hP hS hl
  exact lv_lload hx hb hd (lv_at hl j hj) (k H locs ls hP hS hl)
theorem mm_aload_n (X : mm_C nw K R cc n ret Ts own D N a tys) {i : Fin 4} {x : Nat} (hd : decode cc pc = .ok (.aload_n i, 1)) (j : Nat) (hj : lv[j]? = some ((i : Nat), .ref x)) (k : mm_G K D cf N a σ (pc + 1) lv (.ref x :: rest)) : mm_G K D cf N a σ pc lv rest := by
  obtain ⟨p, l, e, R0, s, m, args, below, meth, c, n0, A, Q⟩ := K
  obtain ⟨⟨hx, hb, hml, hts, hown, hK, hJ, hA1, hA2, hN, hrt, hlk⟩, rfl, rfl⟩ := X
  intro H locs ls hP hS hl
  exact lv_aload_n hx hb hd rfl (lv_at hl j hj) (k H locs ls hP hS hl)
theorem mm_aload (X : mm_C nw K R cc n ret Ts own D N a tys) {i : Nat} {x : Nat} (hd : decode cc pc = .ok (.aload i, 2)) (j : Nat) (hj : lv[j]? = some (i, .ref x)) (k : mm_G K D cf N a σ (pc + 2) lv (.ref x :: rest)) : mm_G K D cf N a σ pc lv rest := by
  obtain ⟨p, l, e, R0, s, m, args, below, meth, c, n0, A, Q⟩ := K
  obtain ⟨⟨hx, hb, hml, hts, hown, hK, hJ, hA1, hA2, hN, hrt, hlk⟩, rfl, rfl⟩ := X
  intro H locs ls hP hS hl
  exact lv_aload hx hb hd (lv_at hl j hj) (k H locs ls hP hS hl)
theorem mm_istore_n (X : mm_C nw K R cc n ret Ts own D N a tys) {i : Fin 4} {x : Int32} {lv2 : List (Nat × Value)} (hd : decode cc pc = .ok (.istore_n i, 1)) (hn : (i : Nat) < n) (hv : ((i : Nat), Value.int x) :: lv.filter (fun q => !(q.1 == (i : Nat)) && !(q.1 + 1 == (i : Nat) && q.2.category == 2)) = lv2) (k : mm_G K D cf N a σ (pc + 1) lv2 rest) : mm_G K D cf N a σ pc lv (.int x :: rest) := by
  obtain ⟨p, l, e, R0, s, m, args, below, meth, c, n0, A, Q⟩ := K
  obtain ⟨⟨hx, hb, hml, hts, hown, hK, hJ, hA1, hA2, hN, hrt, hlk⟩, rfl, rfl⟩ := X
  intro H locs ls hP hS hl
  exact lv_istore_n hx hb hd rfl hl hn hv (fun ls2 h2 => k H locs ls2 hP hS h2)
theorem mm_istore (X : mm_C nw K R cc n ret Ts own D N a tys) {i : Nat} {x : Int32} {lv2 : List (Nat × Value)} (hd : decode cc pc = .ok (.istore i, 2)) (hn : i < n) (hv : (i, Value.int x) :: lv.filter (fun q => !(q.1 == i) && !(q.1 + 1 == i && q.2.category == 2)) = lv2) (k : mm_G K D cf N a σ (pc + 2) lv2 rest) : mm_G K D cf N a σ pc lv (.int x :: rest) := by
  obtain ⟨p, l, e, R0, s, m, args, below, meth, c, n0, A, Q⟩ := K
  obtain ⟨⟨hx, hb, hml, hts, hown, hK, hJ, hA1, hA2, hN, hrt, hlk⟩, rfl, rfl⟩ := X
  intro H locs ls hP hS hl
  exact lv_istore hx hb hd hl hn hv (fun ls2 h2 => k H locs ls2 hP hS h2)
theorem mm_lstore_n (X : mm_C nw K R cc n ret Ts own D N a tys) {i : Fin 4} {x : Int64} {lv2 : List (Nat × Value)} (hd : decode cc pc = .ok (.lstore_n i, 1)) (hn : (i : Nat) + 1 < n) (hv : ((i : Nat), Value.long x) :: lv.filter (fun q => !(q.1 == (i : Nat)) && (!(q.1 == (i : Nat) + 1) && !(q.1 + 1 == (i : Nat) && q.2.category == 2))) = lv2) (k : mm_G K D cf N a σ (pc + 1) lv2 rest) : mm_G K D cf N a σ pc lv (.long x :: rest) := by
  obtain ⟨p, l, e, R0, s, m, args, below, meth, c, n0, A, Q⟩ := K
  obtain ⟨⟨hx, hb, hml, hts, hown, hK, hJ, hA1, hA2, hN, hrt, hlk⟩, rfl, rfl⟩ := X
  intro H locs ls hP hS hl
  exact lv_lstore_n hx hb hd rfl hl hn hv (fun ls2 h2 => k H locs ls2 hP hS h2)
theorem mm_lstore (X : mm_C nw K R cc n ret Ts own D N a tys) {i : Nat} {x : Int64} {lv2 : List (Nat × Value)} (hd : decode cc pc = .ok (.lstore i, 2)) (hn : i + 1 < n) (hv : (i, Value.long x) :: lv.filter (fun q => !(q.1 == i) && (!(q.1 == i + 1) && !(q.1 + 1 == i && q.2.category == 2))) = lv2) (k : mm_G K D cf N a σ (pc + 2) lv2 rest) : mm_G K D cf N a σ pc lv (.long x :: rest) := by
  obtain ⟨p, l, e, R0, s, m, args, below, meth, c, n0, A, Q⟩ := K
  obtain ⟨⟨hx, hb, hml, hts, hown, hK, hJ, hA1, hA2, hN, hrt, hlk⟩, rfl, rfl⟩ := X
  intro H locs ls hP hS hl
  exact lv_lstore hx hb hd hl hn hv (fun ls2 h2 => k H locs ls2 hP hS h2)
theorem mm_iinc (X : mm_C nw K R cc n ret Ts own D N a tys) {i : Nat} {z : Int} {x v : Int32} {lv2 : List (Nat × Value)} (hd : decode cc pc = .ok (.iinc i z, 3)) (j : Nat) (hj : lv[j]? = some (i, .int x)) (hz : x + Int32.ofInt z = v) (hn : i < n) (hv : (i, Value.int v) :: lv.filter (fun q => !(q.1 == i) && !(q.1 + 1 == i && q.2.category == 2)) = lv2) (k : mm_G K D cf N a σ (pc + 3) lv2 rest) : mm_G K D cf N a σ pc lv rest := by
  obtain ⟨p, l, e, R0, s, m, args, below, meth, c, n0, A, Q⟩ := K
  obtain ⟨⟨hx, hb, hml, hts, hown, hK, hJ, hA1, hA2, hN, hrt, hlk⟩, rfl, rfl⟩ := X
  intro H locs ls hP hS hl
  exact lv_iinc hx hb hd hl hj hz hn hv (fun ls2 h2 => k H locs ls2 hP hS h2)
theorem mm_iadd (X : mm_C nw K R cc n ret Ts own D N a tys) {x y : Int32}(hd : decode cc pc = .ok (.iadd, 1))  (k : mm_G K D cf N a σ (pc + 1) lv (.int (x + y) :: rest)) : mm_G K D cf N a σ pc lv (.int y :: .int x :: rest) := by
  obtain ⟨p, l, e, R0, s, m, args, below, meth, c, n0, A, Q⟩ := K
  obtain ⟨⟨hx, hb, hml, hts, hown, hK, hJ, hA1, hA2, hN, hrt, hlk⟩, rfl, rfl⟩ := X
  intro H locs ls hP hS hl
  exact lv_iadd hx hb hd (k H locs ls hP hS hl)
theorem mm_isub (X : mm_C nw K R cc n ret Ts own D N a tys) {x y : Int32}(hd : decode cc pc = .ok (.isub, 1))  (k : mm_G K D cf N a σ (pc + 1) lv (.int (x - y) :: rest)) : mm_G K D cf N a σ pc lv (.int y :: .int x :: rest) := by
  obtain ⟨p, l, e, R0, s, m, args, below, meth, c, n0, A, Q⟩ := K
  obtain ⟨⟨hx, hb, hml, hts, hown, hK, hJ, hA1, hA2, hN, hrt, hlk⟩, rfl, rfl⟩ := X
  intro H locs ls hP hS hl
  exact lv_isub hx hb hd (k H locs ls hP hS hl)
theorem mm_imul (X : mm_C nw K R cc n ret Ts own D N a tys) {x y : Int32}(hd : decode cc pc = .ok (.imul, 1))  (k : mm_G K D cf N a σ (pc + 1) lv (.int (x * y) :: rest)) : mm_G K D cf N a σ pc lv (.int y :: .int x :: rest) := by
  obtain ⟨p, l, e, R0, s, m, args, below, meth, c, n0, A, Q⟩ := K
  obtain ⟨⟨hx, hb, hml, hts, hown, hK, hJ, hA1, hA2, hN, hrt, hlk⟩, rfl, rfl⟩ := X
  intro H locs ls hP hS hl
  exact lv_imul hx hb hd (k H locs ls hP hS hl)
theorem mm_iand (X : mm_C nw K R cc n ret Ts own D N a tys) {x y : Int32}(hd : decode cc pc = .ok (.iand, 1))  (k : mm_G K D cf N a σ (pc + 1) lv (.int (x &&& y) :: rest)) : mm_G K D cf N a σ pc lv (.int y :: .int x :: rest) := by
  obtain ⟨p, l, e, R0, s, m, args, below, meth, c, n0, A, Q⟩ := K
  obtain ⟨⟨hx, hb, hml, hts, hown, hK, hJ, hA1, hA2, hN, hrt, hlk⟩, rfl, rfl⟩ := X
  intro H locs ls hP hS hl
  exact lv_iand hx hb hd (k H locs ls hP hS hl)
theorem mm_ior (X : mm_C nw K R cc n ret Ts own D N a tys) {x y : Int32}(hd : decode cc pc = .ok (.ior, 1))  (k : mm_G K D cf N a σ (pc + 1) lv (.int (x ||| y) :: rest)) : mm_G K D cf N a σ pc lv (.int y :: .int x :: rest) := by
  obtain ⟨p, l, e, R0, s, m, args, below, meth, c, n0, A, Q⟩ := K
  obtain ⟨⟨hx, hb, hml, hts, hown, hK, hJ, hA1, hA2, hN, hrt, hlk⟩, rfl, rfl⟩ := X
  intro H locs ls hP hS hl
  exact lv_ior hx hb hd (k H locs ls hP hS hl)
theorem mm_ixor (X : mm_C nw K R cc n ret Ts own D N a tys) {x y : Int32}(hd : decode cc pc = .ok (.ixor, 1))  (k : mm_G K D cf N a σ (pc + 1) lv (.int (x ^^^ y) :: rest)) : mm_G K D cf N a σ pc lv (.int y :: .int x :: rest) := by
  obtain ⟨p, l, e, R0, s, m, args, below, meth, c, n0, A, Q⟩ := K
  obtain ⟨⟨hx, hb, hml, hts, hown, hK, hJ, hA1, hA2, hN, hrt, hlk⟩, rfl, rfl⟩ := X
  intro H locs ls hP hS hl
  exact lv_ixor hx hb hd (k H locs ls hP hS hl)
theorem mm_ishl (X : mm_C nw K R cc n ret Ts own D N a tys) {x y : Int32}(hd : decode cc pc = .ok (.ishl, 1))  (k : mm_G K D cf N a σ (pc + 1) lv (.int (x <<< (y &&& 31)) :: rest)) : mm_G K D cf N a σ pc lv (.int y :: .int x :: rest) := by
  obtain ⟨p, l, e, R0, s, m, args, below, meth, c, n0, A, Q⟩ := K
  obtain ⟨⟨hx, hb, hml, hts, hown, hK, hJ, hA1, hA2, hN, hrt, hlk⟩, rfl, rfl⟩ := X
  intro H locs ls hP hS hl
  exact lv_ishl hx hb hd (k H locs ls hP hS hl)
theorem mm_ishr (X : mm_C nw K R cc n ret Ts own D N a tys) {x y : Int32}(hd : decode cc pc = .ok (.ishr, 1))  (k : mm_G K D cf N a σ (pc + 1) lv (.int (x >>> (y &&& 31)) :: rest)) : mm_G K D cf N a σ pc lv (.int y :: .int x :: rest) := by
  obtain ⟨p, l, e, R0, s, m, args, below, meth, c, n0, A, Q⟩ := K
  obtain ⟨⟨hx, hb, hml, hts, hown, hK, hJ, hA1, hA2, hN, hrt, hlk⟩, rfl, rfl⟩ := X
  intro H locs ls hP hS hl
  exact lv_ishr hx hb hd (k H locs ls hP hS hl)
theorem mm_ladd (X : mm_C nw K R cc n ret Ts own D N a tys) {x y : Int64}(hd : decode cc pc = .ok (.ladd, 1))  (k : mm_G K D cf N a σ (pc + 1) lv (.long (x + y) :: rest)) : mm_G K D cf N a σ pc lv (.long y :: .long x :: rest) := by
  obtain ⟨p, l, e, R0, s, m, args, below, meth, c, n0, A, Q⟩ := K
  obtain ⟨⟨hx, hb, hml, hts, hown, hK, hJ, hA1, hA2, hN, hrt, hlk⟩, rfl, rfl⟩ := X
  intro H locs ls hP hS hl
  exact lv_ladd hx hb hd (k H locs ls hP hS hl)
theorem mm_lmul (X : mm_C nw K R cc n ret Ts own D N a tys) {x y : Int64}(hd : decode cc pc = .ok (.lmul, 1))  (k : mm_G K D cf N a σ (pc + 1) lv (.long (x * y) :: rest)) : mm_G K D cf N a σ pc lv (.long y :: .long x :: rest) := by
  obtain ⟨p, l, e, R0, s, m, args, below, meth, c, n0, A, Q⟩ := K
  obtain ⟨⟨hx, hb, hml, hts, hown, hK, hJ, hA1, hA2, hN, hrt, hlk⟩, rfl, rfl⟩ := X
  intro H locs ls hP hS hl
  exact lv_lmul hx hb hd (k H locs ls hP hS hl)
theorem mm_lcmp (X : mm_C nw K R cc n ret Ts own D N a tys) {x y : Int64}(hd : decode cc pc = .ok (.lcmp, 1))  (k : mm_G K D cf N a σ (pc + 1) lv (.int (lg_cmp x y) :: rest)) : mm_G K D cf N a σ pc lv (.long y :: .long x :: rest) := by
  obtain ⟨p, l, e, R0, s, m, args, below, meth, c, n0, A, Q⟩ := K
  obtain ⟨⟨hx, hb, hml, hts, hown, hK, hJ, hA1, hA2, hN, hrt, hlk⟩, rfl, rfl⟩ := X
  intro H locs ls hP hS hl
  exact W.lcmp hx hb hd (k H locs ls hP hS hl)
theorem mm_ineg (X : mm_C nw K R cc n ret Ts own D N a tys) {x : Int32}(hd : decode cc pc = .ok (.ineg, 1))  (k : mm_G K D cf N a σ (pc + 1) lv (.int (-x) :: rest)) : mm_G K D cf N a σ pc lv (.int x :: rest) := by
  obtain ⟨p, l, e, R0, s, m, args, below, meth, c, n0, A, Q⟩ := K
  obtain ⟨⟨hx, hb, hml, hts, hown, hK, hJ, hA1, hA2, hN, hrt, hlk⟩, rfl, rfl⟩ := X
  intro H locs ls hP hS hl
  exact lv_ineg hx hb hd (k H locs ls hP hS hl)
theorem mm_i2l (X : mm_C nw K R cc n ret Ts own D N a tys) {x : Int32}(hd : decode cc pc = .ok (.i2l, 1))  (k : mm_G K D cf N a σ (pc + 1) lv (.long x.toInt64 :: rest)) : mm_G K D cf N a σ pc lv (.int x :: rest) := by
  obtain ⟨p, l, e, R0, s, m, args, below, meth, c, n0, A, Q⟩ := K
  obtain ⟨⟨hx, hb, hml, hts, hown, hK, hJ, hA1, hA2, hN, hrt, hlk⟩, rfl, rfl⟩ := X
  intro H locs ls hP hS hl
  exact lv_i2l hx hb hd rfl (k H locs ls hP hS hl)
theorem mm_i2b (X : mm_C nw K R cc n ret Ts own D N a tys) {x : Int32}(hd : decode cc pc = .ok (.i2b, 1))  (k : mm_G K D cf N a σ (pc + 1) lv (.int x.toInt8.toInt32 :: rest)) : mm_G K D cf N a σ pc lv (.int x :: rest) := by
  obtain ⟨p, l, e, R0, s, m, args, below, meth, c, n0, A, Q⟩ := K
  obtain ⟨⟨hx, hb, hml, hts, hown, hK, hJ, hA1, hA2, hN, hrt, hlk⟩, rfl, rfl⟩ := X
  intro H locs ls hP hS hl
  exact lv_i2b hx hb hd rfl (k H locs ls hP hS hl)
theorem mm_i2s (X : mm_C nw K R cc n ret Ts own D N a tys) {x : Int32}(hd : decode cc pc = .ok (.i2s, 1))  (k : mm_G K D cf N a σ (pc + 1) lv (.int x.toInt16.toInt32 :: rest)) : mm_G K D cf N a σ pc lv (.int x :: rest) := by
  obtain ⟨p, l, e, R0, s, m, args, below, meth, c, n0, A, Q⟩ := K
  obtain ⟨⟨hx, hb, hml, hts, hown, hK, hJ, hA1, hA2, hN, hrt, hlk⟩, rfl, rfl⟩ := X
  intro H locs ls hP hS hl
  exact lv_i2s hx hb hd rfl (k H locs ls hP hS hl)
theorem mm_dup (X : mm_C nw K R cc n ret Ts own D N a tys) {v : Value} (hd : decode cc pc = .ok (.dup, 1)) (hc : v.category = 1) (k : mm_G K D cf N a σ (pc + 1) lv (v :: v :: rest)) : mm_G K D cf N a σ pc lv (v :: rest) := by
  obtain ⟨p, l, e, R0, s, m, args, below, meth, c, n0, A, Q⟩ := K
  obtain ⟨⟨hx, hb, hml, hts, hown, hK, hJ, hA1, hA2, hN, hrt, hlk⟩, rfl, rfl⟩ := X
  intro H locs ls hP hS hl
  exact lv_dup hx hb hd hc (k H locs ls hP hS hl)
theorem mm_dup2 (X : mm_C nw K R cc n ret Ts own D N a tys) {v w : Value} (hd : decode cc pc = .ok (.dup2, 1)) (hc : v.category = 1) (hc2 : w.category = 1) (k : mm_G K D cf N a σ (pc + 1) lv (v :: w :: v :: w :: rest)) : mm_G K D cf N a σ pc lv (v :: w :: rest) := by
  obtain ⟨p, l, e, R0, s, m, args, below, meth, c, n0, A, Q⟩ := K
  obtain ⟨⟨hx, hb, hml, hts, hown, hK, hJ, hA1, hA2, hN, hrt, hlk⟩, rfl, rfl⟩ := X
  intro H locs ls hP hS hl
  exact lv_dup2_11 hx hb hd hc hc2 (k H locs ls hP hS hl)
theorem mm_ldc (X : mm_C nw K R cc n ret Ts own D N a tys) {i : Nat} {v : Int32} (hd : decode cc pc = .ok (.ldc i, 2)) (hw : (Jvm.Cond.constant own i v) ∈ Ts) (k : mm_G K D cf N a σ (pc + 2) lv (.int v :: rest)) : mm_G K D cf N a σ pc lv rest := by
  obtain ⟨p, l, e, R0, s, m, args, below, meth, c, n0, A, Q⟩ := K
  obtain ⟨⟨hx, hb, hml, hts, hown, hK, hJ, hA1, hA2, hN, hrt, hlk⟩, rfl, rfl⟩ := X
  intro H locs ls hP hS hl
  exact lv_ldc hx hb hown (hts _ hw) hd (k H locs ls hP hS hl)
theorem mm_ldc2 (X : mm_C nw K R cc n ret Ts own D N a tys) {i : Nat} {v : Int64} (hd : decode cc pc = .ok (.ldc2_w i, 3)) (hw : (Jvm.Cond.constantLong own i v) ∈ Ts) (k : mm_G K D cf N a σ (pc + 3) lv (.long v :: rest)) : mm_G K D cf N a σ pc lv rest := by
  obtain ⟨p, l, e, R0, s, m, args, below, meth, c, n0, A, Q⟩ := K
  obtain ⟨⟨hx, hb, hml, hts, hown, hK, hJ, hA1, hA2, hN, hrt, hlk⟩, rfl, rfl⟩ := X
  intro H locs ls hP hS hl
  exact lv_ldc2 hx hb hown (hts _ hw) hd (k H locs ls hP hS hl)
theorem mm_if_eq (X : mm_C nw K R cc n ret Ts own D N a tys) {x : Int32} {off : Int} {tgt : Nat} (hd : decode cc pc = .ok (.ifCond .eq off, 3)) (ht : (pc : Int) + off = (tgt : Int)) (kt : x = 0 → mm_G K D cf N a σ tgt lv rest) (kf : ¬ x = 0 → mm_G K D cf N a σ (pc + 3) lv rest) : mm_G K D cf N a σ pc lv (.int x :: rest) := by
  obtain ⟨p, l, e, R0, s, m, args, below, meth, c, n0, A, Q⟩ := K
  obtain ⟨⟨hx, hb, hml, hts, hown, hK, hJ, hA1, hA2, hN, hrt, hlk⟩, rfl, rfl⟩ := X
  intro H locs ls hP hS hl
  exact lv_if_eq hx hb hd ht (fun h => kt h H locs ls hP hS hl) (fun h => kf h H locs ls hP hS hl)
theorem mm_if_ne (X : mm_C nw K R cc n ret Ts own D N a tys) {x : Int32} {off : Int} {tgt : Nat} (hd : decode cc pc = .ok (.ifCond .ne off, 3)) (ht : (pc : Int) + off = (tgt : Int)) (kt : ¬ x = 0 → mm_G K D cf N a σ tgt lv rest) (kf : x = 0 → mm_G K D cf N a σ (pc + 3) lv rest) : mm_G K D cf N a σ pc lv (.int x :: rest) := by
  obtain ⟨p, l, e, R0, s, m, args, below, meth, c, n0, A, Q⟩ := K
  obtain ⟨⟨hx, hb, hml, hts, hown, hK, hJ, hA1, hA2, hN, hrt, hlk⟩, rfl, rfl⟩ := X
  intro H locs ls hP hS hl
  exact lv_if_ne hx hb hd ht (fun h => kt h H locs ls hP hS hl) (fun h => kf h H locs ls hP hS hl)
theorem mm_if_lt (X : mm_C nw K R cc n ret Ts own D N a tys) {x : Int32} {off : Int} {tgt : Nat} (hd : decode cc pc = .ok (.ifCond .lt off, 3)) (ht : (pc : Int) + off = (tgt : Int)) (kt : x < 0 → mm_G K D cf N a σ tgt lv rest) (kf : ¬ x < 0 → mm_G K D cf N a σ (pc + 3) lv rest) : mm_G K D cf N a σ pc lv (.int x :: rest) := by
  obtain ⟨p, l, e, R0, s, m, args, below, meth, c, n0, A, Q⟩ := K
  obtain ⟨⟨hx, hb, hml, hts, hown, hK, hJ, hA1, hA2, hN, hrt, hlk⟩, rfl, rfl⟩ := X
  intro H locs ls hP hS hl
  exact lv_if_lt hx hb hd ht (fun h => kt h H locs ls hP hS hl) (fun h => kf h H locs ls hP hS hl)
theorem mm_if_ge (X : mm_C nw K R cc n ret Ts own D N a tys) {x : Int32} {off : Int} {tgt : Nat} (hd : decode cc pc = .ok (.ifCond .ge off, 3)) (ht : (pc : Int) + off = (tgt : Int)) (kt : ¬ x < 0 → mm_G K D cf N a σ tgt lv rest) (kf : x < 0 → mm_G K D cf N a σ (pc + 3) lv rest) : mm_G K D cf N a σ pc lv (.int x :: rest) := by
  obtain ⟨p, l, e, R0, s, m, args, below, meth, c, n0, A, Q⟩ := K
  obtain ⟨⟨hx, hb, hml, hts, hown, hK, hJ, hA1, hA2, hN, hrt, hlk⟩, rfl, rfl⟩ := X
  intro H locs ls hP hS hl
  exact lv_if_ge hx hb hd ht (fun h => kt (Int32.not_lt.mpr h) H locs ls hP hS hl) (fun h => kf (Int32.not_le.mp h) H locs ls hP hS hl)
theorem mm_if_gt (X : mm_C nw K R cc n ret Ts own D N a tys) {x : Int32} {off : Int} {tgt : Nat} (hd : decode cc pc = .ok (.ifCond .gt off, 3)) (ht : (pc : Int) + off = (tgt : Int)) (kt : 0 < x → mm_G K D cf N a σ tgt lv rest) (kf : ¬ 0 < x → mm_G K D cf N a σ (pc + 3) lv rest) : mm_G K D cf N a σ pc lv (.int x :: rest) := by
  obtain ⟨p, l, e, R0, s, m, args, below, meth, c, n0, A, Q⟩ := K
  obtain ⟨⟨hx, hb, hml, hts, hown, hK, hJ, hA1, hA2, hN, hrt, hlk⟩, rfl, rfl⟩ := X
  intro H locs ls hP hS hl
  exact lv_if_gt hx hb hd ht (fun h => kt h H locs ls hP hS hl) (fun h => kf h H locs ls hP hS hl)
theorem mm_if_le (X : mm_C nw K R cc n ret Ts own D N a tys) {x : Int32} {off : Int} {tgt : Nat} (hd : decode cc pc = .ok (.ifCond .le off, 3)) (ht : (pc : Int) + off = (tgt : Int)) (kt : ¬ 0 < x → mm_G K D cf N a σ tgt lv rest) (kf : 0 < x → mm_G K D cf N a σ (pc + 3) lv rest) : mm_G K D cf N a σ pc lv (.int x :: rest) := by
  obtain ⟨p, l, e, R0, s, m, args, below, meth, c, n0, A, Q⟩ := K
  obtain ⟨⟨hx, hb, hml, hts, hown, hK, hJ, hA1, hA2, hN, hrt, hlk⟩, rfl, rfl⟩ := X
  intro H locs ls hP hS hl
  exact lv_if_le hx hb hd ht (fun h => kt (Int32.not_lt.mpr h) H locs ls hP hS hl) (fun h => kf (Int32.not_le.mp h) H locs ls hP hS hl)
theorem mm_icmp_eq (X : mm_C nw K R cc n ret Ts own D N a tys) {x y : Int32} {off : Int} {tgt : Nat} (hd : decode cc pc = .ok (.if_icmp .eq off, 3)) (ht : (pc : Int) + off = (tgt : Int)) (kt : x = y → mm_G K D cf N a σ tgt lv rest) (kf : ¬ x = y → mm_G K D cf N a σ (pc + 3) lv rest) : mm_G K D cf N a σ pc lv (.int y :: .int x :: rest) := by
  obtain ⟨p, l, e, R0, s, m, args, below, meth, c, n0, A, Q⟩ := K
  obtain ⟨⟨hx, hb, hml, hts, hown, hK, hJ, hA1, hA2, hN, hrt, hlk⟩, rfl, rfl⟩ := X
  intro H locs ls hP hS hl
  exact lv_icmp_eq hx hb hd ht (fun h => kt h H locs ls hP hS hl) (fun h => kf h H locs ls hP hS hl)
theorem mm_icmp_ne (X : mm_C nw K R cc n ret Ts own D N a tys) {x y : Int32} {off : Int} {tgt : Nat} (hd : decode cc pc = .ok (.if_icmp .ne off, 3)) (ht : (pc : Int) + off = (tgt : Int)) (kt : ¬ x = y → mm_G K D cf N a σ tgt lv rest) (kf : x = y → mm_G K D cf N a σ (pc + 3) lv rest) : mm_G K D cf N a σ pc lv (.int y :: .int x :: rest) := by
  obtain ⟨p, l, e, R0, s, m, args, below, meth, c, n0, A, Q⟩ := K
  obtain ⟨⟨hx, hb, hml, hts, hown, hK, hJ, hA1, hA2, hN, hrt, hlk⟩, rfl, rfl⟩ := X
  intro H locs ls hP hS hl
  exact lv_icmp_ne hx hb hd ht (fun h => kt h H locs ls hP hS hl) (fun h => kf h H locs ls hP hS hl)
theorem mm_icmp_lt (X : mm_C nw K R cc n ret Ts own D N a tys) {x y : Int32} {off : Int} {tgt : Nat} (hd : decode cc pc = .ok (.if_icmp .lt off, 3)) (ht : (pc : Int) + off = (tgt : Int)) (kt : x < y → mm_G K D cf N a σ tgt lv rest) (kf : ¬ x < y → mm_G K D cf N a σ (pc + 3) lv rest) : mm_G K D cf N a σ pc lv (.int y :: .int x :: rest) := by
  obtain ⟨p, l, e, R0, s, m, args, below, meth, c, n0, A, Q⟩ := K
  obtain ⟨⟨hx, hb, hml, hts, hown, hK, hJ, hA1, hA2, hN, hrt, hlk⟩, rfl, rfl⟩ := X
  intro H locs ls hP hS hl
  exact lv_icmp_lt hx hb hd ht (fun h => kt h H locs ls hP hS hl) (fun h => kf h H locs ls hP hS hl)
theorem mm_icmp_ge (X : mm_C nw K R cc n ret Ts own D N a tys) {x y : Int32} {off : Int} {tgt : Nat} (hd : decode cc pc = .ok (.if_icmp .ge off, 3)) (ht : (pc : Int) + off = (tgt : Int)) (kt : ¬ x < y → mm_G K D cf N a σ tgt lv rest) (kf : x < y → mm_G K D cf N a σ (pc + 3) lv rest) : mm_G K D cf N a σ pc lv (.int y :: .int x :: rest) := by
  obtain ⟨p, l, e, R0, s, m, args, below, meth, c, n0, A, Q⟩ := K
  obtain ⟨⟨hx, hb, hml, hts, hown, hK, hJ, hA1, hA2, hN, hrt, hlk⟩, rfl, rfl⟩ := X
  intro H locs ls hP hS hl
  exact lv_icmp_ge hx hb hd ht (fun h => kt (Int32.not_lt.mpr h) H locs ls hP hS hl) (fun h => kf (Int32.not_le.mp h) H locs ls hP hS hl)
theorem mm_icmp_gt (X : mm_C nw K R cc n ret Ts own D N a tys) {x y : Int32} {off : Int} {tgt : Nat} (hd : decode cc pc = .ok (.if_icmp .gt off, 3)) (ht : (pc : Int) + off = (tgt : Int)) (kt : y < x → mm_G K D cf N a σ tgt lv rest) (kf : ¬ y < x → mm_G K D cf N a σ (pc + 3) lv rest) : mm_G K D cf N a σ pc lv (.int y :: .int x :: rest) := by
  obtain ⟨p, l, e, R0, s, m, args, below, meth, c, n0, A, Q⟩ := K
  obtain ⟨⟨hx, hb, hml, hts, hown, hK, hJ, hA1, hA2, hN, hrt, hlk⟩, rfl, rfl⟩ := X
  intro H locs ls hP hS hl
  exact lv_icmp_gt hx hb hd ht (fun h => kt h H locs ls hP hS hl) (fun h => kf h H locs ls hP hS hl)
theorem mm_icmp_le (X : mm_C nw K R cc n ret Ts own D N a tys) {x y : Int32} {off : Int} {tgt : Nat} (hd : decode cc pc = .ok (.if_icmp .le off, 3)) (ht : (pc : Int) + off = (tgt : Int)) (kt : ¬ y < x → mm_G K D cf N a σ tgt lv rest) (kf : y < x → mm_G K D cf N a σ (pc + 3) lv rest) : mm_G K D cf N a σ pc lv (.int y :: .int x :: rest) := by
  obtain ⟨p, l, e, R0, s, m, args, below, meth, c, n0, A, Q⟩ := K
  obtain ⟨⟨hx, hb, hml, hts, hown, hK, hJ, hA1, hA2, hN, hrt, hlk⟩, rfl, rfl⟩ := X
  intro H locs ls hP hS hl
  exact lv_icmp_le hx hb hd ht (fun h => kt (Int32.not_lt.mpr h) H locs ls hP hS hl) (fun h => kf (Int32.not_le.mp h) H locs ls hP hS hl)
theorem mm_goto (X : mm_C nw K R cc n ret Ts own D N a tys) {off : Int} {tgt : Nat} (hd : decode cc pc = .ok (.goto off, 3)) (ht : (pc : Int) + off = (tgt : Int)) (k : mm_G K D cf N a σ tgt lv rest) : mm_G K D cf N a σ pc lv rest := by
  obtain ⟨p, l, e, R0, s, m, args, below, meth, c, n0, A, Q⟩ := K
  obtain ⟨⟨hx, hb, hml, hts, hown, hK, hJ, hA1, hA2, hN, hrt, hlk⟩, rfl, rfl⟩ := X
  intro H locs ls hP hS hl
  exact lv_goto hx hb hd ht (k H locs ls hP hS hl)
theorem mm_swIn (X : mm_C nw K R cc n ret Ts own D N a tys) {x : Int32} {dflt lo hi off : Int} {offs : Array Int} {len tgt : Nat} (hd : decode cc pc = .ok (.tableswitch dflt lo hi offs, len)) (v : Int) (hxv : x.toInt = v) (h1 : lo ≤ v ∧ v ≤ hi) (ho : offs[(v - lo).toNat]? = some off) (ht : (pc : Int) + off = (tgt : Int)) (k : mm_G K D cf N a σ tgt lv rest) : mm_G K D cf N a σ pc lv (.int x :: rest) := by
  obtain ⟨p, l, e, R0, s, m, args, below, meth, c, n0, A, Q⟩ := K
  obtain ⟨⟨hx, hb, hml, hts, hown, hK, hJ, hA1, hA2, hN, hrt, hlk⟩, rfl, rfl⟩ := X
  intro H locs ls hP hS hl
  exact lv_tableIn hx hb hd (by rw [hxv]; omega) (by rw [hxv]; omega) (by rw [hxv]; exact ho) ht (k H locs ls hP hS hl)
theorem mm_swOut (X : mm_C nw K R cc n ret Ts own D N a tys) {x : Int32} {dflt lo hi : Int} {offs : Array Int} {len tgt : Nat} (hd : decode cc pc = .ok (.tableswitch dflt lo hi offs, len)) (h : x.toInt < lo ∨ hi < x.toInt) (ht : (pc : Int) + dflt = (tgt : Int)) (k : mm_G K D cf N a σ tgt lv rest) : mm_G K D cf N a σ pc lv (.int x :: rest) := by
  obtain ⟨p, l, e, R0, s, m, args, below, meth, c, n0, A, Q⟩ := K
  obtain ⟨⟨hx, hb, hml, hts, hown, hK, hJ, hA1, hA2, hN, hrt, hlk⟩, rfl, rfl⟩ := X
  intro H locs ls hP hS hl
  exact lv_tableOut hx hb hd h ht (k H locs ls hP hS hl)
theorem mm_loc (ks : List Nat) {lv2 : List (Nat × Value)} (hv : lv_pick lv ks = lv2) (k : mm_G K D cf N a σ pc lv2 rest) : mm_G K D cf N a σ pc lv rest := by
  obtain ⟨p, l, e, R0, s, m, args, below, meth, c, n0, A, Q⟩ := K
  exact fun H locs ls hP hS hl => k H locs ls hP hS (lv_sub hl ks hv)
theorem mm_get (X : mm_C nw K R cc n ret Ts own D N a tys) {ref C : String} {T : u_T} {M ci index : Nat} (hd : decode cc pc = .ok (.getfield index, 3)) (o j : Nat) (ho : o < N) {fs : List Value} (he : cf a o (σ o) = .inr (ci, fs)) (hc : vwCl[ci]? = some (C, T, M)) (hj : j < M) (hin : ∀ w ∈ u_ws C T M, w ∈ Ts) (hlink : (Cond.fieldLink own index ref (T j).2.1 (T j).2.2.1) ∈ Ts) (hsame : (T j).1 = ref) {v : Value} (hv : fs[j]? = some v) (k : mm_G K D cf N a σ (pc + 3) lv (v :: rest)) : mm_G K D cf N a σ pc lv (.ref (a o) :: rest) := by
  obtain ⟨p, l, e, R0, s, m, args, below, meth, c, n0, A, Q⟩ := K
  obtain ⟨⟨hx, hb, hml, hts, hown, hK, hJ, hA1, hA2, hN, hrt, hlk⟩, rfl, rfl⟩ := X
  intro H locs ls hP hS hl
  exact va_get hx hb hts hin hown hK hP o ((mm_W_at ho).trans (by rw [he])) hc j hj (hts _ hlink) (fun x h => by rw [← hsame]; exact h) hv hd (k H locs ls hP hS hl)
theorem mm_put (X : mm_C nw K R cc n ret Ts own D N a tys) {ref C : String} {T : u_T} {M ci index : Nat} (hd : decode cc pc = .ok (.putfield index, 3)) (o j : Nat) (ho : o < N) {fs : List Value} {x : Int32} (ty0 : Nat → FieldType) (hty : ∀ k, k < M → parseFieldDescriptor (T k).2.2.1 = some (ty0 k)) (hnm : ∀ a, a < M → ∀ b, b < M → a ≠ b → (T a).2.1 ≠ (T b).2.1) (he : cf a o (σ o) = .inr (ci, fs)) (he2 : cf a o (upd (σ o) j x) = .inr (ci, fs.set j (.int x))) (hc : vwCl[ci]? = some (C, T, M)) (hj : j < M) (hin : ∀ w ∈ u_ws C T M, w ∈ Ts) (hlink : (Cond.fieldLink own index ref (T j).2.1 (T j).2.2.1) ∈ Ts) (hsame : (T j).1 = ref) (hfin : (T j).2.2.2 = false) (hdt : (T j).2.2.1 = "I") (hlen : j < fs.length) (k : mm_G K D cf N a (mm_up σ o j x) (pc + 3) lv rest) : mm_G K D cf N a σ pc lv (.int x :: .ref (a o) :: rest) := by
  obtain ⟨p, l, e, R0, s, m, args, below, meth, c, n0, A, Q⟩ := K
  obtain ⟨⟨hx, hb, hml, hts, hown, hK, hJ, hA1, hA2, hN, hrt, hlk⟩, rfl, rfl⟩ := X
  intro H locs ls hP hS hl
  refine va_put (ty := .int) hx hb hts hin ty0 hty hnm hown hK hP (mm_D hJ hA1) hS o ((mm_W_at ho).trans (by rw [he])) hc j hj (hts _ hlink) (fun x h => by rw [← hsame]; exact h) hfin (by rw [hdt]; decide +kernel) rfl rfl hlen hd (fun H1 locs1 hP1 hD1 hS1 => ?_)
  rw [mm_W_set he2] at hP1
  exact k H1 locs1 ls hP1 hS1 hl
theorem mm_getN (X : mm_C nw K R cc n ret Ts own D N a tys) {ref C host : String} {T : u_T} {M ci index : Nat} (hd : decode cc pc = .ok (.getfield index, 3)) (o j : Nat) (ho : o < N) {fs : List Value} (he : cf a o (σ o) = .inr (ci, fs)) (hc : vwCl[ci]? = some (C, T, M)) (hj : j < M) (hin : ∀ w ∈ u_ws C T M, w ∈ Ts) (hlink : (Cond.fieldLinkNest own index ref (T j).2.1 (T j).2.2.1 host) ∈ nw) (hsame : (T j).1 = ref) {v : Value} (hv : fs[j]? = some v) (k : mm_G K D cf N a σ (pc + 3) lv (v :: rest)) : mm_G K D cf N a σ pc lv (.ref (a o) :: rest) := by
  obtain ⟨p, l, e, R0, s, m, args, below, meth, c, n0, A, Q⟩ := K
  obtain ⟨⟨hx, hb, hml, hts, hown, hK, hJ, hA1, hA2, hN, hrt, hlk⟩, rfl, rfl⟩ := X
  intro H locs ls hP hS hl
  exact va_getN hx hb hts hin hown hK hP o ((mm_W_at ho).trans (by rw [he])) hc j hj (hN.use hlink) (fun x h => by rw [← hsame]; exact h) hv hd (k H locs ls hP hS hl)
theorem mm_putN (X : mm_C nw K R cc n ret Ts own D N a tys) {ref C host : String} {T : u_T} {M ci index : Nat} (hd : decode cc pc = .ok (.putfield index, 3)) (o j : Nat) (ho : o < N) {fs : List Value} {x : Int32} (ty0 : Nat → FieldType) (hty : ∀ k, k < M → parseFieldDescriptor (T k).2.2.1 = some (ty0 k)) (hnm : ∀ a, a < M → ∀ b, b < M → a ≠ b → (T a).2.1 ≠ (T b).2.1) (he : cf a o (σ o) = .inr (ci, fs)) (he2 : cf a o (upd (σ o) j x) = .inr (ci, fs.set j (.int x))) (hc : vwCl[ci]? = some (C, T, M)) (hj : j < M) (hin : ∀ w ∈ u_ws C T M, w ∈ Ts) (hlink : (Cond.fieldLinkNest own index ref (T j).2.1 (T j).2.2.1 host) ∈ nw) (hsame : (T j).1 = ref) (hfin : (T j).2.2.2 = false) (hdt : (T j).2.2.1 = "I") (hlen : j < fs.length) (k : mm_G K D cf N a (mm_up σ o j x) (pc + 3) lv rest) : mm_G K D cf N a σ pc lv (.int x :: .ref (a o) :: rest) := by
  obtain ⟨p, l, e, R0, s, m, args, below, meth, c, n0, A, Q⟩ := K
  obtain ⟨⟨hx, hb, hml, hts, hown, hK, hJ, hA1, hA2, hN, hrt, hlk⟩, rfl, rfl⟩ := X
  intro H locs ls hP hS hl
  refine va_putN (ty := .int) hx hb hts hin ty0 hty hnm hown hK hP (mm_D hJ hA1) hS o ((mm_W_at ho).trans (by rw [he])) hc j hj (hN.use hlink) (fun x h => by rw [← hsame]; exact h) hfin (by rw [hdt]; decide +kernel) rfl rfl hlen hd (fun H1 locs1 hP1 hD1 hS1 => ?_)
  rw [mm_W_set he2] at hP1
  exact k H1 locs1 ls hP1 hS1 hl
theorem mm_iald (X : mm_C nw K R cc n ret Ts own D N a tys) {cA : ClassId} {M : Nat} {i v : Int32} (hd : decode cc pc = .ok (.iaload, 1)) (o t : Nat) (ho : o < N) (he : cf a o (σ o) = .inl (cA, M, .inl (σ o))) (ht : tys[t]? = some (cA, .int)) (hi : ¬ (i < 0 ∨ M ≤ i.toNatClampNeg)) (hv : σ o i.toNatClampNeg = v) (k : mm_G K D cf N a σ (pc + 1) lv (.int v :: rest)) : mm_G K D cf N a σ pc lv (.int i :: .ref (a o) :: rest) := by
  obtain ⟨p, l, e, R0, s, m, args, below, meth, c, n0, A, Q⟩ := K
  obtain ⟨⟨hx, hb, hml, hts, hown, hK, hJ, hA1, hA2, hN, hrt, hlk⟩, rfl, rfl⟩ := X
  intro H locs ls hP hS hl
  subst hv
  exact va_iald hx hb hK hP o t ((mm_W_at ho).trans (by rw [he])) ht hi hd (k H locs ls hP hS hl)
theorem mm_zald (X : mm_C nw K R cc n ret Ts own D N a tys) {cA : ClassId} {M : Nat} {i v : Int32} (hd : decode cc pc = .ok (.baload, 1)) (o t : Nat) (ho : o < N) (he : cf a o (σ o) = .inl (cA, M, .inl (σ o))) (ht : tys[t]? = some (cA, .boolean)) (hi : ¬ (i < 0 ∨ M ≤ i.toNatClampNeg)) (hv : σ o i.toNatClampNeg = v) (k : mm_G K D cf N a σ (pc + 1) lv (.int v :: rest)) : mm_G K D cf N a σ pc lv (.int i :: .ref (a o) :: rest) := by
  obtain ⟨p, l, e, R0, s, m, args, below, meth, c, n0, A, Q⟩ := K
  obtain ⟨⟨hx, hb, hml, hts, hown, hK, hJ, hA1, hA2, hN, hrt, hlk⟩, rfl, rfl⟩ := X
  intro H locs ls hP hS hl
  subst hv
  exact va_zald hx hb hK hP o t ((mm_W_at ho).trans (by rw [he])) ht hi hd (k H locs ls hP hS hl)
theorem mm_iast (X : mm_C nw K R cc n ret Ts own D N a tys) {cA : ClassId} {M : Nat} {i x : Int32} (hd : decode cc pc = .ok (.iastore, 1)) (o t : Nat) (ho : o < N) (he : ∀ f : Nat → Int32, cf a o f = .inl (cA, M, .inl f)) (ht : tys[t]? = some (cA, .int)) (hi : ¬ (i < 0 ∨ M ≤ i.toNatClampNeg)) (k : mm_G K D cf N a (mm_up σ o i.toNatClampNeg x) (pc + 1) lv rest) : mm_G K D cf N a σ pc lv (.int x :: .int i :: .ref (a o) :: rest) := by
  obtain ⟨p, l, e, R0, s, m, args, below, meth, c, n0, A, Q⟩ := K
  obtain ⟨⟨hx, hb, hml, hts, hown, hK, hJ, hA1, hA2, hN, hrt, hlk⟩, rfl, rfl⟩ := X
  intro H locs ls hP hS hl
  refine va_iast hx hb hK hP (mm_D hJ hA1) hS o t ((mm_W_at ho).trans (by rw [he])) ht hi hd (fun H1 locs1 hP1 hD1 hS1 => ?_)
  rw [mm_W_set (he _)] at hP1
  exact k H1 locs1 ls hP1 hS1 hl
theorem mm_zast (X : mm_C nw K R cc n ret Ts own D N a tys) {cA : ClassId} {M : Nat} {i x : Int32} (hd : decode cc pc = .ok (.bastore, 1)) (o t : Nat) (ho : o < N) (he : ∀ f : Nat → Int32, cf a o f = .inl (cA, M, .inl f)) (ht : tys[t]? = some (cA, .boolean)) (hi : ¬ (i < 0 ∨ M ≤ i.toNatClampNeg)) (k : mm_G K D cf N a (mm_up σ o i.toNatClampNeg (vp_nar .boolean x)) (pc + 1) lv rest) : mm_G K D cf N a σ pc lv (.int x :: .int i :: .ref (a o) :: rest) := by
  obtain ⟨p, l, e, R0, s, m, args, below, meth, c, n0, A, Q⟩ := K
  obtain ⟨⟨hx, hb, hml, hts, hown, hK, hJ, hA1, hA2, hN, hrt, hlk⟩, rfl, rfl⟩ := X
  intro H locs ls hP hS hl
  refine va_zast hx hb hK hP (mm_D hJ hA1) hS o t ((mm_W_at ho).trans (by rw [he])) ht hi hd (fun H1 locs1 hP1 hD1 hS1 => ?_)
  rw [mm_W_set (he _)] at hP1
  exact k H1 locs1 ls hP1 hS1 hl
theorem mm_alen (X : mm_C nw K R cc n ret Ts own D N a tys) {cA : ClassId} {M : Nat} {v : Int32} {f : Nat → Int32} {ty : FieldType} (hd : decode cc pc = .ok (.arraylength, 1)) (o t : Nat) (ho : o < N) (he : cf a o (σ o) = .inl (cA, M, .inl f)) (ht : tys[t]? = some (cA, ty)) (hv : Int32.ofNat M = v) (k : mm_G K D cf N a σ (pc + 1) lv (.int v :: rest)) : mm_G K D cf N a σ pc lv (.ref (a o) :: rest) := by
  obtain ⟨p, l, e, R0, s, m, args, below, meth, c, n0, A, Q⟩ := K
  obtain ⟨⟨hx, hb, hml, hts, hown, hK, hJ, hA1, hA2, hN, hrt, hlk⟩, rfl, rfl⟩ := X
  intro H locs ls hP hS hl
  exact va_alen hx hb hK hP o t ((mm_W_at ho).trans (by rw [he])) ht hv hd (k H locs ls hP hS hl)
theorem mm_mmax (X : mm_C nw K R cc n ret Ts own D N a tys) {x y : Int32} {index : Nat} (hd : decode cc pc = .ok (.invokestatic index, 3)) (hlink : (Cond.methodLink own index Lib.Math.max.name) ∈ Ts) (hstat : (Cond.static Lib.Math.max.name) ∈ Ts) (hini : (Cond.initialized "java/lang/Math") ∈ Ts) (hcode : (Cond.code Lib.Math.max.name Lib.Math.max.code 2 (some .int)) ∈ Ts) (hR : 1 ≤ R.frames ∧ (rest.map fun v => v.category).sum + 13 ≤ R.locals) (k : mm_G K D cf N a σ (pc + 3) lv (.int (if x < y then y else x) :: rest)) : mm_G K D cf N a σ pc lv (.int y :: .int x :: rest) := by
  obtain ⟨p, l, e, R0, s, m, args, below, meth, c, n0, A, Q⟩ := K
  obtain ⟨⟨hx, hb, hml, hts, hown, hK, hJ, hA1, hA2, hN, hrt, hlk⟩, rfl, rfl⟩ := X
  intro H locs ls hP hS hl
  exact va_mmax hx hb (hml.trans hl.1.symm) hown (hts _ hlink) (hts _ hstat) (hts _ hini) (hts _ hcode) hR.1 hR.2 (Nat.zero_le _) (Nat.zero_le _) hd (k H locs ls hP hS hl)
theorem mm_mabs (X : mm_C nw K R cc n ret Ts own D N a tys) {x : Int32} {index : Nat} (hd : decode cc pc = .ok (.invokestatic index, 3)) (hlink : (Cond.methodLink own index Lib.Math.abs.name) ∈ Ts) (hstat : (Cond.static Lib.Math.abs.name) ∈ Ts) (hini : (Cond.initialized "java/lang/Math") ∈ Ts) (hcode : (Cond.code Lib.Math.abs.name Lib.Math.abs.code 1 (some .int)) ∈ Ts) (hR : 1 ≤ R.frames ∧ (rest.map fun v => v.category).sum + 13 ≤ R.locals) (k : mm_G K D cf N a σ (pc + 3) lv (.int (if 0 ≤ x then x else 0 - x) :: rest)) : mm_G K D cf N a σ pc lv (.int x :: rest) := by
  obtain ⟨p, l, e, R0, s, m, args, below, meth, c, n0, A, Q⟩ := K
  obtain ⟨⟨hx, hb, hml, hts, hown, hK, hJ, hA1, hA2, hN, hrt, hlk⟩, rfl, rfl⟩ := X
  intro H locs ls hP hS hl
  exact va_mabs hx hb (hml.trans hl.1.symm) hown (hts _ hlink) (hts _ hstat) (hts _ hini) (hts _ hcode) hR.1 hR.2 (Nat.zero_le _) (Nat.zero_le _) hd (k H locs ls hP hS hl)
end MMR
section MMK
variable {nw : List Cond} {K : mm_K} {l : Launch} {R : Room} {n : Nat} {D : va_G} {cf : mm_F} {N : Nat} {a : Nat → Nat} {σ σ2 : mm_M} {pc : Nat} {lv : List (Nat × Value)} {rest : List Value} {cc : ByteArray} {ret : Option FieldType} {Ts : List Cond} {own : String} {tys : List (ClassId × FieldType)}
variable {y : MethodName} {ws ws' : List Cond} {bytes : ByteArray} {maxL index : Nat} {rety : Option FieldType} {rm : Room} {C : String}
theorem mm_free {s : State} {A : Nat → Prop} {N : Nat} {a : Nat → Nat} {H : Heap} {locs : List Loc} (h1 : ∀ k, k < N → A (a k)) (h2 : ∀ q, s.heap.size ≤ q → A q) (hS : va_S A s.heap H locs) : ∀ q, mm_A N a H.size q → A q := by
  intro q h
  rcases h with ⟨k, hk, rfl⟩ | h
  · exact h1 k hk
  · exact h2 q (Nat.le_trans hS.1 h)
theorem mm_callVi (X : mm_C nw K R cc n ret Ts own D N a tys) {As st : List Value} {r : Int32} (hd : decode cc pc = .ok (.invokevirtual index, 3)) {ci : Nat} {fs : List Value} {T : u_T} {M : Nat} (o : Nat) (ho : o < N) (he : cf a o (σ o) = .inr (ci, fs)) (hc : vwCl[ci]? = some (C, T, M)) (hL : mm_L K l) (hM : ∀ sz, Met l y ws rm (mm_P nw D cf N a tys σ (.ref (a o) :: As) sz) (mm_Qi D cf N a r σ2 sz) 0 0 (mm_A N a sz)) (g : GoodIn Ts (wsV own index C y ws)) (hw : ws = Cond.code y bytes maxL rety :: ws') (hr0 : rm.cells = 0 ∧ rm.slots = 0) (hy : y.cls = C ∧ y.cls ≠ "java/lang/invoke/MethodHandle" ∧ y.cls ≠ "java/lang/invoke/VarHandle" ∧ (parseMethodDescriptor y.desc).map (fun d => d.parameters.length) = some As.length) (hR : rm.frames + 1 ≤ R.frames ∧ 8 + (maxL + 11) + rm.locals ≤ R.locals) (hst : st = As.reverse ++ .ref (a o) :: rest) (hroom : (rest.map fun v => v.category).sum ≤ 8) (k : mm_G K D cf N a σ2 (pc + 3) lv (.int r :: rest)) : mm_G K D cf N a σ pc lv st := by
  obtain ⟨p, l1, e, R0, s, m, args, below, meth, c, n0, A, Q⟩ := K
  obtain ⟨⟨hx, hb, hml, hts, hown, hK, hJ, hA1, hA2, hN, hrt, hlk⟩, rfl, rfl⟩ := X
  intro H locs ls hP hS hl
  have hL : l1 = l := hL
  subst hL
  have hF := mm_free hA1 hA2 hS
  refine va_calli (va_runV (As := As) (rest := rest) ⟨hx, hb, hml, hown, hts⟩ (hM H.size) (cwV As.length hts g hw hr0.1 hr0.2 hy hR) ⟨mm_P.blind, va_recv (q := (C, T, M)) hK hP hc ((mm_W_at ho).trans (by rw [he])), fun U hU hW => ⟨rfl, by rw [hU], by rw [hU]; exact hP, va_K.moved hW.alike hK, hN.warm hW⟩⟩ rfl rfl hl.1 hst (lv_room hroom) hd ⟨Nat.zero_le _, Nat.zero_le _⟩) hS (fun q _ h => hF q h) hF (fun r1 u t H1 locs1 ht hvm hw1 hB hz hk hS1 => ?_)
  obtain rfl := hw1
  have hB : va_P D vwCl (mm_W cf N a σ2) t.heap := hB
  rw [ht] at hB
  exact k H1 locs1 ls hB hS1 hl
theorem mm_callVl (X : mm_C nw K R cc n ret Ts own D N a tys) {As st : List Value} {r : Int64} (hd : decode cc pc = .ok (.invokevirtual index, 3)) {ci : Nat} {fs : List Value} {T : u_T} {M : Nat} (o : Nat) (ho : o < N) (he : cf a o (σ o) = .inr (ci, fs)) (hc : vwCl[ci]? = some (C, T, M)) (hL : mm_L K l) (hM : ∀ sz, Met l y ws rm (mm_P nw D cf N a tys σ (.ref (a o) :: As) sz) (mm_Ql D cf N a r σ2 sz) 0 0 (mm_A N a sz)) (g : GoodIn Ts (wsV own index C y ws)) (hw : ws = Cond.code y bytes maxL rety :: ws') (hr0 : rm.cells = 0 ∧ rm.slots = 0) (hy : y.cls = C ∧ y.cls ≠ "java/lang/invoke/MethodHandle" ∧ y.cls ≠ "java/lang/invoke/VarHandle" ∧ (parseMethodDescriptor y.desc).map (fun d => d.parameters.length) = some As.length) (hR : rm.frames + 1 ≤ R.frames ∧ 8 + (maxL + 11) + rm.locals ≤ R.locals) (hst : st = As.reverse ++ .ref (a o) :: rest) (hroom : (rest.map fun v => v.category).sum ≤ 8) (k : mm_G K D cf N a σ2 (pc + 3) lv (.long r :: rest)) : mm_G K D cf N a σ pc lv st := by
  obtain ⟨p, l1, e, R0, s, m, args, below, meth, c, n0, A, Q⟩ := K
  obtain ⟨⟨hx, hb, hml, hts, hown, hK, hJ, hA1, hA2, hN, hrt, hlk⟩, rfl, rfl⟩ := X
  intro H locs ls hP hS hl
  have hL : l1 = l := hL
  subst hL
  have hF := mm_free hA1 hA2 hS
  refine va_calll (va_runV (As := As) (rest := rest) ⟨hx, hb, hml, hown, hts⟩ (hM H.size) (cwV As.length hts g hw hr0.1 hr0.2 hy hR) ⟨mm_P.blind, va_recv (q := (C, T, M)) hK hP hc ((mm_W_at ho).trans (by rw [he])), fun U hU hW => ⟨rfl, by rw [hU], by rw [hU]; exact hP, va_K.moved hW.alike hK, hN.warm hW⟩⟩ rfl rfl hl.1 hst (lv_room hroom) hd ⟨Nat.zero_le _, Nat.zero_le _⟩) hS (fun q _ h => hF q h) hF (fun r1 u t H1 locs1 ht hvm hw1 hB hz hk hS1 => ?_)
  obtain rfl := hw1
  have hB : va_P D vwCl (mm_W cf N a σ2) t.heap := hB
  rw [ht] at hB
  exact k H1 locs1 ls hB hS1 hl
theorem mm_callVv (X : mm_C nw K R cc n ret Ts own D N a tys) {As st : List Value} (hd : decode cc pc = .ok (.invokevirtual index, 3)) {ci : Nat} {fs : List Value} {T : u_T} {M : Nat} (o : Nat) (ho : o < N) (he : cf a o (σ o) = .inr (ci, fs)) (hc : vwCl[ci]? = some (C, T, M)) (hL : mm_L K l) (hM : ∀ sz, Met l y ws rm (mm_P nw D cf N a tys σ (.ref (a o) :: As) sz) (mm_Qv D cf N a σ2 sz) 0 0 (mm_A N a sz)) (g : GoodIn Ts (wsV own index C y ws)) (hw : ws = Cond.code y bytes maxL rety :: ws') (hr0 : rm.cells = 0 ∧ rm.slots = 0) (hy : y.cls = C ∧ y.cls ≠ "java/lang/invoke/MethodHandle" ∧ y.cls ≠ "java/lang/invoke/VarHandle" ∧ (parseMethodDescriptor y.desc).map (fun d => d.parameters.length) = some As.length) (hR : rm.frames + 1 ≤ R.frames ∧ 8 + (maxL + 11) + rm.locals ≤ R.locals) (hst : st = As.reverse ++ .ref (a o) :: rest) (hroom : (rest.map fun v => v.category).sum ≤ 8) (k : mm_G K D cf N a σ2 (pc + 3) lv rest) : mm_G K D cf N a σ pc lv st := by
  obtain ⟨p, l1, e, R0, s, m, args, below, meth, c, n0, A, Q⟩ := K
  obtain ⟨⟨hx, hb, hml, hts, hown, hK, hJ, hA1, hA2, hN, hrt, hlk⟩, rfl, rfl⟩ := X
  intro H locs ls hP hS hl
  have hL : l1 = l := hL
  subst hL
  have hF := mm_free hA1 hA2 hS
  refine va_callv (va_runV (As := As) (rest := rest) ⟨hx, hb, hml, hown, hts⟩ (hM H.size) (cwV As.length hts g hw hr0.1 hr0.2 hy hR) ⟨mm_P.blind, va_recv (q := (C, T, M)) hK hP hc ((mm_W_at ho).trans (by rw [he])), fun U hU hW => ⟨rfl, by rw [hU], by rw [hU]; exact hP, va_K.moved hW.alike hK, hN.warm hW⟩⟩ rfl rfl hl.1 hst (lv_room hroom) hd ⟨Nat.zero_le _, Nat.zero_le _⟩) hS (fun q _ h => hF q h) hF (fun u t H1 locs1 ht hvm hw1 hB hz hk hS1 => ?_)
  have hB : va_P D vwCl (mm_W cf N a σ2) t.heap := hB
  rw [ht] at hB
  exact k H1 locs1 ls hB hS1 hl
theorem mm_callSi (X : mm_C nw K R cc n ret Ts own D N a tys) {As st : List Value} {r : Int32} (hd : decode cc pc = .ok (.invokestatic index, 3)) (hL : mm_L K l) (hM : ∀ sz, Met l y ws rm (mm_P nw D cf N a tys σ As sz) (mm_Qi D cf N a r σ2 sz) 0 0 (mm_A N a sz)) (g : GoodIn Ts (va_wsS own index y ws)) (hw : ws = Cond.code y bytes maxL rety :: ws') (hr0 : rm.cells = 0 ∧ rm.slots = 0) (hy : y.cls ≠ "java/lang/invoke/MethodHandle" ∧ y.cls ≠ "java/lang/invoke/VarHandle" ∧ (parseMethodDescriptor y.desc).map (fun d => d.parameters.length) = some As.length) (hR : rm.frames + 1 ≤ R.frames ∧ 8 + (maxL + 11) + rm.locals ≤ R.locals) (hst : st = As.reverse ++ rest) (hroom : (rest.map fun v => v.category).sum ≤ 8) (k : mm_G K D cf N a σ2 (pc + 3) lv (.int r :: rest)) : mm_G K D cf N a σ pc lv st := by
  obtain ⟨p, l1, e, R0, s, m, args, below, meth, c, n0, A, Q⟩ := K
  obtain ⟨⟨hx, hb, hml, hts, hown, hK, hJ, hA1, hA2, hN, hrt, hlk⟩, rfl, rfl⟩ := X
  intro H locs ls hP hS hl
  have hL : l1 = l := hL
  subst hL
  have hF := mm_free hA1 hA2 hS
  refine va_calli (va_runS (As := As) (rest := rest) ⟨hx, hb, hml, hown, hts⟩ (hM H.size) (va_cwS As.length hts g hw hr0.1 hr0.2 hy hR) ⟨mm_P.blind, fun U hU hW => ⟨rfl, by rw [hU], by rw [hU]; exact hP, va_K.moved hW.alike hK, hN.warm hW⟩⟩ rfl rfl hl.1 hst (lv_room hroom) hd ⟨Nat.zero_le _, Nat.zero_le _⟩) hS (fun q _ h => hF q h) hF (fun r1 u t H1 locs1 ht hvm hw1 hB hz hk hS1 => ?_)
  obtain rfl := hw1
  have hB : va_P D vwCl (mm_W cf N a σ2) t.heap := hB
  rw [ht] at hB
  exact k H1 locs1 ls hB hS1 hl
theorem mm_callSv (X : mm_C nw K R cc n ret Ts own D N a tys) {As st : List Value} (hd : decode cc pc = .ok (.invokestatic index, 3)) (hL : mm_L K l) (hM : ∀ sz, Met l y ws rm (mm_P nw D cf N a tys σ As sz) (mm_Qv D cf N a σ2 sz) 0 0 (mm_A N a sz)) (g : GoodIn Ts (va_wsS own index y ws)) (hw : ws = Cond.code y bytes maxL rety :: ws') (hr0 : rm.cells = 0 ∧ rm.slots = 0) (hy : y.cls ≠ "java/lang/invoke/MethodHandle" ∧ y.cls ≠ "java/lang/invoke/VarHandle" ∧ (parseMethodDescriptor y.desc).map (fun d => d.parameters.length) = some As.length) (hR : rm.frames + 1 ≤ R.frames ∧ 8 + (maxL + 11) + rm.locals ≤ R.locals) (hst : st = As.reverse ++ rest) (hroom : (rest.map fun v => v.category).sum ≤ 8) (k : mm_G K D cf N a σ2 (pc + 3) lv rest) : mm_G K D cf N a σ pc lv st := by
  obtain ⟨p, l1, e, R0, s, m, args, below, meth, c, n0, A, Q⟩ := K
  obtain ⟨⟨hx, hb, hml, hts, hown, hK, hJ, hA1, hA2, hN, hrt, hlk⟩, rfl, rfl⟩ := X
  intro H locs ls hP hS hl
  have hL : l1 = l := hL
  subst hL
  have hF := mm_free hA1 hA2 hS
  refine va_callv (va_runS (As := As) (rest := rest) ⟨hx, hb, hml, hown, hts⟩ (hM H.size) (va_cwS As.length hts g hw hr0.1 hr0.2 hy hR) ⟨mm_P.blind, fun U hU hW => ⟨rfl, by rw [hU], by rw [hU]; exact hP, va_K.moved hW.alike hK, hN.warm hW⟩⟩ rfl rfl hl.1 hst (lv_room hroom) hd ⟨Nat.zero_le _, Nat.zero_le _⟩) hS (fun q _ h => hF q h) hF (fun u t H1 locs1 ht hvm hw1 hB hz hk hS1 => ?_)
  have hB : va_P D vwCl (mm_W cf N a σ2) t.heap := hB
  rw [ht] at hB
  exact k H1 locs1 ls hB hS1 hl
theorem mm_iret (X : mm_C nw K R cc n ret Ts own D N a tys) {v r : Int32} (hd : decode cc pc = .ok (.ireturn, 1)) (hr : ret = some .int) (hQ : mm_H K N a (fun sz => mm_Qi D cf N a r σ sz)) (hv : v = r) : mm_G K D cf N a σ pc lv [.int v] := by
  obtain ⟨p, l, e, R0, s, m, args, below, meth, c, n0, A, Q⟩ := K
  obtain ⟨⟨hx, hb, hml, hts, hown, hK, hJ, hA1, hA2, hN, hrt, hlk⟩, rfl, rfl⟩ := X
  intro H locs ls hP hS hl
  obtain ⟨rfl, rfl⟩ := hQ
  subst hv
  exact W.iret (v := v) hx hb (hrt.trans hr) (fun t ht hW => ⟨⟨v, (), rfl, rfl, by show va_P _ _ _ t.heap; rw [ht]; exact hP⟩, hS.F ht⟩) hS.2.2 hd hlk
theorem mm_zret (X : mm_C nw K R cc n ret Ts own D N a tys) {v r : Int32} (hd : decode cc pc = .ok (.ireturn, 1)) (hr : ret = some .boolean) (hn : narrow .boolean (.int v) = .int v) (hQ : mm_H K N a (fun sz => mm_Qi D cf N a r σ sz)) (hv : v = r) : mm_G K D cf N a σ pc lv [.int v] := by
  obtain ⟨p, l, e, R0, s, m, args, below, meth, c, n0, A, Q⟩ := K
  obtain ⟨⟨hx, hb, hml, hts, hown, hK, hJ, hA1, hA2, hN, hrt, hlk⟩, rfl, rfl⟩ := X
  intro H locs ls hP hS hl
  obtain ⟨rfl, rfl⟩ := hQ
  subst hv
  exact W.zret (v := v) hx hb (hrt.trans hr) hn (fun t ht hW => ⟨⟨v, (), rfl, rfl, by show va_P _ _ _ t.heap; rw [ht]; exact hP⟩, hS.F ht⟩) hS.2.2 hd hlk
theorem mm_lret (X : mm_C nw K R cc n ret Ts own D N a tys) {v r : Int64} (hd : decode cc pc = .ok (.lreturn, 1)) (hr : ret = some .long) (hQ : mm_H K N a (fun sz => mm_Ql D cf N a r σ sz)) (hv : v = r) : mm_G K D cf N a σ pc lv [.long v] := by
  obtain ⟨p, l, e, R0, s, m, args, below, meth, c, n0, A, Q⟩ := K
  obtain ⟨⟨hx, hb, hml, hts, hown, hK, hJ, hA1, hA2, hN, hrt, hlk⟩, rfl, rfl⟩ := X
  intro H locs ls hP hS hl
  obtain ⟨rfl, rfl⟩ := hQ
  subst hv
  exact W.lret (v := v) hx hb (hrt.trans hr) (fun t ht hW => ⟨⟨v, (), rfl, rfl, by show va_P _ _ _ t.heap; rw [ht]; exact hP⟩, hS.F ht⟩) hS.2.2 hd hlk
theorem mm_vret (X : mm_C nw K R cc n ret Ts own D N a tys) (hd : decode cc pc = .ok (.return_, 1)) (hr : ret = none) (hQ : mm_H K N a (fun sz => mm_Qv D cf N a σ sz)) : mm_G K D cf N a σ pc lv [] := by
  obtain ⟨p, l, e, R0, s, m, args, below, meth, c, n0, A, Q⟩ := K
  obtain ⟨⟨hx, hb, hml, hts, hown, hK, hJ, hA1, hA2, hN, hrt, hlk⟩, rfl, rfl⟩ := X
  intro H locs ls hP hS hl
  obtain ⟨rfl, rfl⟩ := hQ
  exact W.vret hx hb (hrt.trans hr) (fun t ht hW => ⟨⟨(), rfl, trivial, by show va_P _ _ _ t.heap; rw [ht]; exact hP⟩, hS.F ht⟩) hS.2.2 hd hlk
end MMK
