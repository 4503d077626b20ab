/-! ===== the class: cells 0 to 6 its objects, 7 to 32 the arrays of its rows, 33 to 58 the rows (a row is its array + 26) ===== -/
def dv_len (k : Nat) : Nat := [8, 8, 8, 8, 8, 100, 100, 100, 100, 100, 100, 12, 12, 12, 64, 2048, 67, 10, 4, 3, 12, 84, 7, 4, 4, 240].getD (k - 7) 0
def dv_cf (cI : ClassId) : mm_F := fun a k f => if 33 ≤ k then .inr (4, [.ref (a (k - 26))]) else if 7 ≤ k then .inl (cI, dv_len k, .inl f) else match k with
  | 0 => .inr (7, [.ref (a 1), .ref (a 2), .ref (a 3), .ref (a 4), .ref (a 5), .ref (a 6), .int (f 6)])
  | 1 => .inr (1, [.int (f 0), .ref (a 33), .ref (a 34), .ref (a 35), .ref (a 36), .ref (a 37)])
  | 2 => .inr (2, [.int (f 0), .ref (a 38), .ref (a 39), .ref (a 40), .ref (a 41), .ref (a 42), .ref (a 43)])
  | 3 => .inr (6, [.ref (a 1), .int (f 1), .ref (a 44), .ref (a 45), .ref (a 46)])
  | 4 => .inr (3, [.ref (a 3), .ref (a 47), .ref (a 48)])
  | 5 => .inr (0, [.ref (a 1), .ref (a 3), .int (f 2), .int (f 3), .int (f 4), .int (f 5), .int (f 6), .int (f 7), .int (f 8), .ref (a 49), .ref (a 50), .ref (a 51), .ref (a 52), .ref (a 53), .ref (a 54), .ref (a 55)])
  | _ => .inr (5, [.ref (a 56), .ref (a 57), .ref (a 58)])
theorem dv_cf_0 {cI : ClassId} {a : Nat → Nat} {f : Nat → Int32} : dv_cf cI a 0 f = .inr (7, [.ref (a 1), .ref (a 2), .ref (a 3), .ref (a 4), .ref (a 5), .ref (a 6), .int (f 6)]) := rfl
theorem dv_cf_1 {cI : ClassId} {a : Nat → Nat} {f : Nat → Int32} : dv_cf cI a 1 f = .inr (1, [.int (f 0), .ref (a 33), .ref (a 34), .ref (a 35), .ref (a 36), .ref (a 37)]) := rfl
theorem dv_cf_2 {cI : ClassId} {a : Nat → Nat} {f : Nat → Int32} : dv_cf cI a 2 f = .inr (2, [.int (f 0), .ref (a 38), .ref (a 39), .ref (a 40), .ref (a 41), .ref (a 42), .ref (a 43)]) := rfl
theorem dv_cf_3 {cI : ClassId} {a : Nat → Nat} {f : Nat → Int32} : dv_cf cI a 3 f = .inr (6, [.ref (a 1), .int (f 1), .ref (a 44), .ref (a 45), .ref (a 46)]) := rfl
theorem dv_cf_4 {cI : ClassId} {a : Nat → Nat} {f : Nat → Int32} : dv_cf cI a 4 f = .inr (3, [.ref (a 3), .ref (a 47), .ref (a 48)]) := rfl
theorem dv_cf_5 {cI : ClassId} {a : Nat → Nat} {f : Nat → Int32} : dv_cf cI a 5 f = .inr (0, [.ref (a 1), .ref (a 3), .int (f 2), .int (f 3), .int (f 4), .int (f 5), .int (f 6), .int (f 7), .int (f 8), .ref (a 49), .ref (a 50), .ref (a 51), .ref (a 52), .ref (a 53), .ref (a 54), .ref (a 55)]) := rfl
theorem dv_cf_6 {cI : ClassId} {a : Nat → Nat} {f : Nat → Int32} : dv_cf cI a 6 f = .inr (5, [.ref (a 56), .ref (a 57), .ref (a 58)]) := rfl
theorem dv_cf_row {cI : ClassId} {a : Nat → Nat} {f : Nat → Int32} {j : Nat} (h : 7 ≤ j) : dv_cf cI a (j + 26) f = .inr (4, [.ref (a j)]) := by
  unfold dv_cf
  rw [if_pos (by omega)]
  rw [Nat.add_sub_cancel]
theorem dv_cf_arr {cI : ClassId} {a : Nat → Nat} {f : Nat → Int32} {j : Nat} (h : 7 ≤ j) (h2 : j < 33) : dv_cf cI a j f = .inl (cI, dv_len j, .inl f) := by
  unfold dv_cf
  rw [if_neg (by omega), if_pos h]
theorem dv_len_le (j : Nat) : dv_len j ≤ 2048 := by
  unfold dv_len
  generalize j - 7 = i
  rcases i with _ | _ | _ | _ | _ | _ | _ | _ | _ | _ | _ | _ | _ | _ | _ | _ | _ | _ | _ | _ | _ | _ | _ | _ | _ | _ | i <;> simp
def mm_nw : List Cond := [.fieldLinkNest "LinenTunnel" 65 "LinenTunnel$Kinds" "number" "I" "LinenTunnel", .fieldLinkNest "LinenTunnel$House" 147 "LinenTunnel$Kinds" "colour" "LLinenTunnel$Row;" "LinenTunnel", .fieldLinkNest "LinenTunnel$House" 117 "LinenTunnel$Kinds" "dry" "LLinenTunnel$Row;" "LinenTunnel", .fieldLinkNest "LinenTunnel$House" 161 "LinenTunnel$Kinds" "iron" "LLinenTunnel$Row;" "LinenTunnel", .fieldLinkNest "LinenTunnel" 79 "LinenTunnel$Linen" "number" "I" "LinenTunnel", .fieldLinkNest "LinenTunnel" 86 "LinenTunnel$Linen" "kind" "LLinenTunnel$Row;" "LinenTunnel", .fieldLinkNest "LinenTunnel" 96 "LinenTunnel$Linen" "owner" "LLinenTunnel$Row;" "LinenTunnel", .fieldLinkNest "LinenTunnel" 99 "LinenTunnel$Linen" "chip" "LLinenTunnel$Row;" "LinenTunnel", .fieldLinkNest "LinenTunnel" 102 "LinenTunnel$Linen" "place" "LLinenTunnel$Row;" "LinenTunnel", .fieldLinkNest "LinenTunnel" 105 "LinenTunnel$Linen" "washes" "LLinenTunnel$Row;" "LinenTunnel", .fieldLinkNest "LinenTunnel" 108 "LinenTunnel$Linen" "batch" "LLinenTunnel$Row;" "LinenTunnel", .fieldLinkNest "LinenTunnel$Planner" 33 "LinenTunnel$Waiting" "number" "I" "LinenTunnel", .fieldLinkNest "LinenTunnel$House" 79 "LinenTunnel$Waiting" "number" "I" "LinenTunnel", .fieldLinkNest "LinenTunnel" 147 "LinenTunnel$Waiting" "number" "I" "LinenTunnel", .fieldLinkNest "LinenTunnel$House" 107 "LinenTunnel$Waiting" "kind" "LLinenTunnel$Row;" "LinenTunnel", .fieldLinkNest "LinenTunnel" 166 "LinenTunnel$Waiting" "kind" "LLinenTunnel$Row;" "LinenTunnel", .fieldLinkNest "LinenTunnel$House" 100 "LinenTunnel$Waiting" "size" "LLinenTunnel$Row;" "LinenTunnel", .fieldLinkNest "LinenTunnel" 160 "LinenTunnel$Waiting" "size" "LLinenTunnel$Row;" "LinenTunnel", .fieldLinkNest "LinenTunnel$Planner" 43 "LinenTunnel$Waiting" "order" "LLinenTunnel$Row;" "LinenTunnel", .fieldLinkNest "LinenTunnel$House" 97 "LinenTunnel$Waiting" "order" "LLinenTunnel$Row;" "LinenTunnel", .fieldLinkNest "LinenTunnel" 157 "LinenTunnel$Waiting" "order" "LLinenTunnel$Row;" "LinenTunnel", .fieldLinkNest "LinenTunnel" 190 "LinenTunnel$House" "compartments" "I" "LinenTunnel", .fieldLinkNest "LinenTunnel" 193 "LinenTunnel$House" "dryers" "I" "LinenTunnel", .fieldLinkNest "LinenTunnel" 196 "LinenTunnel$House" "irons" "I" "LinenTunnel", .fieldLinkNest "LinenTunnel" 240 "LinenTunnel$House" "washes" "I" "LinenTunnel", .fieldLinkNest "LinenTunnel" 205 "LinenTunnel$House" "totals" "LLinenTunnel$Row;" "LinenTunnel", .fieldLinkNest "LinenTunnel" 229 "LinenTunnel$Sheets" "form" "LLinenTunnel$Row;" "LinenTunnel", .fieldLinkNest "LinenTunnel" 221 "LinenTunnel$Sheets" "size" "LLinenTunnel$Row;" "LinenTunnel", .methodLinkNest "LinenTunnel" 11 ⟨"LinenTunnel$Kinds", "<init>", "()V"⟩ "LinenTunnel", .methodLinkNest "LinenTunnel" 18 ⟨"LinenTunnel$Linen", "<init>", "()V"⟩ "LinenTunnel"]
abbrev dG (K : mm_K) (D : va_G) (cI : ClassId) (a : Nat → Nat) : mm_M → Nat → List (Nat × Value) → List Value → Prop := mm_G K D (dv_cf cI) 59 a
abbrev dC (K : mm_K) (R : Room) (cc : ByteArray) (n : Nat) (ret : Option FieldType) (Ts : List Cond) (own : String) (D : va_G) (cI : ClassId) (a : Nat → Nat) : Prop := mm_C mm_nw K R cc n ret Ts own D 59 a [(cI, .int)]
abbrev dP (D : va_G) (cI : ClassId) (a : Nat → Nat) (σ : mm_M) (av : List Value) (sz : Nat) : Array Value → State → Prop := mm_P mm_nw D (dv_cf cI) 59 a [(cI, .int)] σ av sz
abbrev dQi (D : va_G) (cI : ClassId) (a : Nat → Nat) (r : Int32) (σ : mm_M) (sz : Nat) : Array Value → State → Outcome → State → Prop := mm_Qi D (dv_cf cI) 59 a r σ sz
abbrev dQl (D : va_G) (cI : ClassId) (a : Nat → Nat) (r : Int64) (σ : mm_M) (sz : Nat) : Array Value → State → Outcome → State → Prop := mm_Ql D (dv_cf cI) 59 a r σ sz
abbrev dQv (D : va_G) (cI : ClassId) (a : Nat → Nat) (σ : mm_M) (sz : Nat) : Array Value → State → Outcome → State → Prop := mm_Qv D (dv_cf cI) 59 a σ sz
/-! ===== the reference: cell 0 its object, 1 to 28 its arrays ===== -/
def md_len (k : Nat) : Nat := [0, 8, 8, 8, 8, 8, 100, 100, 100, 100, 100, 100, 12, 12, 240, 12, 3072, 100, 10, 4, 3, 7, 84, 12, 4, 4, 4, 240, 60].getD k 0
def md_cf (cI cZ : ClassId) : mm_F := fun a k f => if k = 0 then .inr (8, [.int (f 0), .ref (a 1), .ref (a 2), .ref (a 3), .ref (a 4), .ref (a 5), .int (f 6), .ref (a 6), .ref (a 7), .ref (a 8), .ref (a 9), .ref (a 10), .ref (a 11), .int (f 13), .ref (a 12), .ref (a 13), .ref (a 14), .ref (a 15), .int (f 18), .int (f 19), .int (f 20), .int (f 21), .ref (a 16), .ref (a 17), .ref (a 18), .ref (a 19), .ref (a 20), .ref (a 21), .int (f 28), .ref (a 22), .ref (a 23), .ref (a 24), .ref (a 25), .ref (a 26), .ref (a 27), .ref (a 28), .int (f 36)]) else if k = 3 ∨ k = 8 ∨ k = 24 then .inl (cZ, md_len k, .inl f) else .inl (cI, md_len k, .inl f)
theorem md_cf_0 {cI cZ : ClassId} {a : Nat → Nat} {f : Nat → Int32} : md_cf cI cZ a 0 f = .inr (8, [.int (f 0), .ref (a 1), .ref (a 2), .ref (a 3), .ref (a 4), .ref (a 5), .int (f 6), .ref (a 6), .ref (a 7), .ref (a 8), .ref (a 9), .ref (a 10), .ref (a 11), .int (f 13), .ref (a 12), .ref (a 13), .ref (a 14), .ref (a 15), .int (f 18), .int (f 19), .int (f 20), .int (f 21), .ref (a 16), .ref (a 17), .ref (a 18), .ref (a 19), .ref (a 20), .ref (a 21), .int (f 28), .ref (a 22), .ref (a 23), .ref (a 24), .ref (a 25), .ref (a 26), .ref (a 27), .ref (a 28), .int (f 36)]) := rfl
abbrev eG (K : mm_K) (D : va_G) (cI cZ : ClassId) (a : Nat → Nat) : mm_M → Nat → List (Nat × Value) → List Value → Prop := mm_G K D (md_cf cI cZ) 29 a
abbrev eC (K : mm_K) (R : Room) (cc : ByteArray) (n : Nat) (ret : Option FieldType) (Ts : List Cond) (own : String) (D : va_G) (cI cZ : ClassId) (a : Nat → Nat) : Prop := mm_C mm_nw K R cc n ret Ts own D 29 a [(cI, .int), (cZ, .boolean)]
abbrev eP (D : va_G) (cI cZ : ClassId) (a : Nat → Nat) (σ : mm_M) (av : List Value) (sz : Nat) : Array Value → State → Prop := mm_P mm_nw D (md_cf cI cZ) 29 a [(cI, .int), (cZ, .boolean)] σ av sz
abbrev eQi (D : va_G) (cI cZ : ClassId) (a : Nat → Nat) (r : Int32) (σ : mm_M) (sz : Nat) : Array Value → State → Outcome → State → Prop := mm_Qi D (md_cf cI cZ) 29 a r σ sz
abbrev eQl (D : va_G) (cI cZ : ClassId) (a : Nat → Nat) (r : Int64) (σ : mm_M) (sz : Nat) : Array Value → State → Outcome → State → Prop := mm_Ql D (md_cf cI cZ) 29 a r σ sz
abbrev eQv (D : va_G) (cI cZ : ClassId) (a : Nat → Nat) (σ : mm_M) (sz : Nat) : Array Value → State → Outcome → State → Prop := mm_Qv D (md_cf cI cZ) 29 a σ sz
/-- an index looked at -/
def mm_g {α : Type} (n : Nat) (i : Int32) (k : Option α) : Option α := if ¬ (i < 0 ∨ n ≤ i.toNatClampNeg) then k else none
theorem mm_g_some {α : Type} {n : Nat} {i : Int32} {k : Option α} {r : α} (h : mm_g n i k = some r) : ¬ (i < 0 ∨ n ≤ i.toNatClampNeg) ∧ k = some r := by
  unfold mm_g at h
  split at h
  · exact ⟨by assumption, h⟩
  · cases h
theorem mm_g_ok {α : Type} {n j : Nat} {k : Option α} (h : j < n) (hn : n < 2 ^ 31) : mm_g n (nI j) k = k := by
  unfold mm_g
  rw [if_pos (nI_in h hn)]
/-- the class's rows: what they read, write, fill -/
def dr_rd (σ : mm_M) (j : Nat) (i : Int32) : Int32 := if i < 0 then 0 else if i < nI (dv_len j) then σ j i.toNatClampNeg else 0
def dr_wr (σ : mm_M) (j : Nat) (i v : Int32) : mm_M := fun c => if c = j then (if i < 0 then σ j else if i < nI (dv_len j) then upd (σ j) i.toNatClampNeg v else σ j) else σ c
def dr_fl (σ : mm_M) (j : Nat) (v : Int32) : mm_M := fun c => if c = j then (fun i => if i < dv_len j then v else σ j i) else σ c
