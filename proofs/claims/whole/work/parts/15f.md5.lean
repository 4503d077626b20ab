/-! LinenTunnelModel.wash -/
def fX8_wash_52 (F : Nat) (l2 : Int32) (l3 : Int32) : Nat → Int32 → Int32 → mm_M → Option (Int32 × mm_M)
  | 0, _, _, _ => none
  | k + 1, l1, l4, σ => (if l4 < l3 then mm_g 100 l1 (fX8_wash_52 F l2 l3 k (l1 + 1) (l4 + 1) (mm_up σ 17 l1.toNatClampNeg (-1 : Int32))) else some (l1, σ))
def fX8_wash_14 (F : Nat) : Nat → Int32 → Int32 → mm_M → Option (Int32 × mm_M)
  | 0, _, _, _ => none
  | k + 1, l1, l2, σ => (if l2 < (σ 0 13) then ((if l2 = 0 then some ((0 : Int32)) else mm_g 12 (l2 - (1 : Int32)) (mm_g 12 l2 ((fX8_betweenBatches σ (σ 15 (l2 - (1 : Int32)).toNatClampNeg) (σ 15 l2.toNatClampNeg)).bind fun q7 => some (q7))))).bind fun q2 => (fX8_wash_52 F l2 q2 F l1 (0 : Int32) σ).bind fun q8 => mm_g 100 q8.1 (fX8_wash_14 F k (q8.1 + 1) (l2 + 1) (mm_up q8.2 17 q8.1.toNatClampNeg l2)) else some (l1, σ))
def fX8_wash_92 (F : Nat) (l1 : Int32) : Nat → Int32 → mm_M → Option (mm_M)
  | 0, _, _ => none
  | k + 1, l2, σ => (if l2 < (10 : Int32) then mm_g 10 l2 (fX8_wash_92 F l1 k (l2 + 1) (mm_up σ 18 l2.toNatClampNeg (-1 : Int32))) else some (σ))
def fX8_wash_113 (F : Nat) (l1 : Int32) : Nat → Int32 → mm_M → Option (mm_M)
  | 0, _, _ => none
  | k + 1, l2, σ => (if l2 < (4 : Int32) then mm_g 4 l2 (fX8_wash_113 F l1 k (l2 + 1) (mm_up σ 19 l2.toNatClampNeg (0 : Int32))) else some (σ))
def fX8_wash_241 (F : Nat) (l1 : Int32) (l2 : Int32) (l3 : Int32) (l4 : Int32) (l5 : Int32) (l6 : Int32) (l7 : Int32) : Nat → Int32 → mm_M → Option (mm_M)
  | 0, _, _ => none
  | k + 1, l9, σ => (if 0 < l9 then mm_g 10 (l9 - (1 : Int32)) (mm_g 10 l9 (fX8_wash_241 F l1 l2 l3 l4 l5 l6 l7 k (l9 + (-1 : Int32)) (mm_up σ 18 l9.toNatClampNeg (σ 18 (l9 - (1 : Int32)).toNatClampNeg)))) else some (σ))
def fX8_wash_155 (F : Nat) (l1 : Int32) (l7 : Int32) : Nat → Int32 → Int32 → Int32 → Int32 → Int32 → mm_M → Option (Int32 × Int32 × Int32 × mm_M)
  | 0, _, _, _, _, _, _ => none
  | k + 1, l2, l3, l4, l5, l6, σ => (if l6 < (σ 0 13) then mm_g 10 ((σ 0 18) - (1 : Int32)) ((if (σ 18 ((σ 0 18) - (1 : Int32)).toNatClampNeg) = (-1 : Int32) then ((if (σ 18 ((σ 0 18) - (1 : Int32)).toNatClampNeg) = (-1 : Int32) then some (l6, σ) else (fX8_goesOut F σ (σ 18 ((σ 0 18) - (1 : Int32)).toNatClampNeg) (l2 + 1) l6).bind fun q7 => some ((l6 + 1), q7))).bind fun q4 => (fX8_wash_241 F l1 (l2 + 1) l3 l4 l5 q4.1 l7 F ((q4.2 0 18) - (1 : Int32)) q4.2).bind fun q8 => ((if l5 < l1 then mm_g 100 l5 (some ((q8 17 l5.toNatClampNeg))) else some ((-1 : Int32)))).bind fun q9 => mm_g 10 (0 : Int32) (mm_g 10 (0 : Int32) (((if ((mm_up q8 18 (0 : Int32).toNatClampNeg q9) 18 (0 : Int32).toNatClampNeg) = (-1 : Int32) then some ((mm_up q8 18 (0 : Int32).toNatClampNeg q9)) else mm_g 10 (0 : Int32) (mm_g 84 (((7 : Int32) * ((mm_up q8 18 (0 : Int32).toNatClampNeg q9) 18 (0 : Int32).toNatClampNeg)) + (1 : Int32)) (mm_g 10 (0 : Int32) (mm_g 10 (0 : Int32) ((fX8_kindAt (mm_up (mm_up q8 18 (0 : Int32).toNatClampNeg q9) 22 (((7 : Int32) * ((mm_up q8 18 (0 : Int32).toNatClampNeg q9) 18 (0 : Int32).toNatClampNeg)) + (1 : Int32)).toNatClampNeg (l2 + 1)) ((mm_up q8 18 (0 : Int32).toNatClampNeg q9) 18 (0 : Int32).toNatClampNeg)).bind fun q22 => mm_g 84 ((7 : Int32) * ((mm_up q8 18 (0 : Int32).toNatClampNeg q9) 18 (0 : Int32).toNatClampNeg)) (some ((mm_up (mm_up (mm_up q8 18 (0 : Int32).toNatClampNeg q9) 22 (((7 : Int32) * ((mm_up q8 18 (0 : Int32).toNatClampNeg q9) 18 (0 : Int32).toNatClampNeg)) + (1 : Int32)).toNatClampNeg (l2 + 1)) 22 ((7 : Int32) * ((mm_up q8 18 (0 : Int32).toNatClampNeg q9) 18 (0 : Int32).toNatClampNeg)).toNatClampNeg q22))))))))).bind fun q15 => (fX8_waterNow F q15).bind fun q24 => fX8_wash_155 F l1 l7 k (l2 + 1) l3 (l4 + q24) (l5 + 1) q4.1 q15)) else (fX8_kindAt σ (σ 18 ((σ 0 18) - (1 : Int32)).toNatClampNeg)).bind fun q25 => mm_g 8 q25 ((if 0 < (σ 4 q25.toNatClampNeg) then (fX8_dryerAt F σ (l2 + 1)).bind fun q49 => (if q49 = (-1 : Int32) then fX8_wash_155 F l1 l7 k (l2 + 1) (l3 + 1) l4 l5 l6 σ else ((if (σ 18 ((σ 0 18) - (1 : Int32)).toNatClampNeg) = (-1 : Int32) then some (l6, σ) else (fX8_goesOut F σ (σ 18 ((σ 0 18) - (1 : Int32)).toNatClampNeg) (l2 + 1) l6).bind fun q54 => some ((l6 + 1), q54))).bind fun q51 => (fX8_wash_241 F l1 (l2 + 1) l3 l4 l5 q51.1 l7 F ((q51.2 0 18) - (1 : Int32)) q51.2).bind fun q55 => ((if l5 < l1 then mm_g 100 l5 (some ((q55 17 l5.toNatClampNeg))) else some ((-1 : Int32)))).bind fun q56 => mm_g 10 (0 : Int32) (mm_g 10 (0 : Int32) (((if ((mm_up q55 18 (0 : Int32).toNatClampNeg q56) 18 (0 : Int32).toNatClampNeg) = (-1 : Int32) then some ((mm_up q55 18 (0 : Int32).toNatClampNeg q56)) else mm_g 10 (0 : Int32) (mm_g 84 (((7 : Int32) * ((mm_up q55 18 (0 : Int32).toNatClampNeg q56) 18 (0 : Int32).toNatClampNeg)) + (1 : Int32)) (mm_g 10 (0 : Int32) (mm_g 10 (0 : Int32) ((fX8_kindAt (mm_up (mm_up q55 18 (0 : Int32).toNatClampNeg q56) 22 (((7 : Int32) * ((mm_up q55 18 (0 : Int32).toNatClampNeg q56) 18 (0 : Int32).toNatClampNeg)) + (1 : Int32)).toNatClampNeg (l2 + 1)) ((mm_up q55 18 (0 : Int32).toNatClampNeg q56) 18 (0 : Int32).toNatClampNeg)).bind fun q69 => mm_g 84 ((7 : Int32) * ((mm_up q55 18 (0 : Int32).toNatClampNeg q56) 18 (0 : Int32).toNatClampNeg)) (some ((mm_up (mm_up (mm_up q55 18 (0 : Int32).toNatClampNeg q56) 22 (((7 : Int32) * ((mm_up q55 18 (0 : Int32).toNatClampNeg q56) 18 (0 : Int32).toNatClampNeg)) + (1 : Int32)).toNatClampNeg (l2 + 1)) 22 ((7 : Int32) * ((mm_up q55 18 (0 : Int32).toNatClampNeg q56) 18 (0 : Int32).toNatClampNeg)).toNatClampNeg q69))))))))).bind fun q62 => (fX8_waterNow F q62).bind fun q71 => fX8_wash_155 F l1 l7 k (l2 + 1) l3 (l4 + q71) (l5 + 1) q51.1 q62))) else ((if (σ 18 ((σ 0 18) - (1 : Int32)).toNatClampNeg) = (-1 : Int32) then some (l6, σ) else (fX8_goesOut F σ (σ 18 ((σ 0 18) - (1 : Int32)).toNatClampNeg) (l2 + 1) l6).bind fun q31 => some ((l6 + 1), q31))).bind fun q28 => (fX8_wash_241 F l1 (l2 + 1) l3 l4 l5 q28.1 l7 F ((q28.2 0 18) - (1 : Int32)) q28.2).bind fun q32 => ((if l5 < l1 then mm_g 100 l5 (some ((q32 17 l5.toNatClampNeg))) else some ((-1 : Int32)))).bind fun q33 => mm_g 10 (0 : Int32) (mm_g 10 (0 : Int32) (((if ((mm_up q32 18 (0 : Int32).toNatClampNeg q33) 18 (0 : Int32).toNatClampNeg) = (-1 : Int32) then some ((mm_up q32 18 (0 : Int32).toNatClampNeg q33)) else mm_g 10 (0 : Int32) (mm_g 84 (((7 : Int32) * ((mm_up q32 18 (0 : Int32).toNatClampNeg q33) 18 (0 : Int32).toNatClampNeg)) + (1 : Int32)) (mm_g 10 (0 : Int32) (mm_g 10 (0 : Int32) ((fX8_kindAt (mm_up (mm_up q32 18 (0 : Int32).toNatClampNeg q33) 22 (((7 : Int32) * ((mm_up q32 18 (0 : Int32).toNatClampNeg q33) 18 (0 : Int32).toNatClampNeg)) + (1 : Int32)).toNatClampNeg (l2 + 1)) ((mm_up q32 18 (0 : Int32).toNatClampNeg q33) 18 (0 : Int32).toNatClampNeg)).bind fun q46 => mm_g 84 ((7 : Int32) * ((mm_up q32 18 (0 : Int32).toNatClampNeg q33) 18 (0 : Int32).toNatClampNeg)) (some ((mm_up (mm_up (mm_up q32 18 (0 : Int32).toNatClampNeg q33) 22 (((7 : Int32) * ((mm_up q32 18 (0 : Int32).toNatClampNeg q33) 18 (0 : Int32).toNatClampNeg)) + (1 : Int32)).toNatClampNeg (l2 + 1)) 22 ((7 : Int32) * ((mm_up q32 18 (0 : Int32).toNatClampNeg q33) 18 (0 : Int32).toNatClampNeg)).toNatClampNeg q46))))))))).bind fun q39 => (fX8_waterNow F q39).bind fun q48 => fX8_wash_155 F l1 l7 k (l2 + 1) l3 (l4 + q48) (l5 + 1) q28.1 q39)))))) else some (l2, l3, l4, σ))
def fX8_wash_371 (F : Nat) (l2 : Int32) (l3 : Int32) (l4 : Int32) : Nat → Int32 → Int32 → mm_M → Option (Int32 × mm_M)
  | 0, _, _, _ => none
  | k + 1, l7, l8, σ => (if l8 < (σ 0 13) then mm_g 84 (((7 : Int32) * l8) + (6 : Int32)) (mm_g 7 (4 : Int32) (((if (σ 21 (4 : Int32).toNatClampNeg) < (σ 22 (((7 : Int32) * l8) + (6 : Int32)).toNatClampNeg) then mm_g 84 (((7 : Int32) * l8) + (6 : Int32)) (some ((σ 22 (((7 : Int32) * l8) + (6 : Int32)).toNatClampNeg))) else mm_g 7 (4 : Int32) (some ((σ 21 (4 : Int32).toNatClampNeg))))).bind fun q4 => mm_g 7 (4 : Int32) (mm_g 12 l8 (fX8_wash_371 F l2 l3 l4 k (l7 + (σ 13 l8.toNatClampNeg)) (l8 + 1) (mm_up σ 21 (4 : Int32).toNatClampNeg q4))))) else some (l7, σ))
def fX8_wash_502 (F : Nat) (l2 : Int32) : Nat → Int32 → mm_M → Option (mm_M)
  | 0, _, _ => none
  | k + 1, l8, σ => (if l8 < (σ 0 6) then mm_g 100 l8 (((if (σ 9 l8.toNatClampNeg) = (2 : Int32) then mm_g 100 l8 (mm_g 100 l8 (mm_g 100 l8 (mm_g 100 l8 (some ((mm_up (mm_up (mm_up σ 9 l8.toNatClampNeg (3 : Int32)) 11 l8.toNatClampNeg (-1 : Int32)) 10 l8.toNatClampNeg ((σ 10 l8.toNatClampNeg) + (1 : Int32)))))))) else some (σ))).bind fun q3 => fX8_wash_502 F l2 k (l8 + 1) q3) else some (σ))
def fX8_wash (F : Nat) (σ : mm_M) : Option (Int32 × mm_M) := (if (σ 0 13) = 0 then some ((-4 : Int32), σ) else (fX8_wash_14 F F (0 : Int32) (0 : Int32) σ).bind fun q2 => (fX8_wash_92 F q2.1 F (0 : Int32) q2.2).bind fun q3 => (fX8_wash_113 F q2.1 F (0 : Int32) q3).bind fun q4 => (fX8_wash_155 F q2.1 (0 : Int32) F (0 : Int32) (0 : Int32) (0 : Int32) (0 : Int32) (0 : Int32) (mm_up q4 0 28 (q4 0 13))).bind fun q5 => (fX8_irons F q5.2.2.2).bind fun q6 => mm_g 7 (4 : Int32) ((fX8_wash_371 F q5.1 q5.2.1 q5.2.2.1 F (0 : Int32) (0 : Int32) (mm_up q6 21 (4 : Int32).toNatClampNeg (0 : Int32))).bind fun q8 => mm_g 7 (0 : Int32) ((fX8_empties F (mm_up q8.2 21 (0 : Int32).toNatClampNeg q5.1)).bind fun q10 => mm_g 7 (1 : Int32) (mm_g 7 (2 : Int32) (mm_g 7 (3 : Int32) (mm_g 7 (5 : Int32) (mm_g 7 (6 : Int32) ((fX8_wash_502 F q5.1 F (0 : Int32) (mm_up (mm_up (mm_up (mm_up (mm_up (mm_up q8.2 21 (0 : Int32).toNatClampNeg q5.1) 21 (1 : Int32).toNatClampNeg q10) 21 (2 : Int32).toNatClampNeg q5.2.1) 21 (3 : Int32).toNatClampNeg q5.2.2.1) 21 (5 : Int32).toNatClampNeg (q8.2 0 13)) 21 (6 : Int32).toNatClampNeg q8.1)).bind fun q16 => some (q5.1, (mm_up (mm_up q16 0 13 (0 : Int32)) 0 21 ((q16 0 21) + (1 : Int32))))))))))))
abbrev rX8_wash : Room := { frames := 3, cells := 0, slots := 0, locals := 68 }
theorem hyX8_wash : yX8_wash.cls = RX8 ∧ yX8_wash.cls ≠ "java/lang/invoke/MethodHandle" ∧ yX8_wash.cls ≠ "java/lang/invoke/VarHandle" ∧ (parseMethodDescriptor yX8_wash.desc).map (fun d => d.parameters.length) = some 0 := by decide +kernel
theorem kX8_wash_1 : (Cond.fieldLink RX8 133 "LinenTunnelModel" "batches" "I" : Cond) ∈ wsX8_wash := List.mem_of_getElem? (i := 1) rfl
theorem uX8_wash_8 : ∀ w ∈ u_ws RX8 TX8 37, w ∈ wsX8_wash := fun _ h => (List.mem_cons_of_mem _ (List.mem_append_right _ h))
theorem kX8_wash_2 : (Cond.fieldLink RX8 53 "LinenTunnelModel" "order" "[I" : Cond) ∈ wsX8_wash := List.mem_of_getElem? (i := 2) rfl
theorem kX8_wash_3 : (Cond.fieldLink RX8 69 "LinenTunnelModel" "slots" "[I" : Cond) ∈ wsX8_wash := List.mem_of_getElem? (i := 3) rfl
theorem kX8_wash_4 : (Cond.fieldLink RX8 72 "LinenTunnelModel" "inside" "[I" : Cond) ∈ wsX8_wash := List.mem_of_getElem? (i := 4) rfl
theorem kX8_wash_5 : (Cond.fieldLink RX8 75 "LinenTunnelModel" "dryerFree" "[I" : Cond) ∈ wsX8_wash := List.mem_of_getElem? (i := 5) rfl
theorem kX8_wash_6 : (Cond.fieldLink RX8 157 "LinenTunnelModel" "runs" "I" : Cond) ∈ wsX8_wash := List.mem_of_getElem? (i := 6) rfl
theorem kX8_wash_7 : (Cond.fieldLink RX8 56 "LinenTunnelModel" "compartments" "I" : Cond) ∈ wsX8_wash := List.mem_of_getElem? (i := 7) rfl
theorem kX8_wash_9 : (Cond.fieldLink RX8 84 "LinenTunnelModel" "runRows" "[I" : Cond) ∈ wsX8_wash := List.mem_of_getElem? (i := 9) rfl
theorem kX8_wash_8 : (Cond.fieldLink RX8 20 "LinenTunnelModel" "dries" "[I" : Cond) ∈ wsX8_wash := List.mem_of_getElem? (i := 8) rfl
theorem kX8_wash_10 : (Cond.fieldLink RX8 81 "LinenTunnelModel" "washed" "[I" : Cond) ∈ wsX8_wash := List.mem_of_getElem? (i := 10) rfl
theorem kX8_wash_11 : (Cond.fieldLink RX8 47 "LinenTunnelModel" "batchMany" "[I" : Cond) ∈ wsX8_wash := List.mem_of_getElem? (i := 11) rfl
theorem kX8_wash_12 : (Cond.fieldLink RX8 112 "LinenTunnelModel" "pieceMany" "I" : Cond) ∈ wsX8_wash := List.mem_of_getElem? (i := 12) rfl
theorem kX8_wash_13 : (Cond.fieldLink RX8 35 "LinenTunnelModel" "placeOf" "[I" : Cond) ∈ wsX8_wash := List.mem_of_getElem? (i := 13) rfl
theorem kX8_wash_14 : (Cond.fieldLink RX8 41 "LinenTunnelModel" "batchOf" "[I" : Cond) ∈ wsX8_wash := List.mem_of_getElem? (i := 14) rfl
theorem kX8_wash_15 : (Cond.fieldLink RX8 38 "LinenTunnelModel" "washes" "[I" : Cond) ∈ wsX8_wash := List.mem_of_getElem? (i := 15) rfl
theorem kX8_wash_16 : (Cond.fieldLink RX8 169 "LinenTunnelModel" "washMany" "I" : Cond) ∈ wsX8_wash := List.mem_of_getElem? (i := 16) rfl
set_option maxRecDepth 100000 in
set_option maxHeartbeats 4000000 in
theorem tX8_wash_52 {l : Launch} {K : mm_K} {D : va_G} {cI cZ : ClassId} {a : Nat → Nat} (X : eC K rX8_wash cX8_wash 10 (some .int) wsX8_wash RX8 D cI cZ a) (hL : mm_L K l) (hJ : mm_J 29 a) {F : Nat} {l2 : Int32} {l3 : Int32} {out : Int32 × mm_M} (hx : eG K D cI cZ a out.2 74 [(0, .ref (a 0)), (1, .int out.1), (2, .int l2)] []) : ∀ (k : Nat) (l1 : Int32) (l4 : Int32) (σ : mm_M), fX8_wash_52 F l2 l3 k l1 l4 σ = some out → eG K D cI cZ a σ 52 [(0, .ref (a 0)), (1, .int l1), (2, .int l2), (3, .int l3), (4, .int l4)] [] := by
  intro k
  induction k with
  | zero =>
    intro l1 l4 σ h
    have h : none = some out := h
    cases h
  | succ k ih =>
    intro l1 l4 σ h
    rw [fX8_wash_52] at h
    refine mm_iload X dX8_wash_52 4 rfl ?_
    refine mm_iload_n X dX8_wash_54 3 rfl ?_
    refine mm_icmp_ge X dX8_wash_55 (tgt := 74) (by decide) (fun c1 => ?_) (fun c1 => ?_)
    · have h := (if_neg c1).symm.trans h
      obtain rfl := Option.some.inj h
      refine mm_loc [0, 1, 2] rfl ?_
      exact hx
    · have h := (if_pos c1).symm.trans h
      refine mm_aload_n X dX8_wash_58 0 rfl ?_
      refine mm_get X dX8_wash_59 0 23 (by decide) md_cf_0 rfl (by decide) uX8_wash_8 kX8_wash_3 rfl (v := .ref (a 17)) rfl ?_
      refine mm_iload_n X dX8_wash_62 1 rfl ?_
      refine mm_iconst X dX8_wash_63 (v := -1) (by decide) ?_
      obtain ⟨hi2, h⟩ := mm_g_some h
      refine mm_iast X dX8_wash_64 17 0 (by decide) (fun _ => rfl) rfl hi2 ?_
      refine mm_iinc X dX8_wash_65 1 rfl (v := (l1 + 1)) rfl (by decide) (lv2 := [(1, .int (l1 + 1)), (0, .ref (a 0)), (2, .int l2), (3, .int l3), (4, .int l4)]) rfl ?_
      refine mm_iinc X dX8_wash_68 4 rfl (v := (l4 + 1)) rfl (by decide) (lv2 := [(4, .int (l4 + 1)), (1, .int (l1 + 1)), (0, .ref (a 0)), (2, .int l2), (3, .int l3)]) rfl ?_
      refine mm_goto X dX8_wash_71 (tgt := 52) (by decide) ?_
      refine mm_loc [2, 1, 3, 4, 0] rfl ?_
      exact ih _ _ _ h
set_option maxRecDepth 100000 in
set_option maxHeartbeats 4000000 in
theorem tX8_wash_14 {l : Launch} {K : mm_K} {D : va_G} {cI cZ : ClassId} {a : Nat → Nat} (X : eC K rX8_wash cX8_wash 10 (some .int) wsX8_wash RX8 D cI cZ a) (hL : mm_L K l) (hJ : mm_J 29 a) {F : Nat} {out : Int32 × mm_M} (hx : eG K D cI cZ a out.2 90 [(0, .ref (a 0)), (1, .int out.1)] []) : ∀ (k : Nat) (l1 : Int32) (l2 : Int32) (σ : mm_M), fX8_wash_14 F k l1 l2 σ = some out → eG K D cI cZ a σ 14 [(0, .ref (a 0)), (1, .int l1), (2, .int l2)] [] := by
  intro k
  induction k with
  | zero =>
    intro l1 l2 σ h
    have h : none = some out := h
    cases h
  | succ k ih =>
    intro l1 l2 σ h
    rw [fX8_wash_14] at h
    refine mm_iload_n X dX8_wash_14 2 rfl ?_
    refine mm_aload_n X dX8_wash_15 0 rfl ?_
    refine mm_get X dX8_wash_16 0 13 (by decide) md_cf_0 rfl (by decide) uX8_wash_8 kX8_wash_1 rfl (v := .int (σ 0 13)) rfl ?_
    refine mm_icmp_ge X dX8_wash_19 (tgt := 90) (by decide) (fun c1 => ?_) (fun c1 => ?_)
    · have h := (if_neg c1).symm.trans h
      obtain rfl := Option.some.inj h
      refine mm_loc [0, 1] rfl ?_
      exact hx
    · have h := (if_pos c1).symm.trans h
      refine mm_iload_n X dX8_wash_22 2 rfl ?_
      obtain ⟨q2, hq2, h⟩ := Option.bind_eq_some_iff.mp h
      have J3 : eG K D cI cZ a σ 48 [(0, .ref (a 0)), (1, .int l1), (2, .int l2)] [.int q2] := by
        refine mm_istore_n X dX8_wash_48 (by decide) (lv2 := [(3, .int q2), (0, .ref (a 0)), (1, .int l1), (2, .int l2)]) rfl ?_
        refine mm_iconst X dX8_wash_49 (v := 0) (by decide) ?_
        refine mm_istore X dX8_wash_50 (by decide) (lv2 := [(4, .int (0 : Int32)), (3, .int q2), (0, .ref (a 0)), (1, .int l1), (2, .int l2)]) rfl ?_
        obtain ⟨q8, hq8, h⟩ := Option.bind_eq_some_iff.mp h
        refine mm_loc [2, 3, 4, 1, 0] rfl ?_
        refine tX8_wash_52 X hL hJ ?_ F l1 (0 : Int32) σ hq8
        refine mm_aload_n X dX8_wash_74 0 rfl ?_
        refine mm_get X dX8_wash_75 0 23 (by decide) md_cf_0 rfl (by decide) uX8_wash_8 kX8_wash_3 rfl (v := .ref (a 17)) rfl ?_
        refine mm_iload_n X dX8_wash_78 1 rfl ?_
        refine mm_iload_n X dX8_wash_79 2 rfl ?_
        obtain ⟨hi9, h⟩ := mm_g_some h
        refine mm_iast X dX8_wash_80 17 0 (by decide) (fun _ => rfl) rfl hi9 ?_
        refine mm_iinc X dX8_wash_81 1 rfl (v := (q8.1 + 1)) rfl (by decide) (lv2 := [(1, .int (q8.1 + 1)), (0, .ref (a 0)), (2, .int l2)]) rfl ?_
        refine mm_iinc X dX8_wash_84 2 rfl (v := (l2 + 1)) rfl (by decide) (lv2 := [(2, .int (l2 + 1)), (1, .int (q8.1 + 1)), (0, .ref (a 0))]) rfl ?_
        refine mm_goto X dX8_wash_87 (tgt := 14) (by decide) ?_
        refine mm_loc [2, 1, 0] rfl ?_
        exact ih _ _ _ h
      have h := hq2
      refine mm_if_ne X dX8_wash_23 (tgt := 30) (by decide) (fun c4 => ?_) (fun c4 => ?_)
      · have h := (if_neg c4).symm.trans h
        refine mm_aload_n X dX8_wash_30 0 rfl ?_
        refine mm_aload_n X dX8_wash_31 0 rfl ?_
        refine mm_get X dX8_wash_32 0 17 (by decide) md_cf_0 rfl (by decide) uX8_wash_8 kX8_wash_2 rfl (v := .ref (a 15)) rfl ?_
        refine mm_iload_n X dX8_wash_35 2 rfl ?_
        refine mm_iconst X dX8_wash_36 (v := 1) (by decide) ?_
        refine mm_isub X dX8_wash_37 ?_
        obtain ⟨hi5, h⟩ := mm_g_some h
        refine mm_iald X dX8_wash_38 15 0 (by decide) rfl rfl hi5 (v := (σ 15 (l2 - (1 : Int32)).toNatClampNeg)) rfl ?_
        refine mm_aload_n X dX8_wash_39 0 rfl ?_
        refine mm_get X dX8_wash_40 0 17 (by decide) md_cf_0 rfl (by decide) uX8_wash_8 kX8_wash_2 rfl (v := .ref (a 15)) rfl ?_
        refine mm_iload_n X dX8_wash_43 2 rfl ?_
        obtain ⟨hi6, h⟩ := mm_g_some h
        refine mm_iald X dX8_wash_44 15 0 (by decide) rfl rfl hi6 (v := (σ 15 l2.toNatClampNeg)) rfl ?_
        obtain ⟨q7, hq7, h⟩ := Option.bind_eq_some_iff.mp h
        refine mm_callVi X dX8_wash_45 (As := [.int (σ 15 (l2 - (1 : Int32)).toNatClampNeg), .int (σ 15 l2.toNatClampNeg)]) (rest := []) 0 (by decide) md_cf_0 rfl hL (mX8_betweenBatches hJ hq7) gX8_wash_X8_betweenBatches rfl ⟨rfl, rfl⟩ hyX8_betweenBatches ⟨Nat.le_of_ble_eq_true rfl, Nat.le_of_ble_eq_true rfl⟩ rfl (Nat.le_of_ble_eq_true rfl) ?_
        obtain rfl := Option.some.inj h
        exact J3
      · have h := (if_pos c4).symm.trans h
        refine mm_iconst X dX8_wash_26 (v := 0) (by decide) ?_
        refine mm_goto X dX8_wash_27 (tgt := 48) (by decide) ?_
        obtain rfl := Option.some.inj h
        exact J3
set_option maxRecDepth 100000 in
set_option maxHeartbeats 4000000 in
theorem tX8_wash_92 {l : Launch} {K : mm_K} {D : va_G} {cI cZ : ClassId} {a : Nat → Nat} (X : eC K rX8_wash cX8_wash 10 (some .int) wsX8_wash RX8 D cI cZ a) (hL : mm_L K l) (hJ : mm_J 29 a) {F : Nat} {l1 : Int32} {out : mm_M} (hx : eG K D cI cZ a out 111 [(0, .ref (a 0)), (1, .int l1)] []) : ∀ (k : Nat) (l2 : Int32) (σ : mm_M), fX8_wash_92 F l1 k l2 σ = some out → eG K D cI cZ a σ 92 [(0, .ref (a 0)), (1, .int l1), (2, .int l2)] [] := by
  intro k
  induction k with
  | zero =>
    intro l2 σ h
    have h : none = some out := h
    cases h
  | succ k ih =>
    intro l2 σ h
    rw [fX8_wash_92] at h
    refine mm_iload_n X dX8_wash_92 2 rfl ?_
    refine mm_bipush X dX8_wash_93 (v := 10) (by decide) ?_
    refine mm_icmp_ge X dX8_wash_95 (tgt := 111) (by decide) (fun c1 => ?_) (fun c1 => ?_)
    · have h := (if_neg c1).symm.trans h
      obtain rfl := Option.some.inj h
      refine mm_loc [0, 1] rfl ?_
      exact hx
    · have h := (if_pos c1).symm.trans h
      refine mm_aload_n X dX8_wash_98 0 rfl ?_
      refine mm_get X dX8_wash_99 0 24 (by decide) md_cf_0 rfl (by decide) uX8_wash_8 kX8_wash_4 rfl (v := .ref (a 18)) rfl ?_
      refine mm_iload_n X dX8_wash_102 2 rfl ?_
      refine mm_iconst X dX8_wash_103 (v := -1) (by decide) ?_
      obtain ⟨hi2, h⟩ := mm_g_some h
      refine mm_iast X dX8_wash_104 18 0 (by decide) (fun _ => rfl) rfl hi2 ?_
      refine mm_iinc X dX8_wash_105 2 rfl (v := (l2 + 1)) rfl (by decide) (lv2 := [(2, .int (l2 + 1)), (0, .ref (a 0)), (1, .int l1)]) rfl ?_
      refine mm_goto X dX8_wash_108 (tgt := 92) (by decide) ?_
      refine mm_loc [1, 2, 0] rfl ?_
      exact ih _ _ h
set_option maxRecDepth 100000 in
set_option maxHeartbeats 4000000 in
theorem tX8_wash_113 {l : Launch} {K : mm_K} {D : va_G} {cI cZ : ClassId} {a : Nat → Nat} (X : eC K rX8_wash cX8_wash 10 (some .int) wsX8_wash RX8 D cI cZ a) (hL : mm_L K l) (hJ : mm_J 29 a) {F : Nat} {l1 : Int32} {out : mm_M} (hx : eG K D cI cZ a out 131 [(0, .ref (a 0)), (1, .int l1)] []) : ∀ (k : Nat) (l2 : Int32) (σ : mm_M), fX8_wash_113 F l1 k l2 σ = some out → eG K D cI cZ a σ 113 [(0, .ref (a 0)), (1, .int l1), (2, .int l2)] [] := by
  intro k
  induction k with
  | zero =>
    intro l2 σ h
    have h : none = some out := h
    cases h
  | succ k ih =>
    intro l2 σ h
    rw [fX8_wash_113] at h
    refine mm_iload_n X dX8_wash_113 2 rfl ?_
    refine mm_iconst X dX8_wash_114 (v := 4) (by decide) ?_
    refine mm_icmp_ge X dX8_wash_115 (tgt := 131) (by decide) (fun c1 => ?_) (fun c1 => ?_)
    · have h := (if_neg c1).symm.trans h
      obtain rfl := Option.some.inj h
      refine mm_loc [0, 1] rfl ?_
      exact hx
    · have h := (if_pos c1).symm.trans h
      refine mm_aload_n X dX8_wash_118 0 rfl ?_
      refine mm_get X dX8_wash_119 0 25 (by decide) md_cf_0 rfl (by decide) uX8_wash_8 kX8_wash_5 rfl (v := .ref (a 19)) rfl ?_
      refine mm_iload_n X dX8_wash_122 2 rfl ?_
      refine mm_iconst X dX8_wash_123 (v := 0) (by decide) ?_
      obtain ⟨hi2, h⟩ := mm_g_some h
      refine mm_iast X dX8_wash_124 19 0 (by decide) (fun _ => rfl) rfl hi2 ?_
      refine mm_iinc X dX8_wash_125 2 rfl (v := (l2 + 1)) rfl (by decide) (lv2 := [(2, .int (l2 + 1)), (0, .ref (a 0)), (1, .int l1)]) rfl ?_
      refine mm_goto X dX8_wash_128 (tgt := 113) (by decide) ?_
      refine mm_loc [1, 2, 0] rfl ?_
      exact ih _ _ h
set_option maxRecDepth 100000 in
set_option maxHeartbeats 4000000 in
theorem tX8_wash_241 {l : Launch} {K : mm_K} {D : va_G} {cI cZ : ClassId} {a : Nat → Nat} (X : eC K rX8_wash cX8_wash 10 (some .int) wsX8_wash RX8 D cI cZ a) (hL : mm_L K l) (hJ : mm_J 29 a) {F : Nat} {l1 : Int32} {l2 : Int32} {l3 : Int32} {l4 : Int32} {l5 : Int32} {l6 : Int32} {l7 : Int32} {out : mm_M} (hx : eG K D cI cZ a out 268 [(0, .ref (a 0)), (1, .int l1), (2, .int l2), (3, .int l3), (4, .int l4), (5, .int l5), (6, .int l6), (7, .int l7)] []) : ∀ (k : Nat) (l9 : Int32) (σ : mm_M), fX8_wash_241 F l1 l2 l3 l4 l5 l6 l7 k l9 σ = some out → eG K D cI cZ a σ 241 [(0, .ref (a 0)), (1, .int l1), (2, .int l2), (3, .int l3), (4, .int l4), (5, .int l5), (6, .int l6), (7, .int l7), (9, .int l9)] [] := by
  intro k
  induction k with
  | zero =>
    intro l9 σ h
    have h : none = some out := h
    cases h
  | succ k ih =>
    intro l9 σ h
    rw [fX8_wash_241] at h
    refine mm_iload X dX8_wash_241 8 rfl ?_
    refine mm_if_le X dX8_wash_243 (tgt := 268) (by decide) (fun c1 => ?_) (fun c1 => ?_)
    · have h := (if_neg c1).symm.trans h
      obtain rfl := Option.some.inj h
      refine mm_loc [0, 1, 2, 3, 4, 5, 6, 7] rfl ?_
      exact hx
    · have h := (if_pos c1).symm.trans h
      refine mm_aload_n X dX8_wash_246 0 rfl ?_
      refine mm_get X dX8_wash_247 0 24 (by decide) md_cf_0 rfl (by decide) uX8_wash_8 kX8_wash_4 rfl (v := .ref (a 18)) rfl ?_
      refine mm_iload X dX8_wash_250 8 rfl ?_
      refine mm_aload_n X dX8_wash_252 0 rfl ?_
      refine mm_get X dX8_wash_253 0 24 (by decide) md_cf_0 rfl (by decide) uX8_wash_8 kX8_wash_4 rfl (v := .ref (a 18)) rfl ?_
      refine mm_iload X dX8_wash_256 8 rfl ?_
      refine mm_iconst X dX8_wash_258 (v := 1) (by decide) ?_
      refine mm_isub X dX8_wash_259 ?_
      obtain ⟨hi2, h⟩ := mm_g_some h
      refine mm_iald X dX8_wash_260 18 0 (by decide) rfl rfl hi2 (v := (σ 18 (l9 - (1 : Int32)).toNatClampNeg)) rfl ?_
      obtain ⟨hi3, h⟩ := mm_g_some h
      refine mm_iast X dX8_wash_261 18 0 (by decide) (fun _ => rfl) rfl hi3 ?_
      refine mm_iinc X dX8_wash_262 8 rfl (v := (l9 + (-1 : Int32))) rfl (by decide) (lv2 := [(9, .int (l9 + (-1 : Int32))), (0, .ref (a 0)), (1, .int l1), (2, .int l2), (3, .int l3), (4, .int l4), (5, .int l5), (6, .int l6), (7, .int l7)]) rfl ?_
      refine mm_goto X dX8_wash_265 (tgt := 241) (by decide) ?_
      refine mm_loc [1, 2, 3, 4, 5, 6, 7, 8, 0] rfl ?_
      exact ih _ _ h
set_option maxRecDepth 100000 in
set_option maxHeartbeats 4000000 in
theorem tX8_wash_155 {l : Launch} {K : mm_K} {D : va_G} {cI cZ : ClassId} {a : Nat → Nat} (X : eC K rX8_wash cX8_wash 10 (some .int) wsX8_wash RX8 D cI cZ a) (hL : mm_L K l) (hJ : mm_J 29 a) {F : Nat} {l1 : Int32} {l7 : Int32} {out : Int32 × Int32 × Int32 × mm_M} (hx : eG K D cI cZ a out.2.2.2 357 [(0, .ref (a 0)), (2, .int out.1), (3, .int out.2.1), (4, .int out.2.2.1), (7, .int l7)] []) : ∀ (k : Nat) (l2 : Int32) (l3 : Int32) (l4 : Int32) (l5 : Int32) (l6 : Int32) (σ : mm_M), fX8_wash_155 F l1 l7 k l2 l3 l4 l5 l6 σ = some out → eG K D cI cZ a σ 155 [(0, .ref (a 0)), (1, .int l1), (2, .int l2), (3, .int l3), (4, .int l4), (5, .int l5), (6, .int l6), (7, .int l7)] [] := by
  intro k
  induction k with
  | zero =>
    intro l2 l3 l4 l5 l6 σ h
    have h : none = some out := h
    cases h
  | succ k ih =>
    intro l2 l3 l4 l5 l6 σ h
    rw [fX8_wash_155] at h
    refine mm_iload X dX8_wash_155 6 rfl ?_
    refine mm_aload_n X dX8_wash_157 0 rfl ?_
    refine mm_get X dX8_wash_158 0 13 (by decide) md_cf_0 rfl (by decide) uX8_wash_8 kX8_wash_1 rfl (v := .int (σ 0 13)) rfl ?_
    refine mm_icmp_ge X dX8_wash_161 (tgt := 357) (by decide) (fun c1 => ?_) (fun c1 => ?_)
    · have h := (if_neg c1).symm.trans h
      obtain rfl := Option.some.inj h
      refine mm_loc [0, 2, 3, 4, 7] rfl ?_
      exact hx
    · have h := (if_pos c1).symm.trans h
      refine mm_iinc X dX8_wash_164 2 rfl (v := (l2 + 1)) rfl (by decide) (lv2 := [(2, .int (l2 + 1)), (0, .ref (a 0)), (1, .int l1), (3, .int l3), (4, .int l4), (5, .int l5), (6, .int l6), (7, .int l7)]) rfl ?_
      refine mm_aload_n X dX8_wash_167 1 rfl ?_
      refine mm_get X dX8_wash_168 0 24 (by decide) md_cf_0 rfl (by decide) uX8_wash_8 kX8_wash_4 rfl (v := .ref (a 18)) rfl ?_
      refine mm_aload_n X dX8_wash_171 1 rfl ?_
      refine mm_get X dX8_wash_172 0 18 (by decide) md_cf_0 rfl (by decide) uX8_wash_8 kX8_wash_7 rfl (v := .int (σ 0 18)) rfl ?_
      refine mm_iconst X dX8_wash_175 (v := 1) (by decide) ?_
      refine mm_isub X dX8_wash_176 ?_
      obtain ⟨hi2, h⟩ := mm_g_some h
      refine mm_iald X dX8_wash_177 18 0 (by decide) rfl rfl hi2 (v := (σ 18 ((σ 0 18) - (1 : Int32)).toNatClampNeg)) rfl ?_
      refine mm_istore X dX8_wash_178 (by decide) (lv2 := [(8, .int (σ 18 ((σ 0 18) - (1 : Int32)).toNatClampNeg)), (2, .int (l2 + 1)), (0, .ref (a 0)), (1, .int l1), (3, .int l3), (4, .int l4), (5, .int l5), (6, .int l6), (7, .int l7)]) rfl ?_
      refine mm_iload X dX8_wash_180 0 rfl ?_
      refine mm_iconst X dX8_wash_182 (v := -1) (by decide) ?_
      refine mm_icmp_eq X dX8_wash_183 (tgt := 215) (by decide) (fun c3 => ?_) (fun c3 => ?_)
      · have h := (if_pos c3).symm.trans h
        refine mm_iload X dX8_wash_215 0 rfl ?_
        refine mm_iconst X dX8_wash_217 (v := -1) (by decide) ?_
        obtain ⟨q4, hq4, h⟩ := Option.bind_eq_some_iff.mp h
        have J5 : eG K D cI cZ a q4.2 233 [(0, .ref (a 0)), (1, .int l1), (2, .int (l2 + 1)), (3, .int l3), (4, .int l4), (5, .int l5), (6, .int q4.1), (7, .int l7)] [] := by
          refine mm_aload_n X dX8_wash_233 0 rfl ?_
          refine mm_get X dX8_wash_234 0 18 (by decide) md_cf_0 rfl (by decide) uX8_wash_8 kX8_wash_7 rfl (v := .int (q4.2 0 18)) rfl ?_
          refine mm_iconst X dX8_wash_237 (v := 1) (by decide) ?_
          refine mm_isub X dX8_wash_238 ?_
          refine mm_istore X dX8_wash_239 (by decide) (lv2 := [(9, .int ((q4.2 0 18) - (1 : Int32))), (0, .ref (a 0)), (1, .int l1), (2, .int (l2 + 1)), (3, .int l3), (4, .int l4), (5, .int l5), (6, .int q4.1), (7, .int l7)]) rfl ?_
          obtain ⟨q8, hq8, h⟩ := Option.bind_eq_some_iff.mp h
          refine mm_loc [1, 2, 3, 4, 5, 6, 7, 8, 0] rfl ?_
          refine tX8_wash_241 X hL hJ ?_ F ((q4.2 0 18) - (1 : Int32)) q4.2 hq8
          refine mm_aload_n X dX8_wash_268 0 rfl ?_
          refine mm_get X dX8_wash_269 0 24 (by decide) md_cf_0 rfl (by decide) uX8_wash_8 kX8_wash_4 rfl (v := .ref (a 18)) rfl ?_
          refine mm_iconst X dX8_wash_272 (v := 0) (by decide) ?_
          refine mm_iload X dX8_wash_273 5 rfl ?_
          refine mm_iload_n X dX8_wash_275 1 rfl ?_
          obtain ⟨q9, hq9, h⟩ := Option.bind_eq_some_iff.mp h
          have J10 : eG K D cI cZ a q8 290 [(0, .ref (a 0)), (1, .int l1), (2, .int (l2 + 1)), (3, .int l3), (4, .int l4), (5, .int l5), (6, .int q4.1), (7, .int l7)] [.int q9, .int (0 : Int32), .ref (a 18)] := by
            obtain ⟨hi13, h⟩ := mm_g_some h
            refine mm_iast X dX8_wash_290 18 0 (by decide) (fun _ => rfl) rfl hi13 ?_
            refine mm_aload_n X dX8_wash_291 0 rfl ?_
            refine mm_get X dX8_wash_292 0 24 (by decide) md_cf_0 rfl (by decide) uX8_wash_8 kX8_wash_4 rfl (v := .ref (a 18)) rfl ?_
            refine mm_iconst X dX8_wash_295 (v := 0) (by decide) ?_
            obtain ⟨hi14, h⟩ := mm_g_some h
            refine mm_iald X dX8_wash_296 18 0 (by decide) rfl rfl hi14 (v := ((mm_up q8 18 (0 : Int32).toNatClampNeg q9) 18 (0 : Int32).toNatClampNeg)) rfl ?_
            refine mm_iconst X dX8_wash_297 (v := -1) (by decide) ?_
            obtain ⟨q15, hq15, h⟩ := Option.bind_eq_some_iff.mp h
            have J16 : eG K D cI cZ a q15 342 [(0, .ref (a 0)), (1, .int l1), (2, .int (l2 + 1)), (3, .int l3), (4, .int l4), (5, .int l5), (6, .int q4.1), (7, .int l7)] [] := by
              refine mm_iinc X dX8_wash_342 5 rfl (v := (l5 + 1)) rfl (by decide) (lv2 := [(5, .int (l5 + 1)), (0, .ref (a 0)), (1, .int l1), (2, .int (l2 + 1)), (3, .int l3), (4, .int l4), (6, .int q4.1), (7, .int l7)]) rfl ?_
              refine mm_iload X dX8_wash_345 5 rfl ?_
              refine mm_aload_n X dX8_wash_347 1 rfl ?_
              obtain ⟨q24, hq24, h⟩ := Option.bind_eq_some_iff.mp h
              refine mm_callVi X dX8_wash_348 (As := []) (rest := [.int l4]) 0 (by decide) md_cf_0 rfl hL (mX8_waterNow hJ hq24) gX8_wash_X8_waterNow rfl ⟨rfl, rfl⟩ hyX8_waterNow ⟨Nat.le_of_ble_eq_true rfl, Nat.le_of_ble_eq_true rfl⟩ rfl (Nat.le_of_ble_eq_true rfl) ?_
              refine mm_iadd X dX8_wash_351 ?_
              refine mm_istore X dX8_wash_352 (by decide) (lv2 := [(4, .int (l4 + q24)), (5, .int (l5 + 1)), (0, .ref (a 0)), (1, .int l1), (2, .int (l2 + 1)), (3, .int l3), (6, .int q4.1), (7, .int l7)]) rfl ?_
              refine mm_goto X dX8_wash_354 (tgt := 155) (by decide) ?_
              refine mm_loc [2, 3, 4, 5, 0, 1, 6, 7] rfl ?_
              exact ih _ _ _ _ _ _ h
            have h := hq15
            refine mm_icmp_eq X dX8_wash_298 (tgt := 342) (by decide) (fun c17 => ?_) (fun c17 => ?_)
            · have h := (if_pos c17).symm.trans h
              obtain rfl := Option.some.inj h
              exact J16
            · have h := (if_neg c17).symm.trans h
              refine mm_aload_n X dX8_wash_301 0 rfl ?_
              refine mm_get X dX8_wash_302 0 29 (by decide) md_cf_0 rfl (by decide) uX8_wash_8 kX8_wash_9 rfl (v := .ref (a 22)) rfl ?_
              refine mm_bipush X dX8_wash_305 (v := 7) (by decide) ?_
              refine mm_aload_n X dX8_wash_307 0 rfl ?_
              refine mm_get X dX8_wash_308 0 24 (by decide) md_cf_0 rfl (by decide) uX8_wash_8 kX8_wash_4 rfl (v := .ref (a 18)) rfl ?_
              refine mm_iconst X dX8_wash_311 (v := 0) (by decide) ?_
              obtain ⟨hi18, h⟩ := mm_g_some h
              refine mm_iald X dX8_wash_312 18 0 (by decide) rfl rfl hi18 (v := ((mm_up q8 18 (0 : Int32).toNatClampNeg q9) 18 (0 : Int32).toNatClampNeg)) rfl ?_
              refine mm_imul X dX8_wash_313 ?_
              refine mm_iconst X dX8_wash_314 (v := 1) (by decide) ?_
              refine mm_iadd X dX8_wash_315 ?_
              refine mm_iload_n X dX8_wash_316 2 rfl ?_
              obtain ⟨hi19, h⟩ := mm_g_some h
              refine mm_iast X dX8_wash_317 22 0 (by decide) (fun _ => rfl) rfl hi19 ?_
              refine mm_aload_n X dX8_wash_318 0 rfl ?_
              refine mm_get X dX8_wash_319 0 29 (by decide) md_cf_0 rfl (by decide) uX8_wash_8 kX8_wash_9 rfl (v := .ref (a 22)) rfl ?_
              refine mm_bipush X dX8_wash_322 (v := 7) (by decide) ?_
              refine mm_aload_n X dX8_wash_324 0 rfl ?_
              refine mm_get X dX8_wash_325 0 24 (by decide) md_cf_0 rfl (by decide) uX8_wash_8 kX8_wash_4 rfl (v := .ref (a 18)) rfl ?_
              refine mm_iconst X dX8_wash_328 (v := 0) (by decide) ?_
              obtain ⟨hi20, h⟩ := mm_g_some h
              refine mm_iald X dX8_wash_329 18 0 (by decide) rfl rfl hi20 (v := ((mm_up q8 18 (0 : Int32).toNatClampNeg q9) 18 (0 : Int32).toNatClampNeg)) rfl ?_
              refine mm_imul X dX8_wash_330 ?_
              refine mm_aload_n X dX8_wash_331 0 rfl ?_
              refine mm_aload_n X dX8_wash_332 0 rfl ?_
              refine mm_get X dX8_wash_333 0 24 (by decide) md_cf_0 rfl (by decide) uX8_wash_8 kX8_wash_4 rfl (v := .ref (a 18)) rfl ?_
              refine mm_iconst X dX8_wash_336 (v := 0) (by decide) ?_
              obtain ⟨hi21, h⟩ := mm_g_some h
              refine mm_iald X dX8_wash_337 18 0 (by decide) rfl rfl hi21 (v := ((mm_up q8 18 (0 : Int32).toNatClampNeg q9) 18 (0 : Int32).toNatClampNeg)) rfl ?_
              obtain ⟨q22, hq22, h⟩ := Option.bind_eq_some_iff.mp h
              refine mm_callVi X dX8_wash_338 (As := [.int ((mm_up q8 18 (0 : Int32).toNatClampNeg q9) 18 (0 : Int32).toNatClampNeg)]) (rest := [.int ((7 : Int32) * ((mm_up q8 18 (0 : Int32).toNatClampNeg q9) 18 (0 : Int32).toNatClampNeg)), .ref (a 22)]) 0 (by decide) md_cf_0 rfl hL (mX8_kindAt hJ hq22) gX8_wash_X8_kindAt rfl ⟨rfl, rfl⟩ hyX8_kindAt ⟨Nat.le_of_ble_eq_true rfl, Nat.le_of_ble_eq_true rfl⟩ rfl (Nat.le_of_ble_eq_true rfl) ?_
              obtain ⟨hi23, h⟩ := mm_g_some h
              refine mm_iast X dX8_wash_341 22 0 (by decide) (fun _ => rfl) rfl hi23 ?_
              obtain rfl := Option.some.inj h
              exact J16
          have h := hq9
          refine mm_icmp_ge X dX8_wash_276 (tgt := 289) (by decide) (fun c11 => ?_) (fun c11 => ?_)
          · have h := (if_neg c11).symm.trans h
            refine mm_iconst X dX8_wash_289 (v := -1) (by decide) ?_
            obtain rfl := Option.some.inj h
            exact J10
          · have h := (if_pos c11).symm.trans h
            refine mm_aload_n X dX8_wash_279 0 rfl ?_
            refine mm_get X dX8_wash_280 0 23 (by decide) md_cf_0 rfl (by decide) uX8_wash_8 kX8_wash_3 rfl (v := .ref (a 17)) rfl ?_
            refine mm_iload X dX8_wash_283 5 rfl ?_
            obtain ⟨hi12, h⟩ := mm_g_some h
            refine mm_iald X dX8_wash_285 17 0 (by decide) rfl rfl hi12 (v := (q8 17 l5.toNatClampNeg)) rfl ?_
            refine mm_goto X dX8_wash_286 (tgt := 290) (by decide) ?_
            obtain rfl := Option.some.inj h
            exact J10
        have h := hq4
        refine mm_icmp_eq X dX8_wash_218 (tgt := 233) (by decide) (fun c6 => ?_) (fun c6 => ?_)
        · have h := (if_pos c6).symm.trans h
          obtain rfl := Option.some.inj h
          refine mm_loc [2, 3, 1, 4, 5, 6, 7, 8] rfl ?_
          exact J5
        · have h := (if_neg c6).symm.trans h
          refine mm_aload_n X dX8_wash_221 2 rfl ?_
          refine mm_iload X dX8_wash_222 0 rfl ?_
          refine mm_iload_n X dX8_wash_224 1 rfl ?_
          refine mm_iload X dX8_wash_225 7 rfl ?_
          obtain ⟨q7, hq7, h⟩ := Option.bind_eq_some_iff.mp h
          refine mm_callVv X dX8_wash_227 (As := [.int (σ 18 ((σ 0 18) - (1 : Int32)).toNatClampNeg), .int (l2 + 1), .int l6]) (rest := []) 0 (by decide) md_cf_0 rfl hL (mX8_goesOut hJ hq7) gX8_wash_X8_goesOut rfl ⟨rfl, rfl⟩ hyX8_goesOut ⟨Nat.le_of_ble_eq_true rfl, Nat.le_of_ble_eq_true rfl⟩ rfl (Nat.le_of_ble_eq_true rfl) ?_
          refine mm_iinc X dX8_wash_230 7 rfl (v := (l6 + 1)) rfl (by decide) (lv2 := [(6, .int (l6 + 1)), (8, .int (σ 18 ((σ 0 18) - (1 : Int32)).toNatClampNeg)), (2, .int (l2 + 1)), (0, .ref (a 0)), (1, .int l1), (3, .int l3), (4, .int l4), (5, .int l5), (7, .int l7)]) rfl ?_
          obtain rfl := Option.some.inj h
          refine mm_loc [3, 4, 2, 5, 6, 7, 0, 8] rfl ?_
          exact J5
      · have h := (if_neg c3).symm.trans h
        refine mm_aload_n X dX8_wash_186 2 rfl ?_
        refine mm_get X dX8_wash_187 0 4 (by decide) md_cf_0 rfl (by decide) uX8_wash_8 kX8_wash_8 rfl (v := .ref (a 4)) rfl ?_
        refine mm_aload_n X dX8_wash_190 2 rfl ?_
        refine mm_iload X dX8_wash_191 0 rfl ?_
        obtain ⟨q25, hq25, h⟩ := Option.bind_eq_some_iff.mp h
        refine mm_callVi X dX8_wash_193 (As := [.int (σ 18 ((σ 0 18) - (1 : Int32)).toNatClampNeg)]) (rest := [.ref (a 4)]) 0 (by decide) md_cf_0 rfl hL (mX8_kindAt hJ hq25) gX8_wash_X8_kindAt rfl ⟨rfl, rfl⟩ hyX8_kindAt ⟨Nat.le_of_ble_eq_true rfl, Nat.le_of_ble_eq_true rfl⟩ rfl (Nat.le_of_ble_eq_true rfl) ?_
        obtain ⟨hi26, h⟩ := mm_g_some h
        refine mm_iald X dX8_wash_196 4 0 (by decide) rfl rfl hi26 (v := (σ 4 q25.toNatClampNeg)) rfl ?_
        refine mm_if_le X dX8_wash_197 (tgt := 215) (by decide) (fun c27 => ?_) (fun c27 => ?_)
        · have h := (if_neg c27).symm.trans h
          refine mm_iload X dX8_wash_215 0 rfl ?_
          refine mm_iconst X dX8_wash_217 (v := -1) (by decide) ?_
          obtain ⟨q28, hq28, h⟩ := Option.bind_eq_some_iff.mp h
          have J29 : eG K D cI cZ a q28.2 233 [(0, .ref (a 0)), (1, .int l1), (2, .int (l2 + 1)), (3, .int l3), (4, .int l4), (5, .int l5), (6, .int q28.1), (7, .int l7)] [] := by
            refine mm_aload_n X dX8_wash_233 0 rfl ?_
            refine mm_get X dX8_wash_234 0 18 (by decide) md_cf_0 rfl (by decide) uX8_wash_8 kX8_wash_7 rfl (v := .int (q28.2 0 18)) rfl ?_
            refine mm_iconst X dX8_wash_237 (v := 1) (by decide) ?_
            refine mm_isub X dX8_wash_238 ?_
            refine mm_istore X dX8_wash_239 (by decide) (lv2 := [(9, .int ((q28.2 0 18) - (1 : Int32))), (0, .ref (a 0)), (1, .int l1), (2, .int (l2 + 1)), (3, .int l3), (4, .int l4), (5, .int l5), (6, .int q28.1), (7, .int l7)]) rfl ?_
            obtain ⟨q32, hq32, h⟩ := Option.bind_eq_some_iff.mp h
            refine mm_loc [1, 2, 3, 4, 5, 6, 7, 8, 0] rfl ?_
            refine tX8_wash_241 X hL hJ ?_ F ((q28.2 0 18) - (1 : Int32)) q28.2 hq32
            refine mm_aload_n X dX8_wash_268 0 rfl ?_
            refine mm_get X dX8_wash_269 0 24 (by decide) md_cf_0 rfl (by decide) uX8_wash_8 kX8_wash_4 rfl (v := .ref (a 18)) rfl ?_
            refine mm_iconst X dX8_wash_272 (v := 0) (by decide) ?_
            refine mm_iload X dX8_wash_273 5 rfl ?_
            refine mm_iload_n X dX8_wash_275 1 rfl ?_
            obtain ⟨q33, hq33, h⟩ := Option.bind_eq_some_iff.mp h
            have J34 : eG K D cI cZ a q32 290 [(0, .ref (a 0)), (1, .int l1), (2, .int (l2 + 1)), (3, .int l3), (4, .int l4), (5, .int l5), (6, .int q28.1), (7, .int l7)] [.int q33, .int (0 : Int32), .ref (a 18)] := by
              obtain ⟨hi37, h⟩ := mm_g_some h
              refine mm_iast X dX8_wash_290 18 0 (by decide) (fun _ => rfl) rfl hi37 ?_
              refine mm_aload_n X dX8_wash_291 0 rfl ?_
              refine mm_get X dX8_wash_292 0 24 (by decide) md_cf_0 rfl (by decide) uX8_wash_8 kX8_wash_4 rfl (v := .ref (a 18)) rfl ?_
              refine mm_iconst X dX8_wash_295 (v := 0) (by decide) ?_
              obtain ⟨hi38, h⟩ := mm_g_some h
              refine mm_iald X dX8_wash_296 18 0 (by decide) rfl rfl hi38 (v := ((mm_up q32 18 (0 : Int32).toNatClampNeg q33) 18 (0 : Int32).toNatClampNeg)) rfl ?_
              refine mm_iconst X dX8_wash_297 (v := -1) (by decide) ?_
              obtain ⟨q39, hq39, h⟩ := Option.bind_eq_some_iff.mp h
              have J40 : eG K D cI cZ a q39 342 [(0, .ref (a 0)), (1, .int l1), (2, .int (l2 + 1)), (3, .int l3), (4, .int l4), (5, .int l5), (6, .int q28.1), (7, .int l7)] [] := by
                refine mm_iinc X dX8_wash_342 5 rfl (v := (l5 + 1)) rfl (by decide) (lv2 := [(5, .int (l5 + 1)), (0, .ref (a 0)), (1, .int l1), (2, .int (l2 + 1)), (3, .int l3), (4, .int l4), (6, .int q28.1), (7, .int l7)]) rfl ?_
                refine mm_iload X dX8_wash_345 5 rfl ?_
                refine mm_aload_n X dX8_wash_347 1 rfl ?_
                obtain ⟨q48, hq48, h⟩ := Option.bind_eq_some_iff.mp h
                refine mm_callVi X dX8_wash_348 (As := []) (rest := [.int l4]) 0 (by decide) md_cf_0 rfl hL (mX8_waterNow hJ hq48) gX8_wash_X8_waterNow rfl ⟨rfl, rfl⟩ hyX8_waterNow ⟨Nat.le_of_ble_eq_true rfl, Nat.le_of_ble_eq_true rfl⟩ rfl (Nat.le_of_ble_eq_true rfl) ?_
                refine mm_iadd X dX8_wash_351 ?_
                refine mm_istore X dX8_wash_352 (by decide) (lv2 := [(4, .int (l4 + q48)), (5, .int (l5 + 1)), (0, .ref (a 0)), (1, .int l1), (2, .int (l2 + 1)), (3, .int l3), (6, .int q28.1), (7, .int l7)]) rfl ?_
                refine mm_goto X dX8_wash_354 (tgt := 155) (by decide) ?_
                refine mm_loc [2, 3, 4, 5, 0, 1, 6, 7] rfl ?_
                exact ih _ _ _ _ _ _ h
              have h := hq39
              refine mm_icmp_eq X dX8_wash_298 (tgt := 342) (by decide) (fun c41 => ?_) (fun c41 => ?_)
              · have h := (if_pos c41).symm.trans h
                obtain rfl := Option.some.inj h
                exact J40
              · have h := (if_neg c41).symm.trans h
                refine mm_aload_n X dX8_wash_301 0 rfl ?_
                refine mm_get X dX8_wash_302 0 29 (by decide) md_cf_0 rfl (by decide) uX8_wash_8 kX8_wash_9 rfl (v := .ref (a 22)) rfl ?_
                refine mm_bipush X dX8_wash_305 (v := 7) (by decide) ?_
                refine mm_aload_n X dX8_wash_307 0 rfl ?_
                refine mm_get X dX8_wash_308 0 24 (by decide) md_cf_0 rfl (by decide) uX8_wash_8 kX8_wash_4 rfl (v := .ref (a 18)) rfl ?_
                refine mm_iconst X dX8_wash_311 (v := 0) (by decide) ?_
                obtain ⟨hi42, h⟩ := mm_g_some h
                refine mm_iald X dX8_wash_312 18 0 (by decide) rfl rfl hi42 (v := ((mm_up q32 18 (0 : Int32).toNatClampNeg q33) 18 (0 : Int32).toNatClampNeg)) rfl ?_
                refine mm_imul X dX8_wash_313 ?_
                refine mm_iconst X dX8_wash_314 (v := 1) (by decide) ?_
                refine mm_iadd X dX8_wash_315 ?_
                refine mm_iload_n X dX8_wash_316 2 rfl ?_
                obtain ⟨hi43, h⟩ := mm_g_some h
                refine mm_iast X dX8_wash_317 22 0 (by decide) (fun _ => rfl) rfl hi43 ?_
                refine mm_aload_n X dX8_wash_318 0 rfl ?_
                refine mm_get X dX8_wash_319 0 29 (by decide) md_cf_0 rfl (by decide) uX8_wash_8 kX8_wash_9 rfl (v := .ref (a 22)) rfl ?_
                refine mm_bipush X dX8_wash_322 (v := 7) (by decide) ?_
                refine mm_aload_n X dX8_wash_324 0 rfl ?_
                refine mm_get X dX8_wash_325 0 24 (by decide) md_cf_0 rfl (by decide) uX8_wash_8 kX8_wash_4 rfl (v := .ref (a 18)) rfl ?_
                refine mm_iconst X dX8_wash_328 (v := 0) (by decide) ?_
                obtain ⟨hi44, h⟩ := mm_g_some h
                refine mm_iald X dX8_wash_329 18 0 (by decide) rfl rfl hi44 (v := ((mm_up q32 18 (0 : Int32).toNatClampNeg q33) 18 (0 : Int32).toNatClampNeg)) rfl ?_
                refine mm_imul X dX8_wash_330 ?_
                refine mm_aload_n X dX8_wash_331 0 rfl ?_
                refine mm_aload_n X dX8_wash_332 0 rfl ?_
                refine mm_get X dX8_wash_333 0 24 (by decide) md_cf_0 rfl (by decide) uX8_wash_8 kX8_wash_4 rfl (v := .ref (a 18)) rfl ?_
                refine mm_iconst X dX8_wash_336 (v := 0) (by decide) ?_
                obtain ⟨hi45, h⟩ := mm_g_some h
                refine mm_iald X dX8_wash_337 18 0 (by decide) rfl rfl hi45 (v := ((mm_up q32 18 (0 : Int32).toNatClampNeg q33) 18 (0 : Int32).toNatClampNeg)) rfl ?_
                obtain ⟨q46, hq46, h⟩ := Option.bind_eq_some_iff.mp h
                refine mm_callVi X dX8_wash_338 (As := [.int ((mm_up q32 18 (0 : Int32).toNatClampNeg q33) 18 (0 : Int32).toNatClampNeg)]) (rest := [.int ((7 : Int32) * ((mm_up q32 18 (0 : Int32).toNatClampNeg q33) 18 (0 : Int32).toNatClampNeg)), .ref (a 22)]) 0 (by decide) md_cf_0 rfl hL (mX8_kindAt hJ hq46) gX8_wash_X8_kindAt rfl ⟨rfl, rfl⟩ hyX8_kindAt ⟨Nat.le_of_ble_eq_true rfl, Nat.le_of_ble_eq_true rfl⟩ rfl (Nat.le_of_ble_eq_true rfl) ?_
                obtain ⟨hi47, h⟩ := mm_g_some h
                refine mm_iast X dX8_wash_341 22 0 (by decide) (fun _ => rfl) rfl hi47 ?_
                obtain rfl := Option.some.inj h
                exact J40
            have h := hq33
            refine mm_icmp_ge X dX8_wash_276 (tgt := 289) (by decide) (fun c35 => ?_) (fun c35 => ?_)
            · have h := (if_neg c35).symm.trans h
              refine mm_iconst X dX8_wash_289 (v := -1) (by decide) ?_
              obtain rfl := Option.some.inj h
              exact J34
            · have h := (if_pos c35).symm.trans h
              refine mm_aload_n X dX8_wash_279 0 rfl ?_
              refine mm_get X dX8_wash_280 0 23 (by decide) md_cf_0 rfl (by decide) uX8_wash_8 kX8_wash_3 rfl (v := .ref (a 17)) rfl ?_
              refine mm_iload X dX8_wash_283 5 rfl ?_
              obtain ⟨hi36, h⟩ := mm_g_some h
              refine mm_iald X dX8_wash_285 17 0 (by decide) rfl rfl hi36 (v := (q32 17 l5.toNatClampNeg)) rfl ?_
              refine mm_goto X dX8_wash_286 (tgt := 290) (by decide) ?_
              obtain rfl := Option.some.inj h
              exact J34
          have h := hq28
          refine mm_icmp_eq X dX8_wash_218 (tgt := 233) (by decide) (fun c30 => ?_) (fun c30 => ?_)
          · have h := (if_pos c30).symm.trans h
            obtain rfl := Option.some.inj h
            refine mm_loc [2, 3, 1, 4, 5, 6, 7, 8] rfl ?_
            exact J29
          · have h := (if_neg c30).symm.trans h
            refine mm_aload_n X dX8_wash_221 2 rfl ?_
            refine mm_iload X dX8_wash_222 0 rfl ?_
            refine mm_iload_n X dX8_wash_224 1 rfl ?_
            refine mm_iload X dX8_wash_225 7 rfl ?_
            obtain ⟨q31, hq31, h⟩ := Option.bind_eq_some_iff.mp h
            refine mm_callVv X dX8_wash_227 (As := [.int (σ 18 ((σ 0 18) - (1 : Int32)).toNatClampNeg), .int (l2 + 1), .int l6]) (rest := []) 0 (by decide) md_cf_0 rfl hL (mX8_goesOut hJ hq31) gX8_wash_X8_goesOut rfl ⟨rfl, rfl⟩ hyX8_goesOut ⟨Nat.le_of_ble_eq_true rfl, Nat.le_of_ble_eq_true rfl⟩ rfl (Nat.le_of_ble_eq_true rfl) ?_
            refine mm_iinc X dX8_wash_230 7 rfl (v := (l6 + 1)) rfl (by decide) (lv2 := [(6, .int (l6 + 1)), (8, .int (σ 18 ((σ 0 18) - (1 : Int32)).toNatClampNeg)), (2, .int (l2 + 1)), (0, .ref (a 0)), (1, .int l1), (3, .int l3), (4, .int l4), (5, .int l5), (7, .int l7)]) rfl ?_
            obtain rfl := Option.some.inj h
            refine mm_loc [3, 4, 2, 5, 6, 7, 0, 8] rfl ?_
            exact J29
        · have h := (if_pos c27).symm.trans h
          refine mm_aload_n X dX8_wash_200 2 rfl ?_
          refine mm_iload_n X dX8_wash_201 1 rfl ?_
          obtain ⟨q49, hq49, h⟩ := Option.bind_eq_some_iff.mp h
          refine mm_callVi X dX8_wash_202 (As := [.int (l2 + 1)]) (rest := []) 0 (by decide) md_cf_0 rfl hL (mX8_dryerAt hJ hq49) gX8_wash_X8_dryerAt rfl ⟨rfl, rfl⟩ hyX8_dryerAt ⟨Nat.le_of_ble_eq_true rfl, Nat.le_of_ble_eq_true rfl⟩ rfl (Nat.le_of_ble_eq_true rfl) ?_
          refine mm_iconst X dX8_wash_205 (v := -1) (by decide) ?_
          refine mm_icmp_ne X dX8_wash_206 (tgt := 215) (by decide) (fun c50 => ?_) (fun c50 => ?_)
          · have h := (if_neg c50).symm.trans h
            refine mm_iload X dX8_wash_215 0 rfl ?_
            refine mm_iconst X dX8_wash_217 (v := -1) (by decide) ?_
            obtain ⟨q51, hq51, h⟩ := Option.bind_eq_some_iff.mp h
            have J52 : eG K D cI cZ a q51.2 233 [(0, .ref (a 0)), (1, .int l1), (2, .int (l2 + 1)), (3, .int l3), (4, .int l4), (5, .int l5), (6, .int q51.1), (7, .int l7)] [] := by
              refine mm_aload_n X dX8_wash_233 0 rfl ?_
              refine mm_get X dX8_wash_234 0 18 (by decide) md_cf_0 rfl (by decide) uX8_wash_8 kX8_wash_7 rfl (v := .int (q51.2 0 18)) rfl ?_
              refine mm_iconst X dX8_wash_237 (v := 1) (by decide) ?_
              refine mm_isub X dX8_wash_238 ?_
              refine mm_istore X dX8_wash_239 (by decide) (lv2 := [(9, .int ((q51.2 0 18) - (1 : Int32))), (0, .ref (a 0)), (1, .int l1), (2, .int (l2 + 1)), (3, .int l3), (4, .int l4), (5, .int l5), (6, .int q51.1), (7, .int l7)]) rfl ?_
              obtain ⟨q55, hq55, h⟩ := Option.bind_eq_some_iff.mp h
              refine mm_loc [1, 2, 3, 4, 5, 6, 7, 8, 0] rfl ?_
              refine tX8_wash_241 X hL hJ ?_ F ((q51.2 0 18) - (1 : Int32)) q51.2 hq55
              refine mm_aload_n X dX8_wash_268 0 rfl ?_
              refine mm_get X dX8_wash_269 0 24 (by decide) md_cf_0 rfl (by decide) uX8_wash_8 kX8_wash_4 rfl (v := .ref (a 18)) rfl ?_
              refine mm_iconst X dX8_wash_272 (v := 0) (by decide) ?_
              refine mm_iload X dX8_wash_273 5 rfl ?_
              refine mm_iload_n X dX8_wash_275 1 rfl ?_
              obtain ⟨q56, hq56, h⟩ := Option.bind_eq_some_iff.mp h
              have J57 : eG K D cI cZ a q55 290 [(0, .ref (a 0)), (1, .int l1), (2, .int (l2 + 1)), (3, .int l3), (4, .int l4), (5, .int l5), (6, .int q51.1), (7, .int l7)] [.int q56, .int (0 : Int32), .ref (a 18)] := by
                obtain ⟨hi60, h⟩ := mm_g_some h
                refine mm_iast X dX8_wash_290 18 0 (by decide) (fun _ => rfl) rfl hi60 ?_
                refine mm_aload_n X dX8_wash_291 0 rfl ?_
                refine mm_get X dX8_wash_292 0 24 (by decide) md_cf_0 rfl (by decide) uX8_wash_8 kX8_wash_4 rfl (v := .ref (a 18)) rfl ?_
                refine mm_iconst X dX8_wash_295 (v := 0) (by decide) ?_
                obtain ⟨hi61, h⟩ := mm_g_some h
                refine mm_iald X dX8_wash_296 18 0 (by decide) rfl rfl hi61 (v := ((mm_up q55 18 (0 : Int32).toNatClampNeg q56) 18 (0 : Int32).toNatClampNeg)) rfl ?_
                refine mm_iconst X dX8_wash_297 (v := -1) (by decide) ?_
                obtain ⟨q62, hq62, h⟩ := Option.bind_eq_some_iff.mp h
                have J63 : eG K D cI cZ a q62 342 [(0, .ref (a 0)), (1, .int l1), (2, .int (l2 + 1)), (3, .int l3), (4, .int l4), (5, .int l5), (6, .int q51.1), (7, .int l7)] [] := by
                  refine mm_iinc X dX8_wash_342 5 rfl (v := (l5 + 1)) rfl (by decide) (lv2 := [(5, .int (l5 + 1)), (0, .ref (a 0)), (1, .int l1), (2, .int (l2 + 1)), (3, .int l3), (4, .int l4), (6, .int q51.1), (7, .int l7)]) rfl ?_
                  refine mm_iload X dX8_wash_345 5 rfl ?_
                  refine mm_aload_n X dX8_wash_347 1 rfl ?_
                  obtain ⟨q71, hq71, h⟩ := Option.bind_eq_some_iff.mp h
                  refine mm_callVi X dX8_wash_348 (As := []) (rest := [.int l4]) 0 (by decide) md_cf_0 rfl hL (mX8_waterNow hJ hq71) gX8_wash_X8_waterNow rfl ⟨rfl, rfl⟩ hyX8_waterNow ⟨Nat.le_of_ble_eq_true rfl, Nat.le_of_ble_eq_true rfl⟩ rfl (Nat.le_of_ble_eq_true rfl) ?_
                  refine mm_iadd X dX8_wash_351 ?_
                  refine mm_istore X dX8_wash_352 (by decide) (lv2 := [(4, .int (l4 + q71)), (5, .int (l5 + 1)), (0, .ref (a 0)), (1, .int l1), (2, .int (l2 + 1)), (3, .int l3), (6, .int q51.1), (7, .int l7)]) rfl ?_
                  refine mm_goto X dX8_wash_354 (tgt := 155) (by decide) ?_
                  refine mm_loc [2, 3, 4, 5, 0, 1, 6, 7] rfl ?_
                  exact ih _ _ _ _ _ _ h
                have h := hq62
                refine mm_icmp_eq X dX8_wash_298 (tgt := 342) (by decide) (fun c64 => ?_) (fun c64 => ?_)
                · have h := (if_pos c64).symm.trans h
                  obtain rfl := Option.some.inj h
                  exact J63
                · have h := (if_neg c64).symm.trans h
                  refine mm_aload_n X dX8_wash_301 0 rfl ?_
                  refine mm_get X dX8_wash_302 0 29 (by decide) md_cf_0 rfl (by decide) uX8_wash_8 kX8_wash_9 rfl (v := .ref (a 22)) rfl ?_
                  refine mm_bipush X dX8_wash_305 (v := 7) (by decide) ?_
                  refine mm_aload_n X dX8_wash_307 0 rfl ?_
                  refine mm_get X dX8_wash_308 0 24 (by decide) md_cf_0 rfl (by decide) uX8_wash_8 kX8_wash_4 rfl (v := .ref (a 18)) rfl ?_
                  refine mm_iconst X dX8_wash_311 (v := 0) (by decide) ?_
                  obtain ⟨hi65, h⟩ := mm_g_some h
                  refine mm_iald X dX8_wash_312 18 0 (by decide) rfl rfl hi65 (v := ((mm_up q55 18 (0 : Int32).toNatClampNeg q56) 18 (0 : Int32).toNatClampNeg)) rfl ?_
                  refine mm_imul X dX8_wash_313 ?_
                  refine mm_iconst X dX8_wash_314 (v := 1) (by decide) ?_
                  refine mm_iadd X dX8_wash_315 ?_
                  refine mm_iload_n X dX8_wash_316 2 rfl ?_
                  obtain ⟨hi66, h⟩ := mm_g_some h
                  refine mm_iast X dX8_wash_317 22 0 (by decide) (fun _ => rfl) rfl hi66 ?_
                  refine mm_aload_n X dX8_wash_318 0 rfl ?_
                  refine mm_get X dX8_wash_319 0 29 (by decide) md_cf_0 rfl (by decide) uX8_wash_8 kX8_wash_9 rfl (v := .ref (a 22)) rfl ?_
                  refine mm_bipush X dX8_wash_322 (v := 7) (by decide) ?_
                  refine mm_aload_n X dX8_wash_324 0 rfl ?_
                  refine mm_get X dX8_wash_325 0 24 (by decide) md_cf_0 rfl (by decide) uX8_wash_8 kX8_wash_4 rfl (v := .ref (a 18)) rfl ?_
                  refine mm_iconst X dX8_wash_328 (v := 0) (by decide) ?_
                  obtain ⟨hi67, h⟩ := mm_g_some h
                  refine mm_iald X dX8_wash_329 18 0 (by decide) rfl rfl hi67 (v := ((mm_up q55 18 (0 : Int32).toNatClampNeg q56) 18 (0 : Int32).toNatClampNeg)) rfl ?_
                  refine mm_imul X dX8_wash_330 ?_
                  refine mm_aload_n X dX8_wash_331 0 rfl ?_
                  refine mm_aload_n X dX8_wash_332 0 rfl ?_
                  refine mm_get X dX8_wash_333 0 24 (by decide) md_cf_0 rfl (by decide) uX8_wash_8 kX8_wash_4 rfl (v := .ref (a 18)) rfl ?_
                  refine mm_iconst X dX8_wash_336 (v := 0) (by decide) ?_
                  obtain ⟨hi68, h⟩ := mm_g_some h
                  refine mm_iald X dX8_wash_337 18 0 (by decide) rfl rfl hi68 (v := ((mm_up q55 18 (0 : Int32).toNatClampNeg q56) 18 (0 : Int32).toNatClampNeg)) rfl ?_
                  obtain ⟨q69, hq69, h⟩ := Option.bind_eq_some_iff.mp h
                  refine mm_callVi X dX8_wash_338 (As := [.int ((mm_up q55 18 (0 : Int32).toNatClampNeg q56) 18 (0 : Int32).toNatClampNeg)]) (rest := [.int ((7 : Int32) * ((mm_up q55 18 (0 : Int32).toNatClampNeg q56) 18 (0 : Int32).toNatClampNeg)), .ref (a 22)]) 0 (by decide) md_cf_0 rfl hL (mX8_kindAt hJ hq69) gX8_wash_X8_kindAt rfl ⟨rfl, rfl⟩ hyX8_kindAt ⟨Nat.le_of_ble_eq_true rfl, Nat.le_of_ble_eq_true rfl⟩ rfl (Nat.le_of_ble_eq_true rfl) ?_
                  obtain ⟨hi70, h⟩ := mm_g_some h
                  refine mm_iast X dX8_wash_341 22 0 (by decide) (fun _ => rfl) rfl hi70 ?_
                  obtain rfl := Option.some.inj h
                  exact J63
              have h := hq56
              refine mm_icmp_ge X dX8_wash_276 (tgt := 289) (by decide) (fun c58 => ?_) (fun c58 => ?_)
              · have h := (if_neg c58).symm.trans h
                refine mm_iconst X dX8_wash_289 (v := -1) (by decide) ?_
                obtain rfl := Option.some.inj h
                exact J57
              · have h := (if_pos c58).symm.trans h
                refine mm_aload_n X dX8_wash_279 0 rfl ?_
                refine mm_get X dX8_wash_280 0 23 (by decide) md_cf_0 rfl (by decide) uX8_wash_8 kX8_wash_3 rfl (v := .ref (a 17)) rfl ?_
                refine mm_iload X dX8_wash_283 5 rfl ?_
                obtain ⟨hi59, h⟩ := mm_g_some h
                refine mm_iald X dX8_wash_285 17 0 (by decide) rfl rfl hi59 (v := (q55 17 l5.toNatClampNeg)) rfl ?_
                refine mm_goto X dX8_wash_286 (tgt := 290) (by decide) ?_
                obtain rfl := Option.some.inj h
                exact J57
            have h := hq51
            refine mm_icmp_eq X dX8_wash_218 (tgt := 233) (by decide) (fun c53 => ?_) (fun c53 => ?_)
            · have h := (if_pos c53).symm.trans h
              obtain rfl := Option.some.inj h
              refine mm_loc [2, 3, 1, 4, 5, 6, 7, 8] rfl ?_
              exact J52
            · have h := (if_neg c53).symm.trans h
              refine mm_aload_n X dX8_wash_221 2 rfl ?_
              refine mm_iload X dX8_wash_222 0 rfl ?_
              refine mm_iload_n X dX8_wash_224 1 rfl ?_
              refine mm_iload X dX8_wash_225 7 rfl ?_
              obtain ⟨q54, hq54, h⟩ := Option.bind_eq_some_iff.mp h
              refine mm_callVv X dX8_wash_227 (As := [.int (σ 18 ((σ 0 18) - (1 : Int32)).toNatClampNeg), .int (l2 + 1), .int l6]) (rest := []) 0 (by decide) md_cf_0 rfl hL (mX8_goesOut hJ hq54) gX8_wash_X8_goesOut rfl ⟨rfl, rfl⟩ hyX8_goesOut ⟨Nat.le_of_ble_eq_true rfl, Nat.le_of_ble_eq_true rfl⟩ rfl (Nat.le_of_ble_eq_true rfl) ?_
              refine mm_iinc X dX8_wash_230 7 rfl (v := (l6 + 1)) rfl (by decide) (lv2 := [(6, .int (l6 + 1)), (8, .int (σ 18 ((σ 0 18) - (1 : Int32)).toNatClampNeg)), (2, .int (l2 + 1)), (0, .ref (a 0)), (1, .int l1), (3, .int l3), (4, .int l4), (5, .int l5), (7, .int l7)]) rfl ?_
              obtain rfl := Option.some.inj h
              refine mm_loc [3, 4, 2, 5, 6, 7, 0, 8] rfl ?_
              exact J52
          · have h := (if_pos c50).symm.trans h
            refine mm_iinc X dX8_wash_209 4 rfl (v := (l3 + 1)) rfl (by decide) (lv2 := [(3, .int (l3 + 1)), (8, .int (σ 18 ((σ 0 18) - (1 : Int32)).toNatClampNeg)), (2, .int (l2 + 1)), (0, .ref (a 0)), (1, .int l1), (4, .int l4), (5, .int l5), (6, .int l6), (7, .int l7)]) rfl ?_
            refine mm_goto X dX8_wash_212 (tgt := 354) (by decide) ?_
            refine mm_goto X dX8_wash_354 (tgt := 155) (by decide) ?_
            refine mm_loc [3, 4, 2, 0, 5, 6, 7, 8] rfl ?_
            exact ih _ _ _ _ _ _ h
set_option maxRecDepth 100000 in
set_option maxHeartbeats 4000000 in
theorem tX8_wash_371 {l : Launch} {K : mm_K} {D : va_G} {cI cZ : ClassId} {a : Nat → Nat} (X : eC K rX8_wash cX8_wash 10 (some .int) wsX8_wash RX8 D cI cZ a) (hL : mm_L K l) (hJ : mm_J 29 a) {F : Nat} {l2 : Int32} {l3 : Int32} {l4 : Int32} {out : Int32 × mm_M} (hx : eG K D cI cZ a out.2 448 [(0, .ref (a 0)), (2, .int l2), (3, .int l3), (4, .int l4), (7, .int out.1)] []) : ∀ (k : Nat) (l7 : Int32) (l8 : Int32) (σ : mm_M), fX8_wash_371 F l2 l3 l4 k l7 l8 σ = some out → eG K D cI cZ a σ 371 [(0, .ref (a 0)), (2, .int l2), (3, .int l3), (4, .int l4), (7, .int l7), (8, .int l8)] [] := by
  intro k
  induction k with
  | zero =>
    intro l7 l8 σ h
    have h : none = some out := h
    cases h
  | succ k ih =>
    intro l7 l8 σ h
    rw [fX8_wash_371] at h
    refine mm_iload X dX8_wash_371 5 rfl ?_
    refine mm_aload_n X dX8_wash_373 0 rfl ?_
    refine mm_get X dX8_wash_374 0 13 (by decide) md_cf_0 rfl (by decide) uX8_wash_8 kX8_wash_1 rfl (v := .int (σ 0 13)) rfl ?_
    refine mm_icmp_ge X dX8_wash_377 (tgt := 448) (by decide) (fun c1 => ?_) (fun c1 => ?_)
    · have h := (if_neg c1).symm.trans h
      obtain rfl := Option.some.inj h
      refine mm_loc [0, 1, 2, 3, 4] rfl ?_
      exact hx
    · have h := (if_pos c1).symm.trans h
      refine mm_aload_n X dX8_wash_380 0 rfl ?_
      refine mm_get X dX8_wash_381 0 27 (by decide) md_cf_0 rfl (by decide) uX8_wash_8 kX8_wash_10 rfl (v := .ref (a 21)) rfl ?_
      refine mm_iconst X dX8_wash_384 (v := 4) (by decide) ?_
      refine mm_aload_n X dX8_wash_385 0 rfl ?_
      refine mm_get X dX8_wash_386 0 29 (by decide) md_cf_0 rfl (by decide) uX8_wash_8 kX8_wash_9 rfl (v := .ref (a 22)) rfl ?_
      refine mm_bipush X dX8_wash_389 (v := 7) (by decide) ?_
      refine mm_iload X dX8_wash_391 5 rfl ?_
      refine mm_imul X dX8_wash_393 ?_
      refine mm_bipush X dX8_wash_394 (v := 6) (by decide) ?_
      refine mm_iadd X dX8_wash_396 ?_
      obtain ⟨hi2, h⟩ := mm_g_some h
      refine mm_iald X dX8_wash_397 22 0 (by decide) rfl rfl hi2 (v := (σ 22 (((7 : Int32) * l8) + (6 : Int32)).toNatClampNeg)) rfl ?_
      refine mm_aload_n X dX8_wash_398 0 rfl ?_
      refine mm_get X dX8_wash_399 0 27 (by decide) md_cf_0 rfl (by decide) uX8_wash_8 kX8_wash_10 rfl (v := .ref (a 21)) rfl ?_
      refine mm_iconst X dX8_wash_402 (v := 4) (by decide) ?_
      obtain ⟨hi3, h⟩ := mm_g_some h
      refine mm_iald X dX8_wash_403 21 0 (by decide) rfl rfl hi3 (v := (σ 21 (4 : Int32).toNatClampNeg)) rfl ?_
      obtain ⟨q4, hq4, h⟩ := Option.bind_eq_some_iff.mp h
      have J5 : eG K D cI cZ a σ 429 [(0, .ref (a 0)), (2, .int l2), (3, .int l3), (4, .int l4), (7, .int l7), (8, .int l8)] [.int q4, .int (4 : Int32), .ref (a 21)] := by
        obtain ⟨hi9, h⟩ := mm_g_some h
        refine mm_iast X dX8_wash_429 21 0 (by decide) (fun _ => rfl) rfl hi9 ?_
        refine mm_iload X dX8_wash_430 4 rfl ?_
        refine mm_aload_n X dX8_wash_432 0 rfl ?_
        refine mm_get X dX8_wash_433 0 15 (by decide) md_cf_0 rfl (by decide) uX8_wash_8 kX8_wash_11 rfl (v := .ref (a 13)) rfl ?_
        refine mm_iload X dX8_wash_436 5 rfl ?_
        obtain ⟨hi10, h⟩ := mm_g_some h
        refine mm_iald X dX8_wash_438 13 0 (by decide) rfl rfl hi10 (v := (σ 13 l8.toNatClampNeg)) rfl ?_
        refine mm_iadd X dX8_wash_439 ?_
        refine mm_istore X dX8_wash_440 (by decide) (lv2 := [(7, .int (l7 + (σ 13 l8.toNatClampNeg))), (0, .ref (a 0)), (2, .int l2), (3, .int l3), (4, .int l4), (8, .int l8)]) rfl ?_
        refine mm_iinc X dX8_wash_442 5 rfl (v := (l8 + 1)) rfl (by decide) (lv2 := [(8, .int (l8 + 1)), (7, .int (l7 + (σ 13 l8.toNatClampNeg))), (0, .ref (a 0)), (2, .int l2), (3, .int l3), (4, .int l4)]) rfl ?_
        refine mm_goto X dX8_wash_445 (tgt := 371) (by decide) ?_
        refine mm_loc [2, 3, 4, 5, 1, 0] rfl ?_
        exact ih _ _ _ h
      have h := hq4
      refine mm_icmp_le X dX8_wash_404 (tgt := 423) (by decide) (fun c6 => ?_) (fun c6 => ?_)
      · have h := (if_neg c6).symm.trans h
        refine mm_aload_n X dX8_wash_423 0 rfl ?_
        refine mm_get X dX8_wash_424 0 27 (by decide) md_cf_0 rfl (by decide) uX8_wash_8 kX8_wash_10 rfl (v := .ref (a 21)) rfl ?_
        refine mm_iconst X dX8_wash_427 (v := 4) (by decide) ?_
        obtain ⟨hi7, h⟩ := mm_g_some h
        refine mm_iald X dX8_wash_428 21 0 (by decide) rfl rfl hi7 (v := (σ 21 (4 : Int32).toNatClampNeg)) rfl ?_
        obtain rfl := Option.some.inj h
        exact J5
      · have h := (if_pos c6).symm.trans h
        refine mm_aload_n X dX8_wash_407 0 rfl ?_
        refine mm_get X dX8_wash_408 0 29 (by decide) md_cf_0 rfl (by decide) uX8_wash_8 kX8_wash_9 rfl (v := .ref (a 22)) rfl ?_
        refine mm_bipush X dX8_wash_411 (v := 7) (by decide) ?_
        refine mm_iload X dX8_wash_413 5 rfl ?_
        refine mm_imul X dX8_wash_415 ?_
        refine mm_bipush X dX8_wash_416 (v := 6) (by decide) ?_
        refine mm_iadd X dX8_wash_418 ?_
        obtain ⟨hi8, h⟩ := mm_g_some h
        refine mm_iald X dX8_wash_419 22 0 (by decide) rfl rfl hi8 (v := (σ 22 (((7 : Int32) * l8) + (6 : Int32)).toNatClampNeg)) rfl ?_
        refine mm_goto X dX8_wash_420 (tgt := 429) (by decide) ?_
        obtain rfl := Option.some.inj h
        exact J5
set_option maxRecDepth 100000 in
set_option maxHeartbeats 4000000 in
theorem tX8_wash_502 {l : Launch} {K : mm_K} {D : va_G} {cI cZ : ClassId} {a : Nat → Nat} (X : eC K rX8_wash cX8_wash 10 (some .int) wsX8_wash RX8 D cI cZ a) (hL : mm_L K l) (hJ : mm_J 29 a) {F : Nat} {l2 : Int32} {out : mm_M} (hx : eG K D cI cZ a out 555 [(0, .ref (a 0)), (2, .int l2)] []) : ∀ (k : Nat) (l8 : Int32) (σ : mm_M), fX8_wash_502 F l2 k l8 σ = some out → eG K D cI cZ a σ 502 [(0, .ref (a 0)), (2, .int l2), (8, .int l8)] [] := by
  intro k
  induction k with
  | zero =>
    intro l8 σ h
    have h : none = some out := h
    cases h
  | succ k ih =>
    intro l8 σ h
    rw [fX8_wash_502] at h
    refine mm_iload X dX8_wash_502 2 rfl ?_
    refine mm_aload_n X dX8_wash_504 0 rfl ?_
    refine mm_get X dX8_wash_505 0 6 (by decide) md_cf_0 rfl (by decide) uX8_wash_8 kX8_wash_12 rfl (v := .int (σ 0 6)) rfl ?_
    refine mm_icmp_ge X dX8_wash_508 (tgt := 555) (by decide) (fun c1 => ?_) (fun c1 => ?_)
    · have h := (if_neg c1).symm.trans h
      obtain rfl := Option.some.inj h
      refine mm_loc [0, 1] rfl ?_
      exact hx
    · have h := (if_pos c1).symm.trans h
      refine mm_aload_n X dX8_wash_511 0 rfl ?_
      refine mm_get X dX8_wash_512 0 10 (by decide) md_cf_0 rfl (by decide) uX8_wash_8 kX8_wash_13 rfl (v := .ref (a 9)) rfl ?_
      refine mm_iload X dX8_wash_515 2 rfl ?_
      obtain ⟨hi2, h⟩ := mm_g_some h
      refine mm_iald X dX8_wash_517 9 0 (by decide) rfl rfl hi2 (v := (σ 9 l8.toNatClampNeg)) rfl ?_
      refine mm_iconst X dX8_wash_518 (v := 2) (by decide) ?_
      obtain ⟨q3, hq3, h⟩ := Option.bind_eq_some_iff.mp h
      have J4 : eG K D cI cZ a q3 549 [(0, .ref (a 0)), (2, .int l2), (8, .int l8)] [] := by
        refine mm_iinc X dX8_wash_549 2 rfl (v := (l8 + 1)) rfl (by decide) (lv2 := [(8, .int (l8 + 1)), (0, .ref (a 0)), (2, .int l2)]) rfl ?_
        refine mm_goto X dX8_wash_552 (tgt := 502) (by decide) ?_
        refine mm_loc [1, 2, 0] rfl ?_
        exact ih _ _ h
      have h := hq3
      refine mm_icmp_ne X dX8_wash_519 (tgt := 549) (by decide) (fun c5 => ?_) (fun c5 => ?_)
      · have h := (if_neg c5).symm.trans h
        obtain rfl := Option.some.inj h
        exact J4
      · have h := (if_pos c5).symm.trans h
        refine mm_aload_n X dX8_wash_522 0 rfl ?_
        refine mm_get X dX8_wash_523 0 10 (by decide) md_cf_0 rfl (by decide) uX8_wash_8 kX8_wash_13 rfl (v := .ref (a 9)) rfl ?_
        refine mm_iload X dX8_wash_526 2 rfl ?_
        refine mm_iconst X dX8_wash_528 (v := 3) (by decide) ?_
        obtain ⟨hi6, h⟩ := mm_g_some h
        refine mm_iast X dX8_wash_529 9 0 (by decide) (fun _ => rfl) rfl hi6 ?_
        refine mm_aload_n X dX8_wash_530 0 rfl ?_
        refine mm_get X dX8_wash_531 0 12 (by decide) md_cf_0 rfl (by decide) uX8_wash_8 kX8_wash_14 rfl (v := .ref (a 11)) rfl ?_
        refine mm_iload X dX8_wash_534 2 rfl ?_
        refine mm_iconst X dX8_wash_536 (v := -1) (by decide) ?_
        obtain ⟨hi7, h⟩ := mm_g_some h
        refine mm_iast X dX8_wash_537 11 0 (by decide) (fun _ => rfl) rfl hi7 ?_
        refine mm_aload_n X dX8_wash_538 0 rfl ?_
        refine mm_get X dX8_wash_539 0 11 (by decide) md_cf_0 rfl (by decide) uX8_wash_8 kX8_wash_15 rfl (v := .ref (a 10)) rfl ?_
        refine mm_iload X dX8_wash_542 2 rfl ?_
        refine mm_dup2 X dX8_wash_544 rfl rfl ?_
        obtain ⟨hi8, h⟩ := mm_g_some h
        refine mm_iald X dX8_wash_545 10 0 (by decide) rfl rfl hi8 (v := (σ 10 l8.toNatClampNeg)) rfl ?_
        refine mm_iconst X dX8_wash_546 (v := 1) (by decide) ?_
        refine mm_iadd X dX8_wash_547 ?_
        obtain ⟨hi9, h⟩ := mm_g_some h
        refine mm_iast X dX8_wash_548 10 0 (by decide) (fun _ => rfl) rfl hi9 ?_
        obtain rfl := Option.some.inj h
        exact J4
set_option maxRecDepth 100000 in
set_option maxHeartbeats 4000000 in
theorem mX8_wash {l : Launch} {D : va_G} {cI cZ : ClassId} {a : Nat → Nat} (hJ : mm_J 29 a) {F : Nat} {σ : mm_M} {res : Int32 × mm_M} (h : fX8_wash F σ = some res) (sz : Nat) : Met l yX8_wash wsX8_wash rX8_wash (eP D cI cZ a σ [.ref (a 0)] sz) (eQi D cI cZ a res.1 res.2 sz) 0 0 (mm_A 29 a sz) := by
  refine mm_met (fun sz => eQi D cI cZ a res.1 res.2 sz) (lv := [(0, .ref (a 0))]) (ret := (some .int)) (cc := cX8_wash) (maxL := 10) (own := RX8) hJ (by decide +kernel) rfl rfl (Nat.le_of_ble_eq_true rfl) rfl ?_ sz
  intro K hL X hQ
  unfold fX8_wash at h
  refine mm_aload_n X dX8_wash_0 0 rfl ?_
  refine mm_get X dX8_wash_1 0 13 (by decide) md_cf_0 rfl (by decide) uX8_wash_8 kX8_wash_1 rfl (v := .int (σ 0 13)) rfl ?_
  refine mm_if_ne X dX8_wash_4 (tgt := 10) (by decide) (fun c1 => ?_) (fun c1 => ?_)
  · have h := (if_neg c1).symm.trans h
    refine mm_iconst X dX8_wash_10 (v := 0) (by decide) ?_
    refine mm_istore_n X dX8_wash_11 (by decide) (lv2 := [(1, .int (0 : Int32)), (0, .ref (a 0))]) rfl ?_
    refine mm_iconst X dX8_wash_12 (v := 0) (by decide) ?_
    refine mm_istore_n X dX8_wash_13 (by decide) (lv2 := [(2, .int (0 : Int32)), (1, .int (0 : Int32)), (0, .ref (a 0))]) rfl ?_
    obtain ⟨q2, hq2, h⟩ := Option.bind_eq_some_iff.mp h
    refine mm_loc [2, 1, 0] rfl ?_
    refine tX8_wash_14 X hL hJ ?_ F (0 : Int32) (0 : Int32) σ hq2
    refine mm_iconst X dX8_wash_90 (v := 0) (by decide) ?_
    refine mm_istore_n X dX8_wash_91 (by decide) (lv2 := [(2, .int (0 : Int32)), (0, .ref (a 0)), (1, .int q2.1)]) rfl ?_
    obtain ⟨q3, hq3, h⟩ := Option.bind_eq_some_iff.mp h
    refine mm_loc [1, 2, 0] rfl ?_
    refine tX8_wash_92 X hL hJ ?_ F (0 : Int32) q2.2 hq3
    refine mm_iconst X dX8_wash_111 (v := 0) (by decide) ?_
    refine mm_istore_n X dX8_wash_112 (by decide) (lv2 := [(2, .int (0 : Int32)), (0, .ref (a 0)), (1, .int q2.1)]) rfl ?_
    obtain ⟨q4, hq4, h⟩ := Option.bind_eq_some_iff.mp h
    refine mm_loc [1, 2, 0] rfl ?_
    refine tX8_wash_113 X hL hJ ?_ F (0 : Int32) q3 hq4
    refine mm_aload_n X dX8_wash_131 0 rfl ?_
    refine mm_aload_n X dX8_wash_132 0 rfl ?_
    refine mm_get X dX8_wash_133 0 13 (by decide) md_cf_0 rfl (by decide) uX8_wash_8 kX8_wash_1 rfl (v := .int (q4 0 13)) rfl ?_
    refine mm_put X dX8_wash_136 0 28 (by decide) tyX8 tyX8_ok nmX8 md_cf_0 rfl rfl (by decide) uX8_wash_8 kX8_wash_6 rfl rfl rfl (Nat.le_of_ble_eq_true rfl) ?_
    refine mm_iconst X dX8_wash_139 (v := 0) (by decide) ?_
    refine mm_istore_n X dX8_wash_140 (by decide) (lv2 := [(2, .int (0 : Int32)), (0, .ref (a 0)), (1, .int q2.1)]) rfl ?_
    refine mm_iconst X dX8_wash_141 (v := 0) (by decide) ?_
    refine mm_istore_n X dX8_wash_142 (by decide) (lv2 := [(3, .int (0 : Int32)), (2, .int (0 : Int32)), (0, .ref (a 0)), (1, .int q2.1)]) rfl ?_
    refine mm_iconst X dX8_wash_143 (v := 0) (by decide) ?_
    refine mm_istore X dX8_wash_144 (by decide) (lv2 := [(4, .int (0 : Int32)), (3, .int (0 : Int32)), (2, .int (0 : Int32)), (0, .ref (a 0)), (1, .int q2.1)]) rfl ?_
    refine mm_iconst X dX8_wash_146 (v := 0) (by decide) ?_
    refine mm_istore X dX8_wash_147 (by decide) (lv2 := [(5, .int (0 : Int32)), (4, .int (0 : Int32)), (3, .int (0 : Int32)), (2, .int (0 : Int32)), (0, .ref (a 0)), (1, .int q2.1)]) rfl ?_
    refine mm_iconst X dX8_wash_149 (v := 0) (by decide) ?_
    refine mm_istore X dX8_wash_150 (by decide) (lv2 := [(6, .int (0 : Int32)), (5, .int (0 : Int32)), (4, .int (0 : Int32)), (3, .int (0 : Int32)), (2, .int (0 : Int32)), (0, .ref (a 0)), (1, .int q2.1)]) rfl ?_
    refine mm_iconst X dX8_wash_152 (v := 0) (by decide) ?_
    refine mm_istore X dX8_wash_153 (by decide) (lv2 := [(7, .int (0 : Int32)), (6, .int (0 : Int32)), (5, .int (0 : Int32)), (4, .int (0 : Int32)), (3, .int (0 : Int32)), (2, .int (0 : Int32)), (0, .ref (a 0)), (1, .int q2.1)]) rfl ?_
    obtain ⟨q5, hq5, h⟩ := Option.bind_eq_some_iff.mp h
    refine mm_loc [6, 7, 5, 4, 3, 2, 1, 0] rfl ?_
    refine tX8_wash_155 X hL hJ ?_ F (0 : Int32) (0 : Int32) (0 : Int32) (0 : Int32) (0 : Int32) (mm_up q4 0 28 (q4 0 13)) hq5
    refine mm_aload_n X dX8_wash_357 0 rfl ?_
    obtain ⟨q6, hq6, h⟩ := Option.bind_eq_some_iff.mp h
    refine mm_callVv X dX8_wash_358 (As := []) (rest := []) 0 (by decide) md_cf_0 rfl hL (mX8_irons hJ hq6) gX8_wash_X8_irons rfl ⟨rfl, rfl⟩ hyX8_irons ⟨Nat.le_of_ble_eq_true rfl, Nat.le_of_ble_eq_true rfl⟩ rfl (Nat.le_of_ble_eq_true rfl) ?_
    refine mm_aload_n X dX8_wash_361 0 rfl ?_
    refine mm_get X dX8_wash_362 0 27 (by decide) md_cf_0 rfl (by decide) uX8_wash_8 kX8_wash_10 rfl (v := .ref (a 21)) rfl ?_
    refine mm_iconst X dX8_wash_365 (v := 4) (by decide) ?_
    refine mm_iconst X dX8_wash_366 (v := 0) (by decide) ?_
    obtain ⟨hi7, h⟩ := mm_g_some h
    refine mm_iast X dX8_wash_367 21 0 (by decide) (fun _ => rfl) rfl hi7 ?_
    refine mm_iconst X dX8_wash_368 (v := 0) (by decide) ?_
    refine mm_istore X dX8_wash_369 (by decide) (lv2 := [(8, .int (0 : Int32)), (0, .ref (a 0)), (2, .int q5.1), (3, .int q5.2.1), (4, .int q5.2.2.1), (7, .int (0 : Int32))]) rfl ?_
    obtain ⟨q8, hq8, h⟩ := Option.bind_eq_some_iff.mp h
    refine mm_loc [1, 2, 3, 4, 5, 0] rfl ?_
    refine tX8_wash_371 X hL hJ ?_ F (0 : Int32) (0 : Int32) (mm_up q6 21 (4 : Int32).toNatClampNeg (0 : Int32)) hq8
    refine mm_aload_n X dX8_wash_448 0 rfl ?_
    refine mm_get X dX8_wash_449 0 27 (by decide) md_cf_0 rfl (by decide) uX8_wash_8 kX8_wash_10 rfl (v := .ref (a 21)) rfl ?_
    refine mm_iconst X dX8_wash_452 (v := 0) (by decide) ?_
    refine mm_iload_n X dX8_wash_453 1 rfl ?_
    obtain ⟨hi9, h⟩ := mm_g_some h
    refine mm_iast X dX8_wash_454 21 0 (by decide) (fun _ => rfl) rfl hi9 ?_
    refine mm_aload_n X dX8_wash_455 0 rfl ?_
    refine mm_get X dX8_wash_456 0 27 (by decide) md_cf_0 rfl (by decide) uX8_wash_8 kX8_wash_10 rfl (v := .ref (a 21)) rfl ?_
    refine mm_iconst X dX8_wash_459 (v := 1) (by decide) ?_
    refine mm_aload_n X dX8_wash_460 0 rfl ?_
    obtain ⟨q10, hq10, h⟩ := Option.bind_eq_some_iff.mp h
    refine mm_callVi X dX8_wash_461 (As := []) (rest := [.int (1 : Int32), .ref (a 21)]) 0 (by decide) md_cf_0 rfl hL (mX8_empties hJ hq10) gX8_wash_X8_empties rfl ⟨rfl, rfl⟩ hyX8_empties ⟨Nat.le_of_ble_eq_true rfl, Nat.le_of_ble_eq_true rfl⟩ rfl (Nat.le_of_ble_eq_true rfl) ?_
    obtain ⟨hi11, h⟩ := mm_g_some h
    refine mm_iast X dX8_wash_464 21 0 (by decide) (fun _ => rfl) rfl hi11 ?_
    refine mm_aload_n X dX8_wash_465 0 rfl ?_
    refine mm_get X dX8_wash_466 0 27 (by decide) md_cf_0 rfl (by decide) uX8_wash_8 kX8_wash_10 rfl (v := .ref (a 21)) rfl ?_
    refine mm_iconst X dX8_wash_469 (v := 2) (by decide) ?_
    refine mm_iload_n X dX8_wash_470 2 rfl ?_
    obtain ⟨hi12, h⟩ := mm_g_some h
    refine mm_iast X dX8_wash_471 21 0 (by decide) (fun _ => rfl) rfl hi12 ?_
    refine mm_aload_n X dX8_wash_472 0 rfl ?_
    refine mm_get X dX8_wash_473 0 27 (by decide) md_cf_0 rfl (by decide) uX8_wash_8 kX8_wash_10 rfl (v := .ref (a 21)) rfl ?_
    refine mm_iconst X dX8_wash_476 (v := 3) (by decide) ?_
    refine mm_iload X dX8_wash_477 3 rfl ?_
    obtain ⟨hi13, h⟩ := mm_g_some h
    refine mm_iast X dX8_wash_479 21 0 (by decide) (fun _ => rfl) rfl hi13 ?_
    refine mm_aload_n X dX8_wash_480 0 rfl ?_
    refine mm_get X dX8_wash_481 0 27 (by decide) md_cf_0 rfl (by decide) uX8_wash_8 kX8_wash_10 rfl (v := .ref (a 21)) rfl ?_
    refine mm_iconst X dX8_wash_484 (v := 5) (by decide) ?_
    refine mm_aload_n X dX8_wash_485 0 rfl ?_
    refine mm_get X dX8_wash_486 0 13 (by decide) md_cf_0 rfl (by decide) uX8_wash_8 kX8_wash_1 rfl (v := .int (q8.2 0 13)) rfl ?_
    obtain ⟨hi14, h⟩ := mm_g_some h
    refine mm_iast X dX8_wash_489 21 0 (by decide) (fun _ => rfl) rfl hi14 ?_
    refine mm_aload_n X dX8_wash_490 0 rfl ?_
    refine mm_get X dX8_wash_491 0 27 (by decide) md_cf_0 rfl (by decide) uX8_wash_8 kX8_wash_10 rfl (v := .ref (a 21)) rfl ?_
    refine mm_bipush X dX8_wash_494 (v := 6) (by decide) ?_
    refine mm_iload X dX8_wash_496 4 rfl ?_
    obtain ⟨hi15, h⟩ := mm_g_some h
    refine mm_iast X dX8_wash_498 21 0 (by decide) (fun _ => rfl) rfl hi15 ?_
    refine mm_iconst X dX8_wash_499 (v := 0) (by decide) ?_
    refine mm_istore X dX8_wash_500 (by decide) (lv2 := [(8, .int (0 : Int32)), (0, .ref (a 0)), (2, .int q5.1), (3, .int q5.2.1), (4, .int q5.2.2.1), (7, .int q8.1)]) rfl ?_
    obtain ⟨q16, hq16, h⟩ := Option.bind_eq_some_iff.mp h
    refine mm_loc [1, 2, 0] rfl ?_
    refine tX8_wash_502 X hL hJ ?_ F (0 : Int32) (mm_up (mm_up (mm_up (mm_up (mm_up (mm_up q8.2 21 (0 : Int32).toNatClampNeg q5.1) 21 (1 : Int32).toNatClampNeg q10) 21 (2 : Int32).toNatClampNeg q5.2.1) 21 (3 : Int32).toNatClampNeg q5.2.2.1) 21 (5 : Int32).toNatClampNeg (q8.2 0 13)) 21 (6 : Int32).toNatClampNeg q8.1) hq16
    refine mm_aload_n X dX8_wash_555 0 rfl ?_
    refine mm_iconst X dX8_wash_556 (v := 0) (by decide) ?_
    refine mm_put X dX8_wash_557 0 13 (by decide) tyX8 tyX8_ok nmX8 md_cf_0 rfl rfl (by decide) uX8_wash_8 kX8_wash_1 rfl rfl rfl (Nat.le_of_ble_eq_true rfl) ?_
    refine mm_aload_n X dX8_wash_560 0 rfl ?_
    refine mm_dup X dX8_wash_561 rfl ?_
    refine mm_get X dX8_wash_562 0 21 (by decide) md_cf_0 rfl (by decide) uX8_wash_8 kX8_wash_16 rfl (v := .int (q16 0 21)) rfl ?_
    refine mm_iconst X dX8_wash_565 (v := 1) (by decide) ?_
    refine mm_iadd X dX8_wash_566 ?_
    refine mm_put X dX8_wash_567 0 21 (by decide) tyX8 tyX8_ok nmX8 md_cf_0 rfl rfl (by decide) uX8_wash_8 kX8_wash_16 rfl rfl rfl (Nat.le_of_ble_eq_true rfl) ?_
    refine mm_iload_n X dX8_wash_570 1 rfl ?_
    obtain rfl := Option.some.inj h
    exact mm_iret X dX8_wash_571 rfl hQ rfl
  · have h := (if_pos c1).symm.trans h
    refine mm_bipush X dX8_wash_7 (v := -4) (by decide) ?_
    obtain rfl := Option.some.inj h
    exact mm_iret X dX8_wash_9 rfl hQ rfl
