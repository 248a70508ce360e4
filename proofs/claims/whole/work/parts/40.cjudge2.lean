section C40
variable {M : vM} {c : Nat} {T : Nat → Int32}
theorem v_ldcw {k : vK} {Q : Option Value → vM → Prop} {M : vM} {pc : Nat} {lv : List (Nat × Value)} {st : List Value} {idx : Nat} {v : Int32} (d : decode k.2.1 pc = .ok (.ldc_w idx, 3)) (hw : Cond.constant k.1.cls idx v ∈ wg) (h : V k Q M (pc + 3) lv (.int v :: st)) : V k Q M pc lv st := by
  intro Z A p l e R s m args below meth c cells slots Qw C Rt H locs ls hP hS hl
  exact lv_ldcw C.1 C.2.1 C.2.2.2.1 (C.2.2.2.2.1 _ hw) d (h Z A p l e R s m args below meth c cells slots Qw C Rt H locs ls hP hS hl)
set_option maxRecDepth 100000 in
theorem c_bc_0  : V kJ6_bitCount_0f7a4 (rt (.int (nI (bcT 0))) M) M 0 [(0, .int (nI 0))] [] := by
  refine v_iload_n dJ6_bitCount_0f7a4_0 rfl ?_
  refine v_iload_n dJ6_bitCount_0f7a4_1 rfl ?_
  refine v_iconst (v := (nI 1)) dJ6_bitCount_0f7a4_2 rfl ?_
  refine v_iushr dJ6_bitCount_0f7a4_3 rfl ?_
  refine v_ldcw dJ6_bitCount_0f7a4_4 cs_J6_265 ?_
  refine v_iand dJ6_bitCount_0f7a4_7 ?_
  refine v_isub dJ6_bitCount_0f7a4_8 ?_
  refine v_istore_n (lv' := [(0, .int ((nI 0) - ((((nI 0).toUInt32 >>> ((nI 1).toUInt32 &&& Int32.toUInt32 31)).toInt32) &&& 1431655765)))]) dJ6_bitCount_0f7a4_9 (Nat.le_of_ble_eq_true rfl) rfl ?_
  refine v_iload_n dJ6_bitCount_0f7a4_10 rfl ?_
  refine v_ldcw dJ6_bitCount_0f7a4_11 cs_J6_266 ?_
  refine v_iand dJ6_bitCount_0f7a4_14 ?_
  refine v_iload_n dJ6_bitCount_0f7a4_15 rfl ?_
  refine v_iconst (v := (nI 2)) dJ6_bitCount_0f7a4_16 rfl ?_
  refine v_iushr dJ6_bitCount_0f7a4_17 rfl ?_
  refine v_ldcw dJ6_bitCount_0f7a4_18 cs_J6_266 ?_
  refine v_iand dJ6_bitCount_0f7a4_21 ?_
  refine v_iadd dJ6_bitCount_0f7a4_22 ?_
  refine v_istore_n (lv' := [(0, .int ((((nI 0) - ((((nI 0).toUInt32 >>> ((nI 1).toUInt32 &&& Int32.toUInt32 31)).toInt32) &&& 1431655765)) &&& 858993459) + (((((nI 0) - ((((nI 0).toUInt32 >>> ((nI 1).toUInt32 &&& Int32.toUInt32 31)).toInt32) &&& 1431655765)).toUInt32 >>> ((nI 2).toUInt32 &&& Int32.toUInt32 31)).toInt32) &&& 858993459)))]) dJ6_bitCount_0f7a4_23 (Nat.le_of_ble_eq_true rfl) rfl ?_
  refine v_iload_n dJ6_bitCount_0f7a4_24 rfl ?_
  refine v_iload_n dJ6_bitCount_0f7a4_25 rfl ?_
  refine v_iconst (v := (nI 4)) dJ6_bitCount_0f7a4_26 rfl ?_
  refine v_iushr dJ6_bitCount_0f7a4_27 rfl ?_
  refine v_iadd dJ6_bitCount_0f7a4_28 ?_
  refine v_ldcw dJ6_bitCount_0f7a4_29 cs_J6_267 ?_
  refine v_iand dJ6_bitCount_0f7a4_32 ?_
  refine v_istore_n (lv' := [(0, .int ((((((nI 0) - ((((nI 0).toUInt32 >>> ((nI 1).toUInt32 &&& Int32.toUInt32 31)).toInt32) &&& 1431655765)) &&& 858993459) + (((((nI 0) - ((((nI 0).toUInt32 >>> ((nI 1).toUInt32 &&& Int32.toUInt32 31)).toInt32) &&& 1431655765)).toUInt32 >>> ((nI 2).toUInt32 &&& Int32.toUInt32 31)).toInt32) &&& 858993459)) + ((((((nI 0) - ((((nI 0).toUInt32 >>> ((nI 1).toUInt32 &&& Int32.toUInt32 31)).toInt32) &&& 1431655765)) &&& 858993459) + (((((nI 0) - ((((nI 0).toUInt32 >>> ((nI 1).toUInt32 &&& Int32.toUInt32 31)).toInt32) &&& 1431655765)).toUInt32 >>> ((nI 2).toUInt32 &&& Int32.toUInt32 31)).toInt32) &&& 858993459)).toUInt32 >>> ((nI 4).toUInt32 &&& Int32.toUInt32 31)).toInt32)) &&& 252645135))]) dJ6_bitCount_0f7a4_33 (Nat.le_of_ble_eq_true rfl) rfl ?_
  refine v_iload_n dJ6_bitCount_0f7a4_34 rfl ?_
  refine v_iload_n dJ6_bitCount_0f7a4_35 rfl ?_
  refine v_bipush (v := (nI 8)) dJ6_bitCount_0f7a4_36 rfl ?_
  refine v_iushr dJ6_bitCount_0f7a4_38 rfl ?_
  refine v_iadd dJ6_bitCount_0f7a4_39 ?_
  refine v_istore_n (lv' := [(0, .int (((((((nI 0) - ((((nI 0).toUInt32 >>> ((nI 1).toUInt32 &&& Int32.toUInt32 31)).toInt32) &&& 1431655765)) &&& 858993459) + (((((nI 0) - ((((nI 0).toUInt32 >>> ((nI 1).toUInt32 &&& Int32.toUInt32 31)).toInt32) &&& 1431655765)).toUInt32 >>> ((nI 2).toUInt32 &&& Int32.toUInt32 31)).toInt32) &&& 858993459)) + ((((((nI 0) - ((((nI 0).toUInt32 >>> ((nI 1).toUInt32 &&& Int32.toUInt32 31)).toInt32) &&& 1431655765)) &&& 858993459) + (((((nI 0) - ((((nI 0).toUInt32 >>> ((nI 1).toUInt32 &&& Int32.toUInt32 31)).toInt32) &&& 1431655765)).toUInt32 >>> ((nI 2).toUInt32 &&& Int32.toUInt32 31)).toInt32) &&& 858993459)).toUInt32 >>> ((nI 4).toUInt32 &&& Int32.toUInt32 31)).toInt32)) &&& 252645135) + ((((((((nI 0) - ((((nI 0).toUInt32 >>> ((nI 1).toUInt32 &&& Int32.toUInt32 31)).toInt32) &&& 1431655765)) &&& 858993459) + (((((nI 0) - ((((nI 0).toUInt32 >>> ((nI 1).toUInt32 &&& Int32.toUInt32 31)).toInt32) &&& 1431655765)).toUInt32 >>> ((nI 2).toUInt32 &&& Int32.toUInt32 31)).toInt32) &&& 858993459)) + ((((((nI 0) - ((((nI 0).toUInt32 >>> ((nI 1).toUInt32 &&& Int32.toUInt32 31)).toInt32) &&& 1431655765)) &&& 858993459) + (((((nI 0) - ((((nI 0).toUInt32 >>> ((nI 1).toUInt32 &&& Int32.toUInt32 31)).toInt32) &&& 1431655765)).toUInt32 >>> ((nI 2).toUInt32 &&& Int32.toUInt32 31)).toInt32) &&& 858993459)).toUInt32 >>> ((nI 4).toUInt32 &&& Int32.toUInt32 31)).toInt32)) &&& 252645135).toUInt32 >>> ((nI 8).toUInt32 &&& Int32.toUInt32 31)).toInt32)))]) dJ6_bitCount_0f7a4_40 (Nat.le_of_ble_eq_true rfl) rfl ?_
  refine v_iload_n dJ6_bitCount_0f7a4_41 rfl ?_
  refine v_iload_n dJ6_bitCount_0f7a4_42 rfl ?_
  refine v_bipush (v := (nI 16)) dJ6_bitCount_0f7a4_43 rfl ?_
  refine v_iushr dJ6_bitCount_0f7a4_45 rfl ?_
  refine v_iadd dJ6_bitCount_0f7a4_46 ?_
  refine v_istore_n (lv' := [(0, .int ((((((((nI 0) - ((((nI 0).toUInt32 >>> ((nI 1).toUInt32 &&& Int32.toUInt32 31)).toInt32) &&& 1431655765)) &&& 858993459) + (((((nI 0) - ((((nI 0).toUInt32 >>> ((nI 1).toUInt32 &&& Int32.toUInt32 31)).toInt32) &&& 1431655765)).toUInt32 >>> ((nI 2).toUInt32 &&& Int32.toUInt32 31)).toInt32) &&& 858993459)) + ((((((nI 0) - ((((nI 0).toUInt32 >>> ((nI 1).toUInt32 &&& Int32.toUInt32 31)).toInt32) &&& 1431655765)) &&& 858993459) + (((((nI 0) - ((((nI 0).toUInt32 >>> ((nI 1).toUInt32 &&& Int32.toUInt32 31)).toInt32) &&& 1431655765)).toUInt32 >>> ((nI 2).toUInt32 &&& Int32.toUInt32 31)).toInt32) &&& 858993459)).toUInt32 >>> ((nI 4).toUInt32 &&& Int32.toUInt32 31)).toInt32)) &&& 252645135) + ((((((((nI 0) - ((((nI 0).toUInt32 >>> ((nI 1).toUInt32 &&& Int32.toUInt32 31)).toInt32) &&& 1431655765)) &&& 858993459) + (((((nI 0) - ((((nI 0).toUInt32 >>> ((nI 1).toUInt32 &&& Int32.toUInt32 31)).toInt32) &&& 1431655765)).toUInt32 >>> ((nI 2).toUInt32 &&& Int32.toUInt32 31)).toInt32) &&& 858993459)) + ((((((nI 0) - ((((nI 0).toUInt32 >>> ((nI 1).toUInt32 &&& Int32.toUInt32 31)).toInt32) &&& 1431655765)) &&& 858993459) + (((((nI 0) - ((((nI 0).toUInt32 >>> ((nI 1).toUInt32 &&& Int32.toUInt32 31)).toInt32) &&& 1431655765)).toUInt32 >>> ((nI 2).toUInt32 &&& Int32.toUInt32 31)).toInt32) &&& 858993459)).toUInt32 >>> ((nI 4).toUInt32 &&& Int32.toUInt32 31)).toInt32)) &&& 252645135).toUInt32 >>> ((nI 8).toUInt32 &&& Int32.toUInt32 31)).toInt32)) + (((((((((nI 0) - ((((nI 0).toUInt32 >>> ((nI 1).toUInt32 &&& Int32.toUInt32 31)).toInt32) &&& 1431655765)) &&& 858993459) + (((((nI 0) - ((((nI 0).toUInt32 >>> ((nI 1).toUInt32 &&& Int32.toUInt32 31)).toInt32) &&& 1431655765)).toUInt32 >>> ((nI 2).toUInt32 &&& Int32.toUInt32 31)).toInt32) &&& 858993459)) + ((((((nI 0) - ((((nI 0).toUInt32 >>> ((nI 1).toUInt32 &&& Int32.toUInt32 31)).toInt32) &&& 1431655765)) &&& 858993459) + (((((nI 0) - ((((nI 0).toUInt32 >>> ((nI 1).toUInt32 &&& Int32.toUInt32 31)).toInt32) &&& 1431655765)).toUInt32 >>> ((nI 2).toUInt32 &&& Int32.toUInt32 31)).toInt32) &&& 858993459)).toUInt32 >>> ((nI 4).toUInt32 &&& Int32.toUInt32 31)).toInt32)) &&& 252645135) + ((((((((nI 0) - ((((nI 0).toUInt32 >>> ((nI 1).toUInt32 &&& Int32.toUInt32 31)).toInt32) &&& 1431655765)) &&& 858993459) + (((((nI 0) - ((((nI 0).toUInt32 >>> ((nI 1).toUInt32 &&& Int32.toUInt32 31)).toInt32) &&& 1431655765)).toUInt32 >>> ((nI 2).toUInt32 &&& Int32.toUInt32 31)).toInt32) &&& 858993459)) + ((((((nI 0) - ((((nI 0).toUInt32 >>> ((nI 1).toUInt32 &&& Int32.toUInt32 31)).toInt32) &&& 1431655765)) &&& 858993459) + (((((nI 0) - ((((nI 0).toUInt32 >>> ((nI 1).toUInt32 &&& Int32.toUInt32 31)).toInt32) &&& 1431655765)).toUInt32 >>> ((nI 2).toUInt32 &&& Int32.toUInt32 31)).toInt32) &&& 858993459)).toUInt32 >>> ((nI 4).toUInt32 &&& Int32.toUInt32 31)).toInt32)) &&& 252645135).toUInt32 >>> ((nI 8).toUInt32 &&& Int32.toUInt32 31)).toInt32)).toUInt32 >>> ((nI 16).toUInt32 &&& Int32.toUInt32 31)).toInt32)))]) dJ6_bitCount_0f7a4_47 (Nat.le_of_ble_eq_true rfl) rfl ?_
  refine v_iload_n dJ6_bitCount_0f7a4_48 rfl ?_
  refine v_bipush (v := (nI 63)) dJ6_bitCount_0f7a4_49 rfl ?_
  refine v_iand dJ6_bitCount_0f7a4_51 ?_
  refine v_iret dJ6_bitCount_0f7a4_52 rfl ?_
  refine ⟨congrArg (fun z => some (Value.int z)) (by decide +kernel), rfl⟩
set_option maxRecDepth 100000 in
theorem c_bc_1  : V kJ6_bitCount_0f7a4 (rt (.int (nI (bcT 1))) M) M 0 [(0, .int (nI 1))] [] := by
  refine v_iload_n dJ6_bitCount_0f7a4_0 rfl ?_
  refine v_iload_n dJ6_bitCount_0f7a4_1 rfl ?_
  refine v_iconst (v := (nI 1)) dJ6_bitCount_0f7a4_2 rfl ?_
  refine v_iushr dJ6_bitCount_0f7a4_3 rfl ?_
  refine v_ldcw dJ6_bitCount_0f7a4_4 cs_J6_265 ?_
  refine v_iand dJ6_bitCount_0f7a4_7 ?_
  refine v_isub dJ6_bitCount_0f7a4_8 ?_
  refine v_istore_n (lv' := [(0, .int ((nI 1) - ((((nI 1).toUInt32 >>> ((nI 1).toUInt32 &&& Int32.toUInt32 31)).toInt32) &&& 1431655765)))]) dJ6_bitCount_0f7a4_9 (Nat.le_of_ble_eq_true rfl) rfl ?_
  refine v_iload_n dJ6_bitCount_0f7a4_10 rfl ?_
  refine v_ldcw dJ6_bitCount_0f7a4_11 cs_J6_266 ?_
  refine v_iand dJ6_bitCount_0f7a4_14 ?_
  refine v_iload_n dJ6_bitCount_0f7a4_15 rfl ?_
  refine v_iconst (v := (nI 2)) dJ6_bitCount_0f7a4_16 rfl ?_
  refine v_iushr dJ6_bitCount_0f7a4_17 rfl ?_
  refine v_ldcw dJ6_bitCount_0f7a4_18 cs_J6_266 ?_
  refine v_iand dJ6_bitCount_0f7a4_21 ?_
  refine v_iadd dJ6_bitCount_0f7a4_22 ?_
  refine v_istore_n (lv' := [(0, .int ((((nI 1) - ((((nI 1).toUInt32 >>> ((nI 1).toUInt32 &&& Int32.toUInt32 31)).toInt32) &&& 1431655765)) &&& 858993459) + (((((nI 1) - ((((nI 1).toUInt32 >>> ((nI 1).toUInt32 &&& Int32.toUInt32 31)).toInt32) &&& 1431655765)).toUInt32 >>> ((nI 2).toUInt32 &&& Int32.toUInt32 31)).toInt32) &&& 858993459)))]) dJ6_bitCount_0f7a4_23 (Nat.le_of_ble_eq_true rfl) rfl ?_
  refine v_iload_n dJ6_bitCount_0f7a4_24 rfl ?_
  refine v_iload_n dJ6_bitCount_0f7a4_25 rfl ?_
  refine v_iconst (v := (nI 4)) dJ6_bitCount_0f7a4_26 rfl ?_
  refine v_iushr dJ6_bitCount_0f7a4_27 rfl ?_
  refine v_iadd dJ6_bitCount_0f7a4_28 ?_
  refine v_ldcw dJ6_bitCount_0f7a4_29 cs_J6_267 ?_
  refine v_iand dJ6_bitCount_0f7a4_32 ?_
  refine v_istore_n (lv' := [(0, .int ((((((nI 1) - ((((nI 1).toUInt32 >>> ((nI 1).toUInt32 &&& Int32.toUInt32 31)).toInt32) &&& 1431655765)) &&& 858993459) + (((((nI 1) - ((((nI 1).toUInt32 >>> ((nI 1).toUInt32 &&& Int32.toUInt32 31)).toInt32) &&& 1431655765)).toUInt32 >>> ((nI 2).toUInt32 &&& Int32.toUInt32 31)).toInt32) &&& 858993459)) + ((((((nI 1) - ((((nI 1).toUInt32 >>> ((nI 1).toUInt32 &&& Int32.toUInt32 31)).toInt32) &&& 1431655765)) &&& 858993459) + (((((nI 1) - ((((nI 1).toUInt32 >>> ((nI 1).toUInt32 &&& Int32.toUInt32 31)).toInt32) &&& 1431655765)).toUInt32 >>> ((nI 2).toUInt32 &&& Int32.toUInt32 31)).toInt32) &&& 858993459)).toUInt32 >>> ((nI 4).toUInt32 &&& Int32.toUInt32 31)).toInt32)) &&& 252645135))]) dJ6_bitCount_0f7a4_33 (Nat.le_of_ble_eq_true rfl) rfl ?_
  refine v_iload_n dJ6_bitCount_0f7a4_34 rfl ?_
  refine v_iload_n dJ6_bitCount_0f7a4_35 rfl ?_
  refine v_bipush (v := (nI 8)) dJ6_bitCount_0f7a4_36 rfl ?_
  refine v_iushr dJ6_bitCount_0f7a4_38 rfl ?_
  refine v_iadd dJ6_bitCount_0f7a4_39 ?_
  refine v_istore_n (lv' := [(0, .int (((((((nI 1) - ((((nI 1).toUInt32 >>> ((nI 1).toUInt32 &&& Int32.toUInt32 31)).toInt32) &&& 1431655765)) &&& 858993459) + (((((nI 1) - ((((nI 1).toUInt32 >>> ((nI 1).toUInt32 &&& Int32.toUInt32 31)).toInt32) &&& 1431655765)).toUInt32 >>> ((nI 2).toUInt32 &&& Int32.toUInt32 31)).toInt32) &&& 858993459)) + ((((((nI 1) - ((((nI 1).toUInt32 >>> ((nI 1).toUInt32 &&& Int32.toUInt32 31)).toInt32) &&& 1431655765)) &&& 858993459) + (((((nI 1) - ((((nI 1).toUInt32 >>> ((nI 1).toUInt32 &&& Int32.toUInt32 31)).toInt32) &&& 1431655765)).toUInt32 >>> ((nI 2).toUInt32 &&& Int32.toUInt32 31)).toInt32) &&& 858993459)).toUInt32 >>> ((nI 4).toUInt32 &&& Int32.toUInt32 31)).toInt32)) &&& 252645135) + ((((((((nI 1) - ((((nI 1).toUInt32 >>> ((nI 1).toUInt32 &&& Int32.toUInt32 31)).toInt32) &&& 1431655765)) &&& 858993459) + (((((nI 1) - ((((nI 1).toUInt32 >>> ((nI 1).toUInt32 &&& Int32.toUInt32 31)).toInt32) &&& 1431655765)).toUInt32 >>> ((nI 2).toUInt32 &&& Int32.toUInt32 31)).toInt32) &&& 858993459)) + ((((((nI 1) - ((((nI 1).toUInt32 >>> ((nI 1).toUInt32 &&& Int32.toUInt32 31)).toInt32) &&& 1431655765)) &&& 858993459) + (((((nI 1) - ((((nI 1).toUInt32 >>> ((nI 1).toUInt32 &&& Int32.toUInt32 31)).toInt32) &&& 1431655765)).toUInt32 >>> ((nI 2).toUInt32 &&& Int32.toUInt32 31)).toInt32) &&& 858993459)).toUInt32 >>> ((nI 4).toUInt32 &&& Int32.toUInt32 31)).toInt32)) &&& 252645135).toUInt32 >>> ((nI 8).toUInt32 &&& Int32.toUInt32 31)).toInt32)))]) dJ6_bitCount_0f7a4_40 (Nat.le_of_ble_eq_true rfl) rfl ?_
  refine v_iload_n dJ6_bitCount_0f7a4_41 rfl ?_
  refine v_iload_n dJ6_bitCount_0f7a4_42 rfl ?_
  refine v_bipush (v := (nI 16)) dJ6_bitCount_0f7a4_43 rfl ?_
  refine v_iushr dJ6_bitCount_0f7a4_45 rfl ?_
  refine v_iadd dJ6_bitCount_0f7a4_46 ?_
  refine v_istore_n (lv' := [(0, .int ((((((((nI 1) - ((((nI 1).toUInt32 >>> ((nI 1).toUInt32 &&& Int32.toUInt32 31)).toInt32) &&& 1431655765)) &&& 858993459) + (((((nI 1) - ((((nI 1).toUInt32 >>> ((nI 1).toUInt32 &&& Int32.toUInt32 31)).toInt32) &&& 1431655765)).toUInt32 >>> ((nI 2).toUInt32 &&& Int32.toUInt32 31)).toInt32) &&& 858993459)) + ((((((nI 1) - ((((nI 1).toUInt32 >>> ((nI 1).toUInt32 &&& Int32.toUInt32 31)).toInt32) &&& 1431655765)) &&& 858993459) + (((((nI 1) - ((((nI 1).toUInt32 >>> ((nI 1).toUInt32 &&& Int32.toUInt32 31)).toInt32) &&& 1431655765)).toUInt32 >>> ((nI 2).toUInt32 &&& Int32.toUInt32 31)).toInt32) &&& 858993459)).toUInt32 >>> ((nI 4).toUInt32 &&& Int32.toUInt32 31)).toInt32)) &&& 252645135) + ((((((((nI 1) - ((((nI 1).toUInt32 >>> ((nI 1).toUInt32 &&& Int32.toUInt32 31)).toInt32) &&& 1431655765)) &&& 858993459) + (((((nI 1) - ((((nI 1).toUInt32 >>> ((nI 1).toUInt32 &&& Int32.toUInt32 31)).toInt32) &&& 1431655765)).toUInt32 >>> ((nI 2).toUInt32 &&& Int32.toUInt32 31)).toInt32) &&& 858993459)) + ((((((nI 1) - ((((nI 1).toUInt32 >>> ((nI 1).toUInt32 &&& Int32.toUInt32 31)).toInt32) &&& 1431655765)) &&& 858993459) + (((((nI 1) - ((((nI 1).toUInt32 >>> ((nI 1).toUInt32 &&& Int32.toUInt32 31)).toInt32) &&& 1431655765)).toUInt32 >>> ((nI 2).toUInt32 &&& Int32.toUInt32 31)).toInt32) &&& 858993459)).toUInt32 >>> ((nI 4).toUInt32 &&& Int32.toUInt32 31)).toInt32)) &&& 252645135).toUInt32 >>> ((nI 8).toUInt32 &&& Int32.toUInt32 31)).toInt32)) + (((((((((nI 1) - ((((nI 1).toUInt32 >>> ((nI 1).toUInt32 &&& Int32.toUInt32 31)).toInt32) &&& 1431655765)) &&& 858993459) + (((((nI 1) - ((((nI 1).toUInt32 >>> ((nI 1).toUInt32 &&& Int32.toUInt32 31)).toInt32) &&& 1431655765)).toUInt32 >>> ((nI 2).toUInt32 &&& Int32.toUInt32 31)).toInt32) &&& 858993459)) + ((((((nI 1) - ((((nI 1).toUInt32 >>> ((nI 1).toUInt32 &&& Int32.toUInt32 31)).toInt32) &&& 1431655765)) &&& 858993459) + (((((nI 1) - ((((nI 1).toUInt32 >>> ((nI 1).toUInt32 &&& Int32.toUInt32 31)).toInt32) &&& 1431655765)).toUInt32 >>> ((nI 2).toUInt32 &&& Int32.toUInt32 31)).toInt32) &&& 858993459)).toUInt32 >>> ((nI 4).toUInt32 &&& Int32.toUInt32 31)).toInt32)) &&& 252645135) + ((((((((nI 1) - ((((nI 1).toUInt32 >>> ((nI 1).toUInt32 &&& Int32.toUInt32 31)).toInt32) &&& 1431655765)) &&& 858993459) + (((((nI 1) - ((((nI 1).toUInt32 >>> ((nI 1).toUInt32 &&& Int32.toUInt32 31)).toInt32) &&& 1431655765)).toUInt32 >>> ((nI 2).toUInt32 &&& Int32.toUInt32 31)).toInt32) &&& 858993459)) + ((((((nI 1) - ((((nI 1).toUInt32 >>> ((nI 1).toUInt32 &&& Int32.toUInt32 31)).toInt32) &&& 1431655765)) &&& 858993459) + (((((nI 1) - ((((nI 1).toUInt32 >>> ((nI 1).toUInt32 &&& Int32.toUInt32 31)).toInt32) &&& 1431655765)).toUInt32 >>> ((nI 2).toUInt32 &&& Int32.toUInt32 31)).toInt32) &&& 858993459)).toUInt32 >>> ((nI 4).toUInt32 &&& Int32.toUInt32 31)).toInt32)) &&& 252645135).toUInt32 >>> ((nI 8).toUInt32 &&& Int32.toUInt32 31)).toInt32)).toUInt32 >>> ((nI 16).toUInt32 &&& Int32.toUInt32 31)).toInt32)))]) dJ6_bitCount_0f7a4_47 (Nat.le_of_ble_eq_true rfl) rfl ?_
  refine v_iload_n dJ6_bitCount_0f7a4_48 rfl ?_
  refine v_bipush (v := (nI 63)) dJ6_bitCount_0f7a4_49 rfl ?_
  refine v_iand dJ6_bitCount_0f7a4_51 ?_
  refine v_iret dJ6_bitCount_0f7a4_52 rfl ?_
  refine ⟨congrArg (fun z => some (Value.int z)) (by decide +kernel), rfl⟩
set_option maxRecDepth 100000 in
theorem c_bc_2  : V kJ6_bitCount_0f7a4 (rt (.int (nI (bcT 2))) M) M 0 [(0, .int (nI 2))] [] := by
  refine v_iload_n dJ6_bitCount_0f7a4_0 rfl ?_
  refine v_iload_n dJ6_bitCount_0f7a4_1 rfl ?_
  refine v_iconst (v := (nI 1)) dJ6_bitCount_0f7a4_2 rfl ?_
  refine v_iushr dJ6_bitCount_0f7a4_3 rfl ?_
  refine v_ldcw dJ6_bitCount_0f7a4_4 cs_J6_265 ?_
  refine v_iand dJ6_bitCount_0f7a4_7 ?_
  refine v_isub dJ6_bitCount_0f7a4_8 ?_
  refine v_istore_n (lv' := [(0, .int ((nI 2) - ((((nI 2).toUInt32 >>> ((nI 1).toUInt32 &&& Int32.toUInt32 31)).toInt32) &&& 1431655765)))]) dJ6_bitCount_0f7a4_9 (Nat.le_of_ble_eq_true rfl) rfl ?_
  refine v_iload_n dJ6_bitCount_0f7a4_10 rfl ?_
  refine v_ldcw dJ6_bitCount_0f7a4_11 cs_J6_266 ?_
  refine v_iand dJ6_bitCount_0f7a4_14 ?_
  refine v_iload_n dJ6_bitCount_0f7a4_15 rfl ?_
  refine v_iconst (v := (nI 2)) dJ6_bitCount_0f7a4_16 rfl ?_
  refine v_iushr dJ6_bitCount_0f7a4_17 rfl ?_
  refine v_ldcw dJ6_bitCount_0f7a4_18 cs_J6_266 ?_
  refine v_iand dJ6_bitCount_0f7a4_21 ?_
  refine v_iadd dJ6_bitCount_0f7a4_22 ?_
  refine v_istore_n (lv' := [(0, .int ((((nI 2) - ((((nI 2).toUInt32 >>> ((nI 1).toUInt32 &&& Int32.toUInt32 31)).toInt32) &&& 1431655765)) &&& 858993459) + (((((nI 2) - ((((nI 2).toUInt32 >>> ((nI 1).toUInt32 &&& Int32.toUInt32 31)).toInt32) &&& 1431655765)).toUInt32 >>> ((nI 2).toUInt32 &&& Int32.toUInt32 31)).toInt32) &&& 858993459)))]) dJ6_bitCount_0f7a4_23 (Nat.le_of_ble_eq_true rfl) rfl ?_
  refine v_iload_n dJ6_bitCount_0f7a4_24 rfl ?_
  refine v_iload_n dJ6_bitCount_0f7a4_25 rfl ?_
  refine v_iconst (v := (nI 4)) dJ6_bitCount_0f7a4_26 rfl ?_
  refine v_iushr dJ6_bitCount_0f7a4_27 rfl ?_
  refine v_iadd dJ6_bitCount_0f7a4_28 ?_
  refine v_ldcw dJ6_bitCount_0f7a4_29 cs_J6_267 ?_
  refine v_iand dJ6_bitCount_0f7a4_32 ?_
  refine v_istore_n (lv' := [(0, .int ((((((nI 2) - ((((nI 2).toUInt32 >>> ((nI 1).toUInt32 &&& Int32.toUInt32 31)).toInt32) &&& 1431655765)) &&& 858993459) + (((((nI 2) - ((((nI 2).toUInt32 >>> ((nI 1).toUInt32 &&& Int32.toUInt32 31)).toInt32) &&& 1431655765)).toUInt32 >>> ((nI 2).toUInt32 &&& Int32.toUInt32 31)).toInt32) &&& 858993459)) + ((((((nI 2) - ((((nI 2).toUInt32 >>> ((nI 1).toUInt32 &&& Int32.toUInt32 31)).toInt32) &&& 1431655765)) &&& 858993459) + (((((nI 2) - ((((nI 2).toUInt32 >>> ((nI 1).toUInt32 &&& Int32.toUInt32 31)).toInt32) &&& 1431655765)).toUInt32 >>> ((nI 2).toUInt32 &&& Int32.toUInt32 31)).toInt32) &&& 858993459)).toUInt32 >>> ((nI 4).toUInt32 &&& Int32.toUInt32 31)).toInt32)) &&& 252645135))]) dJ6_bitCount_0f7a4_33 (Nat.le_of_ble_eq_true rfl) rfl ?_
  refine v_iload_n dJ6_bitCount_0f7a4_34 rfl ?_
  refine v_iload_n dJ6_bitCount_0f7a4_35 rfl ?_
  refine v_bipush (v := (nI 8)) dJ6_bitCount_0f7a4_36 rfl ?_
  refine v_iushr dJ6_bitCount_0f7a4_38 rfl ?_
  refine v_iadd dJ6_bitCount_0f7a4_39 ?_
  refine v_istore_n (lv' := [(0, .int (((((((nI 2) - ((((nI 2).toUInt32 >>> ((nI 1).toUInt32 &&& Int32.toUInt32 31)).toInt32) &&& 1431655765)) &&& 858993459) + (((((nI 2) - ((((nI 2).toUInt32 >>> ((nI 1).toUInt32 &&& Int32.toUInt32 31)).toInt32) &&& 1431655765)).toUInt32 >>> ((nI 2).toUInt32 &&& Int32.toUInt32 31)).toInt32) &&& 858993459)) + ((((((nI 2) - ((((nI 2).toUInt32 >>> ((nI 1).toUInt32 &&& Int32.toUInt32 31)).toInt32) &&& 1431655765)) &&& 858993459) + (((((nI 2) - ((((nI 2).toUInt32 >>> ((nI 1).toUInt32 &&& Int32.toUInt32 31)).toInt32) &&& 1431655765)).toUInt32 >>> ((nI 2).toUInt32 &&& Int32.toUInt32 31)).toInt32) &&& 858993459)).toUInt32 >>> ((nI 4).toUInt32 &&& Int32.toUInt32 31)).toInt32)) &&& 252645135) + ((((((((nI 2) - ((((nI 2).toUInt32 >>> ((nI 1).toUInt32 &&& Int32.toUInt32 31)).toInt32) &&& 1431655765)) &&& 858993459) + (((((nI 2) - ((((nI 2).toUInt32 >>> ((nI 1).toUInt32 &&& Int32.toUInt32 31)).toInt32) &&& 1431655765)).toUInt32 >>> ((nI 2).toUInt32 &&& Int32.toUInt32 31)).toInt32) &&& 858993459)) + ((((((nI 2) - ((((nI 2).toUInt32 >>> ((nI 1).toUInt32 &&& Int32.toUInt32 31)).toInt32) &&& 1431655765)) &&& 858993459) + (((((nI 2) - ((((nI 2).toUInt32 >>> ((nI 1).toUInt32 &&& Int32.toUInt32 31)).toInt32) &&& 1431655765)).toUInt32 >>> ((nI 2).toUInt32 &&& Int32.toUInt32 31)).toInt32) &&& 858993459)).toUInt32 >>> ((nI 4).toUInt32 &&& Int32.toUInt32 31)).toInt32)) &&& 252645135).toUInt32 >>> ((nI 8).toUInt32 &&& Int32.toUInt32 31)).toInt32)))]) dJ6_bitCount_0f7a4_40 (Nat.le_of_ble_eq_true rfl) rfl ?_
  refine v_iload_n dJ6_bitCount_0f7a4_41 rfl ?_
  refine v_iload_n dJ6_bitCount_0f7a4_42 rfl ?_
  refine v_bipush (v := (nI 16)) dJ6_bitCount_0f7a4_43 rfl ?_
  refine v_iushr dJ6_bitCount_0f7a4_45 rfl ?_
  refine v_iadd dJ6_bitCount_0f7a4_46 ?_
  refine v_istore_n (lv' := [(0, .int ((((((((nI 2) - ((((nI 2).toUInt32 >>> ((nI 1).toUInt32 &&& Int32.toUInt32 31)).toInt32) &&& 1431655765)) &&& 858993459) + (((((nI 2) - ((((nI 2).toUInt32 >>> ((nI 1).toUInt32 &&& Int32.toUInt32 31)).toInt32) &&& 1431655765)).toUInt32 >>> ((nI 2).toUInt32 &&& Int32.toUInt32 31)).toInt32) &&& 858993459)) + ((((((nI 2) - ((((nI 2).toUInt32 >>> ((nI 1).toUInt32 &&& Int32.toUInt32 31)).toInt32) &&& 1431655765)) &&& 858993459) + (((((nI 2) - ((((nI 2).toUInt32 >>> ((nI 1).toUInt32 &&& Int32.toUInt32 31)).toInt32) &&& 1431655765)).toUInt32 >>> ((nI 2).toUInt32 &&& Int32.toUInt32 31)).toInt32) &&& 858993459)).toUInt32 >>> ((nI 4).toUInt32 &&& Int32.toUInt32 31)).toInt32)) &&& 252645135) + ((((((((nI 2) - ((((nI 2).toUInt32 >>> ((nI 1).toUInt32 &&& Int32.toUInt32 31)).toInt32) &&& 1431655765)) &&& 858993459) + (((((nI 2) - ((((nI 2).toUInt32 >>> ((nI 1).toUInt32 &&& Int32.toUInt32 31)).toInt32) &&& 1431655765)).toUInt32 >>> ((nI 2).toUInt32 &&& Int32.toUInt32 31)).toInt32) &&& 858993459)) + ((((((nI 2) - ((((nI 2).toUInt32 >>> ((nI 1).toUInt32 &&& Int32.toUInt32 31)).toInt32) &&& 1431655765)) &&& 858993459) + (((((nI 2) - ((((nI 2).toUInt32 >>> ((nI 1).toUInt32 &&& Int32.toUInt32 31)).toInt32) &&& 1431655765)).toUInt32 >>> ((nI 2).toUInt32 &&& Int32.toUInt32 31)).toInt32) &&& 858993459)).toUInt32 >>> ((nI 4).toUInt32 &&& Int32.toUInt32 31)).toInt32)) &&& 252645135).toUInt32 >>> ((nI 8).toUInt32 &&& Int32.toUInt32 31)).toInt32)) + (((((((((nI 2) - ((((nI 2).toUInt32 >>> ((nI 1).toUInt32 &&& Int32.toUInt32 31)).toInt32) &&& 1431655765)) &&& 858993459) + (((((nI 2) - ((((nI 2).toUInt32 >>> ((nI 1).toUInt32 &&& Int32.toUInt32 31)).toInt32) &&& 1431655765)).toUInt32 >>> ((nI 2).toUInt32 &&& Int32.toUInt32 31)).toInt32) &&& 858993459)) + ((((((nI 2) - ((((nI 2).toUInt32 >>> ((nI 1).toUInt32 &&& Int32.toUInt32 31)).toInt32) &&& 1431655765)) &&& 858993459) + (((((nI 2) - ((((nI 2).toUInt32 >>> ((nI 1).toUInt32 &&& Int32.toUInt32 31)).toInt32) &&& 1431655765)).toUInt32 >>> ((nI 2).toUInt32 &&& Int32.toUInt32 31)).toInt32) &&& 858993459)).toUInt32 >>> ((nI 4).toUInt32 &&& Int32.toUInt32 31)).toInt32)) &&& 252645135) + ((((((((nI 2) - ((((nI 2).toUInt32 >>> ((nI 1).toUInt32 &&& Int32.toUInt32 31)).toInt32) &&& 1431655765)) &&& 858993459) + (((((nI 2) - ((((nI 2).toUInt32 >>> ((nI 1).toUInt32 &&& Int32.toUInt32 31)).toInt32) &&& 1431655765)).toUInt32 >>> ((nI 2).toUInt32 &&& Int32.toUInt32 31)).toInt32) &&& 858993459)) + ((((((nI 2) - ((((nI 2).toUInt32 >>> ((nI 1).toUInt32 &&& Int32.toUInt32 31)).toInt32) &&& 1431655765)) &&& 858993459) + (((((nI 2) - ((((nI 2).toUInt32 >>> ((nI 1).toUInt32 &&& Int32.toUInt32 31)).toInt32) &&& 1431655765)).toUInt32 >>> ((nI 2).toUInt32 &&& Int32.toUInt32 31)).toInt32) &&& 858993459)).toUInt32 >>> ((nI 4).toUInt32 &&& Int32.toUInt32 31)).toInt32)) &&& 252645135).toUInt32 >>> ((nI 8).toUInt32 &&& Int32.toUInt32 31)).toInt32)).toUInt32 >>> ((nI 16).toUInt32 &&& Int32.toUInt32 31)).toInt32)))]) dJ6_bitCount_0f7a4_47 (Nat.le_of_ble_eq_true rfl) rfl ?_
  refine v_iload_n dJ6_bitCount_0f7a4_48 rfl ?_
  refine v_bipush (v := (nI 63)) dJ6_bitCount_0f7a4_49 rfl ?_
  refine v_iand dJ6_bitCount_0f7a4_51 ?_
  refine v_iret dJ6_bitCount_0f7a4_52 rfl ?_
  refine ⟨congrArg (fun z => some (Value.int z)) (by decide +kernel), rfl⟩
set_option maxRecDepth 100000 in
theorem c_bc_3  : V kJ6_bitCount_0f7a4 (rt (.int (nI (bcT 3))) M) M 0 [(0, .int (nI 3))] [] := by
  refine v_iload_n dJ6_bitCount_0f7a4_0 rfl ?_
  refine v_iload_n dJ6_bitCount_0f7a4_1 rfl ?_
  refine v_iconst (v := (nI 1)) dJ6_bitCount_0f7a4_2 rfl ?_
  refine v_iushr dJ6_bitCount_0f7a4_3 rfl ?_
  refine v_ldcw dJ6_bitCount_0f7a4_4 cs_J6_265 ?_
  refine v_iand dJ6_bitCount_0f7a4_7 ?_
  refine v_isub dJ6_bitCount_0f7a4_8 ?_
  refine v_istore_n (lv' := [(0, .int ((nI 3) - ((((nI 3).toUInt32 >>> ((nI 1).toUInt32 &&& Int32.toUInt32 31)).toInt32) &&& 1431655765)))]) dJ6_bitCount_0f7a4_9 (Nat.le_of_ble_eq_true rfl) rfl ?_
  refine v_iload_n dJ6_bitCount_0f7a4_10 rfl ?_
  refine v_ldcw dJ6_bitCount_0f7a4_11 cs_J6_266 ?_
  refine v_iand dJ6_bitCount_0f7a4_14 ?_
  refine v_iload_n dJ6_bitCount_0f7a4_15 rfl ?_
  refine v_iconst (v := (nI 2)) dJ6_bitCount_0f7a4_16 rfl ?_
  refine v_iushr dJ6_bitCount_0f7a4_17 rfl ?_
  refine v_ldcw dJ6_bitCount_0f7a4_18 cs_J6_266 ?_
  refine v_iand dJ6_bitCount_0f7a4_21 ?_
  refine v_iadd dJ6_bitCount_0f7a4_22 ?_
  refine v_istore_n (lv' := [(0, .int ((((nI 3) - ((((nI 3).toUInt32 >>> ((nI 1).toUInt32 &&& Int32.toUInt32 31)).toInt32) &&& 1431655765)) &&& 858993459) + (((((nI 3) - ((((nI 3).toUInt32 >>> ((nI 1).toUInt32 &&& Int32.toUInt32 31)).toInt32) &&& 1431655765)).toUInt32 >>> ((nI 2).toUInt32 &&& Int32.toUInt32 31)).toInt32) &&& 858993459)))]) dJ6_bitCount_0f7a4_23 (Nat.le_of_ble_eq_true rfl) rfl ?_
  refine v_iload_n dJ6_bitCount_0f7a4_24 rfl ?_
  refine v_iload_n dJ6_bitCount_0f7a4_25 rfl ?_
  refine v_iconst (v := (nI 4)) dJ6_bitCount_0f7a4_26 rfl ?_
  refine v_iushr dJ6_bitCount_0f7a4_27 rfl ?_
  refine v_iadd dJ6_bitCount_0f7a4_28 ?_
  refine v_ldcw dJ6_bitCount_0f7a4_29 cs_J6_267 ?_
  refine v_iand dJ6_bitCount_0f7a4_32 ?_
  refine v_istore_n (lv' := [(0, .int ((((((nI 3) - ((((nI 3).toUInt32 >>> ((nI 1).toUInt32 &&& Int32.toUInt32 31)).toInt32) &&& 1431655765)) &&& 858993459) + (((((nI 3) - ((((nI 3).toUInt32 >>> ((nI 1).toUInt32 &&& Int32.toUInt32 31)).toInt32) &&& 1431655765)).toUInt32 >>> ((nI 2).toUInt32 &&& Int32.toUInt32 31)).toInt32) &&& 858993459)) + ((((((nI 3) - ((((nI 3).toUInt32 >>> ((nI 1).toUInt32 &&& Int32.toUInt32 31)).toInt32) &&& 1431655765)) &&& 858993459) + (((((nI 3) - ((((nI 3).toUInt32 >>> ((nI 1).toUInt32 &&& Int32.toUInt32 31)).toInt32) &&& 1431655765)).toUInt32 >>> ((nI 2).toUInt32 &&& Int32.toUInt32 31)).toInt32) &&& 858993459)).toUInt32 >>> ((nI 4).toUInt32 &&& Int32.toUInt32 31)).toInt32)) &&& 252645135))]) dJ6_bitCount_0f7a4_33 (Nat.le_of_ble_eq_true rfl) rfl ?_
  refine v_iload_n dJ6_bitCount_0f7a4_34 rfl ?_
  refine v_iload_n dJ6_bitCount_0f7a4_35 rfl ?_
  refine v_bipush (v := (nI 8)) dJ6_bitCount_0f7a4_36 rfl ?_
  refine v_iushr dJ6_bitCount_0f7a4_38 rfl ?_
  refine v_iadd dJ6_bitCount_0f7a4_39 ?_
  refine v_istore_n (lv' := [(0, .int (((((((nI 3) - ((((nI 3).toUInt32 >>> ((nI 1).toUInt32 &&& Int32.toUInt32 31)).toInt32) &&& 1431655765)) &&& 858993459) + (((((nI 3) - ((((nI 3).toUInt32 >>> ((nI 1).toUInt32 &&& Int32.toUInt32 31)).toInt32) &&& 1431655765)).toUInt32 >>> ((nI 2).toUInt32 &&& Int32.toUInt32 31)).toInt32) &&& 858993459)) + ((((((nI 3) - ((((nI 3).toUInt32 >>> ((nI 1).toUInt32 &&& Int32.toUInt32 31)).toInt32) &&& 1431655765)) &&& 858993459) + (((((nI 3) - ((((nI 3).toUInt32 >>> ((nI 1).toUInt32 &&& Int32.toUInt32 31)).toInt32) &&& 1431655765)).toUInt32 >>> ((nI 2).toUInt32 &&& Int32.toUInt32 31)).toInt32) &&& 858993459)).toUInt32 >>> ((nI 4).toUInt32 &&& Int32.toUInt32 31)).toInt32)) &&& 252645135) + ((((((((nI 3) - ((((nI 3).toUInt32 >>> ((nI 1).toUInt32 &&& Int32.toUInt32 31)).toInt32) &&& 1431655765)) &&& 858993459) + (((((nI 3) - ((((nI 3).toUInt32 >>> ((nI 1).toUInt32 &&& Int32.toUInt32 31)).toInt32) &&& 1431655765)).toUInt32 >>> ((nI 2).toUInt32 &&& Int32.toUInt32 31)).toInt32) &&& 858993459)) + ((((((nI 3) - ((((nI 3).toUInt32 >>> ((nI 1).toUInt32 &&& Int32.toUInt32 31)).toInt32) &&& 1431655765)) &&& 858993459) + (((((nI 3) - ((((nI 3).toUInt32 >>> ((nI 1).toUInt32 &&& Int32.toUInt32 31)).toInt32) &&& 1431655765)).toUInt32 >>> ((nI 2).toUInt32 &&& Int32.toUInt32 31)).toInt32) &&& 858993459)).toUInt32 >>> ((nI 4).toUInt32 &&& Int32.toUInt32 31)).toInt32)) &&& 252645135).toUInt32 >>> ((nI 8).toUInt32 &&& Int32.toUInt32 31)).toInt32)))]) dJ6_bitCount_0f7a4_40 (Nat.le_of_ble_eq_true rfl) rfl ?_
  refine v_iload_n dJ6_bitCount_0f7a4_41 rfl ?_
  refine v_iload_n dJ6_bitCount_0f7a4_42 rfl ?_
  refine v_bipush (v := (nI 16)) dJ6_bitCount_0f7a4_43 rfl ?_
  refine v_iushr dJ6_bitCount_0f7a4_45 rfl ?_
  refine v_iadd dJ6_bitCount_0f7a4_46 ?_
  refine v_istore_n (lv' := [(0, .int ((((((((nI 3) - ((((nI 3).toUInt32 >>> ((nI 1).toUInt32 &&& Int32.toUInt32 31)).toInt32) &&& 1431655765)) &&& 858993459) + (((((nI 3) - ((((nI 3).toUInt32 >>> ((nI 1).toUInt32 &&& Int32.toUInt32 31)).toInt32) &&& 1431655765)).toUInt32 >>> ((nI 2).toUInt32 &&& Int32.toUInt32 31)).toInt32) &&& 858993459)) + ((((((nI 3) - ((((nI 3).toUInt32 >>> ((nI 1).toUInt32 &&& Int32.toUInt32 31)).toInt32) &&& 1431655765)) &&& 858993459) + (((((nI 3) - ((((nI 3).toUInt32 >>> ((nI 1).toUInt32 &&& Int32.toUInt32 31)).toInt32) &&& 1431655765)).toUInt32 >>> ((nI 2).toUInt32 &&& Int32.toUInt32 31)).toInt32) &&& 858993459)).toUInt32 >>> ((nI 4).toUInt32 &&& Int32.toUInt32 31)).toInt32)) &&& 252645135) + ((((((((nI 3) - ((((nI 3).toUInt32 >>> ((nI 1).toUInt32 &&& Int32.toUInt32 31)).toInt32) &&& 1431655765)) &&& 858993459) + (((((nI 3) - ((((nI 3).toUInt32 >>> ((nI 1).toUInt32 &&& Int32.toUInt32 31)).toInt32) &&& 1431655765)).toUInt32 >>> ((nI 2).toUInt32 &&& Int32.toUInt32 31)).toInt32) &&& 858993459)) + ((((((nI 3) - ((((nI 3).toUInt32 >>> ((nI 1).toUInt32 &&& Int32.toUInt32 31)).toInt32) &&& 1431655765)) &&& 858993459) + (((((nI 3) - ((((nI 3).toUInt32 >>> ((nI 1).toUInt32 &&& Int32.toUInt32 31)).toInt32) &&& 1431655765)).toUInt32 >>> ((nI 2).toUInt32 &&& Int32.toUInt32 31)).toInt32) &&& 858993459)).toUInt32 >>> ((nI 4).toUInt32 &&& Int32.toUInt32 31)).toInt32)) &&& 252645135).toUInt32 >>> ((nI 8).toUInt32 &&& Int32.toUInt32 31)).toInt32)) + (((((((((nI 3) - ((((nI 3).toUInt32 >>> ((nI 1).toUInt32 &&& Int32.toUInt32 31)).toInt32) &&& 1431655765)) &&& 858993459) + (((((nI 3) - ((((nI 3).toUInt32 >>> ((nI 1).toUInt32 &&& Int32.toUInt32 31)).toInt32) &&& 1431655765)).toUInt32 >>> ((nI 2).toUInt32 &&& Int32.toUInt32 31)).toInt32) &&& 858993459)) + ((((((nI 3) - ((((nI 3).toUInt32 >>> ((nI 1).toUInt32 &&& Int32.toUInt32 31)).toInt32) &&& 1431655765)) &&& 858993459) + (((((nI 3) - ((((nI 3).toUInt32 >>> ((nI 1).toUInt32 &&& Int32.toUInt32 31)).toInt32) &&& 1431655765)).toUInt32 >>> ((nI 2).toUInt32 &&& Int32.toUInt32 31)).toInt32) &&& 858993459)).toUInt32 >>> ((nI 4).toUInt32 &&& Int32.toUInt32 31)).toInt32)) &&& 252645135) + ((((((((nI 3) - ((((nI 3).toUInt32 >>> ((nI 1).toUInt32 &&& Int32.toUInt32 31)).toInt32) &&& 1431655765)) &&& 858993459) + (((((nI 3) - ((((nI 3).toUInt32 >>> ((nI 1).toUInt32 &&& Int32.toUInt32 31)).toInt32) &&& 1431655765)).toUInt32 >>> ((nI 2).toUInt32 &&& Int32.toUInt32 31)).toInt32) &&& 858993459)) + ((((((nI 3) - ((((nI 3).toUInt32 >>> ((nI 1).toUInt32 &&& Int32.toUInt32 31)).toInt32) &&& 1431655765)) &&& 858993459) + (((((nI 3) - ((((nI 3).toUInt32 >>> ((nI 1).toUInt32 &&& Int32.toUInt32 31)).toInt32) &&& 1431655765)).toUInt32 >>> ((nI 2).toUInt32 &&& Int32.toUInt32 31)).toInt32) &&& 858993459)).toUInt32 >>> ((nI 4).toUInt32 &&& Int32.toUInt32 31)).toInt32)) &&& 252645135).toUInt32 >>> ((nI 8).toUInt32 &&& Int32.toUInt32 31)).toInt32)).toUInt32 >>> ((nI 16).toUInt32 &&& Int32.toUInt32 31)).toInt32)))]) dJ6_bitCount_0f7a4_47 (Nat.le_of_ble_eq_true rfl) rfl ?_
  refine v_iload_n dJ6_bitCount_0f7a4_48 rfl ?_
  refine v_bipush (v := (nI 63)) dJ6_bitCount_0f7a4_49 rfl ?_
  refine v_iand dJ6_bitCount_0f7a4_51 ?_
  refine v_iret dJ6_bitCount_0f7a4_52 rfl ?_
  refine ⟨congrArg (fun z => some (Value.int z)) (by decide +kernel), rfl⟩
set_option maxRecDepth 100000 in
theorem c_bc_4  : V kJ6_bitCount_0f7a4 (rt (.int (nI (bcT 4))) M) M 0 [(0, .int (nI 4))] [] := by
  refine v_iload_n dJ6_bitCount_0f7a4_0 rfl ?_
  refine v_iload_n dJ6_bitCount_0f7a4_1 rfl ?_
  refine v_iconst (v := (nI 1)) dJ6_bitCount_0f7a4_2 rfl ?_
  refine v_iushr dJ6_bitCount_0f7a4_3 rfl ?_
  refine v_ldcw dJ6_bitCount_0f7a4_4 cs_J6_265 ?_
  refine v_iand dJ6_bitCount_0f7a4_7 ?_
  refine v_isub dJ6_bitCount_0f7a4_8 ?_
  refine v_istore_n (lv' := [(0, .int ((nI 4) - ((((nI 4).toUInt32 >>> ((nI 1).toUInt32 &&& Int32.toUInt32 31)).toInt32) &&& 1431655765)))]) dJ6_bitCount_0f7a4_9 (Nat.le_of_ble_eq_true rfl) rfl ?_
  refine v_iload_n dJ6_bitCount_0f7a4_10 rfl ?_
  refine v_ldcw dJ6_bitCount_0f7a4_11 cs_J6_266 ?_
  refine v_iand dJ6_bitCount_0f7a4_14 ?_
  refine v_iload_n dJ6_bitCount_0f7a4_15 rfl ?_
  refine v_iconst (v := (nI 2)) dJ6_bitCount_0f7a4_16 rfl ?_
  refine v_iushr dJ6_bitCount_0f7a4_17 rfl ?_
  refine v_ldcw dJ6_bitCount_0f7a4_18 cs_J6_266 ?_
  refine v_iand dJ6_bitCount_0f7a4_21 ?_
  refine v_iadd dJ6_bitCount_0f7a4_22 ?_
  refine v_istore_n (lv' := [(0, .int ((((nI 4) - ((((nI 4).toUInt32 >>> ((nI 1).toUInt32 &&& Int32.toUInt32 31)).toInt32) &&& 1431655765)) &&& 858993459) + (((((nI 4) - ((((nI 4).toUInt32 >>> ((nI 1).toUInt32 &&& Int32.toUInt32 31)).toInt32) &&& 1431655765)).toUInt32 >>> ((nI 2).toUInt32 &&& Int32.toUInt32 31)).toInt32) &&& 858993459)))]) dJ6_bitCount_0f7a4_23 (Nat.le_of_ble_eq_true rfl) rfl ?_
  refine v_iload_n dJ6_bitCount_0f7a4_24 rfl ?_
  refine v_iload_n dJ6_bitCount_0f7a4_25 rfl ?_
  refine v_iconst (v := (nI 4)) dJ6_bitCount_0f7a4_26 rfl ?_
  refine v_iushr dJ6_bitCount_0f7a4_27 rfl ?_
  refine v_iadd dJ6_bitCount_0f7a4_28 ?_
  refine v_ldcw dJ6_bitCount_0f7a4_29 cs_J6_267 ?_
  refine v_iand dJ6_bitCount_0f7a4_32 ?_
  refine v_istore_n (lv' := [(0, .int ((((((nI 4) - ((((nI 4).toUInt32 >>> ((nI 1).toUInt32 &&& Int32.toUInt32 31)).toInt32) &&& 1431655765)) &&& 858993459) + (((((nI 4) - ((((nI 4).toUInt32 >>> ((nI 1).toUInt32 &&& Int32.toUInt32 31)).toInt32) &&& 1431655765)).toUInt32 >>> ((nI 2).toUInt32 &&& Int32.toUInt32 31)).toInt32) &&& 858993459)) + ((((((nI 4) - ((((nI 4).toUInt32 >>> ((nI 1).toUInt32 &&& Int32.toUInt32 31)).toInt32) &&& 1431655765)) &&& 858993459) + (((((nI 4) - ((((nI 4).toUInt32 >>> ((nI 1).toUInt32 &&& Int32.toUInt32 31)).toInt32) &&& 1431655765)).toUInt32 >>> ((nI 2).toUInt32 &&& Int32.toUInt32 31)).toInt32) &&& 858993459)).toUInt32 >>> ((nI 4).toUInt32 &&& Int32.toUInt32 31)).toInt32)) &&& 252645135))]) dJ6_bitCount_0f7a4_33 (Nat.le_of_ble_eq_true rfl) rfl ?_
  refine v_iload_n dJ6_bitCount_0f7a4_34 rfl ?_
  refine v_iload_n dJ6_bitCount_0f7a4_35 rfl ?_
  refine v_bipush (v := (nI 8)) dJ6_bitCount_0f7a4_36 rfl ?_
  refine v_iushr dJ6_bitCount_0f7a4_38 rfl ?_
  refine v_iadd dJ6_bitCount_0f7a4_39 ?_
  refine v_istore_n (lv' := [(0, .int (((((((nI 4) - ((((nI 4).toUInt32 >>> ((nI 1).toUInt32 &&& Int32.toUInt32 31)).toInt32) &&& 1431655765)) &&& 858993459) + (((((nI 4) - ((((nI 4).toUInt32 >>> ((nI 1).toUInt32 &&& Int32.toUInt32 31)).toInt32) &&& 1431655765)).toUInt32 >>> ((nI 2).toUInt32 &&& Int32.toUInt32 31)).toInt32) &&& 858993459)) + ((((((nI 4) - ((((nI 4).toUInt32 >>> ((nI 1).toUInt32 &&& Int32.toUInt32 31)).toInt32) &&& 1431655765)) &&& 858993459) + (((((nI 4) - ((((nI 4).toUInt32 >>> ((nI 1).toUInt32 &&& Int32.toUInt32 31)).toInt32) &&& 1431655765)).toUInt32 >>> ((nI 2).toUInt32 &&& Int32.toUInt32 31)).toInt32) &&& 858993459)).toUInt32 >>> ((nI 4).toUInt32 &&& Int32.toUInt32 31)).toInt32)) &&& 252645135) + ((((((((nI 4) - ((((nI 4).toUInt32 >>> ((nI 1).toUInt32 &&& Int32.toUInt32 31)).toInt32) &&& 1431655765)) &&& 858993459) + (((((nI 4) - ((((nI 4).toUInt32 >>> ((nI 1).toUInt32 &&& Int32.toUInt32 31)).toInt32) &&& 1431655765)).toUInt32 >>> ((nI 2).toUInt32 &&& Int32.toUInt32 31)).toInt32) &&& 858993459)) + ((((((nI 4) - ((((nI 4).toUInt32 >>> ((nI 1).toUInt32 &&& Int32.toUInt32 31)).toInt32) &&& 1431655765)) &&& 858993459) + (((((nI 4) - ((((nI 4).toUInt32 >>> ((nI 1).toUInt32 &&& Int32.toUInt32 31)).toInt32) &&& 1431655765)).toUInt32 >>> ((nI 2).toUInt32 &&& Int32.toUInt32 31)).toInt32) &&& 858993459)).toUInt32 >>> ((nI 4).toUInt32 &&& Int32.toUInt32 31)).toInt32)) &&& 252645135).toUInt32 >>> ((nI 8).toUInt32 &&& Int32.toUInt32 31)).toInt32)))]) dJ6_bitCount_0f7a4_40 (Nat.le_of_ble_eq_true rfl) rfl ?_
  refine v_iload_n dJ6_bitCount_0f7a4_41 rfl ?_
  refine v_iload_n dJ6_bitCount_0f7a4_42 rfl ?_
  refine v_bipush (v := (nI 16)) dJ6_bitCount_0f7a4_43 rfl ?_
  refine v_iushr dJ6_bitCount_0f7a4_45 rfl ?_
  refine v_iadd dJ6_bitCount_0f7a4_46 ?_
  refine v_istore_n (lv' := [(0, .int ((((((((nI 4) - ((((nI 4).toUInt32 >>> ((nI 1).toUInt32 &&& Int32.toUInt32 31)).toInt32) &&& 1431655765)) &&& 858993459) + (((((nI 4) - ((((nI 4).toUInt32 >>> ((nI 1).toUInt32 &&& Int32.toUInt32 31)).toInt32) &&& 1431655765)).toUInt32 >>> ((nI 2).toUInt32 &&& Int32.toUInt32 31)).toInt32) &&& 858993459)) + ((((((nI 4) - ((((nI 4).toUInt32 >>> ((nI 1).toUInt32 &&& Int32.toUInt32 31)).toInt32) &&& 1431655765)) &&& 858993459) + (((((nI 4) - ((((nI 4).toUInt32 >>> ((nI 1).toUInt32 &&& Int32.toUInt32 31)).toInt32) &&& 1431655765)).toUInt32 >>> ((nI 2).toUInt32 &&& Int32.toUInt32 31)).toInt32) &&& 858993459)).toUInt32 >>> ((nI 4).toUInt32 &&& Int32.toUInt32 31)).toInt32)) &&& 252645135) + ((((((((nI 4) - ((((nI 4).toUInt32 >>> ((nI 1).toUInt32 &&& Int32.toUInt32 31)).toInt32) &&& 1431655765)) &&& 858993459) + (((((nI 4) - ((((nI 4).toUInt32 >>> ((nI 1).toUInt32 &&& Int32.toUInt32 31)).toInt32) &&& 1431655765)).toUInt32 >>> ((nI 2).toUInt32 &&& Int32.toUInt32 31)).toInt32) &&& 858993459)) + ((((((nI 4) - ((((nI 4).toUInt32 >>> ((nI 1).toUInt32 &&& Int32.toUInt32 31)).toInt32) &&& 1431655765)) &&& 858993459) + (((((nI 4) - ((((nI 4).toUInt32 >>> ((nI 1).toUInt32 &&& Int32.toUInt32 31)).toInt32) &&& 1431655765)).toUInt32 >>> ((nI 2).toUInt32 &&& Int32.toUInt32 31)).toInt32) &&& 858993459)).toUInt32 >>> ((nI 4).toUInt32 &&& Int32.toUInt32 31)).toInt32)) &&& 252645135).toUInt32 >>> ((nI 8).toUInt32 &&& Int32.toUInt32 31)).toInt32)) + (((((((((nI 4) - ((((nI 4).toUInt32 >>> ((nI 1).toUInt32 &&& Int32.toUInt32 31)).toInt32) &&& 1431655765)) &&& 858993459) + (((((nI 4) - ((((nI 4).toUInt32 >>> ((nI 1).toUInt32 &&& Int32.toUInt32 31)).toInt32) &&& 1431655765)).toUInt32 >>> ((nI 2).toUInt32 &&& Int32.toUInt32 31)).toInt32) &&& 858993459)) + ((((((nI 4) - ((((nI 4).toUInt32 >>> ((nI 1).toUInt32 &&& Int32.toUInt32 31)).toInt32) &&& 1431655765)) &&& 858993459) + (((((nI 4) - ((((nI 4).toUInt32 >>> ((nI 1).toUInt32 &&& Int32.toUInt32 31)).toInt32) &&& 1431655765)).toUInt32 >>> ((nI 2).toUInt32 &&& Int32.toUInt32 31)).toInt32) &&& 858993459)).toUInt32 >>> ((nI 4).toUInt32 &&& Int32.toUInt32 31)).toInt32)) &&& 252645135) + ((((((((nI 4) - ((((nI 4).toUInt32 >>> ((nI 1).toUInt32 &&& Int32.toUInt32 31)).toInt32) &&& 1431655765)) &&& 858993459) + (((((nI 4) - ((((nI 4).toUInt32 >>> ((nI 1).toUInt32 &&& Int32.toUInt32 31)).toInt32) &&& 1431655765)).toUInt32 >>> ((nI 2).toUInt32 &&& Int32.toUInt32 31)).toInt32) &&& 858993459)) + ((((((nI 4) - ((((nI 4).toUInt32 >>> ((nI 1).toUInt32 &&& Int32.toUInt32 31)).toInt32) &&& 1431655765)) &&& 858993459) + (((((nI 4) - ((((nI 4).toUInt32 >>> ((nI 1).toUInt32 &&& Int32.toUInt32 31)).toInt32) &&& 1431655765)).toUInt32 >>> ((nI 2).toUInt32 &&& Int32.toUInt32 31)).toInt32) &&& 858993459)).toUInt32 >>> ((nI 4).toUInt32 &&& Int32.toUInt32 31)).toInt32)) &&& 252645135).toUInt32 >>> ((nI 8).toUInt32 &&& Int32.toUInt32 31)).toInt32)).toUInt32 >>> ((nI 16).toUInt32 &&& Int32.toUInt32 31)).toInt32)))]) dJ6_bitCount_0f7a4_47 (Nat.le_of_ble_eq_true rfl) rfl ?_
  refine v_iload_n dJ6_bitCount_0f7a4_48 rfl ?_
  refine v_bipush (v := (nI 63)) dJ6_bitCount_0f7a4_49 rfl ?_
  refine v_iand dJ6_bitCount_0f7a4_51 ?_
  refine v_iret dJ6_bitCount_0f7a4_52 rfl ?_
  refine ⟨congrArg (fun z => some (Value.int z)) (by decide +kernel), rfl⟩
set_option maxRecDepth 100000 in
theorem c_bc_5  : V kJ6_bitCount_0f7a4 (rt (.int (nI (bcT 5))) M) M 0 [(0, .int (nI 5))] [] := by
  refine v_iload_n dJ6_bitCount_0f7a4_0 rfl ?_
  refine v_iload_n dJ6_bitCount_0f7a4_1 rfl ?_
  refine v_iconst (v := (nI 1)) dJ6_bitCount_0f7a4_2 rfl ?_
  refine v_iushr dJ6_bitCount_0f7a4_3 rfl ?_
  refine v_ldcw dJ6_bitCount_0f7a4_4 cs_J6_265 ?_
  refine v_iand dJ6_bitCount_0f7a4_7 ?_
  refine v_isub dJ6_bitCount_0f7a4_8 ?_
  refine v_istore_n (lv' := [(0, .int ((nI 5) - ((((nI 5).toUInt32 >>> ((nI 1).toUInt32 &&& Int32.toUInt32 31)).toInt32) &&& 1431655765)))]) dJ6_bitCount_0f7a4_9 (Nat.le_of_ble_eq_true rfl) rfl ?_
  refine v_iload_n dJ6_bitCount_0f7a4_10 rfl ?_
  refine v_ldcw dJ6_bitCount_0f7a4_11 cs_J6_266 ?_
  refine v_iand dJ6_bitCount_0f7a4_14 ?_
  refine v_iload_n dJ6_bitCount_0f7a4_15 rfl ?_
  refine v_iconst (v := (nI 2)) dJ6_bitCount_0f7a4_16 rfl ?_
  refine v_iushr dJ6_bitCount_0f7a4_17 rfl ?_
  refine v_ldcw dJ6_bitCount_0f7a4_18 cs_J6_266 ?_
  refine v_iand dJ6_bitCount_0f7a4_21 ?_
  refine v_iadd dJ6_bitCount_0f7a4_22 ?_
  refine v_istore_n (lv' := [(0, .int ((((nI 5) - ((((nI 5).toUInt32 >>> ((nI 1).toUInt32 &&& Int32.toUInt32 31)).toInt32) &&& 1431655765)) &&& 858993459) + (((((nI 5) - ((((nI 5).toUInt32 >>> ((nI 1).toUInt32 &&& Int32.toUInt32 31)).toInt32) &&& 1431655765)).toUInt32 >>> ((nI 2).toUInt32 &&& Int32.toUInt32 31)).toInt32) &&& 858993459)))]) dJ6_bitCount_0f7a4_23 (Nat.le_of_ble_eq_true rfl) rfl ?_
  refine v_iload_n dJ6_bitCount_0f7a4_24 rfl ?_
  refine v_iload_n dJ6_bitCount_0f7a4_25 rfl ?_
  refine v_iconst (v := (nI 4)) dJ6_bitCount_0f7a4_26 rfl ?_
  refine v_iushr dJ6_bitCount_0f7a4_27 rfl ?_
  refine v_iadd dJ6_bitCount_0f7a4_28 ?_
  refine v_ldcw dJ6_bitCount_0f7a4_29 cs_J6_267 ?_
  refine v_iand dJ6_bitCount_0f7a4_32 ?_
  refine v_istore_n (lv' := [(0, .int ((((((nI 5) - ((((nI 5).toUInt32 >>> ((nI 1).toUInt32 &&& Int32.toUInt32 31)).toInt32) &&& 1431655765)) &&& 858993459) + (((((nI 5) - ((((nI 5).toUInt32 >>> ((nI 1).toUInt32 &&& Int32.toUInt32 31)).toInt32) &&& 1431655765)).toUInt32 >>> ((nI 2).toUInt32 &&& Int32.toUInt32 31)).toInt32) &&& 858993459)) + ((((((nI 5) - ((((nI 5).toUInt32 >>> ((nI 1).toUInt32 &&& Int32.toUInt32 31)).toInt32) &&& 1431655765)) &&& 858993459) + (((((nI 5) - ((((nI 5).toUInt32 >>> ((nI 1).toUInt32 &&& Int32.toUInt32 31)).toInt32) &&& 1431655765)).toUInt32 >>> ((nI 2).toUInt32 &&& Int32.toUInt32 31)).toInt32) &&& 858993459)).toUInt32 >>> ((nI 4).toUInt32 &&& Int32.toUInt32 31)).toInt32)) &&& 252645135))]) dJ6_bitCount_0f7a4_33 (Nat.le_of_ble_eq_true rfl) rfl ?_
  refine v_iload_n dJ6_bitCount_0f7a4_34 rfl ?_
  refine v_iload_n dJ6_bitCount_0f7a4_35 rfl ?_
  refine v_bipush (v := (nI 8)) dJ6_bitCount_0f7a4_36 rfl ?_
  refine v_iushr dJ6_bitCount_0f7a4_38 rfl ?_
  refine v_iadd dJ6_bitCount_0f7a4_39 ?_
  refine v_istore_n (lv' := [(0, .int (((((((nI 5) - ((((nI 5).toUInt32 >>> ((nI 1).toUInt32 &&& Int32.toUInt32 31)).toInt32) &&& 1431655765)) &&& 858993459) + (((((nI 5) - ((((nI 5).toUInt32 >>> ((nI 1).toUInt32 &&& Int32.toUInt32 31)).toInt32) &&& 1431655765)).toUInt32 >>> ((nI 2).toUInt32 &&& Int32.toUInt32 31)).toInt32) &&& 858993459)) + ((((((nI 5) - ((((nI 5).toUInt32 >>> ((nI 1).toUInt32 &&& Int32.toUInt32 31)).toInt32) &&& 1431655765)) &&& 858993459) + (((((nI 5) - ((((nI 5).toUInt32 >>> ((nI 1).toUInt32 &&& Int32.toUInt32 31)).toInt32) &&& 1431655765)).toUInt32 >>> ((nI 2).toUInt32 &&& Int32.toUInt32 31)).toInt32) &&& 858993459)).toUInt32 >>> ((nI 4).toUInt32 &&& Int32.toUInt32 31)).toInt32)) &&& 252645135) + ((((((((nI 5) - ((((nI 5).toUInt32 >>> ((nI 1).toUInt32 &&& Int32.toUInt32 31)).toInt32) &&& 1431655765)) &&& 858993459) + (((((nI 5) - ((((nI 5).toUInt32 >>> ((nI 1).toUInt32 &&& Int32.toUInt32 31)).toInt32) &&& 1431655765)).toUInt32 >>> ((nI 2).toUInt32 &&& Int32.toUInt32 31)).toInt32) &&& 858993459)) + ((((((nI 5) - ((((nI 5).toUInt32 >>> ((nI 1).toUInt32 &&& Int32.toUInt32 31)).toInt32) &&& 1431655765)) &&& 858993459) + (((((nI 5) - ((((nI 5).toUInt32 >>> ((nI 1).toUInt32 &&& Int32.toUInt32 31)).toInt32) &&& 1431655765)).toUInt32 >>> ((nI 2).toUInt32 &&& Int32.toUInt32 31)).toInt32) &&& 858993459)).toUInt32 >>> ((nI 4).toUInt32 &&& Int32.toUInt32 31)).toInt32)) &&& 252645135).toUInt32 >>> ((nI 8).toUInt32 &&& Int32.toUInt32 31)).toInt32)))]) dJ6_bitCount_0f7a4_40 (Nat.le_of_ble_eq_true rfl) rfl ?_
  refine v_iload_n dJ6_bitCount_0f7a4_41 rfl ?_
  refine v_iload_n dJ6_bitCount_0f7a4_42 rfl ?_
  refine v_bipush (v := (nI 16)) dJ6_bitCount_0f7a4_43 rfl ?_
  refine v_iushr dJ6_bitCount_0f7a4_45 rfl ?_
  refine v_iadd dJ6_bitCount_0f7a4_46 ?_
  refine v_istore_n (lv' := [(0, .int ((((((((nI 5) - ((((nI 5).toUInt32 >>> ((nI 1).toUInt32 &&& Int32.toUInt32 31)).toInt32) &&& 1431655765)) &&& 858993459) + (((((nI 5) - ((((nI 5).toUInt32 >>> ((nI 1).toUInt32 &&& Int32.toUInt32 31)).toInt32) &&& 1431655765)).toUInt32 >>> ((nI 2).toUInt32 &&& Int32.toUInt32 31)).toInt32) &&& 858993459)) + ((((((nI 5) - ((((nI 5).toUInt32 >>> ((nI 1).toUInt32 &&& Int32.toUInt32 31)).toInt32) &&& 1431655765)) &&& 858993459) + (((((nI 5) - ((((nI 5).toUInt32 >>> ((nI 1).toUInt32 &&& Int32.toUInt32 31)).toInt32) &&& 1431655765)).toUInt32 >>> ((nI 2).toUInt32 &&& Int32.toUInt32 31)).toInt32) &&& 858993459)).toUInt32 >>> ((nI 4).toUInt32 &&& Int32.toUInt32 31)).toInt32)) &&& 252645135) + ((((((((nI 5) - ((((nI 5).toUInt32 >>> ((nI 1).toUInt32 &&& Int32.toUInt32 31)).toInt32) &&& 1431655765)) &&& 858993459) + (((((nI 5) - ((((nI 5).toUInt32 >>> ((nI 1).toUInt32 &&& Int32.toUInt32 31)).toInt32) &&& 1431655765)).toUInt32 >>> ((nI 2).toUInt32 &&& Int32.toUInt32 31)).toInt32) &&& 858993459)) + ((((((nI 5) - ((((nI 5).toUInt32 >>> ((nI 1).toUInt32 &&& Int32.toUInt32 31)).toInt32) &&& 1431655765)) &&& 858993459) + (((((nI 5) - ((((nI 5).toUInt32 >>> ((nI 1).toUInt32 &&& Int32.toUInt32 31)).toInt32) &&& 1431655765)).toUInt32 >>> ((nI 2).toUInt32 &&& Int32.toUInt32 31)).toInt32) &&& 858993459)).toUInt32 >>> ((nI 4).toUInt32 &&& Int32.toUInt32 31)).toInt32)) &&& 252645135).toUInt32 >>> ((nI 8).toUInt32 &&& Int32.toUInt32 31)).toInt32)) + (((((((((nI 5) - ((((nI 5).toUInt32 >>> ((nI 1).toUInt32 &&& Int32.toUInt32 31)).toInt32) &&& 1431655765)) &&& 858993459) + (((((nI 5) - ((((nI 5).toUInt32 >>> ((nI 1).toUInt32 &&& Int32.toUInt32 31)).toInt32) &&& 1431655765)).toUInt32 >>> ((nI 2).toUInt32 &&& Int32.toUInt32 31)).toInt32) &&& 858993459)) + ((((((nI 5) - ((((nI 5).toUInt32 >>> ((nI 1).toUInt32 &&& Int32.toUInt32 31)).toInt32) &&& 1431655765)) &&& 858993459) + (((((nI 5) - ((((nI 5).toUInt32 >>> ((nI 1).toUInt32 &&& Int32.toUInt32 31)).toInt32) &&& 1431655765)).toUInt32 >>> ((nI 2).toUInt32 &&& Int32.toUInt32 31)).toInt32) &&& 858993459)).toUInt32 >>> ((nI 4).toUInt32 &&& Int32.toUInt32 31)).toInt32)) &&& 252645135) + ((((((((nI 5) - ((((nI 5).toUInt32 >>> ((nI 1).toUInt32 &&& Int32.toUInt32 31)).toInt32) &&& 1431655765)) &&& 858993459) + (((((nI 5) - ((((nI 5).toUInt32 >>> ((nI 1).toUInt32 &&& Int32.toUInt32 31)).toInt32) &&& 1431655765)).toUInt32 >>> ((nI 2).toUInt32 &&& Int32.toUInt32 31)).toInt32) &&& 858993459)) + ((((((nI 5) - ((((nI 5).toUInt32 >>> ((nI 1).toUInt32 &&& Int32.toUInt32 31)).toInt32) &&& 1431655765)) &&& 858993459) + (((((nI 5) - ((((nI 5).toUInt32 >>> ((nI 1).toUInt32 &&& Int32.toUInt32 31)).toInt32) &&& 1431655765)).toUInt32 >>> ((nI 2).toUInt32 &&& Int32.toUInt32 31)).toInt32) &&& 858993459)).toUInt32 >>> ((nI 4).toUInt32 &&& Int32.toUInt32 31)).toInt32)) &&& 252645135).toUInt32 >>> ((nI 8).toUInt32 &&& Int32.toUInt32 31)).toInt32)).toUInt32 >>> ((nI 16).toUInt32 &&& Int32.toUInt32 31)).toInt32)))]) dJ6_bitCount_0f7a4_47 (Nat.le_of_ble_eq_true rfl) rfl ?_
  refine v_iload_n dJ6_bitCount_0f7a4_48 rfl ?_
  refine v_bipush (v := (nI 63)) dJ6_bitCount_0f7a4_49 rfl ?_
  refine v_iand dJ6_bitCount_0f7a4_51 ?_
  refine v_iret dJ6_bitCount_0f7a4_52 rfl ?_
  refine ⟨congrArg (fun z => some (Value.int z)) (by decide +kernel), rfl⟩
set_option maxRecDepth 100000 in
theorem c_bc_6  : V kJ6_bitCount_0f7a4 (rt (.int (nI (bcT 6))) M) M 0 [(0, .int (nI 6))] [] := by
  refine v_iload_n dJ6_bitCount_0f7a4_0 rfl ?_
  refine v_iload_n dJ6_bitCount_0f7a4_1 rfl ?_
  refine v_iconst (v := (nI 1)) dJ6_bitCount_0f7a4_2 rfl ?_
  refine v_iushr dJ6_bitCount_0f7a4_3 rfl ?_
  refine v_ldcw dJ6_bitCount_0f7a4_4 cs_J6_265 ?_
  refine v_iand dJ6_bitCount_0f7a4_7 ?_
  refine v_isub dJ6_bitCount_0f7a4_8 ?_
  refine v_istore_n (lv' := [(0, .int ((nI 6) - ((((nI 6).toUInt32 >>> ((nI 1).toUInt32 &&& Int32.toUInt32 31)).toInt32) &&& 1431655765)))]) dJ6_bitCount_0f7a4_9 (Nat.le_of_ble_eq_true rfl) rfl ?_
  refine v_iload_n dJ6_bitCount_0f7a4_10 rfl ?_
  refine v_ldcw dJ6_bitCount_0f7a4_11 cs_J6_266 ?_
  refine v_iand dJ6_bitCount_0f7a4_14 ?_
  refine v_iload_n dJ6_bitCount_0f7a4_15 rfl ?_
  refine v_iconst (v := (nI 2)) dJ6_bitCount_0f7a4_16 rfl ?_
  refine v_iushr dJ6_bitCount_0f7a4_17 rfl ?_
  refine v_ldcw dJ6_bitCount_0f7a4_18 cs_J6_266 ?_
  refine v_iand dJ6_bitCount_0f7a4_21 ?_
  refine v_iadd dJ6_bitCount_0f7a4_22 ?_
  refine v_istore_n (lv' := [(0, .int ((((nI 6) - ((((nI 6).toUInt32 >>> ((nI 1).toUInt32 &&& Int32.toUInt32 31)).toInt32) &&& 1431655765)) &&& 858993459) + (((((nI 6) - ((((nI 6).toUInt32 >>> ((nI 1).toUInt32 &&& Int32.toUInt32 31)).toInt32) &&& 1431655765)).toUInt32 >>> ((nI 2).toUInt32 &&& Int32.toUInt32 31)).toInt32) &&& 858993459)))]) dJ6_bitCount_0f7a4_23 (Nat.le_of_ble_eq_true rfl) rfl ?_
  refine v_iload_n dJ6_bitCount_0f7a4_24 rfl ?_
  refine v_iload_n dJ6_bitCount_0f7a4_25 rfl ?_
  refine v_iconst (v := (nI 4)) dJ6_bitCount_0f7a4_26 rfl ?_
  refine v_iushr dJ6_bitCount_0f7a4_27 rfl ?_
  refine v_iadd dJ6_bitCount_0f7a4_28 ?_
  refine v_ldcw dJ6_bitCount_0f7a4_29 cs_J6_267 ?_
  refine v_iand dJ6_bitCount_0f7a4_32 ?_
  refine v_istore_n (lv' := [(0, .int ((((((nI 6) - ((((nI 6).toUInt32 >>> ((nI 1).toUInt32 &&& Int32.toUInt32 31)).toInt32) &&& 1431655765)) &&& 858993459) + (((((nI 6) - ((((nI 6).toUInt32 >>> ((nI 1).toUInt32 &&& Int32.toUInt32 31)).toInt32) &&& 1431655765)).toUInt32 >>> ((nI 2).toUInt32 &&& Int32.toUInt32 31)).toInt32) &&& 858993459)) + ((((((nI 6) - ((((nI 6).toUInt32 >>> ((nI 1).toUInt32 &&& Int32.toUInt32 31)).toInt32) &&& 1431655765)) &&& 858993459) + (((((nI 6) - ((((nI 6).toUInt32 >>> ((nI 1).toUInt32 &&& Int32.toUInt32 31)).toInt32) &&& 1431655765)).toUInt32 >>> ((nI 2).toUInt32 &&& Int32.toUInt32 31)).toInt32) &&& 858993459)).toUInt32 >>> ((nI 4).toUInt32 &&& Int32.toUInt32 31)).toInt32)) &&& 252645135))]) dJ6_bitCount_0f7a4_33 (Nat.le_of_ble_eq_true rfl) rfl ?_
  refine v_iload_n dJ6_bitCount_0f7a4_34 rfl ?_
  refine v_iload_n dJ6_bitCount_0f7a4_35 rfl ?_
  refine v_bipush (v := (nI 8)) dJ6_bitCount_0f7a4_36 rfl ?_
  refine v_iushr dJ6_bitCount_0f7a4_38 rfl ?_
  refine v_iadd dJ6_bitCount_0f7a4_39 ?_
  refine v_istore_n (lv' := [(0, .int (((((((nI 6) - ((((nI 6).toUInt32 >>> ((nI 1).toUInt32 &&& Int32.toUInt32 31)).toInt32) &&& 1431655765)) &&& 858993459) + (((((nI 6) - ((((nI 6).toUInt32 >>> ((nI 1).toUInt32 &&& Int32.toUInt32 31)).toInt32) &&& 1431655765)).toUInt32 >>> ((nI 2).toUInt32 &&& Int32.toUInt32 31)).toInt32) &&& 858993459)) + ((((((nI 6) - ((((nI 6).toUInt32 >>> ((nI 1).toUInt32 &&& Int32.toUInt32 31)).toInt32) &&& 1431655765)) &&& 858993459) + (((((nI 6) - ((((nI 6).toUInt32 >>> ((nI 1).toUInt32 &&& Int32.toUInt32 31)).toInt32) &&& 1431655765)).toUInt32 >>> ((nI 2).toUInt32 &&& Int32.toUInt32 31)).toInt32) &&& 858993459)).toUInt32 >>> ((nI 4).toUInt32 &&& Int32.toUInt32 31)).toInt32)) &&& 252645135) + ((((((((nI 6) - ((((nI 6).toUInt32 >>> ((nI 1).toUInt32 &&& Int32.toUInt32 31)).toInt32) &&& 1431655765)) &&& 858993459) + (((((nI 6) - ((((nI 6).toUInt32 >>> ((nI 1).toUInt32 &&& Int32.toUInt32 31)).toInt32) &&& 1431655765)).toUInt32 >>> ((nI 2).toUInt32 &&& Int32.toUInt32 31)).toInt32) &&& 858993459)) + ((((((nI 6) - ((((nI 6).toUInt32 >>> ((nI 1).toUInt32 &&& Int32.toUInt32 31)).toInt32) &&& 1431655765)) &&& 858993459) + (((((nI 6) - ((((nI 6).toUInt32 >>> ((nI 1).toUInt32 &&& Int32.toUInt32 31)).toInt32) &&& 1431655765)).toUInt32 >>> ((nI 2).toUInt32 &&& Int32.toUInt32 31)).toInt32) &&& 858993459)).toUInt32 >>> ((nI 4).toUInt32 &&& Int32.toUInt32 31)).toInt32)) &&& 252645135).toUInt32 >>> ((nI 8).toUInt32 &&& Int32.toUInt32 31)).toInt32)))]) dJ6_bitCount_0f7a4_40 (Nat.le_of_ble_eq_true rfl) rfl ?_
  refine v_iload_n dJ6_bitCount_0f7a4_41 rfl ?_
  refine v_iload_n dJ6_bitCount_0f7a4_42 rfl ?_
  refine v_bipush (v := (nI 16)) dJ6_bitCount_0f7a4_43 rfl ?_
  refine v_iushr dJ6_bitCount_0f7a4_45 rfl ?_
  refine v_iadd dJ6_bitCount_0f7a4_46 ?_
  refine v_istore_n (lv' := [(0, .int ((((((((nI 6) - ((((nI 6).toUInt32 >>> ((nI 1).toUInt32 &&& Int32.toUInt32 31)).toInt32) &&& 1431655765)) &&& 858993459) + (((((nI 6) - ((((nI 6).toUInt32 >>> ((nI 1).toUInt32 &&& Int32.toUInt32 31)).toInt32) &&& 1431655765)).toUInt32 >>> ((nI 2).toUInt32 &&& Int32.toUInt32 31)).toInt32) &&& 858993459)) + ((((((nI 6) - ((((nI 6).toUInt32 >>> ((nI 1).toUInt32 &&& Int32.toUInt32 31)).toInt32) &&& 1431655765)) &&& 858993459) + (((((nI 6) - ((((nI 6).toUInt32 >>> ((nI 1).toUInt32 &&& Int32.toUInt32 31)).toInt32) &&& 1431655765)).toUInt32 >>> ((nI 2).toUInt32 &&& Int32.toUInt32 31)).toInt32) &&& 858993459)).toUInt32 >>> ((nI 4).toUInt32 &&& Int32.toUInt32 31)).toInt32)) &&& 252645135) + ((((((((nI 6) - ((((nI 6).toUInt32 >>> ((nI 1).toUInt32 &&& Int32.toUInt32 31)).toInt32) &&& 1431655765)) &&& 858993459) + (((((nI 6) - ((((nI 6).toUInt32 >>> ((nI 1).toUInt32 &&& Int32.toUInt32 31)).toInt32) &&& 1431655765)).toUInt32 >>> ((nI 2).toUInt32 &&& Int32.toUInt32 31)).toInt32) &&& 858993459)) + ((((((nI 6) - ((((nI 6).toUInt32 >>> ((nI 1).toUInt32 &&& Int32.toUInt32 31)).toInt32) &&& 1431655765)) &&& 858993459) + (((((nI 6) - ((((nI 6).toUInt32 >>> ((nI 1).toUInt32 &&& Int32.toUInt32 31)).toInt32) &&& 1431655765)).toUInt32 >>> ((nI 2).toUInt32 &&& Int32.toUInt32 31)).toInt32) &&& 858993459)).toUInt32 >>> ((nI 4).toUInt32 &&& Int32.toUInt32 31)).toInt32)) &&& 252645135).toUInt32 >>> ((nI 8).toUInt32 &&& Int32.toUInt32 31)).toInt32)) + (((((((((nI 6) - ((((nI 6).toUInt32 >>> ((nI 1).toUInt32 &&& Int32.toUInt32 31)).toInt32) &&& 1431655765)) &&& 858993459) + (((((nI 6) - ((((nI 6).toUInt32 >>> ((nI 1).toUInt32 &&& Int32.toUInt32 31)).toInt32) &&& 1431655765)).toUInt32 >>> ((nI 2).toUInt32 &&& Int32.toUInt32 31)).toInt32) &&& 858993459)) + ((((((nI 6) - ((((nI 6).toUInt32 >>> ((nI 1).toUInt32 &&& Int32.toUInt32 31)).toInt32) &&& 1431655765)) &&& 858993459) + (((((nI 6) - ((((nI 6).toUInt32 >>> ((nI 1).toUInt32 &&& Int32.toUInt32 31)).toInt32) &&& 1431655765)).toUInt32 >>> ((nI 2).toUInt32 &&& Int32.toUInt32 31)).toInt32) &&& 858993459)).toUInt32 >>> ((nI 4).toUInt32 &&& Int32.toUInt32 31)).toInt32)) &&& 252645135) + ((((((((nI 6) - ((((nI 6).toUInt32 >>> ((nI 1).toUInt32 &&& Int32.toUInt32 31)).toInt32) &&& 1431655765)) &&& 858993459) + (((((nI 6) - ((((nI 6).toUInt32 >>> ((nI 1).toUInt32 &&& Int32.toUInt32 31)).toInt32) &&& 1431655765)).toUInt32 >>> ((nI 2).toUInt32 &&& Int32.toUInt32 31)).toInt32) &&& 858993459)) + ((((((nI 6) - ((((nI 6).toUInt32 >>> ((nI 1).toUInt32 &&& Int32.toUInt32 31)).toInt32) &&& 1431655765)) &&& 858993459) + (((((nI 6) - ((((nI 6).toUInt32 >>> ((nI 1).toUInt32 &&& Int32.toUInt32 31)).toInt32) &&& 1431655765)).toUInt32 >>> ((nI 2).toUInt32 &&& Int32.toUInt32 31)).toInt32) &&& 858993459)).toUInt32 >>> ((nI 4).toUInt32 &&& Int32.toUInt32 31)).toInt32)) &&& 252645135).toUInt32 >>> ((nI 8).toUInt32 &&& Int32.toUInt32 31)).toInt32)).toUInt32 >>> ((nI 16).toUInt32 &&& Int32.toUInt32 31)).toInt32)))]) dJ6_bitCount_0f7a4_47 (Nat.le_of_ble_eq_true rfl) rfl ?_
  refine v_iload_n dJ6_bitCount_0f7a4_48 rfl ?_
  refine v_bipush (v := (nI 63)) dJ6_bitCount_0f7a4_49 rfl ?_
  refine v_iand dJ6_bitCount_0f7a4_51 ?_
  refine v_iret dJ6_bitCount_0f7a4_52 rfl ?_
  refine ⟨congrArg (fun z => some (Value.int z)) (by decide +kernel), rfl⟩
set_option maxRecDepth 100000 in
theorem c_bc_7  : V kJ6_bitCount_0f7a4 (rt (.int (nI (bcT 7))) M) M 0 [(0, .int (nI 7))] [] := by
  refine v_iload_n dJ6_bitCount_0f7a4_0 rfl ?_
  refine v_iload_n dJ6_bitCount_0f7a4_1 rfl ?_
  refine v_iconst (v := (nI 1)) dJ6_bitCount_0f7a4_2 rfl ?_
  refine v_iushr dJ6_bitCount_0f7a4_3 rfl ?_
  refine v_ldcw dJ6_bitCount_0f7a4_4 cs_J6_265 ?_
  refine v_iand dJ6_bitCount_0f7a4_7 ?_
  refine v_isub dJ6_bitCount_0f7a4_8 ?_
  refine v_istore_n (lv' := [(0, .int ((nI 7) - ((((nI 7).toUInt32 >>> ((nI 1).toUInt32 &&& Int32.toUInt32 31)).toInt32) &&& 1431655765)))]) dJ6_bitCount_0f7a4_9 (Nat.le_of_ble_eq_true rfl) rfl ?_
  refine v_iload_n dJ6_bitCount_0f7a4_10 rfl ?_
  refine v_ldcw dJ6_bitCount_0f7a4_11 cs_J6_266 ?_
  refine v_iand dJ6_bitCount_0f7a4_14 ?_
  refine v_iload_n dJ6_bitCount_0f7a4_15 rfl ?_
  refine v_iconst (v := (nI 2)) dJ6_bitCount_0f7a4_16 rfl ?_
  refine v_iushr dJ6_bitCount_0f7a4_17 rfl ?_
  refine v_ldcw dJ6_bitCount_0f7a4_18 cs_J6_266 ?_
  refine v_iand dJ6_bitCount_0f7a4_21 ?_
  refine v_iadd dJ6_bitCount_0f7a4_22 ?_
  refine v_istore_n (lv' := [(0, .int ((((nI 7) - ((((nI 7).toUInt32 >>> ((nI 1).toUInt32 &&& Int32.toUInt32 31)).toInt32) &&& 1431655765)) &&& 858993459) + (((((nI 7) - ((((nI 7).toUInt32 >>> ((nI 1).toUInt32 &&& Int32.toUInt32 31)).toInt32) &&& 1431655765)).toUInt32 >>> ((nI 2).toUInt32 &&& Int32.toUInt32 31)).toInt32) &&& 858993459)))]) dJ6_bitCount_0f7a4_23 (Nat.le_of_ble_eq_true rfl) rfl ?_
  refine v_iload_n dJ6_bitCount_0f7a4_24 rfl ?_
  refine v_iload_n dJ6_bitCount_0f7a4_25 rfl ?_
  refine v_iconst (v := (nI 4)) dJ6_bitCount_0f7a4_26 rfl ?_
  refine v_iushr dJ6_bitCount_0f7a4_27 rfl ?_
  refine v_iadd dJ6_bitCount_0f7a4_28 ?_
  refine v_ldcw dJ6_bitCount_0f7a4_29 cs_J6_267 ?_
  refine v_iand dJ6_bitCount_0f7a4_32 ?_
  refine v_istore_n (lv' := [(0, .int ((((((nI 7) - ((((nI 7).toUInt32 >>> ((nI 1).toUInt32 &&& Int32.toUInt32 31)).toInt32) &&& 1431655765)) &&& 858993459) + (((((nI 7) - ((((nI 7).toUInt32 >>> ((nI 1).toUInt32 &&& Int32.toUInt32 31)).toInt32) &&& 1431655765)).toUInt32 >>> ((nI 2).toUInt32 &&& Int32.toUInt32 31)).toInt32) &&& 858993459)) + ((((((nI 7) - ((((nI 7).toUInt32 >>> ((nI 1).toUInt32 &&& Int32.toUInt32 31)).toInt32) &&& 1431655765)) &&& 858993459) + (((((nI 7) - ((((nI 7).toUInt32 >>> ((nI 1).toUInt32 &&& Int32.toUInt32 31)).toInt32) &&& 1431655765)).toUInt32 >>> ((nI 2).toUInt32 &&& Int32.toUInt32 31)).toInt32) &&& 858993459)).toUInt32 >>> ((nI 4).toUInt32 &&& Int32.toUInt32 31)).toInt32)) &&& 252645135))]) dJ6_bitCount_0f7a4_33 (Nat.le_of_ble_eq_true rfl) rfl ?_
  refine v_iload_n dJ6_bitCount_0f7a4_34 rfl ?_
  refine v_iload_n dJ6_bitCount_0f7a4_35 rfl ?_
  refine v_bipush (v := (nI 8)) dJ6_bitCount_0f7a4_36 rfl ?_
  refine v_iushr dJ6_bitCount_0f7a4_38 rfl ?_
  refine v_iadd dJ6_bitCount_0f7a4_39 ?_
  refine v_istore_n (lv' := [(0, .int (((((((nI 7) - ((((nI 7).toUInt32 >>> ((nI 1).toUInt32 &&& Int32.toUInt32 31)).toInt32) &&& 1431655765)) &&& 858993459) + (((((nI 7) - ((((nI 7).toUInt32 >>> ((nI 1).toUInt32 &&& Int32.toUInt32 31)).toInt32) &&& 1431655765)).toUInt32 >>> ((nI 2).toUInt32 &&& Int32.toUInt32 31)).toInt32) &&& 858993459)) + ((((((nI 7) - ((((nI 7).toUInt32 >>> ((nI 1).toUInt32 &&& Int32.toUInt32 31)).toInt32) &&& 1431655765)) &&& 858993459) + (((((nI 7) - ((((nI 7).toUInt32 >>> ((nI 1).toUInt32 &&& Int32.toUInt32 31)).toInt32) &&& 1431655765)).toUInt32 >>> ((nI 2).toUInt32 &&& Int32.toUInt32 31)).toInt32) &&& 858993459)).toUInt32 >>> ((nI 4).toUInt32 &&& Int32.toUInt32 31)).toInt32)) &&& 252645135) + ((((((((nI 7) - ((((nI 7).toUInt32 >>> ((nI 1).toUInt32 &&& Int32.toUInt32 31)).toInt32) &&& 1431655765)) &&& 858993459) + (((((nI 7) - ((((nI 7).toUInt32 >>> ((nI 1).toUInt32 &&& Int32.toUInt32 31)).toInt32) &&& 1431655765)).toUInt32 >>> ((nI 2).toUInt32 &&& Int32.toUInt32 31)).toInt32) &&& 858993459)) + ((((((nI 7) - ((((nI 7).toUInt32 >>> ((nI 1).toUInt32 &&& Int32.toUInt32 31)).toInt32) &&& 1431655765)) &&& 858993459) + (((((nI 7) - ((((nI 7).toUInt32 >>> ((nI 1).toUInt32 &&& Int32.toUInt32 31)).toInt32) &&& 1431655765)).toUInt32 >>> ((nI 2).toUInt32 &&& Int32.toUInt32 31)).toInt32) &&& 858993459)).toUInt32 >>> ((nI 4).toUInt32 &&& Int32.toUInt32 31)).toInt32)) &&& 252645135).toUInt32 >>> ((nI 8).toUInt32 &&& Int32.toUInt32 31)).toInt32)))]) dJ6_bitCount_0f7a4_40 (Nat.le_of_ble_eq_true rfl) rfl ?_
  refine v_iload_n dJ6_bitCount_0f7a4_41 rfl ?_
  refine v_iload_n dJ6_bitCount_0f7a4_42 rfl ?_
  refine v_bipush (v := (nI 16)) dJ6_bitCount_0f7a4_43 rfl ?_
  refine v_iushr dJ6_bitCount_0f7a4_45 rfl ?_
  refine v_iadd dJ6_bitCount_0f7a4_46 ?_
  refine v_istore_n (lv' := [(0, .int ((((((((nI 7) - ((((nI 7).toUInt32 >>> ((nI 1).toUInt32 &&& Int32.toUInt32 31)).toInt32) &&& 1431655765)) &&& 858993459) + (((((nI 7) - ((((nI 7).toUInt32 >>> ((nI 1).toUInt32 &&& Int32.toUInt32 31)).toInt32) &&& 1431655765)).toUInt32 >>> ((nI 2).toUInt32 &&& Int32.toUInt32 31)).toInt32) &&& 858993459)) + ((((((nI 7) - ((((nI 7).toUInt32 >>> ((nI 1).toUInt32 &&& Int32.toUInt32 31)).toInt32) &&& 1431655765)) &&& 858993459) + (((((nI 7) - ((((nI 7).toUInt32 >>> ((nI 1).toUInt32 &&& Int32.toUInt32 31)).toInt32) &&& 1431655765)).toUInt32 >>> ((nI 2).toUInt32 &&& Int32.toUInt32 31)).toInt32) &&& 858993459)).toUInt32 >>> ((nI 4).toUInt32 &&& Int32.toUInt32 31)).toInt32)) &&& 252645135) + ((((((((nI 7) - ((((nI 7).toUInt32 >>> ((nI 1).toUInt32 &&& Int32.toUInt32 31)).toInt32) &&& 1431655765)) &&& 858993459) + (((((nI 7) - ((((nI 7).toUInt32 >>> ((nI 1).toUInt32 &&& Int32.toUInt32 31)).toInt32) &&& 1431655765)).toUInt32 >>> ((nI 2).toUInt32 &&& Int32.toUInt32 31)).toInt32) &&& 858993459)) + ((((((nI 7) - ((((nI 7).toUInt32 >>> ((nI 1).toUInt32 &&& Int32.toUInt32 31)).toInt32) &&& 1431655765)) &&& 858993459) + (((((nI 7) - ((((nI 7).toUInt32 >>> ((nI 1).toUInt32 &&& Int32.toUInt32 31)).toInt32) &&& 1431655765)).toUInt32 >>> ((nI 2).toUInt32 &&& Int32.toUInt32 31)).toInt32) &&& 858993459)).toUInt32 >>> ((nI 4).toUInt32 &&& Int32.toUInt32 31)).toInt32)) &&& 252645135).toUInt32 >>> ((nI 8).toUInt32 &&& Int32.toUInt32 31)).toInt32)) + (((((((((nI 7) - ((((nI 7).toUInt32 >>> ((nI 1).toUInt32 &&& Int32.toUInt32 31)).toInt32) &&& 1431655765)) &&& 858993459) + (((((nI 7) - ((((nI 7).toUInt32 >>> ((nI 1).toUInt32 &&& Int32.toUInt32 31)).toInt32) &&& 1431655765)).toUInt32 >>> ((nI 2).toUInt32 &&& Int32.toUInt32 31)).toInt32) &&& 858993459)) + ((((((nI 7) - ((((nI 7).toUInt32 >>> ((nI 1).toUInt32 &&& Int32.toUInt32 31)).toInt32) &&& 1431655765)) &&& 858993459) + (((((nI 7) - ((((nI 7).toUInt32 >>> ((nI 1).toUInt32 &&& Int32.toUInt32 31)).toInt32) &&& 1431655765)).toUInt32 >>> ((nI 2).toUInt32 &&& Int32.toUInt32 31)).toInt32) &&& 858993459)).toUInt32 >>> ((nI 4).toUInt32 &&& Int32.toUInt32 31)).toInt32)) &&& 252645135) + ((((((((nI 7) - ((((nI 7).toUInt32 >>> ((nI 1).toUInt32 &&& Int32.toUInt32 31)).toInt32) &&& 1431655765)) &&& 858993459) + (((((nI 7) - ((((nI 7).toUInt32 >>> ((nI 1).toUInt32 &&& Int32.toUInt32 31)).toInt32) &&& 1431655765)).toUInt32 >>> ((nI 2).toUInt32 &&& Int32.toUInt32 31)).toInt32) &&& 858993459)) + ((((((nI 7) - ((((nI 7).toUInt32 >>> ((nI 1).toUInt32 &&& Int32.toUInt32 31)).toInt32) &&& 1431655765)) &&& 858993459) + (((((nI 7) - ((((nI 7).toUInt32 >>> ((nI 1).toUInt32 &&& Int32.toUInt32 31)).toInt32) &&& 1431655765)).toUInt32 >>> ((nI 2).toUInt32 &&& Int32.toUInt32 31)).toInt32) &&& 858993459)).toUInt32 >>> ((nI 4).toUInt32 &&& Int32.toUInt32 31)).toInt32)) &&& 252645135).toUInt32 >>> ((nI 8).toUInt32 &&& Int32.toUInt32 31)).toInt32)).toUInt32 >>> ((nI 16).toUInt32 &&& Int32.toUInt32 31)).toInt32)))]) dJ6_bitCount_0f7a4_47 (Nat.le_of_ble_eq_true rfl) rfl ?_
  refine v_iload_n dJ6_bitCount_0f7a4_48 rfl ?_
  refine v_bipush (v := (nI 63)) dJ6_bitCount_0f7a4_49 rfl ?_
  refine v_iand dJ6_bitCount_0f7a4_51 ?_
  refine v_iret dJ6_bitCount_0f7a4_52 rfl ?_
  refine ⟨congrArg (fun z => some (Value.int z)) (by decide +kernel), rfl⟩
theorem c_bc {j : Nat} (hj : j < 8) : V kJ6_bitCount_0f7a4 (rt (.int (nI (bcT j))) M) M 0 [(0, .int (nI j))] [] := by
  rcases le8 hj with rfl | rfl | rfl | rfl | rfl | rfl | rfl | rfl
  · exact c_bc_0
  · exact c_bc_1
  · exact c_bc_2
  · exact c_bc_3
  · exact c_bc_4
  · exact c_bc_5
  · exact c_bc_6
  · exact c_bc_7
def csB (T : Nat → Int32) (nd n : Nat) : Bool := cdB T n && decide (nd ≤ dpF T n)
theorem cd_so {n : Nat} (h : cdB T n = true) : so T n = 1 ∧ dirF T n = true := by
  unfold cdB at h; simp at h; exact h
set_option maxRecDepth 100000 in
theorem c_cSafe (hc : c = 4 ∨ c = 14) (h : CIR0 M c T) (hW : WF T) (hd : ∀ n, n < nN T → so T n = 1 → M (c + 7) n = nI (dpF T n)) {n nd : Nat} (hn : n < nN T) (hnb : nd < 2 ^ 31) : V kX0_isSafe (rt (.int (bI (csB T nd n = true))) M) M 0 [(0, .ref c), (1, .int (nI n)), (2, .int (nI nd))] [] := by
  have h16 := hW.n16
  refine v_aload_n dX0_isSafe_0 rfl ?_
  refine v_iload_n dX0_isSafe_1 rfl ?_
  refine v_callVr (x := .int (bI (cdB T n = true))) (M1 := M) (as := [.int (nI n)]) (st := []) dX0_isSafe_2 ml_X0_104 kv_X0_isDirect (ob_c hc) ⟨(Nat.le_of_ble_eq_true rfl), (Nat.le_of_ble_eq_true rfl)⟩ rfl (Nat.le_of_ble_eq_true rfl) rfl (Nat.le_of_ble_eq_true rfl) (c_cDir hc h hW hn) ?_
  refine v_ifB_eq (tgt := 24) dX0_isSafe_5 (by decide) (fun c5 => ?_) (fun c5 => ?_)
  · refine v_iconst (v := (nI 0)) dX0_isSafe_24 rfl ?_
    refine v_zret dX0_isSafe_25 rfl (Or.inl rfl) ?_
    refine ⟨?_, rfl⟩
    rw [bI_f (by simp [csB, *])]; rfl
  · refine v_aload_n dX0_isSafe_8 rfl ?_
    refine v_getR (t := c + 7) dX0_isSafe_9 fl_X0_30 (ob_c hc) rfl rfl ?_
    refine v_iload_n dX0_isSafe_12 rfl ?_
    refine v_callSr (x := .int (nI (dpF T n))) (M1 := M) (as := [.ref (c + 7), .int (nI n)]) (st := []) dX0_isSafe_13 ml_X0_60 ks_X3_at ⟨(Nat.le_of_ble_eq_true rfl), (Nat.le_of_ble_eq_true rfl)⟩ rfl (Nat.le_of_ble_eq_true rfl) rfl (Nat.le_of_ble_eq_true rfl) (c_at (ar_c7 hc) (by omega) (hd n hn (cd_so c5).1)) ?_
    refine v_iload_n dX0_isSafe_16 rfl ?_
    refine v_icmpN_lt (tgt := 24) dX0_isSafe_17 (by decide) (by have := dpF_le (T := T) (r := n); omega) (by omega) (fun c17 => ?_) (fun c17 => ?_)
    · refine v_iconst (v := (nI 0)) dX0_isSafe_24 rfl ?_
      refine v_zret dX0_isSafe_25 rfl (Or.inl rfl) ?_
      refine ⟨?_, rfl⟩
      rw [bI_f (by simp [csB, *])]; rfl
    · refine v_iconst (v := (nI 1)) dX0_isSafe_20 rfl ?_
      refine v_goto (tgt := 25) dX0_isSafe_21 (by decide) ?_
      refine v_zret dX0_isSafe_25 rfl (Or.inr rfl) ?_
      refine ⟨?_, rfl⟩
      rw [bI_t (by simp [csB, *])]; rfl
set_option maxRecDepth 100000 in
theorem l_cbk (hc : c = 4 ∨ c = 14) (h : CIR0 M c T) (hW : WF T) {i k : Nat} (hk : k < 2 ^ 31) (d : Nat) : ∀ (s : Int32), d ≤ nN T → V kX0_backFrom (rt (.int (bkD T k d s)) M) M 7 [(0, .ref c), (1, .int (nI i)), (2, .int (nI k)), (3, .int s), (4, .int (nI d - 1))] [] := by
  have h16 := hW.n16
  induction d with
  | zero =>
    intro s hd
    refine v_iload dX0_backFrom_7 rfl ?_
    refine v_if_lt (tgt := 49) dX0_backFrom_9 (by decide) (fun c9 => ?_) (fun c9 => (absurd (by decide) c9))
    refine v_iload_n dX0_backFrom_49 rfl ?_
    refine v_iret dX0_backFrom_50 rfl ?_
    exact ⟨rfl, rfl⟩
  | succ d ih =>
    intro s hd
    rw [nI_pred]
    refine v_iload dX0_backFrom_7 rfl ?_
    refine v_ifN_lt (tgt := 49) dX0_backFrom_9 (by decide) (by omega) ?_
    refine v_iload_n dX0_backFrom_12 rfl ?_
    refine v_iload dX0_backFrom_13 rfl ?_
    refine v_callSr (x := .int (bI (bt s d = true))) (M1 := M) (as := [.int s, .int (nI d)]) (st := []) dX0_backFrom_15 ml_X0_101 ks_X3_hasBit ⟨(Nat.le_of_ble_eq_true rfl), (Nat.le_of_ble_eq_true rfl)⟩ rfl (Nat.le_of_ble_eq_true rfl) rfl (Nat.le_of_ble_eq_true rfl) (c_hasBit _ (by omega)) ?_
    refine v_ifB_eq (tgt := 43) dX0_backFrom_18 (by decide) (fun c18 => ?_) (fun c18 => ?_)
    · refine v_iinc (v := ((nI d)) + (-1)) (lv' := [(0, .ref c), (1, .int (nI i)), (2, .int (nI k)), (3, .int s), (4, .int (((nI d)) + (-1)))]) dX0_backFrom_43 rfl rfl (Nat.le_of_ble_eq_true rfl) rfl ?_
      refine v_goto (tgt := 7) dX0_backFrom_46 (by decide) ?_
      rw [dec_sub]
      have e : bkD T k (d + 1) s = bkD T k d s := by simp only [bkD]; congr 1; exact if_neg (fun q => by obtain ⟨q1, q2⟩ := q; first | exact c18 q1 | exact c28 q2)
      rw [e]
      exact ih _ (by omega)
    · refine v_aload_n dX0_backFrom_21 rfl ?_
      refine v_iload dX0_backFrom_22 rfl ?_
      refine v_iload_n dX0_backFrom_24 rfl ?_
      refine v_callVr (x := .int (bI (psB T k d = true))) (M1 := M) (as := [.int (nI d), .int (nI k)]) (st := []) dX0_backFrom_25 ml_X0_130 kv_X0_passes (ob_c hc) ⟨(Nat.le_of_ble_eq_true rfl), (Nat.le_of_ble_eq_true rfl)⟩ rfl (Nat.le_of_ble_eq_true rfl) rfl (Nat.le_of_ble_eq_true rfl) (c_cPass hc h hW (by omega) (by omega)) ?_
      refine v_ifB_eq (tgt := 43) dX0_backFrom_28 (by decide) (fun c28 => ?_) (fun c28 => ?_)
      · refine v_iinc (v := ((nI d)) + (-1)) (lv' := [(0, .ref c), (1, .int (nI i)), (2, .int (nI k)), (3, .int s), (4, .int (((nI d)) + (-1)))]) dX0_backFrom_43 rfl rfl (Nat.le_of_ble_eq_true rfl) rfl ?_
        refine v_goto (tgt := 7) dX0_backFrom_46 (by decide) ?_
        rw [dec_sub]
        have e : bkD T k (d + 1) s = bkD T k d s := by simp only [bkD]; congr 1; exact if_neg (fun q => by obtain ⟨q1, q2⟩ := q; first | exact c18 q1 | exact c28 q2)
        rw [e]
        exact ih _ (by omega)
      · refine v_iload_n dX0_backFrom_31 rfl ?_
        refine v_aload_n dX0_backFrom_32 rfl ?_
        refine v_getR (t := c + 4) dX0_backFrom_33 fl_X0_21 (ob_c hc) rfl rfl ?_
        refine v_iload dX0_backFrom_36 rfl ?_
        refine v_callSr (x := .int (pbF T d)) (M1 := M) (as := [.ref (c + 4), .int (nI d)]) (st := [.int s]) dX0_backFrom_38 ml_X0_60 ks_X3_at ⟨(Nat.le_of_ble_eq_true rfl), (Nat.le_of_ble_eq_true rfl)⟩ rfl (Nat.le_of_ble_eq_true rfl) rfl (Nat.le_of_ble_eq_true rfl) (c_at (ar_c4 hc) (by omega) (h.pb (by omega))) ?_
        refine v_ior dX0_backFrom_41 ?_
        refine v_istore_n (lv' := [(0, .ref c), (1, .int (nI i)), (2, .int (nI k)), (3, .int (s ||| (pbF T d))), (4, .int (nI d))]) dX0_backFrom_42 (Nat.le_of_ble_eq_true rfl) rfl ?_
        refine v_iinc (v := ((nI d)) + (-1)) (lv' := [(0, .ref c), (1, .int (nI i)), (2, .int (nI k)), (3, .int (s ||| (pbF T d))), (4, .int (((nI d)) + (-1)))]) dX0_backFrom_43 rfl rfl (Nat.le_of_ble_eq_true rfl) rfl ?_
        refine v_goto (tgt := 7) dX0_backFrom_46 (by decide) ?_
        rw [dec_sub]
        have e : bkD T k (d + 1) s = bkD T k d (s ||| (pbF T d)) := by simp only [bkD]; congr 1; exact (if_pos ⟨c18, c28⟩).trans (bkP_or _)
        rw [e]
        exact ih _ (by omega)
set_option maxRecDepth 100000 in
theorem c_cBack (hc : c = 4 ∨ c = 14) (h : CIR0 M c T) (hW : WF T) {i k : Nat} (hi : i < nN T) (hk : k < 2 ^ 31) : V kX0_backFrom (rt (.int (bkF T k i)) M) M 0 [(0, .ref c), (1, .int (nI i)), (2, .int (nI k))] [] := by
  have h16 := hW.n16
  refine v_iconst (v := (nI 1)) dX0_backFrom_0 rfl ?_
  refine v_iload_n dX0_backFrom_1 rfl ?_
  refine v_ishl dX0_backFrom_2 ?_
  refine v_istore_n (lv' := [(0, .ref c), (1, .int (nI i)), (2, .int (nI k)), (3, .int ((nI 1) <<< ((nI i) &&& 31)))]) dX0_backFrom_3 (Nat.le_of_ble_eq_true rfl) rfl ?_
  refine v_iload_n dX0_backFrom_4 rfl ?_
  refine v_istore (lv' := [(0, .ref c), (1, .int (nI i)), (2, .int (nI k)), (3, .int ((nI 1) <<< ((nI i) &&& 31))), (4, .int (nI i))]) dX0_backFrom_5 (Nat.le_of_ble_eq_true rfl) rfl ?_
  have g := l_cbk hc h hW (i := i) hk (i + 1) (bx i) (by omega)
  rw [nI_pred] at g
  exact g
set_option maxRecDepth 100000 in
theorem l_crc (hc : c = 4 ∨ c = 14) (h : CIR0 M c T) (hW : WF T) {r : Nat} (hr : r < nN T) (d : Nat) : ∀ (j : Nat), r + 1 + j + d = nN T → V kX0_reachedFrom (rt (.int (rcF T r)) M) M 18 [(0, .ref c), (1, .int (nI r)), (2, .int (rcU T r j)), (3, .int (nI (ck T r))), (4, .int (nI (r + 1 + j)))] [] := by
  have h16 := hW.n16
  induction d with
  | zero =>
    intro j hk 
    refine v_iload dX0_reachedFrom_18 rfl ?_
    refine v_aload_n dX0_reachedFrom_20 rfl ?_
    refine v_getI2 (y := (nI (nN T))) dX0_reachedFrom_21 fl_X0_47 (ob_c hc) rfl (h.nd) ?_
    refine v_icmpN_ge (tgt := 62) dX0_reachedFrom_24 (by decide) (by omega) (by omega) (fun c24 => ?_) (fun c24 => (by omega))
    refine v_iload_n dX0_reachedFrom_62 rfl ?_
    refine v_iret dX0_reachedFrom_63 rfl ?_
    refine ⟨?_, rfl⟩
    unfold rcF; rw [show nN T - (r + 1) = j by omega]
  | succ d ih =>
    intro j hk 
    refine v_iload dX0_reachedFrom_18 rfl ?_
    refine v_aload_n dX0_reachedFrom_20 rfl ?_
    refine v_getI2 (y := (nI (nN T))) dX0_reachedFrom_21 fl_X0_47 (ob_c hc) rfl (h.nd) ?_
    refine v_icmpN_ge (tgt := 62) dX0_reachedFrom_24 (by decide) (by omega) (by omega) (fun c24 => (by omega)) (fun c24 => ?_)
    refine v_aload_n dX0_reachedFrom_27 rfl ?_
    refine v_getR (t := c + 4) dX0_reachedFrom_28 fl_X0_21 (ob_c hc) rfl rfl ?_
    refine v_iload dX0_reachedFrom_31 rfl ?_
    refine v_iald2 (n := 16) (a := r + 1 + j) (y := (pbF T (r + 1 + j))) dX0_reachedFrom_33 (ar_c4 hc) (rfl) (by omega) (h.pb (by omega)) ?_
    refine v_iload_n dX0_reachedFrom_34 rfl ?_
    refine v_iand dX0_reachedFrom_35 ?_
    refine v_if_eq (tgt := 56) dX0_reachedFrom_36 (by decide) (fun c36 => ?_) (fun c36 => ?_)
    · refine v_iincN (lv' := [(0, .ref c), (1, .int (nI r)), (2, .int (rcU T r j)), (3, .int (nI (ck T r))), (4, .int (nI (r + 1 + j + 1)))]) dX0_reachedFrom_56 rfl (Nat.le_of_ble_eq_true rfl) rfl ?_
      refine v_goto (tgt := 18) dX0_reachedFrom_59 (by decide) ?_
      rw [show (rcU T r j) = rcU T r (j + 1) by simp only [rcU]; rw [rcS_eq hW (by omega), if_neg (fun q => by first | exact q.1 c36 | exact c46 q.2)]]
      exact ih (j + 1) (by omega)
    · refine v_aload_n dX0_reachedFrom_39 rfl ?_
      refine v_iload dX0_reachedFrom_40 rfl ?_
      refine v_iload_n dX0_reachedFrom_42 rfl ?_
      have hck := hW.ck2 hr
      refine v_callVr (x := .int (bI (psB T (ck T r) (r + 1 + j) = true))) (M1 := M) (as := [.int (nI (r + 1 + j)), .int (nI (ck T r))]) (st := []) dX0_reachedFrom_43 ml_X0_130 kv_X0_passes (ob_c hc) ⟨(Nat.le_of_ble_eq_true rfl), (Nat.le_of_ble_eq_true rfl)⟩ rfl (Nat.le_of_ble_eq_true rfl) rfl (Nat.le_of_ble_eq_true rfl) (c_cPass hc h hW (by omega) (by omega)) ?_
      refine v_ifB_eq (tgt := 56) dX0_reachedFrom_46 (by decide) (fun c46 => ?_) (fun c46 => ?_)
      · refine v_iincN (lv' := [(0, .ref c), (1, .int (nI r)), (2, .int (rcU T r j)), (3, .int (nI (ck T r))), (4, .int (nI (r + 1 + j + 1)))]) dX0_reachedFrom_56 rfl (Nat.le_of_ble_eq_true rfl) rfl ?_
        refine v_goto (tgt := 18) dX0_reachedFrom_59 (by decide) ?_
        rw [show (rcU T r j) = rcU T r (j + 1) by simp only [rcU]; rw [rcS_eq hW (by omega), if_neg (fun q => by first | exact q.1 c36 | exact c46 q.2)]]
        exact ih (j + 1) (by omega)
      · refine v_iload_n dX0_reachedFrom_49 rfl ?_
        refine v_iconst (v := (nI 1)) dX0_reachedFrom_50 rfl ?_
        refine v_iload dX0_reachedFrom_51 rfl ?_
        refine v_ishl dX0_reachedFrom_53 ?_
        refine v_ior dX0_reachedFrom_54 ?_
        refine v_istore_n (lv' := [(0, .ref c), (1, .int (nI r)), (2, .int ((rcU T r j) ||| ((nI 1) <<< ((nI (r + 1 + j)) &&& 31)))), (3, .int (nI (ck T r))), (4, .int (nI (r + 1 + j)))]) dX0_reachedFrom_55 (Nat.le_of_ble_eq_true rfl) rfl ?_
        refine v_iincN (lv' := [(0, .ref c), (1, .int (nI r)), (2, .int ((rcU T r j) ||| ((nI 1) <<< ((nI (r + 1 + j)) &&& 31)))), (3, .int (nI (ck T r))), (4, .int (nI (r + 1 + j + 1)))]) dX0_reachedFrom_56 rfl (Nat.le_of_ble_eq_true rfl) rfl ?_
        refine v_goto (tgt := 18) dX0_reachedFrom_59 (by decide) ?_
        rw [show ((rcU T r j) ||| ((nI 1) <<< ((nI (r + 1 + j)) &&& 31))) = rcU T r (j + 1) by simp only [rcU]; rw [rcS_eq hW (by omega), if_pos ⟨c36, c46⟩]; rfl]
        exact ih (j + 1) (by omega)
set_option maxRecDepth 100000 in
theorem c_cReach (hc : c = 4 ∨ c = 14) (h : CIR0 M c T) (hW : WF T) {r : Nat} (hr : r < nN T) (hl : so T r ≤ 1) : V kX0_reachedFrom (rt (.int (rcF T r)) M) M 0 [(0, .ref c), (1, .int (nI r))] [] := by
  have h16 := hW.n16
  refine v_iconst (v := (nI 1)) dX0_reachedFrom_0 rfl ?_
  refine v_iload_n dX0_reachedFrom_1 rfl ?_
  refine v_ishl dX0_reachedFrom_2 ?_
  refine v_istore_n (lv' := [(0, .ref c), (1, .int (nI r)), (2, .int ((nI 1) <<< ((nI r) &&& 31)))]) dX0_reachedFrom_3 (Nat.le_of_ble_eq_true rfl) rfl ?_
  refine v_aload_n dX0_reachedFrom_4 rfl ?_
  refine v_getR (t := c + 2) dX0_reachedFrom_5 fl_X0_15 (ob_c hc) rfl rfl ?_
  refine v_iload_n dX0_reachedFrom_8 rfl ?_
  refine v_callSr (x := .int (nI (ck T r))) (M1 := M) (as := [.ref (c + 2), .int (nI r)]) (st := []) dX0_reachedFrom_9 ml_X0_60 ks_X3_at ⟨(Nat.le_of_ble_eq_true rfl), (Nat.le_of_ble_eq_true rfl)⟩ rfl (Nat.le_of_ble_eq_true rfl) rfl (Nat.le_of_ble_eq_true rfl) (c_at (ar_c2 hc) (by omega) (cir_ckL h hr hl)) ?_
  refine v_istore_n (lv' := [(0, .ref c), (1, .int (nI r)), (2, .int ((nI 1) <<< ((nI r) &&& 31))), (3, .int (nI (ck T r)))]) dX0_reachedFrom_12 (Nat.le_of_ble_eq_true rfl) rfl ?_
  refine v_iload_n dX0_reachedFrom_13 rfl ?_
  refine v_iconst (v := (nI 1)) dX0_reachedFrom_14 rfl ?_
  refine v_iaddN dX0_reachedFrom_15 ?_
  refine v_istore (lv' := [(0, .ref c), (1, .int (nI r)), (2, .int ((nI 1) <<< ((nI r) &&& 31))), (3, .int (nI (ck T r))), (4, .int (nI (r + 1)))]) dX0_reachedFrom_16 (Nat.le_of_ble_eq_true rfl) rfl ?_
  exact l_crc hc h hW hr (nN T - (r + 1)) 0 (by omega)
set_option maxRecDepth 100000 in
theorem l_clow {s : Int32} (hs : ∀ i, i < 32 → 16 ≤ i → bt s i = false) (d : Nat) : ∀ (k : Nat), k + d = 16 → (∀ j, j < k → bt s j = false) → V kX0_lowestBit (rt (.int (if s = 0 then (-9) else nI (loF s))) M) M 2 [(0, .int s), (1, .int (nI k))] [] := by
  induction d with
  | zero =>
    intro k hk hj
    refine v_iload_n dX0_lowestBit_2 rfl ?_
    refine v_bipush (v := (nI 16)) dX0_lowestBit_3 rfl ?_
    refine v_icmpN_ge (tgt := 24) dX0_lowestBit_5 (by decide) (by omega) (by omega) (fun c5 => ?_) (fun c5 => (by omega))
    refine v_bipush (v := (-9)) dX0_lowestBit_24 (by decide) ?_
    refine v_iret dX0_lowestBit_26 rfl ?_
    refine ⟨?_, rfl⟩
    rw [if_pos]
    apply b_ext; intro i hi; rw [b_0]
    rcases Nat.lt_or_ge i 16 with a | a
    · exact hj i (by omega)
    · exact hs i hi a
  | succ d ih =>
    intro k hk hj
    refine v_iload_n dX0_lowestBit_2 rfl ?_
    refine v_bipush (v := (nI 16)) dX0_lowestBit_3 rfl ?_
    refine v_icmpN_ge (tgt := 24) dX0_lowestBit_5 (by decide) (by omega) (by omega) (fun c5 => (by omega)) (fun c5 => ?_)
    refine v_iload_n dX0_lowestBit_8 rfl ?_
    refine v_iload_n dX0_lowestBit_9 rfl ?_
    refine v_callSr (x := .int (bI (bt s k = true))) (M1 := M) (as := [.int s, .int (nI k)]) (st := []) dX0_lowestBit_10 ml_X0_101 ks_X3_hasBit ⟨(Nat.le_of_ble_eq_true rfl), (Nat.le_of_ble_eq_true rfl)⟩ rfl (Nat.le_of_ble_eq_true rfl) rfl (Nat.le_of_ble_eq_true rfl) (c_hasBit _ (by omega)) ?_
    refine v_ifB_eq (tgt := 18) dX0_lowestBit_13 (by decide) (fun c13 => ?_) (fun c13 => ?_)
    · refine v_iincN (lv' := [(0, .int s), (1, .int (nI (k + 1)))]) dX0_lowestBit_18 rfl (Nat.le_of_ble_eq_true rfl) rfl ?_
      refine v_goto (tgt := 2) dX0_lowestBit_21 (by decide) ?_
      exact ih (k + 1) (by omega) (fun j h9 => by
        rcases Nat.lt_or_ge j k with h8 | h8
        · exact hj j h8
        · rw [show j = k by omega]; simpa using c13)
    · refine v_iload_n dX0_lowestBit_16 rfl ?_
      refine v_iret dX0_lowestBit_17 rfl ?_
      refine ⟨?_, rfl⟩
      rw [if_neg (b_ne0.mpr ⟨k, by omega, c13⟩)]
      rw [show loF s = k from loN_eq (fun i _ g => hj i g) (Nat.zero_le _) (by omega) c13]
set_option maxRecDepth 100000 in
theorem c_cLow {s : Int32} (hs : ∀ i, i < 32 → 16 ≤ i → bt s i = false) : V kX0_lowestBit (rt (.int (if s = 0 then (-9) else nI (loF s))) M) M 0 [(0, .int s)] [] := by
  refine v_iconst (v := (nI 0)) dX0_lowestBit_0 rfl ?_
  refine v_istore_n (lv' := [(0, .int s), (1, .int (nI 0))]) dX0_lowestBit_1 (Nat.le_of_ble_eq_true rfl) rfl ?_
  exact l_clow hs 16 0 (by omega) (fun j h => absurd h (by omega))
def wjF (T : Nat → Int32) (r q : Nat) : Int32 := if so T r = 1 then (if boF T r q = 0 then (-9) else nI (loF (boF T r q))) else (-9)
set_option maxRecDepth 100000 in
theorem c_cJoin (hc : c = 4 ∨ c = 14) (h : CIR0 M c T) (hW : WF T) {r q : Nat} (hr : r < nN T) (hq : q < nN T) : V kX0_whereJoined (rt (.int (wjF T r q)) M) M 0 [(0, .ref c), (1, .int (nI r)), (2, .int (nI q))] [] := by
  have h16 := hW.n16
  refine v_aload_n dX0_whereJoined_0 rfl ?_
  refine v_iload_n dX0_whereJoined_1 rfl ?_
  refine v_callVr (x := .int (bI (cdB T r = true))) (M1 := M) (as := [.int (nI r)]) (st := []) dX0_whereJoined_2 ml_X0_104 kv_X0_isDirect (ob_c hc) ⟨(Nat.le_of_ble_eq_true rfl), (Nat.le_of_ble_eq_true rfl)⟩ rfl (Nat.le_of_ble_eq_true rfl) rfl (Nat.le_of_ble_eq_true rfl) (c_cDir hc h hW hr) ?_
  refine v_ifB_eq (tgt := 35) dX0_whereJoined_5 (by decide) (fun c5 => ?_) (fun c5 => ?_)
  · refine v_bipush (v := (-9)) dX0_whereJoined_35 (by decide) ?_
    refine v_iret dX0_whereJoined_37 rfl ?_
    refine ⟨?_, rfl⟩
    unfold wjF
    by_cases h1 : so T r = 1
    · rw [if_pos h1, if_pos]
      unfold boF
      rw [if_neg]; · rfl
      rintro ⟨g1, g2⟩
      simp only [apF, Bool.and_eq_true, decide_eq_true_eq, Bool.not_eq_true', decide_eq_false_iff_not] at g2
      obtain ⟨⟨⟨⟨⟨a1, a2⟩, a3⟩, a4⟩, a5⟩, a6⟩ := g2
      first | exact c5 (by simp [cdB, h1, a2]) | exact c13 (by simp [cdB, g1, a3]) | exact c32 a1 | exact a4 c56 | exact c76 a5 | (rw [a6] at c92; exact absurd c92 (by decide))
    · rw [if_neg h1]
  · refine v_aload_n dX0_whereJoined_8 rfl ?_
    refine v_iload_n dX0_whereJoined_9 rfl ?_
    refine v_callVr (x := .int (bI (cdB T q = true))) (M1 := M) (as := [.int (nI q)]) (st := []) dX0_whereJoined_10 ml_X0_104 kv_X0_isDirect (ob_c hc) ⟨(Nat.le_of_ble_eq_true rfl), (Nat.le_of_ble_eq_true rfl)⟩ rfl (Nat.le_of_ble_eq_true rfl) rfl (Nat.le_of_ble_eq_true rfl) (c_cDir hc h hW hq) ?_
    refine v_ifB_eq (tgt := 35) dX0_whereJoined_13 (by decide) (fun c13 => ?_) (fun c13 => ?_)
    · refine v_bipush (v := (-9)) dX0_whereJoined_35 (by decide) ?_
      refine v_iret dX0_whereJoined_37 rfl ?_
      refine ⟨?_, rfl⟩
      unfold wjF
      by_cases h1 : so T r = 1
      · rw [if_pos h1, if_pos]
        unfold boF
        rw [if_neg]; · rfl
        rintro ⟨g1, g2⟩
        simp only [apF, Bool.and_eq_true, decide_eq_true_eq, Bool.not_eq_true', decide_eq_false_iff_not] at g2
        obtain ⟨⟨⟨⟨⟨a1, a2⟩, a3⟩, a4⟩, a5⟩, a6⟩ := g2
        first | exact c5 (by simp [cdB, h1, a2]) | exact c13 (by simp [cdB, g1, a3]) | exact c32 a1 | exact a4 c56 | exact c76 a5 | (rw [a6] at c92; exact absurd c92 (by decide))
      · rw [if_neg h1]
    · obtain ⟨r1, r2⟩ := cd_so c5
      obtain ⟨q1, q2⟩ := cd_so c13
      have hpr := hW.ptlt hr (show 0 < hmF (so T r) by rw [r1]; decide)
      have hpq := hW.ptlt hq (show 0 < hmF (so T q) by rw [q1]; decide)
      have hlr := (dir_leaf hW hr r1 r2).1
      have hlq := (dir_leaf hW hq q1 q2).1
      have ckr := hW.ck2 hr
      have ckq := hW.ck2 hq
      have ckp := hW.ck2 (n := pt T r 0) (by omega)
      have ckp2 := hW.ck2 (n := pt T q 0) (by omega)
      have hm1 : hmF (so T r) = 1 := hm_reg r1
      have hm2 : hmF (so T q) = 1 := hm_reg q1
      refine v_aload_n dX0_whereJoined_16 rfl ?_
      refine v_getR (t := c + 2) dX0_whereJoined_17 fl_X0_15 (ob_c hc) rfl rfl ?_
      refine v_iload_n dX0_whereJoined_20 rfl ?_
      refine v_callSr (x := .int (nI (ck T r))) (M1 := M) (as := [.ref (c + 2), .int (nI r)]) (st := []) dX0_whereJoined_21 ml_X0_60 ks_X3_at ⟨(Nat.le_of_ble_eq_true rfl), (Nat.le_of_ble_eq_true rfl)⟩ rfl (Nat.le_of_ble_eq_true rfl) rfl (Nat.le_of_ble_eq_true rfl) (c_at (ar_c2 hc) (by omega) (cir_ckL h hr (by omega))) ?_
      refine v_aload_n dX0_whereJoined_24 rfl ?_
      refine v_getR (t := c + 2) dX0_whereJoined_25 fl_X0_15 (ob_c hc) rfl rfl ?_
      refine v_iload_n dX0_whereJoined_28 rfl ?_
      refine v_callSr (x := .int (nI (ck T q))) (M1 := M) (as := [.ref (c + 2), .int (nI q)]) (st := [.int (nI (ck T r))]) dX0_whereJoined_29 ml_X0_60 ks_X3_at ⟨(Nat.le_of_ble_eq_true rfl), (Nat.le_of_ble_eq_true rfl)⟩ rfl (Nat.le_of_ble_eq_true rfl) rfl (Nat.le_of_ble_eq_true rfl) (c_at (ar_c2 hc) (by omega) (cir_ckL h hq (by omega))) ?_
      refine v_icmpN_eq (tgt := 38) dX0_whereJoined_32 (by decide) (by omega) (by omega) (fun c32 => ?_) (fun c32 => ?_)
      · refine v_aload_n dX0_whereJoined_38 rfl ?_
        refine v_iload_n dX0_whereJoined_39 rfl ?_
        refine v_iconst (v := (nI 0)) dX0_whereJoined_40 rfl ?_
        refine v_callVr (x := .int (nI (pt T r 0))) (M1 := M) (as := [.int (nI r), .int (nI 0)]) (st := []) dX0_whereJoined_41 ml_X0_116 kv_X0_partOf (ob_c hc) ⟨(Nat.le_of_ble_eq_true rfl), (Nat.le_of_ble_eq_true rfl)⟩ rfl (Nat.le_of_ble_eq_true rfl) rfl (Nat.le_of_ble_eq_true rfl) (c_cPart hc h hW (by omega) (by omega)) ?_
        refine v_istore_n (lv' := [(0, .ref c), (1, .int (nI r)), (2, .int (nI q)), (3, .int (nI (pt T r 0)))]) dX0_whereJoined_44 (Nat.le_of_ble_eq_true rfl) rfl ?_
        refine v_aload_n dX0_whereJoined_45 rfl ?_
        refine v_iload_n dX0_whereJoined_46 rfl ?_
        refine v_iconst (v := (nI 0)) dX0_whereJoined_47 rfl ?_
        refine v_callVr (x := .int (nI (pt T q 0))) (M1 := M) (as := [.int (nI q), .int (nI 0)]) (st := []) dX0_whereJoined_48 ml_X0_116 kv_X0_partOf (ob_c hc) ⟨(Nat.le_of_ble_eq_true rfl), (Nat.le_of_ble_eq_true rfl)⟩ rfl (Nat.le_of_ble_eq_true rfl) rfl (Nat.le_of_ble_eq_true rfl) (c_cPart hc h hW (by omega) (by omega)) ?_
        refine v_istore (lv' := [(0, .ref c), (1, .int (nI r)), (2, .int (nI q)), (3, .int (nI (pt T r 0))), (4, .int (nI (pt T q 0)))]) dX0_whereJoined_51 (Nat.le_of_ble_eq_true rfl) rfl ?_
        refine v_iload_n dX0_whereJoined_53 rfl ?_
        refine v_iload dX0_whereJoined_54 rfl ?_
        refine v_icmpN_eq (tgt := 95) dX0_whereJoined_56 (by decide) (by omega) (by omega) (fun c56 => ?_) (fun c56 => ?_)
        · refine v_bipush (v := (-9)) dX0_whereJoined_95 (by decide) ?_
          refine v_iret dX0_whereJoined_97 rfl ?_
          refine ⟨?_, rfl⟩
          unfold wjF
          by_cases h1 : so T r = 1
          · rw [if_pos h1, if_pos]
            unfold boF
            rw [if_neg]; · rfl
            rintro ⟨g1, g2⟩
            simp only [apF, Bool.and_eq_true, decide_eq_true_eq, Bool.not_eq_true', decide_eq_false_iff_not] at g2
            obtain ⟨⟨⟨⟨⟨a1, a2⟩, a3⟩, a4⟩, a5⟩, a6⟩ := g2
            first | exact c5 (by simp [cdB, h1, a2]) | exact c13 (by simp [cdB, g1, a3]) | exact c32 a1 | exact a4 c56 | exact c76 a5 | (rw [a6] at c92; exact absurd c92 (by decide))
          · rw [if_neg h1]
        · refine v_aload_n dX0_whereJoined_59 rfl ?_
          refine v_getR (t := c + 2) dX0_whereJoined_60 fl_X0_15 (ob_c hc) rfl rfl ?_
          refine v_iload_n dX0_whereJoined_63 rfl ?_
          refine v_callSr (x := .int (nI (ck T (pt T r 0)))) (M1 := M) (as := [.ref (c + 2), .int (nI (pt T r 0))]) (st := []) dX0_whereJoined_64 ml_X0_60 ks_X3_at ⟨(Nat.le_of_ble_eq_true rfl), (Nat.le_of_ble_eq_true rfl)⟩ rfl (Nat.le_of_ble_eq_true rfl) rfl (Nat.le_of_ble_eq_true rfl) (c_at (ar_c2 hc) (by omega) (cir_ckL h (by omega) hlr)) ?_
          refine v_aload_n dX0_whereJoined_67 rfl ?_
          refine v_getR (t := c + 2) dX0_whereJoined_68 fl_X0_15 (ob_c hc) rfl rfl ?_
          refine v_iload dX0_whereJoined_71 rfl ?_
          refine v_callSr (x := .int (nI (ck T (pt T q 0)))) (M1 := M) (as := [.ref (c + 2), .int (nI (pt T q 0))]) (st := [.int (nI (ck T (pt T r 0)))]) dX0_whereJoined_73 ml_X0_60 ks_X3_at ⟨(Nat.le_of_ble_eq_true rfl), (Nat.le_of_ble_eq_true rfl)⟩ rfl (Nat.le_of_ble_eq_true rfl) rfl (Nat.le_of_ble_eq_true rfl) (c_at (ar_c2 hc) (by omega) (cir_ckL h (by omega) hlq)) ?_
          refine v_icmpN_ne (tgt := 95) dX0_whereJoined_76 (by decide) (by omega) (by omega) (fun c76 => ?_) (fun c76 => ?_)
          · refine v_bipush (v := (-9)) dX0_whereJoined_95 (by decide) ?_
            refine v_iret dX0_whereJoined_97 rfl ?_
            refine ⟨?_, rfl⟩
            unfold wjF
            by_cases h1 : so T r = 1
            · rw [if_pos h1, if_pos]
              unfold boF
              rw [if_neg]; · rfl
              rintro ⟨g1, g2⟩
              simp only [apF, Bool.and_eq_true, decide_eq_true_eq, Bool.not_eq_true', decide_eq_false_iff_not] at g2
              obtain ⟨⟨⟨⟨⟨a1, a2⟩, a3⟩, a4⟩, a5⟩, a6⟩ := g2
              first | exact c5 (by simp [cdB, h1, a2]) | exact c13 (by simp [cdB, g1, a3]) | exact c32 a1 | exact a4 c56 | exact c76 a5 | (rw [a6] at c92; exact absurd c92 (by decide))
            · rw [if_neg h1]
          · refine v_aload_n dX0_whereJoined_79 rfl ?_
            refine v_getR (t := c + 8) dX0_whereJoined_80 fl_X0_33 (ob_c hc) rfl rfl ?_
            refine v_iload_n dX0_whereJoined_83 rfl ?_
            refine v_callSr (x := .int (M (c + 8) (pt T r 0))) (M1 := M) (as := [.ref (c + 8), .int (nI (pt T r 0))]) (st := []) dX0_whereJoined_84 ml_X0_60 ks_X3_at ⟨(Nat.le_of_ble_eq_true rfl), (Nat.le_of_ble_eq_true rfl)⟩ rfl (Nat.le_of_ble_eq_true rfl) rfl (Nat.le_of_ble_eq_true rfl) (c_at (ar_c8 hc) (by omega) rfl) ?_
            refine v_iload dX0_whereJoined_87 rfl ?_
            refine v_callSr (x := .int (bI (bt (M (c + 8) (pt T r 0)) (pt T q 0) = true))) (M1 := M) (as := [.int (M (c + 8) (pt T r 0)), .int (nI (pt T q 0))]) (st := []) dX0_whereJoined_89 ml_X0_101 ks_X3_hasBit ⟨(Nat.le_of_ble_eq_true rfl), (Nat.le_of_ble_eq_true rfl)⟩ rfl (Nat.le_of_ble_eq_true rfl) rfl (Nat.le_of_ble_eq_true rfl) (c_hasBit _ (by omega)) ?_
            rw [h.mb (n := pt T r 0) (by omega) (b := pt T q 0) (by omega)]
            refine v_ifB_eq (tgt := 98) dX0_whereJoined_92 (by decide) (fun c92 => ?_) (fun c92 => ?_)
            · refine v_aload_n dX0_whereJoined_98 rfl ?_
              refine v_iload_n dX0_whereJoined_99 rfl ?_
              refine v_callVr (x := .int (rcF T r)) (M1 := M) (as := [.int (nI r)]) (st := []) dX0_whereJoined_100 ml_X0_133 kv_X0_reachedFrom (ob_c hc) ⟨(Nat.le_of_ble_eq_true rfl), (Nat.le_of_ble_eq_true rfl)⟩ rfl (Nat.le_of_ble_eq_true rfl) rfl (Nat.le_of_ble_eq_true rfl) (c_cReach hc h hW hr (by omega)) ?_
              refine v_aload_n dX0_whereJoined_103 rfl ?_
              refine v_iload_n dX0_whereJoined_104 rfl ?_
              refine v_callVr (x := .int (rcF T q)) (M1 := M) (as := [.int (nI q)]) (st := [.int (rcF T r)]) dX0_whereJoined_105 ml_X0_133 kv_X0_reachedFrom (ob_c hc) ⟨(Nat.le_of_ble_eq_true rfl), (Nat.le_of_ble_eq_true rfl)⟩ rfl (Nat.le_of_ble_eq_true rfl) rfl (Nat.le_of_ble_eq_true rfl) (c_cReach hc h hW hq (by omega)) ?_
              refine v_iand dX0_whereJoined_108 ?_
              refine v_callSr (x := .int (if rcF T r &&& rcF T q = 0 then (-9) else nI (loF (rcF T r &&& rcF T q)))) (M1 := M) (as := [.int ((rcF T r) &&& (rcF T q))]) (st := []) dX0_whereJoined_109 ml_X0_136 ks_X0_lowestBit ⟨(Nat.le_of_ble_eq_true rfl), (Nat.le_of_ble_eq_true rfl)⟩ rfl (Nat.le_of_ble_eq_true rfl) rfl (Nat.le_of_ble_eq_true rfl) (c_cLow (fun i hi h9 => by rw [b_and, rcF_b hW hr i hi (by omega)]; rfl)) ?_
              refine v_iret dX0_whereJoined_112 rfl ?_
              refine ⟨?_, rfl⟩
              have hb : boF T r q = rcF T r &&& rcF T q := by
                unfold boF
                rw [if_pos]
                refine ⟨q1, ?_⟩
                simp only [apF, Bool.and_eq_true, decide_eq_true_eq, Bool.not_eq_true', decide_eq_false_iff_not]
                exact ⟨⟨⟨⟨⟨c32, r2⟩, q2⟩, c56⟩, c76⟩, by simpa using c92⟩
              unfold wjF
              rw [if_pos r1, hb]
            · refine v_bipush (v := (-9)) dX0_whereJoined_95 (by decide) ?_
              refine v_iret dX0_whereJoined_97 rfl ?_
              refine ⟨?_, rfl⟩
              unfold wjF
              by_cases h1 : so T r = 1
              · rw [if_pos h1, if_pos]
                unfold boF
                rw [if_neg]; · rfl
                rintro ⟨g1, g2⟩
                simp only [apF, Bool.and_eq_true, decide_eq_true_eq, Bool.not_eq_true', decide_eq_false_iff_not] at g2
                obtain ⟨⟨⟨⟨⟨a1, a2⟩, a3⟩, a4⟩, a5⟩, a6⟩ := g2
                first | exact c5 (by simp [cdB, h1, a2]) | exact c13 (by simp [cdB, g1, a3]) | exact c32 a1 | exact a4 c56 | exact c76 a5 | (rw [a6] at c92; exact absurd c92 (by decide))
              · rw [if_neg h1]
      · refine v_bipush (v := (-9)) dX0_whereJoined_35 (by decide) ?_
        refine v_iret dX0_whereJoined_37 rfl ?_
        refine ⟨?_, rfl⟩
        unfold wjF
        by_cases h1 : so T r = 1
        · rw [if_pos h1, if_pos]
          unfold boF
          rw [if_neg]; · rfl
          rintro ⟨g1, g2⟩
          simp only [apF, Bool.and_eq_true, decide_eq_true_eq, Bool.not_eq_true', decide_eq_false_iff_not] at g2
          obtain ⟨⟨⟨⟨⟨a1, a2⟩, a3⟩, a4⟩, a5⟩, a6⟩ := g2
          first | exact c5 (by simp [cdB, h1, a2]) | exact c13 (by simp [cdB, g1, a3]) | exact c32 a1 | exact a4 c56 | exact c76 a5 | (rw [a6] at c92; exact absurd c92 (by decide))
        · rw [if_neg h1]
set_option maxRecDepth 100000 in
theorem l_half {D : Nat} (hD : D ≤ 17) (d : Nat) : ∀ (j : Nat), j + d = D → V kX0_halved (rt (.float (hvN D)) M) M 4 [(0, .int (nI D)), (1, .float (hvN j)), (2, .int (nI j))] [] := by
  induction d with
  | zero =>
    intro j hk 
    refine v_iload_n dX0_halved_4 rfl ?_
    refine v_iload_n dX0_halved_5 rfl ?_
    refine v_icmpN_ge (tgt := 20) dX0_halved_6 (by decide) (by omega) (by omega) (fun c6 => ?_) (fun c6 => (by omega))
    refine v_fload_n dX0_halved_20 rfl ?_
    refine v_fret dX0_halved_21 rfl ?_
    refine ⟨?_, rfl⟩
    rw [show j = D by omega]
  | succ d ih =>
    intro j hk 
    refine v_iload_n dX0_halved_4 rfl ?_
    refine v_iload_n dX0_halved_5 rfl ?_
    refine v_icmpN_ge (tgt := 20) dX0_halved_6 (by decide) (by omega) (by omega) (fun c6 => (by omega)) (fun c6 => ?_)
    refine v_fload_n dX0_halved_9 rfl ?_
    refine v_ldcf dX0_halved_10 cf_X0_149 ?_
    refine v_fmul dX0_halved_12 (hv_mul (by omega)) ?_
    refine v_fstore_n (lv' := [(0, .int (nI D)), (1, .float (FP.fmul (hvN j) 1056964608)), (2, .int (nI j))]) dX0_halved_13 (Nat.le_of_ble_eq_true rfl) rfl ?_
    refine v_iincN (lv' := [(0, .int (nI D)), (1, .float (FP.fmul (hvN j) 1056964608)), (2, .int (nI (j + 1)))]) dX0_halved_14 rfl (Nat.le_of_ble_eq_true rfl) rfl ?_
    refine v_goto (tgt := 4) dX0_halved_17 (by decide) ?_
    exact ih (j + 1) (by omega)
set_option maxRecDepth 100000 in
theorem c_half {D : Nat} (hD : D ≤ 17) : V kX0_halved (rt (.float (hvN D)) M) M 0 [(0, .int (nI D))] [] := by
  refine v_fconst1 dX0_halved_0 ?_
  refine v_fstore_n (lv' := [(0, .int (nI D)), (1, .float FP.fconst1)]) dX0_halved_1 (Nat.le_of_ble_eq_true rfl) rfl ?_
  refine v_iconst (v := (nI 0)) dX0_halved_2 rfl ?_
  refine v_istore_n (lv' := [(0, .int (nI D)), (1, .float FP.fconst1), (2, .int (nI 0))]) dX0_halved_3 (Nat.le_of_ble_eq_true rfl) rfl ?_
  exact l_half hD D 0 (by omega)
end C40
