section C38
variable {M : vM} {c : Nat} {T : Nat → Int32}
set_option maxRecDepth 100000 in
theorem c_at {i n a : Nat} (ar : AR 10 i n) (ha : a < n) {y : Int32} (e : M i a = y) : V kX3_at (rt (.int y) M) M 0 [(0, .ref i), (1, .int (nI a))] [] := by
  have hn := ar_sz ar
  refine v_iload_n dX3_at_0 rfl ?_
  refine v_ifN_lt (tgt := 16) dX3_at_1 (by decide) (by omega) ?_
  refine v_iload_n dX3_at_4 rfl ?_
  refine v_aload_n dX3_at_5 rfl ?_
  refine v_alen (t := 10) (n := n) dX3_at_6 ar (by decide) ?_
  refine v_icmpN_ge (tgt := 16) dX3_at_7 (by decide) (by omega) (by omega) (fun c7 => (by omega)) (fun c7 => ?_)
  refine v_aload_n dX3_at_10 rfl ?_
  refine v_iload_n dX3_at_11 rfl ?_
  refine v_iald2 (n := n) (a := a) (y := y) dX3_at_12 ar (rfl) (by omega) (e) ?_
  refine v_goto (tgt := 18) dX3_at_13 (by decide) ?_
  refine v_iret dX3_at_18 rfl ?_
  exact ⟨rfl, rfl⟩
set_option maxRecDepth 100000 in
theorem c_atO {i n : Nat} {x : Int32} (ar : AR 10 i n) (hx : x < 0 ∨ nI n ≤ x) : V kX3_at (rt (.int (-9)) M) M 0 [(0, .ref i), (1, .int x)] [] := by
  have hn := ar_sz ar
  refine v_iload_n dX3_at_0 rfl ?_
  refine v_if_lt (tgt := 16) dX3_at_1 (by decide) (fun c1 => ?_) (fun c1 => ?_)
  · refine v_bipush (v := (-9)) dX3_at_16 (by decide) ?_
    refine v_iret dX3_at_18 rfl ?_
    exact ⟨rfl, rfl⟩
  · refine v_iload_n dX3_at_4 rfl ?_
    refine v_aload_n dX3_at_5 rfl ?_
    refine v_alen (t := 10) (n := n) dX3_at_6 ar (by decide) ?_
    refine v_icmp_ge (tgt := 16) dX3_at_7 (by decide) (fun c7 => ?_) (fun c7 => (absurd hx (fun q => q.elim c1 c7)))
    refine v_bipush (v := (-9)) dX3_at_16 (by decide) ?_
    refine v_iret dX3_at_18 rfl ?_
    exact ⟨rfl, rfl⟩
set_option maxRecDepth 100000 in
theorem c_hasBit (s : Int32) {n : Nat} (hn : n < 16) : V kX3_hasBit (rt (.int (bI (bt s n = true))) M) M 0 [(0, .int s), (1, .int (nI n))] [] := by
  refine v_iload_n dX3_hasBit_0 rfl ?_
  refine v_ifN_lt (tgt := 22) dX3_hasBit_1 (by decide) (by omega) ?_
  refine v_iload_n dX3_hasBit_4 rfl ?_
  refine v_bipush (v := (nI 16)) dX3_hasBit_5 rfl ?_
  refine v_icmpN_ge (tgt := 22) dX3_hasBit_7 (by decide) (by omega) (by omega) (fun c7 => (by omega)) (fun c7 => ?_)
  refine v_iload_n dX3_hasBit_10 rfl ?_
  refine v_iload_n dX3_hasBit_11 rfl ?_
  refine v_ishr dX3_hasBit_12 ?_
  refine v_iconst (v := (nI 1)) dX3_hasBit_13 rfl ?_
  refine v_iand dX3_hasBit_14 ?_
  refine v_if_eq (tgt := 22) dX3_hasBit_15 (by decide) (fun c15 => ?_) (fun c15 => ?_)
  · refine v_iconst (v := (nI 0)) dX3_hasBit_22 rfl ?_
    refine v_zret dX3_hasBit_23 rfl (Or.inl rfl) ?_
    refine ⟨?_, rfl⟩
    rw [bI_f (fun q => (sh_non s (by omega)).mpr q c15)]; rfl
  · refine v_iconst (v := (nI 1)) dX3_hasBit_18 rfl ?_
    refine v_goto (tgt := 23) dX3_hasBit_19 (by decide) ?_
    refine v_zret dX3_hasBit_23 rfl (Or.inr rfl) ?_
    refine ⟨?_, rfl⟩
    rw [bI_t ((sh_non s (by omega)).mp c15)]; rfl
set_option maxRecDepth 100000 in
theorem c_hasBitO (s : Int32) {x : Int32} (hx : x < 0 ∨ nI 16 ≤ x) : V kX3_hasBit (rt (.int (nI 0)) M) M 0 [(0, .int s), (1, .int x)] [] := by
  refine v_iload_n dX3_hasBit_0 rfl ?_
  refine v_if_lt (tgt := 22) dX3_hasBit_1 (by decide) (fun c1 => ?_) (fun c1 => ?_)
  · refine v_iconst (v := (nI 0)) dX3_hasBit_22 rfl ?_
    refine v_zret dX3_hasBit_23 rfl (Or.inl rfl) ?_
    exact ⟨rfl, rfl⟩
  · refine v_iload_n dX3_hasBit_4 rfl ?_
    refine v_bipush (v := (nI 16)) dX3_hasBit_5 rfl ?_
    refine v_icmp_ge (tgt := 22) dX3_hasBit_7 (by decide) (fun c7 => ?_) (fun c7 => (absurd hx (fun q => q.elim c1 c7)))
    refine v_iconst (v := (nI 0)) dX3_hasBit_22 rfl ?_
    refine v_zret dX3_hasBit_23 rfl (Or.inl rfl) ?_
    exact ⟨rfl, rfl⟩
set_option maxRecDepth 100000 in
theorem c_cNode (hc : c = 4 ∨ c = 14) (h : CIR0 M c T) (hW : WF T) {n : Nat} (hn : n < nN T) : V kX0_isNode (rt (.int (nI 1)) M) M 0 [(0, .ref c), (1, .int (nI n))] [] := by
  have h16 := hW.n16
  refine v_iload_n dX0_isNode_0 rfl ?_
  refine v_ifN_lt (tgt := 16) dX0_isNode_1 (by decide) (by omega) ?_
  refine v_iload_n dX0_isNode_4 rfl ?_
  refine v_aload_n dX0_isNode_5 rfl ?_
  refine v_getI2 (y := (nI (nN T))) dX0_isNode_6 fl_X0_47 (ob_c hc) rfl (h.nd) ?_
  refine v_icmpN_ge (tgt := 16) dX0_isNode_9 (by decide) (by omega) (by omega) (fun c9 => (by omega)) (fun c9 => ?_)
  refine v_iconst (v := (nI 1)) dX0_isNode_12 rfl ?_
  refine v_goto (tgt := 17) dX0_isNode_13 (by decide) ?_
  refine v_zret dX0_isNode_17 rfl (Or.inr rfl) ?_
  exact ⟨rfl, rfl⟩
set_option maxRecDepth 100000 in
theorem c_cNode0 (hc : c = 4 ∨ c = 14) (h : CIR0 M c T) (hW : WF T) {x : Int32} (hx : ¬ isN T x) : V kX0_isNode (rt (.int (nI 0)) M) M 0 [(0, .ref c), (1, .int x)] [] := by
  have h16 := hW.n16
  refine v_iload_n dX0_isNode_0 rfl ?_
  refine v_if_lt (tgt := 16) dX0_isNode_1 (by decide) (fun c1 => ?_) (fun c1 => ?_)
  · refine v_iconst (v := (nI 0)) dX0_isNode_16 rfl ?_
    refine v_zret dX0_isNode_17 rfl (Or.inl rfl) ?_
    exact ⟨rfl, rfl⟩
  · refine v_iload_n dX0_isNode_4 rfl ?_
    refine v_aload_n dX0_isNode_5 rfl ?_
    refine v_getI2 (y := (nI (nN T))) dX0_isNode_6 fl_X0_47 (ob_c hc) rfl (h.nd) ?_
    refine v_icmp_ge (tgt := 16) dX0_isNode_9 (by decide) (fun c9 => ?_) (fun c9 => (absurd ⟨Int32.not_lt.mp c1, Int32.not_le.mp c9⟩ hx))
    refine v_iconst (v := (nI 0)) dX0_isNode_16 rfl ?_
    refine v_zret dX0_isNode_17 rfl (Or.inl rfl) ?_
    exact ⟨rfl, rfl⟩
set_option maxRecDepth 100000 in
theorem c_cOf (hc : c = 4 ∨ c = 14) (h : CIR0 M c T) (hW : WF T) {n w : Nat} (hn : n < nN T) (hw : w < 2 ^ 31) : V kX0_isOf (rt (.int (bI (so T n = w))) M) M 0 [(0, .ref c), (1, .int (nI n)), (2, .int (nI w))] [] := by
  have h16 := hW.n16
  refine v_iload_n dX0_isOf_0 rfl ?_
  refine v_ifN_lt (tgt := 26) dX0_isOf_1 (by decide) (by omega) ?_
  refine v_iload_n dX0_isOf_4 rfl ?_
  refine v_aload_n dX0_isOf_5 rfl ?_
  refine v_getI2 (y := (nI (nN T))) dX0_isOf_6 fl_X0_47 (ob_c hc) rfl (h.nd) ?_
  refine v_icmpN_ge (tgt := 26) dX0_isOf_9 (by decide) (by omega) (by omega) (fun c9 => (by omega)) (fun c9 => ?_)
  refine v_aload_n dX0_isOf_12 rfl ?_
  refine v_getR (t := c + 1) dX0_isOf_13 fl_X0_9 (ob_c hc) rfl rfl ?_
  refine v_iload_n dX0_isOf_16 rfl ?_
  refine v_iald2 (n := 16) (a := n) (y := (nI (so T n))) dX0_isOf_17 (ar_c1 hc) (rfl) (by omega) (h.wh hn) ?_
  refine v_iload_n dX0_isOf_18 rfl ?_
  refine v_icmpN_ne (tgt := 26) dX0_isOf_19 (by decide) (by have := hW.so5 hn; omega) (by omega) (fun c19 => ?_) (fun c19 => ?_)
  · refine v_iconst (v := (nI 0)) dX0_isOf_26 rfl ?_
    refine v_zret dX0_isOf_27 rfl (Or.inl rfl) ?_
    refine ⟨?_, rfl⟩
    rw [bI_f (by omega)]; rfl
  · refine v_iconst (v := (nI 1)) dX0_isOf_22 rfl ?_
    refine v_goto (tgt := 27) dX0_isOf_23 (by decide) ?_
    refine v_zret dX0_isOf_27 rfl (Or.inr rfl) ?_
    refine ⟨?_, rfl⟩
    rw [bI_t (by omega)]; rfl
set_option maxRecDepth 100000 in
theorem c_cOf0 (hc : c = 4 ∨ c = 14) (h : CIR0 M c T) (hW : WF T) {x : Int32} {w : Nat} (hx : ¬ isN T x) : V kX0_isOf (rt (.int (nI 0)) M) M 0 [(0, .ref c), (1, .int x), (2, .int (nI w))] [] := by
  have h16 := hW.n16
  refine v_iload_n dX0_isOf_0 rfl ?_
  refine v_if_lt (tgt := 26) dX0_isOf_1 (by decide) (fun c1 => ?_) (fun c1 => ?_)
  · refine v_iconst (v := (nI 0)) dX0_isOf_26 rfl ?_
    refine v_zret dX0_isOf_27 rfl (Or.inl rfl) ?_
    exact ⟨rfl, rfl⟩
  · refine v_iload_n dX0_isOf_4 rfl ?_
    refine v_aload_n dX0_isOf_5 rfl ?_
    refine v_getI2 (y := (nI (nN T))) dX0_isOf_6 fl_X0_47 (ob_c hc) rfl (h.nd) ?_
    refine v_icmp_ge (tgt := 26) dX0_isOf_9 (by decide) (fun c9 => ?_) (fun c9 => (absurd ⟨Int32.not_lt.mp c1, Int32.not_le.mp c9⟩ hx))
    refine v_iconst (v := (nI 0)) dX0_isOf_26 rfl ?_
    refine v_zret dX0_isOf_27 rfl (Or.inl rfl) ?_
    exact ⟨rfl, rfl⟩
set_option maxRecDepth 100000 in
theorem c_cLeaf (hc : c = 4 ∨ c = 14) (h : CIR0 M c T) (hW : WF T) {n : Nat} (hn : n < nN T) : V kX0_isLeaf (rt (.int (bI (so T n ≤ 1))) M) M 0 [(0, .ref c), (1, .int (nI n))] [] := by
  have h16 := hW.n16
  refine v_iload_n dX0_isLeaf_0 rfl ?_
  refine v_ifN_lt (tgt := 35) dX0_isLeaf_1 (by decide) (by omega) ?_
  refine v_iload_n dX0_isLeaf_4 rfl ?_
  refine v_aload_n dX0_isLeaf_5 rfl ?_
  refine v_getI2 (y := (nI (nN T))) dX0_isLeaf_6 fl_X0_47 (ob_c hc) rfl (h.nd) ?_
  refine v_icmpN_ge (tgt := 35) dX0_isLeaf_9 (by decide) (by omega) (by omega) (fun c9 => (by omega)) (fun c9 => ?_)
  refine v_aload_n dX0_isLeaf_12 rfl ?_
  refine v_getR (t := c + 1) dX0_isLeaf_13 fl_X0_9 (ob_c hc) rfl rfl ?_
  refine v_iload_n dX0_isLeaf_16 rfl ?_
  refine v_iald2 (n := 16) (a := n) (y := (nI (so T n))) dX0_isLeaf_17 (ar_c1 hc) (rfl) (by omega) (h.wh hn) ?_
  refine v_ifN_eq (tgt := 31) dX0_isLeaf_18 (by decide) (by have := hW.so5 hn; omega) (fun c18 => ?_) (fun c18 => ?_)
  · refine v_iconst (v := (nI 1)) dX0_isLeaf_31 rfl ?_
    refine v_goto (tgt := 36) dX0_isLeaf_32 (by decide) ?_
    refine v_zret dX0_isLeaf_36 rfl (Or.inr rfl) ?_
    refine ⟨?_, rfl⟩
    rw [bI_t (by omega)]; rfl
  · refine v_aload_n dX0_isLeaf_21 rfl ?_
    refine v_getR (t := c + 1) dX0_isLeaf_22 fl_X0_9 (ob_c hc) rfl rfl ?_
    refine v_iload_n dX0_isLeaf_25 rfl ?_
    refine v_iald2 (n := 16) (a := n) (y := (nI (so T n))) dX0_isLeaf_26 (ar_c1 hc) (rfl) (by omega) (h.wh hn) ?_
    refine v_iconst (v := (nI 1)) dX0_isLeaf_27 rfl ?_
    refine v_icmpN_ne (tgt := 35) dX0_isLeaf_28 (by decide) (by have := hW.so5 hn; omega) (by omega) (fun c28 => ?_) (fun c28 => ?_)
    · refine v_iconst (v := (nI 0)) dX0_isLeaf_35 rfl ?_
      refine v_zret dX0_isLeaf_36 rfl (Or.inl rfl) ?_
      refine ⟨?_, rfl⟩
      rw [bI_f (by omega)]; rfl
    · refine v_iconst (v := (nI 1)) dX0_isLeaf_31 rfl ?_
      refine v_goto (tgt := 36) dX0_isLeaf_32 (by decide) ?_
      refine v_zret dX0_isLeaf_36 rfl (Or.inr rfl) ?_
      refine ⟨?_, rfl⟩
      rw [bI_t (by omega)]; rfl
set_option maxRecDepth 100000 in
theorem c_cPart (hc : c = 4 ∨ c = 14) (h : CIR0 M c T) (hW : WF T) {n k : Nat} (hn : n < nN T) (hk : k < hmF (so T n)) : V kX0_partOf (rt (.int (nI (pt T n k))) M) M 0 [(0, .ref c), (1, .int (nI n)), (2, .int (nI k))] [] := by
  have h16 := hW.n16
  have hm3 := hmF_le (so T n)
  refine v_aload_n dX0_partOf_0 rfl ?_
  refine v_getR (t := c + 3) dX0_partOf_1 fl_X0_18 (ob_c hc) rfl rfl ?_
  refine v_iload_n dX0_partOf_4 rfl ?_
  refine v_iconst (v := (nI 3)) dX0_partOf_5 rfl ?_
  refine v_imulN dX0_partOf_6 ?_
  refine v_iload_n dX0_partOf_7 rfl ?_
  refine v_iaddN dX0_partOf_8 ?_
  refine v_callSr (x := .int (nI (pt T n k))) (M1 := M) (as := [.ref (c + 3), .int (nI (n * 3 + k))]) (st := []) dX0_partOf_9 ml_X0_60 ks_X3_at ⟨(Nat.le_of_ble_eq_true rfl), (Nat.le_of_ble_eq_true rfl)⟩ rfl (Nat.le_of_ble_eq_true rfl) rfl (Nat.le_of_ble_eq_true rfl) (c_at (ar_c3 hc) (by omega) (by rw [h.pt hn (by omega), if_pos hk])) ?_
  refine v_iret dX0_partOf_12 rfl ?_
  exact ⟨rfl, rfl⟩
set_option maxRecDepth 100000 in
theorem c_cPartO (hc : c = 4 ∨ c = 14) (h : CIR0 M c T) (hW : WF T) {n k : Nat} (hn : n < nN T) (hk3 : k < 3) (hk : ¬ k < hmF (so T n)) : V kX0_partOf (rt (.int (-9)) M) M 0 [(0, .ref c), (1, .int (nI n)), (2, .int (nI k))] [] := by
  have h16 := hW.n16
  refine v_aload_n dX0_partOf_0 rfl ?_
  refine v_getR (t := c + 3) dX0_partOf_1 fl_X0_18 (ob_c hc) rfl rfl ?_
  refine v_iload_n dX0_partOf_4 rfl ?_
  refine v_iconst (v := (nI 3)) dX0_partOf_5 rfl ?_
  refine v_imulN dX0_partOf_6 ?_
  refine v_iload_n dX0_partOf_7 rfl ?_
  refine v_iaddN dX0_partOf_8 ?_
  refine v_callSr (x := .int ((-9))) (M1 := M) (as := [.ref (c + 3), .int (nI (n * 3 + k))]) (st := []) dX0_partOf_9 ml_X0_60 ks_X3_at ⟨(Nat.le_of_ble_eq_true rfl), (Nat.le_of_ble_eq_true rfl)⟩ rfl (Nat.le_of_ble_eq_true rfl) rfl (Nat.le_of_ble_eq_true rfl) (c_at (ar_c3 hc) (by omega) (by rw [h.pt hn hk3, if_neg hk])) ?_
  refine v_iret dX0_partOf_12 rfl ?_
  exact ⟨rfl, rfl⟩
set_option maxRecDepth 100000 in
theorem c_cPer (hc : c = 4 ∨ c = 14) (h : CIR0 M c T) (hW : WF T) {j : Nat} (hj : j < 3) : V kX0_periodOf (rt (.int (nI (pe T j))) M) M 0 [(0, .ref c), (1, .int (nI j))] [] := by
  have h16 := hW.n16
  have hpe := hW.2.2.2.2.2.2.2 j hj
  refine v_aload_n dX0_periodOf_0 rfl ?_
  refine v_getR (t := c + 9) dX0_periodOf_1 fl_X0_44 (ob_c hc) rfl rfl ?_
  refine v_iload_n dX0_periodOf_4 rfl ?_
  refine v_callSr (x := .int (nI (pe T j))) (M1 := M) (as := [.ref (c + 9), .int (nI j)]) (st := []) dX0_periodOf_5 ml_X0_60 ks_X3_at ⟨(Nat.le_of_ble_eq_true rfl), (Nat.le_of_ble_eq_true rfl)⟩ rfl (Nat.le_of_ble_eq_true rfl) rfl (Nat.le_of_ble_eq_true rfl) (c_at (ar_c9 hc) (by omega) (h.pe hj)) ?_
  refine v_istore_n (lv' := [(0, .ref c), (1, .int (nI j)), (2, .int (nI (pe T j)))]) dX0_periodOf_8 (Nat.le_of_ble_eq_true rfl) rfl ?_
  refine v_iload_n dX0_periodOf_9 rfl ?_
  refine v_iconst (v := (nI 1)) dX0_periodOf_10 rfl ?_
  refine v_icmpN_lt (tgt := 18) dX0_periodOf_11 (by decide) (by omega) (by omega) (fun c11 => (by omega)) (fun c11 => ?_)
  refine v_iload_n dX0_periodOf_14 rfl ?_
  refine v_goto (tgt := 19) dX0_periodOf_15 (by decide) ?_
  refine v_iret dX0_periodOf_19 rfl ?_
  exact ⟨rfl, rfl⟩
def edN (T : Nat → Int32) (tm : Int32) : Nat → Int32
  | 0 => nI 0
  | j + 1 => if rmZ tm (pe T j) = 0 then edN T tm j ||| bx j else edN T tm j
set_option maxRecDepth 100000 in
theorem l_edg (hc : c = 4 ∨ c = 14) (h : CIR0 M c T) (hW : WF T) {tm : Int32} (d : Nat) : ∀ (j : Nat), j + d = 3 → V kX0_edgesAt (rt (.int (edN T tm 3)) M) M 4 [(0, .ref c), (1, .int tm), (2, .int (edN T tm j)), (3, .int (nI j))] [] := by
  have h16 := hW.n16
  induction d with
  | zero =>
    intro j hk 
    refine v_iload_n dX0_edgesAt_4 rfl ?_
    refine v_iconst (v := (nI 3)) dX0_edgesAt_5 rfl ?_
    refine v_icmpN_ge (tgt := 31) dX0_edgesAt_6 (by decide) (by omega) (by omega) (fun c6 => ?_) (fun c6 => (by omega))
    refine v_iload_n dX0_edgesAt_31 rfl ?_
    refine v_iret dX0_edgesAt_32 rfl ?_
    refine ⟨?_, rfl⟩
    rw [show j = 3 by omega]
  | succ d ih =>
    intro j hk 
    refine v_iload_n dX0_edgesAt_4 rfl ?_
    refine v_iconst (v := (nI 3)) dX0_edgesAt_5 rfl ?_
    refine v_icmpN_ge (tgt := 31) dX0_edgesAt_6 (by decide) (by omega) (by omega) (fun c6 => (by omega)) (fun c6 => ?_)
    refine v_iload_n dX0_edgesAt_9 rfl ?_
    refine v_aload_n dX0_edgesAt_10 rfl ?_
    refine v_iload_n dX0_edgesAt_11 rfl ?_
    have hpe := hW.2.2.2.2.2.2.2 j (by omega)
    refine v_callVr (x := .int (nI (pe T j))) (M1 := M) (as := [.int (nI j)]) (st := [.int tm]) dX0_edgesAt_12 ml_X0_64 kv_X0_periodOf (ob_c hc) ⟨(Nat.le_of_ble_eq_true rfl), (Nat.le_of_ble_eq_true rfl)⟩ rfl (Nat.le_of_ble_eq_true rfl) rfl (Nat.le_of_ble_eq_true rfl) (c_cPer hc h hW (by omega)) ?_
    refine v_irem dX0_edgesAt_15 (nI_ne0 (by omega) (by omega)) ?_
    refine v_top (y := (rmZ tm (pe T j))) (rfl) ?_
    refine v_if_ne (tgt := 25) dX0_edgesAt_16 (by decide) (fun c16 => ?_) (fun c16 => ?_)
    · rw [show edN T tm j = edN T tm (j + 1) by simp only [edN]; rw [if_neg c16]]
      refine v_iincN (lv' := [(0, .ref c), (1, .int tm), (2, .int (edN T tm (j + 1))), (3, .int (nI (j + 1)))]) dX0_edgesAt_25 rfl (Nat.le_of_ble_eq_true rfl) rfl ?_
      refine v_goto (tgt := 4) dX0_edgesAt_28 (by decide) ?_
      exact ih (j + 1) (by omega)
    · refine v_iload_n dX0_edgesAt_19 rfl ?_
      refine v_iconst (v := (nI 1)) dX0_edgesAt_20 rfl ?_
      refine v_iload_n dX0_edgesAt_21 rfl ?_
      refine v_ishl dX0_edgesAt_22 ?_
      refine v_ior dX0_edgesAt_23 ?_
      refine v_top (y := (edN T tm (j + 1))) (by simp only [edN]; rw [if_pos c16]; rfl) ?_
      refine v_istore_n (lv' := [(0, .ref c), (1, .int tm), (2, .int (edN T tm (j + 1))), (3, .int (nI j))]) dX0_edgesAt_24 (Nat.le_of_ble_eq_true rfl) rfl ?_
      refine v_iincN (lv' := [(0, .ref c), (1, .int tm), (2, .int (edN T tm (j + 1))), (3, .int (nI (j + 1)))]) dX0_edgesAt_25 rfl (Nat.le_of_ble_eq_true rfl) rfl ?_
      refine v_goto (tgt := 4) dX0_edgesAt_28 (by decide) ?_
      exact ih (j + 1) (by omega)
set_option maxRecDepth 100000 in
theorem c_edges (hc : c = 4 ∨ c = 14) (h : CIR0 M c T) (hW : WF T) {tm : Int32} : V kX0_edgesAt (rt (.int (edN T tm 3)) M) M 0 [(0, .ref c), (1, .int tm)] [] := by
  have h16 := hW.n16
  refine v_iconst (v := (nI 0)) dX0_edgesAt_0 rfl ?_
  refine v_istore_n (lv' := [(0, .ref c), (1, .int tm), (2, .int (nI 0))]) dX0_edgesAt_1 (Nat.le_of_ble_eq_true rfl) rfl ?_
  refine v_iconst (v := (nI 0)) dX0_edgesAt_2 rfl ?_
  refine v_istore_n (lv' := [(0, .ref c), (1, .int tm), (2, .int (nI 0)), (3, .int (nI 0))]) dX0_edgesAt_3 (Nat.le_of_ble_eq_true rfl) rfl ?_
  exact l_edg hc h hW 3 0 (by omega)
set_option maxRecDepth 100000 in
theorem l_cks (hc : c = 4 ∨ c = 14) (h : CIR0 M c T) (hW : WF T) {s : Int32} (hs : ∀ b, b < nN T → bt s b = true → so T b ≤ 1) (d : Nat) : ∀ (k : Nat), k + d = nN T → V kX0_clocksOf (rt (.int (srcF T s)) M) M 4 [(0, .ref c), (1, .int s), (2, .int (srcN T s k)), (3, .int (nI k))] [] := by
  have h16 := hW.n16
  induction d with
  | zero =>
    intro k hk 
    refine v_iload_n dX0_clocksOf_4 rfl ?_
    refine v_aload_n dX0_clocksOf_5 rfl ?_
    refine v_getI2 (y := (nI (nN T))) dX0_clocksOf_6 fl_X0_47 (ob_c hc) rfl (h.nd) ?_
    refine v_icmpN_ge (tgt := 45) dX0_clocksOf_9 (by decide) (by omega) (by omega) (fun c9 => ?_) (fun c9 => (by omega))
    refine v_iload_n dX0_clocksOf_45 rfl ?_
    refine v_iret dX0_clocksOf_46 rfl ?_
    refine ⟨?_, rfl⟩
    rw [show k = nN T by omega]; rfl
  | succ d ih =>
    intro k hk 
    refine v_iload_n dX0_clocksOf_4 rfl ?_
    refine v_aload_n dX0_clocksOf_5 rfl ?_
    refine v_getI2 (y := (nI (nN T))) dX0_clocksOf_6 fl_X0_47 (ob_c hc) rfl (h.nd) ?_
    refine v_icmpN_ge (tgt := 45) dX0_clocksOf_9 (by decide) (by omega) (by omega) (fun c9 => (by omega)) (fun c9 => ?_)
    refine v_iload_n dX0_clocksOf_12 rfl ?_
    refine v_iload_n dX0_clocksOf_13 rfl ?_
    refine v_callSr (x := .int (bI (bt s k = true))) (M1 := M) (as := [.int s, .int (nI k)]) (st := []) dX0_clocksOf_14 ml_X0_101 ks_X3_hasBit ⟨(Nat.le_of_ble_eq_true rfl), (Nat.le_of_ble_eq_true rfl)⟩ rfl (Nat.le_of_ble_eq_true rfl) rfl (Nat.le_of_ble_eq_true rfl) (c_hasBit _ (by omega)) ?_
    refine v_ifB_eq (tgt := 39) dX0_clocksOf_17 (by decide) (fun c17 => ?_) (fun c17 => ?_)
    · rw [show srcN T s k = srcN T s (k + 1) by
        simp only [srcN]
        rw [if_neg (by first | exact c17 | exact fun q => c25 (hs k (by omega) q))]
        apply b_ext; intro i hi; rw [b_or, show bt (nI 0) i = false from b_0 i]; simp]
      refine v_iincN (lv' := [(0, .ref c), (1, .int s), (2, .int (srcN T s (k + 1))), (3, .int (nI (k + 1)))]) dX0_clocksOf_39 rfl (Nat.le_of_ble_eq_true rfl) rfl ?_
      refine v_goto (tgt := 4) dX0_clocksOf_42 (by decide) ?_
      exact ih (k + 1) (by omega)
    · refine v_aload_n dX0_clocksOf_20 rfl ?_
      refine v_iload_n dX0_clocksOf_21 rfl ?_
      refine v_callVr (x := .int (bI (so T k ≤ 1))) (M1 := M) (as := [.int (nI k)]) (st := []) dX0_clocksOf_22 ml_X0_72 kv_X0_isLeaf (ob_c hc) ⟨(Nat.le_of_ble_eq_true rfl), (Nat.le_of_ble_eq_true rfl)⟩ rfl (Nat.le_of_ble_eq_true rfl) rfl (Nat.le_of_ble_eq_true rfl) (c_cLeaf hc h hW (by omega)) ?_
      refine v_ifB_eq (tgt := 39) dX0_clocksOf_25 (by decide) (fun c25 => ?_) (fun c25 => ?_)
      · rw [show srcN T s k = srcN T s (k + 1) by
          simp only [srcN]
          rw [if_neg (by first | exact c17 | exact fun q => c25 (hs k (by omega) q))]
          apply b_ext; intro i hi; rw [b_or, show bt (nI 0) i = false from b_0 i]; simp]
        refine v_iincN (lv' := [(0, .ref c), (1, .int s), (2, .int (srcN T s (k + 1))), (3, .int (nI (k + 1)))]) dX0_clocksOf_39 rfl (Nat.le_of_ble_eq_true rfl) rfl ?_
        refine v_goto (tgt := 4) dX0_clocksOf_42 (by decide) ?_
        exact ih (k + 1) (by omega)
      · refine v_iload_n dX0_clocksOf_28 rfl ?_
        refine v_iconst (v := (nI 1)) dX0_clocksOf_29 rfl ?_
        refine v_aload_n dX0_clocksOf_30 rfl ?_
        refine v_getR (t := c + 2) dX0_clocksOf_31 fl_X0_15 (ob_c hc) rfl rfl ?_
        refine v_iload_n dX0_clocksOf_34 rfl ?_
        refine v_iald2 (n := 16) (a := k) (y := (nI (ck T k))) dX0_clocksOf_35 (ar_c2 hc) (rfl) (by omega) (cir_ckL h (by omega) c25) ?_
        refine v_ishl dX0_clocksOf_36 ?_
        refine v_ior dX0_clocksOf_37 ?_
        refine v_top (y := (srcN T s (k + 1))) (by simp [srcN, bx, c17]) ?_
        refine v_istore_n (lv' := [(0, .ref c), (1, .int s), (2, .int (srcN T s (k + 1))), (3, .int (nI k))]) dX0_clocksOf_38 (Nat.le_of_ble_eq_true rfl) rfl ?_
        refine v_iincN (lv' := [(0, .ref c), (1, .int s), (2, .int (srcN T s (k + 1))), (3, .int (nI (k + 1)))]) dX0_clocksOf_39 rfl (Nat.le_of_ble_eq_true rfl) rfl ?_
        refine v_goto (tgt := 4) dX0_clocksOf_42 (by decide) ?_
        exact ih (k + 1) (by omega)
set_option maxRecDepth 100000 in
theorem c_clocks (hc : c = 4 ∨ c = 14) (h : CIR0 M c T) (hW : WF T) {s : Int32} (hs : ∀ b, b < nN T → bt s b = true → so T b ≤ 1) : V kX0_clocksOf (rt (.int (srcF T s)) M) M 0 [(0, .ref c), (1, .int s)] [] := by
  have h16 := hW.n16
  refine v_iconst (v := (nI 0)) dX0_clocksOf_0 rfl ?_
  refine v_istore_n (lv' := [(0, .ref c), (1, .int s), (2, .int (nI 0))]) dX0_clocksOf_1 (Nat.le_of_ble_eq_true rfl) rfl ?_
  refine v_iconst (v := (nI 0)) dX0_clocksOf_2 rfl ?_
  refine v_istore_n (lv' := [(0, .ref c), (1, .int s), (2, .int (nI 0)), (3, .int (nI 0))]) dX0_clocksOf_3 (Nat.le_of_ble_eq_true rfl) rfl ?_
  exact l_cks hc h hW hs (nN T) 0 (by omega)
set_option maxRecDepth 100000 in
theorem c_cCross (hc : c = 4 ∨ c = 14) (h : CIR0 M c T) (hW : WF T) {n : Nat} (hn : n < nN T) : V kX0_isCrossing (rt (.int (bI (cxB T n = true))) M) M 0 [(0, .ref c), (1, .int (nI n))] [] := by
  have h16 := hW.n16
  refine v_aload_n dX0_isCrossing_0 rfl ?_
  refine v_iload_n dX0_isCrossing_1 rfl ?_
  refine v_callVr (x := .int (nI 1)) (M1 := M) (as := [.int (nI n)]) (st := []) dX0_isCrossing_2 ml_X0_68 kv_X0_isNode (ob_c hc) ⟨(Nat.le_of_ble_eq_true rfl), (Nat.le_of_ble_eq_true rfl)⟩ rfl (Nat.le_of_ble_eq_true rfl) rfl (Nat.le_of_ble_eq_true rfl) (c_cNode hc h hW (by omega)) ?_
  refine v_ifN_eq (tgt := 21) dX0_isCrossing_5 (by decide) (by decide) (fun c5 => (absurd c5 (by decide))) (fun c5 => ?_)
  refine v_aload_n dX0_isCrossing_8 rfl ?_
  refine v_getR (t := c + 6) dX0_isCrossing_9 fl_X0_27 (ob_c hc) rfl rfl ?_
  refine v_iload_n dX0_isCrossing_12 rfl ?_
  refine v_iald2 (n := 16) (a := n) (y := (if so T n = 1 then frF T n else nI 0)) dX0_isCrossing_13 (ar_c6 hc) (rfl) (by omega) (h.fr hn) ?_
  refine v_if_eq (tgt := 21) dX0_isCrossing_14 (by decide) (fun c14 => ?_) (fun c14 => ?_)
  · refine v_iconst (v := (nI 0)) dX0_isCrossing_21 rfl ?_
    refine v_zret dX0_isCrossing_22 rfl (Or.inl rfl) ?_
    refine ⟨?_, rfl⟩
    by_cases h1 : so T n = 1
    · rw [if_pos h1] at c14; rw [bI_f (by simp [cxB, h1, c14])]; rfl
    · rw [if_neg h1] at c14; rw [bI_f (by simp [cxB, h1])]; rfl
  · refine v_iconst (v := (nI 1)) dX0_isCrossing_17 rfl ?_
    refine v_goto (tgt := 22) dX0_isCrossing_18 (by decide) ?_
    refine v_zret dX0_isCrossing_22 rfl (Or.inr rfl) ?_
    refine ⟨?_, rfl⟩
    by_cases h1 : so T n = 1
    · rw [if_pos h1] at c14; rw [bI_t (by simp [cxB, h1, c14])]; rfl
    · rw [if_neg h1] at c14; exact absurd rfl c14
def cdB (T : Nat → Int32) (n : Nat) : Bool := decide (so T n = 1) && dirF T n
theorem bt_00 (b : Nat) : bt (nI 0) b = false := b_0 b
set_option maxRecDepth 100000 in
theorem c_cDir1 (hc : c = 4 ∨ c = 14) (h : CIR0 M c T) (hW : WF T) {n : Nat} (hn : n < nN T) (h1 : so T n = 1) : V kX0_isDirect (rt (.int (bI (cdB T n = true))) M) M 0 [(0, .ref c), (1, .int (nI n))] [] := by
  have h16 := hW.n16
  have hp := hW.ptlt hn (show 0 < hmF (so T n) by rw [h1]; decide)
  have hpt := h.pt hn (show 0 < 3 by decide)
  rw [if_pos (by rw [h1]; decide)] at hpt
  refine v_aload_n dX0_isDirect_0 rfl ?_
  refine v_iload_n dX0_isDirect_1 rfl ?_
  refine v_callVr (x := .int (nI 1)) (M1 := M) (as := [.int (nI n)]) (st := []) dX0_isDirect_2 ml_X0_68 kv_X0_isNode (ob_c hc) ⟨(Nat.le_of_ble_eq_true rfl), (Nat.le_of_ble_eq_true rfl)⟩ rfl (Nat.le_of_ble_eq_true rfl) rfl (Nat.le_of_ble_eq_true rfl) (c_cNode hc h hW (by omega)) ?_
  refine v_ifN_eq (tgt := 32) dX0_isDirect_5 (by decide) (by decide) (fun c5 => (absurd c5 (by decide))) (fun c5 => ?_)
  refine v_aload_n dX0_isDirect_8 rfl ?_
  refine v_getR (t := c + 6) dX0_isDirect_9 fl_X0_27 (ob_c hc) rfl rfl ?_
  refine v_iload_n dX0_isDirect_12 rfl ?_
  refine v_iald2 (n := 16) (a := n) (y := (frF T n)) dX0_isDirect_13 (ar_c6 hc) (rfl) (by omega) (by rw [h.fr hn, if_pos h1]) ?_
  refine v_aload_n dX0_isDirect_14 rfl ?_
  refine v_getR (t := c + 3) dX0_isDirect_15 fl_X0_18 (ob_c hc) rfl rfl ?_
  refine v_iload_n dX0_isDirect_18 rfl ?_
  refine v_iconst (v := (nI 3)) dX0_isDirect_19 rfl ?_
  refine v_imulN dX0_isDirect_20 ?_
  refine v_iald2 (n := 48) (a := n * 3) (y := (nI (pt T n 0))) dX0_isDirect_21 (ar_c3 hc) (rfl) (by omega) (hpt) ?_
  refine v_callSr (x := .int (bI (bt ((frF T n)) (pt T n 0) = true))) (M1 := M) (as := [.int (frF T n), .int (nI (pt T n 0))]) (st := []) dX0_isDirect_22 ml_X0_101 ks_X3_hasBit ⟨(Nat.le_of_ble_eq_true rfl), (Nat.le_of_ble_eq_true rfl)⟩ rfl (Nat.le_of_ble_eq_true rfl) rfl (Nat.le_of_ble_eq_true rfl) (c_hasBit _ (by omega)) ?_
  refine v_ifB_eq (tgt := 32) dX0_isDirect_25 (by decide) (fun c25 => ?_) (fun c25 => ?_)
  · refine v_iconst (v := (nI 0)) dX0_isDirect_32 rfl ?_
    refine v_zret dX0_isDirect_33 rfl (Or.inl rfl) ?_
    refine ⟨?_, rfl⟩
    rw [bI_f (by unfold cdB dirF; simp [h1, c25])]; rfl
  · refine v_iconst (v := (nI 1)) dX0_isDirect_28 rfl ?_
    refine v_goto (tgt := 33) dX0_isDirect_29 (by decide) ?_
    refine v_zret dX0_isDirect_33 rfl (Or.inr rfl) ?_
    refine ⟨?_, rfl⟩
    rw [bI_t (by unfold cdB dirF; simp [h1, c25])]; rfl
set_option maxRecDepth 100000 in
theorem c_bit0 (x : Int32) : V kX3_hasBit (rt (.int (nI 0)) M) M 0 [(0, .int (nI 0)), (1, .int x)] [] := by
  have hz : nI 0 >>> (x &&& 31) &&& nI 1 = 0 := by
    have e : (0 : Int32) >>> (x &&& 31) = 0 := Int32.zero_shiftRight
    show (0 : Int32) >>> (x &&& 31) &&& nI 1 = 0
    rw [e]; rfl
  refine v_iload_n dX3_hasBit_0 rfl ?_
  refine v_if_lt (tgt := 22) dX3_hasBit_1 (by decide) (fun c1 => ?_) (fun c1 => ?_)
  · refine v_iconst (v := (nI 0)) dX3_hasBit_22 rfl ?_
    refine v_zret dX3_hasBit_23 rfl (Or.inl rfl) ?_
    exact ⟨rfl, rfl⟩
  · refine v_iload_n dX3_hasBit_4 rfl ?_
    refine v_bipush (v := (nI 16)) dX3_hasBit_5 rfl ?_
    refine v_icmp_ge (tgt := 22) dX3_hasBit_7 (by decide) (fun c7 => ?_) (fun c7 => ?_)
    · refine v_iconst (v := (nI 0)) dX3_hasBit_22 rfl ?_
      refine v_zret dX3_hasBit_23 rfl (Or.inl rfl) ?_
      exact ⟨rfl, rfl⟩
    · refine v_iload_n dX3_hasBit_10 rfl ?_
      refine v_iload_n dX3_hasBit_11 rfl ?_
      refine v_ishr dX3_hasBit_12 ?_
      refine v_iconst (v := (nI 1)) dX3_hasBit_13 rfl ?_
      refine v_iand dX3_hasBit_14 ?_
      refine v_if_eq (tgt := 22) dX3_hasBit_15 (by decide) (fun c15 => ?_) (fun c15 => (absurd hz c15))
      refine v_iconst (v := (nI 0)) dX3_hasBit_22 rfl ?_
      refine v_zret dX3_hasBit_23 rfl (Or.inl rfl) ?_
      exact ⟨rfl, rfl⟩
set_option maxRecDepth 100000 in
theorem c_cDir0 (hc : c = 4 ∨ c = 14) (h : CIR0 M c T) (hW : WF T) {n : Nat} (hn : n < nN T) (h1 : ¬ so T n = 1) : V kX0_isDirect (rt (.int (bI (cdB T n = true))) M) M 0 [(0, .ref c), (1, .int (nI n))] [] := by
  have h16 := hW.n16
  refine v_aload_n dX0_isDirect_0 rfl ?_
  refine v_iload_n dX0_isDirect_1 rfl ?_
  refine v_callVr (x := .int (nI 1)) (M1 := M) (as := [.int (nI n)]) (st := []) dX0_isDirect_2 ml_X0_68 kv_X0_isNode (ob_c hc) ⟨(Nat.le_of_ble_eq_true rfl), (Nat.le_of_ble_eq_true rfl)⟩ rfl (Nat.le_of_ble_eq_true rfl) rfl (Nat.le_of_ble_eq_true rfl) (c_cNode hc h hW (by omega)) ?_
  refine v_ifN_eq (tgt := 32) dX0_isDirect_5 (by decide) (by decide) (fun c5 => (absurd c5 (by decide))) (fun c5 => ?_)
  refine v_aload_n dX0_isDirect_8 rfl ?_
  refine v_getR (t := c + 6) dX0_isDirect_9 fl_X0_27 (ob_c hc) rfl rfl ?_
  refine v_iload_n dX0_isDirect_12 rfl ?_
  refine v_iald2 (n := 16) (a := n) (y := (nI 0)) dX0_isDirect_13 (ar_c6 hc) (rfl) (by omega) (by rw [h.fr hn, if_neg h1]) ?_
  refine v_aload_n dX0_isDirect_14 rfl ?_
  refine v_getR (t := c + 3) dX0_isDirect_15 fl_X0_18 (ob_c hc) rfl rfl ?_
  refine v_iload_n dX0_isDirect_18 rfl ?_
  refine v_iconst (v := (nI 3)) dX0_isDirect_19 rfl ?_
  refine v_imulN dX0_isDirect_20 ?_
  refine v_iald (n := 48) (a := n * 3) dX0_isDirect_21 (ar_c3 hc) (rfl) (by omega) ?_
  have hbit : V kX3_hasBit (rt (.int (nI 0)) M) M 0 [(0, .int (nI 0)), (1, .int (M (c + 3) (n * 3)))] [] := c_bit0 _
  refine v_callSr (x := .int (nI 0)) (M1 := M) (as := [.int (nI 0), .int (M (c + 3) (n * 3))]) (st := []) dX0_isDirect_22 ml_X0_101 ks_X3_hasBit ⟨(Nat.le_of_ble_eq_true rfl), (Nat.le_of_ble_eq_true rfl)⟩ rfl (Nat.le_of_ble_eq_true rfl) rfl (Nat.le_of_ble_eq_true rfl) (hbit) ?_
  refine v_ifN_eq (tgt := 32) dX0_isDirect_25 (by decide) (by decide) (fun c25 => ?_) (fun c25 => (absurd rfl c25))
  refine v_iconst (v := (nI 0)) dX0_isDirect_32 rfl ?_
  refine v_zret dX0_isDirect_33 rfl (Or.inl rfl) ?_
  refine ⟨?_, rfl⟩
  rw [bI_f (by simp [cdB, h1])]; rfl
theorem c_cDir (hc : c = 4 ∨ c = 14) (h : CIR0 M c T) (hW : WF T) {n : Nat} (hn : n < nN T) : V kX0_isDirect (rt (.int (bI (cdB T n = true))) M) M 0 [(0, .ref c), (1, .int (nI n))] [] := by
  by_cases h1 : so T n = 1
  · exact c_cDir1 hc h hW hn h1
  · exact c_cDir0 hc h hW hn h1
set_option maxRecDepth 100000 in
theorem c_cPass (hc : c = 4 ∨ c = 14) (h : CIR0 M c T) (hW : WF T) {n k : Nat} (hn : n < nN T) (hk : k < 2 ^ 31) : V kX0_passes (rt (.int (bI (psB T k n = true))) M) M 0 [(0, .ref c), (1, .int (nI n)), (2, .int (nI k))] [] := by
  have h16 := hW.n16
  refine v_aload_n dX0_passes_0 rfl ?_
  refine v_iload_n dX0_passes_1 rfl ?_
  refine v_callVr (x := .int (bI (so T n ≤ 1))) (M1 := M) (as := [.int (nI n)]) (st := []) dX0_passes_2 ml_X0_72 kv_X0_isLeaf (ob_c hc) ⟨(Nat.le_of_ble_eq_true rfl), (Nat.le_of_ble_eq_true rfl)⟩ rfl (Nat.le_of_ble_eq_true rfl) rfl (Nat.le_of_ble_eq_true rfl) (c_cLeaf hc h hW (by omega)) ?_
  refine v_ifB_eq (tgt := 29) dX0_passes_5 (by decide) (fun c5 => ?_) (fun c5 => ?_)
  · refine v_iconst (v := (nI 1)) dX0_passes_29 rfl ?_
    refine v_goto (tgt := 34) dX0_passes_30 (by decide) ?_
    refine v_zret dX0_passes_34 rfl (Or.inr rfl) ?_
    refine ⟨?_, rfl⟩
    rw [bI_t (by simp [psB]; omega)]; rfl
  · refine v_aload_n dX0_passes_8 rfl ?_
    refine v_iload_n dX0_passes_9 rfl ?_
    refine v_iconst (v := (nI 1)) dX0_passes_10 rfl ?_
    refine v_callVr (x := .int (bI (so T n = 1))) (M1 := M) (as := [.int (nI n), .int (nI 1)]) (st := []) dX0_passes_11 ml_X0_97 kv_X0_isOf (ob_c hc) ⟨(Nat.le_of_ble_eq_true rfl), (Nat.le_of_ble_eq_true rfl)⟩ rfl (Nat.le_of_ble_eq_true rfl) rfl (Nat.le_of_ble_eq_true rfl) (c_cOf hc h hW (by omega) (by omega)) ?_
    refine v_ifB_eq (tgt := 33) dX0_passes_14 (by decide) (fun c14 => ?_) (fun c14 => ?_)
    · refine v_iconst (v := (nI 0)) dX0_passes_33 rfl ?_
      refine v_zret dX0_passes_34 rfl (Or.inl rfl) ?_
      refine ⟨?_, rfl⟩
      rw [bI_f (by simp [psB]; omega)]; rfl
    · refine v_aload_n dX0_passes_17 rfl ?_
      refine v_getR (t := c + 2) dX0_passes_18 fl_X0_15 (ob_c hc) rfl rfl ?_
      refine v_iload_n dX0_passes_21 rfl ?_
      refine v_callSr (x := .int (nI (ck T n))) (M1 := M) (as := [.ref (c + 2), .int (nI n)]) (st := []) dX0_passes_22 ml_X0_60 ks_X3_at ⟨(Nat.le_of_ble_eq_true rfl), (Nat.le_of_ble_eq_true rfl)⟩ rfl (Nat.le_of_ble_eq_true rfl) rfl (Nat.le_of_ble_eq_true rfl) (c_at (ar_c2 hc) (by omega) (cir_ckL h hn c5)) ?_
      refine v_iload_n dX0_passes_25 rfl ?_
      refine v_icmpN_ne (tgt := 33) dX0_passes_26 (by decide) (by have := hW.ck2 hn; omega) (by omega) (fun c26 => ?_) (fun c26 => ?_)
      · refine v_iconst (v := (nI 0)) dX0_passes_33 rfl ?_
        refine v_zret dX0_passes_34 rfl (Or.inl rfl) ?_
        refine ⟨?_, rfl⟩
        rw [bI_f (by simp [psB]; omega)]; rfl
      · refine v_iconst (v := (nI 1)) dX0_passes_29 rfl ?_
        refine v_goto (tgt := 34) dX0_passes_30 (by decide) ?_
        refine v_zret dX0_passes_34 rfl (Or.inr rfl) ?_
        refine ⟨?_, rfl⟩
        rw [bI_t (by simp [psB]; omega)]; rfl
end C38
