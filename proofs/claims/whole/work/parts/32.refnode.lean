section R32
variable {M M0 : vM} {tx : Nat → Int32} {t : Nat}
set_option maxRecDepth 100000 in
theorem c_sortOf {c : Nat} (hc : c < 256) : V kX4_sortOf (rt (.int (oI (soO c))) M) M 0 [(0, .int (nI c))] [] := by
  refine v_iload_n dX4_sortOf_0 rfl ?_
  refine v_bipush (v := (nI 105)) dX4_sortOf_1 rfl ?_
  refine v_icmpN_ne (tgt := 10) dX4_sortOf_3 (by decide) (by omega) (by omega) (fun c3 => ?_) (fun c3 => ?_)
  · refine v_iload_n dX4_sortOf_10 rfl ?_
    refine v_bipush (v := (nI 114)) dX4_sortOf_11 rfl ?_
    refine v_icmpN_ne (tgt := 20) dX4_sortOf_13 (by decide) (by omega) (by omega) (fun c13 => ?_) (fun c13 => ?_)
    · refine v_iload_n dX4_sortOf_20 rfl ?_
      refine v_bipush (v := (nI 97)) dX4_sortOf_21 rfl ?_
      refine v_icmpN_ne (tgt := 30) dX4_sortOf_23 (by decide) (by omega) (by omega) (fun c23 => ?_) (fun c23 => ?_)
      · refine v_iload_n dX4_sortOf_30 rfl ?_
        refine v_bipush (v := (nI 111)) dX4_sortOf_31 rfl ?_
        refine v_icmpN_ne (tgt := 40) dX4_sortOf_33 (by decide) (by omega) (by omega) (fun c33 => ?_) (fun c33 => ?_)
        · refine v_iload_n dX4_sortOf_40 rfl ?_
          refine v_bipush (v := (nI 120)) dX4_sortOf_41 rfl ?_
          refine v_icmpN_ne (tgt := 50) dX4_sortOf_43 (by decide) (by omega) (by omega) (fun c43 => ?_) (fun c43 => ?_)
          · refine v_iload_n dX4_sortOf_50 rfl ?_
            refine v_bipush (v := (nI 109)) dX4_sortOf_51 rfl ?_
            refine v_icmpN_ne (tgt := 60) dX4_sortOf_53 (by decide) (by omega) (by omega) (fun c53 => ?_) (fun c53 => ?_)
            · refine v_bipush (v := (-9)) dX4_sortOf_60 (by decide) ?_
              refine v_iret dX4_sortOf_62 rfl ?_
              refine ⟨?_, rfl⟩
              simp [soO, oI, *]
            · refine v_iconst (v := (nI 5)) dX4_sortOf_56 rfl ?_
              refine v_goto (tgt := 62) dX4_sortOf_57 (by decide) ?_
              refine v_iret dX4_sortOf_62 rfl ?_
              refine ⟨?_, rfl⟩
              simp [soO, oI, *]
          · refine v_iconst (v := (nI 4)) dX4_sortOf_46 rfl ?_
            refine v_goto (tgt := 62) dX4_sortOf_47 (by decide) ?_
            refine v_iret dX4_sortOf_62 rfl ?_
            refine ⟨?_, rfl⟩
            simp [soO, oI, *]
        · refine v_iconst (v := (nI 3)) dX4_sortOf_36 rfl ?_
          refine v_goto (tgt := 62) dX4_sortOf_37 (by decide) ?_
          refine v_iret dX4_sortOf_62 rfl ?_
          refine ⟨?_, rfl⟩
          simp [soO, oI, *]
      · refine v_iconst (v := (nI 2)) dX4_sortOf_26 rfl ?_
        refine v_goto (tgt := 62) dX4_sortOf_27 (by decide) ?_
        refine v_iret dX4_sortOf_62 rfl ?_
        refine ⟨?_, rfl⟩
        simp [soO, oI, *]
    · refine v_iconst (v := (nI 1)) dX4_sortOf_16 rfl ?_
      refine v_goto (tgt := 62) dX4_sortOf_17 (by decide) ?_
      refine v_iret dX4_sortOf_62 rfl ?_
      refine ⟨?_, rfl⟩
      simp [soO, oI, *]
  · refine v_iconst (v := (nI 0)) dX4_sortOf_6 rfl ?_
    refine v_goto (tgt := 62) dX4_sortOf_7 (by decide) ?_
    refine v_iret dX4_sortOf_62 rfl ?_
    refine ⟨?_, rfl⟩
    simp [soO, oI, *]
set_option maxRecDepth 100000 in
theorem c_told (hx : xR M0 tx t) (ho : xOK tx t) {z : pS} (hp : PS M0 M tx t z) (hW : WF z.1) : V kX4_isToldLeaf (rt (.int (bI (lfB z.1 (uF tx) t z.2.1 = true))) M) M 0 [(0, .ref 60)] [] := by
  have ht := ho.1
  have hv := tVl_b (uF tx) t z.2.1
  have h16 := hW.n16
  refine v_aload_n dX4_isToldLeaf_0 rfl ?_
  refine v_getI2 (y := (nI (tTk (uF tx) t z.2.1))) dX4_isToldLeaf_1 fl_X4_197 ⟨by decide, rfl, by decide⟩ rfl (hp.2.2.1.2.2.1) ?_
  refine v_iconst (v := (nI 1)) dX4_isToldLeaf_4 rfl ?_
  refine v_icmpN_ne (tgt := 45) dX4_isToldLeaf_5 (by decide) (by have := tTk_b (uF tx) t z.2.1; omega) (by omega) (fun c5 => ?_) (fun c5 => ?_)
  · refine v_iconst (v := (nI 0)) dX4_isToldLeaf_45 rfl ?_
    refine v_zret dX4_isToldLeaf_46 rfl (Or.inl rfl) ?_
    refine ⟨?_, rfl⟩
    rw [bI_f (by simp only [lfB, decide_eq_true_eq]; omega)]; rfl
  · refine v_aload_n dX4_isToldLeaf_8 rfl ?_
    refine v_getI2 (y := (nI (tVl (uF tx) t z.2.1))) dX4_isToldLeaf_9 fl_X4_194 ⟨by decide, rfl, by decide⟩ rfl (hp.2.2.1.2.2.2) ?_
    refine v_iconst (v := (nI 0)) dX4_isToldLeaf_12 rfl ?_
    refine v_aload_n dX4_isToldLeaf_13 rfl ?_
    refine v_getR (t := 62) dX4_isToldLeaf_14 fl_X4_13 ⟨by decide, rfl, by decide⟩ rfl rfl ?_
    refine v_bipush (v := (nI 95)) dX4_isToldLeaf_17 rfl ?_
    refine v_iald2 (n := 97) (a := 95) (y := (nI (nN z.1))) dX4_isToldLeaf_19 ⟨by decide, rfl, rfl⟩ (rfl) (by omega) (by rw [hp.2.2.2.2.1]; exact hW.1.1) ?_
    refine v_iconst (v := (nI 1)) dX4_isToldLeaf_20 rfl ?_
    refine v_isub dX4_isToldLeaf_21 ?_
    refine v_callSr (x := .int (bI ((nI 0) ≤ (nI (tVl (uF tx) t z.2.1)) ∧ (nI (tVl (uF tx) t z.2.1)) ≤ ((nI (nN z.1)) - (nI 1))))) (M1 := M) (as := [.int (nI (tVl (uF tx) t z.2.1)), .int (nI 0), .int ((nI (nN z.1)) - (nI 1))]) (st := []) dX4_isToldLeaf_22 ml_X4_56 ks_X4_in ⟨(Nat.le_of_ble_eq_true rfl), (Nat.le_of_ble_eq_true rfl)⟩ rfl (Nat.le_of_ble_eq_true rfl) rfl (Nat.le_of_ble_eq_true rfl) (c_in _ _ _) ?_
    refine v_ifB_eq (tgt := 45) dX4_isToldLeaf_25 (by decide) (fun c25 => ?_) (fun c25 => ?_)
    · have e25 : ¬ tVl (uF tx) t z.2.1 < nN z.1 := fun q => c25 (((isN_sub hW).mpr ((isN_nI h16).mpr ⟨_, q, rfl⟩)))
      refine v_iconst (v := (nI 0)) dX4_isToldLeaf_45 rfl ?_
      refine v_zret dX4_isToldLeaf_46 rfl (Or.inl rfl) ?_
      refine ⟨?_, rfl⟩
      rw [bI_f (by simp only [lfB, decide_eq_true_eq]; omega)]; rfl
    · have e25 : tVl (uF tx) t z.2.1 < nN z.1 := by
        obtain ⟨n9, e25, e26⟩ := (isN_nI h16).mp ((isN_sub hW).mp c25)
        have e27 := (nI_eq (by omega) (by omega)).mp e26
        omega
      refine v_aload_n dX4_isToldLeaf_28 rfl ?_
      refine v_getR (t := 62) dX4_isToldLeaf_29 fl_X4_13 ⟨by decide, rfl, by decide⟩ rfl rfl ?_
      refine v_aload_n dX4_isToldLeaf_32 rfl ?_
      refine v_getI2 (y := (nI (tVl (uF tx) t z.2.1))) dX4_isToldLeaf_33 fl_X4_194 ⟨by decide, rfl, by decide⟩ rfl (hp.2.2.1.2.2.2) ?_
      refine v_iald2 (n := 97) (a := tVl (uF tx) t z.2.1) (y := (nI (so z.1 (tVl (uF tx) t z.2.1)))) dX4_isToldLeaf_36 ⟨by decide, rfl, rfl⟩ (rfl) (by omega) (by rw [hp.2.2.2.2.1]; exact (hW.2.2.1 _ e25).1) ?_
      refine v_iconst (v := (nI 1)) dX4_isToldLeaf_37 rfl ?_
      refine v_icmpN_gt (tgt := 45) dX4_isToldLeaf_38 (by decide) (by have := hW.so5 e25; omega) (by omega) (fun c38 => ?_) (fun c38 => ?_)
      · refine v_iconst (v := (nI 0)) dX4_isToldLeaf_45 rfl ?_
        refine v_zret dX4_isToldLeaf_46 rfl (Or.inl rfl) ?_
        refine ⟨?_, rfl⟩
        rw [bI_f (by simp only [lfB, decide_eq_true_eq]; omega)]; rfl
      · refine v_iconst (v := (nI 1)) dX4_isToldLeaf_41 rfl ?_
        refine v_goto (tgt := 46) dX4_isToldLeaf_42 (by decide) ?_
        refine v_zret dX4_isToldLeaf_46 rfl (Or.inr rfl) ?_
        refine ⟨?_, rfl⟩
        rw [bI_t (by simp only [lfB, decide_eq_true_eq]; omega)]; rfl
set_option maxRecDepth 100000 in
theorem l_rn (hx : xR M0 tx t) (ho : xOK tx t) {z : pS} {s : Nat} (hs5 : s ≤ 5) {n : Nat} (hn0 : 0 < n) (hn : n < 16) {Q : Option Value → vM → Prop} (post : ∀ M1, PS M0 M1 tx t (rnL (uF tx) t n z (hmF s)) → V kX4_readNode Q M1 72 [(0, .ref 60), (1, .int (nI s)), (2, .int (nI n))] []) (d : Nat) : ∀ (k : Nat) (M : vM), k + d = hmF s → PS M0 M tx t (rnL (uF tx) t n z k) → V kX4_readNode (Q) M 37 [(0, .ref 60), (1, .int (nI s)), (2, .int (nI n)), (3, .int (nI k))] [] := by
  have ht := ho.1
  have hm3 := hmF_le s
  induction d with
  | zero =>
    intro k M hk hp
    refine v_iload_n dX4_readNode_37 rfl ?_
    refine v_iload_n dX4_readNode_38 rfl ?_
    refine v_callSr (x := .int (nI (hmF s))) (M1 := M) (as := [.int (nI s)]) (st := [.int (nI k)]) dX4_readNode_39 ml_X4_68 ks_X4_hasMany ⟨(Nat.le_of_ble_eq_true rfl), (Nat.le_of_ble_eq_true rfl)⟩ rfl (Nat.le_of_ble_eq_true rfl) rfl (Nat.le_of_ble_eq_true rfl) (c_hasMany (by omega)) ?_
    refine v_icmpN_ge (tgt := 72) dX4_readNode_42 (by decide) (by have := hmF_le s; omega) (by have := hmF_le s; omega) (fun c42 => ?_) (fun c42 => (by omega))
    refine v_sub (lv' := [(0, .ref 60), (1, .int (nI s)), (2, .int (nI n))]) (by intro q hq; simp at hq; rcases hq with rfl | rfl | rfl <;> rfl) ?_
    exact post M (by rw [show hmF s = k by omega]; exact hp)
  | succ d ih =>
    intro k M hk hp
    refine v_iload_n dX4_readNode_37 rfl ?_
    refine v_iload_n dX4_readNode_38 rfl ?_
    refine v_callSr (x := .int (nI (hmF s))) (M1 := M) (as := [.int (nI s)]) (st := [.int (nI k)]) dX4_readNode_39 ml_X4_68 ks_X4_hasMany ⟨(Nat.le_of_ble_eq_true rfl), (Nat.le_of_ble_eq_true rfl)⟩ rfl (Nat.le_of_ble_eq_true rfl) rfl (Nat.le_of_ble_eq_true rfl) (c_hasMany (by omega)) ?_
    refine v_icmpN_ge (tgt := 72) dX4_readNode_42 (by decide) (by have := hmF_le s; omega) (by have := hmF_le s; omega) (fun c42 => (by omega)) (fun c42 => ?_)
    refine v_aload_n dX4_readNode_45 rfl ?_
    refine v_getR (t := 62) dX4_readNode_46 fl_X4_13 ⟨by decide, rfl, by decide⟩ rfl rfl ?_
    refine v_bipush (v := (nI 32)) dX4_readNode_49 rfl ?_
    refine v_iconst (v := (nI 3)) dX4_readNode_51 rfl ?_
    refine v_iload_n dX4_readNode_52 rfl ?_
    refine v_imulN dX4_readNode_53 ?_
    refine v_iaddN dX4_readNode_54 ?_
    refine v_iload_n dX4_readNode_55 rfl ?_
    refine v_iaddN dX4_readNode_56 ?_
    refine v_aload_n dX4_readNode_57 rfl ?_
    refine v_iconst (v := (nI 0)) dX4_readNode_58 rfl ?_
    refine v_iload_n dX4_readNode_59 rfl ?_
    refine v_iconst (v := (nI 1)) dX4_readNode_60 rfl ?_
    refine v_isubN dX4_readNode_61 (by omega) ?_
    refine v_callV (as := [.int (nI 0), .int (nI (n - 1))]) (st := [.int (nI (32 + (3 * n) + k)), .ref 62]) dX4_readNode_62 ml_X4_213 kv_X4_number ⟨by decide, rfl, by decide⟩ ⟨(Nat.le_of_ble_eq_true rfl), (Nat.le_of_ble_eq_true rfl)⟩ rfl (Nat.le_of_ble_eq_true rfl) rfl (Nat.le_of_ble_eq_true rfl) (c_number hx ho hp (hi := n) (by omega) (by decide) (by omega)) (fun v M1 hq => ?_)
    obtain ⟨rfl, hp⟩ := hq
    refine v_iast (n := 97) (a := 32 + (3 * n) + k) dX4_readNode_65 ⟨by decide, rfl, rfl⟩ (rfl) (by omega) ?_
    refine v_iincN (lv' := [(0, .ref 60), (1, .int (nI s)), (2, .int (nI n)), (3, .int (nI (k + 1)))]) dX4_readNode_66 rfl (Nat.le_of_ble_eq_true rfl) rfl ?_
    refine v_goto (tgt := 37) dX4_readNode_69 (by decide) ?_
    have g9 := PS_D hp (a := 32 + 3 * n + k) (x := nI (tVl (uF tx) t (rnL (uF tx) t n z k).2.1))
    exact ih (k + 1) _ (by omega) g9
set_option maxRecDepth 100000 in
theorem l_rn0 (hx : xR M0 tx t) (ho : xOK tx t) {z : pS} {s : Nat} (hs5 : s ≤ 5) {Q : Option Value → vM → Prop} (post : ∀ M1, PS M0 M1 tx t (rnL (uF tx) t 0 z (hmF s)) → V kX4_readNode Q M1 72 [(0, .ref 60), (1, .int (nI s)), (2, .int (nI 0))] []) (d : Nat) : ∀ (k : Nat) (M : vM), k + d = hmF s → PS M0 M tx t (rnL (uF tx) t 0 z k) → V kX4_readNode (Q) M 37 [(0, .ref 60), (1, .int (nI s)), (2, .int (nI 0)), (3, .int (nI k))] [] := by
  have ht := ho.1
  have hm3 := hmF_le s
  induction d with
  | zero =>
    intro k M hk hp
    refine v_iload_n dX4_readNode_37 rfl ?_
    refine v_iload_n dX4_readNode_38 rfl ?_
    refine v_callSr (x := .int (nI (hmF s))) (M1 := M) (as := [.int (nI s)]) (st := [.int (nI k)]) dX4_readNode_39 ml_X4_68 ks_X4_hasMany ⟨(Nat.le_of_ble_eq_true rfl), (Nat.le_of_ble_eq_true rfl)⟩ rfl (Nat.le_of_ble_eq_true rfl) rfl (Nat.le_of_ble_eq_true rfl) (c_hasMany (by omega)) ?_
    refine v_icmpN_ge (tgt := 72) dX4_readNode_42 (by decide) (by have := hmF_le s; omega) (by have := hmF_le s; omega) (fun c42 => ?_) (fun c42 => (by omega))
    refine v_sub (lv' := [(0, .ref 60), (1, .int (nI s)), (2, .int (nI 0))]) (by intro q hq; simp at hq; rcases hq with rfl | rfl | rfl <;> rfl) ?_
    exact post M (by rw [show hmF s = k by omega]; exact hp)
  | succ d ih =>
    intro k M hk hp
    refine v_iload_n dX4_readNode_37 rfl ?_
    refine v_iload_n dX4_readNode_38 rfl ?_
    refine v_callSr (x := .int (nI (hmF s))) (M1 := M) (as := [.int (nI s)]) (st := [.int (nI k)]) dX4_readNode_39 ml_X4_68 ks_X4_hasMany ⟨(Nat.le_of_ble_eq_true rfl), (Nat.le_of_ble_eq_true rfl)⟩ rfl (Nat.le_of_ble_eq_true rfl) rfl (Nat.le_of_ble_eq_true rfl) (c_hasMany (by omega)) ?_
    refine v_icmpN_ge (tgt := 72) dX4_readNode_42 (by decide) (by have := hmF_le s; omega) (by have := hmF_le s; omega) (fun c42 => (by omega)) (fun c42 => ?_)
    refine v_aload_n dX4_readNode_45 rfl ?_
    refine v_getR (t := 62) dX4_readNode_46 fl_X4_13 ⟨by decide, rfl, by decide⟩ rfl rfl ?_
    refine v_bipush (v := (nI 32)) dX4_readNode_49 rfl ?_
    refine v_iconst (v := (nI 3)) dX4_readNode_51 rfl ?_
    refine v_iload_n dX4_readNode_52 rfl ?_
    refine v_imulN dX4_readNode_53 ?_
    refine v_iaddN dX4_readNode_54 ?_
    refine v_iload_n dX4_readNode_55 rfl ?_
    refine v_iaddN dX4_readNode_56 ?_
    refine v_aload_n dX4_readNode_57 rfl ?_
    refine v_iconst (v := (nI 0)) dX4_readNode_58 rfl ?_
    refine v_iload_n dX4_readNode_59 rfl ?_
    refine v_iconst (v := (nI 1)) dX4_readNode_60 rfl ?_
    refine v_isub dX4_readNode_61 ?_
    refine v_callV (as := [.int (nI 0), .int ((nI 0) - (nI 1))]) (st := [.int (nI (32 + (3 * 0) + k)), .ref 62]) dX4_readNode_62 ml_X4_213 kv_X4_number ⟨by decide, rfl, by decide⟩ ⟨(Nat.le_of_ble_eq_true rfl), (Nat.le_of_ble_eq_true rfl)⟩ rfl (Nat.le_of_ble_eq_true rfl) rfl (Nat.le_of_ble_eq_true rfl) (c_number0 hx ho hp (hi := 0) rfl (by decide)) (fun v M1 hq => ?_)
    obtain ⟨rfl, hp⟩ := hq
    refine v_iast (n := 97) (a := 32 + (3 * 0) + k) dX4_readNode_65 ⟨by decide, rfl, rfl⟩ (rfl) (by omega) ?_
    refine v_iincN (lv' := [(0, .ref 60), (1, .int (nI s)), (2, .int (nI 0)), (3, .int (nI (k + 1)))]) dX4_readNode_66 rfl (Nat.le_of_ble_eq_true rfl) rfl ?_
    refine v_goto (tgt := 37) dX4_readNode_69 (by decide) ?_
    have g9 := PS_D hp (a := 32 + 3 * 0 + k) (x := nI (tVl (uF tx) t (rnL (uF tx) t 0 z k).2.1))
    exact ih (k + 1) _ (by omega) g9
theorem rnC_95 {u : Nat → Nat} {t n s : Nat} {z : pS} (hn : n < 16) : (rnC u t n s z).1 95 = z.1 95 := by
  unfold rnC; split
  · simp only [upd]; rw [if_neg (by omega)]
  · rfl
theorem rnL_95 {u : Nat → Nat} {t n : Nat} {z : pS} (hn : n < 16) : ∀ {k : Nat}, k ≤ 3 → (rnL u t n z k).1 95 = z.1 95
  | 0, _ => rfl
  | k + 1, h => by
    simp only [rnL, upd]
    rw [if_neg (by omega)]
    exact rnL_95 hn (by omega)
set_option maxRecDepth 100000 in
theorem c_readNode (hx : xR M0 tx t) (ho : xOK tx t) {z : pS} (hp : PS M0 M tx t z) (hW : WF z.1) (hn : nN z.1 < 16) {s : Nat} (hs5 : s ≤ 5) : V kX4_readNode (fun v M' => v = none ∧ PS M0 M' tx t (rnF (uF tx) t s z)) M 0 [(0, .ref 60), (1, .int (nI s))] [] := by
  have ht := ho.1
  refine v_aload_n dX4_readNode_0 rfl ?_
  refine v_getR (t := 62) dX4_readNode_1 fl_X4_13 ⟨by decide, rfl, by decide⟩ rfl rfl ?_
  refine v_bipush (v := (nI 95)) dX4_readNode_4 rfl ?_
  refine v_iald2 (n := 97) (a := 95) (y := (nI (nN z.1))) dX4_readNode_6 ⟨by decide, rfl, rfl⟩ (rfl) (by omega) (by rw [hp.2.2.2.2.1]; exact hW.1.1) ?_
  refine v_istore_n (lv' := [(0, .ref 60), (1, .int (nI s)), (2, .int (nI (nN z.1)))]) dX4_readNode_7 (Nat.le_of_ble_eq_true rfl) rfl ?_
  refine v_aload_n dX4_readNode_8 rfl ?_
  refine v_getR (t := 62) dX4_readNode_9 fl_X4_13 ⟨by decide, rfl, by decide⟩ rfl rfl ?_
  refine v_iload_n dX4_readNode_12 rfl ?_
  refine v_iload_n dX4_readNode_13 rfl ?_
  refine v_iast (n := 97) (a := nN z.1) dX4_readNode_14 ⟨by decide, rfl, rfl⟩ (rfl) (by omega) ?_
  have hp := PS_D hp (a := nN z.1) (x := nI s)
  refine v_iload_n dX4_readNode_15 rfl ?_
  refine v_iconst (v := (nI 1)) dX4_readNode_16 rfl ?_
  refine v_icmpN_gt (tgt := 35) dX4_readNode_17 (by decide) (by omega) (by omega) (fun c17 => ?_) (fun c17 => ?_)
  · refine v_iconst (v := (nI 0)) dX4_readNode_35 rfl ?_
    refine v_istore_n (lv' := [(0, .ref 60), (1, .int (nI s)), (2, .int (nI (nN z.1))), (3, .int (nI 0))]) dX4_readNode_36 (Nat.le_of_ble_eq_true rfl) rfl ?_
    have hz9 : PS M0 (mup M 62 (nN z.1) ((nI s))) tx t (rnC (uF tx) t (nN z.1) s (upd z.1 (nN z.1) (nI s), z.2)) := by
      unfold rnC
      rw [if_neg (by omega)]
      exact hp
    have hm3 := hmF_le s
    rcases Nat.eq_zero_or_pos (nN z.1) with h0 | h0
    · have hz8 := hz9
      rw [h0] at hz8 ⊢
      refine l_rn0 hx ho hs5 (fun M2 hp2 => ?_) (hmF s) 0 _ (by omega) hz8
      have h95 : (rnL (uF tx) t 0 (rnC (uF tx) t 0 s (upd z.1 0 (nI s), z.2)) (hmF s)).1 95 = nI (nN z.1) := by
        rw [rnL_95 (by omega) (by omega), rnC_95 (by omega)]; simp only [upd]; rw [if_neg (by omega)]; exact hW.1.1
      refine v_post (Q' := fun v M' => v = none ∧ PS M0 M' tx t (upd (rnL (uF tx) t 0 (rnC (uF tx) t 0 s (upd z.1 0 (nI s), z.2)) (hmF s)).1 95 (nI (nN z.1 + 1)), (rnL (uF tx) t 0 (rnC (uF tx) t 0 s (upd z.1 0 (nI s), z.2)) (hmF s)).2)) (fun v M' h => ⟨h.1, by unfold rnF; rw [h0] at h ⊢; exact h.2⟩) ?_
      refine v_aload_n dX4_readNode_72 rfl ?_
      refine v_getR (t := 62) dX4_readNode_73 fl_X4_13 ⟨by decide, rfl, by decide⟩ rfl rfl ?_
      refine v_bipush (v := (nI 95)) dX4_readNode_76 rfl ?_
      refine v_dup2 dX4_readNode_78 rfl rfl ?_
      refine v_iald2 (n := 97) (a := 95) (y := (nI (nN z.1))) dX4_readNode_79 ⟨by decide, rfl, rfl⟩ (rfl) (by omega) (by rw [hp2.2.2.2.2.1]; exact h95) ?_
      refine v_iconst (v := (nI 1)) dX4_readNode_80 rfl ?_
      refine v_iaddN dX4_readNode_81 ?_
      refine v_iast (n := 97) (a := 95) dX4_readNode_82 ⟨by decide, rfl, rfl⟩ (rfl) (by omega) ?_
      refine v_vret dX4_readNode_83 rfl ?_
      have g9 := PS_D hp2 (a := 95) (x := nI (nN z.1 + 1))
      exact ⟨rfl, g9⟩
    · refine l_rn hx ho hs5 h0 hn (fun M2 hp2 => ?_) (hmF s) 0 _ (by omega) hz9
      have h95 : (rnL (uF tx) t (nN z.1) (rnC (uF tx) t (nN z.1) s (upd z.1 (nN z.1) (nI s), z.2)) (hmF s)).1 95 = nI (nN z.1) := by
        rw [rnL_95 (by omega) (by omega), rnC_95 (by omega)]; simp only [upd]; rw [if_neg (by omega)]; exact hW.1.1
      refine v_aload_n dX4_readNode_72 rfl ?_
      refine v_getR (t := 62) dX4_readNode_73 fl_X4_13 ⟨by decide, rfl, by decide⟩ rfl rfl ?_
      refine v_bipush (v := (nI 95)) dX4_readNode_76 rfl ?_
      refine v_dup2 dX4_readNode_78 rfl rfl ?_
      refine v_iald2 (n := 97) (a := 95) (y := (nI (nN z.1))) dX4_readNode_79 ⟨by decide, rfl, rfl⟩ (rfl) (by omega) (by rw [hp2.2.2.2.2.1]; exact h95) ?_
      refine v_iconst (v := (nI 1)) dX4_readNode_80 rfl ?_
      refine v_iaddN dX4_readNode_81 ?_
      refine v_iast (n := 97) (a := 95) dX4_readNode_82 ⟨by decide, rfl, rfl⟩ (rfl) (by omega) ?_
      refine v_vret dX4_readNode_83 rfl ?_
      have g9 := PS_D hp2 (a := 95) (x := nI (nN z.1 + 1))
      exact ⟨rfl, g9⟩
  · refine v_aload_n dX4_readNode_20 rfl ?_
    refine v_getR (t := 62) dX4_readNode_21 fl_X4_13 ⟨by decide, rfl, by decide⟩ rfl rfl ?_
    refine v_bipush (v := (nI 16)) dX4_readNode_24 rfl ?_
    refine v_iload_n dX4_readNode_26 rfl ?_
    refine v_iaddN dX4_readNode_27 ?_
    refine v_aload_n dX4_readNode_28 rfl ?_
    refine v_iconst (v := (nI 0)) dX4_readNode_29 rfl ?_
    refine v_iconst (v := (nI 2)) dX4_readNode_30 rfl ?_
    refine v_callV (as := [.int (nI 0), .int (nI 2)]) (st := [.int (nI (16 + (nN z.1))), .ref 62]) dX4_readNode_31 ml_X4_213 kv_X4_number ⟨by decide, rfl, by decide⟩ ⟨(Nat.le_of_ble_eq_true rfl), (Nat.le_of_ble_eq_true rfl)⟩ rfl (Nat.le_of_ble_eq_true rfl) rfl (Nat.le_of_ble_eq_true rfl) (c_number hx ho hp (hi := 3) rfl (by decide) (by decide)) (fun v M1 hq => ?_)
    obtain ⟨rfl, hp⟩ := hq
    refine v_iast (n := 97) (a := 16 + (nN z.1)) dX4_readNode_34 ⟨by decide, rfl, rfl⟩ (rfl) (by omega) ?_
    refine v_iconst (v := (nI 0)) dX4_readNode_35 rfl ?_
    refine v_istore_n (lv' := [(0, .ref 60), (1, .int (nI s)), (2, .int (nI (nN z.1))), (3, .int (nI 0))]) dX4_readNode_36 (Nat.le_of_ble_eq_true rfl) rfl ?_
    have hz9 : PS M0 (mup M1 62 (16 + (nN z.1)) ((nI (tVl (uF tx) t z.2.1)))) tx t (rnC (uF tx) t (nN z.1) s (upd z.1 (nN z.1) (nI s), z.2)) := by
      unfold rnC
      rw [if_pos c17]
      exact PS_D hp
    have hm3 := hmF_le s
    rcases Nat.eq_zero_or_pos (nN z.1) with h0 | h0
    · have hz8 := hz9
      rw [h0] at hz8 ⊢
      refine l_rn0 hx ho hs5 (fun M2 hp2 => ?_) (hmF s) 0 _ (by omega) hz8
      have h95 : (rnL (uF tx) t 0 (rnC (uF tx) t 0 s (upd z.1 0 (nI s), z.2)) (hmF s)).1 95 = nI (nN z.1) := by
        rw [rnL_95 (by omega) (by omega), rnC_95 (by omega)]; simp only [upd]; rw [if_neg (by omega)]; exact hW.1.1
      refine v_post (Q' := fun v M' => v = none ∧ PS M0 M' tx t (upd (rnL (uF tx) t 0 (rnC (uF tx) t 0 s (upd z.1 0 (nI s), z.2)) (hmF s)).1 95 (nI (nN z.1 + 1)), (rnL (uF tx) t 0 (rnC (uF tx) t 0 s (upd z.1 0 (nI s), z.2)) (hmF s)).2)) (fun v M' h => ⟨h.1, by unfold rnF; rw [h0] at h ⊢; exact h.2⟩) ?_
      refine v_aload_n dX4_readNode_72 rfl ?_
      refine v_getR (t := 62) dX4_readNode_73 fl_X4_13 ⟨by decide, rfl, by decide⟩ rfl rfl ?_
      refine v_bipush (v := (nI 95)) dX4_readNode_76 rfl ?_
      refine v_dup2 dX4_readNode_78 rfl rfl ?_
      refine v_iald2 (n := 97) (a := 95) (y := (nI (nN z.1))) dX4_readNode_79 ⟨by decide, rfl, rfl⟩ (rfl) (by omega) (by rw [hp2.2.2.2.2.1]; exact h95) ?_
      refine v_iconst (v := (nI 1)) dX4_readNode_80 rfl ?_
      refine v_iaddN dX4_readNode_81 ?_
      refine v_iast (n := 97) (a := 95) dX4_readNode_82 ⟨by decide, rfl, rfl⟩ (rfl) (by omega) ?_
      refine v_vret dX4_readNode_83 rfl ?_
      have g9 := PS_D hp2 (a := 95) (x := nI (nN z.1 + 1))
      exact ⟨rfl, g9⟩
    · refine l_rn hx ho hs5 h0 hn (fun M2 hp2 => ?_) (hmF s) 0 _ (by omega) hz9
      have h95 : (rnL (uF tx) t (nN z.1) (rnC (uF tx) t (nN z.1) s (upd z.1 (nN z.1) (nI s), z.2)) (hmF s)).1 95 = nI (nN z.1) := by
        rw [rnL_95 (by omega) (by omega), rnC_95 (by omega)]; simp only [upd]; rw [if_neg (by omega)]; exact hW.1.1
      refine v_aload_n dX4_readNode_72 rfl ?_
      refine v_getR (t := 62) dX4_readNode_73 fl_X4_13 ⟨by decide, rfl, by decide⟩ rfl rfl ?_
      refine v_bipush (v := (nI 95)) dX4_readNode_76 rfl ?_
      refine v_dup2 dX4_readNode_78 rfl rfl ?_
      refine v_iald2 (n := 97) (a := 95) (y := (nI (nN z.1))) dX4_readNode_79 ⟨by decide, rfl, rfl⟩ (rfl) (by omega) (by rw [hp2.2.2.2.2.1]; exact h95) ?_
      refine v_iconst (v := (nI 1)) dX4_readNode_80 rfl ?_
      refine v_iaddN dX4_readNode_81 ?_
      refine v_iast (n := 97) (a := 95) dX4_readNode_82 ⟨by decide, rfl, rfl⟩ (rfl) (by omega) ?_
      refine v_vret dX4_readNode_83 rfl ?_
      have g9 := PS_D hp2 (a := 95) (x := nI (nN z.1 + 1))
      exact ⟨rfl, g9⟩
end R32
