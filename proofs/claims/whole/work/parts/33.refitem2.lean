section R33
variable {M M0 : vM} {tx : Nat → Int32} {t : Nat}
set_option maxRecDepth 100000 in
theorem c_readMark (hx : xR M0 tx t) (ho : xOK tx t) {z : pS} (hp : PS M0 M tx t z) (hW : WF z.1) (hk : nK z.1 < 6) : V kX4_readMark (fun v M' => v = none ∧ PS M0 M' tx t (rmF (uF tx) t z)) M 0 [(0, .ref 60)] [] := by
  have ht := ho.1
  have hv := tVl_b (uF tx) t z.2.1
  have h16 := hW.n16
  refine v_bipush (v := (nI 80)) dX4_readMark_0 rfl ?_
  refine v_iconst (v := (nI 2)) dX4_readMark_2 rfl ?_
  refine v_aload_n dX4_readMark_3 rfl ?_
  refine v_getR (t := 62) dX4_readMark_4 fl_X4_13 ⟨by decide, rfl, by decide⟩ rfl rfl ?_
  refine v_bipush (v := (nI 96)) dX4_readMark_7 rfl ?_
  refine v_iald2 (n := 97) (a := 96) (y := (nI (nK z.1))) dX4_readMark_9 ⟨by decide, rfl, rfl⟩ (rfl) (by omega) (by rw [hp.2.2.2.2.1]; exact hW.2.1.1) ?_
  refine v_imulN dX4_readMark_10 ?_
  refine v_iaddN dX4_readMark_11 ?_
  refine v_istore_n (lv' := [(0, .ref 60), (1, .int (nI (80 + (2 * (nK z.1)))))]) dX4_readMark_12 (Nat.le_of_ble_eq_true rfl) rfl ?_
  refine v_aload_n dX4_readMark_13 rfl ?_
  refine v_aload_n dX4_readMark_14 rfl ?_
  refine v_callVr (x := .int (bI (lfB z.1 (uF tx) t z.2.1 = true))) (M1 := M) (as := []) (st := [.ref 60]) dX4_readMark_15 ml_X4_216 kv_X4_isToldLeaf ⟨by decide, rfl, by decide⟩ ⟨(Nat.le_of_ble_eq_true rfl), (Nat.le_of_ble_eq_true rfl)⟩ rfl (Nat.le_of_ble_eq_true rfl) rfl (Nat.le_of_ble_eq_true rfl) (c_told hx ho hp hW) ?_
  refine v_callV (as := [.int (bI (lfB z.1 (uF tx) t z.2.1 = true))]) (st := []) dX4_readMark_18 ml_X4_209 kv_X4_must ⟨by decide, rfl, by decide⟩ ⟨(Nat.le_of_ble_eq_true rfl), (Nat.le_of_ble_eq_true rfl)⟩ rfl (Nat.le_of_ble_eq_true rfl) rfl (Nat.le_of_ble_eq_true rfl) (c_must hx ho hp (b := lfB z.1 (uF tx) t z.2.1)) (fun v M1 hq => ?_)
  obtain ⟨rfl, hp⟩ := hq
  refine v_istore_n (lv' := [(0, .ref 60), (1, .int (nI (80 + (2 * (nK z.1))))), (2, .int (nI (tVl (uF tx) t z.2.1)))]) dX4_readMark_21 (Nat.le_of_ble_eq_true rfl) rfl ?_
  refine v_aload_n dX4_readMark_22 rfl ?_
  refine v_aload_n dX4_readMark_23 rfl ?_
  refine v_callVr (x := .int (bI (lfB z.1 (uF tx) t (mq (uF tx) t (lfB z.1 (uF tx) t z.2.1) z.2).1 = true))) (M1 := M1) (as := []) (st := [.ref 60]) dX4_readMark_24 ml_X4_216 kv_X4_isToldLeaf ⟨by decide, rfl, by decide⟩ ⟨(Nat.le_of_ble_eq_true rfl), (Nat.le_of_ble_eq_true rfl)⟩ rfl (Nat.le_of_ble_eq_true rfl) rfl (Nat.le_of_ble_eq_true rfl) (c_told hx ho hp hW) ?_
  refine v_ifB_eq (tgt := 42) dX4_readMark_27 (by decide) (fun c27 => ?_) (fun c27 => ?_)
  · refine v_iconst (v := (nI 0)) dX4_readMark_42 rfl ?_
    refine v_top (y := (bI ((lfB z.1 (uF tx) t (mq (uF tx) t (lfB z.1 (uF tx) t z.2.1) z.2).1 && !(decide (tVl (uF tx) t (mq (uF tx) t (lfB z.1 (uF tx) t z.2.1) z.2).1 = tVl (uF tx) t z.2.1))) = true))) ((bI_f (by simp [*])).symm) ?_
    refine v_callV (as := [.int (bI ((lfB z.1 (uF tx) t (mq (uF tx) t (lfB z.1 (uF tx) t z.2.1) z.2).1 && !(decide (tVl (uF tx) t (mq (uF tx) t (lfB z.1 (uF tx) t z.2.1) z.2).1 = tVl (uF tx) t z.2.1))) = true))]) (st := []) dX4_readMark_43 ml_X4_209 kv_X4_must ⟨by decide, rfl, by decide⟩ ⟨(Nat.le_of_ble_eq_true rfl), (Nat.le_of_ble_eq_true rfl)⟩ rfl (Nat.le_of_ble_eq_true rfl) rfl (Nat.le_of_ble_eq_true rfl) (c_must hx ho hp (b := lfB z.1 (uF tx) t (mq (uF tx) t (lfB z.1 (uF tx) t z.2.1) z.2).1 && !(decide (tVl (uF tx) t (mq (uF tx) t (lfB z.1 (uF tx) t z.2.1) z.2).1 = tVl (uF tx) t z.2.1)))) (fun v M2 hq => ?_)
    obtain ⟨rfl, hp⟩ := hq
    refine v_istore_n (lv' := [(0, .ref 60), (1, .int (nI (80 + (2 * (nK z.1))))), (2, .int (nI (tVl (uF tx) t z.2.1))), (3, .int (nI (tVl (uF tx) t ((mq (uF tx) t (lfB z.1 (uF tx) t z.2.1) z.2).1))))]) dX4_readMark_46 (Nat.le_of_ble_eq_true rfl) rfl ?_
    refine v_aload_n dX4_readMark_47 rfl ?_
    refine v_getR (t := 62) dX4_readMark_48 fl_X4_13 ⟨by decide, rfl, by decide⟩ rfl rfl ?_
    refine v_iload_n dX4_readMark_51 rfl ?_
    refine v_iload_n dX4_readMark_52 rfl ?_
    refine v_iast (n := 97) (a := 80 + (2 * (nK z.1))) dX4_readMark_53 ⟨by decide, rfl, rfl⟩ (rfl) (by omega) ?_
    have hp := PS_D hp (a := 80 + 2 * nK z.1) (x := nI (tVl (uF tx) t z.2.1))
    refine v_aload_n dX4_readMark_54 rfl ?_
    refine v_getR (t := 62) dX4_readMark_55 fl_X4_13 ⟨by decide, rfl, by decide⟩ rfl rfl ?_
    refine v_iload_n dX4_readMark_58 rfl ?_
    refine v_iconst (v := (nI 1)) dX4_readMark_59 rfl ?_
    refine v_iaddN dX4_readMark_60 ?_
    refine v_iload_n dX4_readMark_61 rfl ?_
    refine v_iast (n := 97) (a := 80 + (2 * (nK z.1)) + 1) dX4_readMark_62 ⟨by decide, rfl, rfl⟩ (rfl) (by omega) ?_
    have hp := PS_D hp (a := 80 + 2 * nK z.1 + 1) (x := nI (tVl (uF tx) t ((mq (uF tx) t (lfB z.1 (uF tx) t z.2.1) z.2).1)))
    refine v_aload_n dX4_readMark_63 rfl ?_
    refine v_getR (t := 62) dX4_readMark_64 fl_X4_13 ⟨by decide, rfl, by decide⟩ rfl rfl ?_
    refine v_bipush (v := (nI 96)) dX4_readMark_67 rfl ?_
    refine v_dup2 dX4_readMark_69 rfl rfl ?_
    refine v_iald2 (n := 97) (a := 96) (y := (nI (nK z.1))) dX4_readMark_70 ⟨by decide, rfl, rfl⟩ (rfl) (by omega) (by rw [hp.2.2.2.2.1]; simp only [upd]; rw [if_neg (by omega), if_neg (by omega)]; exact hW.2.1.1) ?_
    refine v_iconst (v := (nI 1)) dX4_readMark_71 rfl ?_
    refine v_iaddN dX4_readMark_72 ?_
    refine v_iast (n := 97) (a := 96) dX4_readMark_73 ⟨by decide, rfl, rfl⟩ (rfl) (by omega) ?_
    refine v_vret dX4_readMark_74 rfl ?_
    have g9 := PS_D hp (a := 96) (x := nI (nK z.1 + 1))
    exact ⟨rfl, g9⟩
  · refine v_aload_n dX4_readMark_30 rfl ?_
    refine v_getI2 (y := (nI (tVl (uF tx) t ((mq (uF tx) t (lfB z.1 (uF tx) t z.2.1) z.2).1)))) dX4_readMark_31 fl_X4_194 ⟨by decide, rfl, by decide⟩ rfl (hp.2.2.1.2.2.2) ?_
    refine v_iload_n dX4_readMark_34 rfl ?_
    refine v_icmpN_eq (tgt := 42) dX4_readMark_35 (by decide) (by have := tVl_b (uF tx) t (mq (uF tx) t (lfB z.1 (uF tx) t z.2.1) z.2).1; omega) (by omega) (fun c35 => ?_) (fun c35 => ?_)
    · refine v_iconst (v := (nI 0)) dX4_readMark_42 rfl ?_
      refine v_top (y := (bI ((lfB z.1 (uF tx) t (mq (uF tx) t (lfB z.1 (uF tx) t z.2.1) z.2).1 && !(decide (tVl (uF tx) t (mq (uF tx) t (lfB z.1 (uF tx) t z.2.1) z.2).1 = tVl (uF tx) t z.2.1))) = true))) ((bI_f (by simp [*])).symm) ?_
      refine v_callV (as := [.int (bI ((lfB z.1 (uF tx) t (mq (uF tx) t (lfB z.1 (uF tx) t z.2.1) z.2).1 && !(decide (tVl (uF tx) t (mq (uF tx) t (lfB z.1 (uF tx) t z.2.1) z.2).1 = tVl (uF tx) t z.2.1))) = true))]) (st := []) dX4_readMark_43 ml_X4_209 kv_X4_must ⟨by decide, rfl, by decide⟩ ⟨(Nat.le_of_ble_eq_true rfl), (Nat.le_of_ble_eq_true rfl)⟩ rfl (Nat.le_of_ble_eq_true rfl) rfl (Nat.le_of_ble_eq_true rfl) (c_must hx ho hp (b := lfB z.1 (uF tx) t (mq (uF tx) t (lfB z.1 (uF tx) t z.2.1) z.2).1 && !(decide (tVl (uF tx) t (mq (uF tx) t (lfB z.1 (uF tx) t z.2.1) z.2).1 = tVl (uF tx) t z.2.1)))) (fun v M2 hq => ?_)
      obtain ⟨rfl, hp⟩ := hq
      refine v_istore_n (lv' := [(0, .ref 60), (1, .int (nI (80 + (2 * (nK z.1))))), (2, .int (nI (tVl (uF tx) t z.2.1))), (3, .int (nI (tVl (uF tx) t ((mq (uF tx) t (lfB z.1 (uF tx) t z.2.1) z.2).1))))]) dX4_readMark_46 (Nat.le_of_ble_eq_true rfl) rfl ?_
      refine v_aload_n dX4_readMark_47 rfl ?_
      refine v_getR (t := 62) dX4_readMark_48 fl_X4_13 ⟨by decide, rfl, by decide⟩ rfl rfl ?_
      refine v_iload_n dX4_readMark_51 rfl ?_
      refine v_iload_n dX4_readMark_52 rfl ?_
      refine v_iast (n := 97) (a := 80 + (2 * (nK z.1))) dX4_readMark_53 ⟨by decide, rfl, rfl⟩ (rfl) (by omega) ?_
      have hp := PS_D hp (a := 80 + 2 * nK z.1) (x := nI (tVl (uF tx) t z.2.1))
      refine v_aload_n dX4_readMark_54 rfl ?_
      refine v_getR (t := 62) dX4_readMark_55 fl_X4_13 ⟨by decide, rfl, by decide⟩ rfl rfl ?_
      refine v_iload_n dX4_readMark_58 rfl ?_
      refine v_iconst (v := (nI 1)) dX4_readMark_59 rfl ?_
      refine v_iaddN dX4_readMark_60 ?_
      refine v_iload_n dX4_readMark_61 rfl ?_
      refine v_iast (n := 97) (a := 80 + (2 * (nK z.1)) + 1) dX4_readMark_62 ⟨by decide, rfl, rfl⟩ (rfl) (by omega) ?_
      have hp := PS_D hp (a := 80 + 2 * nK z.1 + 1) (x := nI (tVl (uF tx) t ((mq (uF tx) t (lfB z.1 (uF tx) t z.2.1) z.2).1)))
      refine v_aload_n dX4_readMark_63 rfl ?_
      refine v_getR (t := 62) dX4_readMark_64 fl_X4_13 ⟨by decide, rfl, by decide⟩ rfl rfl ?_
      refine v_bipush (v := (nI 96)) dX4_readMark_67 rfl ?_
      refine v_dup2 dX4_readMark_69 rfl rfl ?_
      refine v_iald2 (n := 97) (a := 96) (y := (nI (nK z.1))) dX4_readMark_70 ⟨by decide, rfl, rfl⟩ (rfl) (by omega) (by rw [hp.2.2.2.2.1]; simp only [upd]; rw [if_neg (by omega), if_neg (by omega)]; exact hW.2.1.1) ?_
      refine v_iconst (v := (nI 1)) dX4_readMark_71 rfl ?_
      refine v_iaddN dX4_readMark_72 ?_
      refine v_iast (n := 97) (a := 96) dX4_readMark_73 ⟨by decide, rfl, rfl⟩ (rfl) (by omega) ?_
      refine v_vret dX4_readMark_74 rfl ?_
      have g9 := PS_D hp (a := 96) (x := nI (nK z.1 + 1))
      exact ⟨rfl, g9⟩
    · refine v_iconst (v := (nI 1)) dX4_readMark_38 rfl ?_
      refine v_goto (tgt := 43) dX4_readMark_39 (by decide) ?_
      refine v_top (y := (bI ((lfB z.1 (uF tx) t (mq (uF tx) t (lfB z.1 (uF tx) t z.2.1) z.2).1 && !(decide (tVl (uF tx) t (mq (uF tx) t (lfB z.1 (uF tx) t z.2.1) z.2).1 = tVl (uF tx) t z.2.1))) = true))) ((bI_t (by simp [*])).symm) ?_
      refine v_callV (as := [.int (bI ((lfB z.1 (uF tx) t (mq (uF tx) t (lfB z.1 (uF tx) t z.2.1) z.2).1 && !(decide (tVl (uF tx) t (mq (uF tx) t (lfB z.1 (uF tx) t z.2.1) z.2).1 = tVl (uF tx) t z.2.1))) = true))]) (st := []) dX4_readMark_43 ml_X4_209 kv_X4_must ⟨by decide, rfl, by decide⟩ ⟨(Nat.le_of_ble_eq_true rfl), (Nat.le_of_ble_eq_true rfl)⟩ rfl (Nat.le_of_ble_eq_true rfl) rfl (Nat.le_of_ble_eq_true rfl) (c_must hx ho hp (b := lfB z.1 (uF tx) t (mq (uF tx) t (lfB z.1 (uF tx) t z.2.1) z.2).1 && !(decide (tVl (uF tx) t (mq (uF tx) t (lfB z.1 (uF tx) t z.2.1) z.2).1 = tVl (uF tx) t z.2.1)))) (fun v M2 hq => ?_)
      obtain ⟨rfl, hp⟩ := hq
      refine v_istore_n (lv' := [(0, .ref 60), (1, .int (nI (80 + (2 * (nK z.1))))), (2, .int (nI (tVl (uF tx) t z.2.1))), (3, .int (nI (tVl (uF tx) t ((mq (uF tx) t (lfB z.1 (uF tx) t z.2.1) z.2).1))))]) dX4_readMark_46 (Nat.le_of_ble_eq_true rfl) rfl ?_
      refine v_aload_n dX4_readMark_47 rfl ?_
      refine v_getR (t := 62) dX4_readMark_48 fl_X4_13 ⟨by decide, rfl, by decide⟩ rfl rfl ?_
      refine v_iload_n dX4_readMark_51 rfl ?_
      refine v_iload_n dX4_readMark_52 rfl ?_
      refine v_iast (n := 97) (a := 80 + (2 * (nK z.1))) dX4_readMark_53 ⟨by decide, rfl, rfl⟩ (rfl) (by omega) ?_
      have hp := PS_D hp (a := 80 + 2 * nK z.1) (x := nI (tVl (uF tx) t z.2.1))
      refine v_aload_n dX4_readMark_54 rfl ?_
      refine v_getR (t := 62) dX4_readMark_55 fl_X4_13 ⟨by decide, rfl, by decide⟩ rfl rfl ?_
      refine v_iload_n dX4_readMark_58 rfl ?_
      refine v_iconst (v := (nI 1)) dX4_readMark_59 rfl ?_
      refine v_iaddN dX4_readMark_60 ?_
      refine v_iload_n dX4_readMark_61 rfl ?_
      refine v_iast (n := 97) (a := 80 + (2 * (nK z.1)) + 1) dX4_readMark_62 ⟨by decide, rfl, rfl⟩ (rfl) (by omega) ?_
      have hp := PS_D hp (a := 80 + 2 * nK z.1 + 1) (x := nI (tVl (uF tx) t ((mq (uF tx) t (lfB z.1 (uF tx) t z.2.1) z.2).1)))
      refine v_aload_n dX4_readMark_63 rfl ?_
      refine v_getR (t := 62) dX4_readMark_64 fl_X4_13 ⟨by decide, rfl, by decide⟩ rfl rfl ?_
      refine v_bipush (v := (nI 96)) dX4_readMark_67 rfl ?_
      refine v_dup2 dX4_readMark_69 rfl rfl ?_
      refine v_iald2 (n := 97) (a := 96) (y := (nI (nK z.1))) dX4_readMark_70 ⟨by decide, rfl, rfl⟩ (rfl) (by omega) (by rw [hp.2.2.2.2.1]; simp only [upd]; rw [if_neg (by omega), if_neg (by omega)]; exact hW.2.1.1) ?_
      refine v_iconst (v := (nI 1)) dX4_readMark_71 rfl ?_
      refine v_iaddN dX4_readMark_72 ?_
      refine v_iast (n := 97) (a := 96) dX4_readMark_73 ⟨by decide, rfl, rfl⟩ (rfl) (by omega) ?_
      refine v_vret dX4_readMark_74 rfl ?_
      have g9 := PS_D hp (a := 96) (x := nI (nK z.1 + 1))
      exact ⟨rfl, g9⟩
theorem nq_none {u : Nat → Nat} {t lo hi : Nat} {s : Nat × Option Nat} (h : (nq u t lo hi s).2 = none) : s.2 = none ∧ tTk u t s.1 = 1 ∧ lo ≤ tVl u t s.1 ∧ tVl u t s.1 < hi ∧ (nq u t lo hi s).1 = tNx u t s.1 := by
  obtain ⟨q, f⟩ := s
  cases f with
  | some a => cases h
  | none =>
    unfold nq at h ⊢
    rw [mq_none] at h ⊢
    split at h
    · have h9 : _ := of_decide_eq_true (by assumption : decide _ = true)
      rw [if_pos (by assumption)]
      exact ⟨rfl, h9.1, h9.2.1, h9.2.2, rfl⟩
    · cases h
theorem soO_le {c s : Nat} (h : soO c = some s) : s ≤ 5 := by
  unfold soO at h
  repeat (first | (split at h; cases h; omega) | split at h)
  all_goals (cases h; try omega)
set_option maxRecDepth 100000 in
theorem c_ri_n (hx : xR M0 tx t) (ho : xOK tx t) {z : pS} (hp : PS M0 M tx t z) (hW : WF z.1) {c s : Nat} (hso : soO c = some s) (hn : nN z.1 < 16) : V kX4_readItem (fun v M' => v = none ∧ PS M0 M' tx t ((riB (uF tx) t c z).1, scq (uF tx) t (riB (uF tx) t c z).2)) M 88 [(0, .ref 60), (1, .int (nI c)), (2, .int (nI s)), (3, .int (bI (c = 103 ∨ c = 101)))] [] := by
  have ht := ho.1
  have hs5 := soO_le hso
  refine v_iload_n dX4_readItem_88 rfl ?_
  refine v_bipush (v := (-9)) dX4_readItem_89 (by decide) ?_
  refine v_icmp_eq (tgt := 102) dX4_readItem_91 (by decide) (fun c91 => (absurd c91 (fun q => absurd (nI_pos' (n := s) (by omega)) (by rw [q]; decide)))) (fun c91 => ?_)
  refine v_aload_n dX4_readItem_94 rfl ?_
  refine v_iload_n dX4_readItem_95 rfl ?_
  refine v_callV (as := [.int (nI s)]) (st := []) dX4_readItem_96 ml_X4_223 kv_X4_readNode ⟨by decide, rfl, by decide⟩ ⟨(Nat.le_of_ble_eq_true rfl), (Nat.le_of_ble_eq_true rfl)⟩ rfl (Nat.le_of_ble_eq_true rfl) rfl (Nat.le_of_ble_eq_true rfl) (c_readNode hx ho hp hW hn hs5) (fun v M3 hq => ?_)
  obtain ⟨rfl, hp⟩ := hq
  refine v_goto (tgt := 155) dX4_readItem_99 (by decide) ?_
  refine v_aload_n dX4_readItem_155 rfl ?_
  refine v_aload_n dX4_readItem_156 rfl ?_
  refine v_getI2 (y := (nI (tTk (uF tx) t ((rnF (uF tx) t s z).2.1)))) dX4_readItem_157 fl_X4_197 ⟨by decide, rfl, by decide⟩ rfl (hp.2.2.1.2.2.1) ?_
  refine v_bipush (v := (nI 59)) dX4_readItem_160 rfl ?_
  refine v_icmpN_ne (tgt := 169) dX4_readItem_162 (by decide) (by have := tTk_b (uF tx) t (rnF (uF tx) t s z).2.1; omega) (by omega) (fun c162 => ?_) (fun c162 => ?_)
  · refine v_iconst (v := (nI 0)) dX4_readItem_169 rfl ?_
    refine v_top (y := (bI (decide (tTk (uF tx) t (rnF (uF tx) t s z).2.1 = 59) = true))) ((bI_f (by rw [decide_eq_true_eq]; exact c162)).symm) ?_
    refine v_callV (as := [.int (bI (decide (tTk (uF tx) t (rnF (uF tx) t s z).2.1 = 59) = true))]) (st := []) dX4_readItem_170 ml_X4_209 kv_X4_must ⟨by decide, rfl, by decide⟩ ⟨(Nat.le_of_ble_eq_true rfl), (Nat.le_of_ble_eq_true rfl)⟩ rfl (Nat.le_of_ble_eq_true rfl) rfl (Nat.le_of_ble_eq_true rfl) (c_must hx ho hp (b := decide (tTk (uF tx) t (rnF (uF tx) t s z).2.1 = 59))) (fun v M9 hq => ?_)
    obtain ⟨rfl, hp⟩ := hq
    refine v_pop dX4_readItem_173 rfl ?_
    refine v_vret dX4_readItem_174 rfl ?_
    have e9 : riB (uF tx) t c z = rnF (uF tx) t s z := by unfold riB; rw [hso]
    rw [e9]
    exact ⟨rfl, hp⟩
  · refine v_iconst (v := (nI 1)) dX4_readItem_165 rfl ?_
    refine v_goto (tgt := 170) dX4_readItem_166 (by decide) ?_
    refine v_top (y := (bI (decide (tTk (uF tx) t (rnF (uF tx) t s z).2.1 = 59) = true))) ((bI_t (decide_eq_true c162)).symm) ?_
    refine v_callV (as := [.int (bI (decide (tTk (uF tx) t (rnF (uF tx) t s z).2.1 = 59) = true))]) (st := []) dX4_readItem_170 ml_X4_209 kv_X4_must ⟨by decide, rfl, by decide⟩ ⟨(Nat.le_of_ble_eq_true rfl), (Nat.le_of_ble_eq_true rfl)⟩ rfl (Nat.le_of_ble_eq_true rfl) rfl (Nat.le_of_ble_eq_true rfl) (c_must hx ho hp (b := decide (tTk (uF tx) t (rnF (uF tx) t s z).2.1 = 59))) (fun v M9 hq => ?_)
    obtain ⟨rfl, hp⟩ := hq
    refine v_pop dX4_readItem_173 rfl ?_
    refine v_vret dX4_readItem_174 rfl ?_
    have e9 : riB (uF tx) t c z = rnF (uF tx) t s z := by unfold riB; rw [hso]
    rw [e9]
    exact ⟨rfl, hp⟩
set_option maxRecDepth 100000 in
theorem c_ri_m (hx : xR M0 tx t) (ho : xOK tx t) {z : pS} (hp : PS M0 M tx t z) (hW : WF z.1) {c : Nat} (hso : soO c = none) (hm : c = 103 ∨ c = 101) (hk : nK z.1 < 6) : V kX4_readItem (fun v M' => v = none ∧ PS M0 M' tx t ((riB (uF tx) t c z).1, scq (uF tx) t (riB (uF tx) t c z).2)) M 88 [(0, .ref 60), (1, .int (nI c)), (2, .int ((-9))), (3, .int (bI (c = 103 ∨ c = 101)))] [] := by
  have ht := ho.1
  refine v_iload_n dX4_readItem_88 rfl ?_
  refine v_bipush (v := (-9)) dX4_readItem_89 (by decide) ?_
  refine v_icmp_eq (tgt := 102) dX4_readItem_91 (by decide) (fun c91 => ?_) (fun c91 => (absurd rfl c91))
  refine v_iload_n dX4_readItem_102 rfl ?_
  refine v_ifB_eq (tgt := 113) dX4_readItem_103 (by decide) (fun c103 => (absurd hm c103)) (fun c103 => ?_)
  refine v_aload_n dX4_readItem_106 rfl ?_
  refine v_callV (as := []) (st := []) dX4_readItem_107 ml_X4_227 kv_X4_readMark ⟨by decide, rfl, by decide⟩ ⟨(Nat.le_of_ble_eq_true rfl), (Nat.le_of_ble_eq_true rfl)⟩ rfl (Nat.le_of_ble_eq_true rfl) rfl (Nat.le_of_ble_eq_true rfl) (c_readMark hx ho hp hW hk) (fun v M3 hq => ?_)
  obtain ⟨rfl, hp⟩ := hq
  refine v_goto (tgt := 155) dX4_readItem_110 (by decide) ?_
  refine v_aload_n dX4_readItem_155 rfl ?_
  refine v_aload_n dX4_readItem_156 rfl ?_
  refine v_getI2 (y := (nI (tTk (uF tx) t ((rmF (uF tx) t z).2.1)))) dX4_readItem_157 fl_X4_197 ⟨by decide, rfl, by decide⟩ rfl (hp.2.2.1.2.2.1) ?_
  refine v_bipush (v := (nI 59)) dX4_readItem_160 rfl ?_
  refine v_icmpN_ne (tgt := 169) dX4_readItem_162 (by decide) (by have := tTk_b (uF tx) t (rmF (uF tx) t z).2.1; omega) (by omega) (fun c162 => ?_) (fun c162 => ?_)
  · refine v_iconst (v := (nI 0)) dX4_readItem_169 rfl ?_
    refine v_top (y := (bI (decide (tTk (uF tx) t (rmF (uF tx) t z).2.1 = 59) = true))) ((bI_f (by rw [decide_eq_true_eq]; exact c162)).symm) ?_
    refine v_callV (as := [.int (bI (decide (tTk (uF tx) t (rmF (uF tx) t z).2.1 = 59) = true))]) (st := []) dX4_readItem_170 ml_X4_209 kv_X4_must ⟨by decide, rfl, by decide⟩ ⟨(Nat.le_of_ble_eq_true rfl), (Nat.le_of_ble_eq_true rfl)⟩ rfl (Nat.le_of_ble_eq_true rfl) rfl (Nat.le_of_ble_eq_true rfl) (c_must hx ho hp (b := decide (tTk (uF tx) t (rmF (uF tx) t z).2.1 = 59))) (fun v M9 hq => ?_)
    obtain ⟨rfl, hp⟩ := hq
    refine v_pop dX4_readItem_173 rfl ?_
    refine v_vret dX4_readItem_174 rfl ?_
    have e9 : riB (uF tx) t c z = rmF (uF tx) t z := by unfold riB; rw [hso]; exact if_pos hm
    rw [e9]
    exact ⟨rfl, hp⟩
  · refine v_iconst (v := (nI 1)) dX4_readItem_165 rfl ?_
    refine v_goto (tgt := 170) dX4_readItem_166 (by decide) ?_
    refine v_top (y := (bI (decide (tTk (uF tx) t (rmF (uF tx) t z).2.1 = 59) = true))) ((bI_t (decide_eq_true c162)).symm) ?_
    refine v_callV (as := [.int (bI (decide (tTk (uF tx) t (rmF (uF tx) t z).2.1 = 59) = true))]) (st := []) dX4_readItem_170 ml_X4_209 kv_X4_must ⟨by decide, rfl, by decide⟩ ⟨(Nat.le_of_ble_eq_true rfl), (Nat.le_of_ble_eq_true rfl)⟩ rfl (Nat.le_of_ble_eq_true rfl) rfl (Nat.le_of_ble_eq_true rfl) (c_must hx ho hp (b := decide (tTk (uF tx) t (rmF (uF tx) t z).2.1 = 59))) (fun v M9 hq => ?_)
    obtain ⟨rfl, hp⟩ := hq
    refine v_pop dX4_readItem_173 rfl ?_
    refine v_vret dX4_readItem_174 rfl ?_
    have e9 : riB (uF tx) t c z = rmF (uF tx) t z := by unfold riB; rw [hso]; exact if_pos hm
    rw [e9]
    exact ⟨rfl, hp⟩
set_option maxRecDepth 100000 in
theorem c_ri_p (hx : xR M0 tx t) (ho : xOK tx t) {z : pS} (hp : PS M0 M tx t z) {c : Nat} (hso : soO c = none) (hm : ¬ (c = 103 ∨ c = 101)) : V kX4_readItem (fun v M' => v = none ∧ PS M0 M' tx t ((riB (uF tx) t c z).1, scq (uF tx) t (riB (uF tx) t c z).2)) M 88 [(0, .ref 60), (1, .int (nI c)), (2, .int ((-9))), (3, .int (bI (c = 103 ∨ c = 101)))] [] := by
  have ht := ho.1
  refine v_iload_n dX4_readItem_88 rfl ?_
  refine v_bipush (v := (-9)) dX4_readItem_89 (by decide) ?_
  refine v_icmp_eq (tgt := 102) dX4_readItem_91 (by decide) (fun c91 => ?_) (fun c91 => (absurd rfl c91))
  refine v_iload_n dX4_readItem_102 rfl ?_
  refine v_ifB_eq (tgt := 113) dX4_readItem_103 (by decide) (fun c103 => ?_) (fun c103 => (absurd c103 hm))
  refine v_aload_n dX4_readItem_113 rfl ?_
  refine v_iconst (v := (nI 0)) dX4_readItem_114 rfl ?_
  refine v_iconst (v := (nI 2)) dX4_readItem_115 rfl ?_
  refine v_callV (as := [.int (nI 0), .int (nI 2)]) (st := []) dX4_readItem_116 ml_X4_213 kv_X4_number ⟨by decide, rfl, by decide⟩ ⟨(Nat.le_of_ble_eq_true rfl), (Nat.le_of_ble_eq_true rfl)⟩ rfl (Nat.le_of_ble_eq_true rfl) rfl (Nat.le_of_ble_eq_true rfl) (c_number hx ho hp (hi := 3) rfl (by decide) (by decide)) (fun v M3 hq => ?_)
  obtain ⟨rfl, hp⟩ := hq
  refine v_istore (lv' := [(0, .ref 60), (1, .int (nI c)), (2, .int ((-9))), (3, .int (bI (c = 103 ∨ c = 101))), (4, .int (nI (tVl (uF tx) t z.2.1)))]) dX4_readItem_119 (Nat.le_of_ble_eq_true rfl) rfl ?_
  refine v_aload_n dX4_readItem_121 rfl ?_
  refine v_iconst (v := (nI 1)) dX4_readItem_122 rfl ?_
  refine v_bipush (v := (nI 9)) dX4_readItem_123 rfl ?_
  refine v_callV (as := [.int (nI 1), .int (nI 9)]) (st := []) dX4_readItem_125 ml_X4_213 kv_X4_number ⟨by decide, rfl, by decide⟩ ⟨(Nat.le_of_ble_eq_true rfl), (Nat.le_of_ble_eq_true rfl)⟩ rfl (Nat.le_of_ble_eq_true rfl) rfl (Nat.le_of_ble_eq_true rfl) (c_number hx ho hp (hi := 10) rfl (by decide) (by decide)) (fun v M4 hq => ?_)
  obtain ⟨rfl, hp⟩ := hq
  have hfb : ∀ n, (nq (uF tx) t 1 10 (nq (uF tx) t 0 3 z.2)).2 = some n → n < 2 ^ 31 := fun n hn => by have := hp.2.2.2.2.2.2 n hn; omega
  refine v_istore (lv' := [(0, .ref 60), (1, .int (nI c)), (2, .int ((-9))), (3, .int (bI (c = 103 ∨ c = 101))), (4, .int (nI (tVl (uF tx) t z.2.1))), (5, .int (nI (tVl (uF tx) t ((nq (uF tx) t 0 3 z.2).1))))]) dX4_readItem_128 (Nat.le_of_ble_eq_true rfl) rfl ?_
  refine v_aload_n dX4_readItem_130 rfl ?_
  refine v_getR (t := 62) dX4_readItem_131 fl_X4_13 ⟨by decide, rfl, by decide⟩ rfl rfl ?_
  refine v_bipush (v := (nI 92)) dX4_readItem_134 rfl ?_
  refine v_aload_n dX4_readItem_136 rfl ?_
  refine v_getI2 (y := (oI (nq (uF tx) t 1 10 (nq (uF tx) t 0 3 z.2)).2)) dX4_readItem_137 fl_X4_203 ⟨by decide, rfl, by decide⟩ rfl (hp.2.2.2.1) ?_
  refine v_bipush (v := (-9)) dX4_readItem_140 (by decide) ?_
  refine v_icmp_ne (tgt := 150) dX4_readItem_142 (by decide) (fun c142 => ?_) (fun c142 => ?_)
  · have e42 : ¬ (nq (uF tx) t 1 10 (nq (uF tx) t 0 3 z.2)).2 = none := fun q => c142 ((oI_none hfb).mpr q)
    refine v_iconst (v := (nI 0)) dX4_readItem_150 rfl ?_
    refine v_iaddN dX4_readItem_151 ?_
    refine v_top (y := (nI (92 + (if (nq (uF tx) t 1 10 (nq (uF tx) t 0 3 z.2)).2 = none then tVl (uF tx) t z.2.1 else 0)))) (congrArg nI (by rw [if_neg e42])) ?_
    refine v_iload dX4_readItem_152 rfl ?_
    refine v_iast (n := 97) (a := 92 + (if (nq (uF tx) t 1 10 (nq (uF tx) t 0 3 z.2)).2 = none then tVl (uF tx) t z.2.1 else 0)) dX4_readItem_154 ⟨by decide, rfl, rfl⟩ (rfl) (by rw [if_neg e42]; omega) ?_
    have hp := PS_D hp (a := 92 + (if (nq (uF tx) t 1 10 (nq (uF tx) t 0 3 z.2)).2 = none then tVl (uF tx) t z.2.1 else 0)) (x := nI (tVl (uF tx) t ((nq (uF tx) t 0 3 z.2).1)))
    refine v_aload_n dX4_readItem_155 rfl ?_
    refine v_aload_n dX4_readItem_156 rfl ?_
    refine v_getI2 (y := (nI (tTk (uF tx) t ((rpF (uF tx) t z).2.1)))) dX4_readItem_157 fl_X4_197 ⟨by decide, rfl, by decide⟩ rfl (hp.2.2.1.2.2.1) ?_
    refine v_bipush (v := (nI 59)) dX4_readItem_160 rfl ?_
    refine v_icmpN_ne (tgt := 169) dX4_readItem_162 (by decide) (by have := tTk_b (uF tx) t (rpF (uF tx) t z).2.1; omega) (by omega) (fun c162 => ?_) (fun c162 => ?_)
    · refine v_iconst (v := (nI 0)) dX4_readItem_169 rfl ?_
      refine v_top (y := (bI (decide (tTk (uF tx) t (rpF (uF tx) t z).2.1 = 59) = true))) ((bI_f (by rw [decide_eq_true_eq]; exact c162)).symm) ?_
      refine v_callV (as := [.int (bI (decide (tTk (uF tx) t (rpF (uF tx) t z).2.1 = 59) = true))]) (st := []) dX4_readItem_170 ml_X4_209 kv_X4_must ⟨by decide, rfl, by decide⟩ ⟨(Nat.le_of_ble_eq_true rfl), (Nat.le_of_ble_eq_true rfl)⟩ rfl (Nat.le_of_ble_eq_true rfl) rfl (Nat.le_of_ble_eq_true rfl) (c_must hx ho hp (b := decide (tTk (uF tx) t (rpF (uF tx) t z).2.1 = 59))) (fun v M9 hq => ?_)
      obtain ⟨rfl, hp⟩ := hq
      refine v_pop dX4_readItem_173 rfl ?_
      refine v_vret dX4_readItem_174 rfl ?_
      have e9 : riB (uF tx) t c z = rpF (uF tx) t z := by unfold riB; rw [hso]; exact if_neg hm
      rw [e9]
      exact ⟨rfl, hp⟩
    · refine v_iconst (v := (nI 1)) dX4_readItem_165 rfl ?_
      refine v_goto (tgt := 170) dX4_readItem_166 (by decide) ?_
      refine v_top (y := (bI (decide (tTk (uF tx) t (rpF (uF tx) t z).2.1 = 59) = true))) ((bI_t (decide_eq_true c162)).symm) ?_
      refine v_callV (as := [.int (bI (decide (tTk (uF tx) t (rpF (uF tx) t z).2.1 = 59) = true))]) (st := []) dX4_readItem_170 ml_X4_209 kv_X4_must ⟨by decide, rfl, by decide⟩ ⟨(Nat.le_of_ble_eq_true rfl), (Nat.le_of_ble_eq_true rfl)⟩ rfl (Nat.le_of_ble_eq_true rfl) rfl (Nat.le_of_ble_eq_true rfl) (c_must hx ho hp (b := decide (tTk (uF tx) t (rpF (uF tx) t z).2.1 = 59))) (fun v M9 hq => ?_)
      obtain ⟨rfl, hp⟩ := hq
      refine v_pop dX4_readItem_173 rfl ?_
      refine v_vret dX4_readItem_174 rfl ?_
      have e9 : riB (uF tx) t c z = rpF (uF tx) t z := by unfold riB; rw [hso]; exact if_neg hm
      rw [e9]
      exact ⟨rfl, hp⟩
  · have e42 : (nq (uF tx) t 1 10 (nq (uF tx) t 0 3 z.2)).2 = none := (oI_none hfb).mp c142
    have hc3 := (nq_none (nq_none e42).1).2.2.2.1
    refine v_iload dX4_readItem_145 rfl ?_
    refine v_goto (tgt := 151) dX4_readItem_147 (by decide) ?_
    refine v_iaddN dX4_readItem_151 ?_
    refine v_top (y := (nI (92 + (if (nq (uF tx) t 1 10 (nq (uF tx) t 0 3 z.2)).2 = none then tVl (uF tx) t z.2.1 else 0)))) (congrArg nI (by rw [if_pos e42])) ?_
    refine v_iload dX4_readItem_152 rfl ?_
    refine v_iast (n := 97) (a := 92 + (if (nq (uF tx) t 1 10 (nq (uF tx) t 0 3 z.2)).2 = none then tVl (uF tx) t z.2.1 else 0)) dX4_readItem_154 ⟨by decide, rfl, rfl⟩ (rfl) (by rw [if_pos e42]; omega) ?_
    have hp := PS_D hp (a := 92 + (if (nq (uF tx) t 1 10 (nq (uF tx) t 0 3 z.2)).2 = none then tVl (uF tx) t z.2.1 else 0)) (x := nI (tVl (uF tx) t ((nq (uF tx) t 0 3 z.2).1)))
    refine v_aload_n dX4_readItem_155 rfl ?_
    refine v_aload_n dX4_readItem_156 rfl ?_
    refine v_getI2 (y := (nI (tTk (uF tx) t ((rpF (uF tx) t z).2.1)))) dX4_readItem_157 fl_X4_197 ⟨by decide, rfl, by decide⟩ rfl (hp.2.2.1.2.2.1) ?_
    refine v_bipush (v := (nI 59)) dX4_readItem_160 rfl ?_
    refine v_icmpN_ne (tgt := 169) dX4_readItem_162 (by decide) (by have := tTk_b (uF tx) t (rpF (uF tx) t z).2.1; omega) (by omega) (fun c162 => ?_) (fun c162 => ?_)
    · refine v_iconst (v := (nI 0)) dX4_readItem_169 rfl ?_
      refine v_top (y := (bI (decide (tTk (uF tx) t (rpF (uF tx) t z).2.1 = 59) = true))) ((bI_f (by rw [decide_eq_true_eq]; exact c162)).symm) ?_
      refine v_callV (as := [.int (bI (decide (tTk (uF tx) t (rpF (uF tx) t z).2.1 = 59) = true))]) (st := []) dX4_readItem_170 ml_X4_209 kv_X4_must ⟨by decide, rfl, by decide⟩ ⟨(Nat.le_of_ble_eq_true rfl), (Nat.le_of_ble_eq_true rfl)⟩ rfl (Nat.le_of_ble_eq_true rfl) rfl (Nat.le_of_ble_eq_true rfl) (c_must hx ho hp (b := decide (tTk (uF tx) t (rpF (uF tx) t z).2.1 = 59))) (fun v M9 hq => ?_)
      obtain ⟨rfl, hp⟩ := hq
      refine v_pop dX4_readItem_173 rfl ?_
      refine v_vret dX4_readItem_174 rfl ?_
      have e9 : riB (uF tx) t c z = rpF (uF tx) t z := by unfold riB; rw [hso]; exact if_neg hm
      rw [e9]
      exact ⟨rfl, hp⟩
    · refine v_iconst (v := (nI 1)) dX4_readItem_165 rfl ?_
      refine v_goto (tgt := 170) dX4_readItem_166 (by decide) ?_
      refine v_top (y := (bI (decide (tTk (uF tx) t (rpF (uF tx) t z).2.1 = 59) = true))) ((bI_t (decide_eq_true c162)).symm) ?_
      refine v_callV (as := [.int (bI (decide (tTk (uF tx) t (rpF (uF tx) t z).2.1 = 59) = true))]) (st := []) dX4_readItem_170 ml_X4_209 kv_X4_must ⟨by decide, rfl, by decide⟩ ⟨(Nat.le_of_ble_eq_true rfl), (Nat.le_of_ble_eq_true rfl)⟩ rfl (Nat.le_of_ble_eq_true rfl) rfl (Nat.le_of_ble_eq_true rfl) (c_must hx ho hp (b := decide (tTk (uF tx) t (rpF (uF tx) t z).2.1 = 59))) (fun v M9 hq => ?_)
      obtain ⟨rfl, hp⟩ := hq
      refine v_pop dX4_readItem_173 rfl ?_
      refine v_vret dX4_readItem_174 rfl ?_
      have e9 : riB (uF tx) t c z = rpF (uF tx) t z := by unfold riB; rw [hso]; exact if_neg hm
      rw [e9]
      exact ⟨rfl, hp⟩
theorem c_ri2 {z : pS} (hx : xR M0 tx t) (ho : xOK tx t) (hp : PS M0 M tx t z) (hW : WF z.1) {c : Nat} (hb : rmB z.1 c = true) : V kX4_readItem (fun v M' => v = none ∧ PS M0 M' tx t ((riB (uF tx) t c z).1, scq (uF tx) t (riB (uF tx) t c z).2)) M 88 [(0, .ref 60), (1, .int (nI c)), (2, .int (oI (soO c))), (3, .int (bI (c = 103 ∨ c = 101)))] [] := by
  have hb2 := of_decide_eq_true hb
  cases hso : soO c with
  | some s =>
    refine c_ri_n hx ho hp hW hso ?_
    rcases hb2 with h | h | h
    · exact h.2
    · rcases h.1 with e | e <;> rw [e] at hso <;> cases hso
    · rw [h] at hso; cases hso
  | none =>
    by_cases hm : c = 103 ∨ c = 101
    · refine c_ri_m hx ho hp hW hso hm ?_
      rcases hb2 with h | h | h
      · exact absurd hso h.1
      · exact h.2
      · omega
    · exact c_ri_p hx ho hp hso hm
set_option maxRecDepth 100000 in
theorem c_readItem (hx : xR M0 tx t) (ho : xOK tx t) {D : Nat → Int32} {q : Nat} (hp : PS M0 M tx t (D, (q, none))) (hW : WF D) : V kX4_readItem (fun v M' => v = none ∧ PS M0 M' tx t (itR (uF tx) t D q)) M 0 [(0, .ref 60)] [] := by
  have ht := ho.1
  have hq : q ≤ t := hp.2.2.2.2.2.1
  have hpl : tPl (uF tx) t q ≤ t := (tPl_b (uF tx) hq).2
  have htk := tTk_b (uF tx) t q
  have h16 := hW.n16
  have hk6 := hW.2.1.2
  refine v_aload_n dX4_readItem_0 rfl ?_
  refine v_getI2 (y := (nI (tTk (uF tx) t q))) dX4_readItem_1 fl_X4_197 ⟨by decide, rfl, by decide⟩ rfl (hp.2.2.1.2.2.1) ?_
  refine v_istore_n (lv' := [(0, .ref 60), (1, .int (nI (tTk (uF tx) t q)))]) dX4_readItem_4 (Nat.le_of_ble_eq_true rfl) rfl ?_
  refine v_iload_n dX4_readItem_5 rfl ?_
  refine v_callSr (x := .int (oI (soO (tTk (uF tx) t q)))) (M1 := M) (as := [.int (nI (tTk (uF tx) t q))]) (st := []) dX4_readItem_6 ml_X4_220 ks_X4_sortOf ⟨(Nat.le_of_ble_eq_true rfl), (Nat.le_of_ble_eq_true rfl)⟩ rfl (Nat.le_of_ble_eq_true rfl) rfl (Nat.le_of_ble_eq_true rfl) (c_sortOf htk) ?_
  refine v_istore_n (lv' := [(0, .ref 60), (1, .int (nI (tTk (uF tx) t q))), (2, .int (oI (soO (tTk (uF tx) t q))))]) dX4_readItem_9 (Nat.le_of_ble_eq_true rfl) rfl ?_
  refine v_iload_n dX4_readItem_10 rfl ?_
  refine v_bipush (v := (nI 103)) dX4_readItem_11 rfl ?_
  refine v_icmpN_eq (tgt := 22) dX4_readItem_13 (by decide) (by omega) (by omega) (fun c13 => ?_) (fun c13 => ?_)
  · refine v_iconst (v := (nI 1)) dX4_readItem_22 rfl ?_
    refine v_goto (tgt := 27) dX4_readItem_23 (by decide) ?_
    refine v_top (y := (bI (tTk (uF tx) t q = 103 ∨ tTk (uF tx) t q = 101))) ((bI_t (by omega)).symm) ?_
    refine v_istore_n (lv' := [(0, .ref 60), (1, .int (nI (tTk (uF tx) t q))), (2, .int (oI (soO (tTk (uF tx) t q)))), (3, .int (bI (tTk (uF tx) t q = 103 ∨ tTk (uF tx) t q = 101)))]) dX4_readItem_27 (Nat.le_of_ble_eq_true rfl) rfl ?_
    refine v_aload_n dX4_readItem_28 rfl ?_
    refine v_iload_n dX4_readItem_29 rfl ?_
    refine v_bipush (v := (-9)) dX4_readItem_30 (by decide) ?_
    refine v_icmp_eq (tgt := 47) dX4_readItem_32 (by decide) (fun c32 => ?_) (fun c32 => ?_)
    · have e32 : soO (tTk (uF tx) t q) = none := (oI_none (fun m hm => by have := soO_le hm; omega)).mp c32
      refine v_iload_n dX4_readItem_47 rfl ?_
      refine v_ifB_eq (tgt := 63) dX4_readItem_48 (by decide) (fun c48 => ?_) (fun c48 => ?_)
      · refine v_iload_n dX4_readItem_63 rfl ?_
        refine v_bipush (v := (nI 112)) dX4_readItem_64 rfl ?_
        refine v_icmpN_ne (tgt := 73) dX4_readItem_66 (by decide) (by omega) (by omega) (fun c66 => ?_) (fun c66 => ?_)
        · refine v_iconst (v := (nI 0)) dX4_readItem_73 rfl ?_
          have hb : ¬ rmB D (tTk (uF tx) t q) = true := by
            unfold rmB; rw [decide_eq_true_eq]
            rintro (⟨a1, a2⟩ | ⟨a1, a2⟩ | a1)
            · first | exact a1 e32 | omega
            · first | exact c48 a1 | omega
            · exact c66 a1
          refine v_top (y := (bI (rmB D (tTk (uF tx) t q) = true))) ((bI_f hb).symm) ?_
          refine v_callV (as := [.int (bI (rmB D (tTk (uF tx) t q) = true))]) (st := []) dX4_readItem_74 ml_X4_209 kv_X4_must ⟨by decide, rfl, by decide⟩ ⟨(Nat.le_of_ble_eq_true rfl), (Nat.le_of_ble_eq_true rfl)⟩ rfl (Nat.le_of_ble_eq_true rfl) rfl (Nat.le_of_ble_eq_true rfl) (c_must hx ho hp (b := rmB D (tTk (uF tx) t q))) (fun v M1 hq9 => ?_)
          obtain ⟨rfl, hp⟩ := hq9
          rw [mq_none, if_neg hb] at hp
          refine v_pop dX4_readItem_77 rfl ?_
          refine v_aload_n dX4_readItem_78 rfl ?_
          refine v_getI2 (y := (nI (tPl (uF tx) t q))) dX4_readItem_79 fl_X4_203 ⟨by decide, rfl, by decide⟩ rfl (hp.2.2.2.1) ?_
          refine v_bipush (v := (-9)) dX4_readItem_82 (by decide) ?_
          refine v_icmp_eq (tgt := 88) dX4_readItem_84 (by decide) (fun c84 => (absurd c84 (fun z9 => absurd (nI_pos' (n := tPl (uF tx) t q) (by omega)) (by rw [z9]; decide)))) (fun c84 => ?_)
          refine v_vret dX4_readItem_87 rfl ?_
          refine ⟨rfl, ?_⟩
          have e9 : itR (uF tx) t D q = (D, (q, some (tPl (uF tx) t q))) := if_neg hb
          rw [e9]; exact hp
        · refine v_iconst (v := (nI 1)) dX4_readItem_69 rfl ?_
          refine v_goto (tgt := 74) dX4_readItem_70 (by decide) ?_
          have hb : rmB D (tTk (uF tx) t q) = true := decide_eq_true (by first | exact Or.inl ⟨e32, c44⟩ | exact Or.inr (Or.inl ⟨c48, c60⟩) | exact Or.inr (Or.inr c66))
          refine v_top (y := (bI (rmB D (tTk (uF tx) t q) = true))) ((bI_t hb).symm) ?_
          refine v_callV (as := [.int (bI (rmB D (tTk (uF tx) t q) = true))]) (st := []) dX4_readItem_74 ml_X4_209 kv_X4_must ⟨by decide, rfl, by decide⟩ ⟨(Nat.le_of_ble_eq_true rfl), (Nat.le_of_ble_eq_true rfl)⟩ rfl (Nat.le_of_ble_eq_true rfl) rfl (Nat.le_of_ble_eq_true rfl) (c_must hx ho hp (b := rmB D (tTk (uF tx) t q))) (fun v M1 hq9 => ?_)
          obtain ⟨rfl, hp⟩ := hq9
          rw [mq_none, if_pos hb] at hp
          refine v_pop dX4_readItem_77 rfl ?_
          refine v_aload_n dX4_readItem_78 rfl ?_
          refine v_getI2 (y := ((-9))) dX4_readItem_79 fl_X4_203 ⟨by decide, rfl, by decide⟩ rfl (hp.2.2.2.1) ?_
          refine v_bipush (v := (-9)) dX4_readItem_82 (by decide) ?_
          refine v_icmp_eq (tgt := 88) dX4_readItem_84 (by decide) (fun c84 => ?_) (fun c84 => (absurd rfl c84))
          refine v_post ?_ (c_ri2 hx ho hp hW hb)
          rintro v M' ⟨rfl, g1⟩
          refine ⟨rfl, ?_⟩
          rw [show itR (uF tx) t D q = _ from if_pos hb]
          exact g1
      · refine v_aload_n dX4_readItem_51 rfl ?_
        refine v_getR (t := 62) dX4_readItem_52 fl_X4_13 ⟨by decide, rfl, by decide⟩ rfl rfl ?_
        refine v_bipush (v := (nI 96)) dX4_readItem_55 rfl ?_
        refine v_iald2 (n := 97) (a := 96) (y := (nI (nK D))) dX4_readItem_57 ⟨by decide, rfl, rfl⟩ (rfl) (by omega) (by rw [hp.2.2.2.2.1]; exact hW.2.1.1) ?_
        refine v_bipush (v := (nI 6)) dX4_readItem_58 rfl ?_
        refine v_icmpN_lt (tgt := 69) dX4_readItem_60 (by decide) (by omega) (by omega) (fun c60 => ?_) (fun c60 => ?_)
        · refine v_iconst (v := (nI 1)) dX4_readItem_69 rfl ?_
          refine v_goto (tgt := 74) dX4_readItem_70 (by decide) ?_
          have hb : rmB D (tTk (uF tx) t q) = true := decide_eq_true (by first | exact Or.inl ⟨e32, c44⟩ | exact Or.inr (Or.inl ⟨c48, c60⟩) | exact Or.inr (Or.inr c66))
          refine v_top (y := (bI (rmB D (tTk (uF tx) t q) = true))) ((bI_t hb).symm) ?_
          refine v_callV (as := [.int (bI (rmB D (tTk (uF tx) t q) = true))]) (st := []) dX4_readItem_74 ml_X4_209 kv_X4_must ⟨by decide, rfl, by decide⟩ ⟨(Nat.le_of_ble_eq_true rfl), (Nat.le_of_ble_eq_true rfl)⟩ rfl (Nat.le_of_ble_eq_true rfl) rfl (Nat.le_of_ble_eq_true rfl) (c_must hx ho hp (b := rmB D (tTk (uF tx) t q))) (fun v M1 hq9 => ?_)
          obtain ⟨rfl, hp⟩ := hq9
          rw [mq_none, if_pos hb] at hp
          refine v_pop dX4_readItem_77 rfl ?_
          refine v_aload_n dX4_readItem_78 rfl ?_
          refine v_getI2 (y := ((-9))) dX4_readItem_79 fl_X4_203 ⟨by decide, rfl, by decide⟩ rfl (hp.2.2.2.1) ?_
          refine v_bipush (v := (-9)) dX4_readItem_82 (by decide) ?_
          refine v_icmp_eq (tgt := 88) dX4_readItem_84 (by decide) (fun c84 => ?_) (fun c84 => (absurd rfl c84))
          refine v_post ?_ (c_ri2 hx ho hp hW hb)
          rintro v M' ⟨rfl, g1⟩
          refine ⟨rfl, ?_⟩
          rw [show itR (uF tx) t D q = _ from if_pos hb]
          exact g1
        · refine v_iload_n dX4_readItem_63 rfl ?_
          refine v_bipush (v := (nI 112)) dX4_readItem_64 rfl ?_
          refine v_icmpN_ne (tgt := 73) dX4_readItem_66 (by decide) (by omega) (by omega) (fun c66 => ?_) (fun c66 => ?_)
          · refine v_iconst (v := (nI 0)) dX4_readItem_73 rfl ?_
            have hb : ¬ rmB D (tTk (uF tx) t q) = true := by
              unfold rmB; rw [decide_eq_true_eq]
              rintro (⟨a1, a2⟩ | ⟨a1, a2⟩ | a1)
              · first | exact a1 e32 | omega
              · first | exact c48 a1 | omega
              · exact c66 a1
            refine v_top (y := (bI (rmB D (tTk (uF tx) t q) = true))) ((bI_f hb).symm) ?_
            refine v_callV (as := [.int (bI (rmB D (tTk (uF tx) t q) = true))]) (st := []) dX4_readItem_74 ml_X4_209 kv_X4_must ⟨by decide, rfl, by decide⟩ ⟨(Nat.le_of_ble_eq_true rfl), (Nat.le_of_ble_eq_true rfl)⟩ rfl (Nat.le_of_ble_eq_true rfl) rfl (Nat.le_of_ble_eq_true rfl) (c_must hx ho hp (b := rmB D (tTk (uF tx) t q))) (fun v M1 hq9 => ?_)
            obtain ⟨rfl, hp⟩ := hq9
            rw [mq_none, if_neg hb] at hp
            refine v_pop dX4_readItem_77 rfl ?_
            refine v_aload_n dX4_readItem_78 rfl ?_
            refine v_getI2 (y := (nI (tPl (uF tx) t q))) dX4_readItem_79 fl_X4_203 ⟨by decide, rfl, by decide⟩ rfl (hp.2.2.2.1) ?_
            refine v_bipush (v := (-9)) dX4_readItem_82 (by decide) ?_
            refine v_icmp_eq (tgt := 88) dX4_readItem_84 (by decide) (fun c84 => (absurd c84 (fun z9 => absurd (nI_pos' (n := tPl (uF tx) t q) (by omega)) (by rw [z9]; decide)))) (fun c84 => ?_)
            refine v_vret dX4_readItem_87 rfl ?_
            refine ⟨rfl, ?_⟩
            have e9 : itR (uF tx) t D q = (D, (q, some (tPl (uF tx) t q))) := if_neg hb
            rw [e9]; exact hp
          · refine v_iconst (v := (nI 1)) dX4_readItem_69 rfl ?_
            refine v_goto (tgt := 74) dX4_readItem_70 (by decide) ?_
            have hb : rmB D (tTk (uF tx) t q) = true := decide_eq_true (by first | exact Or.inl ⟨e32, c44⟩ | exact Or.inr (Or.inl ⟨c48, c60⟩) | exact Or.inr (Or.inr c66))
            refine v_top (y := (bI (rmB D (tTk (uF tx) t q) = true))) ((bI_t hb).symm) ?_
            refine v_callV (as := [.int (bI (rmB D (tTk (uF tx) t q) = true))]) (st := []) dX4_readItem_74 ml_X4_209 kv_X4_must ⟨by decide, rfl, by decide⟩ ⟨(Nat.le_of_ble_eq_true rfl), (Nat.le_of_ble_eq_true rfl)⟩ rfl (Nat.le_of_ble_eq_true rfl) rfl (Nat.le_of_ble_eq_true rfl) (c_must hx ho hp (b := rmB D (tTk (uF tx) t q))) (fun v M1 hq9 => ?_)
            obtain ⟨rfl, hp⟩ := hq9
            rw [mq_none, if_pos hb] at hp
            refine v_pop dX4_readItem_77 rfl ?_
            refine v_aload_n dX4_readItem_78 rfl ?_
            refine v_getI2 (y := ((-9))) dX4_readItem_79 fl_X4_203 ⟨by decide, rfl, by decide⟩ rfl (hp.2.2.2.1) ?_
            refine v_bipush (v := (-9)) dX4_readItem_82 (by decide) ?_
            refine v_icmp_eq (tgt := 88) dX4_readItem_84 (by decide) (fun c84 => ?_) (fun c84 => (absurd rfl c84))
            refine v_post ?_ (c_ri2 hx ho hp hW hb)
            rintro v M' ⟨rfl, g1⟩
            refine ⟨rfl, ?_⟩
            rw [show itR (uF tx) t D q = _ from if_pos hb]
            exact g1
    · have e32 : soO (tTk (uF tx) t q) ≠ none := fun z9 => c32 ((oI_none (fun m hm => by have := soO_le hm; omega)).mpr z9)
      refine v_aload_n dX4_readItem_35 rfl ?_
      refine v_getR (t := 62) dX4_readItem_36 fl_X4_13 ⟨by decide, rfl, by decide⟩ rfl rfl ?_
      refine v_bipush (v := (nI 95)) dX4_readItem_39 rfl ?_
      refine v_iald2 (n := 97) (a := 95) (y := (nI (nN D))) dX4_readItem_41 ⟨by decide, rfl, rfl⟩ (rfl) (by omega) (by rw [hp.2.2.2.2.1]; exact hW.1.1) ?_
      refine v_bipush (v := (nI 16)) dX4_readItem_42 rfl ?_
      refine v_icmpN_lt (tgt := 69) dX4_readItem_44 (by decide) (by omega) (by omega) (fun c44 => ?_) (fun c44 => ?_)
      · refine v_iconst (v := (nI 1)) dX4_readItem_69 rfl ?_
        refine v_goto (tgt := 74) dX4_readItem_70 (by decide) ?_
        have hb : rmB D (tTk (uF tx) t q) = true := decide_eq_true (by first | exact Or.inl ⟨e32, c44⟩ | exact Or.inr (Or.inl ⟨c48, c60⟩) | exact Or.inr (Or.inr c66))
        refine v_top (y := (bI (rmB D (tTk (uF tx) t q) = true))) ((bI_t hb).symm) ?_
        refine v_callV (as := [.int (bI (rmB D (tTk (uF tx) t q) = true))]) (st := []) dX4_readItem_74 ml_X4_209 kv_X4_must ⟨by decide, rfl, by decide⟩ ⟨(Nat.le_of_ble_eq_true rfl), (Nat.le_of_ble_eq_true rfl)⟩ rfl (Nat.le_of_ble_eq_true rfl) rfl (Nat.le_of_ble_eq_true rfl) (c_must hx ho hp (b := rmB D (tTk (uF tx) t q))) (fun v M1 hq9 => ?_)
        obtain ⟨rfl, hp⟩ := hq9
        rw [mq_none, if_pos hb] at hp
        refine v_pop dX4_readItem_77 rfl ?_
        refine v_aload_n dX4_readItem_78 rfl ?_
        refine v_getI2 (y := ((-9))) dX4_readItem_79 fl_X4_203 ⟨by decide, rfl, by decide⟩ rfl (hp.2.2.2.1) ?_
        refine v_bipush (v := (-9)) dX4_readItem_82 (by decide) ?_
        refine v_icmp_eq (tgt := 88) dX4_readItem_84 (by decide) (fun c84 => ?_) (fun c84 => (absurd rfl c84))
        refine v_post ?_ (c_ri2 hx ho hp hW hb)
        rintro v M' ⟨rfl, g1⟩
        refine ⟨rfl, ?_⟩
        rw [show itR (uF tx) t D q = _ from if_pos hb]
        exact g1
      · refine v_iload_n dX4_readItem_47 rfl ?_
        refine v_ifB_eq (tgt := 63) dX4_readItem_48 (by decide) (fun c48 => ?_) (fun c48 => ?_)
        · refine v_iload_n dX4_readItem_63 rfl ?_
          refine v_bipush (v := (nI 112)) dX4_readItem_64 rfl ?_
          refine v_icmpN_ne (tgt := 73) dX4_readItem_66 (by decide) (by omega) (by omega) (fun c66 => ?_) (fun c66 => ?_)
          · refine v_iconst (v := (nI 0)) dX4_readItem_73 rfl ?_
            have hb : ¬ rmB D (tTk (uF tx) t q) = true := by
              unfold rmB; rw [decide_eq_true_eq]
              rintro (⟨a1, a2⟩ | ⟨a1, a2⟩ | a1)
              · first | exact a1 e32 | omega
              · first | exact c48 a1 | omega
              · exact c66 a1
            refine v_top (y := (bI (rmB D (tTk (uF tx) t q) = true))) ((bI_f hb).symm) ?_
            refine v_callV (as := [.int (bI (rmB D (tTk (uF tx) t q) = true))]) (st := []) dX4_readItem_74 ml_X4_209 kv_X4_must ⟨by decide, rfl, by decide⟩ ⟨(Nat.le_of_ble_eq_true rfl), (Nat.le_of_ble_eq_true rfl)⟩ rfl (Nat.le_of_ble_eq_true rfl) rfl (Nat.le_of_ble_eq_true rfl) (c_must hx ho hp (b := rmB D (tTk (uF tx) t q))) (fun v M1 hq9 => ?_)
            obtain ⟨rfl, hp⟩ := hq9
            rw [mq_none, if_neg hb] at hp
            refine v_pop dX4_readItem_77 rfl ?_
            refine v_aload_n dX4_readItem_78 rfl ?_
            refine v_getI2 (y := (nI (tPl (uF tx) t q))) dX4_readItem_79 fl_X4_203 ⟨by decide, rfl, by decide⟩ rfl (hp.2.2.2.1) ?_
            refine v_bipush (v := (-9)) dX4_readItem_82 (by decide) ?_
            refine v_icmp_eq (tgt := 88) dX4_readItem_84 (by decide) (fun c84 => (absurd c84 (fun z9 => absurd (nI_pos' (n := tPl (uF tx) t q) (by omega)) (by rw [z9]; decide)))) (fun c84 => ?_)
            refine v_vret dX4_readItem_87 rfl ?_
            refine ⟨rfl, ?_⟩
            have e9 : itR (uF tx) t D q = (D, (q, some (tPl (uF tx) t q))) := if_neg hb
            rw [e9]; exact hp
          · refine v_iconst (v := (nI 1)) dX4_readItem_69 rfl ?_
            refine v_goto (tgt := 74) dX4_readItem_70 (by decide) ?_
            have hb : rmB D (tTk (uF tx) t q) = true := decide_eq_true (by first | exact Or.inl ⟨e32, c44⟩ | exact Or.inr (Or.inl ⟨c48, c60⟩) | exact Or.inr (Or.inr c66))
            refine v_top (y := (bI (rmB D (tTk (uF tx) t q) = true))) ((bI_t hb).symm) ?_
            refine v_callV (as := [.int (bI (rmB D (tTk (uF tx) t q) = true))]) (st := []) dX4_readItem_74 ml_X4_209 kv_X4_must ⟨by decide, rfl, by decide⟩ ⟨(Nat.le_of_ble_eq_true rfl), (Nat.le_of_ble_eq_true rfl)⟩ rfl (Nat.le_of_ble_eq_true rfl) rfl (Nat.le_of_ble_eq_true rfl) (c_must hx ho hp (b := rmB D (tTk (uF tx) t q))) (fun v M1 hq9 => ?_)
            obtain ⟨rfl, hp⟩ := hq9
            rw [mq_none, if_pos hb] at hp
            refine v_pop dX4_readItem_77 rfl ?_
            refine v_aload_n dX4_readItem_78 rfl ?_
            refine v_getI2 (y := ((-9))) dX4_readItem_79 fl_X4_203 ⟨by decide, rfl, by decide⟩ rfl (hp.2.2.2.1) ?_
            refine v_bipush (v := (-9)) dX4_readItem_82 (by decide) ?_
            refine v_icmp_eq (tgt := 88) dX4_readItem_84 (by decide) (fun c84 => ?_) (fun c84 => (absurd rfl c84))
            refine v_post ?_ (c_ri2 hx ho hp hW hb)
            rintro v M' ⟨rfl, g1⟩
            refine ⟨rfl, ?_⟩
            rw [show itR (uF tx) t D q = _ from if_pos hb]
            exact g1
        · refine v_aload_n dX4_readItem_51 rfl ?_
          refine v_getR (t := 62) dX4_readItem_52 fl_X4_13 ⟨by decide, rfl, by decide⟩ rfl rfl ?_
          refine v_bipush (v := (nI 96)) dX4_readItem_55 rfl ?_
          refine v_iald2 (n := 97) (a := 96) (y := (nI (nK D))) dX4_readItem_57 ⟨by decide, rfl, rfl⟩ (rfl) (by omega) (by rw [hp.2.2.2.2.1]; exact hW.2.1.1) ?_
          refine v_bipush (v := (nI 6)) dX4_readItem_58 rfl ?_
          refine v_icmpN_lt (tgt := 69) dX4_readItem_60 (by decide) (by omega) (by omega) (fun c60 => ?_) (fun c60 => ?_)
          · refine v_iconst (v := (nI 1)) dX4_readItem_69 rfl ?_
            refine v_goto (tgt := 74) dX4_readItem_70 (by decide) ?_
            have hb : rmB D (tTk (uF tx) t q) = true := decide_eq_true (by first | exact Or.inl ⟨e32, c44⟩ | exact Or.inr (Or.inl ⟨c48, c60⟩) | exact Or.inr (Or.inr c66))
            refine v_top (y := (bI (rmB D (tTk (uF tx) t q) = true))) ((bI_t hb).symm) ?_
            refine v_callV (as := [.int (bI (rmB D (tTk (uF tx) t q) = true))]) (st := []) dX4_readItem_74 ml_X4_209 kv_X4_must ⟨by decide, rfl, by decide⟩ ⟨(Nat.le_of_ble_eq_true rfl), (Nat.le_of_ble_eq_true rfl)⟩ rfl (Nat.le_of_ble_eq_true rfl) rfl (Nat.le_of_ble_eq_true rfl) (c_must hx ho hp (b := rmB D (tTk (uF tx) t q))) (fun v M1 hq9 => ?_)
            obtain ⟨rfl, hp⟩ := hq9
            rw [mq_none, if_pos hb] at hp
            refine v_pop dX4_readItem_77 rfl ?_
            refine v_aload_n dX4_readItem_78 rfl ?_
            refine v_getI2 (y := ((-9))) dX4_readItem_79 fl_X4_203 ⟨by decide, rfl, by decide⟩ rfl (hp.2.2.2.1) ?_
            refine v_bipush (v := (-9)) dX4_readItem_82 (by decide) ?_
            refine v_icmp_eq (tgt := 88) dX4_readItem_84 (by decide) (fun c84 => ?_) (fun c84 => (absurd rfl c84))
            refine v_post ?_ (c_ri2 hx ho hp hW hb)
            rintro v M' ⟨rfl, g1⟩
            refine ⟨rfl, ?_⟩
            rw [show itR (uF tx) t D q = _ from if_pos hb]
            exact g1
          · refine v_iload_n dX4_readItem_63 rfl ?_
            refine v_bipush (v := (nI 112)) dX4_readItem_64 rfl ?_
            refine v_icmpN_ne (tgt := 73) dX4_readItem_66 (by decide) (by omega) (by omega) (fun c66 => ?_) (fun c66 => ?_)
            · refine v_iconst (v := (nI 0)) dX4_readItem_73 rfl ?_
              have hb : ¬ rmB D (tTk (uF tx) t q) = true := by
                unfold rmB; rw [decide_eq_true_eq]
                rintro (⟨a1, a2⟩ | ⟨a1, a2⟩ | a1)
                · first | exact a1 e32 | omega
                · first | exact c48 a1 | omega
                · exact c66 a1
              refine v_top (y := (bI (rmB D (tTk (uF tx) t q) = true))) ((bI_f hb).symm) ?_
              refine v_callV (as := [.int (bI (rmB D (tTk (uF tx) t q) = true))]) (st := []) dX4_readItem_74 ml_X4_209 kv_X4_must ⟨by decide, rfl, by decide⟩ ⟨(Nat.le_of_ble_eq_true rfl), (Nat.le_of_ble_eq_true rfl)⟩ rfl (Nat.le_of_ble_eq_true rfl) rfl (Nat.le_of_ble_eq_true rfl) (c_must hx ho hp (b := rmB D (tTk (uF tx) t q))) (fun v M1 hq9 => ?_)
              obtain ⟨rfl, hp⟩ := hq9
              rw [mq_none, if_neg hb] at hp
              refine v_pop dX4_readItem_77 rfl ?_
              refine v_aload_n dX4_readItem_78 rfl ?_
              refine v_getI2 (y := (nI (tPl (uF tx) t q))) dX4_readItem_79 fl_X4_203 ⟨by decide, rfl, by decide⟩ rfl (hp.2.2.2.1) ?_
              refine v_bipush (v := (-9)) dX4_readItem_82 (by decide) ?_
              refine v_icmp_eq (tgt := 88) dX4_readItem_84 (by decide) (fun c84 => (absurd c84 (fun z9 => absurd (nI_pos' (n := tPl (uF tx) t q) (by omega)) (by rw [z9]; decide)))) (fun c84 => ?_)
              refine v_vret dX4_readItem_87 rfl ?_
              refine ⟨rfl, ?_⟩
              have e9 : itR (uF tx) t D q = (D, (q, some (tPl (uF tx) t q))) := if_neg hb
              rw [e9]; exact hp
            · refine v_iconst (v := (nI 1)) dX4_readItem_69 rfl ?_
              refine v_goto (tgt := 74) dX4_readItem_70 (by decide) ?_
              have hb : rmB D (tTk (uF tx) t q) = true := decide_eq_true (by first | exact Or.inl ⟨e32, c44⟩ | exact Or.inr (Or.inl ⟨c48, c60⟩) | exact Or.inr (Or.inr c66))
              refine v_top (y := (bI (rmB D (tTk (uF tx) t q) = true))) ((bI_t hb).symm) ?_
              refine v_callV (as := [.int (bI (rmB D (tTk (uF tx) t q) = true))]) (st := []) dX4_readItem_74 ml_X4_209 kv_X4_must ⟨by decide, rfl, by decide⟩ ⟨(Nat.le_of_ble_eq_true rfl), (Nat.le_of_ble_eq_true rfl)⟩ rfl (Nat.le_of_ble_eq_true rfl) rfl (Nat.le_of_ble_eq_true rfl) (c_must hx ho hp (b := rmB D (tTk (uF tx) t q))) (fun v M1 hq9 => ?_)
              obtain ⟨rfl, hp⟩ := hq9
              rw [mq_none, if_pos hb] at hp
              refine v_pop dX4_readItem_77 rfl ?_
              refine v_aload_n dX4_readItem_78 rfl ?_
              refine v_getI2 (y := ((-9))) dX4_readItem_79 fl_X4_203 ⟨by decide, rfl, by decide⟩ rfl (hp.2.2.2.1) ?_
              refine v_bipush (v := (-9)) dX4_readItem_82 (by decide) ?_
              refine v_icmp_eq (tgt := 88) dX4_readItem_84 (by decide) (fun c84 => ?_) (fun c84 => (absurd rfl c84))
              refine v_post ?_ (c_ri2 hx ho hp hW hb)
              rintro v M' ⟨rfl, g1⟩
              refine ⟨rfl, ?_⟩
              rw [show itR (uF tx) t D q = _ from if_pos hb]
              exact g1
  · refine v_iload_n dX4_readItem_16 rfl ?_
    refine v_bipush (v := (nI 101)) dX4_readItem_17 rfl ?_
    refine v_icmpN_ne (tgt := 26) dX4_readItem_19 (by decide) (by omega) (by omega) (fun c19 => ?_) (fun c19 => ?_)
    · refine v_iconst (v := (nI 0)) dX4_readItem_26 rfl ?_
      refine v_top (y := (bI (tTk (uF tx) t q = 103 ∨ tTk (uF tx) t q = 101))) ((bI_f (by omega)).symm) ?_
      refine v_istore_n (lv' := [(0, .ref 60), (1, .int (nI (tTk (uF tx) t q))), (2, .int (oI (soO (tTk (uF tx) t q)))), (3, .int (bI (tTk (uF tx) t q = 103 ∨ tTk (uF tx) t q = 101)))]) dX4_readItem_27 (Nat.le_of_ble_eq_true rfl) rfl ?_
      refine v_aload_n dX4_readItem_28 rfl ?_
      refine v_iload_n dX4_readItem_29 rfl ?_
      refine v_bipush (v := (-9)) dX4_readItem_30 (by decide) ?_
      refine v_icmp_eq (tgt := 47) dX4_readItem_32 (by decide) (fun c32 => ?_) (fun c32 => ?_)
      · have e32 : soO (tTk (uF tx) t q) = none := (oI_none (fun m hm => by have := soO_le hm; omega)).mp c32
        refine v_iload_n dX4_readItem_47 rfl ?_
        refine v_ifB_eq (tgt := 63) dX4_readItem_48 (by decide) (fun c48 => ?_) (fun c48 => ?_)
        · refine v_iload_n dX4_readItem_63 rfl ?_
          refine v_bipush (v := (nI 112)) dX4_readItem_64 rfl ?_
          refine v_icmpN_ne (tgt := 73) dX4_readItem_66 (by decide) (by omega) (by omega) (fun c66 => ?_) (fun c66 => ?_)
          · refine v_iconst (v := (nI 0)) dX4_readItem_73 rfl ?_
            have hb : ¬ rmB D (tTk (uF tx) t q) = true := by
              unfold rmB; rw [decide_eq_true_eq]
              rintro (⟨a1, a2⟩ | ⟨a1, a2⟩ | a1)
              · first | exact a1 e32 | omega
              · first | exact c48 a1 | omega
              · exact c66 a1
            refine v_top (y := (bI (rmB D (tTk (uF tx) t q) = true))) ((bI_f hb).symm) ?_
            refine v_callV (as := [.int (bI (rmB D (tTk (uF tx) t q) = true))]) (st := []) dX4_readItem_74 ml_X4_209 kv_X4_must ⟨by decide, rfl, by decide⟩ ⟨(Nat.le_of_ble_eq_true rfl), (Nat.le_of_ble_eq_true rfl)⟩ rfl (Nat.le_of_ble_eq_true rfl) rfl (Nat.le_of_ble_eq_true rfl) (c_must hx ho hp (b := rmB D (tTk (uF tx) t q))) (fun v M1 hq9 => ?_)
            obtain ⟨rfl, hp⟩ := hq9
            rw [mq_none, if_neg hb] at hp
            refine v_pop dX4_readItem_77 rfl ?_
            refine v_aload_n dX4_readItem_78 rfl ?_
            refine v_getI2 (y := (nI (tPl (uF tx) t q))) dX4_readItem_79 fl_X4_203 ⟨by decide, rfl, by decide⟩ rfl (hp.2.2.2.1) ?_
            refine v_bipush (v := (-9)) dX4_readItem_82 (by decide) ?_
            refine v_icmp_eq (tgt := 88) dX4_readItem_84 (by decide) (fun c84 => (absurd c84 (fun z9 => absurd (nI_pos' (n := tPl (uF tx) t q) (by omega)) (by rw [z9]; decide)))) (fun c84 => ?_)
            refine v_vret dX4_readItem_87 rfl ?_
            refine ⟨rfl, ?_⟩
            have e9 : itR (uF tx) t D q = (D, (q, some (tPl (uF tx) t q))) := if_neg hb
            rw [e9]; exact hp
          · refine v_iconst (v := (nI 1)) dX4_readItem_69 rfl ?_
            refine v_goto (tgt := 74) dX4_readItem_70 (by decide) ?_
            have hb : rmB D (tTk (uF tx) t q) = true := decide_eq_true (by first | exact Or.inl ⟨e32, c44⟩ | exact Or.inr (Or.inl ⟨c48, c60⟩) | exact Or.inr (Or.inr c66))
            refine v_top (y := (bI (rmB D (tTk (uF tx) t q) = true))) ((bI_t hb).symm) ?_
            refine v_callV (as := [.int (bI (rmB D (tTk (uF tx) t q) = true))]) (st := []) dX4_readItem_74 ml_X4_209 kv_X4_must ⟨by decide, rfl, by decide⟩ ⟨(Nat.le_of_ble_eq_true rfl), (Nat.le_of_ble_eq_true rfl)⟩ rfl (Nat.le_of_ble_eq_true rfl) rfl (Nat.le_of_ble_eq_true rfl) (c_must hx ho hp (b := rmB D (tTk (uF tx) t q))) (fun v M1 hq9 => ?_)
            obtain ⟨rfl, hp⟩ := hq9
            rw [mq_none, if_pos hb] at hp
            refine v_pop dX4_readItem_77 rfl ?_
            refine v_aload_n dX4_readItem_78 rfl ?_
            refine v_getI2 (y := ((-9))) dX4_readItem_79 fl_X4_203 ⟨by decide, rfl, by decide⟩ rfl (hp.2.2.2.1) ?_
            refine v_bipush (v := (-9)) dX4_readItem_82 (by decide) ?_
            refine v_icmp_eq (tgt := 88) dX4_readItem_84 (by decide) (fun c84 => ?_) (fun c84 => (absurd rfl c84))
            refine v_post ?_ (c_ri2 hx ho hp hW hb)
            rintro v M' ⟨rfl, g1⟩
            refine ⟨rfl, ?_⟩
            rw [show itR (uF tx) t D q = _ from if_pos hb]
            exact g1
        · refine v_aload_n dX4_readItem_51 rfl ?_
          refine v_getR (t := 62) dX4_readItem_52 fl_X4_13 ⟨by decide, rfl, by decide⟩ rfl rfl ?_
          refine v_bipush (v := (nI 96)) dX4_readItem_55 rfl ?_
          refine v_iald2 (n := 97) (a := 96) (y := (nI (nK D))) dX4_readItem_57 ⟨by decide, rfl, rfl⟩ (rfl) (by omega) (by rw [hp.2.2.2.2.1]; exact hW.2.1.1) ?_
          refine v_bipush (v := (nI 6)) dX4_readItem_58 rfl ?_
          refine v_icmpN_lt (tgt := 69) dX4_readItem_60 (by decide) (by omega) (by omega) (fun c60 => ?_) (fun c60 => ?_)
          · refine v_iconst (v := (nI 1)) dX4_readItem_69 rfl ?_
            refine v_goto (tgt := 74) dX4_readItem_70 (by decide) ?_
            have hb : rmB D (tTk (uF tx) t q) = true := decide_eq_true (by first | exact Or.inl ⟨e32, c44⟩ | exact Or.inr (Or.inl ⟨c48, c60⟩) | exact Or.inr (Or.inr c66))
            refine v_top (y := (bI (rmB D (tTk (uF tx) t q) = true))) ((bI_t hb).symm) ?_
            refine v_callV (as := [.int (bI (rmB D (tTk (uF tx) t q) = true))]) (st := []) dX4_readItem_74 ml_X4_209 kv_X4_must ⟨by decide, rfl, by decide⟩ ⟨(Nat.le_of_ble_eq_true rfl), (Nat.le_of_ble_eq_true rfl)⟩ rfl (Nat.le_of_ble_eq_true rfl) rfl (Nat.le_of_ble_eq_true rfl) (c_must hx ho hp (b := rmB D (tTk (uF tx) t q))) (fun v M1 hq9 => ?_)
            obtain ⟨rfl, hp⟩ := hq9
            rw [mq_none, if_pos hb] at hp
            refine v_pop dX4_readItem_77 rfl ?_
            refine v_aload_n dX4_readItem_78 rfl ?_
            refine v_getI2 (y := ((-9))) dX4_readItem_79 fl_X4_203 ⟨by decide, rfl, by decide⟩ rfl (hp.2.2.2.1) ?_
            refine v_bipush (v := (-9)) dX4_readItem_82 (by decide) ?_
            refine v_icmp_eq (tgt := 88) dX4_readItem_84 (by decide) (fun c84 => ?_) (fun c84 => (absurd rfl c84))
            refine v_post ?_ (c_ri2 hx ho hp hW hb)
            rintro v M' ⟨rfl, g1⟩
            refine ⟨rfl, ?_⟩
            rw [show itR (uF tx) t D q = _ from if_pos hb]
            exact g1
          · refine v_iload_n dX4_readItem_63 rfl ?_
            refine v_bipush (v := (nI 112)) dX4_readItem_64 rfl ?_
            refine v_icmpN_ne (tgt := 73) dX4_readItem_66 (by decide) (by omega) (by omega) (fun c66 => ?_) (fun c66 => ?_)
            · refine v_iconst (v := (nI 0)) dX4_readItem_73 rfl ?_
              have hb : ¬ rmB D (tTk (uF tx) t q) = true := by
                unfold rmB; rw [decide_eq_true_eq]
                rintro (⟨a1, a2⟩ | ⟨a1, a2⟩ | a1)
                · first | exact a1 e32 | omega
                · first | exact c48 a1 | omega
                · exact c66 a1
              refine v_top (y := (bI (rmB D (tTk (uF tx) t q) = true))) ((bI_f hb).symm) ?_
              refine v_callV (as := [.int (bI (rmB D (tTk (uF tx) t q) = true))]) (st := []) dX4_readItem_74 ml_X4_209 kv_X4_must ⟨by decide, rfl, by decide⟩ ⟨(Nat.le_of_ble_eq_true rfl), (Nat.le_of_ble_eq_true rfl)⟩ rfl (Nat.le_of_ble_eq_true rfl) rfl (Nat.le_of_ble_eq_true rfl) (c_must hx ho hp (b := rmB D (tTk (uF tx) t q))) (fun v M1 hq9 => ?_)
              obtain ⟨rfl, hp⟩ := hq9
              rw [mq_none, if_neg hb] at hp
              refine v_pop dX4_readItem_77 rfl ?_
              refine v_aload_n dX4_readItem_78 rfl ?_
              refine v_getI2 (y := (nI (tPl (uF tx) t q))) dX4_readItem_79 fl_X4_203 ⟨by decide, rfl, by decide⟩ rfl (hp.2.2.2.1) ?_
              refine v_bipush (v := (-9)) dX4_readItem_82 (by decide) ?_
              refine v_icmp_eq (tgt := 88) dX4_readItem_84 (by decide) (fun c84 => (absurd c84 (fun z9 => absurd (nI_pos' (n := tPl (uF tx) t q) (by omega)) (by rw [z9]; decide)))) (fun c84 => ?_)
              refine v_vret dX4_readItem_87 rfl ?_
              refine ⟨rfl, ?_⟩
              have e9 : itR (uF tx) t D q = (D, (q, some (tPl (uF tx) t q))) := if_neg hb
              rw [e9]; exact hp
            · refine v_iconst (v := (nI 1)) dX4_readItem_69 rfl ?_
              refine v_goto (tgt := 74) dX4_readItem_70 (by decide) ?_
              have hb : rmB D (tTk (uF tx) t q) = true := decide_eq_true (by first | exact Or.inl ⟨e32, c44⟩ | exact Or.inr (Or.inl ⟨c48, c60⟩) | exact Or.inr (Or.inr c66))
              refine v_top (y := (bI (rmB D (tTk (uF tx) t q) = true))) ((bI_t hb).symm) ?_
              refine v_callV (as := [.int (bI (rmB D (tTk (uF tx) t q) = true))]) (st := []) dX4_readItem_74 ml_X4_209 kv_X4_must ⟨by decide, rfl, by decide⟩ ⟨(Nat.le_of_ble_eq_true rfl), (Nat.le_of_ble_eq_true rfl)⟩ rfl (Nat.le_of_ble_eq_true rfl) rfl (Nat.le_of_ble_eq_true rfl) (c_must hx ho hp (b := rmB D (tTk (uF tx) t q))) (fun v M1 hq9 => ?_)
              obtain ⟨rfl, hp⟩ := hq9
              rw [mq_none, if_pos hb] at hp
              refine v_pop dX4_readItem_77 rfl ?_
              refine v_aload_n dX4_readItem_78 rfl ?_
              refine v_getI2 (y := ((-9))) dX4_readItem_79 fl_X4_203 ⟨by decide, rfl, by decide⟩ rfl (hp.2.2.2.1) ?_
              refine v_bipush (v := (-9)) dX4_readItem_82 (by decide) ?_
              refine v_icmp_eq (tgt := 88) dX4_readItem_84 (by decide) (fun c84 => ?_) (fun c84 => (absurd rfl c84))
              refine v_post ?_ (c_ri2 hx ho hp hW hb)
              rintro v M' ⟨rfl, g1⟩
              refine ⟨rfl, ?_⟩
              rw [show itR (uF tx) t D q = _ from if_pos hb]
              exact g1
      · have e32 : soO (tTk (uF tx) t q) ≠ none := fun z9 => c32 ((oI_none (fun m hm => by have := soO_le hm; omega)).mpr z9)
        refine v_aload_n dX4_readItem_35 rfl ?_
        refine v_getR (t := 62) dX4_readItem_36 fl_X4_13 ⟨by decide, rfl, by decide⟩ rfl rfl ?_
        refine v_bipush (v := (nI 95)) dX4_readItem_39 rfl ?_
        refine v_iald2 (n := 97) (a := 95) (y := (nI (nN D))) dX4_readItem_41 ⟨by decide, rfl, rfl⟩ (rfl) (by omega) (by rw [hp.2.2.2.2.1]; exact hW.1.1) ?_
        refine v_bipush (v := (nI 16)) dX4_readItem_42 rfl ?_
        refine v_icmpN_lt (tgt := 69) dX4_readItem_44 (by decide) (by omega) (by omega) (fun c44 => ?_) (fun c44 => ?_)
        · refine v_iconst (v := (nI 1)) dX4_readItem_69 rfl ?_
          refine v_goto (tgt := 74) dX4_readItem_70 (by decide) ?_
          have hb : rmB D (tTk (uF tx) t q) = true := decide_eq_true (by first | exact Or.inl ⟨e32, c44⟩ | exact Or.inr (Or.inl ⟨c48, c60⟩) | exact Or.inr (Or.inr c66))
          refine v_top (y := (bI (rmB D (tTk (uF tx) t q) = true))) ((bI_t hb).symm) ?_
          refine v_callV (as := [.int (bI (rmB D (tTk (uF tx) t q) = true))]) (st := []) dX4_readItem_74 ml_X4_209 kv_X4_must ⟨by decide, rfl, by decide⟩ ⟨(Nat.le_of_ble_eq_true rfl), (Nat.le_of_ble_eq_true rfl)⟩ rfl (Nat.le_of_ble_eq_true rfl) rfl (Nat.le_of_ble_eq_true rfl) (c_must hx ho hp (b := rmB D (tTk (uF tx) t q))) (fun v M1 hq9 => ?_)
          obtain ⟨rfl, hp⟩ := hq9
          rw [mq_none, if_pos hb] at hp
          refine v_pop dX4_readItem_77 rfl ?_
          refine v_aload_n dX4_readItem_78 rfl ?_
          refine v_getI2 (y := ((-9))) dX4_readItem_79 fl_X4_203 ⟨by decide, rfl, by decide⟩ rfl (hp.2.2.2.1) ?_
          refine v_bipush (v := (-9)) dX4_readItem_82 (by decide) ?_
          refine v_icmp_eq (tgt := 88) dX4_readItem_84 (by decide) (fun c84 => ?_) (fun c84 => (absurd rfl c84))
          refine v_post ?_ (c_ri2 hx ho hp hW hb)
          rintro v M' ⟨rfl, g1⟩
          refine ⟨rfl, ?_⟩
          rw [show itR (uF tx) t D q = _ from if_pos hb]
          exact g1
        · refine v_iload_n dX4_readItem_47 rfl ?_
          refine v_ifB_eq (tgt := 63) dX4_readItem_48 (by decide) (fun c48 => ?_) (fun c48 => ?_)
          · refine v_iload_n dX4_readItem_63 rfl ?_
            refine v_bipush (v := (nI 112)) dX4_readItem_64 rfl ?_
            refine v_icmpN_ne (tgt := 73) dX4_readItem_66 (by decide) (by omega) (by omega) (fun c66 => ?_) (fun c66 => ?_)
            · refine v_iconst (v := (nI 0)) dX4_readItem_73 rfl ?_
              have hb : ¬ rmB D (tTk (uF tx) t q) = true := by
                unfold rmB; rw [decide_eq_true_eq]
                rintro (⟨a1, a2⟩ | ⟨a1, a2⟩ | a1)
                · first | exact a1 e32 | omega
                · first | exact c48 a1 | omega
                · exact c66 a1
              refine v_top (y := (bI (rmB D (tTk (uF tx) t q) = true))) ((bI_f hb).symm) ?_
              refine v_callV (as := [.int (bI (rmB D (tTk (uF tx) t q) = true))]) (st := []) dX4_readItem_74 ml_X4_209 kv_X4_must ⟨by decide, rfl, by decide⟩ ⟨(Nat.le_of_ble_eq_true rfl), (Nat.le_of_ble_eq_true rfl)⟩ rfl (Nat.le_of_ble_eq_true rfl) rfl (Nat.le_of_ble_eq_true rfl) (c_must hx ho hp (b := rmB D (tTk (uF tx) t q))) (fun v M1 hq9 => ?_)
              obtain ⟨rfl, hp⟩ := hq9
              rw [mq_none, if_neg hb] at hp
              refine v_pop dX4_readItem_77 rfl ?_
              refine v_aload_n dX4_readItem_78 rfl ?_
              refine v_getI2 (y := (nI (tPl (uF tx) t q))) dX4_readItem_79 fl_X4_203 ⟨by decide, rfl, by decide⟩ rfl (hp.2.2.2.1) ?_
              refine v_bipush (v := (-9)) dX4_readItem_82 (by decide) ?_
              refine v_icmp_eq (tgt := 88) dX4_readItem_84 (by decide) (fun c84 => (absurd c84 (fun z9 => absurd (nI_pos' (n := tPl (uF tx) t q) (by omega)) (by rw [z9]; decide)))) (fun c84 => ?_)
              refine v_vret dX4_readItem_87 rfl ?_
              refine ⟨rfl, ?_⟩
              have e9 : itR (uF tx) t D q = (D, (q, some (tPl (uF tx) t q))) := if_neg hb
              rw [e9]; exact hp
            · refine v_iconst (v := (nI 1)) dX4_readItem_69 rfl ?_
              refine v_goto (tgt := 74) dX4_readItem_70 (by decide) ?_
              have hb : rmB D (tTk (uF tx) t q) = true := decide_eq_true (by first | exact Or.inl ⟨e32, c44⟩ | exact Or.inr (Or.inl ⟨c48, c60⟩) | exact Or.inr (Or.inr c66))
              refine v_top (y := (bI (rmB D (tTk (uF tx) t q) = true))) ((bI_t hb).symm) ?_
              refine v_callV (as := [.int (bI (rmB D (tTk (uF tx) t q) = true))]) (st := []) dX4_readItem_74 ml_X4_209 kv_X4_must ⟨by decide, rfl, by decide⟩ ⟨(Nat.le_of_ble_eq_true rfl), (Nat.le_of_ble_eq_true rfl)⟩ rfl (Nat.le_of_ble_eq_true rfl) rfl (Nat.le_of_ble_eq_true rfl) (c_must hx ho hp (b := rmB D (tTk (uF tx) t q))) (fun v M1 hq9 => ?_)
              obtain ⟨rfl, hp⟩ := hq9
              rw [mq_none, if_pos hb] at hp
              refine v_pop dX4_readItem_77 rfl ?_
              refine v_aload_n dX4_readItem_78 rfl ?_
              refine v_getI2 (y := ((-9))) dX4_readItem_79 fl_X4_203 ⟨by decide, rfl, by decide⟩ rfl (hp.2.2.2.1) ?_
              refine v_bipush (v := (-9)) dX4_readItem_82 (by decide) ?_
              refine v_icmp_eq (tgt := 88) dX4_readItem_84 (by decide) (fun c84 => ?_) (fun c84 => (absurd rfl c84))
              refine v_post ?_ (c_ri2 hx ho hp hW hb)
              rintro v M' ⟨rfl, g1⟩
              refine ⟨rfl, ?_⟩
              rw [show itR (uF tx) t D q = _ from if_pos hb]
              exact g1
          · refine v_aload_n dX4_readItem_51 rfl ?_
            refine v_getR (t := 62) dX4_readItem_52 fl_X4_13 ⟨by decide, rfl, by decide⟩ rfl rfl ?_
            refine v_bipush (v := (nI 96)) dX4_readItem_55 rfl ?_
            refine v_iald2 (n := 97) (a := 96) (y := (nI (nK D))) dX4_readItem_57 ⟨by decide, rfl, rfl⟩ (rfl) (by omega) (by rw [hp.2.2.2.2.1]; exact hW.2.1.1) ?_
            refine v_bipush (v := (nI 6)) dX4_readItem_58 rfl ?_
            refine v_icmpN_lt (tgt := 69) dX4_readItem_60 (by decide) (by omega) (by omega) (fun c60 => ?_) (fun c60 => ?_)
            · refine v_iconst (v := (nI 1)) dX4_readItem_69 rfl ?_
              refine v_goto (tgt := 74) dX4_readItem_70 (by decide) ?_
              have hb : rmB D (tTk (uF tx) t q) = true := decide_eq_true (by first | exact Or.inl ⟨e32, c44⟩ | exact Or.inr (Or.inl ⟨c48, c60⟩) | exact Or.inr (Or.inr c66))
              refine v_top (y := (bI (rmB D (tTk (uF tx) t q) = true))) ((bI_t hb).symm) ?_
              refine v_callV (as := [.int (bI (rmB D (tTk (uF tx) t q) = true))]) (st := []) dX4_readItem_74 ml_X4_209 kv_X4_must ⟨by decide, rfl, by decide⟩ ⟨(Nat.le_of_ble_eq_true rfl), (Nat.le_of_ble_eq_true rfl)⟩ rfl (Nat.le_of_ble_eq_true rfl) rfl (Nat.le_of_ble_eq_true rfl) (c_must hx ho hp (b := rmB D (tTk (uF tx) t q))) (fun v M1 hq9 => ?_)
              obtain ⟨rfl, hp⟩ := hq9
              rw [mq_none, if_pos hb] at hp
              refine v_pop dX4_readItem_77 rfl ?_
              refine v_aload_n dX4_readItem_78 rfl ?_
              refine v_getI2 (y := ((-9))) dX4_readItem_79 fl_X4_203 ⟨by decide, rfl, by decide⟩ rfl (hp.2.2.2.1) ?_
              refine v_bipush (v := (-9)) dX4_readItem_82 (by decide) ?_
              refine v_icmp_eq (tgt := 88) dX4_readItem_84 (by decide) (fun c84 => ?_) (fun c84 => (absurd rfl c84))
              refine v_post ?_ (c_ri2 hx ho hp hW hb)
              rintro v M' ⟨rfl, g1⟩
              refine ⟨rfl, ?_⟩
              rw [show itR (uF tx) t D q = _ from if_pos hb]
              exact g1
            · refine v_iload_n dX4_readItem_63 rfl ?_
              refine v_bipush (v := (nI 112)) dX4_readItem_64 rfl ?_
              refine v_icmpN_ne (tgt := 73) dX4_readItem_66 (by decide) (by omega) (by omega) (fun c66 => ?_) (fun c66 => ?_)
              · refine v_iconst (v := (nI 0)) dX4_readItem_73 rfl ?_
                have hb : ¬ rmB D (tTk (uF tx) t q) = true := by
                  unfold rmB; rw [decide_eq_true_eq]
                  rintro (⟨a1, a2⟩ | ⟨a1, a2⟩ | a1)
                  · first | exact a1 e32 | omega
                  · first | exact c48 a1 | omega
                  · exact c66 a1
                refine v_top (y := (bI (rmB D (tTk (uF tx) t q) = true))) ((bI_f hb).symm) ?_
                refine v_callV (as := [.int (bI (rmB D (tTk (uF tx) t q) = true))]) (st := []) dX4_readItem_74 ml_X4_209 kv_X4_must ⟨by decide, rfl, by decide⟩ ⟨(Nat.le_of_ble_eq_true rfl), (Nat.le_of_ble_eq_true rfl)⟩ rfl (Nat.le_of_ble_eq_true rfl) rfl (Nat.le_of_ble_eq_true rfl) (c_must hx ho hp (b := rmB D (tTk (uF tx) t q))) (fun v M1 hq9 => ?_)
                obtain ⟨rfl, hp⟩ := hq9
                rw [mq_none, if_neg hb] at hp
                refine v_pop dX4_readItem_77 rfl ?_
                refine v_aload_n dX4_readItem_78 rfl ?_
                refine v_getI2 (y := (nI (tPl (uF tx) t q))) dX4_readItem_79 fl_X4_203 ⟨by decide, rfl, by decide⟩ rfl (hp.2.2.2.1) ?_
                refine v_bipush (v := (-9)) dX4_readItem_82 (by decide) ?_
                refine v_icmp_eq (tgt := 88) dX4_readItem_84 (by decide) (fun c84 => (absurd c84 (fun z9 => absurd (nI_pos' (n := tPl (uF tx) t q) (by omega)) (by rw [z9]; decide)))) (fun c84 => ?_)
                refine v_vret dX4_readItem_87 rfl ?_
                refine ⟨rfl, ?_⟩
                have e9 : itR (uF tx) t D q = (D, (q, some (tPl (uF tx) t q))) := if_neg hb
                rw [e9]; exact hp
              · refine v_iconst (v := (nI 1)) dX4_readItem_69 rfl ?_
                refine v_goto (tgt := 74) dX4_readItem_70 (by decide) ?_
                have hb : rmB D (tTk (uF tx) t q) = true := decide_eq_true (by first | exact Or.inl ⟨e32, c44⟩ | exact Or.inr (Or.inl ⟨c48, c60⟩) | exact Or.inr (Or.inr c66))
                refine v_top (y := (bI (rmB D (tTk (uF tx) t q) = true))) ((bI_t hb).symm) ?_
                refine v_callV (as := [.int (bI (rmB D (tTk (uF tx) t q) = true))]) (st := []) dX4_readItem_74 ml_X4_209 kv_X4_must ⟨by decide, rfl, by decide⟩ ⟨(Nat.le_of_ble_eq_true rfl), (Nat.le_of_ble_eq_true rfl)⟩ rfl (Nat.le_of_ble_eq_true rfl) rfl (Nat.le_of_ble_eq_true rfl) (c_must hx ho hp (b := rmB D (tTk (uF tx) t q))) (fun v M1 hq9 => ?_)
                obtain ⟨rfl, hp⟩ := hq9
                rw [mq_none, if_pos hb] at hp
                refine v_pop dX4_readItem_77 rfl ?_
                refine v_aload_n dX4_readItem_78 rfl ?_
                refine v_getI2 (y := ((-9))) dX4_readItem_79 fl_X4_203 ⟨by decide, rfl, by decide⟩ rfl (hp.2.2.2.1) ?_
                refine v_bipush (v := (-9)) dX4_readItem_82 (by decide) ?_
                refine v_icmp_eq (tgt := 88) dX4_readItem_84 (by decide) (fun c84 => ?_) (fun c84 => (absurd rfl c84))
                refine v_post ?_ (c_ri2 hx ho hp hW hb)
                rintro v M' ⟨rfl, g1⟩
                refine ⟨rfl, ?_⟩
                rw [show itR (uF tx) t D q = _ from if_pos hb]
                exact g1
    · refine v_iconst (v := (nI 1)) dX4_readItem_22 rfl ?_
      refine v_goto (tgt := 27) dX4_readItem_23 (by decide) ?_
      refine v_top (y := (bI (tTk (uF tx) t q = 103 ∨ tTk (uF tx) t q = 101))) ((bI_t (by omega)).symm) ?_
      refine v_istore_n (lv' := [(0, .ref 60), (1, .int (nI (tTk (uF tx) t q))), (2, .int (oI (soO (tTk (uF tx) t q)))), (3, .int (bI (tTk (uF tx) t q = 103 ∨ tTk (uF tx) t q = 101)))]) dX4_readItem_27 (Nat.le_of_ble_eq_true rfl) rfl ?_
      refine v_aload_n dX4_readItem_28 rfl ?_
      refine v_iload_n dX4_readItem_29 rfl ?_
      refine v_bipush (v := (-9)) dX4_readItem_30 (by decide) ?_
      refine v_icmp_eq (tgt := 47) dX4_readItem_32 (by decide) (fun c32 => ?_) (fun c32 => ?_)
      · have e32 : soO (tTk (uF tx) t q) = none := (oI_none (fun m hm => by have := soO_le hm; omega)).mp c32
        refine v_iload_n dX4_readItem_47 rfl ?_
        refine v_ifB_eq (tgt := 63) dX4_readItem_48 (by decide) (fun c48 => ?_) (fun c48 => ?_)
        · refine v_iload_n dX4_readItem_63 rfl ?_
          refine v_bipush (v := (nI 112)) dX4_readItem_64 rfl ?_
          refine v_icmpN_ne (tgt := 73) dX4_readItem_66 (by decide) (by omega) (by omega) (fun c66 => ?_) (fun c66 => ?_)
          · refine v_iconst (v := (nI 0)) dX4_readItem_73 rfl ?_
            have hb : ¬ rmB D (tTk (uF tx) t q) = true := by
              unfold rmB; rw [decide_eq_true_eq]
              rintro (⟨a1, a2⟩ | ⟨a1, a2⟩ | a1)
              · first | exact a1 e32 | omega
              · first | exact c48 a1 | omega
              · exact c66 a1
            refine v_top (y := (bI (rmB D (tTk (uF tx) t q) = true))) ((bI_f hb).symm) ?_
            refine v_callV (as := [.int (bI (rmB D (tTk (uF tx) t q) = true))]) (st := []) dX4_readItem_74 ml_X4_209 kv_X4_must ⟨by decide, rfl, by decide⟩ ⟨(Nat.le_of_ble_eq_true rfl), (Nat.le_of_ble_eq_true rfl)⟩ rfl (Nat.le_of_ble_eq_true rfl) rfl (Nat.le_of_ble_eq_true rfl) (c_must hx ho hp (b := rmB D (tTk (uF tx) t q))) (fun v M1 hq9 => ?_)
            obtain ⟨rfl, hp⟩ := hq9
            rw [mq_none, if_neg hb] at hp
            refine v_pop dX4_readItem_77 rfl ?_
            refine v_aload_n dX4_readItem_78 rfl ?_
            refine v_getI2 (y := (nI (tPl (uF tx) t q))) dX4_readItem_79 fl_X4_203 ⟨by decide, rfl, by decide⟩ rfl (hp.2.2.2.1) ?_
            refine v_bipush (v := (-9)) dX4_readItem_82 (by decide) ?_
            refine v_icmp_eq (tgt := 88) dX4_readItem_84 (by decide) (fun c84 => (absurd c84 (fun z9 => absurd (nI_pos' (n := tPl (uF tx) t q) (by omega)) (by rw [z9]; decide)))) (fun c84 => ?_)
            refine v_vret dX4_readItem_87 rfl ?_
            refine ⟨rfl, ?_⟩
            have e9 : itR (uF tx) t D q = (D, (q, some (tPl (uF tx) t q))) := if_neg hb
            rw [e9]; exact hp
          · refine v_iconst (v := (nI 1)) dX4_readItem_69 rfl ?_
            refine v_goto (tgt := 74) dX4_readItem_70 (by decide) ?_
            have hb : rmB D (tTk (uF tx) t q) = true := decide_eq_true (by first | exact Or.inl ⟨e32, c44⟩ | exact Or.inr (Or.inl ⟨c48, c60⟩) | exact Or.inr (Or.inr c66))
            refine v_top (y := (bI (rmB D (tTk (uF tx) t q) = true))) ((bI_t hb).symm) ?_
            refine v_callV (as := [.int (bI (rmB D (tTk (uF tx) t q) = true))]) (st := []) dX4_readItem_74 ml_X4_209 kv_X4_must ⟨by decide, rfl, by decide⟩ ⟨(Nat.le_of_ble_eq_true rfl), (Nat.le_of_ble_eq_true rfl)⟩ rfl (Nat.le_of_ble_eq_true rfl) rfl (Nat.le_of_ble_eq_true rfl) (c_must hx ho hp (b := rmB D (tTk (uF tx) t q))) (fun v M1 hq9 => ?_)
            obtain ⟨rfl, hp⟩ := hq9
            rw [mq_none, if_pos hb] at hp
            refine v_pop dX4_readItem_77 rfl ?_
            refine v_aload_n dX4_readItem_78 rfl ?_
            refine v_getI2 (y := ((-9))) dX4_readItem_79 fl_X4_203 ⟨by decide, rfl, by decide⟩ rfl (hp.2.2.2.1) ?_
            refine v_bipush (v := (-9)) dX4_readItem_82 (by decide) ?_
            refine v_icmp_eq (tgt := 88) dX4_readItem_84 (by decide) (fun c84 => ?_) (fun c84 => (absurd rfl c84))
            refine v_post ?_ (c_ri2 hx ho hp hW hb)
            rintro v M' ⟨rfl, g1⟩
            refine ⟨rfl, ?_⟩
            rw [show itR (uF tx) t D q = _ from if_pos hb]
            exact g1
        · refine v_aload_n dX4_readItem_51 rfl ?_
          refine v_getR (t := 62) dX4_readItem_52 fl_X4_13 ⟨by decide, rfl, by decide⟩ rfl rfl ?_
          refine v_bipush (v := (nI 96)) dX4_readItem_55 rfl ?_
          refine v_iald2 (n := 97) (a := 96) (y := (nI (nK D))) dX4_readItem_57 ⟨by decide, rfl, rfl⟩ (rfl) (by omega) (by rw [hp.2.2.2.2.1]; exact hW.2.1.1) ?_
          refine v_bipush (v := (nI 6)) dX4_readItem_58 rfl ?_
          refine v_icmpN_lt (tgt := 69) dX4_readItem_60 (by decide) (by omega) (by omega) (fun c60 => ?_) (fun c60 => ?_)
          · refine v_iconst (v := (nI 1)) dX4_readItem_69 rfl ?_
            refine v_goto (tgt := 74) dX4_readItem_70 (by decide) ?_
            have hb : rmB D (tTk (uF tx) t q) = true := decide_eq_true (by first | exact Or.inl ⟨e32, c44⟩ | exact Or.inr (Or.inl ⟨c48, c60⟩) | exact Or.inr (Or.inr c66))
            refine v_top (y := (bI (rmB D (tTk (uF tx) t q) = true))) ((bI_t hb).symm) ?_
            refine v_callV (as := [.int (bI (rmB D (tTk (uF tx) t q) = true))]) (st := []) dX4_readItem_74 ml_X4_209 kv_X4_must ⟨by decide, rfl, by decide⟩ ⟨(Nat.le_of_ble_eq_true rfl), (Nat.le_of_ble_eq_true rfl)⟩ rfl (Nat.le_of_ble_eq_true rfl) rfl (Nat.le_of_ble_eq_true rfl) (c_must hx ho hp (b := rmB D (tTk (uF tx) t q))) (fun v M1 hq9 => ?_)
            obtain ⟨rfl, hp⟩ := hq9
            rw [mq_none, if_pos hb] at hp
            refine v_pop dX4_readItem_77 rfl ?_
            refine v_aload_n dX4_readItem_78 rfl ?_
            refine v_getI2 (y := ((-9))) dX4_readItem_79 fl_X4_203 ⟨by decide, rfl, by decide⟩ rfl (hp.2.2.2.1) ?_
            refine v_bipush (v := (-9)) dX4_readItem_82 (by decide) ?_
            refine v_icmp_eq (tgt := 88) dX4_readItem_84 (by decide) (fun c84 => ?_) (fun c84 => (absurd rfl c84))
            refine v_post ?_ (c_ri2 hx ho hp hW hb)
            rintro v M' ⟨rfl, g1⟩
            refine ⟨rfl, ?_⟩
            rw [show itR (uF tx) t D q = _ from if_pos hb]
            exact g1
          · refine v_iload_n dX4_readItem_63 rfl ?_
            refine v_bipush (v := (nI 112)) dX4_readItem_64 rfl ?_
            refine v_icmpN_ne (tgt := 73) dX4_readItem_66 (by decide) (by omega) (by omega) (fun c66 => ?_) (fun c66 => ?_)
            · refine v_iconst (v := (nI 0)) dX4_readItem_73 rfl ?_
              have hb : ¬ rmB D (tTk (uF tx) t q) = true := by
                unfold rmB; rw [decide_eq_true_eq]
                rintro (⟨a1, a2⟩ | ⟨a1, a2⟩ | a1)
                · first | exact a1 e32 | omega
                · first | exact c48 a1 | omega
                · exact c66 a1
              refine v_top (y := (bI (rmB D (tTk (uF tx) t q) = true))) ((bI_f hb).symm) ?_
              refine v_callV (as := [.int (bI (rmB D (tTk (uF tx) t q) = true))]) (st := []) dX4_readItem_74 ml_X4_209 kv_X4_must ⟨by decide, rfl, by decide⟩ ⟨(Nat.le_of_ble_eq_true rfl), (Nat.le_of_ble_eq_true rfl)⟩ rfl (Nat.le_of_ble_eq_true rfl) rfl (Nat.le_of_ble_eq_true rfl) (c_must hx ho hp (b := rmB D (tTk (uF tx) t q))) (fun v M1 hq9 => ?_)
              obtain ⟨rfl, hp⟩ := hq9
              rw [mq_none, if_neg hb] at hp
              refine v_pop dX4_readItem_77 rfl ?_
              refine v_aload_n dX4_readItem_78 rfl ?_
              refine v_getI2 (y := (nI (tPl (uF tx) t q))) dX4_readItem_79 fl_X4_203 ⟨by decide, rfl, by decide⟩ rfl (hp.2.2.2.1) ?_
              refine v_bipush (v := (-9)) dX4_readItem_82 (by decide) ?_
              refine v_icmp_eq (tgt := 88) dX4_readItem_84 (by decide) (fun c84 => (absurd c84 (fun z9 => absurd (nI_pos' (n := tPl (uF tx) t q) (by omega)) (by rw [z9]; decide)))) (fun c84 => ?_)
              refine v_vret dX4_readItem_87 rfl ?_
              refine ⟨rfl, ?_⟩
              have e9 : itR (uF tx) t D q = (D, (q, some (tPl (uF tx) t q))) := if_neg hb
              rw [e9]; exact hp
            · refine v_iconst (v := (nI 1)) dX4_readItem_69 rfl ?_
              refine v_goto (tgt := 74) dX4_readItem_70 (by decide) ?_
              have hb : rmB D (tTk (uF tx) t q) = true := decide_eq_true (by first | exact Or.inl ⟨e32, c44⟩ | exact Or.inr (Or.inl ⟨c48, c60⟩) | exact Or.inr (Or.inr c66))
              refine v_top (y := (bI (rmB D (tTk (uF tx) t q) = true))) ((bI_t hb).symm) ?_
              refine v_callV (as := [.int (bI (rmB D (tTk (uF tx) t q) = true))]) (st := []) dX4_readItem_74 ml_X4_209 kv_X4_must ⟨by decide, rfl, by decide⟩ ⟨(Nat.le_of_ble_eq_true rfl), (Nat.le_of_ble_eq_true rfl)⟩ rfl (Nat.le_of_ble_eq_true rfl) rfl (Nat.le_of_ble_eq_true rfl) (c_must hx ho hp (b := rmB D (tTk (uF tx) t q))) (fun v M1 hq9 => ?_)
              obtain ⟨rfl, hp⟩ := hq9
              rw [mq_none, if_pos hb] at hp
              refine v_pop dX4_readItem_77 rfl ?_
              refine v_aload_n dX4_readItem_78 rfl ?_
              refine v_getI2 (y := ((-9))) dX4_readItem_79 fl_X4_203 ⟨by decide, rfl, by decide⟩ rfl (hp.2.2.2.1) ?_
              refine v_bipush (v := (-9)) dX4_readItem_82 (by decide) ?_
              refine v_icmp_eq (tgt := 88) dX4_readItem_84 (by decide) (fun c84 => ?_) (fun c84 => (absurd rfl c84))
              refine v_post ?_ (c_ri2 hx ho hp hW hb)
              rintro v M' ⟨rfl, g1⟩
              refine ⟨rfl, ?_⟩
              rw [show itR (uF tx) t D q = _ from if_pos hb]
              exact g1
      · have e32 : soO (tTk (uF tx) t q) ≠ none := fun z9 => c32 ((oI_none (fun m hm => by have := soO_le hm; omega)).mpr z9)
        refine v_aload_n dX4_readItem_35 rfl ?_
        refine v_getR (t := 62) dX4_readItem_36 fl_X4_13 ⟨by decide, rfl, by decide⟩ rfl rfl ?_
        refine v_bipush (v := (nI 95)) dX4_readItem_39 rfl ?_
        refine v_iald2 (n := 97) (a := 95) (y := (nI (nN D))) dX4_readItem_41 ⟨by decide, rfl, rfl⟩ (rfl) (by omega) (by rw [hp.2.2.2.2.1]; exact hW.1.1) ?_
        refine v_bipush (v := (nI 16)) dX4_readItem_42 rfl ?_
        refine v_icmpN_lt (tgt := 69) dX4_readItem_44 (by decide) (by omega) (by omega) (fun c44 => ?_) (fun c44 => ?_)
        · refine v_iconst (v := (nI 1)) dX4_readItem_69 rfl ?_
          refine v_goto (tgt := 74) dX4_readItem_70 (by decide) ?_
          have hb : rmB D (tTk (uF tx) t q) = true := decide_eq_true (by first | exact Or.inl ⟨e32, c44⟩ | exact Or.inr (Or.inl ⟨c48, c60⟩) | exact Or.inr (Or.inr c66))
          refine v_top (y := (bI (rmB D (tTk (uF tx) t q) = true))) ((bI_t hb).symm) ?_
          refine v_callV (as := [.int (bI (rmB D (tTk (uF tx) t q) = true))]) (st := []) dX4_readItem_74 ml_X4_209 kv_X4_must ⟨by decide, rfl, by decide⟩ ⟨(Nat.le_of_ble_eq_true rfl), (Nat.le_of_ble_eq_true rfl)⟩ rfl (Nat.le_of_ble_eq_true rfl) rfl (Nat.le_of_ble_eq_true rfl) (c_must hx ho hp (b := rmB D (tTk (uF tx) t q))) (fun v M1 hq9 => ?_)
          obtain ⟨rfl, hp⟩ := hq9
          rw [mq_none, if_pos hb] at hp
          refine v_pop dX4_readItem_77 rfl ?_
          refine v_aload_n dX4_readItem_78 rfl ?_
          refine v_getI2 (y := ((-9))) dX4_readItem_79 fl_X4_203 ⟨by decide, rfl, by decide⟩ rfl (hp.2.2.2.1) ?_
          refine v_bipush (v := (-9)) dX4_readItem_82 (by decide) ?_
          refine v_icmp_eq (tgt := 88) dX4_readItem_84 (by decide) (fun c84 => ?_) (fun c84 => (absurd rfl c84))
          refine v_post ?_ (c_ri2 hx ho hp hW hb)
          rintro v M' ⟨rfl, g1⟩
          refine ⟨rfl, ?_⟩
          rw [show itR (uF tx) t D q = _ from if_pos hb]
          exact g1
        · refine v_iload_n dX4_readItem_47 rfl ?_
          refine v_ifB_eq (tgt := 63) dX4_readItem_48 (by decide) (fun c48 => ?_) (fun c48 => ?_)
          · refine v_iload_n dX4_readItem_63 rfl ?_
            refine v_bipush (v := (nI 112)) dX4_readItem_64 rfl ?_
            refine v_icmpN_ne (tgt := 73) dX4_readItem_66 (by decide) (by omega) (by omega) (fun c66 => ?_) (fun c66 => ?_)
            · refine v_iconst (v := (nI 0)) dX4_readItem_73 rfl ?_
              have hb : ¬ rmB D (tTk (uF tx) t q) = true := by
                unfold rmB; rw [decide_eq_true_eq]
                rintro (⟨a1, a2⟩ | ⟨a1, a2⟩ | a1)
                · first | exact a1 e32 | omega
                · first | exact c48 a1 | omega
                · exact c66 a1
              refine v_top (y := (bI (rmB D (tTk (uF tx) t q) = true))) ((bI_f hb).symm) ?_
              refine v_callV (as := [.int (bI (rmB D (tTk (uF tx) t q) = true))]) (st := []) dX4_readItem_74 ml_X4_209 kv_X4_must ⟨by decide, rfl, by decide⟩ ⟨(Nat.le_of_ble_eq_true rfl), (Nat.le_of_ble_eq_true rfl)⟩ rfl (Nat.le_of_ble_eq_true rfl) rfl (Nat.le_of_ble_eq_true rfl) (c_must hx ho hp (b := rmB D (tTk (uF tx) t q))) (fun v M1 hq9 => ?_)
              obtain ⟨rfl, hp⟩ := hq9
              rw [mq_none, if_neg hb] at hp
              refine v_pop dX4_readItem_77 rfl ?_
              refine v_aload_n dX4_readItem_78 rfl ?_
              refine v_getI2 (y := (nI (tPl (uF tx) t q))) dX4_readItem_79 fl_X4_203 ⟨by decide, rfl, by decide⟩ rfl (hp.2.2.2.1) ?_
              refine v_bipush (v := (-9)) dX4_readItem_82 (by decide) ?_
              refine v_icmp_eq (tgt := 88) dX4_readItem_84 (by decide) (fun c84 => (absurd c84 (fun z9 => absurd (nI_pos' (n := tPl (uF tx) t q) (by omega)) (by rw [z9]; decide)))) (fun c84 => ?_)
              refine v_vret dX4_readItem_87 rfl ?_
              refine ⟨rfl, ?_⟩
              have e9 : itR (uF tx) t D q = (D, (q, some (tPl (uF tx) t q))) := if_neg hb
              rw [e9]; exact hp
            · refine v_iconst (v := (nI 1)) dX4_readItem_69 rfl ?_
              refine v_goto (tgt := 74) dX4_readItem_70 (by decide) ?_
              have hb : rmB D (tTk (uF tx) t q) = true := decide_eq_true (by first | exact Or.inl ⟨e32, c44⟩ | exact Or.inr (Or.inl ⟨c48, c60⟩) | exact Or.inr (Or.inr c66))
              refine v_top (y := (bI (rmB D (tTk (uF tx) t q) = true))) ((bI_t hb).symm) ?_
              refine v_callV (as := [.int (bI (rmB D (tTk (uF tx) t q) = true))]) (st := []) dX4_readItem_74 ml_X4_209 kv_X4_must ⟨by decide, rfl, by decide⟩ ⟨(Nat.le_of_ble_eq_true rfl), (Nat.le_of_ble_eq_true rfl)⟩ rfl (Nat.le_of_ble_eq_true rfl) rfl (Nat.le_of_ble_eq_true rfl) (c_must hx ho hp (b := rmB D (tTk (uF tx) t q))) (fun v M1 hq9 => ?_)
              obtain ⟨rfl, hp⟩ := hq9
              rw [mq_none, if_pos hb] at hp
              refine v_pop dX4_readItem_77 rfl ?_
              refine v_aload_n dX4_readItem_78 rfl ?_
              refine v_getI2 (y := ((-9))) dX4_readItem_79 fl_X4_203 ⟨by decide, rfl, by decide⟩ rfl (hp.2.2.2.1) ?_
              refine v_bipush (v := (-9)) dX4_readItem_82 (by decide) ?_
              refine v_icmp_eq (tgt := 88) dX4_readItem_84 (by decide) (fun c84 => ?_) (fun c84 => (absurd rfl c84))
              refine v_post ?_ (c_ri2 hx ho hp hW hb)
              rintro v M' ⟨rfl, g1⟩
              refine ⟨rfl, ?_⟩
              rw [show itR (uF tx) t D q = _ from if_pos hb]
              exact g1
          · refine v_aload_n dX4_readItem_51 rfl ?_
            refine v_getR (t := 62) dX4_readItem_52 fl_X4_13 ⟨by decide, rfl, by decide⟩ rfl rfl ?_
            refine v_bipush (v := (nI 96)) dX4_readItem_55 rfl ?_
            refine v_iald2 (n := 97) (a := 96) (y := (nI (nK D))) dX4_readItem_57 ⟨by decide, rfl, rfl⟩ (rfl) (by omega) (by rw [hp.2.2.2.2.1]; exact hW.2.1.1) ?_
            refine v_bipush (v := (nI 6)) dX4_readItem_58 rfl ?_
            refine v_icmpN_lt (tgt := 69) dX4_readItem_60 (by decide) (by omega) (by omega) (fun c60 => ?_) (fun c60 => ?_)
            · refine v_iconst (v := (nI 1)) dX4_readItem_69 rfl ?_
              refine v_goto (tgt := 74) dX4_readItem_70 (by decide) ?_
              have hb : rmB D (tTk (uF tx) t q) = true := decide_eq_true (by first | exact Or.inl ⟨e32, c44⟩ | exact Or.inr (Or.inl ⟨c48, c60⟩) | exact Or.inr (Or.inr c66))
              refine v_top (y := (bI (rmB D (tTk (uF tx) t q) = true))) ((bI_t hb).symm) ?_
              refine v_callV (as := [.int (bI (rmB D (tTk (uF tx) t q) = true))]) (st := []) dX4_readItem_74 ml_X4_209 kv_X4_must ⟨by decide, rfl, by decide⟩ ⟨(Nat.le_of_ble_eq_true rfl), (Nat.le_of_ble_eq_true rfl)⟩ rfl (Nat.le_of_ble_eq_true rfl) rfl (Nat.le_of_ble_eq_true rfl) (c_must hx ho hp (b := rmB D (tTk (uF tx) t q))) (fun v M1 hq9 => ?_)
              obtain ⟨rfl, hp⟩ := hq9
              rw [mq_none, if_pos hb] at hp
              refine v_pop dX4_readItem_77 rfl ?_
              refine v_aload_n dX4_readItem_78 rfl ?_
              refine v_getI2 (y := ((-9))) dX4_readItem_79 fl_X4_203 ⟨by decide, rfl, by decide⟩ rfl (hp.2.2.2.1) ?_
              refine v_bipush (v := (-9)) dX4_readItem_82 (by decide) ?_
              refine v_icmp_eq (tgt := 88) dX4_readItem_84 (by decide) (fun c84 => ?_) (fun c84 => (absurd rfl c84))
              refine v_post ?_ (c_ri2 hx ho hp hW hb)
              rintro v M' ⟨rfl, g1⟩
              refine ⟨rfl, ?_⟩
              rw [show itR (uF tx) t D q = _ from if_pos hb]
              exact g1
            · refine v_iload_n dX4_readItem_63 rfl ?_
              refine v_bipush (v := (nI 112)) dX4_readItem_64 rfl ?_
              refine v_icmpN_ne (tgt := 73) dX4_readItem_66 (by decide) (by omega) (by omega) (fun c66 => ?_) (fun c66 => ?_)
              · refine v_iconst (v := (nI 0)) dX4_readItem_73 rfl ?_
                have hb : ¬ rmB D (tTk (uF tx) t q) = true := by
                  unfold rmB; rw [decide_eq_true_eq]
                  rintro (⟨a1, a2⟩ | ⟨a1, a2⟩ | a1)
                  · first | exact a1 e32 | omega
                  · first | exact c48 a1 | omega
                  · exact c66 a1
                refine v_top (y := (bI (rmB D (tTk (uF tx) t q) = true))) ((bI_f hb).symm) ?_
                refine v_callV (as := [.int (bI (rmB D (tTk (uF tx) t q) = true))]) (st := []) dX4_readItem_74 ml_X4_209 kv_X4_must ⟨by decide, rfl, by decide⟩ ⟨(Nat.le_of_ble_eq_true rfl), (Nat.le_of_ble_eq_true rfl)⟩ rfl (Nat.le_of_ble_eq_true rfl) rfl (Nat.le_of_ble_eq_true rfl) (c_must hx ho hp (b := rmB D (tTk (uF tx) t q))) (fun v M1 hq9 => ?_)
                obtain ⟨rfl, hp⟩ := hq9
                rw [mq_none, if_neg hb] at hp
                refine v_pop dX4_readItem_77 rfl ?_
                refine v_aload_n dX4_readItem_78 rfl ?_
                refine v_getI2 (y := (nI (tPl (uF tx) t q))) dX4_readItem_79 fl_X4_203 ⟨by decide, rfl, by decide⟩ rfl (hp.2.2.2.1) ?_
                refine v_bipush (v := (-9)) dX4_readItem_82 (by decide) ?_
                refine v_icmp_eq (tgt := 88) dX4_readItem_84 (by decide) (fun c84 => (absurd c84 (fun z9 => absurd (nI_pos' (n := tPl (uF tx) t q) (by omega)) (by rw [z9]; decide)))) (fun c84 => ?_)
                refine v_vret dX4_readItem_87 rfl ?_
                refine ⟨rfl, ?_⟩
                have e9 : itR (uF tx) t D q = (D, (q, some (tPl (uF tx) t q))) := if_neg hb
                rw [e9]; exact hp
              · refine v_iconst (v := (nI 1)) dX4_readItem_69 rfl ?_
                refine v_goto (tgt := 74) dX4_readItem_70 (by decide) ?_
                have hb : rmB D (tTk (uF tx) t q) = true := decide_eq_true (by first | exact Or.inl ⟨e32, c44⟩ | exact Or.inr (Or.inl ⟨c48, c60⟩) | exact Or.inr (Or.inr c66))
                refine v_top (y := (bI (rmB D (tTk (uF tx) t q) = true))) ((bI_t hb).symm) ?_
                refine v_callV (as := [.int (bI (rmB D (tTk (uF tx) t q) = true))]) (st := []) dX4_readItem_74 ml_X4_209 kv_X4_must ⟨by decide, rfl, by decide⟩ ⟨(Nat.le_of_ble_eq_true rfl), (Nat.le_of_ble_eq_true rfl)⟩ rfl (Nat.le_of_ble_eq_true rfl) rfl (Nat.le_of_ble_eq_true rfl) (c_must hx ho hp (b := rmB D (tTk (uF tx) t q))) (fun v M1 hq9 => ?_)
                obtain ⟨rfl, hp⟩ := hq9
                rw [mq_none, if_pos hb] at hp
                refine v_pop dX4_readItem_77 rfl ?_
                refine v_aload_n dX4_readItem_78 rfl ?_
                refine v_getI2 (y := ((-9))) dX4_readItem_79 fl_X4_203 ⟨by decide, rfl, by decide⟩ rfl (hp.2.2.2.1) ?_
                refine v_bipush (v := (-9)) dX4_readItem_82 (by decide) ?_
                refine v_icmp_eq (tgt := 88) dX4_readItem_84 (by decide) (fun c84 => ?_) (fun c84 => (absurd rfl c84))
                refine v_post ?_ (c_ri2 hx ho hp hW hb)
                rintro v M' ⟨rfl, g1⟩
                refine ⟨rfl, ?_⟩
                rw [show itR (uF tx) t D q = _ from if_pos hb]
                exact g1
end R33
