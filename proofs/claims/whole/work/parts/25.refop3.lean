section R25
variable {M M0 : vM} {T R tx : Nat → Int32} {P : List (Nat → Int32)} {Im : Nat → Option (Nat → Int32)} {t : Nat}
set_option maxRecDepth 100000 in
theorem c_register0 (hr : REF M T R P Im tx t) (hW : WF T) {x w : Int32} (hx : ¬ isN T x) : V kX4_register (rA M ((-1)) T R P Im tx t) M 0 [(0, .ref 60), (1, .int x), (2, .int w)] [] := by
  have h16 := hW.n16
  refine v_aload_n dX4_register_0 rfl ?_
  refine v_iload_n dX4_register_1 rfl ?_
  refine v_callVr (x := .int (nI 0)) (M1 := M) (as := [.int x]) (st := []) dX4_register_2 ml_X4_167 kv_X4_isRegister ⟨by decide, rfl, by decide⟩ ⟨(Nat.le_of_ble_eq_true rfl), (Nat.le_of_ble_eq_true rfl)⟩ rfl (Nat.le_of_ble_eq_true rfl) rfl (Nat.le_of_ble_eq_true rfl) (c_isRegister0 hr.1 hW hx) ?_
  refine v_ifN_eq (tgt := 17) dX4_register_5 (by decide) (by omega) (fun c5 => ?_) (fun c5 => (absurd rfl c5))
  refine v_iconst (v := (-1)) dX4_register_17 (by decide) ?_
  refine v_iret dX4_register_18 rfl ?_
  exact ⟨rfl, hr, kp_rf M⟩
set_option maxRecDepth 100000 in
theorem c_registerO (hr : REF M T R P Im tx t) (hW : WF T) {n : Nat} {w : Int32} (hn : n < nN T) (hw : ¬ (nI 0 ≤ w ∧ w ≤ nI 2)) : V kX4_register (rA M ((-1)) T R P Im tx t) M 0 [(0, .ref 60), (1, .int (nI n)), (2, .int w)] [] := by
  have h16 := hW.n16
  refine v_aload_n dX4_register_0 rfl ?_
  refine v_iload_n dX4_register_1 rfl ?_
  refine v_callVr (x := .int (bI (so T n = 1))) (M1 := M) (as := [.int (nI n)]) (st := []) dX4_register_2 ml_X4_167 kv_X4_isRegister ⟨by decide, rfl, by decide⟩ ⟨(Nat.le_of_ble_eq_true rfl), (Nat.le_of_ble_eq_true rfl)⟩ rfl (Nat.le_of_ble_eq_true rfl) rfl (Nat.le_of_ble_eq_true rfl) (c_isRegister hr.1 hW hn) ?_
  refine v_ifB_eq (tgt := 17) dX4_register_5 (by decide) (fun c5 => ?_) (fun c5 => ?_)
  · refine v_iconst (v := (-1)) dX4_register_17 (by decide) ?_
    refine v_iret dX4_register_18 rfl ?_
    exact ⟨rfl, hr, kp_rf M⟩
  · refine v_iload_n dX4_register_8 rfl ?_
    refine v_iconst (v := (nI 0)) dX4_register_9 rfl ?_
    refine v_iconst (v := (nI 2)) dX4_register_10 rfl ?_
    refine v_callSr (x := .int (bI ((nI 0) ≤ w ∧ w ≤ (nI 2)))) (M1 := M) (as := [.int w, .int (nI 0), .int (nI 2)]) (st := []) dX4_register_11 ml_X4_56 ks_X4_in ⟨(Nat.le_of_ble_eq_true rfl), (Nat.le_of_ble_eq_true rfl)⟩ rfl (Nat.le_of_ble_eq_true rfl) rfl (Nat.le_of_ble_eq_true rfl) (c_in _ _ _) ?_
    refine v_ifB_ne (tgt := 19) dX4_register_14 (by decide) (fun c14 => (absurd c14 hw)) (fun c14 => ?_)
    refine v_iconst (v := (-1)) dX4_register_17 (by decide) ?_
    refine v_iret dX4_register_18 rfl ?_
    exact ⟨rfl, hr, kp_rf M⟩
set_option maxRecDepth 100000 in
theorem c_register_0 (hr : REF M T R P Im tx t) (hW : WF T) {nd : Nat} (hnd : R 0 = nI nd) (hnb : nd < 2 ^ 31) {n : Nat} (hn : n < nN T) : V kX4_register (rA M (regN T nd n 0) T R P Im tx t) M 0 [(0, .ref 60), (1, .int (nI n)), (2, .int (nI 0))] [] := by
  have h16 := hW.n16
  refine v_aload_n dX4_register_0 rfl ?_
  refine v_iload_n dX4_register_1 rfl ?_
  refine v_callVr (x := .int (bI (so T n = 1))) (M1 := M) (as := [.int (nI n)]) (st := []) dX4_register_2 ml_X4_167 kv_X4_isRegister ⟨by decide, rfl, by decide⟩ ⟨(Nat.le_of_ble_eq_true rfl), (Nat.le_of_ble_eq_true rfl)⟩ rfl (Nat.le_of_ble_eq_true rfl) rfl (Nat.le_of_ble_eq_true rfl) (c_isRegister hr.1 hW hn) ?_
  refine v_ifB_eq (tgt := 17) dX4_register_5 (by decide) (fun c5 => ?_) (fun c5 => ?_)
  · refine v_iconst (v := (-1)) dX4_register_17 (by decide) ?_
    refine v_iret dX4_register_18 rfl ?_
    refine ⟨?_, hr, kp_rf M⟩
    simp [regN, c5]
  · refine v_iload_n dX4_register_8 rfl ?_
    refine v_iconst (v := (nI 0)) dX4_register_9 rfl ?_
    refine v_iconst (v := (nI 2)) dX4_register_10 rfl ?_
    refine v_callSr (x := .int (bI (0 ≤ 0 ∧ 0 ≤ 2))) (M1 := M) (as := [.int (nI 0), .int (nI 0), .int (nI 2)]) (st := []) dX4_register_11 ml_X4_56 ks_X4_in ⟨(Nat.le_of_ble_eq_true rfl), (Nat.le_of_ble_eq_true rfl)⟩ rfl (Nat.le_of_ble_eq_true rfl) rfl (Nat.le_of_ble_eq_true rfl) (c_inN (by decide) (by decide) (by decide)) ?_
    refine v_ifB_ne (tgt := 19) dX4_register_14 (by decide) (fun c14 => ?_) (fun c14 => (absurd (by decide) c14))
    refine v_iload_n dX4_register_19 rfl ?_
    refine v_ifN_ne (tgt := 31) dX4_register_20 (by decide) (by decide) (fun c20 => (absurd rfl c20)) (fun c20 => ?_)
    refine v_aload_n dX4_register_23 rfl ?_
    refine v_iload_n dX4_register_24 rfl ?_
    refine v_callV (as := [.int (nI n)]) (st := []) dX4_register_25 ml_X4_91 kv_X4_foreign ⟨by decide, rfl, by decide⟩ ⟨(Nat.le_of_ble_eq_true rfl), (Nat.le_of_ble_eq_true rfl)⟩ rfl (Nat.le_of_ble_eq_true rfl) rfl (Nat.le_of_ble_eq_true rfl) (c_foreign (sc_rf M) hr.1 hW hn c5) (fun v M1 hq => ?_)
    obtain ⟨rfl, h9⟩ := hq
    refine v_goto (tgt := 49) dX4_register_28 (by decide) ?_
    refine v_iret dX4_register_49 rfl ?_
    refine ⟨?_, REF_sc hr (fun i a _ _ _ => h9 i a), fun i a => h9 i (by omega)⟩
    simp [regN, c5]
set_option maxRecDepth 100000 in
theorem c_register_1 (hr : REF M T R P Im tx t) (hW : WF T) {nd : Nat} (hnd : R 0 = nI nd) (hnb : nd < 2 ^ 31) {n : Nat} (hn : n < nN T) : V kX4_register (rA M (regN T nd n 1) T R P Im tx t) M 0 [(0, .ref 60), (1, .int (nI n)), (2, .int (nI 1))] [] := by
  have h16 := hW.n16
  refine v_aload_n dX4_register_0 rfl ?_
  refine v_iload_n dX4_register_1 rfl ?_
  refine v_callVr (x := .int (bI (so T n = 1))) (M1 := M) (as := [.int (nI n)]) (st := []) dX4_register_2 ml_X4_167 kv_X4_isRegister ⟨by decide, rfl, by decide⟩ ⟨(Nat.le_of_ble_eq_true rfl), (Nat.le_of_ble_eq_true rfl)⟩ rfl (Nat.le_of_ble_eq_true rfl) rfl (Nat.le_of_ble_eq_true rfl) (c_isRegister hr.1 hW hn) ?_
  refine v_ifB_eq (tgt := 17) dX4_register_5 (by decide) (fun c5 => ?_) (fun c5 => ?_)
  · refine v_iconst (v := (-1)) dX4_register_17 (by decide) ?_
    refine v_iret dX4_register_18 rfl ?_
    refine ⟨?_, hr, kp_rf M⟩
    simp [regN, c5]
  · refine v_iload_n dX4_register_8 rfl ?_
    refine v_iconst (v := (nI 0)) dX4_register_9 rfl ?_
    refine v_iconst (v := (nI 2)) dX4_register_10 rfl ?_
    refine v_callSr (x := .int (bI (0 ≤ 1 ∧ 1 ≤ 2))) (M1 := M) (as := [.int (nI 1), .int (nI 0), .int (nI 2)]) (st := []) dX4_register_11 ml_X4_56 ks_X4_in ⟨(Nat.le_of_ble_eq_true rfl), (Nat.le_of_ble_eq_true rfl)⟩ rfl (Nat.le_of_ble_eq_true rfl) rfl (Nat.le_of_ble_eq_true rfl) (c_inN (by decide) (by decide) (by decide)) ?_
    refine v_ifB_ne (tgt := 19) dX4_register_14 (by decide) (fun c14 => ?_) (fun c14 => (absurd (by decide) c14))
    refine v_iload_n dX4_register_19 rfl ?_
    refine v_ifN_ne (tgt := 31) dX4_register_20 (by decide) (by decide) (fun c20 => ?_) (fun c20 => (absurd c20 (by decide)))
    refine v_iload_n dX4_register_31 rfl ?_
    refine v_iconst (v := (nI 1)) dX4_register_32 rfl ?_
    refine v_icmpN_ne (tgt := 44) dX4_register_33 (by decide) (by decide) (by decide) (fun c33 => (absurd rfl c33)) (fun c33 => ?_)
    refine v_aload_n dX4_register_36 rfl ?_
    refine v_iload_n dX4_register_37 rfl ?_
    refine v_callVr (x := .int (nI (dpF T n))) (M1 := M) (as := [.int (nI n)]) (st := []) dX4_register_38 ml_X4_103 kv_X4_depth ⟨by decide, rfl, by decide⟩ ⟨(Nat.le_of_ble_eq_true rfl), (Nat.le_of_ble_eq_true rfl)⟩ rfl (Nat.le_of_ble_eq_true rfl) rfl (Nat.le_of_ble_eq_true rfl) (c_depth hr.1 hW hn) ?_
    refine v_goto (tgt := 49) dX4_register_41 (by decide) ?_
    refine v_iret dX4_register_49 rfl ?_
    refine ⟨?_, hr, kp_rf M⟩
    simp [regN, c5]
set_option maxRecDepth 100000 in
theorem c_register_2 (hr : REF M T R P Im tx t) (hW : WF T) {nd : Nat} (hnd : R 0 = nI nd) (hnb : nd < 2 ^ 31) {n : Nat} (hn : n < nN T) : V kX4_register (rA M (regN T nd n 2) T R P Im tx t) M 0 [(0, .ref 60), (1, .int (nI n)), (2, .int (nI 2))] [] := by
  have h16 := hW.n16
  refine v_aload_n dX4_register_0 rfl ?_
  refine v_iload_n dX4_register_1 rfl ?_
  refine v_callVr (x := .int (bI (so T n = 1))) (M1 := M) (as := [.int (nI n)]) (st := []) dX4_register_2 ml_X4_167 kv_X4_isRegister ⟨by decide, rfl, by decide⟩ ⟨(Nat.le_of_ble_eq_true rfl), (Nat.le_of_ble_eq_true rfl)⟩ rfl (Nat.le_of_ble_eq_true rfl) rfl (Nat.le_of_ble_eq_true rfl) (c_isRegister hr.1 hW hn) ?_
  refine v_ifB_eq (tgt := 17) dX4_register_5 (by decide) (fun c5 => ?_) (fun c5 => ?_)
  · refine v_iconst (v := (-1)) dX4_register_17 (by decide) ?_
    refine v_iret dX4_register_18 rfl ?_
    refine ⟨?_, hr, kp_rf M⟩
    simp [regN, c5]
  · refine v_iload_n dX4_register_8 rfl ?_
    refine v_iconst (v := (nI 0)) dX4_register_9 rfl ?_
    refine v_iconst (v := (nI 2)) dX4_register_10 rfl ?_
    refine v_callSr (x := .int (bI (0 ≤ 2 ∧ 2 ≤ 2))) (M1 := M) (as := [.int (nI 2), .int (nI 0), .int (nI 2)]) (st := []) dX4_register_11 ml_X4_56 ks_X4_in ⟨(Nat.le_of_ble_eq_true rfl), (Nat.le_of_ble_eq_true rfl)⟩ rfl (Nat.le_of_ble_eq_true rfl) rfl (Nat.le_of_ble_eq_true rfl) (c_inN (by decide) (by decide) (by decide)) ?_
    refine v_ifB_ne (tgt := 19) dX4_register_14 (by decide) (fun c14 => ?_) (fun c14 => (absurd (by decide) c14))
    refine v_iload_n dX4_register_19 rfl ?_
    refine v_ifN_ne (tgt := 31) dX4_register_20 (by decide) (by decide) (fun c20 => ?_) (fun c20 => (absurd c20 (by decide)))
    refine v_iload_n dX4_register_31 rfl ?_
    refine v_iconst (v := (nI 1)) dX4_register_32 rfl ?_
    refine v_icmpN_ne (tgt := 44) dX4_register_33 (by decide) (by decide) (by decide) (fun c33 => ?_) (fun c33 => (absurd c33 (by decide)))
    refine v_aload_n dX4_register_44 rfl ?_
    refine v_iload_n dX4_register_45 rfl ?_
    refine v_callV (as := [.int (nI n)]) (st := []) dX4_register_46 ml_X4_118 kv_X4_kindOf ⟨by decide, rfl, by decide⟩ ⟨(Nat.le_of_ble_eq_true rfl), (Nat.le_of_ble_eq_true rfl)⟩ rfl (Nat.le_of_ble_eq_true rfl) rfl (Nat.le_of_ble_eq_true rfl) (c_kindOf (sc_rf M) hr.1 hW ((congrFun hr.2.1 0).trans hnd) hnb hn c5) (fun v M1 hq => ?_)
    obtain ⟨rfl, h9⟩ := hq
    refine v_iret dX4_register_49 rfl ?_
    refine ⟨?_, REF_sc hr (fun i a _ _ _ => h9 i a), fun i a => h9 i (by omega)⟩
    simp [regN, c5]
theorem c_register (hr : REF M T R P Im tx t) (hW : WF T) {nd : Nat} (hnd : R 0 = nI nd) (hnb : nd < 2 ^ 31) {n j : Nat} (hn : n < nN T) (hj : j < 3) : V kX4_register (rA M (regN T nd n j) T R P Im tx t) M 0 [(0, .ref 60), (1, .int (nI n)), (2, .int (nI j))] [] := by
  rcases (show j = 0 ∨ j = 1 ∨ j = 2 by omega) with rfl | rfl | rfl
  · exact c_register_0 hr hW hnd hnb hn
  · exact c_register_1 hr hW hnd hnb hn
  · exact c_register_2 hr hW hnd hnb hn
set_option maxRecDepth 100000 in
theorem l_cross (hr : REF M0 T R P Im tx t) (hW : WF T) {nd : Nat} (hnd : R 0 = nI nd) (hnb : nd < 2 ^ 31) {k : Int32} (d : Nat) : ∀ (n : Nat) (m : Nat) (M : vM), n + d = nN T → sc M0 M → V kX4_crossing (rA M0 (crN T k d n m) T R P Im tx t) M 11 [(0, .ref 60), (1, .int k), (2, .int (nI m)), (3, .int (nI n))] [] := by
  have h16 := hW.n16
  induction d with
  | zero =>
    intro n m M hk hs
    refine v_iload_n dX4_crossing_11 rfl ?_
    refine v_aload_n dX4_crossing_12 rfl ?_
    refine v_callVr (x := .int (nI (nN T))) (M1 := M) (as := []) (st := [.int (nI n)]) dX4_crossing_13 ml_X4_52 kv_X4_many ⟨by decide, rfl, by decide⟩ ⟨(Nat.le_of_ble_eq_true rfl), (Nat.le_of_ble_eq_true rfl)⟩ rfl (Nat.le_of_ble_eq_true rfl) rfl (Nat.le_of_ble_eq_true rfl) (c_many (scT hs hr.1) hW) ?_
    refine v_icmpN_ge (tgt := 45) dX4_crossing_16 (by decide) (by omega) (by omega) (fun c16 => ?_) (fun c16 => (by omega))
    refine v_iload_n dX4_crossing_45 rfl ?_
    refine v_if_ge (tgt := 53) dX4_crossing_46 (by decide) (fun c46 => ?_) (fun c46 => ?_)
    · refine v_bipush (v := (-9)) dX4_crossing_53 (by decide) ?_
      refine v_iret dX4_crossing_55 rfl ?_
      refine ⟨?_, REF_sc hr (fun i a _ _ _ => hs i a), fun i a => hs i (by omega)⟩
      simp [crN, Int32.not_lt.mpr c46]
    · refine v_iload_n dX4_crossing_49 rfl ?_
      refine v_goto (tgt := 55) dX4_crossing_50 (by decide) ?_
      refine v_iret dX4_crossing_55 rfl ?_
      refine ⟨?_, REF_sc hr (fun i a _ _ _ => hs i a), fun i a => hs i (by omega)⟩
      simp [crN, Int32.not_le.mp c46]
  | succ d ih =>
    intro n m M hk hs
    refine v_iload_n dX4_crossing_11 rfl ?_
    refine v_aload_n dX4_crossing_12 rfl ?_
    refine v_callVr (x := .int (nI (nN T))) (M1 := M) (as := []) (st := [.int (nI n)]) dX4_crossing_13 ml_X4_52 kv_X4_many ⟨by decide, rfl, by decide⟩ ⟨(Nat.le_of_ble_eq_true rfl), (Nat.le_of_ble_eq_true rfl)⟩ rfl (Nat.le_of_ble_eq_true rfl) rfl (Nat.le_of_ble_eq_true rfl) (c_many (scT hs hr.1) hW) ?_
    refine v_icmpN_ge (tgt := 45) dX4_crossing_16 (by decide) (by omega) (by omega) (fun c16 => (by omega)) (fun c16 => ?_)
    refine v_aload_n dX4_crossing_19 rfl ?_
    refine v_iload_n dX4_crossing_20 rfl ?_
    refine v_callV (as := [.int (nI n)]) (st := []) dX4_crossing_21 ml_X4_170 kv_X4_kindAt ⟨by decide, rfl, by decide⟩ ⟨(Nat.le_of_ble_eq_true rfl), (Nat.le_of_ble_eq_true rfl)⟩ rfl (Nat.le_of_ble_eq_true rfl) rfl (Nat.le_of_ble_eq_true rfl) (c_kindAt (sc_rf _) (scT hs hr.1) hW ((congrFun (hs 63 (by decide)) 0).trans ((congrFun hr.2.1 0).trans hnd)) hnb (by omega)) (fun v M hq => ?_)
    obtain ⟨rfl, h9⟩ := hq
    have hs := sc_tr hs h9
    refine v_bipush (v := (-9)) dX4_crossing_24 (by decide) ?_
    refine v_icmp_eq (tgt := 39) dX4_crossing_26 (by decide) (fun c26 => ?_) (fun c26 => ?_)
    · have hx : ¬ cxB T n = true := kaO_cx.mp ((oI_none (fun m hm => by have := kaO_le hm; omega)).mp c26)
      refine v_iincN (lv' := [(0, .ref 60), (1, .int k), (2, .int (nI m)), (3, .int (nI (n + 1)))]) dX4_crossing_39 rfl (Nat.le_of_ble_eq_true rfl) rfl ?_
      refine v_goto (tgt := 11) dX4_crossing_42 (by decide) ?_
      rw [show crN T k (d + 1) n m = crN T k d (n + 1) m by simp only [crN]; rw [if_neg hx]]
      exact ih (n + 1) m _ (by omega) hs
    · have hx : cxB T n = true := Classical.byContradiction (fun z => c26 ((oI_none (fun m hm => by have := kaO_le hm; omega)).mpr (kaO_cx.mpr z)))
      refine v_iload_n dX4_crossing_29 rfl ?_
      refine v_iload_n dX4_crossing_30 rfl ?_
      refine v_icmp_ne (tgt := 36) dX4_crossing_31 (by decide) (fun c31 => ?_) (fun c31 => ?_)
      · refine v_iincN (lv' := [(0, .ref 60), (1, .int k), (2, .int (nI (m + 1))), (3, .int (nI n))]) dX4_crossing_36 rfl (Nat.le_of_ble_eq_true rfl) rfl ?_
        refine v_iincN (lv' := [(0, .ref 60), (1, .int k), (2, .int (nI (m + 1))), (3, .int (nI (n + 1)))]) dX4_crossing_39 rfl (Nat.le_of_ble_eq_true rfl) rfl ?_
        refine v_goto (tgt := 11) dX4_crossing_42 (by decide) ?_
        rw [show crN T k (d + 1) n m = crN T k d (n + 1) (m + 1) by simp only [crN]; rw [if_pos hx, if_neg c31]]
        exact ih (n + 1) (m + 1) _ (by omega) hs
      · refine v_iload_n dX4_crossing_34 rfl ?_
        refine v_iret dX4_crossing_35 rfl ?_
        refine ⟨?_, REF_sc hr (fun i a _ _ _ => hs i a), fun i a => hs i (by omega)⟩
        simp only [crN]
        rw [if_pos hx, if_pos c31]
set_option maxRecDepth 100000 in
theorem c_crossing (hr : REF M T R P Im tx t) (hW : WF T) {nd : Nat} (hnd : R 0 = nI nd) (hnb : nd < 2 ^ 31) (k : Int32) : V kX4_crossing (rA M (crF T k) T R P Im tx t) M 0 [(0, .ref 60), (1, .int k)] [] := by
  have h16 := hW.n16
  refine v_iload_n dX4_crossing_0 rfl ?_
  refine v_iconst (v := (-1)) dX4_crossing_1 (by decide) ?_
  refine v_icmp_ge (tgt := 7) dX4_crossing_2 (by decide) (fun c2 => ?_) (fun c2 => ?_)
  · refine v_iconst (v := (nI 0)) dX4_crossing_7 rfl ?_
    refine v_istore_n (lv' := [(0, .ref 60), (1, .int k), (2, .int (nI 0))]) dX4_crossing_8 (Nat.le_of_ble_eq_true rfl) rfl ?_
    refine v_iconst (v := (nI 0)) dX4_crossing_9 rfl ?_
    refine v_istore_n (lv' := [(0, .ref 60), (1, .int k), (2, .int (nI 0)), (3, .int (nI 0))]) dX4_crossing_10 (Nat.le_of_ble_eq_true rfl) rfl ?_
    rw [show crF T k = crN T k (nN T) 0 0 from if_pos c2]
    exact l_cross hr hW hnd hnb (nN T) 0 0 M (by omega) (sc_rf M)
  · refine v_iconst (v := (-1)) dX4_crossing_5 (by decide) ?_
    refine v_iret dX4_crossing_6 rfl ?_
    refine ⟨?_, hr, kp_rf M⟩
    simp [crF, c2]
set_option maxRecDepth 100000 in
theorem l_kinds (hr : REF M0 T R P Im tx t) (hW : WF T) {nd : Nat} (hnd : R 0 = nI nd) (hnb : nd < 2 ^ 31) {j : Nat} (hj : j < 4) (d : Nat) : ∀ (n : Nat) (M : vM), n + d = nN T → sc M0 M → V kX4_kinds (rA M0 (nI (knN T nd j (nN T))) T R P Im tx t) M 15 [(0, .ref 60), (1, .int (nI j)), (2, .int (nI (knN T nd j n))), (3, .int (nI n))] [] := by
  have h16 := hW.n16
  induction d with
  | zero =>
    intro n M hk hs
    refine v_iload_n dX4_kinds_15 rfl ?_
    refine v_aload_n dX4_kinds_16 rfl ?_
    refine v_callVr (x := .int (nI (nN T))) (M1 := M) (as := []) (st := [.int (nI n)]) dX4_kinds_17 ml_X4_52 kv_X4_many ⟨by decide, rfl, by decide⟩ ⟨(Nat.le_of_ble_eq_true rfl), (Nat.le_of_ble_eq_true rfl)⟩ rfl (Nat.le_of_ble_eq_true rfl) rfl (Nat.le_of_ble_eq_true rfl) (c_many (scT hs hr.1) hW) ?_
    refine v_icmpN_ge (tgt := 46) dX4_kinds_20 (by decide) (by omega) (by omega) (fun c20 => ?_) (fun c20 => (by omega))
    refine v_iload_n dX4_kinds_46 rfl ?_
    refine v_iret dX4_kinds_47 rfl ?_
    refine ⟨?_, REF_sc hr (fun i a _ _ _ => hs i a), fun i a => hs i (by omega)⟩
    rw [show n = nN T by omega]
  | succ d ih =>
    intro n M hk hs
    refine v_iload_n dX4_kinds_15 rfl ?_
    refine v_aload_n dX4_kinds_16 rfl ?_
    refine v_callVr (x := .int (nI (nN T))) (M1 := M) (as := []) (st := [.int (nI n)]) dX4_kinds_17 ml_X4_52 kv_X4_many ⟨by decide, rfl, by decide⟩ ⟨(Nat.le_of_ble_eq_true rfl), (Nat.le_of_ble_eq_true rfl)⟩ rfl (Nat.le_of_ble_eq_true rfl) rfl (Nat.le_of_ble_eq_true rfl) (c_many (scT hs hr.1) hW) ?_
    refine v_icmpN_ge (tgt := 46) dX4_kinds_20 (by decide) (by omega) (by omega) (fun c20 => (by omega)) (fun c20 => ?_)
    refine v_iload_n dX4_kinds_23 rfl ?_
    refine v_aload_n dX4_kinds_24 rfl ?_
    refine v_iload_n dX4_kinds_25 rfl ?_
    refine v_callV (as := [.int (nI n)]) (st := [.int (nI (knN T nd j n))]) dX4_kinds_26 ml_X4_170 kv_X4_kindAt ⟨by decide, rfl, by decide⟩ ⟨(Nat.le_of_ble_eq_true rfl), (Nat.le_of_ble_eq_true rfl)⟩ rfl (Nat.le_of_ble_eq_true rfl) rfl (Nat.le_of_ble_eq_true rfl) (c_kindAt (sc_rf _) (scT hs hr.1) hW ((congrFun (hs 63 (by decide)) 0).trans ((congrFun hr.2.1 0).trans hnd)) hnb (by omega)) (fun v M hq => ?_)
    obtain ⟨rfl, h9⟩ := hq
    have hs := sc_tr hs h9
    refine v_iload_n dX4_kinds_29 rfl ?_
    refine v_icmp_ne (tgt := 37) dX4_kinds_30 (by decide) (fun c30 => ?_) (fun c30 => ?_)
    · have hx : ¬ kaO T nd n = some j := fun z => c30 ((oI_some (fun m hm => by have := kaO_le hm; omega) (by omega)).mpr z)
      refine v_iconst (v := (nI 0)) dX4_kinds_37 rfl ?_
      refine v_iaddN dX4_kinds_38 ?_
      refine v_top (y := (nI (knN T nd j (n + 1)))) (by simp [knN, hx]) ?_
      refine v_istore_n (lv' := [(0, .ref 60), (1, .int (nI j)), (2, .int (nI (knN T nd j (n + 1)))), (3, .int (nI n))]) dX4_kinds_39 (Nat.le_of_ble_eq_true rfl) rfl ?_
      refine v_iincN (lv' := [(0, .ref 60), (1, .int (nI j)), (2, .int (nI (knN T nd j (n + 1)))), (3, .int (nI (n + 1)))]) dX4_kinds_40 rfl (Nat.le_of_ble_eq_true rfl) rfl ?_
      refine v_goto (tgt := 15) dX4_kinds_43 (by decide) ?_
      exact ih (n + 1) _ (by omega) hs
    · have hx : kaO T nd n = some j := (oI_some (fun m hm => by have := kaO_le hm; omega) (by omega)).mp c30
      refine v_iconst (v := (nI 1)) dX4_kinds_33 rfl ?_
      refine v_goto (tgt := 38) dX4_kinds_34 (by decide) ?_
      refine v_iaddN dX4_kinds_38 ?_
      refine v_top (y := (nI (knN T nd j (n + 1)))) (by simp [knN, hx]) ?_
      refine v_istore_n (lv' := [(0, .ref 60), (1, .int (nI j)), (2, .int (nI (knN T nd j (n + 1)))), (3, .int (nI n))]) dX4_kinds_39 (Nat.le_of_ble_eq_true rfl) rfl ?_
      refine v_iincN (lv' := [(0, .ref 60), (1, .int (nI j)), (2, .int (nI (knN T nd j (n + 1)))), (3, .int (nI (n + 1)))]) dX4_kinds_40 rfl (Nat.le_of_ble_eq_true rfl) rfl ?_
      refine v_goto (tgt := 15) dX4_kinds_43 (by decide) ?_
      exact ih (n + 1) _ (by omega) hs
set_option maxRecDepth 100000 in
theorem c_kinds0 (hr : REF M T R P Im tx t) (hW : WF T) {x : Int32} (hx : ¬ (nI 0 ≤ x ∧ x ≤ nI 3)) : V kX4_kinds (rA M ((-1)) T R P Im tx t) M 0 [(0, .ref 60), (1, .int x)] [] := by
  have h16 := hW.n16
  refine v_iload_n dX4_kinds_0 rfl ?_
  refine v_iconst (v := (nI 0)) dX4_kinds_1 rfl ?_
  refine v_iconst (v := (nI 3)) dX4_kinds_2 rfl ?_
  refine v_callSr (x := .int (bI ((nI 0) ≤ x ∧ x ≤ (nI 3)))) (M1 := M) (as := [.int x, .int (nI 0), .int (nI 3)]) (st := []) dX4_kinds_3 ml_X4_56 ks_X4_in ⟨(Nat.le_of_ble_eq_true rfl), (Nat.le_of_ble_eq_true rfl)⟩ rfl (Nat.le_of_ble_eq_true rfl) rfl (Nat.le_of_ble_eq_true rfl) (c_in _ _ _) ?_
  refine v_ifB_ne (tgt := 11) dX4_kinds_6 (by decide) (fun c6 => (absurd c6 hx)) (fun c6 => ?_)
  refine v_iconst (v := (-1)) dX4_kinds_9 (by decide) ?_
  refine v_iret dX4_kinds_10 rfl ?_
  exact ⟨rfl, hr, kp_rf M⟩
set_option maxRecDepth 100000 in
theorem c_kinds (hr : REF M T R P Im tx t) (hW : WF T) {nd : Nat} (hnd : R 0 = nI nd) (hnb : nd < 2 ^ 31) {j : Nat} (hj : j < 4) : V kX4_kinds (rA M (nI (knN T nd j (nN T))) T R P Im tx t) M 0 [(0, .ref 60), (1, .int (nI j))] [] := by
  have h16 := hW.n16
  refine v_iload_n dX4_kinds_0 rfl ?_
  refine v_iconst (v := (nI 0)) dX4_kinds_1 rfl ?_
  refine v_iconst (v := (nI 3)) dX4_kinds_2 rfl ?_
  refine v_callSr (x := .int (bI (0 ≤ j ∧ j ≤ 3))) (M1 := M) (as := [.int (nI j), .int (nI 0), .int (nI 3)]) (st := []) dX4_kinds_3 ml_X4_56 ks_X4_in ⟨(Nat.le_of_ble_eq_true rfl), (Nat.le_of_ble_eq_true rfl)⟩ rfl (Nat.le_of_ble_eq_true rfl) rfl (Nat.le_of_ble_eq_true rfl) (c_inN (by omega) (by omega) (by omega)) ?_
  refine v_ifB_ne (tgt := 11) dX4_kinds_6 (by decide) (fun c6 => ?_) (fun c6 => (absurd (by omega) c6))
  refine v_iconst (v := (nI 0)) dX4_kinds_11 rfl ?_
  refine v_istore_n (lv' := [(0, .ref 60), (1, .int (nI j)), (2, .int (nI 0))]) dX4_kinds_12 (Nat.le_of_ble_eq_true rfl) rfl ?_
  refine v_iconst (v := (nI 0)) dX4_kinds_13 rfl ?_
  refine v_istore_n (lv' := [(0, .ref 60), (1, .int (nI j)), (2, .int (nI 0)), (3, .int (nI 0))]) dX4_kinds_14 (Nat.le_of_ble_eq_true rfl) rfl ?_
  exact l_kinds hr hW hnd hnb hj (nN T) 0 M (by omega) (sc_rf M)
set_option maxRecDepth 100000 in
theorem c_join (hr : REF M T R P Im tx t) (hW : WF T) (k w : Int32) : V kX4_join (rA M (jnA T k w) T R P Im tx t) M 0 [(0, .ref 60), (1, .int k), (2, .int w)] [] := by
  have h16 := hW.n16
  refine v_iload_n dX4_join_0 rfl ?_
  refine v_iconst (v := (-1)) dX4_join_1 (by decide) ?_
  refine v_icmp_lt (tgt := 22) dX4_join_2 (by decide) (fun c2 => ?_) (fun c2 => ?_)
  · refine v_iconst (v := (-1)) dX4_join_22 (by decide) ?_
    refine v_goto (tgt := 32) dX4_join_23 (by decide) ?_
    refine v_iret dX4_join_32 rfl ?_
    refine ⟨?_, hr, kp_rf M⟩
    simp [jnA, *]
  · refine v_iload_n dX4_join_5 rfl ?_
    refine v_iconst (v := (nI 0)) dX4_join_6 rfl ?_
    refine v_iload_n dX4_join_7 rfl ?_
    refine v_if_ge (tgt := 15) dX4_join_8 (by decide) (fun c8 => ?_) (fun c8 => ?_)
    · refine v_iconst (v := (nI 2)) dX4_join_15 rfl ?_
      refine v_callSr (x := .int (bI ((nI 0) ≤ w ∧ w ≤ (nI 2)))) (M1 := M) (as := [.int w, .int (nI 0), .int (nI 2)]) (st := []) dX4_join_16 ml_X4_56 ks_X4_in ⟨(Nat.le_of_ble_eq_true rfl), (Nat.le_of_ble_eq_true rfl)⟩ rfl (Nat.le_of_ble_eq_true rfl) rfl (Nat.le_of_ble_eq_true rfl) (c_in _ _ _) ?_
      refine v_ifB_ne (tgt := 26) dX4_join_19 (by decide) (fun c19 => ?_) (fun c19 => ?_)
      · refine v_aload_n dX4_join_26 rfl ?_
        refine v_iload_n dX4_join_27 rfl ?_
        refine v_iload_n dX4_join_28 rfl ?_
        refine v_callV (as := [.int k, .int w]) (st := []) dX4_join_29 ml_X4_173 kv_X4_joinAt ⟨by decide, rfl, by decide⟩ ⟨(Nat.le_of_ble_eq_true rfl), (Nat.le_of_ble_eq_true rfl)⟩ rfl (Nat.le_of_ble_eq_true rfl) rfl (Nat.le_of_ble_eq_true rfl) (c_joinAt (sc_rf M) hr.1 hW) (fun v M1 hq => ?_)
        obtain ⟨rfl, h9⟩ := hq
        refine v_iret dX4_join_32 rfl ?_
        refine ⟨?_, REF_sc hr (fun i a _ _ _ => h9 i a), fun i a => h9 i (by omega)⟩
        simp [jnA, *]
      · refine v_iconst (v := (-1)) dX4_join_22 (by decide) ?_
        refine v_goto (tgt := 32) dX4_join_23 (by decide) ?_
        refine v_iret dX4_join_32 rfl ?_
        refine ⟨?_, hr, kp_rf M⟩
        simp [jnA, *]
    · refine v_iconst (v := (nI 0)) dX4_join_11 rfl ?_
      refine v_goto (tgt := 16) dX4_join_12 (by decide) ?_
      refine v_callSr (x := .int (bI ((nI 0) ≤ w ∧ w ≤ (nI 0)))) (M1 := M) (as := [.int w, .int (nI 0), .int (nI 0)]) (st := []) dX4_join_16 ml_X4_56 ks_X4_in ⟨(Nat.le_of_ble_eq_true rfl), (Nat.le_of_ble_eq_true rfl)⟩ rfl (Nat.le_of_ble_eq_true rfl) rfl (Nat.le_of_ble_eq_true rfl) (c_in _ _ _) ?_
      refine v_ifB_ne (tgt := 26) dX4_join_19 (by decide) (fun c19 => ?_) (fun c19 => ?_)
      · refine v_aload_n dX4_join_26 rfl ?_
        refine v_iload_n dX4_join_27 rfl ?_
        refine v_iload_n dX4_join_28 rfl ?_
        refine v_callV (as := [.int k, .int w]) (st := []) dX4_join_29 ml_X4_173 kv_X4_joinAt ⟨by decide, rfl, by decide⟩ ⟨(Nat.le_of_ble_eq_true rfl), (Nat.le_of_ble_eq_true rfl)⟩ rfl (Nat.le_of_ble_eq_true rfl) rfl (Nat.le_of_ble_eq_true rfl) (c_joinAt (sc_rf M) hr.1 hW) (fun v M1 hq => ?_)
        obtain ⟨rfl, h9⟩ := hq
        refine v_iret dX4_join_32 rfl ?_
        refine ⟨?_, REF_sc hr (fun i a _ _ _ => h9 i a), fun i a => h9 i (by omega)⟩
        simp [jnA, *]
      · refine v_iconst (v := (-1)) dX4_join_22 (by decide) ?_
        refine v_goto (tgt := 32) dX4_join_23 (by decide) ?_
        refine v_iret dX4_join_32 rfl ?_
        refine ⟨?_, hr, kp_rf M⟩
        simp [jnA, *]
set_option maxRecDepth 100000 in
theorem c_period0 (hr : REF M T R P Im tx t) (hW : WF T) {x : Int32} (hx : ¬ (nI 0 ≤ x ∧ x ≤ nI 2)) : V kX4_period (rA M ((-1)) T R P Im tx t) M 0 [(0, .ref 60), (1, .int x)] [] := by
  have h16 := hW.n16
  refine v_iload_n dX4_period_0 rfl ?_
  refine v_iconst (v := (nI 0)) dX4_period_1 rfl ?_
  refine v_iconst (v := (nI 2)) dX4_period_2 rfl ?_
  refine v_callSr (x := .int (bI ((nI 0) ≤ x ∧ x ≤ (nI 2)))) (M1 := M) (as := [.int x, .int (nI 0), .int (nI 2)]) (st := []) dX4_period_3 ml_X4_56 ks_X4_in ⟨(Nat.le_of_ble_eq_true rfl), (Nat.le_of_ble_eq_true rfl)⟩ rfl (Nat.le_of_ble_eq_true rfl) rfl (Nat.le_of_ble_eq_true rfl) (c_in _ _ _) ?_
  refine v_ifB_eq (tgt := 21) dX4_period_6 (by decide) (fun c6 => ?_) (fun c6 => (absurd c6 hx))
  refine v_iconst (v := (-1)) dX4_period_21 (by decide) ?_
  refine v_iret dX4_period_22 rfl ?_
  exact ⟨rfl, hr, kp_rf M⟩
set_option maxRecDepth 100000 in
theorem c_period (hr : REF M T R P Im tx t) (hW : WF T) {c : Nat} (hc : c < 3) : V kX4_period (rA M (nI (pe T c)) T R P Im tx t) M 0 [(0, .ref 60), (1, .int (nI c))] [] := by
  have h16 := hW.n16
  refine v_iload_n dX4_period_0 rfl ?_
  refine v_iconst (v := (nI 0)) dX4_period_1 rfl ?_
  refine v_iconst (v := (nI 2)) dX4_period_2 rfl ?_
  refine v_callSr (x := .int (bI (0 ≤ c ∧ c ≤ 2))) (M1 := M) (as := [.int (nI c), .int (nI 0), .int (nI 2)]) (st := []) dX4_period_3 ml_X4_56 ks_X4_in ⟨(Nat.le_of_ble_eq_true rfl), (Nat.le_of_ble_eq_true rfl)⟩ rfl (Nat.le_of_ble_eq_true rfl) rfl (Nat.le_of_ble_eq_true rfl) (c_inN (by omega) (by omega) (by omega)) ?_
  refine v_ifB_eq (tgt := 21) dX4_period_6 (by decide) (fun c6 => (absurd (by omega) c6)) (fun c6 => ?_)
  refine v_aload_n dX4_period_9 rfl ?_
  refine v_getR (t := 61) dX4_period_10 fl_X4_7 ⟨by decide, rfl, by decide⟩ rfl rfl ?_
  refine v_bipush (v := (nI 92)) dX4_period_13 rfl ?_
  refine v_iload_n dX4_period_15 rfl ?_
  refine v_iaddN dX4_period_16 ?_
  refine v_iald2 (n := 97) (a := 92 + c) (y := (nI (pe T c))) dX4_period_17 ⟨by decide, rfl, rfl⟩ (rfl) (by omega) (by rw [hr.1]; exact (hW.2.2.2.2.2.2.2 c hc).1) ?_
  refine v_goto (tgt := 22) dX4_period_18 (by decide) ?_
  refine v_iret dX4_period_22 rfl ?_
  exact ⟨rfl, hr, kp_rf M⟩
set_option maxRecDepth 100000 in
theorem c_wish0 (hr : REF M T R P Im tx t) (hW : WF T) {x : Int32} (hx : ¬ isN T x) : V kX4_wish (rA M ((-1)) T R P Im tx t) M 0 [(0, .ref 60), (1, .int x)] [] := by
  have h16 := hW.n16
  refine v_aload_n dX4_wish_0 rfl ?_
  refine v_iload_n dX4_wish_1 rfl ?_
  refine v_callVr (x := .int (nI 0)) (M1 := M) (as := [.int x]) (st := []) dX4_wish_2 ml_X4_161 kv_X4_isInput ⟨by decide, rfl, by decide⟩ ⟨(Nat.le_of_ble_eq_true rfl), (Nat.le_of_ble_eq_true rfl)⟩ rfl (Nat.le_of_ble_eq_true rfl) rfl (Nat.le_of_ble_eq_true rfl) (c_isInput0 hr.1 hW hx) ?_
  refine v_ifN_eq (tgt := 20) dX4_wish_5 (by decide) (by omega) (fun c5 => ?_) (fun c5 => (absurd rfl c5))
  refine v_iconst (v := (-1)) dX4_wish_20 (by decide) ?_
  refine v_iret dX4_wish_21 rfl ?_
  exact ⟨rfl, hr, kp_rf M⟩
set_option maxRecDepth 100000 in
theorem c_wish (hr : REF M T R P Im tx t) (hW : WF T) {n : Nat} (hn : n < nN T) : V kX4_wish (rA M (if so T n = 0 then R (20 + n) else (-1)) T R P Im tx t) M 0 [(0, .ref 60), (1, .int (nI n))] [] := by
  have h16 := hW.n16
  refine v_aload_n dX4_wish_0 rfl ?_
  refine v_iload_n dX4_wish_1 rfl ?_
  refine v_callVr (x := .int (bI (so T n = 0))) (M1 := M) (as := [.int (nI n)]) (st := []) dX4_wish_2 ml_X4_161 kv_X4_isInput ⟨by decide, rfl, by decide⟩ ⟨(Nat.le_of_ble_eq_true rfl), (Nat.le_of_ble_eq_true rfl)⟩ rfl (Nat.le_of_ble_eq_true rfl) rfl (Nat.le_of_ble_eq_true rfl) (c_isInput hr.1 hW hn) ?_
  refine v_ifB_eq (tgt := 20) dX4_wish_5 (by decide) (fun c5 => ?_) (fun c5 => ?_)
  · refine v_iconst (v := (-1)) dX4_wish_20 (by decide) ?_
    refine v_iret dX4_wish_21 rfl ?_
    refine ⟨?_, hr, kp_rf M⟩
    simp [c5]
  · refine v_aload_n dX4_wish_8 rfl ?_
    refine v_getR (t := 63) dX4_wish_9 fl_X4_16 ⟨by decide, rfl, by decide⟩ rfl rfl ?_
    refine v_bipush (v := (nI 20)) dX4_wish_12 rfl ?_
    refine v_iload_n dX4_wish_14 rfl ?_
    refine v_iaddN dX4_wish_15 ?_
    refine v_iald2 (n := 36) (a := 20 + n) (y := (R (20 + n))) dX4_wish_16 ⟨by decide, rfl, rfl⟩ (rfl) (by omega) (congrFun hr.2.1 _) ?_
    refine v_goto (tgt := 21) dX4_wish_17 (by decide) ?_
    refine v_iret dX4_wish_21 rfl ?_
    refine ⟨?_, hr, kp_rf M⟩
    simp [c5]
set_option maxRecDepth 100000 in
theorem c_count_0 (hr : REF M T R P Im tx t) (hW : WF T) : V kX4_count (rA M (cntN T R P.length t 0) T R P Im tx t) M 0 [(0, .ref 60), (1, .int (nI 0))] [] := by
  have h16 := hW.n16
  refine v_iload_n dX4_count_0 rfl ?_
  skip
  · refine v_tabIn (tgt := 48) (off := 47) dX4_count_1 (by decide) (by decide) (by decide) (by decide) ?_
    refine v_aload_n dX4_count_48 rfl ?_
    refine v_callVr (x := .int (nI (nN T))) (M1 := M) (as := []) (st := []) dX4_count_49 ml_X4_52 kv_X4_many ⟨by decide, rfl, by decide⟩ ⟨(Nat.le_of_ble_eq_true rfl), (Nat.le_of_ble_eq_true rfl)⟩ rfl (Nat.le_of_ble_eq_true rfl) rfl (Nat.le_of_ble_eq_true rfl) (c_many hr.1 hW) ?_
    refine v_iret dX4_count_52 rfl ?_
    exact ⟨rfl, hr, kp_rf M⟩
set_option maxRecDepth 100000 in
theorem c_count_1 (hr : REF M T R P Im tx t) (hW : WF T) : V kX4_count (rA M (cntN T R P.length t 1) T R P Im tx t) M 0 [(0, .ref 60), (1, .int (nI 1))] [] := by
  have h16 := hW.n16
  refine v_iload_n dX4_count_0 rfl ?_
  skip
  · refine v_tabIn (tgt := 53) (off := 52) dX4_count_1 (by decide) (by decide) (by decide) (by decide) ?_
    refine v_aload_n dX4_count_53 rfl ?_
    refine v_getR (t := 61) dX4_count_54 fl_X4_7 ⟨by decide, rfl, by decide⟩ rfl rfl ?_
    refine v_bipush (v := (nI 96)) dX4_count_57 rfl ?_
    refine v_iald2 (n := 97) (a := 96) (y := (nI (nK T))) dX4_count_59 ⟨by decide, rfl, rfl⟩ (rfl) (by omega) (by rw [hr.1]; exact hW.2.1.1) ?_
    refine v_iret dX4_count_60 rfl ?_
    exact ⟨rfl, hr, kp_rf M⟩
set_option maxRecDepth 100000 in
theorem c_count_2 (hr : REF M T R P Im tx t) (hW : WF T) : V kX4_count (rA M (cntN T R P.length t 2) T R P Im tx t) M 0 [(0, .ref 60), (1, .int (nI 2))] [] := by
  have h16 := hW.n16
  refine v_iload_n dX4_count_0 rfl ?_
  skip
  · refine v_tabIn (tgt := 61) (off := 60) dX4_count_1 (by decide) (by decide) (by decide) (by decide) ?_
    refine v_aload_n dX4_count_61 rfl ?_
    refine v_getR (t := 63) dX4_count_62 fl_X4_16 ⟨by decide, rfl, by decide⟩ rfl rfl ?_
    refine v_iload_n dX4_count_65 rfl ?_
    refine v_iconst (v := (nI 2)) dX4_count_66 rfl ?_
    refine v_isubN dX4_count_67 (by decide) ?_
    refine v_iald2 (n := 36) (a := 2 - 2) (y := (R (2 - 2))) dX4_count_68 ⟨by decide, rfl, rfl⟩ (rfl) (by omega) (congrFun hr.2.1 _) ?_
    refine v_iret dX4_count_69 rfl ?_
    exact ⟨rfl, hr, kp_rf M⟩
set_option maxRecDepth 100000 in
theorem c_count_3 (hr : REF M T R P Im tx t) (hW : WF T) : V kX4_count (rA M (cntN T R P.length t 3) T R P Im tx t) M 0 [(0, .ref 60), (1, .int (nI 3))] [] := by
  have h16 := hW.n16
  refine v_iload_n dX4_count_0 rfl ?_
  skip
  · refine v_tabIn (tgt := 61) (off := 60) dX4_count_1 (by decide) (by decide) (by decide) (by decide) ?_
    refine v_aload_n dX4_count_61 rfl ?_
    refine v_getR (t := 63) dX4_count_62 fl_X4_16 ⟨by decide, rfl, by decide⟩ rfl rfl ?_
    refine v_iload_n dX4_count_65 rfl ?_
    refine v_iconst (v := (nI 2)) dX4_count_66 rfl ?_
    refine v_isubN dX4_count_67 (by decide) ?_
    refine v_iald2 (n := 36) (a := 3 - 2) (y := (R (3 - 2))) dX4_count_68 ⟨by decide, rfl, rfl⟩ (rfl) (by omega) (congrFun hr.2.1 _) ?_
    refine v_iret dX4_count_69 rfl ?_
    exact ⟨rfl, hr, kp_rf M⟩
set_option maxRecDepth 100000 in
theorem c_count_4 (hr : REF M T R P Im tx t) (hW : WF T) : V kX4_count (rA M (cntN T R P.length t 4) T R P Im tx t) M 0 [(0, .ref 60), (1, .int (nI 4))] [] := by
  have h16 := hW.n16
  refine v_iload_n dX4_count_0 rfl ?_
  skip
  · refine v_tabIn (tgt := 61) (off := 60) dX4_count_1 (by decide) (by decide) (by decide) (by decide) ?_
    refine v_aload_n dX4_count_61 rfl ?_
    refine v_getR (t := 63) dX4_count_62 fl_X4_16 ⟨by decide, rfl, by decide⟩ rfl rfl ?_
    refine v_iload_n dX4_count_65 rfl ?_
    refine v_iconst (v := (nI 2)) dX4_count_66 rfl ?_
    refine v_isubN dX4_count_67 (by decide) ?_
    refine v_iald2 (n := 36) (a := 4 - 2) (y := (R (4 - 2))) dX4_count_68 ⟨by decide, rfl, rfl⟩ (rfl) (by omega) (congrFun hr.2.1 _) ?_
    refine v_iret dX4_count_69 rfl ?_
    exact ⟨rfl, hr, kp_rf M⟩
set_option maxRecDepth 100000 in
theorem c_count_5 (hr : REF M T R P Im tx t) (hW : WF T) : V kX4_count (rA M (cntN T R P.length t 5) T R P Im tx t) M 0 [(0, .ref 60), (1, .int (nI 5))] [] := by
  have h16 := hW.n16
  refine v_iload_n dX4_count_0 rfl ?_
  skip
  · refine v_tabIn (tgt := 61) (off := 60) dX4_count_1 (by decide) (by decide) (by decide) (by decide) ?_
    refine v_aload_n dX4_count_61 rfl ?_
    refine v_getR (t := 63) dX4_count_62 fl_X4_16 ⟨by decide, rfl, by decide⟩ rfl rfl ?_
    refine v_iload_n dX4_count_65 rfl ?_
    refine v_iconst (v := (nI 2)) dX4_count_66 rfl ?_
    refine v_isubN dX4_count_67 (by decide) ?_
    refine v_iald2 (n := 36) (a := 5 - 2) (y := (R (5 - 2))) dX4_count_68 ⟨by decide, rfl, rfl⟩ (rfl) (by omega) (congrFun hr.2.1 _) ?_
    refine v_iret dX4_count_69 rfl ?_
    exact ⟨rfl, hr, kp_rf M⟩
set_option maxRecDepth 100000 in
theorem c_count_6 (hr : REF M T R P Im tx t) (hW : WF T) : V kX4_count (rA M (cntN T R P.length t 6) T R P Im tx t) M 0 [(0, .ref 60), (1, .int (nI 6))] [] := by
  have h16 := hW.n16
  refine v_iload_n dX4_count_0 rfl ?_
  skip
  · refine v_tabIn (tgt := 70) (off := 69) dX4_count_1 (by decide) (by decide) (by decide) (by decide) ?_
    refine v_aload_n dX4_count_70 rfl ?_
    refine v_getI2 (y := (nI t)) dX4_count_71 fl_X4_185 ⟨by decide, rfl, by decide⟩ rfl (hr.2.2.2.2.1) ?_
    refine v_iret dX4_count_74 rfl ?_
    exact ⟨rfl, hr, kp_rf M⟩
set_option maxRecDepth 100000 in
theorem c_count_7 (hr : REF M T R P Im tx t) (hW : WF T) : V kX4_count (rA M (cntN T R P.length t 7) T R P Im tx t) M 0 [(0, .ref 60), (1, .int (nI 7))] [] := by
  have h16 := hW.n16
  refine v_iload_n dX4_count_0 rfl ?_
  skip
  · refine v_tabIn (tgt := 75) (off := 74) dX4_count_1 (by decide) (by decide) (by decide) (by decide) ?_
    refine v_aload_n dX4_count_75 rfl ?_
    refine v_getI2 (y := (nI P.length)) dX4_count_76 fl_X4_48 ⟨by decide, rfl, by decide⟩ rfl (hr.2.2.1.1) ?_
    refine v_iret dX4_count_79 rfl ?_
    exact ⟨rfl, hr, kp_rf M⟩
set_option maxRecDepth 100000 in
theorem c_countO (hr : REF M T R P Im tx t) (hW : WF T) {w : Int32} (hw : w.toInt < 0 ∨ 7 < w.toInt) : V kX4_count (rA M ((-1)) T R P Im tx t) M 0 [(0, .ref 60), (1, .int w)] [] := by
  have h16 := hW.n16
  refine v_iload_n dX4_count_0 rfl ?_
  skip
  · refine v_tabOut (tgt := 80) dX4_count_1 hw (by decide) ?_
    refine v_iconst (v := (-1)) dX4_count_80 (by decide) ?_
    refine v_iret dX4_count_81 rfl ?_
    exact ⟨rfl, hr, kp_rf M⟩
theorem c_count (hr : REF M T R P Im tx t) (hW : WF T) {j : Nat} (hj : j < 8) : V kX4_count (rA M (cntN T R P.length t j) T R P Im tx t) M 0 [(0, .ref 60), (1, .int (nI j))] [] := by
  rcases le8 hj with rfl | rfl | rfl | rfl | rfl | rfl | rfl | rfl
  · exact c_count_0 hr hW
  · exact c_count_1 hr hW
  · exact c_count_2 hr hW
  · exact c_count_3 hr hW
  · exact c_count_4 hr hW
  · exact c_count_5 hr hW
  · exact c_count_6 hr hW
  · exact c_count_7 hr hW
set_option maxRecDepth 100000 in
theorem c_type0 (hr : REF M T R P Im tx t) (hW : WF T) {x : Int32} (hx : ¬ (nI 0 ≤ x ∧ x ≤ nI 255)) : V kX4_type (rA M ((-1)) T R P Im tx t) M 0 [(0, .ref 60), (1, .int x)] [] := by
  have h16 := hW.n16
  refine v_iload_n dX4_type_0 rfl ?_
  refine v_iconst (v := (nI 0)) dX4_type_1 rfl ?_
  refine v_sipush (v := (nI 255)) dX4_type_2 rfl ?_
  refine v_callSr (x := .int (bI ((nI 0) ≤ x ∧ x ≤ (nI 255)))) (M1 := M) (as := [.int x, .int (nI 0), .int (nI 255)]) (st := []) dX4_type_5 ml_X4_56 ks_X4_in ⟨(Nat.le_of_ble_eq_true rfl), (Nat.le_of_ble_eq_true rfl)⟩ rfl (Nat.le_of_ble_eq_true rfl) rfl (Nat.le_of_ble_eq_true rfl) (c_in _ _ _) ?_
  refine v_ifB_ne (tgt := 13) dX4_type_8 (by decide) (fun c8 => (absurd c8 hx)) (fun c8 => ?_)
  refine v_iconst (v := (-1)) dX4_type_11 (by decide) ?_
  refine v_iret dX4_type_12 rfl ?_
  exact ⟨rfl, hr, kp_rf M⟩
set_option maxRecDepth 100000 in
theorem c_typeF (hr : REF M T R P Im tx 160) {x : Int32} (hx : nI 0 ≤ x ∧ x ≤ nI 255) : V kX4_type (rA M (-3) T R P Im tx 160) M 0 [(0, .ref 60), (1, .int x)] [] := by
  refine v_iload_n dX4_type_0 rfl ?_
  refine v_iconst (v := (nI 0)) dX4_type_1 rfl ?_
  refine v_sipush (v := (nI 255)) dX4_type_2 rfl ?_
  refine v_callSr (x := .int (bI ((nI 0) ≤ x ∧ x ≤ (nI 255)))) (M1 := M) (as := [.int x, .int (nI 0), .int (nI 255)]) (st := []) dX4_type_5 ml_X4_56 ks_X4_in ⟨(Nat.le_of_ble_eq_true rfl), (Nat.le_of_ble_eq_true rfl)⟩ rfl (Nat.le_of_ble_eq_true rfl) rfl (Nat.le_of_ble_eq_true rfl) (c_in _ _ _) ?_
  refine v_ifB_ne (tgt := 13) dX4_type_8 (by decide) (fun c8 => ?_) (fun c8 => (absurd hx c8))
  refine v_aload_n dX4_type_13 rfl ?_
  refine v_getI2 (y := (nI 160)) dX4_type_14 fl_X4_185 ⟨by decide, rfl, by decide⟩ rfl (hr.2.2.2.2.1) ?_
  refine v_sipush (v := (nI 160)) dX4_type_17 rfl ?_
  refine v_icmpN_ne (tgt := 26) dX4_type_20 (by decide) (by decide) (by decide) (fun c20 => (absurd rfl c20)) (fun c20 => ?_)
  refine v_bipush (v := (-3)) dX4_type_23 (by decide) ?_
  refine v_iret dX4_type_25 rfl ?_
  exact ⟨rfl, hr, kp_rf M⟩
set_option maxRecDepth 100000 in
theorem c_type (hr : REF M T R P Im tx t) {x : Int32} (hx : nI 0 ≤ x ∧ x ≤ nI 255) (ht : t < 160) : V kX4_type (rA M (nI (t + 1)) T R P Im (upd tx t x) (t + 1)) M 0 [(0, .ref 60), (1, .int x)] [] := by
  refine v_iload_n dX4_type_0 rfl ?_
  refine v_iconst (v := (nI 0)) dX4_type_1 rfl ?_
  refine v_sipush (v := (nI 255)) dX4_type_2 rfl ?_
  refine v_callSr (x := .int (bI ((nI 0) ≤ x ∧ x ≤ (nI 255)))) (M1 := M) (as := [.int x, .int (nI 0), .int (nI 255)]) (st := []) dX4_type_5 ml_X4_56 ks_X4_in ⟨(Nat.le_of_ble_eq_true rfl), (Nat.le_of_ble_eq_true rfl)⟩ rfl (Nat.le_of_ble_eq_true rfl) rfl (Nat.le_of_ble_eq_true rfl) (c_in _ _ _) ?_
  refine v_ifB_ne (tgt := 13) dX4_type_8 (by decide) (fun c8 => ?_) (fun c8 => (absurd hx c8))
  refine v_aload_n dX4_type_13 rfl ?_
  refine v_getI2 (y := (nI t)) dX4_type_14 fl_X4_185 ⟨by decide, rfl, by decide⟩ rfl (hr.2.2.2.2.1) ?_
  refine v_sipush (v := (nI 160)) dX4_type_17 rfl ?_
  refine v_icmpN_ne (tgt := 26) dX4_type_20 (by decide) (by omega) (by omega) (fun c20 => ?_) (fun c20 => (absurd c20 (by omega)))
  refine v_aload_n dX4_type_26 rfl ?_
  refine v_getR (t := 70) dX4_type_27 fl_X4_38 ⟨by decide, rfl, by decide⟩ rfl rfl ?_
  refine v_aload_n dX4_type_30 rfl ?_
  refine v_getI2 (y := (nI t)) dX4_type_31 fl_X4_185 ⟨by decide, rfl, by decide⟩ rfl (hr.2.2.2.2.1) ?_
  refine v_iload_n dX4_type_34 rfl ?_
  refine v_iast (n := 160) (a := t) dX4_type_35 ⟨by decide, rfl, rfl⟩ (rfl) (by omega) ?_
  refine v_aload_n dX4_type_36 rfl ?_
  refine v_dup dX4_type_37 rfl ?_
  refine v_getI2 (y := (nI t)) dX4_type_38 fl_X4_185 ⟨by decide, rfl, by decide⟩ rfl (by rw [mup_ne (by decide)]; exact hr.2.2.2.2.1) ?_
  refine v_iconst (v := (nI 1)) dX4_type_41 rfl ?_
  refine v_iaddN dX4_type_42 ?_
  refine v_putI dX4_type_43 fl_X4_185 ⟨by decide, rfl, by decide⟩ rfl rfl rfl ?_
  refine v_aload_n dX4_type_46 rfl ?_
  refine v_getI2 (y := (nI (t + 1))) dX4_type_47 fl_X4_185 ⟨by decide, rfl, by decide⟩ rfl (by rw [mup_eq]; simp [upd]) ?_
  refine v_iret dX4_type_50 rfl ?_
  obtain ⟨r1, r2, r3, r4, r5⟩ := hr
  refine ⟨rfl, ⟨?_, ?_, pR_c r3 ?_ ?_, iR_c r4 ?_ ?_, ⟨?_, fun j hj => ?_⟩⟩, kp_up (kp_up (kp_rf M) (by decide)) (by decide)⟩
  · rw [mup_ne (by decide), mup_ne (by decide)]; exact r1
  · rw [mup_ne (by decide), mup_ne (by decide)]; exact r2
  · rw [mup_eq]; simp only [upd]; rw [if_neg (by decide), mup_ne (by decide)]
  · rw [mup_ne (by decide), mup_ne (by decide)]
  · rw [mup_ne (by decide), mup_ne (by decide)]
  · rw [mup_ne (by decide), mup_ne (by decide)]
  · rw [mup_eq]; simp [upd]
  · rw [mup_ne (by decide), mup_eq]
    simp only [upd]
    by_cases h8 : j = t
    · rw [if_pos h8, if_pos h8]
    · rw [if_neg h8, if_neg h8]; exact r5.2 j (by omega)
set_option maxRecDepth 100000 in
theorem c_clear (hr : REF M T R P Im tx t) : V kX4_clear (rA M (nI t) T R P Im tx 0) M 0 [(0, .ref 60)] [] := by
  refine v_aload_n dX4_clear_0 rfl ?_
  refine v_getI2 (y := (nI t)) dX4_clear_1 fl_X4_185 ⟨by decide, rfl, by decide⟩ rfl (hr.2.2.2.2.1) ?_
  refine v_istore_n (lv' := [(0, .ref 60), (1, .int (nI t))]) dX4_clear_4 (Nat.le_of_ble_eq_true rfl) rfl ?_
  refine v_aload_n dX4_clear_5 rfl ?_
  refine v_iconst (v := (nI 0)) dX4_clear_6 rfl ?_
  refine v_putI dX4_clear_7 fl_X4_185 ⟨by decide, rfl, by decide⟩ rfl rfl rfl ?_
  refine v_iload_n dX4_clear_10 rfl ?_
  refine v_iret dX4_clear_11 rfl ?_
  obtain ⟨r1, r2, r3, r4, r5⟩ := hr
  refine ⟨rfl, ⟨?_, ?_, pR_c r3 ?_ ?_, iR_c r4 ?_ ?_, ⟨?_, fun j hj => absurd hj (by omega)⟩⟩, kp_up (kp_rf M) (by decide)⟩
  · rw [mup_ne (by decide)]; exact r1
  · rw [mup_ne (by decide)]; exact r2
  · rw [mup_eq]; simp only [upd]; rw [if_neg (by decide)]
  · rw [mup_ne (by decide)]
  · rw [mup_ne (by decide)]
  · rw [mup_ne (by decide)]
  · rw [mup_eq]; simp [upd]
end R25
