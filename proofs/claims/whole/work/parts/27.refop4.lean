section R27
variable {M M0 : vM} {T R tx : Nat → Int32} {P : List (Nat → Int32)} {Im : Nat → Option (Nat → Int32)} {t : Nat}
set_option maxRecDepth 100000 in
theorem l_weight {D n : Nat} (hD : D ≤ 17) (d : Nat) : ∀ (j : Nat), j + d = D → V kX4_weight (rt (.float (hvN D)) M) M 36 [(0, .ref 60), (1, .int (nI n)), (2, .int (nI 0)), (3, .float (hvN j)), (4, .int (nI d))] [] := by
  induction d with
  | zero =>
    intro j hj
    refine v_iload dX4_weight_36 rfl ?_
    refine v_ifN_le (tgt := 52) dX4_weight_38 (by decide) (by decide) (fun c38 => ?_) (fun c38 => (absurd rfl c38))
    refine v_fload_n dX4_weight_52 rfl ?_
    refine v_fret dX4_weight_53 rfl ?_
    refine ⟨?_, rfl⟩
    rw [show j = D by omega]
  | succ d ih =>
    intro j hj
    refine v_iload dX4_weight_36 rfl ?_
    refine v_ifN_le (tgt := 52) dX4_weight_38 (by decide) (by omega) (fun c38 => (absurd c38 (by omega))) (fun c38 => ?_)
    refine v_fload_n dX4_weight_41 rfl ?_
    refine v_ldcf dX4_weight_42 cf_X4_179 ?_
    refine v_fmul dX4_weight_44 (hv_mul (by omega)) ?_
    refine v_fstore_n (lv' := [(0, .ref 60), (1, .int (nI n)), (2, .int (nI 0)), (3, .float (FP.fmul (hvN j) 1056964608)), (4, .int (nI (d + 1)))]) dX4_weight_45 (Nat.le_of_ble_eq_true rfl) rfl ?_
    refine v_idecN (lv' := [(0, .ref 60), (1, .int (nI n)), (2, .int (nI 0)), (3, .float (FP.fmul (hvN j) 1056964608)), (4, .int (nI d))]) dX4_weight_46 rfl (Nat.le_of_ble_eq_true rfl) rfl ?_
    refine v_goto (tgt := 36) dX4_weight_49 (by decide) ?_
    exact ih (j + 1) (by omega)
set_option maxRecDepth 100000 in
theorem c_weight (hM : M 61 = T) (hW : WF T) {n kd : Nat} (hn : n < nN T) (hk : kd ≤ 3) : V kX4_weight (rt (.float (wtF T n kd)) M) M 0 [(0, .ref 60), (1, .int (nI n)), (2, .int (nI kd))] [] := by
  have h16 := hW.n16
  refine v_iload_n dX4_weight_0 rfl ?_
  refine v_ifN_le (tgt := 27) dX4_weight_1 (by decide) (by omega) (fun c1 => ?_) (fun c1 => ?_)
  · refine v_fconst1 dX4_weight_27 ?_
    refine v_fstore_n (lv' := [(0, .ref 60), (1, .int (nI n)), (2, .int (nI kd)), (3, .float FP.fconst1)]) dX4_weight_28 (Nat.le_of_ble_eq_true rfl) rfl ?_
    refine v_aload_n dX4_weight_29 rfl ?_
    refine v_iload_n dX4_weight_30 rfl ?_
    refine v_callVr (x := .int (nI (dpF T n))) (M1 := M) (as := [.int (nI n)]) (st := []) dX4_weight_31 ml_X4_103 kv_X4_depth ⟨by decide, rfl, by decide⟩ ⟨(Nat.le_of_ble_eq_true rfl), (Nat.le_of_ble_eq_true rfl)⟩ rfl (Nat.le_of_ble_eq_true rfl) rfl (Nat.le_of_ble_eq_true rfl) (c_depth hM hW (by omega)) ?_
    refine v_istore (lv' := [(0, .ref 60), (1, .int (nI n)), (2, .int (nI kd)), (3, .float FP.fconst1), (4, .int (nI (dpF T n)))]) dX4_weight_34 (Nat.le_of_ble_eq_true rfl) rfl ?_
    subst c1
    exact l_weight dpF_le (dpF T n) 0 (by omega)
  · refine v_iload_n dX4_weight_4 rfl ?_
    refine v_iconst (v := (nI 1)) dX4_weight_5 rfl ?_
    refine v_icmpN_ne (tgt := 14) dX4_weight_6 (by decide) (by omega) (by omega) (fun c6 => ?_) (fun c6 => ?_)
    · refine v_iload_n dX4_weight_14 rfl ?_
      refine v_iconst (v := (nI 2)) dX4_weight_15 rfl ?_
      refine v_icmpN_ne (tgt := 24) dX4_weight_16 (by decide) (by omega) (by omega) (fun c16 => ?_) (fun c16 => ?_)
      · refine v_ldcf dX4_weight_24 cf_X4_178 ?_
        refine v_fret dX4_weight_26 rfl ?_
        refine ⟨?_, rfl⟩
        rcases (show kd = 0 ∨ kd = 1 ∨ kd = 2 ∨ kd = 3 by omega) with h9 | h9 | h9 | h9 <;> first | omega | (rw [h9]; rfl)
      · refine v_ldcf dX4_weight_19 cf_X4_177 ?_
        refine v_goto (tgt := 26) dX4_weight_21 (by decide) ?_
        refine v_fret dX4_weight_26 rfl ?_
        refine ⟨?_, rfl⟩
        rcases (show kd = 0 ∨ kd = 1 ∨ kd = 2 ∨ kd = 3 by omega) with h9 | h9 | h9 | h9 <;> first | omega | (rw [h9]; rfl)
    · refine v_ldcf dX4_weight_9 cf_X4_176 ?_
      refine v_goto (tgt := 26) dX4_weight_11 (by decide) ?_
      refine v_fret dX4_weight_26 rfl ?_
      refine ⟨?_, rfl⟩
      rcases (show kd = 0 ∨ kd = 1 ∨ kd = 2 ∨ kd = 3 by omega) with h9 | h9 | h9 | h9 <;> first | omega | (rw [h9]; rfl)
set_option maxRecDepth 100000 in
theorem l_risk (hr : REF M0 T R P Im tx t) (hW : WF T) {nd : Nat} (hnd : R 0 = nI nd) (hnb : nd < 2 ^ 31) (d : Nat) : ∀ (n : Nat) (M : vM), n + d = nN T → sc M0 M → V kX4_risk (rA M0 (rkF T nd) T R P Im tx t) M 4 [(0, .ref 60), (1, .float (rkN T nd n)), (2, .int (nI n))] [] := by
  have h16 := hW.n16
  induction d with
  | zero =>
    intro n M hk hs
    refine v_iload_n dX4_risk_4 rfl ?_
    refine v_aload_n dX4_risk_5 rfl ?_
    refine v_callVr (x := .int (nI (nN T))) (M1 := M) (as := []) (st := [.int (nI n)]) dX4_risk_6 ml_X4_52 kv_X4_many ⟨by decide, rfl, by decide⟩ ⟨(Nat.le_of_ble_eq_true rfl), (Nat.le_of_ble_eq_true rfl)⟩ rfl (Nat.le_of_ble_eq_true rfl) rfl (Nat.le_of_ble_eq_true rfl) (c_many (scT hs hr.1) hW) ?_
    refine v_icmpN_ge (tgt := 54) dX4_risk_9 (by decide) (by omega) (by omega) (fun c9 => ?_) (fun c9 => (by omega))
    refine v_ldcf dX4_risk_54 cf_X4_184 ?_
    refine v_fload_n dX4_risk_56 rfl ?_
    have hnn : n = nN T := by omega
    rw [hnn]
    refine v_fmul dX4_risk_57 (rk_mul hW) ?_
    refine v_f2i dX4_risk_58 ?_
    refine v_iret dX4_risk_59 rfl ?_
    exact ⟨rfl, REF_sc hr (fun i a _ _ _ => hs i a), fun i a => hs i (by omega)⟩
  | succ d ih =>
    intro n M hk hs
    refine v_iload_n dX4_risk_4 rfl ?_
    refine v_aload_n dX4_risk_5 rfl ?_
    refine v_callVr (x := .int (nI (nN T))) (M1 := M) (as := []) (st := [.int (nI n)]) dX4_risk_6 ml_X4_52 kv_X4_many ⟨by decide, rfl, by decide⟩ ⟨(Nat.le_of_ble_eq_true rfl), (Nat.le_of_ble_eq_true rfl)⟩ rfl (Nat.le_of_ble_eq_true rfl) rfl (Nat.le_of_ble_eq_true rfl) (c_many (scT hs hr.1) hW) ?_
    refine v_icmpN_ge (tgt := 54) dX4_risk_9 (by decide) (by omega) (by omega) (fun c9 => (by omega)) (fun c9 => ?_)
    refine v_aload_n dX4_risk_12 rfl ?_
    refine v_iload_n dX4_risk_13 rfl ?_
    refine v_callV (as := [.int (nI n)]) (st := []) dX4_risk_14 ml_X4_170 kv_X4_kindAt ⟨by decide, rfl, by decide⟩ ⟨(Nat.le_of_ble_eq_true rfl), (Nat.le_of_ble_eq_true rfl)⟩ rfl (Nat.le_of_ble_eq_true rfl) rfl (Nat.le_of_ble_eq_true rfl) (c_kindAt (sc_rf _) (scT hs hr.1) hW ((congrFun (hs 63 (by decide)) 0).trans ((congrFun hr.2.1 0).trans hnd)) hnb (by omega)) (fun v M hq => ?_)
    obtain ⟨rfl, h9⟩ := hq
    have hs := sc_tr hs h9
    refine v_istore_n (lv' := [(0, .ref 60), (1, .float (rkN T nd n)), (2, .int (nI n)), (3, .int (oI (kaO T nd n)))]) dX4_risk_17 (Nat.le_of_ble_eq_true rfl) rfl ?_
    cases hka : kaO T nd n with
    | none =>
      skip
      refine v_iload_n dX4_risk_18 rfl ?_
      refine v_bipush (v := (-9)) dX4_risk_19 (by decide) ?_
      refine v_icmp_eq (tgt := 48) dX4_risk_21 (by decide) (fun c21 => ?_) (fun c21 => (absurd rfl c21))
      refine v_iincN (lv' := [(0, .ref 60), (1, .float (rkN T nd n)), (2, .int (nI (n + 1))), (3, .int (oI none))]) dX4_risk_48 rfl (Nat.le_of_ble_eq_true rfl) rfl ?_
      refine v_goto (tgt := 4) dX4_risk_51 (by decide) ?_
      refine v_sub (lv' := [(0, .ref 60), (1, .float (rkN T nd n)), (2, .int (nI (n + 1)))]) (by intro q hq; simp at hq; rcases hq with rfl | rfl | rfl <;> rfl) ?_
      rw [show rkN T nd n = rkN T nd (n + 1) by simp only [rkN, hka]]
      exact ih (n + 1) _ (by omega) hs
    | some kd =>
      have hk3 := kaO_le hka
      show V kX4_risk _ _ 18 [(0, .ref 60), (1, .float (rkN T nd n)), (2, .int (nI n)), (3, .int (nI kd))] []
      refine v_iload_n dX4_risk_18 rfl ?_
      refine v_bipush (v := (-9)) dX4_risk_19 (by decide) ?_
      refine v_icmp_eq (tgt := 48) dX4_risk_21 (by decide) (fun c21 => (absurd c21 (fun q => by have := (oI_none (o := some kd) (by intro m hm; cases hm; omega)).mp q; cases this))) (fun c21 => ?_)
      refine v_fload_n dX4_risk_24 rfl ?_
      refine v_aload_n dX4_risk_25 rfl ?_
      refine v_iload_n dX4_risk_26 rfl ?_
      refine v_iload_n dX4_risk_27 rfl ?_
      refine v_callVr (x := .float (wtF T n kd)) (M1 := M) (as := [.int (nI n), .int (nI kd)]) (st := [.float (rkN T nd n)]) dX4_risk_28 ml_X4_180 kv_X4_weight ⟨by decide, rfl, by decide⟩ ⟨(Nat.le_of_ble_eq_true rfl), (Nat.le_of_ble_eq_true rfl)⟩ rfl (Nat.le_of_ble_eq_true rfl) rfl (Nat.le_of_ble_eq_true rfl) (c_weight (scT hs hr.1) hW (by omega) hk3) ?_
      refine v_aload_n dX4_risk_31 rfl ?_
      refine v_getR (t := 61) dX4_risk_32 fl_X4_7 ⟨by decide, rfl, by decide⟩ rfl rfl ?_
      refine v_bipush (v := (nI 92)) dX4_risk_35 rfl ?_
      refine v_aload_n dX4_risk_37 rfl ?_
      refine v_iload_n dX4_risk_38 rfl ?_
      refine v_callVr (x := .int (nI (ck T n))) (M1 := M) (as := [.int (nI n)]) (st := [.int (nI 92), .ref 61, .float (wtF T n kd), .float (rkN T nd n)]) dX4_risk_39 ml_X4_88 kv_X4_clock ⟨by decide, rfl, by decide⟩ ⟨(Nat.le_of_ble_eq_true rfl), (Nat.le_of_ble_eq_true rfl)⟩ rfl (Nat.le_of_ble_eq_true rfl) rfl (Nat.le_of_ble_eq_true rfl) (c_clock (scT hs hr.1) hW (by omega)) ?_
      have hck := hW.ck2 (n := n) (by omega)
      have hpe := hW.2.2.2.2.2.2.2 (ck T n) (by omega)
      refine v_iaddN dX4_risk_42 ?_
      refine v_iald2 (n := 97) (a := 92 + (ck T n)) (y := (nI (pe T (ck T n)))) dX4_risk_43 ⟨by decide, rfl, rfl⟩ (rfl) (by omega) (by rw [scT hs hr.1]; exact hpe.1) ?_
      refine v_i2f dX4_risk_44 ?_
      refine v_fdiv dX4_risk_45 (rk_div hW (by omega)) ?_
      refine v_fadd dX4_risk_46 (rk_add hW (by omega)) ?_
      refine v_fstore_n (lv' := [(0, .ref 60), (1, .float (FP.fadd (rkN T nd n) (FP.fdiv (wtF T n kd) (FP.i2f ((nI (pe T (ck T n)))))))), (2, .int (nI n)), (3, .int (nI kd))]) dX4_risk_47 (Nat.le_of_ble_eq_true rfl) rfl ?_
      refine v_iincN (lv' := [(0, .ref 60), (1, .float (FP.fadd (rkN T nd n) (FP.fdiv (wtF T n kd) (FP.i2f ((nI (pe T (ck T n)))))))), (2, .int (nI (n + 1))), (3, .int (nI kd))]) dX4_risk_48 rfl (Nat.le_of_ble_eq_true rfl) rfl ?_
      refine v_goto (tgt := 4) dX4_risk_51 (by decide) ?_
      refine v_sub (lv' := [(0, .ref 60), (1, .float (FP.fadd (rkN T nd n) (FP.fdiv (wtF T n kd) (FP.i2f ((nI (pe T (ck T n)))))))), (2, .int (nI (n + 1)))]) (by intro q hq; simp at hq; rcases hq with rfl | rfl | rfl <;> rfl) ?_
      rw [show FP.fadd (rkN T nd n) (FP.fdiv (wtF T n kd) (FP.i2f (nI (pe T (ck T n))))) = rkN T nd (n + 1) by simp only [rkN, hka]]
      exact ih (n + 1) _ (by omega) hs
set_option maxRecDepth 100000 in
theorem c_risk (hr : REF M T R P Im tx t) (hW : WF T) {nd : Nat} (hnd : R 0 = nI nd) (hnb : nd < 2 ^ 31) : V kX4_risk (rA M (rkF T nd) T R P Im tx t) M 0 [(0, .ref 60)] [] := by
  have h16 := hW.n16
  refine v_fconst0 dX4_risk_0 ?_
  refine v_fstore_n (lv' := [(0, .ref 60), (1, .float FP.fconst0)]) dX4_risk_1 (Nat.le_of_ble_eq_true rfl) rfl ?_
  refine v_iconst (v := (nI 0)) dX4_risk_2 rfl ?_
  refine v_istore_n (lv' := [(0, .ref 60), (1, .float FP.fconst0), (2, .int (nI 0))]) dX4_risk_3 (Nat.le_of_ble_eq_true rfl) rfl ?_
  exact l_risk hr hW hnd hnb (nN T) 0 M (by omega) (sc_rf M)
set_option maxRecDepth 100000 in
theorem c_when0 (hr : REF M T R P Im tx t) (hW : WF T) {x w : Int32} (hx : ¬ isN T x) : V kX4_when (rA M ((-1)) T R P Im tx t) M 0 [(0, .ref 60), (1, .int x), (2, .int w)] [] := by
  have h16 := hW.n16
  refine v_aload_n dX4_when_0 rfl ?_
  refine v_iload_n dX4_when_1 rfl ?_
  refine v_callVr (x := .int (bI (nI 0 ≤ x ∧ x ≤ nI (nN T) - nI 1))) (M1 := M) (as := [.int x]) (st := []) dX4_when_2 ml_X4_60 kv_X4_isNode ⟨by decide, rfl, by decide⟩ ⟨(Nat.le_of_ble_eq_true rfl), (Nat.le_of_ble_eq_true rfl)⟩ rfl (Nat.le_of_ble_eq_true rfl) rfl (Nat.le_of_ble_eq_true rfl) (c_isNode hr.1 hW _) ?_
  refine v_ifB_eq (tgt := 17) dX4_when_5 (by decide) (fun c5 => ?_) (fun c5 => (absurd ((isN_sub hW).mp c5) hx))
  refine v_iconst (v := (-1)) dX4_when_17 (by decide) ?_
  refine v_iret dX4_when_18 rfl ?_
  exact ⟨rfl, hr, kp_rf M⟩
set_option maxRecDepth 100000 in
theorem c_whenO (hr : REF M T R P Im tx t) (hW : WF T) {n : Nat} {w : Int32} (hn : n < nN T) (hw : ¬ (nI 0 ≤ w ∧ w ≤ nI 2)) : V kX4_when (rA M ((-1)) T R P Im tx t) M 0 [(0, .ref 60), (1, .int (nI n)), (2, .int w)] [] := by
  have h16 := hW.n16
  refine v_aload_n dX4_when_0 rfl ?_
  refine v_iload_n dX4_when_1 rfl ?_
  refine v_callVr (x := .int (bI (nI 0 ≤ (nI n) ∧ (nI n) ≤ nI (nN T) - nI 1))) (M1 := M) (as := [.int (nI n)]) (st := []) dX4_when_2 ml_X4_60 kv_X4_isNode ⟨by decide, rfl, by decide⟩ ⟨(Nat.le_of_ble_eq_true rfl), (Nat.le_of_ble_eq_true rfl)⟩ rfl (Nat.le_of_ble_eq_true rfl) rfl (Nat.le_of_ble_eq_true rfl) (c_isNode hr.1 hW _) ?_
  refine v_ifB_eq (tgt := 17) dX4_when_5 (by decide) (fun c5 => (absurd ((isN_sub hW).mpr ((isN_nI h16).mpr ⟨n, hn, rfl⟩)) c5)) (fun c5 => ?_)
  refine v_iload_n dX4_when_8 rfl ?_
  refine v_iconst (v := (nI 0)) dX4_when_9 rfl ?_
  refine v_iconst (v := (nI 2)) dX4_when_10 rfl ?_
  refine v_callSr (x := .int (bI ((nI 0) ≤ w ∧ w ≤ (nI 2)))) (M1 := M) (as := [.int w, .int (nI 0), .int (nI 2)]) (st := []) dX4_when_11 ml_X4_56 ks_X4_in ⟨(Nat.le_of_ble_eq_true rfl), (Nat.le_of_ble_eq_true rfl)⟩ rfl (Nat.le_of_ble_eq_true rfl) rfl (Nat.le_of_ble_eq_true rfl) (c_in _ _ _) ?_
  refine v_ifB_ne (tgt := 19) dX4_when_14 (by decide) (fun c14 => (absurd c14 hw)) (fun c14 => ?_)
  refine v_iconst (v := (-1)) dX4_when_17 (by decide) ?_
  refine v_iret dX4_when_18 rfl ?_
  exact ⟨rfl, hr, kp_rf M⟩
set_option maxRecDepth 100000 in
theorem l_when2 (hr : REF M0 T R P Im tx t) (hW : WF T) {n : Nat} {w : Int32} (hn : n < nN T) (d : Nat) : ∀ (k : Nat) (Q9 : Nat → Int32) (M : vM), k + d = 100 → (∀ i, i ≠ 68 → i ≠ 69 → i ≠ 64 → M i = M0 i) → M 64 = Q9 → V kX4_when (rA M0 (whN T n w d k Q9) T R P Im tx t) M 47 [(0, .ref 60), (1, .int (nI n)), (2, .int w), (3, .int (nI k))] [] := by
  have h16 := hW.n16
  induction d with
  | zero =>
    intro k Q9 M hk hz h64
    refine v_iload_n dX4_when_47 rfl ?_
    refine v_bipush (v := (nI 99)) dX4_when_48 rfl ?_
    refine v_icmpN_gt (tgt := 87) dX4_when_50 (by decide) (by omega) (by omega) (fun c50 => ?_) (fun c50 => (by omega))
    refine v_bipush (v := (-9)) dX4_when_87 (by decide) ?_
    refine v_iret dX4_when_89 rfl ?_
    exact ⟨rfl, REF_sc hr (fun i a b c _ => hz i a b c), fun i a => hz i (by omega) (by omega) (by omega)⟩
  | succ d ih =>
    intro k Q9 M hk hz h64
    refine v_iload_n dX4_when_47 rfl ?_
    refine v_bipush (v := (nI 99)) dX4_when_48 rfl ?_
    refine v_icmpN_gt (tgt := 87) dX4_when_50 (by decide) (by omega) (by omega) (fun c50 => (by omega)) (fun c50 => ?_)
    refine v_aload_n dX4_when_53 rfl ?_
    refine v_aload_n dX4_when_54 rfl ?_
    refine v_getR (t := 64) dX4_when_55 fl_X4_19 ⟨by decide, rfl, by decide⟩ rfl rfl ?_
    refine v_callV (as := [.ref 64]) (st := []) dX4_when_58 ml_X4_149 kv_X4_findValues ⟨by decide, rfl, by decide⟩ ⟨(Nat.le_of_ble_eq_true rfl), (Nat.le_of_ble_eq_true rfl)⟩ rfl (Nat.le_of_ble_eq_true rfl) rfl (Nat.le_of_ble_eq_true rfl) (c_findValues ((hz 61 (by decide) (by decide) (by decide)).trans hr.1) hW (Or.inr rfl) h64) (fun v M2 hq => ?_)
    obtain ⟨rfl, hy, hf⟩ := hq
    have hz2 : ∀ i, i ≠ 68 → i ≠ 69 → i ≠ 64 → M2 i = M0 i := fun i a b c => (hy i b).trans (hz i a b c)
    have h642 : M2 64 = Q9 := (hy 64 (by decide)).trans h64
    refine v_aload_n dX4_when_61 rfl ?_
    refine v_getR (t := 69) dX4_when_62 fl_X4_35 ⟨by decide, rfl, by decide⟩ rfl rfl ?_
    refine v_iload_n dX4_when_65 rfl ?_
    refine v_iald2 (n := 16) (a := n) (y := (vlF T Q9 n)) dX4_when_66 ⟨by decide, rfl, rfl⟩ (rfl) (by omega) (hf n hn) ?_
    refine v_iload_n dX4_when_67 rfl ?_
    refine v_icmp_ne (tgt := 73) dX4_when_68 (by decide) (fun c68 => ?_) (fun c68 => ?_)
    · refine v_aload_n dX4_when_73 rfl ?_
      refine v_aload_n dX4_when_74 rfl ?_
      refine v_getR (t := 64) dX4_when_75 fl_X4_19 ⟨by decide, rfl, by decide⟩ rfl rfl ?_
      refine v_callV (as := [.ref 64]) (st := []) dX4_when_78 ml_X4_164 kv_X4_tick ⟨by decide, rfl, by decide⟩ ⟨(Nat.le_of_ble_eq_true rfl), (Nat.le_of_ble_eq_true rfl)⟩ rfl (Nat.le_of_ble_eq_true rfl) rfl (Nat.le_of_ble_eq_true rfl) (c_tick ((hz2 61 (by decide) (by decide) (by decide)).trans hr.1) hW (Or.inr rfl) h642) (fun v M3 hq => ?_)
      obtain ⟨rfl, hy3, hR3⟩ := hq
      refine v_iincN (lv' := [(0, .ref 60), (1, .int (nI n)), (2, .int w), (3, .int (nI (k + 1)))]) dX4_when_81 rfl (Nat.le_of_ble_eq_true rfl) rfl ?_
      refine v_goto (tgt := 47) dX4_when_84 (by decide) ?_
      rw [show whN T n w (d + 1) k Q9 = whN T n w d (k + 1) (tkR T Q9) by simp only [whN]; rw [if_neg c68]]
      exact ih (k + 1) _ M3 (by omega) (fun i a b c => (hy3 i a b c).trans (hz2 i a b c)) hR3
    · refine v_iload_n dX4_when_71 rfl ?_
      refine v_iret dX4_when_72 rfl ?_
      refine ⟨?_, REF_sc hr (fun i a b c _ => hz2 i a b c), fun i a => hz2 i (by omega) (by omega) (by omega)⟩
      simp [whN, c68]
set_option maxRecDepth 100000 in
theorem l_when1 (hr : REF M0 T R P Im tx t) (hW : WF T) {n : Nat} {w : Int32} (hn : n < nN T) (d : Nat) : ∀ (k : Nat) (M : vM), k + d = 36 → (∀ i, i ≠ 64 → M i = M0 i) → (∀ j, j < k → M 64 j = R j) → V kX4_when (rA M0 (whN T n w 100 0 R) T R P Im tx t) M 21 [(0, .ref 60), (1, .int (nI n)), (2, .int w), (3, .int (nI k))] [] := by
  have h16 := hW.n16
  induction d with
  | zero =>
    intro k M hk hz h1
    refine v_iload_n dX4_when_21 rfl ?_
    refine v_bipush (v := (nI 36)) dX4_when_22 rfl ?_
    refine v_icmpN_ge (tgt := 45) dX4_when_24 (by decide) (by omega) (by omega) (fun c24 => ?_) (fun c24 => (by omega))
    refine v_row (t := 10) (i := 64) (n := 36) ⟨by decide, rfl, rfl⟩ (by decide) (by decide) R (fun j hj => h1 j (by omega)) ?_
    refine v_iconst (v := (nI 0)) dX4_when_45 rfl ?_
    refine v_istore_n (lv' := [(0, .ref 60), (1, .int (nI n)), (2, .int w), (3, .int (nI 0))]) dX4_when_46 (Nat.le_of_ble_eq_true rfl) rfl ?_
    exact l_when2 hr hW hn 100 0 R _ (by omega) (fun i a b c => (mrow_ne c).trans (hz i c)) mrow_eq
  | succ d ih =>
    intro k M hk hz h1
    refine v_iload_n dX4_when_21 rfl ?_
    refine v_bipush (v := (nI 36)) dX4_when_22 rfl ?_
    refine v_icmpN_ge (tgt := 45) dX4_when_24 (by decide) (by omega) (by omega) (fun c24 => (by omega)) (fun c24 => ?_)
    refine v_aload_n dX4_when_27 rfl ?_
    refine v_getR (t := 64) dX4_when_28 fl_X4_19 ⟨by decide, rfl, by decide⟩ rfl rfl ?_
    refine v_iload_n dX4_when_31 rfl ?_
    refine v_aload_n dX4_when_32 rfl ?_
    refine v_getR (t := 63) dX4_when_33 fl_X4_16 ⟨by decide, rfl, by decide⟩ rfl rfl ?_
    refine v_iload_n dX4_when_36 rfl ?_
    refine v_iald2 (n := 36) (a := k) (y := (R k)) dX4_when_37 ⟨by decide, rfl, rfl⟩ (rfl) (by omega) ((congrFun (hz 63 (by decide)) k).trans (congrFun hr.2.1 k)) ?_
    refine v_iast (n := 36) (a := k) dX4_when_38 ⟨by decide, rfl, rfl⟩ (rfl) (by omega) ?_
    refine v_iincN (lv' := [(0, .ref 60), (1, .int (nI n)), (2, .int w), (3, .int (nI (k + 1)))]) dX4_when_39 rfl (Nat.le_of_ble_eq_true rfl) rfl ?_
    refine v_goto (tgt := 21) dX4_when_42 (by decide) ?_
    refine ih (k + 1) _ (by omega) (fun i h9 => (mup_ne h9).trans (hz i h9)) (fun j h9 => ?_)
    rw [mup_eq]; simp only [upd]
    by_cases h8 : j = k
    · rw [if_pos h8, h8]
    · rw [if_neg h8]; exact h1 j (by omega)
set_option maxRecDepth 100000 in
theorem c_when (hr : REF M T R P Im tx t) (hW : WF T) {n : Nat} {w : Int32} (hn : n < nN T) (hw : nI 0 ≤ w ∧ w ≤ nI 2) : V kX4_when (rA M (whN T n w 100 0 R) T R P Im tx t) M 0 [(0, .ref 60), (1, .int (nI n)), (2, .int w)] [] := by
  have h16 := hW.n16
  refine v_aload_n dX4_when_0 rfl ?_
  refine v_iload_n dX4_when_1 rfl ?_
  refine v_callVr (x := .int (bI (nI 0 ≤ (nI n) ∧ (nI n) ≤ nI (nN T) - nI 1))) (M1 := M) (as := [.int (nI n)]) (st := []) dX4_when_2 ml_X4_60 kv_X4_isNode ⟨by decide, rfl, by decide⟩ ⟨(Nat.le_of_ble_eq_true rfl), (Nat.le_of_ble_eq_true rfl)⟩ rfl (Nat.le_of_ble_eq_true rfl) rfl (Nat.le_of_ble_eq_true rfl) (c_isNode hr.1 hW _) ?_
  refine v_ifB_eq (tgt := 17) dX4_when_5 (by decide) (fun c5 => (absurd ((isN_sub hW).mpr ((isN_nI h16).mpr ⟨n, hn, rfl⟩)) c5)) (fun c5 => ?_)
  refine v_iload_n dX4_when_8 rfl ?_
  refine v_iconst (v := (nI 0)) dX4_when_9 rfl ?_
  refine v_iconst (v := (nI 2)) dX4_when_10 rfl ?_
  refine v_callSr (x := .int (bI ((nI 0) ≤ w ∧ w ≤ (nI 2)))) (M1 := M) (as := [.int w, .int (nI 0), .int (nI 2)]) (st := []) dX4_when_11 ml_X4_56 ks_X4_in ⟨(Nat.le_of_ble_eq_true rfl), (Nat.le_of_ble_eq_true rfl)⟩ rfl (Nat.le_of_ble_eq_true rfl) rfl (Nat.le_of_ble_eq_true rfl) (c_in _ _ _) ?_
  refine v_ifB_ne (tgt := 19) dX4_when_14 (by decide) (fun c14 => ?_) (fun c14 => (absurd hw c14))
  refine v_iconst (v := (nI 0)) dX4_when_19 rfl ?_
  refine v_istore_n (lv' := [(0, .ref 60), (1, .int (nI n)), (2, .int w), (3, .int (nI 0))]) dX4_when_20 (Nat.le_of_ble_eq_true rfl) rfl ?_
  exact l_when1 hr hW hn 36 0 M (by omega) (fun _ _ => rfl) (fun j h => absurd h (by omega))
set_option maxRecDepth 100000 in
theorem c_keep0 (hr : REF M T R P Im tx t) (hW : WF T) {x : Int32} (hx : ¬ (nI 0 ≤ x ∧ x ≤ nI 1)) : V kX4_keep (rA M ((-1)) T R P Im tx t) M 0 [(0, .ref 60), (1, .int x)] [] := by
  have h16 := hW.n16
  refine v_iload_n dX4_keep_0 rfl ?_
  refine v_iconst (v := (nI 0)) dX4_keep_1 rfl ?_
  refine v_iconst (v := (nI 1)) dX4_keep_2 rfl ?_
  refine v_callSr (x := .int (bI ((nI 0) ≤ x ∧ x ≤ (nI 1)))) (M1 := M) (as := [.int x, .int (nI 0), .int (nI 1)]) (st := []) dX4_keep_3 ml_X4_56 ks_X4_in ⟨(Nat.le_of_ble_eq_true rfl), (Nat.le_of_ble_eq_true rfl)⟩ rfl (Nat.le_of_ble_eq_true rfl) rfl (Nat.le_of_ble_eq_true rfl) (c_in _ _ _) ?_
  refine v_ifB_ne (tgt := 11) dX4_keep_6 (by decide) (fun c6 => (absurd c6 hx)) (fun c6 => ?_)
  refine v_iconst (v := (-1)) dX4_keep_9 (by decide) ?_
  refine v_iret dX4_keep_10 rfl ?_
  exact ⟨rfl, hr, kp_rf M⟩
set_option maxRecDepth 100000 in
theorem l_keep (hr : REF M0 T R P Im tx t) {i : Nat} (hi : i < 2) (d : Nat) : ∀ (k : Nat) (M : vM), k + d = 36 → (∀ a, a ≠ 66 → M a = M0 a) → (∀ j, j < k → M 66 (36 * i + j) = R j) → (∀ j, (j < 36 * i ∨ 36 * i + 36 ≤ j) → M 66 j = M0 66 j) → V kX4_keep (rA M0 (R 1) T R P (fun j => if j = i then some R else Im j) tx t) M 13 [(0, .ref 60), (1, .int (nI i)), (2, .int (nI k))] [] := by
  induction d with
  | zero =>
    intro k M hk hz h1 h2
    refine v_iload_n dX4_keep_13 rfl ?_
    refine v_bipush (v := (nI 36)) dX4_keep_14 rfl ?_
    refine v_icmpN_ge (tgt := 42) dX4_keep_16 (by decide) (by omega) (by omega) (fun c16 => ?_) (fun c16 => (by omega))
    refine v_aload_n dX4_keep_42 rfl ?_
    refine v_getR (t := 67) dX4_keep_43 fl_X4_28 ⟨by decide, rfl, by decide⟩ rfl rfl ?_
    refine v_iload_n dX4_keep_46 rfl ?_
    refine v_iconst (v := (nI 1)) dX4_keep_47 rfl ?_
    refine v_zast (n := 2) (a := i) dX4_keep_48 ⟨by decide, rfl, rfl⟩ (rfl) (by omega) ?_
    refine v_aload_n dX4_keep_49 rfl ?_
    refine v_getR (t := 63) dX4_keep_50 fl_X4_16 ⟨by decide, rfl, by decide⟩ rfl rfl ?_
    refine v_iconst (v := (nI 1)) dX4_keep_53 rfl ?_
    refine v_iald2 (n := 36) (a := 1) (y := (R 1)) dX4_keep_54 ⟨by decide, rfl, rfl⟩ (rfl) (by omega) (by rw [mup_ne (by decide)]; exact (congrFun (hz 63 (by decide)) 1).trans (congrFun hr.2.1 1)) ?_
    refine v_iret dX4_keep_55 rfl ?_
    obtain ⟨r1, r2, r3, r4, r5⟩ := hr
    refine ⟨rfl, ⟨?_, ?_, pR_c r3 ?_ ?_, fun a ha => ?_, xR_c r5 ?_ ?_⟩, fun a ha => (mup_ne (by omega)).trans (hz a (by omega))⟩
    · rw [mup_ne (by decide), hz 61 (by decide)]; exact r1
    · rw [mup_ne (by decide), hz 63 (by decide)]; exact r2
    · rw [mup_ne (by decide), hz 60 (by decide)]
    · rw [mup_ne (by decide), hz 65 (by decide)]
    · by_cases h8 : a = i
      · subst h8
        refine ⟨fun e => ?_, fun r e => ?_⟩
        · simp at e
        · simp at e
          subst e
          refine ⟨?_, fun j hj => ?_⟩
          · rw [mup_eq]; simp [upd]; rfl
          · rw [mup_ne (by decide)]; exact h1 j (by omega)
      · refine ⟨fun e => ?_, fun r e => ?_⟩
        · simp only [if_neg h8] at e
          rw [mup_eq]; simp only [upd]; rw [if_neg h8, hz 67 (by decide)]; exact (r4 a ha).1 e
        · simp only [if_neg h8] at e
          refine ⟨?_, fun j hj => ?_⟩
          · rw [mup_eq]; simp only [upd]; rw [if_neg h8, hz 67 (by decide)]; exact ((r4 a ha).2 r e).1
          · rw [mup_ne (by decide), h2 _ (by omega)]; exact ((r4 a ha).2 r e).2 j hj
    · rw [mup_ne (by decide), hz 60 (by decide)]
    · rw [mup_ne (by decide), hz 70 (by decide)]
  | succ d ih =>
    intro k M hk hz h1 h2
    refine v_iload_n dX4_keep_13 rfl ?_
    refine v_bipush (v := (nI 36)) dX4_keep_14 rfl ?_
    refine v_icmpN_ge (tgt := 42) dX4_keep_16 (by decide) (by omega) (by omega) (fun c16 => (by omega)) (fun c16 => ?_)
    refine v_aload_n dX4_keep_19 rfl ?_
    refine v_getR (t := 66) dX4_keep_20 fl_X4_25 ⟨by decide, rfl, by decide⟩ rfl rfl ?_
    refine v_bipush (v := (nI 36)) dX4_keep_23 rfl ?_
    refine v_iload_n dX4_keep_25 rfl ?_
    refine v_imulN dX4_keep_26 ?_
    refine v_iload_n dX4_keep_27 rfl ?_
    refine v_iaddN dX4_keep_28 ?_
    refine v_aload_n dX4_keep_29 rfl ?_
    refine v_getR (t := 63) dX4_keep_30 fl_X4_16 ⟨by decide, rfl, by decide⟩ rfl rfl ?_
    refine v_iload_n dX4_keep_33 rfl ?_
    refine v_iald2 (n := 36) (a := k) (y := (R k)) dX4_keep_34 ⟨by decide, rfl, rfl⟩ (rfl) (by omega) ((congrFun (hz 63 (by decide)) k).trans (congrFun hr.2.1 k)) ?_
    refine v_iast (n := 72) (a := 36 * i + k) dX4_keep_35 ⟨by decide, rfl, rfl⟩ (rfl) (by omega) ?_
    refine v_iincN (lv' := [(0, .ref 60), (1, .int (nI i)), (2, .int (nI (k + 1)))]) dX4_keep_36 rfl (Nat.le_of_ble_eq_true rfl) rfl ?_
    refine v_goto (tgt := 13) dX4_keep_39 (by decide) ?_
    refine ih (k + 1) _ (by omega) (fun a h9 => (mup_ne h9).trans (hz a h9)) (fun j h9 => ?_) (fun j h9 => ?_)
    · rw [mup_eq]; simp only [upd]
      by_cases h8 : j = k
      · rw [if_pos (by omega), h8]
      · rw [if_neg (by omega)]; exact h1 j (by omega)
    · rw [mup_eq]; simp only [upd]; rw [if_neg (by omega)]; exact h2 j h9
set_option maxRecDepth 100000 in
theorem c_keep (hr : REF M T R P Im tx t) (hW : WF T) {i : Nat} (hi : i < 2) : V kX4_keep (rA M (R 1) T R P (fun j => if j = i then some R else Im j) tx t) M 0 [(0, .ref 60), (1, .int (nI i))] [] := by
  have h16 := hW.n16
  refine v_iload_n dX4_keep_0 rfl ?_
  refine v_iconst (v := (nI 0)) dX4_keep_1 rfl ?_
  refine v_iconst (v := (nI 1)) dX4_keep_2 rfl ?_
  refine v_callSr (x := .int (bI (0 ≤ i ∧ i ≤ 1))) (M1 := M) (as := [.int (nI i), .int (nI 0), .int (nI 1)]) (st := []) dX4_keep_3 ml_X4_56 ks_X4_in ⟨(Nat.le_of_ble_eq_true rfl), (Nat.le_of_ble_eq_true rfl)⟩ rfl (Nat.le_of_ble_eq_true rfl) rfl (Nat.le_of_ble_eq_true rfl) (c_inN (by omega) (by omega) (by omega)) ?_
  refine v_ifB_ne (tgt := 11) dX4_keep_6 (by decide) (fun c6 => ?_) (fun c6 => (absurd (by omega) c6))
  refine v_iconst (v := (nI 0)) dX4_keep_11 rfl ?_
  refine v_istore_n (lv' := [(0, .ref 60), (1, .int (nI i)), (2, .int (nI 0))]) dX4_keep_12 (Nat.le_of_ble_eq_true rfl) rfl ?_
  exact l_keep hr hi 36 0 M (by omega) (fun _ _ => rfl) (fun j h => absurd h (by omega)) (fun _ _ => rfl)
set_option maxRecDepth 100000 in
theorem c_back0 (hr : REF M T R P Im tx t) (hW : WF T) {x : Int32} (hx : ¬ (nI 0 ≤ x ∧ x ≤ nI 1)) : V kX4_back (rA M ((-1)) T R P Im tx t) M 0 [(0, .ref 60), (1, .int x)] [] := by
  have h16 := hW.n16
  refine v_iload_n dX4_back_0 rfl ?_
  refine v_iconst (v := (nI 0)) dX4_back_1 rfl ?_
  refine v_iconst (v := (nI 1)) dX4_back_2 rfl ?_
  refine v_callSr (x := .int (bI ((nI 0) ≤ x ∧ x ≤ (nI 1)))) (M1 := M) (as := [.int x, .int (nI 0), .int (nI 1)]) (st := []) dX4_back_3 ml_X4_56 ks_X4_in ⟨(Nat.le_of_ble_eq_true rfl), (Nat.le_of_ble_eq_true rfl)⟩ rfl (Nat.le_of_ble_eq_true rfl) rfl (Nat.le_of_ble_eq_true rfl) (c_in _ _ _) ?_
  refine v_ifB_ne (tgt := 11) dX4_back_6 (by decide) (fun c6 => (absurd c6 hx)) (fun c6 => ?_)
  refine v_iconst (v := (-1)) dX4_back_9 (by decide) ?_
  refine v_iret dX4_back_10 rfl ?_
  exact ⟨rfl, hr, kp_rf M⟩
set_option maxRecDepth 100000 in
theorem c_backS (hr : REF M T R P Im tx t) (hW : WF T) {i : Nat} (hi : i < 2) (hm : Im i = none) : V kX4_back (rA M ((-2)) T R P Im tx t) M 0 [(0, .ref 60), (1, .int (nI i))] [] := by
  have h16 := hW.n16
  refine v_iload_n dX4_back_0 rfl ?_
  refine v_iconst (v := (nI 0)) dX4_back_1 rfl ?_
  refine v_iconst (v := (nI 1)) dX4_back_2 rfl ?_
  refine v_callSr (x := .int (bI (0 ≤ i ∧ i ≤ 1))) (M1 := M) (as := [.int (nI i), .int (nI 0), .int (nI 1)]) (st := []) dX4_back_3 ml_X4_56 ks_X4_in ⟨(Nat.le_of_ble_eq_true rfl), (Nat.le_of_ble_eq_true rfl)⟩ rfl (Nat.le_of_ble_eq_true rfl) rfl (Nat.le_of_ble_eq_true rfl) (c_inN (by omega) (by omega) (by omega)) ?_
  refine v_ifB_ne (tgt := 11) dX4_back_6 (by decide) (fun c6 => ?_) (fun c6 => (absurd (by omega) c6))
  refine v_aload_n dX4_back_11 rfl ?_
  refine v_getR (t := 67) dX4_back_12 fl_X4_28 ⟨by decide, rfl, by decide⟩ rfl rfl ?_
  refine v_iload_n dX4_back_15 rfl ?_
  refine v_zald (n := 2) (a := i) dX4_back_16 ⟨by decide, rfl, rfl⟩ (rfl) (by omega) ?_
  refine v_top (y := (nI 0)) ((hr.2.2.2.1 i hi).1 hm) ?_
  refine v_ifN_ne (tgt := 23) dX4_back_17 (by decide) (by decide) (fun c17 => (absurd rfl c17)) (fun c17 => ?_)
  refine v_bipush (v := (-2)) dX4_back_20 (by decide) ?_
  refine v_iret dX4_back_22 rfl ?_
  exact ⟨rfl, hr, kp_rf M⟩
set_option maxRecDepth 100000 in
theorem l_back (hr : REF M0 T R P Im tx t) {i : Nat} (hi : i < 2) {r : Nat → Int32} (hm : Im i = some r) (d : Nat) : ∀ (k : Nat) (M : vM), k + d = 36 → (∀ a, a ≠ 63 → M a = M0 a) → (∀ j, j < k → M 63 j = r j) → V kX4_back (rA M0 (r 1) T r [] Im tx t) M 25 [(0, .ref 60), (1, .int (nI i)), (2, .int (nI k))] [] := by
  induction d with
  | zero =>
    intro k M hk hz h1
    refine v_iload_n dX4_back_25 rfl ?_
    refine v_bipush (v := (nI 36)) dX4_back_26 rfl ?_
    refine v_icmpN_ge (tgt := 54) dX4_back_28 (by decide) (by omega) (by omega) (fun c28 => ?_) (fun c28 => (by omega))
    refine v_row (t := 10) (i := 63) (n := 36) ⟨by decide, rfl, rfl⟩ (by decide) (by decide) r (fun j hj => h1 j (by omega)) ?_
    refine v_aload_n dX4_back_54 rfl ?_
    refine v_iconst (v := (nI 0)) dX4_back_55 rfl ?_
    refine v_putI dX4_back_56 fl_X4_48 ⟨by decide, rfl, by decide⟩ rfl rfl rfl ?_
    refine v_aload_n dX4_back_59 rfl ?_
    refine v_getR (t := 63) dX4_back_60 fl_X4_16 ⟨by decide, rfl, by decide⟩ rfl rfl ?_
    refine v_iconst (v := (nI 1)) dX4_back_63 rfl ?_
    refine v_iald2 (n := 36) (a := 1) (y := (r 1)) dX4_back_64 ⟨by decide, rfl, rfl⟩ (rfl) (by omega) (by rw [mup_ne (by decide), mrow_eq]) ?_
    refine v_iret dX4_back_65 rfl ?_
    obtain ⟨r1, r2, r3, r4, r5⟩ := hr
    refine ⟨rfl, ⟨?_, ?_, ⟨?_, fun i hi => absurd hi (by simp)⟩, iR_c r4 ?_ ?_, xR_c r5 ?_ ?_⟩, fun a ha => (mup_ne (by omega)).trans ((mrow_ne (by omega)).trans (hz a (by omega)))⟩
    · rw [mup_ne (by decide), mrow_ne (by decide), hz 61 (by decide)]; exact r1
    · rw [mup_ne (by decide), mrow_eq]
    · rw [mup_eq]; simp [upd]
    · rw [mup_ne (by decide), mrow_ne (by decide), hz 67 (by decide)]
    · rw [mup_ne (by decide), mrow_ne (by decide), hz 66 (by decide)]
    · rw [mup_eq]; simp only [upd]; rw [if_neg (by decide), mrow_ne (by decide), hz 60 (by decide)]
    · rw [mup_ne (by decide), mrow_ne (by decide), hz 70 (by decide)]
  | succ d ih =>
    intro k M hk hz h1
    refine v_iload_n dX4_back_25 rfl ?_
    refine v_bipush (v := (nI 36)) dX4_back_26 rfl ?_
    refine v_icmpN_ge (tgt := 54) dX4_back_28 (by decide) (by omega) (by omega) (fun c28 => (by omega)) (fun c28 => ?_)
    refine v_aload_n dX4_back_31 rfl ?_
    refine v_getR (t := 63) dX4_back_32 fl_X4_16 ⟨by decide, rfl, by decide⟩ rfl rfl ?_
    refine v_iload_n dX4_back_35 rfl ?_
    refine v_aload_n dX4_back_36 rfl ?_
    refine v_getR (t := 66) dX4_back_37 fl_X4_25 ⟨by decide, rfl, by decide⟩ rfl rfl ?_
    refine v_bipush (v := (nI 36)) dX4_back_40 rfl ?_
    refine v_iload_n dX4_back_42 rfl ?_
    refine v_imulN dX4_back_43 ?_
    refine v_iload_n dX4_back_44 rfl ?_
    refine v_iaddN dX4_back_45 ?_
    refine v_iald2 (n := 72) (a := 36 * i + k) (y := (r k)) dX4_back_46 ⟨by decide, rfl, rfl⟩ (rfl) (by omega) ((congrFun (hz 66 (by decide)) _).trans (((hr.2.2.2.1 i hi).2 r hm).2 k (by omega))) ?_
    refine v_iast (n := 36) (a := k) dX4_back_47 ⟨by decide, rfl, rfl⟩ (rfl) (by omega) ?_
    refine v_iincN (lv' := [(0, .ref 60), (1, .int (nI i)), (2, .int (nI (k + 1)))]) dX4_back_48 rfl (Nat.le_of_ble_eq_true rfl) rfl ?_
    refine v_goto (tgt := 25) dX4_back_51 (by decide) ?_
    refine ih (k + 1) _ (by omega) (fun a h9 => (mup_ne h9).trans (hz a h9)) (fun j h9 => ?_)
    rw [mup_eq]; simp only [upd]
    by_cases h8 : j = k
    · rw [if_pos h8, h8]
    · rw [if_neg h8]; exact h1 j (by omega)
set_option maxRecDepth 100000 in
theorem c_back (hr : REF M T R P Im tx t) (hW : WF T) {i : Nat} (hi : i < 2) {r : Nat → Int32} (hm : Im i = some r) : V kX4_back (rA M (r 1) T r [] Im tx t) M 0 [(0, .ref 60), (1, .int (nI i))] [] := by
  have h16 := hW.n16
  refine v_iload_n dX4_back_0 rfl ?_
  refine v_iconst (v := (nI 0)) dX4_back_1 rfl ?_
  refine v_iconst (v := (nI 1)) dX4_back_2 rfl ?_
  refine v_callSr (x := .int (bI (0 ≤ i ∧ i ≤ 1))) (M1 := M) (as := [.int (nI i), .int (nI 0), .int (nI 1)]) (st := []) dX4_back_3 ml_X4_56 ks_X4_in ⟨(Nat.le_of_ble_eq_true rfl), (Nat.le_of_ble_eq_true rfl)⟩ rfl (Nat.le_of_ble_eq_true rfl) rfl (Nat.le_of_ble_eq_true rfl) (c_inN (by omega) (by omega) (by omega)) ?_
  refine v_ifB_ne (tgt := 11) dX4_back_6 (by decide) (fun c6 => ?_) (fun c6 => (absurd (by omega) c6))
  refine v_aload_n dX4_back_11 rfl ?_
  refine v_getR (t := 67) dX4_back_12 fl_X4_28 ⟨by decide, rfl, by decide⟩ rfl rfl ?_
  refine v_iload_n dX4_back_15 rfl ?_
  refine v_zald (n := 2) (a := i) dX4_back_16 ⟨by decide, rfl, rfl⟩ (rfl) (by omega) ?_
  refine v_top (y := (nI 1)) (((hr.2.2.2.1 i hi).2 r hm).1) ?_
  refine v_ifN_ne (tgt := 23) dX4_back_17 (by decide) (by decide) (fun c17 => ?_) (fun c17 => (absurd c17 (by decide)))
  refine v_iconst (v := (nI 0)) dX4_back_23 rfl ?_
  refine v_istore_n (lv' := [(0, .ref 60), (1, .int (nI i)), (2, .int (nI 0))]) dX4_back_24 (Nat.le_of_ble_eq_true rfl) rfl ?_
  exact l_back hr hi hm 36 0 M (by omega) (fun _ _ => rfl) (fun j h => absurd h (by omega))
end R27
