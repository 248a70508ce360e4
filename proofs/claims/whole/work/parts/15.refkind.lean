section R15
variable {M M0 : vM} {T : Nat → Int32}
set_option maxRecDepth 100000 in
theorem l_only (hM : M 61 = T) (hW : WF T) {r : Nat} (hr : r < 16) (d : Nat) : ∀ (n : Nat), n + d = nN T → V kX4_onlyOne (rt (.int (oI (ooO T r))) M) M 8 [(0, .ref 60), (1, .int (nI r)), (2, .int (oI (ooI T r n))), (3, .int (nI (ooT T r n))), (4, .int (nI n))] [] := by
  have h16 := hW.n16
  induction d with
  | zero =>
    intro n hk 
    refine v_iload dX4_onlyOne_8 rfl ?_
    refine v_aload_n dX4_onlyOne_10 rfl ?_
    refine v_callVr (x := .int (nI (nN T))) (M1 := M) (as := []) (st := [.int (nI n)]) dX4_onlyOne_11 ml_X4_52 kv_X4_many ⟨by decide, rfl, by decide⟩ ⟨(Nat.le_of_ble_eq_true rfl), (Nat.le_of_ble_eq_true rfl)⟩ rfl (Nat.le_of_ble_eq_true rfl) rfl (Nat.le_of_ble_eq_true rfl) (c_many hM hW) ?_
    refine v_icmpN_ge (tgt := 50) dX4_onlyOne_14 (by decide) (by omega) (by omega) (fun c14 => ?_) (fun c14 => (by omega))
    refine v_iload_n dX4_onlyOne_50 rfl ?_
    refine v_iconst (v := (nI 1)) dX4_onlyOne_51 rfl ?_
    refine v_icmpN_ne (tgt := 59) dX4_onlyOne_52 (by decide) (by have := ooT_le (T := T) (r := r) n; omega) (by omega) (fun c52 => ?_) (fun c52 => ?_)
    · refine v_bipush (v := (-9)) dX4_onlyOne_59 (by decide) ?_
      refine v_iret dX4_onlyOne_61 rfl ?_
      refine ⟨?_, rfl⟩
      simp [ooO, oI, show nN T = n by omega, *]
    · refine v_iload_n dX4_onlyOne_55 rfl ?_
      refine v_goto (tgt := 61) dX4_onlyOne_56 (by decide) ?_
      refine v_iret dX4_onlyOne_61 rfl ?_
      refine ⟨?_, rfl⟩
      simp [ooO, oI, show nN T = n by omega, *]
  | succ d ih =>
    intro n hk 
    refine v_iload dX4_onlyOne_8 rfl ?_
    refine v_aload_n dX4_onlyOne_10 rfl ?_
    refine v_callVr (x := .int (nI (nN T))) (M1 := M) (as := []) (st := [.int (nI n)]) dX4_onlyOne_11 ml_X4_52 kv_X4_many ⟨by decide, rfl, by decide⟩ ⟨(Nat.le_of_ble_eq_true rfl), (Nat.le_of_ble_eq_true rfl)⟩ rfl (Nat.le_of_ble_eq_true rfl) rfl (Nat.le_of_ble_eq_true rfl) (c_many hM hW) ?_
    refine v_icmpN_ge (tgt := 50) dX4_onlyOne_14 (by decide) (by omega) (by omega) (fun c14 => (by omega)) (fun c14 => ?_)
    refine v_aload_n dX4_onlyOne_17 rfl ?_
    refine v_iload dX4_onlyOne_18 rfl ?_
    refine v_iload_n dX4_onlyOne_20 rfl ?_
    refine v_callVr (x := .int (nI (oft T n r))) (M1 := M) (as := [.int (nI n), .int (nI r)]) (st := []) dX4_onlyOne_21 ml_X4_94 kv_X4_often ⟨by decide, rfl, by decide⟩ ⟨(Nat.le_of_ble_eq_true rfl), (Nat.le_of_ble_eq_true rfl)⟩ rfl (Nat.le_of_ble_eq_true rfl) rfl (Nat.le_of_ble_eq_true rfl) (c_often hM hW (by omega) (by omega)) ?_
    refine v_ifN_le (tgt := 32) dX4_onlyOne_24 (by decide) (by have := oft_le (T := T) (n := n) (r := r); omega) (fun c24 => ?_) (fun c24 => ?_)
    · refine v_iload_n dX4_onlyOne_32 rfl ?_
      refine v_top (y := (oI (ooI T r (n + 1)))) (by simp [ooI, oI, c24, Nat.pos_iff_ne_zero]) ?_
      refine v_istore_n (lv' := [(0, .ref 60), (1, .int (nI r)), (2, .int (oI (ooI T r (n + 1)))), (3, .int (nI (ooT T r n))), (4, .int (nI n))]) dX4_onlyOne_33 (Nat.le_of_ble_eq_true rfl) rfl ?_
      refine v_iload_n dX4_onlyOne_34 rfl ?_
      refine v_aload_n dX4_onlyOne_35 rfl ?_
      refine v_iload dX4_onlyOne_36 rfl ?_
      refine v_iload_n dX4_onlyOne_38 rfl ?_
      refine v_callVr (x := .int (nI (oft T n r))) (M1 := M) (as := [.int (nI n), .int (nI r)]) (st := [.int (nI (ooT T r n))]) dX4_onlyOne_39 ml_X4_94 kv_X4_often ⟨by decide, rfl, by decide⟩ ⟨(Nat.le_of_ble_eq_true rfl), (Nat.le_of_ble_eq_true rfl)⟩ rfl (Nat.le_of_ble_eq_true rfl) rfl (Nat.le_of_ble_eq_true rfl) (c_often hM hW (by omega) (by omega)) ?_
      refine v_iaddN dX4_onlyOne_42 ?_
      refine v_top (y := (nI (ooT T r (n + 1)))) (rfl) ?_
      refine v_istore_n (lv' := [(0, .ref 60), (1, .int (nI r)), (2, .int (oI (ooI T r (n + 1)))), (3, .int (nI (ooT T r (n + 1)))), (4, .int (nI n))]) dX4_onlyOne_43 (Nat.le_of_ble_eq_true rfl) rfl ?_
      refine v_iincN (lv' := [(0, .ref 60), (1, .int (nI r)), (2, .int (oI (ooI T r (n + 1)))), (3, .int (nI (ooT T r (n + 1)))), (4, .int (nI (n + 1)))]) dX4_onlyOne_44 rfl (Nat.le_of_ble_eq_true rfl) rfl ?_
      refine v_goto (tgt := 8) dX4_onlyOne_47 (by decide) ?_
      exact ih (n + 1) (by omega)
    · refine v_iload dX4_onlyOne_27 rfl ?_
      refine v_goto (tgt := 33) dX4_onlyOne_29 (by decide) ?_
      refine v_top (y := (oI (ooI T r (n + 1)))) (by simp [ooI, oI, c24, Nat.pos_iff_ne_zero]) ?_
      refine v_istore_n (lv' := [(0, .ref 60), (1, .int (nI r)), (2, .int (oI (ooI T r (n + 1)))), (3, .int (nI (ooT T r n))), (4, .int (nI n))]) dX4_onlyOne_33 (Nat.le_of_ble_eq_true rfl) rfl ?_
      refine v_iload_n dX4_onlyOne_34 rfl ?_
      refine v_aload_n dX4_onlyOne_35 rfl ?_
      refine v_iload dX4_onlyOne_36 rfl ?_
      refine v_iload_n dX4_onlyOne_38 rfl ?_
      refine v_callVr (x := .int (nI (oft T n r))) (M1 := M) (as := [.int (nI n), .int (nI r)]) (st := [.int (nI (ooT T r n))]) dX4_onlyOne_39 ml_X4_94 kv_X4_often ⟨by decide, rfl, by decide⟩ ⟨(Nat.le_of_ble_eq_true rfl), (Nat.le_of_ble_eq_true rfl)⟩ rfl (Nat.le_of_ble_eq_true rfl) rfl (Nat.le_of_ble_eq_true rfl) (c_often hM hW (by omega) (by omega)) ?_
      refine v_iaddN dX4_onlyOne_42 ?_
      refine v_top (y := (nI (ooT T r (n + 1)))) (rfl) ?_
      refine v_istore_n (lv' := [(0, .ref 60), (1, .int (nI r)), (2, .int (oI (ooI T r (n + 1)))), (3, .int (nI (ooT T r (n + 1)))), (4, .int (nI n))]) dX4_onlyOne_43 (Nat.le_of_ble_eq_true rfl) rfl ?_
      refine v_iincN (lv' := [(0, .ref 60), (1, .int (nI r)), (2, .int (oI (ooI T r (n + 1)))), (3, .int (nI (ooT T r (n + 1)))), (4, .int (nI (n + 1)))]) dX4_onlyOne_44 rfl (Nat.le_of_ble_eq_true rfl) rfl ?_
      refine v_goto (tgt := 8) dX4_onlyOne_47 (by decide) ?_
      exact ih (n + 1) (by omega)
set_option maxRecDepth 100000 in
theorem c_onlyOne (hM : M 61 = T) (hW : WF T) {r : Nat} (hr : r < 16) : V kX4_onlyOne (rt (.int (oI (ooO T r))) M) M 0 [(0, .ref 60), (1, .int (nI r))] [] := by
  have h16 := hW.n16
  refine v_bipush (v := (-9)) dX4_onlyOne_0 (by decide) ?_
  refine v_istore_n (lv' := [(0, .ref 60), (1, .int (nI r)), (2, .int ((-9)))]) dX4_onlyOne_2 (Nat.le_of_ble_eq_true rfl) rfl ?_
  refine v_iconst (v := (nI 0)) dX4_onlyOne_3 rfl ?_
  refine v_istore_n (lv' := [(0, .ref 60), (1, .int (nI r)), (2, .int ((-9))), (3, .int (nI 0))]) dX4_onlyOne_4 (Nat.le_of_ble_eq_true rfl) rfl ?_
  refine v_iconst (v := (nI 0)) dX4_onlyOne_5 rfl ?_
  refine v_istore (lv' := [(0, .ref 60), (1, .int (nI r)), (2, .int ((-9))), (3, .int (nI 0)), (4, .int (nI 0))]) dX4_onlyOne_6 (Nat.le_of_ble_eq_true rfl) rfl ?_
  exact l_only hM hW hr (nN T) 0 (by omega)
set_option maxRecDepth 100000 in
theorem l_depth (hM : M 61 = T) (hW : WF T) {r : Nat} (hr : r < nN T) (d : Nat) : ∀ (dp : Nat) (nx : Option Nat), (∀ n, nx = some n → n < nN T ∧ nN T - n ≤ d) → V kX4_depth (rt (.int (nI (dp + dpN T (ck T r) d nx))) M) M 8 [(0, .ref 60), (1, .int (nI r)), (2, .int (nI dp)), (3, .int (oI nx))] [] := by
  have h16 := hW.n16
  induction d with
  | zero =>
    intro dp nx hnx
    cases nx with
    | some n => have := hnx n rfl; omega
    | none =>
      refine v_iload_n dX4_depth_8 rfl ?_
      refine v_bipush (v := (-9)) dX4_depth_9 (by decide) ?_
      refine v_icmp_eq (tgt := 48) dX4_depth_11 (by decide) (fun c11 => ?_) (fun c11 => (absurd rfl c11))
      refine v_iload_n dX4_depth_48 rfl ?_
      refine v_iret dX4_depth_49 rfl ?_
      refine ⟨?_, rfl⟩
      rfl
  | succ d ih =>
    intro dp nx hnx
    cases nx with
    | none =>
      refine v_iload_n dX4_depth_8 rfl ?_
      refine v_bipush (v := (-9)) dX4_depth_9 (by decide) ?_
      refine v_icmp_eq (tgt := 48) dX4_depth_11 (by decide) (fun c11 => ?_) (fun c11 => (absurd rfl c11))
      refine v_iload_n dX4_depth_48 rfl ?_
      refine v_iret dX4_depth_49 rfl ?_
      refine ⟨?_, rfl⟩
      cases d <;> rfl
    | some n =>
      have hn := hnx n rfl
      show V kX4_depth _ M 8 [(0, .ref 60), (1, .int (nI r)), (2, .int (nI dp)), (3, .int (nI n))] []
      refine v_iload_n dX4_depth_8 rfl ?_
      refine v_bipush (v := (-9)) dX4_depth_9 (by decide) ?_
      refine v_icmp_eq (tgt := 48) dX4_depth_11 (by decide) (fun c11 => (absurd c11 (fun q => by have := (oI_none (o := some n) (by intro m hm; cases hm; omega)).mp q; cases this))) (fun c11 => ?_)
      refine v_aload_n dX4_depth_14 rfl ?_
      refine v_iload_n dX4_depth_15 rfl ?_
      refine v_callVr (x := .int (nI (so T n))) (M1 := M) (as := [.int (nI n)]) (st := []) dX4_depth_16 ml_X4_64 kv_X4_sort ⟨by decide, rfl, by decide⟩ ⟨(Nat.le_of_ble_eq_true rfl), (Nat.le_of_ble_eq_true rfl)⟩ rfl (Nat.le_of_ble_eq_true rfl) rfl (Nat.le_of_ble_eq_true rfl) (c_sort hM hW (by omega)) ?_
      refine v_iconst (v := (nI 1)) dX4_depth_19 rfl ?_
      refine v_icmpN_ne (tgt := 48) dX4_depth_20 (by decide) (by have := hW.so5 (n := n) (by omega); omega) (by omega) (fun c20 => ?_) (fun c20 => ?_)
      · refine v_iload_n dX4_depth_48 rfl ?_
        refine v_iret dX4_depth_49 rfl ?_
        refine ⟨?_, rfl⟩
        simp [dpN, *]
      · refine v_aload_n dX4_depth_23 rfl ?_
        refine v_iload_n dX4_depth_24 rfl ?_
        refine v_callVr (x := .int (nI (ck T n))) (M1 := M) (as := [.int (nI n)]) (st := []) dX4_depth_25 ml_X4_88 kv_X4_clock ⟨by decide, rfl, by decide⟩ ⟨(Nat.le_of_ble_eq_true rfl), (Nat.le_of_ble_eq_true rfl)⟩ rfl (Nat.le_of_ble_eq_true rfl) rfl (Nat.le_of_ble_eq_true rfl) (c_clock hM hW (by omega)) ?_
        refine v_aload_n dX4_depth_28 rfl ?_
        refine v_iload_n dX4_depth_29 rfl ?_
        refine v_callVr (x := .int (nI (ck T r))) (M1 := M) (as := [.int (nI r)]) (st := [.int (nI (ck T n))]) dX4_depth_30 ml_X4_88 kv_X4_clock ⟨by decide, rfl, by decide⟩ ⟨(Nat.le_of_ble_eq_true rfl), (Nat.le_of_ble_eq_true rfl)⟩ rfl (Nat.le_of_ble_eq_true rfl) rfl (Nat.le_of_ble_eq_true rfl) (c_clock hM hW (by omega)) ?_
        refine v_icmpN_ne (tgt := 48) dX4_depth_33 (by decide) (by have := hW.ck2 (n := n) (by omega); omega) (by have := hW.ck2 (n := r) (by omega); omega) (fun c33 => ?_) (fun c33 => ?_)
        · refine v_iload_n dX4_depth_48 rfl ?_
          refine v_iret dX4_depth_49 rfl ?_
          refine ⟨?_, rfl⟩
          simp [dpN, *]
        · refine v_iincN (lv' := [(0, .ref 60), (1, .int (nI r)), (2, .int (nI (dp + 1))), (3, .int (nI n))]) dX4_depth_36 rfl (Nat.le_of_ble_eq_true rfl) rfl ?_
          refine v_aload_n dX4_depth_39 rfl ?_
          refine v_iload_n dX4_depth_40 rfl ?_
          refine v_callVr (x := .int (oI (ooO T n))) (M1 := M) (as := [.int (nI n)]) (st := []) dX4_depth_41 ml_X4_97 kv_X4_onlyOne ⟨by decide, rfl, by decide⟩ ⟨(Nat.le_of_ble_eq_true rfl), (Nat.le_of_ble_eq_true rfl)⟩ rfl (Nat.le_of_ble_eq_true rfl) rfl (Nat.le_of_ble_eq_true rfl) (c_onlyOne hM hW (by omega)) ?_
          refine v_istore_n (lv' := [(0, .ref 60), (1, .int (nI r)), (2, .int (nI (dp + 1))), (3, .int (oI (ooO T n)))]) dX4_depth_44 (Nat.le_of_ble_eq_true rfl) rfl ?_
          refine v_goto (tgt := 8) dX4_depth_45 (by decide) ?_
          have e : dp + dpN T (ck T r) (d + 1) (some n) = dp + 1 + dpN T (ck T r) d (ooO T n) := by
            simp only [dpN]
            rw [if_pos ⟨c20, c33⟩]
            omega
          rw [e]
          exact ih (dp + 1) (ooO T n) (fun m hm => by have := ooO_lt hW hm; omega)
set_option maxRecDepth 100000 in
theorem c_depth (hM : M 61 = T) (hW : WF T) {r : Nat} (hr : r < nN T) : V kX4_depth (rt (.int (nI (dpF T r))) M) M 0 [(0, .ref 60), (1, .int (nI r))] [] := by
  have h16 := hW.n16
  refine v_iconst (v := (nI 1)) dX4_depth_0 rfl ?_
  refine v_istore_n (lv' := [(0, .ref 60), (1, .int (nI r)), (2, .int (nI 1))]) dX4_depth_1 (Nat.le_of_ble_eq_true rfl) rfl ?_
  refine v_aload_n dX4_depth_2 rfl ?_
  refine v_iload_n dX4_depth_3 rfl ?_
  refine v_callVr (x := .int (oI (ooO T r))) (M1 := M) (as := [.int (nI r)]) (st := []) dX4_depth_4 ml_X4_97 kv_X4_onlyOne ⟨by decide, rfl, by decide⟩ ⟨(Nat.le_of_ble_eq_true rfl), (Nat.le_of_ble_eq_true rfl)⟩ rfl (Nat.le_of_ble_eq_true rfl) rfl (Nat.le_of_ble_eq_true rfl) (c_onlyOne hM hW (by omega)) ?_
  refine v_istore_n (lv' := [(0, .ref 60), (1, .int (nI r)), (2, .int (nI 1)), (3, .int (oI (ooO T r)))]) dX4_depth_7 (Nat.le_of_ble_eq_true rfl) rfl ?_
  exact l_depth hM hW hr 16 1 (ooO T r) (fun m hm => by have := ooO_lt hW hm; omega)
set_option maxRecDepth 100000 in
theorem c_isSafe {nd : Nat} (hs : sc M0 M) (hM : M0 61 = T) (hW : WF T) (hnd : M0 63 0 = nI nd) (hnb : nd < 2 ^ 31) {r : Nat} (hr : r < nN T) (h1 : so T r = 1) : V kX4_isSafe (rs (.int (bI (safF T nd r = true))) M0) M 0 [(0, .ref 60), (1, .int (nI r))] [] := by
  have h16 := hW.n16
  refine v_aload_n dX4_isSafe_0 rfl ?_
  refine v_iload_n dX4_isSafe_1 rfl ?_
  refine v_callV (as := [.int (nI r)]) (st := []) dX4_isSafe_2 ml_X4_100 kv_X4_isDirect ⟨by decide, rfl, by decide⟩ ⟨(Nat.le_of_ble_eq_true rfl), (Nat.le_of_ble_eq_true rfl)⟩ rfl (Nat.le_of_ble_eq_true rfl) rfl (Nat.le_of_ble_eq_true rfl) (c_isDirect hs hM hW (by omega) (by assumption)) (fun v M hq => ?_)
  obtain ⟨rfl, hs⟩ := hq
  refine v_ifB_eq (tgt := 26) dX4_isSafe_5 (by decide) (fun c5 => ?_) (fun c5 => ?_)
  · refine v_iconst (v := (nI 0)) dX4_isSafe_26 rfl ?_
    refine v_zret dX4_isSafe_27 rfl (Or.inl rfl) ?_
    refine ⟨?_, hs⟩
    rw [bI_f (by simp [safF, *])]; rfl
  · refine v_aload_n dX4_isSafe_8 rfl ?_
    refine v_iload_n dX4_isSafe_9 rfl ?_
    refine v_callVr (x := .int (nI (dpF T r))) (M1 := M) (as := [.int (nI r)]) (st := []) dX4_isSafe_10 ml_X4_103 kv_X4_depth ⟨by decide, rfl, by decide⟩ ⟨(Nat.le_of_ble_eq_true rfl), (Nat.le_of_ble_eq_true rfl)⟩ rfl (Nat.le_of_ble_eq_true rfl) rfl (Nat.le_of_ble_eq_true rfl) (c_depth (scT hs hM) hW (by omega)) ?_
    refine v_aload_n dX4_isSafe_13 rfl ?_
    refine v_getR (t := 63) dX4_isSafe_14 fl_X4_16 ⟨by decide, rfl, by decide⟩ rfl rfl ?_
    refine v_iconst (v := (nI 0)) dX4_isSafe_17 rfl ?_
    refine v_iald2 (n := 36) (a := 0) (y := (nI nd)) dX4_isSafe_18 ⟨by decide, rfl, rfl⟩ (rfl) (by omega) ((congrFun (hs 63 (by decide)) 0).trans hnd) ?_
    refine v_icmpN_lt (tgt := 26) dX4_isSafe_19 (by decide) (by have := dpF_le (T := T) (r := r); omega) (by omega) (fun c19 => ?_) (fun c19 => ?_)
    · refine v_iconst (v := (nI 0)) dX4_isSafe_26 rfl ?_
      refine v_zret dX4_isSafe_27 rfl (Or.inl rfl) ?_
      refine ⟨?_, hs⟩
      rw [bI_f (by simp [safF, *])]; rfl
    · refine v_iconst (v := (nI 1)) dX4_isSafe_22 rfl ?_
      refine v_goto (tgt := 27) dX4_isSafe_23 (by decide) ?_
      refine v_zret dX4_isSafe_27 rfl (Or.inr rfl) ?_
      refine ⟨?_, hs⟩
      rw [bI_t (by simp [safF, *])]; rfl
set_option maxRecDepth 100000 in
theorem l_bk1 (hM : M 61 = T) (hW : WF T) {Q : Option Value → vM → Prop} {i c n : Nat} {s : Int32} (hn : n < nN T) (post : V kX4_backFrom Q M 86 [(0, .ref 60), (1, .int (nI i)), (2, .int (nI c)), (3, .int (bkP T n s (hmF (so T n)))), (4, .int (nI n))] []) (d : Nat) : ∀ (k : Nat), k + d = hmF (so T n) → V kX4_backFrom (Q) M 53 [(0, .ref 60), (1, .int (nI i)), (2, .int (nI c)), (3, .int (bkP T n s k)), (4, .int (nI n)), (5, .int (nI k))] [] := by
  have h16 := hW.n16
  induction d with
  | zero =>
    intro k hk 
    refine v_iload dX4_backFrom_53 rfl ?_
    refine v_aload_n dX4_backFrom_55 rfl ?_
    refine v_iload dX4_backFrom_56 rfl ?_
    refine v_callVr (x := .int (nI (so T n))) (M1 := M) (as := [.int (nI n)]) (st := [.int (nI k)]) dX4_backFrom_58 ml_X4_64 kv_X4_sort ⟨by decide, rfl, by decide⟩ ⟨(Nat.le_of_ble_eq_true rfl), (Nat.le_of_ble_eq_true rfl)⟩ rfl (Nat.le_of_ble_eq_true rfl) rfl (Nat.le_of_ble_eq_true rfl) (c_sort hM hW (by omega)) ?_
    refine v_callSr (x := .int (nI (hmF (so T n)))) (M1 := M) (as := [.int (nI (so T n))]) (st := [.int (nI k)]) dX4_backFrom_61 ml_X4_68 ks_X4_hasMany ⟨(Nat.le_of_ble_eq_true rfl), (Nat.le_of_ble_eq_true rfl)⟩ rfl (Nat.le_of_ble_eq_true rfl) rfl (Nat.le_of_ble_eq_true rfl) (c_hasMany (by have := hW.so5 (n := n) (by omega); omega)) ?_
    refine v_icmpN_ge (tgt := 86) dX4_backFrom_64 (by decide) (by have := hmF_le (so T n); omega) (by have := hmF_le (so T n); omega) (fun c64 => ?_) (fun c64 => (by omega))
    refine v_sub (lv' := [(0, .ref 60), (1, .int (nI i)), (2, .int (nI c)), (3, .int (bkP T n s k)), (4, .int (nI n))]) (by intro q hq; simp at hq; rcases hq with rfl | rfl | rfl | rfl | rfl <;> rfl) ?_
    rw [show k = hmF (so T n) by omega]
    exact post
  | succ d ih =>
    intro k hk 
    refine v_iload dX4_backFrom_53 rfl ?_
    refine v_aload_n dX4_backFrom_55 rfl ?_
    refine v_iload dX4_backFrom_56 rfl ?_
    refine v_callVr (x := .int (nI (so T n))) (M1 := M) (as := [.int (nI n)]) (st := [.int (nI k)]) dX4_backFrom_58 ml_X4_64 kv_X4_sort ⟨by decide, rfl, by decide⟩ ⟨(Nat.le_of_ble_eq_true rfl), (Nat.le_of_ble_eq_true rfl)⟩ rfl (Nat.le_of_ble_eq_true rfl) rfl (Nat.le_of_ble_eq_true rfl) (c_sort hM hW (by omega)) ?_
    refine v_callSr (x := .int (nI (hmF (so T n)))) (M1 := M) (as := [.int (nI (so T n))]) (st := [.int (nI k)]) dX4_backFrom_61 ml_X4_68 ks_X4_hasMany ⟨(Nat.le_of_ble_eq_true rfl), (Nat.le_of_ble_eq_true rfl)⟩ rfl (Nat.le_of_ble_eq_true rfl) rfl (Nat.le_of_ble_eq_true rfl) (c_hasMany (by have := hW.so5 (n := n) (by omega); omega)) ?_
    refine v_icmpN_ge (tgt := 86) dX4_backFrom_64 (by decide) (by have := hmF_le (so T n); omega) (by have := hmF_le (so T n); omega) (fun c64 => (by omega)) (fun c64 => ?_)
    refine v_iload_n dX4_backFrom_67 rfl ?_
    refine v_iconst (v := (nI 1)) dX4_backFrom_68 rfl ?_
    refine v_aload_n dX4_backFrom_69 rfl ?_
    refine v_iload dX4_backFrom_70 rfl ?_
    refine v_iload dX4_backFrom_72 rfl ?_
    refine v_callVr (x := .int (nI (pt T n k))) (M1 := M) (as := [.int (nI n), .int (nI k)]) (st := [.int (nI 1), .int (bkP T n s k)]) dX4_backFrom_74 ml_X4_71 kv_X4_of ⟨by decide, rfl, by decide⟩ ⟨(Nat.le_of_ble_eq_true rfl), (Nat.le_of_ble_eq_true rfl)⟩ rfl (Nat.le_of_ble_eq_true rfl) rfl (Nat.le_of_ble_eq_true rfl) (c_of hM hW (by omega) (by omega)) ?_
    refine v_ishl dX4_backFrom_77 ?_
    refine v_ior dX4_backFrom_78 ?_
    refine v_top (y := (bkP T n s (k + 1))) (rfl) ?_
    refine v_istore_n (lv' := [(0, .ref 60), (1, .int (nI i)), (2, .int (nI c)), (3, .int (bkP T n s (k + 1))), (4, .int (nI n)), (5, .int (nI k))]) dX4_backFrom_79 (Nat.le_of_ble_eq_true rfl) rfl ?_
    refine v_iincN (lv' := [(0, .ref 60), (1, .int (nI i)), (2, .int (nI c)), (3, .int (bkP T n s (k + 1))), (4, .int (nI n)), (5, .int (nI (k + 1)))]) dX4_backFrom_80 rfl (Nat.le_of_ble_eq_true rfl) rfl ?_
    refine v_goto (tgt := 53) dX4_backFrom_83 (by decide) ?_
    exact ih (k + 1) (by omega)
set_option maxRecDepth 100000 in
theorem l_bk (hM : M 61 = T) (hW : WF T) {i c : Nat} (hc : c < 2 ^ 31) (d : Nat) : ∀ (s : Int32), d ≤ nN T → V kX4_backFrom (rt (.int (bkD T c d s)) M) M 7 [(0, .ref 60), (1, .int (nI i)), (2, .int (nI c)), (3, .int s), (4, .int (nI d - 1))] [] := by
  have h16 := hW.n16
  induction d with
  | zero =>
    intro s hd
    refine v_iload dX4_backFrom_7 rfl ?_
    refine v_if_lt (tgt := 92) dX4_backFrom_9 (by decide) (fun c9 => ?_) (fun c9 => (absurd (by decide) c9))
    refine v_iload_n dX4_backFrom_92 rfl ?_
    refine v_iret dX4_backFrom_93 rfl ?_
    exact ⟨rfl, rfl⟩
  | succ d ih =>
    intro s hd
    rw [nI_pred]
    refine v_iload dX4_backFrom_7 rfl ?_
    refine v_ifN_lt (tgt := 92) dX4_backFrom_9 (by decide) (by omega) ?_
    refine v_iload_n dX4_backFrom_12 rfl ?_
    refine v_iload dX4_backFrom_13 rfl ?_
    refine v_callSr (x := .int (bI (bt s d = true))) (M1 := M) (as := [.int s, .int (nI d)]) (st := []) dX4_backFrom_15 ml_X4_84 ks_X4_has ⟨(Nat.le_of_ble_eq_true rfl), (Nat.le_of_ble_eq_true rfl)⟩ rfl (Nat.le_of_ble_eq_true rfl) rfl (Nat.le_of_ble_eq_true rfl) (c_has _ (by omega)) ?_
    refine v_ifB_eq (tgt := 86) dX4_backFrom_18 (by decide) (fun c18 => ?_) (fun c18 => ?_)
    · refine v_iinc (v := ((nI d)) + (-1)) (lv' := [(0, .ref 60), (1, .int (nI i)), (2, .int (nI c)), (3, .int s), (4, .int (((nI d)) + (-1)))]) dX4_backFrom_86 rfl rfl (Nat.le_of_ble_eq_true rfl) rfl ?_
      refine v_goto (tgt := 7) dX4_backFrom_89 (by decide) ?_
      rw [dec_sub]
      have e : bkD T c (d + 1) s = bkD T c d (s) := by simp only [bkD]; congr 1; exact if_neg (fun q => by obtain ⟨q1, q2⟩ := q; first | exact c18 q1 | (simp [psB] at q2; omega))
      rw [e]
      exact ih _ (by omega)
    · refine v_aload_n dX4_backFrom_21 rfl ?_
      refine v_iload dX4_backFrom_22 rfl ?_
      refine v_callVr (x := .int (bI (so T d ≤ 1))) (M1 := M) (as := [.int (nI d)]) (st := []) dX4_backFrom_24 ml_X4_75 kv_X4_isLeaf ⟨by decide, rfl, by decide⟩ ⟨(Nat.le_of_ble_eq_true rfl), (Nat.le_of_ble_eq_true rfl)⟩ rfl (Nat.le_of_ble_eq_true rfl) rfl (Nat.le_of_ble_eq_true rfl) (c_isLeaf hM hW (by omega)) ?_
      refine v_ifB_eq (tgt := 50) dX4_backFrom_27 (by decide) (fun c27 => ?_) (fun c27 => ?_)
      · refine v_iconst (v := (nI 0)) dX4_backFrom_50 rfl ?_
        refine v_istore (lv' := [(0, .ref 60), (1, .int (nI i)), (2, .int (nI c)), (3, .int s), (4, .int (nI d)), (5, .int (nI 0))]) dX4_backFrom_51 (Nat.le_of_ble_eq_true rfl) rfl ?_
        refine l_bk1 hM hW (s := s) (by omega) ?_ (hmF (so T d)) 0 (by omega)
        refine v_iinc (v := ((nI d)) + (-1)) (lv' := [(0, .ref 60), (1, .int (nI i)), (2, .int (nI c)), (3, .int (bkP T d s (hmF (so T d)))), (4, .int (((nI d)) + (-1)))]) dX4_backFrom_86 rfl rfl (Nat.le_of_ble_eq_true rfl) rfl ?_
        refine v_goto (tgt := 7) dX4_backFrom_89 (by decide) ?_
        rw [dec_sub]
        have e : bkD T c (d + 1) s = bkD T c d ((bkP T d s (hmF (so T d)))) := by simp only [bkD]; congr 1; exact if_pos ⟨c18, by simp [psB]; omega⟩
        rw [e]
        exact ih _ (by omega)
      · refine v_aload_n dX4_backFrom_30 rfl ?_
        refine v_iload dX4_backFrom_31 rfl ?_
        refine v_callVr (x := .int (nI (so T d))) (M1 := M) (as := [.int (nI d)]) (st := []) dX4_backFrom_33 ml_X4_64 kv_X4_sort ⟨by decide, rfl, by decide⟩ ⟨(Nat.le_of_ble_eq_true rfl), (Nat.le_of_ble_eq_true rfl)⟩ rfl (Nat.le_of_ble_eq_true rfl) rfl (Nat.le_of_ble_eq_true rfl) (c_sort hM hW (by omega)) ?_
        refine v_iconst (v := (nI 1)) dX4_backFrom_36 rfl ?_
        refine v_icmpN_ne (tgt := 86) dX4_backFrom_37 (by decide) (by have := hW.so5 (n := d) (by omega); omega) (by omega) (fun c37 => ?_) (fun c37 => ?_)
        · refine v_iinc (v := ((nI d)) + (-1)) (lv' := [(0, .ref 60), (1, .int (nI i)), (2, .int (nI c)), (3, .int s), (4, .int (((nI d)) + (-1)))]) dX4_backFrom_86 rfl rfl (Nat.le_of_ble_eq_true rfl) rfl ?_
          refine v_goto (tgt := 7) dX4_backFrom_89 (by decide) ?_
          rw [dec_sub]
          have e : bkD T c (d + 1) s = bkD T c d (s) := by simp only [bkD]; congr 1; exact if_neg (fun q => by obtain ⟨q1, q2⟩ := q; first | exact c18 q1 | (simp [psB] at q2; omega))
          rw [e]
          exact ih _ (by omega)
        · refine v_aload_n dX4_backFrom_40 rfl ?_
          refine v_iload dX4_backFrom_41 rfl ?_
          refine v_callVr (x := .int (nI (ck T d))) (M1 := M) (as := [.int (nI d)]) (st := []) dX4_backFrom_43 ml_X4_88 kv_X4_clock ⟨by decide, rfl, by decide⟩ ⟨(Nat.le_of_ble_eq_true rfl), (Nat.le_of_ble_eq_true rfl)⟩ rfl (Nat.le_of_ble_eq_true rfl) rfl (Nat.le_of_ble_eq_true rfl) (c_clock hM hW (by omega)) ?_
          refine v_iload_n dX4_backFrom_46 rfl ?_
          refine v_icmpN_ne (tgt := 86) dX4_backFrom_47 (by decide) (by have := hW.ck2 (n := d) (by omega); omega) (by omega) (fun c47 => ?_) (fun c47 => ?_)
          · refine v_iinc (v := ((nI d)) + (-1)) (lv' := [(0, .ref 60), (1, .int (nI i)), (2, .int (nI c)), (3, .int s), (4, .int (((nI d)) + (-1)))]) dX4_backFrom_86 rfl rfl (Nat.le_of_ble_eq_true rfl) rfl ?_
            refine v_goto (tgt := 7) dX4_backFrom_89 (by decide) ?_
            rw [dec_sub]
            have e : bkD T c (d + 1) s = bkD T c d (s) := by simp only [bkD]; congr 1; exact if_neg (fun q => by obtain ⟨q1, q2⟩ := q; first | exact c18 q1 | (simp [psB] at q2; omega))
            rw [e]
            exact ih _ (by omega)
          · refine v_iconst (v := (nI 0)) dX4_backFrom_50 rfl ?_
            refine v_istore (lv' := [(0, .ref 60), (1, .int (nI i)), (2, .int (nI c)), (3, .int s), (4, .int (nI d)), (5, .int (nI 0))]) dX4_backFrom_51 (Nat.le_of_ble_eq_true rfl) rfl ?_
            refine l_bk1 hM hW (s := s) (by omega) ?_ (hmF (so T d)) 0 (by omega)
            refine v_iinc (v := ((nI d)) + (-1)) (lv' := [(0, .ref 60), (1, .int (nI i)), (2, .int (nI c)), (3, .int (bkP T d s (hmF (so T d)))), (4, .int (((nI d)) + (-1)))]) dX4_backFrom_86 rfl rfl (Nat.le_of_ble_eq_true rfl) rfl ?_
            refine v_goto (tgt := 7) dX4_backFrom_89 (by decide) ?_
            rw [dec_sub]
            have e : bkD T c (d + 1) s = bkD T c d ((bkP T d s (hmF (so T d)))) := by simp only [bkD]; congr 1; exact if_pos ⟨c18, by simp [psB]; omega⟩
            rw [e]
            exact ih _ (by omega)
set_option maxRecDepth 100000 in
theorem c_backFrom (hM : M 61 = T) (hW : WF T) {i c : Nat} (hi : i < nN T) (hc : c < 2 ^ 31) : V kX4_backFrom (rt (.int (bkF T c i)) M) M 0 [(0, .ref 60), (1, .int (nI i)), (2, .int (nI c))] [] := by
  have h16 := hW.n16
  refine v_iconst (v := (nI 1)) dX4_backFrom_0 rfl ?_
  refine v_iload_n dX4_backFrom_1 rfl ?_
  refine v_ishl dX4_backFrom_2 ?_
  refine v_istore_n (lv' := [(0, .ref 60), (1, .int (nI i)), (2, .int (nI c)), (3, .int ((nI 1) <<< ((nI i) &&& 31)))]) dX4_backFrom_3 (Nat.le_of_ble_eq_true rfl) rfl ?_
  refine v_iload_n dX4_backFrom_4 rfl ?_
  refine v_istore (lv' := [(0, .ref 60), (1, .int (nI i)), (2, .int (nI c)), (3, .int ((nI 1) <<< ((nI i) &&& 31))), (4, .int (nI i))]) dX4_backFrom_5 (Nat.le_of_ble_eq_true rfl) rfl ?_
  have h := l_bk hM hW (i := i) hc (i + 1) (bx i) (by omega)
  rw [nI_pred] at h
  exact h
set_option maxRecDepth 100000 in
theorem l_held1 (hM : M 61 = T) (hW : WF T) {Q : Option Value → vM → Prop} {r : Nat} {s : Int32} (post : V kX4_isHeld Q M 116 [(0, .ref 60), (1, .int (nI r)), (2, .int (nI (pt T r 0))), (3, .int s), (4, .int (oI (otO T s (nN T)))), (5, .int (bI (otB T s (nN T) = true)))] []) (d : Nat) : ∀ (k : Nat), k + d = nN T → V kX4_isHeld (Q) M 54 [(0, .ref 60), (1, .int (nI r)), (2, .int (nI (pt T r 0))), (3, .int s), (4, .int (oI (otO T s k))), (5, .int (bI (otB T s k = true))), (6, .int (nI k))] [] := by
  have h16 := hW.n16
  induction d with
  | zero =>
    intro k hk 
    refine v_iload dX4_isHeld_54 rfl ?_
    refine v_aload_n dX4_isHeld_56 rfl ?_
    refine v_callVr (x := .int (nI (nN T))) (M1 := M) (as := []) (st := [.int (nI k)]) dX4_isHeld_57 ml_X4_52 kv_X4_many ⟨by decide, rfl, by decide⟩ ⟨(Nat.le_of_ble_eq_true rfl), (Nat.le_of_ble_eq_true rfl)⟩ rfl (Nat.le_of_ble_eq_true rfl) rfl (Nat.le_of_ble_eq_true rfl) (c_many hM hW) ?_
    refine v_icmpN_ge (tgt := 116) dX4_isHeld_60 (by decide) (by omega) (by omega) (fun c60 => ?_) (fun c60 => (by omega))
    refine v_sub (lv' := [(0, .ref 60), (1, .int (nI r)), (2, .int (nI (pt T r 0))), (3, .int s), (4, .int (oI (otO T s k))), (5, .int (bI (otB T s k = true)))]) (by intro q hq; simp at hq; rcases hq with rfl | rfl | rfl | rfl | rfl | rfl <;> rfl) ?_
    rw [show k = nN T by omega]
    exact post
  | succ d ih =>
    intro k hk 
    refine v_iload dX4_isHeld_54 rfl ?_
    refine v_aload_n dX4_isHeld_56 rfl ?_
    refine v_callVr (x := .int (nI (nN T))) (M1 := M) (as := []) (st := [.int (nI k)]) dX4_isHeld_57 ml_X4_52 kv_X4_many ⟨by decide, rfl, by decide⟩ ⟨(Nat.le_of_ble_eq_true rfl), (Nat.le_of_ble_eq_true rfl)⟩ rfl (Nat.le_of_ble_eq_true rfl) rfl (Nat.le_of_ble_eq_true rfl) (c_many hM hW) ?_
    refine v_icmpN_ge (tgt := 116) dX4_isHeld_60 (by decide) (by omega) (by omega) (fun c60 => (by omega)) (fun c60 => ?_)
    refine v_iload_n dX4_isHeld_63 rfl ?_
    refine v_iload dX4_isHeld_64 rfl ?_
    refine v_callSr (x := .int (bI (bt s k = true))) (M1 := M) (as := [.int s, .int (nI k)]) (st := []) dX4_isHeld_66 ml_X4_84 ks_X4_has ⟨(Nat.le_of_ble_eq_true rfl), (Nat.le_of_ble_eq_true rfl)⟩ rfl (Nat.le_of_ble_eq_true rfl) rfl (Nat.le_of_ble_eq_true rfl) (c_has _ (by omega)) ?_
    refine v_ifB_eq (tgt := 110) dX4_isHeld_69 (by decide) (fun c69 => ?_) (fun c69 => ?_)
    · have e1 : otO T s (k + 1) = otO T s k := by simp [otO, c69]
      have e2 : otB T s (k + 1) = otB T s k := by simp [otB, c69]
      rw [← e1, ← e2]
      refine v_iincN (lv' := [(0, .ref 60), (1, .int (nI r)), (2, .int (nI (pt T r 0))), (3, .int s), (4, .int (oI (otO T s (k + 1)))), (5, .int (bI (otB T s (k + 1) = true))), (6, .int (nI (k + 1)))]) dX4_isHeld_110 rfl (Nat.le_of_ble_eq_true rfl) rfl ?_
      refine v_goto (tgt := 54) dX4_isHeld_113 (by decide) ?_
      exact ih (k + 1) (by omega)
    · refine v_iload dX4_isHeld_72 rfl ?_
      refine v_ifB_eq (tgt := 99) dX4_isHeld_74 (by decide) (fun c74 => ?_) (fun c74 => ?_)
      · refine v_iconst (v := (nI 0)) dX4_isHeld_99 rfl ?_
        refine v_top (y := (bI (otB T s (k + 1) = true))) ((bI_f (by simp [otB, *])).symm) ?_
        refine v_istore (lv' := [(0, .ref 60), (1, .int (nI r)), (2, .int (nI (pt T r 0))), (3, .int s), (4, .int (oI (otO T s k))), (5, .int (bI (otB T s (k + 1) = true))), (6, .int (nI k))]) dX4_isHeld_100 (Nat.le_of_ble_eq_true rfl) rfl ?_
        refine v_aload_n dX4_isHeld_102 rfl ?_
        refine v_iload dX4_isHeld_103 rfl ?_
        refine v_callVr (x := .int (nI (ck T k))) (M1 := M) (as := [.int (nI k)]) (st := []) dX4_isHeld_105 ml_X4_88 kv_X4_clock ⟨by decide, rfl, by decide⟩ ⟨(Nat.le_of_ble_eq_true rfl), (Nat.le_of_ble_eq_true rfl)⟩ rfl (Nat.le_of_ble_eq_true rfl) rfl (Nat.le_of_ble_eq_true rfl) (c_clock hM hW (by omega)) ?_
        refine v_top (y := (oI (otO T s (k + 1)))) (by simp [otO, oI, c69]) ?_
        refine v_istore (lv' := [(0, .ref 60), (1, .int (nI r)), (2, .int (nI (pt T r 0))), (3, .int s), (4, .int (oI (otO T s (k + 1)))), (5, .int (bI (otB T s (k + 1) = true))), (6, .int (nI k))]) dX4_isHeld_108 (Nat.le_of_ble_eq_true rfl) rfl ?_
        refine v_iincN (lv' := [(0, .ref 60), (1, .int (nI r)), (2, .int (nI (pt T r 0))), (3, .int s), (4, .int (oI (otO T s (k + 1)))), (5, .int (bI (otB T s (k + 1) = true))), (6, .int (nI (k + 1)))]) dX4_isHeld_110 rfl (Nat.le_of_ble_eq_true rfl) rfl ?_
        refine v_goto (tgt := 54) dX4_isHeld_113 (by decide) ?_
        exact ih (k + 1) (by omega)
      · refine v_iload dX4_isHeld_77 rfl ?_
        refine v_bipush (v := (-9)) dX4_isHeld_79 (by decide) ?_
        refine v_icmp_eq (tgt := 95) dX4_isHeld_81 (by decide) (fun c81 => ?_) (fun c81 => ?_)
        · have e81 : otO T s k = none := (oI_none (otO_b hW (by omega))).mp c81
          refine v_iconst (v := (nI 1)) dX4_isHeld_95 rfl ?_
          refine v_goto (tgt := 100) dX4_isHeld_96 (by decide) ?_
          refine v_top (y := (bI (otB T s (k + 1) = true))) ((bI_t (by simp [otB, *])).symm) ?_
          refine v_istore (lv' := [(0, .ref 60), (1, .int (nI r)), (2, .int (nI (pt T r 0))), (3, .int s), (4, .int (oI (otO T s k))), (5, .int (bI (otB T s (k + 1) = true))), (6, .int (nI k))]) dX4_isHeld_100 (Nat.le_of_ble_eq_true rfl) rfl ?_
          refine v_aload_n dX4_isHeld_102 rfl ?_
          refine v_iload dX4_isHeld_103 rfl ?_
          refine v_callVr (x := .int (nI (ck T k))) (M1 := M) (as := [.int (nI k)]) (st := []) dX4_isHeld_105 ml_X4_88 kv_X4_clock ⟨by decide, rfl, by decide⟩ ⟨(Nat.le_of_ble_eq_true rfl), (Nat.le_of_ble_eq_true rfl)⟩ rfl (Nat.le_of_ble_eq_true rfl) rfl (Nat.le_of_ble_eq_true rfl) (c_clock hM hW (by omega)) ?_
          refine v_top (y := (oI (otO T s (k + 1)))) (by simp [otO, oI, c69]) ?_
          refine v_istore (lv' := [(0, .ref 60), (1, .int (nI r)), (2, .int (nI (pt T r 0))), (3, .int s), (4, .int (oI (otO T s (k + 1)))), (5, .int (bI (otB T s (k + 1) = true))), (6, .int (nI k))]) dX4_isHeld_108 (Nat.le_of_ble_eq_true rfl) rfl ?_
          refine v_iincN (lv' := [(0, .ref 60), (1, .int (nI r)), (2, .int (nI (pt T r 0))), (3, .int s), (4, .int (oI (otO T s (k + 1)))), (5, .int (bI (otB T s (k + 1) = true))), (6, .int (nI (k + 1)))]) dX4_isHeld_110 rfl (Nat.le_of_ble_eq_true rfl) rfl ?_
          refine v_goto (tgt := 54) dX4_isHeld_113 (by decide) ?_
          exact ih (k + 1) (by omega)
        · have e81 : ¬ otO T s k = none := fun q => c81 ((oI_none (otO_b hW (by omega))).mpr q)
          refine v_iload dX4_isHeld_84 rfl ?_
          refine v_aload_n dX4_isHeld_86 rfl ?_
          refine v_iload dX4_isHeld_87 rfl ?_
          refine v_callVr (x := .int (nI (ck T k))) (M1 := M) (as := [.int (nI k)]) (st := [.int (oI (otO T s k))]) dX4_isHeld_89 ml_X4_88 kv_X4_clock ⟨by decide, rfl, by decide⟩ ⟨(Nat.le_of_ble_eq_true rfl), (Nat.le_of_ble_eq_true rfl)⟩ rfl (Nat.le_of_ble_eq_true rfl) rfl (Nat.le_of_ble_eq_true rfl) (c_clock hM hW (by omega)) ?_
          refine v_icmp_ne (tgt := 99) dX4_isHeld_92 (by decide) (fun c92 => ?_) (fun c92 => ?_)
          · have e92 : ¬ otO T s k = some (ck T k) := fun q => c92 ((oI_some (otO_b hW (by omega)) (by have := hW.ck2 (n := k) (by omega); omega)).mpr q)
            refine v_iconst (v := (nI 0)) dX4_isHeld_99 rfl ?_
            refine v_top (y := (bI (otB T s (k + 1) = true))) ((bI_f (by simp [otB, *])).symm) ?_
            refine v_istore (lv' := [(0, .ref 60), (1, .int (nI r)), (2, .int (nI (pt T r 0))), (3, .int s), (4, .int (oI (otO T s k))), (5, .int (bI (otB T s (k + 1) = true))), (6, .int (nI k))]) dX4_isHeld_100 (Nat.le_of_ble_eq_true rfl) rfl ?_
            refine v_aload_n dX4_isHeld_102 rfl ?_
            refine v_iload dX4_isHeld_103 rfl ?_
            refine v_callVr (x := .int (nI (ck T k))) (M1 := M) (as := [.int (nI k)]) (st := []) dX4_isHeld_105 ml_X4_88 kv_X4_clock ⟨by decide, rfl, by decide⟩ ⟨(Nat.le_of_ble_eq_true rfl), (Nat.le_of_ble_eq_true rfl)⟩ rfl (Nat.le_of_ble_eq_true rfl) rfl (Nat.le_of_ble_eq_true rfl) (c_clock hM hW (by omega)) ?_
            refine v_top (y := (oI (otO T s (k + 1)))) (by simp [otO, oI, c69]) ?_
            refine v_istore (lv' := [(0, .ref 60), (1, .int (nI r)), (2, .int (nI (pt T r 0))), (3, .int s), (4, .int (oI (otO T s (k + 1)))), (5, .int (bI (otB T s (k + 1) = true))), (6, .int (nI k))]) dX4_isHeld_108 (Nat.le_of_ble_eq_true rfl) rfl ?_
            refine v_iincN (lv' := [(0, .ref 60), (1, .int (nI r)), (2, .int (nI (pt T r 0))), (3, .int s), (4, .int (oI (otO T s (k + 1)))), (5, .int (bI (otB T s (k + 1) = true))), (6, .int (nI (k + 1)))]) dX4_isHeld_110 rfl (Nat.le_of_ble_eq_true rfl) rfl ?_
            refine v_goto (tgt := 54) dX4_isHeld_113 (by decide) ?_
            exact ih (k + 1) (by omega)
          · have e92 : otO T s k = some (ck T k) := (oI_some (otO_b hW (by omega)) (by have := hW.ck2 (n := k) (by omega); omega)).mp c92
            refine v_iconst (v := (nI 1)) dX4_isHeld_95 rfl ?_
            refine v_goto (tgt := 100) dX4_isHeld_96 (by decide) ?_
            refine v_top (y := (bI (otB T s (k + 1) = true))) ((bI_t (by simp [otB, *])).symm) ?_
            refine v_istore (lv' := [(0, .ref 60), (1, .int (nI r)), (2, .int (nI (pt T r 0))), (3, .int s), (4, .int (oI (otO T s k))), (5, .int (bI (otB T s (k + 1) = true))), (6, .int (nI k))]) dX4_isHeld_100 (Nat.le_of_ble_eq_true rfl) rfl ?_
            refine v_aload_n dX4_isHeld_102 rfl ?_
            refine v_iload dX4_isHeld_103 rfl ?_
            refine v_callVr (x := .int (nI (ck T k))) (M1 := M) (as := [.int (nI k)]) (st := []) dX4_isHeld_105 ml_X4_88 kv_X4_clock ⟨by decide, rfl, by decide⟩ ⟨(Nat.le_of_ble_eq_true rfl), (Nat.le_of_ble_eq_true rfl)⟩ rfl (Nat.le_of_ble_eq_true rfl) rfl (Nat.le_of_ble_eq_true rfl) (c_clock hM hW (by omega)) ?_
            refine v_top (y := (oI (otO T s (k + 1)))) (by simp [otO, oI, c69]) ?_
            refine v_istore (lv' := [(0, .ref 60), (1, .int (nI r)), (2, .int (nI (pt T r 0))), (3, .int s), (4, .int (oI (otO T s (k + 1)))), (5, .int (bI (otB T s (k + 1) = true))), (6, .int (nI k))]) dX4_isHeld_108 (Nat.le_of_ble_eq_true rfl) rfl ?_
            refine v_iincN (lv' := [(0, .ref 60), (1, .int (nI r)), (2, .int (nI (pt T r 0))), (3, .int s), (4, .int (oI (otO T s (k + 1)))), (5, .int (bI (otB T s (k + 1) = true))), (6, .int (nI (k + 1)))]) dX4_isHeld_110 rfl (Nat.le_of_ble_eq_true rfl) rfl ?_
            refine v_goto (tgt := 54) dX4_isHeld_113 (by decide) ?_
            exact ih (k + 1) (by omega)
set_option maxRecDepth 100000 in
theorem l_held2 {nd : Nat} (hM : M0 61 = T) (hW : WF T) (hnd : M0 63 0 = nI nd) (hnb : nd < 2 ^ 31) {r : Nat} (hr : r < nN T) {s b : Int32} {ot : Option Nat} {ob : Bool} (hot : ∀ n, ot = some n → n < 2 ^ 31) (d : Nat) : ∀ (q : Nat) (M : vM), q + d = nN T → sc M0 M → V kX4_isHeld (rs (.int (bI ((hbB T nd r b ot (nN T) && ob) = true))) M0) M 139 [(0, .ref 60), (1, .int (nI r)), (2, .int (nI (pt T r 0))), (3, .int s), (4, .int (oI ot)), (5, .int (bI (ob = true))), (6, .int b), (7, .int (bI (hbB T nd r b ot q = true))), (8, .int (nI q))] [] := by
  have h16 := hW.n16
  induction d with
  | zero =>
    intro q M hk hs
    refine v_iload dX4_isHeld_139 rfl ?_
    refine v_aload_n dX4_isHeld_141 rfl ?_
    refine v_callVr (x := .int (nI (nN T))) (M1 := M) (as := []) (st := [.int (nI q)]) dX4_isHeld_142 ml_X4_52 kv_X4_many ⟨by decide, rfl, by decide⟩ ⟨(Nat.le_of_ble_eq_true rfl), (Nat.le_of_ble_eq_true rfl)⟩ rfl (Nat.le_of_ble_eq_true rfl) rfl (Nat.le_of_ble_eq_true rfl) (c_many (scT hs hM) hW) ?_
    refine v_icmpN_ge (tgt := 225) dX4_isHeld_145 (by decide) (by omega) (by omega) (fun c145 => ?_) (fun c145 => (by omega))
    refine v_iload dX4_isHeld_225 rfl ?_
    refine v_ifB_eq (tgt := 239) dX4_isHeld_227 (by decide) (fun c227 => ?_) (fun c227 => ?_)
    · refine v_iconst (v := (nI 0)) dX4_isHeld_239 rfl ?_
      refine v_zret dX4_isHeld_240 rfl (Or.inl rfl) ?_
      refine ⟨?_, hs⟩
      rw [bI_f (by rw [show nN T = q by omega]; simp [*])]; rfl
    · refine v_iload dX4_isHeld_230 rfl ?_
      refine v_ifB_eq (tgt := 239) dX4_isHeld_232 (by decide) (fun c232 => ?_) (fun c232 => ?_)
      · refine v_iconst (v := (nI 0)) dX4_isHeld_239 rfl ?_
        refine v_zret dX4_isHeld_240 rfl (Or.inl rfl) ?_
        refine ⟨?_, hs⟩
        rw [bI_f (by rw [show nN T = q by omega]; simp [*])]; rfl
      · refine v_iconst (v := (nI 1)) dX4_isHeld_235 rfl ?_
        refine v_goto (tgt := 240) dX4_isHeld_236 (by decide) ?_
        refine v_zret dX4_isHeld_240 rfl (Or.inr rfl) ?_
        refine ⟨?_, hs⟩
        rw [bI_t (by rw [show nN T = q by omega]; simp [*])]; rfl
  | succ d ih =>
    intro q M hk hs
    refine v_iload dX4_isHeld_139 rfl ?_
    refine v_aload_n dX4_isHeld_141 rfl ?_
    refine v_callVr (x := .int (nI (nN T))) (M1 := M) (as := []) (st := [.int (nI q)]) dX4_isHeld_142 ml_X4_52 kv_X4_many ⟨by decide, rfl, by decide⟩ ⟨(Nat.le_of_ble_eq_true rfl), (Nat.le_of_ble_eq_true rfl)⟩ rfl (Nat.le_of_ble_eq_true rfl) rfl (Nat.le_of_ble_eq_true rfl) (c_many (scT hs hM) hW) ?_
    refine v_icmpN_ge (tgt := 225) dX4_isHeld_145 (by decide) (by omega) (by omega) (fun c145 => (by omega)) (fun c145 => ?_)
    refine v_iload dX4_isHeld_148 rfl ?_
    refine v_ifB_ne (tgt := 212) dX4_isHeld_150 (by decide) (fun c150 => ?_) (fun c150 => ?_)
    · refine v_iconst (v := (nI 1)) dX4_isHeld_212 rfl ?_
      refine v_goto (tgt := 217) dX4_isHeld_213 (by decide) ?_
      refine v_top (y := (bI (hbB T nd r b ot (q + 1) = true))) ((bI_t (by simp [hbB, *])).symm) ?_
      refine v_istore (lv' := [(0, .ref 60), (1, .int (nI r)), (2, .int (nI (pt T r 0))), (3, .int s), (4, .int (oI ot)), (5, .int (bI (ob = true))), (6, .int b), (7, .int (bI (hbB T nd r b ot (q + 1) = true))), (8, .int (nI q))]) dX4_isHeld_217 (Nat.le_of_ble_eq_true rfl) rfl ?_
      refine v_iincN (lv' := [(0, .ref 60), (1, .int (nI r)), (2, .int (nI (pt T r 0))), (3, .int s), (4, .int (oI ot)), (5, .int (bI (ob = true))), (6, .int b), (7, .int (bI (hbB T nd r b ot (q + 1) = true))), (8, .int (nI (q + 1)))]) dX4_isHeld_219 rfl (Nat.le_of_ble_eq_true rfl) rfl ?_
      refine v_goto (tgt := 139) dX4_isHeld_222 (by decide) ?_
      exact ih (q + 1) _ (by omega) hs
    · refine v_iload dX4_isHeld_153 rfl ?_
      refine v_iload dX4_isHeld_155 rfl ?_
      refine v_callSr (x := .int (bI (bt b q = true))) (M1 := M) (as := [.int b, .int (nI q)]) (st := []) dX4_isHeld_157 ml_X4_84 ks_X4_has ⟨(Nat.le_of_ble_eq_true rfl), (Nat.le_of_ble_eq_true rfl)⟩ rfl (Nat.le_of_ble_eq_true rfl) rfl (Nat.le_of_ble_eq_true rfl) (c_has _ (by omega)) ?_
      refine v_ifB_eq (tgt := 216) dX4_isHeld_160 (by decide) (fun c160 => ?_) (fun c160 => ?_)
      · refine v_iconst (v := (nI 0)) dX4_isHeld_216 rfl ?_
        refine v_top (y := (bI (hbB T nd r b ot (q + 1) = true))) ((bI_f (by simp [hbB, *])).symm) ?_
        refine v_istore (lv' := [(0, .ref 60), (1, .int (nI r)), (2, .int (nI (pt T r 0))), (3, .int s), (4, .int (oI ot)), (5, .int (bI (ob = true))), (6, .int b), (7, .int (bI (hbB T nd r b ot (q + 1) = true))), (8, .int (nI q))]) dX4_isHeld_217 (Nat.le_of_ble_eq_true rfl) rfl ?_
        refine v_iincN (lv' := [(0, .ref 60), (1, .int (nI r)), (2, .int (nI (pt T r 0))), (3, .int s), (4, .int (oI ot)), (5, .int (bI (ob = true))), (6, .int b), (7, .int (bI (hbB T nd r b ot (q + 1) = true))), (8, .int (nI (q + 1)))]) dX4_isHeld_219 rfl (Nat.le_of_ble_eq_true rfl) rfl ?_
        refine v_goto (tgt := 139) dX4_isHeld_222 (by decide) ?_
        exact ih (q + 1) _ (by omega) hs
      · refine v_aload_n dX4_isHeld_163 rfl ?_
        refine v_iload dX4_isHeld_164 rfl ?_
        refine v_callVr (x := .int (nI (so T q))) (M1 := M) (as := [.int (nI q)]) (st := []) dX4_isHeld_166 ml_X4_64 kv_X4_sort ⟨by decide, rfl, by decide⟩ ⟨(Nat.le_of_ble_eq_true rfl), (Nat.le_of_ble_eq_true rfl)⟩ rfl (Nat.le_of_ble_eq_true rfl) rfl (Nat.le_of_ble_eq_true rfl) (c_sort (scT hs hM) hW (by omega)) ?_
        refine v_iconst (v := (nI 1)) dX4_isHeld_169 rfl ?_
        refine v_icmpN_ne (tgt := 216) dX4_isHeld_170 (by decide) (by have := hW.so5 (n := q) (by omega); omega) (by omega) (fun c170 => ?_) (fun c170 => ?_)
        · refine v_iconst (v := (nI 0)) dX4_isHeld_216 rfl ?_
          refine v_top (y := (bI (hbB T nd r b ot (q + 1) = true))) ((bI_f (by simp [hbB, *])).symm) ?_
          refine v_istore (lv' := [(0, .ref 60), (1, .int (nI r)), (2, .int (nI (pt T r 0))), (3, .int s), (4, .int (oI ot)), (5, .int (bI (ob = true))), (6, .int b), (7, .int (bI (hbB T nd r b ot (q + 1) = true))), (8, .int (nI q))]) dX4_isHeld_217 (Nat.le_of_ble_eq_true rfl) rfl ?_
          refine v_iincN (lv' := [(0, .ref 60), (1, .int (nI r)), (2, .int (nI (pt T r 0))), (3, .int s), (4, .int (oI ot)), (5, .int (bI (ob = true))), (6, .int b), (7, .int (bI (hbB T nd r b ot (q + 1) = true))), (8, .int (nI (q + 1)))]) dX4_isHeld_219 rfl (Nat.le_of_ble_eq_true rfl) rfl ?_
          refine v_goto (tgt := 139) dX4_isHeld_222 (by decide) ?_
          exact ih (q + 1) _ (by omega) hs
        · refine v_aload_n dX4_isHeld_173 rfl ?_
          refine v_iload dX4_isHeld_174 rfl ?_
          refine v_callVr (x := .int (nI (ck T q))) (M1 := M) (as := [.int (nI q)]) (st := []) dX4_isHeld_176 ml_X4_88 kv_X4_clock ⟨by decide, rfl, by decide⟩ ⟨(Nat.le_of_ble_eq_true rfl), (Nat.le_of_ble_eq_true rfl)⟩ rfl (Nat.le_of_ble_eq_true rfl) rfl (Nat.le_of_ble_eq_true rfl) (c_clock (scT hs hM) hW (by omega)) ?_
          refine v_aload_n dX4_isHeld_179 rfl ?_
          refine v_iload_n dX4_isHeld_180 rfl ?_
          refine v_callVr (x := .int (nI (ck T r))) (M1 := M) (as := [.int (nI r)]) (st := [.int (nI (ck T q))]) dX4_isHeld_181 ml_X4_88 kv_X4_clock ⟨by decide, rfl, by decide⟩ ⟨(Nat.le_of_ble_eq_true rfl), (Nat.le_of_ble_eq_true rfl)⟩ rfl (Nat.le_of_ble_eq_true rfl) rfl (Nat.le_of_ble_eq_true rfl) (c_clock (scT hs hM) hW (by omega)) ?_
          refine v_icmpN_ne (tgt := 216) dX4_isHeld_184 (by decide) (by have := hW.ck2 (n := q) (by omega); omega) (by have := hW.ck2 (n := r) (by omega); omega) (fun c184 => ?_) (fun c184 => ?_)
          · refine v_iconst (v := (nI 0)) dX4_isHeld_216 rfl ?_
            refine v_top (y := (bI (hbB T nd r b ot (q + 1) = true))) ((bI_f (by simp [hbB, *])).symm) ?_
            refine v_istore (lv' := [(0, .ref 60), (1, .int (nI r)), (2, .int (nI (pt T r 0))), (3, .int s), (4, .int (oI ot)), (5, .int (bI (ob = true))), (6, .int b), (7, .int (bI (hbB T nd r b ot (q + 1) = true))), (8, .int (nI q))]) dX4_isHeld_217 (Nat.le_of_ble_eq_true rfl) rfl ?_
            refine v_iincN (lv' := [(0, .ref 60), (1, .int (nI r)), (2, .int (nI (pt T r 0))), (3, .int s), (4, .int (oI ot)), (5, .int (bI (ob = true))), (6, .int b), (7, .int (bI (hbB T nd r b ot (q + 1) = true))), (8, .int (nI (q + 1)))]) dX4_isHeld_219 rfl (Nat.le_of_ble_eq_true rfl) rfl ?_
            refine v_goto (tgt := 139) dX4_isHeld_222 (by decide) ?_
            exact ih (q + 1) _ (by omega) hs
          · refine v_aload_n dX4_isHeld_187 rfl ?_
            refine v_iload dX4_isHeld_188 rfl ?_
            refine v_callV (as := [.int (nI q)]) (st := []) dX4_isHeld_190 ml_X4_112 kv_X4_isSafe ⟨by decide, rfl, by decide⟩ ⟨(Nat.le_of_ble_eq_true rfl), (Nat.le_of_ble_eq_true rfl)⟩ rfl (Nat.le_of_ble_eq_true rfl) rfl (Nat.le_of_ble_eq_true rfl) (c_isSafe hs hM hW hnd hnb (by omega) (by assumption)) (fun v M hq => ?_)
            obtain ⟨rfl, hs⟩ := hq
            refine v_ifB_eq (tgt := 216) dX4_isHeld_193 (by decide) (fun c193 => ?_) (fun c193 => ?_)
            · refine v_iconst (v := (nI 0)) dX4_isHeld_216 rfl ?_
              refine v_top (y := (bI (hbB T nd r b ot (q + 1) = true))) ((bI_f (by simp [hbB, *])).symm) ?_
              refine v_istore (lv' := [(0, .ref 60), (1, .int (nI r)), (2, .int (nI (pt T r 0))), (3, .int s), (4, .int (oI ot)), (5, .int (bI (ob = true))), (6, .int b), (7, .int (bI (hbB T nd r b ot (q + 1) = true))), (8, .int (nI q))]) dX4_isHeld_217 (Nat.le_of_ble_eq_true rfl) rfl ?_
              refine v_iincN (lv' := [(0, .ref 60), (1, .int (nI r)), (2, .int (nI (pt T r 0))), (3, .int s), (4, .int (oI ot)), (5, .int (bI (ob = true))), (6, .int b), (7, .int (bI (hbB T nd r b ot (q + 1) = true))), (8, .int (nI (q + 1)))]) dX4_isHeld_219 rfl (Nat.le_of_ble_eq_true rfl) rfl ?_
              refine v_goto (tgt := 139) dX4_isHeld_222 (by decide) ?_
              exact ih (q + 1) _ (by omega) hs
            · refine v_aload_n dX4_isHeld_196 rfl ?_
              refine v_aload_n dX4_isHeld_197 rfl ?_
              refine v_iload dX4_isHeld_198 rfl ?_
              refine v_iconst (v := (nI 0)) dX4_isHeld_200 rfl ?_
              have hm2 := hm_reg c170
              have hp2 := hW.ptlt (n := q) (by omega) (show 0 < hmF (so T q) by omega)
              refine v_callVr (x := .int (nI (pt T q 0))) (M1 := M) (as := [.int (nI q), .int (nI 0)]) (st := [.ref 60]) dX4_isHeld_201 ml_X4_71 kv_X4_of ⟨by decide, rfl, by decide⟩ ⟨(Nat.le_of_ble_eq_true rfl), (Nat.le_of_ble_eq_true rfl)⟩ rfl (Nat.le_of_ble_eq_true rfl) rfl (Nat.le_of_ble_eq_true rfl) (c_of (scT hs hM) hW (by omega) (by omega)) ?_
              refine v_callVr (x := .int (nI (ck T (pt T q 0)))) (M1 := M) (as := [.int (nI (pt T q 0))]) (st := []) dX4_isHeld_204 ml_X4_88 kv_X4_clock ⟨by decide, rfl, by decide⟩ ⟨(Nat.le_of_ble_eq_true rfl), (Nat.le_of_ble_eq_true rfl)⟩ rfl (Nat.le_of_ble_eq_true rfl) rfl (Nat.le_of_ble_eq_true rfl) (c_clock (scT hs hM) hW (by omega)) ?_
              refine v_iload dX4_isHeld_207 rfl ?_
              refine v_icmp_ne (tgt := 216) dX4_isHeld_209 (by decide) (fun c209 => ?_) (fun c209 => ?_)
              · have e209 : ¬ ot = some (ck T (pt T q 0)) := fun z => c209 ((oI_some hot (by have := hW.ck2 (n := pt T q 0) (by omega); omega)).mpr z).symm
                refine v_iconst (v := (nI 0)) dX4_isHeld_216 rfl ?_
                refine v_top (y := (bI (hbB T nd r b ot (q + 1) = true))) ((bI_f (by simp [hbB, *])).symm) ?_
                refine v_istore (lv' := [(0, .ref 60), (1, .int (nI r)), (2, .int (nI (pt T r 0))), (3, .int s), (4, .int (oI ot)), (5, .int (bI (ob = true))), (6, .int b), (7, .int (bI (hbB T nd r b ot (q + 1) = true))), (8, .int (nI q))]) dX4_isHeld_217 (Nat.le_of_ble_eq_true rfl) rfl ?_
                refine v_iincN (lv' := [(0, .ref 60), (1, .int (nI r)), (2, .int (nI (pt T r 0))), (3, .int s), (4, .int (oI ot)), (5, .int (bI (ob = true))), (6, .int b), (7, .int (bI (hbB T nd r b ot (q + 1) = true))), (8, .int (nI (q + 1)))]) dX4_isHeld_219 rfl (Nat.le_of_ble_eq_true rfl) rfl ?_
                refine v_goto (tgt := 139) dX4_isHeld_222 (by decide) ?_
                exact ih (q + 1) _ (by omega) hs
              · have e209 : ot = some (ck T (pt T q 0)) := (oI_some hot (by have := hW.ck2 (n := pt T q 0) (by omega); omega)).mp c209.symm
                refine v_iconst (v := (nI 1)) dX4_isHeld_212 rfl ?_
                refine v_goto (tgt := 217) dX4_isHeld_213 (by decide) ?_
                refine v_top (y := (bI (hbB T nd r b ot (q + 1) = true))) ((bI_t (by simp [hbB, *])).symm) ?_
                refine v_istore (lv' := [(0, .ref 60), (1, .int (nI r)), (2, .int (nI (pt T r 0))), (3, .int s), (4, .int (oI ot)), (5, .int (bI (ob = true))), (6, .int b), (7, .int (bI (hbB T nd r b ot (q + 1) = true))), (8, .int (nI q))]) dX4_isHeld_217 (Nat.le_of_ble_eq_true rfl) rfl ?_
                refine v_iincN (lv' := [(0, .ref 60), (1, .int (nI r)), (2, .int (nI (pt T r 0))), (3, .int s), (4, .int (oI ot)), (5, .int (bI (ob = true))), (6, .int b), (7, .int (bI (hbB T nd r b ot (q + 1) = true))), (8, .int (nI (q + 1)))]) dX4_isHeld_219 rfl (Nat.le_of_ble_eq_true rfl) rfl ?_
                refine v_goto (tgt := 139) dX4_isHeld_222 (by decide) ?_
                exact ih (q + 1) _ (by omega) hs
set_option maxRecDepth 100000 in
theorem c_isHeld {nd : Nat} (hs : sc M0 M) (hM : M0 61 = T) (hW : WF T) (hnd : M0 63 0 = nI nd) (hnb : nd < 2 ^ 31) {r : Nat} (hr : r < nN T) (h1 : so T r = 1) : V kX4_isHeld (rs (.int (bI (heldF T nd r = true))) M0) M 0 [(0, .ref 60), (1, .int (nI r))] [] := by
  have h16 := hW.n16
  have hm1 := hm_reg h1
  have hp := hW.ptlt hr (show 0 < hmF (so T r) by omega)
  refine v_aload_n dX4_isHeld_0 rfl ?_
  refine v_iload_n dX4_isHeld_1 rfl ?_
  refine v_iconst (v := (nI 0)) dX4_isHeld_2 rfl ?_
  refine v_callVr (x := .int (nI (pt T r 0))) (M1 := M) (as := [.int (nI r), .int (nI 0)]) (st := []) dX4_isHeld_3 ml_X4_71 kv_X4_of ⟨by decide, rfl, by decide⟩ ⟨(Nat.le_of_ble_eq_true rfl), (Nat.le_of_ble_eq_true rfl)⟩ rfl (Nat.le_of_ble_eq_true rfl) rfl (Nat.le_of_ble_eq_true rfl) (c_of (scT hs hM) hW (by omega) (by omega)) ?_
  refine v_istore_n (lv' := [(0, .ref 60), (1, .int (nI r)), (2, .int (nI (pt T r 0)))]) dX4_isHeld_6 (Nat.le_of_ble_eq_true rfl) rfl ?_
  refine v_aload_n dX4_isHeld_7 rfl ?_
  refine v_iload_n dX4_isHeld_8 rfl ?_
  refine v_callVr (x := .int (nI (so T (pt T r 0)))) (M1 := M) (as := [.int (nI (pt T r 0))]) (st := []) dX4_isHeld_9 ml_X4_64 kv_X4_sort ⟨by decide, rfl, by decide⟩ ⟨(Nat.le_of_ble_eq_true rfl), (Nat.le_of_ble_eq_true rfl)⟩ rfl (Nat.le_of_ble_eq_true rfl) rfl (Nat.le_of_ble_eq_true rfl) (c_sort (scT hs hM) hW (by omega)) ?_
  refine v_iconst (v := (nI 5)) dX4_isHeld_12 rfl ?_
  refine v_icmpN_ne (tgt := 36) dX4_isHeld_13 (by decide) (by have := hW.so5 (n := pt T r 0) (by omega); omega) (by omega) (fun c13 => ?_) (fun c13 => ?_)
  · refine v_iconst (v := (nI 0)) dX4_isHeld_36 rfl ?_
    refine v_zret dX4_isHeld_37 rfl (Or.inl rfl) ?_
    refine ⟨?_, hs⟩
    rw [bI_f (by simp [heldF, bx, *])]; rfl
  · have hm2 : hmF (so T (pt T r 0)) = 3 := by rw [c13]; rfl
    have hp2 := hW.ptlt (n := pt T r 0) (by omega) (show 0 < hmF (so T (pt T r 0)) by omega)
    refine v_aload_n dX4_isHeld_16 rfl ?_
    refine v_aload_n dX4_isHeld_17 rfl ?_
    refine v_iload_n dX4_isHeld_18 rfl ?_
    refine v_iconst (v := (nI 0)) dX4_isHeld_19 rfl ?_
    refine v_callVr (x := .int (nI (pt T (pt T r 0) 0))) (M1 := M) (as := [.int (nI (pt T r 0)), .int (nI 0)]) (st := [.ref 60]) dX4_isHeld_20 ml_X4_71 kv_X4_of ⟨by decide, rfl, by decide⟩ ⟨(Nat.le_of_ble_eq_true rfl), (Nat.le_of_ble_eq_true rfl)⟩ rfl (Nat.le_of_ble_eq_true rfl) rfl (Nat.le_of_ble_eq_true rfl) (c_of (scT hs hM) hW (by omega) (by omega)) ?_
    refine v_callV (as := [.int (nI (pt T (pt T r 0) 0))]) (st := []) dX4_isHeld_23 ml_X4_106 kv_X4_sourcesOf ⟨by decide, rfl, by decide⟩ ⟨(Nat.le_of_ble_eq_true rfl), (Nat.le_of_ble_eq_true rfl)⟩ rfl (Nat.le_of_ble_eq_true rfl) rfl (Nat.le_of_ble_eq_true rfl) (c_sourcesOf hs hM hW (by omega)) (fun v M hq => ?_)
    obtain ⟨rfl, hs⟩ := hq
    refine v_iconst (v := (nI 1)) dX4_isHeld_26 rfl ?_
    refine v_aload_n dX4_isHeld_27 rfl ?_
    refine v_iload_n dX4_isHeld_28 rfl ?_
    refine v_callVr (x := .int (nI (ck T r))) (M1 := M) (as := [.int (nI r)]) (st := [.int (nI 1), .int (srcF T (lvF T (pt T (pt T r 0) 0)))]) dX4_isHeld_29 ml_X4_88 kv_X4_clock ⟨by decide, rfl, by decide⟩ ⟨(Nat.le_of_ble_eq_true rfl), (Nat.le_of_ble_eq_true rfl)⟩ rfl (Nat.le_of_ble_eq_true rfl) rfl (Nat.le_of_ble_eq_true rfl) (c_clock (scT hs hM) hW (by omega)) ?_
    refine v_ishl dX4_isHeld_32 ?_
    refine v_icmp_eq (tgt := 38) dX4_isHeld_33 (by decide) (fun c33 => ?_) (fun c33 => ?_)
    · refine v_aload_n dX4_isHeld_38 rfl ?_
      refine v_iload_n dX4_isHeld_39 rfl ?_
      refine v_callV (as := [.int (nI r)]) (st := []) dX4_isHeld_40 ml_X4_91 kv_X4_foreign ⟨by decide, rfl, by decide⟩ ⟨(Nat.le_of_ble_eq_true rfl), (Nat.le_of_ble_eq_true rfl)⟩ rfl (Nat.le_of_ble_eq_true rfl) rfl (Nat.le_of_ble_eq_true rfl) (c_foreign hs hM hW (by omega) (by assumption)) (fun v M hq => ?_)
      obtain ⟨rfl, hs⟩ := hq
      refine v_istore_n (lv' := [(0, .ref 60), (1, .int (nI r)), (2, .int (nI (pt T r 0))), (3, .int (frF T r))]) dX4_isHeld_43 (Nat.le_of_ble_eq_true rfl) rfl ?_
      refine v_bipush (v := (-9)) dX4_isHeld_44 (by decide) ?_
      refine v_istore (lv' := [(0, .ref 60), (1, .int (nI r)), (2, .int (nI (pt T r 0))), (3, .int (frF T r)), (4, .int ((-9)))]) dX4_isHeld_46 (Nat.le_of_ble_eq_true rfl) rfl ?_
      refine v_iconst (v := (nI 1)) dX4_isHeld_48 rfl ?_
      refine v_istore (lv' := [(0, .ref 60), (1, .int (nI r)), (2, .int (nI (pt T r 0))), (3, .int (frF T r)), (4, .int ((-9))), (5, .int (nI 1))]) dX4_isHeld_49 (Nat.le_of_ble_eq_true rfl) rfl ?_
      refine v_iconst (v := (nI 0)) dX4_isHeld_51 rfl ?_
      refine v_istore (lv' := [(0, .ref 60), (1, .int (nI r)), (2, .int (nI (pt T r 0))), (3, .int (frF T r)), (4, .int ((-9))), (5, .int (nI 1)), (6, .int (nI 0))]) dX4_isHeld_52 (Nat.le_of_ble_eq_true rfl) rfl ?_
      refine l_held1 (scT hs hM) hW ?_ (nN T) 0 (by omega)
      refine v_aload_n dX4_isHeld_116 rfl ?_
      refine v_aload_n dX4_isHeld_117 rfl ?_
      refine v_iload_n dX4_isHeld_118 rfl ?_
      refine v_iconst (v := (nI 0)) dX4_isHeld_119 rfl ?_
      refine v_callVr (x := .int (nI (pt T (pt T r 0) 0))) (M1 := M) (as := [.int (nI (pt T r 0)), .int (nI 0)]) (st := [.ref 60]) dX4_isHeld_120 ml_X4_71 kv_X4_of ⟨by decide, rfl, by decide⟩ ⟨(Nat.le_of_ble_eq_true rfl), (Nat.le_of_ble_eq_true rfl)⟩ rfl (Nat.le_of_ble_eq_true rfl) rfl (Nat.le_of_ble_eq_true rfl) (c_of (scT hs hM) hW (by omega) (by omega)) ?_
      refine v_aload_n dX4_isHeld_123 rfl ?_
      refine v_iload_n dX4_isHeld_124 rfl ?_
      refine v_callVr (x := .int (nI (ck T r))) (M1 := M) (as := [.int (nI r)]) (st := [.int (nI (pt T (pt T r 0) 0)), .ref 60]) dX4_isHeld_125 ml_X4_88 kv_X4_clock ⟨by decide, rfl, by decide⟩ ⟨(Nat.le_of_ble_eq_true rfl), (Nat.le_of_ble_eq_true rfl)⟩ rfl (Nat.le_of_ble_eq_true rfl) rfl (Nat.le_of_ble_eq_true rfl) (c_clock (scT hs hM) hW (by omega)) ?_
      have hck := hW.ck2 hr
      refine v_callVr (x := .int (bkF T (ck T r) (pt T (pt T r 0) 0))) (M1 := M) (as := [.int (nI (pt T (pt T r 0) 0)), .int (nI (ck T r))]) (st := []) dX4_isHeld_128 ml_X4_109 kv_X4_backFrom ⟨by decide, rfl, by decide⟩ ⟨(Nat.le_of_ble_eq_true rfl), (Nat.le_of_ble_eq_true rfl)⟩ rfl (Nat.le_of_ble_eq_true rfl) rfl (Nat.le_of_ble_eq_true rfl) (c_backFrom (scT hs hM) hW (by omega) (by omega)) ?_
      refine v_istore (lv' := [(0, .ref 60), (1, .int (nI r)), (2, .int (nI (pt T r 0))), (3, .int (frF T r)), (4, .int (oI (otO T (frF T r) (nN T)))), (5, .int (bI (otB T (frF T r) (nN T) = true))), (6, .int (bkF T (ck T r) (pt T (pt T r 0) 0)))]) dX4_isHeld_131 (Nat.le_of_ble_eq_true rfl) rfl ?_
      refine v_iconst (v := (nI 0)) dX4_isHeld_133 rfl ?_
      refine v_istore (lv' := [(0, .ref 60), (1, .int (nI r)), (2, .int (nI (pt T r 0))), (3, .int (frF T r)), (4, .int (oI (otO T (frF T r) (nN T)))), (5, .int (bI (otB T (frF T r) (nN T) = true))), (6, .int (bkF T (ck T r) (pt T (pt T r 0) 0))), (7, .int (nI 0))]) dX4_isHeld_134 (Nat.le_of_ble_eq_true rfl) rfl ?_
      refine v_iconst (v := (nI 0)) dX4_isHeld_136 rfl ?_
      refine v_istore (lv' := [(0, .ref 60), (1, .int (nI r)), (2, .int (nI (pt T r 0))), (3, .int (frF T r)), (4, .int (oI (otO T (frF T r) (nN T)))), (5, .int (bI (otB T (frF T r) (nN T) = true))), (6, .int (bkF T (ck T r) (pt T (pt T r 0) 0))), (7, .int (nI 0)), (8, .int (nI 0))]) dX4_isHeld_137 (Nat.le_of_ble_eq_true rfl) rfl ?_
      have e : heldF T nd r = (hbB T nd r (bkF T (ck T r) (pt T (pt T r 0) 0)) (otO T (frF T r) (nN T)) (nN T) && otB T (frF T r) (nN T)) := by
        have c33' : srcF T (lvF T (pt T (pt T r 0) 0)) = bx (ck T r) := c33
        simp [heldF, c13, c33']
      rw [e]
      refine v_sub (lv' := [(0, .ref 60), (1, .int (nI r)), (2, .int (nI (pt T r 0))), (3, .int (frF T r)), (4, .int (oI (otO T (frF T r) (nN T)))), (5, .int (bI (otB T (frF T r) (nN T) = true))), (6, .int (bkF T (ck T r) (pt T (pt T r 0) 0))), (7, .int (bI (false = true))), (8, .int (nI 0))]) ?_ ?_
      · intro q hq; simp at hq; rcases hq with rfl | rfl | rfl | rfl | rfl | rfl | rfl | rfl | rfl <;> rfl
      exact l_held2 hM hW hnd hnb hr (otO_b hW (Nat.le_refl _)) (nN T) 0 _ (by omega) hs
    · refine v_iconst (v := (nI 0)) dX4_isHeld_36 rfl ?_
      refine v_zret dX4_isHeld_37 rfl (Or.inl rfl) ?_
      refine ⟨?_, hs⟩
      rw [bI_f (by simp [heldF, bx, *])]; rfl
end R15
