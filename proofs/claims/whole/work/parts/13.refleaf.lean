section R13
variable {M M0 : vM} {T : Nat → Int32}
set_option maxRecDepth 100000 in
theorem c_isNode (hM : M 61 = T) (hW : WF T) (x : Int32) : V kX4_isNode (rt (.int (bI (nI 0 ≤ x ∧ x ≤ nI (nN T) - nI 1))) M) M 0 [(0, .ref 60), (1, .int x)] [] := by
  have h16 := hW.n16
  refine v_iload_n dX4_isNode_0 rfl ?_
  refine v_iconst (v := (nI 0)) dX4_isNode_1 rfl ?_
  refine v_aload_n dX4_isNode_2 rfl ?_
  refine v_callVr (x := .int (nI (nN T))) (M1 := M) (as := []) (st := [.int (nI 0), .int x]) dX4_isNode_3 ml_X4_52 kv_X4_many ⟨by decide, rfl, by decide⟩ ⟨(Nat.le_of_ble_eq_true rfl), (Nat.le_of_ble_eq_true rfl)⟩ rfl (Nat.le_of_ble_eq_true rfl) rfl (Nat.le_of_ble_eq_true rfl) (c_many hM hW) ?_
  refine v_iconst (v := (nI 1)) dX4_isNode_6 rfl ?_
  refine v_isub dX4_isNode_7 ?_
  refine v_callSr (x := .int (bI (nI 0 ≤ x ∧ x ≤ nI (nN T) - nI 1))) (M1 := M) (as := [.int x, .int (nI 0), .int ((nI (nN T)) - (nI 1))]) (st := []) dX4_isNode_8 ml_X4_56 ks_X4_in ⟨(Nat.le_of_ble_eq_true rfl), (Nat.le_of_ble_eq_true rfl)⟩ rfl (Nat.le_of_ble_eq_true rfl) rfl (Nat.le_of_ble_eq_true rfl) (c_in _ _ _) ?_
  refine v_bret dX4_isNode_11 rfl ?_
  exact ⟨rfl, rfl⟩
set_option maxRecDepth 100000 in
theorem c_isRegister0 (hM : M 61 = T) (hW : WF T) {x : Int32} (hx : ¬ isN T x) : V kX4_isRegister (rt (.int (nI 0)) M) M 0 [(0, .ref 60), (1, .int x)] [] := by
  have h16 := hW.n16
  refine v_aload_n dX4_isRegister_0 rfl ?_
  refine v_iload_n dX4_isRegister_1 rfl ?_
  refine v_callVr (x := .int (bI (nI 0 ≤ x ∧ x ≤ nI (nN T) - nI 1))) (M1 := M) (as := [.int x]) (st := []) dX4_isRegister_2 ml_X4_60 kv_X4_isNode ⟨by decide, rfl, by decide⟩ ⟨(Nat.le_of_ble_eq_true rfl), (Nat.le_of_ble_eq_true rfl)⟩ rfl (Nat.le_of_ble_eq_true rfl) rfl (Nat.le_of_ble_eq_true rfl) (c_isNode hM hW _) ?_
  refine v_ifB_eq (tgt := 21) dX4_isRegister_5 (by decide) (fun c5 => ?_) (fun c5 => (absurd ((isN_sub hW).mp c5) hx))
  refine v_iconst (v := (nI 0)) dX4_isRegister_21 rfl ?_
  refine v_zret dX4_isRegister_22 rfl (Or.inl rfl) ?_
  exact ⟨rfl, rfl⟩
set_option maxRecDepth 100000 in
theorem c_isRegister (hM : M 61 = T) (hW : WF T) {n : Nat} (hn : n < nN T) : V kX4_isRegister (rt (.int (bI (so T n = 1))) M) M 0 [(0, .ref 60), (1, .int (nI n))] [] := by
  have h16 := hW.n16
  refine v_aload_n dX4_isRegister_0 rfl ?_
  refine v_iload_n dX4_isRegister_1 rfl ?_
  refine v_callVr (x := .int (bI (nI 0 ≤ (nI n) ∧ (nI n) ≤ nI (nN T) - nI 1))) (M1 := M) (as := [.int (nI n)]) (st := []) dX4_isRegister_2 ml_X4_60 kv_X4_isNode ⟨by decide, rfl, by decide⟩ ⟨(Nat.le_of_ble_eq_true rfl), (Nat.le_of_ble_eq_true rfl)⟩ rfl (Nat.le_of_ble_eq_true rfl) rfl (Nat.le_of_ble_eq_true rfl) (c_isNode hM hW _) ?_
  refine v_ifB_eq (tgt := 21) dX4_isRegister_5 (by decide) (fun c5 => (absurd ((isN_sub hW).mpr ((isN_nI h16).mpr ⟨n, hn, rfl⟩)) c5)) (fun c5 => ?_)
  refine v_aload_n dX4_isRegister_8 rfl ?_
  refine v_iload_n dX4_isRegister_9 rfl ?_
  refine v_callVr (x := .int (nI (so T n))) (M1 := M) (as := [.int (nI n)]) (st := []) dX4_isRegister_10 ml_X4_64 kv_X4_sort ⟨by decide, rfl, by decide⟩ ⟨(Nat.le_of_ble_eq_true rfl), (Nat.le_of_ble_eq_true rfl)⟩ rfl (Nat.le_of_ble_eq_true rfl) rfl (Nat.le_of_ble_eq_true rfl) (c_sort hM hW (by omega)) ?_
  refine v_iconst (v := (nI 1)) dX4_isRegister_13 rfl ?_
  refine v_icmpN_ne (tgt := 21) dX4_isRegister_14 (by decide) (by have := hW.so5 hn; omega) (by omega) (fun c14 => ?_) (fun c14 => ?_)
  · refine v_iconst (v := (nI 0)) dX4_isRegister_21 rfl ?_
    refine v_zret dX4_isRegister_22 rfl (Or.inl rfl) ?_
    refine ⟨?_, rfl⟩
    rw [bI_f (by omega)]; rfl
  · refine v_iconst (v := (nI 1)) dX4_isRegister_17 rfl ?_
    refine v_goto (tgt := 22) dX4_isRegister_18 (by decide) ?_
    refine v_zret dX4_isRegister_22 rfl (Or.inr rfl) ?_
    refine ⟨?_, rfl⟩
    rw [bI_t (by omega)]; rfl
set_option maxRecDepth 100000 in
theorem c_isInput0 (hM : M 61 = T) (hW : WF T) {x : Int32} (hx : ¬ isN T x) : V kX4_isInput (rt (.int (nI 0)) M) M 0 [(0, .ref 60), (1, .int x)] [] := by
  have h16 := hW.n16
  refine v_aload_n dX4_isInput_0 rfl ?_
  refine v_iload_n dX4_isInput_1 rfl ?_
  refine v_callVr (x := .int (bI (nI 0 ≤ x ∧ x ≤ nI (nN T) - nI 1))) (M1 := M) (as := [.int x]) (st := []) dX4_isInput_2 ml_X4_60 kv_X4_isNode ⟨by decide, rfl, by decide⟩ ⟨(Nat.le_of_ble_eq_true rfl), (Nat.le_of_ble_eq_true rfl)⟩ rfl (Nat.le_of_ble_eq_true rfl) rfl (Nat.le_of_ble_eq_true rfl) (c_isNode hM hW _) ?_
  refine v_ifB_eq (tgt := 20) dX4_isInput_5 (by decide) (fun c5 => ?_) (fun c5 => (absurd ((isN_sub hW).mp c5) hx))
  refine v_iconst (v := (nI 0)) dX4_isInput_20 rfl ?_
  refine v_zret dX4_isInput_21 rfl (Or.inl rfl) ?_
  exact ⟨rfl, rfl⟩
set_option maxRecDepth 100000 in
theorem c_isInput (hM : M 61 = T) (hW : WF T) {n : Nat} (hn : n < nN T) : V kX4_isInput (rt (.int (bI (so T n = 0))) M) M 0 [(0, .ref 60), (1, .int (nI n))] [] := by
  have h16 := hW.n16
  refine v_aload_n dX4_isInput_0 rfl ?_
  refine v_iload_n dX4_isInput_1 rfl ?_
  refine v_callVr (x := .int (bI (nI 0 ≤ (nI n) ∧ (nI n) ≤ nI (nN T) - nI 1))) (M1 := M) (as := [.int (nI n)]) (st := []) dX4_isInput_2 ml_X4_60 kv_X4_isNode ⟨by decide, rfl, by decide⟩ ⟨(Nat.le_of_ble_eq_true rfl), (Nat.le_of_ble_eq_true rfl)⟩ rfl (Nat.le_of_ble_eq_true rfl) rfl (Nat.le_of_ble_eq_true rfl) (c_isNode hM hW _) ?_
  refine v_ifB_eq (tgt := 20) dX4_isInput_5 (by decide) (fun c5 => (absurd ((isN_sub hW).mpr ((isN_nI h16).mpr ⟨n, hn, rfl⟩)) c5)) (fun c5 => ?_)
  refine v_aload_n dX4_isInput_8 rfl ?_
  refine v_iload_n dX4_isInput_9 rfl ?_
  refine v_callVr (x := .int (nI (so T n))) (M1 := M) (as := [.int (nI n)]) (st := []) dX4_isInput_10 ml_X4_64 kv_X4_sort ⟨by decide, rfl, by decide⟩ ⟨(Nat.le_of_ble_eq_true rfl), (Nat.le_of_ble_eq_true rfl)⟩ rfl (Nat.le_of_ble_eq_true rfl) rfl (Nat.le_of_ble_eq_true rfl) (c_sort hM hW (by omega)) ?_
  refine v_ifN_ne (tgt := 20) dX4_isInput_13 (by decide) (by have := hW.so5 hn; omega) (fun c13 => ?_) (fun c13 => ?_)
  · refine v_iconst (v := (nI 0)) dX4_isInput_20 rfl ?_
    refine v_zret dX4_isInput_21 rfl (Or.inl rfl) ?_
    refine ⟨?_, rfl⟩
    rw [bI_f (by omega)]; rfl
  · refine v_iconst (v := (nI 1)) dX4_isInput_16 rfl ?_
    refine v_goto (tgt := 21) dX4_isInput_17 (by decide) ?_
    refine v_zret dX4_isInput_21 rfl (Or.inr rfl) ?_
    refine ⟨?_, rfl⟩
    rw [bI_t (by omega)]; rfl
set_option maxRecDepth 100000 in
theorem l_often (hM : M 61 = T) (hW : WF T) {n r : Nat} (hn : n < nN T) (hr : r < 16) (d : Nat) : ∀ (k : Nat), k + d = hmF (so T n) → V kX4_often (rt (.int (nI (oft T n r))) M) M 5 [(0, .ref 60), (1, .int (nI n)), (2, .int (nI r)), (3, .int (nI (ofN T n r k))), (4, .int (nI k))] [] := by
  have h16 := hW.n16
  induction d with
  | zero =>
    intro k hk 
    refine v_iload dX4_often_5 rfl ?_
    refine v_aload_n dX4_often_7 rfl ?_
    refine v_iload_n dX4_often_8 rfl ?_
    refine v_callVr (x := .int (nI (so T n))) (M1 := M) (as := [.int (nI n)]) (st := [.int (nI k)]) dX4_often_9 ml_X4_64 kv_X4_sort ⟨by decide, rfl, by decide⟩ ⟨(Nat.le_of_ble_eq_true rfl), (Nat.le_of_ble_eq_true rfl)⟩ rfl (Nat.le_of_ble_eq_true rfl) rfl (Nat.le_of_ble_eq_true rfl) (c_sort hM hW (by omega)) ?_
    refine v_callSr (x := .int (nI (hmF (so T n)))) (M1 := M) (as := [.int (nI (so T n))]) (st := [.int (nI k)]) dX4_often_12 ml_X4_68 ks_X4_hasMany ⟨(Nat.le_of_ble_eq_true rfl), (Nat.le_of_ble_eq_true rfl)⟩ rfl (Nat.le_of_ble_eq_true rfl) rfl (Nat.le_of_ble_eq_true rfl) (c_hasMany (by have := hW.so5 (n := n) (by omega); omega)) ?_
    refine v_icmpN_ge (tgt := 43) dX4_often_15 (by decide) (by have := hmF_le (so T n); omega) (by have := hmF_le (so T n); omega) (fun c15 => ?_) (fun c15 => (by omega))
    refine v_iload_n dX4_often_43 rfl ?_
    refine v_iret dX4_often_44 rfl ?_
    refine ⟨?_, rfl⟩
    rw [show k = hmF (so T n) by omega]; rfl
  | succ d ih =>
    intro k hk 
    refine v_iload dX4_often_5 rfl ?_
    refine v_aload_n dX4_often_7 rfl ?_
    refine v_iload_n dX4_often_8 rfl ?_
    refine v_callVr (x := .int (nI (so T n))) (M1 := M) (as := [.int (nI n)]) (st := [.int (nI k)]) dX4_often_9 ml_X4_64 kv_X4_sort ⟨by decide, rfl, by decide⟩ ⟨(Nat.le_of_ble_eq_true rfl), (Nat.le_of_ble_eq_true rfl)⟩ rfl (Nat.le_of_ble_eq_true rfl) rfl (Nat.le_of_ble_eq_true rfl) (c_sort hM hW (by omega)) ?_
    refine v_callSr (x := .int (nI (hmF (so T n)))) (M1 := M) (as := [.int (nI (so T n))]) (st := [.int (nI k)]) dX4_often_12 ml_X4_68 ks_X4_hasMany ⟨(Nat.le_of_ble_eq_true rfl), (Nat.le_of_ble_eq_true rfl)⟩ rfl (Nat.le_of_ble_eq_true rfl) rfl (Nat.le_of_ble_eq_true rfl) (c_hasMany (by have := hW.so5 (n := n) (by omega); omega)) ?_
    refine v_icmpN_ge (tgt := 43) dX4_often_15 (by decide) (by have := hmF_le (so T n); omega) (by have := hmF_le (so T n); omega) (fun c15 => (by omega)) (fun c15 => ?_)
    refine v_iload_n dX4_often_18 rfl ?_
    refine v_aload_n dX4_often_19 rfl ?_
    refine v_iload_n dX4_often_20 rfl ?_
    refine v_iload dX4_often_21 rfl ?_
    refine v_callVr (x := .int (nI (pt T n k))) (M1 := M) (as := [.int (nI n), .int (nI k)]) (st := [.int (nI (ofN T n r k))]) dX4_often_23 ml_X4_71 kv_X4_of ⟨by decide, rfl, by decide⟩ ⟨(Nat.le_of_ble_eq_true rfl), (Nat.le_of_ble_eq_true rfl)⟩ rfl (Nat.le_of_ble_eq_true rfl) rfl (Nat.le_of_ble_eq_true rfl) (c_of hM hW (by omega) (by omega)) ?_
    refine v_iload_n dX4_often_26 rfl ?_
    refine v_icmpN_ne (tgt := 34) dX4_often_27 (by decide) (by have := hW.ptlt hn c15; omega) (by omega) (fun c27 => ?_) (fun c27 => ?_)
    · refine v_iconst (v := (nI 0)) dX4_often_34 rfl ?_
      refine v_iaddN dX4_often_35 ?_
      refine v_top (y := (nI (ofN T n r (k + 1)))) (by simp [ofN, c27]) ?_
      refine v_istore_n (lv' := [(0, .ref 60), (1, .int (nI n)), (2, .int (nI r)), (3, .int (nI (ofN T n r (k + 1)))), (4, .int (nI k))]) dX4_often_36 (Nat.le_of_ble_eq_true rfl) rfl ?_
      refine v_iincN (lv' := [(0, .ref 60), (1, .int (nI n)), (2, .int (nI r)), (3, .int (nI (ofN T n r (k + 1)))), (4, .int (nI (k + 1)))]) dX4_often_37 rfl (Nat.le_of_ble_eq_true rfl) rfl ?_
      refine v_goto (tgt := 5) dX4_often_40 (by decide) ?_
      exact ih (k + 1) (by omega)
    · refine v_iconst (v := (nI 1)) dX4_often_30 rfl ?_
      refine v_goto (tgt := 35) dX4_often_31 (by decide) ?_
      refine v_iaddN dX4_often_35 ?_
      refine v_top (y := (nI (ofN T n r (k + 1)))) (by simp [ofN, c27]) ?_
      refine v_istore_n (lv' := [(0, .ref 60), (1, .int (nI n)), (2, .int (nI r)), (3, .int (nI (ofN T n r (k + 1)))), (4, .int (nI k))]) dX4_often_36 (Nat.le_of_ble_eq_true rfl) rfl ?_
      refine v_iincN (lv' := [(0, .ref 60), (1, .int (nI n)), (2, .int (nI r)), (3, .int (nI (ofN T n r (k + 1)))), (4, .int (nI (k + 1)))]) dX4_often_37 rfl (Nat.le_of_ble_eq_true rfl) rfl ?_
      refine v_goto (tgt := 5) dX4_often_40 (by decide) ?_
      exact ih (k + 1) (by omega)
set_option maxRecDepth 100000 in
theorem c_often (hM : M 61 = T) (hW : WF T) {n r : Nat} (hn : n < nN T) (hr : r < 16) : V kX4_often (rt (.int (nI (oft T n r))) M) M 0 [(0, .ref 60), (1, .int (nI n)), (2, .int (nI r))] [] := by
  have h16 := hW.n16
  refine v_iconst (v := (nI 0)) dX4_often_0 rfl ?_
  refine v_istore_n (lv' := [(0, .ref 60), (1, .int (nI n)), (2, .int (nI r)), (3, .int (nI 0))]) dX4_often_1 (Nat.le_of_ble_eq_true rfl) rfl ?_
  refine v_iconst (v := (nI 0)) dX4_often_2 rfl ?_
  refine v_istore (lv' := [(0, .ref 60), (1, .int (nI n)), (2, .int (nI r)), (3, .int (nI 0)), (4, .int (nI 0))]) dX4_often_3 (Nat.le_of_ble_eq_true rfl) rfl ?_
  exact l_often hM hW hn hr (hmF (so T n)) 0 (by omega)
set_option maxRecDepth 100000 in
theorem l_find1 {Q : Option Value → vM → Prop} (hM : M0 61 = T) (hW : WF T) {n : Nat} (hn : n < nN T) (hl : ¬ so T n ≤ 1) (post : ∀ M1, sc M0 M1 → (∀ j, j < n + 1 → M1 68 j = lvF T j) → V kX4_findLeaves Q M1 2 [(0, .ref 60), (1, .int (nI (n + 1)))] []) (d : Nat) : ∀ (k : Nat) (M : vM), k + d = hmF (so T n) → sc M0 M → (∀ j, j < n → M 68 j = lvF T j) → M 68 n = lvG T (lvF T) n k → V kX4_findLeaves (Q) M 33 [(0, .ref 60), (1, .int (nI n)), (2, .int (nI k))] [] := by
  have h16 := hW.n16
  induction d with
  | zero =>
    intro k M hk hs hj he
    refine v_iload_n dX4_findLeaves_33 rfl ?_
    refine v_aload_n dX4_findLeaves_34 rfl ?_
    refine v_iload_n dX4_findLeaves_35 rfl ?_
    refine v_callVr (x := .int (nI (so T n))) (M1 := M) (as := [.int (nI n)]) (st := [.int (nI k)]) dX4_findLeaves_36 ml_X4_64 kv_X4_sort ⟨by decide, rfl, by decide⟩ ⟨(Nat.le_of_ble_eq_true rfl), (Nat.le_of_ble_eq_true rfl)⟩ rfl (Nat.le_of_ble_eq_true rfl) rfl (Nat.le_of_ble_eq_true rfl) (c_sort (scT hs hM) hW (by omega)) ?_
    refine v_callSr (x := .int (nI (hmF (so T n)))) (M1 := M) (as := [.int (nI (so T n))]) (st := [.int (nI k)]) dX4_findLeaves_39 ml_X4_68 ks_X4_hasMany ⟨(Nat.le_of_ble_eq_true rfl), (Nat.le_of_ble_eq_true rfl)⟩ rfl (Nat.le_of_ble_eq_true rfl) rfl (Nat.le_of_ble_eq_true rfl) (c_hasMany (by have := hW.so5 (n := n) (by omega); omega)) ?_
    refine v_icmpN_ge (tgt := 79) dX4_findLeaves_42 (by decide) (by have := hmF_le (so T n); omega) (by have := hmF_le (so T n); omega) (fun c42 => ?_) (fun c42 => (by omega))
    refine v_iincN (lv' := [(0, .ref 60), (1, .int (nI (n + 1))), (2, .int (nI k))]) dX4_findLeaves_79 rfl (Nat.le_of_ble_eq_true rfl) rfl ?_
    refine v_goto (tgt := 2) dX4_findLeaves_82 (by decide) ?_
    refine v_sub (lv' := [(0, .ref 60), (1, .int (nI (n + 1)))]) (by intro q hq; simp at hq; rcases hq with rfl | rfl <;> rfl) ?_
    refine post M hs (fun j hj9 => ?_)
    rcases Nat.lt_or_ge j n with h9 | h9
    · exact hj j h9
    · rw [show j = n by omega, he, lvF_eq hW hn, if_neg hl, show k = hmF (so T n) by omega]
  | succ d ih =>
    intro k M hk hs hj he
    refine v_iload_n dX4_findLeaves_33 rfl ?_
    refine v_aload_n dX4_findLeaves_34 rfl ?_
    refine v_iload_n dX4_findLeaves_35 rfl ?_
    refine v_callVr (x := .int (nI (so T n))) (M1 := M) (as := [.int (nI n)]) (st := [.int (nI k)]) dX4_findLeaves_36 ml_X4_64 kv_X4_sort ⟨by decide, rfl, by decide⟩ ⟨(Nat.le_of_ble_eq_true rfl), (Nat.le_of_ble_eq_true rfl)⟩ rfl (Nat.le_of_ble_eq_true rfl) rfl (Nat.le_of_ble_eq_true rfl) (c_sort (scT hs hM) hW (by omega)) ?_
    refine v_callSr (x := .int (nI (hmF (so T n)))) (M1 := M) (as := [.int (nI (so T n))]) (st := [.int (nI k)]) dX4_findLeaves_39 ml_X4_68 ks_X4_hasMany ⟨(Nat.le_of_ble_eq_true rfl), (Nat.le_of_ble_eq_true rfl)⟩ rfl (Nat.le_of_ble_eq_true rfl) rfl (Nat.le_of_ble_eq_true rfl) (c_hasMany (by have := hW.so5 (n := n) (by omega); omega)) ?_
    refine v_icmpN_ge (tgt := 79) dX4_findLeaves_42 (by decide) (by have := hmF_le (so T n); omega) (by have := hmF_le (so T n); omega) (fun c42 => (by omega)) (fun c42 => ?_)
    refine v_aload_n dX4_findLeaves_45 rfl ?_
    refine v_iload_n dX4_findLeaves_46 rfl ?_
    refine v_callVr (x := .int (bI (so T n ≤ 1))) (M1 := M) (as := [.int (nI n)]) (st := []) dX4_findLeaves_47 ml_X4_75 kv_X4_isLeaf ⟨by decide, rfl, by decide⟩ ⟨(Nat.le_of_ble_eq_true rfl), (Nat.le_of_ble_eq_true rfl)⟩ rfl (Nat.le_of_ble_eq_true rfl) rfl (Nat.le_of_ble_eq_true rfl) (c_isLeaf (scT hs hM) hW (by omega)) ?_
    refine v_ifB_ne (tgt := 79) dX4_findLeaves_50 (by decide) (fun c50 => (absurd c50 hl)) (fun c50 => ?_)
    refine v_aload_n dX4_findLeaves_53 rfl ?_
    refine v_getR (t := 68) dX4_findLeaves_54 fl_X4_32 ⟨by decide, rfl, by decide⟩ rfl rfl ?_
    refine v_iload_n dX4_findLeaves_57 rfl ?_
    refine v_dup2 dX4_findLeaves_58 rfl rfl ?_
    refine v_iald2 (n := 16) (a := n) (y := (lvG T (lvF T) n k)) dX4_findLeaves_59 ⟨by decide, rfl, rfl⟩ (rfl) (by omega) (he) ?_
    refine v_aload_n dX4_findLeaves_60 rfl ?_
    refine v_getR (t := 68) dX4_findLeaves_61 fl_X4_32 ⟨by decide, rfl, by decide⟩ rfl rfl ?_
    refine v_aload_n dX4_findLeaves_64 rfl ?_
    refine v_iload_n dX4_findLeaves_65 rfl ?_
    refine v_iload_n dX4_findLeaves_66 rfl ?_
    refine v_callVr (x := .int (nI (pt T n k))) (M1 := M) (as := [.int (nI n), .int (nI k)]) (st := [.ref 68, .int (lvG T (lvF T) n k), .int (nI n), .ref 68]) dX4_findLeaves_67 ml_X4_71 kv_X4_of ⟨by decide, rfl, by decide⟩ ⟨(Nat.le_of_ble_eq_true rfl), (Nat.le_of_ble_eq_true rfl)⟩ rfl (Nat.le_of_ble_eq_true rfl) rfl (Nat.le_of_ble_eq_true rfl) (c_of (scT hs hM) hW (by omega) (by omega)) ?_
    have h9 := hW.ptlt hn c42
    refine v_iald2 (n := 16) (a := pt T n k) (y := (lvF T (pt T n k))) dX4_findLeaves_70 ⟨by decide, rfl, rfl⟩ (rfl) (by omega) (hj _ h9) ?_
    refine v_ior dX4_findLeaves_71 ?_
    refine v_top (y := (lvG T (lvF T) n (k + 1))) (rfl) ?_
    refine v_iast (n := 16) (a := n) dX4_findLeaves_72 ⟨by decide, rfl, rfl⟩ (rfl) (by omega) ?_
    refine v_iincN (lv' := [(0, .ref 60), (1, .int (nI n)), (2, .int (nI (k + 1)))]) dX4_findLeaves_73 rfl (Nat.le_of_ble_eq_true rfl) rfl ?_
    refine v_goto (tgt := 33) dX4_findLeaves_76 (by decide) ?_
    refine ih (k + 1) _ (by omega) (sc_up hs) (fun j h9 => ?_) ?_
    · rw [mup_eq]; simp only [upd]; rw [if_neg (by omega)]; exact hj j h9
    · rw [mup_eq]; simp [upd]
set_option maxRecDepth 100000 in
theorem l_find (hM : M0 61 = T) (hW : WF T) (d : Nat) : ∀ (n : Nat) (M : vM), n + d = nN T → sc M0 M → (∀ j, j < n → M 68 j = lvF T j) → V kX4_findLeaves (fun v M1 => v = none ∧ sc M0 M1 ∧ ∀ j, j < nN T → M1 68 j = lvF T j) M 2 [(0, .ref 60), (1, .int (nI n))] [] := by
  have h16 := hW.n16
  induction d with
  | zero =>
    intro n M hk hs hj
    refine v_iload_n dX4_findLeaves_2 rfl ?_
    refine v_aload_n dX4_findLeaves_3 rfl ?_
    refine v_callVr (x := .int (nI (nN T))) (M1 := M) (as := []) (st := [.int (nI n)]) dX4_findLeaves_4 ml_X4_52 kv_X4_many ⟨by decide, rfl, by decide⟩ ⟨(Nat.le_of_ble_eq_true rfl), (Nat.le_of_ble_eq_true rfl)⟩ rfl (Nat.le_of_ble_eq_true rfl) rfl (Nat.le_of_ble_eq_true rfl) (c_many (scT hs hM) hW) ?_
    refine v_icmpN_ge (tgt := 85) dX4_findLeaves_7 (by decide) (by omega) (by omega) (fun c7 => ?_) (fun c7 => (by omega))
    refine v_vret dX4_findLeaves_85 rfl ?_
    exact ⟨rfl, hs, fun j h9 => hj j (by omega)⟩
  | succ d ih =>
    intro n M hk hs hj
    refine v_iload_n dX4_findLeaves_2 rfl ?_
    refine v_aload_n dX4_findLeaves_3 rfl ?_
    refine v_callVr (x := .int (nI (nN T))) (M1 := M) (as := []) (st := [.int (nI n)]) dX4_findLeaves_4 ml_X4_52 kv_X4_many ⟨by decide, rfl, by decide⟩ ⟨(Nat.le_of_ble_eq_true rfl), (Nat.le_of_ble_eq_true rfl)⟩ rfl (Nat.le_of_ble_eq_true rfl) rfl (Nat.le_of_ble_eq_true rfl) (c_many (scT hs hM) hW) ?_
    refine v_icmpN_ge (tgt := 85) dX4_findLeaves_7 (by decide) (by omega) (by omega) (fun c7 => (by omega)) (fun c7 => ?_)
    refine v_aload_n dX4_findLeaves_10 rfl ?_
    refine v_getR (t := 68) dX4_findLeaves_11 fl_X4_32 ⟨by decide, rfl, by decide⟩ rfl rfl ?_
    refine v_iload_n dX4_findLeaves_14 rfl ?_
    refine v_aload_n dX4_findLeaves_15 rfl ?_
    refine v_iload_n dX4_findLeaves_16 rfl ?_
    refine v_callVr (x := .int (bI (so T n ≤ 1))) (M1 := M) (as := [.int (nI n)]) (st := [.int (nI n), .ref 68]) dX4_findLeaves_17 ml_X4_75 kv_X4_isLeaf ⟨by decide, rfl, by decide⟩ ⟨(Nat.le_of_ble_eq_true rfl), (Nat.le_of_ble_eq_true rfl)⟩ rfl (Nat.le_of_ble_eq_true rfl) rfl (Nat.le_of_ble_eq_true rfl) (c_isLeaf (scT hs hM) hW (by omega)) ?_
    refine v_ifB_eq (tgt := 29) dX4_findLeaves_20 (by decide) (fun c20 => ?_) (fun c20 => ?_)
    · have hl : ¬ so T n ≤ 1 := c20
      refine v_iconst (v := (nI 0)) dX4_findLeaves_29 rfl ?_
      refine v_iast (n := 16) (a := n) dX4_findLeaves_30 ⟨by decide, rfl, rfl⟩ (rfl) (by omega) ?_
      refine v_iconst (v := (nI 0)) dX4_findLeaves_31 rfl ?_
      refine v_istore_n (lv' := [(0, .ref 60), (1, .int (nI n)), (2, .int (nI 0))]) dX4_findLeaves_32 (Nat.le_of_ble_eq_true rfl) rfl ?_
      refine l_find1 hM hW (by omega) hl (fun M1 h1 h2 => ih (n + 1) M1 (by omega) h1 h2) (hmF (so T n)) 0 _ (by omega) (sc_up hs) (fun j h9 => ?_) ?_
      · rw [mup_eq]; simp only [upd]; rw [if_neg (by omega)]; exact hj j h9
      · rw [mup_eq]; simp [upd, lvG]
    · refine v_iconst (v := (nI 1)) dX4_findLeaves_23 rfl ?_
      refine v_iload_n dX4_findLeaves_24 rfl ?_
      refine v_ishl dX4_findLeaves_25 ?_
      refine v_goto (tgt := 30) dX4_findLeaves_26 (by decide) ?_
      refine v_iast (n := 16) (a := n) dX4_findLeaves_30 ⟨by decide, rfl, rfl⟩ (rfl) (by omega) ?_
      refine v_iconst (v := (nI 0)) dX4_findLeaves_31 rfl ?_
      refine v_istore_n (lv' := [(0, .ref 60), (1, .int (nI n)), (2, .int (nI 0))]) dX4_findLeaves_32 (Nat.le_of_ble_eq_true rfl) rfl ?_
      refine v_iload_n dX4_findLeaves_33 rfl ?_
      refine v_aload_n dX4_findLeaves_34 rfl ?_
      refine v_iload_n dX4_findLeaves_35 rfl ?_
      refine v_callVr (x := .int (nI (so T n))) (M1 := mup M 68 n (nI 1 <<< (nI n &&& 31))) (as := [.int (nI n)]) (st := [.int (nI 0)]) dX4_findLeaves_36 ml_X4_64 kv_X4_sort ⟨by decide, rfl, by decide⟩ ⟨(Nat.le_of_ble_eq_true rfl), (Nat.le_of_ble_eq_true rfl)⟩ rfl (Nat.le_of_ble_eq_true rfl) rfl (Nat.le_of_ble_eq_true rfl) (c_sort (scT (sc_up hs) hM) hW (by omega)) ?_
      refine v_callSr (x := .int (nI (hmF (so T n)))) (M1 := mup M 68 n (nI 1 <<< (nI n &&& 31))) (as := [.int (nI (so T n))]) (st := [.int (nI 0)]) dX4_findLeaves_39 ml_X4_68 ks_X4_hasMany ⟨(Nat.le_of_ble_eq_true rfl), (Nat.le_of_ble_eq_true rfl)⟩ rfl (Nat.le_of_ble_eq_true rfl) rfl (Nat.le_of_ble_eq_true rfl) (c_hasMany (by have := hW.so5 (n := n) (by omega); omega)) ?_
      refine v_icmpN_ge (tgt := 79) dX4_findLeaves_42 (by decide) (by omega) (by have := hmF_le (so T n); omega) (fun c42 => ?_) (fun c42 => ?_)
      · refine v_iincN (lv' := [(0, .ref 60), (1, .int (nI (n + 1))), (2, .int (nI 0))]) dX4_findLeaves_79 rfl (Nat.le_of_ble_eq_true rfl) rfl ?_
        refine v_goto (tgt := 2) dX4_findLeaves_82 (by decide) ?_
        refine v_sub (lv' := [(0, .ref 60), (1, .int (nI (n + 1)))]) (by intro q hq; simp at hq; rcases hq with rfl | rfl <;> rfl) ?_
        refine ih (n + 1) _ (by omega) (sc_up hs) (fun j h9 => ?_)
        rw [mup_eq]; simp only [upd]
        by_cases h8 : j = n
        · rw [if_pos h8, h8, lvF_eq hW (by omega), if_pos c20]; rfl
        · rw [if_neg h8]; exact hj j (by omega)
      · refine v_aload_n dX4_findLeaves_45 rfl ?_
        refine v_iload_n dX4_findLeaves_46 rfl ?_
        refine v_callVr (x := .int (bI (so T n ≤ 1))) (M1 := mup M 68 n (nI 1 <<< (nI n &&& 31))) (as := [.int (nI n)]) (st := []) dX4_findLeaves_47 ml_X4_75 kv_X4_isLeaf ⟨by decide, rfl, by decide⟩ ⟨(Nat.le_of_ble_eq_true rfl), (Nat.le_of_ble_eq_true rfl)⟩ rfl (Nat.le_of_ble_eq_true rfl) rfl (Nat.le_of_ble_eq_true rfl) (c_isLeaf (scT (sc_up hs) hM) hW (by omega)) ?_
        refine v_ifB_ne (tgt := 79) dX4_findLeaves_50 (by decide) (fun c50 => ?_) (fun c50 => (absurd c20 c50))
        refine v_iincN (lv' := [(0, .ref 60), (1, .int (nI (n + 1))), (2, .int (nI 0))]) dX4_findLeaves_79 rfl (Nat.le_of_ble_eq_true rfl) rfl ?_
        refine v_goto (tgt := 2) dX4_findLeaves_82 (by decide) ?_
        refine v_sub (lv' := [(0, .ref 60), (1, .int (nI (n + 1)))]) (by intro q hq; simp at hq; rcases hq with rfl | rfl <;> rfl) ?_
        refine ih (n + 1) _ (by omega) (sc_up hs) (fun j h9 => ?_)
        rw [mup_eq]; simp only [upd]
        by_cases h8 : j = n
        · rw [if_pos h8, h8, lvF_eq hW (by omega), if_pos c20]; rfl
        · rw [if_neg h8]; exact hj j (by omega)
set_option maxRecDepth 100000 in
theorem c_find (hM : M0 61 = T) (hW : WF T) (hs : sc M0 M) : V kX4_findLeaves (fun v M1 => v = none ∧ sc M0 M1 ∧ ∀ j, j < nN T → M1 68 j = lvF T j) M 0 [(0, .ref 60)] [] := by
  have h16 := hW.n16
  refine v_iconst (v := (nI 0)) dX4_findLeaves_0 rfl ?_
  refine v_istore_n (lv' := [(0, .ref 60), (1, .int (nI 0))]) dX4_findLeaves_1 (Nat.le_of_ble_eq_true rfl) rfl ?_
  exact l_find hM hW (nN T) 0 M (by omega) hs (fun j h9 => absurd h9 (by omega))
set_option maxRecDepth 100000 in
theorem c_leavesOf (hs : sc M0 M) (hM : M0 61 = T) (hW : WF T) {n : Nat} (hn : n < nN T) : V kX4_leavesOf (rs (.int (lvF T n)) M0) M 0 [(0, .ref 60), (1, .int (nI n))] [] := by
  have h16 := hW.n16
  refine v_aload_n dX4_leavesOf_0 rfl ?_
  refine v_callV (as := []) (st := []) dX4_leavesOf_1 ml_X4_78 kv_X4_findLeaves ⟨by decide, rfl, by decide⟩ ⟨(Nat.le_of_ble_eq_true rfl), (Nat.le_of_ble_eq_true rfl)⟩ rfl (Nat.le_of_ble_eq_true rfl) rfl (Nat.le_of_ble_eq_true rfl) (c_find hM hW hs) (fun v M hq => ?_)
  obtain ⟨rfl, hs, hj⟩ := hq
  refine v_aload_n dX4_leavesOf_4 rfl ?_
  refine v_getR (t := 68) dX4_leavesOf_5 fl_X4_32 ⟨by decide, rfl, by decide⟩ rfl rfl ?_
  refine v_iload_n dX4_leavesOf_8 rfl ?_
  refine v_iald2 (n := 16) (a := n) (y := (lvF T n)) dX4_leavesOf_9 ⟨by decide, rfl, rfl⟩ (rfl) (by omega) (hj n hn) ?_
  refine v_iret dX4_leavesOf_10 rfl ?_
  exact ⟨rfl, hs⟩
set_option maxRecDepth 100000 in
theorem l_src (hs : sc M0 M) (hM : M0 61 = T) (hW : WF T) {n : Nat} {s : Int32} (d : Nat) : ∀ (k : Nat), k + d = nN T → V kX4_sourcesOf (rs (.int (srcF T s)) M0) M 11 [(0, .ref 60), (1, .int (nI n)), (2, .int s), (3, .int (srcN T s k)), (4, .int (nI k))] [] := by
  have h16 := hW.n16
  induction d with
  | zero =>
    intro k hk 
    refine v_iload dX4_sourcesOf_11 rfl ?_
    refine v_aload_n dX4_sourcesOf_13 rfl ?_
    refine v_callVr (x := .int (nI (nN T))) (M1 := M) (as := []) (st := [.int (nI k)]) dX4_sourcesOf_14 ml_X4_52 kv_X4_many ⟨by decide, rfl, by decide⟩ ⟨(Nat.le_of_ble_eq_true rfl), (Nat.le_of_ble_eq_true rfl)⟩ rfl (Nat.le_of_ble_eq_true rfl) rfl (Nat.le_of_ble_eq_true rfl) (c_many (scT hs hM) hW) ?_
    refine v_icmpN_ge (tgt := 50) dX4_sourcesOf_17 (by decide) (by omega) (by omega) (fun c17 => ?_) (fun c17 => (by omega))
    refine v_iload_n dX4_sourcesOf_50 rfl ?_
    refine v_iret dX4_sourcesOf_51 rfl ?_
    refine ⟨?_, hs⟩
    rw [show k = nN T by omega]; rfl
  | succ d ih =>
    intro k hk 
    refine v_iload dX4_sourcesOf_11 rfl ?_
    refine v_aload_n dX4_sourcesOf_13 rfl ?_
    refine v_callVr (x := .int (nI (nN T))) (M1 := M) (as := []) (st := [.int (nI k)]) dX4_sourcesOf_14 ml_X4_52 kv_X4_many ⟨by decide, rfl, by decide⟩ ⟨(Nat.le_of_ble_eq_true rfl), (Nat.le_of_ble_eq_true rfl)⟩ rfl (Nat.le_of_ble_eq_true rfl) rfl (Nat.le_of_ble_eq_true rfl) (c_many (scT hs hM) hW) ?_
    refine v_icmpN_ge (tgt := 50) dX4_sourcesOf_17 (by decide) (by omega) (by omega) (fun c17 => (by omega)) (fun c17 => ?_)
    refine v_iload_n dX4_sourcesOf_20 rfl ?_
    refine v_iload_n dX4_sourcesOf_21 rfl ?_
    refine v_iload dX4_sourcesOf_22 rfl ?_
    refine v_callSr (x := .int (bI (bt s k = true))) (M1 := M) (as := [.int s, .int (nI k)]) (st := [.int (srcN T s k)]) dX4_sourcesOf_24 ml_X4_84 ks_X4_has ⟨(Nat.le_of_ble_eq_true rfl), (Nat.le_of_ble_eq_true rfl)⟩ rfl (Nat.le_of_ble_eq_true rfl) rfl (Nat.le_of_ble_eq_true rfl) (c_has _ (by omega)) ?_
    refine v_ifB_eq (tgt := 41) dX4_sourcesOf_27 (by decide) (fun c27 => ?_) (fun c27 => ?_)
    · refine v_iconst (v := (nI 0)) dX4_sourcesOf_41 rfl ?_
      refine v_ior dX4_sourcesOf_42 ?_
      refine v_top (y := (srcN T s (k + 1))) (by simp [srcN, bx, c27]) ?_
      refine v_istore_n (lv' := [(0, .ref 60), (1, .int (nI n)), (2, .int s), (3, .int (srcN T s (k + 1))), (4, .int (nI k))]) dX4_sourcesOf_43 (Nat.le_of_ble_eq_true rfl) rfl ?_
      refine v_iincN (lv' := [(0, .ref 60), (1, .int (nI n)), (2, .int s), (3, .int (srcN T s (k + 1))), (4, .int (nI (k + 1)))]) dX4_sourcesOf_44 rfl (Nat.le_of_ble_eq_true rfl) rfl ?_
      refine v_goto (tgt := 11) dX4_sourcesOf_47 (by decide) ?_
      exact ih (k + 1) (by omega)
    · refine v_iconst (v := (nI 1)) dX4_sourcesOf_30 rfl ?_
      refine v_aload_n dX4_sourcesOf_31 rfl ?_
      refine v_iload dX4_sourcesOf_32 rfl ?_
      refine v_callVr (x := .int (nI (ck T k))) (M1 := M) (as := [.int (nI k)]) (st := [.int (nI 1), .int (srcN T s k)]) dX4_sourcesOf_34 ml_X4_88 kv_X4_clock ⟨by decide, rfl, by decide⟩ ⟨(Nat.le_of_ble_eq_true rfl), (Nat.le_of_ble_eq_true rfl)⟩ rfl (Nat.le_of_ble_eq_true rfl) rfl (Nat.le_of_ble_eq_true rfl) (c_clock (scT hs hM) hW (by omega)) ?_
      refine v_ishl dX4_sourcesOf_37 ?_
      refine v_goto (tgt := 42) dX4_sourcesOf_38 (by decide) ?_
      refine v_ior dX4_sourcesOf_42 ?_
      refine v_top (y := (srcN T s (k + 1))) (by simp [srcN, bx, c27]) ?_
      refine v_istore_n (lv' := [(0, .ref 60), (1, .int (nI n)), (2, .int s), (3, .int (srcN T s (k + 1))), (4, .int (nI k))]) dX4_sourcesOf_43 (Nat.le_of_ble_eq_true rfl) rfl ?_
      refine v_iincN (lv' := [(0, .ref 60), (1, .int (nI n)), (2, .int s), (3, .int (srcN T s (k + 1))), (4, .int (nI (k + 1)))]) dX4_sourcesOf_44 rfl (Nat.le_of_ble_eq_true rfl) rfl ?_
      refine v_goto (tgt := 11) dX4_sourcesOf_47 (by decide) ?_
      exact ih (k + 1) (by omega)
set_option maxRecDepth 100000 in
theorem c_sourcesOf (hs : sc M0 M) (hM : M0 61 = T) (hW : WF T) {n : Nat} (hn : n < nN T) : V kX4_sourcesOf (rs (.int (srcF T (lvF T n))) M0) M 0 [(0, .ref 60), (1, .int (nI n))] [] := by
  have h16 := hW.n16
  refine v_aload_n dX4_sourcesOf_0 rfl ?_
  refine v_iload_n dX4_sourcesOf_1 rfl ?_
  refine v_callV (as := [.int (nI n)]) (st := []) dX4_sourcesOf_2 ml_X4_81 kv_X4_leavesOf ⟨by decide, rfl, by decide⟩ ⟨(Nat.le_of_ble_eq_true rfl), (Nat.le_of_ble_eq_true rfl)⟩ rfl (Nat.le_of_ble_eq_true rfl) rfl (Nat.le_of_ble_eq_true rfl) (c_leavesOf hs hM hW (by omega)) (fun v M hq => ?_)
  obtain ⟨rfl, hs⟩ := hq
  refine v_istore_n (lv' := [(0, .ref 60), (1, .int (nI n)), (2, .int (lvF T n))]) dX4_sourcesOf_5 (Nat.le_of_ble_eq_true rfl) rfl ?_
  refine v_iconst (v := (nI 0)) dX4_sourcesOf_6 rfl ?_
  refine v_istore_n (lv' := [(0, .ref 60), (1, .int (nI n)), (2, .int (lvF T n)), (3, .int (nI 0))]) dX4_sourcesOf_7 (Nat.le_of_ble_eq_true rfl) rfl ?_
  refine v_iconst (v := (nI 0)) dX4_sourcesOf_8 rfl ?_
  refine v_istore (lv' := [(0, .ref 60), (1, .int (nI n)), (2, .int (lvF T n)), (3, .int (nI 0)), (4, .int (nI 0))]) dX4_sourcesOf_9 (Nat.le_of_ble_eq_true rfl) rfl ?_
  exact l_src hs hM hW (nN T) 0 (by omega)
set_option maxRecDepth 100000 in
theorem l_fr (hs : sc M0 M) (hM : M0 61 = T) (hW : WF T) {r : Nat} (hr : r < nN T) {s : Int32} (d : Nat) : ∀ (k : Nat), k + d = nN T → V kX4_foreign (rs (.int (frN T r s (nN T))) M0) M 13 [(0, .ref 60), (1, .int (nI r)), (2, .int (frN T r s k)), (3, .int (nI k))] [] := by
  have h16 := hW.n16
  induction d with
  | zero =>
    intro k hk 
    refine v_iload_n dX4_foreign_13 rfl ?_
    refine v_aload_n dX4_foreign_14 rfl ?_
    refine v_callVr (x := .int (nI (nN T))) (M1 := M) (as := []) (st := [.int (nI k)]) dX4_foreign_15 ml_X4_52 kv_X4_many ⟨by decide, rfl, by decide⟩ ⟨(Nat.le_of_ble_eq_true rfl), (Nat.le_of_ble_eq_true rfl)⟩ rfl (Nat.le_of_ble_eq_true rfl) rfl (Nat.le_of_ble_eq_true rfl) (c_many (scT hs hM) hW) ?_
    refine v_icmpN_ge (tgt := 60) dX4_foreign_18 (by decide) (by omega) (by omega) (fun c18 => ?_) (fun c18 => (by omega))
    refine v_iload_n dX4_foreign_60 rfl ?_
    refine v_iret dX4_foreign_61 rfl ?_
    refine ⟨?_, hs⟩
    rw [show k = nN T by omega]
  | succ d ih =>
    intro k hk 
    refine v_iload_n dX4_foreign_13 rfl ?_
    refine v_aload_n dX4_foreign_14 rfl ?_
    refine v_callVr (x := .int (nI (nN T))) (M1 := M) (as := []) (st := [.int (nI k)]) dX4_foreign_15 ml_X4_52 kv_X4_many ⟨by decide, rfl, by decide⟩ ⟨(Nat.le_of_ble_eq_true rfl), (Nat.le_of_ble_eq_true rfl)⟩ rfl (Nat.le_of_ble_eq_true rfl) rfl (Nat.le_of_ble_eq_true rfl) (c_many (scT hs hM) hW) ?_
    refine v_icmpN_ge (tgt := 60) dX4_foreign_18 (by decide) (by omega) (by omega) (fun c18 => (by omega)) (fun c18 => ?_)
    refine v_iload_n dX4_foreign_21 rfl ?_
    refine v_aload_n dX4_foreign_22 rfl ?_
    refine v_iload_n dX4_foreign_23 rfl ?_
    refine v_callVr (x := .int (bI (so T k ≤ 1))) (M1 := M) (as := [.int (nI k)]) (st := [.int (frN T r s k)]) dX4_foreign_24 ml_X4_75 kv_X4_isLeaf ⟨by decide, rfl, by decide⟩ ⟨(Nat.le_of_ble_eq_true rfl), (Nat.le_of_ble_eq_true rfl)⟩ rfl (Nat.le_of_ble_eq_true rfl) rfl (Nat.le_of_ble_eq_true rfl) (c_isLeaf (scT hs hM) hW (by omega)) ?_
    refine v_ifB_eq (tgt := 51) dX4_foreign_27 (by decide) (fun c27 => ?_) (fun c27 => ?_)
    · refine v_iconst (v := (-1)) dX4_foreign_51 (by decide) ?_
      refine v_iand dX4_foreign_52 ?_
      refine v_top (y := (frN T r s (k + 1))) (by simp [frN, bx, *]) ?_
      refine v_istore_n (lv' := [(0, .ref 60), (1, .int (nI r)), (2, .int (frN T r s (k + 1))), (3, .int (nI k))]) dX4_foreign_53 (Nat.le_of_ble_eq_true rfl) rfl ?_
      refine v_iincN (lv' := [(0, .ref 60), (1, .int (nI r)), (2, .int (frN T r s (k + 1))), (3, .int (nI (k + 1)))]) dX4_foreign_54 rfl (Nat.le_of_ble_eq_true rfl) rfl ?_
      refine v_goto (tgt := 13) dX4_foreign_57 (by decide) ?_
      exact ih (k + 1) (by omega)
    · refine v_aload_n dX4_foreign_30 rfl ?_
      refine v_iload_n dX4_foreign_31 rfl ?_
      refine v_callVr (x := .int (nI (ck T k))) (M1 := M) (as := [.int (nI k)]) (st := [.int (frN T r s k)]) dX4_foreign_32 ml_X4_88 kv_X4_clock ⟨by decide, rfl, by decide⟩ ⟨(Nat.le_of_ble_eq_true rfl), (Nat.le_of_ble_eq_true rfl)⟩ rfl (Nat.le_of_ble_eq_true rfl) rfl (Nat.le_of_ble_eq_true rfl) (c_clock (scT hs hM) hW (by omega)) ?_
      refine v_aload_n dX4_foreign_35 rfl ?_
      refine v_iload_n dX4_foreign_36 rfl ?_
      refine v_callVr (x := .int (nI (ck T r))) (M1 := M) (as := [.int (nI r)]) (st := [.int (nI (ck T k)), .int (frN T r s k)]) dX4_foreign_37 ml_X4_88 kv_X4_clock ⟨by decide, rfl, by decide⟩ ⟨(Nat.le_of_ble_eq_true rfl), (Nat.le_of_ble_eq_true rfl)⟩ rfl (Nat.le_of_ble_eq_true rfl) rfl (Nat.le_of_ble_eq_true rfl) (c_clock (scT hs hM) hW (by omega)) ?_
      refine v_icmpN_ne (tgt := 51) dX4_foreign_40 (by decide) (by have := hW.ck2 (n := k) (by omega); omega) (by have := hW.ck2 hr; omega) (fun c40 => ?_) (fun c40 => ?_)
      · refine v_iconst (v := (-1)) dX4_foreign_51 (by decide) ?_
        refine v_iand dX4_foreign_52 ?_
        refine v_top (y := (frN T r s (k + 1))) (by simp [frN, bx, *]) ?_
        refine v_istore_n (lv' := [(0, .ref 60), (1, .int (nI r)), (2, .int (frN T r s (k + 1))), (3, .int (nI k))]) dX4_foreign_53 (Nat.le_of_ble_eq_true rfl) rfl ?_
        refine v_iincN (lv' := [(0, .ref 60), (1, .int (nI r)), (2, .int (frN T r s (k + 1))), (3, .int (nI (k + 1)))]) dX4_foreign_54 rfl (Nat.le_of_ble_eq_true rfl) rfl ?_
        refine v_goto (tgt := 13) dX4_foreign_57 (by decide) ?_
        exact ih (k + 1) (by omega)
      · refine v_iconst (v := (nI 1)) dX4_foreign_43 rfl ?_
        refine v_iload_n dX4_foreign_44 rfl ?_
        refine v_ishl dX4_foreign_45 ?_
        refine v_iconst (v := (-1)) dX4_foreign_46 (by decide) ?_
        refine v_ixor dX4_foreign_47 ?_
        refine v_goto (tgt := 52) dX4_foreign_48 (by decide) ?_
        refine v_iand dX4_foreign_52 ?_
        refine v_top (y := (frN T r s (k + 1))) (by simp [frN, bx, *]) ?_
        refine v_istore_n (lv' := [(0, .ref 60), (1, .int (nI r)), (2, .int (frN T r s (k + 1))), (3, .int (nI k))]) dX4_foreign_53 (Nat.le_of_ble_eq_true rfl) rfl ?_
        refine v_iincN (lv' := [(0, .ref 60), (1, .int (nI r)), (2, .int (frN T r s (k + 1))), (3, .int (nI (k + 1)))]) dX4_foreign_54 rfl (Nat.le_of_ble_eq_true rfl) rfl ?_
        refine v_goto (tgt := 13) dX4_foreign_57 (by decide) ?_
        exact ih (k + 1) (by omega)
set_option maxRecDepth 100000 in
theorem c_foreign (hs : sc M0 M) (hM : M0 61 = T) (hW : WF T) {r : Nat} (hr : r < nN T) (h1 : so T r = 1) : V kX4_foreign (rs (.int (frF T r)) M0) M 0 [(0, .ref 60), (1, .int (nI r))] [] := by
  have h16 := hW.n16
  have hm1 := hm_reg h1
  have hp := hW.ptlt hr (show 0 < hmF (so T r) by omega)
  refine v_aload_n dX4_foreign_0 rfl ?_
  refine v_aload_n dX4_foreign_1 rfl ?_
  refine v_iload_n dX4_foreign_2 rfl ?_
  refine v_iconst (v := (nI 0)) dX4_foreign_3 rfl ?_
  refine v_callVr (x := .int (nI (pt T r 0))) (M1 := M) (as := [.int (nI r), .int (nI 0)]) (st := [.ref 60]) dX4_foreign_4 ml_X4_71 kv_X4_of ⟨by decide, rfl, by decide⟩ ⟨(Nat.le_of_ble_eq_true rfl), (Nat.le_of_ble_eq_true rfl)⟩ rfl (Nat.le_of_ble_eq_true rfl) rfl (Nat.le_of_ble_eq_true rfl) (c_of (scT hs hM) hW (by omega) (by omega)) ?_
  refine v_callV (as := [.int (nI (pt T r 0))]) (st := []) dX4_foreign_7 ml_X4_81 kv_X4_leavesOf ⟨by decide, rfl, by decide⟩ ⟨(Nat.le_of_ble_eq_true rfl), (Nat.le_of_ble_eq_true rfl)⟩ rfl (Nat.le_of_ble_eq_true rfl) rfl (Nat.le_of_ble_eq_true rfl) (c_leavesOf hs hM hW (by omega)) (fun v M hq => ?_)
  obtain ⟨rfl, hs⟩ := hq
  refine v_istore_n (lv' := [(0, .ref 60), (1, .int (nI r)), (2, .int (lvF T (pt T r 0)))]) dX4_foreign_10 (Nat.le_of_ble_eq_true rfl) rfl ?_
  refine v_iconst (v := (nI 0)) dX4_foreign_11 rfl ?_
  refine v_istore_n (lv' := [(0, .ref 60), (1, .int (nI r)), (2, .int (lvF T (pt T r 0))), (3, .int (nI 0))]) dX4_foreign_12 (Nat.le_of_ble_eq_true rfl) rfl ?_
  exact l_fr hs hM hW hr (nN T) 0 (by omega)
set_option maxRecDepth 100000 in
theorem c_isDirect (hs : sc M0 M) (hM : M0 61 = T) (hW : WF T) {r : Nat} (hr : r < nN T) (h1 : so T r = 1) : V kX4_isDirect (rs (.int (bI (dirF T r = true))) M0) M 0 [(0, .ref 60), (1, .int (nI r))] [] := by
  have h16 := hW.n16
  have hm1 := hm_reg h1
  have hp := hW.ptlt hr (show 0 < hmF (so T r) by omega)
  refine v_aload_n dX4_isDirect_0 rfl ?_
  refine v_iload_n dX4_isDirect_1 rfl ?_
  refine v_callV (as := [.int (nI r)]) (st := []) dX4_isDirect_2 ml_X4_91 kv_X4_foreign ⟨by decide, rfl, by decide⟩ ⟨(Nat.le_of_ble_eq_true rfl), (Nat.le_of_ble_eq_true rfl)⟩ rfl (Nat.le_of_ble_eq_true rfl) rfl (Nat.le_of_ble_eq_true rfl) (c_foreign hs hM hW (by omega) (by assumption)) (fun v M hq => ?_)
  obtain ⟨rfl, hs⟩ := hq
  refine v_aload_n dX4_isDirect_5 rfl ?_
  refine v_iload_n dX4_isDirect_6 rfl ?_
  refine v_iconst (v := (nI 0)) dX4_isDirect_7 rfl ?_
  refine v_callVr (x := .int (nI (pt T r 0))) (M1 := M) (as := [.int (nI r), .int (nI 0)]) (st := [.int (frF T r)]) dX4_isDirect_8 ml_X4_71 kv_X4_of ⟨by decide, rfl, by decide⟩ ⟨(Nat.le_of_ble_eq_true rfl), (Nat.le_of_ble_eq_true rfl)⟩ rfl (Nat.le_of_ble_eq_true rfl) rfl (Nat.le_of_ble_eq_true rfl) (c_of (scT hs hM) hW (by omega) (by omega)) ?_
  refine v_callSr (x := .int (bI (bt ((frF T r)) (pt T r 0) = true))) (M1 := M) (as := [.int (frF T r), .int (nI (pt T r 0))]) (st := []) dX4_isDirect_11 ml_X4_84 ks_X4_has ⟨(Nat.le_of_ble_eq_true rfl), (Nat.le_of_ble_eq_true rfl)⟩ rfl (Nat.le_of_ble_eq_true rfl) rfl (Nat.le_of_ble_eq_true rfl) (c_has _ (by omega)) ?_
  refine v_bret dX4_isDirect_14 rfl ?_
  exact ⟨rfl, hs⟩
end R13
