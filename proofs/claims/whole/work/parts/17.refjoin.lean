section R17
variable {M M0 : vM} {T : Nat → Int32}
set_option maxRecDepth 100000 in
theorem c_kindOf {nd : Nat} (hs : sc M0 M) (hM : M0 61 = T) (hW : WF T) (hnd : M0 63 0 = nI nd) (hnb : nd < 2 ^ 31) {r : Nat} (hr : r < nN T) (h1 : so T r = 1) : V kX4_kindOf (rs (.int (oI (kdO T nd r))) M0) M 0 [(0, .ref 60), (1, .int (nI r))] [] := by
  have h16 := hW.n16
  refine v_aload_n dX4_kindOf_0 rfl ?_
  refine v_iload_n dX4_kindOf_1 rfl ?_
  refine v_callV (as := [.int (nI r)]) (st := []) dX4_kindOf_2 ml_X4_91 kv_X4_foreign ⟨by decide, rfl, by decide⟩ ⟨(Nat.le_of_ble_eq_true rfl), (Nat.le_of_ble_eq_true rfl)⟩ rfl (Nat.le_of_ble_eq_true rfl) rfl (Nat.le_of_ble_eq_true rfl) (c_foreign hs hM hW (by omega) (by assumption)) (fun v M hq => ?_)
  obtain ⟨rfl, hs⟩ := hq
  refine v_if_ne (tgt := 11) dX4_kindOf_5 (by decide) (fun c5 => ?_) (fun c5 => ?_)
  · refine v_aload_n dX4_kindOf_11 rfl ?_
    refine v_iload_n dX4_kindOf_12 rfl ?_
    refine v_callV (as := [.int (nI r)]) (st := []) dX4_kindOf_13 ml_X4_100 kv_X4_isDirect ⟨by decide, rfl, by decide⟩ ⟨(Nat.le_of_ble_eq_true rfl), (Nat.le_of_ble_eq_true rfl)⟩ rfl (Nat.le_of_ble_eq_true rfl) rfl (Nat.le_of_ble_eq_true rfl) (c_isDirect hs hM hW (by omega) (by assumption)) (fun v M hq => ?_)
    obtain ⟨rfl, hs⟩ := hq
    refine v_ifB_eq (tgt := 33) dX4_kindOf_16 (by decide) (fun c16 => ?_) (fun c16 => ?_)
    · refine v_aload_n dX4_kindOf_33 rfl ?_
      refine v_iload_n dX4_kindOf_34 rfl ?_
      refine v_callV (as := [.int (nI r)]) (st := []) dX4_kindOf_35 ml_X4_115 kv_X4_isHeld ⟨by decide, rfl, by decide⟩ ⟨(Nat.le_of_ble_eq_true rfl), (Nat.le_of_ble_eq_true rfl)⟩ rfl (Nat.le_of_ble_eq_true rfl) rfl (Nat.le_of_ble_eq_true rfl) (c_isHeld hs hM hW hnd hnb (by omega) (by assumption)) (fun v M hq => ?_)
      obtain ⟨rfl, hs⟩ := hq
      refine v_ifB_eq (tgt := 45) dX4_kindOf_38 (by decide) (fun c38 => ?_) (fun c38 => ?_)
      · refine v_iconst (v := (nI 3)) dX4_kindOf_45 rfl ?_
        refine v_iret dX4_kindOf_46 rfl ?_
        refine ⟨?_, hs⟩
        simp [kdO, oI, *]
      · refine v_iconst (v := (nI 2)) dX4_kindOf_41 rfl ?_
        refine v_goto (tgt := 46) dX4_kindOf_42 (by decide) ?_
        refine v_iret dX4_kindOf_46 rfl ?_
        refine ⟨?_, hs⟩
        simp [kdO, oI, *]
    · refine v_aload_n dX4_kindOf_19 rfl ?_
      refine v_iload_n dX4_kindOf_20 rfl ?_
      refine v_callV (as := [.int (nI r)]) (st := []) dX4_kindOf_21 ml_X4_112 kv_X4_isSafe ⟨by decide, rfl, by decide⟩ ⟨(Nat.le_of_ble_eq_true rfl), (Nat.le_of_ble_eq_true rfl)⟩ rfl (Nat.le_of_ble_eq_true rfl) rfl (Nat.le_of_ble_eq_true rfl) (c_isSafe hs hM hW hnd hnb (by omega) (by assumption)) (fun v M hq => ?_)
      obtain ⟨rfl, hs⟩ := hq
      refine v_ifB_eq (tgt := 31) dX4_kindOf_24 (by decide) (fun c24 => ?_) (fun c24 => ?_)
      · refine v_iconst (v := (nI 1)) dX4_kindOf_31 rfl ?_
        refine v_iret dX4_kindOf_32 rfl ?_
        refine ⟨?_, hs⟩
        simp [kdO, oI, *]
      · refine v_iconst (v := (nI 0)) dX4_kindOf_27 rfl ?_
        refine v_goto (tgt := 32) dX4_kindOf_28 (by decide) ?_
        refine v_iret dX4_kindOf_32 rfl ?_
        refine ⟨?_, hs⟩
        simp [kdO, oI, *]
  · refine v_bipush (v := (-9)) dX4_kindOf_8 (by decide) ?_
    refine v_iret dX4_kindOf_10 rfl ?_
    refine ⟨?_, hs⟩
    simp [kdO, oI, *]
set_option maxRecDepth 100000 in
theorem c_kindAt {nd : Nat} (hs : sc M0 M) (hM : M0 61 = T) (hW : WF T) (hnd : M0 63 0 = nI nd) (hnb : nd < 2 ^ 31) {r : Nat} (hr : r < nN T) : V kX4_kindAt (rs (.int (oI (kaO T nd r))) M0) M 0 [(0, .ref 60), (1, .int (nI r))] [] := by
  have h16 := hW.n16
  refine v_aload_n dX4_kindAt_0 rfl ?_
  refine v_iload_n dX4_kindAt_1 rfl ?_
  refine v_callVr (x := .int (nI (so T r))) (M1 := M) (as := [.int (nI r)]) (st := []) dX4_kindAt_2 ml_X4_64 kv_X4_sort ⟨by decide, rfl, by decide⟩ ⟨(Nat.le_of_ble_eq_true rfl), (Nat.le_of_ble_eq_true rfl)⟩ rfl (Nat.le_of_ble_eq_true rfl) rfl (Nat.le_of_ble_eq_true rfl) (c_sort (scT hs hM) hW (by omega)) ?_
  refine v_iconst (v := (nI 1)) dX4_kindAt_5 rfl ?_
  refine v_icmpN_ne (tgt := 17) dX4_kindAt_6 (by decide) (by have := hW.so5 hr; omega) (by omega) (fun c6 => ?_) (fun c6 => ?_)
  · refine v_bipush (v := (-9)) dX4_kindAt_17 (by decide) ?_
    refine v_iret dX4_kindAt_19 rfl ?_
    refine ⟨?_, hs⟩
    simp [kaO, oI, *]
  · refine v_aload_n dX4_kindAt_9 rfl ?_
    refine v_iload_n dX4_kindAt_10 rfl ?_
    refine v_callV (as := [.int (nI r)]) (st := []) dX4_kindAt_11 ml_X4_118 kv_X4_kindOf ⟨by decide, rfl, by decide⟩ ⟨(Nat.le_of_ble_eq_true rfl), (Nat.le_of_ble_eq_true rfl)⟩ rfl (Nat.le_of_ble_eq_true rfl) rfl (Nat.le_of_ble_eq_true rfl) (c_kindOf hs hM hW hnd hnb (by omega) (by assumption)) (fun v M hq => ?_)
    obtain ⟨rfl, hs⟩ := hq
    refine v_goto (tgt := 19) dX4_kindAt_14 (by decide) ?_
    refine v_iret dX4_kindAt_19 rfl ?_
    refine ⟨?_, hs⟩
    simp [kaO, oI, *]
set_option maxRecDepth 100000 in
theorem l_rc1 (hM : M 61 = T) (hW : WF T) {Q : Option Value → vM → Prop} {r n : Nat} {s : Int32} (hn : n < nN T) (post : V kX4_reached Q M 104 [(0, .ref 60), (1, .int (nI r)), (2, .int (rcP T n s (hmF (so T n)))), (3, .int (nI n))] []) (d : Nat) : ∀ (k : Nat), k + d = hmF (so T n) → V kX4_reached (Q) M 56 [(0, .ref 60), (1, .int (nI r)), (2, .int (rcP T n s k)), (3, .int (nI n)), (4, .int (bI (true = true))), (5, .int (nI k))] [] := by
  have h16 := hW.n16
  induction d with
  | zero =>
    intro k hk 
    refine v_iload dX4_reached_56 rfl ?_
    refine v_aload_n dX4_reached_58 rfl ?_
    refine v_iload_n dX4_reached_59 rfl ?_
    refine v_callVr (x := .int (nI (so T n))) (M1 := M) (as := [.int (nI n)]) (st := [.int (nI k)]) dX4_reached_60 ml_X4_64 kv_X4_sort ⟨by decide, rfl, by decide⟩ ⟨(Nat.le_of_ble_eq_true rfl), (Nat.le_of_ble_eq_true rfl)⟩ rfl (Nat.le_of_ble_eq_true rfl) rfl (Nat.le_of_ble_eq_true rfl) (c_sort hM hW (by omega)) ?_
    refine v_callSr (x := .int (nI (hmF (so T n)))) (M1 := M) (as := [.int (nI (so T n))]) (st := [.int (nI k)]) dX4_reached_63 ml_X4_68 ks_X4_hasMany ⟨(Nat.le_of_ble_eq_true rfl), (Nat.le_of_ble_eq_true rfl)⟩ rfl (Nat.le_of_ble_eq_true rfl) rfl (Nat.le_of_ble_eq_true rfl) (c_hasMany (by have := hW.so5 (n := n) (by omega); omega)) ?_
    refine v_icmpN_ge (tgt := 104) dX4_reached_66 (by decide) (by have := hmF_le (so T n); omega) (by have := hmF_le (so T n); omega) (fun c66 => ?_) (fun c66 => (by omega))
    refine v_sub (lv' := [(0, .ref 60), (1, .int (nI r)), (2, .int (rcP T n s k)), (3, .int (nI n))]) (by intro q hq; simp at hq; rcases hq with rfl | rfl | rfl | rfl <;> rfl) ?_
    rw [show k = hmF (so T n) by omega]
    exact post
  | succ d ih =>
    intro k hk 
    refine v_iload dX4_reached_56 rfl ?_
    refine v_aload_n dX4_reached_58 rfl ?_
    refine v_iload_n dX4_reached_59 rfl ?_
    refine v_callVr (x := .int (nI (so T n))) (M1 := M) (as := [.int (nI n)]) (st := [.int (nI k)]) dX4_reached_60 ml_X4_64 kv_X4_sort ⟨by decide, rfl, by decide⟩ ⟨(Nat.le_of_ble_eq_true rfl), (Nat.le_of_ble_eq_true rfl)⟩ rfl (Nat.le_of_ble_eq_true rfl) rfl (Nat.le_of_ble_eq_true rfl) (c_sort hM hW (by omega)) ?_
    refine v_callSr (x := .int (nI (hmF (so T n)))) (M1 := M) (as := [.int (nI (so T n))]) (st := [.int (nI k)]) dX4_reached_63 ml_X4_68 ks_X4_hasMany ⟨(Nat.le_of_ble_eq_true rfl), (Nat.le_of_ble_eq_true rfl)⟩ rfl (Nat.le_of_ble_eq_true rfl) rfl (Nat.le_of_ble_eq_true rfl) (c_hasMany (by have := hW.so5 (n := n) (by omega); omega)) ?_
    refine v_icmpN_ge (tgt := 104) dX4_reached_66 (by decide) (by have := hmF_le (so T n); omega) (by have := hmF_le (so T n); omega) (fun c66 => (by omega)) (fun c66 => ?_)
    refine v_iload dX4_reached_69 rfl ?_
    refine v_ifB_eq (tgt := 104) dX4_reached_71 (by decide) (fun c71 => (absurd rfl c71)) (fun c71 => ?_)
    refine v_iload_n dX4_reached_74 rfl ?_
    refine v_iload_n dX4_reached_75 rfl ?_
    refine v_aload_n dX4_reached_76 rfl ?_
    refine v_iload_n dX4_reached_77 rfl ?_
    refine v_iload dX4_reached_78 rfl ?_
    refine v_callVr (x := .int (nI (pt T n k))) (M1 := M) (as := [.int (nI n), .int (nI k)]) (st := [.int (rcP T n s k), .int (rcP T n s k)]) dX4_reached_80 ml_X4_71 kv_X4_of ⟨by decide, rfl, by decide⟩ ⟨(Nat.le_of_ble_eq_true rfl), (Nat.le_of_ble_eq_true rfl)⟩ rfl (Nat.le_of_ble_eq_true rfl) rfl (Nat.le_of_ble_eq_true rfl) (c_of hM hW (by omega) (by omega)) ?_
    have hq9 := hW.ptlt hn c66
    refine v_callSr (x := .int (bI (bt ((rcP T n s k)) (pt T n k) = true))) (M1 := M) (as := [.int (rcP T n s k), .int (nI (pt T n k))]) (st := [.int (rcP T n s k)]) dX4_reached_83 ml_X4_84 ks_X4_has ⟨(Nat.le_of_ble_eq_true rfl), (Nat.le_of_ble_eq_true rfl)⟩ rfl (Nat.le_of_ble_eq_true rfl) rfl (Nat.le_of_ble_eq_true rfl) (c_has _ (by omega)) ?_
    refine v_ifB_eq (tgt := 95) dX4_reached_86 (by decide) (fun c86 => ?_) (fun c86 => ?_)
    · refine v_iconst (v := (nI 0)) dX4_reached_95 rfl ?_
      refine v_ior dX4_reached_96 ?_
      refine v_top (y := (rcP T n s (k + 1))) (by simp [rcP, bx, c86]) ?_
      refine v_istore_n (lv' := [(0, .ref 60), (1, .int (nI r)), (2, .int (rcP T n s (k + 1))), (3, .int (nI n)), (4, .int (bI (true = true))), (5, .int (nI k))]) dX4_reached_97 (Nat.le_of_ble_eq_true rfl) rfl ?_
      refine v_iincN (lv' := [(0, .ref 60), (1, .int (nI r)), (2, .int (rcP T n s (k + 1))), (3, .int (nI n)), (4, .int (bI (true = true))), (5, .int (nI (k + 1)))]) dX4_reached_98 rfl (Nat.le_of_ble_eq_true rfl) rfl ?_
      refine v_goto (tgt := 56) dX4_reached_101 (by decide) ?_
      exact ih (k + 1) (by omega)
    · refine v_iconst (v := (nI 1)) dX4_reached_89 rfl ?_
      refine v_iload_n dX4_reached_90 rfl ?_
      refine v_ishl dX4_reached_91 ?_
      refine v_goto (tgt := 96) dX4_reached_92 (by decide) ?_
      refine v_ior dX4_reached_96 ?_
      refine v_top (y := (rcP T n s (k + 1))) (by simp [rcP, bx, c86]) ?_
      refine v_istore_n (lv' := [(0, .ref 60), (1, .int (nI r)), (2, .int (rcP T n s (k + 1))), (3, .int (nI n)), (4, .int (bI (true = true))), (5, .int (nI k))]) dX4_reached_97 (Nat.le_of_ble_eq_true rfl) rfl ?_
      refine v_iincN (lv' := [(0, .ref 60), (1, .int (nI r)), (2, .int (rcP T n s (k + 1))), (3, .int (nI n)), (4, .int (bI (true = true))), (5, .int (nI (k + 1)))]) dX4_reached_98 rfl (Nat.le_of_ble_eq_true rfl) rfl ?_
      refine v_goto (tgt := 56) dX4_reached_101 (by decide) ?_
      exact ih (k + 1) (by omega)
set_option maxRecDepth 100000 in
theorem l_rc (hM : M 61 = T) (hW : WF T) {r : Nat} (hr : r < nN T) (d : Nat) : ∀ (j : Nat), r + 1 + j + d = nN T → V kX4_reached (rt (.int (rcF T r)) M) M 8 [(0, .ref 60), (1, .int (nI r)), (2, .int (rcU T r j)), (3, .int (nI (r + 1 + j)))] [] := by
  have h16 := hW.n16
  induction d with
  | zero =>
    intro j hk 
    refine v_iload_n dX4_reached_8 rfl ?_
    refine v_aload_n dX4_reached_9 rfl ?_
    refine v_callVr (x := .int (nI (nN T))) (M1 := M) (as := []) (st := [.int (nI (r + 1 + j))]) dX4_reached_10 ml_X4_52 kv_X4_many ⟨by decide, rfl, by decide⟩ ⟨(Nat.le_of_ble_eq_true rfl), (Nat.le_of_ble_eq_true rfl)⟩ rfl (Nat.le_of_ble_eq_true rfl) rfl (Nat.le_of_ble_eq_true rfl) (c_many hM hW) ?_
    refine v_icmpN_ge (tgt := 110) dX4_reached_13 (by decide) (by omega) (by omega) (fun c13 => ?_) (fun c13 => (by omega))
    refine v_iload_n dX4_reached_110 rfl ?_
    refine v_iret dX4_reached_111 rfl ?_
    refine ⟨?_, rfl⟩
    unfold rcF; rw [show nN T - (r + 1) = j by omega]
  | succ d ih =>
    intro j hk 
    refine v_iload_n dX4_reached_8 rfl ?_
    refine v_aload_n dX4_reached_9 rfl ?_
    refine v_callVr (x := .int (nI (nN T))) (M1 := M) (as := []) (st := [.int (nI (r + 1 + j))]) dX4_reached_10 ml_X4_52 kv_X4_many ⟨by decide, rfl, by decide⟩ ⟨(Nat.le_of_ble_eq_true rfl), (Nat.le_of_ble_eq_true rfl)⟩ rfl (Nat.le_of_ble_eq_true rfl) rfl (Nat.le_of_ble_eq_true rfl) (c_many hM hW) ?_
    refine v_icmpN_ge (tgt := 110) dX4_reached_13 (by decide) (by omega) (by omega) (fun c13 => (by omega)) (fun c13 => ?_)
    refine v_aload_n dX4_reached_16 rfl ?_
    refine v_iload_n dX4_reached_17 rfl ?_
    refine v_callVr (x := .int (bI (so T (r + 1 + j) ≤ 1))) (M1 := M) (as := [.int (nI (r + 1 + j))]) (st := []) dX4_reached_18 ml_X4_75 kv_X4_isLeaf ⟨by decide, rfl, by decide⟩ ⟨(Nat.le_of_ble_eq_true rfl), (Nat.le_of_ble_eq_true rfl)⟩ rfl (Nat.le_of_ble_eq_true rfl) rfl (Nat.le_of_ble_eq_true rfl) (c_isLeaf hM hW (by omega)) ?_
    refine v_ifB_eq (tgt := 46) dX4_reached_21 (by decide) (fun c21 => ?_) (fun c21 => ?_)
    · refine v_iconst (v := (nI 1)) dX4_reached_46 rfl ?_
      refine v_goto (tgt := 51) dX4_reached_47 (by decide) ?_
      refine v_istore (lv' := [(0, .ref 60), (1, .int (nI r)), (2, .int (rcU T r j)), (3, .int (nI (r + 1 + j))), (4, .int (nI 1))]) dX4_reached_51 (Nat.le_of_ble_eq_true rfl) rfl ?_
      refine v_iconst (v := (nI 0)) dX4_reached_53 rfl ?_
      refine v_istore (lv' := [(0, .ref 60), (1, .int (nI r)), (2, .int (rcU T r j)), (3, .int (nI (r + 1 + j))), (4, .int (nI 1)), (5, .int (nI 0))]) dX4_reached_54 (Nat.le_of_ble_eq_true rfl) rfl ?_
      show V kX4_reached _ M 56 [(0, .ref 60), (1, .int (nI r)), (2, .int (rcU T r j)), (3, .int (nI (r + 1 + j))), (4, .int (bI (true = true))), (5, .int (nI 0))] []
      refine l_rc1 hM hW (n := r + 1 + j) (s := rcU T r j) (by omega) ?_ (hmF (so T (r + 1 + j))) 0 (by omega)
      refine v_iincN (lv' := [(0, .ref 60), (1, .int (nI r)), (2, .int (rcP T (r + 1 + j) (rcU T r j) (hmF (so T (r + 1 + j))))), (3, .int (nI (r + 1 + j + 1)))]) dX4_reached_104 rfl (Nat.le_of_ble_eq_true rfl) rfl ?_
      refine v_goto (tgt := 8) dX4_reached_107 (by decide) ?_
      have e : rcU T r (j + 1) = (rcP T (r + 1 + j) (rcU T r j) (hmF (so T (r + 1 + j)))) := by simp only [rcU, rcS]; exact if_pos (by simp [psB]; omega)
      rw [← e]
      exact ih (j + 1) (by omega)
    · refine v_aload_n dX4_reached_24 rfl ?_
      refine v_iload_n dX4_reached_25 rfl ?_
      refine v_callVr (x := .int (nI (so T (r + 1 + j)))) (M1 := M) (as := [.int (nI (r + 1 + j))]) (st := []) dX4_reached_26 ml_X4_64 kv_X4_sort ⟨by decide, rfl, by decide⟩ ⟨(Nat.le_of_ble_eq_true rfl), (Nat.le_of_ble_eq_true rfl)⟩ rfl (Nat.le_of_ble_eq_true rfl) rfl (Nat.le_of_ble_eq_true rfl) (c_sort hM hW (by omega)) ?_
      refine v_iconst (v := (nI 1)) dX4_reached_29 rfl ?_
      refine v_icmpN_ne (tgt := 50) dX4_reached_30 (by decide) (by have := hW.so5 (n := r + 1 + j) (by omega); omega) (by omega) (fun c30 => ?_) (fun c30 => ?_)
      · refine v_iconst (v := (nI 0)) dX4_reached_50 rfl ?_
        refine v_istore (lv' := [(0, .ref 60), (1, .int (nI r)), (2, .int (rcU T r j)), (3, .int (nI (r + 1 + j))), (4, .int (nI 0))]) dX4_reached_51 (Nat.le_of_ble_eq_true rfl) rfl ?_
        refine v_iconst (v := (nI 0)) dX4_reached_53 rfl ?_
        refine v_istore (lv' := [(0, .ref 60), (1, .int (nI r)), (2, .int (rcU T r j)), (3, .int (nI (r + 1 + j))), (4, .int (nI 0)), (5, .int (nI 0))]) dX4_reached_54 (Nat.le_of_ble_eq_true rfl) rfl ?_
        refine v_iload dX4_reached_56 rfl ?_
        refine v_aload_n dX4_reached_58 rfl ?_
        refine v_iload_n dX4_reached_59 rfl ?_
        refine v_callVr (x := .int (nI (so T (r + 1 + j)))) (M1 := M) (as := [.int (nI (r + 1 + j))]) (st := [.int (nI 0)]) dX4_reached_60 ml_X4_64 kv_X4_sort ⟨by decide, rfl, by decide⟩ ⟨(Nat.le_of_ble_eq_true rfl), (Nat.le_of_ble_eq_true rfl)⟩ rfl (Nat.le_of_ble_eq_true rfl) rfl (Nat.le_of_ble_eq_true rfl) (c_sort hM hW (by omega)) ?_
        refine v_callSr (x := .int (nI (hmF (so T (r + 1 + j))))) (M1 := M) (as := [.int (nI (so T (r + 1 + j)))]) (st := [.int (nI 0)]) dX4_reached_63 ml_X4_68 ks_X4_hasMany ⟨(Nat.le_of_ble_eq_true rfl), (Nat.le_of_ble_eq_true rfl)⟩ rfl (Nat.le_of_ble_eq_true rfl) rfl (Nat.le_of_ble_eq_true rfl) (c_hasMany (by have := hW.so5 (n := (r + 1 + j)) (by omega); omega)) ?_
        refine v_icmpN_ge (tgt := 104) dX4_reached_66 (by decide) (by omega) (by have := hmF_le (so T (r + 1 + j)); omega) (fun c66 => ?_) (fun c66 => ?_)
        · refine v_iincN (lv' := [(0, .ref 60), (1, .int (nI r)), (2, .int (rcU T r j)), (3, .int (nI (r + 1 + j + 1))), (4, .int (nI 0)), (5, .int (nI 0))]) dX4_reached_104 rfl (Nat.le_of_ble_eq_true rfl) rfl ?_
          refine v_goto (tgt := 8) dX4_reached_107 (by decide) ?_
          refine v_sub (lv' := [(0, .ref 60), (1, .int (nI r)), (2, .int (rcU T r j)), (3, .int (nI (r + 1 + j + 1)))]) (by intro q hq; simp at hq; rcases hq with rfl | rfl | rfl | rfl <;> rfl) ?_
          have e : rcU T r (j + 1) = rcU T r j := by simp only [rcU, rcS]; exact if_neg (by simp [psB]; omega)
          rw [← e]
          exact ih (j + 1) (by omega)
        · refine v_iload dX4_reached_69 rfl ?_
          refine v_ifN_eq (tgt := 104) dX4_reached_71 (by decide) (by omega) (fun c71 => ?_) (fun c71 => (absurd rfl c71))
          refine v_iincN (lv' := [(0, .ref 60), (1, .int (nI r)), (2, .int (rcU T r j)), (3, .int (nI (r + 1 + j + 1))), (4, .int (nI 0)), (5, .int (nI 0))]) dX4_reached_104 rfl (Nat.le_of_ble_eq_true rfl) rfl ?_
          refine v_goto (tgt := 8) dX4_reached_107 (by decide) ?_
          refine v_sub (lv' := [(0, .ref 60), (1, .int (nI r)), (2, .int (rcU T r j)), (3, .int (nI (r + 1 + j + 1)))]) (by intro q hq; simp at hq; rcases hq with rfl | rfl | rfl | rfl <;> rfl) ?_
          have e : rcU T r (j + 1) = rcU T r j := by simp only [rcU, rcS]; exact if_neg (by simp [psB]; omega)
          rw [← e]
          exact ih (j + 1) (by omega)
      · refine v_aload_n dX4_reached_33 rfl ?_
        refine v_iload_n dX4_reached_34 rfl ?_
        refine v_callVr (x := .int (nI (ck T (r + 1 + j)))) (M1 := M) (as := [.int (nI (r + 1 + j))]) (st := []) dX4_reached_35 ml_X4_88 kv_X4_clock ⟨by decide, rfl, by decide⟩ ⟨(Nat.le_of_ble_eq_true rfl), (Nat.le_of_ble_eq_true rfl)⟩ rfl (Nat.le_of_ble_eq_true rfl) rfl (Nat.le_of_ble_eq_true rfl) (c_clock hM hW (by omega)) ?_
        refine v_aload_n dX4_reached_38 rfl ?_
        refine v_iload_n dX4_reached_39 rfl ?_
        refine v_callVr (x := .int (nI (ck T r))) (M1 := M) (as := [.int (nI r)]) (st := [.int (nI (ck T (r + 1 + j)))]) dX4_reached_40 ml_X4_88 kv_X4_clock ⟨by decide, rfl, by decide⟩ ⟨(Nat.le_of_ble_eq_true rfl), (Nat.le_of_ble_eq_true rfl)⟩ rfl (Nat.le_of_ble_eq_true rfl) rfl (Nat.le_of_ble_eq_true rfl) (c_clock hM hW (by omega)) ?_
        refine v_icmpN_ne (tgt := 50) dX4_reached_43 (by decide) (by have := hW.ck2 (n := r + 1 + j) (by omega); omega) (by have := hW.ck2 hr; omega) (fun c43 => ?_) (fun c43 => ?_)
        · refine v_iconst (v := (nI 0)) dX4_reached_50 rfl ?_
          refine v_istore (lv' := [(0, .ref 60), (1, .int (nI r)), (2, .int (rcU T r j)), (3, .int (nI (r + 1 + j))), (4, .int (nI 0))]) dX4_reached_51 (Nat.le_of_ble_eq_true rfl) rfl ?_
          refine v_iconst (v := (nI 0)) dX4_reached_53 rfl ?_
          refine v_istore (lv' := [(0, .ref 60), (1, .int (nI r)), (2, .int (rcU T r j)), (3, .int (nI (r + 1 + j))), (4, .int (nI 0)), (5, .int (nI 0))]) dX4_reached_54 (Nat.le_of_ble_eq_true rfl) rfl ?_
          refine v_iload dX4_reached_56 rfl ?_
          refine v_aload_n dX4_reached_58 rfl ?_
          refine v_iload_n dX4_reached_59 rfl ?_
          refine v_callVr (x := .int (nI (so T (r + 1 + j)))) (M1 := M) (as := [.int (nI (r + 1 + j))]) (st := [.int (nI 0)]) dX4_reached_60 ml_X4_64 kv_X4_sort ⟨by decide, rfl, by decide⟩ ⟨(Nat.le_of_ble_eq_true rfl), (Nat.le_of_ble_eq_true rfl)⟩ rfl (Nat.le_of_ble_eq_true rfl) rfl (Nat.le_of_ble_eq_true rfl) (c_sort hM hW (by omega)) ?_
          refine v_callSr (x := .int (nI (hmF (so T (r + 1 + j))))) (M1 := M) (as := [.int (nI (so T (r + 1 + j)))]) (st := [.int (nI 0)]) dX4_reached_63 ml_X4_68 ks_X4_hasMany ⟨(Nat.le_of_ble_eq_true rfl), (Nat.le_of_ble_eq_true rfl)⟩ rfl (Nat.le_of_ble_eq_true rfl) rfl (Nat.le_of_ble_eq_true rfl) (c_hasMany (by have := hW.so5 (n := (r + 1 + j)) (by omega); omega)) ?_
          refine v_icmpN_ge (tgt := 104) dX4_reached_66 (by decide) (by omega) (by have := hmF_le (so T (r + 1 + j)); omega) (fun c66 => ?_) (fun c66 => ?_)
          · refine v_iincN (lv' := [(0, .ref 60), (1, .int (nI r)), (2, .int (rcU T r j)), (3, .int (nI (r + 1 + j + 1))), (4, .int (nI 0)), (5, .int (nI 0))]) dX4_reached_104 rfl (Nat.le_of_ble_eq_true rfl) rfl ?_
            refine v_goto (tgt := 8) dX4_reached_107 (by decide) ?_
            refine v_sub (lv' := [(0, .ref 60), (1, .int (nI r)), (2, .int (rcU T r j)), (3, .int (nI (r + 1 + j + 1)))]) (by intro q hq; simp at hq; rcases hq with rfl | rfl | rfl | rfl <;> rfl) ?_
            have e : rcU T r (j + 1) = rcU T r j := by simp only [rcU, rcS]; exact if_neg (by simp [psB]; omega)
            rw [← e]
            exact ih (j + 1) (by omega)
          · refine v_iload dX4_reached_69 rfl ?_
            refine v_ifN_eq (tgt := 104) dX4_reached_71 (by decide) (by omega) (fun c71 => ?_) (fun c71 => (absurd rfl c71))
            refine v_iincN (lv' := [(0, .ref 60), (1, .int (nI r)), (2, .int (rcU T r j)), (3, .int (nI (r + 1 + j + 1))), (4, .int (nI 0)), (5, .int (nI 0))]) dX4_reached_104 rfl (Nat.le_of_ble_eq_true rfl) rfl ?_
            refine v_goto (tgt := 8) dX4_reached_107 (by decide) ?_
            refine v_sub (lv' := [(0, .ref 60), (1, .int (nI r)), (2, .int (rcU T r j)), (3, .int (nI (r + 1 + j + 1)))]) (by intro q hq; simp at hq; rcases hq with rfl | rfl | rfl | rfl <;> rfl) ?_
            have e : rcU T r (j + 1) = rcU T r j := by simp only [rcU, rcS]; exact if_neg (by simp [psB]; omega)
            rw [← e]
            exact ih (j + 1) (by omega)
        · refine v_iconst (v := (nI 1)) dX4_reached_46 rfl ?_
          refine v_goto (tgt := 51) dX4_reached_47 (by decide) ?_
          refine v_istore (lv' := [(0, .ref 60), (1, .int (nI r)), (2, .int (rcU T r j)), (3, .int (nI (r + 1 + j))), (4, .int (nI 1))]) dX4_reached_51 (Nat.le_of_ble_eq_true rfl) rfl ?_
          refine v_iconst (v := (nI 0)) dX4_reached_53 rfl ?_
          refine v_istore (lv' := [(0, .ref 60), (1, .int (nI r)), (2, .int (rcU T r j)), (3, .int (nI (r + 1 + j))), (4, .int (nI 1)), (5, .int (nI 0))]) dX4_reached_54 (Nat.le_of_ble_eq_true rfl) rfl ?_
          show V kX4_reached _ M 56 [(0, .ref 60), (1, .int (nI r)), (2, .int (rcU T r j)), (3, .int (nI (r + 1 + j))), (4, .int (bI (true = true))), (5, .int (nI 0))] []
          refine l_rc1 hM hW (n := r + 1 + j) (s := rcU T r j) (by omega) ?_ (hmF (so T (r + 1 + j))) 0 (by omega)
          refine v_iincN (lv' := [(0, .ref 60), (1, .int (nI r)), (2, .int (rcP T (r + 1 + j) (rcU T r j) (hmF (so T (r + 1 + j))))), (3, .int (nI (r + 1 + j + 1)))]) dX4_reached_104 rfl (Nat.le_of_ble_eq_true rfl) rfl ?_
          refine v_goto (tgt := 8) dX4_reached_107 (by decide) ?_
          have e : rcU T r (j + 1) = (rcP T (r + 1 + j) (rcU T r j) (hmF (so T (r + 1 + j)))) := by simp only [rcU, rcS]; exact if_pos (by simp [psB]; omega)
          rw [← e]
          exact ih (j + 1) (by omega)
set_option maxRecDepth 100000 in
theorem c_reached (hM : M 61 = T) (hW : WF T) {r : Nat} (hr : r < nN T) : V kX4_reached (rt (.int (rcF T r)) M) M 0 [(0, .ref 60), (1, .int (nI r))] [] := by
  have h16 := hW.n16
  refine v_iconst (v := (nI 1)) dX4_reached_0 rfl ?_
  refine v_iload_n dX4_reached_1 rfl ?_
  refine v_ishl dX4_reached_2 ?_
  refine v_istore_n (lv' := [(0, .ref 60), (1, .int (nI r)), (2, .int ((nI 1) <<< ((nI r) &&& 31)))]) dX4_reached_3 (Nat.le_of_ble_eq_true rfl) rfl ?_
  refine v_iload_n dX4_reached_4 rfl ?_
  refine v_iconst (v := (nI 1)) dX4_reached_5 rfl ?_
  refine v_iaddN dX4_reached_6 ?_
  refine v_istore_n (lv' := [(0, .ref 60), (1, .int (nI r)), (2, .int ((nI 1) <<< ((nI r) &&& 31))), (3, .int (nI (r + 1)))]) dX4_reached_7 (Nat.le_of_ble_eq_true rfl) rfl ?_
  exact l_rc hM hW hr (nN T - (r + 1)) 0 (by omega)
set_option maxRecDepth 100000 in
theorem l_mk (hM : M 61 = T) (hW : WF T) {a b : Nat} (ha : a < 16) (hb : b < 16) (d : Nat) : ∀ (k : Nat), k + d = nK T → V kX4_areMarked (rt (.int (bI (mkB T a b (nK T) = true))) M) M 5 [(0, .ref 60), (1, .int (nI a)), (2, .int (nI b)), (3, .int (bI (mkB T a b k = true))), (4, .int (nI k))] [] := by
  have h16 := hW.n16
  induction d with
  | zero =>
    intro k hk 
    refine v_iload dX4_areMarked_5 rfl ?_
    refine v_aload_n dX4_areMarked_7 rfl ?_
    refine v_getR (t := 61) dX4_areMarked_8 fl_X4_7 ⟨by decide, rfl, by decide⟩ rfl rfl ?_
    refine v_bipush (v := (nI 96)) dX4_areMarked_11 rfl ?_
    refine v_iald2 (n := 97) (a := 96) (y := (nI (nK T))) dX4_areMarked_13 ⟨by decide, rfl, rfl⟩ (rfl) (by omega) (by rw [hM]; exact hW.2.1.1) ?_
    refine v_icmpN_ge (tgt := 87) dX4_areMarked_14 (by decide) (by have := hW.2.1.2; omega) (by have := hW.2.1.2; omega) (fun c14 => ?_) (fun c14 => (by omega))
    refine v_iload_n dX4_areMarked_87 rfl ?_
    refine v_bret dX4_areMarked_88 rfl ?_
    refine ⟨?_, rfl⟩
    rw [show k = nK T by omega]
  | succ d ih =>
    intro k hk 
    refine v_iload dX4_areMarked_5 rfl ?_
    refine v_aload_n dX4_areMarked_7 rfl ?_
    refine v_getR (t := 61) dX4_areMarked_8 fl_X4_7 ⟨by decide, rfl, by decide⟩ rfl rfl ?_
    refine v_bipush (v := (nI 96)) dX4_areMarked_11 rfl ?_
    refine v_iald2 (n := 97) (a := 96) (y := (nI (nK T))) dX4_areMarked_13 ⟨by decide, rfl, rfl⟩ (rfl) (by omega) (by rw [hM]; exact hW.2.1.1) ?_
    refine v_icmpN_ge (tgt := 87) dX4_areMarked_14 (by decide) (by have := hW.2.1.2; omega) (by have := hW.2.1.2; omega) (fun c14 => (by omega)) (fun c14 => ?_)
    have hK6 := hW.2.1.2
    have hm0 := hW.2.2.2.2.2.1 (2 * k) (by omega)
    have hm1 := hW.2.2.2.2.2.1 (2 * k + 1) (by omega)
    refine v_aload_n dX4_areMarked_17 rfl ?_
    refine v_getR (t := 61) dX4_areMarked_18 fl_X4_7 ⟨by decide, rfl, by decide⟩ rfl rfl ?_
    refine v_bipush (v := (nI 80)) dX4_areMarked_21 rfl ?_
    refine v_iconst (v := (nI 2)) dX4_areMarked_23 rfl ?_
    refine v_iload dX4_areMarked_24 rfl ?_
    refine v_imulN dX4_areMarked_26 ?_
    refine v_iaddN dX4_areMarked_27 ?_
    refine v_iald2 (n := 97) (a := 80 + (2 * k)) (y := (nI (mk T (2 * k)))) dX4_areMarked_28 ⟨by decide, rfl, rfl⟩ (rfl) (by omega) (by rw [hM]; exact hm0.1) ?_
    refine v_istore (lv' := [(0, .ref 60), (1, .int (nI a)), (2, .int (nI b)), (3, .int (bI (mkB T a b k = true))), (4, .int (nI k)), (5, .int (nI (mk T (2 * k))))]) dX4_areMarked_29 (Nat.le_of_ble_eq_true rfl) rfl ?_
    refine v_aload_n dX4_areMarked_31 rfl ?_
    refine v_getR (t := 61) dX4_areMarked_32 fl_X4_7 ⟨by decide, rfl, by decide⟩ rfl rfl ?_
    refine v_bipush (v := (nI 80)) dX4_areMarked_35 rfl ?_
    refine v_iconst (v := (nI 2)) dX4_areMarked_37 rfl ?_
    refine v_iload dX4_areMarked_38 rfl ?_
    refine v_imulN dX4_areMarked_40 ?_
    refine v_iaddN dX4_areMarked_41 ?_
    refine v_iconst (v := (nI 1)) dX4_areMarked_42 rfl ?_
    refine v_iaddN dX4_areMarked_43 ?_
    refine v_iald2 (n := 97) (a := 80 + (2 * k + 1)) (y := (nI (mk T (2 * k + 1)))) dX4_areMarked_44 ⟨by decide, rfl, rfl⟩ (congrArg nI (by omega)) (by omega) (by rw [hM]; exact hm1.1) ?_
    refine v_istore (lv' := [(0, .ref 60), (1, .int (nI a)), (2, .int (nI b)), (3, .int (bI (mkB T a b k = true))), (4, .int (nI k)), (5, .int (nI (mk T (2 * k)))), (6, .int (nI (mk T (2 * k + 1))))]) dX4_areMarked_45 (Nat.le_of_ble_eq_true rfl) rfl ?_
    refine v_iload_n dX4_areMarked_47 rfl ?_
    refine v_ifB_ne (tgt := 75) dX4_areMarked_48 (by decide) (fun c48 => ?_) (fun c48 => ?_)
    · refine v_iconst (v := (nI 1)) dX4_areMarked_75 rfl ?_
      refine v_goto (tgt := 80) dX4_areMarked_76 (by decide) ?_
      refine v_top (y := (bI (mkB T a b (k + 1) = true))) ((bI_t (by first | (simp [mkB, c48]; done) | (simp [mkB, c48]; omega))).symm) ?_
      refine v_istore_n (lv' := [(0, .ref 60), (1, .int (nI a)), (2, .int (nI b)), (3, .int (bI (mkB T a b (k + 1) = true))), (4, .int (nI k)), (5, .int (nI (mk T (2 * k)))), (6, .int (nI (mk T (2 * k + 1))))]) dX4_areMarked_80 (Nat.le_of_ble_eq_true rfl) rfl ?_
      refine v_iincN (lv' := [(0, .ref 60), (1, .int (nI a)), (2, .int (nI b)), (3, .int (bI (mkB T a b (k + 1) = true))), (4, .int (nI (k + 1))), (5, .int (nI (mk T (2 * k)))), (6, .int (nI (mk T (2 * k + 1))))]) dX4_areMarked_81 rfl (Nat.le_of_ble_eq_true rfl) rfl ?_
      refine v_goto (tgt := 5) dX4_areMarked_84 (by decide) ?_
      refine v_sub (lv' := [(0, .ref 60), (1, .int (nI a)), (2, .int (nI b)), (3, .int (bI (mkB T a b (k + 1) = true))), (4, .int (nI (k + 1)))]) (by intro q hq; simp at hq; rcases hq with rfl | rfl | rfl | rfl | rfl <;> rfl) ?_
      exact ih (k + 1) (by omega)
    · refine v_iload dX4_areMarked_51 rfl ?_
      refine v_iload_n dX4_areMarked_53 rfl ?_
      refine v_icmpN_ne (tgt := 63) dX4_areMarked_54 (by decide) (by omega) (by omega) (fun c54 => ?_) (fun c54 => ?_)
      · refine v_iload dX4_areMarked_63 rfl ?_
        refine v_iload_n dX4_areMarked_65 rfl ?_
        refine v_icmpN_ne (tgt := 79) dX4_areMarked_66 (by decide) (by omega) (by omega) (fun c66 => ?_) (fun c66 => ?_)
        · refine v_iconst (v := (nI 0)) dX4_areMarked_79 rfl ?_
          refine v_top (y := (bI (mkB T a b (k + 1) = true))) ((bI_f (by simp [mkB, c48]; omega)).symm) ?_
          refine v_istore_n (lv' := [(0, .ref 60), (1, .int (nI a)), (2, .int (nI b)), (3, .int (bI (mkB T a b (k + 1) = true))), (4, .int (nI k)), (5, .int (nI (mk T (2 * k)))), (6, .int (nI (mk T (2 * k + 1))))]) dX4_areMarked_80 (Nat.le_of_ble_eq_true rfl) rfl ?_
          refine v_iincN (lv' := [(0, .ref 60), (1, .int (nI a)), (2, .int (nI b)), (3, .int (bI (mkB T a b (k + 1) = true))), (4, .int (nI (k + 1))), (5, .int (nI (mk T (2 * k)))), (6, .int (nI (mk T (2 * k + 1))))]) dX4_areMarked_81 rfl (Nat.le_of_ble_eq_true rfl) rfl ?_
          refine v_goto (tgt := 5) dX4_areMarked_84 (by decide) ?_
          refine v_sub (lv' := [(0, .ref 60), (1, .int (nI a)), (2, .int (nI b)), (3, .int (bI (mkB T a b (k + 1) = true))), (4, .int (nI (k + 1)))]) (by intro q hq; simp at hq; rcases hq with rfl | rfl | rfl | rfl | rfl <;> rfl) ?_
          exact ih (k + 1) (by omega)
        · refine v_iload dX4_areMarked_69 rfl ?_
          refine v_iload_n dX4_areMarked_71 rfl ?_
          refine v_icmpN_ne (tgt := 79) dX4_areMarked_72 (by decide) (by omega) (by omega) (fun c72 => ?_) (fun c72 => ?_)
          · refine v_iconst (v := (nI 0)) dX4_areMarked_79 rfl ?_
            refine v_top (y := (bI (mkB T a b (k + 1) = true))) ((bI_f (by simp [mkB, c48]; omega)).symm) ?_
            refine v_istore_n (lv' := [(0, .ref 60), (1, .int (nI a)), (2, .int (nI b)), (3, .int (bI (mkB T a b (k + 1) = true))), (4, .int (nI k)), (5, .int (nI (mk T (2 * k)))), (6, .int (nI (mk T (2 * k + 1))))]) dX4_areMarked_80 (Nat.le_of_ble_eq_true rfl) rfl ?_
            refine v_iincN (lv' := [(0, .ref 60), (1, .int (nI a)), (2, .int (nI b)), (3, .int (bI (mkB T a b (k + 1) = true))), (4, .int (nI (k + 1))), (5, .int (nI (mk T (2 * k)))), (6, .int (nI (mk T (2 * k + 1))))]) dX4_areMarked_81 rfl (Nat.le_of_ble_eq_true rfl) rfl ?_
            refine v_goto (tgt := 5) dX4_areMarked_84 (by decide) ?_
            refine v_sub (lv' := [(0, .ref 60), (1, .int (nI a)), (2, .int (nI b)), (3, .int (bI (mkB T a b (k + 1) = true))), (4, .int (nI (k + 1)))]) (by intro q hq; simp at hq; rcases hq with rfl | rfl | rfl | rfl | rfl <;> rfl) ?_
            exact ih (k + 1) (by omega)
          · refine v_iconst (v := (nI 1)) dX4_areMarked_75 rfl ?_
            refine v_goto (tgt := 80) dX4_areMarked_76 (by decide) ?_
            refine v_top (y := (bI (mkB T a b (k + 1) = true))) ((bI_t (by first | (simp [mkB, c48]; done) | (simp [mkB, c48]; omega))).symm) ?_
            refine v_istore_n (lv' := [(0, .ref 60), (1, .int (nI a)), (2, .int (nI b)), (3, .int (bI (mkB T a b (k + 1) = true))), (4, .int (nI k)), (5, .int (nI (mk T (2 * k)))), (6, .int (nI (mk T (2 * k + 1))))]) dX4_areMarked_80 (Nat.le_of_ble_eq_true rfl) rfl ?_
            refine v_iincN (lv' := [(0, .ref 60), (1, .int (nI a)), (2, .int (nI b)), (3, .int (bI (mkB T a b (k + 1) = true))), (4, .int (nI (k + 1))), (5, .int (nI (mk T (2 * k)))), (6, .int (nI (mk T (2 * k + 1))))]) dX4_areMarked_81 rfl (Nat.le_of_ble_eq_true rfl) rfl ?_
            refine v_goto (tgt := 5) dX4_areMarked_84 (by decide) ?_
            refine v_sub (lv' := [(0, .ref 60), (1, .int (nI a)), (2, .int (nI b)), (3, .int (bI (mkB T a b (k + 1) = true))), (4, .int (nI (k + 1)))]) (by intro q hq; simp at hq; rcases hq with rfl | rfl | rfl | rfl | rfl <;> rfl) ?_
            exact ih (k + 1) (by omega)
      · refine v_iload dX4_areMarked_57 rfl ?_
        refine v_iload_n dX4_areMarked_59 rfl ?_
        refine v_icmpN_eq (tgt := 75) dX4_areMarked_60 (by decide) (by omega) (by omega) (fun c60 => ?_) (fun c60 => ?_)
        · refine v_iconst (v := (nI 1)) dX4_areMarked_75 rfl ?_
          refine v_goto (tgt := 80) dX4_areMarked_76 (by decide) ?_
          refine v_top (y := (bI (mkB T a b (k + 1) = true))) ((bI_t (by first | (simp [mkB, c48]; done) | (simp [mkB, c48]; omega))).symm) ?_
          refine v_istore_n (lv' := [(0, .ref 60), (1, .int (nI a)), (2, .int (nI b)), (3, .int (bI (mkB T a b (k + 1) = true))), (4, .int (nI k)), (5, .int (nI (mk T (2 * k)))), (6, .int (nI (mk T (2 * k + 1))))]) dX4_areMarked_80 (Nat.le_of_ble_eq_true rfl) rfl ?_
          refine v_iincN (lv' := [(0, .ref 60), (1, .int (nI a)), (2, .int (nI b)), (3, .int (bI (mkB T a b (k + 1) = true))), (4, .int (nI (k + 1))), (5, .int (nI (mk T (2 * k)))), (6, .int (nI (mk T (2 * k + 1))))]) dX4_areMarked_81 rfl (Nat.le_of_ble_eq_true rfl) rfl ?_
          refine v_goto (tgt := 5) dX4_areMarked_84 (by decide) ?_
          refine v_sub (lv' := [(0, .ref 60), (1, .int (nI a)), (2, .int (nI b)), (3, .int (bI (mkB T a b (k + 1) = true))), (4, .int (nI (k + 1)))]) (by intro q hq; simp at hq; rcases hq with rfl | rfl | rfl | rfl | rfl <;> rfl) ?_
          exact ih (k + 1) (by omega)
        · refine v_iload dX4_areMarked_63 rfl ?_
          refine v_iload_n dX4_areMarked_65 rfl ?_
          refine v_icmpN_ne (tgt := 79) dX4_areMarked_66 (by decide) (by omega) (by omega) (fun c66 => ?_) (fun c66 => ?_)
          · refine v_iconst (v := (nI 0)) dX4_areMarked_79 rfl ?_
            refine v_top (y := (bI (mkB T a b (k + 1) = true))) ((bI_f (by simp [mkB, c48]; omega)).symm) ?_
            refine v_istore_n (lv' := [(0, .ref 60), (1, .int (nI a)), (2, .int (nI b)), (3, .int (bI (mkB T a b (k + 1) = true))), (4, .int (nI k)), (5, .int (nI (mk T (2 * k)))), (6, .int (nI (mk T (2 * k + 1))))]) dX4_areMarked_80 (Nat.le_of_ble_eq_true rfl) rfl ?_
            refine v_iincN (lv' := [(0, .ref 60), (1, .int (nI a)), (2, .int (nI b)), (3, .int (bI (mkB T a b (k + 1) = true))), (4, .int (nI (k + 1))), (5, .int (nI (mk T (2 * k)))), (6, .int (nI (mk T (2 * k + 1))))]) dX4_areMarked_81 rfl (Nat.le_of_ble_eq_true rfl) rfl ?_
            refine v_goto (tgt := 5) dX4_areMarked_84 (by decide) ?_
            refine v_sub (lv' := [(0, .ref 60), (1, .int (nI a)), (2, .int (nI b)), (3, .int (bI (mkB T a b (k + 1) = true))), (4, .int (nI (k + 1)))]) (by intro q hq; simp at hq; rcases hq with rfl | rfl | rfl | rfl | rfl <;> rfl) ?_
            exact ih (k + 1) (by omega)
          · refine v_iload dX4_areMarked_69 rfl ?_
            refine v_iload_n dX4_areMarked_71 rfl ?_
            refine v_icmpN_ne (tgt := 79) dX4_areMarked_72 (by decide) (by omega) (by omega) (fun c72 => ?_) (fun c72 => ?_)
            · refine v_iconst (v := (nI 0)) dX4_areMarked_79 rfl ?_
              refine v_top (y := (bI (mkB T a b (k + 1) = true))) ((bI_f (by simp [mkB, c48]; omega)).symm) ?_
              refine v_istore_n (lv' := [(0, .ref 60), (1, .int (nI a)), (2, .int (nI b)), (3, .int (bI (mkB T a b (k + 1) = true))), (4, .int (nI k)), (5, .int (nI (mk T (2 * k)))), (6, .int (nI (mk T (2 * k + 1))))]) dX4_areMarked_80 (Nat.le_of_ble_eq_true rfl) rfl ?_
              refine v_iincN (lv' := [(0, .ref 60), (1, .int (nI a)), (2, .int (nI b)), (3, .int (bI (mkB T a b (k + 1) = true))), (4, .int (nI (k + 1))), (5, .int (nI (mk T (2 * k)))), (6, .int (nI (mk T (2 * k + 1))))]) dX4_areMarked_81 rfl (Nat.le_of_ble_eq_true rfl) rfl ?_
              refine v_goto (tgt := 5) dX4_areMarked_84 (by decide) ?_
              refine v_sub (lv' := [(0, .ref 60), (1, .int (nI a)), (2, .int (nI b)), (3, .int (bI (mkB T a b (k + 1) = true))), (4, .int (nI (k + 1)))]) (by intro q hq; simp at hq; rcases hq with rfl | rfl | rfl | rfl | rfl <;> rfl) ?_
              exact ih (k + 1) (by omega)
            · refine v_iconst (v := (nI 1)) dX4_areMarked_75 rfl ?_
              refine v_goto (tgt := 80) dX4_areMarked_76 (by decide) ?_
              refine v_top (y := (bI (mkB T a b (k + 1) = true))) ((bI_t (by first | (simp [mkB, c48]; done) | (simp [mkB, c48]; omega))).symm) ?_
              refine v_istore_n (lv' := [(0, .ref 60), (1, .int (nI a)), (2, .int (nI b)), (3, .int (bI (mkB T a b (k + 1) = true))), (4, .int (nI k)), (5, .int (nI (mk T (2 * k)))), (6, .int (nI (mk T (2 * k + 1))))]) dX4_areMarked_80 (Nat.le_of_ble_eq_true rfl) rfl ?_
              refine v_iincN (lv' := [(0, .ref 60), (1, .int (nI a)), (2, .int (nI b)), (3, .int (bI (mkB T a b (k + 1) = true))), (4, .int (nI (k + 1))), (5, .int (nI (mk T (2 * k)))), (6, .int (nI (mk T (2 * k + 1))))]) dX4_areMarked_81 rfl (Nat.le_of_ble_eq_true rfl) rfl ?_
              refine v_goto (tgt := 5) dX4_areMarked_84 (by decide) ?_
              refine v_sub (lv' := [(0, .ref 60), (1, .int (nI a)), (2, .int (nI b)), (3, .int (bI (mkB T a b (k + 1) = true))), (4, .int (nI (k + 1)))]) (by intro q hq; simp at hq; rcases hq with rfl | rfl | rfl | rfl | rfl <;> rfl) ?_
              exact ih (k + 1) (by omega)
set_option maxRecDepth 100000 in
theorem c_areMarked (hM : M 61 = T) (hW : WF T) {a b : Nat} (ha : a < 16) (hb : b < 16) : V kX4_areMarked (rt (.int (bI (mkB T a b (nK T) = true))) M) M 0 [(0, .ref 60), (1, .int (nI a)), (2, .int (nI b))] [] := by
  have h16 := hW.n16
  refine v_iconst (v := (nI 0)) dX4_areMarked_0 rfl ?_
  refine v_istore_n (lv' := [(0, .ref 60), (1, .int (nI a)), (2, .int (nI b)), (3, .int (nI 0))]) dX4_areMarked_1 (Nat.le_of_ble_eq_true rfl) rfl ?_
  refine v_iconst (v := (nI 0)) dX4_areMarked_2 rfl ?_
  refine v_istore (lv' := [(0, .ref 60), (1, .int (nI a)), (2, .int (nI b)), (3, .int (nI 0)), (4, .int (nI 0))]) dX4_areMarked_3 (Nat.le_of_ble_eq_true rfl) rfl ?_
  show V kX4_areMarked _ M 5 [(0, .ref 60), (1, .int (nI a)), (2, .int (nI b)), (3, .int (bI (mkB T a b 0 = true))), (4, .int (nI 0))] []
  exact l_mk hM hW ha hb (nK T) 0 (by omega)
set_option maxRecDepth 100000 in
theorem c_areApart (hs : sc M0 M) (hM : M0 61 = T) (hW : WF T) {r q : Nat} (hr : r < nN T) (hq : q < nN T) (h1 : so T r = 1) (h2 : so T q = 1) : V kX4_areApart (rs (.int (bI (apF T r q = true))) M0) M 0 [(0, .ref 60), (1, .int (nI r)), (2, .int (nI q))] [] := by
  have h16 := hW.n16
  have hm1 := hm_reg h1
  have hp1 := hW.ptlt hr (show 0 < hmF (so T r) by omega)
  have hm2 := hm_reg h2
  have hp2 := hW.ptlt hq (show 0 < hmF (so T q) by omega)
  refine v_aload_n dX4_areApart_0 rfl ?_
  refine v_iload_n dX4_areApart_1 rfl ?_
  refine v_iconst (v := (nI 0)) dX4_areApart_2 rfl ?_
  refine v_callVr (x := .int (nI (pt T r 0))) (M1 := M) (as := [.int (nI r), .int (nI 0)]) (st := []) dX4_areApart_3 ml_X4_71 kv_X4_of ⟨by decide, rfl, by decide⟩ ⟨(Nat.le_of_ble_eq_true rfl), (Nat.le_of_ble_eq_true rfl)⟩ rfl (Nat.le_of_ble_eq_true rfl) rfl (Nat.le_of_ble_eq_true rfl) (c_of (scT hs hM) hW (by omega) (by omega)) ?_
  refine v_istore_n (lv' := [(0, .ref 60), (1, .int (nI r)), (2, .int (nI q)), (3, .int (nI (pt T r 0)))]) dX4_areApart_6 (Nat.le_of_ble_eq_true rfl) rfl ?_
  refine v_aload_n dX4_areApart_7 rfl ?_
  refine v_iload_n dX4_areApart_8 rfl ?_
  refine v_iconst (v := (nI 0)) dX4_areApart_9 rfl ?_
  refine v_callVr (x := .int (nI (pt T q 0))) (M1 := M) (as := [.int (nI q), .int (nI 0)]) (st := []) dX4_areApart_10 ml_X4_71 kv_X4_of ⟨by decide, rfl, by decide⟩ ⟨(Nat.le_of_ble_eq_true rfl), (Nat.le_of_ble_eq_true rfl)⟩ rfl (Nat.le_of_ble_eq_true rfl) rfl (Nat.le_of_ble_eq_true rfl) (c_of (scT hs hM) hW (by omega) (by omega)) ?_
  refine v_istore (lv' := [(0, .ref 60), (1, .int (nI r)), (2, .int (nI q)), (3, .int (nI (pt T r 0))), (4, .int (nI (pt T q 0)))]) dX4_areApart_13 (Nat.le_of_ble_eq_true rfl) rfl ?_
  refine v_aload_n dX4_areApart_15 rfl ?_
  refine v_iload_n dX4_areApart_16 rfl ?_
  refine v_callVr (x := .int (nI (ck T r))) (M1 := M) (as := [.int (nI r)]) (st := []) dX4_areApart_17 ml_X4_88 kv_X4_clock ⟨by decide, rfl, by decide⟩ ⟨(Nat.le_of_ble_eq_true rfl), (Nat.le_of_ble_eq_true rfl)⟩ rfl (Nat.le_of_ble_eq_true rfl) rfl (Nat.le_of_ble_eq_true rfl) (c_clock (scT hs hM) hW (by omega)) ?_
  refine v_aload_n dX4_areApart_20 rfl ?_
  refine v_iload_n dX4_areApart_21 rfl ?_
  refine v_callVr (x := .int (nI (ck T q))) (M1 := M) (as := [.int (nI q)]) (st := [.int (nI (ck T r))]) dX4_areApart_22 ml_X4_88 kv_X4_clock ⟨by decide, rfl, by decide⟩ ⟨(Nat.le_of_ble_eq_true rfl), (Nat.le_of_ble_eq_true rfl)⟩ rfl (Nat.le_of_ble_eq_true rfl) rfl (Nat.le_of_ble_eq_true rfl) (c_clock (scT hs hM) hW (by omega)) ?_
  refine v_icmpN_ne (tgt := 78) dX4_areApart_25 (by decide) (by have := hW.ck2 hr; omega) (by have := hW.ck2 hq; omega) (fun c25 => ?_) (fun c25 => ?_)
  · refine v_iconst (v := (nI 0)) dX4_areApart_78 rfl ?_
    refine v_zret dX4_areApart_79 rfl (Or.inl rfl) ?_
    refine ⟨?_, hs⟩
    rw [bI_f (by simp [apF, *])]; rfl
  · refine v_aload_n dX4_areApart_28 rfl ?_
    refine v_iload_n dX4_areApart_29 rfl ?_
    refine v_callV (as := [.int (nI r)]) (st := []) dX4_areApart_30 ml_X4_100 kv_X4_isDirect ⟨by decide, rfl, by decide⟩ ⟨(Nat.le_of_ble_eq_true rfl), (Nat.le_of_ble_eq_true rfl)⟩ rfl (Nat.le_of_ble_eq_true rfl) rfl (Nat.le_of_ble_eq_true rfl) (c_isDirect hs hM hW (by omega) (by assumption)) (fun v M hq => ?_)
    obtain ⟨rfl, hs⟩ := hq
    refine v_ifB_eq (tgt := 78) dX4_areApart_33 (by decide) (fun c33 => ?_) (fun c33 => ?_)
    · refine v_iconst (v := (nI 0)) dX4_areApart_78 rfl ?_
      refine v_zret dX4_areApart_79 rfl (Or.inl rfl) ?_
      refine ⟨?_, hs⟩
      rw [bI_f (by simp [apF, *])]; rfl
    · refine v_aload_n dX4_areApart_36 rfl ?_
      refine v_iload_n dX4_areApart_37 rfl ?_
      refine v_callV (as := [.int (nI q)]) (st := []) dX4_areApart_38 ml_X4_100 kv_X4_isDirect ⟨by decide, rfl, by decide⟩ ⟨(Nat.le_of_ble_eq_true rfl), (Nat.le_of_ble_eq_true rfl)⟩ rfl (Nat.le_of_ble_eq_true rfl) rfl (Nat.le_of_ble_eq_true rfl) (c_isDirect hs hM hW (by omega) (by assumption)) (fun v M hq => ?_)
      obtain ⟨rfl, hs⟩ := hq
      refine v_ifB_eq (tgt := 78) dX4_areApart_41 (by decide) (fun c41 => ?_) (fun c41 => ?_)
      · refine v_iconst (v := (nI 0)) dX4_areApart_78 rfl ?_
        refine v_zret dX4_areApart_79 rfl (Or.inl rfl) ?_
        refine ⟨?_, hs⟩
        rw [bI_f (by simp [apF, *])]; rfl
      · refine v_iload_n dX4_areApart_44 rfl ?_
        refine v_iload dX4_areApart_45 rfl ?_
        refine v_icmpN_eq (tgt := 78) dX4_areApart_47 (by decide) (by omega) (by omega) (fun c47 => ?_) (fun c47 => ?_)
        · refine v_iconst (v := (nI 0)) dX4_areApart_78 rfl ?_
          refine v_zret dX4_areApart_79 rfl (Or.inl rfl) ?_
          refine ⟨?_, hs⟩
          rw [bI_f (by simp [apF, *])]; rfl
        · refine v_aload_n dX4_areApart_50 rfl ?_
          refine v_iload_n dX4_areApart_51 rfl ?_
          refine v_callVr (x := .int (nI (ck T (pt T r 0)))) (M1 := M) (as := [.int (nI (pt T r 0))]) (st := []) dX4_areApart_52 ml_X4_88 kv_X4_clock ⟨by decide, rfl, by decide⟩ ⟨(Nat.le_of_ble_eq_true rfl), (Nat.le_of_ble_eq_true rfl)⟩ rfl (Nat.le_of_ble_eq_true rfl) rfl (Nat.le_of_ble_eq_true rfl) (c_clock (scT hs hM) hW (by omega)) ?_
          refine v_aload_n dX4_areApart_55 rfl ?_
          refine v_iload dX4_areApart_56 rfl ?_
          refine v_callVr (x := .int (nI (ck T (pt T q 0)))) (M1 := M) (as := [.int (nI (pt T q 0))]) (st := [.int (nI (ck T (pt T r 0)))]) dX4_areApart_58 ml_X4_88 kv_X4_clock ⟨by decide, rfl, by decide⟩ ⟨(Nat.le_of_ble_eq_true rfl), (Nat.le_of_ble_eq_true rfl)⟩ rfl (Nat.le_of_ble_eq_true rfl) rfl (Nat.le_of_ble_eq_true rfl) (c_clock (scT hs hM) hW (by omega)) ?_
          refine v_icmpN_ne (tgt := 78) dX4_areApart_61 (by decide) (by have := hW.ck2 (n := pt T r 0) (by omega); omega) (by have := hW.ck2 (n := pt T q 0) (by omega); omega) (fun c61 => ?_) (fun c61 => ?_)
          · refine v_iconst (v := (nI 0)) dX4_areApart_78 rfl ?_
            refine v_zret dX4_areApart_79 rfl (Or.inl rfl) ?_
            refine ⟨?_, hs⟩
            rw [bI_f (by simp [apF, *])]; rfl
          · refine v_aload_n dX4_areApart_64 rfl ?_
            refine v_iload_n dX4_areApart_65 rfl ?_
            refine v_iload dX4_areApart_66 rfl ?_
            refine v_callVr (x := .int (bI (mkB T (pt T r 0) (pt T q 0) (nK T) = true))) (M1 := M) (as := [.int (nI (pt T r 0)), .int (nI (pt T q 0))]) (st := []) dX4_areApart_68 ml_X4_121 kv_X4_areMarked ⟨by decide, rfl, by decide⟩ ⟨(Nat.le_of_ble_eq_true rfl), (Nat.le_of_ble_eq_true rfl)⟩ rfl (Nat.le_of_ble_eq_true rfl) rfl (Nat.le_of_ble_eq_true rfl) (c_areMarked (scT hs hM) hW (by omega) (by omega)) ?_
            refine v_ifB_ne (tgt := 78) dX4_areApart_71 (by decide) (fun c71 => ?_) (fun c71 => ?_)
            · refine v_iconst (v := (nI 0)) dX4_areApart_78 rfl ?_
              refine v_zret dX4_areApart_79 rfl (Or.inl rfl) ?_
              refine ⟨?_, hs⟩
              rw [bI_f (by simp [apF, *])]; rfl
            · refine v_iconst (v := (nI 1)) dX4_areApart_74 rfl ?_
              refine v_goto (tgt := 79) dX4_areApart_75 (by decide) ?_
              refine v_zret dX4_areApart_79 rfl (Or.inr rfl) ?_
              refine ⟨?_, hs⟩
              rw [bI_t (by simp [apF, *])]; rfl
end R17
