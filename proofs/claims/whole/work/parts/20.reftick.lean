section R20
variable {M M0 : vM} {T : Nat → Int32}
set_option maxRecDepth 100000 in
theorem c_and (a b : Int32) : V kX4_and (rt (.int (anF a b)) M) M 0 [(0, .int a), (1, .int b)] [] := by
  refine v_iload_n dX4_and_0 rfl ?_
  refine v_if_eq (tgt := 8) dX4_and_1 (by decide) (fun c1 => ?_) (fun c1 => ?_)
  · refine v_iconst (v := (nI 0)) dX4_and_8 rfl ?_
    refine v_goto (tgt := 27) dX4_and_9 (by decide) ?_
    refine v_iret dX4_and_27 rfl ?_
    refine ⟨?_, rfl⟩
    simp [anF, show ¬ nI 2 = 0 by decide, show ¬ nI 1 = 0 by decide, *]
  · refine v_iload_n dX4_and_4 rfl ?_
    refine v_if_ne (tgt := 12) dX4_and_5 (by decide) (fun c5 => ?_) (fun c5 => ?_)
    · refine v_iload_n dX4_and_12 rfl ?_
      refine v_iconst (v := (nI 2)) dX4_and_13 rfl ?_
      refine v_icmp_eq (tgt := 22) dX4_and_14 (by decide) (fun c14 => ?_) (fun c14 => ?_)
      · refine v_iconst (v := (nI 2)) dX4_and_22 rfl ?_
        refine v_goto (tgt := 27) dX4_and_23 (by decide) ?_
        refine v_iret dX4_and_27 rfl ?_
        refine ⟨?_, rfl⟩
        simp [anF, show ¬ nI 2 = 0 by decide, show ¬ nI 1 = 0 by decide, *]
      · refine v_iload_n dX4_and_17 rfl ?_
        refine v_iconst (v := (nI 2)) dX4_and_18 rfl ?_
        refine v_icmp_ne (tgt := 26) dX4_and_19 (by decide) (fun c19 => ?_) (fun c19 => ?_)
        · refine v_iconst (v := (nI 1)) dX4_and_26 rfl ?_
          refine v_iret dX4_and_27 rfl ?_
          refine ⟨?_, rfl⟩
          simp [anF, show ¬ nI 2 = 0 by decide, show ¬ nI 1 = 0 by decide, *]
        · refine v_iconst (v := (nI 2)) dX4_and_22 rfl ?_
          refine v_goto (tgt := 27) dX4_and_23 (by decide) ?_
          refine v_iret dX4_and_27 rfl ?_
          refine ⟨?_, rfl⟩
          simp [anF, show ¬ nI 2 = 0 by decide, show ¬ nI 1 = 0 by decide, *]
    · refine v_iconst (v := (nI 0)) dX4_and_8 rfl ?_
      refine v_goto (tgt := 27) dX4_and_9 (by decide) ?_
      refine v_iret dX4_and_27 rfl ?_
      refine ⟨?_, rfl⟩
      simp [anF, show ¬ nI 2 = 0 by decide, show ¬ nI 1 = 0 by decide, *]
set_option maxRecDepth 100000 in
theorem c_or (a b : Int32) : V kX4_or (rt (.int (orF a b)) M) M 0 [(0, .int a), (1, .int b)] [] := by
  refine v_iload_n dX4_or_0 rfl ?_
  refine v_iconst (v := (nI 1)) dX4_or_1 rfl ?_
  refine v_icmp_eq (tgt := 10) dX4_or_2 (by decide) (fun c2 => ?_) (fun c2 => ?_)
  · refine v_iconst (v := (nI 1)) dX4_or_10 rfl ?_
    refine v_goto (tgt := 29) dX4_or_11 (by decide) ?_
    refine v_iret dX4_or_29 rfl ?_
    refine ⟨?_, rfl⟩
    simp [orF, show ¬ nI 2 = 0 by decide, show ¬ nI 1 = 0 by decide, *]
  · refine v_iload_n dX4_or_5 rfl ?_
    refine v_iconst (v := (nI 1)) dX4_or_6 rfl ?_
    refine v_icmp_ne (tgt := 14) dX4_or_7 (by decide) (fun c7 => ?_) (fun c7 => ?_)
    · refine v_iload_n dX4_or_14 rfl ?_
      refine v_iconst (v := (nI 2)) dX4_or_15 rfl ?_
      refine v_icmp_eq (tgt := 24) dX4_or_16 (by decide) (fun c16 => ?_) (fun c16 => ?_)
      · refine v_iconst (v := (nI 2)) dX4_or_24 rfl ?_
        refine v_goto (tgt := 29) dX4_or_25 (by decide) ?_
        refine v_iret dX4_or_29 rfl ?_
        refine ⟨?_, rfl⟩
        simp [orF, show ¬ nI 2 = 0 by decide, show ¬ nI 1 = 0 by decide, *]
      · refine v_iload_n dX4_or_19 rfl ?_
        refine v_iconst (v := (nI 2)) dX4_or_20 rfl ?_
        refine v_icmp_ne (tgt := 28) dX4_or_21 (by decide) (fun c21 => ?_) (fun c21 => ?_)
        · refine v_iconst (v := (nI 0)) dX4_or_28 rfl ?_
          refine v_iret dX4_or_29 rfl ?_
          refine ⟨?_, rfl⟩
          simp [orF, show ¬ nI 2 = 0 by decide, show ¬ nI 1 = 0 by decide, *]
        · refine v_iconst (v := (nI 2)) dX4_or_24 rfl ?_
          refine v_goto (tgt := 29) dX4_or_25 (by decide) ?_
          refine v_iret dX4_or_29 rfl ?_
          refine ⟨?_, rfl⟩
          simp [orF, show ¬ nI 2 = 0 by decide, show ¬ nI 1 = 0 by decide, *]
    · refine v_iconst (v := (nI 1)) dX4_or_10 rfl ?_
      refine v_goto (tgt := 29) dX4_or_11 (by decide) ?_
      refine v_iret dX4_or_29 rfl ?_
      refine ⟨?_, rfl⟩
      simp [orF, show ¬ nI 2 = 0 by decide, show ¬ nI 1 = 0 by decide, *]
set_option maxRecDepth 100000 in
theorem c_xor (a b : Int32) : V kX4_xor (rt (.int (xoF a b)) M) M 0 [(0, .int a), (1, .int b)] [] := by
  refine v_iload_n dX4_xor_0 rfl ?_
  refine v_iconst (v := (nI 2)) dX4_xor_1 rfl ?_
  refine v_icmp_eq (tgt := 10) dX4_xor_2 (by decide) (fun c2 => ?_) (fun c2 => ?_)
  · refine v_iconst (v := (nI 2)) dX4_xor_10 rfl ?_
    refine v_goto (tgt := 17) dX4_xor_11 (by decide) ?_
    refine v_iret dX4_xor_17 rfl ?_
    refine ⟨?_, rfl⟩
    simp [xoF, show ¬ nI 2 = 0 by decide, show ¬ nI 1 = 0 by decide, *]
  · refine v_iload_n dX4_xor_5 rfl ?_
    refine v_iconst (v := (nI 2)) dX4_xor_6 rfl ?_
    refine v_icmp_ne (tgt := 14) dX4_xor_7 (by decide) (fun c7 => ?_) (fun c7 => ?_)
    · refine v_iload_n dX4_xor_14 rfl ?_
      refine v_iload_n dX4_xor_15 rfl ?_
      refine v_ixor dX4_xor_16 ?_
      refine v_iret dX4_xor_17 rfl ?_
      refine ⟨?_, rfl⟩
      simp [xoF, show ¬ nI 2 = 0 by decide, show ¬ nI 1 = 0 by decide, *]
    · refine v_iconst (v := (nI 2)) dX4_xor_10 rfl ?_
      refine v_goto (tgt := 17) dX4_xor_11 (by decide) ?_
      refine v_iret dX4_xor_17 rfl ?_
      refine ⟨?_, rfl⟩
      simp [xoF, show ¬ nI 2 = 0 by decide, show ¬ nI 1 = 0 by decide, *]
set_option maxRecDepth 100000 in
theorem c_choose (s a b : Int32) : V kX4_choose (rt (.int (chF s a b)) M) M 0 [(0, .int s), (1, .int a), (2, .int b)] [] := by
  refine v_iload_n dX4_choose_0 rfl ?_
  refine v_if_ne (tgt := 8) dX4_choose_1 (by decide) (fun c1 => ?_) (fun c1 => ?_)
  · refine v_iload_n dX4_choose_8 rfl ?_
    refine v_iconst (v := (nI 1)) dX4_choose_9 rfl ?_
    refine v_icmp_ne (tgt := 17) dX4_choose_10 (by decide) (fun c10 => ?_) (fun c10 => ?_)
    · refine v_iload_n dX4_choose_17 rfl ?_
      refine v_iload_n dX4_choose_18 rfl ?_
      refine v_icmp_ne (tgt := 26) dX4_choose_19 (by decide) (fun c19 => ?_) (fun c19 => ?_)
      · refine v_iconst (v := (nI 2)) dX4_choose_26 rfl ?_
        refine v_iret dX4_choose_27 rfl ?_
        refine ⟨?_, rfl⟩
        simp [chF, show ¬ nI 1 = 0 by decide, *]
      · refine v_iload_n dX4_choose_22 rfl ?_
        refine v_goto (tgt := 27) dX4_choose_23 (by decide) ?_
        refine v_iret dX4_choose_27 rfl ?_
        refine ⟨?_, rfl⟩
        simp [chF, show ¬ nI 1 = 0 by decide, *]
    · refine v_iload_n dX4_choose_13 rfl ?_
      refine v_goto (tgt := 27) dX4_choose_14 (by decide) ?_
      refine v_iret dX4_choose_27 rfl ?_
      refine ⟨?_, rfl⟩
      simp [chF, show ¬ nI 1 = 0 by decide, *]
  · refine v_iload_n dX4_choose_4 rfl ?_
    refine v_goto (tgt := 27) dX4_choose_5 (by decide) ?_
    refine v_iret dX4_choose_27 rfl ?_
    refine ⟨?_, rfl⟩
    simp [chF, show ¬ nI 1 = 0 by decide, *]
set_option maxRecDepth 100000 in
theorem c_gate (hM : M 61 = T) (hW : WF T) {f : Nat → Int32} {n : Nat} (hn : n < nN T) (hl : ¬ so T n ≤ 1) (hf : ∀ j, j < n → M 69 j = f j) : V kX4_gate (rt (.int (gtF T f n)) M) M 0 [(0, .ref 60), (1, .int (nI n))] [] := by
  have h16 := hW.n16
  have hm2 := hm_gate hl
  have p0 := hW.ptlt hn (show 0 < hmF (so T n) by omega)
  have p1 := hW.ptlt hn (show 1 < hmF (so T n) by omega)
  have h5 := hW.so5 hn
  refine v_aload_n dX4_gate_0 rfl ?_
  refine v_getR (t := 69) dX4_gate_1 fl_X4_35 ⟨by decide, rfl, by decide⟩ rfl rfl ?_
  refine v_aload_n dX4_gate_4 rfl ?_
  refine v_iload_n dX4_gate_5 rfl ?_
  refine v_iconst (v := (nI 0)) dX4_gate_6 rfl ?_
  refine v_callVr (x := .int (nI (pt T n 0))) (M1 := M) (as := [.int (nI n), .int (nI 0)]) (st := [.ref 69]) dX4_gate_7 ml_X4_71 kv_X4_of ⟨by decide, rfl, by decide⟩ ⟨(Nat.le_of_ble_eq_true rfl), (Nat.le_of_ble_eq_true rfl)⟩ rfl (Nat.le_of_ble_eq_true rfl) rfl (Nat.le_of_ble_eq_true rfl) (c_of hM hW (by omega) (by omega)) ?_
  refine v_iald2 (n := 16) (a := pt T n 0) (y := (f (pt T n 0))) dX4_gate_10 ⟨by decide, rfl, rfl⟩ (rfl) (by omega) (hf _ p0) ?_
  refine v_istore_n (lv' := [(0, .ref 60), (1, .int (nI n)), (2, .int (f (pt T n 0)))]) dX4_gate_11 (Nat.le_of_ble_eq_true rfl) rfl ?_
  refine v_aload_n dX4_gate_12 rfl ?_
  refine v_getR (t := 69) dX4_gate_13 fl_X4_35 ⟨by decide, rfl, by decide⟩ rfl rfl ?_
  refine v_aload_n dX4_gate_16 rfl ?_
  refine v_iload_n dX4_gate_17 rfl ?_
  refine v_iconst (v := (nI 1)) dX4_gate_18 rfl ?_
  refine v_callVr (x := .int (nI (pt T n 1))) (M1 := M) (as := [.int (nI n), .int (nI 1)]) (st := [.ref 69]) dX4_gate_19 ml_X4_71 kv_X4_of ⟨by decide, rfl, by decide⟩ ⟨(Nat.le_of_ble_eq_true rfl), (Nat.le_of_ble_eq_true rfl)⟩ rfl (Nat.le_of_ble_eq_true rfl) rfl (Nat.le_of_ble_eq_true rfl) (c_of hM hW (by omega) (by omega)) ?_
  refine v_iald2 (n := 16) (a := pt T n 1) (y := (f (pt T n 1))) dX4_gate_22 ⟨by decide, rfl, rfl⟩ (rfl) (by omega) (hf _ p1) ?_
  refine v_istore_n (lv' := [(0, .ref 60), (1, .int (nI n)), (2, .int (f (pt T n 0))), (3, .int (f (pt T n 1)))]) dX4_gate_23 (Nat.le_of_ble_eq_true rfl) rfl ?_
  refine v_aload_n dX4_gate_24 rfl ?_
  refine v_iload_n dX4_gate_25 rfl ?_
  refine v_callVr (x := .int (nI (so T n))) (M1 := M) (as := [.int (nI n)]) (st := []) dX4_gate_26 ml_X4_64 kv_X4_sort ⟨by decide, rfl, by decide⟩ ⟨(Nat.le_of_ble_eq_true rfl), (Nat.le_of_ble_eq_true rfl)⟩ rfl (Nat.le_of_ble_eq_true rfl) rfl (Nat.le_of_ble_eq_true rfl) (c_sort hM hW (by omega)) ?_
  rcases (show so T n = 2 ∨ so T n = 3 ∨ so T n = 4 ∨ so T n = 5 by omega) with c9 | c9 | c9 | c9
  · refine v_tabIn (tgt := 56) (off := 27) dX4_gate_29 (by rw [c9]; decide) (by rw [c9]; decide) (by rw [c9]; decide) (by decide) ?_
    refine v_iload_n dX4_gate_56 rfl ?_
    refine v_iload_n dX4_gate_57 rfl ?_
    refine v_callSr (x := .int (anF ((f (pt T n 0))) ((f (pt T n 1))))) (M1 := M) (as := [.int (f (pt T n 0)), .int (f (pt T n 1))]) (st := []) dX4_gate_58 ml_X4_133 ks_X4_and ⟨(Nat.le_of_ble_eq_true rfl), (Nat.le_of_ble_eq_true rfl)⟩ rfl (Nat.le_of_ble_eq_true rfl) rfl (Nat.le_of_ble_eq_true rfl) (c_and _ _) ?_
    refine v_iret dX4_gate_61 rfl ?_
    refine ⟨?_, rfl⟩
    simp [gtF, c9]
  · refine v_tabIn (tgt := 62) (off := 33) dX4_gate_29 (by rw [c9]; decide) (by rw [c9]; decide) (by rw [c9]; decide) (by decide) ?_
    refine v_iload_n dX4_gate_62 rfl ?_
    refine v_iload_n dX4_gate_63 rfl ?_
    refine v_callSr (x := .int (orF ((f (pt T n 0))) ((f (pt T n 1))))) (M1 := M) (as := [.int (f (pt T n 0)), .int (f (pt T n 1))]) (st := []) dX4_gate_64 ml_X4_136 ks_X4_or ⟨(Nat.le_of_ble_eq_true rfl), (Nat.le_of_ble_eq_true rfl)⟩ rfl (Nat.le_of_ble_eq_true rfl) rfl (Nat.le_of_ble_eq_true rfl) (c_or _ _) ?_
    refine v_iret dX4_gate_67 rfl ?_
    refine ⟨?_, rfl⟩
    simp [gtF, c9]
  · refine v_tabIn (tgt := 68) (off := 39) dX4_gate_29 (by rw [c9]; decide) (by rw [c9]; decide) (by rw [c9]; decide) (by decide) ?_
    refine v_iload_n dX4_gate_68 rfl ?_
    refine v_iload_n dX4_gate_69 rfl ?_
    refine v_callSr (x := .int (xoF ((f (pt T n 0))) ((f (pt T n 1))))) (M1 := M) (as := [.int (f (pt T n 0)), .int (f (pt T n 1))]) (st := []) dX4_gate_70 ml_X4_139 ks_X4_xor ⟨(Nat.le_of_ble_eq_true rfl), (Nat.le_of_ble_eq_true rfl)⟩ rfl (Nat.le_of_ble_eq_true rfl) rfl (Nat.le_of_ble_eq_true rfl) (c_xor _ _) ?_
    refine v_iret dX4_gate_73 rfl ?_
    refine ⟨?_, rfl⟩
    simp [gtF, c9]
  · refine v_tabOut (tgt := 74) dX4_gate_29 (by rw [c9]; decide) (by decide) ?_
    refine v_iload_n dX4_gate_74 rfl ?_
    refine v_iload_n dX4_gate_75 rfl ?_
    refine v_aload_n dX4_gate_76 rfl ?_
    refine v_getR (t := 69) dX4_gate_77 fl_X4_35 ⟨by decide, rfl, by decide⟩ rfl rfl ?_
    refine v_aload_n dX4_gate_80 rfl ?_
    refine v_iload_n dX4_gate_81 rfl ?_
    refine v_iconst (v := (nI 2)) dX4_gate_82 rfl ?_
    have hm3 := hm_ch (show so T n = 5 by omega)
    have p2 := hW.ptlt hn (show 2 < hmF (so T n) by omega)
    refine v_callVr (x := .int (nI (pt T n 2))) (M1 := M) (as := [.int (nI n), .int (nI 2)]) (st := [.ref 69, .int (f (pt T n 1)), .int (f (pt T n 0))]) dX4_gate_83 ml_X4_71 kv_X4_of ⟨by decide, rfl, by decide⟩ ⟨(Nat.le_of_ble_eq_true rfl), (Nat.le_of_ble_eq_true rfl)⟩ rfl (Nat.le_of_ble_eq_true rfl) rfl (Nat.le_of_ble_eq_true rfl) (c_of hM hW (by omega) (by omega)) ?_
    refine v_iald2 (n := 16) (a := pt T n 2) (y := (f (pt T n 2))) dX4_gate_86 ⟨by decide, rfl, rfl⟩ (rfl) (by omega) (hf _ p2) ?_
    refine v_callSr (x := .int (chF ((f (pt T n 0))) ((f (pt T n 1))) ((f (pt T n 2))))) (M1 := M) (as := [.int (f (pt T n 0)), .int (f (pt T n 1)), .int (f (pt T n 2))]) (st := []) dX4_gate_87 ml_X4_142 ks_X4_choose ⟨(Nat.le_of_ble_eq_true rfl), (Nat.le_of_ble_eq_true rfl)⟩ rfl (Nat.le_of_ble_eq_true rfl) rfl (Nat.le_of_ble_eq_true rfl) (c_choose _ _ _) ?_
    refine v_iret dX4_gate_90 rfl ?_
    refine ⟨?_, rfl⟩
    simp [gtF, c9]
set_option maxRecDepth 100000 in
theorem l_findV (hM : M0 61 = T) (hW : WF T) {q : Nat} {R : Nat → Int32} (hq : q = 63 ∨ q = 64) (hR : M0 q = R) (d : Nat) : ∀ (n : Nat) (M : vM), n + d = nN T → (∀ i, i ≠ 69 → M i = M0 i) → (∀ j, j < n → M 69 j = vlF T R j) → V kX4_findValues (fun v M1 => v = none ∧ (∀ i, i ≠ 69 → M1 i = M0 i) ∧ ∀ j, j < nN T → M1 69 j = vlF T R j) M 2 [(0, .ref 60), (1, .ref q), (2, .int (nI n))] [] := by
  have h16 := hW.n16
  induction d with
  | zero =>
    intro n M hk hs hj
    refine v_iload_n dX4_findValues_2 rfl ?_
    refine v_aload_n dX4_findValues_3 rfl ?_
    refine v_callVr (x := .int (nI (nN T))) (M1 := M) (as := []) (st := [.int (nI n)]) dX4_findValues_4 ml_X4_52 kv_X4_many ⟨by decide, rfl, by decide⟩ ⟨(Nat.le_of_ble_eq_true rfl), (Nat.le_of_ble_eq_true rfl)⟩ rfl (Nat.le_of_ble_eq_true rfl) rfl (Nat.le_of_ble_eq_true rfl) (c_many ((hs 61 (by decide)).trans hM) hW) ?_
    refine v_icmpN_ge (tgt := 43) dX4_findValues_7 (by decide) (by omega) (by omega) (fun c7 => ?_) (fun c7 => (by omega))
    refine v_vret dX4_findValues_43 rfl ?_
    exact ⟨rfl, hs, fun j h9 => hj j (by omega)⟩
  | succ d ih =>
    intro n M hk hs hj
    refine v_iload_n dX4_findValues_2 rfl ?_
    refine v_aload_n dX4_findValues_3 rfl ?_
    refine v_callVr (x := .int (nI (nN T))) (M1 := M) (as := []) (st := [.int (nI n)]) dX4_findValues_4 ml_X4_52 kv_X4_many ⟨by decide, rfl, by decide⟩ ⟨(Nat.le_of_ble_eq_true rfl), (Nat.le_of_ble_eq_true rfl)⟩ rfl (Nat.le_of_ble_eq_true rfl) rfl (Nat.le_of_ble_eq_true rfl) (c_many ((hs 61 (by decide)).trans hM) hW) ?_
    refine v_icmpN_ge (tgt := 43) dX4_findValues_7 (by decide) (by omega) (by omega) (fun c7 => (by omega)) (fun c7 => ?_)
    refine v_aload_n dX4_findValues_10 rfl ?_
    refine v_getR (t := 69) dX4_findValues_11 fl_X4_35 ⟨by decide, rfl, by decide⟩ rfl rfl ?_
    refine v_iload_n dX4_findValues_14 rfl ?_
    refine v_aload_n dX4_findValues_15 rfl ?_
    refine v_iload_n dX4_findValues_16 rfl ?_
    refine v_callVr (x := .int (bI (so T n ≤ 1))) (M1 := M) (as := [.int (nI n)]) (st := [.int (nI n), .ref 69]) dX4_findValues_17 ml_X4_75 kv_X4_isLeaf ⟨by decide, rfl, by decide⟩ ⟨(Nat.le_of_ble_eq_true rfl), (Nat.le_of_ble_eq_true rfl)⟩ rfl (Nat.le_of_ble_eq_true rfl) rfl (Nat.le_of_ble_eq_true rfl) (c_isLeaf ((hs 61 (by decide)).trans hM) hW (by omega)) ?_
    refine v_ifB_eq (tgt := 31) dX4_findValues_20 (by decide) (fun c20 => ?_) (fun c20 => ?_)
    · refine v_aload_n dX4_findValues_31 rfl ?_
      refine v_iload_n dX4_findValues_32 rfl ?_
      refine v_callVr (x := .int (gtF T (vlF T R) n)) (M1 := M) (as := [.int (nI n)]) (st := [.int (nI n), .ref 69]) dX4_findValues_33 ml_X4_146 kv_X4_gate ⟨by decide, rfl, by decide⟩ ⟨(Nat.le_of_ble_eq_true rfl), (Nat.le_of_ble_eq_true rfl)⟩ rfl (Nat.le_of_ble_eq_true rfl) rfl (Nat.le_of_ble_eq_true rfl) (c_gate ((hs 61 (by decide)).trans hM) hW (by omega) c20 hj) ?_
      refine v_iast (n := 16) (a := n) dX4_findValues_36 ⟨by decide, rfl, rfl⟩ (rfl) (by omega) ?_
      refine v_iincN (lv' := [(0, .ref 60), (1, .ref q), (2, .int (nI (n + 1)))]) dX4_findValues_37 rfl (Nat.le_of_ble_eq_true rfl) rfl ?_
      refine v_goto (tgt := 2) dX4_findValues_40 (by decide) ?_
      refine ih (n + 1) _ (by omega) (fun i h9 => (mup_ne h9).trans (hs i h9)) (fun j h9 => ?_)
      rw [mup_eq]; simp only [upd]
      by_cases h8 : j = n
      · rw [if_pos h8, h8, vlF_eq hW (by omega)]; simp [c20]
      · rw [if_neg h8]; exact hj j (by omega)
    · refine v_aload_n dX4_findValues_23 rfl ?_
      refine v_iconst (v := (nI 4)) dX4_findValues_24 rfl ?_
      refine v_iload_n dX4_findValues_25 rfl ?_
      refine v_iaddN dX4_findValues_26 ?_
      refine v_iald2 (n := 36) (a := 4 + n) (y := (R (4 + n))) dX4_findValues_27 (ar_q hq) (rfl) (by omega) ((congrFun (hs q (by omega)) _).trans (congrFun hR _)) ?_
      refine v_goto (tgt := 36) dX4_findValues_28 (by decide) ?_
      refine v_iast (n := 16) (a := n) dX4_findValues_36 ⟨by decide, rfl, rfl⟩ (rfl) (by omega) ?_
      refine v_iincN (lv' := [(0, .ref 60), (1, .ref q), (2, .int (nI (n + 1)))]) dX4_findValues_37 rfl (Nat.le_of_ble_eq_true rfl) rfl ?_
      refine v_goto (tgt := 2) dX4_findValues_40 (by decide) ?_
      refine ih (n + 1) _ (by omega) (fun i h9 => (mup_ne h9).trans (hs i h9)) (fun j h9 => ?_)
      rw [mup_eq]; simp only [upd]
      by_cases h8 : j = n
      · rw [if_pos h8, h8, vlF_eq hW (by omega)]; simp [c20]
      · rw [if_neg h8]; exact hj j (by omega)
set_option maxRecDepth 100000 in
theorem c_findValues (hM : M0 61 = T) (hW : WF T) {q : Nat} {R : Nat → Int32} (hq : q = 63 ∨ q = 64) (hR : M0 q = R) : V kX4_findValues (fun v M1 => v = none ∧ (∀ i, i ≠ 69 → M1 i = M0 i) ∧ ∀ j, j < nN T → M1 69 j = vlF T R j) M0 0 [(0, .ref 60), (1, .ref q)] [] := by
  have h16 := hW.n16
  refine v_iconst (v := (nI 0)) dX4_findValues_0 rfl ?_
  refine v_istore_n (lv' := [(0, .ref 60), (1, .ref q), (2, .int (nI 0))]) dX4_findValues_1 (Nat.le_of_ble_eq_true rfl) rfl ?_
  exact l_findV hM hW hq hR (nN T) 0 M0 (by omega) (fun _ _ => rfl) (fun j h9 => absurd h9 (by omega))
set_option maxRecDepth 100000 in
theorem c_isSettled {f : Nat → Int32} (hs : sc M0 M) (hM : M0 61 = T) (hW : WF T) (hf : ∀ j, j < nN T → M0 69 j = f j) {n : Nat} (hn : n < nN T) (h1 : so T n = 1) : V kX4_isSettled (rs (.int (bI (stF T f n = true))) M0) M 0 [(0, .ref 60), (1, .int (nI n))] [] := by
  have h16 := hW.n16
  have hm1 := hm_reg h1
  have p0 := hW.ptlt hn (show 0 < hmF (so T n) by omega)
  refine v_aload_n dX4_isSettled_0 rfl ?_
  refine v_iload_n dX4_isSettled_1 rfl ?_
  refine v_iconst (v := (nI 0)) dX4_isSettled_2 rfl ?_
  refine v_callVr (x := .int (nI (pt T n 0))) (M1 := M) (as := [.int (nI n), .int (nI 0)]) (st := []) dX4_isSettled_3 ml_X4_71 kv_X4_of ⟨by decide, rfl, by decide⟩ ⟨(Nat.le_of_ble_eq_true rfl), (Nat.le_of_ble_eq_true rfl)⟩ rfl (Nat.le_of_ble_eq_true rfl) rfl (Nat.le_of_ble_eq_true rfl) (c_of (scT hs hM) hW (by omega) (by omega)) ?_
  refine v_istore_n (lv' := [(0, .ref 60), (1, .int (nI n)), (2, .int (nI (pt T n 0)))]) dX4_isSettled_6 (Nat.le_of_ble_eq_true rfl) rfl ?_
  refine v_aload_n dX4_isSettled_7 rfl ?_
  refine v_iload_n dX4_isSettled_8 rfl ?_
  refine v_callVr (x := .int (nI (so T (pt T n 0)))) (M1 := M) (as := [.int (nI (pt T n 0))]) (st := []) dX4_isSettled_9 ml_X4_64 kv_X4_sort ⟨by decide, rfl, by decide⟩ ⟨(Nat.le_of_ble_eq_true rfl), (Nat.le_of_ble_eq_true rfl)⟩ rfl (Nat.le_of_ble_eq_true rfl) rfl (Nat.le_of_ble_eq_true rfl) (c_sort (scT hs hM) hW (by omega)) ?_
  refine v_iconst (v := (nI 1)) dX4_isSettled_12 rfl ?_
  refine v_icmpN_ne (tgt := 51) dX4_isSettled_13 (by decide) (by have := hW.so5 (n := pt T n 0) (by omega); omega) (by omega) (fun c13 => ?_) (fun c13 => ?_)
  · refine v_iconst (v := (nI 0)) dX4_isSettled_51 rfl ?_
    refine v_zret dX4_isSettled_52 rfl (Or.inl rfl) ?_
    refine ⟨?_, hs⟩
    rw [bI_f (by simp [stF, *])]; rfl
  · refine v_aload_n dX4_isSettled_16 rfl ?_
    refine v_iload_n dX4_isSettled_17 rfl ?_
    refine v_callVr (x := .int (nI (ck T (pt T n 0)))) (M1 := M) (as := [.int (nI (pt T n 0))]) (st := []) dX4_isSettled_18 ml_X4_88 kv_X4_clock ⟨by decide, rfl, by decide⟩ ⟨(Nat.le_of_ble_eq_true rfl), (Nat.le_of_ble_eq_true rfl)⟩ rfl (Nat.le_of_ble_eq_true rfl) rfl (Nat.le_of_ble_eq_true rfl) (c_clock (scT hs hM) hW (by omega)) ?_
    refine v_aload_n dX4_isSettled_21 rfl ?_
    refine v_iload_n dX4_isSettled_22 rfl ?_
    refine v_callVr (x := .int (nI (ck T n))) (M1 := M) (as := [.int (nI n)]) (st := [.int (nI (ck T (pt T n 0)))]) dX4_isSettled_23 ml_X4_88 kv_X4_clock ⟨by decide, rfl, by decide⟩ ⟨(Nat.le_of_ble_eq_true rfl), (Nat.le_of_ble_eq_true rfl)⟩ rfl (Nat.le_of_ble_eq_true rfl) rfl (Nat.le_of_ble_eq_true rfl) (c_clock (scT hs hM) hW (by omega)) ?_
    refine v_icmpN_ne (tgt := 51) dX4_isSettled_26 (by decide) (by have := hW.ck2 (n := pt T n 0) (by omega); omega) (by have := hW.ck2 hn; omega) (fun c26 => ?_) (fun c26 => ?_)
    · refine v_iconst (v := (nI 0)) dX4_isSettled_51 rfl ?_
      refine v_zret dX4_isSettled_52 rfl (Or.inl rfl) ?_
      refine ⟨?_, hs⟩
      rw [bI_f (by simp [stF, *])]; rfl
    · refine v_aload_n dX4_isSettled_29 rfl ?_
      refine v_iload_n dX4_isSettled_30 rfl ?_
      refine v_callV (as := [.int (nI (pt T n 0))]) (st := []) dX4_isSettled_31 ml_X4_100 kv_X4_isDirect ⟨by decide, rfl, by decide⟩ ⟨(Nat.le_of_ble_eq_true rfl), (Nat.le_of_ble_eq_true rfl)⟩ rfl (Nat.le_of_ble_eq_true rfl) rfl (Nat.le_of_ble_eq_true rfl) (c_isDirect hs hM hW (by omega) (by assumption)) (fun v M hq => ?_)
      obtain ⟨rfl, hs⟩ := hq
      refine v_ifB_eq (tgt := 51) dX4_isSettled_34 (by decide) (fun c34 => ?_) (fun c34 => ?_)
      · refine v_iconst (v := (nI 0)) dX4_isSettled_51 rfl ?_
        refine v_zret dX4_isSettled_52 rfl (Or.inl rfl) ?_
        refine ⟨?_, hs⟩
        rw [bI_f (by simp [stF, *])]; rfl
      · refine v_aload_n dX4_isSettled_37 rfl ?_
        refine v_getR (t := 69) dX4_isSettled_38 fl_X4_35 ⟨by decide, rfl, by decide⟩ rfl rfl ?_
        refine v_iload_n dX4_isSettled_41 rfl ?_
        refine v_iald2 (n := 16) (a := pt T n 0) (y := (f (pt T n 0))) dX4_isSettled_42 ⟨by decide, rfl, rfl⟩ (rfl) (by omega) ((congrFun (hs 69 (by decide)) _).trans (hf _ (by omega))) ?_
        refine v_iconst (v := (nI 2)) dX4_isSettled_43 rfl ?_
        refine v_icmp_ne (tgt := 51) dX4_isSettled_44 (by decide) (fun c44 => ?_) (fun c44 => ?_)
        · refine v_iconst (v := (nI 0)) dX4_isSettled_51 rfl ?_
          refine v_zret dX4_isSettled_52 rfl (Or.inl rfl) ?_
          refine ⟨?_, hs⟩
          rw [bI_f (by simp [stF, *])]; rfl
        · refine v_iconst (v := (nI 1)) dX4_isSettled_47 rfl ?_
          refine v_goto (tgt := 52) dX4_isSettled_48 (by decide) ?_
          refine v_zret dX4_isSettled_52 rfl (Or.inr rfl) ?_
          refine ⟨?_, hs⟩
          rw [bI_t (by simp [stF, *])]; rfl
set_option maxRecDepth 100000 in
theorem c_taken {f : Nat → Int32} (hs : sc M0 M) (hM : M0 61 = T) (hW : WF T) (hf : ∀ j, j < nN T → M0 69 j = f j) {n : Nat} (hn : n < nN T) (h1 : so T n = 1) : V kX4_taken (rs (.int (tkF T f n)) M0) M 0 [(0, .ref 60), (1, .int (nI n))] [] := by
  have h16 := hW.n16
  have hm1 := hm_reg h1
  have p0 := hW.ptlt hn (show 0 < hmF (so T n) by omega)
  refine v_aload_n dX4_taken_0 rfl ?_
  refine v_iload_n dX4_taken_1 rfl ?_
  refine v_iconst (v := (nI 0)) dX4_taken_2 rfl ?_
  refine v_callVr (x := .int (nI (pt T n 0))) (M1 := M) (as := [.int (nI n), .int (nI 0)]) (st := []) dX4_taken_3 ml_X4_71 kv_X4_of ⟨by decide, rfl, by decide⟩ ⟨(Nat.le_of_ble_eq_true rfl), (Nat.le_of_ble_eq_true rfl)⟩ rfl (Nat.le_of_ble_eq_true rfl) rfl (Nat.le_of_ble_eq_true rfl) (c_of (scT hs hM) hW (by omega) (by omega)) ?_
  refine v_istore_n (lv' := [(0, .ref 60), (1, .int (nI n)), (2, .int (nI (pt T n 0)))]) dX4_taken_6 (Nat.le_of_ble_eq_true rfl) rfl ?_
  refine v_aload_n dX4_taken_7 rfl ?_
  refine v_iload_n dX4_taken_8 rfl ?_
  refine v_callV (as := [.int (nI n)]) (st := []) dX4_taken_9 ml_X4_155 kv_X4_isSettled ⟨by decide, rfl, by decide⟩ ⟨(Nat.le_of_ble_eq_true rfl), (Nat.le_of_ble_eq_true rfl)⟩ rfl (Nat.le_of_ble_eq_true rfl) rfl (Nat.le_of_ble_eq_true rfl) (c_isSettled hs hM hW hf hn h1) (fun v M hq => ?_)
  obtain ⟨rfl, hs⟩ := hq
  refine v_ifB_ne (tgt := 22) dX4_taken_12 (by decide) (fun c12 => ?_) (fun c12 => ?_)
  · refine v_aload_n dX4_taken_22 rfl ?_
    refine v_getR (t := 69) dX4_taken_23 fl_X4_35 ⟨by decide, rfl, by decide⟩ rfl rfl ?_
    refine v_aload_n dX4_taken_26 rfl ?_
    refine v_iload_n dX4_taken_27 rfl ?_
    refine v_iconst (v := (nI 0)) dX4_taken_28 rfl ?_
    have h2 : so T (pt T n 0) = 1 := by simp [stF] at c12; exact c12.1.1.1
    have hm3 := hm_reg h2
    have p2 := hW.ptlt (n := pt T n 0) (by omega) (show 0 < hmF (so T (pt T n 0)) by omega)
    refine v_callVr (x := .int (nI (pt T (pt T n 0) 0))) (M1 := M) (as := [.int (nI (pt T n 0)), .int (nI 0)]) (st := [.ref 69]) dX4_taken_29 ml_X4_71 kv_X4_of ⟨by decide, rfl, by decide⟩ ⟨(Nat.le_of_ble_eq_true rfl), (Nat.le_of_ble_eq_true rfl)⟩ rfl (Nat.le_of_ble_eq_true rfl) rfl (Nat.le_of_ble_eq_true rfl) (c_of (scT hs hM) hW (by omega) (by omega)) ?_
    refine v_iald2 (n := 16) (a := pt T (pt T n 0) 0) (y := (f (pt T (pt T n 0) 0))) dX4_taken_32 ⟨by decide, rfl, rfl⟩ (rfl) (by omega) ((congrFun (hs 69 (by decide)) _).trans (hf _ (by omega))) ?_
    refine v_istore_n (lv' := [(0, .ref 60), (1, .int (nI n)), (2, .int (nI (pt T n 0))), (3, .int (f (pt T (pt T n 0) 0)))]) dX4_taken_33 (Nat.le_of_ble_eq_true rfl) rfl ?_
    refine v_iload_n dX4_taken_34 rfl ?_
    refine v_iconst (v := (nI 2)) dX4_taken_35 rfl ?_
    refine v_icmp_ne (tgt := 43) dX4_taken_36 (by decide) (fun c36 => ?_) (fun c36 => ?_)
    · refine v_iload_n dX4_taken_43 rfl ?_
      refine v_iret dX4_taken_44 rfl ?_
      refine ⟨?_, hs⟩
      simp [tkF, *]
    · refine v_iconst (v := (nI 0)) dX4_taken_39 rfl ?_
      refine v_goto (tgt := 44) dX4_taken_40 (by decide) ?_
      refine v_iret dX4_taken_44 rfl ?_
      refine ⟨?_, hs⟩
      simp [tkF, *]
  · refine v_aload_n dX4_taken_15 rfl ?_
    refine v_getR (t := 69) dX4_taken_16 fl_X4_35 ⟨by decide, rfl, by decide⟩ rfl rfl ?_
    refine v_iload_n dX4_taken_19 rfl ?_
    refine v_iald2 (n := 16) (a := pt T n 0) (y := (f (pt T n 0))) dX4_taken_20 ⟨by decide, rfl, rfl⟩ (rfl) (by omega) ((congrFun (hs 69 (by decide)) _).trans (hf _ (by omega))) ?_
    refine v_iret dX4_taken_21 rfl ?_
    refine ⟨?_, hs⟩
    simp [tkF, *]
set_option maxRecDepth 100000 in
theorem l_tick3 {Q : Option Value → vM → Prop} (hM : M0 61 = T) (hW : WF T) {q : Nat} (hq : q = 63 ∨ q = 64) {f : Nat → Int32} (hf : ∀ j, j < nN T → M0 69 j = f j) {R : Nat → Int32} {oth y : Int32} {n : Nat} (hn : n < nN T) (ht : tI M0 M q R) (post : ∀ M1, tI M0 M1 q (upd R (4 + n) y) → V kX4_tick Q M1 16 [(0, .ref 60), (1, .ref q), (2, .int (oth ||| (if y = f n then nI 0 else bx n))), (3, .int (nI (n + 1)))] []) : V kX4_tick (Q) M 158 [(0, .ref 60), (1, .ref q), (2, .int oth), (3, .int (nI n)), (4, .int y)] [] := by
  have h16 := hW.n16
  refine v_iload_n dX4_tick_158 rfl ?_
  refine v_iload dX4_tick_159 rfl ?_
  refine v_aload_n dX4_tick_161 rfl ?_
  refine v_getR (t := 69) dX4_tick_162 fl_X4_35 ⟨by decide, rfl, by decide⟩ rfl rfl ?_
  refine v_iload_n dX4_tick_165 rfl ?_
  refine v_iald2 (n := 16) (a := n) (y := (f n)) dX4_tick_166 ⟨by decide, rfl, rfl⟩ (rfl) (by omega) (tI_f hq ht hf n hn) ?_
  refine v_icmp_ne (tgt := 174) dX4_tick_167 (by decide) (fun c167 => ?_) (fun c167 => ?_)
  · refine v_iconst (v := (nI 1)) dX4_tick_174 rfl ?_
    refine v_iload_n dX4_tick_175 rfl ?_
    refine v_ishl dX4_tick_176 ?_
    refine v_ior dX4_tick_177 ?_
    refine v_top (y := (oth ||| (if y = f n then nI 0 else bx n))) (by simp only [c167, if_true, if_false]; try rfl) ?_
    refine v_istore_n (lv' := [(0, .ref 60), (1, .ref q), (2, .int (oth ||| (if y = f n then nI 0 else bx n))), (3, .int (nI n)), (4, .int y)]) dX4_tick_178 (Nat.le_of_ble_eq_true rfl) rfl ?_
    refine v_aload_n dX4_tick_179 rfl ?_
    refine v_iconst (v := (nI 4)) dX4_tick_180 rfl ?_
    refine v_iload_n dX4_tick_181 rfl ?_
    refine v_iaddN dX4_tick_182 ?_
    refine v_iload dX4_tick_183 rfl ?_
    refine v_iast (n := 36) (a := 4 + n) dX4_tick_185 (ar_q hq) (rfl) (by omega) ?_
    refine v_iincN (lv' := [(0, .ref 60), (1, .ref q), (2, .int (oth ||| (if y = f n then nI 0 else bx n))), (3, .int (nI (n + 1))), (4, .int y)]) dX4_tick_186 rfl (Nat.le_of_ble_eq_true rfl) rfl ?_
    refine v_goto (tgt := 16) dX4_tick_189 (by decide) ?_
    refine v_sub (lv' := [(0, .ref 60), (1, .ref q), (2, .int (oth ||| (if y = f n then nI 0 else bx n))), (3, .int (nI (n + 1)))]) (by intro q hq; simp at hq; rcases hq with rfl | rfl | rfl | rfl <;> rfl) ?_
    exact post _ (tI_up ht)
  · refine v_iconst (v := (nI 0)) dX4_tick_170 rfl ?_
    refine v_goto (tgt := 177) dX4_tick_171 (by decide) ?_
    refine v_ior dX4_tick_177 ?_
    refine v_top (y := (oth ||| (if y = f n then nI 0 else bx n))) (by simp only [c167, if_true, if_false]; try rfl) ?_
    refine v_istore_n (lv' := [(0, .ref 60), (1, .ref q), (2, .int (oth ||| (if y = f n then nI 0 else bx n))), (3, .int (nI n)), (4, .int y)]) dX4_tick_178 (Nat.le_of_ble_eq_true rfl) rfl ?_
    refine v_aload_n dX4_tick_179 rfl ?_
    refine v_iconst (v := (nI 4)) dX4_tick_180 rfl ?_
    refine v_iload_n dX4_tick_181 rfl ?_
    refine v_iaddN dX4_tick_182 ?_
    refine v_iload dX4_tick_183 rfl ?_
    refine v_iast (n := 36) (a := 4 + n) dX4_tick_185 (ar_q hq) (rfl) (by omega) ?_
    refine v_iincN (lv' := [(0, .ref 60), (1, .ref q), (2, .int (oth ||| (if y = f n then nI 0 else bx n))), (3, .int (nI (n + 1))), (4, .int y)]) dX4_tick_186 rfl (Nat.le_of_ble_eq_true rfl) rfl ?_
    refine v_goto (tgt := 16) dX4_tick_189 (by decide) ?_
    refine v_sub (lv' := [(0, .ref 60), (1, .ref q), (2, .int (oth ||| (if y = f n then nI 0 else bx n))), (3, .int (nI (n + 1)))]) (by intro q hq; simp at hq; rcases hq with rfl | rfl | rfl | rfl <;> rfl) ?_
    exact post _ (tI_up ht)
set_option maxRecDepth 100000 in
theorem l_tick2 {Q : Option Value → vM → Prop} (hM : M0 61 = T) (hW : WF T) {q : Nat} (hq : q = 63 ∨ q = 64) {f : Nat → Int32} (hf : ∀ j, j < nN T → M0 69 j = f j) {R : Nat → Int32} {oth y : Int32} {n : Nat} (hn : n < nN T) (hl : so T n ≤ 1) (ht : tI M0 M q R) (post : ∀ M1, tI M0 M1 q (upd (tkW T f R oth n) (4 + n) y) → V kX4_tick Q M1 16 [(0, .ref 60), (1, .ref q), (2, .int (oth ||| (if y = f n then nI 0 else bx n))), (3, .int (nI (n + 1)))] []) : V kX4_tick (Q) M 90 [(0, .ref 60), (1, .ref q), (2, .int oth), (3, .int (nI n)), (4, .int y)] [] := by
  have h16 := hW.n16
  refine v_aload_n dX4_tick_90 rfl ?_
  refine v_iload_n dX4_tick_91 rfl ?_
  refine v_callVr (x := .int (nI (so T n))) (M1 := M) (as := [.int (nI n)]) (st := []) dX4_tick_92 ml_X4_64 kv_X4_sort ⟨by decide, rfl, by decide⟩ ⟨(Nat.le_of_ble_eq_true rfl), (Nat.le_of_ble_eq_true rfl)⟩ rfl (Nat.le_of_ble_eq_true rfl) rfl (Nat.le_of_ble_eq_true rfl) (c_sort (tI_T hq ht hM) hW (by omega)) ?_
  refine v_iconst (v := (nI 1)) dX4_tick_95 rfl ?_
  refine v_icmpN_ne (tgt := 119) dX4_tick_96 (by decide) (by omega) (by omega) (fun c96 => ?_) (fun c96 => ?_)
  · refine v_aload_n dX4_tick_119 rfl ?_
    refine v_iload_n dX4_tick_120 rfl ?_
    refine v_callVr (x := .int (nI (so T n))) (M1 := M) (as := [.int (nI n)]) (st := []) dX4_tick_121 ml_X4_64 kv_X4_sort ⟨by decide, rfl, by decide⟩ ⟨(Nat.le_of_ble_eq_true rfl), (Nat.le_of_ble_eq_true rfl)⟩ rfl (Nat.le_of_ble_eq_true rfl) rfl (Nat.le_of_ble_eq_true rfl) (c_sort (tI_T hq ht hM) hW (by omega)) ?_
    refine v_iconst (v := (nI 1)) dX4_tick_124 rfl ?_
    refine v_icmpN_ne (tgt := 158) dX4_tick_125 (by decide) (by omega) (by omega) (fun c125 => ?_) (fun c125 => (absurd c125 c96))
    have e : tkW T f R oth n = R := by simp [tkW, *]
    rw [e] at post
    exact l_tick3 hM hW hq hf hn ht post
  · refine v_aload_n dX4_tick_99 rfl ?_
    refine v_iload_n dX4_tick_100 rfl ?_
    refine v_callV (as := [.int (nI n)]) (st := []) dX4_tick_101 ml_X4_91 kv_X4_foreign ⟨by decide, rfl, by decide⟩ ⟨(Nat.le_of_ble_eq_true rfl), (Nat.le_of_ble_eq_true rfl)⟩ rfl (Nat.le_of_ble_eq_true rfl) rfl (Nat.le_of_ble_eq_true rfl) (c_foreign (sc_rf _) (tI_T hq ht hM) hW hn c96) (fun v M hq9 => ?_)
    obtain ⟨rfl, h9⟩ := hq9
    have ht := tI_sc hq ht h9
    refine v_iload_n dX4_tick_104 rfl ?_
    refine v_iand dX4_tick_105 ?_
    refine v_if_eq (tgt := 119) dX4_tick_106 (by decide) (fun c106 => ?_) (fun c106 => ?_)
    · refine v_aload_n dX4_tick_119 rfl ?_
      refine v_iload_n dX4_tick_120 rfl ?_
      refine v_callVr (x := .int (nI (so T n))) (M1 := M) (as := [.int (nI n)]) (st := []) dX4_tick_121 ml_X4_64 kv_X4_sort ⟨by decide, rfl, by decide⟩ ⟨(Nat.le_of_ble_eq_true rfl), (Nat.le_of_ble_eq_true rfl)⟩ rfl (Nat.le_of_ble_eq_true rfl) rfl (Nat.le_of_ble_eq_true rfl) (c_sort (tI_T hq ht hM) hW (by omega)) ?_
      refine v_iconst (v := (nI 1)) dX4_tick_124 rfl ?_
      refine v_icmpN_ne (tgt := 158) dX4_tick_125 (by decide) (by omega) (by omega) (fun c125 => (absurd c96 c125)) (fun c125 => ?_)
      refine v_aload_n dX4_tick_128 rfl ?_
      refine v_getR (t := 69) dX4_tick_129 fl_X4_35 ⟨by decide, rfl, by decide⟩ rfl rfl ?_
      refine v_aload_n dX4_tick_132 rfl ?_
      refine v_iload_n dX4_tick_133 rfl ?_
      refine v_iconst (v := (nI 0)) dX4_tick_134 rfl ?_
      have hm1 := hm_reg c125
      have p0 := hW.ptlt hn (show 0 < hmF (so T n) by omega)
      refine v_callVr (x := .int (nI (pt T n 0))) (M1 := M) (as := [.int (nI n), .int (nI 0)]) (st := [.ref 69]) dX4_tick_135 ml_X4_71 kv_X4_of ⟨by decide, rfl, by decide⟩ ⟨(Nat.le_of_ble_eq_true rfl), (Nat.le_of_ble_eq_true rfl)⟩ rfl (Nat.le_of_ble_eq_true rfl) rfl (Nat.le_of_ble_eq_true rfl) (c_of (tI_T hq ht hM) hW (by omega) (by omega)) ?_
      refine v_iald2 (n := 16) (a := pt T n 0) (y := (f (pt T n 0))) dX4_tick_138 ⟨by decide, rfl, rfl⟩ (rfl) (by omega) (tI_f hq ht hf _ (by omega)) ?_
      refine v_iconst (v := (nI 2)) dX4_tick_139 rfl ?_
      refine v_icmp_ne (tgt := 158) dX4_tick_140 (by decide) (fun c140 => ?_) (fun c140 => ?_)
      · have e : tkW T f R oth n = R := by simp [tkW, *]
        rw [e] at post
        exact l_tick3 hM hW hq hf hn ht post
      · refine v_aload_n dX4_tick_143 rfl ?_
        refine v_iload_n dX4_tick_144 rfl ?_
        refine v_callV (as := [.int (nI n)]) (st := []) dX4_tick_145 ml_X4_155 kv_X4_isSettled ⟨by decide, rfl, by decide⟩ ⟨(Nat.le_of_ble_eq_true rfl), (Nat.le_of_ble_eq_true rfl)⟩ rfl (Nat.le_of_ble_eq_true rfl) rfl (Nat.le_of_ble_eq_true rfl) (c_isSettled (sc_rf _) (tI_T hq ht hM) hW (tI_f hq ht hf) hn c125) (fun v M hq9 => ?_)
        obtain ⟨rfl, h9⟩ := hq9
        have ht := tI_sc hq ht h9
        refine v_ifB_ne (tgt := 158) dX4_tick_148 (by decide) (fun c148 => ?_) (fun c148 => ?_)
        · have e : tkW T f R oth n = R := by simp [tkW, *]
          rw [e] at post
          exact l_tick3 hM hW hq hf hn ht post
        · refine v_aload_n dX4_tick_151 rfl ?_
          refine v_iconst (v := (nI 3)) dX4_tick_152 rfl ?_
          refine v_dup2 dX4_tick_153 rfl rfl ?_
          refine v_iald2 (n := 36) (a := 3) (y := (R 3)) dX4_tick_154 (ar_q hq) (rfl) (by omega) (congrFun ht.2 3) ?_
          refine v_iconst (v := (nI 1)) dX4_tick_155 rfl ?_
          refine v_iadd dX4_tick_156 ?_
          refine v_iast (n := 36) (a := 3) dX4_tick_157 (ar_q hq) (rfl) (by omega) ?_
          have e : tkW T f R oth n = upd R 3 (R 3 + nI 1) := by simp [tkW, c125, c106, c140, c148]
          rw [e] at post
          exact l_tick3 hM hW hq hf hn (tI_up ht) post
    · refine v_aload_n dX4_tick_109 rfl ?_
      refine v_iconst (v := (nI 2)) dX4_tick_110 rfl ?_
      refine v_dup2 dX4_tick_111 rfl rfl ?_
      refine v_iald2 (n := 36) (a := 2) (y := (R 2)) dX4_tick_112 (ar_q hq) (rfl) (by omega) (congrFun ht.2 2) ?_
      refine v_iconst (v := (nI 1)) dX4_tick_113 rfl ?_
      refine v_iadd dX4_tick_114 ?_
      refine v_iast (n := 36) (a := 2) dX4_tick_115 (ar_q hq) (rfl) (by omega) ?_
      refine v_goto (tgt := 158) dX4_tick_116 (by decide) ?_
      have e : tkW T f R oth n = upd R 2 (R 2 + nI 1) := by simp [tkW, c96, c106]
      rw [e] at post
      exact l_tick3 hM hW hq hf hn (tI_up ht) post
set_option maxRecDepth 100000 in
theorem l_tick (hM : M0 61 = T) (hW : WF T) {q : Nat} (hq : q = 63 ∨ q = 64) {f : Nat → Int32} (hf : ∀ j, j < nN T → M0 69 j = f j) {tm : Int32} {s0 : (Nat → Int32) × Int32} (htm : s0.1 1 = tm) (d : Nat) : ∀ (n : Nat) (M : vM), n + d = nN T → tI M0 M q (tkL T f tm s0 n).1 → V kX4_tick (fun v M1 => v = none ∧ tI M0 M1 q (tkL T f tm s0 (nN T)).1) M 16 [(0, .ref 60), (1, .ref q), (2, .int ((tkL T f tm s0 n).2)), (3, .int (nI n))] [] := by
  have h16 := hW.n16
  induction d with
  | zero =>
    intro n M hk ht
    refine v_iload_n dX4_tick_16 rfl ?_
    refine v_aload_n dX4_tick_17 rfl ?_
    refine v_callVr (x := .int (nI (nN T))) (M1 := M) (as := []) (st := [.int (nI n)]) dX4_tick_18 ml_X4_52 kv_X4_many ⟨by decide, rfl, by decide⟩ ⟨(Nat.le_of_ble_eq_true rfl), (Nat.le_of_ble_eq_true rfl)⟩ rfl (Nat.le_of_ble_eq_true rfl) rfl (Nat.le_of_ble_eq_true rfl) (c_many (tI_T hq ht hM) hW) ?_
    refine v_icmpN_ge (tgt := 192) dX4_tick_21 (by decide) (by omega) (by omega) (fun c21 => ?_) (fun c21 => (by omega))
    refine v_vret dX4_tick_192 rfl ?_
    exact ⟨rfl, by rw [show nN T = n by omega]; exact ht⟩
  | succ d ih =>
    intro n M hk ht
    refine v_iload_n dX4_tick_16 rfl ?_
    refine v_aload_n dX4_tick_17 rfl ?_
    refine v_callVr (x := .int (nI (nN T))) (M1 := M) (as := []) (st := [.int (nI n)]) dX4_tick_18 ml_X4_52 kv_X4_many ⟨by decide, rfl, by decide⟩ ⟨(Nat.le_of_ble_eq_true rfl), (Nat.le_of_ble_eq_true rfl)⟩ rfl (Nat.le_of_ble_eq_true rfl) rfl (Nat.le_of_ble_eq_true rfl) (c_many (tI_T hq ht hM) hW) ?_
    refine v_icmpN_ge (tgt := 192) dX4_tick_21 (by decide) (by omega) (by omega) (fun c21 => (by omega)) (fun c21 => ?_)
    have hn : n < nN T := c21
    refine v_aload_n dX4_tick_24 rfl ?_
    refine v_iload_n dX4_tick_25 rfl ?_
    refine v_callVr (x := .int (bI (so T n ≤ 1))) (M1 := M) (as := [.int (nI n)]) (st := []) dX4_tick_26 ml_X4_75 kv_X4_isLeaf ⟨by decide, rfl, by decide⟩ ⟨(Nat.le_of_ble_eq_true rfl), (Nat.le_of_ble_eq_true rfl)⟩ rfl (Nat.le_of_ble_eq_true rfl) rfl (Nat.le_of_ble_eq_true rfl) (c_isLeaf (tI_T hq ht hM) hW (by omega)) ?_
    refine v_ifB_eq (tgt := 186) dX4_tick_29 (by decide) (fun c29 => ?_) (fun c29 => ?_)
    · refine v_iincN (lv' := [(0, .ref 60), (1, .ref q), (2, .int ((tkL T f tm s0 n).2)), (3, .int (nI (n + 1)))]) dX4_tick_186 rfl (Nat.le_of_ble_eq_true rfl) rfl ?_
      refine v_goto (tgt := 16) dX4_tick_189 (by decide) ?_
      have e : tkL T f tm s0 (n + 1) = tkL T f tm s0 n := by
        show tkS T f tm n (tkL T f tm s0 n) = _
        first | exact if_neg (fun z => c29 z.1) | exact if_neg (fun z => c49 z.2)
      have h2 := ih (n + 1) M (by omega) (by rw [e]; exact ht)
      rw [e] at h2
      exact h2
    · refine v_aload_n dX4_tick_32 rfl ?_
      refine v_iconst (v := (nI 1)) dX4_tick_33 rfl ?_
      refine v_iald2 (n := 36) (a := 1) (y := tm) dX4_tick_34 (ar_q hq) (rfl) (by omega) ((congrFun ht.2 1).trans ((tkL_1 n).trans htm)) ?_
      refine v_aload_n dX4_tick_35 rfl ?_
      refine v_getR (t := 61) dX4_tick_36 fl_X4_7 ⟨by decide, rfl, by decide⟩ rfl rfl ?_
      refine v_bipush (v := (nI 92)) dX4_tick_39 rfl ?_
      refine v_aload_n dX4_tick_41 rfl ?_
      refine v_iload_n dX4_tick_42 rfl ?_
      refine v_callVr (x := .int (nI (ck T n))) (M1 := M) (as := [.int (nI n)]) (st := [.int (nI 92), .ref 61, .int tm]) dX4_tick_43 ml_X4_88 kv_X4_clock ⟨by decide, rfl, by decide⟩ ⟨(Nat.le_of_ble_eq_true rfl), (Nat.le_of_ble_eq_true rfl)⟩ rfl (Nat.le_of_ble_eq_true rfl) rfl (Nat.le_of_ble_eq_true rfl) (c_clock (tI_T hq ht hM) hW (by omega)) ?_
      have hck := hW.ck2 hn
      have hpe := hW.2.2.2.2.2.2.2 (ck T n) (by omega)
      refine v_iaddN dX4_tick_46 ?_
      refine v_iald2 (n := 97) (a := 92 + (ck T n)) (y := (nI (pe T (ck T n)))) dX4_tick_47 ⟨by decide, rfl, rfl⟩ (rfl) (by omega) (by rw [tI_T hq ht hM]; exact hpe.1) ?_
      refine v_irem dX4_tick_48 (nI_ne0 (by omega) (by omega)) ?_
      refine v_top (y := (rmZ tm (pe T (ck T n)))) (rfl) ?_
      refine v_if_ne (tgt := 186) dX4_tick_49 (by decide) (fun c49 => ?_) (fun c49 => ?_)
      · refine v_iincN (lv' := [(0, .ref 60), (1, .ref q), (2, .int ((tkL T f tm s0 n).2)), (3, .int (nI (n + 1)))]) dX4_tick_186 rfl (Nat.le_of_ble_eq_true rfl) rfl ?_
        refine v_goto (tgt := 16) dX4_tick_189 (by decide) ?_
        have e : tkL T f tm s0 (n + 1) = tkL T f tm s0 n := by
          show tkS T f tm n (tkL T f tm s0 n) = _
          first | exact if_neg (fun z => c29 z.1) | exact if_neg (fun z => c49 z.2)
        have h2 := ih (n + 1) M (by omega) (by rw [e]; exact ht)
        rw [e] at h2
        exact h2
      · refine v_aload_n dX4_tick_52 rfl ?_
        refine v_iload_n dX4_tick_53 rfl ?_
        refine v_callVr (x := .int (nI (so T n))) (M1 := M) (as := [.int (nI n)]) (st := []) dX4_tick_54 ml_X4_64 kv_X4_sort ⟨by decide, rfl, by decide⟩ ⟨(Nat.le_of_ble_eq_true rfl), (Nat.le_of_ble_eq_true rfl)⟩ rfl (Nat.le_of_ble_eq_true rfl) rfl (Nat.le_of_ble_eq_true rfl) (c_sort (tI_T hq ht hM) hW (by omega)) ?_
        refine v_ifN_ne (tgt := 69) dX4_tick_57 (by decide) (by omega) (fun c57 => ?_) (fun c57 => ?_)
        · have h1 : so T n = 1 := by omega
          refine v_aload_n dX4_tick_69 rfl ?_
          refine v_iload_n dX4_tick_70 rfl ?_
          refine v_callV (as := [.int (nI n)]) (st := []) dX4_tick_71 ml_X4_91 kv_X4_foreign ⟨by decide, rfl, by decide⟩ ⟨(Nat.le_of_ble_eq_true rfl), (Nat.le_of_ble_eq_true rfl)⟩ rfl (Nat.le_of_ble_eq_true rfl) rfl (Nat.le_of_ble_eq_true rfl) (c_foreign (sc_rf _) (tI_T hq ht hM) hW hn h1) (fun v M hq9 => ?_)
          obtain ⟨rfl, h9⟩ := hq9
          have ht := tI_sc hq ht h9
          refine v_iload_n dX4_tick_74 rfl ?_
          refine v_iand dX4_tick_75 ?_
          refine v_if_eq (tgt := 83) dX4_tick_76 (by decide) (fun c76 => ?_) (fun c76 => ?_)
          · refine v_aload_n dX4_tick_83 rfl ?_
            refine v_iload_n dX4_tick_84 rfl ?_
            refine v_callV (as := [.int (nI n)]) (st := []) dX4_tick_85 ml_X4_152 kv_X4_taken ⟨by decide, rfl, by decide⟩ ⟨(Nat.le_of_ble_eq_true rfl), (Nat.le_of_ble_eq_true rfl)⟩ rfl (Nat.le_of_ble_eq_true rfl) rfl (Nat.le_of_ble_eq_true rfl) (c_taken (sc_rf _) (tI_T hq ht hM) hW (tI_f hq ht hf) hn h1) (fun v M hq9 => ?_)
            obtain ⟨rfl, h9⟩ := hq9
            have ht := tI_sc hq ht h9
            refine v_istore (lv' := [(0, .ref 60), (1, .ref q), (2, .int ((tkL T f tm s0 n).2)), (3, .int (nI n)), (4, .int (tkF T f n))]) dX4_tick_88 (Nat.le_of_ble_eq_true rfl) rfl ?_
            have hit : (tkF T f n) = itF T f (tkL T f tm s0 n).1 (tkL T f tm s0 n).2 n := by simp [itF, *]
            rw [hit]
            refine l_tick2 hM hW hq hf hn c29 ht (fun M1 h1 => ?_)
            have e : tkL T f tm s0 (n + 1) = (upd (tkW T f (tkL T f tm s0 n).1 (tkL T f tm s0 n).2 n) (4 + n) (itF T f (tkL T f tm s0 n).1 (tkL T f tm s0 n).2 n), (tkL T f tm s0 n).2 ||| (if itF T f (tkL T f tm s0 n).1 (tkL T f tm s0 n).2 n = f n then nI 0 else bx n)) := by
              show tkS T f tm n (tkL T f tm s0 n) = _
              exact if_pos ⟨c29, c49⟩
            have h2 := ih (n + 1) M1 (by omega) (by rw [e]; exact h1)
            rw [e] at h2
            exact h2
          · refine v_iconst (v := (nI 2)) dX4_tick_79 rfl ?_
            refine v_goto (tgt := 88) dX4_tick_80 (by decide) ?_
            refine v_istore (lv' := [(0, .ref 60), (1, .ref q), (2, .int ((tkL T f tm s0 n).2)), (3, .int (nI n)), (4, .int (nI 2))]) dX4_tick_88 (Nat.le_of_ble_eq_true rfl) rfl ?_
            have hit : (nI 2) = itF T f (tkL T f tm s0 n).1 (tkL T f tm s0 n).2 n := by simp [itF, *]
            rw [hit]
            refine l_tick2 hM hW hq hf hn c29 ht (fun M1 h1 => ?_)
            have e : tkL T f tm s0 (n + 1) = (upd (tkW T f (tkL T f tm s0 n).1 (tkL T f tm s0 n).2 n) (4 + n) (itF T f (tkL T f tm s0 n).1 (tkL T f tm s0 n).2 n), (tkL T f tm s0 n).2 ||| (if itF T f (tkL T f tm s0 n).1 (tkL T f tm s0 n).2 n = f n then nI 0 else bx n)) := by
              show tkS T f tm n (tkL T f tm s0 n) = _
              exact if_pos ⟨c29, c49⟩
            have h2 := ih (n + 1) M1 (by omega) (by rw [e]; exact h1)
            rw [e] at h2
            exact h2
        · refine v_aload_n dX4_tick_60 rfl ?_
          refine v_bipush (v := (nI 20)) dX4_tick_61 rfl ?_
          refine v_iload_n dX4_tick_63 rfl ?_
          refine v_iaddN dX4_tick_64 ?_
          refine v_iald2 (n := 36) (a := 20 + n) (y := ((tkL T f tm s0 n).1 (20 + n))) dX4_tick_65 (ar_q hq) (rfl) (by omega) (congrFun ht.2 _) ?_
          refine v_goto (tgt := 88) dX4_tick_66 (by decide) ?_
          refine v_istore (lv' := [(0, .ref 60), (1, .ref q), (2, .int ((tkL T f tm s0 n).2)), (3, .int (nI n)), (4, .int ((tkL T f tm s0 n).1 (20 + n)))]) dX4_tick_88 (Nat.le_of_ble_eq_true rfl) rfl ?_
          have hit : ((tkL T f tm s0 n).1 (20 + n)) = itF T f (tkL T f tm s0 n).1 (tkL T f tm s0 n).2 n := by simp [itF, *]
          rw [hit]
          refine l_tick2 hM hW hq hf hn c29 ht (fun M1 h1 => ?_)
          have e : tkL T f tm s0 (n + 1) = (upd (tkW T f (tkL T f tm s0 n).1 (tkL T f tm s0 n).2 n) (4 + n) (itF T f (tkL T f tm s0 n).1 (tkL T f tm s0 n).2 n), (tkL T f tm s0 n).2 ||| (if itF T f (tkL T f tm s0 n).1 (tkL T f tm s0 n).2 n = f n then nI 0 else bx n)) := by
            show tkS T f tm n (tkL T f tm s0 n) = _
            exact if_pos ⟨c29, c49⟩
          have h2 := ih (n + 1) M1 (by omega) (by rw [e]; exact h1)
          rw [e] at h2
          exact h2
set_option maxRecDepth 100000 in
theorem c_tick (hM : M0 61 = T) (hW : WF T) {q : Nat} (hq : q = 63 ∨ q = 64) {R : Nat → Int32} (hR : M0 q = R) : V kX4_tick (fun v M1 => v = none ∧ (∀ i, i ≠ 68 → i ≠ 69 → i ≠ q → M1 i = M0 i) ∧ M1 q = tkR T R) M0 0 [(0, .ref 60), (1, .ref q)] [] := by
  have h16 := hW.n16
  refine v_aload_n dX4_tick_0 rfl ?_
  refine v_aload_n dX4_tick_1 rfl ?_
  refine v_callV (as := [.ref q]) (st := []) dX4_tick_2 ml_X4_149 kv_X4_findValues ⟨by decide, rfl, by decide⟩ ⟨(Nat.le_of_ble_eq_true rfl), (Nat.le_of_ble_eq_true rfl)⟩ rfl (Nat.le_of_ble_eq_true rfl) rfl (Nat.le_of_ble_eq_true rfl) (c_findValues hM hW hq hR) (fun v M hq9 => ?_)
  obtain ⟨rfl, hz, hf⟩ := hq9
  refine v_aload_n dX4_tick_5 rfl ?_
  refine v_iconst (v := (nI 1)) dX4_tick_6 rfl ?_
  refine v_dup2 dX4_tick_7 rfl rfl ?_
  refine v_iald2 (n := 36) (a := 1) (y := (R 1)) dX4_tick_8 (ar_q hq) (rfl) (by omega) ((congrFun (hz q (by omega)) 1).trans (congrFun hR 1)) ?_
  refine v_iconst (v := (nI 1)) dX4_tick_9 rfl ?_
  refine v_iadd dX4_tick_10 ?_
  refine v_iast (n := 36) (a := 1) dX4_tick_11 (ar_q hq) (rfl) (by omega) ?_
  refine v_iconst (v := (nI 0)) dX4_tick_12 rfl ?_
  refine v_istore_n (lv' := [(0, .ref 60), (1, .ref q), (2, .int (nI 0))]) dX4_tick_13 (Nat.le_of_ble_eq_true rfl) rfl ?_
  refine v_iconst (v := (nI 0)) dX4_tick_14 rfl ?_
  refine v_istore_n (lv' := [(0, .ref 60), (1, .ref q), (2, .int (nI 0)), (3, .int (nI 0))]) dX4_tick_15 (Nat.le_of_ble_eq_true rfl) rfl ?_
  refine v_post ?_ (l_tick (M0 := mup M q 1 (R 1 + nI 1)) (f := vlF T R) (tm := R 1 + nI 1) (s0 := (upd R 1 (R 1 + nI 1), nI 0)) ?_ hW hq ?_ (by simp [upd]) (nN T) 0 _ (by omega) ⟨fun _ _ _ => rfl, ?_⟩)
  · rintro v M1 ⟨rfl, h1, h2⟩
    exact ⟨rfl, fun i g1 g2 g3 => (h1 i g1 g3).trans ((mup_ne g3).trans (hz i g2)), h2⟩
  · rw [mup_ne (by omega)]; exact (hz 61 (by decide)).trans hM
  · intro j hj; rw [mup_ne (by omega)]; exact hf j hj
  · rw [mup_eq]; show upd (M q) 1 _ = upd R 1 _; rw [hz q (by omega), hR]
end R20
