section C45
variable {M M0 : vM} {c : Nat} {T : Nat → Int32}
set_option maxRecDepth 100000 in
theorem c_ruled0 (a b : Int32) : V kX1_ruledBy (rt (.int (anF a b)) M) M 0 [(0, .int (nI 0)), (1, .int a), (2, .int b)] [] := by
  refine v_iload_n dX1_ruledBy_0 rfl ?_
  refine v_iload_n dX1_ruledBy_1 rfl ?_
  refine v_icmp_eq (tgt := 10) dX1_ruledBy_2 (by decide) (fun c2 => ?_) (fun c2 => ?_)
  · refine v_iload_n dX1_ruledBy_10 rfl ?_
    refine v_iret dX1_ruledBy_11 rfl ?_
    refine ⟨congrArg (fun x => some (Value.int x)) ?_, rfl⟩
    unfold anF
    rw [if_pos (by first | exact Or.inl c2 | exact Or.inr c7)]
  · refine v_iload_n dX1_ruledBy_5 rfl ?_
    refine v_iload_n dX1_ruledBy_6 rfl ?_
    refine v_icmp_ne (tgt := 12) dX1_ruledBy_7 (by decide) (fun c7 => ?_) (fun c7 => ?_)
    · refine v_iload_n dX1_ruledBy_12 rfl ?_
      refine v_iconst (v := (nI 2)) dX1_ruledBy_13 rfl ?_
      refine v_icmp_eq (tgt := 22) dX1_ruledBy_14 (by decide) (fun c14 => ?_) (fun c14 => ?_)
      · refine v_iconst (v := (nI 2)) dX1_ruledBy_22 rfl ?_
        refine v_goto (tgt := 29) dX1_ruledBy_23 (by decide) ?_
        refine v_iret dX1_ruledBy_29 rfl ?_
        refine ⟨congrArg (fun x => some (Value.int x)) ?_, rfl⟩
        unfold anF
        rw [if_neg (fun q => q.elim c2 c7), if_pos (by first | exact Or.inl c14 | exact Or.inr c19)]
      · refine v_iload_n dX1_ruledBy_17 rfl ?_
        refine v_iconst (v := (nI 2)) dX1_ruledBy_18 rfl ?_
        refine v_icmp_ne (tgt := 26) dX1_ruledBy_19 (by decide) (fun c19 => ?_) (fun c19 => ?_)
        · refine v_iconst (v := (nI 1)) dX1_ruledBy_26 rfl ?_
          refine v_iload_n dX1_ruledBy_27 rfl ?_
          refine v_isub dX1_ruledBy_28 ?_
          refine v_top (y := (nI 1)) (by decide) ?_
          refine v_iret dX1_ruledBy_29 rfl ?_
          refine ⟨congrArg (fun x => some (Value.int x)) ?_, rfl⟩
          unfold anF
          rw [if_neg (fun q => q.elim c2 c7), if_neg (fun q => q.elim c14 c19)]
        · refine v_iconst (v := (nI 2)) dX1_ruledBy_22 rfl ?_
          refine v_goto (tgt := 29) dX1_ruledBy_23 (by decide) ?_
          refine v_iret dX1_ruledBy_29 rfl ?_
          refine ⟨congrArg (fun x => some (Value.int x)) ?_, rfl⟩
          unfold anF
          rw [if_neg (fun q => q.elim c2 c7), if_pos (by first | exact Or.inl c14 | exact Or.inr c19)]
    · refine v_iload_n dX1_ruledBy_10 rfl ?_
      refine v_iret dX1_ruledBy_11 rfl ?_
      refine ⟨congrArg (fun x => some (Value.int x)) ?_, rfl⟩
      unfold anF
      rw [if_pos (by first | exact Or.inl c2 | exact Or.inr c7)]
set_option maxRecDepth 100000 in
theorem c_ruled1 (a b : Int32) : V kX1_ruledBy (rt (.int (orF a b)) M) M 0 [(0, .int (nI 1)), (1, .int a), (2, .int b)] [] := by
  refine v_iload_n dX1_ruledBy_0 rfl ?_
  refine v_iload_n dX1_ruledBy_1 rfl ?_
  refine v_icmp_eq (tgt := 10) dX1_ruledBy_2 (by decide) (fun c2 => ?_) (fun c2 => ?_)
  · refine v_iload_n dX1_ruledBy_10 rfl ?_
    refine v_iret dX1_ruledBy_11 rfl ?_
    refine ⟨congrArg (fun x => some (Value.int x)) ?_, rfl⟩
    unfold orF
    rw [if_pos (by first | exact Or.inl c2 | exact Or.inr c7)]
  · refine v_iload_n dX1_ruledBy_5 rfl ?_
    refine v_iload_n dX1_ruledBy_6 rfl ?_
    refine v_icmp_ne (tgt := 12) dX1_ruledBy_7 (by decide) (fun c7 => ?_) (fun c7 => ?_)
    · refine v_iload_n dX1_ruledBy_12 rfl ?_
      refine v_iconst (v := (nI 2)) dX1_ruledBy_13 rfl ?_
      refine v_icmp_eq (tgt := 22) dX1_ruledBy_14 (by decide) (fun c14 => ?_) (fun c14 => ?_)
      · refine v_iconst (v := (nI 2)) dX1_ruledBy_22 rfl ?_
        refine v_goto (tgt := 29) dX1_ruledBy_23 (by decide) ?_
        refine v_iret dX1_ruledBy_29 rfl ?_
        refine ⟨congrArg (fun x => some (Value.int x)) ?_, rfl⟩
        unfold orF
        rw [if_neg (fun q => q.elim c2 c7), if_pos (by first | exact Or.inl c14 | exact Or.inr c19)]
      · refine v_iload_n dX1_ruledBy_17 rfl ?_
        refine v_iconst (v := (nI 2)) dX1_ruledBy_18 rfl ?_
        refine v_icmp_ne (tgt := 26) dX1_ruledBy_19 (by decide) (fun c19 => ?_) (fun c19 => ?_)
        · refine v_iconst (v := (nI 1)) dX1_ruledBy_26 rfl ?_
          refine v_iload_n dX1_ruledBy_27 rfl ?_
          refine v_isub dX1_ruledBy_28 ?_
          refine v_top (y := (nI 0)) (by decide) ?_
          refine v_iret dX1_ruledBy_29 rfl ?_
          refine ⟨congrArg (fun x => some (Value.int x)) ?_, rfl⟩
          unfold orF
          rw [if_neg (fun q => q.elim c2 c7), if_neg (fun q => q.elim c14 c19)]
        · refine v_iconst (v := (nI 2)) dX1_ruledBy_22 rfl ?_
          refine v_goto (tgt := 29) dX1_ruledBy_23 (by decide) ?_
          refine v_iret dX1_ruledBy_29 rfl ?_
          refine ⟨congrArg (fun x => some (Value.int x)) ?_, rfl⟩
          unfold orF
          rw [if_neg (fun q => q.elim c2 c7), if_pos (by first | exact Or.inl c14 | exact Or.inr c19)]
    · refine v_iload_n dX1_ruledBy_10 rfl ?_
      refine v_iret dX1_ruledBy_11 rfl ?_
      refine ⟨congrArg (fun x => some (Value.int x)) ?_, rfl⟩
      unfold orF
      rw [if_pos (by first | exact Or.inl c2 | exact Or.inr c7)]
set_option maxRecDepth 100000 in
theorem c_chosen {s : Int32} (a b : Int32) (hs : v3 s) : V kX1_chosen (rt (.int (chF s a b)) M) M 0 [(0, .int s), (1, .int a), (2, .int b)] [] := by
  refine v_iload_n dX1_chosen_0 rfl ?_
  refine v_iconst (v := (nI 2)) dX1_chosen_1 rfl ?_
  refine v_icmp_ne (tgt := 16) dX1_chosen_2 (by decide) (fun c2 => ?_) (fun c2 => ?_)
  · refine v_iload_n dX1_chosen_16 rfl ?_
    refine v_if_ne (tgt := 24) dX1_chosen_17 (by decide) (fun c17 => ?_) (fun c17 => ?_)
    · refine v_iload_n dX1_chosen_24 rfl ?_
      refine v_iret dX1_chosen_25 rfl ?_
      refine ⟨congrArg (fun x => some (Value.int x)) ?_, rfl⟩
      unfold chF
      first
      | rw [if_neg (by rw [c2]; decide), if_neg (by rw [c2]; decide), if_pos c7]
      | rw [if_neg (by rw [c2]; decide), if_neg (by rw [c2]; decide), if_neg c7]
      | rw [if_pos c17]
      | rw [if_neg c17, if_pos (by rcases hs with q | q | q; exact absurd q c17; exact q; exact absurd q c2)]
    · refine v_iload_n dX1_chosen_20 rfl ?_
      refine v_goto (tgt := 25) dX1_chosen_21 (by decide) ?_
      refine v_iret dX1_chosen_25 rfl ?_
      refine ⟨congrArg (fun x => some (Value.int x)) ?_, rfl⟩
      unfold chF
      first
      | rw [if_neg (by rw [c2]; decide), if_neg (by rw [c2]; decide), if_pos c7]
      | rw [if_neg (by rw [c2]; decide), if_neg (by rw [c2]; decide), if_neg c7]
      | rw [if_pos c17]
      | rw [if_neg c17, if_pos (by rcases hs with q | q | q; exact absurd q c17; exact q; exact absurd q c2)]
  · refine v_iload_n dX1_chosen_5 rfl ?_
    refine v_iload_n dX1_chosen_6 rfl ?_
    refine v_icmp_ne (tgt := 14) dX1_chosen_7 (by decide) (fun c7 => ?_) (fun c7 => ?_)
    · refine v_iconst (v := (nI 2)) dX1_chosen_14 rfl ?_
      refine v_iret dX1_chosen_15 rfl ?_
      refine ⟨congrArg (fun x => some (Value.int x)) ?_, rfl⟩
      unfold chF
      first
      | rw [if_neg (by rw [c2]; decide), if_neg (by rw [c2]; decide), if_pos c7]
      | rw [if_neg (by rw [c2]; decide), if_neg (by rw [c2]; decide), if_neg c7]
      | rw [if_pos c17]
      | rw [if_neg c17, if_pos (by rcases hs with q | q | q; exact absurd q c17; exact q; exact absurd q c2)]
    · refine v_iload_n dX1_chosen_10 rfl ?_
      refine v_goto (tgt := 15) dX1_chosen_11 (by decide) ?_
      refine v_iret dX1_chosen_15 rfl ?_
      refine ⟨congrArg (fun x => some (Value.int x)) ?_, rfl⟩
      unfold chF
      first
      | rw [if_neg (by rw [c2]; decide), if_neg (by rw [c2]; decide), if_pos c7]
      | rw [if_neg (by rw [c2]; decide), if_neg (by rw [c2]; decide), if_neg c7]
      | rw [if_pos c17]
      | rw [if_neg c17, if_pos (by rcases hs with q | q | q; exact absurd q c17; exact q; exact absurd q c2)]
set_option maxRecDepth 100000 in
theorem c_mGate (hc : c = 4 ∨ c = 14) (h : CIR0 M c T) (hW : WF T) {m : Nat} (hm : mo m) {f : Nat → Int32} {n : Nat} (hn : n < nN T) (hl : ¬ so T n ≤ 1) (hf : ∀ j, j < n → M (m + 1) j = f j) (h3 : ∀ j, j < n → v3 (f j)) : V kX1_gateValue (rt (.int (gtF T f n)) M) M 0 [(0, .ref m), (1, .int (nI n)), (2, .ref c)] [] := by
  have h16 := hW.n16
  have hm2 := hm_gate hl
  have p0 := hW.ptlt hn (show 0 < hmF (so T n) by omega)
  have p1 := hW.ptlt hn (show 1 < hmF (so T n) by omega)
  have h5 := hW.so5 hn
  refine v_aload_n dX1_gateValue_0 rfl ?_
  refine v_getR (t := m + 1) dX1_gateValue_1 fl_X1_9 (ob_m hm) rfl rfl ?_
  refine v_aload_n dX1_gateValue_4 rfl ?_
  refine v_iload_n dX1_gateValue_5 rfl ?_
  refine v_iconst (v := (nI 0)) dX1_gateValue_6 rfl ?_
  refine v_callVr (x := .int (nI (pt T n 0))) (M1 := M) (as := [.int (nI n), .int (nI 0)]) (st := [.ref (m + 1)]) dX1_gateValue_7 ml_X1_75 kv_X0_partOf (ob_c hc) ⟨(Nat.le_of_ble_eq_true rfl), (Nat.le_of_ble_eq_true rfl)⟩ rfl (Nat.le_of_ble_eq_true rfl) rfl (Nat.le_of_ble_eq_true rfl) (c_cPart hc h hW (by omega) (by omega)) ?_
  refine v_callSr (x := .int (f (pt T n 0))) (M1 := M) (as := [.ref (m + 1), .int (nI (pt T n 0))]) (st := []) dX1_gateValue_10 ml_X1_57 ks_X3_at ⟨(Nat.le_of_ble_eq_true rfl), (Nat.le_of_ble_eq_true rfl)⟩ rfl (Nat.le_of_ble_eq_true rfl) rfl (Nat.le_of_ble_eq_true rfl) (c_at (ar_m1 hm) (by omega) (hf _ p0)) ?_
  refine v_istore_n (lv' := [(0, .ref m), (1, .int (nI n)), (2, .ref c), (3, .int (f (pt T n 0)))]) dX1_gateValue_13 (Nat.le_of_ble_eq_true rfl) rfl ?_
  refine v_aload_n dX1_gateValue_14 rfl ?_
  refine v_getR (t := m + 1) dX1_gateValue_15 fl_X1_9 (ob_m hm) rfl rfl ?_
  refine v_aload_n dX1_gateValue_18 rfl ?_
  refine v_iload_n dX1_gateValue_19 rfl ?_
  refine v_iconst (v := (nI 1)) dX1_gateValue_20 rfl ?_
  refine v_callVr (x := .int (nI (pt T n 1))) (M1 := M) (as := [.int (nI n), .int (nI 1)]) (st := [.ref (m + 1)]) dX1_gateValue_21 ml_X1_75 kv_X0_partOf (ob_c hc) ⟨(Nat.le_of_ble_eq_true rfl), (Nat.le_of_ble_eq_true rfl)⟩ rfl (Nat.le_of_ble_eq_true rfl) rfl (Nat.le_of_ble_eq_true rfl) (c_cPart hc h hW (by omega) (by omega)) ?_
  refine v_callSr (x := .int (f (pt T n 1))) (M1 := M) (as := [.ref (m + 1), .int (nI (pt T n 1))]) (st := []) dX1_gateValue_24 ml_X1_57 ks_X3_at ⟨(Nat.le_of_ble_eq_true rfl), (Nat.le_of_ble_eq_true rfl)⟩ rfl (Nat.le_of_ble_eq_true rfl) rfl (Nat.le_of_ble_eq_true rfl) (c_at (ar_m1 hm) (by omega) (hf _ p1)) ?_
  refine v_istore (lv' := [(0, .ref m), (1, .int (nI n)), (2, .ref c), (3, .int (f (pt T n 0))), (4, .int (f (pt T n 1)))]) dX1_gateValue_27 (Nat.le_of_ble_eq_true rfl) rfl ?_
  refine v_aload_n dX1_gateValue_29 rfl ?_
  refine v_getR (t := c + 1) dX1_gateValue_30 fl_X1_82 (ob_c hc) rfl rfl ?_
  refine v_iload_n dX1_gateValue_33 rfl ?_
  refine v_callSr (x := .int (nI (so T n))) (M1 := M) (as := [.ref (c + 1), .int (nI n)]) (st := []) dX1_gateValue_34 ml_X1_57 ks_X3_at ⟨(Nat.le_of_ble_eq_true rfl), (Nat.le_of_ble_eq_true rfl)⟩ rfl (Nat.le_of_ble_eq_true rfl) rfl (Nat.le_of_ble_eq_true rfl) (c_at (ar_c1 hc) (by omega) (h.wh (by omega))) ?_
  rcases (show so T n = 2 ∨ so T n = 3 ∨ so T n = 4 ∨ so T n = 5 by omega) with c9 | c9 | c9 | c9
  · refine v_tabIn (tgt := 64) (off := 27) dX1_gateValue_37 (by rw [c9]; decide) (by rw [c9]; decide) (by rw [c9]; decide) (by decide) ?_
    refine v_iconst (v := (nI 0)) dX1_gateValue_64 rfl ?_
    refine v_iload_n dX1_gateValue_65 rfl ?_
    refine v_iload dX1_gateValue_66 rfl ?_
    refine v_callSr (x := .int (anF (f (pt T n 0)) (f (pt T n 1)))) (M1 := M) (as := [.int (nI 0), .int (f (pt T n 0)), .int (f (pt T n 1))]) (st := []) dX1_gateValue_68 ml_X1_85 ks_X1_ruledBy ⟨(Nat.le_of_ble_eq_true rfl), (Nat.le_of_ble_eq_true rfl)⟩ rfl (Nat.le_of_ble_eq_true rfl) rfl (Nat.le_of_ble_eq_true rfl) (c_ruled0 _ _) ?_
    refine v_iret dX1_gateValue_71 rfl ?_
    refine ⟨?_, rfl⟩
    simp [gtF, c9]
  · refine v_tabIn (tgt := 72) (off := 35) dX1_gateValue_37 (by rw [c9]; decide) (by rw [c9]; decide) (by rw [c9]; decide) (by decide) ?_
    refine v_iconst (v := (nI 1)) dX1_gateValue_72 rfl ?_
    refine v_iload_n dX1_gateValue_73 rfl ?_
    refine v_iload dX1_gateValue_74 rfl ?_
    refine v_callSr (x := .int (orF (f (pt T n 0)) (f (pt T n 1)))) (M1 := M) (as := [.int (nI 1), .int (f (pt T n 0)), .int (f (pt T n 1))]) (st := []) dX1_gateValue_76 ml_X1_85 ks_X1_ruledBy ⟨(Nat.le_of_ble_eq_true rfl), (Nat.le_of_ble_eq_true rfl)⟩ rfl (Nat.le_of_ble_eq_true rfl) rfl (Nat.le_of_ble_eq_true rfl) (c_ruled1 _ _) ?_
    refine v_iret dX1_gateValue_79 rfl ?_
    refine ⟨?_, rfl⟩
    simp [gtF, c9]
  · refine v_tabIn (tgt := 80) (off := 43) dX1_gateValue_37 (by rw [c9]; decide) (by rw [c9]; decide) (by rw [c9]; decide) (by decide) ?_
    refine v_iload_n dX1_gateValue_80 rfl ?_
    refine v_iconst (v := (nI 2)) dX1_gateValue_81 rfl ?_
    refine v_icmp_eq (tgt := 91) dX1_gateValue_82 (by decide) (fun c82 => ?_) (fun c82 => ?_)
    · refine v_iconst (v := (nI 2)) dX1_gateValue_91 rfl ?_
      refine v_goto (tgt := 99) dX1_gateValue_92 (by decide) ?_
      refine v_iret dX1_gateValue_99 rfl ?_
      refine ⟨?_, rfl⟩
      simp only [gtF, c9, show ¬ 4 = 2 by decide, show ¬ 4 = 3 by decide, if_true, if_false]
      unfold xoF
      rw [if_pos (by first | exact Or.inl c82 | exact Or.inr c88)]
    · refine v_iload dX1_gateValue_85 rfl ?_
      refine v_iconst (v := (nI 2)) dX1_gateValue_87 rfl ?_
      refine v_icmp_ne (tgt := 95) dX1_gateValue_88 (by decide) (fun c88 => ?_) (fun c88 => ?_)
      · refine v_iload_n dX1_gateValue_95 rfl ?_
        refine v_iload dX1_gateValue_96 rfl ?_
        refine v_ixor dX1_gateValue_98 ?_
        refine v_iret dX1_gateValue_99 rfl ?_
        refine ⟨?_, rfl⟩
        simp only [gtF, c9, show ¬ 4 = 2 by decide, show ¬ 4 = 3 by decide, if_true, if_false]
        unfold xoF
        rw [if_neg (fun q => q.elim c82 c88)]
      · refine v_iconst (v := (nI 2)) dX1_gateValue_91 rfl ?_
        refine v_goto (tgt := 99) dX1_gateValue_92 (by decide) ?_
        refine v_iret dX1_gateValue_99 rfl ?_
        refine ⟨?_, rfl⟩
        simp only [gtF, c9, show ¬ 4 = 2 by decide, show ¬ 4 = 3 by decide, if_true, if_false]
        unfold xoF
        rw [if_pos (by first | exact Or.inl c82 | exact Or.inr c88)]
  · refine v_tabOut (tgt := 100) dX1_gateValue_37 (by rw [c9]; decide) (by decide) ?_
    refine v_iload_n dX1_gateValue_100 rfl ?_
    refine v_iload dX1_gateValue_101 rfl ?_
    refine v_aload_n dX1_gateValue_103 rfl ?_
    refine v_getR (t := m + 1) dX1_gateValue_104 fl_X1_9 (ob_m hm) rfl rfl ?_
    have hm3 := hm_ch (show so T n = 5 by omega)
    have p2 := hW.ptlt hn (show 2 < hmF (so T n) by omega)
    refine v_aload_n dX1_gateValue_107 rfl ?_
    refine v_iload_n dX1_gateValue_108 rfl ?_
    refine v_iconst (v := (nI 2)) dX1_gateValue_109 rfl ?_
    refine v_callVr (x := .int (nI (pt T n 2))) (M1 := M) (as := [.int (nI n), .int (nI 2)]) (st := [.ref (m + 1), .int (f (pt T n 1)), .int (f (pt T n 0))]) dX1_gateValue_110 ml_X1_75 kv_X0_partOf (ob_c hc) ⟨(Nat.le_of_ble_eq_true rfl), (Nat.le_of_ble_eq_true rfl)⟩ rfl (Nat.le_of_ble_eq_true rfl) rfl (Nat.le_of_ble_eq_true rfl) (c_cPart hc h hW (by omega) (by omega)) ?_
    refine v_callSr (x := .int (f (pt T n 2))) (M1 := M) (as := [.ref (m + 1), .int (nI (pt T n 2))]) (st := [.int (f (pt T n 1)), .int (f (pt T n 0))]) dX1_gateValue_113 ml_X1_57 ks_X3_at ⟨(Nat.le_of_ble_eq_true rfl), (Nat.le_of_ble_eq_true rfl)⟩ rfl (Nat.le_of_ble_eq_true rfl) rfl (Nat.le_of_ble_eq_true rfl) (c_at (ar_m1 hm) (by omega) (hf _ p2)) ?_
    refine v_callSr (x := .int (chF (f (pt T n 0)) (f (pt T n 1)) (f (pt T n 2)))) (M1 := M) (as := [.int (f (pt T n 0)), .int (f (pt T n 1)), .int (f (pt T n 2))]) (st := []) dX1_gateValue_116 ml_X1_89 ks_X1_chosen ⟨(Nat.le_of_ble_eq_true rfl), (Nat.le_of_ble_eq_true rfl)⟩ rfl (Nat.le_of_ble_eq_true rfl) rfl (Nat.le_of_ble_eq_true rfl) (c_chosen _ _ (h3 _ p0)) ?_
    refine v_iret dX1_gateValue_119 rfl ?_
    refine ⟨?_, rfl⟩
    simp [gtF, c9]
set_option maxRecDepth 100000 in
theorem c_mLeaf (hc : c = 4 ∨ c = 14) (h : CIR0 M c T) (hW : WF T) {m o : Nat} (hm : mo m) (ho : mo o) {f R : Nat → Int32} {oth : Int32} {n : Nat} (hn : n < nN T) (hl : so T n ≤ 1) (hf : ∀ j, j < nN T → M (o + 1) j = f j) (hw : so T n = 0 → M (o + 2) n = R (20 + n)) (hR2 : M m 2 = R 2) (hR3 : M m 3 = R 3) : V kX1_leafValue (fun v M1 => v = some (.int (itF T f R oth n)) ∧ (∀ i, i ≠ m → M1 i = M i) ∧ (∀ j, j ≠ 2 → j ≠ 3 → M1 m j = M m j) ∧ M1 m 2 = tkW T f R oth n 2 ∧ M1 m 3 = tkW T f R oth n 3) M 0 [(0, .ref m), (1, .int (nI n)), (2, .ref o), (3, .ref c), (4, .int oth)] [] := by
  have h16 := hW.n16
  refine v_aload_n dX1_leafValue_0 rfl ?_
  refine v_iload_n dX1_leafValue_1 rfl ?_
  refine v_iconst (v := (nI 0)) dX1_leafValue_2 rfl ?_
  refine v_callVr (x := .int (bI (so T n = 0))) (M1 := M) (as := [.int (nI n), .int (nI 0)]) (st := []) dX1_leafValue_3 ml_X1_69 kv_X0_isOf (ob_c hc) ⟨(Nat.le_of_ble_eq_true rfl), (Nat.le_of_ble_eq_true rfl)⟩ rfl (Nat.le_of_ble_eq_true rfl) rfl (Nat.le_of_ble_eq_true rfl) (c_cOf hc h hW hn (by omega)) ?_
  refine v_ifB_eq (tgt := 18) dX1_leafValue_6 (by decide) (fun c6 => ?_) (fun c6 => ?_)
  · have h1 : so T n = 1 := by omega
    have hm1 := hm_reg h1
    have p0 := hW.ptlt hn (show 0 < hmF (so T n) by omega)
    refine v_aload_n dX1_leafValue_18 rfl ?_
    refine v_getR (t := c + 6) dX1_leafValue_19 fl_X1_72 (ob_c hc) rfl rfl ?_
    refine v_iload_n dX1_leafValue_22 rfl ?_
    refine v_callSr (x := .int (frF T n)) (M1 := M) (as := [.ref (c + 6), .int (nI n)]) (st := []) dX1_leafValue_23 ml_X1_57 ks_X3_at ⟨(Nat.le_of_ble_eq_true rfl), (Nat.le_of_ble_eq_true rfl)⟩ rfl (Nat.le_of_ble_eq_true rfl) rfl (Nat.le_of_ble_eq_true rfl) (c_at (ar_c6 hc) (by omega) (by rw [h.fr hn, if_pos h1])) ?_
    refine v_iload dX1_leafValue_26 rfl ?_
    refine v_iand dX1_leafValue_28 ?_
    refine v_if_eq (tgt := 44) dX1_leafValue_29 (by decide) (fun c29 => ?_) (fun c29 => ?_)
    · refine v_aload_n dX1_leafValue_44 rfl ?_
      refine v_iload_n dX1_leafValue_45 rfl ?_
      refine v_iconst (v := (nI 0)) dX1_leafValue_46 rfl ?_
      refine v_callVr (x := .int (nI (pt T n 0))) (M1 := M) (as := [.int (nI n), .int (nI 0)]) (st := []) dX1_leafValue_47 ml_X1_75 kv_X0_partOf (ob_c hc) ⟨(Nat.le_of_ble_eq_true rfl), (Nat.le_of_ble_eq_true rfl)⟩ rfl (Nat.le_of_ble_eq_true rfl) rfl (Nat.le_of_ble_eq_true rfl) (c_cPart hc h hW (by omega) (by omega)) ?_
      refine v_istore (lv' := [(0, .ref m), (1, .int (nI n)), (2, .ref o), (3, .ref c), (4, .int oth), (5, .int (nI (pt T n 0)))]) dX1_leafValue_50 (Nat.le_of_ble_eq_true rfl) rfl ?_
      refine v_aload_n dX1_leafValue_52 rfl ?_
      refine v_getR (t := o + 1) dX1_leafValue_53 fl_X1_9 (ob_m ho) rfl rfl ?_
      refine v_iload dX1_leafValue_56 rfl ?_
      refine v_callSr (x := .int (f (pt T n 0))) (M1 := M) (as := [.ref (o + 1), .int (nI (pt T n 0))]) (st := []) dX1_leafValue_58 ml_X1_57 ks_X3_at ⟨(Nat.le_of_ble_eq_true rfl), (Nat.le_of_ble_eq_true rfl)⟩ rfl (Nat.le_of_ble_eq_true rfl) rfl (Nat.le_of_ble_eq_true rfl) (c_at (ar_m1 ho) (by omega) (hf _ (by omega))) ?_
      refine v_istore (lv' := [(0, .ref m), (1, .int (nI n)), (2, .ref o), (3, .ref c), (4, .int oth), (5, .int (nI (pt T n 0))), (6, .int (f (pt T n 0)))]) dX1_leafValue_61 (Nat.le_of_ble_eq_true rfl) rfl ?_
      refine v_iload dX1_leafValue_63 rfl ?_
      refine v_iconst (v := (nI 2)) dX1_leafValue_65 rfl ?_
      refine v_icmp_ne (tgt := 127) dX1_leafValue_66 (by decide) (fun c66 => ?_) (fun c66 => ?_)
      · refine v_iload dX1_leafValue_127 rfl ?_
        refine v_iconst (v := (nI 2)) dX1_leafValue_129 rfl ?_
        refine v_icmp_ne (tgt := 143) dX1_leafValue_130 (by decide) (fun c130 => ?_) (fun c130 => ?_)
        · refine v_iload dX1_leafValue_143 rfl ?_
          refine v_iret dX1_leafValue_145 rfl ?_
          have hst : stF T f n = false := by
            cases hx : stF T f n with
            | false => rfl
            | true =>
              unfold stF at hx; simp only [Bool.and_eq_true, decide_eq_true_eq] at hx
              first | exact absurd hx.2 c66 | exact absurd (show cdB T (pt T n 0) = true by unfold cdB; simp [hx.1.1.1, hx.1.2]) c75 | exact absurd hx.1.1.2 c95
          refine ⟨congrArg (fun x => some (Value.int x)) ?_, fun _ _ => rfl, fun _ _ _ => rfl, ?_, ?_⟩
          · unfold itF; rw [if_neg c6, if_pos c29]; unfold tkF; rw [if_neg (by rw [hst]; decide)]
          · unfold tkW; rw [if_pos h1, if_pos c29, if_neg (fun q => c130 q.1)]; exact hR2
          · unfold tkW; rw [if_pos h1, if_pos c29, if_neg (fun q => c130 q.1)]; exact hR3
        · refine v_aload_n dX1_leafValue_133 rfl ?_
          refine v_dup dX1_leafValue_134 rfl ?_
          refine v_getI2 (y := (R 3)) dX1_leafValue_135 fl_X1_28 (ob_m hm) rfl (hR3) ?_
          refine v_iconst (v := (nI 1)) dX1_leafValue_138 rfl ?_
          refine v_iadd dX1_leafValue_139 ?_
          refine v_putI dX1_leafValue_140 fl_X1_28 (ob_m hm) rfl rfl rfl ?_
          refine v_iload dX1_leafValue_143 rfl ?_
          refine v_iret dX1_leafValue_145 rfl ?_
          have hst : stF T f n = false := by
            cases hx : stF T f n with
            | false => rfl
            | true =>
              unfold stF at hx; simp only [Bool.and_eq_true, decide_eq_true_eq] at hx
              first | exact absurd hx.2 c66 | exact absurd (show cdB T (pt T n 0) = true by unfold cdB; simp [hx.1.1.1, hx.1.2]) c75 | exact absurd hx.1.1.2 c95
          refine ⟨congrArg (fun x => some (Value.int x)) ?_, fun i hi => mup_ne hi, fun j h2 h3 => by rw [mup_eq]; simp only [upd]; rw [if_neg (by omega)], ?_, ?_⟩
          · unfold itF; rw [if_neg c6, if_pos c29]; unfold tkF; rw [if_neg (by rw [hst]; decide)]
          · rw [mup_eq]; unfold tkW; rw [if_pos h1, if_pos c29, if_pos ⟨c130, hst⟩]; simp [upd]; exact hR2
          · rw [mup_eq]; unfold tkW; rw [if_pos h1, if_pos c29, if_pos ⟨c130, hst⟩]; simp [upd]
      · refine v_aload_n dX1_leafValue_69 rfl ?_
        refine v_iload dX1_leafValue_70 rfl ?_
        refine v_callVr (x := .int (bI (cdB T (pt T n 0) = true))) (M1 := M) (as := [.int (nI (pt T n 0))]) (st := []) dX1_leafValue_72 ml_X1_79 kv_X0_isDirect (ob_c hc) ⟨(Nat.le_of_ble_eq_true rfl), (Nat.le_of_ble_eq_true rfl)⟩ rfl (Nat.le_of_ble_eq_true rfl) rfl (Nat.le_of_ble_eq_true rfl) (c_cDir hc h hW (by omega)) ?_
        refine v_ifB_eq (tgt := 127) dX1_leafValue_75 (by decide) (fun c75 => ?_) (fun c75 => ?_)
        · refine v_iload dX1_leafValue_127 rfl ?_
          refine v_iconst (v := (nI 2)) dX1_leafValue_129 rfl ?_
          refine v_icmp_ne (tgt := 143) dX1_leafValue_130 (by decide) (fun c130 => ?_) (fun c130 => ?_)
          · refine v_iload dX1_leafValue_143 rfl ?_
            refine v_iret dX1_leafValue_145 rfl ?_
            have hst : stF T f n = false := by
              cases hx : stF T f n with
              | false => rfl
              | true =>
                unfold stF at hx; simp only [Bool.and_eq_true, decide_eq_true_eq] at hx
                first | exact absurd hx.2 c66 | exact absurd (show cdB T (pt T n 0) = true by unfold cdB; simp [hx.1.1.1, hx.1.2]) c75 | exact absurd hx.1.1.2 c95
            refine ⟨congrArg (fun x => some (Value.int x)) ?_, fun _ _ => rfl, fun _ _ _ => rfl, ?_, ?_⟩
            · unfold itF; rw [if_neg c6, if_pos c29]; unfold tkF; rw [if_neg (by rw [hst]; decide)]
            · unfold tkW; rw [if_pos h1, if_pos c29, if_neg (fun q => c130 q.1)]; exact hR2
            · unfold tkW; rw [if_pos h1, if_pos c29, if_neg (fun q => c130 q.1)]; exact hR3
          · refine v_aload_n dX1_leafValue_133 rfl ?_
            refine v_dup dX1_leafValue_134 rfl ?_
            refine v_getI2 (y := (R 3)) dX1_leafValue_135 fl_X1_28 (ob_m hm) rfl (hR3) ?_
            refine v_iconst (v := (nI 1)) dX1_leafValue_138 rfl ?_
            refine v_iadd dX1_leafValue_139 ?_
            refine v_putI dX1_leafValue_140 fl_X1_28 (ob_m hm) rfl rfl rfl ?_
            refine v_iload dX1_leafValue_143 rfl ?_
            refine v_iret dX1_leafValue_145 rfl ?_
            have hst : stF T f n = false := by
              cases hx : stF T f n with
              | false => rfl
              | true =>
                unfold stF at hx; simp only [Bool.and_eq_true, decide_eq_true_eq] at hx
                first | exact absurd hx.2 c66 | exact absurd (show cdB T (pt T n 0) = true by unfold cdB; simp [hx.1.1.1, hx.1.2]) c75 | exact absurd hx.1.1.2 c95
            refine ⟨congrArg (fun x => some (Value.int x)) ?_, fun i hi => mup_ne hi, fun j h2 h3 => by rw [mup_eq]; simp only [upd]; rw [if_neg (by omega)], ?_, ?_⟩
            · unfold itF; rw [if_neg c6, if_pos c29]; unfold tkF; rw [if_neg (by rw [hst]; decide)]
            · rw [mup_eq]; unfold tkW; rw [if_pos h1, if_pos c29, if_pos ⟨c130, hst⟩]; simp [upd]; exact hR2
            · rw [mup_eq]; unfold tkW; rw [if_pos h1, if_pos c29, if_pos ⟨c130, hst⟩]; simp [upd]
        · refine v_aload_n dX1_leafValue_78 rfl ?_
          refine v_getR (t := c + 2) dX1_leafValue_79 fl_X1_54 (ob_c hc) rfl rfl ?_
          refine v_iload dX1_leafValue_82 rfl ?_
          have hs1 : so T (pt T n 0) = 1 := (cd_so c75).1
          have hm4 := hm_reg hs1
          have p4 := hW.ptlt (n := pt T n 0) (by omega) (show 0 < hmF (so T (pt T n 0)) by omega)
          refine v_callSr (x := .int (nI (ck T (pt T n 0)))) (M1 := M) (as := [.ref (c + 2), .int (nI (pt T n 0))]) (st := []) dX1_leafValue_84 ml_X1_57 ks_X3_at ⟨(Nat.le_of_ble_eq_true rfl), (Nat.le_of_ble_eq_true rfl)⟩ rfl (Nat.le_of_ble_eq_true rfl) rfl (Nat.le_of_ble_eq_true rfl) (c_at (ar_c2 hc) (by omega) (cir_ckL h (by omega) (by omega))) ?_
          refine v_aload_n dX1_leafValue_87 rfl ?_
          refine v_getR (t := c + 2) dX1_leafValue_88 fl_X1_54 (ob_c hc) rfl rfl ?_
          refine v_iload_n dX1_leafValue_91 rfl ?_
          refine v_callSr (x := .int (nI (ck T n))) (M1 := M) (as := [.ref (c + 2), .int (nI n)]) (st := [.int (nI (ck T (pt T n 0)))]) dX1_leafValue_92 ml_X1_57 ks_X3_at ⟨(Nat.le_of_ble_eq_true rfl), (Nat.le_of_ble_eq_true rfl)⟩ rfl (Nat.le_of_ble_eq_true rfl) rfl (Nat.le_of_ble_eq_true rfl) (c_at (ar_c2 hc) (by omega) (cir_ckL h hn (by omega))) ?_
          refine v_icmpN_ne (tgt := 127) dX1_leafValue_95 (by decide) (by have := hW.ck2 (n := pt T n 0) (by omega); omega) (by have := hW.ck2 hn; omega) (fun c95 => ?_) (fun c95 => ?_)
          · refine v_iload dX1_leafValue_127 rfl ?_
            refine v_iconst (v := (nI 2)) dX1_leafValue_129 rfl ?_
            refine v_icmp_ne (tgt := 143) dX1_leafValue_130 (by decide) (fun c130 => ?_) (fun c130 => ?_)
            · refine v_iload dX1_leafValue_143 rfl ?_
              refine v_iret dX1_leafValue_145 rfl ?_
              have hst : stF T f n = false := by
                cases hx : stF T f n with
                | false => rfl
                | true =>
                  unfold stF at hx; simp only [Bool.and_eq_true, decide_eq_true_eq] at hx
                  first | exact absurd hx.2 c66 | exact absurd (show cdB T (pt T n 0) = true by unfold cdB; simp [hx.1.1.1, hx.1.2]) c75 | exact absurd hx.1.1.2 c95
              refine ⟨congrArg (fun x => some (Value.int x)) ?_, fun _ _ => rfl, fun _ _ _ => rfl, ?_, ?_⟩
              · unfold itF; rw [if_neg c6, if_pos c29]; unfold tkF; rw [if_neg (by rw [hst]; decide)]
              · unfold tkW; rw [if_pos h1, if_pos c29, if_neg (fun q => c130 q.1)]; exact hR2
              · unfold tkW; rw [if_pos h1, if_pos c29, if_neg (fun q => c130 q.1)]; exact hR3
            · refine v_aload_n dX1_leafValue_133 rfl ?_
              refine v_dup dX1_leafValue_134 rfl ?_
              refine v_getI2 (y := (R 3)) dX1_leafValue_135 fl_X1_28 (ob_m hm) rfl (hR3) ?_
              refine v_iconst (v := (nI 1)) dX1_leafValue_138 rfl ?_
              refine v_iadd dX1_leafValue_139 ?_
              refine v_putI dX1_leafValue_140 fl_X1_28 (ob_m hm) rfl rfl rfl ?_
              refine v_iload dX1_leafValue_143 rfl ?_
              refine v_iret dX1_leafValue_145 rfl ?_
              have hst : stF T f n = false := by
                cases hx : stF T f n with
                | false => rfl
                | true =>
                  unfold stF at hx; simp only [Bool.and_eq_true, decide_eq_true_eq] at hx
                  first | exact absurd hx.2 c66 | exact absurd (show cdB T (pt T n 0) = true by unfold cdB; simp [hx.1.1.1, hx.1.2]) c75 | exact absurd hx.1.1.2 c95
              refine ⟨congrArg (fun x => some (Value.int x)) ?_, fun i hi => mup_ne hi, fun j h2 h3 => by rw [mup_eq]; simp only [upd]; rw [if_neg (by omega)], ?_, ?_⟩
              · unfold itF; rw [if_neg c6, if_pos c29]; unfold tkF; rw [if_neg (by rw [hst]; decide)]
              · rw [mup_eq]; unfold tkW; rw [if_pos h1, if_pos c29, if_pos ⟨c130, hst⟩]; simp [upd]; exact hR2
              · rw [mup_eq]; unfold tkW; rw [if_pos h1, if_pos c29, if_pos ⟨c130, hst⟩]; simp [upd]
          · refine v_aload_n dX1_leafValue_98 rfl ?_
            refine v_getR (t := o + 1) dX1_leafValue_99 fl_X1_9 (ob_m ho) rfl rfl ?_
            refine v_aload_n dX1_leafValue_102 rfl ?_
            refine v_iload dX1_leafValue_103 rfl ?_
            refine v_iconst (v := (nI 0)) dX1_leafValue_105 rfl ?_
            refine v_callVr (x := .int (nI (pt T (pt T n 0) 0))) (M1 := M) (as := [.int (nI (pt T n 0)), .int (nI 0)]) (st := [.ref (o + 1)]) dX1_leafValue_106 ml_X1_75 kv_X0_partOf (ob_c hc) ⟨(Nat.le_of_ble_eq_true rfl), (Nat.le_of_ble_eq_true rfl)⟩ rfl (Nat.le_of_ble_eq_true rfl) rfl (Nat.le_of_ble_eq_true rfl) (c_cPart hc h hW (by omega) (by omega)) ?_
            refine v_callSr (x := .int (f (pt T (pt T n 0) 0))) (M1 := M) (as := [.ref (o + 1), .int (nI (pt T (pt T n 0) 0))]) (st := []) dX1_leafValue_109 ml_X1_57 ks_X3_at ⟨(Nat.le_of_ble_eq_true rfl), (Nat.le_of_ble_eq_true rfl)⟩ rfl (Nat.le_of_ble_eq_true rfl) rfl (Nat.le_of_ble_eq_true rfl) (c_at (ar_m1 ho) (by omega) (hf _ (by omega))) ?_
            refine v_istore (lv' := [(0, .ref m), (1, .int (nI n)), (2, .ref o), (3, .ref c), (4, .int oth), (5, .int (nI (pt T n 0))), (6, .int (f (pt T n 0))), (7, .int (f (pt T (pt T n 0) 0)))]) dX1_leafValue_112 (Nat.le_of_ble_eq_true rfl) rfl ?_
            refine v_iload dX1_leafValue_114 rfl ?_
            refine v_iconst (v := (nI 2)) dX1_leafValue_116 rfl ?_
            refine v_icmp_ne (tgt := 124) dX1_leafValue_117 (by decide) (fun c117 => ?_) (fun c117 => ?_)
            · refine v_iload dX1_leafValue_124 rfl ?_
              refine v_iret dX1_leafValue_126 rfl ?_
              have hst : stF T f n = true := by unfold stF; simp only [Bool.and_eq_true, decide_eq_true_eq]; exact ⟨⟨⟨hs1, c95⟩, (cd_so c75).2⟩, c66⟩
              refine ⟨congrArg (fun x => some (Value.int x)) ?_, fun _ _ => rfl, fun _ _ _ => rfl, ?_, ?_⟩
              · unfold itF; rw [if_neg c6, if_pos c29]; unfold tkF; rw [if_pos hst]; first | rw [if_pos c117] | rw [if_neg c117]
              · unfold tkW; rw [if_pos h1, if_pos c29, if_neg (fun q => by rw [hst] at q; cases q.2)]; exact hR2
              · unfold tkW; rw [if_pos h1, if_pos c29, if_neg (fun q => by rw [hst] at q; cases q.2)]; exact hR3
            · refine v_iconst (v := (nI 0)) dX1_leafValue_120 rfl ?_
              refine v_goto (tgt := 126) dX1_leafValue_121 (by decide) ?_
              refine v_iret dX1_leafValue_126 rfl ?_
              have hst : stF T f n = true := by unfold stF; simp only [Bool.and_eq_true, decide_eq_true_eq]; exact ⟨⟨⟨hs1, c95⟩, (cd_so c75).2⟩, c66⟩
              refine ⟨congrArg (fun x => some (Value.int x)) ?_, fun _ _ => rfl, fun _ _ _ => rfl, ?_, ?_⟩
              · unfold itF; rw [if_neg c6, if_pos c29]; unfold tkF; rw [if_pos hst]; first | rw [if_pos c117] | rw [if_neg c117]
              · unfold tkW; rw [if_pos h1, if_pos c29, if_neg (fun q => by rw [hst] at q; cases q.2)]; exact hR2
              · unfold tkW; rw [if_pos h1, if_pos c29, if_neg (fun q => by rw [hst] at q; cases q.2)]; exact hR3
    · refine v_aload_n dX1_leafValue_32 rfl ?_
      refine v_dup dX1_leafValue_33 rfl ?_
      refine v_getI2 (y := (R 2)) dX1_leafValue_34 fl_X1_25 (ob_m hm) rfl (hR2) ?_
      refine v_iconst (v := (nI 1)) dX1_leafValue_37 rfl ?_
      refine v_iadd dX1_leafValue_38 ?_
      refine v_putI dX1_leafValue_39 fl_X1_25 (ob_m hm) rfl rfl rfl ?_
      refine v_iconst (v := (nI 2)) dX1_leafValue_42 rfl ?_
      refine v_iret dX1_leafValue_43 rfl ?_
      refine ⟨congrArg (fun x => some (Value.int x)) ?_, fun i hi => mup_ne hi, fun j h2 h3 => by rw [mup_eq]; simp only [upd]; rw [if_neg (by omega)], ?_, ?_⟩
      · unfold itF; rw [if_neg c6, if_neg c29]
      · rw [mup_eq]; unfold tkW; rw [if_pos h1, if_neg c29]; simp [upd]
      · rw [mup_eq]; unfold tkW; rw [if_pos h1, if_neg c29]; simp [upd]; exact hR3
  · refine v_aload_n dX1_leafValue_9 rfl ?_
    refine v_getR (t := o + 2) dX1_leafValue_10 fl_X1_15 (ob_m ho) rfl rfl ?_
    refine v_iload_n dX1_leafValue_13 rfl ?_
    refine v_callSr (x := .int (R (20 + n))) (M1 := M) (as := [.ref (o + 2), .int (nI n)]) (st := []) dX1_leafValue_14 ml_X1_57 ks_X3_at ⟨(Nat.le_of_ble_eq_true rfl), (Nat.le_of_ble_eq_true rfl)⟩ rfl (Nat.le_of_ble_eq_true rfl) rfl (Nat.le_of_ble_eq_true rfl) (c_at (ar_m2 ho) (by omega) (hw c6)) ?_
    refine v_iret dX1_leafValue_17 rfl ?_
    refine ⟨congrArg (fun x => some (Value.int x)) ?_, fun _ _ => rfl, fun _ _ _ => rfl, ?_, ?_⟩
    · unfold itF; rw [if_pos c6]
    · unfold tkW; rw [if_neg (by omega)]; exact hR2
    · unfold tkW; rw [if_neg (by omega)]; exact hR3
end C45
