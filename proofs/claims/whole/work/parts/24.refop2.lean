section R24
variable {M M0 : vM} {T R tx : Nat → Int32} {P : List (Nat → Int32)} {Im : Nat → Option (Nat → Int32)} {t : Nat}
theorem REF_R0 {M1 : vM} {R' : Nat → Int32} (hr : REF M1 T R P Im tx t) {a : Nat} {x : Int32} (e : R' = upd R a x) : REF (mup M1 63 a x) T R' P Im tx t := by
  obtain ⟨r1, r2, r3, r4, r5⟩ := hr
  refine ⟨(mup_ne (by decide)).trans r1, by rw [mup_eq, r2, e], pR_c r3 (by rw [mup_ne (by decide)]) (mup_ne (by decide)), iR_c r4 (mup_ne (by decide)) (mup_ne (by decide)), xR_c r5 (by rw [mup_ne (by decide)]) (mup_ne (by decide))⟩
set_option maxRecDepth 100000 in
theorem c_needs (hr : REF M T R P Im tx t) (hW : WF T) (hp6 : P.length ≤ 6) (x : Int32) : V kX4_needs (rA M (needA R x) T (needR R x) (needP R P x) Im tx t) M 0 [(0, .ref 60), (1, .int x)] [] := by
  have h16 := hW.n16
  refine v_iload_n dX4_needs_0 rfl ?_
  refine v_iconst (v := (nI 2)) dX4_needs_1 rfl ?_
  refine v_iconst (v := (nI 4)) dX4_needs_2 rfl ?_
  refine v_callSr (x := .int (bI ((nI 2) ≤ x ∧ x ≤ (nI 4)))) (M1 := M) (as := [.int x, .int (nI 2), .int (nI 4)]) (st := []) dX4_needs_3 ml_X4_56 ks_X4_in ⟨(Nat.le_of_ble_eq_true rfl), (Nat.le_of_ble_eq_true rfl)⟩ rfl (Nat.le_of_ble_eq_true rfl) rfl (Nat.le_of_ble_eq_true rfl) (c_in _ _ _) ?_
  refine v_ifB_ne (tgt := 11) dX4_needs_6 (by decide) (fun c6 => ?_) (fun c6 => ?_)
  · refine v_aload_n dX4_needs_11 rfl ?_
    refine v_getR (t := 63) dX4_needs_12 fl_X4_16 ⟨by decide, rfl, by decide⟩ rfl rfl ?_
    refine v_iconst (v := (nI 0)) dX4_needs_15 rfl ?_
    refine v_iald2 (n := 36) (a := 0) (y := (R 0)) dX4_needs_16 ⟨by decide, rfl, rfl⟩ (rfl) (by omega) (congrFun hr.2.1 0) ?_
    refine v_istore_n (lv' := [(0, .ref 60), (1, .int x), (2, .int (R 0))]) dX4_needs_17 (Nat.le_of_ble_eq_true rfl) rfl ?_
    refine v_iload_n dX4_needs_18 rfl ?_
    refine v_iload_n dX4_needs_19 rfl ?_
    refine v_icmp_ne (tgt := 26) dX4_needs_20 (by decide) (fun c20 => ?_) (fun c20 => ?_)
    · refine v_aload_n dX4_needs_26 rfl ?_
      refine v_callV (as := []) (st := []) dX4_needs_27 ml_X4_158 kv_X4_note ⟨by decide, rfl, by decide⟩ ⟨(Nat.le_of_ble_eq_true rfl), (Nat.le_of_ble_eq_true rfl)⟩ rfl (Nat.le_of_ble_eq_true rfl) rfl (Nat.le_of_ble_eq_true rfl) (c_note hr hW hp6) (fun v M1 hq => ?_)
      obtain ⟨rfl, hr, hkp⟩ := hq
      refine v_aload_n dX4_needs_30 rfl ?_
      refine v_getR (t := 63) dX4_needs_31 fl_X4_16 ⟨by decide, rfl, by decide⟩ rfl rfl ?_
      refine v_iconst (v := (nI 0)) dX4_needs_34 rfl ?_
      refine v_iload_n dX4_needs_35 rfl ?_
      refine v_iast (n := 36) (a := 0) dX4_needs_36 ⟨by decide, rfl, rfl⟩ (rfl) (by omega) ?_
      refine v_iload_n dX4_needs_37 rfl ?_
      refine v_iret dX4_needs_38 rfl ?_
      have e1 : needR R x = upd R 0 x := if_pos ⟨c6, c20⟩
      have e2 : needP R P x = (R :: P).take 6 := if_pos ⟨c6, c20⟩
      rw [e2]
      refine ⟨?_, REF_R0 hr e1, kp_up hkp (by decide)⟩
      simp [needA, c6, c20]
    · refine v_bipush (v := (-2)) dX4_needs_23 (by decide) ?_
      refine v_iret dX4_needs_25 rfl ?_
      have e1 : needR R x = R := if_neg (by simp [*])
      have e2 : needP R P x = P := if_neg (by simp [*])
      rw [e1, e2]
      refine ⟨?_, hr, kp_rf M⟩
      simp [needA, *]
  · refine v_iconst (v := (-1)) dX4_needs_9 (by decide) ?_
    refine v_iret dX4_needs_10 rfl ?_
    have e1 : needR R x = R := if_neg (by simp [*])
    have e2 : needP R P x = P := if_neg (by simp [*])
    rw [e1, e2]
    refine ⟨?_, hr, kp_rf M⟩
    simp [needA, *]
set_option maxRecDepth 100000 in
theorem c_wishes0 (hr : REF M T R P Im tx t) (hW : WF T) (hp6 : P.length ≤ 6) {x v : Int32} (hx : ¬ isN T x) : V kX4_wishes (rA M ((-1)) T R P Im tx t) M 0 [(0, .ref 60), (1, .int x), (2, .int v)] [] := by
  have h16 := hW.n16
  refine v_aload_n dX4_wishes_0 rfl ?_
  refine v_iload_n dX4_wishes_1 rfl ?_
  refine v_callVr (x := .int (nI 0)) (M1 := M) (as := [.int x]) (st := []) dX4_wishes_2 ml_X4_161 kv_X4_isInput ⟨by decide, rfl, by decide⟩ ⟨(Nat.le_of_ble_eq_true rfl), (Nat.le_of_ble_eq_true rfl)⟩ rfl (Nat.le_of_ble_eq_true rfl) rfl (Nat.le_of_ble_eq_true rfl) (c_isInput0 hr.1 hW hx) ?_
  refine v_ifN_eq (tgt := 17) dX4_wishes_5 (by decide) (by omega) (fun c5 => ?_) (fun c5 => (absurd rfl c5))
  refine v_iconst (v := (-1)) dX4_wishes_17 (by decide) ?_
  refine v_iret dX4_wishes_18 rfl ?_
  exact ⟨rfl, hr, kp_rf M⟩
set_option maxRecDepth 100000 in
theorem c_wishes (hr : REF M T R P Im tx t) (hW : WF T) (hp6 : P.length ≤ 6) {n : Nat} {v : Int32} (hn : n < nN T) : V kX4_wishes (rA M (wisA T R n v) T (wisR T R n v) (wisP T R P n v) Im tx t) M 0 [(0, .ref 60), (1, .int (nI n)), (2, .int v)] [] := by
  have h16 := hW.n16
  refine v_aload_n dX4_wishes_0 rfl ?_
  refine v_iload_n dX4_wishes_1 rfl ?_
  refine v_callVr (x := .int (bI (so T n = 0))) (M1 := M) (as := [.int (nI n)]) (st := []) dX4_wishes_2 ml_X4_161 kv_X4_isInput ⟨by decide, rfl, by decide⟩ ⟨(Nat.le_of_ble_eq_true rfl), (Nat.le_of_ble_eq_true rfl)⟩ rfl (Nat.le_of_ble_eq_true rfl) rfl (Nat.le_of_ble_eq_true rfl) (c_isInput hr.1 hW hn) ?_
  refine v_ifB_eq (tgt := 17) dX4_wishes_5 (by decide) (fun c5 => ?_) (fun c5 => ?_)
  · refine v_iconst (v := (-1)) dX4_wishes_17 (by decide) ?_
    refine v_iret dX4_wishes_18 rfl ?_
    have e1 : wisR T R n v = R := if_neg (by simp [*])
    have e2 : wisP T R P n v = P := if_neg (by simp [*])
    rw [e1, e2]
    refine ⟨?_, hr, kp_rf M⟩
    simp [wisA, *]
  · refine v_iload_n dX4_wishes_8 rfl ?_
    refine v_iconst (v := (nI 0)) dX4_wishes_9 rfl ?_
    refine v_iconst (v := (nI 1)) dX4_wishes_10 rfl ?_
    refine v_callSr (x := .int (bI ((nI 0) ≤ v ∧ v ≤ (nI 1)))) (M1 := M) (as := [.int v, .int (nI 0), .int (nI 1)]) (st := []) dX4_wishes_11 ml_X4_56 ks_X4_in ⟨(Nat.le_of_ble_eq_true rfl), (Nat.le_of_ble_eq_true rfl)⟩ rfl (Nat.le_of_ble_eq_true rfl) rfl (Nat.le_of_ble_eq_true rfl) (c_in _ _ _) ?_
    refine v_ifB_ne (tgt := 19) dX4_wishes_14 (by decide) (fun c14 => ?_) (fun c14 => ?_)
    · refine v_aload_n dX4_wishes_19 rfl ?_
      refine v_getR (t := 63) dX4_wishes_20 fl_X4_16 ⟨by decide, rfl, by decide⟩ rfl rfl ?_
      refine v_bipush (v := (nI 20)) dX4_wishes_23 rfl ?_
      refine v_iload_n dX4_wishes_25 rfl ?_
      refine v_iaddN dX4_wishes_26 ?_
      refine v_iald2 (n := 36) (a := 20 + n) (y := (R (20 + n))) dX4_wishes_27 ⟨by decide, rfl, rfl⟩ (rfl) (by omega) (congrFun hr.2.1 _) ?_
      refine v_istore_n (lv' := [(0, .ref 60), (1, .int (nI n)), (2, .int v), (3, .int (R (20 + n)))]) dX4_wishes_28 (Nat.le_of_ble_eq_true rfl) rfl ?_
      refine v_iload_n dX4_wishes_29 rfl ?_
      refine v_iload_n dX4_wishes_30 rfl ?_
      refine v_icmp_ne (tgt := 37) dX4_wishes_31 (by decide) (fun c31 => ?_) (fun c31 => ?_)
      · refine v_aload_n dX4_wishes_37 rfl ?_
        refine v_callV (as := []) (st := []) dX4_wishes_38 ml_X4_158 kv_X4_note ⟨by decide, rfl, by decide⟩ ⟨(Nat.le_of_ble_eq_true rfl), (Nat.le_of_ble_eq_true rfl)⟩ rfl (Nat.le_of_ble_eq_true rfl) rfl (Nat.le_of_ble_eq_true rfl) (c_note hr hW hp6) (fun v M1 hq => ?_)
        obtain ⟨rfl, hr, hkp⟩ := hq
        refine v_aload_n dX4_wishes_41 rfl ?_
        refine v_getR (t := 63) dX4_wishes_42 fl_X4_16 ⟨by decide, rfl, by decide⟩ rfl rfl ?_
        refine v_bipush (v := (nI 20)) dX4_wishes_45 rfl ?_
        refine v_iload_n dX4_wishes_47 rfl ?_
        refine v_iaddN dX4_wishes_48 ?_
        refine v_iload_n dX4_wishes_49 rfl ?_
        refine v_iast (n := 36) (a := 20 + n) dX4_wishes_50 ⟨by decide, rfl, rfl⟩ (rfl) (by omega) ?_
        refine v_iload_n dX4_wishes_51 rfl ?_
        refine v_iret dX4_wishes_52 rfl ?_
        have e1 : wisR T R n v = upd R (20 + n) v := if_pos ⟨⟨c5, c14⟩, c31⟩
        have e2 : wisP T R P n v = (R :: P).take 6 := if_pos ⟨⟨c5, c14⟩, c31⟩
        rw [e2]
        refine ⟨?_, REF_R0 hr e1, kp_up hkp (by decide)⟩
        simp [wisA, c5, c14, c31]
      · refine v_bipush (v := (-2)) dX4_wishes_34 (by decide) ?_
        refine v_iret dX4_wishes_36 rfl ?_
        have e1 : wisR T R n v = R := if_neg (by simp [*])
        have e2 : wisP T R P n v = P := if_neg (by simp [*])
        rw [e1, e2]
        refine ⟨?_, hr, kp_rf M⟩
        simp [wisA, *]
    · refine v_iconst (v := (-1)) dX4_wishes_17 (by decide) ?_
      refine v_iret dX4_wishes_18 rfl ?_
      have e1 : wisR T R n v = R := if_neg (by simp [*])
      have e2 : wisP T R P n v = P := if_neg (by simp [*])
      rw [e1, e2]
      refine ⟨?_, hr, kp_rf M⟩
      simp [wisA, *]
set_option maxRecDepth 100000 in
theorem c_ticks0 (hr : REF M T R P Im tx t) (hW : WF T) (hp6 : P.length ≤ 6) {x : Int32} (hx : ¬ (nI 1 ≤ x ∧ x ≤ nI 99)) : V kX4_ticks (rA M ((-1)) T R P Im tx t) M 0 [(0, .ref 60), (1, .int x)] [] := by
  have h16 := hW.n16
  refine v_iload_n dX4_ticks_0 rfl ?_
  refine v_iconst (v := (nI 1)) dX4_ticks_1 rfl ?_
  refine v_bipush (v := (nI 99)) dX4_ticks_2 rfl ?_
  refine v_callSr (x := .int (bI ((nI 1) ≤ x ∧ x ≤ (nI 99)))) (M1 := M) (as := [.int x, .int (nI 1), .int (nI 99)]) (st := []) dX4_ticks_4 ml_X4_56 ks_X4_in ⟨(Nat.le_of_ble_eq_true rfl), (Nat.le_of_ble_eq_true rfl)⟩ rfl (Nat.le_of_ble_eq_true rfl) rfl (Nat.le_of_ble_eq_true rfl) (c_in _ _ _) ?_
  refine v_ifB_ne (tgt := 12) dX4_ticks_7 (by decide) (fun c7 => (absurd c7 hx)) (fun c7 => ?_)
  refine v_iconst (v := (-1)) dX4_ticks_10 (by decide) ?_
  refine v_iret dX4_ticks_11 rfl ?_
  exact ⟨rfl, hr, kp_rf M⟩
set_option maxRecDepth 100000 in
theorem l_ticks {n : Nat} {h : Int32} (hn : n ≤ 99) (hW : WF T) (d : Nat) : ∀ (k : Nat) (M : vM), k + d = n → REF M T (tkI T R k) P Im tx t → kp M0 M → V kX4_ticks (fun v M' => v = some (.int (tkI T R n 2 - h)) ∧ REF M' T (tkI T R n) P Im tx t ∧ kp M0 M') M 42 [(0, .ref 60), (1, .int (nI n)), (2, .int h), (3, .int (nI k))] [] := by
  induction d with
  | zero =>
    intro k M hk hr hk2
    refine v_iload_n dX4_ticks_42 rfl ?_
    refine v_iload_n dX4_ticks_43 rfl ?_
    refine v_icmpN_ge (tgt := 61) dX4_ticks_44 (by decide) (by omega) (by omega) (fun c44 => ?_) (fun c44 => (by omega))
    refine v_aload_n dX4_ticks_61 rfl ?_
    refine v_getR (t := 63) dX4_ticks_62 fl_X4_16 ⟨by decide, rfl, by decide⟩ rfl rfl ?_
    refine v_iconst (v := (nI 2)) dX4_ticks_65 rfl ?_
    refine v_iald2 (n := 36) (a := 2) (y := (tkI T R k 2)) dX4_ticks_66 ⟨by decide, rfl, rfl⟩ (rfl) (by omega) (congrFun hr.2.1 2) ?_
    refine v_iload_n dX4_ticks_67 rfl ?_
    refine v_isub dX4_ticks_68 ?_
    refine v_iret dX4_ticks_69 rfl ?_
    have e : k = n := by omega
    subst e
    exact ⟨rfl, hr, hk2⟩
  | succ d ih =>
    intro k M hk hr hk2
    refine v_iload_n dX4_ticks_42 rfl ?_
    refine v_iload_n dX4_ticks_43 rfl ?_
    refine v_icmpN_ge (tgt := 61) dX4_ticks_44 (by decide) (by omega) (by omega) (fun c44 => (by omega)) (fun c44 => ?_)
    refine v_aload_n dX4_ticks_47 rfl ?_
    refine v_aload_n dX4_ticks_48 rfl ?_
    refine v_getR (t := 63) dX4_ticks_49 fl_X4_16 ⟨by decide, rfl, by decide⟩ rfl rfl ?_
    refine v_callV (as := [.ref 63]) (st := []) dX4_ticks_52 ml_X4_164 kv_X4_tick ⟨by decide, rfl, by decide⟩ ⟨(Nat.le_of_ble_eq_true rfl), (Nat.le_of_ble_eq_true rfl)⟩ rfl (Nat.le_of_ble_eq_true rfl) rfl (Nat.le_of_ble_eq_true rfl) (c_tick hr.1 hW (Or.inl rfl) hr.2.1) (fun v M1 hq => ?_)
    obtain ⟨rfl, hz, hR⟩ := hq
    refine v_iincN (lv' := [(0, .ref 60), (1, .int (nI n)), (2, .int h), (3, .int (nI (k + 1)))]) dX4_ticks_55 rfl (Nat.le_of_ble_eq_true rfl) rfl ?_
    refine v_goto (tgt := 42) dX4_ticks_58 (by decide) ?_
    refine ih (k + 1) M1 (by omega) ?_ (fun i hi => (hz i (by omega) (by omega) (by omega)).trans (hk2 i hi))
    obtain ⟨r1, r2, r3, r4, r5⟩ := hr
    exact ⟨(hz 61 (by decide) (by decide) (by decide)).trans r1, hR, pR_c r3 (congrFun (hz 60 (by decide) (by decide) (by decide)) _) (hz 65 (by decide) (by decide) (by decide)), iR_c r4 (hz 67 (by decide) (by decide) (by decide)) (hz 66 (by decide) (by decide) (by decide)), xR_c r5 (congrFun (hz 60 (by decide) (by decide) (by decide)) _) (hz 70 (by decide) (by decide) (by decide))⟩
set_option maxRecDepth 100000 in
theorem c_ticks (hr : REF M T R P Im tx t) (hW : WF T) (hp6 : P.length ≤ 6) {n : Nat} (h1 : 1 ≤ n) (hn : n ≤ 99) : V kX4_ticks (rA M (ticA T R n) T (ticR T R n) (ticP R P n) Im tx t) M 0 [(0, .ref 60), (1, .int (nI n))] [] := by
  have h16 := hW.n16
  refine v_iload_n dX4_ticks_0 rfl ?_
  refine v_iconst (v := (nI 1)) dX4_ticks_1 rfl ?_
  refine v_bipush (v := (nI 99)) dX4_ticks_2 rfl ?_
  refine v_callSr (x := .int (bI (1 ≤ n ∧ n ≤ 99))) (M1 := M) (as := [.int (nI n), .int (nI 1), .int (nI 99)]) (st := []) dX4_ticks_4 ml_X4_56 ks_X4_in ⟨(Nat.le_of_ble_eq_true rfl), (Nat.le_of_ble_eq_true rfl)⟩ rfl (Nat.le_of_ble_eq_true rfl) rfl (Nat.le_of_ble_eq_true rfl) (c_inN (by omega) (by omega) (by omega)) ?_
  refine v_ifB_ne (tgt := 12) dX4_ticks_7 (by decide) (fun c7 => ?_) (fun c7 => (absurd ⟨h1, hn⟩ c7))
  refine v_aload_n dX4_ticks_12 rfl ?_
  refine v_getR (t := 63) dX4_ticks_13 fl_X4_16 ⟨by decide, rfl, by decide⟩ rfl rfl ?_
  refine v_iconst (v := (nI 1)) dX4_ticks_16 rfl ?_
  refine v_iald2 (n := 36) (a := 1) (y := (R 1)) dX4_ticks_17 ⟨by decide, rfl, rfl⟩ (rfl) (by omega) (congrFun hr.2.1 1) ?_
  refine v_iload_n dX4_ticks_18 rfl ?_
  refine v_iadd dX4_ticks_19 ?_
  refine v_sipush (v := (nI 999)) dX4_ticks_20 rfl ?_
  refine v_icmp_le (tgt := 29) dX4_ticks_23 (by decide) (fun c23 => ?_) (fun c23 => ?_)
  · refine v_aload_n dX4_ticks_29 rfl ?_
    refine v_callV (as := []) (st := []) dX4_ticks_30 ml_X4_158 kv_X4_note ⟨by decide, rfl, by decide⟩ ⟨(Nat.le_of_ble_eq_true rfl), (Nat.le_of_ble_eq_true rfl)⟩ rfl (Nat.le_of_ble_eq_true rfl) rfl (Nat.le_of_ble_eq_true rfl) (c_note hr hW hp6) (fun v M1 hq => ?_)
    obtain ⟨rfl, hr, hkp⟩ := hq
    refine v_aload_n dX4_ticks_33 rfl ?_
    refine v_getR (t := 63) dX4_ticks_34 fl_X4_16 ⟨by decide, rfl, by decide⟩ rfl rfl ?_
    refine v_iconst (v := (nI 2)) dX4_ticks_37 rfl ?_
    refine v_iald2 (n := 36) (a := 2) (y := (R 2)) dX4_ticks_38 ⟨by decide, rfl, rfl⟩ (rfl) (by omega) (congrFun hr.2.1 2) ?_
    refine v_istore_n (lv' := [(0, .ref 60), (1, .int (nI n)), (2, .int (R 2))]) dX4_ticks_39 (Nat.le_of_ble_eq_true rfl) rfl ?_
    refine v_iconst (v := (nI 0)) dX4_ticks_40 rfl ?_
    refine v_istore_n (lv' := [(0, .ref 60), (1, .int (nI n)), (2, .int (R 2)), (3, .int (nI 0))]) dX4_ticks_41 (Nat.le_of_ble_eq_true rfl) rfl ?_
    have e1 : ticR T R n = tkI T R n := if_pos c23
    have e2 : ticP R P n = (R :: P).take 6 := if_pos c23
    have e3 : ticA T R n = tkI T R n 2 - R 2 := if_pos c23
    rw [e1, e2, e3]
    exact l_ticks (M0 := M) hn hW n 0 M1 (by omega) hr hkp
  · refine v_bipush (v := (-2)) dX4_ticks_26 (by decide) ?_
    refine v_iret dX4_ticks_28 rfl ?_
    have e1 : ticR T R n = R := if_neg c23
    have e2 : ticP R P n = P := if_neg c23
    rw [e1, e2]
    refine ⟨?_, hr, kp_rf M⟩
    simp [ticA, c23]
set_option maxRecDepth 100000 in
theorem l_undo {p : Nat} (hp : p < 6) (h5 : M0 60 5 = nI p) (f : Nat → Int32) (hf : ∀ j, j < 36 → M0 65 (36 * p + j) = f j) (d : Nat) : ∀ (k : Nat) (M : vM), k + d = 36 → (∀ i, i ≠ 63 → M i = M0 i) → (∀ j, j < k → M 63 j = M0 65 (36 * p + j)) → V kX4_undo (fun v M' => v = some (.int (nI p)) ∧ (∀ i, i ≠ 63 → M' i = M0 i) ∧ M' 63 = f) M 22 [(0, .ref 60), (1, .int (nI k))] [] := by
  induction d with
  | zero =>
    intro k M hk hz h1
    refine v_iload_n dX4_undo_22 rfl ?_
    refine v_bipush (v := (nI 36)) dX4_undo_23 rfl ?_
    refine v_icmpN_ge (tgt := 54) dX4_undo_25 (by decide) (by omega) (by omega) (fun c25 => ?_) (fun c25 => (by omega))
    refine v_row (t := 10) (i := 63) (n := 36) ⟨by decide, rfl, rfl⟩ (by decide) (by decide) f (fun j hj => (h1 j (by omega)).trans (hf j hj)) ?_
    refine v_aload_n dX4_undo_54 rfl ?_
    refine v_getI2 (y := (nI p)) dX4_undo_55 fl_X4_48 ⟨by decide, rfl, by decide⟩ rfl (by rw [mrow_ne (by decide)]; exact (congrFun (hz 60 (by decide)) 5).trans h5) ?_
    refine v_iret dX4_undo_58 rfl ?_
    exact ⟨rfl, fun i h9 => (mrow_ne h9).trans (hz i h9), mrow_eq⟩
  | succ d ih =>
    intro k M hk hz h1
    refine v_iload_n dX4_undo_22 rfl ?_
    refine v_bipush (v := (nI 36)) dX4_undo_23 rfl ?_
    refine v_icmpN_ge (tgt := 54) dX4_undo_25 (by decide) (by omega) (by omega) (fun c25 => (by omega)) (fun c25 => ?_)
    refine v_aload_n dX4_undo_28 rfl ?_
    refine v_getR (t := 63) dX4_undo_29 fl_X4_16 ⟨by decide, rfl, by decide⟩ rfl rfl ?_
    refine v_iload_n dX4_undo_32 rfl ?_
    refine v_aload_n dX4_undo_33 rfl ?_
    refine v_getR (t := 65) dX4_undo_34 fl_X4_22 ⟨by decide, rfl, by decide⟩ rfl rfl ?_
    refine v_bipush (v := (nI 36)) dX4_undo_37 rfl ?_
    refine v_aload_n dX4_undo_39 rfl ?_
    refine v_getI2 (y := (nI p)) dX4_undo_40 fl_X4_48 ⟨by decide, rfl, by decide⟩ rfl ((congrFun (hz 60 (by decide)) 5).trans h5) ?_
    refine v_imulN dX4_undo_43 ?_
    refine v_iload_n dX4_undo_44 rfl ?_
    refine v_iaddN dX4_undo_45 ?_
    refine v_iald2 (n := 216) (a := 36 * p + k) (y := (M0 65 (36 * p + k))) dX4_undo_46 ⟨by decide, rfl, rfl⟩ (rfl) (by omega) (congrFun (hz 65 (by decide)) _) ?_
    refine v_iast (n := 36) (a := k) dX4_undo_47 ⟨by decide, rfl, rfl⟩ (rfl) (by omega) ?_
    refine v_iincN (lv' := [(0, .ref 60), (1, .int (nI (k + 1)))]) dX4_undo_48 rfl (Nat.le_of_ble_eq_true rfl) rfl ?_
    refine v_goto (tgt := 22) dX4_undo_51 (by decide) ?_
    refine ih (k + 1) _ (by omega) (fun i h9 => (mup_ne h9).trans (hz i h9)) (fun j h9 => ?_)
    rw [mup_eq]; simp only [upd]
    by_cases h8 : j = k
    · rw [if_pos h8, h8]
    · rw [if_neg h8]; exact h1 j (by omega)
set_option maxRecDepth 100000 in
theorem c_undo0 (hr : REF M T R [] Im tx t) : V kX4_undo (rA M (-2) T R [] Im tx t) M 0 [(0, .ref 60)] [] := by
  refine v_aload_n dX4_undo_0 rfl ?_
  refine v_getI2 (y := (nI 0)) dX4_undo_1 fl_X4_48 ⟨by decide, rfl, by decide⟩ rfl (hr.2.2.1.1) ?_
  refine v_ifN_ne (tgt := 10) dX4_undo_4 (by decide) (by omega) (fun c4 => absurd rfl c4) (fun c4 => ?_)
  refine v_bipush (v := (-2)) dX4_undo_7 (by decide) ?_
  refine v_iret dX4_undo_9 rfl ?_
  exact ⟨rfl, hr, kp_rf M⟩
set_option maxRecDepth 100000 in
theorem c_undo {p0 : Nat → Int32} (hr : REF M T R (p0 :: P) Im tx t) (hp6 : P.length < 6) : V kX4_undo (rA M (nI P.length) T p0 P Im tx t) M 0 [(0, .ref 60)] [] := by
  refine v_aload_n dX4_undo_0 rfl ?_
  refine v_getI2 (y := (nI (P.length + 1))) dX4_undo_1 fl_X4_48 ⟨by decide, rfl, by decide⟩ rfl (hr.2.2.1.1) ?_
  refine v_ifN_ne (tgt := 10) dX4_undo_4 (by decide) (by omega) (fun c4 => ?_) (fun c4 => (absurd c4 (by omega)))
  refine v_aload_n dX4_undo_10 rfl ?_
  refine v_dup dX4_undo_11 rfl ?_
  refine v_getI2 (y := (nI (P.length + 1))) dX4_undo_12 fl_X4_48 ⟨by decide, rfl, by decide⟩ rfl (hr.2.2.1.1) ?_
  refine v_iconst (v := (nI 1)) dX4_undo_15 rfl ?_
  refine v_isubN dX4_undo_16 (by omega) ?_
  refine v_putI dX4_undo_17 fl_X4_48 ⟨by decide, rfl, by decide⟩ rfl rfl rfl ?_
  refine v_iconst (v := (nI 0)) dX4_undo_20 rfl ?_
  refine v_istore_n (lv' := [(0, .ref 60), (1, .int (nI 0))]) dX4_undo_21 (Nat.le_of_ble_eq_true rfl) rfl ?_
  refine v_post ?_ (l_undo (M0 := mup M 60 5 (nI (P.length + 1 - 1))) (p := P.length) hp6 (by rw [mup_eq]; simp [upd]) p0 (fun j hj => by
    rw [mup_ne (by decide)]
    have := hr.2.2.1.2 0 (by simp) j hj
    simpa using this) 36 0 _ (by omega) (fun _ _ => rfl) (fun j h => absurd h (by omega)))
  rintro v M1 ⟨rfl, hz, h6⟩
  obtain ⟨r1, r2, r3, r4, r5⟩ := hr
  refine ⟨rfl, ⟨?_, h6, ⟨?_, fun i hi j hj => ?_⟩, ?_, ?_⟩, fun i hi => (hz i (by omega)).trans (mup_ne (by omega))⟩
  · rw [hz 61 (by decide), mup_ne (by decide)]; exact r1
  · rw [hz 60 (by decide), mup_eq]; simp [upd]
  · rw [hz 65 (by decide), mup_ne (by decide)]
    have := r3.2 (i + 1) (by simp; omega) j hj
    have e : (p0 :: P).length - 1 - (i + 1) = P.length - 1 - i := by simp; omega
    rw [e] at this
    simpa using this
  · exact iR_c r4 (by rw [hz 67 (by decide), mup_ne (by decide)]) (by rw [hz 66 (by decide), mup_ne (by decide)])
  · exact xR_c r5 (by rw [hz 60 (by decide), mup_eq]; simp [upd]) (by rw [hz 70 (by decide), mup_ne (by decide)])
set_option maxRecDepth 100000 in
theorem c_node0 (hr : REF M T R P Im tx t) (hW : WF T) {x w : Int32} (hx : ¬ isN T x) : V kX4_node (rA M ((-1)) T R P Im tx t) M 0 [(0, .ref 60), (1, .int x), (2, .int w)] [] := by
  have h16 := hW.n16
  refine v_aload_n dX4_node_0 rfl ?_
  refine v_iload_n dX4_node_1 rfl ?_
  refine v_callVr (x := .int (bI (nI 0 ≤ x ∧ x ≤ nI (nN T) - nI 1))) (M1 := M) (as := [.int x]) (st := []) dX4_node_2 ml_X4_60 kv_X4_isNode ⟨by decide, rfl, by decide⟩ ⟨(Nat.le_of_ble_eq_true rfl), (Nat.le_of_ble_eq_true rfl)⟩ rfl (Nat.le_of_ble_eq_true rfl) rfl (Nat.le_of_ble_eq_true rfl) (c_isNode hr.1 hW _) ?_
  refine v_ifB_ne (tgt := 10) dX4_node_5 (by decide) (fun c5 => (absurd ((isN_sub hW).mp c5) hx)) (fun c5 => ?_)
  refine v_iconst (v := (-1)) dX4_node_8 (by decide) ?_
  refine v_iret dX4_node_9 rfl ?_
  exact ⟨rfl, hr, kp_rf M⟩
set_option maxRecDepth 100000 in
theorem c_nodeO (hr : REF M T R P Im tx t) (hW : WF T) {n : Nat} {w : Int32} (hn : n < nN T) (hw : w.toInt < 0 ∨ 7 < w.toInt) : V kX4_node (rA M ((-1)) T R P Im tx t) M 0 [(0, .ref 60), (1, .int (nI n)), (2, .int w)] [] := by
  have h16 := hW.n16
  refine v_aload_n dX4_node_0 rfl ?_
  refine v_iload_n dX4_node_1 rfl ?_
  refine v_callVr (x := .int (bI (nI 0 ≤ (nI n) ∧ (nI n) ≤ nI (nN T) - nI 1))) (M1 := M) (as := [.int (nI n)]) (st := []) dX4_node_2 ml_X4_60 kv_X4_isNode ⟨by decide, rfl, by decide⟩ ⟨(Nat.le_of_ble_eq_true rfl), (Nat.le_of_ble_eq_true rfl)⟩ rfl (Nat.le_of_ble_eq_true rfl) rfl (Nat.le_of_ble_eq_true rfl) (c_isNode hr.1 hW _) ?_
  refine v_ifB_ne (tgt := 10) dX4_node_5 (by decide) (fun c5 => ?_) (fun c5 => (absurd ((isN_sub hW).mpr ((isN_nI h16).mpr ⟨n, hn, rfl⟩)) c5))
  refine v_iload_n dX4_node_10 rfl ?_
  skip
  · refine v_tabOut (tgt := 136) dX4_node_11 hw (by decide) ?_
    refine v_iconst (v := (-1)) dX4_node_136 (by decide) ?_
    refine v_iret dX4_node_137 rfl ?_
    exact ⟨rfl, hr, kp_rf M⟩
set_option maxRecDepth 100000 in
theorem c_node_0 (hr : REF M T R P Im tx t) (hW : WF T) {n : Nat} (hn : n < nN T) : V kX4_node (rA M (nodN T R n 0) T R P Im tx t) M 0 [(0, .ref 60), (1, .int (nI n)), (2, .int (nI 0))] [] := by
  have h16 := hW.n16
  refine v_aload_n dX4_node_0 rfl ?_
  refine v_iload_n dX4_node_1 rfl ?_
  refine v_callVr (x := .int (bI (nI 0 ≤ (nI n) ∧ (nI n) ≤ nI (nN T) - nI 1))) (M1 := M) (as := [.int (nI n)]) (st := []) dX4_node_2 ml_X4_60 kv_X4_isNode ⟨by decide, rfl, by decide⟩ ⟨(Nat.le_of_ble_eq_true rfl), (Nat.le_of_ble_eq_true rfl)⟩ rfl (Nat.le_of_ble_eq_true rfl) rfl (Nat.le_of_ble_eq_true rfl) (c_isNode hr.1 hW _) ?_
  refine v_ifB_ne (tgt := 10) dX4_node_5 (by decide) (fun c5 => ?_) (fun c5 => (absurd ((isN_sub hW).mpr ((isN_nI h16).mpr ⟨n, hn, rfl⟩)) c5))
  refine v_iload_n dX4_node_10 rfl ?_
  skip
  · refine v_tabIn (tgt := 56) (off := 45) dX4_node_11 (by decide) (by decide) (by decide) (by decide) ?_
    refine v_aload_n dX4_node_56 rfl ?_
    refine v_iload_n dX4_node_57 rfl ?_
    refine v_callVr (x := .int (nI (so T n))) (M1 := M) (as := [.int (nI n)]) (st := []) dX4_node_58 ml_X4_64 kv_X4_sort ⟨by decide, rfl, by decide⟩ ⟨(Nat.le_of_ble_eq_true rfl), (Nat.le_of_ble_eq_true rfl)⟩ rfl (Nat.le_of_ble_eq_true rfl) rfl (Nat.le_of_ble_eq_true rfl) (c_sort hr.1 hW (by omega)) ?_
    refine v_iret dX4_node_61 rfl ?_
    refine ⟨?_, hr, kp_rf M⟩
    (try simp [nodN, *])
    (try (intro hz9; omega))
    (try rfl)
set_option maxRecDepth 100000 in
theorem c_node_1 (hr : REF M T R P Im tx t) (hW : WF T) {n : Nat} (hn : n < nN T) : V kX4_node (rA M (nodN T R n 1) T R P Im tx t) M 0 [(0, .ref 60), (1, .int (nI n)), (2, .int (nI 1))] [] := by
  have h16 := hW.n16
  refine v_aload_n dX4_node_0 rfl ?_
  refine v_iload_n dX4_node_1 rfl ?_
  refine v_callVr (x := .int (bI (nI 0 ≤ (nI n) ∧ (nI n) ≤ nI (nN T) - nI 1))) (M1 := M) (as := [.int (nI n)]) (st := []) dX4_node_2 ml_X4_60 kv_X4_isNode ⟨by decide, rfl, by decide⟩ ⟨(Nat.le_of_ble_eq_true rfl), (Nat.le_of_ble_eq_true rfl)⟩ rfl (Nat.le_of_ble_eq_true rfl) rfl (Nat.le_of_ble_eq_true rfl) (c_isNode hr.1 hW _) ?_
  refine v_ifB_ne (tgt := 10) dX4_node_5 (by decide) (fun c5 => ?_) (fun c5 => (absurd ((isN_sub hW).mpr ((isN_nI h16).mpr ⟨n, hn, rfl⟩)) c5))
  refine v_iload_n dX4_node_10 rfl ?_
  skip
  · refine v_tabIn (tgt := 62) (off := 51) dX4_node_11 (by decide) (by decide) (by decide) (by decide) ?_
    refine v_aload_n dX4_node_62 rfl ?_
    refine v_iload_n dX4_node_63 rfl ?_
    refine v_callVr (x := .int (bI (so T n ≤ 1))) (M1 := M) (as := [.int (nI n)]) (st := []) dX4_node_64 ml_X4_75 kv_X4_isLeaf ⟨by decide, rfl, by decide⟩ ⟨(Nat.le_of_ble_eq_true rfl), (Nat.le_of_ble_eq_true rfl)⟩ rfl (Nat.le_of_ble_eq_true rfl) rfl (Nat.le_of_ble_eq_true rfl) (c_isLeaf hr.1 hW (by omega)) ?_
    refine v_ifB_eq (tgt := 78) dX4_node_67 (by decide) (fun c67 => ?_) (fun c67 => ?_)
    · refine v_bipush (v := (-9)) dX4_node_78 (by decide) ?_
      refine v_iret dX4_node_80 rfl ?_
      refine ⟨?_, hr, kp_rf M⟩
      (try simp [nodN, *])
      (try (intro hz9; omega))
      (try rfl)
    · refine v_aload_n dX4_node_70 rfl ?_
      refine v_iload_n dX4_node_71 rfl ?_
      refine v_callVr (x := .int (nI (ck T n))) (M1 := M) (as := [.int (nI n)]) (st := []) dX4_node_72 ml_X4_88 kv_X4_clock ⟨by decide, rfl, by decide⟩ ⟨(Nat.le_of_ble_eq_true rfl), (Nat.le_of_ble_eq_true rfl)⟩ rfl (Nat.le_of_ble_eq_true rfl) rfl (Nat.le_of_ble_eq_true rfl) (c_clock hr.1 hW (by omega)) ?_
      refine v_goto (tgt := 80) dX4_node_75 (by decide) ?_
      refine v_iret dX4_node_80 rfl ?_
      refine ⟨?_, hr, kp_rf M⟩
      (try simp [nodN, *])
      (try (intro hz9; omega))
      (try rfl)
set_option maxRecDepth 100000 in
theorem c_node_2 (hr : REF M T R P Im tx t) (hW : WF T) {n : Nat} (hn : n < nN T) : V kX4_node (rA M (nodN T R n 2) T R P Im tx t) M 0 [(0, .ref 60), (1, .int (nI n)), (2, .int (nI 2))] [] := by
  have h16 := hW.n16
  refine v_aload_n dX4_node_0 rfl ?_
  refine v_iload_n dX4_node_1 rfl ?_
  refine v_callVr (x := .int (bI (nI 0 ≤ (nI n) ∧ (nI n) ≤ nI (nN T) - nI 1))) (M1 := M) (as := [.int (nI n)]) (st := []) dX4_node_2 ml_X4_60 kv_X4_isNode ⟨by decide, rfl, by decide⟩ ⟨(Nat.le_of_ble_eq_true rfl), (Nat.le_of_ble_eq_true rfl)⟩ rfl (Nat.le_of_ble_eq_true rfl) rfl (Nat.le_of_ble_eq_true rfl) (c_isNode hr.1 hW _) ?_
  refine v_ifB_ne (tgt := 10) dX4_node_5 (by decide) (fun c5 => ?_) (fun c5 => (absurd ((isN_sub hW).mpr ((isN_nI h16).mpr ⟨n, hn, rfl⟩)) c5))
  refine v_iload_n dX4_node_10 rfl ?_
  skip
  · refine v_tabIn (tgt := 81) (off := 70) dX4_node_11 (by decide) (by decide) (by decide) (by decide) ?_
    refine v_iload_n dX4_node_81 rfl ?_
    refine v_iconst (v := (nI 2)) dX4_node_82 rfl ?_
    refine v_isubN dX4_node_83 (by decide) ?_
    refine v_aload_n dX4_node_84 rfl ?_
    refine v_iload_n dX4_node_85 rfl ?_
    refine v_callVr (x := .int (nI (so T n))) (M1 := M) (as := [.int (nI n)]) (st := [.int (nI (2 - 2))]) dX4_node_86 ml_X4_64 kv_X4_sort ⟨by decide, rfl, by decide⟩ ⟨(Nat.le_of_ble_eq_true rfl), (Nat.le_of_ble_eq_true rfl)⟩ rfl (Nat.le_of_ble_eq_true rfl) rfl (Nat.le_of_ble_eq_true rfl) (c_sort hr.1 hW (by omega)) ?_
    refine v_callSr (x := .int (nI (hmF (so T n)))) (M1 := M) (as := [.int (nI (so T n))]) (st := [.int (nI (2 - 2))]) dX4_node_89 ml_X4_68 ks_X4_hasMany ⟨(Nat.le_of_ble_eq_true rfl), (Nat.le_of_ble_eq_true rfl)⟩ rfl (Nat.le_of_ble_eq_true rfl) rfl (Nat.le_of_ble_eq_true rfl) (c_hasMany (by have := hW.so5 (n := n) (by omega); omega)) ?_
    refine v_icmpN_ge (tgt := 106) dX4_node_92 (by decide) (by decide) (by have := hmF_le (so T n); omega) (fun c92 => ?_) (fun c92 => ?_)
    · refine v_bipush (v := (-9)) dX4_node_106 (by decide) ?_
      refine v_iret dX4_node_108 rfl ?_
      refine ⟨?_, hr, kp_rf M⟩
      (try simp [nodN, *])
      (try (intro hz9; omega))
      (try rfl)
    · refine v_aload_n dX4_node_95 rfl ?_
      refine v_iload_n dX4_node_96 rfl ?_
      refine v_iload_n dX4_node_97 rfl ?_
      refine v_iconst (v := (nI 2)) dX4_node_98 rfl ?_
      refine v_isubN dX4_node_99 (by decide) ?_
      refine v_callVr (x := .int (nI (pt T n (2 - 2)))) (M1 := M) (as := [.int (nI n), .int (nI (2 - 2))]) (st := []) dX4_node_100 ml_X4_71 kv_X4_of ⟨by decide, rfl, by decide⟩ ⟨(Nat.le_of_ble_eq_true rfl), (Nat.le_of_ble_eq_true rfl)⟩ rfl (Nat.le_of_ble_eq_true rfl) rfl (Nat.le_of_ble_eq_true rfl) (c_of hr.1 hW (by omega) (by omega)) ?_
      refine v_goto (tgt := 108) dX4_node_103 (by decide) ?_
      refine v_iret dX4_node_108 rfl ?_
      refine ⟨?_, hr, kp_rf M⟩
      (try simp [nodN, *])
      (try (intro hz9; omega))
      (try rfl)
set_option maxRecDepth 100000 in
theorem c_node_3 (hr : REF M T R P Im tx t) (hW : WF T) {n : Nat} (hn : n < nN T) : V kX4_node (rA M (nodN T R n 3) T R P Im tx t) M 0 [(0, .ref 60), (1, .int (nI n)), (2, .int (nI 3))] [] := by
  have h16 := hW.n16
  refine v_aload_n dX4_node_0 rfl ?_
  refine v_iload_n dX4_node_1 rfl ?_
  refine v_callVr (x := .int (bI (nI 0 ≤ (nI n) ∧ (nI n) ≤ nI (nN T) - nI 1))) (M1 := M) (as := [.int (nI n)]) (st := []) dX4_node_2 ml_X4_60 kv_X4_isNode ⟨by decide, rfl, by decide⟩ ⟨(Nat.le_of_ble_eq_true rfl), (Nat.le_of_ble_eq_true rfl)⟩ rfl (Nat.le_of_ble_eq_true rfl) rfl (Nat.le_of_ble_eq_true rfl) (c_isNode hr.1 hW _) ?_
  refine v_ifB_ne (tgt := 10) dX4_node_5 (by decide) (fun c5 => ?_) (fun c5 => (absurd ((isN_sub hW).mpr ((isN_nI h16).mpr ⟨n, hn, rfl⟩)) c5))
  refine v_iload_n dX4_node_10 rfl ?_
  skip
  · refine v_tabIn (tgt := 81) (off := 70) dX4_node_11 (by decide) (by decide) (by decide) (by decide) ?_
    refine v_iload_n dX4_node_81 rfl ?_
    refine v_iconst (v := (nI 2)) dX4_node_82 rfl ?_
    refine v_isubN dX4_node_83 (by decide) ?_
    refine v_aload_n dX4_node_84 rfl ?_
    refine v_iload_n dX4_node_85 rfl ?_
    refine v_callVr (x := .int (nI (so T n))) (M1 := M) (as := [.int (nI n)]) (st := [.int (nI (3 - 2))]) dX4_node_86 ml_X4_64 kv_X4_sort ⟨by decide, rfl, by decide⟩ ⟨(Nat.le_of_ble_eq_true rfl), (Nat.le_of_ble_eq_true rfl)⟩ rfl (Nat.le_of_ble_eq_true rfl) rfl (Nat.le_of_ble_eq_true rfl) (c_sort hr.1 hW (by omega)) ?_
    refine v_callSr (x := .int (nI (hmF (so T n)))) (M1 := M) (as := [.int (nI (so T n))]) (st := [.int (nI (3 - 2))]) dX4_node_89 ml_X4_68 ks_X4_hasMany ⟨(Nat.le_of_ble_eq_true rfl), (Nat.le_of_ble_eq_true rfl)⟩ rfl (Nat.le_of_ble_eq_true rfl) rfl (Nat.le_of_ble_eq_true rfl) (c_hasMany (by have := hW.so5 (n := n) (by omega); omega)) ?_
    refine v_icmpN_ge (tgt := 106) dX4_node_92 (by decide) (by decide) (by have := hmF_le (so T n); omega) (fun c92 => ?_) (fun c92 => ?_)
    · refine v_bipush (v := (-9)) dX4_node_106 (by decide) ?_
      refine v_iret dX4_node_108 rfl ?_
      refine ⟨?_, hr, kp_rf M⟩
      (try simp [nodN, *])
      (try (intro hz9; omega))
      (try rfl)
    · refine v_aload_n dX4_node_95 rfl ?_
      refine v_iload_n dX4_node_96 rfl ?_
      refine v_iload_n dX4_node_97 rfl ?_
      refine v_iconst (v := (nI 2)) dX4_node_98 rfl ?_
      refine v_isubN dX4_node_99 (by decide) ?_
      refine v_callVr (x := .int (nI (pt T n (3 - 2)))) (M1 := M) (as := [.int (nI n), .int (nI (3 - 2))]) (st := []) dX4_node_100 ml_X4_71 kv_X4_of ⟨by decide, rfl, by decide⟩ ⟨(Nat.le_of_ble_eq_true rfl), (Nat.le_of_ble_eq_true rfl)⟩ rfl (Nat.le_of_ble_eq_true rfl) rfl (Nat.le_of_ble_eq_true rfl) (c_of hr.1 hW (by omega) (by omega)) ?_
      refine v_goto (tgt := 108) dX4_node_103 (by decide) ?_
      refine v_iret dX4_node_108 rfl ?_
      refine ⟨?_, hr, kp_rf M⟩
      (try simp [nodN, *])
      (try (intro hz9; omega))
      (try rfl)
set_option maxRecDepth 100000 in
theorem c_node_4 (hr : REF M T R P Im tx t) (hW : WF T) {n : Nat} (hn : n < nN T) : V kX4_node (rA M (nodN T R n 4) T R P Im tx t) M 0 [(0, .ref 60), (1, .int (nI n)), (2, .int (nI 4))] [] := by
  have h16 := hW.n16
  refine v_aload_n dX4_node_0 rfl ?_
  refine v_iload_n dX4_node_1 rfl ?_
  refine v_callVr (x := .int (bI (nI 0 ≤ (nI n) ∧ (nI n) ≤ nI (nN T) - nI 1))) (M1 := M) (as := [.int (nI n)]) (st := []) dX4_node_2 ml_X4_60 kv_X4_isNode ⟨by decide, rfl, by decide⟩ ⟨(Nat.le_of_ble_eq_true rfl), (Nat.le_of_ble_eq_true rfl)⟩ rfl (Nat.le_of_ble_eq_true rfl) rfl (Nat.le_of_ble_eq_true rfl) (c_isNode hr.1 hW _) ?_
  refine v_ifB_ne (tgt := 10) dX4_node_5 (by decide) (fun c5 => ?_) (fun c5 => (absurd ((isN_sub hW).mpr ((isN_nI h16).mpr ⟨n, hn, rfl⟩)) c5))
  refine v_iload_n dX4_node_10 rfl ?_
  skip
  · refine v_tabIn (tgt := 81) (off := 70) dX4_node_11 (by decide) (by decide) (by decide) (by decide) ?_
    refine v_iload_n dX4_node_81 rfl ?_
    refine v_iconst (v := (nI 2)) dX4_node_82 rfl ?_
    refine v_isubN dX4_node_83 (by decide) ?_
    refine v_aload_n dX4_node_84 rfl ?_
    refine v_iload_n dX4_node_85 rfl ?_
    refine v_callVr (x := .int (nI (so T n))) (M1 := M) (as := [.int (nI n)]) (st := [.int (nI (4 - 2))]) dX4_node_86 ml_X4_64 kv_X4_sort ⟨by decide, rfl, by decide⟩ ⟨(Nat.le_of_ble_eq_true rfl), (Nat.le_of_ble_eq_true rfl)⟩ rfl (Nat.le_of_ble_eq_true rfl) rfl (Nat.le_of_ble_eq_true rfl) (c_sort hr.1 hW (by omega)) ?_
    refine v_callSr (x := .int (nI (hmF (so T n)))) (M1 := M) (as := [.int (nI (so T n))]) (st := [.int (nI (4 - 2))]) dX4_node_89 ml_X4_68 ks_X4_hasMany ⟨(Nat.le_of_ble_eq_true rfl), (Nat.le_of_ble_eq_true rfl)⟩ rfl (Nat.le_of_ble_eq_true rfl) rfl (Nat.le_of_ble_eq_true rfl) (c_hasMany (by have := hW.so5 (n := n) (by omega); omega)) ?_
    refine v_icmpN_ge (tgt := 106) dX4_node_92 (by decide) (by decide) (by have := hmF_le (so T n); omega) (fun c92 => ?_) (fun c92 => ?_)
    · refine v_bipush (v := (-9)) dX4_node_106 (by decide) ?_
      refine v_iret dX4_node_108 rfl ?_
      refine ⟨?_, hr, kp_rf M⟩
      (try simp [nodN, *])
      (try (intro hz9; omega))
      (try rfl)
    · refine v_aload_n dX4_node_95 rfl ?_
      refine v_iload_n dX4_node_96 rfl ?_
      refine v_iload_n dX4_node_97 rfl ?_
      refine v_iconst (v := (nI 2)) dX4_node_98 rfl ?_
      refine v_isubN dX4_node_99 (by decide) ?_
      refine v_callVr (x := .int (nI (pt T n (4 - 2)))) (M1 := M) (as := [.int (nI n), .int (nI (4 - 2))]) (st := []) dX4_node_100 ml_X4_71 kv_X4_of ⟨by decide, rfl, by decide⟩ ⟨(Nat.le_of_ble_eq_true rfl), (Nat.le_of_ble_eq_true rfl)⟩ rfl (Nat.le_of_ble_eq_true rfl) rfl (Nat.le_of_ble_eq_true rfl) (c_of hr.1 hW (by omega) (by omega)) ?_
      refine v_goto (tgt := 108) dX4_node_103 (by decide) ?_
      refine v_iret dX4_node_108 rfl ?_
      refine ⟨?_, hr, kp_rf M⟩
      (try simp [nodN, *])
      (try (intro hz9; omega))
      (try rfl)
set_option maxRecDepth 100000 in
theorem c_node_5 (hr : REF M T R P Im tx t) (hW : WF T) {n : Nat} (hn : n < nN T) : V kX4_node (rA M (nodN T R n 5) T R P Im tx t) M 0 [(0, .ref 60), (1, .int (nI n)), (2, .int (nI 5))] [] := by
  have h16 := hW.n16
  refine v_aload_n dX4_node_0 rfl ?_
  refine v_iload_n dX4_node_1 rfl ?_
  refine v_callVr (x := .int (bI (nI 0 ≤ (nI n) ∧ (nI n) ≤ nI (nN T) - nI 1))) (M1 := M) (as := [.int (nI n)]) (st := []) dX4_node_2 ml_X4_60 kv_X4_isNode ⟨by decide, rfl, by decide⟩ ⟨(Nat.le_of_ble_eq_true rfl), (Nat.le_of_ble_eq_true rfl)⟩ rfl (Nat.le_of_ble_eq_true rfl) rfl (Nat.le_of_ble_eq_true rfl) (c_isNode hr.1 hW _) ?_
  refine v_ifB_ne (tgt := 10) dX4_node_5 (by decide) (fun c5 => ?_) (fun c5 => (absurd ((isN_sub hW).mpr ((isN_nI h16).mpr ⟨n, hn, rfl⟩)) c5))
  refine v_iload_n dX4_node_10 rfl ?_
  skip
  · refine v_tabIn (tgt := 109) (off := 98) dX4_node_11 (by decide) (by decide) (by decide) (by decide) ?_
    refine v_aload_n dX4_node_109 rfl ?_
    refine v_iload_n dX4_node_110 rfl ?_
    refine v_callV (as := [.int (nI n)]) (st := []) dX4_node_111 ml_X4_106 kv_X4_sourcesOf ⟨by decide, rfl, by decide⟩ ⟨(Nat.le_of_ble_eq_true rfl), (Nat.le_of_ble_eq_true rfl)⟩ rfl (Nat.le_of_ble_eq_true rfl) rfl (Nat.le_of_ble_eq_true rfl) (c_sourcesOf (sc_rf M) hr.1 hW hn) (fun v M1 hq => ?_)
    obtain ⟨rfl, h9⟩ := hq
    refine v_iret dX4_node_114 rfl ?_
    exact ⟨rfl, REF_sc hr (fun i a _ _ _ => h9 i a), fun i a => h9 i (by omega)⟩
set_option maxRecDepth 100000 in
theorem c_node_6 (hr : REF M T R P Im tx t) (hW : WF T) {n : Nat} (hn : n < nN T) : V kX4_node (rA M (nodN T R n 6) T R P Im tx t) M 0 [(0, .ref 60), (1, .int (nI n)), (2, .int (nI 6))] [] := by
  have h16 := hW.n16
  refine v_aload_n dX4_node_0 rfl ?_
  refine v_iload_n dX4_node_1 rfl ?_
  refine v_callVr (x := .int (bI (nI 0 ≤ (nI n) ∧ (nI n) ≤ nI (nN T) - nI 1))) (M1 := M) (as := [.int (nI n)]) (st := []) dX4_node_2 ml_X4_60 kv_X4_isNode ⟨by decide, rfl, by decide⟩ ⟨(Nat.le_of_ble_eq_true rfl), (Nat.le_of_ble_eq_true rfl)⟩ rfl (Nat.le_of_ble_eq_true rfl) rfl (Nat.le_of_ble_eq_true rfl) (c_isNode hr.1 hW _) ?_
  refine v_ifB_ne (tgt := 10) dX4_node_5 (by decide) (fun c5 => ?_) (fun c5 => (absurd ((isN_sub hW).mpr ((isN_nI h16).mpr ⟨n, hn, rfl⟩)) c5))
  refine v_iload_n dX4_node_10 rfl ?_
  skip
  · refine v_tabIn (tgt := 115) (off := 104) dX4_node_11 (by decide) (by decide) (by decide) (by decide) ?_
    refine v_aload_n dX4_node_115 rfl ?_
    refine v_iload_n dX4_node_116 rfl ?_
    refine v_callV (as := [.int (nI n)]) (st := []) dX4_node_117 ml_X4_81 kv_X4_leavesOf ⟨by decide, rfl, by decide⟩ ⟨(Nat.le_of_ble_eq_true rfl), (Nat.le_of_ble_eq_true rfl)⟩ rfl (Nat.le_of_ble_eq_true rfl) rfl (Nat.le_of_ble_eq_true rfl) (c_leavesOf (sc_rf M) hr.1 hW hn) (fun v M1 hq => ?_)
    obtain ⟨rfl, h9⟩ := hq
    refine v_iret dX4_node_120 rfl ?_
    exact ⟨rfl, REF_sc hr (fun i a _ _ _ => h9 i a), fun i a => h9 i (by omega)⟩
set_option maxRecDepth 100000 in
theorem c_node_7 (hr : REF M T R P Im tx t) (hW : WF T) {n : Nat} (hn : n < nN T) : V kX4_node (rA M (nodN T R n 7) T R P Im tx t) M 0 [(0, .ref 60), (1, .int (nI n)), (2, .int (nI 7))] [] := by
  have h16 := hW.n16
  refine v_aload_n dX4_node_0 rfl ?_
  refine v_iload_n dX4_node_1 rfl ?_
  refine v_callVr (x := .int (bI (nI 0 ≤ (nI n) ∧ (nI n) ≤ nI (nN T) - nI 1))) (M1 := M) (as := [.int (nI n)]) (st := []) dX4_node_2 ml_X4_60 kv_X4_isNode ⟨by decide, rfl, by decide⟩ ⟨(Nat.le_of_ble_eq_true rfl), (Nat.le_of_ble_eq_true rfl)⟩ rfl (Nat.le_of_ble_eq_true rfl) rfl (Nat.le_of_ble_eq_true rfl) (c_isNode hr.1 hW _) ?_
  refine v_ifB_ne (tgt := 10) dX4_node_5 (by decide) (fun c5 => ?_) (fun c5 => (absurd ((isN_sub hW).mpr ((isN_nI h16).mpr ⟨n, hn, rfl⟩)) c5))
  refine v_iload_n dX4_node_10 rfl ?_
  skip
  · refine v_tabIn (tgt := 121) (off := 110) dX4_node_11 (by decide) (by decide) (by decide) (by decide) ?_
    refine v_aload_n dX4_node_121 rfl ?_
    refine v_aload_n dX4_node_122 rfl ?_
    refine v_getR (t := 63) dX4_node_123 fl_X4_16 ⟨by decide, rfl, by decide⟩ rfl rfl ?_
    refine v_callV (as := [.ref 63]) (st := []) dX4_node_126 ml_X4_149 kv_X4_findValues ⟨by decide, rfl, by decide⟩ ⟨(Nat.le_of_ble_eq_true rfl), (Nat.le_of_ble_eq_true rfl)⟩ rfl (Nat.le_of_ble_eq_true rfl) rfl (Nat.le_of_ble_eq_true rfl) (c_findValues hr.1 hW (Or.inl rfl) hr.2.1) (fun v M2 hq => ?_)
    obtain ⟨rfl, hz, hf⟩ := hq
    refine v_aload_n dX4_node_129 rfl ?_
    refine v_getR (t := 69) dX4_node_130 fl_X4_35 ⟨by decide, rfl, by decide⟩ rfl rfl ?_
    refine v_iload_n dX4_node_133 rfl ?_
    refine v_iald2 (n := 16) (a := n) (y := (vlF T R n)) dX4_node_134 ⟨by decide, rfl, rfl⟩ (rfl) (by omega) (hf n hn) ?_
    refine v_iret dX4_node_135 rfl ?_
    exact ⟨rfl, REF_sc hr (fun i _ b _ _ => hz i b), fun i a => hz i (by omega)⟩
theorem c_node (hr : REF M T R P Im tx t) (hW : WF T) {n j : Nat} (hn : n < nN T) (hj : j < 8) : V kX4_node (rA M (nodN T R n j) T R P Im tx t) M 0 [(0, .ref 60), (1, .int (nI n)), (2, .int (nI j))] [] := by
  rcases le8 hj with rfl | rfl | rfl | rfl | rfl | rfl | rfl | rfl
  · exact c_node_0 hr hW hn
  · exact c_node_1 hr hW hn
  · exact c_node_2 hr hW hn
  · exact c_node_3 hr hW hn
  · exact c_node_4 hr hW hn
  · exact c_node_5 hr hW hn
  · exact c_node_6 hr hW hn
  · exact c_node_7 hr hW hn
end R24
