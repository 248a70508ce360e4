section C50
variable {M M0 : vM} {c r : Nat} {T R tx : Nat → Int32} {P : List (Nat → Int32)} {Im : Nat → Option (Nat → Int32)} {t : Nat}
set_option maxRecDepth 100000 in
theorem k_ticks0 (hr : CLS c r M T R P Im tx t) (hW : WF T) {x : Int32} (hx : ¬ (nI 1 ≤ x ∧ x ≤ nI 99)) : V kX3_ticks (cA M ((-1)) T R P Im tx t) M 0 [(0, .ref 0), (1, .int x)] [] := by
  have h16 := hW.n16
  have hr0 := hr
  obtain ⟨hc, hcc, hce, ⟨h, hd⟩, hm, hp, hi, hx0⟩ := hr
  have ho24 : mo 24 := Or.inl (Or.inl rfl)
  refine v_iload_n dX3_ticks_0 rfl ?_
  refine v_iconst (v := (nI 1)) dX3_ticks_1 rfl ?_
  refine v_icmp_lt (tgt := 11) dX3_ticks_2 (by decide) (fun c2 => ?_) (fun c2 => ?_)
  · refine v_iconst (v := (-1)) dX3_ticks_11 (by decide) ?_
    refine v_iret dX3_ticks_12 rfl ?_
    exact ⟨rfl, ⟨c, r, hr0⟩, kq_rf M⟩
  · refine v_iload_n dX3_ticks_5 rfl ?_
    refine v_bipush (v := (nI 99)) dX3_ticks_6 rfl ?_
    refine v_icmp_le (tgt := 13) dX3_ticks_8 (by decide) (fun c8 => (absurd ⟨Int32.not_lt.mp c2, c8⟩ hx)) (fun c8 => ?_)
    refine v_iconst (v := (-1)) dX3_ticks_11 (by decide) ?_
    refine v_iret dX3_ticks_12 rfl ?_
    exact ⟨rfl, ⟨c, r, hr0⟩, kq_rf M⟩
theorem tkI_ok (hW : WF T) (hR : rOK T R) : ∀ k, rOK T (tkI T R k)
  | 0 => hR
  | k + 1 => tkR_ok hW (tkI_ok hW hR k)
set_option maxRecDepth 100000 in
theorem l_kticks (hr : CLS c r M0 T R P Im tx t) (hW : WF T) (hR : rOK T R) {n : Nat} (hn : n ≤ 99) (d : Nat) : ∀ (k : Nat) (M : vM), k + d = n → (∀ i, i < 24 ∨ 33 ≤ i → ¬ (24 ≤ i ∧ i < 33) → M i = M0 i) → MOM M 24 T (tkI T R k) → V kX3_ticks (fun v M1 => v = some (.int (tkI T R n 2 - R 2)) ∧ (∃ c r, CLS c r M1 T (tkI T R n) P Im tx t) ∧ kq M0 M1) M 45 [(0, .ref 0), (1, .int (nI n)), (2, .int (R 2)), (3, .int (nI k))] [] := by
  have h16 := hW.n16
  obtain ⟨hc, hcc, hce, ⟨h, hd⟩, hm, hp, hi, hx0⟩ := id hr
  have ho24 : mo 24 := Or.inl (Or.inl rfl)
  induction d with
  | zero =>
    intro k M hk hz hmk
    refine v_iload_n dX3_ticks_45 rfl ?_
    refine v_iload_n dX3_ticks_46 rfl ?_
    refine v_icmpN_ge (tgt := 64) dX3_ticks_47 (by decide) (by omega) (by omega) (fun c47 => ?_) (fun c47 => (by omega))
    refine v_aload_n dX3_ticks_64 rfl ?_
    refine v_getR (t := 24) dX3_ticks_65 fl_X3_29 ⟨by decide, rfl, by decide⟩ rfl rfl ?_
    refine v_getI2 (y := (tkI T R k 2)) dX3_ticks_68 fl_X3_85 ⟨by decide, rfl, by decide⟩ rfl (hmk.1.2.2.1) ?_
    refine v_iload_n dX3_ticks_71 rfl ?_
    refine v_isub dX3_ticks_72 ?_
    refine v_iret dX3_ticks_73 rfl ?_
    have e : k = n := by omega
    subst e
    exact ⟨rfl, ⟨c, r, CLS_now hr (fun i a b => hz i (by omega) b) hmk⟩, fun i a => hz i (by omega) (by omega)⟩
  | succ d ih =>
    intro k M hk hz hmk
    refine v_iload_n dX3_ticks_45 rfl ?_
    refine v_iload_n dX3_ticks_46 rfl ?_
    refine v_icmpN_ge (tgt := 64) dX3_ticks_47 (by decide) (by omega) (by omega) (fun c47 => (by omega)) (fun c47 => ?_)
    refine v_aload_n dX3_ticks_50 rfl ?_
    refine v_aload_n dX3_ticks_51 rfl ?_
    refine v_getR (t := 24) dX3_ticks_52 fl_X3_29 ⟨by decide, rfl, by decide⟩ rfl rfl ?_
    refine v_callV (as := [.ref 24]) (st := []) dX3_ticks_55 ml_X3_88 kv_X3_tick ⟨by decide, rfl, by decide⟩ ⟨(Nat.le_of_ble_eq_true rfl), (Nat.le_of_ble_eq_true rfl)⟩ rfl (Nat.le_of_ble_eq_true rfl) rfl (Nat.le_of_ble_eq_true rfl) (c_cTick hc ((congrFun (hz 0 (by omega) (by omega)) 1).trans hcc) (CIR0_c h (fun i a b => hz i (by omega) (by omega))) hW ho24 (by decide) (tkI_ok hW hR k) hmk) (fun v M9 hq => ?_)
    obtain ⟨rfl, y1, y2⟩ := hq
    refine v_iincN (lv' := [(0, .ref 0), (1, .int (nI n)), (2, .int (R 2)), (3, .int (nI (k + 1)))]) dX3_ticks_58 rfl (Nat.le_of_ble_eq_true rfl) rfl ?_
    refine v_goto (tgt := 45) dX3_ticks_61 (by decide) ?_
    refine ih (k + 1) _ (by omega) (fun i a b => (y1 i (by omega) (by omega) (by omega) (by omega) (by omega)).trans (hz i a b)) y2
set_option maxRecDepth 100000 in
theorem k_ticks (hr : CLS c r M T R P Im tx t) (hW : WF T) (hp6 : P.length ≤ 6) (hR : rOK T R) {n : Nat} (h1 : 1 ≤ n) (hn : n ≤ 99) : V kX3_ticks (cA M (ticA T R n) T (ticR T R n) (ticP R P n) Im tx t) M 0 [(0, .ref 0), (1, .int (nI n))] [] := by
  have h16 := hW.n16
  have hr0 := hr
  obtain ⟨hc, hcc, hce, ⟨h, hd⟩, hm, hp, hi, hx0⟩ := hr
  have ho24 : mo 24 := Or.inl (Or.inl rfl)
  refine v_iload_n dX3_ticks_0 rfl ?_
  refine v_iconst (v := (nI 1)) dX3_ticks_1 rfl ?_
  refine v_icmpN_lt (tgt := 11) dX3_ticks_2 (by decide) (by omega) (by omega) (fun c2 => (absurd c2 (by omega))) (fun c2 => ?_)
  refine v_iload_n dX3_ticks_5 rfl ?_
  refine v_bipush (v := (nI 99)) dX3_ticks_6 rfl ?_
  refine v_icmpN_le (tgt := 13) dX3_ticks_8 (by decide) (by omega) (by omega) (fun c8 => ?_) (fun c8 => (absurd c8 (by omega)))
  refine v_aload_n dX3_ticks_13 rfl ?_
  refine v_getR (t := 24) dX3_ticks_14 fl_X3_29 ⟨by decide, rfl, by decide⟩ rfl rfl ?_
  refine v_getI2 (y := (R 1)) dX3_ticks_17 fl_X3_82 ⟨by decide, rfl, by decide⟩ rfl (hm.1.2.1) ?_
  refine v_iload_n dX3_ticks_20 rfl ?_
  refine v_iadd dX3_ticks_21 ?_
  refine v_sipush (v := (nI 999)) dX3_ticks_22 rfl ?_
  refine v_icmp_le (tgt := 31) dX3_ticks_25 (by decide) (fun c25 => ?_) (fun c25 => ?_)
  · refine v_aload_n dX3_ticks_31 rfl ?_
    refine v_callV (as := []) (st := []) dX3_ticks_32 ml_X3_71 kv_X3_remember ⟨by decide, rfl, by decide⟩ ⟨(Nat.le_of_ble_eq_true rfl), (Nat.le_of_ble_eq_true rfl)⟩ rfl (Nat.le_of_ble_eq_true rfl) rfl (Nat.le_of_ble_eq_true rfl) (c_rem hr0 hp6) (fun v M1 hq => ?_)
    obtain ⟨rfl, hr1, hk1⟩ := hq
    refine v_aload_n dX3_ticks_35 rfl ?_
    refine v_getR (t := 24) dX3_ticks_36 fl_X3_29 ⟨by decide, rfl, by decide⟩ rfl rfl ?_
    refine v_getI2 (y := (R 2)) dX3_ticks_39 fl_X3_85 ⟨by decide, rfl, by decide⟩ rfl (hr1.2.2.2.2.1.1.2.2.1) ?_
    refine v_istore_n (lv' := [(0, .ref 0), (1, .int (nI n)), (2, .int (R 2))]) dX3_ticks_42 (Nat.le_of_ble_eq_true rfl) rfl ?_
    refine v_iconst (v := (nI 0)) dX3_ticks_43 rfl ?_
    refine v_istore_n (lv' := [(0, .ref 0), (1, .int (nI n)), (2, .int (R 2)), (3, .int (nI 0))]) dX3_ticks_44 (Nat.le_of_ble_eq_true rfl) rfl ?_
    have e1 : ticA T R n = tkI T R n 2 - R 2 := if_pos c25
    have e2 : ticR T R n = tkI T R n := if_pos c25
    have e3 : ticP R P n = (R :: P).take 6 := if_pos c25
    rw [e1, e2, e3]
    refine v_post ?_ (l_kticks hr1 hW hR hn n 0 M1 (by omega) (fun _ _ _ => rfl) hr1.2.2.2.2.1)
    rintro v M2 ⟨rfl, g1, g2⟩
    exact ⟨rfl, g1, kq_tr hk1 g2⟩
  · refine v_bipush (v := (-2)) dX3_ticks_28 (by decide) ?_
    refine v_iret dX3_ticks_30 rfl ?_
    have e1 : ticA T R n = (-2) := if_neg c25
    have e2 : ticR T R n = R := if_neg c25
    have e3 : ticP R P n = P := if_neg c25
    rw [e1, e2, e3]
    exact ⟨rfl, ⟨c, r, hr0⟩, kq_rf M⟩
set_option maxRecDepth 100000 in
theorem k_undo0 (hr : CLS c r M T R [] Im tx t) : V kX3_undo (cA M (-2) T R [] Im tx t) M 0 [(0, .ref 0)] [] := by
  obtain ⟨hc, hcc, hce, ⟨h, hd⟩, hm, hp, hi, hx0⟩ := id hr
  have ho24 : mo 24 := Or.inl (Or.inl rfl)
  refine v_aload_n dX3_undo_0 rfl ?_
  refine v_getI2 (y := (nI 0)) dX3_undo_1 fl_X3_65 ⟨by decide, rfl, by decide⟩ rfl (hp.2.1) ?_
  refine v_ifN_gt (tgt := 10) dX3_undo_4 (by decide) (by decide) (fun c4 => (absurd c4 (by decide))) (fun c4 => ?_)
  refine v_bipush (v := (-2)) dX3_undo_7 (by decide) ?_
  refine v_iret dX3_undo_9 rfl ?_
  exact ⟨rfl, ⟨c, r, hr⟩, kq_rf M⟩
set_option maxRecDepth 100000 in
theorem l_kundo {o : Nat} {p0 : Nat → Int32} (hr : CLS c r M0 T R (p0 :: P) Im tx t) (hp6 : P.length < 6) (ho : o = 34 + 3 * ((0 + r) % 6)) (d : Nat) : ∀ (k : Nat) (M : vM), k + d = 6 → 1 ≤ k → (∀ i, i ≠ 33 → i ≠ 24 → i ≠ 25 → i ≠ 26 → M i = M0 i) → MOM M 24 T p0 → (∀ j, j + 1 < k → M 33 j = nI (34 + 3 * ((j + 1 + r) % 6))) → (∀ j, k ≤ j → j < 6 → M 33 j = nI (34 + 3 * ((j + r) % 6))) → V kX3_undo (cA M0 (nI P.length) T p0 P Im tx t) M 27 [(0, .ref 0), (1, .ref o), (2, .int (nI k))] [] := by
  have ho9 : mo o := by rw [ho]; exact mo_p _
  obtain ⟨hc, hcc, hce, ⟨h, hd⟩, hm, hp, hi, hx0⟩ := id hr
  have ho24 : mo 24 := Or.inl (Or.inl rfl)
  induction d with
  | zero =>
    intro k M hk hk1 hz hmk g1 g2
    refine v_iload_n dX3_undo_27 rfl ?_
    refine v_aload_n dX3_undo_28 rfl ?_
    refine v_getR (t := 33) dX3_undo_29 fl_X3_39 ⟨by decide, rfl, by decide⟩ rfl rfl ?_
    refine v_alen (t := 13) (n := 6) dX3_undo_32 ⟨by decide, rfl, rfl⟩ (by decide) ?_
    refine v_icmpN_ge (tgt := 56) dX3_undo_33 (by decide) (by omega) (by omega) (fun c33 => ?_) (fun c33 => (by omega))
    refine v_aload_n dX3_undo_56 rfl ?_
    refine v_getR (t := 33) dX3_undo_57 fl_X3_39 ⟨by decide, rfl, by decide⟩ rfl rfl ?_
    refine v_aload_n dX3_undo_60 rfl ?_
    refine v_getR (t := 33) dX3_undo_61 fl_X3_39 ⟨by decide, rfl, by decide⟩ rfl rfl ?_
    refine v_alen (t := 13) (n := 6) dX3_undo_64 ⟨by decide, rfl, rfl⟩ (by decide) ?_
    refine v_iconst (v := (nI 1)) dX3_undo_65 rfl ?_
    refine v_isubN dX3_undo_66 (by decide) ?_
    refine v_top (y := (nI 5)) (rfl) ?_
    refine v_aload_n dX3_undo_67 rfl ?_
    refine v_aast (n := 6) (a := 5) dX3_undo_68 ⟨by decide, rfl, rfl⟩ (ob_m ho9) (rfl) (by omega) ?_
    refine v_aload_n dX3_undo_69 rfl ?_
    refine v_dup dX3_undo_70 rfl ?_
    refine v_getI2 (y := (nI (P.length + 1))) dX3_undo_71 fl_X3_65 ⟨by decide, rfl, by decide⟩ rfl (by rw [mup_ne (by decide), hz 0 (by decide) (by decide) (by decide) (by decide)]; exact hp.2.1) ?_
    refine v_iconst (v := (nI 1)) dX3_undo_74 rfl ?_
    refine v_isubN dX3_undo_75 (by omega) ?_
    refine v_top (y := (nI P.length)) (rfl) ?_
    refine v_putI dX3_undo_76 fl_X3_65 ⟨by decide, rfl, by decide⟩ rfl rfl rfl ?_
    refine v_aload_n dX3_undo_79 rfl ?_
    refine v_getI2 (y := (nI P.length)) dX3_undo_80 fl_X3_65 ⟨by decide, rfl, by decide⟩ rfl (by rw [mup_eq, upd_eq]) ?_
    refine v_iret dX3_undo_83 rfl ?_
    have hf := undo_fin (M1 := mup (mup M 33 5 (nI o)) 0 5 (nI P.length)) hr hp6 ho (fun i a1 a2 a3 a4 a5 => ?_) (fun j hj => ?_) ?_ (fun i hi => ?_) (MOM_c hmk ?_ ?_ ?_)
    · exact ⟨rfl, ⟨_, _, hf.1⟩, hf.2⟩
    · rw [mup_ne a1, mup_ne a2]; exact hz i a2 a3 a4 a5
    · rw [mup_eq, upd_ne hj, mup_ne (by decide), hz 0 (by decide) (by decide) (by decide) (by decide)]
    · rw [mup_eq, upd_eq]
    · rw [mup_ne (by decide), mup_eq]
      by_cases e : i = 5
      · rw [e, upd_eq, ho, show (5 + 1 + r) % 6 = (0 + r) % 6 by omega]
      · rw [upd_ne e]; exact g1 i (by omega)
    · rw [mup_ne (by decide), mup_ne (by decide)]
    · rw [mup_ne (by decide), mup_ne (by decide)]
    · rw [mup_ne (by decide), mup_ne (by decide)]
  | succ d ih =>
    intro k M hk hk1 hz hmk g1 g2
    refine v_iload_n dX3_undo_27 rfl ?_
    refine v_aload_n dX3_undo_28 rfl ?_
    refine v_getR (t := 33) dX3_undo_29 fl_X3_39 ⟨by decide, rfl, by decide⟩ rfl rfl ?_
    refine v_alen (t := 13) (n := 6) dX3_undo_32 ⟨by decide, rfl, rfl⟩ (by decide) ?_
    refine v_icmpN_ge (tgt := 56) dX3_undo_33 (by decide) (by omega) (by omega) (fun c33 => (by omega)) (fun c33 => ?_)
    refine v_aload_n dX3_undo_36 rfl ?_
    refine v_getR (t := 33) dX3_undo_37 fl_X3_39 ⟨by decide, rfl, by decide⟩ rfl rfl ?_
    refine v_iload_n dX3_undo_40 rfl ?_
    refine v_iconst (v := (nI 1)) dX3_undo_41 rfl ?_
    refine v_isubN dX3_undo_42 (by omega) ?_
    refine v_aload_n dX3_undo_43 rfl ?_
    refine v_getR (t := 33) dX3_undo_44 fl_X3_39 ⟨by decide, rfl, by decide⟩ rfl rfl ?_
    refine v_iload_n dX3_undo_47 rfl ?_
    refine v_aald (n := 6) (a := k) (t := 34 + 3 * ((k + r) % 6)) dX3_undo_48 ⟨by decide, rfl, rfl⟩ (rfl) (by omega) (g2 k (by omega) (by omega)) (by omega) ?_
    refine v_aast (n := 6) (a := k - 1) dX3_undo_49 ⟨by decide, rfl, rfl⟩ (ob_m (mo_p _)) (rfl) (by omega) ?_
    refine v_iincN (lv' := [(0, .ref 0), (1, .ref o), (2, .int (nI (k + 1)))]) dX3_undo_50 rfl (Nat.le_of_ble_eq_true rfl) rfl ?_
    refine v_goto (tgt := 27) dX3_undo_53 (by decide) ?_
    refine ih (k + 1) _ (by omega) (by omega) (fun i a1 a2 a3 a4 => (mup_ne a1).trans (hz i a1 a2 a3 a4)) (MOM_c hmk (mup_ne (by decide)) (mup_ne (by decide)) (mup_ne (by decide))) (fun j hj => ?_) (fun j hj hj6 => ?_)
    · rw [mup_eq]
      by_cases e : j = k - 1
      · rw [e, upd_eq, show k - 1 + 1 + r = k + r by omega]
      · rw [upd_ne e]; exact g1 j (by omega)
    · rw [mup_eq, upd_ne (by omega)]; exact g2 j (by omega) hj6
set_option maxRecDepth 100000 in
theorem k_undo {p0 : Nat → Int32} (hr : CLS c r M T R (p0 :: P) Im tx t) (hp6 : P.length < 6) : V kX3_undo (cA M (nI P.length) T p0 P Im tx t) M 0 [(0, .ref 0)] [] := by
  obtain ⟨hc, hcc, hce, ⟨h, hd⟩, hm, hp, hi, hx0⟩ := id hr
  have ho24 : mo 24 := Or.inl (Or.inl rfl)
  refine v_aload_n dX3_undo_0 rfl ?_
  refine v_getI2 (y := (nI (P.length + 1))) dX3_undo_1 fl_X3_65 ⟨by decide, rfl, by decide⟩ rfl (hp.2.1) ?_
  refine v_ifN_gt (tgt := 10) dX3_undo_4 (by decide) (by omega) (fun c4 => ?_) (fun c4 => (absurd c4 (by omega)))
  refine v_aload_n dX3_undo_10 rfl ?_
  refine v_getR (t := 33) dX3_undo_11 fl_X3_39 ⟨by decide, rfl, by decide⟩ rfl rfl ?_
  refine v_iconst (v := (nI 0)) dX3_undo_14 rfl ?_
  refine v_aald (n := 6) (a := 0) (t := 34 + 3 * ((0 + r) % 6)) dX3_undo_15 ⟨by decide, rfl, rfl⟩ (rfl) (by omega) (hp.2.2.1 0 (by decide)) (by omega) ?_
  refine v_astore_n (lv' := [(0, .ref 0), (1, .ref (34 + 3 * ((0 + r) % 6)))]) dX3_undo_16 (Nat.le_of_ble_eq_true rfl) rfl ?_
  refine v_aload_n dX3_undo_17 rfl ?_
  refine v_getR (t := 24) dX3_undo_18 fl_X3_29 ⟨by decide, rfl, by decide⟩ rfl rfl ?_
  refine v_aload_n dX3_undo_21 rfl ?_
  refine v_callV (as := [.ref (34 + 3 * ((0 + r) % 6))]) (st := []) dX3_undo_22 ml_X3_92 kv_X1_copy ⟨by decide, rfl, by decide⟩ ⟨(Nat.le_of_ble_eq_true rfl), (Nat.le_of_ble_eq_true rfl)⟩ rfl (Nat.le_of_ble_eq_true rfl) rfl (Nat.le_of_ble_eq_true rfl) (c_mCopy ho24 (mo_p (0 + r)) (by omega)) (fun v M1 hq => ?_)
  obtain ⟨rfl, y1, y2⟩ := hq
  refine v_iconst (v := (nI 1)) dX3_undo_25 rfl ?_
  refine v_istore_n (lv' := [(0, .ref 0), (1, .ref (34 + 3 * ((0 + r) % 6))), (2, .int (nI 1))]) dX3_undo_26 (Nat.le_of_ble_eq_true rfl) rfl ?_
  have hp0 : MOM M (34 + 3 * ((0 + r) % 6)) T p0 := hp.2.2.2 0 (by simp only [List.length_cons]; omega)
  exact l_kundo hr hp6 rfl 5 1 M1 (by omega) (by omega) (fun i a1 a2 a3 a4 => y1 i a2 a3 a4) (y2 T p0 hp0) (fun j hj => absurd hj (by omega)) (fun j hj hj6 => by rw [y1 33 (by decide) (by decide) (by decide)]; exact hp.2.2.1 j hj6)
set_option maxRecDepth 100000 in
theorem k_when0 (hr : CLS c r M T R P Im tx t) (hW : WF T) {x w : Int32} (hx : ¬ isN T x) : V kX3_when (cA M ((-1)) T R P Im tx t) M 0 [(0, .ref 0), (1, .int x), (2, .int w)] [] := by
  have h16 := hW.n16
  have hr0 := hr
  obtain ⟨hc, hcc, hce, ⟨h, hd⟩, hm, hp, hi, hx0⟩ := hr
  have ho24 : mo 24 := Or.inl (Or.inl rfl)
  refine v_aload_n dX3_when_0 rfl ?_
  refine v_getD (t := c) dX3_when_1 fl_X3_19 ⟨by decide, rfl, by decide⟩ rfl (hcc) (by omega) ?_
  refine v_iload_n dX3_when_4 rfl ?_
  refine v_callVr (x := .int (nI 0)) (M1 := M) (as := [.int x]) (st := []) dX3_when_5 ml_X3_95 kv_X0_isNode (ob_c hc) ⟨(Nat.le_of_ble_eq_true rfl), (Nat.le_of_ble_eq_true rfl)⟩ rfl (Nat.le_of_ble_eq_true rfl) rfl (Nat.le_of_ble_eq_true rfl) (c_cNode0 hc h hW hx) ?_
  refine v_ifN_eq (tgt := 20) dX3_when_8 (by decide) (by decide) (fun c8 => ?_) (fun c8 => (absurd rfl c8))
  refine v_iconst (v := (-1)) dX3_when_20 (by decide) ?_
  refine v_iret dX3_when_21 rfl ?_
  exact ⟨rfl, ⟨c, r, hr0⟩, kq_rf M⟩
set_option maxRecDepth 100000 in
theorem k_whenO (hr : CLS c r M T R P Im tx t) (hW : WF T) {n : Nat} {w : Int32} (hn : n < nN T) (hw : ¬ (nI 0 ≤ w ∧ w ≤ nI 2)) : V kX3_when (cA M ((-1)) T R P Im tx t) M 0 [(0, .ref 0), (1, .int (nI n)), (2, .int w)] [] := by
  have h16 := hW.n16
  have hr0 := hr
  obtain ⟨hc, hcc, hce, ⟨h, hd⟩, hm, hp, hi, hx0⟩ := hr
  have ho24 : mo 24 := Or.inl (Or.inl rfl)
  refine v_aload_n dX3_when_0 rfl ?_
  refine v_getD (t := c) dX3_when_1 fl_X3_19 ⟨by decide, rfl, by decide⟩ rfl (hcc) (by omega) ?_
  refine v_iload_n dX3_when_4 rfl ?_
  refine v_callVr (x := .int (nI 1)) (M1 := M) (as := [.int (nI n)]) (st := []) dX3_when_5 ml_X3_95 kv_X0_isNode (ob_c hc) ⟨(Nat.le_of_ble_eq_true rfl), (Nat.le_of_ble_eq_true rfl)⟩ rfl (Nat.le_of_ble_eq_true rfl) rfl (Nat.le_of_ble_eq_true rfl) (c_cNode hc h hW (by omega)) ?_
  refine v_ifN_eq (tgt := 20) dX3_when_8 (by decide) (by decide) (fun c8 => (absurd c8 (by decide))) (fun c8 => ?_)
  refine v_iload_n dX3_when_11 rfl ?_
  refine v_if_lt (tgt := 20) dX3_when_12 (by decide) (fun c12 => ?_) (fun c12 => ?_)
  · refine v_iconst (v := (-1)) dX3_when_20 (by decide) ?_
    refine v_iret dX3_when_21 rfl ?_
    exact ⟨rfl, ⟨c, r, hr0⟩, kq_rf M⟩
  · refine v_iload_n dX3_when_15 rfl ?_
    refine v_iconst (v := (nI 2)) dX3_when_16 rfl ?_
    refine v_icmp_le (tgt := 22) dX3_when_17 (by decide) (fun c17 => (absurd ⟨Int32.not_lt.mp c12, c17⟩ hw)) (fun c17 => ?_)
    refine v_iconst (v := (-1)) dX3_when_20 (by decide) ?_
    refine v_iret dX3_when_21 rfl ?_
    exact ⟨rfl, ⟨c, r, hr0⟩, kq_rf M⟩
set_option maxRecDepth 100000 in
theorem l_kwhen (hr : CLS c r M0 T R P Im tx t) (hW : WF T) {n : Nat} {w : Int32} (hn : n < nN T) (d : Nat) : ∀ (k : Nat) (Q9 : Nat → Int32) (M : vM), k + d = 100 → rOK T Q9 → (∀ i, ¬ (27 ≤ i ∧ i < 33) → M i = M0 i) → MOM M 30 T Q9 → V kX3_when (fun v M1 => v = some (.int (whN T n w d k Q9)) ∧ (∀ i, ¬ (27 ≤ i ∧ i < 33) → M1 i = M0 i)) M 35 [(0, .ref 0), (1, .int (nI n)), (2, .int w), (3, .int (nI k))] [] := by
  have h16 := hW.n16
  obtain ⟨hc, hcc, hce, ⟨h, hd⟩, hm, hp, hi, hx0⟩ := id hr
  have ho24 : mo 24 := Or.inl (Or.inl rfl)
  have ho30 : mo 30 := Or.inl (Or.inr (Or.inr rfl))
  induction d with
  | zero =>
    intro k Q9 M hk hR hz hmk
    refine v_iload_n dX3_when_35 rfl ?_
    refine v_bipush (v := (nI 99)) dX3_when_36 rfl ?_
    refine v_icmpN_gt (tgt := 72) dX3_when_38 (by decide) (by omega) (by omega) (fun c38 => ?_) (fun c38 => (by omega))
    refine v_bipush (v := (-9)) dX3_when_72 (by decide) ?_
    refine v_iret dX3_when_74 rfl ?_
    exact ⟨rfl, hz⟩
  | succ d ih =>
    intro k Q9 M hk hR hz hmk
    refine v_iload_n dX3_when_35 rfl ?_
    refine v_bipush (v := (nI 99)) dX3_when_36 rfl ?_
    refine v_icmpN_gt (tgt := 72) dX3_when_38 (by decide) (by omega) (by omega) (fun c38 => (by omega)) (fun c38 => ?_)
    refine v_aload_n dX3_when_41 rfl ?_
    refine v_getR (t := 30) dX3_when_42 fl_X3_36 ⟨by decide, rfl, by decide⟩ rfl rfl ?_
    refine v_getR (t := 31) dX3_when_45 fl_X3_119 ⟨by decide, rfl, by decide⟩ rfl rfl ?_
    refine v_iload_n dX3_when_48 rfl ?_
    refine v_callSr (x := .int (vlF T Q9 n)) (M1 := M) (as := [.ref 31, .int (nI n)]) (st := []) dX3_when_49 ml_X3_101 ks_X3_at ⟨(Nat.le_of_ble_eq_true rfl), (Nat.le_of_ble_eq_true rfl)⟩ rfl (Nat.le_of_ble_eq_true rfl) rfl (Nat.le_of_ble_eq_true rfl) (c_at (i := 31) (n := 16) ⟨by decide, rfl, rfl⟩ (by omega) (hmk.2.1 n hn)) ?_
    refine v_iload_n dX3_when_52 rfl ?_
    refine v_icmp_ne (tgt := 58) dX3_when_53 (by decide) (fun c53 => ?_) (fun c53 => ?_)
    · refine v_aload_n dX3_when_58 rfl ?_
      refine v_aload_n dX3_when_59 rfl ?_
      refine v_getR (t := 30) dX3_when_60 fl_X3_36 ⟨by decide, rfl, by decide⟩ rfl rfl ?_
      refine v_callV (as := [.ref 30]) (st := []) dX3_when_63 ml_X3_88 kv_X3_tick ⟨by decide, rfl, by decide⟩ ⟨(Nat.le_of_ble_eq_true rfl), (Nat.le_of_ble_eq_true rfl)⟩ rfl (Nat.le_of_ble_eq_true rfl) rfl (Nat.le_of_ble_eq_true rfl) (c_cTick hc ((congrFun (hz 0 (by omega)) 1).trans hcc) (CIR0_c h (fun i a b => hz i (by omega))) hW ho30 (by decide) hR hmk) (fun v M9 hq => ?_)
      obtain ⟨rfl, y1, y2⟩ := hq
      refine v_iincN (lv' := [(0, .ref 0), (1, .int (nI n)), (2, .int w), (3, .int (nI (k + 1)))]) dX3_when_66 rfl (Nat.le_of_ble_eq_true rfl) rfl ?_
      refine v_goto (tgt := 35) dX3_when_69 (by decide) ?_
      rw [show whN T n w (d + 1) k Q9 = whN T n w d (k + 1) (tkR T Q9) by simp only [whN]; rw [if_neg c53]]
      exact ih (k + 1) _ _ (by omega) (tkR_ok hW hR) (fun i a => (y1 i (by omega) (by omega) (by omega) (by omega) (by omega)).trans (hz i a)) y2
    · refine v_iload_n dX3_when_56 rfl ?_
      refine v_iret dX3_when_57 rfl ?_
      refine ⟨congrArg (fun x => some (Value.int x)) ?_, hz⟩
      simp [whN, c53]
set_option maxRecDepth 100000 in
theorem k_when (hr : CLS c r M T R P Im tx t) (hW : WF T) (hR : rOK T R) {n : Nat} {w : Int32} (hn : n < nN T) (hw : nI 0 ≤ w ∧ w ≤ nI 2) : V kX3_when (cA M (whN T n w 100 0 R) T R P Im tx t) M 0 [(0, .ref 0), (1, .int (nI n)), (2, .int w)] [] := by
  have h16 := hW.n16
  have hr0 := hr
  obtain ⟨hc, hcc, hce, ⟨h, hd⟩, hm, hp, hi, hx0⟩ := hr
  have ho24 : mo 24 := Or.inl (Or.inl rfl)
  refine v_aload_n dX3_when_0 rfl ?_
  refine v_getD (t := c) dX3_when_1 fl_X3_19 ⟨by decide, rfl, by decide⟩ rfl (hcc) (by omega) ?_
  refine v_iload_n dX3_when_4 rfl ?_
  refine v_callVr (x := .int (nI 1)) (M1 := M) (as := [.int (nI n)]) (st := []) dX3_when_5 ml_X3_95 kv_X0_isNode (ob_c hc) ⟨(Nat.le_of_ble_eq_true rfl), (Nat.le_of_ble_eq_true rfl)⟩ rfl (Nat.le_of_ble_eq_true rfl) rfl (Nat.le_of_ble_eq_true rfl) (c_cNode hc h hW (by omega)) ?_
  refine v_ifN_eq (tgt := 20) dX3_when_8 (by decide) (by decide) (fun c8 => (absurd c8 (by decide))) (fun c8 => ?_)
  refine v_iload_n dX3_when_11 rfl ?_
  refine v_if_lt (tgt := 20) dX3_when_12 (by decide) (fun c12 => (absurd c12 (Int32.not_lt.mpr hw.1))) (fun c12 => ?_)
  refine v_iload_n dX3_when_15 rfl ?_
  refine v_iconst (v := (nI 2)) dX3_when_16 rfl ?_
  refine v_icmp_le (tgt := 22) dX3_when_17 (by decide) (fun c17 => ?_) (fun c17 => (absurd hw.2 c17))
  refine v_aload_n dX3_when_22 rfl ?_
  refine v_getR (t := 30) dX3_when_23 fl_X3_36 ⟨by decide, rfl, by decide⟩ rfl rfl ?_
  refine v_aload_n dX3_when_26 rfl ?_
  refine v_getR (t := 24) dX3_when_27 fl_X3_29 ⟨by decide, rfl, by decide⟩ rfl rfl ?_
  refine v_callV (as := [.ref 24]) (st := []) dX3_when_30 ml_X3_92 kv_X1_copy ⟨by decide, rfl, by decide⟩ ⟨(Nat.le_of_ble_eq_true rfl), (Nat.le_of_ble_eq_true rfl)⟩ rfl (Nat.le_of_ble_eq_true rfl) rfl (Nat.le_of_ble_eq_true rfl) (c_mCopy (Or.inl (Or.inr (Or.inr rfl))) ho24 (by decide)) (fun v M1 hq => ?_)
  obtain ⟨rfl, y1, y2⟩ := hq
  refine v_iconst (v := (nI 0)) dX3_when_33 rfl ?_
  refine v_istore_n (lv' := [(0, .ref 0), (1, .int (nI n)), (2, .int w), (3, .int (nI 0))]) dX3_when_34 (Nat.le_of_ble_eq_true rfl) rfl ?_
  refine v_post ?_ (l_kwhen hr0 hW hn 100 0 R M1 (by omega) hR (fun i a => y1 i (by omega) (by omega) (by omega)) (y2 T R hm))
  rintro v M2 ⟨rfl, g1⟩
  exact ⟨rfl, ⟨c, r, CLS_c hr0 (fun i a b => g1 i b)⟩, fun i a => g1 i (by omega)⟩
set_option maxRecDepth 100000 in
theorem k_keep0 (hr : CLS c r M T R P Im tx t) (hW : WF T) {x : Int32} (hx : ¬ (nI 0 ≤ x ∧ x ≤ nI 1)) : V kX3_keep (cA M ((-1)) T R P Im tx t) M 0 [(0, .ref 0), (1, .int x)] [] := by
  have h16 := hW.n16
  have hr0 := hr
  obtain ⟨hc, hcc, hce, ⟨h, hd⟩, hm, hp, hi, hx0⟩ := hr
  have ho24 : mo 24 := Or.inl (Or.inl rfl)
  refine v_iload_n dX3_keep_0 rfl ?_
  refine v_if_lt (tgt := 9) dX3_keep_1 (by decide) (fun c1 => ?_) (fun c1 => ?_)
  · refine v_iconst (v := (-1)) dX3_keep_9 (by decide) ?_
    refine v_iret dX3_keep_10 rfl ?_
    exact ⟨rfl, ⟨c, r, hr0⟩, kq_rf M⟩
  · refine v_iload_n dX3_keep_4 rfl ?_
    refine v_iconst (v := (nI 2)) dX3_keep_5 rfl ?_
    refine v_icmp_lt (tgt := 11) dX3_keep_6 (by decide) (fun c6 => (absurd ⟨Int32.not_lt.mp c1, lt_le1 c6⟩ hx)) (fun c6 => ?_)
    refine v_iconst (v := (-1)) dX3_keep_9 (by decide) ?_
    refine v_iret dX3_keep_10 rfl ?_
    exact ⟨rfl, ⟨c, r, hr0⟩, kq_rf M⟩
set_option maxRecDepth 100000 in
theorem k_keep (hr : CLS c r M T R P Im tx t) (hW : WF T) {i : Nat} (hi2 : i < 2) : V kX3_keep (cA M (R 1) T R P (fun j => if j = i then some R else Im j) tx t) M 0 [(0, .ref 0), (1, .int (nI i))] [] := by
  have h16 := hW.n16
  have hr0 := hr
  obtain ⟨hc, hcc, hce, ⟨h, hd⟩, hm, hp, hi, hx0⟩ := hr
  have ho24 : mo 24 := Or.inl (Or.inl rfl)
  refine v_iload_n dX3_keep_0 rfl ?_
  refine v_ifN_lt (tgt := 9) dX3_keep_1 (by decide) (by omega) ?_
  refine v_iload_n dX3_keep_4 rfl ?_
  refine v_iconst (v := (nI 2)) dX3_keep_5 rfl ?_
  refine v_icmpN_lt (tgt := 11) dX3_keep_6 (by decide) (by omega) (by omega) (fun c6 => ?_) (fun c6 => (absurd c6 (by omega)))
  refine v_aload_n dX3_keep_11 rfl ?_
  refine v_getR (t := 52) dX3_keep_12 fl_X3_43 ⟨by decide, rfl, by decide⟩ rfl rfl ?_
  refine v_iload_n dX3_keep_15 rfl ?_
  refine v_aald (n := 2) (a := i) (t := 53 + 3 * i) dX3_keep_16 ⟨by decide, rfl, rfl⟩ (rfl) (by omega) (hi.1 i hi2) (by omega) ?_
  refine v_aload_n dX3_keep_17 rfl ?_
  refine v_getR (t := 24) dX3_keep_18 fl_X3_29 ⟨by decide, rfl, by decide⟩ rfl rfl ?_
  refine v_callV (as := [.ref 24]) (st := []) dX3_keep_21 ml_X3_92 kv_X1_copy (ob_m (mo_i hi2)) ⟨(Nat.le_of_ble_eq_true rfl), (Nat.le_of_ble_eq_true rfl)⟩ rfl (Nat.le_of_ble_eq_true rfl) rfl (Nat.le_of_ble_eq_true rfl) (c_mCopy (mo_i hi2) ho24 (by omega)) (fun v M1 hq => ?_)
  obtain ⟨rfl, y1, y2⟩ := hq
  refine v_aload_n dX3_keep_24 rfl ?_
  refine v_getR (t := 59) dX3_keep_25 fl_X3_46 ⟨by decide, rfl, by decide⟩ rfl rfl ?_
  refine v_iload_n dX3_keep_28 rfl ?_
  refine v_iconst (v := (nI 1)) dX3_keep_29 rfl ?_
  refine v_zast (n := 2) (a := i) dX3_keep_30 ⟨by decide, rfl, rfl⟩ (rfl) (by omega) ?_
  refine v_aload_n dX3_keep_31 rfl ?_
  refine v_getR (t := 24) dX3_keep_32 fl_X3_29 ⟨by decide, rfl, by decide⟩ rfl rfl ?_
  refine v_getI2 (y := (R 1)) dX3_keep_35 fl_X3_82 ⟨by decide, rfl, by decide⟩ rfl (by rw [mup_ne (by decide), y1 24 (by omega) (by omega) (by omega)]; exact hm.1.2.1) ?_
  refine v_iret dX3_keep_38 rfl ?_
  have eo : ∀ a, a ≠ 59 → a ≠ 53 + 3 * i → a ≠ 53 + 3 * i + 1 → a ≠ 53 + 3 * i + 2 → mup M1 59 i (vp_nar .boolean (nI 1)) a = M a := fun a b1 b2 b3 b4 => (mup_ne b1).trans (y1 a b2 b3 b4)
  refine ⟨rfl, ⟨c, r, hc, ?_, ?_, CIR_c ⟨h, hd⟩ (fun a b1 b2 => eo a (by omega) (by omega) (by omega) (by omega)), MOM_c hm (eo _ (by omega) (by omega) (by omega) (by omega)) (eo _ (by omega) (by omega) (by omega) (by omega)) (eo _ (by omega) (by omega) (by omega) (by omega)), cP_c hp ?_ (fun a b1 b2 => eo a (by omega) (by omega) (by omega) (by omega)), ⟨fun a ha => ?_, fun a ha => ?_⟩, cX_c hx0 ?_ (eo _ (by omega) (by omega) (by omega) (by omega))⟩, fun a b1 => eo a (by omega) (by omega) (by omega) (by omega)⟩
  · rw [eo 0 (by omega) (by omega) (by omega) (by omega)]; exact hcc
  · rw [eo 0 (by omega) (by omega) (by omega) (by omega)]; exact hce
  · rw [eo 0 (by omega) (by omega) (by omega) (by omega)]
  · rw [eo 52 (by omega) (by omega) (by omega) (by omega)]; exact hi.1 a ha
  · by_cases e : a = i
    · subst e
      refine ⟨fun q => ?_, fun q hq => ?_⟩
      · simp at q
      · simp at hq
        subst hq
        refine ⟨?_, MOM_c (y2 T R hm) (mup_ne (by omega)) (mup_ne (by omega)) (mup_ne (by omega))⟩
        rw [mup_eq, upd_eq]; decide
    · refine ⟨fun q => ?_, fun q hq => ?_⟩
      · simp only [if_neg e] at q
        rw [mup_eq, upd_ne e, y1 59 (by omega) (by omega) (by omega)]; exact (hi.2 a ha).1 q
      · simp only [if_neg e] at hq
        refine ⟨?_, MOM_c ((hi.2 a ha).2 q hq).2 (eo _ (by omega) (by omega) (by omega) (by omega)) (eo _ (by omega) (by omega) (by omega) (by omega)) (eo _ (by omega) (by omega) (by omega) (by omega))⟩
        rw [mup_eq, upd_ne e, y1 59 (by omega) (by omega) (by omega)]; exact ((hi.2 a ha).2 q hq).1
  · rw [eo 1 (by omega) (by omega) (by omega) (by omega)]
set_option maxRecDepth 100000 in
theorem k_back0 (hr : CLS c r M T R P Im tx t) (hW : WF T) {x : Int32} (hx : ¬ (nI 0 ≤ x ∧ x ≤ nI 1)) : V kX3_back (cA M ((-1)) T R P Im tx t) M 0 [(0, .ref 0), (1, .int x)] [] := by
  have h16 := hW.n16
  have hr0 := hr
  obtain ⟨hc, hcc, hce, ⟨h, hd⟩, hm, hp, hi, hx0⟩ := hr
  have ho24 : mo 24 := Or.inl (Or.inl rfl)
  refine v_iload_n dX3_back_0 rfl ?_
  refine v_if_lt (tgt := 9) dX3_back_1 (by decide) (fun c1 => ?_) (fun c1 => ?_)
  · refine v_iconst (v := (-1)) dX3_back_9 (by decide) ?_
    refine v_iret dX3_back_10 rfl ?_
    exact ⟨rfl, ⟨c, r, hr0⟩, kq_rf M⟩
  · refine v_iload_n dX3_back_4 rfl ?_
    refine v_iconst (v := (nI 2)) dX3_back_5 rfl ?_
    refine v_icmp_lt (tgt := 11) dX3_back_6 (by decide) (fun c6 => (absurd ⟨Int32.not_lt.mp c1, lt_le1 c6⟩ hx)) (fun c6 => ?_)
    refine v_iconst (v := (-1)) dX3_back_9 (by decide) ?_
    refine v_iret dX3_back_10 rfl ?_
    exact ⟨rfl, ⟨c, r, hr0⟩, kq_rf M⟩
set_option maxRecDepth 100000 in
theorem k_backS (hr : CLS c r M T R P Im tx t) (hW : WF T) {i : Nat} (hi2 : i < 2) (hn : Im i = none) : V kX3_back (cA M ((-2)) T R P Im tx t) M 0 [(0, .ref 0), (1, .int (nI i))] [] := by
  have h16 := hW.n16
  have hr0 := hr
  obtain ⟨hc, hcc, hce, ⟨h, hd⟩, hm, hp, hi, hx0⟩ := hr
  have ho24 : mo 24 := Or.inl (Or.inl rfl)
  refine v_iload_n dX3_back_0 rfl ?_
  refine v_ifN_lt (tgt := 9) dX3_back_1 (by decide) (by omega) ?_
  refine v_iload_n dX3_back_4 rfl ?_
  refine v_iconst (v := (nI 2)) dX3_back_5 rfl ?_
  refine v_icmpN_lt (tgt := 11) dX3_back_6 (by decide) (by omega) (by omega) (fun c6 => ?_) (fun c6 => (absurd c6 (by omega)))
  refine v_aload_n dX3_back_11 rfl ?_
  refine v_getR (t := 59) dX3_back_12 fl_X3_46 ⟨by decide, rfl, by decide⟩ rfl rfl ?_
  refine v_iload_n dX3_back_15 rfl ?_
  refine v_zald (n := 2) (a := i) dX3_back_16 ⟨by decide, rfl, rfl⟩ (rfl) (by omega) ?_
  refine v_top (y := (nI 0)) ((hi.2 i hi2).1 hn) ?_
  refine v_ifN_ne (tgt := 23) dX3_back_17 (by decide) (by decide) (fun c17 => (absurd rfl c17)) (fun c17 => ?_)
  refine v_bipush (v := (-2)) dX3_back_20 (by decide) ?_
  refine v_iret dX3_back_22 rfl ?_
  exact ⟨rfl, ⟨c, r, hr0⟩, kq_rf M⟩
set_option maxRecDepth 100000 in
theorem k_back (hr : CLS c r M T R P Im tx t) (hW : WF T) {i : Nat} (hi2 : i < 2) {q : Nat → Int32} (hq9 : Im i = some q) : V kX3_back (cA M (q 1) T q [] Im tx t) M 0 [(0, .ref 0), (1, .int (nI i))] [] := by
  have h16 := hW.n16
  have hr0 := hr
  obtain ⟨hc, hcc, hce, ⟨h, hd⟩, hm, hp, hi, hx0⟩ := hr
  have ho24 : mo 24 := Or.inl (Or.inl rfl)
  refine v_iload_n dX3_back_0 rfl ?_
  refine v_ifN_lt (tgt := 9) dX3_back_1 (by decide) (by omega) ?_
  refine v_iload_n dX3_back_4 rfl ?_
  refine v_iconst (v := (nI 2)) dX3_back_5 rfl ?_
  refine v_icmpN_lt (tgt := 11) dX3_back_6 (by decide) (by omega) (by omega) (fun c6 => ?_) (fun c6 => (absurd c6 (by omega)))
  refine v_aload_n dX3_back_11 rfl ?_
  refine v_getR (t := 59) dX3_back_12 fl_X3_46 ⟨by decide, rfl, by decide⟩ rfl rfl ?_
  refine v_iload_n dX3_back_15 rfl ?_
  refine v_zald (n := 2) (a := i) dX3_back_16 ⟨by decide, rfl, rfl⟩ (rfl) (by omega) ?_
  refine v_top (y := (nI 1)) (((hi.2 i hi2).2 q hq9).1) ?_
  refine v_ifN_ne (tgt := 23) dX3_back_17 (by decide) (by decide) (fun c17 => ?_) (fun c17 => (absurd c17 (by decide)))
  refine v_aload_n dX3_back_23 rfl ?_
  refine v_getR (t := 24) dX3_back_24 fl_X3_29 ⟨by decide, rfl, by decide⟩ rfl rfl ?_
  refine v_aload_n dX3_back_27 rfl ?_
  refine v_getR (t := 52) dX3_back_28 fl_X3_43 ⟨by decide, rfl, by decide⟩ rfl rfl ?_
  refine v_iload_n dX3_back_31 rfl ?_
  refine v_aald (n := 2) (a := i) (t := 53 + 3 * i) dX3_back_32 ⟨by decide, rfl, rfl⟩ (rfl) (by omega) (hi.1 i hi2) (by omega) ?_
  refine v_callV (as := [.ref (53 + 3 * i)]) (st := []) dX3_back_33 ml_X3_92 kv_X1_copy ⟨by decide, rfl, by decide⟩ ⟨(Nat.le_of_ble_eq_true rfl), (Nat.le_of_ble_eq_true rfl)⟩ rfl (Nat.le_of_ble_eq_true rfl) rfl (Nat.le_of_ble_eq_true rfl) (c_mCopy ho24 (mo_i hi2) (by omega)) (fun v M1 hq => ?_)
  obtain ⟨rfl, y1, y2⟩ := hq
  refine v_aload_n dX3_back_36 rfl ?_
  refine v_iconst (v := (nI 0)) dX3_back_37 rfl ?_
  refine v_putI dX3_back_38 fl_X3_65 ⟨by decide, rfl, by decide⟩ rfl rfl rfl ?_
  refine v_aload_n dX3_back_41 rfl ?_
  refine v_getR (t := 24) dX3_back_42 fl_X3_29 ⟨by decide, rfl, by decide⟩ rfl rfl ?_
  refine v_getI2 (y := (q 1)) dX3_back_45 fl_X3_82 ⟨by decide, rfl, by decide⟩ rfl (by rw [mup_ne (by decide)]; exact (y2 T q ((hi.2 i hi2).2 q hq9).2).1.2.1) ?_
  refine v_iret dX3_back_48 rfl ?_
  have em : MOM (mup M1 0 5 (nI 0)) 24 T q := MOM_c (y2 T q ((hi.2 i hi2).2 q hq9).2) (mup_ne (by decide)) (mup_ne (by decide)) (mup_ne (by decide))
  have eo : ∀ a, a ≠ 0 → a ≠ 24 → a ≠ 25 → a ≠ 26 → mup M1 0 5 (nI 0) a = M a := fun a b1 b2 b3 b4 => (mup_ne b1).trans (y1 a b2 b3 b4)
  have e0 : ∀ j, j ≠ 5 → mup M1 0 5 (nI 0) 0 j = M 0 j := fun j hj => by rw [mup_eq, upd_ne hj, y1 0 (by decide) (by decide) (by decide)]
  refine ⟨rfl, ⟨c, r, hc, (e0 1 (by decide)).trans hcc, (e0 2 (by decide)).trans hce, CIR_c ⟨h, hd⟩ (fun a b1 b2 => eo a (by omega) (by omega) (by omega) (by omega)), em, ⟨hp.1, ?_, fun a ha => ?_, fun a ha => absurd ha (by simp)⟩, cI_c hi (fun a b1 b2 => eo a (by omega) (by omega) (by omega) (by omega)), cX_c hx0 (congrFun (eo 1 (by decide) (by decide) (by decide) (by decide)) 1) (eo 2 (by decide) (by decide) (by decide) (by decide))⟩, fun a b1 => eo a (by omega) (by omega) (by omega) (by omega)⟩
  · rw [mup_eq, upd_eq]; rfl
  · rw [eo 33 (by decide) (by decide) (by decide) (by decide)]; exact hp.2.2.1 a ha
theorem ch_id : ∀ v, v < 256 → ((nI v).toUInt32 % 65536).toInt32 = nI v := by decide +kernel
theorem ch_nar : ∀ v, v < 256 → vp_nar .char (nI v) = nI v := by decide +kernel
set_option maxRecDepth 100000 in
theorem c_putF (h1 : M 1 1 = nI 160) {x : Int32} : V kX2_put (rt (.int (nI 0)) M) M 0 [(0, .ref 1), (1, .int x)] [] := by
  refine v_aload_n dX2_put_0 rfl ?_
  refine v_getI2 (y := (nI 160)) dX2_put_1 fl_X2_19 ⟨by decide, rfl, by decide⟩ rfl (h1) ?_
  refine v_sipush (v := (nI 160)) dX2_put_4 rfl ?_
  refine v_icmpN_lt (tgt := 12) dX2_put_7 (by decide) (by decide) (by decide) (fun c7 => (absurd c7 (by decide))) (fun c7 => ?_)
  refine v_iconst (v := (nI 0)) dX2_put_10 rfl ?_
  refine v_zret dX2_put_11 rfl (Or.inl rfl) ?_
  exact ⟨rfl, rfl⟩
set_option maxRecDepth 100000 in
theorem c_put (h1 : M 1 1 = nI t) (ht : t < 160) {v : Nat} (hv : v < 256) : V kX2_put (rt (.int (nI 1)) (mup (mup M 2 t (vp_nar .char (nI v))) 1 1 (nI (t + 1)))) M 0 [(0, .ref 1), (1, .int (nI v))] [] := by
  refine v_aload_n dX2_put_0 rfl ?_
  refine v_getI2 (y := (nI t)) dX2_put_1 fl_X2_19 ⟨by decide, rfl, by decide⟩ rfl (h1) ?_
  refine v_sipush (v := (nI 160)) dX2_put_4 rfl ?_
  refine v_icmpN_lt (tgt := 12) dX2_put_7 (by decide) (by omega) (by omega) (fun c7 => ?_) (fun c7 => (absurd ht (by omega)))
  refine v_aload_n dX2_put_12 rfl ?_
  refine v_getR (t := 2) dX2_put_13 fl_X2_9 ⟨by decide, rfl, by decide⟩ rfl rfl ?_
  refine v_aload_n dX2_put_16 rfl ?_
  refine v_getI2 (y := (nI t)) dX2_put_17 fl_X2_19 ⟨by decide, rfl, by decide⟩ rfl (h1) ?_
  refine v_iload_n dX2_put_20 rfl ?_
  refine v_i2c dX2_put_21 rfl ?_
  refine v_top (y := (nI v)) (ch_id v hv) ?_
  refine v_cast (n := 160) (a := t) dX2_put_22 ⟨by decide, rfl, rfl⟩ (rfl) (by omega) ?_
  refine v_aload_n dX2_put_23 rfl ?_
  refine v_dup dX2_put_24 rfl ?_
  refine v_getI2 (y := (nI t)) dX2_put_25 fl_X2_19 ⟨by decide, rfl, by decide⟩ rfl (by rw [mup_ne (by decide)]; exact h1) ?_
  refine v_iconst (v := (nI 1)) dX2_put_28 rfl ?_
  refine v_iaddN dX2_put_29 ?_
  refine v_putI dX2_put_30 fl_X2_19 ⟨by decide, rfl, by decide⟩ rfl rfl rfl ?_
  refine v_iconst (v := (nI 1)) dX2_put_33 rfl ?_
  refine v_zret dX2_put_34 rfl (Or.inr rfl) ?_
  exact ⟨rfl, rfl⟩
set_option maxRecDepth 100000 in
theorem k_type0 (hr : CLS c r M T R P Im tx t) (hW : WF T) {x : Int32} (hx : ¬ (nI 0 ≤ x ∧ x ≤ nI 255)) : V kX3_type (cA M ((-1)) T R P Im tx t) M 0 [(0, .ref 0), (1, .int x)] [] := by
  have h16 := hW.n16
  have hr0 := hr
  obtain ⟨hc, hcc, hce, ⟨h, hd⟩, hm, hp, hi, hx0⟩ := hr
  have ho24 : mo 24 := Or.inl (Or.inl rfl)
  refine v_iload_n dX3_type_0 rfl ?_
  refine v_if_lt (tgt := 11) dX3_type_1 (by decide) (fun c1 => ?_) (fun c1 => ?_)
  · refine v_iconst (v := (-1)) dX3_type_11 (by decide) ?_
    refine v_iret dX3_type_12 rfl ?_
    exact ⟨rfl, ⟨c, r, hr0⟩, kq_rf M⟩
  · refine v_iload_n dX3_type_4 rfl ?_
    refine v_sipush (v := (nI 255)) dX3_type_5 rfl ?_
    refine v_icmp_le (tgt := 13) dX3_type_8 (by decide) (fun c8 => (absurd ⟨Int32.not_lt.mp c1, c8⟩ hx)) (fun c8 => ?_)
    refine v_iconst (v := (-1)) dX3_type_11 (by decide) ?_
    refine v_iret dX3_type_12 rfl ?_
    exact ⟨rfl, ⟨c, r, hr0⟩, kq_rf M⟩
set_option maxRecDepth 100000 in
theorem k_typeF (hr : CLS c r M T R P Im tx 160) {v : Nat} (hv : v < 256) : V kX3_type (cA M (-3) T R P Im tx 160) M 0 [(0, .ref 0), (1, .int (nI v))] [] := by
  obtain ⟨hc, hcc, hce, ⟨h, hd⟩, hm, hp, hi, hx0⟩ := id hr
  have ho24 : mo 24 := Or.inl (Or.inl rfl)
  refine v_iload_n dX3_type_0 rfl ?_
  refine v_ifN_lt (tgt := 11) dX3_type_1 (by decide) (by omega) ?_
  refine v_iload_n dX3_type_4 rfl ?_
  refine v_sipush (v := (nI 255)) dX3_type_5 rfl ?_
  refine v_icmpN_le (tgt := 13) dX3_type_8 (by decide) (by omega) (by omega) (fun c8 => ?_) (fun c8 => (absurd c8 (by omega)))
  refine v_aload_n dX3_type_13 rfl ?_
  refine v_getR (t := 1) dX3_type_14 fl_X3_10 ⟨by decide, rfl, by decide⟩ rfl rfl ?_
  refine v_iload_n dX3_type_17 rfl ?_
  refine v_callVr (x := .int (nI 0)) (M1 := M) (as := [.int (nI v)]) (st := []) dX3_type_18 ml_X3_50 kv_X2_put ⟨by decide, rfl, by decide⟩ ⟨(Nat.le_of_ble_eq_true rfl), (Nat.le_of_ble_eq_true rfl)⟩ rfl (Nat.le_of_ble_eq_true rfl) rfl (Nat.le_of_ble_eq_true rfl) (c_putF hx0.1) ?_
  refine v_ifN_eq (tgt := 34) dX3_type_21 (by decide) (by decide) (fun c21 => ?_) (fun c21 => (absurd rfl c21))
  refine v_bipush (v := (-3)) dX3_type_34 (by decide) ?_
  refine v_iret dX3_type_36 rfl ?_
  exact ⟨rfl, ⟨c, r, hr⟩, kq_rf M⟩
set_option maxRecDepth 100000 in
theorem k_type (hr : CLS c r M T R P Im tx t) {v : Nat} (hv : v < 256) (ht : t < 160) : V kX3_type (cA M (nI (t + 1)) T R P Im (upd tx t (nI v)) (t + 1)) M 0 [(0, .ref 0), (1, .int (nI v))] [] := by
  obtain ⟨hc, hcc, hce, ⟨h, hd⟩, hm, hp, hi, hx0⟩ := id hr
  have ho24 : mo 24 := Or.inl (Or.inl rfl)
  refine v_iload_n dX3_type_0 rfl ?_
  refine v_ifN_lt (tgt := 11) dX3_type_1 (by decide) (by omega) ?_
  refine v_iload_n dX3_type_4 rfl ?_
  refine v_sipush (v := (nI 255)) dX3_type_5 rfl ?_
  refine v_icmpN_le (tgt := 13) dX3_type_8 (by decide) (by omega) (by omega) (fun c8 => ?_) (fun c8 => (absurd c8 (by omega)))
  refine v_aload_n dX3_type_13 rfl ?_
  refine v_getR (t := 1) dX3_type_14 fl_X3_10 ⟨by decide, rfl, by decide⟩ rfl rfl ?_
  refine v_iload_n dX3_type_17 rfl ?_
  refine v_callVr (x := .int (nI 1)) (M1 := mup (mup M 2 t (vp_nar .char (nI v))) 1 1 (nI (t + 1))) (as := [.int (nI v)]) (st := []) dX3_type_18 ml_X3_50 kv_X2_put ⟨by decide, rfl, by decide⟩ ⟨(Nat.le_of_ble_eq_true rfl), (Nat.le_of_ble_eq_true rfl)⟩ rfl (Nat.le_of_ble_eq_true rfl) rfl (Nat.le_of_ble_eq_true rfl) (c_put hx0.1 ht hv) ?_
  refine v_ifN_eq (tgt := 34) dX3_type_21 (by decide) (by decide) (fun c21 => (absurd c21 (by decide))) (fun c21 => ?_)
  refine v_aload_n dX3_type_24 rfl ?_
  refine v_getR (t := 1) dX3_type_25 fl_X3_10 ⟨by decide, rfl, by decide⟩ rfl rfl ?_
  refine v_getI2 (y := (nI (t + 1))) dX3_type_28 fl_X3_54 ⟨by decide, rfl, by decide⟩ rfl (by rw [mup_eq, upd_eq]) ?_
  refine v_goto (tgt := 36) dX3_type_31 (by decide) ?_
  refine v_iret dX3_type_36 rfl ?_
  have eo : ∀ a, a ≠ 1 → a ≠ 2 → mup (mup M 2 t (vp_nar .char (nI v))) 1 1 (nI (t + 1)) a = M a := fun a b1 b2 => (mup_ne b1).trans (mup_ne b2)
  refine ⟨rfl, ⟨c, r, hc, (congrFun (eo 0 (by decide) (by decide)) 1).trans hcc, (congrFun (eo 0 (by decide) (by decide)) 2).trans hce, CIR_c ⟨h, hd⟩ (fun a b1 b2 => eo a (by omega) (by omega)), MOM_c hm (eo _ (by omega) (by omega)) (eo _ (by omega) (by omega)) (eo _ (by omega) (by omega)), cP_c hp (congrFun (eo 0 (by decide) (by decide)) 5) (fun a b1 b2 => eo a (by omega) (by omega)), cI_c hi (fun a b1 b2 => eo a (by omega) (by omega)), ⟨?_, fun j hj => ?_⟩⟩, fun a b1 => eo a (by omega) (by omega)⟩
  · rw [mup_eq, upd_eq]
  · rw [mup_ne (by decide), mup_eq]
    by_cases e : j = t
    · rw [e, upd_eq, upd_eq, ch_nar v hv]
    · rw [upd_ne e, upd_ne e]; exact hx0.2 j (by omega)
set_option maxRecDepth 100000 in
theorem k_clear (hr : CLS c r M T R P Im tx t) : V kX3_clear (cA M (nI t) T R P Im tx 0) M 0 [(0, .ref 0)] [] := by
  obtain ⟨hc, hcc, hce, ⟨h, hd⟩, hm, hp, hi, hx0⟩ := id hr
  have ho24 : mo 24 := Or.inl (Or.inl rfl)
  refine v_aload_n dX3_clear_0 rfl ?_
  refine v_getR (t := 1) dX3_clear_1 fl_X3_10 ⟨by decide, rfl, by decide⟩ rfl rfl ?_
  refine v_getI2 (y := (nI t)) dX3_clear_4 fl_X3_54 ⟨by decide, rfl, by decide⟩ rfl (hx0.1) ?_
  refine v_istore_n (lv' := [(0, .ref 0), (1, .int (nI t))]) dX3_clear_7 (Nat.le_of_ble_eq_true rfl) rfl ?_
  refine v_aload_n dX3_clear_8 rfl ?_
  refine v_getR (t := 1) dX3_clear_9 fl_X3_10 ⟨by decide, rfl, by decide⟩ rfl rfl ?_
  refine v_iconst (v := (nI 0)) dX3_clear_12 rfl ?_
  refine v_putI dX3_clear_13 fl_X3_54 ⟨by decide, rfl, by decide⟩ rfl rfl rfl ?_
  refine v_iload_n dX3_clear_16 rfl ?_
  refine v_iret dX3_clear_17 rfl ?_
  have eo : ∀ a, a ≠ 1 → mup M 1 1 (nI 0) a = M a := fun a b1 => mup_ne b1
  refine ⟨rfl, ⟨c, r, hc, (congrFun (eo 0 (by decide)) 1).trans hcc, (congrFun (eo 0 (by decide)) 2).trans hce, CIR_c ⟨h, hd⟩ (fun a b1 b2 => eo a (by omega)), MOM_c hm (eo _ (by omega)) (eo _ (by omega)) (eo _ (by omega)), cP_c hp (congrFun (eo 0 (by decide)) 5) (fun a b1 b2 => eo a (by omega)), cI_c hi (fun a b1 b2 => eo a (by omega)), ⟨by rw [mup_eq, upd_eq], fun j hj => absurd hj (by omega)⟩⟩, fun a b1 => eo a (by omega)⟩
def cjQ (T : Nat → Int32) (k : Int32) (r d q m : Nat) : Nat ⊕ Nat := if so T r = 1 then jQ T k r d q m else .inr m
def jC (T : Nat → Int32) (k w : Int32) (r D : Nat) : Nat ⊕ Nat → Int32
  | .inl q => jA T k w (.inl (r, q))
  | .inr m => jA T k w (jR T k D (r + 1) m)
theorem jC_eq {k w : Int32} {a D m : Nat} : jA T k w (jR T k (D + 1) a m) = jC T k w a D (cjQ T k a (nN T - (a + 1)) (a + 1) m) := by
  show jA T k w (match jS T k a m with | .inl q => .inl (a, q) | .inr n' => jR T k D (a + 1) n') = jC T k w a D (jS T k a m)
  cases jS T k a m <;> rfl
theorem loN_le (s : Int32) : ∀ d k, loN s d k ≤ k + d
  | 0, k => Nat.le_refl _
  | d + 1, k => by
    simp only [loN]
    split
    · omega
    · have := loN_le s d (k + 1); omega
theorem nI_m9 {n : Nat} (h : n < 2 ^ 31) : nI n ≠ (-9) := fun e => absurd (nI_pos' (n := n) h) (by rw [e]; decide)
theorem wj_eq {a q : Nat} : wjF T a q = (-9) ↔ ¬ (so T a = 1 ∧ ¬ boF T a q = 0) := by
  unfold wjF
  by_cases h1 : so T a = 1
  · rw [if_pos h1]
    by_cases h2 : boF T a q = 0
    · rw [if_pos h2]; simp [h2]
    · rw [if_neg h2]
      constructor
      · intro e; exact absurd e (nI_m9 (by have := loN_le (boF T a q) 32 0; unfold loF; omega))
      · intro e; exact absurd ⟨h1, h2⟩ e
  · rw [if_neg h1]; simp [h1]
theorem cjQ_skip {k : Int32} {a d q m : Nat} (h : wjF T a q = (-9)) : cjQ T k a (d + 1) q m = cjQ T k a d (q + 1) m := by
  unfold cjQ
  by_cases h1 : so T a = 1
  · rw [if_pos h1, if_pos h1]
    have h2 : boF T a q = 0 := Classical.byContradiction (fun z => wj_eq.mp h ⟨h1, z⟩)
    simp only [jQ]; rw [if_pos h2]
  · rw [if_neg h1, if_neg h1]
theorem cjQ_hit {k : Int32} {a d q m : Nat} (h : ¬ wjF T a q = (-9)) : cjQ T k a (d + 1) q m = (if nI m = k then .inl q else cjQ T k a d (q + 1) (m + 1)) ∧ wjF T a q = nI (loF (boF T a q)) := by
  have h0 : so T a = 1 ∧ ¬ boF T a q = 0 := Classical.byContradiction (fun z => h (wj_eq.mpr z))
  constructor
  · unfold cjQ
    rw [if_pos h0.1, if_pos h0.1]
    simp only [jQ]; rw [if_neg h0.2]
  · unfold wjF
    rw [if_pos h0.1, if_neg h0.2]
set_option maxRecDepth 100000 in
theorem l_kj2 (hr : CLS c r M T R P Im tx t) (hW : WF T) {k w : Int32} {a D : Nat} (ha : a < nN T) (hout : ∀ m, V kX3_join (cA M (jA T k w (jR T k D (a + 1) m)) T R P Im tx t) M 30 [(0, .ref 0), (1, .int k), (2, .int w), (3, .int (nI m)), (4, .int (nI (a + 1)))] []) (d : Nat) : ∀ (q : Nat) (m : Nat), q + d = nN T → V kX3_join (cA M (jC T k w a D (cjQ T k a d q m)) T R P Im tx t) M 48 [(0, .ref 0), (1, .int k), (2, .int w), (3, .int (nI m)), (4, .int (nI a)), (5, .int (nI q))] [] := by
  have h16 := hW.n16
  have hr0 := hr
  obtain ⟨hc, hcc, hce, ⟨h, hd⟩, hm, hp, hi, hx0⟩ := hr
  have ho24 : mo 24 := Or.inl (Or.inl rfl)
  induction d with
  | zero =>
    intro q m hk 
    refine v_iload dX3_join_48 rfl ?_
    refine v_aload_n dX3_join_50 rfl ?_
    refine v_getD (t := c) dX3_join_51 fl_X3_19 ⟨by decide, rfl, by decide⟩ rfl (hcc) (by omega) ?_
    refine v_getI2 (y := (nI (nN T))) dX3_join_54 fl_X3_131 (ob_c hc) rfl (h.nd) ?_
    refine v_icmpN_ge (tgt := 116) dX3_join_57 (by decide) (by omega) (by omega) (fun c57 => ?_) (fun c57 => (by omega))
    refine v_iincN (lv' := [(0, .ref 0), (1, .int k), (2, .int w), (3, .int (nI m)), (4, .int (nI (a + 1))), (5, .int (nI q))]) dX3_join_116 rfl (Nat.le_of_ble_eq_true rfl) rfl ?_
    refine v_goto (tgt := 30) dX3_join_119 (by decide) ?_
    refine v_sub (lv' := [(0, .ref 0), (1, .int k), (2, .int w), (3, .int (nI m)), (4, .int (nI (a + 1)))]) (by intro q hq; simp at hq; rcases hq with rfl | rfl | rfl | rfl | rfl <;> rfl) ?_
    rw [show cjQ T k a 0 q m = .inr m by unfold cjQ; split <;> rfl]
    exact hout m
  | succ d ih =>
    intro q m hk 
    refine v_iload dX3_join_48 rfl ?_
    refine v_aload_n dX3_join_50 rfl ?_
    refine v_getD (t := c) dX3_join_51 fl_X3_19 ⟨by decide, rfl, by decide⟩ rfl (hcc) (by omega) ?_
    refine v_getI2 (y := (nI (nN T))) dX3_join_54 fl_X3_131 (ob_c hc) rfl (h.nd) ?_
    refine v_icmpN_ge (tgt := 116) dX3_join_57 (by decide) (by omega) (by omega) (fun c57 => (by omega)) (fun c57 => ?_)
    refine v_aload_n dX3_join_60 rfl ?_
    refine v_getD (t := c) dX3_join_61 fl_X3_19 ⟨by decide, rfl, by decide⟩ rfl (hcc) (by omega) ?_
    refine v_iload dX3_join_64 rfl ?_
    refine v_iload dX3_join_66 rfl ?_
    refine v_callVr (x := .int (wjF T a q)) (M1 := M) (as := [.int (nI a), .int (nI q)]) (st := []) dX3_join_68 ml_X3_137 kv_X0_whereJoined (ob_c hc) ⟨(Nat.le_of_ble_eq_true rfl), (Nat.le_of_ble_eq_true rfl)⟩ rfl (Nat.le_of_ble_eq_true rfl) rfl (Nat.le_of_ble_eq_true rfl) (c_cJoin hc h hW ha (by omega)) ?_
    refine v_istore (lv' := [(0, .ref 0), (1, .int k), (2, .int w), (3, .int (nI m)), (4, .int (nI a)), (5, .int (nI q)), (6, .int (wjF T a q))]) dX3_join_71 (Nat.le_of_ble_eq_true rfl) rfl ?_
    refine v_iload dX3_join_73 rfl ?_
    refine v_bipush (v := (-9)) dX3_join_75 (by decide) ?_
    refine v_icmp_eq (tgt := 110) dX3_join_77 (by decide) (fun c77 => ?_) (fun c77 => ?_)
    · refine v_iincN (lv' := [(0, .ref 0), (1, .int k), (2, .int w), (3, .int (nI m)), (4, .int (nI a)), (5, .int (nI (q + 1))), (6, .int (wjF T a q))]) dX3_join_110 rfl (Nat.le_of_ble_eq_true rfl) rfl ?_
      refine v_goto (tgt := 48) dX3_join_113 (by decide) ?_
      refine v_sub (lv' := [(0, .ref 0), (1, .int k), (2, .int w), (3, .int (nI m)), (4, .int (nI a)), (5, .int (nI (q + 1)))]) (by intro q hq; simp at hq; rcases hq with rfl | rfl | rfl | rfl | rfl | rfl <;> rfl) ?_
      rw [cjQ_skip c77]
      exact ih (q + 1) m (by omega)
    · refine v_iload_n dX3_join_80 rfl ?_
      refine v_iload_n dX3_join_81 rfl ?_
      refine v_icmp_ne (tgt := 107) dX3_join_82 (by decide) (fun c82 => ?_) (fun c82 => ?_)
      · refine v_iincN (lv' := [(0, .ref 0), (1, .int k), (2, .int w), (3, .int (nI (m + 1))), (4, .int (nI a)), (5, .int (nI q)), (6, .int (wjF T a q))]) dX3_join_107 rfl (Nat.le_of_ble_eq_true rfl) rfl ?_
        refine v_iincN (lv' := [(0, .ref 0), (1, .int k), (2, .int w), (3, .int (nI (m + 1))), (4, .int (nI a)), (5, .int (nI (q + 1))), (6, .int (wjF T a q))]) dX3_join_110 rfl (Nat.le_of_ble_eq_true rfl) rfl ?_
        refine v_goto (tgt := 48) dX3_join_113 (by decide) ?_
        refine v_sub (lv' := [(0, .ref 0), (1, .int k), (2, .int w), (3, .int (nI (m + 1))), (4, .int (nI a)), (5, .int (nI (q + 1)))]) (by intro q hq; simp at hq; rcases hq with rfl | rfl | rfl | rfl | rfl | rfl <;> rfl) ?_
        rw [(cjQ_hit c77).1, if_neg c82]
        exact ih (q + 1) (m + 1) (by omega)
      · refine v_iload_n dX3_join_85 rfl ?_
        refine v_if_ne (tgt := 94) dX3_join_86 (by decide) (fun c86 => ?_) (fun c86 => ?_)
        · refine v_iload_n dX3_join_94 rfl ?_
          refine v_iconst (v := (nI 1)) dX3_join_95 rfl ?_
          refine v_icmp_ne (tgt := 104) dX3_join_96 (by decide) (fun c96 => ?_) (fun c96 => ?_)
          · refine v_iload dX3_join_104 rfl ?_
            refine v_iret dX3_join_106 rfl ?_
            refine ⟨congrArg (fun x => some (Value.int x)) ?_, ⟨c, r, hr0⟩, kq_rf M⟩
            rw [(cjQ_hit c77).1, if_pos c82]
            show _ = (if w = 0 then nI a else if w = nI 1 then nI q else nI (loF (boF T a q)))
            have hlo := (cjQ_hit (k := k) (d := d) (m := m) c77).2
            first
            | rw [if_pos c86]
            | rw [if_neg c86, if_pos c96]
            | rw [if_neg c86, if_neg c96, hlo]
          · refine v_iload dX3_join_99 rfl ?_
            refine v_goto (tgt := 106) dX3_join_101 (by decide) ?_
            refine v_iret dX3_join_106 rfl ?_
            refine ⟨congrArg (fun x => some (Value.int x)) ?_, ⟨c, r, hr0⟩, kq_rf M⟩
            rw [(cjQ_hit c77).1, if_pos c82]
            show _ = (if w = 0 then nI a else if w = nI 1 then nI q else nI (loF (boF T a q)))
            have hlo := (cjQ_hit (k := k) (d := d) (m := m) c77).2
            first
            | rw [if_pos c86]
            | rw [if_neg c86, if_pos c96]
            | rw [if_neg c86, if_neg c96, hlo]
        · refine v_iload dX3_join_89 rfl ?_
          refine v_goto (tgt := 106) dX3_join_91 (by decide) ?_
          refine v_iret dX3_join_106 rfl ?_
          refine ⟨congrArg (fun x => some (Value.int x)) ?_, ⟨c, r, hr0⟩, kq_rf M⟩
          rw [(cjQ_hit c77).1, if_pos c82]
          show _ = (if w = 0 then nI a else if w = nI 1 then nI q else nI (loF (boF T a q)))
          have hlo := (cjQ_hit (k := k) (d := d) (m := m) c77).2
          first
          | rw [if_pos c86]
          | rw [if_neg c86, if_pos c96]
          | rw [if_neg c86, if_neg c96, hlo]
set_option maxRecDepth 100000 in
theorem l_kj1 (hr : CLS c r M T R P Im tx t) (hW : WF T) {k w : Int32} (hk1 : (-1 : Int32) ≤ k) (d : Nat) : ∀ (a : Nat) (m : Nat), a + d = nN T → V kX3_join (cA M (jA T k w (jR T k d a m)) T R P Im tx t) M 30 [(0, .ref 0), (1, .int k), (2, .int w), (3, .int (nI m)), (4, .int (nI a))] [] := by
  have h16 := hW.n16
  have hr0 := hr
  obtain ⟨hc, hcc, hce, ⟨h, hd⟩, hm, hp, hi, hx0⟩ := hr
  have ho24 : mo 24 := Or.inl (Or.inl rfl)
  induction d with
  | zero =>
    intro a m hk 
    refine v_iload dX3_join_30 rfl ?_
    refine v_aload_n dX3_join_32 rfl ?_
    refine v_getD (t := c) dX3_join_33 fl_X3_19 ⟨by decide, rfl, by decide⟩ rfl (hcc) (by omega) ?_
    refine v_getI2 (y := (nI (nN T))) dX3_join_36 fl_X3_131 (ob_c hc) rfl (h.nd) ?_
    refine v_icmpN_ge (tgt := 122) dX3_join_39 (by decide) (by omega) (by omega) (fun c39 => ?_) (fun c39 => (by omega))
    refine v_iload_n dX3_join_122 rfl ?_
    refine v_iconst (v := (-1)) dX3_join_123 (by decide) ?_
    refine v_icmp_ne (tgt := 131) dX3_join_124 (by decide) (fun c124 => ?_) (fun c124 => ?_)
    · refine v_bipush (v := (-9)) dX3_join_131 (by decide) ?_
      refine v_iret dX3_join_133 rfl ?_
      refine ⟨congrArg (fun x => some (Value.int x)) ?_, ⟨c, r, hr0⟩, kq_rf M⟩
      show _ = (if k < 0 then nI m else (-9))
      rcases m1_or hk1 with q | q
      · simp [q, show (-1 : Int32) < 0 by decide, *] at *
      · have : ¬ k = (-1) := fun e => q.2 (by rw [e]; decide)
        simp [q.2, *] at *
    · refine v_iload_n dX3_join_127 rfl ?_
      refine v_goto (tgt := 133) dX3_join_128 (by decide) ?_
      refine v_iret dX3_join_133 rfl ?_
      refine ⟨congrArg (fun x => some (Value.int x)) ?_, ⟨c, r, hr0⟩, kq_rf M⟩
      show _ = (if k < 0 then nI m else (-9))
      rcases m1_or hk1 with q | q
      · simp [q, show (-1 : Int32) < 0 by decide, *] at *
      · have : ¬ k = (-1) := fun e => q.2 (by rw [e]; decide)
        simp [q.2, *] at *
  | succ d ih =>
    intro a m hk 
    refine v_iload dX3_join_30 rfl ?_
    refine v_aload_n dX3_join_32 rfl ?_
    refine v_getD (t := c) dX3_join_33 fl_X3_19 ⟨by decide, rfl, by decide⟩ rfl (hcc) (by omega) ?_
    refine v_getI2 (y := (nI (nN T))) dX3_join_36 fl_X3_131 (ob_c hc) rfl (h.nd) ?_
    refine v_icmpN_ge (tgt := 122) dX3_join_39 (by decide) (by omega) (by omega) (fun c39 => (by omega)) (fun c39 => ?_)
    refine v_iload dX3_join_42 rfl ?_
    refine v_iconst (v := (nI 1)) dX3_join_44 rfl ?_
    refine v_iaddN dX3_join_45 ?_
    refine v_istore (lv' := [(0, .ref 0), (1, .int k), (2, .int w), (3, .int (nI m)), (4, .int (nI a)), (5, .int (nI (a + 1)))]) dX3_join_46 (Nat.le_of_ble_eq_true rfl) rfl ?_
    rw [jC_eq]
    exact l_kj2 hr0 hW (by omega) (fun m => ih (a + 1) m (by omega)) (nN T - (a + 1)) (a + 1) m (by omega)
theorem le0 {w : Int32} (h1 : ¬ w < 0) (h2 : w ≤ nI 0) : w = 0 := Int32.le_antisymm h2 (Int32.not_lt.mp h1)
theorem jn_ok {k w : Int32} (h1 : ¬ k < (-1)) (h2 : ¬ w < 0) (h3 : ¬ nI 2 < w) (h4 : ¬ k = (-1) ∨ w = 0) : jnA T k w = joinF T k w := by
  unfold jnA
  rw [if_neg h1, if_pos]
  refine ⟨Int32.not_lt.mp h2, ?_⟩
  rcases m1_or (Int32.not_lt.mp h1) with q | q
  · rcases h4 with h4 | h4
    · exact absurd q h4
    · rw [h4, q]; decide
  · rw [if_pos q.1]; exact Int32.not_lt.mp h3
theorem jn_no {k w : Int32} (h : k < (-1) ∨ w < 0 ∨ nI 2 < w ∨ (k = (-1) ∧ ¬ w = 0)) : jnA T k w = (-1) := by
  unfold jnA
  by_cases h1 : k < (-1)
  · rw [if_pos h1]
  · rw [if_neg h1, if_neg]
    rintro ⟨q1, q2⟩
    rcases h with h | h | h | h
    · exact h1 h
    · exact absurd h (Int32.not_lt.mpr q1)
    · by_cases hk : (0 : Int32) ≤ k
      · rw [if_pos hk] at q2; exact absurd h (Int32.not_lt.mpr q2)
      · rw [if_neg hk] at q2; exact absurd h (Int32.not_lt.mpr (Int32.le_trans q2 (by decide)))
    · rw [h.1, if_neg (by decide)] at q2
      exact h.2 (le0 (Int32.not_lt.mpr q1) q2)
set_option maxRecDepth 100000 in
theorem k_join (hr : CLS c r M T R P Im tx t) (hW : WF T) (k w : Int32) : V kX3_join (cA M (jnA T k w) T R P Im tx t) M 0 [(0, .ref 0), (1, .int k), (2, .int w)] [] := by
  have h16 := hW.n16
  have hr0 := hr
  obtain ⟨hc, hcc, hce, ⟨h, hd⟩, hm, hp, hi, hx0⟩ := hr
  have ho24 : mo 24 := Or.inl (Or.inl rfl)
  refine v_iload_n dX3_join_0 rfl ?_
  refine v_iconst (v := (-1)) dX3_join_1 (by decide) ?_
  refine v_icmp_lt (tgt := 23) dX3_join_2 (by decide) (fun c2 => ?_) (fun c2 => ?_)
  · refine v_iconst (v := (-1)) dX3_join_23 (by decide) ?_
    refine v_iret dX3_join_24 rfl ?_
    refine ⟨congrArg (fun x => some (Value.int x)) ?_, ⟨c, r, hr0⟩, kq_rf M⟩
    first | exact (jn_no (Or.inl c2)).symm | exact (jn_no (Or.inr (Or.inl c6))).symm | exact (jn_no (Or.inr (Or.inr (Or.inl c11)))).symm | exact (jn_no (Or.inr (Or.inr (Or.inr ⟨c16, c20⟩)))).symm
  · refine v_iload_n dX3_join_5 rfl ?_
    refine v_if_lt (tgt := 23) dX3_join_6 (by decide) (fun c6 => ?_) (fun c6 => ?_)
    · refine v_iconst (v := (-1)) dX3_join_23 (by decide) ?_
      refine v_iret dX3_join_24 rfl ?_
      refine ⟨congrArg (fun x => some (Value.int x)) ?_, ⟨c, r, hr0⟩, kq_rf M⟩
      first | exact (jn_no (Or.inl c2)).symm | exact (jn_no (Or.inr (Or.inl c6))).symm | exact (jn_no (Or.inr (Or.inr (Or.inl c11)))).symm | exact (jn_no (Or.inr (Or.inr (Or.inr ⟨c16, c20⟩)))).symm
    · refine v_iload_n dX3_join_9 rfl ?_
      refine v_iconst (v := (nI 2)) dX3_join_10 rfl ?_
      refine v_icmp_gt (tgt := 23) dX3_join_11 (by decide) (fun c11 => ?_) (fun c11 => ?_)
      · refine v_iconst (v := (-1)) dX3_join_23 (by decide) ?_
        refine v_iret dX3_join_24 rfl ?_
        refine ⟨congrArg (fun x => some (Value.int x)) ?_, ⟨c, r, hr0⟩, kq_rf M⟩
        first | exact (jn_no (Or.inl c2)).symm | exact (jn_no (Or.inr (Or.inl c6))).symm | exact (jn_no (Or.inr (Or.inr (Or.inl c11)))).symm | exact (jn_no (Or.inr (Or.inr (Or.inr ⟨c16, c20⟩)))).symm
      · refine v_iload_n dX3_join_14 rfl ?_
        refine v_iconst (v := (-1)) dX3_join_15 (by decide) ?_
        refine v_icmp_ne (tgt := 25) dX3_join_16 (by decide) (fun c16 => ?_) (fun c16 => ?_)
        · refine v_iconst (v := (nI 0)) dX3_join_25 rfl ?_
          refine v_istore_n (lv' := [(0, .ref 0), (1, .int k), (2, .int w), (3, .int (nI 0))]) dX3_join_26 (Nat.le_of_ble_eq_true rfl) rfl ?_
          refine v_iconst (v := (nI 0)) dX3_join_27 rfl ?_
          refine v_istore (lv' := [(0, .ref 0), (1, .int k), (2, .int w), (3, .int (nI 0)), (4, .int (nI 0))]) dX3_join_28 (Nat.le_of_ble_eq_true rfl) rfl ?_
          first | rw [jn_ok c2 c6 c11 (Or.inl c16)] | rw [jn_ok c2 c6 c11 (Or.inr c20)]
          exact l_kj1 hr0 hW (Int32.not_lt.mp c2) (nN T) 0 0 (by omega)
        · refine v_iload_n dX3_join_19 rfl ?_
          refine v_if_eq (tgt := 25) dX3_join_20 (by decide) (fun c20 => ?_) (fun c20 => ?_)
          · refine v_iconst (v := (nI 0)) dX3_join_25 rfl ?_
            refine v_istore_n (lv' := [(0, .ref 0), (1, .int k), (2, .int w), (3, .int (nI 0))]) dX3_join_26 (Nat.le_of_ble_eq_true rfl) rfl ?_
            refine v_iconst (v := (nI 0)) dX3_join_27 rfl ?_
            refine v_istore (lv' := [(0, .ref 0), (1, .int k), (2, .int w), (3, .int (nI 0)), (4, .int (nI 0))]) dX3_join_28 (Nat.le_of_ble_eq_true rfl) rfl ?_
            first | rw [jn_ok c2 c6 c11 (Or.inl c16)] | rw [jn_ok c2 c6 c11 (Or.inr c20)]
            exact l_kj1 hr0 hW (Int32.not_lt.mp c2) (nN T) 0 0 (by omega)
          · refine v_iconst (v := (-1)) dX3_join_23 (by decide) ?_
            refine v_iret dX3_join_24 rfl ?_
            refine ⟨congrArg (fun x => some (Value.int x)) ?_, ⟨c, r, hr0⟩, kq_rf M⟩
            first | exact (jn_no (Or.inl c2)).symm | exact (jn_no (Or.inr (Or.inl c6))).symm | exact (jn_no (Or.inr (Or.inr (Or.inl c11)))).symm | exact (jn_no (Or.inr (Or.inr (Or.inr ⟨c16, c20⟩)))).symm
end C50
