section R36
variable {M M0 : vM} {T R tx : Nat → Int32} {P : List (Nat → Int32)} {Im : Nat → Option (Nat → Int32)} {t : Nat}
set_option maxRecDepth 100000 in
theorem l_begin {q : Nat} (hq : q = 61 ∨ q = 62) (d : Nat) : ∀ (k : Nat) (M : vM), k + d = 97 → (∀ i, i ≠ q → M i = M0 i) → (∀ j, j < k → M q j = nI 0) → V kX4_begin (rv (mrow M0 q b0)) M 2 [(0, .ref q), (1, .int (nI k))] [] := by
  induction d with
  | zero =>
    intro k M hk hz h1
    refine v_iload_n dX4_begin_2 rfl ?_
    refine v_bipush (v := (nI 97)) dX4_begin_3 rfl ?_
    refine v_icmpN_ge (tgt := 18) dX4_begin_5 (by decide) (by omega) (by omega) (fun c5 => ?_) (fun c5 => (by omega))
    refine v_aload_n dX4_begin_18 rfl ?_
    refine v_bipush (v := (nI 92)) dX4_begin_19 rfl ?_
    refine v_iconst (v := (nI 2)) dX4_begin_21 rfl ?_
    refine v_iast (n := 97) (a := 92) dX4_begin_22 (ar_t hq) (rfl) (by omega) ?_
    refine v_aload_n dX4_begin_23 rfl ?_
    refine v_bipush (v := (nI 93)) dX4_begin_24 rfl ?_
    refine v_iconst (v := (nI 3)) dX4_begin_26 rfl ?_
    refine v_iast (n := 97) (a := 93) dX4_begin_27 (ar_t hq) (rfl) (by omega) ?_
    refine v_aload_n dX4_begin_28 rfl ?_
    refine v_bipush (v := (nI 94)) dX4_begin_29 rfl ?_
    refine v_iconst (v := (nI 5)) dX4_begin_31 rfl ?_
    refine v_iast (n := 97) (a := 94) dX4_begin_32 (ar_t hq) (rfl) (by omega) ?_
    refine v_row (ar_t hq) (by decide) (by decide) b0 (fun j hj => ?_) ?_
    · unfold b0
      rw [mup_eq]; simp only [upd]
      by_cases e94 : j = 94
      · rw [if_pos e94, if_neg (by omega), if_neg (by omega), if_pos e94]
      · rw [if_neg e94, mup_eq]; simp only [upd]
        by_cases e93 : j = 93
        · rw [if_pos e93, if_neg (by omega), if_pos e93]
        · rw [if_neg e93, mup_eq]; simp only [upd]
          by_cases e92 : j = 92
          · rw [if_pos e92, if_pos e92]
          · rw [if_neg e92, if_neg e92, if_neg e93, if_neg e94]; exact h1 j (by omega)
    refine v_vret dX4_begin_33 rfl ?_
    refine ⟨rfl, ?_⟩
    funext i
    by_cases e : i = q
    · rw [e, mrow_eq, mrow_eq]
    · rw [mrow_ne e, mrow_ne e, mup_ne e, mup_ne e, mup_ne e]; exact hz i e
  | succ d ih =>
    intro k M hk hz h1
    refine v_iload_n dX4_begin_2 rfl ?_
    refine v_bipush (v := (nI 97)) dX4_begin_3 rfl ?_
    refine v_icmpN_ge (tgt := 18) dX4_begin_5 (by decide) (by omega) (by omega) (fun c5 => (by omega)) (fun c5 => ?_)
    refine v_aload_n dX4_begin_8 rfl ?_
    refine v_iload_n dX4_begin_9 rfl ?_
    refine v_iconst (v := (nI 0)) dX4_begin_10 rfl ?_
    refine v_iast (n := 97) (a := k) dX4_begin_11 (ar_t hq) (rfl) (by omega) ?_
    refine v_iincN (lv' := [(0, .ref q), (1, .int (nI (k + 1)))]) dX4_begin_12 rfl (Nat.le_of_ble_eq_true rfl) rfl ?_
    refine v_goto (tgt := 2) dX4_begin_15 (by decide) ?_
    refine ih (k + 1) _ (by omega) (fun a h9 => (mup_ne h9).trans (hz a h9)) (fun j h9 => ?_)
    rw [mup_eq]; simp only [upd]
    by_cases h8 : j = k
    · rw [if_pos h8]
    · rw [if_neg h8]; exact h1 j (by omega)
set_option maxRecDepth 100000 in
theorem c_begin {q : Nat} (hq : q = 61 ∨ q = 62) : V kX4_begin (rv (mrow M0 q b0)) M0 0 [(0, .ref q)] [] := by
  refine v_iconst (v := (nI 0)) dX4_begin_0 rfl ?_
  refine v_istore_n (lv' := [(0, .ref q), (1, .int (nI 0))]) dX4_begin_1 (Nat.le_of_ble_eq_true rfl) rfl ?_
  exact l_begin hq 97 0 M0 (by omega) (fun _ _ => rfl) (fun j h => absurd h (by omega))
set_option maxRecDepth 100000 in
theorem l_start  (d : Nat) : ∀ (k : Nat) (M : vM), k + d = 36 → (∀ i, i ≠ 63 → M i = M0 i) → (∀ j, j < k → M 63 j = nI 0) → V kX4_start (fun v M' => v = none ∧ M' 63 = s0R ∧ M' 60 5 = nI 0 ∧ (M' 67 0 = nI 0 ∧ M' 67 1 = nI 0) ∧ (∀ i, i ≠ 60 → i ≠ 63 → i ≠ 67 → M' i = M0 i) ∧ ∀ j, j ≠ 5 → M' 60 j = M0 60 j) M 2 [(0, .ref 60), (1, .int (nI k))] [] := by
  induction d with
  | zero =>
    intro k M hk hz h1
    refine v_iload_n dX4_start_2 rfl ?_
    refine v_bipush (v := (nI 36)) dX4_start_3 rfl ?_
    refine v_icmpN_ge (tgt := 21) dX4_start_5 (by decide) (by omega) (by omega) (fun c5 => ?_) (fun c5 => (by omega))
    refine v_aload_n dX4_start_21 rfl ?_
    refine v_getR (t := 63) dX4_start_22 fl_X4_16 ⟨by decide, rfl, by decide⟩ rfl rfl ?_
    refine v_iconst (v := (nI 0)) dX4_start_25 rfl ?_
    refine v_iconst (v := (nI 2)) dX4_start_26 rfl ?_
    refine v_iast (n := 36) (a := 0) dX4_start_27 ⟨by decide, rfl, rfl⟩ (rfl) (by omega) ?_
    refine v_row (t := 10) (i := 63) (n := 36) ⟨by decide, rfl, rfl⟩ (by decide) (by decide) s0R (fun j hj => ?_) ?_
    · unfold s0R
      rw [mup_eq]; simp only [upd]
      by_cases e : j = 0
      · rw [if_pos e, if_pos e]
      · rw [if_neg e, if_neg e]; exact h1 j (by omega)
    refine v_aload_n dX4_start_28 rfl ?_
    refine v_iconst (v := (nI 0)) dX4_start_29 rfl ?_
    refine v_putI dX4_start_30 fl_X4_48 ⟨by decide, rfl, by decide⟩ rfl rfl rfl ?_
    refine v_aload_n dX4_start_33 rfl ?_
    refine v_getR (t := 67) dX4_start_34 fl_X4_28 ⟨by decide, rfl, by decide⟩ rfl rfl ?_
    refine v_iconst (v := (nI 0)) dX4_start_37 rfl ?_
    refine v_iconst (v := (nI 0)) dX4_start_38 rfl ?_
    refine v_zast (n := 2) (a := 0) dX4_start_39 ⟨by decide, rfl, rfl⟩ (rfl) (by omega) ?_
    refine v_aload_n dX4_start_40 rfl ?_
    refine v_getR (t := 67) dX4_start_41 fl_X4_28 ⟨by decide, rfl, by decide⟩ rfl rfl ?_
    refine v_iconst (v := (nI 1)) dX4_start_44 rfl ?_
    refine v_iconst (v := (nI 0)) dX4_start_45 rfl ?_
    refine v_zast (n := 2) (a := 1) dX4_start_46 ⟨by decide, rfl, rfl⟩ (rfl) (by omega) ?_
    refine v_vret dX4_start_47 rfl ?_
    refine ⟨rfl, ?_, ?_, ⟨?_, ?_⟩, fun i a b c => ?_, fun j hj => ?_⟩
    · simp [mup, mrow]
    · simp [mup, mrow, upd]
    · simp [mup, mrow, upd]; rfl
    · simp [mup, mrow, upd]; rfl
    · simp [mup, mrow, a, b, c]; exact hz i b
    · simp [mup, mrow, upd, hj]; exact congrFun (hz 60 (by decide)) j
  | succ d ih =>
    intro k M hk hz h1
    refine v_iload_n dX4_start_2 rfl ?_
    refine v_bipush (v := (nI 36)) dX4_start_3 rfl ?_
    refine v_icmpN_ge (tgt := 21) dX4_start_5 (by decide) (by omega) (by omega) (fun c5 => (by omega)) (fun c5 => ?_)
    refine v_aload_n dX4_start_8 rfl ?_
    refine v_getR (t := 63) dX4_start_9 fl_X4_16 ⟨by decide, rfl, by decide⟩ rfl rfl ?_
    refine v_iload_n dX4_start_12 rfl ?_
    refine v_iconst (v := (nI 0)) dX4_start_13 rfl ?_
    refine v_iast (n := 36) (a := k) dX4_start_14 ⟨by decide, rfl, rfl⟩ (rfl) (by omega) ?_
    refine v_iincN (lv' := [(0, .ref 60), (1, .int (nI (k + 1)))]) dX4_start_15 rfl (Nat.le_of_ble_eq_true rfl) rfl ?_
    refine v_goto (tgt := 2) dX4_start_18 (by decide) ?_
    refine ih (k + 1) _ (by omega) (fun a h9 => (mup_ne h9).trans (hz a h9)) (fun j h9 => ?_)
    rw [mup_eq]; simp only [upd]
    by_cases h8 : j = k
    · rw [if_pos h8]
    · rw [if_neg h8]; exact h1 j (by omega)
set_option maxRecDepth 100000 in
theorem c_start  : V kX4_start (fun v M' => v = none ∧ M' 63 = s0R ∧ M' 60 5 = nI 0 ∧ (M' 67 0 = nI 0 ∧ M' 67 1 = nI 0) ∧ (∀ i, i ≠ 60 → i ≠ 63 → i ≠ 67 → M' i = M0 i) ∧ ∀ j, j ≠ 5 → M' 60 j = M0 60 j) M0 0 [(0, .ref 60)] [] := by
  refine v_iconst (v := (nI 0)) dX4_start_0 rfl ?_
  refine v_istore_n (lv' := [(0, .ref 60), (1, .int (nI 0))]) dX4_start_1 (Nat.le_of_ble_eq_true rfl) rfl ?_
  exact l_start 36 0 M0 (by omega) (fun _ _ => rfl) (fun j h => absurd h (by omega))
set_option maxRecDepth 100000 in
theorem l_tel2 {D : Nat → Int32} {m : Nat} (d : Nat) : ∀ (k : Nat) (M : vM), k + d = 97 → (∀ i, i ≠ 60 → i ≠ 62 → i ≠ 61 → M i = M0 i) → M 62 = D → (∀ j, j < k → M 61 j = D j) → V kX4_tells (rA M0 (nI m) D s0R [] (fun _ => none) tx 0) M 69 [(0, .ref 60), (1, .int (nI m)), (2, .int (nI k))] [] := by
  induction d with
  | zero =>
    intro k M hk hz h62 h1
    refine v_iload_n dX4_tells_69 rfl ?_
    refine v_bipush (v := (nI 97)) dX4_tells_70 rfl ?_
    refine v_icmpN_ge (tgt := 93) dX4_tells_72 (by decide) (by omega) (by omega) (fun c72 => ?_) (fun c72 => (by omega))
    refine v_row (t := 10) (i := 61) (n := 97) ⟨by decide, rfl, rfl⟩ (by decide) (by decide) D (fun j hj => h1 j (by omega)) ?_
    refine v_aload_n dX4_tells_93 rfl ?_
    refine v_iconst (v := (nI 0)) dX4_tells_94 rfl ?_
    refine v_putI dX4_tells_95 fl_X4_185 ⟨by decide, rfl, by decide⟩ rfl rfl rfl ?_
    refine v_aload_n dX4_tells_98 rfl ?_
    refine v_callV (as := []) (st := []) dX4_tells_99 ml_X4_45 kv_X4_start ⟨by decide, rfl, by decide⟩ ⟨(Nat.le_of_ble_eq_true rfl), (Nat.le_of_ble_eq_true rfl)⟩ rfl (Nat.le_of_ble_eq_true rfl) rfl (Nat.le_of_ble_eq_true rfl) (c_start) (fun v M9 hq => ?_)
    obtain ⟨rfl, g1, g2, g3, g4, g5⟩ := hq
    refine v_iload_n dX4_tells_102 rfl ?_
    refine v_iret dX4_tells_103 rfl ?_
    have hzD := hz
    refine ⟨rfl, ⟨?_, g1, ⟨by rw [g2]; rfl, fun i hi => absurd hi (by simp)⟩, fun i hi => ⟨fun _ => ?_, fun r e => by cases e⟩, ⟨?_, fun j hj => absurd hj (by omega)⟩⟩, fun i hi => ?_⟩
    · rw [g4 61 (by decide) (by decide) (by decide), mup_ne (by decide), mrow_eq]
    · rcases (show i = 0 ∨ i = 1 by omega) with rfl | rfl
      · exact g3.1
      · exact g3.2
    · rw [g5 11 (by decide), mup_eq]; simp [upd]
    · rw [g4 i (by omega) (by omega) (by omega), mup_ne (by omega), mrow_ne (by omega)]; exact hz i (by omega) (by omega) (by omega)
  | succ d ih =>
    intro k M hk hz h62 h1
    refine v_iload_n dX4_tells_69 rfl ?_
    refine v_bipush (v := (nI 97)) dX4_tells_70 rfl ?_
    refine v_icmpN_ge (tgt := 93) dX4_tells_72 (by decide) (by omega) (by omega) (fun c72 => (by omega)) (fun c72 => ?_)
    refine v_aload_n dX4_tells_75 rfl ?_
    refine v_getR (t := 61) dX4_tells_76 fl_X4_7 ⟨by decide, rfl, by decide⟩ rfl rfl ?_
    refine v_iload_n dX4_tells_79 rfl ?_
    refine v_aload_n dX4_tells_80 rfl ?_
    refine v_getR (t := 62) dX4_tells_81 fl_X4_13 ⟨by decide, rfl, by decide⟩ rfl rfl ?_
    refine v_iload_n dX4_tells_84 rfl ?_
    refine v_iald2 (n := 97) (a := k) (y := (D k)) dX4_tells_85 ⟨by decide, rfl, rfl⟩ (rfl) (by omega) (congrFun h62 k) ?_
    refine v_iast (n := 97) (a := k) dX4_tells_86 ⟨by decide, rfl, rfl⟩ (rfl) (by omega) ?_
    refine v_iincN (lv' := [(0, .ref 60), (1, .int (nI m)), (2, .int (nI (k + 1)))]) dX4_tells_87 rfl (Nat.le_of_ble_eq_true rfl) rfl ?_
    refine v_goto (tgt := 69) dX4_tells_90 (by decide) ?_
    refine ih (k + 1) _ (by omega) (fun a g1 g2 g3 => (mup_ne g3).trans (hz a g1 g2 g3)) (by rw [mup_ne (by decide)]; exact h62) (fun j h9 => ?_)
    rw [mup_eq]; simp only [upd]
    by_cases h8 : j = k
    · rw [if_pos h8, h8]
    · rw [if_neg h8]; exact h1 j (by omega)
set_option maxRecDepth 100000 in
theorem l_telF (hr : REF M0 T R P Im tx t) (ho : xOK tx t) {D : Nat → Int32} {q a m : Nat} (hp : PS M0 M tx t (D, (q, some a))) : V kX4_tells (rA M0 ((-10) - nI a) T R P Im tx t) M 24 [(0, .ref 60), (1, .int (nI m))] [] := by
  have ht := ho.1
  have ha : a ≤ t := hp.2.2.2.2.2.2 a rfl
  refine v_aload_n dX4_tells_24 rfl ?_
  refine v_getI2 (y := (nI a)) dX4_tells_25 fl_X4_203 ⟨by decide, rfl, by decide⟩ rfl (by rw [hp.2.2.2.1]; rfl) ?_
  refine v_bipush (v := (-9)) dX4_tells_28 (by decide) ?_
  refine v_icmp_ne (tgt := 50) dX4_tells_30 (by decide) (fun c30 => ?_) (fun c30 => (absurd c30 (fun z9 => absurd (nI_pos' (n := a) (by omega)) (by rw [z9]; decide))))
  refine v_aload_n dX4_tells_50 rfl ?_
  refine v_getI2 (y := (nI a)) dX4_tells_51 fl_X4_203 ⟨by decide, rfl, by decide⟩ rfl (by rw [hp.2.2.2.1]; rfl) ?_
  refine v_bipush (v := (-9)) dX4_tells_54 (by decide) ?_
  refine v_icmp_eq (tgt := 67) dX4_tells_56 (by decide) (fun c56 => (absurd c56 (fun z9 => absurd (nI_pos' (n := a) (by omega)) (by rw [z9]; decide)))) (fun c56 => ?_)
  refine v_bipush (v := (-10)) dX4_tells_59 (by decide) ?_
  refine v_aload_n dX4_tells_61 rfl ?_
  refine v_getI2 (y := (nI a)) dX4_tells_62 fl_X4_203 ⟨by decide, rfl, by decide⟩ rfl (by rw [hp.2.2.2.1]; rfl) ?_
  refine v_isub dX4_tells_65 ?_
  refine v_iret dX4_tells_66 rfl ?_
  exact ⟨rfl, REF_ps hr hp.1 (fun j hj => hp.2.1 j (by omega)), fun i hi => hp.1 i (by omega) (by omega)⟩
set_option maxRecDepth 100000 in
theorem l_tel (hr : REF M0 T R P Im tx t) (ho : xOK tx t) (d : Nat) : ∀ (D : Nat → Int32) (q m : Nat) (M : vM), t - q < d → PS M0 M tx t (D, (q, none)) → WD D → V kX4_tells (telQ M0 T R P Im tx t (prN (uF tx) t d D q m)) M 24 [(0, .ref 60), (1, .int (nI m))] [] := by
  have ht := ho.1
  induction d with
  | zero => intro D q m M h; omega
  | succ d ih =>
    intro D q m M hlt hp hD
    refine v_aload_n dX4_tells_24 rfl ?_
    refine v_getI2 (y := ((-9))) dX4_tells_25 fl_X4_203 ⟨by decide, rfl, by decide⟩ rfl (hp.2.2.2.1) ?_
    refine v_bipush (v := (-9)) dX4_tells_28 (by decide) ?_
    refine v_icmp_ne (tgt := 50) dX4_tells_30 (by decide) (fun c30 => (absurd rfl c30)) (fun c30 => ?_)
    refine v_aload_n dX4_tells_33 rfl ?_
    refine v_getI2 (y := (nI (tTk (uF tx) t q))) dX4_tells_34 fl_X4_197 ⟨by decide, rfl, by decide⟩ rfl (hp.2.2.1.2.2.1) ?_
    refine v_ifN_eq (tgt := 50) dX4_tells_37 (by decide) (by have := tTk_b (uF tx) t q; omega) (fun c37 => ?_) (fun c37 => ?_)
    · rw [show prN (uF tx) t (d + 1) D q m = .inr (D, m) by simp only [prN]; rw [if_pos c37]]
      refine v_aload_n dX4_tells_50 rfl ?_
      refine v_getI2 (y := ((-9))) dX4_tells_51 fl_X4_203 ⟨by decide, rfl, by decide⟩ rfl (hp.2.2.2.1) ?_
      refine v_bipush (v := (-9)) dX4_tells_54 (by decide) ?_
      refine v_icmp_eq (tgt := 67) dX4_tells_56 (by decide) (fun c56 => ?_) (fun c56 => (absurd rfl c56))
      refine v_iconst (v := (nI 0)) dX4_tells_67 rfl ?_
      refine v_istore_n (lv' := [(0, .ref 60), (1, .int (nI m)), (2, .int (nI 0))]) dX4_tells_68 (Nat.le_of_ble_eq_true rfl) rfl ?_
      exact l_tel2 97 0 M (by omega) (fun i a b _ => hp.1 i a b) hp.2.2.2.2.1 (fun j h => absurd h (by omega))
    · refine v_aload_n dX4_tells_40 rfl ?_
      refine v_callV (as := []) (st := []) dX4_tells_41 ml_X4_230 kv_X4_readItem ⟨by decide, rfl, by decide⟩ ⟨(Nat.le_of_ble_eq_true rfl), (Nat.le_of_ble_eq_true rfl)⟩ rfl (Nat.le_of_ble_eq_true rfl) rfl (Nat.le_of_ble_eq_true rfl) (c_readItem hr.2.2.2.2 ho hp hD.1) (fun v M1 hq => ?_)
      obtain ⟨rfl, hp1⟩ := hq
      refine v_iincN (lv' := [(0, .ref 60), (1, .int (nI (m + 1)))]) dX4_tells_44 rfl (Nat.le_of_ble_eq_true rfl) rfl ?_
      refine v_goto (tgt := 24) dX4_tells_47 (by decide) ?_
      cases hf : (itR (uF tx) t D q).2.2 with
      | some a =>
        have hp2 : PS M0 M1 tx t ((itR (uF tx) t D q).1, ((itR (uF tx) t D q).2.1, some a)) := by rw [← hf]; exact hp1
        rw [show prN (uF tx) t (d + 1) D q m = .inl a by simp only [prN]; rw [if_neg c37, hf]]
        exact l_telF hr ho hp2
      | none =>
        have hp2 : PS M0 M1 tx t ((itR (uF tx) t D q).1, ((itR (uF tx) t D q).2.1, none)) := by rw [← hf]; exact hp1
        have hg := itR_gt hp.2.2.2.2.2.1 c37 hf
        rw [show prN (uF tx) t (d + 1) D q m = prN (uF tx) t d (itR (uF tx) t D q).1 (itR (uF tx) t D q).2.1 (m + 1) by simp only [prN]; rw [if_neg c37, hf]]
        exact ih _ _ _ _ (by simp only at hg; omega) hp2 (itR_WD hD hf)
set_option maxRecDepth 100000 in
theorem c_tells (hr : REF M0 T R P Im tx t) (ho : xOK tx t) : V kX4_tells (telQ M0 T R P Im tx t (prF tx t)) M0 0 [(0, .ref 60)] [] := by
  have ht := ho.1
  refine v_aload_n dX4_tells_0 rfl ?_
  refine v_getR (t := 62) dX4_tells_1 fl_X4_13 ⟨by decide, rfl, by decide⟩ rfl rfl ?_
  refine v_callSv (M1 := mrow M0 62 b0) (as := [.ref 62]) (st := []) dX4_tells_4 ml_X4_41 ks_X4_begin ⟨(Nat.le_of_ble_eq_true rfl), (Nat.le_of_ble_eq_true rfl)⟩ rfl (Nat.le_of_ble_eq_true rfl) rfl (Nat.le_of_ble_eq_true rfl) (c_begin (Or.inr rfl)) ?_
  refine v_aload_n dX4_tells_7 rfl ?_
  refine v_iconst (v := (nI 0)) dX4_tells_8 rfl ?_
  refine v_putI dX4_tells_9 fl_X4_188 ⟨by decide, rfl, by decide⟩ rfl rfl rfl ?_
  refine v_aload_n dX4_tells_12 rfl ?_
  refine v_bipush (v := (-9)) dX4_tells_13 (by decide) ?_
  refine v_putI dX4_tells_15 fl_X4_203 ⟨by decide, rfl, by decide⟩ rfl rfl rfl ?_
  refine v_iconst (v := (nI 0)) dX4_tells_18 rfl ?_
  refine v_istore_n (lv' := [(0, .ref 60), (1, .int (nI 0))]) dX4_tells_19 (Nat.le_of_ble_eq_true rfl) rfl ?_
  refine v_aload_n dX4_tells_20 rfl ?_
  refine v_callV (as := []) (st := []) dX4_tells_21 ml_X4_206 kv_X4_next ⟨by decide, rfl, by decide⟩ ⟨(Nat.le_of_ble_eq_true rfl), (Nat.le_of_ble_eq_true rfl)⟩ rfl (Nat.le_of_ble_eq_true rfl) rfl (Nat.le_of_ble_eq_true rfl) (c_next (M0 := mup (mup (mrow M0 62 b0) 60 12 (nI 0)) 60 16 (-9)) (xR_c hr.2.2.2.2 (by simp [mup, mrow, upd]) (by simp [mup, mrow])) ho (nz_rf _) (by simp [mup, upd]) (Nat.zero_le _)) (fun v M1 hq => ?_)
  obtain ⟨rfl, g1, g2⟩ := hq
  refine l_tel hr ho (t + 1) b0 0 0 M1 (by omega) ⟨fun i a b => ?_, fun j hj => ?_, g2, ?_, ?_, Nat.zero_le _, fun a ha => by cases ha⟩ b0_WD
  · rw [g1.1 i a, mup_ne a, mup_ne a, mrow_ne b]
  · rw [g1.2 j (by omega), mup_eq]; simp only [upd]; rw [if_neg (by omega), mup_eq]; simp only [upd]; rw [if_neg (by omega), mrow_ne (by decide)]
  · rw [g1.2 16 (by decide), mup_eq]; simp [upd, oI]
  · rw [g1.1 62 (by decide), mup_ne (by decide), mup_ne (by decide), mrow_eq]
end R36
