section C58
variable {M M0 : vM} {c r : Nat} {T R tx : Nat → Int32} {P : List (Nat → Int32)} {Im : Nat → Option (Nat → Int32)} {t : Nat}
theorem neg10 : ∀ a, a < 161 → ¬ (0 : Int32) ≤ (-10) - nI a := by decide +kernel
theorem CLS_ci {M' : vM} (h : CLS c r M T R P Im tx t) (e : ci (18 - c) M M') : CLS c r M' T R P Im tx t ∧ kq M M' := by
  obtain ⟨hc, h1, h2, h3, h4, h5, h6, h7⟩ := h
  have e0 : M' 0 = M 0 := e.1 0 (by decide) (by decide) (by omega)
  refine ⟨⟨hc, by rw [e0]; exact h1, by rw [e0]; exact h2, CIR_c h3 (fun i a b => e.1 i (by omega) (by omega) (by omega)), MOM_c h4 (e.1 _ (by decide) (by decide) (by omega)) (e.1 _ (by decide) (by decide) (by omega)) (e.1 _ (by decide) (by decide) (by omega)), cP_c h5 (by rw [e0]) (fun i a b => e.1 i (by omega) (by omega) (by omega)), cI_c h6 (fun i a b => e.1 i (by omega) (by omega) (by omega)), cX_c h7 (e.2 1 (by decide)) (e.1 2 (by decide) (by decide) (by omega))⟩, fun i a => e.1 i (by omega) (by omega) (by omega)⟩
/-- tells: the answer, and the state behind it -/
def ctQ (M0 : vM) (T R : Nat → Int32) (P : List (Nat → Int32)) (Im : Nat → Option (Nat → Int32)) (tx : Nat → Int32) (t : Nat) : Nat ⊕ ((Nat → Int32) × Nat) → Option Value → vM → Prop
  | .inl a => cA M0 ((-10) - nI a) T R P Im tx t
  | .inr (D, m) => cA M0 (nI m) D s0R [] (fun _ => none) tx 0
set_option maxRecDepth 100000 in
theorem k_tellsF (hr : CLS c r M T R P Im tx t) (ho : xOK tx t) {a : Nat} (hf : prF tx t = .inl a) : V kX3_tells (cA M ((-10) - nI a) T R P Im tx t) M 0 [(0, .ref 0)] [] := by
  obtain ⟨hc, hcc, hce, ⟨h, hd⟩, hm, hp, hi, hx0⟩ := id hr
  have ho24 : mo 24 := Or.inl (Or.inl rfl)
  have hc2 : 18 - c = 4 ∨ 18 - c = 14 := by omega
  have ht := ho.1
  refine v_aload_n dX3_tells_0 rfl ?_
  refine v_getR (t := 1) dX3_tells_1 fl_X3_10 ⟨by decide, rfl, by decide⟩ rfl rfl ?_
  refine v_aload_n dX3_tells_4 rfl ?_
  refine v_getD (t := 18 - c) dX3_tells_5 fl_X3_23 ⟨by decide, rfl, by decide⟩ rfl (hce) (by omega) ?_
  refine v_callV (as := [.ref (18 - c)]) (st := []) dX3_tells_8 ml_X3_58 kv_X2_readInto ⟨by decide, rfl, by decide⟩ ⟨(Nat.le_of_ble_eq_true rfl), (Nat.le_of_ble_eq_true rfl)⟩ rfl (Nat.le_of_ble_eq_true rfl) rfl (Nat.le_of_ble_eq_true rfl) (c_rInto hc2 hx0 ho) (fun v M1 hq9 => ?_)
  rw [hf] at hq9
  obtain ⟨r1, rfl, r2⟩ := hq9
  refine v_istore_n (lv' := [(0, .ref 0), (1, .int ((-10) - nI a))]) dX3_tells_11 (Nat.le_of_ble_eq_true rfl) rfl ?_
  refine v_iload_n dX3_tells_12 rfl ?_
  refine v_if_ge (tgt := 18) dX3_tells_13 (by decide) (fun c13 => (absurd c13 (neg10 a (by omega)))) (fun c13 => ?_)
  refine v_iload_n dX3_tells_16 rfl ?_
  refine v_iret dX3_tells_17 rfl ?_
  exact ⟨rfl, ⟨c, r, (CLS_ci hr r1).1⟩, (CLS_ci hr r1).2⟩
set_option maxRecDepth 100000 in
theorem k_tellsO (hr : CLS c r M T R P Im tx t) (ho : xOK tx t) {D : Nat → Int32} {m : Nat} (hf : prF tx t = .inr (D, m)) : V kX3_tells (cA M (nI m) D s0R [] (fun _ => none) tx 0) M 0 [(0, .ref 0)] [] := by
  obtain ⟨hc, hcc, hce, ⟨h, hd⟩, hm, hp, hi, hx0⟩ := id hr
  have ho24 : mo 24 := Or.inl (Or.inl rfl)
  have hc2 : 18 - c = 4 ∨ 18 - c = 14 := by omega
  have ht := ho.1
  refine v_aload_n dX3_tells_0 rfl ?_
  refine v_getR (t := 1) dX3_tells_1 fl_X3_10 ⟨by decide, rfl, by decide⟩ rfl rfl ?_
  refine v_aload_n dX3_tells_4 rfl ?_
  refine v_getD (t := 18 - c) dX3_tells_5 fl_X3_23 ⟨by decide, rfl, by decide⟩ rfl (hce) (by omega) ?_
  refine v_callV (as := [.ref (18 - c)]) (st := []) dX3_tells_8 ml_X3_58 kv_X2_readInto ⟨by decide, rfl, by decide⟩ ⟨(Nat.le_of_ble_eq_true rfl), (Nat.le_of_ble_eq_true rfl)⟩ rfl (Nat.le_of_ble_eq_true rfl) rfl (Nat.le_of_ble_eq_true rfl) (c_rInto hc2 hx0 ho) (fun v M1 hq9 => ?_)
  rw [hf] at hq9
  obtain ⟨r1, rfl, r2, r3, r4⟩ := hq9
  have e0 : M1 0 = M 0 := r1.1 0 (by decide) (by decide) (by omega)
  refine v_istore_n (lv' := [(0, .ref 0), (1, .int (nI m))]) dX3_tells_11 (Nat.le_of_ble_eq_true rfl) rfl ?_
  refine v_iload_n dX3_tells_12 rfl ?_
  refine v_ifN_ge (tgt := 18) dX3_tells_13 (by decide) (by omega) ?_
  refine v_aload_n dX3_tells_18 rfl ?_
  refine v_getD (t := 18 - c) dX3_tells_19 fl_X3_23 ⟨by decide, rfl, by decide⟩ rfl (by rw [e0]; exact hce) (by omega) ?_
  refine v_astore_n (lv' := [(0, .ref 0), (1, .int (nI m)), (2, .ref (18 - c))]) dX3_tells_22 (Nat.le_of_ble_eq_true rfl) rfl ?_
  refine v_aload_n dX3_tells_23 rfl ?_
  refine v_aload_n dX3_tells_24 rfl ?_
  refine v_getD (t := c) dX3_tells_25 fl_X3_19 ⟨by decide, rfl, by decide⟩ rfl (by rw [e0]; exact hcc) (by omega) ?_
  refine v_putD dX3_tells_28 fl_X3_23 ⟨by decide, rfl, by decide⟩ rfl rfl rfl (by omega) ?_
  refine v_aload_n dX3_tells_31 rfl ?_
  refine v_aload_n dX3_tells_32 rfl ?_
  refine v_putD dX3_tells_33 fl_X3_19 ⟨by decide, rfl, by decide⟩ rfl rfl rfl (by omega) ?_
  refine v_aload_n dX3_tells_36 rfl ?_
  refine v_getR (t := 1) dX3_tells_37 fl_X3_10 ⟨by decide, rfl, by decide⟩ rfl rfl ?_
  refine v_iconst (v := (nI 0)) dX3_tells_40 rfl ?_
  refine v_putI dX3_tells_41 fl_X3_54 ⟨by decide, rfl, by decide⟩ rfl rfl rfl ?_
  refine v_aload_n dX3_tells_44 rfl ?_
  refine v_getR (t := 24) dX3_tells_45 fl_X3_29 ⟨by decide, rfl, by decide⟩ rfl rfl ?_
  refine v_callV (as := []) (st := []) dX3_tells_48 ml_X3_62 kv_X1_begin ⟨by decide, rfl, by decide⟩ ⟨(Nat.le_of_ble_eq_true rfl), (Nat.le_of_ble_eq_true rfl)⟩ rfl (Nat.le_of_ble_eq_true rfl) rfl (Nat.le_of_ble_eq_true rfl) (c_mBegin ho24) (fun v M2 hq8 => ?_)
  obtain ⟨rfl, g1, g2, g3, g4⟩ := hq8
  refine v_aload_n dX3_tells_51 rfl ?_
  refine v_iconst (v := (nI 0)) dX3_tells_52 rfl ?_
  refine v_putI dX3_tells_53 fl_X3_65 ⟨by decide, rfl, by decide⟩ rfl rfl rfl ?_
  refine v_iconst (v := (nI 0)) dX3_tells_56 rfl ?_
  refine v_istore_n (lv' := [(0, .ref 0), (1, .int (nI m)), (2, .ref (18 - c)), (3, .int (nI 0))]) dX3_tells_57 (Nat.le_of_ble_eq_true rfl) rfl ?_
  refine v_iload_n dX3_tells_58 rfl ?_
  refine v_aload_n dX3_tells_59 rfl ?_
  refine v_getR (t := 59) dX3_tells_60 fl_X3_46 ⟨by decide, rfl, by decide⟩ rfl rfl ?_
  refine v_alen (t := 12) (n := 2) dX3_tells_63 ⟨by decide, rfl, rfl⟩ (by decide) ?_
  refine v_icmpN_ge (tgt := 80) dX3_tells_64 (by decide) (by omega) (by decide) (fun c64 => (absurd c64 (by decide))) (fun c64 => ?_)
  refine v_aload_n dX3_tells_67 rfl ?_
  refine v_getR (t := 59) dX3_tells_68 fl_X3_46 ⟨by decide, rfl, by decide⟩ rfl rfl ?_
  refine v_iload_n dX3_tells_71 rfl ?_
  refine v_iconst (v := (nI 0)) dX3_tells_72 rfl ?_
  refine v_zast (n := 2) (a := 0) dX3_tells_73 ⟨by decide, rfl, rfl⟩ (rfl) (by omega) ?_
  refine v_iincN (lv' := [(0, .ref 0), (1, .int (nI m)), (2, .ref (18 - c)), (3, .int (nI (0 + 1)))]) dX3_tells_74 rfl (Nat.le_of_ble_eq_true rfl) rfl ?_
  refine v_goto (tgt := 58) dX3_tells_77 (by decide) ?_
  refine v_iload_n dX3_tells_58 rfl ?_
  refine v_aload_n dX3_tells_59 rfl ?_
  refine v_getR (t := 59) dX3_tells_60 fl_X3_46 ⟨by decide, rfl, by decide⟩ rfl rfl ?_
  refine v_alen (t := 12) (n := 2) dX3_tells_63 ⟨by decide, rfl, rfl⟩ (by decide) ?_
  refine v_icmpN_ge (tgt := 80) dX3_tells_64 (by decide) (by omega) (by decide) (fun c64 => (absurd c64 (by decide))) (fun c64 => ?_)
  refine v_aload_n dX3_tells_67 rfl ?_
  refine v_getR (t := 59) dX3_tells_68 fl_X3_46 ⟨by decide, rfl, by decide⟩ rfl rfl ?_
  refine v_iload_n dX3_tells_71 rfl ?_
  refine v_iconst (v := (nI 0)) dX3_tells_72 rfl ?_
  refine v_zast (n := 2) (a := 0 + 1) dX3_tells_73 ⟨by decide, rfl, rfl⟩ (rfl) (by omega) ?_
  refine v_iincN (lv' := [(0, .ref 0), (1, .int (nI m)), (2, .ref (18 - c)), (3, .int (nI (0 + 1 + 1)))]) dX3_tells_74 rfl (Nat.le_of_ble_eq_true rfl) rfl ?_
  refine v_goto (tgt := 58) dX3_tells_77 (by decide) ?_
  refine v_iload_n dX3_tells_58 rfl ?_
  refine v_aload_n dX3_tells_59 rfl ?_
  refine v_getR (t := 59) dX3_tells_60 fl_X3_46 ⟨by decide, rfl, by decide⟩ rfl rfl ?_
  refine v_alen (t := 12) (n := 2) dX3_tells_63 ⟨by decide, rfl, rfl⟩ (by decide) ?_
  refine v_icmpN_ge (tgt := 80) dX3_tells_64 (by decide) (by decide) (by decide) (fun c64 => ?_) (fun c64 => (absurd c64 (by decide)))
  refine v_iload_n dX3_tells_80 rfl ?_
  refine v_iret dX3_tells_81 rfl ?_
  have eo : ∀ i, i ≠ 0 → i ≠ 1 → i ≠ 3 → i ≠ 24 → i ≠ 25 → i ≠ 26 → i ≠ 59 → (mup (mup (mup M2 0 5 (nI 0)) 59 0 (vp_nar .boolean (nI 0))) 59 (0 + 1) (vp_nar .boolean (nI 0))) i = M1 i := fun i a0 a1 a3 a4 a5 a6 a9 => by
    rw [mup_ne a9, mup_ne a9, mup_ne a0, g1 i a4 a5 a6, mup_ne a1, mup_ne a0, mup_ne a0]
  have eo3 : (mup (mup (mup M2 0 5 (nI 0)) 59 0 (vp_nar .boolean (nI 0))) 59 (0 + 1) (vp_nar .boolean (nI 0))) 3 = M1 3 := by
    rw [mup_ne (by decide), mup_ne (by decide), mup_ne (by decide), g1 3 (by decide) (by decide) (by decide), mup_ne (by decide), mup_ne (by decide), mup_ne (by decide)]
  have en : ∀ i, 24 ≤ i → i < 27 → (mup (mup (mup M2 0 5 (nI 0)) 59 0 (vp_nar .boolean (nI 0))) 59 (0 + 1) (vp_nar .boolean (nI 0))) i = M2 i := fun i a b => by rw [mup_ne (by omega), mup_ne (by omega), mup_ne (by omega)]
  have e1 : (mup (mup (mup M2 0 5 (nI 0)) 59 0 (vp_nar .boolean (nI 0))) 59 (0 + 1) (vp_nar .boolean (nI 0))) 1 = M2 1 := by rw [mup_ne (by decide), mup_ne (by decide), mup_ne (by decide)]
  have ez : (mup (mup (mup M2 0 5 (nI 0)) 59 0 (vp_nar .boolean (nI 0))) 59 (0 + 1) (vp_nar .boolean (nI 0))) 0 = upd (M2 0) 5 (nI 0) := by rw [mup_ne (by decide), mup_ne (by decide), mup_eq]
  have e2 : M2 0 = upd (upd (M1 0) 2 (nI c)) 1 (nI (18 - c)) := by rw [g1 0 (by decide) (by decide) (by decide), mup_ne (by decide), mup_eq, mup_eq]
  have e59 : ∀ i, i < 2 → (mup (mup (mup M2 0 5 (nI 0)) 59 0 (vp_nar .boolean (nI 0))) 59 (0 + 1) (vp_nar .boolean (nI 0))) 59 i = nI 0 := fun i hi9 => by
    rw [mup_eq]
    rcases (show i = 0 ∨ i = 1 by omega) with rfl | rfl
    · rw [upd_ne (by decide), mup_eq, upd_eq]; decide
    · rw [upd_eq]; decide
  have hM : MOM (mup (mup (mup M2 0 5 (nI 0)) 59 0 (vp_nar .boolean (nI 0))) 59 (0 + 1) (vp_nar .boolean (nI 0))) 24 D s0R := MOM_c (begin_M r3 g2 g3 g4) (en 24 (by decide) (by decide)) (en 25 (by decide) (by decide)) (en 26 (by decide) (by decide))
  have hC : CIR (mup (mup (mup M2 0 5 (nI 0)) 59 0 (vp_nar .boolean (nI 0))) 59 (0 + 1) (vp_nar .boolean (nI 0))) (18 - c) D := CIR_c r2 (fun i a b => eo i (by omega) (by omega) (by omega) (by omega) (by omega) (by omega) (by omega))
  refine ⟨rfl, ⟨18 - c, r, hc2, ?_, ?_, hC, hM, ⟨hp.1, ?_, fun i hi9 => ?_, fun i hi9 => absurd hi9 (by simp)⟩, ⟨fun i hi9 => ?_, fun i hi9 => ⟨fun _ => e59 i hi9, fun q hq => by cases hq⟩⟩, ⟨?_, fun j hj => absurd hj (by omega)⟩⟩, fun i hi9 => ?_⟩
  · rw [ez, upd_ne (by decide), e2, upd_eq]
  · rw [ez, upd_ne (by decide), e2, upd_ne (by decide), upd_eq, show 18 - (18 - c) = c by omega]
  · rw [ez, upd_eq]; rfl
  · rw [eo 33 (by decide) (by decide) (by decide) (by decide) (by decide) (by decide) (by decide), r1.1 33 (by decide) (by decide) (by omega)]; exact hp.2.2.1 i hi9
  · rw [eo 52 (by decide) (by decide) (by decide) (by decide) (by decide) (by decide) (by decide), r1.1 52 (by decide) (by decide) (by omega)]; exact hi.1 i hi9
  · rw [e1, g1 1 (by decide) (by decide) (by decide), mup_eq, upd_eq]
  · rw [eo i (by omega) (by omega) (by omega) (by omega) (by omega) (by omega) (by omega)]; exact r1.1 i (by omega) (by omega) (by omega)
theorem k_tells (hr : CLS c r M T R P Im tx t) (ho : xOK tx t) : V kX3_tells (ctQ M T R P Im tx t (prF tx t)) M 0 [(0, .ref 0)] [] := by
  cases hf : prF tx t with
  | inl a => exact k_tellsF hr ho hf
  | inr z =>
    obtain ⟨D, m⟩ := z
    exact k_tellsO hr ho hf
end C58
