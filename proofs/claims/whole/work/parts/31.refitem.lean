section R31
variable {M M0 : vM} {tx : Nat → Int32} {t : Nat}
set_option maxRecDepth 100000 in
theorem c_mustS (hx : xR M0 tx t) (ho : xOK tx t) {z : pS} (hp : PS M0 M tx t z) {a : Nat} (hf : z.2.2 = some a) {b : Int32} : V kX4_must (fun v M' => v = some (.int (nI (tVl (uF tx) t z.2.1))) ∧ M' = M) M 0 [(0, .ref 60), (1, .int b)] [] := by
  have ht := ho.1
  have ha := hp.2.2.2.2.2.2 a hf
  refine v_aload_n dX4_must_0 rfl ?_
  refine v_getI2 (y := (nI (tVl (uF tx) t z.2.1))) dX4_must_1 fl_X4_194 ⟨by decide, rfl, by decide⟩ rfl (hp.2.2.1.2.2.2) ?_
  refine v_istore_n (lv' := [(0, .ref 60), (1, .int b), (2, .int (nI (tVl (uF tx) t z.2.1)))]) dX4_must_4 (Nat.le_of_ble_eq_true rfl) rfl ?_
  refine v_aload_n dX4_must_5 rfl ?_
  refine v_getI2 (y := (nI a)) dX4_must_6 fl_X4_203 ⟨by decide, rfl, by decide⟩ rfl (by rw [hp.2.2.2.1, hf]; rfl) ?_
  refine v_bipush (v := (-9)) dX4_must_9 (by decide) ?_
  refine v_icmp_ne (tgt := 33) dX4_must_11 (by decide) (fun c11 => ?_) (fun c11 => (absurd c11 (fun q => absurd (nI_pos' (n := a) (by omega)) (by rw [q]; decide))))
  refine v_iload_n dX4_must_33 rfl ?_
  refine v_iret dX4_must_34 rfl ?_
  exact ⟨rfl, rfl⟩
set_option maxRecDepth 100000 in
theorem c_mustY (hx : xR M0 tx t) (ho : xOK tx t) {z : pS} (hp : PS M0 M tx t z) (hf : z.2.2 = none) : V kX4_must (fun v M' => v = some (.int (nI (tVl (uF tx) t z.2.1))) ∧ PS M0 M' tx t (z.1, (tNx (uF tx) t z.2.1, none))) M 0 [(0, .ref 60), (1, .int (nI 1))] [] := by
  have ht := ho.1
  refine v_aload_n dX4_must_0 rfl ?_
  refine v_getI2 (y := (nI (tVl (uF tx) t z.2.1))) dX4_must_1 fl_X4_194 ⟨by decide, rfl, by decide⟩ rfl (hp.2.2.1.2.2.2) ?_
  refine v_istore_n (lv' := [(0, .ref 60), (1, .int (nI 1)), (2, .int (nI (tVl (uF tx) t z.2.1)))]) dX4_must_4 (Nat.le_of_ble_eq_true rfl) rfl ?_
  refine v_aload_n dX4_must_5 rfl ?_
  refine v_getI2 (y := ((-9))) dX4_must_6 fl_X4_203 ⟨by decide, rfl, by decide⟩ rfl (by rw [hp.2.2.2.1, hf]; rfl) ?_
  refine v_bipush (v := (-9)) dX4_must_9 (by decide) ?_
  refine v_icmp_ne (tgt := 33) dX4_must_11 (by decide) (fun c11 => (absurd rfl c11)) (fun c11 => ?_)
  refine v_iload_n dX4_must_14 rfl ?_
  refine v_ifN_eq (tgt := 25) dX4_must_15 (by decide) (by decide) (fun c15 => (absurd c15 (by decide))) (fun c15 => ?_)
  refine v_aload_n dX4_must_18 rfl ?_
  refine v_callV (as := []) (st := []) dX4_must_19 ml_X4_206 kv_X4_next ⟨by decide, rfl, by decide⟩ ⟨(Nat.le_of_ble_eq_true rfl), (Nat.le_of_ble_eq_true rfl)⟩ rfl (Nat.le_of_ble_eq_true rfl) rfl (Nat.le_of_ble_eq_true rfl) (c_next (PS_x hp hx) ho (nz_rf M) hp.2.2.1.1 (tNx_b _ hp.2.2.2.2.2.1).2.1) (fun v M1 hq => ?_)
  obtain ⟨rfl, g1, g2⟩ := hq
  refine v_goto (tgt := 33) dX4_must_22 (by decide) ?_
  refine v_iload_n dX4_must_33 rfl ?_
  refine v_iret dX4_must_34 rfl ?_
  have g3 := PS_nz hp g1 g2 (tNx_b _ hp.2.2.2.2.2.1).2.1
  rw [hf] at g3
  exact ⟨rfl, g3⟩
set_option maxRecDepth 100000 in
theorem c_mustN (hx : xR M0 tx t) (ho : xOK tx t) {z : pS} (hp : PS M0 M tx t z) (hf : z.2.2 = none) : V kX4_must (fun v M' => v = some (.int (nI (tVl (uF tx) t z.2.1))) ∧ PS M0 M' tx t (z.1, (z.2.1, some (tPl (uF tx) t z.2.1)))) M 0 [(0, .ref 60), (1, .int (nI 0))] [] := by
  have ht := ho.1
  refine v_aload_n dX4_must_0 rfl ?_
  refine v_getI2 (y := (nI (tVl (uF tx) t z.2.1))) dX4_must_1 fl_X4_194 ⟨by decide, rfl, by decide⟩ rfl (hp.2.2.1.2.2.2) ?_
  refine v_istore_n (lv' := [(0, .ref 60), (1, .int (nI 0)), (2, .int (nI (tVl (uF tx) t z.2.1)))]) dX4_must_4 (Nat.le_of_ble_eq_true rfl) rfl ?_
  refine v_aload_n dX4_must_5 rfl ?_
  refine v_getI2 (y := ((-9))) dX4_must_6 fl_X4_203 ⟨by decide, rfl, by decide⟩ rfl (by rw [hp.2.2.2.1, hf]; rfl) ?_
  refine v_bipush (v := (-9)) dX4_must_9 (by decide) ?_
  refine v_icmp_ne (tgt := 33) dX4_must_11 (by decide) (fun c11 => (absurd rfl c11)) (fun c11 => ?_)
  refine v_iload_n dX4_must_14 rfl ?_
  refine v_ifN_eq (tgt := 25) dX4_must_15 (by decide) (by decide) (fun c15 => ?_) (fun c15 => (absurd rfl c15))
  refine v_aload_n dX4_must_25 rfl ?_
  refine v_aload_n dX4_must_26 rfl ?_
  refine v_getI2 (y := (nI (tPl (uF tx) t z.2.1))) dX4_must_27 fl_X4_191 ⟨by decide, rfl, by decide⟩ rfl (hp.2.2.1.2.1) ?_
  refine v_putI dX4_must_30 fl_X4_203 ⟨by decide, rfl, by decide⟩ rfl rfl rfl ?_
  refine v_iload_n dX4_must_33 rfl ?_
  refine v_iret dX4_must_34 rfl ?_
  obtain ⟨h1, h2, ⟨k1, k2, k3, k4⟩, h4, h5, h6, h7⟩ := hp
  refine ⟨rfl, fun i a b => (mup_ne a).trans (h1 i a b), fun j hj => ?_, ⟨?_, ?_, ?_, ?_⟩, ?_, ?_, h6, fun a ha => ?_⟩
  · rw [mup_eq]; simp only [upd]; rw [if_neg (by omega)]; exact h2 j hj
  · rw [mup_eq]; simp only [upd]; rw [if_neg (by decide)]; exact k1
  · rw [mup_eq]; simp only [upd]; rw [if_neg (by decide)]; exact k2
  · rw [mup_eq]; simp only [upd]; rw [if_neg (by decide)]; exact k3
  · rw [mup_eq]; simp only [upd]; rw [if_neg (by decide)]; exact k4
  · rw [mup_eq]; simp [upd, oI]
  · rw [mup_ne (by decide)]; exact h5
  · cases ha; exact (tPl_b _ h6).2
theorem c_must (hx : xR M0 tx t) (ho : xOK tx t) {z : pS} (hp : PS M0 M tx t z) {b : Bool} : V kX4_must (fun v M' => v = some (.int (nI (tVl (uF tx) t z.2.1))) ∧ PS M0 M' tx t (z.1, mq (uF tx) t b z.2)) M 0 [(0, .ref 60), (1, .int (bI (b = true)))] [] := by
  obtain ⟨D, q, f⟩ := z
  cases f with
  | some a => exact v_post (fun v M' h => ⟨h.1, by rw [h.2]; exact hp⟩) (c_mustS hx ho hp rfl)
  | none =>
    cases b with
    | true => exact c_mustY hx ho hp rfl
    | false => exact c_mustN hx ho hp rfl
set_option maxRecDepth 100000 in
theorem c_number (hx : xR M0 tx t) (ho : xOK tx t) {z : pS} (hp : PS M0 M tx t z) {lo hi h1 : Nat} (e1 : hi = h1 + 1) (hl : lo < 100) (hh : h1 < 100) : V kX4_number (fun v M' => v = some (.int (nI (tVl (uF tx) t z.2.1))) ∧ PS M0 M' tx t (z.1, nq (uF tx) t lo hi z.2)) M 0 [(0, .ref 60), (1, .int (nI lo)), (2, .int (nI h1))] [] := by
  have ht := ho.1
  have hv := tVl_b (uF tx) t z.2.1
  refine v_aload_n dX4_number_0 rfl ?_
  refine v_aload_n dX4_number_1 rfl ?_
  refine v_getI2 (y := (nI (tTk (uF tx) t z.2.1))) dX4_number_2 fl_X4_197 ⟨by decide, rfl, by decide⟩ rfl (hp.2.2.1.2.2.1) ?_
  refine v_iconst (v := (nI 1)) dX4_number_5 rfl ?_
  refine v_icmpN_ne (tgt := 25) dX4_number_6 (by decide) (by have := tTk_b (uF tx) t z.2.1; omega) (by omega) (fun c6 => ?_) (fun c6 => ?_)
  · refine v_iconst (v := (nI 0)) dX4_number_25 rfl ?_
    refine v_top (y := (bI (decide (tTk (uF tx) t z.2.1 = 1 ∧ lo ≤ tVl (uF tx) t z.2.1 ∧ tVl (uF tx) t z.2.1 < hi) = true))) ((bI_f (by simp only [decide_eq_true_eq]; omega)).symm) ?_
    refine v_callV (as := [.int (bI (decide (tTk (uF tx) t z.2.1 = 1 ∧ lo ≤ tVl (uF tx) t z.2.1 ∧ tVl (uF tx) t z.2.1 < hi) = true))]) (st := []) dX4_number_26 ml_X4_209 kv_X4_must ⟨by decide, rfl, by decide⟩ ⟨(Nat.le_of_ble_eq_true rfl), (Nat.le_of_ble_eq_true rfl)⟩ rfl (Nat.le_of_ble_eq_true rfl) rfl (Nat.le_of_ble_eq_true rfl) (c_must hx ho hp (b := decide (tTk (uF tx) t z.2.1 = 1 ∧ lo ≤ tVl (uF tx) t z.2.1 ∧ tVl (uF tx) t z.2.1 < hi))) (fun v M1 hq => ?_)
    obtain ⟨rfl, hp⟩ := hq
    refine v_iret dX4_number_29 rfl ?_
    exact ⟨rfl, hp⟩
  · refine v_aload_n dX4_number_9 rfl ?_
    refine v_getI2 (y := (nI (tVl (uF tx) t z.2.1))) dX4_number_10 fl_X4_194 ⟨by decide, rfl, by decide⟩ rfl (hp.2.2.1.2.2.2) ?_
    refine v_iload_n dX4_number_13 rfl ?_
    refine v_iload_n dX4_number_14 rfl ?_
    refine v_callSr (x := .int (bI (lo ≤ tVl (uF tx) t z.2.1 ∧ tVl (uF tx) t z.2.1 ≤ h1))) (M1 := M) (as := [.int (nI (tVl (uF tx) t z.2.1)), .int (nI lo), .int (nI h1)]) (st := [.ref 60]) dX4_number_15 ml_X4_56 ks_X4_in ⟨(Nat.le_of_ble_eq_true rfl), (Nat.le_of_ble_eq_true rfl)⟩ rfl (Nat.le_of_ble_eq_true rfl) rfl (Nat.le_of_ble_eq_true rfl) (c_inN (by omega) (by omega) (by omega)) ?_
    refine v_ifB_eq (tgt := 25) dX4_number_18 (by decide) (fun c18 => ?_) (fun c18 => ?_)
    · refine v_iconst (v := (nI 0)) dX4_number_25 rfl ?_
      refine v_top (y := (bI (decide (tTk (uF tx) t z.2.1 = 1 ∧ lo ≤ tVl (uF tx) t z.2.1 ∧ tVl (uF tx) t z.2.1 < hi) = true))) ((bI_f (by simp only [decide_eq_true_eq]; omega)).symm) ?_
      refine v_callV (as := [.int (bI (decide (tTk (uF tx) t z.2.1 = 1 ∧ lo ≤ tVl (uF tx) t z.2.1 ∧ tVl (uF tx) t z.2.1 < hi) = true))]) (st := []) dX4_number_26 ml_X4_209 kv_X4_must ⟨by decide, rfl, by decide⟩ ⟨(Nat.le_of_ble_eq_true rfl), (Nat.le_of_ble_eq_true rfl)⟩ rfl (Nat.le_of_ble_eq_true rfl) rfl (Nat.le_of_ble_eq_true rfl) (c_must hx ho hp (b := decide (tTk (uF tx) t z.2.1 = 1 ∧ lo ≤ tVl (uF tx) t z.2.1 ∧ tVl (uF tx) t z.2.1 < hi))) (fun v M1 hq => ?_)
      obtain ⟨rfl, hp⟩ := hq
      refine v_iret dX4_number_29 rfl ?_
      exact ⟨rfl, hp⟩
    · refine v_iconst (v := (nI 1)) dX4_number_21 rfl ?_
      refine v_goto (tgt := 26) dX4_number_22 (by decide) ?_
      refine v_top (y := (bI (decide (tTk (uF tx) t z.2.1 = 1 ∧ lo ≤ tVl (uF tx) t z.2.1 ∧ tVl (uF tx) t z.2.1 < hi) = true))) ((bI_t (by simp only [decide_eq_true_eq]; omega)).symm) ?_
      refine v_callV (as := [.int (bI (decide (tTk (uF tx) t z.2.1 = 1 ∧ lo ≤ tVl (uF tx) t z.2.1 ∧ tVl (uF tx) t z.2.1 < hi) = true))]) (st := []) dX4_number_26 ml_X4_209 kv_X4_must ⟨by decide, rfl, by decide⟩ ⟨(Nat.le_of_ble_eq_true rfl), (Nat.le_of_ble_eq_true rfl)⟩ rfl (Nat.le_of_ble_eq_true rfl) rfl (Nat.le_of_ble_eq_true rfl) (c_must hx ho hp (b := decide (tTk (uF tx) t z.2.1 = 1 ∧ lo ≤ tVl (uF tx) t z.2.1 ∧ tVl (uF tx) t z.2.1 < hi))) (fun v M1 hq => ?_)
      obtain ⟨rfl, hp⟩ := hq
      refine v_iret dX4_number_29 rfl ?_
      exact ⟨rfl, hp⟩
set_option maxRecDepth 100000 in
theorem c_number0 (hx : xR M0 tx t) (ho : xOK tx t) {z : pS} (hp : PS M0 M tx t z) {lo hi : Nat} (e1 : hi = 0) (hl : lo < 100) : V kX4_number (fun v M' => v = some (.int (nI (tVl (uF tx) t z.2.1))) ∧ PS M0 M' tx t (z.1, nq (uF tx) t lo hi z.2)) M 0 [(0, .ref 60), (1, .int (nI lo)), (2, .int (nI 0 - nI 1))] [] := by
  have ht := ho.1
  have hv := tVl_b (uF tx) t z.2.1
  refine v_aload_n dX4_number_0 rfl ?_
  refine v_aload_n dX4_number_1 rfl ?_
  refine v_getI2 (y := (nI (tTk (uF tx) t z.2.1))) dX4_number_2 fl_X4_197 ⟨by decide, rfl, by decide⟩ rfl (hp.2.2.1.2.2.1) ?_
  refine v_iconst (v := (nI 1)) dX4_number_5 rfl ?_
  refine v_icmpN_ne (tgt := 25) dX4_number_6 (by decide) (by have := tTk_b (uF tx) t z.2.1; omega) (by omega) (fun c6 => ?_) (fun c6 => ?_)
  · refine v_iconst (v := (nI 0)) dX4_number_25 rfl ?_
    refine v_top (y := (bI (decide (tTk (uF tx) t z.2.1 = 1 ∧ lo ≤ tVl (uF tx) t z.2.1 ∧ tVl (uF tx) t z.2.1 < hi) = true))) ((bI_f (by simp only [decide_eq_true_eq]; omega)).symm) ?_
    refine v_callV (as := [.int (bI (decide (tTk (uF tx) t z.2.1 = 1 ∧ lo ≤ tVl (uF tx) t z.2.1 ∧ tVl (uF tx) t z.2.1 < hi) = true))]) (st := []) dX4_number_26 ml_X4_209 kv_X4_must ⟨by decide, rfl, by decide⟩ ⟨(Nat.le_of_ble_eq_true rfl), (Nat.le_of_ble_eq_true rfl)⟩ rfl (Nat.le_of_ble_eq_true rfl) rfl (Nat.le_of_ble_eq_true rfl) (c_must hx ho hp (b := decide (tTk (uF tx) t z.2.1 = 1 ∧ lo ≤ tVl (uF tx) t z.2.1 ∧ tVl (uF tx) t z.2.1 < hi))) (fun v M1 hq => ?_)
    obtain ⟨rfl, hp⟩ := hq
    refine v_iret dX4_number_29 rfl ?_
    exact ⟨rfl, hp⟩
  · refine v_aload_n dX4_number_9 rfl ?_
    refine v_getI2 (y := (nI (tVl (uF tx) t z.2.1))) dX4_number_10 fl_X4_194 ⟨by decide, rfl, by decide⟩ rfl (hp.2.2.1.2.2.2) ?_
    refine v_iload_n dX4_number_13 rfl ?_
    refine v_iload_n dX4_number_14 rfl ?_
    refine v_callSr (x := .int (bI ((nI lo) ≤ (nI (tVl (uF tx) t z.2.1)) ∧ (nI (tVl (uF tx) t z.2.1)) ≤ (nI 0 - nI 1)))) (M1 := M) (as := [.int (nI (tVl (uF tx) t z.2.1)), .int (nI lo), .int (nI 0 - nI 1)]) (st := [.ref 60]) dX4_number_15 ml_X4_56 ks_X4_in ⟨(Nat.le_of_ble_eq_true rfl), (Nat.le_of_ble_eq_true rfl)⟩ rfl (Nat.le_of_ble_eq_true rfl) rfl (Nat.le_of_ble_eq_true rfl) (c_in _ _ _) ?_
    refine v_ifB_eq (tgt := 25) dX4_number_18 (by decide) (fun c18 => ?_) (fun c18 => (absurd (show nI (tVl (uF tx) t z.2.1) ≤ nI 0 - nI 1 from c18.2) (by rw [Int32.le_iff_toInt_le, nI_toInt (by omega)]; rw [show (nI 0 - nI 1).toInt = -1 by decide]; omega)))
    refine v_iconst (v := (nI 0)) dX4_number_25 rfl ?_
    refine v_top (y := (bI (decide (tTk (uF tx) t z.2.1 = 1 ∧ lo ≤ tVl (uF tx) t z.2.1 ∧ tVl (uF tx) t z.2.1 < hi) = true))) ((bI_f (by simp only [decide_eq_true_eq]; omega)).symm) ?_
    refine v_callV (as := [.int (bI (decide (tTk (uF tx) t z.2.1 = 1 ∧ lo ≤ tVl (uF tx) t z.2.1 ∧ tVl (uF tx) t z.2.1 < hi) = true))]) (st := []) dX4_number_26 ml_X4_209 kv_X4_must ⟨by decide, rfl, by decide⟩ ⟨(Nat.le_of_ble_eq_true rfl), (Nat.le_of_ble_eq_true rfl)⟩ rfl (Nat.le_of_ble_eq_true rfl) rfl (Nat.le_of_ble_eq_true rfl) (c_must hx ho hp (b := decide (tTk (uF tx) t z.2.1 = 1 ∧ lo ≤ tVl (uF tx) t z.2.1 ∧ tVl (uF tx) t z.2.1 < hi))) (fun v M1 hq => ?_)
    obtain ⟨rfl, hp⟩ := hq
    refine v_iret dX4_number_29 rfl ?_
    exact ⟨rfl, hp⟩
end R31
