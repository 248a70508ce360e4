/-! the class reads periods and marks, all items -/
section C57
variable {M M0 : vM} {c : Nat} {D tx : Nat → Int32} {t : Nat}
set_option maxRecDepth 100000 in
theorem rd_112 (hc : c = 4 ∨ c = 14) (hD : CIR0 M c D) (hWD : WD D) (hx : cX M tx t) (ho : xOK tx t) {q0 : Nat} (hk : cTK M (uF tx) t q0) (hq0 : q0 ≤ t) (h1 : tTk (uF tx) t q0 = 112) : V kX2_readItem (riQ M c t (itR (uF tx) t D q0)) M 0 [(0, .ref 1), (1, .ref c)] [] := by
  have hW := hWD.1
  have h16 := hW.n16
  have hK6 := hW.2.1.2
  have hu : ∀ j, j < t → uF tx j ≤ 255 := fun j hj => (ho.2 j hj).2
  have hx4 : M 1 4 = nI 112 := hk.2.2.1.trans ((cT4_c hu hq0 (Or.inl (by decide))).mpr h1)
  refine rd_start hc hx4 (si := 4) (by decide) (by decide) c_sh_112 (c_room_112 hc hD hW) (fun hb => absurd trivial hb) (fun hb => ?_)
  rw [it_room h1 rm_p]
  have hwd := rpF_WD (u := uF tx) (t := t) (z := (D, (tNx (uF tx) t q0, none))) hWD
  have y1 := tNx_b (uF tx) hq0
  generalize e1 : tNx (uF tx) t q0 = q1 at *
  have hz2 : (((riB (uF tx) t 112 (D, (q1, none))).1, scq (uF tx) t (riB (uF tx) t 112 (D, (q1, none))).2) : pS) = ((rpF (uF tx) t (D, (q1, none))).1, scq (uF tx) t (nq (uF tx) t 1 10 (nq (uF tx) t 0 3 (q1, none)))) := rfl
  rw [hz2]
  refine l_step hc hD hx ho (by rw [hk.1, e1]) y1.2.1 (si := 4) (i := 0) (by decide) (by decide) (b := tVl (uF tx) t q1 < 3) (fun M9 g1 g2 => c_alC (tVl_b _ _ _)) (fun M9 g1 g2 g3 => ?_) (fun M1 a11 a12 a13 a14 a15 a16 a17 => ?_)
  · refine riQ_bad (a := tPl (uF tx) t q1) ?_ g1 g2 (tPl_b _ y1.2.1).2
    show (scq (uF tx) t (nq (uF tx) t 1 10 (nq (uF tx) t 0 3 (q1, none)))).2 = _
    rw [nq_bad (lo := 0) (hi := 3) (fun z => g3 ⟨z.1, z.2.2⟩)]
    rfl
  have y2 := tNx_b (uF tx) y1.2.1
  generalize e2 : tNx (uF tx) t q1 = q2 at *
  refine l_step hc a12 a13 ho a14 y2.2.1 (si := 4) (i := 0 + 1) (by decide) (by decide) (b := 1 ≤ tVl (uF tx) t q2 ∧ tVl (uF tx) t q2 < 10) (fun M9 g1 g2 => c_alP (tVl_b _ _ _)) (fun M9 g1 g2 g3 => ?_) (fun M2 a21 a22 a23 a24 a25 a26 a27 => ?_)
  · refine riQ_bad (a := tPl (uF tx) t q2) ?_ (ci_tr a11 g1) g2 (tPl_b _ y2.2.1).2
    show (scq (uF tx) t (nq (uF tx) t 1 10 (nq (uF tx) t 0 3 (q1, none)))).2 = _
    rw [nq_ok (lo := 0) (hi := 3) a16 (Nat.zero_le _) a17, e2, nq_bad (fun z => g3 ⟨z.1, z.2.1, z.2.2⟩)]
    rfl
  have z2 : ci c M M2 := ci_tr a11 a21
  have y3 := tNx_b (uF tx) y2.2.1
  generalize e3 : tNx (uF tx) t q2 = q3 at *
  have hone : nq (uF tx) t 0 3 (q1, none) = (q2, none) := by rw [nq_ok a16 (Nat.zero_le _) a17, e2]
  have hfull : nq (uF tx) t 1 10 (nq (uF tx) t 0 3 (q1, none)) = (q3, none) := by rw [hone, nq_ok a26 a27.1 a27.2, e3]
  refine l_end hc a22 a23 ho a24 y3.2.1 (si := 4) (i := 0 + 1 + 1) (by decide) (by decide) (fun M9 g1 g2 g3 => ?_) (fun M8 b1 b2 b3 b4 b5 => ?_)
  · refine riQ_bad (a := tPl (uF tx) t q3) ?_ (ci_tr z2 g1) g2 (tPl_b _ y3.2.1).2
    show (scq (uF tx) t (nq (uF tx) t 1 10 (nq (uF tx) t 0 3 (q1, none)))).2 = _
    rw [hfull, scq_bad g3]
  have hDp : (rpF (uF tx) t (D, (q1, none))).1 = upd D (92 + tVl (uF tx) t q1) (nI (tVl (uF tx) t q2)) := by
    show upd D (92 + (if (nq (uF tx) t 1 10 (nq (uF tx) t 0 3 (q1, none))).2 = none then tVl (uF tx) t q1 else 0)) (nI (tVl (uF tx) t (nq (uF tx) t 0 3 (q1, none)).1)) = _
    rw [hfull, hone, if_pos rfl]
  have hW' := (hwd (by show (nq (uF tx) t 1 10 (nq (uF tx) t 0 3 (q1, none))).2 = none; rw [hfull])).1.1
  rw [hDp] at hW'
  refine v_aload_n dX2_readItem_114 rfl ?_
  refine v_iload_n dX2_readItem_115 rfl ?_
  refine v_aload_n dX2_readItem_116 rfl ?_
  refine v_getR (t := 3) dX2_readItem_117 fl_X2_15 ⟨by decide, rfl, by decide⟩ rfl rfl ?_
  refine v_iconst (v := (nI 0)) dX2_readItem_120 rfl ?_
  refine v_iald2 (n := 3) (a := 0) (y := (nI (tVl (uF tx) t q1))) dX2_readItem_121 ⟨by decide, rfl, rfl⟩ (rfl) (by omega) (by rw [b4, a25, upd_ne (by decide), a15, upd_eq]) ?_
  refine v_aload_n dX2_readItem_122 rfl ?_
  refine v_getR (t := 3) dX2_readItem_123 fl_X2_15 ⟨by decide, rfl, by decide⟩ rfl rfl ?_
  refine v_iconst (v := (nI 1)) dX2_readItem_126 rfl ?_
  refine v_iald2 (n := 3) (a := 1) (y := (nI (tVl (uF tx) t q2))) dX2_readItem_127 ⟨by decide, rfl, rfl⟩ (rfl) (by omega) (by rw [b4, a25, upd_eq]) ?_
  refine v_aload_n dX2_readItem_128 rfl ?_
  refine v_getR (t := 3) dX2_readItem_129 fl_X2_15 ⟨by decide, rfl, by decide⟩ rfl rfl ?_
  refine v_iconst (v := (nI 2)) dX2_readItem_132 rfl ?_
  refine v_iald2 (n := 3) (a := 2) (y := (M8 3 2)) dX2_readItem_133 ⟨by decide, rfl, rfl⟩ (rfl) (by omega) (rfl) ?_
  refine v_callVv (M1 := mup M8 (c + 9) (tVl (uF tx) t q1) (nI (tVl (uF tx) t q2))) (as := [.int (nI 112), .int (nI (tVl (uF tx) t q1)), .int (nI (tVl (uF tx) t q2)), .int (M8 3 2)]) (st := []) dX2_readItem_134 ml_X2_76 kv_X0_add (ob_c hc) ⟨(Nat.le_of_ble_eq_true rfl), (Nat.le_of_ble_eq_true rfl)⟩ rfl (Nat.le_of_ble_eq_true rfl) rfl (Nat.le_of_ble_eq_true rfl) (c_add_112 hc b2 hW (a := tVl (uF tx) t q1) a17) ?_
  refine v_iconst (v := (nI 1)) dX2_readItem_137 rfl ?_
  refine v_zret dX2_readItem_138 rfl (Or.inr rfl) ?_
  refine riQ_ok ?_ (ci_tr (ci_tr z2 b1) ⟨fun i _ _ d => mup_ne (by omega), fun j _ => by rw [mup_ne (by omega)]⟩) ?_ ?_
  · show (scq (uF tx) t (nq (uF tx) t 1 10 (nq (uF tx) t 0 3 (q1, none)))).2 = none
    rw [hfull, scq_ok b5]
  · show CIR0 _ c (rpF (uF tx) t (D, (q1, none))).1
    rw [hDp]
    have ot : ∀ i, i ≠ 92 + tVl (uF tx) t q1 → tN (upd D (92 + tVl (uF tx) t q1) (nI (tVl (uF tx) t q2))) i = tN D i := fun i hi => by unfold tN; rw [upd_ne hi]
    have hv1 := tVl_b (uF tx) t q2
    have eK : nK (upd D (92 + tVl (uF tx) t q1) (nI (tVl (uF tx) t q2))) = nK D := ot 96 (by omega)
    have eN : nN (upd D (92 + tVl (uF tx) t q1) (nI (tVl (uF tx) t q2))) = nN D := ot 95 (by omega)
    refine CIR0_alt b2 hW hW' eN (fun m hm => ⟨ot m (by omega), ot (16 + m) (by omega), fun k hk => ot (32 + 3 * m + k) (by omega)⟩) (by rw [mup_ne (by omega)]) (by rw [mup_ne (by omega), b2.mk, eK]) (fun i a b => mup_ne (by omega)) (fun n hn b hb => ?_) (fun j hj => ?_)
    · rw [mup_ne (by omega), eK, mkB_sam (fun i hi => ot (80 + i) (by omega))]; exact b2.mb hn hb
    · rw [mup_eq]
      by_cases e : j = tVl (uF tx) t q1
      · rw [e, upd_eq, show pe (upd D (92 + tVl (uF tx) t q1) (nI (tVl (uF tx) t q2))) (tVl (uF tx) t q1) = tVl (uF tx) t q2 from tN_nI upd_eq (by omega)]
      · rw [upd_ne e, b2.pe hj, show pe (upd D (92 + tVl (uF tx) t q1) (nI (tVl (uF tx) t q2))) j = pe D j from ot (92 + j) (by omega)]
  · show _ = nI (scq (uF tx) t (nq (uF tx) t 1 10 (nq (uF tx) t 0 3 (q1, none)))).1
    rw [hfull, scq_ok b5, mup_ne (by omega), b3]
set_option maxRecDepth 100000 in
theorem rd_103 (hc : c = 4 ∨ c = 14) (hD : CIR0 M c D) (hWD : WD D) (hx : cX M tx t) (ho : xOK tx t) {q0 : Nat} (hk : cTK M (uF tx) t q0) (hq0 : q0 ≤ t) (h1 : tTk (uF tx) t q0 = 103) : V kX2_readItem (riQ M c t (itR (uF tx) t D q0)) M 0 [(0, .ref 1), (1, .ref c)] [] := by
  have hW := hWD.1
  have h16 := hW.n16
  have hK6 := hW.2.1.2
  have hu : ∀ j, j < t → uF tx j ≤ 255 := fun j hj => (ho.2 j hj).2
  have hx4 : M 1 4 = nI 103 := hk.2.2.1.trans ((cT4_c hu hq0 (Or.inl (by decide))).mpr h1)
  have hrm : rmB D 103 = true ↔ nK D < 6 := rm_m (by decide)
  refine rd_start hc hx4 (si := 5) (by decide) (by decide) c_sh_103 (c_room_103 hc hD hW) (fun hb => ?_) (fun hb => ?_)
  · exact riQ_bad (by rw [it_no h1 (fun z => hb (hrm.mp z))]) (ci_rf c M) hk.2.1 (tPl_b _ hq0).2
  rw [it_room h1 (hrm.mpr hb)]
  have hwd := rmF_WD (u := uF tx) (t := t) (z := (D, (tNx (uF tx) t q0, none))) hWD hb
  have y1 := tNx_b (uF tx) hq0
  generalize e1 : tNx (uF tx) t q0 = q1 at *
  have hz2 : (((riB (uF tx) t 103 (D, (q1, none))).1, scq (uF tx) t (riB (uF tx) t 103 (D, (q1, none))).2) : pS) = ((rmF (uF tx) t (D, (q1, none))).1, scq (uF tx) t (mq (uF tx) t (lfB D (uF tx) t (mq (uF tx) t (lfB D (uF tx) t q1) (q1, none)).1 && !(decide (tVl (uF tx) t (mq (uF tx) t (lfB D (uF tx) t q1) (q1, none)).1 = tVl (uF tx) t q1))) (mq (uF tx) t (lfB D (uF tx) t q1) (q1, none)))) := rfl
  rw [hz2]
  refine l_step hc hD hx ho (by rw [hk.1, e1]) y1.2.1 (si := 5) (i := 0) (by decide) (by decide) (b := tVl (uF tx) t q1 < nN D ∧ so D (tVl (uF tx) t q1) ≤ 1) (fun M9 g1 g2 => c_alL hc g2 hW (tVl_b _ _ _)) (fun M9 g1 g2 g3 => ?_) (fun M1 a11 a12 a13 a14 a15 a16 a17 => ?_)
  · refine riQ_bad (a := tPl (uF tx) t q1) ?_ g1 g2 (tPl_b _ y1.2.1).2
    show (scq (uF tx) t (mq (uF tx) t (lfB D (uF tx) t (mq (uF tx) t (lfB D (uF tx) t q1) (q1, none)).1 && !(decide (tVl (uF tx) t (mq (uF tx) t (lfB D (uF tx) t q1) (q1, none)).1 = tVl (uF tx) t q1))) (mq (uF tx) t (lfB D (uF tx) t q1) (q1, none)))).2 = _
    have e9 : mq (uF tx) t (lfB D (uF tx) t q1) (q1, none) = (q1, some (tPl (uF tx) t q1)) := by
      rw [mq_none, if_neg]; unfold lfB; rw [decide_eq_true_eq]; exact fun z => g3 ⟨z.1, z.2⟩
    rw [e9]
    rfl
  have y2 := tNx_b (uF tx) y1.2.1
  generalize e2 : tNx (uF tx) t q1 = q2 at *
  have hone : mq (uF tx) t (lfB D (uF tx) t q1) (q1, none) = (q2, none) := by
    rw [mq_none, if_pos, e2]; unfold lfB; rw [decide_eq_true_eq]; exact ⟨a16, a17⟩
  refine l_step hc a12 a13 ho a14 y2.2.1 (si := 5) (i := 0 + 1) (by decide) (by decide) (b := (tVl (uF tx) t q2 < nN D ∧ so D (tVl (uF tx) t q2) ≤ 1) ∧ tVl (uF tx) t q2 ≠ tVl (uF tx) t q1) (fun M9 g1 g2 => by rw [a15, upd_eq]; exact c_alM hc g2 hW (tVl_b _ _ _) (tVl_b _ _ _)) (fun M9 g1 g2 g3 => ?_) (fun M2 a21 a22 a23 a24 a25 a26 a27 => ?_)
  · refine riQ_bad (a := tPl (uF tx) t q2) ?_ (ci_tr a11 g1) g2 (tPl_b _ y2.2.1).2
    show (scq (uF tx) t (mq (uF tx) t (lfB D (uF tx) t (mq (uF tx) t (lfB D (uF tx) t q1) (q1, none)).1 && !(decide (tVl (uF tx) t (mq (uF tx) t (lfB D (uF tx) t q1) (q1, none)).1 = tVl (uF tx) t q1))) (mq (uF tx) t (lfB D (uF tx) t q1) (q1, none)))).2 = _
    have e9 : mq (uF tx) t (lfB D (uF tx) t (mq (uF tx) t (lfB D (uF tx) t q1) (q1, none)).1 && !(decide (tVl (uF tx) t (mq (uF tx) t (lfB D (uF tx) t q1) (q1, none)).1 = tVl (uF tx) t q1))) (mq (uF tx) t (lfB D (uF tx) t q1) (q1, none)) = (q2, some (tPl (uF tx) t q2)) := by
      rw [hone, mq_none, if_neg]; unfold lfB
      simp only [Bool.and_eq_true, Bool.not_eq_true', decide_eq_false_iff_not, decide_eq_true_eq]
      exact fun z => g3 ⟨z.1.1, z.1.2, z.2⟩
    rw [e9]
    rfl
  have z2 : ci c M M2 := ci_tr a11 a21
  have y3 := tNx_b (uF tx) y2.2.1
  generalize e3 : tNx (uF tx) t q2 = q3 at *
  have hfull : mq (uF tx) t (lfB D (uF tx) t (mq (uF tx) t (lfB D (uF tx) t q1) (q1, none)).1 && !(decide (tVl (uF tx) t (mq (uF tx) t (lfB D (uF tx) t q1) (q1, none)).1 = tVl (uF tx) t q1))) (mq (uF tx) t (lfB D (uF tx) t q1) (q1, none)) = (q3, none) := by
    rw [hone, mq_none, if_pos, e3]; unfold lfB
    simp only [Bool.and_eq_true, Bool.not_eq_true', decide_eq_false_iff_not, decide_eq_true_eq]
    exact ⟨⟨a26, a27.1⟩, a27.2⟩
  refine l_end hc a22 a23 ho a24 y3.2.1 (si := 5) (i := 0 + 1 + 1) (by decide) (by decide) (fun M9 g1 g2 g3 => ?_) (fun M8 b1 b2 b3 b4 b5 => ?_)
  · refine riQ_bad (a := tPl (uF tx) t q3) ?_ (ci_tr z2 g1) g2 (tPl_b _ y3.2.1).2
    show (scq (uF tx) t (mq (uF tx) t (lfB D (uF tx) t (mq (uF tx) t (lfB D (uF tx) t q1) (q1, none)).1 && !(decide (tVl (uF tx) t (mq (uF tx) t (lfB D (uF tx) t q1) (q1, none)).1 = tVl (uF tx) t q1))) (mq (uF tx) t (lfB D (uF tx) t q1) (q1, none)))).2 = _
    rw [hfull, scq_bad g3]
  have hDp : (rmF (uF tx) t (D, (q1, none))).1 = (upd (upd (upd D (80 + 2 * nK D) (nI (tVl (uF tx) t q1))) (80 + 2 * nK D + 1) (nI (tVl (uF tx) t q2))) 96 (nI (nK D + 1))) := by
    show upd (upd (upd D (80 + 2 * nK D) (nI (tVl (uF tx) t q1))) (80 + 2 * nK D + 1) (nI (tVl (uF tx) t (mq (uF tx) t (lfB D (uF tx) t q1) (q1, none)).1))) 96 (nI (nK D + 1)) = _
    rw [hone]
  have hW' := (hwd (by show (mq (uF tx) t (lfB D (uF tx) t (mq (uF tx) t (lfB D (uF tx) t q1) (q1, none)).1 && !(decide (tVl (uF tx) t (mq (uF tx) t (lfB D (uF tx) t q1) (q1, none)).1 = tVl (uF tx) t q1))) (mq (uF tx) t (lfB D (uF tx) t q1) (q1, none))).2 = none; rw [hfull])).1.1
  rw [hDp] at hW'
  refine v_aload_n dX2_readItem_114 rfl ?_
  refine v_iload_n dX2_readItem_115 rfl ?_
  refine v_aload_n dX2_readItem_116 rfl ?_
  refine v_getR (t := 3) dX2_readItem_117 fl_X2_15 ⟨by decide, rfl, by decide⟩ rfl rfl ?_
  refine v_iconst (v := (nI 0)) dX2_readItem_120 rfl ?_
  refine v_iald2 (n := 3) (a := 0) (y := (nI (tVl (uF tx) t q1))) dX2_readItem_121 ⟨by decide, rfl, rfl⟩ (rfl) (by omega) (by rw [b4, a25, upd_ne (by decide), a15, upd_eq]) ?_
  refine v_aload_n dX2_readItem_122 rfl ?_
  refine v_getR (t := 3) dX2_readItem_123 fl_X2_15 ⟨by decide, rfl, by decide⟩ rfl rfl ?_
  refine v_iconst (v := (nI 1)) dX2_readItem_126 rfl ?_
  refine v_iald2 (n := 3) (a := 1) (y := (nI (tVl (uF tx) t q2))) dX2_readItem_127 ⟨by decide, rfl, rfl⟩ (rfl) (by omega) (by rw [b4, a25, upd_eq]) ?_
  refine v_aload_n dX2_readItem_128 rfl ?_
  refine v_getR (t := 3) dX2_readItem_129 fl_X2_15 ⟨by decide, rfl, by decide⟩ rfl rfl ?_
  refine v_iconst (v := (nI 2)) dX2_readItem_132 rfl ?_
  refine v_iald2 (n := 3) (a := 2) (y := (M8 3 2)) dX2_readItem_133 ⟨by decide, rfl, rfl⟩ (rfl) (by omega) (rfl) ?_
  refine v_callV (as := [.int (nI 103), .int (nI (tVl (uF tx) t q1)), .int (nI (tVl (uF tx) t q2)), .int (M8 3 2)]) (st := []) dX2_readItem_134 ml_X2_76 kv_X0_add (ob_c hc) ⟨(Nat.le_of_ble_eq_true rfl), (Nat.le_of_ble_eq_true rfl)⟩ rfl (Nat.le_of_ble_eq_true rfl) rfl (Nat.le_of_ble_eq_true rfl) (c_add_103 hc b2 hW a17.1 a27.1.1 (fun e => a27.2 e.symm)) (fun v M7 hq9 => ?_)
  obtain ⟨rfl, k1, k2, k3, k4, k5, k6⟩ := hq9
  refine v_iconst (v := (nI 1)) dX2_readItem_137 rfl ?_
  refine v_zret dX2_readItem_138 rfl (Or.inr rfl) ?_
  refine riQ_ok ?_ (ci_tr (ci_tr z2 b1) ⟨fun i _ _ d => k1 i (by omega) (by omega), fun j _ => by rw [k1 1 (by omega) (by omega)]⟩) ?_ ?_
  · show (scq (uF tx) t (mq (uF tx) t (lfB D (uF tx) t (mq (uF tx) t (lfB D (uF tx) t q1) (q1, none)).1 && !(decide (tVl (uF tx) t (mq (uF tx) t (lfB D (uF tx) t q1) (q1, none)).1 = tVl (uF tx) t q1))) (mq (uF tx) t (lfB D (uF tx) t q1) (q1, none)))).2 = none
    rw [hfull, scq_ok b5]
  · show CIR0 _ c (rmF (uF tx) t (D, (q1, none))).1
    rw [hDp]
    have ot : ∀ i, i ≠ 80 + 2 * nK D → i ≠ 80 + 2 * nK D + 1 → i ≠ 96 → tN (upd (upd (upd D (80 + 2 * nK D) (nI (tVl (uF tx) t q1))) (80 + 2 * nK D + 1) (nI (tVl (uF tx) t q2))) 96 (nI (nK D + 1))) i = tN D i := fun i h1 h2 h3 => by unfold tN; rw [upd_ne h3, upd_ne h2, upd_ne h1]
    have hv1 := tVl_b (uF tx) t q1
    have hv2 := tVl_b (uF tx) t q2
    have eK : nK (upd (upd (upd D (80 + 2 * nK D) (nI (tVl (uF tx) t q1))) (80 + 2 * nK D + 1) (nI (tVl (uF tx) t q2))) 96 (nI (nK D + 1))) = nK D + 1 := tN_nI upd_eq (by omega)
    have eN : nN (upd (upd (upd D (80 + 2 * nK D) (nI (tVl (uF tx) t q1))) (80 + 2 * nK D + 1) (nI (tVl (uF tx) t q2))) 96 (nI (nK D + 1))) = nN D := ot 95 (by omega) (by omega) (by omega)
    have em1 : mk (upd (upd (upd D (80 + 2 * nK D) (nI (tVl (uF tx) t q1))) (80 + 2 * nK D + 1) (nI (tVl (uF tx) t q2))) 96 (nI (nK D + 1))) (2 * nK D) = tVl (uF tx) t q1 := tN_nI (by rw [upd_ne (by omega), upd_ne (by omega), upd_eq]) (by omega)
    have em2 : mk (upd (upd (upd D (80 + 2 * nK D) (nI (tVl (uF tx) t q1))) (80 + 2 * nK D + 1) (nI (tVl (uF tx) t q2))) 96 (nI (nK D + 1))) (2 * nK D + 1) = tVl (uF tx) t q2 := tN_nI (i := 80 + (2 * nK D + 1)) (by rw [upd_ne (by omega), show 80 + (2 * nK D + 1) = 80 + 2 * nK D + 1 by omega, upd_eq]) (by omega)
    refine CIR0_alt b2 hW hW' eN (fun m hm => ⟨ot m (by omega) (by omega) (by omega), ot (16 + m) (by omega) (by omega) (by omega), fun k hk => ot (32 + 3 * m + k) (by omega) (by omega) (by omega)⟩) (k2 0 (by decide)) (by rw [k3, eK]) (fun i a b => k1 _ (by omega) (by omega)) (fun n hn b hb => ?_) (fun j hj => ?_)
    · rw [eK]
      simp only [mkB]
      rw [em1, em2, mkB_sam (fun i hi => ot (80 + i) (by omega) (by omega) (by omega)), ← b2.mb hn hb]
      have hb1 : ∀ v, v < nN D → bt (bx v) b = decide (b = v) := fun v hv => b_bx (by omega) (by omega)
      by_cases n1 : n = tVl (uF tx) t q1
      · rw [n1, k4, b_or, hb1 _ a27.1.1]
        have hne : ¬ tVl (uF tx) t q2 = tVl (uF tx) t q1 := a27.2
        by_cases n2 : b = tVl (uF tx) t q2
        · simp [n2]
        · have n3 : ¬ tVl (uF tx) t q2 = b := fun z => n2 z.symm
          simp [n2, n3, hne]
      · by_cases n2 : n = tVl (uF tx) t q2
        · rw [n2, k5, b_or, hb1 _ a17.1]
          have hne : ¬ tVl (uF tx) t q1 = tVl (uF tx) t q2 := fun z => a27.2 z.symm
          by_cases n4 : b = tVl (uF tx) t q1
          · simp [n4]
          · have n3 : ¬ tVl (uF tx) t q1 = b := fun z => n4 z.symm
            simp [n4, n3, hne]
        · have n3 : ¬ tVl (uF tx) t q1 = n := fun z => n1 z.symm
          have n4 : ¬ tVl (uF tx) t q2 = n := fun z => n2 z.symm
          rw [k6 n n1 n2]
          simp [n3, n4]
    · rw [k1 _ (by omega) (by omega), b2.pe hj, show pe (upd (upd (upd D (80 + 2 * nK D) (nI (tVl (uF tx) t q1))) (80 + 2 * nK D + 1) (nI (tVl (uF tx) t q2))) 96 (nI (nK D + 1))) j = pe D j from ot (92 + j) (by omega) (by omega) (by omega)]
  · show _ = nI (scq (uF tx) t (mq (uF tx) t (lfB D (uF tx) t (mq (uF tx) t (lfB D (uF tx) t q1) (q1, none)).1 && !(decide (tVl (uF tx) t (mq (uF tx) t (lfB D (uF tx) t q1) (q1, none)).1 = tVl (uF tx) t q1))) (mq (uF tx) t (lfB D (uF tx) t q1) (q1, none)))).1
    rw [hfull, scq_ok b5, k1 1 (by omega) (by omega), b3]
set_option maxRecDepth 100000 in
theorem rd_101 (hc : c = 4 ∨ c = 14) (hD : CIR0 M c D) (hWD : WD D) (hx : cX M tx t) (ho : xOK tx t) {q0 : Nat} (hk : cTK M (uF tx) t q0) (hq0 : q0 ≤ t) (h1 : tTk (uF tx) t q0 = 101) : V kX2_readItem (riQ M c t (itR (uF tx) t D q0)) M 0 [(0, .ref 1), (1, .ref c)] [] := by
  have hW := hWD.1
  have h16 := hW.n16
  have hK6 := hW.2.1.2
  have hu : ∀ j, j < t → uF tx j ≤ 255 := fun j hj => (ho.2 j hj).2
  have hx4 : M 1 4 = nI 101 := hk.2.2.1.trans ((cT4_c hu hq0 (Or.inl (by decide))).mpr h1)
  have hrm : rmB D 101 = true ↔ nK D < 6 := rm_m (by decide)
  refine rd_start hc hx4 (si := 5) (by decide) (by decide) c_sh_101 (c_room_101 hc hD hW) (fun hb => ?_) (fun hb => ?_)
  · exact riQ_bad (by rw [it_no h1 (fun z => hb (hrm.mp z))]) (ci_rf c M) hk.2.1 (tPl_b _ hq0).2
  rw [it_room h1 (hrm.mpr hb)]
  have hwd := rmF_WD (u := uF tx) (t := t) (z := (D, (tNx (uF tx) t q0, none))) hWD hb
  have y1 := tNx_b (uF tx) hq0
  generalize e1 : tNx (uF tx) t q0 = q1 at *
  have hz2 : (((riB (uF tx) t 101 (D, (q1, none))).1, scq (uF tx) t (riB (uF tx) t 101 (D, (q1, none))).2) : pS) = ((rmF (uF tx) t (D, (q1, none))).1, scq (uF tx) t (mq (uF tx) t (lfB D (uF tx) t (mq (uF tx) t (lfB D (uF tx) t q1) (q1, none)).1 && !(decide (tVl (uF tx) t (mq (uF tx) t (lfB D (uF tx) t q1) (q1, none)).1 = tVl (uF tx) t q1))) (mq (uF tx) t (lfB D (uF tx) t q1) (q1, none)))) := rfl
  rw [hz2]
  refine l_step hc hD hx ho (by rw [hk.1, e1]) y1.2.1 (si := 5) (i := 0) (by decide) (by decide) (b := tVl (uF tx) t q1 < nN D ∧ so D (tVl (uF tx) t q1) ≤ 1) (fun M9 g1 g2 => c_alL hc g2 hW (tVl_b _ _ _)) (fun M9 g1 g2 g3 => ?_) (fun M1 a11 a12 a13 a14 a15 a16 a17 => ?_)
  · refine riQ_bad (a := tPl (uF tx) t q1) ?_ g1 g2 (tPl_b _ y1.2.1).2
    show (scq (uF tx) t (mq (uF tx) t (lfB D (uF tx) t (mq (uF tx) t (lfB D (uF tx) t q1) (q1, none)).1 && !(decide (tVl (uF tx) t (mq (uF tx) t (lfB D (uF tx) t q1) (q1, none)).1 = tVl (uF tx) t q1))) (mq (uF tx) t (lfB D (uF tx) t q1) (q1, none)))).2 = _
    have e9 : mq (uF tx) t (lfB D (uF tx) t q1) (q1, none) = (q1, some (tPl (uF tx) t q1)) := by
      rw [mq_none, if_neg]; unfold lfB; rw [decide_eq_true_eq]; exact fun z => g3 ⟨z.1, z.2⟩
    rw [e9]
    rfl
  have y2 := tNx_b (uF tx) y1.2.1
  generalize e2 : tNx (uF tx) t q1 = q2 at *
  have hone : mq (uF tx) t (lfB D (uF tx) t q1) (q1, none) = (q2, none) := by
    rw [mq_none, if_pos, e2]; unfold lfB; rw [decide_eq_true_eq]; exact ⟨a16, a17⟩
  refine l_step hc a12 a13 ho a14 y2.2.1 (si := 5) (i := 0 + 1) (by decide) (by decide) (b := (tVl (uF tx) t q2 < nN D ∧ so D (tVl (uF tx) t q2) ≤ 1) ∧ tVl (uF tx) t q2 ≠ tVl (uF tx) t q1) (fun M9 g1 g2 => by rw [a15, upd_eq]; exact c_alM hc g2 hW (tVl_b _ _ _) (tVl_b _ _ _)) (fun M9 g1 g2 g3 => ?_) (fun M2 a21 a22 a23 a24 a25 a26 a27 => ?_)
  · refine riQ_bad (a := tPl (uF tx) t q2) ?_ (ci_tr a11 g1) g2 (tPl_b _ y2.2.1).2
    show (scq (uF tx) t (mq (uF tx) t (lfB D (uF tx) t (mq (uF tx) t (lfB D (uF tx) t q1) (q1, none)).1 && !(decide (tVl (uF tx) t (mq (uF tx) t (lfB D (uF tx) t q1) (q1, none)).1 = tVl (uF tx) t q1))) (mq (uF tx) t (lfB D (uF tx) t q1) (q1, none)))).2 = _
    have e9 : mq (uF tx) t (lfB D (uF tx) t (mq (uF tx) t (lfB D (uF tx) t q1) (q1, none)).1 && !(decide (tVl (uF tx) t (mq (uF tx) t (lfB D (uF tx) t q1) (q1, none)).1 = tVl (uF tx) t q1))) (mq (uF tx) t (lfB D (uF tx) t q1) (q1, none)) = (q2, some (tPl (uF tx) t q2)) := by
      rw [hone, mq_none, if_neg]; unfold lfB
      simp only [Bool.and_eq_true, Bool.not_eq_true', decide_eq_false_iff_not, decide_eq_true_eq]
      exact fun z => g3 ⟨z.1.1, z.1.2, z.2⟩
    rw [e9]
    rfl
  have z2 : ci c M M2 := ci_tr a11 a21
  have y3 := tNx_b (uF tx) y2.2.1
  generalize e3 : tNx (uF tx) t q2 = q3 at *
  have hfull : mq (uF tx) t (lfB D (uF tx) t (mq (uF tx) t (lfB D (uF tx) t q1) (q1, none)).1 && !(decide (tVl (uF tx) t (mq (uF tx) t (lfB D (uF tx) t q1) (q1, none)).1 = tVl (uF tx) t q1))) (mq (uF tx) t (lfB D (uF tx) t q1) (q1, none)) = (q3, none) := by
    rw [hone, mq_none, if_pos, e3]; unfold lfB
    simp only [Bool.and_eq_true, Bool.not_eq_true', decide_eq_false_iff_not, decide_eq_true_eq]
    exact ⟨⟨a26, a27.1⟩, a27.2⟩
  refine l_end hc a22 a23 ho a24 y3.2.1 (si := 5) (i := 0 + 1 + 1) (by decide) (by decide) (fun M9 g1 g2 g3 => ?_) (fun M8 b1 b2 b3 b4 b5 => ?_)
  · refine riQ_bad (a := tPl (uF tx) t q3) ?_ (ci_tr z2 g1) g2 (tPl_b _ y3.2.1).2
    show (scq (uF tx) t (mq (uF tx) t (lfB D (uF tx) t (mq (uF tx) t (lfB D (uF tx) t q1) (q1, none)).1 && !(decide (tVl (uF tx) t (mq (uF tx) t (lfB D (uF tx) t q1) (q1, none)).1 = tVl (uF tx) t q1))) (mq (uF tx) t (lfB D (uF tx) t q1) (q1, none)))).2 = _
    rw [hfull, scq_bad g3]
  have hDp : (rmF (uF tx) t (D, (q1, none))).1 = (upd (upd (upd D (80 + 2 * nK D) (nI (tVl (uF tx) t q1))) (80 + 2 * nK D + 1) (nI (tVl (uF tx) t q2))) 96 (nI (nK D + 1))) := by
    show upd (upd (upd D (80 + 2 * nK D) (nI (tVl (uF tx) t q1))) (80 + 2 * nK D + 1) (nI (tVl (uF tx) t (mq (uF tx) t (lfB D (uF tx) t q1) (q1, none)).1))) 96 (nI (nK D + 1)) = _
    rw [hone]
  have hW' := (hwd (by show (mq (uF tx) t (lfB D (uF tx) t (mq (uF tx) t (lfB D (uF tx) t q1) (q1, none)).1 && !(decide (tVl (uF tx) t (mq (uF tx) t (lfB D (uF tx) t q1) (q1, none)).1 = tVl (uF tx) t q1))) (mq (uF tx) t (lfB D (uF tx) t q1) (q1, none))).2 = none; rw [hfull])).1.1
  rw [hDp] at hW'
  refine v_aload_n dX2_readItem_114 rfl ?_
  refine v_iload_n dX2_readItem_115 rfl ?_
  refine v_aload_n dX2_readItem_116 rfl ?_
  refine v_getR (t := 3) dX2_readItem_117 fl_X2_15 ⟨by decide, rfl, by decide⟩ rfl rfl ?_
  refine v_iconst (v := (nI 0)) dX2_readItem_120 rfl ?_
  refine v_iald2 (n := 3) (a := 0) (y := (nI (tVl (uF tx) t q1))) dX2_readItem_121 ⟨by decide, rfl, rfl⟩ (rfl) (by omega) (by rw [b4, a25, upd_ne (by decide), a15, upd_eq]) ?_
  refine v_aload_n dX2_readItem_122 rfl ?_
  refine v_getR (t := 3) dX2_readItem_123 fl_X2_15 ⟨by decide, rfl, by decide⟩ rfl rfl ?_
  refine v_iconst (v := (nI 1)) dX2_readItem_126 rfl ?_
  refine v_iald2 (n := 3) (a := 1) (y := (nI (tVl (uF tx) t q2))) dX2_readItem_127 ⟨by decide, rfl, rfl⟩ (rfl) (by omega) (by rw [b4, a25, upd_eq]) ?_
  refine v_aload_n dX2_readItem_128 rfl ?_
  refine v_getR (t := 3) dX2_readItem_129 fl_X2_15 ⟨by decide, rfl, by decide⟩ rfl rfl ?_
  refine v_iconst (v := (nI 2)) dX2_readItem_132 rfl ?_
  refine v_iald2 (n := 3) (a := 2) (y := (M8 3 2)) dX2_readItem_133 ⟨by decide, rfl, rfl⟩ (rfl) (by omega) (rfl) ?_
  refine v_callV (as := [.int (nI 101), .int (nI (tVl (uF tx) t q1)), .int (nI (tVl (uF tx) t q2)), .int (M8 3 2)]) (st := []) dX2_readItem_134 ml_X2_76 kv_X0_add (ob_c hc) ⟨(Nat.le_of_ble_eq_true rfl), (Nat.le_of_ble_eq_true rfl)⟩ rfl (Nat.le_of_ble_eq_true rfl) rfl (Nat.le_of_ble_eq_true rfl) (c_add_101 hc b2 hW a17.1 a27.1.1 (fun e => a27.2 e.symm)) (fun v M7 hq9 => ?_)
  obtain ⟨rfl, k1, k2, k3, k4, k5, k6⟩ := hq9
  refine v_iconst (v := (nI 1)) dX2_readItem_137 rfl ?_
  refine v_zret dX2_readItem_138 rfl (Or.inr rfl) ?_
  refine riQ_ok ?_ (ci_tr (ci_tr z2 b1) ⟨fun i _ _ d => k1 i (by omega) (by omega), fun j _ => by rw [k1 1 (by omega) (by omega)]⟩) ?_ ?_
  · show (scq (uF tx) t (mq (uF tx) t (lfB D (uF tx) t (mq (uF tx) t (lfB D (uF tx) t q1) (q1, none)).1 && !(decide (tVl (uF tx) t (mq (uF tx) t (lfB D (uF tx) t q1) (q1, none)).1 = tVl (uF tx) t q1))) (mq (uF tx) t (lfB D (uF tx) t q1) (q1, none)))).2 = none
    rw [hfull, scq_ok b5]
  · show CIR0 _ c (rmF (uF tx) t (D, (q1, none))).1
    rw [hDp]
    have ot : ∀ i, i ≠ 80 + 2 * nK D → i ≠ 80 + 2 * nK D + 1 → i ≠ 96 → tN (upd (upd (upd D (80 + 2 * nK D) (nI (tVl (uF tx) t q1))) (80 + 2 * nK D + 1) (nI (tVl (uF tx) t q2))) 96 (nI (nK D + 1))) i = tN D i := fun i h1 h2 h3 => by unfold tN; rw [upd_ne h3, upd_ne h2, upd_ne h1]
    have hv1 := tVl_b (uF tx) t q1
    have hv2 := tVl_b (uF tx) t q2
    have eK : nK (upd (upd (upd D (80 + 2 * nK D) (nI (tVl (uF tx) t q1))) (80 + 2 * nK D + 1) (nI (tVl (uF tx) t q2))) 96 (nI (nK D + 1))) = nK D + 1 := tN_nI upd_eq (by omega)
    have eN : nN (upd (upd (upd D (80 + 2 * nK D) (nI (tVl (uF tx) t q1))) (80 + 2 * nK D + 1) (nI (tVl (uF tx) t q2))) 96 (nI (nK D + 1))) = nN D := ot 95 (by omega) (by omega) (by omega)
    have em1 : mk (upd (upd (upd D (80 + 2 * nK D) (nI (tVl (uF tx) t q1))) (80 + 2 * nK D + 1) (nI (tVl (uF tx) t q2))) 96 (nI (nK D + 1))) (2 * nK D) = tVl (uF tx) t q1 := tN_nI (by rw [upd_ne (by omega), upd_ne (by omega), upd_eq]) (by omega)
    have em2 : mk (upd (upd (upd D (80 + 2 * nK D) (nI (tVl (uF tx) t q1))) (80 + 2 * nK D + 1) (nI (tVl (uF tx) t q2))) 96 (nI (nK D + 1))) (2 * nK D + 1) = tVl (uF tx) t q2 := tN_nI (i := 80 + (2 * nK D + 1)) (by rw [upd_ne (by omega), show 80 + (2 * nK D + 1) = 80 + 2 * nK D + 1 by omega, upd_eq]) (by omega)
    refine CIR0_alt b2 hW hW' eN (fun m hm => ⟨ot m (by omega) (by omega) (by omega), ot (16 + m) (by omega) (by omega) (by omega), fun k hk => ot (32 + 3 * m + k) (by omega) (by omega) (by omega)⟩) (k2 0 (by decide)) (by rw [k3, eK]) (fun i a b => k1 _ (by omega) (by omega)) (fun n hn b hb => ?_) (fun j hj => ?_)
    · rw [eK]
      simp only [mkB]
      rw [em1, em2, mkB_sam (fun i hi => ot (80 + i) (by omega) (by omega) (by omega)), ← b2.mb hn hb]
      have hb1 : ∀ v, v < nN D → bt (bx v) b = decide (b = v) := fun v hv => b_bx (by omega) (by omega)
      by_cases n1 : n = tVl (uF tx) t q1
      · rw [n1, k4, b_or, hb1 _ a27.1.1]
        have hne : ¬ tVl (uF tx) t q2 = tVl (uF tx) t q1 := a27.2
        by_cases n2 : b = tVl (uF tx) t q2
        · simp [n2]
        · have n3 : ¬ tVl (uF tx) t q2 = b := fun z => n2 z.symm
          simp [n2, n3, hne]
      · by_cases n2 : n = tVl (uF tx) t q2
        · rw [n2, k5, b_or, hb1 _ a17.1]
          have hne : ¬ tVl (uF tx) t q1 = tVl (uF tx) t q2 := fun z => a27.2 z.symm
          by_cases n4 : b = tVl (uF tx) t q1
          · simp [n4]
          · have n3 : ¬ tVl (uF tx) t q1 = b := fun z => n4 z.symm
            simp [n4, n3, hne]
        · have n3 : ¬ tVl (uF tx) t q1 = n := fun z => n1 z.symm
          have n4 : ¬ tVl (uF tx) t q2 = n := fun z => n2 z.symm
          rw [k6 n n1 n2]
          simp [n3, n4]
    · rw [k1 _ (by omega) (by omega), b2.pe hj, show pe (upd (upd (upd D (80 + 2 * nK D) (nI (tVl (uF tx) t q1))) (80 + 2 * nK D + 1) (nI (tVl (uF tx) t q2))) 96 (nI (nK D + 1))) j = pe D j from ot (92 + j) (by omega) (by omega) (by omega)]
  · show _ = nI (scq (uF tx) t (mq (uF tx) t (lfB D (uF tx) t (mq (uF tx) t (lfB D (uF tx) t q1) (q1, none)).1 && !(decide (tVl (uF tx) t (mq (uF tx) t (lfB D (uF tx) t q1) (q1, none)).1 = tVl (uF tx) t q1))) (mq (uF tx) t (lfB D (uF tx) t q1) (q1, none)))).1
    rw [hfull, scq_ok b5, k1 1 (by omega) (by omega), b3]
theorem sh_none {u : Nat → Nat} {q0 : Nat} (hu : ∀ j, j < t → u j ≤ 255) (hq : q0 ≤ t) (h0 : tTk u t q0 ≠ 0) (hi : ¬ isIt (tTk u t q0)) : V kX2_shapeOf (rt (.ref (80 + 6)) M) M 0 [(0, .int (cT4 u t q0))] [] := by
  have hp := tTk_0 hq h0
  unfold cT4
  rw [if_neg (by omega)]
  by_cases h2 : isD (u (tPl u t q0))
  · rw [if_pos h2]
    split
    · exact c_shO (Or.inl (by decide))
    · exact c_shO (Or.inl (by decide))
  · rw [if_neg h2]
    have hn : ¬ isIt (u (tPl u t q0)) := fun z => by
      apply hi
      unfold tTk
      rw [if_neg (by omega), if_neg h2, if_pos (Or.inl z)]
      exact z
    have hc := hu (tPl u t q0) hp
    have e : shN (u (tPl u t q0)) = 6 := by
      unfold shN
      rw [if_neg (by omega), if_neg (by omega), if_neg (by omega), if_neg (by omega), if_neg (by omega), if_neg (by omega)]
    have := c_shape (M := M) (c := u (tPl u t q0)) (by omega)
    rw [e] at this
    exact this
theorem rm_none {a : Nat} (h : ¬ isIt a) : ¬ rmB D a = true := by
  unfold rmB; rw [decide_eq_true_eq]
  rintro (z | z | z)
  · apply z.1
    unfold soO
    rw [if_neg (by omega), if_neg (by omega), if_neg (by omega), if_neg (by omega), if_neg (by omega), if_neg (by omega)]
  · omega
  · omega
theorem c_rItem (hc : c = 4 ∨ c = 14) (hD : CIR0 M c D) (hWD : WD D) (hx : cX M tx t) (ho : xOK tx t) {q0 : Nat} (hk : cTK M (uF tx) t q0) (hq0 : q0 ≤ t) (h0 : tTk (uF tx) t q0 ≠ 0) : V kX2_readItem (riQ M c t (itR (uF tx) t D q0)) M 0 [(0, .ref 1), (1, .ref c)] [] := by
  by_cases hi : isIt (tTk (uF tx) t q0)
  · rcases hi with h | h | h | h | h | h | h | h | h
    · exact rd_105 hc hD hWD hx ho hk hq0 h
    · exact rd_114 hc hD hWD hx ho hk hq0 h
    · exact rd_97 hc hD hWD hx ho hk hq0 h
    · exact rd_111 hc hD hWD hx ho hk hq0 h
    · exact rd_120 hc hD hWD hx ho hk hq0 h
    · exact rd_109 hc hD hWD hx ho hk hq0 h
    · exact rd_112 hc hD hWD hx ho hk hq0 h
    · exact rd_103 hc hD hWD hx ho hk hq0 h
    · exact rd_101 hc hD hWD hx ho hk hq0 h
  · exact rd_none hk.2.2.1 (sh_none (fun j hj => (ho.2 j hj).2) hq0 h0 hi) (riQ_bad (by rw [it_no rfl (rm_none hi)]) (ci_rf c M) hk.2.1 (tPl_b _ hq0).2)
def inQ (M0 : vM) (c t : Nat) : Nat ⊕ ((Nat → Int32) × Nat) → Option Value → vM → Prop
  | .inl a => fun v M' => ci c M0 M' ∧ v = some (.int ((-10) - nI a)) ∧ a ≤ t
  | .inr (D, m) => fun v M' => ci c M0 M' ∧ v = some (.int (nI m)) ∧ CIR M' c D ∧ WF D ∧ m ≤ t
set_option maxRecDepth 100000 in
theorem l_in (hc : c = 4 ∨ c = 14) (hx : cX M0 tx t) (ho : xOK tx t) (d : Nat) : ∀ (D : Nat → Int32) (q m : Nat) (M : vM), t - q < d → q ≤ t → m ≤ q → CIR0 M c D → WD D → M 1 2 = nI q → ci c M0 M → V kX2_readInto (inQ M0 c t (prN (uF tx) t d D q m)) M 11 [(0, .ref 1), (1, .ref c), (2, .int (nI m))] [] := by
  have ht := ho.1
  have hu : ∀ j, j < t → uF tx j ≤ 255 := fun j hj => (ho.2 j hj).2
  induction d with
  | zero => intro D q m M h; omega
  | succ d ih =>
    intro D q m M hlt hqt hmq h hD hq hz
    refine v_iload_n dX2_readInto_11 rfl ?_
    refine v_sipush (v := (nI 160)) dX2_readInto_12 rfl ?_
    refine v_icmpN_gt (tgt := 54) dX2_readInto_15 (by decide) (by omega) (by omega) (fun c15 => (absurd c15 (by omega))) (fun c15 => ?_)
    refine v_aload_n dX2_readInto_18 rfl ?_
    refine v_callV (as := []) (st := []) dX2_readInto_19 ml_X2_31 kv_X2_readToken ⟨by decide, rfl, by decide⟩ ⟨(Nat.le_of_ble_eq_true rfl), (Nat.le_of_ble_eq_true rfl)⟩ rfl (Nat.le_of_ble_eq_true rfl) rfl (Nat.le_of_ble_eq_true rfl) (c_rt (cX_ci hc hx hz) ho hq hqt) (fun v M1 hq9 => ?_)
    obtain ⟨rfl, g1, g2⟩ := hq9
    refine v_aload_n dX2_readInto_22 rfl ?_
    refine v_getI2 (y := (cT4 (uF tx) t q)) dX2_readInto_23 fl_X2_34 ⟨by decide, rfl, by decide⟩ rfl (g2.2.2.1) ?_
    refine v_bipush (v := (-2)) dX2_readInto_26 (by decide) ?_
    refine v_icmp_ne (tgt := 37) dX2_readInto_28 (by decide) (fun c28 => ?_) (fun c28 => ?_)
    · have h0 : tTk (uF tx) t q ≠ 0 := fun z => c28 ((cT4_2 hu hqt).mpr z)
      have k1 : CIR0 M1 c D := CIR0_c h (fun i a b => g1.1 i (by omega))
      have k2 : cX M1 tx t := cX_cn (cX_ci hc hx hz) g1
      cases hf : (itR (uF tx) t D q).2.2 with
      | some a =>
        skip
        refine v_aload_n dX2_readInto_37 rfl ?_
        refine v_aload_n dX2_readInto_38 rfl ?_
        refine v_callV (as := [.ref c]) (st := []) dX2_readInto_39 ml_X2_40 kv_X2_readItem ⟨by decide, rfl, by decide⟩ ⟨(Nat.le_of_ble_eq_true rfl), (Nat.le_of_ble_eq_true rfl)⟩ rfl (Nat.le_of_ble_eq_true rfl) rfl (Nat.le_of_ble_eq_true rfl) (c_rItem hc k1 hD k2 ho g2 hqt h0) (fun v M2 hq9 => ?_)
        obtain ⟨r1, r2, -⟩ := hq9
        obtain ⟨rfl, r3, r4⟩ := r2 a hf
        refine v_ifN_ne (tgt := 48) dX2_readInto_42 (by decide) (by decide) (fun c42 => (absurd rfl c42)) (fun c42 => ?_)
        refine v_goto (tgt := 54) dX2_readInto_45 (by decide) ?_
        refine v_bipush (v := (-10)) dX2_readInto_54 (by decide) ?_
        refine v_aload_n dX2_readInto_56 rfl ?_
        refine v_getI2 (y := (nI a)) dX2_readInto_57 fl_X2_44 ⟨by decide, rfl, by decide⟩ rfl (r3) ?_
        refine v_isub dX2_readInto_60 ?_
        refine v_iret dX2_readInto_61 rfl ?_
        rw [show prN (uF tx) t (d + 1) D q m = .inl a by simp only [prN]; rw [if_neg h0, hf]]
        exact ⟨ci_tr hz (ci_tr (ci_cn g1) r1), rfl, r4⟩
      | none =>
        skip
        refine v_aload_n dX2_readInto_37 rfl ?_
        refine v_aload_n dX2_readInto_38 rfl ?_
        refine v_callV (as := [.ref c]) (st := []) dX2_readInto_39 ml_X2_40 kv_X2_readItem ⟨by decide, rfl, by decide⟩ ⟨(Nat.le_of_ble_eq_true rfl), (Nat.le_of_ble_eq_true rfl)⟩ rfl (Nat.le_of_ble_eq_true rfl) rfl (Nat.le_of_ble_eq_true rfl) (c_rItem hc k1 hD k2 ho g2 hqt h0) (fun v M2 hq9 => ?_)
        obtain ⟨r1, -, r2⟩ := hq9
        obtain ⟨rfl, r3, r4⟩ := r2 hf
        refine v_ifN_ne (tgt := 48) dX2_readInto_42 (by decide) (by decide) (fun c42 => ?_) (fun c42 => (absurd c42 (by decide)))
        refine v_iincN (lv' := [(0, .ref 1), (1, .ref c), (2, .int (nI (m + 1)))]) dX2_readInto_48 rfl (Nat.le_of_ble_eq_true rfl) rfl ?_
        refine v_goto (tgt := 11) dX2_readInto_51 (by decide) ?_
        have hg := itR_gt hqt h0 hf
        rw [show prN (uF tx) t (d + 1) D q m = prN (uF tx) t d (itR (uF tx) t D q).1 (itR (uF tx) t D q).2.1 (m + 1) by simp only [prN]; rw [if_neg h0, hf]]
        exact ih _ _ _ M2 (by omega) hg.2 (by omega) r3 (itR_WD hD hf) r4 (ci_tr hz (ci_tr (ci_cn g1) r1))
    · refine v_aload_n dX2_readInto_31 rfl ?_
      refine v_callV (as := []) (st := []) dX2_readInto_32 ml_X2_37 kv_X0_measureDepths (ob_c hc) ⟨(Nat.le_of_ble_eq_true rfl), (Nat.le_of_ble_eq_true rfl)⟩ rfl (Nat.le_of_ble_eq_true rfl) rfl (Nat.le_of_ble_eq_true rfl) (c_md hc (CIR0_c h (fun i a b => g1.1 i (by omega))) hD.1) (fun v M2 hq9 => ?_)
      obtain ⟨rfl, r1, r2⟩ := hq9
      refine v_iload_n dX2_readInto_35 rfl ?_
      refine v_iret dX2_readInto_36 rfl ?_
      have h0 : tTk (uF tx) t q = 0 := (cT4_2 hu hqt).mp c28
      rw [show prN (uF tx) t (d + 1) D q m = .inr (D, m) by simp only [prN]; rw [if_pos h0]]
      have r3 : ci c M1 M2 := ⟨fun i _ _ z => r1 i (by omega), fun j _ => by rw [r1 1 (by omega)]⟩
      exact ⟨ci_tr hz (ci_tr (ci_cn g1) r3), rfl, ⟨CIR0_7 (CIR0_c h (fun i a b => g1.1 i (by omega))) r1, r2⟩, hD.1, by omega⟩
set_option maxRecDepth 100000 in
theorem c_rInto (hc : c = 4 ∨ c = 14) (hx : cX M0 tx t) (ho : xOK tx t) : V kX2_readInto (inQ M0 c t (prF tx t)) M0 0 [(0, .ref 1), (1, .ref c)] [] := by
  refine v_aload_n dX2_readInto_0 rfl ?_
  refine v_callV (as := []) (st := []) dX2_readInto_1 ml_X2_23 kv_X0_empty (ob_c hc) ⟨(Nat.le_of_ble_eq_true rfl), (Nat.le_of_ble_eq_true rfl)⟩ rfl (Nat.le_of_ble_eq_true rfl) rfl (Nat.le_of_ble_eq_true rfl) (c_cEmpty hc) (fun v M1 hq9 => ?_)
  obtain ⟨rfl, r1, r2⟩ := hq9
  refine v_aload_n dX2_readInto_4 rfl ?_
  refine v_iconst (v := (nI 0)) dX2_readInto_5 rfl ?_
  refine v_putI dX2_readInto_6 fl_X2_28 ⟨by decide, rfl, by decide⟩ rfl rfl rfl ?_
  refine v_iconst (v := (nI 0)) dX2_readInto_9 rfl ?_
  refine v_istore_n (lv' := [(0, .ref 1), (1, .ref c), (2, .int (nI 0))]) dX2_readInto_10 (Nat.le_of_ble_eq_true rfl) rfl ?_
  refine l_in hc hx ho (t + 1) b0 0 0 _ (by omega) (Nat.zero_le _) (Nat.le_refl _) (CIR0_c r2 (fun i a b => mup_ne (by omega))) b0_WD (by rw [mup_eq, upd_eq]) ⟨fun i a b d => (mup_ne a).trans (r1 i (by omega) (by omega)), fun j hj => ?_⟩
  rw [mup_eq, upd_ne (by omega), r1 1 (by omega) (by omega)]
end C57
