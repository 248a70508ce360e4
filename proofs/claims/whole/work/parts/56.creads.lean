/-! the class reads an item, letter by letter -/
section C56
variable {M M0 : vM} {c : Nat} {D tx : Nat → Int32} {t : Nat}
theorem rm_n {a : Nat} (h : soO a ≠ none) (h2 : ¬ (a = 103 ∨ a = 101) ∧ ¬ a = 112) : rmB D a = true ↔ nN D < 16 := by
  unfold rmB; rw [decide_eq_true_eq]
  constructor
  · rintro (z | z | z)
    · exact z.2
    · exact absurd z.1 h2.1
    · exact absurd z h2.2
  · intro z; exact Or.inl ⟨h, z⟩
theorem rm_m {a : Nat} (h : a = 103 ∨ a = 101) : rmB D a = true ↔ nK D < 6 := by
  unfold rmB; rw [decide_eq_true_eq]
  constructor
  · rintro (z | z | z)
    · rcases h with rfl | rfl <;> exact absurd rfl z.1
    · exact z.2
    · omega
  · intro z; exact Or.inr (Or.inl ⟨h, z⟩)
theorem rm_p : rmB D 112 = true := by
  unfold rmB; rw [decide_eq_true_eq]; exact Or.inr (Or.inr rfl)
theorem c_room_112 (hc : c = 4 ∨ c = 14) (h : CIR0 M c D) (hW : WF D) : V kX0_hasRoomFor (rt (.int (bI True)) M) M 0 [(0, .ref c), (1, .int (nI 112))] [] := by
  rw [bI_t trivial]; exact c_room_p hc h hW
set_option maxRecDepth 100000 in
theorem rd_105 (hc : c = 4 ∨ c = 14) (hD : CIR0 M c D) (hWD : WD D) (hx : cX M tx t) (ho : xOK tx t) {q0 : Nat} (hk : cTK M (uF tx) t q0) (hq0 : q0 ≤ t) (h1 : tTk (uF tx) t q0 = 105) : V kX2_readItem (riQ M c t (itR (uF tx) t D q0)) M 0 [(0, .ref 1), (1, .ref c)] [] := by
  have hW := hWD.1
  have h16 := hW.n16
  have hu : ∀ j, j < t → uF tx j ≤ 255 := fun j hj => (ho.2 j hj).2
  have hx4 : M 1 4 = nI 105 := hk.2.2.1.trans ((cT4_c hu hq0 (Or.inl (by decide))).mpr h1)
  have hrm : rmB D 105 = true ↔ nN D < 16 := rm_n (by decide) (by decide)
  refine rd_start hc hx4 (si := 0) (by decide) (by decide) c_sh_105 (c_room_105 hc hD hW) (fun hb => ?_) (fun hb => ?_)
  · exact riQ_bad (by rw [it_no h1 (fun z => hb (hrm.mp z))]) (ci_rf c M) hk.2.1 (tPl_b _ hq0).2
  rw [it_room h1 (hrm.mpr hb)]
  obtain ⟨f1, f2, f3, f4, f5, f6, f7, f8⟩ := rnF_f (u := uF tx) (t := t) (s := 0) (z := (D, (tNx (uF tx) t q0, none))) hW hb (by decide)
  have hwd := rnF_WD (u := uF tx) (t := t) (s := 0) (z := (D, (tNx (uF tx) t q0, none))) hWD hb (by decide)
  dsimp only at f1 f2 f3 f4 f5 f6 f7 f8 hwd
  have y1 := tNx_b (uF tx) hq0
  generalize e1 : tNx (uF tx) t q0 = q1 at *
  have hz : (rnF (uF tx) t 0 (D, (q1, none))).2 = nq (uF tx) t 0 3 (q1, none) := rfl
  have hz2 : (((riB (uF tx) t 105 (D, (q1, none))).1, scq (uF tx) t (riB (uF tx) t 105 (D, (q1, none))).2) : pS) = ((rnF (uF tx) t 0 (D, (q1, none))).1, scq (uF tx) t (nq (uF tx) t 0 3 (q1, none))) := rfl
  rw [hz2]
  generalize hDq : (rnF (uF tx) t 0 (D, (q1, none))).1 = D' at *
  refine l_step hc hD hx ho (by rw [hk.1, e1]) y1.2.1 (si := 0) (i := 0) (by decide) (by decide) (b := tVl (uF tx) t q1 < 3) (fun M9 g1 g2 => c_alC (tVl_b _ _ _)) (fun M9 g1 g2 g3 => ?_) (fun M1 a11 a12 a13 a14 a15 a16 a17 => ?_)
  · refine riQ_bad (a := tPl (uF tx) t q1) ?_ g1 g2 (tPl_b _ y1.2.1).2
    show (scq (uF tx) t (nq (uF tx) t 0 3 (q1, none))).2 = _
    rw [nq_bad (fun z => g3 ⟨z.1, z.2.2⟩)]
    rfl
  have z1 : ci c M M1 := a11
  have y2 := tNx_b (uF tx) y1.2.1
  generalize e2 : tNx (uF tx) t q1 = q2 at *
  refine l_end hc a12 a13 ho a14 y2.2.1 (si := 0) (i := 0 + 1) (by decide) (by decide) (fun M9 g1 g2 g3 => ?_) (fun M8 b1 b2 b3 b4 b5 => ?_)
  · refine riQ_bad (a := tPl (uF tx) t q2) ?_ (ci_tr z1 g1) g2 (tPl_b _ y2.2.1).2
    show (scq (uF tx) t (nq (uF tx) t 0 3 (q1, none))).2 = _
    rw [nq_ok a16 (Nat.zero_le _) a17, e2, scq_bad g3]
  have hfull : nq (uF tx) t 0 3 (q1, none) = (q2, none) := by rw [nq_ok a16 (Nat.zero_le _) a17, e2]
  have hW' : WF D' := (hwd (by rw [hz, hfull])).1.1
  have pc : ck D' (nN D) = tVl (uF tx) t q1 := f7 (by decide)
  refine v_aload_n dX2_readItem_114 rfl ?_
  refine v_iload_n dX2_readItem_115 rfl ?_
  refine v_aload_n dX2_readItem_116 rfl ?_
  refine v_getR (t := 3) dX2_readItem_117 fl_X2_15 ⟨by decide, rfl, by decide⟩ rfl rfl ?_
  refine v_iconst (v := (nI 0)) dX2_readItem_120 rfl ?_
  refine v_iald2 (n := 3) (a := 0) (y := (nI (tVl (uF tx) t q1))) dX2_readItem_121 ⟨by decide, rfl, rfl⟩ (rfl) (by omega) (by rw [b4, a15, upd_eq]) ?_
  refine v_aload_n dX2_readItem_122 rfl ?_
  refine v_getR (t := 3) dX2_readItem_123 fl_X2_15 ⟨by decide, rfl, by decide⟩ rfl rfl ?_
  refine v_iconst (v := (nI 1)) dX2_readItem_126 rfl ?_
  refine v_iald2 (n := 3) (a := 1) (y := (M8 3 1)) dX2_readItem_127 ⟨by decide, rfl, rfl⟩ (rfl) (by omega) (rfl) ?_
  refine v_aload_n dX2_readItem_128 rfl ?_
  refine v_getR (t := 3) dX2_readItem_129 fl_X2_15 ⟨by decide, rfl, by decide⟩ rfl rfl ?_
  refine v_iconst (v := (nI 2)) dX2_readItem_132 rfl ?_
  refine v_iald2 (n := 3) (a := 2) (y := (M8 3 2)) dX2_readItem_133 ⟨by decide, rfl, rfl⟩ (rfl) (by omega) (rfl) ?_
  refine v_callV (as := [.int (nI 105), .int (nI (tVl (uF tx) t q1)), .int (M8 3 1), .int (M8 3 2)]) (st := []) dX2_readItem_134 ml_X2_76 kv_X0_add (ob_c hc) ⟨(Nat.le_of_ble_eq_true rfl), (Nat.le_of_ble_eq_true rfl)⟩ rfl (Nat.le_of_ble_eq_true rfl) rfl (Nat.le_of_ble_eq_true rfl) (c_add_105 hc b2 hW hb (by omega)) (fun v M7 hq9 => ?_)
  obtain ⟨rfl, nw⟩ := hq9
  refine v_iconst (v := (nI 1)) dX2_readItem_137 rfl ?_
  refine v_zret dX2_readItem_138 rfl (Or.inr rfl) ?_
  refine riQ_ok ?_ (ci_tr (ci_tr z1 b1) (NW_ci hc nw).1) ?_ ?_
  · show (scq (uF tx) t (nq (uF tx) t 0 3 (q1, none))).2 = none
    rw [hfull, scq_ok b5]
  · exact NW_ext b2 hW hW' f1 f2 f3 f4 f5 nw (by rw [f6]) (by rw [f6, if_pos (by decide), pc]) (by rw [f6, if_neg (by decide)]) (by rw [f6, if_neg (by decide)]) (by rw [f6, if_neg (by decide)]) (by unfold pbF; rw [f6]; rfl) (by rw [lvF_eq hW' (by omega), f6, if_pos (by decide)]) (by rw [f6, if_neg (by decide)])
  · show _ = nI (scq (uF tx) t (nq (uF tx) t 0 3 (q1, none))).1
    rw [hfull, scq_ok b5, (NW_ci hc nw).2, b3]
set_option maxRecDepth 100000 in
theorem rd_114 (hc : c = 4 ∨ c = 14) (hD : CIR0 M c D) (hWD : WD D) (hx : cX M tx t) (ho : xOK tx t) {q0 : Nat} (hk : cTK M (uF tx) t q0) (hq0 : q0 ≤ t) (h1 : tTk (uF tx) t q0 = 114) : V kX2_readItem (riQ M c t (itR (uF tx) t D q0)) M 0 [(0, .ref 1), (1, .ref c)] [] := by
  have hW := hWD.1
  have h16 := hW.n16
  have hu : ∀ j, j < t → uF tx j ≤ 255 := fun j hj => (ho.2 j hj).2
  have hx4 : M 1 4 = nI 114 := hk.2.2.1.trans ((cT4_c hu hq0 (Or.inl (by decide))).mpr h1)
  have hrm : rmB D 114 = true ↔ nN D < 16 := rm_n (by decide) (by decide)
  refine rd_start hc hx4 (si := 1) (by decide) (by decide) c_sh_114 (c_room_114 hc hD hW) (fun hb => ?_) (fun hb => ?_)
  · exact riQ_bad (by rw [it_no h1 (fun z => hb (hrm.mp z))]) (ci_rf c M) hk.2.1 (tPl_b _ hq0).2
  rw [it_room h1 (hrm.mpr hb)]
  obtain ⟨f1, f2, f3, f4, f5, f6, f7, f8⟩ := rnF_f (u := uF tx) (t := t) (s := 1) (z := (D, (tNx (uF tx) t q0, none))) hW hb (by decide)
  have hwd := rnF_WD (u := uF tx) (t := t) (s := 1) (z := (D, (tNx (uF tx) t q0, none))) hWD hb (by decide)
  dsimp only at f1 f2 f3 f4 f5 f6 f7 f8 hwd
  have y1 := tNx_b (uF tx) hq0
  generalize e1 : tNx (uF tx) t q0 = q1 at *
  have hz : (rnF (uF tx) t 1 (D, (q1, none))).2 = nq (uF tx) t 0 (nN D) (nq (uF tx) t 0 3 (q1, none)) := rfl
  have hz2 : (((riB (uF tx) t 114 (D, (q1, none))).1, scq (uF tx) t (riB (uF tx) t 114 (D, (q1, none))).2) : pS) = ((rnF (uF tx) t 1 (D, (q1, none))).1, scq (uF tx) t (nq (uF tx) t 0 (nN D) (nq (uF tx) t 0 3 (q1, none)))) := rfl
  rw [hz2]
  generalize hDq : (rnF (uF tx) t 1 (D, (q1, none))).1 = D' at *
  refine l_step hc hD hx ho (by rw [hk.1, e1]) y1.2.1 (si := 1) (i := 0) (by decide) (by decide) (b := tVl (uF tx) t q1 < 3) (fun M9 g1 g2 => c_alC (tVl_b _ _ _)) (fun M9 g1 g2 g3 => ?_) (fun M1 a11 a12 a13 a14 a15 a16 a17 => ?_)
  · refine riQ_bad (a := tPl (uF tx) t q1) ?_ g1 g2 (tPl_b _ y1.2.1).2
    show (scq (uF tx) t (nq (uF tx) t 0 (nN D) (nq (uF tx) t 0 3 (q1, none)))).2 = _
    rw [nq_bad (fun z => g3 ⟨z.1, z.2.2⟩)]
    rfl
  have z1 : ci c M M1 := a11
  have y2 := tNx_b (uF tx) y1.2.1
  generalize e2 : tNx (uF tx) t q1 = q2 at *
  refine l_step hc a12 a13 ho a14 y2.2.1 (si := 1) (i := 0 + 1) (by decide) (by decide) (b := tVl (uF tx) t q2 < nN D) (fun M9 g1 g2 => c_alN hc g2 hW (tVl_b _ _ _)) (fun M9 g1 g2 g3 => ?_) (fun M2 a21 a22 a23 a24 a25 a26 a27 => ?_)
  · refine riQ_bad (a := tPl (uF tx) t q2) ?_ (ci_tr z1 g1) g2 (tPl_b _ y2.2.1).2
    show (scq (uF tx) t (nq (uF tx) t 0 (nN D) (nq (uF tx) t 0 3 (q1, none)))).2 = _
    rw [nq_ok a16 (Nat.zero_le _) a17, e2, nq_bad (fun z => g3 ⟨z.1, z.2.2⟩)]
    rfl
  have z2 : ci c M M2 := ci_tr z1 a21
  have y3 := tNx_b (uF tx) y2.2.1
  generalize e3 : tNx (uF tx) t q2 = q3 at *
  refine l_end hc a22 a23 ho a24 y3.2.1 (si := 1) (i := 0 + 1 + 1) (by decide) (by decide) (fun M9 g1 g2 g3 => ?_) (fun M8 b1 b2 b3 b4 b5 => ?_)
  · refine riQ_bad (a := tPl (uF tx) t q3) ?_ (ci_tr z2 g1) g2 (tPl_b _ y3.2.1).2
    show (scq (uF tx) t (nq (uF tx) t 0 (nN D) (nq (uF tx) t 0 3 (q1, none)))).2 = _
    rw [nq_ok a16 (Nat.zero_le _) a17, e2, nq_ok a26 (Nat.zero_le _) a27, e3, scq_bad g3]
  have hfull : nq (uF tx) t 0 (nN D) (nq (uF tx) t 0 3 (q1, none)) = (q3, none) := by rw [nq_ok a16 (Nat.zero_le _) a17, e2, nq_ok a26 (Nat.zero_le _) a27, e3]
  have hW' : WF D' := (hwd (by rw [hz, hfull])).1.1
  have p0 : pt D' (nN D) 0 = tVl (uF tx) t q2 := by
    rw [f8 0 (by decide)]
    show tVl (uF tx) t (nq (uF tx) t 0 3 (q1, none)).1 = _
    rw [nq_ok a16 (Nat.zero_le _) a17, e2]
  have pc : ck D' (nN D) = tVl (uF tx) t q1 := f7 (by decide)
  refine v_aload_n dX2_readItem_114 rfl ?_
  refine v_iload_n dX2_readItem_115 rfl ?_
  refine v_aload_n dX2_readItem_116 rfl ?_
  refine v_getR (t := 3) dX2_readItem_117 fl_X2_15 ⟨by decide, rfl, by decide⟩ rfl rfl ?_
  refine v_iconst (v := (nI 0)) dX2_readItem_120 rfl ?_
  refine v_iald2 (n := 3) (a := 0) (y := (nI (tVl (uF tx) t q1))) dX2_readItem_121 ⟨by decide, rfl, rfl⟩ (rfl) (by omega) (by rw [b4, a25, upd_ne (by decide), a15, upd_eq]) ?_
  refine v_aload_n dX2_readItem_122 rfl ?_
  refine v_getR (t := 3) dX2_readItem_123 fl_X2_15 ⟨by decide, rfl, by decide⟩ rfl rfl ?_
  refine v_iconst (v := (nI 1)) dX2_readItem_126 rfl ?_
  refine v_iald2 (n := 3) (a := 1) (y := (nI (tVl (uF tx) t q2))) dX2_readItem_127 ⟨by decide, rfl, rfl⟩ (rfl) (by omega) (by rw [b4, a25, upd_eq]) ?_
  refine v_aload_n dX2_readItem_128 rfl ?_
  refine v_getR (t := 3) dX2_readItem_129 fl_X2_15 ⟨by decide, rfl, by decide⟩ rfl rfl ?_
  refine v_iconst (v := (nI 2)) dX2_readItem_132 rfl ?_
  refine v_iald2 (n := 3) (a := 2) (y := (M8 3 2)) dX2_readItem_133 ⟨by decide, rfl, rfl⟩ (rfl) (by omega) (rfl) ?_
  refine v_callV (as := [.int (nI 114), .int (nI (tVl (uF tx) t q1)), .int (nI (tVl (uF tx) t q2)), .int (M8 3 2)]) (st := []) dX2_readItem_134 ml_X2_76 kv_X0_add (ob_c hc) ⟨(Nat.le_of_ble_eq_true rfl), (Nat.le_of_ble_eq_true rfl)⟩ rfl (Nat.le_of_ble_eq_true rfl) rfl (Nat.le_of_ble_eq_true rfl) (c_add_114 hc b2 hW hb (by omega) a27) (fun v M7 hq9 => ?_)
  obtain ⟨rfl, nw⟩ := hq9
  refine v_iconst (v := (nI 1)) dX2_readItem_137 rfl ?_
  refine v_zret dX2_readItem_138 rfl (Or.inr rfl) ?_
  refine riQ_ok ?_ (ci_tr (ci_tr z2 b1) (NW_ci hc nw).1) ?_ ?_
  · show (scq (uF tx) t (nq (uF tx) t 0 (nN D) (nq (uF tx) t 0 3 (q1, none)))).2 = none
    rw [hfull, scq_ok b5]
  · exact NW_ext b2 hW hW' f1 f2 f3 f4 f5 nw (by rw [f6]) (by rw [f6, if_pos (by decide), pc]) (by rw [f6, if_pos (by decide), p0]) (by rw [f6, if_neg (by decide)]) (by rw [f6, if_neg (by decide)]) (by unfold pbF; rw [f6]; show _ = nI 0 ||| bx (pt D' (nN D) 0); rw [p0]) (by rw [lvF_eq hW' (by omega), f6, if_pos (by decide)]) (by rw [f6, if_pos rfl, ul_fr hW hW' f1 f3 f6, pc, p0])
  · show _ = nI (scq (uF tx) t (nq (uF tx) t 0 (nN D) (nq (uF tx) t 0 3 (q1, none)))).1
    rw [hfull, scq_ok b5, (NW_ci hc nw).2, b3]
set_option maxRecDepth 100000 in
theorem rd_97 (hc : c = 4 ∨ c = 14) (hD : CIR0 M c D) (hWD : WD D) (hx : cX M tx t) (ho : xOK tx t) {q0 : Nat} (hk : cTK M (uF tx) t q0) (hq0 : q0 ≤ t) (h1 : tTk (uF tx) t q0 = 97) : V kX2_readItem (riQ M c t (itR (uF tx) t D q0)) M 0 [(0, .ref 1), (1, .ref c)] [] := by
  have hW := hWD.1
  have h16 := hW.n16
  have hu : ∀ j, j < t → uF tx j ≤ 255 := fun j hj => (ho.2 j hj).2
  have hx4 : M 1 4 = nI 97 := hk.2.2.1.trans ((cT4_c hu hq0 (Or.inl (by decide))).mpr h1)
  have hrm : rmB D 97 = true ↔ nN D < 16 := rm_n (by decide) (by decide)
  refine rd_start hc hx4 (si := 2) (by decide) (by decide) c_sh_97 (c_room_97 hc hD hW) (fun hb => ?_) (fun hb => ?_)
  · exact riQ_bad (by rw [it_no h1 (fun z => hb (hrm.mp z))]) (ci_rf c M) hk.2.1 (tPl_b _ hq0).2
  rw [it_room h1 (hrm.mpr hb)]
  obtain ⟨f1, f2, f3, f4, f5, f6, f7, f8⟩ := rnF_f (u := uF tx) (t := t) (s := 2) (z := (D, (tNx (uF tx) t q0, none))) hW hb (by decide)
  have hwd := rnF_WD (u := uF tx) (t := t) (s := 2) (z := (D, (tNx (uF tx) t q0, none))) hWD hb (by decide)
  dsimp only at f1 f2 f3 f4 f5 f6 f7 f8 hwd
  have y1 := tNx_b (uF tx) hq0
  generalize e1 : tNx (uF tx) t q0 = q1 at *
  have hz : (rnF (uF tx) t 2 (D, (q1, none))).2 = nq (uF tx) t 0 (nN D) (nq (uF tx) t 0 (nN D) (q1, none)) := rfl
  have hz2 : (((riB (uF tx) t 97 (D, (q1, none))).1, scq (uF tx) t (riB (uF tx) t 97 (D, (q1, none))).2) : pS) = ((rnF (uF tx) t 2 (D, (q1, none))).1, scq (uF tx) t (nq (uF tx) t 0 (nN D) (nq (uF tx) t 0 (nN D) (q1, none)))) := rfl
  rw [hz2]
  generalize hDq : (rnF (uF tx) t 2 (D, (q1, none))).1 = D' at *
  refine l_step hc hD hx ho (by rw [hk.1, e1]) y1.2.1 (si := 2) (i := 0) (by decide) (by decide) (b := tVl (uF tx) t q1 < nN D) (fun M9 g1 g2 => c_alN hc g2 hW (tVl_b _ _ _)) (fun M9 g1 g2 g3 => ?_) (fun M1 a11 a12 a13 a14 a15 a16 a17 => ?_)
  · refine riQ_bad (a := tPl (uF tx) t q1) ?_ g1 g2 (tPl_b _ y1.2.1).2
    show (scq (uF tx) t (nq (uF tx) t 0 (nN D) (nq (uF tx) t 0 (nN D) (q1, none)))).2 = _
    rw [nq_bad (fun z => g3 ⟨z.1, z.2.2⟩)]
    rfl
  have z1 : ci c M M1 := a11
  have y2 := tNx_b (uF tx) y1.2.1
  generalize e2 : tNx (uF tx) t q1 = q2 at *
  refine l_step hc a12 a13 ho a14 y2.2.1 (si := 2) (i := 0 + 1) (by decide) (by decide) (b := tVl (uF tx) t q2 < nN D) (fun M9 g1 g2 => c_alN hc g2 hW (tVl_b _ _ _)) (fun M9 g1 g2 g3 => ?_) (fun M2 a21 a22 a23 a24 a25 a26 a27 => ?_)
  · refine riQ_bad (a := tPl (uF tx) t q2) ?_ (ci_tr z1 g1) g2 (tPl_b _ y2.2.1).2
    show (scq (uF tx) t (nq (uF tx) t 0 (nN D) (nq (uF tx) t 0 (nN D) (q1, none)))).2 = _
    rw [nq_ok a16 (Nat.zero_le _) a17, e2, nq_bad (fun z => g3 ⟨z.1, z.2.2⟩)]
    rfl
  have z2 : ci c M M2 := ci_tr z1 a21
  have y3 := tNx_b (uF tx) y2.2.1
  generalize e3 : tNx (uF tx) t q2 = q3 at *
  refine l_end hc a22 a23 ho a24 y3.2.1 (si := 2) (i := 0 + 1 + 1) (by decide) (by decide) (fun M9 g1 g2 g3 => ?_) (fun M8 b1 b2 b3 b4 b5 => ?_)
  · refine riQ_bad (a := tPl (uF tx) t q3) ?_ (ci_tr z2 g1) g2 (tPl_b _ y3.2.1).2
    show (scq (uF tx) t (nq (uF tx) t 0 (nN D) (nq (uF tx) t 0 (nN D) (q1, none)))).2 = _
    rw [nq_ok a16 (Nat.zero_le _) a17, e2, nq_ok a26 (Nat.zero_le _) a27, e3, scq_bad g3]
  have hfull : nq (uF tx) t 0 (nN D) (nq (uF tx) t 0 (nN D) (q1, none)) = (q3, none) := by rw [nq_ok a16 (Nat.zero_le _) a17, e2, nq_ok a26 (Nat.zero_le _) a27, e3]
  have hW' : WF D' := (hwd (by rw [hz, hfull])).1.1
  have p0 : pt D' (nN D) 0 = tVl (uF tx) t q1 := by
    rw [f8 0 (by decide)]
    show tVl (uF tx) t ((q1, none)).1 = _
    rfl
  have p1 : pt D' (nN D) 1 = tVl (uF tx) t q2 := by
    rw [f8 1 (by decide)]
    show tVl (uF tx) t (nq (uF tx) t 0 (nN D) (q1, none)).1 = _
    rw [nq_ok a16 (Nat.zero_le _) a17, e2]
  refine v_aload_n dX2_readItem_114 rfl ?_
  refine v_iload_n dX2_readItem_115 rfl ?_
  refine v_aload_n dX2_readItem_116 rfl ?_
  refine v_getR (t := 3) dX2_readItem_117 fl_X2_15 ⟨by decide, rfl, by decide⟩ rfl rfl ?_
  refine v_iconst (v := (nI 0)) dX2_readItem_120 rfl ?_
  refine v_iald2 (n := 3) (a := 0) (y := (nI (tVl (uF tx) t q1))) dX2_readItem_121 ⟨by decide, rfl, rfl⟩ (rfl) (by omega) (by rw [b4, a25, upd_ne (by decide), a15, upd_eq]) ?_
  refine v_aload_n dX2_readItem_122 rfl ?_
  refine v_getR (t := 3) dX2_readItem_123 fl_X2_15 ⟨by decide, rfl, by decide⟩ rfl rfl ?_
  refine v_iconst (v := (nI 1)) dX2_readItem_126 rfl ?_
  refine v_iald2 (n := 3) (a := 1) (y := (nI (tVl (uF tx) t q2))) dX2_readItem_127 ⟨by decide, rfl, rfl⟩ (rfl) (by omega) (by rw [b4, a25, upd_eq]) ?_
  refine v_aload_n dX2_readItem_128 rfl ?_
  refine v_getR (t := 3) dX2_readItem_129 fl_X2_15 ⟨by decide, rfl, by decide⟩ rfl rfl ?_
  refine v_iconst (v := (nI 2)) dX2_readItem_132 rfl ?_
  refine v_iald2 (n := 3) (a := 2) (y := (M8 3 2)) dX2_readItem_133 ⟨by decide, rfl, rfl⟩ (rfl) (by omega) (rfl) ?_
  refine v_callV (as := [.int (nI 97), .int (nI (tVl (uF tx) t q1)), .int (nI (tVl (uF tx) t q2)), .int (M8 3 2)]) (st := []) dX2_readItem_134 ml_X2_76 kv_X0_add (ob_c hc) ⟨(Nat.le_of_ble_eq_true rfl), (Nat.le_of_ble_eq_true rfl)⟩ rfl (Nat.le_of_ble_eq_true rfl) rfl (Nat.le_of_ble_eq_true rfl) (c_add_97 hc b2 hW hb a17 a27) (fun v M7 hq9 => ?_)
  obtain ⟨rfl, nw⟩ := hq9
  refine v_iconst (v := (nI 1)) dX2_readItem_137 rfl ?_
  refine v_zret dX2_readItem_138 rfl (Or.inr rfl) ?_
  refine riQ_ok ?_ (ci_tr (ci_tr z2 b1) (NW_ci hc nw).1) ?_ ?_
  · show (scq (uF tx) t (nq (uF tx) t 0 (nN D) (nq (uF tx) t 0 (nN D) (q1, none)))).2 = none
    rw [hfull, scq_ok b5]
  · exact NW_ext b2 hW hW' f1 f2 f3 f4 f5 nw (by rw [f6]) (by rw [f6, if_neg (by decide)]) (by rw [f6, if_pos (by decide), p0]) (by rw [f6, if_pos (by decide), p1]) (by rw [f6, if_neg (by decide)]) (by unfold pbF; rw [f6]; show _ = ((nI 0 ||| bx (pt D' (nN D) 0)) ||| bx (pt D' (nN D) 1)); rw [p0, p1]) (by rw [lvF_eq hW' (by omega), f6, if_neg (by decide)]; show _ = ((nI 0 ||| lvF D' (pt D' (nN D) 0)) ||| lvF D' (pt D' (nN D) 1)); rw [p0, p1, lvF_sam hW hW' (Nat.le_refl _) (by omega) f3 _ a17, lvF_sam hW hW' (Nat.le_refl _) (by omega) f3 _ a27]) (by rw [f6, if_neg (by decide)])
  · show _ = nI (scq (uF tx) t (nq (uF tx) t 0 (nN D) (nq (uF tx) t 0 (nN D) (q1, none)))).1
    rw [hfull, scq_ok b5, (NW_ci hc nw).2, b3]
set_option maxRecDepth 100000 in
theorem rd_111 (hc : c = 4 ∨ c = 14) (hD : CIR0 M c D) (hWD : WD D) (hx : cX M tx t) (ho : xOK tx t) {q0 : Nat} (hk : cTK M (uF tx) t q0) (hq0 : q0 ≤ t) (h1 : tTk (uF tx) t q0 = 111) : V kX2_readItem (riQ M c t (itR (uF tx) t D q0)) M 0 [(0, .ref 1), (1, .ref c)] [] := by
  have hW := hWD.1
  have h16 := hW.n16
  have hu : ∀ j, j < t → uF tx j ≤ 255 := fun j hj => (ho.2 j hj).2
  have hx4 : M 1 4 = nI 111 := hk.2.2.1.trans ((cT4_c hu hq0 (Or.inl (by decide))).mpr h1)
  have hrm : rmB D 111 = true ↔ nN D < 16 := rm_n (by decide) (by decide)
  refine rd_start hc hx4 (si := 2) (by decide) (by decide) c_sh_111 (c_room_111 hc hD hW) (fun hb => ?_) (fun hb => ?_)
  · exact riQ_bad (by rw [it_no h1 (fun z => hb (hrm.mp z))]) (ci_rf c M) hk.2.1 (tPl_b _ hq0).2
  rw [it_room h1 (hrm.mpr hb)]
  obtain ⟨f1, f2, f3, f4, f5, f6, f7, f8⟩ := rnF_f (u := uF tx) (t := t) (s := 3) (z := (D, (tNx (uF tx) t q0, none))) hW hb (by decide)
  have hwd := rnF_WD (u := uF tx) (t := t) (s := 3) (z := (D, (tNx (uF tx) t q0, none))) hWD hb (by decide)
  dsimp only at f1 f2 f3 f4 f5 f6 f7 f8 hwd
  have y1 := tNx_b (uF tx) hq0
  generalize e1 : tNx (uF tx) t q0 = q1 at *
  have hz : (rnF (uF tx) t 3 (D, (q1, none))).2 = nq (uF tx) t 0 (nN D) (nq (uF tx) t 0 (nN D) (q1, none)) := rfl
  have hz2 : (((riB (uF tx) t 111 (D, (q1, none))).1, scq (uF tx) t (riB (uF tx) t 111 (D, (q1, none))).2) : pS) = ((rnF (uF tx) t 3 (D, (q1, none))).1, scq (uF tx) t (nq (uF tx) t 0 (nN D) (nq (uF tx) t 0 (nN D) (q1, none)))) := rfl
  rw [hz2]
  generalize hDq : (rnF (uF tx) t 3 (D, (q1, none))).1 = D' at *
  refine l_step hc hD hx ho (by rw [hk.1, e1]) y1.2.1 (si := 2) (i := 0) (by decide) (by decide) (b := tVl (uF tx) t q1 < nN D) (fun M9 g1 g2 => c_alN hc g2 hW (tVl_b _ _ _)) (fun M9 g1 g2 g3 => ?_) (fun M1 a11 a12 a13 a14 a15 a16 a17 => ?_)
  · refine riQ_bad (a := tPl (uF tx) t q1) ?_ g1 g2 (tPl_b _ y1.2.1).2
    show (scq (uF tx) t (nq (uF tx) t 0 (nN D) (nq (uF tx) t 0 (nN D) (q1, none)))).2 = _
    rw [nq_bad (fun z => g3 ⟨z.1, z.2.2⟩)]
    rfl
  have z1 : ci c M M1 := a11
  have y2 := tNx_b (uF tx) y1.2.1
  generalize e2 : tNx (uF tx) t q1 = q2 at *
  refine l_step hc a12 a13 ho a14 y2.2.1 (si := 2) (i := 0 + 1) (by decide) (by decide) (b := tVl (uF tx) t q2 < nN D) (fun M9 g1 g2 => c_alN hc g2 hW (tVl_b _ _ _)) (fun M9 g1 g2 g3 => ?_) (fun M2 a21 a22 a23 a24 a25 a26 a27 => ?_)
  · refine riQ_bad (a := tPl (uF tx) t q2) ?_ (ci_tr z1 g1) g2 (tPl_b _ y2.2.1).2
    show (scq (uF tx) t (nq (uF tx) t 0 (nN D) (nq (uF tx) t 0 (nN D) (q1, none)))).2 = _
    rw [nq_ok a16 (Nat.zero_le _) a17, e2, nq_bad (fun z => g3 ⟨z.1, z.2.2⟩)]
    rfl
  have z2 : ci c M M2 := ci_tr z1 a21
  have y3 := tNx_b (uF tx) y2.2.1
  generalize e3 : tNx (uF tx) t q2 = q3 at *
  refine l_end hc a22 a23 ho a24 y3.2.1 (si := 2) (i := 0 + 1 + 1) (by decide) (by decide) (fun M9 g1 g2 g3 => ?_) (fun M8 b1 b2 b3 b4 b5 => ?_)
  · refine riQ_bad (a := tPl (uF tx) t q3) ?_ (ci_tr z2 g1) g2 (tPl_b _ y3.2.1).2
    show (scq (uF tx) t (nq (uF tx) t 0 (nN D) (nq (uF tx) t 0 (nN D) (q1, none)))).2 = _
    rw [nq_ok a16 (Nat.zero_le _) a17, e2, nq_ok a26 (Nat.zero_le _) a27, e3, scq_bad g3]
  have hfull : nq (uF tx) t 0 (nN D) (nq (uF tx) t 0 (nN D) (q1, none)) = (q3, none) := by rw [nq_ok a16 (Nat.zero_le _) a17, e2, nq_ok a26 (Nat.zero_le _) a27, e3]
  have hW' : WF D' := (hwd (by rw [hz, hfull])).1.1
  have p0 : pt D' (nN D) 0 = tVl (uF tx) t q1 := by
    rw [f8 0 (by decide)]
    show tVl (uF tx) t ((q1, none)).1 = _
    rfl
  have p1 : pt D' (nN D) 1 = tVl (uF tx) t q2 := by
    rw [f8 1 (by decide)]
    show tVl (uF tx) t (nq (uF tx) t 0 (nN D) (q1, none)).1 = _
    rw [nq_ok a16 (Nat.zero_le _) a17, e2]
  refine v_aload_n dX2_readItem_114 rfl ?_
  refine v_iload_n dX2_readItem_115 rfl ?_
  refine v_aload_n dX2_readItem_116 rfl ?_
  refine v_getR (t := 3) dX2_readItem_117 fl_X2_15 ⟨by decide, rfl, by decide⟩ rfl rfl ?_
  refine v_iconst (v := (nI 0)) dX2_readItem_120 rfl ?_
  refine v_iald2 (n := 3) (a := 0) (y := (nI (tVl (uF tx) t q1))) dX2_readItem_121 ⟨by decide, rfl, rfl⟩ (rfl) (by omega) (by rw [b4, a25, upd_ne (by decide), a15, upd_eq]) ?_
  refine v_aload_n dX2_readItem_122 rfl ?_
  refine v_getR (t := 3) dX2_readItem_123 fl_X2_15 ⟨by decide, rfl, by decide⟩ rfl rfl ?_
  refine v_iconst (v := (nI 1)) dX2_readItem_126 rfl ?_
  refine v_iald2 (n := 3) (a := 1) (y := (nI (tVl (uF tx) t q2))) dX2_readItem_127 ⟨by decide, rfl, rfl⟩ (rfl) (by omega) (by rw [b4, a25, upd_eq]) ?_
  refine v_aload_n dX2_readItem_128 rfl ?_
  refine v_getR (t := 3) dX2_readItem_129 fl_X2_15 ⟨by decide, rfl, by decide⟩ rfl rfl ?_
  refine v_iconst (v := (nI 2)) dX2_readItem_132 rfl ?_
  refine v_iald2 (n := 3) (a := 2) (y := (M8 3 2)) dX2_readItem_133 ⟨by decide, rfl, rfl⟩ (rfl) (by omega) (rfl) ?_
  refine v_callV (as := [.int (nI 111), .int (nI (tVl (uF tx) t q1)), .int (nI (tVl (uF tx) t q2)), .int (M8 3 2)]) (st := []) dX2_readItem_134 ml_X2_76 kv_X0_add (ob_c hc) ⟨(Nat.le_of_ble_eq_true rfl), (Nat.le_of_ble_eq_true rfl)⟩ rfl (Nat.le_of_ble_eq_true rfl) rfl (Nat.le_of_ble_eq_true rfl) (c_add_111 hc b2 hW hb a17 a27) (fun v M7 hq9 => ?_)
  obtain ⟨rfl, nw⟩ := hq9
  refine v_iconst (v := (nI 1)) dX2_readItem_137 rfl ?_
  refine v_zret dX2_readItem_138 rfl (Or.inr rfl) ?_
  refine riQ_ok ?_ (ci_tr (ci_tr z2 b1) (NW_ci hc nw).1) ?_ ?_
  · show (scq (uF tx) t (nq (uF tx) t 0 (nN D) (nq (uF tx) t 0 (nN D) (q1, none)))).2 = none
    rw [hfull, scq_ok b5]
  · exact NW_ext b2 hW hW' f1 f2 f3 f4 f5 nw (by rw [f6]) (by rw [f6, if_neg (by decide)]) (by rw [f6, if_pos (by decide), p0]) (by rw [f6, if_pos (by decide), p1]) (by rw [f6, if_neg (by decide)]) (by unfold pbF; rw [f6]; show _ = ((nI 0 ||| bx (pt D' (nN D) 0)) ||| bx (pt D' (nN D) 1)); rw [p0, p1]) (by rw [lvF_eq hW' (by omega), f6, if_neg (by decide)]; show _ = ((nI 0 ||| lvF D' (pt D' (nN D) 0)) ||| lvF D' (pt D' (nN D) 1)); rw [p0, p1, lvF_sam hW hW' (Nat.le_refl _) (by omega) f3 _ a17, lvF_sam hW hW' (Nat.le_refl _) (by omega) f3 _ a27]) (by rw [f6, if_neg (by decide)])
  · show _ = nI (scq (uF tx) t (nq (uF tx) t 0 (nN D) (nq (uF tx) t 0 (nN D) (q1, none)))).1
    rw [hfull, scq_ok b5, (NW_ci hc nw).2, b3]
set_option maxRecDepth 100000 in
theorem rd_120 (hc : c = 4 ∨ c = 14) (hD : CIR0 M c D) (hWD : WD D) (hx : cX M tx t) (ho : xOK tx t) {q0 : Nat} (hk : cTK M (uF tx) t q0) (hq0 : q0 ≤ t) (h1 : tTk (uF tx) t q0 = 120) : V kX2_readItem (riQ M c t (itR (uF tx) t D q0)) M 0 [(0, .ref 1), (1, .ref c)] [] := by
  have hW := hWD.1
  have h16 := hW.n16
  have hu : ∀ j, j < t → uF tx j ≤ 255 := fun j hj => (ho.2 j hj).2
  have hx4 : M 1 4 = nI 120 := hk.2.2.1.trans ((cT4_c hu hq0 (Or.inl (by decide))).mpr h1)
  have hrm : rmB D 120 = true ↔ nN D < 16 := rm_n (by decide) (by decide)
  refine rd_start hc hx4 (si := 2) (by decide) (by decide) c_sh_120 (c_room_120 hc hD hW) (fun hb => ?_) (fun hb => ?_)
  · exact riQ_bad (by rw [it_no h1 (fun z => hb (hrm.mp z))]) (ci_rf c M) hk.2.1 (tPl_b _ hq0).2
  rw [it_room h1 (hrm.mpr hb)]
  obtain ⟨f1, f2, f3, f4, f5, f6, f7, f8⟩ := rnF_f (u := uF tx) (t := t) (s := 4) (z := (D, (tNx (uF tx) t q0, none))) hW hb (by decide)
  have hwd := rnF_WD (u := uF tx) (t := t) (s := 4) (z := (D, (tNx (uF tx) t q0, none))) hWD hb (by decide)
  dsimp only at f1 f2 f3 f4 f5 f6 f7 f8 hwd
  have y1 := tNx_b (uF tx) hq0
  generalize e1 : tNx (uF tx) t q0 = q1 at *
  have hz : (rnF (uF tx) t 4 (D, (q1, none))).2 = nq (uF tx) t 0 (nN D) (nq (uF tx) t 0 (nN D) (q1, none)) := rfl
  have hz2 : (((riB (uF tx) t 120 (D, (q1, none))).1, scq (uF tx) t (riB (uF tx) t 120 (D, (q1, none))).2) : pS) = ((rnF (uF tx) t 4 (D, (q1, none))).1, scq (uF tx) t (nq (uF tx) t 0 (nN D) (nq (uF tx) t 0 (nN D) (q1, none)))) := rfl
  rw [hz2]
  generalize hDq : (rnF (uF tx) t 4 (D, (q1, none))).1 = D' at *
  refine l_step hc hD hx ho (by rw [hk.1, e1]) y1.2.1 (si := 2) (i := 0) (by decide) (by decide) (b := tVl (uF tx) t q1 < nN D) (fun M9 g1 g2 => c_alN hc g2 hW (tVl_b _ _ _)) (fun M9 g1 g2 g3 => ?_) (fun M1 a11 a12 a13 a14 a15 a16 a17 => ?_)
  · refine riQ_bad (a := tPl (uF tx) t q1) ?_ g1 g2 (tPl_b _ y1.2.1).2
    show (scq (uF tx) t (nq (uF tx) t 0 (nN D) (nq (uF tx) t 0 (nN D) (q1, none)))).2 = _
    rw [nq_bad (fun z => g3 ⟨z.1, z.2.2⟩)]
    rfl
  have z1 : ci c M M1 := a11
  have y2 := tNx_b (uF tx) y1.2.1
  generalize e2 : tNx (uF tx) t q1 = q2 at *
  refine l_step hc a12 a13 ho a14 y2.2.1 (si := 2) (i := 0 + 1) (by decide) (by decide) (b := tVl (uF tx) t q2 < nN D) (fun M9 g1 g2 => c_alN hc g2 hW (tVl_b _ _ _)) (fun M9 g1 g2 g3 => ?_) (fun M2 a21 a22 a23 a24 a25 a26 a27 => ?_)
  · refine riQ_bad (a := tPl (uF tx) t q2) ?_ (ci_tr z1 g1) g2 (tPl_b _ y2.2.1).2
    show (scq (uF tx) t (nq (uF tx) t 0 (nN D) (nq (uF tx) t 0 (nN D) (q1, none)))).2 = _
    rw [nq_ok a16 (Nat.zero_le _) a17, e2, nq_bad (fun z => g3 ⟨z.1, z.2.2⟩)]
    rfl
  have z2 : ci c M M2 := ci_tr z1 a21
  have y3 := tNx_b (uF tx) y2.2.1
  generalize e3 : tNx (uF tx) t q2 = q3 at *
  refine l_end hc a22 a23 ho a24 y3.2.1 (si := 2) (i := 0 + 1 + 1) (by decide) (by decide) (fun M9 g1 g2 g3 => ?_) (fun M8 b1 b2 b3 b4 b5 => ?_)
  · refine riQ_bad (a := tPl (uF tx) t q3) ?_ (ci_tr z2 g1) g2 (tPl_b _ y3.2.1).2
    show (scq (uF tx) t (nq (uF tx) t 0 (nN D) (nq (uF tx) t 0 (nN D) (q1, none)))).2 = _
    rw [nq_ok a16 (Nat.zero_le _) a17, e2, nq_ok a26 (Nat.zero_le _) a27, e3, scq_bad g3]
  have hfull : nq (uF tx) t 0 (nN D) (nq (uF tx) t 0 (nN D) (q1, none)) = (q3, none) := by rw [nq_ok a16 (Nat.zero_le _) a17, e2, nq_ok a26 (Nat.zero_le _) a27, e3]
  have hW' : WF D' := (hwd (by rw [hz, hfull])).1.1
  have p0 : pt D' (nN D) 0 = tVl (uF tx) t q1 := by
    rw [f8 0 (by decide)]
    show tVl (uF tx) t ((q1, none)).1 = _
    rfl
  have p1 : pt D' (nN D) 1 = tVl (uF tx) t q2 := by
    rw [f8 1 (by decide)]
    show tVl (uF tx) t (nq (uF tx) t 0 (nN D) (q1, none)).1 = _
    rw [nq_ok a16 (Nat.zero_le _) a17, e2]
  refine v_aload_n dX2_readItem_114 rfl ?_
  refine v_iload_n dX2_readItem_115 rfl ?_
  refine v_aload_n dX2_readItem_116 rfl ?_
  refine v_getR (t := 3) dX2_readItem_117 fl_X2_15 ⟨by decide, rfl, by decide⟩ rfl rfl ?_
  refine v_iconst (v := (nI 0)) dX2_readItem_120 rfl ?_
  refine v_iald2 (n := 3) (a := 0) (y := (nI (tVl (uF tx) t q1))) dX2_readItem_121 ⟨by decide, rfl, rfl⟩ (rfl) (by omega) (by rw [b4, a25, upd_ne (by decide), a15, upd_eq]) ?_
  refine v_aload_n dX2_readItem_122 rfl ?_
  refine v_getR (t := 3) dX2_readItem_123 fl_X2_15 ⟨by decide, rfl, by decide⟩ rfl rfl ?_
  refine v_iconst (v := (nI 1)) dX2_readItem_126 rfl ?_
  refine v_iald2 (n := 3) (a := 1) (y := (nI (tVl (uF tx) t q2))) dX2_readItem_127 ⟨by decide, rfl, rfl⟩ (rfl) (by omega) (by rw [b4, a25, upd_eq]) ?_
  refine v_aload_n dX2_readItem_128 rfl ?_
  refine v_getR (t := 3) dX2_readItem_129 fl_X2_15 ⟨by decide, rfl, by decide⟩ rfl rfl ?_
  refine v_iconst (v := (nI 2)) dX2_readItem_132 rfl ?_
  refine v_iald2 (n := 3) (a := 2) (y := (M8 3 2)) dX2_readItem_133 ⟨by decide, rfl, rfl⟩ (rfl) (by omega) (rfl) ?_
  refine v_callV (as := [.int (nI 120), .int (nI (tVl (uF tx) t q1)), .int (nI (tVl (uF tx) t q2)), .int (M8 3 2)]) (st := []) dX2_readItem_134 ml_X2_76 kv_X0_add (ob_c hc) ⟨(Nat.le_of_ble_eq_true rfl), (Nat.le_of_ble_eq_true rfl)⟩ rfl (Nat.le_of_ble_eq_true rfl) rfl (Nat.le_of_ble_eq_true rfl) (c_add_120 hc b2 hW hb a17 a27) (fun v M7 hq9 => ?_)
  obtain ⟨rfl, nw⟩ := hq9
  refine v_iconst (v := (nI 1)) dX2_readItem_137 rfl ?_
  refine v_zret dX2_readItem_138 rfl (Or.inr rfl) ?_
  refine riQ_ok ?_ (ci_tr (ci_tr z2 b1) (NW_ci hc nw).1) ?_ ?_
  · show (scq (uF tx) t (nq (uF tx) t 0 (nN D) (nq (uF tx) t 0 (nN D) (q1, none)))).2 = none
    rw [hfull, scq_ok b5]
  · exact NW_ext b2 hW hW' f1 f2 f3 f4 f5 nw (by rw [f6]) (by rw [f6, if_neg (by decide)]) (by rw [f6, if_pos (by decide), p0]) (by rw [f6, if_pos (by decide), p1]) (by rw [f6, if_neg (by decide)]) (by unfold pbF; rw [f6]; show _ = ((nI 0 ||| bx (pt D' (nN D) 0)) ||| bx (pt D' (nN D) 1)); rw [p0, p1]) (by rw [lvF_eq hW' (by omega), f6, if_neg (by decide)]; show _ = ((nI 0 ||| lvF D' (pt D' (nN D) 0)) ||| lvF D' (pt D' (nN D) 1)); rw [p0, p1, lvF_sam hW hW' (Nat.le_refl _) (by omega) f3 _ a17, lvF_sam hW hW' (Nat.le_refl _) (by omega) f3 _ a27]) (by rw [f6, if_neg (by decide)])
  · show _ = nI (scq (uF tx) t (nq (uF tx) t 0 (nN D) (nq (uF tx) t 0 (nN D) (q1, none)))).1
    rw [hfull, scq_ok b5, (NW_ci hc nw).2, b3]
set_option maxRecDepth 100000 in
theorem rd_109 (hc : c = 4 ∨ c = 14) (hD : CIR0 M c D) (hWD : WD D) (hx : cX M tx t) (ho : xOK tx t) {q0 : Nat} (hk : cTK M (uF tx) t q0) (hq0 : q0 ≤ t) (h1 : tTk (uF tx) t q0 = 109) : V kX2_readItem (riQ M c t (itR (uF tx) t D q0)) M 0 [(0, .ref 1), (1, .ref c)] [] := by
  have hW := hWD.1
  have h16 := hW.n16
  have hu : ∀ j, j < t → uF tx j ≤ 255 := fun j hj => (ho.2 j hj).2
  have hx4 : M 1 4 = nI 109 := hk.2.2.1.trans ((cT4_c hu hq0 (Or.inl (by decide))).mpr h1)
  have hrm : rmB D 109 = true ↔ nN D < 16 := rm_n (by decide) (by decide)
  refine rd_start hc hx4 (si := 3) (by decide) (by decide) c_sh_109 (c_room_109 hc hD hW) (fun hb => ?_) (fun hb => ?_)
  · exact riQ_bad (by rw [it_no h1 (fun z => hb (hrm.mp z))]) (ci_rf c M) hk.2.1 (tPl_b _ hq0).2
  rw [it_room h1 (hrm.mpr hb)]
  obtain ⟨f1, f2, f3, f4, f5, f6, f7, f8⟩ := rnF_f (u := uF tx) (t := t) (s := 5) (z := (D, (tNx (uF tx) t q0, none))) hW hb (by decide)
  have hwd := rnF_WD (u := uF tx) (t := t) (s := 5) (z := (D, (tNx (uF tx) t q0, none))) hWD hb (by decide)
  dsimp only at f1 f2 f3 f4 f5 f6 f7 f8 hwd
  have y1 := tNx_b (uF tx) hq0
  generalize e1 : tNx (uF tx) t q0 = q1 at *
  have hz : (rnF (uF tx) t 5 (D, (q1, none))).2 = nq (uF tx) t 0 (nN D) (nq (uF tx) t 0 (nN D) (nq (uF tx) t 0 (nN D) (q1, none))) := rfl
  have hz2 : (((riB (uF tx) t 109 (D, (q1, none))).1, scq (uF tx) t (riB (uF tx) t 109 (D, (q1, none))).2) : pS) = ((rnF (uF tx) t 5 (D, (q1, none))).1, scq (uF tx) t (nq (uF tx) t 0 (nN D) (nq (uF tx) t 0 (nN D) (nq (uF tx) t 0 (nN D) (q1, none))))) := rfl
  rw [hz2]
  generalize hDq : (rnF (uF tx) t 5 (D, (q1, none))).1 = D' at *
  refine l_step hc hD hx ho (by rw [hk.1, e1]) y1.2.1 (si := 3) (i := 0) (by decide) (by decide) (b := tVl (uF tx) t q1 < nN D) (fun M9 g1 g2 => c_alN hc g2 hW (tVl_b _ _ _)) (fun M9 g1 g2 g3 => ?_) (fun M1 a11 a12 a13 a14 a15 a16 a17 => ?_)
  · refine riQ_bad (a := tPl (uF tx) t q1) ?_ g1 g2 (tPl_b _ y1.2.1).2
    show (scq (uF tx) t (nq (uF tx) t 0 (nN D) (nq (uF tx) t 0 (nN D) (nq (uF tx) t 0 (nN D) (q1, none))))).2 = _
    rw [nq_bad (fun z => g3 ⟨z.1, z.2.2⟩)]
    rfl
  have z1 : ci c M M1 := a11
  have y2 := tNx_b (uF tx) y1.2.1
  generalize e2 : tNx (uF tx) t q1 = q2 at *
  refine l_step hc a12 a13 ho a14 y2.2.1 (si := 3) (i := 0 + 1) (by decide) (by decide) (b := tVl (uF tx) t q2 < nN D) (fun M9 g1 g2 => c_alN hc g2 hW (tVl_b _ _ _)) (fun M9 g1 g2 g3 => ?_) (fun M2 a21 a22 a23 a24 a25 a26 a27 => ?_)
  · refine riQ_bad (a := tPl (uF tx) t q2) ?_ (ci_tr z1 g1) g2 (tPl_b _ y2.2.1).2
    show (scq (uF tx) t (nq (uF tx) t 0 (nN D) (nq (uF tx) t 0 (nN D) (nq (uF tx) t 0 (nN D) (q1, none))))).2 = _
    rw [nq_ok a16 (Nat.zero_le _) a17, e2, nq_bad (fun z => g3 ⟨z.1, z.2.2⟩)]
    rfl
  have z2 : ci c M M2 := ci_tr z1 a21
  have y3 := tNx_b (uF tx) y2.2.1
  generalize e3 : tNx (uF tx) t q2 = q3 at *
  refine l_step hc a22 a23 ho a24 y3.2.1 (si := 3) (i := 0 + 1 + 1) (by decide) (by decide) (b := tVl (uF tx) t q3 < nN D) (fun M9 g1 g2 => c_alN hc g2 hW (tVl_b _ _ _)) (fun M9 g1 g2 g3 => ?_) (fun M3 a31 a32 a33 a34 a35 a36 a37 => ?_)
  · refine riQ_bad (a := tPl (uF tx) t q3) ?_ (ci_tr z2 g1) g2 (tPl_b _ y3.2.1).2
    show (scq (uF tx) t (nq (uF tx) t 0 (nN D) (nq (uF tx) t 0 (nN D) (nq (uF tx) t 0 (nN D) (q1, none))))).2 = _
    rw [nq_ok a16 (Nat.zero_le _) a17, e2, nq_ok a26 (Nat.zero_le _) a27, e3, nq_bad (fun z => g3 ⟨z.1, z.2.2⟩)]
    rfl
  have z3 : ci c M M3 := ci_tr z2 a31
  have y4 := tNx_b (uF tx) y3.2.1
  generalize e4 : tNx (uF tx) t q3 = q4 at *
  refine l_end hc a32 a33 ho a34 y4.2.1 (si := 3) (i := 0 + 1 + 1 + 1) (by decide) (by decide) (fun M9 g1 g2 g3 => ?_) (fun M8 b1 b2 b3 b4 b5 => ?_)
  · refine riQ_bad (a := tPl (uF tx) t q4) ?_ (ci_tr z3 g1) g2 (tPl_b _ y4.2.1).2
    show (scq (uF tx) t (nq (uF tx) t 0 (nN D) (nq (uF tx) t 0 (nN D) (nq (uF tx) t 0 (nN D) (q1, none))))).2 = _
    rw [nq_ok a16 (Nat.zero_le _) a17, e2, nq_ok a26 (Nat.zero_le _) a27, e3, nq_ok a36 (Nat.zero_le _) a37, e4, scq_bad g3]
  have hfull : nq (uF tx) t 0 (nN D) (nq (uF tx) t 0 (nN D) (nq (uF tx) t 0 (nN D) (q1, none))) = (q4, none) := by rw [nq_ok a16 (Nat.zero_le _) a17, e2, nq_ok a26 (Nat.zero_le _) a27, e3, nq_ok a36 (Nat.zero_le _) a37, e4]
  have hW' : WF D' := (hwd (by rw [hz, hfull])).1.1
  have p0 : pt D' (nN D) 0 = tVl (uF tx) t q1 := by
    rw [f8 0 (by decide)]
    show tVl (uF tx) t ((q1, none)).1 = _
    rfl
  have p1 : pt D' (nN D) 1 = tVl (uF tx) t q2 := by
    rw [f8 1 (by decide)]
    show tVl (uF tx) t (nq (uF tx) t 0 (nN D) (q1, none)).1 = _
    rw [nq_ok a16 (Nat.zero_le _) a17, e2]
  have p2 : pt D' (nN D) 2 = tVl (uF tx) t q3 := by
    rw [f8 2 (by decide)]
    show tVl (uF tx) t (nq (uF tx) t 0 (nN D) (nq (uF tx) t 0 (nN D) (q1, none))).1 = _
    rw [nq_ok a16 (Nat.zero_le _) a17, e2, nq_ok a26 (Nat.zero_le _) a27, e3]
  refine v_aload_n dX2_readItem_114 rfl ?_
  refine v_iload_n dX2_readItem_115 rfl ?_
  refine v_aload_n dX2_readItem_116 rfl ?_
  refine v_getR (t := 3) dX2_readItem_117 fl_X2_15 ⟨by decide, rfl, by decide⟩ rfl rfl ?_
  refine v_iconst (v := (nI 0)) dX2_readItem_120 rfl ?_
  refine v_iald2 (n := 3) (a := 0) (y := (nI (tVl (uF tx) t q1))) dX2_readItem_121 ⟨by decide, rfl, rfl⟩ (rfl) (by omega) (by rw [b4, a35, upd_ne (by decide), a25, upd_ne (by decide), a15, upd_eq]) ?_
  refine v_aload_n dX2_readItem_122 rfl ?_
  refine v_getR (t := 3) dX2_readItem_123 fl_X2_15 ⟨by decide, rfl, by decide⟩ rfl rfl ?_
  refine v_iconst (v := (nI 1)) dX2_readItem_126 rfl ?_
  refine v_iald2 (n := 3) (a := 1) (y := (nI (tVl (uF tx) t q2))) dX2_readItem_127 ⟨by decide, rfl, rfl⟩ (rfl) (by omega) (by rw [b4, a35, upd_ne (by decide), a25, upd_eq]) ?_
  refine v_aload_n dX2_readItem_128 rfl ?_
  refine v_getR (t := 3) dX2_readItem_129 fl_X2_15 ⟨by decide, rfl, by decide⟩ rfl rfl ?_
  refine v_iconst (v := (nI 2)) dX2_readItem_132 rfl ?_
  refine v_iald2 (n := 3) (a := 2) (y := (nI (tVl (uF tx) t q3))) dX2_readItem_133 ⟨by decide, rfl, rfl⟩ (rfl) (by omega) (by rw [b4, a35, upd_eq]) ?_
  refine v_callV (as := [.int (nI 109), .int (nI (tVl (uF tx) t q1)), .int (nI (tVl (uF tx) t q2)), .int (nI (tVl (uF tx) t q3))]) (st := []) dX2_readItem_134 ml_X2_76 kv_X0_add (ob_c hc) ⟨(Nat.le_of_ble_eq_true rfl), (Nat.le_of_ble_eq_true rfl)⟩ rfl (Nat.le_of_ble_eq_true rfl) rfl (Nat.le_of_ble_eq_true rfl) (c_add_109 hc b2 hW hb a17 a27 a37) (fun v M7 hq9 => ?_)
  obtain ⟨rfl, nw⟩ := hq9
  refine v_iconst (v := (nI 1)) dX2_readItem_137 rfl ?_
  refine v_zret dX2_readItem_138 rfl (Or.inr rfl) ?_
  refine riQ_ok ?_ (ci_tr (ci_tr z3 b1) (NW_ci hc nw).1) ?_ ?_
  · show (scq (uF tx) t (nq (uF tx) t 0 (nN D) (nq (uF tx) t 0 (nN D) (nq (uF tx) t 0 (nN D) (q1, none))))).2 = none
    rw [hfull, scq_ok b5]
  · exact NW_ext b2 hW hW' f1 f2 f3 f4 f5 nw (by rw [f6]) (by rw [f6, if_neg (by decide)]) (by rw [f6, if_pos (by decide), p0]) (by rw [f6, if_pos (by decide), p1]) (by rw [f6, if_pos (by decide), p2]) (by unfold pbF; rw [f6]; show _ = (((nI 0 ||| bx (pt D' (nN D) 0)) ||| bx (pt D' (nN D) 1)) ||| bx (pt D' (nN D) 2)); rw [p0, p1, p2]) (by rw [lvF_eq hW' (by omega), f6, if_neg (by decide)]; show _ = (((nI 0 ||| lvF D' (pt D' (nN D) 0)) ||| lvF D' (pt D' (nN D) 1)) ||| lvF D' (pt D' (nN D) 2)); rw [p0, p1, p2, lvF_sam hW hW' (Nat.le_refl _) (by omega) f3 _ a17, lvF_sam hW hW' (Nat.le_refl _) (by omega) f3 _ a27, lvF_sam hW hW' (Nat.le_refl _) (by omega) f3 _ a37]) (by rw [f6, if_neg (by decide)])
  · show _ = nI (scq (uF tx) t (nq (uF tx) t 0 (nN D) (nq (uF tx) t 0 (nN D) (nq (uF tx) t 0 (nN D) (q1, none))))).1
    rw [hfull, scq_ok b5, (NW_ci hc nw).2, b3]
end C56
