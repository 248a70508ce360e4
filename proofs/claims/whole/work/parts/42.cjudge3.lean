section C42
variable {M : vM} {c : Nat} {T : Nat → Int32}
set_option maxRecDepth 100000 in
theorem l_cheld (hc : c = 4 ∨ c = 14) (h : CIR0 M c T) (hW : WF T) (hd : ∀ n, n < nN T → so T n = 1 → M (c + 7) n = nI (dpF T n)) {nd : Nat} (hnb : nd < 2 ^ 31) {n : Nat} (hn : n < nN T) (d : Nat) : ∀ (r : Nat), r + d = nN T → hitN T nd n (srcF T (frF T n)) (bkF T (ck T n) (pt T (pt T n 0) 0)) r = false → V kX0_isHeld (rt (.int (bI (hitN T nd n (srcF T (frF T n)) (bkF T (ck T n) (pt T (pt T n 0) 0)) (nN T) = true))) M) M 94 [(0, .ref c), (1, .int (nI n)), (2, .int (nI nd)), (3, .int (nI (pt T n 0))), (4, .int (nI (ck T n))), (5, .int (srcF T (frF T n))), (6, .int (nI (pt T (pt T n 0) 0))), (7, .int (bkF T (ck T n) (pt T (pt T n 0) 0))), (8, .int (nI r))] [] := by
  have h16 := hW.n16
  induction d with
  | zero =>
    intro r hk hno
    refine v_iload dX0_isHeld_94 rfl ?_
    refine v_aload_n dX0_isHeld_96 rfl ?_
    refine v_getI2 (y := (nI (nN T))) dX0_isHeld_97 fl_X0_47 (ob_c hc) rfl (h.nd) ?_
    refine v_icmpN_ge (tgt := 159) dX0_isHeld_100 (by decide) (by omega) (by omega) (fun c100 => ?_) (fun c100 => (by omega))
    refine v_iconst (v := (nI 0)) dX0_isHeld_159 rfl ?_
    refine v_zret dX0_isHeld_160 rfl (Or.inl rfl) ?_
    refine ⟨?_, rfl⟩
    rw [show nN T = r by omega, bI_f (by rw [hno]; decide)]; rfl
  | succ d ih =>
    intro r hk hno
    refine v_iload dX0_isHeld_94 rfl ?_
    refine v_aload_n dX0_isHeld_96 rfl ?_
    refine v_getI2 (y := (nI (nN T))) dX0_isHeld_97 fl_X0_47 (ob_c hc) rfl (h.nd) ?_
    refine v_icmpN_ge (tgt := 159) dX0_isHeld_100 (by decide) (by omega) (by omega) (fun c100 => (by omega)) (fun c100 => ?_)
    refine v_iload dX0_isHeld_103 rfl ?_
    refine v_iload dX0_isHeld_105 rfl ?_
    refine v_callSr (x := .int (bI (bt ((bkF T (ck T n) (pt T (pt T n 0) 0))) r = true))) (M1 := M) (as := [.int (bkF T (ck T n) (pt T (pt T n 0) 0)), .int (nI r)]) (st := []) dX0_isHeld_107 ml_X0_101 ks_X3_hasBit ⟨(Nat.le_of_ble_eq_true rfl), (Nat.le_of_ble_eq_true rfl)⟩ rfl (Nat.le_of_ble_eq_true rfl) rfl (Nat.le_of_ble_eq_true rfl) (c_hasBit _ (by omega)) ?_
    refine v_ifB_eq (tgt := 153) dX0_isHeld_110 (by decide) (fun c110 => ?_) (fun c110 => ?_)
    · refine v_iincN (lv' := [(0, .ref c), (1, .int (nI n)), (2, .int (nI nd)), (3, .int (nI (pt T n 0))), (4, .int (nI (ck T n))), (5, .int (srcF T (frF T n))), (6, .int (nI (pt T (pt T n 0) 0))), (7, .int (bkF T (ck T n) (pt T (pt T n 0) 0))), (8, .int (nI (r + 1)))]) dX0_isHeld_153 rfl (Nat.le_of_ble_eq_true rfl) rfl ?_
      refine v_goto (tgt := 94) dX0_isHeld_156 (by decide) ?_
      exact ih (r + 1) (by omega) (by
        simp only [hitN]; rw [hno, Bool.false_or]
        cases hx : hit T nd n (srcF T (frF T n)) (bkF T (ck T n) (pt T (pt T n 0) 0)) r with
        | false => rfl
        | true =>
          exfalso
          unfold hit at hx
          simp only [Bool.and_eq_true, decide_eq_true_eq] at hx
          first | exact c110 hx.1.1.1 | exact c122 ((ckc_iff hW (by omega) hn).mpr hx.1.1.2) | exact c132 hx.1.2 | exact c148 hx.2)
    · refine v_aload_n dX0_isHeld_113 rfl ?_
      refine v_getR (t := c + 2) dX0_isHeld_114 fl_X0_15 (ob_c hc) rfl rfl ?_
      refine v_iload dX0_isHeld_117 rfl ?_
      refine v_iald2 (n := 16) (a := r) (y := (if so T r ≤ 1 then nI (ck T r) else (-9))) dX0_isHeld_119 (ar_c2 hc) (rfl) (by omega) (h.ck (by omega)) ?_
      refine v_iload dX0_isHeld_120 rfl ?_
      refine v_icmp_ne (tgt := 153) dX0_isHeld_122 (by decide) (fun c122 => ?_) (fun c122 => ?_)
      · refine v_iincN (lv' := [(0, .ref c), (1, .int (nI n)), (2, .int (nI nd)), (3, .int (nI (pt T n 0))), (4, .int (nI (ck T n))), (5, .int (srcF T (frF T n))), (6, .int (nI (pt T (pt T n 0) 0))), (7, .int (bkF T (ck T n) (pt T (pt T n 0) 0))), (8, .int (nI (r + 1)))]) dX0_isHeld_153 rfl (Nat.le_of_ble_eq_true rfl) rfl ?_
        refine v_goto (tgt := 94) dX0_isHeld_156 (by decide) ?_
        exact ih (r + 1) (by omega) (by
          simp only [hitN]; rw [hno, Bool.false_or]
          cases hx : hit T nd n (srcF T (frF T n)) (bkF T (ck T n) (pt T (pt T n 0) 0)) r with
          | false => rfl
          | true =>
            exfalso
            unfold hit at hx
            simp only [Bool.and_eq_true, decide_eq_true_eq] at hx
            first | exact c110 hx.1.1.1 | exact c122 ((ckc_iff hW (by omega) hn).mpr hx.1.1.2) | exact c132 hx.1.2 | exact c148 hx.2)
      · refine v_aload_n dX0_isHeld_125 rfl ?_
        refine v_iload dX0_isHeld_126 rfl ?_
        refine v_iload_n dX0_isHeld_128 rfl ?_
        refine v_callVr (x := .int (bI (csB T nd r = true))) (M1 := M) (as := [.int (nI r), .int (nI nd)]) (st := []) dX0_isHeld_129 ml_X0_110 kv_X0_isSafe (ob_c hc) ⟨(Nat.le_of_ble_eq_true rfl), (Nat.le_of_ble_eq_true rfl)⟩ rfl (Nat.le_of_ble_eq_true rfl) rfl (Nat.le_of_ble_eq_true rfl) (c_cSafe hc h hW hd (by omega) hnb) ?_
        refine v_ifB_eq (tgt := 153) dX0_isHeld_132 (by decide) (fun c132 => ?_) (fun c132 => ?_)
        · refine v_iincN (lv' := [(0, .ref c), (1, .int (nI n)), (2, .int (nI nd)), (3, .int (nI (pt T n 0))), (4, .int (nI (ck T n))), (5, .int (srcF T (frF T n))), (6, .int (nI (pt T (pt T n 0) 0))), (7, .int (bkF T (ck T n) (pt T (pt T n 0) 0))), (8, .int (nI (r + 1)))]) dX0_isHeld_153 rfl (Nat.le_of_ble_eq_true rfl) rfl ?_
          refine v_goto (tgt := 94) dX0_isHeld_156 (by decide) ?_
          exact ih (r + 1) (by omega) (by
            simp only [hitN]; rw [hno, Bool.false_or]
            cases hx : hit T nd n (srcF T (frF T n)) (bkF T (ck T n) (pt T (pt T n 0) 0)) r with
            | false => rfl
            | true =>
              exfalso
              unfold hit at hx
              simp only [Bool.and_eq_true, decide_eq_true_eq] at hx
              first | exact c110 hx.1.1.1 | exact c122 ((ckc_iff hW (by omega) hn).mpr hx.1.1.2) | exact c132 hx.1.2 | exact c148 hx.2)
        · refine v_aload_n dX0_isHeld_135 rfl ?_
          refine v_aload_n dX0_isHeld_136 rfl ?_
          refine v_getR (t := c + 6) dX0_isHeld_137 fl_X0_27 (ob_c hc) rfl rfl ?_
          refine v_iload dX0_isHeld_140 rfl ?_
          have hr1 : so T r = 1 := (cd_so (by unfold csB at c132; simp at c132; exact c132.1)).1
          refine v_iald2 (n := 16) (a := r) (y := (frF T r)) dX0_isHeld_142 (ar_c6 hc) (rfl) (by omega) (by rw [h.fr (by omega), if_pos hr1]) ?_
          refine v_callVr (x := .int (srcF T (frF T r))) (M1 := M) (as := [.int (frF T r)]) (st := []) dX0_isHeld_143 ml_X0_119 kv_X0_clocksOf (ob_c hc) ⟨(Nat.le_of_ble_eq_true rfl), (Nat.le_of_ble_eq_true rfl)⟩ rfl (Nat.le_of_ble_eq_true rfl) rfl (Nat.le_of_ble_eq_true rfl) (c_clocks hc h hW (fun b hb h9 => (fr_leaf hW (by omega) hr1 b (by omega) h9).2)) ?_
          refine v_iload dX0_isHeld_146 rfl ?_
          refine v_icmp_ne (tgt := 153) dX0_isHeld_148 (by decide) (fun c148 => ?_) (fun c148 => ?_)
          · refine v_iincN (lv' := [(0, .ref c), (1, .int (nI n)), (2, .int (nI nd)), (3, .int (nI (pt T n 0))), (4, .int (nI (ck T n))), (5, .int (srcF T (frF T n))), (6, .int (nI (pt T (pt T n 0) 0))), (7, .int (bkF T (ck T n) (pt T (pt T n 0) 0))), (8, .int (nI (r + 1)))]) dX0_isHeld_153 rfl (Nat.le_of_ble_eq_true rfl) rfl ?_
            refine v_goto (tgt := 94) dX0_isHeld_156 (by decide) ?_
            exact ih (r + 1) (by omega) (by
              simp only [hitN]; rw [hno, Bool.false_or]
              cases hx : hit T nd n (srcF T (frF T n)) (bkF T (ck T n) (pt T (pt T n 0) 0)) r with
              | false => rfl
              | true =>
                exfalso
                unfold hit at hx
                simp only [Bool.and_eq_true, decide_eq_true_eq] at hx
                first | exact c110 hx.1.1.1 | exact c122 ((ckc_iff hW (by omega) hn).mpr hx.1.1.2) | exact c132 hx.1.2 | exact c148 hx.2)
          · refine v_iconst (v := (nI 1)) dX0_isHeld_151 rfl ?_
            refine v_zret dX0_isHeld_152 rfl (Or.inr rfl) ?_
            refine ⟨?_, rfl⟩
            rw [bI_t (hitN_iff.mpr ⟨r, by omega, by
              unfold hit; simp only [Bool.and_eq_true, decide_eq_true_eq]
              exact ⟨⟨⟨c110, (ckc_iff hW (by omega) hn).mp c122⟩, c132⟩, c148⟩⟩)]; rfl
set_option maxRecDepth 100000 in
theorem c_cHeld (hc : c = 4 ∨ c = 14) (h : CIR0 M c T) (hW : WF T) (hd : ∀ n, n < nN T → so T n = 1 → M (c + 7) n = nI (dpF T n)) {nd : Nat} (hnb : nd < 2 ^ 31) {n : Nat} (hn : n < nN T) (h1 : so T n = 1) : V kX0_isHeld (rt (.int (bI (heldF T nd n = true))) M) M 0 [(0, .ref c), (1, .int (nI n)), (2, .int (nI nd))] [] := by
  have h16 := hW.n16
  have hm1 := hm_reg h1
  have hp := hW.ptlt hn (show 0 < hmF (so T n) by omega)
  have hckn := hW.ck2 hn
  obtain ⟨j, hj, hsj⟩ := src_7 hW (frF T n)
  have hheld := held_iff hW (nd := nd) hn h1 hj hsj
  refine v_aload_n dX0_isHeld_0 rfl ?_
  refine v_iload_n dX0_isHeld_1 rfl ?_
  refine v_iconst (v := (nI 0)) dX0_isHeld_2 rfl ?_
  refine v_callVr (x := .int (nI (pt T n 0))) (M1 := M) (as := [.int (nI n), .int (nI 0)]) (st := []) dX0_isHeld_3 ml_X0_116 kv_X0_partOf (ob_c hc) ⟨(Nat.le_of_ble_eq_true rfl), (Nat.le_of_ble_eq_true rfl)⟩ rfl (Nat.le_of_ble_eq_true rfl) rfl (Nat.le_of_ble_eq_true rfl) (c_cPart hc h hW (by omega) (by omega)) ?_
  refine v_istore_n (lv' := [(0, .ref c), (1, .int (nI n)), (2, .int (nI nd)), (3, .int (nI (pt T n 0)))]) dX0_isHeld_6 (Nat.le_of_ble_eq_true rfl) rfl ?_
  refine v_aload_n dX0_isHeld_7 rfl ?_
  refine v_getR (t := c + 2) dX0_isHeld_8 fl_X0_15 (ob_c hc) rfl rfl ?_
  refine v_iload_n dX0_isHeld_11 rfl ?_
  refine v_callSr (x := .int (nI (ck T n))) (M1 := M) (as := [.ref (c + 2), .int (nI n)]) (st := []) dX0_isHeld_12 ml_X0_60 ks_X3_at ⟨(Nat.le_of_ble_eq_true rfl), (Nat.le_of_ble_eq_true rfl)⟩ rfl (Nat.le_of_ble_eq_true rfl) rfl (Nat.le_of_ble_eq_true rfl) (c_at (ar_c2 hc) (by omega) (cir_ckL h hn (by omega))) ?_
  refine v_istore (lv' := [(0, .ref c), (1, .int (nI n)), (2, .int (nI nd)), (3, .int (nI (pt T n 0))), (4, .int (nI (ck T n)))]) dX0_isHeld_15 (Nat.le_of_ble_eq_true rfl) rfl ?_
  refine v_aload_n dX0_isHeld_17 rfl ?_
  refine v_aload_n dX0_isHeld_18 rfl ?_
  refine v_getR (t := c + 6) dX0_isHeld_19 fl_X0_27 (ob_c hc) rfl rfl ?_
  refine v_iload_n dX0_isHeld_22 rfl ?_
  refine v_callSr (x := .int (frF T n)) (M1 := M) (as := [.ref (c + 6), .int (nI n)]) (st := [.ref c]) dX0_isHeld_23 ml_X0_60 ks_X3_at ⟨(Nat.le_of_ble_eq_true rfl), (Nat.le_of_ble_eq_true rfl)⟩ rfl (Nat.le_of_ble_eq_true rfl) rfl (Nat.le_of_ble_eq_true rfl) (c_at (ar_c6 hc) (by omega) (by rw [h.fr hn, if_pos h1])) ?_
  refine v_callVr (x := .int (srcF T (frF T n))) (M1 := M) (as := [.int (frF T n)]) (st := []) dX0_isHeld_26 ml_X0_119 kv_X0_clocksOf (ob_c hc) ⟨(Nat.le_of_ble_eq_true rfl), (Nat.le_of_ble_eq_true rfl)⟩ rfl (Nat.le_of_ble_eq_true rfl) rfl (Nat.le_of_ble_eq_true rfl) (c_clocks hc h hW (fun b hb h9 => (fr_leaf hW hn h1 b (by omega) h9).2)) ?_
  refine v_istore (lv' := [(0, .ref c), (1, .int (nI n)), (2, .int (nI nd)), (3, .int (nI (pt T n 0))), (4, .int (nI (ck T n))), (5, .int (srcF T (frF T n)))]) dX0_isHeld_29 (Nat.le_of_ble_eq_true rfl) rfl ?_
  refine v_aload_n dX0_isHeld_31 rfl ?_
  refine v_iload_n dX0_isHeld_32 rfl ?_
  refine v_iconst (v := (nI 5)) dX0_isHeld_33 rfl ?_
  refine v_callVr (x := .int (bI (so T (pt T n 0) = 5))) (M1 := M) (as := [.int (nI (pt T n 0)), .int (nI 5)]) (st := []) dX0_isHeld_34 ml_X0_97 kv_X0_isOf (ob_c hc) ⟨(Nat.le_of_ble_eq_true rfl), (Nat.le_of_ble_eq_true rfl)⟩ rfl (Nat.le_of_ble_eq_true rfl) rfl (Nat.le_of_ble_eq_true rfl) (c_cOf hc h hW (by omega) (by omega)) ?_
  refine v_ifB_eq (tgt := 49) dX0_isHeld_37 (by decide) (fun c37 => ?_) (fun c37 => ?_)
  · refine v_iconst (v := (nI 0)) dX0_isHeld_49 rfl ?_
    refine v_zret dX0_isHeld_50 rfl (Or.inl rfl) ?_
    refine ⟨?_, rfl⟩
    rw [bI_f (fun q => by have q2 := hheld.mp q; first | exact c37 q2.1 | exact c46 q2.2.1 | exact c76 q2.2.2.1)]; rfl
  · refine v_iload dX0_isHeld_40 rfl ?_
    refine v_callSr (x := .int (nI (bcT j))) (M1 := M) (as := [.int (srcF T (frF T n))]) (st := []) dX0_isHeld_42 ml_X0_122 ks_J6_bitCount_0f7a4 ⟨(Nat.le_of_ble_eq_true rfl), (Nat.le_of_ble_eq_true rfl)⟩ rfl (Nat.le_of_ble_eq_true rfl) rfl (Nat.le_of_ble_eq_true rfl) (by rw [hsj]; exact c_bc hj) ?_
    refine v_iconst (v := (nI 1)) dX0_isHeld_45 rfl ?_
    refine v_icmpN_eq (tgt := 51) dX0_isHeld_46 (by decide) (by have : bcT j ≤ 3 := (by decide : ∀ j, j < 8 → bcT j ≤ 3) j hj; omega) (by omega) (fun c46 => ?_) (fun c46 => ?_)
    · refine v_aload_n dX0_isHeld_51 rfl ?_
      refine v_iload_n dX0_isHeld_52 rfl ?_
      refine v_iconst (v := (nI 0)) dX0_isHeld_53 rfl ?_
      have hm5 := hm_ch c37
      have hp2 := hW.ptlt (n := pt T n 0) (by omega) (show 0 < hmF (so T (pt T n 0)) by omega)
      refine v_callVr (x := .int (nI (pt T (pt T n 0) 0))) (M1 := M) (as := [.int (nI (pt T n 0)), .int (nI 0)]) (st := []) dX0_isHeld_54 ml_X0_116 kv_X0_partOf (ob_c hc) ⟨(Nat.le_of_ble_eq_true rfl), (Nat.le_of_ble_eq_true rfl)⟩ rfl (Nat.le_of_ble_eq_true rfl) rfl (Nat.le_of_ble_eq_true rfl) (c_cPart hc h hW (by omega) (by omega)) ?_
      refine v_istore (lv' := [(0, .ref c), (1, .int (nI n)), (2, .int (nI nd)), (3, .int (nI (pt T n 0))), (4, .int (nI (ck T n))), (5, .int (srcF T (frF T n))), (6, .int (nI (pt T (pt T n 0) 0)))]) dX0_isHeld_57 (Nat.le_of_ble_eq_true rfl) rfl ?_
      refine v_aload_n dX0_isHeld_59 rfl ?_
      refine v_aload_n dX0_isHeld_60 rfl ?_
      refine v_getR (t := c + 5) dX0_isHeld_61 fl_X0_24 (ob_c hc) rfl rfl ?_
      refine v_iload dX0_isHeld_64 rfl ?_
      refine v_callSr (x := .int (lvF T (pt T (pt T n 0) 0))) (M1 := M) (as := [.ref (c + 5), .int (nI (pt T (pt T n 0) 0))]) (st := [.ref c]) dX0_isHeld_66 ml_X0_60 ks_X3_at ⟨(Nat.le_of_ble_eq_true rfl), (Nat.le_of_ble_eq_true rfl)⟩ rfl (Nat.le_of_ble_eq_true rfl) rfl (Nat.le_of_ble_eq_true rfl) (c_at (ar_c5 hc) (by omega) (h.lv (by omega))) ?_
      refine v_callVr (x := .int (srcF T (lvF T (pt T (pt T n 0) 0)))) (M1 := M) (as := [.int (lvF T (pt T (pt T n 0) 0))]) (st := []) dX0_isHeld_69 ml_X0_119 kv_X0_clocksOf (ob_c hc) ⟨(Nat.le_of_ble_eq_true rfl), (Nat.le_of_ble_eq_true rfl)⟩ rfl (Nat.le_of_ble_eq_true rfl) rfl (Nat.le_of_ble_eq_true rfl) (c_clocks hc h hW (fun b hb h9 => (lvF_b hW _ (by omega) b (by omega) h9).2)) ?_
      refine v_iconst (v := (nI 1)) dX0_isHeld_72 rfl ?_
      refine v_iload dX0_isHeld_73 rfl ?_
      refine v_ishl dX0_isHeld_75 ?_
      refine v_icmp_eq (tgt := 81) dX0_isHeld_76 (by decide) (fun c76 => ?_) (fun c76 => ?_)
      · refine v_aload_n dX0_isHeld_81 rfl ?_
        refine v_iload dX0_isHeld_82 rfl ?_
        refine v_iload dX0_isHeld_84 rfl ?_
        refine v_callVr (x := .int (bkF T (ck T n) (pt T (pt T n 0) 0))) (M1 := M) (as := [.int (nI (pt T (pt T n 0) 0)), .int (nI (ck T n))]) (st := []) dX0_isHeld_86 ml_X0_127 kv_X0_backFrom (ob_c hc) ⟨(Nat.le_of_ble_eq_true rfl), (Nat.le_of_ble_eq_true rfl)⟩ rfl (Nat.le_of_ble_eq_true rfl) rfl (Nat.le_of_ble_eq_true rfl) (c_cBack hc h hW (by omega) (by omega)) ?_
        refine v_istore (lv' := [(0, .ref c), (1, .int (nI n)), (2, .int (nI nd)), (3, .int (nI (pt T n 0))), (4, .int (nI (ck T n))), (5, .int (srcF T (frF T n))), (6, .int (nI (pt T (pt T n 0) 0))), (7, .int (bkF T (ck T n) (pt T (pt T n 0) 0)))]) dX0_isHeld_89 (Nat.le_of_ble_eq_true rfl) rfl ?_
        refine v_iconst (v := (nI 0)) dX0_isHeld_91 rfl ?_
        refine v_istore (lv' := [(0, .ref c), (1, .int (nI n)), (2, .int (nI nd)), (3, .int (nI (pt T n 0))), (4, .int (nI (ck T n))), (5, .int (srcF T (frF T n))), (6, .int (nI (pt T (pt T n 0) 0))), (7, .int (bkF T (ck T n) (pt T (pt T n 0) 0))), (8, .int (nI 0))]) dX0_isHeld_92 (Nat.le_of_ble_eq_true rfl) rfl ?_
        have e9 : bI (heldF T nd n = true) = bI (hitN T nd n (srcF T (frF T n)) (bkF T (ck T n) (pt T (pt T n 0) 0)) (nN T) = true) := bI_c (hheld.trans ⟨fun q => q.2.2.2, fun q => ⟨c37, c46, c76, q⟩⟩)
        rw [e9]
        exact l_cheld hc h hW hd hnb hn (nN T) 0 (by omega) rfl
      · refine v_iconst (v := (nI 0)) dX0_isHeld_79 rfl ?_
        refine v_zret dX0_isHeld_80 rfl (Or.inl rfl) ?_
        refine ⟨?_, rfl⟩
        rw [bI_f (fun q => by have q2 := hheld.mp q; first | exact c37 q2.1 | exact c46 q2.2.1 | exact c76 q2.2.2.1)]; rfl
    · refine v_iconst (v := (nI 0)) dX0_isHeld_49 rfl ?_
      refine v_zret dX0_isHeld_50 rfl (Or.inl rfl) ?_
      refine ⟨?_, rfl⟩
      rw [bI_f (fun q => by have q2 := hheld.mp q; first | exact c37 q2.1 | exact c46 q2.2.1 | exact c76 q2.2.2.1)]; rfl
set_option maxRecDepth 100000 in
theorem c_cKind (hc : c = 4 ∨ c = 14) (h : CIR0 M c T) (hW : WF T) (hd : ∀ n, n < nN T → so T n = 1 → M (c + 7) n = nI (dpF T n)) {nd : Nat} (hnb : nd < 2 ^ 31) {n : Nat} (hn : n < nN T) : V kX0_kindOf (rt (.int (oI (kaO T nd n))) M) M 0 [(0, .ref c), (1, .int (nI n)), (2, .int (nI nd))] [] := by
  have h16 := hW.n16
  refine v_aload_n dX0_kindOf_0 rfl ?_
  refine v_iload_n dX0_kindOf_1 rfl ?_
  refine v_callVr (x := .int (bI (cxB T n = true))) (M1 := M) (as := [.int (nI n)]) (st := []) dX0_kindOf_2 ml_X0_107 kv_X0_isCrossing (ob_c hc) ⟨(Nat.le_of_ble_eq_true rfl), (Nat.le_of_ble_eq_true rfl)⟩ rfl (Nat.le_of_ble_eq_true rfl) rfl (Nat.le_of_ble_eq_true rfl) (c_cCross hc h hW hn) ?_
  refine v_ifB_ne (tgt := 11) dX0_kindOf_5 (by decide) (fun c5 => ?_) (fun c5 => ?_)
  · have h1 : so T n = 1 := by unfold cxB at c5; simp at c5; exact c5.1
    have hf0 : ¬ frF T n = 0 := by unfold cxB at c5; simp at c5; exact c5.2
    refine v_aload_n dX0_kindOf_11 rfl ?_
    refine v_iload_n dX0_kindOf_12 rfl ?_
    refine v_callVr (x := .int (bI (cdB T n = true))) (M1 := M) (as := [.int (nI n)]) (st := []) dX0_kindOf_13 ml_X0_104 kv_X0_isDirect (ob_c hc) ⟨(Nat.le_of_ble_eq_true rfl), (Nat.le_of_ble_eq_true rfl)⟩ rfl (Nat.le_of_ble_eq_true rfl) rfl (Nat.le_of_ble_eq_true rfl) (c_cDir hc h hW hn) ?_
    refine v_ifB_eq (tgt := 34) dX0_kindOf_16 (by decide) (fun c16 => ?_) (fun c16 => ?_)
    · refine v_aload_n dX0_kindOf_34 rfl ?_
      refine v_iload_n dX0_kindOf_35 rfl ?_
      refine v_iload_n dX0_kindOf_36 rfl ?_
      refine v_callVr (x := .int (bI (heldF T nd n = true))) (M1 := M) (as := [.int (nI n), .int (nI nd)]) (st := []) dX0_kindOf_37 ml_X0_113 kv_X0_isHeld (ob_c hc) ⟨(Nat.le_of_ble_eq_true rfl), (Nat.le_of_ble_eq_true rfl)⟩ rfl (Nat.le_of_ble_eq_true rfl) rfl (Nat.le_of_ble_eq_true rfl) (c_cHeld hc h hW hd hnb hn h1) ?_
      refine v_ifB_eq (tgt := 47) dX0_kindOf_40 (by decide) (fun c40 => ?_) (fun c40 => ?_)
      · refine v_iconst (v := (nI 3)) dX0_kindOf_47 rfl ?_
        refine v_iret dX0_kindOf_48 rfl ?_
        refine ⟨?_, rfl⟩
        simp only [kaO, kdO, if_pos h1, if_neg hf0]
        have d1 : ¬ dirF T n = true := fun q => c16 (by simp [cdB, h1, q])
        rw [if_neg d1, if_neg c40]; rfl
      · refine v_iconst (v := (nI 2)) dX0_kindOf_43 rfl ?_
        refine v_goto (tgt := 48) dX0_kindOf_44 (by decide) ?_
        refine v_iret dX0_kindOf_48 rfl ?_
        refine ⟨?_, rfl⟩
        simp only [kaO, kdO, if_pos h1, if_neg hf0]
        have d1 : ¬ dirF T n = true := fun q => c16 (by simp [cdB, h1, q])
        rw [if_neg d1, if_pos c40]; rfl
    · refine v_aload_n dX0_kindOf_19 rfl ?_
      refine v_iload_n dX0_kindOf_20 rfl ?_
      refine v_iload_n dX0_kindOf_21 rfl ?_
      refine v_callVr (x := .int (bI (csB T nd n = true))) (M1 := M) (as := [.int (nI n), .int (nI nd)]) (st := []) dX0_kindOf_22 ml_X0_110 kv_X0_isSafe (ob_c hc) ⟨(Nat.le_of_ble_eq_true rfl), (Nat.le_of_ble_eq_true rfl)⟩ rfl (Nat.le_of_ble_eq_true rfl) rfl (Nat.le_of_ble_eq_true rfl) (c_cSafe hc h hW hd hn hnb) ?_
      refine v_ifB_eq (tgt := 32) dX0_kindOf_25 (by decide) (fun c25 => ?_) (fun c25 => ?_)
      · refine v_iconst (v := (nI 1)) dX0_kindOf_32 rfl ?_
        refine v_iret dX0_kindOf_33 rfl ?_
        refine ⟨?_, rfl⟩
        simp only [kaO, kdO, if_pos h1, if_neg hf0]
        have d1 := (cd_so c16).2
        have s1 : ¬ safF T nd n = true := by unfold csB at c25; unfold safF; simp [c16] at c25; simp [d1]; omega
        rw [if_pos d1, if_neg s1]; rfl
      · refine v_iconst (v := (nI 0)) dX0_kindOf_28 rfl ?_
        refine v_goto (tgt := 33) dX0_kindOf_29 (by decide) ?_
        refine v_iret dX0_kindOf_33 rfl ?_
        refine ⟨?_, rfl⟩
        simp only [kaO, kdO, if_pos h1, if_neg hf0]
        have d1 := (cd_so c16).2
        have s1 : safF T nd n = true := by unfold csB at c25; unfold safF; simp [c16] at c25; simp [d1, c25]
        rw [if_pos d1, if_pos s1]; rfl
  · have hka : kaO T nd n = none := kaO_cx.mpr c5
    refine v_bipush (v := (-9)) dX0_kindOf_8 (by decide) ?_
    refine v_iret dX0_kindOf_10 rfl ?_
    refine ⟨?_, rfl⟩
    rw [hka]; rfl
set_option maxRecDepth 100000 in
theorem c_cWt_0 (hc : c = 4 ∨ c = 14) (h : CIR0 M c T) (hW : WF T) (hd : ∀ n, n < nN T → so T n = 1 → M (c + 7) n = nI (dpF T n)) {nd : Nat} (hnb : nd < 2 ^ 31) {n : Nat} (hn : n < nN T) (hk : kaO T nd n = some 0) : V kX0_weightOf (rt (.float (wtF T n 0)) M) M 0 [(0, .ref c), (1, .int (nI n)), (2, .int (nI nd))] [] := by
  have h16 := hW.n16
  have h1 : so T n = 1 := by
    unfold kaO at hk; split at hk
    · assumption
    · cases hk
  refine v_aload_n dX0_weightOf_0 rfl ?_
  refine v_iload_n dX0_weightOf_1 rfl ?_
  refine v_iload_n dX0_weightOf_2 rfl ?_
  refine v_callVr (x := .int (nI 0)) (M1 := M) (as := [.int (nI n), .int (nI nd)]) (st := []) dX0_weightOf_3 ml_X0_139 kv_X0_kindOf (ob_c hc) ⟨(Nat.le_of_ble_eq_true rfl), (Nat.le_of_ble_eq_true rfl)⟩ rfl (Nat.le_of_ble_eq_true rfl) rfl (Nat.le_of_ble_eq_true rfl) (by have g := c_cKind hc h hW hd hnb hn; rw [hk] at g; exact g) ?_
  skip
  · refine v_tabIn (tgt := 32) (off := 26) dX0_weightOf_6 (by decide) (by decide) (by decide) (by decide) ?_
    refine v_aload_n dX0_weightOf_32 rfl ?_
    refine v_getR (t := c + 7) dX0_weightOf_33 fl_X0_30 (ob_c hc) rfl rfl ?_
    refine v_iload_n dX0_weightOf_36 rfl ?_
    refine v_callSr (x := .int (nI (dpF T n))) (M1 := M) (as := [.ref (c + 7), .int (nI n)]) (st := []) dX0_weightOf_37 ml_X0_60 ks_X3_at ⟨(Nat.le_of_ble_eq_true rfl), (Nat.le_of_ble_eq_true rfl)⟩ rfl (Nat.le_of_ble_eq_true rfl) rfl (Nat.le_of_ble_eq_true rfl) (c_at (ar_c7 hc) (by omega) (hd n hn h1)) ?_
    refine v_callSr (x := .float (hvN (dpF T n))) (M1 := M) (as := [.int (nI (dpF T n))]) (st := []) dX0_weightOf_40 ml_X0_142 ks_X0_halved ⟨(Nat.le_of_ble_eq_true rfl), (Nat.le_of_ble_eq_true rfl)⟩ rfl (Nat.le_of_ble_eq_true rfl) rfl (Nat.le_of_ble_eq_true rfl) (c_half dpF_le) ?_
    refine v_fret dX0_weightOf_43 rfl ?_
    exact ⟨rfl, rfl⟩
set_option maxRecDepth 100000 in
theorem c_cWt_1 (hc : c = 4 ∨ c = 14) (h : CIR0 M c T) (hW : WF T) (hd : ∀ n, n < nN T → so T n = 1 → M (c + 7) n = nI (dpF T n)) {nd : Nat} (hnb : nd < 2 ^ 31) {n : Nat} (hn : n < nN T) (hk : kaO T nd n = some 1) : V kX0_weightOf (rt (.float (wtF T n 1)) M) M 0 [(0, .ref c), (1, .int (nI n)), (2, .int (nI nd))] [] := by
  have h16 := hW.n16
  have h1 : so T n = 1 := by
    unfold kaO at hk; split at hk
    · assumption
    · cases hk
  refine v_aload_n dX0_weightOf_0 rfl ?_
  refine v_iload_n dX0_weightOf_1 rfl ?_
  refine v_iload_n dX0_weightOf_2 rfl ?_
  refine v_callVr (x := .int (nI 1)) (M1 := M) (as := [.int (nI n), .int (nI nd)]) (st := []) dX0_weightOf_3 ml_X0_139 kv_X0_kindOf (ob_c hc) ⟨(Nat.le_of_ble_eq_true rfl), (Nat.le_of_ble_eq_true rfl)⟩ rfl (Nat.le_of_ble_eq_true rfl) rfl (Nat.le_of_ble_eq_true rfl) (by have g := c_cKind hc h hW hd hnb hn; rw [hk] at g; exact g) ?_
  skip
  · refine v_tabIn (tgt := 44) (off := 38) dX0_weightOf_6 (by decide) (by decide) (by decide) (by decide) ?_
    refine v_ldcf dX0_weightOf_44 cf_X0_146 ?_
    refine v_fret dX0_weightOf_46 rfl ?_
    exact ⟨rfl, rfl⟩
set_option maxRecDepth 100000 in
theorem c_cWt_2 (hc : c = 4 ∨ c = 14) (h : CIR0 M c T) (hW : WF T) (hd : ∀ n, n < nN T → so T n = 1 → M (c + 7) n = nI (dpF T n)) {nd : Nat} (hnb : nd < 2 ^ 31) {n : Nat} (hn : n < nN T) (hk : kaO T nd n = some 2) : V kX0_weightOf (rt (.float (wtF T n 2)) M) M 0 [(0, .ref c), (1, .int (nI n)), (2, .int (nI nd))] [] := by
  have h16 := hW.n16
  have h1 : so T n = 1 := by
    unfold kaO at hk; split at hk
    · assumption
    · cases hk
  refine v_aload_n dX0_weightOf_0 rfl ?_
  refine v_iload_n dX0_weightOf_1 rfl ?_
  refine v_iload_n dX0_weightOf_2 rfl ?_
  refine v_callVr (x := .int (nI 2)) (M1 := M) (as := [.int (nI n), .int (nI nd)]) (st := []) dX0_weightOf_3 ml_X0_139 kv_X0_kindOf (ob_c hc) ⟨(Nat.le_of_ble_eq_true rfl), (Nat.le_of_ble_eq_true rfl)⟩ rfl (Nat.le_of_ble_eq_true rfl) rfl (Nat.le_of_ble_eq_true rfl) (by have g := c_cKind hc h hW hd hnb hn; rw [hk] at g; exact g) ?_
  skip
  · refine v_tabIn (tgt := 47) (off := 41) dX0_weightOf_6 (by decide) (by decide) (by decide) (by decide) ?_
    refine v_ldcf dX0_weightOf_47 cf_X0_147 ?_
    refine v_fret dX0_weightOf_49 rfl ?_
    exact ⟨rfl, rfl⟩
set_option maxRecDepth 100000 in
theorem c_cWt_3 (hc : c = 4 ∨ c = 14) (h : CIR0 M c T) (hW : WF T) (hd : ∀ n, n < nN T → so T n = 1 → M (c + 7) n = nI (dpF T n)) {nd : Nat} (hnb : nd < 2 ^ 31) {n : Nat} (hn : n < nN T) (hk : kaO T nd n = some 3) : V kX0_weightOf (rt (.float (wtF T n 3)) M) M 0 [(0, .ref c), (1, .int (nI n)), (2, .int (nI nd))] [] := by
  have h16 := hW.n16
  have h1 : so T n = 1 := by
    unfold kaO at hk; split at hk
    · assumption
    · cases hk
  refine v_aload_n dX0_weightOf_0 rfl ?_
  refine v_iload_n dX0_weightOf_1 rfl ?_
  refine v_iload_n dX0_weightOf_2 rfl ?_
  refine v_callVr (x := .int (nI 3)) (M1 := M) (as := [.int (nI n), .int (nI nd)]) (st := []) dX0_weightOf_3 ml_X0_139 kv_X0_kindOf (ob_c hc) ⟨(Nat.le_of_ble_eq_true rfl), (Nat.le_of_ble_eq_true rfl)⟩ rfl (Nat.le_of_ble_eq_true rfl) rfl (Nat.le_of_ble_eq_true rfl) (by have g := c_cKind hc h hW hd hnb hn; rw [hk] at g; exact g) ?_
  skip
  · refine v_tabOut (tgt := 50) dX0_weightOf_6 (by decide) (by decide) ?_
    refine v_ldcf dX0_weightOf_50 cf_X0_148 ?_
    refine v_fret dX0_weightOf_52 rfl ?_
    exact ⟨rfl, rfl⟩
theorem c_cWt (hc : c = 4 ∨ c = 14) (h : CIR0 M c T) (hW : WF T) (hd : ∀ n, n < nN T → so T n = 1 → M (c + 7) n = nI (dpF T n)) {nd : Nat} (hnb : nd < 2 ^ 31) {n kd : Nat} (hn : n < nN T) (hk : kaO T nd n = some kd) : V kX0_weightOf (rt (.float (wtF T n kd)) M) M 0 [(0, .ref c), (1, .int (nI n)), (2, .int (nI nd))] [] := by
  have h3 := kaO_le hk
  rcases (show kd = 0 ∨ kd = 1 ∨ kd = 2 ∨ kd = 3 by omega) with rfl | rfl | rfl | rfl
  · exact c_cWt_0 hc h hW hd hnb hn hk
  · exact c_cWt_1 hc h hW hd hnb hn hk
  · exact c_cWt_2 hc h hW hd hnb hn hk
  · exact c_cWt_3 hc h hW hd hnb hn hk
end C42
