theorem upd_ne {f : Nat → Int32} {a b : Nat} {x : Int32} (h : b ≠ a) : upd f a x b = f b := if_neg h
theorem upd_eq {f : Nat → Int32} {a : Nat} {x : Int32} : upd f a x a = x := if_pos rfl
theorem or_z (x : Int32) : x ||| nI 0 = x := by
  apply b_ext; intro i hi; rw [b_or, show bt (nI 0) i = false from b_0 i]; simp
section C46
variable {M M0 M1 : vM} {c m : Nat} {T f S : Nat → Int32} {n : Nat}
theorem fI_gate (hW : WF T) (h : fI M0 M m T f S n) (hn : n < nN T) (hl : ¬ so T n ≤ 1) : fI M0 (mup M (m + 1) n (gtF T (vlF T S) n)) m T f S (n + 1) := by
  obtain ⟨h1, h2, h3, h4⟩ := h
  refine ⟨fun i a b => (mup_ne b).trans (h1 i a b), ?_, fun j hj => ?_, fun j a b => ?_⟩
  · rw [mup_ne (by omega)]; exact h2
  · rw [mup_eq]
    by_cases e : j = n
    · rw [e, upd_eq, vlF_eq hW hn, if_neg hl]
    · rw [upd_ne e]; exact h3 j (by omega)
  · rw [mup_eq, upd_ne (by omega)]; exact h4 j (by omega) b
theorem fI_idle (hW : WF T) (h : fI M0 M m T f S n) (hn : n < nN T) (hl : so T n ≤ 1) (e : f n = S (4 + n)) : fI M0 M m T f S (n + 1) := by
  obtain ⟨h1, h2, h3, h4⟩ := h
  refine ⟨h1, h2, fun j hj => ?_, fun j a b => h4 j (by omega) b⟩
  by_cases e2 : j = n
  · rw [e2, h4 n (Nat.le_refl _) hn, e, vlF_eq hW hn, if_pos hl]
  · exact h3 j (by omega)
theorem fI_leaf (hW : WF T) {oth y : Int32} (h : fI M0 M m T f S n) (hn : n < nN T) (hl : so T n ≤ 1) (g1 : ∀ i, i ≠ m → M1 i = M i) (g2 : ∀ j, j ≠ 2 → j ≠ 3 → M1 m j = M m j) (g3 : M1 m 2 = tkW T f S oth n 2) (g4 : M1 m 3 = tkW T f S oth n 3) : fI M0 (mup M1 (m + 1) n y) m T f (upd (tkW T f S oth n) (4 + n) y) (n + 1) := by
  obtain ⟨h1, ⟨k0, k1, k2, k3⟩, h3, h4⟩ := h
  have hs : ∀ j, j < n → upd (tkW T f S oth n) (4 + n) y (4 + j) = S (4 + j) := fun j hj => by rw [upd_ne (by omega), tkW_o (by omega) (by omega)]
  refine ⟨fun i a b => (mup_ne b).trans ((g1 i a).trans (h1 i a b)), ?_, fun j hj => ?_, fun j a b => ?_⟩
  · rw [mup_ne (by omega), upd_ne (by omega), upd_ne (by omega), upd_ne (by omega), upd_ne (by omega), g3, g4, g2 0 (by decide) (by decide), g2 1 (by decide) (by decide), k0, k1, tkW_o (by decide) (by decide), tkW_o (by decide) (by decide)]
    exact ⟨rfl, rfl, rfl, rfl⟩
  · rw [mup_eq]
    by_cases e : j = n
    · rw [e, upd_eq, vlF_eq hW hn, if_pos hl, upd_eq]
    · rw [upd_ne e, g1 _ (by omega), h3 j (by omega)]
      exact vlF_c hW j (by omega) (fun i a _ => (hs i (by omega)).symm)
  · rw [mup_eq, upd_ne (by omega), g1 _ (by omega)]; exact h4 j (by omega) b
set_option maxRecDepth 100000 in
theorem l_follow (hc : c = 4 ∨ c = 14) (h0 : CIR0 M0 c T) (hW : WF T) {o : Nat} (hm : mo m) (ho : mo o) (hmo : m ≠ o) {R : Nat → Int32} (hR : rOK T R) (hMo : MOM M0 o T R) {tm : Int32} {s0 : (Nat → Int32) × Int32} (hs0 : s0.1 = upd R 1 tm) (d : Nat) : ∀ (n : Nat) (M : vM), n + d = nN T → fI M0 M m T (vlF T R) (tkL T (vlF T R) tm s0 n).1 n → V kX1_follow (fun v M1 => v = none ∧ fI M0 M1 m T (vlF T R) (tkL T (vlF T R) tm s0 (nN T)).1 (nN T)) M 25 [(0, .ref m), (1, .ref o), (2, .ref c), (3, .int (edN T tm 3)), (4, .int ((tkL T (vlF T R) tm s0 n).2)), (5, .int (nI n))] [] := by
  have h16 := hW.n16
  have hm24 := mo_60 hm
  have ho24 := mo_60 ho
  have hd : o ≠ m ∧ o ≠ m + 1 ∧ o + 1 ≠ m ∧ o + 1 ≠ m + 1 ∧ o + 2 ≠ m ∧ o + 2 ≠ m + 1 := by unfold mo at hm ho; omega
  induction d with
  | zero =>
    intro n M hk hI
    have h : CIR0 M c T := CIR0_c h0 (fun i a b => hI.1 i (by omega) (by omega))
    refine v_iload dX1_follow_25 rfl ?_
    refine v_aload_n dX1_follow_27 rfl ?_
    refine v_getI2 (y := (nI (nN T))) dX1_follow_28 fl_X1_43 (ob_c hc) rfl (h.nd) ?_
    refine v_icmpN_ge (tgt := 125) dX1_follow_31 (by decide) (by omega) (by omega) (fun c31 => ?_) (fun c31 => (by omega))
    refine v_vret dX1_follow_125 rfl ?_
    exact ⟨rfl, by rw [show nN T = n by omega]; exact hI⟩
  | succ d ih =>
    intro n M hk hI
    have h : CIR0 M c T := CIR0_c h0 (fun i a b => hI.1 i (by omega) (by omega))
    have hok : rOK T (tkL T (vlF T R) tm s0 n).1 := tkL_ok hW (by rw [hs0]; exact rOK_1 hR) (vlF_3 hW hR) n (by omega)
    have hfo : ∀ j, j < nN T → M (o + 1) j = vlF T R j := fun j hj => by rw [hI.1 _ (by omega) (by omega)]; exact hMo.2.1 j hj
    have hwo : so T n = 0 → M (o + 2) n = (tkL T (vlF T R) tm s0 n).1 (20 + n) := fun hz => by rw [hI.1 _ (by omega) (by omega), tkL_hi (by omega) (by omega) (by omega), hs0, upd_ne (by omega)]; exact hMo.2.2 n (by omega) hz
    have hck := hW.ck2 (n := n) (by omega)
    refine v_iload dX1_follow_25 rfl ?_
    refine v_aload_n dX1_follow_27 rfl ?_
    refine v_getI2 (y := (nI (nN T))) dX1_follow_28 fl_X1_43 (ob_c hc) rfl (h.nd) ?_
    refine v_icmpN_ge (tgt := 125) dX1_follow_31 (by decide) (by omega) (by omega) (fun c31 => (by omega)) (fun c31 => ?_)
    refine v_aload_n dX1_follow_34 rfl ?_
    refine v_iload dX1_follow_35 rfl ?_
    refine v_callVr (x := .int (bI (so T n ≤ 1))) (M1 := M) (as := [.int (nI n)]) (st := []) dX1_follow_37 ml_X1_46 kv_X0_isLeaf (ob_c hc) ⟨(Nat.le_of_ble_eq_true rfl), (Nat.le_of_ble_eq_true rfl)⟩ rfl (Nat.le_of_ble_eq_true rfl) rfl (Nat.le_of_ble_eq_true rfl) (c_cLeaf hc h hW (by omega)) ?_
    refine v_ifB_ne (tgt := 60) dX1_follow_40 (by decide) (fun c40 => ?_) (fun c40 => ?_)
    · refine v_iload_n dX1_follow_60 rfl ?_
      refine v_aload_n dX1_follow_61 rfl ?_
      refine v_getR (t := c + 2) dX1_follow_62 fl_X1_54 (ob_c hc) rfl rfl ?_
      refine v_iload dX1_follow_65 rfl ?_
      refine v_callSr (x := .int (nI (ck T n))) (M1 := M) (as := [.ref (c + 2), .int (nI n)]) (st := [.int (edN T tm 3)]) dX1_follow_67 ml_X1_57 ks_X3_at ⟨(Nat.le_of_ble_eq_true rfl), (Nat.le_of_ble_eq_true rfl)⟩ rfl (Nat.le_of_ble_eq_true rfl) rfl (Nat.le_of_ble_eq_true rfl) (c_at (ar_c2 hc) (by omega) (cir_ckL h (by omega) c40)) ?_
      refine v_callSr (x := .int (bI (bt ((edN T tm 3)) (ck T n) = true))) (M1 := M) (as := [.int (edN T tm 3), .int (nI (ck T n))]) (st := []) dX1_follow_70 ml_X1_61 ks_X3_hasBit ⟨(Nat.le_of_ble_eq_true rfl), (Nat.le_of_ble_eq_true rfl)⟩ rfl (Nat.le_of_ble_eq_true rfl) rfl (Nat.le_of_ble_eq_true rfl) (c_hasBit _ (by omega)) ?_
      refine v_ifB_eq (tgt := 119) dX1_follow_73 (by decide) (fun c73 => ?_) (fun c73 => ?_)
      · refine v_iincN (lv' := [(0, .ref m), (1, .ref o), (2, .ref c), (3, .int (edN T tm 3)), (4, .int ((tkL T (vlF T R) tm s0 n).2)), (5, .int (nI (n + 1)))]) dX1_follow_119 rfl (Nat.le_of_ble_eq_true rfl) rfl ?_
        refine v_goto (tgt := 25) dX1_follow_122 (by decide) ?_
        have e := tkL_no (T := T) (f := vlF T R) (tm := tm) (s := s0) (n := n) (fun z => c73 ((edN_b (by omega) (by omega)).mpr ⟨by omega, z.2⟩))
        have h2 := ih (n + 1) M (by omega) (by rw [e]; refine fI_idle hW hI (by omega) c40 ?_; rw [vlF_eq hW (by omega), if_pos c40, tkL_hi (by omega) (by omega) (by omega), hs0, upd_ne (by omega)])
        rw [e] at h2
        exact h2
      · refine v_aload_n dX1_follow_76 rfl ?_
        refine v_getR (t := m + 1) dX1_follow_77 fl_X1_9 (ob_m hm) rfl rfl ?_
        refine v_iload dX1_follow_80 rfl ?_
        refine v_aload_n dX1_follow_82 rfl ?_
        refine v_iload dX1_follow_83 rfl ?_
        refine v_aload_n dX1_follow_85 rfl ?_
        refine v_aload_n dX1_follow_86 rfl ?_
        refine v_iload dX1_follow_87 rfl ?_
        refine v_callV (as := [.int (nI n), .ref o, .ref c, .int ((tkL T (vlF T R) tm s0 n).2)]) (st := [.int (nI n), .ref (m + 1)]) dX1_follow_89 ml_X1_65 kv_X1_leafValue (ob_m hm) ⟨(Nat.le_of_ble_eq_true rfl), (Nat.le_of_ble_eq_true rfl)⟩ rfl (Nat.le_of_ble_eq_true rfl) rfl (Nat.le_of_ble_eq_true rfl) (c_mLeaf hc h hW hm ho (by omega) c40 hfo hwo hI.2.1.2.2.1 hI.2.1.2.2.2) (fun v M1 hq9 => ?_)
        obtain ⟨rfl, g1, g2, g3, g4⟩ := hq9
        refine v_iast (n := 16) (a := n) dX1_follow_92 (ar_m1 hm) (rfl) (by omega) ?_
        refine v_aload_n dX1_follow_93 rfl ?_
        refine v_getR (t := m + 1) dX1_follow_94 fl_X1_9 (ob_m hm) rfl rfl ?_
        refine v_iload dX1_follow_97 rfl ?_
        refine v_iald2 (n := 16) (a := n) (y := (itF T (vlF T R) (tkL T (vlF T R) tm s0 n).1 (tkL T (vlF T R) tm s0 n).2 n)) dX1_follow_99 (ar_m1 hm) (rfl) (by omega) (by rw [mup_eq, upd_eq]) ?_
        refine v_aload_n dX1_follow_100 rfl ?_
        refine v_getR (t := o + 1) dX1_follow_101 fl_X1_9 (ob_m ho) rfl rfl ?_
        refine v_iload dX1_follow_104 rfl ?_
        refine v_iald2 (n := 16) (a := n) (y := (vlF T R n)) dX1_follow_106 (ar_m1 ho) (rfl) (by omega) (by rw [mup_ne (by omega), g1 _ (by omega)]; exact hfo n (by omega)) ?_
        refine v_icmp_eq (tgt := 119) dX1_follow_107 (by decide) (fun c107 => ?_) (fun c107 => ?_)
        · refine v_iincN (lv' := [(0, .ref m), (1, .ref o), (2, .ref c), (3, .int (edN T tm 3)), (4, .int ((tkL T (vlF T R) tm s0 n).2)), (5, .int (nI (n + 1)))]) dX1_follow_119 rfl (Nat.le_of_ble_eq_true rfl) rfl ?_
          refine v_goto (tgt := 25) dX1_follow_122 (by decide) ?_
          have hz := ((edN_b (T := T) (tm := tm) (by omega) (by omega)).mp c73).2
          have e := tkL_st (T := T) (f := vlF T R) (tm := tm) (s := s0) (n := n) ⟨c40, hz⟩
          have h2 := ih (n + 1) _ (by omega) (by rw [e]; exact fI_leaf hW hI (by omega) c40 g1 g2 g3 g4)
          rw [e] at h2
          rw [if_pos c107, or_z] at h2
          exact h2
        · refine v_iload dX1_follow_110 rfl ?_
          refine v_iconst (v := (nI 1)) dX1_follow_112 rfl ?_
          refine v_iload dX1_follow_113 rfl ?_
          refine v_ishl dX1_follow_115 ?_
          refine v_ior dX1_follow_116 ?_
          refine v_istore (lv' := [(0, .ref m), (1, .ref o), (2, .ref c), (3, .int (edN T tm 3)), (4, .int (((tkL T (vlF T R) tm s0 n).2) ||| ((nI 1) <<< ((nI n) &&& 31)))), (5, .int (nI n))]) dX1_follow_117 (Nat.le_of_ble_eq_true rfl) rfl ?_
          refine v_iincN (lv' := [(0, .ref m), (1, .ref o), (2, .ref c), (3, .int (edN T tm 3)), (4, .int (((tkL T (vlF T R) tm s0 n).2) ||| ((nI 1) <<< ((nI n) &&& 31)))), (5, .int (nI (n + 1)))]) dX1_follow_119 rfl (Nat.le_of_ble_eq_true rfl) rfl ?_
          refine v_goto (tgt := 25) dX1_follow_122 (by decide) ?_
          have hz := ((edN_b (T := T) (tm := tm) (by omega) (by omega)).mp c73).2
          have e := tkL_st (T := T) (f := vlF T R) (tm := tm) (s := s0) (n := n) ⟨c40, hz⟩
          have h2 := ih (n + 1) _ (by omega) (by rw [e]; exact fI_leaf hW hI (by omega) c40 g1 g2 g3 g4)
          rw [e] at h2
          rw [if_neg c107] at h2
          exact h2
    · refine v_aload_n dX1_follow_43 rfl ?_
      refine v_getR (t := m + 1) dX1_follow_44 fl_X1_9 (ob_m hm) rfl rfl ?_
      refine v_iload dX1_follow_47 rfl ?_
      refine v_aload_n dX1_follow_49 rfl ?_
      refine v_iload dX1_follow_50 rfl ?_
      refine v_aload_n dX1_follow_52 rfl ?_
      refine v_callVr (x := .int (gtF T (vlF T (tkL T (vlF T R) tm s0 n).1) n)) (M1 := M) (as := [.int (nI n), .ref c]) (st := [.int (nI n), .ref (m + 1)]) dX1_follow_53 ml_X1_50 kv_X1_gateValue (ob_m hm) ⟨(Nat.le_of_ble_eq_true rfl), (Nat.le_of_ble_eq_true rfl)⟩ rfl (Nat.le_of_ble_eq_true rfl) rfl (Nat.le_of_ble_eq_true rfl) (c_mGate hc h hW hm (by omega) c40 hI.2.2.1 (fun j hj => vlF_3 hW hok j (by omega))) ?_
      refine v_iast (n := 16) (a := n) dX1_follow_56 (ar_m1 hm) (rfl) (by omega) ?_
      refine v_goto (tgt := 119) dX1_follow_57 (by decide) ?_
      refine v_iincN (lv' := [(0, .ref m), (1, .ref o), (2, .ref c), (3, .int (edN T tm 3)), (4, .int ((tkL T (vlF T R) tm s0 n).2)), (5, .int (nI (n + 1)))]) dX1_follow_119 rfl (Nat.le_of_ble_eq_true rfl) rfl ?_
      refine v_goto (tgt := 25) dX1_follow_122 (by decide) ?_
      have e := tkL_no (T := T) (f := vlF T R) (tm := tm) (s := s0) (n := n) (fun z => c40 z.1)
      have h2 := ih (n + 1) _ (by omega) (by rw [e]; exact fI_gate hW hI (by omega) c40)
      rw [e] at h2
      exact h2
set_option maxRecDepth 100000 in
theorem c_follow (hc : c = 4 ∨ c = 14) (h0 : CIR0 M0 c T) (hW : WF T) {o : Nat} (hm : mo m) (ho : mo o) (hmo : m ≠ o) {R : Nat → Int32} (hR : rOK T R) (hMo : MOM M0 o T R) (hMm : MOM M0 m T R) : V kX1_follow (fun v M1 => v = none ∧ (∀ i, i ≠ m → i ≠ m + 1 → M1 i = M0 i) ∧ MOM M1 m T (tkR T R)) M0 0 [(0, .ref m), (1, .ref o), (2, .ref c)] [] := by
  have h16 := hW.n16
  have hm24 := mo_60 hm
  have ho24 := mo_60 ho
  have hd : o ≠ m ∧ o ≠ m + 1 ∧ o + 1 ≠ m ∧ o + 1 ≠ m + 1 ∧ o + 2 ≠ m ∧ o + 2 ≠ m + 1 := by unfold mo at hm ho; omega
  refine v_aload_n dX1_follow_0 rfl ?_
  refine v_aload_n dX1_follow_1 rfl ?_
  refine v_getI2 (y := (R 1)) dX1_follow_2 fl_X1_22 (ob_m ho) rfl (hMo.1.2.1) ?_
  refine v_iconst (v := (nI 1)) dX1_follow_5 rfl ?_
  refine v_iadd dX1_follow_6 ?_
  refine v_putI dX1_follow_7 fl_X1_22 (ob_m hm) rfl rfl rfl ?_
  refine v_aload_n dX1_follow_10 rfl ?_
  refine v_aload_n dX1_follow_11 rfl ?_
  refine v_getI2 (y := (R 1 + nI 1)) dX1_follow_12 fl_X1_22 (ob_m hm) rfl (by rw [mup_eq, upd_eq]) ?_
  refine v_callVr (x := .int (edN T (R 1 + nI 1) 3)) (M1 := mup M0 m 1 (((R 1) + (nI 1)))) (as := [.int (R 1 + nI 1)]) (st := []) dX1_follow_15 ml_X1_37 kv_X0_edgesAt (ob_c hc) ⟨(Nat.le_of_ble_eq_true rfl), (Nat.le_of_ble_eq_true rfl)⟩ rfl (Nat.le_of_ble_eq_true rfl) rfl (Nat.le_of_ble_eq_true rfl) (c_edges hc (CIR0_c h0 (fun i a b => mup_ne (by omega))) hW) ?_
  refine v_istore_n (lv' := [(0, .ref m), (1, .ref o), (2, .ref c), (3, .int (edN T (R 1 + nI 1) 3))]) dX1_follow_18 (Nat.le_of_ble_eq_true rfl) rfl ?_
  refine v_iconst (v := (nI 0)) dX1_follow_19 rfl ?_
  refine v_istore (lv' := [(0, .ref m), (1, .ref o), (2, .ref c), (3, .int (edN T (R 1 + nI 1) 3)), (4, .int (nI 0))]) dX1_follow_20 (Nat.le_of_ble_eq_true rfl) rfl ?_
  refine v_iconst (v := (nI 0)) dX1_follow_22 rfl ?_
  refine v_istore (lv' := [(0, .ref m), (1, .ref o), (2, .ref c), (3, .int (edN T (R 1 + nI 1) 3)), (4, .int (nI 0)), (5, .int (nI 0))]) dX1_follow_23 (Nat.le_of_ble_eq_true rfl) rfl ?_
  have h' : CIR0 (mup M0 m 1 (R 1 + nI 1)) c T := CIR0_c h0 (fun i a b => mup_ne (by omega))
  have hMo' : MOM (mup M0 m 1 (R 1 + nI 1)) o T R := MOM_c hMo (mup_ne (by omega)) (mup_ne (by omega)) (mup_ne (by omega))
  refine v_post ?_ (l_follow (M0 := mup M0 m 1 (R 1 + nI 1)) hc h' hW hm ho hmo hR hMo' (tm := R 1 + nI 1) (s0 := (upd R 1 (R 1 + nI 1), nI 0)) rfl (nN T) 0 _ (by omega) ⟨fun _ _ _ => rfl, ?_, fun j hj => absurd hj (by omega), fun j a b => ?_⟩)
  · rintro v M1 ⟨rfl, g1, g2, g3, g4⟩
    refine ⟨rfl, fun i a b => (g1 i a b).trans (mup_ne a), g2, g3, fun j hj hz => ?_⟩
    rw [g1 _ (by omega) (by omega), mup_ne (by omega), tkR_20 hW]
    exact hMm.2.2 j hj hz
  · rw [mup_eq]
    show _ = upd R 1 (R 1 + nI 1) 0 ∧ _ = upd R 1 (R 1 + nI 1) 1 ∧ _ = upd R 1 (R 1 + nI 1) 2 ∧ _ = upd R 1 (R 1 + nI 1) 3
    simp only [upd]
    exact ⟨hMm.1.1, rfl, hMm.1.2.2.1, hMm.1.2.2.2⟩
  · rw [mup_ne (by omega)]; exact hMm.2.1 j b
set_option maxRecDepth 100000 in
theorem c_mCopy {o : Nat} (hm : mo m) (ho : mo o) (hmo : m ≠ o) : V kX1_copy (fun v M1 => v = none ∧ (∀ i, i ≠ m → i ≠ m + 1 → i ≠ m + 2 → M1 i = M i) ∧ ∀ T R, MOM M o T R → MOM M1 m T R) M 0 [(0, .ref m), (1, .ref o)] [] := by
  have hm24 := mo_60 hm
  have ho24 := mo_60 ho
  have hd : o ≠ m ∧ o ≠ m + 1 ∧ o + 1 ≠ m ∧ o + 1 ≠ m + 1 ∧ o + 2 ≠ m ∧ o + 2 ≠ m + 1 := by unfold mo at hm ho; omega
  refine v_aload_n dX1_copy_0 rfl ?_
  refine v_aload_n dX1_copy_1 rfl ?_
  refine v_getI dX1_copy_2 fl_X1_18 (ob_m ho) rfl ?_
  refine v_putI dX1_copy_5 fl_X1_18 (ob_m hm) rfl rfl rfl ?_
  refine v_aload_n dX1_copy_8 rfl ?_
  refine v_aload_n dX1_copy_9 rfl ?_
  refine v_getI dX1_copy_10 fl_X1_22 (ob_m ho) rfl ?_
  refine v_putI dX1_copy_13 fl_X1_22 (ob_m hm) rfl rfl rfl ?_
  refine v_aload_n dX1_copy_16 rfl ?_
  refine v_aload_n dX1_copy_17 rfl ?_
  refine v_getI dX1_copy_18 fl_X1_25 (ob_m ho) rfl ?_
  refine v_putI dX1_copy_21 fl_X1_25 (ob_m hm) rfl rfl rfl ?_
  refine v_aload_n dX1_copy_24 rfl ?_
  refine v_aload_n dX1_copy_25 rfl ?_
  refine v_getI dX1_copy_26 fl_X1_28 (ob_m ho) rfl ?_
  refine v_putI dX1_copy_29 fl_X1_28 (ob_m hm) rfl rfl rfl ?_
  refine v_aload_n dX1_copy_32 rfl ?_
  refine v_getR (t := o + 1) dX1_copy_33 fl_X1_9 (ob_m ho) rfl rfl ?_
  refine v_iconst (v := (nI 0)) dX1_copy_36 rfl ?_
  refine v_aload_n dX1_copy_37 rfl ?_
  refine v_getR (t := m + 1) dX1_copy_38 fl_X1_9 (ob_m hm) rfl rfl ?_
  refine v_iconst (v := (nI 0)) dX1_copy_41 rfl ?_
  refine v_bipush (v := (nI 16)) dX1_copy_42 rfl ?_
  refine v_acopy (i := o + 1) (j := m + 1) (n := 16) dX1_copy_44 ac_X1 (ar_m1 ho) (ar_m1 hm) (Nat.le_of_ble_eq_true rfl) (Nat.le_of_ble_eq_true rfl) ?_
  refine v_aload_n dX1_copy_47 rfl ?_
  refine v_getR (t := o + 2) dX1_copy_48 fl_X1_15 (ob_m ho) rfl rfl ?_
  refine v_iconst (v := (nI 0)) dX1_copy_51 rfl ?_
  refine v_aload_n dX1_copy_52 rfl ?_
  refine v_getR (t := m + 2) dX1_copy_53 fl_X1_15 (ob_m hm) rfl rfl ?_
  refine v_iconst (v := (nI 0)) dX1_copy_56 rfl ?_
  refine v_bipush (v := (nI 16)) dX1_copy_57 rfl ?_
  refine v_acopy (i := o + 2) (j := m + 2) (n := 16) dX1_copy_59 ac_X1 (ar_m2 ho) (ar_m2 hm) (Nat.le_of_ble_eq_true rfl) (Nat.le_of_ble_eq_true rfl) ?_
  refine v_vret dX1_copy_62 rfl ?_
  refine ⟨rfl, fun i a b d => ?_, fun T R h => ?_⟩
  · rw [mrow_ne d, mrow_ne b, mup_ne a, mup_ne a, mup_ne a, mup_ne a]
  · obtain ⟨⟨k0, k1, k2, k3⟩, h1, h2⟩ := h
    refine ⟨?_, fun n hn => ?_, fun n hn hz => ?_⟩
    · rw [mrow_ne (by omega), mrow_ne (by omega), mup_eq, mup_eq, mup_eq, mup_eq]
      simp only [upd]
      simp [mup_ne hd.1, k0, k1, k2, k3]
    · rw [mrow_ne (by omega), mrow_eq]
      rw [mup_ne (by omega), mup_ne (by omega), mup_ne (by omega), mup_ne (by omega)]
      exact h1 n hn
    · rw [mrow_eq, mrow_ne (by omega), mup_ne (by omega), mup_ne (by omega), mup_ne (by omega), mup_ne (by omega)]
      exact h2 n hn hz
set_option maxRecDepth 100000 in
theorem l_mBegin (hm : mo m) (d : Nat) : ∀ (k : Nat) (M : vM), k + d = 16 → (∀ i, i ≠ m → i ≠ m + 1 → i ≠ m + 2 → M i = M0 i) → (M m 0 = nI 2 ∧ M m 1 = nI 0 ∧ M m 2 = nI 0 ∧ M m 3 = nI 0) → (∀ j, j < k → M (m + 1) j = nI 0) → (∀ j, j < k → M (m + 2) j = nI 0) → V kX1_begin (fun v M1 => v = none ∧ (∀ i, i ≠ m → i ≠ m + 1 → i ≠ m + 2 → M1 i = M0 i) ∧ (M1 m 0 = nI 2 ∧ M1 m 1 = nI 0 ∧ M1 m 2 = nI 0 ∧ M1 m 3 = nI 0) ∧ (∀ j, j < 16 → M1 (m + 1) j = nI 0) ∧ ∀ j, j < 16 → M1 (m + 2) j = nI 0) M 22 [(0, .ref m), (1, .int (nI k))] [] := by
  induction d with
  | zero =>
    intro k M hk g1 g2 g3 g4
    refine v_iload_n dX1_begin_22 rfl ?_
    refine v_bipush (v := (nI 16)) dX1_begin_23 rfl ?_
    refine v_icmpN_ge (tgt := 48) dX1_begin_25 (by decide) (by omega) (by omega) (fun c25 => ?_) (fun c25 => (by omega))
    refine v_vret dX1_begin_48 rfl ?_
    exact ⟨rfl, g1, g2, fun j hj => g3 j (by omega), fun j hj => g4 j (by omega)⟩
  | succ d ih =>
    intro k M hk g1 g2 g3 g4
    refine v_iload_n dX1_begin_22 rfl ?_
    refine v_bipush (v := (nI 16)) dX1_begin_23 rfl ?_
    refine v_icmpN_ge (tgt := 48) dX1_begin_25 (by decide) (by omega) (by omega) (fun c25 => (by omega)) (fun c25 => ?_)
    refine v_aload_n dX1_begin_28 rfl ?_
    refine v_getR (t := m + 1) dX1_begin_29 fl_X1_9 (ob_m hm) rfl rfl ?_
    refine v_iload_n dX1_begin_32 rfl ?_
    refine v_iconst (v := (nI 0)) dX1_begin_33 rfl ?_
    refine v_iast (n := 16) (a := k) dX1_begin_34 (ar_m1 hm) (rfl) (by omega) ?_
    refine v_aload_n dX1_begin_35 rfl ?_
    refine v_getR (t := m + 2) dX1_begin_36 fl_X1_15 (ob_m hm) rfl rfl ?_
    refine v_iload_n dX1_begin_39 rfl ?_
    refine v_iconst (v := (nI 0)) dX1_begin_40 rfl ?_
    refine v_iast (n := 16) (a := k) dX1_begin_41 (ar_m2 hm) (rfl) (by omega) ?_
    refine v_iincN (lv' := [(0, .ref m), (1, .int (nI (k + 1)))]) dX1_begin_42 rfl (Nat.le_of_ble_eq_true rfl) rfl ?_
    refine v_goto (tgt := 22) dX1_begin_45 (by decide) ?_
    refine ih (k + 1) _ (by omega) (fun i a b e => ?_) ?_ (fun j hj => ?_) (fun j hj => ?_)
    · rw [mup_ne e, mup_ne b]; exact g1 i a b e
    · rw [mup_ne (by omega), mup_ne (by omega)]; exact g2
    · rw [mup_ne (by omega), mup_eq]
      by_cases e : j = k
      · rw [e, upd_eq]
      · rw [upd_ne e]; exact g3 j (by omega)
    · rw [mup_eq, mup_ne (by omega)]
      by_cases e : j = k
      · rw [e, upd_eq]
      · rw [upd_ne e]; exact g4 j (by omega)
set_option maxRecDepth 100000 in
theorem c_mBegin (hm : mo m) : V kX1_begin (fun v M1 => v = none ∧ (∀ i, i ≠ m → i ≠ m + 1 → i ≠ m + 2 → M1 i = M0 i) ∧ (M1 m 0 = nI 2 ∧ M1 m 1 = nI 0 ∧ M1 m 2 = nI 0 ∧ M1 m 3 = nI 0) ∧ (∀ j, j < 16 → M1 (m + 1) j = nI 0) ∧ ∀ j, j < 16 → M1 (m + 2) j = nI 0) M0 0 [(0, .ref m)] [] := by
  refine v_aload_n dX1_begin_0 rfl ?_
  refine v_iconst (v := (nI 2)) dX1_begin_1 rfl ?_
  refine v_putI dX1_begin_2 fl_X1_18 (ob_m hm) rfl rfl rfl ?_
  refine v_aload_n dX1_begin_5 rfl ?_
  refine v_iconst (v := (nI 0)) dX1_begin_6 rfl ?_
  refine v_putI dX1_begin_7 fl_X1_22 (ob_m hm) rfl rfl rfl ?_
  refine v_aload_n dX1_begin_10 rfl ?_
  refine v_iconst (v := (nI 0)) dX1_begin_11 rfl ?_
  refine v_putI dX1_begin_12 fl_X1_25 (ob_m hm) rfl rfl rfl ?_
  refine v_aload_n dX1_begin_15 rfl ?_
  refine v_iconst (v := (nI 0)) dX1_begin_16 rfl ?_
  refine v_putI dX1_begin_17 fl_X1_28 (ob_m hm) rfl rfl rfl ?_
  refine v_iconst (v := (nI 0)) dX1_begin_20 rfl ?_
  refine v_istore_n (lv' := [(0, .ref m), (1, .int (nI 0))]) dX1_begin_21 (Nat.le_of_ble_eq_true rfl) rfl ?_
  refine l_mBegin hm 16 0 _ (by omega) (fun i a b e => ?_) ?_ (fun j hj => absurd hj (by omega)) (fun j hj => absurd hj (by omega))
  · rw [mup_ne a, mup_ne a, mup_ne a, mup_ne a]
  · simp only [mup_eq, upd]; exact ⟨rfl, rfl, rfl, rfl⟩
theorem begin_M (hW : WF T) (h1 : M m 0 = nI 2 ∧ M m 1 = nI 0 ∧ M m 2 = nI 0 ∧ M m 3 = nI 0) (h2 : ∀ j, j < 16 → M (m + 1) j = nI 0) (h3 : ∀ j, j < 16 → M (m + 2) j = nI 0) : MOM M m T s0R := by
  have h16 := hW.n16
  refine ⟨h1, fun n hn => ?_, fun n hn _ => ?_⟩
  · rw [h2 n (by omega), vlF_z hW (fun i hi => by unfold s0R; rw [if_neg (by omega)]) n hn]
  · rw [h3 n (by omega)]; unfold s0R; rw [if_neg (by omega)]
set_option maxRecDepth 100000 in
theorem c_cTick (hc : c = 4 ∨ c = 14) (hcc : M0 0 1 = nI c) (h0 : CIR0 M0 c T) (hW : WF T) (hm : mo m) (hm27 : m ≠ 27) {R : Nat → Int32} (hR : rOK T R) (hMm : MOM M0 m T R) : V kX3_tick (fun v M1 => v = none ∧ (∀ i, i ≠ m → i ≠ m + 1 → i ≠ 27 → i ≠ 28 → i ≠ 29 → M1 i = M0 i) ∧ MOM M1 m T (tkR T R)) M0 0 [(0, .ref 0), (1, .ref m)] [] := by
  have ho : mo 27 := Or.inl (Or.inr (Or.inl rfl))
  have hm24 := mo_60 hm
  have hd : m ≠ 26 ∧ m ≠ 25 ∧ m ≠ 28 ∧ m ≠ 29 := by unfold mo at hm; omega
  refine v_aload_n dX3_tick_0 rfl ?_
  refine v_getR (t := 27) dX3_tick_1 fl_X3_33 ⟨by decide, rfl, by decide⟩ rfl rfl ?_
  refine v_aload_n dX3_tick_4 rfl ?_
  refine v_callV (as := [.ref m]) (st := []) dX3_tick_5 ml_X3_92 kv_X1_copy ⟨by decide, rfl, by decide⟩ ⟨(Nat.le_of_ble_eq_true rfl), (Nat.le_of_ble_eq_true rfl)⟩ rfl (Nat.le_of_ble_eq_true rfl) rfl (Nat.le_of_ble_eq_true rfl) (c_mCopy ho hm (Ne.symm hm27)) (fun v M1 hq => ?_)
  obtain ⟨rfl, g1, g2⟩ := hq
  refine v_aload_n dX3_tick_8 rfl ?_
  refine v_aload_n dX3_tick_9 rfl ?_
  refine v_getR (t := 27) dX3_tick_10 fl_X3_33 ⟨by decide, rfl, by decide⟩ rfl rfl ?_
  refine v_aload_n dX3_tick_13 rfl ?_
  refine v_getD (t := c) dX3_tick_14 fl_X3_19 ⟨by decide, rfl, by decide⟩ rfl ((congrFun (g1 0 (by decide) (by decide) (by decide)) 1).trans hcc) (by omega) ?_
  refine v_callV (as := [.ref 27, .ref c]) (st := []) dX3_tick_17 ml_X3_154 kv_X1_follow (ob_m hm) ⟨(Nat.le_of_ble_eq_true rfl), (Nat.le_of_ble_eq_true rfl)⟩ rfl (Nat.le_of_ble_eq_true rfl) rfl (Nat.le_of_ble_eq_true rfl) (c_follow hc (CIR0_c h0 (fun i a b => g1 i (by omega) (by omega) (by omega))) hW hm ho hm27 hR (g2 T R hMm) (MOM_c hMm (g1 m (by omega) (by omega) (by omega)) (g1 _ (by omega) (by omega) (by omega)) (g1 _ (by omega) (by omega) (by omega)))) (fun v M2 hq => ?_)
  obtain ⟨rfl, k1, k2⟩ := hq
  refine v_vret dX3_tick_20 rfl ?_
  exact ⟨rfl, fun i a b d e f => (k1 i a b).trans (g1 i d e f), k2⟩
end C46
