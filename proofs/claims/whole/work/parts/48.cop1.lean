section C48
variable {M M0 : vM} {c r : Nat} {T R tx : Nat → Int32} {P : List (Nat → Int32)} {Im : Nat → Option (Nat → Int32)} {t : Nat}
theorem w_out {w : Int32} {k : Nat} (hk : k < 2 ^ 31) (h : ¬ (nI 0 ≤ w ∧ w ≤ nI k)) : w.toInt < 0 ∨ (k : Int) < w.toInt := by
  by_cases h0 : w.toInt < 0
  · exact Or.inl h0
  · refine Or.inr ?_
    by_cases h1 : (k : Int) < w.toInt
    · exact h1
    · exfalso; apply h
      refine ⟨Int32.le_iff_toInt_le.mpr ?_, Int32.le_iff_toInt_le.mpr ?_⟩
      · rw [nI_toInt (by decide)]; omega
      · rw [nI_toInt hk]; omega
theorem m1_or {k : Int32} (h : (-1 : Int32) ≤ k) : k = (-1) ∨ ((0 : Int32) ≤ k ∧ ¬ k < 0) := by
  have h1 := Int32.le_iff_toInt_le.mp h
  rw [show (-1 : Int32).toInt = -1 from rfl] at h1
  by_cases e : k.toInt = -1
  · exact Or.inl (Int32.toInt_inj.mp e)
  · refine Or.inr ⟨Int32.le_iff_toInt_le.mpr ?_, fun q => ?_⟩
    · rw [show (0 : Int32).toInt = 0 from rfl]; omega
    · have := Int32.lt_iff_toInt_lt.mp q
      rw [show (0 : Int32).toInt = 0 from rfl] at this; omega
theorem c_cPartA (hc : c = 4 ∨ c = 14) (h : CIR0 M c T) (hW : WF T) {n k : Nat} (hn : n < nN T) (hk : k < 3) : V kX0_partOf (rt (.int (if k < hmF (so T n) then nI (pt T n k) else (-9))) M) M 0 [(0, .ref c), (1, .int (nI n)), (2, .int (nI k))] [] := by
  by_cases h1 : k < hmF (so T n)
  · rw [if_pos h1]; exact c_cPart hc h hW hn h1
  · rw [if_neg h1]; exact c_cPartO hc h hW hn hk h1
set_option maxRecDepth 100000 in
theorem k_node0 (hr : CLS c r M T R P Im tx t) (hW : WF T) {x w : Int32} (hx : ¬ isN T x) : V kX3_node (cA M ((-1)) T R P Im tx t) M 0 [(0, .ref 0), (1, .int x), (2, .int w)] [] := by
  have h16 := hW.n16
  have hr0 := hr
  obtain ⟨hc, hcc, hce, ⟨h, hd⟩, hm, hp, hi, hx0⟩ := hr
  have ho24 : mo 24 := Or.inl (Or.inl rfl)
  refine v_aload_n dX3_node_0 rfl ?_
  refine v_getD (t := c) dX3_node_1 fl_X3_19 ⟨by decide, rfl, by decide⟩ rfl (hcc) (by omega) ?_
  refine v_iload_n dX3_node_4 rfl ?_
  refine v_callVr (x := .int (nI 0)) (M1 := M) (as := [.int x]) (st := []) dX3_node_5 ml_X3_95 kv_X0_isNode (ob_c hc) ⟨(Nat.le_of_ble_eq_true rfl), (Nat.le_of_ble_eq_true rfl)⟩ rfl (Nat.le_of_ble_eq_true rfl) rfl (Nat.le_of_ble_eq_true rfl) (c_cNode0 hc h hW hx) ?_
  refine v_ifN_ne (tgt := 13) dX3_node_8 (by decide) (by decide) (fun c8 => (absurd rfl c8)) (fun c8 => ?_)
  refine v_iconst (v := (-1)) dX3_node_11 (by decide) ?_
  refine v_iret dX3_node_12 rfl ?_
  exact ⟨rfl, ⟨c, r, hr0⟩, kq_rf M⟩
set_option maxRecDepth 100000 in
theorem k_nodeO (hr : CLS c r M T R P Im tx t) (hW : WF T) {n : Nat} {w : Int32} (hn : n < nN T) (hw : w.toInt < 0 ∨ 7 < w.toInt) : V kX3_node (cA M ((-1)) T R P Im tx t) M 0 [(0, .ref 0), (1, .int (nI n)), (2, .int w)] [] := by
  have h16 := hW.n16
  have hr0 := hr
  obtain ⟨hc, hcc, hce, ⟨h, hd⟩, hm, hp, hi, hx0⟩ := hr
  have ho24 : mo 24 := Or.inl (Or.inl rfl)
  refine v_aload_n dX3_node_0 rfl ?_
  refine v_getD (t := c) dX3_node_1 fl_X3_19 ⟨by decide, rfl, by decide⟩ rfl (hcc) (by omega) ?_
  refine v_iload_n dX3_node_4 rfl ?_
  refine v_callVr (x := .int (nI 1)) (M1 := M) (as := [.int (nI n)]) (st := []) dX3_node_5 ml_X3_95 kv_X0_isNode (ob_c hc) ⟨(Nat.le_of_ble_eq_true rfl), (Nat.le_of_ble_eq_true rfl)⟩ rfl (Nat.le_of_ble_eq_true rfl) rfl (Nat.le_of_ble_eq_true rfl) (c_cNode hc h hW (by omega)) ?_
  refine v_ifN_ne (tgt := 13) dX3_node_8 (by decide) (by decide) (fun c8 => ?_) (fun c8 => (absurd c8 (by decide)))
  refine v_iload_n dX3_node_13 rfl ?_
  skip
  · refine v_tabOut (tgt := 157) dX3_node_14 hw (by decide) ?_
    refine v_iconst (v := (-1)) dX3_node_157 (by decide) ?_
    refine v_iret dX3_node_158 rfl ?_
    exact ⟨rfl, ⟨c, r, hr0⟩, kq_rf M⟩
set_option maxRecDepth 100000 in
theorem k_node_0 (hr : CLS c r M T R P Im tx t) (hW : WF T) {n : Nat} (hn : n < nN T) : V kX3_node (cA M (nodN T R n 0) T R P Im tx t) M 0 [(0, .ref 0), (1, .int (nI n)), (2, .int (nI 0))] [] := by
  have h16 := hW.n16
  have hr0 := hr
  obtain ⟨hc, hcc, hce, ⟨h, hd⟩, hm, hp, hi, hx0⟩ := hr
  have ho24 : mo 24 := Or.inl (Or.inl rfl)
  refine v_aload_n dX3_node_0 rfl ?_
  refine v_getD (t := c) dX3_node_1 fl_X3_19 ⟨by decide, rfl, by decide⟩ rfl (hcc) (by omega) ?_
  refine v_iload_n dX3_node_4 rfl ?_
  refine v_callVr (x := .int (nI 1)) (M1 := M) (as := [.int (nI n)]) (st := []) dX3_node_5 ml_X3_95 kv_X0_isNode (ob_c hc) ⟨(Nat.le_of_ble_eq_true rfl), (Nat.le_of_ble_eq_true rfl)⟩ rfl (Nat.le_of_ble_eq_true rfl) rfl (Nat.le_of_ble_eq_true rfl) (c_cNode hc h hW (by omega)) ?_
  refine v_ifN_ne (tgt := 13) dX3_node_8 (by decide) (by decide) (fun c8 => ?_) (fun c8 => (absurd c8 (by decide)))
  refine v_iload_n dX3_node_13 rfl ?_
  skip
  · refine v_tabIn (tgt := 60) (off := 46) dX3_node_14 (by decide) (by decide) (by decide) (by decide) ?_
    refine v_aload_n dX3_node_60 rfl ?_
    refine v_getD (t := c) dX3_node_61 fl_X3_19 ⟨by decide, rfl, by decide⟩ rfl (hcc) (by omega) ?_
    refine v_getR (t := c + 1) dX3_node_64 fl_X3_98 (ob_c hc) rfl rfl ?_
    refine v_iload_n dX3_node_67 rfl ?_
    refine v_callSr (x := .int (nI (so T n))) (M1 := M) (as := [.ref (c + 1), .int (nI n)]) (st := []) dX3_node_68 ml_X3_101 ks_X3_at ⟨(Nat.le_of_ble_eq_true rfl), (Nat.le_of_ble_eq_true rfl)⟩ rfl (Nat.le_of_ble_eq_true rfl) rfl (Nat.le_of_ble_eq_true rfl) (c_at (ar_c1 hc) (by omega) (h.wh hn)) ?_
    refine v_iret dX3_node_71 rfl ?_
    exact ⟨rfl, ⟨c, r, hr0⟩, kq_rf M⟩
set_option maxRecDepth 100000 in
theorem k_node_1 (hr : CLS c r M T R P Im tx t) (hW : WF T) {n : Nat} (hn : n < nN T) : V kX3_node (cA M (nodN T R n 1) T R P Im tx t) M 0 [(0, .ref 0), (1, .int (nI n)), (2, .int (nI 1))] [] := by
  have h16 := hW.n16
  have hr0 := hr
  obtain ⟨hc, hcc, hce, ⟨h, hd⟩, hm, hp, hi, hx0⟩ := hr
  have ho24 : mo 24 := Or.inl (Or.inl rfl)
  refine v_aload_n dX3_node_0 rfl ?_
  refine v_getD (t := c) dX3_node_1 fl_X3_19 ⟨by decide, rfl, by decide⟩ rfl (hcc) (by omega) ?_
  refine v_iload_n dX3_node_4 rfl ?_
  refine v_callVr (x := .int (nI 1)) (M1 := M) (as := [.int (nI n)]) (st := []) dX3_node_5 ml_X3_95 kv_X0_isNode (ob_c hc) ⟨(Nat.le_of_ble_eq_true rfl), (Nat.le_of_ble_eq_true rfl)⟩ rfl (Nat.le_of_ble_eq_true rfl) rfl (Nat.le_of_ble_eq_true rfl) (c_cNode hc h hW (by omega)) ?_
  refine v_ifN_ne (tgt := 13) dX3_node_8 (by decide) (by decide) (fun c8 => ?_) (fun c8 => (absurd c8 (by decide)))
  refine v_iload_n dX3_node_13 rfl ?_
  skip
  · refine v_tabIn (tgt := 72) (off := 58) dX3_node_14 (by decide) (by decide) (by decide) (by decide) ?_
    refine v_aload_n dX3_node_72 rfl ?_
    refine v_getD (t := c) dX3_node_73 fl_X3_19 ⟨by decide, rfl, by decide⟩ rfl (hcc) (by omega) ?_
    refine v_getR (t := c + 2) dX3_node_76 fl_X3_105 (ob_c hc) rfl rfl ?_
    refine v_iload_n dX3_node_79 rfl ?_
    refine v_callSr (x := .int (if so T n ≤ 1 then nI (ck T n) else (-9))) (M1 := M) (as := [.ref (c + 2), .int (nI n)]) (st := []) dX3_node_80 ml_X3_101 ks_X3_at ⟨(Nat.le_of_ble_eq_true rfl), (Nat.le_of_ble_eq_true rfl)⟩ rfl (Nat.le_of_ble_eq_true rfl) rfl (Nat.le_of_ble_eq_true rfl) (c_at (ar_c2 hc) (by omega) (h.ck hn)) ?_
    refine v_iret dX3_node_83 rfl ?_
    exact ⟨rfl, ⟨c, r, hr0⟩, kq_rf M⟩
set_option maxRecDepth 100000 in
theorem k_node_2 (hr : CLS c r M T R P Im tx t) (hW : WF T) {n : Nat} (hn : n < nN T) : V kX3_node (cA M (nodN T R n 2) T R P Im tx t) M 0 [(0, .ref 0), (1, .int (nI n)), (2, .int (nI 2))] [] := by
  have h16 := hW.n16
  have hr0 := hr
  obtain ⟨hc, hcc, hce, ⟨h, hd⟩, hm, hp, hi, hx0⟩ := hr
  have ho24 : mo 24 := Or.inl (Or.inl rfl)
  refine v_aload_n dX3_node_0 rfl ?_
  refine v_getD (t := c) dX3_node_1 fl_X3_19 ⟨by decide, rfl, by decide⟩ rfl (hcc) (by omega) ?_
  refine v_iload_n dX3_node_4 rfl ?_
  refine v_callVr (x := .int (nI 1)) (M1 := M) (as := [.int (nI n)]) (st := []) dX3_node_5 ml_X3_95 kv_X0_isNode (ob_c hc) ⟨(Nat.le_of_ble_eq_true rfl), (Nat.le_of_ble_eq_true rfl)⟩ rfl (Nat.le_of_ble_eq_true rfl) rfl (Nat.le_of_ble_eq_true rfl) (c_cNode hc h hW (by omega)) ?_
  refine v_ifN_ne (tgt := 13) dX3_node_8 (by decide) (by decide) (fun c8 => ?_) (fun c8 => (absurd c8 (by decide)))
  refine v_iload_n dX3_node_13 rfl ?_
  skip
  · refine v_tabIn (tgt := 84) (off := 70) dX3_node_14 (by decide) (by decide) (by decide) (by decide) ?_
    refine v_aload_n dX3_node_84 rfl ?_
    refine v_getD (t := c) dX3_node_85 fl_X3_19 ⟨by decide, rfl, by decide⟩ rfl (hcc) (by omega) ?_
    refine v_iload_n dX3_node_88 rfl ?_
    refine v_iconst (v := (nI 0)) dX3_node_89 rfl ?_
    refine v_callVr (x := .int (if 0 < hmF (so T n) then nI (pt T n 0) else (-9))) (M1 := M) (as := [.int (nI n), .int (nI 0)]) (st := []) dX3_node_90 ml_X3_108 kv_X0_partOf (ob_c hc) ⟨(Nat.le_of_ble_eq_true rfl), (Nat.le_of_ble_eq_true rfl)⟩ rfl (Nat.le_of_ble_eq_true rfl) rfl (Nat.le_of_ble_eq_true rfl) (c_cPartA hc h hW hn (by omega)) ?_
    refine v_iret dX3_node_93 rfl ?_
    exact ⟨rfl, ⟨c, r, hr0⟩, kq_rf M⟩
set_option maxRecDepth 100000 in
theorem k_node_3 (hr : CLS c r M T R P Im tx t) (hW : WF T) {n : Nat} (hn : n < nN T) : V kX3_node (cA M (nodN T R n 3) T R P Im tx t) M 0 [(0, .ref 0), (1, .int (nI n)), (2, .int (nI 3))] [] := by
  have h16 := hW.n16
  have hr0 := hr
  obtain ⟨hc, hcc, hce, ⟨h, hd⟩, hm, hp, hi, hx0⟩ := hr
  have ho24 : mo 24 := Or.inl (Or.inl rfl)
  refine v_aload_n dX3_node_0 rfl ?_
  refine v_getD (t := c) dX3_node_1 fl_X3_19 ⟨by decide, rfl, by decide⟩ rfl (hcc) (by omega) ?_
  refine v_iload_n dX3_node_4 rfl ?_
  refine v_callVr (x := .int (nI 1)) (M1 := M) (as := [.int (nI n)]) (st := []) dX3_node_5 ml_X3_95 kv_X0_isNode (ob_c hc) ⟨(Nat.le_of_ble_eq_true rfl), (Nat.le_of_ble_eq_true rfl)⟩ rfl (Nat.le_of_ble_eq_true rfl) rfl (Nat.le_of_ble_eq_true rfl) (c_cNode hc h hW (by omega)) ?_
  refine v_ifN_ne (tgt := 13) dX3_node_8 (by decide) (by decide) (fun c8 => ?_) (fun c8 => (absurd c8 (by decide)))
  refine v_iload_n dX3_node_13 rfl ?_
  skip
  · refine v_tabIn (tgt := 94) (off := 80) dX3_node_14 (by decide) (by decide) (by decide) (by decide) ?_
    refine v_aload_n dX3_node_94 rfl ?_
    refine v_getD (t := c) dX3_node_95 fl_X3_19 ⟨by decide, rfl, by decide⟩ rfl (hcc) (by omega) ?_
    refine v_iload_n dX3_node_98 rfl ?_
    refine v_iconst (v := (nI 1)) dX3_node_99 rfl ?_
    refine v_callVr (x := .int (if 1 < hmF (so T n) then nI (pt T n 1) else (-9))) (M1 := M) (as := [.int (nI n), .int (nI 1)]) (st := []) dX3_node_100 ml_X3_108 kv_X0_partOf (ob_c hc) ⟨(Nat.le_of_ble_eq_true rfl), (Nat.le_of_ble_eq_true rfl)⟩ rfl (Nat.le_of_ble_eq_true rfl) rfl (Nat.le_of_ble_eq_true rfl) (c_cPartA hc h hW hn (by omega)) ?_
    refine v_iret dX3_node_103 rfl ?_
    exact ⟨rfl, ⟨c, r, hr0⟩, kq_rf M⟩
set_option maxRecDepth 100000 in
theorem k_node_4 (hr : CLS c r M T R P Im tx t) (hW : WF T) {n : Nat} (hn : n < nN T) : V kX3_node (cA M (nodN T R n 4) T R P Im tx t) M 0 [(0, .ref 0), (1, .int (nI n)), (2, .int (nI 4))] [] := by
  have h16 := hW.n16
  have hr0 := hr
  obtain ⟨hc, hcc, hce, ⟨h, hd⟩, hm, hp, hi, hx0⟩ := hr
  have ho24 : mo 24 := Or.inl (Or.inl rfl)
  refine v_aload_n dX3_node_0 rfl ?_
  refine v_getD (t := c) dX3_node_1 fl_X3_19 ⟨by decide, rfl, by decide⟩ rfl (hcc) (by omega) ?_
  refine v_iload_n dX3_node_4 rfl ?_
  refine v_callVr (x := .int (nI 1)) (M1 := M) (as := [.int (nI n)]) (st := []) dX3_node_5 ml_X3_95 kv_X0_isNode (ob_c hc) ⟨(Nat.le_of_ble_eq_true rfl), (Nat.le_of_ble_eq_true rfl)⟩ rfl (Nat.le_of_ble_eq_true rfl) rfl (Nat.le_of_ble_eq_true rfl) (c_cNode hc h hW (by omega)) ?_
  refine v_ifN_ne (tgt := 13) dX3_node_8 (by decide) (by decide) (fun c8 => ?_) (fun c8 => (absurd c8 (by decide)))
  refine v_iload_n dX3_node_13 rfl ?_
  skip
  · refine v_tabIn (tgt := 104) (off := 90) dX3_node_14 (by decide) (by decide) (by decide) (by decide) ?_
    refine v_aload_n dX3_node_104 rfl ?_
    refine v_getD (t := c) dX3_node_105 fl_X3_19 ⟨by decide, rfl, by decide⟩ rfl (hcc) (by omega) ?_
    refine v_iload_n dX3_node_108 rfl ?_
    refine v_iconst (v := (nI 2)) dX3_node_109 rfl ?_
    refine v_callVr (x := .int (if 2 < hmF (so T n) then nI (pt T n 2) else (-9))) (M1 := M) (as := [.int (nI n), .int (nI 2)]) (st := []) dX3_node_110 ml_X3_108 kv_X0_partOf (ob_c hc) ⟨(Nat.le_of_ble_eq_true rfl), (Nat.le_of_ble_eq_true rfl)⟩ rfl (Nat.le_of_ble_eq_true rfl) rfl (Nat.le_of_ble_eq_true rfl) (c_cPartA hc h hW hn (by omega)) ?_
    refine v_iret dX3_node_113 rfl ?_
    exact ⟨rfl, ⟨c, r, hr0⟩, kq_rf M⟩
set_option maxRecDepth 100000 in
theorem k_node_5 (hr : CLS c r M T R P Im tx t) (hW : WF T) {n : Nat} (hn : n < nN T) : V kX3_node (cA M (nodN T R n 5) T R P Im tx t) M 0 [(0, .ref 0), (1, .int (nI n)), (2, .int (nI 5))] [] := by
  have h16 := hW.n16
  have hr0 := hr
  obtain ⟨hc, hcc, hce, ⟨h, hd⟩, hm, hp, hi, hx0⟩ := hr
  have ho24 : mo 24 := Or.inl (Or.inl rfl)
  refine v_aload_n dX3_node_0 rfl ?_
  refine v_getD (t := c) dX3_node_1 fl_X3_19 ⟨by decide, rfl, by decide⟩ rfl (hcc) (by omega) ?_
  refine v_iload_n dX3_node_4 rfl ?_
  refine v_callVr (x := .int (nI 1)) (M1 := M) (as := [.int (nI n)]) (st := []) dX3_node_5 ml_X3_95 kv_X0_isNode (ob_c hc) ⟨(Nat.le_of_ble_eq_true rfl), (Nat.le_of_ble_eq_true rfl)⟩ rfl (Nat.le_of_ble_eq_true rfl) rfl (Nat.le_of_ble_eq_true rfl) (c_cNode hc h hW (by omega)) ?_
  refine v_ifN_ne (tgt := 13) dX3_node_8 (by decide) (by decide) (fun c8 => ?_) (fun c8 => (absurd c8 (by decide)))
  refine v_iload_n dX3_node_13 rfl ?_
  skip
  · refine v_tabIn (tgt := 114) (off := 100) dX3_node_14 (by decide) (by decide) (by decide) (by decide) ?_
    refine v_aload_n dX3_node_114 rfl ?_
    refine v_getD (t := c) dX3_node_115 fl_X3_19 ⟨by decide, rfl, by decide⟩ rfl (hcc) (by omega) ?_
    refine v_aload_n dX3_node_118 rfl ?_
    refine v_getD (t := c) dX3_node_119 fl_X3_19 ⟨by decide, rfl, by decide⟩ rfl (hcc) (by omega) ?_
    refine v_getR (t := c + 5) dX3_node_122 fl_X3_112 (ob_c hc) rfl rfl ?_
    refine v_iload_n dX3_node_125 rfl ?_
    refine v_callSr (x := .int (lvF T n)) (M1 := M) (as := [.ref (c + 5), .int (nI n)]) (st := [.ref c]) dX3_node_126 ml_X3_101 ks_X3_at ⟨(Nat.le_of_ble_eq_true rfl), (Nat.le_of_ble_eq_true rfl)⟩ rfl (Nat.le_of_ble_eq_true rfl) rfl (Nat.le_of_ble_eq_true rfl) (c_at (ar_c5 hc) (by omega) (h.lv hn)) ?_
    refine v_callVr (x := .int (srcF T (lvF T n))) (M1 := M) (as := [.int (lvF T n)]) (st := []) dX3_node_129 ml_X3_115 kv_X0_clocksOf (ob_c hc) ⟨(Nat.le_of_ble_eq_true rfl), (Nat.le_of_ble_eq_true rfl)⟩ rfl (Nat.le_of_ble_eq_true rfl) rfl (Nat.le_of_ble_eq_true rfl) (c_clocks hc h hW (fun b hb h9 => (lvF_b hW _ hn b (by omega) h9).2)) ?_
    refine v_iret dX3_node_132 rfl ?_
    exact ⟨rfl, ⟨c, r, hr0⟩, kq_rf M⟩
set_option maxRecDepth 100000 in
theorem k_node_6 (hr : CLS c r M T R P Im tx t) (hW : WF T) {n : Nat} (hn : n < nN T) : V kX3_node (cA M (nodN T R n 6) T R P Im tx t) M 0 [(0, .ref 0), (1, .int (nI n)), (2, .int (nI 6))] [] := by
  have h16 := hW.n16
  have hr0 := hr
  obtain ⟨hc, hcc, hce, ⟨h, hd⟩, hm, hp, hi, hx0⟩ := hr
  have ho24 : mo 24 := Or.inl (Or.inl rfl)
  refine v_aload_n dX3_node_0 rfl ?_
  refine v_getD (t := c) dX3_node_1 fl_X3_19 ⟨by decide, rfl, by decide⟩ rfl (hcc) (by omega) ?_
  refine v_iload_n dX3_node_4 rfl ?_
  refine v_callVr (x := .int (nI 1)) (M1 := M) (as := [.int (nI n)]) (st := []) dX3_node_5 ml_X3_95 kv_X0_isNode (ob_c hc) ⟨(Nat.le_of_ble_eq_true rfl), (Nat.le_of_ble_eq_true rfl)⟩ rfl (Nat.le_of_ble_eq_true rfl) rfl (Nat.le_of_ble_eq_true rfl) (c_cNode hc h hW (by omega)) ?_
  refine v_ifN_ne (tgt := 13) dX3_node_8 (by decide) (by decide) (fun c8 => ?_) (fun c8 => (absurd c8 (by decide)))
  refine v_iload_n dX3_node_13 rfl ?_
  skip
  · refine v_tabIn (tgt := 133) (off := 119) dX3_node_14 (by decide) (by decide) (by decide) (by decide) ?_
    refine v_aload_n dX3_node_133 rfl ?_
    refine v_getD (t := c) dX3_node_134 fl_X3_19 ⟨by decide, rfl, by decide⟩ rfl (hcc) (by omega) ?_
    refine v_getR (t := c + 5) dX3_node_137 fl_X3_112 (ob_c hc) rfl rfl ?_
    refine v_iload_n dX3_node_140 rfl ?_
    refine v_callSr (x := .int (lvF T n)) (M1 := M) (as := [.ref (c + 5), .int (nI n)]) (st := []) dX3_node_141 ml_X3_101 ks_X3_at ⟨(Nat.le_of_ble_eq_true rfl), (Nat.le_of_ble_eq_true rfl)⟩ rfl (Nat.le_of_ble_eq_true rfl) rfl (Nat.le_of_ble_eq_true rfl) (c_at (ar_c5 hc) (by omega) (h.lv hn)) ?_
    refine v_iret dX3_node_144 rfl ?_
    exact ⟨rfl, ⟨c, r, hr0⟩, kq_rf M⟩
set_option maxRecDepth 100000 in
theorem k_node_7 (hr : CLS c r M T R P Im tx t) (hW : WF T) {n : Nat} (hn : n < nN T) : V kX3_node (cA M (nodN T R n 7) T R P Im tx t) M 0 [(0, .ref 0), (1, .int (nI n)), (2, .int (nI 7))] [] := by
  have h16 := hW.n16
  have hr0 := hr
  obtain ⟨hc, hcc, hce, ⟨h, hd⟩, hm, hp, hi, hx0⟩ := hr
  have ho24 : mo 24 := Or.inl (Or.inl rfl)
  refine v_aload_n dX3_node_0 rfl ?_
  refine v_getD (t := c) dX3_node_1 fl_X3_19 ⟨by decide, rfl, by decide⟩ rfl (hcc) (by omega) ?_
  refine v_iload_n dX3_node_4 rfl ?_
  refine v_callVr (x := .int (nI 1)) (M1 := M) (as := [.int (nI n)]) (st := []) dX3_node_5 ml_X3_95 kv_X0_isNode (ob_c hc) ⟨(Nat.le_of_ble_eq_true rfl), (Nat.le_of_ble_eq_true rfl)⟩ rfl (Nat.le_of_ble_eq_true rfl) rfl (Nat.le_of_ble_eq_true rfl) (c_cNode hc h hW (by omega)) ?_
  refine v_ifN_ne (tgt := 13) dX3_node_8 (by decide) (by decide) (fun c8 => ?_) (fun c8 => (absurd c8 (by decide)))
  refine v_iload_n dX3_node_13 rfl ?_
  skip
  · refine v_tabIn (tgt := 145) (off := 131) dX3_node_14 (by decide) (by decide) (by decide) (by decide) ?_
    refine v_aload_n dX3_node_145 rfl ?_
    refine v_getR (t := 24) dX3_node_146 fl_X3_29 ⟨by decide, rfl, by decide⟩ rfl rfl ?_
    refine v_getR (t := 25) dX3_node_149 fl_X3_119 ⟨by decide, rfl, by decide⟩ rfl rfl ?_
    refine v_iload_n dX3_node_152 rfl ?_
    refine v_callSr (x := .int (vlF T R n)) (M1 := M) (as := [.ref 25, .int (nI n)]) (st := []) dX3_node_153 ml_X3_101 ks_X3_at ⟨(Nat.le_of_ble_eq_true rfl), (Nat.le_of_ble_eq_true rfl)⟩ rfl (Nat.le_of_ble_eq_true rfl) rfl (Nat.le_of_ble_eq_true rfl) (c_at (i := 25) (n := 16) ⟨by decide, rfl, rfl⟩ (by omega) (hm.2.1 n hn)) ?_
    refine v_iret dX3_node_156 rfl ?_
    exact ⟨rfl, ⟨c, r, hr0⟩, kq_rf M⟩
theorem k_node (hr : CLS c r M T R P Im tx t) (hW : WF T) {n j : Nat} (hn : n < nN T) (hj : j < 8) : V kX3_node (cA M (nodN T R n j) T R P Im tx t) M 0 [(0, .ref 0), (1, .int (nI n)), (2, .int (nI j))] [] := by
  rcases le8 hj with rfl | rfl | rfl | rfl | rfl | rfl | rfl | rfl
  · exact k_node_0 hr hW hn
  · exact k_node_1 hr hW hn
  · exact k_node_2 hr hW hn
  · exact k_node_3 hr hW hn
  · exact k_node_4 hr hW hn
  · exact k_node_5 hr hW hn
  · exact k_node_6 hr hW hn
  · exact k_node_7 hr hW hn
set_option maxRecDepth 100000 in
theorem k_register0 (hr : CLS c r M T R P Im tx t) (hW : WF T) {x w : Int32} (hx : ¬ isN T x) : V kX3_register (cA M ((-1)) T R P Im tx t) M 0 [(0, .ref 0), (1, .int x), (2, .int w)] [] := by
  have h16 := hW.n16
  have hr0 := hr
  obtain ⟨hc, hcc, hce, ⟨h, hd⟩, hm, hp, hi, hx0⟩ := hr
  have ho24 : mo 24 := Or.inl (Or.inl rfl)
  refine v_aload_n dX3_register_0 rfl ?_
  refine v_getD (t := c) dX3_register_1 fl_X3_19 ⟨by decide, rfl, by decide⟩ rfl (hcc) (by omega) ?_
  refine v_iload_n dX3_register_4 rfl ?_
  refine v_iconst (v := (nI 1)) dX3_register_5 rfl ?_
  refine v_callVr (x := .int (nI 0)) (M1 := M) (as := [.int x, .int (nI 1)]) (st := []) dX3_register_6 ml_X3_74 kv_X0_isOf (ob_c hc) ⟨(Nat.le_of_ble_eq_true rfl), (Nat.le_of_ble_eq_true rfl)⟩ rfl (Nat.le_of_ble_eq_true rfl) rfl (Nat.le_of_ble_eq_true rfl) (c_cOf0 hc h hW hx) ?_
  refine v_ifN_ne (tgt := 14) dX3_register_9 (by decide) (by decide) (fun c9 => (absurd rfl c9)) (fun c9 => ?_)
  refine v_iconst (v := (-1)) dX3_register_12 (by decide) ?_
  refine v_iret dX3_register_13 rfl ?_
  exact ⟨rfl, ⟨c, r, hr0⟩, kq_rf M⟩
set_option maxRecDepth 100000 in
theorem k_registerO (hr : CLS c r M T R P Im tx t) (hW : WF T) {n : Nat} {w : Int32} (hn : n < nN T) (hw : ¬ (nI 0 ≤ w ∧ w ≤ nI 2)) : V kX3_register (cA M ((-1)) T R P Im tx t) M 0 [(0, .ref 0), (1, .int (nI n)), (2, .int w)] [] := by
  have h16 := hW.n16
  have hr0 := hr
  obtain ⟨hc, hcc, hce, ⟨h, hd⟩, hm, hp, hi, hx0⟩ := hr
  have ho24 : mo 24 := Or.inl (Or.inl rfl)
  refine v_aload_n dX3_register_0 rfl ?_
  refine v_getD (t := c) dX3_register_1 fl_X3_19 ⟨by decide, rfl, by decide⟩ rfl (hcc) (by omega) ?_
  refine v_iload_n dX3_register_4 rfl ?_
  refine v_iconst (v := (nI 1)) dX3_register_5 rfl ?_
  refine v_callVr (x := .int (bI (so T n = 1))) (M1 := M) (as := [.int (nI n), .int (nI 1)]) (st := []) dX3_register_6 ml_X3_74 kv_X0_isOf (ob_c hc) ⟨(Nat.le_of_ble_eq_true rfl), (Nat.le_of_ble_eq_true rfl)⟩ rfl (Nat.le_of_ble_eq_true rfl) rfl (Nat.le_of_ble_eq_true rfl) (c_cOf hc h hW (by omega) (by omega)) ?_
  refine v_ifB_ne (tgt := 14) dX3_register_9 (by decide) (fun c9 => ?_) (fun c9 => ?_)
  · refine v_iload_n dX3_register_14 rfl ?_
    skip
    · refine v_tabOut (tgt := 80) dX3_register_15 (w_out (by decide) hw) (by decide) ?_
      refine v_iconst (v := (-1)) dX3_register_80 (by decide) ?_
      refine v_iret dX3_register_81 rfl ?_
      exact ⟨rfl, ⟨c, r, hr0⟩, kq_rf M⟩
  · refine v_iconst (v := (-1)) dX3_register_12 (by decide) ?_
    refine v_iret dX3_register_13 rfl ?_
    exact ⟨rfl, ⟨c, r, hr0⟩, kq_rf M⟩
set_option maxRecDepth 100000 in
theorem k_register_0 (hr : CLS c r M T R P Im tx t) (hW : WF T) {nd : Nat} (hnd : R 0 = nI nd) (hnb : nd < 2 ^ 31) {n : Nat} (hn : n < nN T) : V kX3_register (cA M (regN T nd n 0) T R P Im tx t) M 0 [(0, .ref 0), (1, .int (nI n)), (2, .int (nI 0))] [] := by
  have h16 := hW.n16
  have hr0 := hr
  obtain ⟨hc, hcc, hce, ⟨h, hd⟩, hm, hp, hi, hx0⟩ := hr
  have ho24 : mo 24 := Or.inl (Or.inl rfl)
  refine v_aload_n dX3_register_0 rfl ?_
  refine v_getD (t := c) dX3_register_1 fl_X3_19 ⟨by decide, rfl, by decide⟩ rfl (hcc) (by omega) ?_
  refine v_iload_n dX3_register_4 rfl ?_
  refine v_iconst (v := (nI 1)) dX3_register_5 rfl ?_
  refine v_callVr (x := .int (bI (so T n = 1))) (M1 := M) (as := [.int (nI n), .int (nI 1)]) (st := []) dX3_register_6 ml_X3_74 kv_X0_isOf (ob_c hc) ⟨(Nat.le_of_ble_eq_true rfl), (Nat.le_of_ble_eq_true rfl)⟩ rfl (Nat.le_of_ble_eq_true rfl) rfl (Nat.le_of_ble_eq_true rfl) (c_cOf hc h hW (by omega) (by omega)) ?_
  refine v_ifB_ne (tgt := 14) dX3_register_9 (by decide) (fun c9 => ?_) (fun c9 => ?_)
  · refine v_iload_n dX3_register_14 rfl ?_
    skip
    · refine v_tabIn (tgt := 40) (off := 25) dX3_register_15 (by decide) (by decide) (by decide) (by decide) ?_
      refine v_aload_n dX3_register_40 rfl ?_
      refine v_getD (t := c) dX3_register_41 fl_X3_19 ⟨by decide, rfl, by decide⟩ rfl (hcc) (by omega) ?_
      refine v_getR (t := c + 6) dX3_register_44 fl_X3_122 (ob_c hc) rfl rfl ?_
      refine v_iload_n dX3_register_47 rfl ?_
      refine v_callSr (x := .int (frF T n)) (M1 := M) (as := [.ref (c + 6), .int (nI n)]) (st := []) dX3_register_48 ml_X3_101 ks_X3_at ⟨(Nat.le_of_ble_eq_true rfl), (Nat.le_of_ble_eq_true rfl)⟩ rfl (Nat.le_of_ble_eq_true rfl) rfl (Nat.le_of_ble_eq_true rfl) (c_at (ar_c6 hc) (by omega) (by rw [h.fr hn, if_pos c9])) ?_
      refine v_iret dX3_register_51 rfl ?_
      refine ⟨congrArg (fun x => some (Value.int x)) ?_, ⟨c, r, hr0⟩, kq_rf M⟩
      simp [regN, kaO, c9]
  · refine v_iconst (v := (-1)) dX3_register_12 (by decide) ?_
    refine v_iret dX3_register_13 rfl ?_
    refine ⟨congrArg (fun x => some (Value.int x)) ?_, ⟨c, r, hr0⟩, kq_rf M⟩
    simp [regN, kaO, c9]
set_option maxRecDepth 100000 in
theorem k_register_1 (hr : CLS c r M T R P Im tx t) (hW : WF T) {nd : Nat} (hnd : R 0 = nI nd) (hnb : nd < 2 ^ 31) {n : Nat} (hn : n < nN T) : V kX3_register (cA M (regN T nd n 1) T R P Im tx t) M 0 [(0, .ref 0), (1, .int (nI n)), (2, .int (nI 1))] [] := by
  have h16 := hW.n16
  have hr0 := hr
  obtain ⟨hc, hcc, hce, ⟨h, hd⟩, hm, hp, hi, hx0⟩ := hr
  have ho24 : mo 24 := Or.inl (Or.inl rfl)
  refine v_aload_n dX3_register_0 rfl ?_
  refine v_getD (t := c) dX3_register_1 fl_X3_19 ⟨by decide, rfl, by decide⟩ rfl (hcc) (by omega) ?_
  refine v_iload_n dX3_register_4 rfl ?_
  refine v_iconst (v := (nI 1)) dX3_register_5 rfl ?_
  refine v_callVr (x := .int (bI (so T n = 1))) (M1 := M) (as := [.int (nI n), .int (nI 1)]) (st := []) dX3_register_6 ml_X3_74 kv_X0_isOf (ob_c hc) ⟨(Nat.le_of_ble_eq_true rfl), (Nat.le_of_ble_eq_true rfl)⟩ rfl (Nat.le_of_ble_eq_true rfl) rfl (Nat.le_of_ble_eq_true rfl) (c_cOf hc h hW (by omega) (by omega)) ?_
  refine v_ifB_ne (tgt := 14) dX3_register_9 (by decide) (fun c9 => ?_) (fun c9 => ?_)
  · refine v_iload_n dX3_register_14 rfl ?_
    skip
    · refine v_tabIn (tgt := 52) (off := 37) dX3_register_15 (by decide) (by decide) (by decide) (by decide) ?_
      refine v_aload_n dX3_register_52 rfl ?_
      refine v_getD (t := c) dX3_register_53 fl_X3_19 ⟨by decide, rfl, by decide⟩ rfl (hcc) (by omega) ?_
      refine v_getR (t := c + 7) dX3_register_56 fl_X3_125 (ob_c hc) rfl rfl ?_
      refine v_iload_n dX3_register_59 rfl ?_
      refine v_callSr (x := .int (nI (dpF T n))) (M1 := M) (as := [.ref (c + 7), .int (nI n)]) (st := []) dX3_register_60 ml_X3_101 ks_X3_at ⟨(Nat.le_of_ble_eq_true rfl), (Nat.le_of_ble_eq_true rfl)⟩ rfl (Nat.le_of_ble_eq_true rfl) rfl (Nat.le_of_ble_eq_true rfl) (c_at (ar_c7 hc) (by omega) (hd n hn c9)) ?_
      refine v_iret dX3_register_63 rfl ?_
      refine ⟨congrArg (fun x => some (Value.int x)) ?_, ⟨c, r, hr0⟩, kq_rf M⟩
      simp [regN, kaO, c9]
  · refine v_iconst (v := (-1)) dX3_register_12 (by decide) ?_
    refine v_iret dX3_register_13 rfl ?_
    refine ⟨congrArg (fun x => some (Value.int x)) ?_, ⟨c, r, hr0⟩, kq_rf M⟩
    simp [regN, kaO, c9]
set_option maxRecDepth 100000 in
theorem k_register_2 (hr : CLS c r M T R P Im tx t) (hW : WF T) {nd : Nat} (hnd : R 0 = nI nd) (hnb : nd < 2 ^ 31) {n : Nat} (hn : n < nN T) : V kX3_register (cA M (regN T nd n 2) T R P Im tx t) M 0 [(0, .ref 0), (1, .int (nI n)), (2, .int (nI 2))] [] := by
  have h16 := hW.n16
  have hr0 := hr
  obtain ⟨hc, hcc, hce, ⟨h, hd⟩, hm, hp, hi, hx0⟩ := hr
  have ho24 : mo 24 := Or.inl (Or.inl rfl)
  refine v_aload_n dX3_register_0 rfl ?_
  refine v_getD (t := c) dX3_register_1 fl_X3_19 ⟨by decide, rfl, by decide⟩ rfl (hcc) (by omega) ?_
  refine v_iload_n dX3_register_4 rfl ?_
  refine v_iconst (v := (nI 1)) dX3_register_5 rfl ?_
  refine v_callVr (x := .int (bI (so T n = 1))) (M1 := M) (as := [.int (nI n), .int (nI 1)]) (st := []) dX3_register_6 ml_X3_74 kv_X0_isOf (ob_c hc) ⟨(Nat.le_of_ble_eq_true rfl), (Nat.le_of_ble_eq_true rfl)⟩ rfl (Nat.le_of_ble_eq_true rfl) rfl (Nat.le_of_ble_eq_true rfl) (c_cOf hc h hW (by omega) (by omega)) ?_
  refine v_ifB_ne (tgt := 14) dX3_register_9 (by decide) (fun c9 => ?_) (fun c9 => ?_)
  · refine v_iload_n dX3_register_14 rfl ?_
    skip
    · refine v_tabIn (tgt := 64) (off := 49) dX3_register_15 (by decide) (by decide) (by decide) (by decide) ?_
      refine v_aload_n dX3_register_64 rfl ?_
      refine v_getD (t := c) dX3_register_65 fl_X3_19 ⟨by decide, rfl, by decide⟩ rfl (hcc) (by omega) ?_
      refine v_iload_n dX3_register_68 rfl ?_
      refine v_aload_n dX3_register_69 rfl ?_
      refine v_getR (t := 24) dX3_register_70 fl_X3_29 ⟨by decide, rfl, by decide⟩ rfl rfl ?_
      refine v_getI2 (y := (nI nd)) dX3_register_73 fl_X3_68 ⟨by decide, rfl, by decide⟩ rfl (hm.1.1.trans hnd) ?_
      refine v_callVr (x := .int (oI (kaO T nd n))) (M1 := M) (as := [.int (nI n), .int (nI nd)]) (st := []) dX3_register_76 ml_X3_128 kv_X0_kindOf (ob_c hc) ⟨(Nat.le_of_ble_eq_true rfl), (Nat.le_of_ble_eq_true rfl)⟩ rfl (Nat.le_of_ble_eq_true rfl) rfl (Nat.le_of_ble_eq_true rfl) (c_cKind hc h hW hd hnb hn) ?_
      refine v_iret dX3_register_79 rfl ?_
      refine ⟨congrArg (fun x => some (Value.int x)) ?_, ⟨c, r, hr0⟩, kq_rf M⟩
      simp [regN, kaO, c9]
  · refine v_iconst (v := (-1)) dX3_register_12 (by decide) ?_
    refine v_iret dX3_register_13 rfl ?_
    refine ⟨congrArg (fun x => some (Value.int x)) ?_, ⟨c, r, hr0⟩, kq_rf M⟩
    simp [regN, kaO, c9]
theorem k_register (hr : CLS c r M T R P Im tx t) (hW : WF T) {nd : Nat} (hnd : R 0 = nI nd) (hnb : nd < 2 ^ 31) {n j : Nat} (hn : n < nN T) (hj : j < 3) : V kX3_register (cA M (regN T nd n j) T R P Im tx t) M 0 [(0, .ref 0), (1, .int (nI n)), (2, .int (nI j))] [] := by
  rcases (show j = 0 ∨ j = 1 ∨ j = 2 by omega) with rfl | rfl | rfl
  · exact k_register_0 hr hW hnd hnb hn
  · exact k_register_1 hr hW hnd hnb hn
  · exact k_register_2 hr hW hnd hnb hn
set_option maxRecDepth 100000 in
theorem l_kcross (hr : CLS c r M T R P Im tx t) (hW : WF T) {k : Int32} (hk1 : (-1 : Int32) ≤ k) (d : Nat) : ∀ (n : Nat) (m : Nat), n + d = nN T → V kX3_crossing (cA M (crN T k d n m) T R P Im tx t) M 11 [(0, .ref 0), (1, .int k), (2, .int (nI m)), (3, .int (nI n))] [] := by
  have h16 := hW.n16
  have hr0 := hr
  obtain ⟨hc, hcc, hce, ⟨h, hd⟩, hm, hp, hi, hx0⟩ := hr
  have ho24 : mo 24 := Or.inl (Or.inl rfl)
  induction d with
  | zero =>
    intro n m hk 
    refine v_iload_n dX3_crossing_11 rfl ?_
    refine v_aload_n dX3_crossing_12 rfl ?_
    refine v_getD (t := c) dX3_crossing_13 fl_X3_19 ⟨by decide, rfl, by decide⟩ rfl (hcc) (by omega) ?_
    refine v_getI2 (y := (nI (nN T))) dX3_crossing_16 fl_X3_131 (ob_c hc) rfl (h.nd) ?_
    refine v_icmpN_ge (tgt := 49) dX3_crossing_19 (by decide) (by omega) (by omega) (fun c19 => ?_) (fun c19 => (by omega))
    refine v_iload_n dX3_crossing_49 rfl ?_
    refine v_iconst (v := (-1)) dX3_crossing_50 (by decide) ?_
    refine v_icmp_ne (tgt := 58) dX3_crossing_51 (by decide) (fun c51 => ?_) (fun c51 => ?_)
    · refine v_bipush (v := (-9)) dX3_crossing_58 (by decide) ?_
      refine v_iret dX3_crossing_60 rfl ?_
      refine ⟨congrArg (fun x => some (Value.int x)) ?_, ⟨c, r, hr0⟩, kq_rf M⟩
      rcases m1_or hk1 with q | q
      · simp [crN, q, show (-1 : Int32) < 0 by decide, *] at *
      · have : ¬ k = (-1) := fun e => q.2 (by rw [e]; decide)
        simp [crN, q.2, *] at *
    · refine v_iload_n dX3_crossing_54 rfl ?_
      refine v_goto (tgt := 60) dX3_crossing_55 (by decide) ?_
      refine v_iret dX3_crossing_60 rfl ?_
      refine ⟨congrArg (fun x => some (Value.int x)) ?_, ⟨c, r, hr0⟩, kq_rf M⟩
      rcases m1_or hk1 with q | q
      · simp [crN, q, show (-1 : Int32) < 0 by decide, *] at *
      · have : ¬ k = (-1) := fun e => q.2 (by rw [e]; decide)
        simp [crN, q.2, *] at *
  | succ d ih =>
    intro n m hk 
    refine v_iload_n dX3_crossing_11 rfl ?_
    refine v_aload_n dX3_crossing_12 rfl ?_
    refine v_getD (t := c) dX3_crossing_13 fl_X3_19 ⟨by decide, rfl, by decide⟩ rfl (hcc) (by omega) ?_
    refine v_getI2 (y := (nI (nN T))) dX3_crossing_16 fl_X3_131 (ob_c hc) rfl (h.nd) ?_
    refine v_icmpN_ge (tgt := 49) dX3_crossing_19 (by decide) (by omega) (by omega) (fun c19 => (by omega)) (fun c19 => ?_)
    refine v_aload_n dX3_crossing_22 rfl ?_
    refine v_getD (t := c) dX3_crossing_23 fl_X3_19 ⟨by decide, rfl, by decide⟩ rfl (hcc) (by omega) ?_
    refine v_iload_n dX3_crossing_26 rfl ?_
    refine v_callVr (x := .int (bI (cxB T n = true))) (M1 := M) (as := [.int (nI n)]) (st := []) dX3_crossing_27 ml_X3_134 kv_X0_isCrossing (ob_c hc) ⟨(Nat.le_of_ble_eq_true rfl), (Nat.le_of_ble_eq_true rfl)⟩ rfl (Nat.le_of_ble_eq_true rfl) rfl (Nat.le_of_ble_eq_true rfl) (c_cCross hc h hW (by omega)) ?_
    refine v_ifB_eq (tgt := 43) dX3_crossing_30 (by decide) (fun c30 => ?_) (fun c30 => ?_)
    · refine v_iincN (lv' := [(0, .ref 0), (1, .int k), (2, .int (nI m)), (3, .int (nI (n + 1)))]) dX3_crossing_43 rfl (Nat.le_of_ble_eq_true rfl) rfl ?_
      refine v_goto (tgt := 11) dX3_crossing_46 (by decide) ?_
      have h2 := ih (n + 1) m (by omega)
      simp only [crN]
      rw [if_neg c30]; exact h2
    · refine v_iload_n dX3_crossing_33 rfl ?_
      refine v_iload_n dX3_crossing_34 rfl ?_
      refine v_icmp_ne (tgt := 40) dX3_crossing_35 (by decide) (fun c35 => ?_) (fun c35 => ?_)
      · refine v_iincN (lv' := [(0, .ref 0), (1, .int k), (2, .int (nI (m + 1))), (3, .int (nI n))]) dX3_crossing_40 rfl (Nat.le_of_ble_eq_true rfl) rfl ?_
        refine v_iincN (lv' := [(0, .ref 0), (1, .int k), (2, .int (nI (m + 1))), (3, .int (nI (n + 1)))]) dX3_crossing_43 rfl (Nat.le_of_ble_eq_true rfl) rfl ?_
        refine v_goto (tgt := 11) dX3_crossing_46 (by decide) ?_
        have h2 := ih (n + 1) (m + 1) (by omega)
        simp only [crN]
        rw [if_pos c30, if_neg c35]; exact h2
      · refine v_iload_n dX3_crossing_38 rfl ?_
        refine v_iret dX3_crossing_39 rfl ?_
        refine ⟨congrArg (fun x => some (Value.int x)) ?_, ⟨c, r, hr0⟩, kq_rf M⟩
        simp only [crN]; rw [if_pos c30, if_pos c35]
set_option maxRecDepth 100000 in
theorem k_crossing (hr : CLS c r M T R P Im tx t) (hW : WF T) (k : Int32) : V kX3_crossing (cA M (crF T k) T R P Im tx t) M 0 [(0, .ref 0), (1, .int k)] [] := by
  have h16 := hW.n16
  have hr0 := hr
  obtain ⟨hc, hcc, hce, ⟨h, hd⟩, hm, hp, hi, hx0⟩ := hr
  have ho24 : mo 24 := Or.inl (Or.inl rfl)
  refine v_iload_n dX3_crossing_0 rfl ?_
  refine v_iconst (v := (-1)) dX3_crossing_1 (by decide) ?_
  refine v_icmp_ge (tgt := 7) dX3_crossing_2 (by decide) (fun c2 => ?_) (fun c2 => ?_)
  · refine v_iconst (v := (nI 0)) dX3_crossing_7 rfl ?_
    refine v_istore_n (lv' := [(0, .ref 0), (1, .int k), (2, .int (nI 0))]) dX3_crossing_8 (Nat.le_of_ble_eq_true rfl) rfl ?_
    refine v_iconst (v := (nI 0)) dX3_crossing_9 rfl ?_
    refine v_istore_n (lv' := [(0, .ref 0), (1, .int k), (2, .int (nI 0)), (3, .int (nI 0))]) dX3_crossing_10 (Nat.le_of_ble_eq_true rfl) rfl ?_
    unfold crF; rw [if_pos c2]
    exact l_kcross hr0 hW c2 (nN T) 0 0 (by omega)
  · refine v_iconst (v := (-1)) dX3_crossing_5 (by decide) ?_
    refine v_iret dX3_crossing_6 rfl ?_
    refine ⟨congrArg (fun x => some (Value.int x)) ?_, ⟨c, r, hr0⟩, kq_rf M⟩
    unfold crF; rw [if_neg c2]
set_option maxRecDepth 100000 in
theorem k_kinds0 (hr : CLS c r M T R P Im tx t) (hW : WF T) {x : Int32} (hx : ¬ (nI 0 ≤ x ∧ x ≤ nI 3)) : V kX3_kinds (cA M ((-1)) T R P Im tx t) M 0 [(0, .ref 0), (1, .int x)] [] := by
  have h16 := hW.n16
  have hr0 := hr
  obtain ⟨hc, hcc, hce, ⟨h, hd⟩, hm, hp, hi, hx0⟩ := hr
  have ho24 : mo 24 := Or.inl (Or.inl rfl)
  refine v_iload_n dX3_kinds_0 rfl ?_
  refine v_if_lt (tgt := 9) dX3_kinds_1 (by decide) (fun c1 => ?_) (fun c1 => ?_)
  · refine v_iconst (v := (-1)) dX3_kinds_9 (by decide) ?_
    refine v_iret dX3_kinds_10 rfl ?_
    exact ⟨rfl, ⟨c, r, hr0⟩, kq_rf M⟩
  · refine v_iload_n dX3_kinds_4 rfl ?_
    refine v_iconst (v := (nI 3)) dX3_kinds_5 rfl ?_
    refine v_icmp_le (tgt := 11) dX3_kinds_6 (by decide) (fun c6 => (absurd ⟨Int32.not_lt.mp c1, c6⟩ hx)) (fun c6 => ?_)
    refine v_iconst (v := (-1)) dX3_kinds_9 (by decide) ?_
    refine v_iret dX3_kinds_10 rfl ?_
    exact ⟨rfl, ⟨c, r, hr0⟩, kq_rf M⟩
set_option maxRecDepth 100000 in
theorem l_kkinds (hr : CLS c r M T R P Im tx t) (hW : WF T) {nd : Nat} (hnd : R 0 = nI nd) (hnb : nd < 2 ^ 31) {j : Nat} (hj : j < 4) (d : Nat) : ∀ (n : Nat), n + d = nN T → V kX3_kinds (cA M (nI (knN T nd j (nN T))) T R P Im tx t) M 15 [(0, .ref 0), (1, .int (nI j)), (2, .int (nI (knN T nd j n))), (3, .int (nI n))] [] := by
  have h16 := hW.n16
  have hr0 := hr
  obtain ⟨hc, hcc, hce, ⟨h, hd⟩, hm, hp, hi, hx0⟩ := hr
  have ho24 : mo 24 := Or.inl (Or.inl rfl)
  induction d with
  | zero =>
    intro n hk 
    refine v_iload_n dX3_kinds_15 rfl ?_
    refine v_aload_n dX3_kinds_16 rfl ?_
    refine v_getD (t := c) dX3_kinds_17 fl_X3_19 ⟨by decide, rfl, by decide⟩ rfl (hcc) (by omega) ?_
    refine v_getI2 (y := (nI (nN T))) dX3_kinds_20 fl_X3_131 (ob_c hc) rfl (h.nd) ?_
    refine v_icmpN_ge (tgt := 54) dX3_kinds_23 (by decide) (by omega) (by omega) (fun c23 => ?_) (fun c23 => (by omega))
    refine v_iload_n dX3_kinds_54 rfl ?_
    refine v_iret dX3_kinds_55 rfl ?_
    refine ⟨congrArg (fun x => some (Value.int x)) ?_, ⟨c, r, hr0⟩, kq_rf M⟩
    rw [show nN T = n by omega]
  | succ d ih =>
    intro n hk 
    refine v_iload_n dX3_kinds_15 rfl ?_
    refine v_aload_n dX3_kinds_16 rfl ?_
    refine v_getD (t := c) dX3_kinds_17 fl_X3_19 ⟨by decide, rfl, by decide⟩ rfl (hcc) (by omega) ?_
    refine v_getI2 (y := (nI (nN T))) dX3_kinds_20 fl_X3_131 (ob_c hc) rfl (h.nd) ?_
    refine v_icmpN_ge (tgt := 54) dX3_kinds_23 (by decide) (by omega) (by omega) (fun c23 => (by omega)) (fun c23 => ?_)
    refine v_aload_n dX3_kinds_26 rfl ?_
    refine v_getD (t := c) dX3_kinds_27 fl_X3_19 ⟨by decide, rfl, by decide⟩ rfl (hcc) (by omega) ?_
    refine v_iload_n dX3_kinds_30 rfl ?_
    refine v_aload_n dX3_kinds_31 rfl ?_
    refine v_getR (t := 24) dX3_kinds_32 fl_X3_29 ⟨by decide, rfl, by decide⟩ rfl rfl ?_
    refine v_getI2 (y := (nI nd)) dX3_kinds_35 fl_X3_68 ⟨by decide, rfl, by decide⟩ rfl (hm.1.1.trans hnd) ?_
    refine v_callVr (x := .int (oI (kaO T nd n))) (M1 := M) (as := [.int (nI n), .int (nI nd)]) (st := []) dX3_kinds_38 ml_X3_128 kv_X0_kindOf (ob_c hc) ⟨(Nat.le_of_ble_eq_true rfl), (Nat.le_of_ble_eq_true rfl)⟩ rfl (Nat.le_of_ble_eq_true rfl) rfl (Nat.le_of_ble_eq_true rfl) (c_cKind hc h hW hd hnb (by omega)) ?_
    refine v_iload_n dX3_kinds_41 rfl ?_
    refine v_icmp_ne (tgt := 48) dX3_kinds_42 (by decide) (fun c42 => ?_) (fun c42 => ?_)
    · refine v_iincN (lv' := [(0, .ref 0), (1, .int (nI j)), (2, .int (nI (knN T nd j n))), (3, .int (nI (n + 1)))]) dX3_kinds_48 rfl (Nat.le_of_ble_eq_true rfl) rfl ?_
      refine v_goto (tgt := 15) dX3_kinds_51 (by decide) ?_
      have h2 := ih (n + 1) (by omega)
      simp only [knN] at h2
      rw [if_neg (fun q => c42 ((oI_some (fun m hm => by have := kaO_le hm; omega) (by omega)).mpr q)), Nat.add_zero] at h2; exact h2
    · refine v_iincN (lv' := [(0, .ref 0), (1, .int (nI j)), (2, .int (nI (knN T nd j n + 1))), (3, .int (nI n))]) dX3_kinds_45 rfl (Nat.le_of_ble_eq_true rfl) rfl ?_
      refine v_iincN (lv' := [(0, .ref 0), (1, .int (nI j)), (2, .int (nI (knN T nd j n + 1))), (3, .int (nI (n + 1)))]) dX3_kinds_48 rfl (Nat.le_of_ble_eq_true rfl) rfl ?_
      refine v_goto (tgt := 15) dX3_kinds_51 (by decide) ?_
      have h2 := ih (n + 1) (by omega)
      simp only [knN] at h2
      rw [if_pos ((oI_some (fun m hm => by have := kaO_le hm; omega) (by omega)).mp c42)] at h2; exact h2
set_option maxRecDepth 100000 in
theorem k_kinds (hr : CLS c r M T R P Im tx t) (hW : WF T) {nd : Nat} (hnd : R 0 = nI nd) (hnb : nd < 2 ^ 31) {j : Nat} (hj : j < 4) : V kX3_kinds (cA M (nI (knN T nd j (nN T))) T R P Im tx t) M 0 [(0, .ref 0), (1, .int (nI j))] [] := by
  have h16 := hW.n16
  have hr0 := hr
  obtain ⟨hc, hcc, hce, ⟨h, hd⟩, hm, hp, hi, hx0⟩ := hr
  have ho24 : mo 24 := Or.inl (Or.inl rfl)
  refine v_iload_n dX3_kinds_0 rfl ?_
  refine v_ifN_lt (tgt := 9) dX3_kinds_1 (by decide) (by omega) ?_
  refine v_iload_n dX3_kinds_4 rfl ?_
  refine v_iconst (v := (nI 3)) dX3_kinds_5 rfl ?_
  refine v_icmpN_le (tgt := 11) dX3_kinds_6 (by decide) (by omega) (by omega) (fun c6 => ?_) (fun c6 => (by omega))
  refine v_iconst (v := (nI 0)) dX3_kinds_11 rfl ?_
  refine v_istore_n (lv' := [(0, .ref 0), (1, .int (nI j)), (2, .int (nI 0))]) dX3_kinds_12 (Nat.le_of_ble_eq_true rfl) rfl ?_
  refine v_iconst (v := (nI 0)) dX3_kinds_13 rfl ?_
  refine v_istore_n (lv' := [(0, .ref 0), (1, .int (nI j)), (2, .int (nI 0)), (3, .int (nI 0))]) dX3_kinds_14 (Nat.le_of_ble_eq_true rfl) rfl ?_
  exact l_kkinds hr0 hW hnd hnb hj (nN T) 0 (by omega)
theorem lt_le2 {x : Int32} (h : x < nI 3) : x ≤ nI 2 := by
  have h1 := Int32.lt_iff_toInt_lt.mp h
  rw [show (nI 3).toInt = 3 from rfl] at h1
  apply Int32.le_iff_toInt_le.mpr
  rw [show (nI 2).toInt = 2 from rfl]; omega
theorem lt_le1 {x : Int32} (h : x < nI 2) : x ≤ nI 1 := by
  have h1 := Int32.lt_iff_toInt_lt.mp h
  rw [show (nI 2).toInt = 2 from rfl] at h1
  apply Int32.le_iff_toInt_le.mpr
  rw [show (nI 1).toInt = 1 from rfl]; omega
set_option maxRecDepth 100000 in
theorem k_period0 (hr : CLS c r M T R P Im tx t) (hW : WF T) {x : Int32} (hx : ¬ (nI 0 ≤ x ∧ x ≤ nI 2)) : V kX3_period (cA M ((-1)) T R P Im tx t) M 0 [(0, .ref 0), (1, .int x)] [] := by
  have h16 := hW.n16
  have hr0 := hr
  obtain ⟨hc, hcc, hce, ⟨h, hd⟩, hm, hp, hi, hx0⟩ := hr
  have ho24 : mo 24 := Or.inl (Or.inl rfl)
  refine v_iload_n dX3_period_0 rfl ?_
  refine v_if_lt (tgt := 9) dX3_period_1 (by decide) (fun c1 => ?_) (fun c1 => ?_)
  · refine v_iconst (v := (-1)) dX3_period_9 (by decide) ?_
    refine v_goto (tgt := 21) dX3_period_10 (by decide) ?_
    refine v_iret dX3_period_21 rfl ?_
    exact ⟨rfl, ⟨c, r, hr0⟩, kq_rf M⟩
  · refine v_iload_n dX3_period_4 rfl ?_
    refine v_iconst (v := (nI 3)) dX3_period_5 rfl ?_
    refine v_icmp_lt (tgt := 13) dX3_period_6 (by decide) (fun c6 => (absurd ⟨Int32.not_lt.mp c1, lt_le2 c6⟩ hx)) (fun c6 => ?_)
    refine v_iconst (v := (-1)) dX3_period_9 (by decide) ?_
    refine v_goto (tgt := 21) dX3_period_10 (by decide) ?_
    refine v_iret dX3_period_21 rfl ?_
    exact ⟨rfl, ⟨c, r, hr0⟩, kq_rf M⟩
set_option maxRecDepth 100000 in
theorem k_period (hr : CLS c r M T R P Im tx t) (hW : WF T) {j : Nat} (hj : j < 3) : V kX3_period (cA M (nI (pe T j)) T R P Im tx t) M 0 [(0, .ref 0), (1, .int (nI j))] [] := by
  have h16 := hW.n16
  have hr0 := hr
  obtain ⟨hc, hcc, hce, ⟨h, hd⟩, hm, hp, hi, hx0⟩ := hr
  have ho24 : mo 24 := Or.inl (Or.inl rfl)
  refine v_iload_n dX3_period_0 rfl ?_
  refine v_ifN_lt (tgt := 9) dX3_period_1 (by decide) (by omega) ?_
  refine v_iload_n dX3_period_4 rfl ?_
  refine v_iconst (v := (nI 3)) dX3_period_5 rfl ?_
  refine v_icmpN_lt (tgt := 13) dX3_period_6 (by decide) (by omega) (by omega) (fun c6 => ?_) (fun c6 => (by omega))
  refine v_aload_n dX3_period_13 rfl ?_
  refine v_getD (t := c) dX3_period_14 fl_X3_19 ⟨by decide, rfl, by decide⟩ rfl (hcc) (by omega) ?_
  refine v_iload_n dX3_period_17 rfl ?_
  refine v_callVr (x := .int (nI (pe T j))) (M1 := M) (as := [.int (nI j)]) (st := []) dX3_period_18 ml_X3_144 kv_X0_periodOf (ob_c hc) ⟨(Nat.le_of_ble_eq_true rfl), (Nat.le_of_ble_eq_true rfl)⟩ rfl (Nat.le_of_ble_eq_true rfl) rfl (Nat.le_of_ble_eq_true rfl) (c_cPer hc h hW (by omega)) ?_
  refine v_iret dX3_period_21 rfl ?_
  exact ⟨rfl, ⟨c, r, hr0⟩, kq_rf M⟩
set_option maxRecDepth 100000 in
theorem k_wish0 (hr : CLS c r M T R P Im tx t) (hW : WF T) {x : Int32} (hx : ¬ isN T x) : V kX3_wish (cA M ((-1)) T R P Im tx t) M 0 [(0, .ref 0), (1, .int x)] [] := by
  have h16 := hW.n16
  have hr0 := hr
  obtain ⟨hc, hcc, hce, ⟨h, hd⟩, hm, hp, hi, hx0⟩ := hr
  have ho24 : mo 24 := Or.inl (Or.inl rfl)
  refine v_aload_n dX3_wish_0 rfl ?_
  refine v_getD (t := c) dX3_wish_1 fl_X3_19 ⟨by decide, rfl, by decide⟩ rfl (hcc) (by omega) ?_
  refine v_iload_n dX3_wish_4 rfl ?_
  refine v_iconst (v := (nI 0)) dX3_wish_5 rfl ?_
  refine v_callVr (x := .int (nI 0)) (M1 := M) (as := [.int x, .int (nI 0)]) (st := []) dX3_wish_6 ml_X3_74 kv_X0_isOf (ob_c hc) ⟨(Nat.le_of_ble_eq_true rfl), (Nat.le_of_ble_eq_true rfl)⟩ rfl (Nat.le_of_ble_eq_true rfl) rfl (Nat.le_of_ble_eq_true rfl) (c_cOf0 hc h hW hx) ?_
  refine v_ifN_eq (tgt := 26) dX3_wish_9 (by decide) (by decide) (fun c9 => ?_) (fun c9 => (absurd rfl c9))
  refine v_iconst (v := (-1)) dX3_wish_26 (by decide) ?_
  refine v_iret dX3_wish_27 rfl ?_
  exact ⟨rfl, ⟨c, r, hr0⟩, kq_rf M⟩
set_option maxRecDepth 100000 in
theorem k_wish (hr : CLS c r M T R P Im tx t) (hW : WF T) {n : Nat} (hn : n < nN T) : V kX3_wish (cA M (if so T n = 0 then R (20 + n) else (-1)) T R P Im tx t) M 0 [(0, .ref 0), (1, .int (nI n))] [] := by
  have h16 := hW.n16
  have hr0 := hr
  obtain ⟨hc, hcc, hce, ⟨h, hd⟩, hm, hp, hi, hx0⟩ := hr
  have ho24 : mo 24 := Or.inl (Or.inl rfl)
  refine v_aload_n dX3_wish_0 rfl ?_
  refine v_getD (t := c) dX3_wish_1 fl_X3_19 ⟨by decide, rfl, by decide⟩ rfl (hcc) (by omega) ?_
  refine v_iload_n dX3_wish_4 rfl ?_
  refine v_iconst (v := (nI 0)) dX3_wish_5 rfl ?_
  refine v_callVr (x := .int (bI (so T n = 0))) (M1 := M) (as := [.int (nI n), .int (nI 0)]) (st := []) dX3_wish_6 ml_X3_74 kv_X0_isOf (ob_c hc) ⟨(Nat.le_of_ble_eq_true rfl), (Nat.le_of_ble_eq_true rfl)⟩ rfl (Nat.le_of_ble_eq_true rfl) rfl (Nat.le_of_ble_eq_true rfl) (c_cOf hc h hW (by omega) (by omega)) ?_
  refine v_ifB_eq (tgt := 26) dX3_wish_9 (by decide) (fun c9 => ?_) (fun c9 => ?_)
  · refine v_iconst (v := (-1)) dX3_wish_26 (by decide) ?_
    refine v_iret dX3_wish_27 rfl ?_
    refine ⟨congrArg (fun x => some (Value.int x)) ?_, ⟨c, r, hr0⟩, kq_rf M⟩
    first | rw [if_pos c9] | rw [if_neg c9]
  · refine v_aload_n dX3_wish_12 rfl ?_
    refine v_getR (t := 24) dX3_wish_13 fl_X3_29 ⟨by decide, rfl, by decide⟩ rfl rfl ?_
    refine v_getR (t := 26) dX3_wish_16 fl_X3_78 ⟨by decide, rfl, by decide⟩ rfl rfl ?_
    refine v_iload_n dX3_wish_19 rfl ?_
    refine v_callSr (x := .int (R (20 + n))) (M1 := M) (as := [.ref 26, .int (nI n)]) (st := []) dX3_wish_20 ml_X3_101 ks_X3_at ⟨(Nat.le_of_ble_eq_true rfl), (Nat.le_of_ble_eq_true rfl)⟩ rfl (Nat.le_of_ble_eq_true rfl) rfl (Nat.le_of_ble_eq_true rfl) (c_at (i := 26) (n := 16) ⟨by decide, rfl, rfl⟩ (by omega) (hm.2.2 n hn c9)) ?_
    refine v_goto (tgt := 27) dX3_wish_23 (by decide) ?_
    refine v_iret dX3_wish_27 rfl ?_
    refine ⟨congrArg (fun x => some (Value.int x)) ?_, ⟨c, r, hr0⟩, kq_rf M⟩
    first | rw [if_pos c9] | rw [if_neg c9]
set_option maxRecDepth 100000 in
theorem k_countO (hr : CLS c r M T R P Im tx t) (hW : WF T) {w : Int32} (hw : w.toInt < 0 ∨ 7 < w.toInt) : V kX3_count (cA M ((-1)) T R P Im tx t) M 0 [(0, .ref 0), (1, .int w)] [] := by
  have h16 := hW.n16
  have hr0 := hr
  obtain ⟨hc, hcc, hce, ⟨h, hd⟩, hm, hp, hi, hx0⟩ := hr
  have ho24 : mo 24 := Or.inl (Or.inl rfl)
  refine v_iload_n dX3_count_0 rfl ?_
  skip
  · refine v_tabOut (tgt := 109) dX3_count_1 hw (by decide) ?_
    refine v_iconst (v := (-1)) dX3_count_109 (by decide) ?_
    refine v_iret dX3_count_110 rfl ?_
    exact ⟨rfl, ⟨c, r, hr0⟩, kq_rf M⟩
set_option maxRecDepth 100000 in
theorem k_count_0 (hr : CLS c r M T R P Im tx t) (hW : WF T)  : V kX3_count (cA M (cntN T R P.length t 0) T R P Im tx t) M 0 [(0, .ref 0), (1, .int (nI 0))] [] := by
  have h16 := hW.n16
  have hr0 := hr
  obtain ⟨hc, hcc, hce, ⟨h, hd⟩, hm, hp, hi, hx0⟩ := hr
  have ho24 : mo 24 := Or.inl (Or.inl rfl)
  refine v_iload_n dX3_count_0 rfl ?_
  skip
  · refine v_tabIn (tgt := 48) (off := 47) dX3_count_1 (by decide) (by decide) (by decide) (by decide) ?_
    refine v_aload_n dX3_count_48 rfl ?_
    refine v_getD (t := c) dX3_count_49 fl_X3_19 ⟨by decide, rfl, by decide⟩ rfl (hcc) (by omega) ?_
    refine v_getI2 (y := (nI (nN T))) dX3_count_52 fl_X3_131 (ob_c hc) rfl (h.nd) ?_
    refine v_iret dX3_count_55 rfl ?_
    exact ⟨rfl, ⟨c, r, hr0⟩, kq_rf M⟩
set_option maxRecDepth 100000 in
theorem k_count_1 (hr : CLS c r M T R P Im tx t) (hW : WF T)  : V kX3_count (cA M (cntN T R P.length t 1) T R P Im tx t) M 0 [(0, .ref 0), (1, .int (nI 1))] [] := by
  have h16 := hW.n16
  have hr0 := hr
  obtain ⟨hc, hcc, hce, ⟨h, hd⟩, hm, hp, hi, hx0⟩ := hr
  have ho24 : mo 24 := Or.inl (Or.inl rfl)
  refine v_iload_n dX3_count_0 rfl ?_
  skip
  · refine v_tabIn (tgt := 56) (off := 55) dX3_count_1 (by decide) (by decide) (by decide) (by decide) ?_
    refine v_aload_n dX3_count_56 rfl ?_
    refine v_getD (t := c) dX3_count_57 fl_X3_19 ⟨by decide, rfl, by decide⟩ rfl (hcc) (by omega) ?_
    refine v_getI2 (y := (nI (nK T))) dX3_count_60 fl_X3_148 (ob_c hc) rfl (h.mk) ?_
    refine v_iret dX3_count_63 rfl ?_
    exact ⟨rfl, ⟨c, r, hr0⟩, kq_rf M⟩
set_option maxRecDepth 100000 in
theorem k_count_2 (hr : CLS c r M T R P Im tx t) (hW : WF T)  : V kX3_count (cA M (cntN T R P.length t 2) T R P Im tx t) M 0 [(0, .ref 0), (1, .int (nI 2))] [] := by
  have h16 := hW.n16
  have hr0 := hr
  obtain ⟨hc, hcc, hce, ⟨h, hd⟩, hm, hp, hi, hx0⟩ := hr
  have ho24 : mo 24 := Or.inl (Or.inl rfl)
  refine v_iload_n dX3_count_0 rfl ?_
  skip
  · refine v_tabIn (tgt := 64) (off := 63) dX3_count_1 (by decide) (by decide) (by decide) (by decide) ?_
    refine v_aload_n dX3_count_64 rfl ?_
    refine v_getR (t := 24) dX3_count_65 fl_X3_29 ⟨by decide, rfl, by decide⟩ rfl rfl ?_
    refine v_getI2 (y := (R 0)) dX3_count_68 fl_X3_68 ⟨by decide, rfl, by decide⟩ rfl (hm.1.1) ?_
    refine v_iret dX3_count_71 rfl ?_
    exact ⟨rfl, ⟨c, r, hr0⟩, kq_rf M⟩
set_option maxRecDepth 100000 in
theorem k_count_3 (hr : CLS c r M T R P Im tx t) (hW : WF T)  : V kX3_count (cA M (cntN T R P.length t 3) T R P Im tx t) M 0 [(0, .ref 0), (1, .int (nI 3))] [] := by
  have h16 := hW.n16
  have hr0 := hr
  obtain ⟨hc, hcc, hce, ⟨h, hd⟩, hm, hp, hi, hx0⟩ := hr
  have ho24 : mo 24 := Or.inl (Or.inl rfl)
  refine v_iload_n dX3_count_0 rfl ?_
  skip
  · refine v_tabIn (tgt := 72) (off := 71) dX3_count_1 (by decide) (by decide) (by decide) (by decide) ?_
    refine v_aload_n dX3_count_72 rfl ?_
    refine v_getR (t := 24) dX3_count_73 fl_X3_29 ⟨by decide, rfl, by decide⟩ rfl rfl ?_
    refine v_getI2 (y := (R 1)) dX3_count_76 fl_X3_82 ⟨by decide, rfl, by decide⟩ rfl (hm.1.2.1) ?_
    refine v_iret dX3_count_79 rfl ?_
    exact ⟨rfl, ⟨c, r, hr0⟩, kq_rf M⟩
set_option maxRecDepth 100000 in
theorem k_count_4 (hr : CLS c r M T R P Im tx t) (hW : WF T)  : V kX3_count (cA M (cntN T R P.length t 4) T R P Im tx t) M 0 [(0, .ref 0), (1, .int (nI 4))] [] := by
  have h16 := hW.n16
  have hr0 := hr
  obtain ⟨hc, hcc, hce, ⟨h, hd⟩, hm, hp, hi, hx0⟩ := hr
  have ho24 : mo 24 := Or.inl (Or.inl rfl)
  refine v_iload_n dX3_count_0 rfl ?_
  skip
  · refine v_tabIn (tgt := 80) (off := 79) dX3_count_1 (by decide) (by decide) (by decide) (by decide) ?_
    refine v_aload_n dX3_count_80 rfl ?_
    refine v_getR (t := 24) dX3_count_81 fl_X3_29 ⟨by decide, rfl, by decide⟩ rfl rfl ?_
    refine v_getI2 (y := (R 2)) dX3_count_84 fl_X3_85 ⟨by decide, rfl, by decide⟩ rfl (hm.1.2.2.1) ?_
    refine v_iret dX3_count_87 rfl ?_
    exact ⟨rfl, ⟨c, r, hr0⟩, kq_rf M⟩
set_option maxRecDepth 100000 in
theorem k_count_5 (hr : CLS c r M T R P Im tx t) (hW : WF T)  : V kX3_count (cA M (cntN T R P.length t 5) T R P Im tx t) M 0 [(0, .ref 0), (1, .int (nI 5))] [] := by
  have h16 := hW.n16
  have hr0 := hr
  obtain ⟨hc, hcc, hce, ⟨h, hd⟩, hm, hp, hi, hx0⟩ := hr
  have ho24 : mo 24 := Or.inl (Or.inl rfl)
  refine v_iload_n dX3_count_0 rfl ?_
  skip
  · refine v_tabIn (tgt := 88) (off := 87) dX3_count_1 (by decide) (by decide) (by decide) (by decide) ?_
    refine v_aload_n dX3_count_88 rfl ?_
    refine v_getR (t := 24) dX3_count_89 fl_X3_29 ⟨by decide, rfl, by decide⟩ rfl rfl ?_
    refine v_getI2 (y := (R 3)) dX3_count_92 fl_X3_151 ⟨by decide, rfl, by decide⟩ rfl (hm.1.2.2.2) ?_
    refine v_iret dX3_count_95 rfl ?_
    exact ⟨rfl, ⟨c, r, hr0⟩, kq_rf M⟩
set_option maxRecDepth 100000 in
theorem k_count_6 (hr : CLS c r M T R P Im tx t) (hW : WF T)  : V kX3_count (cA M (cntN T R P.length t 6) T R P Im tx t) M 0 [(0, .ref 0), (1, .int (nI 6))] [] := by
  have h16 := hW.n16
  have hr0 := hr
  obtain ⟨hc, hcc, hce, ⟨h, hd⟩, hm, hp, hi, hx0⟩ := hr
  have ho24 : mo 24 := Or.inl (Or.inl rfl)
  refine v_iload_n dX3_count_0 rfl ?_
  skip
  · refine v_tabIn (tgt := 96) (off := 95) dX3_count_1 (by decide) (by decide) (by decide) (by decide) ?_
    refine v_aload_n dX3_count_96 rfl ?_
    refine v_getR (t := 1) dX3_count_97 fl_X3_10 ⟨by decide, rfl, by decide⟩ rfl rfl ?_
    refine v_getI2 (y := (nI t)) dX3_count_100 fl_X3_54 ⟨by decide, rfl, by decide⟩ rfl (hx0.1) ?_
    refine v_iret dX3_count_103 rfl ?_
    exact ⟨rfl, ⟨c, r, hr0⟩, kq_rf M⟩
set_option maxRecDepth 100000 in
theorem k_count_7 (hr : CLS c r M T R P Im tx t) (hW : WF T)  : V kX3_count (cA M (cntN T R P.length t 7) T R P Im tx t) M 0 [(0, .ref 0), (1, .int (nI 7))] [] := by
  have h16 := hW.n16
  have hr0 := hr
  obtain ⟨hc, hcc, hce, ⟨h, hd⟩, hm, hp, hi, hx0⟩ := hr
  have ho24 : mo 24 := Or.inl (Or.inl rfl)
  refine v_iload_n dX3_count_0 rfl ?_
  skip
  · refine v_tabIn (tgt := 104) (off := 103) dX3_count_1 (by decide) (by decide) (by decide) (by decide) ?_
    refine v_aload_n dX3_count_104 rfl ?_
    refine v_getI2 (y := (nI P.length)) dX3_count_105 fl_X3_65 ⟨by decide, rfl, by decide⟩ rfl (hp.2.1) ?_
    refine v_iret dX3_count_108 rfl ?_
    exact ⟨rfl, ⟨c, r, hr0⟩, kq_rf M⟩
theorem k_count (hr : CLS c r M T R P Im tx t) (hW : WF T) {j : Nat} (hj : j < 8) : V kX3_count (cA M (cntN T R P.length t j) T R P Im tx t) M 0 [(0, .ref 0), (1, .int (nI j))] [] := by
  rcases le8 hj with rfl | rfl | rfl | rfl | rfl | rfl | rfl | rfl
  · exact k_count_0 hr hW
  · exact k_count_1 hr hW
  · exact k_count_2 hr hW
  · exact k_count_3 hr hW
  · exact k_count_4 hr hW
  · exact k_count_5 hr hW
  · exact k_count_6 hr hW
  · exact k_count_7 hr hW
set_option maxRecDepth 100000 in
theorem l_krisk (hr : CLS c r M T R P Im tx t) (hW : WF T) {nd : Nat} (hnd : R 0 = nI nd) (hnb : nd < 2 ^ 31) (d : Nat) : ∀ (n : Nat), n + d = nN T → V kX3_risk (cA M (rkF T nd) T R P Im tx t) M 4 [(0, .ref 0), (1, .float (rkN T nd n)), (2, .int (nI n))] [] := by
  have h16 := hW.n16
  have hr0 := hr
  obtain ⟨hc, hcc, hce, ⟨h, hd⟩, hm, hp, hi, hx0⟩ := hr
  have ho24 : mo 24 := Or.inl (Or.inl rfl)
  induction d with
  | zero =>
    intro n hk 
    refine v_iload_n dX3_risk_4 rfl ?_
    refine v_aload_n dX3_risk_5 rfl ?_
    refine v_getD (t := c) dX3_risk_6 fl_X3_19 ⟨by decide, rfl, by decide⟩ rfl (hcc) (by omega) ?_
    refine v_getI2 (y := (nI (nN T))) dX3_risk_9 fl_X3_131 (ob_c hc) rfl (h.nd) ?_
    refine v_icmpN_ge (tgt := 70) dX3_risk_12 (by decide) (by omega) (by omega) (fun c12 => ?_) (fun c12 => (by omega))
    refine v_ldcf dX3_risk_70 cf_X3_147 ?_
    refine v_fload_n dX3_risk_72 rfl ?_
    refine v_fmul dX3_risk_73 (by rw [show n = nN T by omega]; exact rk_mul hW) ?_
    refine v_f2i dX3_risk_74 ?_
    refine v_iret dX3_risk_75 rfl ?_
    refine ⟨congrArg (fun x => some (Value.int x)) ?_, ⟨c, r, hr0⟩, kq_rf M⟩
    rw [show n = nN T by omega]; rfl
  | succ d ih =>
    intro n hk 
    refine v_iload_n dX3_risk_4 rfl ?_
    refine v_aload_n dX3_risk_5 rfl ?_
    refine v_getD (t := c) dX3_risk_6 fl_X3_19 ⟨by decide, rfl, by decide⟩ rfl (hcc) (by omega) ?_
    refine v_getI2 (y := (nI (nN T))) dX3_risk_9 fl_X3_131 (ob_c hc) rfl (h.nd) ?_
    refine v_icmpN_ge (tgt := 70) dX3_risk_12 (by decide) (by omega) (by omega) (fun c12 => (by omega)) (fun c12 => ?_)
    refine v_aload_n dX3_risk_15 rfl ?_
    refine v_getD (t := c) dX3_risk_16 fl_X3_19 ⟨by decide, rfl, by decide⟩ rfl (hcc) (by omega) ?_
    refine v_iload_n dX3_risk_19 rfl ?_
    refine v_callVr (x := .int (bI (cxB T n = true))) (M1 := M) (as := [.int (nI n)]) (st := []) dX3_risk_20 ml_X3_134 kv_X0_isCrossing (ob_c hc) ⟨(Nat.le_of_ble_eq_true rfl), (Nat.le_of_ble_eq_true rfl)⟩ rfl (Nat.le_of_ble_eq_true rfl) rfl (Nat.le_of_ble_eq_true rfl) (c_cCross hc h hW (by omega)) ?_
    refine v_ifB_eq (tgt := 64) dX3_risk_23 (by decide) (fun c23 => ?_) (fun c23 => ?_)
    · refine v_iincN (lv' := [(0, .ref 0), (1, .float (rkN T nd n)), (2, .int (nI (n + 1)))]) dX3_risk_64 rfl (Nat.le_of_ble_eq_true rfl) rfl ?_
      refine v_goto (tgt := 4) dX3_risk_67 (by decide) ?_
      have h2 := ih (n + 1) (by omega)
      simp only [rkN] at h2
      rw [kaO_cx.mpr c23] at h2; exact h2
    · have h1 : so T n = 1 := by unfold cxB at c23; simp at c23; exact c23.1
      have hck := hW.ck2 (n := n) (by omega)
      obtain ⟨kd, hkd⟩ : ∃ kd, kaO T nd n = some kd := by
        cases hx : kaO T nd n with
        | none => exact absurd c23 (kaO_cx.mp hx)
        | some kd => exact ⟨kd, rfl⟩
      refine v_fload_n dX3_risk_26 rfl ?_
      refine v_aload_n dX3_risk_27 rfl ?_
      refine v_getD (t := c) dX3_risk_28 fl_X3_19 ⟨by decide, rfl, by decide⟩ rfl (hcc) (by omega) ?_
      refine v_iload_n dX3_risk_31 rfl ?_
      refine v_aload_n dX3_risk_32 rfl ?_
      refine v_getR (t := 24) dX3_risk_33 fl_X3_29 ⟨by decide, rfl, by decide⟩ rfl rfl ?_
      refine v_getI2 (y := (nI nd)) dX3_risk_36 fl_X3_68 ⟨by decide, rfl, by decide⟩ rfl (hm.1.1.trans hnd) ?_
      refine v_callVr (x := .float (wtF T n kd)) (M1 := M) (as := [.int (nI n), .int (nI nd)]) (st := [.float (rkN T nd n)]) dX3_risk_39 ml_X3_140 kv_X0_weightOf (ob_c hc) ⟨(Nat.le_of_ble_eq_true rfl), (Nat.le_of_ble_eq_true rfl)⟩ rfl (Nat.le_of_ble_eq_true rfl) rfl (Nat.le_of_ble_eq_true rfl) (c_cWt hc h hW hd hnb (by omega) hkd) ?_
      refine v_aload_n dX3_risk_42 rfl ?_
      refine v_getD (t := c) dX3_risk_43 fl_X3_19 ⟨by decide, rfl, by decide⟩ rfl (hcc) (by omega) ?_
      refine v_aload_n dX3_risk_46 rfl ?_
      refine v_getD (t := c) dX3_risk_47 fl_X3_19 ⟨by decide, rfl, by decide⟩ rfl (hcc) (by omega) ?_
      refine v_getR (t := c + 2) dX3_risk_50 fl_X3_105 (ob_c hc) rfl rfl ?_
      refine v_iload_n dX3_risk_53 rfl ?_
      refine v_callSr (x := .int (nI (ck T n))) (M1 := M) (as := [.ref (c + 2), .int (nI n)]) (st := [.ref c, .float (wtF T n kd), .float (rkN T nd n)]) dX3_risk_54 ml_X3_101 ks_X3_at ⟨(Nat.le_of_ble_eq_true rfl), (Nat.le_of_ble_eq_true rfl)⟩ rfl (Nat.le_of_ble_eq_true rfl) rfl (Nat.le_of_ble_eq_true rfl) (c_at (ar_c2 hc) (by omega) (cir_ckL h (by omega) (by omega))) ?_
      refine v_callVr (x := .int (nI (pe T (ck T n)))) (M1 := M) (as := [.int (nI (ck T n))]) (st := [.float (wtF T n kd), .float (rkN T nd n)]) dX3_risk_57 ml_X3_144 kv_X0_periodOf (ob_c hc) ⟨(Nat.le_of_ble_eq_true rfl), (Nat.le_of_ble_eq_true rfl)⟩ rfl (Nat.le_of_ble_eq_true rfl) rfl (Nat.le_of_ble_eq_true rfl) (c_cPer hc h hW (by omega)) ?_
      refine v_i2f dX3_risk_60 ?_
      refine v_fdiv dX3_risk_61 (rk_div hW (by omega)) ?_
      refine v_fadd dX3_risk_62 (rk_add hW (by omega)) ?_
      refine v_fstore_n (lv' := [(0, .ref 0), (1, .float (FP.fadd (rkN T nd n) (FP.fdiv (wtF T n kd) (FP.i2f ((nI (pe T (ck T n)))))))), (2, .int (nI n))]) dX3_risk_63 (Nat.le_of_ble_eq_true rfl) rfl ?_
      refine v_iincN (lv' := [(0, .ref 0), (1, .float (FP.fadd (rkN T nd n) (FP.fdiv (wtF T n kd) (FP.i2f ((nI (pe T (ck T n)))))))), (2, .int (nI (n + 1)))]) dX3_risk_64 rfl (Nat.le_of_ble_eq_true rfl) rfl ?_
      refine v_goto (tgt := 4) dX3_risk_67 (by decide) ?_
      have h2 := ih (n + 1) (by omega)
      simp only [rkN] at h2
      rw [hkd] at h2; exact h2
set_option maxRecDepth 100000 in
theorem k_risk (hr : CLS c r M T R P Im tx t) (hW : WF T) {nd : Nat} (hnd : R 0 = nI nd) (hnb : nd < 2 ^ 31) : V kX3_risk (cA M (rkF T nd) T R P Im tx t) M 0 [(0, .ref 0)] [] := by
  have h16 := hW.n16
  have hr0 := hr
  obtain ⟨hc, hcc, hce, ⟨h, hd⟩, hm, hp, hi, hx0⟩ := hr
  have ho24 : mo 24 := Or.inl (Or.inl rfl)
  refine v_fconst0 dX3_risk_0 ?_
  refine v_fstore_n (lv' := [(0, .ref 0), (1, .float FP.fconst0)]) dX3_risk_1 (Nat.le_of_ble_eq_true rfl) rfl ?_
  refine v_iconst (v := (nI 0)) dX3_risk_2 rfl ?_
  refine v_istore_n (lv' := [(0, .ref 0), (1, .float FP.fconst0), (2, .int (nI 0))]) dX3_risk_3 (Nat.le_of_ble_eq_true rfl) rfl ?_
  exact l_krisk hr0 hW hnd hnb (nN T) 0 (by omega)
end C48
