/-! the class reads an item -/
def ci (c : Nat) (M M' : vM) : Prop := (∀ i, i ≠ 1 → i ≠ 3 → (i < c ∨ c + 10 ≤ i) → M' i = M i) ∧ ∀ j, (j < 2 ∨ 5 < j) → M' 1 j = M 1 j
theorem ci_rf (c : Nat) (M : vM) : ci c M M := ⟨fun _ _ _ _ => rfl, fun _ _ => rfl⟩
theorem ci_tr {c : Nat} {A B C : vM} (h : ci c A B) (g : ci c B C) : ci c A C := ⟨fun i a b d => (g.1 i a b d).trans (h.1 i a b d), fun j hj => (g.2 j hj).trans (h.2 j hj)⟩
theorem ci_cn {c : Nat} {A B : vM} (h : cn A B) : ci c A B := ⟨fun i a _ _ => h.1 i a, h.2⟩
theorem ci_3 {c : Nat} {A B : vM} (h : ci c A B) {j : Nat} {x : Int32} : ci c A (mup B 3 j x) := ⟨fun i a b d => (mup_ne b).trans (h.1 i a b d), fun j hj => by rw [mup_ne (by decide)]; exact h.2 j hj⟩
/-- what reading an item does: z the item as the reference reads it -/
def riQ (M0 : vM) (c t : Nat) (z : pS) : Option Value → vM → Prop := fun v M' => ci c M0 M' ∧ (∀ a, z.2.2 = some a → v = some (.int (nI 0)) ∧ M' 1 3 = nI a ∧ a ≤ t) ∧ (z.2.2 = none → v = some (.int (nI 1)) ∧ CIR0 M' c z.1 ∧ M' 1 2 = nI z.2.1)
theorem riQ_bad {M0 M' : vM} {c t a : Nat} {z : pS} (hz : z.2.2 = some a) (h1 : ci c M0 M') (h2 : M' 1 3 = nI a) (h3 : a ≤ t) : riQ M0 c t z (some (.int (nI 0))) M' := ⟨h1, fun b hb => by rw [hz] at hb; cases hb; exact ⟨rfl, h2, h3⟩, fun hn => by rw [hz] at hn; cases hn⟩
theorem riQ_ok {M0 M' : vM} {c t : Nat} {z : pS} (hz : z.2.2 = none) (h1 : ci c M0 M') (h2 : CIR0 M' c z.1) (h3 : M' 1 2 = nI z.2.1) : riQ M0 c t z (some (.int (nI 1))) M' := ⟨h1, fun b hb => (by rw [hz] at hb; cases hb), fun _ => ⟨rfl, h2, h3⟩⟩
section C55a
variable {u : Nat → Nat} {t q lo hi : Nat} {D : Nat → Int32}
theorem nq_ok (h1 : tTk u t q = 1) (h2 : lo ≤ tVl u t q) (h3 : tVl u t q < hi) : nq u t lo hi (q, none) = (tNx u t q, none) := by
  unfold nq; rw [mq_none, if_pos (decide_eq_true ⟨h1, h2, h3⟩)]
theorem nq_bad (h : ¬ (tTk u t q = 1 ∧ lo ≤ tVl u t q ∧ tVl u t q < hi)) : nq u t lo hi (q, none) = (q, some (tPl u t q)) := by
  unfold nq; rw [mq_none, if_neg (by rw [decide_eq_true_eq]; exact h)]
theorem scq_ok (h : tTk u t q = 59) : scq u t (q, none) = (tNx u t q, none) := by
  unfold scq; rw [mq_none, if_pos (decide_eq_true h)]
theorem scq_bad (h : ¬ tTk u t q = 59) : scq u t (q, none) = (q, some (tPl u t q)) := by
  unfold scq; rw [mq_none, if_neg (by rw [decide_eq_true_eq]; exact h)]
theorem it_room {a : Nat} (ha : tTk u t q = a) (hb : rmB D a = true) : itR u t D q = ((riB u t a (D, (tNx u t q, none))).1, scq u t (riB u t a (D, (tNx u t q, none))).2) := by
  unfold itR; rw [ha, if_pos hb]
theorem it_no {a : Nat} (ha : tTk u t q = a) (hb : ¬ rmB D a = true) : itR u t D q = (D, (q, some (tPl u t q))) := by
  unfold itR; rw [ha, if_neg hb]
theorem rnF_f {s : Nat} {z : pS} (hW : WF z.1) (hn : nN z.1 < 16) (hs : s ≤ 5) : nN (rnF u t s z).1 = nN z.1 + 1 ∧ nK (rnF u t s z).1 = nK z.1 ∧ SAM (nN z.1) z.1 (rnF u t s z).1 ∧ (∀ i, i < 2 * nK z.1 → mk (rnF u t s z).1 i = mk z.1 i) ∧ (∀ j, j < 3 → pe (rnF u t s z).1 j = pe z.1 j) ∧ so (rnF u t s z).1 (nN z.1) = s ∧ (s ≤ 1 → ck (rnF u t s z).1 (nN z.1) = tVl u t z.2.1) ∧ ∀ k, k < hmF s → pt (rnF u t s z).1 (nN z.1) k = tVl u t (rnL u t (nN z.1) (rnC u t (nN z.1) s (upd z.1 (nN z.1) (nI s), z.2)) k).2.1 := by
  have hm := hmF_le s
  have hK := hW.2.1.2
  generalize hN : nN z.1 = n at *
  have hD' : (rnF u t s z).1 = upd (rnL u t n (rnC u t n s (upd z.1 n (nI s), z.2)) (hmF s)).1 95 (nI (n + 1)) := by unfold rnF; rw [hN]
  have old : ∀ i, i ≠ n → i ≠ 95 → i ≠ 16 + n → (∀ k, k < hmF s → i ≠ 32 + 3 * n + k) → (rnF u t s z).1 i = z.1 i := by
    intro i g1 g2 g3 g4
    rw [hD']; simp only [upd]; rw [if_neg g2, rnL_ne g4]
    unfold rnC
    split
    · simp only [upd]; rw [if_neg g3, if_neg g1]
    · simp only [upd]; rw [if_neg g1]
  have at95 : (rnF u t s z).1 95 = nI (n + 1) := by rw [hD']; simp [upd]
  have atn : (rnF u t s z).1 n = nI s := by
    rw [hD']; simp only [upd]; rw [if_neg (by omega), rnL_ne (fun k hk => by omega)]
    unfold rnC
    split
    · simp only [upd]; rw [if_neg (by omega), if_pos trivial]
    · simp only [upd]; rw [if_pos trivial]
  have ot : ∀ i, i ≠ n → i ≠ 95 → i ≠ 16 + n → (∀ k, k < hmF s → i ≠ 32 + 3 * n + k) → tN (rnF u t s z).1 i = tN z.1 i := fun i g1 g2 g3 g4 => by unfold tN; rw [old i g1 g2 g3 g4]
  refine ⟨tN_nI at95 (by omega), ot 96 (by omega) (by omega) (by omega) (fun k hk => by omega), fun m hm' => ⟨ot m (by omega) (by omega) (by omega) (fun k hk => by omega), ot (16 + m) (by omega) (by omega) (by omega) (fun k hk => by omega), fun k hk => ot (32 + 3 * m + k) (by omega) (by omega) (by omega) (fun k' hk' => by omega)⟩, fun i hi => ot (80 + i) (by omega) (by omega) (by omega) (fun k hk => by omega), fun j hj => ot (92 + j) (by omega) (by omega) (by omega) (fun k hk => by omega), tN_nI atn (by omega), fun h1 => ?_, fun k hk => ?_⟩
  · have hv := tVl_b u t z.2.1
    refine tN_nI (i := 16 + n) ?_ (by omega)
    rw [hD']; simp only [upd]; rw [if_neg (by omega), rnL_ne (fun k hk => by omega)]
    unfold rnC
    rw [if_pos h1]; simp only [upd]; rw [if_pos trivial]
  · have hv := tVl_b u t (rnL u t n (rnC u t n s (upd z.1 n (nI s), z.2)) k).2.1
    refine tN_nI (i := 32 + 3 * n + k) ?_ (by omega)
    rw [hD']; simp only [upd]; rw [if_neg (by omega)]
    exact rnL_at hk
end C55a
section C55
variable {M M0 : vM} {c : Nat} {D tx : Nat → Int32} {t : Nat}
theorem NW_ext {M' : vM} {D' : Nat → Int32} {w cl p0 p1 p2 pb lv fr : Int32} (h : CIR0 M c D) (hW : WF D) (hW' : WF D') (hN : nN D' = nN D + 1) (hK : nK D' = nK D) (hs : SAM (nN D) D D') (hm : ∀ i, i < 2 * nK D → mk D' i = mk D i) (hp : ∀ j, j < 3 → pe D' j = pe D j) (nw : NW M M' c (nN D) w cl p0 p1 p2 pb lv fr)
    (n1 : w = nI (so D' (nN D))) (n2 : cl = if so D' (nN D) ≤ 1 then nI (ck D' (nN D)) else (-9)) (n3a : p0 = if 0 < hmF (so D' (nN D)) then nI (pt D' (nN D) 0) else (-9)) (n3b : p1 = if 1 < hmF (so D' (nN D)) then nI (pt D' (nN D) 1) else (-9)) (n3c : p2 = if 2 < hmF (so D' (nN D)) then nI (pt D' (nN D) 2) else (-9))
    (n4 : pb = pbF D' (nN D)) (n5 : lv = lvF D' (nN D)) (n6 : fr = if so D' (nN D) = 1 then frF D' (nN D) else nI 0) : CIR0 M' c D' := by
  obtain ⟨g0, ⟨g1, g2⟩, k1, k2, k3, k4, k4', k5, k5', k6, k7, k8, k9⟩ := nw
  refine CIR0_ext h hW hW' hN hK hs hm hp g1 (g2 1 (by decide)) (fun i a b j hj => ?_) k9 (by rw [k1, upd_eq, n1]) (by rw [k2, upd_eq, n2]) (fun k hk => ?_) (by rw [k4, n4]) (by rw [k5, n5]) (by rw [k6, upd_eq, n6]) (by rw [k8, upd_eq])
  · rcases (show i = 1 ∨ i = 2 ∨ i = 3 ∨ i = 4 ∨ i = 5 ∨ i = 6 ∨ i = 7 ∨ i = 8 by omega) with rfl | rfl | rfl | rfl | rfl | rfl | rfl | rfl
    · simp at hj; rw [k1, upd_ne (by omega)]
    · simp at hj; rw [k2, upd_ne (by omega)]
    · simp at hj; rw [k3, upd_ne (by omega), upd_ne (by omega), upd_ne (by omega)]
    · simp at hj; exact k4' j (by omega)
    · simp at hj; exact k5' j (by omega)
    · simp at hj; rw [k6, upd_ne (by omega)]
    · rw [k7]
    · simp at hj; rw [k8, upd_ne (by omega)]
  · rcases (show k = 0 ∨ k = 1 ∨ k = 2 by omega) with rfl | rfl | rfl
    · rw [k3, upd_ne (by omega), upd_ne (by omega), upd_eq, n3a]
    · rw [k3, upd_ne (by omega), upd_eq, n3b]
    · rw [k3, upd_eq, n3c]
theorem NW_ci {M' : vM} {n : Nat} {w cl p0 p1 p2 pb lv fr : Int32} (hc : c = 4 ∨ c = 14) (nw : NW M M' c n w cl p0 p1 p2 pb lv fr) : ci c M M' ∧ M' 1 2 = M 1 2 := ⟨⟨fun i _ _ d => nw.1 i d, fun j _ => by rw [nw.1 1 (by omega)]⟩, by rw [nw.1 1 (by omega)]⟩
theorem cX_ci {M' : vM} (hc : c = 4 ∨ c = 14) (h : cX M tx t) (hn : ci c M M') : cX M' tx t := cX_c h (hn.2 1 (by decide)) (hn.1 2 (by decide) (by decide) (by omega))
set_option maxRecDepth 100000 in
theorem l_step {Qp : Option Value → vM → Prop} (hc : c = 4 ∨ c = 14) (hD : CIR0 M c D) (hx : cX M tx t) (ho : xOK tx t) {q : Nat} (hq : M 1 2 = nI q) (hqt : q ≤ t) {si i : Nat} (hsi : si < 7) {x : Int32} (hi : i < xlen.getD si 0) {b : Prop} [Decidable b] (hal : ∀ M1 : vM, cn M M1 → CIR0 M1 c D → V kX0_allows (rt (.int (bI b)) M1) M1 0 [(0, .ref c), (1, .int ((xbyt.getD si []).getD i 0)), (2, .int (nI (tVl (uF tx) t q))), (3, .int (M 3 0))] []) (bad : ∀ M1, ci c M M1 → M1 1 3 = nI (tPl (uF tx) t q) → ¬ (tTk (uF tx) t q = 1 ∧ b) → Qp (some (.int (nI 0))) M1) (good : ∀ M1, ci c M M1 → CIR0 M1 c D → cX M1 tx t → M1 1 2 = nI (tNx (uF tx) t q) → M1 3 = upd (M 3) i (nI (tVl (uF tx) t q)) → tTk (uF tx) t q = 1 → b → V kX2_readItem Qp M1 30 [(0, .ref 1), (1, .ref c), (2, .int x), (3, .ref (80 + si)), (4, .int (nI (i + 1)))] []) : V kX2_readItem (Qp) M 30 [(0, .ref 1), (1, .ref c), (2, .int x), (3, .ref (80 + si)), (4, .int (nI i))] [] := by
  have hu : ∀ j, j < t → uF tx j ≤ 255 := fun j hj => (ho.2 j hj).2
  have hlb := xlen_b si hsi
  refine v_iload dX2_readItem_30 rfl ?_
  refine v_aload_n dX2_readItem_32 rfl ?_
  refine v_callTr (x := .int (nI (xlen.getD si 0))) (as := []) (st := [.int (nI i)]) dX2_readItem_33 mt_X2_61 kt_J0_length_8abf5 hsi ⟨(Nat.le_of_ble_eq_true rfl), (Nat.le_of_ble_eq_true rfl)⟩ rfl (Nat.le_of_ble_eq_true rfl) rfl (Nat.le_of_ble_eq_true rfl) (c_sLen hsi) ?_
  refine v_icmpN_ge (tgt := 99) dX2_readItem_36 (by decide) (by omega) (by omega) (fun c36 => (absurd c36 (by omega))) (fun c36 => ?_)
  refine v_iload dX2_readItem_39 rfl ?_
  refine v_iconst (v := (nI 3)) dX2_readItem_41 rfl ?_
  refine v_icmpN_ge (tgt := 99) dX2_readItem_42 (by decide) (by omega) (by omega) (fun c42 => (absurd c42 (by omega))) (fun c42 => ?_)
  refine v_aload_n dX2_readItem_45 rfl ?_
  refine v_callV (as := []) (st := []) dX2_readItem_46 ml_X2_31 kv_X2_readToken ⟨by decide, rfl, by decide⟩ ⟨(Nat.le_of_ble_eq_true rfl), (Nat.le_of_ble_eq_true rfl)⟩ rfl (Nat.le_of_ble_eq_true rfl) rfl (Nat.le_of_ble_eq_true rfl) (c_rt hx ho hq hqt) (fun v M1 hq9 => ?_)
  obtain ⟨rfl, g1, g2⟩ := hq9
  refine v_aload_n dX2_readItem_49 rfl ?_
  refine v_getI2 (y := (cT4 (uF tx) t q)) dX2_readItem_50 fl_X2_34 ⟨by decide, rfl, by decide⟩ rfl (g2.2.2.1) ?_
  refine v_iconst (v := (-1)) dX2_readItem_53 (by decide) ?_
  refine v_icmp_ne (tgt := 80) dX2_readItem_54 (by decide) (fun c54 => ?_) (fun c54 => ?_)
  · refine v_iconst (v := (nI 0)) dX2_readItem_80 rfl ?_
    refine v_zret dX2_readItem_81 rfl (Or.inl rfl) ?_
    first | exact bad M1 (ci_cn g1) g2.2.1 (fun z => c54 ((cT4_1 hu hqt).mpr z.1)) | exact bad M1 (ci_cn g1) g2.2.1 (fun z => c77 z.2)
  · refine v_aload_n dX2_readItem_57 rfl ?_
    refine v_aload_n dX2_readItem_58 rfl ?_
    refine v_iload dX2_readItem_59 rfl ?_
    refine v_callTr (x := .int ((xbyt.getD si []).getD i 0)) (as := [.int (nI i)]) (st := [.ref c]) dX2_readItem_61 mt_X2_65 kt_J0_charAt_5068e hsi ⟨(Nat.le_of_ble_eq_true rfl), (Nat.le_of_ble_eq_true rfl)⟩ rfl (Nat.le_of_ble_eq_true rfl) rfl (Nat.le_of_ble_eq_true rfl) (c_sChar hsi hi) ?_
    refine v_aload_n dX2_readItem_64 rfl ?_
    refine v_getI2 (y := (nI (tVl (uF tx) t q))) dX2_readItem_65 fl_X2_69 ⟨by decide, rfl, by decide⟩ rfl (g2.2.2.2 ((cT4_1 hu hqt).mp c54)) ?_
    refine v_aload_n dX2_readItem_68 rfl ?_
    refine v_getR (t := 3) dX2_readItem_69 fl_X2_15 ⟨by decide, rfl, by decide⟩ rfl rfl ?_
    refine v_iconst (v := (nI 0)) dX2_readItem_72 rfl ?_
    refine v_iald2 (n := 3) (a := 0) (y := (M 3 0)) dX2_readItem_73 ⟨by decide, rfl, rfl⟩ (rfl) (by omega) (congrFun (g1.1 3 (by decide)) 0) ?_
    refine v_callVr (x := .int (bI b)) (M1 := M1) (as := [.int ((xbyt.getD si []).getD i 0), .int (nI (tVl (uF tx) t q)), .int (M 3 0)]) (st := []) dX2_readItem_74 ml_X2_72 kv_X0_allows (ob_c hc) ⟨(Nat.le_of_ble_eq_true rfl), (Nat.le_of_ble_eq_true rfl)⟩ rfl (Nat.le_of_ble_eq_true rfl) rfl (Nat.le_of_ble_eq_true rfl) (hal M1 g1 (CIR0_c hD (fun i a b => g1.1 i (by omega)))) ?_
    refine v_ifB_ne (tgt := 82) dX2_readItem_77 (by decide) (fun c77 => ?_) (fun c77 => ?_)
    · refine v_aload_n dX2_readItem_82 rfl ?_
      refine v_getR (t := 3) dX2_readItem_83 fl_X2_15 ⟨by decide, rfl, by decide⟩ rfl rfl ?_
      refine v_iload dX2_readItem_86 rfl ?_
      refine v_aload_n dX2_readItem_88 rfl ?_
      refine v_getI2 (y := (nI (tVl (uF tx) t q))) dX2_readItem_89 fl_X2_69 ⟨by decide, rfl, by decide⟩ rfl (g2.2.2.2 ((cT4_1 hu hqt).mp c54)) ?_
      refine v_iast (n := 3) (a := i) dX2_readItem_92 ⟨by decide, rfl, rfl⟩ (rfl) (by omega) ?_
      refine v_iincN (lv' := [(0, .ref 1), (1, .ref c), (2, .int x), (3, .ref (80 + si)), (4, .int (nI (i + 1)))]) dX2_readItem_93 rfl (Nat.le_of_ble_eq_true rfl) rfl ?_
      refine v_goto (tgt := 30) dX2_readItem_96 (by decide) ?_
      refine good _ (ci_3 (ci_cn g1)) (CIR0_c hD (fun i a b => (mup_ne (by omega)).trans (g1.1 i (by omega)))) (cX_c hx (by rw [mup_ne (by decide)]; exact g1.2 1 (by decide)) ((mup_ne (by decide)).trans (g1.1 2 (by decide)))) (by rw [mup_ne (by decide)]; exact g2.1) (by rw [mup_eq, g1.1 3 (by decide)]) ((cT4_1 hu hqt).mp c54) c77
    · refine v_iconst (v := (nI 0)) dX2_readItem_80 rfl ?_
      refine v_zret dX2_readItem_81 rfl (Or.inl rfl) ?_
      first | exact bad M1 (ci_cn g1) g2.2.1 (fun z => c54 ((cT4_1 hu hqt).mpr z.1)) | exact bad M1 (ci_cn g1) g2.2.1 (fun z => c77 z.2)
set_option maxRecDepth 100000 in
theorem l_end {Qp : Option Value → vM → Prop} (hc : c = 4 ∨ c = 14) (hD : CIR0 M c D) (hx : cX M tx t) (ho : xOK tx t) {q : Nat} (hq : M 1 2 = nI q) (hqt : q ≤ t) {si i : Nat} (hsi : si < 7) {x : Int32} (hi : i = xlen.getD si 0) (bad : ∀ M1, ci c M M1 → M1 1 3 = nI (tPl (uF tx) t q) → ¬ (tTk (uF tx) t q = 59) → Qp (some (.int (nI 0))) M1) (good : ∀ M1, ci c M M1 → CIR0 M1 c D → M1 1 2 = nI (tNx (uF tx) t q) → M1 3 = M 3 → tTk (uF tx) t q = 59 → V kX2_readItem Qp M1 114 [(0, .ref 1), (1, .ref c), (2, .int x), (3, .ref (80 + si)), (4, .int (nI i))] []) : V kX2_readItem (Qp) M 30 [(0, .ref 1), (1, .ref c), (2, .int x), (3, .ref (80 + si)), (4, .int (nI i))] [] := by
  have hu : ∀ j, j < t → uF tx j ≤ 255 := fun j hj => (ho.2 j hj).2
  have hlb := xlen_b si hsi
  refine v_iload dX2_readItem_30 rfl ?_
  refine v_aload_n dX2_readItem_32 rfl ?_
  refine v_callTr (x := .int (nI (xlen.getD si 0))) (as := []) (st := [.int (nI i)]) dX2_readItem_33 mt_X2_61 kt_J0_length_8abf5 hsi ⟨(Nat.le_of_ble_eq_true rfl), (Nat.le_of_ble_eq_true rfl)⟩ rfl (Nat.le_of_ble_eq_true rfl) rfl (Nat.le_of_ble_eq_true rfl) (c_sLen hsi) ?_
  refine v_icmpN_ge (tgt := 99) dX2_readItem_36 (by decide) (by omega) (by omega) (fun c36 => ?_) (fun c36 => (absurd c36 (by omega)))
  refine v_aload_n dX2_readItem_99 rfl ?_
  refine v_callV (as := []) (st := []) dX2_readItem_100 ml_X2_31 kv_X2_readToken ⟨by decide, rfl, by decide⟩ ⟨(Nat.le_of_ble_eq_true rfl), (Nat.le_of_ble_eq_true rfl)⟩ rfl (Nat.le_of_ble_eq_true rfl) rfl (Nat.le_of_ble_eq_true rfl) (c_rt hx ho hq hqt) (fun v M1 hq9 => ?_)
  obtain ⟨rfl, g1, g2⟩ := hq9
  refine v_aload_n dX2_readItem_103 rfl ?_
  refine v_getI2 (y := (cT4 (uF tx) t q)) dX2_readItem_104 fl_X2_34 ⟨by decide, rfl, by decide⟩ rfl (g2.2.2.1) ?_
  refine v_bipush (v := (nI 59)) dX2_readItem_107 rfl ?_
  refine v_icmp_eq (tgt := 114) dX2_readItem_109 (by decide) (fun c109 => ?_) (fun c109 => ?_)
  · exact good _ (ci_cn g1) (CIR0_c hD (fun i a b => g1.1 i (by omega))) g2.1 (g1.1 3 (by decide)) ((cT4_c hu hqt (Or.inr rfl)).mp c109)
  · refine v_iconst (v := (nI 0)) dX2_readItem_112 rfl ?_
    refine v_zret dX2_readItem_113 rfl (Or.inl rfl) ?_
    exact bad M1 (ci_cn g1) g2.2.1 (fun z => c109 ((cT4_c hu hqt (Or.inr rfl)).mpr z))
set_option maxRecDepth 100000 in
theorem rd_start {Qp : Option Value → vM → Prop} (hc : c = 4 ∨ c = 14) {x : Int32} (hx4 : M 1 4 = x) {si : Nat} (hsi : si < 7) (hsl : ¬ xlen.getD si 0 = 0) (hsh : V kX2_shapeOf (rt (.ref (80 + si)) M) M 0 [(0, .int x)] []) {b : Prop} [Decidable b] (hrm : V kX0_hasRoomFor (rt (.int (bI b)) M) M 0 [(0, .ref c), (1, .int x)] []) (bad : ¬ b → Qp (some (.int (nI 0))) M) (good : b → V kX2_readItem Qp M 30 [(0, .ref 1), (1, .ref c), (2, .int x), (3, .ref (80 + si)), (4, .int (nI 0))] []) : V kX2_readItem (Qp) M 0 [(0, .ref 1), (1, .ref c)] [] := by
  refine v_aload_n dX2_readItem_0 rfl ?_
  refine v_getI2 (y := x) dX2_readItem_1 fl_X2_34 ⟨by decide, rfl, by decide⟩ rfl (hx4) ?_
  refine v_istore_n (lv' := [(0, .ref 1), (1, .ref c), (2, .int x)]) dX2_readItem_4 (Nat.le_of_ble_eq_true rfl) rfl ?_
  refine v_iload_n dX2_readItem_5 rfl ?_
  refine v_callSr (x := .ref (80 + si)) (M1 := M) (as := [.int x]) (st := []) dX2_readItem_6 ml_X2_47 ks_X2_shapeOf ⟨(Nat.le_of_ble_eq_true rfl), (Nat.le_of_ble_eq_true rfl)⟩ rfl (Nat.le_of_ble_eq_true rfl) rfl (Nat.le_of_ble_eq_true rfl) (hsh) ?_
  refine v_astore_n (lv' := [(0, .ref 1), (1, .ref c), (2, .int x), (3, .ref (80 + si))]) dX2_readItem_9 (Nat.le_of_ble_eq_true rfl) rfl ?_
  refine v_aload_n dX2_readItem_10 rfl ?_
  refine v_callTr (x := .int (bI (xlen.getD si 0 = 0))) (as := []) (st := []) dX2_readItem_11 mt_X2_51 kt_J0_isEmpty_aae02 hsi ⟨(Nat.le_of_ble_eq_true rfl), (Nat.le_of_ble_eq_true rfl)⟩ rfl (Nat.le_of_ble_eq_true rfl) rfl (Nat.le_of_ble_eq_true rfl) (c_sEmpty hsi) ?_
  refine v_ifB_ne (tgt := 25) dX2_readItem_14 (by decide) (fun c14 => (absurd c14 hsl)) (fun c14 => ?_)
  refine v_aload_n dX2_readItem_17 rfl ?_
  refine v_iload_n dX2_readItem_18 rfl ?_
  refine v_callVr (x := .int (bI b)) (M1 := M) (as := [.int x]) (st := []) dX2_readItem_19 ml_X2_57 kv_X0_hasRoomFor (ob_c hc) ⟨(Nat.le_of_ble_eq_true rfl), (Nat.le_of_ble_eq_true rfl)⟩ rfl (Nat.le_of_ble_eq_true rfl) rfl (Nat.le_of_ble_eq_true rfl) (hrm) ?_
  refine v_ifB_ne (tgt := 27) dX2_readItem_22 (by decide) (fun c22 => ?_) (fun c22 => ?_)
  · refine v_iconst (v := (nI 0)) dX2_readItem_27 rfl ?_
    refine v_istore (lv' := [(0, .ref 1), (1, .ref c), (2, .int x), (3, .ref (80 + si)), (4, .int (nI 0))]) dX2_readItem_28 (Nat.le_of_ble_eq_true rfl) rfl ?_
    exact good c22
  · refine v_iconst (v := (nI 0)) dX2_readItem_25 rfl ?_
    refine v_zret dX2_readItem_26 rfl (Or.inl rfl) ?_
    exact bad c22
set_option maxRecDepth 100000 in
theorem rd_none {Qp : Option Value → vM → Prop} {x : Int32} (hx4 : M 1 4 = x) (hsh : V kX2_shapeOf (rt (.ref (80 + 6)) M) M 0 [(0, .int x)] []) (bad : Qp (some (.int (nI 0))) M) : V kX2_readItem (Qp) M 0 [(0, .ref 1), (1, .ref c)] [] := by
  refine v_aload_n dX2_readItem_0 rfl ?_
  refine v_getI2 (y := x) dX2_readItem_1 fl_X2_34 ⟨by decide, rfl, by decide⟩ rfl (hx4) ?_
  refine v_istore_n (lv' := [(0, .ref 1), (1, .ref c), (2, .int x)]) dX2_readItem_4 (Nat.le_of_ble_eq_true rfl) rfl ?_
  refine v_iload_n dX2_readItem_5 rfl ?_
  refine v_callSr (x := .ref (80 + 6)) (M1 := M) (as := [.int x]) (st := []) dX2_readItem_6 ml_X2_47 ks_X2_shapeOf ⟨(Nat.le_of_ble_eq_true rfl), (Nat.le_of_ble_eq_true rfl)⟩ rfl (Nat.le_of_ble_eq_true rfl) rfl (Nat.le_of_ble_eq_true rfl) (hsh) ?_
  refine v_astore_n (lv' := [(0, .ref 1), (1, .ref c), (2, .int x), (3, .ref (80 + 6))]) dX2_readItem_9 (Nat.le_of_ble_eq_true rfl) rfl ?_
  refine v_aload_n dX2_readItem_10 rfl ?_
  refine v_callTr (x := .int (bI (xlen.getD 6 0 = 0))) (as := []) (st := []) dX2_readItem_11 mt_X2_51 kt_J0_isEmpty_aae02 (show 6 < 7 by decide) ⟨(Nat.le_of_ble_eq_true rfl), (Nat.le_of_ble_eq_true rfl)⟩ rfl (Nat.le_of_ble_eq_true rfl) rfl (Nat.le_of_ble_eq_true rfl) (c_sEmpty (by decide)) ?_
  refine v_ifB_ne (tgt := 25) dX2_readItem_14 (by decide) (fun c14 => ?_) (fun c14 => (absurd rfl c14))
  refine v_iconst (v := (nI 0)) dX2_readItem_25 rfl ?_
  refine v_zret dX2_readItem_26 rfl (Or.inl rfl) ?_
  exact bad
set_option maxRecDepth 100000 in
theorem c_add_105 (hc : c = 4 ∨ c = 14) (h : CIR0 M c D) (hW : WF D) (hn : nN D < 16) {cl : Nat} (hcl : cl ≤ 2) {x1 x2 : Int32} : V kX0_add (fun v M' => v = none ∧ NW M M' c (nN D) (nI 0) (nI cl) (-9) (-9) (-9) (nI 0) (bx (nN D)) (nI 0)) M 0 [(0, .ref c), (1, .int (nI 105)), (2, .int (nI cl)), (3, .int x1), (4, .int x2)] [] := by
  have h16 := hW.n16
  refine v_iload_n dX0_add_0 rfl ?_
  skip
  · refine v_tabIn (tgt := 112) (off := 111) dX0_add_1 (by decide) (by decide) (by decide) (by decide) ?_
    refine v_aload_n dX0_add_112 rfl ?_
    refine v_iconst (v := (nI 0)) dX0_add_113 rfl ?_
    refine v_iload_n dX0_add_114 rfl ?_
    refine v_bipush (v := (-9)) dX0_add_115 (by decide) ?_
    refine v_bipush (v := (-9)) dX0_add_117 (by decide) ?_
    refine v_bipush (v := (-9)) dX0_add_119 (by decide) ?_
    refine v_callV (as := [.int (nI 0), .int (nI cl), .int ((-9)), .int ((-9)), .int ((-9))]) (st := []) dX0_add_121 ml_X0_75 kv_X0_addNode (ob_c hc) ⟨(Nat.le_of_ble_eq_true rfl), (Nat.le_of_ble_eq_true rfl)⟩ rfl (Nat.le_of_ble_eq_true rfl) rfl (Nat.le_of_ble_eq_true rfl) (c_addI hc h hW hn hcl) (fun v M1 hq => ?_)
    obtain ⟨rfl, nw⟩ := hq
    refine v_goto (tgt := 212) dX0_add_124 (by decide) ?_
    refine v_vret dX0_add_212 rfl ?_
    exact ⟨rfl, nw⟩
set_option maxRecDepth 100000 in
theorem c_add_114 (hc : c = 4 ∨ c = 14) (h : CIR0 M c D) (hW : WF D) (hn : nN D < 16) {cl q0 : Nat} (hcl : cl ≤ 2) (hq0 : q0 < nN D) {x2 : Int32} : V kX0_add (fun v M' => v = none ∧ NW M M' c (nN D) (nI 1) (nI cl) (nI q0) (-9) (-9) (nI 0 ||| bx q0) (bx (nN D)) (ulN D cl (lvF D q0) (nN D))) M 0 [(0, .ref c), (1, .int (nI 114)), (2, .int (nI cl)), (3, .int (nI q0)), (4, .int x2)] [] := by
  have h16 := hW.n16
  refine v_iload_n dX0_add_0 rfl ?_
  skip
  · refine v_tabIn (tgt := 127) (off := 126) dX0_add_1 (by decide) (by decide) (by decide) (by decide) ?_
    refine v_aload_n dX0_add_127 rfl ?_
    refine v_iconst (v := (nI 1)) dX0_add_128 rfl ?_
    refine v_iload_n dX0_add_129 rfl ?_
    refine v_iload_n dX0_add_130 rfl ?_
    refine v_bipush (v := (-9)) dX0_add_131 (by decide) ?_
    refine v_bipush (v := (-9)) dX0_add_133 (by decide) ?_
    refine v_callV (as := [.int (nI 1), .int (nI cl), .int (nI q0), .int ((-9)), .int ((-9))]) (st := []) dX0_add_135 ml_X0_75 kv_X0_addNode (ob_c hc) ⟨(Nat.le_of_ble_eq_true rfl), (Nat.le_of_ble_eq_true rfl)⟩ rfl (Nat.le_of_ble_eq_true rfl) rfl (Nat.le_of_ble_eq_true rfl) (c_addR hc h hW hn hq0 hcl) (fun v M1 hq => ?_)
    obtain ⟨rfl, nw⟩ := hq
    refine v_goto (tgt := 212) dX0_add_138 (by decide) ?_
    refine v_vret dX0_add_212 rfl ?_
    exact ⟨rfl, nw⟩
set_option maxRecDepth 100000 in
theorem c_add_97 (hc : c = 4 ∨ c = 14) (h : CIR0 M c D) (hW : WF D) (hn : nN D < 16) {q0 q1 : Nat} (hq0 : q0 < nN D) (hq1 : q1 < nN D) {x2 : Int32} : V kX0_add (fun v M' => v = none ∧ NW M M' c (nN D) (nI 2) (-9) (nI q0) (nI q1) (-9) ((nI 0 ||| bx q0) ||| bx q1) ((nI 0 ||| lvF D q0) ||| lvF D q1) (nI 0)) M 0 [(0, .ref c), (1, .int (nI 97)), (2, .int (nI q0)), (3, .int (nI q1)), (4, .int x2)] [] := by
  have h16 := hW.n16
  refine v_iload_n dX0_add_0 rfl ?_
  skip
  · refine v_tabIn (tgt := 141) (off := 140) dX0_add_1 (by decide) (by decide) (by decide) (by decide) ?_
    refine v_aload_n dX0_add_141 rfl ?_
    refine v_iconst (v := (nI 2)) dX0_add_142 rfl ?_
    refine v_bipush (v := (-9)) dX0_add_143 (by decide) ?_
    refine v_iload_n dX0_add_145 rfl ?_
    refine v_iload_n dX0_add_146 rfl ?_
    refine v_bipush (v := (-9)) dX0_add_147 (by decide) ?_
    refine v_callV (as := [.int (nI 2), .int ((-9)), .int (nI q0), .int (nI q1), .int ((-9))]) (st := []) dX0_add_149 ml_X0_75 kv_X0_addNode (ob_c hc) ⟨(Nat.le_of_ble_eq_true rfl), (Nat.le_of_ble_eq_true rfl)⟩ rfl (Nat.le_of_ble_eq_true rfl) rfl (Nat.le_of_ble_eq_true rfl) (c_addG hc h hW hn hq0 hq1 (s := 2) (by decide) (by decide)) (fun v M1 hq => ?_)
    obtain ⟨rfl, nw⟩ := hq
    refine v_goto (tgt := 212) dX0_add_152 (by decide) ?_
    refine v_vret dX0_add_212 rfl ?_
    exact ⟨rfl, nw⟩
set_option maxRecDepth 100000 in
theorem c_add_111 (hc : c = 4 ∨ c = 14) (h : CIR0 M c D) (hW : WF D) (hn : nN D < 16) {q0 q1 : Nat} (hq0 : q0 < nN D) (hq1 : q1 < nN D) {x2 : Int32} : V kX0_add (fun v M' => v = none ∧ NW M M' c (nN D) (nI 3) (-9) (nI q0) (nI q1) (-9) ((nI 0 ||| bx q0) ||| bx q1) ((nI 0 ||| lvF D q0) ||| lvF D q1) (nI 0)) M 0 [(0, .ref c), (1, .int (nI 111)), (2, .int (nI q0)), (3, .int (nI q1)), (4, .int x2)] [] := by
  have h16 := hW.n16
  refine v_iload_n dX0_add_0 rfl ?_
  skip
  · refine v_tabIn (tgt := 155) (off := 154) dX0_add_1 (by decide) (by decide) (by decide) (by decide) ?_
    refine v_aload_n dX0_add_155 rfl ?_
    refine v_iconst (v := (nI 3)) dX0_add_156 rfl ?_
    refine v_bipush (v := (-9)) dX0_add_157 (by decide) ?_
    refine v_iload_n dX0_add_159 rfl ?_
    refine v_iload_n dX0_add_160 rfl ?_
    refine v_bipush (v := (-9)) dX0_add_161 (by decide) ?_
    refine v_callV (as := [.int (nI 3), .int ((-9)), .int (nI q0), .int (nI q1), .int ((-9))]) (st := []) dX0_add_163 ml_X0_75 kv_X0_addNode (ob_c hc) ⟨(Nat.le_of_ble_eq_true rfl), (Nat.le_of_ble_eq_true rfl)⟩ rfl (Nat.le_of_ble_eq_true rfl) rfl (Nat.le_of_ble_eq_true rfl) (c_addG hc h hW hn hq0 hq1 (s := 3) (by decide) (by decide)) (fun v M1 hq => ?_)
    obtain ⟨rfl, nw⟩ := hq
    refine v_goto (tgt := 212) dX0_add_166 (by decide) ?_
    refine v_vret dX0_add_212 rfl ?_
    exact ⟨rfl, nw⟩
set_option maxRecDepth 100000 in
theorem c_add_120 (hc : c = 4 ∨ c = 14) (h : CIR0 M c D) (hW : WF D) (hn : nN D < 16) {q0 q1 : Nat} (hq0 : q0 < nN D) (hq1 : q1 < nN D) {x2 : Int32} : V kX0_add (fun v M' => v = none ∧ NW M M' c (nN D) (nI 4) (-9) (nI q0) (nI q1) (-9) ((nI 0 ||| bx q0) ||| bx q1) ((nI 0 ||| lvF D q0) ||| lvF D q1) (nI 0)) M 0 [(0, .ref c), (1, .int (nI 120)), (2, .int (nI q0)), (3, .int (nI q1)), (4, .int x2)] [] := by
  have h16 := hW.n16
  refine v_iload_n dX0_add_0 rfl ?_
  skip
  · refine v_tabIn (tgt := 169) (off := 168) dX0_add_1 (by decide) (by decide) (by decide) (by decide) ?_
    refine v_aload_n dX0_add_169 rfl ?_
    refine v_iconst (v := (nI 4)) dX0_add_170 rfl ?_
    refine v_bipush (v := (-9)) dX0_add_171 (by decide) ?_
    refine v_iload_n dX0_add_173 rfl ?_
    refine v_iload_n dX0_add_174 rfl ?_
    refine v_bipush (v := (-9)) dX0_add_175 (by decide) ?_
    refine v_callV (as := [.int (nI 4), .int ((-9)), .int (nI q0), .int (nI q1), .int ((-9))]) (st := []) dX0_add_177 ml_X0_75 kv_X0_addNode (ob_c hc) ⟨(Nat.le_of_ble_eq_true rfl), (Nat.le_of_ble_eq_true rfl)⟩ rfl (Nat.le_of_ble_eq_true rfl) rfl (Nat.le_of_ble_eq_true rfl) (c_addG hc h hW hn hq0 hq1 (s := 4) (by decide) (by decide)) (fun v M1 hq => ?_)
    obtain ⟨rfl, nw⟩ := hq
    refine v_goto (tgt := 212) dX0_add_180 (by decide) ?_
    refine v_vret dX0_add_212 rfl ?_
    exact ⟨rfl, nw⟩
set_option maxRecDepth 100000 in
theorem c_add_109 (hc : c = 4 ∨ c = 14) (h : CIR0 M c D) (hW : WF D) (hn : nN D < 16) {q0 q1 q2 : Nat} (hq0 : q0 < nN D) (hq1 : q1 < nN D) (hq2 : q2 < nN D) : V kX0_add (fun v M' => v = none ∧ NW M M' c (nN D) (nI 5) (-9) (nI q0) (nI q1) (nI q2) (((nI 0 ||| bx q0) ||| bx q1) ||| bx q2) (((nI 0 ||| lvF D q0) ||| lvF D q1) ||| lvF D q2) (nI 0)) M 0 [(0, .ref c), (1, .int (nI 109)), (2, .int (nI q0)), (3, .int (nI q1)), (4, .int (nI q2))] [] := by
  have h16 := hW.n16
  refine v_iload_n dX0_add_0 rfl ?_
  skip
  · refine v_tabIn (tgt := 183) (off := 182) dX0_add_1 (by decide) (by decide) (by decide) (by decide) ?_
    refine v_aload_n dX0_add_183 rfl ?_
    refine v_iconst (v := (nI 5)) dX0_add_184 rfl ?_
    refine v_bipush (v := (-9)) dX0_add_185 (by decide) ?_
    refine v_iload_n dX0_add_187 rfl ?_
    refine v_iload_n dX0_add_188 rfl ?_
    refine v_iload dX0_add_189 rfl ?_
    refine v_callV (as := [.int (nI 5), .int ((-9)), .int (nI q0), .int (nI q1), .int (nI q2)]) (st := []) dX0_add_191 ml_X0_75 kv_X0_addNode (ob_c hc) ⟨(Nat.le_of_ble_eq_true rfl), (Nat.le_of_ble_eq_true rfl)⟩ rfl (Nat.le_of_ble_eq_true rfl) rfl (Nat.le_of_ble_eq_true rfl) (c_addM hc h hW hn hq0 hq1 hq2) (fun v M1 hq => ?_)
    obtain ⟨rfl, nw⟩ := hq
    refine v_goto (tgt := 212) dX0_add_194 (by decide) ?_
    refine v_vret dX0_add_212 rfl ?_
    exact ⟨rfl, nw⟩
set_option maxRecDepth 100000 in
theorem c_add_112 (hc : c = 4 ∨ c = 14) (h : CIR0 M c D) (hW : WF D) {a : Nat} (ha : a < 3) {x1 x2 : Int32} : V kX0_add (rv (mup M (c + 9) a x1)) M 0 [(0, .ref c), (1, .int (nI 112)), (2, .int (nI a)), (3, .int x1), (4, .int x2)] [] := by
  refine v_iload_n dX0_add_0 rfl ?_
  skip
  · refine v_tabIn (tgt := 197) (off := 196) dX0_add_1 (by decide) (by decide) (by decide) (by decide) ?_
    refine v_aload_n dX0_add_197 rfl ?_
    refine v_iload_n dX0_add_198 rfl ?_
    refine v_iload_n dX0_add_199 rfl ?_
    refine v_callVv (M1 := mup M (c + 9) a x1) (as := [.int (nI a), .int x1]) (st := []) dX0_add_200 ml_X0_79 kv_X0_setPeriod (ob_c hc) ⟨(Nat.le_of_ble_eq_true rfl), (Nat.le_of_ble_eq_true rfl)⟩ rfl (Nat.le_of_ble_eq_true rfl) rfl (Nat.le_of_ble_eq_true rfl) (c_setP hc ha) ?_
    refine v_goto (tgt := 212) dX0_add_203 (by decide) ?_
    refine v_vret dX0_add_212 rfl ?_
    exact ⟨rfl, rfl⟩
set_option maxRecDepth 100000 in
theorem c_add_103 (hc : c = 4 ∨ c = 14) (h : CIR0 M c D) (hW : WF D) {a b : Nat} (ha : a < nN D) (hb : b < nN D) (hab : a ≠ b) {x2 : Int32} : V kX0_add (fun v M' => v = none ∧ (∀ i, i ≠ c → i ≠ c + 8 → M' i = M i) ∧ (∀ j, j ≠ 1 → M' c j = M c j) ∧ M' c 1 = nI (nK D + 1) ∧ M' (c + 8) a = M (c + 8) a ||| bx b ∧ M' (c + 8) b = M (c + 8) b ||| bx a ∧ ∀ j, j ≠ a → j ≠ b → M' (c + 8) j = M (c + 8) j) M 0 [(0, .ref c), (1, .int (nI 103)), (2, .int (nI a)), (3, .int (nI b)), (4, .int x2)] [] := by
  have h16 := hW.n16
  refine v_iload_n dX0_add_0 rfl ?_
  skip
  · refine v_tabIn (tgt := 206) (off := 205) dX0_add_1 (by decide) (by decide) (by decide) (by decide) ?_
    refine v_aload_n dX0_add_206 rfl ?_
    refine v_iload_n dX0_add_207 rfl ?_
    refine v_iload_n dX0_add_208 rfl ?_
    refine v_callV (as := [.int (nI a), .int (nI b)]) (st := []) dX0_add_209 ml_X0_83 kv_X0_addMark (ob_c hc) ⟨(Nat.le_of_ble_eq_true rfl), (Nat.le_of_ble_eq_true rfl)⟩ rfl (Nat.le_of_ble_eq_true rfl) rfl (Nat.le_of_ble_eq_true rfl) (c_addK hc h hW ha hb hab) (fun v M1 hq => ?_)
    obtain ⟨rfl, nw⟩ := hq
    refine v_vret dX0_add_212 rfl ?_
    exact ⟨rfl, nw⟩
set_option maxRecDepth 100000 in
theorem c_add_101 (hc : c = 4 ∨ c = 14) (h : CIR0 M c D) (hW : WF D) {a b : Nat} (ha : a < nN D) (hb : b < nN D) (hab : a ≠ b) {x2 : Int32} : V kX0_add (fun v M' => v = none ∧ (∀ i, i ≠ c → i ≠ c + 8 → M' i = M i) ∧ (∀ j, j ≠ 1 → M' c j = M c j) ∧ M' c 1 = nI (nK D + 1) ∧ M' (c + 8) a = M (c + 8) a ||| bx b ∧ M' (c + 8) b = M (c + 8) b ||| bx a ∧ ∀ j, j ≠ a → j ≠ b → M' (c + 8) j = M (c + 8) j) M 0 [(0, .ref c), (1, .int (nI 101)), (2, .int (nI a)), (3, .int (nI b)), (4, .int x2)] [] := by
  have h16 := hW.n16
  refine v_iload_n dX0_add_0 rfl ?_
  skip
  · refine v_tabIn (tgt := 206) (off := 205) dX0_add_1 (by decide) (by decide) (by decide) (by decide) ?_
    refine v_aload_n dX0_add_206 rfl ?_
    refine v_iload_n dX0_add_207 rfl ?_
    refine v_iload_n dX0_add_208 rfl ?_
    refine v_callV (as := [.int (nI a), .int (nI b)]) (st := []) dX0_add_209 ml_X0_83 kv_X0_addMark (ob_c hc) ⟨(Nat.le_of_ble_eq_true rfl), (Nat.le_of_ble_eq_true rfl)⟩ rfl (Nat.le_of_ble_eq_true rfl) rfl (Nat.le_of_ble_eq_true rfl) (c_addK hc h hW ha hb hab) (fun v M1 hq => ?_)
    obtain ⟨rfl, nw⟩ := hq
    refine v_vret dX0_add_212 rfl ?_
    exact ⟨rfl, nw⟩
end C55
