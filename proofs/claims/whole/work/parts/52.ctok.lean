/-! the class's text: tokens -/
/-- the class's Text while it reads: next, place, token, number may have moved -/
def cn (M0 M : vM) : Prop := (∀ i, i ≠ 1 → M i = M0 i) ∧ ∀ j, (j < 2 ∨ 5 < j) → M 1 j = M0 1 j
theorem cn_rf (M : vM) : cn M M := ⟨fun _ _ => rfl, fun _ _ => rfl⟩
theorem cn_tr {A B C : vM} (h : cn A B) (g : cn B C) : cn A C := ⟨fun i hi => (g.1 i hi).trans (h.1 i hi), fun j hj => (g.2 j hj).trans (h.2 j hj)⟩
theorem cn_up {A B : vM} (h : cn A B) {b : Nat} {x : Int32} (hb : 2 ≤ b ∧ b ≤ 5) : cn A (mup B 1 b x) := ⟨fun i hi => (mup_ne hi).trans (h.1 i hi), fun j hj => by rw [mup_eq, upd_ne (by omega)]; exact h.2 j hj⟩
def cT4 (u : Nat → Nat) (t p : Nat) : Int32 := if tPl u t p = t then (-2) else if isD (u (tPl u t p)) then (if tTk u t p = 1 then (-1) else (-3)) else nI (u (tPl u t p))
def cTK (M : vM) (u : Nat → Nat) (t p : Nat) : Prop := M 1 2 = nI (tNx u t p) ∧ M 1 3 = nI (tPl u t p) ∧ M 1 4 = cT4 u t p ∧ (tTk u t p = 1 → M 1 5 = nI (tVl u t p))
theorem cX_cn {M M' : vM} {tx : Nat → Int32} {t : Nat} (h : cX M tx t) (hn : cn M M') : cX M' tx t := cX_c h (hn.2 1 (by decide)) (hn.1 2 (by decide))
theorem tk_num {u : Nat → Nat} {t p pl : Nat} (hpl : tPl u t p = pl) (h1 : pl ≠ t) (h2 : isD (u pl)) : tNx u t p = (dgN u (t - pl) pl 0).1 ∧ tVl u t p = (dgN u (t - pl) pl 0).2 ∧ tTk u t p = if 99 < (dgN u (t - pl) pl 0).2 ∨ (u pl = 48 ∧ pl + 1 < (dgN u (t - pl) pl 0).1) then 2 else 1 := by
  have e1 : tNx u t p = (dgN u (t - pl) pl 0).1 := by unfold tNx; rw [hpl, if_neg h1, if_pos h2]
  have e2 : tVl u t p = (dgN u (t - pl) pl 0).2 := by unfold tVl; rw [hpl, if_neg h1, if_pos h2]
  refine ⟨e1, e2, ?_⟩
  unfold tTk; rw [e1, e2, hpl, if_neg h1, if_pos h2]
theorem min_dg {v c : Nat} (hc : isD c) : min 100 (min 100 v * 10 + c - 48) = min 100 (dgV v c) := by
  unfold dgV
  obtain ⟨h1, h2⟩ := hc
  split <;> omega
section C52
variable {M M0 : vM} {tx : Nat → Int32} {t : Nat}
set_option maxRecDepth 100000 in
theorem c_fig {a : Nat} (ha : a < 256) : V kX2_isFigure (rt (.int (bI (isD a))) M) M 0 [(0, .int (nI a))] [] := by
  refine v_iload_n dX2_isFigure_0 rfl ?_
  refine v_bipush (v := (nI 48)) dX2_isFigure_1 rfl ?_
  refine v_icmpN_lt (tgt := 16) dX2_isFigure_3 (by decide) (by omega) (by omega) (fun c3 => ?_) (fun c3 => ?_)
  · refine v_iconst (v := (nI 0)) dX2_isFigure_16 rfl ?_
    refine v_zret dX2_isFigure_17 rfl (Or.inl rfl) ?_
    refine ⟨congrArg (fun x => some (Value.int x)) ?_, rfl⟩
    first | (rw [bI_t (show isD a from ⟨by omega, by omega⟩)]; rfl) | (rw [bI_f (show ¬ isD a from fun z => by have := z.1; have := z.2; omega)]; rfl)
  · refine v_iload_n dX2_isFigure_6 rfl ?_
    refine v_bipush (v := (nI 57)) dX2_isFigure_7 rfl ?_
    refine v_icmpN_gt (tgt := 16) dX2_isFigure_9 (by decide) (by omega) (by omega) (fun c9 => ?_) (fun c9 => ?_)
    · refine v_iconst (v := (nI 0)) dX2_isFigure_16 rfl ?_
      refine v_zret dX2_isFigure_17 rfl (Or.inl rfl) ?_
      refine ⟨congrArg (fun x => some (Value.int x)) ?_, rfl⟩
      first | (rw [bI_t (show isD a from ⟨by omega, by omega⟩)]; rfl) | (rw [bI_f (show ¬ isD a from fun z => by have := z.1; have := z.2; omega)]; rfl)
    · refine v_iconst (v := (nI 1)) dX2_isFigure_12 rfl ?_
      refine v_goto (tgt := 17) dX2_isFigure_13 (by decide) ?_
      refine v_zret dX2_isFigure_17 rfl (Or.inr rfl) ?_
      refine ⟨congrArg (fun x => some (Value.int x)) ?_, rfl⟩
      first | (rw [bI_t (show isD a from ⟨by omega, by omega⟩)]; rfl) | (rw [bI_f (show ¬ isD a from fun z => by have := z.1; have := z.2; omega)]; rfl)
set_option maxRecDepth 100000 in
theorem l_rdn (hx : cX M0 tx t) (ho : xOK tx t) {pl P V9 : Nat} (hpl : pl < t) (d : Nat) : ∀ (p : Nat) (v : Nat) (M : vM), p + d = t → pl ≤ p → v < 1000 → cn M0 M → M 1 2 = nI p → M 1 3 = nI pl → M 1 5 = nI (min 100 v) → dgN (uF tx) d p v = (P, V9) → V kX2_readNumber (fun v M' => v = none ∧ cn M0 M' ∧ M' 1 2 = nI P ∧ M' 1 3 = nI pl ∧ M' 1 4 = (if 99 < V9 ∨ (uF tx pl = 48 ∧ pl + 1 < P) then (-3) else (-1)) ∧ M' 1 5 = nI (min 100 V9)) M 5 [(0, .ref 1)] [] := by
  induction d with
  | zero =>
    intro p v M hk hp hv hz h2 h3 h5 hres
    have ht := ho.1
    have hsz : M 1 1 = nI t := (hz.2 1 (by decide)).trans hx.1
    have hl : ∀ j, j < t → M 2 j = nI (uF tx j) := fun j hj => by rw [hz.1 2 (by decide), hx.2 j hj]; exact (ho.2 j hj).1
    have hb : ∀ j, j < t → uF tx j ≤ 255 := fun j hj => (ho.2 j hj).2
    have he : p = P ∧ v = V9 := by simp only [dgN] at hres; cases hres; exact ⟨rfl, rfl⟩
    obtain ⟨rfl, rfl⟩ := he
    refine v_aload_n dX2_readNumber_5 rfl ?_
    refine v_getI2 (y := (nI p)) dX2_readNumber_6 fl_X2_28 ⟨by decide, rfl, by decide⟩ rfl (h2) ?_
    refine v_aload_n dX2_readNumber_9 rfl ?_
    refine v_getI2 (y := (nI t)) dX2_readNumber_10 fl_X2_19 ⟨by decide, rfl, by decide⟩ rfl (hsz) ?_
    refine v_icmpN_ge (tgt := 73) dX2_readNumber_13 (by decide) (by omega) (by omega) (fun c13 => ?_) (fun c13 => (by omega))
    refine v_aload_n dX2_readNumber_73 rfl ?_
    refine v_getR (t := 2) dX2_readNumber_74 fl_X2_9 ⟨by decide, rfl, by decide⟩ rfl rfl ?_
    refine v_aload_n dX2_readNumber_77 rfl ?_
    refine v_getI2 (y := (nI pl)) dX2_readNumber_78 fl_X2_44 ⟨by decide, rfl, by decide⟩ rfl (h3) ?_
    refine v_cald (n := 160) (a := pl) dX2_readNumber_81 ⟨by decide, rfl, rfl⟩ (rfl) (by omega) ?_
    refine v_top (y := (nI (uF tx pl))) (hl _ (by omega)) ?_
    refine v_bipush (v := (nI 48)) dX2_readNumber_82 rfl ?_
    refine v_icmpN_ne (tgt := 104) dX2_readNumber_84 (by decide) (by have := hb pl (by omega); omega) (by decide) (fun c84 => ?_) (fun c84 => ?_)
    · refine v_iconst (v := (nI 0)) dX2_readNumber_104 rfl ?_
      refine v_istore_n (lv' := [(0, .ref 1), (1, .int (nI 0))]) dX2_readNumber_105 (Nat.le_of_ble_eq_true rfl) rfl ?_
      refine v_aload_n dX2_readNumber_106 rfl ?_
      refine v_iload_n dX2_readNumber_107 rfl ?_
      refine v_ifN_ne (tgt := 120) dX2_readNumber_108 (by decide) (by decide) (fun c108 => (absurd rfl c108)) (fun c108 => ?_)
      refine v_aload_n dX2_readNumber_111 rfl ?_
      refine v_getI2 (y := (nI (min 100 v))) dX2_readNumber_112 fl_X2_69 ⟨by decide, rfl, by decide⟩ rfl (h5) ?_
      refine v_bipush (v := (nI 99)) dX2_readNumber_115 rfl ?_
      refine v_icmpN_le (tgt := 125) dX2_readNumber_117 (by decide) (by omega) (by decide) (fun c117 => ?_) (fun c117 => ?_)
      · refine v_iconst (v := (-1)) dX2_readNumber_125 (by decide) ?_
        refine v_putI dX2_readNumber_126 fl_X2_34 ⟨by decide, rfl, by decide⟩ rfl rfl rfl ?_
        refine v_vret dX2_readNumber_129 rfl ?_
        refine ⟨rfl, cn_up hz (by decide), ?_, ?_, ?_, ?_⟩
        · rw [mup_eq, upd_ne (by decide), h2]
        · rw [mup_eq, upd_ne (by decide)]; exact h3
        · rw [mup_eq, upd_eq]
          rw [if_neg (by omega)]
        · rw [mup_eq, upd_ne (by decide)]; exact h5
      · refine v_bipush (v := (-3)) dX2_readNumber_120 (by decide) ?_
        refine v_goto (tgt := 126) dX2_readNumber_122 (by decide) ?_
        refine v_putI dX2_readNumber_126 fl_X2_34 ⟨by decide, rfl, by decide⟩ rfl rfl rfl ?_
        refine v_vret dX2_readNumber_129 rfl ?_
        refine ⟨rfl, cn_up hz (by decide), ?_, ?_, ?_, ?_⟩
        · rw [mup_eq, upd_ne (by decide), h2]
        · rw [mup_eq, upd_ne (by decide)]; exact h3
        · rw [mup_eq, upd_eq]
          rw [if_pos (by omega)]
        · rw [mup_eq, upd_ne (by decide)]; exact h5
    · refine v_aload_n dX2_readNumber_87 rfl ?_
      refine v_getI2 (y := (nI p)) dX2_readNumber_88 fl_X2_28 ⟨by decide, rfl, by decide⟩ rfl (h2) ?_
      refine v_aload_n dX2_readNumber_91 rfl ?_
      refine v_getI2 (y := (nI pl)) dX2_readNumber_92 fl_X2_44 ⟨by decide, rfl, by decide⟩ rfl (h3) ?_
      refine v_isubN dX2_readNumber_95 (by omega) ?_
      refine v_iconst (v := (nI 1)) dX2_readNumber_96 rfl ?_
      refine v_icmpN_le (tgt := 104) dX2_readNumber_97 (by decide) (by omega) (by decide) (fun c97 => ?_) (fun c97 => ?_)
      · refine v_iconst (v := (nI 0)) dX2_readNumber_104 rfl ?_
        refine v_istore_n (lv' := [(0, .ref 1), (1, .int (nI 0))]) dX2_readNumber_105 (Nat.le_of_ble_eq_true rfl) rfl ?_
        refine v_aload_n dX2_readNumber_106 rfl ?_
        refine v_iload_n dX2_readNumber_107 rfl ?_
        refine v_ifN_ne (tgt := 120) dX2_readNumber_108 (by decide) (by decide) (fun c108 => (absurd rfl c108)) (fun c108 => ?_)
        refine v_aload_n dX2_readNumber_111 rfl ?_
        refine v_getI2 (y := (nI (min 100 v))) dX2_readNumber_112 fl_X2_69 ⟨by decide, rfl, by decide⟩ rfl (h5) ?_
        refine v_bipush (v := (nI 99)) dX2_readNumber_115 rfl ?_
        refine v_icmpN_le (tgt := 125) dX2_readNumber_117 (by decide) (by omega) (by decide) (fun c117 => ?_) (fun c117 => ?_)
        · refine v_iconst (v := (-1)) dX2_readNumber_125 (by decide) ?_
          refine v_putI dX2_readNumber_126 fl_X2_34 ⟨by decide, rfl, by decide⟩ rfl rfl rfl ?_
          refine v_vret dX2_readNumber_129 rfl ?_
          refine ⟨rfl, cn_up hz (by decide), ?_, ?_, ?_, ?_⟩
          · rw [mup_eq, upd_ne (by decide), h2]
          · rw [mup_eq, upd_ne (by decide)]; exact h3
          · rw [mup_eq, upd_eq]
            rw [if_neg (by omega)]
          · rw [mup_eq, upd_ne (by decide)]; exact h5
        · refine v_bipush (v := (-3)) dX2_readNumber_120 (by decide) ?_
          refine v_goto (tgt := 126) dX2_readNumber_122 (by decide) ?_
          refine v_putI dX2_readNumber_126 fl_X2_34 ⟨by decide, rfl, by decide⟩ rfl rfl rfl ?_
          refine v_vret dX2_readNumber_129 rfl ?_
          refine ⟨rfl, cn_up hz (by decide), ?_, ?_, ?_, ?_⟩
          · rw [mup_eq, upd_ne (by decide), h2]
          · rw [mup_eq, upd_ne (by decide)]; exact h3
          · rw [mup_eq, upd_eq]
            rw [if_pos (by omega)]
          · rw [mup_eq, upd_ne (by decide)]; exact h5
      · refine v_iconst (v := (nI 1)) dX2_readNumber_100 rfl ?_
        refine v_goto (tgt := 105) dX2_readNumber_101 (by decide) ?_
        refine v_istore_n (lv' := [(0, .ref 1), (1, .int (nI 1))]) dX2_readNumber_105 (Nat.le_of_ble_eq_true rfl) rfl ?_
        refine v_aload_n dX2_readNumber_106 rfl ?_
        refine v_iload_n dX2_readNumber_107 rfl ?_
        refine v_ifN_ne (tgt := 120) dX2_readNumber_108 (by decide) (by decide) (fun c108 => ?_) (fun c108 => (absurd c108 (by decide)))
        refine v_bipush (v := (-3)) dX2_readNumber_120 (by decide) ?_
        refine v_goto (tgt := 126) dX2_readNumber_122 (by decide) ?_
        refine v_putI dX2_readNumber_126 fl_X2_34 ⟨by decide, rfl, by decide⟩ rfl rfl rfl ?_
        refine v_vret dX2_readNumber_129 rfl ?_
        refine ⟨rfl, cn_up hz (by decide), ?_, ?_, ?_, ?_⟩
        · rw [mup_eq, upd_ne (by decide), h2]
        · rw [mup_eq, upd_ne (by decide)]; exact h3
        · rw [mup_eq, upd_eq]
          rw [if_pos (by omega)]
        · rw [mup_eq, upd_ne (by decide)]; exact h5
  | succ d ih =>
    intro p v M hk hp hv hz h2 h3 h5 hres
    have ht := ho.1
    have hsz : M 1 1 = nI t := (hz.2 1 (by decide)).trans hx.1
    have hl : ∀ j, j < t → M 2 j = nI (uF tx j) := fun j hj => by rw [hz.1 2 (by decide), hx.2 j hj]; exact (ho.2 j hj).1
    have hb : ∀ j, j < t → uF tx j ≤ 255 := fun j hj => (ho.2 j hj).2
    refine v_aload_n dX2_readNumber_5 rfl ?_
    refine v_getI2 (y := (nI p)) dX2_readNumber_6 fl_X2_28 ⟨by decide, rfl, by decide⟩ rfl (h2) ?_
    refine v_aload_n dX2_readNumber_9 rfl ?_
    refine v_getI2 (y := (nI t)) dX2_readNumber_10 fl_X2_19 ⟨by decide, rfl, by decide⟩ rfl (hsz) ?_
    refine v_icmpN_ge (tgt := 73) dX2_readNumber_13 (by decide) (by omega) (by omega) (fun c13 => (by omega)) (fun c13 => ?_)
    refine v_aload_n dX2_readNumber_16 rfl ?_
    refine v_getR (t := 2) dX2_readNumber_17 fl_X2_9 ⟨by decide, rfl, by decide⟩ rfl rfl ?_
    refine v_aload_n dX2_readNumber_20 rfl ?_
    refine v_getI2 (y := (nI p)) dX2_readNumber_21 fl_X2_28 ⟨by decide, rfl, by decide⟩ rfl (h2) ?_
    refine v_cald (n := 160) (a := p) dX2_readNumber_24 ⟨by decide, rfl, rfl⟩ (rfl) (by omega) ?_
    refine v_top (y := (nI (uF tx p))) (hl _ (by omega)) ?_
    refine v_callSr (x := .int (bI (isD (uF tx p)))) (M1 := M) (as := [.int (nI (uF tx p))]) (st := []) dX2_readNumber_25 ml_X2_94 ks_X2_isFigure ⟨(Nat.le_of_ble_eq_true rfl), (Nat.le_of_ble_eq_true rfl)⟩ rfl (Nat.le_of_ble_eq_true rfl) rfl (Nat.le_of_ble_eq_true rfl) (c_fig (by have := hb p (by omega); omega)) ?_
    refine v_ifB_eq (tgt := 73) dX2_readNumber_28 (by decide) (fun c28 => ?_) (fun c28 => ?_)
    · have he : p = P ∧ v = V9 := by simp only [dgN] at hres; rw [if_neg c28] at hres; cases hres; exact ⟨rfl, rfl⟩
      obtain ⟨rfl, rfl⟩ := he
      refine v_aload_n dX2_readNumber_73 rfl ?_
      refine v_getR (t := 2) dX2_readNumber_74 fl_X2_9 ⟨by decide, rfl, by decide⟩ rfl rfl ?_
      refine v_aload_n dX2_readNumber_77 rfl ?_
      refine v_getI2 (y := (nI pl)) dX2_readNumber_78 fl_X2_44 ⟨by decide, rfl, by decide⟩ rfl (h3) ?_
      refine v_cald (n := 160) (a := pl) dX2_readNumber_81 ⟨by decide, rfl, rfl⟩ (rfl) (by omega) ?_
      refine v_top (y := (nI (uF tx pl))) (hl _ (by omega)) ?_
      refine v_bipush (v := (nI 48)) dX2_readNumber_82 rfl ?_
      refine v_icmpN_ne (tgt := 104) dX2_readNumber_84 (by decide) (by have := hb pl (by omega); omega) (by decide) (fun c84 => ?_) (fun c84 => ?_)
      · refine v_iconst (v := (nI 0)) dX2_readNumber_104 rfl ?_
        refine v_istore_n (lv' := [(0, .ref 1), (1, .int (nI 0))]) dX2_readNumber_105 (Nat.le_of_ble_eq_true rfl) rfl ?_
        refine v_aload_n dX2_readNumber_106 rfl ?_
        refine v_iload_n dX2_readNumber_107 rfl ?_
        refine v_ifN_ne (tgt := 120) dX2_readNumber_108 (by decide) (by decide) (fun c108 => (absurd rfl c108)) (fun c108 => ?_)
        refine v_aload_n dX2_readNumber_111 rfl ?_
        refine v_getI2 (y := (nI (min 100 v))) dX2_readNumber_112 fl_X2_69 ⟨by decide, rfl, by decide⟩ rfl (h5) ?_
        refine v_bipush (v := (nI 99)) dX2_readNumber_115 rfl ?_
        refine v_icmpN_le (tgt := 125) dX2_readNumber_117 (by decide) (by omega) (by decide) (fun c117 => ?_) (fun c117 => ?_)
        · refine v_iconst (v := (-1)) dX2_readNumber_125 (by decide) ?_
          refine v_putI dX2_readNumber_126 fl_X2_34 ⟨by decide, rfl, by decide⟩ rfl rfl rfl ?_
          refine v_vret dX2_readNumber_129 rfl ?_
          refine ⟨rfl, cn_up hz (by decide), ?_, ?_, ?_, ?_⟩
          · rw [mup_eq, upd_ne (by decide), h2]
          · rw [mup_eq, upd_ne (by decide)]; exact h3
          · rw [mup_eq, upd_eq]
            rw [if_neg (by omega)]
          · rw [mup_eq, upd_ne (by decide)]; exact h5
        · refine v_bipush (v := (-3)) dX2_readNumber_120 (by decide) ?_
          refine v_goto (tgt := 126) dX2_readNumber_122 (by decide) ?_
          refine v_putI dX2_readNumber_126 fl_X2_34 ⟨by decide, rfl, by decide⟩ rfl rfl rfl ?_
          refine v_vret dX2_readNumber_129 rfl ?_
          refine ⟨rfl, cn_up hz (by decide), ?_, ?_, ?_, ?_⟩
          · rw [mup_eq, upd_ne (by decide), h2]
          · rw [mup_eq, upd_ne (by decide)]; exact h3
          · rw [mup_eq, upd_eq]
            rw [if_pos (by omega)]
          · rw [mup_eq, upd_ne (by decide)]; exact h5
      · refine v_aload_n dX2_readNumber_87 rfl ?_
        refine v_getI2 (y := (nI p)) dX2_readNumber_88 fl_X2_28 ⟨by decide, rfl, by decide⟩ rfl (h2) ?_
        refine v_aload_n dX2_readNumber_91 rfl ?_
        refine v_getI2 (y := (nI pl)) dX2_readNumber_92 fl_X2_44 ⟨by decide, rfl, by decide⟩ rfl (h3) ?_
        refine v_isubN dX2_readNumber_95 (by omega) ?_
        refine v_iconst (v := (nI 1)) dX2_readNumber_96 rfl ?_
        refine v_icmpN_le (tgt := 104) dX2_readNumber_97 (by decide) (by omega) (by decide) (fun c97 => ?_) (fun c97 => ?_)
        · refine v_iconst (v := (nI 0)) dX2_readNumber_104 rfl ?_
          refine v_istore_n (lv' := [(0, .ref 1), (1, .int (nI 0))]) dX2_readNumber_105 (Nat.le_of_ble_eq_true rfl) rfl ?_
          refine v_aload_n dX2_readNumber_106 rfl ?_
          refine v_iload_n dX2_readNumber_107 rfl ?_
          refine v_ifN_ne (tgt := 120) dX2_readNumber_108 (by decide) (by decide) (fun c108 => (absurd rfl c108)) (fun c108 => ?_)
          refine v_aload_n dX2_readNumber_111 rfl ?_
          refine v_getI2 (y := (nI (min 100 v))) dX2_readNumber_112 fl_X2_69 ⟨by decide, rfl, by decide⟩ rfl (h5) ?_
          refine v_bipush (v := (nI 99)) dX2_readNumber_115 rfl ?_
          refine v_icmpN_le (tgt := 125) dX2_readNumber_117 (by decide) (by omega) (by decide) (fun c117 => ?_) (fun c117 => ?_)
          · refine v_iconst (v := (-1)) dX2_readNumber_125 (by decide) ?_
            refine v_putI dX2_readNumber_126 fl_X2_34 ⟨by decide, rfl, by decide⟩ rfl rfl rfl ?_
            refine v_vret dX2_readNumber_129 rfl ?_
            refine ⟨rfl, cn_up hz (by decide), ?_, ?_, ?_, ?_⟩
            · rw [mup_eq, upd_ne (by decide), h2]
            · rw [mup_eq, upd_ne (by decide)]; exact h3
            · rw [mup_eq, upd_eq]
              rw [if_neg (by omega)]
            · rw [mup_eq, upd_ne (by decide)]; exact h5
          · refine v_bipush (v := (-3)) dX2_readNumber_120 (by decide) ?_
            refine v_goto (tgt := 126) dX2_readNumber_122 (by decide) ?_
            refine v_putI dX2_readNumber_126 fl_X2_34 ⟨by decide, rfl, by decide⟩ rfl rfl rfl ?_
            refine v_vret dX2_readNumber_129 rfl ?_
            refine ⟨rfl, cn_up hz (by decide), ?_, ?_, ?_, ?_⟩
            · rw [mup_eq, upd_ne (by decide), h2]
            · rw [mup_eq, upd_ne (by decide)]; exact h3
            · rw [mup_eq, upd_eq]
              rw [if_pos (by omega)]
            · rw [mup_eq, upd_ne (by decide)]; exact h5
        · refine v_iconst (v := (nI 1)) dX2_readNumber_100 rfl ?_
          refine v_goto (tgt := 105) dX2_readNumber_101 (by decide) ?_
          refine v_istore_n (lv' := [(0, .ref 1), (1, .int (nI 1))]) dX2_readNumber_105 (Nat.le_of_ble_eq_true rfl) rfl ?_
          refine v_aload_n dX2_readNumber_106 rfl ?_
          refine v_iload_n dX2_readNumber_107 rfl ?_
          refine v_ifN_ne (tgt := 120) dX2_readNumber_108 (by decide) (by decide) (fun c108 => ?_) (fun c108 => (absurd c108 (by decide)))
          refine v_bipush (v := (-3)) dX2_readNumber_120 (by decide) ?_
          refine v_goto (tgt := 126) dX2_readNumber_122 (by decide) ?_
          refine v_putI dX2_readNumber_126 fl_X2_34 ⟨by decide, rfl, by decide⟩ rfl rfl rfl ?_
          refine v_vret dX2_readNumber_129 rfl ?_
          refine ⟨rfl, cn_up hz (by decide), ?_, ?_, ?_, ?_⟩
          · rw [mup_eq, upd_ne (by decide), h2]
          · rw [mup_eq, upd_ne (by decide)]; exact h3
          · rw [mup_eq, upd_eq]
            rw [if_pos (by omega)]
          · rw [mup_eq, upd_ne (by decide)]; exact h5
    · refine v_aload_n dX2_readNumber_31 rfl ?_
      refine v_bipush (v := (nI 100)) dX2_readNumber_32 rfl ?_
      refine v_aload_n dX2_readNumber_34 rfl ?_
      refine v_getI2 (y := (nI (min 100 v))) dX2_readNumber_35 fl_X2_69 ⟨by decide, rfl, by decide⟩ rfl (h5) ?_
      refine v_bipush (v := (nI 10)) dX2_readNumber_38 rfl ?_
      refine v_imulN dX2_readNumber_40 ?_
      refine v_aload_n dX2_readNumber_41 rfl ?_
      refine v_getR (t := 2) dX2_readNumber_42 fl_X2_9 ⟨by decide, rfl, by decide⟩ rfl rfl ?_
      refine v_aload_n dX2_readNumber_45 rfl ?_
      refine v_getI2 (y := (nI p)) dX2_readNumber_46 fl_X2_28 ⟨by decide, rfl, by decide⟩ rfl (h2) ?_
      refine v_cald (n := 160) (a := p) dX2_readNumber_49 ⟨by decide, rfl, rfl⟩ (rfl) (by omega) ?_
      refine v_top (y := (nI (uF tx p))) (hl _ (by omega)) ?_
      refine v_iaddN dX2_readNumber_50 ?_
      refine v_bipush (v := (nI 48)) dX2_readNumber_51 rfl ?_
      refine v_isubN dX2_readNumber_53 (by have := c28.1; omega) ?_
      refine v_mmin dX2_readNumber_54 rfl (by decide) (by have := hb p (by omega); omega) (Nat.le_of_ble_eq_true rfl) (Nat.le_of_ble_eq_true rfl) ?_
      refine v_putI dX2_readNumber_57 fl_X2_69 ⟨by decide, rfl, by decide⟩ rfl rfl rfl ?_
      refine v_aload_n dX2_readNumber_60 rfl ?_
      refine v_dup dX2_readNumber_61 rfl ?_
      refine v_getI2 (y := (nI p)) dX2_readNumber_62 fl_X2_28 ⟨by decide, rfl, by decide⟩ rfl (by rw [mup_eq, upd_ne (by decide)]; exact h2) ?_
      refine v_iconst (v := (nI 1)) dX2_readNumber_65 rfl ?_
      refine v_iaddN dX2_readNumber_66 ?_
      refine v_putI dX2_readNumber_67 fl_X2_28 ⟨by decide, rfl, by decide⟩ rfl rfl rfl ?_
      refine v_goto (tgt := 5) dX2_readNumber_70 (by decide) ?_
      have h9 : dgV v (uF tx p) < 1000 := by have := c28.2; unfold dgV; split <;> omega
      simp only [dgN] at hres
      rw [if_pos c28] at hres
      refine ih (p + 1) (dgV v (uF tx p)) _ (by omega) (by omega) h9 (cn_up (cn_up hz (by decide)) (by decide)) ?_ ?_ ?_ hres
      · rw [mup_eq, upd_eq]
      · rw [mup_eq, upd_ne (by decide), mup_eq, upd_ne (by decide)]; exact h3
      · rw [mup_eq, upd_ne (by decide), mup_eq, upd_eq, min_dg c28]
set_option maxRecDepth 100000 in
theorem c_rn (hx : cX M0 tx t) (ho : xOK tx t) (hz : cn M0 M) {pl : Nat} (hpl : pl < t) (h2 : M 1 2 = nI pl) (h3 : M 1 3 = nI pl) : V kX2_readNumber (fun v M' => v = none ∧ cn M0 M' ∧ M' 1 2 = nI (dgN (uF tx) (t - pl) pl 0).1 ∧ M' 1 3 = nI pl ∧ M' 1 4 = (if 99 < (dgN (uF tx) (t - pl) pl 0).2 ∨ (uF tx pl = 48 ∧ pl + 1 < (dgN (uF tx) (t - pl) pl 0).1) then (-3) else (-1)) ∧ M' 1 5 = nI (min 100 (dgN (uF tx) (t - pl) pl 0).2)) M 0 [(0, .ref 1)] [] := by
  refine v_aload_n dX2_readNumber_0 rfl ?_
  refine v_iconst (v := (nI 0)) dX2_readNumber_1 rfl ?_
  refine v_putI dX2_readNumber_2 fl_X2_69 ⟨by decide, rfl, by decide⟩ rfl rfl rfl ?_
  refine l_rdn hx ho hpl (t - pl) pl 0 _ (by omega) (Nat.le_refl _) (by decide) (cn_up hz (by decide)) ?_ ?_ ?_ rfl
  · rw [mup_eq, upd_ne (by decide)]; exact h2
  · rw [mup_eq, upd_ne (by decide)]; exact h3
  · rw [mup_eq, upd_eq]; rfl
set_option maxRecDepth 100000 in
theorem l_rt2 (hx : cX M0 tx t) (ho : xOK tx t) (hz : cn M0 M) {p0 pl : Nat} (hpl : tPl (uF tx) t p0 = pl) (hlt : pl ≤ t) (h2 : M 1 2 = nI pl) : V kX2_readToken (fun v M' => v = none ∧ cn M0 M' ∧ cTK M' (uF tx) t p0) M 38 [(0, .ref 1)] [] := by
  have ht := ho.1
  have hsz : M 1 1 = nI t := (hz.2 1 (by decide)).trans hx.1
  have hl : ∀ j, j < t → M 2 j = nI (uF tx j) := fun j hj => by rw [hz.1 2 (by decide), hx.2 j hj]; exact (ho.2 j hj).1
  have hb : ∀ j, j < t → uF tx j ≤ 255 := fun j hj => (ho.2 j hj).2
  refine v_aload_n dX2_readToken_38 rfl ?_
  refine v_aload_n dX2_readToken_39 rfl ?_
  refine v_getI2 (y := (nI pl)) dX2_readToken_40 fl_X2_28 ⟨by decide, rfl, by decide⟩ rfl (h2) ?_
  refine v_putI dX2_readToken_43 fl_X2_44 ⟨by decide, rfl, by decide⟩ rfl rfl rfl ?_
  refine v_aload_n dX2_readToken_46 rfl ?_
  refine v_getI2 (y := (nI pl)) dX2_readToken_47 fl_X2_28 ⟨by decide, rfl, by decide⟩ rfl (by rw [mup_eq, upd_ne (by decide)]; exact h2) ?_
  refine v_aload_n dX2_readToken_50 rfl ?_
  refine v_getI2 (y := (nI t)) dX2_readToken_51 fl_X2_19 ⟨by decide, rfl, by decide⟩ rfl (by rw [mup_eq, upd_ne (by decide)]; exact hsz) ?_
  refine v_icmpN_lt (tgt := 66) dX2_readToken_54 (by decide) (by omega) (by omega) (fun c54 => ?_) (fun c54 => ?_)
  · refine v_aload_n dX2_readToken_66 rfl ?_
    refine v_getR (t := 2) dX2_readToken_67 fl_X2_9 ⟨by decide, rfl, by decide⟩ rfl rfl ?_
    refine v_aload_n dX2_readToken_70 rfl ?_
    refine v_getI2 (y := (nI pl)) dX2_readToken_71 fl_X2_28 ⟨by decide, rfl, by decide⟩ rfl (by rw [mup_eq, upd_ne (by decide)]; exact h2) ?_
    refine v_cald (n := 160) (a := pl) dX2_readToken_74 ⟨by decide, rfl, rfl⟩ (rfl) (by omega) ?_
    refine v_top (y := (nI (uF tx pl))) (by rw [mup_ne (by decide)]; exact hl _ (by omega)) ?_
    refine v_callSr (x := .int (bI (isD (uF tx pl)))) (M1 := mup M 1 3 ((nI pl))) (as := [.int (nI (uF tx pl))]) (st := []) dX2_readToken_75 ml_X2_94 ks_X2_isFigure ⟨(Nat.le_of_ble_eq_true rfl), (Nat.le_of_ble_eq_true rfl)⟩ rfl (Nat.le_of_ble_eq_true rfl) rfl (Nat.le_of_ble_eq_true rfl) (c_fig (by have := hb pl (by omega); omega)) ?_
    refine v_ifB_eq (tgt := 88) dX2_readToken_78 (by decide) (fun c78 => ?_) (fun c78 => ?_)
    · refine v_aload_n dX2_readToken_88 rfl ?_
      refine v_aload_n dX2_readToken_89 rfl ?_
      refine v_getR (t := 2) dX2_readToken_90 fl_X2_9 ⟨by decide, rfl, by decide⟩ rfl rfl ?_
      refine v_aload_n dX2_readToken_93 rfl ?_
      refine v_getI2 (y := (nI pl)) dX2_readToken_94 fl_X2_28 ⟨by decide, rfl, by decide⟩ rfl (by rw [mup_eq, upd_ne (by decide)]; exact h2) ?_
      refine v_cald (n := 160) (a := pl) dX2_readToken_97 ⟨by decide, rfl, rfl⟩ (rfl) (by omega) ?_
      refine v_top (y := (nI (uF tx pl))) (by rw [mup_ne (by decide)]; exact hl _ (by omega)) ?_
      refine v_putI dX2_readToken_98 fl_X2_34 ⟨by decide, rfl, by decide⟩ rfl rfl rfl ?_
      refine v_aload_n dX2_readToken_101 rfl ?_
      refine v_dup dX2_readToken_102 rfl ?_
      refine v_getI2 (y := (nI pl)) dX2_readToken_103 fl_X2_28 ⟨by decide, rfl, by decide⟩ rfl (by rw [mup_eq, upd_ne (by decide), mup_eq, upd_ne (by decide)]; exact h2) ?_
      refine v_iconst (v := (nI 1)) dX2_readToken_106 rfl ?_
      refine v_iaddN dX2_readToken_107 ?_
      refine v_putI dX2_readToken_108 fl_X2_28 ⟨by decide, rfl, by decide⟩ rfl rfl rfl ?_
      refine v_vret dX2_readToken_111 rfl ?_
      have e9 : ¬ pl = t := by omega
      refine ⟨rfl, cn_up (cn_up (cn_up hz (by decide)) (by decide)) (by decide), ?_, ?_, ?_, fun h1 => ?_⟩
      · rw [mup_eq, upd_eq]; unfold tNx; rw [hpl, if_neg e9, if_neg c78]
      · rw [mup_eq, upd_ne (by decide), mup_eq, upd_ne (by decide), mup_eq, upd_eq, hpl]
      · rw [mup_eq, upd_ne (by decide), mup_eq, upd_eq]; unfold cT4; rw [hpl, if_neg e9, if_neg c78]
      · unfold tTk at h1; rw [hpl, if_neg e9, if_neg c78] at h1
        split at h1
        · rename_i h8
          have h7 : isIt (uF tx pl) ∨ uF tx pl = 59 := h8
          omega
        · cases h1
    · refine v_aload_n dX2_readToken_81 rfl ?_
      refine v_callV (as := []) (st := []) dX2_readToken_82 ml_X2_98 kv_X2_readNumber ⟨by decide, rfl, by decide⟩ ⟨(Nat.le_of_ble_eq_true rfl), (Nat.le_of_ble_eq_true rfl)⟩ rfl (Nat.le_of_ble_eq_true rfl) rfl (Nat.le_of_ble_eq_true rfl) (c_rn (M0 := M0) hx ho (cn_up hz (by decide)) c54 (by rw [mup_eq, upd_ne (by decide)]; exact h2) (by rw [mup_eq, upd_eq])) (fun v M9 hq => ?_)
      obtain ⟨rfl, g1, g2, g3, g4, g5⟩ := hq
      refine v_goto (tgt := 111) dX2_readToken_85 (by decide) ?_
      refine v_vret dX2_readToken_111 rfl ?_
      obtain ⟨k1, k2, k3⟩ := tk_num (u := uF tx) (t := t) hpl (by omega) c78
      have hd := dgN_b (uF tx) (t - pl) pl 0 (by decide)
      refine ⟨rfl, g1, by rw [k1]; exact g2, by rw [hpl]; exact g3, ?_, fun h1 => ?_⟩
      · rw [g4]; unfold cT4
        rw [hpl, if_neg (show ¬ pl = t by omega), if_pos c78, k3]
        split
        · rw [if_neg (by decide)]
        · rw [if_pos rfl]
      · rw [k3] at h1
        rw [g5, k2]
        have h9 : ¬ 99 < (dgN (uF tx) (t - pl) pl 0).2 := fun z => by rw [if_pos (Or.inl z)] at h1; cases h1
        rw [show min 100 (dgN (uF tx) (t - pl) pl 0).2 = (dgN (uF tx) (t - pl) pl 0).2 by omega]
  · refine v_aload_n dX2_readToken_57 rfl ?_
    refine v_bipush (v := (-2)) dX2_readToken_58 (by decide) ?_
    refine v_putI dX2_readToken_60 fl_X2_34 ⟨by decide, rfl, by decide⟩ rfl rfl rfl ?_
    refine v_goto (tgt := 111) dX2_readToken_63 (by decide) ?_
    refine v_vret dX2_readToken_111 rfl ?_
    have e9 : pl = t := by omega
    refine ⟨rfl, cn_up (cn_up hz (by decide)) (by decide), ?_, ?_, ?_, fun h1 => ?_⟩
    · rw [mup_eq, upd_ne (by decide), mup_eq, upd_ne (by decide), h2]; unfold tNx; rw [hpl, if_pos e9, e9]
    · rw [mup_eq, upd_ne (by decide), mup_eq, upd_eq, hpl]
    · rw [mup_eq, upd_eq]; unfold cT4; rw [hpl, if_pos e9]
    · unfold tTk at h1; rw [hpl, if_pos e9] at h1; cases h1
set_option maxRecDepth 100000 in
theorem l_rt1 (hx : cX M0 tx t) (ho : xOK tx t) {p0 pl : Nat} (hpl : tPl (uF tx) t p0 = pl) (d : Nat) : ∀ (p : Nat) (M : vM), p + d = t → cn M0 M → M 1 2 = nI p → skN (uF tx) d p = pl → V kX2_readToken (fun v M' => v = none ∧ cn M0 M' ∧ cTK M' (uF tx) t p0) M 0 [(0, .ref 1)] [] := by
  induction d with
  | zero =>
    intro p M hk hz h2 hsk
    have ht := ho.1
    have hsz : M 1 1 = nI t := (hz.2 1 (by decide)).trans hx.1
    have hl : ∀ j, j < t → M 2 j = nI (uF tx j) := fun j hj => by rw [hz.1 2 (by decide), hx.2 j hj]; exact (ho.2 j hj).1
    have hb : ∀ j, j < t → uF tx j ≤ 255 := fun j hj => (ho.2 j hj).2
    refine v_aload_n dX2_readToken_0 rfl ?_
    refine v_getI2 (y := (nI p)) dX2_readToken_1 fl_X2_28 ⟨by decide, rfl, by decide⟩ rfl (h2) ?_
    refine v_aload_n dX2_readToken_4 rfl ?_
    refine v_getI2 (y := (nI t)) dX2_readToken_5 fl_X2_19 ⟨by decide, rfl, by decide⟩ rfl (hsz) ?_
    refine v_icmpN_ge (tgt := 38) dX2_readToken_8 (by decide) (by omega) (by omega) (fun c8 => ?_) (fun c8 => (by omega))
    have e : p = pl := hsk
    exact l_rt2 hx ho hz hpl (by omega) (by rw [← e]; exact h2)
  | succ d ih =>
    intro p M hk hz h2 hsk
    have ht := ho.1
    have hsz : M 1 1 = nI t := (hz.2 1 (by decide)).trans hx.1
    have hl : ∀ j, j < t → M 2 j = nI (uF tx j) := fun j hj => by rw [hz.1 2 (by decide), hx.2 j hj]; exact (ho.2 j hj).1
    have hb : ∀ j, j < t → uF tx j ≤ 255 := fun j hj => (ho.2 j hj).2
    refine v_aload_n dX2_readToken_0 rfl ?_
    refine v_getI2 (y := (nI p)) dX2_readToken_1 fl_X2_28 ⟨by decide, rfl, by decide⟩ rfl (h2) ?_
    refine v_aload_n dX2_readToken_4 rfl ?_
    refine v_getI2 (y := (nI t)) dX2_readToken_5 fl_X2_19 ⟨by decide, rfl, by decide⟩ rfl (hsz) ?_
    refine v_icmpN_ge (tgt := 38) dX2_readToken_8 (by decide) (by omega) (by omega) (fun c8 => (by omega)) (fun c8 => ?_)
    refine v_aload_n dX2_readToken_11 rfl ?_
    refine v_getR (t := 2) dX2_readToken_12 fl_X2_9 ⟨by decide, rfl, by decide⟩ rfl rfl ?_
    refine v_aload_n dX2_readToken_15 rfl ?_
    refine v_getI2 (y := (nI p)) dX2_readToken_16 fl_X2_28 ⟨by decide, rfl, by decide⟩ rfl (h2) ?_
    refine v_cald (n := 160) (a := p) dX2_readToken_19 ⟨by decide, rfl, rfl⟩ (rfl) (by omega) ?_
    refine v_top (y := (nI (uF tx p))) (hl _ (by omega)) ?_
    refine v_bipush (v := (nI 32)) dX2_readToken_20 rfl ?_
    refine v_icmpN_ne (tgt := 38) dX2_readToken_22 (by decide) (by have := hb p (by omega); omega) (by decide) (fun c22 => ?_) (fun c22 => ?_)
    · have e : p = pl := by simp only [skN] at hsk; rw [if_neg c22] at hsk; exact hsk
      exact l_rt2 hx ho hz hpl (by omega) (by rw [← e]; exact h2)
    · refine v_aload_n dX2_readToken_25 rfl ?_
      refine v_dup dX2_readToken_26 rfl ?_
      refine v_getI2 (y := (nI p)) dX2_readToken_27 fl_X2_28 ⟨by decide, rfl, by decide⟩ rfl (h2) ?_
      refine v_iconst (v := (nI 1)) dX2_readToken_30 rfl ?_
      refine v_iaddN dX2_readToken_31 ?_
      refine v_putI dX2_readToken_32 fl_X2_28 ⟨by decide, rfl, by decide⟩ rfl rfl rfl ?_
      refine v_goto (tgt := 0) dX2_readToken_35 (by decide) ?_
      simp only [skN] at hsk
      rw [if_pos c22] at hsk
      exact ih (p + 1) _ (by omega) (cn_up hz (by decide)) (by rw [mup_eq, upd_eq]) hsk
theorem c_rt (hx : cX M0 tx t) (ho : xOK tx t) {p0 : Nat} (h2 : M0 1 2 = nI p0) (hp : p0 ≤ t) : V kX2_readToken (fun v M' => v = none ∧ cn M0 M' ∧ cTK M' (uF tx) t p0) M0 0 [(0, .ref 1)] [] := l_rt1 hx ho rfl (t - p0) p0 M0 (by omega) (cn_rf _) h2 rfl
theorem cT4_1 {u : Nat → Nat} {p : Nat} (hu : ∀ j, j < t → u j ≤ 255) (hp : p ≤ t) : cT4 u t p = (-1) ↔ tTk u t p = 1 := by
  have hb := tPl_b u hp
  unfold cT4
  by_cases h1 : tPl u t p = t
  · rw [if_pos h1]
    have e : tTk u t p = 0 := by unfold tTk; rw [if_pos h1]
    rw [e]; exact ⟨fun h => absurd h (by decide), fun h => absurd h (by decide)⟩
  · rw [if_neg h1]
    by_cases h2 : isD (u (tPl u t p))
    · rw [if_pos h2]
      by_cases h3 : tTk u t p = 1
      · rw [if_pos h3]; exact ⟨fun _ => h3, fun _ => rfl⟩
      · rw [if_neg h3]; exact ⟨fun h => absurd h (by decide), fun h => absurd h h3⟩
    · rw [if_neg h2]
      have hu1 := hu (tPl u t p) (by omega)
      constructor
      · intro h; exact absurd (nI_pos' (n := u (tPl u t p)) (by omega)) (by rw [h]; decide)
      · intro h; unfold tTk at h; rw [if_neg h1, if_neg h2] at h
        split at h
        · rename_i h8
          have h7 : isIt (u (tPl u t p)) ∨ u (tPl u t p) = 59 := h8
          omega
        · cases h
theorem cT4_2 {u : Nat → Nat} {p : Nat} (hu : ∀ j, j < t → u j ≤ 255) (hp : p ≤ t) : cT4 u t p = (-2) ↔ tTk u t p = 0 := by
  have hb := tPl_b u hp
  unfold cT4
  by_cases h1 : tPl u t p = t
  · rw [if_pos h1]
    have e : tTk u t p = 0 := by unfold tTk; rw [if_pos h1]
    rw [e]; exact ⟨fun _ => rfl, fun _ => rfl⟩
  · rw [if_neg h1]
    have h0 : ¬ tTk u t p = 0 := by
      unfold tTk; rw [if_neg h1]
      split
      · split <;> omega
      · split
        · rename_i h8
          have h7 : isIt (u (tPl u t p)) ∨ u (tPl u t p) = 59 := h8
          omega
        · omega
    by_cases h2 : isD (u (tPl u t p))
    · rw [if_pos h2]
      refine ⟨fun h => ?_, fun h => absurd h h0⟩
      split at h <;> exact absurd h (by decide)
    · rw [if_neg h2]
      have hu1 := hu (tPl u t p) (by omega)
      exact ⟨fun h => absurd (nI_pos' (n := u (tPl u t p)) (by omega)) (by rw [h]; decide), fun h => absurd h h0⟩
theorem cT4_c {u : Nat → Nat} {p a : Nat} (hu : ∀ j, j < t → u j ≤ 255) (hp : p ≤ t) (ha : isIt a ∨ a = 59) : cT4 u t p = nI a ↔ tTk u t p = a := by
  have hb := tPl_b u hp
  unfold cT4
  by_cases h1 : tPl u t p = t
  · have e : tTk u t p = 0 := by unfold tTk; rw [if_pos h1]
    rw [if_pos h1, e]
    exact ⟨fun h => absurd (nI_pos' (n := a) (by omega)) (by rw [← h]; decide), fun h => by omega⟩
  · rw [if_neg h1]
    by_cases h2 : isD (u (tPl u t p))
    · rw [if_pos h2]
      have e : tTk u t p = 1 ∨ tTk u t p = 2 := by
        unfold tTk; rw [if_neg h1, if_pos h2]
        split
        · exact Or.inr rfl
        · exact Or.inl rfl
      refine ⟨fun h => ?_, fun h => by omega⟩
      split at h
      · exact absurd (nI_pos' (n := a) (by omega)) (by rw [← h]; decide)
      · exact absurd (nI_pos' (n := a) (by omega)) (by rw [← h]; decide)
    · rw [if_neg h2]
      have hu1 := hu (tPl u t p) (by omega)
      have e : tTk u t p = if isIt (u (tPl u t p)) ∨ u (tPl u t p) = 59 then u (tPl u t p) else 2 := by unfold tTk; rw [if_neg h1, if_neg h2]
      rw [e, nI_eq (by omega) (by omega)]
      constructor
      · intro h; rw [h, if_pos ha]
      · intro h
        split at h
        · exact h
        · omega
end C52
