section R29
variable {M M0 : vM} {tx : Nat → Int32} {t : Nat}
set_option maxRecDepth 100000 in
theorem c_isItem {c : Nat} (hc : c ≤ 255) : V kX4_isItem (rt (.int (bI (isIt c))) M) M 0 [(0, .int (nI c))] [] := by
  refine v_iload_n dX4_isItem_0 rfl ?_
  refine v_bipush (v := (nI 105)) dX4_isItem_1 rfl ?_
  refine v_icmpN_eq (tgt := 54) dX4_isItem_3 (by decide) (by omega) (by omega) (fun c3 => ?_) (fun c3 => ?_)
  · refine v_iconst (v := (nI 1)) dX4_isItem_54 rfl ?_
    refine v_goto (tgt := 59) dX4_isItem_55 (by decide) ?_
    refine v_zret dX4_isItem_59 rfl (Or.inr rfl) ?_
    refine ⟨?_, rfl⟩
    rw [bI_t (by omega)]; rfl
  · refine v_iload_n dX4_isItem_6 rfl ?_
    refine v_bipush (v := (nI 114)) dX4_isItem_7 rfl ?_
    refine v_icmpN_eq (tgt := 54) dX4_isItem_9 (by decide) (by omega) (by omega) (fun c9 => ?_) (fun c9 => ?_)
    · refine v_iconst (v := (nI 1)) dX4_isItem_54 rfl ?_
      refine v_goto (tgt := 59) dX4_isItem_55 (by decide) ?_
      refine v_zret dX4_isItem_59 rfl (Or.inr rfl) ?_
      refine ⟨?_, rfl⟩
      rw [bI_t (by omega)]; rfl
    · refine v_iload_n dX4_isItem_12 rfl ?_
      refine v_bipush (v := (nI 97)) dX4_isItem_13 rfl ?_
      refine v_icmpN_eq (tgt := 54) dX4_isItem_15 (by decide) (by omega) (by omega) (fun c15 => ?_) (fun c15 => ?_)
      · refine v_iconst (v := (nI 1)) dX4_isItem_54 rfl ?_
        refine v_goto (tgt := 59) dX4_isItem_55 (by decide) ?_
        refine v_zret dX4_isItem_59 rfl (Or.inr rfl) ?_
        refine ⟨?_, rfl⟩
        rw [bI_t (by omega)]; rfl
      · refine v_iload_n dX4_isItem_18 rfl ?_
        refine v_bipush (v := (nI 111)) dX4_isItem_19 rfl ?_
        refine v_icmpN_eq (tgt := 54) dX4_isItem_21 (by decide) (by omega) (by omega) (fun c21 => ?_) (fun c21 => ?_)
        · refine v_iconst (v := (nI 1)) dX4_isItem_54 rfl ?_
          refine v_goto (tgt := 59) dX4_isItem_55 (by decide) ?_
          refine v_zret dX4_isItem_59 rfl (Or.inr rfl) ?_
          refine ⟨?_, rfl⟩
          rw [bI_t (by omega)]; rfl
        · refine v_iload_n dX4_isItem_24 rfl ?_
          refine v_bipush (v := (nI 120)) dX4_isItem_25 rfl ?_
          refine v_icmpN_eq (tgt := 54) dX4_isItem_27 (by decide) (by omega) (by omega) (fun c27 => ?_) (fun c27 => ?_)
          · refine v_iconst (v := (nI 1)) dX4_isItem_54 rfl ?_
            refine v_goto (tgt := 59) dX4_isItem_55 (by decide) ?_
            refine v_zret dX4_isItem_59 rfl (Or.inr rfl) ?_
            refine ⟨?_, rfl⟩
            rw [bI_t (by omega)]; rfl
          · refine v_iload_n dX4_isItem_30 rfl ?_
            refine v_bipush (v := (nI 109)) dX4_isItem_31 rfl ?_
            refine v_icmpN_eq (tgt := 54) dX4_isItem_33 (by decide) (by omega) (by omega) (fun c33 => ?_) (fun c33 => ?_)
            · refine v_iconst (v := (nI 1)) dX4_isItem_54 rfl ?_
              refine v_goto (tgt := 59) dX4_isItem_55 (by decide) ?_
              refine v_zret dX4_isItem_59 rfl (Or.inr rfl) ?_
              refine ⟨?_, rfl⟩
              rw [bI_t (by omega)]; rfl
            · refine v_iload_n dX4_isItem_36 rfl ?_
              refine v_bipush (v := (nI 112)) dX4_isItem_37 rfl ?_
              refine v_icmpN_eq (tgt := 54) dX4_isItem_39 (by decide) (by omega) (by omega) (fun c39 => ?_) (fun c39 => ?_)
              · refine v_iconst (v := (nI 1)) dX4_isItem_54 rfl ?_
                refine v_goto (tgt := 59) dX4_isItem_55 (by decide) ?_
                refine v_zret dX4_isItem_59 rfl (Or.inr rfl) ?_
                refine ⟨?_, rfl⟩
                rw [bI_t (by omega)]; rfl
              · refine v_iload_n dX4_isItem_42 rfl ?_
                refine v_bipush (v := (nI 103)) dX4_isItem_43 rfl ?_
                refine v_icmpN_eq (tgt := 54) dX4_isItem_45 (by decide) (by omega) (by omega) (fun c45 => ?_) (fun c45 => ?_)
                · refine v_iconst (v := (nI 1)) dX4_isItem_54 rfl ?_
                  refine v_goto (tgt := 59) dX4_isItem_55 (by decide) ?_
                  refine v_zret dX4_isItem_59 rfl (Or.inr rfl) ?_
                  refine ⟨?_, rfl⟩
                  rw [bI_t (by omega)]; rfl
                · refine v_iload_n dX4_isItem_48 rfl ?_
                  refine v_bipush (v := (nI 101)) dX4_isItem_49 rfl ?_
                  refine v_icmpN_ne (tgt := 58) dX4_isItem_51 (by decide) (by omega) (by omega) (fun c51 => ?_) (fun c51 => ?_)
                  · refine v_iconst (v := (nI 0)) dX4_isItem_58 rfl ?_
                    refine v_zret dX4_isItem_59 rfl (Or.inl rfl) ?_
                    refine ⟨?_, rfl⟩
                    rw [bI_f (by omega)]; rfl
                  · refine v_iconst (v := (nI 1)) dX4_isItem_54 rfl ?_
                    refine v_goto (tgt := 59) dX4_isItem_55 (by decide) ?_
                    refine v_zret dX4_isItem_59 rfl (Or.inr rfl) ?_
                    refine ⟨?_, rfl⟩
                    rw [bI_t (by omega)]; rfl
set_option maxRecDepth 100000 in
theorem l_dig (hx : xR M0 tx t) (ho : xOK tx t) {q : Nat} (hq : q < t) (d : Nat) : ∀ (e : Nat) (v : Nat) (M : vM), e + d = t → nz M0 M → M 60 13 = nI q → M 60 12 = nI e → M 60 15 = nI v → v < 1000 → q ≤ e → V kX4_next (fun v' M' => v' = none ∧ nz M0 M' ∧ M' 60 13 = nI q ∧ M' 60 12 = nI (dgN (uF tx) d e v).1 ∧ M' 60 15 = nI (dgN (uF tx) d e v).2 ∧ M' 60 14 = nI (if 99 < (dgN (uF tx) d e v).2 ∨ (uF tx q = 48 ∧ q + 1 < (dgN (uF tx) d e v).1) then 2 else 1)) M 89 [(0, .ref 60)] [] := by
  have ht := ho.1
  induction d with
  | zero =>
    intro e v M hk hz h13 h12 h15 hv hqe
    refine v_aload_n dX4_next_89 rfl ?_
    refine v_getI2 (y := (nI e)) dX4_next_90 fl_X4_188 ⟨by decide, rfl, by decide⟩ rfl (h12) ?_
    refine v_aload_n dX4_next_93 rfl ?_
    refine v_getI2 (y := (nI t)) dX4_next_94 fl_X4_185 ⟨by decide, rfl, by decide⟩ rfl ((hz.2 11 (by decide)).trans hx.1) ?_
    refine v_icmpN_ge (tgt := 172) dX4_next_97 (by decide) (by omega) (by omega) (fun c97 => ?_) (fun c97 => (by omega))
    refine v_aload_n dX4_next_172 rfl ?_
    refine v_aload_n dX4_next_173 rfl ?_
    refine v_getI2 (y := (nI v)) dX4_next_174 fl_X4_194 ⟨by decide, rfl, by decide⟩ rfl (h15) ?_
    refine v_bipush (v := (nI 99)) dX4_next_177 rfl ?_
    refine v_icmpN_gt (tgt := 209) dX4_next_179 (by decide) (by omega) (by omega) (fun c179 => ?_) (fun c179 => ?_)
    · refine v_iconst (v := (nI 2)) dX4_next_209 rfl ?_
      refine v_goto (tgt := 214) dX4_next_210 (by decide) ?_
      refine v_putI dX4_next_214 fl_X4_197 ⟨by decide, rfl, by decide⟩ rfl rfl rfl ?_
      refine v_goto (tgt := 276) dX4_next_217 (by decide) ?_
      refine v_vret dX4_next_276 rfl ?_
      have hd9 : dgN (uF tx) 0 e v = (e, v) := rfl
      refine ⟨rfl, nz_up hz (by decide), ?_, ?_, ?_, ?_⟩
      · rw [mup_eq]; simp only [upd]; rw [if_neg (by decide)]; exact h13
      · rw [mup_eq, hd9]; simp only [upd]; rw [if_neg (by decide)]; exact h12
      · rw [mup_eq, hd9]; simp only [upd]; rw [if_neg (by decide)]; exact h15
      · rw [mup_eq, hd9]; simp only [upd, if_true]; rw [if_pos (by omega)]
    · refine v_aload_n dX4_next_182 rfl ?_
      refine v_getR (t := 70) dX4_next_183 fl_X4_38 ⟨by decide, rfl, by decide⟩ rfl rfl ?_
      refine v_aload_n dX4_next_186 rfl ?_
      refine v_getI2 (y := (nI q)) dX4_next_187 fl_X4_191 ⟨by decide, rfl, by decide⟩ rfl (h13) ?_
      refine v_iald2 (n := 160) (a := q) (y := (nI (uF tx q))) dX4_next_190 ⟨by decide, rfl, rfl⟩ (rfl) (by omega) ((congrFun (hz.1 70 (by decide)) _).trans ((hx.2 _ (by omega)).trans (ho.2 _ (by omega)).1)) ?_
      refine v_bipush (v := (nI 48)) dX4_next_191 rfl ?_
      refine v_icmpN_ne (tgt := 213) dX4_next_193 (by decide) (by have := (ho.2 q (by omega)).2; omega) (by omega) (fun c193 => ?_) (fun c193 => ?_)
      · refine v_iconst (v := (nI 1)) dX4_next_213 rfl ?_
        refine v_putI dX4_next_214 fl_X4_197 ⟨by decide, rfl, by decide⟩ rfl rfl rfl ?_
        refine v_goto (tgt := 276) dX4_next_217 (by decide) ?_
        refine v_vret dX4_next_276 rfl ?_
        have hd9 : dgN (uF tx) 0 e v = (e, v) := rfl
        refine ⟨rfl, nz_up hz (by decide), ?_, ?_, ?_, ?_⟩
        · rw [mup_eq]; simp only [upd]; rw [if_neg (by decide)]; exact h13
        · rw [mup_eq, hd9]; simp only [upd]; rw [if_neg (by decide)]; exact h12
        · rw [mup_eq, hd9]; simp only [upd]; rw [if_neg (by decide)]; exact h15
        · rw [mup_eq, hd9]; simp only [upd, if_true]; rw [if_neg (by omega)]
      · refine v_aload_n dX4_next_196 rfl ?_
        refine v_getI2 (y := (nI e)) dX4_next_197 fl_X4_188 ⟨by decide, rfl, by decide⟩ rfl (h12) ?_
        refine v_aload_n dX4_next_200 rfl ?_
        refine v_getI2 (y := (nI q)) dX4_next_201 fl_X4_191 ⟨by decide, rfl, by decide⟩ rfl (h13) ?_
        refine v_isubN dX4_next_204 (by omega) ?_
        refine v_iconst (v := (nI 1)) dX4_next_205 rfl ?_
        refine v_icmpN_le (tgt := 213) dX4_next_206 (by decide) (by omega) (by omega) (fun c206 => ?_) (fun c206 => ?_)
        · refine v_iconst (v := (nI 1)) dX4_next_213 rfl ?_
          refine v_putI dX4_next_214 fl_X4_197 ⟨by decide, rfl, by decide⟩ rfl rfl rfl ?_
          refine v_goto (tgt := 276) dX4_next_217 (by decide) ?_
          refine v_vret dX4_next_276 rfl ?_
          have hd9 : dgN (uF tx) 0 e v = (e, v) := rfl
          refine ⟨rfl, nz_up hz (by decide), ?_, ?_, ?_, ?_⟩
          · rw [mup_eq]; simp only [upd]; rw [if_neg (by decide)]; exact h13
          · rw [mup_eq, hd9]; simp only [upd]; rw [if_neg (by decide)]; exact h12
          · rw [mup_eq, hd9]; simp only [upd]; rw [if_neg (by decide)]; exact h15
          · rw [mup_eq, hd9]; simp only [upd, if_true]; rw [if_neg (by omega)]
        · refine v_iconst (v := (nI 2)) dX4_next_209 rfl ?_
          refine v_goto (tgt := 214) dX4_next_210 (by decide) ?_
          refine v_putI dX4_next_214 fl_X4_197 ⟨by decide, rfl, by decide⟩ rfl rfl rfl ?_
          refine v_goto (tgt := 276) dX4_next_217 (by decide) ?_
          refine v_vret dX4_next_276 rfl ?_
          have hd9 : dgN (uF tx) 0 e v = (e, v) := rfl
          refine ⟨rfl, nz_up hz (by decide), ?_, ?_, ?_, ?_⟩
          · rw [mup_eq]; simp only [upd]; rw [if_neg (by decide)]; exact h13
          · rw [mup_eq, hd9]; simp only [upd]; rw [if_neg (by decide)]; exact h12
          · rw [mup_eq, hd9]; simp only [upd]; rw [if_neg (by decide)]; exact h15
          · rw [mup_eq, hd9]; simp only [upd, if_true]; rw [if_pos (by omega)]
  | succ d ih =>
    intro e v M hk hz h13 h12 h15 hv hqe
    refine v_aload_n dX4_next_89 rfl ?_
    refine v_getI2 (y := (nI e)) dX4_next_90 fl_X4_188 ⟨by decide, rfl, by decide⟩ rfl (h12) ?_
    refine v_aload_n dX4_next_93 rfl ?_
    refine v_getI2 (y := (nI t)) dX4_next_94 fl_X4_185 ⟨by decide, rfl, by decide⟩ rfl ((hz.2 11 (by decide)).trans hx.1) ?_
    refine v_icmpN_ge (tgt := 172) dX4_next_97 (by decide) (by omega) (by omega) (fun c97 => (by omega)) (fun c97 => ?_)
    refine v_aload_n dX4_next_100 rfl ?_
    refine v_getR (t := 70) dX4_next_101 fl_X4_38 ⟨by decide, rfl, by decide⟩ rfl rfl ?_
    refine v_aload_n dX4_next_104 rfl ?_
    refine v_getI2 (y := (nI e)) dX4_next_105 fl_X4_188 ⟨by decide, rfl, by decide⟩ rfl (h12) ?_
    refine v_iald2 (n := 160) (a := e) (y := (nI (uF tx e))) dX4_next_108 ⟨by decide, rfl, rfl⟩ (rfl) (by omega) ((congrFun (hz.1 70 (by decide)) _).trans ((hx.2 _ (by omega)).trans (ho.2 _ (by omega)).1)) ?_
    refine v_bipush (v := (nI 48)) dX4_next_109 rfl ?_
    refine v_bipush (v := (nI 57)) dX4_next_111 rfl ?_
    refine v_callSr (x := .int (bI (48 ≤ uF tx e ∧ uF tx e ≤ 57))) (M1 := M) (as := [.int (nI (uF tx e)), .int (nI 48), .int (nI 57)]) (st := []) dX4_next_113 ml_X4_56 ks_X4_in ⟨(Nat.le_of_ble_eq_true rfl), (Nat.le_of_ble_eq_true rfl)⟩ rfl (Nat.le_of_ble_eq_true rfl) rfl (Nat.le_of_ble_eq_true rfl) (c_inN (by have := (ho.2 e (by omega)).2; omega) (by decide) (by decide)) ?_
    refine v_ifB_eq (tgt := 172) dX4_next_116 (by decide) (fun c116 => ?_) (fun c116 => ?_)
    · refine v_aload_n dX4_next_172 rfl ?_
      refine v_aload_n dX4_next_173 rfl ?_
      refine v_getI2 (y := (nI v)) dX4_next_174 fl_X4_194 ⟨by decide, rfl, by decide⟩ rfl (h15) ?_
      refine v_bipush (v := (nI 99)) dX4_next_177 rfl ?_
      refine v_icmpN_gt (tgt := 209) dX4_next_179 (by decide) (by omega) (by omega) (fun c179 => ?_) (fun c179 => ?_)
      · refine v_iconst (v := (nI 2)) dX4_next_209 rfl ?_
        refine v_goto (tgt := 214) dX4_next_210 (by decide) ?_
        refine v_putI dX4_next_214 fl_X4_197 ⟨by decide, rfl, by decide⟩ rfl rfl rfl ?_
        refine v_goto (tgt := 276) dX4_next_217 (by decide) ?_
        refine v_vret dX4_next_276 rfl ?_
        have hd9 : dgN (uF tx) (d + 1) e v = (e, v) := by simp only [dgN]; rw [if_neg c116]
        refine ⟨rfl, nz_up hz (by decide), ?_, ?_, ?_, ?_⟩
        · rw [mup_eq]; simp only [upd]; rw [if_neg (by decide)]; exact h13
        · rw [mup_eq, hd9]; simp only [upd]; rw [if_neg (by decide)]; exact h12
        · rw [mup_eq, hd9]; simp only [upd]; rw [if_neg (by decide)]; exact h15
        · rw [mup_eq, hd9]; simp only [upd, if_true]; rw [if_pos (by omega)]
      · refine v_aload_n dX4_next_182 rfl ?_
        refine v_getR (t := 70) dX4_next_183 fl_X4_38 ⟨by decide, rfl, by decide⟩ rfl rfl ?_
        refine v_aload_n dX4_next_186 rfl ?_
        refine v_getI2 (y := (nI q)) dX4_next_187 fl_X4_191 ⟨by decide, rfl, by decide⟩ rfl (h13) ?_
        refine v_iald2 (n := 160) (a := q) (y := (nI (uF tx q))) dX4_next_190 ⟨by decide, rfl, rfl⟩ (rfl) (by omega) ((congrFun (hz.1 70 (by decide)) _).trans ((hx.2 _ (by omega)).trans (ho.2 _ (by omega)).1)) ?_
        refine v_bipush (v := (nI 48)) dX4_next_191 rfl ?_
        refine v_icmpN_ne (tgt := 213) dX4_next_193 (by decide) (by have := (ho.2 q (by omega)).2; omega) (by omega) (fun c193 => ?_) (fun c193 => ?_)
        · refine v_iconst (v := (nI 1)) dX4_next_213 rfl ?_
          refine v_putI dX4_next_214 fl_X4_197 ⟨by decide, rfl, by decide⟩ rfl rfl rfl ?_
          refine v_goto (tgt := 276) dX4_next_217 (by decide) ?_
          refine v_vret dX4_next_276 rfl ?_
          have hd9 : dgN (uF tx) (d + 1) e v = (e, v) := by simp only [dgN]; rw [if_neg c116]
          refine ⟨rfl, nz_up hz (by decide), ?_, ?_, ?_, ?_⟩
          · rw [mup_eq]; simp only [upd]; rw [if_neg (by decide)]; exact h13
          · rw [mup_eq, hd9]; simp only [upd]; rw [if_neg (by decide)]; exact h12
          · rw [mup_eq, hd9]; simp only [upd]; rw [if_neg (by decide)]; exact h15
          · rw [mup_eq, hd9]; simp only [upd, if_true]; rw [if_neg (by omega)]
        · refine v_aload_n dX4_next_196 rfl ?_
          refine v_getI2 (y := (nI e)) dX4_next_197 fl_X4_188 ⟨by decide, rfl, by decide⟩ rfl (h12) ?_
          refine v_aload_n dX4_next_200 rfl ?_
          refine v_getI2 (y := (nI q)) dX4_next_201 fl_X4_191 ⟨by decide, rfl, by decide⟩ rfl (h13) ?_
          refine v_isubN dX4_next_204 (by omega) ?_
          refine v_iconst (v := (nI 1)) dX4_next_205 rfl ?_
          refine v_icmpN_le (tgt := 213) dX4_next_206 (by decide) (by omega) (by omega) (fun c206 => ?_) (fun c206 => ?_)
          · refine v_iconst (v := (nI 1)) dX4_next_213 rfl ?_
            refine v_putI dX4_next_214 fl_X4_197 ⟨by decide, rfl, by decide⟩ rfl rfl rfl ?_
            refine v_goto (tgt := 276) dX4_next_217 (by decide) ?_
            refine v_vret dX4_next_276 rfl ?_
            have hd9 : dgN (uF tx) (d + 1) e v = (e, v) := by simp only [dgN]; rw [if_neg c116]
            refine ⟨rfl, nz_up hz (by decide), ?_, ?_, ?_, ?_⟩
            · rw [mup_eq]; simp only [upd]; rw [if_neg (by decide)]; exact h13
            · rw [mup_eq, hd9]; simp only [upd]; rw [if_neg (by decide)]; exact h12
            · rw [mup_eq, hd9]; simp only [upd]; rw [if_neg (by decide)]; exact h15
            · rw [mup_eq, hd9]; simp only [upd, if_true]; rw [if_neg (by omega)]
          · refine v_iconst (v := (nI 2)) dX4_next_209 rfl ?_
            refine v_goto (tgt := 214) dX4_next_210 (by decide) ?_
            refine v_putI dX4_next_214 fl_X4_197 ⟨by decide, rfl, by decide⟩ rfl rfl rfl ?_
            refine v_goto (tgt := 276) dX4_next_217 (by decide) ?_
            refine v_vret dX4_next_276 rfl ?_
            have hd9 : dgN (uF tx) (d + 1) e v = (e, v) := by simp only [dgN]; rw [if_neg c116]
            refine ⟨rfl, nz_up hz (by decide), ?_, ?_, ?_, ?_⟩
            · rw [mup_eq]; simp only [upd]; rw [if_neg (by decide)]; exact h13
            · rw [mup_eq, hd9]; simp only [upd]; rw [if_neg (by decide)]; exact h12
            · rw [mup_eq, hd9]; simp only [upd]; rw [if_neg (by decide)]; exact h15
            · rw [mup_eq, hd9]; simp only [upd, if_true]; rw [if_pos (by omega)]
    · refine v_aload_n dX4_next_119 rfl ?_
      refine v_aload_n dX4_next_120 rfl ?_
      refine v_getI2 (y := (nI v)) dX4_next_121 fl_X4_194 ⟨by decide, rfl, by decide⟩ rfl (h15) ?_
      refine v_bipush (v := (nI 99)) dX4_next_124 rfl ?_
      refine v_icmpN_le (tgt := 136) dX4_next_126 (by decide) (by omega) (by omega) (fun c126 => ?_) (fun c126 => ?_)
      · refine v_bipush (v := (nI 10)) dX4_next_136 rfl ?_
        refine v_aload_n dX4_next_138 rfl ?_
        refine v_getI2 (y := (nI v)) dX4_next_139 fl_X4_194 ⟨by decide, rfl, by decide⟩ rfl (h15) ?_
        refine v_imulN dX4_next_142 ?_
        refine v_aload_n dX4_next_143 rfl ?_
        refine v_getR (t := 70) dX4_next_144 fl_X4_38 ⟨by decide, rfl, by decide⟩ rfl rfl ?_
        refine v_aload_n dX4_next_147 rfl ?_
        refine v_getI2 (y := (nI e)) dX4_next_148 fl_X4_188 ⟨by decide, rfl, by decide⟩ rfl (h12) ?_
        refine v_iald2 (n := 160) (a := e) (y := (nI (uF tx e))) dX4_next_151 ⟨by decide, rfl, rfl⟩ (rfl) (by omega) ((congrFun (hz.1 70 (by decide)) _).trans ((hx.2 _ (by omega)).trans (ho.2 _ (by omega)).1)) ?_
        refine v_iaddN dX4_next_152 ?_
        refine v_bipush (v := (nI 48)) dX4_next_153 rfl ?_
        refine v_isubN dX4_next_155 (by omega) ?_
        refine v_top (y := (nI (dgV v (uF tx e)))) (by simp only [dgV]; first | rw [if_pos (by omega)] | rw [if_neg (by omega)]) ?_
        refine v_putI dX4_next_156 fl_X4_194 ⟨by decide, rfl, by decide⟩ rfl rfl rfl ?_
        refine v_aload_n dX4_next_159 rfl ?_
        refine v_dup dX4_next_160 rfl ?_
        refine v_getI2 (y := (nI e)) dX4_next_161 fl_X4_188 ⟨by decide, rfl, by decide⟩ rfl (by rw [mup_eq]; simp only [upd]; rw [if_neg (by decide)]; exact h12) ?_
        refine v_iconst (v := (nI 1)) dX4_next_164 rfl ?_
        refine v_iaddN dX4_next_165 ?_
        refine v_putI dX4_next_166 fl_X4_188 ⟨by decide, rfl, by decide⟩ rfl rfl rfl ?_
        refine v_goto (tgt := 89) dX4_next_169 (by decide) ?_
        have hs9 : dgN (uF tx) (d + 1) e v = dgN (uF tx) d (e + 1) (dgV v (uF tx e)) := by simp only [dgN]; rw [if_pos c116]
        rw [hs9]
        have hv9 : dgV v (uF tx e) < 1000 := by unfold dgV; split <;> omega
        refine ih (e + 1) (dgV v (uF tx e)) _ (by omega) (nz_up (nz_up hz (by decide)) (by decide)) ?_ ?_ ?_ hv9 (by omega)
        · rw [mup_eq]; simp only [upd]; rw [if_neg (by decide), mup_eq]; simp only [upd]; rw [if_neg (by decide)]; exact h13
        · rw [mup_eq]; simp [upd]
        · rw [mup_eq]; simp only [upd]; rw [if_neg (by decide), mup_eq]; simp [upd]
      · refine v_aload_n dX4_next_129 rfl ?_
        refine v_getI2 (y := (nI v)) dX4_next_130 fl_X4_194 ⟨by decide, rfl, by decide⟩ rfl (h15) ?_
        refine v_goto (tgt := 156) dX4_next_133 (by decide) ?_
        refine v_top (y := (nI (dgV v (uF tx e)))) (by simp only [dgV]; first | rw [if_pos (by omega)] | rw [if_neg (by omega)]) ?_
        refine v_putI dX4_next_156 fl_X4_194 ⟨by decide, rfl, by decide⟩ rfl rfl rfl ?_
        refine v_aload_n dX4_next_159 rfl ?_
        refine v_dup dX4_next_160 rfl ?_
        refine v_getI2 (y := (nI e)) dX4_next_161 fl_X4_188 ⟨by decide, rfl, by decide⟩ rfl (by rw [mup_eq]; simp only [upd]; rw [if_neg (by decide)]; exact h12) ?_
        refine v_iconst (v := (nI 1)) dX4_next_164 rfl ?_
        refine v_iaddN dX4_next_165 ?_
        refine v_putI dX4_next_166 fl_X4_188 ⟨by decide, rfl, by decide⟩ rfl rfl rfl ?_
        refine v_goto (tgt := 89) dX4_next_169 (by decide) ?_
        have hs9 : dgN (uF tx) (d + 1) e v = dgN (uF tx) d (e + 1) (dgV v (uF tx e)) := by simp only [dgN]; rw [if_pos c116]
        rw [hs9]
        have hv9 : dgV v (uF tx e) < 1000 := by unfold dgV; split <;> omega
        refine ih (e + 1) (dgV v (uF tx e)) _ (by omega) (nz_up (nz_up hz (by decide)) (by decide)) ?_ ?_ ?_ hv9 (by omega)
        · rw [mup_eq]; simp only [upd]; rw [if_neg (by decide), mup_eq]; simp only [upd]; rw [if_neg (by decide)]; exact h13
        · rw [mup_eq]; simp [upd]
        · rw [mup_eq]; simp only [upd]; rw [if_neg (by decide), mup_eq]; simp [upd]
theorem TK_end {M M0 : vM} {tx : Nat → Int32} {t p0 p : Nat} (hz : nz M0 M) (hpl : tPl (uF tx) t p0 = p) (h12 : M 60 12 = nI p) {tk nx : Nat} (hn : tNx (uF tx) t p0 = nx) (hk : tTk (uF tx) t p0 = tk) (hv : tVl (uF tx) t p0 = 0) : nz M0 (mup (mup (mup (mup M 60 13 (nI p)) 60 15 (nI 0)) 60 14 (nI tk)) 60 12 (nI nx)) ∧ TK (mup (mup (mup (mup M 60 13 (nI p)) 60 15 (nI 0)) 60 14 (nI tk)) 60 12 (nI nx)) (uF tx) t p0 := by
  refine ⟨nz_up (nz_up (nz_up (nz_up hz (by decide)) (by decide)) (by decide)) (by decide), ?_, ?_, ?_, ?_⟩
  · rw [hn, mup_eq]; simp [upd]
  · rw [hpl]; simp [mup, upd]
  · rw [hk]; simp [mup, upd]
  · rw [hv]; simp [mup, upd]
theorem TK_end0 {M M0 : vM} {tx : Nat → Int32} {t p0 p : Nat} (hz : nz M0 M) (hpl : tPl (uF tx) t p0 = p) (h12 : M 60 12 = nI p) (hp : p = t) : nz M0 (mup (mup (mup M 60 13 (nI p)) 60 15 (nI 0)) 60 14 (nI 0)) ∧ TK (mup (mup (mup M 60 13 (nI p)) 60 15 (nI 0)) 60 14 (nI 0)) (uF tx) t p0 := by
  refine ⟨nz_up (nz_up (nz_up hz (by decide)) (by decide)) (by decide), ?_, ?_, ?_, ?_⟩
  · rw [show tNx (uF tx) t p0 = t by unfold tNx; rw [if_pos (by omega)]]; simp [mup, upd, h12, hp]
  · rw [hpl]; simp [mup, upd]
  · rw [show tTk (uF tx) t p0 = 0 by unfold tTk; rw [if_pos (by omega)]]; simp [mup, upd]
  · rw [show tVl (uF tx) t p0 = 0 by unfold tVl; rw [if_pos (by omega)]]; simp [mup, upd]
set_option maxRecDepth 100000 in
theorem l_next (hx : xR M0 tx t) (ho : xOK tx t) {p0 : Nat} (d : Nat) : ∀ (p : Nat) (M : vM), p + d = t → nz M0 M → M 60 12 = nI p → tPl (uF tx) t p0 = skN (uF tx) d p → V kX4_next (fun v' M' => v' = none ∧ nz M0 M' ∧ TK M' (uF tx) t p0) M 0 [(0, .ref 60)] [] := by
  have ht := ho.1
  induction d with
  | zero =>
    intro p M hk hz h12 hsk
    refine v_aload_n dX4_next_0 rfl ?_
    refine v_getI2 (y := (nI p)) dX4_next_1 fl_X4_188 ⟨by decide, rfl, by decide⟩ rfl (h12) ?_
    refine v_aload_n dX4_next_4 rfl ?_
    refine v_getI2 (y := (nI t)) dX4_next_5 fl_X4_185 ⟨by decide, rfl, by decide⟩ rfl ((hz.2 11 (by decide)).trans hx.1) ?_
    refine v_icmpN_ge (tgt := 38) dX4_next_8 (by decide) (by omega) (by omega) (fun c8 => ?_) (fun c8 => (by omega))
    have hpl : tPl (uF tx) t p0 = p := hsk
    refine v_aload_n dX4_next_38 rfl ?_
    refine v_aload_n dX4_next_39 rfl ?_
    refine v_getI2 (y := (nI p)) dX4_next_40 fl_X4_188 ⟨by decide, rfl, by decide⟩ rfl (h12) ?_
    refine v_putI dX4_next_43 fl_X4_191 ⟨by decide, rfl, by decide⟩ rfl rfl rfl ?_
    refine v_aload_n dX4_next_46 rfl ?_
    refine v_iconst (v := (nI 0)) dX4_next_47 rfl ?_
    refine v_putI dX4_next_48 fl_X4_194 ⟨by decide, rfl, by decide⟩ rfl rfl rfl ?_
    refine v_aload_n dX4_next_51 rfl ?_
    refine v_getI2 (y := (nI p)) dX4_next_52 fl_X4_188 ⟨by decide, rfl, by decide⟩ rfl (by rw [mup_eq]; simp only [upd]; rw [if_neg (by decide), mup_eq]; simp only [upd]; rw [if_neg (by decide)]; exact h12) ?_
    refine v_aload_n dX4_next_55 rfl ?_
    refine v_getI2 (y := (nI t)) dX4_next_56 fl_X4_185 ⟨by decide, rfl, by decide⟩ rfl (by rw [mup_eq]; simp only [upd]; rw [if_neg (by decide), mup_eq]; simp only [upd]; rw [if_neg (by decide)]; exact (hz.2 11 (by decide)).trans hx.1) ?_
    refine v_icmpN_ne (tgt := 70) dX4_next_59 (by decide) (by omega) (by omega) (fun c59 => ?_) (fun c59 => ?_)
    · refine v_aload_n dX4_next_70 rfl ?_
      refine v_getR (t := 70) dX4_next_71 fl_X4_38 ⟨by decide, rfl, by decide⟩ rfl rfl ?_
      refine v_aload_n dX4_next_74 rfl ?_
      refine v_getI2 (y := (nI p)) dX4_next_75 fl_X4_188 ⟨by decide, rfl, by decide⟩ rfl (by rw [mup_eq]; simp only [upd]; rw [if_neg (by decide), mup_eq]; simp only [upd]; rw [if_neg (by decide)]; exact h12) ?_
      refine v_iald2 (n := 160) (a := p) (y := (nI (uF tx p))) dX4_next_78 ⟨by decide, rfl, rfl⟩ (rfl) (by omega) (by rw [mup_ne (by decide), mup_ne (by decide)]; exact (congrFun (hz.1 70 (by decide)) _).trans ((hx.2 _ (by omega)).trans (ho.2 _ (by omega)).1)) ?_
      refine v_bipush (v := (nI 48)) dX4_next_79 rfl ?_
      refine v_bipush (v := (nI 57)) dX4_next_81 rfl ?_
      refine v_callSr (x := .int (bI (48 ≤ uF tx p ∧ uF tx p ≤ 57))) (M1 := mup (mup M 60 13 ((nI p))) 60 15 ((nI 0))) (as := [.int (nI (uF tx p)), .int (nI 48), .int (nI 57)]) (st := []) dX4_next_83 ml_X4_56 ks_X4_in ⟨(Nat.le_of_ble_eq_true rfl), (Nat.le_of_ble_eq_true rfl)⟩ rfl (Nat.le_of_ble_eq_true rfl) rfl (Nat.le_of_ble_eq_true rfl) (c_inN (by have := (ho.2 p (by omega)).2; omega) (by decide) (by decide)) ?_
      refine v_ifB_eq (tgt := 220) dX4_next_86 (by decide) (fun c86 => ?_) (fun c86 => ?_)
      · refine v_aload_n dX4_next_220 rfl ?_
        refine v_aload_n dX4_next_221 rfl ?_
        refine v_getR (t := 70) dX4_next_222 fl_X4_38 ⟨by decide, rfl, by decide⟩ rfl rfl ?_
        refine v_aload_n dX4_next_225 rfl ?_
        refine v_getI2 (y := (nI p)) dX4_next_226 fl_X4_188 ⟨by decide, rfl, by decide⟩ rfl (by rw [mup_eq]; simp only [upd]; rw [if_neg (by decide), mup_eq]; simp only [upd]; rw [if_neg (by decide)]; exact h12) ?_
        refine v_iald2 (n := 160) (a := p) (y := (nI (uF tx p))) dX4_next_229 ⟨by decide, rfl, rfl⟩ (rfl) (by omega) (by rw [mup_ne (by decide), mup_ne (by decide)]; exact (congrFun (hz.1 70 (by decide)) _).trans ((hx.2 _ (by omega)).trans (ho.2 _ (by omega)).1)) ?_
        refine v_callSr (x := .int (bI (isIt (uF tx p)))) (M1 := mup (mup M 60 13 ((nI p))) 60 15 ((nI 0))) (as := [.int (nI (uF tx p))]) (st := [.ref 60]) dX4_next_230 ml_X4_200 ks_X4_isItem ⟨(Nat.le_of_ble_eq_true rfl), (Nat.le_of_ble_eq_true rfl)⟩ rfl (Nat.le_of_ble_eq_true rfl) rfl (Nat.le_of_ble_eq_true rfl) (c_isItem (by have := (ho.2 p (by omega)).2; omega)) ?_
        refine v_ifB_ne (tgt := 250) dX4_next_233 (by decide) (fun c233 => ?_) (fun c233 => ?_)
        · refine v_aload_n dX4_next_250 rfl ?_
          refine v_getR (t := 70) dX4_next_251 fl_X4_38 ⟨by decide, rfl, by decide⟩ rfl rfl ?_
          refine v_aload_n dX4_next_254 rfl ?_
          refine v_getI2 (y := (nI p)) dX4_next_255 fl_X4_188 ⟨by decide, rfl, by decide⟩ rfl (by rw [mup_eq]; simp only [upd]; rw [if_neg (by decide), mup_eq]; simp only [upd]; rw [if_neg (by decide)]; exact h12) ?_
          refine v_iald2 (n := 160) (a := p) (y := (nI (uF tx p))) dX4_next_258 ⟨by decide, rfl, rfl⟩ (rfl) (by omega) (by rw [mup_ne (by decide), mup_ne (by decide)]; exact (congrFun (hz.1 70 (by decide)) _).trans ((hx.2 _ (by omega)).trans (ho.2 _ (by omega)).1)) ?_
          refine v_goto (tgt := 263) dX4_next_259 (by decide) ?_
          refine v_putI dX4_next_263 fl_X4_197 ⟨by decide, rfl, by decide⟩ rfl rfl rfl ?_
          refine v_aload_n dX4_next_266 rfl ?_
          refine v_dup dX4_next_267 rfl ?_
          refine v_getI2 (y := (nI p)) dX4_next_268 fl_X4_188 ⟨by decide, rfl, by decide⟩ rfl (by rw [mup_eq]; simp only [upd]; rw [if_neg (by decide)]; exact by rw [mup_eq]; simp only [upd]; rw [if_neg (by decide), mup_eq]; simp only [upd]; rw [if_neg (by decide)]; exact h12) ?_
          refine v_iconst (v := (nI 1)) dX4_next_271 rfl ?_
          refine v_iaddN dX4_next_272 ?_
          refine v_putI dX4_next_273 fl_X4_188 ⟨by decide, rfl, by decide⟩ rfl rfl rfl ?_
          refine v_vret dX4_next_276 rfl ?_
          exact ⟨rfl, TK_end hz hpl h12 (by unfold tNx; rw [hpl, if_neg c59, if_neg c86]) (by unfold tTk; rw [hpl, if_neg c59, if_neg c86]; rw [if_pos (by first | exact Or.inl c233 | exact Or.inr c247)]) (by unfold tVl; rw [hpl, if_neg c59, if_neg c86])⟩
        · refine v_aload_n dX4_next_236 rfl ?_
          refine v_getR (t := 70) dX4_next_237 fl_X4_38 ⟨by decide, rfl, by decide⟩ rfl rfl ?_
          refine v_aload_n dX4_next_240 rfl ?_
          refine v_getI2 (y := (nI p)) dX4_next_241 fl_X4_188 ⟨by decide, rfl, by decide⟩ rfl (by rw [mup_eq]; simp only [upd]; rw [if_neg (by decide), mup_eq]; simp only [upd]; rw [if_neg (by decide)]; exact h12) ?_
          refine v_iald2 (n := 160) (a := p) (y := (nI (uF tx p))) dX4_next_244 ⟨by decide, rfl, rfl⟩ (rfl) (by omega) (by rw [mup_ne (by decide), mup_ne (by decide)]; exact (congrFun (hz.1 70 (by decide)) _).trans ((hx.2 _ (by omega)).trans (ho.2 _ (by omega)).1)) ?_
          refine v_bipush (v := (nI 59)) dX4_next_245 rfl ?_
          refine v_icmpN_ne (tgt := 262) dX4_next_247 (by decide) (by have := (ho.2 p (by omega)).2; omega) (by omega) (fun c247 => ?_) (fun c247 => ?_)
          · refine v_iconst (v := (nI 2)) dX4_next_262 rfl ?_
            refine v_putI dX4_next_263 fl_X4_197 ⟨by decide, rfl, by decide⟩ rfl rfl rfl ?_
            refine v_aload_n dX4_next_266 rfl ?_
            refine v_dup dX4_next_267 rfl ?_
            refine v_getI2 (y := (nI p)) dX4_next_268 fl_X4_188 ⟨by decide, rfl, by decide⟩ rfl (by rw [mup_eq]; simp only [upd]; rw [if_neg (by decide)]; exact by rw [mup_eq]; simp only [upd]; rw [if_neg (by decide), mup_eq]; simp only [upd]; rw [if_neg (by decide)]; exact h12) ?_
            refine v_iconst (v := (nI 1)) dX4_next_271 rfl ?_
            refine v_iaddN dX4_next_272 ?_
            refine v_putI dX4_next_273 fl_X4_188 ⟨by decide, rfl, by decide⟩ rfl rfl rfl ?_
            refine v_vret dX4_next_276 rfl ?_
            exact ⟨rfl, TK_end hz hpl h12 (by unfold tNx; rw [hpl, if_neg c59, if_neg c86]) (by unfold tTk; rw [hpl, if_neg c59, if_neg c86]; rw [if_neg (by intro q9; rcases q9 with q9 | q9; exact c233 q9; exact c247 q9)]) (by unfold tVl; rw [hpl, if_neg c59, if_neg c86])⟩
          · refine v_aload_n dX4_next_250 rfl ?_
            refine v_getR (t := 70) dX4_next_251 fl_X4_38 ⟨by decide, rfl, by decide⟩ rfl rfl ?_
            refine v_aload_n dX4_next_254 rfl ?_
            refine v_getI2 (y := (nI p)) dX4_next_255 fl_X4_188 ⟨by decide, rfl, by decide⟩ rfl (by rw [mup_eq]; simp only [upd]; rw [if_neg (by decide), mup_eq]; simp only [upd]; rw [if_neg (by decide)]; exact h12) ?_
            refine v_iald2 (n := 160) (a := p) (y := (nI (uF tx p))) dX4_next_258 ⟨by decide, rfl, rfl⟩ (rfl) (by omega) (by rw [mup_ne (by decide), mup_ne (by decide)]; exact (congrFun (hz.1 70 (by decide)) _).trans ((hx.2 _ (by omega)).trans (ho.2 _ (by omega)).1)) ?_
            refine v_goto (tgt := 263) dX4_next_259 (by decide) ?_
            refine v_putI dX4_next_263 fl_X4_197 ⟨by decide, rfl, by decide⟩ rfl rfl rfl ?_
            refine v_aload_n dX4_next_266 rfl ?_
            refine v_dup dX4_next_267 rfl ?_
            refine v_getI2 (y := (nI p)) dX4_next_268 fl_X4_188 ⟨by decide, rfl, by decide⟩ rfl (by rw [mup_eq]; simp only [upd]; rw [if_neg (by decide)]; exact by rw [mup_eq]; simp only [upd]; rw [if_neg (by decide), mup_eq]; simp only [upd]; rw [if_neg (by decide)]; exact h12) ?_
            refine v_iconst (v := (nI 1)) dX4_next_271 rfl ?_
            refine v_iaddN dX4_next_272 ?_
            refine v_putI dX4_next_273 fl_X4_188 ⟨by decide, rfl, by decide⟩ rfl rfl rfl ?_
            refine v_vret dX4_next_276 rfl ?_
            exact ⟨rfl, TK_end hz hpl h12 (by unfold tNx; rw [hpl, if_neg c59, if_neg c86]) (by unfold tTk; rw [hpl, if_neg c59, if_neg c86]; rw [if_pos (by first | exact Or.inl c233 | exact Or.inr c247)]) (by unfold tVl; rw [hpl, if_neg c59, if_neg c86])⟩
      · refine v_post ?_ (l_dig (M0 := M0) hx ho (q := p) (by omega) (t - p) p 0 _ (by omega) (nz_up (nz_up hz (by decide)) (by decide)) (by simp [mup, upd]) (by simp [mup, upd, h12]) (by simp [mup, upd]) (by omega) (Nat.le_refl _))
        rintro v' M' ⟨rfl, g1, g2, g3, g4, g5⟩
        have hvl : tVl (uF tx) t p0 = (dgN (uF tx) (t - p) p 0).2 := by unfold tVl; rw [hpl, if_neg c59, if_pos c86]
        have hnx : tNx (uF tx) t p0 = (dgN (uF tx) (t - p) p 0).1 := by unfold tNx; rw [hpl, if_neg c59, if_pos c86]
        refine ⟨rfl, g1, ?_, ?_, ?_, ?_⟩
        · rw [hnx]; exact g3
        · rw [hpl]; exact g2
        · rw [g5]
          unfold tTk
          rw [hpl, if_neg c59, if_pos c86, hvl, hnx]
        · rw [hvl]; exact g4
    · refine v_aload_n dX4_next_62 rfl ?_
      refine v_iconst (v := (nI 0)) dX4_next_63 rfl ?_
      refine v_putI dX4_next_64 fl_X4_197 ⟨by decide, rfl, by decide⟩ rfl rfl rfl ?_
      refine v_goto (tgt := 276) dX4_next_67 (by decide) ?_
      refine v_vret dX4_next_276 rfl ?_
      exact ⟨rfl, TK_end0 hz hpl h12 c59⟩
  | succ d ih =>
    intro p M hk hz h12 hsk
    refine v_aload_n dX4_next_0 rfl ?_
    refine v_getI2 (y := (nI p)) dX4_next_1 fl_X4_188 ⟨by decide, rfl, by decide⟩ rfl (h12) ?_
    refine v_aload_n dX4_next_4 rfl ?_
    refine v_getI2 (y := (nI t)) dX4_next_5 fl_X4_185 ⟨by decide, rfl, by decide⟩ rfl ((hz.2 11 (by decide)).trans hx.1) ?_
    refine v_icmpN_ge (tgt := 38) dX4_next_8 (by decide) (by omega) (by omega) (fun c8 => (by omega)) (fun c8 => ?_)
    refine v_aload_n dX4_next_11 rfl ?_
    refine v_getR (t := 70) dX4_next_12 fl_X4_38 ⟨by decide, rfl, by decide⟩ rfl rfl ?_
    refine v_aload_n dX4_next_15 rfl ?_
    refine v_getI2 (y := (nI p)) dX4_next_16 fl_X4_188 ⟨by decide, rfl, by decide⟩ rfl (h12) ?_
    refine v_iald2 (n := 160) (a := p) (y := (nI (uF tx p))) dX4_next_19 ⟨by decide, rfl, rfl⟩ (rfl) (by omega) ((congrFun (hz.1 70 (by decide)) _).trans ((hx.2 _ (by omega)).trans (ho.2 _ (by omega)).1)) ?_
    refine v_bipush (v := (nI 32)) dX4_next_20 rfl ?_
    refine v_icmpN_ne (tgt := 38) dX4_next_22 (by decide) (by have := (ho.2 p (by omega)).2; omega) (by omega) (fun c22 => ?_) (fun c22 => ?_)
    · have hpl : tPl (uF tx) t p0 = p := by rw [hsk]; simp only [skN]; rw [if_neg c22]
      refine v_aload_n dX4_next_38 rfl ?_
      refine v_aload_n dX4_next_39 rfl ?_
      refine v_getI2 (y := (nI p)) dX4_next_40 fl_X4_188 ⟨by decide, rfl, by decide⟩ rfl (h12) ?_
      refine v_putI dX4_next_43 fl_X4_191 ⟨by decide, rfl, by decide⟩ rfl rfl rfl ?_
      refine v_aload_n dX4_next_46 rfl ?_
      refine v_iconst (v := (nI 0)) dX4_next_47 rfl ?_
      refine v_putI dX4_next_48 fl_X4_194 ⟨by decide, rfl, by decide⟩ rfl rfl rfl ?_
      refine v_aload_n dX4_next_51 rfl ?_
      refine v_getI2 (y := (nI p)) dX4_next_52 fl_X4_188 ⟨by decide, rfl, by decide⟩ rfl (by rw [mup_eq]; simp only [upd]; rw [if_neg (by decide), mup_eq]; simp only [upd]; rw [if_neg (by decide)]; exact h12) ?_
      refine v_aload_n dX4_next_55 rfl ?_
      refine v_getI2 (y := (nI t)) dX4_next_56 fl_X4_185 ⟨by decide, rfl, by decide⟩ rfl (by rw [mup_eq]; simp only [upd]; rw [if_neg (by decide), mup_eq]; simp only [upd]; rw [if_neg (by decide)]; exact (hz.2 11 (by decide)).trans hx.1) ?_
      refine v_icmpN_ne (tgt := 70) dX4_next_59 (by decide) (by omega) (by omega) (fun c59 => ?_) (fun c59 => ?_)
      · refine v_aload_n dX4_next_70 rfl ?_
        refine v_getR (t := 70) dX4_next_71 fl_X4_38 ⟨by decide, rfl, by decide⟩ rfl rfl ?_
        refine v_aload_n dX4_next_74 rfl ?_
        refine v_getI2 (y := (nI p)) dX4_next_75 fl_X4_188 ⟨by decide, rfl, by decide⟩ rfl (by rw [mup_eq]; simp only [upd]; rw [if_neg (by decide), mup_eq]; simp only [upd]; rw [if_neg (by decide)]; exact h12) ?_
        refine v_iald2 (n := 160) (a := p) (y := (nI (uF tx p))) dX4_next_78 ⟨by decide, rfl, rfl⟩ (rfl) (by omega) (by rw [mup_ne (by decide), mup_ne (by decide)]; exact (congrFun (hz.1 70 (by decide)) _).trans ((hx.2 _ (by omega)).trans (ho.2 _ (by omega)).1)) ?_
        refine v_bipush (v := (nI 48)) dX4_next_79 rfl ?_
        refine v_bipush (v := (nI 57)) dX4_next_81 rfl ?_
        refine v_callSr (x := .int (bI (48 ≤ uF tx p ∧ uF tx p ≤ 57))) (M1 := mup (mup M 60 13 ((nI p))) 60 15 ((nI 0))) (as := [.int (nI (uF tx p)), .int (nI 48), .int (nI 57)]) (st := []) dX4_next_83 ml_X4_56 ks_X4_in ⟨(Nat.le_of_ble_eq_true rfl), (Nat.le_of_ble_eq_true rfl)⟩ rfl (Nat.le_of_ble_eq_true rfl) rfl (Nat.le_of_ble_eq_true rfl) (c_inN (by have := (ho.2 p (by omega)).2; omega) (by decide) (by decide)) ?_
        refine v_ifB_eq (tgt := 220) dX4_next_86 (by decide) (fun c86 => ?_) (fun c86 => ?_)
        · refine v_aload_n dX4_next_220 rfl ?_
          refine v_aload_n dX4_next_221 rfl ?_
          refine v_getR (t := 70) dX4_next_222 fl_X4_38 ⟨by decide, rfl, by decide⟩ rfl rfl ?_
          refine v_aload_n dX4_next_225 rfl ?_
          refine v_getI2 (y := (nI p)) dX4_next_226 fl_X4_188 ⟨by decide, rfl, by decide⟩ rfl (by rw [mup_eq]; simp only [upd]; rw [if_neg (by decide), mup_eq]; simp only [upd]; rw [if_neg (by decide)]; exact h12) ?_
          refine v_iald2 (n := 160) (a := p) (y := (nI (uF tx p))) dX4_next_229 ⟨by decide, rfl, rfl⟩ (rfl) (by omega) (by rw [mup_ne (by decide), mup_ne (by decide)]; exact (congrFun (hz.1 70 (by decide)) _).trans ((hx.2 _ (by omega)).trans (ho.2 _ (by omega)).1)) ?_
          refine v_callSr (x := .int (bI (isIt (uF tx p)))) (M1 := mup (mup M 60 13 ((nI p))) 60 15 ((nI 0))) (as := [.int (nI (uF tx p))]) (st := [.ref 60]) dX4_next_230 ml_X4_200 ks_X4_isItem ⟨(Nat.le_of_ble_eq_true rfl), (Nat.le_of_ble_eq_true rfl)⟩ rfl (Nat.le_of_ble_eq_true rfl) rfl (Nat.le_of_ble_eq_true rfl) (c_isItem (by have := (ho.2 p (by omega)).2; omega)) ?_
          refine v_ifB_ne (tgt := 250) dX4_next_233 (by decide) (fun c233 => ?_) (fun c233 => ?_)
          · refine v_aload_n dX4_next_250 rfl ?_
            refine v_getR (t := 70) dX4_next_251 fl_X4_38 ⟨by decide, rfl, by decide⟩ rfl rfl ?_
            refine v_aload_n dX4_next_254 rfl ?_
            refine v_getI2 (y := (nI p)) dX4_next_255 fl_X4_188 ⟨by decide, rfl, by decide⟩ rfl (by rw [mup_eq]; simp only [upd]; rw [if_neg (by decide), mup_eq]; simp only [upd]; rw [if_neg (by decide)]; exact h12) ?_
            refine v_iald2 (n := 160) (a := p) (y := (nI (uF tx p))) dX4_next_258 ⟨by decide, rfl, rfl⟩ (rfl) (by omega) (by rw [mup_ne (by decide), mup_ne (by decide)]; exact (congrFun (hz.1 70 (by decide)) _).trans ((hx.2 _ (by omega)).trans (ho.2 _ (by omega)).1)) ?_
            refine v_goto (tgt := 263) dX4_next_259 (by decide) ?_
            refine v_putI dX4_next_263 fl_X4_197 ⟨by decide, rfl, by decide⟩ rfl rfl rfl ?_
            refine v_aload_n dX4_next_266 rfl ?_
            refine v_dup dX4_next_267 rfl ?_
            refine v_getI2 (y := (nI p)) dX4_next_268 fl_X4_188 ⟨by decide, rfl, by decide⟩ rfl (by rw [mup_eq]; simp only [upd]; rw [if_neg (by decide)]; exact by rw [mup_eq]; simp only [upd]; rw [if_neg (by decide), mup_eq]; simp only [upd]; rw [if_neg (by decide)]; exact h12) ?_
            refine v_iconst (v := (nI 1)) dX4_next_271 rfl ?_
            refine v_iaddN dX4_next_272 ?_
            refine v_putI dX4_next_273 fl_X4_188 ⟨by decide, rfl, by decide⟩ rfl rfl rfl ?_
            refine v_vret dX4_next_276 rfl ?_
            exact ⟨rfl, TK_end hz hpl h12 (by unfold tNx; rw [hpl, if_neg c59, if_neg c86]) (by unfold tTk; rw [hpl, if_neg c59, if_neg c86]; rw [if_pos (by first | exact Or.inl c233 | exact Or.inr c247)]) (by unfold tVl; rw [hpl, if_neg c59, if_neg c86])⟩
          · refine v_aload_n dX4_next_236 rfl ?_
            refine v_getR (t := 70) dX4_next_237 fl_X4_38 ⟨by decide, rfl, by decide⟩ rfl rfl ?_
            refine v_aload_n dX4_next_240 rfl ?_
            refine v_getI2 (y := (nI p)) dX4_next_241 fl_X4_188 ⟨by decide, rfl, by decide⟩ rfl (by rw [mup_eq]; simp only [upd]; rw [if_neg (by decide), mup_eq]; simp only [upd]; rw [if_neg (by decide)]; exact h12) ?_
            refine v_iald2 (n := 160) (a := p) (y := (nI (uF tx p))) dX4_next_244 ⟨by decide, rfl, rfl⟩ (rfl) (by omega) (by rw [mup_ne (by decide), mup_ne (by decide)]; exact (congrFun (hz.1 70 (by decide)) _).trans ((hx.2 _ (by omega)).trans (ho.2 _ (by omega)).1)) ?_
            refine v_bipush (v := (nI 59)) dX4_next_245 rfl ?_
            refine v_icmpN_ne (tgt := 262) dX4_next_247 (by decide) (by have := (ho.2 p (by omega)).2; omega) (by omega) (fun c247 => ?_) (fun c247 => ?_)
            · refine v_iconst (v := (nI 2)) dX4_next_262 rfl ?_
              refine v_putI dX4_next_263 fl_X4_197 ⟨by decide, rfl, by decide⟩ rfl rfl rfl ?_
              refine v_aload_n dX4_next_266 rfl ?_
              refine v_dup dX4_next_267 rfl ?_
              refine v_getI2 (y := (nI p)) dX4_next_268 fl_X4_188 ⟨by decide, rfl, by decide⟩ rfl (by rw [mup_eq]; simp only [upd]; rw [if_neg (by decide)]; exact by rw [mup_eq]; simp only [upd]; rw [if_neg (by decide), mup_eq]; simp only [upd]; rw [if_neg (by decide)]; exact h12) ?_
              refine v_iconst (v := (nI 1)) dX4_next_271 rfl ?_
              refine v_iaddN dX4_next_272 ?_
              refine v_putI dX4_next_273 fl_X4_188 ⟨by decide, rfl, by decide⟩ rfl rfl rfl ?_
              refine v_vret dX4_next_276 rfl ?_
              exact ⟨rfl, TK_end hz hpl h12 (by unfold tNx; rw [hpl, if_neg c59, if_neg c86]) (by unfold tTk; rw [hpl, if_neg c59, if_neg c86]; rw [if_neg (by intro q9; rcases q9 with q9 | q9; exact c233 q9; exact c247 q9)]) (by unfold tVl; rw [hpl, if_neg c59, if_neg c86])⟩
            · refine v_aload_n dX4_next_250 rfl ?_
              refine v_getR (t := 70) dX4_next_251 fl_X4_38 ⟨by decide, rfl, by decide⟩ rfl rfl ?_
              refine v_aload_n dX4_next_254 rfl ?_
              refine v_getI2 (y := (nI p)) dX4_next_255 fl_X4_188 ⟨by decide, rfl, by decide⟩ rfl (by rw [mup_eq]; simp only [upd]; rw [if_neg (by decide), mup_eq]; simp only [upd]; rw [if_neg (by decide)]; exact h12) ?_
              refine v_iald2 (n := 160) (a := p) (y := (nI (uF tx p))) dX4_next_258 ⟨by decide, rfl, rfl⟩ (rfl) (by omega) (by rw [mup_ne (by decide), mup_ne (by decide)]; exact (congrFun (hz.1 70 (by decide)) _).trans ((hx.2 _ (by omega)).trans (ho.2 _ (by omega)).1)) ?_
              refine v_goto (tgt := 263) dX4_next_259 (by decide) ?_
              refine v_putI dX4_next_263 fl_X4_197 ⟨by decide, rfl, by decide⟩ rfl rfl rfl ?_
              refine v_aload_n dX4_next_266 rfl ?_
              refine v_dup dX4_next_267 rfl ?_
              refine v_getI2 (y := (nI p)) dX4_next_268 fl_X4_188 ⟨by decide, rfl, by decide⟩ rfl (by rw [mup_eq]; simp only [upd]; rw [if_neg (by decide)]; exact by rw [mup_eq]; simp only [upd]; rw [if_neg (by decide), mup_eq]; simp only [upd]; rw [if_neg (by decide)]; exact h12) ?_
              refine v_iconst (v := (nI 1)) dX4_next_271 rfl ?_
              refine v_iaddN dX4_next_272 ?_
              refine v_putI dX4_next_273 fl_X4_188 ⟨by decide, rfl, by decide⟩ rfl rfl rfl ?_
              refine v_vret dX4_next_276 rfl ?_
              exact ⟨rfl, TK_end hz hpl h12 (by unfold tNx; rw [hpl, if_neg c59, if_neg c86]) (by unfold tTk; rw [hpl, if_neg c59, if_neg c86]; rw [if_pos (by first | exact Or.inl c233 | exact Or.inr c247)]) (by unfold tVl; rw [hpl, if_neg c59, if_neg c86])⟩
        · refine v_post ?_ (l_dig (M0 := M0) hx ho (q := p) (by omega) (t - p) p 0 _ (by omega) (nz_up (nz_up hz (by decide)) (by decide)) (by simp [mup, upd]) (by simp [mup, upd, h12]) (by simp [mup, upd]) (by omega) (Nat.le_refl _))
          rintro v' M' ⟨rfl, g1, g2, g3, g4, g5⟩
          have hvl : tVl (uF tx) t p0 = (dgN (uF tx) (t - p) p 0).2 := by unfold tVl; rw [hpl, if_neg c59, if_pos c86]
          have hnx : tNx (uF tx) t p0 = (dgN (uF tx) (t - p) p 0).1 := by unfold tNx; rw [hpl, if_neg c59, if_pos c86]
          refine ⟨rfl, g1, ?_, ?_, ?_, ?_⟩
          · rw [hnx]; exact g3
          · rw [hpl]; exact g2
          · rw [g5]
            unfold tTk
            rw [hpl, if_neg c59, if_pos c86, hvl, hnx]
          · rw [hvl]; exact g4
      · refine v_aload_n dX4_next_62 rfl ?_
        refine v_iconst (v := (nI 0)) dX4_next_63 rfl ?_
        refine v_putI dX4_next_64 fl_X4_197 ⟨by decide, rfl, by decide⟩ rfl rfl rfl ?_
        refine v_goto (tgt := 276) dX4_next_67 (by decide) ?_
        refine v_vret dX4_next_276 rfl ?_
        exact ⟨rfl, TK_end0 hz hpl h12 c59⟩
    · refine v_aload_n dX4_next_25 rfl ?_
      refine v_dup dX4_next_26 rfl ?_
      refine v_getI2 (y := (nI p)) dX4_next_27 fl_X4_188 ⟨by decide, rfl, by decide⟩ rfl (h12) ?_
      refine v_iconst (v := (nI 1)) dX4_next_30 rfl ?_
      refine v_iaddN dX4_next_31 ?_
      refine v_putI dX4_next_32 fl_X4_188 ⟨by decide, rfl, by decide⟩ rfl rfl rfl ?_
      refine v_goto (tgt := 0) dX4_next_35 (by decide) ?_
      refine ih (p + 1) _ (by omega) (nz_up hz (by decide)) (by rw [mup_eq]; simp [upd]) ?_
      rw [hsk]; simp only [skN]; rw [if_pos c22]
theorem c_next (hx : xR M0 tx t) (ho : xOK tx t) (hz : nz M0 M) {p0 : Nat} (h12 : M 60 12 = nI p0) (hp : p0 ≤ t) : V kX4_next (fun v' M' => v' = none ∧ nz M0 M' ∧ TK M' (uF tx) t p0) M 0 [(0, .ref 60)] [] := l_next hx ho (t - p0) p0 M (by omega) hz h12 rfl
end R29
