/-! text constants in V, the JDK's methods on them, Math.min -/
section V51
variable {k k' : vK} {Q Q' : Option Value → vM → Prop} {M : vM} {pc : Nat} {lv : List (Nat × Value)} {st : List Value}
theorem v_ldcS {i idx : Nat} (hi : i < 7) (hx : idx = 80 + 2 * i) (hk : k.1.cls = "ClockCrossings$Text") (d : decode k.2.1 pc = .ok (.ldc idx, 2)) (h : V k Q M (pc + 2) lv (.ref (80 + i) :: st)) : V k Q M pc lv st := by
  intro Z A p l e R s m args below meth c cells slots Qw C Rt H locs ls hP hS hl
  have hE := C.2.2.2.2.2.2.2.2.2.2.1
  subst hx
  exact va_ldcS C.1 C.2.1 (own := "ClockCrossings$Text") (by rw [← hk]; exact C.2.2.2.1) (hE.2.2.2.1 i hi) d (h Z A p l e R s m args below meth c cells slots Qw C Rt H locs ls hP hS hl)
theorem fw_value : Cond.fieldLink RJ0 9 "java/lang/String" "value" "[B" ∈ wg := wgi 940 (by decide +kernel) (by decide +kernel)
theorem fw_coder : Cond.fieldLink RJ0 15 "java/lang/String" "coder" "B" ∈ wg := wgi 941 (by decide +kernel) (by decide +kernel)
theorem fw_cs : Cond.fieldLink RJ0 38 "java/lang/String" "COMPACT_STRINGS" "Z" ∈ wg := wgi 342 (by decide +kernel) (by decide +kernel)
theorem fw_sf : Cond.fieldLink RJ0 1053 "jdk/internal/util/Preconditions" "SIOOBE_FORMATTER" "Ljava/util/function/BiFunction;" ∈ wg := wgi 358 (by decide +kernel) (by decide +kernel)
theorem v_sval {i : Nat} (hi : i < 7) (hk : k.1.cls = RJ0) (d : decode k.2.1 pc = .ok (.getfield 9, 3)) (h : V k Q M (pc + 3) lv (.ref (90 + i) :: st)) : V k Q M pc lv (.ref (80 + i) :: st) := by
  intro Z A p l e R s m args below meth c cells slots Qw C Rt H locs ls hP hS hl
  have hE := C.2.2.2.2.2.2.2.2.2.2.1
  exact vk_getf C.1 C.2.1 (hE.2.2.1.1 i hi).2.2.1 hS (by rw [← hk]; exact C.2.2.2.1) (C.2.2.2.2.1 _ fw_value) (fun _ q => q) d (h Z A p l e R s m args below meth c cells slots Qw C Rt H locs ls hP hS hl)
theorem v_scod {i : Nat} (hi : i < 7) (hk : k.1.cls = RJ0) (d : decode k.2.1 pc = .ok (.getfield 15, 3)) (h : V k Q M (pc + 3) lv (.int (nI 0) :: st)) : V k Q M pc lv (.ref (80 + i) :: st) := by
  intro Z A p l e R s m args below meth c cells slots Qw C Rt H locs ls hP hS hl
  have hE := C.2.2.2.2.2.2.2.2.2.2.1
  exact vk_getf C.1 C.2.1 (hE.2.2.1.1 i hi).2.1 hS (by rw [← hk]; exact C.2.2.2.1) (C.2.2.2.2.1 _ fw_coder) (fun _ q => q) d (h Z A p l e R s m args below meth c cells slots Qw C Rt H locs ls hP hS hl)
theorem v_gcs (hk : k.1.cls = RJ0) (d : decode k.2.1 pc = .ok (.getstatic 38, 3)) (h : V k Q M (pc + 3) lv (.int (nI 1) :: st)) : V k Q M pc lv st := by
  intro Z A p l e R s m args below meth c cells slots Qw C Rt H locs ls hP hS hl
  have hE := C.2.2.2.2.2.2.2.2.2.2.1
  exact va_gets C.1 C.2.1 hE.2.2.2.2.1 hS (by rw [← hk]; exact C.2.2.2.1) (C.2.2.2.2.1 _ fw_cs) (fun _ q => q) d (h Z A p l e R s m args below meth c cells slots Qw C Rt H locs ls hP hS hl)
theorem v_gsf (hk : k.1.cls = RJ0) (d : decode k.2.1 pc = .ok (.getstatic 1053, 3)) (h : V k Q M (pc + 3) lv (.null :: st)) (h' : V k Q M (pc + 3) lv (.ref 98 :: st)) : V k Q M pc lv st := by
  intro Z A p l e R s m args below meth c cells slots Qw C Rt H locs ls hP hS hl
  have hE := C.2.2.2.2.2.2.2.2.2.2.1
  rcases hE.2.2.2.2.2 with hz | hz
  · exact va_gets C.1 C.2.1 hz hS (by rw [← hk]; exact C.2.2.2.1) (C.2.2.2.2.1 _ fw_sf) (fun _ q => q) d (h Z A p l e R s m args below meth c cells slots Qw C Rt H locs ls hP hS hl)
  · exact va_gets C.1 C.2.1 hz hS (by rw [← hk]; exact C.2.2.2.1) (C.2.2.2.2.1 _ fw_sf) (fun _ q => q) d (h' Z A p l e R s m args below meth c cells slots Qw C Rt H locs ls hP hS hl)
theorem v_slen {i : Nat} (hi : i < 7) (d : decode k.2.1 pc = .ok (.arraylength, 1)) (h : V k Q M (pc + 1) lv (.int (nI (xlen.getD i 0)) :: st)) : V k Q M pc lv (.ref (90 + i) :: st) := by
  intro Z A p l e R s m args below meth c cells slots Qw C Rt H locs ls hP hS hl
  have hE := C.2.2.2.2.2.2.2.2.2.2.1
  exact va_tlen C.1 C.2.1 (hE.2.2.1.1 i hi).2.2.2 hS rfl d (h Z A p l e R s m args below meth c cells slots Qw C Rt H locs ls hP hS hl)
theorem xlen_b : ∀ i, i < 7 → xlen.getD i 0 < 4 := by decide
theorem v_sbyt {i j : Nat} (hi : i < 7) (hj : j < xlen.getD i 0) (d : decode k.2.1 pc = .ok (.baload, 1)) (h : V k Q M (pc + 1) lv (.int ((xbyt.getD i []).getD j 0) :: st)) : V k Q M pc lv (.int (nI j) :: .ref (90 + i) :: st) := by
  intro Z A p l e R s m args below meth c cells slots Qw C Rt H locs ls hP hS hl
  have hE := C.2.2.2.2.2.2.2.2.2.2.1
  have hb := xlen_b i hi
  exact va_tb C.1 C.2.1 (hE.2.2.1.1 i hi).2.2.2 hS (vp_in_nI hj (by omega)) (by rw [nI_clamp (by omega)]; rfl) d (h Z A p l e R s m args below meth c cells slots Qw C Rt H locs ls hP hS hl)
def KT (k' : vK) (n : Nat) : Prop := CK k' n ∧ k'.1.cls = RJ0 ∧ Cond.instanceMethod k'.1 ∈ wg ∧ Cond.selects RJ0 k'.1 k'.1 ∈ wg
theorem v_callT {idx n i : Nat} {as stk : List Value} (d : decode k.2.1 pc = .ok (.invokevirtual idx, 3)) (ml : Cond.methodLink k.1.cls idx k'.1 ∈ wg) (kv : KT k' n) (hi : i < 7) (rm : RM k k') (hn : as.length = n) (hlen : ((Value.ref (80 + i) :: as).map fun v => v.category).sum ≤ k'.2.2.1) (hst : as.reverse ++ .ref (80 + i) :: st = stk) (hrs : (st.map fun v => v.category).sum ≤ 8)
    (hV : V k' Q' M 0 (lv_args 0 (.ref (80 + i) :: as)) []) (h : ∀ v M', Q' v M' → V k Q M' (pc + 3) lv (v.toList ++ st)) : V k Q M pc lv stk := by
  intro Z A p l e R s m args below meth c cells slots Qw C Rt H locs ls hP hS hl
  have hsz : ls.size = k.2.2.1 := hl.1
  obtain ⟨⟨⟨hc1, hc2⟩, hd, hpl, hscr⟩, hcls, hinst, hsel⟩ := kv
  obtain ⟨hx, hb, hml, hown, hts, hnw, hK, ⟨r1, r2, r3, r4⟩, hinj, hA, hE, hX⟩ := id C
  have hA' : ∀ q, vA Z q → A q := fun q ⟨i, h1, h2⟩ => by rw [h2]; exact hA i h1
  have hM := v_met (as := .ref (80 + i) :: as) hscr hpl hlen hV l Z hinj
  have hpre : PreV s H RJ0 (Z.1 (80 + i)) (vPc Z M (.ref (80 + i) :: as)) (as.map (mv Z.1)) := ⟨vPc_blind Z M _, vk_recv (i := i) hE.2.2.1 hi hS, fun U hU hW => ⟨rfl, by rw [hU]; exact hP, va_K.moved hW.alike hK, nw_warm hW hnw, xE_go hE hW hU hS hA'⟩⟩
  have hroom : (vrm k').frames + 1 ≤ R.frames ∧ 8 + (k'.2.2.1 + 11) + (vrm k').locals ≤ R.locals := ⟨Nat.le_trans rm.1 r1, Nat.le_trans rm.2 r2⟩
  have hstack : (F0 m pc ls (stk.map (mv Z.1))).stack = (as.map (mv Z.1)).reverse ++ .ref (Z.1 (80 + i)) :: st.map (mv Z.1) := by
    show stk.map (mv Z.1) = _
    rw [← hst, List.map_append, List.map_reverse]
    rfl
  have hrs' : 2 * (F0 m pc ls (stk.map (mv Z.1))).monitorRoom + ((st.map (mv Z.1)).map fun v => v.category).sum ≤ 8 := lv_room (st := st.map (mv Z.1)) (by rw [cat_mv]; exact hrs)
  have run : va_Run p l e R s m args below meth c H locs cells slots 0 0 (F0 m pc ls (stk.map (mv Z.1))) (st.map (mv Z.1)) (vQc Z Q' (Value.ref (Z.1 (80 + i)) :: as.map (mv Z.1)).toArray) (vA Z) :=
    va_runV (As := as.map (mv Z.1)) (n := n) (bytes := k'.2.1) (maxL := k'.2.2.1) (ret := k'.2.2.2.1) (index := idx) (C := RJ0) ⟨hx, hb, hml, hown, hts⟩ hM ⟨callB_of n hts (wg_good hc1) rfl rfl rfl (hts _ hc2) (hts _ ml) hd hroom, hts _ hinst, hts _ hsel⟩ hpre rfl (by rw [List.length_map]; exact hn) hsz hstack hrs' d ⟨r3, r4⟩
  refine v_back run hS hA' (fun v M' H1 locs1 hq hP1 hS1 => ?_)
  have e1 : (v.map (mv Z.1)).toList ++ st.map (mv Z.1) = (v.toList ++ st).map (mv Z.1) := by cases v <;> rfl
  rw [e1]
  exact h v M' hq Z A p l e R s m args below meth c cells slots Qw C Rt H1 locs1 ls hP1 hS1 hl
theorem v_callTr {idx n i : Nat} {as stk : List Value} {x : Value} (d : decode k.2.1 pc = .ok (.invokevirtual idx, 3)) (ml : Cond.methodLink k.1.cls idx k'.1 ∈ wg) (kv : KT k' n) (hi : i < 7) (rm : RM k k') (hn : as.length = n) (hlen : ((Value.ref (80 + i) :: as).map fun v => v.category).sum ≤ k'.2.2.1) (hst : as.reverse ++ .ref (80 + i) :: st = stk) (hrs : (st.map fun v => v.category).sum ≤ 8)
    (hV : V k' (rt x M) M 0 (lv_args 0 (.ref (80 + i) :: as)) []) (h : V k Q M (pc + 3) lv (x :: st)) : V k Q M pc lv stk :=
  v_callT d ml kv hi rm hn hlen hst hrs hV (fun v M' hq => by obtain ⟨rfl, rfl⟩ := hq; exact h)
theorem kt_J0_isEmpty_aae02 : KT kJ0_isEmpty_aae02 0 := ⟨⟨⟨(wgi 329 (by decide +kernel) (by decide +kernel)), (wgi 88 (by decide +kernel) (by decide +kernel))⟩, ⟨(by decide +kernel), (by decide +kernel), (by decide +kernel)⟩, (by decide +kernel), rfl⟩, rfl, (wgi 327 (by decide +kernel) (by decide +kernel)), (wgi 328 (by decide +kernel) (by decide +kernel))⟩
theorem kt_J0_length_8abf5 : KT kJ0_length_8abf5 0 := ⟨⟨⟨(wgi 337 (by decide +kernel) (by decide +kernel)), (wgi 88 (by decide +kernel) (by decide +kernel))⟩, ⟨(by decide +kernel), (by decide +kernel), (by decide +kernel)⟩, (by decide +kernel), rfl⟩, rfl, (wgi 335 (by decide +kernel) (by decide +kernel)), (wgi 336 (by decide +kernel) (by decide +kernel))⟩
theorem kt_J0_charAt_5068e : KT kJ0_charAt_5068e 1 := ⟨⟨⟨(wgi 347 (by decide +kernel) (by decide +kernel)), (wgi 88 (by decide +kernel) (by decide +kernel))⟩, ⟨(by decide +kernel), (by decide +kernel), (by decide +kernel)⟩, (by decide +kernel), rfl⟩, rfl, (wgi 345 (by decide +kernel) (by decide +kernel)), (wgi 346 (by decide +kernel) (by decide +kernel))⟩
theorem kt_J0_coder_7d493 : KT kJ0_coder_7d493 0 := ⟨⟨⟨(wgi 341 (by decide +kernel) (by decide +kernel)), (wgi 88 (by decide +kernel) (by decide +kernel))⟩, ⟨(by decide +kernel), (by decide +kernel), (by decide +kernel)⟩, (by decide +kernel), rfl⟩, rfl, (wgi 339 (by decide +kernel) (by decide +kernel)), (wgi 340 (by decide +kernel) (by decide +kernel))⟩
theorem kt_J0_isLatin1_aae02 : KT kJ0_isLatin1_aae02 0 := ⟨⟨⟨(wgi 351 (by decide +kernel) (by decide +kernel)), (wgi 88 (by decide +kernel) (by decide +kernel))⟩, ⟨(by decide +kernel), (by decide +kernel), (by decide +kernel)⟩, (by decide +kernel), rfl⟩, rfl, (wgi 349 (by decide +kernel) (by decide +kernel)), (wgi 350 (by decide +kernel) (by decide +kernel))⟩
theorem mt_X2_51 : Cond.methodLink RX2 51 kJ0_isEmpty_aae02.1 ∈ wg := (wgi 326 (by decide +kernel) (by decide +kernel))
theorem mt_X2_61 : Cond.methodLink RX2 61 kJ0_length_8abf5.1 ∈ wg := (wgi 334 (by decide +kernel) (by decide +kernel))
theorem mt_X2_65 : Cond.methodLink RX2 65 kJ0_charAt_5068e.1 ∈ wg := (wgi 344 (by decide +kernel) (by decide +kernel))
theorem mt_J0_335 : Cond.methodLink RJ0 335 kJ0_coder_7d493.1 ∈ wg := (wgi 338 (by decide +kernel) (by decide +kernel))
theorem mt_J0_492 : Cond.methodLink RJ0 492 kJ0_isLatin1_aae02.1 ∈ wg := (wgi 348 (by decide +kernel) (by decide +kernel))
theorem mm_link : Cond.methodLink RX2 101 Lib.Math.min.name ∈ wg := (wgi 294 (by decide +kernel) (by decide +kernel))
theorem mm_stat : Cond.static Lib.Math.min.name ∈ wg := (wgi 295 (by decide +kernel) (by decide +kernel))
theorem mm_ini : Cond.initialized "java/lang/Math" ∈ wg := (wgi 87 (by decide +kernel) (by decide +kernel))
theorem mm_code : Cond.code Lib.Math.min.name Lib.Math.min.code 2 (some .int) ∈ wg := (wgi 296 (by decide +kernel) (by decide +kernel))
theorem v_mmin {a b : Nat} (d : decode k.2.1 pc = .ok (.invokestatic 101, 3)) (hk : k.1.cls = RX2) (ha : a < 2 ^ 31) (hb : b < 2 ^ 31) (hf : 1 ≤ k.2.2.2.2.1) (hlo : (st.map fun v => v.category).sum + 13 ≤ k.2.2.2.2.2.1) (h : V k Q M (pc + 3) lv (.int (nI (min a b)) :: st)) : V k Q M pc lv (.int (nI b) :: .int (nI a) :: st) := by
  intro Z A p l e R s m args below meth c cells slots Qw C Rt H locs ls hP hS hl
  obtain ⟨r1, r2, r3, r4⟩ := C.2.2.2.2.2.2.2.1
  refine va_mmin C.1 C.2.1 (C.2.2.1.trans hl.1.symm) C.2.2.2.1 (by rw [hk]; exact C.2.2.2.2.1 _ mm_link) (C.2.2.2.2.1 _ mm_stat) (C.2.2.2.2.1 _ mm_ini) (C.2.2.2.2.1 _ mm_code) (Nat.le_trans hf r1) (by rw [cat_mv]; omega) r3 r4 d ?_
  have e9 : (if nI b < nI a then nI b else nI a) = nI (min a b) := by
    by_cases h9 : b < a
    · rw [if_pos ((nI_ltI hb ha).mpr h9), Nat.min_eq_right (by omega)]
    · rw [if_neg (fun z => h9 ((nI_ltI hb ha).mp z)), Nat.min_eq_left (by omega)]
  rw [e9]
  exact h Z A p l e R s m args below meth c cells slots Qw C Rt H locs ls hP hS hl
end V51
section C51
variable {M : vM}
set_option maxRecDepth 100000 in
theorem c_sEmpty {i : Nat} (hi : i < 7) : V kJ0_isEmpty_aae02 (rt (.int (bI (xlen.getD i 0 = 0))) M) M 0 [(0, .ref (80 + i))] [] := by
  have hb := xlen_b i hi
  refine v_aload_n dJ0_isEmpty_aae02_0 rfl ?_
  refine v_sval hi rfl dJ0_isEmpty_aae02_1 ?_
  refine v_slen hi dJ0_isEmpty_aae02_4 ?_
  refine v_ifN_ne (tgt := 12) dJ0_isEmpty_aae02_5 (by decide) (by omega) (fun c5 => ?_) (fun c5 => ?_)
  · refine v_iconst (v := (nI 0)) dJ0_isEmpty_aae02_12 rfl ?_
    refine v_zret dJ0_isEmpty_aae02_13 rfl (Or.inl rfl) ?_
    refine ⟨congrArg (fun x => some (Value.int x)) ?_, rfl⟩
    first | (rw [bI_t c5]; rfl) | (rw [bI_f c5]; rfl)
  · refine v_iconst (v := (nI 1)) dJ0_isEmpty_aae02_8 rfl ?_
    refine v_goto (tgt := 13) dJ0_isEmpty_aae02_9 (by decide) ?_
    refine v_zret dJ0_isEmpty_aae02_13 rfl (Or.inr rfl) ?_
    refine ⟨congrArg (fun x => some (Value.int x)) ?_, rfl⟩
    first | (rw [bI_t c5]; rfl) | (rw [bI_f c5]; rfl)
set_option maxRecDepth 100000 in
theorem c_sCoder {i : Nat} (hi : i < 7) : V kJ0_coder_7d493 (rt (.int (nI 0)) M) M 0 [(0, .ref (80 + i))] [] := by
  refine v_gcs rfl dJ0_coder_7d493_0 ?_
  refine v_ifN_eq (tgt := 13) dJ0_coder_7d493_3 (by decide) (by decide) (fun c3 => (absurd c3 (by decide))) (fun c3 => ?_)
  refine v_aload_n dJ0_coder_7d493_6 rfl ?_
  refine v_scod hi rfl dJ0_coder_7d493_7 ?_
  refine v_goto (tgt := 14) dJ0_coder_7d493_10 (by decide) ?_
  refine v_nret dJ0_coder_7d493_14 rfl (by rfl) ?_
  exact ⟨rfl, rfl⟩
set_option maxRecDepth 100000 in
theorem c_sLatin {i : Nat} (hi : i < 7) : V kJ0_isLatin1_aae02 (rt (.int (nI 1)) M) M 0 [(0, .ref (80 + i))] [] := by
  refine v_gcs rfl dJ0_isLatin1_aae02_0 ?_
  refine v_ifN_eq (tgt := 17) dJ0_isLatin1_aae02_3 (by decide) (by decide) (fun c3 => (absurd c3 (by decide))) (fun c3 => ?_)
  refine v_aload_n dJ0_isLatin1_aae02_6 rfl ?_
  refine v_scod hi rfl dJ0_isLatin1_aae02_7 ?_
  refine v_ifN_ne (tgt := 17) dJ0_isLatin1_aae02_10 (by decide) (by decide) (fun c10 => (absurd rfl c10)) (fun c10 => ?_)
  refine v_iconst (v := (nI 1)) dJ0_isLatin1_aae02_13 rfl ?_
  refine v_goto (tgt := 18) dJ0_isLatin1_aae02_14 (by decide) ?_
  refine v_zret dJ0_isLatin1_aae02_18 rfl (Or.inr rfl) ?_
  exact ⟨rfl, rfl⟩
theorem sh0 (x : Int32) : x >>> (nI 0 &&& 31) = x := b_ext (fun i hi => by rw [b_sshr 0 (by decide) x hi, Nat.zero_add, if_pos hi])
set_option maxRecDepth 100000 in
theorem c_sLen {i : Nat} (hi : i < 7) : V kJ0_length_8abf5 (rt (.int (nI (xlen.getD i 0))) M) M 0 [(0, .ref (80 + i))] [] := by
  refine v_aload_n dJ0_length_8abf5_0 rfl ?_
  refine v_sval hi rfl dJ0_length_8abf5_1 ?_
  refine v_slen hi dJ0_length_8abf5_4 ?_
  refine v_aload_n dJ0_length_8abf5_5 rfl ?_
  refine v_callTr (x := .int (nI 0)) (as := []) (st := [.int (nI (xlen.getD i 0))]) dJ0_length_8abf5_6 mt_J0_335 kt_J0_coder_7d493 hi ⟨(Nat.le_of_ble_eq_true rfl), (Nat.le_of_ble_eq_true rfl)⟩ rfl (Nat.le_of_ble_eq_true rfl) rfl (Nat.le_of_ble_eq_true rfl) (c_sCoder hi) ?_
  refine v_ishr dJ0_length_8abf5_9 ?_
  refine v_top (y := (nI (xlen.getD i 0))) (sh0 _) ?_
  refine v_iret dJ0_length_8abf5_10 rfl ?_
  exact ⟨rfl, rfl⟩
set_option maxRecDepth 100000 in
theorem c_chk3 {a b : Nat} (hab : a < b) (hb : b < 2 ^ 31) : V kJ3_checkIndex_8e157 (rt (.int (nI a)) M) M 0 [(0, .int (nI a)), (1, .int (nI b)), (2, .ref 98)] [] := by
  refine v_iload_n dJ3_checkIndex_8e157_0 rfl ?_
  refine v_ifN_lt (tgt := 9) dJ3_checkIndex_8e157_1 (by decide) (by omega) ?_
  refine v_iload_n dJ3_checkIndex_8e157_4 rfl ?_
  refine v_iload_n dJ3_checkIndex_8e157_5 rfl ?_
  refine v_icmpN_lt (tgt := 16) dJ3_checkIndex_8e157_6 (by decide) (by omega) (by omega) (fun c6 => ?_) (fun c6 => (absurd hab (by omega)))
  refine v_iload_n dJ3_checkIndex_8e157_16 rfl ?_
  refine v_iret dJ3_checkIndex_8e157_17 rfl ?_
  exact ⟨rfl, rfl⟩
set_option maxRecDepth 100000 in
theorem c_chk3n {a b : Nat} (hab : a < b) (hb : b < 2 ^ 31) : V kJ3_checkIndex_8e157 (rt (.int (nI a)) M) M 0 [(0, .int (nI a)), (1, .int (nI b)), (2, .null)] [] := by
  refine v_iload_n dJ3_checkIndex_8e157_0 rfl ?_
  refine v_ifN_lt (tgt := 9) dJ3_checkIndex_8e157_1 (by decide) (by omega) ?_
  refine v_iload_n dJ3_checkIndex_8e157_4 rfl ?_
  refine v_iload_n dJ3_checkIndex_8e157_5 rfl ?_
  refine v_icmpN_lt (tgt := 16) dJ3_checkIndex_8e157_6 (by decide) (by omega) (by omega) (fun c6 => ?_) (fun c6 => (absurd hab (by omega)))
  refine v_iload_n dJ3_checkIndex_8e157_16 rfl ?_
  refine v_iret dJ3_checkIndex_8e157_17 rfl ?_
  exact ⟨rfl, rfl⟩
set_option maxRecDepth 100000 in
theorem c_chk {a b : Nat} (hab : a < b) (hb : b < 2 ^ 31) : V kJ0_checkIndex_df160 (rv M) M 0 [(0, .int (nI a)), (1, .int (nI b))] [] := by
  refine v_iload_n dJ0_checkIndex_df160_0 rfl ?_
  refine v_iload_n dJ0_checkIndex_df160_1 rfl ?_
  refine v_gsf rfl dJ0_checkIndex_df160_2 ?_ ?_
  ·
    refine v_callSr (x := .int (nI a)) (M1 := M) (as := [.int (nI a), .int (nI b), .null]) (st := []) dJ0_checkIndex_df160_5 ml_J0_1059 ks_J3_checkIndex_8e157 ⟨(Nat.le_of_ble_eq_true rfl), (Nat.le_of_ble_eq_true rfl)⟩ rfl (Nat.le_of_ble_eq_true rfl) rfl (Nat.le_of_ble_eq_true rfl) (c_chk3n hab hb) ?_
    refine v_pop dJ0_checkIndex_df160_8 rfl ?_
    refine v_vret dJ0_checkIndex_df160_9 rfl ?_
    exact ⟨rfl, rfl⟩
  ·
    refine v_callSr (x := .int (nI a)) (M1 := M) (as := [.int (nI a), .int (nI b), .ref 98]) (st := []) dJ0_checkIndex_df160_5 ml_J0_1059 ks_J3_checkIndex_8e157 ⟨(Nat.le_of_ble_eq_true rfl), (Nat.le_of_ble_eq_true rfl)⟩ rfl (Nat.le_of_ble_eq_true rfl) rfl (Nat.le_of_ble_eq_true rfl) (c_chk3 hab hb) ?_
    refine v_pop dJ0_checkIndex_df160_8 rfl ?_
    refine v_vret dJ0_checkIndex_df160_9 rfl ?_
    exact ⟨rfl, rfl⟩
theorem xb_c : ∀ i, i < 7 → ∀ j, j < xlen.getD i 0 → (((xbyt.getD i []).getD j 0 &&& nI 255).toUInt32 % 65536).toInt32 = (xbyt.getD i []).getD j 0 := by decide +kernel
theorem xb_n : ∀ i, i < 7 → ∀ j, j < xlen.getD i 0 → narrow .char (.int ((xbyt.getD i []).getD j 0)) = .int ((xbyt.getD i []).getD j 0) := by
  have h : ∀ i, i < 7 → ∀ j, j < xlen.getD i 0 → vp_nar .char ((xbyt.getD i []).getD j 0) = (xbyt.getD i []).getD j 0 := by decide +kernel
  intro i hi j hj
  exact congrArg Value.int (h i hi j hj)
set_option maxRecDepth 100000 in
theorem c_sCh1 {i j : Nat} (hi : i < 7) (hj : j < xlen.getD i 0) : V kJ1_charAt_3b067 (rt (.int ((xbyt.getD i []).getD j 0)) M) M 0 [(0, .ref (90 + i)), (1, .int (nI j))] [] := by
  have hb := xlen_b i hi
  refine v_iload_n dJ1_charAt_3b067_0 rfl ?_
  refine v_aload_n dJ1_charAt_3b067_1 rfl ?_
  refine v_slen hi dJ1_charAt_3b067_2 ?_
  refine v_callSv (M1 := M) (as := [.int (nI j), .int (nI (xlen.getD i 0))]) (st := []) dJ1_charAt_3b067_3 ml_J1_9 ks_J0_checkIndex_df160 ⟨(Nat.le_of_ble_eq_true rfl), (Nat.le_of_ble_eq_true rfl)⟩ rfl (Nat.le_of_ble_eq_true rfl) rfl (Nat.le_of_ble_eq_true rfl) (c_chk hj (by omega)) ?_
  refine v_aload_n dJ1_charAt_3b067_6 rfl ?_
  refine v_iload_n dJ1_charAt_3b067_7 rfl ?_
  refine v_sbyt hi hj dJ1_charAt_3b067_8 ?_
  refine v_sipush (v := (nI 255)) dJ1_charAt_3b067_9 rfl ?_
  refine v_iand dJ1_charAt_3b067_12 ?_
  refine v_i2c dJ1_charAt_3b067_13 rfl ?_
  refine v_top (y := ((xbyt.getD i []).getD j 0)) (xb_c i hi j hj) ?_
  refine v_nret dJ1_charAt_3b067_14 rfl (xb_n i hi j hj) ?_
  exact ⟨rfl, rfl⟩
set_option maxRecDepth 100000 in
theorem c_sChar {i j : Nat} (hi : i < 7) (hj : j < xlen.getD i 0) : V kJ0_charAt_5068e (rt (.int ((xbyt.getD i []).getD j 0)) M) M 0 [(0, .ref (80 + i)), (1, .int (nI j))] [] := by
  have hb := xlen_b i hi
  refine v_aload_n dJ0_charAt_5068e_0 rfl ?_
  refine v_callTr (x := .int (nI 1)) (as := []) (st := []) dJ0_charAt_5068e_1 mt_J0_492 kt_J0_isLatin1_aae02 hi ⟨(Nat.le_of_ble_eq_true rfl), (Nat.le_of_ble_eq_true rfl)⟩ rfl (Nat.le_of_ble_eq_true rfl) rfl (Nat.le_of_ble_eq_true rfl) (c_sLatin hi) ?_
  refine v_ifN_eq (tgt := 16) dJ0_charAt_5068e_4 (by decide) (by decide) (fun c4 => (absurd c4 (by decide))) (fun c4 => ?_)
  refine v_aload_n dJ0_charAt_5068e_7 rfl ?_
  refine v_sval hi rfl dJ0_charAt_5068e_8 ?_
  refine v_iload_n dJ0_charAt_5068e_11 rfl ?_
  refine v_callSr (x := .int ((xbyt.getD i []).getD j 0)) (M1 := M) (as := [.ref (90 + i), .int (nI j)]) (st := []) dJ0_charAt_5068e_12 ml_J0_495 ks_J1_charAt_3b067 ⟨(Nat.le_of_ble_eq_true rfl), (Nat.le_of_ble_eq_true rfl)⟩ rfl (Nat.le_of_ble_eq_true rfl) rfl (Nat.le_of_ble_eq_true rfl) (c_sCh1 hi hj) ?_
  refine v_nret dJ0_charAt_5068e_15 rfl (xb_n i hi j hj) ?_
  exact ⟨rfl, rfl⟩
def shN (c : Nat) : Nat := if c = 105 then 0 else if c = 114 then 1 else if c = 97 ∨ c = 111 ∨ c = 120 then 2 else if c = 109 then 3 else if c = 112 then 4 else if c = 103 ∨ c = 101 then 5 else 6
set_option maxRecDepth 100000 in
theorem c_sh_97  : V kX2_shapeOf (rt (.ref (80 + 2)) M) M 0 [(0, .int (nI 97))] [] := by
  refine v_iload_n dX2_shapeOf_0 rfl ?_
  skip
  · refine v_tabIn (tgt := 118) (off := 117) dX2_shapeOf_1 (by decide) (by decide) (by decide) (by decide) ?_
    refine v_ldcS (i := 2) (by decide) rfl rfl dX2_shapeOf_118 ?_
    refine v_aret dX2_shapeOf_120 rfl ?_
    exact ⟨rfl, rfl⟩
set_option maxRecDepth 100000 in
theorem c_sh_98  : V kX2_shapeOf (rt (.ref (80 + 6)) M) M 0 [(0, .int (nI 98))] [] := by
  refine v_iload_n dX2_shapeOf_0 rfl ?_
  skip
  · refine v_tabIn (tgt := 130) (off := 129) dX2_shapeOf_1 (by decide) (by decide) (by decide) (by decide) ?_
    refine v_ldcS (i := 6) (by decide) rfl rfl dX2_shapeOf_130 ?_
    refine v_aret dX2_shapeOf_132 rfl ?_
    exact ⟨rfl, rfl⟩
set_option maxRecDepth 100000 in
theorem c_sh_99  : V kX2_shapeOf (rt (.ref (80 + 6)) M) M 0 [(0, .int (nI 99))] [] := by
  refine v_iload_n dX2_shapeOf_0 rfl ?_
  skip
  · refine v_tabIn (tgt := 130) (off := 129) dX2_shapeOf_1 (by decide) (by decide) (by decide) (by decide) ?_
    refine v_ldcS (i := 6) (by decide) rfl rfl dX2_shapeOf_130 ?_
    refine v_aret dX2_shapeOf_132 rfl ?_
    exact ⟨rfl, rfl⟩
set_option maxRecDepth 100000 in
theorem c_sh_100  : V kX2_shapeOf (rt (.ref (80 + 6)) M) M 0 [(0, .int (nI 100))] [] := by
  refine v_iload_n dX2_shapeOf_0 rfl ?_
  skip
  · refine v_tabIn (tgt := 130) (off := 129) dX2_shapeOf_1 (by decide) (by decide) (by decide) (by decide) ?_
    refine v_ldcS (i := 6) (by decide) rfl rfl dX2_shapeOf_130 ?_
    refine v_aret dX2_shapeOf_132 rfl ?_
    exact ⟨rfl, rfl⟩
set_option maxRecDepth 100000 in
theorem c_sh_101  : V kX2_shapeOf (rt (.ref (80 + 5)) M) M 0 [(0, .int (nI 101))] [] := by
  refine v_iload_n dX2_shapeOf_0 rfl ?_
  skip
  · refine v_tabIn (tgt := 127) (off := 126) dX2_shapeOf_1 (by decide) (by decide) (by decide) (by decide) ?_
    refine v_ldcS (i := 5) (by decide) rfl rfl dX2_shapeOf_127 ?_
    refine v_aret dX2_shapeOf_129 rfl ?_
    exact ⟨rfl, rfl⟩
set_option maxRecDepth 100000 in
theorem c_sh_102  : V kX2_shapeOf (rt (.ref (80 + 6)) M) M 0 [(0, .int (nI 102))] [] := by
  refine v_iload_n dX2_shapeOf_0 rfl ?_
  skip
  · refine v_tabIn (tgt := 130) (off := 129) dX2_shapeOf_1 (by decide) (by decide) (by decide) (by decide) ?_
    refine v_ldcS (i := 6) (by decide) rfl rfl dX2_shapeOf_130 ?_
    refine v_aret dX2_shapeOf_132 rfl ?_
    exact ⟨rfl, rfl⟩
set_option maxRecDepth 100000 in
theorem c_sh_103  : V kX2_shapeOf (rt (.ref (80 + 5)) M) M 0 [(0, .int (nI 103))] [] := by
  refine v_iload_n dX2_shapeOf_0 rfl ?_
  skip
  · refine v_tabIn (tgt := 127) (off := 126) dX2_shapeOf_1 (by decide) (by decide) (by decide) (by decide) ?_
    refine v_ldcS (i := 5) (by decide) rfl rfl dX2_shapeOf_127 ?_
    refine v_aret dX2_shapeOf_129 rfl ?_
    exact ⟨rfl, rfl⟩
set_option maxRecDepth 100000 in
theorem c_sh_104  : V kX2_shapeOf (rt (.ref (80 + 6)) M) M 0 [(0, .int (nI 104))] [] := by
  refine v_iload_n dX2_shapeOf_0 rfl ?_
  skip
  · refine v_tabIn (tgt := 130) (off := 129) dX2_shapeOf_1 (by decide) (by decide) (by decide) (by decide) ?_
    refine v_ldcS (i := 6) (by decide) rfl rfl dX2_shapeOf_130 ?_
    refine v_aret dX2_shapeOf_132 rfl ?_
    exact ⟨rfl, rfl⟩
set_option maxRecDepth 100000 in
theorem c_sh_105  : V kX2_shapeOf (rt (.ref (80 + 0)) M) M 0 [(0, .int (nI 105))] [] := by
  refine v_iload_n dX2_shapeOf_0 rfl ?_
  skip
  · refine v_tabIn (tgt := 112) (off := 111) dX2_shapeOf_1 (by decide) (by decide) (by decide) (by decide) ?_
    refine v_ldcS (i := 0) (by decide) rfl rfl dX2_shapeOf_112 ?_
    refine v_aret dX2_shapeOf_114 rfl ?_
    exact ⟨rfl, rfl⟩
set_option maxRecDepth 100000 in
theorem c_sh_106  : V kX2_shapeOf (rt (.ref (80 + 6)) M) M 0 [(0, .int (nI 106))] [] := by
  refine v_iload_n dX2_shapeOf_0 rfl ?_
  skip
  · refine v_tabIn (tgt := 130) (off := 129) dX2_shapeOf_1 (by decide) (by decide) (by decide) (by decide) ?_
    refine v_ldcS (i := 6) (by decide) rfl rfl dX2_shapeOf_130 ?_
    refine v_aret dX2_shapeOf_132 rfl ?_
    exact ⟨rfl, rfl⟩
set_option maxRecDepth 100000 in
theorem c_sh_107  : V kX2_shapeOf (rt (.ref (80 + 6)) M) M 0 [(0, .int (nI 107))] [] := by
  refine v_iload_n dX2_shapeOf_0 rfl ?_
  skip
  · refine v_tabIn (tgt := 130) (off := 129) dX2_shapeOf_1 (by decide) (by decide) (by decide) (by decide) ?_
    refine v_ldcS (i := 6) (by decide) rfl rfl dX2_shapeOf_130 ?_
    refine v_aret dX2_shapeOf_132 rfl ?_
    exact ⟨rfl, rfl⟩
set_option maxRecDepth 100000 in
theorem c_sh_108  : V kX2_shapeOf (rt (.ref (80 + 6)) M) M 0 [(0, .int (nI 108))] [] := by
  refine v_iload_n dX2_shapeOf_0 rfl ?_
  skip
  · refine v_tabIn (tgt := 130) (off := 129) dX2_shapeOf_1 (by decide) (by decide) (by decide) (by decide) ?_
    refine v_ldcS (i := 6) (by decide) rfl rfl dX2_shapeOf_130 ?_
    refine v_aret dX2_shapeOf_132 rfl ?_
    exact ⟨rfl, rfl⟩
set_option maxRecDepth 100000 in
theorem c_sh_109  : V kX2_shapeOf (rt (.ref (80 + 3)) M) M 0 [(0, .int (nI 109))] [] := by
  refine v_iload_n dX2_shapeOf_0 rfl ?_
  skip
  · refine v_tabIn (tgt := 121) (off := 120) dX2_shapeOf_1 (by decide) (by decide) (by decide) (by decide) ?_
    refine v_ldcS (i := 3) (by decide) rfl rfl dX2_shapeOf_121 ?_
    refine v_aret dX2_shapeOf_123 rfl ?_
    exact ⟨rfl, rfl⟩
set_option maxRecDepth 100000 in
theorem c_sh_110  : V kX2_shapeOf (rt (.ref (80 + 6)) M) M 0 [(0, .int (nI 110))] [] := by
  refine v_iload_n dX2_shapeOf_0 rfl ?_
  skip
  · refine v_tabIn (tgt := 130) (off := 129) dX2_shapeOf_1 (by decide) (by decide) (by decide) (by decide) ?_
    refine v_ldcS (i := 6) (by decide) rfl rfl dX2_shapeOf_130 ?_
    refine v_aret dX2_shapeOf_132 rfl ?_
    exact ⟨rfl, rfl⟩
set_option maxRecDepth 100000 in
theorem c_sh_111  : V kX2_shapeOf (rt (.ref (80 + 2)) M) M 0 [(0, .int (nI 111))] [] := by
  refine v_iload_n dX2_shapeOf_0 rfl ?_
  skip
  · refine v_tabIn (tgt := 118) (off := 117) dX2_shapeOf_1 (by decide) (by decide) (by decide) (by decide) ?_
    refine v_ldcS (i := 2) (by decide) rfl rfl dX2_shapeOf_118 ?_
    refine v_aret dX2_shapeOf_120 rfl ?_
    exact ⟨rfl, rfl⟩
set_option maxRecDepth 100000 in
theorem c_sh_112  : V kX2_shapeOf (rt (.ref (80 + 4)) M) M 0 [(0, .int (nI 112))] [] := by
  refine v_iload_n dX2_shapeOf_0 rfl ?_
  skip
  · refine v_tabIn (tgt := 124) (off := 123) dX2_shapeOf_1 (by decide) (by decide) (by decide) (by decide) ?_
    refine v_ldcS (i := 4) (by decide) rfl rfl dX2_shapeOf_124 ?_
    refine v_aret dX2_shapeOf_126 rfl ?_
    exact ⟨rfl, rfl⟩
set_option maxRecDepth 100000 in
theorem c_sh_113  : V kX2_shapeOf (rt (.ref (80 + 6)) M) M 0 [(0, .int (nI 113))] [] := by
  refine v_iload_n dX2_shapeOf_0 rfl ?_
  skip
  · refine v_tabIn (tgt := 130) (off := 129) dX2_shapeOf_1 (by decide) (by decide) (by decide) (by decide) ?_
    refine v_ldcS (i := 6) (by decide) rfl rfl dX2_shapeOf_130 ?_
    refine v_aret dX2_shapeOf_132 rfl ?_
    exact ⟨rfl, rfl⟩
set_option maxRecDepth 100000 in
theorem c_sh_114  : V kX2_shapeOf (rt (.ref (80 + 1)) M) M 0 [(0, .int (nI 114))] [] := by
  refine v_iload_n dX2_shapeOf_0 rfl ?_
  skip
  · refine v_tabIn (tgt := 115) (off := 114) dX2_shapeOf_1 (by decide) (by decide) (by decide) (by decide) ?_
    refine v_ldcS (i := 1) (by decide) rfl rfl dX2_shapeOf_115 ?_
    refine v_aret dX2_shapeOf_117 rfl ?_
    exact ⟨rfl, rfl⟩
set_option maxRecDepth 100000 in
theorem c_sh_115  : V kX2_shapeOf (rt (.ref (80 + 6)) M) M 0 [(0, .int (nI 115))] [] := by
  refine v_iload_n dX2_shapeOf_0 rfl ?_
  skip
  · refine v_tabIn (tgt := 130) (off := 129) dX2_shapeOf_1 (by decide) (by decide) (by decide) (by decide) ?_
    refine v_ldcS (i := 6) (by decide) rfl rfl dX2_shapeOf_130 ?_
    refine v_aret dX2_shapeOf_132 rfl ?_
    exact ⟨rfl, rfl⟩
set_option maxRecDepth 100000 in
theorem c_sh_116  : V kX2_shapeOf (rt (.ref (80 + 6)) M) M 0 [(0, .int (nI 116))] [] := by
  refine v_iload_n dX2_shapeOf_0 rfl ?_
  skip
  · refine v_tabIn (tgt := 130) (off := 129) dX2_shapeOf_1 (by decide) (by decide) (by decide) (by decide) ?_
    refine v_ldcS (i := 6) (by decide) rfl rfl dX2_shapeOf_130 ?_
    refine v_aret dX2_shapeOf_132 rfl ?_
    exact ⟨rfl, rfl⟩
set_option maxRecDepth 100000 in
theorem c_sh_117  : V kX2_shapeOf (rt (.ref (80 + 6)) M) M 0 [(0, .int (nI 117))] [] := by
  refine v_iload_n dX2_shapeOf_0 rfl ?_
  skip
  · refine v_tabIn (tgt := 130) (off := 129) dX2_shapeOf_1 (by decide) (by decide) (by decide) (by decide) ?_
    refine v_ldcS (i := 6) (by decide) rfl rfl dX2_shapeOf_130 ?_
    refine v_aret dX2_shapeOf_132 rfl ?_
    exact ⟨rfl, rfl⟩
set_option maxRecDepth 100000 in
theorem c_sh_118  : V kX2_shapeOf (rt (.ref (80 + 6)) M) M 0 [(0, .int (nI 118))] [] := by
  refine v_iload_n dX2_shapeOf_0 rfl ?_
  skip
  · refine v_tabIn (tgt := 130) (off := 129) dX2_shapeOf_1 (by decide) (by decide) (by decide) (by decide) ?_
    refine v_ldcS (i := 6) (by decide) rfl rfl dX2_shapeOf_130 ?_
    refine v_aret dX2_shapeOf_132 rfl ?_
    exact ⟨rfl, rfl⟩
set_option maxRecDepth 100000 in
theorem c_sh_119  : V kX2_shapeOf (rt (.ref (80 + 6)) M) M 0 [(0, .int (nI 119))] [] := by
  refine v_iload_n dX2_shapeOf_0 rfl ?_
  skip
  · refine v_tabIn (tgt := 130) (off := 129) dX2_shapeOf_1 (by decide) (by decide) (by decide) (by decide) ?_
    refine v_ldcS (i := 6) (by decide) rfl rfl dX2_shapeOf_130 ?_
    refine v_aret dX2_shapeOf_132 rfl ?_
    exact ⟨rfl, rfl⟩
set_option maxRecDepth 100000 in
theorem c_sh_120  : V kX2_shapeOf (rt (.ref (80 + 2)) M) M 0 [(0, .int (nI 120))] [] := by
  refine v_iload_n dX2_shapeOf_0 rfl ?_
  skip
  · refine v_tabIn (tgt := 118) (off := 117) dX2_shapeOf_1 (by decide) (by decide) (by decide) (by decide) ?_
    refine v_ldcS (i := 2) (by decide) rfl rfl dX2_shapeOf_118 ?_
    refine v_aret dX2_shapeOf_120 rfl ?_
    exact ⟨rfl, rfl⟩
set_option maxRecDepth 100000 in
theorem c_shO {x : Int32} (hx : x.toInt < 97 ∨ 120 < x.toInt) : V kX2_shapeOf (rt (.ref (80 + 6)) M) M 0 [(0, .int x)] [] := by
  refine v_iload_n dX2_shapeOf_0 rfl ?_
  skip
  · refine v_tabOut (tgt := 130) dX2_shapeOf_1 hx (by decide) ?_
    refine v_ldcS (i := 6) (by decide) rfl rfl dX2_shapeOf_130 ?_
    refine v_aret dX2_shapeOf_132 rfl ?_
    exact ⟨rfl, rfl⟩
theorem c_shape {c : Nat} (hc : c < 256) : V kX2_shapeOf (rt (.ref (80 + shN c)) M) M 0 [(0, .int (nI c))] [] := by
  by_cases h : c < 97 ∨ 120 < c
  · have e : shN c = 6 := by unfold shN; rw [if_neg (by omega), if_neg (by omega), if_neg (by omega), if_neg (by omega), if_neg (by omega), if_neg (by omega)]
    rw [e]
    exact c_shO (by rw [nI_toInt (by omega)]; omega)
  · have h2 : c = 97 ∨ c = 98 ∨ c = 99 ∨ c = 100 ∨ c = 101 ∨ c = 102 ∨ c = 103 ∨ c = 104 ∨ c = 105 ∨ c = 106 ∨ c = 107 ∨ c = 108 ∨ c = 109 ∨ c = 110 ∨ c = 111 ∨ c = 112 ∨ c = 113 ∨ c = 114 ∨ c = 115 ∨ c = 116 ∨ c = 117 ∨ c = 118 ∨ c = 119 ∨ c = 120 := by omega
    rcases h2 with rfl | rfl | rfl | rfl | rfl | rfl | rfl | rfl | rfl | rfl | rfl | rfl | rfl | rfl | rfl | rfl | rfl | rfl | rfl | rfl | rfl | rfl | rfl | rfl
    · exact c_sh_97
    · exact c_sh_98
    · exact c_sh_99
    · exact c_sh_100
    · exact c_sh_101
    · exact c_sh_102
    · exact c_sh_103
    · exact c_sh_104
    · exact c_sh_105
    · exact c_sh_106
    · exact c_sh_107
    · exact c_sh_108
    · exact c_sh_109
    · exact c_sh_110
    · exact c_sh_111
    · exact c_sh_112
    · exact c_sh_113
    · exact c_sh_114
    · exact c_sh_115
    · exact c_sh_116
    · exact c_sh_117
    · exact c_sh_118
    · exact c_sh_119
    · exact c_sh_120
end C51
