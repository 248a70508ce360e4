/-! the reference: reads of the told row, small functions -/
section R11
variable {M : vM} {T : Nat → Int32}
theorem c_in (x a b : Int32) : V kX4_in (rt (.int (bI (a ≤ x ∧ x ≤ b))) M) M 0 [(0, .int x), (1, .int a), (2, .int b)] [] := by
  refine v_iload_n dX4_in_0 rfl ?_
  refine v_iload_n dX4_in_1 rfl ?_
  refine v_icmp_lt (tgt := 14) dX4_in_2 (by decide) (fun c2 => ?_) (fun c2 => ?_)
  · refine v_iconst (v := (nI 0)) dX4_in_14 rfl ?_
    refine v_zret dX4_in_15 rfl (Or.inl rfl) ?_
    refine ⟨?_, rfl⟩
    rw [bI_f (fun q => by first | exact absurd c2 (Int32.not_lt.mpr q.1) | exact absurd c7 (Int32.not_lt.mpr q.2))]; rfl
  · refine v_iload_n dX4_in_5 rfl ?_
    refine v_iload_n dX4_in_6 rfl ?_
    refine v_icmp_gt (tgt := 14) dX4_in_7 (by decide) (fun c7 => ?_) (fun c7 => ?_)
    · refine v_iconst (v := (nI 0)) dX4_in_14 rfl ?_
      refine v_zret dX4_in_15 rfl (Or.inl rfl) ?_
      refine ⟨?_, rfl⟩
      rw [bI_f (fun q => by first | exact absurd c2 (Int32.not_lt.mpr q.1) | exact absurd c7 (Int32.not_lt.mpr q.2))]; rfl
    · refine v_iconst (v := (nI 1)) dX4_in_10 rfl ?_
      refine v_goto (tgt := 15) dX4_in_11 (by decide) ?_
      refine v_zret dX4_in_15 rfl (Or.inr rfl) ?_
      refine ⟨?_, rfl⟩
      rw [bI_t ⟨Int32.not_lt.mp c2, Int32.not_lt.mp c7⟩]; rfl
theorem c_inN {x a b : Nat} (hx : x < 2 ^ 31) (ha : a < 2 ^ 31) (hb : b < 2 ^ 31) : V kX4_in (rt (.int (bI (a ≤ x ∧ x ≤ b))) M) M 0 [(0, .int (nI x)), (1, .int (nI a)), (2, .int (nI b))] [] := by
  refine v_iload_n dX4_in_0 rfl ?_
  refine v_iload_n dX4_in_1 rfl ?_
  refine v_icmpN_lt (tgt := 14) dX4_in_2 (by decide) (by omega) (by omega) (fun c2 => ?_) (fun c2 => ?_)
  · refine v_iconst (v := (nI 0)) dX4_in_14 rfl ?_
    refine v_zret dX4_in_15 rfl (Or.inl rfl) ?_
    refine ⟨?_, rfl⟩
    rw [bI_f (by omega)]; rfl
  · refine v_iload_n dX4_in_5 rfl ?_
    refine v_iload_n dX4_in_6 rfl ?_
    refine v_icmpN_gt (tgt := 14) dX4_in_7 (by decide) (by omega) (by omega) (fun c7 => ?_) (fun c7 => ?_)
    · refine v_iconst (v := (nI 0)) dX4_in_14 rfl ?_
      refine v_zret dX4_in_15 rfl (Or.inl rfl) ?_
      refine ⟨?_, rfl⟩
      rw [bI_f (by omega)]; rfl
    · refine v_iconst (v := (nI 1)) dX4_in_10 rfl ?_
      refine v_goto (tgt := 15) dX4_in_11 (by decide) ?_
      refine v_zret dX4_in_15 rfl (Or.inr rfl) ?_
      refine ⟨?_, rfl⟩
      rw [bI_t ⟨c2, c7⟩]; rfl
theorem c_has (s : Int32) {n : Nat} (hn : n < 32) : V kX4_has (rt (.int (bI (bt s n = true))) M) M 0 [(0, .int s), (1, .int (nI n))] [] := by
  refine v_iload_n dX4_has_0 rfl ?_
  refine v_iload_n dX4_has_1 rfl ?_
  refine v_ishr dX4_has_2 ?_
  refine v_iconst (v := (nI 1)) dX4_has_3 rfl ?_
  refine v_iand dX4_has_4 ?_
  refine v_iconst (v := (nI 1)) dX4_has_5 rfl ?_
  refine v_icmp_ne (tgt := 13) dX4_has_6 (by decide) (fun c6 => ?_) (fun c6 => ?_)
  · refine v_iconst (v := (nI 0)) dX4_has_13 rfl ?_
    refine v_zret dX4_has_14 rfl (Or.inl rfl) ?_
    refine ⟨?_, rfl⟩
    rw [bI_f (fun q => c6 ((sh_one s hn).mpr q))]; rfl
  · refine v_iconst (v := (nI 1)) dX4_has_9 rfl ?_
    refine v_goto (tgt := 14) dX4_has_10 (by decide) ?_
    refine v_zret dX4_has_14 rfl (Or.inr rfl) ?_
    refine ⟨?_, rfl⟩
    rw [bI_t ((sh_one s hn).mp c6)]; rfl
theorem c_many (hM : M 61 = T) (hW : WF T) : V kX4_many (rt (.int (nI (nN T))) M) M 0 [(0, .ref 60)] [] := by
  refine v_aload_n dX4_many_0 rfl ?_
  refine v_getR (t := 61) dX4_many_1 fl_X4_7 ⟨by decide, rfl, by decide⟩ rfl rfl ?_
  refine v_bipush (v := (nI 95)) dX4_many_4 rfl ?_
  refine v_iald2 (n := 97) (a := 95) (y := (nI (nN T))) dX4_many_6 ⟨by decide, rfl, rfl⟩ (rfl) (by omega) (by rw [hM]; exact hW.1.1) ?_
  refine v_iret dX4_many_7 rfl ?_
  exact ⟨rfl, rfl⟩
theorem c_sort (hM : M 61 = T) (hW : WF T) {n : Nat} (hn : n < nN T) : V kX4_sort (rt (.int (nI (so T n))) M) M 0 [(0, .ref 60), (1, .int (nI n))] [] := by
  refine v_aload_n dX4_sort_0 rfl ?_
  refine v_getR (t := 61) dX4_sort_1 fl_X4_7 ⟨by decide, rfl, by decide⟩ rfl rfl ?_
  refine v_iload_n dX4_sort_4 rfl ?_
  refine v_iald2 (n := 97) (a := n) (y := (nI (so T n))) dX4_sort_5 ⟨by decide, rfl, rfl⟩ (rfl) (by have := hW.n16; omega) (by rw [hM]; exact (hW.2.2.1 n hn).1) ?_
  refine v_iret dX4_sort_6 rfl ?_
  exact ⟨rfl, rfl⟩
theorem c_isLeaf (hM : M 61 = T) (hW : WF T) {n : Nat} (hn : n < nN T) : V kX4_isLeaf (rt (.int (bI (so T n ≤ 1))) M) M 0 [(0, .ref 60), (1, .int (nI n))] [] := by
  refine v_aload_n dX4_isLeaf_0 rfl ?_
  refine v_getR (t := 61) dX4_isLeaf_1 fl_X4_7 ⟨by decide, rfl, by decide⟩ rfl rfl ?_
  refine v_iload_n dX4_isLeaf_4 rfl ?_
  refine v_iald2 (n := 97) (a := n) (y := (nI (so T n))) dX4_isLeaf_5 ⟨by decide, rfl, rfl⟩ (rfl) (by have := hW.n16; omega) (by rw [hM]; exact (hW.2.2.1 n hn).1) ?_
  refine v_iconst (v := (nI 1)) dX4_isLeaf_6 rfl ?_
  refine v_icmpN_gt (tgt := 14) dX4_isLeaf_7 (by decide) (by have := hW.so5 hn; omega) (by omega) (fun c7 => ?_) (fun c7 => ?_)
  · refine v_iconst (v := (nI 0)) dX4_isLeaf_14 rfl ?_
    refine v_zret dX4_isLeaf_15 rfl (Or.inl rfl) ?_
    refine ⟨?_, rfl⟩
    rw [bI_f (by omega)]; rfl
  · refine v_iconst (v := (nI 1)) dX4_isLeaf_10 rfl ?_
    refine v_goto (tgt := 15) dX4_isLeaf_11 (by decide) ?_
    refine v_zret dX4_isLeaf_15 rfl (Or.inr rfl) ?_
    refine ⟨?_, rfl⟩
    rw [bI_t c7]; rfl
theorem c_clock (hM : M 61 = T) (hW : WF T) {n : Nat} (hn : n < nN T) : V kX4_clock (rt (.int (nI (ck T n))) M) M 0 [(0, .ref 60), (1, .int (nI n))] [] := by
  refine v_aload_n dX4_clock_0 rfl ?_
  refine v_getR (t := 61) dX4_clock_1 fl_X4_7 ⟨by decide, rfl, by decide⟩ rfl rfl ?_
  refine v_bipush (v := (nI 16)) dX4_clock_4 rfl ?_
  refine v_iload_n dX4_clock_6 rfl ?_
  refine v_iaddN dX4_clock_7 ?_
  refine v_iald2 (n := 97) (a := 16 + n) (y := (nI (ck T n))) dX4_clock_8 ⟨by decide, rfl, rfl⟩ (rfl) (by have := hW.n16; omega) (by rw [hM]; exact (hW.2.2.2.1 n hn).1) ?_
  refine v_iret dX4_clock_9 rfl ?_
  exact ⟨rfl, rfl⟩
theorem c_of (hM : M 61 = T) (hW : WF T) {n j : Nat} (hn : n < nN T) (hj : j < hmF (so T n)) : V kX4_of (rt (.int (nI (pt T n j))) M) M 0 [(0, .ref 60), (1, .int (nI n)), (2, .int (nI j))] [] := by
  refine v_aload_n dX4_of_0 rfl ?_
  refine v_getR (t := 61) dX4_of_1 fl_X4_7 ⟨by decide, rfl, by decide⟩ rfl rfl ?_
  refine v_bipush (v := (nI 32)) dX4_of_4 rfl ?_
  refine v_iconst (v := (nI 3)) dX4_of_6 rfl ?_
  refine v_iload_n dX4_of_7 rfl ?_
  refine v_imulN dX4_of_8 ?_
  refine v_iaddN dX4_of_9 ?_
  refine v_iload_n dX4_of_10 rfl ?_
  refine v_iaddN dX4_of_11 ?_
  refine v_iald2 (n := 97) (a := 32 + (3 * n) + j) (y := (nI (pt T n j))) dX4_of_12 ⟨by decide, rfl, rfl⟩ (rfl) (by have := hW.n16; have := hmF_le (so T n); omega) (by rw [hM]; exact (hW.2.2.2.2.1 n hn j hj).1) ?_
  refine v_iret dX4_of_13 rfl ?_
  exact ⟨rfl, rfl⟩
theorem c_hasMany {s : Nat} (hs : s < 2 ^ 31) : V kX4_hasMany (rt (.int (nI (hmF s))) M) M 0 [(0, .int (nI s))] [] := by
  refine v_iload_n dX4_hasMany_0 rfl ?_
  refine v_ifN_ne (tgt := 8) dX4_hasMany_1 (by decide) (by omega) (fun c1 => ?_) (fun c1 => ?_)
  · refine v_iload_n dX4_hasMany_8 rfl ?_
    refine v_iconst (v := (nI 1)) dX4_hasMany_9 rfl ?_
    refine v_icmpN_ne (tgt := 17) dX4_hasMany_10 (by decide) (by omega) (by omega) (fun c10 => ?_) (fun c10 => ?_)
    · refine v_iload_n dX4_hasMany_17 rfl ?_
      refine v_iconst (v := (nI 5)) dX4_hasMany_18 rfl ?_
      refine v_icmpN_ne (tgt := 26) dX4_hasMany_19 (by decide) (by omega) (by omega) (fun c19 => ?_) (fun c19 => ?_)
      · refine v_iconst (v := (nI 2)) dX4_hasMany_26 rfl ?_
        refine v_iret dX4_hasMany_27 rfl ?_
        refine ⟨?_, rfl⟩
        simp [hmF, *]
      · refine v_iconst (v := (nI 3)) dX4_hasMany_22 rfl ?_
        refine v_goto (tgt := 27) dX4_hasMany_23 (by decide) ?_
        refine v_iret dX4_hasMany_27 rfl ?_
        refine ⟨?_, rfl⟩
        simp [hmF, *]
    · refine v_iconst (v := (nI 1)) dX4_hasMany_13 rfl ?_
      refine v_goto (tgt := 27) dX4_hasMany_14 (by decide) ?_
      refine v_iret dX4_hasMany_27 rfl ?_
      refine ⟨?_, rfl⟩
      simp [hmF, *]
  · refine v_iconst (v := (nI 0)) dX4_hasMany_4 rfl ?_
    refine v_goto (tgt := 27) dX4_hasMany_5 (by decide) ?_
    refine v_iret dX4_hasMany_27 rfl ?_
    refine ⟨?_, rfl⟩
    simp [hmF, *]
end R11
