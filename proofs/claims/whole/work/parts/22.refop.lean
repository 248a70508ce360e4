section R22
variable {M M0 : vM} {T R tx : Nat → Int32} {P : List (Nat → Int32)} {Im : Nat → Option (Nat → Int32)} {t : Nat}
set_option maxRecDepth 100000 in
theorem l_note1 {Q : Option Value → vM → Prop} (post : ∀ M1 : vM, (∀ i, i ≠ 65 → M1 i = M0 i) → (∀ j, j < 180 → M1 65 j = M0 65 (j + 36)) → V kX4_note Q M1 39 [(0, .ref 60)] []) (d : Nat) : ∀ (k : Nat) (M : vM), k + d = 180 → (∀ i, i ≠ 65 → M i = M0 i) → (∀ j, j < k → M 65 j = M0 65 (j + 36)) → (∀ j, k ≤ j → M 65 j = M0 65 j) → V kX4_note (Q) M 11 [(0, .ref 60), (1, .int (nI k))] [] := by
  induction d with
  | zero =>
    intro k M hk hz h1 h2
    refine v_iload_n dX4_note_11 rfl ?_
    refine v_sipush (v := (nI 180)) dX4_note_12 rfl ?_
    refine v_icmpN_ge (tgt := 39) dX4_note_15 (by decide) (by omega) (by omega) (fun c15 => ?_) (fun c15 => (by omega))
    refine v_sub (lv' := [(0, .ref 60)]) (by intro q hq; simp at hq; rcases hq with rfl <;> rfl) ?_
    exact post M hz (fun j hj => h1 j (by omega))
  | succ d ih =>
    intro k M hk hz h1 h2
    refine v_iload_n dX4_note_11 rfl ?_
    refine v_sipush (v := (nI 180)) dX4_note_12 rfl ?_
    refine v_icmpN_ge (tgt := 39) dX4_note_15 (by decide) (by omega) (by omega) (fun c15 => (by omega)) (fun c15 => ?_)
    refine v_aload_n dX4_note_18 rfl ?_
    refine v_getR (t := 65) dX4_note_19 fl_X4_22 ⟨by decide, rfl, by decide⟩ rfl rfl ?_
    refine v_iload_n dX4_note_22 rfl ?_
    refine v_aload_n dX4_note_23 rfl ?_
    refine v_getR (t := 65) dX4_note_24 fl_X4_22 ⟨by decide, rfl, by decide⟩ rfl rfl ?_
    refine v_iload_n dX4_note_27 rfl ?_
    refine v_bipush (v := (nI 36)) dX4_note_28 rfl ?_
    refine v_iaddN dX4_note_30 ?_
    refine v_iald2 (n := 216) (a := k + 36) (y := (M0 65 (k + 36))) dX4_note_31 ⟨by decide, rfl, rfl⟩ (rfl) (by omega) (h2 _ (by omega)) ?_
    refine v_iast (n := 216) (a := k) dX4_note_32 ⟨by decide, rfl, rfl⟩ (rfl) (by omega) ?_
    refine v_iincN (lv' := [(0, .ref 60), (1, .int (nI (k + 1)))]) dX4_note_33 rfl (Nat.le_of_ble_eq_true rfl) rfl ?_
    refine v_goto (tgt := 11) dX4_note_36 (by decide) ?_
    refine ih (k + 1) _ (by omega) (fun i h9 => (mup_ne h9).trans (hz i h9)) (fun j h9 => ?_) (fun j h9 => ?_)
    · rw [mup_eq]; simp only [upd]
      by_cases h8 : j = k
      · rw [if_pos h8, h8]
      · rw [if_neg h8]; exact h1 j (by omega)
    · rw [mup_eq]; simp only [upd]; rw [if_neg (by omega)]; exact h2 j (by omega)
set_option maxRecDepth 100000 in
theorem l_note2 {p : Nat} (hp : p < 6) (h5 : M0 60 5 = nI p) (d : Nat) : ∀ (k : Nat) (M : vM), k + d = 36 → (∀ i, i ≠ 65 → M i = M0 i) → (∀ j, j < k → M 65 (36 * p + j) = M0 63 j) → (∀ j, j < 36 * p → M 65 j = M0 65 j) → V kX4_note (fun v M1 => v = none ∧ M1 60 5 = nI (p + 1) ∧ (∀ i, i ≠ 65 → i ≠ 60 → M1 i = M0 i) ∧ (∀ j, j ≠ 5 → M1 60 j = M0 60 j) ∧ (∀ j, j < 36 → M1 65 (36 * p + j) = M0 63 j) ∧ ∀ j, j < 36 * p → M1 65 j = M0 65 j) M 51 [(0, .ref 60), (1, .int (nI k))] [] := by
  induction d with
  | zero =>
    intro k M hk hz h1 h2
    refine v_iload_n dX4_note_51 rfl ?_
    refine v_bipush (v := (nI 36)) dX4_note_52 rfl ?_
    refine v_icmpN_ge (tgt := 83) dX4_note_54 (by decide) (by omega) (by omega) (fun c54 => ?_) (fun c54 => (by omega))
    refine v_aload_n dX4_note_83 rfl ?_
    refine v_dup dX4_note_84 rfl ?_
    refine v_getI2 (y := (nI p)) dX4_note_85 fl_X4_48 ⟨by decide, rfl, by decide⟩ rfl ((congrFun (hz 60 (by decide)) 5).trans h5) ?_
    refine v_iconst (v := (nI 1)) dX4_note_88 rfl ?_
    refine v_iaddN dX4_note_89 ?_
    refine v_putI dX4_note_90 fl_X4_48 ⟨by decide, rfl, by decide⟩ rfl rfl rfl ?_
    refine v_vret dX4_note_93 rfl ?_
    refine ⟨rfl, ?_, fun i h8 h9 => ?_, fun j h9 => ?_, fun j h9 => ?_, fun j h9 => ?_⟩
    · rw [mup_eq]; simp [upd]
    · rw [mup_ne h9]; exact hz i h8
    · rw [mup_eq]; simp only [upd, if_neg h9]; exact congrFun (hz 60 (by decide)) j
    · rw [mup_ne (by decide)]; exact h1 j (by omega)
    · rw [mup_ne (by decide)]; exact h2 j h9
  | succ d ih =>
    intro k M hk hz h1 h2
    refine v_iload_n dX4_note_51 rfl ?_
    refine v_bipush (v := (nI 36)) dX4_note_52 rfl ?_
    refine v_icmpN_ge (tgt := 83) dX4_note_54 (by decide) (by omega) (by omega) (fun c54 => (by omega)) (fun c54 => ?_)
    refine v_aload_n dX4_note_57 rfl ?_
    refine v_getR (t := 65) dX4_note_58 fl_X4_22 ⟨by decide, rfl, by decide⟩ rfl rfl ?_
    refine v_bipush (v := (nI 36)) dX4_note_61 rfl ?_
    refine v_aload_n dX4_note_63 rfl ?_
    refine v_getI2 (y := (nI p)) dX4_note_64 fl_X4_48 ⟨by decide, rfl, by decide⟩ rfl ((congrFun (hz 60 (by decide)) 5).trans h5) ?_
    refine v_imulN dX4_note_67 ?_
    refine v_iload_n dX4_note_68 rfl ?_
    refine v_iaddN dX4_note_69 ?_
    refine v_aload_n dX4_note_70 rfl ?_
    refine v_getR (t := 63) dX4_note_71 fl_X4_16 ⟨by decide, rfl, by decide⟩ rfl rfl ?_
    refine v_iload_n dX4_note_74 rfl ?_
    refine v_iald2 (n := 36) (a := k) (y := (M0 63 k)) dX4_note_75 ⟨by decide, rfl, rfl⟩ (rfl) (by omega) (congrFun (hz 63 (by decide)) k) ?_
    refine v_iast (n := 216) (a := 36 * p + k) dX4_note_76 ⟨by decide, rfl, rfl⟩ (rfl) (by omega) ?_
    refine v_iincN (lv' := [(0, .ref 60), (1, .int (nI (k + 1)))]) dX4_note_77 rfl (Nat.le_of_ble_eq_true rfl) rfl ?_
    refine v_goto (tgt := 51) dX4_note_80 (by decide) ?_
    refine ih (k + 1) _ (by omega) (fun i h9 => (mup_ne h9).trans (hz i h9)) (fun j h9 => ?_) (fun j h9 => ?_)
    · rw [mup_eq]; simp only [upd]
      by_cases h8 : j = k
      · rw [if_pos (by omega), h8]
      · rw [if_neg (by omega)]; exact h1 j (by omega)
    · rw [mup_eq]; simp only [upd]; rw [if_neg (by omega)]; exact h2 j h9
theorem REF_note6 {M M1 : vM} (hr : REF M T R P Im tx t) (h6 : P.length = 6) (g1 : M1 60 5 = nI (5 + 1)) (g2 : ∀ i, i ≠ 65 → i ≠ 60 → M1 i = M i) (g3 : ∀ j, j ≠ 5 → M1 60 j = M 60 j) (g4 : ∀ j, j < 36 → M1 65 (36 * 5 + j) = M 63 j) (g5 : ∀ j, j < 180 → M1 65 j = M 65 (j + 36)) : REF M1 T R ((R :: P).take 6) Im tx t := by
  obtain ⟨r1, r2, r3, r4, r5⟩ := hr
  refine ⟨(g2 61 (by decide) (by decide)).trans r1, (g2 63 (by decide) (by decide)).trans r2, ⟨?_, fun i hi j hj => ?_⟩, iR_c r4 (g2 67 (by decide) (by decide)) (g2 66 (by decide) (by decide)), xR_c r5 (g3 11 (by decide)) (g2 70 (by decide) (by decide))⟩
  · rw [g1]; congr 1; simp; omega
  · have hl : ((R :: P).take 6).length = 6 := by simp; omega
    rw [hl] at hi ⊢
    cases i with
    | zero =>
      have := g4 j hj
      rw [r2] at this
      simpa using this
    | succ i =>
      have h1 := r3.2 i (by omega) j hj
      rw [h6] at h1
      have h2 := g5 (36 * (6 - 1 - (i + 1)) + j) (by omega)
      rw [h2, show 36 * (6 - 1 - (i + 1)) + j + 36 = 36 * (6 - 1 - i) + j by omega, h1]
      have : ((R :: P).take 6).getD (i + 1) z0 = P.getD i z0 := by
        simp only [List.getD_eq_getElem?_getD, List.getElem?_take]
        rw [if_pos (by omega)]; simp
      rw [this]
theorem REF_note5 {M M1 : vM} (hr : REF M T R P Im tx t) (h6 : P.length < 6) (g1 : M1 60 5 = nI (P.length + 1)) (g2 : ∀ i, i ≠ 65 → i ≠ 60 → M1 i = M i) (g3 : ∀ j, j ≠ 5 → M1 60 j = M 60 j) (g4 : ∀ j, j < 36 → M1 65 (36 * P.length + j) = M 63 j) (g5 : ∀ j, j < 36 * P.length → M1 65 j = M 65 j) : REF M1 T R ((R :: P).take 6) Im tx t := by
  obtain ⟨r1, r2, r3, r4, r5⟩ := hr
  have e6 : (R :: P).take 6 = R :: P := List.take_of_length_le (by simp; omega)
  rw [e6]
  refine ⟨(g2 61 (by decide) (by decide)).trans r1, (g2 63 (by decide) (by decide)).trans r2, ⟨?_, fun i hi j hj => ?_⟩, iR_c r4 (g2 67 (by decide) (by decide)) (g2 66 (by decide) (by decide)), xR_c r5 (g3 11 (by decide)) (g2 70 (by decide) (by decide))⟩
  · rw [g1]; rfl
  · have hl : (R :: P).length = P.length + 1 := rfl
    rw [hl] at hi ⊢
    cases i with
    | zero =>
      have := g4 j hj
      rw [r2] at this
      simpa using this
    | succ i =>
      have h1 := r3.2 i (by omega) j hj
      have h2 := g5 (36 * (P.length + 1 - 1 - (i + 1)) + j) (by omega)
      rw [h2, show P.length + 1 - 1 - (i + 1) = P.length - 1 - i by omega, h1]
      simp
set_option maxRecDepth 100000 in
theorem c_note (hr : REF M T R P Im tx t) (hW : WF T) (hp6 : P.length ≤ 6) : V kX4_note (fun v M1 => v = none ∧ REF M1 T R ((R :: P).take 6) Im tx t ∧ kp M M1) M 0 [(0, .ref 60)] [] := by
  have h16 := hW.n16
  refine v_aload_n dX4_note_0 rfl ?_
  refine v_getI2 (y := (nI P.length)) dX4_note_1 fl_X4_48 ⟨by decide, rfl, by decide⟩ rfl (hr.2.2.1.1) ?_
  refine v_bipush (v := (nI 6)) dX4_note_4 rfl ?_
  refine v_icmpN_ne (tgt := 49) dX4_note_6 (by decide) (by omega) (by omega) (fun c6 => ?_) (fun c6 => ?_)
  · refine v_iconst (v := (nI 0)) dX4_note_49 rfl ?_
    refine v_istore_n (lv' := [(0, .ref 60), (1, .int (nI 0))]) dX4_note_50 (Nat.le_of_ble_eq_true rfl) rfl ?_
    refine v_post ?_ (l_note2 (M0 := M) (p := P.length) (by omega) hr.2.2.1.1 36 0 _ (by omega) (fun _ _ => rfl) (fun j h => absurd h (by omega)) (fun _ _ => rfl))
    rintro v M1 ⟨rfl, g1, g2, g3, g4, g5⟩
    exact ⟨rfl, REF_note5 hr (by omega) g1 g2 g3 g4 g5, fun i a => g2 i (by omega) (by omega)⟩
  · refine v_iconst (v := (nI 0)) dX4_note_9 rfl ?_
    refine v_istore_n (lv' := [(0, .ref 60), (1, .int (nI 0))]) dX4_note_10 (Nat.le_of_ble_eq_true rfl) rfl ?_
    have h6 : P.length = 6 := c6
    refine l_note1 (M0 := M) (fun M2 hz hs => ?_) 180 0 M (by omega) (fun _ _ => rfl) (fun j h => absurd h (by omega)) (fun _ _ => rfl)
    refine v_aload_n dX4_note_39 rfl ?_
    refine v_dup dX4_note_40 rfl ?_
    refine v_getI2 (y := (nI 6)) dX4_note_41 fl_X4_48 ⟨by decide, rfl, by decide⟩ rfl ((congrFun (hz 60 (by decide)) 5).trans (by rw [hr.2.2.1.1, h6])) ?_
    refine v_iconst (v := (nI 1)) dX4_note_44 rfl ?_
    refine v_isubN dX4_note_45 (by decide) ?_
    refine v_putI dX4_note_46 fl_X4_48 ⟨by decide, rfl, by decide⟩ rfl rfl rfl ?_
    refine v_iconst (v := (nI 0)) dX4_note_49 rfl ?_
    refine v_istore_n (lv' := [(0, .ref 60), (1, .int (nI 0))]) dX4_note_50 (Nat.le_of_ble_eq_true rfl) rfl ?_
    refine v_post ?_ (l_note2 (M0 := mup M2 60 5 (nI (6 - 1))) (p := 5) (by decide) (by rw [mup_eq]; simp [upd]) 36 0 _ (by omega) (fun _ _ => rfl) (fun j h => absurd h (by omega)) (fun _ _ => rfl))
    rintro v M1 ⟨rfl, g1, g2, g3, g4, g5⟩
    refine ⟨rfl, REF_note6 hr h6 g1 (fun i a b => (g2 i a b).trans ((mup_ne b).trans (hz i a))) (fun j a => (g3 j a).trans (by rw [mup_eq]; simp only [upd, if_neg a]; exact congrFun (hz 60 (by decide)) j)) (fun j a => (g4 j a).trans (by rw [mup_ne (by decide)]; exact congrFun (hz 63 (by decide)) j)) (fun j a => (g5 j (by omega)).trans (by rw [mup_ne (by decide)]; exact hs j (by omega))), fun i a => (g2 i (by omega) (by omega)).trans ((mup_ne (by omega)).trans (hz i (by omega)))⟩
end R22
