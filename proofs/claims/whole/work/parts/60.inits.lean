/-! constructors -/
theorem aw_int : Cond.arrayClass .int ∈ wg := (wgi 131 (by decide +kernel) (by decide +kernel))
theorem aw_char : Cond.arrayClass .char ∈ wg := (wgi 130 (by decide +kernel) (by decide +kernel))
theorem aw_bool : Cond.arrayClass .boolean ∈ wg := (wgi 255 (by decide +kernel) (by decide +kernel))
theorem ki_X0 : KI kX0_init := ⟨⟨⟨(wgi 136 (by decide +kernel) (by decide +kernel)), (wgi 83 (by decide +kernel) (by decide +kernel))⟩, ⟨(by decide +kernel), (by decide +kernel), (by decide +kernel)⟩, (by decide +kernel), rfl⟩, rfl, (wgi 135 (by decide +kernel) (by decide +kernel)), rfl⟩
theorem ki_X1 : KI kX1_init := ⟨⟨⟨(wgi 196 (by decide +kernel) (by decide +kernel)), (wgi 84 (by decide +kernel) (by decide +kernel))⟩, ⟨(by decide +kernel), (by decide +kernel), (by decide +kernel)⟩, (by decide +kernel), rfl⟩, rfl, (wgi 195 (by decide +kernel) (by decide +kernel)), rfl⟩
theorem ki_X2 : KI kX2_init := ⟨⟨⟨(wgi 105 (by decide +kernel) (by decide +kernel)), (wgi 82 (by decide +kernel) (by decide +kernel))⟩, ⟨(by decide +kernel), (by decide +kernel), (by decide +kernel)⟩, (by decide +kernel), rfl⟩, rfl, (wgi 104 (by decide +kernel) (by decide +kernel)), rfl⟩
theorem ki_X3 : KI kX3_init := ⟨⟨⟨(wgi 97 (by decide +kernel) (by decide +kernel)), (wgi 81 (by decide +kernel) (by decide +kernel))⟩, ⟨(by decide +kernel), (by decide +kernel), (by decide +kernel)⟩, (by decide +kernel), rfl⟩, rfl, (wgi 96 (by decide +kernel) (by decide +kernel)), rfl⟩
theorem ki_X4 : KI kX4_init := ⟨⟨⟨(wgi 612 (by decide +kernel) (by decide +kernel)), (wgi 85 (by decide +kernel) (by decide +kernel))⟩, ⟨(by decide +kernel), (by decide +kernel), (by decide +kernel)⟩, (by decide +kernel), rfl⟩, rfl, (wgi 611 (by decide +kernel) (by decide +kernel)), rfl⟩
theorem mi_L_9 : ML RL 9 kX3_init := Or.inl (wgi 95 (by decide +kernel) (by decide +kernel))
theorem mi_X3_9 : ML RX3 9 kX2_init := Or.inr ⟨"ClockCrossings", (nwi 23 (by decide +kernel) (by decide +kernel))⟩
theorem mi_X3_18 : ML RX3 18 kX0_init := Or.inr ⟨"ClockCrossings", (nwi 54 (by decide +kernel) (by decide +kernel))⟩
theorem mi_X3_28 : ML RX3 28 kX1_init := Or.inr ⟨"ClockCrossings", (nwi 114 (by decide +kernel) (by decide +kernel))⟩
theorem mi_L_12 : ML RL 12 kX4_init := Or.inl (wgi 610 (by decide +kernel) (by decide +kernel))
theorem df_0 : ∀ j, j < Ncl 0 → defaultValue (tyc 0 j) = vp_V [.int 0, .int 0, .null, .null, .null, .null, .null, .null, .null, .null, .null] j := fun j hj => by
  have hj : j < 11 := hj
  rcases (show j = 0 ∨ j = 1 ∨ j = 2 ∨ j = 3 ∨ j = 4 ∨ j = 5 ∨ j = 6 ∨ j = 7 ∨ j = 8 ∨ j = 9 ∨ j = 10 by omega) with rfl | rfl | rfl | rfl | rfl | rfl | rfl | rfl | rfl | rfl | rfl <;> rfl
theorem df_1 : ∀ j, j < Ncl 1 → defaultValue (tyc 1 j) = vp_V [.int 0, .int 0, .int 0, .int 0, .null, .null] j := fun j hj => by
  have hj : j < 6 := hj
  rcases (show j = 0 ∨ j = 1 ∨ j = 2 ∨ j = 3 ∨ j = 4 ∨ j = 5 by omega) with rfl | rfl | rfl | rfl | rfl | rfl <;> rfl
theorem df_2 : ∀ j, j < Ncl 2 → defaultValue (tyc 2 j) = vp_V [.null, .int 0, .int 0, .int 0, .int 0, .int 0, .null] j := fun j hj => by
  have hj : j < 7 := hj
  rcases (show j = 0 ∨ j = 1 ∨ j = 2 ∨ j = 3 ∨ j = 4 ∨ j = 5 ∨ j = 6 by omega) with rfl | rfl | rfl | rfl | rfl | rfl | rfl <;> rfl
theorem df_3 : ∀ j, j < Ncl 3 → defaultValue (tyc 3 j) = vp_V [.null, .null, .null, .null, .null, .int 0, .null, .null, .null, .null] j := fun j hj => by
  have hj : j < 10 := hj
  rcases (show j = 0 ∨ j = 1 ∨ j = 2 ∨ j = 3 ∨ j = 4 ∨ j = 5 ∨ j = 6 ∨ j = 7 ∨ j = 8 ∨ j = 9 by omega) with rfl | rfl | rfl | rfl | rfl | rfl | rfl | rfl | rfl | rfl <;> rfl
theorem df_4 : ∀ j, j < Ncl 4 → defaultValue (tyc 4 j) = vp_V [.null, .null, .null, .null, .null, .int 0, .null, .null, .null, .null, .null, .int 0, .int 0, .int 0, .int 0, .int 0, .int 0] j := fun j hj => by
  have hj : j < 17 := hj
  rcases (show j = 0 ∨ j = 1 ∨ j = 2 ∨ j = 3 ∨ j = 4 ∨ j = 5 ∨ j = 6 ∨ j = 7 ∨ j = 8 ∨ j = 9 ∨ j = 10 ∨ j = 11 ∨ j = 12 ∨ j = 13 ∨ j = 14 ∨ j = 15 ∨ j = 16 by omega) with rfl | rfl | rfl | rfl | rfl | rfl | rfl | rfl | rfl | rfl | rfl | rfl | rfl | rfl | rfl | rfl | rfl <;> rfl
section I60
variable {E : uE}
def mkX1 (E : uE) (i : Nat) : uE := eup (eup (eup (eup (eup (E) (i + 1) (fun Z => .inl (Z.2.2 10, 16, .inl (fun _ => 0)))) (i) (fun Z => .inr (1, [.int 0, .int 0, .int 0, .int 0, .ref (Z.1 (i + 1)), .null]))) (i + 2) (fun Z => .inl (Z.2.2 10, 16, .inl (fun _ => 0)))) (i) (fun Z => .inr (1, [.int 0, .int 0, .int 0, .int 0, .ref (Z.1 (i + 1)), .ref (Z.1 (i + 2))]))) (i) (fun Z => .inr (1, [.int (nI 2), .int 0, .int 0, .int 0, .ref (Z.1 (i + 1)), .ref (Z.1 (i + 2))]))
set_option maxRecDepth 100000 in
theorem iX1 {i : Nat} (hi : i + 2 < 71) (hE0 : ∀ Z, E Z i = .inr (1, [.int 0, .int 0, .int 0, .int 0, .null, .null])) : U kX1_init (fun v n1 E1 => v = none ∧ (n1 = i + 3 ∧ E1 = mkX1 E i)) 2 32 (i + 1) E 0 0 0 [(0, .ref i)] [] := by
  refine u_aload_n dX1_init_0 rfl ?_
  refine u_objI dX1_init_1 (wgi 197 (by decide +kernel) (by decide +kernel)) (Nat.le_of_ble_eq_true rfl) (Nat.le_of_ble_eq_true rfl) ?_
  refine u_aload_n dX1_init_4 rfl ?_
  refine u_bipush (v := nI 16) dX1_init_5 rfl ?_
  refine u_newa (atype := .int) (ty := .int) (t0 := 0) (t := 10) (N := 16) dX1_init_7 rfl (fun _ => rfl) (fun _ _ h => h) rfl aw_int (by omega) (by decide) (by decide) (Nat.le_of_ble_eq_true rfl) (Nat.le_of_ble_eq_true rfl) ?_
  refine u_put (i := i) (ci := 1) (j := 4) (fs := fun Z => [.int 0, .int 0, .int 0, .int 0, .null, .null]) dX1_init_9 (by decide) (by decide) (wgi 206 (by decide +kernel) (by decide +kernel)) (by omega) (by omega) (fun Z => by first | exact (eup_ne (by omega)).trans (hE0 Z) | exact (eup_ne (by omega)).trans eup_eq | exact eup_eq) (fun _ => rfl) (Or.inr ⟨rfl, rfl, rfl⟩) (fun _ => rfl) (fun _ => rfl) ?_
  refine u_aload_n dX1_init_12 rfl ?_
  refine u_bipush (v := nI 16) dX1_init_13 rfl ?_
  refine u_newa (atype := .int) (ty := .int) (t0 := 0) (t := 10) (N := 16) dX1_init_15 rfl (fun _ => rfl) (fun _ _ h => h) rfl aw_int (by omega) (by decide) (by decide) (Nat.le_of_ble_eq_true rfl) (Nat.le_of_ble_eq_true rfl) ?_
  refine u_put (i := i) (ci := 1) (j := 5) (fs := fun Z => [.int 0, .int 0, .int 0, .int 0, .ref (Z.1 (i + 1)), .null]) dX1_init_17 (by decide) (by decide) (wgi 208 (by decide +kernel) (by decide +kernel)) (by omega) (by omega) (fun Z => by first | exact (eup_ne (by omega)).trans (hE0 Z) | exact (eup_ne (by omega)).trans eup_eq | exact eup_eq) (fun _ => rfl) (Or.inr ⟨rfl, rfl, rfl⟩) (fun _ => rfl) (fun _ => rfl) ?_
  refine u_aload_n dX1_init_20 rfl ?_
  refine u_iconst (v := nI 2) dX1_init_21 rfl ?_
  refine u_put (i := i) (ci := 1) (j := 0) (fs := fun Z => [.int 0, .int 0, .int 0, .int 0, .ref (Z.1 (i + 1)), .ref (Z.1 (i + 2))]) dX1_init_22 (by decide) (by decide) (wgi 198 (by decide +kernel) (by decide +kernel)) (by omega) (by omega) (fun Z => by first | exact (eup_ne (by omega)).trans (hE0 Z) | exact (eup_ne (by omega)).trans eup_eq | exact eup_eq) (fun _ => rfl) (Or.inl rfl) (fun _ => rfl) (fun _ => rfl) ?_
  exact u_ret dX1_init_25 rfl rfl rfl ⟨rfl, rfl, rfl⟩
def mkX0 (E : uE) (i : Nat) : uE := eup (eup (eup (eup (eup (eup (eup (eup (eup (eup (eup (eup (eup (eup (eup (eup (eup (eup (E) (i + 1) (fun Z => .inl (Z.2.2 10, 16, .inl (fun _ => 0)))) (i) (fun Z => .inr (0, [.int 0, .int 0, .ref (Z.1 (i + 1)), .null, .null, .null, .null, .null, .null, .null, .null]))) (i + 2) (fun Z => .inl (Z.2.2 10, 16, .inl (fun _ => 0)))) (i) (fun Z => .inr (0, [.int 0, .int 0, .ref (Z.1 (i + 1)), .ref (Z.1 (i + 2)), .null, .null, .null, .null, .null, .null, .null]))) (i + 3) (fun Z => .inl (Z.2.2 10, 48, .inl (fun _ => 0)))) (i) (fun Z => .inr (0, [.int 0, .int 0, .ref (Z.1 (i + 1)), .ref (Z.1 (i + 2)), .ref (Z.1 (i + 3)), .null, .null, .null, .null, .null, .null]))) (i + 4) (fun Z => .inl (Z.2.2 10, 16, .inl (fun _ => 0)))) (i) (fun Z => .inr (0, [.int 0, .int 0, .ref (Z.1 (i + 1)), .ref (Z.1 (i + 2)), .ref (Z.1 (i + 3)), .ref (Z.1 (i + 4)), .null, .null, .null, .null, .null]))) (i + 5) (fun Z => .inl (Z.2.2 10, 16, .inl (fun _ => 0)))) (i) (fun Z => .inr (0, [.int 0, .int 0, .ref (Z.1 (i + 1)), .ref (Z.1 (i + 2)), .ref (Z.1 (i + 3)), .ref (Z.1 (i + 4)), .ref (Z.1 (i + 5)), .null, .null, .null, .null]))) (i + 6) (fun Z => .inl (Z.2.2 10, 16, .inl (fun _ => 0)))) (i) (fun Z => .inr (0, [.int 0, .int 0, .ref (Z.1 (i + 1)), .ref (Z.1 (i + 2)), .ref (Z.1 (i + 3)), .ref (Z.1 (i + 4)), .ref (Z.1 (i + 5)), .ref (Z.1 (i + 6)), .null, .null, .null]))) (i + 7) (fun Z => .inl (Z.2.2 10, 16, .inl (fun _ => 0)))) (i) (fun Z => .inr (0, [.int 0, .int 0, .ref (Z.1 (i + 1)), .ref (Z.1 (i + 2)), .ref (Z.1 (i + 3)), .ref (Z.1 (i + 4)), .ref (Z.1 (i + 5)), .ref (Z.1 (i + 6)), .ref (Z.1 (i + 7)), .null, .null]))) (i + 8) (fun Z => .inl (Z.2.2 10, 16, .inl (fun _ => 0)))) (i) (fun Z => .inr (0, [.int 0, .int 0, .ref (Z.1 (i + 1)), .ref (Z.1 (i + 2)), .ref (Z.1 (i + 3)), .ref (Z.1 (i + 4)), .ref (Z.1 (i + 5)), .ref (Z.1 (i + 6)), .ref (Z.1 (i + 7)), .ref (Z.1 (i + 8)), .null]))) (i + 9) (fun Z => .inl (Z.2.2 10, 3, .inl xper))) (i) (fun Z => .inr (0, [.int 0, .int 0, .ref (Z.1 (i + 1)), .ref (Z.1 (i + 2)), .ref (Z.1 (i + 3)), .ref (Z.1 (i + 4)), .ref (Z.1 (i + 5)), .ref (Z.1 (i + 6)), .ref (Z.1 (i + 7)), .ref (Z.1 (i + 8)), .ref (Z.1 (i + 9))]))
set_option maxRecDepth 100000 in
theorem iX0 {i : Nat} (hi : i + 9 < 71) (hE0 : ∀ Z, E Z i = .inr (0, [.int 0, .int 0, .null, .null, .null, .null, .null, .null, .null, .null, .null])) : U kX0_init (fun v n1 E1 => v = none ∧ (n1 = i + 10 ∧ E1 = mkX0 E i)) 9 163 (i + 1) E 0 0 0 [(0, .ref i)] [] := by
  refine u_aload_n dX0_init_0 rfl ?_
  refine u_objI dX0_init_1 (wgi 137 (by decide +kernel) (by decide +kernel)) (Nat.le_of_ble_eq_true rfl) (Nat.le_of_ble_eq_true rfl) ?_
  refine u_aload_n dX0_init_4 rfl ?_
  refine u_bipush (v := nI 16) dX0_init_5 rfl ?_
  refine u_newa (atype := .int) (ty := .int) (t0 := 0) (t := 10) (N := 16) dX0_init_7 rfl (fun _ => rfl) (fun _ _ h => h) rfl aw_int (by omega) (by decide) (by decide) (Nat.le_of_ble_eq_true rfl) (Nat.le_of_ble_eq_true rfl) ?_
  refine u_put (i := i) (ci := 0) (j := 2) (fs := fun Z => [.int 0, .int 0, .null, .null, .null, .null, .null, .null, .null, .null, .null]) dX0_init_9 (by decide) (by decide) (wgi 152 (by decide +kernel) (by decide +kernel)) (by omega) (by omega) (fun Z => by first | exact (eup_ne (by omega)).trans (hE0 Z) | exact (eup_ne (by omega)).trans eup_eq | exact eup_eq) (fun _ => rfl) (Or.inr ⟨rfl, rfl, rfl⟩) (fun _ => rfl) (fun _ => rfl) ?_
  refine u_aload_n dX0_init_12 rfl ?_
  refine u_bipush (v := nI 16) dX0_init_13 rfl ?_
  refine u_newa (atype := .int) (ty := .int) (t0 := 0) (t := 10) (N := 16) dX0_init_15 rfl (fun _ => rfl) (fun _ _ h => h) rfl aw_int (by omega) (by decide) (by decide) (Nat.le_of_ble_eq_true rfl) (Nat.le_of_ble_eq_true rfl) ?_
  refine u_put (i := i) (ci := 0) (j := 3) (fs := fun Z => [.int 0, .int 0, .ref (Z.1 (i + 1)), .null, .null, .null, .null, .null, .null, .null, .null]) dX0_init_17 (by decide) (by decide) (wgi 155 (by decide +kernel) (by decide +kernel)) (by omega) (by omega) (fun Z => by first | exact (eup_ne (by omega)).trans (hE0 Z) | exact (eup_ne (by omega)).trans eup_eq | exact eup_eq) (fun _ => rfl) (Or.inr ⟨rfl, rfl, rfl⟩) (fun _ => rfl) (fun _ => rfl) ?_
  refine u_aload_n dX0_init_20 rfl ?_
  refine u_bipush (v := nI 48) dX0_init_21 rfl ?_
  refine u_newa (atype := .int) (ty := .int) (t0 := 0) (t := 10) (N := 48) dX0_init_23 rfl (fun _ => rfl) (fun _ _ h => h) rfl aw_int (by omega) (by decide) (by decide) (Nat.le_of_ble_eq_true rfl) (Nat.le_of_ble_eq_true rfl) ?_
  refine u_put (i := i) (ci := 0) (j := 4) (fs := fun Z => [.int 0, .int 0, .ref (Z.1 (i + 1)), .ref (Z.1 (i + 2)), .null, .null, .null, .null, .null, .null, .null]) dX0_init_25 (by decide) (by decide) (wgi 158 (by decide +kernel) (by decide +kernel)) (by omega) (by omega) (fun Z => by first | exact (eup_ne (by omega)).trans (hE0 Z) | exact (eup_ne (by omega)).trans eup_eq | exact eup_eq) (fun _ => rfl) (Or.inr ⟨rfl, rfl, rfl⟩) (fun _ => rfl) (fun _ => rfl) ?_
  refine u_aload_n dX0_init_28 rfl ?_
  refine u_bipush (v := nI 16) dX0_init_29 rfl ?_
  refine u_newa (atype := .int) (ty := .int) (t0 := 0) (t := 10) (N := 16) dX0_init_31 rfl (fun _ => rfl) (fun _ _ h => h) rfl aw_int (by omega) (by decide) (by decide) (Nat.le_of_ble_eq_true rfl) (Nat.le_of_ble_eq_true rfl) ?_
  refine u_put (i := i) (ci := 0) (j := 5) (fs := fun Z => [.int 0, .int 0, .ref (Z.1 (i + 1)), .ref (Z.1 (i + 2)), .ref (Z.1 (i + 3)), .null, .null, .null, .null, .null, .null]) dX0_init_33 (by decide) (by decide) (wgi 159 (by decide +kernel) (by decide +kernel)) (by omega) (by omega) (fun Z => by first | exact (eup_ne (by omega)).trans (hE0 Z) | exact (eup_ne (by omega)).trans eup_eq | exact eup_eq) (fun _ => rfl) (Or.inr ⟨rfl, rfl, rfl⟩) (fun _ => rfl) (fun _ => rfl) ?_
  refine u_aload_n dX0_init_36 rfl ?_
  refine u_bipush (v := nI 16) dX0_init_37 rfl ?_
  refine u_newa (atype := .int) (ty := .int) (t0 := 0) (t := 10) (N := 16) dX0_init_39 rfl (fun _ => rfl) (fun _ _ h => h) rfl aw_int (by omega) (by decide) (by decide) (Nat.le_of_ble_eq_true rfl) (Nat.le_of_ble_eq_true rfl) ?_
  refine u_put (i := i) (ci := 0) (j := 6) (fs := fun Z => [.int 0, .int 0, .ref (Z.1 (i + 1)), .ref (Z.1 (i + 2)), .ref (Z.1 (i + 3)), .ref (Z.1 (i + 4)), .null, .null, .null, .null, .null]) dX0_init_41 (by decide) (by decide) (wgi 160 (by decide +kernel) (by decide +kernel)) (by omega) (by omega) (fun Z => by first | exact (eup_ne (by omega)).trans (hE0 Z) | exact (eup_ne (by omega)).trans eup_eq | exact eup_eq) (fun _ => rfl) (Or.inr ⟨rfl, rfl, rfl⟩) (fun _ => rfl) (fun _ => rfl) ?_
  refine u_aload_n dX0_init_44 rfl ?_
  refine u_bipush (v := nI 16) dX0_init_45 rfl ?_
  refine u_newa (atype := .int) (ty := .int) (t0 := 0) (t := 10) (N := 16) dX0_init_47 rfl (fun _ => rfl) (fun _ _ h => h) rfl aw_int (by omega) (by decide) (by decide) (Nat.le_of_ble_eq_true rfl) (Nat.le_of_ble_eq_true rfl) ?_
  refine u_put (i := i) (ci := 0) (j := 7) (fs := fun Z => [.int 0, .int 0, .ref (Z.1 (i + 1)), .ref (Z.1 (i + 2)), .ref (Z.1 (i + 3)), .ref (Z.1 (i + 4)), .ref (Z.1 (i + 5)), .null, .null, .null, .null]) dX0_init_49 (by decide) (by decide) (wgi 162 (by decide +kernel) (by decide +kernel)) (by omega) (by omega) (fun Z => by first | exact (eup_ne (by omega)).trans (hE0 Z) | exact (eup_ne (by omega)).trans eup_eq | exact eup_eq) (fun _ => rfl) (Or.inr ⟨rfl, rfl, rfl⟩) (fun _ => rfl) (fun _ => rfl) ?_
  refine u_aload_n dX0_init_52 rfl ?_
  refine u_bipush (v := nI 16) dX0_init_53 rfl ?_
  refine u_newa (atype := .int) (ty := .int) (t0 := 0) (t := 10) (N := 16) dX0_init_55 rfl (fun _ => rfl) (fun _ _ h => h) rfl aw_int (by omega) (by decide) (by decide) (Nat.le_of_ble_eq_true rfl) (Nat.le_of_ble_eq_true rfl) ?_
  refine u_put (i := i) (ci := 0) (j := 8) (fs := fun Z => [.int 0, .int 0, .ref (Z.1 (i + 1)), .ref (Z.1 (i + 2)), .ref (Z.1 (i + 3)), .ref (Z.1 (i + 4)), .ref (Z.1 (i + 5)), .ref (Z.1 (i + 6)), .null, .null, .null]) dX0_init_57 (by decide) (by decide) (wgi 165 (by decide +kernel) (by decide +kernel)) (by omega) (by omega) (fun Z => by first | exact (eup_ne (by omega)).trans (hE0 Z) | exact (eup_ne (by omega)).trans eup_eq | exact eup_eq) (fun _ => rfl) (Or.inr ⟨rfl, rfl, rfl⟩) (fun _ => rfl) (fun _ => rfl) ?_
  refine u_aload_n dX0_init_60 rfl ?_
  refine u_bipush (v := nI 16) dX0_init_61 rfl ?_
  refine u_newa (atype := .int) (ty := .int) (t0 := 0) (t := 10) (N := 16) dX0_init_63 rfl (fun _ => rfl) (fun _ _ h => h) rfl aw_int (by omega) (by decide) (by decide) (Nat.le_of_ble_eq_true rfl) (Nat.le_of_ble_eq_true rfl) ?_
  refine u_put (i := i) (ci := 0) (j := 9) (fs := fun Z => [.int 0, .int 0, .ref (Z.1 (i + 1)), .ref (Z.1 (i + 2)), .ref (Z.1 (i + 3)), .ref (Z.1 (i + 4)), .ref (Z.1 (i + 5)), .ref (Z.1 (i + 6)), .ref (Z.1 (i + 7)), .null, .null]) dX0_init_65 (by decide) (by decide) (wgi 167 (by decide +kernel) (by decide +kernel)) (by omega) (by omega) (fun Z => by first | exact (eup_ne (by omega)).trans (hE0 Z) | exact (eup_ne (by omega)).trans eup_eq | exact eup_eq) (fun _ => rfl) (Or.inr ⟨rfl, rfl, rfl⟩) (fun _ => rfl) (fun _ => rfl) ?_
  refine u_aload_n dX0_init_68 rfl ?_
  refine u_gets97 dX0_init_69 fp_X0 ?_
  refine u_clone dX0_init_72 rfl (by omega) (Nat.le_of_ble_eq_true rfl) (Nat.le_of_ble_eq_true rfl) (Nat.le_of_ble_eq_true rfl) (Nat.le_of_ble_eq_true rfl) ?_
  refine u_castI (i := i + 9) (N := 3) (f := xper) dX0_init_75 (wgi 146 (by decide +kernel) (by decide +kernel)) (by omega) (fun Z => by first | exact (eup_ne (by omega)).trans (hE0 Z) | exact (eup_ne (by omega)).trans eup_eq | exact eup_eq) ?_
  refine u_put (i := i) (ci := 0) (j := 10) (fs := fun Z => [.int 0, .int 0, .ref (Z.1 (i + 1)), .ref (Z.1 (i + 2)), .ref (Z.1 (i + 3)), .ref (Z.1 (i + 4)), .ref (Z.1 (i + 5)), .ref (Z.1 (i + 6)), .ref (Z.1 (i + 7)), .ref (Z.1 (i + 8)), .null]) dX0_init_78 (by decide) (by decide) (wgi 168 (by decide +kernel) (by decide +kernel)) (by omega) (by omega) (fun Z => by first | exact (eup_ne (by omega)).trans (hE0 Z) | exact (eup_ne (by omega)).trans eup_eq | exact eup_eq) (fun _ => rfl) (Or.inr ⟨rfl, rfl, rfl⟩) (fun _ => rfl) (fun _ => rfl) ?_
  exact u_ret dX0_init_81 rfl rfl rfl ⟨rfl, rfl, rfl⟩
def mkX2 (E : uE) (i : Nat) : uE := eup (eup (eup (eup (E) (i + 1) (fun Z => .inl (Z.2.2 11, 160, .inl (fun _ => 0)))) (i) (fun Z => .inr (2, [.ref (Z.1 (i + 1)), .int 0, .int 0, .int 0, .int 0, .int 0, .null]))) (i + 2) (fun Z => .inl (Z.2.2 10, 3, .inl (fun _ => 0)))) (i) (fun Z => .inr (2, [.ref (Z.1 (i + 1)), .int 0, .int 0, .int 0, .int 0, .int 0, .ref (Z.1 (i + 2))]))
set_option maxRecDepth 100000 in
theorem iX2 {i : Nat} (hi : i + 2 < 71) (hE0 : ∀ Z, E Z i = .inr (2, [.null, .int 0, .int 0, .int 0, .int 0, .int 0, .null])) : U kX2_init (fun v n1 E1 => v = none ∧ (n1 = i + 3 ∧ E1 = mkX2 E i)) 2 163 (i + 1) E 0 0 0 [(0, .ref i)] [] := by
  refine u_aload_n dX2_init_0 rfl ?_
  refine u_objI dX2_init_1 (wgi 106 (by decide +kernel) (by decide +kernel)) (Nat.le_of_ble_eq_true rfl) (Nat.le_of_ble_eq_true rfl) ?_
  refine u_aload_n dX2_init_4 rfl ?_
  refine u_sipush (v := nI 160) dX2_init_5 rfl ?_
  refine u_newa (atype := .char) (ty := .char) (t0 := 1) (t := 11) (N := 160) dX2_init_8 rfl (fun _ => rfl) (fun _ _ h => h) rfl aw_char (by omega) (by decide) (by decide) (Nat.le_of_ble_eq_true rfl) (Nat.le_of_ble_eq_true rfl) ?_
  refine u_put (i := i) (ci := 2) (j := 0) (fs := fun Z => [.null, .int 0, .int 0, .int 0, .int 0, .int 0, .null]) dX2_init_10 (by decide) (by decide) (wgi 107 (by decide +kernel) (by decide +kernel)) (by omega) (by omega) (fun Z => by first | exact (eup_ne (by omega)).trans (hE0 Z) | exact (eup_ne (by omega)).trans eup_eq | exact eup_eq) (fun _ => rfl) (Or.inr ⟨rfl, rfl, rfl⟩) (fun _ => rfl) (fun _ => rfl) ?_
  refine u_aload_n dX2_init_13 rfl ?_
  refine u_iconst (v := nI 3) dX2_init_14 rfl ?_
  refine u_newa (atype := .int) (ty := .int) (t0 := 0) (t := 10) (N := 3) dX2_init_15 rfl (fun _ => rfl) (fun _ _ h => h) rfl aw_int (by omega) (by decide) (by decide) (Nat.le_of_ble_eq_true rfl) (Nat.le_of_ble_eq_true rfl) ?_
  refine u_put (i := i) (ci := 2) (j := 6) (fs := fun Z => [.ref (Z.1 (i + 1)), .int 0, .int 0, .int 0, .int 0, .int 0, .null]) dX2_init_17 (by decide) (by decide) (wgi 114 (by decide +kernel) (by decide +kernel)) (by omega) (by omega) (fun Z => by first | exact (eup_ne (by omega)).trans (hE0 Z) | exact (eup_ne (by omega)).trans eup_eq | exact eup_eq) (fun _ => rfl) (Or.inr ⟨rfl, rfl, rfl⟩) (fun _ => rfl) (fun _ => rfl) ?_
  exact u_ret dX2_init_20 rfl rfl rfl ⟨rfl, rfl, rfl⟩
def ez0 : uE := fun _ _ => .inr (0, [])
/-- the memory at the start -/
def M00 : vM := fun i j => if i = 0 then (if j = 1 then nI 4 else if j = 2 then nI 14 else 0) else if i = 13 then xper j else if i = 23 then xper j
  else if i = 33 then nI (34 + 3 * j) else if i = 52 then nI (53 + 3 * j) else if kdc i = 1 then (if j = 0 then nI 2 else 0) else 0
theorem lt60 {i : Nat} (h : i < 60) : i = 0 ∨ i = 1 ∨ i = 2 ∨ i = 3 ∨ i = 4 ∨ i = 5 ∨ i = 6 ∨ i = 7 ∨ i = 8 ∨ i = 9 ∨ i = 10 ∨ i = 11 ∨ i = 12 ∨ i = 13 ∨ i = 14 ∨ i = 15 ∨ i = 16 ∨ i = 17 ∨ i = 18 ∨ i = 19 ∨ i = 20 ∨ i = 21 ∨ i = 22 ∨ i = 23 ∨ i = 24 ∨ i = 25 ∨ i = 26 ∨ i = 27 ∨ i = 28 ∨ i = 29 ∨ i = 30 ∨ i = 31 ∨ i = 32 ∨ i = 33 ∨ i = 34 ∨ i = 35 ∨ i = 36 ∨ i = 37 ∨ i = 38 ∨ i = 39 ∨ i = 40 ∨ i = 41 ∨ i = 42 ∨ i = 43 ∨ i = 44 ∨ i = 45 ∨ i = 46 ∨ i = 47 ∨ i = 48 ∨ i = 49 ∨ i = 50 ∨ i = 51 ∨ i = 52 ∨ i = 53 ∨ i = 54 ∨ i = 55 ∨ i = 56 ∨ i = 57 ∨ i = 58 ∨ i = 59 := by omega
def e3E : uE := eup (eup (eup (mkX1 (eup (eup (mkX1 (eup (eup (eup (eup (mkX1 (eup (eup (mkX1 (eup (eup (mkX1 (eup (eup (mkX1 (eup (eup (mkX1 (eup (eup (mkX1 (eup (eup (eup (eup (mkX1 (eup (eup (mkX1 (eup (eup (mkX1 (eup (eup (mkX0 (eup (eup (mkX0 (eup (eup (mkX2 (eup (eup ez0 0 (fun _ => .inr (3, [.null, .null, .null, .null, .null, .int 0, .null, .null, .null, .null]))) (1) (fun Z => .inr (2, [.null, .int 0, .int 0, .int 0, .int 0, .int 0, .null]))) 1) (0) (fun Z => .inr (3, [.ref (Z.1 (1)), .null, .null, .null, .null, .int 0, .null, .null, .null, .null]))) (4) (fun Z => .inr (0, [.int 0, .int 0, .null, .null, .null, .null, .null, .null, .null, .null, .null]))) 4) (0) (fun Z => .inr (3, [.ref (Z.1 (1)), .ref (Z.1 (4)), .null, .null, .null, .int 0, .null, .null, .null, .null]))) (14) (fun Z => .inr (0, [.int 0, .int 0, .null, .null, .null, .null, .null, .null, .null, .null, .null]))) 14) (0) (fun Z => .inr (3, [.ref (Z.1 (1)), .ref (Z.1 (4)), .ref (Z.1 (14)), .null, .null, .int 0, .null, .null, .null, .null]))) (24) (fun Z => .inr (1, [.int 0, .int 0, .int 0, .int 0, .null, .null]))) 24) (0) (fun Z => .inr (3, [.ref (Z.1 (1)), .ref (Z.1 (4)), .ref (Z.1 (14)), .ref (Z.1 (24)), .null, .int 0, .null, .null, .null, .null]))) (27) (fun Z => .inr (1, [.int 0, .int 0, .int 0, .int 0, .null, .null]))) 27) (0) (fun Z => .inr (3, [.ref (Z.1 (1)), .ref (Z.1 (4)), .ref (Z.1 (14)), .ref (Z.1 (24)), .null, .int 0, .null, .null, .ref (Z.1 (27)), .null]))) (30) (fun Z => .inr (1, [.int 0, .int 0, .int 0, .int 0, .null, .null]))) 30) (0) (fun Z => .inr (3, [.ref (Z.1 (1)), .ref (Z.1 (4)), .ref (Z.1 (14)), .ref (Z.1 (24)), .null, .int 0, .null, .null, .ref (Z.1 (27)), .ref (Z.1 (30))]))) (33) (fun Z => .inl (Z.2.2 13, 6, .inr (.inr (.inr (.inr (fun _ => none))))))) (0) (fun Z => .inr (3, [.ref (Z.1 (1)), .ref (Z.1 (4)), .ref (Z.1 (14)), .ref (Z.1 (24)), .ref (Z.1 (33)), .int 0, .null, .null, .ref (Z.1 (27)), .ref (Z.1 (30))]))) (34) (fun Z => .inr (1, [.int 0, .int 0, .int 0, .int 0, .null, .null]))) 34) (33) (fun Z => .inl (Z.2.2 13, 6, .inr (.inr (.inr (.inr (va_up (fun _ => none) 0 (some (Z.1 34))))))))) (37) (fun Z => .inr (1, [.int 0, .int 0, .int 0, .int 0, .null, .null]))) 37) (33) (fun Z => .inl (Z.2.2 13, 6, .inr (.inr (.inr (.inr (va_up (va_up (fun _ => none) 0 (some (Z.1 34))) 1 (some (Z.1 37))))))))) (40) (fun Z => .inr (1, [.int 0, .int 0, .int 0, .int 0, .null, .null]))) 40) (33) (fun Z => .inl (Z.2.2 13, 6, .inr (.inr (.inr (.inr (va_up (va_up (va_up (fun _ => none) 0 (some (Z.1 34))) 1 (some (Z.1 37))) 2 (some (Z.1 40))))))))) (43) (fun Z => .inr (1, [.int 0, .int 0, .int 0, .int 0, .null, .null]))) 43) (33) (fun Z => .inl (Z.2.2 13, 6, .inr (.inr (.inr (.inr (va_up (va_up (va_up (va_up (fun _ => none) 0 (some (Z.1 34))) 1 (some (Z.1 37))) 2 (some (Z.1 40))) 3 (some (Z.1 43))))))))) (46) (fun Z => .inr (1, [.int 0, .int 0, .int 0, .int 0, .null, .null]))) 46) (33) (fun Z => .inl (Z.2.2 13, 6, .inr (.inr (.inr (.inr (va_up (va_up (va_up (va_up (va_up (fun _ => none) 0 (some (Z.1 34))) 1 (some (Z.1 37))) 2 (some (Z.1 40))) 3 (some (Z.1 43))) 4 (some (Z.1 46))))))))) (49) (fun Z => .inr (1, [.int 0, .int 0, .int 0, .int 0, .null, .null]))) 49) (33) (fun Z => .inl (Z.2.2 13, 6, .inr (.inr (.inr (.inr (va_up (va_up (va_up (va_up (va_up (va_up (fun _ => none) 0 (some (Z.1 34))) 1 (some (Z.1 37))) 2 (some (Z.1 40))) 3 (some (Z.1 43))) 4 (some (Z.1 46))) 5 (some (Z.1 49))))))))) (52) (fun Z => .inl (Z.2.2 13, 2, .inr (.inr (.inr (.inr (fun _ => none))))))) (0) (fun Z => .inr (3, [.ref (Z.1 (1)), .ref (Z.1 (4)), .ref (Z.1 (14)), .ref (Z.1 (24)), .ref (Z.1 (33)), .int 0, .ref (Z.1 (52)), .null, .ref (Z.1 (27)), .ref (Z.1 (30))]))) (53) (fun Z => .inr (1, [.int 0, .int 0, .int 0, .int 0, .null, .null]))) 53) (52) (fun Z => .inl (Z.2.2 13, 2, .inr (.inr (.inr (.inr (va_up (fun _ => none) 0 (some (Z.1 53))))))))) (56) (fun Z => .inr (1, [.int 0, .int 0, .int 0, .int 0, .null, .null]))) 56) (52) (fun Z => .inl (Z.2.2 13, 2, .inr (.inr (.inr (.inr (va_up (va_up (fun _ => none) 0 (some (Z.1 53))) 1 (some (Z.1 56))))))))) (59) (fun Z => .inl (Z.2.2 12, 2, .inl (fun _ => 0)))) (0) (fun Z => .inr (3, [.ref (Z.1 (1)), .ref (Z.1 (4)), .ref (Z.1 (14)), .ref (Z.1 (24)), .ref (Z.1 (33)), .int 0, .ref (Z.1 (52)), .ref (Z.1 (59)), .ref (Z.1 (27)), .ref (Z.1 (30))]))
set_option maxRecDepth 100000 in
theorem e3_ok : ∀ (Z : vZ) (i : Nat), i < 60 → eqC (e3E Z i) (cellE Z M00 i) := by
  intro Z i hi
  rcases lt60 hi with rfl | rfl | rfl | rfl | rfl | rfl | rfl | rfl | rfl | rfl | rfl | rfl | rfl | rfl | rfl | rfl | rfl | rfl | rfl | rfl | rfl | rfl | rfl | rfl | rfl | rfl | rfl | rfl | rfl | rfl | rfl | rfl | rfl | rfl | rfl | rfl | rfl | rfl | rfl | rfl | rfl | rfl | rfl | rfl | rfl | rfl | rfl | rfl | rfl | rfl | rfl | rfl | rfl | rfl | rfl | rfl | rfl | rfl | rfl | rfl
  · exact Or.inl rfl
  · exact Or.inl rfl
  · exact Or.inl rfl
  · exact Or.inl rfl
  · exact Or.inl rfl
  · exact Or.inl rfl
  · exact Or.inl rfl
  · exact Or.inl rfl
  · exact Or.inl rfl
  · exact Or.inl rfl
  · exact Or.inl rfl
  · exact Or.inl rfl
  · exact Or.inl rfl
  · exact Or.inl rfl
  · exact Or.inl rfl
  · exact Or.inl rfl
  · exact Or.inl rfl
  · exact Or.inl rfl
  · exact Or.inl rfl
  · exact Or.inl rfl
  · exact Or.inl rfl
  · exact Or.inl rfl
  · exact Or.inl rfl
  · exact Or.inl rfl
  · exact Or.inl rfl
  · exact Or.inl rfl
  · exact Or.inl rfl
  · exact Or.inl rfl
  · exact Or.inl rfl
  · exact Or.inl rfl
  · exact Or.inl rfl
  · exact Or.inl rfl
  · exact Or.inl rfl
  · refine Or.inr ⟨Z.2.2 13, 6, _, _, rfl, rfl, ?_⟩
    rw [vp_cell_q, vp_cell_q]
    refine arrV_c (fun j hj => ?_)
    rcases (show j = 0 ∨ j = 1 ∨ j = 2 ∨ j = 3 ∨ j = 4 ∨ j = 5 by omega) with rfl | rfl | rfl | rfl | rfl | rfl <;> rfl
  · exact Or.inl rfl
  · exact Or.inl rfl
  · exact Or.inl rfl
  · exact Or.inl rfl
  · exact Or.inl rfl
  · exact Or.inl rfl
  · exact Or.inl rfl
  · exact Or.inl rfl
  · exact Or.inl rfl
  · exact Or.inl rfl
  · exact Or.inl rfl
  · exact Or.inl rfl
  · exact Or.inl rfl
  · exact Or.inl rfl
  · exact Or.inl rfl
  · exact Or.inl rfl
  · exact Or.inl rfl
  · exact Or.inl rfl
  · refine Or.inr ⟨Z.2.2 13, 2, _, _, rfl, rfl, ?_⟩
    rw [vp_cell_q, vp_cell_q]
    refine arrV_c (fun j hj => ?_)
    rcases (show j = 0 ∨ j = 1 by omega) with rfl | rfl <;> rfl
  · exact Or.inl rfl
  · exact Or.inl rfl
  · exact Or.inl rfl
  · exact Or.inl rfl
  · exact Or.inl rfl
  · exact Or.inl rfl
  · exact Or.inl rfl
set_option maxRecDepth 100000 in
theorem iX3 : U kX3_init (fun v n1 E1 => v = none ∧ (n1 = 60 ∧ E1 = fun Z i => cellE Z M00 i)) 59 946 1 (eup ez0 0 (fun _ => .inr (3, [.null, .null, .null, .null, .null, .int 0, .null, .null, .null, .null]))) 0 0 0 [(0, .ref 0)] [] := by
  refine u_aload_n dX3_init_0 rfl ?_
  refine u_objI dX3_init_1 (wgi 98 (by decide +kernel) (by decide +kernel)) (Nat.le_of_ble_eq_true rfl) (Nat.le_of_ble_eq_true rfl) ?_
  refine u_aload_n dX3_init_4 rfl ?_
  refine u_new (ci := 2) (fs := [.null, .int 0, .int 0, .int 0, .int 0, .int 0, .null]) dX3_init_5 (by decide) (wgi 101 (by decide +kernel) (by decide +kernel)) (wgi 102 (by decide +kernel) (by decide +kernel)) (wgi 82 (by decide +kernel) (by decide +kernel)) (by decide) (Nat.le_of_ble_eq_true rfl) (Nat.le_of_ble_eq_true rfl) df_2 ?_
  refine u_dup dX3_init_8 rfl ?_
  refine u_callI dX3_init_9 mi_X3_9 ki_X2 ⟨(Nat.le_of_ble_eq_true rfl), (Nat.le_of_ble_eq_true rfl)⟩ (Nat.le_of_ble_eq_true rfl) (Nat.le_of_ble_eq_true rfl) (mc' := 2) (ms' := 163) (Nat.le_of_ble_eq_true rfl) (Nat.le_of_ble_eq_true rfl) (iX2 (i := 1) (by decide) (fun _ => rfl)) (fun n' E' hq => ?_)
  obtain ⟨rfl, rfl⟩ := hq
  refine u_put (i := 0) (ci := 3) (j := 0) (fs := fun Z => [.null, .null, .null, .null, .null, .int 0, .null, .null, .null, .null]) dX3_init_12 (by decide) (by decide) (wgi 224 (by decide +kernel) (by decide +kernel)) (by decide) (by decide) (fun _ => rfl) (fun _ => rfl) (Or.inr ⟨rfl, rfl, rfl⟩) (fun _ => rfl) (fun _ => rfl) ?_
  refine u_aload_n dX3_init_15 rfl ?_
  refine u_new (ci := 0) (fs := [.int 0, .int 0, .null, .null, .null, .null, .null, .null, .null, .null, .null]) dX3_init_16 (by decide) (wgi 132 (by decide +kernel) (by decide +kernel)) (wgi 133 (by decide +kernel) (by decide +kernel)) (wgi 83 (by decide +kernel) (by decide +kernel)) (by decide) (Nat.le_of_ble_eq_true rfl) (Nat.le_of_ble_eq_true rfl) df_0 ?_
  refine u_dup dX3_init_19 rfl ?_
  refine u_callI dX3_init_20 mi_X3_18 ki_X0 ⟨(Nat.le_of_ble_eq_true rfl), (Nat.le_of_ble_eq_true rfl)⟩ (Nat.le_of_ble_eq_true rfl) (Nat.le_of_ble_eq_true rfl) (mc' := 9) (ms' := 163) (Nat.le_of_ble_eq_true rfl) (Nat.le_of_ble_eq_true rfl) (iX0 (i := 4) (by decide) (fun _ => rfl)) (fun n' E' hq => ?_)
  obtain ⟨rfl, rfl⟩ := hq
  refine u_put (i := 0) (ci := 3) (j := 1) (fs := fun Z => [.ref (Z.1 (1)), .null, .null, .null, .null, .int 0, .null, .null, .null, .null]) dX3_init_23 (by decide) (by decide) (wgi 225 (by decide +kernel) (by decide +kernel)) (by decide) (by decide) (fun _ => rfl) (fun _ => rfl) (Or.inl rfl) (fun _ => rfl) (fun _ => rfl) ?_
  refine u_aload_n dX3_init_26 rfl ?_
  refine u_new (ci := 0) (fs := [.int 0, .int 0, .null, .null, .null, .null, .null, .null, .null, .null, .null]) dX3_init_27 (by decide) (wgi 132 (by decide +kernel) (by decide +kernel)) (wgi 133 (by decide +kernel) (by decide +kernel)) (wgi 83 (by decide +kernel) (by decide +kernel)) (by decide) (Nat.le_of_ble_eq_true rfl) (Nat.le_of_ble_eq_true rfl) df_0 ?_
  refine u_dup dX3_init_30 rfl ?_
  refine u_callI dX3_init_31 mi_X3_18 ki_X0 ⟨(Nat.le_of_ble_eq_true rfl), (Nat.le_of_ble_eq_true rfl)⟩ (Nat.le_of_ble_eq_true rfl) (Nat.le_of_ble_eq_true rfl) (mc' := 9) (ms' := 163) (Nat.le_of_ble_eq_true rfl) (Nat.le_of_ble_eq_true rfl) (iX0 (i := 14) (by decide) (fun _ => rfl)) (fun n' E' hq => ?_)
  obtain ⟨rfl, rfl⟩ := hq
  refine u_put (i := 0) (ci := 3) (j := 2) (fs := fun Z => [.ref (Z.1 (1)), .ref (Z.1 (4)), .null, .null, .null, .int 0, .null, .null, .null, .null]) dX3_init_34 (by decide) (by decide) (wgi 226 (by decide +kernel) (by decide +kernel)) (by decide) (by decide) (fun _ => rfl) (fun _ => rfl) (Or.inl rfl) (fun _ => rfl) (fun _ => rfl) ?_
  refine u_aload_n dX3_init_37 rfl ?_
  refine u_new (ci := 1) (fs := [.int 0, .int 0, .int 0, .int 0, .null, .null]) dX3_init_38 (by decide) (wgi 192 (by decide +kernel) (by decide +kernel)) (wgi 193 (by decide +kernel) (by decide +kernel)) (wgi 84 (by decide +kernel) (by decide +kernel)) (by decide) (Nat.le_of_ble_eq_true rfl) (Nat.le_of_ble_eq_true rfl) df_1 ?_
  refine u_dup dX3_init_41 rfl ?_
  refine u_callI dX3_init_42 mi_X3_28 ki_X1 ⟨(Nat.le_of_ble_eq_true rfl), (Nat.le_of_ble_eq_true rfl)⟩ (Nat.le_of_ble_eq_true rfl) (Nat.le_of_ble_eq_true rfl) (mc' := 2) (ms' := 32) (Nat.le_of_ble_eq_true rfl) (Nat.le_of_ble_eq_true rfl) (iX1 (i := 24) (by decide) (fun _ => rfl)) (fun n' E' hq => ?_)
  obtain ⟨rfl, rfl⟩ := hq
  refine u_put (i := 0) (ci := 3) (j := 3) (fs := fun Z => [.ref (Z.1 (1)), .ref (Z.1 (4)), .ref (Z.1 (14)), .null, .null, .int 0, .null, .null, .null, .null]) dX3_init_45 (by decide) (by decide) (wgi 227 (by decide +kernel) (by decide +kernel)) (by decide) (by decide) (fun _ => rfl) (fun _ => rfl) (Or.inr ⟨rfl, rfl, rfl⟩) (fun _ => rfl) (fun _ => rfl) ?_
  refine u_aload_n dX3_init_48 rfl ?_
  refine u_new (ci := 1) (fs := [.int 0, .int 0, .int 0, .int 0, .null, .null]) dX3_init_49 (by decide) (wgi 192 (by decide +kernel) (by decide +kernel)) (wgi 193 (by decide +kernel) (by decide +kernel)) (wgi 84 (by decide +kernel) (by decide +kernel)) (by decide) (Nat.le_of_ble_eq_true rfl) (Nat.le_of_ble_eq_true rfl) df_1 ?_
  refine u_dup dX3_init_52 rfl ?_
  refine u_callI dX3_init_53 mi_X3_28 ki_X1 ⟨(Nat.le_of_ble_eq_true rfl), (Nat.le_of_ble_eq_true rfl)⟩ (Nat.le_of_ble_eq_true rfl) (Nat.le_of_ble_eq_true rfl) (mc' := 2) (ms' := 32) (Nat.le_of_ble_eq_true rfl) (Nat.le_of_ble_eq_true rfl) (iX1 (i := 27) (by decide) (fun _ => rfl)) (fun n' E' hq => ?_)
  obtain ⟨rfl, rfl⟩ := hq
  refine u_put (i := 0) (ci := 3) (j := 8) (fs := fun Z => [.ref (Z.1 (1)), .ref (Z.1 (4)), .ref (Z.1 (14)), .ref (Z.1 (24)), .null, .int 0, .null, .null, .null, .null]) dX3_init_56 (by decide) (by decide) (wgi 232 (by decide +kernel) (by decide +kernel)) (by decide) (by decide) (fun _ => rfl) (fun _ => rfl) (Or.inr ⟨rfl, rfl, rfl⟩) (fun _ => rfl) (fun _ => rfl) ?_
  refine u_aload_n dX3_init_59 rfl ?_
  refine u_new (ci := 1) (fs := [.int 0, .int 0, .int 0, .int 0, .null, .null]) dX3_init_60 (by decide) (wgi 192 (by decide +kernel) (by decide +kernel)) (wgi 193 (by decide +kernel) (by decide +kernel)) (wgi 84 (by decide +kernel) (by decide +kernel)) (by decide) (Nat.le_of_ble_eq_true rfl) (Nat.le_of_ble_eq_true rfl) df_1 ?_
  refine u_dup dX3_init_63 rfl ?_
  refine u_callI dX3_init_64 mi_X3_28 ki_X1 ⟨(Nat.le_of_ble_eq_true rfl), (Nat.le_of_ble_eq_true rfl)⟩ (Nat.le_of_ble_eq_true rfl) (Nat.le_of_ble_eq_true rfl) (mc' := 2) (ms' := 32) (Nat.le_of_ble_eq_true rfl) (Nat.le_of_ble_eq_true rfl) (iX1 (i := 30) (by decide) (fun _ => rfl)) (fun n' E' hq => ?_)
  obtain ⟨rfl, rfl⟩ := hq
  refine u_put (i := 0) (ci := 3) (j := 9) (fs := fun Z => [.ref (Z.1 (1)), .ref (Z.1 (4)), .ref (Z.1 (14)), .ref (Z.1 (24)), .null, .int 0, .null, .null, .ref (Z.1 (27)), .null]) dX3_init_67 (by decide) (by decide) (wgi 233 (by decide +kernel) (by decide +kernel)) (by decide) (by decide) (fun _ => rfl) (fun _ => rfl) (Or.inr ⟨rfl, rfl, rfl⟩) (fun _ => rfl) (fun _ => rfl) ?_
  refine u_aload_n dX3_init_70 rfl ?_
  refine u_bipush (v := nI 6) dX3_init_71 rfl ?_
  refine u_anew (N := 6) dX3_init_73 (wgi 192 (by decide +kernel) (by decide +kernel)) (by decide) (by decide) (Nat.le_of_ble_eq_true rfl) (Nat.le_of_ble_eq_true rfl) ?_
  refine u_put (i := 0) (ci := 3) (j := 4) (fs := fun Z => [.ref (Z.1 (1)), .ref (Z.1 (4)), .ref (Z.1 (14)), .ref (Z.1 (24)), .null, .int 0, .null, .null, .ref (Z.1 (27)), .ref (Z.1 (30))]) dX3_init_76 (by decide) (by decide) (wgi 228 (by decide +kernel) (by decide +kernel)) (by decide) (by decide) (fun _ => rfl) (fun _ => rfl) (Or.inr ⟨rfl, rfl, rfl⟩) (fun _ => rfl) (fun _ => rfl) ?_
  refine u_iconst (v := nI 0) dX3_init_79 rfl ?_
  refine u_istore_n (lv' := [(0, .ref 0), (1, .int (nI 0))]) dX3_init_80 (Nat.le_of_ble_eq_true rfl) rfl ?_
  refine u_iload_n dX3_init_81 rfl ?_
  refine u_aload_n dX3_init_82 rfl ?_
  refine u_get (i := 0) (ci := 3) (j := 4) (v := .ref 33) (fs := fun Z => [.ref (Z.1 (1)), .ref (Z.1 (4)), .ref (Z.1 (14)), .ref (Z.1 (24)), .ref (Z.1 (33)), .int 0, .null, .null, .ref (Z.1 (27)), .ref (Z.1 (30))]) dX3_init_83 (by decide) (by decide) (wgi 228 (by decide +kernel) (by decide +kernel)) (by decide) (fun _ => rfl) (fun _ => rfl) ?_
  refine u_alen (i := 33) (N := 6) (f := fun Z => fun _ => none) dX3_init_86 (by decide) (fun _ => rfl) ?_
  refine u_icmp_ge (tgt := 109) dX3_init_87 (by decide) (fun h => absurd h (by decide)) (fun _ => ?_)
  refine u_aload_n dX3_init_90 rfl ?_
  refine u_get (i := 0) (ci := 3) (j := 4) (v := .ref 33) (fs := fun Z => [.ref (Z.1 (1)), .ref (Z.1 (4)), .ref (Z.1 (14)), .ref (Z.1 (24)), .ref (Z.1 (33)), .int 0, .null, .null, .ref (Z.1 (27)), .ref (Z.1 (30))]) dX3_init_91 (by decide) (by decide) (wgi 228 (by decide +kernel) (by decide +kernel)) (by decide) (fun _ => rfl) (fun _ => rfl) ?_
  refine u_iload_n dX3_init_94 rfl ?_
  refine u_new (ci := 1) (fs := [.int 0, .int 0, .int 0, .int 0, .null, .null]) dX3_init_95 (by decide) (wgi 192 (by decide +kernel) (by decide +kernel)) (wgi 193 (by decide +kernel) (by decide +kernel)) (wgi 84 (by decide +kernel) (by decide +kernel)) (by decide) (Nat.le_of_ble_eq_true rfl) (Nat.le_of_ble_eq_true rfl) df_1 ?_
  refine u_dup dX3_init_98 rfl ?_
  refine u_callI dX3_init_99 mi_X3_28 ki_X1 ⟨(Nat.le_of_ble_eq_true rfl), (Nat.le_of_ble_eq_true rfl)⟩ (Nat.le_of_ble_eq_true rfl) (Nat.le_of_ble_eq_true rfl) (mc' := 2) (ms' := 32) (Nat.le_of_ble_eq_true rfl) (Nat.le_of_ble_eq_true rfl) (iX1 (i := 34) (by decide) (fun _ => rfl)) (fun n' E' hq => ?_)
  obtain ⟨rfl, rfl⟩ := hq
  refine u_aast (i := 33) (t := 34) (a := 0) (N := 6) (f := fun Z => fun _ => none) (fs := fun Z => [.int (nI 2), .int 0, .int 0, .int 0, .ref (Z.1 (35)), .ref (Z.1 (36))]) dX3_init_102 (by decide) (by decide) (by decide) (fun _ => rfl) (fun _ => rfl) (by decide) (by decide) ?_
  refine u_iinc (v := nI 1) (lv' := [(0, .ref 0), (1, .int (nI 1))]) dX3_init_103 rfl (by decide) (Nat.le_of_ble_eq_true rfl) rfl ?_
  refine u_goto (tgt := 81) dX3_init_106 (by decide) ?_
  refine u_iload_n dX3_init_81 rfl ?_
  refine u_aload_n dX3_init_82 rfl ?_
  refine u_get (i := 0) (ci := 3) (j := 4) (v := .ref 33) (fs := fun Z => [.ref (Z.1 (1)), .ref (Z.1 (4)), .ref (Z.1 (14)), .ref (Z.1 (24)), .ref (Z.1 (33)), .int 0, .null, .null, .ref (Z.1 (27)), .ref (Z.1 (30))]) dX3_init_83 (by decide) (by decide) (wgi 228 (by decide +kernel) (by decide +kernel)) (by decide) (fun _ => rfl) (fun _ => rfl) ?_
  refine u_alen (i := 33) (N := 6) (f := fun Z => va_up (fun _ => none) 0 (some (Z.1 34))) dX3_init_86 (by decide) (fun _ => rfl) ?_
  refine u_icmp_ge (tgt := 109) dX3_init_87 (by decide) (fun h => absurd h (by decide)) (fun _ => ?_)
  refine u_aload_n dX3_init_90 rfl ?_
  refine u_get (i := 0) (ci := 3) (j := 4) (v := .ref 33) (fs := fun Z => [.ref (Z.1 (1)), .ref (Z.1 (4)), .ref (Z.1 (14)), .ref (Z.1 (24)), .ref (Z.1 (33)), .int 0, .null, .null, .ref (Z.1 (27)), .ref (Z.1 (30))]) dX3_init_91 (by decide) (by decide) (wgi 228 (by decide +kernel) (by decide +kernel)) (by decide) (fun _ => rfl) (fun _ => rfl) ?_
  refine u_iload_n dX3_init_94 rfl ?_
  refine u_new (ci := 1) (fs := [.int 0, .int 0, .int 0, .int 0, .null, .null]) dX3_init_95 (by decide) (wgi 192 (by decide +kernel) (by decide +kernel)) (wgi 193 (by decide +kernel) (by decide +kernel)) (wgi 84 (by decide +kernel) (by decide +kernel)) (by decide) (Nat.le_of_ble_eq_true rfl) (Nat.le_of_ble_eq_true rfl) df_1 ?_
  refine u_dup dX3_init_98 rfl ?_
  refine u_callI dX3_init_99 mi_X3_28 ki_X1 ⟨(Nat.le_of_ble_eq_true rfl), (Nat.le_of_ble_eq_true rfl)⟩ (Nat.le_of_ble_eq_true rfl) (Nat.le_of_ble_eq_true rfl) (mc' := 2) (ms' := 32) (Nat.le_of_ble_eq_true rfl) (Nat.le_of_ble_eq_true rfl) (iX1 (i := 37) (by decide) (fun _ => rfl)) (fun n' E' hq => ?_)
  obtain ⟨rfl, rfl⟩ := hq
  refine u_aast (i := 33) (t := 37) (a := 1) (N := 6) (f := fun Z => va_up (fun _ => none) 0 (some (Z.1 34))) (fs := fun Z => [.int (nI 2), .int 0, .int 0, .int 0, .ref (Z.1 (38)), .ref (Z.1 (39))]) dX3_init_102 (by decide) (by decide) (by decide) (fun _ => rfl) (fun _ => rfl) (by decide) (by decide) ?_
  refine u_iinc (v := nI 2) (lv' := [(0, .ref 0), (1, .int (nI 2))]) dX3_init_103 rfl (by decide) (Nat.le_of_ble_eq_true rfl) rfl ?_
  refine u_goto (tgt := 81) dX3_init_106 (by decide) ?_
  refine u_iload_n dX3_init_81 rfl ?_
  refine u_aload_n dX3_init_82 rfl ?_
  refine u_get (i := 0) (ci := 3) (j := 4) (v := .ref 33) (fs := fun Z => [.ref (Z.1 (1)), .ref (Z.1 (4)), .ref (Z.1 (14)), .ref (Z.1 (24)), .ref (Z.1 (33)), .int 0, .null, .null, .ref (Z.1 (27)), .ref (Z.1 (30))]) dX3_init_83 (by decide) (by decide) (wgi 228 (by decide +kernel) (by decide +kernel)) (by decide) (fun _ => rfl) (fun _ => rfl) ?_
  refine u_alen (i := 33) (N := 6) (f := fun Z => va_up (va_up (fun _ => none) 0 (some (Z.1 34))) 1 (some (Z.1 37))) dX3_init_86 (by decide) (fun _ => rfl) ?_
  refine u_icmp_ge (tgt := 109) dX3_init_87 (by decide) (fun h => absurd h (by decide)) (fun _ => ?_)
  refine u_aload_n dX3_init_90 rfl ?_
  refine u_get (i := 0) (ci := 3) (j := 4) (v := .ref 33) (fs := fun Z => [.ref (Z.1 (1)), .ref (Z.1 (4)), .ref (Z.1 (14)), .ref (Z.1 (24)), .ref (Z.1 (33)), .int 0, .null, .null, .ref (Z.1 (27)), .ref (Z.1 (30))]) dX3_init_91 (by decide) (by decide) (wgi 228 (by decide +kernel) (by decide +kernel)) (by decide) (fun _ => rfl) (fun _ => rfl) ?_
  refine u_iload_n dX3_init_94 rfl ?_
  refine u_new (ci := 1) (fs := [.int 0, .int 0, .int 0, .int 0, .null, .null]) dX3_init_95 (by decide) (wgi 192 (by decide +kernel) (by decide +kernel)) (wgi 193 (by decide +kernel) (by decide +kernel)) (wgi 84 (by decide +kernel) (by decide +kernel)) (by decide) (Nat.le_of_ble_eq_true rfl) (Nat.le_of_ble_eq_true rfl) df_1 ?_
  refine u_dup dX3_init_98 rfl ?_
  refine u_callI dX3_init_99 mi_X3_28 ki_X1 ⟨(Nat.le_of_ble_eq_true rfl), (Nat.le_of_ble_eq_true rfl)⟩ (Nat.le_of_ble_eq_true rfl) (Nat.le_of_ble_eq_true rfl) (mc' := 2) (ms' := 32) (Nat.le_of_ble_eq_true rfl) (Nat.le_of_ble_eq_true rfl) (iX1 (i := 40) (by decide) (fun _ => rfl)) (fun n' E' hq => ?_)
  obtain ⟨rfl, rfl⟩ := hq
  refine u_aast (i := 33) (t := 40) (a := 2) (N := 6) (f := fun Z => va_up (va_up (fun _ => none) 0 (some (Z.1 34))) 1 (some (Z.1 37))) (fs := fun Z => [.int (nI 2), .int 0, .int 0, .int 0, .ref (Z.1 (41)), .ref (Z.1 (42))]) dX3_init_102 (by decide) (by decide) (by decide) (fun _ => rfl) (fun _ => rfl) (by decide) (by decide) ?_
  refine u_iinc (v := nI 3) (lv' := [(0, .ref 0), (1, .int (nI 3))]) dX3_init_103 rfl (by decide) (Nat.le_of_ble_eq_true rfl) rfl ?_
  refine u_goto (tgt := 81) dX3_init_106 (by decide) ?_
  refine u_iload_n dX3_init_81 rfl ?_
  refine u_aload_n dX3_init_82 rfl ?_
  refine u_get (i := 0) (ci := 3) (j := 4) (v := .ref 33) (fs := fun Z => [.ref (Z.1 (1)), .ref (Z.1 (4)), .ref (Z.1 (14)), .ref (Z.1 (24)), .ref (Z.1 (33)), .int 0, .null, .null, .ref (Z.1 (27)), .ref (Z.1 (30))]) dX3_init_83 (by decide) (by decide) (wgi 228 (by decide +kernel) (by decide +kernel)) (by decide) (fun _ => rfl) (fun _ => rfl) ?_
  refine u_alen (i := 33) (N := 6) (f := fun Z => va_up (va_up (va_up (fun _ => none) 0 (some (Z.1 34))) 1 (some (Z.1 37))) 2 (some (Z.1 40))) dX3_init_86 (by decide) (fun _ => rfl) ?_
  refine u_icmp_ge (tgt := 109) dX3_init_87 (by decide) (fun h => absurd h (by decide)) (fun _ => ?_)
  refine u_aload_n dX3_init_90 rfl ?_
  refine u_get (i := 0) (ci := 3) (j := 4) (v := .ref 33) (fs := fun Z => [.ref (Z.1 (1)), .ref (Z.1 (4)), .ref (Z.1 (14)), .ref (Z.1 (24)), .ref (Z.1 (33)), .int 0, .null, .null, .ref (Z.1 (27)), .ref (Z.1 (30))]) dX3_init_91 (by decide) (by decide) (wgi 228 (by decide +kernel) (by decide +kernel)) (by decide) (fun _ => rfl) (fun _ => rfl) ?_
  refine u_iload_n dX3_init_94 rfl ?_
  refine u_new (ci := 1) (fs := [.int 0, .int 0, .int 0, .int 0, .null, .null]) dX3_init_95 (by decide) (wgi 192 (by decide +kernel) (by decide +kernel)) (wgi 193 (by decide +kernel) (by decide +kernel)) (wgi 84 (by decide +kernel) (by decide +kernel)) (by decide) (Nat.le_of_ble_eq_true rfl) (Nat.le_of_ble_eq_true rfl) df_1 ?_
  refine u_dup dX3_init_98 rfl ?_
  refine u_callI dX3_init_99 mi_X3_28 ki_X1 ⟨(Nat.le_of_ble_eq_true rfl), (Nat.le_of_ble_eq_true rfl)⟩ (Nat.le_of_ble_eq_true rfl) (Nat.le_of_ble_eq_true rfl) (mc' := 2) (ms' := 32) (Nat.le_of_ble_eq_true rfl) (Nat.le_of_ble_eq_true rfl) (iX1 (i := 43) (by decide) (fun _ => rfl)) (fun n' E' hq => ?_)
  obtain ⟨rfl, rfl⟩ := hq
  refine u_aast (i := 33) (t := 43) (a := 3) (N := 6) (f := fun Z => va_up (va_up (va_up (fun _ => none) 0 (some (Z.1 34))) 1 (some (Z.1 37))) 2 (some (Z.1 40))) (fs := fun Z => [.int (nI 2), .int 0, .int 0, .int 0, .ref (Z.1 (44)), .ref (Z.1 (45))]) dX3_init_102 (by decide) (by decide) (by decide) (fun _ => rfl) (fun _ => rfl) (by decide) (by decide) ?_
  refine u_iinc (v := nI 4) (lv' := [(0, .ref 0), (1, .int (nI 4))]) dX3_init_103 rfl (by decide) (Nat.le_of_ble_eq_true rfl) rfl ?_
  refine u_goto (tgt := 81) dX3_init_106 (by decide) ?_
  refine u_iload_n dX3_init_81 rfl ?_
  refine u_aload_n dX3_init_82 rfl ?_
  refine u_get (i := 0) (ci := 3) (j := 4) (v := .ref 33) (fs := fun Z => [.ref (Z.1 (1)), .ref (Z.1 (4)), .ref (Z.1 (14)), .ref (Z.1 (24)), .ref (Z.1 (33)), .int 0, .null, .null, .ref (Z.1 (27)), .ref (Z.1 (30))]) dX3_init_83 (by decide) (by decide) (wgi 228 (by decide +kernel) (by decide +kernel)) (by decide) (fun _ => rfl) (fun _ => rfl) ?_
  refine u_alen (i := 33) (N := 6) (f := fun Z => va_up (va_up (va_up (va_up (fun _ => none) 0 (some (Z.1 34))) 1 (some (Z.1 37))) 2 (some (Z.1 40))) 3 (some (Z.1 43))) dX3_init_86 (by decide) (fun _ => rfl) ?_
  refine u_icmp_ge (tgt := 109) dX3_init_87 (by decide) (fun h => absurd h (by decide)) (fun _ => ?_)
  refine u_aload_n dX3_init_90 rfl ?_
  refine u_get (i := 0) (ci := 3) (j := 4) (v := .ref 33) (fs := fun Z => [.ref (Z.1 (1)), .ref (Z.1 (4)), .ref (Z.1 (14)), .ref (Z.1 (24)), .ref (Z.1 (33)), .int 0, .null, .null, .ref (Z.1 (27)), .ref (Z.1 (30))]) dX3_init_91 (by decide) (by decide) (wgi 228 (by decide +kernel) (by decide +kernel)) (by decide) (fun _ => rfl) (fun _ => rfl) ?_
  refine u_iload_n dX3_init_94 rfl ?_
  refine u_new (ci := 1) (fs := [.int 0, .int 0, .int 0, .int 0, .null, .null]) dX3_init_95 (by decide) (wgi 192 (by decide +kernel) (by decide +kernel)) (wgi 193 (by decide +kernel) (by decide +kernel)) (wgi 84 (by decide +kernel) (by decide +kernel)) (by decide) (Nat.le_of_ble_eq_true rfl) (Nat.le_of_ble_eq_true rfl) df_1 ?_
  refine u_dup dX3_init_98 rfl ?_
  refine u_callI dX3_init_99 mi_X3_28 ki_X1 ⟨(Nat.le_of_ble_eq_true rfl), (Nat.le_of_ble_eq_true rfl)⟩ (Nat.le_of_ble_eq_true rfl) (Nat.le_of_ble_eq_true rfl) (mc' := 2) (ms' := 32) (Nat.le_of_ble_eq_true rfl) (Nat.le_of_ble_eq_true rfl) (iX1 (i := 46) (by decide) (fun _ => rfl)) (fun n' E' hq => ?_)
  obtain ⟨rfl, rfl⟩ := hq
  refine u_aast (i := 33) (t := 46) (a := 4) (N := 6) (f := fun Z => va_up (va_up (va_up (va_up (fun _ => none) 0 (some (Z.1 34))) 1 (some (Z.1 37))) 2 (some (Z.1 40))) 3 (some (Z.1 43))) (fs := fun Z => [.int (nI 2), .int 0, .int 0, .int 0, .ref (Z.1 (47)), .ref (Z.1 (48))]) dX3_init_102 (by decide) (by decide) (by decide) (fun _ => rfl) (fun _ => rfl) (by decide) (by decide) ?_
  refine u_iinc (v := nI 5) (lv' := [(0, .ref 0), (1, .int (nI 5))]) dX3_init_103 rfl (by decide) (Nat.le_of_ble_eq_true rfl) rfl ?_
  refine u_goto (tgt := 81) dX3_init_106 (by decide) ?_
  refine u_iload_n dX3_init_81 rfl ?_
  refine u_aload_n dX3_init_82 rfl ?_
  refine u_get (i := 0) (ci := 3) (j := 4) (v := .ref 33) (fs := fun Z => [.ref (Z.1 (1)), .ref (Z.1 (4)), .ref (Z.1 (14)), .ref (Z.1 (24)), .ref (Z.1 (33)), .int 0, .null, .null, .ref (Z.1 (27)), .ref (Z.1 (30))]) dX3_init_83 (by decide) (by decide) (wgi 228 (by decide +kernel) (by decide +kernel)) (by decide) (fun _ => rfl) (fun _ => rfl) ?_
  refine u_alen (i := 33) (N := 6) (f := fun Z => va_up (va_up (va_up (va_up (va_up (fun _ => none) 0 (some (Z.1 34))) 1 (some (Z.1 37))) 2 (some (Z.1 40))) 3 (some (Z.1 43))) 4 (some (Z.1 46))) dX3_init_86 (by decide) (fun _ => rfl) ?_
  refine u_icmp_ge (tgt := 109) dX3_init_87 (by decide) (fun h => absurd h (by decide)) (fun _ => ?_)
  refine u_aload_n dX3_init_90 rfl ?_
  refine u_get (i := 0) (ci := 3) (j := 4) (v := .ref 33) (fs := fun Z => [.ref (Z.1 (1)), .ref (Z.1 (4)), .ref (Z.1 (14)), .ref (Z.1 (24)), .ref (Z.1 (33)), .int 0, .null, .null, .ref (Z.1 (27)), .ref (Z.1 (30))]) dX3_init_91 (by decide) (by decide) (wgi 228 (by decide +kernel) (by decide +kernel)) (by decide) (fun _ => rfl) (fun _ => rfl) ?_
  refine u_iload_n dX3_init_94 rfl ?_
  refine u_new (ci := 1) (fs := [.int 0, .int 0, .int 0, .int 0, .null, .null]) dX3_init_95 (by decide) (wgi 192 (by decide +kernel) (by decide +kernel)) (wgi 193 (by decide +kernel) (by decide +kernel)) (wgi 84 (by decide +kernel) (by decide +kernel)) (by decide) (Nat.le_of_ble_eq_true rfl) (Nat.le_of_ble_eq_true rfl) df_1 ?_
  refine u_dup dX3_init_98 rfl ?_
  refine u_callI dX3_init_99 mi_X3_28 ki_X1 ⟨(Nat.le_of_ble_eq_true rfl), (Nat.le_of_ble_eq_true rfl)⟩ (Nat.le_of_ble_eq_true rfl) (Nat.le_of_ble_eq_true rfl) (mc' := 2) (ms' := 32) (Nat.le_of_ble_eq_true rfl) (Nat.le_of_ble_eq_true rfl) (iX1 (i := 49) (by decide) (fun _ => rfl)) (fun n' E' hq => ?_)
  obtain ⟨rfl, rfl⟩ := hq
  refine u_aast (i := 33) (t := 49) (a := 5) (N := 6) (f := fun Z => va_up (va_up (va_up (va_up (va_up (fun _ => none) 0 (some (Z.1 34))) 1 (some (Z.1 37))) 2 (some (Z.1 40))) 3 (some (Z.1 43))) 4 (some (Z.1 46))) (fs := fun Z => [.int (nI 2), .int 0, .int 0, .int 0, .ref (Z.1 (50)), .ref (Z.1 (51))]) dX3_init_102 (by decide) (by decide) (by decide) (fun _ => rfl) (fun _ => rfl) (by decide) (by decide) ?_
  refine u_iinc (v := nI 6) (lv' := [(0, .ref 0), (1, .int (nI 6))]) dX3_init_103 rfl (by decide) (Nat.le_of_ble_eq_true rfl) rfl ?_
  refine u_goto (tgt := 81) dX3_init_106 (by decide) ?_
  refine u_iload_n dX3_init_81 rfl ?_
  refine u_aload_n dX3_init_82 rfl ?_
  refine u_get (i := 0) (ci := 3) (j := 4) (v := .ref 33) (fs := fun Z => [.ref (Z.1 (1)), .ref (Z.1 (4)), .ref (Z.1 (14)), .ref (Z.1 (24)), .ref (Z.1 (33)), .int 0, .null, .null, .ref (Z.1 (27)), .ref (Z.1 (30))]) dX3_init_83 (by decide) (by decide) (wgi 228 (by decide +kernel) (by decide +kernel)) (by decide) (fun _ => rfl) (fun _ => rfl) ?_
  refine u_alen (i := 33) (N := 6) (f := fun Z => va_up (va_up (va_up (va_up (va_up (va_up (fun _ => none) 0 (some (Z.1 34))) 1 (some (Z.1 37))) 2 (some (Z.1 40))) 3 (some (Z.1 43))) 4 (some (Z.1 46))) 5 (some (Z.1 49))) dX3_init_86 (by decide) (fun _ => rfl) ?_
  refine u_icmp_ge (tgt := 109) dX3_init_87 (by decide) (fun _ => ?_) (fun h => absurd (by decide) h)
  refine u_aload_n dX3_init_109 rfl ?_
  refine u_iconst (v := nI 2) dX3_init_110 rfl ?_
  refine u_anew (N := 2) dX3_init_111 (wgi 192 (by decide +kernel) (by decide +kernel)) (by decide) (by decide) (Nat.le_of_ble_eq_true rfl) (Nat.le_of_ble_eq_true rfl) ?_
  refine u_put (i := 0) (ci := 3) (j := 6) (fs := fun Z => [.ref (Z.1 (1)), .ref (Z.1 (4)), .ref (Z.1 (14)), .ref (Z.1 (24)), .ref (Z.1 (33)), .int 0, .null, .null, .ref (Z.1 (27)), .ref (Z.1 (30))]) dX3_init_114 (by decide) (by decide) (wgi 230 (by decide +kernel) (by decide +kernel)) (by decide) (by decide) (fun _ => rfl) (fun _ => rfl) (Or.inr ⟨rfl, rfl, rfl⟩) (fun _ => rfl) (fun _ => rfl) ?_
  refine u_iconst (v := nI 0) dX3_init_117 rfl ?_
  refine u_istore_n (lv' := [(0, .ref 0), (1, .int (nI 0))]) dX3_init_118 (Nat.le_of_ble_eq_true rfl) rfl ?_
  refine u_iload_n dX3_init_119 rfl ?_
  refine u_aload_n dX3_init_120 rfl ?_
  refine u_get (i := 0) (ci := 3) (j := 6) (v := .ref 52) (fs := fun Z => [.ref (Z.1 (1)), .ref (Z.1 (4)), .ref (Z.1 (14)), .ref (Z.1 (24)), .ref (Z.1 (33)), .int 0, .ref (Z.1 (52)), .null, .ref (Z.1 (27)), .ref (Z.1 (30))]) dX3_init_121 (by decide) (by decide) (wgi 230 (by decide +kernel) (by decide +kernel)) (by decide) (fun _ => rfl) (fun _ => rfl) ?_
  refine u_alen (i := 52) (N := 2) (f := fun Z => fun _ => none) dX3_init_124 (by decide) (fun _ => rfl) ?_
  refine u_icmp_ge (tgt := 147) dX3_init_125 (by decide) (fun h => absurd h (by decide)) (fun _ => ?_)
  refine u_aload_n dX3_init_128 rfl ?_
  refine u_get (i := 0) (ci := 3) (j := 6) (v := .ref 52) (fs := fun Z => [.ref (Z.1 (1)), .ref (Z.1 (4)), .ref (Z.1 (14)), .ref (Z.1 (24)), .ref (Z.1 (33)), .int 0, .ref (Z.1 (52)), .null, .ref (Z.1 (27)), .ref (Z.1 (30))]) dX3_init_129 (by decide) (by decide) (wgi 230 (by decide +kernel) (by decide +kernel)) (by decide) (fun _ => rfl) (fun _ => rfl) ?_
  refine u_iload_n dX3_init_132 rfl ?_
  refine u_new (ci := 1) (fs := [.int 0, .int 0, .int 0, .int 0, .null, .null]) dX3_init_133 (by decide) (wgi 192 (by decide +kernel) (by decide +kernel)) (wgi 193 (by decide +kernel) (by decide +kernel)) (wgi 84 (by decide +kernel) (by decide +kernel)) (by decide) (Nat.le_of_ble_eq_true rfl) (Nat.le_of_ble_eq_true rfl) df_1 ?_
  refine u_dup dX3_init_136 rfl ?_
  refine u_callI dX3_init_137 mi_X3_28 ki_X1 ⟨(Nat.le_of_ble_eq_true rfl), (Nat.le_of_ble_eq_true rfl)⟩ (Nat.le_of_ble_eq_true rfl) (Nat.le_of_ble_eq_true rfl) (mc' := 2) (ms' := 32) (Nat.le_of_ble_eq_true rfl) (Nat.le_of_ble_eq_true rfl) (iX1 (i := 53) (by decide) (fun _ => rfl)) (fun n' E' hq => ?_)
  obtain ⟨rfl, rfl⟩ := hq
  refine u_aast (i := 52) (t := 53) (a := 0) (N := 2) (f := fun Z => fun _ => none) (fs := fun Z => [.int (nI 2), .int 0, .int 0, .int 0, .ref (Z.1 (54)), .ref (Z.1 (55))]) dX3_init_140 (by decide) (by decide) (by decide) (fun _ => rfl) (fun _ => rfl) (by decide) (by decide) ?_
  refine u_iinc (v := nI 1) (lv' := [(0, .ref 0), (1, .int (nI 1))]) dX3_init_141 rfl (by decide) (Nat.le_of_ble_eq_true rfl) rfl ?_
  refine u_goto (tgt := 119) dX3_init_144 (by decide) ?_
  refine u_iload_n dX3_init_119 rfl ?_
  refine u_aload_n dX3_init_120 rfl ?_
  refine u_get (i := 0) (ci := 3) (j := 6) (v := .ref 52) (fs := fun Z => [.ref (Z.1 (1)), .ref (Z.1 (4)), .ref (Z.1 (14)), .ref (Z.1 (24)), .ref (Z.1 (33)), .int 0, .ref (Z.1 (52)), .null, .ref (Z.1 (27)), .ref (Z.1 (30))]) dX3_init_121 (by decide) (by decide) (wgi 230 (by decide +kernel) (by decide +kernel)) (by decide) (fun _ => rfl) (fun _ => rfl) ?_
  refine u_alen (i := 52) (N := 2) (f := fun Z => va_up (fun _ => none) 0 (some (Z.1 53))) dX3_init_124 (by decide) (fun _ => rfl) ?_
  refine u_icmp_ge (tgt := 147) dX3_init_125 (by decide) (fun h => absurd h (by decide)) (fun _ => ?_)
  refine u_aload_n dX3_init_128 rfl ?_
  refine u_get (i := 0) (ci := 3) (j := 6) (v := .ref 52) (fs := fun Z => [.ref (Z.1 (1)), .ref (Z.1 (4)), .ref (Z.1 (14)), .ref (Z.1 (24)), .ref (Z.1 (33)), .int 0, .ref (Z.1 (52)), .null, .ref (Z.1 (27)), .ref (Z.1 (30))]) dX3_init_129 (by decide) (by decide) (wgi 230 (by decide +kernel) (by decide +kernel)) (by decide) (fun _ => rfl) (fun _ => rfl) ?_
  refine u_iload_n dX3_init_132 rfl ?_
  refine u_new (ci := 1) (fs := [.int 0, .int 0, .int 0, .int 0, .null, .null]) dX3_init_133 (by decide) (wgi 192 (by decide +kernel) (by decide +kernel)) (wgi 193 (by decide +kernel) (by decide +kernel)) (wgi 84 (by decide +kernel) (by decide +kernel)) (by decide) (Nat.le_of_ble_eq_true rfl) (Nat.le_of_ble_eq_true rfl) df_1 ?_
  refine u_dup dX3_init_136 rfl ?_
  refine u_callI dX3_init_137 mi_X3_28 ki_X1 ⟨(Nat.le_of_ble_eq_true rfl), (Nat.le_of_ble_eq_true rfl)⟩ (Nat.le_of_ble_eq_true rfl) (Nat.le_of_ble_eq_true rfl) (mc' := 2) (ms' := 32) (Nat.le_of_ble_eq_true rfl) (Nat.le_of_ble_eq_true rfl) (iX1 (i := 56) (by decide) (fun _ => rfl)) (fun n' E' hq => ?_)
  obtain ⟨rfl, rfl⟩ := hq
  refine u_aast (i := 52) (t := 56) (a := 1) (N := 2) (f := fun Z => va_up (fun _ => none) 0 (some (Z.1 53))) (fs := fun Z => [.int (nI 2), .int 0, .int 0, .int 0, .ref (Z.1 (57)), .ref (Z.1 (58))]) dX3_init_140 (by decide) (by decide) (by decide) (fun _ => rfl) (fun _ => rfl) (by decide) (by decide) ?_
  refine u_iinc (v := nI 2) (lv' := [(0, .ref 0), (1, .int (nI 2))]) dX3_init_141 rfl (by decide) (Nat.le_of_ble_eq_true rfl) rfl ?_
  refine u_goto (tgt := 119) dX3_init_144 (by decide) ?_
  refine u_iload_n dX3_init_119 rfl ?_
  refine u_aload_n dX3_init_120 rfl ?_
  refine u_get (i := 0) (ci := 3) (j := 6) (v := .ref 52) (fs := fun Z => [.ref (Z.1 (1)), .ref (Z.1 (4)), .ref (Z.1 (14)), .ref (Z.1 (24)), .ref (Z.1 (33)), .int 0, .ref (Z.1 (52)), .null, .ref (Z.1 (27)), .ref (Z.1 (30))]) dX3_init_121 (by decide) (by decide) (wgi 230 (by decide +kernel) (by decide +kernel)) (by decide) (fun _ => rfl) (fun _ => rfl) ?_
  refine u_alen (i := 52) (N := 2) (f := fun Z => va_up (va_up (fun _ => none) 0 (some (Z.1 53))) 1 (some (Z.1 56))) dX3_init_124 (by decide) (fun _ => rfl) ?_
  refine u_icmp_ge (tgt := 147) dX3_init_125 (by decide) (fun _ => ?_) (fun h => absurd (by decide) h)
  refine u_aload_n dX3_init_147 rfl ?_
  refine u_iconst (v := nI 2) dX3_init_148 rfl ?_
  refine u_newa (atype := .boolean) (ty := .boolean) (t0 := 2) (t := 12) (N := 2) dX3_init_149 rfl (fun _ => rfl) (fun _ _ h => h) rfl aw_bool (by decide) (by decide) (by decide) (Nat.le_of_ble_eq_true rfl) (Nat.le_of_ble_eq_true rfl) ?_
  refine u_put (i := 0) (ci := 3) (j := 7) (fs := fun Z => [.ref (Z.1 (1)), .ref (Z.1 (4)), .ref (Z.1 (14)), .ref (Z.1 (24)), .ref (Z.1 (33)), .int 0, .ref (Z.1 (52)), .null, .ref (Z.1 (27)), .ref (Z.1 (30))]) dX3_init_151 (by decide) (by decide) (wgi 231 (by decide +kernel) (by decide +kernel)) (by decide) (by decide) (fun _ => rfl) (fun _ => rfl) (Or.inr ⟨rfl, rfl, rfl⟩) (fun _ => rfl) (fun _ => rfl) ?_
  refine u_c2 (E' := fun Z i => cellE Z M00 i) (fun Z i hi => e3_ok Z i hi) ?_
  exact u_ret dX3_init_154 rfl rfl rfl ⟨rfl, rfl, rfl⟩
theorem lt71 {i : Nat} (h : i < 71) : i < 60 ∨ i = 60 ∨ i = 61 ∨ i = 62 ∨ i = 63 ∨ i = 64 ∨ i = 65 ∨ i = 66 ∨ i = 67 ∨ i = 68 ∨ i = 69 ∨ i = 70 := by omega
def Q4 (tx : Nat → Int32) (M' : vM) : Prop := REF M' b0 s0R [] (fun _ => none) tx 0 ∧ ∀ i, i < 60 → M' i = M00 i
set_option maxRecDepth 100000 in
theorem vX4 (tx : Nat → Int32) : V kX4_init (fun v M' => v = none ∧ Q4 tx M') M00 85 [(0, .ref 60)] [] := by
  refine v_aload_n dX4_init_85 rfl ?_
  refine v_getR (t := 61) dX4_init_86 fl_X4_7 ⟨by decide, rfl, by decide⟩ rfl rfl ?_
  refine v_callSv (M1 := mrow M00 61 b0) (as := [.ref 61]) (st := []) dX4_init_89 ml_X4_41 ks_X4_begin ⟨(Nat.le_of_ble_eq_true rfl), (Nat.le_of_ble_eq_true rfl)⟩ rfl (Nat.le_of_ble_eq_true rfl) rfl (Nat.le_of_ble_eq_true rfl) (c_begin (Or.inl rfl)) ?_
  refine v_aload_n dX4_init_92 rfl ?_
  refine v_callV (as := []) (st := []) dX4_init_93 ml_X4_45 kv_X4_start ⟨by decide, rfl, by decide⟩ ⟨(Nat.le_of_ble_eq_true rfl), (Nat.le_of_ble_eq_true rfl)⟩ rfl (Nat.le_of_ble_eq_true rfl) rfl (Nat.le_of_ble_eq_true rfl) (c_start (M0 := mrow M00 61 b0)) (fun v M' hq => ?_)
  obtain ⟨rfl, g1, g2, g3, g4, g5⟩ := hq
  refine v_vret dX4_init_96 rfl ?_
  refine ⟨rfl, ⟨?_, g1, ⟨by rw [g2]; rfl, fun i hi => absurd hi (by simp)⟩, fun i hi => ⟨fun _ => ?_, fun r e => by cases e⟩, ⟨?_, fun j hj => absurd hj (by omega)⟩⟩, fun i hi => ?_⟩
  · rw [g4 61 (by decide) (by decide) (by decide), mrow_eq]
  · rcases (show i = 0 ∨ i = 1 by omega) with rfl | rfl
    · exact g3.1
    · exact g3.2
  · rw [g5 11 (by decide), mrow_ne (by decide)]; rfl
  · rw [g4 i (by omega) (by omega) (by omega), mrow_ne (by omega)]
def e4E : uE := eup (eup (eup (eup (eup (eup (eup (eup (eup (eup (eup (eup (eup (eup (eup (eup (eup (eup (eup (eup (eup (fun Z i => cellE Z M00 i) 60 (fun _ => .inr (4, [.null, .null, .null, .null, .null, .int 0, .null, .null, .null, .null, .null, .int 0, .int 0, .int 0, .int 0, .int 0, .int 0]))) (61) (fun Z => .inl (Z.2.2 10, 97, .inl (fun _ => 0)))) (60) (fun Z => .inr (4, [.ref (Z.1 (61)), .null, .null, .null, .null, .int 0, .null, .null, .null, .null, .null, .int 0, .int 0, .int 0, .int 0, .int 0, .int 0]))) (62) (fun Z => .inl (Z.2.2 10, 97, .inl (fun _ => 0)))) (60) (fun Z => .inr (4, [.ref (Z.1 (61)), .ref (Z.1 (62)), .null, .null, .null, .int 0, .null, .null, .null, .null, .null, .int 0, .int 0, .int 0, .int 0, .int 0, .int 0]))) (63) (fun Z => .inl (Z.2.2 10, 36, .inl (fun _ => 0)))) (60) (fun Z => .inr (4, [.ref (Z.1 (61)), .ref (Z.1 (62)), .ref (Z.1 (63)), .null, .null, .int 0, .null, .null, .null, .null, .null, .int 0, .int 0, .int 0, .int 0, .int 0, .int 0]))) (64) (fun Z => .inl (Z.2.2 10, 36, .inl (fun _ => 0)))) (60) (fun Z => .inr (4, [.ref (Z.1 (61)), .ref (Z.1 (62)), .ref (Z.1 (63)), .ref (Z.1 (64)), .null, .int 0, .null, .null, .null, .null, .null, .int 0, .int 0, .int 0, .int 0, .int 0, .int 0]))) (65) (fun Z => .inl (Z.2.2 10, 216, .inl (fun _ => 0)))) (60) (fun Z => .inr (4, [.ref (Z.1 (61)), .ref (Z.1 (62)), .ref (Z.1 (63)), .ref (Z.1 (64)), .ref (Z.1 (65)), .int 0, .null, .null, .null, .null, .null, .int 0, .int 0, .int 0, .int 0, .int 0, .int 0]))) (66) (fun Z => .inl (Z.2.2 10, 72, .inl (fun _ => 0)))) (60) (fun Z => .inr (4, [.ref (Z.1 (61)), .ref (Z.1 (62)), .ref (Z.1 (63)), .ref (Z.1 (64)), .ref (Z.1 (65)), .int 0, .ref (Z.1 (66)), .null, .null, .null, .null, .int 0, .int 0, .int 0, .int 0, .int 0, .int 0]))) (67) (fun Z => .inl (Z.2.2 12, 2, .inl (fun _ => 0)))) (60) (fun Z => .inr (4, [.ref (Z.1 (61)), .ref (Z.1 (62)), .ref (Z.1 (63)), .ref (Z.1 (64)), .ref (Z.1 (65)), .int 0, .ref (Z.1 (66)), .ref (Z.1 (67)), .null, .null, .null, .int 0, .int 0, .int 0, .int 0, .int 0, .int 0]))) (68) (fun Z => .inl (Z.2.2 10, 16, .inl (fun _ => 0)))) (60) (fun Z => .inr (4, [.ref (Z.1 (61)), .ref (Z.1 (62)), .ref (Z.1 (63)), .ref (Z.1 (64)), .ref (Z.1 (65)), .int 0, .ref (Z.1 (66)), .ref (Z.1 (67)), .ref (Z.1 (68)), .null, .null, .int 0, .int 0, .int 0, .int 0, .int 0, .int 0]))) (69) (fun Z => .inl (Z.2.2 10, 16, .inl (fun _ => 0)))) (60) (fun Z => .inr (4, [.ref (Z.1 (61)), .ref (Z.1 (62)), .ref (Z.1 (63)), .ref (Z.1 (64)), .ref (Z.1 (65)), .int 0, .ref (Z.1 (66)), .ref (Z.1 (67)), .ref (Z.1 (68)), .ref (Z.1 (69)), .null, .int 0, .int 0, .int 0, .int 0, .int 0, .int 0]))) (70) (fun Z => .inl (Z.2.2 10, 160, .inl (fun _ => 0)))) (60) (fun Z => .inr (4, [.ref (Z.1 (61)), .ref (Z.1 (62)), .ref (Z.1 (63)), .ref (Z.1 (64)), .ref (Z.1 (65)), .int 0, .ref (Z.1 (66)), .ref (Z.1 (67)), .ref (Z.1 (68)), .ref (Z.1 (69)), .ref (Z.1 (70)), .int 0, .int 0, .int 0, .int 0, .int 0, .int 0]))
set_option maxRecDepth 100000 in
theorem e4_ok : ∀ (Z : vZ) (i : Nat), i < 71 → e4E Z i = cellE Z M00 i := by
  intro Z i hi
  rcases lt71 hi with h | rfl | rfl | rfl | rfl | rfl | rfl | rfl | rfl | rfl | rfl | rfl
  · unfold e4E
    rw [eup_ne (by omega), eup_ne (by omega), eup_ne (by omega), eup_ne (by omega), eup_ne (by omega), eup_ne (by omega), eup_ne (by omega), eup_ne (by omega), eup_ne (by omega), eup_ne (by omega), eup_ne (by omega), eup_ne (by omega), eup_ne (by omega), eup_ne (by omega), eup_ne (by omega), eup_ne (by omega), eup_ne (by omega), eup_ne (by omega), eup_ne (by omega), eup_ne (by omega), eup_ne (by omega)]
  · rfl
  · rfl
  · rfl
  · rfl
  · rfl
  · rfl
  · rfl
  · rfl
  · rfl
  · rfl
  · rfl
set_option maxRecDepth 100000 in
theorem iX4 (tx : Nat → Int32) : U kX4_init (fun v n1 E1 => v = none ∧ ∃ M', n1 = 71 ∧ (∀ Z i, E1 Z i = cellE Z M' i) ∧ Q4 tx M') 10 748 61 (eup (fun Z i => cellE Z M00 i) 60 (fun _ => .inr (4, [.null, .null, .null, .null, .null, .int 0, .null, .null, .null, .null, .null, .int 0, .int 0, .int 0, .int 0, .int 0, .int 0]))) 0 0 0 [(0, .ref 60)] [] := by
  refine u_aload_n dX4_init_0 rfl ?_
  refine u_objI dX4_init_1 (wgi 613 (by decide +kernel) (by decide +kernel)) (Nat.le_of_ble_eq_true rfl) (Nat.le_of_ble_eq_true rfl) ?_
  refine u_aload_n dX4_init_4 rfl ?_
  refine u_bipush (v := nI 97) dX4_init_5 rfl ?_
  refine u_newa (atype := .int) (ty := .int) (t0 := 0) (t := 10) (N := 97) dX4_init_7 rfl (fun _ => rfl) (fun _ _ h => h) rfl aw_int (by decide) (by decide) (by decide) (Nat.le_of_ble_eq_true rfl) (Nat.le_of_ble_eq_true rfl) ?_
  refine u_put (i := 60) (ci := 4) (j := 0) (fs := fun Z => [.null, .null, .null, .null, .null, .int 0, .null, .null, .null, .null, .null, .int 0, .int 0, .int 0, .int 0, .int 0, .int 0]) dX4_init_9 (by decide) (by decide) (wgi 621 (by decide +kernel) (by decide +kernel)) (by decide) (by decide) (fun _ => rfl) (fun _ => rfl) (Or.inr ⟨rfl, rfl, rfl⟩) (fun _ => rfl) (fun _ => rfl) ?_
  refine u_aload_n dX4_init_12 rfl ?_
  refine u_bipush (v := nI 97) dX4_init_13 rfl ?_
  refine u_newa (atype := .int) (ty := .int) (t0 := 0) (t := 10) (N := 97) dX4_init_15 rfl (fun _ => rfl) (fun _ _ h => h) rfl aw_int (by decide) (by decide) (by decide) (Nat.le_of_ble_eq_true rfl) (Nat.le_of_ble_eq_true rfl) ?_
  refine u_put (i := 60) (ci := 4) (j := 1) (fs := fun Z => [.ref (Z.1 (61)), .null, .null, .null, .null, .int 0, .null, .null, .null, .null, .null, .int 0, .int 0, .int 0, .int 0, .int 0, .int 0]) dX4_init_17 (by decide) (by decide) (wgi 622 (by decide +kernel) (by decide +kernel)) (by decide) (by decide) (fun _ => rfl) (fun _ => rfl) (Or.inr ⟨rfl, rfl, rfl⟩) (fun _ => rfl) (fun _ => rfl) ?_
  refine u_aload_n dX4_init_20 rfl ?_
  refine u_bipush (v := nI 36) dX4_init_21 rfl ?_
  refine u_newa (atype := .int) (ty := .int) (t0 := 0) (t := 10) (N := 36) dX4_init_23 rfl (fun _ => rfl) (fun _ _ h => h) rfl aw_int (by decide) (by decide) (by decide) (Nat.le_of_ble_eq_true rfl) (Nat.le_of_ble_eq_true rfl) ?_
  refine u_put (i := 60) (ci := 4) (j := 2) (fs := fun Z => [.ref (Z.1 (61)), .ref (Z.1 (62)), .null, .null, .null, .int 0, .null, .null, .null, .null, .null, .int 0, .int 0, .int 0, .int 0, .int 0, .int 0]) dX4_init_25 (by decide) (by decide) (wgi 623 (by decide +kernel) (by decide +kernel)) (by decide) (by decide) (fun _ => rfl) (fun _ => rfl) (Or.inr ⟨rfl, rfl, rfl⟩) (fun _ => rfl) (fun _ => rfl) ?_
  refine u_aload_n dX4_init_28 rfl ?_
  refine u_bipush (v := nI 36) dX4_init_29 rfl ?_
  refine u_newa (atype := .int) (ty := .int) (t0 := 0) (t := 10) (N := 36) dX4_init_31 rfl (fun _ => rfl) (fun _ _ h => h) rfl aw_int (by decide) (by decide) (by decide) (Nat.le_of_ble_eq_true rfl) (Nat.le_of_ble_eq_true rfl) ?_
  refine u_put (i := 60) (ci := 4) (j := 3) (fs := fun Z => [.ref (Z.1 (61)), .ref (Z.1 (62)), .ref (Z.1 (63)), .null, .null, .int 0, .null, .null, .null, .null, .null, .int 0, .int 0, .int 0, .int 0, .int 0, .int 0]) dX4_init_33 (by decide) (by decide) (wgi 624 (by decide +kernel) (by decide +kernel)) (by decide) (by decide) (fun _ => rfl) (fun _ => rfl) (Or.inr ⟨rfl, rfl, rfl⟩) (fun _ => rfl) (fun _ => rfl) ?_
  refine u_aload_n dX4_init_36 rfl ?_
  refine u_sipush (v := nI 216) dX4_init_37 rfl ?_
  refine u_newa (atype := .int) (ty := .int) (t0 := 0) (t := 10) (N := 216) dX4_init_40 rfl (fun _ => rfl) (fun _ _ h => h) rfl aw_int (by decide) (by decide) (by decide) (Nat.le_of_ble_eq_true rfl) (Nat.le_of_ble_eq_true rfl) ?_
  refine u_put (i := 60) (ci := 4) (j := 4) (fs := fun Z => [.ref (Z.1 (61)), .ref (Z.1 (62)), .ref (Z.1 (63)), .ref (Z.1 (64)), .null, .int 0, .null, .null, .null, .null, .null, .int 0, .int 0, .int 0, .int 0, .int 0, .int 0]) dX4_init_42 (by decide) (by decide) (wgi 625 (by decide +kernel) (by decide +kernel)) (by decide) (by decide) (fun _ => rfl) (fun _ => rfl) (Or.inr ⟨rfl, rfl, rfl⟩) (fun _ => rfl) (fun _ => rfl) ?_
  refine u_aload_n dX4_init_45 rfl ?_
  refine u_bipush (v := nI 72) dX4_init_46 rfl ?_
  refine u_newa (atype := .int) (ty := .int) (t0 := 0) (t := 10) (N := 72) dX4_init_48 rfl (fun _ => rfl) (fun _ _ h => h) rfl aw_int (by decide) (by decide) (by decide) (Nat.le_of_ble_eq_true rfl) (Nat.le_of_ble_eq_true rfl) ?_
  refine u_put (i := 60) (ci := 4) (j := 6) (fs := fun Z => [.ref (Z.1 (61)), .ref (Z.1 (62)), .ref (Z.1 (63)), .ref (Z.1 (64)), .ref (Z.1 (65)), .int 0, .null, .null, .null, .null, .null, .int 0, .int 0, .int 0, .int 0, .int 0, .int 0]) dX4_init_50 (by decide) (by decide) (wgi 627 (by decide +kernel) (by decide +kernel)) (by decide) (by decide) (fun _ => rfl) (fun _ => rfl) (Or.inr ⟨rfl, rfl, rfl⟩) (fun _ => rfl) (fun _ => rfl) ?_
  refine u_aload_n dX4_init_53 rfl ?_
  refine u_iconst (v := nI 2) dX4_init_54 rfl ?_
  refine u_newa (atype := .boolean) (ty := .boolean) (t0 := 2) (t := 12) (N := 2) dX4_init_55 rfl (fun _ => rfl) (fun _ _ h => h) rfl aw_bool (by decide) (by decide) (by decide) (Nat.le_of_ble_eq_true rfl) (Nat.le_of_ble_eq_true rfl) ?_
  refine u_put (i := 60) (ci := 4) (j := 7) (fs := fun Z => [.ref (Z.1 (61)), .ref (Z.1 (62)), .ref (Z.1 (63)), .ref (Z.1 (64)), .ref (Z.1 (65)), .int 0, .ref (Z.1 (66)), .null, .null, .null, .null, .int 0, .int 0, .int 0, .int 0, .int 0, .int 0]) dX4_init_57 (by decide) (by decide) (wgi 628 (by decide +kernel) (by decide +kernel)) (by decide) (by decide) (fun _ => rfl) (fun _ => rfl) (Or.inr ⟨rfl, rfl, rfl⟩) (fun _ => rfl) (fun _ => rfl) ?_
  refine u_aload_n dX4_init_60 rfl ?_
  refine u_bipush (v := nI 16) dX4_init_61 rfl ?_
  refine u_newa (atype := .int) (ty := .int) (t0 := 0) (t := 10) (N := 16) dX4_init_63 rfl (fun _ => rfl) (fun _ _ h => h) rfl aw_int (by decide) (by decide) (by decide) (Nat.le_of_ble_eq_true rfl) (Nat.le_of_ble_eq_true rfl) ?_
  refine u_put (i := 60) (ci := 4) (j := 8) (fs := fun Z => [.ref (Z.1 (61)), .ref (Z.1 (62)), .ref (Z.1 (63)), .ref (Z.1 (64)), .ref (Z.1 (65)), .int 0, .ref (Z.1 (66)), .ref (Z.1 (67)), .null, .null, .null, .int 0, .int 0, .int 0, .int 0, .int 0, .int 0]) dX4_init_65 (by decide) (by decide) (wgi 629 (by decide +kernel) (by decide +kernel)) (by decide) (by decide) (fun _ => rfl) (fun _ => rfl) (Or.inr ⟨rfl, rfl, rfl⟩) (fun _ => rfl) (fun _ => rfl) ?_
  refine u_aload_n dX4_init_68 rfl ?_
  refine u_bipush (v := nI 16) dX4_init_69 rfl ?_
  refine u_newa (atype := .int) (ty := .int) (t0 := 0) (t := 10) (N := 16) dX4_init_71 rfl (fun _ => rfl) (fun _ _ h => h) rfl aw_int (by decide) (by decide) (by decide) (Nat.le_of_ble_eq_true rfl) (Nat.le_of_ble_eq_true rfl) ?_
  refine u_put (i := 60) (ci := 4) (j := 9) (fs := fun Z => [.ref (Z.1 (61)), .ref (Z.1 (62)), .ref (Z.1 (63)), .ref (Z.1 (64)), .ref (Z.1 (65)), .int 0, .ref (Z.1 (66)), .ref (Z.1 (67)), .ref (Z.1 (68)), .null, .null, .int 0, .int 0, .int 0, .int 0, .int 0, .int 0]) dX4_init_73 (by decide) (by decide) (wgi 630 (by decide +kernel) (by decide +kernel)) (by decide) (by decide) (fun _ => rfl) (fun _ => rfl) (Or.inr ⟨rfl, rfl, rfl⟩) (fun _ => rfl) (fun _ => rfl) ?_
  refine u_aload_n dX4_init_76 rfl ?_
  refine u_sipush (v := nI 160) dX4_init_77 rfl ?_
  refine u_newa (atype := .int) (ty := .int) (t0 := 0) (t := 10) (N := 160) dX4_init_80 rfl (fun _ => rfl) (fun _ _ h => h) rfl aw_int (by decide) (by decide) (by decide) (Nat.le_of_ble_eq_true rfl) (Nat.le_of_ble_eq_true rfl) ?_
  refine u_put (i := 60) (ci := 4) (j := 10) (fs := fun Z => [.ref (Z.1 (61)), .ref (Z.1 (62)), .ref (Z.1 (63)), .ref (Z.1 (64)), .ref (Z.1 (65)), .int 0, .ref (Z.1 (66)), .ref (Z.1 (67)), .ref (Z.1 (68)), .ref (Z.1 (69)), .null, .int 0, .int 0, .int 0, .int 0, .int 0, .int 0]) dX4_init_82 (by decide) (by decide) (wgi 631 (by decide +kernel) (by decide +kernel)) (by decide) (by decide) (fun _ => rfl) (fun _ => rfl) (Or.inr ⟨rfl, rfl, rfl⟩) (fun _ => rfl) (fun _ => rfl) ?_
  exact u_toV (E := e4E) (M := M00) e4_ok (fun v M' h => ⟨h.1, M', rfl, fun _ _ => rfl, h.2⟩) rfl rfl (vX4 tx)
end I60
