/-! THE CLAIM OUT OF ONE WALK OF THE LAW'S BODY. Your part is whole_start (and what it stands on); all else here is the same for every law, but numbers. -/
def R_law : String := "ClockCrossingsLaw"
def lw_P (b : Addr) (xs : List Int32) (args : Array Value) (s : State) : Prop := args = #[.ref b] ∧ s.IntsAt b xs ∧ xs.length ≤ 1536 ∧ (Jvm.Cond.and given_1 narrow_1).before args s = true
/-- what a walk over the start with the record d0 says of its end, said of the start itself -/
theorem lw_closed {s t : State} {o : Outcome} {d0 : Drawn} {L : List Loc} {k n : Nat} (hd0 : s.drawn.sameBut d0 lw_cs) (hv : ∃ v, o = .returned v) (hW : (s.setDrawn d0).WarmedH t.vm) (hs : (s.setDrawn d0).sameButNew ({ t with vm := s.vm } : State) L k n) : State.butDraws s t lw_cs (fun t1 => Framed s o t1 L k n) := by
  have h2 : t.drawn = d0 := congrArg State.drawn hs.1
  refine ⟨⟨hv, hW, State.sameButNew.setDrawn hs s.drawn⟩, ?_, by decide⟩
  rw [h2]
  exact hd0
def lw_Q (_ : Array Value) (s : State) (o : Outcome) (t : State) : Prop := o = .returned (some (.int 1)) ∧ State.butDraws s t lw_cs (fun t1 => Framed s o t1 [] 600000 7302250)
def lw_Z (below : List Frame) (a : Array Value) (s : State) : State → Prop := fun t => ∃ o, t.status = .running ∧ Ended t below o ∧ lw_Q a s o t
/-- the law's own end, with 1 on the stack, nothing written that was there before, its room as the claim has it; d0: the record of draws at this point (at the entry s.drawn: begin with 'refine W.base ?_' and 'have hd0 := Drawn.sameBut.refl s.drawn lw_cs') -/
theorem lw_ret {p : Program} {l : Launch} {e : Env} {s : State} {m : MethodId} {below : List Frame} {meth : Method} {c : Code} {b : Nat} {d0 : Drawn} (hd0 : s.drawn.sameBut d0 lw_cs) (hx : p.tables.exec = Jvm.exec) (hb : c.code = code) (hr : meth.sig.returnType = ret) (hlocks : meth.locks = false) {pc : Nat} {H : Heap} {ls : Array Slot} (hdg : decode code pc = .ok (.ireturn, 1)) : W p l e room_1 (s.setDrawn d0) m #[Value.ref b] below meth c H [] 600000 7302250 (lw_Z below #[Value.ref b] s) (F0 m pc ls [.int 1]) := by
  intro T hT X
  obtain ⟨fs, hret, hrun, hended, hW, hframe⟩ := X.leave (v := some (.int 1)) (hlocks := hlocks) (fun h => by rw [hr] at h; cases h)
  have hmeth' : T.vm.method? m = some meth := X.method'
  refine ⟨T.setFrames fs, ?_, .returned (some (.int 1)), hrun, hended, rfl, lw_closed hd0 ⟨_, rfl⟩ hW hframe⟩
  jvm_step X.here [X.here.top, hx, hb, hdg, hmeth', hr, ret, narrow_b1]
  (try refine ⟨rfl, ?_⟩); (try refine ⟨rfl, ?_⟩)
  first | (intro acts; rw [hret _ acts rfl rfl rfl]) | rw [hret _ _ rfl rfl rfl]
  exact Steps.refl _
/-- what holds at the law's entry: the machine, the code, the tables' words (any of lw_tbl by 'hts w (by decide +kernel)'), the script of L ints xs at the cell b, what the Statement gives of the start (any of its parts by flat_of_before) -/
def lw_At (p : Program) (s : State) (m : MethodId) (meth : Method) (c : Code) (b L : Nat) (xs : Nat → Int32) : Prop :=
  p.tables.exec = Jvm.exec ∧ c.code = code ∧ meth.sig.returnType = ret ∧ c.maxLocals = 4 ∧ s.vm.findClass R_law = some m.cls ∧ (∀ w ∈ lw_tbl, w.before #[Value.ref b] s = true) ∧ va_X b L xs s s.heap ∧ b < s.heap.size ∧ meth.locks = false ∧ (Jvm.Cond.and given_1 narrow_1).before #[Value.ref b] s = true
theorem lk_7 : Cond.classLink RL 7 (Rc 3) ∈ wg := (wgi 93 (by decide +kernel) (by decide +kernel))
theorem lk_10 : Cond.classLink RL 10 (Rc 4) ∈ wg := (wgi 608 (by decide +kernel) (by decide +kernel))
theorem len_lt {args : Array Value} {s : State} {tm : Term} {z : Int32} {a : Nat} {cell : Cell} (h : (Term.length tm).eval args s none [] s = some (.int z)) (h1 : tm.eval args s none [] s = some (.ref a)) (h2 : s.arrayAt? a = some cell) : cell.slots.size < 2147483648 := by
  by_cases hge : cell.slots.size < 2147483648
  · exact hge
  · exfalso
    simp [Term.eval, h1, h2, hge] at h
theorem CLS_0 {M : vM} {tx : Nat → Int32} (h : ∀ i, i < 60 → M i = M00 i) : CLS 4 0 M b0 s0R [] (fun _ => none) tx 0 := by
  have n0 : nN b0 = 0 := rfl
  have k0 : nK b0 = 0 := rfl
  refine CLS_c (M := M00) ?_ (fun i hi _ => h i hi)
  refine ⟨Or.inl rfl, rfl, rfl, ⟨⟨rfl, rfl, fun n hn => absurd hn (by omega), fun n hn => absurd hn (by omega), fun n hn => absurd hn (by omega), fun n hn => absurd hn (by omega), fun n hn => absurd hn (by omega), fun n hn => absurd hn (by omega), fun n hn => absurd hn (by omega), fun j hj => ?_⟩, fun n hn => absurd hn (by omega)⟩, ⟨⟨rfl, rfl, rfl, rfl⟩, fun n hn => absurd hn (by omega), fun n hn => absurd hn (by omega)⟩, ⟨by decide, rfl, fun i hi => ?_, fun i hi => absurd hi (by simp)⟩, ⟨fun i hi => rfl, fun i hi => ⟨fun _ => rfl, fun q hq => by cases hq⟩⟩, ⟨rfl, fun j hj => absurd hj (by omega)⟩⟩
  · rcases (show j = 0 ∨ j = 1 ∨ j = 2 by omega) with rfl | rfl | rfl <;> rfl
  · show nI (34 + 3 * i) = _
    rw [show (i + 0) % 6 = i by omega]
set_option maxRecDepth 100000 in
theorem uL {L : Nat} {xs : Nat → Int32} (hL : L ≤ 1536) : U (kL_law L xs) (fun v _ _ => v = some (.int 1)) 71 1721 0 ez0 0 0 0 [(0, .ref 99)] [] := by
  refine u_new (ci := 3) (fs := [.null, .null, .null, .null, .null, .int 0, .null, .null, .null, .null]) dL_law_0 (by decide) lk_7 (wgi 94 (by decide +kernel) (by decide +kernel)) (wgi 81 (by decide +kernel) (by decide +kernel)) (by decide) (Nat.le_of_ble_eq_true rfl) (Nat.le_of_ble_eq_true rfl) df_3 ?_
  refine u_dup dL_law_3 rfl ?_
  refine u_callI dL_law_4 mi_L_9 ki_X3 ⟨(Nat.le_of_ble_eq_true rfl), (Nat.le_of_ble_eq_true rfl)⟩ (Nat.le_of_ble_eq_true rfl) (Nat.le_of_ble_eq_true rfl) (mc' := 59) (ms' := 946) (Nat.le_of_ble_eq_true rfl) (Nat.le_of_ble_eq_true rfl) iX3 (fun n' E' hq => ?_)
  obtain ⟨rfl, rfl⟩ := hq
  refine u_astore_n (lv' := [(0, .ref 99), (1, .ref 0)]) dL_law_7 (Nat.le_of_ble_eq_true rfl) rfl ?_
  refine u_new (ci := 4) (fs := [.null, .null, .null, .null, .null, .int 0, .null, .null, .null, .null, .null, .int 0, .int 0, .int 0, .int 0, .int 0, .int 0]) dL_law_8 (by decide) lk_10 (wgi 609 (by decide +kernel) (by decide +kernel)) (wgi 85 (by decide +kernel) (by decide +kernel)) (by decide) (Nat.le_of_ble_eq_true rfl) (Nat.le_of_ble_eq_true rfl) df_4 ?_
  refine u_dup dL_law_11 rfl ?_
  refine u_callI dL_law_12 mi_L_12 ki_X4 ⟨(Nat.le_of_ble_eq_true rfl), (Nat.le_of_ble_eq_true rfl)⟩ (Nat.le_of_ble_eq_true rfl) (Nat.le_of_ble_eq_true rfl) (mc' := 10) (ms' := 748) (Nat.le_of_ble_eq_true rfl) (Nat.le_of_ble_eq_true rfl) (iX4 z0) (fun n' E' hq => ?_)
  obtain ⟨M', rfl, hE, hq⟩ := hq
  refine u_astore_n (lv' := [(0, .ref 99), (1, .ref 0), (2, .ref 60)]) dL_law_15 (Nat.le_of_ble_eq_true rfl) rfl ?_
  refine u_iconst (v := nI 0) dL_law_16 rfl ?_
  refine u_istore_n (lv' := [(0, .ref 99), (1, .ref 0), (2, .ref 60), (3, .int (nI 0))]) dL_law_17 (Nat.le_of_ble_eq_true rfl) rfl ?_
  refine u_toV (M := M') (QV := QL) (fun Z i _ => hE Z i) (fun v M2 h => h) rfl rfl ?_
  exact law_loop hL L 0 M' b0 s0R [] (fun _ => none) z0 0 (by omega) (by omega) (IV_0 b0_WD.1) ⟨4, 0, CLS_0 hq.2⟩ hq.1
set_option maxHeartbeats 4000000 in
set_option maxRecDepth 100000 in
theorem whole_start {p : Program} {e : Env} {s : State} {m : MethodId} {below : List Frame} {meth : Method} {c : Code} (l : Launch) (hflags : l.flags = flags0) {b L : Nat} {xs : Nat → Int32} (hL : L ≤ 1536) (C0 : lw_At p s m meth c b L xs) : W p l e room_1 s m #[Value.ref b] below meth c s.heap [] 0 0 (lw_Z below #[Value.ref b] s) (entryFrame m ([Value.ref b] : List Value).toArray 4) := by
  obtain ⟨hx, hb, hr, hml, hown, hts, hX, hbl, hlocks, hgv⟩ := C0
  have hs := flat_of_before _ hgv
  have hA : ∀ a : Nat, a < s.heap.size → ¬ (fun q : Nat => s.heap.size ≤ q) a := fun a h z => absurd h (Nat.not_lt.mpr z)
  have hwg : ∀ w ∈ wg, w.before #[Value.ref b] s = true := fun w hw => hts w (List.mem_filter.mp hw).1
  have hnw : ∀ w ∈ nw, va_Nw w s := fun w hw => va_Nw.of (nw_onTables w hw) (hts w (List.mem_append_right _ (List.mem_filter.mp hw).1))
  obtain ⟨cc0, is0, hk0⟩ := u_known (ws := wg) (C := RX0) (T := TX0) (N := 11) hwg in_ok0 (hwg (.instantiable RX0 11) (wgi 133 (by decide +kernel) (by decide +kernel)))
  obtain ⟨cc1, is1, hk1⟩ := u_known (ws := wg) (C := RX1) (T := TX1) (N := 6) hwg in_ok1 (hwg (.instantiable RX1 6) (wgi 193 (by decide +kernel) (by decide +kernel)))
  obtain ⟨cc2, is2, hk2⟩ := u_known (ws := wg) (C := RX2) (T := TX2) (N := 7) hwg in_ok2 (hwg (.instantiable RX2 7) (wgi 102 (by decide +kernel) (by decide +kernel)))
  obtain ⟨cc3, is3, hk3⟩ := u_known (ws := wg) (C := RX3) (T := TX3) (N := 10) hwg in_ok3 (hwg (.instantiable RX3 10) (wgi 94 (by decide +kernel) (by decide +kernel)))
  obtain ⟨cc4, is4, hk4⟩ := u_known (ws := wg) (C := RX4) (T := TX4) (N := 17) hwg in_ok4 (hwg (.instantiable RX4 17) (wgi 609 (by decide +kernel) (by decide +kernel)))
  obtain ⟨aI, kaI, coI, fI1, fI2, fI3⟩ := Cond.arrayClass_spec (hwg (.arrayClass .int) aw_int)
  obtain ⟨aC, kaC, coC, fC1, fC2, fC3⟩ := Cond.arrayClass_spec (hwg (.arrayClass .char) aw_char)
  obtain ⟨aZ, kaZ, coZ, fZ1, fZ2, fZ3⟩ := Cond.arrayClass_spec (hwg (.arrayClass .boolean) aw_bool)
  have hao : (Cond.arrayOver (.object "ClockCrossings$Moment")).before #[Value.ref b] s = true := hts _ (List.mem_of_getElem? (i := 223) (by decide +kernel))
  have hca : (Cond.castable "[I" "java/lang/Cloneable").before #[Value.ref b] s = true := hts _ (List.mem_of_getElem? (i := 145) (by decide +kernel))
  obtain ⟨coM, aM, kaM, fM1, -, fM2, fM3, fM4⟩ := Cond.arrayOver_spec hao
  have hlen3 : (Term.length (.static "ClockCrossings" "FIRST_PERIODS" "[I")).eval #[Value.ref b] s none [] s = some (.int 3) := va_eqt (hs _ (by decide +kernel))
  obtain ⟨ad97, h97, hT97⟩ := va_Tof (tm := .static "ClockCrossings" "FIRST_PERIODS" "[I") (ty := .int) (N := 3) (f := fun j => .int (xper j)) (A := fun q : Nat => s.heap.size ≤ q) (by decide) (hs _ (by decide +kernel)) hlen3 (fun j hj => by
    rcases (show j = 0 ∨ j = 1 ∨ j = 2 by omega) with rfl | rfl | rfl
    · exact va_eqt (z := 2) (hs _ (by decide +kernel))
    · exact va_eqt (z := 3) (hs _ (by decide +kernel))
    · exact va_eqt (z := 5) (hs _ (by decide +kernel))) hA
  have hx97 : ∃ cell : Cell, s.heap[ad97]? = some cell ∧ cell.slots.size = 3 ∧ s.vm.findClass "[I" = some cell.cls := by
    obtain ⟨a9, cell, e1, e2, e3⟩ := Term.length_spec hlen3
    cases h97.symm.trans e1
    have hcell := (State.arrayAt?_spec e2).1
    have hlt : cell.slots.size < 2147483648 := len_lt hlen3 h97 e2
    have hsz : cell.slots.size = 3 := by
      have e4 : (3 : Int32) = cell.slots.size.toInt32 := Value.int.inj e3
      have e5 : nI 3 = nI cell.slots.size := e4
      exact ((nI_eq (by decide) (by omega)).mp e5).symm
    obtain ⟨a8, c8, cell8, k8, q1, q2, q3, q4, q5, q6, -⟩ := Cond.exactly_spec (args := #[Value.ref b]) (first := s) (o := none) (s := s) (idx := []) (t := .static "ClockCrossings" "FIRST_PERIODS" "[I") (cls := "[I") (hs _ (by decide +kernel))
    cases h97.symm.trans q1
    cases hcell.symm.trans q3
    exact ⟨cell, hcell, hsz, by rw [q6]; exact q2⟩
  obtain ⟨adK, adV, hVS, hVR⟩ := vk_Sof (args := #[Value.ref b]) (s := s) (N := 7) (tm := fun i => Term.string "ClockCrossings$Text" (80 + 2 * i)) (len := xlen) (byt := xbyt) (A := fun q : Nat => s.heap.size ≤ q) (fun i hi => by have := xlen_b i hi; omega)
    (fun i hi => hs _ ((by decide +kernel : ∀ i, i < 7 → Cond.exactly (Term.string "ClockCrossings$Text" (80 + 2 * i)) "java/lang/String" ∈ flatC (Jvm.Cond.and given_1 narrow_1)) i hi))
    (fun i hi => hs _ ((by decide +kernel : ∀ i, i < 7 → Cond.eq (.field (Term.string "ClockCrossings$Text" (80 + 2 * i)) "java/lang/String" "coder" "B") (.int 0) ∈ flatC (Jvm.Cond.and given_1 narrow_1)) i hi))
    (fun i hi => hs _ ((by decide +kernel : ∀ i, i < 7 → Cond.arrayOf (.field (Term.string "ClockCrossings$Text" (80 + 2 * i)) "java/lang/String" "value" "[B") .byte ∈ flatC (Jvm.Cond.and given_1 narrow_1)) i hi))
    (fun i hi => hs _ ((by decide +kernel : ∀ i, i < 7 → Cond.eq (.length (.field (Term.string "ClockCrossings$Text" (80 + 2 * i)) "java/lang/String" "value" "[B")) (.int (Int32.ofNat (xlen.getD i 0))) ∈ flatC (Jvm.Cond.and given_1 narrow_1)) i hi))
    (fun i hi j hj => hs _ ((by decide +kernel : ∀ i, i < 7 → ∀ j, j < xlen.getD i 0 → Cond.eq (.elem (.field (Term.string "ClockCrossings$Text" (80 + 2 * i)) "java/lang/String" "value" "[B") (.int (Int32.ofNat j))) (.int ((xbyt.getD i []).getD j 0)) ∈ flatC (Jvm.Cond.and given_1 narrow_1)) i hi j hj))
    (fun i j hi hj hij => by
      rcases Nat.lt_or_gt_of_ne hij with h | h
      · exact Or.inl (hs _ ((by decide +kernel : ∀ j, j < 7 → ∀ i, i < j → Cond.not (Cond.eq (Term.string "ClockCrossings$Text" (80 + 2 * i)) (Term.string "ClockCrossings$Text" (80 + 2 * j))) ∈ flatC (Jvm.Cond.and given_1 narrow_1)) j hj i h))
      · exact Or.inr (hs _ ((by decide +kernel : ∀ j, j < 7 → ∀ i, i < j → Cond.not (Cond.eq (Term.string "ClockCrossings$Text" (80 + 2 * i)) (Term.string "ClockCrossings$Text" (80 + 2 * j))) ∈ flatC (Jvm.Cond.and given_1 narrow_1)) i hi j h))) hA
  have hZ1 : va_Z "ClockCrossings" "FIRST_PERIODS" "[I" (.ref ad97) (fun q : Nat => s.heap.size ≤ q) s s.heap := va_Zof (hts _ (List.mem_of_getElem? (i := 139) (by decide +kernel))) (hts _ (List.mem_of_getElem? (i := 81) (by decide +kernel))) h97 hA
  have hZ2 : va_Z "java/lang/String" "COMPACT_STRINGS" "Z" (.int 1) (fun q : Nat => s.heap.size ≤ q) s s.heap := va_Zof (hts _ (List.mem_of_getElem? (i := 343) (by decide +kernel))) (hts _ (List.mem_of_getElem? (i := 88) (by decide +kernel))) (va_eqt (hs _ (by decide +kernel))) hA
  have hZ3 : va_Zq "jdk/internal/util/Preconditions" "SIOOBE_FORMATTER" "Ljava/util/function/BiFunction;" (fun q : Nat => s.heap.size ≤ q) s s.heap := va_Zqof (hts _ (List.mem_of_getElem? (i := 359) (by decide +kernel))) (hts _ (List.mem_of_getElem? (i := 90) (by decide +kernel))) (hs _ (by decide +kernel)) hA
  obtain ⟨ad98, hZ4⟩ : ∃ ad98 : Nat, va_Z "jdk/internal/util/Preconditions" "SIOOBE_FORMATTER" "Ljava/util/function/BiFunction;" .null (fun q : Nat => s.heap.size ≤ q) s s.heap ∨ va_Z "jdk/internal/util/Preconditions" "SIOOBE_FORMATTER" "Ljava/util/function/BiFunction;" (.ref ad98) (fun q : Nat => s.heap.size ≤ q) s s.heap := by
    rcases hZ3 with h | ⟨t9, h⟩
    · exact ⟨0, Or.inl h⟩
    · exact ⟨t9, Or.inr h⟩
  obtain ⟨scr, x1, x2, x3, x4, x5⟩ := id hX
  have main := uL (L := L) (xs := xs) hL
    (fun i => if i < 71 then s.heap.size + i else if i = 97 then ad97 else if i = 98 then ad98 else if i = 99 then b else if i < 87 then adK (i - 80) else adV (i - 90), (fun ci => match ci with | 0 => cc0 | 1 => cc1 | 2 => cc2 | 3 => cc3 | _ => cc4, fun ci => match ci with | 0 => is0 | 1 => is1 | 2 => is2 | 3 => is3 | _ => is4), fun k => match k with | 10 => aI | 11 => aC | 12 => aZ | _ => aM)
    (fun q : Nat => s.heap.size ≤ q) p l e room_1 s m #[Value.ref b] below meth c (lw_Z below #[Value.ref b] s)
  have hl := lv_entry ([Value.ref b]) (n := 4) (by rw [lg_len]; exact Nat.le_of_ble_eq_true rfl)
  rw [lg_entry_eq]
  refine main ⟨hx, hb, hml, hown, hwg, hnw, ⟨?_, ?_⟩, ⟨Nat.le_of_ble_eq_true rfl, Nat.le_of_ble_eq_true rfl, Nat.le_of_ble_eq_true rfl, Nat.le_of_ble_eq_true rfl⟩, ?_, ?_, ⟨hZ1, hT97, ?_, ?_, hZ2, hZ4⟩, ?_⟩ ⟨?_, va_AO.of hao, va_Nw.of rfl hca, hx97⟩ (fun h => absurd h (show ¬ yL_law.name = "<init>" by decide)) ?_ s.heap [] _ (fun k q hk => by cases hk) (fun _ => ?_) va_S.rf hl
  · intro ci q hq
    have h5 : ci < 5 := (List.getElem?_eq_some_iff.mp hq).1
    rcases lt5 h5 with rfl | rfl | rfl | rfl | rfl
    · cases hq; exact hk0
    · cases hq; exact hk1
    · cases hq; exact hk2
    · cases hq; exact hk3
    · cases hq; exact hk4
  · intro k q hq
    have h5 : k < 4 := (List.getElem?_eq_some_iff.mp hq).1
    rcases (show k = 0 ∨ k = 1 ∨ k = 2 ∨ k = 3 by omega) with rfl | rfl | rfl | rfl
    · cases hq; exact ⟨fun N z => ⟨fun k h => (by cases h), kaI, fI2, coI, fI3⟩, fI1⟩
    · cases hq; exact ⟨fun N z => ⟨fun k h => (by cases h), kaC, fC2, coC, fC3⟩, fC1⟩
    · cases hq; exact ⟨fun N z => ⟨fun k h => (by cases h), kaZ, fZ2, coZ, fZ3⟩, fZ1⟩
    · cases hq; exact ⟨fun N z => ⟨fun k h => (by cases h), kaM, fM2, coM, fM3⟩, kaM, coM, fM2, fM3, fM1, fM4⟩
  · intro i j hi hj h
    simp only [if_pos hi, if_pos hj] at h
    omega
  · intro i hi
    simp only [if_pos hi]
    omega
  · refine ⟨fun i hi => ?_, fun i j hi hj h => ?_⟩
    · have e1 : (if 80 + i < 71 then s.heap.size + (80 + i) else if 80 + i = 97 then ad97 else if 80 + i = 98 then ad98 else if 80 + i = 99 then b else if 80 + i < 87 then adK (80 + i - 80) else adV (80 + i - 90)) = adK i := by
        rw [if_neg (by omega), if_neg (by omega), if_neg (by omega), if_neg (by omega), if_pos (by omega), Nat.add_sub_cancel_left]
      have e2 : (if 90 + i < 71 then s.heap.size + (90 + i) else if 90 + i = 97 then ad97 else if 90 + i = 98 then ad98 else if 90 + i = 99 then b else if 90 + i < 87 then adK (90 + i - 80) else adV (90 + i - 90)) = adV i := by
        rw [if_neg (by omega), if_neg (by omega), if_neg (by omega), if_neg (by omega), if_neg (by omega), Nat.add_sub_cancel_left]
      have h9 := hVS.1 i hi
      simp only [e1, e2]
      exact h9
    · simp only at h
      rw [if_neg (by omega), if_neg (by omega), if_neg (by omega), if_neg (by omega), if_pos (by omega), Nat.add_sub_cancel_left, if_neg (by omega), if_neg (by omega), if_neg (by omega), if_neg (by omega), if_pos (by omega), Nat.add_sub_cancel_left] at h
      exact hVS.2 i j hi hj h
  · intro i hi
    have e1 : (if 80 + i < 71 then s.heap.size + (80 + i) else if 80 + i = 97 then ad97 else if 80 + i = 98 then ad98 else if 80 + i = 99 then b else if 80 + i < 87 then adK (80 + i - 80) else adV (80 + i - 90)) = adK i := by
      rw [if_neg (by omega), if_neg (by omega), if_neg (by omega), if_neg (by omega), if_pos (by omega), Nat.add_sub_cancel_left]
    simp only [e1]
    refine vk_R.of (A := #[Value.ref b]) (hts _ ((by decide +kernel : ∀ i, i < 7 → Cond.stringRef "ClockCrossings$Text" (80 + 2 * i) (xtxt.getD i "") ∈ lw_tbl) i hi)) (hVR i hi)
  · exact ⟨scr, x1, x2, x3, Nat.le_of_eq x4.symm, congrArg (fun q => Int32.ofNat q) x4, x5, fun z => absurd hbl (Nat.not_lt.mpr z)⟩
  · intro i hi
    simp only [if_pos hi, if_pos (show 0 < 71 by decide)]
    omega
  · intro v n' E' H locs pc' ls hq hP' hz' hS' hd
    subst hq
    refine va_forget (fun q hq => hS'.2.2 q hq) ?_
    refine W.widen (k := 600000) (n := 7302250) (Nat.le_of_ble_eq_true rfl) (Nat.le_of_ble_eq_true rfl) ?_
    exact W.base (lw_ret (Drawn.sameBut.refl s.drawn lw_cs) hx hb hr hlocks hd.1)
  · simp only [if_pos (show 0 < 71 by decide)]
    omega
