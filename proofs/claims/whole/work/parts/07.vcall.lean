/-! V: calls. A contract of a method is V at its entry. -/
theorem lg_len (vs : List Value) : (lg_sl vs).length = (vs.map fun v => v.category).sum := by
  induction vs with
  | nil => rfl
  | cons v t ih =>
    have e : lg_sl (v :: t) = (if v.category = 2 then [Slot.val v, Slot.second] else [Slot.val v]) ++ lg_sl t := rfl
    rw [e, List.length_append, ih, List.map_cons, List.sum_cons]
    rcases lv_cat v with h | h
    · rw [if_neg (by omega), h]; rfl
    · rw [if_pos h, h]; rfl
theorem lv_args_mv (f : Nat → Nat) : ∀ (vs : List Value) (i : Nat), lv_args i (vs.map (mv f)) = (lv_args i vs).map (ml f)
  | [], _ => rfl
  | v :: t, i => by
    show (i, mv f v) :: lv_args (if (mv f v).category = 2 then i + 2 else i + 1) (t.map (mv f)) = ml f (i, v) :: (lv_args (if v.category = 2 then i + 2 else i + 1) t).map (ml f)
    rw [mv_cat, lv_args_mv f t]
    rfl
theorem cat_mv (f : Nat → Nat) (vs : List Value) : ((vs.map (mv f)).map fun v => v.category) = vs.map fun v => v.category := by
  rw [List.map_map]
  apply List.map_congr_left
  intro v _
  exact mv_cat f v
def vA (Z : vZ) : Nat → Prop := fun q => ∃ i, i < 71 ∧ q = Z.1 i
def vPc (Z : vZ) (M : vM) (as : List Value) : Array Value → State → Prop := fun a U => a = (as.map (mv Z.1)).toArray ∧ va_P Z.2.1 vwCl (wl Z M) U.heap ∧ va_K Z.2.1 vwCl (tys Z) U ∧ (∀ w ∈ nw, va_Nw w U) ∧ xE Z (vA Z) U
def vQc (Z : vZ) (Q : Option Value → vM → Prop) : Array Value → State → Outcome → State → Prop := fun _ st o t => ∃ v M', o = .returned (v.map (mv Z.1)) ∧ Q v M' ∧ va_P Z.2.1 vwCl (wl Z M') t.heap ∧ va_F (vA Z) st t
def vws (k : vK) : List Cond := .code k.1 k.2.1 k.2.2.1 k.2.2.2.1 :: wg
def vrm (k : vK) : Room := { frames := k.2.2.2.2.1, cells := 0, slots := 0, locals := k.2.2.2.2.2.1 }
theorem wg_good {k : vK} (h : Cond.code k.1 k.2.1 k.2.2.1 k.2.2.2.1 ∈ wg) : GoodIn wg (vws k) := by
  intro w hw
  have hw' : w ∈ wg := by
    rcases List.mem_cons.mp hw with rfl | q
    · exact h
    · exact q
  exact ⟨hw', good_of_word (List.mem_filter.mp hw').2⟩
theorem nw_onTables : ∀ w ∈ nw, w.onTables = true := by decide +kernel
theorem nw_warm {s U : State} (hW : s.WarmedH U.vm) (h : ∀ w ∈ nw, va_Nw w s) : ∀ w ∈ nw, va_Nw w U := by
  intro w hw
  have hn : isNst w = true := (List.mem_filter.mp hw).2
  have hs := h w hw
  cases w <;> first | exact va_Nw.warmF hW hs | exact va_Nw.warmM hW hs | (exact absurd hn (by simp [isNst]))
theorem xE_go {Z : vZ} {A B : Nat → Prop} {s U : State} {H : Heap} {locs : List Loc} (hE : xE Z A s) (hW : s.WarmedH U.vm) (hU : U.heap = H) (hS : va_S A s.heap H locs) (hB : ∀ q, B q → A q) : xE Z B U := by
  subst hU
  obtain ⟨h1, h2, h3, h4, h5, h6⟩ := hE
  exact ⟨((h1.kept hS.2.1).moved hW.alike).narrow hB, ((h2.kept hS.2.1).moved hW.alike).narrow hB, ((h3.kept hS.2.1).moved hW.alike).narrow hB, fun i hi => (h4 i hi).warm hW, ((h5.kept hS.2.1).moved hW.alike).narrow hB, h6.imp (fun h => ((h.kept hS.2.1).moved hW.alike).narrow hB) (fun h => ((h.kept hS.2.1).moved hW.alike).narrow hB)⟩
theorem xE_call {Z : vZ} {A : Nat → Prop} {U : State} {g : JFrame} {mk : MethodId} {a : Array Value} (hE : xE Z A U) : xE Z A (U.calling g mk a) := by
  obtain ⟨h1, h2, h3, h4, h5, h6⟩ := hE
  exact ⟨va_Z.moved (u := U) (U := U.calling g mk a) (Vm.Alike.refl U.vm) h1, va_T.moved (u := U) (U := U.calling g mk a) (Vm.Alike.refl U.vm) h2, vk_S.moved (u := U) (U := U.calling g mk a) (Vm.Alike.refl U.vm) h3, fun i hi => vk_R.same (u := U) (U := U.calling g mk a) rfl (h4 i hi), va_Z.moved (u := U) (U := U.calling g mk a) (Vm.Alike.refl U.vm) h5, h6.imp (va_Z.moved (u := U) (U := U.calling g mk a) (Vm.Alike.refl U.vm)) (va_Z.moved (u := U) (U := U.calling g mk a) (Vm.Alike.refl U.vm))⟩
theorem vPc_blind (Z : vZ) (M : vM) (as : List Value) : FrameBlind (vPc Z M as) := by
  intro a U g mk h
  obtain ⟨h1, h2, h3, h4, h5⟩ := h
  exact ⟨h1, h2, va_K.moved (u := U) (U := U.calling g mk a) (Vm.Alike.refl U.vm) h3, fun w hw => va_Nw.same (nw_onTables w hw) (u := U) (U := U.calling g mk a) rfl (h4 w hw), xE_call h5⟩
theorem v_met {k : vK} {Q : Option Value → vM → Prop} {M : vM} {as : List Value} (hscr : k.2.2.2.2.2.2 = none) (hpl : plainName k.1.cls = true) (hlen : (as.map fun v => v.category).sum ≤ k.2.2.1) (hV : V k Q M 0 (lv_args 0 as) []) (l : Launch) (Z : vZ) (hinj : ∀ i j, i < 71 → j < 71 → Z.1 i = Z.1 j → i = j) :
    Met l k.1 (vws k) (vrm k) (vPc Z M as) (vQc Z Q) 0 0 (vA Z) := by
  refine Met.ofW (cc := k.2.1) (maxL := k.2.2.1) (ret := k.2.2.2.1) hpl rfl ?_
  intro p e s m args below meth c s₁ B hml hv
  obtain ⟨rfl, hP, hK, hN, hE⟩ := hv
  have hts := atoms_spec (ws := vws k) B.pre
  have hlocks := B.notSynchronized
  have hr := B.returns
  have hl := lv_entry (as.map (mv Z.1)) (n := k.2.2.1) (by rw [lg_len, cat_mv]; exact hlen)
  rw [lg_entry_eq]
  rw [lv_args_mv] at hl
  refine hV Z (vA Z) p l e _ s m _ below meth c 0 0 _ ⟨B.exec, B.bytes, hml, findClass_of_methodNamed B.named, fun w h => hts w (List.mem_cons_of_mem _ h), hN, hK, ⟨Nat.le_refl _, Nat.le_refl _, Nat.zero_le _, Nat.zero_le _⟩, hinj, fun i h => ⟨i, h, rfl⟩, hE, by unfold xS; rw [hscr]; trivial⟩ ?_ s.heap [] _ hP va_S.rf hl
  intro v M' H locs pc' ls hq hP' hS' hd
  have fin : ∀ t : State, t.heap = H → vQc Z Q (as.map (mv Z.1)).toArray s (.returned (v.map (mv Z.1))) t := fun t ht => ⟨v, M', rfl, hq, by rw [ht]; exact hP', hS'.F ht⟩
  match v, hd, fin with
  | none, hd, fin => exact W.vret B.exec B.bytes (hr.trans hd.2) (fun t ht _ => fin t ht) hS'.2.2 hd.1
  | some (.int x), hd, fin =>
    obtain ⟨h1, ty, h2, h3⟩ := hd
    exact W.zret B.exec B.bytes (hr.trans h2) h3 (fun t ht _ => fin t ht) hS'.2.2 h1
  | some (.float x), hd, fin => exact W.fret B.exec B.bytes (hr.trans hd.2) (fun t ht _ => fin t ht) hS'.2.2 hd.1
  | some (.ref x), hd, fin =>
    obtain ⟨h1, n, h2⟩ := hd
    exact W.aret (v := .ref (Z.1 x)) B.exec B.bytes (hr.trans h2) (Or.inl ⟨n, rfl⟩) (Or.inr ⟨_, rfl⟩) (fun t ht _ => fin t ht) hS'.2.2 h1
theorem v_back {p : Program} {l : Launch} {e : Env} {R : Room} {s : State} {m : MethodId} {args : Array Value} {below : List Frame} {meth : Method} {c : Code} {H : Heap} {locs : List Loc} {cells slots : Nat} {Qw : State → Prop} {Z : vZ} {A : Nat → Prop} {Q' : Option Value → vM → Prop} {a : Array Value} {pc : Nat} {ls : Array Slot} {st0 rest : List Value}
    (hr : va_Run p l e R s m args below meth c H locs cells slots 0 0 (F0 m pc ls st0) rest (vQc Z Q' a) (vA Z)) (hS : va_S A s.heap H locs) (hA : ∀ q, vA Z q → A q)
    (kk : ∀ (v : Option Value) (M' : vM) (H1 : Heap) (locs1 : List Loc), Q' v M' → va_P Z.2.1 vwCl (wl Z M') H1 → va_S A s.heap H1 locs1 → W p l e R s m args below meth c H1 locs1 cells slots Qw (F0 m (pc + 3) ls ((v.map (mv Z.1)).toList ++ rest))) : W p l e R s m args below meth c H locs cells slots Qw (F0 m pc ls st0) := by
  intro T hT X
  obtain ⟨v, st₀, t, T', L, h0, X', hL, e1, e2, ⟨v', M', hv, hq, hp, hz, hk⟩, st⟩ := hr T hT X
  cases hv
  rw [h0] at hz hk
  obtain ⟨t2, a1, b1⟩ := kk v' M' T'.heap (locs ++ L) hq (by rw [e1]; exact hp)
    ⟨Nat.le_trans hS.1 (by rw [e1]; exact hz), fun q h1 h2 => by rw [e1, hk q (Nat.lt_of_lt_of_le h1 hS.1) (fun z => h2 (hA q z))]; exact hS.2.1 q h1 h2, fun q hq => by
      rcases List.mem_append.mp hq with h | h
      · exact hS.2.2 q h
      · exact hA _ (hL q h)⟩ T' rfl X'
  exact ⟨t2, st t2 a1, b1⟩
/-- an entry of a class's pool names the method k' -/
def ML (own : String) (idx : Nat) (k' : vK) : Prop := Cond.methodLink own idx k'.1 ∈ wg ∨ ∃ host, Cond.methodLinkNest own idx k'.1 host ∈ nw
/-- what every call of k' needs -/
def CK (k' : vK) (n : Nat) : Prop := (Cond.code k'.1 k'.2.1 k'.2.2.1 k'.2.2.2.1 ∈ wg ∧ Cond.initialized k'.1.cls ∈ wg) ∧ (k'.1.cls ≠ "java/lang/invoke/MethodHandle" ∧ k'.1.cls ≠ "java/lang/invoke/VarHandle" ∧ (parseMethodDescriptor k'.1.desc).map (fun d => d.parameters.length) = some n) ∧ plainName k'.1.cls = true ∧ k'.2.2.2.2.2.2 = none
def KS (k' : vK) (n : Nat) : Prop := CK k' n ∧ Cond.static k'.1 ∈ wg
def KV (k' : vK) (ci n : Nat) : Prop := CK k' n ∧ ci < 5 ∧ k'.1.cls = Rc ci ∧ Cond.instanceMethod k'.1 ∈ wg ∧ Cond.selects (Rc ci) k'.1 k'.1 ∈ wg
/-- the callee's room in the caller's -/
def RM (k k' : vK) : Prop := k'.2.2.2.2.1 + 1 ≤ k.2.2.2.2.1 ∧ 8 + (k'.2.2.1 + 11) + k'.2.2.2.2.2.1 ≤ k.2.2.2.2.2.1
section V7
variable {k k' : vK} {Q Q' : Option Value → vM → Prop} {M : vM} {pc : Nat} {lv : List (Nat × Value)} {st : List Value}
theorem v_callS {idx n : Nat} {as stk : List Value} (d : decode k.2.1 pc = .ok (.invokestatic idx, 3)) (ml : ML k.1.cls idx k') (ks : KS k' n) (rm : RM k k') (hn : as.length = n) (hlen : (as.map fun v => v.category).sum ≤ k'.2.2.1) (hst : as.reverse ++ st = stk) (hrs : (st.map fun v => v.category).sum ≤ 8)
    (hV : V k' Q' M 0 (lv_args 0 as) []) (h : ∀ v M', Q' v M' → V k Q M' (pc + 3) lv (v.toList ++ st)) : V k Q M pc lv stk := by
  intro Z A p l e R s m args below meth c cells slots Qw C Rt H locs ls hP hS hl
  have hsz : ls.size = k.2.2.1 := hl.1
  obtain ⟨⟨⟨hc1, hc2⟩, hd, hpl, hscr⟩, hstat⟩ := ks
  obtain ⟨hx, hb, hml, hown, hts, hnw, hK, ⟨r1, r2, r3, r4⟩, hinj, hA, hE, hX⟩ := id C
  have hA' : ∀ q, vA Z q → A q := fun q ⟨i, h1, h2⟩ => by rw [h2]; exact hA i h1
  have hM := v_met hscr hpl hlen hV l Z hinj
  have hpre : PreS s H (vPc Z M as) (as.map (mv Z.1)) := ⟨vPc_blind Z M as, fun U hU hW => ⟨rfl, by rw [hU]; exact hP, va_K.moved hW.alike hK, nw_warm hW hnw, xE_go hE hW hU hS hA'⟩⟩
  have hroom : (vrm k').frames + 1 ≤ R.frames ∧ 8 + (k'.2.2.1 + 11) + (vrm k').locals ≤ R.locals := ⟨Nat.le_trans rm.1 r1, Nat.le_trans rm.2 r2⟩
  have hstack : (F0 m pc ls (stk.map (mv Z.1))).stack = (as.map (mv Z.1)).reverse ++ st.map (mv Z.1) := by
    show stk.map (mv Z.1) = _
    rw [← hst, List.map_append, List.map_reverse]
  have hrs' : 2 * (F0 m pc ls (stk.map (mv Z.1))).monitorRoom + ((st.map (mv Z.1)).map fun v => v.category).sum ≤ 8 := lv_room (st := st.map (mv Z.1)) (by rw [cat_mv]; exact hrs)
  have run : va_Run p l e R s m args below meth c H locs cells slots 0 0 (F0 m pc ls (stk.map (mv Z.1))) (st.map (mv Z.1)) (vQc Z Q' (as.map (mv Z.1)).toArray) (vA Z) := by
    rcases ml with f1 | ⟨host, f1⟩
    · exact va_runS (As := as.map (mv Z.1)) (n := n) (bytes := k'.2.1) (maxL := k'.2.2.1) (ret := k'.2.2.2.1) (index := idx) ⟨hx, hb, hml, hown, hts⟩ hM ⟨callB_of n hts (wg_good hc1) rfl rfl rfl (hts _ hc2) (hts _ f1) hd hroom, hts _ hstat⟩ hpre rfl (by rw [List.length_map]; exact hn) hsz hstack hrs' d ⟨r3, r4⟩
    · exact va_runSN (As := as.map (mv Z.1)) (n := n) (bytes := k'.2.1) (maxL := k'.2.2.1) (ret := k'.2.2.2.1) (index := idx) (host := host) ⟨hx, hb, hml, hown, hts⟩ hM ⟨va_cnB n hts (wg_good hc1) rfl rfl rfl (hnw _ f1) (hts _ hc2) hd hroom, hts _ hstat, trivial⟩ hpre rfl (by rw [List.length_map]; exact hn) hsz hstack hrs' d ⟨r3, r4⟩
  refine v_back run hS hA' (fun v M' H1 locs1 hq hP1 hS1 => ?_)
  have e1 : (v.map (mv Z.1)).toList ++ st.map (mv Z.1) = (v.toList ++ st).map (mv Z.1) := by cases v <;> rfl
  rw [e1]
  exact h v M' hq Z A p l e R s m args below meth c cells slots Qw C Rt H1 locs1 ls hP1 hS1 hl
theorem v_callV {idx n ci i : Nat} {as stk : List Value} (d : decode k.2.1 pc = .ok (.invokevirtual idx, 3)) (ml : ML k.1.cls idx k') (kv : KV k' ci n) (ob : OB i ci) (rm : RM k k') (hn : as.length = n) (hlen : ((Value.ref i :: as).map fun v => v.category).sum ≤ k'.2.2.1) (hst : as.reverse ++ .ref i :: st = stk) (hrs : (st.map fun v => v.category).sum ≤ 8)
    (hV : V k' Q' M 0 (lv_args 0 (.ref i :: as)) []) (h : ∀ v M', Q' v M' → V k Q M' (pc + 3) lv (v.toList ++ st)) : V k Q M pc lv stk := by
  intro Z A p l e R s m args below meth c cells slots Qw C Rt H locs ls hP hS hl
  have hsz : ls.size = k.2.2.1 := hl.1
  obtain ⟨⟨⟨hc1, hc2⟩, hd, hpl, hscr⟩, hci, hcls, hinst, hsel⟩ := kv
  obtain ⟨hx, hb, hml, hown, hts, hnw, hK, ⟨r1, r2, r3, r4⟩, hinj, hA, hE, hX⟩ := id C
  have hA' : ∀ q, vA Z q → A q := fun q ⟨i, h1, h2⟩ => by rw [h2]; exact hA i h1
  have hM := v_met (as := .ref i :: as) hscr hpl hlen hV l Z hinj
  have hg := wl_get Z M ob.1
  rw [cell_ob ob] at hg
  have hpre : PreV s H (Rc ci) (Z.1 i) (vPc Z M (.ref i :: as)) (as.map (mv Z.1)) := ⟨vPc_blind Z M _, va_recv hK hP (cl_ok hci) hg, fun U hU hW => ⟨rfl, by rw [hU]; exact hP, va_K.moved hW.alike hK, nw_warm hW hnw, xE_go hE hW hU hS hA'⟩⟩
  have hroom : (vrm k').frames + 1 ≤ R.frames ∧ 8 + (k'.2.2.1 + 11) + (vrm k').locals ≤ R.locals := ⟨Nat.le_trans rm.1 r1, Nat.le_trans rm.2 r2⟩
  have hstack : (F0 m pc ls (stk.map (mv Z.1))).stack = (as.map (mv Z.1)).reverse ++ .ref (Z.1 i) :: st.map (mv Z.1) := by
    show stk.map (mv Z.1) = _
    rw [← hst, List.map_append, List.map_reverse]
    rfl
  have hrs' : 2 * (F0 m pc ls (stk.map (mv Z.1))).monitorRoom + ((st.map (mv Z.1)).map fun v => v.category).sum ≤ 8 := lv_room (st := st.map (mv Z.1)) (by rw [cat_mv]; exact hrs)
  have run : va_Run p l e R s m args below meth c H locs cells slots 0 0 (F0 m pc ls (stk.map (mv Z.1))) (st.map (mv Z.1)) (vQc Z Q' (Value.ref (Z.1 i) :: as.map (mv Z.1)).toArray) (vA Z) := by
    rcases ml with f1 | ⟨host, f1⟩
    · exact va_runV (As := as.map (mv Z.1)) (n := n) (bytes := k'.2.1) (maxL := k'.2.2.1) (ret := k'.2.2.2.1) (index := idx) (C := Rc ci) ⟨hx, hb, hml, hown, hts⟩ hM ⟨callB_of n hts (wg_good hc1) rfl rfl rfl (hts _ hc2) (hts _ f1) hd hroom, hts _ hinst, hts _ hsel⟩ hpre rfl (by rw [List.length_map]; exact hn) hsz hstack hrs' d ⟨r3, r4⟩
    · exact va_runVN (As := as.map (mv Z.1)) (n := n) (bytes := k'.2.1) (maxL := k'.2.2.1) (ret := k'.2.2.2.1) (index := idx) (host := host) (C := Rc ci) ⟨hx, hb, hml, hown, hts⟩ hM ⟨va_cnB n hts (wg_good hc1) rfl rfl rfl (hnw _ f1) (hts _ hc2) hd hroom, hts _ hinst, hts _ hsel⟩ hpre rfl (by rw [List.length_map]; exact hn) hsz hstack hrs' d ⟨r3, r4⟩
  refine v_back run hS hA' (fun v M' H1 locs1 hq hP1 hS1 => ?_)
  have e1 : (v.map (mv Z.1)).toList ++ st.map (mv Z.1) = (v.toList ++ st).map (mv Z.1) := by cases v <;> rfl
  rw [e1]
  exact h v M' hq Z A p l e R s m args below meth c cells slots Qw C Rt H1 locs1 ls hP1 hS1 hl
end V7
