/-! U: V with cells that are still being made: the first n of the 71, with contents E -/
abbrev uE : Type := vZ → Nat → va_E
def uw (Z : vZ) (n : Nat) (E : uE) : va_W := (List.range n).map (fun i => (Z.1 i, E Z i))
def eup (E : uE) (i : Nat) (g : vZ → va_E) : uE := fun Z j => if j = i then g Z else E Z j
theorem eup_eq {E : uE} {i : Nat} {g : vZ → va_E} {Z : vZ} : eup E i g Z i = g Z := if_pos rfl
theorem eup_ne {E : uE} {i j : Nat} {g : vZ → va_E} {Z : vZ} (h : j ≠ i) : eup E i g Z j = E Z j := if_neg h
theorem uw_len (Z : vZ) (n : Nat) (E : uE) : (uw Z n E).length = n := by simp [uw]
theorem uw_get (Z : vZ) {n : Nat} (E : uE) {i : Nat} (h : i < n) : (uw Z n E)[i]? = some (Z.1 i, E Z i) := by
  unfold uw
  rw [List.getElem?_map, List.getElem?_range h]
  rfl
theorem uw_c (Z : vZ) {n : Nat} {E E' : uE} (h : ∀ i, i < n → E' Z i = E Z i) : uw Z n E' = uw Z n E := by
  apply List.ext_getElem?
  intro j
  by_cases hj : j < n
  · rw [uw_get Z E' hj, uw_get Z E hj, h j hj]
  · rw [List.getElem?_eq_none (by rw [uw_len]; omega), List.getElem?_eq_none (by rw [uw_len]; omega)]
theorem uw_set (Z : vZ) {n i : Nat} {E : uE} {g : vZ → va_E} (h : i < n) : (uw Z n E).set i (Z.1 i, g Z) = uw Z n (eup E i g) := by
  apply List.ext_getElem?
  intro j
  by_cases hj : j = i
  · subst hj
    rw [List.getElem?_set_self (by rw [uw_len]; exact h), uw_get Z _ h, eup_eq]
  · rw [List.getElem?_set_ne (Ne.symm hj)]
    by_cases h7 : j < n
    · rw [uw_get Z E h7, uw_get Z _ h7, eup_ne hj]
    · rw [List.getElem?_eq_none (by rw [uw_len]; omega), List.getElem?_eq_none (by rw [uw_len]; omega)]
theorem uw_push (Z : vZ) {n : Nat} {E : uE} {g : vZ → va_E} : uw Z (n + 1) (eup E n g) = uw Z n E ++ [(Z.1 n, g Z)] := by
  have e : uw Z (n + 1) (eup E n g) = uw Z n (eup E n g) ++ [(Z.1 n, eup E n g Z n)] := by
    unfold uw; rw [List.range_succ, List.map_append]; rfl
  rw [e, eup_eq, uw_c Z (fun i hi => eup_ne (by omega))]
theorem uw_D {Z : vZ} {A : Nat → Prop} {n : Nat} (E : uE) (hn : n ≤ 71) (hi : ∀ i j, i < 71 → j < 71 → Z.1 i = Z.1 j → i = j) (hA : ∀ i, i < 71 → A (Z.1 i)) : va_D A (uw Z n E) := by
  have key : ∀ (i : Nat) (q : Nat × va_E), (uw Z n E)[i]? = some q → i < n ∧ q.1 = Z.1 i := by
    intro i q hq
    have h7 : i < n := by
      have := (List.getElem?_eq_some_iff.mp hq).1
      rw [uw_len] at this
      exact this
    rw [uw_get Z E h7] at hq
    cases hq
    exact ⟨h7, rfl⟩
  refine ⟨fun i j p q hp hq e => ?_, fun k q hq => ?_⟩
  · obtain ⟨a1, a2⟩ := key i p hp
    obtain ⟨b1, b2⟩ := key j q hq
    exact hi i j (by omega) (by omega) (by rw [← a2, ← b2]; exact e)
  · obtain ⟨a1, a2⟩ := key k q hq
    rw [a2]
    exact hA k (by omega)
def x97 (Z : vZ) (s : State) (H : Heap) : Prop := ∃ cell : Cell, H[Z.1 97]? = some cell ∧ cell.slots.size = 3 ∧ s.vm.findClass "[I" = some cell.cls
def uX (Z : vZ) (s : State) : Prop := (∀ i, i < 71 → Z.1 i = Z.1 0 + i) ∧ va_AO "ClockCrossings$Moment" s ∧ va_Nw (.castable "[I" "java/lang/Cloneable") s ∧ x97 Z s s.heap
def U (k : vK) (Q : Option Value → Nat → uE → Prop) (mc ms n : Nat) (E : uE) (ca sl pc : Nat) (lv : List (Nat × Value)) (st : List Value) : Prop :=
  ∀ (Z : vZ) (A : Nat → Prop) (p : Program) (l : Launch) (e : Env) (R : Room) (s : State) (m : MethodId) (args : Array Value) (below : List Frame) (meth : Method) (c : Code) (Qw : State → Prop), vC k Z A p R s m args c mc ms → uX Z s → (k.1.name = "<init>" → meth.name = "<init>") →
  (∀ (v : Option Value) (n' : Nat) (E' : uE) (H : Heap) (locs : List Loc) (pc' : Nat) (ls : Array Slot), Q v n' E' → va_P Z.2.1 vwCl (uw Z n' E') H → (n' < 71 → H.size = Z.1 0 + n') → va_S A s.heap H locs → retD k pc' v → W p l e R s m args below meth c H locs mc ms Qw (F0 m pc' ls (v.toList.map (mv Z.1)))) →
  ∀ (H : Heap) (locs : List Loc) (ls : Array Slot), va_P Z.2.1 vwCl (uw Z n E) H → (n < 71 → H.size = Z.1 0 + n) → va_S A s.heap H locs → lv_has ls k.2.2.1 (lv.map (ml Z.1)) → W p l e R s m args below meth c H locs ca sl Qw (F0 m pc ls (st.map (mv Z.1)))
section U59
variable {k k' : vK} {Q : Option Value → Nat → uE → Prop} {mc ms n ca sl pc : Nat} {E : uE} {lv lv' : List (Nat × Value)} {st : List Value}
theorem u_iconst {n9 : Int} {v : Int32} (d : decode k.2.1 pc = .ok (.iconst n9, 1)) (hv : Int32.ofInt n9 = v) (h : U k Q mc ms n E ca sl (pc + 1) lv (.int v :: st)) : U k Q mc ms n E ca sl pc lv (st) := by
  intro Z A p l e R s m args below meth c Qw C X N9 Rt H locs ls hP hz hS hl
  exact lv_iconst C.1 C.2.1 d hv (h Z A p l e R s m args below meth c Qw C X N9 Rt H locs ls hP hz hS hl)
theorem u_bipush {n9 : Int} {v : Int32} (d : decode k.2.1 pc = .ok (.bipush n9, 2)) (hv : (Int8.ofInt n9).toInt32 = v) (h : U k Q mc ms n E ca sl (pc + 2) lv (.int v :: st)) : U k Q mc ms n E ca sl pc lv (st) := by
  intro Z A p l e R s m args below meth c Qw C X N9 Rt H locs ls hP hz hS hl
  exact lv_bipush C.1 C.2.1 d hv (h Z A p l e R s m args below meth c Qw C X N9 Rt H locs ls hP hz hS hl)
theorem u_sipush {n9 : Int} {v : Int32} (d : decode k.2.1 pc = .ok (.sipush n9, 3)) (hv : (Int16.ofInt n9).toInt32 = v) (h : U k Q mc ms n E ca sl (pc + 3) lv (.int v :: st)) : U k Q mc ms n E ca sl pc lv (st) := by
  intro Z A p l e R s m args below meth c Qw C X N9 Rt H locs ls hP hz hS hl
  exact lv_sipush C.1 C.2.1 d hv (h Z A p l e R s m args below meth c Qw C X N9 Rt H locs ls hP hz hS hl)
theorem u_iinc {i : Nat} {n9 : Int} {x v : Int32} (d : decode k.2.1 pc = .ok (.iinc i n9, 3)) (hx : lget lv i = some (.int x)) (hv : x + Int32.ofInt n9 = v) (hn : i < k.2.2.1) (hl' : lset lv i (.int v) = lv') (h : U k Q mc ms n E ca sl (pc + 3) lv' st) : U k Q mc ms n E ca sl pc lv st := by
  intro Z A p l e R s m args below meth c Qw C X N9 Rt H locs ls hP hz hS hl
  subst hl'
  obtain ⟨j, hj⟩ := List.getElem?_of_mem (List.mem_map.mpr ⟨(i, Value.int x), lget_mem hx, rfl⟩ : ml Z.1 (i, Value.int x) ∈ lv.map (ml Z.1))
  exact lv_iinc C.1 C.2.1 d hl hj hv hn rfl (fun ls hl => h Z A p l e R s m args below meth c Qw C X N9 Rt H locs ls hP hz hS (lset_has (v := .int v) hl))
theorem u_iload_n {kk : Fin 4} {x : Int32} (d : decode k.2.1 pc = .ok (.iload_n kk, 1)) (hx : lget lv kk.val = some (.int x)) (h : U k Q mc ms n E ca sl (pc + 1) lv (.int x :: st)) : U k Q mc ms n E ca sl pc lv (st) := by
  intro Z A p l e R s m args below meth c Qw C X N9 Rt H locs ls hP hz hS hl
  exact lv_iload_n C.1 C.2.1 d rfl (lget_at hl hx) (h Z A p l e R s m args below meth c Qw C X N9 Rt H locs ls hP hz hS hl)
theorem u_istore_n {kk : Fin 4} {x : Int32} (d : decode k.2.1 pc = .ok (.istore_n kk, 1)) (hn : kk.val < k.2.2.1) (hl' : lset lv kk.val (.int x) = lv') (h : U k Q mc ms n E ca sl (pc + 1) lv' st) : U k Q mc ms n E ca sl pc lv (.int x :: st) := by
  intro Z A p l e R s m args below meth c Qw C X N9 Rt H locs ls hP hz hS hl
  subst hl'
  exact lv_istore_n C.1 C.2.1 d rfl hl hn rfl (fun ls hl => h Z A p l e R s m args below meth c Qw C X N9 Rt H locs ls hP hz hS (lset_has hl))
theorem u_aload_n {kk : Fin 4} {x : Nat} (d : decode k.2.1 pc = .ok (.aload_n kk, 1)) (hx : lget lv kk.val = some (.ref x)) (h : U k Q mc ms n E ca sl (pc + 1) lv (.ref x :: st)) : U k Q mc ms n E ca sl pc lv (st) := by
  intro Z A p l e R s m args below meth c Qw C X N9 Rt H locs ls hP hz hS hl
  exact lv_aload_n C.1 C.2.1 d rfl (lget_at hl hx) (h Z A p l e R s m args below meth c Qw C X N9 Rt H locs ls hP hz hS hl)
theorem u_astore_n {kk : Fin 4} {x : Nat} (d : decode k.2.1 pc = .ok (.astore_n kk, 1)) (hn : kk.val < k.2.2.1) (hl' : lset lv kk.val (.ref x) = lv') (h : U k Q mc ms n E ca sl (pc + 1) lv' st) : U k Q mc ms n E ca sl pc lv (.ref x :: st) := by
  intro Z A p l e R s m args below meth c Qw C X N9 Rt H locs ls hP hz hS hl
  subst hl'
  exact lv_astore_n C.1 C.2.1 d rfl hl hn rfl (fun ls hl => h Z A p l e R s m args below meth c Qw C X N9 Rt H locs ls hP hz hS (lset_has hl))
theorem u_dup {va : Value} (d : decode k.2.1 pc = .ok (.dup, 1)) (hc : va.category = 1) (h : U k Q mc ms n E ca sl (pc + 1) lv (va :: va :: st)) : U k Q mc ms n E ca sl pc lv (va :: st) := by
  intro Z A p l e R s m args below meth c Qw C X N9 Rt H locs ls hP hz hS hl
  exact lv_dup C.1 C.2.1 d ((mv_cat Z.1 va).trans hc) (h Z A p l e R s m args below meth c Qw C X N9 Rt H locs ls hP hz hS hl)
theorem u_icmp_ge {x y : Int32} {off : Int} {tgt : Nat} (d : decode k.2.1 pc = .ok (.if_icmp .ge off, 3)) (ht : (pc : Int) + off = (tgt : Int)) (kt : y ≤ x → U k Q mc ms n E ca sl tgt lv st) (kf : ¬ y ≤ x → U k Q mc ms n E ca sl (pc + 3) lv st) : U k Q mc ms n E ca sl pc lv (.int y :: .int x :: st) := by
  intro Z A p l e R s m args below meth c Qw C X N9 Rt H locs ls hP hz hS hl
  exact lv_icmp_ge C.1 C.2.1 d ht (fun q => kt q Z A p l e R s m args below meth c Qw C X N9 Rt H locs ls hP hz hS hl) (fun q => kf q Z A p l e R s m args below meth c Qw C X N9 Rt H locs ls hP hz hS hl)
theorem u_goto {off : Int} {tgt : Nat} (d : decode k.2.1 pc = .ok (.goto off, 3)) (ht : (pc : Int) + off = (tgt : Int)) (h : U k Q mc ms n E ca sl tgt lv st) : U k Q mc ms n E ca sl pc lv st := by
  intro Z A p l e R s m args below meth c Qw C X N9 Rt H locs ls hP hz hS hl
  exact lv_goto C.1 C.2.1 d ht (h Z A p l e R s m args below meth c Qw C X N9 Rt H locs ls hP hz hS hl)
theorem u_ret (d : decode k.2.1 pc = .ok (.return_, 1)) (hr : k.2.2.2.1 = none) (hca : ca = mc) (hsl : sl = ms) (hq : Q none n E) : U k Q mc ms n E ca sl pc lv [] := by
  intro Z A p l e R s m args below meth c Qw C X N9 Rt H locs ls hP hz hS hl
  subst hca; subst hsl
  exact Rt none n E H locs pc ls hq hP hz hS ⟨d, hr⟩
theorem u_c {E' : uE} (h : ∀ Z i, i < n → E' Z i = E Z i) (hU : U k Q mc ms n E' ca sl pc lv st) : U k Q mc ms n E ca sl pc lv st := by
  intro Z A p l e R s m args below meth c Qw C X N9 Rt H locs ls hP hz hS hl
  exact hU Z A p l e R s m args below meth c Qw C X N9 Rt H locs ls (by rw [uw_c Z (fun i hi => h Z i hi)]; exact hP) hz hS hl
theorem oi_inst : Cond.instanceMethod objectInit ∈ wg := (wgi 99 (by decide +kernel) (by decide +kernel))
theorem oi_code : Cond.code objectInit ⟨#[0xb1]⟩ 1 none ∈ wg := (wgi 100 (by decide +kernel) (by decide +kernel))
theorem u_objI {idx i : Nat} (d : decode k.2.1 pc = .ok (.invokespecial idx, 3)) (hw : Cond.methodLink k.1.cls idx objectInit ∈ wg) (hf : 1 ≤ k.2.2.2.2.1) (hlo : (st.map fun v => v.category).sum + 12 ≤ k.2.2.2.2.2.1) (h : U k Q mc ms n E ca sl (pc + 3) lv st) : U k Q mc ms n E ca sl pc lv (.ref i :: st) := by
  intro Z A p l e R s m args below meth c Qw C X N9 Rt H locs ls hP hz hS hl
  refine W.objInit C.1 C.2.1 C.2.2.2.1 (C.2.2.2.2.1 _ hw) (C.2.2.2.2.1 _ oi_inst) (C.2.2.2.2.1 _ oi_code) rfl (by show ls.size = _; rw [C.2.2.1]; exact hl.1) rfl d (Nat.le_trans hf C.2.2.2.2.2.2.2.1.1) (by have := C.2.2.2.2.2.2.2.1.2.1; show 2 * 0 + ((st.map (mv Z.1)).map fun v => v.category).sum + 12 ≤ _; rw [cat_mv]; omega) ?_
  exact h Z A p l e R s m args below meth c Qw C X N9 Rt H locs ls hP hz hS hl
/-- a cell more -/
theorem u_grow {Z : vZ} {A : Nat → Prop} {H0 H H1 : Heap} {locs : List Loc} {g : vZ → va_E} (hn : n < 71) (hseq : ∀ i, i < 71 → Z.1 i = Z.1 0 + i) (hP : va_P Z.2.1 vwCl (uw Z n E) H) (hz : H.size = Z.1 0 + n) (hS : va_S A H0 H locs) (z1 : H1.size = H.size + 1) (o1 : ∀ q, q < H.size → H1[q]? = H[q]?) (hg : va_at Z.2.1 vwCl (Z.1 n, g Z) H1) : va_P Z.2.1 vwCl (uw Z (n + 1) (eup E n g)) H1 ∧ (n + 1 < 71 → H1.size = Z.1 0 + (n + 1)) ∧ va_S A H0 H1 locs := by
  refine ⟨?_, fun _ => by omega, ⟨Nat.le_trans hS.1 (by omega), fun x h1 h2 => (o1 x (Nat.lt_of_lt_of_le h1 hS.1)).trans (hS.2.1 x h1 h2), hS.2.2⟩⟩
  rw [uw_push]
  have hk : ∀ (k : Nat) (x : Nat × va_E), (uw Z n E)[k]? = some x → H1[x.1]? = H[x.1]? := fun k x hx => o1 x.1 ((hP k x hx).lt)
  refine (hP.kept hk).app (fun k x hx => ?_)
  have hz : k < 1 := (List.getElem?_eq_some_iff.mp hx).1
  rw [show k = 0 by omega] at hx
  cases hx
  exact hg
theorem u_new {idx ci : Nat} {fs : List Value} (d : decode k.2.1 pc = .ok (.new idx, 3)) (hci : ci < 5) (hw : Cond.classLink k.1.cls idx (Rc ci) ∈ wg) (hi : Cond.instantiable (Rc ci) (Ncl ci) ∈ wg) (hini : Cond.initialized (Rc ci) ∈ wg) (hn : n < 71) (hca : ca + 1 ≤ mc) (hsl : sl + Ncl ci ≤ ms) (hfs : ∀ j, j < Ncl ci → defaultValue (tyc ci j) = vp_V fs j)
    (h : U k Q mc ms (n + 1) (eup E n (fun _ => .inr (ci, fs))) (ca + 1) (sl + Ncl ci) (pc + 3) lv (.ref n :: st)) : U k Q mc ms n E ca sl pc lv st := by
  intro Z A p l e R s m args below meth c Qw C X N9 Rt H locs ls hP hz hS hl
  obtain ⟨r1, r2, r3, r4⟩ := C.2.2.2.2.2.2.2.1
  have hKn := C.2.2.2.2.2.2.1.1 ci _ (cl_ok hci)
  refine W.newcK C.1 C.2.1 C.2.2.2.1 (C.2.2.2.2.1 _ hw) (C.2.2.2.2.1 _ hi) (C.2.2.2.2.1 _ hini) rfl d (Nat.le_trans hca r3) (Nat.le_trans hsl r4) hKn.2.1 rfl fun H1 kC hkC e1 z1 o1 => ?_
  have ez : H.size = Z.1 n := by rw [hz hn, X.1 n hn]
  obtain ⟨g1, g2, g3⟩ := u_grow (g := fun _ => .inr (ci, fs)) hn X.1 hP (hz hn) hS z1 o1 ⟨_, cl_ok hci, by rw [← ez]; exact (u_born (tyc ci) C.2.2.2.2.1 (in_ok hci) hKn hkC e1 (ty_ok hci)).to hfs⟩
  have := h Z A p l e R s m args below meth c Qw C X N9 Rt H1 locs ls g1 g2 g3 hl
  rw [ez]
  exact this
theorem u_newa {atype : ArrayType} {ty : FieldType} {t0 t : Nat} {N : Nat} (d : decode k.2.1 pc = .ok (.newarray atype, 2)) (hty : newarray.typeOf atype = ty) (ht : ∀ Z, (tys Z)[t0]? = some (Z.2.2 t, ty)) (hra : ∀ (u : State) (c : ClassId), va_RA u c ty → u.vm.findClass ("[" ++ ty.toString) = some c) (hdv : defaultValue ty = .int 0) (hw : Cond.arrayClass ty ∈ wg) (hn : n < 71) (hN : N < 2 ^ 20) (hbytes : N * componentBytes ty ≤ 536870912) (hca : ca + 1 ≤ mc) (hsl : sl + N ≤ ms)
    (h : U k Q mc ms (n + 1) (eup E n (fun Z => .inl (Z.2.2 t, N, .inl (fun _ => 0)))) (ca + 1) (sl + N) (pc + 2) lv (.ref n :: st)) : U k Q mc ms n E ca sl pc lv (.int (nI N) :: st) := by
  intro Z A p l e R s m args below meth c Qw C X N9 Rt H locs ls hP hz hS hl
  obtain ⟨r1, r2, r3, r4⟩ := C.2.2.2.2.2.2.2.1
  subst hty
  refine va_newaK C.1 C.2.1 (C.2.2.2.2.1 _ hw) rfl d rfl (nI_pos (by omega)) (nI_clamp (by omega)) hbytes (Nat.le_trans hca r3) (Nat.le_trans hsl r4) rfl fun H1 cA e1 z1 o1 hAr hNm => ?_
  have ez : H.size = Z.1 n := by rw [hz hn, X.1 n hn]
  have ec : cA = Z.2.2 t := Option.some.inj (hNm.symm.trans (hra s _ (C.2.2.2.2.2.2.1.2 t0 _ (ht Z)).2))
  subst ec
  obtain ⟨g1, g2, g3⟩ := u_grow (g := fun Z => .inl (Z.2.2 t, N, .inl (fun _ => 0))) hn X.1 hP (hz hn) hS z1 o1 (by
    show H1[Z.1 n]? = some (vp_cell _ _)
    rw [← ez, e1, vp_cell_i, hdv])
  have := h Z A p l e R s m args below meth c Qw C X N9 Rt H1 locs ls g1 g2 g3 hl
  rw [ez]
  exact this
theorem u_anew {idx N : Nat} (d : decode k.2.1 pc = .ok (.anewarray idx, 3)) (hw : Cond.classLink k.1.cls idx "ClockCrossings$Moment" ∈ wg) (hn : n < 71) (hN : N < 2 ^ 20) (hca : ca + 1 ≤ mc) (hsl : sl + N ≤ ms)
    (h : U k Q mc ms (n + 1) (eup E n (fun Z => .inl (Z.2.2 13, N, .inr (.inr (.inr (.inr (fun _ => none))))))) (ca + 1) (sl + N) (pc + 3) lv (.ref n :: st)) : U k Q mc ms n E ca sl pc lv (.int (nI N) :: st) := by
  intro Z A p l e R s m args below meth c Qw C X N9 Rt H locs ls hP hz hS hl
  obtain ⟨r1, r2, r3, r4⟩ := C.2.2.2.2.2.2.2.1
  have hN' : (nI N).toNatClampNeg = N := nI_clamp (by omega)
  refine W.anew C.1 C.2.1 C.2.2.2.1 (C.2.2.2.2.1 _ hw) (va_AO.use X.2.1) rfl d rfl (nI_pos (by omega)) (by rw [hN']; omega) (Nat.le_trans hca r3) (by rw [hN']; exact Nat.le_trans hsl r4) fun cA kA comp f1 f2 f3 f4 => ?_
  rw [hN']
  generalize hH1 : H.push ({ cls := cA, slots := Array.replicate N .null, vm := .none } : Cell) = H1
  have z1 : H1.size = H.size + 1 := by rw [← hH1, Array.size_push]
  have e1 : H1[H.size]? = some (arrV cA N (fun _ => .null)) := by rw [← hH1, Array.getElem?_push_size, ← arrV_new]
  have o1 : ∀ q : Nat, q < H.size → H1[q]? = H[q]? := fun q hq => by rw [← hH1, Array.getElem?_push, if_neg (Nat.ne_of_lt hq)]
  have ez : H.size = Z.1 n := by rw [hz hn, X.1 n hn]
  obtain ⟨k9, c9, h1, h2, h3, h4⟩ := (C.2.2.2.2.2.2.1.2 3 (Z.2.2 13, .object "ClockCrossings$Moment") rfl).2
  have ec : cA = Z.2.2 13 := Option.some.inj (f1.symm.trans h4)
  subst ec
  obtain ⟨g1, g2, g3⟩ := u_grow (g := fun Z => .inl (Z.2.2 13, N, .inr (.inr (.inr (.inr (fun _ => none)))))) hn X.1 hP (hz hn) hS z1 o1 (by
    show H1[Z.1 n]? = some (vp_cell _ _)
    rw [← ez, e1, vp_cell_q]
    rfl)
  have := h Z A p l e R s m args below meth c Qw C X N9 Rt H1 locs ls g1 g2 g3 hl
  rw [ez]
  exact this
theorem u_put {i ci j idx : Nat} {v : Value} {fs : vZ → List Value} (d : decode k.2.1 pc = .ok (.putfield idx, 3)) (hj : j < Ncl ci) (hci : ci < 5) (hw : Cond.fieldLink k.1.cls idx (Tc ci j).1 (Tc ci j).2.1 (Tc ci j).2.2.1 ∈ wg) (hn : n ≤ 71) (hi : i < n) (hE : ∀ Z, E Z i = .inr (ci, fs Z)) (hfs : ∀ Z, (fs Z).length = Ncl ci) (hf : (Tc ci j).2.2.2 = false ∨ ((Tc ci j).2.2.2 = true ∧ k.1.name = "<init>" ∧ (Tc ci j).1 = k.1.cls)) (hnr : ∀ f : Nat → Nat, narrow (tyc ci j) (mv f v) = mv f v) (hfit : ∀ f : Nat → Nat, fits (tyc ci j) (mv f v) = true)
    (h : U k Q mc ms n (eup E i (fun Z => .inr (ci, (fs Z).set j (mv Z.1 v)))) ca sl (pc + 3) lv st) : U k Q mc ms n E ca sl pc lv (v :: .ref i :: st) := by
  intro Z A p l e R s m args below meth c Qw C X N9 Rt H locs ls hP hz hS hl
  have hg := uw_get Z E hi
  rw [hE Z] at hg
  have hD := uw_D (Z := Z) E hn C.2.2.2.2.2.2.2.2.1 C.2.2.2.2.2.2.2.2.2.1
  have hz' : ∀ H1 : Heap, H1.size = H.size → n < 71 → H1.size = Z.1 0 + n := fun H1 e h7 => by rw [e]; exact hz h7
  obtain ⟨r9, h19, cell, q1, q2, q3, q4⟩ := hP i _ hg
  have hr : r9 = (Rc ci, Tc ci, Ncl ci) := Option.some.inj (h19.symm.trans (cl_ok hci))
  subst hr
  have hap := va_apart (own := k.1.cls) C.2.2.2.2.1 (in_ok hci) (tyc ci) (ty_ok hci) (nm_ok hci) C.2.2.2.2.2.2.1 (cl_ok hci)
  obtain ⟨hSl, hfc, kC, hkC, hkind⟩ := C.2.2.2.2.2.2.1.1 ci _ (cl_ok hci)
  obtain ⟨cf, kf, fi, f9, hi9, hsl9⟩ := hSl j hj
  have hlay := C.2.2.2.2.1 _ (in_ok hci _ (u_in_lay hj))
  unfold u_lay at hlay
  have hst := (u_facts hfc hkC (u_lays C.2.2.2.2.1 (in_ok hci) hj) hi9).1
  have fin : ∀ H1 : Heap, H1[Z.1 i]? = some (cell.setSlot f9.slot (mv Z.1 v)) → H1.size = H.size → (∀ q, q ≠ Z.1 i → H1[q]? = H[q]?) → W p l e R s m args below meth c H1 (locs ++ [⟨Z.1 i, f9.slot⟩]) ca sl Qw (F0 m (pc + 3) ls (st.map (mv Z.1))) := by
    intro H1 e1 e2 e3
    rw [hsl9] at e1 ⊢
    have hP1 := hP.set hD hg (e := .inr (ci, (fs Z).set j (mv Z.1 v))) ⟨_, cl_ok hci, t_OB.to (V := updV (vp_V (fs Z)) j (mv Z.1 v)) ⟨_, e1, q2, q3, t_set q4 hap hj (mv Z.1 v)⟩ (fun j9 _ => vp_updV_set (by rw [hfs]; exact hj) (mv Z.1 v) j9)⟩ e3
    rw [uw_set Z (g := fun Z => .inr (ci, (fs Z).set j (mv Z.1 v))) hi] at hP1
    exact h Z A p l e R s m args below meth c Qw C X N9 Rt H1 _ ls hP1 (hz' H1 e2) (hS.put e2 e3 (hD.2 i _ hg)) hl
  rcases hf with hf | ⟨hf1, hf2, hf3⟩
  · rw [if_neg (by rw [hf]; decide)] at hlay
    have h6 := u_store hfc hkC hkind hlay hi9 (ty_ok hci j hj) (hnr Z.1) (hfit Z.1)
    exact W.putK C.1 C.2.1 (f := f9) ⟨C.2.2.2.1, C.2.2.2.2.1 _ hw, ⟨_, _, _, hi9⟩, hst⟩ (by rw [q2]; exact h6) q1 q3 (by rw [hsl9]; exact k2_hasslot (q4 j hj)) rfl rfl d fin
  · rw [if_pos hf1] at hlay
    have hcf : m.cls = cf := by
      obtain ⟨_, _, c', _, _, _, -, -, hf', -, -, -, hown2, -⟩ := Cond.laysFinal_spec hlay
      have e1 : c' = cf := by have := hi9.symm.trans hf'; simp at this; exact this.1.symm
      rw [hf3] at hown2
      rw [← e1]; exact Option.some.inj (C.2.2.2.1.symm.trans hown2)
    have h6 := u_fits hfc hkC hkind (Or.inr hlay) hi9 (ty_ok hci j hj) (hnr Z.1) (hfit Z.1)
    exact W.putFinK C.1 C.2.1 C.2.2.2.1 (C.2.2.2.2.1 _ hw) hi9 hst hcf (N9 hf2) (by rw [q2]; exact h6) q1 q3 (by rw [hsl9]; exact k2_hasslot (q4 j hj)) rfl rfl d fin
theorem u_get {i ci j idx : Nat} {v : Value} {fs : vZ → List Value} (d : decode k.2.1 pc = .ok (.getfield idx, 3)) (hj : j < Ncl ci) (hci : ci < 5) (hw : Cond.fieldLink k.1.cls idx (Tc ci j).1 (Tc ci j).2.1 (Tc ci j).2.2.1 ∈ wg) (hi : i < n) (hE : ∀ Z, E Z i = .inr (ci, fs Z)) (hv : ∀ Z, (fs Z)[j]? = some (mv Z.1 v)) (h : U k Q mc ms n E ca sl (pc + 3) lv (v :: st)) : U k Q mc ms n E ca sl pc lv (.ref i :: st) := by
  intro Z A p l e R s m args below meth c Qw C X N9 Rt H locs ls hP hz hS hl
  have hg := uw_get Z E hi
  rw [hE Z] at hg
  exact va_get C.1 C.2.1 C.2.2.2.2.1 (in_ok hci) C.2.2.2.1 C.2.2.2.2.2.2.1 hP i hg (cl_ok hci) j hj (C.2.2.2.2.1 _ hw) (fun _ q => q) (hv Z) d (h Z A p l e R s m args below meth c Qw C X N9 Rt H locs ls hP hz hS hl)
theorem u_alen {i N : Nat} {f : vZ → Nat → Option Nat} (d : decode k.2.1 pc = .ok (.arraylength, 1)) (hi : i < n) (hE : ∀ Z, E Z i = .inl (Z.2.2 13, N, .inr (.inr (.inr (.inr (f Z)))))) (h : U k Q mc ms n E ca sl (pc + 1) lv (.int (nI N) :: st)) : U k Q mc ms n E ca sl pc lv (.ref i :: st) := by
  intro Z A p l e R s m args below meth c Qw C X N9 Rt H locs ls hP hz hS hl
  have hg := uw_get Z E hi
  rw [hE Z] at hg
  exact va_alen C.1 C.2.1 C.2.2.2.2.2.2.1 hP i 3 hg (ty := .object "ClockCrossings$Moment") rfl rfl d (h Z A p l e R s m args below meth c Qw C X N9 Rt H locs ls hP hz hS hl)
theorem u_aast {i t a N : Nat} {f : vZ → Nat → Option Nat} {fs : vZ → List Value} (d : decode k.2.1 pc = .ok (.aastore, 1)) (hn : n ≤ 71) (hi : i < n) (ht : t < n) (hE : ∀ Z, E Z i = .inl (Z.2.2 13, N, .inr (.inr (.inr (.inr (f Z)))))) (hT : ∀ Z, E Z t = .inr (1, fs Z)) (ha : a < N) (hN : N < 2 ^ 20)
    (h : U k Q mc ms n (eup E i (fun Z => .inl (Z.2.2 13, N, .inr (.inr (.inr (.inr (va_up (f Z) a (some (Z.1 t)))))))) ) ca sl (pc + 1) lv st) : U k Q mc ms n E ca sl pc lv (.ref t :: .int (nI a) :: .ref i :: st) := by
  intro Z A p l e R s m args below meth c Qw C X N9 Rt H locs ls hP hz hS hl
  have hg := uw_get Z E hi
  rw [hE Z] at hg
  have hv := uw_get Z E ht
  rw [hT Z] at hv
  have hD := uw_D (Z := Z) E hn C.2.2.2.2.2.2.2.2.1 C.2.2.2.2.2.2.2.2.2.1
  obtain ⟨r', hr', cellV, g1, g2, g3, -⟩ := hP t _ hv
  have hcls := (C.2.2.2.2.2.2.1.1 1 _ (cl_ok (by decide))).2
  obtain ⟨kA, comp, k1, k2, k3, -⟩ := (C.2.2.2.2.2.2.1.2 3 (Z.2.2 13, .object "ClockCrossings$Moment") rfl).2
  have hcomp : comp = Z.2.1.1 1 := Option.some.inj (k3.symm.trans hcls.1)
  subst hcomp
  obtain ⟨kC, hkC, -⟩ := hcls.2
  have hna : (nI a).toNatClampNeg = a := nI_clamp (by omega)
  refine W.aast C.1 C.2.1 (hP i _ hg) (fun q h => by cases h) (fun h => by cases h) k1 k2 rfl hkC ⟨nI_pos (by omega), by show _ < (arrV _ _ _).slots.size; rw [arrV_size, hna]; exact ha⟩ g1 (fun q h => by rw [g3] at h; cases h) (by rw [g2]; exact hkC) (by rw [g2]; exact va_assign hcls) rfl rfl d fun H1 e9 z9 oq => ?_
  rw [hna] at e9 ⊢
  have hP1 := hP.set hD hg (e := .inl (Z.2.2 13, N, .inr (.inr (.inr (.inr (va_up (f Z) a (some (Z.1 t)))))))) (by
    show H1[Z.1 i]? = some (vp_cell _ _)
    rw [e9, vp_cell_q, vp_cell_q, arrV_store]
    congr 2
    funext q
    by_cases hq : q = a
    · subst hq
      simp [updV, va_up, va_rf]
    · simp [updV, va_up, hq]) oq
  rw [uw_set Z (g := fun Z => .inl (Z.2.2 13, N, .inr (.inr (.inr (.inr (va_up (f Z) a (some (Z.1 t)))))))) hi] at hP1
  exact h Z A p l e R s m args below meth c Qw C X N9 Rt H1 _ ls hP1 (fun h7 => by rw [z9]; exact hz h7) (hS.put z9 oq (hD.2 i _ hg)) hl
theorem u_gets97 {idx : Nat} (d : decode k.2.1 pc = .ok (.getstatic idx, 3)) (hw : Cond.fieldLinkNest k.1.cls idx "ClockCrossings" "FIRST_PERIODS" "[I" "ClockCrossings" ∈ nw) (h : U k Q mc ms n E ca sl (pc + 3) lv (.ref 97 :: st)) : U k Q mc ms n E ca sl pc lv st := by
  intro Z A p l e R s m args below meth c Qw C X N9 Rt H locs ls hP hz hS hl
  exact va_getsN C.1 C.2.1 C.2.2.2.2.2.2.2.2.2.2.1.1 hS C.2.2.2.1 (va_Nw.use rfl (C.2.2.2.2.2.1 _ hw)) (fun _ q => q) d (h Z A p l e R s m args below meth c Qw C X N9 Rt H locs ls hP hz hS hl)
theorem u_castI {idx i N : Nat} {f : Nat → Int32} (d : decode k.2.1 pc = .ok (.checkcast idx, 3)) (hw : Cond.classLink k.1.cls idx "[I" ∈ wg) (hi : i < n) (hE : ∀ Z, E Z i = .inl (Z.2.2 10, N, .inl f)) (h : U k Q mc ms n E ca sl (pc + 3) lv (.ref i :: st)) : U k Q mc ms n E ca sl pc lv (.ref i :: st) := by
  intro Z A p l e R s m args below meth c Qw C X N9 Rt H locs ls hP hz hS hl
  have hg := uw_get Z E hi
  rw [hE Z] at hg
  exact va_castA C.1 C.2.1 C.2.2.2.1 (C.2.2.2.2.1 _ hw) hP i hg (va_nm_int (C.2.2.2.2.2.2.1.2 0 (Z.2.2 10, .int) rfl).2) d (h Z A p l e R s m args below meth c Qw C X N9 Rt H locs ls hP hz hS hl)
theorem cl_link : Cond.methodLink RX0 39 ⟨"[I", "clone", "()Ljava/lang/Object;"⟩ ∈ wg := (wgi 140 (by decide +kernel) (by decide +kernel))
theorem cl_same : Cond.sameMethod "[I" "java/lang/Object" "clone" "()Ljava/lang/Object;" ∈ wg := (wgi 141 (by decide +kernel) (by decide +kernel))
theorem cl_nat : Cond.native ⟨"java/lang/Object", "clone", "()Ljava/lang/Object;"⟩ ∈ wg := (wgi 142 (by decide +kernel) (by decide +kernel))
theorem cl_inst : Cond.instanceMethod ⟨"java/lang/Object", "clone", "()Ljava/lang/Object;"⟩ ∈ wg := (wgi 143 (by decide +kernel) (by decide +kernel))
theorem cl_sel : Cond.selects "[I" ⟨"[I", "clone", "()Ljava/lang/Object;"⟩ ⟨"java/lang/Object", "clone", "()Ljava/lang/Object;"⟩ ∈ wg := (wgi 144 (by decide +kernel) (by decide +kernel))
/-- FIRST_PERIODS.clone() -/
theorem u_clone (d : decode k.2.1 pc = .ok (.invokevirtual 39, 3)) (hk : k.1.cls = RX0) (hn : n < 71) (hf : 1 ≤ k.2.2.2.2.1) (hlo : (st.map fun v => v.category).sum + 14 ≤ k.2.2.2.2.2.1) (hca : ca + 1 ≤ mc) (hsl : sl + 3 ≤ ms)
    (h : U k Q mc ms (n + 1) (eup E n (fun Z => .inl (Z.2.2 10, 3, .inl xper))) (ca + 1) (sl + 3) (pc + 3) lv (.ref n :: st)) : U k Q mc ms n E ca sl pc lv (.ref 97 :: st) := by
  intro Z A p l e R s m args below meth c Qw C X N9 Rt H locs ls hP hz hS hl
  obtain ⟨r1, r2, r3, r4⟩ := C.2.2.2.2.2.2.2.1
  obtain ⟨cell, x1, x2, x3⟩ := X.2.2.2
  obtain ⟨cell', y1, y2, y3, y4, y5, y6, y7⟩ := C.2.2.2.2.2.2.2.2.2.2.1.2.1
  cases y1.symm.trans x1
  have hcH : H[Z.1 97]? = some cell := by rw [hS.2.1 _ (Array.getElem?_eq_some_iff.mp x1).1 y7]; exact x1
  have hcI : cell.cls = Z.2.2 10 := Option.some.inj (x3.symm.trans (va_nm_int (C.2.2.2.2.2.2.1.2 0 (Z.2.2 10, .int) rfl).2))
  obtain ⟨c0, t0', f1, f2, f3⟩ := Cond.castable_spec (va_Nw.use (A := args) rfl X.2.2.1)
  cases x3.symm.trans f1
  have hel : ∀ i, i < 3 → cell.slots[i]? = some (.int (xper i)) := y6
  have hcellE : ({ cls := cell.cls, slots := cell.slots } : Cell) = vp_cell (Z.2.2 10) (3, .inl xper) := by
    rw [vp_cell_i, hcI]
    unfold arrV
    congr 1
    apply Array.ext_getElem?
    intro i
    by_cases hi : i < 3
    · rw [hel i hi]; simp [hi]
    · rw [Array.getElem?_eq_none (by omega), Array.getElem?_eq_none (by simp; omega)]
  intro T hT X9
  have hcellT : T.heap[Z.1 97]? = some cell := by rw [hT]; exact hcH
  obtain ⟨yo, kS, hkS, compS, hkindS⟩ := y2
  obtain ⟨-, kA, hkA, comp, hkind⟩ := State.isArrayOf_alike X9.warmed.alike (show s.isArrayOf cell .int from ⟨yo, kS, hkS, compS, hkindS⟩)
  obtain ⟨vm', X', st9⟩ := X9.cloneArray C.1 C.2.2.2.1 (by rw [hk]; exact C.2.2.2.2.1 _ cl_link) (C.2.2.2.2.1 _ cl_same) (C.2.2.2.2.1 _ cl_nat) (C.2.2.2.2.1 _ cl_inst) (C.2.2.2.2.1 _ cl_sel) (a := Z.1 97) (cell := cell) hcellT yo y3 x3 f2 f3
    (fun i v hv => by
      have hk' : T.vm.classes[cell.cls]? = some kA := hkA
      have hi : i < 3 := by rw [← x2]; exact (Array.getElem?_eq_some_iff.mp hv).1
      rw [hel i hi] at hv
      cases hv
      simp [State.fitsSlot, State.slotType?, hk', hkind, fits])
    (g := F0 m pc ls (.ref (Z.1 97) :: st.map (mv Z.1))) rfl (by show ls.size = _; rw [C.2.2.1]; exact hl.1) rfl (by rw [C.2.1]; exact d) (Nat.le_trans hf r1) (by show 2 * 0 + ((st.map (mv Z.1)).map fun v => v.category).sum + 14 ≤ _; rw [cat_mv]; omega) (Nat.le_trans hca r3) (by rw [x2]; exact Nat.le_trans hsl r4) (hloader := Vm.clonesLoader_of_array hkS hkindS)
  rw [hcellE, x2] at X'
  generalize hH1 : H.push (vp_cell (Z.2.2 10) (3, .inl xper)) = H1
  have z1 : H1.size = H.size + 1 := by rw [← hH1, Array.size_push]
  have e1 : H1[H.size]? = some (vp_cell (Z.2.2 10) (3, .inl xper)) := by rw [← hH1, Array.getElem?_push_size]
  have o1 : ∀ q : Nat, q < H.size → H1[q]? = H[q]? := fun q hq => by rw [← hH1, Array.getElem?_push, if_neg (Nat.ne_of_lt hq)]
  have ez : H.size = Z.1 n := by rw [hz hn, X.1 n hn]
  obtain ⟨g1, g2, g3⟩ := u_grow (g := fun Z => .inl (Z.2.2 10, 3, .inl xper)) hn X.1 hP (hz hn) hS z1 o1 (by
    show H1[Z.1 n]? = some (vp_cell _ _)
    rw [← ez]; exact e1)
  obtain ⟨t, b1, b2⟩ := h Z A p l e R s m args below meth c Qw C X N9 Rt H1 locs ls g1 g2 g3 hl ((T.setVm vm').pushCell (vp_cell (Z.2.2 10) (3, .inl xper))) (by rw [← hH1, ← hT]; rfl) X'
  refine ⟨t, st9 t ?_, b2⟩
  rw [hcellE, hT, ez]
  exact b1
/-! calls of constructors -/
def urm (k : vK) (mc ms : Nat) : Room := { frames := k.2.2.2.2.1, cells := mc, slots := ms, locals := k.2.2.2.2.2.1 }
def uPc (Z : vZ) (n : Nat) (E : uE) (as : List Value) : Array Value → State → Prop := fun a S => a = (as.map (mv Z.1)).toArray ∧ va_P Z.2.1 vwCl (uw Z n E) S.heap ∧ (n < 71 → S.heap.size = Z.1 0 + n) ∧ va_K Z.2.1 vwCl (tys Z) S ∧ (∀ w ∈ nw, va_Nw w S) ∧ xE Z (vA Z) S ∧ uX Z S
def uQc (Z : vZ) (Q : Option Value → Nat → uE → Prop) : Array Value → State → Outcome → State → Prop := fun _ st o t => ∃ n' E', o = .returned none ∧ Q none n' E' ∧ va_P Z.2.1 vwCl (uw Z n' E') t.heap ∧ (n' < 71 → t.heap.size = Z.1 0 + n') ∧ va_F (vA Z) st t
theorem uX_go {Z : vZ} {A : Nat → Prop} {s S : State} {H : Heap} {locs : List Loc} (hX : uX Z s) (hE : xE Z A s) (hW : s.WarmedH S.vm) (hU : S.heap = H) (hS : va_S A s.heap H locs) : uX Z S := by
  obtain ⟨h1, h2, h3, cell, x1, x2, x3⟩ := hX
  obtain ⟨cell', y1, y2, y3, y4, y5, y6, y7⟩ := hE.2.1
  refine ⟨h1, va_AO.moved hW.alike h2, va_Nw.warmC hW h3, cell, ?_, x2, by rw [hW.alike.findClass]; exact x3⟩
  rw [hU, hS.2.1 _ (Array.getElem?_eq_some_iff.mp x1).1 y7]; exact x1
theorem uPc_blind (Z : vZ) (n : Nat) (E : uE) (as : List Value) : FrameBlind (uPc Z n E as) := by
  intro a S g mk h
  obtain ⟨h1, h2, h3, h4, h5, h6, g1, g2, g3, g4⟩ := h
  exact ⟨h1, h2, h3, va_K.moved (u := S) (U := S.calling g mk a) (Vm.Alike.refl S.vm) h4, fun w hw => va_Nw.same (nw_onTables w hw) (u := S) (U := S.calling g mk a) rfl (h5 w hw), xE_call h6, g1, va_AO.moved (u := S) (U := S.calling g mk a) (Vm.Alike.refl S.vm) g2, va_Nw.same rfl (u := S) (U := S.calling g mk a) rfl g3, g4⟩
theorem u_met {as : List Value} (hscr : k.2.2.2.2.2.2 = none) (hpl : plainName k.1.cls = true) (hlen : (as.map fun v => v.category).sum ≤ k.2.2.1) (hU : U k (fun v n1 E1 => v = none ∧ Q v n1 E1) mc ms n E 0 0 0 (lv_args 0 as) []) (l : Launch) (Z : vZ) (hinj : ∀ i j, i < 71 → j < 71 → Z.1 i = Z.1 j → i = j) :
    Met l k.1 (vws k) (urm k mc ms) (uPc Z n E as) (uQc Z Q) mc ms (vA Z) := by
  refine Met.ofW (cc := k.2.1) (maxL := k.2.2.1) (ret := k.2.2.2.1) hpl rfl ?_
  intro p e s m args below meth c s₁ B hml hv
  obtain ⟨rfl, hP, hz, hK, hN, hE, hX⟩ := hv
  have hts := atoms_spec (ws := vws k) B.pre
  have hr := B.returns
  have hl := lv_entry (as.map (mv Z.1)) (n := k.2.2.1) (by rw [lg_len, cat_mv]; exact hlen)
  rw [lg_entry_eq]
  rw [lv_args_mv] at hl
  refine hU Z (vA Z) p l e _ s m _ below meth c _ ⟨B.exec, B.bytes, hml, findClass_of_methodNamed B.named, fun w h => hts w (List.mem_cons_of_mem _ h), hN, hK, ⟨Nat.le_refl _, Nat.le_refl _, Nat.le_refl _, Nat.le_refl _⟩, hinj, fun i h => ⟨i, h, rfl⟩, hE, by unfold xS; rw [hscr]; trivial⟩ hX (fun h9 => (name_of_methodNamed B.named B.method).1.trans h9) ?_ s.heap [] _ hP hz va_S.rf hl
  intro v n' E' H locs pc' ls hq hP' hz' hS' hd
  obtain ⟨rfl, hq⟩ := hq
  exact W.vret B.exec B.bytes (hr.trans hd.2) (fun t ht _ => ⟨n', E', rfl, hq, by rw [ht]; exact hP', by rw [ht]; exact hz', hS'.F ht⟩) hS'.2.2 hd.1
def KI (k' : vK) : Prop := CK k' 0 ∧ k'.1.name = "<init>" ∧ Cond.instanceMethod k'.1 ∈ wg ∧ k'.2.2.2.1 = none
theorem u_callI {idx i mc' ms' : Nat} {Q' : Nat → uE → Prop} (d : decode k.2.1 pc = .ok (.invokespecial idx, 3)) (ml : ML k.1.cls idx k') (ki : KI k') (rm : RM k k') (hlen : 1 ≤ k'.2.2.1) (hrs : (st.map fun v => v.category).sum ≤ 8) (hca : ca + mc' ≤ mc) (hsl : sl + ms' ≤ ms)
    (hU : U k' (fun v n1 E1 => v = none ∧ Q' n1 E1) mc' ms' n E 0 0 0 [(0, .ref i)] []) (h : ∀ n' E', Q' n' E' → U k Q mc ms n' E' (ca + mc') (sl + ms') (pc + 3) lv st) : U k Q mc ms n E ca sl pc lv (.ref i :: st) := by
  intro Z A p l e R s m args below meth c Qw C X N9 Rt H locs ls hP hz hS hl
  have hsz : ls.size = k.2.2.1 := hl.1
  obtain ⟨⟨⟨hc1, hc2⟩, hd, hpl, hscr⟩, hnm, hinst, hret⟩ := ki
  have hvw : vws k' = Cond.code k'.1 k'.2.1 k'.2.2.1 none :: wg := by unfold vws; rw [hret]
  obtain ⟨hx, hb, hml, hown, hts, hnw, hK, ⟨r1, r2, r3, r4⟩, hinj, hA, hE, hXs⟩ := id C
  have hA' : ∀ q, vA Z q → A q := fun q ⟨i, h1, h2⟩ => by rw [h2]; exact hA i h1
  have hM := u_met (as := [.ref i]) (Q := fun _ n1 E1 => Q' n1 E1) hscr hpl hlen hU l Z hinj
  have hpre : PreS s H (uPc Z n E [.ref i]) [.ref (Z.1 i)] := ⟨uPc_blind Z n E _, fun S hU9 hW => ⟨rfl, by rw [hU9]; exact hP, by rw [hU9]; exact hz, va_K.moved hW.alike hK, nw_warm hW hnw, xE_go hE hW hU9 hS hA', uX_go X hE hW hU9 hS⟩⟩
  have hroom : (urm k' mc' ms').frames + 1 ≤ R.frames ∧ 8 + (k'.2.2.1 + 11) + (urm k' mc' ms').locals ≤ R.locals := ⟨Nat.le_trans rm.1 r1, Nat.le_trans rm.2 r2⟩
  have hrs' : 2 * (F0 m pc ls ((Value.ref i :: st).map (mv Z.1))).monitorRoom + ((st.map (mv Z.1)).map fun v => v.category).sum ≤ 8 := lv_room (st := st.map (mv Z.1)) (by rw [cat_mv]; exact hrs)
  have run : va_Run p l e R s m args below meth c H locs ca sl mc' ms' (F0 m pc ls ((Value.ref i :: st).map (mv Z.1))) (st.map (mv Z.1)) (uQc Z (fun _ n1 E1 => Q' n1 E1) [Value.ref (Z.1 i)].toArray) (vA Z) := by
    rcases ml with f1 | ⟨host, f1⟩
    · exact va_runI (As := []) (b := Z.1 i) (n := 0) (bytes := k'.2.1) (maxL := k'.2.2.1) (index := idx) ⟨hx, hb, hml, hown, hts⟩ hM ⟨callB_of 0 hts (wg_good hc1) hvw rfl rfl (hts _ hc2) (hts _ f1) hd hroom, hnm, hts _ hinst⟩ hpre rfl rfl hsz rfl hrs' d ⟨Nat.le_trans hca r3, Nat.le_trans hsl r4⟩
    · exact va_runIN (As := []) (b := Z.1 i) (n := 0) (bytes := k'.2.1) (maxL := k'.2.2.1) (index := idx) (host := host) ⟨hx, hb, hml, hown, hts⟩ hM ⟨va_cnB 0 hts (wg_good hc1) hvw rfl rfl (hnw _ f1) (hts _ hc2) hd hroom, hnm, hts _ hinst⟩ hpre rfl rfl hsz rfl hrs' d ⟨Nat.le_trans hca r3, Nat.le_trans hsl r4⟩
  intro T hT X9
  obtain ⟨v, st₀, t, T', L, h0, X', hL, e1, e2, ⟨n1, E1, hv, hq9, hp, hz1, hzz, hk9⟩, st9⟩ := run T hT X9
  cases hv
  rw [h0] at hzz hk9
  obtain ⟨t2, a1, b1⟩ := h n1 E1 hq9 Z A p l e R s m args below meth c Qw C X N9 Rt T'.heap (locs ++ L) ls (by rw [e1]; exact hp) (by rw [e1]; exact hz1)
    ⟨Nat.le_trans hS.1 (by rw [e1]; exact hzz), fun q h1 h2 => by rw [e1, hk9 q (Nat.lt_of_lt_of_le h1 hS.1) (fun z => h2 (hA' q z))]; exact hS.2.1 q h1 h2, fun q hq => by
      rcases List.mem_append.mp hq with h8 | h8
      · exact hS.2.2 q h8
      · exact hA' _ (hL q h8)⟩ hl T' rfl X'
  exact ⟨t2, st9 t2 a1, b1⟩
/-- contents that make the same cells -/
def eqC (e e' : va_E) : Prop := e = e' ∨ ∃ c n f g, e = .inl (c, n, f) ∧ e' = .inl (c, n, g) ∧ vp_cell c (n, f) = vp_cell c (n, g)
theorem u_c2 {E' : uE} (h : ∀ Z i, i < n → eqC (E Z i) (E' Z i)) (hU : U k Q mc ms n E' ca sl pc lv st) : U k Q mc ms n E ca sl pc lv st := by
  intro Z A p l e R s m args below meth c Qw C X N9 Rt H locs ls hP hz hS hl
  refine hU Z A p l e R s m args below meth c Qw C X N9 Rt H locs ls (fun q x hq => ?_) hz hS hl
  have h7 : q < n := by
    have := (List.getElem?_eq_some_iff.mp hq).1
    rw [uw_len] at this
    exact this
  have hq0 := hP q _ (uw_get Z E h7)
  rw [uw_get Z E' h7] at hq
  cases hq
  rcases h Z q h7 with e9 | ⟨c9, n9, f9, g9, e1, e2, e3⟩
  · rw [← e9]; exact hq0
  · rw [e2]; rw [e1] at hq0
    show H[Z.1 q]? = some (vp_cell _ _)
    rw [← e3]; exact hq0
theorem u_toV {M : vM} {QV : Option Value → vM → Prop} (hE : ∀ (Z : vZ) (i : Nat), i < 71 → E Z i = cellE Z M i) (hQ : ∀ v M', QV v M' → Q v 71 (fun Z i => cellE Z M' i)) (hca : ca = mc) (hsl : sl = ms) (hV : V k QV M pc lv st) : U k Q mc ms 71 E ca sl pc lv st := by
  intro Z A p l e R s m args below meth c Qw C X N9 Rt H locs ls hP hz hS hl
  subst hca; subst hsl
  refine hV Z A p l e R s m args below meth c ca sl Qw C (fun v M' H locs pc' ls hq hP' hS' hd => Rt v 71 _ H locs pc' ls (hQ v M' hq) hP' (fun h => absurd h (by omega)) hS' hd) H locs ls ?_ hS hl
  have e9 : uw Z 71 E = wl Z M := uw_c Z (E := fun Z i => cellE Z M i) (fun i hi => hE Z i hi)
  rw [← e9]; exact hP
end U59
