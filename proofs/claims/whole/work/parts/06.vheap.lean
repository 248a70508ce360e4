/-! V: fields and arrays -/
def Rc (ci : Nat) : String := match ci with
  | 0 => RX0
  | 1 => RX1
  | 2 => RX2
  | 3 => RX3
  | _ => RX4
def Tc (ci : Nat) : u_T := match ci with
  | 0 => TX0
  | 1 => TX1
  | 2 => TX2
  | 3 => TX3
  | _ => TX4
def tyc (ci : Nat) : Nat → FieldType := match ci with
  | 0 => tyX0
  | 1 => tyX1
  | 2 => tyX2
  | 3 => tyX3
  | _ => tyX4
theorem lt5 {ci : Nat} (h : ci < 5) : ci = 0 ∨ ci = 1 ∨ ci = 2 ∨ ci = 3 ∨ ci = 4 := by omega
theorem cl_ok {ci : Nat} (h : ci < 5) : vwCl[ci]? = some (Rc ci, Tc ci, Ncl ci) := by
  rcases lt5 h with rfl | rfl | rfl | rfl | rfl <;> rfl
theorem in_ok0 : ∀ w ∈ u_ws RX0 TX0 11, w ∈ wg := by decide +kernel
theorem in_ok1 : ∀ w ∈ u_ws RX1 TX1 6, w ∈ wg := by decide +kernel
theorem in_ok2 : ∀ w ∈ u_ws RX2 TX2 7, w ∈ wg := by decide +kernel
theorem in_ok3 : ∀ w ∈ u_ws RX3 TX3 10, w ∈ wg := by decide +kernel
theorem in_ok4 : ∀ w ∈ u_ws RX4 TX4 17, w ∈ wg := by decide +kernel
theorem in_ok {ci : Nat} (h : ci < 5) : ∀ w ∈ u_ws (Rc ci) (Tc ci) (Ncl ci), w ∈ wg := by
  rcases lt5 h with rfl | rfl | rfl | rfl | rfl
  · exact in_ok0
  · exact in_ok1
  · exact in_ok2
  · exact in_ok3
  · exact in_ok4
theorem ty_ok {ci : Nat} (h : ci < 5) : ∀ j, j < Ncl ci → parseFieldDescriptor (Tc ci j).2.2.1 = some (tyc ci j) := by
  rcases lt5 h with rfl | rfl | rfl | rfl | rfl
  · exact tyX0_ok
  · exact tyX1_ok
  · exact tyX2_ok
  · exact tyX3_ok
  · exact tyX4_ok
theorem nm_ok {ci : Nat} (h : ci < 5) : ∀ a, a < Ncl ci → ∀ b, b < Ncl ci → a ≠ b → (Tc ci a).2.1 ≠ (Tc ci b).2.1 := by
  rcases lt5 h with rfl | rfl | rfl | rfl | rfl
  · exact nmX0
  · exact nmX1
  · exact nmX2
  · exact nmX3
  · exact nmX4
/-- an entry of a class's pool names field j of class ci -/
def FL (own : String) (idx ci j : Nat) : Prop := j < Ncl ci ∧ (Cond.fieldLink own idx (Tc ci j).1 (Tc ci j).2.1 (Tc ci j).2.2.1 ∈ wg ∨ ∃ host, Cond.fieldLinkNest own idx (Tc ci j).1 (Tc ci j).2.1 (Tc ci j).2.2.1 host ∈ nw)
/-- the cell i is an object of class ci; an array of kind t with n places -/
def OB (i ci : Nat) : Prop := i < 71 ∧ kdc i = ci ∧ ci < 5
def AR (t i n : Nat) : Prop := i < 71 ∧ kdc i = t ∧ szc i = n
theorem fvl_mv (f : Nat → Nat) (M : vM) (i tag j : Nat) : fvl f M i tag j = mv f (fvl (fun x => x) M i tag j) := by
  match tag with
  | 0 => rfl
  | 1 => rfl
  | n + 2 => rfl
theorem cell_ob {Z : vZ} {M : vM} {i ci : Nat} (ob : OB i ci) : cellE Z M i = .inr (ci, flds Z.1 M i ci) := by
  obtain ⟨-, rfl, h⟩ := ob
  unfold cellE
  rw [if_pos (by omega)]
theorem flds_get {f : Nat → Nat} {M : vM} {i ci j : Nat} (h : j < Ncl ci) : (flds f M i ci)[j]? = some (fvl f M i (ftg ci j) j) := by
  unfold flds
  rw [List.getElem?_map, List.getElem?_range h]
  rfl
theorem flds_len {f : Nat → Nat} {M : vM} {i ci : Nat} : (flds f M i ci).length = Ncl ci := by simp [flds]
theorem flds_set {f : Nat → Nat} {M : vM} {i ci j : Nat} {x : Int32} (h : j < Ncl ci) {v : Value} (hv : v = fvl f (mup M i j x) i (ftg ci j) j) : (flds f M i ci).set j v = flds f (mup M i j x) i ci := by
  subst hv
  apply List.ext_getElem?
  intro q
  by_cases hq : q = j
  · subst hq
    rw [List.getElem?_set_self (by rw [flds_len]; exact h), flds_get h]
  · rw [List.getElem?_set_ne (Ne.symm hq)]
    by_cases h7 : q < Ncl ci
    · rw [flds_get h7, flds_get h7]
      have e : (mup M i j x) i q = M i q := by rw [mup_eq]; simp [upd, hq]
      unfold fvl
      rw [e]
    · rw [List.getElem?_eq_none (by rw [flds_len]; omega), List.getElem?_eq_none (by rw [flds_len]; omega)]
theorem cell_ar {Z : vZ} {M : vM} {t i n : Nat} (ar : AR t i n) (h : 10 ≤ t) (h2 : t ≠ 13) : cellE Z M i = .inl (Z.2.2 t, n, .inl (M i)) := by
  obtain ⟨-, rfl, rfl⟩ := ar
  unfold cellE
  rw [if_neg (by omega), if_neg h2]
theorem cell_aq {Z : vZ} {M : vM} {i n : Nat} (ar : AR 13 i n) : cellE Z M i = .inl (Z.2.2 13, n, .inr (.inr (.inr (.inr (fun j => some (Z.1 (M i j).toNatClampNeg)))))) := by
  obtain ⟨-, h, rfl⟩ := ar
  unfold cellE
  rw [if_neg (by omega), if_pos h]
section V6
variable {k : vK} {Q : Option Value → vM → Prop} {M : vM} {pc : Nat} {lv : List (Nat × Value)} {st : List Value}
theorem v_get {i ci j idx : Nat} (d : decode k.2.1 pc = .ok (.getfield idx, 3)) (fl : FL k.1.cls idx ci j) (ob : OB i ci) {v : Value} (hv : fvl (fun x => x) M i (ftg ci j) j = v) (h : V k Q M (pc + 3) lv (v :: st)) : V k Q M pc lv (.ref i :: st) := by
  intro Z A p l e R s m args below meth c cells slots Qw C Rt H locs ls hP hS hl
  have n := h Z A p l e R s m args below meth c cells slots Qw C Rt H locs ls hP hS hl
  have hg := wl_get Z M ob.1
  rw [cell_ob ob] at hg
  have hv' : (flds Z.1 M i ci)[j]? = some (mv Z.1 v) := by rw [flds_get fl.1, fvl_mv, hv]
  obtain ⟨hj, f1 | ⟨host, f1⟩⟩ := fl
  · exact va_get C.1 C.2.1 C.2.2.2.2.1 (in_ok ob.2.2) C.2.2.2.1 C.2.2.2.2.2.2.1 hP i hg (cl_ok ob.2.2) j hj (C.2.2.2.2.1 _ f1) (fun _ q => q) hv' d n
  · exact va_getN C.1 C.2.1 C.2.2.2.2.1 (in_ok ob.2.2) C.2.2.2.1 C.2.2.2.2.2.2.1 hP i hg (cl_ok ob.2.2) j hj (va_Nw.use rfl (C.2.2.2.2.2.1 _ f1)) (fun _ q => q) hv' d n
theorem v_getI {i ci j idx : Nat} (d : decode k.2.1 pc = .ok (.getfield idx, 3)) (fl : FL k.1.cls idx ci j) (ob : OB i ci) (ht : ftg ci j = 0) (h : V k Q M (pc + 3) lv (.int (M i j) :: st)) : V k Q M pc lv (.ref i :: st) := v_get d fl ob (by rw [ht]; rfl) h
theorem v_getR {i ci j idx n t : Nat} (d : decode k.2.1 pc = .ok (.getfield idx, 3)) (fl : FL k.1.cls idx ci j) (ob : OB i ci) (ht : ftg ci j = n + 2) (e : i + n = t) (h : V k Q M (pc + 3) lv (.ref t :: st)) : V k Q M pc lv (.ref i :: st) := v_get d fl ob (by rw [ht]; subst e; rfl) h
theorem v_getD {i ci j idx : Nat} (d : decode k.2.1 pc = .ok (.getfield idx, 3)) (fl : FL k.1.cls idx ci j) (ob : OB i ci) (ht : ftg ci j = 1) {t : Nat} (hm : M i j = nI t) (hb : t < 2 ^ 31) (h : V k Q M (pc + 3) lv (.ref t :: st)) : V k Q M pc lv (.ref i :: st) := v_get d fl ob (by rw [ht]; show Value.ref (M i j).toNatClampNeg = _; rw [hm, nI_clamp hb]) h
theorem v_put {i ci j idx : Nat} {x : Int32} {v : Value} (d : decode k.2.1 pc = .ok (.putfield idx, 3)) (fl : FL k.1.cls idx ci j) (ob : OB i ci) (hf : (Tc ci j).2.2.2 = false) (hn : ∀ f : Nat → Nat, narrow (tyc ci j) (mv f v) = mv f v) (hfit : ∀ f : Nat → Nat, fits (tyc ci j) (mv f v) = true) (hv : ∀ f : Nat → Nat, mv f v = fvl f (mup M i j x) i (ftg ci j) j) (h : V k Q (mup M i j x) (pc + 3) lv st) : V k Q M pc lv (v :: .ref i :: st) := by
  intro Z A p l e R s m args below meth c cells slots Qw C Rt H locs ls hP hS hl
  have hg := wl_get Z M ob.1
  rw [cell_ob ob] at hg
  have hD := wl_D (Z := Z) M C.2.2.2.2.2.2.2.2.1 C.2.2.2.2.2.2.2.2.2.1
  have he : (wl Z M).set i (Z.1 i, .inr (ci, (flds Z.1 M i ci).set j (mv Z.1 v))) = wl Z (mup M i j x) := wl_set Z ob.1 (fun q hq => mup_ne hq) (by rw [cell_ob ob, flds_set fl.1 (hv Z.1)])
  obtain ⟨hj, f1 | ⟨host, f1⟩⟩ := fl
  · refine va_put C.1 C.2.1 C.2.2.2.2.1 (in_ok ob.2.2) (tyc ci) (ty_ok ob.2.2) (nm_ok ob.2.2) C.2.2.2.1 C.2.2.2.2.2.2.1 hP hD hS i hg (cl_ok ob.2.2) j hj (C.2.2.2.2.1 _ f1) (fun _ q => q) hf (ty_ok ob.2.2 j hj) (hn Z.1) (hfit Z.1) (by rw [flds_len]; exact hj) d (fun H1 locs1 hP1 _ hS1 => ?_)
    rw [he] at hP1
    exact h Z A p l e R s m args below meth c cells slots Qw C Rt H1 locs1 ls hP1 hS1 hl
  · refine va_putN C.1 C.2.1 C.2.2.2.2.1 (in_ok ob.2.2) (tyc ci) (ty_ok ob.2.2) (nm_ok ob.2.2) C.2.2.2.1 C.2.2.2.2.2.2.1 hP hD hS i hg (cl_ok ob.2.2) j hj (va_Nw.use rfl (C.2.2.2.2.2.1 _ f1)) (fun _ q => q) hf (ty_ok ob.2.2 j hj) (hn Z.1) (hfit Z.1) (by rw [flds_len]; exact hj) d (fun H1 locs1 hP1 _ hS1 => ?_)
    rw [he] at hP1
    exact h Z A p l e R s m args below meth c cells slots Qw C Rt H1 locs1 ls hP1 hS1 hl
theorem v_putI {i ci j idx : Nat} {x : Int32} (d : decode k.2.1 pc = .ok (.putfield idx, 3)) (fl : FL k.1.cls idx ci j) (ob : OB i ci) (hf : (Tc ci j).2.2.2 = false) (ht : ftg ci j = 0) (hty : tyc ci j = .int) (h : V k Q (mup M i j x) (pc + 3) lv st) : V k Q M pc lv (.int x :: .ref i :: st) :=
  v_put (x := x) d fl ob hf (fun f => by rw [hty]; rfl) (fun f => by rw [hty]; rfl) (fun f => by rw [ht]; show Value.int x = Value.int (mup M i j x i j); rw [mup_eq]; simp [upd]) h
theorem v_putD {i ci j idx t : Nat} {n : String} (d : decode k.2.1 pc = .ok (.putfield idx, 3)) (fl : FL k.1.cls idx ci j) (ob : OB i ci) (hf : (Tc ci j).2.2.2 = false) (ht : ftg ci j = 1) (hty : tyc ci j = .object n) (hb : t < 2 ^ 31) (h : V k Q (mup M i j (nI t)) (pc + 3) lv st) : V k Q M pc lv (.ref t :: .ref i :: st) :=
  v_put (x := nI t) d fl ob hf (fun f => by rw [hty]; rfl) (fun f => by rw [hty]; rfl) (fun f => by rw [ht]; show Value.ref (f t) = Value.ref (f (mup M i j (nI t) i j).toNatClampNeg); rw [mup_eq]; simp [upd, nI_clamp hb]) h
theorem ar_sz {t i n : Nat} (ar : AR t i n) : n < 2 ^ 31 := by
  obtain ⟨h, -, rfl⟩ := ar
  have : ∀ i, i < 71 → szc i < 1000 := by decide +kernel
  have := this i h
  omega
theorem v_iald {i n a : Nat} {x : Int32} (d : decode k.2.1 pc = .ok (.iaload, 1)) (ar : AR 10 i n) (hx : x = nI a) (ha : a < n) (h : V k Q M (pc + 1) lv (.int (M i a) :: st)) : V k Q M pc lv (.int x :: .ref i :: st) := by
  intro Z A p l e R s m args below meth c cells slots Qw C Rt H locs ls hP hS hl
  have hg := wl_get Z M ar.1
  rw [cell_ar ar (by decide) (by decide)] at hg
  subst hx
  have hz := ar_sz ar
  refine va_iald C.1 C.2.1 C.2.2.2.2.2.2.1 hP i 0 hg rfl (vp_in_nI ha hz) d ?_
  rw [nI_clamp (by omega)]
  exact h Z A p l e R s m args below meth c cells slots Qw C Rt H locs ls hP hS hl
theorem v_cald {i n a : Nat} {x : Int32} (d : decode k.2.1 pc = .ok (.caload, 1)) (ar : AR 11 i n) (hx : x = nI a) (ha : a < n) (h : V k Q M (pc + 1) lv (.int (M i a) :: st)) : V k Q M pc lv (.int x :: .ref i :: st) := by
  intro Z A p l e R s m args below meth c cells slots Qw C Rt H locs ls hP hS hl
  have hg := wl_get Z M ar.1
  rw [cell_ar ar (by decide) (by decide)] at hg
  subst hx
  have hz := ar_sz ar
  refine va_cald C.1 C.2.1 C.2.2.2.2.2.2.1 hP i 1 hg rfl (vp_in_nI ha hz) d ?_
  rw [nI_clamp (by omega)]
  exact h Z A p l e R s m args below meth c cells slots Qw C Rt H locs ls hP hS hl
theorem v_zald {i n a : Nat} {x : Int32} (d : decode k.2.1 pc = .ok (.baload, 1)) (ar : AR 12 i n) (hx : x = nI a) (ha : a < n) (h : V k Q M (pc + 1) lv (.int (M i a) :: st)) : V k Q M pc lv (.int x :: .ref i :: st) := by
  intro Z A p l e R s m args below meth c cells slots Qw C Rt H locs ls hP hS hl
  have hg := wl_get Z M ar.1
  rw [cell_ar ar (by decide) (by decide)] at hg
  subst hx
  have hz := ar_sz ar
  refine va_zald C.1 C.2.1 C.2.2.2.2.2.2.1 hP i 2 hg rfl (vp_in_nI ha hz) d ?_
  rw [nI_clamp (by omega)]
  exact h Z A p l e R s m args below meth c cells slots Qw C Rt H locs ls hP hS hl
theorem v_aald {i n a t : Nat} {x : Int32} (d : decode k.2.1 pc = .ok (.aaload, 1)) (ar : AR 13 i n) (hx : x = nI a) (ha : a < n) (hm : M i a = nI t) (hb : t < 2 ^ 31) (h : V k Q M (pc + 1) lv (.ref t :: st)) : V k Q M pc lv (.int x :: .ref i :: st) := by
  intro Z A p l e R s m args below meth c cells slots Qw C Rt H locs ls hP hS hl
  have hg := wl_get Z M ar.1
  rw [cell_aq ar] at hg
  subst hx
  have hz := ar_sz ar
  refine va_aldq C.1 C.2.1 C.2.2.2.2.2.2.1 hP i 3 hg rfl (vp_in_nI ha hz) d ?_
  rw [nI_clamp (by omega), hm, nI_clamp hb]
  exact h Z A p l e R s m args below meth c cells slots Qw C Rt H locs ls hP hS hl
theorem v_iast {i n a : Nat} {x y : Int32} (d : decode k.2.1 pc = .ok (.iastore, 1)) (ar : AR 10 i n) (hx : x = nI a) (ha : a < n) (h : V k Q (mup M i a y) (pc + 1) lv st) : V k Q M pc lv (.int y :: .int x :: .ref i :: st) := by
  intro Z A p l e R s m args below meth c cells slots Qw C Rt H locs ls hP hS hl
  have hg := wl_get Z M ar.1
  rw [cell_ar ar (by decide) (by decide)] at hg
  subst hx
  have hz := ar_sz ar
  have hD := wl_D (Z := Z) M C.2.2.2.2.2.2.2.2.1 C.2.2.2.2.2.2.2.2.2.1
  refine va_iast C.1 C.2.1 C.2.2.2.2.2.2.1 hP hD hS i 0 hg rfl (vp_in_nI ha hz) d (fun H1 locs1 hP1 _ hS1 => ?_)
  rw [nI_clamp (by omega), wl_set Z (M' := mup M i a y) ar.1 (fun q hq => mup_ne hq) (by rw [cell_ar ar (by decide) (by decide), mup_eq])] at hP1
  exact h Z A p l e R s m args below meth c cells slots Qw C Rt H1 locs1 ls hP1 hS1 hl
theorem v_cast {i n a : Nat} {x y : Int32} (d : decode k.2.1 pc = .ok (.castore, 1)) (ar : AR 11 i n) (hx : x = nI a) (ha : a < n) (h : V k Q (mup M i a (vp_nar .char y)) (pc + 1) lv st) : V k Q M pc lv (.int y :: .int x :: .ref i :: st) := by
  intro Z A p l e R s m args below meth c cells slots Qw C Rt H locs ls hP hS hl
  have hg := wl_get Z M ar.1
  rw [cell_ar ar (by decide) (by decide)] at hg
  subst hx
  have hz := ar_sz ar
  have hD := wl_D (Z := Z) M C.2.2.2.2.2.2.2.2.1 C.2.2.2.2.2.2.2.2.2.1
  refine va_cast C.1 C.2.1 C.2.2.2.2.2.2.1 hP hD hS i 1 hg rfl (vp_in_nI ha hz) d (fun H1 locs1 hP1 _ hS1 => ?_)
  rw [nI_clamp (by omega), wl_set Z (M' := mup M i a (vp_nar .char y)) ar.1 (fun q hq => mup_ne hq) (by rw [cell_ar ar (by decide) (by decide), mup_eq])] at hP1
  exact h Z A p l e R s m args below meth c cells slots Qw C Rt H1 locs1 ls hP1 hS1 hl
theorem v_zast {i n a : Nat} {x y : Int32} (d : decode k.2.1 pc = .ok (.bastore, 1)) (ar : AR 12 i n) (hx : x = nI a) (ha : a < n) (h : V k Q (mup M i a (vp_nar .boolean y)) (pc + 1) lv st) : V k Q M pc lv (.int y :: .int x :: .ref i :: st) := by
  intro Z A p l e R s m args below meth c cells slots Qw C Rt H locs ls hP hS hl
  have hg := wl_get Z M ar.1
  rw [cell_ar ar (by decide) (by decide)] at hg
  subst hx
  have hz := ar_sz ar
  have hD := wl_D (Z := Z) M C.2.2.2.2.2.2.2.2.1 C.2.2.2.2.2.2.2.2.2.1
  refine va_zast C.1 C.2.1 C.2.2.2.2.2.2.1 hP hD hS i 2 hg rfl (vp_in_nI ha hz) d (fun H1 locs1 hP1 _ hS1 => ?_)
  rw [nI_clamp (by omega), wl_set Z (M' := mup M i a (vp_nar .boolean y)) ar.1 (fun q hq => mup_ne hq) (by rw [cell_ar ar (by decide) (by decide), mup_eq])] at hP1
  exact h Z A p l e R s m args below meth c cells slots Qw C Rt H1 locs1 ls hP1 hS1 hl
theorem v_aast {i n a t : Nat} {x : Int32} (d : decode k.2.1 pc = .ok (.aastore, 1)) (ar : AR 13 i n) (ob : OB t 1) (hx : x = nI a) (ha : a < n) (h : V k Q (mup M i a (nI t)) (pc + 1) lv st) : V k Q M pc lv (.ref t :: .int x :: .ref i :: st) := by
  intro Z A p l e R s m args below meth c cells slots Qw C Rt H locs ls hP hS hl
  have hg := wl_get Z M ar.1
  rw [cell_aq ar] at hg
  have ho := wl_get Z M ob.1
  rw [cell_ob ob] at ho
  subst hx
  have hz := ar_sz ar
  have h7 := ob.1
  have hD := wl_D (Z := Z) M C.2.2.2.2.2.2.2.2.1 C.2.2.2.2.2.2.2.2.2.1
  refine va_astq C.1 C.2.1 C.2.2.2.2.2.2.1 hP hD hS i 3 t 1 hg rfl ho (cl_ok (by decide)) (vp_in_nI ha hz) d (fun H1 locs1 hP1 _ hS1 => ?_)
  rw [nI_clamp (by omega), wl_set Z (M' := mup M i a (nI t)) ar.1 (fun q hq => mup_ne hq) (by
    rw [cell_aq ar, mup_eq]
    congr 7
    funext q
    by_cases hq : q = a
    · simp [va_up, upd, hq, nI_clamp (show t < 2 ^ 31 by omega)]
    · simp [va_up, upd, hq])] at hP1
  exact h Z A p l e R s m args below meth c cells slots Qw C Rt H1 locs1 ls hP1 hS1 hl
theorem v_alen {t i n : Nat} (d : decode k.2.1 pc = .ok (.arraylength, 1)) (ar : AR t i n) (ht : t = 10 ∨ t = 11 ∨ t = 12 ∨ t = 13) (h : V k Q M (pc + 1) lv (.int (nI n) :: st)) : V k Q M pc lv (.ref i :: st) := by
  intro Z A p l e R s m args below meth c cells slots Qw C Rt H locs ls hP hS hl
  have hg := wl_get Z M ar.1
  have n2 := h Z A p l e R s m args below meth c cells slots Qw C Rt H locs ls hP hS hl
  rcases ht with rfl | rfl | rfl | rfl
  · rw [cell_ar ar (by decide) (by decide)] at hg
    exact va_alen C.1 C.2.1 C.2.2.2.2.2.2.1 hP i 0 hg (ty := .int) rfl rfl d n2
  · rw [cell_ar ar (by decide) (by decide)] at hg
    exact va_alen C.1 C.2.1 C.2.2.2.2.2.2.1 hP i 1 hg (ty := .char) rfl rfl d n2
  · rw [cell_ar ar (by decide) (by decide)] at hg
    exact va_alen C.1 C.2.1 C.2.2.2.2.2.2.1 hP i 2 hg (ty := .boolean) rfl rfl d n2
  · rw [cell_aq ar] at hg
    exact va_alen C.1 C.2.1 C.2.2.2.2.2.2.1 hP i 3 hg (ty := .object "ClockCrossings$Moment") rfl rfl d n2
end V6
