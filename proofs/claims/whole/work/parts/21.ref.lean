/-! rows of arrays may be renamed where they agree; the reference's memory as a state -/
theorem arrV_c {c : ClassId} {n : Nat} {f g : Nat → Value} (h : ∀ j, j < n → f j = g j) : arrV c n f = arrV c n g := by
  unfold arrV
  congr 2
  funext j
  exact h j.val j.isLt
theorem v_row {k : vK} {Q : Option Value → vM → Prop} {M : vM} {pc : Nat} {lv : List (Nat × Value)} {st : List Value} {t i n : Nat} (ar : AR t i n) (ht : 10 ≤ t) (ht2 : t ≠ 13) (f : Nat → Int32) (hf : ∀ j, j < n → M i j = f j) (h : V k Q (mrow M i f) pc lv st) : V k Q M pc lv st := by
  intro Z A p l e R s m args below meth c cells slots Qw C Rt H locs ls hP hS hl
  refine h Z A p l e R s m args below meth c cells slots Qw C Rt H locs ls (fun q x hq => ?_) hS hl
  have h7 : q < 71 := by
    have := (List.getElem?_eq_some_iff.mp hq).1
    simpa [wl] using this
  have hq0 := hP q _ (wl_get Z M h7)
  rw [wl_get Z (mrow M i f) h7] at hq
  cases hq
  by_cases hqi : q = i
  · subst hqi
    rw [cell_ar ar ht ht2] at hq0 ⊢
    show H[Z.1 q]? = some (vp_cell _ _)
    rw [show H[Z.1 q]? = some (vp_cell (Z.2.2 t) (n, .inl (M q))) from hq0, vp_cell_i, vp_cell_i, mrow_eq]
    exact congrArg some (arrV_c (fun j hj => by rw [hf j hj]))
  · rw [cellE_congr Z (M := M) (mrow_ne hqi)]
    exact hq0
def z0 : Nat → Int32 := fun _ => 0
/-- the class's rows are kept -/
def kp (M M' : vM) : Prop := ∀ i, i < 60 → M' i = M i
theorem kp_rf (M : vM) : kp M M := fun _ _ => rfl
theorem kp_tr {A B C : vM} (h : kp A B) (g : kp B C) : kp A C := fun i hi => (g i hi).trans (h i hi)
theorem kp_up {A B : vM} (h : kp A B) {a b : Nat} {x : Int32} (ha : 60 ≤ a) : kp A (mup B a b x) := fun i hi => (mup_ne (by omega)).trans (h i hi)
theorem kp_row {A B : vM} (h : kp A B) {a : Nat} {f : Nat → Int32} (ha : 60 ≤ a) : kp A (mrow B a f) := fun i hi => (mrow_ne (by omega)).trans (h i hi)
def pR (M : vM) (P : List (Nat → Int32)) : Prop := M 60 5 = nI P.length ∧ ∀ i, i < P.length → ∀ j, j < 36 → M 65 (36 * (P.length - 1 - i) + j) = (P.getD i z0) j
def iR (M : vM) (Im : Nat → Option (Nat → Int32)) : Prop := ∀ i, i < 2 → (Im i = none → M 67 i = nI 0) ∧ (∀ r, Im i = some r → M 67 i = nI 1 ∧ ∀ j, j < 36 → M 66 (36 * i + j) = r j)
def xR (M : vM) (tx : Nat → Int32) (t : Nat) : Prop := M 60 11 = nI t ∧ ∀ j, j < t → M 70 j = tx j
def REF (M : vM) (T R : Nat → Int32) (P : List (Nat → Int32)) (Im : Nat → Option (Nat → Int32)) (tx : Nat → Int32) (t : Nat) : Prop := M 61 = T ∧ M 63 = R ∧ pR M P ∧ iR M Im ∧ xR M tx t
theorem pR_c {M M' : vM} {P : List (Nat → Int32)} (h : pR M P) (h1 : M' 60 5 = M 60 5) (h2 : M' 65 = M 65) : pR M' P := ⟨h1.trans h.1, fun i hi j hj => by rw [h2]; exact h.2 i hi j hj⟩
theorem iR_c {M M' : vM} {Im : Nat → Option (Nat → Int32)} (h : iR M Im) (h1 : M' 67 = M 67) (h2 : M' 66 = M 66) : iR M' Im := fun i hi => ⟨fun e => by rw [h1]; exact (h i hi).1 e, fun r e => ⟨by rw [h1]; exact ((h i hi).2 r e).1, fun j hj => by rw [h2]; exact ((h i hi).2 r e).2 j hj⟩⟩
theorem xR_c {M M' : vM} {tx : Nat → Int32} {t : Nat} (h : xR M tx t) (h1 : M' 60 11 = M 60 11) (h2 : M' 70 = M 70) : xR M' tx t := ⟨h1.trans h.1, fun j hj => by rw [h2]; exact h.2 j hj⟩
/-- reading changes nothing of the state -/
theorem REF_sc {M M' : vM} {T R tx : Nat → Int32} {P : List (Nat → Int32)} {Im : Nat → Option (Nat → Int32)} {t : Nat} (h : REF M T R P Im tx t) (hs : ∀ i, i ≠ 68 → i ≠ 69 → i ≠ 64 → i ≠ 62 → M' i = M i) : REF M' T R P Im tx t := by
  obtain ⟨h1, h2, h3, h4, h5⟩ := h
  exact ⟨(hs 61 (by decide) (by decide) (by decide) (by decide)).trans h1, (hs 63 (by decide) (by decide) (by decide) (by decide)).trans h2, pR_c h3 (congrFun (hs 60 (by decide) (by decide) (by decide) (by decide)) _) (hs 65 (by decide) (by decide) (by decide) (by decide)), iR_c h4 (hs 67 (by decide) (by decide) (by decide) (by decide)) (hs 66 (by decide) (by decide) (by decide) (by decide)), xR_c h5 (congrFun (hs 60 (by decide) (by decide) (by decide) (by decide)) _) (hs 70 (by decide) (by decide) (by decide) (by decide))⟩
/-- an answer, and the state behind it -/
def rA (M : vM) (a : Int32) (T R : Nat → Int32) (P : List (Nat → Int32)) (Im : Nat → Option (Nat → Int32)) (tx : Nat → Int32) (t : Nat) : Option Value → vM → Prop := fun v M' => v = some (.int a) ∧ REF M' T R P Im tx t ∧ kp M M'
def v3 (x : Int32) : Prop := x = nI 0 ∨ x = nI 1 ∨ x = nI 2
def rOK (T R : Nat → Int32) : Prop := (∃ nd, R 0 = nI nd ∧ nd < 2 ^ 31) ∧ ∀ n, n < nN T → so T n ≤ 1 → v3 (R (4 + n)) ∧ (so T n = 0 → v3 (R (20 + n)))
