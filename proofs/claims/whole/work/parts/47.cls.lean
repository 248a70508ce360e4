/-! the class's memory as a state, beside REF -/
def cP (M : vM) (r : Nat) (T : Nat → Int32) (P : List (Nat → Int32)) : Prop := r < 6 ∧ M 0 5 = nI P.length ∧ (∀ i, i < 6 → M 33 i = nI (34 + 3 * ((i + r) % 6))) ∧ ∀ i, i < P.length → MOM M (34 + 3 * ((i + r) % 6)) T (P.getD i z0)
def cI (M : vM) (T : Nat → Int32) (Im : Nat → Option (Nat → Int32)) : Prop := (∀ i, i < 2 → M 52 i = nI (53 + 3 * i)) ∧ ∀ i, i < 2 → (Im i = none → M 59 i = nI 0) ∧ ∀ q, Im i = some q → M 59 i = nI 1 ∧ MOM M (53 + 3 * i) T q
def cX (M : vM) (tx : Nat → Int32) (t : Nat) : Prop := M 1 1 = nI t ∧ ∀ j, j < t → M 2 j = tx j
def CLS (c r : Nat) (M : vM) (T R : Nat → Int32) (P : List (Nat → Int32)) (Im : Nat → Option (Nat → Int32)) (tx : Nat → Int32) (t : Nat) : Prop := (c = 4 ∨ c = 14) ∧ M 0 1 = nI c ∧ M 0 2 = nI (18 - c) ∧ CIR M c T ∧ MOM M 24 T R ∧ cP M r T P ∧ cI M T Im ∧ cX M tx t
/-- the reference's rows are kept -/
def kq (M M' : vM) : Prop := ∀ i, 60 ≤ i → M' i = M i
theorem kq_rf (M : vM) : kq M M := fun _ _ => rfl
theorem kq_tr {A B C : vM} (h : kq A B) (g : kq B C) : kq A C := fun i hi => (g i hi).trans (h i hi)
def cA (M : vM) (a : Int32) (T R : Nat → Int32) (P : List (Nat → Int32)) (Im : Nat → Option (Nat → Int32)) (tx : Nat → Int32) (t : Nat) : Option Value → vM → Prop := fun v M' => v = some (.int a) ∧ (∃ c r, CLS c r M' T R P Im tx t) ∧ kq M M'
section C47
variable {M M' : vM} {c r : Nat} {T R tx : Nat → Int32} {P : List (Nat → Int32)} {Im : Nat → Option (Nat → Int32)} {t : Nat}
theorem cP_c (h : cP M r T P) (h5 : M' 0 5 = M 0 5) (e : ∀ i, 33 ≤ i → i < 52 → M' i = M i) : cP M' r T P := by
  obtain ⟨h0, h1, h2, h3⟩ := h
  refine ⟨h0, h5.trans h1, fun i hi => ?_, fun i hi => ?_⟩
  · rw [e 33 (by omega) (by omega)]; exact h2 i hi
  · exact MOM_c (h3 i hi) (e _ (by omega) (by omega)) (e _ (by omega) (by omega)) (e _ (by omega) (by omega))
theorem cI_c (h : cI M T Im) (e : ∀ i, 52 ≤ i → i < 60 → M' i = M i) : cI M' T Im := by
  obtain ⟨h1, h2⟩ := h
  refine ⟨fun i hi => ?_, fun i hi => ⟨fun q => ?_, fun q hq => ⟨?_, ?_⟩⟩⟩
  · rw [e 52 (by omega) (by omega)]; exact h1 i hi
  · rw [e 59 (by omega) (by omega)]; exact (h2 i hi).1 q
  · rw [e 59 (by omega) (by omega)]; exact ((h2 i hi).2 q hq).1
  · exact MOM_c ((h2 i hi).2 q hq).2 (e _ (by omega) (by omega)) (e _ (by omega) (by omega)) (e _ (by omega) (by omega))
theorem cX_c (h : cX M tx t) (h1 : M' 1 1 = M 1 1) (h2 : M' 2 = M 2) : cX M' tx t := ⟨h1.trans h.1, by rw [h2]; exact h.2⟩
theorem CLS_c (h : CLS c r M T R P Im tx t) (e : ∀ i, i < 60 → ¬ (27 ≤ i ∧ i < 33) → M' i = M i) : CLS c r M' T R P Im tx t := by
  obtain ⟨hc, h1, h2, h3, h4, h5, h6, h7⟩ := h
  refine ⟨hc, ?_, ?_, CIR_c h3 (fun i a b => e i (by omega) (by omega)), MOM_c h4 (e _ (by omega) (by omega)) (e _ (by omega) (by omega)) (e _ (by omega) (by omega)), cP_c h5 ?_ (fun i a b => e i (by omega) (by omega)), cI_c h6 (fun i a b => e i (by omega) (by omega)), cX_c h7 ?_ (e _ (by omega) (by omega))⟩
  · rw [e 0 (by omega) (by omega)]; exact h1
  · rw [e 0 (by omega) (by omega)]; exact h2
  · rw [e 0 (by omega) (by omega)]
  · rw [e 1 (by omega) (by omega)]
end C47
