/-! reading all items -/
theorem mq_mono {u : Nat → Nat} {t : Nat} {b : Bool} {s : Nat × Option Nat} (h : s.1 ≤ t) : s.1 ≤ (mq u t b s).1 ∧ (mq u t b s).1 ≤ t := by
  refine ⟨?_, mq_le h⟩
  obtain ⟨q, f⟩ := s
  cases f with
  | some a => exact Nat.le_refl _
  | none =>
    rw [mq_none]
    split
    · exact Nat.le_trans (tPl_b u h).1 (tNx_b u h).1
    · exact Nat.le_refl _
theorem nq_mono {u : Nat → Nat} {t lo hi : Nat} {s : Nat × Option Nat} (h : s.1 ≤ t) : s.1 ≤ (nq u t lo hi s).1 ∧ (nq u t lo hi s).1 ≤ t := mq_mono h
theorem rnL_mono {u : Nat → Nat} {t n : Nat} {z : pS} (h : z.2.1 ≤ t) : ∀ k, z.2.1 ≤ (rnL u t n z k).2.1 ∧ (rnL u t n z k).2.1 ≤ t
  | 0 => ⟨Nat.le_refl _, h⟩
  | k + 1 => by
    have ih := rnL_mono (u := u) (n := n) h k
    have := nq_mono (u := u) (lo := 0) (hi := n) ih.2
    exact ⟨Nat.le_trans ih.1 this.1, this.2⟩
theorem rnC_mono {u : Nat → Nat} {t n s : Nat} {z : pS} (h : z.2.1 ≤ t) : z.2.1 ≤ (rnC u t n s z).2.1 ∧ (rnC u t n s z).2.1 ≤ t := by
  unfold rnC
  split
  · exact nq_mono h
  · exact ⟨Nat.le_refl _, h⟩
theorem riB_mono {u : Nat → Nat} {t c : Nat} {z : pS} (h : z.2.1 ≤ t) : z.2.1 ≤ (riB u t c z).2.1 ∧ (riB u t c z).2.1 ≤ t := by
  unfold riB
  split
  · rename_i s9 _
    have h1 := rnC_mono (u := u) (n := nN z.1) (s := s9) (z := (upd z.1 (nN z.1) (nI s9), z.2)) h
    have h2 := rnL_mono (u := u) (n := nN z.1) h1.2
    exact ⟨Nat.le_trans h1.1 (h2 _).1, (h2 _).2⟩
  · split
    · have h1 := mq_mono (u := u) (b := lfB z.1 u t z.2.1) h
      have h2 := mq_mono (u := u) (b := lfB z.1 u t (mq u t (lfB z.1 u t z.2.1) z.2).1 && !(decide (tVl u t (mq u t (lfB z.1 u t z.2.1) z.2).1 = tVl u t z.2.1))) h1.2
      exact ⟨Nat.le_trans h1.1 h2.1, h2.2⟩
    · have h1 := nq_mono (u := u) (lo := 0) (hi := 3) h
      have h2 := nq_mono (u := u) (lo := 1) (hi := 10) h1.2
      exact ⟨Nat.le_trans h1.1 h2.1, h2.2⟩
theorem tTk_0 {u : Nat → Nat} {t q : Nat} (h : q ≤ t) (h0 : tTk u t q ≠ 0) : tPl u t q < t := by
  rcases Nat.lt_or_ge (tPl u t q) t with a | a
  · exact a
  · exfalso; apply h0
    have := (tPl_b u h).2
    unfold tTk; rw [if_pos (by omega)]
theorem itR_gt {u : Nat → Nat} {t q : Nat} {D : Nat → Int32} (h : q ≤ t) (h0 : tTk u t q ≠ 0) (hf : (itR u t D q).2.2 = none) : q < (itR u t D q).2.1 ∧ (itR u t D q).2.1 ≤ t := by
  have h1 := tTk_0 h h0
  have h2 := tPl_b u h
  have h3 := tNx_b u h
  unfold itR at hf ⊢
  by_cases hb : rmB D (tTk u t q) = true
  · rw [if_pos hb] at hf ⊢
    have h4 := riB_mono (u := u) (c := tTk u t q) (z := (D, (tNx u t q, none))) h3.2.1
    have h5 := mq_mono (u := u) (b := decide (tTk u t (riB u t (tTk u t q) (D, (tNx u t q, none))).2.1 = 59)) h4.2
    have h6 := h4.1
    have h7 := h5.1
    refine ⟨?_, h5.2⟩
    show q < (mq u t _ _).1
    have h8 := h3.2.2 h1
    simp only at h6
    omega
  · rw [if_neg hb] at hf; cases hf
def prN (u : Nat → Nat) (t : Nat) : Nat → (Nat → Int32) → Nat → Nat → Nat ⊕ ((Nat → Int32) × Nat)
  | 0, _, _, _ => .inl 0
  | f + 1, D, q, m => if tTk u t q = 0 then .inr (D, m) else match (itR u t D q).2.2 with
    | some a => .inl a
    | none => prN u t f (itR u t D q).1 (itR u t D q).2.1 (m + 1)
def b0 : Nat → Int32 := fun j => if j = 92 then nI 2 else if j = 93 then nI 3 else if j = 94 then nI 5 else nI 0
def s0R : Nat → Int32 := fun j => if j = 0 then nI 2 else nI 0
def prF (tx : Nat → Int32) (t : Nat) : Nat ⊕ ((Nat → Int32) × Nat) := prN (uF tx) t (t + 1) b0 0 0
theorem b0_WD : WD b0 := by
  have h : WFx b0 0 0 := by
    refine ⟨⟨by decide, by decide⟩, rfl, rfl, fun n hn => absurd hn (by omega), fun n hn => absurd hn (by omega), fun n hn => absurd hn (by omega), fun i hi => absurd hi (by omega), fun i hi => absurd hi (by omega), fun c hc => ?_⟩
    rcases (show c = 0 ∨ c = 1 ∨ c = 2 by omega) with rfl | rfl | rfl
    · exact ⟨2, by decide, rfl⟩
    · exact ⟨3, by decide, rfl⟩
    · exact ⟨5, by decide, rfl⟩
  obtain ⟨w1, w2, w3⟩ := WFx_WF h
  refine ⟨w1, fun j _ g2 => ?_⟩
  unfold b0
  rw [if_neg (by omega), if_neg (by omega), if_neg (by omega)]
/-- tells: the answer, and the state behind it -/
def telQ (M0 : vM) (T R : Nat → Int32) (P : List (Nat → Int32)) (Im : Nat → Option (Nat → Int32)) (tx : Nat → Int32) (t : Nat) : Nat ⊕ ((Nat → Int32) × Nat) → Option Value → vM → Prop
  | .inl a => rA M0 ((-10) - nI a) T R P Im tx t
  | .inr (D, m) => rA M0 (nI m) D s0R [] (fun _ => none) tx 0
theorem REF_ps {M M' : vM} {T R tx : Nat → Int32} {P : List (Nat → Int32)} {Im : Nat → Option (Nat → Int32)} {t : Nat} (h : REF M T R P Im tx t) (h1 : ∀ i, i ≠ 60 → i ≠ 62 → M' i = M i) (h2 : ∀ j, j < 12 → M' 60 j = M 60 j) : REF M' T R P Im tx t := by
  obtain ⟨r1, r2, r3, r4, r5⟩ := h
  exact ⟨(h1 61 (by decide) (by decide)).trans r1, (h1 63 (by decide) (by decide)).trans r2, pR_c r3 (h2 5 (by decide)) (h1 65 (by decide) (by decide)), iR_c r4 (h1 67 (by decide) (by decide)) (h1 66 (by decide) (by decide)), xR_c r5 (h2 11 (by decide)) (h1 70 (by decide) (by decide))⟩
theorem ar_t {q : Nat} (hq : q = 61 ∨ q = 62) : AR 10 q 97 := by rcases hq with rfl | rfl <;> exact ⟨by decide, rfl, rfl⟩
