/-! the class's ways of judging are the reference's -/
theorem or_0 (s : Int32) : s ||| nI 0 = s := by
  apply b_ext; intro i hi; rw [b_or, show bt (nI 0) i = false from b_0 i]; simp
theorem bkP_or {T : Nat → Int32} {n : Nat} {s : Int32} : ∀ k, bkP T n s k = s ||| pbN T n k
  | 0 => (or_0 s).symm
  | k + 1 => by
    simp only [bkP, pbN]
    rw [bkP_or k]
    apply b_ext; intro i hi
    rw [b_or, b_or, b_or, b_or, Bool.or_assoc]
theorem pbN_b {T : Nat → Int32} (n : Nat) {b : Nat} (hb : b < 32) : ∀ {k : Nat}, (∀ j, j < k → pt T n j < 32) → (bt (pbN T n k) b = true ↔ ∃ j, j < k ∧ pt T n j = b)
  | 0, _ => by
    rw [show bt (pbN T n 0) b = false from b_0 b]
    constructor
    · intro h; cases h
    · rintro ⟨j, h, -⟩; omega
  | k + 1, h => by
    simp only [pbN]
    rw [b_or, Bool.or_eq_true, pbN_b n hb (fun j hj => h j (by omega)), b_bx (h k (by omega)) hb, decide_eq_true_eq]
    constructor
    · rintro (⟨j, h1, h2⟩ | h1)
      · exact ⟨j, by omega, h2⟩
      · exact ⟨k, by omega, h1.symm⟩
    · rintro ⟨j, h1, h2⟩
      by_cases e : j = k
      · right; rw [← h2, e]
      · left; exact ⟨j, by omega, h2⟩
theorem rcP_eq {T : Nat → Int32} {n : Nat} {s : Int32} (hn : n < 32) : ∀ {k : Nat}, (∀ j, j < k → pt T n j < n) → ((∃ j, j < k ∧ bt s (pt T n j) = true) → rcP T n s k = s ||| bx n) ∧ (¬ (∃ j, j < k ∧ bt s (pt T n j) = true) → rcP T n s k = s)
  | 0, _ => ⟨fun ⟨j, h, _⟩ => by omega, fun _ => rfl⟩
  | k + 1, h => by
    have ih := rcP_eq (s := s) hn (k := k) (fun j hj => h j (by omega))
    have hp := h k (by omega)
    have hb : bt (rcP T n s k) (pt T n k) = bt s (pt T n k) := rcP_n k _ (by omega) hn (by omega)
    simp only [rcP]
    rw [hb]
    constructor
    · rintro ⟨j, h1, h2⟩
      by_cases hk : ∃ j, j < k ∧ bt s (pt T n j) = true
      · rw [ih.1 hk]
        split
        · apply b_ext; intro i hi; rw [b_or, b_or]; simp
        · exact or_0 _
      · rw [ih.2 hk]
        have e : j = k := by
          by_cases e : j = k
          · exact e
          · exact absurd ⟨j, by omega, h2⟩ hk
        rw [if_pos (by rw [← e]; exact h2)]
    · intro hne
      rw [ih.2 (fun ⟨j, h1, h2⟩ => hne ⟨j, by omega, h2⟩), if_neg (fun q => hne ⟨k, by omega, q⟩)]
      exact or_0 s
/-- whether a node's parts meet a set -/
theorem pb_meet {T : Nat → Int32} (hW : WF T) {n : Nat} (hn : n < nN T) {s : Int32} : (¬ pbF T n &&& s = 0) ↔ ∃ j, j < hmF (so T n) ∧ bt s (pt T n j) = true := by
  have h16 := hW.n16
  rw [b_ne0]
  constructor
  · rintro ⟨i, hi, h⟩
    rw [b_and, Bool.and_eq_true] at h
    obtain ⟨j, h1, h2⟩ := (pbN_b n hi (fun j hj => by have := hW.ptlt hn hj; omega)).mp h.1
    exact ⟨j, h1, by rw [h2]; exact h.2⟩
  · rintro ⟨j, h1, h2⟩
    have hp := hW.ptlt hn h1
    refine ⟨pt T n j, by omega, ?_⟩
    rw [b_and, Bool.and_eq_true]
    exact ⟨(pbN_b n (by omega) (fun j hj => by have := hW.ptlt hn hj; omega)).mpr ⟨j, h1, rfl⟩, h2⟩
theorem rcS_eq {T : Nat → Int32} (hW : WF T) {n c : Nat} (hn : n < nN T) {s : Int32} : rcS T c s n = if (¬ pbF T n &&& s = 0) ∧ psB T c n = true then s ||| bx n else s := by
  have h16 := hW.n16
  unfold rcS
  have he := rcP_eq (T := T) (n := n) (s := s) (by omega) (k := hmF (so T n)) (fun j hj => hW.ptlt hn hj)
  by_cases hp : psB T c n = true
  · rw [if_pos hp]
    by_cases hm : ∃ j, j < hmF (so T n) ∧ bt s (pt T n j) = true
    · rw [he.1 hm, if_pos ⟨(pb_meet hW hn).mpr hm, hp⟩]
    · rw [he.2 hm, if_neg (fun q => hm ((pb_meet hW hn).mp q.1))]
  · rw [if_neg hp, if_neg (fun q => hp q.2)]
/-! lowest bits -/
theorem loN_eq {s : Int32} : ∀ {d k j : Nat}, (∀ i, k ≤ i → i < j → bt s i = false) → k ≤ j → j < k + d → bt s j = true → loN s d k = j
  | 0, k, j, _, _, h, _ => by omega
  | d + 1, k, j, h0, h1, h2, h3 => by
    simp only [loN]
    by_cases e : k = j
    · subst e; rw [if_pos h3]
    · rw [if_neg (by rw [h0 k (Nat.le_refl _) (by omega)]; decide)]
      exact loN_eq (fun i g1 g2 => h0 i (by omega) g2) (by omega) (by omega) h3
/-! clocks of sets -/
theorem srcN_b {T : Nat → Int32} {s : Int32} {b : Nat} (hb : b < 32) : ∀ {k : Nat}, (∀ j, j < k → ck T j < 32) → (bt (srcN T s k) b = true ↔ ∃ j, j < k ∧ bt s j = true ∧ ck T j = b)
  | 0, _ => by
    rw [show bt (srcN T s 0) b = false from b_0 b]
    constructor
    · intro h; cases h
    · rintro ⟨j, h, -⟩; omega
  | k + 1, h => by
    simp only [srcN]
    rw [b_or, Bool.or_eq_true, srcN_b hb (fun j hj => h j (by omega))]
    by_cases hk : bt s k = true
    · rw [if_pos hk, b_bx (h k (by omega)) hb, decide_eq_true_eq]
      constructor
      · rintro (⟨j, h1, h2⟩ | h1)
        · exact ⟨j, by omega, h2⟩
        · exact ⟨k, by omega, hk, h1.symm⟩
      · rintro ⟨j, h1, h2, h3⟩
        by_cases e : j = k
        · right; rw [← h3, e]
        · left; exact ⟨j, by omega, h2, h3⟩
    · rw [if_neg hk, bt_00]
      constructor
      · rintro (⟨j, h1, h2⟩ | h1)
        · exact ⟨j, by omega, h2⟩
        · cases h1
      · rintro ⟨j, h1, h2, h3⟩
        left
        refine ⟨j, ?_, h2, h3⟩
        by_cases e : j = k
        · subst e; exact absurd h2 hk
        · omega
theorem otO_none {T : Nat → Int32} {s : Int32} : ∀ {k : Nat}, otO T s k = none ↔ ∀ j, j < k → ¬ bt s j = true
  | 0 => by simp [otO]
  | k + 1 => by
    simp only [otO]
    by_cases hk : bt s k = true
    · rw [if_pos hk]
      constructor
      · intro h; cases h
      · intro h; exact absurd hk (h k (by omega))
    · rw [if_neg hk, otO_none]
      constructor
      · intro h j hj
        by_cases e : j = k
        · rw [e]; exact hk
        · exact h j (by omega)
      · intro h j hj; exact h j (by omega)
theorem otO_bit {T : Nat → Int32} {s : Int32} {c : Nat} : ∀ {k : Nat}, otO T s k = some c → ∃ j, j < k ∧ bt s j = true ∧ ck T j = c
  | 0, h => by simp [otO] at h
  | k + 1, h => by
    simp only [otO] at h
    split at h
    · cases h; exact ⟨k, by omega, by assumption, rfl⟩
    · obtain ⟨j, h1, h2⟩ := otO_bit h; exact ⟨j, by omega, h2⟩
theorem otB_iff {T : Nat → Int32} {s : Int32} : ∀ {k : Nat}, otB T s k = true ↔ ∀ i j, i < k → j < k → bt s i = true → bt s j = true → ck T i = ck T j
  | 0 => by simp [otB]
  | k + 1 => by
    simp only [otB]
    by_cases hk : bt s k = true
    · rw [if_pos hk, Bool.and_eq_true, otB_iff, Bool.or_eq_true, decide_eq_true_eq, decide_eq_true_eq]
      constructor
      · rintro ⟨h1, h2⟩
        have hall : ∀ i, i < k → bt s i = true → ck T i = ck T k := by
          intro i hi hb
          rcases h2 with h2 | h2
          · exact absurd hb (otO_none.mp h2 i hi)
          · obtain ⟨j, g1, g2, g3⟩ := otO_bit h2
            rw [← g3]; exact h1 i j hi g1 hb g2
        intro i j hi hj hbi hbj
        by_cases e1 : i = k <;> by_cases e2 : j = k
        · rw [e1, e2]
        · rw [e1]; exact (hall j (by omega) hbj).symm
        · rw [e2]; exact hall i (by omega) hbi
        · exact h1 i j (by omega) (by omega) hbi hbj
      · intro h
        refine ⟨fun i j hi hj => h i j (by omega) (by omega), ?_⟩
        cases ho : otO T s k with
        | none => exact Or.inl rfl
        | some c =>
          obtain ⟨j, g1, g2, g3⟩ := otO_bit ho
          right; rw [← g3, h j k (by omega) (by omega) g2 hk]
    · rw [if_neg hk, otB_iff]
      constructor
      · intro h i j hi hj hbi hbj
        have e1 : i ≠ k := fun e => hk (by rw [← e]; exact hbi)
        have e2 : j ≠ k := fun e => hk (by rw [← e]; exact hbj)
        exact h i j (by omega) (by omega) hbi hbj
      · intro h i j hi hj; exact h i j (by omega) (by omega)
/-- one clock alone -/
theorem src_one {T : Nat → Int32} (hW : WF T) {s : Int32} {c : Nat} (hc : c ≤ 2) : srcF T s = bx c ↔ otB T s (nN T) = true ∧ otO T s (nN T) = some c := by
  have h16 := hW.n16
  have hck : ∀ j, j < nN T → ck T j < 32 := fun j hj => by have := hW.ck2 hj; omega
  constructor
  · intro h
    have key : ∀ j, j < nN T → bt s j = true → ck T j = c := by
      intro j hj hb
      have := hck j hj
      have h1 : bt (srcF T s) (ck T j) = true := (srcN_b this hck).mpr ⟨j, hj, hb, rfl⟩
      rw [h, b_bx (by omega) this] at h1
      exact of_decide_eq_true h1
    refine ⟨otB_iff.mpr (fun i j hi hj hbi hbj => (key i hi hbi).trans (key j hj hbj).symm), ?_⟩
    cases ho : otO T s (nN T) with
    | some d =>
      obtain ⟨j, g1, g2, g3⟩ := otO_bit ho
      rw [← g3, key j g1 g2]
    | none =>
      have h1 : bt (bx c) c = true := by rw [b_bx (by omega) (by omega)]; simp
      rw [← h] at h1
      obtain ⟨j, g1, g2, g3⟩ := (srcN_b (by omega) hck).mp h1
      exact absurd g2 (otO_none.mp ho j g1)
  · rintro ⟨h1, h2⟩
    obtain ⟨j, g1, g2, g3⟩ := otO_bit h2
    apply b_ext
    intro i hi
    rw [b_bx (by omega) hi]
    cases hx : bt (srcF T s) i with
    | true =>
      obtain ⟨l, k1, k2, k3⟩ := (srcN_b hi hck).mp hx
      have := (otB_iff.mp h1) l j k1 g1 k2 g2
      symm; rw [decide_eq_true_eq]; omega
    | false =>
      symm; rw [decide_eq_false_iff_not]
      intro e
      have : bt (srcF T s) i = true := (srcN_b hi hck).mpr ⟨j, g1, g2, by omega⟩
      rw [hx] at this; cases this
theorem bits3 (a b c : Bool) : ∀ i, i < 32 → bt (nI (a.toNat + 2 * b.toNat + 4 * c.toNat)) i = (if i = 0 then a else if i = 1 then b else if i = 2 then c else false) := by
  cases a <;> cases b <;> cases c <;> decide +kernel
theorem src_7 {T : Nat → Int32} (hW : WF T) (s : Int32) : ∃ j, j < 8 ∧ srcF T s = nI j := by
  refine ⟨(bt (srcF T s) 0).toNat + 2 * (bt (srcF T s) 1).toNat + 4 * (bt (srcF T s) 2).toNat, ?_, b_ext (fun i hi => ?_)⟩
  · cases bt (srcF T s) 0 <;> cases bt (srcF T s) 1 <;> cases bt (srcF T s) 2 <;> decide
  · rw [bits3 _ _ _ i hi]
    by_cases e0 : i = 0
    · rw [if_pos e0, e0]
    · rw [if_neg e0]
      by_cases e1 : i = 1
      · rw [if_pos e1, e1]
      · rw [if_neg e1]
        by_cases e2 : i = 2
        · rw [if_pos e2, e2]
        · rw [if_neg e2]
          cases hx : bt (srcF T s) i with
          | false => rfl
          | true =>
            obtain ⟨l, k1, k2, k3⟩ := (srcN_b hi (fun j hj => by have := hW.ck2 hj; omega)).mp hx
            have := hW.ck2 k1
            omega
def bcT (j : Nat) : Nat := [0, 1, 1, 2, 1, 2, 2, 3].getD j 0
theorem bc_one : ∀ j, j < 8 → (bcT j = 1 ↔ ∃ c, c ≤ 2 ∧ nI j = bx c) := by
  intro j hj
  rcases (show j = 0 ∨ j = 1 ∨ j = 2 ∨ j = 3 ∨ j = 4 ∨ j = 5 ∨ j = 6 ∨ j = 7 by omega) with rfl | rfl | rfl | rfl | rfl | rfl | rfl | rfl
  · refine ⟨fun h => absurd h (by decide), fun ⟨c, hc, e⟩ => absurd e ?_⟩
    rcases (show c = 0 ∨ c = 1 ∨ c = 2 by omega) with rfl | rfl | rfl <;> decide
  · exact ⟨fun _ => ⟨0, by decide, by decide⟩, fun _ => rfl⟩
  · exact ⟨fun _ => ⟨1, by decide, by decide⟩, fun _ => rfl⟩
  · refine ⟨fun h => absurd h (by decide), fun ⟨c, hc, e⟩ => absurd e ?_⟩
    rcases (show c = 0 ∨ c = 1 ∨ c = 2 by omega) with rfl | rfl | rfl <;> decide
  · exact ⟨fun _ => ⟨2, by decide, by decide⟩, fun _ => rfl⟩
  · refine ⟨fun h => absurd h (by decide), fun ⟨c, hc, e⟩ => absurd e ?_⟩
    rcases (show c = 0 ∨ c = 1 ∨ c = 2 by omega) with rfl | rfl | rfl <;> decide
  · refine ⟨fun h => absurd h (by decide), fun ⟨c, hc, e⟩ => absurd e ?_⟩
    rcases (show c = 0 ∨ c = 1 ∨ c = 2 by omega) with rfl | rfl | rfl <;> decide
  · refine ⟨fun h => absurd h (by decide), fun ⟨c, hc, e⟩ => absurd e ?_⟩
    rcases (show c = 0 ∨ c = 1 ∨ c = 2 by omega) with rfl | rfl | rfl <;> decide
