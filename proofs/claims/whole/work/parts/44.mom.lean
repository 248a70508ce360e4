/-! the class's moments: their ids, what they hold of a row, one tick -/
def mo (m : Nat) : Prop := (m = 24 ∨ m = 27 ∨ m = 30) ∨ (34 ≤ m ∧ m ≤ 49 ∧ m % 3 = 1) ∨ (m = 53 ∨ m = 56)
theorem mo_k : ∀ m, m < 60 → mo m → (kdc m = 1 ∧ kdc (m + 1) = 10 ∧ szc (m + 1) = 16 ∧ kdc (m + 2) = 10 ∧ szc (m + 2) = 16) := by unfold mo; decide
theorem mo_60 {m : Nat} (h : mo m) : m < 57 ∧ 24 ≤ m := by unfold mo at h; omega
theorem ob_m {m : Nat} (h : mo m) : OB m 1 := ⟨by have := mo_60 h; omega, (mo_k m (by have := mo_60 h; omega) h).1, by decide⟩
theorem ar_m1 {m : Nat} (h : mo m) : AR 10 (m + 1) 16 := by
  have h1 := mo_k m (by have := mo_60 h; omega) h
  exact ⟨by have := mo_60 h; omega, h1.2.1, h1.2.2.1⟩
theorem ar_m2 {m : Nat} (h : mo m) : AR 10 (m + 2) 16 := by
  have h1 := mo_k m (by have := mo_60 h; omega) h
  exact ⟨by have := mo_60 h; omega, h1.2.2.2.1, h1.2.2.2.2⟩
def MOM (M : vM) (m : Nat) (T R : Nat → Int32) : Prop := (M m 0 = R 0 ∧ M m 1 = R 1 ∧ M m 2 = R 2 ∧ M m 3 = R 3) ∧ (∀ n, n < nN T → M (m + 1) n = vlF T R n) ∧ ∀ n, n < nN T → so T n = 0 → M (m + 2) n = R (20 + n)
theorem MOM_c {M M' : vM} {m : Nat} {T R : Nat → Int32} (h : MOM M m T R) (h0 : M' m = M m) (h1 : M' (m + 1) = M (m + 1)) (h2 : M' (m + 2) = M (m + 2)) : MOM M' m T R := by unfold MOM; rw [h0, h1, h2]; exact h
theorem CIR0_c {M M' : vM} {c : Nat} {T : Nat → Int32} (h : CIR0 M c T) (e : ∀ i, c ≤ i → i < c + 10 → M' i = M i) : CIR0 M' c T := by
  unfold CIR0
  rw [e c (by omega) (by omega), e (c + 1) (by omega) (by omega), e (c + 2) (by omega) (by omega), e (c + 3) (by omega) (by omega), e (c + 4) (by omega) (by omega), e (c + 5) (by omega) (by omega), e (c + 6) (by omega) (by omega), e (c + 8) (by omega) (by omega), e (c + 9) (by omega) (by omega)]
  exact h
theorem CIR_c {M M' : vM} {c : Nat} {T : Nat → Int32} (h : CIR M c T) (e : ∀ i, c ≤ i → i < c + 10 → M' i = M i) : CIR M' c T := ⟨CIR0_c h.1 e, by rw [e (c + 7) (by omega) (by omega)]; exact h.2⟩
/-! values -/
theorem vlF_c {T R R' : Nat → Int32} (hW : WF T) : ∀ (j : Nat), j < nN T → (∀ i, i ≤ j → so T i ≤ 1 → R (4 + i) = R' (4 + i)) → vlF T R j = vlF T R' j := by
  intro j
  induction j using Nat.strongRecOn with
  | ind j ih =>
    intro hj h
    rw [vlF_eq hW hj, vlF_eq hW hj]
    by_cases hl : so T j ≤ 1
    · rw [if_pos hl, if_pos hl]; exact h j (Nat.le_refl _) hl
    · rw [if_neg hl, if_neg hl]
      exact gtF_c hW hj hl (fun i hi => ih i hi (by omega) (fun q hq => h q (by omega)))
theorem v3_n (n : Nat) (h : n ≤ 2) : v3 (nI n) := by
  rcases (show n = 0 ∨ n = 1 ∨ n = 2 by omega) with rfl | rfl | rfl
  · exact Or.inl rfl
  · exact Or.inr (Or.inl rfl)
  · exact Or.inr (Or.inr rfl)
theorem gtF_3 {T f : Nat → Int32} (hW : WF T) {n : Nat} (hn : n < nN T) (hl : ¬ so T n ≤ 1) (h : ∀ j, j < n → v3 (f j)) : v3 (gtF T f n) := by
  have h2 := hm_gate hl
  have e0 := h _ (hW.ptlt hn (show 0 < hmF (so T n) by omega))
  have e1 := h _ (hW.ptlt hn (show 1 < hmF (so T n) by omega))
  have h5 := hW.so5 hn
  unfold gtF
  by_cases c2 : so T n = 2
  · rw [if_pos c2]; unfold anF
    split
    · exact v3_n 0 (by omega)
    · split
      · exact v3_n 2 (by omega)
      · exact v3_n 1 (by omega)
  · rw [if_neg c2]
    by_cases c3 : so T n = 3
    · rw [if_pos c3]; unfold orF
      split
      · exact v3_n 1 (by omega)
      · split
        · exact v3_n 2 (by omega)
        · exact v3_n 0 (by omega)
    · rw [if_neg c3]
      by_cases c4 : so T n = 4
      · rw [if_pos c4]; unfold xoF
        split
        · exact v3_n 2 (by omega)
        · rename_i hx
          rcases e0 with e0 | e0 | e0
          · rcases e1 with e1 | e1 | e1
            · rw [e0, e1]; exact Or.inl (by decide)
            · rw [e0, e1]; exact Or.inr (Or.inl (by decide))
            · exact absurd (Or.inr e1) hx
          · rcases e1 with e1 | e1 | e1
            · rw [e0, e1]; exact Or.inr (Or.inl (by decide))
            · rw [e0, e1]; exact Or.inl (by decide)
            · exact absurd (Or.inr e1) hx
          · exact absurd (Or.inl e0) hx
      · rw [if_neg c4]
        have hm := hm_ch (show so T n = 5 by omega)
        have e2 := h _ (hW.ptlt hn (show 2 < hmF (so T n) by omega))
        unfold chF
        split
        · exact e1
        · split
          · exact e2
          · split
            · exact e1
            · exact v3_n 2 (by omega)
theorem vlF_3 {T R : Nat → Int32} (hW : WF T) (hR : rOK T R) : ∀ (j : Nat), j < nN T → v3 (vlF T R j) := by
  intro j
  induction j using Nat.strongRecOn with
  | ind j ih =>
    intro hj
    rw [vlF_eq hW hj]
    by_cases hl : so T j ≤ 1
    · rw [if_pos hl]; exact (hR.2 j hj hl).1
    · rw [if_neg hl]; exact gtF_3 hW hj hl (fun i hi => ih i hi (by omega))
theorem vlF_z {T R : Nat → Int32} (hW : WF T) (h : ∀ i, i < 16 → R (4 + i) = nI 0) : ∀ (j : Nat), j < nN T → vlF T R j = nI 0 := by
  intro j
  induction j using Nat.strongRecOn with
  | ind j ih =>
    intro hj
    have h16 := hW.n16
    rw [vlF_eq hW hj]
    by_cases hl : so T j ≤ 1
    · rw [if_pos hl]; exact h j (by omega)
    · rw [if_neg hl]
      have h2 := hm_gate hl
      have e0 := ih _ (hW.ptlt hj (show 0 < hmF (so T j) by omega)) (by have := hW.ptlt hj (show 0 < hmF (so T j) by omega); omega)
      have e1 := ih _ (hW.ptlt hj (show 1 < hmF (so T j) by omega)) (by have := hW.ptlt hj (show 1 < hmF (so T j) by omega); omega)
      unfold gtF
      rw [e0, e1]
      split
      · decide
      · split
        · decide
        · split
          · decide
          · unfold chF; rw [if_pos (by decide)]
/-! a tick -/
theorem tkW_o {T f R : Nat → Int32} {oth : Int32} {n i : Nat} (h2 : i ≠ 2) (h3 : i ≠ 3) : tkW T f R oth n i = R i := by
  unfold tkW; split
  · split
    · split
      · simp [upd, h3]
      · rfl
    · simp [upd, h2]
  · rfl
theorem tkL_hi {T f : Nat → Int32} {tm : Int32} {s : (Nat → Int32) × Int32} {n i : Nat} (h2 : i ≠ 2) (h3 : i ≠ 3) (h4 : i < 4 ∨ 4 + n ≤ i) : (tkL T f tm s n).1 i = s.1 i := by
  induction n with
  | zero => rfl
  | succ n ih =>
    simp only [tkL, tkS]
    split
    · simp only [upd]; rw [if_neg (by omega), tkW_o h2 h3, ih (by omega)]
    · exact ih (by omega)
theorem tkL_lo {T f : Nat → Int32} {tm : Int32} {s : (Nat → Int32) × Int32} {n i : Nat} (h : i < n) : (tkL T f tm s (n + 1)).1 (4 + i) = (tkL T f tm s n).1 (4 + i) := by
  simp only [tkL, tkS]
  split
  · simp only [upd]; rw [if_neg (by omega), tkW_o (by omega) (by omega)]
  · rfl
theorem tkL_st {T f : Nat → Int32} {tm : Int32} {s : (Nat → Int32) × Int32} {n : Nat} (h : so T n ≤ 1 ∧ rmZ tm (pe T (ck T n)) = 0) : tkL T f tm s (n + 1) = (upd (tkW T f (tkL T f tm s n).1 (tkL T f tm s n).2 n) (4 + n) (itF T f (tkL T f tm s n).1 (tkL T f tm s n).2 n), (tkL T f tm s n).2 ||| (if itF T f (tkL T f tm s n).1 (tkL T f tm s n).2 n = f n then nI 0 else bx n)) := if_pos h
theorem tkL_no {T f : Nat → Int32} {tm : Int32} {s : (Nat → Int32) × Int32} {n : Nat} (h : ¬ (so T n ≤ 1 ∧ rmZ tm (pe T (ck T n)) = 0)) : tkL T f tm s (n + 1) = tkL T f tm s n := if_neg h
theorem tkF_3 {T f : Nat → Int32} (hW : WF T) {n : Nat} (hn : n < nN T) (h1 : so T n = 1) (hf : ∀ j, j < nN T → v3 (f j)) : v3 (tkF T f n) := by
  have hm1 := hm_reg h1
  have p0 := hW.ptlt hn (show 0 < hmF (so T n) by omega)
  unfold tkF
  split
  · rename_i hs
    have h2 : so T (pt T n 0) = 1 := by simp [stF] at hs; exact hs.1.1.1
    have hm3 := hm_reg h2
    have p2 := hW.ptlt (n := pt T n 0) (by omega) (show 0 < hmF (so T (pt T n 0)) by omega)
    split
    · exact v3_n 0 (by omega)
    · exact hf _ (by omega)
  · exact hf _ (by omega)
theorem tkL_ok {T f : Nat → Int32} (hW : WF T) {tm : Int32} {s : (Nat → Int32) × Int32} (hs : rOK T s.1) (hf : ∀ j, j < nN T → v3 (f j)) : ∀ (n : Nat), n ≤ nN T → rOK T (tkL T f tm s n).1
  | 0, _ => hs
  | n + 1, hn => by
    have ih := tkL_ok hW (tm := tm) hs hf n (by omega)
    have h16 := hW.n16
    by_cases h : so T n ≤ 1 ∧ rmZ tm (pe T (ck T n)) = 0
    · rw [tkL_st h]
      obtain ⟨⟨nd, e, hb⟩, hv⟩ := ih
      refine ⟨⟨nd, ?_, hb⟩, fun j hj hl => ?_⟩
      · show upd _ _ _ 0 = _
        simp only [upd]; rw [if_neg (by omega), tkW_o (by omega) (by omega)]; exact e
      · show v3 (upd _ _ _ (4 + j)) ∧ (_ → v3 (upd _ _ _ (20 + j)))
        simp only [upd]
        rw [if_neg (show ¬ 20 + j = 4 + n by omega), tkW_o (i := 20 + j) (by omega) (by omega)]
        refine ⟨?_, (hv j hj hl).2⟩
        by_cases e2 : j = n
        · subst e2
          rw [if_pos rfl]
          unfold itF
          split
          · rename_i h0; exact (hv j hj hl).2 h0
          · split
            · exact tkF_3 hW hj (by omega) hf
            · exact v3_n 2 (by omega)
        · rw [if_neg (by omega), tkW_o (i := 4 + j) (by omega) (by omega)]; exact (hv j hj hl).1
    · rw [tkL_no h]; exact ih
theorem rOK_1 {T R : Nat → Int32} {x : Int32} (h : rOK T R) : rOK T (upd R 1 x) := by
  obtain ⟨⟨nd, e, hb⟩, hv⟩ := h
  refine ⟨⟨nd, by simpa [upd] using e, hb⟩, fun j hj hl => ?_⟩
  simp only [upd]
  rw [if_neg (by omega), if_neg (by omega)]
  exact hv j hj hl
theorem tkR_ok {T R : Nat → Int32} (hW : WF T) (h : rOK T R) : rOK T (tkR T R) := tkL_ok hW (s := (upd R 1 (R 1 + nI 1), nI 0)) (rOK_1 h) (vlF_3 hW h) (nN T) (Nat.le_refl _)
theorem tkR_20 {T R : Nat → Int32} (hW : WF T) {n : Nat} : tkR T R (20 + n) = R (20 + n) := by
  have h16 := hW.n16
  unfold tkR
  rw [tkL_hi (by omega) (by omega) (by omega)]
  simp only [upd]; rw [if_neg (by omega)]
theorem edN_b {T : Nat → Int32} {tm : Int32} {b : Nat} (hb : b < 32) : ∀ {k : Nat}, k ≤ 3 → (bt (edN T tm k) b = true ↔ b < k ∧ rmZ tm (pe T b) = 0)
  | 0, _ => by
    constructor
    · intro h; rw [show bt (edN T tm 0) b = false from b_0 b] at h; cases h
    · rintro ⟨h, -⟩; omega
  | k + 1, hk => by
    simp only [edN]
    by_cases hz : rmZ tm (pe T k) = 0
    · rw [if_pos hz, b_or, Bool.or_eq_true, edN_b hb (by omega), b_bx (by omega) hb, decide_eq_true_eq]
      constructor
      · rintro (⟨h1, h2⟩ | rfl)
        · exact ⟨by omega, h2⟩
        · exact ⟨by omega, hz⟩
      · rintro ⟨h1, h2⟩
        by_cases e : b = k
        · exact Or.inr e
        · exact Or.inl ⟨by omega, h2⟩
    · rw [if_neg hz, edN_b hb (by omega)]
      constructor
      · rintro ⟨h1, h2⟩; exact ⟨by omega, h2⟩
      · rintro ⟨h1, h2⟩
        refine ⟨?_, h2⟩
        by_cases e : b = k
        · subst e; exact absurd h2 hz
        · omega
/-- the memory in a tick of the moment m, with the row R0 of before: n nodes are done -/
def fI (M0 M : vM) (m : Nat) (T f : Nat → Int32) (S : Nat → Int32) (n : Nat) : Prop := (∀ i, i ≠ m → i ≠ m + 1 → M i = M0 i) ∧ (M m 0 = S 0 ∧ M m 1 = S 1 ∧ M m 2 = S 2 ∧ M m 3 = S 3) ∧ (∀ j, j < n → M (m + 1) j = vlF T S j) ∧ ∀ j, n ≤ j → j < nN T → M (m + 1) j = f j
