/-! the class's circuit in the memory, over the told row T -/
def pbN (T : Nat → Int32) (n : Nat) : Nat → Int32
  | 0 => nI 0
  | k + 1 => pbN T n k ||| bx (pt T n k)
def pbF (T : Nat → Int32) (n : Nat) : Int32 := pbN T n (hmF (so T n))
def CIR0 (M : vM) (c : Nat) (T : Nat → Int32) : Prop :=
  M c 0 = nI (nN T) ∧ M c 1 = nI (nK T) ∧ (∀ n, n < nN T → M (c + 1) n = nI (so T n)) ∧ (∀ n, n < nN T → M (c + 2) n = if so T n ≤ 1 then nI (ck T n) else (-9)) ∧
  (∀ n, n < nN T → ∀ k, k < 3 → M (c + 3) (n * 3 + k) = if k < hmF (so T n) then nI (pt T n k) else (-9)) ∧ (∀ n, n < nN T → M (c + 4) n = pbF T n) ∧ (∀ n, n < nN T → M (c + 5) n = lvF T n) ∧
  (∀ n, n < nN T → M (c + 6) n = if so T n = 1 then frF T n else nI 0) ∧ (∀ n, n < nN T → ∀ b, b < 16 → bt (M (c + 8) n) b = mkB T n b (nK T)) ∧ ∀ j, j < 3 → M (c + 9) j = nI (pe T j)
def CIR (M : vM) (c : Nat) (T : Nat → Int32) : Prop := CIR0 M c T ∧ ∀ n, n < nN T → so T n = 1 → M (c + 7) n = nI (dpF T n)
section C37
variable {M : vM} {c : Nat} {T : Nat → Int32}
theorem ob_c (hc : c = 4 ∨ c = 14) : OB c 0 := by rcases hc with rfl | rfl <;> exact ⟨by decide, rfl, by decide⟩
theorem ar_c1 (hc : c = 4 ∨ c = 14) : AR 10 (c + 1) 16 := by rcases hc with rfl | rfl <;> exact ⟨by decide, rfl, rfl⟩
theorem ar_c2 (hc : c = 4 ∨ c = 14) : AR 10 (c + 2) 16 := by rcases hc with rfl | rfl <;> exact ⟨by decide, rfl, rfl⟩
theorem ar_c3 (hc : c = 4 ∨ c = 14) : AR 10 (c + 3) 48 := by rcases hc with rfl | rfl <;> exact ⟨by decide, rfl, rfl⟩
theorem ar_c4 (hc : c = 4 ∨ c = 14) : AR 10 (c + 4) 16 := by rcases hc with rfl | rfl <;> exact ⟨by decide, rfl, rfl⟩
theorem ar_c5 (hc : c = 4 ∨ c = 14) : AR 10 (c + 5) 16 := by rcases hc with rfl | rfl <;> exact ⟨by decide, rfl, rfl⟩
theorem ar_c6 (hc : c = 4 ∨ c = 14) : AR 10 (c + 6) 16 := by rcases hc with rfl | rfl <;> exact ⟨by decide, rfl, rfl⟩
theorem ar_c7 (hc : c = 4 ∨ c = 14) : AR 10 (c + 7) 16 := by rcases hc with rfl | rfl <;> exact ⟨by decide, rfl, rfl⟩
theorem ar_c8 (hc : c = 4 ∨ c = 14) : AR 10 (c + 8) 16 := by rcases hc with rfl | rfl <;> exact ⟨by decide, rfl, rfl⟩
theorem ar_c9 (hc : c = 4 ∨ c = 14) : AR 10 (c + 9) 3 := by rcases hc with rfl | rfl <;> exact ⟨by decide, rfl, rfl⟩
theorem CIR0.nd (h : CIR0 M c T) : M c 0 = nI (nN T) := h.1
theorem CIR0.mk (h : CIR0 M c T) : M c 1 = nI (nK T) := h.2.1
theorem CIR0.wh (h : CIR0 M c T) {n : Nat} (hn : n < nN T) : M (c + 1) n = nI (so T n) := h.2.2.1 n hn
theorem CIR0.ck (h : CIR0 M c T) {n : Nat} (hn : n < nN T) : M (c + 2) n = if so T n ≤ 1 then nI (ck T n) else (-9) := h.2.2.2.1 n hn
theorem cir_ckL (h : CIR0 M c T) {n : Nat} (hn : n < nN T) (hl : so T n ≤ 1) : M (c + 2) n = nI (ck T n) := by rw [h.ck hn, if_pos hl]
theorem CIR0.pt (h : CIR0 M c T) {n k : Nat} (hn : n < nN T) (hk : k < 3) : M (c + 3) (n * 3 + k) = if k < hmF (so T n) then nI (pt T n k) else (-9) := h.2.2.2.2.1 n hn k hk
theorem CIR0.pb (h : CIR0 M c T) {n : Nat} (hn : n < nN T) : M (c + 4) n = pbF T n := h.2.2.2.2.2.1 n hn
theorem CIR0.lv (h : CIR0 M c T) {n : Nat} (hn : n < nN T) : M (c + 5) n = lvF T n := h.2.2.2.2.2.2.1 n hn
theorem CIR0.fr (h : CIR0 M c T) {n : Nat} (hn : n < nN T) : M (c + 6) n = if so T n = 1 then frF T n else nI 0 := h.2.2.2.2.2.2.2.1 n hn
theorem CIR0.mb (h : CIR0 M c T) {n : Nat} (hn : n < nN T) {b : Nat} (hb : b < 16) : bt (M (c + 8) n) b = mkB T n b (nK T) := h.2.2.2.2.2.2.2.2.1 n hn b hb
theorem CIR0.pe (h : CIR0 M c T) {j : Nat} (hj : j < 3) : M (c + 9) j = nI (pe T j) := h.2.2.2.2.2.2.2.2.2 j hj
end C37
/-- bits of the leaves: only lower nodes, and leaves -/
theorem lvG_b {T f : Nat → Int32} {n b : Nat} : ∀ {k : Nat}, bt (lvG T f n k) b = true → ∃ j, j < k ∧ bt (f (pt T n j)) b = true
  | 0, h => by rw [show bt (lvG T f n 0) b = false from b_0 b] at h; cases h
  | k + 1, h => by
    simp only [lvG] at h
    rw [b_or, Bool.or_eq_true] at h
    rcases h with h | h
    · obtain ⟨j, h1, h2⟩ := lvG_b h; exact ⟨j, by omega, h2⟩
    · exact ⟨k, by omega, h⟩
theorem lvF_b {T : Nat → Int32} (hW : WF T) : ∀ (n : Nat), n < nN T → ∀ b, b < 32 → bt (lvF T n) b = true → b ≤ n ∧ so T b ≤ 1 := by
  intro n
  induction n using Nat.strongRecOn with
  | ind n ih =>
    intro hn b hb h
    have h16 := hW.n16
    rw [lvF_eq hW hn] at h
    by_cases hl : so T n ≤ 1
    · rw [if_pos hl, b_bx (by omega) hb] at h
      have := of_decide_eq_true h
      subst this
      exact ⟨Nat.le_refl _, hl⟩
    · rw [if_neg hl] at h
      obtain ⟨j, h1, h2⟩ := lvG_b h
      have hp := hW.ptlt hn h1
      have := ih _ hp (by omega) b hb h2
      exact ⟨by omega, this.2⟩
theorem frN_b {T : Nat → Int32} {r : Nat} {s : Int32} {b : Nat} (hb : b < 32) : ∀ {k : Nat}, k ≤ 32 → (bt (frN T r s k) b = true ↔ bt s b = true ∧ ¬ (b < k ∧ so T b ≤ 1 ∧ ck T b = ck T r))
  | 0, _ => by simp [frN]
  | k + 1, hk => by
    simp only [frN]
    rw [b_and, Bool.and_eq_true, frN_b hb (by omega)]
    by_cases hc : so T k ≤ 1 ∧ ck T k = ck T r
    · rw [if_pos hc, b_not _ hb, b_bx (by omega) hb]
      by_cases e : b = k
      · subst e; simp [hc]
      · simp only [e, decide_false, Bool.not_false, and_true]
        constructor
        · rintro ⟨h1, h2⟩; exact ⟨h1, fun h => h2 ⟨by omega, h.2⟩⟩
        · rintro ⟨h1, h2⟩; exact ⟨h1, fun h => h2 ⟨by omega, h.2⟩⟩
    · rw [if_neg hc, b_m1 b hb]
      simp only [and_true]
      constructor
      · rintro ⟨h1, h2⟩
        refine ⟨h1, fun h => h2 ⟨?_, h.2⟩⟩
        rcases Nat.lt_or_ge b k with a | a
        · exact a
        · have : b = k := by omega
          subst this; exact absurd h.2 hc
      · rintro ⟨h1, h2⟩; exact ⟨h1, fun h => h2 ⟨by omega, h.2⟩⟩
theorem frF_b {T : Nat → Int32} (hW : WF T) {r b : Nat} (hb : b < 32) : bt (frF T r) b = true ↔ bt (lvF T (pt T r 0)) b = true ∧ ¬ (b < nN T ∧ so T b ≤ 1 ∧ ck T b = ck T r) := frN_b hb (by have := hW.n16; omega)
/-- a direct register's foreign leaves: its node alone -/
theorem dir_leaf {T : Nat → Int32} (hW : WF T) {r : Nat} (hr : r < nN T) (h1 : so T r = 1) (hd : dirF T r = true) : so T (pt T r 0) ≤ 1 ∧ ck T (pt T r 0) ≠ ck T r := by
  have h16 := hW.n16
  have hp := hW.ptlt hr (show 0 < hmF (so T r) by rw [h1]; decide)
  unfold dirF at hd
  rw [frF_b hW (by omega)] at hd
  have h2 := (lvF_b hW _ (by omega) _ (by omega) hd.1).2
  exact ⟨h2, fun e => hd.2 ⟨by omega, h2, e⟩⟩
theorem dir_of {T : Nat → Int32} (hW : WF T) {r : Nat} (hr : r < nN T) (h1 : so T r = 1) : dirF T r = true ↔ so T (pt T r 0) ≤ 1 ∧ ck T (pt T r 0) ≠ ck T r := by
  constructor
  · exact dir_leaf hW hr h1
  · rintro ⟨a, b⟩
    have h16 := hW.n16
    have hp := hW.ptlt hr (show 0 < hmF (so T r) by rw [h1]; decide)
    unfold dirF
    rw [frF_b hW (by omega)]
    refine ⟨?_, fun h => b h.2.2⟩
    rw [lvF_eq hW (by omega), if_pos a, b_bx (by omega) (by omega)]
    simp
theorem dir_fr {T : Nat → Int32} (hW : WF T) {r : Nat} (hr : r < nN T) (h1 : so T r = 1) (hd : dirF T r = true) : frF T r = bx (pt T r 0) := by
  have h16 := hW.n16
  have hp := hW.ptlt hr (show 0 < hmF (so T r) by rw [h1]; decide)
  obtain ⟨a, b⟩ := dir_leaf hW hr h1 hd
  apply b_ext
  intro i hi
  have hl : lvF T (pt T r 0) = bx (pt T r 0) := by rw [lvF_eq hW (by omega), if_pos a]
  cases hx : bt (bx (pt T r 0)) i with
  | true =>
    rw [frF_b hW hi, hl]
    refine ⟨hx, ?_⟩
    rw [b_bx (by omega) hi] at hx
    have := of_decide_eq_true hx
    subst this
    exact fun h => b h.2.2
  | false =>
    cases hy : bt (frF T r) i with
    | false => rfl
    | true =>
      rw [frF_b hW hi, hl, hx] at hy
      cases hy.1
theorem fr_leaf {T : Nat → Int32} (hW : WF T) {r : Nat} (hr : r < nN T) (h1 : so T r = 1) : ∀ b, b < 32 → bt (frF T r) b = true → b < nN T ∧ so T b ≤ 1 := by
  intro b hb h
  have h16 := hW.n16
  have hp := hW.ptlt hr (show 0 < hmF (so T r) by rw [h1]; decide)
  rw [frF_b hW hb] at h
  have := lvF_b hW _ (by omega) b hb h.1
  exact ⟨by omega, this.2⟩
