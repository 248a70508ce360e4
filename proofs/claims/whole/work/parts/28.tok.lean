/-! the text and its tokens, over letters as numbers (u), of length t -/
abbrev isD (c : Nat) : Prop := 48 ≤ c ∧ c ≤ 57
abbrev isIt (c : Nat) : Prop := c = 105 ∨ c = 114 ∨ c = 97 ∨ c = 111 ∨ c = 120 ∨ c = 109 ∨ c = 112 ∨ c = 103 ∨ c = 101
def skN (u : Nat → Nat) : Nat → Nat → Nat
  | 0, p => p
  | d + 1, p => if u p = 32 then skN u d (p + 1) else p
def dgV (v c : Nat) : Nat := if 99 < v then v else 10 * v + c - 48
def dgN (u : Nat → Nat) : Nat → Nat → Nat → Nat × Nat
  | 0, p, v => (p, v)
  | d + 1, p, v => if isD (u p) then dgN u d (p + 1) (dgV v (u p)) else (p, v)
def tPl (u : Nat → Nat) (t p : Nat) : Nat := skN u (t - p) p
def tVl (u : Nat → Nat) (t p : Nat) : Nat := if tPl u t p = t then 0 else if isD (u (tPl u t p)) then (dgN u (t - tPl u t p) (tPl u t p) 0).2 else 0
def tNx (u : Nat → Nat) (t p : Nat) : Nat := if tPl u t p = t then t else if isD (u (tPl u t p)) then (dgN u (t - tPl u t p) (tPl u t p) 0).1 else tPl u t p + 1
def tTk (u : Nat → Nat) (t p : Nat) : Nat := if tPl u t p = t then 0 else if isD (u (tPl u t p)) then (if 99 < tVl u t p ∨ (u (tPl u t p) = 48 ∧ tPl u t p + 1 < tNx u t p) then 2 else 1) else if isIt (u (tPl u t p)) ∨ u (tPl u t p) = 59 then u (tPl u t p) else 2
theorem skN_b (u : Nat → Nat) : ∀ (d p : Nat), p ≤ skN u d p ∧ skN u d p ≤ p + d
  | 0, p => ⟨Nat.le_refl _, Nat.le_refl _⟩
  | d + 1, p => by
    simp only [skN]
    split
    · have := skN_b u d (p + 1); omega
    · omega
theorem tPl_b (u : Nat → Nat) {t p : Nat} (h : p ≤ t) : p ≤ tPl u t p ∧ tPl u t p ≤ t := by
  have := skN_b u (t - p) p
  unfold tPl; omega
theorem dgN_b (u : Nat → Nat) : ∀ (d p v : Nat), v < 1000 → p ≤ (dgN u d p v).1 ∧ (dgN u d p v).1 ≤ p + d ∧ (dgN u d p v).2 < 1000
  | 0, p, v, h => ⟨Nat.le_refl _, Nat.le_refl _, h⟩
  | d + 1, p, v, h => by
    simp only [dgN]
    split
    · have h1 : dgV v (u p) < 1000 := by
        unfold dgV
        have : isD (u p) := by assumption
        split <;> omega
      have := dgN_b u d (p + 1) (dgV v (u p)) h1
      omega
    · exact ⟨Nat.le_refl _, by omega, h⟩
theorem tVl_b (u : Nat → Nat) (t p : Nat) : tVl u t p < 1000 := by
  unfold tVl
  split
  · omega
  · split
    · exact (dgN_b u _ _ _ (by omega)).2.2
    · omega
theorem dgN_pos (u : Nat → Nat) {d p v : Nat} (hd : 0 < d) (h : isD (u p)) (hv : v < 1000) : p < (dgN u d p v).1 := by
  cases d with
  | zero => omega
  | succ d =>
    simp only [dgN]
    rw [if_pos h]
    have h1 : dgV v (u p) < 1000 := by unfold dgV; split <;> omega
    have := dgN_b u d (p + 1) (dgV v (u p)) h1
    omega
theorem tNx_b (u : Nat → Nat) {t p : Nat} (h : p ≤ t) : tPl u t p ≤ tNx u t p ∧ tNx u t p ≤ t ∧ (tPl u t p < t → tPl u t p < tNx u t p) := by
  have h1 := tPl_b u h
  unfold tNx
  split
  · omega
  · split
    · have h2 := dgN_b u (t - tPl u t p) (tPl u t p) 0 (by omega)
      have h3 := dgN_pos u (d := t - tPl u t p) (p := tPl u t p) (v := 0) (by omega) (by assumption) (by omega)
      omega
    · omega
/-- the letters of the memory -/
def uF (tx : Nat → Int32) (j : Nat) : Nat := (tx j).toNatClampNeg
def xOK (tx : Nat → Int32) (t : Nat) : Prop := t ≤ 160 ∧ ∀ j, j < t → tx j = nI (uF tx j) ∧ uF tx j ≤ 255
/-- the reference while it reads: its object's fields 12 to 16 and the draft may have moved -/
def nz (M0 M : vM) : Prop := (∀ i, i ≠ 60 → M i = M0 i) ∧ ∀ j, (j < 12 ∨ 15 < j) → M 60 j = M0 60 j
theorem nz_rf (M : vM) : nz M M := ⟨fun _ _ => rfl, fun _ _ => rfl⟩
theorem nz_tr {A B C : vM} (h : nz A B) (g : nz B C) : nz A C := ⟨fun i hi => (g.1 i hi).trans (h.1 i hi), fun j hj => (g.2 j hj).trans (h.2 j hj)⟩
theorem nz_up {A B : vM} (h : nz A B) {b : Nat} {x : Int32} (hb : 12 ≤ b ∧ b ≤ 15) : nz A (mup B 60 b x) := ⟨fun i hi => (mup_ne hi).trans (h.1 i hi), fun j hj => by rw [mup_eq]; simp only [upd]; rw [if_neg (by omega)]; exact h.2 j hj⟩
def TK (M : vM) (u : Nat → Nat) (t q : Nat) : Prop := M 60 12 = nI (tNx u t q) ∧ M 60 13 = nI (tPl u t q) ∧ M 60 14 = nI (tTk u t q) ∧ M 60 15 = nI (tVl u t q)
theorem tTk_b (u : Nat → Nat) (t p : Nat) : tTk u t p < 256 := by
  unfold tTk
  split
  · omega
  · split
    · split <;> omega
    · split
      · have : isIt (u (tPl u t p)) ∨ u (tPl u t p) = 59 := by assumption
        omega
      · omega
