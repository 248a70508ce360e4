/-! back, held, kinds -/
theorem dec_sub (x : Int32) : x + (-1) = x - 1 := by rw [Int32.sub_eq_add_neg]
theorem oI_none {o : Option Nat} (h : ∀ n, o = some n → n < 2 ^ 31) : oI o = (-9) ↔ o = none := by
  cases o with
  | none => exact ⟨fun _ => rfl, fun _ => rfl⟩
  | some n =>
    constructor
    · intro q
      have h0 := nI_pos' (h n rfl)
      have e : oI (some n) = nI n := rfl
      rw [← e, q] at h0
      exact absurd h0 (by decide)
    · intro q; cases q
theorem oI_some {o : Option Nat} {c : Nat} (h : ∀ n, o = some n → n < 2 ^ 31) (hc : c < 2 ^ 31) : oI o = nI c ↔ o = some c := by
  cases o with
  | none =>
    constructor
    · intro q
      have h0 := nI_pos' hc
      rw [← q] at h0
      exact absurd h0 (by decide)
    · intro q; cases q
  | some n =>
    show nI n = nI c ↔ _
    rw [nI_eq (h n rfl) hc]
    simp
theorem dpN_le {T : Nat → Int32} {c : Nat} : ∀ (f : Nat) (o : Option Nat), dpN T c f o ≤ f
  | 0, _ => Nat.le_refl 0
  | f + 1, none => Nat.zero_le _
  | f + 1, some n => by
    have := dpN_le (T := T) (c := c) f (ooO T n)
    simp only [dpN]
    split <;> omega
theorem dpF_le {T : Nat → Int32} {r : Nat} : dpF T r ≤ 17 := by
  have := dpN_le (T := T) (c := ck T r) 16 (ooO T r)
  unfold dpF; omega
def psB (T : Nat → Int32) (c n : Nat) : Bool := decide (1 < so T n) || (decide (so T n = 1) && decide (ck T n = c))
def bkP (T : Nat → Int32) (n : Nat) (s : Int32) : Nat → Int32
  | 0 => s
  | k + 1 => bkP T n s k ||| bx (pt T n k)
def bkS (T : Nat → Int32) (c : Nat) (s : Int32) (n : Nat) : Int32 := if bt s n = true ∧ psB T c n = true then bkP T n s (hmF (so T n)) else s
def bkD (T : Nat → Int32) (c : Nat) : Nat → Int32 → Int32
  | 0, s => s
  | n + 1, s => bkD T c n (bkS T c s n)
def bkF (T : Nat → Int32) (c i : Nat) : Int32 := bkD T c (i + 1) (bx i)
def otO (T : Nat → Int32) (s : Int32) : Nat → Option Nat
  | 0 => none
  | k + 1 => if bt s k = true then some (ck T k) else otO T s k
def otB (T : Nat → Int32) (s : Int32) : Nat → Bool
  | 0 => true
  | k + 1 => if bt s k = true then (otB T s k && (decide (otO T s k = none) || decide (otO T s k = some (ck T k)))) else otB T s k
def hbB (T : Nat → Int32) (nd r : Nat) (b : Int32) (ot : Option Nat) : Nat → Bool
  | 0 => false
  | q + 1 => hbB T nd r b ot q || (bt b q && decide (so T q = 1) && decide (ck T q = ck T r) && safF T nd q && decide (ot = some (ck T (pt T q 0))))
def heldF (T : Nat → Int32) (nd r : Nat) : Bool := decide (so T (pt T r 0) = 5) && decide (srcF T (lvF T (pt T (pt T r 0) 0)) = bx (ck T r)) && hbB T nd r (bkF T (ck T r) (pt T (pt T r 0) 0)) (otO T (frF T r) (nN T)) (nN T) && otB T (frF T r) (nN T)
def kdO (T : Nat → Int32) (nd r : Nat) : Option Nat := if frF T r = 0 then none else if dirF T r = true then (if safF T nd r = true then some 0 else some 1) else if heldF T nd r = true then some 2 else some 3
def kaO (T : Nat → Int32) (nd n : Nat) : Option Nat := if so T n = 1 then kdO T nd n else none
theorem otO_ck {T : Nat → Int32} {s : Int32} : ∀ {k n : Nat}, otO T s k = some n → ∃ j, j < k ∧ n = ck T j
  | 0, _, h => by simp [otO] at h
  | k + 1, n, h => by
    simp only [otO] at h
    split at h
    · cases h; exact ⟨k, by omega, rfl⟩
    · obtain ⟨j, hj, e⟩ := otO_ck h
      exact ⟨j, by omega, e⟩
theorem otO_b {T : Nat → Int32} (hW : WF T) {s : Int32} {k : Nat} (hk : k ≤ nN T) : ∀ n, otO T s k = some n → n < 2 ^ 31 := by
  intro n h
  obtain ⟨j, hj, rfl⟩ := otO_ck h
  have := hW.ck2 (n := j) (by omega)
  omega
theorem kdO_le {T : Nat → Int32} {nd r n : Nat} (h : kdO T nd r = some n) : n ≤ 3 := by
  unfold kdO at h
  split at h
  · cases h
  · split at h <;> split at h <;> cases h <;> omega
theorem kaO_le {T : Nat → Int32} {nd r n : Nat} (h : kaO T nd r = some n) : n ≤ 3 := by
  unfold kaO at h
  split at h
  · exact kdO_le h
  · cases h
