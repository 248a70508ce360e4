/-! reached, marks, joins -/
def rcP (T : Nat → Int32) (n : Nat) (s : Int32) : Nat → Int32
  | 0 => s
  | k + 1 => rcP T n s k ||| (if bt (rcP T n s k) (pt T n k) = true then bx n else nI 0)
def rcS (T : Nat → Int32) (c : Nat) (s : Int32) (n : Nat) : Int32 := if psB T c n = true then rcP T n s (hmF (so T n)) else s
def rcU (T : Nat → Int32) (r : Nat) : Nat → Int32
  | 0 => bx r
  | d + 1 => rcS T (ck T r) (rcU T r d) (r + 1 + d)
def rcF (T : Nat → Int32) (r : Nat) : Int32 := rcU T r (nN T - (r + 1))
def mkB (T : Nat → Int32) (a b : Nat) : Nat → Bool
  | 0 => false
  | k + 1 => mkB T a b k || (decide (mk T (2 * k) = a) && decide (mk T (2 * k + 1) = b)) || (decide (mk T (2 * k) = b) && decide (mk T (2 * k + 1) = a))
def apF (T : Nat → Int32) (r q : Nat) : Bool := decide (ck T r = ck T q) && dirF T r && dirF T q && !(decide (pt T r 0 = pt T q 0)) && decide (ck T (pt T r 0) = ck T (pt T q 0)) && !(mkB T (pt T r 0) (pt T q 0) (nK T))
def loN (s : Int32) : Nat → Nat → Nat
  | 0, k => k
  | d + 1, k => if bt s k = true then k else loN s d (k + 1)
def loF (s : Int32) : Nat := loN s 32 0
def boF (T : Nat → Int32) (r q : Nat) : Int32 := if so T q = 1 ∧ apF T r q = true then rcF T r &&& rcF T q else nI 0
def jQ (T : Nat → Int32) (k : Int32) (r : Nat) : Nat → Nat → Nat → Nat ⊕ Nat
  | 0, _, n => .inr n
  | d + 1, q, n => if boF T r q = 0 then jQ T k r d (q + 1) n else if nI n = k then .inl q else jQ T k r d (q + 1) (n + 1)
def jS (T : Nat → Int32) (k : Int32) (r n : Nat) : Nat ⊕ Nat := if so T r = 1 then jQ T k r (nN T - (r + 1)) (r + 1) n else .inr n
def jR (T : Nat → Int32) (k : Int32) : Nat → Nat → Nat → (Nat × Nat) ⊕ Nat
  | 0, _, n => .inr n
  | d + 1, r, n => match jS T k r n with
    | .inl q => .inl (r, q)
    | .inr n' => jR T k d (r + 1) n'
def jA (T : Nat → Int32) (k what : Int32) : (Nat × Nat) ⊕ Nat → Int32
  | .inl (r, q) => if what = 0 then nI r else if what = nI 1 then nI q else nI (loF (boF T r q))
  | .inr n => if k < 0 then nI n else (-9)
def joinF (T : Nat → Int32) (k what : Int32) : Int32 := jA T k what (jR T k (nN T) 0 0)
theorem rcP_n {T : Nat → Int32} {n : Nat} {s : Int32} (k : Nat) : ∀ i, i < 32 → n < 32 → i ≠ n → bt (rcP T n s k) i = bt s i := by
  induction k with
  | zero => intro i _ _ _; rfl
  | succ k ih =>
    intro i hi hn hne
    simp only [rcP]
    rw [b_or, ih i hi hn hne]
    split
    · rw [b_bx hn hi]; simp [hne]
    · rw [show bt (nI 0) i = false from b_0 i]; simp
theorem rcU_b {T : Nat → Int32} {r : Nat} (hr : r < 16) (d : Nat) : r + d < 32 → ∀ i, i < 32 → r + d < i → bt (rcU T r d) i = false := by
  induction d with
  | zero => intro h i hi hlt; show bt (bx r) i = false; rw [b_bx (by omega) hi]; simp; omega
  | succ d ih =>
    intro h i hi hlt
    simp only [rcU, rcS]
    split
    · rw [rcP_n _ i hi (by omega) (by omega)]; exact ih (by omega) i hi (by omega)
    · exact ih (by omega) i hi (by omega)
theorem rcF_b {T : Nat → Int32} (hW : WF T) {r : Nat} (hr : r < nN T) : ∀ i, i < 32 → nN T ≤ i → bt (rcF T r) i = false := by
  intro i hi h
  have h16 := hW.n16
  exact rcU_b (by omega) _ (by omega) i hi (by omega)
theorem boF_b {T : Nat → Int32} (hW : WF T) {r q : Nat} (hr : r < nN T) : ∀ i, i < 32 → nN T ≤ i → bt (boF T r q) i = false := by
  intro i hi h
  unfold boF
  split
  · rw [b_and, rcF_b hW hr i hi h]; rfl
  · exact b_0 i
