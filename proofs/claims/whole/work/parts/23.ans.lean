/-! what the calls answer, of the state -/
def needK (R : Nat → Int32) (x : Int32) : Prop := (nI 2 ≤ x ∧ x ≤ nI 4) ∧ ¬ R 0 = x
def needA (R : Nat → Int32) (x : Int32) : Int32 := if nI 2 ≤ x ∧ x ≤ nI 4 then (if R 0 = x then (-2) else R 0) else (-1)
def needR (R : Nat → Int32) (x : Int32) : Nat → Int32 := if (nI 2 ≤ x ∧ x ≤ nI 4) ∧ ¬ R 0 = x then upd R 0 x else R
def needP (R : Nat → Int32) (P : List (Nat → Int32)) (x : Int32) : List (Nat → Int32) := if (nI 2 ≤ x ∧ x ≤ nI 4) ∧ ¬ R 0 = x then (R :: P).take 6 else P
def wisA (T R : Nat → Int32) (n : Nat) (v : Int32) : Int32 := if so T n = 0 ∧ (nI 0 ≤ v ∧ v ≤ nI 1) then (if R (20 + n) = v then (-2) else R (20 + n)) else (-1)
def wisR (T R : Nat → Int32) (n : Nat) (v : Int32) : Nat → Int32 := if (so T n = 0 ∧ (nI 0 ≤ v ∧ v ≤ nI 1)) ∧ ¬ R (20 + n) = v then upd R (20 + n) v else R
def wisP (T R : Nat → Int32) (P : List (Nat → Int32)) (n : Nat) (v : Int32) : List (Nat → Int32) := if (so T n = 0 ∧ (nI 0 ≤ v ∧ v ≤ nI 1)) ∧ ¬ R (20 + n) = v then (R :: P).take 6 else P
def tkI (T R : Nat → Int32) : Nat → Nat → Int32
  | 0 => R
  | n + 1 => tkR T (tkI T R n)
def ticA (T R : Nat → Int32) (n : Nat) : Int32 := if R 1 + nI n ≤ nI 999 then tkI T R n 2 - R 2 else (-2)
def ticR (T R : Nat → Int32) (n : Nat) : Nat → Int32 := if R 1 + nI n ≤ nI 999 then tkI T R n else R
def ticP (R : Nat → Int32) (P : List (Nat → Int32)) (n : Nat) : List (Nat → Int32) := if R 1 + nI n ≤ nI 999 then (R :: P).take 6 else P
def nodN (T R : Nat → Int32) (n j : Nat) : Int32 := match j with
  | 0 => nI (so T n)
  | 1 => if so T n ≤ 1 then nI (ck T n) else (-9)
  | 2 => if 0 < hmF (so T n) then nI (pt T n 0) else (-9)
  | 3 => if 1 < hmF (so T n) then nI (pt T n 1) else (-9)
  | 4 => if 2 < hmF (so T n) then nI (pt T n 2) else (-9)
  | 5 => srcF T (lvF T n)
  | 6 => lvF T n
  | 7 => vlF T R n
  | _ => (-1)
def regN (T : Nat → Int32) (nd n j : Nat) : Int32 := if so T n = 1 then (match j with
  | 0 => frF T n
  | 1 => nI (dpF T n)
  | _ => oI (kdO T nd n)) else (-1)
def cxB (T : Nat → Int32) (n : Nat) : Bool := decide (so T n = 1) && !(decide (frF T n = 0))
def crN (T : Nat → Int32) (k : Int32) : Nat → Nat → Nat → Int32
  | 0, _, m => if k < 0 then nI m else (-9)
  | d + 1, n, m => if cxB T n = true then (if nI m = k then nI n else crN T k d (n + 1) (m + 1)) else crN T k d (n + 1) m
def crF (T : Nat → Int32) (k : Int32) : Int32 := if (-1) ≤ k then crN T k (nN T) 0 0 else (-1)
def knN (T : Nat → Int32) (nd j : Nat) : Nat → Nat
  | 0 => 0
  | n + 1 => knN T nd j n + (if kaO T nd n = some j then 1 else 0)
def jnA (T : Nat → Int32) (k w : Int32) : Int32 := if k < (-1) then (-1) else if nI 0 ≤ w ∧ w ≤ (if (0 : Int32) ≤ k then nI 2 else nI 0) then joinF T k w else (-1)
def hvN : Nat → UInt32
  | 0 => FP.fconst1
  | d + 1 => FP.fmul (hvN d) 1056964608
def wtF (T : Nat → Int32) (n kd : Nat) : UInt32 := match kd with
  | 0 => hvN (dpF T n)
  | 1 => 1061158912
  | 2 => 1040187392
  | _ => 1069547520
def rkN (T : Nat → Int32) (nd : Nat) : Nat → UInt32
  | 0 => FP.fconst0
  | n + 1 => match kaO T nd n with
    | none => rkN T nd n
    | some kd => FP.fadd (rkN T nd n) (FP.fdiv (wtF T n kd) (FP.i2f (nI (pe T (ck T n)))))
def rkF (T : Nat → Int32) (nd : Nat) : Int32 := FP.f2i (FP.fmul 1176256512 (rkN T nd (nN T)))
def whN (T : Nat → Int32) (n : Nat) (v : Int32) : Nat → Nat → (Nat → Int32) → Int32
  | 0, _, _ => (-9)
  | d + 1, k, R => if vlF T R n = v then nI k else whN T n v d (k + 1) (tkR T R)
def cntN (T R : Nat → Int32) (pl t j : Nat) : Int32 := match j with
  | 0 => nI (nN T)
  | 1 => nI (nK T)
  | 2 => R 0
  | 3 => R 1
  | 4 => R 2
  | 5 => R 3
  | 6 => nI t
  | 7 => nI pl
  | _ => (-1)
theorem kdO_none {T : Nat → Int32} {nd n : Nat} : kdO T nd n = none ↔ frF T n = 0 := by
  unfold kdO
  constructor
  · intro h
    by_cases c : frF T n = 0
    · exact c
    · rw [if_neg c] at h
      split at h <;> split at h <;> cases h
  · intro h; rw [if_pos h]
theorem kaO_cx {T : Nat → Int32} {nd n : Nat} : kaO T nd n = none ↔ ¬ cxB T n = true := by
  unfold kaO cxB
  by_cases h : so T n = 1
  · rw [if_pos h, kdO_none]; simp [h]
  · rw [if_neg h]; simp [h]
theorem le8 {j : Nat} (h : j < 8) : j = 0 ∨ j = 1 ∨ j = 2 ∨ j = 3 ∨ j = 4 ∨ j = 5 ∨ j = 6 ∨ j = 7 := by omega
