/-! an item, as the reference reads it: q the current token's place to be read from, f the fault -/
def mq (u : Nat → Nat) (t : Nat) (b : Bool) (s : Nat × Option Nat) : Nat × Option Nat := match s.2 with
  | some _ => s
  | none => if b = true then (tNx u t s.1, none) else (s.1, some (tPl u t s.1))
theorem mq_none {u : Nat → Nat} {t q : Nat} {b : Bool} : mq u t b (q, none) = if b = true then (tNx u t q, none) else (q, some (tPl u t q)) := rfl
theorem mq_some {u : Nat → Nat} {t q a : Nat} {b : Bool} : mq u t b (q, some a) = (q, some a) := rfl
/-- a number from lo up to below hi -/
def nq (u : Nat → Nat) (t lo hi : Nat) (s : Nat × Option Nat) : Nat × Option Nat := mq u t (decide (tTk u t s.1 = 1 ∧ lo ≤ tVl u t s.1 ∧ tVl u t s.1 < hi)) s
theorem mq_le {u : Nat → Nat} {t : Nat} {b : Bool} {s : Nat × Option Nat} (h : s.1 ≤ t) : (mq u t b s).1 ≤ t := by
  obtain ⟨q, f⟩ := s
  cases f with
  | some a => exact h
  | none =>
    rw [mq_none]
    split
    · exact (tNx_b u h).2.1
    · exact h
theorem mq_f {u : Nat → Nat} {t : Nat} {b : Bool} {s : Nat × Option Nat} (h : s.1 ≤ t) (hf : ∀ a, s.2 = some a → a ≤ t) : ∀ a, (mq u t b s).2 = some a → a ≤ t := by
  obtain ⟨q, f⟩ := s
  cases f with
  | some a => exact hf
  | none =>
    rw [mq_none]
    split
    · intro a ha; cases ha
    · intro a ha; cases ha; exact (tPl_b u h).2
def soO (c : Nat) : Option Nat := if c = 105 then some 0 else if c = 114 then some 1 else if c = 97 then some 2 else if c = 111 then some 3 else if c = 120 then some 4 else if c = 109 then some 5 else none
def rmB (D : Nat → Int32) (c : Nat) : Bool := decide ((soO c ≠ none ∧ nN D < 16) ∨ ((c = 103 ∨ c = 101) ∧ nK D < 6) ∨ c = 112)
abbrev pS : Type := (Nat → Int32) × (Nat × Option Nat)
def rnC (u : Nat → Nat) (t n s : Nat) (z : pS) : pS := if s ≤ 1 then (upd z.1 (16 + n) (nI (tVl u t z.2.1)), nq u t 0 3 z.2) else z
def rnL (u : Nat → Nat) (t n : Nat) (z : pS) : Nat → pS
  | 0 => z
  | k + 1 => (upd (rnL u t n z k).1 (32 + 3 * n + k) (nI (tVl u t (rnL u t n z k).2.1)), nq u t 0 n (rnL u t n z k).2)
def rnF (u : Nat → Nat) (t s : Nat) (z : pS) : pS := ((upd (rnL u t (nN z.1) (rnC u t (nN z.1) s (upd z.1 (nN z.1) (nI s), z.2)) (hmF s)).1 95 (nI (nN z.1 + 1))), (rnL u t (nN z.1) (rnC u t (nN z.1) s (upd z.1 (nN z.1) (nI s), z.2)) (hmF s)).2)
def lfB (D : Nat → Int32) (u : Nat → Nat) (t q : Nat) : Bool := decide (tTk u t q = 1 ∧ tVl u t q < nN D ∧ so D (tVl u t q) ≤ 1)
def rmF (u : Nat → Nat) (t : Nat) (z : pS) : pS :=
  (upd (upd (upd z.1 (80 + 2 * nK z.1) (nI (tVl u t z.2.1))) (80 + 2 * nK z.1 + 1) (nI (tVl u t (mq u t (lfB z.1 u t z.2.1) z.2).1))) 96 (nI (nK z.1 + 1)),
   mq u t (lfB z.1 u t (mq u t (lfB z.1 u t z.2.1) z.2).1 && !(decide (tVl u t (mq u t (lfB z.1 u t z.2.1) z.2).1 = tVl u t z.2.1))) (mq u t (lfB z.1 u t z.2.1) z.2))
def rpF (u : Nat → Nat) (t : Nat) (z : pS) : pS :=
  (upd z.1 (92 + (if (nq u t 1 10 (nq u t 0 3 z.2)).2 = none then tVl u t z.2.1 else 0)) (nI (tVl u t (nq u t 0 3 z.2).1)), nq u t 1 10 (nq u t 0 3 z.2))
def riB (u : Nat → Nat) (t c : Nat) (z : pS) : pS := match soO c with
  | some s => rnF u t s z
  | none => if c = 103 ∨ c = 101 then rmF u t z else rpF u t z
def scq (u : Nat → Nat) (t : Nat) (s : Nat × Option Nat) : Nat × Option Nat := mq u t (decide (tTk u t s.1 = 59)) s
/-- one item -/
def itR (u : Nat → Nat) (t : Nat) (D : Nat → Int32) (q : Nat) : pS :=
  if rmB D (tTk u t q) = true then ((riB u t (tTk u t q) (D, (tNx u t q, none))).1, scq u t (riB u t (tTk u t q) (D, (tNx u t q, none))).2) else (D, (q, some (tPl u t q)))
/-- the reference's memory while it reads -/
def PS (M0 M : vM) (tx : Nat → Int32) (t : Nat) (z : pS) : Prop :=
  (∀ i, i ≠ 60 → i ≠ 62 → M i = M0 i) ∧ (∀ j, (j < 12 ∨ 16 < j) → M 60 j = M0 60 j) ∧ TK M (uF tx) t z.2.1 ∧ M 60 16 = oI z.2.2 ∧ M 62 = z.1 ∧ z.2.1 ≤ t ∧ ∀ a, z.2.2 = some a → a ≤ t
theorem PS_D {M0 M : vM} {tx : Nat → Int32} {t : Nat} {z : pS} (h : PS M0 M tx t z) {a : Nat} {x : Int32} : PS M0 (mup M 62 a x) tx t (upd z.1 a x, z.2) := by
  obtain ⟨h1, h2, ⟨k1, k2, k3, k4⟩, h4, h5, h6, h7⟩ := h
  refine ⟨fun i a1 a2 => (mup_ne a2).trans (h1 i a1 a2), fun j hj => ?_, ⟨?_, ?_, ?_, ?_⟩, ?_, ?_, h6, h7⟩
  · rw [mup_ne (by decide)]; exact h2 j hj
  · rw [mup_ne (by decide)]; exact k1
  · rw [mup_ne (by decide)]; exact k2
  · rw [mup_ne (by decide)]; exact k3
  · rw [mup_ne (by decide)]; exact k4
  · rw [mup_ne (by decide)]; exact h4
  · rw [mup_eq, h5]
theorem PS_x {M0 M : vM} {tx : Nat → Int32} {t : Nat} {z : pS} (h : PS M0 M tx t z) (hx : xR M0 tx t) : xR M tx t := xR_c hx (h.2.1 11 (by decide)) (h.1 70 (by decide) (by decide))
theorem PS_nz {M0 M M1 : vM} {tx : Nat → Int32} {t q1 : Nat} {z : pS} (h : PS M0 M tx t z) (hn : nz M M1) (hk : TK M1 (uF tx) t q1) (hq : q1 ≤ t) : PS M0 M1 tx t (z.1, (q1, z.2.2)) := by
  obtain ⟨h1, h2, h3, h4, h5, h6, h7⟩ := h
  exact ⟨fun i a b => (hn.1 i a).trans (h1 i a b), fun j hj => (hn.2 j (by omega)).trans (h2 j hj), hk, (hn.2 16 (by decide)).trans h4, (hn.1 62 (by decide)).trans h5, hq, h7⟩
