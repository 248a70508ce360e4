/-! values and ticks -/
def anF (a b : Int32) : Int32 := if a = 0 ∨ b = 0 then nI 0 else if a = nI 2 ∨ b = nI 2 then nI 2 else nI 1
def orF (a b : Int32) : Int32 := if a = nI 1 ∨ b = nI 1 then nI 1 else if a = nI 2 ∨ b = nI 2 then nI 2 else nI 0
def xoF (a b : Int32) : Int32 := if a = nI 2 ∨ b = nI 2 then nI 2 else a ^^^ b
def chF (s a b : Int32) : Int32 := if s = 0 then a else if s = nI 1 then b else if a = b then a else nI 2
def gtF (T f : Nat → Int32) (n : Nat) : Int32 :=
  if so T n = 2 then anF (f (pt T n 0)) (f (pt T n 1)) else if so T n = 3 then orF (f (pt T n 0)) (f (pt T n 1)) else if so T n = 4 then xoF (f (pt T n 0)) (f (pt T n 1)) else chF (f (pt T n 0)) (f (pt T n 1)) (f (pt T n 2))
def vlS (T R f : Nat → Int32) (n : Nat) : Int32 := if so T n ≤ 1 then R (4 + n) else gtF T f n
def vlT (T R : Nat → Int32) : Nat → Nat → Int32
  | 0 => fun _ => 0
  | n + 1 => upd (vlT T R n) n (vlS T R (vlT T R n) n)
def vlF (T R : Nat → Int32) (n : Nat) : Int32 := vlS T R (vlT T R n) n
theorem vlT_lt {T R : Nat → Int32} {n j : Nat} (h : j < n) : vlT T R n j = vlF T R j := by
  induction n with
  | zero => omega
  | succ n ih =>
    by_cases hj : j = n
    · subst hj; simp [vlT, upd, vlF]
    · have h1 : j < n := by omega
      simp only [vlT, upd, if_neg hj]
      exact ih h1
theorem hm_gate {s : Nat} (h : ¬ s ≤ 1) : 2 ≤ hmF s := by unfold hmF; rw [if_neg (by omega), if_neg (by omega)]; split <;> omega
theorem hm_ch {s : Nat} (h : s = 5) : hmF s = 3 := by subst h; rfl
theorem gtF_c {T f g : Nat → Int32} (hW : WF T) {n : Nat} (hn : n < nN T) (hl : ¬ so T n ≤ 1) (h : ∀ j, j < n → f j = g j) : gtF T f n = gtF T g n := by
  have h2 := hm_gate hl
  have e0 := h _ (hW.ptlt hn (show 0 < hmF (so T n) by omega))
  have e1 := h _ (hW.ptlt hn (show 1 < hmF (so T n) by omega))
  unfold gtF
  by_cases c2 : so T n = 2
  · rw [if_pos c2, if_pos c2, e0, e1]
  · rw [if_neg c2, if_neg c2]
    by_cases c3 : so T n = 3
    · rw [if_pos c3, if_pos c3, e0, e1]
    · rw [if_neg c3, if_neg c3]
      by_cases c4 : so T n = 4
      · rw [if_pos c4, if_pos c4, e0, e1]
      · rw [if_neg c4, if_neg c4]
        have h5 := hW.so5 hn
        have hm := hm_ch (show so T n = 5 by omega)
        rw [e0, e1, h _ (hW.ptlt hn (show 2 < hmF (so T n) by omega))]
theorem vlF_eq {T R : Nat → Int32} (hW : WF T) {n : Nat} (hn : n < nN T) : vlF T R n = if so T n ≤ 1 then R (4 + n) else gtF T (vlF T R) n := by
  unfold vlF vlS
  split
  · rfl
  · exact gtF_c hW hn (by assumption) (fun j hj => vlT_lt hj)
def stF (T f : Nat → Int32) (n : Nat) : Bool := decide (so T (pt T n 0) = 1) && decide (ck T (pt T n 0) = ck T n) && dirF T (pt T n 0) && decide (f (pt T n 0) = nI 2)
def tkF (T f : Nat → Int32) (n : Nat) : Int32 := if stF T f n = true then (if f (pt T (pt T n 0) 0) = nI 2 then nI 0 else f (pt T (pt T n 0) 0)) else f (pt T n 0)
def itF (T f R : Nat → Int32) (oth : Int32) (n : Nat) : Int32 := if so T n = 0 then R (20 + n) else if frF T n &&& oth = 0 then tkF T f n else nI 2
def tkW (T f R : Nat → Int32) (oth : Int32) (n : Nat) : Nat → Int32 := if so T n = 1 then (if frF T n &&& oth = 0 then (if f (pt T n 0) = nI 2 ∧ stF T f n = false then upd R 3 (R 3 + nI 1) else R) else upd R 2 (R 2 + nI 1)) else R
def rmZ (tm : Int32) (p : Nat) : Int32 := tm - tm / nI p * nI p
def tkS (T f : Nat → Int32) (tm : Int32) (n : Nat) (s : (Nat → Int32) × Int32) : (Nat → Int32) × Int32 :=
  if so T n ≤ 1 ∧ rmZ tm (pe T (ck T n)) = 0 then (upd (tkW T f s.1 s.2 n) (4 + n) (itF T f s.1 s.2 n), s.2 ||| (if itF T f s.1 s.2 n = f n then nI 0 else bx n)) else s
def tkL (T f : Nat → Int32) (tm : Int32) (s : (Nat → Int32) × Int32) : Nat → (Nat → Int32) × Int32
  | 0 => s
  | n + 1 => tkS T f tm n (tkL T f tm s n)
/-- one tick of a row of the reference -/
def tkR (T R : Nat → Int32) : Nat → Int32 := (tkL T (vlF T R) (R 1 + nI 1) (upd R 1 (R 1 + nI 1), nI 0) (nN T)).1
theorem tkW_1 {T f R : Nat → Int32} {oth : Int32} {n : Nat} : tkW T f R oth n 1 = R 1 := by
  unfold tkW; split
  · split
    · split <;> simp [upd]
    · simp [upd]
  · rfl
theorem tkL_1 {T f : Nat → Int32} {tm : Int32} {s : (Nat → Int32) × Int32} (n : Nat) : (tkL T f tm s n).1 1 = s.1 1 := by
  induction n with
  | zero => rfl
  | succ n ih =>
    simp only [tkL, tkS]
    split
    · simp only [upd]; rw [if_neg (by omega), tkW_1, ih]
    · exact ih
/-- the memory in a tick of the row q -/
def tI (M0 M : vM) (q : Nat) (R : Nat → Int32) : Prop := (∀ i, i ≠ 68 → i ≠ q → M i = M0 i) ∧ M q = R
theorem tI_sc {M0 M M1 : vM} {q : Nat} {R : Nat → Int32} (hq : q = 63 ∨ q = 64) (h : tI M0 M q R) (hs : sc M M1) : tI M0 M1 q R := ⟨fun i h1 h2 => (hs i h1).trans (h.1 i h1 h2), (hs q (by omega)).trans h.2⟩
theorem tI_T {M0 M : vM} {q : Nat} {R T : Nat → Int32} (hq : q = 63 ∨ q = 64) (h : tI M0 M q R) (hM : M0 61 = T) : M 61 = T := (h.1 61 (by decide) (by omega)).trans hM
theorem tI_f {M0 M : vM} {q N : Nat} {R f : Nat → Int32} (hq : q = 63 ∨ q = 64) (h : tI M0 M q R) (hf : ∀ j, j < N → M0 69 j = f j) : ∀ j, j < N → M 69 j = f j := fun j hj => (congrFun (h.1 69 (by decide) (by omega)) j).trans (hf j hj)
theorem tI_up {M0 M : vM} {q a : Nat} {R : Nat → Int32} {y : Int32} (h : tI M0 M q R) : tI M0 (mup M q a y) q (upd R a y) := ⟨fun i h1 h2 => (mup_ne h2).trans (h.1 i h1 h2), by rw [mup_eq, h.2]⟩
theorem ar_q {q : Nat} (hq : q = 63 ∨ q = 64) : AR 10 q 36 := by rcases hq with rfl | rfl <;> exact ⟨by decide, rfl, rfl⟩
