/-! rows on bits, shifts and unsigned numbers, to paste: each family out of a closed proof of our own, whole with what it rests on; each by itself clean at Lean in its own claim (generation 39, form 5). Take a family whole -/
/-! ===== Int32 by its bits: bt x i ===== -/
def bt (x : Int32) (i : Nat) : Bool := x.toBitVec.getLsbD i
theorem b_ext {x y : Int32} (h : ∀ i, i < 32 → bt x i = bt y i) : x = y := Int32.toBitVec_inj.mp (BitVec.eq_of_getLsbD_eq (fun i hi => h i hi))
theorem b_or (x y : Int32) (i : Nat) : bt (x ||| y) i = (bt x i || bt y i) := by unfold bt; rw [Int32.toBitVec_or, BitVec.getLsbD_or]
theorem b_and (x y : Int32) (i : Nat) : bt (x &&& y) i = (bt x i && bt y i) := by unfold bt; rw [Int32.toBitVec_and, BitVec.getLsbD_and]
theorem b_xor (x y : Int32) (i : Nat) : bt (x ^^^ y) i = (bt x i ^^ bt y i) := by unfold bt; rw [Int32.toBitVec_xor, BitVec.getLsbD_xor]
theorem b_big {x : Int32} {i : Nat} (h : 32 ≤ i) : bt x i = false := BitVec.getLsbD_of_ge _ _ h
theorem b_255 (i : Nat) : bt 255 i = decide (i < 8) := by
  rcases Nat.lt_or_ge i 32 with h | h
  · exact (by decide +kernel : ∀ i, i < 32 → bt 255 i = decide (i < 8)) i h
  · rw [b_big h, decide_eq_false (by omega)]
theorem b_65535 (i : Nat) : bt 65535 i = decide (i < 16) := by
  rcases Nat.lt_or_ge i 32 with h | h
  · exact (by decide +kernel : ∀ i, i < 32 → bt 65535 i = decide (i < 16)) i h
  · rw [b_big h, decide_eq_false (by omega)]
theorem b_m1 : ∀ i, i < 32 → bt (-1) i = true := by decide +kernel
theorem b_0 (i : Nat) : bt 0 i = false := BitVec.getLsbD_zero
theorem s_l : ∀ n, n < 32 → ((nI n &&& 31).toBitVec.smod 32).toNat = n := by decide +kernel
theorem s_u : ∀ n, n < 32 → (((nI n).toUInt32 &&& Int32.toUInt32 31).toBitVec % 32).toNat = n := by decide +kernel
theorem b_shl (n : Nat) (hn : n < 32) (x : Int32) {i : Nat} (hi : i < 32) : bt (x <<< (nI n &&& 31)) i = (decide (n ≤ i) && bt x (i - n)) := by
  unfold bt
  rw [Int32.toBitVec_shiftLeft]
  show (x.toBitVec <<< ((nI n &&& 31).toBitVec.smod 32).toNat).getLsbD i = _
  rw [s_l n hn, BitVec.getLsbD_shiftLeft]
  rcases Nat.lt_or_ge i n with h | h
  · simp [h, Nat.not_le.mpr h]
  · simp [hi, h, Nat.not_lt.mpr h]
theorem b_ushr (n : Nat) (hn : n < 32) (x : Int32) (i : Nat) : bt ((x.toUInt32 >>> ((nI n).toUInt32 &&& Int32.toUInt32 31)).toInt32) i = bt x (n + i) := by
  show (x.toUInt32 >>> ((nI n).toUInt32 &&& Int32.toUInt32 31)).toBitVec.getLsbD i = x.toUInt32.toBitVec.getLsbD (n + i)
  rw [UInt32.toBitVec_shiftRight]
  show (x.toUInt32.toBitVec >>> (((nI n).toUInt32 &&& Int32.toUInt32 31).toBitVec % 32).toNat).getLsbD i = _
  rw [s_u n hn, BitVec.getLsbD_ushiftRight]
theorem b_sshr (n : Nat) (hn : n < 32) (x : Int32) {i : Nat} (hi : i < 32) : bt (x >>> (nI n &&& 31)) i = if n + i < 32 then bt x (n + i) else bt x 31 := by
  unfold bt
  rw [Int32.toBitVec_shiftRight]
  show (x.toBitVec.sshiftRight ((nI n &&& 31).toBitVec.smod 32).toNat).getLsbD i = _
  rw [s_l n hn, BitVec.getLsbD_sshiftRight, BitVec.msb_eq_getLsbD_last]
  simp [hi]
/-! bits of an int as sets -/
def bx (n : Nat) : Int32 := nI 1 <<< (nI n &&& 31)
theorem bt_1 : ∀ i, i < 32 → bt (nI 1) i = decide (i = 0) := by decide +kernel
theorem b_bx {n i : Nat} (hn : n < 32) (hi : i < 32) : bt (bx n) i = decide (i = n) := by
  unfold bx
  rw [b_shl n hn _ hi, bt_1 _ (by omega)]
  by_cases h : i = n
  · subst h; simp
  · have : ¬ (n ≤ i ∧ i - n = 0) := by omega
    simp only [h, decide_false]
    by_cases h1 : n ≤ i
    · have : ¬ i - n = 0 := by omega
      simp [this]
    · simp [h1]
theorem sh_bit (x : Int32) {n : Nat} (hn : n < 32) : x >>> (nI n &&& 31) &&& nI 1 = if bt x n = true then nI 1 else nI 0 := by
  apply b_ext
  intro i hi
  rw [b_and, b_sshr n hn _ hi, bt_1 i hi]
  by_cases h0 : i = 0
  · subst h0
    rw [Nat.add_zero, if_pos hn]
    cases h : bt x n
    · rw [if_neg (by decide)]; rfl
    · rw [if_pos rfl, bt_1 0 (by omega)]; rfl
  · have e1 : bt (nI 1) i = false := by rw [bt_1 i hi]; simp [h0]
    have e0 : bt (nI 0) i = false := b_0 i
    simp only [h0, decide_false, Bool.and_false]
    by_cases h : bt x n = true
    · rw [if_pos h, e1]
    · rw [if_neg h, e0]
theorem sh_one (x : Int32) {n : Nat} (hn : n < 32) : (x >>> (nI n &&& 31) &&& nI 1 = nI 1) ↔ bt x n = true := by
  rw [sh_bit x hn]
  by_cases h : bt x n = true
  · rw [if_pos h]; simp [h]
  · rw [if_neg h]; constructor
    · intro q; exact absurd q (by decide)
    · intro q; exact absurd q h
theorem sh_non (x : Int32) {n : Nat} (hn : n < 32) : (¬ x >>> (nI n &&& 31) &&& nI 1 = 0) ↔ bt x n = true := by
  rw [sh_bit x hn]
  by_cases h : bt x n = true
  · rw [if_pos h]; simp only [h, iff_true]; decide
  · rw [if_neg h]; constructor
    · intro q; exact absurd rfl q
    · intro q; exact absurd q h
theorem b_not (x : Int32) {i : Nat} (hi : i < 32) : bt (x ^^^ (-1)) i = !(bt x i) := by
  rw [b_xor, b_m1 i hi]; cases bt x i <;> rfl
theorem b_ne0 {x : Int32} : ¬ x = 0 ↔ ∃ i, i < 32 ∧ bt x i = true := by
  constructor
  · intro h
    by_cases q : ∃ i, i < 32 ∧ bt x i = true
    · exact q
    · exfalso; apply h
      apply b_ext
      intro i hi
      rw [b_0]
      cases e : bt x i
      · rfl
      · exact absurd ⟨i, hi, e⟩ q
  · rintro ⟨i, -, hi⟩ e
    rw [e, b_0] at hi
    cases hi
/-! the told row of the reference, read as numbers -/
def tN (T : Nat → Int32) (i : Nat) : Nat := (T i).toNatClampNeg
def nN (T : Nat → Int32) : Nat := tN T 95
def nK (T : Nat → Int32) : Nat := tN T 96
def so (T : Nat → Int32) (n : Nat) : Nat := tN T n
def ck (T : Nat → Int32) (n : Nat) : Nat := tN T (16 + n)
def pt (T : Nat → Int32) (n k : Nat) : Nat := tN T (32 + 3 * n + k)
def pe (T : Nat → Int32) (c : Nat) : Nat := tN T (92 + c)
def mk (T : Nat → Int32) (i : Nat) : Nat := tN T (80 + i)
def hmF (s : Nat) : Nat := if s = 0 then 0 else if s = 1 then 1 else if s = 5 then 3 else 2
def WF (T : Nat → Int32) : Prop :=
  (T 95 = nI (nN T) ∧ nN T ≤ 16) ∧ (T 96 = nI (nK T) ∧ nK T ≤ 6) ∧
  (∀ n, n < nN T → T n = nI (so T n) ∧ so T n ≤ 5) ∧
  (∀ n, n < nN T → T (16 + n) = nI (ck T n) ∧ ck T n ≤ 2) ∧
  (∀ n, n < nN T → ∀ k, k < hmF (so T n) → T (32 + 3 * n + k) = nI (pt T n k) ∧ pt T n k < n) ∧
  (∀ i, i < 2 * nK T → T (80 + i) = nI (mk T i) ∧ mk T i < nN T ∧ so T (mk T i) ≤ 1) ∧
  (∀ i, i < nK T → mk T (2 * i) ≠ mk T (2 * i + 1)) ∧
  (∀ c, c < 3 → T (92 + c) = nI (pe T c) ∧ 1 ≤ pe T c ∧ pe T c ≤ 9)
theorem hmF_le (s : Nat) : hmF s ≤ 3 := by unfold hmF; split <;> (try split) <;> (try split) <;> omega
theorem hm_reg {s : Nat} (h : s = 1) : hmF s = 1 := by subst h; rfl
section WFs
variable {T : Nat → Int32} (hW : WF T)
theorem WF.n16 (hW : WF T) : nN T ≤ 16 := hW.1.2
theorem WF.so5 (hW : WF T) {n : Nat} (h : n < nN T) : so T n ≤ 5 := (hW.2.2.1 n h).2
theorem WF.ck2 (hW : WF T) {n : Nat} (h : n < nN T) : ck T n ≤ 2 := (hW.2.2.2.1 n h).2
theorem WF.ptlt (hW : WF T) {n k : Nat} (h : n < nN T) (hk : k < hmF (so T n)) : pt T n k < n := (hW.2.2.2.2.1 n h k hk).2
end WFs
/-- rows that a reading method of the reference may change: leaves -/
def sc (M0 M : vM) : Prop := ∀ i, i ≠ 68 → M i = M0 i
theorem sc_rf (M : vM) : sc M M := fun _ _ => rfl
theorem sc_tr {A B C : vM} (h : sc A B) (g : sc B C) : sc A C := fun i hi => (g i hi).trans (h i hi)
theorem sc_up {M0 M : vM} (h : sc M0 M) {b : Nat} {x : Int32} : sc M0 (mup M 68 b x) := fun i hi => (mup_ne hi).trans (h i hi)
def rs (x : Value) (M0 : vM) : Option Value → vM → Prop := fun v M' => v = some x ∧ sc M0 M'
