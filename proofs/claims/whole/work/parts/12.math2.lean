/-! the reference: leaves, sources, foreign, depth -/
def isN (T : Nat → Int32) (x : Int32) : Prop := nI 0 ≤ x ∧ x < nI (nN T)
theorem isN_nI {T : Nat → Int32} {x : Int32} (h16 : nN T ≤ 16) : isN T x ↔ ∃ n, n < nN T ∧ x = nI n := by
  constructor
  · rintro ⟨h1, h2⟩
    obtain ⟨j, hj, rfl⟩ := nI_of (show ¬ x < 0 from Int32.not_lt.mpr h1)
    exact ⟨j, (nI_ltI hj (by omega)).mp h2, rfl⟩
  · rintro ⟨n, hn, rfl⟩
    exact ⟨(nI_leI (by omega) (by omega)).mpr (by omega), (nI_ltI (by omega) (by omega)).mpr hn⟩
def oI : Option Nat → Int32
  | none => (-9)
  | some n => nI n
def ofN (T : Nat → Int32) (n r : Nat) : Nat → Nat
  | 0 => 0
  | k + 1 => ofN T n r k + (if pt T n k = r then 1 else 0)
def oft (T : Nat → Int32) (n r : Nat) : Nat := ofN T n r (hmF (so T n))
def lvG (T f : Nat → Int32) (n : Nat) : Nat → Int32
  | 0 => nI 0
  | k + 1 => lvG T f n k ||| f (pt T n k)
def lvS (T f : Nat → Int32) (n : Nat) : Int32 := if so T n ≤ 1 then bx n else lvG T f n (hmF (so T n))
def lvT (T : Nat → Int32) : Nat → Nat → Int32
  | 0 => fun _ => 0
  | n + 1 => upd (lvT T n) n (lvS T (lvT T n) n)
def lvF (T : Nat → Int32) (n : Nat) : Int32 := lvS T (lvT T n) n
theorem lvT_lt {T : Nat → Int32} {n j : Nat} (h : j < n) : lvT T n j = lvF T j := by
  induction n with
  | zero => omega
  | succ n ih =>
    by_cases hj : j = n
    · subst hj; simp [lvT, upd, lvF]
    · have h1 : j < n := by omega
      simp only [lvT, upd, if_neg hj]
      exact ih h1
theorem lvG_c {T f g : Nat → Int32} {n : Nat} : ∀ {k : Nat}, (∀ j, j < k → f (pt T n j) = g (pt T n j)) → lvG T f n k = lvG T g n k
  | 0, _ => rfl
  | k + 1, h => by
    simp only [lvG]
    rw [lvG_c (fun j hj => h j (by omega)), h k (by omega)]
theorem lvF_eq {T : Nat → Int32} (hW : WF T) {n : Nat} (hn : n < nN T) : lvF T n = if so T n ≤ 1 then bx n else lvG T (lvF T) n (hmF (so T n)) := by
  unfold lvF lvS
  split
  · rfl
  · exact lvG_c (fun j hj => lvT_lt (hW.ptlt hn hj))
def srcN (T : Nat → Int32) (s : Int32) : Nat → Int32
  | 0 => nI 0
  | k + 1 => srcN T s k ||| (if bt s k = true then bx (ck T k) else nI 0)
def srcF (T : Nat → Int32) (s : Int32) : Int32 := srcN T s (nN T)
def frN (T : Nat → Int32) (r : Nat) (s : Int32) : Nat → Int32
  | 0 => s
  | k + 1 => frN T r s k &&& (if so T k ≤ 1 ∧ ck T k = ck T r then bx k ^^^ (-1) else (-1))
def frF (T : Nat → Int32) (r : Nat) : Int32 := frN T r (lvF T (pt T r 0)) (nN T)
def dirF (T : Nat → Int32) (r : Nat) : Bool := bt (frF T r) (pt T r 0)
def ooI (T : Nat → Int32) (r : Nat) : Nat → Option Nat
  | 0 => none
  | n + 1 => if 0 < oft T n r then some n else ooI T r n
def ooT (T : Nat → Int32) (r : Nat) : Nat → Nat
  | 0 => 0
  | n + 1 => ooT T r n + oft T n r
def ooO (T : Nat → Int32) (r : Nat) : Option Nat := if ooT T r (nN T) = 1 then ooI T r (nN T) else none
def dpN (T : Nat → Int32) (c : Nat) : Nat → Option Nat → Nat
  | 0, _ => 0
  | _ + 1, none => 0
  | f + 1, some n => if so T n = 1 ∧ ck T n = c then 1 + dpN T c f (ooO T n) else 0
def dpF (T : Nat → Int32) (r : Nat) : Nat := 1 + dpN T (ck T r) 16 (ooO T r)
def safF (T : Nat → Int32) (nd r : Nat) : Bool := dirF T r && decide (nd ≤ dpF T r)
theorem ofN_pos {T : Nat → Int32} {n r : Nat} : ∀ {k : Nat}, 0 < ofN T n r k → ∃ j, j < k ∧ pt T n j = r
  | 0, h => by simp [ofN] at h
  | k + 1, h => by
    by_cases e : pt T n k = r
    · exact ⟨k, by omega, e⟩
    · simp only [ofN, if_neg e, Nat.add_zero] at h
      obtain ⟨j, hj, h2⟩ := ofN_pos h
      exact ⟨j, by omega, h2⟩
theorem ofN_le {T : Nat → Int32} {n r : Nat} : ∀ k : Nat, ofN T n r k ≤ k
  | 0 => Nat.le_refl 0
  | k + 1 => by
    have := ofN_le (T := T) (n := n) (r := r) k
    simp only [ofN]
    split <;> omega
theorem oft_le {T : Nat → Int32} {n r : Nat} : oft T n r ≤ 3 := Nat.le_trans (ofN_le _) (hmF_le _)
theorem ooT_le {T : Nat → Int32} {r : Nat} : ∀ n : Nat, ooT T r n ≤ 3 * n
  | 0 => Nat.le_refl 0
  | n + 1 => by
    have := ooT_le (T := T) (r := r) n
    have := oft_le (T := T) (n := n) (r := r)
    simp only [ooT]
    omega
theorem ooI_lt {T : Nat → Int32} {r n : Nat} : ∀ {k : Nat}, ooI T r k = some n → n < k ∧ 0 < oft T n r
  | 0, h => by simp [ooI] at h
  | k + 1, h => by
    simp only [ooI] at h
    split at h
    · cases h; exact ⟨by omega, by assumption⟩
    · obtain ⟨h1, h2⟩ := ooI_lt h
      exact ⟨by omega, h2⟩
theorem ooO_lt {T : Nat → Int32} (hW : WF T) {r n : Nat} (h : ooO T r = some n) : n < nN T ∧ r < n := by
  unfold ooO at h
  split at h
  · obtain ⟨h1, h2⟩ := ooI_lt h
    obtain ⟨j, hj, e⟩ := ofN_pos h2
    have := hW.ptlt h1 hj
    exact ⟨h1, by omega⟩
  · cases h
theorem scT {M0 M : vM} {T : Nat → Int32} (hs : sc M0 M) (h : M0 61 = T) : M 61 = T := (hs 61 (by decide)).trans h
theorem isN_sub {T : Nat → Int32} {x : Int32} (hW : WF T) : (nI 0 ≤ x ∧ x ≤ nI (nN T) - nI 1) ↔ isN T x := by
  have h16 := hW.n16
  have e : (nI (nN T) - nI 1).toInt = (nN T : Int) - 1 := pk_sub_toInt (by omega) (by omega)
  unfold isN
  rw [Int32.le_iff_toInt_le (y := nI (nN T) - nI 1), Int32.lt_iff_toInt_lt (y := nI (nN T)), e, nI_toInt (by omega)]
  constructor
  · rintro ⟨h1, h2⟩; exact ⟨h1, by omega⟩
  · rintro ⟨h1, h2⟩; exact ⟨h1, by omega⟩
