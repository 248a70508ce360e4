/-! held: the class's way is the reference's -/
theorem bx_inj : ∀ a, a < 3 → ∀ b, b < 3 → bx a = bx b → a = b := by decide +kernel
theorem src_bx {T : Nat → Int32} (hW : WF T) {p : Nat} (hp : p < nN T) : srcF T (bx p) = bx (ck T p) := by
  have h16 := hW.n16
  have key : ∀ i, i < nN T → bt (bx p) i = true → i = p := fun i hi h => by
    rw [b_bx (by omega) (by omega)] at h; exact of_decide_eq_true h
  refine (src_one hW (hW.ck2 hp)).mpr ⟨otB_iff.mpr (fun i j hi hj a b => by rw [key i hi a, key j hj b]), ?_⟩
  cases ho : otO T (bx p) (nN T) with
  | none => exact absurd (by rw [b_bx (by omega) (by omega)]; simp) (otO_none.mp ho p hp)
  | some c =>
    obtain ⟨j, g1, g2, g3⟩ := otO_bit ho
    rw [key j g1 g2] at g3
    rw [g3]
def hit (T : Nat → Int32) (nd n : Nat) (fc b : Int32) (r : Nat) : Bool := bt b r && decide (so T r ≤ 1 ∧ ck T r = ck T n) && csB T nd r && decide (srcF T (frF T r) = fc)
def hitN (T : Nat → Int32) (nd n : Nat) (fc b : Int32) : Nat → Bool
  | 0 => false
  | k + 1 => hitN T nd n fc b k || hit T nd n fc b k
theorem hitN_iff {T : Nat → Int32} {nd n : Nat} {fc b : Int32} : ∀ {k : Nat}, hitN T nd n fc b k = true ↔ ∃ r, r < k ∧ hit T nd n fc b r = true
  | 0 => by simp [hitN]
  | k + 1 => by
    simp only [hitN]
    rw [Bool.or_eq_true, hitN_iff]
    constructor
    · rintro (⟨r, h1, h2⟩ | h)
      · exact ⟨r, by omega, h2⟩
      · exact ⟨k, by omega, h⟩
    · rintro ⟨r, h1, h2⟩
      by_cases e : r = k
      · right; rw [← e]; exact h2
      · left; exact ⟨r, by omega, h2⟩
theorem hbB_iff {T : Nat → Int32} {nd n : Nat} {b : Int32} {ot : Option Nat} : ∀ {k : Nat}, hbB T nd n b ot k = true ↔ ∃ q, q < k ∧ bt b q = true ∧ so T q = 1 ∧ ck T q = ck T n ∧ safF T nd q = true ∧ ot = some (ck T (pt T q 0))
  | 0 => by simp [hbB]
  | k + 1 => by
    simp only [hbB]
    rw [Bool.or_eq_true, hbB_iff]
    simp only [Bool.and_eq_true, decide_eq_true_eq]
    constructor
    · rintro (⟨r, h1, h2⟩ | ⟨⟨⟨⟨a1, a2⟩, a3⟩, a4⟩, a5⟩)
      · exact ⟨r, by omega, h2⟩
      · exact ⟨k, by omega, a1, a2, a3, a4, a5⟩
    · rintro ⟨r, h1, h2⟩
      by_cases e : r = k
      · right; subst e; exact ⟨⟨⟨⟨h2.1, h2.2.1⟩, h2.2.2.1⟩, h2.2.2.2.1⟩, h2.2.2.2.2⟩
      · left; exact ⟨r, by omega, h2⟩
theorem held_iff {T : Nat → Int32} (hW : WF T) {nd n : Nat} (hn : n < nN T) (h1 : so T n = 1) {j : Nat} (hj : j < 8) (hs : srcF T (frF T n) = nI j) :
    heldF T nd n = true ↔ so T (pt T n 0) = 5 ∧ bcT j = 1 ∧ srcF T (lvF T (pt T (pt T n 0) 0)) = bx (ck T n) ∧ hitN T nd n (srcF T (frF T n)) (bkF T (ck T n) (pt T (pt T n 0) 0)) (nN T) = true := by
  unfold heldF
  simp only [Bool.and_eq_true, decide_eq_true_eq]
  rw [hbB_iff, hitN_iff]
  constructor
  · rintro ⟨⟨⟨a1, a2⟩, ⟨q, b1, b2, b3, b4, b5, b6⟩⟩, a4⟩
    have hp := hW.ptlt b1 (show 0 < hmF (so T q) by rw [b3]; decide)
    have hck := hW.ck2 (n := pt T q 0) (by omega)
    have hsrc := (src_one hW hck).mpr ⟨a4, b6⟩
    unfold safF at b5
    simp only [Bool.and_eq_true, decide_eq_true_eq] at b5
    refine ⟨a1, (bc_one j hj).mpr ⟨_, hck, by rw [← hs]; exact hsrc⟩, a2, q, b1, ?_⟩
    unfold hit csB cdB
    simp only [Bool.and_eq_true, decide_eq_true_eq]
    refine ⟨⟨⟨b2, by omega, b4⟩, ⟨b3, b5.1⟩, b5.2⟩, ?_⟩
    rw [dir_fr hW b1 b3 b5.1, src_bx hW (by omega), hsrc]
  · rintro ⟨a1, a2, a3, q, b1, b2⟩
    obtain ⟨c, c1, c2⟩ := (bc_one j hj).mp a2
    rw [← hs] at c2
    obtain ⟨d1, d2⟩ := (src_one hW c1).mp c2
    unfold hit csB cdB at b2
    simp only [Bool.and_eq_true, decide_eq_true_eq] at b2
    obtain ⟨⟨⟨e1, e2, e3⟩, ⟨e4, e5⟩, e6⟩, e7⟩ := b2
    have hp := hW.ptlt b1 (show 0 < hmF (so T q) by rw [e4]; decide)
    have hck := hW.ck2 (n := pt T q 0) (by omega)
    rw [dir_fr hW b1 e4 e5, src_bx hW (by omega), c2] at e7
    have := bx_inj _ (by omega) _ (by omega) e7
    refine ⟨⟨⟨a1, a3⟩, q, b1, e1, e4, e3, ?_, ?_⟩, d1⟩
    · unfold safF; simp only [Bool.and_eq_true, decide_eq_true_eq]; exact ⟨e5, e6⟩
    · rw [d2, this]
theorem ckc_iff {T : Nat → Int32} (hW : WF T) {r n : Nat} (hr : r < nN T) (hn : n < nN T) : (if so T r ≤ 1 then nI (ck T r) else (-9)) = nI (ck T n) ↔ so T r ≤ 1 ∧ ck T r = ck T n := by
  have a := hW.ck2 hr
  have b := hW.ck2 hn
  by_cases h : so T r ≤ 1
  · rw [if_pos h, nI_eq (by omega) (by omega)]; simp [h]
  · rw [if_neg h]
    constructor
    · intro q
      have := nI_pos' (n := ck T n) (by omega)
      rw [← q] at this
      exact absurd this (by decide)
    · rintro ⟨q, -⟩; exact absurd q h
