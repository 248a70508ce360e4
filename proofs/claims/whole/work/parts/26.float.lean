/-! floats: what is added stays finite -/
theorem fl_and (r : UInt32) : (r &&& 0x7fffffff).toNat = r.toNat % 2 ^ 31 := by
  rw [UInt32.toNat_and]
  exact Nat.and_two_pow_sub_one_eq_mod r.toNat 31
theorem fl_ok {r : UInt32} {K : Nat} (h : r.toNat % 2 ^ 31 < K * 2 ^ 23) (hK : K ≤ 255) : vf_n32 r := by
  unfold vf_n32
  rw [UInt32.le_iff_toNat_le, fl_and]
  have : (0x7f800000 : UInt32).toNat = 255 * 2 ^ 23 := by decide
  rw [this]
  have := Nat.mul_le_mul_right (2 ^ 23) hK
  omega
def hvOK (d : Nat) : Bool := decide ((hvN d).toNat % 2 ^ 31 < 128 * 2 ^ 23)
theorem hv_ok : ∀ d, d < 18 → (hvN d).toNat % 2 ^ 31 < 128 * 2 ^ 23 := by decide +kernel
theorem hv_mul {d : Nat} (h : d < 17) : vf_n32 (FP.fmul (hvN d) 1056964608) := fl_ok (r := hvN (d + 1)) (hv_ok (d + 1) (by omega)) (by decide)
theorem dv_hv : ∀ d, d < 18 → ∀ p, p < 10 → 1 ≤ p → (FP.fdiv (hvN d) (FP.i2f (nI p))).toNat % 2 ^ 31 < 128 * 2 ^ 23 := by decide +kernel
theorem dv_c : ∀ p, p < 10 → 1 ≤ p → (FP.fdiv 1061158912 (FP.i2f (nI p))).toNat % 2 ^ 31 < 128 * 2 ^ 23 ∧ (FP.fdiv 1040187392 (FP.i2f (nI p))).toNat % 2 ^ 31 < 128 * 2 ^ 23 ∧ (FP.fdiv 1069547520 (FP.i2f (nI p))).toNat % 2 ^ 31 < 128 * 2 ^ 23 := by decide +kernel
theorem dv_ok (T : Nat → Int32) (n kd : Nat) {p : Nat} (hp : p < 10) (h1 : 1 ≤ p) : (FP.fdiv (wtF T n kd) (FP.i2f (nI p))).toNat % 2 ^ 31 < 128 * 2 ^ 23 := by
  unfold wtF
  have hd := dpF_le (T := T) (r := n)
  have hc := dv_c p hp h1
  split
  · exact dv_hv _ (by omega) p hp h1
  · exact hc.1
  · exact hc.2.1
  · exact hc.2.2
theorem rk_ok {T : Nat → Int32} (hW : WF T) {nd : Nat} : ∀ n, n ≤ nN T → (rkN T nd n).toNat % 2 ^ 31 < (128 + 2 * n) * 2 ^ 23
  | 0, _ => (by decide : FP.fconst0.toNat % 2 ^ 31 < (128 + 2 * 0) * 2 ^ 23)
  | n + 1, h => by
    have ih := rk_ok hW (nd := nd) n (by omega)
    have h16 := hW.n16
    simp only [rkN]
    split
    · exact Nat.lt_of_lt_of_le ih (Nat.mul_le_mul_right _ (by omega))
    · have hck := hW.ck2 (n := n) (by omega)
      have hpe := hW.2.2.2.2.2.2.2 (ck T n) (by omega)
      have hq := dv_ok T n (by assumption) (p := pe T (ck T n)) (by omega) (by omega)
      have h9 := Jvm.FP.Core.fadd_mag (K := 128 + 2 * n) ih (Nat.lt_of_lt_of_le hq (Nat.mul_le_mul_right _ (by omega))) (by omega)
      rw [show 128 + 2 * (n + 1) = 128 + 2 * n + 2 by omega]
      exact h9
theorem rk_add {T : Nat → Int32} (hW : WF T) {nd n kd : Nat} (hn : n < nN T) : vf_n32 (FP.fadd (rkN T nd n) (FP.fdiv (wtF T n kd) (FP.i2f (nI (pe T (ck T n)))))) := by
  have ih := rk_ok hW (nd := nd) n (by omega)
  have h16 := hW.n16
  have hck := hW.ck2 hn
  have hpe := hW.2.2.2.2.2.2.2 (ck T n) (by omega)
  have hq := dv_ok T n kd (p := pe T (ck T n)) (by omega) (by omega)
  have h9 := Jvm.FP.Core.fadd_mag (K := 128 + 2 * n) ih (Nat.lt_of_lt_of_le hq (Nat.mul_le_mul_right _ (by omega))) (by omega)
  exact fl_ok h9 (by omega)
theorem rk_div {T : Nat → Int32} (hW : WF T) {n kd : Nat} (hn : n < nN T) : vf_n32 (FP.fdiv (wtF T n kd) (FP.i2f (nI (pe T (ck T n))))) := by
  have hck := hW.ck2 hn
  have hpe := hW.2.2.2.2.2.2.2 (ck T n) (by omega)
  exact fl_ok (dv_ok T n kd (p := pe T (ck T n)) (by omega) (by omega)) (by decide)
theorem rk_mul {T : Nat → Int32} (hW : WF T) {nd : Nat} : vf_n32 (FP.fmul 1176256512 (rkN T nd (nN T))) := by
  have h16 := hW.n16
  have ih := rk_ok hW (nd := nd) (nN T) (Nat.le_refl _)
  have := Jvm.FP.Core.fmul_mag (a := 1176256512) (Ka := 141) (Kb := 128 + 2 * nN T) (by decide) ih (by decide) (by omega)
  exact fl_ok this (by omega)
