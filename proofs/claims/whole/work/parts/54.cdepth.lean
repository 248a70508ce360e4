/-! the class's depths -/
section C54a
variable {D : Nat → Int32}
theorem ofN_of {n r : Nat} : ∀ {k j : Nat}, j < k → pt D n j = r → 0 < ofN D n r k
  | 0, j, h, _ => by omega
  | k + 1, j, h, e => by
    simp only [ofN]
    by_cases hj : j = k
    · rw [hj] at e; rw [if_pos e]; omega
    · have := ofN_of (n := n) (r := r) (k := k) (show j < k by omega) e; omega
/-- a node has r: by its bits, by its parts -/
theorem pb_oft (hW : WF D) {n r : Nat} (hn : n < nN D) (hr : r < 32) : bt (pbF D n) r = true ↔ 0 < oft D n r := by
  have h16 := hW.n16
  unfold pbF oft
  rw [pbN_b n hr (fun j hj => by have := hW.ptlt hn hj; omega)]
  constructor
  · rintro ⟨j, h1, h2⟩; exact ofN_of h1 h2
  · intro h; exact ofN_pos h
theorem oft_lo (hW : WF D) {n r : Nat} (hn : n < nN D) (h : n ≤ r) : oft D n r = 0 := by
  rcases Nat.eq_zero_or_pos (oft D n r) with e | e
  · exact e
  · obtain ⟨j, h1, h2⟩ := ofN_pos e
    have := hW.ptlt hn h1
    omega
theorem oft_reg {n r : Nat} (h1 : so D n = 1) : oft D n r ≤ 1 := by
  have := ofN_le (T := D) (n := n) (r := r) (hmF (so D n))
  unfold oft
  rw [hm_reg h1] at this ⊢
  exact this
theorem ooT_0 {r : Nat} : ∀ {n : Nat}, (∀ k, k < n → oft D k r = 0) → ooT D r n = 0
  | 0, _ => rfl
  | n + 1, h => by simp only [ooT]; rw [ooT_0 (fun k hk => h k (by omega)), h n (by omega)]
theorem ooT_1 {r m : Nat} : ∀ {n : Nat}, m < n → (∀ k, k < n → k ≠ m → oft D k r = 0) → ooT D r n = oft D m r
  | 0, h, _ => by omega
  | n + 1, h, g => by
    simp only [ooT]
    by_cases e : m = n
    · rw [ooT_0 (fun k hk => g k (by omega) (by omega)), e, Nat.zero_add]
    · rw [ooT_1 (show m < n by omega) (fun k hk => g k (by omega)), g n (by omega) (fun z => e z.symm), Nat.add_zero]
theorem ooI_1 {r m : Nat} (h0 : 0 < oft D m r) : ∀ {n : Nat}, m < n → (∀ k, k < n → k ≠ m → oft D k r = 0) → ooI D r n = some m
  | 0, h, _ => by omega
  | n + 1, h, g => by
    simp only [ooI]
    by_cases e : m = n
    · rw [← e, if_pos h0]
    · rw [if_neg (by rw [g n (by omega) (fun z => e z.symm)]; omega)]
      exact ooI_1 h0 (by omega) (fun k hk => g k (by omega))
theorem ooT_ge {r k : Nat} : ∀ {n : Nat}, k < n → oft D k r ≤ ooT D r n
  | 0, h => by omega
  | n + 1, h => by
    simp only [ooT]
    by_cases e : k = n
    · rw [e]; omega
    · have := ooT_ge (r := r) (show k < n by omega); omega
theorem ooT_ge2 {r k m : Nat} : ∀ {n : Nat}, k < n → m < n → k ≠ m → oft D k r + oft D m r ≤ ooT D r n
  | 0, h, _, _ => by omega
  | n + 1, h, g, e => by
    simp only [ooT]
    by_cases e1 : k = n
    · have := ooT_ge (D := D) (r := r) (show m < n by omega); rw [e1]; omega
    · by_cases e2 : m = n
      · have := ooT_ge (D := D) (r := r) (show k < n by omega); rw [e2]; omega
      · have := ooT_ge2 (r := r) (show k < n by omega) (show m < n by omega) e; omega
def ohN (D : Nat → Int32) (n : Nat) : Nat → Nat → Option Nat → Option Nat
  | 0, _, o => o
  | d + 1, k, o => if bt (pbF D k) n = true then (match o with | some _ => none | none => ohN D n d (k + 1) (some k)) else ohN D n d (k + 1) o
def hvO (D : Nat → Int32) (n : Nat) : Option Nat := ohN D n (nN D - (n + 1)) (n + 1) none
theorem ohN_s {n m : Nat} : ∀ {d k : Nat} {x : Nat}, ohN D n d k (some x) = some m → m = x ∧ ∀ j, k ≤ j → j < k + d → ¬ bt (pbF D j) n = true
  | 0, k, x, h => by cases h; exact ⟨rfl, fun j a b => by omega⟩
  | d + 1, k, x, h => by
    simp only [ohN] at h
    by_cases hb : bt (pbF D k) n = true
    · rw [if_pos hb] at h; cases h
    · rw [if_neg hb] at h
      obtain ⟨e, g⟩ := ohN_s h
      refine ⟨e, fun j a b => ?_⟩
      by_cases z : j = k
      · rw [z]; exact hb
      · exact g j (by omega) (by omega)
theorem ohN_n {n m : Nat} : ∀ {d k : Nat}, ohN D n d k none = some m → (k ≤ m ∧ m < k + d) ∧ bt (pbF D m) n = true ∧ ∀ j, k ≤ j → j < k + d → j ≠ m → ¬ bt (pbF D j) n = true
  | 0, k, h => by cases h
  | d + 1, k, h => by
    simp only [ohN] at h
    by_cases hb : bt (pbF D k) n = true
    · rw [if_pos hb] at h
      obtain ⟨e, g⟩ := ohN_s h
      subst e
      exact ⟨by omega, hb, fun j a b z => g j (by omega) (by omega)⟩
    · rw [if_neg hb] at h
      obtain ⟨e, g1, g2⟩ := ohN_n h
      refine ⟨by omega, g1, fun j a b z => ?_⟩
      by_cases y : j = k
      · rw [y]; exact hb
      · exact g2 j (by omega) (by omega) z
theorem ohN_s' {n : Nat} : ∀ {d k x : Nat}, (∀ j, k ≤ j → j < k + d → ¬ bt (pbF D j) n = true) → ohN D n d k (some x) = some x
  | 0, k, x, _ => rfl
  | d + 1, k, x, h => by
    simp only [ohN]
    rw [if_neg (h k (by omega) (by omega))]
    exact ohN_s' (fun j a b => h j (by omega) (by omega))
theorem ohN_n' {n m : Nat} (hb : bt (pbF D m) n = true) : ∀ {d k : Nat}, k ≤ m → m < k + d → (∀ j, k ≤ j → j < k + d → j ≠ m → ¬ bt (pbF D j) n = true) → ohN D n d k none = some m
  | 0, k, _, h, _ => by omega
  | d + 1, k, h1, h2, h => by
    simp only [ohN]
    by_cases e : k = m
    · rw [e, if_pos hb]
      exact ohN_s' (fun j a b => h j (by omega) (by omega) (by omega))
    · rw [if_neg (h k (by omega) (by omega) e)]
      exact ohN_n' hb (by omega) (by omega) (fun j a b => h j (by omega) (by omega))
theorem hv_oo (hW : WF D) {n m : Nat} (hn : n < nN D) (h1 : so D m = 1) : hvO D n = some m ↔ ooO D n = some m := by
  have h16 := hW.n16
  constructor
  · intro h
    obtain ⟨e, g1, g2⟩ := ohN_n h
    have hm : m < nN D := by omega
    have hp : 0 < oft D m n := (pb_oft hW hm (by omega)).mp g1
    have h0 : ∀ k, k < nN D → k ≠ m → oft D k n = 0 := fun k hk hkm => by
      rcases Nat.lt_or_ge n k with a | a
      · rcases Nat.eq_zero_or_pos (oft D k n) with z | z
        · exact z
        · exact absurd ((pb_oft hW hk (by omega)).mpr z) (g2 k (by omega) (by omega) hkm)
      · exact oft_lo hW hk a
    have hr := oft_reg (D := D) (r := n) h1
    unfold ooO
    rw [if_pos (by rw [ooT_1 hm h0]; omega), ooI_1 hp hm h0]
  · intro h
    have hl := ooO_lt hW h
    unfold ooO at h
    split at h
    · rename_i ht
      obtain ⟨a1, a2⟩ := ooI_lt h
      refine ohN_n' ((pb_oft hW a1 (by omega)).mpr a2) (by omega) (by omega) (fun j b1 b2 b3 b4 => ?_)
      have hj : j < nN D := by omega
      have := (pb_oft hW hj (by omega)).mp b4
      have := ooT_ge2 (D := D) (r := n) hj a1 b3
      omega
    · cases h
theorem hvO_b {n m : Nat} (h : hvO D n = some m) : m < nN D ∧ n < m := by
  obtain ⟨e, -, -⟩ := ohN_n h
  omega
theorem dpN_fuel (hW : WF D) {c : Nat} : ∀ (f : Nat) (o : Option Nat), (∀ x, o = some x → x < nN D ∧ nN D - x ≤ f) → dpN D c f o = dpN D c (f + 1) o
  | 0, none, _ => rfl
  | 0, some x, h => by have := h x rfl; omega
  | f + 1, none, _ => rfl
  | f + 1, some x, h => by
    simp only [dpN]
    split
    · rw [dpN_fuel hW f (ooO D x) (fun y hy => by have := ooO_lt hW hy; have := h x rfl; omega)]
    · rfl
theorem dp_step (hW : WF D) {n m : Nat} (h : ooO D n = some m) (h1 : so D m = 1) (h2 : ck D m = ck D n) : dpF D n = dpF D m + 1 := by
  have h16 := hW.n16
  have hl := ooO_lt hW h
  have e15 : dpN D (ck D n) 15 (ooO D m) = dpN D (ck D n) 16 (ooO D m) := dpN_fuel hW 15 (ooO D m) (fun y hy => by have := ooO_lt hW hy; omega)
  unfold dpF
  rw [h, show dpN D (ck D n) 16 (some m) = if so D m = 1 ∧ ck D m = ck D n then 1 + dpN D (ck D n) 15 (ooO D m) else 0 from rfl, if_pos ⟨h1, h2⟩, e15, h2]
  omega
theorem dp_one {n : Nat} (h : ∀ m, ooO D n = some m → ¬ (so D m = 1 ∧ ck D m = ck D n)) : dpF D n = 1 := by
  unfold dpF
  cases hx : ooO D n with
  | none => rfl
  | some m =>
    rw [show dpN D (ck D n) 16 (some m) = if so D m = 1 ∧ ck D m = ck D n then 1 + dpN D (ck D n) 15 (ooO D m) else 0 from rfl, if_neg (h m hx)]
end C54a
section C54
variable {M M0 : vM} {c : Nat} {D : Nat → Int32}
def dnI : Nat → Int32
  | 0 => (-1)
  | k + 1 => nI k
theorem dn_dec (k : Nat) : nI k + (-1) = dnI k := by
  cases k with
  | zero => decide
  | succ k => exact pk_m1 k
theorem dn_sub (k : Nat) : nI k - nI 1 = dnI k := by
  cases k with
  | zero => decide
  | succ k => rw [pk_sub (by omega)]; rfl
set_option maxRecDepth 100000 in
theorem l_ohS (hc : c = 4 ∨ c = 14) (h : CIR0 M c D) (hW : WF D) {n x : Nat} (hn : n < nN D) (hx : x < nN D) (d : Nat) : ∀ (k : Nat), k + d = nN D → V kX0_onlyHaver (rt (.int (oI (ohN D n d k (some x)))) M) M 7 [(0, .ref c), (1, .int (nI n)), (2, .int (nI x)), (3, .int (nI k))] [] := by
  have h16 := hW.n16
  induction d with
  | zero =>
    intro k hk 
    refine v_iload_n dX0_onlyHaver_7 rfl ?_
    refine v_aload_n dX0_onlyHaver_8 rfl ?_
    refine v_getI2 (y := (nI (nN D))) dX0_onlyHaver_9 fl_X0_47 (ob_c hc) rfl (h.nd) ?_
    refine v_icmpN_ge (tgt := 45) dX0_onlyHaver_12 (by decide) (by omega) (by omega) (fun c12 => ?_) (fun c12 => (by omega))
    refine v_iload_n dX0_onlyHaver_45 rfl ?_
    refine v_iret dX0_onlyHaver_46 rfl ?_
    exact ⟨rfl, rfl⟩
  | succ d ih =>
    intro k hk 
    refine v_iload_n dX0_onlyHaver_7 rfl ?_
    refine v_aload_n dX0_onlyHaver_8 rfl ?_
    refine v_getI2 (y := (nI (nN D))) dX0_onlyHaver_9 fl_X0_47 (ob_c hc) rfl (h.nd) ?_
    refine v_icmpN_ge (tgt := 45) dX0_onlyHaver_12 (by decide) (by omega) (by omega) (fun c12 => (by omega)) (fun c12 => ?_)
    refine v_aload_n dX0_onlyHaver_15 rfl ?_
    refine v_getR (t := c + 4) dX0_onlyHaver_16 fl_X0_21 (ob_c hc) rfl rfl ?_
    refine v_iload_n dX0_onlyHaver_19 rfl ?_
    refine v_iald2 (n := 16) (a := k) (y := (pbF D k)) dX0_onlyHaver_20 (ar_c4 hc) (rfl) (by omega) (h.pb (by omega)) ?_
    refine v_iload_n dX0_onlyHaver_21 rfl ?_
    refine v_callSr (x := .int (bI (bt ((pbF D k)) n = true))) (M1 := M) (as := [.int (pbF D k), .int (nI n)]) (st := []) dX0_onlyHaver_22 ml_X0_101 ks_X3_hasBit ⟨(Nat.le_of_ble_eq_true rfl), (Nat.le_of_ble_eq_true rfl)⟩ rfl (Nat.le_of_ble_eq_true rfl) rfl (Nat.le_of_ble_eq_true rfl) (c_hasBit _ (by omega)) ?_
    refine v_ifB_eq (tgt := 39) dX0_onlyHaver_25 (by decide) (fun c25 => ?_) (fun c25 => ?_)
    · refine v_iincN (lv' := [(0, .ref c), (1, .int (nI n)), (2, .int (nI x)), (3, .int (nI (k + 1)))]) dX0_onlyHaver_39 rfl (Nat.le_of_ble_eq_true rfl) rfl ?_
      refine v_goto (tgt := 7) dX0_onlyHaver_42 (by decide) ?_
      have h2 := ih (k + 1) (by omega)
      simp only [ohN]
      rw [if_neg c25]; exact h2
    · refine v_iload_n dX0_onlyHaver_28 rfl ?_
      refine v_bipush (v := (-9)) dX0_onlyHaver_29 (by decide) ?_
      refine v_icmp_eq (tgt := 37) dX0_onlyHaver_31 (by decide) (fun c31 => (absurd c31 (nI_m9 (by omega)))) (fun c31 => ?_)
      refine v_bipush (v := (-9)) dX0_onlyHaver_34 (by decide) ?_
      refine v_iret dX0_onlyHaver_36 rfl ?_
      refine ⟨congrArg (fun x => some (Value.int x)) ?_, rfl⟩
      simp only [ohN]; rw [if_pos c25]; rfl
set_option maxRecDepth 100000 in
theorem l_ohN (hc : c = 4 ∨ c = 14) (h : CIR0 M c D) (hW : WF D) {n : Nat} (hn : n < nN D) (d : Nat) : ∀ (k : Nat), k + d = nN D → V kX0_onlyHaver (rt (.int (oI (ohN D n d k none))) M) M 7 [(0, .ref c), (1, .int (nI n)), (2, .int ((-9))), (3, .int (nI k))] [] := by
  have h16 := hW.n16
  induction d with
  | zero =>
    intro k hk 
    refine v_iload_n dX0_onlyHaver_7 rfl ?_
    refine v_aload_n dX0_onlyHaver_8 rfl ?_
    refine v_getI2 (y := (nI (nN D))) dX0_onlyHaver_9 fl_X0_47 (ob_c hc) rfl (h.nd) ?_
    refine v_icmpN_ge (tgt := 45) dX0_onlyHaver_12 (by decide) (by omega) (by omega) (fun c12 => ?_) (fun c12 => (by omega))
    refine v_iload_n dX0_onlyHaver_45 rfl ?_
    refine v_iret dX0_onlyHaver_46 rfl ?_
    exact ⟨rfl, rfl⟩
  | succ d ih =>
    intro k hk 
    refine v_iload_n dX0_onlyHaver_7 rfl ?_
    refine v_aload_n dX0_onlyHaver_8 rfl ?_
    refine v_getI2 (y := (nI (nN D))) dX0_onlyHaver_9 fl_X0_47 (ob_c hc) rfl (h.nd) ?_
    refine v_icmpN_ge (tgt := 45) dX0_onlyHaver_12 (by decide) (by omega) (by omega) (fun c12 => (by omega)) (fun c12 => ?_)
    refine v_aload_n dX0_onlyHaver_15 rfl ?_
    refine v_getR (t := c + 4) dX0_onlyHaver_16 fl_X0_21 (ob_c hc) rfl rfl ?_
    refine v_iload_n dX0_onlyHaver_19 rfl ?_
    refine v_iald2 (n := 16) (a := k) (y := (pbF D k)) dX0_onlyHaver_20 (ar_c4 hc) (rfl) (by omega) (h.pb (by omega)) ?_
    refine v_iload_n dX0_onlyHaver_21 rfl ?_
    refine v_callSr (x := .int (bI (bt ((pbF D k)) n = true))) (M1 := M) (as := [.int (pbF D k), .int (nI n)]) (st := []) dX0_onlyHaver_22 ml_X0_101 ks_X3_hasBit ⟨(Nat.le_of_ble_eq_true rfl), (Nat.le_of_ble_eq_true rfl)⟩ rfl (Nat.le_of_ble_eq_true rfl) rfl (Nat.le_of_ble_eq_true rfl) (c_hasBit _ (by omega)) ?_
    refine v_ifB_eq (tgt := 39) dX0_onlyHaver_25 (by decide) (fun c25 => ?_) (fun c25 => ?_)
    · refine v_iincN (lv' := [(0, .ref c), (1, .int (nI n)), (2, .int ((-9))), (3, .int (nI (k + 1)))]) dX0_onlyHaver_39 rfl (Nat.le_of_ble_eq_true rfl) rfl ?_
      refine v_goto (tgt := 7) dX0_onlyHaver_42 (by decide) ?_
      simp only [ohN]
      rw [if_neg c25]
      exact ih (k + 1) (by omega)
    · refine v_iload_n dX0_onlyHaver_28 rfl ?_
      refine v_bipush (v := (-9)) dX0_onlyHaver_29 (by decide) ?_
      refine v_icmp_eq (tgt := 37) dX0_onlyHaver_31 (by decide) (fun c31 => ?_) (fun c31 => (absurd rfl c31))
      refine v_iload_n dX0_onlyHaver_37 rfl ?_
      refine v_istore_n (lv' := [(0, .ref c), (1, .int (nI n)), (2, .int (nI k)), (3, .int (nI k))]) dX0_onlyHaver_38 (Nat.le_of_ble_eq_true rfl) rfl ?_
      refine v_iincN (lv' := [(0, .ref c), (1, .int (nI n)), (2, .int (nI k)), (3, .int (nI (k + 1)))]) dX0_onlyHaver_39 rfl (Nat.le_of_ble_eq_true rfl) rfl ?_
      refine v_goto (tgt := 7) dX0_onlyHaver_42 (by decide) ?_
      simp only [ohN]
      rw [if_pos c25]
      exact l_ohS hc h hW hn (by omega) d (k + 1) (by omega)
set_option maxRecDepth 100000 in
theorem c_oh (hc : c = 4 ∨ c = 14) (h : CIR0 M c D) (hW : WF D) {n : Nat} (hn : n < nN D) : V kX0_onlyHaver (rt (.int (oI (hvO D n))) M) M 0 [(0, .ref c), (1, .int (nI n))] [] := by
  have h16 := hW.n16
  refine v_bipush (v := (-9)) dX0_onlyHaver_0 (by decide) ?_
  refine v_istore_n (lv' := [(0, .ref c), (1, .int (nI n)), (2, .int ((-9)))]) dX0_onlyHaver_2 (Nat.le_of_ble_eq_true rfl) rfl ?_
  refine v_iload_n dX0_onlyHaver_3 rfl ?_
  refine v_iconst (v := (nI 1)) dX0_onlyHaver_4 rfl ?_
  refine v_iaddN dX0_onlyHaver_5 ?_
  refine v_istore_n (lv' := [(0, .ref c), (1, .int (nI n)), (2, .int ((-9))), (3, .int (nI (n + 1)))]) dX0_onlyHaver_6 (Nat.le_of_ble_eq_true rfl) rfl ?_
  exact l_ohN hc h hW hn (nN D - (n + 1)) (n + 1) (by omega)
theorem CIR0_7 {M : vM} (h : CIR0 M0 c D) (e : ∀ i, i ≠ c + 7 → M i = M0 i) : CIR0 M c D := by
  unfold CIR0
  rw [e c (by omega), e (c + 1) (by omega), e (c + 2) (by omega), e (c + 3) (by omega), e (c + 4) (by omega), e (c + 5) (by omega), e (c + 6) (by omega), e (c + 8) (by omega), e (c + 9) (by omega)]
  exact h
set_option maxRecDepth 100000 in
theorem l_md (hc : c = 4 ∨ c = 14) (h0 : CIR0 M0 c D) (hW : WF D) (k : Nat) : ∀ (M : vM), k ≤ nN D → (∀ i, i ≠ c + 7 → M i = M0 i) → (∀ n, k ≤ n → n < nN D → so D n = 1 → M (c + 7) n = nI (dpF D n)) → V kX0_measureDepths (fun v M' => v = none ∧ (∀ i, i ≠ c + 7 → M' i = M0 i) ∧ ∀ n, n < nN D → so D n = 1 → M' (c + 7) n = nI (dpF D n)) M 7 [(0, .ref c), (1, .int (dnI k))] [] := by
  have h16 := hW.n16
  induction k with
  | zero =>
    intro M hk hz hd
    have h : CIR0 M c D := CIR0_7 h0 hz
    show V kX0_measureDepths _ _ 7 [(0, .ref c), (1, .int (-1))] []
    refine v_iload_n dX0_measureDepths_7 rfl ?_
    refine v_if_lt (tgt := 84) dX0_measureDepths_8 (by decide) (fun c8 => ?_) (fun c8 => (absurd (by decide) c8))
    refine v_vret dX0_measureDepths_84 rfl ?_
    exact ⟨rfl, hz, fun n hn h1 => hd n (by omega) hn h1⟩
  | succ k ih =>
    intro M hk hz hd
    have h : CIR0 M c D := CIR0_7 h0 hz
    show V kX0_measureDepths _ _ 7 [(0, .ref c), (1, .int (nI k))] []
    refine v_iload_n dX0_measureDepths_7 rfl ?_
    refine v_ifN_lt (tgt := 84) dX0_measureDepths_8 (by decide) (by omega) ?_
    refine v_aload_n dX0_measureDepths_11 rfl ?_
    refine v_iload_n dX0_measureDepths_12 rfl ?_
    refine v_callVr (x := .int (oI (hvO D k))) (M1 := M) (as := [.int (nI k)]) (st := []) dX0_measureDepths_13 ml_X0_94 kv_X0_onlyHaver (ob_c hc) ⟨(Nat.le_of_ble_eq_true rfl), (Nat.le_of_ble_eq_true rfl)⟩ rfl (Nat.le_of_ble_eq_true rfl) rfl (Nat.le_of_ble_eq_true rfl) (c_oh hc h hW (by omega)) ?_
    refine v_istore_n (lv' := [(0, .ref c), (1, .int (nI k)), (2, .int (oI (hvO D k)))]) dX0_measureDepths_16 (Nat.le_of_ble_eq_true rfl) rfl ?_
    cases hx : hvO D k with
    | none =>
      skip
      refine v_aload_n dX0_measureDepths_17 rfl ?_
      refine v_iload_n dX0_measureDepths_18 rfl ?_
      refine v_iconst (v := (nI 1)) dX0_measureDepths_19 rfl ?_
      refine v_callVr (x := .int (bI (so D k = 1))) (M1 := M) (as := [.int (nI k), .int (nI 1)]) (st := []) dX0_measureDepths_20 ml_X0_97 kv_X0_isOf (ob_c hc) ⟨(Nat.le_of_ble_eq_true rfl), (Nat.le_of_ble_eq_true rfl)⟩ rfl (Nat.le_of_ble_eq_true rfl) rfl (Nat.le_of_ble_eq_true rfl) (c_cOf hc h hW (by omega) (by omega)) ?_
      refine v_ifB_eq (tgt := 54) dX0_measureDepths_23 (by decide) (fun c23 => ?_) (fun c23 => ?_)
      · refine v_iconst (v := (nI 0)) dX0_measureDepths_54 rfl ?_
        refine v_istore_n (lv' := [(0, .ref c), (1, .int (nI k)), (2, .int ((-9))), (3, .int (nI 0))]) dX0_measureDepths_55 (Nat.le_of_ble_eq_true rfl) rfl ?_
        refine v_aload_n dX0_measureDepths_56 rfl ?_
        refine v_getR (t := c + 7) dX0_measureDepths_57 fl_X0_30 (ob_c hc) rfl rfl ?_
        refine v_iload_n dX0_measureDepths_60 rfl ?_
        refine v_iload_n dX0_measureDepths_61 rfl ?_
        refine v_ifN_eq (tgt := 76) dX0_measureDepths_62 (by decide) (by decide) (fun c62 => ?_) (fun c62 => (absurd rfl c62))
        refine v_iconst (v := (nI 1)) dX0_measureDepths_76 rfl ?_
        refine v_iast (n := 16) (a := k) dX0_measureDepths_77 (ar_c7 hc) (rfl) (by omega) ?_
        refine v_iinc (v := ((nI k)) + (-1)) (lv' := [(0, .ref c), (1, .int (((nI k)) + (-1))), (2, .int ((-9))), (3, .int (nI 0))]) dX0_measureDepths_78 rfl rfl (Nat.le_of_ble_eq_true rfl) rfl ?_
        refine v_goto (tgt := 7) dX0_measureDepths_81 (by decide) ?_
        have ho : ∀ m, ooO D k = some m → ¬ (so D m = 1 ∧ ck D m = ck D k) := fun m h1 h2 => by rw [(hv_oo hW (by omega) h2.1).mpr h1] at hx; cases hx
        have hdp : so D k = 1 → dpF D k = 1 := fun z => absurd z c23
        refine v_sub (lv' := [(0, .ref c), (1, .int (((nI k)) + (-1)))]) (by intro q hq; simp at hq; rcases hq with rfl | rfl <;> rfl) ?_
        rw [dn_dec]
        refine ih _ (by omega) (fun i a => (mup_ne a).trans (hz i a)) (fun n a b g1 => ?_)
        rw [mup_eq]
        by_cases e : n = k
        · rw [e, upd_eq, hdp (e ▸ g1)]
        · rw [upd_ne e]; exact hd n (by omega) b g1
      · refine v_aload_n dX0_measureDepths_26 rfl ?_
        refine v_iload_n dX0_measureDepths_27 rfl ?_
        refine v_iconst (v := (nI 1)) dX0_measureDepths_28 rfl ?_
        refine v_callVr (x := .int (nI 0)) (M1 := M) (as := [.int ((-9)), .int (nI 1)]) (st := []) dX0_measureDepths_29 ml_X0_97 kv_X0_isOf (ob_c hc) ⟨(Nat.le_of_ble_eq_true rfl), (Nat.le_of_ble_eq_true rfl)⟩ rfl (Nat.le_of_ble_eq_true rfl) rfl (Nat.le_of_ble_eq_true rfl) (c_cOf0 hc h hW (fun z => absurd z.1 (by decide))) ?_
        refine v_ifN_eq (tgt := 54) dX0_measureDepths_32 (by decide) (by decide) (fun c32 => ?_) (fun c32 => (absurd rfl c32))
        refine v_iconst (v := (nI 0)) dX0_measureDepths_54 rfl ?_
        refine v_istore_n (lv' := [(0, .ref c), (1, .int (nI k)), (2, .int ((-9))), (3, .int (nI 0))]) dX0_measureDepths_55 (Nat.le_of_ble_eq_true rfl) rfl ?_
        refine v_aload_n dX0_measureDepths_56 rfl ?_
        refine v_getR (t := c + 7) dX0_measureDepths_57 fl_X0_30 (ob_c hc) rfl rfl ?_
        refine v_iload_n dX0_measureDepths_60 rfl ?_
        refine v_iload_n dX0_measureDepths_61 rfl ?_
        refine v_ifN_eq (tgt := 76) dX0_measureDepths_62 (by decide) (by decide) (fun c62 => ?_) (fun c62 => (absurd rfl c62))
        refine v_iconst (v := (nI 1)) dX0_measureDepths_76 rfl ?_
        refine v_iast (n := 16) (a := k) dX0_measureDepths_77 (ar_c7 hc) (rfl) (by omega) ?_
        refine v_iinc (v := ((nI k)) + (-1)) (lv' := [(0, .ref c), (1, .int (((nI k)) + (-1))), (2, .int ((-9))), (3, .int (nI 0))]) dX0_measureDepths_78 rfl rfl (Nat.le_of_ble_eq_true rfl) rfl ?_
        refine v_goto (tgt := 7) dX0_measureDepths_81 (by decide) ?_
        have ho : ∀ m, ooO D k = some m → ¬ (so D m = 1 ∧ ck D m = ck D k) := fun m h1 h2 => by rw [(hv_oo hW (by omega) h2.1).mpr h1] at hx; cases hx
        have hdp : so D k = 1 → dpF D k = 1 := fun _ => dp_one ho
        refine v_sub (lv' := [(0, .ref c), (1, .int (((nI k)) + (-1)))]) (by intro q hq; simp at hq; rcases hq with rfl | rfl <;> rfl) ?_
        rw [dn_dec]
        refine ih _ (by omega) (fun i a => (mup_ne a).trans (hz i a)) (fun n a b g1 => ?_)
        rw [mup_eq]
        by_cases e : n = k
        · rw [e, upd_eq, hdp (e ▸ g1)]
        · rw [upd_ne e]; exact hd n (by omega) b g1
    | some m =>
      have hb := hvO_b hx
      show V kX0_measureDepths _ _ 17 [(0, .ref c), (1, .int (nI k)), (2, .int (nI m))] []
      refine v_aload_n dX0_measureDepths_17 rfl ?_
      refine v_iload_n dX0_measureDepths_18 rfl ?_
      refine v_iconst (v := (nI 1)) dX0_measureDepths_19 rfl ?_
      refine v_callVr (x := .int (bI (so D k = 1))) (M1 := M) (as := [.int (nI k), .int (nI 1)]) (st := []) dX0_measureDepths_20 ml_X0_97 kv_X0_isOf (ob_c hc) ⟨(Nat.le_of_ble_eq_true rfl), (Nat.le_of_ble_eq_true rfl)⟩ rfl (Nat.le_of_ble_eq_true rfl) rfl (Nat.le_of_ble_eq_true rfl) (c_cOf hc h hW (by omega) (by omega)) ?_
      refine v_ifB_eq (tgt := 54) dX0_measureDepths_23 (by decide) (fun c23 => ?_) (fun c23 => ?_)
      · refine v_iconst (v := (nI 0)) dX0_measureDepths_54 rfl ?_
        refine v_istore_n (lv' := [(0, .ref c), (1, .int (nI k)), (2, .int (nI m)), (3, .int (nI 0))]) dX0_measureDepths_55 (Nat.le_of_ble_eq_true rfl) rfl ?_
        refine v_aload_n dX0_measureDepths_56 rfl ?_
        refine v_getR (t := c + 7) dX0_measureDepths_57 fl_X0_30 (ob_c hc) rfl rfl ?_
        refine v_iload_n dX0_measureDepths_60 rfl ?_
        refine v_iload_n dX0_measureDepths_61 rfl ?_
        refine v_ifN_eq (tgt := 76) dX0_measureDepths_62 (by decide) (by decide) (fun c62 => ?_) (fun c62 => (absurd rfl c62))
        refine v_iconst (v := (nI 1)) dX0_measureDepths_76 rfl ?_
        refine v_iast (n := 16) (a := k) dX0_measureDepths_77 (ar_c7 hc) (rfl) (by omega) ?_
        refine v_iinc (v := ((nI k)) + (-1)) (lv' := [(0, .ref c), (1, .int (((nI k)) + (-1))), (2, .int (nI m)), (3, .int (nI 0))]) dX0_measureDepths_78 rfl rfl (Nat.le_of_ble_eq_true rfl) rfl ?_
        refine v_goto (tgt := 7) dX0_measureDepths_81 (by decide) ?_
        have ho : ∀ q, ooO D k = some q → (so D q = 1 ∧ ck D q = ck D k) → q = m := fun q h1 h2 => by rw [(hv_oo hW (by omega) h2.1).mpr h1] at hx; cases hx; rfl
        have hdp : so D k = 1 → dpF D k = 1 := fun z => absurd z c23
        refine v_sub (lv' := [(0, .ref c), (1, .int (((nI k)) + (-1)))]) (by intro q hq; simp at hq; rcases hq with rfl | rfl <;> rfl) ?_
        rw [dn_dec]
        refine ih _ (by omega) (fun i a => (mup_ne a).trans (hz i a)) (fun n a b g1 => ?_)
        rw [mup_eq]
        by_cases e : n = k
        · rw [e, upd_eq, hdp (e ▸ g1)]
        · rw [upd_ne e]; exact hd n (by omega) b g1
      · refine v_aload_n dX0_measureDepths_26 rfl ?_
        refine v_iload_n dX0_measureDepths_27 rfl ?_
        refine v_iconst (v := (nI 1)) dX0_measureDepths_28 rfl ?_
        refine v_callVr (x := .int (bI (so D m = 1))) (M1 := M) (as := [.int (nI m), .int (nI 1)]) (st := []) dX0_measureDepths_29 ml_X0_97 kv_X0_isOf (ob_c hc) ⟨(Nat.le_of_ble_eq_true rfl), (Nat.le_of_ble_eq_true rfl)⟩ rfl (Nat.le_of_ble_eq_true rfl) rfl (Nat.le_of_ble_eq_true rfl) (c_cOf hc h hW hb.1 (by omega)) ?_
        refine v_ifB_eq (tgt := 54) dX0_measureDepths_32 (by decide) (fun c32 => ?_) (fun c32 => ?_)
        · refine v_iconst (v := (nI 0)) dX0_measureDepths_54 rfl ?_
          refine v_istore_n (lv' := [(0, .ref c), (1, .int (nI k)), (2, .int (nI m)), (3, .int (nI 0))]) dX0_measureDepths_55 (Nat.le_of_ble_eq_true rfl) rfl ?_
          refine v_aload_n dX0_measureDepths_56 rfl ?_
          refine v_getR (t := c + 7) dX0_measureDepths_57 fl_X0_30 (ob_c hc) rfl rfl ?_
          refine v_iload_n dX0_measureDepths_60 rfl ?_
          refine v_iload_n dX0_measureDepths_61 rfl ?_
          refine v_ifN_eq (tgt := 76) dX0_measureDepths_62 (by decide) (by decide) (fun c62 => ?_) (fun c62 => (absurd rfl c62))
          refine v_iconst (v := (nI 1)) dX0_measureDepths_76 rfl ?_
          refine v_iast (n := 16) (a := k) dX0_measureDepths_77 (ar_c7 hc) (rfl) (by omega) ?_
          refine v_iinc (v := ((nI k)) + (-1)) (lv' := [(0, .ref c), (1, .int (((nI k)) + (-1))), (2, .int (nI m)), (3, .int (nI 0))]) dX0_measureDepths_78 rfl rfl (Nat.le_of_ble_eq_true rfl) rfl ?_
          refine v_goto (tgt := 7) dX0_measureDepths_81 (by decide) ?_
          have ho : ∀ q, ooO D k = some q → (so D q = 1 ∧ ck D q = ck D k) → q = m := fun q h1 h2 => by rw [(hv_oo hW (by omega) h2.1).mpr h1] at hx; cases hx; rfl
          have hdp : so D k = 1 → dpF D k = 1 := fun _ => dp_one (fun q h1 h2 => c32 (ho q h1 h2 ▸ h2.1))
          refine v_sub (lv' := [(0, .ref c), (1, .int (((nI k)) + (-1)))]) (by intro q hq; simp at hq; rcases hq with rfl | rfl <;> rfl) ?_
          rw [dn_dec]
          refine ih _ (by omega) (fun i a => (mup_ne a).trans (hz i a)) (fun n a b g1 => ?_)
          rw [mup_eq]
          by_cases e : n = k
          · rw [e, upd_eq, hdp (e ▸ g1)]
          · rw [upd_ne e]; exact hd n (by omega) b g1
        · refine v_aload_n dX0_measureDepths_35 rfl ?_
          refine v_getR (t := c + 2) dX0_measureDepths_36 fl_X0_15 (ob_c hc) rfl rfl ?_
          refine v_iload_n dX0_measureDepths_39 rfl ?_
          refine v_iald2 (n := 16) (a := m) (y := (nI (ck D m))) dX0_measureDepths_40 (ar_c2 hc) (rfl) (by omega) (cir_ckL h hb.1 (by omega)) ?_
          refine v_aload_n dX0_measureDepths_41 rfl ?_
          refine v_getR (t := c + 2) dX0_measureDepths_42 fl_X0_15 (ob_c hc) rfl rfl ?_
          refine v_iload_n dX0_measureDepths_45 rfl ?_
          refine v_iald2 (n := 16) (a := k) (y := (nI (ck D k))) dX0_measureDepths_46 (ar_c2 hc) (rfl) (by omega) (cir_ckL h (by omega) (by omega)) ?_
          refine v_icmpN_ne (tgt := 54) dX0_measureDepths_47 (by decide) (by have := hW.ck2 hb.1; omega) (by have := hW.ck2 (n := k) (by omega); omega) (fun c47 => ?_) (fun c47 => ?_)
          · refine v_iconst (v := (nI 0)) dX0_measureDepths_54 rfl ?_
            refine v_istore_n (lv' := [(0, .ref c), (1, .int (nI k)), (2, .int (nI m)), (3, .int (nI 0))]) dX0_measureDepths_55 (Nat.le_of_ble_eq_true rfl) rfl ?_
            refine v_aload_n dX0_measureDepths_56 rfl ?_
            refine v_getR (t := c + 7) dX0_measureDepths_57 fl_X0_30 (ob_c hc) rfl rfl ?_
            refine v_iload_n dX0_measureDepths_60 rfl ?_
            refine v_iload_n dX0_measureDepths_61 rfl ?_
            refine v_ifN_eq (tgt := 76) dX0_measureDepths_62 (by decide) (by decide) (fun c62 => ?_) (fun c62 => (absurd rfl c62))
            refine v_iconst (v := (nI 1)) dX0_measureDepths_76 rfl ?_
            refine v_iast (n := 16) (a := k) dX0_measureDepths_77 (ar_c7 hc) (rfl) (by omega) ?_
            refine v_iinc (v := ((nI k)) + (-1)) (lv' := [(0, .ref c), (1, .int (((nI k)) + (-1))), (2, .int (nI m)), (3, .int (nI 0))]) dX0_measureDepths_78 rfl rfl (Nat.le_of_ble_eq_true rfl) rfl ?_
            refine v_goto (tgt := 7) dX0_measureDepths_81 (by decide) ?_
            have ho : ∀ q, ooO D k = some q → (so D q = 1 ∧ ck D q = ck D k) → q = m := fun q h1 h2 => by rw [(hv_oo hW (by omega) h2.1).mpr h1] at hx; cases hx; rfl
            have hdp : so D k = 1 → dpF D k = 1 := fun _ => dp_one (fun q h1 h2 => c47 (ho q h1 h2 ▸ h2.2))
            refine v_sub (lv' := [(0, .ref c), (1, .int (((nI k)) + (-1)))]) (by intro q hq; simp at hq; rcases hq with rfl | rfl <;> rfl) ?_
            rw [dn_dec]
            refine ih _ (by omega) (fun i a => (mup_ne a).trans (hz i a)) (fun n a b g1 => ?_)
            rw [mup_eq]
            by_cases e : n = k
            · rw [e, upd_eq, hdp (e ▸ g1)]
            · rw [upd_ne e]; exact hd n (by omega) b g1
          · refine v_iconst (v := (nI 1)) dX0_measureDepths_50 rfl ?_
            refine v_goto (tgt := 55) dX0_measureDepths_51 (by decide) ?_
            refine v_istore_n (lv' := [(0, .ref c), (1, .int (nI k)), (2, .int (nI m)), (3, .int (nI 1))]) dX0_measureDepths_55 (Nat.le_of_ble_eq_true rfl) rfl ?_
            refine v_aload_n dX0_measureDepths_56 rfl ?_
            refine v_getR (t := c + 7) dX0_measureDepths_57 fl_X0_30 (ob_c hc) rfl rfl ?_
            refine v_iload_n dX0_measureDepths_60 rfl ?_
            refine v_iload_n dX0_measureDepths_61 rfl ?_
            refine v_ifN_eq (tgt := 76) dX0_measureDepths_62 (by decide) (by decide) (fun c62 => (absurd c62 (by decide))) (fun c62 => ?_)
            refine v_aload_n dX0_measureDepths_65 rfl ?_
            refine v_getR (t := c + 7) dX0_measureDepths_66 fl_X0_30 (ob_c hc) rfl rfl ?_
            refine v_iload_n dX0_measureDepths_69 rfl ?_
            refine v_iald2 (n := 16) (a := m) (y := (nI (dpF D m))) dX0_measureDepths_70 (ar_c7 hc) (rfl) (by omega) (hd m (by omega) hb.1 c32) ?_
            refine v_iconst (v := (nI 1)) dX0_measureDepths_71 rfl ?_
            refine v_iaddN dX0_measureDepths_72 ?_
            refine v_goto (tgt := 77) dX0_measureDepths_73 (by decide) ?_
            refine v_iast (n := 16) (a := k) dX0_measureDepths_77 (ar_c7 hc) (rfl) (by omega) ?_
            refine v_iinc (v := ((nI k)) + (-1)) (lv' := [(0, .ref c), (1, .int (((nI k)) + (-1))), (2, .int (nI m)), (3, .int (nI 1))]) dX0_measureDepths_78 rfl rfl (Nat.le_of_ble_eq_true rfl) rfl ?_
            refine v_goto (tgt := 7) dX0_measureDepths_81 (by decide) ?_
            have ho : ∀ q, ooO D k = some q → (so D q = 1 ∧ ck D q = ck D k) → q = m := fun q h1 h2 => by rw [(hv_oo hW (by omega) h2.1).mpr h1] at hx; cases hx; rfl
            have hdp : dpF D k = dpF D m + 1 := dp_step hW ((hv_oo hW (by omega) c32).mp hx) c32 c47
            refine v_sub (lv' := [(0, .ref c), (1, .int (((nI k)) + (-1)))]) (by intro q hq; simp at hq; rcases hq with rfl | rfl <;> rfl) ?_
            rw [dn_dec]
            refine ih _ (by omega) (fun i a => (mup_ne a).trans (hz i a)) (fun n a b g1 => ?_)
            rw [mup_eq]
            by_cases e : n = k
            · rw [e, upd_eq, hdp]
            · rw [upd_ne e]; exact hd n (by omega) b g1
set_option maxRecDepth 100000 in
theorem c_md (hc : c = 4 ∨ c = 14) (h : CIR0 M0 c D) (hW : WF D) : V kX0_measureDepths (fun v M' => v = none ∧ (∀ i, i ≠ c + 7 → M' i = M0 i) ∧ ∀ n, n < nN D → so D n = 1 → M' (c + 7) n = nI (dpF D n)) M0 0 [(0, .ref c)] [] := by
  have h16 := hW.n16
  refine v_aload_n dX0_measureDepths_0 rfl ?_
  refine v_getI2 (y := (nI (nN D))) dX0_measureDepths_1 fl_X0_47 (ob_c hc) rfl (h.nd) ?_
  refine v_iconst (v := (nI 1)) dX0_measureDepths_4 rfl ?_
  refine v_isub dX0_measureDepths_5 ?_
  refine v_top (y := (dnI (nN D))) (dn_sub _) ?_
  refine v_istore_n (lv' := [(0, .ref c), (1, .int (dnI (nN D)))]) dX0_measureDepths_6 (Nat.le_of_ble_eq_true rfl) rfl ?_
  exact l_md hc h hW (nN D) M0 (Nat.le_refl _) (fun _ _ => rfl) (fun n a b => absurd a (by omega))
end C54
