/-! each call, on both sides: one answer, one state behind it -/
def IV (T R : Nat → Int32) (P : List (Nat → Int32)) (Im : Nat → Option (Nat → Int32)) (tx : Nat → Int32) (t : Nat) : Prop := WF T ∧ rOK T R ∧ (∀ q ∈ P, rOK T q) ∧ (∀ i q, Im i = some q → rOK T q) ∧ P.length ≤ 6 ∧ xOK tx t
def PRR (k1 k2 : vK) (as : List Value) (T R : Nat → Int32) (P : List (Nat → Int32)) (Im : Nat → Option (Nat → Int32)) (tx : Nat → Int32) (t : Nat) : Prop :=
  ∃ (a : Int32) (T' R' : Nat → Int32) (P' : List (Nat → Int32)) (Im' : Nat → Option (Nat → Int32)) (tx' : Nat → Int32) (t' : Nat),
    (∀ (M : vM) (c r : Nat), CLS c r M T R P Im tx t → V k1 (cA M a T' R' P' Im' tx' t') M 0 (lv_args 0 (.ref 0 :: as)) []) ∧
    (∀ M : vM, REF M T R P Im tx t → V k2 (rA M a T' R' P' Im' tx' t') M 0 (lv_args 0 (.ref 60 :: as)) []) ∧ IV T' R' P' Im' tx' t'
section C61
variable {T R tx : Nat → Int32} {P : List (Nat → Int32)} {Im : Nat → Option (Nat → Int32)} {t : Nat}
theorem w_in {w : Int32} {k : Nat} (hk : k < 2 ^ 31) (h : nI 0 ≤ w ∧ w ≤ nI k) : ∃ j, j ≤ k ∧ w = nI j := by
  obtain ⟨j, hj, rfl⟩ := nI_of (show ¬ w < 0 from Int32.not_lt.mpr h.1)
  exact ⟨j, (nI_leI hj hk).mp h.2, rfl⟩
theorem w_dec (w : Int32) {k : Nat} (hk : k < 2 ^ 31) : (w.toInt < 0 ∨ (k : Int) < w.toInt) ∨ ∃ j, j < k + 1 ∧ w = nI j := by
  by_cases h : nI 0 ≤ w ∧ w ≤ nI k
  · obtain ⟨j, h1, h2⟩ := w_in hk h
    exact Or.inr ⟨j, by omega, h2⟩
  · exact Or.inl (w_out hk h)
theorem pr_same {k1 k2 : vK} {as : List Value} {a : Int32} (iv : IV T R P Im tx t) (h1 : ∀ (M : vM) (c r : Nat), CLS c r M T R P Im tx t → V k1 (cA M a T R P Im tx t) M 0 (lv_args 0 (.ref 0 :: as)) []) (h2 : ∀ M : vM, REF M T R P Im tx t → V k2 (rA M a T R P Im tx t) M 0 (lv_args 0 (.ref 60 :: as)) []) : PRR k1 k2 as T R P Im tx t := ⟨a, T, R, P, Im, tx, t, h1, h2, iv⟩
theorem xOK_put (ho : xOK tx t) (ht : t < 160) {v : Nat} (hv : v < 256) : xOK (upd tx t (nI v)) (t + 1) := by
  refine ⟨by omega, fun j hj => ?_⟩
  by_cases e : j = t
  · have e1 : uF (upd tx t (nI v)) j = v := by unfold uF; rw [e, upd_eq, nI_clamp (by omega)]
    rw [e1, e, upd_eq]; exact ⟨rfl, by omega⟩
  · have e1 : uF (upd tx t (nI v)) j = uF tx j := by unfold uF; rw [upd_ne e]
    rw [e1, upd_ne e]; exact ho.2 j (by omega)
theorem xOK_0 : xOK tx 0 := ⟨by omega, fun j hj => absurd hj (by omega)⟩
theorem pr_type (iv : IV T R P Im tx t) (x : Int32) : PRR kX3_type kX4_type [.int x] T R P Im tx t := by
  obtain ⟨hW, hR, hP, hI, h6, ho⟩ := id iv
  by_cases hx : nI 0 ≤ x ∧ x ≤ nI 255
  · obtain ⟨v, hv, rfl⟩ := w_in (by decide) hx
    by_cases ht : t < 160
    · exact ⟨nI (t + 1), T, R, P, Im, upd tx t (nI v), t + 1, fun M c r h => k_type h (by omega) ht, fun M h => c_type h hx ht, hW, hR, hP, hI, h6, xOK_put ho ht (by omega)⟩
    · have e : t = 160 := by have := ho.1; omega
      subst e
      exact pr_same iv (fun M c r h => k_typeF h (by omega)) (fun M h => c_typeF h hx)
  · exact pr_same iv (fun M c r h => k_type0 h hW hx) (fun M h => c_type0 h hW hx)
theorem pr_clear (iv : IV T R P Im tx t) : PRR kX3_clear kX4_clear [] T R P Im tx t := by
  obtain ⟨hW, hR, hP, hI, h6, ho⟩ := id iv
  exact ⟨nI t, T, R, P, Im, tx, 0, fun M c r h => k_clear h, fun M h => c_clear h, hW, hR, hP, hI, h6, xOK_0⟩
theorem prN_WD {u : Nat → Nat} : ∀ (f : Nat) (D : Nat → Int32) (q m : Nat) {D' : Nat → Int32} {m' : Nat}, WD D → prN u t f D q m = .inr (D', m') → WD D'
  | 0, _, _, _, _, _, _, h => by cases h
  | f + 1, D, q, m, D', m', hD, h => by
    simp only [prN] at h
    by_cases h0 : tTk u t q = 0
    · rw [if_pos h0] at h; cases h; exact hD
    · rw [if_neg h0] at h
      cases hf : (itR u t D q).2.2 with
      | some a => rw [hf] at h; cases h
      | none => rw [hf] at h; exact prN_WD f _ _ _ (itR_WD hD hf) h
theorem s0_ok : rOK T s0R := by
  refine ⟨⟨2, rfl, by decide⟩, fun n hn _ => ⟨?_, fun _ => ?_⟩⟩
  · have e : s0R (4 + n) = nI 0 := by unfold s0R; rw [if_neg (by omega)]
    rw [e]; exact v3_n 0 (by omega)
  · have e : s0R (20 + n) = nI 0 := by unfold s0R; rw [if_neg (by omega)]
    rw [e]; exact v3_n 0 (by omega)
theorem IV_0 {D : Nat → Int32} (h : WF D) : IV D s0R [] (fun _ => none) tx 0 := ⟨h, s0_ok, fun q hq => absurd hq (by simp), fun i q hq => (by cases hq), by simp, xOK_0⟩
theorem pr_tells (iv : IV T R P Im tx t) : PRR kX3_tells kX4_tells [] T R P Im tx t := by
  obtain ⟨hW, hR, hP, hI, h6, ho⟩ := id iv
  cases hf : prF tx t with
  | inl a => exact pr_same iv (fun M c r h => k_tellsF h ho hf) (fun M h => by have h9 := c_tells h ho; rw [hf] at h9; exact h9)
  | inr z =>
    obtain ⟨D, m⟩ := z
    have hD : WD D := prN_WD _ _ _ _ b0_WD hf
    exact ⟨nI m, D, s0R, [], fun _ => none, tx, 0, fun M c r h => k_tellsO h ho hf, fun M h => by have h9 := c_tells h ho; rw [hf] at h9; exact h9, IV_0 hD.1⟩
theorem P_note (hR : rOK T R) (hP : ∀ q ∈ P, rOK T q) : ∀ q ∈ (R :: P).take 6, rOK T q := by
  intro q hq
  rcases List.mem_cons.mp (List.mem_of_mem_take hq) with rfl | h
  · exact hR
  · exact hP q h
theorem L_note : ((R :: P).take 6).length ≤ 6 := by rw [List.length_take]; omega
theorem pr_needs (iv : IV T R P Im tx t) (x : Int32) : PRR kX3_needs kX4_needs [.int x] T R P Im tx t := by
  obtain ⟨hW, hR, hP, hI, h6, ho⟩ := id iv
  refine ⟨needA R x, T, needR R x, needP R P x, Im, tx, t, fun M c r h => k_needs h hW h6 x, fun M h => c_needs h hW h6 x, hW, ?_, ?_, hI, ?_, ho⟩
  · unfold needR
    split
    · rename_i hx
      have h0 : ¬ x < 0 := Int32.not_lt.mpr (Int32.le_trans (by decide) hx.1.1)
      obtain ⟨j, hj, rfl⟩ := nI_of h0
      refine ⟨⟨j, upd_eq, hj⟩, fun n hn hl => ?_⟩
      rw [upd_ne (by omega), upd_ne (by omega)]
      exact hR.2 n hn hl
    · exact hR
  · unfold needP
    split
    · exact P_note hR hP
    · exact hP
  · unfold needP
    split
    · exact L_note
    · exact h6
theorem pr_wishes (iv : IV T R P Im tx t) (x v : Int32) : PRR kX3_wishes kX4_wishes [.int x, .int v] T R P Im tx t := by
  obtain ⟨hW, hR, hP, hI, h6, ho⟩ := id iv
  have h16 := hW.n16
  by_cases hx : isN T x
  · obtain ⟨n, hn, rfl⟩ := (isN_nI h16).mp hx
    refine ⟨wisA T R n v, T, wisR T R n v, wisP T R P n v, Im, tx, t, fun M c r h => k_wishes h hW h6 hn, fun M h => c_wishes h hW h6 hn, hW, ?_, ?_, hI, ?_, ho⟩
    · unfold wisR
      split
      · rename_i hv
        obtain ⟨j, hj, rfl⟩ := w_in (by decide) hv.1.2
        obtain ⟨⟨nd, e, hb⟩, hr⟩ := hR
        refine ⟨⟨nd, by rw [upd_ne (by omega)]; exact e, hb⟩, fun a ha hl => ⟨?_, fun hz => ?_⟩⟩
        · rw [upd_ne (by omega)]; exact (hr a ha hl).1
        · by_cases e2 : a = n
          · rw [e2, upd_eq]; exact v3_n j (by omega)
          · rw [upd_ne (by omega)]; exact (hr a ha hl).2 hz
      · exact hR
    · unfold wisP
      split
      · exact P_note hR hP
      · exact hP
    · unfold wisP
      split
      · exact L_note
      · exact h6
  · exact pr_same iv (fun M c r h => k_wishes0 h hW hx) (fun M h => c_wishes0 h hW h6 hx)
theorem pr_ticks (iv : IV T R P Im tx t) (x : Int32) : PRR kX3_ticks kX4_ticks [.int x] T R P Im tx t := by
  obtain ⟨hW, hR, hP, hI, h6, ho⟩ := id iv
  by_cases hx : nI 1 ≤ x ∧ x ≤ nI 99
  · obtain ⟨n, hn, rfl⟩ := w_in (k := 99) (by decide) ⟨Int32.le_trans (by decide) hx.1, hx.2⟩
    have h1 : 1 ≤ n := (nI_leI (by decide) (by omega)).mp hx.1
    refine ⟨ticA T R n, T, ticR T R n, ticP R P n, Im, tx, t, fun M c r h => k_ticks h hW h6 hR h1 hn, fun M h => c_ticks h hW h6 h1 hn, hW, ?_, ?_, hI, ?_, ho⟩
    · unfold ticR
      split
      · exact tkI_ok hW hR n
      · exact hR
    · unfold ticP
      split
      · exact P_note hR hP
      · exact hP
    · unfold ticP
      split
      · exact L_note
      · exact h6
  · exact pr_same iv (fun M c r h => k_ticks0 h hW hx) (fun M h => c_ticks0 h hW h6 hx)
theorem pr_undo (iv : IV T R P Im tx t) : PRR kX3_undo kX4_undo [] T R P Im tx t := by
  obtain ⟨hW, hR, hP, hI, h6, ho⟩ := id iv
  cases P with
  | nil => exact pr_same iv (fun M c r h => k_undo0 h) (fun M h => c_undo0 h)
  | cons p0 P =>
    simp only [List.length_cons] at h6
    exact ⟨nI P.length, T, p0, P, Im, tx, t, fun M c r h => k_undo h (by omega), fun M h => c_undo h (by omega), hW, hP p0 List.mem_cons_self, fun q hq => hP q (List.mem_cons_of_mem _ hq), hI, by omega, ho⟩
theorem pr_node (iv : IV T R P Im tx t) (x w : Int32) : PRR kX3_node kX4_node [.int x, .int w] T R P Im tx t := by
  obtain ⟨hW, hR, hP, hI, h6, ho⟩ := id iv
  by_cases hx : isN T x
  · obtain ⟨n, hn, rfl⟩ := (isN_nI hW.n16).mp hx
    rcases w_dec w (k := 7) (by decide) with hw | ⟨j, hj, rfl⟩
    · exact pr_same iv (fun M c r h => k_nodeO h hW hn hw) (fun M h => c_nodeO h hW hn hw)
    · exact pr_same iv (fun M c r h => k_node h hW hn hj) (fun M h => c_node h hW hn hj)
  · exact pr_same iv (fun M c r h => k_node0 h hW hx) (fun M h => c_node0 h hW hx)
theorem pr_register (iv : IV T R P Im tx t) (x w : Int32) : PRR kX3_register kX4_register [.int x, .int w] T R P Im tx t := by
  obtain ⟨hW, hR, hP, hI, h6, ho⟩ := id iv
  obtain ⟨⟨nd, hnd, hnb⟩, -⟩ := id hR
  by_cases hx : isN T x
  · obtain ⟨n, hn, rfl⟩ := (isN_nI hW.n16).mp hx
    by_cases hw : nI 0 ≤ w ∧ w ≤ nI 2
    · obtain ⟨j, hj, rfl⟩ := w_in (by decide) hw
      exact pr_same iv (fun M c r h => k_register h hW hnd hnb hn (by omega)) (fun M h => c_register h hW hnd hnb hn (by omega))
    · exact pr_same iv (fun M c r h => k_registerO h hW hn hw) (fun M h => c_registerO h hW hn hw)
  · exact pr_same iv (fun M c r h => k_register0 h hW hx) (fun M h => c_register0 h hW hx)
theorem pr_crossing (iv : IV T R P Im tx t) (x : Int32) : PRR kX3_crossing kX4_crossing [.int x] T R P Im tx t := by
  obtain ⟨hW, hR, hP, hI, h6, ho⟩ := id iv
  obtain ⟨⟨nd, hnd, hnb⟩, -⟩ := id hR
  exact pr_same iv (fun M c r h => k_crossing h hW x) (fun M h => c_crossing h hW hnd hnb x)
theorem pr_kinds (iv : IV T R P Im tx t) (x : Int32) : PRR kX3_kinds kX4_kinds [.int x] T R P Im tx t := by
  obtain ⟨hW, hR, hP, hI, h6, ho⟩ := id iv
  obtain ⟨⟨nd, hnd, hnb⟩, -⟩ := id hR
  by_cases hx : nI 0 ≤ x ∧ x ≤ nI 3
  · obtain ⟨j, hj, rfl⟩ := w_in (by decide) hx
    exact pr_same iv (fun M c r h => k_kinds h hW hnd hnb (by omega)) (fun M h => c_kinds h hW hnd hnb (by omega))
  · exact pr_same iv (fun M c r h => k_kinds0 h hW hx) (fun M h => c_kinds0 h hW hx)
theorem pr_join (iv : IV T R P Im tx t) (x w : Int32) : PRR kX3_join kX4_join [.int x, .int w] T R P Im tx t := by
  obtain ⟨hW, hR, hP, hI, h6, ho⟩ := id iv
  exact pr_same iv (fun M c r h => k_join h hW x w) (fun M h => c_join h hW x w)
theorem pr_risk (iv : IV T R P Im tx t) : PRR kX3_risk kX4_risk [] T R P Im tx t := by
  obtain ⟨hW, hR, hP, hI, h6, ho⟩ := id iv
  obtain ⟨⟨nd, hnd, hnb⟩, -⟩ := id hR
  exact pr_same iv (fun M c r h => k_risk h hW hnd hnb) (fun M h => c_risk h hW hnd hnb)
theorem pr_period (iv : IV T R P Im tx t) (x : Int32) : PRR kX3_period kX4_period [.int x] T R P Im tx t := by
  obtain ⟨hW, hR, hP, hI, h6, ho⟩ := id iv
  by_cases hx : nI 0 ≤ x ∧ x ≤ nI 2
  · obtain ⟨j, hj, rfl⟩ := w_in (by decide) hx
    exact pr_same iv (fun M c r h => k_period h hW (by omega)) (fun M h => c_period h hW (by omega))
  · exact pr_same iv (fun M c r h => k_period0 h hW hx) (fun M h => c_period0 h hW hx)
theorem pr_wish (iv : IV T R P Im tx t) (x : Int32) : PRR kX3_wish kX4_wish [.int x] T R P Im tx t := by
  obtain ⟨hW, hR, hP, hI, h6, ho⟩ := id iv
  by_cases hx : isN T x
  · obtain ⟨n, hn, rfl⟩ := (isN_nI hW.n16).mp hx
    exact pr_same iv (fun M c r h => k_wish h hW hn) (fun M h => c_wish h hW hn)
  · exact pr_same iv (fun M c r h => k_wish0 h hW hx) (fun M h => c_wish0 h hW hx)
theorem pr_when (iv : IV T R P Im tx t) (x w : Int32) : PRR kX3_when kX4_when [.int x, .int w] T R P Im tx t := by
  obtain ⟨hW, hR, hP, hI, h6, ho⟩ := id iv
  by_cases hx : isN T x
  · obtain ⟨n, hn, rfl⟩ := (isN_nI hW.n16).mp hx
    by_cases hw : nI 0 ≤ w ∧ w ≤ nI 2
    · exact pr_same iv (fun M c r h => k_when h hW hR hn hw) (fun M h => c_when h hW hn hw)
    · exact pr_same iv (fun M c r h => k_whenO h hW hn hw) (fun M h => c_whenO h hW hn hw)
  · exact pr_same iv (fun M c r h => k_when0 h hW hx) (fun M h => c_when0 h hW hx)
theorem pr_keep (iv : IV T R P Im tx t) (x : Int32) : PRR kX3_keep kX4_keep [.int x] T R P Im tx t := by
  obtain ⟨hW, hR, hP, hI, h6, ho⟩ := id iv
  by_cases hx : nI 0 ≤ x ∧ x ≤ nI 1
  · obtain ⟨j, hj, rfl⟩ := w_in (by decide) hx
    refine ⟨R 1, T, R, P, fun i => if i = j then some R else Im i, tx, t, fun M c r h => k_keep h hW (by omega), fun M h => c_keep h hW (by omega), hW, hR, hP, fun i q hq => ?_, h6, ho⟩
    by_cases e : i = j
    · simp only [if_pos e] at hq; cases hq; exact hR
    · simp only [if_neg e] at hq; exact hI i q hq
  · exact pr_same iv (fun M c r h => k_keep0 h hW hx) (fun M h => c_keep0 h hW hx)
theorem pr_back (iv : IV T R P Im tx t) (x : Int32) : PRR kX3_back kX4_back [.int x] T R P Im tx t := by
  obtain ⟨hW, hR, hP, hI, h6, ho⟩ := id iv
  by_cases hx : nI 0 ≤ x ∧ x ≤ nI 1
  · obtain ⟨j, hj, rfl⟩ := w_in (by decide) hx
    cases hq : Im j with
    | none => exact pr_same iv (fun M c r h => k_backS h hW (by omega) hq) (fun M h => c_backS h hW (by omega) hq)
    | some q => exact ⟨q 1, T, q, [], Im, tx, t, fun M c r h => k_back h hW (by omega) hq, fun M h => c_back h hW (by omega) hq, hW, hI j q hq, fun a ha => absurd ha (by simp), hI, by simp, ho⟩
  · exact pr_same iv (fun M c r h => k_back0 h hW hx) (fun M h => c_back0 h hW hx)
theorem pr_count (iv : IV T R P Im tx t) (x : Int32) : PRR kX3_count kX4_count [.int x] T R P Im tx t := by
  obtain ⟨hW, hR, hP, hI, h6, ho⟩ := id iv
  rcases w_dec x (k := 7) (by decide) with hw | ⟨j, hj, rfl⟩
  · exact pr_same iv (fun M c r h => k_countO h hW hw) (fun M h => c_countO h hW hw)
  · exact pr_same iv (fun M c r h => k_count h hW hj) (fun M h => c_count h hW hj)
end C61
