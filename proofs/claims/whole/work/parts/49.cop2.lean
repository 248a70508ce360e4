section C49
variable {M M0 : vM} {c r : Nat} {T R tx : Nat → Int32} {P : List (Nat → Int32)} {Im : Nat → Option (Nat → Int32)} {t : Nat}
theorem mo_p (x : Nat) : mo (34 + 3 * (x % 6)) := Or.inr (Or.inl ⟨by omega, by omega, by omega⟩)
theorem mo_i {i : Nat} (h : i < 2) : mo (53 + 3 * i) := Or.inr (Or.inr (by omega))
theorem CLS_now {M' : vM} {R' : Nat → Int32} (h : CLS c r M T R P Im tx t) (e : ∀ i, i < 60 → ¬ (24 ≤ i ∧ i < 33) → M' i = M i) (hm : MOM M' 24 T R') : CLS c r M' T R' P Im tx t := by
  obtain ⟨hc, h1, h2, h3, h4, h5, h6, h7⟩ := h
  refine ⟨hc, ?_, ?_, CIR_c h3 (fun i a b => e i (by omega) (by omega)), hm, cP_c h5 ?_ (fun i a b => e i (by omega) (by omega)), cI_c h6 (fun i a b => e i (by omega) (by omega)), cX_c h7 ?_ (e _ (by omega) (by omega))⟩
  · rw [e 0 (by omega) (by omega)]; exact h1
  · rw [e 0 (by omega) (by omega)]; exact h2
  · rw [e 0 (by omega) (by omega)]
  · rw [e 1 (by omega) (by omega)]
theorem MOM_need (hW : WF T) (h : MOM M 24 T R) (x : Int32) : MOM (mup M 24 0 x) 24 T (upd R 0 x) := by
  obtain ⟨⟨k0, k1, k2, k3⟩, h1, h2⟩ := h
  refine ⟨?_, fun n hn => ?_, fun n hn hz => ?_⟩
  · rw [mup_eq]; simp only [upd]; exact ⟨rfl, k1, k2, k3⟩
  · rw [mup_ne (by decide), h1 n hn]; exact vlF_c hW n hn (fun i _ _ => (upd_ne (by omega)).symm)
  · rw [mup_ne (by decide), h2 n hn hz, upd_ne (by omega)]
theorem MOM_wish (hW : WF T) (h : MOM M 24 T R) {n : Nat} (hn : n < nN T) (x : Int32) : MOM (mup M 26 n x) 24 T (upd R (20 + n) x) := by
  have h16 := hW.n16
  obtain ⟨⟨k0, k1, k2, k3⟩, h1, h2⟩ := h
  refine ⟨?_, fun j hj => ?_, fun j hj hz => ?_⟩
  · rw [mup_ne (by decide), upd_ne (by omega), upd_ne (by omega), upd_ne (by omega), upd_ne (by omega)]; exact ⟨k0, k1, k2, k3⟩
  · rw [mup_ne (by decide), h1 j hj]; exact vlF_c hW j hj (fun i _ _ => (upd_ne (by omega)).symm)
  · show mup M 26 n x 26 j = _
    rw [mup_eq]
    by_cases e : j = n
    · rw [e, upd_eq, upd_eq]
    · rw [upd_ne e, upd_ne (by omega)]; exact h2 j hj hz
theorem take_cons_s {i : Nat} (hi : i + 1 < 6) : ((R :: P).take 6).getD (i + 1) z0 = P.getD i z0 := by
  simp only [List.getD_eq_getElem?_getD, List.getElem?_take]
  rw [if_pos hi]; rfl
theorem rem_fin {o : Nat} {M1 : vM} (hr : CLS c r M T R P Im tx t) (hp6 : P.length ≤ 6) (ho : o = 34 + 3 * ((5 + r) % 6)) (e1 : ∀ i, i ≠ 0 → i ≠ 33 → i ≠ o → i ≠ o + 1 → i ≠ o + 2 → M1 i = M i) (e0 : ∀ j, j ≠ 5 → M1 0 j = M 0 j) {L : Nat} (e5 : M1 0 5 = nI L) (hL : L = min 6 (P.length + 1)) (e33 : ∀ i, i < 6 → M1 33 i = nI (34 + 3 * ((i + 5 + r) % 6))) (em : MOM M1 o T R) : CLS c ((r + 5) % 6) M1 T R ((R :: P).take 6) Im tx t ∧ kq M M1 := by
  obtain ⟨hc, h1, h2, h3, h4, h5, h6, h7⟩ := hr
  have hlen : ((R :: P).take 6).length = L := by rw [List.length_take, List.length_cons, hL]
  refine ⟨⟨hc, (e0 1 (by decide)).trans h1, (e0 2 (by decide)).trans h2, CIR_c h3 (fun i a b => e1 i (by omega) (by omega) (by omega) (by omega) (by omega)), MOM_c h4 (e1 _ (by omega) (by omega) (by omega) (by omega) (by omega)) (e1 _ (by omega) (by omega) (by omega) (by omega) (by omega)) (e1 _ (by omega) (by omega) (by omega) (by omega) (by omega)), ⟨by omega, ?_, fun i hi => ?_, fun i hi => ?_⟩, cI_c h6 (fun i a b => e1 i (by omega) (by omega) (by omega) (by omega) (by omega)), cX_c h7 (congrFun (e1 1 (by omega) (by omega) (by omega) (by omega) (by omega)) 1) (e1 2 (by omega) (by omega) (by omega) (by omega) (by omega))⟩, fun i hi => e1 i (by omega) (by omega) (by omega) (by omega) (by omega)⟩
  · rw [e5, hlen]
  · rw [e33 i hi, show (i + (r + 5) % 6) % 6 = (i + 5 + r) % 6 by omega]
  · rw [hlen] at hi
    cases i with
    | zero =>
      rw [show (0 + (r + 5) % 6) % 6 = (5 + r) % 6 by omega, ← ho]
      exact em
    | succ i =>
      rw [take_cons_s (by omega), show (i + 1 + (r + 5) % 6) % 6 = (i + r) % 6 by omega]
      exact MOM_c (h5.2.2.2 i (by omega)) (e1 _ (by omega) (by omega) (by omega) (by omega) (by omega)) (e1 _ (by omega) (by omega) (by omega) (by omega) (by omega)) (e1 _ (by omega) (by omega) (by omega) (by omega) (by omega))
theorem undo_fin {o : Nat} {M1 : vM} {p0 : Nat → Int32} (hr : CLS c r M T R (p0 :: P) Im tx t) (hp6 : P.length < 6) (ho : o = 34 + 3 * ((0 + r) % 6)) (e1 : ∀ i, i ≠ 0 → i ≠ 33 → i ≠ 24 → i ≠ 25 → i ≠ 26 → M1 i = M i) (e0 : ∀ j, j ≠ 5 → M1 0 j = M 0 j) (e5 : M1 0 5 = nI P.length) (e33 : ∀ i, i < 6 → M1 33 i = nI (34 + 3 * ((i + 1 + r) % 6))) (em : MOM M1 24 T p0) : CLS c ((r + 1) % 6) M1 T p0 P Im tx t ∧ kq M M1 := by
  obtain ⟨hc, h1, h2, h3, h4, h5, h6, h7⟩ := hr
  refine ⟨⟨hc, (e0 1 (by decide)).trans h1, (e0 2 (by decide)).trans h2, CIR_c h3 (fun i a b => e1 i (by omega) (by omega) (by omega) (by omega) (by omega)), em, ⟨by omega, e5, fun i hi => ?_, fun i hi => ?_⟩, cI_c h6 (fun i a b => e1 i (by omega) (by omega) (by omega) (by omega) (by omega)), cX_c h7 (congrFun (e1 1 (by omega) (by omega) (by omega) (by omega) (by omega)) 1) (e1 2 (by omega) (by omega) (by omega) (by omega) (by omega))⟩, fun i hi => e1 i (by omega) (by omega) (by omega) (by omega) (by omega)⟩
  · rw [e33 i hi, show (i + (r + 1) % 6) % 6 = (i + 1 + r) % 6 by omega]
  · rw [show (i + (r + 1) % 6) % 6 = (i + 1 + r) % 6 by omega]
    have := h5.2.2.2 (i + 1) (by simp only [List.length_cons]; omega)
    exact MOM_c this (e1 _ (by omega) (by omega) (by omega) (by omega) (by omega)) (e1 _ (by omega) (by omega) (by omega) (by omega) (by omega)) (e1 _ (by omega) (by omega) (by omega) (by omega) (by omega))
set_option maxRecDepth 100000 in
theorem l_rem {o : Nat} (hr : CLS c r M0 T R P Im tx t) (hp6 : P.length ≤ 6) (ho : o = 34 + 3 * ((5 + r) % 6)) (d : Nat) : ∀ (M : vM), d ≤ 5 → (∀ i, i ≠ 33 → M i = M0 i) → (∀ j, j ≤ d → M 33 j = nI (34 + 3 * ((j + r) % 6))) → (∀ j, d < j → j < 6 → M 33 j = nI (34 + 3 * ((j + 5 + r) % 6))) → V kX3_remember (fun v M1 => v = none ∧ CLS c ((r + 5) % 6) M1 T R ((R :: P).take 6) Im tx t ∧ kq M0 M1) M 21 [(0, .ref 0), (1, .ref o), (2, .int (nI d))] [] := by
  have ho9 : mo o := by rw [ho]; exact mo_p _
  obtain ⟨hc, hcc, hce, ⟨h, hd⟩, hm, hp, hi, hx0⟩ := id hr
  have ho24 : mo 24 := Or.inl (Or.inl rfl)
  induction d with
  | zero =>
    intro M hk hz h1 h2
    refine v_iload_n dX3_remember_21 rfl ?_
    refine v_ifN_le (tgt := 45) dX3_remember_22 (by decide) (by decide) (fun c22 => ?_) (fun c22 => (absurd rfl c22))
    refine v_aload_n dX3_remember_45 rfl ?_
    refine v_aload_n dX3_remember_46 rfl ?_
    refine v_getR (t := 24) dX3_remember_47 fl_X3_29 ⟨by decide, rfl, by decide⟩ rfl rfl ?_
    refine v_callV (as := [.ref 24]) (st := []) dX3_remember_50 ml_X3_92 kv_X1_copy (ob_m ho9) ⟨(Nat.le_of_ble_eq_true rfl), (Nat.le_of_ble_eq_true rfl)⟩ rfl (Nat.le_of_ble_eq_true rfl) rfl (Nat.le_of_ble_eq_true rfl) (c_mCopy ho9 ho24 (by omega)) (fun v M1 hq => ?_)
    obtain ⟨rfl, g1, g2⟩ := hq
    refine v_aload_n dX3_remember_53 rfl ?_
    refine v_getR (t := 33) dX3_remember_54 fl_X3_39 ⟨by decide, rfl, by decide⟩ rfl rfl ?_
    refine v_iconst (v := (nI 0)) dX3_remember_57 rfl ?_
    refine v_aload_n dX3_remember_58 rfl ?_
    refine v_aast (n := 6) (a := 0) dX3_remember_59 ⟨by decide, rfl, rfl⟩ (ob_m ho9) (rfl) (by omega) ?_
    refine v_aload_n dX3_remember_60 rfl ?_
    refine v_getI2 (y := (nI P.length)) dX3_remember_61 fl_X3_65 ⟨by decide, rfl, by decide⟩ rfl (by rw [mup_ne (by decide), g1 0 (by omega) (by omega) (by omega), hz 0 (by decide)]; exact hp.2.1) ?_
    refine v_bipush (v := (nI 6)) dX3_remember_64 rfl ?_
    refine v_icmpN_ge (tgt := 79) dX3_remember_66 (by decide) (by omega) (by omega) (fun c66 => ?_) (fun c66 => ?_)
    · refine v_vret dX3_remember_79 rfl ?_
      have em : MOM M1 o T R := g2 T R (MOM_c hm (hz _ (by decide)) (hz _ (by decide)) (hz _ (by decide)))
      refine ⟨rfl, rem_fin hr hp6 ho (fun i a1 a2 a3 a4 a5 => ?_) (fun j hj => ?_) (L := P.length) ?_ (by omega) (fun i hi => ?_) (MOM_c em ?_ ?_ ?_)⟩
      · rw [mup_ne a2]; exact (g1 i a3 a4 a5).trans (hz i a2)
      · rw [mup_ne (by decide)]; rw [g1 0 (by omega) (by omega) (by omega), hz 0 (by decide)]
      · rw [mup_ne (by decide), g1 0 (by omega) (by omega) (by omega), hz 0 (by decide)]; exact hp.2.1
      · rw [mup_eq]
        by_cases e : i = 0
        · rw [e, upd_eq, ho]
        · rw [upd_ne e, g1 33 (by omega) (by omega) (by omega)]; exact h2 i (by omega) hi
      · rw [mup_ne (by omega)]
      · rw [mup_ne (by omega)]
      · rw [mup_ne (by omega)]
    · refine v_aload_n dX3_remember_69 rfl ?_
      refine v_dup dX3_remember_70 rfl ?_
      refine v_getI2 (y := (nI P.length)) dX3_remember_71 fl_X3_65 ⟨by decide, rfl, by decide⟩ rfl (by rw [mup_ne (by decide), g1 0 (by omega) (by omega) (by omega), hz 0 (by decide)]; exact hp.2.1) ?_
      refine v_iconst (v := (nI 1)) dX3_remember_74 rfl ?_
      refine v_iaddN dX3_remember_75 ?_
      refine v_putI dX3_remember_76 fl_X3_65 ⟨by decide, rfl, by decide⟩ rfl rfl rfl ?_
      refine v_vret dX3_remember_79 rfl ?_
      have em : MOM M1 o T R := g2 T R (MOM_c hm (hz _ (by decide)) (hz _ (by decide)) (hz _ (by decide)))
      refine ⟨rfl, rem_fin hr hp6 ho (fun i a1 a2 a3 a4 a5 => ?_) (fun j hj => ?_) (L := P.length + 1) ?_ (by omega) (fun i hi => ?_) (MOM_c em ?_ ?_ ?_)⟩
      · rw [mup_ne a1, mup_ne a2]; exact (g1 i a3 a4 a5).trans (hz i a2)
      · rw [mup_eq, upd_ne hj, mup_ne (by decide)]; rw [g1 0 (by omega) (by omega) (by omega), hz 0 (by decide)]
      · rw [mup_eq, upd_eq]
      · rw [mup_ne (by decide), mup_eq]
        by_cases e : i = 0
        · rw [e, upd_eq, ho]
        · rw [upd_ne e, g1 33 (by omega) (by omega) (by omega)]; exact h2 i (by omega) hi
      · rw [mup_ne (by omega), mup_ne (by omega)]
      · rw [mup_ne (by omega), mup_ne (by omega)]
      · rw [mup_ne (by omega), mup_ne (by omega)]
  | succ d ih =>
    intro M hk hz h1 h2
    refine v_iload_n dX3_remember_21 rfl ?_
    refine v_ifN_le (tgt := 45) dX3_remember_22 (by decide) (by omega) (fun c22 => (absurd c22 (by omega))) (fun c22 => ?_)
    refine v_aload_n dX3_remember_25 rfl ?_
    refine v_getR (t := 33) dX3_remember_26 fl_X3_39 ⟨by decide, rfl, by decide⟩ rfl rfl ?_
    refine v_iload_n dX3_remember_29 rfl ?_
    refine v_aload_n dX3_remember_30 rfl ?_
    refine v_getR (t := 33) dX3_remember_31 fl_X3_39 ⟨by decide, rfl, by decide⟩ rfl rfl ?_
    refine v_iload_n dX3_remember_34 rfl ?_
    refine v_iconst (v := (nI 1)) dX3_remember_35 rfl ?_
    refine v_isubN dX3_remember_36 (by omega) ?_
    refine v_top (y := (nI d)) (rfl) ?_
    refine v_aald (n := 6) (a := d) (t := 34 + 3 * ((d + r) % 6)) dX3_remember_37 ⟨by decide, rfl, rfl⟩ (rfl) (by omega) (h1 d (by omega)) (by omega) ?_
    refine v_aast (n := 6) (a := d + 1) dX3_remember_38 ⟨by decide, rfl, rfl⟩ (ob_m (mo_p _)) (rfl) (by omega) ?_
    refine v_idecN (lv' := [(0, .ref 0), (1, .ref o), (2, .int (nI d))]) dX3_remember_39 rfl (Nat.le_of_ble_eq_true rfl) rfl ?_
    refine v_goto (tgt := 21) dX3_remember_42 (by decide) ?_
    refine ih _ (by omega) (fun i a => (mup_ne a).trans (hz i a)) (fun j hj => ?_) (fun j hj hj6 => ?_)
    · rw [mup_eq, upd_ne (by omega)]; exact h1 j (by omega)
    · rw [mup_eq]
      by_cases e : j = d + 1
      · rw [e, upd_eq, show (d + 1 + 5 + r) % 6 = (d + r) % 6 by omega]
      · rw [upd_ne e]; exact h2 j (by omega) hj6
set_option maxRecDepth 100000 in
theorem c_rem (hr : CLS c r M0 T R P Im tx t) (hp6 : P.length ≤ 6) : V kX3_remember (fun v M1 => v = none ∧ CLS c ((r + 5) % 6) M1 T R ((R :: P).take 6) Im tx t ∧ kq M0 M1) M0 0 [(0, .ref 0)] [] := by
  obtain ⟨hc, hcc, hce, ⟨h, hd⟩, hm, hp, hi, hx0⟩ := id hr
  have ho24 : mo 24 := Or.inl (Or.inl rfl)
  refine v_aload_n dX3_remember_0 rfl ?_
  refine v_getR (t := 33) dX3_remember_1 fl_X3_39 ⟨by decide, rfl, by decide⟩ rfl rfl ?_
  refine v_aload_n dX3_remember_4 rfl ?_
  refine v_getR (t := 33) dX3_remember_5 fl_X3_39 ⟨by decide, rfl, by decide⟩ rfl rfl ?_
  refine v_alen (t := 13) (n := 6) dX3_remember_8 ⟨by decide, rfl, rfl⟩ (by decide) ?_
  refine v_iconst (v := (nI 1)) dX3_remember_9 rfl ?_
  refine v_isubN dX3_remember_10 (by decide) ?_
  refine v_top (y := (nI 5)) (rfl) ?_
  refine v_aald (n := 6) (a := 5) (t := 34 + 3 * ((5 + r) % 6)) dX3_remember_11 ⟨by decide, rfl, rfl⟩ (rfl) (by omega) (hp.2.2.1 5 (by decide)) (by omega) ?_
  refine v_astore_n (lv' := [(0, .ref 0), (1, .ref (34 + 3 * ((5 + r) % 6)))]) dX3_remember_12 (Nat.le_of_ble_eq_true rfl) rfl ?_
  refine v_aload_n dX3_remember_13 rfl ?_
  refine v_getR (t := 33) dX3_remember_14 fl_X3_39 ⟨by decide, rfl, by decide⟩ rfl rfl ?_
  refine v_alen (t := 13) (n := 6) dX3_remember_17 ⟨by decide, rfl, rfl⟩ (by decide) ?_
  refine v_iconst (v := (nI 1)) dX3_remember_18 rfl ?_
  refine v_isubN dX3_remember_19 (by decide) ?_
  refine v_top (y := (nI 5)) (rfl) ?_
  refine v_istore_n (lv' := [(0, .ref 0), (1, .ref (34 + 3 * ((5 + r) % 6))), (2, .int (nI 5))]) dX3_remember_20 (Nat.le_of_ble_eq_true rfl) rfl ?_
  exact l_rem hr hp6 rfl 5 M0 (by decide) (fun _ _ => rfl) (fun j hj => hp.2.2.1 j (by omega)) (fun j a b => absurd a (by omega))
set_option maxRecDepth 100000 in
theorem k_needs (hr : CLS c r M T R P Im tx t) (hW : WF T) (hp6 : P.length ≤ 6) (x : Int32) : V kX3_needs (cA M (needA R x) T (needR R x) (needP R P x) Im tx t) M 0 [(0, .ref 0), (1, .int x)] [] := by
  have h16 := hW.n16
  have hr0 := hr
  obtain ⟨hc, hcc, hce, ⟨h, hd⟩, hm, hp, hi, hx0⟩ := hr
  have ho24 : mo 24 := Or.inl (Or.inl rfl)
  refine v_iload_n dX3_needs_0 rfl ?_
  refine v_iconst (v := (nI 2)) dX3_needs_1 rfl ?_
  refine v_icmp_lt (tgt := 10) dX3_needs_2 (by decide) (fun c2 => ?_) (fun c2 => ?_)
  · refine v_iconst (v := (-1)) dX3_needs_10 (by decide) ?_
    refine v_iret dX3_needs_11 rfl ?_
    first
    | (have hb : ¬ (nI 2 ≤ x ∧ x ≤ nI 4) := fun z => absurd c2 (Int32.not_lt.mpr z.1)
       have e1 : needA R x = (-1) := by unfold needA; rw [if_neg hb]
       have e2 : needR R x = R := by unfold needR; rw [if_neg (fun z => hb z.1)]
       have e3 : needP R P x = P := by unfold needP; rw [if_neg (fun z => hb z.1)]
       rw [e1, e2, e3]
       exact ⟨rfl, ⟨c, r, hr0⟩, kq_rf M⟩)
    | (have hb : ¬ (nI 2 ≤ x ∧ x ≤ nI 4) := fun z => c7 z.2
       have e1 : needA R x = (-1) := by unfold needA; rw [if_neg hb]
       have e2 : needR R x = R := by unfold needR; rw [if_neg (fun z => hb z.1)]
       have e3 : needP R P x = P := by unfold needP; rw [if_neg (fun z => hb z.1)]
       rw [e1, e2, e3]
       exact ⟨rfl, ⟨c, r, hr0⟩, kq_rf M⟩)
    | (have e1 : needA R x = (-2) := by unfold needA; rw [if_pos ⟨Int32.not_lt.mp c2, c7⟩, if_pos c22]
       have e2 : needR R x = R := by unfold needR; rw [if_neg (fun z => z.2 c22)]
       have e3 : needP R P x = P := by unfold needP; rw [if_neg (fun z => z.2 c22)]
       rw [e1, e2, e3]
       exact ⟨rfl, ⟨c, r, hr0⟩, kq_rf M⟩)
  · refine v_iload_n dX3_needs_5 rfl ?_
    refine v_iconst (v := (nI 4)) dX3_needs_6 rfl ?_
    refine v_icmp_le (tgt := 12) dX3_needs_7 (by decide) (fun c7 => ?_) (fun c7 => ?_)
    · refine v_aload_n dX3_needs_12 rfl ?_
      refine v_getR (t := 24) dX3_needs_13 fl_X3_29 ⟨by decide, rfl, by decide⟩ rfl rfl ?_
      refine v_getI2 (y := (R 0)) dX3_needs_16 fl_X3_68 ⟨by decide, rfl, by decide⟩ rfl (hm.1.1) ?_
      refine v_istore_n (lv' := [(0, .ref 0), (1, .int x), (2, .int (R 0))]) dX3_needs_19 (Nat.le_of_ble_eq_true rfl) rfl ?_
      refine v_iload_n dX3_needs_20 rfl ?_
      refine v_iload_n dX3_needs_21 rfl ?_
      refine v_icmp_ne (tgt := 28) dX3_needs_22 (by decide) (fun c22 => ?_) (fun c22 => ?_)
      · refine v_aload_n dX3_needs_28 rfl ?_
        refine v_callV (as := []) (st := []) dX3_needs_29 ml_X3_71 kv_X3_remember ⟨by decide, rfl, by decide⟩ ⟨(Nat.le_of_ble_eq_true rfl), (Nat.le_of_ble_eq_true rfl)⟩ rfl (Nat.le_of_ble_eq_true rfl) rfl (Nat.le_of_ble_eq_true rfl) (c_rem hr0 hp6) (fun v M1 hq => ?_)
        obtain ⟨rfl, hr1, hk1⟩ := hq
        refine v_aload_n dX3_needs_32 rfl ?_
        refine v_getR (t := 24) dX3_needs_33 fl_X3_29 ⟨by decide, rfl, by decide⟩ rfl rfl ?_
        refine v_iload_n dX3_needs_36 rfl ?_
        refine v_putI dX3_needs_37 fl_X3_68 ⟨by decide, rfl, by decide⟩ rfl rfl rfl ?_
        refine v_iload_n dX3_needs_40 rfl ?_
        refine v_iret dX3_needs_41 rfl ?_
        have e1 : needA R x = R 0 := by unfold needA; rw [if_pos ⟨Int32.not_lt.mp c2, c7⟩, if_neg c22]
        have e2 : needR R x = upd R 0 x := by unfold needR; rw [if_pos ⟨⟨Int32.not_lt.mp c2, c7⟩, c22⟩]
        have e3 : needP R P x = (R :: P).take 6 := by unfold needP; rw [if_pos ⟨⟨Int32.not_lt.mp c2, c7⟩, c22⟩]
        rw [e1, e2, e3]
        exact ⟨rfl, ⟨_, _, CLS_now hr1 (fun i a b => mup_ne (by omega)) (MOM_need hW hr1.2.2.2.2.1 x)⟩, fun i a => (mup_ne (by omega)).trans (hk1 i a)⟩
      · refine v_bipush (v := (-2)) dX3_needs_25 (by decide) ?_
        refine v_iret dX3_needs_27 rfl ?_
        first
        | (have hb : ¬ (nI 2 ≤ x ∧ x ≤ nI 4) := fun z => absurd c2 (Int32.not_lt.mpr z.1)
           have e1 : needA R x = (-1) := by unfold needA; rw [if_neg hb]
           have e2 : needR R x = R := by unfold needR; rw [if_neg (fun z => hb z.1)]
           have e3 : needP R P x = P := by unfold needP; rw [if_neg (fun z => hb z.1)]
           rw [e1, e2, e3]
           exact ⟨rfl, ⟨c, r, hr0⟩, kq_rf M⟩)
        | (have hb : ¬ (nI 2 ≤ x ∧ x ≤ nI 4) := fun z => c7 z.2
           have e1 : needA R x = (-1) := by unfold needA; rw [if_neg hb]
           have e2 : needR R x = R := by unfold needR; rw [if_neg (fun z => hb z.1)]
           have e3 : needP R P x = P := by unfold needP; rw [if_neg (fun z => hb z.1)]
           rw [e1, e2, e3]
           exact ⟨rfl, ⟨c, r, hr0⟩, kq_rf M⟩)
        | (have e1 : needA R x = (-2) := by unfold needA; rw [if_pos ⟨Int32.not_lt.mp c2, c7⟩, if_pos c22]
           have e2 : needR R x = R := by unfold needR; rw [if_neg (fun z => z.2 c22)]
           have e3 : needP R P x = P := by unfold needP; rw [if_neg (fun z => z.2 c22)]
           rw [e1, e2, e3]
           exact ⟨rfl, ⟨c, r, hr0⟩, kq_rf M⟩)
    · refine v_iconst (v := (-1)) dX3_needs_10 (by decide) ?_
      refine v_iret dX3_needs_11 rfl ?_
      first
      | (have hb : ¬ (nI 2 ≤ x ∧ x ≤ nI 4) := fun z => absurd c2 (Int32.not_lt.mpr z.1)
         have e1 : needA R x = (-1) := by unfold needA; rw [if_neg hb]
         have e2 : needR R x = R := by unfold needR; rw [if_neg (fun z => hb z.1)]
         have e3 : needP R P x = P := by unfold needP; rw [if_neg (fun z => hb z.1)]
         rw [e1, e2, e3]
         exact ⟨rfl, ⟨c, r, hr0⟩, kq_rf M⟩)
      | (have hb : ¬ (nI 2 ≤ x ∧ x ≤ nI 4) := fun z => c7 z.2
         have e1 : needA R x = (-1) := by unfold needA; rw [if_neg hb]
         have e2 : needR R x = R := by unfold needR; rw [if_neg (fun z => hb z.1)]
         have e3 : needP R P x = P := by unfold needP; rw [if_neg (fun z => hb z.1)]
         rw [e1, e2, e3]
         exact ⟨rfl, ⟨c, r, hr0⟩, kq_rf M⟩)
      | (have e1 : needA R x = (-2) := by unfold needA; rw [if_pos ⟨Int32.not_lt.mp c2, c7⟩, if_pos c22]
         have e2 : needR R x = R := by unfold needR; rw [if_neg (fun z => z.2 c22)]
         have e3 : needP R P x = P := by unfold needP; rw [if_neg (fun z => z.2 c22)]
         rw [e1, e2, e3]
         exact ⟨rfl, ⟨c, r, hr0⟩, kq_rf M⟩)
set_option maxRecDepth 100000 in
theorem k_wishes0 (hr : CLS c r M T R P Im tx t) (hW : WF T) {x v : Int32} (hx : ¬ isN T x) : V kX3_wishes (cA M ((-1)) T R P Im tx t) M 0 [(0, .ref 0), (1, .int x), (2, .int v)] [] := by
  have h16 := hW.n16
  have hr0 := hr
  obtain ⟨hc, hcc, hce, ⟨h, hd⟩, hm, hp, hi, hx0⟩ := hr
  have ho24 : mo 24 := Or.inl (Or.inl rfl)
  refine v_aload_n dX3_wishes_0 rfl ?_
  refine v_getD (t := c) dX3_wishes_1 fl_X3_19 ⟨by decide, rfl, by decide⟩ rfl (hcc) (by omega) ?_
  refine v_iload_n dX3_wishes_4 rfl ?_
  refine v_iconst (v := (nI 0)) dX3_wishes_5 rfl ?_
  refine v_callVr (x := .int (nI 0)) (M1 := M) (as := [.int x, .int (nI 0)]) (st := []) dX3_wishes_6 ml_X3_74 kv_X0_isOf (ob_c hc) ⟨(Nat.le_of_ble_eq_true rfl), (Nat.le_of_ble_eq_true rfl)⟩ rfl (Nat.le_of_ble_eq_true rfl) rfl (Nat.le_of_ble_eq_true rfl) (c_cOf0 hc h hW hx) ?_
  refine v_ifN_eq (tgt := 21) dX3_wishes_9 (by decide) (by decide) (fun c9 => ?_) (fun c9 => (absurd rfl c9))
  refine v_iconst (v := (-1)) dX3_wishes_21 (by decide) ?_
  refine v_iret dX3_wishes_22 rfl ?_
  exact ⟨rfl, ⟨c, r, hr0⟩, kq_rf M⟩
set_option maxRecDepth 100000 in
theorem k_wishes (hr : CLS c r M T R P Im tx t) (hW : WF T) (hp6 : P.length ≤ 6) {n : Nat} {v : Int32} (hn : n < nN T) : V kX3_wishes (cA M (wisA T R n v) T (wisR T R n v) (wisP T R P n v) Im tx t) M 0 [(0, .ref 0), (1, .int (nI n)), (2, .int v)] [] := by
  have h16 := hW.n16
  have hr0 := hr
  obtain ⟨hc, hcc, hce, ⟨h, hd⟩, hm, hp, hi, hx0⟩ := hr
  have ho24 : mo 24 := Or.inl (Or.inl rfl)
  refine v_aload_n dX3_wishes_0 rfl ?_
  refine v_getD (t := c) dX3_wishes_1 fl_X3_19 ⟨by decide, rfl, by decide⟩ rfl (hcc) (by omega) ?_
  refine v_iload_n dX3_wishes_4 rfl ?_
  refine v_iconst (v := (nI 0)) dX3_wishes_5 rfl ?_
  refine v_callVr (x := .int (bI (so T n = 0))) (M1 := M) (as := [.int (nI n), .int (nI 0)]) (st := []) dX3_wishes_6 ml_X3_74 kv_X0_isOf (ob_c hc) ⟨(Nat.le_of_ble_eq_true rfl), (Nat.le_of_ble_eq_true rfl)⟩ rfl (Nat.le_of_ble_eq_true rfl) rfl (Nat.le_of_ble_eq_true rfl) (c_cOf hc h hW (by omega) (by omega)) ?_
  refine v_ifB_eq (tgt := 21) dX3_wishes_9 (by decide) (fun c9 => ?_) (fun c9 => ?_)
  · refine v_iconst (v := (-1)) dX3_wishes_21 (by decide) ?_
    refine v_iret dX3_wishes_22 rfl ?_
    first
    | (have hb : ¬ (so T n = 0 ∧ (nI 0 ≤ v ∧ v ≤ nI 1)) := fun z => c9 z.1
       have e1 : wisA T R n v = (-1) := by unfold wisA; rw [if_neg hb]
       have e2 : wisR T R n v = R := by unfold wisR; rw [if_neg (fun z => hb z.1)]
       have e3 : wisP T R P n v = P := by unfold wisP; rw [if_neg (fun z => hb z.1)]
       rw [e1, e2, e3]
       exact ⟨rfl, ⟨c, r, hr0⟩, kq_rf M⟩)
    | (have hb : ¬ (so T n = 0 ∧ (nI 0 ≤ v ∧ v ≤ nI 1)) := fun z => absurd c13 (Int32.not_lt.mpr z.2.1)
       have e1 : wisA T R n v = (-1) := by unfold wisA; rw [if_neg hb]
       have e2 : wisR T R n v = R := by unfold wisR; rw [if_neg (fun z => hb z.1)]
       have e3 : wisP T R P n v = P := by unfold wisP; rw [if_neg (fun z => hb z.1)]
       rw [e1, e2, e3]
       exact ⟨rfl, ⟨c, r, hr0⟩, kq_rf M⟩)
    | (have hb : ¬ (so T n = 0 ∧ (nI 0 ≤ v ∧ v ≤ nI 1)) := fun z => c18 z.2.2
       have e1 : wisA T R n v = (-1) := by unfold wisA; rw [if_neg hb]
       have e2 : wisR T R n v = R := by unfold wisR; rw [if_neg (fun z => hb z.1)]
       have e3 : wisP T R P n v = P := by unfold wisP; rw [if_neg (fun z => hb z.1)]
       rw [e1, e2, e3]
       exact ⟨rfl, ⟨c, r, hr0⟩, kq_rf M⟩)
    | (have hok : so T n = 0 ∧ (nI 0 ≤ v ∧ v ≤ nI 1) := ⟨c9, Int32.not_lt.mp c13, c18⟩
       have e1 : wisA T R n v = (-2) := by unfold wisA; rw [if_pos hok, if_pos c35]
       have e2 : wisR T R n v = R := by unfold wisR; rw [if_neg (fun z => z.2 c35)]
       have e3 : wisP T R P n v = P := by unfold wisP; rw [if_neg (fun z => z.2 c35)]
       rw [e1, e2, e3]
       exact ⟨rfl, ⟨c, r, hr0⟩, kq_rf M⟩)
  · refine v_iload_n dX3_wishes_12 rfl ?_
    refine v_if_lt (tgt := 21) dX3_wishes_13 (by decide) (fun c13 => ?_) (fun c13 => ?_)
    · refine v_iconst (v := (-1)) dX3_wishes_21 (by decide) ?_
      refine v_iret dX3_wishes_22 rfl ?_
      first
      | (have hb : ¬ (so T n = 0 ∧ (nI 0 ≤ v ∧ v ≤ nI 1)) := fun z => c9 z.1
         have e1 : wisA T R n v = (-1) := by unfold wisA; rw [if_neg hb]
         have e2 : wisR T R n v = R := by unfold wisR; rw [if_neg (fun z => hb z.1)]
         have e3 : wisP T R P n v = P := by unfold wisP; rw [if_neg (fun z => hb z.1)]
         rw [e1, e2, e3]
         exact ⟨rfl, ⟨c, r, hr0⟩, kq_rf M⟩)
      | (have hb : ¬ (so T n = 0 ∧ (nI 0 ≤ v ∧ v ≤ nI 1)) := fun z => absurd c13 (Int32.not_lt.mpr z.2.1)
         have e1 : wisA T R n v = (-1) := by unfold wisA; rw [if_neg hb]
         have e2 : wisR T R n v = R := by unfold wisR; rw [if_neg (fun z => hb z.1)]
         have e3 : wisP T R P n v = P := by unfold wisP; rw [if_neg (fun z => hb z.1)]
         rw [e1, e2, e3]
         exact ⟨rfl, ⟨c, r, hr0⟩, kq_rf M⟩)
      | (have hb : ¬ (so T n = 0 ∧ (nI 0 ≤ v ∧ v ≤ nI 1)) := fun z => c18 z.2.2
         have e1 : wisA T R n v = (-1) := by unfold wisA; rw [if_neg hb]
         have e2 : wisR T R n v = R := by unfold wisR; rw [if_neg (fun z => hb z.1)]
         have e3 : wisP T R P n v = P := by unfold wisP; rw [if_neg (fun z => hb z.1)]
         rw [e1, e2, e3]
         exact ⟨rfl, ⟨c, r, hr0⟩, kq_rf M⟩)
      | (have hok : so T n = 0 ∧ (nI 0 ≤ v ∧ v ≤ nI 1) := ⟨c9, Int32.not_lt.mp c13, c18⟩
         have e1 : wisA T R n v = (-2) := by unfold wisA; rw [if_pos hok, if_pos c35]
         have e2 : wisR T R n v = R := by unfold wisR; rw [if_neg (fun z => z.2 c35)]
         have e3 : wisP T R P n v = P := by unfold wisP; rw [if_neg (fun z => z.2 c35)]
         rw [e1, e2, e3]
         exact ⟨rfl, ⟨c, r, hr0⟩, kq_rf M⟩)
    · refine v_iload_n dX3_wishes_16 rfl ?_
      refine v_iconst (v := (nI 1)) dX3_wishes_17 rfl ?_
      refine v_icmp_le (tgt := 23) dX3_wishes_18 (by decide) (fun c18 => ?_) (fun c18 => ?_)
      · refine v_aload_n dX3_wishes_23 rfl ?_
        refine v_getR (t := 24) dX3_wishes_24 fl_X3_29 ⟨by decide, rfl, by decide⟩ rfl rfl ?_
        refine v_getR (t := 26) dX3_wishes_27 fl_X3_78 ⟨by decide, rfl, by decide⟩ rfl rfl ?_
        refine v_iload_n dX3_wishes_30 rfl ?_
        refine v_iald2 (n := 16) (a := n) (y := (R (20 + n))) dX3_wishes_31 ⟨by decide, rfl, rfl⟩ (rfl) (by omega) (hm.2.2 n hn c9) ?_
        refine v_istore_n (lv' := [(0, .ref 0), (1, .int (nI n)), (2, .int v), (3, .int (R (20 + n)))]) dX3_wishes_32 (Nat.le_of_ble_eq_true rfl) rfl ?_
        refine v_iload_n dX3_wishes_33 rfl ?_
        refine v_iload_n dX3_wishes_34 rfl ?_
        refine v_icmp_ne (tgt := 41) dX3_wishes_35 (by decide) (fun c35 => ?_) (fun c35 => ?_)
        · refine v_aload_n dX3_wishes_41 rfl ?_
          refine v_callV (as := []) (st := []) dX3_wishes_42 ml_X3_71 kv_X3_remember ⟨by decide, rfl, by decide⟩ ⟨(Nat.le_of_ble_eq_true rfl), (Nat.le_of_ble_eq_true rfl)⟩ rfl (Nat.le_of_ble_eq_true rfl) rfl (Nat.le_of_ble_eq_true rfl) (c_rem hr0 hp6) (fun v M1 hq => ?_)
          obtain ⟨rfl, hr1, hk1⟩ := hq
          refine v_aload_n dX3_wishes_45 rfl ?_
          refine v_getR (t := 24) dX3_wishes_46 fl_X3_29 ⟨by decide, rfl, by decide⟩ rfl rfl ?_
          refine v_getR (t := 26) dX3_wishes_49 fl_X3_78 ⟨by decide, rfl, by decide⟩ rfl rfl ?_
          refine v_iload_n dX3_wishes_52 rfl ?_
          refine v_iload_n dX3_wishes_53 rfl ?_
          refine v_iast (n := 16) (a := n) dX3_wishes_54 ⟨by decide, rfl, rfl⟩ (rfl) (by omega) ?_
          refine v_iload_n dX3_wishes_55 rfl ?_
          refine v_iret dX3_wishes_56 rfl ?_
          have hok : so T n = 0 ∧ (nI 0 ≤ v ∧ v ≤ nI 1) := ⟨c9, Int32.not_lt.mp c13, c18⟩
          have e1 : wisA T R n v = R (20 + n) := by unfold wisA; rw [if_pos hok, if_neg c35]
          have e2 : wisR T R n v = upd R (20 + n) v := by unfold wisR; rw [if_pos ⟨hok, c35⟩]
          have e3 : wisP T R P n v = (R :: P).take 6 := by unfold wisP; rw [if_pos ⟨hok, c35⟩]
          rw [e1, e2, e3]
          exact ⟨rfl, ⟨_, _, CLS_now hr1 (fun i a b => mup_ne (by omega)) (MOM_wish hW hr1.2.2.2.2.1 hn v)⟩, fun i a => (mup_ne (by omega)).trans (hk1 i a)⟩
        · refine v_bipush (v := (-2)) dX3_wishes_38 (by decide) ?_
          refine v_iret dX3_wishes_40 rfl ?_
          first
          | (have hb : ¬ (so T n = 0 ∧ (nI 0 ≤ v ∧ v ≤ nI 1)) := fun z => c9 z.1
             have e1 : wisA T R n v = (-1) := by unfold wisA; rw [if_neg hb]
             have e2 : wisR T R n v = R := by unfold wisR; rw [if_neg (fun z => hb z.1)]
             have e3 : wisP T R P n v = P := by unfold wisP; rw [if_neg (fun z => hb z.1)]
             rw [e1, e2, e3]
             exact ⟨rfl, ⟨c, r, hr0⟩, kq_rf M⟩)
          | (have hb : ¬ (so T n = 0 ∧ (nI 0 ≤ v ∧ v ≤ nI 1)) := fun z => absurd c13 (Int32.not_lt.mpr z.2.1)
             have e1 : wisA T R n v = (-1) := by unfold wisA; rw [if_neg hb]
             have e2 : wisR T R n v = R := by unfold wisR; rw [if_neg (fun z => hb z.1)]
             have e3 : wisP T R P n v = P := by unfold wisP; rw [if_neg (fun z => hb z.1)]
             rw [e1, e2, e3]
             exact ⟨rfl, ⟨c, r, hr0⟩, kq_rf M⟩)
          | (have hb : ¬ (so T n = 0 ∧ (nI 0 ≤ v ∧ v ≤ nI 1)) := fun z => c18 z.2.2
             have e1 : wisA T R n v = (-1) := by unfold wisA; rw [if_neg hb]
             have e2 : wisR T R n v = R := by unfold wisR; rw [if_neg (fun z => hb z.1)]
             have e3 : wisP T R P n v = P := by unfold wisP; rw [if_neg (fun z => hb z.1)]
             rw [e1, e2, e3]
             exact ⟨rfl, ⟨c, r, hr0⟩, kq_rf M⟩)
          | (have hok : so T n = 0 ∧ (nI 0 ≤ v ∧ v ≤ nI 1) := ⟨c9, Int32.not_lt.mp c13, c18⟩
             have e1 : wisA T R n v = (-2) := by unfold wisA; rw [if_pos hok, if_pos c35]
             have e2 : wisR T R n v = R := by unfold wisR; rw [if_neg (fun z => z.2 c35)]
             have e3 : wisP T R P n v = P := by unfold wisP; rw [if_neg (fun z => z.2 c35)]
             rw [e1, e2, e3]
             exact ⟨rfl, ⟨c, r, hr0⟩, kq_rf M⟩)
      · refine v_iconst (v := (-1)) dX3_wishes_21 (by decide) ?_
        refine v_iret dX3_wishes_22 rfl ?_
        first
        | (have hb : ¬ (so T n = 0 ∧ (nI 0 ≤ v ∧ v ≤ nI 1)) := fun z => c9 z.1
           have e1 : wisA T R n v = (-1) := by unfold wisA; rw [if_neg hb]
           have e2 : wisR T R n v = R := by unfold wisR; rw [if_neg (fun z => hb z.1)]
           have e3 : wisP T R P n v = P := by unfold wisP; rw [if_neg (fun z => hb z.1)]
           rw [e1, e2, e3]
           exact ⟨rfl, ⟨c, r, hr0⟩, kq_rf M⟩)
        | (have hb : ¬ (so T n = 0 ∧ (nI 0 ≤ v ∧ v ≤ nI 1)) := fun z => absurd c13 (Int32.not_lt.mpr z.2.1)
           have e1 : wisA T R n v = (-1) := by unfold wisA; rw [if_neg hb]
           have e2 : wisR T R n v = R := by unfold wisR; rw [if_neg (fun z => hb z.1)]
           have e3 : wisP T R P n v = P := by unfold wisP; rw [if_neg (fun z => hb z.1)]
           rw [e1, e2, e3]
           exact ⟨rfl, ⟨c, r, hr0⟩, kq_rf M⟩)
        | (have hb : ¬ (so T n = 0 ∧ (nI 0 ≤ v ∧ v ≤ nI 1)) := fun z => c18 z.2.2
           have e1 : wisA T R n v = (-1) := by unfold wisA; rw [if_neg hb]
           have e2 : wisR T R n v = R := by unfold wisR; rw [if_neg (fun z => hb z.1)]
           have e3 : wisP T R P n v = P := by unfold wisP; rw [if_neg (fun z => hb z.1)]
           rw [e1, e2, e3]
           exact ⟨rfl, ⟨c, r, hr0⟩, kq_rf M⟩)
        | (have hok : so T n = 0 ∧ (nI 0 ≤ v ∧ v ≤ nI 1) := ⟨c9, Int32.not_lt.mp c13, c18⟩
           have e1 : wisA T R n v = (-2) := by unfold wisA; rw [if_pos hok, if_pos c35]
           have e2 : wisR T R n v = R := by unfold wisR; rw [if_neg (fun z => z.2 c35)]
           have e3 : wisP T R P n v = P := by unfold wisP; rw [if_neg (fun z => z.2 c35)]
           rw [e1, e2, e3]
           exact ⟨rfl, ⟨c, r, hr0⟩, kq_rf M⟩)
end C49
