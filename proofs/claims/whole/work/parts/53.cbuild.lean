/-! the class's circuit as it is told -/
def SAM (n : Nat) (D D' : Nat → Int32) : Prop := ∀ m, m < n → so D' m = so D m ∧ ck D' m = ck D m ∧ ∀ k, k < 3 → pt D' m k = pt D m k
section C53a
variable {D D' : Nat → Int32} {n : Nat}
theorem lvG_d {f g : Nat → Int32} {m : Nat} : ∀ {k : Nat}, (∀ j, j < k → pt D' m j = pt D m j) → (∀ j, j < k → f (pt D m j) = g (pt D m j)) → lvG D' f m k = lvG D g m k
  | 0, _, _ => rfl
  | k + 1, h1, h2 => by
    simp only [lvG]
    rw [lvG_d (fun j hj => h1 j (by omega)) (fun j hj => h2 j (by omega)), h1 k (by omega), h2 k (by omega)]
theorem lvF_sam (hW : WF D) (hW' : WF D') (hn : n ≤ nN D) (hn' : n ≤ nN D') (h : SAM n D D') : ∀ m, m < n → lvF D' m = lvF D m := by
  intro m
  induction m using Nat.strongRecOn with
  | ind m ih =>
    intro hm
    have hk3 := hmF_le (so D m)
    have e := lvG_d (f := lvF D') (g := lvF D) (k := hmF (so D m)) (fun j hj => (h m hm).2.2 j (by omega)) (fun j hj => ih _ (hW.ptlt (show m < nN D by omega) hj) (by have := hW.ptlt (show m < nN D by omega) hj; omega))
    rw [lvF_eq hW (show m < nN D by omega), lvF_eq hW' (show m < nN D' by omega), (h m hm).1, e]
theorem pbF_sam (h : SAM n D D') {m : Nat} (hm : m < n) : pbF D' m = pbF D m := by
  unfold pbF
  rw [(h m hm).1]
  have hk3 := hmF_le (so D m)
  have key : ∀ k, k ≤ hmF (so D m) → pbN D' m k = pbN D m k := by
    intro k
    induction k with
    | zero => intro _; rfl
    | succ k ihk =>
      intro hk
      simp only [pbN]
      rw [ihk (by omega), (h m hm).2.2 k (by omega)]
  exact key _ (Nat.le_refl _)
theorem frF_sam (hW : WF D) (hW' : WF D') (hn : n ≤ nN D) (hn' : n ≤ nN D') (h : SAM n D D') {m : Nat} (hm : m < n) (h1 : so D m = 1) : frF D' m = frF D m := by
  have h16 := hW.n16
  have hp := hW.ptlt (show m < nN D by omega) (show 0 < hmF (so D m) by rw [h1]; decide)
  apply b_ext
  intro i hi
  have key : bt (frF D' m) i = true ↔ bt (frF D m) i = true := by
    rw [frF_b hW' hi, frF_b hW hi, (h m hm).2.2 0 (by decide), lvF_sam hW hW' hn hn' h _ (by omega), (h m hm).2.1]
    constructor
    · rintro ⟨a, b⟩
      have hl := lvF_b hW _ (show pt D m 0 < nN D by omega) i hi a
      have hs := h i (by omega)
      refine ⟨a, fun z => b ⟨by omega, ?_, ?_⟩⟩
      · rw [hs.1]; exact z.2.1
      · rw [hs.2.1]; exact z.2.2
    · rintro ⟨a, b⟩
      have hl := lvF_b hW _ (show pt D m 0 < nN D by omega) i hi a
      have hs := h i (by omega)
      refine ⟨a, fun z => b ⟨by omega, ?_, ?_⟩⟩
      · rw [← hs.1]; exact z.2.1
      · rw [← hs.2.1]; exact z.2.2
  cases hx : bt (frF D m) i with
  | true => exact key.mpr hx
  | false =>
    cases hy : bt (frF D' m) i with
    | false => rfl
    | true => rw [key.mp hy] at hx; cases hx
theorem mkB_sam {a b : Nat} : ∀ {K : Nat}, (∀ i, i < 2 * K → mk D' i = mk D i) → mkB D' a b K = mkB D a b K
  | 0, _ => rfl
  | K + 1, h => by
    simp only [mkB]
    rw [mkB_sam (fun i hi => h i (by omega)), h (2 * K) (by omega), h (2 * K + 1) (by omega)]
theorem mkB_new {a b : Nat} : ∀ {K : Nat}, (∀ i, i < 2 * K → mk D i ≠ a) → mkB D a b K = false
  | 0, _ => rfl
  | K + 1, h => by
    simp only [mkB]
    rw [mkB_new (fun i hi => h i (by omega))]
    have h1 := h (2 * K) (by omega)
    have h2 := h (2 * K + 1) (by omega)
    simp [h1, h2]
end C53a
section C53
variable {M M' M0 : vM} {c : Nat} {D D' : Nat → Int32}
/-- a node more -/
theorem CIR0_ext (h : CIR0 M c D) (hW : WF D) (hW' : WF D') (hN : nN D' = nN D + 1) (hK : nK D' = nK D) (hs : SAM (nN D) D D') (hm : ∀ i, i < 2 * nK D → mk D' i = mk D i) (hp : ∀ j, j < 3 → pe D' j = pe D j)
    (e0 : M' c 0 = nI (nN D + 1)) (e1 : M' c 1 = M c 1) (er : ∀ i, 1 ≤ i → i ≤ 8 → ∀ j, (if i = 3 then j < 3 * nN D else j < nN D) → M' (c + i) j = M (c + i) j) (e9 : M' (c + 9) = M (c + 9))
    (n1 : M' (c + 1) (nN D) = nI (so D' (nN D))) (n2 : M' (c + 2) (nN D) = if so D' (nN D) ≤ 1 then nI (ck D' (nN D)) else (-9)) (n3 : ∀ k, k < 3 → M' (c + 3) (nN D * 3 + k) = if k < hmF (so D' (nN D)) then nI (pt D' (nN D) k) else (-9))
    (n4 : M' (c + 4) (nN D) = pbF D' (nN D)) (n5 : M' (c + 5) (nN D) = lvF D' (nN D)) (n6 : M' (c + 6) (nN D) = if so D' (nN D) = 1 then frF D' (nN D) else nI 0) (n8 : M' (c + 8) (nN D) = nI 0) : CIR0 M' c D' := by
  have old : ∀ n, n < nN D' → n ≠ nN D → n < nN D := fun n a b => by omega
  refine ⟨by rw [e0, hN], by rw [e1, hK]; exact h.mk, fun n hn => ?_, fun n hn => ?_, fun n hn k hk => ?_, fun n hn => ?_, fun n hn => ?_, fun n hn => ?_, fun n hn b hb => ?_, fun j hj => ?_⟩
  · by_cases e : n = nN D
    · rw [e]; exact n1
    · have ho := old n hn e
      rw [er 1 (by decide) (by decide) n (by rw [if_neg (by decide)]; exact ho), h.wh ho, (hs n ho).1]
  · by_cases e : n = nN D
    · rw [e]; exact n2
    · have ho := old n hn e
      rw [er 2 (by decide) (by decide) n (by rw [if_neg (by decide)]; exact ho), h.ck ho, (hs n ho).1, (hs n ho).2.1]
  · by_cases e : n = nN D
    · rw [e]; exact n3 k hk
    · have ho := old n hn e
      rw [er 3 (by decide) (by decide) (n * 3 + k) (by rw [if_pos rfl]; omega), h.pt ho hk, (hs n ho).1, (hs n ho).2.2 k hk]
  · by_cases e : n = nN D
    · rw [e]; exact n4
    · have ho := old n hn e
      rw [er 4 (by decide) (by decide) n (by rw [if_neg (by decide)]; exact ho), h.pb ho, pbF_sam hs ho]
  · by_cases e : n = nN D
    · rw [e]; exact n5
    · have ho := old n hn e
      rw [er 5 (by decide) (by decide) n (by rw [if_neg (by decide)]; exact ho), h.lv ho, lvF_sam hW hW' (Nat.le_refl _) (by omega) hs n ho]
  · by_cases e : n = nN D
    · rw [e]; exact n6
    · have ho := old n hn e
      rw [er 6 (by decide) (by decide) n (by rw [if_neg (by decide)]; exact ho), h.fr ho, (hs n ho).1]
      split
      · rw [frF_sam hW hW' (Nat.le_refl _) (by omega) hs ho (by assumption)]
      · rfl
  · rw [hK, mkB_sam hm]
    by_cases e : n = nN D
    · rw [e, n8, show bt (nI 0) b = false from b_0 b, mkB_new (fun i hi => by have := (hW.2.2.2.2.2.1 i hi).2.1; omega)]
    · have ho := old n hn e
      rw [er 8 (by decide) (by decide) n (by rw [if_neg (by decide)]; exact ho), h.mb ho hb]
  · rw [e9, h.pe hj, hp j hj]
theorem CIR0_up (h : CIR0 M c D) {i j : Nat} {x : Int32} (hi : 1 ≤ i ∧ i ≤ 8) (hj : if i = 3 then 3 * nN D ≤ j else nN D ≤ j) : CIR0 (mup M (c + i) j x) c D := by
  have e : ∀ q, q ≠ i → mup M (c + i) j x (c + q) = M (c + q) := fun q hq => mup_ne (by omega)
  have e' : ∀ q a, (q = i → a ≠ j) → mup M (c + i) j x (c + q) a = M (c + q) a := fun q a hq => by
    by_cases z : q = i
    · rw [z, mup_eq, upd_ne (hq z)]
    · rw [e q z]
  have z0 : mup M (c + i) j x c = M c := mup_ne (by omega)
  refine ⟨by rw [z0]; exact h.nd, by rw [z0]; exact h.mk, fun n hn => ?_, fun n hn => ?_, fun n hn k hk => ?_, fun n hn => ?_, fun n hn => ?_, fun n hn => ?_, fun n hn b hb => ?_, fun a ha => ?_⟩
  · rw [e' 1 n (fun z => by subst z; simp at hj; omega)]; exact h.wh hn
  · rw [e' 2 n (fun z => by subst z; simp at hj; omega)]; exact h.ck hn
  · rw [e' 3 (n * 3 + k) (fun z => by subst z; simp at hj; omega)]; exact h.pt hn hk
  · rw [e' 4 n (fun z => by subst z; simp at hj; omega)]; exact h.pb hn
  · rw [e' 5 n (fun z => by subst z; simp at hj; omega)]; exact h.lv hn
  · rw [e' 6 n (fun z => by subst z; simp at hj; omega)]; exact h.fr hn
  · rw [e' 8 n (fun z => by subst z; simp at hj; omega)]; exact h.mb hn hb
  · rw [e' 9 a (fun z => by omega)]; exact h.pe ha
/-- the same nodes, other marks or periods -/
theorem CIR0_alt (h : CIR0 M c D) (hW : WF D) (hW' : WF D') (hN : nN D' = nN D) (hs : SAM (nN D) D D') (e0 : M' c 0 = M c 0) (e1 : M' c 1 = nI (nK D')) (er : ∀ i, 1 ≤ i → i ≤ 6 → M' (c + i) = M (c + i)) (e8 : ∀ n, n < nN D → ∀ b, b < 16 → bt (M' (c + 8) n) b = mkB D' n b (nK D')) (e9 : ∀ j, j < 3 → M' (c + 9) j = nI (pe D' j)) : CIR0 M' c D' := by
  refine ⟨by rw [e0, hN]; exact h.nd, e1, fun n hn => ?_, fun n hn => ?_, fun n hn k hk => ?_, fun n hn => ?_, fun n hn => ?_, fun n hn => ?_, fun n hn b hb => ?_, e9⟩
  · rw [er 1 (by decide) (by decide), h.wh (by omega), (hs n (by omega)).1]
  · rw [er 2 (by decide) (by decide), h.ck (by omega), (hs n (by omega)).1, (hs n (by omega)).2.1]
  · rw [er 3 (by decide) (by decide), h.pt (by omega) hk, (hs n (by omega)).1, (hs n (by omega)).2.2 k hk]
  · rw [er 4 (by decide) (by decide), h.pb (by omega), pbF_sam hs (by omega)]
  · rw [er 5 (by decide) (by decide), h.lv (by omega), lvF_sam hW hW' (Nat.le_refl _) (by omega) hs n (by omega)]
  · rw [er 6 (by decide) (by decide), h.fr (by omega), (hs n (by omega)).1]
    split
    · rw [frF_sam hW hW' (Nat.le_refl _) (by omega) hs (show n < nN D by omega) (by assumption)]
    · rfl
  · exact e8 n (by omega) b hb
/-- leaves that change by another clock -/
def ulN (D : Nat → Int32) (cl : Nat) (s : Int32) : Nat → Int32
  | 0 => s
  | k + 1 => if so D k ≤ 1 ∧ ck D k = cl then ulN D cl s k &&& (bx k ^^^ (-1)) else ulN D cl s k
theorem ulN_b {cl : Nat} {s : Int32} {b : Nat} (hb : b < 32) : ∀ {k : Nat}, k ≤ 32 → (bt (ulN D cl s k) b = true ↔ bt s b = true ∧ ¬ (b < k ∧ so D b ≤ 1 ∧ ck D b = cl))
  | 0, _ => by simp [ulN]
  | k + 1, hk => by
    simp only [ulN]
    by_cases hc : so D k ≤ 1 ∧ ck D k = cl
    · rw [if_pos hc, b_and, Bool.and_eq_true, ulN_b hb (by omega), b_not _ hb, b_bx (by omega) hb]
      by_cases e : b = k
      · subst e; simp [hc]
      · simp only [e, decide_false, Bool.not_false, and_true]
        constructor
        · rintro ⟨h1, h2⟩; exact ⟨h1, fun h => h2 ⟨by omega, h.2⟩⟩
        · rintro ⟨h1, h2⟩; exact ⟨h1, fun h => h2 ⟨by omega, h.2⟩⟩
    · rw [if_neg hc, ulN_b hb (by omega)]
      constructor
      · rintro ⟨h1, h2⟩
        refine ⟨h1, fun h => h2 ⟨?_, h.2⟩⟩
        rcases Nat.lt_or_ge b k with a | a
        · exact a
        · have : b = k := by omega
          subst this; exact absurd h.2 hc
      · rintro ⟨h1, h2⟩; exact ⟨h1, fun h => h2 ⟨by omega, h.2⟩⟩
theorem ul_fr (hW : WF D) (hW' : WF D') (hN : nN D' = nN D + 1) (hs : SAM (nN D) D D') (h1 : so D' (nN D) = 1) : frF D' (nN D) = ulN D (ck D' (nN D)) (lvF D (pt D' (nN D) 0)) (nN D) := by
  have h16 := hW.n16
  have hp := hW'.ptlt (show nN D < nN D' by omega) (show 0 < hmF (so D' (nN D)) by rw [h1]; decide)
  apply b_ext
  intro i hi
  have key : bt (frF D' (nN D)) i = true ↔ bt (ulN D (ck D' (nN D)) (lvF D (pt D' (nN D) 0)) (nN D)) i = true := by
    rw [frF_b hW' hi, ulN_b hi (by omega), lvF_sam hW hW' (Nat.le_refl _) (by omega) hs _ hp]
    constructor
    · rintro ⟨a, b⟩
      have hl := lvF_b hW _ hp i hi a
      have hs := hs i (by omega)
      refine ⟨a, fun z => b ⟨by omega, ?_, ?_⟩⟩
      · rw [hs.1]; exact z.2.1
      · rw [hs.2.1]; exact z.2.2
    · rintro ⟨a, b⟩
      have hl := lvF_b hW _ hp i hi a
      have hs := hs i (by omega)
      refine ⟨a, fun z => b ⟨by omega, ?_, ?_⟩⟩
      · rw [← hs.1]; exact z.2.1
      · rw [← hs.2.1]; exact z.2.2
  cases hx : bt (ulN D (ck D' (nN D)) (lvF D (pt D' (nN D) 0)) (nN D)) i with
  | true => exact key.mpr hx
  | false =>
    cases hy : bt (frF D' (nN D)) i with
    | false => rfl
    | true => rw [key.mp hy] at hx; cases hx
theorem ck_eq (h : CIR0 M c D) (hW : WF D) {k cl : Nat} (hk : k < nN D) (hcl : cl ≤ 2) : M (c + 2) k = nI cl ↔ so D k ≤ 1 ∧ ck D k = cl := by
  have := hW.ck2 hk
  rw [h.ck hk]
  by_cases h1 : so D k ≤ 1
  · rw [if_pos h1, nI_eq (by omega) (by omega)]; simp [h1]
  · rw [if_neg h1]
    exact ⟨fun e => absurd (nI_pos' (n := cl) (by omega)) (by rw [← e]; decide), fun e => absurd e.1 h1⟩
set_option maxRecDepth 100000 in
theorem l_unlike (hc : c = 4 ∨ c = 14) (h : CIR0 M c D) (hW : WF D) {s : Int32} {cl : Nat} (hcl : cl ≤ 2) (d : Nat) : ∀ (k : Nat), k + d = nN D → V kX0_unlikeClock (rt (.int (ulN D cl s (nN D))) M) M 5 [(0, .ref c), (1, .int s), (2, .int (nI cl)), (3, .int (ulN D cl s k)), (4, .int (nI k))] [] := by
  have h16 := hW.n16
  induction d with
  | zero =>
    intro k hk 
    refine v_iload dX0_unlikeClock_5 rfl ?_
    refine v_aload_n dX0_unlikeClock_7 rfl ?_
    refine v_getI2 (y := (nI (nN D))) dX0_unlikeClock_8 fl_X0_47 (ob_c hc) rfl (h.nd) ?_
    refine v_icmpN_ge (tgt := 40) dX0_unlikeClock_11 (by decide) (by omega) (by omega) (fun c11 => ?_) (fun c11 => (by omega))
    refine v_iload_n dX0_unlikeClock_40 rfl ?_
    refine v_iret dX0_unlikeClock_41 rfl ?_
    refine ⟨?_, rfl⟩
    rw [show nN D = k by omega]
  | succ d ih =>
    intro k hk 
    refine v_iload dX0_unlikeClock_5 rfl ?_
    refine v_aload_n dX0_unlikeClock_7 rfl ?_
    refine v_getI2 (y := (nI (nN D))) dX0_unlikeClock_8 fl_X0_47 (ob_c hc) rfl (h.nd) ?_
    refine v_icmpN_ge (tgt := 40) dX0_unlikeClock_11 (by decide) (by omega) (by omega) (fun c11 => (by omega)) (fun c11 => ?_)
    refine v_aload_n dX0_unlikeClock_14 rfl ?_
    refine v_getR (t := c + 2) dX0_unlikeClock_15 fl_X0_15 (ob_c hc) rfl rfl ?_
    refine v_iload dX0_unlikeClock_18 rfl ?_
    refine v_iald (n := 16) (a := k) dX0_unlikeClock_20 (ar_c2 hc) (rfl) (by omega) ?_
    refine v_iload_n dX0_unlikeClock_21 rfl ?_
    refine v_icmp_ne (tgt := 34) dX0_unlikeClock_22 (by decide) (fun c22 => ?_) (fun c22 => ?_)
    · refine v_iincN (lv' := [(0, .ref c), (1, .int s), (2, .int (nI cl)), (3, .int (ulN D cl s k)), (4, .int (nI (k + 1)))]) dX0_unlikeClock_34 rfl (Nat.le_of_ble_eq_true rfl) rfl ?_
      refine v_goto (tgt := 5) dX0_unlikeClock_37 (by decide) ?_
      have h2 := ih (k + 1) (by omega)
      simp only [ulN] at h2
      rw [if_neg (fun z => c22 ((ck_eq h hW (by omega) hcl).mpr z))] at h2; exact h2
    · refine v_iload_n dX0_unlikeClock_25 rfl ?_
      refine v_iconst (v := (nI 1)) dX0_unlikeClock_26 rfl ?_
      refine v_iload dX0_unlikeClock_27 rfl ?_
      refine v_ishl dX0_unlikeClock_29 ?_
      refine v_iconst (v := (-1)) dX0_unlikeClock_30 (by decide) ?_
      refine v_ixor dX0_unlikeClock_31 ?_
      refine v_iand dX0_unlikeClock_32 ?_
      refine v_istore_n (lv' := [(0, .ref c), (1, .int s), (2, .int (nI cl)), (3, .int ((ulN D cl s k) &&& (((nI 1) <<< ((nI k) &&& 31)) ^^^ ((-1))))), (4, .int (nI k))]) dX0_unlikeClock_33 (Nat.le_of_ble_eq_true rfl) rfl ?_
      refine v_iincN (lv' := [(0, .ref c), (1, .int s), (2, .int (nI cl)), (3, .int ((ulN D cl s k) &&& (((nI 1) <<< ((nI k) &&& 31)) ^^^ ((-1))))), (4, .int (nI (k + 1)))]) dX0_unlikeClock_34 rfl (Nat.le_of_ble_eq_true rfl) rfl ?_
      refine v_goto (tgt := 5) dX0_unlikeClock_37 (by decide) ?_
      have h2 := ih (k + 1) (by omega)
      simp only [ulN] at h2
      rw [if_pos ((ck_eq h hW (by omega) hcl).mp c22)] at h2; exact h2
set_option maxRecDepth 100000 in
theorem c_unlike (hc : c = 4 ∨ c = 14) (h : CIR0 M c D) (hW : WF D) {s : Int32} {cl : Nat} (hcl : cl ≤ 2) : V kX0_unlikeClock (rt (.int (ulN D cl s (nN D))) M) M 0 [(0, .ref c), (1, .int s), (2, .int (nI cl))] [] := by
  have h16 := hW.n16
  refine v_iload_n dX0_unlikeClock_0 rfl ?_
  refine v_istore_n (lv' := [(0, .ref c), (1, .int s), (2, .int (nI cl)), (3, .int s)]) dX0_unlikeClock_1 (Nat.le_of_ble_eq_true rfl) rfl ?_
  refine v_iconst (v := (nI 0)) dX0_unlikeClock_2 rfl ?_
  refine v_istore (lv' := [(0, .ref c), (1, .int s), (2, .int (nI cl)), (3, .int s), (4, .int (nI 0))]) dX0_unlikeClock_3 (Nat.le_of_ble_eq_true rfl) rfl ?_
  exact l_unlike hc h hW hcl (nN D) 0 (by omega)
set_option maxRecDepth 100000 in
theorem c_part0 (hc : c = 4 ∨ c = 14) (h : CIR0 M c D) (hW : WF D) {i : Nat} (hi : i < 3) (hn : nN D < 16) : V kX0_addPart (rv (mup M (c + 3) (nN D * 3 + i) (-9))) M 0 [(0, .ref c), (1, .int (nI (nN D))), (2, .int (nI i)), (3, .int ((-9)))] [] := by
  have h16 := hW.n16
  have h1 := CIR0_up h (i := 3) (j := nN D * 3 + i) (x := (-9)) (by decide) (by rw [if_pos rfl]; omega)
  refine v_aload_n dX0_addPart_0 rfl ?_
  refine v_getR (t := c + 3) dX0_addPart_1 fl_X0_18 (ob_c hc) rfl rfl ?_
  refine v_iload_n dX0_addPart_4 rfl ?_
  refine v_iconst (v := (nI 3)) dX0_addPart_5 rfl ?_
  refine v_imulN dX0_addPart_6 ?_
  refine v_iload_n dX0_addPart_7 rfl ?_
  refine v_iaddN dX0_addPart_8 ?_
  refine v_iload_n dX0_addPart_9 rfl ?_
  refine v_iast (n := 48) (a := (nN D) * 3 + i) dX0_addPart_10 (ar_c3 hc) (rfl) (by omega) ?_
  refine v_aload_n dX0_addPart_11 rfl ?_
  refine v_iload_n dX0_addPart_12 rfl ?_
  refine v_callVr (x := .int (nI 0)) (M1 := mup M (c + 3) ((nN D) * 3 + i) (((-9)))) (as := [.int ((-9))]) (st := []) dX0_addPart_13 ml_X0_68 kv_X0_isNode (ob_c hc) ⟨(Nat.le_of_ble_eq_true rfl), (Nat.le_of_ble_eq_true rfl)⟩ rfl (Nat.le_of_ble_eq_true rfl) rfl (Nat.le_of_ble_eq_true rfl) (c_cNode0 hc h1 hW (fun z => absurd z.1 (by decide))) ?_
  refine v_ifN_eq (tgt := 56) dX0_addPart_16 (by decide) (by decide) (fun c16 => ?_) (fun c16 => (absurd rfl c16))
  refine v_vret dX0_addPart_56 rfl ?_
  exact ⟨rfl, rfl⟩
set_option maxRecDepth 100000 in
theorem c_partR (hc : c = 4 ∨ c = 14) (h : CIR0 M c D) (hW : WF D) {i q : Nat} (hi : i < 3) (hn : nN D < 16) (hq : q < nN D) {B : Int32} (hB : M (c + 4) (nN D) = B) {s : Nat} (hs : s = 1) (hwh : M (c + 1) (nN D) = nI s) : V kX0_addPart (rv (mup (mup M (c + 3) (nN D * 3 + i) (nI q)) (c + 4) (nN D) (B ||| bx q))) M 0 [(0, .ref c), (1, .int (nI (nN D))), (2, .int (nI i)), (3, .int (nI q))] [] := by
  have h16 := hW.n16
  have h1 := CIR0_up h (i := 3) (j := nN D * 3 + i) (x := nI q) (by decide) (by rw [if_pos rfl]; omega)
  refine v_aload_n dX0_addPart_0 rfl ?_
  refine v_getR (t := c + 3) dX0_addPart_1 fl_X0_18 (ob_c hc) rfl rfl ?_
  refine v_iload_n dX0_addPart_4 rfl ?_
  refine v_iconst (v := (nI 3)) dX0_addPart_5 rfl ?_
  refine v_imulN dX0_addPart_6 ?_
  refine v_iload_n dX0_addPart_7 rfl ?_
  refine v_iaddN dX0_addPart_8 ?_
  refine v_iload_n dX0_addPart_9 rfl ?_
  refine v_iast (n := 48) (a := (nN D) * 3 + i) dX0_addPart_10 (ar_c3 hc) (rfl) (by omega) ?_
  refine v_aload_n dX0_addPart_11 rfl ?_
  refine v_iload_n dX0_addPart_12 rfl ?_
  refine v_callVr (x := .int (nI 1)) (M1 := mup M (c + 3) ((nN D) * 3 + i) ((nI q))) (as := [.int (nI q)]) (st := []) dX0_addPart_13 ml_X0_68 kv_X0_isNode (ob_c hc) ⟨(Nat.le_of_ble_eq_true rfl), (Nat.le_of_ble_eq_true rfl)⟩ rfl (Nat.le_of_ble_eq_true rfl) rfl (Nat.le_of_ble_eq_true rfl) (c_cNode hc h1 hW hq) ?_
  refine v_ifN_eq (tgt := 56) dX0_addPart_16 (by decide) (by decide) (fun c16 => (absurd c16 (by decide))) (fun c16 => ?_)
  refine v_aload_n dX0_addPart_19 rfl ?_
  refine v_getR (t := c + 4) dX0_addPart_20 fl_X0_21 (ob_c hc) rfl rfl ?_
  refine v_iload_n dX0_addPart_23 rfl ?_
  refine v_dup2 dX0_addPart_24 rfl rfl ?_
  refine v_iald2 (n := 16) (a := nN D) (y := B) dX0_addPart_25 (ar_c4 hc) (rfl) (by omega) (by rw [mup_ne (by omega)]; exact hB) ?_
  refine v_iconst (v := (nI 1)) dX0_addPart_26 rfl ?_
  refine v_iload_n dX0_addPart_27 rfl ?_
  refine v_ishl dX0_addPart_28 ?_
  refine v_ior dX0_addPart_29 ?_
  refine v_iast (n := 16) (a := nN D) dX0_addPart_30 (ar_c4 hc) (rfl) (by omega) ?_
  refine v_aload_n dX0_addPart_31 rfl ?_
  refine v_getR (t := c + 1) dX0_addPart_32 fl_X0_9 (ob_c hc) rfl rfl ?_
  refine v_iload_n dX0_addPart_35 rfl ?_
  refine v_iald2 (n := 16) (a := nN D) (y := (nI s)) dX0_addPart_36 (ar_c1 hc) (rfl) (by omega) (by rw [mup_ne (by omega), mup_ne (by omega)]; exact hwh) ?_
  refine v_iconst (v := (nI 1)) dX0_addPart_37 rfl ?_
  refine v_icmpN_eq (tgt := 56) dX0_addPart_38 (by decide) (by omega) (by omega) (fun c38 => ?_) (fun c38 => (absurd hs c38))
  refine v_vret dX0_addPart_56 rfl ?_
  exact ⟨rfl, rfl⟩
set_option maxRecDepth 100000 in
theorem c_partG (hc : c = 4 ∨ c = 14) (h : CIR0 M c D) (hW : WF D) {i q : Nat} (hi : i < 3) (hn : nN D < 16) (hq : q < nN D) {B L : Int32} (hB : M (c + 4) (nN D) = B) (hL : M (c + 5) (nN D) = L) {s : Nat} (hs : s ≠ 1) (hs5 : s ≤ 5) (hwh : M (c + 1) (nN D) = nI s) : V kX0_addPart (rv (mup (mup (mup M (c + 3) (nN D * 3 + i) (nI q)) (c + 4) (nN D) (B ||| bx q)) (c + 5) (nN D) (L ||| lvF D q))) M 0 [(0, .ref c), (1, .int (nI (nN D))), (2, .int (nI i)), (3, .int (nI q))] [] := by
  have h16 := hW.n16
  have h1 := CIR0_up h (i := 3) (j := nN D * 3 + i) (x := nI q) (by decide) (by rw [if_pos rfl]; omega)
  refine v_aload_n dX0_addPart_0 rfl ?_
  refine v_getR (t := c + 3) dX0_addPart_1 fl_X0_18 (ob_c hc) rfl rfl ?_
  refine v_iload_n dX0_addPart_4 rfl ?_
  refine v_iconst (v := (nI 3)) dX0_addPart_5 rfl ?_
  refine v_imulN dX0_addPart_6 ?_
  refine v_iload_n dX0_addPart_7 rfl ?_
  refine v_iaddN dX0_addPart_8 ?_
  refine v_iload_n dX0_addPart_9 rfl ?_
  refine v_iast (n := 48) (a := (nN D) * 3 + i) dX0_addPart_10 (ar_c3 hc) (rfl) (by omega) ?_
  refine v_aload_n dX0_addPart_11 rfl ?_
  refine v_iload_n dX0_addPart_12 rfl ?_
  refine v_callVr (x := .int (nI 1)) (M1 := mup M (c + 3) ((nN D) * 3 + i) ((nI q))) (as := [.int (nI q)]) (st := []) dX0_addPart_13 ml_X0_68 kv_X0_isNode (ob_c hc) ⟨(Nat.le_of_ble_eq_true rfl), (Nat.le_of_ble_eq_true rfl)⟩ rfl (Nat.le_of_ble_eq_true rfl) rfl (Nat.le_of_ble_eq_true rfl) (c_cNode hc h1 hW hq) ?_
  refine v_ifN_eq (tgt := 56) dX0_addPart_16 (by decide) (by decide) (fun c16 => (absurd c16 (by decide))) (fun c16 => ?_)
  refine v_aload_n dX0_addPart_19 rfl ?_
  refine v_getR (t := c + 4) dX0_addPart_20 fl_X0_21 (ob_c hc) rfl rfl ?_
  refine v_iload_n dX0_addPart_23 rfl ?_
  refine v_dup2 dX0_addPart_24 rfl rfl ?_
  refine v_iald2 (n := 16) (a := nN D) (y := B) dX0_addPart_25 (ar_c4 hc) (rfl) (by omega) (by rw [mup_ne (by omega)]; exact hB) ?_
  refine v_iconst (v := (nI 1)) dX0_addPart_26 rfl ?_
  refine v_iload_n dX0_addPart_27 rfl ?_
  refine v_ishl dX0_addPart_28 ?_
  refine v_ior dX0_addPart_29 ?_
  refine v_iast (n := 16) (a := nN D) dX0_addPart_30 (ar_c4 hc) (rfl) (by omega) ?_
  refine v_aload_n dX0_addPart_31 rfl ?_
  refine v_getR (t := c + 1) dX0_addPart_32 fl_X0_9 (ob_c hc) rfl rfl ?_
  refine v_iload_n dX0_addPart_35 rfl ?_
  refine v_iald2 (n := 16) (a := nN D) (y := (nI s)) dX0_addPart_36 (ar_c1 hc) (rfl) (by omega) (by rw [mup_ne (by omega), mup_ne (by omega)]; exact hwh) ?_
  refine v_iconst (v := (nI 1)) dX0_addPart_37 rfl ?_
  refine v_icmpN_eq (tgt := 56) dX0_addPart_38 (by decide) (by omega) (by omega) (fun c38 => (absurd c38 hs)) (fun c38 => ?_)
  refine v_aload_n dX0_addPart_41 rfl ?_
  refine v_getR (t := c + 5) dX0_addPart_42 fl_X0_24 (ob_c hc) rfl rfl ?_
  refine v_iload_n dX0_addPart_45 rfl ?_
  refine v_dup2 dX0_addPart_46 rfl rfl ?_
  refine v_iald2 (n := 16) (a := nN D) (y := L) dX0_addPart_47 (ar_c5 hc) (rfl) (by omega) (by rw [mup_ne (by omega), mup_ne (by omega)]; exact hL) ?_
  refine v_aload_n dX0_addPart_48 rfl ?_
  refine v_getR (t := c + 5) dX0_addPart_49 fl_X0_24 (ob_c hc) rfl rfl ?_
  refine v_iload_n dX0_addPart_52 rfl ?_
  refine v_iald2 (n := 16) (a := q) (y := (lvF D q)) dX0_addPart_53 (ar_c5 hc) (rfl) (by omega) (by rw [mup_ne (by omega), mup_ne (by omega)]; exact h.lv hq) ?_
  refine v_ior dX0_addPart_54 ?_
  refine v_iast (n := 16) (a := nN D) dX0_addPart_55 (ar_c5 hc) (rfl) (by omega) ?_
  refine v_vret dX0_addPart_56 rfl ?_
  exact ⟨rfl, rfl⟩
/-- the rows of the new node -/
def NW (M M' : vM) (c n : Nat) (w cl p0 p1 p2 pb lv fr : Int32) : Prop := (∀ i, i < c ∨ c + 10 ≤ i → M' i = M i) ∧ (M' c 0 = nI (n + 1) ∧ ∀ j, j ≠ 0 → M' c j = M c j) ∧ M' (c + 1) = upd (M (c + 1)) n w ∧ M' (c + 2) = upd (M (c + 2)) n cl ∧ M' (c + 3) = upd (upd (upd (M (c + 3)) (n * 3 + 0) p0) (n * 3 + 1) p1) (n * 3 + 2) p2 ∧ M' (c + 4) n = pb ∧ (∀ j, j ≠ n → M' (c + 4) j = M (c + 4) j) ∧ M' (c + 5) n = lv ∧ (∀ j, j ≠ n → M' (c + 5) j = M (c + 5) j) ∧ M' (c + 6) = upd (M (c + 6)) n fr ∧ M' (c + 7) = M (c + 7) ∧ M' (c + 8) = upd (M (c + 8)) n (nI 0) ∧ M' (c + 9) = M (c + 9)
set_option maxRecDepth 100000 in
theorem c_addI (hc : c = 4 ∨ c = 14) (h : CIR0 M c D) (hW : WF D) (hn : nN D < 16) {cl : Nat} (hcl : cl ≤ 2) : V kX0_addNode (fun v M' => v = none ∧ NW M M' c (nN D) (nI 0) (nI cl) (-9) (-9) (-9) (nI 0) (bx (nN D)) (nI 0)) M 0 [(0, .ref c), (1, .int (nI 0)), (2, .int (nI cl)), (3, .int ((-9))), (4, .int ((-9))), (5, .int ((-9)))] [] := by
  have h16 := hW.n16
  have z1 : CIR0 (mup M (c + 1) (nN D) (nI 0)) c D := CIR0_up h (i := 1) (by decide) (by first | (rw [if_pos rfl]; omega) | (rw [if_neg (by decide)]; exact Nat.le_refl _))
  have z2 : CIR0 (mup (mup M (c + 1) (nN D) (nI 0)) (c + 2) (nN D) (nI cl)) c D := CIR0_up z1 (i := 2) (by decide) (by first | (rw [if_pos rfl]; omega) | (rw [if_neg (by decide)]; exact Nat.le_refl _))
  have z3 : CIR0 (mup (mup (mup M (c + 1) (nN D) (nI 0)) (c + 2) (nN D) (nI cl)) (c + 8) (nN D) (nI 0)) c D := CIR0_up z2 (i := 8) (by decide) (by first | (rw [if_pos rfl]; omega) | (rw [if_neg (by decide)]; exact Nat.le_refl _))
  have z4 : CIR0 (mup (mup (mup (mup M (c + 1) (nN D) (nI 0)) (c + 2) (nN D) (nI cl)) (c + 8) (nN D) (nI 0)) (c + 4) (nN D) (nI 0)) c D := CIR0_up z3 (i := 4) (by decide) (by first | (rw [if_pos rfl]; omega) | (rw [if_neg (by decide)]; exact Nat.le_refl _))
  have z5 : CIR0 (mup (mup (mup (mup (mup M (c + 1) (nN D) (nI 0)) (c + 2) (nN D) (nI cl)) (c + 8) (nN D) (nI 0)) (c + 4) (nN D) (nI 0)) (c + 5) (nN D) (bx (nN D))) c D := CIR0_up z4 (i := 5) (by decide) (by first | (rw [if_pos rfl]; omega) | (rw [if_neg (by decide)]; exact Nat.le_refl _))
  have z6 : CIR0 (mup (mup (mup (mup (mup (mup M (c + 1) (nN D) (nI 0)) (c + 2) (nN D) (nI cl)) (c + 8) (nN D) (nI 0)) (c + 4) (nN D) (nI 0)) (c + 5) (nN D) (bx (nN D))) (c + 3) (nN D * 3 + 0) (-9)) c D := CIR0_up z5 (i := 3) (by decide) (by first | (rw [if_pos rfl]; omega) | (rw [if_neg (by decide)]; exact Nat.le_refl _))
  have z7 : CIR0 (mup (mup (mup (mup (mup (mup (mup M (c + 1) (nN D) (nI 0)) (c + 2) (nN D) (nI cl)) (c + 8) (nN D) (nI 0)) (c + 4) (nN D) (nI 0)) (c + 5) (nN D) (bx (nN D))) (c + 3) (nN D * 3 + 0) (-9)) (c + 3) (nN D * 3 + 1) (-9)) c D := CIR0_up z6 (i := 3) (by decide) (by first | (rw [if_pos rfl]; omega) | (rw [if_neg (by decide)]; exact Nat.le_refl _))
  have z8 : CIR0 (mup (mup (mup (mup (mup (mup (mup (mup M (c + 1) (nN D) (nI 0)) (c + 2) (nN D) (nI cl)) (c + 8) (nN D) (nI 0)) (c + 4) (nN D) (nI 0)) (c + 5) (nN D) (bx (nN D))) (c + 3) (nN D * 3 + 0) (-9)) (c + 3) (nN D * 3 + 1) (-9)) (c + 3) (nN D * 3 + 2) (-9)) c D := CIR0_up z7 (i := 3) (by decide) (by first | (rw [if_pos rfl]; omega) | (rw [if_neg (by decide)]; exact Nat.le_refl _))
  refine v_aload_n dX0_addNode_0 rfl ?_
  refine v_getI2 (y := (nI (nN D))) dX0_addNode_1 fl_X0_47 (ob_c hc) rfl (h.nd) ?_
  refine v_bipush (v := (nI 16)) dX0_addNode_4 rfl ?_
  refine v_icmpN_lt (tgt := 10) dX0_addNode_6 (by decide) (by omega) (by omega) (fun c6 => ?_) (fun c6 => (absurd hn (by omega)))
  refine v_aload_n dX0_addNode_10 rfl ?_
  refine v_getI2 (y := (nI (nN D))) dX0_addNode_11 fl_X0_47 (ob_c hc) rfl (h.nd) ?_
  refine v_istore (lv' := [(0, .ref c), (1, .int (nI 0)), (2, .int (nI cl)), (3, .int ((-9))), (4, .int ((-9))), (5, .int ((-9))), (6, .int (nI (nN D)))]) dX0_addNode_14 (Nat.le_of_ble_eq_true rfl) rfl ?_
  refine v_aload_n dX0_addNode_16 rfl ?_
  refine v_getR (t := c + 1) dX0_addNode_17 fl_X0_9 (ob_c hc) rfl rfl ?_
  refine v_iload dX0_addNode_20 rfl ?_
  refine v_iload_n dX0_addNode_22 rfl ?_
  refine v_iast (n := 16) (a := nN D) dX0_addNode_23 (ar_c1 hc) (rfl) (by omega) ?_
  refine v_aload_n dX0_addNode_24 rfl ?_
  refine v_getR (t := c + 2) dX0_addNode_25 fl_X0_15 (ob_c hc) rfl rfl ?_
  refine v_iload dX0_addNode_28 rfl ?_
  refine v_iload_n dX0_addNode_30 rfl ?_
  refine v_iast (n := 16) (a := nN D) dX0_addNode_31 (ar_c2 hc) (rfl) (by omega) ?_
  refine v_aload_n dX0_addNode_32 rfl ?_
  refine v_getR (t := c + 8) dX0_addNode_33 fl_X0_33 (ob_c hc) rfl rfl ?_
  refine v_iload dX0_addNode_36 rfl ?_
  refine v_iconst (v := (nI 0)) dX0_addNode_38 rfl ?_
  refine v_iast (n := 16) (a := nN D) dX0_addNode_39 (ar_c8 hc) (rfl) (by omega) ?_
  refine v_aload_n dX0_addNode_40 rfl ?_
  refine v_getR (t := c + 4) dX0_addNode_41 fl_X0_21 (ob_c hc) rfl rfl ?_
  refine v_iload dX0_addNode_44 rfl ?_
  refine v_iconst (v := (nI 0)) dX0_addNode_46 rfl ?_
  refine v_iast (n := 16) (a := nN D) dX0_addNode_47 (ar_c4 hc) (rfl) (by omega) ?_
  refine v_aload_n dX0_addNode_48 rfl ?_
  refine v_getR (t := c + 5) dX0_addNode_49 fl_X0_24 (ob_c hc) rfl rfl ?_
  refine v_iload dX0_addNode_52 rfl ?_
  refine v_iload_n dX0_addNode_54 rfl ?_
  refine v_ifN_eq (tgt := 63) dX0_addNode_55 (by decide) (by decide) (fun c55 => ?_) (fun c55 => (absurd rfl c55))
  refine v_iconst (v := (nI 1)) dX0_addNode_63 rfl ?_
  refine v_iload dX0_addNode_64 rfl ?_
  refine v_ishl dX0_addNode_66 ?_
  refine v_goto (tgt := 71) dX0_addNode_67 (by decide) ?_
  refine v_iast (n := 16) (a := nN D) dX0_addNode_71 (ar_c5 hc) (rfl) (by omega) ?_
  refine v_aload_n dX0_addNode_72 rfl ?_
  refine v_iload dX0_addNode_73 rfl ?_
  refine v_iconst (v := (nI 0)) dX0_addNode_75 rfl ?_
  refine v_iload_n dX0_addNode_76 rfl ?_
  refine v_callVv (M1 := mup (mup (mup (mup (mup (mup M (c + 1) (nN D) (nI 0)) (c + 2) (nN D) (nI cl)) (c + 8) (nN D) (nI 0)) (c + 4) (nN D) (nI 0)) (c + 5) (nN D) (bx (nN D))) (c + 3) (nN D * 3 + 0) (-9)) (as := [.int (nI (nN D)), .int (nI 0), .int ((-9))]) (st := []) dX0_addNode_77 ml_X0_86 kv_X0_addPart (ob_c hc) ⟨(Nat.le_of_ble_eq_true rfl), (Nat.le_of_ble_eq_true rfl)⟩ rfl (Nat.le_of_ble_eq_true rfl) rfl (Nat.le_of_ble_eq_true rfl) (c_part0 hc z5 hW (by decide) hn) ?_
  refine v_aload_n dX0_addNode_80 rfl ?_
  refine v_iload dX0_addNode_81 rfl ?_
  refine v_iconst (v := (nI 1)) dX0_addNode_83 rfl ?_
  refine v_iload dX0_addNode_84 rfl ?_
  refine v_callVv (M1 := mup (mup (mup (mup (mup (mup (mup M (c + 1) (nN D) (nI 0)) (c + 2) (nN D) (nI cl)) (c + 8) (nN D) (nI 0)) (c + 4) (nN D) (nI 0)) (c + 5) (nN D) (bx (nN D))) (c + 3) (nN D * 3 + 0) (-9)) (c + 3) (nN D * 3 + 1) (-9)) (as := [.int (nI (nN D)), .int (nI 1), .int ((-9))]) (st := []) dX0_addNode_86 ml_X0_86 kv_X0_addPart (ob_c hc) ⟨(Nat.le_of_ble_eq_true rfl), (Nat.le_of_ble_eq_true rfl)⟩ rfl (Nat.le_of_ble_eq_true rfl) rfl (Nat.le_of_ble_eq_true rfl) (c_part0 hc z6 hW (by decide) hn) ?_
  refine v_aload_n dX0_addNode_89 rfl ?_
  refine v_iload dX0_addNode_90 rfl ?_
  refine v_iconst (v := (nI 2)) dX0_addNode_92 rfl ?_
  refine v_iload dX0_addNode_93 rfl ?_
  refine v_callVv (M1 := mup (mup (mup (mup (mup (mup (mup (mup M (c + 1) (nN D) (nI 0)) (c + 2) (nN D) (nI cl)) (c + 8) (nN D) (nI 0)) (c + 4) (nN D) (nI 0)) (c + 5) (nN D) (bx (nN D))) (c + 3) (nN D * 3 + 0) (-9)) (c + 3) (nN D * 3 + 1) (-9)) (c + 3) (nN D * 3 + 2) (-9)) (as := [.int (nI (nN D)), .int (nI 2), .int ((-9))]) (st := []) dX0_addNode_95 ml_X0_86 kv_X0_addPart (ob_c hc) ⟨(Nat.le_of_ble_eq_true rfl), (Nat.le_of_ble_eq_true rfl)⟩ rfl (Nat.le_of_ble_eq_true rfl) rfl (Nat.le_of_ble_eq_true rfl) (c_part0 hc z7 hW (by decide) hn) ?_
  refine v_aload_n dX0_addNode_98 rfl ?_
  refine v_getR (t := c + 6) dX0_addNode_99 fl_X0_27 (ob_c hc) rfl rfl ?_
  refine v_iload dX0_addNode_102 rfl ?_
  refine v_iload_n dX0_addNode_104 rfl ?_
  refine v_iconst (v := (nI 1)) dX0_addNode_105 rfl ?_
  refine v_icmpN_ne (tgt := 125) dX0_addNode_106 (by decide) (by decide) (by decide) (fun c106 => ?_) (fun c106 => (absurd c106 (by decide)))
  refine v_iconst (v := (nI 0)) dX0_addNode_125 rfl ?_
  refine v_iast (n := 16) (a := nN D) dX0_addNode_126 (ar_c6 hc) (rfl) (by omega) ?_
  refine v_aload_n dX0_addNode_127 rfl ?_
  refine v_dup dX0_addNode_128 rfl ?_
  refine v_getI2 (y := (nI (nN D))) dX0_addNode_129 fl_X0_47 (ob_c hc) rfl (by rw [mup_ne (by omega)]; exact z8.nd) ?_
  refine v_iconst (v := (nI 1)) dX0_addNode_132 rfl ?_
  refine v_iaddN dX0_addNode_133 ?_
  refine v_putI dX0_addNode_134 fl_X0_47 (ob_c hc) rfl rfl rfl ?_
  refine v_vret dX0_addNode_137 rfl ?_
  refine ⟨rfl, fun i hi => ?_, ⟨?_, fun j hj => ?_⟩, ?_, ?_, ?_, ?_, fun j hj => ?_, ?_, fun j hj => ?_, ?_, ?_, ?_, ?_⟩
  · iterate 30 (first | rw [mup_ne (by omega)] | skip)
  · rw [mup_eq, upd_eq]
  · rw [mup_eq, upd_ne hj]
    iterate 30 (first | rw [mup_ne (by omega)] | skip)
  · simp [mup]
  · simp [mup]
  · simp [mup]
  · simp [mup, upd]
  · simp [mup, upd, hj]
  · simp [mup, upd]
  · simp [mup, upd, hj]
  · simp [mup]
  · simp [mup]
  · simp [mup]
  · simp [mup]
set_option maxRecDepth 100000 in
theorem c_addR (hc : c = 4 ∨ c = 14) (h : CIR0 M c D) (hW : WF D) (hn : nN D < 16) {q0 : Nat} (hq0 : q0 < nN D) {cl : Nat} (hcl : cl ≤ 2) : V kX0_addNode (fun v M' => v = none ∧ NW M M' c (nN D) (nI 1) (nI cl) (nI q0) (-9) (-9) ((nI 0) ||| bx q0) (bx (nN D)) (ulN D cl (lvF D q0) (nN D))) M 0 [(0, .ref c), (1, .int (nI 1)), (2, .int (nI cl)), (3, .int (nI q0)), (4, .int ((-9))), (5, .int ((-9)))] [] := by
  have h16 := hW.n16
  have z1 : CIR0 (mup M (c + 1) (nN D) (nI 1)) c D := CIR0_up h (i := 1) (by decide) (by first | (rw [if_pos rfl]; omega) | (rw [if_neg (by decide)]; exact Nat.le_refl _))
  have z2 : CIR0 (mup (mup M (c + 1) (nN D) (nI 1)) (c + 2) (nN D) (nI cl)) c D := CIR0_up z1 (i := 2) (by decide) (by first | (rw [if_pos rfl]; omega) | (rw [if_neg (by decide)]; exact Nat.le_refl _))
  have z3 : CIR0 (mup (mup (mup M (c + 1) (nN D) (nI 1)) (c + 2) (nN D) (nI cl)) (c + 8) (nN D) (nI 0)) c D := CIR0_up z2 (i := 8) (by decide) (by first | (rw [if_pos rfl]; omega) | (rw [if_neg (by decide)]; exact Nat.le_refl _))
  have z4 : CIR0 (mup (mup (mup (mup M (c + 1) (nN D) (nI 1)) (c + 2) (nN D) (nI cl)) (c + 8) (nN D) (nI 0)) (c + 4) (nN D) (nI 0)) c D := CIR0_up z3 (i := 4) (by decide) (by first | (rw [if_pos rfl]; omega) | (rw [if_neg (by decide)]; exact Nat.le_refl _))
  have z5 : CIR0 (mup (mup (mup (mup (mup M (c + 1) (nN D) (nI 1)) (c + 2) (nN D) (nI cl)) (c + 8) (nN D) (nI 0)) (c + 4) (nN D) (nI 0)) (c + 5) (nN D) (bx (nN D))) c D := CIR0_up z4 (i := 5) (by decide) (by first | (rw [if_pos rfl]; omega) | (rw [if_neg (by decide)]; exact Nat.le_refl _))
  have z6 : CIR0 (mup (mup (mup (mup (mup (mup M (c + 1) (nN D) (nI 1)) (c + 2) (nN D) (nI cl)) (c + 8) (nN D) (nI 0)) (c + 4) (nN D) (nI 0)) (c + 5) (nN D) (bx (nN D))) (c + 3) (nN D * 3 + 0) (nI q0)) c D := CIR0_up z5 (i := 3) (by decide) (by first | (rw [if_pos rfl]; omega) | (rw [if_neg (by decide)]; exact Nat.le_refl _))
  have z7 : CIR0 (mup (mup (mup (mup (mup (mup (mup M (c + 1) (nN D) (nI 1)) (c + 2) (nN D) (nI cl)) (c + 8) (nN D) (nI 0)) (c + 4) (nN D) (nI 0)) (c + 5) (nN D) (bx (nN D))) (c + 3) (nN D * 3 + 0) (nI q0)) (c + 4) (nN D) ((nI 0) ||| bx q0)) c D := CIR0_up z6 (i := 4) (by decide) (by first | (rw [if_pos rfl]; omega) | (rw [if_neg (by decide)]; exact Nat.le_refl _))
  have z8 : CIR0 (mup (mup (mup (mup (mup (mup (mup (mup M (c + 1) (nN D) (nI 1)) (c + 2) (nN D) (nI cl)) (c + 8) (nN D) (nI 0)) (c + 4) (nN D) (nI 0)) (c + 5) (nN D) (bx (nN D))) (c + 3) (nN D * 3 + 0) (nI q0)) (c + 4) (nN D) ((nI 0) ||| bx q0)) (c + 3) (nN D * 3 + 1) (-9)) c D := CIR0_up z7 (i := 3) (by decide) (by first | (rw [if_pos rfl]; omega) | (rw [if_neg (by decide)]; exact Nat.le_refl _))
  have z9 : CIR0 (mup (mup (mup (mup (mup (mup (mup (mup (mup M (c + 1) (nN D) (nI 1)) (c + 2) (nN D) (nI cl)) (c + 8) (nN D) (nI 0)) (c + 4) (nN D) (nI 0)) (c + 5) (nN D) (bx (nN D))) (c + 3) (nN D * 3 + 0) (nI q0)) (c + 4) (nN D) ((nI 0) ||| bx q0)) (c + 3) (nN D * 3 + 1) (-9)) (c + 3) (nN D * 3 + 2) (-9)) c D := CIR0_up z8 (i := 3) (by decide) (by first | (rw [if_pos rfl]; omega) | (rw [if_neg (by decide)]; exact Nat.le_refl _))
  refine v_aload_n dX0_addNode_0 rfl ?_
  refine v_getI2 (y := (nI (nN D))) dX0_addNode_1 fl_X0_47 (ob_c hc) rfl (h.nd) ?_
  refine v_bipush (v := (nI 16)) dX0_addNode_4 rfl ?_
  refine v_icmpN_lt (tgt := 10) dX0_addNode_6 (by decide) (by omega) (by omega) (fun c6 => ?_) (fun c6 => (absurd hn (by omega)))
  refine v_aload_n dX0_addNode_10 rfl ?_
  refine v_getI2 (y := (nI (nN D))) dX0_addNode_11 fl_X0_47 (ob_c hc) rfl (h.nd) ?_
  refine v_istore (lv' := [(0, .ref c), (1, .int (nI 1)), (2, .int (nI cl)), (3, .int (nI q0)), (4, .int ((-9))), (5, .int ((-9))), (6, .int (nI (nN D)))]) dX0_addNode_14 (Nat.le_of_ble_eq_true rfl) rfl ?_
  refine v_aload_n dX0_addNode_16 rfl ?_
  refine v_getR (t := c + 1) dX0_addNode_17 fl_X0_9 (ob_c hc) rfl rfl ?_
  refine v_iload dX0_addNode_20 rfl ?_
  refine v_iload_n dX0_addNode_22 rfl ?_
  refine v_iast (n := 16) (a := nN D) dX0_addNode_23 (ar_c1 hc) (rfl) (by omega) ?_
  refine v_aload_n dX0_addNode_24 rfl ?_
  refine v_getR (t := c + 2) dX0_addNode_25 fl_X0_15 (ob_c hc) rfl rfl ?_
  refine v_iload dX0_addNode_28 rfl ?_
  refine v_iload_n dX0_addNode_30 rfl ?_
  refine v_iast (n := 16) (a := nN D) dX0_addNode_31 (ar_c2 hc) (rfl) (by omega) ?_
  refine v_aload_n dX0_addNode_32 rfl ?_
  refine v_getR (t := c + 8) dX0_addNode_33 fl_X0_33 (ob_c hc) rfl rfl ?_
  refine v_iload dX0_addNode_36 rfl ?_
  refine v_iconst (v := (nI 0)) dX0_addNode_38 rfl ?_
  refine v_iast (n := 16) (a := nN D) dX0_addNode_39 (ar_c8 hc) (rfl) (by omega) ?_
  refine v_aload_n dX0_addNode_40 rfl ?_
  refine v_getR (t := c + 4) dX0_addNode_41 fl_X0_21 (ob_c hc) rfl rfl ?_
  refine v_iload dX0_addNode_44 rfl ?_
  refine v_iconst (v := (nI 0)) dX0_addNode_46 rfl ?_
  refine v_iast (n := 16) (a := nN D) dX0_addNode_47 (ar_c4 hc) (rfl) (by omega) ?_
  refine v_aload_n dX0_addNode_48 rfl ?_
  refine v_getR (t := c + 5) dX0_addNode_49 fl_X0_24 (ob_c hc) rfl rfl ?_
  refine v_iload dX0_addNode_52 rfl ?_
  refine v_iload_n dX0_addNode_54 rfl ?_
  refine v_ifN_eq (tgt := 63) dX0_addNode_55 (by decide) (by decide) (fun c55 => (absurd c55 (by decide))) (fun c55 => ?_)
  refine v_iload_n dX0_addNode_58 rfl ?_
  refine v_iconst (v := (nI 1)) dX0_addNode_59 rfl ?_
  refine v_icmpN_ne (tgt := 70) dX0_addNode_60 (by decide) (by decide) (by decide) (fun c60 => (absurd rfl c60)) (fun c60 => ?_)
  refine v_iconst (v := (nI 1)) dX0_addNode_63 rfl ?_
  refine v_iload dX0_addNode_64 rfl ?_
  refine v_ishl dX0_addNode_66 ?_
  refine v_goto (tgt := 71) dX0_addNode_67 (by decide) ?_
  refine v_iast (n := 16) (a := nN D) dX0_addNode_71 (ar_c5 hc) (rfl) (by omega) ?_
  refine v_aload_n dX0_addNode_72 rfl ?_
  refine v_iload dX0_addNode_73 rfl ?_
  refine v_iconst (v := (nI 0)) dX0_addNode_75 rfl ?_
  refine v_iload_n dX0_addNode_76 rfl ?_
  refine v_callVv (M1 := mup (mup (mup (mup (mup (mup (mup M (c + 1) (nN D) (nI 1)) (c + 2) (nN D) (nI cl)) (c + 8) (nN D) (nI 0)) (c + 4) (nN D) (nI 0)) (c + 5) (nN D) (bx (nN D))) (c + 3) (nN D * 3 + 0) (nI q0)) (c + 4) (nN D) ((nI 0) ||| bx q0)) (as := [.int (nI (nN D)), .int (nI 0), .int (nI q0)]) (st := []) dX0_addNode_77 ml_X0_86 kv_X0_addPart (ob_c hc) ⟨(Nat.le_of_ble_eq_true rfl), (Nat.le_of_ble_eq_true rfl)⟩ rfl (Nat.le_of_ble_eq_true rfl) rfl (Nat.le_of_ble_eq_true rfl) (c_partR hc z5 hW (by decide) hn hq0 (B := (nI 0)) (by simp [mup, upd]) rfl (by simp [mup, upd])) ?_
  refine v_aload_n dX0_addNode_80 rfl ?_
  refine v_iload dX0_addNode_81 rfl ?_
  refine v_iconst (v := (nI 1)) dX0_addNode_83 rfl ?_
  refine v_iload dX0_addNode_84 rfl ?_
  refine v_callVv (M1 := mup (mup (mup (mup (mup (mup (mup (mup M (c + 1) (nN D) (nI 1)) (c + 2) (nN D) (nI cl)) (c + 8) (nN D) (nI 0)) (c + 4) (nN D) (nI 0)) (c + 5) (nN D) (bx (nN D))) (c + 3) (nN D * 3 + 0) (nI q0)) (c + 4) (nN D) ((nI 0) ||| bx q0)) (c + 3) (nN D * 3 + 1) (-9)) (as := [.int (nI (nN D)), .int (nI 1), .int ((-9))]) (st := []) dX0_addNode_86 ml_X0_86 kv_X0_addPart (ob_c hc) ⟨(Nat.le_of_ble_eq_true rfl), (Nat.le_of_ble_eq_true rfl)⟩ rfl (Nat.le_of_ble_eq_true rfl) rfl (Nat.le_of_ble_eq_true rfl) (c_part0 hc z7 hW (by decide) hn) ?_
  refine v_aload_n dX0_addNode_89 rfl ?_
  refine v_iload dX0_addNode_90 rfl ?_
  refine v_iconst (v := (nI 2)) dX0_addNode_92 rfl ?_
  refine v_iload dX0_addNode_93 rfl ?_
  refine v_callVv (M1 := mup (mup (mup (mup (mup (mup (mup (mup (mup M (c + 1) (nN D) (nI 1)) (c + 2) (nN D) (nI cl)) (c + 8) (nN D) (nI 0)) (c + 4) (nN D) (nI 0)) (c + 5) (nN D) (bx (nN D))) (c + 3) (nN D * 3 + 0) (nI q0)) (c + 4) (nN D) ((nI 0) ||| bx q0)) (c + 3) (nN D * 3 + 1) (-9)) (c + 3) (nN D * 3 + 2) (-9)) (as := [.int (nI (nN D)), .int (nI 2), .int ((-9))]) (st := []) dX0_addNode_95 ml_X0_86 kv_X0_addPart (ob_c hc) ⟨(Nat.le_of_ble_eq_true rfl), (Nat.le_of_ble_eq_true rfl)⟩ rfl (Nat.le_of_ble_eq_true rfl) rfl (Nat.le_of_ble_eq_true rfl) (c_part0 hc z8 hW (by decide) hn) ?_
  refine v_aload_n dX0_addNode_98 rfl ?_
  refine v_getR (t := c + 6) dX0_addNode_99 fl_X0_27 (ob_c hc) rfl rfl ?_
  refine v_iload dX0_addNode_102 rfl ?_
  refine v_iload_n dX0_addNode_104 rfl ?_
  refine v_iconst (v := (nI 1)) dX0_addNode_105 rfl ?_
  refine v_icmpN_ne (tgt := 125) dX0_addNode_106 (by decide) (by decide) (by decide) (fun c106 => (absurd rfl c106)) (fun c106 => ?_)
  refine v_aload_n dX0_addNode_109 rfl ?_
  refine v_aload_n dX0_addNode_110 rfl ?_
  refine v_getR (t := c + 5) dX0_addNode_111 fl_X0_24 (ob_c hc) rfl rfl ?_
  refine v_iload_n dX0_addNode_114 rfl ?_
  refine v_callSr (x := .int (lvF D q0)) (M1 := mup (mup (mup (mup (mup (mup (mup (mup (mup M (c + 1) (nN D) (nI 1)) (c + 2) (nN D) (nI cl)) (c + 8) (nN D) (nI 0)) (c + 4) (nN D) (nI 0)) (c + 5) (nN D) (bx (nN D))) (c + 3) (nN D * 3 + 0) (nI q0)) (c + 4) (nN D) ((nI 0) ||| bx q0)) (c + 3) (nN D * 3 + 1) (-9)) (c + 3) (nN D * 3 + 2) (-9)) (as := [.ref (c + 5), .int (nI q0)]) (st := [.ref c, .int (nI (nN D)), .ref (c + 6)]) dX0_addNode_115 ml_X0_60 ks_X3_at ⟨(Nat.le_of_ble_eq_true rfl), (Nat.le_of_ble_eq_true rfl)⟩ rfl (Nat.le_of_ble_eq_true rfl) rfl (Nat.le_of_ble_eq_true rfl) (c_at (ar_c5 hc) (by omega) (z9.lv hq0)) ?_
  refine v_iload_n dX0_addNode_118 rfl ?_
  refine v_callVr (x := .int (ulN D cl (lvF D q0) (nN D))) (M1 := mup (mup (mup (mup (mup (mup (mup (mup (mup M (c + 1) (nN D) (nI 1)) (c + 2) (nN D) (nI cl)) (c + 8) (nN D) (nI 0)) (c + 4) (nN D) (nI 0)) (c + 5) (nN D) (bx (nN D))) (c + 3) (nN D * 3 + 0) (nI q0)) (c + 4) (nN D) ((nI 0) ||| bx q0)) (c + 3) (nN D * 3 + 1) (-9)) (c + 3) (nN D * 3 + 2) (-9)) (as := [.int (lvF D q0), .int (nI cl)]) (st := [.int (nI (nN D)), .ref (c + 6)]) dX0_addNode_119 ml_X0_90 kv_X0_unlikeClock (ob_c hc) ⟨(Nat.le_of_ble_eq_true rfl), (Nat.le_of_ble_eq_true rfl)⟩ rfl (Nat.le_of_ble_eq_true rfl) rfl (Nat.le_of_ble_eq_true rfl) (c_unlike hc z9 hW hcl) ?_
  refine v_goto (tgt := 126) dX0_addNode_122 (by decide) ?_
  refine v_iast (n := 16) (a := nN D) dX0_addNode_126 (ar_c6 hc) (rfl) (by omega) ?_
  refine v_aload_n dX0_addNode_127 rfl ?_
  refine v_dup dX0_addNode_128 rfl ?_
  refine v_getI2 (y := (nI (nN D))) dX0_addNode_129 fl_X0_47 (ob_c hc) rfl (by rw [mup_ne (by omega)]; exact z9.nd) ?_
  refine v_iconst (v := (nI 1)) dX0_addNode_132 rfl ?_
  refine v_iaddN dX0_addNode_133 ?_
  refine v_putI dX0_addNode_134 fl_X0_47 (ob_c hc) rfl rfl rfl ?_
  refine v_vret dX0_addNode_137 rfl ?_
  refine ⟨rfl, fun i hi => ?_, ⟨?_, fun j hj => ?_⟩, ?_, ?_, ?_, ?_, fun j hj => ?_, ?_, fun j hj => ?_, ?_, ?_, ?_, ?_⟩
  · iterate 30 (first | rw [mup_ne (by omega)] | skip)
  · rw [mup_eq, upd_eq]
  · rw [mup_eq, upd_ne hj]
    iterate 30 (first | rw [mup_ne (by omega)] | skip)
  · simp [mup]
  · simp [mup]
  · simp [mup]
  · simp [mup, upd]
  · simp [mup, upd, hj]
  · simp [mup, upd]
  · simp [mup, upd, hj]
  · simp [mup]
  · simp [mup]
  · simp [mup]
  · simp [mup]
set_option maxRecDepth 100000 in
theorem c_addG (hc : c = 4 ∨ c = 14) (h : CIR0 M c D) (hW : WF D) (hn : nN D < 16) {q0 : Nat} (hq0 : q0 < nN D) {q1 : Nat} (hq1 : q1 < nN D) {s : Nat} (hs2 : 2 ≤ s) (hs5 : s ≤ 5) : V kX0_addNode (fun v M' => v = none ∧ NW M M' c (nN D) (nI s) (-9) (nI q0) (nI q1) (-9) (((nI 0) ||| bx q0) ||| bx q1) (((nI 0) ||| lvF D q0) ||| lvF D q1) (nI 0)) M 0 [(0, .ref c), (1, .int (nI s)), (2, .int ((-9))), (3, .int (nI q0)), (4, .int (nI q1)), (5, .int ((-9)))] [] := by
  have h16 := hW.n16
  have z1 : CIR0 (mup M (c + 1) (nN D) (nI s)) c D := CIR0_up h (i := 1) (by decide) (by first | (rw [if_pos rfl]; omega) | (rw [if_neg (by decide)]; exact Nat.le_refl _))
  have z2 : CIR0 (mup (mup M (c + 1) (nN D) (nI s)) (c + 2) (nN D) (-9)) c D := CIR0_up z1 (i := 2) (by decide) (by first | (rw [if_pos rfl]; omega) | (rw [if_neg (by decide)]; exact Nat.le_refl _))
  have z3 : CIR0 (mup (mup (mup M (c + 1) (nN D) (nI s)) (c + 2) (nN D) (-9)) (c + 8) (nN D) (nI 0)) c D := CIR0_up z2 (i := 8) (by decide) (by first | (rw [if_pos rfl]; omega) | (rw [if_neg (by decide)]; exact Nat.le_refl _))
  have z4 : CIR0 (mup (mup (mup (mup M (c + 1) (nN D) (nI s)) (c + 2) (nN D) (-9)) (c + 8) (nN D) (nI 0)) (c + 4) (nN D) (nI 0)) c D := CIR0_up z3 (i := 4) (by decide) (by first | (rw [if_pos rfl]; omega) | (rw [if_neg (by decide)]; exact Nat.le_refl _))
  have z5 : CIR0 (mup (mup (mup (mup (mup M (c + 1) (nN D) (nI s)) (c + 2) (nN D) (-9)) (c + 8) (nN D) (nI 0)) (c + 4) (nN D) (nI 0)) (c + 5) (nN D) (nI 0)) c D := CIR0_up z4 (i := 5) (by decide) (by first | (rw [if_pos rfl]; omega) | (rw [if_neg (by decide)]; exact Nat.le_refl _))
  have z6 : CIR0 (mup (mup (mup (mup (mup (mup M (c + 1) (nN D) (nI s)) (c + 2) (nN D) (-9)) (c + 8) (nN D) (nI 0)) (c + 4) (nN D) (nI 0)) (c + 5) (nN D) (nI 0)) (c + 3) (nN D * 3 + 0) (nI q0)) c D := CIR0_up z5 (i := 3) (by decide) (by first | (rw [if_pos rfl]; omega) | (rw [if_neg (by decide)]; exact Nat.le_refl _))
  have z7 : CIR0 (mup (mup (mup (mup (mup (mup (mup M (c + 1) (nN D) (nI s)) (c + 2) (nN D) (-9)) (c + 8) (nN D) (nI 0)) (c + 4) (nN D) (nI 0)) (c + 5) (nN D) (nI 0)) (c + 3) (nN D * 3 + 0) (nI q0)) (c + 4) (nN D) ((nI 0) ||| bx q0)) c D := CIR0_up z6 (i := 4) (by decide) (by first | (rw [if_pos rfl]; omega) | (rw [if_neg (by decide)]; exact Nat.le_refl _))
  have z8 : CIR0 (mup (mup (mup (mup (mup (mup (mup (mup M (c + 1) (nN D) (nI s)) (c + 2) (nN D) (-9)) (c + 8) (nN D) (nI 0)) (c + 4) (nN D) (nI 0)) (c + 5) (nN D) (nI 0)) (c + 3) (nN D * 3 + 0) (nI q0)) (c + 4) (nN D) ((nI 0) ||| bx q0)) (c + 5) (nN D) ((nI 0) ||| lvF D q0)) c D := CIR0_up z7 (i := 5) (by decide) (by first | (rw [if_pos rfl]; omega) | (rw [if_neg (by decide)]; exact Nat.le_refl _))
  have z9 : CIR0 (mup (mup (mup (mup (mup (mup (mup (mup (mup M (c + 1) (nN D) (nI s)) (c + 2) (nN D) (-9)) (c + 8) (nN D) (nI 0)) (c + 4) (nN D) (nI 0)) (c + 5) (nN D) (nI 0)) (c + 3) (nN D * 3 + 0) (nI q0)) (c + 4) (nN D) ((nI 0) ||| bx q0)) (c + 5) (nN D) ((nI 0) ||| lvF D q0)) (c + 3) (nN D * 3 + 1) (nI q1)) c D := CIR0_up z8 (i := 3) (by decide) (by first | (rw [if_pos rfl]; omega) | (rw [if_neg (by decide)]; exact Nat.le_refl _))
  have z10 : CIR0 (mup (mup (mup (mup (mup (mup (mup (mup (mup (mup M (c + 1) (nN D) (nI s)) (c + 2) (nN D) (-9)) (c + 8) (nN D) (nI 0)) (c + 4) (nN D) (nI 0)) (c + 5) (nN D) (nI 0)) (c + 3) (nN D * 3 + 0) (nI q0)) (c + 4) (nN D) ((nI 0) ||| bx q0)) (c + 5) (nN D) ((nI 0) ||| lvF D q0)) (c + 3) (nN D * 3 + 1) (nI q1)) (c + 4) (nN D) (((nI 0) ||| bx q0) ||| bx q1)) c D := CIR0_up z9 (i := 4) (by decide) (by first | (rw [if_pos rfl]; omega) | (rw [if_neg (by decide)]; exact Nat.le_refl _))
  have z11 : CIR0 (mup (mup (mup (mup (mup (mup (mup (mup (mup (mup (mup M (c + 1) (nN D) (nI s)) (c + 2) (nN D) (-9)) (c + 8) (nN D) (nI 0)) (c + 4) (nN D) (nI 0)) (c + 5) (nN D) (nI 0)) (c + 3) (nN D * 3 + 0) (nI q0)) (c + 4) (nN D) ((nI 0) ||| bx q0)) (c + 5) (nN D) ((nI 0) ||| lvF D q0)) (c + 3) (nN D * 3 + 1) (nI q1)) (c + 4) (nN D) (((nI 0) ||| bx q0) ||| bx q1)) (c + 5) (nN D) (((nI 0) ||| lvF D q0) ||| lvF D q1)) c D := CIR0_up z10 (i := 5) (by decide) (by first | (rw [if_pos rfl]; omega) | (rw [if_neg (by decide)]; exact Nat.le_refl _))
  have z12 : CIR0 (mup (mup (mup (mup (mup (mup (mup (mup (mup (mup (mup (mup M (c + 1) (nN D) (nI s)) (c + 2) (nN D) (-9)) (c + 8) (nN D) (nI 0)) (c + 4) (nN D) (nI 0)) (c + 5) (nN D) (nI 0)) (c + 3) (nN D * 3 + 0) (nI q0)) (c + 4) (nN D) ((nI 0) ||| bx q0)) (c + 5) (nN D) ((nI 0) ||| lvF D q0)) (c + 3) (nN D * 3 + 1) (nI q1)) (c + 4) (nN D) (((nI 0) ||| bx q0) ||| bx q1)) (c + 5) (nN D) (((nI 0) ||| lvF D q0) ||| lvF D q1)) (c + 3) (nN D * 3 + 2) (-9)) c D := CIR0_up z11 (i := 3) (by decide) (by first | (rw [if_pos rfl]; omega) | (rw [if_neg (by decide)]; exact Nat.le_refl _))
  refine v_aload_n dX0_addNode_0 rfl ?_
  refine v_getI2 (y := (nI (nN D))) dX0_addNode_1 fl_X0_47 (ob_c hc) rfl (h.nd) ?_
  refine v_bipush (v := (nI 16)) dX0_addNode_4 rfl ?_
  refine v_icmpN_lt (tgt := 10) dX0_addNode_6 (by decide) (by omega) (by omega) (fun c6 => ?_) (fun c6 => (absurd hn (by omega)))
  refine v_aload_n dX0_addNode_10 rfl ?_
  refine v_getI2 (y := (nI (nN D))) dX0_addNode_11 fl_X0_47 (ob_c hc) rfl (h.nd) ?_
  refine v_istore (lv' := [(0, .ref c), (1, .int (nI s)), (2, .int ((-9))), (3, .int (nI q0)), (4, .int (nI q1)), (5, .int ((-9))), (6, .int (nI (nN D)))]) dX0_addNode_14 (Nat.le_of_ble_eq_true rfl) rfl ?_
  refine v_aload_n dX0_addNode_16 rfl ?_
  refine v_getR (t := c + 1) dX0_addNode_17 fl_X0_9 (ob_c hc) rfl rfl ?_
  refine v_iload dX0_addNode_20 rfl ?_
  refine v_iload_n dX0_addNode_22 rfl ?_
  refine v_iast (n := 16) (a := nN D) dX0_addNode_23 (ar_c1 hc) (rfl) (by omega) ?_
  refine v_aload_n dX0_addNode_24 rfl ?_
  refine v_getR (t := c + 2) dX0_addNode_25 fl_X0_15 (ob_c hc) rfl rfl ?_
  refine v_iload dX0_addNode_28 rfl ?_
  refine v_iload_n dX0_addNode_30 rfl ?_
  refine v_iast (n := 16) (a := nN D) dX0_addNode_31 (ar_c2 hc) (rfl) (by omega) ?_
  refine v_aload_n dX0_addNode_32 rfl ?_
  refine v_getR (t := c + 8) dX0_addNode_33 fl_X0_33 (ob_c hc) rfl rfl ?_
  refine v_iload dX0_addNode_36 rfl ?_
  refine v_iconst (v := (nI 0)) dX0_addNode_38 rfl ?_
  refine v_iast (n := 16) (a := nN D) dX0_addNode_39 (ar_c8 hc) (rfl) (by omega) ?_
  refine v_aload_n dX0_addNode_40 rfl ?_
  refine v_getR (t := c + 4) dX0_addNode_41 fl_X0_21 (ob_c hc) rfl rfl ?_
  refine v_iload dX0_addNode_44 rfl ?_
  refine v_iconst (v := (nI 0)) dX0_addNode_46 rfl ?_
  refine v_iast (n := 16) (a := nN D) dX0_addNode_47 (ar_c4 hc) (rfl) (by omega) ?_
  refine v_aload_n dX0_addNode_48 rfl ?_
  refine v_getR (t := c + 5) dX0_addNode_49 fl_X0_24 (ob_c hc) rfl rfl ?_
  refine v_iload dX0_addNode_52 rfl ?_
  refine v_iload_n dX0_addNode_54 rfl ?_
  refine v_ifN_eq (tgt := 63) dX0_addNode_55 (by decide) (by omega) (fun c55 => (absurd c55 (by omega))) (fun c55 => ?_)
  refine v_iload_n dX0_addNode_58 rfl ?_
  refine v_iconst (v := (nI 1)) dX0_addNode_59 rfl ?_
  refine v_icmpN_ne (tgt := 70) dX0_addNode_60 (by decide) (by omega) (by omega) (fun c60 => ?_) (fun c60 => (absurd c60 (by omega)))
  refine v_iconst (v := (nI 0)) dX0_addNode_70 rfl ?_
  refine v_iast (n := 16) (a := nN D) dX0_addNode_71 (ar_c5 hc) (rfl) (by omega) ?_
  refine v_aload_n dX0_addNode_72 rfl ?_
  refine v_iload dX0_addNode_73 rfl ?_
  refine v_iconst (v := (nI 0)) dX0_addNode_75 rfl ?_
  refine v_iload_n dX0_addNode_76 rfl ?_
  refine v_callVv (M1 := mup (mup (mup (mup (mup (mup (mup (mup M (c + 1) (nN D) (nI s)) (c + 2) (nN D) (-9)) (c + 8) (nN D) (nI 0)) (c + 4) (nN D) (nI 0)) (c + 5) (nN D) (nI 0)) (c + 3) (nN D * 3 + 0) (nI q0)) (c + 4) (nN D) ((nI 0) ||| bx q0)) (c + 5) (nN D) ((nI 0) ||| lvF D q0)) (as := [.int (nI (nN D)), .int (nI 0), .int (nI q0)]) (st := []) dX0_addNode_77 ml_X0_86 kv_X0_addPart (ob_c hc) ⟨(Nat.le_of_ble_eq_true rfl), (Nat.le_of_ble_eq_true rfl)⟩ rfl (Nat.le_of_ble_eq_true rfl) rfl (Nat.le_of_ble_eq_true rfl) (c_partG hc z5 hW (by decide) hn hq0 (B := (nI 0)) (L := (nI 0)) (by simp [mup, upd]) (by simp [mup, upd]) (s := s) (by omega) (by omega) (by simp [mup, upd])) ?_
  refine v_aload_n dX0_addNode_80 rfl ?_
  refine v_iload dX0_addNode_81 rfl ?_
  refine v_iconst (v := (nI 1)) dX0_addNode_83 rfl ?_
  refine v_iload dX0_addNode_84 rfl ?_
  refine v_callVv (M1 := mup (mup (mup (mup (mup (mup (mup (mup (mup (mup (mup M (c + 1) (nN D) (nI s)) (c + 2) (nN D) (-9)) (c + 8) (nN D) (nI 0)) (c + 4) (nN D) (nI 0)) (c + 5) (nN D) (nI 0)) (c + 3) (nN D * 3 + 0) (nI q0)) (c + 4) (nN D) ((nI 0) ||| bx q0)) (c + 5) (nN D) ((nI 0) ||| lvF D q0)) (c + 3) (nN D * 3 + 1) (nI q1)) (c + 4) (nN D) (((nI 0) ||| bx q0) ||| bx q1)) (c + 5) (nN D) (((nI 0) ||| lvF D q0) ||| lvF D q1)) (as := [.int (nI (nN D)), .int (nI 1), .int (nI q1)]) (st := []) dX0_addNode_86 ml_X0_86 kv_X0_addPart (ob_c hc) ⟨(Nat.le_of_ble_eq_true rfl), (Nat.le_of_ble_eq_true rfl)⟩ rfl (Nat.le_of_ble_eq_true rfl) rfl (Nat.le_of_ble_eq_true rfl) (c_partG hc z8 hW (by decide) hn hq1 (B := ((nI 0) ||| bx q0)) (L := ((nI 0) ||| lvF D q0)) (by simp [mup, upd]) (by simp [mup, upd]) (s := s) (by omega) (by omega) (by simp [mup, upd])) ?_
  refine v_aload_n dX0_addNode_89 rfl ?_
  refine v_iload dX0_addNode_90 rfl ?_
  refine v_iconst (v := (nI 2)) dX0_addNode_92 rfl ?_
  refine v_iload dX0_addNode_93 rfl ?_
  refine v_callVv (M1 := mup (mup (mup (mup (mup (mup (mup (mup (mup (mup (mup (mup M (c + 1) (nN D) (nI s)) (c + 2) (nN D) (-9)) (c + 8) (nN D) (nI 0)) (c + 4) (nN D) (nI 0)) (c + 5) (nN D) (nI 0)) (c + 3) (nN D * 3 + 0) (nI q0)) (c + 4) (nN D) ((nI 0) ||| bx q0)) (c + 5) (nN D) ((nI 0) ||| lvF D q0)) (c + 3) (nN D * 3 + 1) (nI q1)) (c + 4) (nN D) (((nI 0) ||| bx q0) ||| bx q1)) (c + 5) (nN D) (((nI 0) ||| lvF D q0) ||| lvF D q1)) (c + 3) (nN D * 3 + 2) (-9)) (as := [.int (nI (nN D)), .int (nI 2), .int ((-9))]) (st := []) dX0_addNode_95 ml_X0_86 kv_X0_addPart (ob_c hc) ⟨(Nat.le_of_ble_eq_true rfl), (Nat.le_of_ble_eq_true rfl)⟩ rfl (Nat.le_of_ble_eq_true rfl) rfl (Nat.le_of_ble_eq_true rfl) (c_part0 hc z11 hW (by decide) hn) ?_
  refine v_aload_n dX0_addNode_98 rfl ?_
  refine v_getR (t := c + 6) dX0_addNode_99 fl_X0_27 (ob_c hc) rfl rfl ?_
  refine v_iload dX0_addNode_102 rfl ?_
  refine v_iload_n dX0_addNode_104 rfl ?_
  refine v_iconst (v := (nI 1)) dX0_addNode_105 rfl ?_
  refine v_icmpN_ne (tgt := 125) dX0_addNode_106 (by decide) (by omega) (by omega) (fun c106 => ?_) (fun c106 => (absurd c106 (by omega)))
  refine v_iconst (v := (nI 0)) dX0_addNode_125 rfl ?_
  refine v_iast (n := 16) (a := nN D) dX0_addNode_126 (ar_c6 hc) (rfl) (by omega) ?_
  refine v_aload_n dX0_addNode_127 rfl ?_
  refine v_dup dX0_addNode_128 rfl ?_
  refine v_getI2 (y := (nI (nN D))) dX0_addNode_129 fl_X0_47 (ob_c hc) rfl (by rw [mup_ne (by omega)]; exact z12.nd) ?_
  refine v_iconst (v := (nI 1)) dX0_addNode_132 rfl ?_
  refine v_iaddN dX0_addNode_133 ?_
  refine v_putI dX0_addNode_134 fl_X0_47 (ob_c hc) rfl rfl rfl ?_
  refine v_vret dX0_addNode_137 rfl ?_
  refine ⟨rfl, fun i hi => ?_, ⟨?_, fun j hj => ?_⟩, ?_, ?_, ?_, ?_, fun j hj => ?_, ?_, fun j hj => ?_, ?_, ?_, ?_, ?_⟩
  · iterate 30 (first | rw [mup_ne (by omega)] | skip)
  · rw [mup_eq, upd_eq]
  · rw [mup_eq, upd_ne hj]
    iterate 30 (first | rw [mup_ne (by omega)] | skip)
  · simp [mup]
  · simp [mup]
  · simp [mup]
  · simp [mup, upd]
  · simp [mup, upd, hj]
  · simp [mup, upd]
  · simp [mup, upd, hj]
  · simp [mup]
  · simp [mup]
  · simp [mup]
  · simp [mup]
set_option maxRecDepth 100000 in
theorem c_addM (hc : c = 4 ∨ c = 14) (h : CIR0 M c D) (hW : WF D) (hn : nN D < 16) {q0 : Nat} (hq0 : q0 < nN D) {q1 : Nat} (hq1 : q1 < nN D) {q2 : Nat} (hq2 : q2 < nN D) : V kX0_addNode (fun v M' => v = none ∧ NW M M' c (nN D) (nI 5) (-9) (nI q0) (nI q1) (nI q2) ((((nI 0) ||| bx q0) ||| bx q1) ||| bx q2) ((((nI 0) ||| lvF D q0) ||| lvF D q1) ||| lvF D q2) (nI 0)) M 0 [(0, .ref c), (1, .int (nI 5)), (2, .int ((-9))), (3, .int (nI q0)), (4, .int (nI q1)), (5, .int (nI q2))] [] := by
  have h16 := hW.n16
  have z1 : CIR0 (mup M (c + 1) (nN D) (nI 5)) c D := CIR0_up h (i := 1) (by decide) (by first | (rw [if_pos rfl]; omega) | (rw [if_neg (by decide)]; exact Nat.le_refl _))
  have z2 : CIR0 (mup (mup M (c + 1) (nN D) (nI 5)) (c + 2) (nN D) (-9)) c D := CIR0_up z1 (i := 2) (by decide) (by first | (rw [if_pos rfl]; omega) | (rw [if_neg (by decide)]; exact Nat.le_refl _))
  have z3 : CIR0 (mup (mup (mup M (c + 1) (nN D) (nI 5)) (c + 2) (nN D) (-9)) (c + 8) (nN D) (nI 0)) c D := CIR0_up z2 (i := 8) (by decide) (by first | (rw [if_pos rfl]; omega) | (rw [if_neg (by decide)]; exact Nat.le_refl _))
  have z4 : CIR0 (mup (mup (mup (mup M (c + 1) (nN D) (nI 5)) (c + 2) (nN D) (-9)) (c + 8) (nN D) (nI 0)) (c + 4) (nN D) (nI 0)) c D := CIR0_up z3 (i := 4) (by decide) (by first | (rw [if_pos rfl]; omega) | (rw [if_neg (by decide)]; exact Nat.le_refl _))
  have z5 : CIR0 (mup (mup (mup (mup (mup M (c + 1) (nN D) (nI 5)) (c + 2) (nN D) (-9)) (c + 8) (nN D) (nI 0)) (c + 4) (nN D) (nI 0)) (c + 5) (nN D) (nI 0)) c D := CIR0_up z4 (i := 5) (by decide) (by first | (rw [if_pos rfl]; omega) | (rw [if_neg (by decide)]; exact Nat.le_refl _))
  have z6 : CIR0 (mup (mup (mup (mup (mup (mup M (c + 1) (nN D) (nI 5)) (c + 2) (nN D) (-9)) (c + 8) (nN D) (nI 0)) (c + 4) (nN D) (nI 0)) (c + 5) (nN D) (nI 0)) (c + 3) (nN D * 3 + 0) (nI q0)) c D := CIR0_up z5 (i := 3) (by decide) (by first | (rw [if_pos rfl]; omega) | (rw [if_neg (by decide)]; exact Nat.le_refl _))
  have z7 : CIR0 (mup (mup (mup (mup (mup (mup (mup M (c + 1) (nN D) (nI 5)) (c + 2) (nN D) (-9)) (c + 8) (nN D) (nI 0)) (c + 4) (nN D) (nI 0)) (c + 5) (nN D) (nI 0)) (c + 3) (nN D * 3 + 0) (nI q0)) (c + 4) (nN D) ((nI 0) ||| bx q0)) c D := CIR0_up z6 (i := 4) (by decide) (by first | (rw [if_pos rfl]; omega) | (rw [if_neg (by decide)]; exact Nat.le_refl _))
  have z8 : CIR0 (mup (mup (mup (mup (mup (mup (mup (mup M (c + 1) (nN D) (nI 5)) (c + 2) (nN D) (-9)) (c + 8) (nN D) (nI 0)) (c + 4) (nN D) (nI 0)) (c + 5) (nN D) (nI 0)) (c + 3) (nN D * 3 + 0) (nI q0)) (c + 4) (nN D) ((nI 0) ||| bx q0)) (c + 5) (nN D) ((nI 0) ||| lvF D q0)) c D := CIR0_up z7 (i := 5) (by decide) (by first | (rw [if_pos rfl]; omega) | (rw [if_neg (by decide)]; exact Nat.le_refl _))
  have z9 : CIR0 (mup (mup (mup (mup (mup (mup (mup (mup (mup M (c + 1) (nN D) (nI 5)) (c + 2) (nN D) (-9)) (c + 8) (nN D) (nI 0)) (c + 4) (nN D) (nI 0)) (c + 5) (nN D) (nI 0)) (c + 3) (nN D * 3 + 0) (nI q0)) (c + 4) (nN D) ((nI 0) ||| bx q0)) (c + 5) (nN D) ((nI 0) ||| lvF D q0)) (c + 3) (nN D * 3 + 1) (nI q1)) c D := CIR0_up z8 (i := 3) (by decide) (by first | (rw [if_pos rfl]; omega) | (rw [if_neg (by decide)]; exact Nat.le_refl _))
  have z10 : CIR0 (mup (mup (mup (mup (mup (mup (mup (mup (mup (mup M (c + 1) (nN D) (nI 5)) (c + 2) (nN D) (-9)) (c + 8) (nN D) (nI 0)) (c + 4) (nN D) (nI 0)) (c + 5) (nN D) (nI 0)) (c + 3) (nN D * 3 + 0) (nI q0)) (c + 4) (nN D) ((nI 0) ||| bx q0)) (c + 5) (nN D) ((nI 0) ||| lvF D q0)) (c + 3) (nN D * 3 + 1) (nI q1)) (c + 4) (nN D) (((nI 0) ||| bx q0) ||| bx q1)) c D := CIR0_up z9 (i := 4) (by decide) (by first | (rw [if_pos rfl]; omega) | (rw [if_neg (by decide)]; exact Nat.le_refl _))
  have z11 : CIR0 (mup (mup (mup (mup (mup (mup (mup (mup (mup (mup (mup M (c + 1) (nN D) (nI 5)) (c + 2) (nN D) (-9)) (c + 8) (nN D) (nI 0)) (c + 4) (nN D) (nI 0)) (c + 5) (nN D) (nI 0)) (c + 3) (nN D * 3 + 0) (nI q0)) (c + 4) (nN D) ((nI 0) ||| bx q0)) (c + 5) (nN D) ((nI 0) ||| lvF D q0)) (c + 3) (nN D * 3 + 1) (nI q1)) (c + 4) (nN D) (((nI 0) ||| bx q0) ||| bx q1)) (c + 5) (nN D) (((nI 0) ||| lvF D q0) ||| lvF D q1)) c D := CIR0_up z10 (i := 5) (by decide) (by first | (rw [if_pos rfl]; omega) | (rw [if_neg (by decide)]; exact Nat.le_refl _))
  have z12 : CIR0 (mup (mup (mup (mup (mup (mup (mup (mup (mup (mup (mup (mup M (c + 1) (nN D) (nI 5)) (c + 2) (nN D) (-9)) (c + 8) (nN D) (nI 0)) (c + 4) (nN D) (nI 0)) (c + 5) (nN D) (nI 0)) (c + 3) (nN D * 3 + 0) (nI q0)) (c + 4) (nN D) ((nI 0) ||| bx q0)) (c + 5) (nN D) ((nI 0) ||| lvF D q0)) (c + 3) (nN D * 3 + 1) (nI q1)) (c + 4) (nN D) (((nI 0) ||| bx q0) ||| bx q1)) (c + 5) (nN D) (((nI 0) ||| lvF D q0) ||| lvF D q1)) (c + 3) (nN D * 3 + 2) (nI q2)) c D := CIR0_up z11 (i := 3) (by decide) (by first | (rw [if_pos rfl]; omega) | (rw [if_neg (by decide)]; exact Nat.le_refl _))
  have z13 : CIR0 (mup (mup (mup (mup (mup (mup (mup (mup (mup (mup (mup (mup (mup M (c + 1) (nN D) (nI 5)) (c + 2) (nN D) (-9)) (c + 8) (nN D) (nI 0)) (c + 4) (nN D) (nI 0)) (c + 5) (nN D) (nI 0)) (c + 3) (nN D * 3 + 0) (nI q0)) (c + 4) (nN D) ((nI 0) ||| bx q0)) (c + 5) (nN D) ((nI 0) ||| lvF D q0)) (c + 3) (nN D * 3 + 1) (nI q1)) (c + 4) (nN D) (((nI 0) ||| bx q0) ||| bx q1)) (c + 5) (nN D) (((nI 0) ||| lvF D q0) ||| lvF D q1)) (c + 3) (nN D * 3 + 2) (nI q2)) (c + 4) (nN D) ((((nI 0) ||| bx q0) ||| bx q1) ||| bx q2)) c D := CIR0_up z12 (i := 4) (by decide) (by first | (rw [if_pos rfl]; omega) | (rw [if_neg (by decide)]; exact Nat.le_refl _))
  have z14 : CIR0 (mup (mup (mup (mup (mup (mup (mup (mup (mup (mup (mup (mup (mup (mup M (c + 1) (nN D) (nI 5)) (c + 2) (nN D) (-9)) (c + 8) (nN D) (nI 0)) (c + 4) (nN D) (nI 0)) (c + 5) (nN D) (nI 0)) (c + 3) (nN D * 3 + 0) (nI q0)) (c + 4) (nN D) ((nI 0) ||| bx q0)) (c + 5) (nN D) ((nI 0) ||| lvF D q0)) (c + 3) (nN D * 3 + 1) (nI q1)) (c + 4) (nN D) (((nI 0) ||| bx q0) ||| bx q1)) (c + 5) (nN D) (((nI 0) ||| lvF D q0) ||| lvF D q1)) (c + 3) (nN D * 3 + 2) (nI q2)) (c + 4) (nN D) ((((nI 0) ||| bx q0) ||| bx q1) ||| bx q2)) (c + 5) (nN D) ((((nI 0) ||| lvF D q0) ||| lvF D q1) ||| lvF D q2)) c D := CIR0_up z13 (i := 5) (by decide) (by first | (rw [if_pos rfl]; omega) | (rw [if_neg (by decide)]; exact Nat.le_refl _))
  refine v_aload_n dX0_addNode_0 rfl ?_
  refine v_getI2 (y := (nI (nN D))) dX0_addNode_1 fl_X0_47 (ob_c hc) rfl (h.nd) ?_
  refine v_bipush (v := (nI 16)) dX0_addNode_4 rfl ?_
  refine v_icmpN_lt (tgt := 10) dX0_addNode_6 (by decide) (by omega) (by omega) (fun c6 => ?_) (fun c6 => (absurd hn (by omega)))
  refine v_aload_n dX0_addNode_10 rfl ?_
  refine v_getI2 (y := (nI (nN D))) dX0_addNode_11 fl_X0_47 (ob_c hc) rfl (h.nd) ?_
  refine v_istore (lv' := [(0, .ref c), (1, .int (nI 5)), (2, .int ((-9))), (3, .int (nI q0)), (4, .int (nI q1)), (5, .int (nI q2)), (6, .int (nI (nN D)))]) dX0_addNode_14 (Nat.le_of_ble_eq_true rfl) rfl ?_
  refine v_aload_n dX0_addNode_16 rfl ?_
  refine v_getR (t := c + 1) dX0_addNode_17 fl_X0_9 (ob_c hc) rfl rfl ?_
  refine v_iload dX0_addNode_20 rfl ?_
  refine v_iload_n dX0_addNode_22 rfl ?_
  refine v_iast (n := 16) (a := nN D) dX0_addNode_23 (ar_c1 hc) (rfl) (by omega) ?_
  refine v_aload_n dX0_addNode_24 rfl ?_
  refine v_getR (t := c + 2) dX0_addNode_25 fl_X0_15 (ob_c hc) rfl rfl ?_
  refine v_iload dX0_addNode_28 rfl ?_
  refine v_iload_n dX0_addNode_30 rfl ?_
  refine v_iast (n := 16) (a := nN D) dX0_addNode_31 (ar_c2 hc) (rfl) (by omega) ?_
  refine v_aload_n dX0_addNode_32 rfl ?_
  refine v_getR (t := c + 8) dX0_addNode_33 fl_X0_33 (ob_c hc) rfl rfl ?_
  refine v_iload dX0_addNode_36 rfl ?_
  refine v_iconst (v := (nI 0)) dX0_addNode_38 rfl ?_
  refine v_iast (n := 16) (a := nN D) dX0_addNode_39 (ar_c8 hc) (rfl) (by omega) ?_
  refine v_aload_n dX0_addNode_40 rfl ?_
  refine v_getR (t := c + 4) dX0_addNode_41 fl_X0_21 (ob_c hc) rfl rfl ?_
  refine v_iload dX0_addNode_44 rfl ?_
  refine v_iconst (v := (nI 0)) dX0_addNode_46 rfl ?_
  refine v_iast (n := 16) (a := nN D) dX0_addNode_47 (ar_c4 hc) (rfl) (by omega) ?_
  refine v_aload_n dX0_addNode_48 rfl ?_
  refine v_getR (t := c + 5) dX0_addNode_49 fl_X0_24 (ob_c hc) rfl rfl ?_
  refine v_iload dX0_addNode_52 rfl ?_
  refine v_iload_n dX0_addNode_54 rfl ?_
  refine v_ifN_eq (tgt := 63) dX0_addNode_55 (by decide) (by omega) (fun c55 => (absurd c55 (by omega))) (fun c55 => ?_)
  refine v_iload_n dX0_addNode_58 rfl ?_
  refine v_iconst (v := (nI 1)) dX0_addNode_59 rfl ?_
  refine v_icmpN_ne (tgt := 70) dX0_addNode_60 (by decide) (by omega) (by omega) (fun c60 => ?_) (fun c60 => (absurd c60 (by omega)))
  refine v_iconst (v := (nI 0)) dX0_addNode_70 rfl ?_
  refine v_iast (n := 16) (a := nN D) dX0_addNode_71 (ar_c5 hc) (rfl) (by omega) ?_
  refine v_aload_n dX0_addNode_72 rfl ?_
  refine v_iload dX0_addNode_73 rfl ?_
  refine v_iconst (v := (nI 0)) dX0_addNode_75 rfl ?_
  refine v_iload_n dX0_addNode_76 rfl ?_
  refine v_callVv (M1 := mup (mup (mup (mup (mup (mup (mup (mup M (c + 1) (nN D) (nI 5)) (c + 2) (nN D) (-9)) (c + 8) (nN D) (nI 0)) (c + 4) (nN D) (nI 0)) (c + 5) (nN D) (nI 0)) (c + 3) (nN D * 3 + 0) (nI q0)) (c + 4) (nN D) ((nI 0) ||| bx q0)) (c + 5) (nN D) ((nI 0) ||| lvF D q0)) (as := [.int (nI (nN D)), .int (nI 0), .int (nI q0)]) (st := []) dX0_addNode_77 ml_X0_86 kv_X0_addPart (ob_c hc) ⟨(Nat.le_of_ble_eq_true rfl), (Nat.le_of_ble_eq_true rfl)⟩ rfl (Nat.le_of_ble_eq_true rfl) rfl (Nat.le_of_ble_eq_true rfl) (c_partG hc z5 hW (by decide) hn hq0 (B := (nI 0)) (L := (nI 0)) (by simp [mup, upd]) (by simp [mup, upd]) (s := 5) (by decide) (by decide) (by simp [mup, upd])) ?_
  refine v_aload_n dX0_addNode_80 rfl ?_
  refine v_iload dX0_addNode_81 rfl ?_
  refine v_iconst (v := (nI 1)) dX0_addNode_83 rfl ?_
  refine v_iload dX0_addNode_84 rfl ?_
  refine v_callVv (M1 := mup (mup (mup (mup (mup (mup (mup (mup (mup (mup (mup M (c + 1) (nN D) (nI 5)) (c + 2) (nN D) (-9)) (c + 8) (nN D) (nI 0)) (c + 4) (nN D) (nI 0)) (c + 5) (nN D) (nI 0)) (c + 3) (nN D * 3 + 0) (nI q0)) (c + 4) (nN D) ((nI 0) ||| bx q0)) (c + 5) (nN D) ((nI 0) ||| lvF D q0)) (c + 3) (nN D * 3 + 1) (nI q1)) (c + 4) (nN D) (((nI 0) ||| bx q0) ||| bx q1)) (c + 5) (nN D) (((nI 0) ||| lvF D q0) ||| lvF D q1)) (as := [.int (nI (nN D)), .int (nI 1), .int (nI q1)]) (st := []) dX0_addNode_86 ml_X0_86 kv_X0_addPart (ob_c hc) ⟨(Nat.le_of_ble_eq_true rfl), (Nat.le_of_ble_eq_true rfl)⟩ rfl (Nat.le_of_ble_eq_true rfl) rfl (Nat.le_of_ble_eq_true rfl) (c_partG hc z8 hW (by decide) hn hq1 (B := ((nI 0) ||| bx q0)) (L := ((nI 0) ||| lvF D q0)) (by simp [mup, upd]) (by simp [mup, upd]) (s := 5) (by decide) (by decide) (by simp [mup, upd])) ?_
  refine v_aload_n dX0_addNode_89 rfl ?_
  refine v_iload dX0_addNode_90 rfl ?_
  refine v_iconst (v := (nI 2)) dX0_addNode_92 rfl ?_
  refine v_iload dX0_addNode_93 rfl ?_
  refine v_callVv (M1 := mup (mup (mup (mup (mup (mup (mup (mup (mup (mup (mup (mup (mup (mup M (c + 1) (nN D) (nI 5)) (c + 2) (nN D) (-9)) (c + 8) (nN D) (nI 0)) (c + 4) (nN D) (nI 0)) (c + 5) (nN D) (nI 0)) (c + 3) (nN D * 3 + 0) (nI q0)) (c + 4) (nN D) ((nI 0) ||| bx q0)) (c + 5) (nN D) ((nI 0) ||| lvF D q0)) (c + 3) (nN D * 3 + 1) (nI q1)) (c + 4) (nN D) (((nI 0) ||| bx q0) ||| bx q1)) (c + 5) (nN D) (((nI 0) ||| lvF D q0) ||| lvF D q1)) (c + 3) (nN D * 3 + 2) (nI q2)) (c + 4) (nN D) ((((nI 0) ||| bx q0) ||| bx q1) ||| bx q2)) (c + 5) (nN D) ((((nI 0) ||| lvF D q0) ||| lvF D q1) ||| lvF D q2)) (as := [.int (nI (nN D)), .int (nI 2), .int (nI q2)]) (st := []) dX0_addNode_95 ml_X0_86 kv_X0_addPart (ob_c hc) ⟨(Nat.le_of_ble_eq_true rfl), (Nat.le_of_ble_eq_true rfl)⟩ rfl (Nat.le_of_ble_eq_true rfl) rfl (Nat.le_of_ble_eq_true rfl) (c_partG hc z11 hW (by decide) hn hq2 (B := (((nI 0) ||| bx q0) ||| bx q1)) (L := (((nI 0) ||| lvF D q0) ||| lvF D q1)) (by simp [mup, upd]) (by simp [mup, upd]) (s := 5) (by decide) (by decide) (by simp [mup, upd])) ?_
  refine v_aload_n dX0_addNode_98 rfl ?_
  refine v_getR (t := c + 6) dX0_addNode_99 fl_X0_27 (ob_c hc) rfl rfl ?_
  refine v_iload dX0_addNode_102 rfl ?_
  refine v_iload_n dX0_addNode_104 rfl ?_
  refine v_iconst (v := (nI 1)) dX0_addNode_105 rfl ?_
  refine v_icmpN_ne (tgt := 125) dX0_addNode_106 (by decide) (by omega) (by omega) (fun c106 => ?_) (fun c106 => (absurd c106 (by omega)))
  refine v_iconst (v := (nI 0)) dX0_addNode_125 rfl ?_
  refine v_iast (n := 16) (a := nN D) dX0_addNode_126 (ar_c6 hc) (rfl) (by omega) ?_
  refine v_aload_n dX0_addNode_127 rfl ?_
  refine v_dup dX0_addNode_128 rfl ?_
  refine v_getI2 (y := (nI (nN D))) dX0_addNode_129 fl_X0_47 (ob_c hc) rfl (by rw [mup_ne (by omega)]; exact z14.nd) ?_
  refine v_iconst (v := (nI 1)) dX0_addNode_132 rfl ?_
  refine v_iaddN dX0_addNode_133 ?_
  refine v_putI dX0_addNode_134 fl_X0_47 (ob_c hc) rfl rfl rfl ?_
  refine v_vret dX0_addNode_137 rfl ?_
  refine ⟨rfl, fun i hi => ?_, ⟨?_, fun j hj => ?_⟩, ?_, ?_, ?_, ?_, fun j hj => ?_, ?_, fun j hj => ?_, ?_, ?_, ?_, ?_⟩
  · iterate 30 (first | rw [mup_ne (by omega)] | skip)
  · rw [mup_eq, upd_eq]
  · rw [mup_eq, upd_ne hj]
    iterate 30 (first | rw [mup_ne (by omega)] | skip)
  · simp [mup]
  · simp [mup]
  · simp [mup]
  · simp [mup, upd]
  · simp [mup, upd, hj]
  · simp [mup, upd]
  · simp [mup, upd, hj]
  · simp [mup]
  · simp [mup]
  · simp [mup]
  · simp [mup]
set_option maxRecDepth 100000 in
theorem c_setP (hc : c = 4 ∨ c = 14) {a : Nat} {x : Int32} (ha : a < 3) : V kX0_setPeriod (rv (mup M (c + 9) a x)) M 0 [(0, .ref c), (1, .int (nI a)), (2, .int x)] [] := by
  refine v_iload_n dX0_setPeriod_0 rfl ?_
  refine v_ifN_lt (tgt := 16) dX0_setPeriod_1 (by decide) (by omega) ?_
  refine v_iload_n dX0_setPeriod_4 rfl ?_
  refine v_iconst (v := (nI 3)) dX0_setPeriod_5 rfl ?_
  refine v_icmpN_ge (tgt := 16) dX0_setPeriod_6 (by decide) (by omega) (by omega) (fun c6 => (absurd c6 (by omega))) (fun c6 => ?_)
  refine v_aload_n dX0_setPeriod_9 rfl ?_
  refine v_getR (t := c + 9) dX0_setPeriod_10 fl_X0_44 (ob_c hc) rfl rfl ?_
  refine v_iload_n dX0_setPeriod_13 rfl ?_
  refine v_iload_n dX0_setPeriod_14 rfl ?_
  refine v_iast (n := 3) (a := a) dX0_setPeriod_15 (ar_c9 hc) (rfl) (by omega) ?_
  refine v_vret dX0_setPeriod_16 rfl ?_
  exact ⟨rfl, rfl⟩
set_option maxRecDepth 100000 in
theorem c_addK (hc : c = 4 ∨ c = 14) (h : CIR0 M c D) (hW : WF D) {a b : Nat} (ha : a < nN D) (hb : b < nN D) (hab : a ≠ b) : V kX0_addMark (fun v M' => v = none ∧ (∀ i, i ≠ c → i ≠ c + 8 → M' i = M i) ∧ (∀ j, j ≠ 1 → M' c j = M c j) ∧ M' c 1 = nI (nK D + 1) ∧ M' (c + 8) a = M (c + 8) a ||| bx b ∧ M' (c + 8) b = M (c + 8) b ||| bx a ∧ ∀ j, j ≠ a → j ≠ b → M' (c + 8) j = M (c + 8) j) M 0 [(0, .ref c), (1, .int (nI a)), (2, .int (nI b))] [] := by
  have h16 := hW.n16
  have hba : b ≠ a := Ne.symm hab
  refine v_aload_n dX0_addMark_0 rfl ?_
  refine v_iload_n dX0_addMark_1 rfl ?_
  refine v_callVr (x := .int (nI 1)) (M1 := M) (as := [.int (nI a)]) (st := []) dX0_addMark_2 ml_X0_68 kv_X0_isNode (ob_c hc) ⟨(Nat.le_of_ble_eq_true rfl), (Nat.le_of_ble_eq_true rfl)⟩ rfl (Nat.le_of_ble_eq_true rfl) rfl (Nat.le_of_ble_eq_true rfl) (c_cNode hc h hW (by omega)) ?_
  refine v_ifN_eq (tgt := 50) dX0_addMark_5 (by decide) (by decide) (fun c5 => (absurd c5 (by decide))) (fun c5 => ?_)
  refine v_aload_n dX0_addMark_8 rfl ?_
  refine v_iload_n dX0_addMark_9 rfl ?_
  refine v_callVr (x := .int (nI 1)) (M1 := M) (as := [.int (nI b)]) (st := []) dX0_addMark_10 ml_X0_68 kv_X0_isNode (ob_c hc) ⟨(Nat.le_of_ble_eq_true rfl), (Nat.le_of_ble_eq_true rfl)⟩ rfl (Nat.le_of_ble_eq_true rfl) rfl (Nat.le_of_ble_eq_true rfl) (c_cNode hc h hW (by omega)) ?_
  refine v_ifN_eq (tgt := 50) dX0_addMark_13 (by decide) (by decide) (fun c13 => (absurd c13 (by decide))) (fun c13 => ?_)
  refine v_aload_n dX0_addMark_16 rfl ?_
  refine v_getR (t := c + 8) dX0_addMark_17 fl_X0_33 (ob_c hc) rfl rfl ?_
  refine v_iload_n dX0_addMark_20 rfl ?_
  refine v_dup2 dX0_addMark_21 rfl rfl ?_
  refine v_iald (n := 16) (a := a) dX0_addMark_22 (ar_c8 hc) (rfl) (by omega) ?_
  refine v_iconst (v := (nI 1)) dX0_addMark_23 rfl ?_
  refine v_iload_n dX0_addMark_24 rfl ?_
  refine v_ishl dX0_addMark_25 ?_
  refine v_ior dX0_addMark_26 ?_
  refine v_iast (n := 16) (a := a) dX0_addMark_27 (ar_c8 hc) (rfl) (by omega) ?_
  refine v_aload_n dX0_addMark_28 rfl ?_
  refine v_getR (t := c + 8) dX0_addMark_29 fl_X0_33 (ob_c hc) rfl rfl ?_
  refine v_iload_n dX0_addMark_32 rfl ?_
  refine v_dup2 dX0_addMark_33 rfl rfl ?_
  refine v_iald2 (n := 16) (a := b) (y := (M (c + 8) b)) dX0_addMark_34 (ar_c8 hc) (rfl) (by omega) (by rw [mup_eq, upd_ne hba]) ?_
  refine v_iconst (v := (nI 1)) dX0_addMark_35 rfl ?_
  refine v_iload_n dX0_addMark_36 rfl ?_
  refine v_ishl dX0_addMark_37 ?_
  refine v_ior dX0_addMark_38 ?_
  refine v_iast (n := 16) (a := b) dX0_addMark_39 (ar_c8 hc) (rfl) (by omega) ?_
  refine v_aload_n dX0_addMark_40 rfl ?_
  refine v_dup dX0_addMark_41 rfl ?_
  refine v_getI2 (y := (nI (nK D))) dX0_addMark_42 fl_X0_51 (ob_c hc) rfl (by rw [mup_ne (by omega), mup_ne (by omega)]; exact h.mk) ?_
  refine v_iconst (v := (nI 1)) dX0_addMark_45 rfl ?_
  refine v_iaddN dX0_addMark_46 ?_
  refine v_putI dX0_addMark_47 fl_X0_51 (ob_c hc) rfl rfl rfl ?_
  refine v_vret dX0_addMark_50 rfl ?_
  refine ⟨rfl, fun i a1 a2 => ?_, fun j hj => ?_, ?_, ?_, ?_, fun j h1 h2 => ?_⟩
  · rw [mup_ne a1, mup_ne a2, mup_ne a2]
  · rw [mup_eq, upd_ne hj, mup_ne (by omega), mup_ne (by omega)]
  · rw [mup_eq, upd_eq]
  · rw [mup_ne (by omega), mup_eq, upd_ne hab, mup_eq, upd_eq]; rfl
  · rw [mup_ne (by omega), mup_eq, upd_eq]; rfl
  · rw [mup_ne (by omega), mup_eq, upd_ne h2, mup_eq, upd_ne h1]
set_option maxRecDepth 100000 in
theorem c_cEmpty (hc : c = 4 ∨ c = 14) : V kX0_empty (fun v M' => v = none ∧ (∀ i, i ≠ c → i ≠ c + 9 → M' i = M i) ∧ CIR0 M' c b0) M 0 [(0, .ref c)] [] := by
  refine v_aload_n dX0_empty_0 rfl ?_
  refine v_iconst (v := (nI 0)) dX0_empty_1 rfl ?_
  refine v_putI dX0_empty_2 fl_X0_47 (ob_c hc) rfl rfl rfl ?_
  refine v_aload_n dX0_empty_5 rfl ?_
  refine v_iconst (v := (nI 0)) dX0_empty_6 rfl ?_
  refine v_putI dX0_empty_7 fl_X0_51 (ob_c hc) rfl rfl rfl ?_
  refine v_gets97 dX0_empty_10 fp_X0 ?_
  refine v_iconst (v := (nI 0)) dX0_empty_13 rfl ?_
  refine v_aload_n dX0_empty_14 rfl ?_
  refine v_getR (t := c + 9) dX0_empty_15 fl_X0_44 (ob_c hc) rfl rfl ?_
  refine v_iconst (v := (nI 0)) dX0_empty_18 rfl ?_
  refine v_iconst (v := (nI 3)) dX0_empty_19 rfl ?_
  refine v_acopyP (j := c + 9) dX0_empty_20 ac_X0 (ar_c9 hc) (Nat.le_of_ble_eq_true rfl) (Nat.le_of_ble_eq_true rfl) ?_
  refine v_vret dX0_empty_23 rfl ?_
  have n0 : nN b0 = 0 := rfl
  have k0 : nK b0 = 0 := rfl
  refine ⟨rfl, fun i a1 a2 => ?_, ?_, ?_, fun n hn => absurd hn (by omega), fun n hn => absurd hn (by omega), fun n hn => absurd hn (by omega), fun n hn => absurd hn (by omega), fun n hn => absurd hn (by omega), fun n hn => absurd hn (by omega), fun n hn => absurd hn (by omega), fun j hj => ?_⟩
  · rw [mrow_ne a2, mup_ne a1, mup_ne a1]
  · rw [mrow_ne (by omega), mup_eq, upd_ne (by decide), mup_eq, upd_eq]; rfl
  · rw [mrow_ne (by omega), mup_eq, upd_eq]; rfl
  · rw [mrow_eq]
    rcases (show j = 0 ∨ j = 1 ∨ j = 2 by omega) with rfl | rfl | rfl <;> rfl
set_option maxRecDepth 100000 in
theorem c_room_p (hc : c = 4 ∨ c = 14) (h : CIR0 M c D) (hW : WF D) : V kX0_hasRoomFor (rt (.int (nI 1)) M) M 0 [(0, .ref c), (1, .int (nI 112))] [] := by
  have h16 := hW.n16
  refine v_iload_n dX0_hasRoomFor_0 rfl ?_
  skip
  · refine v_lookup (off := 35) (tgt := 36) dX0_hasRoomFor_1 (by decide) (by first | decide | exact hlo) (by decide) ?_
    refine v_iconst (v := (nI 1)) dX0_hasRoomFor_36 rfl ?_
    refine v_zret dX0_hasRoomFor_37 rfl (Or.inr rfl) ?_
    exact ⟨rfl, rfl⟩
set_option maxRecDepth 100000 in
theorem c_room_103 (hc : c = 4 ∨ c = 14) (h : CIR0 M c D) (hW : WF D) : V kX0_hasRoomFor (rt (.int (bI (nK D < 6))) M) M 0 [(0, .ref c), (1, .int (nI 103))] [] := by
  have h16 := hW.n16
  have hk6 := hW.2.1.2
  refine v_iload_n dX0_hasRoomFor_0 rfl ?_
  skip
  · refine v_lookup (off := 37) (tgt := 38) dX0_hasRoomFor_1 (by decide) (by first | decide | exact hlo) (by decide) ?_
    refine v_aload_n dX0_hasRoomFor_38 rfl ?_
    refine v_getI2 (y := (nI (nK D))) dX0_hasRoomFor_39 fl_X0_51 (ob_c hc) rfl (h.mk) ?_
    refine v_bipush (v := (nI 6)) dX0_hasRoomFor_42 rfl ?_
    refine v_icmpN_ge (tgt := 51) dX0_hasRoomFor_44 (by decide) (by omega) (by omega) (fun c44 => ?_) (fun c44 => ?_)
    · refine v_iconst (v := (nI 0)) dX0_hasRoomFor_51 rfl ?_
      refine v_zret dX0_hasRoomFor_52 rfl (Or.inl rfl) ?_
      refine ⟨congrArg (fun x => some (Value.int x)) ?_, rfl⟩
      first | (rw [bI_t (by omega)]; rfl) | (rw [bI_f (by omega)]; rfl)
    · refine v_iconst (v := (nI 1)) dX0_hasRoomFor_47 rfl ?_
      refine v_goto (tgt := 52) dX0_hasRoomFor_48 (by decide) ?_
      refine v_zret dX0_hasRoomFor_52 rfl (Or.inr rfl) ?_
      refine ⟨congrArg (fun x => some (Value.int x)) ?_, rfl⟩
      first | (rw [bI_t (by omega)]; rfl) | (rw [bI_f (by omega)]; rfl)
set_option maxRecDepth 100000 in
theorem c_room_101 (hc : c = 4 ∨ c = 14) (h : CIR0 M c D) (hW : WF D) : V kX0_hasRoomFor (rt (.int (bI (nK D < 6))) M) M 0 [(0, .ref c), (1, .int (nI 101))] [] := by
  have h16 := hW.n16
  have hk6 := hW.2.1.2
  refine v_iload_n dX0_hasRoomFor_0 rfl ?_
  skip
  · refine v_lookup (off := 37) (tgt := 38) dX0_hasRoomFor_1 (by decide) (by first | decide | exact hlo) (by decide) ?_
    refine v_aload_n dX0_hasRoomFor_38 rfl ?_
    refine v_getI2 (y := (nI (nK D))) dX0_hasRoomFor_39 fl_X0_51 (ob_c hc) rfl (h.mk) ?_
    refine v_bipush (v := (nI 6)) dX0_hasRoomFor_42 rfl ?_
    refine v_icmpN_ge (tgt := 51) dX0_hasRoomFor_44 (by decide) (by omega) (by omega) (fun c44 => ?_) (fun c44 => ?_)
    · refine v_iconst (v := (nI 0)) dX0_hasRoomFor_51 rfl ?_
      refine v_zret dX0_hasRoomFor_52 rfl (Or.inl rfl) ?_
      refine ⟨congrArg (fun x => some (Value.int x)) ?_, rfl⟩
      first | (rw [bI_t (by omega)]; rfl) | (rw [bI_f (by omega)]; rfl)
    · refine v_iconst (v := (nI 1)) dX0_hasRoomFor_47 rfl ?_
      refine v_goto (tgt := 52) dX0_hasRoomFor_48 (by decide) ?_
      refine v_zret dX0_hasRoomFor_52 rfl (Or.inr rfl) ?_
      refine ⟨congrArg (fun x => some (Value.int x)) ?_, rfl⟩
      first | (rw [bI_t (by omega)]; rfl) | (rw [bI_f (by omega)]; rfl)
set_option maxRecDepth 100000 in
theorem c_room_105 (hc : c = 4 ∨ c = 14) (h : CIR0 M c D) (hW : WF D) : V kX0_hasRoomFor (rt (.int (bI (nN D < 16))) M) M 0 [(0, .ref c), (1, .int (nI 105))] [] := by
  have h16 := hW.n16
  refine v_iload_n dX0_hasRoomFor_0 rfl ?_
  skip
  · refine v_lookup (off := 52) (tgt := 53) dX0_hasRoomFor_1 (by decide) (by first | decide | exact hlo) (by decide) ?_
    refine v_aload_n dX0_hasRoomFor_53 rfl ?_
    refine v_getI2 (y := (nI (nN D))) dX0_hasRoomFor_54 fl_X0_47 (ob_c hc) rfl (h.nd) ?_
    refine v_bipush (v := (nI 16)) dX0_hasRoomFor_57 rfl ?_
    refine v_icmpN_ge (tgt := 66) dX0_hasRoomFor_59 (by decide) (by omega) (by omega) (fun c59 => ?_) (fun c59 => ?_)
    · refine v_iconst (v := (nI 0)) dX0_hasRoomFor_66 rfl ?_
      refine v_zret dX0_hasRoomFor_67 rfl (Or.inl rfl) ?_
      refine ⟨congrArg (fun x => some (Value.int x)) ?_, rfl⟩
      first | (rw [bI_t (by omega)]; rfl) | (rw [bI_f (by omega)]; rfl)
    · refine v_iconst (v := (nI 1)) dX0_hasRoomFor_62 rfl ?_
      refine v_goto (tgt := 67) dX0_hasRoomFor_63 (by decide) ?_
      refine v_zret dX0_hasRoomFor_67 rfl (Or.inr rfl) ?_
      refine ⟨congrArg (fun x => some (Value.int x)) ?_, rfl⟩
      first | (rw [bI_t (by omega)]; rfl) | (rw [bI_f (by omega)]; rfl)
set_option maxRecDepth 100000 in
theorem c_room_114 (hc : c = 4 ∨ c = 14) (h : CIR0 M c D) (hW : WF D) : V kX0_hasRoomFor (rt (.int (bI (nN D < 16))) M) M 0 [(0, .ref c), (1, .int (nI 114))] [] := by
  have h16 := hW.n16
  refine v_iload_n dX0_hasRoomFor_0 rfl ?_
  skip
  · refine v_lookup (off := 52) (tgt := 53) dX0_hasRoomFor_1 (by decide) (by first | decide | exact hlo) (by decide) ?_
    refine v_aload_n dX0_hasRoomFor_53 rfl ?_
    refine v_getI2 (y := (nI (nN D))) dX0_hasRoomFor_54 fl_X0_47 (ob_c hc) rfl (h.nd) ?_
    refine v_bipush (v := (nI 16)) dX0_hasRoomFor_57 rfl ?_
    refine v_icmpN_ge (tgt := 66) dX0_hasRoomFor_59 (by decide) (by omega) (by omega) (fun c59 => ?_) (fun c59 => ?_)
    · refine v_iconst (v := (nI 0)) dX0_hasRoomFor_66 rfl ?_
      refine v_zret dX0_hasRoomFor_67 rfl (Or.inl rfl) ?_
      refine ⟨congrArg (fun x => some (Value.int x)) ?_, rfl⟩
      first | (rw [bI_t (by omega)]; rfl) | (rw [bI_f (by omega)]; rfl)
    · refine v_iconst (v := (nI 1)) dX0_hasRoomFor_62 rfl ?_
      refine v_goto (tgt := 67) dX0_hasRoomFor_63 (by decide) ?_
      refine v_zret dX0_hasRoomFor_67 rfl (Or.inr rfl) ?_
      refine ⟨congrArg (fun x => some (Value.int x)) ?_, rfl⟩
      first | (rw [bI_t (by omega)]; rfl) | (rw [bI_f (by omega)]; rfl)
set_option maxRecDepth 100000 in
theorem c_room_97 (hc : c = 4 ∨ c = 14) (h : CIR0 M c D) (hW : WF D) : V kX0_hasRoomFor (rt (.int (bI (nN D < 16))) M) M 0 [(0, .ref c), (1, .int (nI 97))] [] := by
  have h16 := hW.n16
  refine v_iload_n dX0_hasRoomFor_0 rfl ?_
  skip
  · refine v_lookup (off := 52) (tgt := 53) dX0_hasRoomFor_1 (by decide) (by first | decide | exact hlo) (by decide) ?_
    refine v_aload_n dX0_hasRoomFor_53 rfl ?_
    refine v_getI2 (y := (nI (nN D))) dX0_hasRoomFor_54 fl_X0_47 (ob_c hc) rfl (h.nd) ?_
    refine v_bipush (v := (nI 16)) dX0_hasRoomFor_57 rfl ?_
    refine v_icmpN_ge (tgt := 66) dX0_hasRoomFor_59 (by decide) (by omega) (by omega) (fun c59 => ?_) (fun c59 => ?_)
    · refine v_iconst (v := (nI 0)) dX0_hasRoomFor_66 rfl ?_
      refine v_zret dX0_hasRoomFor_67 rfl (Or.inl rfl) ?_
      refine ⟨congrArg (fun x => some (Value.int x)) ?_, rfl⟩
      first | (rw [bI_t (by omega)]; rfl) | (rw [bI_f (by omega)]; rfl)
    · refine v_iconst (v := (nI 1)) dX0_hasRoomFor_62 rfl ?_
      refine v_goto (tgt := 67) dX0_hasRoomFor_63 (by decide) ?_
      refine v_zret dX0_hasRoomFor_67 rfl (Or.inr rfl) ?_
      refine ⟨congrArg (fun x => some (Value.int x)) ?_, rfl⟩
      first | (rw [bI_t (by omega)]; rfl) | (rw [bI_f (by omega)]; rfl)
set_option maxRecDepth 100000 in
theorem c_room_111 (hc : c = 4 ∨ c = 14) (h : CIR0 M c D) (hW : WF D) : V kX0_hasRoomFor (rt (.int (bI (nN D < 16))) M) M 0 [(0, .ref c), (1, .int (nI 111))] [] := by
  have h16 := hW.n16
  refine v_iload_n dX0_hasRoomFor_0 rfl ?_
  skip
  · refine v_lookup (off := 52) (tgt := 53) dX0_hasRoomFor_1 (by decide) (by first | decide | exact hlo) (by decide) ?_
    refine v_aload_n dX0_hasRoomFor_53 rfl ?_
    refine v_getI2 (y := (nI (nN D))) dX0_hasRoomFor_54 fl_X0_47 (ob_c hc) rfl (h.nd) ?_
    refine v_bipush (v := (nI 16)) dX0_hasRoomFor_57 rfl ?_
    refine v_icmpN_ge (tgt := 66) dX0_hasRoomFor_59 (by decide) (by omega) (by omega) (fun c59 => ?_) (fun c59 => ?_)
    · refine v_iconst (v := (nI 0)) dX0_hasRoomFor_66 rfl ?_
      refine v_zret dX0_hasRoomFor_67 rfl (Or.inl rfl) ?_
      refine ⟨congrArg (fun x => some (Value.int x)) ?_, rfl⟩
      first | (rw [bI_t (by omega)]; rfl) | (rw [bI_f (by omega)]; rfl)
    · refine v_iconst (v := (nI 1)) dX0_hasRoomFor_62 rfl ?_
      refine v_goto (tgt := 67) dX0_hasRoomFor_63 (by decide) ?_
      refine v_zret dX0_hasRoomFor_67 rfl (Or.inr rfl) ?_
      refine ⟨congrArg (fun x => some (Value.int x)) ?_, rfl⟩
      first | (rw [bI_t (by omega)]; rfl) | (rw [bI_f (by omega)]; rfl)
set_option maxRecDepth 100000 in
theorem c_room_120 (hc : c = 4 ∨ c = 14) (h : CIR0 M c D) (hW : WF D) : V kX0_hasRoomFor (rt (.int (bI (nN D < 16))) M) M 0 [(0, .ref c), (1, .int (nI 120))] [] := by
  have h16 := hW.n16
  refine v_iload_n dX0_hasRoomFor_0 rfl ?_
  skip
  · refine v_lookup (off := 52) (tgt := 53) dX0_hasRoomFor_1 (by decide) (by first | decide | exact hlo) (by decide) ?_
    refine v_aload_n dX0_hasRoomFor_53 rfl ?_
    refine v_getI2 (y := (nI (nN D))) dX0_hasRoomFor_54 fl_X0_47 (ob_c hc) rfl (h.nd) ?_
    refine v_bipush (v := (nI 16)) dX0_hasRoomFor_57 rfl ?_
    refine v_icmpN_ge (tgt := 66) dX0_hasRoomFor_59 (by decide) (by omega) (by omega) (fun c59 => ?_) (fun c59 => ?_)
    · refine v_iconst (v := (nI 0)) dX0_hasRoomFor_66 rfl ?_
      refine v_zret dX0_hasRoomFor_67 rfl (Or.inl rfl) ?_
      refine ⟨congrArg (fun x => some (Value.int x)) ?_, rfl⟩
      first | (rw [bI_t (by omega)]; rfl) | (rw [bI_f (by omega)]; rfl)
    · refine v_iconst (v := (nI 1)) dX0_hasRoomFor_62 rfl ?_
      refine v_goto (tgt := 67) dX0_hasRoomFor_63 (by decide) ?_
      refine v_zret dX0_hasRoomFor_67 rfl (Or.inr rfl) ?_
      refine ⟨congrArg (fun x => some (Value.int x)) ?_, rfl⟩
      first | (rw [bI_t (by omega)]; rfl) | (rw [bI_f (by omega)]; rfl)
set_option maxRecDepth 100000 in
theorem c_room_109 (hc : c = 4 ∨ c = 14) (h : CIR0 M c D) (hW : WF D) : V kX0_hasRoomFor (rt (.int (bI (nN D < 16))) M) M 0 [(0, .ref c), (1, .int (nI 109))] [] := by
  have h16 := hW.n16
  refine v_iload_n dX0_hasRoomFor_0 rfl ?_
  skip
  · refine v_lookup (off := 52) (tgt := 53) dX0_hasRoomFor_1 (by decide) (by first | decide | exact hlo) (by decide) ?_
    refine v_aload_n dX0_hasRoomFor_53 rfl ?_
    refine v_getI2 (y := (nI (nN D))) dX0_hasRoomFor_54 fl_X0_47 (ob_c hc) rfl (h.nd) ?_
    refine v_bipush (v := (nI 16)) dX0_hasRoomFor_57 rfl ?_
    refine v_icmpN_ge (tgt := 66) dX0_hasRoomFor_59 (by decide) (by omega) (by omega) (fun c59 => ?_) (fun c59 => ?_)
    · refine v_iconst (v := (nI 0)) dX0_hasRoomFor_66 rfl ?_
      refine v_zret dX0_hasRoomFor_67 rfl (Or.inl rfl) ?_
      refine ⟨congrArg (fun x => some (Value.int x)) ?_, rfl⟩
      first | (rw [bI_t (by omega)]; rfl) | (rw [bI_f (by omega)]; rfl)
    · refine v_iconst (v := (nI 1)) dX0_hasRoomFor_62 rfl ?_
      refine v_goto (tgt := 67) dX0_hasRoomFor_63 (by decide) ?_
      refine v_zret dX0_hasRoomFor_67 rfl (Or.inr rfl) ?_
      refine ⟨congrArg (fun x => some (Value.int x)) ?_, rfl⟩
      first | (rw [bI_t (by omega)]; rfl) | (rw [bI_f (by omega)]; rfl)
set_option maxRecDepth 100000 in
theorem c_alC {v : Nat} (hv : v < 1000) {f : Int32} : V kX0_allows (rt (.int (bI (v < 3))) M) M 0 [(0, .ref c), (1, .int 67), (2, .int (nI v)), (3, .int f)] [] := by
  refine v_iload_n dX0_allows_0 rfl ?_
  skip
  · refine v_tabIn (tgt := 72) (off := 71) dX0_allows_1 (by decide) (by decide) (by decide) (by decide) ?_
    refine v_iload_n dX0_allows_72 rfl ?_
    refine v_iconst (v := (nI 3)) dX0_allows_73 rfl ?_
    refine v_icmpN_ge (tgt := 81) dX0_allows_74 (by decide) (by omega) (by omega) (fun c74 => ?_) (fun c74 => ?_)
    · refine v_iconst (v := (nI 0)) dX0_allows_81 rfl ?_
      refine v_zret dX0_allows_82 rfl (Or.inl rfl) ?_
      refine ⟨congrArg (fun x => some (Value.int x)) ?_, rfl⟩
      first | (rw [bI_t (by first | omega | (simp only [decide_eq_true_eq]; omega))]; rfl) | (rw [bI_f (by first | omega | (simp only [decide_eq_true_eq]; omega))]; rfl)
    · refine v_iconst (v := (nI 1)) dX0_allows_77 rfl ?_
      refine v_goto (tgt := 82) dX0_allows_78 (by decide) ?_
      refine v_zret dX0_allows_82 rfl (Or.inr rfl) ?_
      refine ⟨congrArg (fun x => some (Value.int x)) ?_, rfl⟩
      first | (rw [bI_t (by first | omega | (simp only [decide_eq_true_eq]; omega))]; rfl) | (rw [bI_f (by first | omega | (simp only [decide_eq_true_eq]; omega))]; rfl)
set_option maxRecDepth 100000 in
theorem c_alP {v : Nat} (hv : v < 1000) {f : Int32} : V kX0_allows (rt (.int (bI (1 ≤ v ∧ v < 10))) M) M 0 [(0, .ref c), (1, .int 80), (2, .int (nI v)), (3, .int f)] [] := by
  refine v_iload_n dX0_allows_0 rfl ?_
  skip
  · refine v_tabIn (tgt := 83) (off := 82) dX0_allows_1 (by decide) (by decide) (by decide) (by decide) ?_
    refine v_iload_n dX0_allows_83 rfl ?_
    refine v_iconst (v := (nI 1)) dX0_allows_84 rfl ?_
    refine v_icmpN_lt (tgt := 98) dX0_allows_85 (by decide) (by omega) (by omega) (fun c85 => ?_) (fun c85 => ?_)
    · refine v_iconst (v := (nI 0)) dX0_allows_98 rfl ?_
      refine v_zret dX0_allows_99 rfl (Or.inl rfl) ?_
      refine ⟨congrArg (fun x => some (Value.int x)) ?_, rfl⟩
      first | (rw [bI_t (by first | omega | (simp only [decide_eq_true_eq]; omega))]; rfl) | (rw [bI_f (by first | omega | (simp only [decide_eq_true_eq]; omega))]; rfl)
    · refine v_iload_n dX0_allows_88 rfl ?_
      refine v_bipush (v := (nI 9)) dX0_allows_89 rfl ?_
      refine v_icmpN_gt (tgt := 98) dX0_allows_91 (by decide) (by omega) (by omega) (fun c91 => ?_) (fun c91 => ?_)
      · refine v_iconst (v := (nI 0)) dX0_allows_98 rfl ?_
        refine v_zret dX0_allows_99 rfl (Or.inl rfl) ?_
        refine ⟨congrArg (fun x => some (Value.int x)) ?_, rfl⟩
        first | (rw [bI_t (by first | omega | (simp only [decide_eq_true_eq]; omega))]; rfl) | (rw [bI_f (by first | omega | (simp only [decide_eq_true_eq]; omega))]; rfl)
      · refine v_iconst (v := (nI 1)) dX0_allows_94 rfl ?_
        refine v_goto (tgt := 99) dX0_allows_95 (by decide) ?_
        refine v_zret dX0_allows_99 rfl (Or.inr rfl) ?_
        refine ⟨congrArg (fun x => some (Value.int x)) ?_, rfl⟩
        first | (rw [bI_t (by first | omega | (simp only [decide_eq_true_eq]; omega))]; rfl) | (rw [bI_f (by first | omega | (simp only [decide_eq_true_eq]; omega))]; rfl)
theorem c_cNodeV (hc : c = 4 ∨ c = 14) (h : CIR0 M c D) (hW : WF D) {v : Nat} (hv : v < 1000) : V kX0_isNode (rt (.int (bI (v < nN D))) M) M 0 [(0, .ref c), (1, .int (nI v))] [] := by
  have h16 := hW.n16
  by_cases e : v < nN D
  · rw [bI_t e]; exact c_cNode hc h hW e
  · rw [bI_f e]; exact c_cNode0 hc h hW (fun z => e ((nI_ltI (by omega) (by omega)).mp z.2))
set_option maxRecDepth 100000 in
theorem c_cLeaf0 (hc : c = 4 ∨ c = 14) (h : CIR0 M c D) (hW : WF D) {v : Nat} (hv : v < 1000) (hn : ¬ v < nN D) : V kX0_isLeaf (rt (.int (nI 0)) M) M 0 [(0, .ref c), (1, .int (nI v))] [] := by
  have h16 := hW.n16
  refine v_iload_n dX0_isLeaf_0 rfl ?_
  refine v_ifN_lt (tgt := 35) dX0_isLeaf_1 (by decide) (by omega) ?_
  refine v_iload_n dX0_isLeaf_4 rfl ?_
  refine v_aload_n dX0_isLeaf_5 rfl ?_
  refine v_getI2 (y := (nI (nN D))) dX0_isLeaf_6 fl_X0_47 (ob_c hc) rfl (h.nd) ?_
  refine v_icmpN_ge (tgt := 35) dX0_isLeaf_9 (by decide) (by omega) (by omega) (fun c9 => ?_) (fun c9 => (absurd c9 (by omega)))
  refine v_iconst (v := (nI 0)) dX0_isLeaf_35 rfl ?_
  refine v_zret dX0_isLeaf_36 rfl (Or.inl rfl) ?_
  exact ⟨rfl, rfl⟩
theorem c_cLeafV (hc : c = 4 ∨ c = 14) (h : CIR0 M c D) (hW : WF D) {v : Nat} (hv : v < 1000) : V kX0_isLeaf (rt (.int (bI (v < nN D ∧ so D v ≤ 1))) M) M 0 [(0, .ref c), (1, .int (nI v))] [] := by
  by_cases e : v < nN D
  · have := c_cLeaf hc h hW e
    rw [bI_c (show (so D v ≤ 1) ↔ (v < nN D ∧ so D v ≤ 1) from ⟨fun z => ⟨e, z⟩, fun z => z.2⟩)] at this
    exact this
  · rw [bI_f (fun z => e z.1)]; exact c_cLeaf0 hc h hW hv e
set_option maxRecDepth 100000 in
theorem c_alN (hc : c = 4 ∨ c = 14) (h : CIR0 M c D) (hW : WF D) {v : Nat} (hv : v < 1000) {f : Int32} : V kX0_allows (rt (.int (bI (v < nN D))) M) M 0 [(0, .ref c), (1, .int 78), (2, .int (nI v)), (3, .int f)] [] := by
  have h16 := hW.n16
  refine v_iload_n dX0_allows_0 rfl ?_
  skip
  · refine v_tabIn (tgt := 100) (off := 99) dX0_allows_1 (by decide) (by decide) (by decide) (by decide) ?_
    refine v_aload_n dX0_allows_100 rfl ?_
    refine v_iload_n dX0_allows_101 rfl ?_
    refine v_callVr (x := .int (bI (v < nN D))) (M1 := M) (as := [.int (nI v)]) (st := []) dX0_allows_102 ml_X0_68 kv_X0_isNode (ob_c hc) ⟨(Nat.le_of_ble_eq_true rfl), (Nat.le_of_ble_eq_true rfl)⟩ rfl (Nat.le_of_ble_eq_true rfl) rfl (Nat.le_of_ble_eq_true rfl) (c_cNodeV hc h hW hv) ?_
    refine v_bret dX0_allows_105 rfl ?_
    exact ⟨rfl, rfl⟩
set_option maxRecDepth 100000 in
theorem c_alL (hc : c = 4 ∨ c = 14) (h : CIR0 M c D) (hW : WF D) {v : Nat} (hv : v < 1000) {f : Int32} : V kX0_allows (rt (.int (bI (v < nN D ∧ so D v ≤ 1))) M) M 0 [(0, .ref c), (1, .int 76), (2, .int (nI v)), (3, .int f)] [] := by
  have h16 := hW.n16
  refine v_iload_n dX0_allows_0 rfl ?_
  skip
  · refine v_tabIn (tgt := 106) (off := 105) dX0_allows_1 (by decide) (by decide) (by decide) (by decide) ?_
    refine v_aload_n dX0_allows_106 rfl ?_
    refine v_iload_n dX0_allows_107 rfl ?_
    refine v_callVr (x := .int (bI (v < nN D ∧ so D v ≤ 1))) (M1 := M) (as := [.int (nI v)]) (st := []) dX0_allows_108 ml_X0_72 kv_X0_isLeaf (ob_c hc) ⟨(Nat.le_of_ble_eq_true rfl), (Nat.le_of_ble_eq_true rfl)⟩ rfl (Nat.le_of_ble_eq_true rfl) rfl (Nat.le_of_ble_eq_true rfl) (c_cLeafV hc h hW hv) ?_
    refine v_bret dX0_allows_111 rfl ?_
    exact ⟨rfl, rfl⟩
set_option maxRecDepth 100000 in
theorem c_alM (hc : c = 4 ∨ c = 14) (h : CIR0 M c D) (hW : WF D) {v a : Nat} (hv : v < 1000) (ha : a < 1000) : V kX0_allows (rt (.int (bI ((v < nN D ∧ so D v ≤ 1) ∧ v ≠ a))) M) M 0 [(0, .ref c), (1, .int 77), (2, .int (nI v)), (3, .int (nI a))] [] := by
  have h16 := hW.n16
  refine v_iload_n dX0_allows_0 rfl ?_
  skip
  · refine v_tabIn (tgt := 112) (off := 111) dX0_allows_1 (by decide) (by decide) (by decide) (by decide) ?_
    refine v_aload_n dX0_allows_112 rfl ?_
    refine v_iload_n dX0_allows_113 rfl ?_
    refine v_callVr (x := .int (bI (v < nN D ∧ so D v ≤ 1))) (M1 := M) (as := [.int (nI v)]) (st := []) dX0_allows_114 ml_X0_72 kv_X0_isLeaf (ob_c hc) ⟨(Nat.le_of_ble_eq_true rfl), (Nat.le_of_ble_eq_true rfl)⟩ rfl (Nat.le_of_ble_eq_true rfl) rfl (Nat.le_of_ble_eq_true rfl) (c_cLeafV hc h hW hv) ?_
    refine v_ifB_eq (tgt := 129) dX0_allows_117 (by decide) (fun c117 => ?_) (fun c117 => ?_)
    · refine v_iconst (v := (nI 0)) dX0_allows_129 rfl ?_
      refine v_zret dX0_allows_130 rfl (Or.inl rfl) ?_
      refine ⟨congrArg (fun x => some (Value.int x)) ?_, rfl⟩
      exact (bI_f (fun z => c117 z.1)).symm
    · refine v_iload_n dX0_allows_120 rfl ?_
      refine v_iload_n dX0_allows_121 rfl ?_
      refine v_icmpN_eq (tgt := 129) dX0_allows_122 (by decide) (by omega) (by omega) (fun c122 => ?_) (fun c122 => ?_)
      · refine v_iconst (v := (nI 0)) dX0_allows_129 rfl ?_
        refine v_zret dX0_allows_130 rfl (Or.inl rfl) ?_
        refine ⟨congrArg (fun x => some (Value.int x)) ?_, rfl⟩
        exact (bI_f (fun z => z.2 c122)).symm
      · refine v_iconst (v := (nI 1)) dX0_allows_125 rfl ?_
        refine v_goto (tgt := 130) dX0_allows_126 (by decide) ?_
        refine v_zret dX0_allows_130 rfl (Or.inr rfl) ?_
        refine ⟨congrArg (fun x => some (Value.int x)) ?_, rfl⟩
        exact (bI_t ⟨c117, c122⟩).symm
end C53
