/-! reading keeps a well told row -/
theorem tN_nI {T : Nat → Int32} {i n : Nat} (h : T i = nI n) (hn : n < 2 ^ 31) : tN T i = n := by unfold tN; rw [h, nI_clamp hn]
def WFx (D : Nat → Int32) (N K : Nat) : Prop := (N ≤ 16 ∧ K ≤ 6) ∧ D 95 = nI N ∧ D 96 = nI K ∧ (∀ n, n < N → ∃ s, s ≤ 5 ∧ D n = nI s) ∧ (∀ n, n < N → ∃ c, c ≤ 2 ∧ D (16 + n) = nI c) ∧
  (∀ n, n < N → ∀ s, s ≤ 5 → D n = nI s → ∀ k, k < hmF s → ∃ j, j < n ∧ D (32 + 3 * n + k) = nI j) ∧
  (∀ i, i < 2 * K → ∃ m, m < N ∧ D (80 + i) = nI m ∧ ∃ s, s ≤ 1 ∧ D m = nI s) ∧ (∀ i, i < K → D (80 + 2 * i) ≠ D (80 + (2 * i + 1))) ∧ (∀ c, c < 3 → ∃ p, (1 ≤ p ∧ p ≤ 9) ∧ D (92 + c) = nI p)
theorem WFx_WF {D : Nat → Int32} {N K : Nat} (h : WFx D N K) : WF D ∧ nN D = N ∧ nK D = K := by
  obtain ⟨⟨b1, b2⟩, h1, h2, h3, h4, h5, h6, h7, h8⟩ := h
  have e1 : nN D = N := tN_nI h1 (by omega)
  have e2 : nK D = K := tN_nI h2 (by omega)
  refine ⟨⟨⟨by rw [e1]; exact h1, by omega⟩, ⟨by rw [e2]; exact h2, by omega⟩, ?_, ?_, ?_, ?_, ?_, ?_⟩, e1, e2⟩
  · intro n hn; rw [e1] at hn
    obtain ⟨s, q1, q2⟩ := h3 n hn
    have e : so D n = s := tN_nI q2 (by omega)
    rw [e]; exact ⟨q2, q1⟩
  · intro n hn; rw [e1] at hn
    obtain ⟨s, q1, q2⟩ := h4 n hn
    have e : ck D n = s := tN_nI q2 (by omega)
    rw [e]; exact ⟨q2, q1⟩
  · intro n hn k hk; rw [e1] at hn
    obtain ⟨s, q1, q2⟩ := h3 n hn
    have e : so D n = s := tN_nI q2 (by omega)
    rw [e] at hk
    obtain ⟨j, q3, q4⟩ := h5 n hn s q1 q2 k hk
    have e3 : pt D n k = j := tN_nI q4 (by omega)
    rw [e3]; exact ⟨q4, q3⟩
  · intro i hi; rw [e2] at hi
    obtain ⟨m, q1, q2, s, q3, q4⟩ := h6 i hi
    have e3 : mk D i = m := tN_nI q2 (by omega)
    have e4 : so D m = s := tN_nI q4 (by omega)
    rw [e3, e1, e4]; exact ⟨q2, q1, q3⟩
  · intro i hi; rw [e2] at hi
    obtain ⟨m, q1, q2, -⟩ := h6 (2 * i) (by omega)
    obtain ⟨m', q1', q2', -⟩ := h6 (2 * i + 1) (by omega)
    have e3 : mk D (2 * i) = m := tN_nI q2 (by omega)
    have e4 : mk D (2 * i + 1) = m' := tN_nI q2' (by omega)
    rw [e3, e4]
    intro e
    exact h7 i hi (by rw [q2, q2', e])
  · intro c hc
    obtain ⟨p, q1, q2⟩ := h8 c hc
    have e3 : pe D c = p := tN_nI q2 (by omega)
    rw [e3]; exact ⟨q2, q1.1, q1.2⟩
theorem WF_WFx {D : Nat → Int32} (h : WF D) : WFx D (nN D) (nK D) := by
  obtain ⟨⟨h1, b1⟩, ⟨h2, b2⟩, h3, h4, h5, h6, h7, h8⟩ := h
  refine ⟨⟨b1, b2⟩, h1, h2, fun n hn => ⟨_, (h3 n hn).2, (h3 n hn).1⟩, fun n hn => ⟨_, (h4 n hn).2, (h4 n hn).1⟩, fun n hn s hs e k hk => ?_, fun i hi => ?_, fun i hi e => ?_, fun c hc => ⟨_, (h8 c hc).2, (h8 c hc).1⟩⟩
  · have e1 : so D n = s := tN_nI e (by omega)
    rw [← e1] at hk
    exact ⟨_, (h5 n hn k hk).2, (h5 n hn k hk).1⟩
  · obtain ⟨q1, q2, q3⟩ := h6 i hi
    exact ⟨_, q2, q1, _, q3, (h3 _ q2).1⟩
  · obtain ⟨q1, q2, q3⟩ := h6 (2 * i) (by omega)
    obtain ⟨r1, r2, r3⟩ := h6 (2 * i + 1) (by omega)
    rw [q1, r1] at e
    exact h7 i hi ((nI_eq (by omega) (by omega)).mp e)
def WD (D : Nat → Int32) : Prop := WF D ∧ ∀ j, nN D ≤ j → j < 16 → D (16 + j) = nI 0
theorem mq_inv {u : Nat → Nat} {t : Nat} {b : Bool} {s : Nat × Option Nat} (h : (mq u t b s).2 = none) : s.2 = none ∧ b = true ∧ (mq u t b s).1 = tNx u t s.1 := by
  obtain ⟨q, f⟩ := s
  cases f with
  | some a => cases h
  | none =>
    rw [mq_none] at h ⊢
    split at h
    · rw [if_pos (by assumption)]; exact ⟨rfl, by assumption, rfl⟩
    · cases h
theorem rnL_ne {u : Nat → Nat} {t n : Nat} {z : pS} {i : Nat} : ∀ {K : Nat}, (∀ k, k < K → i ≠ 32 + 3 * n + k) → (rnL u t n z K).1 i = z.1 i
  | 0, _ => rfl
  | K + 1, h => by
    simp only [rnL, upd]
    rw [if_neg (h K (by omega))]
    exact rnL_ne (fun k hk => h k (by omega))
theorem rnL_at {u : Nat → Nat} {t n : Nat} {z : pS} {k : Nat} : ∀ {K : Nat}, k < K → (rnL u t n z K).1 (32 + 3 * n + k) = nI (tVl u t (rnL u t n z k).2.1)
  | 0, h => by omega
  | K + 1, h => by
    simp only [rnL, upd]
    by_cases e : k = K
    · rw [if_pos (by omega), e]
    · rw [if_neg (by omega)]; exact rnL_at (by omega)
theorem rnL_ok {u : Nat → Nat} {t n : Nat} {z : pS} : ∀ {K : Nat}, (rnL u t n z K).2.2 = none → z.2.2 = none ∧ ∀ k, k < K → tVl u t (rnL u t n z k).2.1 < n
  | 0, h => ⟨h, fun k hk => by omega⟩
  | K + 1, h => by
    simp only [rnL] at h
    obtain ⟨a1, a2, a3, a4, a5⟩ := nq_none h
    obtain ⟨b1, b2⟩ := rnL_ok a1
    refine ⟨b1, fun k hk => ?_⟩
    by_cases e : k = K
    · rw [e]; exact a4
    · exact b2 k (by omega)
theorem rnF_WD {u : Nat → Nat} {t s : Nat} {z : pS} (hD : WD z.1) (hn : nN z.1 < 16) (hs : s ≤ 5) (hf : (rnF u t s z).2.2 = none) : WD (rnF u t s z).1 ∧ nN (rnF u t s z).1 = nN z.1 + 1 := by
  obtain ⟨hW, hz⟩ := hD
  have hx := WF_WFx hW
  have hm := hmF_le s
  generalize hN : nN z.1 = n at *
  generalize hK : nK z.1 = K at *
  obtain ⟨⟨b1, b2⟩, h1, h2, h3, h4, h5, h6, h7, h8⟩ := hx
  obtain ⟨f1, f2⟩ := rnL_ok (show (rnL u t n (rnC u t n s (upd z.1 n (nI s), z.2)) (hmF s)).2.2 = none by unfold rnF at hf; rw [hN] at hf; exact hf)
  have hD' : (rnF u t s z).1 = upd (rnL u t n (rnC u t n s (upd z.1 n (nI s), z.2)) (hmF s)).1 95 (nI (n + 1)) := by unfold rnF; rw [hN]
  have hc : s ≤ 1 → tVl u t z.2.1 < 3 := by
    intro h
    unfold rnC at f1
    rw [if_pos h] at f1
    exact (nq_none f1).2.2.2.1
  have old : ∀ i, i ≠ n → i ≠ 95 → i ≠ 16 + n → (∀ k, k < hmF s → i ≠ 32 + 3 * n + k) → (rnF u t s z).1 i = z.1 i := by
    intro i g1 g2 g3 g4
    rw [hD']; simp only [upd]; rw [if_neg g2, rnL_ne g4]
    unfold rnC
    split
    · simp only [upd]; rw [if_neg g3, if_neg g1]
    · simp only [upd]; rw [if_neg g1]
  have at95 : (rnF u t s z).1 95 = nI (n + 1) := by rw [hD']; simp [upd]
  have atn : (rnF u t s z).1 n = nI s := by
    rw [hD']; simp only [upd]; rw [if_neg (by omega), rnL_ne (fun k hk => by omega)]
    unfold rnC
    split
    · simp only [upd]; rw [if_neg (by omega), if_pos trivial]
    · simp only [upd]; rw [if_pos trivial]
  have at16 : (rnF u t s z).1 (16 + n) = if s ≤ 1 then nI (tVl u t z.2.1) else nI 0 := by
    rw [hD']; simp only [upd]; rw [if_neg (by omega), rnL_ne (fun k hk => by omega)]
    unfold rnC
    split
    · simp only [upd]; rw [if_pos trivial]
    · simp only [upd]; rw [if_neg (by omega)]; exact hz n (Nat.le_refl _) hn
  have atk : ∀ k, k < hmF s → ∃ j, j < n ∧ (rnF u t s z).1 (32 + 3 * n + k) = nI j := by
    intro k hk
    refine ⟨_, f2 k hk, ?_⟩
    rw [hD']; simp only [upd]; rw [if_neg (by omega)]
    exact rnL_at hk
  have hx' : WFx (rnF u t s z).1 (n + 1) K := by
    refine ⟨⟨by omega, b2⟩, at95, ?_, fun m hm' => ?_, fun m hm' => ?_, fun m hm' s' hs' e k hk => ?_, fun i hi => ?_, fun i hi => ?_, fun c hc' => ?_⟩
    · rw [old 96 (by omega) (by omega) (by omega) (fun k hk => by omega)]; exact h2
    · by_cases e : m = n
      · rw [e]; exact ⟨s, hs, atn⟩
      · rw [old m e (by omega) (by omega) (fun k hk => by omega)]; exact h3 m (by omega)
    · by_cases e : m = n
      · rw [e, at16]
        split
        · exact ⟨_, by have := hc (by assumption); omega, rfl⟩
        · exact ⟨0, by omega, rfl⟩
      · rw [old (16 + m) (by omega) (by omega) (by omega) (fun k hk => by omega)]; exact h4 m (by omega)
    · by_cases e2 : m = n
      · rw [e2] at e ⊢
        rw [atn] at e
        have : s = s' := (nI_eq (by omega) (by omega)).mp e
        rw [← this] at hk
        exact atk k hk
      · have hk3 := hmF_le s'
        rw [old m e2 (by omega) (by omega) (fun k hk => by omega)] at e
        rw [old (32 + 3 * m + k) (by omega) (by omega) (by omega) (fun k hk => by omega)]
        exact h5 m (by omega) s' hs' e k hk
    · obtain ⟨m, q1, q2, s', q3, q4⟩ := h6 i hi
      refine ⟨m, by omega, ?_, s', q3, ?_⟩
      · rw [old (80 + i) (by omega) (by omega) (by omega) (fun k hk => by omega)]; exact q2
      · rw [old m (by omega) (by omega) (by omega) (fun k hk => by omega)]; exact q4
    · rw [old (80 + 2 * i) (by omega) (by omega) (by omega) (fun k hk => by omega), old (80 + (2 * i + 1)) (by omega) (by omega) (by omega) (fun k hk => by omega)]
      exact h7 i hi
    · rw [old (92 + c) (by omega) (by omega) (by omega) (fun k hk => by omega)]; exact h8 c hc'
  obtain ⟨w1, w2, w3⟩ := WFx_WF hx'
  refine ⟨⟨w1, fun j g1 g2 => ?_⟩, w2⟩
  rw [w2] at g1
  rw [old (16 + j) (by omega) (by omega) (by omega) (fun k hk => by omega)]
  exact hz j (by omega) g2
theorem rmF_WD {u : Nat → Nat} {t : Nat} {z : pS} (hD : WD z.1) (hk : nK z.1 < 6) (hf : (rmF u t z).2.2 = none) : WD (rmF u t z).1 ∧ nN (rmF u t z).1 = nN z.1 := by
  obtain ⟨hW, hz⟩ := hD
  have hx := WF_WFx hW
  unfold rmF at hf
  obtain ⟨a1, a2, a3⟩ := mq_inv hf
  obtain ⟨b1, b2, b3⟩ := mq_inv a1
  simp only [Bool.and_eq_true, Bool.not_eq_true', decide_eq_false_iff_not] at a2
  have l1 := of_decide_eq_true b2
  have l2 := of_decide_eq_true a2.1
  have ne := a2.2
  have hvb := tVl_b u t z.2.1
  have hvb2 := tVl_b u t (mq u t (lfB z.1 u t z.2.1) z.2).1
  have hD' : (rmF u t z).1 = upd (upd (upd z.1 (80 + 2 * nK z.1) (nI (tVl u t z.2.1))) (80 + 2 * nK z.1 + 1) (nI (tVl u t (mq u t (lfB z.1 u t z.2.1) z.2).1))) 96 (nI (nK z.1 + 1)) := rfl
  generalize hb : tVl u t (mq u t (lfB z.1 u t z.2.1) z.2).1 = b at *
  generalize ha : tVl u t z.2.1 = a at *
  generalize hN : nN z.1 = n at *
  generalize hK : nK z.1 = K at *
  obtain ⟨⟨b1', b2'⟩, h1, h2, h3, h4, h5, h6, h7, h8⟩ := hx
  have old : ∀ i, i ≠ 80 + 2 * K → i ≠ 80 + 2 * K + 1 → i ≠ 96 → (rmF u t z).1 i = z.1 i := by
    intro i g1 g2 g3
    rw [hD']; simp only [upd]; rw [if_neg g3, if_neg g2, if_neg g1]
  have at1 : (rmF u t z).1 (80 + 2 * K) = nI a := by rw [hD']; simp only [upd]; rw [if_neg (by omega), if_neg (by omega), if_pos trivial]
  have at2 : (rmF u t z).1 (80 + (2 * K + 1)) = nI b := by rw [hD']; simp only [upd]; rw [if_neg (by omega), if_pos (by omega)]
  have hsa : ∀ m, so z.1 m ≤ 1 → m < n → ∃ s, s ≤ 1 ∧ z.1 m = nI s := fun m g1 g2 => by
    obtain ⟨s, q1, q2⟩ := h3 m g2
    have e : so z.1 m = s := tN_nI q2 (by omega)
    exact ⟨s, by omega, q2⟩
  have hx' : WFx (rmF u t z).1 n (K + 1) := by
    refine ⟨⟨b1', by omega⟩, ?_, ?_, fun m hm' => ?_, fun m hm' => ?_, fun m hm' s' hs' e k hk => ?_, fun i hi => ?_, fun i hi => ?_, fun c hc' => ?_⟩
    · rw [old 95 (by omega) (by omega) (by omega)]; exact h1
    · rw [hD']; simp [upd]
    · rw [old m (by omega) (by omega) (by omega)]; exact h3 m hm'
    · rw [old (16 + m) (by omega) (by omega) (by omega)]; exact h4 m hm'
    · have hk3 := hmF_le s'
      rw [old m (by omega) (by omega) (by omega)] at e
      rw [old (32 + 3 * m + k) (by omega) (by omega) (by omega)]
      exact h5 m hm' s' hs' e k hk
    · by_cases e1 : i = 2 * K
      · rw [e1, at1]
        obtain ⟨s, q1, q2⟩ := hsa a l1.2.2 l1.2.1
        exact ⟨a, l1.2.1, rfl, s, q1, by rw [old a (by omega) (by omega) (by omega)]; exact q2⟩
      · by_cases e2 : i = 2 * K + 1
        · rw [e2, at2]
          obtain ⟨s, q1, q2⟩ := hsa b l2.2.2 l2.2.1
          exact ⟨b, l2.2.1, rfl, s, q1, by rw [old b (by omega) (by omega) (by omega)]; exact q2⟩
        · obtain ⟨m, q1, q2, s', q3, q4⟩ := h6 i (by omega)
          refine ⟨m, q1, ?_, s', q3, ?_⟩
          · rw [old (80 + i) (by omega) (by omega) (by omega)]; exact q2
          · rw [old m (by omega) (by omega) (by omega)]; exact q4
    · by_cases e1 : i = K
      · rw [e1, at1, at2]
        intro e; exact ne ((nI_eq (by omega) (by omega)).mp e).symm
      · rw [old (80 + 2 * i) (by omega) (by omega) (by omega), old (80 + (2 * i + 1)) (by omega) (by omega) (by omega)]
        exact h7 i (by omega)
    · rw [old (92 + c) (by omega) (by omega) (by omega)]; exact h8 c hc'
  obtain ⟨w1, w2, w3⟩ := WFx_WF hx'
  refine ⟨⟨w1, fun j g1 g2 => ?_⟩, w2⟩
  rw [w2] at g1
  rw [old (16 + j) (by omega) (by omega) (by omega)]
  exact hz j (by omega) g2
theorem rpF_WD {u : Nat → Nat} {t : Nat} {z : pS} (hD : WD z.1) (hf : (rpF u t z).2.2 = none) : WD (rpF u t z).1 ∧ nN (rpF u t z).1 = nN z.1 := by
  obtain ⟨hW, hz⟩ := hD
  have hx := WF_WFx hW
  have hf' : (nq u t 1 10 (nq u t 0 3 z.2)).2 = none := hf
  obtain ⟨a1, a2, a3, a4, a5⟩ := nq_none hf'
  obtain ⟨b1, b2, b3, b4, b5⟩ := nq_none a1
  have hD' : (rpF u t z).1 = upd z.1 (92 + tVl u t z.2.1) (nI (tVl u t (nq u t 0 3 z.2).1)) := by unfold rpF; rw [if_pos hf']
  generalize tVl u t (nq u t 0 3 z.2).1 = b at *
  generalize tVl u t z.2.1 = a at *
  generalize hN : nN z.1 = n at *
  generalize hK : nK z.1 = K at *
  obtain ⟨⟨b1', b2'⟩, h1, h2, h3, h4, h5, h6, h7, h8⟩ := hx
  have old : ∀ i, i ≠ 92 + a → (rpF u t z).1 i = z.1 i := by
    intro i g1
    rw [hD']; simp only [upd]; rw [if_neg g1]
  have hx' : WFx (rpF u t z).1 n K := by
    refine ⟨⟨b1', b2'⟩, ?_, ?_, fun m hm' => ?_, fun m hm' => ?_, fun m hm' s' hs' e k hk => ?_, fun i hi => ?_, fun i hi => ?_, fun c hc' => ?_⟩
    · rw [old 95 (by omega)]; exact h1
    · rw [old 96 (by omega)]; exact h2
    · rw [old m (by omega)]; exact h3 m hm'
    · rw [old (16 + m) (by omega)]; exact h4 m hm'
    · have hk3 := hmF_le s'
      rw [old m (by omega)] at e
      rw [old (32 + 3 * m + k) (by omega)]
      exact h5 m hm' s' hs' e k hk
    · obtain ⟨m, q1, q2, s', q3, q4⟩ := h6 i hi
      refine ⟨m, q1, ?_, s', q3, ?_⟩
      · rw [old (80 + i) (by omega)]; exact q2
      · rw [old m (by omega)]; exact q4
    · rw [old (80 + 2 * i) (by omega), old (80 + (2 * i + 1)) (by omega)]
      exact h7 i hi
    · by_cases e : c = a
      · rw [e, hD']; simp only [upd, if_true]; exact ⟨b, by omega, rfl⟩
      · rw [old (92 + c) (by omega)]; exact h8 c hc'
  obtain ⟨w1, w2, w3⟩ := WFx_WF hx'
  refine ⟨⟨w1, fun j g1 g2 => ?_⟩, w2⟩
  rw [w2] at g1
  rw [old (16 + j) (by omega)]
  exact hz j (by omega) g2
theorem itR_WD {u : Nat → Nat} {t q : Nat} {D : Nat → Int32} (hD : WD D) (hf : (itR u t D q).2.2 = none) : WD (itR u t D q).1 := by
  unfold itR at hf ⊢
  by_cases hb : rmB D (tTk u t q) = true
  · rw [if_pos hb] at hf ⊢
    have h1 := (mq_inv (show (mq u t _ _).2 = none from hf)).1
    have hb2 := of_decide_eq_true hb
    unfold riB at h1 ⊢
    cases hso : soO (tTk u t q) with
    | some s =>
      rw [hso] at h1
      refine (rnF_WD hD ?_ (soO_le hso) h1).1
      rcases hb2 with h | h | h
      · exact h.2
      · rcases h.1 with e | e <;> rw [e] at hso <;> cases hso
      · rw [h] at hso; cases hso
    | none =>
      rw [hso] at h1
      simp only at h1 ⊢
      by_cases hm : tTk u t q = 103 ∨ tTk u t q = 101
      · rw [if_pos hm] at h1 ⊢
        refine (rmF_WD hD ?_ h1).1
        rcases hb2 with h | h | h
        · exact absurd hso h.1
        · exact h.2
        · omega
      · rw [if_neg hm] at h1 ⊢
        exact (rpF_WD hD h1).1
  · rw [if_neg hb] at hf
    cases hf
