/-! V: rows with numbers, truth values, calls with one answer -/
def bI (p : Prop) [Decidable p] : Int32 := if p then 1 else 0
theorem bI_t {p : Prop} [Decidable p] (h : p) : bI p = 1 := if_pos h
theorem bI_f {p : Prop} [Decidable p] (h : ¬ p) : bI p = 0 := if_neg h
theorem bI_0 {p : Prop} [Decidable p] : bI p = 0 ↔ ¬ p := by
  by_cases h : p
  · rw [bI_t h]; simp [h]
  · rw [bI_f h]; simp [h]
theorem bI_01 {p : Prop} [Decidable p] : bI p = 0 ∨ bI p = 1 := by
  by_cases h : p
  · exact Or.inr (bI_t h)
  · exact Or.inl (bI_f h)
theorem bI_c {p q : Prop} [Decidable p] [Decidable q] (h : p ↔ q) : bI p = bI q := by
  by_cases hp : p
  · rw [bI_t hp, bI_t (h.mp hp)]
  · rw [bI_f hp, bI_f (fun z => hp (h.mpr z))]
def rt (x : Value) (M : vM) : Option Value → vM → Prop := fun v M' => v = some x ∧ M' = M
def rv (M : vM) : Option Value → vM → Prop := fun v M' => v = none ∧ M' = M
section V9
variable {k k' : vK} {Q Q' : Option Value → vM → Prop} {M M1 : vM} {pc : Nat} {lv lv' : List (Nat × Value)} {st : List Value}
theorem v_top {x y : Int32} (e : x = y) (h : V k Q M pc lv (.int y :: st)) : V k Q M pc lv (.int x :: st) := e ▸ h
theorem v_nam {x : Int32} (h : ∀ y : Int32, y = x → V k Q M pc lv (.int y :: st)) : V k Q M pc lv (.int x :: st) := h x rfl
theorem v_ifB_eq {p : Prop} [Decidable p] {off : Int} {tgt : Nat} (d : decode k.2.1 pc = .ok (.ifCond .eq off, 3)) (ht : (pc : Int) + off = (tgt : Int)) (kt : ¬ p → V k Q M tgt lv st) (kf : p → V k Q M (pc + 3) lv st) : V k Q M pc lv (.int (bI p) :: st) :=
  v_if_eq d ht (fun h => kt (bI_0.mp h)) (fun h => kf (by by_cases hp : p; exact hp; exact absurd (bI_f hp) h))
theorem v_ifB_ne {p : Prop} [Decidable p] {off : Int} {tgt : Nat} (d : decode k.2.1 pc = .ok (.ifCond .ne off, 3)) (ht : (pc : Int) + off = (tgt : Int)) (kt : p → V k Q M tgt lv st) (kf : ¬ p → V k Q M (pc + 3) lv st) : V k Q M pc lv (.int (bI p) :: st) :=
  v_if_ne d ht (fun h => kt (by by_cases hp : p; exact hp; exact absurd (bI_f hp) h)) (fun h => kf (bI_0.mp h))
theorem v_bret {p : Prop} [Decidable p] (d : decode k.2.1 pc = .ok (.ireturn, 1)) (hr : k.2.2.2.1 = some .boolean) (hq : Q (some (.int (bI p))) M) : V k Q M pc lv [.int (bI p)] := v_zret d hr bI_01 hq
theorem v_iaddN {a b : Nat} (d : decode k.2.1 pc = .ok (.iadd, 1)) (h : V k Q M (pc + 1) lv (.int (nI (a + b)) :: st)) : V k Q M pc lv (.int (nI b) :: .int (nI a) :: st) := v_iadd d (by rw [nI_add]; exact h)
theorem v_imulN {a b : Nat} (d : decode k.2.1 pc = .ok (.imul, 1)) (h : V k Q M (pc + 1) lv (.int (nI (a * b)) :: st)) : V k Q M pc lv (.int (nI b) :: .int (nI a) :: st) := v_imul d (by rw [pk_mul]; exact h)
theorem v_isubN {a b : Nat} (d : decode k.2.1 pc = .ok (.isub, 1)) (hab : b ≤ a) (h : V k Q M (pc + 1) lv (.int (nI (a - b)) :: st)) : V k Q M pc lv (.int (nI b) :: .int (nI a) :: st) := v_isub d (by rw [pk_sub hab]; exact h)
theorem v_iincN {i a : Nat} (d : decode k.2.1 pc = .ok (.iinc i 1, 3)) (hx : lget lv i = some (.int (nI a))) (hn : i < k.2.2.1) (hl' : lset lv i (.int (nI (a + 1))) = lv') (h : V k Q M (pc + 3) lv' st) : V k Q M pc lv st := v_iinc d hx (by rw [show Int32.ofInt 1 = 1 from rfl]; exact nI_1 a) hn hl' h
theorem v_idecN {i a : Nat} (d : decode k.2.1 pc = .ok (.iinc i (-1), 3)) (hx : lget lv i = some (.int (nI (a + 1)))) (hn : i < k.2.2.1) (hl' : lset lv i (.int (nI a)) = lv') (h : V k Q M (pc + 3) lv' st) : V k Q M pc lv st := v_iinc d hx (by rw [show Int32.ofInt (-1) = -1 from rfl]; exact pk_m1 a) hn hl' h
theorem v_iald2 {i n a : Nat} {x y : Int32} (d : decode k.2.1 pc = .ok (.iaload, 1)) (ar : AR 10 i n) (hx : x = nI a) (ha : a < n) (e : M i a = y) (h : V k Q M (pc + 1) lv (.int y :: st)) : V k Q M pc lv (.int x :: .ref i :: st) := v_iald d ar hx ha (e ▸ h)
theorem v_getI2 {i ci j idx : Nat} {y : Int32} (d : decode k.2.1 pc = .ok (.getfield idx, 3)) (fl : FL k.1.cls idx ci j) (ob : OB i ci) (ht : ftg ci j = 0) (e : M i j = y) (h : V k Q M (pc + 3) lv (.int y :: st)) : V k Q M pc lv (.ref i :: st) := v_getI d fl ob ht (e ▸ h)
theorem v_callSr {idx n : Nat} {as stk : List Value} {x : Value} (d : decode k.2.1 pc = .ok (.invokestatic idx, 3)) (ml : ML k.1.cls idx k') (ks : KS k' n) (rm : RM k k') (hn : as.length = n) (hlen : (as.map fun v => v.category).sum ≤ k'.2.2.1) (hst : as.reverse ++ st = stk) (hrs : (st.map fun v => v.category).sum ≤ 8)
    (hV : V k' (rt x M1) M 0 (lv_args 0 as) []) (h : V k Q M1 (pc + 3) lv (x :: st)) : V k Q M pc lv stk :=
  v_callS d ml ks rm hn hlen hst hrs hV (fun v M' hq => by obtain ⟨rfl, rfl⟩ := hq; exact h)
theorem v_callSv {idx n : Nat} {as stk : List Value} (d : decode k.2.1 pc = .ok (.invokestatic idx, 3)) (ml : ML k.1.cls idx k') (ks : KS k' n) (rm : RM k k') (hn : as.length = n) (hlen : (as.map fun v => v.category).sum ≤ k'.2.2.1) (hst : as.reverse ++ st = stk) (hrs : (st.map fun v => v.category).sum ≤ 8)
    (hV : V k' (rv M1) M 0 (lv_args 0 as) []) (h : V k Q M1 (pc + 3) lv st) : V k Q M pc lv stk :=
  v_callS d ml ks rm hn hlen hst hrs hV (fun v M' hq => by obtain ⟨rfl, rfl⟩ := hq; exact h)
theorem v_callVr {idx n ci i : Nat} {as stk : List Value} {x : Value} (d : decode k.2.1 pc = .ok (.invokevirtual idx, 3)) (ml : ML k.1.cls idx k') (kv : KV k' ci n) (ob : OB i ci) (rm : RM k k') (hn : as.length = n) (hlen : ((Value.ref i :: as).map fun v => v.category).sum ≤ k'.2.2.1) (hst : as.reverse ++ .ref i :: st = stk) (hrs : (st.map fun v => v.category).sum ≤ 8)
    (hV : V k' (rt x M1) M 0 (lv_args 0 (.ref i :: as)) []) (h : V k Q M1 (pc + 3) lv (x :: st)) : V k Q M pc lv stk :=
  v_callV d ml kv ob rm hn hlen hst hrs hV (fun v M' hq => by obtain ⟨rfl, rfl⟩ := hq; exact h)
theorem v_callVv {idx n ci i : Nat} {as stk : List Value} (d : decode k.2.1 pc = .ok (.invokevirtual idx, 3)) (ml : ML k.1.cls idx k') (kv : KV k' ci n) (ob : OB i ci) (rm : RM k k') (hn : as.length = n) (hlen : ((Value.ref i :: as).map fun v => v.category).sum ≤ k'.2.2.1) (hst : as.reverse ++ .ref i :: st = stk) (hrs : (st.map fun v => v.category).sum ≤ 8)
    (hV : V k' (rv M1) M 0 (lv_args 0 (.ref i :: as)) []) (h : V k Q M1 (pc + 3) lv st) : V k Q M pc lv stk :=
  v_callV d ml kv ob rm hn hlen hst hrs hV (fun v M' hq => by obtain ⟨rfl, rfl⟩ := hq; exact h)
theorem v_use {x : Value} {as : List (Nat × Value)} (hV : V k (rt x M1) M pc as st) (hq : ∀ v M', v = some x → M' = M1 → Q v M') : V k Q M pc as st := v_post (fun v M' h => hq v M' h.1 h.2) hV
theorem v_icmpN_eq {a b : Nat} {off : Int} {tgt : Nat} (d : decode k.2.1 pc = .ok (.if_icmp .eq off, 3)) (ht : (pc : Int) + off = (tgt : Int)) (ha : a < 2 ^ 31) (hb : b < 2 ^ 31) (kt : a = b → V k Q M tgt lv st) (kf : ¬ a = b → V k Q M (pc + 3) lv st) : V k Q M pc lv (.int (nI b) :: .int (nI a) :: st) := v_icmp_eq d ht (fun h => kt ((nI_eq ha hb).mp h)) (fun h => kf (fun e => h ((nI_eq ha hb).mpr e)))
theorem v_icmpN_ne {a b : Nat} {off : Int} {tgt : Nat} (d : decode k.2.1 pc = .ok (.if_icmp .ne off, 3)) (ht : (pc : Int) + off = (tgt : Int)) (ha : a < 2 ^ 31) (hb : b < 2 ^ 31) (kt : ¬ a = b → V k Q M tgt lv st) (kf : a = b → V k Q M (pc + 3) lv st) : V k Q M pc lv (.int (nI b) :: .int (nI a) :: st) := v_icmp_ne d ht (fun h => kt (fun e => h ((nI_eq ha hb).mpr e))) (fun h => kf ((nI_eq ha hb).mp h))
theorem v_icmpN_lt {a b : Nat} {off : Int} {tgt : Nat} (d : decode k.2.1 pc = .ok (.if_icmp .lt off, 3)) (ht : (pc : Int) + off = (tgt : Int)) (ha : a < 2 ^ 31) (hb : b < 2 ^ 31) (kt : a < b → V k Q M tgt lv st) (kf : b ≤ a → V k Q M (pc + 3) lv st) : V k Q M pc lv (.int (nI b) :: .int (nI a) :: st) := v_icmp_lt d ht (fun h => kt ((nI_ltI ha hb).mp h)) (fun h => kf (Nat.not_lt.mp (fun e => h ((nI_ltI ha hb).mpr e))))
theorem v_icmpN_ge {a b : Nat} {off : Int} {tgt : Nat} (d : decode k.2.1 pc = .ok (.if_icmp .ge off, 3)) (ht : (pc : Int) + off = (tgt : Int)) (ha : a < 2 ^ 31) (hb : b < 2 ^ 31) (kt : b ≤ a → V k Q M tgt lv st) (kf : a < b → V k Q M (pc + 3) lv st) : V k Q M pc lv (.int (nI b) :: .int (nI a) :: st) := v_icmp_ge d ht (fun h => kt ((nI_leI hb ha).mp h)) (fun h => kf (Nat.not_le.mp (fun e => h ((nI_leI hb ha).mpr e))))
theorem v_icmpN_gt {a b : Nat} {off : Int} {tgt : Nat} (d : decode k.2.1 pc = .ok (.if_icmp .gt off, 3)) (ht : (pc : Int) + off = (tgt : Int)) (ha : a < 2 ^ 31) (hb : b < 2 ^ 31) (kt : b < a → V k Q M tgt lv st) (kf : a ≤ b → V k Q M (pc + 3) lv st) : V k Q M pc lv (.int (nI b) :: .int (nI a) :: st) := v_icmp_gt d ht (fun h => kt ((nI_ltI hb ha).mp h)) (fun h => kf (Nat.not_lt.mp (fun e => h ((nI_ltI hb ha).mpr e))))
theorem v_icmpN_le {a b : Nat} {off : Int} {tgt : Nat} (d : decode k.2.1 pc = .ok (.if_icmp .le off, 3)) (ht : (pc : Int) + off = (tgt : Int)) (ha : a < 2 ^ 31) (hb : b < 2 ^ 31) (kt : a ≤ b → V k Q M tgt lv st) (kf : b < a → V k Q M (pc + 3) lv st) : V k Q M pc lv (.int (nI b) :: .int (nI a) :: st) := v_icmp_le d ht (fun h => kt ((nI_leI ha hb).mp h)) (fun h => kf (Nat.not_le.mp (fun e => h ((nI_leI ha hb).mpr e))))
theorem v_ifN_eq {a : Nat} {off : Int} {tgt : Nat} (d : decode k.2.1 pc = .ok (.ifCond .eq off, 3)) (ht : (pc : Int) + off = (tgt : Int)) (ha : a < 2 ^ 31) (kt : a = 0 → V k Q M tgt lv st) (kf : ¬ a = 0 → V k Q M (pc + 3) lv st) : V k Q M pc lv (.int (nI a) :: st) := v_if_eq d ht (fun h => kt ((nI_eq ha (by decide)).mp (h.trans nI_0.symm))) (fun h => kf (fun e => h (by rw [e]; exact nI_0)))
theorem v_ifN_ne {a : Nat} {off : Int} {tgt : Nat} (d : decode k.2.1 pc = .ok (.ifCond .ne off, 3)) (ht : (pc : Int) + off = (tgt : Int)) (ha : a < 2 ^ 31) (kt : ¬ a = 0 → V k Q M tgt lv st) (kf : a = 0 → V k Q M (pc + 3) lv st) : V k Q M pc lv (.int (nI a) :: st) := v_if_ne d ht (fun h => kt (fun e => h (by rw [e]; exact nI_0))) (fun h => kf ((nI_eq ha (by decide)).mp (h.trans nI_0.symm)))
theorem v_ifN_le {a : Nat} {off : Int} {tgt : Nat} (d : decode k.2.1 pc = .ok (.ifCond .le off, 3)) (ht : (pc : Int) + off = (tgt : Int)) (ha : a < 2 ^ 31) (kt : a = 0 → V k Q M tgt lv st) (kf : ¬ a = 0 → V k Q M (pc + 3) lv st) : V k Q M pc lv (.int (nI a) :: st) := v_if_le d ht (fun h => kt (by have := (nI_leI ha (by decide)).mp (show nI a ≤ nI 0 from h); omega)) (fun h => kf (fun e => h (by rw [e]; exact Int32.le_refl _)))
theorem v_ifN_gt {a : Nat} {off : Int} {tgt : Nat} (d : decode k.2.1 pc = .ok (.ifCond .gt off, 3)) (ht : (pc : Int) + off = (tgt : Int)) (ha : a < 2 ^ 31) (kt : 0 < a → V k Q M tgt lv st) (kf : a = 0 → V k Q M (pc + 3) lv st) : V k Q M pc lv (.int (nI a) :: st) := v_if_gt d ht (fun h => kt ((nI_ltI (by decide) ha).mp (show nI 0 < nI a from h))) (fun h => kf (by rcases Nat.eq_zero_or_pos a with e | e; exact e; exact absurd (nI_lt e ha) h))
theorem v_ifN_ge {a : Nat} {off : Int} {tgt : Nat} (d : decode k.2.1 pc = .ok (.ifCond .ge off, 3)) (ht : (pc : Int) + off = (tgt : Int)) (ha : a < 2 ^ 31) (kt : V k Q M tgt lv st) : V k Q M pc lv (.int (nI a) :: st) := v_if_ge d ht (fun _ => kt) (fun h => absurd (nI_pos' ha) h)
theorem v_ifN_lt {a : Nat} {off : Int} {tgt : Nat} (d : decode k.2.1 pc = .ok (.ifCond .lt off, 3)) (ht : (pc : Int) + off = (tgt : Int)) (ha : a < 2 ^ 31) (kf : V k Q M (pc + 3) lv st) : V k Q M pc lv (.int (nI a) :: st) := v_if_lt d ht (fun h => absurd h (nI_pos ha)) (fun _ => kf)
end V9
