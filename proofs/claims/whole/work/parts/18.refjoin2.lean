section R18
variable {M M0 : vM} {T : Nat → Int32}
set_option maxRecDepth 100000 in
theorem l_low {s : Int32} (hb : ∃ j, j < 32 ∧ bt s j = true) (d : Nat) : ∀ (k : Nat), k + d = 32 → (∀ j, j < k → bt s j = false) → loN s d k = loF s → V kX4_lowest (rt (.int (nI (loF s))) M) M 2 [(0, .int s), (1, .int (nI k))] [] := by
  induction d with
  | zero =>
    intro k hk hj he
    exfalso
    obtain ⟨j, h1, h2⟩ := hb
    rw [hj j (by omega)] at h2
    cases h2
  | succ d ih =>
    intro k hk hj he
    refine v_iload_n dX4_lowest_2 rfl ?_
    refine v_iload_n dX4_lowest_3 rfl ?_
    refine v_callSr (x := .int (bI (bt s k = true))) (M1 := M) (as := [.int s, .int (nI k)]) (st := []) dX4_lowest_4 ml_X4_84 ks_X4_has ⟨(Nat.le_of_ble_eq_true rfl), (Nat.le_of_ble_eq_true rfl)⟩ rfl (Nat.le_of_ble_eq_true rfl) rfl (Nat.le_of_ble_eq_true rfl) (c_has _ (by omega)) ?_
    refine v_ifB_ne (tgt := 16) dX4_lowest_7 (by decide) (fun c7 => ?_) (fun c7 => ?_)
    · refine v_iload_n dX4_lowest_16 rfl ?_
      refine v_iret dX4_lowest_17 rfl ?_
      refine ⟨?_, rfl⟩
      simp only [loN, if_pos c7] at he
      rw [← he]
    · refine v_iincN (lv' := [(0, .int s), (1, .int (nI (k + 1)))]) dX4_lowest_10 rfl (Nat.le_of_ble_eq_true rfl) rfl ?_
      refine v_goto (tgt := 2) dX4_lowest_13 (by decide) ?_
      simp only [loN, if_neg c7] at he
      exact ih (k + 1) (by omega) (fun j h9 => by
        rcases Nat.lt_or_ge j k with h8 | h8
        · exact hj j h8
        · rw [show j = k by omega]; simpa using c7) he
set_option maxRecDepth 100000 in
theorem c_lowest {s : Int32} (hb : ∃ j, j < 32 ∧ bt s j = true) : V kX4_lowest (rt (.int (nI (loF s))) M) M 0 [(0, .int s)] [] := by
  refine v_iconst (v := (nI 0)) dX4_lowest_0 rfl ?_
  refine v_istore_n (lv' := [(0, .int s), (1, .int (nI 0))]) dX4_lowest_1 (Nat.le_of_ble_eq_true rfl) rfl ?_
  exact l_low hb 32 0 (by omega) (fun j h => absurd h (by omega)) rfl
set_option maxRecDepth 100000 in
theorem l_jq (hM : M0 61 = T) (hW : WF T) {k w x : Int32} {r : Nat} (hr : r < nN T) (h1 : so T r = 1) (d : Nat) : ∀ (q : Nat) (n : Nat) (M : vM), q + d = nN T → sc M0 M → (∀ q', jQ T k r d q n = .inl q' → x = jA T k w (.inl (r, q'))) → (∀ n' M', jQ T k r d q n = .inr n' → sc M0 M' → V kX4_joinAt (rs (.int x) M0) M' 133 [(0, .ref 60), (1, .int k), (2, .int w), (3, .int (nI n')), (4, .int (nI r))] []) → V kX4_joinAt (rs (.int x) M0) M 20 [(0, .ref 60), (1, .int k), (2, .int w), (3, .int (nI n)), (4, .int (nI r)), (5, .int (nI q))] [] := by
  have h16 := hW.n16
  induction d with
  | zero =>
    intro q n M hk hs ha hb
    refine v_iload dX4_joinAt_20 rfl ?_
    refine v_aload_n dX4_joinAt_22 rfl ?_
    refine v_callVr (x := .int (nI (nN T))) (M1 := M) (as := []) (st := [.int (nI q)]) dX4_joinAt_23 ml_X4_52 kv_X4_many ⟨by decide, rfl, by decide⟩ ⟨(Nat.le_of_ble_eq_true rfl), (Nat.le_of_ble_eq_true rfl)⟩ rfl (Nat.le_of_ble_eq_true rfl) rfl (Nat.le_of_ble_eq_true rfl) (c_many (scT hs hM) hW) ?_
    refine v_icmpN_ge (tgt := 133) dX4_joinAt_26 (by decide) (by omega) (by omega) (fun c26 => ?_) (fun c26 => (by omega))
    refine v_sub (lv' := [(0, .ref 60), (1, .int k), (2, .int w), (3, .int (nI n)), (4, .int (nI r))]) (by intro q hq; simp at hq; rcases hq with rfl | rfl | rfl | rfl | rfl <;> rfl) ?_
    exact hb n M rfl hs
  | succ d ih =>
    intro q n M hk hs ha hb
    refine v_iload dX4_joinAt_20 rfl ?_
    refine v_aload_n dX4_joinAt_22 rfl ?_
    refine v_callVr (x := .int (nI (nN T))) (M1 := M) (as := []) (st := [.int (nI q)]) dX4_joinAt_23 ml_X4_52 kv_X4_many ⟨by decide, rfl, by decide⟩ ⟨(Nat.le_of_ble_eq_true rfl), (Nat.le_of_ble_eq_true rfl)⟩ rfl (Nat.le_of_ble_eq_true rfl) rfl (Nat.le_of_ble_eq_true rfl) (c_many (scT hs hM) hW) ?_
    refine v_icmpN_ge (tgt := 133) dX4_joinAt_26 (by decide) (by omega) (by omega) (fun c26 => (by omega)) (fun c26 => ?_)
    refine v_aload_n dX4_joinAt_29 rfl ?_
    refine v_iload dX4_joinAt_30 rfl ?_
    refine v_callVr (x := .int (nI (so T r))) (M1 := M) (as := [.int (nI r)]) (st := []) dX4_joinAt_32 ml_X4_64 kv_X4_sort ⟨by decide, rfl, by decide⟩ ⟨(Nat.le_of_ble_eq_true rfl), (Nat.le_of_ble_eq_true rfl)⟩ rfl (Nat.le_of_ble_eq_true rfl) rfl (Nat.le_of_ble_eq_true rfl) (c_sort (scT hs hM) hW (by omega)) ?_
    refine v_iconst (v := (nI 1)) dX4_joinAt_35 rfl ?_
    refine v_icmpN_ne (tgt := 133) dX4_joinAt_36 (by decide) (by omega) (by omega) (fun c36 => (absurd h1 c36)) (fun c36 => ?_)
    refine v_aload_n dX4_joinAt_39 rfl ?_
    refine v_iload dX4_joinAt_40 rfl ?_
    refine v_callVr (x := .int (nI (so T q))) (M1 := M) (as := [.int (nI q)]) (st := []) dX4_joinAt_42 ml_X4_64 kv_X4_sort ⟨by decide, rfl, by decide⟩ ⟨(Nat.le_of_ble_eq_true rfl), (Nat.le_of_ble_eq_true rfl)⟩ rfl (Nat.le_of_ble_eq_true rfl) rfl (Nat.le_of_ble_eq_true rfl) (c_sort (scT hs hM) hW (by omega)) ?_
    refine v_iconst (v := (nI 1)) dX4_joinAt_45 rfl ?_
    refine v_icmpN_ne (tgt := 76) dX4_joinAt_46 (by decide) (by have := hW.so5 (n := q) (by omega); omega) (by omega) (fun c46 => ?_) (fun c46 => ?_)
    · refine v_iconst (v := (nI 0)) dX4_joinAt_76 rfl ?_
      refine v_top (y := (boF T r q)) (by simp [boF, *]) ?_
      refine v_istore (lv' := [(0, .ref 60), (1, .int k), (2, .int w), (3, .int (nI n)), (4, .int (nI r)), (5, .int (nI q)), (6, .int (boF T r q))]) dX4_joinAt_77 (Nat.le_of_ble_eq_true rfl) rfl ?_
      refine v_iload dX4_joinAt_79 rfl ?_
      refine v_if_eq (tgt := 114) dX4_joinAt_81 (by decide) (fun c81 => ?_) (fun c81 => ?_)
      · refine v_iload_n dX4_joinAt_114 rfl ?_
        refine v_iload dX4_joinAt_115 rfl ?_
        refine v_if_eq (tgt := 124) dX4_joinAt_117 (by decide) (fun c117 => ?_) (fun c117 => (absurd c81 c117))
        refine v_iconst (v := (nI 0)) dX4_joinAt_124 rfl ?_
        refine v_iaddN dX4_joinAt_125 ?_
        refine v_istore_n (lv' := [(0, .ref 60), (1, .int k), (2, .int w), (3, .int (nI (n + 0))), (4, .int (nI r)), (5, .int (nI q)), (6, .int (boF T r q))]) dX4_joinAt_126 (Nat.le_of_ble_eq_true rfl) rfl ?_
        refine v_iincN (lv' := [(0, .ref 60), (1, .int k), (2, .int w), (3, .int (nI (n + 0))), (4, .int (nI r)), (5, .int (nI (q + 1))), (6, .int (boF T r q))]) dX4_joinAt_127 rfl (Nat.le_of_ble_eq_true rfl) rfl ?_
        refine v_goto (tgt := 20) dX4_joinAt_130 (by decide) ?_
        refine v_sub (lv' := [(0, .ref 60), (1, .int k), (2, .int w), (3, .int (nI (n + 0))), (4, .int (nI r)), (5, .int (nI (q + 1)))]) (by intro q hq; simp at hq; rcases hq with rfl | rfl | rfl | rfl | rfl | rfl <;> rfl) ?_
        exact ih (q + 1) (n) _ (by omega) hs (fun q2 z => ha q2 (by rw [← z]; simp [jQ, c81])) (fun n2 M2 z => hb n2 M2 (by rw [← z]; simp [jQ, c81]))
      · refine v_iload_n dX4_joinAt_84 rfl ?_
        refine v_iload_n dX4_joinAt_85 rfl ?_
        refine v_icmp_ne (tgt := 114) dX4_joinAt_86 (by decide) (fun c86 => ?_) (fun c86 => ?_)
        · refine v_iload_n dX4_joinAt_114 rfl ?_
          refine v_iload dX4_joinAt_115 rfl ?_
          refine v_if_eq (tgt := 124) dX4_joinAt_117 (by decide) (fun c117 => (absurd c117 c81)) (fun c117 => ?_)
          refine v_iconst (v := (nI 1)) dX4_joinAt_120 rfl ?_
          refine v_goto (tgt := 125) dX4_joinAt_121 (by decide) ?_
          refine v_iaddN dX4_joinAt_125 ?_
          refine v_istore_n (lv' := [(0, .ref 60), (1, .int k), (2, .int w), (3, .int (nI (n + 1))), (4, .int (nI r)), (5, .int (nI q)), (6, .int (boF T r q))]) dX4_joinAt_126 (Nat.le_of_ble_eq_true rfl) rfl ?_
          refine v_iincN (lv' := [(0, .ref 60), (1, .int k), (2, .int w), (3, .int (nI (n + 1))), (4, .int (nI r)), (5, .int (nI (q + 1))), (6, .int (boF T r q))]) dX4_joinAt_127 rfl (Nat.le_of_ble_eq_true rfl) rfl ?_
          refine v_goto (tgt := 20) dX4_joinAt_130 (by decide) ?_
          refine v_sub (lv' := [(0, .ref 60), (1, .int k), (2, .int w), (3, .int (nI (n + 1))), (4, .int (nI r)), (5, .int (nI (q + 1)))]) (by intro q hq; simp at hq; rcases hq with rfl | rfl | rfl | rfl | rfl | rfl <;> rfl) ?_
          exact ih (q + 1) (n + 1) _ (by omega) hs (fun q2 z => ha q2 (by rw [← z]; simp [jQ, c81, c86])) (fun n2 M2 z => hb n2 M2 (by rw [← z]; simp [jQ, c81, c86]))
        · refine v_iload_n dX4_joinAt_89 rfl ?_
          refine v_if_ne (tgt := 98) dX4_joinAt_90 (by decide) (fun c90 => ?_) (fun c90 => ?_)
          · refine v_iload_n dX4_joinAt_98 rfl ?_
            refine v_iconst (v := (nI 1)) dX4_joinAt_99 rfl ?_
            refine v_icmp_ne (tgt := 108) dX4_joinAt_100 (by decide) (fun c100 => ?_) (fun c100 => ?_)
            · refine v_iload dX4_joinAt_108 rfl ?_
              have hbit := b_ne0.mp c81
              refine v_callSr (x := .int (nI (loF (boF T r q)))) (M1 := M) (as := [.int (boF T r q)]) (st := []) dX4_joinAt_110 ml_X4_130 ks_X4_lowest ⟨(Nat.le_of_ble_eq_true rfl), (Nat.le_of_ble_eq_true rfl)⟩ rfl (Nat.le_of_ble_eq_true rfl) rfl (Nat.le_of_ble_eq_true rfl) (c_lowest (by assumption)) ?_
              refine v_iret dX4_joinAt_113 rfl ?_
              refine ⟨?_, hs⟩
              rw [ha q (by simp [jQ, c81, c86])]
              simp only [jA]
              rw [if_neg c90, if_neg c100]
            · refine v_iload dX4_joinAt_103 rfl ?_
              refine v_goto (tgt := 113) dX4_joinAt_105 (by decide) ?_
              refine v_iret dX4_joinAt_113 rfl ?_
              refine ⟨?_, hs⟩
              rw [ha q (by simp [jQ, c81, c86])]
              simp only [jA]
              rw [if_neg c90, if_pos c100]
          · refine v_iload dX4_joinAt_93 rfl ?_
            refine v_goto (tgt := 113) dX4_joinAt_95 (by decide) ?_
            refine v_iret dX4_joinAt_113 rfl ?_
            refine ⟨?_, hs⟩
            rw [ha q (by simp [jQ, c81, c86])]
            simp only [jA]
            rw [if_pos c90]
    · refine v_aload_n dX4_joinAt_49 rfl ?_
      refine v_iload dX4_joinAt_50 rfl ?_
      refine v_iload dX4_joinAt_52 rfl ?_
      refine v_callV (as := [.int (nI r), .int (nI q)]) (st := []) dX4_joinAt_54 ml_X4_124 kv_X4_areApart ⟨by decide, rfl, by decide⟩ ⟨(Nat.le_of_ble_eq_true rfl), (Nat.le_of_ble_eq_true rfl)⟩ rfl (Nat.le_of_ble_eq_true rfl) rfl (Nat.le_of_ble_eq_true rfl) (c_areApart hs hM hW (by omega) (by omega) (by assumption) (by assumption)) (fun v M hq => ?_)
      obtain ⟨rfl, hs⟩ := hq
      refine v_ifB_eq (tgt := 76) dX4_joinAt_57 (by decide) (fun c57 => ?_) (fun c57 => ?_)
      · refine v_iconst (v := (nI 0)) dX4_joinAt_76 rfl ?_
        refine v_top (y := (boF T r q)) (by simp [boF, *]) ?_
        refine v_istore (lv' := [(0, .ref 60), (1, .int k), (2, .int w), (3, .int (nI n)), (4, .int (nI r)), (5, .int (nI q)), (6, .int (boF T r q))]) dX4_joinAt_77 (Nat.le_of_ble_eq_true rfl) rfl ?_
        refine v_iload dX4_joinAt_79 rfl ?_
        refine v_if_eq (tgt := 114) dX4_joinAt_81 (by decide) (fun c81 => ?_) (fun c81 => ?_)
        · refine v_iload_n dX4_joinAt_114 rfl ?_
          refine v_iload dX4_joinAt_115 rfl ?_
          refine v_if_eq (tgt := 124) dX4_joinAt_117 (by decide) (fun c117 => ?_) (fun c117 => (absurd c81 c117))
          refine v_iconst (v := (nI 0)) dX4_joinAt_124 rfl ?_
          refine v_iaddN dX4_joinAt_125 ?_
          refine v_istore_n (lv' := [(0, .ref 60), (1, .int k), (2, .int w), (3, .int (nI (n + 0))), (4, .int (nI r)), (5, .int (nI q)), (6, .int (boF T r q))]) dX4_joinAt_126 (Nat.le_of_ble_eq_true rfl) rfl ?_
          refine v_iincN (lv' := [(0, .ref 60), (1, .int k), (2, .int w), (3, .int (nI (n + 0))), (4, .int (nI r)), (5, .int (nI (q + 1))), (6, .int (boF T r q))]) dX4_joinAt_127 rfl (Nat.le_of_ble_eq_true rfl) rfl ?_
          refine v_goto (tgt := 20) dX4_joinAt_130 (by decide) ?_
          refine v_sub (lv' := [(0, .ref 60), (1, .int k), (2, .int w), (3, .int (nI (n + 0))), (4, .int (nI r)), (5, .int (nI (q + 1)))]) (by intro q hq; simp at hq; rcases hq with rfl | rfl | rfl | rfl | rfl | rfl <;> rfl) ?_
          exact ih (q + 1) (n) _ (by omega) hs (fun q2 z => ha q2 (by rw [← z]; simp [jQ, c81])) (fun n2 M2 z => hb n2 M2 (by rw [← z]; simp [jQ, c81]))
        · refine v_iload_n dX4_joinAt_84 rfl ?_
          refine v_iload_n dX4_joinAt_85 rfl ?_
          refine v_icmp_ne (tgt := 114) dX4_joinAt_86 (by decide) (fun c86 => ?_) (fun c86 => ?_)
          · refine v_iload_n dX4_joinAt_114 rfl ?_
            refine v_iload dX4_joinAt_115 rfl ?_
            refine v_if_eq (tgt := 124) dX4_joinAt_117 (by decide) (fun c117 => (absurd c117 c81)) (fun c117 => ?_)
            refine v_iconst (v := (nI 1)) dX4_joinAt_120 rfl ?_
            refine v_goto (tgt := 125) dX4_joinAt_121 (by decide) ?_
            refine v_iaddN dX4_joinAt_125 ?_
            refine v_istore_n (lv' := [(0, .ref 60), (1, .int k), (2, .int w), (3, .int (nI (n + 1))), (4, .int (nI r)), (5, .int (nI q)), (6, .int (boF T r q))]) dX4_joinAt_126 (Nat.le_of_ble_eq_true rfl) rfl ?_
            refine v_iincN (lv' := [(0, .ref 60), (1, .int k), (2, .int w), (3, .int (nI (n + 1))), (4, .int (nI r)), (5, .int (nI (q + 1))), (6, .int (boF T r q))]) dX4_joinAt_127 rfl (Nat.le_of_ble_eq_true rfl) rfl ?_
            refine v_goto (tgt := 20) dX4_joinAt_130 (by decide) ?_
            refine v_sub (lv' := [(0, .ref 60), (1, .int k), (2, .int w), (3, .int (nI (n + 1))), (4, .int (nI r)), (5, .int (nI (q + 1)))]) (by intro q hq; simp at hq; rcases hq with rfl | rfl | rfl | rfl | rfl | rfl <;> rfl) ?_
            exact ih (q + 1) (n + 1) _ (by omega) hs (fun q2 z => ha q2 (by rw [← z]; simp [jQ, c81, c86])) (fun n2 M2 z => hb n2 M2 (by rw [← z]; simp [jQ, c81, c86]))
          · refine v_iload_n dX4_joinAt_89 rfl ?_
            refine v_if_ne (tgt := 98) dX4_joinAt_90 (by decide) (fun c90 => ?_) (fun c90 => ?_)
            · refine v_iload_n dX4_joinAt_98 rfl ?_
              refine v_iconst (v := (nI 1)) dX4_joinAt_99 rfl ?_
              refine v_icmp_ne (tgt := 108) dX4_joinAt_100 (by decide) (fun c100 => ?_) (fun c100 => ?_)
              · refine v_iload dX4_joinAt_108 rfl ?_
                have hbit := b_ne0.mp c81
                refine v_callSr (x := .int (nI (loF (boF T r q)))) (M1 := M) (as := [.int (boF T r q)]) (st := []) dX4_joinAt_110 ml_X4_130 ks_X4_lowest ⟨(Nat.le_of_ble_eq_true rfl), (Nat.le_of_ble_eq_true rfl)⟩ rfl (Nat.le_of_ble_eq_true rfl) rfl (Nat.le_of_ble_eq_true rfl) (c_lowest (by assumption)) ?_
                refine v_iret dX4_joinAt_113 rfl ?_
                refine ⟨?_, hs⟩
                rw [ha q (by simp [jQ, c81, c86])]
                simp only [jA]
                rw [if_neg c90, if_neg c100]
              · refine v_iload dX4_joinAt_103 rfl ?_
                refine v_goto (tgt := 113) dX4_joinAt_105 (by decide) ?_
                refine v_iret dX4_joinAt_113 rfl ?_
                refine ⟨?_, hs⟩
                rw [ha q (by simp [jQ, c81, c86])]
                simp only [jA]
                rw [if_neg c90, if_pos c100]
            · refine v_iload dX4_joinAt_93 rfl ?_
              refine v_goto (tgt := 113) dX4_joinAt_95 (by decide) ?_
              refine v_iret dX4_joinAt_113 rfl ?_
              refine ⟨?_, hs⟩
              rw [ha q (by simp [jQ, c81, c86])]
              simp only [jA]
              rw [if_pos c90]
      · refine v_aload_n dX4_joinAt_60 rfl ?_
        refine v_iload dX4_joinAt_61 rfl ?_
        refine v_callVr (x := .int (rcF T r)) (M1 := M) (as := [.int (nI r)]) (st := []) dX4_joinAt_63 ml_X4_127 kv_X4_reached ⟨by decide, rfl, by decide⟩ ⟨(Nat.le_of_ble_eq_true rfl), (Nat.le_of_ble_eq_true rfl)⟩ rfl (Nat.le_of_ble_eq_true rfl) rfl (Nat.le_of_ble_eq_true rfl) (c_reached (scT hs hM) hW (by omega)) ?_
        refine v_aload_n dX4_joinAt_66 rfl ?_
        refine v_iload dX4_joinAt_67 rfl ?_
        refine v_callVr (x := .int (rcF T q)) (M1 := M) (as := [.int (nI q)]) (st := [.int (rcF T r)]) dX4_joinAt_69 ml_X4_127 kv_X4_reached ⟨by decide, rfl, by decide⟩ ⟨(Nat.le_of_ble_eq_true rfl), (Nat.le_of_ble_eq_true rfl)⟩ rfl (Nat.le_of_ble_eq_true rfl) rfl (Nat.le_of_ble_eq_true rfl) (c_reached (scT hs hM) hW (by omega)) ?_
        refine v_iand dX4_joinAt_72 ?_
        refine v_goto (tgt := 77) dX4_joinAt_73 (by decide) ?_
        refine v_top (y := (boF T r q)) (by simp [boF, *]) ?_
        refine v_istore (lv' := [(0, .ref 60), (1, .int k), (2, .int w), (3, .int (nI n)), (4, .int (nI r)), (5, .int (nI q)), (6, .int (boF T r q))]) dX4_joinAt_77 (Nat.le_of_ble_eq_true rfl) rfl ?_
        refine v_iload dX4_joinAt_79 rfl ?_
        refine v_if_eq (tgt := 114) dX4_joinAt_81 (by decide) (fun c81 => ?_) (fun c81 => ?_)
        · refine v_iload_n dX4_joinAt_114 rfl ?_
          refine v_iload dX4_joinAt_115 rfl ?_
          refine v_if_eq (tgt := 124) dX4_joinAt_117 (by decide) (fun c117 => ?_) (fun c117 => (absurd c81 c117))
          refine v_iconst (v := (nI 0)) dX4_joinAt_124 rfl ?_
          refine v_iaddN dX4_joinAt_125 ?_
          refine v_istore_n (lv' := [(0, .ref 60), (1, .int k), (2, .int w), (3, .int (nI (n + 0))), (4, .int (nI r)), (5, .int (nI q)), (6, .int (boF T r q))]) dX4_joinAt_126 (Nat.le_of_ble_eq_true rfl) rfl ?_
          refine v_iincN (lv' := [(0, .ref 60), (1, .int k), (2, .int w), (3, .int (nI (n + 0))), (4, .int (nI r)), (5, .int (nI (q + 1))), (6, .int (boF T r q))]) dX4_joinAt_127 rfl (Nat.le_of_ble_eq_true rfl) rfl ?_
          refine v_goto (tgt := 20) dX4_joinAt_130 (by decide) ?_
          refine v_sub (lv' := [(0, .ref 60), (1, .int k), (2, .int w), (3, .int (nI (n + 0))), (4, .int (nI r)), (5, .int (nI (q + 1)))]) (by intro q hq; simp at hq; rcases hq with rfl | rfl | rfl | rfl | rfl | rfl <;> rfl) ?_
          exact ih (q + 1) (n) _ (by omega) hs (fun q2 z => ha q2 (by rw [← z]; simp [jQ, c81])) (fun n2 M2 z => hb n2 M2 (by rw [← z]; simp [jQ, c81]))
        · refine v_iload_n dX4_joinAt_84 rfl ?_
          refine v_iload_n dX4_joinAt_85 rfl ?_
          refine v_icmp_ne (tgt := 114) dX4_joinAt_86 (by decide) (fun c86 => ?_) (fun c86 => ?_)
          · refine v_iload_n dX4_joinAt_114 rfl ?_
            refine v_iload dX4_joinAt_115 rfl ?_
            refine v_if_eq (tgt := 124) dX4_joinAt_117 (by decide) (fun c117 => (absurd c117 c81)) (fun c117 => ?_)
            refine v_iconst (v := (nI 1)) dX4_joinAt_120 rfl ?_
            refine v_goto (tgt := 125) dX4_joinAt_121 (by decide) ?_
            refine v_iaddN dX4_joinAt_125 ?_
            refine v_istore_n (lv' := [(0, .ref 60), (1, .int k), (2, .int w), (3, .int (nI (n + 1))), (4, .int (nI r)), (5, .int (nI q)), (6, .int (boF T r q))]) dX4_joinAt_126 (Nat.le_of_ble_eq_true rfl) rfl ?_
            refine v_iincN (lv' := [(0, .ref 60), (1, .int k), (2, .int w), (3, .int (nI (n + 1))), (4, .int (nI r)), (5, .int (nI (q + 1))), (6, .int (boF T r q))]) dX4_joinAt_127 rfl (Nat.le_of_ble_eq_true rfl) rfl ?_
            refine v_goto (tgt := 20) dX4_joinAt_130 (by decide) ?_
            refine v_sub (lv' := [(0, .ref 60), (1, .int k), (2, .int w), (3, .int (nI (n + 1))), (4, .int (nI r)), (5, .int (nI (q + 1)))]) (by intro q hq; simp at hq; rcases hq with rfl | rfl | rfl | rfl | rfl | rfl <;> rfl) ?_
            exact ih (q + 1) (n + 1) _ (by omega) hs (fun q2 z => ha q2 (by rw [← z]; simp [jQ, c81, c86])) (fun n2 M2 z => hb n2 M2 (by rw [← z]; simp [jQ, c81, c86]))
          · refine v_iload_n dX4_joinAt_89 rfl ?_
            refine v_if_ne (tgt := 98) dX4_joinAt_90 (by decide) (fun c90 => ?_) (fun c90 => ?_)
            · refine v_iload_n dX4_joinAt_98 rfl ?_
              refine v_iconst (v := (nI 1)) dX4_joinAt_99 rfl ?_
              refine v_icmp_ne (tgt := 108) dX4_joinAt_100 (by decide) (fun c100 => ?_) (fun c100 => ?_)
              · refine v_iload dX4_joinAt_108 rfl ?_
                have hbit := b_ne0.mp c81
                refine v_callSr (x := .int (nI (loF (boF T r q)))) (M1 := M) (as := [.int (boF T r q)]) (st := []) dX4_joinAt_110 ml_X4_130 ks_X4_lowest ⟨(Nat.le_of_ble_eq_true rfl), (Nat.le_of_ble_eq_true rfl)⟩ rfl (Nat.le_of_ble_eq_true rfl) rfl (Nat.le_of_ble_eq_true rfl) (c_lowest (by assumption)) ?_
                refine v_iret dX4_joinAt_113 rfl ?_
                refine ⟨?_, hs⟩
                rw [ha q (by simp [jQ, c81, c86])]
                simp only [jA]
                rw [if_neg c90, if_neg c100]
              · refine v_iload dX4_joinAt_103 rfl ?_
                refine v_goto (tgt := 113) dX4_joinAt_105 (by decide) ?_
                refine v_iret dX4_joinAt_113 rfl ?_
                refine ⟨?_, hs⟩
                rw [ha q (by simp [jQ, c81, c86])]
                simp only [jA]
                rw [if_neg c90, if_pos c100]
            · refine v_iload dX4_joinAt_93 rfl ?_
              refine v_goto (tgt := 113) dX4_joinAt_95 (by decide) ?_
              refine v_iret dX4_joinAt_113 rfl ?_
              refine ⟨?_, hs⟩
              rw [ha q (by simp [jQ, c81, c86])]
              simp only [jA]
              rw [if_pos c90]
set_option maxRecDepth 100000 in
theorem l_jr (hM : M0 61 = T) (hW : WF T) {k w : Int32} (d : Nat) : ∀ (r : Nat) (n : Nat) (M : vM), r + d = nN T → sc M0 M → V kX4_joinAt (rs (.int (jA T k w (jR T k d r n))) M0) M 5 [(0, .ref 60), (1, .int k), (2, .int w), (3, .int (nI n)), (4, .int (nI r))] [] := by
  have h16 := hW.n16
  induction d with
  | zero =>
    intro r n M hk hs
    refine v_iload dX4_joinAt_5 rfl ?_
    refine v_aload_n dX4_joinAt_7 rfl ?_
    refine v_callVr (x := .int (nI (nN T))) (M1 := M) (as := []) (st := [.int (nI r)]) dX4_joinAt_8 ml_X4_52 kv_X4_many ⟨by decide, rfl, by decide⟩ ⟨(Nat.le_of_ble_eq_true rfl), (Nat.le_of_ble_eq_true rfl)⟩ rfl (Nat.le_of_ble_eq_true rfl) rfl (Nat.le_of_ble_eq_true rfl) (c_many (scT hs hM) hW) ?_
    refine v_icmpN_ge (tgt := 139) dX4_joinAt_11 (by decide) (by omega) (by omega) (fun c11 => ?_) (fun c11 => (by omega))
    refine v_iload_n dX4_joinAt_139 rfl ?_
    refine v_if_ge (tgt := 147) dX4_joinAt_140 (by decide) (fun c140 => ?_) (fun c140 => ?_)
    · refine v_bipush (v := (-9)) dX4_joinAt_147 (by decide) ?_
      refine v_iret dX4_joinAt_149 rfl ?_
      refine ⟨?_, hs⟩
      simp [jA, jR, Int32.not_lt.mpr c140]
    · refine v_iload_n dX4_joinAt_143 rfl ?_
      refine v_goto (tgt := 149) dX4_joinAt_144 (by decide) ?_
      refine v_iret dX4_joinAt_149 rfl ?_
      refine ⟨?_, hs⟩
      simp [jA, jR, Int32.not_le.mp c140]
  | succ d ih =>
    intro r n M hk hs
    refine v_iload dX4_joinAt_5 rfl ?_
    refine v_aload_n dX4_joinAt_7 rfl ?_
    refine v_callVr (x := .int (nI (nN T))) (M1 := M) (as := []) (st := [.int (nI r)]) dX4_joinAt_8 ml_X4_52 kv_X4_many ⟨by decide, rfl, by decide⟩ ⟨(Nat.le_of_ble_eq_true rfl), (Nat.le_of_ble_eq_true rfl)⟩ rfl (Nat.le_of_ble_eq_true rfl) rfl (Nat.le_of_ble_eq_true rfl) (c_many (scT hs hM) hW) ?_
    refine v_icmpN_ge (tgt := 139) dX4_joinAt_11 (by decide) (by omega) (by omega) (fun c11 => (by omega)) (fun c11 => ?_)
    refine v_iload dX4_joinAt_14 rfl ?_
    refine v_iconst (v := (nI 1)) dX4_joinAt_16 rfl ?_
    refine v_iaddN dX4_joinAt_17 ?_
    refine v_istore (lv' := [(0, .ref 60), (1, .int k), (2, .int w), (3, .int (nI n)), (4, .int (nI r)), (5, .int (nI (r + 1)))]) dX4_joinAt_18 (Nat.le_of_ble_eq_true rfl) rfl ?_
    by_cases h1 : so T r = 1
    · refine l_jq hM hW (by omega) h1 (nN T - (r + 1)) (r + 1) n _ (by omega) hs (fun q2 z => ?_) (fun n2 M2 z hs2 => ?_)
      · simp [jR, jS, h1, z]
      · skip
        refine v_iincN (lv' := [(0, .ref 60), (1, .int k), (2, .int w), (3, .int (nI n2)), (4, .int (nI (r + 1)))]) dX4_joinAt_133 rfl (Nat.le_of_ble_eq_true rfl) rfl ?_
        refine v_goto (tgt := 5) dX4_joinAt_136 (by decide) ?_
        rw [show jR T k (d + 1) r n = jR T k d (r + 1) n2 by simp [jR, jS, h1, z]]
        exact ih (r + 1) n2 _ (by omega) hs2
    · skip
      refine v_iload dX4_joinAt_20 rfl ?_
      refine v_aload_n dX4_joinAt_22 rfl ?_
      refine v_callVr (x := .int (nI (nN T))) (M1 := M) (as := []) (st := [.int (nI (r + 1))]) dX4_joinAt_23 ml_X4_52 kv_X4_many ⟨by decide, rfl, by decide⟩ ⟨(Nat.le_of_ble_eq_true rfl), (Nat.le_of_ble_eq_true rfl)⟩ rfl (Nat.le_of_ble_eq_true rfl) rfl (Nat.le_of_ble_eq_true rfl) (c_many (scT hs hM) hW) ?_
      refine v_icmpN_ge (tgt := 133) dX4_joinAt_26 (by decide) (by omega) (by omega) (fun c26 => ?_) (fun c26 => ?_)
      · refine v_iincN (lv' := [(0, .ref 60), (1, .int k), (2, .int w), (3, .int (nI n)), (4, .int (nI (r + 1))), (5, .int (nI (r + 1)))]) dX4_joinAt_133 rfl (Nat.le_of_ble_eq_true rfl) rfl ?_
        refine v_goto (tgt := 5) dX4_joinAt_136 (by decide) ?_
        refine v_sub (lv' := [(0, .ref 60), (1, .int k), (2, .int w), (3, .int (nI n)), (4, .int (nI (r + 1)))]) (by intro q hq; simp at hq; rcases hq with rfl | rfl | rfl | rfl | rfl <;> rfl) ?_
        rw [show jR T k (d + 1) r n = jR T k d (r + 1) n by simp [jR, jS, h1]]
        exact ih (r + 1) n _ (by omega) hs
      · refine v_aload_n dX4_joinAt_29 rfl ?_
        refine v_iload dX4_joinAt_30 rfl ?_
        refine v_callVr (x := .int (nI (so T r))) (M1 := M) (as := [.int (nI r)]) (st := []) dX4_joinAt_32 ml_X4_64 kv_X4_sort ⟨by decide, rfl, by decide⟩ ⟨(Nat.le_of_ble_eq_true rfl), (Nat.le_of_ble_eq_true rfl)⟩ rfl (Nat.le_of_ble_eq_true rfl) rfl (Nat.le_of_ble_eq_true rfl) (c_sort (scT hs hM) hW (by omega)) ?_
        refine v_iconst (v := (nI 1)) dX4_joinAt_35 rfl ?_
        refine v_icmpN_ne (tgt := 133) dX4_joinAt_36 (by decide) (by have := hW.so5 (n := r) (by omega); omega) (by omega) (fun c36 => ?_) (fun c36 => (absurd c36 h1))
        refine v_iincN (lv' := [(0, .ref 60), (1, .int k), (2, .int w), (3, .int (nI n)), (4, .int (nI (r + 1))), (5, .int (nI (r + 1)))]) dX4_joinAt_133 rfl (Nat.le_of_ble_eq_true rfl) rfl ?_
        refine v_goto (tgt := 5) dX4_joinAt_136 (by decide) ?_
        refine v_sub (lv' := [(0, .ref 60), (1, .int k), (2, .int w), (3, .int (nI n)), (4, .int (nI (r + 1)))]) (by intro q hq; simp at hq; rcases hq with rfl | rfl | rfl | rfl | rfl <;> rfl) ?_
        rw [show jR T k (d + 1) r n = jR T k d (r + 1) n by simp [jR, jS, h1]]
        exact ih (r + 1) n _ (by omega) hs
set_option maxRecDepth 100000 in
theorem c_joinAt (hs : sc M0 M) (hM : M0 61 = T) (hW : WF T) {k w : Int32} : V kX4_joinAt (rs (.int (joinF T k w)) M0) M 0 [(0, .ref 60), (1, .int k), (2, .int w)] [] := by
  have h16 := hW.n16
  refine v_iconst (v := (nI 0)) dX4_joinAt_0 rfl ?_
  refine v_istore_n (lv' := [(0, .ref 60), (1, .int k), (2, .int w), (3, .int (nI 0))]) dX4_joinAt_1 (Nat.le_of_ble_eq_true rfl) rfl ?_
  refine v_iconst (v := (nI 0)) dX4_joinAt_2 rfl ?_
  refine v_istore (lv' := [(0, .ref 60), (1, .int k), (2, .int w), (3, .int (nI 0)), (4, .int (nI 0))]) dX4_joinAt_3 (Nat.le_of_ble_eq_true rfl) rfl ?_
  exact l_jr hM hW (nN T) 0 0 M (by omega) hs
end R18
