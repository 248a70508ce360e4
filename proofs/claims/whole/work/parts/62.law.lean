/-! the law's loop -/
section C62a
variable {k : vK} {Q : Option Value → vM → Prop} {M : vM} {pc : Nat} {lv : List (Nat × Value)} {st : List Value} {L : Nat} {xs : Nat → Int32}
theorem v_sld {a : Nat} (hk : k.2.2.2.2.2.2 = some (L, xs)) (hL : L < 2 ^ 31) (d : decode k.2.1 pc = .ok (.iaload, 1)) (ha : a < L) (h : V k Q M (pc + 1) lv (.int (xs a) :: st)) : V k Q M pc lv (.int (nI a) :: .ref 99 :: st) := by
  intro Z A p l e R s m args below meth c cells slots Qw C Rt H locs ls hP hS hl
  have hX := C.2.2.2.2.2.2.2.2.2.2.2
  unfold xS at hX
  rw [hk] at hX
  exact va_ti C.1 C.2.1 hX hS (vp_in_nI ha hL) (by rw [nI_clamp (by omega)]; rfl) d (h Z A p l e R s m args below meth c cells slots Qw C Rt H locs ls hP hS hl)
theorem v_sln (hk : k.2.2.2.2.2.2 = some (L, xs)) (d : decode k.2.1 pc = .ok (.arraylength, 1)) (h : V k Q M (pc + 1) lv (.int (nI L) :: st)) : V k Q M pc lv (.ref 99 :: st) := by
  intro Z A p l e R s m args below meth c cells slots Qw C Rt H locs ls hP hS hl
  have hX := C.2.2.2.2.2.2.2.2.2.2.2
  unfold xS at hX
  rw [hk] at hX
  exact va_tlen C.1 C.2.1 hX hS rfl d (h Z A p l e R s m args below meth c cells slots Qw C Rt H locs ls hP hS hl)
end C62a
theorem REF_kq {M M' : vM} {T R tx : Nat → Int32} {P : List (Nat → Int32)} {Im : Nat → Option (Nat → Int32)} {t : Nat} (h : REF M T R P Im tx t) (hk : kq M M') : REF M' T R P Im tx t := by
  obtain ⟨h1, h2, h3, h4, h5⟩ := h
  exact ⟨(hk 61 (by decide)).trans h1, (hk 63 (by decide)).trans h2, pR_c h3 (congrFun (hk 60 (by decide)) 5) (hk 65 (by decide)), iR_c h4 (hk 67 (by decide)) (hk 66 (by decide)), xR_c h5 (congrFun (hk 60 (by decide)) 11) (hk 70 (by decide))⟩
section C62
variable {M : vM} {L : Nat} {xs : Nat → Int32} {a c r : Nat} {T R tx : Nat → Int32} {P : List (Nat → Int32)} {Im : Nat → Option (Nat → Int32)} {t : Nat}
abbrev QL : Option Value → vM → Prop := fun v _ => v = some (.int 1)
theorem l571 (h : V (kL_law L xs) QL M 18 [(0, .ref 99), (1, .ref 0), (2, .ref 60), (3, .int (nI (a + 3)))] []) : V (kL_law L xs) QL M 571 [(0, .ref 99), (1, .ref 0), (2, .ref 60), (3, .int (nI a))] [] := by
  refine v_iinc (v := nI (a + 3)) (lv' := [(0, .ref 99), (1, .ref 0), (2, .ref 60), (3, .int (nI (a + 3)))]) dL_law_571 rfl (by rw [show Int32.ofInt 3 = nI 3 from rfl, nI_add]) (Nat.le_of_ble_eq_true rfl) rfl ?_
  exact v_goto (tgt := 18) dL_law_574 (by decide) h
theorem and31 (x : Int32) : ∃ j, j < 32 ∧ x &&& nI 31 = nI j := by
  obtain ⟨j, hj, e⟩ := pk_andE x (m := 31) 5 (by decide)
  exact ⟨j, hj, e⟩
theorem sub3 (hL : L ≤ 1536) (ha : a ≤ 1539) : nI L - nI 3 < nI a ↔ L < a + 3 := by
  rw [Int32.lt_iff_toInt_lt, pk_sub_toInt (by omega) (by omega), nI_toInt (by omega)]
  omega
set_option maxRecDepth 100000 in
theorem lc_0 (hL : L ≤ 1536) (ha : a + 3 ≤ L) (hcls : CLS c r M T R P Im tx t) (href : REF M T R P Im tx t) (hp : PRR kX3_type kX4_type [.int (xs (a + 1))] T R P Im tx t) (hn : ∀ (M2 : vM) (T' R' : Nat → Int32) (P' : List (Nat → Int32)) (Im' : Nat → Option (Nat → Int32)) (tx' : Nat → Int32) (t' : Nat), IV T' R' P' Im' tx' t' → (∃ c r, CLS c r M2 T' R' P' Im' tx' t') → REF M2 T' R' P' Im' tx' t' → V (kL_law L xs) QL M2 18 [(0, .ref 99), (1, .ref 0), (2, .ref 60), (3, .int (nI (a + 3)))] []) : V (kL_law L xs) (QL) M 124 [(0, .ref 99), (1, .ref 0), (2, .ref 60), (3, .int (nI a))] [] := by
  obtain ⟨b9, T', R', P', Im', tx', t', h1, h2, h3⟩ := hp
  refine v_aload_n dL_law_124 rfl ?_
  refine v_aload_n dL_law_125 rfl ?_
  refine v_iload_n dL_law_126 rfl ?_
  refine v_iconst (v := (nI 1)) dL_law_127 rfl ?_
  refine v_iaddN dL_law_128 ?_
  refine v_sld rfl (by omega) dL_law_129 (by omega) ?_
  refine v_callV (as := [.int (xs (a + 1))]) (st := []) dL_law_130 ml_L_13 kv_X3_type ⟨by decide, rfl, by decide⟩ ⟨(Nat.le_of_ble_eq_true rfl), (Nat.le_of_ble_eq_true rfl)⟩ rfl (Nat.le_of_ble_eq_true rfl) rfl (Nat.le_of_ble_eq_true rfl) (h1 M c r hcls) (fun v M1 hq => ?_)
  obtain ⟨rfl, ⟨c1, r1, hc1⟩, hk1⟩ := hq
  refine v_aload_n dL_law_133 rfl ?_
  refine v_aload_n dL_law_134 rfl ?_
  refine v_iload_n dL_law_135 rfl ?_
  refine v_iconst (v := (nI 1)) dL_law_136 rfl ?_
  refine v_iaddN dL_law_137 ?_
  refine v_sld rfl (by omega) dL_law_138 (by omega) ?_
  refine v_callV (as := [.int (xs (a + 1))]) (st := [.int b9]) dL_law_139 ml_L_17 kv_X4_type ⟨by decide, rfl, by decide⟩ ⟨(Nat.le_of_ble_eq_true rfl), (Nat.le_of_ble_eq_true rfl)⟩ rfl (Nat.le_of_ble_eq_true rfl) rfl (Nat.le_of_ble_eq_true rfl) (h2 M1 (REF_kq href hk1)) (fun v M2 hq => ?_)
  obtain ⟨rfl, hr2, hk2⟩ := hq
  refine v_icmp_eq (tgt := 571) dL_law_142 (by decide) (fun c142 => ?_) (fun c142 => (absurd rfl c142))
  exact l571 (hn M2 T' R' P' Im' tx' t' h3 ⟨c1, r1, CLS_c hc1 (fun i a _ => hk2 i a)⟩ hr2)
set_option maxRecDepth 100000 in
theorem lc_1 (hL : L ≤ 1536) (ha : a + 3 ≤ L) (hcls : CLS c r M T R P Im tx t) (href : REF M T R P Im tx t) (hp : PRR kX3_clear kX4_clear [] T R P Im tx t) (hn : ∀ (M2 : vM) (T' R' : Nat → Int32) (P' : List (Nat → Int32)) (Im' : Nat → Option (Nat → Int32)) (tx' : Nat → Int32) (t' : Nat), IV T' R' P' Im' tx' t' → (∃ c r, CLS c r M2 T' R' P' Im' tx' t') → REF M2 T' R' P' Im' tx' t' → V (kL_law L xs) QL M2 18 [(0, .ref 99), (1, .ref 0), (2, .ref 60), (3, .int (nI (a + 3)))] []) : V (kL_law L xs) (QL) M 147 [(0, .ref 99), (1, .ref 0), (2, .ref 60), (3, .int (nI a))] [] := by
  obtain ⟨b9, T', R', P', Im', tx', t', h1, h2, h3⟩ := hp
  refine v_aload_n dL_law_147 rfl ?_
  refine v_callV (as := []) (st := []) dL_law_148 ml_L_18 kv_X3_clear ⟨by decide, rfl, by decide⟩ ⟨(Nat.le_of_ble_eq_true rfl), (Nat.le_of_ble_eq_true rfl)⟩ rfl (Nat.le_of_ble_eq_true rfl) rfl (Nat.le_of_ble_eq_true rfl) (h1 M c r hcls) (fun v M1 hq => ?_)
  obtain ⟨rfl, ⟨c1, r1, hc1⟩, hk1⟩ := hq
  refine v_aload_n dL_law_151 rfl ?_
  refine v_callV (as := []) (st := [.int b9]) dL_law_152 ml_L_22 kv_X4_clear ⟨by decide, rfl, by decide⟩ ⟨(Nat.le_of_ble_eq_true rfl), (Nat.le_of_ble_eq_true rfl)⟩ rfl (Nat.le_of_ble_eq_true rfl) rfl (Nat.le_of_ble_eq_true rfl) (h2 M1 (REF_kq href hk1)) (fun v M2 hq => ?_)
  obtain ⟨rfl, hr2, hk2⟩ := hq
  refine v_icmp_eq (tgt := 571) dL_law_155 (by decide) (fun c155 => ?_) (fun c155 => (absurd rfl c155))
  exact l571 (hn M2 T' R' P' Im' tx' t' h3 ⟨c1, r1, CLS_c hc1 (fun i a _ => hk2 i a)⟩ hr2)
set_option maxRecDepth 100000 in
theorem lc_2 (hL : L ≤ 1536) (ha : a + 3 ≤ L) (hcls : CLS c r M T R P Im tx t) (href : REF M T R P Im tx t) (hp : PRR kX3_tells kX4_tells [] T R P Im tx t) (hn : ∀ (M2 : vM) (T' R' : Nat → Int32) (P' : List (Nat → Int32)) (Im' : Nat → Option (Nat → Int32)) (tx' : Nat → Int32) (t' : Nat), IV T' R' P' Im' tx' t' → (∃ c r, CLS c r M2 T' R' P' Im' tx' t') → REF M2 T' R' P' Im' tx' t' → V (kL_law L xs) QL M2 18 [(0, .ref 99), (1, .ref 0), (2, .ref 60), (3, .int (nI (a + 3)))] []) : V (kL_law L xs) (QL) M 160 [(0, .ref 99), (1, .ref 0), (2, .ref 60), (3, .int (nI a))] [] := by
  obtain ⟨b9, T', R', P', Im', tx', t', h1, h2, h3⟩ := hp
  refine v_aload_n dL_law_160 rfl ?_
  refine v_callV (as := []) (st := []) dL_law_161 ml_L_23 kv_X3_tells ⟨by decide, rfl, by decide⟩ ⟨(Nat.le_of_ble_eq_true rfl), (Nat.le_of_ble_eq_true rfl)⟩ rfl (Nat.le_of_ble_eq_true rfl) rfl (Nat.le_of_ble_eq_true rfl) (h1 M c r hcls) (fun v M1 hq => ?_)
  obtain ⟨rfl, ⟨c1, r1, hc1⟩, hk1⟩ := hq
  refine v_aload_n dL_law_164 rfl ?_
  refine v_callV (as := []) (st := [.int b9]) dL_law_165 ml_L_26 kv_X4_tells ⟨by decide, rfl, by decide⟩ ⟨(Nat.le_of_ble_eq_true rfl), (Nat.le_of_ble_eq_true rfl)⟩ rfl (Nat.le_of_ble_eq_true rfl) rfl (Nat.le_of_ble_eq_true rfl) (h2 M1 (REF_kq href hk1)) (fun v M2 hq => ?_)
  obtain ⟨rfl, hr2, hk2⟩ := hq
  refine v_icmp_eq (tgt := 571) dL_law_168 (by decide) (fun c168 => ?_) (fun c168 => (absurd rfl c168))
  exact l571 (hn M2 T' R' P' Im' tx' t' h3 ⟨c1, r1, CLS_c hc1 (fun i a _ => hk2 i a)⟩ hr2)
set_option maxRecDepth 100000 in
theorem lc_3 (hL : L ≤ 1536) (ha : a + 3 ≤ L) (hcls : CLS c r M T R P Im tx t) (href : REF M T R P Im tx t) (hp : PRR kX3_needs kX4_needs [.int (xs (a + 1))] T R P Im tx t) (hn : ∀ (M2 : vM) (T' R' : Nat → Int32) (P' : List (Nat → Int32)) (Im' : Nat → Option (Nat → Int32)) (tx' : Nat → Int32) (t' : Nat), IV T' R' P' Im' tx' t' → (∃ c r, CLS c r M2 T' R' P' Im' tx' t') → REF M2 T' R' P' Im' tx' t' → V (kL_law L xs) QL M2 18 [(0, .ref 99), (1, .ref 0), (2, .ref 60), (3, .int (nI (a + 3)))] []) : V (kL_law L xs) (QL) M 173 [(0, .ref 99), (1, .ref 0), (2, .ref 60), (3, .int (nI a))] [] := by
  obtain ⟨b9, T', R', P', Im', tx', t', h1, h2, h3⟩ := hp
  refine v_aload_n dL_law_173 rfl ?_
  refine v_aload_n dL_law_174 rfl ?_
  refine v_iload_n dL_law_175 rfl ?_
  refine v_iconst (v := (nI 1)) dL_law_176 rfl ?_
  refine v_iaddN dL_law_177 ?_
  refine v_sld rfl (by omega) dL_law_178 (by omega) ?_
  refine v_callV (as := [.int (xs (a + 1))]) (st := []) dL_law_179 ml_L_27 kv_X3_needs ⟨by decide, rfl, by decide⟩ ⟨(Nat.le_of_ble_eq_true rfl), (Nat.le_of_ble_eq_true rfl)⟩ rfl (Nat.le_of_ble_eq_true rfl) rfl (Nat.le_of_ble_eq_true rfl) (h1 M c r hcls) (fun v M1 hq => ?_)
  obtain ⟨rfl, ⟨c1, r1, hc1⟩, hk1⟩ := hq
  refine v_aload_n dL_law_182 rfl ?_
  refine v_aload_n dL_law_183 rfl ?_
  refine v_iload_n dL_law_184 rfl ?_
  refine v_iconst (v := (nI 1)) dL_law_185 rfl ?_
  refine v_iaddN dL_law_186 ?_
  refine v_sld rfl (by omega) dL_law_187 (by omega) ?_
  refine v_callV (as := [.int (xs (a + 1))]) (st := [.int b9]) dL_law_188 ml_L_30 kv_X4_needs ⟨by decide, rfl, by decide⟩ ⟨(Nat.le_of_ble_eq_true rfl), (Nat.le_of_ble_eq_true rfl)⟩ rfl (Nat.le_of_ble_eq_true rfl) rfl (Nat.le_of_ble_eq_true rfl) (h2 M1 (REF_kq href hk1)) (fun v M2 hq => ?_)
  obtain ⟨rfl, hr2, hk2⟩ := hq
  refine v_icmp_eq (tgt := 571) dL_law_191 (by decide) (fun c191 => ?_) (fun c191 => (absurd rfl c191))
  exact l571 (hn M2 T' R' P' Im' tx' t' h3 ⟨c1, r1, CLS_c hc1 (fun i a _ => hk2 i a)⟩ hr2)
set_option maxRecDepth 100000 in
theorem lc_4 (hL : L ≤ 1536) (ha : a + 3 ≤ L) (hcls : CLS c r M T R P Im tx t) (href : REF M T R P Im tx t) (hp : PRR kX3_wishes kX4_wishes [.int (xs (a + 1)), .int (xs (a + 2))] T R P Im tx t) (hn : ∀ (M2 : vM) (T' R' : Nat → Int32) (P' : List (Nat → Int32)) (Im' : Nat → Option (Nat → Int32)) (tx' : Nat → Int32) (t' : Nat), IV T' R' P' Im' tx' t' → (∃ c r, CLS c r M2 T' R' P' Im' tx' t') → REF M2 T' R' P' Im' tx' t' → V (kL_law L xs) QL M2 18 [(0, .ref 99), (1, .ref 0), (2, .ref 60), (3, .int (nI (a + 3)))] []) : V (kL_law L xs) (QL) M 196 [(0, .ref 99), (1, .ref 0), (2, .ref 60), (3, .int (nI a))] [] := by
  obtain ⟨b9, T', R', P', Im', tx', t', h1, h2, h3⟩ := hp
  refine v_aload_n dL_law_196 rfl ?_
  refine v_aload_n dL_law_197 rfl ?_
  refine v_iload_n dL_law_198 rfl ?_
  refine v_iconst (v := (nI 1)) dL_law_199 rfl ?_
  refine v_iaddN dL_law_200 ?_
  refine v_sld rfl (by omega) dL_law_201 (by omega) ?_
  refine v_aload_n dL_law_202 rfl ?_
  refine v_iload_n dL_law_203 rfl ?_
  refine v_iconst (v := (nI 2)) dL_law_204 rfl ?_
  refine v_iaddN dL_law_205 ?_
  refine v_sld rfl (by omega) dL_law_206 (by omega) ?_
  refine v_callV (as := [.int (xs (a + 1)), .int (xs (a + 2))]) (st := []) dL_law_207 ml_L_31 kv_X3_wishes ⟨by decide, rfl, by decide⟩ ⟨(Nat.le_of_ble_eq_true rfl), (Nat.le_of_ble_eq_true rfl)⟩ rfl (Nat.le_of_ble_eq_true rfl) rfl (Nat.le_of_ble_eq_true rfl) (h1 M c r hcls) (fun v M1 hq => ?_)
  obtain ⟨rfl, ⟨c1, r1, hc1⟩, hk1⟩ := hq
  refine v_aload_n dL_law_210 rfl ?_
  refine v_aload_n dL_law_211 rfl ?_
  refine v_iload_n dL_law_212 rfl ?_
  refine v_iconst (v := (nI 1)) dL_law_213 rfl ?_
  refine v_iaddN dL_law_214 ?_
  refine v_sld rfl (by omega) dL_law_215 (by omega) ?_
  refine v_aload_n dL_law_216 rfl ?_
  refine v_iload_n dL_law_217 rfl ?_
  refine v_iconst (v := (nI 2)) dL_law_218 rfl ?_
  refine v_iaddN dL_law_219 ?_
  refine v_sld rfl (by omega) dL_law_220 (by omega) ?_
  refine v_callV (as := [.int (xs (a + 1)), .int (xs (a + 2))]) (st := [.int b9]) dL_law_221 ml_L_35 kv_X4_wishes ⟨by decide, rfl, by decide⟩ ⟨(Nat.le_of_ble_eq_true rfl), (Nat.le_of_ble_eq_true rfl)⟩ rfl (Nat.le_of_ble_eq_true rfl) rfl (Nat.le_of_ble_eq_true rfl) (h2 M1 (REF_kq href hk1)) (fun v M2 hq => ?_)
  obtain ⟨rfl, hr2, hk2⟩ := hq
  refine v_icmp_eq (tgt := 571) dL_law_224 (by decide) (fun c224 => ?_) (fun c224 => (absurd rfl c224))
  exact l571 (hn M2 T' R' P' Im' tx' t' h3 ⟨c1, r1, CLS_c hc1 (fun i a _ => hk2 i a)⟩ hr2)
set_option maxRecDepth 100000 in
theorem lc_5 (hL : L ≤ 1536) (ha : a + 3 ≤ L) (hcls : CLS c r M T R P Im tx t) (href : REF M T R P Im tx t) (hp : PRR kX3_ticks kX4_ticks [.int (xs (a + 1))] T R P Im tx t) (hn : ∀ (M2 : vM) (T' R' : Nat → Int32) (P' : List (Nat → Int32)) (Im' : Nat → Option (Nat → Int32)) (tx' : Nat → Int32) (t' : Nat), IV T' R' P' Im' tx' t' → (∃ c r, CLS c r M2 T' R' P' Im' tx' t') → REF M2 T' R' P' Im' tx' t' → V (kL_law L xs) QL M2 18 [(0, .ref 99), (1, .ref 0), (2, .ref 60), (3, .int (nI (a + 3)))] []) : V (kL_law L xs) (QL) M 229 [(0, .ref 99), (1, .ref 0), (2, .ref 60), (3, .int (nI a))] [] := by
  obtain ⟨b9, T', R', P', Im', tx', t', h1, h2, h3⟩ := hp
  refine v_aload_n dL_law_229 rfl ?_
  refine v_aload_n dL_law_230 rfl ?_
  refine v_iload_n dL_law_231 rfl ?_
  refine v_iconst (v := (nI 1)) dL_law_232 rfl ?_
  refine v_iaddN dL_law_233 ?_
  refine v_sld rfl (by omega) dL_law_234 (by omega) ?_
  refine v_callV (as := [.int (xs (a + 1))]) (st := []) dL_law_235 ml_L_36 kv_X3_ticks ⟨by decide, rfl, by decide⟩ ⟨(Nat.le_of_ble_eq_true rfl), (Nat.le_of_ble_eq_true rfl)⟩ rfl (Nat.le_of_ble_eq_true rfl) rfl (Nat.le_of_ble_eq_true rfl) (h1 M c r hcls) (fun v M1 hq => ?_)
  obtain ⟨rfl, ⟨c1, r1, hc1⟩, hk1⟩ := hq
  refine v_aload_n dL_law_238 rfl ?_
  refine v_aload_n dL_law_239 rfl ?_
  refine v_iload_n dL_law_240 rfl ?_
  refine v_iconst (v := (nI 1)) dL_law_241 rfl ?_
  refine v_iaddN dL_law_242 ?_
  refine v_sld rfl (by omega) dL_law_243 (by omega) ?_
  refine v_callV (as := [.int (xs (a + 1))]) (st := [.int b9]) dL_law_244 ml_L_39 kv_X4_ticks ⟨by decide, rfl, by decide⟩ ⟨(Nat.le_of_ble_eq_true rfl), (Nat.le_of_ble_eq_true rfl)⟩ rfl (Nat.le_of_ble_eq_true rfl) rfl (Nat.le_of_ble_eq_true rfl) (h2 M1 (REF_kq href hk1)) (fun v M2 hq => ?_)
  obtain ⟨rfl, hr2, hk2⟩ := hq
  refine v_icmp_eq (tgt := 571) dL_law_247 (by decide) (fun c247 => ?_) (fun c247 => (absurd rfl c247))
  exact l571 (hn M2 T' R' P' Im' tx' t' h3 ⟨c1, r1, CLS_c hc1 (fun i a _ => hk2 i a)⟩ hr2)
set_option maxRecDepth 100000 in
theorem lc_6 (hL : L ≤ 1536) (ha : a + 3 ≤ L) (hcls : CLS c r M T R P Im tx t) (href : REF M T R P Im tx t) (hp : PRR kX3_undo kX4_undo [] T R P Im tx t) (hn : ∀ (M2 : vM) (T' R' : Nat → Int32) (P' : List (Nat → Int32)) (Im' : Nat → Option (Nat → Int32)) (tx' : Nat → Int32) (t' : Nat), IV T' R' P' Im' tx' t' → (∃ c r, CLS c r M2 T' R' P' Im' tx' t') → REF M2 T' R' P' Im' tx' t' → V (kL_law L xs) QL M2 18 [(0, .ref 99), (1, .ref 0), (2, .ref 60), (3, .int (nI (a + 3)))] []) : V (kL_law L xs) (QL) M 252 [(0, .ref 99), (1, .ref 0), (2, .ref 60), (3, .int (nI a))] [] := by
  obtain ⟨b9, T', R', P', Im', tx', t', h1, h2, h3⟩ := hp
  refine v_aload_n dL_law_252 rfl ?_
  refine v_callV (as := []) (st := []) dL_law_253 ml_L_40 kv_X3_undo ⟨by decide, rfl, by decide⟩ ⟨(Nat.le_of_ble_eq_true rfl), (Nat.le_of_ble_eq_true rfl)⟩ rfl (Nat.le_of_ble_eq_true rfl) rfl (Nat.le_of_ble_eq_true rfl) (h1 M c r hcls) (fun v M1 hq => ?_)
  obtain ⟨rfl, ⟨c1, r1, hc1⟩, hk1⟩ := hq
  refine v_aload_n dL_law_256 rfl ?_
  refine v_callV (as := []) (st := [.int b9]) dL_law_257 ml_L_43 kv_X4_undo ⟨by decide, rfl, by decide⟩ ⟨(Nat.le_of_ble_eq_true rfl), (Nat.le_of_ble_eq_true rfl)⟩ rfl (Nat.le_of_ble_eq_true rfl) rfl (Nat.le_of_ble_eq_true rfl) (h2 M1 (REF_kq href hk1)) (fun v M2 hq => ?_)
  obtain ⟨rfl, hr2, hk2⟩ := hq
  refine v_icmp_eq (tgt := 571) dL_law_260 (by decide) (fun c260 => ?_) (fun c260 => (absurd rfl c260))
  exact l571 (hn M2 T' R' P' Im' tx' t' h3 ⟨c1, r1, CLS_c hc1 (fun i a _ => hk2 i a)⟩ hr2)
set_option maxRecDepth 100000 in
theorem lc_7 (hL : L ≤ 1536) (ha : a + 3 ≤ L) (hcls : CLS c r M T R P Im tx t) (href : REF M T R P Im tx t) (hp : PRR kX3_node kX4_node [.int (xs (a + 1)), .int (xs (a + 2))] T R P Im tx t) (hn : ∀ (M2 : vM) (T' R' : Nat → Int32) (P' : List (Nat → Int32)) (Im' : Nat → Option (Nat → Int32)) (tx' : Nat → Int32) (t' : Nat), IV T' R' P' Im' tx' t' → (∃ c r, CLS c r M2 T' R' P' Im' tx' t') → REF M2 T' R' P' Im' tx' t' → V (kL_law L xs) QL M2 18 [(0, .ref 99), (1, .ref 0), (2, .ref 60), (3, .int (nI (a + 3)))] []) : V (kL_law L xs) (QL) M 265 [(0, .ref 99), (1, .ref 0), (2, .ref 60), (3, .int (nI a))] [] := by
  obtain ⟨b9, T', R', P', Im', tx', t', h1, h2, h3⟩ := hp
  refine v_aload_n dL_law_265 rfl ?_
  refine v_aload_n dL_law_266 rfl ?_
  refine v_iload_n dL_law_267 rfl ?_
  refine v_iconst (v := (nI 1)) dL_law_268 rfl ?_
  refine v_iaddN dL_law_269 ?_
  refine v_sld rfl (by omega) dL_law_270 (by omega) ?_
  refine v_aload_n dL_law_271 rfl ?_
  refine v_iload_n dL_law_272 rfl ?_
  refine v_iconst (v := (nI 2)) dL_law_273 rfl ?_
  refine v_iaddN dL_law_274 ?_
  refine v_sld rfl (by omega) dL_law_275 (by omega) ?_
  refine v_callV (as := [.int (xs (a + 1)), .int (xs (a + 2))]) (st := []) dL_law_276 ml_L_44 kv_X3_node ⟨by decide, rfl, by decide⟩ ⟨(Nat.le_of_ble_eq_true rfl), (Nat.le_of_ble_eq_true rfl)⟩ rfl (Nat.le_of_ble_eq_true rfl) rfl (Nat.le_of_ble_eq_true rfl) (h1 M c r hcls) (fun v M1 hq => ?_)
  obtain ⟨rfl, ⟨c1, r1, hc1⟩, hk1⟩ := hq
  refine v_aload_n dL_law_279 rfl ?_
  refine v_aload_n dL_law_280 rfl ?_
  refine v_iload_n dL_law_281 rfl ?_
  refine v_iconst (v := (nI 1)) dL_law_282 rfl ?_
  refine v_iaddN dL_law_283 ?_
  refine v_sld rfl (by omega) dL_law_284 (by omega) ?_
  refine v_aload_n dL_law_285 rfl ?_
  refine v_iload_n dL_law_286 rfl ?_
  refine v_iconst (v := (nI 2)) dL_law_287 rfl ?_
  refine v_iaddN dL_law_288 ?_
  refine v_sld rfl (by omega) dL_law_289 (by omega) ?_
  refine v_callV (as := [.int (xs (a + 1)), .int (xs (a + 2))]) (st := [.int b9]) dL_law_290 ml_L_47 kv_X4_node ⟨by decide, rfl, by decide⟩ ⟨(Nat.le_of_ble_eq_true rfl), (Nat.le_of_ble_eq_true rfl)⟩ rfl (Nat.le_of_ble_eq_true rfl) rfl (Nat.le_of_ble_eq_true rfl) (h2 M1 (REF_kq href hk1)) (fun v M2 hq => ?_)
  obtain ⟨rfl, hr2, hk2⟩ := hq
  refine v_icmp_eq (tgt := 571) dL_law_293 (by decide) (fun c293 => ?_) (fun c293 => (absurd rfl c293))
  exact l571 (hn M2 T' R' P' Im' tx' t' h3 ⟨c1, r1, CLS_c hc1 (fun i a _ => hk2 i a)⟩ hr2)
set_option maxRecDepth 100000 in
theorem lc_8 (hL : L ≤ 1536) (ha : a + 3 ≤ L) (hcls : CLS c r M T R P Im tx t) (href : REF M T R P Im tx t) (hp : PRR kX3_register kX4_register [.int (xs (a + 1)), .int (xs (a + 2))] T R P Im tx t) (hn : ∀ (M2 : vM) (T' R' : Nat → Int32) (P' : List (Nat → Int32)) (Im' : Nat → Option (Nat → Int32)) (tx' : Nat → Int32) (t' : Nat), IV T' R' P' Im' tx' t' → (∃ c r, CLS c r M2 T' R' P' Im' tx' t') → REF M2 T' R' P' Im' tx' t' → V (kL_law L xs) QL M2 18 [(0, .ref 99), (1, .ref 0), (2, .ref 60), (3, .int (nI (a + 3)))] []) : V (kL_law L xs) (QL) M 298 [(0, .ref 99), (1, .ref 0), (2, .ref 60), (3, .int (nI a))] [] := by
  obtain ⟨b9, T', R', P', Im', tx', t', h1, h2, h3⟩ := hp
  refine v_aload_n dL_law_298 rfl ?_
  refine v_aload_n dL_law_299 rfl ?_
  refine v_iload_n dL_law_300 rfl ?_
  refine v_iconst (v := (nI 1)) dL_law_301 rfl ?_
  refine v_iaddN dL_law_302 ?_
  refine v_sld rfl (by omega) dL_law_303 (by omega) ?_
  refine v_aload_n dL_law_304 rfl ?_
  refine v_iload_n dL_law_305 rfl ?_
  refine v_iconst (v := (nI 2)) dL_law_306 rfl ?_
  refine v_iaddN dL_law_307 ?_
  refine v_sld rfl (by omega) dL_law_308 (by omega) ?_
  refine v_callV (as := [.int (xs (a + 1)), .int (xs (a + 2))]) (st := []) dL_law_309 ml_L_48 kv_X3_register ⟨by decide, rfl, by decide⟩ ⟨(Nat.le_of_ble_eq_true rfl), (Nat.le_of_ble_eq_true rfl)⟩ rfl (Nat.le_of_ble_eq_true rfl) rfl (Nat.le_of_ble_eq_true rfl) (h1 M c r hcls) (fun v M1 hq => ?_)
  obtain ⟨rfl, ⟨c1, r1, hc1⟩, hk1⟩ := hq
  refine v_aload_n dL_law_312 rfl ?_
  refine v_aload_n dL_law_313 rfl ?_
  refine v_iload_n dL_law_314 rfl ?_
  refine v_iconst (v := (nI 1)) dL_law_315 rfl ?_
  refine v_iaddN dL_law_316 ?_
  refine v_sld rfl (by omega) dL_law_317 (by omega) ?_
  refine v_aload_n dL_law_318 rfl ?_
  refine v_iload_n dL_law_319 rfl ?_
  refine v_iconst (v := (nI 2)) dL_law_320 rfl ?_
  refine v_iaddN dL_law_321 ?_
  refine v_sld rfl (by omega) dL_law_322 (by omega) ?_
  refine v_callV (as := [.int (xs (a + 1)), .int (xs (a + 2))]) (st := [.int b9]) dL_law_323 ml_L_51 kv_X4_register ⟨by decide, rfl, by decide⟩ ⟨(Nat.le_of_ble_eq_true rfl), (Nat.le_of_ble_eq_true rfl)⟩ rfl (Nat.le_of_ble_eq_true rfl) rfl (Nat.le_of_ble_eq_true rfl) (h2 M1 (REF_kq href hk1)) (fun v M2 hq => ?_)
  obtain ⟨rfl, hr2, hk2⟩ := hq
  refine v_icmp_eq (tgt := 571) dL_law_326 (by decide) (fun c326 => ?_) (fun c326 => (absurd rfl c326))
  exact l571 (hn M2 T' R' P' Im' tx' t' h3 ⟨c1, r1, CLS_c hc1 (fun i a _ => hk2 i a)⟩ hr2)
set_option maxRecDepth 100000 in
theorem lc_9 (hL : L ≤ 1536) (ha : a + 3 ≤ L) (hcls : CLS c r M T R P Im tx t) (href : REF M T R P Im tx t) (hp : PRR kX3_crossing kX4_crossing [.int (xs (a + 1))] T R P Im tx t) (hn : ∀ (M2 : vM) (T' R' : Nat → Int32) (P' : List (Nat → Int32)) (Im' : Nat → Option (Nat → Int32)) (tx' : Nat → Int32) (t' : Nat), IV T' R' P' Im' tx' t' → (∃ c r, CLS c r M2 T' R' P' Im' tx' t') → REF M2 T' R' P' Im' tx' t' → V (kL_law L xs) QL M2 18 [(0, .ref 99), (1, .ref 0), (2, .ref 60), (3, .int (nI (a + 3)))] []) : V (kL_law L xs) (QL) M 331 [(0, .ref 99), (1, .ref 0), (2, .ref 60), (3, .int (nI a))] [] := by
  obtain ⟨b9, T', R', P', Im', tx', t', h1, h2, h3⟩ := hp
  refine v_aload_n dL_law_331 rfl ?_
  refine v_aload_n dL_law_332 rfl ?_
  refine v_iload_n dL_law_333 rfl ?_
  refine v_iconst (v := (nI 1)) dL_law_334 rfl ?_
  refine v_iaddN dL_law_335 ?_
  refine v_sld rfl (by omega) dL_law_336 (by omega) ?_
  refine v_callV (as := [.int (xs (a + 1))]) (st := []) dL_law_337 ml_L_52 kv_X3_crossing ⟨by decide, rfl, by decide⟩ ⟨(Nat.le_of_ble_eq_true rfl), (Nat.le_of_ble_eq_true rfl)⟩ rfl (Nat.le_of_ble_eq_true rfl) rfl (Nat.le_of_ble_eq_true rfl) (h1 M c r hcls) (fun v M1 hq => ?_)
  obtain ⟨rfl, ⟨c1, r1, hc1⟩, hk1⟩ := hq
  refine v_aload_n dL_law_340 rfl ?_
  refine v_aload_n dL_law_341 rfl ?_
  refine v_iload_n dL_law_342 rfl ?_
  refine v_iconst (v := (nI 1)) dL_law_343 rfl ?_
  refine v_iaddN dL_law_344 ?_
  refine v_sld rfl (by omega) dL_law_345 (by omega) ?_
  refine v_callV (as := [.int (xs (a + 1))]) (st := [.int b9]) dL_law_346 ml_L_55 kv_X4_crossing ⟨by decide, rfl, by decide⟩ ⟨(Nat.le_of_ble_eq_true rfl), (Nat.le_of_ble_eq_true rfl)⟩ rfl (Nat.le_of_ble_eq_true rfl) rfl (Nat.le_of_ble_eq_true rfl) (h2 M1 (REF_kq href hk1)) (fun v M2 hq => ?_)
  obtain ⟨rfl, hr2, hk2⟩ := hq
  refine v_icmp_eq (tgt := 571) dL_law_349 (by decide) (fun c349 => ?_) (fun c349 => (absurd rfl c349))
  exact l571 (hn M2 T' R' P' Im' tx' t' h3 ⟨c1, r1, CLS_c hc1 (fun i a _ => hk2 i a)⟩ hr2)
set_option maxRecDepth 100000 in
theorem lc_10 (hL : L ≤ 1536) (ha : a + 3 ≤ L) (hcls : CLS c r M T R P Im tx t) (href : REF M T R P Im tx t) (hp : PRR kX3_kinds kX4_kinds [.int (xs (a + 1))] T R P Im tx t) (hn : ∀ (M2 : vM) (T' R' : Nat → Int32) (P' : List (Nat → Int32)) (Im' : Nat → Option (Nat → Int32)) (tx' : Nat → Int32) (t' : Nat), IV T' R' P' Im' tx' t' → (∃ c r, CLS c r M2 T' R' P' Im' tx' t') → REF M2 T' R' P' Im' tx' t' → V (kL_law L xs) QL M2 18 [(0, .ref 99), (1, .ref 0), (2, .ref 60), (3, .int (nI (a + 3)))] []) : V (kL_law L xs) (QL) M 354 [(0, .ref 99), (1, .ref 0), (2, .ref 60), (3, .int (nI a))] [] := by
  obtain ⟨b9, T', R', P', Im', tx', t', h1, h2, h3⟩ := hp
  refine v_aload_n dL_law_354 rfl ?_
  refine v_aload_n dL_law_355 rfl ?_
  refine v_iload_n dL_law_356 rfl ?_
  refine v_iconst (v := (nI 1)) dL_law_357 rfl ?_
  refine v_iaddN dL_law_358 ?_
  refine v_sld rfl (by omega) dL_law_359 (by omega) ?_
  refine v_callV (as := [.int (xs (a + 1))]) (st := []) dL_law_360 ml_L_56 kv_X3_kinds ⟨by decide, rfl, by decide⟩ ⟨(Nat.le_of_ble_eq_true rfl), (Nat.le_of_ble_eq_true rfl)⟩ rfl (Nat.le_of_ble_eq_true rfl) rfl (Nat.le_of_ble_eq_true rfl) (h1 M c r hcls) (fun v M1 hq => ?_)
  obtain ⟨rfl, ⟨c1, r1, hc1⟩, hk1⟩ := hq
  refine v_aload_n dL_law_363 rfl ?_
  refine v_aload_n dL_law_364 rfl ?_
  refine v_iload_n dL_law_365 rfl ?_
  refine v_iconst (v := (nI 1)) dL_law_366 rfl ?_
  refine v_iaddN dL_law_367 ?_
  refine v_sld rfl (by omega) dL_law_368 (by omega) ?_
  refine v_callV (as := [.int (xs (a + 1))]) (st := [.int b9]) dL_law_369 ml_L_59 kv_X4_kinds ⟨by decide, rfl, by decide⟩ ⟨(Nat.le_of_ble_eq_true rfl), (Nat.le_of_ble_eq_true rfl)⟩ rfl (Nat.le_of_ble_eq_true rfl) rfl (Nat.le_of_ble_eq_true rfl) (h2 M1 (REF_kq href hk1)) (fun v M2 hq => ?_)
  obtain ⟨rfl, hr2, hk2⟩ := hq
  refine v_icmp_eq (tgt := 571) dL_law_372 (by decide) (fun c372 => ?_) (fun c372 => (absurd rfl c372))
  exact l571 (hn M2 T' R' P' Im' tx' t' h3 ⟨c1, r1, CLS_c hc1 (fun i a _ => hk2 i a)⟩ hr2)
set_option maxRecDepth 100000 in
theorem lc_11 (hL : L ≤ 1536) (ha : a + 3 ≤ L) (hcls : CLS c r M T R P Im tx t) (href : REF M T R P Im tx t) (hp : PRR kX3_join kX4_join [.int (xs (a + 1)), .int (xs (a + 2))] T R P Im tx t) (hn : ∀ (M2 : vM) (T' R' : Nat → Int32) (P' : List (Nat → Int32)) (Im' : Nat → Option (Nat → Int32)) (tx' : Nat → Int32) (t' : Nat), IV T' R' P' Im' tx' t' → (∃ c r, CLS c r M2 T' R' P' Im' tx' t') → REF M2 T' R' P' Im' tx' t' → V (kL_law L xs) QL M2 18 [(0, .ref 99), (1, .ref 0), (2, .ref 60), (3, .int (nI (a + 3)))] []) : V (kL_law L xs) (QL) M 377 [(0, .ref 99), (1, .ref 0), (2, .ref 60), (3, .int (nI a))] [] := by
  obtain ⟨b9, T', R', P', Im', tx', t', h1, h2, h3⟩ := hp
  refine v_aload_n dL_law_377 rfl ?_
  refine v_aload_n dL_law_378 rfl ?_
  refine v_iload_n dL_law_379 rfl ?_
  refine v_iconst (v := (nI 1)) dL_law_380 rfl ?_
  refine v_iaddN dL_law_381 ?_
  refine v_sld rfl (by omega) dL_law_382 (by omega) ?_
  refine v_aload_n dL_law_383 rfl ?_
  refine v_iload_n dL_law_384 rfl ?_
  refine v_iconst (v := (nI 2)) dL_law_385 rfl ?_
  refine v_iaddN dL_law_386 ?_
  refine v_sld rfl (by omega) dL_law_387 (by omega) ?_
  refine v_callV (as := [.int (xs (a + 1)), .int (xs (a + 2))]) (st := []) dL_law_388 ml_L_60 kv_X3_join ⟨by decide, rfl, by decide⟩ ⟨(Nat.le_of_ble_eq_true rfl), (Nat.le_of_ble_eq_true rfl)⟩ rfl (Nat.le_of_ble_eq_true rfl) rfl (Nat.le_of_ble_eq_true rfl) (h1 M c r hcls) (fun v M1 hq => ?_)
  obtain ⟨rfl, ⟨c1, r1, hc1⟩, hk1⟩ := hq
  refine v_aload_n dL_law_391 rfl ?_
  refine v_aload_n dL_law_392 rfl ?_
  refine v_iload_n dL_law_393 rfl ?_
  refine v_iconst (v := (nI 1)) dL_law_394 rfl ?_
  refine v_iaddN dL_law_395 ?_
  refine v_sld rfl (by omega) dL_law_396 (by omega) ?_
  refine v_aload_n dL_law_397 rfl ?_
  refine v_iload_n dL_law_398 rfl ?_
  refine v_iconst (v := (nI 2)) dL_law_399 rfl ?_
  refine v_iaddN dL_law_400 ?_
  refine v_sld rfl (by omega) dL_law_401 (by omega) ?_
  refine v_callV (as := [.int (xs (a + 1)), .int (xs (a + 2))]) (st := [.int b9]) dL_law_402 ml_L_63 kv_X4_join ⟨by decide, rfl, by decide⟩ ⟨(Nat.le_of_ble_eq_true rfl), (Nat.le_of_ble_eq_true rfl)⟩ rfl (Nat.le_of_ble_eq_true rfl) rfl (Nat.le_of_ble_eq_true rfl) (h2 M1 (REF_kq href hk1)) (fun v M2 hq => ?_)
  obtain ⟨rfl, hr2, hk2⟩ := hq
  refine v_icmp_eq (tgt := 571) dL_law_405 (by decide) (fun c405 => ?_) (fun c405 => (absurd rfl c405))
  exact l571 (hn M2 T' R' P' Im' tx' t' h3 ⟨c1, r1, CLS_c hc1 (fun i a _ => hk2 i a)⟩ hr2)
set_option maxRecDepth 100000 in
theorem lc_12 (hL : L ≤ 1536) (ha : a + 3 ≤ L) (hcls : CLS c r M T R P Im tx t) (href : REF M T R P Im tx t) (hp : PRR kX3_risk kX4_risk [] T R P Im tx t) (hn : ∀ (M2 : vM) (T' R' : Nat → Int32) (P' : List (Nat → Int32)) (Im' : Nat → Option (Nat → Int32)) (tx' : Nat → Int32) (t' : Nat), IV T' R' P' Im' tx' t' → (∃ c r, CLS c r M2 T' R' P' Im' tx' t') → REF M2 T' R' P' Im' tx' t' → V (kL_law L xs) QL M2 18 [(0, .ref 99), (1, .ref 0), (2, .ref 60), (3, .int (nI (a + 3)))] []) : V (kL_law L xs) (QL) M 410 [(0, .ref 99), (1, .ref 0), (2, .ref 60), (3, .int (nI a))] [] := by
  obtain ⟨b9, T', R', P', Im', tx', t', h1, h2, h3⟩ := hp
  refine v_aload_n dL_law_410 rfl ?_
  refine v_callV (as := []) (st := []) dL_law_411 ml_L_64 kv_X3_risk ⟨by decide, rfl, by decide⟩ ⟨(Nat.le_of_ble_eq_true rfl), (Nat.le_of_ble_eq_true rfl)⟩ rfl (Nat.le_of_ble_eq_true rfl) rfl (Nat.le_of_ble_eq_true rfl) (h1 M c r hcls) (fun v M1 hq => ?_)
  obtain ⟨rfl, ⟨c1, r1, hc1⟩, hk1⟩ := hq
  refine v_aload_n dL_law_414 rfl ?_
  refine v_callV (as := []) (st := [.int b9]) dL_law_415 ml_L_67 kv_X4_risk ⟨by decide, rfl, by decide⟩ ⟨(Nat.le_of_ble_eq_true rfl), (Nat.le_of_ble_eq_true rfl)⟩ rfl (Nat.le_of_ble_eq_true rfl) rfl (Nat.le_of_ble_eq_true rfl) (h2 M1 (REF_kq href hk1)) (fun v M2 hq => ?_)
  obtain ⟨rfl, hr2, hk2⟩ := hq
  refine v_icmp_eq (tgt := 571) dL_law_418 (by decide) (fun c418 => ?_) (fun c418 => (absurd rfl c418))
  exact l571 (hn M2 T' R' P' Im' tx' t' h3 ⟨c1, r1, CLS_c hc1 (fun i a _ => hk2 i a)⟩ hr2)
set_option maxRecDepth 100000 in
theorem lc_13 (hL : L ≤ 1536) (ha : a + 3 ≤ L) (hcls : CLS c r M T R P Im tx t) (href : REF M T R P Im tx t) (hp : PRR kX3_period kX4_period [.int (xs (a + 1))] T R P Im tx t) (hn : ∀ (M2 : vM) (T' R' : Nat → Int32) (P' : List (Nat → Int32)) (Im' : Nat → Option (Nat → Int32)) (tx' : Nat → Int32) (t' : Nat), IV T' R' P' Im' tx' t' → (∃ c r, CLS c r M2 T' R' P' Im' tx' t') → REF M2 T' R' P' Im' tx' t' → V (kL_law L xs) QL M2 18 [(0, .ref 99), (1, .ref 0), (2, .ref 60), (3, .int (nI (a + 3)))] []) : V (kL_law L xs) (QL) M 423 [(0, .ref 99), (1, .ref 0), (2, .ref 60), (3, .int (nI a))] [] := by
  obtain ⟨b9, T', R', P', Im', tx', t', h1, h2, h3⟩ := hp
  refine v_aload_n dL_law_423 rfl ?_
  refine v_aload_n dL_law_424 rfl ?_
  refine v_iload_n dL_law_425 rfl ?_
  refine v_iconst (v := (nI 1)) dL_law_426 rfl ?_
  refine v_iaddN dL_law_427 ?_
  refine v_sld rfl (by omega) dL_law_428 (by omega) ?_
  refine v_callV (as := [.int (xs (a + 1))]) (st := []) dL_law_429 ml_L_68 kv_X3_period ⟨by decide, rfl, by decide⟩ ⟨(Nat.le_of_ble_eq_true rfl), (Nat.le_of_ble_eq_true rfl)⟩ rfl (Nat.le_of_ble_eq_true rfl) rfl (Nat.le_of_ble_eq_true rfl) (h1 M c r hcls) (fun v M1 hq => ?_)
  obtain ⟨rfl, ⟨c1, r1, hc1⟩, hk1⟩ := hq
  refine v_aload_n dL_law_432 rfl ?_
  refine v_aload_n dL_law_433 rfl ?_
  refine v_iload_n dL_law_434 rfl ?_
  refine v_iconst (v := (nI 1)) dL_law_435 rfl ?_
  refine v_iaddN dL_law_436 ?_
  refine v_sld rfl (by omega) dL_law_437 (by omega) ?_
  refine v_callV (as := [.int (xs (a + 1))]) (st := [.int b9]) dL_law_438 ml_L_71 kv_X4_period ⟨by decide, rfl, by decide⟩ ⟨(Nat.le_of_ble_eq_true rfl), (Nat.le_of_ble_eq_true rfl)⟩ rfl (Nat.le_of_ble_eq_true rfl) rfl (Nat.le_of_ble_eq_true rfl) (h2 M1 (REF_kq href hk1)) (fun v M2 hq => ?_)
  obtain ⟨rfl, hr2, hk2⟩ := hq
  refine v_icmp_eq (tgt := 571) dL_law_441 (by decide) (fun c441 => ?_) (fun c441 => (absurd rfl c441))
  exact l571 (hn M2 T' R' P' Im' tx' t' h3 ⟨c1, r1, CLS_c hc1 (fun i a _ => hk2 i a)⟩ hr2)
set_option maxRecDepth 100000 in
theorem lc_14 (hL : L ≤ 1536) (ha : a + 3 ≤ L) (hcls : CLS c r M T R P Im tx t) (href : REF M T R P Im tx t) (hp : PRR kX3_wish kX4_wish [.int (xs (a + 1))] T R P Im tx t) (hn : ∀ (M2 : vM) (T' R' : Nat → Int32) (P' : List (Nat → Int32)) (Im' : Nat → Option (Nat → Int32)) (tx' : Nat → Int32) (t' : Nat), IV T' R' P' Im' tx' t' → (∃ c r, CLS c r M2 T' R' P' Im' tx' t') → REF M2 T' R' P' Im' tx' t' → V (kL_law L xs) QL M2 18 [(0, .ref 99), (1, .ref 0), (2, .ref 60), (3, .int (nI (a + 3)))] []) : V (kL_law L xs) (QL) M 446 [(0, .ref 99), (1, .ref 0), (2, .ref 60), (3, .int (nI a))] [] := by
  obtain ⟨b9, T', R', P', Im', tx', t', h1, h2, h3⟩ := hp
  refine v_aload_n dL_law_446 rfl ?_
  refine v_aload_n dL_law_447 rfl ?_
  refine v_iload_n dL_law_448 rfl ?_
  refine v_iconst (v := (nI 1)) dL_law_449 rfl ?_
  refine v_iaddN dL_law_450 ?_
  refine v_sld rfl (by omega) dL_law_451 (by omega) ?_
  refine v_callV (as := [.int (xs (a + 1))]) (st := []) dL_law_452 ml_L_72 kv_X3_wish ⟨by decide, rfl, by decide⟩ ⟨(Nat.le_of_ble_eq_true rfl), (Nat.le_of_ble_eq_true rfl)⟩ rfl (Nat.le_of_ble_eq_true rfl) rfl (Nat.le_of_ble_eq_true rfl) (h1 M c r hcls) (fun v M1 hq => ?_)
  obtain ⟨rfl, ⟨c1, r1, hc1⟩, hk1⟩ := hq
  refine v_aload_n dL_law_455 rfl ?_
  refine v_aload_n dL_law_456 rfl ?_
  refine v_iload_n dL_law_457 rfl ?_
  refine v_iconst (v := (nI 1)) dL_law_458 rfl ?_
  refine v_iaddN dL_law_459 ?_
  refine v_sld rfl (by omega) dL_law_460 (by omega) ?_
  refine v_callV (as := [.int (xs (a + 1))]) (st := [.int b9]) dL_law_461 ml_L_75 kv_X4_wish ⟨by decide, rfl, by decide⟩ ⟨(Nat.le_of_ble_eq_true rfl), (Nat.le_of_ble_eq_true rfl)⟩ rfl (Nat.le_of_ble_eq_true rfl) rfl (Nat.le_of_ble_eq_true rfl) (h2 M1 (REF_kq href hk1)) (fun v M2 hq => ?_)
  obtain ⟨rfl, hr2, hk2⟩ := hq
  refine v_icmp_eq (tgt := 571) dL_law_464 (by decide) (fun c464 => ?_) (fun c464 => (absurd rfl c464))
  exact l571 (hn M2 T' R' P' Im' tx' t' h3 ⟨c1, r1, CLS_c hc1 (fun i a _ => hk2 i a)⟩ hr2)
set_option maxRecDepth 100000 in
theorem lc_15 (hL : L ≤ 1536) (ha : a + 3 ≤ L) (hcls : CLS c r M T R P Im tx t) (href : REF M T R P Im tx t) (hp : PRR kX3_when kX4_when [.int (xs (a + 1)), .int (xs (a + 2))] T R P Im tx t) (hn : ∀ (M2 : vM) (T' R' : Nat → Int32) (P' : List (Nat → Int32)) (Im' : Nat → Option (Nat → Int32)) (tx' : Nat → Int32) (t' : Nat), IV T' R' P' Im' tx' t' → (∃ c r, CLS c r M2 T' R' P' Im' tx' t') → REF M2 T' R' P' Im' tx' t' → V (kL_law L xs) QL M2 18 [(0, .ref 99), (1, .ref 0), (2, .ref 60), (3, .int (nI (a + 3)))] []) : V (kL_law L xs) (QL) M 469 [(0, .ref 99), (1, .ref 0), (2, .ref 60), (3, .int (nI a))] [] := by
  obtain ⟨b9, T', R', P', Im', tx', t', h1, h2, h3⟩ := hp
  refine v_aload_n dL_law_469 rfl ?_
  refine v_aload_n dL_law_470 rfl ?_
  refine v_iload_n dL_law_471 rfl ?_
  refine v_iconst (v := (nI 1)) dL_law_472 rfl ?_
  refine v_iaddN dL_law_473 ?_
  refine v_sld rfl (by omega) dL_law_474 (by omega) ?_
  refine v_aload_n dL_law_475 rfl ?_
  refine v_iload_n dL_law_476 rfl ?_
  refine v_iconst (v := (nI 2)) dL_law_477 rfl ?_
  refine v_iaddN dL_law_478 ?_
  refine v_sld rfl (by omega) dL_law_479 (by omega) ?_
  refine v_callV (as := [.int (xs (a + 1)), .int (xs (a + 2))]) (st := []) dL_law_480 ml_L_76 kv_X3_when ⟨by decide, rfl, by decide⟩ ⟨(Nat.le_of_ble_eq_true rfl), (Nat.le_of_ble_eq_true rfl)⟩ rfl (Nat.le_of_ble_eq_true rfl) rfl (Nat.le_of_ble_eq_true rfl) (h1 M c r hcls) (fun v M1 hq => ?_)
  obtain ⟨rfl, ⟨c1, r1, hc1⟩, hk1⟩ := hq
  refine v_aload_n dL_law_483 rfl ?_
  refine v_aload_n dL_law_484 rfl ?_
  refine v_iload_n dL_law_485 rfl ?_
  refine v_iconst (v := (nI 1)) dL_law_486 rfl ?_
  refine v_iaddN dL_law_487 ?_
  refine v_sld rfl (by omega) dL_law_488 (by omega) ?_
  refine v_aload_n dL_law_489 rfl ?_
  refine v_iload_n dL_law_490 rfl ?_
  refine v_iconst (v := (nI 2)) dL_law_491 rfl ?_
  refine v_iaddN dL_law_492 ?_
  refine v_sld rfl (by omega) dL_law_493 (by omega) ?_
  refine v_callV (as := [.int (xs (a + 1)), .int (xs (a + 2))]) (st := [.int b9]) dL_law_494 ml_L_79 kv_X4_when ⟨by decide, rfl, by decide⟩ ⟨(Nat.le_of_ble_eq_true rfl), (Nat.le_of_ble_eq_true rfl)⟩ rfl (Nat.le_of_ble_eq_true rfl) rfl (Nat.le_of_ble_eq_true rfl) (h2 M1 (REF_kq href hk1)) (fun v M2 hq => ?_)
  obtain ⟨rfl, hr2, hk2⟩ := hq
  refine v_icmp_eq (tgt := 571) dL_law_497 (by decide) (fun c497 => ?_) (fun c497 => (absurd rfl c497))
  exact l571 (hn M2 T' R' P' Im' tx' t' h3 ⟨c1, r1, CLS_c hc1 (fun i a _ => hk2 i a)⟩ hr2)
set_option maxRecDepth 100000 in
theorem lc_16 (hL : L ≤ 1536) (ha : a + 3 ≤ L) (hcls : CLS c r M T R P Im tx t) (href : REF M T R P Im tx t) (hp : PRR kX3_keep kX4_keep [.int (xs (a + 1))] T R P Im tx t) (hn : ∀ (M2 : vM) (T' R' : Nat → Int32) (P' : List (Nat → Int32)) (Im' : Nat → Option (Nat → Int32)) (tx' : Nat → Int32) (t' : Nat), IV T' R' P' Im' tx' t' → (∃ c r, CLS c r M2 T' R' P' Im' tx' t') → REF M2 T' R' P' Im' tx' t' → V (kL_law L xs) QL M2 18 [(0, .ref 99), (1, .ref 0), (2, .ref 60), (3, .int (nI (a + 3)))] []) : V (kL_law L xs) (QL) M 502 [(0, .ref 99), (1, .ref 0), (2, .ref 60), (3, .int (nI a))] [] := by
  obtain ⟨b9, T', R', P', Im', tx', t', h1, h2, h3⟩ := hp
  refine v_aload_n dL_law_502 rfl ?_
  refine v_aload_n dL_law_503 rfl ?_
  refine v_iload_n dL_law_504 rfl ?_
  refine v_iconst (v := (nI 1)) dL_law_505 rfl ?_
  refine v_iaddN dL_law_506 ?_
  refine v_sld rfl (by omega) dL_law_507 (by omega) ?_
  refine v_callV (as := [.int (xs (a + 1))]) (st := []) dL_law_508 ml_L_80 kv_X3_keep ⟨by decide, rfl, by decide⟩ ⟨(Nat.le_of_ble_eq_true rfl), (Nat.le_of_ble_eq_true rfl)⟩ rfl (Nat.le_of_ble_eq_true rfl) rfl (Nat.le_of_ble_eq_true rfl) (h1 M c r hcls) (fun v M1 hq => ?_)
  obtain ⟨rfl, ⟨c1, r1, hc1⟩, hk1⟩ := hq
  refine v_aload_n dL_law_511 rfl ?_
  refine v_aload_n dL_law_512 rfl ?_
  refine v_iload_n dL_law_513 rfl ?_
  refine v_iconst (v := (nI 1)) dL_law_514 rfl ?_
  refine v_iaddN dL_law_515 ?_
  refine v_sld rfl (by omega) dL_law_516 (by omega) ?_
  refine v_callV (as := [.int (xs (a + 1))]) (st := [.int b9]) dL_law_517 ml_L_83 kv_X4_keep ⟨by decide, rfl, by decide⟩ ⟨(Nat.le_of_ble_eq_true rfl), (Nat.le_of_ble_eq_true rfl)⟩ rfl (Nat.le_of_ble_eq_true rfl) rfl (Nat.le_of_ble_eq_true rfl) (h2 M1 (REF_kq href hk1)) (fun v M2 hq => ?_)
  obtain ⟨rfl, hr2, hk2⟩ := hq
  refine v_icmp_eq (tgt := 571) dL_law_520 (by decide) (fun c520 => ?_) (fun c520 => (absurd rfl c520))
  exact l571 (hn M2 T' R' P' Im' tx' t' h3 ⟨c1, r1, CLS_c hc1 (fun i a _ => hk2 i a)⟩ hr2)
set_option maxRecDepth 100000 in
theorem lc_17 (hL : L ≤ 1536) (ha : a + 3 ≤ L) (hcls : CLS c r M T R P Im tx t) (href : REF M T R P Im tx t) (hp : PRR kX3_back kX4_back [.int (xs (a + 1))] T R P Im tx t) (hn : ∀ (M2 : vM) (T' R' : Nat → Int32) (P' : List (Nat → Int32)) (Im' : Nat → Option (Nat → Int32)) (tx' : Nat → Int32) (t' : Nat), IV T' R' P' Im' tx' t' → (∃ c r, CLS c r M2 T' R' P' Im' tx' t') → REF M2 T' R' P' Im' tx' t' → V (kL_law L xs) QL M2 18 [(0, .ref 99), (1, .ref 0), (2, .ref 60), (3, .int (nI (a + 3)))] []) : V (kL_law L xs) (QL) M 525 [(0, .ref 99), (1, .ref 0), (2, .ref 60), (3, .int (nI a))] [] := by
  obtain ⟨b9, T', R', P', Im', tx', t', h1, h2, h3⟩ := hp
  refine v_aload_n dL_law_525 rfl ?_
  refine v_aload_n dL_law_526 rfl ?_
  refine v_iload_n dL_law_527 rfl ?_
  refine v_iconst (v := (nI 1)) dL_law_528 rfl ?_
  refine v_iaddN dL_law_529 ?_
  refine v_sld rfl (by omega) dL_law_530 (by omega) ?_
  refine v_callV (as := [.int (xs (a + 1))]) (st := []) dL_law_531 ml_L_84 kv_X3_back ⟨by decide, rfl, by decide⟩ ⟨(Nat.le_of_ble_eq_true rfl), (Nat.le_of_ble_eq_true rfl)⟩ rfl (Nat.le_of_ble_eq_true rfl) rfl (Nat.le_of_ble_eq_true rfl) (h1 M c r hcls) (fun v M1 hq => ?_)
  obtain ⟨rfl, ⟨c1, r1, hc1⟩, hk1⟩ := hq
  refine v_aload_n dL_law_534 rfl ?_
  refine v_aload_n dL_law_535 rfl ?_
  refine v_iload_n dL_law_536 rfl ?_
  refine v_iconst (v := (nI 1)) dL_law_537 rfl ?_
  refine v_iaddN dL_law_538 ?_
  refine v_sld rfl (by omega) dL_law_539 (by omega) ?_
  refine v_callV (as := [.int (xs (a + 1))]) (st := [.int b9]) dL_law_540 ml_L_87 kv_X4_back ⟨by decide, rfl, by decide⟩ ⟨(Nat.le_of_ble_eq_true rfl), (Nat.le_of_ble_eq_true rfl)⟩ rfl (Nat.le_of_ble_eq_true rfl) rfl (Nat.le_of_ble_eq_true rfl) (h2 M1 (REF_kq href hk1)) (fun v M2 hq => ?_)
  obtain ⟨rfl, hr2, hk2⟩ := hq
  refine v_icmp_eq (tgt := 571) dL_law_543 (by decide) (fun c543 => ?_) (fun c543 => (absurd rfl c543))
  exact l571 (hn M2 T' R' P' Im' tx' t' h3 ⟨c1, r1, CLS_c hc1 (fun i a _ => hk2 i a)⟩ hr2)
set_option maxRecDepth 100000 in
theorem lc_18 (hL : L ≤ 1536) (ha : a + 3 ≤ L) (hcls : CLS c r M T R P Im tx t) (href : REF M T R P Im tx t) (hp : PRR kX3_count kX4_count [.int (xs (a + 1))] T R P Im tx t) (hn : ∀ (M2 : vM) (T' R' : Nat → Int32) (P' : List (Nat → Int32)) (Im' : Nat → Option (Nat → Int32)) (tx' : Nat → Int32) (t' : Nat), IV T' R' P' Im' tx' t' → (∃ c r, CLS c r M2 T' R' P' Im' tx' t') → REF M2 T' R' P' Im' tx' t' → V (kL_law L xs) QL M2 18 [(0, .ref 99), (1, .ref 0), (2, .ref 60), (3, .int (nI (a + 3)))] []) : V (kL_law L xs) (QL) M 548 [(0, .ref 99), (1, .ref 0), (2, .ref 60), (3, .int (nI a))] [] := by
  obtain ⟨b9, T', R', P', Im', tx', t', h1, h2, h3⟩ := hp
  refine v_aload_n dL_law_548 rfl ?_
  refine v_aload_n dL_law_549 rfl ?_
  refine v_iload_n dL_law_550 rfl ?_
  refine v_iconst (v := (nI 1)) dL_law_551 rfl ?_
  refine v_iaddN dL_law_552 ?_
  refine v_sld rfl (by omega) dL_law_553 (by omega) ?_
  refine v_callV (as := [.int (xs (a + 1))]) (st := []) dL_law_554 ml_L_88 kv_X3_count ⟨by decide, rfl, by decide⟩ ⟨(Nat.le_of_ble_eq_true rfl), (Nat.le_of_ble_eq_true rfl)⟩ rfl (Nat.le_of_ble_eq_true rfl) rfl (Nat.le_of_ble_eq_true rfl) (h1 M c r hcls) (fun v M1 hq => ?_)
  obtain ⟨rfl, ⟨c1, r1, hc1⟩, hk1⟩ := hq
  refine v_aload_n dL_law_557 rfl ?_
  refine v_aload_n dL_law_558 rfl ?_
  refine v_iload_n dL_law_559 rfl ?_
  refine v_iconst (v := (nI 1)) dL_law_560 rfl ?_
  refine v_iaddN dL_law_561 ?_
  refine v_sld rfl (by omega) dL_law_562 (by omega) ?_
  refine v_callV (as := [.int (xs (a + 1))]) (st := [.int b9]) dL_law_563 ml_L_91 kv_X4_count ⟨by decide, rfl, by decide⟩ ⟨(Nat.le_of_ble_eq_true rfl), (Nat.le_of_ble_eq_true rfl)⟩ rfl (Nat.le_of_ble_eq_true rfl) rfl (Nat.le_of_ble_eq_true rfl) (h2 M1 (REF_kq href hk1)) (fun v M2 hq => ?_)
  obtain ⟨rfl, hr2, hk2⟩ := hq
  refine v_icmp_eq (tgt := 571) dL_law_566 (by decide) (fun c566 => ?_) (fun c566 => (absurd rfl c566))
  exact l571 (hn M2 T' R' P' Im' tx' t' h3 ⟨c1, r1, CLS_c hc1 (fun i a _ => hk2 i a)⟩ hr2)
set_option maxRecDepth 100000 in
theorem law_loop (hL : L ≤ 1536) (d : Nat) : ∀ (a : Nat) (M : vM) (T R : Nat → Int32) (P : List (Nat → Int32)) (Im : Nat → Option (Nat → Int32)) (tx : Nat → Int32) (t : Nat), L ≤ a + d → a ≤ L + 3 → IV T R P Im tx t → (∃ c r, CLS c r M T R P Im tx t) → REF M T R P Im tx t → V (kL_law L xs) QL M 18 [(0, .ref 99), (1, .ref 0), (2, .ref 60), (3, .int (nI a))] [] := by
  induction d with
  | zero =>
    intro a M T R P Im tx t hd ha3 iv hc href
    refine v_iload_n dL_law_18 rfl ?_
    refine v_aload_n dL_law_19 rfl ?_
    refine v_sln rfl dL_law_20 ?_
    refine v_iconst (v := (nI 3)) dL_law_21 rfl ?_
    refine v_isub dL_law_22 ?_
    refine v_icmp_gt (tgt := 577) dL_law_23 (by decide) (fun c23 => ?_) (fun c23 => (absurd ((sub3 hL (by omega)).mpr (by omega)) c23))
    refine v_iconst (v := (nI 1)) dL_law_577 rfl ?_
    refine v_zret dL_law_578 rfl (Or.inr rfl) ?_
    exact rfl
  | succ d ih =>
    intro a M T R P Im tx t hd ha3 iv hc href
    refine v_iload_n dL_law_18 rfl ?_
    refine v_aload_n dL_law_19 rfl ?_
    refine v_sln rfl dL_law_20 ?_
    refine v_iconst (v := (nI 3)) dL_law_21 rfl ?_
    refine v_isub dL_law_22 ?_
    refine v_icmp_gt (tgt := 577) dL_law_23 (by decide) (fun c23 => ?_) (fun c23 => ?_)
    · refine v_iconst (v := (nI 1)) dL_law_577 rfl ?_
      refine v_zret dL_law_578 rfl (Or.inr rfl) ?_
      exact rfl
    · have ha : a + 3 ≤ L := Nat.not_lt.mp (fun z => c23 ((sub3 hL (by omega)).mpr z))
      refine v_aload_n dL_law_26 rfl ?_
      refine v_iload_n dL_law_27 rfl ?_
      refine v_sld rfl (by omega) dL_law_28 (by omega) ?_
      refine v_bipush (v := (nI 31)) dL_law_29 rfl ?_
      refine v_iand dL_law_31 ?_
      obtain ⟨j, hj, e9⟩ := and31 (xs a)
      refine v_top e9 ?_
      obtain ⟨c, r, hcls⟩ := hc
      have hn : ∀ (M2 : vM) (T' R' : Nat → Int32) (P' : List (Nat → Int32)) (Im' : Nat → Option (Nat → Int32)) (tx' : Nat → Int32) (t' : Nat), IV T' R' P' Im' tx' t' → (∃ c r, CLS c r M2 T' R' P' Im' tx' t') → REF M2 T' R' P' Im' tx' t' → V (kL_law L xs) QL M2 18 [(0, .ref 99), (1, .ref 0), (2, .ref 60), (3, .int (nI (a + 3)))] [] := fun M2 T' R' P' Im' tx' t' i1 i2 i3 => ih (a + 3) M2 T' R' P' Im' tx' t' (by omega) (by omega) i1 i2 i3
      by_cases hj19 : j < 19
      · rcases (show j = 0 ∨ j = 1 ∨ j = 2 ∨ j = 3 ∨ j = 4 ∨ j = 5 ∨ j = 6 ∨ j = 7 ∨ j = 8 ∨ j = 9 ∨ j = 10 ∨ j = 11 ∨ j = 12 ∨ j = 13 ∨ j = 14 ∨ j = 15 ∨ j = 16 ∨ j = 17 ∨ j = 18 by omega) with rfl | rfl | rfl | rfl | rfl | rfl | rfl | rfl | rfl | rfl | rfl | rfl | rfl | rfl | rfl | rfl | rfl | rfl | rfl
        · exact v_tabIn (tgt := 124) (off := 92) dL_law_32 (by decide) (by decide) (by decide) (by decide) (lc_0 hL ha hcls href (pr_type iv (xs (a + 1))) hn)
        · exact v_tabIn (tgt := 147) (off := 115) dL_law_32 (by decide) (by decide) (by decide) (by decide) (lc_1 hL ha hcls href (pr_clear iv) hn)
        · exact v_tabIn (tgt := 160) (off := 128) dL_law_32 (by decide) (by decide) (by decide) (by decide) (lc_2 hL ha hcls href (pr_tells iv) hn)
        · exact v_tabIn (tgt := 173) (off := 141) dL_law_32 (by decide) (by decide) (by decide) (by decide) (lc_3 hL ha hcls href (pr_needs iv (xs (a + 1))) hn)
        · exact v_tabIn (tgt := 196) (off := 164) dL_law_32 (by decide) (by decide) (by decide) (by decide) (lc_4 hL ha hcls href (pr_wishes iv (xs (a + 1)) (xs (a + 2))) hn)
        · exact v_tabIn (tgt := 229) (off := 197) dL_law_32 (by decide) (by decide) (by decide) (by decide) (lc_5 hL ha hcls href (pr_ticks iv (xs (a + 1))) hn)
        · exact v_tabIn (tgt := 252) (off := 220) dL_law_32 (by decide) (by decide) (by decide) (by decide) (lc_6 hL ha hcls href (pr_undo iv) hn)
        · exact v_tabIn (tgt := 265) (off := 233) dL_law_32 (by decide) (by decide) (by decide) (by decide) (lc_7 hL ha hcls href (pr_node iv (xs (a + 1)) (xs (a + 2))) hn)
        · exact v_tabIn (tgt := 298) (off := 266) dL_law_32 (by decide) (by decide) (by decide) (by decide) (lc_8 hL ha hcls href (pr_register iv (xs (a + 1)) (xs (a + 2))) hn)
        · exact v_tabIn (tgt := 331) (off := 299) dL_law_32 (by decide) (by decide) (by decide) (by decide) (lc_9 hL ha hcls href (pr_crossing iv (xs (a + 1))) hn)
        · exact v_tabIn (tgt := 354) (off := 322) dL_law_32 (by decide) (by decide) (by decide) (by decide) (lc_10 hL ha hcls href (pr_kinds iv (xs (a + 1))) hn)
        · exact v_tabIn (tgt := 377) (off := 345) dL_law_32 (by decide) (by decide) (by decide) (by decide) (lc_11 hL ha hcls href (pr_join iv (xs (a + 1)) (xs (a + 2))) hn)
        · exact v_tabIn (tgt := 410) (off := 378) dL_law_32 (by decide) (by decide) (by decide) (by decide) (lc_12 hL ha hcls href (pr_risk iv) hn)
        · exact v_tabIn (tgt := 423) (off := 391) dL_law_32 (by decide) (by decide) (by decide) (by decide) (lc_13 hL ha hcls href (pr_period iv (xs (a + 1))) hn)
        · exact v_tabIn (tgt := 446) (off := 414) dL_law_32 (by decide) (by decide) (by decide) (by decide) (lc_14 hL ha hcls href (pr_wish iv (xs (a + 1))) hn)
        · exact v_tabIn (tgt := 469) (off := 437) dL_law_32 (by decide) (by decide) (by decide) (by decide) (lc_15 hL ha hcls href (pr_when iv (xs (a + 1)) (xs (a + 2))) hn)
        · exact v_tabIn (tgt := 502) (off := 470) dL_law_32 (by decide) (by decide) (by decide) (by decide) (lc_16 hL ha hcls href (pr_keep iv (xs (a + 1))) hn)
        · exact v_tabIn (tgt := 525) (off := 493) dL_law_32 (by decide) (by decide) (by decide) (by decide) (lc_17 hL ha hcls href (pr_back iv (xs (a + 1))) hn)
        · exact v_tabIn (tgt := 548) (off := 516) dL_law_32 (by decide) (by decide) (by decide) (by decide) (lc_18 hL ha hcls href (pr_count iv (xs (a + 1))) hn)
      · exact v_tabOut (tgt := 571) dL_law_32 (Or.inr (by rw [nI_toInt (by omega)]; omega)) (by decide) (l571 (hn M T R P Im tx t iv ⟨c, r, hcls⟩ href))
end C62
