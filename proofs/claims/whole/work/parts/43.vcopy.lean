/-! V: System.arraycopy, FIRST_PERIODS -/
theorem ac_static : Cond.static arraycopyName ∈ wg := wgi 281 (by decide +kernel) (by decide +kernel)
theorem ac_native : Cond.native arraycopyName ∈ wg := wgi 282 (by decide +kernel) (by decide +kernel)
theorem ac_init : Cond.initialized "java/lang/System" ∈ wg := wgi 86 (by decide +kernel) (by decide +kernel)
theorem ac_X0 : Cond.methodLink RX0 54 arraycopyName ∈ wg := wgi 280 (by decide +kernel) (by decide +kernel)
theorem ac_X1 : Cond.methodLink RX1 31 arraycopyName ∈ wg := wgi 438 (by decide +kernel) (by decide +kernel)
theorem fp_X0 : Cond.fieldLinkNest RX0 36 "ClockCrossings" "FIRST_PERIODS" "[I" "ClockCrossings" ∈ nw := nwi 58 (by decide +kernel) (by decide +kernel)
theorem mrow_mrow (M : vM) (a : Nat) (f g : Nat → Int32) : mrow (mrow M a f) a g = mrow M a g := by
  funext i
  by_cases h : i = a
  · rw [h, mrow_eq, mrow_eq]
  · rw [mrow_ne h, mrow_ne h, mrow_ne h]
section V43
variable {k : vK} {Q : Option Value → vM → Prop} {M : vM} {pc : Nat} {lv : List (Nat × Value)} {st : List Value}
theorem v_acopy {i j n idx : Nat} (d : decode k.2.1 pc = .ok (.invokestatic idx, 3)) (hw : Cond.methodLink k.1.cls idx arraycopyName ∈ wg) (ai : AR 10 i n) (aj : AR 10 j n) (hf : 1 ≤ k.2.2.2.2.1) (hlo : (st.map fun v => v.category).sum + (nativeFrameWords "java/lang/System" "arraycopy" 5 + 11) ≤ k.2.2.2.2.2.1)
    (h : V k Q (mrow M j (M i)) (pc + 3) lv st) : V k Q M pc lv (.int (nI n) :: .int (nI 0) :: .ref j :: .int (nI 0) :: .ref i :: st) := by
  have hn := ar_sz ai
  have h' : V k Q (mrow M j (va_cpy (M i) (M j) 0 0 n)) (pc + 3) lv st := by
    refine v_row aj (by decide) (by decide) (M i) (fun q hq => ?_) (by rw [mrow_mrow]; exact h)
    rw [mrow_eq]
    simp only [va_cpy]
    rw [if_pos (by omega)]
    congr 1; omega
  intro Z A p l e R s m args below meth c cells slots Qw C Rt H locs ls hP hS hl
  have hgi := wl_get Z M ai.1
  rw [cell_ar ai (by decide) (by decide)] at hgi
  have hgj := wl_get Z M aj.1
  rw [cell_ar aj (by decide) (by decide)] at hgj
  have hD := wl_D (Z := Z) M C.2.2.2.2.2.2.2.2.1 C.2.2.2.2.2.2.2.2.2.1
  refine va_copyi C.1 C.2.1 (C.2.2.1.trans hl.1.symm) C.2.2.2.1 (C.2.2.2.2.1 _ hw) (C.2.2.2.2.1 _ ac_native) (C.2.2.2.2.1 _ ac_static) (C.2.2.2.2.1 _ ac_init) C.2.2.2.2.2.2.1 hP hD hS i j 0 0 hgi hgj rfl rfl rfl (by decide) (by decide) (nI_pos hn) (by rw [nI_clamp hn, show (nI 0).toNatClampNeg = 0 from rfl]; omega) (by rw [nI_clamp hn, show (nI 0).toNatClampNeg = 0 from rfl]; omega) (fun _ _ => rfl) (Nat.le_trans hf C.2.2.2.2.2.2.2.1.1) (by rw [cat_mv]; exact Nat.le_trans hlo C.2.2.2.2.2.2.2.1.2.1) d (fun H1 locs1 hP1 _ hS1 => ?_)
  rw [nI_clamp hn, show (nI 0).toNatClampNeg = 0 from rfl, wl_set Z (M' := mrow M j (va_cpy (M i) (M j) 0 0 n)) aj.1 (fun q hq => mrow_ne hq) (by rw [cell_ar aj (by decide) (by decide), mrow_eq])] at hP1
  exact h' Z A p l e R s m args below meth c cells slots Qw C Rt H1 locs1 ls hP1 hS1 hl
theorem v_gets97 {idx : Nat} (d : decode k.2.1 pc = .ok (.getstatic idx, 3)) (hw : Cond.fieldLinkNest k.1.cls idx "ClockCrossings" "FIRST_PERIODS" "[I" "ClockCrossings" ∈ nw) (h : V k Q M (pc + 3) lv (.ref 97 :: st)) : V k Q M pc lv st := by
  intro Z A p l e R s m args below meth c cells slots Qw C Rt H locs ls hP hS hl
  exact va_getsN C.1 C.2.1 C.2.2.2.2.2.2.2.2.2.2.1.1 hS C.2.2.2.1 (va_Nw.use rfl (C.2.2.2.2.2.1 _ hw)) (fun _ q => q) d (h Z A p l e R s m args below meth c cells slots Qw C Rt H locs ls hP hS hl)
end V43
section V43b
variable {p : Program} {l : Launch} {e : Env} {R : Room} {s : State} {m : MethodId} {args : Array Value} {below : List Frame} {meth : Method} {c : Code} {H : Heap} {locs : List Loc} {cells slots : Nat} {Q : State → Prop}
variable {cc : ByteArray} {pc : Nat} {ls : Array Slot} {rest : List Value} {D : va_G} {cl : List vw_C} {A : Nat → Prop} {a : Nat} {tys : List (ClassId × FieldType)} {ws : va_W}
theorem copyTi (hexec : p.tables.exec = Jvm.exec) (hb : c.code = cc) (hml : c.maxLocals = ls.size) {own : String} {index : Nat} (hown : s.vm.findClass own = some m.cls) (hlink : (Cond.methodLink own index arraycopyName).before args s = true) (hnat : (Cond.native arraycopyName).before args s = true) (hstat : (Cond.static arraycopyName).before args s = true) (hini : (Cond.initialized "java/lang/System").before args s = true)
    (hK : va_K D cl tys s) (hP : va_P D cl ws H) (hD : va_D A ws) (hS : va_S A s.heap H locs) {b0 n0 : Nat} {f : Nat → Int32} (hX : va_T .int b0 n0 (fun j => .int (f j)) A s s.heap) (q1 t1 : Nat) {c1 : ClassId} {n1 : Nat} {g : Nat → Int32} (ha1 : ws[q1]? = some (a, .inl (c1, n1, .inl g))) (ht1 : tys[t1]? = some (c1, .int))
    {sp dp n : Int32} (h1 : ¬ sp < 0) (h2 : ¬ dp < 0) (h3 : ¬ n < 0) (h4 : sp.toNatClampNeg + n.toNatClampNeg ≤ n0) (h5 : dp.toNatClampNeg + n.toNatClampNeg ≤ n1)
    (hframes : 1 ≤ R.frames) (hlocals : (rest.map fun v => v.category).sum + (nativeFrameWords "java/lang/System" "arraycopy" 5 + 11) ≤ R.locals) (hdg : decode cc pc = .ok (.invokestatic index, 3))
    (kk : ∀ (H1 : Heap) (locs1 : List Loc), va_P D cl (ws.set q1 (a, .inl (c1, n1, .inl (va_cpy f g sp.toNatClampNeg dp.toNatClampNeg n.toNatClampNeg)))) H1 → va_S A s.heap H1 locs1 → W p l e R s m args below meth c H1 locs1 cells slots Q (F0 m (pc + 3) ls rest)) : W p l e R s m args below meth c H locs cells slots Q (F0 m pc ls (.int n :: .int dp :: .ref a :: .int sp :: .ref b0 :: rest)) := by
  have nn : ∀ z : Int32, ¬ z < 0 → z.toInt = (z.toNatClampNeg : Int) := by
    intro z hz
    have hz0 : (0 : Int) ≤ z.toInt := by
      have := Int32.not_lt.mp hz
      simpa using Int32.le_iff_toInt_le.mp this
    show z.toInt = ((z.toInt.toNat : Nat) : Int)
    omega
  intro T hT X
  obtain ⟨scr, hs1, hs2, hs3, hs4, -, hs5, hs7⟩ := hX
  have hc0 : H[b0]? = some scr := by rw [hS.2.1 b0 (Array.getElem?_eq_some_iff.mp hs1).1 hs7]; exact hs1
  have hc1 : H[a]? = some (vp_cell c1 (n1, .inl g)) := hP q1 _ ha1
  obtain ⟨hs6, k0, hk0, cm0, hkk0⟩ := hs2
  obtain ⟨-, k1, hk1, cm1, hkk1⟩ := (hK.2 t1 _ ht1).1 n1 (fun j => .int (g j))
  obtain ⟨vm', X', step⟩ := X.arraycopy hexec hown hlink hnat hstat hini (src := b0) (dst := a) (cs := scr) (cd := vp_cell c1 (n1, .inl g)) (srcPos := sp) (destPos := dp) (n := n) (by rw [hT]; exact hc0) (by rw [hT]; exact hc1)
    hs6 (fun _ h => by cases h) hs3 (fun h => by cases h) hk0 hk1 hkk0 hkk1 (by simp [refKind]) h1 h2 h3
    (by rw [nn sp h1, nn n h3]; omega)
    (by rw [nn dp h2, nn n h3]; show ¬ _ > ((arrV c1 n1 (fun j => .int (g j))).slots.size : Int); rw [arrV_size]; omega)
    (fun vm₁ _ i hi => by
      have e : scr.slots.getD (sp.toNatClampNeg + i) .null = .int (f (sp.toNatClampNeg + i)) := by
        rw [Array.getD_eq_getD_getElem?, hs5 _ (by omega)]
        rfl
      refine ⟨?_, ?_⟩
      · rw [e]
        rfl
      · rw [e]
        exact trivial)
    (g := F0 m pc ls (.int n :: .int dp :: .ref a :: .int sp :: .ref b0 :: rest)) rfl (by rw [hml]) (rest := rest) rfl (by rw [hb]; exact hdg) hframes (by show 2 * 0 + _ + _ ≤ _; omega)
  have e1 : copied scr (vp_cell c1 (n1, .inl g)) sp dp n = vp_cell c1 (n1, .inl (va_cpy f g sp.toNatClampNeg dp.toNatClampNeg n.toNatClampNeg)) := va_copiedX (fun z => .int z) scr c1 f g hs5 h4
  rw [e1] at X' step
  have hl : a < H.size := (Array.getElem?_eq_some_iff.mp hc1).1
  have hheap : ((T.setVm vm').setCell a (vp_cell c1 (n1, .inl (va_cpy f g sp.toNatClampNeg dp.toNatClampNeg n.toNatClampNeg)))).heap = H.setIfInBounds a (vp_cell c1 (n1, .inl (va_cpy f g sp.toNatClampNeg dp.toNatClampNeg n.toNatClampNeg))) := by rw [← hT]; rfl
  have oq : ∀ q : Nat, q ≠ a → (H.setIfInBounds a (vp_cell c1 (n1, .inl (va_cpy f g sp.toNatClampNeg dp.toNatClampNeg n.toNatClampNeg))))[q]? = H[q]? := fun q hq => by simp [Array.getElem?_setIfInBounds, Ne.symm hq]
  obtain ⟨t, a1, b1⟩ := kk _ _ (hP.set hD ha1 (show (H.setIfInBounds a _)[a]? = some _ by simp [Array.getElem?_setIfInBounds, hl]) oq) ⟨by simp; exact hS.1, fun q g1 g2 => by
      rw [oq q (fun e => g2 (by rw [e]; exact hD.2 q1 _ ha1))]
      exact hS.2.1 q g1 g2, fun q hq => by
      rcases List.mem_append.mp hq with h | h
      · exact hS.2.2 q h
      · obtain ⟨z, -, hz⟩ := List.mem_map.mp h
        rw [← hz]
        exact hD.2 q1 _ ha1⟩ _ hheap X'
  exact ⟨t, step t a1, b1⟩
end V43b
section V43c
variable {k : vK} {Q : Option Value → vM → Prop} {M : vM} {pc : Nat} {lv : List (Nat × Value)} {st : List Value}
theorem v_acopyP {j idx : Nat} (d : decode k.2.1 pc = .ok (.invokestatic idx, 3)) (hw : Cond.methodLink k.1.cls idx arraycopyName ∈ wg) (aj : AR 10 j 3) (hf : 1 ≤ k.2.2.2.2.1) (hlo : (st.map fun v => v.category).sum + (nativeFrameWords "java/lang/System" "arraycopy" 5 + 11) ≤ k.2.2.2.2.2.1)
    (h : V k Q (mrow M j xper) (pc + 3) lv st) : V k Q M pc lv (.int (nI 3) :: .int (nI 0) :: .ref j :: .int (nI 0) :: .ref 97 :: st) := by
  have h' : V k Q (mrow M j (va_cpy xper (M j) 0 0 3)) (pc + 3) lv st := by
    refine v_row aj (by decide) (by decide) xper (fun q hq => ?_) (by rw [mrow_mrow]; exact h)
    rw [mrow_eq]
    simp only [va_cpy]
    rw [if_pos (by omega)]
    congr 1; omega
  intro Z A p l e R s m args below meth c cells slots Qw C Rt H locs ls hP hS hl
  have hgj := wl_get Z M aj.1
  rw [cell_ar aj (by decide) (by decide)] at hgj
  have hD := wl_D (Z := Z) M C.2.2.2.2.2.2.2.2.1 C.2.2.2.2.2.2.2.2.2.1
  refine copyTi C.1 C.2.1 (C.2.2.1.trans hl.1.symm) C.2.2.2.1 (C.2.2.2.2.1 _ hw) (C.2.2.2.2.1 _ ac_native) (C.2.2.2.2.1 _ ac_static) (C.2.2.2.2.1 _ ac_init) C.2.2.2.2.2.2.1 hP hD hS C.2.2.2.2.2.2.2.2.2.2.1.2.1 j 0 hgj rfl (by decide) (by decide) (by decide) (by decide) (by decide) (Nat.le_trans hf C.2.2.2.2.2.2.2.1.1) (by rw [cat_mv]; exact Nat.le_trans hlo C.2.2.2.2.2.2.2.1.2.1) d (fun H1 locs1 hP1 hS1 => ?_)
  rw [show (nI 3).toNatClampNeg = 3 from rfl, show (nI 0).toNatClampNeg = 0 from rfl, wl_set Z (M' := mrow M j (va_cpy xper (M j) 0 0 3)) aj.1 (fun q hq => mrow_ne hq) (by rw [cell_ar aj (by decide) (by decide), mrow_eq])] at hP1
  exact h' Z A p l e R s m args below meth c cells slots Qw C Rt H1 locs1 ls hP1 hS1 hl
end V43c
