section V5
variable {k : vK} {Q : Option Value → vM → Prop} {M : vM} {pc : Nat} {lv lv' : List (Nat × Value)} {st : List Value}
theorem v_iconst {n : Int} {v : Int32} (d : decode k.2.1 pc = .ok (.iconst n, 1)) (hv : Int32.ofInt n = v) (h : V k Q M (pc + 1) lv (.int v :: st)) : V k Q M pc lv (st) := by
  intro Z A p l e R s m args below meth c cells slots Qw C Rt H locs ls hP hS hl
  exact lv_iconst C.1 C.2.1 d hv (h Z A p l e R s m args below meth c cells slots Qw C Rt H locs ls hP hS hl)
theorem v_bipush {n : Int} {v : Int32} (d : decode k.2.1 pc = .ok (.bipush n, 2)) (hv : (Int8.ofInt n).toInt32 = v) (h : V k Q M (pc + 2) lv (.int v :: st)) : V k Q M pc lv (st) := by
  intro Z A p l e R s m args below meth c cells slots Qw C Rt H locs ls hP hS hl
  exact lv_bipush C.1 C.2.1 d hv (h Z A p l e R s m args below meth c cells slots Qw C Rt H locs ls hP hS hl)
theorem v_sipush {n : Int} {v : Int32} (d : decode k.2.1 pc = .ok (.sipush n, 3)) (hv : (Int16.ofInt n).toInt32 = v) (h : V k Q M (pc + 3) lv (.int v :: st)) : V k Q M pc lv (st) := by
  intro Z A p l e R s m args below meth c cells slots Qw C Rt H locs ls hP hS hl
  exact lv_sipush C.1 C.2.1 d hv (h Z A p l e R s m args below meth c cells slots Qw C Rt H locs ls hP hS hl)
theorem v_iload_n {kk : Fin 4} {x : Int32} (d : decode k.2.1 pc = .ok (.iload_n kk, 1)) (hx : lget lv kk.val = some (.int x)) (h : V k Q M (pc + 1) lv (.int x :: st)) : V k Q M pc lv (st) := by
  intro Z A p l e R s m args below meth c cells slots Qw C Rt H locs ls hP hS hl
  exact lv_iload_n C.1 C.2.1 d rfl (lget_at hl hx) (h Z A p l e R s m args below meth c cells slots Qw C Rt H locs ls hP hS hl)
theorem v_iload {i : Nat} {x : Int32} (d : decode k.2.1 pc = .ok (.iload i, 2)) (hx : lget lv i = some (.int x)) (h : V k Q M (pc + 2) lv (.int x :: st)) : V k Q M pc lv (st) := by
  intro Z A p l e R s m args below meth c cells slots Qw C Rt H locs ls hP hS hl
  exact lv_iload C.1 C.2.1 d (lget_at hl hx) (h Z A p l e R s m args below meth c cells slots Qw C Rt H locs ls hP hS hl)
theorem v_istore_n {kk : Fin 4} {x : Int32} (d : decode k.2.1 pc = .ok (.istore_n kk, 1)) (hn : kk.val < k.2.2.1) (hl' : lset lv kk.val (.int x) = lv') (h : V k Q M (pc + 1) lv' st) : V k Q M pc lv (.int x :: st) := by
  intro Z A p l e R s m args below meth c cells slots Qw C Rt H locs ls hP hS hl
  subst hl'
  exact lv_istore_n C.1 C.2.1 d rfl hl hn rfl (fun ls hl => h Z A p l e R s m args below meth c cells slots Qw C Rt H locs ls hP hS (lset_has hl))
theorem v_istore {i : Nat} {x : Int32} (d : decode k.2.1 pc = .ok (.istore i, 2)) (hn : i < k.2.2.1) (hl' : lset lv i (.int x) = lv') (h : V k Q M (pc + 2) lv' st) : V k Q M pc lv (.int x :: st) := by
  intro Z A p l e R s m args below meth c cells slots Qw C Rt H locs ls hP hS hl
  subst hl'
  exact lv_istore C.1 C.2.1 d hl hn rfl (fun ls hl => h Z A p l e R s m args below meth c cells slots Qw C Rt H locs ls hP hS (lset_has hl))
theorem v_aload_n {kk : Fin 4} {x : Nat} (d : decode k.2.1 pc = .ok (.aload_n kk, 1)) (hx : lget lv kk.val = some (.ref x)) (h : V k Q M (pc + 1) lv (.ref x :: st)) : V k Q M pc lv (st) := by
  intro Z A p l e R s m args below meth c cells slots Qw C Rt H locs ls hP hS hl
  exact lv_aload_n C.1 C.2.1 d rfl (lget_at hl hx) (h Z A p l e R s m args below meth c cells slots Qw C Rt H locs ls hP hS hl)
theorem v_aload {i : Nat} {x : Nat} (d : decode k.2.1 pc = .ok (.aload i, 2)) (hx : lget lv i = some (.ref x)) (h : V k Q M (pc + 2) lv (.ref x :: st)) : V k Q M pc lv (st) := by
  intro Z A p l e R s m args below meth c cells slots Qw C Rt H locs ls hP hS hl
  exact lv_aload C.1 C.2.1 d (lget_at hl hx) (h Z A p l e R s m args below meth c cells slots Qw C Rt H locs ls hP hS hl)
theorem v_astore_n {kk : Fin 4} {x : Nat} (d : decode k.2.1 pc = .ok (.astore_n kk, 1)) (hn : kk.val < k.2.2.1) (hl' : lset lv kk.val (.ref x) = lv') (h : V k Q M (pc + 1) lv' st) : V k Q M pc lv (.ref x :: st) := by
  intro Z A p l e R s m args below meth c cells slots Qw C Rt H locs ls hP hS hl
  subst hl'
  exact lv_astore_n C.1 C.2.1 d rfl hl hn rfl (fun ls hl => h Z A p l e R s m args below meth c cells slots Qw C Rt H locs ls hP hS (lset_has hl))
theorem v_astore {i : Nat} {x : Nat} (d : decode k.2.1 pc = .ok (.astore i, 2)) (hn : i < k.2.2.1) (hl' : lset lv i (.ref x) = lv') (h : V k Q M (pc + 2) lv' st) : V k Q M pc lv (.ref x :: st) := by
  intro Z A p l e R s m args below meth c cells slots Qw C Rt H locs ls hP hS hl
  subst hl'
  exact lv_astore C.1 C.2.1 d hl hn rfl (fun ls hl => h Z A p l e R s m args below meth c cells slots Qw C Rt H locs ls hP hS (lset_has hl))
theorem v_fload_n {kk : Fin 4} {x : UInt32} (d : decode k.2.1 pc = .ok (.fload_n kk, 1)) (hx : lget lv kk.val = some (.float x)) (h : V k Q M (pc + 1) lv (.float x :: st)) : V k Q M pc lv (st) := by
  intro Z A p l e R s m args below meth c cells slots Qw C Rt H locs ls hP hS hl
  exact lv_fload_n C.1 C.2.1 d rfl (lget_at hl hx) (h Z A p l e R s m args below meth c cells slots Qw C Rt H locs ls hP hS hl)
theorem v_fload {i : Nat} {x : UInt32} (d : decode k.2.1 pc = .ok (.fload i, 2)) (hx : lget lv i = some (.float x)) (h : V k Q M (pc + 2) lv (.float x :: st)) : V k Q M pc lv (st) := by
  intro Z A p l e R s m args below meth c cells slots Qw C Rt H locs ls hP hS hl
  exact lv_fload C.1 C.2.1 d (lget_at hl hx) (h Z A p l e R s m args below meth c cells slots Qw C Rt H locs ls hP hS hl)
theorem v_fstore_n {kk : Fin 4} {x : UInt32} (d : decode k.2.1 pc = .ok (.fstore_n kk, 1)) (hn : kk.val < k.2.2.1) (hl' : lset lv kk.val (.float x) = lv') (h : V k Q M (pc + 1) lv' st) : V k Q M pc lv (.float x :: st) := by
  intro Z A p l e R s m args below meth c cells slots Qw C Rt H locs ls hP hS hl
  subst hl'
  exact lv_fstore_n C.1 C.2.1 d rfl hl hn rfl (fun ls hl => h Z A p l e R s m args below meth c cells slots Qw C Rt H locs ls hP hS (lset_has hl))
theorem v_fstore {i : Nat} {x : UInt32} (d : decode k.2.1 pc = .ok (.fstore i, 2)) (hn : i < k.2.2.1) (hl' : lset lv i (.float x) = lv') (h : V k Q M (pc + 2) lv' st) : V k Q M pc lv (.float x :: st) := by
  intro Z A p l e R s m args below meth c cells slots Qw C Rt H locs ls hP hS hl
  subst hl'
  exact lv_fstore C.1 C.2.1 d hl hn rfl (fun ls hl => h Z A p l e R s m args below meth c cells slots Qw C Rt H locs ls hP hS (lset_has hl))
theorem v_iinc {i : Nat} {n : Int} {x v : Int32} (d : decode k.2.1 pc = .ok (.iinc i n, 3)) (hx : lget lv i = some (.int x)) (hv : x + Int32.ofInt n = v) (hn : i < k.2.2.1) (hl' : lset lv i (.int v) = lv') (h : V k Q M (pc + 3) lv' st) : V k Q M pc lv st := by
  intro Z A p l e R s m args below meth c cells slots Qw C Rt H locs ls hP hS hl
  subst hl'
  obtain ⟨j, hj⟩ := List.getElem?_of_mem (List.mem_map.mpr ⟨(i, Value.int x), lget_mem hx, rfl⟩ : ml Z.1 (i, Value.int x) ∈ lv.map (ml Z.1))
  exact lv_iinc C.1 C.2.1 d hl hj hv hn rfl (fun ls hl => h Z A p l e R s m args below meth c cells slots Qw C Rt H locs ls hP hS (lset_has (v := .int v) hl))
theorem v_iadd {x y : Int32} (d : decode k.2.1 pc = .ok (.iadd, 1)) (h : V k Q M (pc + 1) lv (.int (x + y) :: st)) : V k Q M pc lv (.int y :: .int x :: st) := by
  intro Z A p l e R s m args below meth c cells slots Qw C Rt H locs ls hP hS hl
  exact lv_iadd C.1 C.2.1 d (h Z A p l e R s m args below meth c cells slots Qw C Rt H locs ls hP hS hl)
theorem v_isub {x y : Int32} (d : decode k.2.1 pc = .ok (.isub, 1)) (h : V k Q M (pc + 1) lv (.int (x - y) :: st)) : V k Q M pc lv (.int y :: .int x :: st) := by
  intro Z A p l e R s m args below meth c cells slots Qw C Rt H locs ls hP hS hl
  exact lv_isub C.1 C.2.1 d (h Z A p l e R s m args below meth c cells slots Qw C Rt H locs ls hP hS hl)
theorem v_imul {x y : Int32} (d : decode k.2.1 pc = .ok (.imul, 1)) (h : V k Q M (pc + 1) lv (.int (x * y) :: st)) : V k Q M pc lv (.int y :: .int x :: st) := by
  intro Z A p l e R s m args below meth c cells slots Qw C Rt H locs ls hP hS hl
  exact lv_imul C.1 C.2.1 d (h Z A p l e R s m args below meth c cells slots Qw C Rt H locs ls hP hS hl)
theorem v_iand {x y : Int32} (d : decode k.2.1 pc = .ok (.iand, 1)) (h : V k Q M (pc + 1) lv (.int (x &&& y) :: st)) : V k Q M pc lv (.int y :: .int x :: st) := by
  intro Z A p l e R s m args below meth c cells slots Qw C Rt H locs ls hP hS hl
  exact lv_iand C.1 C.2.1 d (h Z A p l e R s m args below meth c cells slots Qw C Rt H locs ls hP hS hl)
theorem v_ior {x y : Int32} (d : decode k.2.1 pc = .ok (.ior, 1)) (h : V k Q M (pc + 1) lv (.int (x ||| y) :: st)) : V k Q M pc lv (.int y :: .int x :: st) := by
  intro Z A p l e R s m args below meth c cells slots Qw C Rt H locs ls hP hS hl
  exact lv_ior C.1 C.2.1 d (h Z A p l e R s m args below meth c cells slots Qw C Rt H locs ls hP hS hl)
theorem v_ixor {x y : Int32} (d : decode k.2.1 pc = .ok (.ixor, 1)) (h : V k Q M (pc + 1) lv (.int (x ^^^ y) :: st)) : V k Q M pc lv (.int y :: .int x :: st) := by
  intro Z A p l e R s m args below meth c cells slots Qw C Rt H locs ls hP hS hl
  exact lv_ixor C.1 C.2.1 d (h Z A p l e R s m args below meth c cells slots Qw C Rt H locs ls hP hS hl)
theorem v_ishl {x y : Int32} (d : decode k.2.1 pc = .ok (.ishl, 1)) (h : V k Q M (pc + 1) lv (.int (x <<< (y &&& 31)) :: st)) : V k Q M pc lv (.int y :: .int x :: st) := by
  intro Z A p l e R s m args below meth c cells slots Qw C Rt H locs ls hP hS hl
  exact lv_ishl C.1 C.2.1 d (h Z A p l e R s m args below meth c cells slots Qw C Rt H locs ls hP hS hl)
theorem v_ishr {x y : Int32} (d : decode k.2.1 pc = .ok (.ishr, 1)) (h : V k Q M (pc + 1) lv (.int (x >>> (y &&& 31)) :: st)) : V k Q M pc lv (.int y :: .int x :: st) := by
  intro Z A p l e R s m args below meth c cells slots Qw C Rt H locs ls hP hS hl
  exact lv_ishr C.1 C.2.1 d (h Z A p l e R s m args below meth c cells slots Qw C Rt H locs ls hP hS hl)
theorem v_irem {x y : Int32} (d : decode k.2.1 pc = .ok (.irem, 1)) (hy : ¬ y = 0) (h : V k Q M (pc + 1) lv (.int (x - x / y * y) :: st)) : V k Q M pc lv (.int y :: .int x :: st) := by
  intro Z A p l e R s m args below meth c cells slots Qw C Rt H locs ls hP hS hl
  exact lv_irem C.1 C.2.1 d hy (h Z A p l e R s m args below meth c cells slots Qw C Rt H locs ls hP hS hl)
theorem v_iushr {x y v : Int32} (d : decode k.2.1 pc = .ok (.iushr, 1)) (hv : (x.toUInt32 >>> (y.toUInt32 &&& Int32.toUInt32 31)).toInt32 = v) (h : V k Q M (pc + 1) lv (.int v :: st)) : V k Q M pc lv (.int y :: .int x :: st) := by
  intro Z A p l e R s m args below meth c cells slots Qw C Rt H locs ls hP hS hl
  exact lv_iushr C.1 C.2.1 d hv (h Z A p l e R s m args below meth c cells slots Qw C Rt H locs ls hP hS hl)
theorem v_i2c {x v : Int32} (d : decode k.2.1 pc = .ok (.i2c, 1)) (hv : (x.toUInt32 % 65536).toInt32 = v) (h : V k Q M (pc + 1) lv (.int v :: st)) : V k Q M pc lv (.int x :: st) := by
  intro Z A p l e R s m args below meth c cells slots Qw C Rt H locs ls hP hS hl
  exact lv_i2c C.1 C.2.1 d hv (h Z A p l e R s m args below meth c cells slots Qw C Rt H locs ls hP hS hl)
theorem v_dup {va : Value} (d : decode k.2.1 pc = .ok (.dup, 1)) (hc : va.category = 1) (h : V k Q M (pc + 1) lv (va :: va :: st)) : V k Q M pc lv (va :: st) := by
  intro Z A p l e R s m args below meth c cells slots Qw C Rt H locs ls hP hS hl
  exact lv_dup C.1 C.2.1 d ((mv_cat Z.1 va).trans hc) (h Z A p l e R s m args below meth c cells slots Qw C Rt H locs ls hP hS hl)
theorem v_pop {va : Value} (d : decode k.2.1 pc = .ok (.pop, 1)) (hc : va.category = 1) (h : V k Q M (pc + 1) lv (st)) : V k Q M pc lv (va :: st) := by
  intro Z A p l e R s m args below meth c cells slots Qw C Rt H locs ls hP hS hl
  exact lv_pop C.1 C.2.1 d ((mv_cat Z.1 va).trans hc) (h Z A p l e R s m args below meth c cells slots Qw C Rt H locs ls hP hS hl)
theorem v_dup2 {va vb : Value} (d : decode k.2.1 pc = .ok (.dup2, 1)) (hc : va.category = 1) (hd : vb.category = 1) (h : V k Q M (pc + 1) lv (va :: vb :: va :: vb :: st)) : V k Q M pc lv (va :: vb :: st) := by
  intro Z A p l e R s m args below meth c cells slots Qw C Rt H locs ls hP hS hl
  exact lv_dup2_11 C.1 C.2.1 d ((mv_cat Z.1 va).trans hc) ((mv_cat Z.1 vb).trans hd) (h Z A p l e R s m args below meth c cells slots Qw C Rt H locs ls hP hS hl)
theorem v_if_eq {x : Int32} {off : Int} {tgt : Nat} (d : decode k.2.1 pc = .ok (.ifCond .eq off, 3)) (ht : (pc : Int) + off = (tgt : Int)) (kt : x = 0 → V k Q M tgt lv st) (kf : ¬ x = 0 → V k Q M (pc + 3) lv st) : V k Q M pc lv (.int x :: st) := by
  intro Z A p l e R s m args below meth c cells slots Qw C Rt H locs ls hP hS hl
  exact lv_if_eq C.1 C.2.1 d ht (fun q => kt q Z A p l e R s m args below meth c cells slots Qw C Rt H locs ls hP hS hl) (fun q => kf q Z A p l e R s m args below meth c cells slots Qw C Rt H locs ls hP hS hl)
theorem v_icmp_eq {x y : Int32} {off : Int} {tgt : Nat} (d : decode k.2.1 pc = .ok (.if_icmp .eq off, 3)) (ht : (pc : Int) + off = (tgt : Int)) (kt : x = y → V k Q M tgt lv st) (kf : ¬ x = y → V k Q M (pc + 3) lv st) : V k Q M pc lv (.int y :: .int x :: st) := by
  intro Z A p l e R s m args below meth c cells slots Qw C Rt H locs ls hP hS hl
  exact lv_icmp_eq C.1 C.2.1 d ht (fun q => kt q Z A p l e R s m args below meth c cells slots Qw C Rt H locs ls hP hS hl) (fun q => kf q Z A p l e R s m args below meth c cells slots Qw C Rt H locs ls hP hS hl)
theorem v_if_ne {x : Int32} {off : Int} {tgt : Nat} (d : decode k.2.1 pc = .ok (.ifCond .ne off, 3)) (ht : (pc : Int) + off = (tgt : Int)) (kt : ¬ x = 0 → V k Q M tgt lv st) (kf : x = 0 → V k Q M (pc + 3) lv st) : V k Q M pc lv (.int x :: st) := by
  intro Z A p l e R s m args below meth c cells slots Qw C Rt H locs ls hP hS hl
  exact lv_if_ne C.1 C.2.1 d ht (fun q => kt q Z A p l e R s m args below meth c cells slots Qw C Rt H locs ls hP hS hl) (fun q => kf q Z A p l e R s m args below meth c cells slots Qw C Rt H locs ls hP hS hl)
theorem v_icmp_ne {x y : Int32} {off : Int} {tgt : Nat} (d : decode k.2.1 pc = .ok (.if_icmp .ne off, 3)) (ht : (pc : Int) + off = (tgt : Int)) (kt : ¬ x = y → V k Q M tgt lv st) (kf : x = y → V k Q M (pc + 3) lv st) : V k Q M pc lv (.int y :: .int x :: st) := by
  intro Z A p l e R s m args below meth c cells slots Qw C Rt H locs ls hP hS hl
  exact lv_icmp_ne C.1 C.2.1 d ht (fun q => kt q Z A p l e R s m args below meth c cells slots Qw C Rt H locs ls hP hS hl) (fun q => kf q Z A p l e R s m args below meth c cells slots Qw C Rt H locs ls hP hS hl)
theorem v_if_lt {x : Int32} {off : Int} {tgt : Nat} (d : decode k.2.1 pc = .ok (.ifCond .lt off, 3)) (ht : (pc : Int) + off = (tgt : Int)) (kt : x < 0 → V k Q M tgt lv st) (kf : ¬ x < 0 → V k Q M (pc + 3) lv st) : V k Q M pc lv (.int x :: st) := by
  intro Z A p l e R s m args below meth c cells slots Qw C Rt H locs ls hP hS hl
  exact lv_if_lt C.1 C.2.1 d ht (fun q => kt q Z A p l e R s m args below meth c cells slots Qw C Rt H locs ls hP hS hl) (fun q => kf q Z A p l e R s m args below meth c cells slots Qw C Rt H locs ls hP hS hl)
theorem v_icmp_lt {x y : Int32} {off : Int} {tgt : Nat} (d : decode k.2.1 pc = .ok (.if_icmp .lt off, 3)) (ht : (pc : Int) + off = (tgt : Int)) (kt : x < y → V k Q M tgt lv st) (kf : ¬ x < y → V k Q M (pc + 3) lv st) : V k Q M pc lv (.int y :: .int x :: st) := by
  intro Z A p l e R s m args below meth c cells slots Qw C Rt H locs ls hP hS hl
  exact lv_icmp_lt C.1 C.2.1 d ht (fun q => kt q Z A p l e R s m args below meth c cells slots Qw C Rt H locs ls hP hS hl) (fun q => kf q Z A p l e R s m args below meth c cells slots Qw C Rt H locs ls hP hS hl)
theorem v_if_ge {x : Int32} {off : Int} {tgt : Nat} (d : decode k.2.1 pc = .ok (.ifCond .ge off, 3)) (ht : (pc : Int) + off = (tgt : Int)) (kt : 0 ≤ x → V k Q M tgt lv st) (kf : ¬ 0 ≤ x → V k Q M (pc + 3) lv st) : V k Q M pc lv (.int x :: st) := by
  intro Z A p l e R s m args below meth c cells slots Qw C Rt H locs ls hP hS hl
  exact lv_if_ge C.1 C.2.1 d ht (fun q => kt q Z A p l e R s m args below meth c cells slots Qw C Rt H locs ls hP hS hl) (fun q => kf q Z A p l e R s m args below meth c cells slots Qw C Rt H locs ls hP hS hl)
theorem v_icmp_ge {x y : Int32} {off : Int} {tgt : Nat} (d : decode k.2.1 pc = .ok (.if_icmp .ge off, 3)) (ht : (pc : Int) + off = (tgt : Int)) (kt : y ≤ x → V k Q M tgt lv st) (kf : ¬ y ≤ x → V k Q M (pc + 3) lv st) : V k Q M pc lv (.int y :: .int x :: st) := by
  intro Z A p l e R s m args below meth c cells slots Qw C Rt H locs ls hP hS hl
  exact lv_icmp_ge C.1 C.2.1 d ht (fun q => kt q Z A p l e R s m args below meth c cells slots Qw C Rt H locs ls hP hS hl) (fun q => kf q Z A p l e R s m args below meth c cells slots Qw C Rt H locs ls hP hS hl)
theorem v_if_gt {x : Int32} {off : Int} {tgt : Nat} (d : decode k.2.1 pc = .ok (.ifCond .gt off, 3)) (ht : (pc : Int) + off = (tgt : Int)) (kt : 0 < x → V k Q M tgt lv st) (kf : ¬ 0 < x → V k Q M (pc + 3) lv st) : V k Q M pc lv (.int x :: st) := by
  intro Z A p l e R s m args below meth c cells slots Qw C Rt H locs ls hP hS hl
  exact lv_if_gt C.1 C.2.1 d ht (fun q => kt q Z A p l e R s m args below meth c cells slots Qw C Rt H locs ls hP hS hl) (fun q => kf q Z A p l e R s m args below meth c cells slots Qw C Rt H locs ls hP hS hl)
theorem v_icmp_gt {x y : Int32} {off : Int} {tgt : Nat} (d : decode k.2.1 pc = .ok (.if_icmp .gt off, 3)) (ht : (pc : Int) + off = (tgt : Int)) (kt : y < x → V k Q M tgt lv st) (kf : ¬ y < x → V k Q M (pc + 3) lv st) : V k Q M pc lv (.int y :: .int x :: st) := by
  intro Z A p l e R s m args below meth c cells slots Qw C Rt H locs ls hP hS hl
  exact lv_icmp_gt C.1 C.2.1 d ht (fun q => kt q Z A p l e R s m args below meth c cells slots Qw C Rt H locs ls hP hS hl) (fun q => kf q Z A p l e R s m args below meth c cells slots Qw C Rt H locs ls hP hS hl)
theorem v_if_le {x : Int32} {off : Int} {tgt : Nat} (d : decode k.2.1 pc = .ok (.ifCond .le off, 3)) (ht : (pc : Int) + off = (tgt : Int)) (kt : x ≤ 0 → V k Q M tgt lv st) (kf : ¬ x ≤ 0 → V k Q M (pc + 3) lv st) : V k Q M pc lv (.int x :: st) := by
  intro Z A p l e R s m args below meth c cells slots Qw C Rt H locs ls hP hS hl
  exact lv_if_le C.1 C.2.1 d ht (fun q => kt q Z A p l e R s m args below meth c cells slots Qw C Rt H locs ls hP hS hl) (fun q => kf q Z A p l e R s m args below meth c cells slots Qw C Rt H locs ls hP hS hl)
theorem v_icmp_le {x y : Int32} {off : Int} {tgt : Nat} (d : decode k.2.1 pc = .ok (.if_icmp .le off, 3)) (ht : (pc : Int) + off = (tgt : Int)) (kt : x ≤ y → V k Q M tgt lv st) (kf : ¬ x ≤ y → V k Q M (pc + 3) lv st) : V k Q M pc lv (.int y :: .int x :: st) := by
  intro Z A p l e R s m args below meth c cells slots Qw C Rt H locs ls hP hS hl
  exact lv_icmp_le C.1 C.2.1 d ht (fun q => kt q Z A p l e R s m args below meth c cells slots Qw C Rt H locs ls hP hS hl) (fun q => kf q Z A p l e R s m args below meth c cells slots Qw C Rt H locs ls hP hS hl)
theorem v_goto {off : Int} {tgt : Nat} (d : decode k.2.1 pc = .ok (.goto off, 3)) (ht : (pc : Int) + off = (tgt : Int)) (h : V k Q M tgt lv st) : V k Q M pc lv st := by
  intro Z A p l e R s m args below meth c cells slots Qw C Rt H locs ls hP hS hl
  exact lv_goto C.1 C.2.1 d ht (h Z A p l e R s m args below meth c cells slots Qw C Rt H locs ls hP hS hl)
theorem v_tabOut {dflt lo hi : Int} {offs : Array Int} {len : Nat} {x : Int32} {tgt : Nat} (d : decode k.2.1 pc = .ok (.tableswitch dflt lo hi offs, len)) (hx : x.toInt < lo ∨ hi < x.toInt) (ht : (pc : Int) + dflt = (tgt : Int)) (h : V k Q M tgt lv st) : V k Q M pc lv (.int x :: st) := by
  intro Z A p l e R s m args below meth c cells slots Qw C Rt H locs ls hP hS hl
  exact lv_tableOut C.1 C.2.1 d hx ht (h Z A p l e R s m args below meth c cells slots Qw C Rt H locs ls hP hS hl)
theorem v_tabIn {dflt lo hi : Int} {offs : Array Int} {len : Nat} {x : Int32} {off : Int} {tgt : Nat} (d : decode k.2.1 pc = .ok (.tableswitch dflt lo hi offs, len)) (h1 : ¬ x.toInt < lo) (h2 : ¬ hi < x.toInt) (ho : offs[(x.toInt - lo).toNat]? = some off) (ht : (pc : Int) + off = (tgt : Int)) (h : V k Q M tgt lv st) : V k Q M pc lv (.int x :: st) := by
  intro Z A p l e R s m args below meth c cells slots Qw C Rt H locs ls hP hS hl
  exact lv_tableIn C.1 C.2.1 d h1 h2 ho ht (h Z A p l e R s m args below meth c cells slots Qw C Rt H locs ls hP hS hl)
theorem v_lookup {dflt : Int} {ps : Array (Int × Int)} {len : Nat} {x : Int32} {off : Int} {tgt : Nat} (d : decode k.2.1 pc = .ok (.lookupswitch dflt ps, len)) (hp : (ps.toList.zip (ps.toList.drop 1)).all (fun (a, next) => a.1 < next.1) = true) (ho : Op.lookupswitch.offset ps.toList dflt x.toInt = off) (ht : (pc : Int) + off = (tgt : Int)) (h : V k Q M tgt lv st) : V k Q M pc lv (.int x :: st) := by
  intro Z A p l e R s m args below meth c cells slots Qw C Rt H locs ls hP hS hl
  exact lv_lookup C.1 C.2.1 d hp ho ht (h Z A p l e R s m args below meth c cells slots Qw C Rt H locs ls hP hS hl)
theorem v_fconst0  (d : decode k.2.1 pc = .ok (.fconst 0, 1)) (h : V k Q M (pc + 1) lv (.float FP.fconst0 :: st)) : V k Q M pc lv (st) := by
  intro Z A p l e R s m args below meth c cells slots Qw C Rt H locs ls hP hS hl
  exact lv_fconst0 C.1 C.2.1 d (h Z A p l e R s m args below meth c cells slots Qw C Rt H locs ls hP hS hl)
theorem v_fconst1  (d : decode k.2.1 pc = .ok (.fconst 1, 1)) (h : V k Q M (pc + 1) lv (.float FP.fconst1 :: st)) : V k Q M pc lv (st) := by
  intro Z A p l e R s m args below meth c cells slots Qw C Rt H locs ls hP hS hl
  exact lv_fconst1 C.1 C.2.1 d (h Z A p l e R s m args below meth c cells slots Qw C Rt H locs ls hP hS hl)
theorem v_fadd {x y : UInt32} (d : decode k.2.1 pc = .ok (.fadd, 1)) (hne : vf_n32 (FP.fadd x y)) (h : V k Q M (pc + 1) lv (.float (FP.fadd x y) :: st)) : V k Q M pc lv (.float y :: .float x :: st) := by
  intro Z A p l e R s m args below meth c cells slots Qw C Rt H locs ls hP hS hl
  exact lv_fadd C.1 C.2.1 d hne (h Z A p l e R s m args below meth c cells slots Qw C Rt H locs ls hP hS hl)
theorem v_fmul {x y : UInt32} (d : decode k.2.1 pc = .ok (.fmul, 1)) (hne : vf_n32 (FP.fmul x y)) (h : V k Q M (pc + 1) lv (.float (FP.fmul x y) :: st)) : V k Q M pc lv (.float y :: .float x :: st) := by
  intro Z A p l e R s m args below meth c cells slots Qw C Rt H locs ls hP hS hl
  exact lv_fmul C.1 C.2.1 d hne (h Z A p l e R s m args below meth c cells slots Qw C Rt H locs ls hP hS hl)
theorem v_fdiv {x y : UInt32} (d : decode k.2.1 pc = .ok (.fdiv, 1)) (hne : vf_n32 (FP.fdiv x y)) (h : V k Q M (pc + 1) lv (.float (FP.fdiv x y) :: st)) : V k Q M pc lv (.float y :: .float x :: st) := by
  intro Z A p l e R s m args below meth c cells slots Qw C Rt H locs ls hP hS hl
  exact lv_fdiv C.1 C.2.1 d hne (h Z A p l e R s m args below meth c cells slots Qw C Rt H locs ls hP hS hl)
theorem v_i2f {x : Int32} (d : decode k.2.1 pc = .ok (.i2f, 1)) (h : V k Q M (pc + 1) lv (.float (FP.i2f x) :: st)) : V k Q M pc lv (.int x :: st) := by
  intro Z A p l e R s m args below meth c cells slots Qw C Rt H locs ls hP hS hl
  exact lv_i2f C.1 C.2.1 d (h Z A p l e R s m args below meth c cells slots Qw C Rt H locs ls hP hS hl)
theorem v_f2i {x : UInt32} (d : decode k.2.1 pc = .ok (.f2i, 1)) (h : V k Q M (pc + 1) lv (.int (FP.f2i x) :: st)) : V k Q M pc lv (.float x :: st) := by
  intro Z A p l e R s m args below meth c cells slots Qw C Rt H locs ls hP hS hl
  exact lv_f2i C.1 C.2.1 d (h Z A p l e R s m args below meth c cells slots Qw C Rt H locs ls hP hS hl)
theorem v_ldcf {idx : Nat} {v : UInt32} (d : decode k.2.1 pc = .ok (.ldc idx, 2)) (hw : Cond.constantFloat k.1.cls idx v ∈ wg) (h : V k Q M (pc + 2) lv (.float v :: st)) : V k Q M pc lv (st) := by
  intro Z A p l e R s m args below meth c cells slots Qw C Rt H locs ls hP hS hl
  exact lv_ldcf C.1 C.2.1 C.2.2.2.1 (C.2.2.2.2.1 _ hw) d (h Z A p l e R s m args below meth c cells slots Qw C Rt H locs ls hP hS hl)
theorem v_ldci {idx : Nat} {v : Int32} (d : decode k.2.1 pc = .ok (.ldc idx, 2)) (hw : Cond.constant k.1.cls idx v ∈ wg) (h : V k Q M (pc + 2) lv (.int v :: st)) : V k Q M pc lv (st) := by
  intro Z A p l e R s m args below meth c cells slots Qw C Rt H locs ls hP hS hl
  exact lv_ldc C.1 C.2.1 C.2.2.2.1 (C.2.2.2.2.1 _ hw) d (h Z A p l e R s m args below meth c cells slots Qw C Rt H locs ls hP hS hl)
theorem v_vret (d : decode k.2.1 pc = .ok (.return_, 1)) (hr : k.2.2.2.1 = none) (hq : Q none M) : V k Q M pc lv ([]) := by
  intro Z A p l e R s m args below meth c cells slots Qw C Rt H locs ls hP hS hl
  exact Rt (none) M H locs pc ls hq hP hS ⟨d, hr⟩
theorem v_iret (d : decode k.2.1 pc = .ok (.ireturn, 1)) (hr : k.2.2.2.1 = some .int) {x : Int32} (hq : Q (some (.int x)) M) : V k Q M pc lv ([.int x]) := by
  intro Z A p l e R s m args below meth c cells slots Qw C Rt H locs ls hP hS hl
  exact Rt (some (.int x)) M H locs pc ls hq hP hS ⟨d, .int, hr, rfl⟩
theorem v_zret (d : decode k.2.1 pc = .ok (.ireturn, 1)) (hr : k.2.2.2.1 = some .boolean) {x : Int32} (hx : x = 0 ∨ x = 1) (hq : Q (some (.int x)) M) : V k Q M pc lv ([.int x]) := by
  intro Z A p l e R s m args below meth c cells slots Qw C Rt H locs ls hP hS hl
  exact Rt (some (.int x)) M H locs pc ls hq hP hS ⟨d, .boolean, hr, by rcases hx with rfl | rfl <;> rfl⟩
theorem v_nret (d : decode k.2.1 pc = .ok (.ireturn, 1)) {ty : FieldType} (hr : k.2.2.2.1 = some ty) {x : Int32} (hx : narrow ty (.int x) = .int x) (hq : Q (some (.int x)) M) : V k Q M pc lv ([.int x]) := by
  intro Z A p l e R s m args below meth c cells slots Qw C Rt H locs ls hP hS hl
  exact Rt (some (.int x)) M H locs pc ls hq hP hS ⟨d, ty, hr, hx⟩
theorem v_fret (d : decode k.2.1 pc = .ok (.freturn, 1)) (hr : k.2.2.2.1 = some .float) {x : UInt32} (hq : Q (some (.float x)) M) : V k Q M pc lv ([.float x]) := by
  intro Z A p l e R s m args below meth c cells slots Qw C Rt H locs ls hP hS hl
  exact Rt (some (.float x)) M H locs pc ls hq hP hS ⟨d, hr⟩
theorem v_aret (d : decode k.2.1 pc = .ok (.areturn, 1)) {t : String} (hr : k.2.2.2.1 = some (.object t)) {x : Nat} (hq : Q (some (.ref x)) M) : V k Q M pc lv ([.ref x]) := by
  intro Z A p l e R s m args below meth c cells slots Qw C Rt H locs ls hP hS hl
  exact Rt (some (.ref x)) M H locs pc ls hq hP hS ⟨d, t, hr⟩
end V5
