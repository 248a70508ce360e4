/-! V: a judgement over W in which the world is one memory of numbered rows. Cell numbers (ids): 0 the object of the class; 1 Text, 2 letters, 3 numbers; 4 and 14 Circuit, their arrays behind them; 24, 27, 30 now, before, later (a Moment m: values m+1, wishes m+2); 33 past[], 34.. its Moments; 52 images[], 53, 56; 59 kept; 60 the Model, 61.. told draft now tried past images isKept leaves values text. 80+i the text constants, 90+i their bytes, 97 FIRST_PERIODS, 98 SIOOBE_FORMATTER, 99 the script. -/
abbrev vM : Type := Nat → Nat → Int32
abbrev vZ : Type := (Nat → Nat) × va_G × (Nat → ClassId)
abbrev vK : Type := MethodName × ByteArray × Nat × Option FieldType × Nat × Nat × Option (Nat × (Nat → Int32))
def wg : List Cond := lw_tbl.filter goodWord
def isNst : Cond → Bool
  | .fieldLinkNest .. => true
  | .methodLinkNest .. => true
  | _ => false
def nw : List Cond := tables_1.filter isNst
def kdL : List (Nat × Nat) := [(3, 0), (2, 0), (11, 160), (10, 3),
  (0, 0), (10, 16), (10, 16), (10, 48), (10, 16), (10, 16), (10, 16), (10, 16), (10, 16), (10, 3),
  (0, 0), (10, 16), (10, 16), (10, 48), (10, 16), (10, 16), (10, 16), (10, 16), (10, 16), (10, 3),
  (1, 0), (10, 16), (10, 16), (1, 0), (10, 16), (10, 16), (1, 0), (10, 16), (10, 16),
  (13, 6), (1, 0), (10, 16), (10, 16), (1, 0), (10, 16), (10, 16), (1, 0), (10, 16), (10, 16), (1, 0), (10, 16), (10, 16), (1, 0), (10, 16), (10, 16), (1, 0), (10, 16), (10, 16),
  (13, 2), (1, 0), (10, 16), (10, 16), (1, 0), (10, 16), (10, 16), (12, 2),
  (4, 0), (10, 97), (10, 97), (10, 36), (10, 36), (10, 216), (10, 72), (12, 2), (10, 16), (10, 16), (10, 160)]
def kdc (i : Nat) : Nat := (kdL.getD i (99, 0)).1
def szc (i : Nat) : Nat := (kdL.getD i (99, 0)).2
def ftL : List (List Nat) := [[0, 0, 3, 4, 5, 6, 7, 8, 9, 10, 11], [0, 0, 0, 0, 3, 4], [3, 0, 0, 0, 0, 0, 4], [3, 1, 1, 26, 35, 0, 54, 61, 29, 32], [3, 4, 5, 6, 7, 0, 8, 9, 10, 11, 12, 0, 0, 0, 0, 0, 0]]
def ftg (ci j : Nat) : Nat := (ftL.getD ci []).getD j 0
def Ncl (ci : Nat) : Nat := [11, 6, 7, 10, 17].getD ci 0
def fvl (f : Nat → Nat) (M : vM) (i tag j : Nat) : Value := match tag with
  | 0 => .int (M i j)
  | 1 => .ref (f (M i j).toNatClampNeg)
  | n + 2 => .ref (f (i + n))
def flds (f : Nat → Nat) (M : vM) (i ci : Nat) : List Value := (List.range (Ncl ci)).map (fun j => fvl f M i (ftg ci j) j)
def cellE (Z : vZ) (M : vM) (i : Nat) : va_E :=
  if kdc i < 10 then .inr (kdc i, flds Z.1 M i (kdc i))
  else if kdc i = 13 then .inl (Z.2.2 13, szc i, .inr (.inr (.inr (.inr (fun j => some (Z.1 (M i j).toNatClampNeg))))))
  else .inl (Z.2.2 (kdc i), szc i, .inl (M i))
def wl (Z : vZ) (M : vM) : va_W := (List.range 71).map (fun i => (Z.1 i, cellE Z M i))
def mv (f : Nat → Nat) : Value → Value
  | .ref k => .ref (f k)
  | v => v
theorem mv_cat (f : Nat → Nat) (v : Value) : (mv f v).category = v.category := by cases v <;> rfl
def ml (f : Nat → Nat) (q : Nat × Value) : Nat × Value := (q.1, mv f q.2)
def mup (M : vM) (a b : Nat) (x : Int32) : vM := fun i => if i = a then upd (M i) b x else M i
def mrow (M : vM) (a : Nat) (f : Nat → Int32) : vM := fun i => if i = a then f else M i
theorem wl_get (Z : vZ) (M : vM) {i : Nat} (h : i < 71) : (wl Z M)[i]? = some (Z.1 i, cellE Z M i) := by
  unfold wl
  rw [List.getElem?_map, List.getElem?_range h]
  rfl
theorem cellE_congr (Z : vZ) {M M' : vM} {i : Nat} (h : M' i = M i) : cellE Z M' i = cellE Z M i := by
  have e : ∀ ci, flds Z.1 M' i ci = flds Z.1 M i ci := by
    intro ci
    unfold flds
    apply List.map_congr_left
    intro j _
    unfold fvl
    rw [h]
  unfold cellE
  rw [e, h]
theorem wl_set (Z : vZ) {M M' : vM} {i : Nat} (h : i < 71) (hM : ∀ j, j ≠ i → M' j = M j) {e : va_E} (he : e = cellE Z M' i) : (wl Z M).set i (Z.1 i, e) = wl Z M' := by
  subst he
  apply List.ext_getElem?
  intro j
  by_cases hj : j = i
  · subst hj
    rw [List.getElem?_set_self (by simp [wl]; exact h), wl_get Z M' h]
  · rw [List.getElem?_set_ne (Ne.symm hj)]
    by_cases h7 : j < 71
    · rw [wl_get Z M h7, wl_get Z M' h7, cellE_congr Z (hM j hj)]
    · rw [List.getElem?_eq_none (by simp [wl]; omega), List.getElem?_eq_none (by simp [wl]; omega)]
theorem wl_D {Z : vZ} {A : Nat → Prop} (M : vM) (hi : ∀ i j, i < 71 → j < 71 → Z.1 i = Z.1 j → i = j) (hA : ∀ i, i < 71 → A (Z.1 i)) : va_D A (wl Z M) := by
  have key : ∀ (i : Nat) (q : Nat × va_E), (wl Z M)[i]? = some q → i < 71 ∧ q.1 = Z.1 i := by
    intro i q hq
    have h7 : i < 71 := by
      have := (List.getElem?_eq_some_iff.mp hq).1
      simpa [wl] using this
    rw [wl_get Z M h7] at hq
    cases hq
    exact ⟨h7, rfl⟩
  refine ⟨fun i j p q hp hq e => ?_, fun k q hq => ?_⟩
  · obtain ⟨a1, a2⟩ := key i p hp
    obtain ⟨b1, b2⟩ := key j q hq
    exact hi i j a1 b1 (by rw [← a2, ← b2]; exact e)
  · obtain ⟨a1, a2⟩ := key k q hq
    rw [a2]
    exact hA k a1
theorem mup_ne {M : vM} {a b i : Nat} {x : Int32} (h : i ≠ a) : mup M a b x i = M i := if_neg h
theorem mup_eq {M : vM} {a b : Nat} {x : Int32} : mup M a b x a = upd (M a) b x := if_pos rfl
theorem mrow_ne {M : vM} {a i : Nat} {f : Nat → Int32} (h : i ≠ a) : mrow M a f i = M i := if_neg h
theorem mrow_eq {M : vM} {a : Nat} {f : Nat → Int32} : mrow M a f a = f := if_pos rfl
def tys (Z : vZ) : List (ClassId × FieldType) := [(Z.2.2 10, .int), (Z.2.2 11, .char), (Z.2.2 12, .boolean), (Z.2.2 13, .object "ClockCrossings$Moment")]
def xper (j : Nat) : Int32 := [2, 3, 5].getD j 0
def xlen : List Nat := [1, 2, 2, 3, 2, 2, 0]
def xbyt : List (List Int32) := [[67], [67, 78], [78, 78], [78, 78, 78], [67, 80], [76, 77], []]
def xtxt : List String := ["C", "CN", "NN", "NNN", "CP", "LM", ""]
/-- what lies outside the world and stays: FIRST_PERIODS, the text constants -/
def xE (Z : vZ) (A : Nat → Prop) (s : State) : Prop :=
  va_Z "ClockCrossings" "FIRST_PERIODS" "[I" (.ref (Z.1 97)) A s s.heap ∧ va_T .int (Z.1 97) 3 (fun j => .int (xper j)) A s s.heap ∧
  vk_S 7 xlen xbyt (fun i => Z.1 (80 + i)) (fun i => Z.1 (90 + i)) A s s.heap ∧
  (∀ i, i < 7 → vk_R "ClockCrossings$Text" (80 + 2 * i) (xtxt.getD i "") (Z.1 (80 + i)) s) ∧
  va_Z "java/lang/String" "COMPACT_STRINGS" "Z" (.int 1) A s s.heap ∧
  (va_Z "jdk/internal/util/Preconditions" "SIOOBE_FORMATTER" "Ljava/util/function/BiFunction;" .null A s s.heap ∨ va_Z "jdk/internal/util/Preconditions" "SIOOBE_FORMATTER" "Ljava/util/function/BiFunction;" (.ref (Z.1 98)) A s s.heap)
def xS (k : vK) (Z : vZ) (A : Nat → Prop) (s : State) : Prop := match k.2.2.2.2.2.2 with
  | none => True
  | some (L, xs) => va_T .int (Z.1 99) L (fun j => .int (xs j)) A s s.heap
/-- the standing facts of a walk -/
def vC (k : vK) (Z : vZ) (A : Nat → Prop) (p : Program) (R : Room) (s : State) (m : MethodId) (args : Array Value) (c : Code) (cells slots : Nat) : Prop :=
  p.tables.exec = Jvm.exec ∧ c.code = k.2.1 ∧ c.maxLocals = k.2.2.1 ∧ s.vm.findClass k.1.cls = some m.cls ∧ (∀ w ∈ wg, w.before args s = true) ∧ (∀ w ∈ nw, va_Nw w s) ∧ va_K Z.2.1 vwCl (tys Z) s ∧
  (k.2.2.2.2.1 ≤ R.frames ∧ k.2.2.2.2.2.1 ≤ R.locals ∧ cells ≤ R.cells ∧ slots ≤ R.slots) ∧ (∀ i j, i < 71 → j < 71 → Z.1 i = Z.1 j → i = j) ∧ (∀ i, i < 71 → A (Z.1 i)) ∧ xE Z A s ∧ xS k Z A s
/-- which return gives which answer -/
def retD (k : vK) (pc : Nat) (v : Option Value) : Prop := match v with
  | none => decode k.2.1 pc = .ok (.return_, 1) ∧ k.2.2.2.1 = none
  | some (.int x) => decode k.2.1 pc = .ok (.ireturn, 1) ∧ ∃ ty, k.2.2.2.1 = some ty ∧ narrow ty (.int x) = .int x
  | some (.float _) => decode k.2.1 pc = .ok (.freturn, 1) ∧ k.2.2.2.1 = some .float
  | some (.ref _) => decode k.2.1 pc = .ok (.areturn, 1) ∧ ∃ n, k.2.2.2.1 = some (.object n)
  | _ => False
def V (k : vK) (Q : Option Value → vM → Prop) (M : vM) (pc : Nat) (lv : List (Nat × Value)) (st : List Value) : Prop :=
  ∀ (Z : vZ) (A : Nat → Prop) (p : Program) (l : Launch) (e : Env) (R : Room) (s : State) (m : MethodId) (args : Array Value) (below : List Frame) (meth : Method) (c : Code) (cells slots : Nat) (Qw : State → Prop), vC k Z A p R s m args c cells slots →
  (∀ (v : Option Value) (M' : vM) (H : Heap) (locs : List Loc) (pc' : Nat) (ls : Array Slot), Q v M' → va_P Z.2.1 vwCl (wl Z M') H → va_S A s.heap H locs → retD k pc' v → W p l e R s m args below meth c H locs cells slots Qw (F0 m pc' ls (v.toList.map (mv Z.1)))) →
  ∀ (H : Heap) (locs : List Loc) (ls : Array Slot), va_P Z.2.1 vwCl (wl Z M) H → va_S A s.heap H locs → lv_has ls k.2.2.1 (lv.map (ml Z.1)) → W p l e R s m args below meth c H locs cells slots Qw (F0 m pc ls (st.map (mv Z.1)))
/-- local variables: read and set -/
def lget : List (Nat × Value) → Nat → Option Value
  | [], _ => none
  | q :: t, i => bif Nat.beq q.1 i then some q.2 else lget t i
def lset (lv : List (Nat × Value)) (i : Nat) (v : Value) : List (Nat × Value) := lv.filter (fun q => Nat.blt q.1 i && !(Nat.beq q.2.category 2)) ++ (i, v) :: lv.filter (fun q => Nat.blt i q.1 && !(Nat.beq q.2.category 2))
theorem lget_mem : ∀ {lv : List (Nat × Value)} {i : Nat} {v : Value}, lget lv i = some v → (i, v) ∈ lv
  | [], _, _, h => by simp [lget] at h
  | q :: t, i, v, h => by
    unfold lget at h
    cases hq : Nat.beq q.1 i with
    | true =>
      rw [hq] at h
      have e := Nat.eq_of_beq_eq_true hq
      obtain ⟨a, b⟩ := q
      simp at h e
      subst h; subst e
      exact List.mem_cons_self
    | false =>
      rw [hq] at h
      exact List.mem_cons_of_mem _ (lget_mem h)
theorem lget_at {f : Nat → Nat} {ls : Array Slot} {n : Nat} {lv : List (Nat × Value)} {i : Nat} {v : Value} (hl : lv_has ls n (lv.map (ml f))) (h : lget lv i = some v) : ls[i]? = some (.val (mv f v)) :=
  hl.2.2 (i, mv f v) (List.mem_map.mpr ⟨(i, v), lget_mem h, rfl⟩)
theorem lset_has {f : Nat → Nat} {ls : Array Slot} {n : Nat} {lv : List (Nat × Value)} {i : Nat} {v : Value} (hl : lv_has ls n ((i, mv f v) :: (lv.map (ml f)).filter (fun q => !(q.1 == i) && !(q.1 + 1 == i && q.2.category == 2)))) : lv_has ls n ((lset lv i v).map (ml f)) := by
  refine ⟨hl.1, hl.2.1, fun q hq => ?_⟩
  obtain ⟨r, hr, rfl⟩ := List.mem_map.mp hq
  have old : ∀ r ∈ lv, r.1 ≠ i → Nat.beq r.2.category 2 = false → ls[(ml f r).1]? = some (.val (ml f r).2) := by
    intro r h1 h2 h3
    refine hl.2.2 _ (List.mem_cons_of_mem _ (List.mem_filter.mpr ⟨List.mem_map.mpr ⟨r, h1, rfl⟩, ?_⟩))
    have h4 : ¬ r.2.category = 2 := fun e => by rw [e] at h3; cases h3
    simp [ml, mv_cat, h2, h4]
  rcases List.mem_append.mp hr with h | h
  · obtain ⟨h1, h2⟩ := List.mem_filter.mp h
    simp only [Bool.and_eq_true, Bool.not_eq_true'] at h2
    have h3 : r.1 < i := by simpa [Nat.blt_eq] using h2.1
    exact old r h1 (by omega) h2.2
  · rcases List.mem_cons.mp h with rfl | h
    · exact hl.2.2 _ List.mem_cons_self
    · obtain ⟨h1, h2⟩ := List.mem_filter.mp h
      simp only [Bool.and_eq_true, Bool.not_eq_true'] at h2
      have h3 : i < r.1 := by simpa [Nat.blt_eq] using h2.1
      exact old r h1 (by omega) h2.2
/-- fewer locals -/
theorem v_sub {k : vK} {Q : Option Value → vM → Prop} {M : vM} {pc : Nat} {lv lv' : List (Nat × Value)} {st : List Value} (hs : ∀ q ∈ lv', lget lv q.1 = some q.2) (h : V k Q M pc lv' st) : V k Q M pc lv st := by
  intro Z A p l e R s m args below meth c cells slots Qw C Rt H locs ls hP hS hl
  refine h Z A p l e R s m args below meth c cells slots Qw C Rt H locs ls hP hS ⟨hl.1, hl.2.1, fun q hq => ?_⟩
  obtain ⟨r, hr, rfl⟩ := List.mem_map.mp hq
  exact lget_at hl (hs r hr)
/-- a weaker end -/
theorem v_post {k : vK} {Q Q' : Option Value → vM → Prop} {M : vM} {pc : Nat} {lv : List (Nat × Value)} {st : List Value} (hs : ∀ v M', Q' v M' → Q v M') (h : V k Q' M pc lv st) : V k Q M pc lv st := by
  intro Z A p l e R s m args below meth c cells slots Qw C Rt
  exact h Z A p l e R s m args below meth c cells slots Qw C (fun v M' H locs pc' ls hq => Rt v M' H locs pc' ls (hs v M' hq))
