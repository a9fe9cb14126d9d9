/-! The walk over a world: locals as a list (.null: not known), the world as a list of cells; a row an instruction. -/
def wl_l (ls : Array Slot) (nL : Nat) (lo : List Value) : Prop := lo.length = nL ∧ ls.size = nL ∧ lv_wf ls ∧ ∀ (i : Nat) (v : Value), lo[i]? = some v → v ≠ .null → ls[i]? = some (.val v)
def wl_ok (lo : List Value) : Nat → Bool
  | 0 => true
  | i + 1 => match (lo[i]? : Option Value) with
    | some v => decide (v.category = 1)
    | none => true
def wl_enum (lo : List Value) : List (Nat × Value) := (List.range lo.length).filterMap fun i => match (lo[i]? : Option Value) with
  | some Value.null => none
  | some v => some (i, v)
  | none => none
theorem wl_enum_mem {lo : List Value} {i : Nat} {v : Value} : (i, v) ∈ wl_enum lo ↔ lo[i]? = some v ∧ v ≠ .null := by
  simp only [wl_enum, List.mem_filterMap, List.mem_range]
  constructor
  · rintro ⟨j, hj, h⟩
    cases hq : lo[j]? with
    | none => rw [hq] at h; cases h
    | some w =>
      rw [hq] at h
      cases w <;> simp only [Option.some.injEq, Prod.mk.injEq, reduceCtorEq] at h <;> obtain ⟨rfl, rfl⟩ := h <;> exact ⟨hq, by simp⟩
  · rintro ⟨h, hn⟩
    have hlt := (List.getElem?_eq_some_iff.mp h).1
    refine ⟨i, hlt, ?_⟩
    rw [h]
    cases v <;> first | rfl | exact absurd rfl hn
theorem wl_has {ls : Array Slot} {nL : Nat} {lo : List Value} (h : wl_l ls nL lo) : lv_has ls nL (wl_enum lo) :=
  ⟨h.2.1, h.2.2.1, fun q hq => h.2.2.2 q.1 q.2 (wl_enum_mem.mp hq).1 (wl_enum_mem.mp hq).2⟩
theorem wl_of {ls : Array Slot} {nL : Nat} {lo : List Value} {l : List (Nat × Value)} (hlen : lo.length = nL) (h : lv_has ls nL l) (hs : ∀ (i : Nat) (v : Value), lo[i]? = some v → v ≠ .null → (i, v) ∈ l) : wl_l ls nL lo :=
  ⟨hlen, h.1, h.2.1, fun i v hi hv => h.2.2 (i, v) (hs i v hi hv)⟩
theorem wl_at {ls : Array Slot} {nL : Nat} {lo : List Value} (h : wl_l ls nL lo) {i : Nat} {v : Value} (hk : lo[i]? = some v) (hv : v ≠ .null) : ls[i]? = some (.val v) := h.2.2.2 i v hk hv
theorem wl_store1 {ls' : Array Slot} {nL i : Nat} {lo : List Value} {v : Value} (hlen : lo.length = nL) (hok : wl_ok lo i = true) (h : lv_has ls' nL ((i, v) :: (wl_enum lo).filter (fun q => !(q.1 == i) && !(q.1 + 1 == i && q.2.category == 2)))) : wl_l ls' nL (lo.set i v) := by
  refine wl_of (by rw [List.length_set]; exact hlen) h (fun j w hj hw => ?_)
  rw [List.getElem?_set] at hj
  by_cases hij : i = j
  · subst hij
    rw [if_pos rfl] at hj
    split at hj
    · cases hj; exact List.mem_cons_self
    · cases hj
  · rw [if_neg hij] at hj
    refine List.mem_cons_of_mem _ (List.mem_filter.mpr ⟨wl_enum_mem.mpr ⟨hj, hw⟩, ?_⟩)
    simp only [Bool.and_eq_true, Bool.not_eq_true', beq_eq_false_iff_ne, Bool.and_eq_false_iff]
    refine ⟨fun e => hij e.symm, ?_⟩
    by_cases hj1 : j + 1 = i
    · right
      subst hj1
      simp only [wl_ok, hj, decide_eq_true_eq] at hok
      omega
    · exact Or.inl hj1
theorem wl_store2 {ls' : Array Slot} {nL i : Nat} {lo : List Value} {v : Value} (hlen : lo.length = nL) (hok : wl_ok lo i = true) (h : lv_has ls' nL ((i, v) :: (wl_enum lo).filter (fun q => !(q.1 == i) && (!(q.1 == i + 1) && !(q.1 + 1 == i && q.2.category == 2))))) : wl_l ls' nL ((lo.set i v).set (i + 1) .null) := by
  refine wl_of (by rw [List.length_set, List.length_set]; exact hlen) h (fun j w hj hw => ?_)
  rw [List.getElem?_set] at hj
  by_cases hij1 : i + 1 = j
  · rw [if_pos hij1] at hj
    split at hj
    · cases hj; exact absurd rfl hw
    · cases hj
  rw [if_neg hij1, List.getElem?_set] at hj
  by_cases hij : i = j
  · subst hij
    rw [if_pos rfl] at hj
    split at hj
    · cases hj; exact List.mem_cons_self
    · cases hj
  · rw [if_neg hij] at hj
    refine List.mem_cons_of_mem _ (List.mem_filter.mpr ⟨wl_enum_mem.mpr ⟨hj, hw⟩, ?_⟩)
    simp only [Bool.and_eq_true, Bool.not_eq_true', beq_eq_false_iff_ne, Bool.and_eq_false_iff]
    refine ⟨fun e => hij e.symm, fun e => hij1 e.symm, ?_⟩
    by_cases hj1 : j + 1 = i
    · right
      subst hj1
      simp only [wl_ok, hj, decide_eq_true_eq] at hok
      omega
    · exact Or.inl hj1
/-- the locals at a method's entry -/
def wl_pad (vs : List Value) (n : Nat) : List Value := let l := vs.flatMap (fun v => if v.category = 2 then [v, .null] else [v]); l ++ List.replicate (n - l.length) .null
/-- the standing facts of a walk -/
def CT (p : Program) (s : State) (m : MethodId) (args : Array Value) (meth : Method) (c : Code) (cc : ByteArray) (own : String) (nL : Nat) (A : Nat → Prop) : Prop :=
  p.tables.exec = Jvm.exec ∧ c.code = cc ∧ c.maxLocals = nL ∧ s.vm.findClass own = some m.cls ∧ (∀ w ∈ rg_tbl, w.before args s = true) ∧ (∀ q, s.heap.size ≤ q → A q) ∧ meth.locks = false ∧ NK s
def WW (p : Program) (l : Launch) (e : Env) (R : Room) (s : State) (m : MethodId) (args : Array Value) (below : List Frame) (meth : Method) (c : Code) (Q : State → Prop) (D : va_G) (A : Nat → Prop) (nL : Nat) (tys : List (ClassId × FieldType)) (cells slots : Nat) (pc : Nat) (lo st : List Value) (w : va_W) : Prop :=
  va_K D vwCl tys s → ∀ (H : Heap) (locs : List Loc) (ls : Array Slot), va_P D vwCl w H → va_D A w → va_S A s.heap H locs → wl_l ls nL lo → W p l e R s m args below meth c H locs cells slots Q (F0 m pc ls st)
def bI (b : Bool) : Int32 := if b then 1 else 0
section WWs
variable {p : Program} {l : Launch} {e : Env} {R : Room} {s : State} {m : MethodId} {args : Array Value} {below : List Frame} {meth : Method} {c : Code} {Q : State → Prop} {D : va_G} {A : Nat → Prop} {cc : ByteArray} {own : String} {nL : Nat} {tys : List (ClassId × FieldType)} {cells slots pc : Nat} {lo st : List Value} {w : va_W}
theorem ww_iconst (C0 : CT p s m args meth c cc own nL A) {n : Int} {v : Int32} (hdg : decode cc pc = .ok (.iconst n, 1)) (hv : Int32.ofInt n = v) (k : WW p l e R s m args below meth c Q D A nL tys cells slots (pc + 1) lo (.int v :: st) w) : WW p l e R s m args below meth c Q D A nL tys cells slots pc lo st w :=
  fun hK H locs ls hP hD hS hl => lv_iconst C0.1 C0.2.1 hdg hv (k hK H locs ls hP hD hS hl)
theorem ww_bipush (C0 : CT p s m args meth c cc own nL A) {n : Int} {v : Int32} (hdg : decode cc pc = .ok (.bipush n, 2)) (hv : (Int8.ofInt n).toInt32 = v) (k : WW p l e R s m args below meth c Q D A nL tys cells slots (pc + 2) lo (.int v :: st) w) : WW p l e R s m args below meth c Q D A nL tys cells slots pc lo st w :=
  fun hK H locs ls hP hD hS hl => lv_bipush C0.1 C0.2.1 hdg hv (k hK H locs ls hP hD hS hl)
theorem ww_sipush (C0 : CT p s m args meth c cc own nL A) {n : Int} {v : Int32} (hdg : decode cc pc = .ok (.sipush n, 3)) (hv : (Int16.ofInt n).toInt32 = v) (k : WW p l e R s m args below meth c Q D A nL tys cells slots (pc + 3) lo (.int v :: st) w) : WW p l e R s m args below meth c Q D A nL tys cells slots pc lo st w :=
  fun hK H locs ls hP hD hS hl => lv_sipush C0.1 C0.2.1 hdg hv (k hK H locs ls hP hD hS hl)
theorem ww_lconst (C0 : CT p s m args meth c cc own nL A) {n : Fin 2} {v : Int64} (hdg : decode cc pc = .ok (.lconst n, 1)) (hv : Int64.ofNat (n : Nat) = v) (k : WW p l e R s m args below meth c Q D A nL tys cells slots (pc + 1) lo (.long v :: st) w) : WW p l e R s m args below meth c Q D A nL tys cells slots pc lo st w :=
  fun hK H locs ls hP hD hS hl => lv_lconst C0.1 C0.2.1 hdg hv (k hK H locs ls hP hD hS hl)
theorem ww_ldc2 (C0 : CT p s m args meth c cc own nL A) {index : Nat} {v : Int64} (hin : Cond.constantLong own index v ∈ rg_tbl) (hdg : decode cc pc = .ok (.ldc2_w index, 3)) (k : WW p l e R s m args below meth c Q D A nL tys cells slots (pc + 3) lo (.long v :: st) w) : WW p l e R s m args below meth c Q D A nL tys cells slots pc lo st w :=
  fun hK H locs ls hP hD hS hl => lv_ldc2 C0.1 C0.2.1 C0.2.2.2.1 (C0.2.2.2.2.1 _ hin) hdg (k hK H locs ls hP hD hS hl)
theorem ww_ldcw (C0 : CT p s m args meth c cc own nL A) {index : Nat} {v : Int32} (hin : Cond.constant own index v ∈ rg_tbl) (hdg : decode cc pc = .ok (.ldc_w index, 3)) (k : WW p l e R s m args below meth c Q D A nL tys cells slots (pc + 3) lo (.int v :: st) w) : WW p l e R s m args below meth c Q D A nL tys cells slots pc lo st w :=
  fun hK H locs ls hP hD hS hl => lv_ldcw C0.1 C0.2.1 C0.2.2.2.1 (C0.2.2.2.2.1 _ hin) hdg (k hK H locs ls hP hD hS hl)
theorem ww_iload_n (C0 : CT p s m args meth c cc own nL A) {k : Fin 4} {x : Int32} (hdg : decode cc pc = .ok (.iload_n k, 1)) (hx : lo[(k : Nat)]? = some (.int x)) (kk : WW p l e R s m args below meth c Q D A nL tys cells slots (pc + 1) lo (.int x :: st) w) : WW p l e R s m args below meth c Q D A nL tys cells slots pc lo st w :=
  fun hK H locs ls hP hD hS hl => lv_iload_n C0.1 C0.2.1 hdg rfl (wl_at hl hx (by simp)) (kk hK H locs ls hP hD hS hl)
theorem ww_iload (C0 : CT p s m args meth c cc own nL A) {i : Nat} {x : Int32} (hdg : decode cc pc = .ok (.iload i, 2)) (hx : lo[i]? = some (.int x)) (kk : WW p l e R s m args below meth c Q D A nL tys cells slots (pc + 2) lo (.int x :: st) w) : WW p l e R s m args below meth c Q D A nL tys cells slots pc lo st w :=
  fun hK H locs ls hP hD hS hl => lv_iload C0.1 C0.2.1 hdg (wl_at hl hx (by simp)) (kk hK H locs ls hP hD hS hl)
theorem ww_lload_n (C0 : CT p s m args meth c cc own nL A) {k : Fin 4} {x : Int64} (hdg : decode cc pc = .ok (.lload_n k, 1)) (hx : lo[(k : Nat)]? = some (.long x)) (kk : WW p l e R s m args below meth c Q D A nL tys cells slots (pc + 1) lo (.long x :: st) w) : WW p l e R s m args below meth c Q D A nL tys cells slots pc lo st w :=
  fun hK H locs ls hP hD hS hl => lv_lload_n C0.1 C0.2.1 hdg rfl (wl_at hl hx (by simp)) (kk hK H locs ls hP hD hS hl)
theorem ww_lload (C0 : CT p s m args meth c cc own nL A) {i : Nat} {x : Int64} (hdg : decode cc pc = .ok (.lload i, 2)) (hx : lo[i]? = some (.long x)) (kk : WW p l e R s m args below meth c Q D A nL tys cells slots (pc + 2) lo (.long x :: st) w) : WW p l e R s m args below meth c Q D A nL tys cells slots pc lo st w :=
  fun hK H locs ls hP hD hS hl => lv_lload C0.1 C0.2.1 hdg (wl_at hl hx (by simp)) (kk hK H locs ls hP hD hS hl)
theorem ww_aload_n (C0 : CT p s m args meth c cc own nL A) {k : Fin 4} {x : Nat} (hdg : decode cc pc = .ok (.aload_n k, 1)) (hx : lo[(k : Nat)]? = some (.ref x)) (kk : WW p l e R s m args below meth c Q D A nL tys cells slots (pc + 1) lo (.ref x :: st) w) : WW p l e R s m args below meth c Q D A nL tys cells slots pc lo st w :=
  fun hK H locs ls hP hD hS hl => lv_aload_n C0.1 C0.2.1 hdg rfl (wl_at hl hx (by simp)) (kk hK H locs ls hP hD hS hl)
theorem ww_aload (C0 : CT p s m args meth c cc own nL A) {i : Nat} {x : Nat} (hdg : decode cc pc = .ok (.aload i, 2)) (hx : lo[i]? = some (.ref x)) (kk : WW p l e R s m args below meth c Q D A nL tys cells slots (pc + 2) lo (.ref x :: st) w) : WW p l e R s m args below meth c Q D A nL tys cells slots pc lo st w :=
  fun hK H locs ls hP hD hS hl => lv_aload C0.1 C0.2.1 hdg (wl_at hl hx (by simp)) (kk hK H locs ls hP hD hS hl)
theorem ww_istore_n (C0 : CT p s m args meth c cc own nL A) {k : Fin 4} {i : Nat} {x : Int32} (hdg : decode cc pc = .ok (.istore_n k, 1)) (hki : (k : Nat) = i) (hi : i < lo.length) (hok : wl_ok lo i = true) (kk : WW p l e R s m args below meth c Q D A nL tys cells slots (pc + 1) (lo.set i (.int x)) st w) : WW p l e R s m args below meth c Q D A nL tys cells slots pc lo (.int x :: st) w :=
  fun hK H locs ls hP hD hS hl => lv_istore_n C0.1 C0.2.1 hdg hki (wl_has hl) (by rw [← hl.1]; exact hi) rfl (fun ls' h' => kk hK H locs ls' hP hD hS (wl_store1 hl.1 hok h'))
theorem ww_istore (C0 : CT p s m args meth c cc own nL A) {i : Nat} {x : Int32} (hdg : decode cc pc = .ok (.istore i, 2)) (hi : i < lo.length) (hok : wl_ok lo i = true) (kk : WW p l e R s m args below meth c Q D A nL tys cells slots (pc + 2) (lo.set i (.int x)) st w) : WW p l e R s m args below meth c Q D A nL tys cells slots pc lo (.int x :: st) w :=
  fun hK H locs ls hP hD hS hl => lv_istore C0.1 C0.2.1 hdg (wl_has hl) (by rw [← hl.1]; exact hi) rfl (fun ls' h' => kk hK H locs ls' hP hD hS (wl_store1 hl.1 hok h'))
theorem ww_astore_n (C0 : CT p s m args meth c cc own nL A) {k : Fin 4} {i : Nat} {x : Nat} (hdg : decode cc pc = .ok (.astore_n k, 1)) (hki : (k : Nat) = i) (hi : i < lo.length) (hok : wl_ok lo i = true) (kk : WW p l e R s m args below meth c Q D A nL tys cells slots (pc + 1) (lo.set i (.ref x)) st w) : WW p l e R s m args below meth c Q D A nL tys cells slots pc lo (.ref x :: st) w :=
  fun hK H locs ls hP hD hS hl => lv_astore_n C0.1 C0.2.1 hdg hki (wl_has hl) (by rw [← hl.1]; exact hi) rfl (fun ls' h' => kk hK H locs ls' hP hD hS (wl_store1 hl.1 hok h'))
theorem ww_lstore_n (C0 : CT p s m args meth c cc own nL A) {k : Fin 4} {i : Nat} {x : Int64} (hdg : decode cc pc = .ok (.lstore_n k, 1)) (hki : (k : Nat) = i) (hi : i + 1 < lo.length) (hok : wl_ok lo i = true) (kk : WW p l e R s m args below meth c Q D A nL tys cells slots (pc + 1) ((lo.set i (.long x)).set (i + 1) .null) st w) : WW p l e R s m args below meth c Q D A nL tys cells slots pc lo (.long x :: st) w :=
  fun hK H locs ls hP hD hS hl => lv_lstore_n C0.1 C0.2.1 hdg hki (wl_has hl) (by rw [← hl.1]; exact hi) rfl (fun ls' h' => kk hK H locs ls' hP hD hS (wl_store2 hl.1 hok h'))
theorem ww_iinc (C0 : CT p s m args meth c cc own nL A) {i : Nat} {n : Int} {x d : Int32} (hdg : decode cc pc = .ok (.iinc i n, 3)) (hx : lo[i]? = some (.int x)) (hd : Int32.ofInt n = d) (hok : wl_ok lo i = true) (kk : WW p l e R s m args below meth c Q D A nL tys cells slots (pc + 3) (lo.set i (.int (x + d))) st w) : WW p l e R s m args below meth c Q D A nL tys cells slots pc lo st w := by
  intro hK H locs ls hP hD hS hl
  obtain ⟨q, hq⟩ := List.getElem?_of_mem (wl_enum_mem.mpr ⟨hx, by simp⟩)
  exact lv_iinc C0.1 C0.2.1 hdg (wl_has hl) hq (by rw [hd]) (by rw [← hl.1]; exact (List.getElem?_eq_some_iff.mp hx).1) rfl (fun ls' h' => kk hK H locs ls' hP hD hS (wl_store1 hl.1 hok h'))
theorem ww_iadd (C0 : CT p s m args meth c cc own nL A) {x y : Int32} (hdg : decode cc pc = .ok (.iadd, 1)) (k : WW p l e R s m args below meth c Q D A nL tys cells slots (pc + 1) lo (.int (x + y) :: st) w) : WW p l e R s m args below meth c Q D A nL tys cells slots pc lo (.int y :: .int x :: st) w :=
  fun hK H locs ls hP hD hS hl => lv_iadd C0.1 C0.2.1 hdg (k hK H locs ls hP hD hS hl)
theorem ww_isub (C0 : CT p s m args meth c cc own nL A) {x y : Int32} (hdg : decode cc pc = .ok (.isub, 1)) (k : WW p l e R s m args below meth c Q D A nL tys cells slots (pc + 1) lo (.int (x - y) :: st) w) : WW p l e R s m args below meth c Q D A nL tys cells slots pc lo (.int y :: .int x :: st) w :=
  fun hK H locs ls hP hD hS hl => lv_isub C0.1 C0.2.1 hdg (k hK H locs ls hP hD hS hl)
theorem ww_imul (C0 : CT p s m args meth c cc own nL A) {x y : Int32} (hdg : decode cc pc = .ok (.imul, 1)) (k : WW p l e R s m args below meth c Q D A nL tys cells slots (pc + 1) lo (.int (x * y) :: st) w) : WW p l e R s m args below meth c Q D A nL tys cells slots pc lo (.int y :: .int x :: st) w :=
  fun hK H locs ls hP hD hS hl => lv_imul C0.1 C0.2.1 hdg (k hK H locs ls hP hD hS hl)
theorem ww_iand (C0 : CT p s m args meth c cc own nL A) {x y : Int32} (hdg : decode cc pc = .ok (.iand, 1)) (k : WW p l e R s m args below meth c Q D A nL tys cells slots (pc + 1) lo (.int (x &&& y) :: st) w) : WW p l e R s m args below meth c Q D A nL tys cells slots pc lo (.int y :: .int x :: st) w :=
  fun hK H locs ls hP hD hS hl => lv_iand C0.1 C0.2.1 hdg (k hK H locs ls hP hD hS hl)
theorem ww_ior (C0 : CT p s m args meth c cc own nL A) {x y : Int32} (hdg : decode cc pc = .ok (.ior, 1)) (k : WW p l e R s m args below meth c Q D A nL tys cells slots (pc + 1) lo (.int (x ||| y) :: st) w) : WW p l e R s m args below meth c Q D A nL tys cells slots pc lo (.int y :: .int x :: st) w :=
  fun hK H locs ls hP hD hS hl => lv_ior C0.1 C0.2.1 hdg (k hK H locs ls hP hD hS hl)
theorem ww_ixor (C0 : CT p s m args meth c cc own nL A) {x y : Int32} (hdg : decode cc pc = .ok (.ixor, 1)) (k : WW p l e R s m args below meth c Q D A nL tys cells slots (pc + 1) lo (.int (x ^^^ y) :: st) w) : WW p l e R s m args below meth c Q D A nL tys cells slots pc lo (.int y :: .int x :: st) w :=
  fun hK H locs ls hP hD hS hl => lv_ixor C0.1 C0.2.1 hdg (k hK H locs ls hP hD hS hl)
theorem ww_ishl (C0 : CT p s m args meth c cc own nL A) {x y : Int32} (hdg : decode cc pc = .ok (.ishl, 1)) (k : WW p l e R s m args below meth c Q D A nL tys cells slots (pc + 1) lo (.int (x <<< (y &&& 31)) :: st) w) : WW p l e R s m args below meth c Q D A nL tys cells slots pc lo (.int y :: .int x :: st) w :=
  fun hK H locs ls hP hD hS hl => lv_ishl C0.1 C0.2.1 hdg (k hK H locs ls hP hD hS hl)
theorem ww_ishr (C0 : CT p s m args meth c cc own nL A) {x y : Int32} (hdg : decode cc pc = .ok (.ishr, 1)) (k : WW p l e R s m args below meth c Q D A nL tys cells slots (pc + 1) lo (.int (x >>> (y &&& 31)) :: st) w) : WW p l e R s m args below meth c Q D A nL tys cells slots pc lo (.int y :: .int x :: st) w :=
  fun hK H locs ls hP hD hS hl => lv_ishr C0.1 C0.2.1 hdg (k hK H locs ls hP hD hS hl)
theorem ww_idiv (C0 : CT p s m args meth c cc own nL A) {x y : Int32} (hdg : decode cc pc = .ok (.idiv, 1)) (hne : ¬ y = 0) (k : WW p l e R s m args below meth c Q D A nL tys cells slots (pc + 1) lo (.int (x / y) :: st) w) : WW p l e R s m args below meth c Q D A nL tys cells slots pc lo (.int y :: .int x :: st) w :=
  fun hK H locs ls hP hD hS hl => lv_idiv C0.1 C0.2.1 hdg hne (k hK H locs ls hP hD hS hl)
theorem ww_irem (C0 : CT p s m args meth c cc own nL A) {x y : Int32} (hdg : decode cc pc = .ok (.irem, 1)) (hne : ¬ y = 0) (k : WW p l e R s m args below meth c Q D A nL tys cells slots (pc + 1) lo (.int (x - x / y * y) :: st) w) : WW p l e R s m args below meth c Q D A nL tys cells slots pc lo (.int y :: .int x :: st) w :=
  fun hK H locs ls hP hD hS hl => lv_irem C0.1 C0.2.1 hdg hne (k hK H locs ls hP hD hS hl)
theorem ww_ladd (C0 : CT p s m args meth c cc own nL A) {x y : Int64} (hdg : decode cc pc = .ok (.ladd, 1)) (k : WW p l e R s m args below meth c Q D A nL tys cells slots (pc + 1) lo (.long (x + y) :: st) w) : WW p l e R s m args below meth c Q D A nL tys cells slots pc lo (.long y :: .long x :: st) w :=
  fun hK H locs ls hP hD hS hl => lv_ladd C0.1 C0.2.1 hdg (k hK H locs ls hP hD hS hl)
theorem ww_lmul (C0 : CT p s m args meth c cc own nL A) {x y : Int64} (hdg : decode cc pc = .ok (.lmul, 1)) (k : WW p l e R s m args below meth c Q D A nL tys cells slots (pc + 1) lo (.long (x * y) :: st) w) : WW p l e R s m args below meth c Q D A nL tys cells slots pc lo (.long y :: .long x :: st) w :=
  fun hK H locs ls hP hD hS hl => lv_lmul C0.1 C0.2.1 hdg (k hK H locs ls hP hD hS hl)
theorem ww_land (C0 : CT p s m args meth c cc own nL A) {x y : Int64} (hdg : decode cc pc = .ok (.land, 1)) (k : WW p l e R s m args below meth c Q D A nL tys cells slots (pc + 1) lo (.long (x &&& y) :: st) w) : WW p l e R s m args below meth c Q D A nL tys cells slots pc lo (.long y :: .long x :: st) w :=
  fun hK H locs ls hP hD hS hl => lv_land C0.1 C0.2.1 hdg (k hK H locs ls hP hD hS hl)
theorem ww_lor (C0 : CT p s m args meth c cc own nL A) {x y : Int64} (hdg : decode cc pc = .ok (.lor, 1)) (k : WW p l e R s m args below meth c Q D A nL tys cells slots (pc + 1) lo (.long (x ||| y) :: st) w) : WW p l e R s m args below meth c Q D A nL tys cells slots pc lo (.long y :: .long x :: st) w :=
  fun hK H locs ls hP hD hS hl => lv_lor C0.1 C0.2.1 hdg (k hK H locs ls hP hD hS hl)
theorem ww_lsub (C0 : CT p s m args meth c cc own nL A) {x y : Int64} (hdg : decode cc pc = .ok (.lsub, 1)) (k : WW p l e R s m args below meth c Q D A nL tys cells slots (pc + 1) lo (.long (x - y) :: st) w) : WW p l e R s m args below meth c Q D A nL tys cells slots pc lo (.long y :: .long x :: st) w :=
  fun hK H locs ls hP hD hS hl => lv_lsub C0.1 C0.2.1 hdg (k hK H locs ls hP hD hS hl)
theorem ww_lrem (C0 : CT p s m args meth c cc own nL A) {x y : Int64} (hdg : decode cc pc = .ok (.lrem, 1)) (hne : ¬ y = 0) (k : WW p l e R s m args below meth c Q D A nL tys cells slots (pc + 1) lo (.long (x - x / y * y) :: st) w) : WW p l e R s m args below meth c Q D A nL tys cells slots pc lo (.long y :: .long x :: st) w :=
  fun hK H locs ls hP hD hS hl => lv_lrem C0.1 C0.2.1 hdg hne (k hK H locs ls hP hD hS hl)
theorem ww_iushr (C0 : CT p s m args meth c cc own nL A) {x y : Int32} (hdg : decode cc pc = .ok (.iushr, 1)) (k : WW p l e R s m args below meth c Q D A nL tys cells slots (pc + 1) lo (.int (x.toUInt32 >>> (y.toUInt32 &&& Int32.toUInt32 31)).toInt32 :: st) w) : WW p l e R s m args below meth c Q D A nL tys cells slots pc lo (.int y :: .int x :: st) w :=
  fun hK H locs ls hP hD hS hl => lv_iushr C0.1 C0.2.1 hdg rfl (k hK H locs ls hP hD hS hl)
theorem ww_lushr (C0 : CT p s m args meth c cc own nL A) {x : Int64} {y : Int32} (hdg : decode cc pc = .ok (.lushr, 1)) (k : WW p l e R s m args below meth c Q D A nL tys cells slots (pc + 1) lo (.long (x.toUInt64 >>> (y.toInt64.toUInt64 &&& Int64.toUInt64 63)).toInt64 :: st) w) : WW p l e R s m args below meth c Q D A nL tys cells slots pc lo (.int y :: .long x :: st) w :=
  fun hK H locs ls hP hD hS hl => lv_lushr C0.1 C0.2.1 hdg rfl (k hK H locs ls hP hD hS hl)
theorem ww_lshl (C0 : CT p s m args meth c cc own nL A) {x : Int64} {y : Int32} (hdg : decode cc pc = .ok (.lshl, 1)) (k : WW p l e R s m args below meth c Q D A nL tys cells slots (pc + 1) lo (.long (x <<< (y.toInt64 &&& 63)) :: st) w) : WW p l e R s m args below meth c Q D A nL tys cells slots pc lo (.int y :: .long x :: st) w :=
  fun hK H locs ls hP hD hS hl => lv_lshl C0.1 C0.2.1 hdg rfl (k hK H locs ls hP hD hS hl)
theorem ww_ineg (C0 : CT p s m args meth c cc own nL A) {x : Int32} (hdg : decode cc pc = .ok (.ineg, 1)) (k : WW p l e R s m args below meth c Q D A nL tys cells slots (pc + 1) lo (.int (-x) :: st) w) : WW p l e R s m args below meth c Q D A nL tys cells slots pc lo (.int x :: st) w :=
  fun hK H locs ls hP hD hS hl => lv_ineg C0.1 C0.2.1 hdg (k hK H locs ls hP hD hS hl)
theorem ww_i2l (C0 : CT p s m args meth c cc own nL A) {x : Int32} (hdg : decode cc pc = .ok (.i2l, 1)) (k : WW p l e R s m args below meth c Q D A nL tys cells slots (pc + 1) lo (.long x.toInt64 :: st) w) : WW p l e R s m args below meth c Q D A nL tys cells slots pc lo (.int x :: st) w :=
  fun hK H locs ls hP hD hS hl => lv_i2l C0.1 C0.2.1 hdg rfl (k hK H locs ls hP hD hS hl)
theorem ww_l2i (C0 : CT p s m args meth c cc own nL A) {x : Int64} (hdg : decode cc pc = .ok (.l2i, 1)) (k : WW p l e R s m args below meth c Q D A nL tys cells slots (pc + 1) lo (.int x.toInt32 :: st) w) : WW p l e R s m args below meth c Q D A nL tys cells slots pc lo (.long x :: st) w :=
  fun hK H locs ls hP hD hS hl => lv_l2i C0.1 C0.2.1 hdg rfl (k hK H locs ls hP hD hS hl)
theorem ww_lcmp (C0 : CT p s m args meth c cc own nL A) {x y : Int64} (hdg : decode cc pc = .ok (.lcmp, 1)) (k : WW p l e R s m args below meth c Q D A nL tys cells slots (pc + 1) lo (.int (lg_cmp x y) :: st) w) : WW p l e R s m args below meth c Q D A nL tys cells slots pc lo (.long y :: .long x :: st) w :=
  fun hK H locs ls hP hD hS hl => W.lcmp C0.1 C0.2.1 hdg (k hK H locs ls hP hD hS hl)
theorem ww_dup (C0 : CT p s m args meth c cc own nL A) {va : Value} (hdg : decode cc pc = .ok (.dup, 1)) (hva : va.category = 1) (k : WW p l e R s m args below meth c Q D A nL tys cells slots (pc + 1) lo (va :: va :: st) w) : WW p l e R s m args below meth c Q D A nL tys cells slots pc lo (va :: st) w :=
  fun hK H locs ls hP hD hS hl => lv_dup C0.1 C0.2.1 hdg hva (k hK H locs ls hP hD hS hl)
theorem ww_dup2 (C0 : CT p s m args meth c cc own nL A) {va vb : Value} (hdg : decode cc pc = .ok (.dup2, 1)) (hva : va.category = 1) (hvb : vb.category = 1) (k : WW p l e R s m args below meth c Q D A nL tys cells slots (pc + 1) lo (va :: vb :: va :: vb :: st) w) : WW p l e R s m args below meth c Q D A nL tys cells slots pc lo (va :: vb :: st) w :=
  fun hK H locs ls hP hD hS hl => lv_dup2_11 C0.1 C0.2.1 hdg hva hvb (k hK H locs ls hP hD hS hl)
theorem ww_if_eq (C0 : CT p s m args meth c cc own nL A) {x : Int32} {off : Int} {tgt : Nat} (hdg : decode cc pc = .ok (.ifCond .eq off, 3)) (ht : (pc : Int) + off = (tgt : Int)) (kt : (x = 0) → WW p l e R s m args below meth c Q D A nL tys cells slots tgt lo st w) (kf : (¬ x = 0) → WW p l e R s m args below meth c Q D A nL tys cells slots (pc + 3) lo st w) : WW p l e R s m args below meth c Q D A nL tys cells slots pc lo (.int x :: st) w :=
  fun hK H locs ls hP hD hS hl => lv_if_eq C0.1 C0.2.1 hdg ht (fun h => kt h hK H locs ls hP hD hS hl) (fun h => kf h hK H locs ls hP hD hS hl)
theorem ww_icmp_eq (C0 : CT p s m args meth c cc own nL A) {x y : Int32} {off : Int} {tgt : Nat} (hdg : decode cc pc = .ok (.if_icmp .eq off, 3)) (ht : (pc : Int) + off = (tgt : Int)) (kt : (x = y) → WW p l e R s m args below meth c Q D A nL tys cells slots tgt lo st w) (kf : (¬ x = y) → WW p l e R s m args below meth c Q D A nL tys cells slots (pc + 3) lo st w) : WW p l e R s m args below meth c Q D A nL tys cells slots pc lo (.int y :: .int x :: st) w :=
  fun hK H locs ls hP hD hS hl => lv_icmp_eq C0.1 C0.2.1 hdg ht (fun h => kt h hK H locs ls hP hD hS hl) (fun h => kf h hK H locs ls hP hD hS hl)
theorem ww_if_ne (C0 : CT p s m args meth c cc own nL A) {x : Int32} {off : Int} {tgt : Nat} (hdg : decode cc pc = .ok (.ifCond .ne off, 3)) (ht : (pc : Int) + off = (tgt : Int)) (kt : (¬ x = 0) → WW p l e R s m args below meth c Q D A nL tys cells slots tgt lo st w) (kf : (x = 0) → WW p l e R s m args below meth c Q D A nL tys cells slots (pc + 3) lo st w) : WW p l e R s m args below meth c Q D A nL tys cells slots pc lo (.int x :: st) w :=
  fun hK H locs ls hP hD hS hl => lv_if_ne C0.1 C0.2.1 hdg ht (fun h => kt h hK H locs ls hP hD hS hl) (fun h => kf h hK H locs ls hP hD hS hl)
theorem ww_icmp_ne (C0 : CT p s m args meth c cc own nL A) {x y : Int32} {off : Int} {tgt : Nat} (hdg : decode cc pc = .ok (.if_icmp .ne off, 3)) (ht : (pc : Int) + off = (tgt : Int)) (kt : (¬ x = y) → WW p l e R s m args below meth c Q D A nL tys cells slots tgt lo st w) (kf : (x = y) → WW p l e R s m args below meth c Q D A nL tys cells slots (pc + 3) lo st w) : WW p l e R s m args below meth c Q D A nL tys cells slots pc lo (.int y :: .int x :: st) w :=
  fun hK H locs ls hP hD hS hl => lv_icmp_ne C0.1 C0.2.1 hdg ht (fun h => kt h hK H locs ls hP hD hS hl) (fun h => kf h hK H locs ls hP hD hS hl)
theorem ww_if_lt (C0 : CT p s m args meth c cc own nL A) {x : Int32} {off : Int} {tgt : Nat} (hdg : decode cc pc = .ok (.ifCond .lt off, 3)) (ht : (pc : Int) + off = (tgt : Int)) (kt : (x < 0) → WW p l e R s m args below meth c Q D A nL tys cells slots tgt lo st w) (kf : (¬ x < 0) → WW p l e R s m args below meth c Q D A nL tys cells slots (pc + 3) lo st w) : WW p l e R s m args below meth c Q D A nL tys cells slots pc lo (.int x :: st) w :=
  fun hK H locs ls hP hD hS hl => lv_if_lt C0.1 C0.2.1 hdg ht (fun h => kt h hK H locs ls hP hD hS hl) (fun h => kf h hK H locs ls hP hD hS hl)
theorem ww_icmp_lt (C0 : CT p s m args meth c cc own nL A) {x y : Int32} {off : Int} {tgt : Nat} (hdg : decode cc pc = .ok (.if_icmp .lt off, 3)) (ht : (pc : Int) + off = (tgt : Int)) (kt : (x < y) → WW p l e R s m args below meth c Q D A nL tys cells slots tgt lo st w) (kf : (¬ x < y) → WW p l e R s m args below meth c Q D A nL tys cells slots (pc + 3) lo st w) : WW p l e R s m args below meth c Q D A nL tys cells slots pc lo (.int y :: .int x :: st) w :=
  fun hK H locs ls hP hD hS hl => lv_icmp_lt C0.1 C0.2.1 hdg ht (fun h => kt h hK H locs ls hP hD hS hl) (fun h => kf h hK H locs ls hP hD hS hl)
theorem ww_if_ge (C0 : CT p s m args meth c cc own nL A) {x : Int32} {off : Int} {tgt : Nat} (hdg : decode cc pc = .ok (.ifCond .ge off, 3)) (ht : (pc : Int) + off = (tgt : Int)) (kt : (0 ≤ x) → WW p l e R s m args below meth c Q D A nL tys cells slots tgt lo st w) (kf : (¬ 0 ≤ x) → WW p l e R s m args below meth c Q D A nL tys cells slots (pc + 3) lo st w) : WW p l e R s m args below meth c Q D A nL tys cells slots pc lo (.int x :: st) w :=
  fun hK H locs ls hP hD hS hl => lv_if_ge C0.1 C0.2.1 hdg ht (fun h => kt h hK H locs ls hP hD hS hl) (fun h => kf h hK H locs ls hP hD hS hl)
theorem ww_icmp_ge (C0 : CT p s m args meth c cc own nL A) {x y : Int32} {off : Int} {tgt : Nat} (hdg : decode cc pc = .ok (.if_icmp .ge off, 3)) (ht : (pc : Int) + off = (tgt : Int)) (kt : (y ≤ x) → WW p l e R s m args below meth c Q D A nL tys cells slots tgt lo st w) (kf : (¬ y ≤ x) → WW p l e R s m args below meth c Q D A nL tys cells slots (pc + 3) lo st w) : WW p l e R s m args below meth c Q D A nL tys cells slots pc lo (.int y :: .int x :: st) w :=
  fun hK H locs ls hP hD hS hl => lv_icmp_ge C0.1 C0.2.1 hdg ht (fun h => kt h hK H locs ls hP hD hS hl) (fun h => kf h hK H locs ls hP hD hS hl)
theorem ww_if_gt (C0 : CT p s m args meth c cc own nL A) {x : Int32} {off : Int} {tgt : Nat} (hdg : decode cc pc = .ok (.ifCond .gt off, 3)) (ht : (pc : Int) + off = (tgt : Int)) (kt : (0 < x) → WW p l e R s m args below meth c Q D A nL tys cells slots tgt lo st w) (kf : (¬ 0 < x) → WW p l e R s m args below meth c Q D A nL tys cells slots (pc + 3) lo st w) : WW p l e R s m args below meth c Q D A nL tys cells slots pc lo (.int x :: st) w :=
  fun hK H locs ls hP hD hS hl => lv_if_gt C0.1 C0.2.1 hdg ht (fun h => kt h hK H locs ls hP hD hS hl) (fun h => kf h hK H locs ls hP hD hS hl)
theorem ww_icmp_gt (C0 : CT p s m args meth c cc own nL A) {x y : Int32} {off : Int} {tgt : Nat} (hdg : decode cc pc = .ok (.if_icmp .gt off, 3)) (ht : (pc : Int) + off = (tgt : Int)) (kt : (y < x) → WW p l e R s m args below meth c Q D A nL tys cells slots tgt lo st w) (kf : (¬ y < x) → WW p l e R s m args below meth c Q D A nL tys cells slots (pc + 3) lo st w) : WW p l e R s m args below meth c Q D A nL tys cells slots pc lo (.int y :: .int x :: st) w :=
  fun hK H locs ls hP hD hS hl => lv_icmp_gt C0.1 C0.2.1 hdg ht (fun h => kt h hK H locs ls hP hD hS hl) (fun h => kf h hK H locs ls hP hD hS hl)
theorem ww_if_le (C0 : CT p s m args meth c cc own nL A) {x : Int32} {off : Int} {tgt : Nat} (hdg : decode cc pc = .ok (.ifCond .le off, 3)) (ht : (pc : Int) + off = (tgt : Int)) (kt : (x ≤ 0) → WW p l e R s m args below meth c Q D A nL tys cells slots tgt lo st w) (kf : (¬ x ≤ 0) → WW p l e R s m args below meth c Q D A nL tys cells slots (pc + 3) lo st w) : WW p l e R s m args below meth c Q D A nL tys cells slots pc lo (.int x :: st) w :=
  fun hK H locs ls hP hD hS hl => lv_if_le C0.1 C0.2.1 hdg ht (fun h => kt h hK H locs ls hP hD hS hl) (fun h => kf h hK H locs ls hP hD hS hl)
theorem ww_icmp_le (C0 : CT p s m args meth c cc own nL A) {x y : Int32} {off : Int} {tgt : Nat} (hdg : decode cc pc = .ok (.if_icmp .le off, 3)) (ht : (pc : Int) + off = (tgt : Int)) (kt : (x ≤ y) → WW p l e R s m args below meth c Q D A nL tys cells slots tgt lo st w) (kf : (¬ x ≤ y) → WW p l e R s m args below meth c Q D A nL tys cells slots (pc + 3) lo st w) : WW p l e R s m args below meth c Q D A nL tys cells slots pc lo (.int y :: .int x :: st) w :=
  fun hK H locs ls hP hD hS hl => lv_icmp_le C0.1 C0.2.1 hdg ht (fun h => kt h hK H locs ls hP hD hS hl) (fun h => kf h hK H locs ls hP hD hS hl)
theorem ww_goto (C0 : CT p s m args meth c cc own nL A) {off : Int} {tgt : Nat} (hdg : decode cc pc = .ok (.goto off, 3)) (ht : (pc : Int) + off = (tgt : Int)) (k : WW p l e R s m args below meth c Q D A nL tys cells slots tgt lo st w) : WW p l e R s m args below meth c Q D A nL tys cells slots pc lo st w :=
  fun hK H locs ls hP hD hS hl => lv_goto C0.1 C0.2.1 hdg ht (k hK H locs ls hP hD hS hl)
theorem ww_tableIn (C0 : CT p s m args meth c cc own nL A) {dflt lo1 hi : Int} {offs : Array Int} {len : Nat} {x : Int32} {off : Int} {tgt : Nat} (hdg : decode cc pc = .ok (.tableswitch dflt lo1 hi offs, len)) (h1 : ¬ x.toInt < lo1) (h2 : ¬ hi < x.toInt) (ho : offs[(x.toInt - lo1).toNat]? = some off) (ht : (pc : Int) + off = (tgt : Int)) (k : WW p l e R s m args below meth c Q D A nL tys cells slots tgt lo st w) : WW p l e R s m args below meth c Q D A nL tys cells slots pc lo (.int x :: st) w :=
  fun hK H locs ls hP hD hS hl => lv_tableIn C0.1 C0.2.1 hdg h1 h2 ho ht (k hK H locs ls hP hD hS hl)
theorem ww_tableOut (C0 : CT p s m args meth c cc own nL A) {dflt lo1 hi : Int} {offs : Array Int} {len : Nat} {x : Int32} {tgt : Nat} (hdg : decode cc pc = .ok (.tableswitch dflt lo1 hi offs, len)) (h : x.toInt < lo1 ∨ hi < x.toInt) (ht : (pc : Int) + dflt = (tgt : Int)) (k : WW p l e R s m args below meth c Q D A nL tys cells slots tgt lo st w) : WW p l e R s m args below meth c Q D A nL tys cells slots pc lo (.int x :: st) w :=
  fun hK H locs ls hP hD hS hl => lv_tableOut C0.1 C0.2.1 hdg h ht (k hK H locs ls hP hD hS hl)
theorem ww_lookup (C0 : CT p s m args meth c cc own nL A) {dflt : Int} {ps : Array (Int × Int)} {len : Nat} {x : Int32} {off : Int} {tgt : Nat} (hdg : decode cc pc = .ok (.lookupswitch dflt ps, len)) (hp : (ps.toList.zip (ps.toList.drop 1)).all (fun (a, next) => a.1 < next.1) = true) (ho : Op.lookupswitch.offset ps.toList dflt x.toInt = off) (ht : (pc : Int) + off = (tgt : Int)) (k : WW p l e R s m args below meth c Q D A nL tys cells slots tgt lo st w) : WW p l e R s m args below meth c Q D A nL tys cells slots pc lo (.int x :: st) w :=
  fun hK H locs ls hP hD hS hl => lv_lookup C0.1 C0.2.1 hdg hp ho ht (k hK H locs ls hP hD hS hl)
theorem ww_ifnull (C0 : CT p s m args meth c cc own nL A) {x : Nat} {off : Int} (hdg : decode cc pc = .ok (.ifnull off, 3)) (k : WW p l e R s m args below meth c Q D A nL tys cells slots (pc + 3) lo st w) : WW p l e R s m args below meth c Q D A nL tys cells slots pc lo (.ref x :: st) w :=
  fun hK H locs ls hP hD hS hl => lv_ifnull C0.1 C0.2.1 hdg (k hK H locs ls hP hD hS hl)
theorem ww_ifnonnull (C0 : CT p s m args meth c cc own nL A) {x : Nat} {off : Int} {tgt : Nat} (hdg : decode cc pc = .ok (.ifnonnull off, 3)) (ht : (pc : Int) + off = (tgt : Int)) (k : WW p l e R s m args below meth c Q D A nL tys cells slots tgt lo st w) : WW p l e R s m args below meth c Q D A nL tys cells slots pc lo (.ref x :: st) w :=
  fun hK H locs ls hP hD hS hl => lv_ifnonnull C0.1 C0.2.1 hdg ht (k hK H locs ls hP hD hS hl)
theorem ww_get (C0 : CT p s m args meth c cc own nL A) {a ci : Nat} {C : String} {T : u_T} {N : Nat} {index : Nat} (hin : ∀ w ∈ u_ws C T N, w ∈ rg_tbl) (q0 : Nat) {fs : List Value} (he : w[q0]? = some (a, .inr (ci, fs))) (hc : vwCl[ci]? = some (C, T, N)) (k : Nat) (hk : k < N) (hlink : Cond.fieldLink own index (T k).1 (T k).2.1 (T k).2.2.1 ∈ rg_tbl) {v : Value} (hv : fs[k]? = some v) (hdg : decode cc pc = .ok (.getfield index, 3)) (kk : WW p l e R s m args below meth c Q D A nL tys cells slots (pc + 3) lo (v :: st) w) : WW p l e R s m args below meth c Q D A nL tys cells slots pc lo (.ref a :: st) w :=
  fun hK H locs ls hP hD hS hl => va_get C0.1 C0.2.1 C0.2.2.2.2.1 hin C0.2.2.2.1 hK hP q0 he hc k hk (C0.2.2.2.2.1 _ hlink) (fun _ h9 => h9) hv hdg (kk hK H locs ls hP hD hS hl)
theorem ww_getN (C0 : CT p s m args meth c cc own nL A) {a ci : Nat} {C : String} {T : u_T} {N : Nat} {host : String} {index : Nat} (hin : ∀ w ∈ u_ws C T N, w ∈ rg_tbl) (q0 : Nat) {fs : List Value} (he : w[q0]? = some (a, .inr (ci, fs))) (hc : vwCl[ci]? = some (C, T, N)) (k : Nat) (hk : k < N) (hlink : Cond.fieldLinkNest own index (T k).1 (T k).2.1 (T k).2.2.1 host ∈ nk_tbl) {v : Value} (hv : fs[k]? = some v) (hdg : decode cc pc = .ok (.getfield index, 3)) (kk : WW p l e R s m args below meth c Q D A nL tys cells slots (pc + 3) lo (v :: st) w) : WW p l e R s m args below meth c Q D A nL tys cells slots pc lo (.ref a :: st) w :=
  fun hK H locs ls hP hD hS hl => va_getN C0.1 C0.2.1 C0.2.2.2.2.1 hin C0.2.2.2.1 hK hP q0 he hc k hk (va_Nw.use rfl (C0.2.2.2.2.2.2.2 _ hlink)) (fun _ h9 => h9) hv hdg (kk hK H locs ls hP hD hS hl)
theorem ww_put (C0 : CT p s m args meth c cc own nL A) {a ci : Nat} {C : String} {T : u_T} {N : Nat} {index : Nat} (hin : ∀ w ∈ u_ws C T N, w ∈ rg_tbl) (q0 : Nat) {fs : List Value} (he : w[q0]? = some (a, .inr (ci, fs))) (hc : vwCl[ci]? = some (C, T, N)) (k : Nat) (hk : k < N) (ty0 : Nat → FieldType) (hty : ∀ k, k < N → parseFieldDescriptor (T k).2.2.1 = some (ty0 k)) (hnm : ∀ a, a < N → ∀ b, b < N → a ≠ b → (T a).2.1 ≠ (T b).2.1) (hlink : Cond.fieldLink own index (T k).1 (T k).2.1 (T k).2.2.1 ∈ rg_tbl) (hfin : (T k).2.2.2 = false) {ty : FieldType} {v : Value} (hd : parseFieldDescriptor (T k).2.2.1 = some ty) (hn : narrow ty v = v) (hfit : fits ty v = true) (hl0 : k < fs.length) (hdg : decode cc pc = .ok (.putfield index, 3)) (kk : WW p l e R s m args below meth c Q D A nL tys cells slots (pc + 3) lo st (w.set q0 (a, .inr (ci, fs.set k v)))) : WW p l e R s m args below meth c Q D A nL tys cells slots pc lo (v :: .ref a :: st) w :=
  fun hK H locs ls hP hD hS hl => va_put C0.1 C0.2.1 C0.2.2.2.2.1 hin ty0 hty hnm C0.2.2.2.1 hK hP hD hS q0 he hc k hk (C0.2.2.2.2.1 _ hlink) (fun _ h9 => h9) hfin hd hn hfit hl0 hdg (fun H1 locs1 hP1 hD1 hS1 => kk hK H1 locs1 ls hP1 hD1 hS1 hl)
theorem ww_putN (C0 : CT p s m args meth c cc own nL A) {a ci : Nat} {C : String} {T : u_T} {N : Nat} {host : String} {index : Nat} (hin : ∀ w ∈ u_ws C T N, w ∈ rg_tbl) (q0 : Nat) {fs : List Value} (he : w[q0]? = some (a, .inr (ci, fs))) (hc : vwCl[ci]? = some (C, T, N)) (k : Nat) (hk : k < N) (ty0 : Nat → FieldType) (hty : ∀ k, k < N → parseFieldDescriptor (T k).2.2.1 = some (ty0 k)) (hnm : ∀ a, a < N → ∀ b, b < N → a ≠ b → (T a).2.1 ≠ (T b).2.1) (hlink : Cond.fieldLinkNest own index (T k).1 (T k).2.1 (T k).2.2.1 host ∈ nk_tbl) (hfin : (T k).2.2.2 = false) {ty : FieldType} {v : Value} (hd : parseFieldDescriptor (T k).2.2.1 = some ty) (hn : narrow ty v = v) (hfit : fits ty v = true) (hl0 : k < fs.length) (hdg : decode cc pc = .ok (.putfield index, 3)) (kk : WW p l e R s m args below meth c Q D A nL tys cells slots (pc + 3) lo st (w.set q0 (a, .inr (ci, fs.set k v)))) : WW p l e R s m args below meth c Q D A nL tys cells slots pc lo (v :: .ref a :: st) w :=
  fun hK H locs ls hP hD hS hl => va_putN C0.1 C0.2.1 C0.2.2.2.2.1 hin ty0 hty hnm C0.2.2.2.1 hK hP hD hS q0 he hc k hk (va_Nw.use rfl (C0.2.2.2.2.2.2.2 _ hlink)) (fun _ h9 => h9) hfin hd hn hfit hl0 hdg (fun H1 locs1 hP1 hD1 hS1 => kk hK H1 locs1 ls hP1 hD1 hS1 hl)
theorem ww_putF (C0 : CT p s m args meth c cc own nL A) (hinit : meth.name = "<init>") {a ci : Nat} {C : String} {T : u_T} {N : Nat} {index : Nat} (hin : ∀ w ∈ u_ws C T N, w ∈ rg_tbl) (q0 : Nat) {fs : List Value} (he : w[q0]? = some (a, .inr (ci, fs))) (hc : vwCl[ci]? = some (C, T, N)) (k : Nat) (hk : k < N) (ty0 : Nat → FieldType) (hty : ∀ k, k < N → parseFieldDescriptor (T k).2.2.1 = some (ty0 k)) (hnm : ∀ a, a < N → ∀ b, b < N → a ≠ b → (T a).2.1 ≠ (T b).2.1) (hlink : Cond.fieldLink own index (T k).1 (T k).2.1 (T k).2.2.1 ∈ rg_tbl) (hfin : (T k).2.2.2 = true) (hdecl : (T k).1 = own) {ty : FieldType} {v : Value} (hd : parseFieldDescriptor (T k).2.2.1 = some ty) (hn : narrow ty v = v) (hfit : fits ty v = true) (hl0 : k < fs.length) (hdg : decode cc pc = .ok (.putfield index, 3)) (kk : WW p l e R s m args below meth c Q D A nL tys cells slots (pc + 3) lo st (w.set q0 (a, .inr (ci, fs.set k v)))) : WW p l e R s m args below meth c Q D A nL tys cells slots pc lo (v :: .ref a :: st) w :=
  fun hK H locs ls hP hD hS hl => va_putF C0.1 C0.2.1 C0.2.2.2.2.1 hin ty0 hty hnm C0.2.2.2.1 hK hP hD hS q0 he hc k hk (C0.2.2.2.2.1 _ hlink) (fun _ h9 => h9) hfin hinit hdecl hd hn hfit hl0 hdg (fun H1 locs1 hP1 hD1 hS1 => kk hK H1 locs1 ls hP1 hD1 hS1 hl)
theorem ww_iald (C0 : CT p s m args meth c cc own nL A) {a : Nat} (q0 t0 : Nat) {cA : ClassId} {n : Nat} {f : Nat → Int32} (ha : w[q0]? = some (a, .inl (cA, n, .inl f))) (ht : tys[t0]? = some (cA, .int)) {i : Int32} (hin : vp_in i n) (hdg : decode cc pc = .ok (.iaload, 1)) (kk : WW p l e R s m args below meth c Q D A nL tys cells slots (pc + 1) lo (.int (f i.toNatClampNeg) :: st) w) : WW p l e R s m args below meth c Q D A nL tys cells slots pc lo (.int i :: .ref a :: st) w :=
  fun hK H locs ls hP hD hS hl => va_iald C0.1 C0.2.1 hK hP q0 t0 ha ht hin hdg (kk hK H locs ls hP hD hS hl)
theorem ww_iald_n (C0 : CT p s m args meth c cc own nL A) {a : Nat} (q0 t0 : Nat) {cA : ClassId} {n : Nat} {f : Nat → Int32} (ha : w[q0]? = some (a, .inl (cA, n, .inl f))) (ht : tys[t0]? = some (cA, .int)) {i : Int32} {j : Nat} (hi : i = nI j) (hj : j < n) (hn : n < 2 ^ 31) (hdg : decode cc pc = .ok (.iaload, 1)) (kk : WW p l e R s m args below meth c Q D A nL tys cells slots (pc + 1) lo (.int (f j) :: st) w) : WW p l e R s m args below meth c Q D A nL tys cells slots pc lo (.int i :: .ref a :: st) w := by
  subst hi
  exact ww_iald C0 q0 t0 ha ht (vp_in_nI hj hn) hdg (by rw [nI_clamp (by omega)]; exact kk)
theorem ww_zald (C0 : CT p s m args meth c cc own nL A) {a : Nat} (q0 t0 : Nat) {cA : ClassId} {n : Nat} {f : Nat → Int32} (ha : w[q0]? = some (a, .inl (cA, n, .inl f))) (ht : tys[t0]? = some (cA, .boolean)) {i : Int32} (hin : vp_in i n) (hdg : decode cc pc = .ok (.baload, 1)) (kk : WW p l e R s m args below meth c Q D A nL tys cells slots (pc + 1) lo (.int (f i.toNatClampNeg) :: st) w) : WW p l e R s m args below meth c Q D A nL tys cells slots pc lo (.int i :: .ref a :: st) w :=
  fun hK H locs ls hP hD hS hl => va_zald C0.1 C0.2.1 hK hP q0 t0 ha ht hin hdg (kk hK H locs ls hP hD hS hl)
theorem ww_zald_n (C0 : CT p s m args meth c cc own nL A) {a : Nat} (q0 t0 : Nat) {cA : ClassId} {n : Nat} {f : Nat → Int32} (ha : w[q0]? = some (a, .inl (cA, n, .inl f))) (ht : tys[t0]? = some (cA, .boolean)) {i : Int32} {j : Nat} (hi : i = nI j) (hj : j < n) (hn : n < 2 ^ 31) (hdg : decode cc pc = .ok (.baload, 1)) (kk : WW p l e R s m args below meth c Q D A nL tys cells slots (pc + 1) lo (.int (f j) :: st) w) : WW p l e R s m args below meth c Q D A nL tys cells slots pc lo (.int i :: .ref a :: st) w := by
  subst hi
  exact ww_zald C0 q0 t0 ha ht (vp_in_nI hj hn) hdg (by rw [nI_clamp (by omega)]; exact kk)
theorem ww_iast (C0 : CT p s m args meth c cc own nL A) {a : Nat} (q0 t0 : Nat) {cA : ClassId} {n : Nat} {f : Nat → Int32} (ha : w[q0]? = some (a, .inl (cA, n, .inl f))) (ht : tys[t0]? = some (cA, .int)) {i x : Int32} (hin : vp_in i n) (hdg : decode cc pc = .ok (.iastore, 1)) (kk : WW p l e R s m args below meth c Q D A nL tys cells slots (pc + 1) lo st (w.set q0 (a, .inl (cA, n, .inl (upd f i.toNatClampNeg x))))) : WW p l e R s m args below meth c Q D A nL tys cells slots pc lo (.int x :: .int i :: .ref a :: st) w :=
  fun hK H locs ls hP hD hS hl => va_iast C0.1 C0.2.1 hK hP hD hS q0 t0 ha ht hin hdg (fun H1 locs1 hP1 hD1 hS1 => kk hK H1 locs1 ls hP1 hD1 hS1 hl)
theorem ww_iast_n (C0 : CT p s m args meth c cc own nL A) {a : Nat} (q0 t0 : Nat) {cA : ClassId} {n : Nat} {f : Nat → Int32} (ha : w[q0]? = some (a, .inl (cA, n, .inl f))) (ht : tys[t0]? = some (cA, .int)) {i x : Int32} {j : Nat} (hi : i = nI j) (hj : j < n) (hn : n < 2 ^ 31) (hdg : decode cc pc = .ok (.iastore, 1)) (kk : WW p l e R s m args below meth c Q D A nL tys cells slots (pc + 1) lo st (w.set q0 (a, .inl (cA, n, .inl (upd f j x))))) : WW p l e R s m args below meth c Q D A nL tys cells slots pc lo (.int x :: .int i :: .ref a :: st) w := by
  subst hi
  exact ww_iast C0 q0 t0 ha ht (vp_in_nI hj hn) hdg (by rw [nI_clamp (by omega)]; exact kk)
theorem ww_zast (C0 : CT p s m args meth c cc own nL A) {a : Nat} (q0 t0 : Nat) {cA : ClassId} {n : Nat} {f : Nat → Int32} (ha : w[q0]? = some (a, .inl (cA, n, .inl f))) (ht : tys[t0]? = some (cA, .boolean)) {i x : Int32} (hin : vp_in i n) (hdg : decode cc pc = .ok (.bastore, 1)) (kk : WW p l e R s m args below meth c Q D A nL tys cells slots (pc + 1) lo st (w.set q0 (a, .inl (cA, n, .inl (upd f i.toNatClampNeg (vp_nar .boolean x)))))) : WW p l e R s m args below meth c Q D A nL tys cells slots pc lo (.int x :: .int i :: .ref a :: st) w :=
  fun hK H locs ls hP hD hS hl => va_zast C0.1 C0.2.1 hK hP hD hS q0 t0 ha ht hin hdg (fun H1 locs1 hP1 hD1 hS1 => kk hK H1 locs1 ls hP1 hD1 hS1 hl)
theorem ww_zast_n (C0 : CT p s m args meth c cc own nL A) {a : Nat} (q0 t0 : Nat) {cA : ClassId} {n : Nat} {f : Nat → Int32} (ha : w[q0]? = some (a, .inl (cA, n, .inl f))) (ht : tys[t0]? = some (cA, .boolean)) {i x : Int32} {j : Nat} (hi : i = nI j) (hj : j < n) (hn : n < 2 ^ 31) (hdg : decode cc pc = .ok (.bastore, 1)) (kk : WW p l e R s m args below meth c Q D A nL tys cells slots (pc + 1) lo st (w.set q0 (a, .inl (cA, n, .inl (upd f j (vp_nar .boolean x)))))) : WW p l e R s m args below meth c Q D A nL tys cells slots pc lo (.int x :: .int i :: .ref a :: st) w := by
  subst hi
  exact ww_zast C0 q0 t0 ha ht (vp_in_nI hj hn) hdg (by rw [nI_clamp (by omega)]; exact kk)
theorem ww_aald (C0 : CT p s m args meth c cc own nL A) {a : Nat} (q0 t0 : Nat) {cA : ClassId} {C : String} {n : Nat} {f : Nat → Option Nat} (ha : w[q0]? = some (a, .inl (cA, n, .inr (.inr (.inr (.inr f)))))) (ht : tys[t0]? = some (cA, .object C)) {i : Int32} {j b : Nat} (hi : i = nI j) (hj : j < n) (hn : n < 2 ^ 31) (hf : f j = some b) (hdg : decode cc pc = .ok (.aaload, 1)) (kk : WW p l e R s m args below meth c Q D A nL tys cells slots (pc + 1) lo (.ref b :: st) w) : WW p l e R s m args below meth c Q D A nL tys cells slots pc lo (.int i :: .ref a :: st) w := by
  subst hi
  intro hK H locs ls hP hD hS hl
  refine va_aldq C0.1 C0.2.1 hK hP q0 t0 ha ht (vp_in_nI hj hn) hdg ?_
  rw [nI_clamp (by omega), hf]
  exact kk hK H locs ls hP hD hS hl
theorem ww_aast (C0 : CT p s m args meth c cc own nL A) {a : Nat} (q0 t0 qk ci : Nat) {cA : ClassId} {r : vw_C} {n v : Nat} {vs : List Value} {f : Nat → Option Nat} (ha : w[q0]? = some (a, .inl (cA, n, .inr (.inr (.inr (.inr f)))))) (ht : tys[t0]? = some (cA, .object r.1)) (hv : w[qk]? = some (v, .inr (ci, vs))) (hc : vwCl[ci]? = some r) {i : Int32} {j : Nat} (hi : i = nI j) (hj : j < n) (hn : n < 2 ^ 31) (hdg : decode cc pc = .ok (.aastore, 1)) (kk : WW p l e R s m args below meth c Q D A nL tys cells slots (pc + 1) lo st (w.set q0 (a, .inl (cA, n, .inr (.inr (.inr (.inr (va_up f j (some v))))))))) : WW p l e R s m args below meth c Q D A nL tys cells slots pc lo (.ref v :: .int i :: .ref a :: st) w := by
  subst hi
  intro hK H locs ls hP hD hS hl
  refine va_astq C0.1 C0.2.1 hK hP hD hS q0 t0 qk ci ha ht hv hc (vp_in_nI hj hn) hdg (fun H1 locs1 hP1 hD1 hS1 => ?_)
  rw [nI_clamp (by omega)] at hP1 hD1
  exact kk hK H1 locs1 ls hP1 hD1 hS1 hl
theorem ww_alen (C0 : CT p s m args meth c cc own nL A) {a : Nat} (q0 t0 : Nat) {cA : ClassId} {x : vp_A} (ha : w[q0]? = some (a, .inl (cA, x))) {ty : FieldType} (ht : tys[t0]? = some (cA, ty)) {v : Int32} (hv : Int32.ofNat x.1 = v) (hdg : decode cc pc = .ok (.arraylength, 1)) (kk : WW p l e R s m args below meth c Q D A nL tys cells slots (pc + 1) lo (.int v :: st) w) : WW p l e R s m args below meth c Q D A nL tys cells slots pc lo (.ref a :: st) w :=
  fun hK H locs ls hP hD hS hl => va_alen C0.1 C0.2.1 hK hP q0 t0 ha ht hv hdg (kk hK H locs ls hP hD hS hl)
theorem ww_new (C0 : CT p s m args meth c cc own nL A) {ci : Nat} {C : String} {T : u_T} {N : Nat} {index : Nat} (hin : ∀ w ∈ u_ws C T N, w ∈ rg_tbl) (ty0 : Nat → FieldType) (hty : ∀ k, k < N → parseFieldDescriptor (T k).2.2.1 = some (ty0 k)) (hcl : Cond.classLink own index C ∈ rg_tbl) (hinst : Cond.instantiable C N ∈ rg_tbl) (hini : Cond.initialized C ∈ rg_tbl) (hc : vwCl[ci]? = some (C, T, N)) {fs : List Value} (hfs : ∀ j, j < N → defaultValue (ty0 j) = vp_V fs j) (hcells : cells + 1 ≤ R.cells) (hslots : slots + N ≤ R.slots) (hdg : decode cc pc = .ok (.new index, 3)) (kk : ∀ q : Nat, WW p l e R s m args below meth c Q D A nL tys (cells + 1) (slots + N) (pc + 3) lo (.ref q :: st) (w ++ [(q, .inr (ci, fs))])) : WW p l e R s m args below meth c Q D A nL tys cells slots pc lo st w :=
  fun hK H locs ls hP hD hS hl => va_new C0.1 C0.2.1 C0.2.2.2.2.1 hin ty0 hty C0.2.2.2.1 (C0.2.2.2.2.1 _ hcl) (C0.2.2.2.2.1 _ hinst) (C0.2.2.2.2.1 _ hini) hK hP hD hS C0.2.2.2.2.2.1 hc hfs hcells hslots hdg (fun q H1 hP1 hD1 hS1 => kk q hK H1 locs ls hP1 hD1 hS1 hl)
/-- two arrays' classes of one kind are one -/
theorem ww_sameA {U : State} {cA cB : ClassId} {ty : FieldType} (h1 : va_RA U cA ty) (h2 : va_RA U cB ty) : cA = cB := by
  have key : ∀ {c : ClassId}, va_RA U c ty → U.vm.findClass ("[" ++ ty.toString) = some c := by
    intro c h
    cases ty <;> first | exact h | (obtain ⟨_, _, _, _, _, h4⟩ := h; exact h4)
  exact Option.some.inj ((key h1).symm.trans (key h2))
theorem ww_newa (C0 : CT p s m args meth c cc own nL A) {atype : ArrayType} {ty : FieldType} (harr : Cond.arrayClass ty ∈ rg_tbl) (hty : newarray.typeOf atype = ty) {n : Int32} {N' : Nat} {a0 : vp_A} (ha : ∀ cA : ClassId, vp_cell cA a0 = arrV cA N' (fun _ => defaultValue ty)) (hn : ¬ n < 0) (hN : n.toNatClampNeg = N') (hbytes : N' * componentBytes ty ≤ 536870912) (hcells : cells + 1 ≤ R.cells) (hslots : slots + N' ≤ R.slots) (hdg : decode cc pc = .ok (.newarray atype, 2)) (kk : ∀ (q : Nat) (cA : ClassId), WW p l e R s m args below meth c Q D A nL (tys ++ [(cA, ty)]) (cells + 1) (slots + N') (pc + 2) lo (.ref q :: st) (w ++ [(q, .inl (cA, a0))])) : WW p l e R s m args below meth c Q D A nL tys cells slots pc lo (.int n :: st) w := by
  subst hty
  exact fun hK H locs ls hP hD hS hl => va_newa C0.1 C0.2.1 (C0.2.2.2.2.1 _ harr) rfl hK hP hD hS C0.2.2.2.2.2.1 ha hn hN hbytes hcells hslots hdg (fun q cA H1 hK1 hP1 hD1 hS1 => kk q cA hK1 H1 locs ls hP1 hD1 hS1 hl)
/-- a new array of a kind that is known: its class is the one that is listed -/
theorem ww_newaK (C0 : CT p s m args meth c cc own nL A) {atype : ArrayType} {ty : FieldType} (harr : Cond.arrayClass ty ∈ rg_tbl) (hty : newarray.typeOf atype = ty) (t0 : Nat) {cB : ClassId} (ht : tys[t0]? = some (cB, ty)) {n : Int32} {N' : Nat} {a0 : vp_A} (ha : ∀ cA : ClassId, vp_cell cA a0 = arrV cA N' (fun _ => defaultValue ty)) (hn : ¬ n < 0) (hN : n.toNatClampNeg = N') (hbytes : N' * componentBytes ty ≤ 536870912) (hcells : cells + 1 ≤ R.cells) (hslots : slots + N' ≤ R.slots) (hdg : decode cc pc = .ok (.newarray atype, 2)) (kk : ∀ (q : Nat), WW p l e R s m args below meth c Q D A nL tys (cells + 1) (slots + N') (pc + 2) lo (.ref q :: st) (w ++ [(q, .inl (cB, a0))])) : WW p l e R s m args below meth c Q D A nL tys cells slots pc lo (.int n :: st) w := by
  refine ww_newa C0 harr hty ha hn hN hbytes hcells hslots hdg (fun q cA => ?_)
  intro hK H locs ls hP hD hS hl
  have h1 := (hK.2 t0 (cB, ty) (by rw [List.getElem?_append_left (List.getElem?_eq_some_iff.mp ht).1]; exact ht)).2
  have h2 := (hK.2 tys.length (cA, ty) (by simp)).2
  have hc : cA = cB := ww_sameA h2 h1
  subst hc
  exact kk q ⟨hK.1, fun k x hx => hK.2 k x (by rw [List.getElem?_append_left (List.getElem?_eq_some_iff.mp hx).1]; exact hx)⟩ H locs ls hP hD hS hl
theorem ww_newq (C0 : CT p s m args meth c cc own nL A) {C : String} {index : Nat} (hcl : Cond.classLink own index C ∈ rg_tbl) (hover : va_AO C s) {n : Int32} {N' : Nat} (hn : ¬ n < 0) (hN : n.toNatClampNeg = N') (hbytes : N' * 4 ≤ 536870912) (hcells : cells + 1 ≤ R.cells) (hslots : slots + N' ≤ R.slots) (hdg : decode cc pc = .ok (.anewarray index, 3)) (kk : ∀ (q : Nat) (cA : ClassId), WW p l e R s m args below meth c Q D A nL (tys ++ [(cA, .object C)]) (cells + 1) (slots + N') (pc + 3) lo (.ref q :: st) (w ++ [(q, .inl (cA, N', .inr (.inr (.inr (.inr (fun _ => none))))))])) : WW p l e R s m args below meth c Q D A nL tys cells slots pc lo (.int n :: st) w :=
  fun hK H locs ls hP hD hS hl => va_newq C0.1 C0.2.1 C0.2.2.2.1 (C0.2.2.2.2.1 _ hcl) hover hK hP hD hS C0.2.2.2.2.2.1 hn hN hbytes hcells hslots hdg (fun q cA H1 hK1 hP1 hD1 hS1 => kk q cA hK1 H1 locs ls hP1 hD1 hS1 hl)
theorem ww_newqK (C0 : CT p s m args meth c cc own nL A) {C : String} {index : Nat} (hcl : Cond.classLink own index C ∈ rg_tbl) (hover : va_AO C s) (t0 : Nat) {cB : ClassId} (ht : tys[t0]? = some (cB, .object C)) {n : Int32} {N' : Nat} (hn : ¬ n < 0) (hN : n.toNatClampNeg = N') (hbytes : N' * 4 ≤ 536870912) (hcells : cells + 1 ≤ R.cells) (hslots : slots + N' ≤ R.slots) (hdg : decode cc pc = .ok (.anewarray index, 3)) (kk : ∀ (q : Nat), WW p l e R s m args below meth c Q D A nL tys (cells + 1) (slots + N') (pc + 3) lo (.ref q :: st) (w ++ [(q, .inl (cB, N', .inr (.inr (.inr (.inr (fun _ => none))))))])) : WW p l e R s m args below meth c Q D A nL tys cells slots pc lo (.int n :: st) w := by
  refine ww_newq C0 hcl hover hn hN hbytes hcells hslots hdg (fun q cA => ?_)
  intro hK H locs ls hP hD hS hl
  have h1 := (hK.2 t0 (cB, .object C) (by rw [List.getElem?_append_left (List.getElem?_eq_some_iff.mp ht).1]; exact ht)).2
  have h2 := (hK.2 tys.length (cA, .object C) (by simp)).2
  have hc : cA = cB := ww_sameA h2 h1
  subst hc
  exact kk q ⟨hK.1, fun k x hx => hK.2 k x (by rw [List.getElem?_append_left (List.getElem?_eq_some_iff.mp hx).1]; exact hx)⟩ H locs ls hP hD hS hl
theorem ww_objInit (C0 : CT p s m args meth c cc own nL A) {a index : Nat} (hlink : Cond.methodLink own index objectInit ∈ rg_tbl) (hsum : (st.map fun v => v.category).sum ≤ 0) (hdg : decode cc pc = .ok (.invokespecial index, 3)) (hfr : 1 ≤ R.frames) (hlo : 12 ≤ R.locals) (kk : WW p l e R s m args below meth c Q D A nL tys cells slots (pc + 3) lo st w) : WW p l e R s m args below meth c Q D A nL tys cells slots pc lo (.ref a :: st) w :=
  fun hK H locs ls hP hD hS hl => W.objInit C0.1 C0.2.1 C0.2.2.2.1 (C0.2.2.2.2.1 _ hlink) (C0.2.2.2.2.1 _ km_objectInit) (C0.2.2.2.2.1 _ kd_objectInit) rfl (by show ls.size = c.maxLocals; rw [C0.2.2.1, ← hl.2.1]) rfl hdg hfr (by show 0 + (st.map fun v => v.category).sum + 12 ≤ R.locals; omega) (kk hK H locs ls hP hD hS hl)
theorem ww_widen {k n : Nat} (h1 : cells ≤ k) (h2 : slots ≤ n) (kk : WW p l e R s m args below meth c Q D A nL tys k n pc lo st w) : WW p l e R s m args below meth c Q D A nL tys cells slots pc lo st w :=
  fun hK H locs ls hP hD hS hl => W.widen h1 h2 (kk hK H locs ls hP hD hS hl)
theorem ww_cong {lo' st' : List Value} {w' : va_W} (k : WW p l e R s m args below meth c Q D A nL tys cells slots pc lo' st' w') (h1 : lo = lo') (h2 : st = st') (h3 : w = w') : WW p l e R s m args below meth c Q D A nL tys cells slots pc lo st w := by
  subst h1; subst h2; subst h3; exact k
theorem ww_bif_eq (C0 : CT p s m args meth c cc own nL A) {x : Bool} {off : Int} {tgt : Nat} (hdg : decode cc pc = .ok (.ifCond .eq off, 3)) (ht : (pc : Int) + off = (tgt : Int)) (kt : x = false → WW p l e R s m args below meth c Q D A nL tys cells slots tgt lo st w) (kf : x = true → WW p l e R s m args below meth c Q D A nL tys cells slots (pc + 3) lo st w) : WW p l e R s m args below meth c Q D A nL tys cells slots pc lo (.int (bI x) :: st) w :=
  ww_if_eq C0 hdg ht (fun h => kt (by cases x <;> first | rfl | exact absurd h (by decide))) (fun h => kf (by cases x <;> first | rfl | exact absurd rfl h))
theorem ww_bif_ne (C0 : CT p s m args meth c cc own nL A) {x : Bool} {off : Int} {tgt : Nat} (hdg : decode cc pc = .ok (.ifCond .ne off, 3)) (ht : (pc : Int) + off = (tgt : Int)) (kt : x = true → WW p l e R s m args below meth c Q D A nL tys cells slots tgt lo st w) (kf : x = false → WW p l e R s m args below meth c Q D A nL tys cells slots (pc + 3) lo st w) : WW p l e R s m args below meth c Q D A nL tys cells slots pc lo (.int (bI x) :: st) w :=
  ww_if_ne C0 hdg ht (fun h => kt (by cases x <;> first | rfl | exact absurd rfl h)) (fun h => kf (by cases x <;> first | rfl | exact absurd h (by decide)))
end WWs
