/-! contracts: from the world W0, args av: what is answered, and the world behind it (no new cells) -/
def MP (D : va_G) (tys : List (ClassId × FieldType)) (W0 : va_W) (sz : Nat) : State → Prop := fun U => U.heap.size = sz ∧ va_P D vwCl W0 U.heap ∧ va_K D vwCl tys U ∧ va_D (fun _ => True) W0 ∧ NK U
def MB (D : va_G) (tys : List (ClassId × FieldType)) (A : Nat → Prop) (W1 : va_W) : Unit → State → Prop := fun _ t => va_P D vwCl W1 t.heap ∧ va_K D vwCl tys t ∧ va_D A W1
def MI (l : Launch) (D : va_G) (tys : List (ClassId × FieldType)) (y : MethodName) (cc : ByteArray) (nL : Nat) (ret : FieldType) (rm : Room) (av : List Value) (W0 : va_W) (r : Int32) (W1 : va_W) : Prop :=
  ∀ sz : Nat, Met l y (Cond.code y cc nL (some ret) :: rg_tbl) rm (va_Pc av (MP D tys W0 sz)) (va_Qi (fun (r' : Int32) (_ : Unit) => r' = r) (MB D tys (va_A W0 sz) W1) (va_A W0 sz)) 0 0 (va_A W0 sz)
def ML (l : Launch) (D : va_G) (tys : List (ClassId × FieldType)) (y : MethodName) (cc : ByteArray) (nL : Nat) (rm : Room) (av : List Value) (W0 : va_W) (r : Int64) (W1 : va_W) : Prop :=
  ∀ sz : Nat, Met l y (Cond.code y cc nL (some .long) :: rg_tbl) rm (va_Pc av (MP D tys W0 sz)) (va_Ql (fun (r' : Int64) (_ : Unit) => r' = r) (MB D tys (va_A W0 sz) W1) (va_A W0 sz)) 0 0 (va_A W0 sz)
def MV (l : Launch) (D : va_G) (tys : List (ClassId × FieldType)) (y : MethodName) (cc : ByteArray) (nL : Nat) (rm : Room) (av : List Value) (W0 : va_W) (W1 : va_W) : Prop :=
  ∀ sz : Nat, Met l y (Cond.code y cc nL none :: rg_tbl) rm (va_Pc av (MP D tys W0 sz)) (va_Qv (fun (_ : Unit) => True) (MB D tys (va_A W0 sz) W1) (va_A W0 sz)) 0 0 (va_A W0 sz)
/-- what a walk ends at -/
def QI (below : List Frame) (args : Array Value) (s : State) (D : va_G) (tys : List (ClassId × FieldType)) (A : Nat → Prop) (r : Int32) (W1 : va_W) : State → Prop := MQ below (va_Qi (fun (r' : Int32) (_ : Unit) => r' = r) (MB D tys A W1) A) args s 0 0 A
def QL (below : List Frame) (args : Array Value) (s : State) (D : va_G) (tys : List (ClassId × FieldType)) (A : Nat → Prop) (r : Int64) (W1 : va_W) : State → Prop := MQ below (va_Ql (fun (r' : Int64) (_ : Unit) => r' = r) (MB D tys A W1) A) args s 0 0 A
def QV (below : List Frame) (args : Array Value) (s : State) (D : va_G) (tys : List (ClassId × FieldType)) (A : Nat → Prop) (W1 : va_W) : State → Prop := MQ below (va_Qv (fun (_ : Unit) => True) (MB D tys A W1) A) args s 0 0 A
theorem wl_pad_len (vs : List Value) : (vs.flatMap (fun v => if v.category = 2 then [v, .null] else [v])).length = (lg_sl vs).length := by
  induction vs with
  | nil => rfl
  | cons v t ih =>
    simp only [lg_sl, List.flatMap_cons, List.length_append] at ih ⊢
    rw [ih]
    split <;> rfl
theorem wl_slot (vs : List Value) (i : Nat) (v : Value) : (vs.flatMap (fun v => if v.category = 2 then [v, .null] else [v]))[i]? = some v → v ≠ .null → (lg_sl vs)[i]? = some (.val v) := by
  induction vs generalizing i with
  | nil => intro h; simp at h
  | cons x t ih =>
    intro h hn
    simp only [lg_sl, List.flatMap_cons] at h ⊢
    by_cases hx : x.category = 2
    · rw [if_pos hx] at h ⊢
      match i with
      | 0 => simp at h ⊢; exact h
      | 1 => simp at h; exact absurd h.symm hn
      | k + 2 => simp at h ⊢; exact ih k h hn
    · rw [if_neg hx] at h ⊢
      match i with
      | 0 => simp at h ⊢; exact h
      | k + 1 => simp at h ⊢; exact ih k h hn
theorem wl_entry (vs : List Value) {n : Nat} {lo : List Value} (h : (lg_sl vs).length ≤ n) (hlo : wl_pad vs n = lo) : wl_l ((lg_sl vs ++ List.replicate (n - (lg_sl vs).length) Slot.unset).toArray) n lo := by
  subst hlo
  have h0 := lv_entry vs h
  refine ⟨?_, h0.1, h0.2.1, fun i v hi hv => ?_⟩
  · simp only [wl_pad, List.length_append, List.length_replicate, wl_pad_len]
    omega
  · simp only [wl_pad] at hi
    by_cases hl : i < (lg_sl vs).length
    · rw [List.getElem?_append_left (by rw [wl_pad_len]; exact hl)] at hi
      have := wl_slot vs i v hi hv
      simp only [List.getElem?_toArray]
      rw [List.getElem?_append_left hl]
      exact this
    · rw [List.getElem?_append_right (by rw [wl_pad_len]; omega), List.getElem?_replicate] at hi
      split at hi
      · cases hi; exact absurd rfl hv
      · cases hi
theorem MI.of {l : Launch} {D : va_G} {tys : List (ClassId × FieldType)} {y : MethodName} {cc : ByteArray} {nL : Nat} {ret : FieldType} {rm : Room} {av : List Value} {W0 : va_W} {r : Int32} {W1 : va_W} (lo : List Value) (hy : plainName y.cls = true) (hlen : (lg_sl av).length ≤ nL) (hlo : wl_pad av nL = lo)
    (k : ∀ (p : Program) (e : Env) (s : State) (m : MethodId) (below : List Frame) (meth : Method) (c : Code) (A : Nat → Prop), CT p s m av.toArray meth c cc y.cls nL A → meth.sig.returnType = some ret → WW p l e rm s m av.toArray below meth c (QI below av.toArray s D tys A r W1) D A nL tys 0 0 0 lo [] W0) : MI l D tys y cc nL ret rm av W0 r W1 := by
  intro sz
  refine Met.ofW (cc := cc) (maxL := nL) (ret := some ret) hy rfl ?_
  intro p e s m args below meth c s₁ B hml hv
  obtain ⟨rfl, hsz, hP, hK, hD0, hN⟩ := hv
  subst hsz
  have hts := atoms_spec (ws := Cond.code y cc nL (some ret) :: rg_tbl) B.pre
  have C0 : CT p s m av.toArray meth c cc y.cls nL (va_A W0 s.heap.size) := ⟨B.exec, B.bytes, hml, findClass_of_methodNamed B.named, fun w h => hts w (List.mem_cons_of_mem _ h), fun q h => Or.inr h, B.notSynchronized, hN⟩
  have hl := wl_entry av hlen hlo
  have K := k p e s m below meth c (va_A W0 s.heap.size) C0 B.returns hK s.heap [] _ hP hD0.self va_S.rf hl
  rw [lg_entry_eq]
  exact K
theorem ML.of {l : Launch} {D : va_G} {tys : List (ClassId × FieldType)} {y : MethodName} {cc : ByteArray} {nL : Nat} {rm : Room} {av : List Value} {W0 : va_W} {r : Int64} {W1 : va_W} (lo : List Value) (hy : plainName y.cls = true) (hlen : (lg_sl av).length ≤ nL) (hlo : wl_pad av nL = lo)
    (k : ∀ (p : Program) (e : Env) (s : State) (m : MethodId) (below : List Frame) (meth : Method) (c : Code) (A : Nat → Prop), CT p s m av.toArray meth c cc y.cls nL A → meth.sig.returnType = some .long → WW p l e rm s m av.toArray below meth c (QL below av.toArray s D tys A r W1) D A nL tys 0 0 0 lo [] W0) : ML l D tys y cc nL rm av W0 r W1 := by
  intro sz
  refine Met.ofW (cc := cc) (maxL := nL) (ret := some .long) hy rfl ?_
  intro p e s m args below meth c s₁ B hml hv
  obtain ⟨rfl, hsz, hP, hK, hD0, hN⟩ := hv
  subst hsz
  have hts := atoms_spec (ws := Cond.code y cc nL (some .long) :: rg_tbl) B.pre
  have C0 : CT p s m av.toArray meth c cc y.cls nL (va_A W0 s.heap.size) := ⟨B.exec, B.bytes, hml, findClass_of_methodNamed B.named, fun w h => hts w (List.mem_cons_of_mem _ h), fun q h => Or.inr h, B.notSynchronized, hN⟩
  have hl := wl_entry av hlen hlo
  have K := k p e s m below meth c (va_A W0 s.heap.size) C0 B.returns hK s.heap [] _ hP hD0.self va_S.rf hl
  rw [lg_entry_eq]
  exact K
theorem MV.of {l : Launch} {D : va_G} {tys : List (ClassId × FieldType)} {y : MethodName} {cc : ByteArray} {nL : Nat} {rm : Room} {av : List Value} {W0 : va_W} {W1 : va_W} (lo : List Value) (hy : plainName y.cls = true) (hlen : (lg_sl av).length ≤ nL) (hlo : wl_pad av nL = lo)
    (k : ∀ (p : Program) (e : Env) (s : State) (m : MethodId) (below : List Frame) (meth : Method) (c : Code) (A : Nat → Prop), CT p s m av.toArray meth c cc y.cls nL A → meth.sig.returnType = none → WW p l e rm s m av.toArray below meth c (QV below av.toArray s D tys A W1) D A nL tys 0 0 0 lo [] W0) : MV l D tys y cc nL rm av W0 W1 := by
  intro sz
  refine Met.ofW (cc := cc) (maxL := nL) (ret := none) hy rfl ?_
  intro p e s m args below meth c s₁ B hml hv
  obtain ⟨rfl, hsz, hP, hK, hD0, hN⟩ := hv
  subst hsz
  have hts := atoms_spec (ws := Cond.code y cc nL (none) :: rg_tbl) B.pre
  have C0 : CT p s m av.toArray meth c cc y.cls nL (va_A W0 s.heap.size) := ⟨B.exec, B.bytes, hml, findClass_of_methodNamed B.named, fun w h => hts w (List.mem_cons_of_mem _ h), fun q h => Or.inr h, B.notSynchronized, hN⟩
  have hl := wl_entry av hlen hlo
  have K := k p e s m below meth c (va_A W0 s.heap.size) C0 B.returns hK s.heap [] _ hP hD0.self va_S.rf hl
  rw [lg_entry_eq]
  exact K
section WWc
variable {p : Program} {l : Launch} {e : Env} {R : Room} {s : State} {m : MethodId} {args : Array Value} {below : List Frame} {meth : Method} {c : Code} {Q : State → Prop} {D : va_G} {A : Nat → Prop} {cc : ByteArray} {own : String} {nL : Nat} {tys : List (ClassId × FieldType)} {cells slots pc : Nat} {lo st : List Value} {w : va_W}
theorem ww_iret (C0 : CT p s m args meth c cc own nL A) (hr : meth.sig.returnType = some .int) {v r : Int32} {W1 : va_W} (hdg : decode cc pc = .ok (.ireturn, 1)) (hv : v = r) (hw : w = W1) : WW p l e R s m args below meth c (QI below args s D tys A r W1) D A nL tys 0 0 pc lo [.int v] w := by
  subst hv; subst hw
  intro hK H locs ls hP hD hS hl
  exact W.iret (hlocks := C0.2.2.2.2.2.2.1) C0.1 C0.2.1 hr (fun t ht hW => ⟨⟨v, (), rfl, rfl, by rw [ht]; exact hP, va_K.moved hW.alike hK, hD⟩, hS.F ht⟩) hS.2.2 hdg
theorem bI_nar (b : Bool) : narrow .boolean (.int (bI b)) = .int (bI b) := by cases b <;> rfl
theorem ww_zret (C0 : CT p s m args meth c cc own nL A) (hr : meth.sig.returnType = some .boolean) {v : Int32} {b : Bool} {W1 : va_W} (hdg : decode cc pc = .ok (.ireturn, 1)) (hv : v = bI b) (hw : w = W1) : WW p l e R s m args below meth c (QI below args s D tys A (bI b) W1) D A nL tys 0 0 pc lo [.int v] w := by
  subst hv; subst hw
  intro hK H locs ls hP hD hS hl
  exact W.zret (hlocks := C0.2.2.2.2.2.2.1) C0.1 C0.2.1 hr (bI_nar b) (fun t ht hW => ⟨⟨bI b, (), rfl, rfl, by rw [ht]; exact hP, va_K.moved hW.alike hK, hD⟩, hS.F ht⟩) hS.2.2 hdg
theorem ww_lret (C0 : CT p s m args meth c cc own nL A) (hr : meth.sig.returnType = some .long) {v r : Int64} {W1 : va_W} (hdg : decode cc pc = .ok (.lreturn, 1)) (hv : v = r) (hw : w = W1) : WW p l e R s m args below meth c (QL below args s D tys A r W1) D A nL tys 0 0 pc lo [.long v] w := by
  subst hv; subst hw
  intro hK H locs ls hP hD hS hl
  exact W.lret (hlocks := C0.2.2.2.2.2.2.1) C0.1 C0.2.1 hr (fun t ht hW => ⟨⟨v, (), rfl, rfl, by rw [ht]; exact hP, va_K.moved hW.alike hK, hD⟩, hS.F ht⟩) hS.2.2 hdg
theorem ww_vret (C0 : CT p s m args meth c cc own nL A) (hr : meth.sig.returnType = none) {W1 : va_W} (hdg : decode cc pc = .ok (.return_, 1)) (hw : w = W1) : WW p l e R s m args below meth c (QV below args s D tys A W1) D A nL tys 0 0 pc lo [] w := by
  subst hw
  intro hK H locs ls hP hD hS hl
  exact W.vret (hlocks := C0.2.2.2.2.2.2.1) C0.1 C0.2.1 hr (fun t ht hW => ⟨⟨(), rfl, trivial, by rw [ht]; exact hP, va_K.moved hW.alike hK, hD⟩, hS.F ht⟩) hS.2.2 hdg
theorem mp_blind {av : List Value} {W0 : va_W} {sz : Nat} : FrameBlind (va_Pc av (MP D tys W0 sz)) := by
  intro a U g mk h
  obtain ⟨rfl, h1, h2, h3, h4, h5⟩ := h
  exact ⟨rfl, h1, h2, va_K.moved (u := U) (U := U.calling g mk av.toArray) (Vm.Alike.refl U.vm) h3, h4, NK.same (u := U) (U := U.calling g mk av.toArray) rfl h5⟩
theorem mp_of {av : List Value} {H : Heap} (hK : va_K D vwCl tys s) (hN : NK s) (hP : va_P D vwCl w H) (hD : va_D A w) (U : State) (hU : U.heap = H) (hW : s.WarmedH U.vm) : va_Pc av (MP D tys w H.size) av.toArray U :=
  ⟨rfl, by rw [hU], by rw [hU]; exact hP, va_K.moved hW.alike hK, hD.weaken (fun _ _ _ _ => trivial), NK.warm hW hN⟩
theorem ww_AA {H : Heap} {locs : List Loc} (C0 : CT p s m args meth c cc own nL A) (hD : va_D A w) (hS : va_S A s.heap H locs) : ∀ q, va_A w H.size q → A q := by
  intro q h
  rcases h with ⟨k, x, h⟩ | h
  · exact hD.2 k (q, x) h
  · exact C0.2.2.2.2.2.1 q (Nat.le_trans hS.1 h)
/-- a world in another order -/
theorem va_P.perm {cl : List vw_C} {w w' : va_W} {H : Heap} (h : w.Perm w') (hP : va_P D cl w H) : va_P D cl w' H := by
  intro k q hq
  obtain ⟨i, hi⟩ := List.getElem?_of_mem (h.symm.subset (List.mem_of_getElem? hq))
  exact hP i q hi
theorem va_D_iff {A : Nat → Prop} {w : va_W} : va_D A w ↔ (w.map (·.1)).Nodup ∧ ∀ q ∈ w, A q.1 := by
  constructor
  · rintro ⟨h1, h2⟩
    refine ⟨?_, fun q hq => ?_⟩
    · rw [List.nodup_iff_pairwise_ne, List.pairwise_iff_getElem]
      intro i j hi hj hij he
      simp only [List.length_map] at hi hj
      simp only [List.getElem_map] at he
      have := h1 i j w[i] w[j] (List.getElem?_eq_getElem hi) (List.getElem?_eq_getElem hj) he
      omega
    · obtain ⟨k, hk⟩ := List.getElem?_of_mem hq
      exact h2 k q hk
  · rintro ⟨h1, h2⟩
    refine ⟨fun i j x y hi hj hxy => ?_, fun k q hq => h2 q (List.mem_of_getElem? hq)⟩
    obtain ⟨li, hi⟩ := List.getElem?_eq_some_iff.mp hi
    obtain ⟨lj, hj⟩ := List.getElem?_eq_some_iff.mp hj
    rw [List.nodup_iff_pairwise_ne, List.pairwise_iff_getElem] at h1
    rcases Nat.lt_trichotomy i j with q | q | q
    · have z := h1 i j (by simpa using li) (by simpa using lj) q
      simp only [List.getElem_map, hi, hj] at z
      exact absurd hxy z
    · exact q
    · have z := h1 j i (by simpa using lj) (by simpa using li) q
      simp only [List.getElem_map, hi, hj] at z
      exact absurd hxy.symm z
theorem va_D.perm {A : Nat → Prop} {w w' : va_W} (h : w.Perm w') (hD : va_D A w) : va_D A w' := by
  rw [va_D_iff] at hD ⊢
  exact ⟨(h.map _).nodup_iff.mp hD.1, fun q hq => hD.2 q (h.symm.subset hq)⟩
theorem ww_perm {w' : va_W} (h : w.Perm w') (k : WW p l e R s m args below meth c Q D A nL tys cells slots pc lo st w') : WW p l e R s m args below meth c Q D A nL tys cells slots pc lo st w :=
  fun hK H locs ls hP hD hS hl => k hK H locs ls (hP.perm h) (hD.perm h) hS hl
theorem perm_swap3 (a b c d : va_W) : (a ++ (b ++ (c ++ d))).Perm (a ++ (c ++ (b ++ d))) := by
  refine List.Perm.append_left a ?_
  rw [← List.append_assoc, ← List.append_assoc]
  exact List.Perm.append_right d List.perm_append_comm
theorem ww_callVi (C0 : CT p s m args meth c cc own nL A) {ret : FieldType} {r : Int32} {y : MethodName} {bytes : ByteArray} {maxL n index : Nat} {rm : Room} {b : Nat} {As : List Value} {stk : List Value} {W1 : va_W} (q0 ci : Nat) {fs : List Value} {qc : vw_C} (hM : MI l D tys y bytes maxL ret rm (.ref b :: As) w r W1) (hcode : Cond.code y bytes maxL (some ret) ∈ rg_tbl) (hlink : Cond.methodLink own index y ∈ rg_tbl) (hinst : Cond.instanceMethod y ∈ rg_tbl) (hsel : Cond.selects y.cls y y ∈ rg_tbl) (hini : Cond.initialized y.cls ∈ rg_tbl) (hd : y.cls ≠ "java/lang/invoke/MethodHandle" ∧ y.cls ≠ "java/lang/invoke/VarHandle" ∧ (parseMethodDescriptor y.desc).map (fun d => d.parameters.length) = some n) (hcl : vwCl[ci]? = some qc) (hqc : qc.1 = y.cls) (hR : rm.frames + 1 ≤ R.frames ∧ 8 + (maxL + 11) + rm.locals ≤ R.locals ∧ rm.cells = 0 ∧ rm.slots = 0) (hcat : (st.map fun v => v.category).sum ≤ 8) (hdg : decode cc pc = .ok (.invokevirtual index, 3)) (hrec : w[q0]? = some (b, .inr (ci, fs))) (hn : As.length = n) (hst : stk = As.reverse ++ .ref b :: st) (hfc : cells ≤ R.cells ∧ slots ≤ R.slots) (kk : WW p l e R s m args below meth c Q D A nL tys cells slots (pc + 3) lo (.int r :: st) W1) : WW p l e R s m args below meth c Q D A nL tys cells slots pc lo stk w := by
  subst hst
  intro hK H locs ls hP hD hS hl
  have cw : CallW R s args own y.cls index y bytes maxL (some ret) (Cond.code y bytes maxL (some ret) :: rg_tbl) rm 0 0 n := cwV n C0.2.2.2.2.1 (rg_goodIn (by
    intro w hw
    simp only [wsV, List.cons_append, List.nil_append, List.mem_cons] at hw
    rcases hw with rfl | rfl | rfl | rfl | rfl | hw <;> assumption)) rfl hR.2.2.1 hR.2.2.2 ⟨rfl, hd⟩ ⟨hR.1, hR.2.1⟩
  exact va_calli (va_runV (As := As) (rest := st) ⟨C0.1, C0.2.1, C0.2.2.1, C0.2.2.2.1, C0.2.2.2.2.1⟩ (hM H.size) cw ⟨mp_blind, (by rw [← hqc]; exact va_recv hK hP hcl hrec), fun U hU hW => mp_of hK C0.2.2.2.2.2.2.2 hP hD U hU hW⟩ rfl hn hl.2.1 rfl (lv_room hcat) hdg ⟨by have := hfc.1; omega, by have := hfc.2; omega⟩) hS (fun q _ h => ww_AA C0 hD hS q h) (ww_AA C0 hD hS) (fun r' u t H1 locs1 ht hvm hw hB hz1 hk1 hS1 => by
    obtain ⟨hP1, hK1, hD1⟩ := hB
    rw [ht] at hP1
    subst hw
    exact kk hK H1 locs1 ls hP1 (hD1.weaken (fun _ _ _ h => ww_AA C0 hD hS _ h)) hS1 hl)
theorem ww_callSi (C0 : CT p s m args meth c cc own nL A) {ret : FieldType} {r : Int32} {y : MethodName} {bytes : ByteArray} {maxL n index : Nat} {rm : Room} {As : List Value} {stk : List Value} {W1 : va_W} (hM : MI l D tys y bytes maxL ret rm As w r W1) (hcode : Cond.code y bytes maxL (some ret) ∈ rg_tbl) (hlink : Cond.methodLink own index y ∈ rg_tbl) (hstat : Cond.static y ∈ rg_tbl) (hini : Cond.initialized y.cls ∈ rg_tbl) (hd : y.cls ≠ "java/lang/invoke/MethodHandle" ∧ y.cls ≠ "java/lang/invoke/VarHandle" ∧ (parseMethodDescriptor y.desc).map (fun d => d.parameters.length) = some n) (hR : rm.frames + 1 ≤ R.frames ∧ 8 + (maxL + 11) + rm.locals ≤ R.locals ∧ rm.cells = 0 ∧ rm.slots = 0) (hcat : (st.map fun v => v.category).sum ≤ 8) (hdg : decode cc pc = .ok (.invokestatic index, 3)) (hn : As.length = n) (hst : stk = As.reverse ++ st) (hfc : cells ≤ R.cells ∧ slots ≤ R.slots) (kk : WW p l e R s m args below meth c Q D A nL tys cells slots (pc + 3) lo (.int r :: st) W1) : WW p l e R s m args below meth c Q D A nL tys cells slots pc lo stk w := by
  subst hst
  intro hK H locs ls hP hD hS hl
  have cw := va_cwS (R := R) (s := s) (args := args) (own := own) (index := index) (y := y) (bytes := bytes) (maxL := maxL) (mc := 0) (ms := 0) (ret := (some ret)) (ws := Cond.code y bytes maxL (some ret) :: rg_tbl) (rm := rm) n C0.2.2.2.2.1 (rg_goodIn (by
    intro w hw
    simp only [va_wsS, List.cons_append, List.nil_append, List.mem_cons] at hw
    rcases hw with rfl | rfl | rfl | rfl | hw <;> assumption)) rfl hR.2.2.1 hR.2.2.2 hd ⟨hR.1, hR.2.1⟩
  exact va_calli (va_runS (As := As) (rest := st) ⟨C0.1, C0.2.1, C0.2.2.1, C0.2.2.2.1, C0.2.2.2.2.1⟩ (hM H.size) cw ⟨mp_blind, fun U hU hW => mp_of hK C0.2.2.2.2.2.2.2 hP hD U hU hW⟩ rfl hn hl.2.1 rfl (lv_room hcat) hdg ⟨by have := hfc.1; omega, by have := hfc.2; omega⟩) hS (fun q _ h => ww_AA C0 hD hS q h) (ww_AA C0 hD hS) (fun r' u t H1 locs1 ht hvm hw hB hz1 hk1 hS1 => by
    obtain ⟨hP1, hK1, hD1⟩ := hB
    rw [ht] at hP1
    subst hw
    exact kk hK H1 locs1 ls hP1 (hD1.weaken (fun _ _ _ h => ww_AA C0 hD hS _ h)) hS1 hl)
theorem ww_callVNi (C0 : CT p s m args meth c cc own nL A) {ret : FieldType} {r : Int32} {host : String} {y : MethodName} {bytes : ByteArray} {maxL n index : Nat} {rm : Room} {b : Nat} {As : List Value} {stk : List Value} {W1 : va_W} (q0 ci : Nat) {fs : List Value} {qc : vw_C} (hM : MI l D tys y bytes maxL ret rm (.ref b :: As) w r W1) (hcode : Cond.code y bytes maxL (some ret) ∈ rg_tbl) (hlink : Cond.methodLinkNest own index y host ∈ nk_tbl) (hinst : Cond.instanceMethod y ∈ rg_tbl) (hsel : Cond.selects y.cls y y ∈ rg_tbl) (hini : Cond.initialized y.cls ∈ rg_tbl) (hd : y.cls ≠ "java/lang/invoke/MethodHandle" ∧ y.cls ≠ "java/lang/invoke/VarHandle" ∧ (parseMethodDescriptor y.desc).map (fun d => d.parameters.length) = some n) (hcl : vwCl[ci]? = some qc) (hqc : qc.1 = y.cls) (hR : rm.frames + 1 ≤ R.frames ∧ 8 + (maxL + 11) + rm.locals ≤ R.locals ∧ rm.cells = 0 ∧ rm.slots = 0) (hcat : (st.map fun v => v.category).sum ≤ 8) (hdg : decode cc pc = .ok (.invokevirtual index, 3)) (hrec : w[q0]? = some (b, .inr (ci, fs))) (hn : As.length = n) (hst : stk = As.reverse ++ .ref b :: st) (hfc : cells ≤ R.cells ∧ slots ≤ R.slots) (kk : WW p l e R s m args below meth c Q D A nL tys cells slots (pc + 3) lo (.int r :: st) W1) : WW p l e R s m args below meth c Q D A nL tys cells slots pc lo stk w := by
  subst hst
  intro hK H locs ls hP hD hS hl
  have cw : va_CN R s args own index y host bytes maxL (some ret) (Cond.code y bytes maxL (some ret) :: rg_tbl) rm 0 0 n := va_cnB n C0.2.2.2.2.1 (rg_goodIn (by
    intro w hw
    rcases List.mem_cons.mp hw with rfl | hw <;> assumption)) rfl hR.2.2.1 hR.2.2.2 (C0.2.2.2.2.2.2.2 _ hlink) (C0.2.2.2.2.1 _ hini) hd ⟨hR.1, hR.2.1⟩
  exact va_calli (va_runVN (As := As) (rest := st) ⟨C0.1, C0.2.1, C0.2.2.1, C0.2.2.2.1, C0.2.2.2.2.1⟩ (hM H.size) ⟨cw, C0.2.2.2.2.1 _ hinst, C0.2.2.2.2.1 _ hsel⟩ ⟨mp_blind, (by rw [← hqc]; exact va_recv hK hP hcl hrec), fun U hU hW => mp_of hK C0.2.2.2.2.2.2.2 hP hD U hU hW⟩ rfl hn hl.2.1 rfl (lv_room hcat) hdg ⟨by have := hfc.1; omega, by have := hfc.2; omega⟩) hS (fun q _ h => ww_AA C0 hD hS q h) (ww_AA C0 hD hS) (fun r' u t H1 locs1 ht hvm hw hB hz1 hk1 hS1 => by
    obtain ⟨hP1, hK1, hD1⟩ := hB
    rw [ht] at hP1
    subst hw
    exact kk hK H1 locs1 ls hP1 (hD1.weaken (fun _ _ _ h => ww_AA C0 hD hS _ h)) hS1 hl)
theorem ww_callSNi (C0 : CT p s m args meth c cc own nL A) {ret : FieldType} {r : Int32} {host : String} {y : MethodName} {bytes : ByteArray} {maxL n index : Nat} {rm : Room} {As : List Value} {stk : List Value} {W1 : va_W} (hM : MI l D tys y bytes maxL ret rm As w r W1) (hcode : Cond.code y bytes maxL (some ret) ∈ rg_tbl) (hlink : Cond.methodLinkNest own index y host ∈ nk_tbl) (hstat : Cond.static y ∈ rg_tbl) (hini : Cond.initialized y.cls ∈ rg_tbl) (hd : y.cls ≠ "java/lang/invoke/MethodHandle" ∧ y.cls ≠ "java/lang/invoke/VarHandle" ∧ (parseMethodDescriptor y.desc).map (fun d => d.parameters.length) = some n) (hR : rm.frames + 1 ≤ R.frames ∧ 8 + (maxL + 11) + rm.locals ≤ R.locals ∧ rm.cells = 0 ∧ rm.slots = 0) (hcat : (st.map fun v => v.category).sum ≤ 8) (hdg : decode cc pc = .ok (.invokestatic index, 3)) (hn : As.length = n) (hst : stk = As.reverse ++ st) (hfc : cells ≤ R.cells ∧ slots ≤ R.slots) (kk : WW p l e R s m args below meth c Q D A nL tys cells slots (pc + 3) lo (.int r :: st) W1) : WW p l e R s m args below meth c Q D A nL tys cells slots pc lo stk w := by
  subst hst
  intro hK H locs ls hP hD hS hl
  have cw : va_CN R s args own index y host bytes maxL (some ret) (Cond.code y bytes maxL (some ret) :: rg_tbl) rm 0 0 n := va_cnB n C0.2.2.2.2.1 (rg_goodIn (by
    intro w hw
    rcases List.mem_cons.mp hw with rfl | hw <;> assumption)) rfl hR.2.2.1 hR.2.2.2 (C0.2.2.2.2.2.2.2 _ hlink) (C0.2.2.2.2.1 _ hini) hd ⟨hR.1, hR.2.1⟩
  exact va_calli (va_runSN (As := As) (rest := st) ⟨C0.1, C0.2.1, C0.2.2.1, C0.2.2.2.1, C0.2.2.2.2.1⟩ (hM H.size) ⟨cw, C0.2.2.2.2.1 _ hstat, trivial⟩ ⟨mp_blind, fun U hU hW => mp_of hK C0.2.2.2.2.2.2.2 hP hD U hU hW⟩ rfl hn hl.2.1 rfl (lv_room hcat) hdg ⟨by have := hfc.1; omega, by have := hfc.2; omega⟩) hS (fun q _ h => ww_AA C0 hD hS q h) (ww_AA C0 hD hS) (fun r' u t H1 locs1 ht hvm hw hB hz1 hk1 hS1 => by
    obtain ⟨hP1, hK1, hD1⟩ := hB
    rw [ht] at hP1
    subst hw
    exact kk hK H1 locs1 ls hP1 (hD1.weaken (fun _ _ _ h => ww_AA C0 hD hS _ h)) hS1 hl)
theorem ww_callVl (C0 : CT p s m args meth c cc own nL A) {r : Int64} {y : MethodName} {bytes : ByteArray} {maxL n index : Nat} {rm : Room} {b : Nat} {As : List Value} {stk : List Value} {W1 : va_W} (q0 ci : Nat) {fs : List Value} {qc : vw_C} (hM : ML l D tys y bytes maxL rm (.ref b :: As) w r W1) (hcode : Cond.code y bytes maxL (some .long) ∈ rg_tbl) (hlink : Cond.methodLink own index y ∈ rg_tbl) (hinst : Cond.instanceMethod y ∈ rg_tbl) (hsel : Cond.selects y.cls y y ∈ rg_tbl) (hini : Cond.initialized y.cls ∈ rg_tbl) (hd : y.cls ≠ "java/lang/invoke/MethodHandle" ∧ y.cls ≠ "java/lang/invoke/VarHandle" ∧ (parseMethodDescriptor y.desc).map (fun d => d.parameters.length) = some n) (hcl : vwCl[ci]? = some qc) (hqc : qc.1 = y.cls) (hR : rm.frames + 1 ≤ R.frames ∧ 8 + (maxL + 11) + rm.locals ≤ R.locals ∧ rm.cells = 0 ∧ rm.slots = 0) (hcat : (st.map fun v => v.category).sum ≤ 8) (hdg : decode cc pc = .ok (.invokevirtual index, 3)) (hrec : w[q0]? = some (b, .inr (ci, fs))) (hn : As.length = n) (hst : stk = As.reverse ++ .ref b :: st) (hfc : cells ≤ R.cells ∧ slots ≤ R.slots) (kk : WW p l e R s m args below meth c Q D A nL tys cells slots (pc + 3) lo (.long r :: st) W1) : WW p l e R s m args below meth c Q D A nL tys cells slots pc lo stk w := by
  subst hst
  intro hK H locs ls hP hD hS hl
  have cw : CallW R s args own y.cls index y bytes maxL (some .long) (Cond.code y bytes maxL (some .long) :: rg_tbl) rm 0 0 n := cwV n C0.2.2.2.2.1 (rg_goodIn (by
    intro w hw
    simp only [wsV, List.cons_append, List.nil_append, List.mem_cons] at hw
    rcases hw with rfl | rfl | rfl | rfl | rfl | hw <;> assumption)) rfl hR.2.2.1 hR.2.2.2 ⟨rfl, hd⟩ ⟨hR.1, hR.2.1⟩
  exact va_calll (va_runV (As := As) (rest := st) ⟨C0.1, C0.2.1, C0.2.2.1, C0.2.2.2.1, C0.2.2.2.2.1⟩ (hM H.size) cw ⟨mp_blind, (by rw [← hqc]; exact va_recv hK hP hcl hrec), fun U hU hW => mp_of hK C0.2.2.2.2.2.2.2 hP hD U hU hW⟩ rfl hn hl.2.1 rfl (lv_room hcat) hdg ⟨by have := hfc.1; omega, by have := hfc.2; omega⟩) hS (fun q _ h => ww_AA C0 hD hS q h) (ww_AA C0 hD hS) (fun r' u t H1 locs1 ht hvm hw hB hz1 hk1 hS1 => by
    obtain ⟨hP1, hK1, hD1⟩ := hB
    rw [ht] at hP1
    subst hw
    exact kk hK H1 locs1 ls hP1 (hD1.weaken (fun _ _ _ h => ww_AA C0 hD hS _ h)) hS1 hl)
theorem ww_callSl (C0 : CT p s m args meth c cc own nL A) {r : Int64} {y : MethodName} {bytes : ByteArray} {maxL n index : Nat} {rm : Room} {As : List Value} {stk : List Value} {W1 : va_W} (hM : ML l D tys y bytes maxL rm As w r W1) (hcode : Cond.code y bytes maxL (some .long) ∈ rg_tbl) (hlink : Cond.methodLink own index y ∈ rg_tbl) (hstat : Cond.static y ∈ rg_tbl) (hini : Cond.initialized y.cls ∈ rg_tbl) (hd : y.cls ≠ "java/lang/invoke/MethodHandle" ∧ y.cls ≠ "java/lang/invoke/VarHandle" ∧ (parseMethodDescriptor y.desc).map (fun d => d.parameters.length) = some n) (hR : rm.frames + 1 ≤ R.frames ∧ 8 + (maxL + 11) + rm.locals ≤ R.locals ∧ rm.cells = 0 ∧ rm.slots = 0) (hcat : (st.map fun v => v.category).sum ≤ 8) (hdg : decode cc pc = .ok (.invokestatic index, 3)) (hn : As.length = n) (hst : stk = As.reverse ++ st) (hfc : cells ≤ R.cells ∧ slots ≤ R.slots) (kk : WW p l e R s m args below meth c Q D A nL tys cells slots (pc + 3) lo (.long r :: st) W1) : WW p l e R s m args below meth c Q D A nL tys cells slots pc lo stk w := by
  subst hst
  intro hK H locs ls hP hD hS hl
  have cw := va_cwS (R := R) (s := s) (args := args) (own := own) (index := index) (y := y) (bytes := bytes) (maxL := maxL) (mc := 0) (ms := 0) (ret := (some .long)) (ws := Cond.code y bytes maxL (some .long) :: rg_tbl) (rm := rm) n C0.2.2.2.2.1 (rg_goodIn (by
    intro w hw
    simp only [va_wsS, List.cons_append, List.nil_append, List.mem_cons] at hw
    rcases hw with rfl | rfl | rfl | rfl | hw <;> assumption)) rfl hR.2.2.1 hR.2.2.2 hd ⟨hR.1, hR.2.1⟩
  exact va_calll (va_runS (As := As) (rest := st) ⟨C0.1, C0.2.1, C0.2.2.1, C0.2.2.2.1, C0.2.2.2.2.1⟩ (hM H.size) cw ⟨mp_blind, fun U hU hW => mp_of hK C0.2.2.2.2.2.2.2 hP hD U hU hW⟩ rfl hn hl.2.1 rfl (lv_room hcat) hdg ⟨by have := hfc.1; omega, by have := hfc.2; omega⟩) hS (fun q _ h => ww_AA C0 hD hS q h) (ww_AA C0 hD hS) (fun r' u t H1 locs1 ht hvm hw hB hz1 hk1 hS1 => by
    obtain ⟨hP1, hK1, hD1⟩ := hB
    rw [ht] at hP1
    subst hw
    exact kk hK H1 locs1 ls hP1 (hD1.weaken (fun _ _ _ h => ww_AA C0 hD hS _ h)) hS1 hl)
theorem ww_callVNl (C0 : CT p s m args meth c cc own nL A) {r : Int64} {host : String} {y : MethodName} {bytes : ByteArray} {maxL n index : Nat} {rm : Room} {b : Nat} {As : List Value} {stk : List Value} {W1 : va_W} (q0 ci : Nat) {fs : List Value} {qc : vw_C} (hM : ML l D tys y bytes maxL rm (.ref b :: As) w r W1) (hcode : Cond.code y bytes maxL (some .long) ∈ rg_tbl) (hlink : Cond.methodLinkNest own index y host ∈ nk_tbl) (hinst : Cond.instanceMethod y ∈ rg_tbl) (hsel : Cond.selects y.cls y y ∈ rg_tbl) (hini : Cond.initialized y.cls ∈ rg_tbl) (hd : y.cls ≠ "java/lang/invoke/MethodHandle" ∧ y.cls ≠ "java/lang/invoke/VarHandle" ∧ (parseMethodDescriptor y.desc).map (fun d => d.parameters.length) = some n) (hcl : vwCl[ci]? = some qc) (hqc : qc.1 = y.cls) (hR : rm.frames + 1 ≤ R.frames ∧ 8 + (maxL + 11) + rm.locals ≤ R.locals ∧ rm.cells = 0 ∧ rm.slots = 0) (hcat : (st.map fun v => v.category).sum ≤ 8) (hdg : decode cc pc = .ok (.invokevirtual index, 3)) (hrec : w[q0]? = some (b, .inr (ci, fs))) (hn : As.length = n) (hst : stk = As.reverse ++ .ref b :: st) (hfc : cells ≤ R.cells ∧ slots ≤ R.slots) (kk : WW p l e R s m args below meth c Q D A nL tys cells slots (pc + 3) lo (.long r :: st) W1) : WW p l e R s m args below meth c Q D A nL tys cells slots pc lo stk w := by
  subst hst
  intro hK H locs ls hP hD hS hl
  have cw : va_CN R s args own index y host bytes maxL (some .long) (Cond.code y bytes maxL (some .long) :: rg_tbl) rm 0 0 n := va_cnB n C0.2.2.2.2.1 (rg_goodIn (by
    intro w hw
    rcases List.mem_cons.mp hw with rfl | hw <;> assumption)) rfl hR.2.2.1 hR.2.2.2 (C0.2.2.2.2.2.2.2 _ hlink) (C0.2.2.2.2.1 _ hini) hd ⟨hR.1, hR.2.1⟩
  exact va_calll (va_runVN (As := As) (rest := st) ⟨C0.1, C0.2.1, C0.2.2.1, C0.2.2.2.1, C0.2.2.2.2.1⟩ (hM H.size) ⟨cw, C0.2.2.2.2.1 _ hinst, C0.2.2.2.2.1 _ hsel⟩ ⟨mp_blind, (by rw [← hqc]; exact va_recv hK hP hcl hrec), fun U hU hW => mp_of hK C0.2.2.2.2.2.2.2 hP hD U hU hW⟩ rfl hn hl.2.1 rfl (lv_room hcat) hdg ⟨by have := hfc.1; omega, by have := hfc.2; omega⟩) hS (fun q _ h => ww_AA C0 hD hS q h) (ww_AA C0 hD hS) (fun r' u t H1 locs1 ht hvm hw hB hz1 hk1 hS1 => by
    obtain ⟨hP1, hK1, hD1⟩ := hB
    rw [ht] at hP1
    subst hw
    exact kk hK H1 locs1 ls hP1 (hD1.weaken (fun _ _ _ h => ww_AA C0 hD hS _ h)) hS1 hl)
theorem ww_callSNl (C0 : CT p s m args meth c cc own nL A) {r : Int64} {host : String} {y : MethodName} {bytes : ByteArray} {maxL n index : Nat} {rm : Room} {As : List Value} {stk : List Value} {W1 : va_W} (hM : ML l D tys y bytes maxL rm As w r W1) (hcode : Cond.code y bytes maxL (some .long) ∈ rg_tbl) (hlink : Cond.methodLinkNest own index y host ∈ nk_tbl) (hstat : Cond.static y ∈ rg_tbl) (hini : Cond.initialized y.cls ∈ rg_tbl) (hd : y.cls ≠ "java/lang/invoke/MethodHandle" ∧ y.cls ≠ "java/lang/invoke/VarHandle" ∧ (parseMethodDescriptor y.desc).map (fun d => d.parameters.length) = some n) (hR : rm.frames + 1 ≤ R.frames ∧ 8 + (maxL + 11) + rm.locals ≤ R.locals ∧ rm.cells = 0 ∧ rm.slots = 0) (hcat : (st.map fun v => v.category).sum ≤ 8) (hdg : decode cc pc = .ok (.invokestatic index, 3)) (hn : As.length = n) (hst : stk = As.reverse ++ st) (hfc : cells ≤ R.cells ∧ slots ≤ R.slots) (kk : WW p l e R s m args below meth c Q D A nL tys cells slots (pc + 3) lo (.long r :: st) W1) : WW p l e R s m args below meth c Q D A nL tys cells slots pc lo stk w := by
  subst hst
  intro hK H locs ls hP hD hS hl
  have cw : va_CN R s args own index y host bytes maxL (some .long) (Cond.code y bytes maxL (some .long) :: rg_tbl) rm 0 0 n := va_cnB n C0.2.2.2.2.1 (rg_goodIn (by
    intro w hw
    rcases List.mem_cons.mp hw with rfl | hw <;> assumption)) rfl hR.2.2.1 hR.2.2.2 (C0.2.2.2.2.2.2.2 _ hlink) (C0.2.2.2.2.1 _ hini) hd ⟨hR.1, hR.2.1⟩
  exact va_calll (va_runSN (As := As) (rest := st) ⟨C0.1, C0.2.1, C0.2.2.1, C0.2.2.2.1, C0.2.2.2.2.1⟩ (hM H.size) ⟨cw, C0.2.2.2.2.1 _ hstat, trivial⟩ ⟨mp_blind, fun U hU hW => mp_of hK C0.2.2.2.2.2.2.2 hP hD U hU hW⟩ rfl hn hl.2.1 rfl (lv_room hcat) hdg ⟨by have := hfc.1; omega, by have := hfc.2; omega⟩) hS (fun q _ h => ww_AA C0 hD hS q h) (ww_AA C0 hD hS) (fun r' u t H1 locs1 ht hvm hw hB hz1 hk1 hS1 => by
    obtain ⟨hP1, hK1, hD1⟩ := hB
    rw [ht] at hP1
    subst hw
    exact kk hK H1 locs1 ls hP1 (hD1.weaken (fun _ _ _ h => ww_AA C0 hD hS _ h)) hS1 hl)
theorem ww_callVv (C0 : CT p s m args meth c cc own nL A) {y : MethodName} {bytes : ByteArray} {maxL n index : Nat} {rm : Room} {b : Nat} {As : List Value} {stk : List Value} {W1 : va_W} (q0 ci : Nat) {fs : List Value} {qc : vw_C} (hM : MV l D tys y bytes maxL rm (.ref b :: As) w W1) (hcode : Cond.code y bytes maxL none ∈ rg_tbl) (hlink : Cond.methodLink own index y ∈ rg_tbl) (hinst : Cond.instanceMethod y ∈ rg_tbl) (hsel : Cond.selects y.cls y y ∈ rg_tbl) (hini : Cond.initialized y.cls ∈ rg_tbl) (hd : y.cls ≠ "java/lang/invoke/MethodHandle" ∧ y.cls ≠ "java/lang/invoke/VarHandle" ∧ (parseMethodDescriptor y.desc).map (fun d => d.parameters.length) = some n) (hcl : vwCl[ci]? = some qc) (hqc : qc.1 = y.cls) (hR : rm.frames + 1 ≤ R.frames ∧ 8 + (maxL + 11) + rm.locals ≤ R.locals ∧ rm.cells = 0 ∧ rm.slots = 0) (hcat : (st.map fun v => v.category).sum ≤ 8) (hdg : decode cc pc = .ok (.invokevirtual index, 3)) (hrec : w[q0]? = some (b, .inr (ci, fs))) (hn : As.length = n) (hst : stk = As.reverse ++ .ref b :: st) (hfc : cells ≤ R.cells ∧ slots ≤ R.slots) (kk : WW p l e R s m args below meth c Q D A nL tys cells slots (pc + 3) lo st W1) : WW p l e R s m args below meth c Q D A nL tys cells slots pc lo stk w := by
  subst hst
  intro hK H locs ls hP hD hS hl
  have cw : CallW R s args own y.cls index y bytes maxL none (Cond.code y bytes maxL none :: rg_tbl) rm 0 0 n := cwV n C0.2.2.2.2.1 (rg_goodIn (by
    intro w hw
    simp only [wsV, List.cons_append, List.nil_append, List.mem_cons] at hw
    rcases hw with rfl | rfl | rfl | rfl | rfl | hw <;> assumption)) rfl hR.2.2.1 hR.2.2.2 ⟨rfl, hd⟩ ⟨hR.1, hR.2.1⟩
  exact va_callv (va_runV (As := As) (rest := st) ⟨C0.1, C0.2.1, C0.2.2.1, C0.2.2.2.1, C0.2.2.2.2.1⟩ (hM H.size) cw ⟨mp_blind, (by rw [← hqc]; exact va_recv hK hP hcl hrec), fun U hU hW => mp_of hK C0.2.2.2.2.2.2.2 hP hD U hU hW⟩ rfl hn hl.2.1 rfl (lv_room hcat) hdg ⟨by have := hfc.1; omega, by have := hfc.2; omega⟩) hS (fun q _ h => ww_AA C0 hD hS q h) (ww_AA C0 hD hS) (fun u t H1 locs1 ht hvm hw hB hz1 hk1 hS1 => by
    obtain ⟨hP1, hK1, hD1⟩ := hB
    rw [ht] at hP1
    exact kk hK H1 locs1 ls hP1 (hD1.weaken (fun _ _ _ h => ww_AA C0 hD hS _ h)) hS1 hl)
theorem ww_callSv (C0 : CT p s m args meth c cc own nL A) {y : MethodName} {bytes : ByteArray} {maxL n index : Nat} {rm : Room} {As : List Value} {stk : List Value} {W1 : va_W} (hM : MV l D tys y bytes maxL rm As w W1) (hcode : Cond.code y bytes maxL none ∈ rg_tbl) (hlink : Cond.methodLink own index y ∈ rg_tbl) (hstat : Cond.static y ∈ rg_tbl) (hini : Cond.initialized y.cls ∈ rg_tbl) (hd : y.cls ≠ "java/lang/invoke/MethodHandle" ∧ y.cls ≠ "java/lang/invoke/VarHandle" ∧ (parseMethodDescriptor y.desc).map (fun d => d.parameters.length) = some n) (hR : rm.frames + 1 ≤ R.frames ∧ 8 + (maxL + 11) + rm.locals ≤ R.locals ∧ rm.cells = 0 ∧ rm.slots = 0) (hcat : (st.map fun v => v.category).sum ≤ 8) (hdg : decode cc pc = .ok (.invokestatic index, 3)) (hn : As.length = n) (hst : stk = As.reverse ++ st) (hfc : cells ≤ R.cells ∧ slots ≤ R.slots) (kk : WW p l e R s m args below meth c Q D A nL tys cells slots (pc + 3) lo st W1) : WW p l e R s m args below meth c Q D A nL tys cells slots pc lo stk w := by
  subst hst
  intro hK H locs ls hP hD hS hl
  have cw := va_cwS (R := R) (s := s) (args := args) (own := own) (index := index) (y := y) (bytes := bytes) (maxL := maxL) (mc := 0) (ms := 0) (ret := none) (ws := Cond.code y bytes maxL none :: rg_tbl) (rm := rm) n C0.2.2.2.2.1 (rg_goodIn (by
    intro w hw
    simp only [va_wsS, List.cons_append, List.nil_append, List.mem_cons] at hw
    rcases hw with rfl | rfl | rfl | rfl | hw <;> assumption)) rfl hR.2.2.1 hR.2.2.2 hd ⟨hR.1, hR.2.1⟩
  exact va_callv (va_runS (As := As) (rest := st) ⟨C0.1, C0.2.1, C0.2.2.1, C0.2.2.2.1, C0.2.2.2.2.1⟩ (hM H.size) cw ⟨mp_blind, fun U hU hW => mp_of hK C0.2.2.2.2.2.2.2 hP hD U hU hW⟩ rfl hn hl.2.1 rfl (lv_room hcat) hdg ⟨by have := hfc.1; omega, by have := hfc.2; omega⟩) hS (fun q _ h => ww_AA C0 hD hS q h) (ww_AA C0 hD hS) (fun u t H1 locs1 ht hvm hw hB hz1 hk1 hS1 => by
    obtain ⟨hP1, hK1, hD1⟩ := hB
    rw [ht] at hP1
    exact kk hK H1 locs1 ls hP1 (hD1.weaken (fun _ _ _ h => ww_AA C0 hD hS _ h)) hS1 hl)
theorem ww_callVNv (C0 : CT p s m args meth c cc own nL A) {host : String} {y : MethodName} {bytes : ByteArray} {maxL n index : Nat} {rm : Room} {b : Nat} {As : List Value} {stk : List Value} {W1 : va_W} (q0 ci : Nat) {fs : List Value} {qc : vw_C} (hM : MV l D tys y bytes maxL rm (.ref b :: As) w W1) (hcode : Cond.code y bytes maxL none ∈ rg_tbl) (hlink : Cond.methodLinkNest own index y host ∈ nk_tbl) (hinst : Cond.instanceMethod y ∈ rg_tbl) (hsel : Cond.selects y.cls y y ∈ rg_tbl) (hini : Cond.initialized y.cls ∈ rg_tbl) (hd : y.cls ≠ "java/lang/invoke/MethodHandle" ∧ y.cls ≠ "java/lang/invoke/VarHandle" ∧ (parseMethodDescriptor y.desc).map (fun d => d.parameters.length) = some n) (hcl : vwCl[ci]? = some qc) (hqc : qc.1 = y.cls) (hR : rm.frames + 1 ≤ R.frames ∧ 8 + (maxL + 11) + rm.locals ≤ R.locals ∧ rm.cells = 0 ∧ rm.slots = 0) (hcat : (st.map fun v => v.category).sum ≤ 8) (hdg : decode cc pc = .ok (.invokevirtual index, 3)) (hrec : w[q0]? = some (b, .inr (ci, fs))) (hn : As.length = n) (hst : stk = As.reverse ++ .ref b :: st) (hfc : cells ≤ R.cells ∧ slots ≤ R.slots) (kk : WW p l e R s m args below meth c Q D A nL tys cells slots (pc + 3) lo st W1) : WW p l e R s m args below meth c Q D A nL tys cells slots pc lo stk w := by
  subst hst
  intro hK H locs ls hP hD hS hl
  have cw : va_CN R s args own index y host bytes maxL none (Cond.code y bytes maxL none :: rg_tbl) rm 0 0 n := va_cnB n C0.2.2.2.2.1 (rg_goodIn (by
    intro w hw
    rcases List.mem_cons.mp hw with rfl | hw <;> assumption)) rfl hR.2.2.1 hR.2.2.2 (C0.2.2.2.2.2.2.2 _ hlink) (C0.2.2.2.2.1 _ hini) hd ⟨hR.1, hR.2.1⟩
  exact va_callv (va_runVN (As := As) (rest := st) ⟨C0.1, C0.2.1, C0.2.2.1, C0.2.2.2.1, C0.2.2.2.2.1⟩ (hM H.size) ⟨cw, C0.2.2.2.2.1 _ hinst, C0.2.2.2.2.1 _ hsel⟩ ⟨mp_blind, (by rw [← hqc]; exact va_recv hK hP hcl hrec), fun U hU hW => mp_of hK C0.2.2.2.2.2.2.2 hP hD U hU hW⟩ rfl hn hl.2.1 rfl (lv_room hcat) hdg ⟨by have := hfc.1; omega, by have := hfc.2; omega⟩) hS (fun q _ h => ww_AA C0 hD hS q h) (ww_AA C0 hD hS) (fun u t H1 locs1 ht hvm hw hB hz1 hk1 hS1 => by
    obtain ⟨hP1, hK1, hD1⟩ := hB
    rw [ht] at hP1
    exact kk hK H1 locs1 ls hP1 (hD1.weaken (fun _ _ _ h => ww_AA C0 hD hS _ h)) hS1 hl)
end WWc
