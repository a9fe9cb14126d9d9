/-! what is made: constructors and their calls -/
abbrev UW : Type := List (ClassId × FieldType) × va_W
def MPC (D : va_G) (tys : List (ClassId × FieldType)) (W0 : va_W) (sz : Nat) : State → Prop := fun U => MP D tys W0 sz U ∧ va_AO "MulesRemember$State" U
def MBC (D : va_G) (A : Nat → Prop) : UW → State → Prop := fun u t => va_P D vwCl u.2 t.heap ∧ va_K D vwCl u.1 t ∧ va_D A u.2
def MC (l : Launch) (D : va_G) (tys : List (ClassId × FieldType)) (y : MethodName) (cc : ByteArray) (nL : Nat) (rm : Room) (av : List Value) (W0 : va_W) (P : UW → Prop) (mc ms : Nat) : Prop :=
  ∀ sz : Nat, Met l y (Cond.code y cc nL none :: rg_tbl) rm (va_Pc av (MPC D tys W0 sz)) (va_Qv P (MBC D (va_A W0 sz)) (va_A W0 sz)) mc ms (va_A W0 sz)
def QC (below : List Frame) (args : Array Value) (s : State) (D : va_G) (A : Nat → Prop) (P : UW → Prop) (mc ms : Nat) : State → Prop := MQ below (va_Qv P (MBC D A) A) args s mc ms A
theorem MC.of {l : Launch} {D : va_G} {tys : List (ClassId × FieldType)} {y : MethodName} {cc : ByteArray} {nL : Nat} {rm : Room} {av : List Value} {W0 : va_W} {P : UW → Prop} {mc ms : Nat} (lo : List Value) (hy : plainName y.cls = true) (hlen : (lg_sl av).length ≤ nL) (hlo : wl_pad av nL = lo)
    (k : ∀ (p : Program) (e : Env) (s : State) (m : MethodId) (below : List Frame) (meth : Method) (c : Code) (A : Nat → Prop), CT p s m av.toArray meth c cc y.cls nL A → meth.sig.returnType = none → meth.name = y.name → va_AO "MulesRemember$State" s → WW p l e rm s m av.toArray below meth c (QC below av.toArray s D A P mc ms) D A nL tys 0 0 0 lo [] W0) : MC l D tys y cc nL rm av W0 P mc ms := by
  intro sz
  refine Met.ofW (cc := cc) (maxL := nL) (ret := none) hy rfl ?_
  intro p e s m args below meth c s₁ B hml hv
  obtain ⟨rfl, ⟨hsz, hP, hK, hD0, hN⟩, hAO⟩ := hv
  subst hsz
  have hts := atoms_spec (ws := Cond.code y cc nL (none) :: rg_tbl) B.pre
  have C0 : CT p s m av.toArray meth c cc y.cls nL (va_A W0 s.heap.size) := ⟨B.exec, B.bytes, hml, findClass_of_methodNamed B.named, fun w h => hts w (List.mem_cons_of_mem _ h), fun q h => Or.inr h, B.notSynchronized, hN⟩
  have hl := wl_entry av hlen hlo
  have K := k p e s m below meth c (va_A W0 s.heap.size) C0 B.returns (name_of_methodNamed B.named B.method).1 hAO hK s.heap [] _ hP hD0.self va_S.rf hl
  rw [lg_entry_eq]
  exact K
section WWm
variable {p : Program} {l : Launch} {e : Env} {R : Room} {s : State} {m : MethodId} {args : Array Value} {below : List Frame} {meth : Method} {c : Code} {Q : State → Prop} {D : va_G} {A : Nat → Prop} {cc : ByteArray} {own : String} {nL : Nat} {tys : List (ClassId × FieldType)} {cells slots pc : Nat} {lo st : List Value} {w : va_W}
theorem ww_cret (C0 : CT p s m args meth c cc own nL A) (hr : meth.sig.returnType = none) {P : UW → Prop} (hdg : decode cc pc = .ok (.return_, 1)) (hP0 : P (tys, w)) : WW p l e R s m args below meth c (QC below args s D A P cells slots) D A nL tys cells slots pc lo [] w := by
  intro hK H locs ls hP hD hS hl
  exact W.vret (hlocks := C0.2.2.2.2.2.2.1) C0.1 C0.2.1 hr (fun t ht hW => ⟨⟨(tys, w), rfl, hP0, by rw [ht]; exact hP, va_K.moved hW.alike hK, hD⟩, hS.F ht⟩) hS.2.2 hdg
theorem mpc_blind {av : List Value} {W0 : va_W} {sz : Nat} : FrameBlind (va_Pc av (MPC D tys W0 sz)) := by
  intro a U g mk h
  obtain ⟨rfl, ⟨h1, h2, h3, h4, h5⟩, h6⟩ := h
  exact ⟨rfl, ⟨h1, h2, va_K.moved (u := U) (U := U.calling g mk av.toArray) (Vm.Alike.refl U.vm) h3, h4, NK.same (u := U) (U := U.calling g mk av.toArray) rfl h5⟩, va_AO.moved (u := U) (U := U.calling g mk av.toArray) (Vm.Alike.refl U.vm) h6⟩
theorem mpc_of {av : List Value} {H : Heap} (hK : va_K D vwCl tys s) (hN : NK s) (hO : va_AO "MulesRemember$State" s) (hP : va_P D vwCl w H) (hD : va_D A w) (U : State) (hU : U.heap = H) (hW : s.WarmedH U.vm) : va_Pc av (MPC D tys w H.size) av.toArray U :=
  ⟨rfl, ⟨by rw [hU], by rw [hU]; exact hP, va_K.moved hW.alike hK, hD.weaken (fun _ _ _ _ => trivial), NK.warm hW hN⟩, va_AO.moved hW.alike hO⟩
theorem ww_callIN (C0 : CT p s m args meth c cc own nL A) {host : String} {y : MethodName} {bytes : ByteArray} {maxL n index mc ms : Nat} {rm : Room} {b : Nat} {As stk : List Value} {P : UW → Prop} (hM : MC l D tys y bytes maxL rm (.ref b :: As) w P mc ms) (hcode : Cond.code y bytes maxL none ∈ rg_tbl) (hlink : Cond.methodLinkNest own index y host ∈ nk_tbl) (hinst : Cond.instanceMethod y ∈ rg_tbl) (hini : Cond.initialized y.cls ∈ rg_tbl) (hname : y.name = "<init>") (hd : y.cls ≠ "java/lang/invoke/MethodHandle" ∧ y.cls ≠ "java/lang/invoke/VarHandle" ∧ (parseMethodDescriptor y.desc).map (fun d => d.parameters.length) = some n) (hO : va_AO "MulesRemember$State" s) (hR : rm.frames + 1 ≤ R.frames ∧ 8 + (maxL + 11) + rm.locals ≤ R.locals ∧ rm.cells = mc ∧ rm.slots = ms) (hcat : (st.map fun v => v.category).sum ≤ 8) (hdg : decode cc pc = .ok (.invokespecial index, 3)) (hn : As.length = n) (hst : stk = As.reverse ++ .ref b :: st) (hfc : cells + mc ≤ R.cells ∧ slots + ms ≤ R.slots) (kk : ∀ u : UW, P u → WW p l e R s m args below meth c Q D A nL u.1 (cells + mc) (slots + ms) (pc + 3) lo st u.2) : WW p l e R s m args below meth c Q D A nL tys cells slots pc lo stk w := by
  subst hst
  intro hK H locs ls hP hD hS hl
  have cw : va_CN R s args own index y host bytes maxL none (Cond.code y bytes maxL none :: rg_tbl) rm mc ms n := va_cnB n C0.2.2.2.2.1 (rg_goodIn (by
    intro w hw
    rcases List.mem_cons.mp hw with rfl | hw <;> assumption)) rfl hR.2.2.1 hR.2.2.2 (C0.2.2.2.2.2.2.2 _ hlink) (C0.2.2.2.2.1 _ hini) hd ⟨hR.1, hR.2.1⟩
  exact va_callv (va_runIN (As := As) (rest := st) ⟨C0.1, C0.2.1, C0.2.2.1, C0.2.2.2.1, C0.2.2.2.2.1⟩ (hM H.size) ⟨cw, hname, C0.2.2.2.2.1 _ hinst⟩ ⟨mpc_blind, fun U hU hW => mpc_of hK C0.2.2.2.2.2.2.2 hO hP hD U hU hW⟩ rfl hn hl.2.1 rfl (lv_room hcat) hdg hfc) hS (fun q _ h => ww_AA C0 hD hS q h) (ww_AA C0 hD hS) (fun u t H1 locs1 ht hvm hw hB hz1 hk1 hS1 => by
    obtain ⟨hP1, hK1, hD1⟩ := hB
    rw [ht] at hP1
    exact kk u hw (va_K.moved hvm.symm hK1) H1 locs1 ls hP1 (hD1.weaken (fun _ _ _ h => ww_AA C0 hD hS _ h)) hS1 hl)
theorem ww_callI (C0 : CT p s m args meth c cc own nL A) {y : MethodName} {bytes : ByteArray} {maxL n index mc ms : Nat} {rm : Room} {b : Nat} {As stk : List Value} {P : UW → Prop} (hM : MC l D tys y bytes maxL rm (.ref b :: As) w P mc ms) (hcode : Cond.code y bytes maxL none ∈ rg_tbl) (hlink : Cond.methodLink own index y ∈ rg_tbl) (hinst : Cond.instanceMethod y ∈ rg_tbl) (hini : Cond.initialized y.cls ∈ rg_tbl) (hname : y.name = "<init>") (hd : y.cls ≠ "java/lang/invoke/MethodHandle" ∧ y.cls ≠ "java/lang/invoke/VarHandle" ∧ (parseMethodDescriptor y.desc).map (fun d => d.parameters.length) = some n) (hO : va_AO "MulesRemember$State" s) (hR : rm.frames + 1 ≤ R.frames ∧ 8 + (maxL + 11) + rm.locals ≤ R.locals ∧ rm.cells = mc ∧ rm.slots = ms) (hcat : (st.map fun v => v.category).sum ≤ 8) (hdg : decode cc pc = .ok (.invokespecial index, 3)) (hn : As.length = n) (hst : stk = As.reverse ++ .ref b :: st) (hfc : cells + mc ≤ R.cells ∧ slots + ms ≤ R.slots) (kk : ∀ u : UW, P u → WW p l e R s m args below meth c Q D A nL u.1 (cells + mc) (slots + ms) (pc + 3) lo st u.2) : WW p l e R s m args below meth c Q D A nL tys cells slots pc lo stk w := by
  subst hst
  intro hK H locs ls hP hD hS hl
  have cw := cwI (R := R) (s := s) (args := args) (own := own) (index := index) (y := y) (bytes := bytes) (maxL := maxL) (mc := mc) (ms := ms) (ws := Cond.code y bytes maxL none :: rg_tbl) (rm := rm) n C0.2.2.2.2.1 (rg_goodIn (by
    intro w hw
    rcases List.mem_cons.mp hw with rfl | hw <;> assumption)) rfl hR.2.2.1 hR.2.2.2 (C0.2.2.2.2.1 _ hini) (C0.2.2.2.2.1 _ hlink) (C0.2.2.2.2.1 _ hinst) hname hd ⟨hR.1, hR.2.1⟩
  exact va_callv (va_runI (As := As) (rest := st) ⟨C0.1, C0.2.1, C0.2.2.1, C0.2.2.2.1, C0.2.2.2.2.1⟩ (hM H.size) cw ⟨mpc_blind, fun U hU hW => mpc_of hK C0.2.2.2.2.2.2.2 hO hP hD U hU hW⟩ rfl hn hl.2.1 rfl (lv_room hcat) hdg hfc) hS (fun q _ h => ww_AA C0 hD hS q h) (ww_AA C0 hD hS) (fun u t H1 locs1 ht hvm hw hB hz1 hk1 hS1 => by
    obtain ⟨hP1, hK1, hD1⟩ := hB
    rw [ht] at hP1
    exact kk u hw (va_K.moved hvm.symm hK1) H1 locs1 ls hP1 (hD1.weaken (fun _ _ _ h => ww_AA C0 hD hS _ h)) hS1 hl)
theorem ww_tysub {tys' : List (ClassId × FieldType)} (h : ∀ x ∈ tys', x ∈ tys) (k : WW p l e R s m args below meth c Q D A nL tys' cells slots pc lo st w) : WW p l e R s m args below meth c Q D A nL tys cells slots pc lo st w :=
  fun hK => k ⟨hK.1, fun k q hk => by
    obtain ⟨i, hi⟩ := List.getElem?_of_mem (h q (List.mem_of_getElem? hk))
    exact hK.2 i q hi⟩
/-- a loop that makes something each time -/
theorem ww_loopC {σ : Type} (N : Nat) (cf sf : Nat → Nat) (lo : Nat → σ → List Value) (w : Nat → σ → va_W) (x0 : σ) (hs : ∀ j x, j < N → (∀ x', WW p l e R s m args below meth c Q D A nL tys (cf (j + 1)) (sf (j + 1)) pc (lo (j + 1) x') st (w (j + 1) x')) → WW p l e R s m args below meth c Q D A nL tys (cf j) (sf j) pc (lo j x) st (w j x)) (hx : ∀ x, WW p l e R s m args below meth c Q D A nL tys (cf N) (sf N) pc (lo N x) st (w N x)) : WW p l e R s m args below meth c Q D A nL tys (cf 0) (sf 0) pc (lo 0 x0) st (w 0 x0) := by
  have key : ∀ n j x, j + n = N → WW p l e R s m args below meth c Q D A nL tys (cf j) (sf j) pc (lo j x) st (w j x) := by
    intro n
    induction n with
    | zero => intro j x hj; have : j = N := by omega
              subst this; exact hx x
    | succ n ih => intro j x hj; exact hs j x (by omega) (fun x' => ih (j + 1) x' (by omega))
  exact key N 0 x0 (by omega)
theorem ww_num {cells' slots' : Nat} (h1 : cells = cells') (h2 : slots = slots') (k : WW p l e R s m args below meth c Q D A nL tys cells' slots' pc lo st w) : WW p l e R s m args below meth c Q D A nL tys cells slots pc lo st w := by
  subst h1; subst h2; exact k
end WWm
/-- the states as they are made -/
def zSV : SV := (fun _ => 0, fun _ => 0, fun _ => 0, 0, 0)
def adU (ad : Nat → Nat → Nat) (n : Nat) (a : Nat → Nat) : Nat → Nat → Nat := fun j i => if j = n then a i else ad j i
theorem pool_push {cI : ClassId} {ad : Nat → Nat → Nat} {n : Nat} {a : Nat → Nat} : pool cI (adU ad n a) (fun _ => zSV) (n + 1) = pool cI ad (fun _ => zSV) n ++ stc cI (fun _ => a) zSV n := by
  unfold pool
  rw [List.range_succ, List.flatMap_append]
  congr 1
  · rw [List.flatMap_def, List.flatMap_def, List.map_congr_left]
    intro j hj
    have : ¬ j = n := by have := List.mem_range.mp hj; omega
    simp [stc, adU, this]
  · simp [stc, adU]
theorem perm_push {cI : ClassId} {ad : Nat → Nat → Nat} {n : Nat} (a : Nat → Nat) (k2 : Nat) {w r : va_W} (hw1 : w.take 4 = stc cI (fun _ => a) zSV n) (hw2 : w.drop (4 + k2) = pool cI ad (fun _ => zSV) n ++ r) : w.Perm ((w.drop 4).take k2 ++ (pool cI (adU ad n a) (fun _ => zSV) (n + 1) ++ r)) := by
  have e : w = stc cI (fun _ => a) zSV n ++ ((w.drop 4).take k2 ++ (pool cI ad (fun _ => zSV) n ++ r)) := by
    rw [← hw1, ← hw2, ← List.drop_drop, List.take_append_drop, List.take_append_drop]
  rw [pool_push]
  have h2 : (stc cI (fun _ => a) zSV n ++ ((w.drop 4).take k2 ++ (pool cI ad (fun _ => zSV) n ++ r))).Perm ((w.drop 4).take k2 ++ (pool cI ad (fun _ => zSV) n ++ stc cI (fun _ => a) zSV n ++ r)) := by
    rw [← List.append_assoc, List.append_assoc (pool cI ad (fun _ => zSV) n)]
    refine (List.Perm.append_right _ List.perm_append_comm).trans ?_
    rw [List.append_assoc]
    refine List.Perm.append_left _ ?_
    rw [← List.append_assoc, ← List.append_assoc]
    exact List.Perm.append_right _ List.perm_append_comm
  exact (List.Perm.of_eq e).trans h2
theorem nI_0z : nI 0 = 0 := rfl
