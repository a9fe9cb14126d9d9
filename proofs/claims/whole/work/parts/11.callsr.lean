/-! a method that answers an object: its address is told ahead -/
def MBr (D : va_G) (tys : List (ClassId × FieldType)) (A : Nat → Prop) (r : Nat) (W1 : va_W) : Unit → Nat → State → Prop := fun _ a t => a = r ∧ va_P D vwCl W1 t.heap ∧ va_K D vwCl tys t ∧ va_D A W1
def MR (l : Launch) (D : va_G) (tys : List (ClassId × FieldType)) (y : MethodName) (cc : ByteArray) (nL : Nat) (ret : FieldType) (rm : Room) (av : List Value) (W0 : va_W) (r : Nat) (W1 : va_W) : Prop :=
  ∀ sz : Nat, Met l y (Cond.code y cc nL (some ret) :: rg_tbl) rm (va_Pc av (MP D tys W0 sz)) (va_Qr (fun (_ : Unit) => True) (MBr D tys (va_A W0 sz) r W1) (va_A W0 sz)) 0 0 (va_A W0 sz)
def QR (below : List Frame) (args : Array Value) (s : State) (D : va_G) (tys : List (ClassId × FieldType)) (A : Nat → Prop) (r : Nat) (W1 : va_W) : State → Prop := MQ below (va_Qr (fun (_ : Unit) => True) (MBr D tys A r W1) A) args s 0 0 A
theorem MR.of {l : Launch} {D : va_G} {tys : List (ClassId × FieldType)} {y : MethodName} {cc : ByteArray} {nL : Nat} {ret : FieldType} {rm : Room} {av : List Value} {W0 : va_W} {r : Nat} {W1 : va_W} (lo : List Value) (hy : plainName y.cls = true) (hlen : (lg_sl av).length ≤ nL) (hlo : wl_pad av nL = lo)
    (k : ∀ (p : Program) (e : Env) (s : State) (m : MethodId) (below : List Frame) (meth : Method) (c : Code) (A : Nat → Prop), CT p s m av.toArray meth c cc y.cls nL A → meth.sig.returnType = some ret → WW p l e rm s m av.toArray below meth c (QR below av.toArray s D tys A r W1) D A nL tys 0 0 0 lo [] W0) : MR l D tys y cc nL ret rm av W0 r W1 := by
  intro sz
  refine Met.ofW (cc := cc) (maxL := nL) (ret := some ret) hy rfl ?_
  intro p e s m args below meth c s₁ B hml hv
  obtain ⟨rfl, hsz, hP, hK, hD0, hN⟩ := hv
  subst hsz
  have hts := atoms_spec (ws := Cond.code y cc nL (some ret) :: rg_tbl) B.pre
  have C0 : CT p s m av.toArray meth c cc y.cls nL (va_A W0 s.heap.size) := ⟨B.exec, B.bytes, hml, findClass_of_methodNamed B.named, fun w h => hts w (List.mem_cons_of_mem _ h), fun q h => Or.inr h, B.notSynchronized, hN⟩
  have hl := wl_entry av hlen hlo
  have K := k p e s m below meth c (va_A W0 s.heap.size) C0 B.returns hK s.heap [] _ hP hD0.self va_S.rf hl
  rw [lg_entry_eq]
  exact K
section WWr
variable {p : Program} {l : Launch} {e : Env} {R : Room} {s : State} {m : MethodId} {args : Array Value} {below : List Frame} {meth : Method} {c : Code} {Q : State → Prop} {D : va_G} {A : Nat → Prop} {cc : ByteArray} {own : String} {nL : Nat} {tys : List (ClassId × FieldType)} {cells slots pc : Nat} {lo st : List Value} {w : va_W}
theorem ww_aret (C0 : CT p s m args meth c cc own nL A) {C : String} (hr : meth.sig.returnType = some (.object C)) {v r : Nat} {W1 : va_W} (hdg : decode cc pc = .ok (.areturn, 1)) (hv : v = r) (hw : w = W1) : WW p l e R s m args below meth c (QR below args s D tys A r W1) D A nL tys 0 0 pc lo [.ref v] w := by
  subst hv; subst hw
  intro hK H locs ls hP hD hS hl
  exact W.aret (hlocks := C0.2.2.2.2.2.2.1) C0.1 C0.2.1 hr (.inl ⟨_, rfl⟩) (.inr ⟨_, rfl⟩) (fun t ht hW => ⟨⟨(), v, rfl, trivial, rfl, by rw [ht]; exact hP, va_K.moved hW.alike hK, hD⟩, hS.F ht⟩) hS.2.2 hdg
theorem ww_callVr (C0 : CT p s m args meth c cc own nL A) {ret : FieldType} {r : Nat} {y : MethodName} {bytes : ByteArray} {maxL n index : Nat} {rm : Room} {b : Nat} {As : List Value} {stk : List Value} {W1 : va_W} (q0 ci : Nat) {fs : List Value} {qc : vw_C} (hM : MR l D tys y bytes maxL ret rm (.ref b :: As) w r W1) (hcode : Cond.code y bytes maxL (some ret) ∈ rg_tbl) (hlink : Cond.methodLink own index y ∈ rg_tbl) (hinst : Cond.instanceMethod y ∈ rg_tbl) (hsel : Cond.selects y.cls y y ∈ rg_tbl) (hini : Cond.initialized y.cls ∈ rg_tbl) (hd : y.cls ≠ "java/lang/invoke/MethodHandle" ∧ y.cls ≠ "java/lang/invoke/VarHandle" ∧ (parseMethodDescriptor y.desc).map (fun d => d.parameters.length) = some n) (hcl : vwCl[ci]? = some qc) (hqc : qc.1 = y.cls) (hR : rm.frames + 1 ≤ R.frames ∧ 8 + (maxL + 11) + rm.locals ≤ R.locals ∧ rm.cells = 0 ∧ rm.slots = 0) (hcat : (st.map fun v => v.category).sum ≤ 8) (hdg : decode cc pc = .ok (.invokevirtual index, 3)) (hrec : w[q0]? = some (b, .inr (ci, fs))) (hn : As.length = n) (hst : stk = As.reverse ++ .ref b :: st) (hfc : cells ≤ R.cells ∧ slots ≤ R.slots) (kk : WW p l e R s m args below meth c Q D A nL tys cells slots (pc + 3) lo (.ref r :: st) W1) : WW p l e R s m args below meth c Q D A nL tys cells slots pc lo stk w := by
  subst hst
  intro hK H locs ls hP hD hS hl
  have cw : CallW R s args own y.cls index y bytes maxL (some ret) (Cond.code y bytes maxL (some ret) :: rg_tbl) rm 0 0 n := cwV n C0.2.2.2.2.1 (rg_goodIn (by
    intro w hw
    simp only [wsV, List.cons_append, List.nil_append, List.mem_cons] at hw
    rcases hw with rfl | rfl | rfl | rfl | rfl | hw <;> assumption)) rfl hR.2.2.1 hR.2.2.2 ⟨rfl, hd⟩ ⟨hR.1, hR.2.1⟩
  exact va_callr (va_runV (As := As) (rest := st) ⟨C0.1, C0.2.1, C0.2.2.1, C0.2.2.2.1, C0.2.2.2.2.1⟩ (hM H.size) cw ⟨mp_blind, (by rw [← hqc]; exact va_recv hK hP hcl hrec), fun U hU hW => mp_of hK C0.2.2.2.2.2.2.2 hP hD U hU hW⟩ rfl hn hl.2.1 rfl (lv_room hcat) hdg ⟨by have := hfc.1; omega, by have := hfc.2; omega⟩) hS (fun q _ h => ww_AA C0 hD hS q h) (ww_AA C0 hD hS) (fun u ra t H1 locs1 ht hvm hw hB hz1 hk1 hS1 => by
    obtain ⟨he, hP1, hK1, hD1⟩ := hB
    subst he
    rw [ht] at hP1
    exact kk hK H1 locs1 ls hP1 (hD1.weaken (fun _ _ _ h => ww_AA C0 hD hS _ h)) hS1 hl)
end WWr
