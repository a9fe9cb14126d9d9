/-! THE CLAIM OUT OF ONE WALK OF THE LAW'S BODY. Your part is whole_start (and what it stands on); all else here is the same for every law, but numbers. -/
def R_law : String := "MulesRememberLaw"
def lw_P (b : Addr) (xs : List Int32) (args : Array Value) (s : State) : Prop := args = #[.ref b] ∧ s.IntsAt b xs ∧ xs.length ≤ 3072 ∧ (Jvm.Cond.and given_1 narrow_1).before args s = true
def lw_Q (_ : Array Value) (s : State) (o : Outcome) (t : State) : Prop := o = .returned (some (.int 1)) ∧ Framed s o t [] 600000 7302250
def lw_Z (below : List Frame) (a : Array Value) (s : State) : State → Prop := fun t => ∃ o, t.status = .running ∧ Ended t below o ∧ lw_Q a s o t
/-- the law's own end, with 1 on the stack, nothing written that was there before, its room as the claim has it -/
theorem lw_ret {p : Program} {l : Launch} {e : Env} {s : State} {m : MethodId} {below : List Frame} {meth : Method} {c : Code} {b : Nat} (hx : p.tables.exec = Jvm.exec) (hb : c.code = code) (hr : meth.sig.returnType = ret) (hlocks : meth.locks = false) {pc : Nat} {H : Heap} {ls : Array Slot} (hdg : decode code pc = .ok (.ireturn, 1)) : W p l e room_1 s m #[Value.ref b] below meth c H [] 600000 7302250 (lw_Z below #[Value.ref b] s) (F0 m pc ls [.int 1]) := by
  intro T hT X
  obtain ⟨fs, hret, hrun, hended, hW, hframe⟩ := X.leave (v := some (.int 1)) (hlocks := hlocks) (fun h => by rw [hr] at h; cases h)
  have hmeth' : T.vm.method? m = some meth := X.method'
  refine ⟨T.setFrames fs, ?_, .returned (some (.int 1)), hrun, hended, rfl, ⟨_, rfl⟩, hW, hframe⟩
  jvm_step X.here [X.here.top, hx, hb, hdg, hmeth', hr, ret, narrow_b1]
  (try refine ⟨rfl, ?_⟩); (try refine ⟨rfl, ?_⟩)
  first | (intro acts; rw [hret _ acts rfl rfl rfl]) | rw [hret _ _ rfl rfl rfl]
  exact Steps.refl _
/-- what holds at the law's entry: the machine, the code, the tables' words (any of lw_tbl by 'hts w (by decide +kernel)'), the script of L ints xs at the cell b, what the Statement gives of the start (any of its parts by flat_of_before) -/
def lw_At (p : Program) (s : State) (m : MethodId) (meth : Method) (c : Code) (b L : Nat) (xs : Nat → Int32) : Prop :=
  p.tables.exec = Jvm.exec ∧ c.code = code ∧ meth.sig.returnType = ret ∧ c.maxLocals = 4 ∧ s.vm.findClass R_law = some m.cls ∧ (∀ w ∈ lw_tbl, w.before #[Value.ref b] s = true) ∧ va_X b L xs s s.heap ∧ b < s.heap.size ∧ meth.locks = false ∧ (Jvm.Cond.and given_1 narrow_1).before #[Value.ref b] s = true
/-! rows of the law's own: its script -/
section WWlaw
variable {p : Program} {l : Launch} {e : Env} {R : Room} {s : State} {m : MethodId} {args : Array Value} {below : List Frame} {meth : Method} {c : Code} {Q : State → Prop} {D : va_G} {A : Nat → Prop} {cc : ByteArray} {own : String} {nL : Nat} {tys : List (ClassId × FieldType)} {cells slots pc : Nat} {lo st : List Value} {w : va_W}
theorem ww_slen (C0 : CT p s m args meth c cc own nL A) {b L : Nat} {xs : Nat → Int32} (hX : va_X b L xs s s.heap) (hbl : b < s.heap.size) (hbA : ¬ A b) (hdg : decode cc pc = .ok (.arraylength, 1)) (k : WW p l e R s m args below meth c Q D A nL tys cells slots (pc + 1) lo (.int (Int32.ofNat L) :: st) w) : WW p l e R s m args below meth c Q D A nL tys cells slots pc lo (.ref b :: st) w :=
  fun hK H locs ls hP hD hS hl => va_slen C0.1 C0.2.1 hX hbl hbA hS hdg (k hK H locs ls hP hD hS hl)
theorem ww_sld (C0 : CT p s m args meth c cc own nL A) {b L : Nat} {xs : Nat → Int32} (hX : va_X b L xs s s.heap) (hbl : b < s.heap.size) (hbA : ¬ A b) {i : Int32} {j : Nat} (hi : i = nI j) (hj : j < L) (hL : L ≤ 3072) (hdg : decode cc pc = .ok (.iaload, 1)) (k : WW p l e R s m args below meth c Q D A nL tys cells slots (pc + 1) lo (.int (xs j) :: st) w) : WW p l e R s m args below meth c Q D A nL tys cells slots pc lo (.int i :: .ref b :: st) w := by
  subst hi
  intro hK H locs ls hP hD hS hl
  refine va_sld C0.1 C0.2.1 hX hbl hbA hS (vp_in_nI hj (by omega)) hdg ?_
  rw [nI_clamp (by omega)]
  exact k hK H locs ls hP hD hS hl
/-- the script's int at i + n -/
theorem ww_arg (C0 : CT p s m args meth c cc own 4 A) {b L i : Nat} {xs : Nat → Int32} {x1 x2 : Value} (hX : va_X b L xs s s.heap) (hbl : b < s.heap.size) (hbA : ¬ A b) (hL : L ≤ 3072) (n : Nat) {n' : Int} (hv : Int32.ofInt n' = nI n) (hi : i + n < L) (d0 : decode cc pc = .ok (.aload_n 0, 1)) (d1 : decode cc (pc + 1) = .ok (.iload_n 3, 1)) (d2 : decode cc (pc + 2) = .ok (.iconst n', 1)) (d3 : decode cc (pc + 3) = .ok (.iadd, 1)) (d4 : decode cc (pc + 4) = .ok (.iaload, 1)) (k : WW p l e R s m args below meth c Q D A 4 tys cells slots (pc + 5) [.ref b, x1, x2, .int (nI i)] (.int (xs (i + n)) :: st) w) : WW p l e R s m args below meth c Q D A 4 tys cells slots pc [.ref b, x1, x2, .int (nI i)] st w := by
  refine ww_aload_n C0 d0 rfl ?_
  refine ww_iload_n C0 d1 rfl ?_
  refine ww_iconst (v := nI n) C0 d2 hv ?_
  refine ww_iadd C0 d3 ?_
  exact ww_sld C0 hX hbl hbA (j := i + n) (nI_addE (a := i) (b := n) rfl rfl) hi hL d4 k
/-- an int that is told as a truth -/
theorem ww_flag (C0 : CT p s m args meth c cc own nL A) {v : Int32} (d0 : decode cc pc = .ok (.ifCond .eq 7, 3)) (d1 : decode cc (pc + 3) = .ok (.iconst 1, 1)) (d2 : decode cc (pc + 4) = .ok (.goto 4, 3)) (d3 : decode cc (pc + 7) = .ok (.iconst 0, 1)) (k : WW p l e R s m args below meth c Q D A nL tys cells slots (pc + 8) lo (.int (bI (!decide (v = 0))) :: st) w) : WW p l e R s m args below meth c Q D A nL tys cells slots pc lo (.int v :: st) w := by
  refine ww_if_eq (tgt := pc + 7) C0 d0 (by omega) (fun h => ?_) (fun h => ?_)
  · refine ww_iconst (v := 0) C0 d3 rfl ?_
    exact ww_top (by simp [bI, h]) k
  · refine ww_iconst (v := 1) C0 d1 rfl ?_
    refine ww_goto (tgt := pc + 8) C0 d2 (by omega) ?_
    exact ww_top (by simp [bI, h]) k
end WWlaw
theorem cmp_self (x : Int64) : lg_cmp x x = 0 := by simp [lg_cmp]
/-- the law's end with 1 -/
theorem ww_lawend {p : Program} {l : Launch} {e : Env} {s : State} {m : MethodId} {below : List Frame} {meth : Method} {c : Code} {D : va_G} {b : Nat} {tys : List (ClassId × FieldType)} {cells slots pc : Nat} {lo : List Value} {w : va_W} (C0 : CT p s m #[Value.ref b] meth c cL_law RL 4 (fun q => s.heap.size ≤ q)) (hr : meth.sig.returnType = ret) (h1 : cells ≤ 600000) (h2 : slots ≤ 7302250) (hdg : decode code pc = .ok (.ireturn, 1)) : WW p l e room_1 s m #[Value.ref b] below meth c (lw_Z below #[Value.ref b] s) D (fun q => s.heap.size ≤ q) 4 tys cells slots pc lo [.int 1] w :=
  fun hK H locs ls hP hD hS hl => va_forget (fun q hq => hS.2.2 q hq) (W.widen h1 h2 (lw_ret C0.1 C0.2.1 hr C0.2.2.2.2.2.2.1 hdg))
