set_option maxHeartbeats 4000000 in
set_option maxRecDepth 100000 in
theorem c_X3_init (l : Launch) (D : va_G) {aT : Nat} {rest : va_W} : MC l D [] yX3_init cX3_init 1 ({ frames := 1, cells := 1, slots := 48, locals := 12 } : Room) [.ref aT] ((aT, .inr (3, [.null, .int 0])) :: rest) (fun u => ∃ cI at0, u = ([(cI, .int)], (aT, .inr (3, [.ref at0, .int 0])) :: (at0, .inl (cI, 48, .inl (fun _ => 0))) :: rest)) 1 48 := by
  refine MC.of [.ref aT] (by decide) (Nat.le_of_ble_eq_true rfl) rfl ?_
  intro p e s m below meth c A C0 hr hinit hAO
  refine ww_aload_n C0 dX3_init_0 rfl ?_
  refine ww_objInit C0 kw_X3_3 (Nat.le_of_ble_eq_true rfl) dX3_init_1 (Nat.le_of_ble_eq_true rfl) (Nat.le_of_ble_eq_true rfl) ?_
  refine ww_aload_n C0 dX3_init_4 rfl ?_
  refine ww_bipush (v := (48)) C0 dX3_init_5 rfl ?_
  refine ww_newa (atype := .int) (ty := .int) C0 ka_int rfl (N' := 48) (a0 := (48, .inl (fun _ => 0))) (fun _ => rfl) (by decide) rfl (Nat.le_of_ble_eq_true rfl) (Nat.le_of_ble_eq_true rfl) (Nat.le_of_ble_eq_true rfl) dX3_init_7 (fun at0 cI => ?_)
  refine ww_perm (List.perm_append_singleton _ _) ?_
  refine ww_putF C0 hinit (ci := 3) (C := RX3) (T := TX3) (N := 2) ku_X3 1 rfl rfl 0 (by decide) tyX3 tyX3_ok nmX3 kw_X3_9 rfl rfl (ty := (.array .int)) (by decide +kernel) rfl rfl (Nat.le_of_ble_eq_true rfl) dX3_init_9 ?_
  simp only [List.set_cons_zero, List.set_cons_succ]
  refine ww_aload_n C0 dX3_init_12 rfl ?_
  refine ww_iconst (v := (0)) C0 dX3_init_13 rfl ?_
  refine ww_put C0 (ci := 3) (C := RX3) (T := TX3) (N := 2) ku_X3 1 rfl rfl 1 (by decide) tyX3 tyX3_ok nmX3 kw_X3_15 rfl (ty := .int) (by decide +kernel) rfl rfl (Nat.le_of_ble_eq_true rfl) dX3_init_14 ?_
  simp only [List.set_cons_zero, List.set_cons_succ]
  refine ww_perm (perm_mv 0 1 1 _) ?_
  simp only [List.drop_succ_cons, List.drop_zero, List.take_succ_cons, List.take_zero, List.cons_append, List.nil_append, Nat.reduceAdd]
  exact ww_cret C0 hr dX3_init_17 ⟨cI, at0, rfl⟩

set_option maxHeartbeats 4000000 in
set_option maxRecDepth 100000 in
theorem c_X0_init (l : Launch) (D : va_G) {aL : Nat} {rest : va_W} {tys : List (ClassId × FieldType)} {cI : ClassId} (ht : tys[0]? = some (cI, .int)) : MC l D tys yX0_init cX0_init 1 ({ frames := 1, cells := 3, slots := 15, locals := 12 } : Room) [.ref aL] ((aL, .inr (0, [.null, .null, .null, .int 0])) :: rest) (fun u => ∃ al0 al1 al2, u = (tys, (aL, .inr (0, [.ref al0, .ref al1, .ref al2, .int 0])) :: (al0, .inl (cI, 5, .inl (fun _ => 0))) :: (al1, .inl (cI, 5, .inl (fun _ => 0))) :: (al2, .inl (cI, 5, .inl (fun _ => 0))) :: rest)) 3 15 := by
  refine MC.of [.ref aL] (by decide) (Nat.le_of_ble_eq_true rfl) rfl ?_
  intro p e s m below meth c A C0 hr hinit hAO
  refine ww_aload_n C0 dX0_init_0 rfl ?_
  refine ww_objInit C0 kw_X0_3 (Nat.le_of_ble_eq_true rfl) dX0_init_1 (Nat.le_of_ble_eq_true rfl) (Nat.le_of_ble_eq_true rfl) ?_
  refine ww_aload_n C0 dX0_init_4 rfl ?_
  refine ww_iconst (v := (5)) C0 dX0_init_5 rfl ?_
  refine ww_newaK (atype := .int) (ty := .int) C0 ka_int rfl 0 ht (N' := 5) (a0 := (5, .inl (fun _ => 0))) (fun _ => rfl) (by decide) rfl (Nat.le_of_ble_eq_true rfl) (Nat.le_of_ble_eq_true rfl) (Nat.le_of_ble_eq_true rfl) dX0_init_6 (fun al0 => ?_)
  refine ww_perm (List.perm_append_singleton _ _) ?_
  refine ww_putF C0 hinit (ci := 0) (C := RX0) (T := TX0) (N := 4) ku_X0 1 rfl rfl 0 (by decide) tyX0 tyX0_ok nmX0 kw_X0_9 rfl rfl (ty := (.array .int)) (by decide +kernel) rfl rfl (Nat.le_of_ble_eq_true rfl) dX0_init_8 ?_
  simp only [List.set_cons_zero, List.set_cons_succ]
  refine ww_aload_n C0 dX0_init_11 rfl ?_
  refine ww_iconst (v := (5)) C0 dX0_init_12 rfl ?_
  refine ww_newaK (atype := .int) (ty := .int) C0 ka_int rfl 0 ht (N' := 5) (a0 := (5, .inl (fun _ => 0))) (fun _ => rfl) (by decide) rfl (Nat.le_of_ble_eq_true rfl) (Nat.le_of_ble_eq_true rfl) (Nat.le_of_ble_eq_true rfl) dX0_init_13 (fun al1 => ?_)
  refine ww_perm (List.perm_append_singleton _ _) ?_
  refine ww_putF C0 hinit (ci := 0) (C := RX0) (T := TX0) (N := 4) ku_X0 2 rfl rfl 1 (by decide) tyX0 tyX0_ok nmX0 kw_X0_15 rfl rfl (ty := (.array .int)) (by decide +kernel) rfl rfl (Nat.le_of_ble_eq_true rfl) dX0_init_15 ?_
  simp only [List.set_cons_zero, List.set_cons_succ]
  refine ww_aload_n C0 dX0_init_18 rfl ?_
  refine ww_iconst (v := (5)) C0 dX0_init_19 rfl ?_
  refine ww_newaK (atype := .int) (ty := .int) C0 ka_int rfl 0 ht (N' := 5) (a0 := (5, .inl (fun _ => 0))) (fun _ => rfl) (by decide) rfl (Nat.le_of_ble_eq_true rfl) (Nat.le_of_ble_eq_true rfl) (Nat.le_of_ble_eq_true rfl) dX0_init_20 (fun al2 => ?_)
  refine ww_perm (List.perm_append_singleton _ _) ?_
  refine ww_putF C0 hinit (ci := 0) (C := RX0) (T := TX0) (N := 4) ku_X0 3 rfl rfl 2 (by decide) tyX0 tyX0_ok nmX0 kw_X0_18 rfl rfl (ty := (.array .int)) (by decide +kernel) rfl rfl (Nat.le_of_ble_eq_true rfl) dX0_init_22 ?_
  simp only [List.set_cons_zero, List.set_cons_succ]
  refine ww_aload_n C0 dX0_init_25 rfl ?_
  refine ww_iconst (v := (0)) C0 dX0_init_26 rfl ?_
  refine ww_put C0 (ci := 0) (C := RX0) (T := TX0) (N := 4) ku_X0 3 rfl rfl 3 (by decide) tyX0 tyX0_ok nmX0 kw_X0_21 rfl (ty := .int) (by decide +kernel) rfl rfl (Nat.le_of_ble_eq_true rfl) dX0_init_27 ?_
  simp only [List.set_cons_zero, List.set_cons_succ]
  refine ww_perm (perm_mv 0 3 1 _) ?_
  simp only [List.drop_succ_cons, List.drop_zero, List.take_succ_cons, List.take_zero, List.cons_append, List.nil_append, Nat.reduceAdd]
  refine ww_perm (perm_mv 1 2 1 _) ?_
  simp only [List.drop_succ_cons, List.drop_zero, List.take_succ_cons, List.take_zero, List.cons_append, List.nil_append, Nat.reduceAdd]
  refine ww_perm (perm_mv 2 1 1 _) ?_
  simp only [List.drop_succ_cons, List.drop_zero, List.take_succ_cons, List.take_zero, List.cons_append, List.nil_append, Nat.reduceAdd]
  exact ww_cret C0 hr dX0_init_30 ⟨al0, al1, al2, rfl⟩

set_option maxHeartbeats 4000000 in
set_option maxRecDepth 100000 in
theorem c_X1_init (l : Launch) (D : va_G) {aG : Nat} {rest : va_W} {tys : List (ClassId × FieldType)} {cI : ClassId} (ht : tys[0]? = some (cI, .int)) : MC l D tys yX1_init cX1_init 1 ({ frames := 1, cells := 5, slots := 30, locals := 12 } : Room) [.ref aG] ((aG, .inr (1, [.null, .null, .null, .null, .null, .int 0])) :: rest) (fun u => ∃ ag0 ag1 ag2 ag3 ag4, u = (tys, (aG, .inr (1, [.ref ag0, .ref ag1, .ref ag2, .ref ag3, .ref ag4, .int 0])) :: (ag0, .inl (cI, 6, .inl (fun _ => 0))) :: (ag1, .inl (cI, 6, .inl (fun _ => 0))) :: (ag2, .inl (cI, 6, .inl (fun _ => 0))) :: (ag3, .inl (cI, 6, .inl (fun _ => 0))) :: (ag4, .inl (cI, 6, .inl (fun _ => 0))) :: rest)) 5 30 := by
  refine MC.of [.ref aG] (by decide) (Nat.le_of_ble_eq_true rfl) rfl ?_
  intro p e s m below meth c A C0 hr hinit hAO
  refine ww_aload_n C0 dX1_init_0 rfl ?_
  refine ww_objInit C0 kw_X1_3 (Nat.le_of_ble_eq_true rfl) dX1_init_1 (Nat.le_of_ble_eq_true rfl) (Nat.le_of_ble_eq_true rfl) ?_
  refine ww_aload_n C0 dX1_init_4 rfl ?_
  refine ww_bipush (v := (6)) C0 dX1_init_5 rfl ?_
  refine ww_newaK (atype := .int) (ty := .int) C0 ka_int rfl 0 ht (N' := 6) (a0 := (6, .inl (fun _ => 0))) (fun _ => rfl) (by decide) rfl (Nat.le_of_ble_eq_true rfl) (Nat.le_of_ble_eq_true rfl) (Nat.le_of_ble_eq_true rfl) dX1_init_7 (fun ag0 => ?_)
  refine ww_perm (List.perm_append_singleton _ _) ?_
  refine ww_putF C0 hinit (ci := 1) (C := RX1) (T := TX1) (N := 6) ku_X1 1 rfl rfl 0 (by decide) tyX1 tyX1_ok nmX1 kw_X1_9 rfl rfl (ty := (.array .int)) (by decide +kernel) rfl rfl (Nat.le_of_ble_eq_true rfl) dX1_init_9 ?_
  simp only [List.set_cons_zero, List.set_cons_succ]
  refine ww_aload_n C0 dX1_init_12 rfl ?_
  refine ww_bipush (v := (6)) C0 dX1_init_13 rfl ?_
  refine ww_newaK (atype := .int) (ty := .int) C0 ka_int rfl 0 ht (N' := 6) (a0 := (6, .inl (fun _ => 0))) (fun _ => rfl) (by decide) rfl (Nat.le_of_ble_eq_true rfl) (Nat.le_of_ble_eq_true rfl) (Nat.le_of_ble_eq_true rfl) dX1_init_15 (fun ag1 => ?_)
  refine ww_perm (List.perm_append_singleton _ _) ?_
  refine ww_putF C0 hinit (ci := 1) (C := RX1) (T := TX1) (N := 6) ku_X1 2 rfl rfl 1 (by decide) tyX1 tyX1_ok nmX1 kw_X1_15 rfl rfl (ty := (.array .int)) (by decide +kernel) rfl rfl (Nat.le_of_ble_eq_true rfl) dX1_init_17 ?_
  simp only [List.set_cons_zero, List.set_cons_succ]
  refine ww_aload_n C0 dX1_init_20 rfl ?_
  refine ww_bipush (v := (6)) C0 dX1_init_21 rfl ?_
  refine ww_newaK (atype := .int) (ty := .int) C0 ka_int rfl 0 ht (N' := 6) (a0 := (6, .inl (fun _ => 0))) (fun _ => rfl) (by decide) rfl (Nat.le_of_ble_eq_true rfl) (Nat.le_of_ble_eq_true rfl) (Nat.le_of_ble_eq_true rfl) dX1_init_23 (fun ag2 => ?_)
  refine ww_perm (List.perm_append_singleton _ _) ?_
  refine ww_putF C0 hinit (ci := 1) (C := RX1) (T := TX1) (N := 6) ku_X1 3 rfl rfl 2 (by decide) tyX1 tyX1_ok nmX1 kw_X1_18 rfl rfl (ty := (.array .int)) (by decide +kernel) rfl rfl (Nat.le_of_ble_eq_true rfl) dX1_init_25 ?_
  simp only [List.set_cons_zero, List.set_cons_succ]
  refine ww_aload_n C0 dX1_init_28 rfl ?_
  refine ww_bipush (v := (6)) C0 dX1_init_29 rfl ?_
  refine ww_newaK (atype := .int) (ty := .int) C0 ka_int rfl 0 ht (N' := 6) (a0 := (6, .inl (fun _ => 0))) (fun _ => rfl) (by decide) rfl (Nat.le_of_ble_eq_true rfl) (Nat.le_of_ble_eq_true rfl) (Nat.le_of_ble_eq_true rfl) dX1_init_31 (fun ag3 => ?_)
  refine ww_perm (List.perm_append_singleton _ _) ?_
  refine ww_putF C0 hinit (ci := 1) (C := RX1) (T := TX1) (N := 6) ku_X1 4 rfl rfl 3 (by decide) tyX1 tyX1_ok nmX1 kw_X1_21 rfl rfl (ty := (.array .int)) (by decide +kernel) rfl rfl (Nat.le_of_ble_eq_true rfl) dX1_init_33 ?_
  simp only [List.set_cons_zero, List.set_cons_succ]
  refine ww_aload_n C0 dX1_init_36 rfl ?_
  refine ww_bipush (v := (6)) C0 dX1_init_37 rfl ?_
  refine ww_newaK (atype := .int) (ty := .int) C0 ka_int rfl 0 ht (N' := 6) (a0 := (6, .inl (fun _ => 0))) (fun _ => rfl) (by decide) rfl (Nat.le_of_ble_eq_true rfl) (Nat.le_of_ble_eq_true rfl) (Nat.le_of_ble_eq_true rfl) dX1_init_39 (fun ag4 => ?_)
  refine ww_perm (List.perm_append_singleton _ _) ?_
  refine ww_putF C0 hinit (ci := 1) (C := RX1) (T := TX1) (N := 6) ku_X1 5 rfl rfl 4 (by decide) tyX1 tyX1_ok nmX1 kw_X1_24 rfl rfl (ty := (.array .int)) (by decide +kernel) rfl rfl (Nat.le_of_ble_eq_true rfl) dX1_init_41 ?_
  simp only [List.set_cons_zero, List.set_cons_succ]
  refine ww_aload_n C0 dX1_init_44 rfl ?_
  refine ww_iconst (v := (0)) C0 dX1_init_45 rfl ?_
  refine ww_put C0 (ci := 1) (C := RX1) (T := TX1) (N := 6) ku_X1 5 rfl rfl 5 (by decide) tyX1 tyX1_ok nmX1 kw_X1_27 rfl (ty := .int) (by decide +kernel) rfl rfl (Nat.le_of_ble_eq_true rfl) dX1_init_46 ?_
  simp only [List.set_cons_zero, List.set_cons_succ]
  refine ww_perm (perm_mv 0 5 1 _) ?_
  simp only [List.drop_succ_cons, List.drop_zero, List.take_succ_cons, List.take_zero, List.cons_append, List.nil_append, Nat.reduceAdd]
  refine ww_perm (perm_mv 1 4 1 _) ?_
  simp only [List.drop_succ_cons, List.drop_zero, List.take_succ_cons, List.take_zero, List.cons_append, List.nil_append, Nat.reduceAdd]
  refine ww_perm (perm_mv 2 3 1 _) ?_
  simp only [List.drop_succ_cons, List.drop_zero, List.take_succ_cons, List.take_zero, List.cons_append, List.nil_append, Nat.reduceAdd]
  refine ww_perm (perm_mv 3 2 1 _) ?_
  simp only [List.drop_succ_cons, List.drop_zero, List.take_succ_cons, List.take_zero, List.cons_append, List.nil_append, Nat.reduceAdd]
  refine ww_perm (perm_mv 4 1 1 _) ?_
  simp only [List.drop_succ_cons, List.drop_zero, List.take_succ_cons, List.take_zero, List.cons_append, List.nil_append, Nat.reduceAdd]
  exact ww_cret C0 hr dX1_init_49 ⟨ag0, ag1, ag2, ag3, ag4, rfl⟩

set_option maxHeartbeats 4000000 in
set_option maxRecDepth 100000 in
theorem c_X2_init (l : Launch) (D : va_G) {aN : Nat} {rest : va_W} {tys : List (ClassId × FieldType)} {cI : ClassId} (ht : tys[0]? = some (cI, .int)) : MC l D tys yX2_init cX2_init 1 ({ frames := 1, cells := 3, slots := 15, locals := 12 } : Room) [.ref aN] ((aN, .inr (2, [.null, .null, .null, .int 0, .int 0])) :: rest) (fun u => ∃ an0 an1 an2, u = (tys, (aN, .inr (2, [.ref an0, .ref an1, .ref an2, .int 0, .int 0])) :: (an0, .inl (cI, 5, .inl (fun _ => 0))) :: (an1, .inl (cI, 5, .inl (fun _ => 0))) :: (an2, .inl (cI, 5, .inl (fun _ => 0))) :: rest)) 3 15 := by
  refine MC.of [.ref aN] (by decide) (Nat.le_of_ble_eq_true rfl) rfl ?_
  intro p e s m below meth c A C0 hr hinit hAO
  refine ww_aload_n C0 dX2_init_0 rfl ?_
  refine ww_objInit C0 kw_X2_3 (Nat.le_of_ble_eq_true rfl) dX2_init_1 (Nat.le_of_ble_eq_true rfl) (Nat.le_of_ble_eq_true rfl) ?_
  refine ww_aload_n C0 dX2_init_4 rfl ?_
  refine ww_iconst (v := (5)) C0 dX2_init_5 rfl ?_
  refine ww_newaK (atype := .int) (ty := .int) C0 ka_int rfl 0 ht (N' := 5) (a0 := (5, .inl (fun _ => 0))) (fun _ => rfl) (by decide) rfl (Nat.le_of_ble_eq_true rfl) (Nat.le_of_ble_eq_true rfl) (Nat.le_of_ble_eq_true rfl) dX2_init_6 (fun an0 => ?_)
  refine ww_perm (List.perm_append_singleton _ _) ?_
  refine ww_putF C0 hinit (ci := 2) (C := RX2) (T := TX2) (N := 5) ku_X2 1 rfl rfl 0 (by decide) tyX2 tyX2_ok nmX2 kw_X2_9 rfl rfl (ty := (.array .int)) (by decide +kernel) rfl rfl (Nat.le_of_ble_eq_true rfl) dX2_init_8 ?_
  simp only [List.set_cons_zero, List.set_cons_succ]
  refine ww_aload_n C0 dX2_init_11 rfl ?_
  refine ww_iconst (v := (5)) C0 dX2_init_12 rfl ?_
  refine ww_newaK (atype := .int) (ty := .int) C0 ka_int rfl 0 ht (N' := 5) (a0 := (5, .inl (fun _ => 0))) (fun _ => rfl) (by decide) rfl (Nat.le_of_ble_eq_true rfl) (Nat.le_of_ble_eq_true rfl) (Nat.le_of_ble_eq_true rfl) dX2_init_13 (fun an1 => ?_)
  refine ww_perm (List.perm_append_singleton _ _) ?_
  refine ww_putF C0 hinit (ci := 2) (C := RX2) (T := TX2) (N := 5) ku_X2 2 rfl rfl 1 (by decide) tyX2 tyX2_ok nmX2 kw_X2_15 rfl rfl (ty := (.array .int)) (by decide +kernel) rfl rfl (Nat.le_of_ble_eq_true rfl) dX2_init_15 ?_
  simp only [List.set_cons_zero, List.set_cons_succ]
  refine ww_aload_n C0 dX2_init_18 rfl ?_
  refine ww_iconst (v := (5)) C0 dX2_init_19 rfl ?_
  refine ww_newaK (atype := .int) (ty := .int) C0 ka_int rfl 0 ht (N' := 5) (a0 := (5, .inl (fun _ => 0))) (fun _ => rfl) (by decide) rfl (Nat.le_of_ble_eq_true rfl) (Nat.le_of_ble_eq_true rfl) (Nat.le_of_ble_eq_true rfl) dX2_init_20 (fun an2 => ?_)
  refine ww_perm (List.perm_append_singleton _ _) ?_
  refine ww_putF C0 hinit (ci := 2) (C := RX2) (T := TX2) (N := 5) ku_X2 3 rfl rfl 2 (by decide) tyX2 tyX2_ok nmX2 kw_X2_18 rfl rfl (ty := (.array .int)) (by decide +kernel) rfl rfl (Nat.le_of_ble_eq_true rfl) dX2_init_22 ?_
  simp only [List.set_cons_zero, List.set_cons_succ]
  refine ww_aload_n C0 dX2_init_25 rfl ?_
  refine ww_iconst (v := (0)) C0 dX2_init_26 rfl ?_
  refine ww_put C0 (ci := 2) (C := RX2) (T := TX2) (N := 5) ku_X2 3 rfl rfl 3 (by decide) tyX2 tyX2_ok nmX2 kw_X2_21 rfl (ty := .int) (by decide +kernel) rfl rfl (Nat.le_of_ble_eq_true rfl) dX2_init_27 ?_
  simp only [List.set_cons_zero, List.set_cons_succ]
  refine ww_aload_n C0 dX2_init_30 rfl ?_
  refine ww_iconst (v := (0)) C0 dX2_init_31 rfl ?_
  refine ww_put C0 (ci := 2) (C := RX2) (T := TX2) (N := 5) ku_X2 3 rfl rfl 4 (by decide) tyX2 tyX2_ok nmX2 kw_X2_25 rfl (ty := .int) (by decide +kernel) rfl rfl (Nat.le_of_ble_eq_true rfl) dX2_init_32 ?_
  simp only [List.set_cons_zero, List.set_cons_succ]
  refine ww_perm (perm_mv 0 3 1 _) ?_
  simp only [List.drop_succ_cons, List.drop_zero, List.take_succ_cons, List.take_zero, List.cons_append, List.nil_append, Nat.reduceAdd]
  refine ww_perm (perm_mv 1 2 1 _) ?_
  simp only [List.drop_succ_cons, List.drop_zero, List.take_succ_cons, List.take_zero, List.cons_append, List.nil_append, Nat.reduceAdd]
  refine ww_perm (perm_mv 2 1 1 _) ?_
  simp only [List.drop_succ_cons, List.drop_zero, List.take_succ_cons, List.take_zero, List.cons_append, List.nil_append, Nat.reduceAdd]
  exact ww_cret C0 hr dX2_init_35 ⟨an0, an1, an2, rfl⟩

set_option maxHeartbeats 4000000 in
set_option maxRecDepth 100000 in
theorem c_X5_init (l : Launch) (D : va_G) {aM : Nat} {rest : va_W} {tys : List (ClassId × FieldType)} {cI cZ : ClassId} (ht : tys[0]? = some (cI, .int)) (hz : tys[1]? = some (cZ, .boolean)) : MC l D tys yX5_init cX5_init 1 ({ frames := 1, cells := 19, slots := 478, locals := 12 } : Room) [.ref aM] ((aM, .inr (5, [.int 0, .null, .int 0, .int 0, .int 0, .null, .int 0, .null, .null, .null, .int 0, .null, .int 0, .null, .null, .null, .null, .int 0, .null, .null, .int 0, .null, .null, .null, .null, .null, .long 0, .null, .int 0, .int 0, .int 0, .int 0, .null])) :: rest) (fun u => ∃ amt amc amw ams amv amr amx amp amq amb amk amz am0 am1 am2 am3 am4 amh amo, u = (tys, (aM, .inr (5, [.int 0, .ref amt, .int 0, .int 0, .int 0, .ref amc, .int 0, .ref amw, .ref ams, .ref amv, .int 0, .ref amr, .int 0, .ref amx, .ref amp, .ref amq, .ref amb, .int 0, .ref amk, .ref amz, .int 0, .ref am0, .ref am1, .ref am2, .ref am3, .ref am4, .long 0, .ref amh, .int 0, .int 0, .int 0, .int 0, .ref amo])) :: (amt, .inl (cI, 48, .inl (fun _ => 0))) :: (amc, .inl (cI, 5, .inl (fun _ => 0))) :: (amw, .inl (cI, 5, .inl (fun _ => 0))) :: (ams, .inl (cI, 5, .inl (fun _ => 0))) :: (amv, .inl (cI, 5, .inl (fun _ => 0))) :: (amp, .inl (cI, 17, .inl (fun _ => 0))) :: (amq, .inl (cI, 17, .inl (fun _ => 0))) :: (amr, .inl (cI, 15, .inl (fun _ => 0))) :: (amx, .inl (cI, 15, .inl (fun _ => 0))) :: (amb, .inl (cI, 238, .inl (fun _ => 0))) :: (amk, .inl (cI, 34, .inl (fun _ => 0))) :: (amz, .inl (cZ, 2, .inl (fun _ => 0))) :: (am0, .inl (cI, 6, .inl (fun _ => 0))) :: (am1, .inl (cI, 6, .inl (fun _ => 0))) :: (am2, .inl (cI, 6, .inl (fun _ => 0))) :: (am3, .inl (cI, 6, .inl (fun _ => 0))) :: (am4, .inl (cI, 6, .inl (fun _ => 0))) :: (amh, .inl (cI, 10, .inl (fun _ => 0))) :: (amo, .inl (cI, 32, .inl (fun _ => 0))) :: rest)) 19 478 := by
  refine MC.of [.ref aM] (by decide) (Nat.le_of_ble_eq_true rfl) rfl ?_
  intro p e s m below meth c A C0 hr hinit hAO
  refine ww_aload_n C0 dX5_init_0 rfl ?_
  refine ww_objInit C0 kw_X5_1 (Nat.le_of_ble_eq_true rfl) dX5_init_1 (Nat.le_of_ble_eq_true rfl) (Nat.le_of_ble_eq_true rfl) ?_
  refine ww_aload_n C0 dX5_init_4 rfl ?_
  refine ww_bipush (v := (48)) C0 dX5_init_5 rfl ?_
  refine ww_newaK (atype := .int) (ty := .int) C0 ka_int rfl 0 ht (N' := 48) (a0 := (48, .inl (fun _ => 0))) (fun _ => rfl) (by decide) rfl (Nat.le_of_ble_eq_true rfl) (Nat.le_of_ble_eq_true rfl) (Nat.le_of_ble_eq_true rfl) dX5_init_7 (fun amt => ?_)
  refine ww_perm (List.perm_append_singleton _ _) ?_
  refine ww_putF C0 hinit (ci := 5) (C := RX5) (T := TX5) (N := 33) ku_X5 1 rfl rfl 1 (by decide) tyX5 tyX5_ok nmX5 kw_X5_7 rfl rfl (ty := (.array .int)) (by decide +kernel) rfl rfl (Nat.le_of_ble_eq_true rfl) dX5_init_9 ?_
  simp only [List.set_cons_zero, List.set_cons_succ]
  refine ww_aload_n C0 dX5_init_12 rfl ?_
  refine ww_iconst (v := (5)) C0 dX5_init_13 rfl ?_
  refine ww_newaK (atype := .int) (ty := .int) C0 ka_int rfl 0 ht (N' := 5) (a0 := (5, .inl (fun _ => 0))) (fun _ => rfl) (by decide) rfl (Nat.le_of_ble_eq_true rfl) (Nat.le_of_ble_eq_true rfl) (Nat.le_of_ble_eq_true rfl) dX5_init_14 (fun amc => ?_)
  refine ww_perm (List.perm_append_singleton _ _) ?_
  refine ww_putF C0 hinit (ci := 5) (C := RX5) (T := TX5) (N := 33) ku_X5 2 rfl rfl 5 (by decide) tyX5 tyX5_ok nmX5 kw_X5_13 rfl rfl (ty := (.array .int)) (by decide +kernel) rfl rfl (Nat.le_of_ble_eq_true rfl) dX5_init_16 ?_
  simp only [List.set_cons_zero, List.set_cons_succ]
  refine ww_aload_n C0 dX5_init_19 rfl ?_
  refine ww_iconst (v := (5)) C0 dX5_init_20 rfl ?_
  refine ww_newaK (atype := .int) (ty := .int) C0 ka_int rfl 0 ht (N' := 5) (a0 := (5, .inl (fun _ => 0))) (fun _ => rfl) (by decide) rfl (Nat.le_of_ble_eq_true rfl) (Nat.le_of_ble_eq_true rfl) (Nat.le_of_ble_eq_true rfl) dX5_init_21 (fun amw => ?_)
  refine ww_perm (List.perm_append_singleton _ _) ?_
  refine ww_putF C0 hinit (ci := 5) (C := RX5) (T := TX5) (N := 33) ku_X5 3 rfl rfl 7 (by decide) tyX5 tyX5_ok nmX5 kw_X5_16 rfl rfl (ty := (.array .int)) (by decide +kernel) rfl rfl (Nat.le_of_ble_eq_true rfl) dX5_init_23 ?_
  simp only [List.set_cons_zero, List.set_cons_succ]
  refine ww_aload_n C0 dX5_init_26 rfl ?_
  refine ww_iconst (v := (5)) C0 dX5_init_27 rfl ?_
  refine ww_newaK (atype := .int) (ty := .int) C0 ka_int rfl 0 ht (N' := 5) (a0 := (5, .inl (fun _ => 0))) (fun _ => rfl) (by decide) rfl (Nat.le_of_ble_eq_true rfl) (Nat.le_of_ble_eq_true rfl) (Nat.le_of_ble_eq_true rfl) dX5_init_28 (fun ams => ?_)
  refine ww_perm (List.perm_append_singleton _ _) ?_
  refine ww_putF C0 hinit (ci := 5) (C := RX5) (T := TX5) (N := 33) ku_X5 4 rfl rfl 8 (by decide) tyX5 tyX5_ok nmX5 kw_X5_19 rfl rfl (ty := (.array .int)) (by decide +kernel) rfl rfl (Nat.le_of_ble_eq_true rfl) dX5_init_30 ?_
  simp only [List.set_cons_zero, List.set_cons_succ]
  refine ww_aload_n C0 dX5_init_33 rfl ?_
  refine ww_iconst (v := (5)) C0 dX5_init_34 rfl ?_
  refine ww_newaK (atype := .int) (ty := .int) C0 ka_int rfl 0 ht (N' := 5) (a0 := (5, .inl (fun _ => 0))) (fun _ => rfl) (by decide) rfl (Nat.le_of_ble_eq_true rfl) (Nat.le_of_ble_eq_true rfl) (Nat.le_of_ble_eq_true rfl) dX5_init_35 (fun amv => ?_)
  refine ww_perm (List.perm_append_singleton _ _) ?_
  refine ww_putF C0 hinit (ci := 5) (C := RX5) (T := TX5) (N := 33) ku_X5 5 rfl rfl 9 (by decide) tyX5 tyX5_ok nmX5 kw_X5_22 rfl rfl (ty := (.array .int)) (by decide +kernel) rfl rfl (Nat.le_of_ble_eq_true rfl) dX5_init_37 ?_
  simp only [List.set_cons_zero, List.set_cons_succ]
  refine ww_aload_n C0 dX5_init_40 rfl ?_
  refine ww_bipush (v := (15)) C0 dX5_init_41 rfl ?_
  refine ww_newaK (atype := .int) (ty := .int) C0 ka_int rfl 0 ht (N' := 15) (a0 := (15, .inl (fun _ => 0))) (fun _ => rfl) (by decide) rfl (Nat.le_of_ble_eq_true rfl) (Nat.le_of_ble_eq_true rfl) (Nat.le_of_ble_eq_true rfl) dX5_init_43 (fun amr => ?_)
  refine ww_perm (List.perm_append_singleton _ _) ?_
  refine ww_putF C0 hinit (ci := 5) (C := RX5) (T := TX5) (N := 33) ku_X5 6 rfl rfl 11 (by decide) tyX5 tyX5_ok nmX5 kw_X5_25 rfl rfl (ty := (.array .int)) (by decide +kernel) rfl rfl (Nat.le_of_ble_eq_true rfl) dX5_init_45 ?_
  simp only [List.set_cons_zero, List.set_cons_succ]
  refine ww_aload_n C0 dX5_init_48 rfl ?_
  refine ww_bipush (v := (15)) C0 dX5_init_49 rfl ?_
  refine ww_newaK (atype := .int) (ty := .int) C0 ka_int rfl 0 ht (N' := 15) (a0 := (15, .inl (fun _ => 0))) (fun _ => rfl) (by decide) rfl (Nat.le_of_ble_eq_true rfl) (Nat.le_of_ble_eq_true rfl) (Nat.le_of_ble_eq_true rfl) dX5_init_51 (fun amx => ?_)
  refine ww_perm (List.perm_append_singleton _ _) ?_
  refine ww_putF C0 hinit (ci := 5) (C := RX5) (T := TX5) (N := 33) ku_X5 7 rfl rfl 13 (by decide) tyX5 tyX5_ok nmX5 kw_X5_28 rfl rfl (ty := (.array .int)) (by decide +kernel) rfl rfl (Nat.le_of_ble_eq_true rfl) dX5_init_53 ?_
  simp only [List.set_cons_zero, List.set_cons_succ]
  refine ww_aload_n C0 dX5_init_56 rfl ?_
  refine ww_bipush (v := (17)) C0 dX5_init_57 rfl ?_
  refine ww_newaK (atype := .int) (ty := .int) C0 ka_int rfl 0 ht (N' := 17) (a0 := (17, .inl (fun _ => 0))) (fun _ => rfl) (by decide) rfl (Nat.le_of_ble_eq_true rfl) (Nat.le_of_ble_eq_true rfl) (Nat.le_of_ble_eq_true rfl) dX5_init_59 (fun amp => ?_)
  refine ww_perm (List.perm_append_singleton _ _) ?_
  refine ww_putF C0 hinit (ci := 5) (C := RX5) (T := TX5) (N := 33) ku_X5 8 rfl rfl 14 (by decide) tyX5 tyX5_ok nmX5 kw_X5_31 rfl rfl (ty := (.array .int)) (by decide +kernel) rfl rfl (Nat.le_of_ble_eq_true rfl) dX5_init_61 ?_
  simp only [List.set_cons_zero, List.set_cons_succ]
  refine ww_aload_n C0 dX5_init_64 rfl ?_
  refine ww_bipush (v := (17)) C0 dX5_init_65 rfl ?_
  refine ww_newaK (atype := .int) (ty := .int) C0 ka_int rfl 0 ht (N' := 17) (a0 := (17, .inl (fun _ => 0))) (fun _ => rfl) (by decide) rfl (Nat.le_of_ble_eq_true rfl) (Nat.le_of_ble_eq_true rfl) (Nat.le_of_ble_eq_true rfl) dX5_init_67 (fun amq => ?_)
  refine ww_perm (List.perm_append_singleton _ _) ?_
  refine ww_putF C0 hinit (ci := 5) (C := RX5) (T := TX5) (N := 33) ku_X5 9 rfl rfl 15 (by decide) tyX5 tyX5_ok nmX5 kw_X5_34 rfl rfl (ty := (.array .int)) (by decide +kernel) rfl rfl (Nat.le_of_ble_eq_true rfl) dX5_init_69 ?_
  simp only [List.set_cons_zero, List.set_cons_succ]
  refine ww_aload_n C0 dX5_init_72 rfl ?_
  refine ww_sipush (v := (238)) C0 dX5_init_73 rfl ?_
  refine ww_newaK (atype := .int) (ty := .int) C0 ka_int rfl 0 ht (N' := 238) (a0 := (238, .inl (fun _ => 0))) (fun _ => rfl) (by decide) rfl (Nat.le_of_ble_eq_true rfl) (Nat.le_of_ble_eq_true rfl) (Nat.le_of_ble_eq_true rfl) dX5_init_76 (fun amb => ?_)
  refine ww_perm (List.perm_append_singleton _ _) ?_
  refine ww_putF C0 hinit (ci := 5) (C := RX5) (T := TX5) (N := 33) ku_X5 10 rfl rfl 16 (by decide) tyX5 tyX5_ok nmX5 kw_X5_37 rfl rfl (ty := (.array .int)) (by decide +kernel) rfl rfl (Nat.le_of_ble_eq_true rfl) dX5_init_78 ?_
  simp only [List.set_cons_zero, List.set_cons_succ]
  refine ww_aload_n C0 dX5_init_81 rfl ?_
  refine ww_bipush (v := (34)) C0 dX5_init_82 rfl ?_
  refine ww_newaK (atype := .int) (ty := .int) C0 ka_int rfl 0 ht (N' := 34) (a0 := (34, .inl (fun _ => 0))) (fun _ => rfl) (by decide) rfl (Nat.le_of_ble_eq_true rfl) (Nat.le_of_ble_eq_true rfl) (Nat.le_of_ble_eq_true rfl) dX5_init_84 (fun amk => ?_)
  refine ww_perm (List.perm_append_singleton _ _) ?_
  refine ww_putF C0 hinit (ci := 5) (C := RX5) (T := TX5) (N := 33) ku_X5 11 rfl rfl 18 (by decide) tyX5 tyX5_ok nmX5 kw_X5_40 rfl rfl (ty := (.array .int)) (by decide +kernel) rfl rfl (Nat.le_of_ble_eq_true rfl) dX5_init_86 ?_
  simp only [List.set_cons_zero, List.set_cons_succ]
  refine ww_aload_n C0 dX5_init_89 rfl ?_
  refine ww_iconst (v := (2)) C0 dX5_init_90 rfl ?_
  refine ww_newaK (atype := .boolean) (ty := .boolean) C0 ka_boolean rfl 1 hz (N' := 2) (a0 := (2, .inl (fun _ => 0))) (fun _ => rfl) (by decide) rfl (Nat.le_of_ble_eq_true rfl) (Nat.le_of_ble_eq_true rfl) (Nat.le_of_ble_eq_true rfl) dX5_init_91 (fun amz => ?_)
  refine ww_perm (List.perm_append_singleton _ _) ?_
  refine ww_putF C0 hinit (ci := 5) (C := RX5) (T := TX5) (N := 33) ku_X5 12 rfl rfl 19 (by decide) tyX5 tyX5_ok nmX5 kw_X5_43 rfl rfl (ty := (.array .boolean)) (by decide +kernel) rfl rfl (Nat.le_of_ble_eq_true rfl) dX5_init_93 ?_
  simp only [List.set_cons_zero, List.set_cons_succ]
  refine ww_aload_n C0 dX5_init_96 rfl ?_
  refine ww_bipush (v := (6)) C0 dX5_init_97 rfl ?_
  refine ww_newaK (atype := .int) (ty := .int) C0 ka_int rfl 0 ht (N' := 6) (a0 := (6, .inl (fun _ => 0))) (fun _ => rfl) (by decide) rfl (Nat.le_of_ble_eq_true rfl) (Nat.le_of_ble_eq_true rfl) (Nat.le_of_ble_eq_true rfl) dX5_init_99 (fun am0 => ?_)
  refine ww_perm (List.perm_append_singleton _ _) ?_
  refine ww_putF C0 hinit (ci := 5) (C := RX5) (T := TX5) (N := 33) ku_X5 13 rfl rfl 21 (by decide) tyX5 tyX5_ok nmX5 kw_X5_47 rfl rfl (ty := (.array .int)) (by decide +kernel) rfl rfl (Nat.le_of_ble_eq_true rfl) dX5_init_101 ?_
  simp only [List.set_cons_zero, List.set_cons_succ]
  refine ww_aload_n C0 dX5_init_104 rfl ?_
  refine ww_bipush (v := (6)) C0 dX5_init_105 rfl ?_
  refine ww_newaK (atype := .int) (ty := .int) C0 ka_int rfl 0 ht (N' := 6) (a0 := (6, .inl (fun _ => 0))) (fun _ => rfl) (by decide) rfl (Nat.le_of_ble_eq_true rfl) (Nat.le_of_ble_eq_true rfl) (Nat.le_of_ble_eq_true rfl) dX5_init_107 (fun am1 => ?_)
  refine ww_perm (List.perm_append_singleton _ _) ?_
  refine ww_putF C0 hinit (ci := 5) (C := RX5) (T := TX5) (N := 33) ku_X5 14 rfl rfl 22 (by decide) tyX5 tyX5_ok nmX5 kw_X5_50 rfl rfl (ty := (.array .int)) (by decide +kernel) rfl rfl (Nat.le_of_ble_eq_true rfl) dX5_init_109 ?_
  simp only [List.set_cons_zero, List.set_cons_succ]
  refine ww_aload_n C0 dX5_init_112 rfl ?_
  refine ww_bipush (v := (6)) C0 dX5_init_113 rfl ?_
  refine ww_newaK (atype := .int) (ty := .int) C0 ka_int rfl 0 ht (N' := 6) (a0 := (6, .inl (fun _ => 0))) (fun _ => rfl) (by decide) rfl (Nat.le_of_ble_eq_true rfl) (Nat.le_of_ble_eq_true rfl) (Nat.le_of_ble_eq_true rfl) dX5_init_115 (fun am2 => ?_)
  refine ww_perm (List.perm_append_singleton _ _) ?_
  refine ww_putF C0 hinit (ci := 5) (C := RX5) (T := TX5) (N := 33) ku_X5 15 rfl rfl 23 (by decide) tyX5 tyX5_ok nmX5 kw_X5_53 rfl rfl (ty := (.array .int)) (by decide +kernel) rfl rfl (Nat.le_of_ble_eq_true rfl) dX5_init_117 ?_
  simp only [List.set_cons_zero, List.set_cons_succ]
  refine ww_aload_n C0 dX5_init_120 rfl ?_
  refine ww_bipush (v := (6)) C0 dX5_init_121 rfl ?_
  refine ww_newaK (atype := .int) (ty := .int) C0 ka_int rfl 0 ht (N' := 6) (a0 := (6, .inl (fun _ => 0))) (fun _ => rfl) (by decide) rfl (Nat.le_of_ble_eq_true rfl) (Nat.le_of_ble_eq_true rfl) (Nat.le_of_ble_eq_true rfl) dX5_init_123 (fun am3 => ?_)
  refine ww_perm (List.perm_append_singleton _ _) ?_
  refine ww_putF C0 hinit (ci := 5) (C := RX5) (T := TX5) (N := 33) ku_X5 16 rfl rfl 24 (by decide) tyX5 tyX5_ok nmX5 kw_X5_56 rfl rfl (ty := (.array .int)) (by decide +kernel) rfl rfl (Nat.le_of_ble_eq_true rfl) dX5_init_125 ?_
  simp only [List.set_cons_zero, List.set_cons_succ]
  refine ww_aload_n C0 dX5_init_128 rfl ?_
  refine ww_bipush (v := (6)) C0 dX5_init_129 rfl ?_
  refine ww_newaK (atype := .int) (ty := .int) C0 ka_int rfl 0 ht (N' := 6) (a0 := (6, .inl (fun _ => 0))) (fun _ => rfl) (by decide) rfl (Nat.le_of_ble_eq_true rfl) (Nat.le_of_ble_eq_true rfl) (Nat.le_of_ble_eq_true rfl) dX5_init_131 (fun am4 => ?_)
  refine ww_perm (List.perm_append_singleton _ _) ?_
  refine ww_putF C0 hinit (ci := 5) (C := RX5) (T := TX5) (N := 33) ku_X5 17 rfl rfl 25 (by decide) tyX5 tyX5_ok nmX5 kw_X5_59 rfl rfl (ty := (.array .int)) (by decide +kernel) rfl rfl (Nat.le_of_ble_eq_true rfl) dX5_init_133 ?_
  simp only [List.set_cons_zero, List.set_cons_succ]
  refine ww_aload_n C0 dX5_init_136 rfl ?_
  refine ww_bipush (v := (10)) C0 dX5_init_137 rfl ?_
  refine ww_newaK (atype := .int) (ty := .int) C0 ka_int rfl 0 ht (N' := 10) (a0 := (10, .inl (fun _ => 0))) (fun _ => rfl) (by decide) rfl (Nat.le_of_ble_eq_true rfl) (Nat.le_of_ble_eq_true rfl) (Nat.le_of_ble_eq_true rfl) dX5_init_139 (fun amh => ?_)
  refine ww_perm (List.perm_append_singleton _ _) ?_
  refine ww_putF C0 hinit (ci := 5) (C := RX5) (T := TX5) (N := 33) ku_X5 18 rfl rfl 27 (by decide) tyX5 tyX5_ok nmX5 kw_X5_62 rfl rfl (ty := (.array .int)) (by decide +kernel) rfl rfl (Nat.le_of_ble_eq_true rfl) dX5_init_141 ?_
  simp only [List.set_cons_zero, List.set_cons_succ]
  refine ww_aload_n C0 dX5_init_144 rfl ?_
  refine ww_bipush (v := (32)) C0 dX5_init_145 rfl ?_
  refine ww_newaK (atype := .int) (ty := .int) C0 ka_int rfl 0 ht (N' := 32) (a0 := (32, .inl (fun _ => 0))) (fun _ => rfl) (by decide) rfl (Nat.le_of_ble_eq_true rfl) (Nat.le_of_ble_eq_true rfl) (Nat.le_of_ble_eq_true rfl) dX5_init_147 (fun amo => ?_)
  refine ww_perm (List.perm_append_singleton _ _) ?_
  refine ww_putF C0 hinit (ci := 5) (C := RX5) (T := TX5) (N := 33) ku_X5 19 rfl rfl 32 (by decide) tyX5 tyX5_ok nmX5 kw_X5_65 rfl rfl (ty := (.array .int)) (by decide +kernel) rfl rfl (Nat.le_of_ble_eq_true rfl) dX5_init_149 ?_
  simp only [List.set_cons_zero, List.set_cons_succ]
  refine ww_perm (perm_mv 0 19 1 _) ?_
  simp only [List.drop_succ_cons, List.drop_zero, List.take_succ_cons, List.take_zero, List.cons_append, List.nil_append, Nat.reduceAdd]
  refine ww_perm (perm_mv 1 18 1 _) ?_
  simp only [List.drop_succ_cons, List.drop_zero, List.take_succ_cons, List.take_zero, List.cons_append, List.nil_append, Nat.reduceAdd]
  refine ww_perm (perm_mv 2 17 1 _) ?_
  simp only [List.drop_succ_cons, List.drop_zero, List.take_succ_cons, List.take_zero, List.cons_append, List.nil_append, Nat.reduceAdd]
  refine ww_perm (perm_mv 3 16 1 _) ?_
  simp only [List.drop_succ_cons, List.drop_zero, List.take_succ_cons, List.take_zero, List.cons_append, List.nil_append, Nat.reduceAdd]
  refine ww_perm (perm_mv 4 15 1 _) ?_
  simp only [List.drop_succ_cons, List.drop_zero, List.take_succ_cons, List.take_zero, List.cons_append, List.nil_append, Nat.reduceAdd]
  refine ww_perm (perm_mv 5 14 1 _) ?_
  simp only [List.drop_succ_cons, List.drop_zero, List.take_succ_cons, List.take_zero, List.cons_append, List.nil_append, Nat.reduceAdd]
  refine ww_perm (perm_mv 6 11 1 _) ?_
  simp only [List.drop_succ_cons, List.drop_zero, List.take_succ_cons, List.take_zero, List.cons_append, List.nil_append, Nat.reduceAdd]
  refine ww_perm (perm_mv 7 10 1 _) ?_
  simp only [List.drop_succ_cons, List.drop_zero, List.take_succ_cons, List.take_zero, List.cons_append, List.nil_append, Nat.reduceAdd]
  refine ww_perm (perm_mv 8 11 1 _) ?_
  simp only [List.drop_succ_cons, List.drop_zero, List.take_succ_cons, List.take_zero, List.cons_append, List.nil_append, Nat.reduceAdd]
  refine ww_perm (perm_mv 9 10 1 _) ?_
  simp only [List.drop_succ_cons, List.drop_zero, List.take_succ_cons, List.take_zero, List.cons_append, List.nil_append, Nat.reduceAdd]
  refine ww_perm (perm_mv 10 9 1 _) ?_
  simp only [List.drop_succ_cons, List.drop_zero, List.take_succ_cons, List.take_zero, List.cons_append, List.nil_append, Nat.reduceAdd]
  refine ww_perm (perm_mv 11 8 1 _) ?_
  simp only [List.drop_succ_cons, List.drop_zero, List.take_succ_cons, List.take_zero, List.cons_append, List.nil_append, Nat.reduceAdd]
  refine ww_perm (perm_mv 12 7 1 _) ?_
  simp only [List.drop_succ_cons, List.drop_zero, List.take_succ_cons, List.take_zero, List.cons_append, List.nil_append, Nat.reduceAdd]
  refine ww_perm (perm_mv 13 6 1 _) ?_
  simp only [List.drop_succ_cons, List.drop_zero, List.take_succ_cons, List.take_zero, List.cons_append, List.nil_append, Nat.reduceAdd]
  refine ww_perm (perm_mv 14 5 1 _) ?_
  simp only [List.drop_succ_cons, List.drop_zero, List.take_succ_cons, List.take_zero, List.cons_append, List.nil_append, Nat.reduceAdd]
  refine ww_perm (perm_mv 15 4 1 _) ?_
  simp only [List.drop_succ_cons, List.drop_zero, List.take_succ_cons, List.take_zero, List.cons_append, List.nil_append, Nat.reduceAdd]
  refine ww_perm (perm_mv 16 3 1 _) ?_
  simp only [List.drop_succ_cons, List.drop_zero, List.take_succ_cons, List.take_zero, List.cons_append, List.nil_append, Nat.reduceAdd]
  refine ww_perm (perm_mv 17 2 1 _) ?_
  simp only [List.drop_succ_cons, List.drop_zero, List.take_succ_cons, List.take_zero, List.cons_append, List.nil_append, Nat.reduceAdd]
  refine ww_perm (perm_mv 18 1 1 _) ?_
  simp only [List.drop_succ_cons, List.drop_zero, List.take_succ_cons, List.take_zero, List.cons_append, List.nil_append, Nat.reduceAdd]
  exact ww_cret C0 hr dX5_init_152 ⟨amt, amc, amw, ams, amv, amr, amx, amp, amq, amb, amk, amz, am0, am1, am2, am3, am4, amh, amo, rfl⟩
