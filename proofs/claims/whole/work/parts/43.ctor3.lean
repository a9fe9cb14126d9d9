set_option maxHeartbeats 4000000 in
set_option maxRecDepth 100000 in
theorem c_X4_init (l : Launch) (D : va_G) {aX : Nat} {rest : va_W} : MC l D [] yX4_init cX4_init 2 ({ frames := 2, cells := 89, slots := 494, locals := 32 } : Room) [.ref aX] ((aX, .inr (4, [.null, .null, .null, .int 0, .null, .null, .null, .int 0, .int 0, .null, .null, .null, .null, .long 0])) :: rest) (fun u => ∃ (cI cZ cQ : ClassId) (aT at0 aL al0 al1 al2 aC aN an0 an1 an2 aY ay0 ay1 ay2 aA aO aK aG ag0 ag1 ag2 ag3 ag4 aW : Nat) (fA fO : Nat → Option Nat) (ad : Nat → Nat → Nat), (∀ j, j < 14 → fA j = some (ad j 0)) ∧ (∀ j, j < 2 → fO j = some (ad (14 + j) 0)) ∧ u = ([(cI, .int), (cZ, .boolean), (cQ, .object "MulesRemember$State")], (aX, .inr (4, [.ref aT, .ref aL, .ref aC, .int 0, .ref aN, .ref aY, .ref aA, .int 0, .int 0, .ref aO, .ref aK, .ref aG, .ref aW, .long 0])) :: (aL, .inr (0, [.ref al0, .ref al1, .ref al2, .int 0])) :: (al0, .inl (cI, 5, .inl (fun _ => 0))) :: (al1, .inl (cI, 5, .inl (fun _ => 0))) :: (al2, .inl (cI, 5, .inl (fun _ => 0))) :: (aC, .inl (cI, 5, .inl (fun _ => 0))) :: (aN, .inr (2, [.ref an0, .ref an1, .ref an2, .int 0, .int 0])) :: (an0, .inl (cI, 5, .inl (fun _ => 0))) :: (an1, .inl (cI, 5, .inl (fun _ => 0))) :: (an2, .inl (cI, 5, .inl (fun _ => 0))) :: (aY, .inr (2, [.ref ay0, .ref ay1, .ref ay2, .int 0, .int 0])) :: (ay0, .inl (cI, 5, .inl (fun _ => 0))) :: (ay1, .inl (cI, 5, .inl (fun _ => 0))) :: (ay2, .inl (cI, 5, .inl (fun _ => 0))) :: (aT, .inr (3, [.ref at0, .int 0])) :: (at0, .inl (cI, 48, .inl (fun _ => 0))) :: (aG, .inr (1, [.ref ag0, .ref ag1, .ref ag2, .ref ag3, .ref ag4, .int 0])) :: (ag0, .inl (cI, 6, .inl (fun _ => 0))) :: (ag1, .inl (cI, 6, .inl (fun _ => 0))) :: (ag2, .inl (cI, 6, .inl (fun _ => 0))) :: (ag3, .inl (cI, 6, .inl (fun _ => 0))) :: (ag4, .inl (cI, 6, .inl (fun _ => 0))) :: (aW, .inl (cI, 6, .inl (fun _ => 0))) :: (aK, .inl (cZ, 2, .inl (fun _ => 0))) :: (aO, .inl (cQ, 2, .inr (.inr (.inr (.inr (fO)))))) :: (aA, .inl (cQ, 14, .inr (.inr (.inr (.inr (fA)))))) :: (pool cI ad (fun _ => zSV) 16 ++ rest))) 89 494 := by
  refine MC.of [.ref aX, .null] (by decide) (Nat.le_of_ble_eq_true rfl) rfl ?_
  intro p e s m below meth c A C0 hr hinit hAO
  refine ww_aload_n C0 dX4_init_0 rfl ?_
  refine ww_objInit C0 kw_X4_1 (Nat.le_of_ble_eq_true rfl) dX4_init_1 (Nat.le_of_ble_eq_true rfl) (Nat.le_of_ble_eq_true rfl) ?_
  refine ww_aload_n C0 dX4_init_4 rfl ?_
  refine ww_new C0 (ci := 3) (C := RX3) (T := TX3) (N := 2) ku_X3 tyX3 tyX3_ok kc_X4_7 kt_X3 ki_X3 rfl (fs := [.null, .int 0]) (fun j hj => by
    rcases (show j = 0 ∨ j = 1 by omega) with rfl | rfl <;> rfl) (Nat.le_of_ble_eq_true rfl) (Nat.le_of_ble_eq_true rfl) dX4_init_5 (fun aT => ?_)
  refine ww_perm (List.perm_append_singleton _ _) ?_
  refine ww_dup C0 dX4_init_8 rfl ?_
  refine ww_callIN C0 (c_X3_init l D) kd_X3_init kn_X4_9 km_X3_init ki_X3 rfl hd_X3_init hAO ⟨Nat.le_of_ble_eq_true rfl, Nat.le_of_ble_eq_true rfl, rfl, rfl⟩ (Nat.le_of_ble_eq_true rfl) dX4_init_9 rfl rfl ⟨Nat.le_of_ble_eq_true rfl, Nat.le_of_ble_eq_true rfl⟩ ?_
  rintro _ ⟨cI, at0, rfl⟩
  dsimp only
  refine ww_putF C0 hinit (ci := 4) (C := RX4) (T := TX4) (N := 14) ku_X4 2 rfl rfl 0 (by decide) tyX4 tyX4_ok nmX4 kw_X4_10 rfl rfl (ty := (.object "MulesRemember$Text")) (by decide +kernel) rfl rfl (Nat.le_of_ble_eq_true rfl) dX4_init_12 ?_
  simp only [List.set_cons_zero, List.set_cons_succ]
  refine ww_aload_n C0 dX4_init_15 rfl ?_
  refine ww_new C0 (ci := 0) (C := RX0) (T := TX0) (N := 4) ku_X0 tyX0 tyX0_ok kc_X4_16 kt_X0 ki_X0 rfl (fs := [.null, .null, .null, .int 0]) (fun j hj => by
    rcases (show j = 0 ∨ j = 1 ∨ j = 2 ∨ j = 3 by omega) with rfl | rfl | rfl | rfl <;> rfl) (Nat.le_of_ble_eq_true rfl) (Nat.le_of_ble_eq_true rfl) dX4_init_16 (fun aL => ?_)
  refine ww_perm (List.perm_append_singleton _ _) ?_
  refine ww_dup C0 dX4_init_19 rfl ?_
  refine ww_callIN C0 (c_X0_init l D rfl) kd_X0_init kn_X4_18 km_X0_init ki_X0 rfl hd_X0_init hAO ⟨Nat.le_of_ble_eq_true rfl, Nat.le_of_ble_eq_true rfl, rfl, rfl⟩ (Nat.le_of_ble_eq_true rfl) dX4_init_20 rfl rfl ⟨Nat.le_of_ble_eq_true rfl, Nat.le_of_ble_eq_true rfl⟩ ?_
  rintro _ ⟨al0, al1, al2, rfl⟩
  dsimp only
  refine ww_putF C0 hinit (ci := 4) (C := RX4) (T := TX4) (N := 14) ku_X4 6 rfl rfl 1 (by decide) tyX4 tyX4_ok nmX4 kw_X4_19 rfl rfl (ty := (.object "MulesRemember$Law")) (by decide +kernel) rfl rfl (Nat.le_of_ble_eq_true rfl) dX4_init_23 ?_
  simp only [List.set_cons_zero, List.set_cons_succ]
  refine ww_aload_n C0 dX4_init_26 rfl ?_
  refine ww_iconst (v := (5)) C0 dX4_init_27 rfl ?_
  refine ww_newaK (atype := .int) (ty := .int) C0 ka_int rfl 0 rfl (N' := 5) (a0 := (5, .inl (fun _ => 0))) (fun _ => rfl) (by decide) rfl (Nat.le_of_ble_eq_true rfl) (Nat.le_of_ble_eq_true rfl) (Nat.le_of_ble_eq_true rfl) dX4_init_28 (fun aC => ?_)
  refine ww_perm (List.perm_append_singleton _ _) ?_
  refine ww_putF C0 hinit (ci := 4) (C := RX4) (T := TX4) (N := 14) ku_X4 7 rfl rfl 2 (by decide) tyX4 tyX4_ok nmX4 kw_X4_23 rfl rfl (ty := (.array .int)) (by decide +kernel) rfl rfl (Nat.le_of_ble_eq_true rfl) dX4_init_30 ?_
  simp only [List.set_cons_zero, List.set_cons_succ]
  refine ww_aload_n C0 dX4_init_33 rfl ?_
  refine ww_iconst (v := (0)) C0 dX4_init_34 rfl ?_
  refine ww_put C0 (ci := 4) (C := RX4) (T := TX4) (N := 14) ku_X4 7 rfl rfl 3 (by decide) tyX4 tyX4_ok nmX4 kw_X4_27 rfl (ty := .int) (by decide +kernel) rfl rfl (Nat.le_of_ble_eq_true rfl) dX4_init_35 ?_
  simp only [List.set_cons_zero, List.set_cons_succ]
  refine ww_aload_n C0 dX4_init_38 rfl ?_
  refine ww_new C0 (ci := 2) (C := RX2) (T := TX2) (N := 5) ku_X2 tyX2 tyX2_ok kc_X4_31 kt_X2 ki_X2 rfl (fs := [.null, .null, .null, .int 0, .int 0]) (fun j hj => by
    rcases (show j = 0 ∨ j = 1 ∨ j = 2 ∨ j = 3 ∨ j = 4 by omega) with rfl | rfl | rfl | rfl | rfl <;> rfl) (Nat.le_of_ble_eq_true rfl) (Nat.le_of_ble_eq_true rfl) dX4_init_39 (fun aN => ?_)
  refine ww_perm (List.perm_append_singleton _ _) ?_
  refine ww_dup C0 dX4_init_42 rfl ?_
  refine ww_callIN C0 (c_X2_init l D rfl) kd_X2_init kn_X4_33 km_X2_init ki_X2 rfl hd_X2_init hAO ⟨Nat.le_of_ble_eq_true rfl, Nat.le_of_ble_eq_true rfl, rfl, rfl⟩ (Nat.le_of_ble_eq_true rfl) dX4_init_43 rfl rfl ⟨Nat.le_of_ble_eq_true rfl, Nat.le_of_ble_eq_true rfl⟩ ?_
  rintro _ ⟨an0, an1, an2, rfl⟩
  dsimp only
  refine ww_putF C0 hinit (ci := 4) (C := RX4) (T := TX4) (N := 14) ku_X4 11 rfl rfl 4 (by decide) tyX4 tyX4_ok nmX4 kw_X4_34 rfl rfl (ty := (.object "MulesRemember$State")) (by decide +kernel) rfl rfl (Nat.le_of_ble_eq_true rfl) dX4_init_46 ?_
  simp only [List.set_cons_zero, List.set_cons_succ]
  refine ww_aload_n C0 dX4_init_49 rfl ?_
  refine ww_new C0 (ci := 2) (C := RX2) (T := TX2) (N := 5) ku_X2 tyX2 tyX2_ok kc_X4_31 kt_X2 ki_X2 rfl (fs := [.null, .null, .null, .int 0, .int 0]) (fun j hj => by
    rcases (show j = 0 ∨ j = 1 ∨ j = 2 ∨ j = 3 ∨ j = 4 by omega) with rfl | rfl | rfl | rfl | rfl <;> rfl) (Nat.le_of_ble_eq_true rfl) (Nat.le_of_ble_eq_true rfl) dX4_init_50 (fun aY => ?_)
  refine ww_perm (List.perm_append_singleton _ _) ?_
  refine ww_dup C0 dX4_init_53 rfl ?_
  refine ww_callIN C0 (c_X2_init l D rfl) kd_X2_init kn_X4_33 km_X2_init ki_X2 rfl hd_X2_init hAO ⟨Nat.le_of_ble_eq_true rfl, Nat.le_of_ble_eq_true rfl, rfl, rfl⟩ (Nat.le_of_ble_eq_true rfl) dX4_init_54 rfl rfl ⟨Nat.le_of_ble_eq_true rfl, Nat.le_of_ble_eq_true rfl⟩ ?_
  rintro _ ⟨ay0, ay1, ay2, rfl⟩
  dsimp only
  refine ww_putF C0 hinit (ci := 4) (C := RX4) (T := TX4) (N := 14) ku_X4 15 rfl rfl 5 (by decide) tyX4 tyX4_ok nmX4 kw_X4_38 rfl rfl (ty := (.object "MulesRemember$State")) (by decide +kernel) rfl rfl (Nat.le_of_ble_eq_true rfl) dX4_init_57 ?_
  simp only [List.set_cons_zero, List.set_cons_succ]
  refine ww_aload_n C0 dX4_init_60 rfl ?_
  refine ww_bipush (v := (14)) C0 dX4_init_61 rfl ?_
  refine ww_newq C0 kc_X4_31 hAO (N' := 14) (by decide) rfl (Nat.le_of_ble_eq_true rfl) (Nat.le_of_ble_eq_true rfl) (Nat.le_of_ble_eq_true rfl) dX4_init_63 (fun aA cQ => ?_)
  refine ww_perm (List.perm_append_singleton _ _) ?_
  refine ww_putF C0 hinit (ci := 4) (C := RX4) (T := TX4) (N := 14) ku_X4 16 rfl rfl 6 (by decide) tyX4 tyX4_ok nmX4 kw_X4_41 rfl rfl (ty := (.array (.object "MulesRemember$State"))) (by decide +kernel) rfl rfl (Nat.le_of_ble_eq_true rfl) dX4_init_66 ?_
  simp only [List.set_cons_zero, List.set_cons_succ]
  refine ww_aload_n C0 dX4_init_69 rfl ?_
  refine ww_iconst (v := (0)) C0 dX4_init_70 rfl ?_
  refine ww_put C0 (ci := 4) (C := RX4) (T := TX4) (N := 14) ku_X4 16 rfl rfl 7 (by decide) tyX4 tyX4_ok nmX4 kw_X4_45 rfl (ty := .int) (by decide +kernel) rfl rfl (Nat.le_of_ble_eq_true rfl) dX4_init_71 ?_
  simp only [List.set_cons_zero, List.set_cons_succ]
  refine ww_aload_n C0 dX4_init_74 rfl ?_
  refine ww_iconst (v := (0)) C0 dX4_init_75 rfl ?_
  refine ww_put C0 (ci := 4) (C := RX4) (T := TX4) (N := 14) ku_X4 16 rfl rfl 8 (by decide) tyX4 tyX4_ok nmX4 kw_X4_48 rfl (ty := .int) (by decide +kernel) rfl rfl (Nat.le_of_ble_eq_true rfl) dX4_init_76 ?_
  simp only [List.set_cons_zero, List.set_cons_succ]
  refine ww_aload_n C0 dX4_init_79 rfl ?_
  refine ww_iconst (v := (2)) C0 dX4_init_80 rfl ?_
  refine ww_newqK C0 kc_X4_31 hAO 1 rfl (N' := 2) (by decide) rfl (Nat.le_of_ble_eq_true rfl) (Nat.le_of_ble_eq_true rfl) (Nat.le_of_ble_eq_true rfl) dX4_init_81 (fun aO => ?_)
  refine ww_perm (List.perm_append_singleton _ _) ?_
  refine ww_putF C0 hinit (ci := 4) (C := RX4) (T := TX4) (N := 14) ku_X4 17 rfl rfl 9 (by decide) tyX4 tyX4_ok nmX4 kw_X4_51 rfl rfl (ty := (.array (.object "MulesRemember$State"))) (by decide +kernel) rfl rfl (Nat.le_of_ble_eq_true rfl) dX4_init_84 ?_
  simp only [List.set_cons_zero, List.set_cons_succ]
  refine ww_aload_n C0 dX4_init_87 rfl ?_
  refine ww_iconst (v := (2)) C0 dX4_init_88 rfl ?_
  refine ww_newa (atype := .boolean) (ty := .boolean) C0 ka_boolean rfl (N' := 2) (a0 := (2, .inl (fun _ => 0))) (fun _ => rfl) (by decide) rfl (Nat.le_of_ble_eq_true rfl) (Nat.le_of_ble_eq_true rfl) (Nat.le_of_ble_eq_true rfl) dX4_init_89 (fun aK cZ => ?_)
  refine ww_perm (List.perm_append_singleton _ _) ?_
  refine ww_putF C0 hinit (ci := 4) (C := RX4) (T := TX4) (N := 14) ku_X4 18 rfl rfl 10 (by decide) tyX4 tyX4_ok nmX4 kw_X4_54 rfl rfl (ty := (.array .boolean)) (by decide +kernel) rfl rfl (Nat.le_of_ble_eq_true rfl) dX4_init_91 ?_
  simp only [List.set_cons_zero, List.set_cons_succ]
  refine ww_aload_n C0 dX4_init_94 rfl ?_
  refine ww_new C0 (ci := 1) (C := RX1) (T := TX1) (N := 6) ku_X1 tyX1 tyX1_ok kc_X4_58 kt_X1 ki_X1 rfl (fs := [.null, .null, .null, .null, .null, .int 0]) (fun j hj => by
    rcases (show j = 0 ∨ j = 1 ∨ j = 2 ∨ j = 3 ∨ j = 4 ∨ j = 5 by omega) with rfl | rfl | rfl | rfl | rfl | rfl <;> rfl) (Nat.le_of_ble_eq_true rfl) (Nat.le_of_ble_eq_true rfl) dX4_init_95 (fun aG => ?_)
  refine ww_perm (List.perm_append_singleton _ _) ?_
  refine ww_dup C0 dX4_init_98 rfl ?_
  refine ww_callIN C0 (c_X1_init l D rfl) kd_X1_init kn_X4_60 km_X1_init ki_X1 rfl hd_X1_init hAO ⟨Nat.le_of_ble_eq_true rfl, Nat.le_of_ble_eq_true rfl, rfl, rfl⟩ (Nat.le_of_ble_eq_true rfl) dX4_init_99 rfl rfl ⟨Nat.le_of_ble_eq_true rfl, Nat.le_of_ble_eq_true rfl⟩ ?_
  rintro _ ⟨ag0, ag1, ag2, ag3, ag4, rfl⟩
  dsimp only
  refine ww_putF C0 hinit (ci := 4) (C := RX4) (T := TX4) (N := 14) ku_X4 24 rfl rfl 11 (by decide) tyX4 tyX4_ok nmX4 kw_X4_61 rfl rfl (ty := (.object "MulesRemember$Sightings")) (by decide +kernel) rfl rfl (Nat.le_of_ble_eq_true rfl) dX4_init_102 ?_
  simp only [List.set_cons_zero, List.set_cons_succ]
  refine ww_aload_n C0 dX4_init_105 rfl ?_
  refine ww_bipush (v := (6)) C0 dX4_init_106 rfl ?_
  refine ww_newaK (atype := .int) (ty := .int) C0 ka_int rfl 0 rfl (N' := 6) (a0 := (6, .inl (fun _ => 0))) (fun _ => rfl) (by decide) rfl (Nat.le_of_ble_eq_true rfl) (Nat.le_of_ble_eq_true rfl) (Nat.le_of_ble_eq_true rfl) dX4_init_108 (fun aW => ?_)
  refine ww_perm (List.perm_append_singleton _ _) ?_
  refine ww_putF C0 hinit (ci := 4) (C := RX4) (T := TX4) (N := 14) ku_X4 25 rfl rfl 12 (by decide) tyX4 tyX4_ok nmX4 kw_X4_65 rfl rfl (ty := (.array .int)) (by decide +kernel) rfl rfl (Nat.le_of_ble_eq_true rfl) dX4_init_110 ?_
  simp only [List.set_cons_zero, List.set_cons_succ]
  refine ww_aload_n C0 dX4_init_113 rfl ?_
  refine ww_lconst (v := 0) C0 dX4_init_114 rfl ?_
  refine ww_put C0 (ci := 4) (C := RX4) (T := TX4) (N := 14) ku_X4 25 rfl rfl 13 (by decide) tyX4 tyX4_ok nmX4 kw_X4_68 rfl (ty := .long) (by decide +kernel) rfl rfl (Nat.le_of_ble_eq_true rfl) dX4_init_115 ?_
  simp only [List.set_cons_zero, List.set_cons_succ]
  refine ww_perm (perm_mv 0 25 1 _) ?_
  simp only [List.drop_succ_cons, List.drop_zero, List.take_succ_cons, List.take_zero, List.cons_append, List.nil_append, Nat.reduceAdd]
  refine ww_perm (perm_mv 1 19 1 _) ?_
  simp only [List.drop_succ_cons, List.drop_zero, List.take_succ_cons, List.take_zero, List.cons_append, List.nil_append, Nat.reduceAdd]
  refine ww_perm (perm_mv 2 19 1 _) ?_
  simp only [List.drop_succ_cons, List.drop_zero, List.take_succ_cons, List.take_zero, List.cons_append, List.nil_append, Nat.reduceAdd]
  refine ww_perm (perm_mv 3 19 1 _) ?_
  simp only [List.drop_succ_cons, List.drop_zero, List.take_succ_cons, List.take_zero, List.cons_append, List.nil_append, Nat.reduceAdd]
  refine ww_perm (perm_mv 4 19 1 _) ?_
  simp only [List.drop_succ_cons, List.drop_zero, List.take_succ_cons, List.take_zero, List.cons_append, List.nil_append, Nat.reduceAdd]
  refine ww_perm (perm_mv 5 18 1 _) ?_
  simp only [List.drop_succ_cons, List.drop_zero, List.take_succ_cons, List.take_zero, List.cons_append, List.nil_append, Nat.reduceAdd]
  refine ww_perm (perm_mv 6 14 1 _) ?_
  simp only [List.drop_succ_cons, List.drop_zero, List.take_succ_cons, List.take_zero, List.cons_append, List.nil_append, Nat.reduceAdd]
  refine ww_perm (perm_mv 7 14 1 _) ?_
  simp only [List.drop_succ_cons, List.drop_zero, List.take_succ_cons, List.take_zero, List.cons_append, List.nil_append, Nat.reduceAdd]
  refine ww_perm (perm_mv 8 14 1 _) ?_
  simp only [List.drop_succ_cons, List.drop_zero, List.take_succ_cons, List.take_zero, List.cons_append, List.nil_append, Nat.reduceAdd]
  refine ww_perm (perm_mv 9 14 1 _) ?_
  simp only [List.drop_succ_cons, List.drop_zero, List.take_succ_cons, List.take_zero, List.cons_append, List.nil_append, Nat.reduceAdd]
  refine ww_perm (perm_mv 10 10 1 _) ?_
  simp only [List.drop_succ_cons, List.drop_zero, List.take_succ_cons, List.take_zero, List.cons_append, List.nil_append, Nat.reduceAdd]
  refine ww_perm (perm_mv 11 10 1 _) ?_
  simp only [List.drop_succ_cons, List.drop_zero, List.take_succ_cons, List.take_zero, List.cons_append, List.nil_append, Nat.reduceAdd]
  refine ww_perm (perm_mv 12 10 1 _) ?_
  simp only [List.drop_succ_cons, List.drop_zero, List.take_succ_cons, List.take_zero, List.cons_append, List.nil_append, Nat.reduceAdd]
  refine ww_perm (perm_mv 13 10 1 _) ?_
  simp only [List.drop_succ_cons, List.drop_zero, List.take_succ_cons, List.take_zero, List.cons_append, List.nil_append, Nat.reduceAdd]
  refine ww_perm (perm_mv 14 10 1 _) ?_
  simp only [List.drop_succ_cons, List.drop_zero, List.take_succ_cons, List.take_zero, List.cons_append, List.nil_append, Nat.reduceAdd]
  refine ww_perm (perm_mv 15 10 1 _) ?_
  simp only [List.drop_succ_cons, List.drop_zero, List.take_succ_cons, List.take_zero, List.cons_append, List.nil_append, Nat.reduceAdd]
  refine ww_perm (perm_mv 16 1 1 _) ?_
  simp only [List.drop_succ_cons, List.drop_zero, List.take_succ_cons, List.take_zero, List.cons_append, List.nil_append, Nat.reduceAdd]
  refine ww_perm (perm_mv 17 1 1 _) ?_
  simp only [List.drop_succ_cons, List.drop_zero, List.take_succ_cons, List.take_zero, List.cons_append, List.nil_append, Nat.reduceAdd]
  refine ww_perm (perm_mv 18 1 1 _) ?_
  simp only [List.drop_succ_cons, List.drop_zero, List.take_succ_cons, List.take_zero, List.cons_append, List.nil_append, Nat.reduceAdd]
  refine ww_perm (perm_mv 19 1 1 _) ?_
  simp only [List.drop_succ_cons, List.drop_zero, List.take_succ_cons, List.take_zero, List.cons_append, List.nil_append, Nat.reduceAdd]
  refine ww_perm (perm_mv 20 1 1 _) ?_
  simp only [List.drop_succ_cons, List.drop_zero, List.take_succ_cons, List.take_zero, List.cons_append, List.nil_append, Nat.reduceAdd]
  refine ww_perm (perm_mv 21 1 1 _) ?_
  simp only [List.drop_succ_cons, List.drop_zero, List.take_succ_cons, List.take_zero, List.cons_append, List.nil_append, Nat.reduceAdd]
  refine ww_tysub (tys' := [(cI, .int), (cZ, .boolean), (cQ, .object "MulesRemember$State")]) (by
    intro x hx
    simp only [List.mem_cons, List.mem_append, List.not_mem_nil, or_false] at hx ⊢
    rcases hx with rfl | rfl | rfl <;> simp) ?_
  refine ww_iconst (v := (0)) C0 dX4_init_118 rfl ?_
  refine ww_istore_n (i := 1) C0 dX4_init_119 rfl (Nat.le_of_ble_eq_true rfl) rfl ?_
  simp only [List.set_cons_zero, List.set_cons_succ]
  refine ww_num (cells' := 25 + 4 * 0) (slots' := 174 + 20 * 0) rfl rfl ?_
  refine ww_back (ww_loopC 14 (fun j => 25 + 4 * j) (fun j => 174 + 20 * j) (fun j _ => [.ref aX, .int (nI j)]) (fun j ad => (aX, .inr (4, [.ref aT, .ref aL, .ref aC, .int 0, .ref aN, .ref aY, .ref aA, .int 0, .int 0, .ref aO, .ref aK, .ref aG, .ref aW, .long 0])) :: (aL, .inr (0, [.ref al0, .ref al1, .ref al2, .int 0])) :: (al0, .inl (cI, 5, .inl (fun _ => 0))) :: (al1, .inl (cI, 5, .inl (fun _ => 0))) :: (al2, .inl (cI, 5, .inl (fun _ => 0))) :: (aC, .inl (cI, 5, .inl (fun _ => 0))) :: (aN, .inr (2, [.ref an0, .ref an1, .ref an2, .int 0, .int 0])) :: (an0, .inl (cI, 5, .inl (fun _ => 0))) :: (an1, .inl (cI, 5, .inl (fun _ => 0))) :: (an2, .inl (cI, 5, .inl (fun _ => 0))) :: (aY, .inr (2, [.ref ay0, .ref ay1, .ref ay2, .int 0, .int 0])) :: (ay0, .inl (cI, 5, .inl (fun _ => 0))) :: (ay1, .inl (cI, 5, .inl (fun _ => 0))) :: (ay2, .inl (cI, 5, .inl (fun _ => 0))) :: (aT, .inr (3, [.ref at0, .int 0])) :: (at0, .inl (cI, 48, .inl (fun _ => 0))) :: (aG, .inr (1, [.ref ag0, .ref ag1, .ref ag2, .ref ag3, .ref ag4, .int 0])) :: (ag0, .inl (cI, 6, .inl (fun _ => 0))) :: (ag1, .inl (cI, 6, .inl (fun _ => 0))) :: (ag2, .inl (cI, 6, .inl (fun _ => 0))) :: (ag3, .inl (cI, 6, .inl (fun _ => 0))) :: (ag4, .inl (cI, 6, .inl (fun _ => 0))) :: (aW, .inl (cI, 6, .inl (fun _ => 0))) :: (aK, .inl (cZ, 2, .inl (fun _ => 0))) :: (aO, .inl (cQ, 2, .inr (.inr (.inr (.inr ((fun _ => none))))))) :: (aA, .inl (cQ, 14, .inr (.inr (.inr (.inr ((fun i => if i < j then some (ad i 0) else none))))))) :: (pool cI ad (fun _ => zSV) j ++ rest)) (fun _ _ => 0) ?_ ?_) ⟨Or.inr rfl, Or.inr rfl, trivial⟩ (by (simp only [Nat.not_lt_zero, if_false]; rfl))
  · skip
    intro j ad hj ih
    refine ww_iload_n C0 dX4_init_120 rfl ?_
    refine ww_aload_n C0 dX4_init_121 rfl ?_
    refine ww_get C0 (ci := 4) (C := RX4) (T := TX4) (N := 14) ku_X4 0 rfl rfl 6 (by decide) kw_X4_41 rfl dX4_init_122 ?_
    refine ww_alen (v := 14) C0 25 2 rfl rfl rfl dX4_init_125 ?_
    refine ww_icmp_ge (tgt := 148) C0 dX4_init_126 (by decide) (fun h126 => ?_) (fun h126 => ?_)
    · skip
      replace h126 := (nI_leE (a := 14) (b := j) rfl rfl (by omega) (by omega)).mp h126
      exfalso; omega
    · skip
      replace h126 := (not_congr (nI_leE (a := 14) (b := j) rfl rfl (by omega) (by omega))).mp h126
      refine ww_aload_n C0 dX4_init_129 rfl ?_
      refine ww_get C0 (ci := 4) (C := RX4) (T := TX4) (N := 14) ku_X4 0 rfl rfl 6 (by decide) kw_X4_41 rfl dX4_init_130 ?_
      refine ww_iload_n C0 dX4_init_133 rfl ?_
      refine ww_new C0 (ci := 2) (C := RX2) (T := TX2) (N := 5) ku_X2 tyX2 tyX2_ok kc_X4_31 kt_X2 ki_X2 rfl (fs := [.null, .null, .null, .int 0, .int 0]) (fun j hj => by
        rcases (show j = 0 ∨ j = 1 ∨ j = 2 ∨ j = 3 ∨ j = 4 by omega) with rfl | rfl | rfl | rfl | rfl <;> rfl) (show 25 + 4 * j + 1 ≤ 89 by omega) (show 174 + 20 * j + 5 ≤ 494 by omega) dX4_init_134 (fun aE => ?_)
      refine ww_perm (List.perm_append_singleton _ _) ?_
      refine ww_dup C0 dX4_init_137 rfl ?_
      refine ww_callIN C0 (c_X2_init l D rfl) kd_X2_init kn_X4_33 km_X2_init ki_X2 rfl hd_X2_init hAO ⟨Nat.le_of_ble_eq_true rfl, Nat.le_of_ble_eq_true rfl, rfl, rfl⟩ (Nat.le_of_ble_eq_true rfl) dX4_init_138 rfl rfl ⟨show 25 + 4 * j + 1 + 3 ≤ 89 by omega, show 174 + 20 * j + 5 + 15 ≤ 494 by omega⟩ ?_
      rintro _ ⟨ae0, ae1, ae2, rfl⟩
      dsimp only
      refine ww_aast C0 29 2 0 2 rfl rfl rfl rfl rfl hj (by decide) dX4_init_141 ?_
      simp only [List.set_cons_zero, List.set_cons_succ]
      rw [va_up_push (a := (fun i => if i = 0 then aE else if i = 1 then ae0 else if i = 2 then ae1 else ae2)) (v := aE) rfl]
      refine ww_perm (perm_push (fun i => if i = 0 then aE else if i = 1 then ae0 else if i = 2 then ae1 else ae2) 26 (cI := cI) (ad := ad) (n := j) rfl rfl) ?_
      simp only [List.drop_succ_cons, List.drop_zero, List.take_succ_cons, List.take_zero, List.cons_append, List.nil_append, stc, Nat.reduceAdd]
      refine ww_iinc (d := 1) C0 dX4_init_142 rfl rfl rfl ?_
      simp only [List.set_cons_zero, List.set_cons_succ]
      refine ww_goto (tgt := 120) C0 dX4_init_145 (by decide) ?_
      exact ww_num (cells' := 25 + 4 * (j + 1)) (slots' := 174 + 20 * (j + 1)) (by omega) (by omega) (ww_back (ih (adU ad (j) (fun i => if i = 0 then aE else if i = 1 then ae0 else if i = 2 then ae1 else ae2))) ⟨Or.inr rfl, Or.inr (congrArg Value.int (nI_addE (a := j) (b := 1) rfl rfl).symm), trivial⟩ rfl)
  intro ad
  refine ww_iload_n C0 dX4_init_120 rfl ?_
  refine ww_aload_n C0 dX4_init_121 rfl ?_
  refine ww_get C0 (ci := 4) (C := RX4) (T := TX4) (N := 14) ku_X4 0 rfl rfl 6 (by decide) kw_X4_41 rfl dX4_init_122 ?_
  refine ww_alen (v := 14) C0 25 2 rfl rfl rfl dX4_init_125 ?_
  refine ww_icmp_ge (tgt := 148) C0 dX4_init_126 (by decide) (fun h126 => ?_) (fun h126 => ?_)
  · skip
    replace h126 := (nI_leE (a := 14) (b := 14) rfl rfl (by omega) (by omega)).mp h126
    refine ww_iconst (v := (0)) C0 dX4_init_148 rfl ?_
    refine ww_istore_n (i := 1) C0 dX4_init_149 rfl (Nat.le_of_ble_eq_true rfl) rfl ?_
    simp only [List.set_cons_zero, List.set_cons_succ]
    refine ww_num (cells' := 81 + 4 * 0) (slots' := 454 + 20 * 0) rfl rfl ?_
    refine ww_back (ww_loopC 2 (fun j => 81 + 4 * j) (fun j => 454 + 20 * j) (fun j _ => [.ref aX, .int (nI j)]) (fun j ad => (aX, .inr (4, [.ref aT, .ref aL, .ref aC, .int 0, .ref aN, .ref aY, .ref aA, .int 0, .int 0, .ref aO, .ref aK, .ref aG, .ref aW, .long 0])) :: (aL, .inr (0, [.ref al0, .ref al1, .ref al2, .int 0])) :: (al0, .inl (cI, 5, .inl (fun _ => 0))) :: (al1, .inl (cI, 5, .inl (fun _ => 0))) :: (al2, .inl (cI, 5, .inl (fun _ => 0))) :: (aC, .inl (cI, 5, .inl (fun _ => 0))) :: (aN, .inr (2, [.ref an0, .ref an1, .ref an2, .int 0, .int 0])) :: (an0, .inl (cI, 5, .inl (fun _ => 0))) :: (an1, .inl (cI, 5, .inl (fun _ => 0))) :: (an2, .inl (cI, 5, .inl (fun _ => 0))) :: (aY, .inr (2, [.ref ay0, .ref ay1, .ref ay2, .int 0, .int 0])) :: (ay0, .inl (cI, 5, .inl (fun _ => 0))) :: (ay1, .inl (cI, 5, .inl (fun _ => 0))) :: (ay2, .inl (cI, 5, .inl (fun _ => 0))) :: (aT, .inr (3, [.ref at0, .int 0])) :: (at0, .inl (cI, 48, .inl (fun _ => 0))) :: (aG, .inr (1, [.ref ag0, .ref ag1, .ref ag2, .ref ag3, .ref ag4, .int 0])) :: (ag0, .inl (cI, 6, .inl (fun _ => 0))) :: (ag1, .inl (cI, 6, .inl (fun _ => 0))) :: (ag2, .inl (cI, 6, .inl (fun _ => 0))) :: (ag3, .inl (cI, 6, .inl (fun _ => 0))) :: (ag4, .inl (cI, 6, .inl (fun _ => 0))) :: (aW, .inl (cI, 6, .inl (fun _ => 0))) :: (aK, .inl (cZ, 2, .inl (fun _ => 0))) :: (aO, .inl (cQ, 2, .inr (.inr (.inr (.inr ((fun i => if i < j then some (ad (14 + i) 0) else none))))))) :: (aA, .inl (cQ, 14, .inr (.inr (.inr (.inr ((fun i => if i < 14 then some (ad i 0) else none))))))) :: (pool cI ad (fun _ => zSV) (14 + j) ++ rest)) ad ?_ ?_) ⟨Or.inr rfl, Or.inr rfl, trivial⟩ (by (simp only [Nat.not_lt_zero, if_false]))
    · skip
      intro j ad hj ih
      refine ww_iload_n C0 dX4_init_150 rfl ?_
      refine ww_aload_n C0 dX4_init_151 rfl ?_
      refine ww_get C0 (ci := 4) (C := RX4) (T := TX4) (N := 14) ku_X4 0 rfl rfl 9 (by decide) kw_X4_51 rfl dX4_init_152 ?_
      refine ww_alen (v := 2) C0 24 2 rfl rfl rfl dX4_init_155 ?_
      refine ww_icmp_ge (tgt := 178) C0 dX4_init_156 (by decide) (fun h156 => ?_) (fun h156 => ?_)
      · skip
        replace h156 := (nI_leE (a := 2) (b := j) rfl rfl (by omega) (by omega)).mp h156
        exfalso; omega
      · skip
        replace h156 := (not_congr (nI_leE (a := 2) (b := j) rfl rfl (by omega) (by omega))).mp h156
        refine ww_aload_n C0 dX4_init_159 rfl ?_
        refine ww_get C0 (ci := 4) (C := RX4) (T := TX4) (N := 14) ku_X4 0 rfl rfl 9 (by decide) kw_X4_51 rfl dX4_init_160 ?_
        refine ww_iload_n C0 dX4_init_163 rfl ?_
        refine ww_new C0 (ci := 2) (C := RX2) (T := TX2) (N := 5) ku_X2 tyX2 tyX2_ok kc_X4_31 kt_X2 ki_X2 rfl (fs := [.null, .null, .null, .int 0, .int 0]) (fun j hj => by
          rcases (show j = 0 ∨ j = 1 ∨ j = 2 ∨ j = 3 ∨ j = 4 by omega) with rfl | rfl | rfl | rfl | rfl <;> rfl) (show 81 + 4 * j + 1 ≤ 89 by omega) (show 454 + 20 * j + 5 ≤ 494 by omega) dX4_init_164 (fun aE => ?_)
        refine ww_perm (List.perm_append_singleton _ _) ?_
        refine ww_dup C0 dX4_init_167 rfl ?_
        refine ww_callIN C0 (c_X2_init l D rfl) kd_X2_init kn_X4_33 km_X2_init ki_X2 rfl hd_X2_init hAO ⟨Nat.le_of_ble_eq_true rfl, Nat.le_of_ble_eq_true rfl, rfl, rfl⟩ (Nat.le_of_ble_eq_true rfl) dX4_init_168 rfl rfl ⟨show 81 + 4 * j + 1 + 3 ≤ 89 by omega, show 454 + 20 * j + 5 + 15 ≤ 494 by omega⟩ ?_
        rintro _ ⟨ae0, ae1, ae2, rfl⟩
        dsimp only
        refine ww_aast C0 28 2 0 2 rfl rfl rfl rfl rfl hj (by decide) dX4_init_171 ?_
        simp only [List.set_cons_zero, List.set_cons_succ]
        rw [va_up_push2 (a := (fun i => if i = 0 then aE else if i = 1 then ae0 else if i = 2 then ae1 else ae2)) (v := aE) rfl, va_up_keep (j := j) (a := (fun i => if i = 0 then aE else if i = 1 then ae0 else if i = 2 then ae1 else ae2))]
        refine ww_perm (perm_push (fun i => if i = 0 then aE else if i = 1 then ae0 else if i = 2 then ae1 else ae2) 26 (cI := cI) (ad := ad) (n := 14 + j) rfl rfl) ?_
        simp only [List.drop_succ_cons, List.drop_zero, List.take_succ_cons, List.take_zero, List.cons_append, List.nil_append, stc, Nat.reduceAdd]
        refine ww_iinc (d := 1) C0 dX4_init_172 rfl rfl rfl ?_
        simp only [List.set_cons_zero, List.set_cons_succ]
        refine ww_goto (tgt := 150) C0 dX4_init_175 (by decide) ?_
        exact ww_num (cells' := 81 + 4 * (j + 1)) (slots' := 454 + 20 * (j + 1)) (by omega) (by omega) (ww_back (ih (adU ad (14 + j) (fun i => if i = 0 then aE else if i = 1 then ae0 else if i = 2 then ae1 else ae2))) ⟨Or.inr rfl, Or.inr (congrArg Value.int (nI_addE (a := j) (b := 1) rfl rfl).symm), trivial⟩ rfl)
    intro ad
    refine ww_iload_n C0 dX4_init_150 rfl ?_
    refine ww_aload_n C0 dX4_init_151 rfl ?_
    refine ww_get C0 (ci := 4) (C := RX4) (T := TX4) (N := 14) ku_X4 0 rfl rfl 9 (by decide) kw_X4_51 rfl dX4_init_152 ?_
    refine ww_alen (v := 2) C0 24 2 rfl rfl rfl dX4_init_155 ?_
    refine ww_icmp_ge (tgt := 178) C0 dX4_init_156 (by decide) (fun h156 => ?_) (fun h156 => ?_)
    · skip
      replace h156 := (nI_leE (a := 2) (b := 2) rfl rfl (by omega) (by omega)).mp h156
      exact ww_cret C0 hr dX4_init_178 ⟨cI, cZ, cQ, aT, at0, aL, al0, al1, al2, aC, aN, an0, an1, an2, aY, ay0, ay1, ay2, aA, aO, aK, aG, ag0, ag1, ag2, ag3, ag4, aW, (fun i => if i < 14 then some (ad i 0) else none), (fun i => if i < 2 then some (ad (14 + i) 0) else none), ad, fun j hj => if_pos hj, fun j hj => if_pos hj, rfl⟩
    · skip
      replace h156 := (not_congr (nI_leE (a := 2) (b := 2) rfl rfl (by omega) (by omega))).mp h156
      exfalso; omega
  · skip
    replace h126 := (not_congr (nI_leE (a := 14) (b := 14) rfl rfl (by omega) (by omega))).mp h126
    exfalso; omega
