set_option maxHeartbeats 4000000 in
set_option maxRecDepth 100000 in
theorem c_X4_readPart (l : Launch) (D : va_G) (cI cZ cQ : ClassId) {aX aT aL aC aN aY aA aO aK aG aW al0 al1 al2 an0 an1 an2 ay0 ay1 ay2 at0 : Nat} {nm fa ac na tn : Nat} {hN bN hY bY : Int32} {sd : Int64} {fl0 fl1 fl2 fC fn0 fn1 fn2 fy0 fy1 fy2 ft0 : Nat → Int32} {rest : va_W} {a : Nat} (hnm : nm ≤ 5) (hna : na ≤ 5) (ht : tn ≤ 48) (ha : a < 900) : MV l D [(cI, .int), (cZ, .boolean), (cQ, .object "MulesRemember$State")] yX4_readPart cX4_readPart 5 ({ frames := 2, cells := 0, slots := 0, locals := 42 } : Room) [.ref aX, .int (nI a)] ((aX, .inr (4, [.ref aT, .ref aL, .ref aC, .int (nI nm), .ref aN, .ref aY, .ref aA, .int (nI fa), .int (nI ac), .ref aO, .ref aK, .ref aG, .ref aW, .long sd])) :: (aL, .inr (0, [.ref al0, .ref al1, .ref al2, .int (nI na)])) :: (al0, .inl (cI, 5, .inl (fl0))) :: (al1, .inl (cI, 5, .inl (fl1))) :: (al2, .inl (cI, 5, .inl (fl2))) :: (aC, .inl (cI, 5, .inl (fC))) :: (aN, .inr (2, [.ref an0, .ref an1, .ref an2, .int hN, .int bN])) :: (an0, .inl (cI, 5, .inl (fn0))) :: (an1, .inl (cI, 5, .inl (fn1))) :: (an2, .inl (cI, 5, .inl (fn2))) :: (aY, .inr (2, [.ref ay0, .ref ay1, .ref ay2, .int hY, .int bY])) :: (ay0, .inl (cI, 5, .inl (fy0))) :: (ay1, .inl (cI, 5, .inl (fy1))) :: (ay2, .inl (cI, 5, .inl (fy2))) :: (aT, .inr (3, [.ref at0, .int (nI tn)])) :: (at0, .inl (cI, 48, .inl (ft0))) :: rest) ((aX, .inr (4, [.ref aT, .ref aL, .ref aC, .int (nI (sPart (sLet ft0 tn a) (sLet ft0 tn (a + 1) - 48) (sLet ft0 tn (a + 2) - 48) (sLet ft0 tn (a + 3) - 48) (nm, na, fl0, fl1, fl2, fC, fn0, fn1, fn2)).1), .ref aN, .ref aY, .ref aA, .int (nI fa), .int (nI ac), .ref aO, .ref aK, .ref aG, .ref aW, .long sd])) :: (aL, .inr (0, [.ref al0, .ref al1, .ref al2, .int (nI (sPart (sLet ft0 tn a) (sLet ft0 tn (a + 1) - 48) (sLet ft0 tn (a + 2) - 48) (sLet ft0 tn (a + 3) - 48) (nm, na, fl0, fl1, fl2, fC, fn0, fn1, fn2)).2.1)])) :: (al0, .inl (cI, 5, .inl ((sPart (sLet ft0 tn a) (sLet ft0 tn (a + 1) - 48) (sLet ft0 tn (a + 2) - 48) (sLet ft0 tn (a + 3) - 48) (nm, na, fl0, fl1, fl2, fC, fn0, fn1, fn2)).2.2.1))) :: (al1, .inl (cI, 5, .inl ((sPart (sLet ft0 tn a) (sLet ft0 tn (a + 1) - 48) (sLet ft0 tn (a + 2) - 48) (sLet ft0 tn (a + 3) - 48) (nm, na, fl0, fl1, fl2, fC, fn0, fn1, fn2)).2.2.2.1))) :: (al2, .inl (cI, 5, .inl ((sPart (sLet ft0 tn a) (sLet ft0 tn (a + 1) - 48) (sLet ft0 tn (a + 2) - 48) (sLet ft0 tn (a + 3) - 48) (nm, na, fl0, fl1, fl2, fC, fn0, fn1, fn2)).2.2.2.2.1))) :: (aC, .inl (cI, 5, .inl ((sPart (sLet ft0 tn a) (sLet ft0 tn (a + 1) - 48) (sLet ft0 tn (a + 2) - 48) (sLet ft0 tn (a + 3) - 48) (nm, na, fl0, fl1, fl2, fC, fn0, fn1, fn2)).2.2.2.2.2.1))) :: (aN, .inr (2, [.ref an0, .ref an1, .ref an2, .int hN, .int bN])) :: (an0, .inl (cI, 5, .inl ((sPart (sLet ft0 tn a) (sLet ft0 tn (a + 1) - 48) (sLet ft0 tn (a + 2) - 48) (sLet ft0 tn (a + 3) - 48) (nm, na, fl0, fl1, fl2, fC, fn0, fn1, fn2)).2.2.2.2.2.2.1))) :: (an1, .inl (cI, 5, .inl ((sPart (sLet ft0 tn a) (sLet ft0 tn (a + 1) - 48) (sLet ft0 tn (a + 2) - 48) (sLet ft0 tn (a + 3) - 48) (nm, na, fl0, fl1, fl2, fC, fn0, fn1, fn2)).2.2.2.2.2.2.2.1))) :: (an2, .inl (cI, 5, .inl ((sPart (sLet ft0 tn a) (sLet ft0 tn (a + 1) - 48) (sLet ft0 tn (a + 2) - 48) (sLet ft0 tn (a + 3) - 48) (nm, na, fl0, fl1, fl2, fC, fn0, fn1, fn2)).2.2.2.2.2.2.2.2))) :: (aY, .inr (2, [.ref ay0, .ref ay1, .ref ay2, .int hY, .int bY])) :: (ay0, .inl (cI, 5, .inl (fy0))) :: (ay1, .inl (cI, 5, .inl (fy1))) :: (ay2, .inl (cI, 5, .inl (fy2))) :: (aT, .inr (3, [.ref at0, .int (nI tn)])) :: (at0, .inl (cI, 48, .inl (ft0))) :: rest) := by
  refine MV.of [.ref aX, .int (nI a), .null, .null, .null] (by decide) (Nat.le_of_ble_eq_true rfl) rfl ?_
  intro p e s m below meth c A C0 hr
  refine ww_aload_n C0 dX4_readPart_0 rfl ?_
  refine ww_get C0 (ci := 4) (C := RX4) (T := TX4) (N := 14) ku_X4 0 rfl rfl 0 (by decide) kw_X4_10 rfl dX4_readPart_1 ?_
  refine ww_iload_n C0 dX4_readPart_4 rfl ?_
  refine ww_iconst (v := (1)) C0 dX4_readPart_5 rfl ?_
  refine ww_iadd C0 dX4_readPart_6 ?_
  refine ww_top (nI_addE (a := a) (b := 1) rfl rfl) ?_
  refine ww_perm (perm_mv 0 14 2 _) ?_
  simp only [List.drop_succ_cons, List.drop_zero, List.take_succ_cons, List.take_zero, List.cons_append, List.nil_append, Nat.reduceAdd]
  refine ww_callVNi C0 (qc := (RX3, TX3, 2)) 0 3 (c_X3_figure l D cI cZ cQ ht (by omega)) kd_X3_figure kn_X4_225 km_X3_figure kl_X3_figure ki_X3 hd_X3_figure rfl rfl ⟨Nat.le_of_ble_eq_true rfl, Nat.le_of_ble_eq_true rfl, rfl, rfl⟩ (Nat.le_of_ble_eq_true rfl) dX4_readPart_7 rfl rfl rfl ⟨Nat.zero_le _, Nat.zero_le _⟩ ?_
  refine ww_perm (perm_mv 0 2 14 _) ?_
  simp only [List.drop_succ_cons, List.drop_zero, List.take_succ_cons, List.take_zero, List.cons_append, List.nil_append, Nat.reduceAdd]
  refine ww_istore_n (i := 2) C0 dX4_readPart_10 rfl (Nat.le_of_ble_eq_true rfl) rfl ?_
  simp only [List.set_cons_zero, List.set_cons_succ]
  refine ww_aload_n C0 dX4_readPart_11 rfl ?_
  refine ww_get C0 (ci := 4) (C := RX4) (T := TX4) (N := 14) ku_X4 0 rfl rfl 0 (by decide) kw_X4_10 rfl dX4_readPart_12 ?_
  refine ww_iload_n C0 dX4_readPart_15 rfl ?_
  refine ww_iconst (v := (2)) C0 dX4_readPart_16 rfl ?_
  refine ww_iadd C0 dX4_readPart_17 ?_
  refine ww_top (nI_addE (a := a) (b := 2) rfl rfl) ?_
  refine ww_perm (perm_mv 0 14 2 _) ?_
  simp only [List.drop_succ_cons, List.drop_zero, List.take_succ_cons, List.take_zero, List.cons_append, List.nil_append, Nat.reduceAdd]
  refine ww_callVNi C0 (qc := (RX3, TX3, 2)) 0 3 (c_X3_figure l D cI cZ cQ ht (by omega)) kd_X3_figure kn_X4_225 km_X3_figure kl_X3_figure ki_X3 hd_X3_figure rfl rfl ⟨Nat.le_of_ble_eq_true rfl, Nat.le_of_ble_eq_true rfl, rfl, rfl⟩ (Nat.le_of_ble_eq_true rfl) dX4_readPart_18 rfl rfl rfl ⟨Nat.zero_le _, Nat.zero_le _⟩ ?_
  refine ww_perm (perm_mv 0 2 14 _) ?_
  simp only [List.drop_succ_cons, List.drop_zero, List.take_succ_cons, List.take_zero, List.cons_append, List.nil_append, Nat.reduceAdd]
  refine ww_istore_n (i := 3) C0 dX4_readPart_21 rfl (Nat.le_of_ble_eq_true rfl) rfl ?_
  simp only [List.set_cons_zero, List.set_cons_succ]
  refine ww_aload_n C0 dX4_readPart_22 rfl ?_
  refine ww_get C0 (ci := 4) (C := RX4) (T := TX4) (N := 14) ku_X4 0 rfl rfl 0 (by decide) kw_X4_10 rfl dX4_readPart_23 ?_
  refine ww_iload_n C0 dX4_readPart_26 rfl ?_
  refine ww_iconst (v := (3)) C0 dX4_readPart_27 rfl ?_
  refine ww_iadd C0 dX4_readPart_28 ?_
  refine ww_top (nI_addE (a := a) (b := 3) rfl rfl) ?_
  refine ww_perm (perm_mv 0 14 2 _) ?_
  simp only [List.drop_succ_cons, List.drop_zero, List.take_succ_cons, List.take_zero, List.cons_append, List.nil_append, Nat.reduceAdd]
  refine ww_callVNi C0 (qc := (RX3, TX3, 2)) 0 3 (c_X3_figure l D cI cZ cQ ht (by omega)) kd_X3_figure kn_X4_225 km_X3_figure kl_X3_figure ki_X3 hd_X3_figure rfl rfl ⟨Nat.le_of_ble_eq_true rfl, Nat.le_of_ble_eq_true rfl, rfl, rfl⟩ (Nat.le_of_ble_eq_true rfl) dX4_readPart_29 rfl rfl rfl ⟨Nat.zero_le _, Nat.zero_le _⟩ ?_
  refine ww_perm (perm_mv 0 2 14 _) ?_
  simp only [List.drop_succ_cons, List.drop_zero, List.take_succ_cons, List.take_zero, List.cons_append, List.nil_append, Nat.reduceAdd]
  refine ww_istore (i := 4) C0 dX4_readPart_32 (Nat.le_of_ble_eq_true rfl) rfl ?_
  simp only [List.set_cons_zero, List.set_cons_succ]
  refine ww_aload_n C0 dX4_readPart_34 rfl ?_
  refine ww_get C0 (ci := 4) (C := RX4) (T := TX4) (N := 14) ku_X4 0 rfl rfl 0 (by decide) kw_X4_10 rfl dX4_readPart_35 ?_
  refine ww_iload_n C0 dX4_readPart_38 rfl ?_
  refine ww_perm (perm_mv 0 14 2 _) ?_
  simp only [List.drop_succ_cons, List.drop_zero, List.take_succ_cons, List.take_zero, List.cons_append, List.nil_append, Nat.reduceAdd]
  refine ww_callVNi C0 (qc := (RX3, TX3, 2)) 0 3 (c_X3_letter l D cI cZ cQ ht (by omega)) kd_X3_letter kn_X4_228 km_X3_letter kl_X3_letter ki_X3 hd_X3_letter rfl rfl ⟨Nat.le_of_ble_eq_true rfl, Nat.le_of_ble_eq_true rfl, rfl, rfl⟩ (Nat.le_of_ble_eq_true rfl) dX4_readPart_39 rfl rfl rfl ⟨Nat.zero_le _, Nat.zero_le _⟩ ?_
  refine ww_perm (perm_mv 0 2 14 _) ?_
  simp only [List.drop_succ_cons, List.drop_zero, List.take_succ_cons, List.take_zero, List.cons_append, List.nil_append, Nat.reduceAdd]
  refine ww_bipush (v := (65)) C0 dX4_readPart_42 rfl ?_
  refine ww_icmp_ne (tgt := 61) C0 dX4_readPart_44 (by decide) (fun h44 => ?_) (fun h44 => ?_)
  · skip
    refine ww_aload_n C0 dX4_readPart_61 rfl ?_
    refine ww_get C0 (ci := 4) (C := RX4) (T := TX4) (N := 14) ku_X4 0 rfl rfl 3 (by decide) kw_X4_27 rfl dX4_readPart_62 ?_
    refine ww_iconst (v := (5)) C0 dX4_readPart_65 rfl ?_
    refine ww_icmp_ge (tgt := 129) C0 dX4_readPart_66 (by decide) (fun h66 => ?_) (fun h66 => ?_)
    · skip
      replace h66 := (nI_leE (a := 5) (b := nm) rfl rfl (by omega) (by omega)).mp h66
      have h66z : ¬ nm < 5 := by omega
      exact ww_vret C0 hr dX4_readPart_129 (by simp [sPart, nI_1, *])
    · skip
      replace h66 := (not_congr (nI_leE (a := 5) (b := nm) rfl rfl (by omega) (by omega))).mp h66
      have h66z : nm < 5 := by omega
      refine ww_aload_n C0 dX4_readPart_69 rfl ?_
      refine ww_get C0 (ci := 4) (C := RX4) (T := TX4) (N := 14) ku_X4 0 rfl rfl 4 (by decide) kw_X4_34 rfl dX4_readPart_70 ?_
      refine ww_getN C0 (ci := 2) (C := RX2) (T := TX2) (N := 5) ku_X2 6 rfl rfl 0 (by decide) kn_X4_116 rfl dX4_readPart_73 ?_
      refine ww_aload_n C0 dX4_readPart_76 rfl ?_
      refine ww_get C0 (ci := 4) (C := RX4) (T := TX4) (N := 14) ku_X4 0 rfl rfl 3 (by decide) kw_X4_27 rfl dX4_readPart_77 ?_
      refine ww_iload_n C0 dX4_readPart_80 rfl ?_
      refine ww_iast_n (j := nm) C0 7 0 rfl rfl rfl (by omega) (by decide) dX4_readPart_81 ?_
      simp only [List.set_cons_zero, List.set_cons_succ]
      refine ww_aload_n C0 dX4_readPart_82 rfl ?_
      refine ww_get C0 (ci := 4) (C := RX4) (T := TX4) (N := 14) ku_X4 0 rfl rfl 4 (by decide) kw_X4_34 rfl dX4_readPart_83 ?_
      refine ww_getN C0 (ci := 2) (C := RX2) (T := TX2) (N := 5) ku_X2 6 rfl rfl 1 (by decide) kn_X4_117 rfl dX4_readPart_86 ?_
      refine ww_aload_n C0 dX4_readPart_89 rfl ?_
      refine ww_get C0 (ci := 4) (C := RX4) (T := TX4) (N := 14) ku_X4 0 rfl rfl 3 (by decide) kw_X4_27 rfl dX4_readPart_90 ?_
      refine ww_iload C0 dX4_readPart_93 rfl ?_
      refine ww_iast_n (j := nm) C0 8 0 rfl rfl rfl (by omega) (by decide) dX4_readPart_95 ?_
      simp only [List.set_cons_zero, List.set_cons_succ]
      refine ww_aload_n C0 dX4_readPart_96 rfl ?_
      refine ww_get C0 (ci := 4) (C := RX4) (T := TX4) (N := 14) ku_X4 0 rfl rfl 4 (by decide) kw_X4_34 rfl dX4_readPart_97 ?_
      refine ww_getN C0 (ci := 2) (C := RX2) (T := TX2) (N := 5) ku_X2 6 rfl rfl 2 (by decide) kn_X4_120 rfl dX4_readPart_100 ?_
      refine ww_aload_n C0 dX4_readPart_103 rfl ?_
      refine ww_get C0 (ci := 4) (C := RX4) (T := TX4) (N := 14) ku_X4 0 rfl rfl 3 (by decide) kw_X4_27 rfl dX4_readPart_104 ?_
      refine ww_iconst (v := (0)) C0 dX4_readPart_107 rfl ?_
      refine ww_iast_n (j := nm) C0 9 0 rfl rfl rfl (by omega) (by decide) dX4_readPart_108 ?_
      simp only [List.set_cons_zero, List.set_cons_succ]
      refine ww_aload_n C0 dX4_readPart_109 rfl ?_
      refine ww_get C0 (ci := 4) (C := RX4) (T := TX4) (N := 14) ku_X4 0 rfl rfl 2 (by decide) kw_X4_23 rfl dX4_readPart_110 ?_
      refine ww_aload_n C0 dX4_readPart_113 rfl ?_
      refine ww_get C0 (ci := 4) (C := RX4) (T := TX4) (N := 14) ku_X4 0 rfl rfl 3 (by decide) kw_X4_27 rfl dX4_readPart_114 ?_
      refine ww_iload_n C0 dX4_readPart_117 rfl ?_
      refine ww_iast_n (j := nm) C0 5 0 rfl rfl rfl (by omega) (by decide) dX4_readPart_118 ?_
      simp only [List.set_cons_zero, List.set_cons_succ]
      refine ww_aload_n C0 dX4_readPart_119 rfl ?_
      refine ww_dup C0 dX4_readPart_120 rfl ?_
      refine ww_get C0 (ci := 4) (C := RX4) (T := TX4) (N := 14) ku_X4 0 rfl rfl 3 (by decide) kw_X4_27 rfl dX4_readPart_121 ?_
      refine ww_iconst (v := (1)) C0 dX4_readPart_124 rfl ?_
      refine ww_iadd C0 dX4_readPart_125 ?_
      refine ww_put C0 (ci := 4) (C := RX4) (T := TX4) (N := 14) ku_X4 0 rfl rfl 3 (by decide) tyX4 tyX4_ok nmX4 kw_X4_27 rfl (ty := .int) (by decide +kernel) rfl rfl (Nat.le_of_ble_eq_true rfl) dX4_readPart_126 ?_
      simp only [List.set_cons_zero, List.set_cons_succ]
      exact ww_vret C0 hr dX4_readPart_129 (by simp [sPart, nI_1, *])
  · skip
    refine ww_aload_n C0 dX4_readPart_47 rfl ?_
    by_cases hn5 : na < 5
    · skip
      refine ww_get C0 (ci := 4) (C := RX4) (T := TX4) (N := 14) ku_X4 0 rfl rfl 1 (by decide) kw_X4_19 rfl dX4_readPart_48 ?_
      refine ww_iload_n C0 dX4_readPart_51 rfl ?_
      refine ww_iload_n C0 dX4_readPart_52 rfl ?_
      refine ww_iload C0 dX4_readPart_53 rfl ?_
      refine ww_callVNv C0 (qc := (RX0, TX0, 4)) 1 0 (c_X0_add l D cI cZ cQ hn5) kd_X0_add kn_X4_231 km_X0_add kl_X0_add ki_X0 hd_X0_add rfl rfl ⟨Nat.le_of_ble_eq_true rfl, Nat.le_of_ble_eq_true rfl, rfl, rfl⟩ (Nat.le_of_ble_eq_true rfl) dX4_readPart_55 rfl rfl rfl ⟨Nat.zero_le _, Nat.zero_le _⟩ ?_
      refine ww_goto (tgt := 129) C0 dX4_readPart_58 (by decide) ?_
      exact ww_vret C0 hr dX4_readPart_129 (by simp [sPart, nI_1, *])
    refine ww_get C0 (ci := 4) (C := RX4) (T := TX4) (N := 14) ku_X4 0 rfl rfl 1 (by decide) kw_X4_19 rfl dX4_readPart_48 ?_
    refine ww_iload_n C0 dX4_readPart_51 rfl ?_
    refine ww_iload_n C0 dX4_readPart_52 rfl ?_
    refine ww_iload C0 dX4_readPart_53 rfl ?_
    refine ww_callVNv C0 (qc := (RX0, TX0, 4)) 1 0 (c_X0_add_f l D cI cZ cQ (by omega)) kd_X0_add kn_X4_231 km_X0_add kl_X0_add ki_X0 hd_X0_add rfl rfl ⟨Nat.le_of_ble_eq_true rfl, Nat.le_of_ble_eq_true rfl, rfl, rfl⟩ (Nat.le_of_ble_eq_true rfl) dX4_readPart_55 rfl rfl rfl ⟨Nat.zero_le _, Nat.zero_le _⟩ ?_
    refine ww_goto (tgt := 129) C0 dX4_readPart_58 (by decide) ?_
    exact ww_vret C0 hr dX4_readPart_129 (by simp [sPart, nI_1, *])

set_option maxHeartbeats 4000000 in
set_option maxRecDepth 100000 in
theorem c_X4_treaty_b (l : Launch) (D : va_G) (cI cZ cQ : ClassId) {aX aT aL aC aN aY aA aO aK aG aW al0 al1 al2 an0 an1 an2 ay0 ay1 ay2 at0 ag0 ag1 ag2 ag3 ag4 : Nat} {nm fa ac na tn gn : Nat} {hN bN hY bY : Int32} {sd : Int64} {fl0 fl1 fl2 fC fn0 fn1 fn2 fy0 fy1 fy2 ft0 fg0 fg1 fg2 fg3 fg4 fW fK : Nat → Int32} {rest : va_W} (ht : tn ≤ 48) (hf : ¬ sFault ft0 tn tn 0 0 0 77 = -9) : MI l D [(cI, .int), (cZ, .boolean), (cQ, .object "MulesRemember$State")] yX4_treaty cX4_treaty 2 .int ({ frames := 3, cells := 0, slots := 0, locals := 66 } : Room) [.ref aX] ((aX, .inr (4, [.ref aT, .ref aL, .ref aC, .int (nI nm), .ref aN, .ref aY, .ref aA, .int (nI fa), .int (nI ac), .ref aO, .ref aK, .ref aG, .ref aW, .long sd])) :: (aL, .inr (0, [.ref al0, .ref al1, .ref al2, .int (nI na)])) :: (al0, .inl (cI, 5, .inl (fl0))) :: (al1, .inl (cI, 5, .inl (fl1))) :: (al2, .inl (cI, 5, .inl (fl2))) :: (aC, .inl (cI, 5, .inl (fC))) :: (aN, .inr (2, [.ref an0, .ref an1, .ref an2, .int hN, .int bN])) :: (an0, .inl (cI, 5, .inl (fn0))) :: (an1, .inl (cI, 5, .inl (fn1))) :: (an2, .inl (cI, 5, .inl (fn2))) :: (aY, .inr (2, [.ref ay0, .ref ay1, .ref ay2, .int hY, .int bY])) :: (ay0, .inl (cI, 5, .inl (fy0))) :: (ay1, .inl (cI, 5, .inl (fy1))) :: (ay2, .inl (cI, 5, .inl (fy2))) :: (aT, .inr (3, [.ref at0, .int (nI tn)])) :: (at0, .inl (cI, 48, .inl (ft0))) :: (aG, .inr (1, [.ref ag0, .ref ag1, .ref ag2, .ref ag3, .ref ag4, .int (nI gn)])) :: (ag0, .inl (cI, 6, .inl (fg0))) :: (ag1, .inl (cI, 6, .inl (fg1))) :: (ag2, .inl (cI, 6, .inl (fg2))) :: (ag3, .inl (cI, 6, .inl (fg3))) :: (ag4, .inl (cI, 6, .inl (fg4))) :: (aW, .inl (cI, 6, .inl (fW))) :: (aK, .inl (cZ, 2, .inl (fK))) :: rest) (-3) ((aX, .inr (4, [.ref aT, .ref aL, .ref aC, .int (nI nm), .ref aN, .ref aY, .ref aA, .int (nI fa), .int (nI ac), .ref aO, .ref aK, .ref aG, .ref aW, .long sd])) :: (aL, .inr (0, [.ref al0, .ref al1, .ref al2, .int (nI na)])) :: (al0, .inl (cI, 5, .inl (fl0))) :: (al1, .inl (cI, 5, .inl (fl1))) :: (al2, .inl (cI, 5, .inl (fl2))) :: (aC, .inl (cI, 5, .inl (fC))) :: (aN, .inr (2, [.ref an0, .ref an1, .ref an2, .int hN, .int bN])) :: (an0, .inl (cI, 5, .inl (fn0))) :: (an1, .inl (cI, 5, .inl (fn1))) :: (an2, .inl (cI, 5, .inl (fn2))) :: (aY, .inr (2, [.ref ay0, .ref ay1, .ref ay2, .int hY, .int bY])) :: (ay0, .inl (cI, 5, .inl (fy0))) :: (ay1, .inl (cI, 5, .inl (fy1))) :: (ay2, .inl (cI, 5, .inl (fy2))) :: (aT, .inr (3, [.ref at0, .int (nI tn)])) :: (at0, .inl (cI, 48, .inl (ft0))) :: (aG, .inr (1, [.ref ag0, .ref ag1, .ref ag2, .ref ag3, .ref ag4, .int (nI gn)])) :: (ag0, .inl (cI, 6, .inl (fg0))) :: (ag1, .inl (cI, 6, .inl (fg1))) :: (ag2, .inl (cI, 6, .inl (fg2))) :: (ag3, .inl (cI, 6, .inl (fg3))) :: (ag4, .inl (cI, 6, .inl (fg4))) :: (aW, .inl (cI, 6, .inl (fW))) :: (aK, .inl (cZ, 2, .inl (fK))) :: rest) := by
  refine MI.of [.ref aX, .null] (by decide) (Nat.le_of_ble_eq_true rfl) rfl ?_
  intro p e s m below meth c A C0 hr
  refine ww_aload_n C0 dX4_treaty_0 rfl ?_
  refine ww_get C0 (ci := 4) (C := RX4) (T := TX4) (N := 14) ku_X4 0 rfl rfl 0 (by decide) kw_X4_10 rfl dX4_treaty_1 ?_
  refine ww_perm (perm_mv 0 14 2 _) ?_
  simp only [List.drop_succ_cons, List.drop_zero, List.take_succ_cons, List.take_zero, List.cons_append, List.nil_append, Nat.reduceAdd]
  refine ww_callVNi C0 (qc := (RX3, TX3, 2)) 0 3 (c_X3_firstFault l D cI cZ cQ ht) kd_X3_firstFault kn_X4_79 km_X3_firstFault kl_X3_firstFault ki_X3 hd_X3_firstFault rfl rfl ⟨Nat.le_of_ble_eq_true rfl, Nat.le_of_ble_eq_true rfl, rfl, rfl⟩ (Nat.le_of_ble_eq_true rfl) dX4_treaty_4 rfl rfl rfl ⟨Nat.zero_le _, Nat.zero_le _⟩ ?_
  refine ww_perm (perm_mv 0 2 14 _) ?_
  simp only [List.drop_succ_cons, List.drop_zero, List.take_succ_cons, List.take_zero, List.cons_append, List.nil_append, Nat.reduceAdd]
  refine ww_bipush (v := (-9)) C0 dX4_treaty_7 rfl ?_
  refine ww_icmp_eq (tgt := 15) C0 dX4_treaty_9 (by decide) (fun h9 => ?_) (fun h9 => ?_)
  · skip
    exact absurd h9 hf
  · skip
    refine ww_bipush (v := (-3)) C0 dX4_treaty_12 rfl ?_
    exact ww_iret C0 hr dX4_treaty_14 (by rfl) (by rfl)

set_option maxHeartbeats 4000000 in
set_option maxRecDepth 100000 in
theorem c_X4_treaty (l : Launch) (D : va_G) (cI cZ cQ : ClassId) {aX aT aL aC aN aY aA aO aK aG aW al0 al1 al2 an0 an1 an2 ay0 ay1 ay2 at0 ag0 ag1 ag2 ag3 ag4 : Nat} {nm fa ac na tn gn : Nat} {hN bN hY bY : Int32} {sd : Int64} {fl0 fl1 fl2 fC fn0 fn1 fn2 fy0 fy1 fy2 ft0 fg0 fg1 fg2 fg3 fg4 fW fK : Nat → Int32} {rest : va_W} (ht : tn ≤ 48) (hf : sFault ft0 tn tn 0 0 0 77 = -9) : MI l D [(cI, .int), (cZ, .boolean), (cQ, .object "MulesRemember$State")] yX4_treaty cX4_treaty 2 .int ({ frames := 3, cells := 0, slots := 0, locals := 66 } : Room) [.ref aX] ((aX, .inr (4, [.ref aT, .ref aL, .ref aC, .int (nI nm), .ref aN, .ref aY, .ref aA, .int (nI fa), .int (nI ac), .ref aO, .ref aK, .ref aG, .ref aW, .long sd])) :: (aL, .inr (0, [.ref al0, .ref al1, .ref al2, .int (nI na)])) :: (al0, .inl (cI, 5, .inl (fl0))) :: (al1, .inl (cI, 5, .inl (fl1))) :: (al2, .inl (cI, 5, .inl (fl2))) :: (aC, .inl (cI, 5, .inl (fC))) :: (aN, .inr (2, [.ref an0, .ref an1, .ref an2, .int hN, .int bN])) :: (an0, .inl (cI, 5, .inl (fn0))) :: (an1, .inl (cI, 5, .inl (fn1))) :: (an2, .inl (cI, 5, .inl (fn2))) :: (aY, .inr (2, [.ref ay0, .ref ay1, .ref ay2, .int hY, .int bY])) :: (ay0, .inl (cI, 5, .inl (fy0))) :: (ay1, .inl (cI, 5, .inl (fy1))) :: (ay2, .inl (cI, 5, .inl (fy2))) :: (aT, .inr (3, [.ref at0, .int (nI tn)])) :: (at0, .inl (cI, 48, .inl (ft0))) :: (aG, .inr (1, [.ref ag0, .ref ag1, .ref ag2, .ref ag3, .ref ag4, .int (nI gn)])) :: (ag0, .inl (cI, 6, .inl (fg0))) :: (ag1, .inl (cI, 6, .inl (fg1))) :: (ag2, .inl (cI, 6, .inl (fg2))) :: (ag3, .inl (cI, 6, .inl (fg3))) :: (ag4, .inl (cI, 6, .inl (fg4))) :: (aW, .inl (cI, 6, .inl (fW))) :: (aK, .inl (cZ, 2, .inl (fK))) :: rest) (10 * nI (sParts ft0 tn (0, 0, fl0, fl1, fl2, fC, fn0, fn1, fn2) ((tn - 1) / 4)).1 + nI (sParts ft0 tn (0, 0, fl0, fl1, fl2, fC, fn0, fn1, fn2) ((tn - 1) / 4)).2.1) ((aX, .inr (4, [.ref aT, .ref aL, .ref aC, .int (nI (sParts ft0 tn (0, 0, fl0, fl1, fl2, fC, fn0, fn1, fn2) ((tn - 1) / 4)).1), .ref aN, .ref aY, .ref aA, .int (nI fa), .int (nI 0), .ref aO, .ref aK, .ref aG, .ref aW, .long sd])) :: (aL, .inr (0, [.ref al0, .ref al1, .ref al2, .int (nI (sParts ft0 tn (0, 0, fl0, fl1, fl2, fC, fn0, fn1, fn2) ((tn - 1) / 4)).2.1)])) :: (al0, .inl (cI, 5, .inl ((sParts ft0 tn (0, 0, fl0, fl1, fl2, fC, fn0, fn1, fn2) ((tn - 1) / 4)).2.2.1))) :: (al1, .inl (cI, 5, .inl ((sParts ft0 tn (0, 0, fl0, fl1, fl2, fC, fn0, fn1, fn2) ((tn - 1) / 4)).2.2.2.1))) :: (al2, .inl (cI, 5, .inl ((sParts ft0 tn (0, 0, fl0, fl1, fl2, fC, fn0, fn1, fn2) ((tn - 1) / 4)).2.2.2.2.1))) :: (aC, .inl (cI, 5, .inl ((sParts ft0 tn (0, 0, fl0, fl1, fl2, fC, fn0, fn1, fn2) ((tn - 1) / 4)).2.2.2.2.2.1))) :: (aN, .inr (2, [.ref an0, .ref an1, .ref an2, .int 0, .int 0])) :: (an0, .inl (cI, 5, .inl ((sParts ft0 tn (0, 0, fl0, fl1, fl2, fC, fn0, fn1, fn2) ((tn - 1) / 4)).2.2.2.2.2.2.1))) :: (an1, .inl (cI, 5, .inl ((sParts ft0 tn (0, 0, fl0, fl1, fl2, fC, fn0, fn1, fn2) ((tn - 1) / 4)).2.2.2.2.2.2.2.1))) :: (an2, .inl (cI, 5, .inl ((sParts ft0 tn (0, 0, fl0, fl1, fl2, fC, fn0, fn1, fn2) ((tn - 1) / 4)).2.2.2.2.2.2.2.2))) :: (aY, .inr (2, [.ref ay0, .ref ay1, .ref ay2, .int hY, .int bY])) :: (ay0, .inl (cI, 5, .inl (fy0))) :: (ay1, .inl (cI, 5, .inl (fy1))) :: (ay2, .inl (cI, 5, .inl (fy2))) :: (aT, .inr (3, [.ref at0, .int (nI tn)])) :: (at0, .inl (cI, 48, .inl (ft0))) :: (aG, .inr (1, [.ref ag0, .ref ag1, .ref ag2, .ref ag3, .ref ag4, .int (nI gn)])) :: (ag0, .inl (cI, 6, .inl (fg0))) :: (ag1, .inl (cI, 6, .inl (fg1))) :: (ag2, .inl (cI, 6, .inl (fg2))) :: (ag3, .inl (cI, 6, .inl (fg3))) :: (ag4, .inl (cI, 6, .inl (fg4))) :: (aW, .inl (cI, 6, .inl (fW))) :: (aK, .inl (cZ, 2, .inl ((fun _ => 0)))) :: rest) := by
  refine MI.of [.ref aX, .null] (by decide) (Nat.le_of_ble_eq_true rfl) rfl ?_
  intro p e s m below meth c A C0 hr
  have hmod := sFault_mod ht tn 0 0 0 77 (by omega) hf
  refine ww_aload_n C0 dX4_treaty_0 rfl ?_
  refine ww_get C0 (ci := 4) (C := RX4) (T := TX4) (N := 14) ku_X4 0 rfl rfl 0 (by decide) kw_X4_10 rfl dX4_treaty_1 ?_
  refine ww_perm (perm_mv 0 14 2 _) ?_
  simp only [List.drop_succ_cons, List.drop_zero, List.take_succ_cons, List.take_zero, List.cons_append, List.nil_append, Nat.reduceAdd]
  refine ww_callVNi C0 (qc := (RX3, TX3, 2)) 0 3 (c_X3_firstFault l D cI cZ cQ ht) kd_X3_firstFault kn_X4_79 km_X3_firstFault kl_X3_firstFault ki_X3 hd_X3_firstFault rfl rfl ⟨Nat.le_of_ble_eq_true rfl, Nat.le_of_ble_eq_true rfl, rfl, rfl⟩ (Nat.le_of_ble_eq_true rfl) dX4_treaty_4 rfl rfl rfl ⟨Nat.zero_le _, Nat.zero_le _⟩ ?_
  refine ww_perm (perm_mv 0 2 14 _) ?_
  simp only [List.drop_succ_cons, List.drop_zero, List.take_succ_cons, List.take_zero, List.cons_append, List.nil_append, Nat.reduceAdd]
  refine ww_bipush (v := (-9)) C0 dX4_treaty_7 rfl ?_
  refine ww_icmp_eq (tgt := 15) C0 dX4_treaty_9 (by decide) (fun h9 => ?_) (fun h9 => ?_)
  · skip
    refine ww_aload_n C0 dX4_treaty_15 rfl ?_
    refine ww_iconst (v := (0)) C0 dX4_treaty_16 rfl ?_
    refine ww_put C0 (ci := 4) (C := RX4) (T := TX4) (N := 14) ku_X4 0 rfl rfl 3 (by decide) tyX4 tyX4_ok nmX4 kw_X4_27 rfl (ty := .int) (by decide +kernel) rfl rfl (Nat.le_of_ble_eq_true rfl) dX4_treaty_17 ?_
    simp only [List.set_cons_zero, List.set_cons_succ]
    refine ww_aload_n C0 dX4_treaty_20 rfl ?_
    refine ww_get C0 (ci := 4) (C := RX4) (T := TX4) (N := 14) ku_X4 0 rfl rfl 1 (by decide) kw_X4_19 rfl dX4_treaty_21 ?_
    refine ww_iconst (v := (0)) C0 dX4_treaty_24 rfl ?_
    refine ww_putN C0 (ci := 0) (C := RX0) (T := TX0) (N := 4) ku_X0 1 rfl rfl 3 (by decide) tyX0 tyX0_ok nmX0 kn_X4_83 rfl (ty := .int) (by decide +kernel) rfl rfl (Nat.le_of_ble_eq_true rfl) dX4_treaty_25 ?_
    simp only [List.set_cons_zero, List.set_cons_succ]
    refine ww_aload_n C0 dX4_treaty_28 rfl ?_
    refine ww_get C0 (ci := 4) (C := RX4) (T := TX4) (N := 14) ku_X4 0 rfl rfl 4 (by decide) kw_X4_34 rfl dX4_treaty_29 ?_
    refine ww_iconst (v := (0)) C0 dX4_treaty_32 rfl ?_
    refine ww_putN C0 (ci := 2) (C := RX2) (T := TX2) (N := 5) ku_X2 6 rfl rfl 3 (by decide) tyX2 tyX2_ok nmX2 kn_X4_86 rfl (ty := .int) (by decide +kernel) rfl rfl (Nat.le_of_ble_eq_true rfl) dX4_treaty_33 ?_
    simp only [List.set_cons_zero, List.set_cons_succ]
    refine ww_aload_n C0 dX4_treaty_36 rfl ?_
    refine ww_get C0 (ci := 4) (C := RX4) (T := TX4) (N := 14) ku_X4 0 rfl rfl 4 (by decide) kw_X4_34 rfl dX4_treaty_37 ?_
    refine ww_iconst (v := (0)) C0 dX4_treaty_40 rfl ?_
    refine ww_putN C0 (ci := 2) (C := RX2) (T := TX2) (N := 5) ku_X2 6 rfl rfl 4 (by decide) tyX2 tyX2_ok nmX2 kn_X4_89 rfl (ty := .int) (by decide +kernel) rfl rfl (Nat.le_of_ble_eq_true rfl) dX4_treaty_41 ?_
    simp only [List.set_cons_zero, List.set_cons_succ]
    refine ww_iconst (v := (1)) C0 dX4_treaty_44 rfl ?_
    refine ww_istore_n (i := 1) C0 dX4_treaty_45 rfl (Nat.le_of_ble_eq_true rfl) rfl ?_
    simp only [List.set_cons_zero, List.set_cons_succ]
    refine ww_back (ww_loop (pc := 46) 0 (((tn - 1) / 4)) (by omega) (fun j => [_, .int (nI (1 + 4 * j))]) (fun j => (aX, .inr (4, [.ref aT, .ref aL, .ref aC, .int (nI (sParts ft0 tn (0, 0, fl0, fl1, fl2, fC, fn0, fn1, fn2) j).1), .ref aN, .ref aY, .ref aA, .int (nI fa), .int (nI ac), .ref aO, .ref aK, .ref aG, .ref aW, .long sd])) :: (aL, .inr (0, [.ref al0, .ref al1, .ref al2, .int (nI (sParts ft0 tn (0, 0, fl0, fl1, fl2, fC, fn0, fn1, fn2) j).2.1)])) :: (al0, .inl (cI, 5, .inl ((sParts ft0 tn (0, 0, fl0, fl1, fl2, fC, fn0, fn1, fn2) j).2.2.1))) :: (al1, .inl (cI, 5, .inl ((sParts ft0 tn (0, 0, fl0, fl1, fl2, fC, fn0, fn1, fn2) j).2.2.2.1))) :: (al2, .inl (cI, 5, .inl ((sParts ft0 tn (0, 0, fl0, fl1, fl2, fC, fn0, fn1, fn2) j).2.2.2.2.1))) :: (aC, .inl (cI, 5, .inl ((sParts ft0 tn (0, 0, fl0, fl1, fl2, fC, fn0, fn1, fn2) j).2.2.2.2.2.1))) :: (aN, .inr (2, [.ref an0, .ref an1, .ref an2, .int 0, .int 0])) :: (an0, .inl (cI, 5, .inl ((sParts ft0 tn (0, 0, fl0, fl1, fl2, fC, fn0, fn1, fn2) j).2.2.2.2.2.2.1))) :: (an1, .inl (cI, 5, .inl ((sParts ft0 tn (0, 0, fl0, fl1, fl2, fC, fn0, fn1, fn2) j).2.2.2.2.2.2.2.1))) :: (an2, .inl (cI, 5, .inl ((sParts ft0 tn (0, 0, fl0, fl1, fl2, fC, fn0, fn1, fn2) j).2.2.2.2.2.2.2.2))) :: (aY, .inr (2, [.ref ay0, .ref ay1, .ref ay2, .int hY, .int bY])) :: (ay0, .inl (cI, 5, .inl (fy0))) :: (ay1, .inl (cI, 5, .inl (fy1))) :: (ay2, .inl (cI, 5, .inl (fy2))) :: (aT, .inr (3, [.ref at0, .int (nI tn)])) :: (at0, .inl (cI, 48, .inl (ft0))) :: (aG, .inr (1, [.ref ag0, .ref ag1, .ref ag2, .ref ag3, .ref ag4, .int (nI gn)])) :: (ag0, .inl (cI, 6, .inl (fg0))) :: (ag1, .inl (cI, 6, .inl (fg1))) :: (ag2, .inl (cI, 6, .inl (fg2))) :: (ag3, .inl (cI, 6, .inl (fg3))) :: (ag4, .inl (cI, 6, .inl (fg4))) :: (aW, .inl (cI, 6, .inl (fW))) :: (aK, .inl (cZ, 2, .inl (fK))) :: rest) ?_ ?_) ⟨Or.inr rfl, Or.inr rfl, trivial⟩ (by rfl)
    · intro j hj0 hj ih
      refine ww_iload_n C0 dX4_treaty_46 rfl ?_
      refine ww_aload_n C0 dX4_treaty_47 rfl ?_
      refine ww_get C0 (ci := 4) (C := RX4) (T := TX4) (N := 14) ku_X4 0 rfl rfl 0 (by decide) kw_X4_10 rfl dX4_treaty_48 ?_
      refine ww_getN C0 (ci := 3) (C := RX3) (T := TX3) (N := 2) ku_X3 14 rfl rfl 1 (by decide) kn_X4_76 rfl dX4_treaty_51 ?_
      refine ww_icmp_ge (tgt := 68) C0 dX4_treaty_54 (by decide) (fun h54 => ?_) (fun h54 => ?_)
      · skip
        replace h54 := (nI_leE (a := tn) (b := 1 + 4 * j) rfl rfl (by omega) (by omega)).mp h54
        exfalso; omega
      · skip
        replace h54 := (not_congr (nI_leE (a := tn) (b := 1 + 4 * j) rfl rfl (by omega) (by omega))).mp h54
        refine ww_aload_n C0 dX4_treaty_57 rfl ?_
        refine ww_iload_n C0 dX4_treaty_58 rfl ?_
        refine ww_callVv C0 (qc := (RX4, TX4, 14)) 0 4 (c_X4_readPart l D cI cZ cQ (sParts_le (Nat.zero_le 5) (Nat.zero_le 5) j).1 (sParts_le (Nat.zero_le 5) (Nat.zero_le 5) j).2 ht (by omega)) kd_X4_readPart kw_X4_92 km_X4_readPart kl_X4_readPart ki_X4 hd_X4_readPart rfl rfl ⟨Nat.le_of_ble_eq_true rfl, Nat.le_of_ble_eq_true rfl, rfl, rfl⟩ (Nat.le_of_ble_eq_true rfl) dX4_treaty_59 rfl rfl rfl ⟨Nat.zero_le _, Nat.zero_le _⟩ ?_
        refine ww_iinc (d := 4) C0 dX4_treaty_62 rfl rfl rfl ?_
        simp only [List.set_cons_zero, List.set_cons_succ]
        refine ww_goto (tgt := 46) C0 dX4_treaty_65 (by decide) ?_
        exact ww_back ih ⟨Or.inr rfl, Or.inr (congrArg Value.int ((nI_addE (a := 1 + 4 * j) (b := 4) rfl rfl).symm)), trivial⟩ (by rfl)
    · skip
      refine ww_iload_n C0 dX4_treaty_46 rfl ?_
      refine ww_aload_n C0 dX4_treaty_47 rfl ?_
      refine ww_get C0 (ci := 4) (C := RX4) (T := TX4) (N := 14) ku_X4 0 rfl rfl 0 (by decide) kw_X4_10 rfl dX4_treaty_48 ?_
      refine ww_getN C0 (ci := 3) (C := RX3) (T := TX3) (N := 2) ku_X3 14 rfl rfl 1 (by decide) kn_X4_76 rfl dX4_treaty_51 ?_
      refine ww_icmp_ge (tgt := 68) C0 dX4_treaty_54 (by decide) (fun h54 => ?_) (fun h54 => ?_)
      · skip
        replace h54 := (nI_leE (a := tn) (b := 1 + 4 * (((tn - 1) / 4))) rfl rfl (by omega) (by omega)).mp h54
        refine ww_aload_n C0 dX4_treaty_68 rfl ?_
        refine ww_iconst (v := (0)) C0 dX4_treaty_69 rfl ?_
        refine ww_put C0 (ci := 4) (C := RX4) (T := TX4) (N := 14) ku_X4 0 rfl rfl 8 (by decide) tyX4 tyX4_ok nmX4 kw_X4_48 rfl (ty := .int) (by decide +kernel) rfl rfl (Nat.le_of_ble_eq_true rfl) dX4_treaty_70 ?_
        simp only [List.set_cons_zero, List.set_cons_succ]
        refine ww_iconst (v := (0)) C0 dX4_treaty_73 rfl ?_
        refine ww_istore_n (i := 1) C0 dX4_treaty_74 rfl (Nat.le_of_ble_eq_true rfl) rfl ?_
        simp only [List.set_cons_zero, List.set_cons_succ]
        refine ww_iload_n C0 dX4_treaty_75 rfl ?_
        refine ww_aload_n C0 dX4_treaty_76 rfl ?_
        refine ww_get C0 (ci := 4) (C := RX4) (T := TX4) (N := 14) ku_X4 0 rfl rfl 10 (by decide) kw_X4_54 rfl dX4_treaty_77 ?_
        refine ww_alen (v := 2) C0 23 1 rfl rfl rfl dX4_treaty_80 ?_
        refine ww_icmp_ge (tgt := 97) C0 dX4_treaty_81 (by decide) (fun h81 => ?_) (fun h81 => ?_)
        · skip
          replace h81 := (nI_leE (a := 2) (b := 0) rfl rfl (by omega) (by omega)).mp h81
          exfalso; omega
        · skip
          replace h81 := (not_congr (nI_leE (a := 2) (b := 0) rfl rfl (by omega) (by omega))).mp h81
          refine ww_aload_n C0 dX4_treaty_84 rfl ?_
          refine ww_get C0 (ci := 4) (C := RX4) (T := TX4) (N := 14) ku_X4 0 rfl rfl 10 (by decide) kw_X4_54 rfl dX4_treaty_85 ?_
          refine ww_iload_n C0 dX4_treaty_88 rfl ?_
          refine ww_iconst (v := (0)) C0 dX4_treaty_89 rfl ?_
          refine ww_zast_n (j := 0) C0 23 1 rfl rfl rfl (by omega) (by decide) dX4_treaty_90 ?_
          simp only [List.set_cons_zero, List.set_cons_succ]
          refine ww_iinc (d := 1) C0 dX4_treaty_91 rfl rfl rfl ?_
          simp only [List.set_cons_zero, List.set_cons_succ]
          refine ww_goto (tgt := 75) C0 dX4_treaty_94 (by decide) ?_
          refine ww_cong (lo' := [_, .int 1]) ?_ (by rfl) rfl rfl
          refine ww_iload_n C0 dX4_treaty_75 rfl ?_
          refine ww_aload_n C0 dX4_treaty_76 rfl ?_
          refine ww_get C0 (ci := 4) (C := RX4) (T := TX4) (N := 14) ku_X4 0 rfl rfl 10 (by decide) kw_X4_54 rfl dX4_treaty_77 ?_
          refine ww_alen (v := 2) C0 23 1 rfl rfl rfl dX4_treaty_80 ?_
          refine ww_icmp_ge (tgt := 97) C0 dX4_treaty_81 (by decide) (fun h81 => ?_) (fun h81 => ?_)
          · skip
            replace h81 := (nI_leE (a := 2) (b := 1) rfl rfl (by omega) (by omega)).mp h81
            exfalso; omega
          · skip
            replace h81 := (not_congr (nI_leE (a := 2) (b := 1) rfl rfl (by omega) (by omega))).mp h81
            refine ww_aload_n C0 dX4_treaty_84 rfl ?_
            refine ww_get C0 (ci := 4) (C := RX4) (T := TX4) (N := 14) ku_X4 0 rfl rfl 10 (by decide) kw_X4_54 rfl dX4_treaty_85 ?_
            refine ww_iload_n C0 dX4_treaty_88 rfl ?_
            refine ww_iconst (v := (0)) C0 dX4_treaty_89 rfl ?_
            refine ww_zast_n (j := 1) C0 23 1 rfl rfl rfl (by omega) (by decide) dX4_treaty_90 ?_
            simp only [List.set_cons_zero, List.set_cons_succ]
            refine ww_iinc (d := 1) C0 dX4_treaty_91 rfl rfl rfl ?_
            simp only [List.set_cons_zero, List.set_cons_succ]
            refine ww_goto (tgt := 75) C0 dX4_treaty_94 (by decide) ?_
            refine ww_cong (lo' := [_, .int 2]) ?_ (by rfl) rfl rfl
            refine ww_iload_n C0 dX4_treaty_75 rfl ?_
            refine ww_aload_n C0 dX4_treaty_76 rfl ?_
            refine ww_get C0 (ci := 4) (C := RX4) (T := TX4) (N := 14) ku_X4 0 rfl rfl 10 (by decide) kw_X4_54 rfl dX4_treaty_77 ?_
            refine ww_alen (v := 2) C0 23 1 rfl rfl rfl dX4_treaty_80 ?_
            refine ww_icmp_ge (tgt := 97) C0 dX4_treaty_81 (by decide) (fun h81 => ?_) (fun h81 => ?_)
            · skip
              replace h81 := (nI_leE (a := 2) (b := 2) rfl rfl (by omega) (by omega)).mp h81
              refine ww_arr 23 (fun _ => 0) rfl (fun k hk => by
                rcases (show k = 0 ∨ k = 1 by omega) with rfl | rfl <;> simp [upd, vp_nar, narrow]) ?_
              simp only [List.set_cons_zero, List.set_cons_succ]
              refine ww_bipush (v := (10)) C0 dX4_treaty_97 rfl ?_
              refine ww_aload_n C0 dX4_treaty_99 rfl ?_
              refine ww_get C0 (ci := 4) (C := RX4) (T := TX4) (N := 14) ku_X4 0 rfl rfl 3 (by decide) kw_X4_27 rfl dX4_treaty_100 ?_
              refine ww_imul C0 dX4_treaty_103 ?_
              refine ww_aload_n C0 dX4_treaty_104 rfl ?_
              refine ww_get C0 (ci := 4) (C := RX4) (T := TX4) (N := 14) ku_X4 0 rfl rfl 1 (by decide) kw_X4_19 rfl dX4_treaty_105 ?_
              refine ww_getN C0 (ci := 0) (C := RX0) (T := TX0) (N := 4) ku_X0 1 rfl rfl 3 (by decide) kn_X4_83 rfl dX4_treaty_108 ?_
              refine ww_iadd C0 dX4_treaty_111 ?_
              exact ww_iret C0 hr dX4_treaty_112 (by rfl) (by rfl)
            · skip
              replace h81 := (not_congr (nI_leE (a := 2) (b := 2) rfl rfl (by omega) (by omega))).mp h81
              exfalso; omega
      · skip
        replace h54 := (not_congr (nI_leE (a := tn) (b := 1 + 4 * (((tn - 1) / 4))) rfl rfl (by omega) (by omega))).mp h54
        exfalso; omega
  · skip
    exact absurd hf h9

set_option maxHeartbeats 4000000 in
set_option maxRecDepth 100000 in
theorem c_X4_actAt (l : Launch) (D : va_G) (cI cZ cQ : ClassId) {aX aT aL aC aN aY aA aO aK aG aW al0 al1 al2 an0 an1 an2 ay0 ay1 ay2 at0 ag0 ag1 ag2 ag3 ag4 : Nat} {nm fa ac na tn gn : Nat} {hN bN hY bY : Int32} {sd : Int64} {fl0 fl1 fl2 fC fn0 fn1 fn2 fy0 fy1 fy2 ft0 fg0 fg1 fg2 fg3 fg4 fW fK : Nat → Int32} {fO fA : Nat → Option Nat} {rest : va_W} {ad : Nat → Nat → Nat} {sv : Nat → SV} {k i : Nat} (hfa : fa < 14) (hk : k < 15) (hA : ∀ j, j < 14 → fA j = some (ad j 0)) (hi : (fa + k) % 14 = i) : MR l D [(cI, .int), (cZ, .boolean), (cQ, .object "MulesRemember$State")] yX4_actAt cX4_actAt 3 (.object "MulesRemember$State") ({ frames := 0, cells := 0, slots := 0, locals := 0 } : Room) [.ref aX, .int (nI k)] ((aX, .inr (4, [.ref aT, .ref aL, .ref aC, .int (nI nm), .ref aN, .ref aY, .ref aA, .int (nI fa), .int (nI ac), .ref aO, .ref aK, .ref aG, .ref aW, .long sd])) :: (aL, .inr (0, [.ref al0, .ref al1, .ref al2, .int (nI na)])) :: (al0, .inl (cI, 5, .inl (fl0))) :: (al1, .inl (cI, 5, .inl (fl1))) :: (al2, .inl (cI, 5, .inl (fl2))) :: (aC, .inl (cI, 5, .inl (fC))) :: (aN, .inr (2, [.ref an0, .ref an1, .ref an2, .int hN, .int bN])) :: (an0, .inl (cI, 5, .inl (fn0))) :: (an1, .inl (cI, 5, .inl (fn1))) :: (an2, .inl (cI, 5, .inl (fn2))) :: (aY, .inr (2, [.ref ay0, .ref ay1, .ref ay2, .int hY, .int bY])) :: (ay0, .inl (cI, 5, .inl (fy0))) :: (ay1, .inl (cI, 5, .inl (fy1))) :: (ay2, .inl (cI, 5, .inl (fy2))) :: (aT, .inr (3, [.ref at0, .int (nI tn)])) :: (at0, .inl (cI, 48, .inl (ft0))) :: (aG, .inr (1, [.ref ag0, .ref ag1, .ref ag2, .ref ag3, .ref ag4, .int (nI gn)])) :: (ag0, .inl (cI, 6, .inl (fg0))) :: (ag1, .inl (cI, 6, .inl (fg1))) :: (ag2, .inl (cI, 6, .inl (fg2))) :: (ag3, .inl (cI, 6, .inl (fg3))) :: (ag4, .inl (cI, 6, .inl (fg4))) :: (aW, .inl (cI, 6, .inl (fW))) :: (aK, .inl (cZ, 2, .inl (fK))) :: (aO, .inl (cQ, 2, .inr (.inr (.inr (.inr (fO)))))) :: (aA, .inl (cQ, 14, .inr (.inr (.inr (.inr (fA)))))) :: (pool cI ad sv 16 ++ rest)) ((ad i 0)) ((aX, .inr (4, [.ref aT, .ref aL, .ref aC, .int (nI nm), .ref aN, .ref aY, .ref aA, .int (nI fa), .int (nI ac), .ref aO, .ref aK, .ref aG, .ref aW, .long sd])) :: (aL, .inr (0, [.ref al0, .ref al1, .ref al2, .int (nI na)])) :: (al0, .inl (cI, 5, .inl (fl0))) :: (al1, .inl (cI, 5, .inl (fl1))) :: (al2, .inl (cI, 5, .inl (fl2))) :: (aC, .inl (cI, 5, .inl (fC))) :: (aN, .inr (2, [.ref an0, .ref an1, .ref an2, .int hN, .int bN])) :: (an0, .inl (cI, 5, .inl (fn0))) :: (an1, .inl (cI, 5, .inl (fn1))) :: (an2, .inl (cI, 5, .inl (fn2))) :: (aY, .inr (2, [.ref ay0, .ref ay1, .ref ay2, .int hY, .int bY])) :: (ay0, .inl (cI, 5, .inl (fy0))) :: (ay1, .inl (cI, 5, .inl (fy1))) :: (ay2, .inl (cI, 5, .inl (fy2))) :: (aT, .inr (3, [.ref at0, .int (nI tn)])) :: (at0, .inl (cI, 48, .inl (ft0))) :: (aG, .inr (1, [.ref ag0, .ref ag1, .ref ag2, .ref ag3, .ref ag4, .int (nI gn)])) :: (ag0, .inl (cI, 6, .inl (fg0))) :: (ag1, .inl (cI, 6, .inl (fg1))) :: (ag2, .inl (cI, 6, .inl (fg2))) :: (ag3, .inl (cI, 6, .inl (fg3))) :: (ag4, .inl (cI, 6, .inl (fg4))) :: (aW, .inl (cI, 6, .inl (fW))) :: (aK, .inl (cZ, 2, .inl (fK))) :: (aO, .inl (cQ, 2, .inr (.inr (.inr (.inr (fO)))))) :: (aA, .inl (cQ, 14, .inr (.inr (.inr (.inr (fA)))))) :: (pool cI ad sv 16 ++ rest)) := by
  refine MR.of [.ref aX, .int (nI k), .null] (by decide) (Nat.le_of_ble_eq_true rfl) rfl ?_
  intro p e s m below meth c A C0 hr
  refine ww_aload_n C0 dX4_actAt_0 rfl ?_
  refine ww_get C0 (ci := 4) (C := RX4) (T := TX4) (N := 14) ku_X4 0 rfl rfl 7 (by decide) kw_X4_45 rfl dX4_actAt_1 ?_
  refine ww_iload_n C0 dX4_actAt_4 rfl ?_
  refine ww_iadd C0 dX4_actAt_5 ?_
  refine ww_bipush (v := (14)) C0 dX4_actAt_6 rfl ?_
  refine ww_irem C0 dX4_actAt_8 (by decide) ?_
  refine ww_istore_n (i := 2) C0 dX4_actAt_9 rfl (Nat.le_of_ble_eq_true rfl) rfl ?_
  simp only [List.set_cons_zero, List.set_cons_succ]
  refine ww_iload_n C0 dX4_actAt_10 rfl ?_
  refine ww_if_lt (tgt := 32) C0 dX4_actAt_11 (by decide) (fun h11 => ?_) (fun h11 => ?_)
  · skip
    replace h11 := (nI_ltE (a := (fa + k) % 14) (b := 0) (nI_remE (a := fa + k) (b := 14) (nI_addE (a := fa) (b := k) rfl rfl) rfl (by omega) (by omega) (by omega)) rfl (by omega) (by omega)).mp h11
    exfalso; omega
  · skip
    replace h11 := (not_congr (nI_ltE (a := (fa + k) % 14) (b := 0) (nI_remE (a := fa + k) (b := 14) (nI_addE (a := fa) (b := k) rfl rfl) rfl (by omega) (by omega) (by omega)) rfl (by omega) (by omega))).mp h11
    refine ww_iload_n C0 dX4_actAt_14 rfl ?_
    refine ww_aload_n C0 dX4_actAt_15 rfl ?_
    refine ww_get C0 (ci := 4) (C := RX4) (T := TX4) (N := 14) ku_X4 0 rfl rfl 6 (by decide) kw_X4_41 rfl dX4_actAt_16 ?_
    refine ww_alen (v := 14) C0 25 2 rfl rfl rfl dX4_actAt_19 ?_
    refine ww_icmp_ge (tgt := 32) C0 dX4_actAt_20 (by decide) (fun h20 => ?_) (fun h20 => ?_)
    · skip
      replace h20 := (nI_leE (a := 14) (b := (fa + k) % 14) rfl (nI_remE (a := fa + k) (b := 14) (nI_addE (a := fa) (b := k) rfl rfl) rfl (by omega) (by omega) (by omega)) (by omega) (by omega)).mp h20
      exfalso; omega
    · skip
      replace h20 := (not_congr (nI_leE (a := 14) (b := (fa + k) % 14) rfl (nI_remE (a := fa + k) (b := 14) (nI_addE (a := fa) (b := k) rfl rfl) rfl (by omega) (by omega) (by omega)) (by omega) (by omega))).mp h20
      refine ww_aload_n C0 dX4_actAt_23 rfl ?_
      refine ww_get C0 (ci := 4) (C := RX4) (T := TX4) (N := 14) ku_X4 0 rfl rfl 6 (by decide) kw_X4_41 rfl dX4_actAt_24 ?_
      refine ww_iload_n C0 dX4_actAt_27 rfl ?_
      refine ww_aald (j := i) (b := (ad i 0)) C0 25 2 rfl rfl ((nI_remE (a := fa + k) (b := 14) (nI_addE (a := fa) (b := k) rfl rfl) rfl (by omega) (by omega) (by omega)).trans (congrArg nI hi)) (by omega) (by decide) (hA i (by omega)) dX4_actAt_28 ?_
      refine ww_goto (tgt := 33) C0 dX4_actAt_29 (by decide) ?_
      exact ww_aret C0 hr dX4_actAt_33 (by rfl) (by rfl)

set_option maxHeartbeats 4000000 in
set_option maxRecDepth 100000 in
theorem c_X4_rememberAct (l : Launch) (D : va_G) (cI cZ cQ : ClassId) {aX aT aL aC aN aY aA aO aK aG aW al0 al1 al2 an0 an1 an2 ay0 ay1 ay2 at0 ag0 ag1 ag2 ag3 ag4 : Nat} {nm fa ac na tn gn : Nat} {hN bN hY bY : Int32} {sd : Int64} {fl0 fl1 fl2 fC fn0 fn1 fn2 fy0 fy1 fy2 ft0 fg0 fg1 fg2 fg3 fg4 fW fK : Nat → Int32} {fO fA : Nat → Option Nat} {rest : va_W} {ad : Nat → Nat → Nat} {sv : Nat → SV} (hfa : fa < 14) (hac : ac ≤ 14) (hA : ∀ j, j < 14 → fA j = some (ad j 0)) : MV l D [(cI, .int), (cZ, .boolean), (cQ, .object "MulesRemember$State")] yX4_rememberAct cX4_rememberAct 1 ({ frames := 1, cells := 0, slots := 0, locals := 22 } : Room) [.ref aX] ((aX, .inr (4, [.ref aT, .ref aL, .ref aC, .int (nI nm), .ref aN, .ref aY, .ref aA, .int (nI fa), .int (nI ac), .ref aO, .ref aK, .ref aG, .ref aW, .long sd])) :: (aL, .inr (0, [.ref al0, .ref al1, .ref al2, .int (nI na)])) :: (al0, .inl (cI, 5, .inl (fl0))) :: (al1, .inl (cI, 5, .inl (fl1))) :: (al2, .inl (cI, 5, .inl (fl2))) :: (aC, .inl (cI, 5, .inl (fC))) :: (aN, .inr (2, [.ref an0, .ref an1, .ref an2, .int hN, .int bN])) :: (an0, .inl (cI, 5, .inl (fn0))) :: (an1, .inl (cI, 5, .inl (fn1))) :: (an2, .inl (cI, 5, .inl (fn2))) :: (aY, .inr (2, [.ref ay0, .ref ay1, .ref ay2, .int hY, .int bY])) :: (ay0, .inl (cI, 5, .inl (fy0))) :: (ay1, .inl (cI, 5, .inl (fy1))) :: (ay2, .inl (cI, 5, .inl (fy2))) :: (aT, .inr (3, [.ref at0, .int (nI tn)])) :: (at0, .inl (cI, 48, .inl (ft0))) :: (aG, .inr (1, [.ref ag0, .ref ag1, .ref ag2, .ref ag3, .ref ag4, .int (nI gn)])) :: (ag0, .inl (cI, 6, .inl (fg0))) :: (ag1, .inl (cI, 6, .inl (fg1))) :: (ag2, .inl (cI, 6, .inl (fg2))) :: (ag3, .inl (cI, 6, .inl (fg3))) :: (ag4, .inl (cI, 6, .inl (fg4))) :: (aW, .inl (cI, 6, .inl (fW))) :: (aK, .inl (cZ, 2, .inl (fK))) :: (aO, .inl (cQ, 2, .inr (.inr (.inr (.inr (fO)))))) :: (aA, .inl (cQ, 14, .inr (.inr (.inr (.inr (fA)))))) :: (pool cI ad sv 16 ++ rest)) ((aX, .inr (4, [.ref aT, .ref aL, .ref aC, .int (nI nm), .ref aN, .ref aY, .ref aA, .int (nI (rf fa ac)), .int (nI (ra ac)), .ref aO, .ref aK, .ref aG, .ref aW, .long sd])) :: (aL, .inr (0, [.ref al0, .ref al1, .ref al2, .int (nI na)])) :: (al0, .inl (cI, 5, .inl (fl0))) :: (al1, .inl (cI, 5, .inl (fl1))) :: (al2, .inl (cI, 5, .inl (fl2))) :: (aC, .inl (cI, 5, .inl (fC))) :: (aN, .inr (2, [.ref an0, .ref an1, .ref an2, .int hN, .int bN])) :: (an0, .inl (cI, 5, .inl (fn0))) :: (an1, .inl (cI, 5, .inl (fn1))) :: (an2, .inl (cI, 5, .inl (fn2))) :: (aY, .inr (2, [.ref ay0, .ref ay1, .ref ay2, .int hY, .int bY])) :: (ay0, .inl (cI, 5, .inl (fy0))) :: (ay1, .inl (cI, 5, .inl (fy1))) :: (ay2, .inl (cI, 5, .inl (fy2))) :: (aT, .inr (3, [.ref at0, .int (nI tn)])) :: (at0, .inl (cI, 48, .inl (ft0))) :: (aG, .inr (1, [.ref ag0, .ref ag1, .ref ag2, .ref ag3, .ref ag4, .int (nI gn)])) :: (ag0, .inl (cI, 6, .inl (fg0))) :: (ag1, .inl (cI, 6, .inl (fg1))) :: (ag2, .inl (cI, 6, .inl (fg2))) :: (ag3, .inl (cI, 6, .inl (fg3))) :: (ag4, .inl (cI, 6, .inl (fg4))) :: (aW, .inl (cI, 6, .inl (fW))) :: (aK, .inl (cZ, 2, .inl (fK))) :: (aO, .inl (cQ, 2, .inr (.inr (.inr (.inr (fO)))))) :: (aA, .inl (cQ, 14, .inr (.inr (.inr (.inr (fA)))))) :: (pool cI ad (va_up sv (ri fa ac) (fn0, fn1, fn2, hN, bN)) 16 ++ rest)) := by
  refine MV.of [.ref aX] (by decide) (Nat.le_of_ble_eq_true rfl) rfl ?_
  intro p e s m below meth c A C0 hr
  refine ww_aload_n C0 dX4_rememberAct_0 rfl ?_
  refine ww_get C0 (ci := 4) (C := RX4) (T := TX4) (N := 14) ku_X4 0 rfl rfl 8 (by decide) kw_X4_48 rfl dX4_rememberAct_1 ?_
  refine ww_bipush (v := (14)) C0 dX4_rememberAct_4 rfl ?_
  refine ww_icmp_ne (tgt := 32) C0 dX4_rememberAct_6 (by decide) (fun h6 => ?_) (fun h6 => ?_)
  · skip
    replace h6 := (not_congr (nI_eqE (a := ac) (b := 14) rfl rfl (by omega) (by omega))).mp h6
    have h6z : ¬ ac = 14 := h6
    have hi : (fa + ac) % 14 = ri fa ac := by unfold ri; split <;> omega
    refine ww_aload_n C0 dX4_rememberAct_32 rfl ?_
    refine ww_get C0 (ci := 4) (C := RX4) (T := TX4) (N := 14) ku_X4 0 rfl rfl 4 (by decide) kw_X4_34 rfl dX4_rememberAct_33 ?_
    refine ww_aload_n C0 dX4_rememberAct_36 rfl ?_
    refine ww_aload_n C0 dX4_rememberAct_37 rfl ?_
    refine ww_get C0 (ci := 4) (C := RX4) (T := TX4) (N := 14) ku_X4 0 rfl rfl 8 (by decide) kw_X4_48 rfl dX4_rememberAct_38 ?_
    refine ww_callVr C0 (qc := (RX4, TX4, 14)) 0 4 (c_X4_actAt l D cI cZ cQ (by omega) (by omega) hA hi) kd_X4_actAt kw_X4_157 km_X4_actAt kl_X4_actAt ki_X4 hd_X4_actAt rfl rfl ⟨Nat.le_of_ble_eq_true rfl, Nat.le_of_ble_eq_true rfl, rfl, rfl⟩ (Nat.le_of_ble_eq_true rfl) dX4_rememberAct_41 rfl rfl rfl ⟨Nat.zero_le _, Nat.zero_le _⟩ ?_
    refine ww_perm (perm_mv 0 6 4 _) ?_
    simp only [List.drop_succ_cons, List.drop_zero, List.take_succ_cons, List.take_zero, List.cons_append, List.nil_append, Nat.reduceAdd]
    refine ww_perm (perm_out 4 22 (i := (ri fa ac)) (n := 16) (Nat.lt_trans (ri_lt hfa) (by decide)) rfl) ?_
    simp only [List.drop_succ_cons, List.drop_zero, List.take_succ_cons, List.take_zero, List.cons_append, List.nil_append, stc, Nat.reduceAdd]
    refine ww_callSv C0 (c_X4_copyState l D cI cZ cQ) kd_X4_copyState kw_X4_161 ks_X4_copyState ki_X4 hd_X4_copyState ⟨Nat.le_of_ble_eq_true rfl, Nat.le_of_ble_eq_true rfl, rfl, rfl⟩ (Nat.le_of_ble_eq_true rfl) dX4_rememberAct_44 rfl rfl ⟨Nat.zero_le _, Nat.zero_le _⟩ ?_
    refine ww_perm (perm_in 4 22 (i := (ri fa ac)) (n := 16) (sv := _) (fn0, fn1, fn2, hN, bN) (Nat.lt_trans (ri_lt hfa) (by decide)) rfl rfl) ?_
    simp only [List.drop_succ_cons, List.drop_zero, List.take_succ_cons, List.take_zero, List.cons_append, List.nil_append, stc, Nat.reduceAdd]
    refine ww_perm (perm_mv 0 4 6 _) ?_
    simp only [List.drop_succ_cons, List.drop_zero, List.take_succ_cons, List.take_zero, List.cons_append, List.nil_append, Nat.reduceAdd]
    refine ww_aload_n C0 dX4_rememberAct_47 rfl ?_
    refine ww_dup C0 dX4_rememberAct_48 rfl ?_
    refine ww_get C0 (ci := 4) (C := RX4) (T := TX4) (N := 14) ku_X4 0 rfl rfl 8 (by decide) kw_X4_48 rfl dX4_rememberAct_49 ?_
    refine ww_iconst (v := (1)) C0 dX4_rememberAct_52 rfl ?_
    refine ww_iadd C0 dX4_rememberAct_53 ?_
    refine ww_put C0 (ci := 4) (C := RX4) (T := TX4) (N := 14) ku_X4 0 rfl rfl 8 (by decide) tyX4 tyX4_ok nmX4 kw_X4_48 rfl (ty := .int) (by decide +kernel) rfl rfl (Nat.le_of_ble_eq_true rfl) dX4_rememberAct_54 ?_
    simp only [List.set_cons_zero, List.set_cons_succ]
    exact ww_vret C0 hr dX4_rememberAct_57 (by simp [rf, ra, nI_1, *])
  · skip
    replace h6 := (nI_eqE (a := ac) (b := 14) rfl rfl (by omega) (by omega)).mp h6
    refine ww_aload_n C0 dX4_rememberAct_9 rfl ?_
    refine ww_aload_n C0 dX4_rememberAct_10 rfl ?_
    refine ww_get C0 (ci := 4) (C := RX4) (T := TX4) (N := 14) ku_X4 0 rfl rfl 7 (by decide) kw_X4_45 rfl dX4_rememberAct_11 ?_
    refine ww_iconst (v := (1)) C0 dX4_rememberAct_14 rfl ?_
    refine ww_iadd C0 dX4_rememberAct_15 ?_
    refine ww_bipush (v := (14)) C0 dX4_rememberAct_16 rfl ?_
    refine ww_irem C0 dX4_rememberAct_18 (by decide) ?_
    refine ww_top (nI_remE (a := fa + 1) (b := 14) (nI_addE (a := fa) (b := 1) rfl rfl) rfl (by omega) (by omega) (by omega)) ?_
    refine ww_put C0 (ci := 4) (C := RX4) (T := TX4) (N := 14) ku_X4 0 rfl rfl 7 (by decide) tyX4 tyX4_ok nmX4 kw_X4_45 rfl (ty := .int) (by decide +kernel) rfl rfl (Nat.le_of_ble_eq_true rfl) dX4_rememberAct_19 ?_
    simp only [List.set_cons_zero, List.set_cons_succ]
    refine ww_aload_n C0 dX4_rememberAct_22 rfl ?_
    refine ww_dup C0 dX4_rememberAct_23 rfl ?_
    refine ww_get C0 (ci := 4) (C := RX4) (T := TX4) (N := 14) ku_X4 0 rfl rfl 8 (by decide) kw_X4_48 rfl dX4_rememberAct_24 ?_
    refine ww_iconst (v := (1)) C0 dX4_rememberAct_27 rfl ?_
    refine ww_isub C0 dX4_rememberAct_28 ?_
    refine ww_top (nI_subE (a := ac) (b := 1) rfl rfl (by omega)) ?_
    refine ww_put C0 (ci := 4) (C := RX4) (T := TX4) (N := 14) ku_X4 0 rfl rfl 8 (by decide) tyX4 tyX4_ok nmX4 kw_X4_48 rfl (ty := .int) (by decide +kernel) rfl rfl (Nat.le_of_ble_eq_true rfl) dX4_rememberAct_29 ?_
    simp only [List.set_cons_zero, List.set_cons_succ]
    have hi : (((fa + 1) % 14) + (ac - 1)) % 14 = ri fa ac := by unfold ri; split <;> omega
    refine ww_aload_n C0 dX4_rememberAct_32 rfl ?_
    refine ww_get C0 (ci := 4) (C := RX4) (T := TX4) (N := 14) ku_X4 0 rfl rfl 4 (by decide) kw_X4_34 rfl dX4_rememberAct_33 ?_
    refine ww_aload_n C0 dX4_rememberAct_36 rfl ?_
    refine ww_aload_n C0 dX4_rememberAct_37 rfl ?_
    refine ww_get C0 (ci := 4) (C := RX4) (T := TX4) (N := 14) ku_X4 0 rfl rfl 8 (by decide) kw_X4_48 rfl dX4_rememberAct_38 ?_
    refine ww_callVr C0 (qc := (RX4, TX4, 14)) 0 4 (c_X4_actAt l D cI cZ cQ (by omega) (by omega) hA hi) kd_X4_actAt kw_X4_157 km_X4_actAt kl_X4_actAt ki_X4 hd_X4_actAt rfl rfl ⟨Nat.le_of_ble_eq_true rfl, Nat.le_of_ble_eq_true rfl, rfl, rfl⟩ (Nat.le_of_ble_eq_true rfl) dX4_rememberAct_41 rfl rfl rfl ⟨Nat.zero_le _, Nat.zero_le _⟩ ?_
    refine ww_perm (perm_mv 0 6 4 _) ?_
    simp only [List.drop_succ_cons, List.drop_zero, List.take_succ_cons, List.take_zero, List.cons_append, List.nil_append, Nat.reduceAdd]
    refine ww_perm (perm_out 4 22 (i := (ri fa ac)) (n := 16) (Nat.lt_trans (ri_lt hfa) (by decide)) rfl) ?_
    simp only [List.drop_succ_cons, List.drop_zero, List.take_succ_cons, List.take_zero, List.cons_append, List.nil_append, stc, Nat.reduceAdd]
    refine ww_callSv C0 (c_X4_copyState l D cI cZ cQ) kd_X4_copyState kw_X4_161 ks_X4_copyState ki_X4 hd_X4_copyState ⟨Nat.le_of_ble_eq_true rfl, Nat.le_of_ble_eq_true rfl, rfl, rfl⟩ (Nat.le_of_ble_eq_true rfl) dX4_rememberAct_44 rfl rfl ⟨Nat.zero_le _, Nat.zero_le _⟩ ?_
    refine ww_perm (perm_in 4 22 (i := (ri fa ac)) (n := 16) (sv := _) (fn0, fn1, fn2, hN, bN) (Nat.lt_trans (ri_lt hfa) (by decide)) rfl rfl) ?_
    simp only [List.drop_succ_cons, List.drop_zero, List.take_succ_cons, List.take_zero, List.cons_append, List.nil_append, stc, Nat.reduceAdd]
    refine ww_perm (perm_mv 0 4 6 _) ?_
    simp only [List.drop_succ_cons, List.drop_zero, List.take_succ_cons, List.take_zero, List.cons_append, List.nil_append, Nat.reduceAdd]
    refine ww_aload_n C0 dX4_rememberAct_47 rfl ?_
    refine ww_dup C0 dX4_rememberAct_48 rfl ?_
    refine ww_get C0 (ci := 4) (C := RX4) (T := TX4) (N := 14) ku_X4 0 rfl rfl 8 (by decide) kw_X4_48 rfl dX4_rememberAct_49 ?_
    refine ww_iconst (v := (1)) C0 dX4_rememberAct_52 rfl ?_
    refine ww_iadd C0 dX4_rememberAct_53 ?_
    refine ww_put C0 (ci := 4) (C := RX4) (T := TX4) (N := 14) ku_X4 0 rfl rfl 8 (by decide) tyX4 tyX4_ok nmX4 kw_X4_48 rfl (ty := .int) (by decide +kernel) rfl rfl (Nat.le_of_ble_eq_true rfl) dX4_rememberAct_54 ?_
    simp only [List.set_cons_zero, List.set_cons_succ]
    exact ww_vret C0 hr dX4_rememberAct_57 (by simp [rf, ra, nI_1, *])
