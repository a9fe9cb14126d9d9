set_option maxHeartbeats 4000000 in
set_option maxRecDepth 100000 in
theorem c_J6_bitCount_0f7a4 (l : Launch) (D : va_G) (cI cZ cQ : ClassId) {rest : va_W} {x : Int32} : MI l D [(cI, .int), (cZ, .boolean), (cQ, .object "MulesRemember$State")] yJ6_bitCount_0f7a4 cJ6_bitCount_0f7a4 1 .int ({ frames := 0, cells := 0, slots := 0, locals := 0 } : Room) [.int x] (rest) (sBC x) (rest) := by
  refine MI.of [.int x] (by decide) (Nat.le_of_ble_eq_true rfl) rfl ?_
  intro p e s m below meth c A C0 hr
  refine ww_iload_n C0 dJ6_bitCount_0f7a4_0 rfl ?_
  refine ww_iload_n C0 dJ6_bitCount_0f7a4_1 rfl ?_
  refine ww_iconst (v := (1)) C0 dJ6_bitCount_0f7a4_2 rfl ?_
  refine ww_iushr C0 dJ6_bitCount_0f7a4_3 ?_
  refine ww_ldcw C0 kw_J6_265 dJ6_bitCount_0f7a4_4 ?_
  refine ww_iand C0 dJ6_bitCount_0f7a4_7 ?_
  refine ww_isub C0 dJ6_bitCount_0f7a4_8 ?_
  refine ww_istore_n (i := 0) C0 dJ6_bitCount_0f7a4_9 rfl (Nat.le_of_ble_eq_true rfl) rfl ?_
  simp only [List.set_cons_zero, List.set_cons_succ]
  refine ww_iload_n C0 dJ6_bitCount_0f7a4_10 rfl ?_
  refine ww_ldcw C0 kw_J6_266 dJ6_bitCount_0f7a4_11 ?_
  refine ww_iand C0 dJ6_bitCount_0f7a4_14 ?_
  refine ww_iload_n C0 dJ6_bitCount_0f7a4_15 rfl ?_
  refine ww_iconst (v := (2)) C0 dJ6_bitCount_0f7a4_16 rfl ?_
  refine ww_iushr C0 dJ6_bitCount_0f7a4_17 ?_
  refine ww_ldcw C0 kw_J6_266 dJ6_bitCount_0f7a4_18 ?_
  refine ww_iand C0 dJ6_bitCount_0f7a4_21 ?_
  refine ww_iadd C0 dJ6_bitCount_0f7a4_22 ?_
  refine ww_istore_n (i := 0) C0 dJ6_bitCount_0f7a4_23 rfl (Nat.le_of_ble_eq_true rfl) rfl ?_
  simp only [List.set_cons_zero, List.set_cons_succ]
  refine ww_iload_n C0 dJ6_bitCount_0f7a4_24 rfl ?_
  refine ww_iload_n C0 dJ6_bitCount_0f7a4_25 rfl ?_
  refine ww_iconst (v := (4)) C0 dJ6_bitCount_0f7a4_26 rfl ?_
  refine ww_iushr C0 dJ6_bitCount_0f7a4_27 ?_
  refine ww_iadd C0 dJ6_bitCount_0f7a4_28 ?_
  refine ww_ldcw C0 kw_J6_267 dJ6_bitCount_0f7a4_29 ?_
  refine ww_iand C0 dJ6_bitCount_0f7a4_32 ?_
  refine ww_istore_n (i := 0) C0 dJ6_bitCount_0f7a4_33 rfl (Nat.le_of_ble_eq_true rfl) rfl ?_
  simp only [List.set_cons_zero, List.set_cons_succ]
  refine ww_iload_n C0 dJ6_bitCount_0f7a4_34 rfl ?_
  refine ww_iload_n C0 dJ6_bitCount_0f7a4_35 rfl ?_
  refine ww_bipush (v := (8)) C0 dJ6_bitCount_0f7a4_36 rfl ?_
  refine ww_iushr C0 dJ6_bitCount_0f7a4_38 ?_
  refine ww_iadd C0 dJ6_bitCount_0f7a4_39 ?_
  refine ww_istore_n (i := 0) C0 dJ6_bitCount_0f7a4_40 rfl (Nat.le_of_ble_eq_true rfl) rfl ?_
  simp only [List.set_cons_zero, List.set_cons_succ]
  refine ww_iload_n C0 dJ6_bitCount_0f7a4_41 rfl ?_
  refine ww_iload_n C0 dJ6_bitCount_0f7a4_42 rfl ?_
  refine ww_bipush (v := (16)) C0 dJ6_bitCount_0f7a4_43 rfl ?_
  refine ww_iushr C0 dJ6_bitCount_0f7a4_45 ?_
  refine ww_iadd C0 dJ6_bitCount_0f7a4_46 ?_
  refine ww_istore_n (i := 0) C0 dJ6_bitCount_0f7a4_47 rfl (Nat.le_of_ble_eq_true rfl) rfl ?_
  simp only [List.set_cons_zero, List.set_cons_succ]
  refine ww_iload_n C0 dJ6_bitCount_0f7a4_48 rfl ?_
  refine ww_bipush (v := (63)) C0 dJ6_bitCount_0f7a4_49 rfl ?_
  refine ww_iand C0 dJ6_bitCount_0f7a4_51 ?_
  exact ww_iret C0 hr dJ6_bitCount_0f7a4_52 (by rfl) (by rfl)

set_option maxHeartbeats 4000000 in
set_option maxRecDepth 100000 in
theorem c_X4_copyState (l : Launch) (D : va_G) (cI cZ cQ : ClassId) {aF af0 af1 af2 aE ae0 ae1 ae2 : Nat} {hF bF hE bE : Int32} {ff0 ff1 ff2 fe0 fe1 fe2 : Nat → Int32} {rest : va_W} : MV l D [(cI, .int), (cZ, .boolean), (cQ, .object "MulesRemember$State")] yX4_copyState cX4_copyState 3 ({ frames := 0, cells := 0, slots := 0, locals := 0 } : Room) [.ref aF, .ref aE] ((aF, .inr (2, [.ref af0, .ref af1, .ref af2, .int hF, .int bF])) :: (af0, .inl (cI, 5, .inl (ff0))) :: (af1, .inl (cI, 5, .inl (ff1))) :: (af2, .inl (cI, 5, .inl (ff2))) :: (aE, .inr (2, [.ref ae0, .ref ae1, .ref ae2, .int hE, .int bE])) :: (ae0, .inl (cI, 5, .inl (fe0))) :: (ae1, .inl (cI, 5, .inl (fe1))) :: (ae2, .inl (cI, 5, .inl (fe2))) :: rest) ((aF, .inr (2, [.ref af0, .ref af1, .ref af2, .int hF, .int bF])) :: (af0, .inl (cI, 5, .inl (ff0))) :: (af1, .inl (cI, 5, .inl (ff1))) :: (af2, .inl (cI, 5, .inl (ff2))) :: (aE, .inr (2, [.ref ae0, .ref ae1, .ref ae2, .int hF, .int bF])) :: (ae0, .inl (cI, 5, .inl (ff0))) :: (ae1, .inl (cI, 5, .inl (ff1))) :: (ae2, .inl (cI, 5, .inl (ff2))) :: rest) := by
  refine MV.of [.ref aF, .ref aE, .null] (by decide) (Nat.le_of_ble_eq_true rfl) rfl ?_
  intro p e s m below meth c A C0 hr
  refine ww_aload_n C0 dX4_copyState_0 rfl ?_
  refine ww_ifnull C0 dX4_copyState_1 ?_
  refine ww_aload_n C0 dX4_copyState_4 rfl ?_
  refine ww_ifnonnull (tgt := 9) C0 dX4_copyState_5 (by decide) ?_
  refine ww_iconst (v := (0)) C0 dX4_copyState_9 rfl ?_
  refine ww_istore_n (i := 2) C0 dX4_copyState_10 rfl (Nat.le_of_ble_eq_true rfl) rfl ?_
  simp only [List.set_cons_zero, List.set_cons_succ]
  refine ww_back (ww_loop (pc := 11) 0 (5) (by omega) (fun j => [_, _, .int (nI j)]) (fun j => (aF, .inr (2, [.ref af0, .ref af1, .ref af2, .int hF, .int bF])) :: (af0, .inl (cI, 5, .inl (ff0))) :: (af1, .inl (cI, 5, .inl (ff1))) :: (af2, .inl (cI, 5, .inl (ff2))) :: (aE, .inr (2, [.ref ae0, .ref ae1, .ref ae2, .int hE, .int bE])) :: (ae0, .inl (cI, 5, .inl (cpyF ff0 fe0 j))) :: (ae1, .inl (cI, 5, .inl (cpyF ff1 fe1 j))) :: (ae2, .inl (cI, 5, .inl (cpyF ff2 fe2 j))) :: rest) ?_ ?_) ⟨Or.inr rfl, Or.inr rfl, Or.inr rfl, trivial⟩ (by simp only [cpyF_0])
  · intro j hj0 hj ih
    refine ww_iload_n C0 dX4_copyState_11 rfl ?_
    refine ww_iconst (v := (5)) C0 dX4_copyState_12 rfl ?_
    refine ww_icmp_ge (tgt := 58) C0 dX4_copyState_13 (by decide) (fun h13 => ?_) (fun h13 => ?_)
    · skip
      replace h13 := (nI_leE (a := 5) (b := j) rfl rfl (by omega) (by omega)).mp h13
      exfalso; omega
    · skip
      replace h13 := (not_congr (nI_leE (a := 5) (b := j) rfl rfl (by omega) (by omega))).mp h13
      refine ww_aload_n C0 dX4_copyState_16 rfl ?_
      refine ww_getN C0 (ci := 2) (C := RX2) (T := TX2) (N := 5) ku_X2 4 rfl rfl 0 (by decide) kn_X4_116 rfl dX4_copyState_17 ?_
      refine ww_iload_n C0 dX4_copyState_20 rfl ?_
      refine ww_aload_n C0 dX4_copyState_21 rfl ?_
      refine ww_getN C0 (ci := 2) (C := RX2) (T := TX2) (N := 5) ku_X2 0 rfl rfl 0 (by decide) kn_X4_116 rfl dX4_copyState_22 ?_
      refine ww_iload_n C0 dX4_copyState_25 rfl ?_
      refine ww_iald_n (j := j) C0 1 0 rfl rfl rfl (by omega) (by decide) dX4_copyState_26 ?_
      refine ww_iast_n (j := j) C0 5 0 rfl rfl rfl (by omega) (by decide) dX4_copyState_27 ?_
      simp only [List.set_cons_zero, List.set_cons_succ]
      refine ww_aload_n C0 dX4_copyState_28 rfl ?_
      refine ww_getN C0 (ci := 2) (C := RX2) (T := TX2) (N := 5) ku_X2 4 rfl rfl 1 (by decide) kn_X4_117 rfl dX4_copyState_29 ?_
      refine ww_iload_n C0 dX4_copyState_32 rfl ?_
      refine ww_aload_n C0 dX4_copyState_33 rfl ?_
      refine ww_getN C0 (ci := 2) (C := RX2) (T := TX2) (N := 5) ku_X2 0 rfl rfl 1 (by decide) kn_X4_117 rfl dX4_copyState_34 ?_
      refine ww_iload_n C0 dX4_copyState_37 rfl ?_
      refine ww_iald_n (j := j) C0 2 0 rfl rfl rfl (by omega) (by decide) dX4_copyState_38 ?_
      refine ww_iast_n (j := j) C0 6 0 rfl rfl rfl (by omega) (by decide) dX4_copyState_39 ?_
      simp only [List.set_cons_zero, List.set_cons_succ]
      refine ww_aload_n C0 dX4_copyState_40 rfl ?_
      refine ww_getN C0 (ci := 2) (C := RX2) (T := TX2) (N := 5) ku_X2 4 rfl rfl 2 (by decide) kn_X4_120 rfl dX4_copyState_41 ?_
      refine ww_iload_n C0 dX4_copyState_44 rfl ?_
      refine ww_aload_n C0 dX4_copyState_45 rfl ?_
      refine ww_getN C0 (ci := 2) (C := RX2) (T := TX2) (N := 5) ku_X2 0 rfl rfl 2 (by decide) kn_X4_120 rfl dX4_copyState_46 ?_
      refine ww_iload_n C0 dX4_copyState_49 rfl ?_
      refine ww_iald_n (j := j) C0 3 0 rfl rfl rfl (by omega) (by decide) dX4_copyState_50 ?_
      refine ww_iast_n (j := j) C0 7 0 rfl rfl rfl (by omega) (by decide) dX4_copyState_51 ?_
      simp only [List.set_cons_zero, List.set_cons_succ]
      refine ww_iinc (d := 1) C0 dX4_copyState_52 rfl rfl rfl ?_
      simp only [List.set_cons_zero, List.set_cons_succ]
      refine ww_goto (tgt := 11) C0 dX4_copyState_55 (by decide) ?_
      exact ww_back ih ⟨Or.inr rfl, Or.inr rfl, Or.inr (congrArg Value.int (nI_addE (a := j) (b := 1) rfl rfl).symm), trivial⟩ (by simp only [cpyF_s])
  · skip
    refine ww_iload_n C0 dX4_copyState_11 rfl ?_
    refine ww_iconst (v := (5)) C0 dX4_copyState_12 rfl ?_
    refine ww_icmp_ge (tgt := 58) C0 dX4_copyState_13 (by decide) (fun h13 => ?_) (fun h13 => ?_)
    · skip
      replace h13 := (nI_leE (a := 5) (b := 5) rfl rfl (by omega) (by omega)).mp h13
      refine ww_arr 5 ff0 rfl (fun k hk => by simp [cpyF, hk]) ?_
      simp only [List.set_cons_zero, List.set_cons_succ]
      refine ww_arr 6 ff1 rfl (fun k hk => by simp [cpyF, hk]) ?_
      simp only [List.set_cons_zero, List.set_cons_succ]
      refine ww_arr 7 ff2 rfl (fun k hk => by simp [cpyF, hk]) ?_
      simp only [List.set_cons_zero, List.set_cons_succ]
      refine ww_aload_n C0 dX4_copyState_58 rfl ?_
      refine ww_aload_n C0 dX4_copyState_59 rfl ?_
      refine ww_getN C0 (ci := 2) (C := RX2) (T := TX2) (N := 5) ku_X2 0 rfl rfl 3 (by decide) kn_X4_86 rfl dX4_copyState_60 ?_
      refine ww_putN C0 (ci := 2) (C := RX2) (T := TX2) (N := 5) ku_X2 4 rfl rfl 3 (by decide) tyX2 tyX2_ok nmX2 kn_X4_86 rfl (ty := .int) (by decide +kernel) rfl rfl (Nat.le_of_ble_eq_true rfl) dX4_copyState_63 ?_
      simp only [List.set_cons_zero, List.set_cons_succ]
      refine ww_aload_n C0 dX4_copyState_66 rfl ?_
      refine ww_aload_n C0 dX4_copyState_67 rfl ?_
      refine ww_getN C0 (ci := 2) (C := RX2) (T := TX2) (N := 5) ku_X2 0 rfl rfl 4 (by decide) kn_X4_89 rfl dX4_copyState_68 ?_
      refine ww_putN C0 (ci := 2) (C := RX2) (T := TX2) (N := 5) ku_X2 4 rfl rfl 4 (by decide) tyX2 tyX2_ok nmX2 kn_X4_89 rfl (ty := .int) (by decide +kernel) rfl rfl (Nat.le_of_ble_eq_true rfl) dX4_copyState_71 ?_
      simp only [List.set_cons_zero, List.set_cons_succ]
      exact ww_vret C0 hr dX4_copyState_74 (by rfl)
    · skip
      replace h13 := (not_congr (nI_leE (a := 5) (b := 5) rfl rfl (by omega) (by omega))).mp h13
      exfalso; omega

set_option maxHeartbeats 4000000 in
set_option maxRecDepth 100000 in
theorem c_X4_go (l : Launch) (D : va_G) (cI cZ cQ : ClassId) {aX aT aL aC aN aY aA aO aK aG aW al0 al1 al2 aS as0 as1 as2 : Nat} {nm fa ac na : Nat} {hS bS : Int32} {sd : Int64} {fl0 fl1 fl2 fC fs0 fs1 fs2 : Nat → Int32} {rest : va_W} {k : Nat} {wa : Int32} (hnm : nm ≤ 5) (hna : na ≤ 5) (hk : k < nm) (hb : ¬ (sFF nm na fl0 fl1 fl2 fC fs0 k (fs0 k) wa hS) = -1) : MV l D [(cI, .int), (cZ, .boolean), (cQ, .object "MulesRemember$State")] yX4_go cX4_go 5 ({ frames := 4, cells := 0, slots := 0, locals := 102 } : Room) [.ref aX, .ref aS, .int (nI k), .int wa] ((aX, .inr (4, [.ref aT, .ref aL, .ref aC, .int (nI nm), .ref aN, .ref aY, .ref aA, .int (nI fa), .int (nI ac), .ref aO, .ref aK, .ref aG, .ref aW, .long sd])) :: (aL, .inr (0, [.ref al0, .ref al1, .ref al2, .int (nI na)])) :: (al0, .inl (cI, 5, .inl (fl0))) :: (al1, .inl (cI, 5, .inl (fl1))) :: (al2, .inl (cI, 5, .inl (fl2))) :: (aC, .inl (cI, 5, .inl (fC))) :: (aS, .inr (2, [.ref as0, .ref as1, .ref as2, .int hS, .int bS])) :: (as0, .inl (cI, 5, .inl (fs0))) :: (as1, .inl (cI, 5, .inl (fs1))) :: (as2, .inl (cI, 5, .inl (fs2))) :: rest) ((aX, .inr (4, [.ref aT, .ref aL, .ref aC, .int (nI nm), .ref aN, .ref aY, .ref aA, .int (nI fa), .int (nI ac), .ref aO, .ref aK, .ref aG, .ref aW, .long sd])) :: (aL, .inr (0, [.ref al0, .ref al1, .ref al2, .int (nI na)])) :: (al0, .inl (cI, 5, .inl (fl0))) :: (al1, .inl (cI, 5, .inl (fl1))) :: (al2, .inl (cI, 5, .inl (fl2))) :: (aC, .inl (cI, 5, .inl (fC))) :: (aS, .inr (2, [.ref as0, .ref as1, .ref as2, .int (hS + 1), .int (bS + sBC (sFF nm na fl0 fl1 fl2 fC fs0 k (fs0 k) wa hS))])) :: (as0, .inl (cI, 5, .inl (upd fs0 k (sNext (fs0 k) wa)))) :: (as1, .inl (cI, 5, .inl (fs1))) :: (as2, .inl (cI, 5, .inl (fs2))) :: rest) := by
  refine MV.of [.ref aX, .ref aS, .int (nI k), .int wa, .null] (by decide) (Nat.le_of_ble_eq_true rfl) rfl ?_
  intro p e s m below meth c A C0 hr
  refine ww_aload_n C0 dX4_go_0 rfl ?_
  refine ww_aload_n C0 dX4_go_1 rfl ?_
  refine ww_iload_n C0 dX4_go_2 rfl ?_
  refine ww_iload_n C0 dX4_go_3 rfl ?_
  refine ww_callVi C0 (qc := (RX4, TX4, 14)) 0 4 (c_X4_forbidders l D cI cZ cQ hnm hna hk) kd_X4_forbidders kw_X4_131 km_X4_forbidders kl_X4_forbidders ki_X4 hd_X4_forbidders rfl rfl ⟨Nat.le_of_ble_eq_true rfl, Nat.le_of_ble_eq_true rfl, rfl, rfl⟩ (Nat.le_of_ble_eq_true rfl) dX4_go_4 rfl rfl rfl ⟨Nat.zero_le _, Nat.zero_le _⟩ ?_
  refine ww_istore (i := 4) C0 dX4_go_7 (Nat.le_of_ble_eq_true rfl) rfl ?_
  simp only [List.set_cons_zero, List.set_cons_succ]
  refine ww_iload C0 dX4_go_9 rfl ?_
  refine ww_iconst (v := (-1)) C0 dX4_go_11 rfl ?_
  refine ww_icmp_ne (tgt := 16) C0 dX4_go_12 (by decide) (fun h12 => ?_) (fun h12 => ?_)
  · skip
    refine ww_aload_n C0 dX4_go_16 rfl ?_
    refine ww_dup C0 dX4_go_17 rfl ?_
    refine ww_getN C0 (ci := 2) (C := RX2) (T := TX2) (N := 5) ku_X2 6 rfl rfl 4 (by decide) kn_X4_89 rfl dX4_go_18 ?_
    refine ww_iload C0 dX4_go_21 rfl ?_
    refine ww_callSi C0 (c_J6_bitCount_0f7a4 l D cI cZ cQ) kd_J6_bitCount_0f7a4 kw_X4_152 ks_J6_bitCount_0f7a4 ki_J6 hd_J6_bitCount_0f7a4 ⟨Nat.le_of_ble_eq_true rfl, Nat.le_of_ble_eq_true rfl, rfl, rfl⟩ (Nat.le_of_ble_eq_true rfl) dX4_go_23 rfl rfl ⟨Nat.zero_le _, Nat.zero_le _⟩ ?_
    refine ww_iadd C0 dX4_go_26 ?_
    refine ww_putN C0 (ci := 2) (C := RX2) (T := TX2) (N := 5) ku_X2 6 rfl rfl 4 (by decide) tyX2 tyX2_ok nmX2 kn_X4_89 rfl (ty := .int) (by decide +kernel) rfl rfl (Nat.le_of_ble_eq_true rfl) dX4_go_27 ?_
    simp only [List.set_cons_zero, List.set_cons_succ]
    refine ww_aload_n C0 dX4_go_30 rfl ?_
    refine ww_getN C0 (ci := 2) (C := RX2) (T := TX2) (N := 5) ku_X2 6 rfl rfl 0 (by decide) kn_X4_116 rfl dX4_go_31 ?_
    refine ww_iload_n C0 dX4_go_34 rfl ?_
    refine ww_aload_n C0 dX4_go_35 rfl ?_
    refine ww_getN C0 (ci := 2) (C := RX2) (T := TX2) (N := 5) ku_X2 6 rfl rfl 0 (by decide) kn_X4_116 rfl dX4_go_36 ?_
    refine ww_iload_n C0 dX4_go_39 rfl ?_
    refine ww_iald_n (j := k) C0 7 0 rfl rfl rfl (by omega) (by decide) dX4_go_40 ?_
    refine ww_iload_n C0 dX4_go_41 rfl ?_
    refine ww_callSi C0 (c_X4_nextStone l D cI cZ cQ) kd_X4_nextStone kw_X4_240 ks_X4_nextStone ki_X4 hd_X4_nextStone ⟨Nat.le_of_ble_eq_true rfl, Nat.le_of_ble_eq_true rfl, rfl, rfl⟩ (Nat.le_of_ble_eq_true rfl) dX4_go_42 rfl rfl ⟨Nat.zero_le _, Nat.zero_le _⟩ ?_
    refine ww_iast_n (j := k) C0 7 0 rfl rfl rfl (by omega) (by decide) dX4_go_45 ?_
    simp only [List.set_cons_zero, List.set_cons_succ]
    refine ww_aload_n C0 dX4_go_46 rfl ?_
    refine ww_dup C0 dX4_go_47 rfl ?_
    refine ww_getN C0 (ci := 2) (C := RX2) (T := TX2) (N := 5) ku_X2 6 rfl rfl 3 (by decide) kn_X4_86 rfl dX4_go_48 ?_
    refine ww_iconst (v := (1)) C0 dX4_go_51 rfl ?_
    refine ww_iadd C0 dX4_go_52 ?_
    refine ww_putN C0 (ci := 2) (C := RX2) (T := TX2) (N := 5) ku_X2 6 rfl rfl 3 (by decide) tyX2 tyX2_ok nmX2 kn_X4_86 rfl (ty := .int) (by decide +kernel) rfl rfl (Nat.le_of_ble_eq_true rfl) dX4_go_53 ?_
    simp only [List.set_cons_zero, List.set_cons_succ]
    exact ww_vret C0 hr dX4_go_56 (by rfl)
  · skip
    exact absurd h12 hb

set_option maxHeartbeats 4000000 in
set_option maxRecDepth 100000 in
theorem c_X4_doneWithoutFault (l : Launch) (D : va_G) (cI cZ cQ : ClassId) {aX aT aL aC aN aY aA aO aK aG aW al0 al1 al2 aS as0 as1 as2 : Nat} {nm fa ac na : Nat} {hS bS : Int32} {sd : Int64} {fl0 fl1 fl2 fC fs0 fs1 fs2 : Nat → Int32} {rest : va_W} {f g : Int32} (hnm : nm ≤ 5) (hna : na ≤ 5) : MI l D [(cI, .int), (cZ, .boolean), (cQ, .object "MulesRemember$State")] yX4_doneWithoutFault cX4_doneWithoutFault 5 .boolean ({ frames := 5, cells := 0, slots := 0, locals := 126 } : Room) [.ref aX, .ref aS, .int f, .int g] ((aX, .inr (4, [.ref aT, .ref aL, .ref aC, .int (nI nm), .ref aN, .ref aY, .ref aA, .int (nI fa), .int (nI ac), .ref aO, .ref aK, .ref aG, .ref aW, .long sd])) :: (aL, .inr (0, [.ref al0, .ref al1, .ref al2, .int (nI na)])) :: (al0, .inl (cI, 5, .inl (fl0))) :: (al1, .inl (cI, 5, .inl (fl1))) :: (al2, .inl (cI, 5, .inl (fl2))) :: (aC, .inl (cI, 5, .inl (fC))) :: (aS, .inr (2, [.ref as0, .ref as1, .ref as2, .int hS, .int bS])) :: (as0, .inl (cI, 5, .inl (fs0))) :: (as1, .inl (cI, 5, .inl (fs1))) :: (as2, .inl (cI, 5, .inl (fs2))) :: rest) (bI (sDone nm na fl0 fl1 fl2 fC (fs0, fs1, fs2, hS, bS) f g).1) ((aX, .inr (4, [.ref aT, .ref aL, .ref aC, .int (nI nm), .ref aN, .ref aY, .ref aA, .int (nI fa), .int (nI ac), .ref aO, .ref aK, .ref aG, .ref aW, .long sd])) :: (aL, .inr (0, [.ref al0, .ref al1, .ref al2, .int (nI na)])) :: (al0, .inl (cI, 5, .inl (fl0))) :: (al1, .inl (cI, 5, .inl (fl1))) :: (al2, .inl (cI, 5, .inl (fl2))) :: (aC, .inl (cI, 5, .inl (fC))) :: (aS, .inr (2, [.ref as0, .ref as1, .ref as2, .int (sDone nm na fl0 fl1 fl2 fC (fs0, fs1, fs2, hS, bS) f g).2.2.2.2.1, .int (sDone nm na fl0 fl1 fl2 fC (fs0, fs1, fs2, hS, bS) f g).2.2.2.2.2])) :: (as0, .inl (cI, 5, .inl ((sDone nm na fl0 fl1 fl2 fC (fs0, fs1, fs2, hS, bS) f g).2.1))) :: (as1, .inl (cI, 5, .inl ((sDone nm na fl0 fl1 fl2 fC (fs0, fs1, fs2, hS, bS) f g).2.2.1))) :: (as2, .inl (cI, 5, .inl ((sDone nm na fl0 fl1 fl2 fC (fs0, fs1, fs2, hS, bS) f g).2.2.2.1))) :: rest) := by
  refine MI.of [.ref aX, .ref aS, .int f, .int g, .null] (by decide) (Nat.le_of_ble_eq_true rfl) rfl ?_
  intro p e s m below meth c A C0 hr
  refine ww_iload_n C0 dX4_doneWithoutFault_0 rfl ?_
  refine ww_if_ne (tgt := 24) C0 dX4_doneWithoutFault_1 (by decide) (fun h1 => ?_) (fun h1 => ?_)
  · skip
    refine ww_iload_n C0 dX4_doneWithoutFault_24 rfl ?_
    refine ww_iconst (v := (5)) C0 dX4_doneWithoutFault_25 rfl ?_
    refine ww_icmp_gt (tgt := 72) C0 dX4_doneWithoutFault_26 (by decide) (fun h26 => ?_) (fun h26 => ?_)
    · skip
      refine ww_aload_n C0 dX4_doneWithoutFault_72 rfl ?_
      refine ww_iload_n C0 dX4_doneWithoutFault_73 rfl ?_
      refine ww_callVi C0 (qc := (RX4, TX4, 14)) 0 4 (c_X4_isMule l D cI cZ cQ hnm) kd_X4_isMule kw_X4_113 km_X4_isMule kl_X4_isMule ki_X4 hd_X4_isMule rfl rfl ⟨Nat.le_of_ble_eq_true rfl, Nat.le_of_ble_eq_true rfl, rfl, rfl⟩ (Nat.le_of_ble_eq_true rfl) dX4_doneWithoutFault_74 rfl rfl rfl ⟨Nat.zero_le _, Nat.zero_le _⟩ ?_
      refine ww_bif_ne (tgt := 82) C0 dX4_doneWithoutFault_77 (by decide) (fun h77 => ?_) (fun h77 => ?_)
      · skip
        obtain ⟨k, hk, rfl⟩ := isN_of (by omega) h77
        have hcl : (nI k).toNatClampNeg = k := nI_clamp (by omega)
        refine ww_iload_n C0 dX4_doneWithoutFault_82 rfl ?_
        refine ww_bipush (v := (6)) C0 dX4_doneWithoutFault_83 rfl ?_
        refine ww_icmp_ne (tgt := 115) C0 dX4_doneWithoutFault_85 (by decide) (fun h85 => ?_) (fun h85 => ?_)
        · skip
          refine ww_iload_n C0 dX4_doneWithoutFault_115 rfl ?_
          refine ww_bipush (v := (7)) C0 dX4_doneWithoutFault_116 rfl ?_
          refine ww_icmp_ne (tgt := 134) C0 dX4_doneWithoutFault_118 (by decide) (fun h118 => ?_) (fun h118 => ?_)
          · skip
            refine ww_iconst (v := (0)) C0 dX4_doneWithoutFault_134 rfl ?_
            refine ww_istore (i := 4) C0 dX4_doneWithoutFault_135 (Nat.le_of_ble_eq_true rfl) rfl ?_
            simp only [List.set_cons_zero, List.set_cons_succ]
            refine ww_aload_n C0 dX4_doneWithoutFault_137 rfl ?_
            refine ww_getN C0 (ci := 2) (C := RX2) (T := TX2) (N := 5) ku_X2 6 rfl rfl 2 (by decide) kn_X4_120 rfl dX4_doneWithoutFault_138 ?_
            refine ww_iload_n C0 dX4_doneWithoutFault_141 rfl ?_
            refine ww_iconst (v := (0)) C0 dX4_doneWithoutFault_142 rfl ?_
            refine ww_iast_n (j := k) C0 9 0 rfl rfl rfl (by omega) (by decide) dX4_doneWithoutFault_143 ?_
            simp only [List.set_cons_zero, List.set_cons_succ]
            refine ww_iload C0 dX4_doneWithoutFault_144 rfl ?_
            exact ww_zret C0 hr dX4_doneWithoutFault_146 (by simp [sDone, bI, *]) (by simp [sDone, goV, hourV, *])
          · skip
            refine ww_aload_n C0 dX4_doneWithoutFault_121 rfl ?_
            refine ww_getN C0 (ci := 2) (C := RX2) (T := TX2) (N := 5) ku_X2 6 rfl rfl 2 (by decide) kn_X4_120 rfl dX4_doneWithoutFault_122 ?_
            refine ww_iload_n C0 dX4_doneWithoutFault_125 rfl ?_
            refine ww_iald_n (j := k) C0 9 0 rfl rfl rfl (by omega) (by decide) dX4_doneWithoutFault_126 ?_
            refine ww_if_eq (tgt := 134) C0 dX4_doneWithoutFault_127 (by decide) (fun h127 => ?_) (fun h127 => ?_)
            · skip
              refine ww_iconst (v := (0)) C0 dX4_doneWithoutFault_134 rfl ?_
              refine ww_istore (i := 4) C0 dX4_doneWithoutFault_135 (Nat.le_of_ble_eq_true rfl) rfl ?_
              simp only [List.set_cons_zero, List.set_cons_succ]
              refine ww_aload_n C0 dX4_doneWithoutFault_137 rfl ?_
              refine ww_getN C0 (ci := 2) (C := RX2) (T := TX2) (N := 5) ku_X2 6 rfl rfl 2 (by decide) kn_X4_120 rfl dX4_doneWithoutFault_138 ?_
              refine ww_iload_n C0 dX4_doneWithoutFault_141 rfl ?_
              refine ww_iconst (v := (0)) C0 dX4_doneWithoutFault_142 rfl ?_
              refine ww_iast_n (j := k) C0 9 0 rfl rfl rfl (by omega) (by decide) dX4_doneWithoutFault_143 ?_
              simp only [List.set_cons_zero, List.set_cons_succ]
              refine ww_iload C0 dX4_doneWithoutFault_144 rfl ?_
              exact ww_zret C0 hr dX4_doneWithoutFault_146 (by simp [sDone, bI, *]) (by simp [sDone, goV, hourV, *])
            · skip
              refine ww_iconst (v := (1)) C0 dX4_doneWithoutFault_130 rfl ?_
              refine ww_goto (tgt := 135) C0 dX4_doneWithoutFault_131 (by decide) ?_
              refine ww_istore (i := 4) C0 dX4_doneWithoutFault_135 (Nat.le_of_ble_eq_true rfl) rfl ?_
              simp only [List.set_cons_zero, List.set_cons_succ]
              refine ww_aload_n C0 dX4_doneWithoutFault_137 rfl ?_
              refine ww_getN C0 (ci := 2) (C := RX2) (T := TX2) (N := 5) ku_X2 6 rfl rfl 2 (by decide) kn_X4_120 rfl dX4_doneWithoutFault_138 ?_
              refine ww_iload_n C0 dX4_doneWithoutFault_141 rfl ?_
              refine ww_iconst (v := (0)) C0 dX4_doneWithoutFault_142 rfl ?_
              refine ww_iast_n (j := k) C0 9 0 rfl rfl rfl (by omega) (by decide) dX4_doneWithoutFault_143 ?_
              simp only [List.set_cons_zero, List.set_cons_succ]
              refine ww_iload C0 dX4_doneWithoutFault_144 rfl ?_
              exact ww_zret C0 hr dX4_doneWithoutFault_146 (by simp [sDone, bI, *]) (by simp [sDone, goV, hourV, *])
        · skip
          refine ww_aload_n C0 dX4_doneWithoutFault_88 rfl ?_
          refine ww_getN C0 (ci := 2) (C := RX2) (T := TX2) (N := 5) ku_X2 6 rfl rfl 1 (by decide) kn_X4_117 rfl dX4_doneWithoutFault_89 ?_
          refine ww_iload_n C0 dX4_doneWithoutFault_92 rfl ?_
          refine ww_iald_n (j := k) C0 8 0 rfl rfl rfl (by omega) (by decide) dX4_doneWithoutFault_93 ?_
          refine ww_iconst (v := (3)) C0 dX4_doneWithoutFault_94 rfl ?_
          refine ww_icmp_eq (tgt := 102) C0 dX4_doneWithoutFault_95 (by decide) (fun h95 => ?_) (fun h95 => ?_)
          · skip
            refine ww_iconst (v := (0)) C0 dX4_doneWithoutFault_102 rfl ?_
            refine ww_istore (i := 4) C0 dX4_doneWithoutFault_103 (Nat.le_of_ble_eq_true rfl) rfl ?_
            simp only [List.set_cons_zero, List.set_cons_succ]
            refine ww_aload_n C0 dX4_doneWithoutFault_105 rfl ?_
            refine ww_getN C0 (ci := 2) (C := RX2) (T := TX2) (N := 5) ku_X2 6 rfl rfl 1 (by decide) kn_X4_117 rfl dX4_doneWithoutFault_106 ?_
            refine ww_iload_n C0 dX4_doneWithoutFault_109 rfl ?_
            refine ww_iconst (v := (3)) C0 dX4_doneWithoutFault_110 rfl ?_
            refine ww_iast_n (j := k) C0 8 0 rfl rfl rfl (by omega) (by decide) dX4_doneWithoutFault_111 ?_
            simp only [List.set_cons_zero, List.set_cons_succ]
            refine ww_iload C0 dX4_doneWithoutFault_112 rfl ?_
            exact ww_zret C0 hr dX4_doneWithoutFault_114 (by simp [sDone, bI, *]) (by simp [sDone, goV, hourV, *])
          · skip
            refine ww_iconst (v := (1)) C0 dX4_doneWithoutFault_98 rfl ?_
            refine ww_goto (tgt := 103) C0 dX4_doneWithoutFault_99 (by decide) ?_
            refine ww_istore (i := 4) C0 dX4_doneWithoutFault_103 (Nat.le_of_ble_eq_true rfl) rfl ?_
            simp only [List.set_cons_zero, List.set_cons_succ]
            refine ww_aload_n C0 dX4_doneWithoutFault_105 rfl ?_
            refine ww_getN C0 (ci := 2) (C := RX2) (T := TX2) (N := 5) ku_X2 6 rfl rfl 1 (by decide) kn_X4_117 rfl dX4_doneWithoutFault_106 ?_
            refine ww_iload_n C0 dX4_doneWithoutFault_109 rfl ?_
            refine ww_iconst (v := (3)) C0 dX4_doneWithoutFault_110 rfl ?_
            refine ww_iast_n (j := k) C0 8 0 rfl rfl rfl (by omega) (by decide) dX4_doneWithoutFault_111 ?_
            simp only [List.set_cons_zero, List.set_cons_succ]
            refine ww_iload C0 dX4_doneWithoutFault_112 rfl ?_
            exact ww_zret C0 hr dX4_doneWithoutFault_114 (by simp [sDone, bI, *]) (by simp [sDone, goV, hourV, *])
      · skip
        refine ww_iconst (v := (0)) C0 dX4_doneWithoutFault_80 rfl ?_
        exact ww_zret C0 hr dX4_doneWithoutFault_81 (by simp [sDone, bI, *]) (by simp [sDone, goV, hourV, *])
    · skip
      refine ww_iload_n C0 dX4_doneWithoutFault_29 rfl ?_
      refine ww_callSi C0 (c_X4_isFlag l D cI cZ cQ) kd_X4_isFlag kw_X4_189 ks_X4_isFlag ki_X4 hd_X4_isFlag ⟨Nat.le_of_ble_eq_true rfl, Nat.le_of_ble_eq_true rfl, rfl, rfl⟩ (Nat.le_of_ble_eq_true rfl) dX4_doneWithoutFault_30 rfl rfl ⟨Nat.zero_le _, Nat.zero_le _⟩ ?_
      refine ww_bif_eq (tgt := 52) C0 dX4_doneWithoutFault_33 (by decide) (fun h33 => ?_) (fun h33 => ?_)
      · skip
        refine ww_iconst (v := (0)) C0 dX4_doneWithoutFault_52 rfl ?_
        refine ww_istore (i := 4) C0 dX4_doneWithoutFault_53 (Nat.le_of_ble_eq_true rfl) rfl ?_
        simp only [List.set_cons_zero, List.set_cons_succ]
        refine ww_iload C0 dX4_doneWithoutFault_55 rfl ?_
        refine ww_if_eq (tgt := 69) C0 dX4_doneWithoutFault_57 (by decide) (fun h57 => ?_) (fun h57 => ?_)
        · skip
          replace h57 := (nI_eqE (a := 0) (b := 0) rfl rfl (by omega) (by omega)).mp h57
          refine ww_iload C0 dX4_doneWithoutFault_69 rfl ?_
          exact ww_zret C0 hr dX4_doneWithoutFault_71 (by simp [sDone, bI, *]) (by simp [sDone, goV, hourV, *])
        · skip
          replace h57 := (not_congr (nI_eqE (a := 0) (b := 0) rfl rfl (by omega) (by omega))).mp h57
          exfalso; omega
      · skip
        refine ww_aload_n C0 dX4_doneWithoutFault_36 rfl ?_
        refine ww_aload_n C0 dX4_doneWithoutFault_37 rfl ?_
        refine ww_iload_n C0 dX4_doneWithoutFault_38 rfl ?_
        refine ww_iconst (v := (1)) C0 dX4_doneWithoutFault_39 rfl ?_
        refine ww_isub C0 dX4_doneWithoutFault_40 ?_
        refine ww_iload_n C0 dX4_doneWithoutFault_41 rfl ?_
        by_cases hm : isN nm (f - 1) = true
        · skip
          obtain ⟨k, hk, hfk⟩ := isN_of (by omega) hm
          have hcl : (nI k).toNatClampNeg = k := nI_clamp (by omega)
          have hnk := isN_nI (n := nm) (by omega) hk
          simp only [hfk]
          refine ww_callVi C0 (qc := (RX4, TX4, 14)) 0 4 (c_X4_forbidders l D cI cZ cQ hnm hna hk) kd_X4_forbidders kw_X4_131 km_X4_forbidders kl_X4_forbidders ki_X4 hd_X4_forbidders rfl rfl ⟨Nat.le_of_ble_eq_true rfl, Nat.le_of_ble_eq_true rfl, rfl, rfl⟩ (Nat.le_of_ble_eq_true rfl) dX4_doneWithoutFault_42 rfl rfl rfl ⟨Nat.zero_le _, Nat.zero_le _⟩ ?_
          refine ww_if_ne (tgt := 52) C0 dX4_doneWithoutFault_45 (by decide) (fun h45 => ?_) (fun h45 => ?_)
          · skip
            refine ww_iconst (v := (0)) C0 dX4_doneWithoutFault_52 rfl ?_
            refine ww_istore (i := 4) C0 dX4_doneWithoutFault_53 (Nat.le_of_ble_eq_true rfl) rfl ?_
            simp only [List.set_cons_zero, List.set_cons_succ]
            refine ww_iload C0 dX4_doneWithoutFault_55 rfl ?_
            refine ww_if_eq (tgt := 69) C0 dX4_doneWithoutFault_57 (by decide) (fun h57 => ?_) (fun h57 => ?_)
            · skip
              replace h57 := (nI_eqE (a := 0) (b := 0) rfl rfl (by omega) (by omega)).mp h57
              refine ww_iload C0 dX4_doneWithoutFault_69 rfl ?_
              exact ww_zret C0 hr dX4_doneWithoutFault_71 (by simp [sDone, bI, *]) (by simp [sDone, goV, hourV, *])
            · skip
              replace h57 := (not_congr (nI_eqE (a := 0) (b := 0) rfl rfl (by omega) (by omega))).mp h57
              exfalso; omega
          · skip
            refine ww_iconst (v := (1)) C0 dX4_doneWithoutFault_48 rfl ?_
            refine ww_goto (tgt := 53) C0 dX4_doneWithoutFault_49 (by decide) ?_
            refine ww_istore (i := 4) C0 dX4_doneWithoutFault_53 (Nat.le_of_ble_eq_true rfl) rfl ?_
            simp only [List.set_cons_zero, List.set_cons_succ]
            refine ww_iload C0 dX4_doneWithoutFault_55 rfl ?_
            refine ww_if_eq (tgt := 69) C0 dX4_doneWithoutFault_57 (by decide) (fun h57 => ?_) (fun h57 => ?_)
            · skip
              replace h57 := (nI_eqE (a := 1) (b := 0) rfl rfl (by omega) (by omega)).mp h57
              exfalso; omega
            · skip
              replace h57 := (not_congr (nI_eqE (a := 1) (b := 0) rfl rfl (by omega) (by omega))).mp h57
              refine ww_aload_n C0 dX4_doneWithoutFault_60 rfl ?_
              refine ww_aload_n C0 dX4_doneWithoutFault_61 rfl ?_
              refine ww_iload_n C0 dX4_doneWithoutFault_62 rfl ?_
              refine ww_iconst (v := (1)) C0 dX4_doneWithoutFault_63 rfl ?_
              refine ww_isub C0 dX4_doneWithoutFault_64 ?_
              refine ww_iload_n C0 dX4_doneWithoutFault_65 rfl ?_
              simp only [hfk]
              refine ww_callVv C0 (qc := (RX4, TX4, 14)) 0 4 (c_X4_go l D cI cZ cQ hnm hna hk (by rw [h45]; decide)) kd_X4_go kw_X4_148 km_X4_go kl_X4_go ki_X4 hd_X4_go rfl rfl ⟨Nat.le_of_ble_eq_true rfl, Nat.le_of_ble_eq_true rfl, rfl, rfl⟩ (Nat.le_of_ble_eq_true rfl) dX4_doneWithoutFault_66 rfl rfl rfl ⟨Nat.zero_le _, Nat.zero_le _⟩ ?_
              refine ww_iload C0 dX4_doneWithoutFault_69 rfl ?_
              exact ww_zret C0 hr dX4_doneWithoutFault_71 (by simp [sDone, bI, *]) (by simp [sDone, goV, hourV, *])
        · skip
          have hm : isN nm (f - 1) = false := by simpa using hm
          refine ww_callVi C0 (qc := (RX4, TX4, 14)) 0 4 (c_X4_forbidders_b l D cI cZ cQ hnm hm) kd_X4_forbidders kw_X4_131 km_X4_forbidders kl_X4_forbidders ki_X4 hd_X4_forbidders rfl rfl ⟨Nat.le_of_ble_eq_true rfl, Nat.le_of_ble_eq_true rfl, rfl, rfl⟩ (Nat.le_of_ble_eq_true rfl) dX4_doneWithoutFault_42 rfl rfl rfl ⟨Nat.zero_le _, Nat.zero_le _⟩ ?_
          refine ww_if_ne (tgt := 52) C0 dX4_doneWithoutFault_45 (by decide) (fun h45 => ?_) (fun h45 => ?_)
          · skip
            refine ww_iconst (v := (0)) C0 dX4_doneWithoutFault_52 rfl ?_
            refine ww_istore (i := 4) C0 dX4_doneWithoutFault_53 (Nat.le_of_ble_eq_true rfl) rfl ?_
            simp only [List.set_cons_zero, List.set_cons_succ]
            refine ww_iload C0 dX4_doneWithoutFault_55 rfl ?_
            refine ww_if_eq (tgt := 69) C0 dX4_doneWithoutFault_57 (by decide) (fun h57 => ?_) (fun h57 => ?_)
            · skip
              replace h57 := (nI_eqE (a := 0) (b := 0) rfl rfl (by omega) (by omega)).mp h57
              refine ww_iload C0 dX4_doneWithoutFault_69 rfl ?_
              exact ww_zret C0 hr dX4_doneWithoutFault_71 (by simp [sDone, bI, *]) (by simp [sDone, goV, hourV, *])
            · skip
              replace h57 := (not_congr (nI_eqE (a := 0) (b := 0) rfl rfl (by omega) (by omega))).mp h57
              exfalso; omega
          · skip
            exact absurd h45 (by decide)
  · skip
    refine ww_aload_n C0 dX4_doneWithoutFault_4 rfl ?_
    refine ww_dup C0 dX4_doneWithoutFault_5 rfl ?_
    refine ww_getN C0 (ci := 2) (C := RX2) (T := TX2) (N := 5) ku_X2 6 rfl rfl 3 (by decide) kn_X4_86 rfl dX4_doneWithoutFault_6 ?_
    refine ww_iconst (v := (1)) C0 dX4_doneWithoutFault_9 rfl ?_
    refine ww_iadd C0 dX4_doneWithoutFault_10 ?_
    refine ww_putN C0 (ci := 2) (C := RX2) (T := TX2) (N := 5) ku_X2 6 rfl rfl 3 (by decide) tyX2 tyX2_ok nmX2 kn_X4_86 rfl (ty := .int) (by decide +kernel) rfl rfl (Nat.le_of_ble_eq_true rfl) dX4_doneWithoutFault_11 ?_
    simp only [List.set_cons_zero, List.set_cons_succ]
    refine ww_iload_n C0 dX4_doneWithoutFault_14 rfl ?_
    refine ww_if_ne (tgt := 22) C0 dX4_doneWithoutFault_15 (by decide) (fun h15 => ?_) (fun h15 => ?_)
    · skip
      refine ww_iconst (v := (0)) C0 dX4_doneWithoutFault_22 rfl ?_
      exact ww_zret C0 hr dX4_doneWithoutFault_23 (by simp [sDone, bI, *]) (by simp [sDone, goV, hourV, *])
    · skip
      refine ww_iconst (v := (1)) C0 dX4_doneWithoutFault_18 rfl ?_
      refine ww_goto (tgt := 23) C0 dX4_doneWithoutFault_19 (by decide) ?_
      exact ww_zret C0 hr dX4_doneWithoutFault_23 (by simp [sDone, bI, *]) (by simp [sDone, goV, hourV, *])

set_option maxHeartbeats 4000000 in
set_option maxRecDepth 100000 in
theorem c_X4_liveThrough (l : Launch) (D : va_G) (cI cZ cQ : ClassId) {aX aT aL aC aN aY aA aO aK aG aW al0 al1 al2 aS as0 as1 as2 : Nat} {nm fa ac na : Nat} {hS bS : Int32} {sd : Int64} {fl0 fl1 fl2 fC fs0 fs1 fs2 : Nat → Int32} {rest : va_W} {f g : Int32} (hnm : nm ≤ 5) (hna : na ≤ 5) : MV l D [(cI, .int), (cZ, .boolean), (cQ, .object "MulesRemember$State")] yX4_liveThrough cX4_liveThrough 4 ({ frames := 5, cells := 0, slots := 0, locals := 126 } : Room) [.ref aX, .ref aS, .int f, .int g] ((aX, .inr (4, [.ref aT, .ref aL, .ref aC, .int (nI nm), .ref aN, .ref aY, .ref aA, .int (nI fa), .int (nI ac), .ref aO, .ref aK, .ref aG, .ref aW, .long sd])) :: (aL, .inr (0, [.ref al0, .ref al1, .ref al2, .int (nI na)])) :: (al0, .inl (cI, 5, .inl (fl0))) :: (al1, .inl (cI, 5, .inl (fl1))) :: (al2, .inl (cI, 5, .inl (fl2))) :: (aC, .inl (cI, 5, .inl (fC))) :: (aS, .inr (2, [.ref as0, .ref as1, .ref as2, .int hS, .int bS])) :: (as0, .inl (cI, 5, .inl (fs0))) :: (as1, .inl (cI, 5, .inl (fs1))) :: (as2, .inl (cI, 5, .inl (fs2))) :: rest) ((aX, .inr (4, [.ref aT, .ref aL, .ref aC, .int (nI nm), .ref aN, .ref aY, .ref aA, .int (nI fa), .int (nI ac), .ref aO, .ref aK, .ref aG, .ref aW, .long sd])) :: (aL, .inr (0, [.ref al0, .ref al1, .ref al2, .int (nI na)])) :: (al0, .inl (cI, 5, .inl (fl0))) :: (al1, .inl (cI, 5, .inl (fl1))) :: (al2, .inl (cI, 5, .inl (fl2))) :: (aC, .inl (cI, 5, .inl (fC))) :: (aS, .inr (2, [.ref as0, .ref as1, .ref as2, .int (sLive nm na fl0 fl1 fl2 fC (fs0, fs1, fs2, hS, bS) f g).2.2.2.1, .int (sLive nm na fl0 fl1 fl2 fC (fs0, fs1, fs2, hS, bS) f g).2.2.2.2])) :: (as0, .inl (cI, 5, .inl ((sLive nm na fl0 fl1 fl2 fC (fs0, fs1, fs2, hS, bS) f g).1))) :: (as1, .inl (cI, 5, .inl ((sLive nm na fl0 fl1 fl2 fC (fs0, fs1, fs2, hS, bS) f g).2.1))) :: (as2, .inl (cI, 5, .inl ((sLive nm na fl0 fl1 fl2 fC (fs0, fs1, fs2, hS, bS) f g).2.2.1))) :: rest) := by
  refine MV.of [.ref aX, .ref aS, .int f, .int g] (by decide) (Nat.le_of_ble_eq_true rfl) rfl ?_
  intro p e s m below meth c A C0 hr
  by_cases hm : isN nm f = true
  · skip
    obtain ⟨k, hk, rfl⟩ := isN_of (by omega) hm
    have hcl : (nI k).toNatClampNeg = k := nI_clamp (by omega)
    refine ww_aload_n C0 dX4_liveThrough_0 rfl ?_
    refine ww_aload_n C0 dX4_liveThrough_1 rfl ?_
    refine ww_iload_n C0 dX4_liveThrough_2 rfl ?_
    refine ww_iload_n C0 dX4_liveThrough_3 rfl ?_
    refine ww_callVi C0 (qc := (RX4, TX4, 14)) 0 4 (c_X4_wouldGo l D cI cZ cQ hnm hna hk) kd_X4_wouldGo kw_X4_141 km_X4_wouldGo kl_X4_wouldGo ki_X4 hd_X4_wouldGo rfl rfl ⟨Nat.le_of_ble_eq_true rfl, Nat.le_of_ble_eq_true rfl, rfl, rfl⟩ (Nat.le_of_ble_eq_true rfl) dX4_liveThrough_4 rfl rfl rfl ⟨Nat.zero_le _, Nat.zero_le _⟩ ?_
    refine ww_bif_eq (tgt := 20) C0 dX4_liveThrough_7 (by decide) (fun h7 => ?_) (fun h7 => ?_)
    · skip
      refine ww_aload_n C0 dX4_liveThrough_20 rfl ?_
      refine ww_dup C0 dX4_liveThrough_21 rfl ?_
      refine ww_getN C0 (ci := 2) (C := RX2) (T := TX2) (N := 5) ku_X2 6 rfl rfl 3 (by decide) kn_X4_86 rfl dX4_liveThrough_22 ?_
      refine ww_iconst (v := (1)) C0 dX4_liveThrough_25 rfl ?_
      refine ww_iadd C0 dX4_liveThrough_26 ?_
      refine ww_putN C0 (ci := 2) (C := RX2) (T := TX2) (N := 5) ku_X2 6 rfl rfl 3 (by decide) tyX2 tyX2_ok nmX2 kn_X4_86 rfl (ty := .int) (by decide +kernel) rfl rfl (Nat.le_of_ble_eq_true rfl) dX4_liveThrough_27 ?_
      simp only [List.set_cons_zero, List.set_cons_succ]
      exact ww_vret C0 hr dX4_liveThrough_30 (by simp [sLive, goV, hourV, *])
    · skip
      refine ww_aload_n C0 dX4_liveThrough_10 rfl ?_
      refine ww_aload_n C0 dX4_liveThrough_11 rfl ?_
      refine ww_iload_n C0 dX4_liveThrough_12 rfl ?_
      refine ww_iload_n C0 dX4_liveThrough_13 rfl ?_
      refine ww_callVv C0 (qc := (RX4, TX4, 14)) 0 4 (c_X4_go l D cI cZ cQ hnm hna hk (sGoes_ne h7)) kd_X4_go kw_X4_148 km_X4_go kl_X4_go ki_X4 hd_X4_go rfl rfl ⟨Nat.le_of_ble_eq_true rfl, Nat.le_of_ble_eq_true rfl, rfl, rfl⟩ (Nat.le_of_ble_eq_true rfl) dX4_liveThrough_14 rfl rfl rfl ⟨Nat.zero_le _, Nat.zero_le _⟩ ?_
      refine ww_goto (tgt := 30) C0 dX4_liveThrough_17 (by decide) ?_
      exact ww_vret C0 hr dX4_liveThrough_30 (by simp [sLive, goV, hourV, *])
  · skip
    have hm : isN nm f = false := by simpa using hm
    refine ww_aload_n C0 dX4_liveThrough_0 rfl ?_
    refine ww_aload_n C0 dX4_liveThrough_1 rfl ?_
    refine ww_iload_n C0 dX4_liveThrough_2 rfl ?_
    refine ww_iload_n C0 dX4_liveThrough_3 rfl ?_
    refine ww_callVi C0 (qc := (RX4, TX4, 14)) 0 4 (c_X4_wouldGo_b l D cI cZ cQ hnm hm) kd_X4_wouldGo kw_X4_141 km_X4_wouldGo kl_X4_wouldGo ki_X4 hd_X4_wouldGo rfl rfl ⟨Nat.le_of_ble_eq_true rfl, Nat.le_of_ble_eq_true rfl, rfl, rfl⟩ (Nat.le_of_ble_eq_true rfl) dX4_liveThrough_4 rfl rfl rfl ⟨Nat.zero_le _, Nat.zero_le _⟩ ?_
    refine ww_bif_eq (tgt := 20) C0 dX4_liveThrough_7 (by decide) (fun h7 => ?_) (fun h7 => ?_)
    · skip
      refine ww_aload_n C0 dX4_liveThrough_20 rfl ?_
      refine ww_dup C0 dX4_liveThrough_21 rfl ?_
      refine ww_getN C0 (ci := 2) (C := RX2) (T := TX2) (N := 5) ku_X2 6 rfl rfl 3 (by decide) kn_X4_86 rfl dX4_liveThrough_22 ?_
      refine ww_iconst (v := (1)) C0 dX4_liveThrough_25 rfl ?_
      refine ww_iadd C0 dX4_liveThrough_26 ?_
      refine ww_putN C0 (ci := 2) (C := RX2) (T := TX2) (N := 5) ku_X2 6 rfl rfl 3 (by decide) tyX2 tyX2_ok nmX2 kn_X4_86 rfl (ty := .int) (by decide +kernel) rfl rfl (Nat.le_of_ble_eq_true rfl) dX4_liveThrough_27 ?_
      simp only [List.set_cons_zero, List.set_cons_succ]
      exact ww_vret C0 hr dX4_liveThrough_30 (by simp [sLive, goV, hourV, *])
    · skip
      cases h7

set_option maxHeartbeats 4000000 in
set_option maxRecDepth 100000 in
theorem c_X4_spread (l : Launch) (D : va_G) (cI cZ cQ : ClassId) {aX aT aL aC aN aY aA aO aK aG aW al0 al1 al2 an0 an1 an2 : Nat} {nm fa ac na : Nat} {hN bN : Int32} {sd : Int64} {fl0 fl1 fl2 fC fn0 fn1 fn2 : Nat → Int32} {rest : va_W} {k : Nat} {re hh he : Int32} (hnm : nm ≤ 5) (hna : na ≤ 5) (hk : k < nm) : MI l D [(cI, .int), (cZ, .boolean), (cQ, .object "MulesRemember$State")] yX4_spread cX4_spread 9 .int ({ frames := 3, cells := 0, slots := 0, locals := 79 } : Room) [.ref aX, .int (nI k), .int re, .int hh, .int he] ((aX, .inr (4, [.ref aT, .ref aL, .ref aC, .int (nI nm), .ref aN, .ref aY, .ref aA, .int (nI fa), .int (nI ac), .ref aO, .ref aK, .ref aG, .ref aW, .long sd])) :: (aL, .inr (0, [.ref al0, .ref al1, .ref al2, .int (nI na)])) :: (al0, .inl (cI, 5, .inl (fl0))) :: (al1, .inl (cI, 5, .inl (fl1))) :: (al2, .inl (cI, 5, .inl (fl2))) :: (aC, .inl (cI, 5, .inl (fC))) :: (aN, .inr (2, [.ref an0, .ref an1, .ref an2, .int hN, .int bN])) :: (an0, .inl (cI, 5, .inl (fn0))) :: (an1, .inl (cI, 5, .inl (fn1))) :: (an2, .inl (cI, 5, .inl (fn2))) :: rest) (sSpread (fun s way => sFF nm na fl0 fl1 fl2 fC fn0 k s way hh) re he 10) ((aX, .inr (4, [.ref aT, .ref aL, .ref aC, .int (nI nm), .ref aN, .ref aY, .ref aA, .int (nI fa), .int (nI ac), .ref aO, .ref aK, .ref aG, .ref aW, .long sd])) :: (aL, .inr (0, [.ref al0, .ref al1, .ref al2, .int (nI na)])) :: (al0, .inl (cI, 5, .inl (fl0))) :: (al1, .inl (cI, 5, .inl (fl1))) :: (al2, .inl (cI, 5, .inl (fl2))) :: (aC, .inl (cI, 5, .inl (fC))) :: (aN, .inr (2, [.ref an0, .ref an1, .ref an2, .int hN, .int bN])) :: (an0, .inl (cI, 5, .inl (fn0))) :: (an1, .inl (cI, 5, .inl (fn1))) :: (an2, .inl (cI, 5, .inl (fn2))) :: rest) := by
  refine MI.of [.ref aX, .int (nI k), .int re, .int hh, .int he, .null, .null, .null, .null] (by decide) (Nat.le_of_ble_eq_true rfl) rfl ?_
  intro p e s m below meth c A C0 hr
  refine ww_iload_n C0 dX4_spread_0 rfl ?_
  refine ww_istore (i := 5) C0 dX4_spread_1 (Nat.le_of_ble_eq_true rfl) rfl ?_
  simp only [List.set_cons_zero, List.set_cons_succ]
  refine ww_iconst (v := (0)) C0 dX4_spread_3 rfl ?_
  refine ww_istore (i := 6) C0 dX4_spread_4 (Nat.le_of_ble_eq_true rfl) rfl ?_
  simp only [List.set_cons_zero, List.set_cons_succ]
  refine ww_back (ww_loop (pc := 6) 0 (10) (by omega) (fun j => [_, _, _, _, _, .int (sSpread (fun s way => sFF nm na fl0 fl1 fl2 fC fn0 k s way hh) re he j), .int (nI j), .null, .null]) (fun j => _) ?_ ?_) ⟨Or.inr rfl, Or.inr rfl, Or.inr rfl, Or.inr rfl, Or.inr rfl, Or.inr rfl, Or.inr rfl, Or.inl rfl, Or.inl rfl, trivial⟩ (by rfl)
  · intro j hj0 hj ih
    refine ww_iload C0 dX4_spread_6 rfl ?_
    refine ww_bipush (v := (10)) C0 dX4_spread_8 rfl ?_
    refine ww_icmp_ge (tgt := 87) C0 dX4_spread_10 (by decide) (fun h10 => ?_) (fun h10 => ?_)
    · skip
      replace h10 := (nI_leE (a := 10) (b := j) rfl rfl (by omega) (by omega)).mp h10
      exfalso; omega
    · skip
      replace h10 := (not_congr (nI_leE (a := 10) (b := j) rfl rfl (by omega) (by omega))).mp h10
      refine ww_iconst (v := (0)) C0 dX4_spread_13 rfl ?_
      refine ww_istore (i := 7) C0 dX4_spread_14 (Nat.le_of_ble_eq_true rfl) rfl ?_
      simp only [List.set_cons_zero, List.set_cons_succ]
      refine ww_iload C0 dX4_spread_16 rfl ?_
      refine ww_iconst (v := (1)) C0 dX4_spread_18 rfl ?_
      refine ww_icmp_gt (tgt := 81) C0 dX4_spread_19 (by decide) (fun h19 => ?_) (fun h19 => ?_)
      · skip
        replace h19 := (nI_ltE (a := 1) (b := 0) rfl rfl (by omega) (by omega)).mp h19
        exfalso; omega
      · skip
        replace h19 := (not_congr (nI_ltE (a := 1) (b := 0) rfl rfl (by omega) (by omega))).mp h19
        refine ww_iload_n C0 dX4_spread_22 rfl ?_
        refine ww_iload C0 dX4_spread_23 rfl ?_
        refine ww_ishr C0 dX4_spread_25 ?_
        refine ww_iconst (v := (1)) C0 dX4_spread_26 rfl ?_
        refine ww_iand C0 dX4_spread_27 ?_
        refine ww_if_eq (tgt := 81) C0 dX4_spread_28 (by decide) (fun h28 => ?_) (fun h28 => ?_)
        · skip
          have gb := hbit_f h28
          refine ww_iinc (d := 1) C0 dX4_spread_81 rfl rfl rfl ?_
          simp only [List.set_cons_zero, List.set_cons_succ]
          refine ww_goto (tgt := 6) C0 dX4_spread_84 (by decide) ?_
          exact ww_back ih ⟨Or.inr rfl, Or.inr rfl, Or.inr rfl, Or.inr rfl, Or.inr rfl, Or.inr (congrArg Value.int (by simp [sSpread, sSp1, *])), Or.inr (congrArg Value.int (nI_addE rfl rfl).symm), Or.inl rfl, Or.inl rfl, trivial⟩ rfl
        · skip
          have gb := hbit_t h28
          refine ww_aload_n C0 dX4_spread_31 rfl ?_
          refine ww_aload_n C0 dX4_spread_32 rfl ?_
          refine ww_get C0 (ci := 4) (C := RX4) (T := TX4) (N := 14) ku_X4 0 rfl rfl 4 (by decide) kw_X4_34 rfl dX4_spread_33 ?_
          refine ww_iload_n C0 dX4_spread_36 rfl ?_
          refine ww_iload C0 dX4_spread_37 rfl ?_
          refine ww_iload C0 dX4_spread_39 rfl ?_
          refine ww_iload_n C0 dX4_spread_41 rfl ?_
          refine ww_callVi C0 (qc := (RX4, TX4, 14)) 0 4 (c_X4_forbiddersFrom l D cI cZ cQ hnm hna hk) kd_X4_forbiddersFrom kw_X4_243 km_X4_forbiddersFrom kl_X4_forbiddersFrom ki_X4 hd_X4_forbiddersFrom rfl rfl ⟨Nat.le_of_ble_eq_true rfl, Nat.le_of_ble_eq_true rfl, rfl, rfl⟩ (Nat.le_of_ble_eq_true rfl) dX4_spread_42 rfl rfl rfl ⟨Nat.zero_le _, Nat.zero_le _⟩ ?_
          refine ww_istore (i := 8) C0 dX4_spread_45 (Nat.le_of_ble_eq_true rfl) rfl ?_
          simp only [List.set_cons_zero, List.set_cons_succ]
          refine ww_iload C0 dX4_spread_47 rfl ?_
          refine ww_iconst (v := (-1)) C0 dX4_spread_49 rfl ?_
          refine ww_icmp_eq (tgt := 75) C0 dX4_spread_50 (by decide) (fun h50 => ?_) (fun h50 => ?_)
          · skip
            refine ww_iinc (d := 1) C0 dX4_spread_75 rfl rfl rfl ?_
            simp only [List.set_cons_zero, List.set_cons_succ]
            refine ww_goto (tgt := 16) C0 dX4_spread_78 (by decide) ?_
            refine ww_cong (lo' := [_, _, _, _, _, _, _, .int 1, _]) ?_ (by rfl) rfl rfl
            refine ww_iload C0 dX4_spread_16 rfl ?_
            refine ww_iconst (v := (1)) C0 dX4_spread_18 rfl ?_
            refine ww_icmp_gt (tgt := 81) C0 dX4_spread_19 (by decide) (fun h19 => ?_) (fun h19 => ?_)
            · skip
              replace h19 := (nI_ltE (a := 1) (b := 1) rfl rfl (by omega) (by omega)).mp h19
              exfalso; omega
            · skip
              replace h19 := (not_congr (nI_ltE (a := 1) (b := 1) rfl rfl (by omega) (by omega))).mp h19
              refine ww_iload_n C0 dX4_spread_22 rfl ?_
              refine ww_iload C0 dX4_spread_23 rfl ?_
              refine ww_ishr C0 dX4_spread_25 ?_
              refine ww_iconst (v := (1)) C0 dX4_spread_26 rfl ?_
              refine ww_iand C0 dX4_spread_27 ?_
              refine ww_if_eq (tgt := 81) C0 dX4_spread_28 (by decide) (fun h28 => ?_) (fun h28 => ?_)
              · skip
                exact absurd gb (by rw [hbit_f h28]; decide)
              · skip
                refine ww_aload_n C0 dX4_spread_31 rfl ?_
                refine ww_aload_n C0 dX4_spread_32 rfl ?_
                refine ww_get C0 (ci := 4) (C := RX4) (T := TX4) (N := 14) ku_X4 0 rfl rfl 4 (by decide) kw_X4_34 rfl dX4_spread_33 ?_
                refine ww_iload_n C0 dX4_spread_36 rfl ?_
                refine ww_iload C0 dX4_spread_37 rfl ?_
                refine ww_iload C0 dX4_spread_39 rfl ?_
                refine ww_iload_n C0 dX4_spread_41 rfl ?_
                refine ww_callVi C0 (qc := (RX4, TX4, 14)) 0 4 (c_X4_forbiddersFrom l D cI cZ cQ hnm hna hk) kd_X4_forbiddersFrom kw_X4_243 km_X4_forbiddersFrom kl_X4_forbiddersFrom ki_X4 hd_X4_forbiddersFrom rfl rfl ⟨Nat.le_of_ble_eq_true rfl, Nat.le_of_ble_eq_true rfl, rfl, rfl⟩ (Nat.le_of_ble_eq_true rfl) dX4_spread_42 rfl rfl rfl ⟨Nat.zero_le _, Nat.zero_le _⟩ ?_
                refine ww_istore (i := 8) C0 dX4_spread_45 (Nat.le_of_ble_eq_true rfl) rfl ?_
                simp only [List.set_cons_zero, List.set_cons_succ]
                refine ww_iload C0 dX4_spread_47 rfl ?_
                refine ww_iconst (v := (-1)) C0 dX4_spread_49 rfl ?_
                refine ww_icmp_eq (tgt := 75) C0 dX4_spread_50 (by decide) (fun h50 => ?_) (fun h50 => ?_)
                · skip
                  refine ww_iinc (d := 1) C0 dX4_spread_75 rfl rfl rfl ?_
                  simp only [List.set_cons_zero, List.set_cons_succ]
                  refine ww_goto (tgt := 16) C0 dX4_spread_78 (by decide) ?_
                  refine ww_cong (lo' := [_, _, _, _, _, _, _, .int 2, _]) ?_ (by rfl) rfl rfl
                  refine ww_iload C0 dX4_spread_16 rfl ?_
                  refine ww_iconst (v := (1)) C0 dX4_spread_18 rfl ?_
                  refine ww_icmp_gt (tgt := 81) C0 dX4_spread_19 (by decide) (fun h19 => ?_) (fun h19 => ?_)
                  · skip
                    replace h19 := (nI_ltE (a := 1) (b := 2) rfl rfl (by omega) (by omega)).mp h19
                    refine ww_iinc (d := 1) C0 dX4_spread_81 rfl rfl rfl ?_
                    simp only [List.set_cons_zero, List.set_cons_succ]
                    refine ww_goto (tgt := 6) C0 dX4_spread_84 (by decide) ?_
                    exact ww_back ih ⟨Or.inr rfl, Or.inr rfl, Or.inr rfl, Or.inr rfl, Or.inr rfl, Or.inr (congrArg Value.int (by simp [sSpread, sSp1, *])), Or.inr (congrArg Value.int (nI_addE rfl rfl).symm), Or.inl rfl, Or.inl rfl, trivial⟩ rfl
                  · skip
                    replace h19 := (not_congr (nI_ltE (a := 1) (b := 2) rfl rfl (by omega) (by omega))).mp h19
                    exfalso; omega
                · skip
                  refine ww_iload C0 dX4_spread_53 rfl ?_
                  refine ww_iload C0 dX4_spread_55 rfl ?_
                  refine ww_iand C0 dX4_spread_57 ?_
                  refine ww_if_ne (tgt := 75) C0 dX4_spread_58 (by decide) (fun h58 => ?_) (fun h58 => ?_)
                  · skip
                    refine ww_iinc (d := 1) C0 dX4_spread_75 rfl rfl rfl ?_
                    simp only [List.set_cons_zero, List.set_cons_succ]
                    refine ww_goto (tgt := 16) C0 dX4_spread_78 (by decide) ?_
                    refine ww_cong (lo' := [_, _, _, _, _, _, _, .int 2, _]) ?_ (by rfl) rfl rfl
                    refine ww_iload C0 dX4_spread_16 rfl ?_
                    refine ww_iconst (v := (1)) C0 dX4_spread_18 rfl ?_
                    refine ww_icmp_gt (tgt := 81) C0 dX4_spread_19 (by decide) (fun h19 => ?_) (fun h19 => ?_)
                    · skip
                      replace h19 := (nI_ltE (a := 1) (b := 2) rfl rfl (by omega) (by omega)).mp h19
                      refine ww_iinc (d := 1) C0 dX4_spread_81 rfl rfl rfl ?_
                      simp only [List.set_cons_zero, List.set_cons_succ]
                      refine ww_goto (tgt := 6) C0 dX4_spread_84 (by decide) ?_
                      exact ww_back ih ⟨Or.inr rfl, Or.inr rfl, Or.inr rfl, Or.inr rfl, Or.inr rfl, Or.inr (congrArg Value.int (by simp [sSpread, sSp1, *])), Or.inr (congrArg Value.int (nI_addE rfl rfl).symm), Or.inl rfl, Or.inl rfl, trivial⟩ rfl
                    · skip
                      replace h19 := (not_congr (nI_ltE (a := 1) (b := 2) rfl rfl (by omega) (by omega))).mp h19
                      exfalso; omega
                  · skip
                    refine ww_iload C0 dX4_spread_61 rfl ?_
                    refine ww_iconst (v := (1)) C0 dX4_spread_63 rfl ?_
                    refine ww_iload C0 dX4_spread_64 rfl ?_
                    refine ww_iload C0 dX4_spread_66 rfl ?_
                    refine ww_callSi C0 (c_X4_nextStone l D cI cZ cQ) kd_X4_nextStone kw_X4_240 ks_X4_nextStone ki_X4 hd_X4_nextStone ⟨Nat.le_of_ble_eq_true rfl, Nat.le_of_ble_eq_true rfl, rfl, rfl⟩ (Nat.le_of_ble_eq_true rfl) dX4_spread_68 rfl rfl ⟨Nat.zero_le _, Nat.zero_le _⟩ ?_
                    refine ww_ishl C0 dX4_spread_71 ?_
                    refine ww_ior C0 dX4_spread_72 ?_
                    refine ww_istore (i := 5) C0 dX4_spread_73 (Nat.le_of_ble_eq_true rfl) rfl ?_
                    simp only [List.set_cons_zero, List.set_cons_succ]
                    refine ww_iinc (d := 1) C0 dX4_spread_75 rfl rfl rfl ?_
                    simp only [List.set_cons_zero, List.set_cons_succ]
                    refine ww_goto (tgt := 16) C0 dX4_spread_78 (by decide) ?_
                    refine ww_cong (lo' := [_, _, _, _, _, _, _, .int 2, _]) ?_ (by rfl) rfl rfl
                    refine ww_iload C0 dX4_spread_16 rfl ?_
                    refine ww_iconst (v := (1)) C0 dX4_spread_18 rfl ?_
                    refine ww_icmp_gt (tgt := 81) C0 dX4_spread_19 (by decide) (fun h19 => ?_) (fun h19 => ?_)
                    · skip
                      replace h19 := (nI_ltE (a := 1) (b := 2) rfl rfl (by omega) (by omega)).mp h19
                      refine ww_iinc (d := 1) C0 dX4_spread_81 rfl rfl rfl ?_
                      simp only [List.set_cons_zero, List.set_cons_succ]
                      refine ww_goto (tgt := 6) C0 dX4_spread_84 (by decide) ?_
                      exact ww_back ih ⟨Or.inr rfl, Or.inr rfl, Or.inr rfl, Or.inr rfl, Or.inr rfl, Or.inr (congrArg Value.int (by simp [sSpread, sSp1, *])), Or.inr (congrArg Value.int (nI_addE rfl rfl).symm), Or.inl rfl, Or.inl rfl, trivial⟩ rfl
                    · skip
                      replace h19 := (not_congr (nI_ltE (a := 1) (b := 2) rfl rfl (by omega) (by omega))).mp h19
                      exfalso; omega
          · skip
            refine ww_iload C0 dX4_spread_53 rfl ?_
            refine ww_iload C0 dX4_spread_55 rfl ?_
            refine ww_iand C0 dX4_spread_57 ?_
            refine ww_if_ne (tgt := 75) C0 dX4_spread_58 (by decide) (fun h58 => ?_) (fun h58 => ?_)
            · skip
              refine ww_iinc (d := 1) C0 dX4_spread_75 rfl rfl rfl ?_
              simp only [List.set_cons_zero, List.set_cons_succ]
              refine ww_goto (tgt := 16) C0 dX4_spread_78 (by decide) ?_
              refine ww_cong (lo' := [_, _, _, _, _, _, _, .int 1, _]) ?_ (by rfl) rfl rfl
              refine ww_iload C0 dX4_spread_16 rfl ?_
              refine ww_iconst (v := (1)) C0 dX4_spread_18 rfl ?_
              refine ww_icmp_gt (tgt := 81) C0 dX4_spread_19 (by decide) (fun h19 => ?_) (fun h19 => ?_)
              · skip
                replace h19 := (nI_ltE (a := 1) (b := 1) rfl rfl (by omega) (by omega)).mp h19
                exfalso; omega
              · skip
                replace h19 := (not_congr (nI_ltE (a := 1) (b := 1) rfl rfl (by omega) (by omega))).mp h19
                refine ww_iload_n C0 dX4_spread_22 rfl ?_
                refine ww_iload C0 dX4_spread_23 rfl ?_
                refine ww_ishr C0 dX4_spread_25 ?_
                refine ww_iconst (v := (1)) C0 dX4_spread_26 rfl ?_
                refine ww_iand C0 dX4_spread_27 ?_
                refine ww_if_eq (tgt := 81) C0 dX4_spread_28 (by decide) (fun h28 => ?_) (fun h28 => ?_)
                · skip
                  exact absurd gb (by rw [hbit_f h28]; decide)
                · skip
                  refine ww_aload_n C0 dX4_spread_31 rfl ?_
                  refine ww_aload_n C0 dX4_spread_32 rfl ?_
                  refine ww_get C0 (ci := 4) (C := RX4) (T := TX4) (N := 14) ku_X4 0 rfl rfl 4 (by decide) kw_X4_34 rfl dX4_spread_33 ?_
                  refine ww_iload_n C0 dX4_spread_36 rfl ?_
                  refine ww_iload C0 dX4_spread_37 rfl ?_
                  refine ww_iload C0 dX4_spread_39 rfl ?_
                  refine ww_iload_n C0 dX4_spread_41 rfl ?_
                  refine ww_callVi C0 (qc := (RX4, TX4, 14)) 0 4 (c_X4_forbiddersFrom l D cI cZ cQ hnm hna hk) kd_X4_forbiddersFrom kw_X4_243 km_X4_forbiddersFrom kl_X4_forbiddersFrom ki_X4 hd_X4_forbiddersFrom rfl rfl ⟨Nat.le_of_ble_eq_true rfl, Nat.le_of_ble_eq_true rfl, rfl, rfl⟩ (Nat.le_of_ble_eq_true rfl) dX4_spread_42 rfl rfl rfl ⟨Nat.zero_le _, Nat.zero_le _⟩ ?_
                  refine ww_istore (i := 8) C0 dX4_spread_45 (Nat.le_of_ble_eq_true rfl) rfl ?_
                  simp only [List.set_cons_zero, List.set_cons_succ]
                  refine ww_iload C0 dX4_spread_47 rfl ?_
                  refine ww_iconst (v := (-1)) C0 dX4_spread_49 rfl ?_
                  refine ww_icmp_eq (tgt := 75) C0 dX4_spread_50 (by decide) (fun h50 => ?_) (fun h50 => ?_)
                  · skip
                    refine ww_iinc (d := 1) C0 dX4_spread_75 rfl rfl rfl ?_
                    simp only [List.set_cons_zero, List.set_cons_succ]
                    refine ww_goto (tgt := 16) C0 dX4_spread_78 (by decide) ?_
                    refine ww_cong (lo' := [_, _, _, _, _, _, _, .int 2, _]) ?_ (by rfl) rfl rfl
                    refine ww_iload C0 dX4_spread_16 rfl ?_
                    refine ww_iconst (v := (1)) C0 dX4_spread_18 rfl ?_
                    refine ww_icmp_gt (tgt := 81) C0 dX4_spread_19 (by decide) (fun h19 => ?_) (fun h19 => ?_)
                    · skip
                      replace h19 := (nI_ltE (a := 1) (b := 2) rfl rfl (by omega) (by omega)).mp h19
                      refine ww_iinc (d := 1) C0 dX4_spread_81 rfl rfl rfl ?_
                      simp only [List.set_cons_zero, List.set_cons_succ]
                      refine ww_goto (tgt := 6) C0 dX4_spread_84 (by decide) ?_
                      exact ww_back ih ⟨Or.inr rfl, Or.inr rfl, Or.inr rfl, Or.inr rfl, Or.inr rfl, Or.inr (congrArg Value.int (by simp [sSpread, sSp1, *])), Or.inr (congrArg Value.int (nI_addE rfl rfl).symm), Or.inl rfl, Or.inl rfl, trivial⟩ rfl
                    · skip
                      replace h19 := (not_congr (nI_ltE (a := 1) (b := 2) rfl rfl (by omega) (by omega))).mp h19
                      exfalso; omega
                  · skip
                    refine ww_iload C0 dX4_spread_53 rfl ?_
                    refine ww_iload C0 dX4_spread_55 rfl ?_
                    refine ww_iand C0 dX4_spread_57 ?_
                    refine ww_if_ne (tgt := 75) C0 dX4_spread_58 (by decide) (fun h58 => ?_) (fun h58 => ?_)
                    · skip
                      refine ww_iinc (d := 1) C0 dX4_spread_75 rfl rfl rfl ?_
                      simp only [List.set_cons_zero, List.set_cons_succ]
                      refine ww_goto (tgt := 16) C0 dX4_spread_78 (by decide) ?_
                      refine ww_cong (lo' := [_, _, _, _, _, _, _, .int 2, _]) ?_ (by rfl) rfl rfl
                      refine ww_iload C0 dX4_spread_16 rfl ?_
                      refine ww_iconst (v := (1)) C0 dX4_spread_18 rfl ?_
                      refine ww_icmp_gt (tgt := 81) C0 dX4_spread_19 (by decide) (fun h19 => ?_) (fun h19 => ?_)
                      · skip
                        replace h19 := (nI_ltE (a := 1) (b := 2) rfl rfl (by omega) (by omega)).mp h19
                        refine ww_iinc (d := 1) C0 dX4_spread_81 rfl rfl rfl ?_
                        simp only [List.set_cons_zero, List.set_cons_succ]
                        refine ww_goto (tgt := 6) C0 dX4_spread_84 (by decide) ?_
                        exact ww_back ih ⟨Or.inr rfl, Or.inr rfl, Or.inr rfl, Or.inr rfl, Or.inr rfl, Or.inr (congrArg Value.int (by simp [sSpread, sSp1, *])), Or.inr (congrArg Value.int (nI_addE rfl rfl).symm), Or.inl rfl, Or.inl rfl, trivial⟩ rfl
                      · skip
                        replace h19 := (not_congr (nI_ltE (a := 1) (b := 2) rfl rfl (by omega) (by omega))).mp h19
                        exfalso; omega
                    · skip
                      refine ww_iload C0 dX4_spread_61 rfl ?_
                      refine ww_iconst (v := (1)) C0 dX4_spread_63 rfl ?_
                      refine ww_iload C0 dX4_spread_64 rfl ?_
                      refine ww_iload C0 dX4_spread_66 rfl ?_
                      refine ww_callSi C0 (c_X4_nextStone l D cI cZ cQ) kd_X4_nextStone kw_X4_240 ks_X4_nextStone ki_X4 hd_X4_nextStone ⟨Nat.le_of_ble_eq_true rfl, Nat.le_of_ble_eq_true rfl, rfl, rfl⟩ (Nat.le_of_ble_eq_true rfl) dX4_spread_68 rfl rfl ⟨Nat.zero_le _, Nat.zero_le _⟩ ?_
                      refine ww_ishl C0 dX4_spread_71 ?_
                      refine ww_ior C0 dX4_spread_72 ?_
                      refine ww_istore (i := 5) C0 dX4_spread_73 (Nat.le_of_ble_eq_true rfl) rfl ?_
                      simp only [List.set_cons_zero, List.set_cons_succ]
                      refine ww_iinc (d := 1) C0 dX4_spread_75 rfl rfl rfl ?_
                      simp only [List.set_cons_zero, List.set_cons_succ]
                      refine ww_goto (tgt := 16) C0 dX4_spread_78 (by decide) ?_
                      refine ww_cong (lo' := [_, _, _, _, _, _, _, .int 2, _]) ?_ (by rfl) rfl rfl
                      refine ww_iload C0 dX4_spread_16 rfl ?_
                      refine ww_iconst (v := (1)) C0 dX4_spread_18 rfl ?_
                      refine ww_icmp_gt (tgt := 81) C0 dX4_spread_19 (by decide) (fun h19 => ?_) (fun h19 => ?_)
                      · skip
                        replace h19 := (nI_ltE (a := 1) (b := 2) rfl rfl (by omega) (by omega)).mp h19
                        refine ww_iinc (d := 1) C0 dX4_spread_81 rfl rfl rfl ?_
                        simp only [List.set_cons_zero, List.set_cons_succ]
                        refine ww_goto (tgt := 6) C0 dX4_spread_84 (by decide) ?_
                        exact ww_back ih ⟨Or.inr rfl, Or.inr rfl, Or.inr rfl, Or.inr rfl, Or.inr rfl, Or.inr (congrArg Value.int (by simp [sSpread, sSp1, *])), Or.inr (congrArg Value.int (nI_addE rfl rfl).symm), Or.inl rfl, Or.inl rfl, trivial⟩ rfl
                      · skip
                        replace h19 := (not_congr (nI_ltE (a := 1) (b := 2) rfl rfl (by omega) (by omega))).mp h19
                        exfalso; omega
            · skip
              refine ww_iload C0 dX4_spread_61 rfl ?_
              refine ww_iconst (v := (1)) C0 dX4_spread_63 rfl ?_
              refine ww_iload C0 dX4_spread_64 rfl ?_
              refine ww_iload C0 dX4_spread_66 rfl ?_
              refine ww_callSi C0 (c_X4_nextStone l D cI cZ cQ) kd_X4_nextStone kw_X4_240 ks_X4_nextStone ki_X4 hd_X4_nextStone ⟨Nat.le_of_ble_eq_true rfl, Nat.le_of_ble_eq_true rfl, rfl, rfl⟩ (Nat.le_of_ble_eq_true rfl) dX4_spread_68 rfl rfl ⟨Nat.zero_le _, Nat.zero_le _⟩ ?_
              refine ww_ishl C0 dX4_spread_71 ?_
              refine ww_ior C0 dX4_spread_72 ?_
              refine ww_istore (i := 5) C0 dX4_spread_73 (Nat.le_of_ble_eq_true rfl) rfl ?_
              simp only [List.set_cons_zero, List.set_cons_succ]
              refine ww_iinc (d := 1) C0 dX4_spread_75 rfl rfl rfl ?_
              simp only [List.set_cons_zero, List.set_cons_succ]
              refine ww_goto (tgt := 16) C0 dX4_spread_78 (by decide) ?_
              refine ww_cong (lo' := [_, _, _, _, _, _, _, .int 1, _]) ?_ (by rfl) rfl rfl
              refine ww_iload C0 dX4_spread_16 rfl ?_
              refine ww_iconst (v := (1)) C0 dX4_spread_18 rfl ?_
              refine ww_icmp_gt (tgt := 81) C0 dX4_spread_19 (by decide) (fun h19 => ?_) (fun h19 => ?_)
              · skip
                replace h19 := (nI_ltE (a := 1) (b := 1) rfl rfl (by omega) (by omega)).mp h19
                exfalso; omega
              · skip
                replace h19 := (not_congr (nI_ltE (a := 1) (b := 1) rfl rfl (by omega) (by omega))).mp h19
                refine ww_iload_n C0 dX4_spread_22 rfl ?_
                refine ww_iload C0 dX4_spread_23 rfl ?_
                refine ww_ishr C0 dX4_spread_25 ?_
                refine ww_iconst (v := (1)) C0 dX4_spread_26 rfl ?_
                refine ww_iand C0 dX4_spread_27 ?_
                refine ww_if_eq (tgt := 81) C0 dX4_spread_28 (by decide) (fun h28 => ?_) (fun h28 => ?_)
                · skip
                  exact absurd gb (by rw [hbit_f h28]; decide)
                · skip
                  refine ww_aload_n C0 dX4_spread_31 rfl ?_
                  refine ww_aload_n C0 dX4_spread_32 rfl ?_
                  refine ww_get C0 (ci := 4) (C := RX4) (T := TX4) (N := 14) ku_X4 0 rfl rfl 4 (by decide) kw_X4_34 rfl dX4_spread_33 ?_
                  refine ww_iload_n C0 dX4_spread_36 rfl ?_
                  refine ww_iload C0 dX4_spread_37 rfl ?_
                  refine ww_iload C0 dX4_spread_39 rfl ?_
                  refine ww_iload_n C0 dX4_spread_41 rfl ?_
                  refine ww_callVi C0 (qc := (RX4, TX4, 14)) 0 4 (c_X4_forbiddersFrom l D cI cZ cQ hnm hna hk) kd_X4_forbiddersFrom kw_X4_243 km_X4_forbiddersFrom kl_X4_forbiddersFrom ki_X4 hd_X4_forbiddersFrom rfl rfl ⟨Nat.le_of_ble_eq_true rfl, Nat.le_of_ble_eq_true rfl, rfl, rfl⟩ (Nat.le_of_ble_eq_true rfl) dX4_spread_42 rfl rfl rfl ⟨Nat.zero_le _, Nat.zero_le _⟩ ?_
                  refine ww_istore (i := 8) C0 dX4_spread_45 (Nat.le_of_ble_eq_true rfl) rfl ?_
                  simp only [List.set_cons_zero, List.set_cons_succ]
                  refine ww_iload C0 dX4_spread_47 rfl ?_
                  refine ww_iconst (v := (-1)) C0 dX4_spread_49 rfl ?_
                  refine ww_icmp_eq (tgt := 75) C0 dX4_spread_50 (by decide) (fun h50 => ?_) (fun h50 => ?_)
                  · skip
                    refine ww_iinc (d := 1) C0 dX4_spread_75 rfl rfl rfl ?_
                    simp only [List.set_cons_zero, List.set_cons_succ]
                    refine ww_goto (tgt := 16) C0 dX4_spread_78 (by decide) ?_
                    refine ww_cong (lo' := [_, _, _, _, _, _, _, .int 2, _]) ?_ (by rfl) rfl rfl
                    refine ww_iload C0 dX4_spread_16 rfl ?_
                    refine ww_iconst (v := (1)) C0 dX4_spread_18 rfl ?_
                    refine ww_icmp_gt (tgt := 81) C0 dX4_spread_19 (by decide) (fun h19 => ?_) (fun h19 => ?_)
                    · skip
                      replace h19 := (nI_ltE (a := 1) (b := 2) rfl rfl (by omega) (by omega)).mp h19
                      refine ww_iinc (d := 1) C0 dX4_spread_81 rfl rfl rfl ?_
                      simp only [List.set_cons_zero, List.set_cons_succ]
                      refine ww_goto (tgt := 6) C0 dX4_spread_84 (by decide) ?_
                      exact ww_back ih ⟨Or.inr rfl, Or.inr rfl, Or.inr rfl, Or.inr rfl, Or.inr rfl, Or.inr (congrArg Value.int (by simp [sSpread, sSp1, *])), Or.inr (congrArg Value.int (nI_addE rfl rfl).symm), Or.inl rfl, Or.inl rfl, trivial⟩ rfl
                    · skip
                      replace h19 := (not_congr (nI_ltE (a := 1) (b := 2) rfl rfl (by omega) (by omega))).mp h19
                      exfalso; omega
                  · skip
                    refine ww_iload C0 dX4_spread_53 rfl ?_
                    refine ww_iload C0 dX4_spread_55 rfl ?_
                    refine ww_iand C0 dX4_spread_57 ?_
                    refine ww_if_ne (tgt := 75) C0 dX4_spread_58 (by decide) (fun h58 => ?_) (fun h58 => ?_)
                    · skip
                      refine ww_iinc (d := 1) C0 dX4_spread_75 rfl rfl rfl ?_
                      simp only [List.set_cons_zero, List.set_cons_succ]
                      refine ww_goto (tgt := 16) C0 dX4_spread_78 (by decide) ?_
                      refine ww_cong (lo' := [_, _, _, _, _, _, _, .int 2, _]) ?_ (by rfl) rfl rfl
                      refine ww_iload C0 dX4_spread_16 rfl ?_
                      refine ww_iconst (v := (1)) C0 dX4_spread_18 rfl ?_
                      refine ww_icmp_gt (tgt := 81) C0 dX4_spread_19 (by decide) (fun h19 => ?_) (fun h19 => ?_)
                      · skip
                        replace h19 := (nI_ltE (a := 1) (b := 2) rfl rfl (by omega) (by omega)).mp h19
                        refine ww_iinc (d := 1) C0 dX4_spread_81 rfl rfl rfl ?_
                        simp only [List.set_cons_zero, List.set_cons_succ]
                        refine ww_goto (tgt := 6) C0 dX4_spread_84 (by decide) ?_
                        exact ww_back ih ⟨Or.inr rfl, Or.inr rfl, Or.inr rfl, Or.inr rfl, Or.inr rfl, Or.inr (congrArg Value.int (by simp [sSpread, sSp1, *])), Or.inr (congrArg Value.int (nI_addE rfl rfl).symm), Or.inl rfl, Or.inl rfl, trivial⟩ rfl
                      · skip
                        replace h19 := (not_congr (nI_ltE (a := 1) (b := 2) rfl rfl (by omega) (by omega))).mp h19
                        exfalso; omega
                    · skip
                      refine ww_iload C0 dX4_spread_61 rfl ?_
                      refine ww_iconst (v := (1)) C0 dX4_spread_63 rfl ?_
                      refine ww_iload C0 dX4_spread_64 rfl ?_
                      refine ww_iload C0 dX4_spread_66 rfl ?_
                      refine ww_callSi C0 (c_X4_nextStone l D cI cZ cQ) kd_X4_nextStone kw_X4_240 ks_X4_nextStone ki_X4 hd_X4_nextStone ⟨Nat.le_of_ble_eq_true rfl, Nat.le_of_ble_eq_true rfl, rfl, rfl⟩ (Nat.le_of_ble_eq_true rfl) dX4_spread_68 rfl rfl ⟨Nat.zero_le _, Nat.zero_le _⟩ ?_
                      refine ww_ishl C0 dX4_spread_71 ?_
                      refine ww_ior C0 dX4_spread_72 ?_
                      refine ww_istore (i := 5) C0 dX4_spread_73 (Nat.le_of_ble_eq_true rfl) rfl ?_
                      simp only [List.set_cons_zero, List.set_cons_succ]
                      refine ww_iinc (d := 1) C0 dX4_spread_75 rfl rfl rfl ?_
                      simp only [List.set_cons_zero, List.set_cons_succ]
                      refine ww_goto (tgt := 16) C0 dX4_spread_78 (by decide) ?_
                      refine ww_cong (lo' := [_, _, _, _, _, _, _, .int 2, _]) ?_ (by rfl) rfl rfl
                      refine ww_iload C0 dX4_spread_16 rfl ?_
                      refine ww_iconst (v := (1)) C0 dX4_spread_18 rfl ?_
                      refine ww_icmp_gt (tgt := 81) C0 dX4_spread_19 (by decide) (fun h19 => ?_) (fun h19 => ?_)
                      · skip
                        replace h19 := (nI_ltE (a := 1) (b := 2) rfl rfl (by omega) (by omega)).mp h19
                        refine ww_iinc (d := 1) C0 dX4_spread_81 rfl rfl rfl ?_
                        simp only [List.set_cons_zero, List.set_cons_succ]
                        refine ww_goto (tgt := 6) C0 dX4_spread_84 (by decide) ?_
                        exact ww_back ih ⟨Or.inr rfl, Or.inr rfl, Or.inr rfl, Or.inr rfl, Or.inr rfl, Or.inr (congrArg Value.int (by simp [sSpread, sSp1, *])), Or.inr (congrArg Value.int (nI_addE rfl rfl).symm), Or.inl rfl, Or.inl rfl, trivial⟩ rfl
                      · skip
                        replace h19 := (not_congr (nI_ltE (a := 1) (b := 2) rfl rfl (by omega) (by omega))).mp h19
                        exfalso; omega
  · skip
    refine ww_iload C0 dX4_spread_6 rfl ?_
    refine ww_bipush (v := (10)) C0 dX4_spread_8 rfl ?_
    refine ww_icmp_ge (tgt := 87) C0 dX4_spread_10 (by decide) (fun h10 => ?_) (fun h10 => ?_)
    · skip
      replace h10 := (nI_leE (a := 10) (b := 10) rfl rfl (by omega) (by omega)).mp h10
      refine ww_iload C0 dX4_spread_87 rfl ?_
      exact ww_iret C0 hr dX4_spread_89 (by rfl) (by rfl)
    · skip
      replace h10 := (not_congr (nI_leE (a := 10) (b := 10) rfl rfl (by omega) (by omega))).mp h10
      exfalso; omega

set_option maxHeartbeats 4000000 in
set_option maxRecDepth 100000 in
theorem c_X4_keepsAllIfShown (l : Launch) (D : va_G) (cI cZ cQ : ClassId) {aX aT aL aC aN aY aA aO aK aG aW al0 al1 al2 an0 an1 an2 : Nat} {nm fa ac na : Nat} {hN bN : Int32} {sd : Int64} {fl0 fl1 fl2 fC fn0 fn1 fn2 : Nat → Int32} {rest : va_W} {k : Nat} {ta : Int32} (hnm : nm ≤ 5) (hna : na ≤ 5) (hk : k < nm) : MI l D [(cI, .int), (cZ, .boolean), (cQ, .object "MulesRemember$State")] yX4_keepsAllIfShown cX4_keepsAllIfShown 6 .boolean ({ frames := 4, cells := 0, slots := 0, locals := 102 } : Room) [.ref aX, .int (nI k), .int ta] ((aX, .inr (4, [.ref aT, .ref aL, .ref aC, .int (nI nm), .ref aN, .ref aY, .ref aA, .int (nI fa), .int (nI ac), .ref aO, .ref aK, .ref aG, .ref aW, .long sd])) :: (aL, .inr (0, [.ref al0, .ref al1, .ref al2, .int (nI na)])) :: (al0, .inl (cI, 5, .inl (fl0))) :: (al1, .inl (cI, 5, .inl (fl1))) :: (al2, .inl (cI, 5, .inl (fl2))) :: (aC, .inl (cI, 5, .inl (fC))) :: (aN, .inr (2, [.ref an0, .ref an1, .ref an2, .int hN, .int bN])) :: (an0, .inl (cI, 5, .inl (fn0))) :: (an1, .inl (cI, 5, .inl (fn1))) :: (an2, .inl (cI, 5, .inl (fn2))) :: rest) (bI (sKeep1 (sFF nm na fl0 fl1 fl2 fC fn0 k (fn0 k) 0 hN) (sKnown na (fn1 k) (fn2 k ||| ta)) && sKeep1 (sFF nm na fl0 fl1 fl2 fC fn0 k (fn0 k) 1 hN) (sKnown na (fn1 k) (fn2 k ||| ta)))) ((aX, .inr (4, [.ref aT, .ref aL, .ref aC, .int (nI nm), .ref aN, .ref aY, .ref aA, .int (nI fa), .int (nI ac), .ref aO, .ref aK, .ref aG, .ref aW, .long sd])) :: (aL, .inr (0, [.ref al0, .ref al1, .ref al2, .int (nI na)])) :: (al0, .inl (cI, 5, .inl (fl0))) :: (al1, .inl (cI, 5, .inl (fl1))) :: (al2, .inl (cI, 5, .inl (fl2))) :: (aC, .inl (cI, 5, .inl (fC))) :: (aN, .inr (2, [.ref an0, .ref an1, .ref an2, .int hN, .int bN])) :: (an0, .inl (cI, 5, .inl (fn0))) :: (an1, .inl (cI, 5, .inl (fn1))) :: (an2, .inl (cI, 5, .inl (fn2))) :: rest) := by
  refine MI.of [.ref aX, .int (nI k), .int ta, .null, .null, .null] (by decide) (Nat.le_of_ble_eq_true rfl) rfl ?_
  intro p e s m below meth c A C0 hr
  refine ww_aload_n C0 dX4_keepsAllIfShown_0 rfl ?_
  refine ww_iload_n C0 dX4_keepsAllIfShown_1 rfl ?_
  refine ww_callVi C0 (qc := (RX4, TX4, 14)) 0 4 (c_X4_isMule l D cI cZ cQ hnm) kd_X4_isMule kw_X4_113 km_X4_isMule kl_X4_isMule ki_X4 hd_X4_isMule rfl rfl ⟨Nat.le_of_ble_eq_true rfl, Nat.le_of_ble_eq_true rfl, rfl, rfl⟩ (Nat.le_of_ble_eq_true rfl) dX4_keepsAllIfShown_2 rfl rfl rfl ⟨Nat.zero_le _, Nat.zero_le _⟩ ?_
  refine ww_bif_ne (tgt := 10) C0 dX4_keepsAllIfShown_5 (by decide) (fun h5 => ?_) (fun h5 => ?_)
  · skip
    refine ww_aload_n C0 dX4_keepsAllIfShown_10 rfl ?_
    refine ww_aload_n C0 dX4_keepsAllIfShown_11 rfl ?_
    refine ww_get C0 (ci := 4) (C := RX4) (T := TX4) (N := 14) ku_X4 0 rfl rfl 4 (by decide) kw_X4_34 rfl dX4_keepsAllIfShown_12 ?_
    refine ww_getN C0 (ci := 2) (C := RX2) (T := TX2) (N := 5) ku_X2 6 rfl rfl 1 (by decide) kn_X4_117 rfl dX4_keepsAllIfShown_15 ?_
    refine ww_iload_n C0 dX4_keepsAllIfShown_18 rfl ?_
    refine ww_iald_n (j := k) C0 8 0 rfl rfl rfl (by omega) (by decide) dX4_keepsAllIfShown_19 ?_
    refine ww_aload_n C0 dX4_keepsAllIfShown_20 rfl ?_
    refine ww_get C0 (ci := 4) (C := RX4) (T := TX4) (N := 14) ku_X4 0 rfl rfl 4 (by decide) kw_X4_34 rfl dX4_keepsAllIfShown_21 ?_
    refine ww_getN C0 (ci := 2) (C := RX2) (T := TX2) (N := 5) ku_X2 6 rfl rfl 2 (by decide) kn_X4_120 rfl dX4_keepsAllIfShown_24 ?_
    refine ww_iload_n C0 dX4_keepsAllIfShown_27 rfl ?_
    refine ww_iald_n (j := k) C0 9 0 rfl rfl rfl (by omega) (by decide) dX4_keepsAllIfShown_28 ?_
    refine ww_iload_n C0 dX4_keepsAllIfShown_29 rfl ?_
    refine ww_ior C0 dX4_keepsAllIfShown_30 ?_
    refine ww_callVi C0 (qc := (RX4, TX4, 14)) 0 4 (c_X4_knownIfShown l D cI cZ cQ hna) kd_X4_knownIfShown kw_X4_234 km_X4_knownIfShown kl_X4_knownIfShown ki_X4 hd_X4_knownIfShown rfl rfl ⟨Nat.le_of_ble_eq_true rfl, Nat.le_of_ble_eq_true rfl, rfl, rfl⟩ (Nat.le_of_ble_eq_true rfl) dX4_keepsAllIfShown_31 rfl rfl rfl ⟨Nat.zero_le _, Nat.zero_le _⟩ ?_
    refine ww_istore_n (i := 3) C0 dX4_keepsAllIfShown_34 rfl (Nat.le_of_ble_eq_true rfl) rfl ?_
    simp only [List.set_cons_zero, List.set_cons_succ]
    refine ww_iconst (v := (0)) C0 dX4_keepsAllIfShown_35 rfl ?_
    refine ww_istore (i := 4) C0 dX4_keepsAllIfShown_36 (Nat.le_of_ble_eq_true rfl) rfl ?_
    simp only [List.set_cons_zero, List.set_cons_succ]
    refine ww_cong (lo' := [_, _, _, _, .int 0, _]) ?_ (by rfl) rfl rfl
    refine ww_iload C0 dX4_keepsAllIfShown_38 rfl ?_
    refine ww_iconst (v := (1)) C0 dX4_keepsAllIfShown_40 rfl ?_
    refine ww_icmp_gt (tgt := 83) C0 dX4_keepsAllIfShown_41 (by decide) (fun h41 => ?_) (fun h41 => ?_)
    · skip
      replace h41 := (nI_ltE (a := 1) (b := 0) rfl rfl (by omega) (by omega)).mp h41
      exfalso; omega
    · skip
      replace h41 := (not_congr (nI_ltE (a := 1) (b := 0) rfl rfl (by omega) (by omega))).mp h41
      refine ww_aload_n C0 dX4_keepsAllIfShown_44 rfl ?_
      refine ww_aload_n C0 dX4_keepsAllIfShown_45 rfl ?_
      refine ww_get C0 (ci := 4) (C := RX4) (T := TX4) (N := 14) ku_X4 0 rfl rfl 4 (by decide) kw_X4_34 rfl dX4_keepsAllIfShown_46 ?_
      refine ww_iload_n C0 dX4_keepsAllIfShown_49 rfl ?_
      refine ww_iload C0 dX4_keepsAllIfShown_50 rfl ?_
      refine ww_callVi C0 (qc := (RX4, TX4, 14)) 0 4 (c_X4_forbidders l D cI cZ cQ hnm hna hk) kd_X4_forbidders kw_X4_131 km_X4_forbidders kl_X4_forbidders ki_X4 hd_X4_forbidders rfl rfl ⟨Nat.le_of_ble_eq_true rfl, Nat.le_of_ble_eq_true rfl, rfl, rfl⟩ (Nat.le_of_ble_eq_true rfl) dX4_keepsAllIfShown_52 rfl rfl rfl ⟨Nat.zero_le _, Nat.zero_le _⟩ ?_
      refine ww_istore (i := 5) C0 dX4_keepsAllIfShown_55 (Nat.le_of_ble_eq_true rfl) rfl ?_
      simp only [List.set_cons_zero, List.set_cons_succ]
      refine ww_iload C0 dX4_keepsAllIfShown_57 rfl ?_
      refine ww_iconst (v := (-1)) C0 dX4_keepsAllIfShown_59 rfl ?_
      refine ww_icmp_eq (tgt := 77) C0 dX4_keepsAllIfShown_60 (by decide) (fun h60 => ?_) (fun h60 => ?_)
      · skip
        refine ww_iinc (d := 1) C0 dX4_keepsAllIfShown_77 rfl rfl rfl ?_
        simp only [List.set_cons_zero, List.set_cons_succ]
        refine ww_goto (tgt := 38) C0 dX4_keepsAllIfShown_80 (by decide) ?_
        refine ww_cong (lo' := [_, _, _, _, .int 1, _]) ?_ (by rfl) rfl rfl
        refine ww_iload C0 dX4_keepsAllIfShown_38 rfl ?_
        refine ww_iconst (v := (1)) C0 dX4_keepsAllIfShown_40 rfl ?_
        refine ww_icmp_gt (tgt := 83) C0 dX4_keepsAllIfShown_41 (by decide) (fun h41 => ?_) (fun h41 => ?_)
        · skip
          replace h41 := (nI_ltE (a := 1) (b := 1) rfl rfl (by omega) (by omega)).mp h41
          exfalso; omega
        · skip
          replace h41 := (not_congr (nI_ltE (a := 1) (b := 1) rfl rfl (by omega) (by omega))).mp h41
          refine ww_aload_n C0 dX4_keepsAllIfShown_44 rfl ?_
          refine ww_aload_n C0 dX4_keepsAllIfShown_45 rfl ?_
          refine ww_get C0 (ci := 4) (C := RX4) (T := TX4) (N := 14) ku_X4 0 rfl rfl 4 (by decide) kw_X4_34 rfl dX4_keepsAllIfShown_46 ?_
          refine ww_iload_n C0 dX4_keepsAllIfShown_49 rfl ?_
          refine ww_iload C0 dX4_keepsAllIfShown_50 rfl ?_
          refine ww_callVi C0 (qc := (RX4, TX4, 14)) 0 4 (c_X4_forbidders l D cI cZ cQ hnm hna hk) kd_X4_forbidders kw_X4_131 km_X4_forbidders kl_X4_forbidders ki_X4 hd_X4_forbidders rfl rfl ⟨Nat.le_of_ble_eq_true rfl, Nat.le_of_ble_eq_true rfl, rfl, rfl⟩ (Nat.le_of_ble_eq_true rfl) dX4_keepsAllIfShown_52 rfl rfl rfl ⟨Nat.zero_le _, Nat.zero_le _⟩ ?_
          refine ww_istore (i := 5) C0 dX4_keepsAllIfShown_55 (Nat.le_of_ble_eq_true rfl) rfl ?_
          simp only [List.set_cons_zero, List.set_cons_succ]
          refine ww_iload C0 dX4_keepsAllIfShown_57 rfl ?_
          refine ww_iconst (v := (-1)) C0 dX4_keepsAllIfShown_59 rfl ?_
          refine ww_icmp_eq (tgt := 77) C0 dX4_keepsAllIfShown_60 (by decide) (fun h60 => ?_) (fun h60 => ?_)
          · skip
            refine ww_iinc (d := 1) C0 dX4_keepsAllIfShown_77 rfl rfl rfl ?_
            simp only [List.set_cons_zero, List.set_cons_succ]
            refine ww_goto (tgt := 38) C0 dX4_keepsAllIfShown_80 (by decide) ?_
            refine ww_cong (lo' := [_, _, _, _, .int 2, _]) ?_ (by rfl) rfl rfl
            refine ww_iload C0 dX4_keepsAllIfShown_38 rfl ?_
            refine ww_iconst (v := (1)) C0 dX4_keepsAllIfShown_40 rfl ?_
            refine ww_icmp_gt (tgt := 83) C0 dX4_keepsAllIfShown_41 (by decide) (fun h41 => ?_) (fun h41 => ?_)
            · skip
              replace h41 := (nI_ltE (a := 1) (b := 2) rfl rfl (by omega) (by omega)).mp h41
              refine ww_iconst (v := (1)) C0 dX4_keepsAllIfShown_83 rfl ?_
              exact ww_zret C0 hr dX4_keepsAllIfShown_84 (by simp [sKeep1, bI, *]) (by rfl)
            · skip
              replace h41 := (not_congr (nI_ltE (a := 1) (b := 2) rfl rfl (by omega) (by omega))).mp h41
              exfalso; omega
          · skip
            refine ww_iload C0 dX4_keepsAllIfShown_63 rfl ?_
            refine ww_if_eq (tgt := 77) C0 dX4_keepsAllIfShown_65 (by decide) (fun h65 => ?_) (fun h65 => ?_)
            · skip
              refine ww_iinc (d := 1) C0 dX4_keepsAllIfShown_77 rfl rfl rfl ?_
              simp only [List.set_cons_zero, List.set_cons_succ]
              refine ww_goto (tgt := 38) C0 dX4_keepsAllIfShown_80 (by decide) ?_
              refine ww_cong (lo' := [_, _, _, _, .int 2, _]) ?_ (by rfl) rfl rfl
              refine ww_iload C0 dX4_keepsAllIfShown_38 rfl ?_
              refine ww_iconst (v := (1)) C0 dX4_keepsAllIfShown_40 rfl ?_
              refine ww_icmp_gt (tgt := 83) C0 dX4_keepsAllIfShown_41 (by decide) (fun h41 => ?_) (fun h41 => ?_)
              · skip
                replace h41 := (nI_ltE (a := 1) (b := 2) rfl rfl (by omega) (by omega)).mp h41
                refine ww_iconst (v := (1)) C0 dX4_keepsAllIfShown_83 rfl ?_
                exact ww_zret C0 hr dX4_keepsAllIfShown_84 (by simp [sKeep1, bI, *]) (by rfl)
              · skip
                replace h41 := (not_congr (nI_ltE (a := 1) (b := 2) rfl rfl (by omega) (by omega))).mp h41
                exfalso; omega
            · skip
              refine ww_iload C0 dX4_keepsAllIfShown_68 rfl ?_
              refine ww_iload_n C0 dX4_keepsAllIfShown_70 rfl ?_
              refine ww_iand C0 dX4_keepsAllIfShown_71 ?_
              refine ww_if_ne (tgt := 77) C0 dX4_keepsAllIfShown_72 (by decide) (fun h72 => ?_) (fun h72 => ?_)
              · skip
                refine ww_iinc (d := 1) C0 dX4_keepsAllIfShown_77 rfl rfl rfl ?_
                simp only [List.set_cons_zero, List.set_cons_succ]
                refine ww_goto (tgt := 38) C0 dX4_keepsAllIfShown_80 (by decide) ?_
                refine ww_cong (lo' := [_, _, _, _, .int 2, _]) ?_ (by rfl) rfl rfl
                refine ww_iload C0 dX4_keepsAllIfShown_38 rfl ?_
                refine ww_iconst (v := (1)) C0 dX4_keepsAllIfShown_40 rfl ?_
                refine ww_icmp_gt (tgt := 83) C0 dX4_keepsAllIfShown_41 (by decide) (fun h41 => ?_) (fun h41 => ?_)
                · skip
                  replace h41 := (nI_ltE (a := 1) (b := 2) rfl rfl (by omega) (by omega)).mp h41
                  refine ww_iconst (v := (1)) C0 dX4_keepsAllIfShown_83 rfl ?_
                  exact ww_zret C0 hr dX4_keepsAllIfShown_84 (by simp [sKeep1, bI, *]) (by rfl)
                · skip
                  replace h41 := (not_congr (nI_ltE (a := 1) (b := 2) rfl rfl (by omega) (by omega))).mp h41
                  exfalso; omega
              · skip
                refine ww_iconst (v := (0)) C0 dX4_keepsAllIfShown_75 rfl ?_
                exact ww_zret C0 hr dX4_keepsAllIfShown_76 (by simp [sKeep1, bI, *]) (by rfl)
      · skip
        refine ww_iload C0 dX4_keepsAllIfShown_63 rfl ?_
        refine ww_if_eq (tgt := 77) C0 dX4_keepsAllIfShown_65 (by decide) (fun h65 => ?_) (fun h65 => ?_)
        · skip
          refine ww_iinc (d := 1) C0 dX4_keepsAllIfShown_77 rfl rfl rfl ?_
          simp only [List.set_cons_zero, List.set_cons_succ]
          refine ww_goto (tgt := 38) C0 dX4_keepsAllIfShown_80 (by decide) ?_
          refine ww_cong (lo' := [_, _, _, _, .int 1, _]) ?_ (by rfl) rfl rfl
          refine ww_iload C0 dX4_keepsAllIfShown_38 rfl ?_
          refine ww_iconst (v := (1)) C0 dX4_keepsAllIfShown_40 rfl ?_
          refine ww_icmp_gt (tgt := 83) C0 dX4_keepsAllIfShown_41 (by decide) (fun h41 => ?_) (fun h41 => ?_)
          · skip
            replace h41 := (nI_ltE (a := 1) (b := 1) rfl rfl (by omega) (by omega)).mp h41
            exfalso; omega
          · skip
            replace h41 := (not_congr (nI_ltE (a := 1) (b := 1) rfl rfl (by omega) (by omega))).mp h41
            refine ww_aload_n C0 dX4_keepsAllIfShown_44 rfl ?_
            refine ww_aload_n C0 dX4_keepsAllIfShown_45 rfl ?_
            refine ww_get C0 (ci := 4) (C := RX4) (T := TX4) (N := 14) ku_X4 0 rfl rfl 4 (by decide) kw_X4_34 rfl dX4_keepsAllIfShown_46 ?_
            refine ww_iload_n C0 dX4_keepsAllIfShown_49 rfl ?_
            refine ww_iload C0 dX4_keepsAllIfShown_50 rfl ?_
            refine ww_callVi C0 (qc := (RX4, TX4, 14)) 0 4 (c_X4_forbidders l D cI cZ cQ hnm hna hk) kd_X4_forbidders kw_X4_131 km_X4_forbidders kl_X4_forbidders ki_X4 hd_X4_forbidders rfl rfl ⟨Nat.le_of_ble_eq_true rfl, Nat.le_of_ble_eq_true rfl, rfl, rfl⟩ (Nat.le_of_ble_eq_true rfl) dX4_keepsAllIfShown_52 rfl rfl rfl ⟨Nat.zero_le _, Nat.zero_le _⟩ ?_
            refine ww_istore (i := 5) C0 dX4_keepsAllIfShown_55 (Nat.le_of_ble_eq_true rfl) rfl ?_
            simp only [List.set_cons_zero, List.set_cons_succ]
            refine ww_iload C0 dX4_keepsAllIfShown_57 rfl ?_
            refine ww_iconst (v := (-1)) C0 dX4_keepsAllIfShown_59 rfl ?_
            refine ww_icmp_eq (tgt := 77) C0 dX4_keepsAllIfShown_60 (by decide) (fun h60 => ?_) (fun h60 => ?_)
            · skip
              refine ww_iinc (d := 1) C0 dX4_keepsAllIfShown_77 rfl rfl rfl ?_
              simp only [List.set_cons_zero, List.set_cons_succ]
              refine ww_goto (tgt := 38) C0 dX4_keepsAllIfShown_80 (by decide) ?_
              refine ww_cong (lo' := [_, _, _, _, .int 2, _]) ?_ (by rfl) rfl rfl
              refine ww_iload C0 dX4_keepsAllIfShown_38 rfl ?_
              refine ww_iconst (v := (1)) C0 dX4_keepsAllIfShown_40 rfl ?_
              refine ww_icmp_gt (tgt := 83) C0 dX4_keepsAllIfShown_41 (by decide) (fun h41 => ?_) (fun h41 => ?_)
              · skip
                replace h41 := (nI_ltE (a := 1) (b := 2) rfl rfl (by omega) (by omega)).mp h41
                refine ww_iconst (v := (1)) C0 dX4_keepsAllIfShown_83 rfl ?_
                exact ww_zret C0 hr dX4_keepsAllIfShown_84 (by simp [sKeep1, bI, *]) (by rfl)
              · skip
                replace h41 := (not_congr (nI_ltE (a := 1) (b := 2) rfl rfl (by omega) (by omega))).mp h41
                exfalso; omega
            · skip
              refine ww_iload C0 dX4_keepsAllIfShown_63 rfl ?_
              refine ww_if_eq (tgt := 77) C0 dX4_keepsAllIfShown_65 (by decide) (fun h65 => ?_) (fun h65 => ?_)
              · skip
                refine ww_iinc (d := 1) C0 dX4_keepsAllIfShown_77 rfl rfl rfl ?_
                simp only [List.set_cons_zero, List.set_cons_succ]
                refine ww_goto (tgt := 38) C0 dX4_keepsAllIfShown_80 (by decide) ?_
                refine ww_cong (lo' := [_, _, _, _, .int 2, _]) ?_ (by rfl) rfl rfl
                refine ww_iload C0 dX4_keepsAllIfShown_38 rfl ?_
                refine ww_iconst (v := (1)) C0 dX4_keepsAllIfShown_40 rfl ?_
                refine ww_icmp_gt (tgt := 83) C0 dX4_keepsAllIfShown_41 (by decide) (fun h41 => ?_) (fun h41 => ?_)
                · skip
                  replace h41 := (nI_ltE (a := 1) (b := 2) rfl rfl (by omega) (by omega)).mp h41
                  refine ww_iconst (v := (1)) C0 dX4_keepsAllIfShown_83 rfl ?_
                  exact ww_zret C0 hr dX4_keepsAllIfShown_84 (by simp [sKeep1, bI, *]) (by rfl)
                · skip
                  replace h41 := (not_congr (nI_ltE (a := 1) (b := 2) rfl rfl (by omega) (by omega))).mp h41
                  exfalso; omega
              · skip
                refine ww_iload C0 dX4_keepsAllIfShown_68 rfl ?_
                refine ww_iload_n C0 dX4_keepsAllIfShown_70 rfl ?_
                refine ww_iand C0 dX4_keepsAllIfShown_71 ?_
                refine ww_if_ne (tgt := 77) C0 dX4_keepsAllIfShown_72 (by decide) (fun h72 => ?_) (fun h72 => ?_)
                · skip
                  refine ww_iinc (d := 1) C0 dX4_keepsAllIfShown_77 rfl rfl rfl ?_
                  simp only [List.set_cons_zero, List.set_cons_succ]
                  refine ww_goto (tgt := 38) C0 dX4_keepsAllIfShown_80 (by decide) ?_
                  refine ww_cong (lo' := [_, _, _, _, .int 2, _]) ?_ (by rfl) rfl rfl
                  refine ww_iload C0 dX4_keepsAllIfShown_38 rfl ?_
                  refine ww_iconst (v := (1)) C0 dX4_keepsAllIfShown_40 rfl ?_
                  refine ww_icmp_gt (tgt := 83) C0 dX4_keepsAllIfShown_41 (by decide) (fun h41 => ?_) (fun h41 => ?_)
                  · skip
                    replace h41 := (nI_ltE (a := 1) (b := 2) rfl rfl (by omega) (by omega)).mp h41
                    refine ww_iconst (v := (1)) C0 dX4_keepsAllIfShown_83 rfl ?_
                    exact ww_zret C0 hr dX4_keepsAllIfShown_84 (by simp [sKeep1, bI, *]) (by rfl)
                  · skip
                    replace h41 := (not_congr (nI_ltE (a := 1) (b := 2) rfl rfl (by omega) (by omega))).mp h41
                    exfalso; omega
                · skip
                  refine ww_iconst (v := (0)) C0 dX4_keepsAllIfShown_75 rfl ?_
                  exact ww_zret C0 hr dX4_keepsAllIfShown_76 (by simp [sKeep1, bI, *]) (by rfl)
        · skip
          refine ww_iload C0 dX4_keepsAllIfShown_68 rfl ?_
          refine ww_iload_n C0 dX4_keepsAllIfShown_70 rfl ?_
          refine ww_iand C0 dX4_keepsAllIfShown_71 ?_
          refine ww_if_ne (tgt := 77) C0 dX4_keepsAllIfShown_72 (by decide) (fun h72 => ?_) (fun h72 => ?_)
          · skip
            refine ww_iinc (d := 1) C0 dX4_keepsAllIfShown_77 rfl rfl rfl ?_
            simp only [List.set_cons_zero, List.set_cons_succ]
            refine ww_goto (tgt := 38) C0 dX4_keepsAllIfShown_80 (by decide) ?_
            refine ww_cong (lo' := [_, _, _, _, .int 1, _]) ?_ (by rfl) rfl rfl
            refine ww_iload C0 dX4_keepsAllIfShown_38 rfl ?_
            refine ww_iconst (v := (1)) C0 dX4_keepsAllIfShown_40 rfl ?_
            refine ww_icmp_gt (tgt := 83) C0 dX4_keepsAllIfShown_41 (by decide) (fun h41 => ?_) (fun h41 => ?_)
            · skip
              replace h41 := (nI_ltE (a := 1) (b := 1) rfl rfl (by omega) (by omega)).mp h41
              exfalso; omega
            · skip
              replace h41 := (not_congr (nI_ltE (a := 1) (b := 1) rfl rfl (by omega) (by omega))).mp h41
              refine ww_aload_n C0 dX4_keepsAllIfShown_44 rfl ?_
              refine ww_aload_n C0 dX4_keepsAllIfShown_45 rfl ?_
              refine ww_get C0 (ci := 4) (C := RX4) (T := TX4) (N := 14) ku_X4 0 rfl rfl 4 (by decide) kw_X4_34 rfl dX4_keepsAllIfShown_46 ?_
              refine ww_iload_n C0 dX4_keepsAllIfShown_49 rfl ?_
              refine ww_iload C0 dX4_keepsAllIfShown_50 rfl ?_
              refine ww_callVi C0 (qc := (RX4, TX4, 14)) 0 4 (c_X4_forbidders l D cI cZ cQ hnm hna hk) kd_X4_forbidders kw_X4_131 km_X4_forbidders kl_X4_forbidders ki_X4 hd_X4_forbidders rfl rfl ⟨Nat.le_of_ble_eq_true rfl, Nat.le_of_ble_eq_true rfl, rfl, rfl⟩ (Nat.le_of_ble_eq_true rfl) dX4_keepsAllIfShown_52 rfl rfl rfl ⟨Nat.zero_le _, Nat.zero_le _⟩ ?_
              refine ww_istore (i := 5) C0 dX4_keepsAllIfShown_55 (Nat.le_of_ble_eq_true rfl) rfl ?_
              simp only [List.set_cons_zero, List.set_cons_succ]
              refine ww_iload C0 dX4_keepsAllIfShown_57 rfl ?_
              refine ww_iconst (v := (-1)) C0 dX4_keepsAllIfShown_59 rfl ?_
              refine ww_icmp_eq (tgt := 77) C0 dX4_keepsAllIfShown_60 (by decide) (fun h60 => ?_) (fun h60 => ?_)
              · skip
                refine ww_iinc (d := 1) C0 dX4_keepsAllIfShown_77 rfl rfl rfl ?_
                simp only [List.set_cons_zero, List.set_cons_succ]
                refine ww_goto (tgt := 38) C0 dX4_keepsAllIfShown_80 (by decide) ?_
                refine ww_cong (lo' := [_, _, _, _, .int 2, _]) ?_ (by rfl) rfl rfl
                refine ww_iload C0 dX4_keepsAllIfShown_38 rfl ?_
                refine ww_iconst (v := (1)) C0 dX4_keepsAllIfShown_40 rfl ?_
                refine ww_icmp_gt (tgt := 83) C0 dX4_keepsAllIfShown_41 (by decide) (fun h41 => ?_) (fun h41 => ?_)
                · skip
                  replace h41 := (nI_ltE (a := 1) (b := 2) rfl rfl (by omega) (by omega)).mp h41
                  refine ww_iconst (v := (1)) C0 dX4_keepsAllIfShown_83 rfl ?_
                  exact ww_zret C0 hr dX4_keepsAllIfShown_84 (by simp [sKeep1, bI, *]) (by rfl)
                · skip
                  replace h41 := (not_congr (nI_ltE (a := 1) (b := 2) rfl rfl (by omega) (by omega))).mp h41
                  exfalso; omega
              · skip
                refine ww_iload C0 dX4_keepsAllIfShown_63 rfl ?_
                refine ww_if_eq (tgt := 77) C0 dX4_keepsAllIfShown_65 (by decide) (fun h65 => ?_) (fun h65 => ?_)
                · skip
                  refine ww_iinc (d := 1) C0 dX4_keepsAllIfShown_77 rfl rfl rfl ?_
                  simp only [List.set_cons_zero, List.set_cons_succ]
                  refine ww_goto (tgt := 38) C0 dX4_keepsAllIfShown_80 (by decide) ?_
                  refine ww_cong (lo' := [_, _, _, _, .int 2, _]) ?_ (by rfl) rfl rfl
                  refine ww_iload C0 dX4_keepsAllIfShown_38 rfl ?_
                  refine ww_iconst (v := (1)) C0 dX4_keepsAllIfShown_40 rfl ?_
                  refine ww_icmp_gt (tgt := 83) C0 dX4_keepsAllIfShown_41 (by decide) (fun h41 => ?_) (fun h41 => ?_)
                  · skip
                    replace h41 := (nI_ltE (a := 1) (b := 2) rfl rfl (by omega) (by omega)).mp h41
                    refine ww_iconst (v := (1)) C0 dX4_keepsAllIfShown_83 rfl ?_
                    exact ww_zret C0 hr dX4_keepsAllIfShown_84 (by simp [sKeep1, bI, *]) (by rfl)
                  · skip
                    replace h41 := (not_congr (nI_ltE (a := 1) (b := 2) rfl rfl (by omega) (by omega))).mp h41
                    exfalso; omega
                · skip
                  refine ww_iload C0 dX4_keepsAllIfShown_68 rfl ?_
                  refine ww_iload_n C0 dX4_keepsAllIfShown_70 rfl ?_
                  refine ww_iand C0 dX4_keepsAllIfShown_71 ?_
                  refine ww_if_ne (tgt := 77) C0 dX4_keepsAllIfShown_72 (by decide) (fun h72 => ?_) (fun h72 => ?_)
                  · skip
                    refine ww_iinc (d := 1) C0 dX4_keepsAllIfShown_77 rfl rfl rfl ?_
                    simp only [List.set_cons_zero, List.set_cons_succ]
                    refine ww_goto (tgt := 38) C0 dX4_keepsAllIfShown_80 (by decide) ?_
                    refine ww_cong (lo' := [_, _, _, _, .int 2, _]) ?_ (by rfl) rfl rfl
                    refine ww_iload C0 dX4_keepsAllIfShown_38 rfl ?_
                    refine ww_iconst (v := (1)) C0 dX4_keepsAllIfShown_40 rfl ?_
                    refine ww_icmp_gt (tgt := 83) C0 dX4_keepsAllIfShown_41 (by decide) (fun h41 => ?_) (fun h41 => ?_)
                    · skip
                      replace h41 := (nI_ltE (a := 1) (b := 2) rfl rfl (by omega) (by omega)).mp h41
                      refine ww_iconst (v := (1)) C0 dX4_keepsAllIfShown_83 rfl ?_
                      exact ww_zret C0 hr dX4_keepsAllIfShown_84 (by simp [sKeep1, bI, *]) (by rfl)
                    · skip
                      replace h41 := (not_congr (nI_ltE (a := 1) (b := 2) rfl rfl (by omega) (by omega))).mp h41
                      exfalso; omega
                  · skip
                    refine ww_iconst (v := (0)) C0 dX4_keepsAllIfShown_75 rfl ?_
                    exact ww_zret C0 hr dX4_keepsAllIfShown_76 (by simp [sKeep1, bI, *]) (by rfl)
          · skip
            refine ww_iconst (v := (0)) C0 dX4_keepsAllIfShown_75 rfl ?_
            exact ww_zret C0 hr dX4_keepsAllIfShown_76 (by simp [sKeep1, bI, *]) (by rfl)
  · skip
    exact absurd (isN_nI (by omega) hk) (by rw [h5]; decide)

set_option maxHeartbeats 4000000 in
set_option maxRecDepth 100000 in
theorem c_X4_sixtiethsOfStep (l : Launch) (D : va_G) (cI cZ cQ : ClassId) {rest : va_W} {b a : Int32} : MI l D [(cI, .int), (cZ, .boolean), (cQ, .object "MulesRemember$State")] yX4_sixtiethsOfStep cX4_sixtiethsOfStep 3 .int ({ frames := 1, cells := 0, slots := 0, locals := 20 } : Room) [.int b, .int a] (rest) (sSixty b a) (rest) := by
  refine MI.of [.int b, .int a, .null] (by decide) (Nat.le_of_ble_eq_true rfl) rfl ?_
  intro p e s m below meth c A C0 hr
  refine ww_iload_n C0 dX4_sixtiethsOfStep_0 rfl ?_
  refine ww_iconst (v := (-1)) C0 dX4_sixtiethsOfStep_1 rfl ?_
  refine ww_icmp_eq (tgt := 13) C0 dX4_sixtiethsOfStep_2 (by decide) (fun h2 => ?_) (fun h2 => ?_)
  · skip
    refine ww_iconst (v := (0)) C0 dX4_sixtiethsOfStep_13 rfl ?_
    exact ww_iret C0 hr dX4_sixtiethsOfStep_14 (by simp [sSixty, *]) (by rfl)
  · skip
    refine ww_iload_n C0 dX4_sixtiethsOfStep_5 rfl ?_
    refine ww_iload_n C0 dX4_sixtiethsOfStep_6 rfl ?_
    refine ww_ishr C0 dX4_sixtiethsOfStep_7 ?_
    refine ww_iconst (v := (1)) C0 dX4_sixtiethsOfStep_8 rfl ?_
    refine ww_iand C0 dX4_sixtiethsOfStep_9 ?_
    refine ww_if_ne (tgt := 15) C0 dX4_sixtiethsOfStep_10 (by decide) (fun h10 => ?_) (fun h10 => ?_)
    · skip
      have gb := hbit_t h10
      refine ww_iload_n C0 dX4_sixtiethsOfStep_15 rfl ?_
      refine ww_callSi C0 (c_J6_bitCount_0f7a4 l D cI cZ cQ) kd_J6_bitCount_0f7a4 kw_X4_152 ks_J6_bitCount_0f7a4 ki_J6 hd_J6_bitCount_0f7a4 ⟨Nat.le_of_ble_eq_true rfl, Nat.le_of_ble_eq_true rfl, rfl, rfl⟩ (Nat.le_of_ble_eq_true rfl) dX4_sixtiethsOfStep_16 rfl rfl ⟨Nat.zero_le _, Nat.zero_le _⟩ ?_
      refine ww_istore_n (i := 2) C0 dX4_sixtiethsOfStep_19 rfl (Nat.le_of_ble_eq_true rfl) rfl ?_
      simp only [List.set_cons_zero, List.set_cons_succ]
      refine ww_iload_n C0 dX4_sixtiethsOfStep_20 rfl ?_
      refine ww_if_ne (tgt := 28) C0 dX4_sixtiethsOfStep_21 (by decide) (fun h21 => ?_) (fun h21 => ?_)
      · skip
        refine ww_bipush (v := (60)) C0 dX4_sixtiethsOfStep_28 rfl ?_
        refine ww_iload_n C0 dX4_sixtiethsOfStep_30 rfl ?_
        refine ww_idiv C0 dX4_sixtiethsOfStep_31 h21 ?_
        exact ww_iret C0 hr dX4_sixtiethsOfStep_32 (by simp [sSixty, *]) (by rfl)
      · skip
        refine ww_iconst (v := (0)) C0 dX4_sixtiethsOfStep_24 rfl ?_
        refine ww_goto (tgt := 32) C0 dX4_sixtiethsOfStep_25 (by decide) ?_
        exact ww_iret C0 hr dX4_sixtiethsOfStep_32 (by simp [sSixty, *]) (by rfl)
    · skip
      have gb := hbit_f h10
      refine ww_iconst (v := (0)) C0 dX4_sixtiethsOfStep_13 rfl ?_
      exact ww_iret C0 hr dX4_sixtiethsOfStep_14 (by simp [sSixty, *]) (by rfl)

set_option maxHeartbeats 4000000 in
set_option maxRecDepth 100000 in
theorem c_X4_worthOfString (l : Launch) (D : va_G) (cI cZ cQ : ClassId) {aX aT aL aC aN aY aA aO aK aG aW al0 al1 al2 an0 an1 an2 : Nat} {nm fa ac na : Nat} {hN bN : Int32} {sd : Int64} {fl0 fl1 fl2 fC fn0 fn1 fn2 : Nat → Int32} {rest : va_W} (hnm : nm ≤ 5) (hna : na ≤ 5) : MI l D [(cI, .int), (cZ, .boolean), (cQ, .object "MulesRemember$State")] yX4_worthOfString cX4_worthOfString 4 .int ({ frames := 4, cells := 0, slots := 0, locals := 102 } : Room) [.ref aX] ((aX, .inr (4, [.ref aT, .ref aL, .ref aC, .int (nI nm), .ref aN, .ref aY, .ref aA, .int (nI fa), .int (nI ac), .ref aO, .ref aK, .ref aG, .ref aW, .long sd])) :: (aL, .inr (0, [.ref al0, .ref al1, .ref al2, .int (nI na)])) :: (al0, .inl (cI, 5, .inl (fl0))) :: (al1, .inl (cI, 5, .inl (fl1))) :: (al2, .inl (cI, 5, .inl (fl2))) :: (aC, .inl (cI, 5, .inl (fC))) :: (aN, .inr (2, [.ref an0, .ref an1, .ref an2, .int hN, .int bN])) :: (an0, .inl (cI, 5, .inl (fn0))) :: (an1, .inl (cI, 5, .inl (fn1))) :: (an2, .inl (cI, 5, .inl (fn2))) :: rest) (sumI (fun o => sWorth1 (sFF nm na fl0 fl1 fl2 fC fn0 o (fn0 o) 1 hN) (sKnown na (fn1 o) (fn2 o))) nm) ((aX, .inr (4, [.ref aT, .ref aL, .ref aC, .int (nI nm), .ref aN, .ref aY, .ref aA, .int (nI fa), .int (nI ac), .ref aO, .ref aK, .ref aG, .ref aW, .long sd])) :: (aL, .inr (0, [.ref al0, .ref al1, .ref al2, .int (nI na)])) :: (al0, .inl (cI, 5, .inl (fl0))) :: (al1, .inl (cI, 5, .inl (fl1))) :: (al2, .inl (cI, 5, .inl (fl2))) :: (aC, .inl (cI, 5, .inl (fC))) :: (aN, .inr (2, [.ref an0, .ref an1, .ref an2, .int hN, .int bN])) :: (an0, .inl (cI, 5, .inl (fn0))) :: (an1, .inl (cI, 5, .inl (fn1))) :: (an2, .inl (cI, 5, .inl (fn2))) :: rest) := by
  refine MI.of [.ref aX, .null, .null, .null] (by decide) (Nat.le_of_ble_eq_true rfl) rfl ?_
  intro p e s m below meth c A C0 hr
  refine ww_iconst (v := (0)) C0 dX4_worthOfString_0 rfl ?_
  refine ww_istore_n (i := 1) C0 dX4_worthOfString_1 rfl (Nat.le_of_ble_eq_true rfl) rfl ?_
  simp only [List.set_cons_zero, List.set_cons_succ]
  refine ww_iconst (v := (0)) C0 dX4_worthOfString_2 rfl ?_
  refine ww_istore_n (i := 2) C0 dX4_worthOfString_3 rfl (Nat.le_of_ble_eq_true rfl) rfl ?_
  simp only [List.set_cons_zero, List.set_cons_succ]
  refine ww_back (ww_loop (pc := 4) 0 (nm) (by omega) (fun j => [_, .int (sumI (fun o => sWorth1 (sFF nm na fl0 fl1 fl2 fC fn0 o (fn0 o) 1 hN) (sKnown na (fn1 o) (fn2 o))) j), .int (nI j), .null]) (fun j => _) ?_ ?_) ⟨Or.inr rfl, Or.inr rfl, Or.inr rfl, Or.inl rfl, trivial⟩ (by rfl)
  · intro j hj0 hj ih
    refine ww_iload_n C0 dX4_worthOfString_4 rfl ?_
    refine ww_aload_n C0 dX4_worthOfString_5 rfl ?_
    refine ww_get C0 (ci := 4) (C := RX4) (T := TX4) (N := 14) ku_X4 0 rfl rfl 3 (by decide) kw_X4_27 rfl dX4_worthOfString_6 ?_
    refine ww_icmp_ge (tgt := 56) C0 dX4_worthOfString_9 (by decide) (fun h9 => ?_) (fun h9 => ?_)
    · skip
      replace h9 := (nI_leE (a := nm) (b := j) rfl rfl (by omega) (by omega)).mp h9
      exfalso; omega
    · skip
      replace h9 := (not_congr (nI_leE (a := nm) (b := j) rfl rfl (by omega) (by omega))).mp h9
      refine ww_aload_n C0 dX4_worthOfString_12 rfl ?_
      refine ww_aload_n C0 dX4_worthOfString_13 rfl ?_
      refine ww_get C0 (ci := 4) (C := RX4) (T := TX4) (N := 14) ku_X4 0 rfl rfl 4 (by decide) kw_X4_34 rfl dX4_worthOfString_14 ?_
      refine ww_iload_n C0 dX4_worthOfString_17 rfl ?_
      refine ww_iconst (v := (1)) C0 dX4_worthOfString_18 rfl ?_
      refine ww_callVi C0 (qc := (RX4, TX4, 14)) 0 4 (c_X4_forbidders l D cI cZ cQ hnm hna hj) kd_X4_forbidders kw_X4_131 km_X4_forbidders kl_X4_forbidders ki_X4 hd_X4_forbidders rfl rfl ⟨Nat.le_of_ble_eq_true rfl, Nat.le_of_ble_eq_true rfl, rfl, rfl⟩ (Nat.le_of_ble_eq_true rfl) dX4_worthOfString_19 rfl rfl rfl ⟨Nat.zero_le _, Nat.zero_le _⟩ ?_
      refine ww_istore_n (i := 3) C0 dX4_worthOfString_22 rfl (Nat.le_of_ble_eq_true rfl) rfl ?_
      simp only [List.set_cons_zero, List.set_cons_succ]
      refine ww_iload_n C0 dX4_worthOfString_23 rfl ?_
      refine ww_iconst (v := (-1)) C0 dX4_worthOfString_24 rfl ?_
      refine ww_icmp_eq (tgt := 50) C0 dX4_worthOfString_25 (by decide) (fun h25 => ?_) (fun h25 => ?_)
      · skip
        refine ww_iinc (d := 1) C0 dX4_worthOfString_50 rfl rfl rfl ?_
        simp only [List.set_cons_zero, List.set_cons_succ]
        refine ww_goto (tgt := 4) C0 dX4_worthOfString_53 (by decide) ?_
        exact ww_back ih ⟨Or.inr rfl, Or.inr (congrArg Value.int (by simp [sumI, sWorth1, *])), Or.inr (congrArg Value.int (nI_addE (a := j) (b := 1) rfl rfl).symm), Or.inl rfl, trivial⟩ (by rfl)
      · skip
        refine ww_iload_n C0 dX4_worthOfString_28 rfl ?_
        refine ww_iload_n C0 dX4_worthOfString_29 rfl ?_
        refine ww_aload_n C0 dX4_worthOfString_30 rfl ?_
        refine ww_aload_n C0 dX4_worthOfString_31 rfl ?_
        refine ww_get C0 (ci := 4) (C := RX4) (T := TX4) (N := 14) ku_X4 0 rfl rfl 4 (by decide) kw_X4_34 rfl dX4_worthOfString_32 ?_
        refine ww_iload_n C0 dX4_worthOfString_35 rfl ?_
        refine ww_callVi C0 (qc := (RX4, TX4, 14)) 0 4 (c_X4_known l D cI cZ cQ hnm hna hj) kd_X4_known kw_X4_123 km_X4_known kl_X4_known ki_X4 hd_X4_known rfl rfl ⟨Nat.le_of_ble_eq_true rfl, Nat.le_of_ble_eq_true rfl, rfl, rfl⟩ (Nat.le_of_ble_eq_true rfl) dX4_worthOfString_36 rfl rfl rfl ⟨Nat.zero_le _, Nat.zero_le _⟩ ?_
        refine ww_iand C0 dX4_worthOfString_39 ?_
        refine ww_if_ne (tgt := 47) C0 dX4_worthOfString_40 (by decide) (fun h40 => ?_) (fun h40 => ?_)
        · skip
          refine ww_iconst (v := (-1)) C0 dX4_worthOfString_47 rfl ?_
          refine ww_iadd C0 dX4_worthOfString_48 ?_
          refine ww_istore_n (i := 1) C0 dX4_worthOfString_49 rfl (Nat.le_of_ble_eq_true rfl) rfl ?_
          simp only [List.set_cons_zero, List.set_cons_succ]
          refine ww_iinc (d := 1) C0 dX4_worthOfString_50 rfl rfl rfl ?_
          simp only [List.set_cons_zero, List.set_cons_succ]
          refine ww_goto (tgt := 4) C0 dX4_worthOfString_53 (by decide) ?_
          exact ww_back ih ⟨Or.inr rfl, Or.inr (congrArg Value.int (by simp [sumI, sWorth1, *])), Or.inr (congrArg Value.int (nI_addE (a := j) (b := 1) rfl rfl).symm), Or.inl rfl, trivial⟩ (by rfl)
        · skip
          refine ww_iconst (v := (1)) C0 dX4_worthOfString_43 rfl ?_
          refine ww_goto (tgt := 48) C0 dX4_worthOfString_44 (by decide) ?_
          refine ww_iadd C0 dX4_worthOfString_48 ?_
          refine ww_istore_n (i := 1) C0 dX4_worthOfString_49 rfl (Nat.le_of_ble_eq_true rfl) rfl ?_
          simp only [List.set_cons_zero, List.set_cons_succ]
          refine ww_iinc (d := 1) C0 dX4_worthOfString_50 rfl rfl rfl ?_
          simp only [List.set_cons_zero, List.set_cons_succ]
          refine ww_goto (tgt := 4) C0 dX4_worthOfString_53 (by decide) ?_
          exact ww_back ih ⟨Or.inr rfl, Or.inr (congrArg Value.int (by simp [sumI, sWorth1, *])), Or.inr (congrArg Value.int (nI_addE (a := j) (b := 1) rfl rfl).symm), Or.inl rfl, trivial⟩ (by rfl)
  · skip
    refine ww_iload_n C0 dX4_worthOfString_4 rfl ?_
    refine ww_aload_n C0 dX4_worthOfString_5 rfl ?_
    refine ww_get C0 (ci := 4) (C := RX4) (T := TX4) (N := 14) ku_X4 0 rfl rfl 3 (by decide) kw_X4_27 rfl dX4_worthOfString_6 ?_
    refine ww_icmp_ge (tgt := 56) C0 dX4_worthOfString_9 (by decide) (fun h9 => ?_) (fun h9 => ?_)
    · skip
      replace h9 := (nI_leE (a := nm) (b := nm) rfl rfl (by omega) (by omega)).mp h9
      refine ww_iload_n C0 dX4_worthOfString_56 rfl ?_
      exact ww_iret C0 hr dX4_worthOfString_57 (by rfl) (by rfl)
    · skip
      replace h9 := (not_congr (nI_leE (a := nm) (b := nm) rfl rfl (by omega) (by omega))).mp h9
      exfalso; omega

set_option maxHeartbeats 4000000 in
set_option maxRecDepth 100000 in
theorem c_X4_gain (l : Launch) (D : va_G) (cI cZ cQ : ClassId) {rest : va_W} {ow ot wo : Int32} : MI l D [(cI, .int), (cZ, .boolean), (cQ, .object "MulesRemember$State")] yX4_gain cX4_gain 3 .int ({ frames := 0, cells := 0, slots := 0, locals := 0 } : Room) [.int ow, .int ot, .int wo] (rest) (sGain ow ot wo) (rest) := by
  refine MI.of [.int ow, .int ot, .int wo] (by decide) (Nat.le_of_ble_eq_true rfl) rfl ?_
  intro p e s m below meth c A C0 hr
  refine ww_iload_n C0 dX4_gain_0 rfl ?_
  refine ww_iconst (v := (1)) C0 dX4_gain_1 rfl ?_
  refine ww_icmp_ne (tgt := 18) C0 dX4_gain_2 (by decide) (fun h2 => ?_) (fun h2 => ?_)
  · skip
    refine ww_iload_n C0 dX4_gain_18 rfl ?_
    refine ww_iconst (v := (1)) C0 dX4_gain_19 rfl ?_
    refine ww_icmp_ne (tgt := 27) C0 dX4_gain_20 (by decide) (fun h20 => ?_) (fun h20 => ?_)
    · skip
      refine ww_iconst (v := (0)) C0 dX4_gain_27 rfl ?_
      exact ww_iret C0 hr dX4_gain_28 (by simp [sGain, *]) (by rfl)
    · skip
      refine ww_iconst (v := (-1)) C0 dX4_gain_23 rfl ?_
      refine ww_goto (tgt := 28) C0 dX4_gain_24 (by decide) ?_
      exact ww_iret C0 hr dX4_gain_28 (by simp [sGain, *]) (by rfl)
  · skip
    refine ww_iload_n C0 dX4_gain_5 rfl ?_
    refine ww_iconst (v := (1)) C0 dX4_gain_6 rfl ?_
    refine ww_icmp_ne (tgt := 16) C0 dX4_gain_7 (by decide) (fun h7 => ?_) (fun h7 => ?_)
    · skip
      refine ww_iload_n C0 dX4_gain_16 rfl ?_
      exact ww_iret C0 hr dX4_gain_17 (by simp [sGain, *]) (by rfl)
    · skip
      refine ww_iload_n C0 dX4_gain_10 rfl ?_
      refine ww_iconst (v := (2)) C0 dX4_gain_11 rfl ?_
      refine ww_idiv C0 dX4_gain_12 (by decide) ?_
      refine ww_goto (tgt := 17) C0 dX4_gain_13 (by decide) ?_
      exact ww_iret C0 hr dX4_gain_17 (by simp [sGain, *]) (by rfl)

set_option maxHeartbeats 4000000 in
set_option maxRecDepth 100000 in
theorem c_X4_isContent (l : Launch) (D : va_G) (cI cZ cQ : ClassId) {rest : va_W} {ow ot wo : Int32} : MI l D [(cI, .int), (cZ, .boolean), (cQ, .object "MulesRemember$State")] yX4_isContent cX4_isContent 3 .boolean ({ frames := 1, cells := 0, slots := 0, locals := 22 } : Room) [.int ow, .int ot, .int wo] (rest) (bI (sContent ow ot wo)) (rest) := by
  refine MI.of [.int ow, .int ot, .int wo] (by decide) (Nat.le_of_ble_eq_true rfl) rfl ?_
  intro p e s m below meth c A C0 hr
  refine ww_iload_n C0 dX4_isContent_0 rfl ?_
  refine ww_iload_n C0 dX4_isContent_1 rfl ?_
  refine ww_iload_n C0 dX4_isContent_2 rfl ?_
  refine ww_callSi C0 (c_X4_gain l D cI cZ cQ) kd_X4_gain kw_X4_254 ks_X4_gain ki_X4 hd_X4_gain ⟨Nat.le_of_ble_eq_true rfl, Nat.le_of_ble_eq_true rfl, rfl, rfl⟩ (Nat.le_of_ble_eq_true rfl) dX4_isContent_3 rfl rfl ⟨Nat.zero_le _, Nat.zero_le _⟩ ?_
  refine ww_iconst (v := (1)) C0 dX4_isContent_6 rfl ?_
  refine ww_iload_n C0 dX4_isContent_7 rfl ?_
  refine ww_isub C0 dX4_isContent_8 ?_
  refine ww_iload_n C0 dX4_isContent_9 rfl ?_
  refine ww_iload_n C0 dX4_isContent_10 rfl ?_
  refine ww_callSi C0 (c_X4_gain l D cI cZ cQ) kd_X4_gain kw_X4_254 ks_X4_gain ki_X4 hd_X4_gain ⟨Nat.le_of_ble_eq_true rfl, Nat.le_of_ble_eq_true rfl, rfl, rfl⟩ (Nat.le_of_ble_eq_true rfl) dX4_isContent_11 rfl rfl ⟨Nat.zero_le _, Nat.zero_le _⟩ ?_
  refine ww_icmp_lt (tgt := 21) C0 dX4_isContent_14 (by decide) (fun h14 => ?_) (fun h14 => ?_)
  · skip
    refine ww_iconst (v := (0)) C0 dX4_isContent_21 rfl ?_
    exact ww_zret C0 hr dX4_isContent_22 (by simp [sContent, bI, *]) (by rfl)
  · skip
    refine ww_iconst (v := (1)) C0 dX4_isContent_17 rfl ?_
    refine ww_goto (tgt := 22) C0 dX4_isContent_18 (by decide) ?_
    exact ww_zret C0 hr dX4_isContent_22 (by simp [sContent, bI, *]) (by rfl)

set_option maxHeartbeats 4000000 in
set_option maxRecDepth 100000 in
theorem c_X4_tenthsToBalk (l : Launch) (D : va_G) (cI cZ cQ : ClassId) {aX aT aL aC aN aY aA aO aK aG aW al0 al1 al2 an0 an1 an2 : Nat} {nm fa ac na : Nat} {hN bN : Int32} {sd : Int64} {fl0 fl1 fl2 fC fn0 fn1 fn2 : Nat → Int32} {rest : va_W} {k : Nat} {wa x : Int32} (hnm : nm ≤ 5) (hna : na ≤ 5) (hk : k < nm) : MI l D [(cI, .int), (cZ, .boolean), (cQ, .object "MulesRemember$State")] yX4_tenthsToBalk cX4_tenthsToBalk 7 .int ({ frames := 4, cells := 0, slots := 0, locals := 102 } : Room) [.ref aX, .int (nI k), .int wa, .int x] ((aX, .inr (4, [.ref aT, .ref aL, .ref aC, .int (nI nm), .ref aN, .ref aY, .ref aA, .int (nI fa), .int (nI ac), .ref aO, .ref aK, .ref aG, .ref aW, .long sd])) :: (aL, .inr (0, [.ref al0, .ref al1, .ref al2, .int (nI na)])) :: (al0, .inl (cI, 5, .inl (fl0))) :: (al1, .inl (cI, 5, .inl (fl1))) :: (al2, .inl (cI, 5, .inl (fl2))) :: (aC, .inl (cI, 5, .inl (fC))) :: (aN, .inr (2, [.ref an0, .ref an1, .ref an2, .int hN, .int bN])) :: (an0, .inl (cI, 5, .inl (fn0))) :: (an1, .inl (cI, 5, .inl (fn1))) :: (an2, .inl (cI, 5, .inl (fn2))) :: rest) (sTenths (sFF nm na fl0 fl1 fl2 fC fn0 k (fn0 k) wa hN) (sKnown na (fn1 k) (fn2 k)) (sKnown na (fn1 k) 0) x) ((aX, .inr (4, [.ref aT, .ref aL, .ref aC, .int (nI nm), .ref aN, .ref aY, .ref aA, .int (nI fa), .int (nI ac), .ref aO, .ref aK, .ref aG, .ref aW, .long sd])) :: (aL, .inr (0, [.ref al0, .ref al1, .ref al2, .int (nI na)])) :: (al0, .inl (cI, 5, .inl (fl0))) :: (al1, .inl (cI, 5, .inl (fl1))) :: (al2, .inl (cI, 5, .inl (fl2))) :: (aC, .inl (cI, 5, .inl (fC))) :: (aN, .inr (2, [.ref an0, .ref an1, .ref an2, .int hN, .int bN])) :: (an0, .inl (cI, 5, .inl (fn0))) :: (an1, .inl (cI, 5, .inl (fn1))) :: (an2, .inl (cI, 5, .inl (fn2))) :: rest) := by
  refine MI.of [.ref aX, .int (nI k), .int wa, .int x, .null, .null, .null] (by decide) (Nat.le_of_ble_eq_true rfl) rfl ?_
  intro p e s m below meth c A C0 hr
  refine ww_aload_n C0 dX4_tenthsToBalk_0 rfl ?_
  refine ww_aload_n C0 dX4_tenthsToBalk_1 rfl ?_
  refine ww_get C0 (ci := 4) (C := RX4) (T := TX4) (N := 14) ku_X4 0 rfl rfl 4 (by decide) kw_X4_34 rfl dX4_tenthsToBalk_2 ?_
  refine ww_iload_n C0 dX4_tenthsToBalk_5 rfl ?_
  refine ww_iload_n C0 dX4_tenthsToBalk_6 rfl ?_
  refine ww_callVi C0 (qc := (RX4, TX4, 14)) 0 4 (c_X4_forbidders l D cI cZ cQ hnm hna hk) kd_X4_forbidders kw_X4_131 km_X4_forbidders kl_X4_forbidders ki_X4 hd_X4_forbidders rfl rfl ⟨Nat.le_of_ble_eq_true rfl, Nat.le_of_ble_eq_true rfl, rfl, rfl⟩ (Nat.le_of_ble_eq_true rfl) dX4_tenthsToBalk_7 rfl rfl rfl ⟨Nat.zero_le _, Nat.zero_le _⟩ ?_
  refine ww_istore (i := 4) C0 dX4_tenthsToBalk_10 (Nat.le_of_ble_eq_true rfl) rfl ?_
  simp only [List.set_cons_zero, List.set_cons_succ]
  refine ww_iload C0 dX4_tenthsToBalk_12 rfl ?_
  refine ww_iconst (v := (-1)) C0 dX4_tenthsToBalk_14 rfl ?_
  refine ww_icmp_eq (tgt := 26) C0 dX4_tenthsToBalk_15 (by decide) (fun h15 => ?_) (fun h15 => ?_)
  · skip
    refine ww_iconst (v := (0)) C0 dX4_tenthsToBalk_26 rfl ?_
    exact ww_iret C0 hr dX4_tenthsToBalk_27 (by simp [sTenths, *]) (by rfl)
  · skip
    refine ww_aload_n C0 dX4_tenthsToBalk_18 rfl ?_
    refine ww_iload_n C0 dX4_tenthsToBalk_19 rfl ?_
    refine ww_callVi C0 (qc := (RX4, TX4, 14)) 0 4 (c_X4_isMule l D cI cZ cQ hnm) kd_X4_isMule kw_X4_113 km_X4_isMule kl_X4_isMule ki_X4 hd_X4_isMule rfl rfl ⟨Nat.le_of_ble_eq_true rfl, Nat.le_of_ble_eq_true rfl, rfl, rfl⟩ (Nat.le_of_ble_eq_true rfl) dX4_tenthsToBalk_20 rfl rfl rfl ⟨Nat.zero_le _, Nat.zero_le _⟩ ?_
    refine ww_bif_ne (tgt := 28) C0 dX4_tenthsToBalk_23 (by decide) (fun h23 => ?_) (fun h23 => ?_)
    · skip
      refine ww_iload C0 dX4_tenthsToBalk_28 rfl ?_
      refine ww_aload_n C0 dX4_tenthsToBalk_30 rfl ?_
      refine ww_aload_n C0 dX4_tenthsToBalk_31 rfl ?_
      refine ww_get C0 (ci := 4) (C := RX4) (T := TX4) (N := 14) ku_X4 0 rfl rfl 4 (by decide) kw_X4_34 rfl dX4_tenthsToBalk_32 ?_
      refine ww_iload_n C0 dX4_tenthsToBalk_35 rfl ?_
      refine ww_callVi C0 (qc := (RX4, TX4, 14)) 0 4 (c_X4_known l D cI cZ cQ hnm hna hk) kd_X4_known kw_X4_123 km_X4_known kl_X4_known ki_X4 hd_X4_known rfl rfl ⟨Nat.le_of_ble_eq_true rfl, Nat.le_of_ble_eq_true rfl, rfl, rfl⟩ (Nat.le_of_ble_eq_true rfl) dX4_tenthsToBalk_36 rfl rfl rfl ⟨Nat.zero_le _, Nat.zero_le _⟩ ?_
      refine ww_iand C0 dX4_tenthsToBalk_39 ?_
      refine ww_if_eq (tgt := 47) C0 dX4_tenthsToBalk_40 (by decide) (fun h40 => ?_) (fun h40 => ?_)
      · skip
        refine ww_iconst (v := (0)) C0 dX4_tenthsToBalk_47 rfl ?_
        refine ww_istore (i := 5) C0 dX4_tenthsToBalk_48 (Nat.le_of_ble_eq_true rfl) rfl ?_
        simp only [List.set_cons_zero, List.set_cons_succ]
        refine ww_iload C0 dX4_tenthsToBalk_50 rfl ?_
        refine ww_aload_n C0 dX4_tenthsToBalk_52 rfl ?_
        refine ww_aload_n C0 dX4_tenthsToBalk_53 rfl ?_
        refine ww_get C0 (ci := 4) (C := RX4) (T := TX4) (N := 14) ku_X4 0 rfl rfl 4 (by decide) kw_X4_34 rfl dX4_tenthsToBalk_54 ?_
        refine ww_getN C0 (ci := 2) (C := RX2) (T := TX2) (N := 5) ku_X2 6 rfl rfl 1 (by decide) kn_X4_117 rfl dX4_tenthsToBalk_57 ?_
        refine ww_iload_n C0 dX4_tenthsToBalk_60 rfl ?_
        refine ww_iald_n (j := k) C0 8 0 rfl rfl rfl (by omega) (by decide) dX4_tenthsToBalk_61 ?_
        refine ww_iconst (v := (0)) C0 dX4_tenthsToBalk_62 rfl ?_
        refine ww_callVi C0 (qc := (RX4, TX4, 14)) 0 4 (c_X4_knownIfShown l D cI cZ cQ hna) kd_X4_knownIfShown kw_X4_234 km_X4_knownIfShown kl_X4_knownIfShown ki_X4 hd_X4_knownIfShown rfl rfl ⟨Nat.le_of_ble_eq_true rfl, Nat.le_of_ble_eq_true rfl, rfl, rfl⟩ (Nat.le_of_ble_eq_true rfl) dX4_tenthsToBalk_63 rfl rfl rfl ⟨Nat.zero_le _, Nat.zero_le _⟩ ?_
        refine ww_iand C0 dX4_tenthsToBalk_66 ?_
        refine ww_if_eq (tgt := 74) C0 dX4_tenthsToBalk_67 (by decide) (fun h67 => ?_) (fun h67 => ?_)
        · skip
          refine ww_iconst (v := (0)) C0 dX4_tenthsToBalk_74 rfl ?_
          refine ww_istore (i := 6) C0 dX4_tenthsToBalk_75 (Nat.le_of_ble_eq_true rfl) rfl ?_
          simp only [List.set_cons_zero, List.set_cons_succ]
          refine ww_iload C0 dX4_tenthsToBalk_77 rfl ?_
          refine ww_if_eq (tgt := 89) C0 dX4_tenthsToBalk_79 (by decide) (fun h79 => ?_) (fun h79 => ?_)
          · skip
            replace h79 := (nI_eqE (a := 0) (b := 0) rfl rfl (by omega) (by omega)).mp h79
            refine ww_iconst (v := (0)) C0 dX4_tenthsToBalk_89 rfl ?_
            refine ww_iload C0 dX4_tenthsToBalk_90 rfl ?_
            refine ww_if_eq (tgt := 99) C0 dX4_tenthsToBalk_92 (by decide) (fun h92 => ?_) (fun h92 => ?_)
            · skip
              replace h92 := (nI_eqE (a := 0) (b := 0) rfl rfl (by omega) (by omega)).mp h92
              refine ww_iconst (v := (0)) C0 dX4_tenthsToBalk_99 rfl ?_
              refine ww_iadd C0 dX4_tenthsToBalk_100 ?_
              exact ww_iret C0 hr dX4_tenthsToBalk_101 (by simp [sTenths, *]) (by rfl)
            · skip
              replace h92 := (not_congr (nI_eqE (a := 0) (b := 0) rfl rfl (by omega) (by omega))).mp h92
              exfalso; omega
          · skip
            replace h79 := (not_congr (nI_eqE (a := 0) (b := 0) rfl rfl (by omega) (by omega))).mp h79
            exfalso; omega
        · skip
          refine ww_iconst (v := (1)) C0 dX4_tenthsToBalk_70 rfl ?_
          refine ww_goto (tgt := 75) C0 dX4_tenthsToBalk_71 (by decide) ?_
          refine ww_istore (i := 6) C0 dX4_tenthsToBalk_75 (Nat.le_of_ble_eq_true rfl) rfl ?_
          simp only [List.set_cons_zero, List.set_cons_succ]
          refine ww_iload C0 dX4_tenthsToBalk_77 rfl ?_
          refine ww_if_eq (tgt := 89) C0 dX4_tenthsToBalk_79 (by decide) (fun h79 => ?_) (fun h79 => ?_)
          · skip
            replace h79 := (nI_eqE (a := 0) (b := 0) rfl rfl (by omega) (by omega)).mp h79
            refine ww_iconst (v := (0)) C0 dX4_tenthsToBalk_89 rfl ?_
            refine ww_iload C0 dX4_tenthsToBalk_90 rfl ?_
            refine ww_if_eq (tgt := 99) C0 dX4_tenthsToBalk_92 (by decide) (fun h92 => ?_) (fun h92 => ?_)
            · skip
              replace h92 := (nI_eqE (a := 1) (b := 0) rfl rfl (by omega) (by omega)).mp h92
              exfalso; omega
            · skip
              replace h92 := (not_congr (nI_eqE (a := 1) (b := 0) rfl rfl (by omega) (by omega))).mp h92
              refine ww_iload_n C0 dX4_tenthsToBalk_95 rfl ?_
              refine ww_goto (tgt := 100) C0 dX4_tenthsToBalk_96 (by decide) ?_
              refine ww_iadd C0 dX4_tenthsToBalk_100 ?_
              exact ww_iret C0 hr dX4_tenthsToBalk_101 (by simp [sTenths, *]) (by rfl)
          · skip
            replace h79 := (not_congr (nI_eqE (a := 0) (b := 0) rfl rfl (by omega) (by omega))).mp h79
            exfalso; omega
      · skip
        refine ww_iconst (v := (1)) C0 dX4_tenthsToBalk_43 rfl ?_
        refine ww_goto (tgt := 48) C0 dX4_tenthsToBalk_44 (by decide) ?_
        refine ww_istore (i := 5) C0 dX4_tenthsToBalk_48 (Nat.le_of_ble_eq_true rfl) rfl ?_
        simp only [List.set_cons_zero, List.set_cons_succ]
        refine ww_iload C0 dX4_tenthsToBalk_50 rfl ?_
        refine ww_aload_n C0 dX4_tenthsToBalk_52 rfl ?_
        refine ww_aload_n C0 dX4_tenthsToBalk_53 rfl ?_
        refine ww_get C0 (ci := 4) (C := RX4) (T := TX4) (N := 14) ku_X4 0 rfl rfl 4 (by decide) kw_X4_34 rfl dX4_tenthsToBalk_54 ?_
        refine ww_getN C0 (ci := 2) (C := RX2) (T := TX2) (N := 5) ku_X2 6 rfl rfl 1 (by decide) kn_X4_117 rfl dX4_tenthsToBalk_57 ?_
        refine ww_iload_n C0 dX4_tenthsToBalk_60 rfl ?_
        refine ww_iald_n (j := k) C0 8 0 rfl rfl rfl (by omega) (by decide) dX4_tenthsToBalk_61 ?_
        refine ww_iconst (v := (0)) C0 dX4_tenthsToBalk_62 rfl ?_
        refine ww_callVi C0 (qc := (RX4, TX4, 14)) 0 4 (c_X4_knownIfShown l D cI cZ cQ hna) kd_X4_knownIfShown kw_X4_234 km_X4_knownIfShown kl_X4_knownIfShown ki_X4 hd_X4_knownIfShown rfl rfl ⟨Nat.le_of_ble_eq_true rfl, Nat.le_of_ble_eq_true rfl, rfl, rfl⟩ (Nat.le_of_ble_eq_true rfl) dX4_tenthsToBalk_63 rfl rfl rfl ⟨Nat.zero_le _, Nat.zero_le _⟩ ?_
        refine ww_iand C0 dX4_tenthsToBalk_66 ?_
        refine ww_if_eq (tgt := 74) C0 dX4_tenthsToBalk_67 (by decide) (fun h67 => ?_) (fun h67 => ?_)
        · skip
          refine ww_iconst (v := (0)) C0 dX4_tenthsToBalk_74 rfl ?_
          refine ww_istore (i := 6) C0 dX4_tenthsToBalk_75 (Nat.le_of_ble_eq_true rfl) rfl ?_
          simp only [List.set_cons_zero, List.set_cons_succ]
          refine ww_iload C0 dX4_tenthsToBalk_77 rfl ?_
          refine ww_if_eq (tgt := 89) C0 dX4_tenthsToBalk_79 (by decide) (fun h79 => ?_) (fun h79 => ?_)
          · skip
            replace h79 := (nI_eqE (a := 1) (b := 0) rfl rfl (by omega) (by omega)).mp h79
            exfalso; omega
          · skip
            replace h79 := (not_congr (nI_eqE (a := 1) (b := 0) rfl rfl (by omega) (by omega))).mp h79
            refine ww_bipush (v := (10)) C0 dX4_tenthsToBalk_82 rfl ?_
            refine ww_iload_n C0 dX4_tenthsToBalk_84 rfl ?_
            refine ww_isub C0 dX4_tenthsToBalk_85 ?_
            refine ww_goto (tgt := 90) C0 dX4_tenthsToBalk_86 (by decide) ?_
            refine ww_iload C0 dX4_tenthsToBalk_90 rfl ?_
            refine ww_if_eq (tgt := 99) C0 dX4_tenthsToBalk_92 (by decide) (fun h92 => ?_) (fun h92 => ?_)
            · skip
              replace h92 := (nI_eqE (a := 0) (b := 0) rfl rfl (by omega) (by omega)).mp h92
              refine ww_iconst (v := (0)) C0 dX4_tenthsToBalk_99 rfl ?_
              refine ww_iadd C0 dX4_tenthsToBalk_100 ?_
              exact ww_iret C0 hr dX4_tenthsToBalk_101 (by simp [sTenths, *]) (by rfl)
            · skip
              replace h92 := (not_congr (nI_eqE (a := 0) (b := 0) rfl rfl (by omega) (by omega))).mp h92
              exfalso; omega
        · skip
          refine ww_iconst (v := (1)) C0 dX4_tenthsToBalk_70 rfl ?_
          refine ww_goto (tgt := 75) C0 dX4_tenthsToBalk_71 (by decide) ?_
          refine ww_istore (i := 6) C0 dX4_tenthsToBalk_75 (Nat.le_of_ble_eq_true rfl) rfl ?_
          simp only [List.set_cons_zero, List.set_cons_succ]
          refine ww_iload C0 dX4_tenthsToBalk_77 rfl ?_
          refine ww_if_eq (tgt := 89) C0 dX4_tenthsToBalk_79 (by decide) (fun h79 => ?_) (fun h79 => ?_)
          · skip
            replace h79 := (nI_eqE (a := 1) (b := 0) rfl rfl (by omega) (by omega)).mp h79
            exfalso; omega
          · skip
            replace h79 := (not_congr (nI_eqE (a := 1) (b := 0) rfl rfl (by omega) (by omega))).mp h79
            refine ww_bipush (v := (10)) C0 dX4_tenthsToBalk_82 rfl ?_
            refine ww_iload_n C0 dX4_tenthsToBalk_84 rfl ?_
            refine ww_isub C0 dX4_tenthsToBalk_85 ?_
            refine ww_goto (tgt := 90) C0 dX4_tenthsToBalk_86 (by decide) ?_
            refine ww_iload C0 dX4_tenthsToBalk_90 rfl ?_
            refine ww_if_eq (tgt := 99) C0 dX4_tenthsToBalk_92 (by decide) (fun h92 => ?_) (fun h92 => ?_)
            · skip
              replace h92 := (nI_eqE (a := 1) (b := 0) rfl rfl (by omega) (by omega)).mp h92
              exfalso; omega
            · skip
              replace h92 := (not_congr (nI_eqE (a := 1) (b := 0) rfl rfl (by omega) (by omega))).mp h92
              refine ww_iload_n C0 dX4_tenthsToBalk_95 rfl ?_
              refine ww_goto (tgt := 100) C0 dX4_tenthsToBalk_96 (by decide) ?_
              refine ww_iadd C0 dX4_tenthsToBalk_100 ?_
              exact ww_iret C0 hr dX4_tenthsToBalk_101 (by simp [sTenths, *]) (by rfl)
    · skip
      exact absurd (isN_nI (by omega) hk) (by rw [h23]; decide)

set_option maxHeartbeats 4000000 in
set_option maxRecDepth 100000 in
theorem c_X4_tallyMule (l : Launch) (D : va_G) (cI cZ cQ : ClassId) {aX aT aL aC aN aY aA aO aK aG aW al0 al1 al2 an0 an1 an2 ay0 ay1 ay2 at0 ag0 ag1 ag2 ag3 ag4 : Nat} {nm fa ac na tn gn : Nat} {hN bN hY bY : Int32} {sd : Int64} {fl0 fl1 fl2 fC fn0 fn1 fn2 fy0 fy1 fy2 ft0 fg0 fg1 fg2 fg3 fg4 fW : Nat → Int32} {rest : va_W} {t : Int32} : MV l D [(cI, .int), (cZ, .boolean), (cQ, .object "MulesRemember$State")] yX4_tallyMule cX4_tallyMule 3 ({ frames := 0, cells := 0, slots := 0, locals := 0 } : Room) [.ref aX, .int t] ((aX, .inr (4, [.ref aT, .ref aL, .ref aC, .int (nI nm), .ref aN, .ref aY, .ref aA, .int (nI fa), .int (nI ac), .ref aO, .ref aK, .ref aG, .ref aW, .long sd])) :: (aL, .inr (0, [.ref al0, .ref al1, .ref al2, .int (nI na)])) :: (al0, .inl (cI, 5, .inl (fl0))) :: (al1, .inl (cI, 5, .inl (fl1))) :: (al2, .inl (cI, 5, .inl (fl2))) :: (aC, .inl (cI, 5, .inl (fC))) :: (aN, .inr (2, [.ref an0, .ref an1, .ref an2, .int hN, .int bN])) :: (an0, .inl (cI, 5, .inl (fn0))) :: (an1, .inl (cI, 5, .inl (fn1))) :: (an2, .inl (cI, 5, .inl (fn2))) :: (aY, .inr (2, [.ref ay0, .ref ay1, .ref ay2, .int hY, .int bY])) :: (ay0, .inl (cI, 5, .inl (fy0))) :: (ay1, .inl (cI, 5, .inl (fy1))) :: (ay2, .inl (cI, 5, .inl (fy2))) :: (aT, .inr (3, [.ref at0, .int (nI tn)])) :: (at0, .inl (cI, 48, .inl (ft0))) :: (aG, .inr (1, [.ref ag0, .ref ag1, .ref ag2, .ref ag3, .ref ag4, .int (nI gn)])) :: (ag0, .inl (cI, 6, .inl (fg0))) :: (ag1, .inl (cI, 6, .inl (fg1))) :: (ag2, .inl (cI, 6, .inl (fg2))) :: (ag3, .inl (cI, 6, .inl (fg3))) :: (ag4, .inl (cI, 6, .inl (fg4))) :: (aW, .inl (cI, 6, .inl (fW))) :: rest) ((aX, .inr (4, [.ref aT, .ref aL, .ref aC, .int (nI nm), .ref aN, .ref aY, .ref aA, .int (nI fa), .int (nI ac), .ref aO, .ref aK, .ref aG, .ref aW, .long sd])) :: (aL, .inr (0, [.ref al0, .ref al1, .ref al2, .int (nI na)])) :: (al0, .inl (cI, 5, .inl (fl0))) :: (al1, .inl (cI, 5, .inl (fl1))) :: (al2, .inl (cI, 5, .inl (fl2))) :: (aC, .inl (cI, 5, .inl (fC))) :: (aN, .inr (2, [.ref an0, .ref an1, .ref an2, .int hN, .int bN])) :: (an0, .inl (cI, 5, .inl (fn0))) :: (an1, .inl (cI, 5, .inl (fn1))) :: (an2, .inl (cI, 5, .inl (fn2))) :: (aY, .inr (2, [.ref ay0, .ref ay1, .ref ay2, .int hY, .int bY])) :: (ay0, .inl (cI, 5, .inl (fy0))) :: (ay1, .inl (cI, 5, .inl (fy1))) :: (ay2, .inl (cI, 5, .inl (fy2))) :: (aT, .inr (3, [.ref at0, .int (nI tn)])) :: (at0, .inl (cI, 48, .inl (ft0))) :: (aG, .inr (1, [.ref ag0, .ref ag1, .ref ag2, .ref ag3, .ref ag4, .int (nI gn)])) :: (ag0, .inl (cI, 6, .inl (fg0))) :: (ag1, .inl (cI, 6, .inl (fg1))) :: (ag2, .inl (cI, 6, .inl (fg2))) :: (ag3, .inl (cI, 6, .inl (fg3))) :: (ag4, .inl (cI, 6, .inl (fg4))) :: (aW, .inl (cI, 6, .inl (sTally fW t))) :: rest) := by
  refine MV.of [.ref aX, .int t, .null] (by decide) (Nat.le_of_ble_eq_true rfl) rfl ?_
  intro p e s m below meth c A C0 hr
  refine ww_aload_n C0 dX4_tallyMule_0 rfl ?_
  refine ww_get C0 (ci := 4) (C := RX4) (T := TX4) (N := 14) ku_X4 0 rfl rfl 12 (by decide) kw_X4_65 rfl dX4_tallyMule_1 ?_
  refine ww_alen (v := 6) C0 22 0 rfl rfl rfl dX4_tallyMule_4 ?_
  refine ww_iconst (v := (1)) C0 dX4_tallyMule_5 rfl ?_
  refine ww_isub C0 dX4_tallyMule_6 ?_
  refine ww_istore_n (i := 2) C0 dX4_tallyMule_7 rfl (Nat.le_of_ble_eq_true rfl) rfl ?_
  simp only [List.set_cons_zero, List.set_cons_succ]
  refine ww_cong (lo' := [_, _, .int 5]) ?_ (by rfl) rfl rfl
  refine ww_iload_n C0 dX4_tallyMule_8 rfl ?_
  refine ww_if_le (tgt := 46) C0 dX4_tallyMule_9 (by decide) (fun h9 => ?_) (fun h9 => ?_)
  · skip
    replace h9 := (nI_leE (a := 5) (b := 0) rfl rfl (by omega) (by omega)).mp h9
    exfalso; omega
  · skip
    replace h9 := (not_congr (nI_leE (a := 5) (b := 0) rfl rfl (by omega) (by omega))).mp h9
    refine ww_aload_n C0 dX4_tallyMule_12 rfl ?_
    refine ww_get C0 (ci := 4) (C := RX4) (T := TX4) (N := 14) ku_X4 0 rfl rfl 12 (by decide) kw_X4_65 rfl dX4_tallyMule_13 ?_
    refine ww_iload_n C0 dX4_tallyMule_16 rfl ?_
    refine ww_aload_n C0 dX4_tallyMule_17 rfl ?_
    refine ww_get C0 (ci := 4) (C := RX4) (T := TX4) (N := 14) ku_X4 0 rfl rfl 12 (by decide) kw_X4_65 rfl dX4_tallyMule_18 ?_
    refine ww_iload_n C0 dX4_tallyMule_21 rfl ?_
    refine ww_iald_n (j := 5) C0 22 0 rfl rfl rfl (by omega) (by decide) dX4_tallyMule_22 ?_
    refine ww_bipush (v := (10)) C0 dX4_tallyMule_23 rfl ?_
    refine ww_iload_n C0 dX4_tallyMule_25 rfl ?_
    refine ww_isub C0 dX4_tallyMule_26 ?_
    refine ww_imul C0 dX4_tallyMule_27 ?_
    refine ww_aload_n C0 dX4_tallyMule_28 rfl ?_
    refine ww_get C0 (ci := 4) (C := RX4) (T := TX4) (N := 14) ku_X4 0 rfl rfl 12 (by decide) kw_X4_65 rfl dX4_tallyMule_29 ?_
    refine ww_iload_n C0 dX4_tallyMule_32 rfl ?_
    refine ww_iconst (v := (1)) C0 dX4_tallyMule_33 rfl ?_
    refine ww_isub C0 dX4_tallyMule_34 ?_
    refine ww_iald_n (j := 5 - 1) C0 22 0 rfl rfl (nI_subE (a := 5) (b := 1) rfl rfl (by omega)) (by omega) (by decide) dX4_tallyMule_35 ?_
    refine ww_iload_n C0 dX4_tallyMule_36 rfl ?_
    refine ww_imul C0 dX4_tallyMule_37 ?_
    refine ww_iadd C0 dX4_tallyMule_38 ?_
    refine ww_iast_n (j := 5) C0 22 0 rfl rfl rfl (by omega) (by decide) dX4_tallyMule_39 ?_
    simp only [List.set_cons_zero, List.set_cons_succ]
    refine ww_iinc (d := (-1)) C0 dX4_tallyMule_40 rfl rfl rfl ?_
    simp only [List.set_cons_zero, List.set_cons_succ]
    refine ww_goto (tgt := 8) C0 dX4_tallyMule_43 (by decide) ?_
    refine ww_cong (lo' := [_, _, .int 4]) ?_ (by rfl) rfl rfl
    refine ww_iload_n C0 dX4_tallyMule_8 rfl ?_
    refine ww_if_le (tgt := 46) C0 dX4_tallyMule_9 (by decide) (fun h9 => ?_) (fun h9 => ?_)
    · skip
      replace h9 := (nI_leE (a := 4) (b := 0) rfl rfl (by omega) (by omega)).mp h9
      exfalso; omega
    · skip
      replace h9 := (not_congr (nI_leE (a := 4) (b := 0) rfl rfl (by omega) (by omega))).mp h9
      refine ww_aload_n C0 dX4_tallyMule_12 rfl ?_
      refine ww_get C0 (ci := 4) (C := RX4) (T := TX4) (N := 14) ku_X4 0 rfl rfl 12 (by decide) kw_X4_65 rfl dX4_tallyMule_13 ?_
      refine ww_iload_n C0 dX4_tallyMule_16 rfl ?_
      refine ww_aload_n C0 dX4_tallyMule_17 rfl ?_
      refine ww_get C0 (ci := 4) (C := RX4) (T := TX4) (N := 14) ku_X4 0 rfl rfl 12 (by decide) kw_X4_65 rfl dX4_tallyMule_18 ?_
      refine ww_iload_n C0 dX4_tallyMule_21 rfl ?_
      refine ww_iald_n (j := 4) C0 22 0 rfl rfl rfl (by omega) (by decide) dX4_tallyMule_22 ?_
      refine ww_bipush (v := (10)) C0 dX4_tallyMule_23 rfl ?_
      refine ww_iload_n C0 dX4_tallyMule_25 rfl ?_
      refine ww_isub C0 dX4_tallyMule_26 ?_
      refine ww_imul C0 dX4_tallyMule_27 ?_
      refine ww_aload_n C0 dX4_tallyMule_28 rfl ?_
      refine ww_get C0 (ci := 4) (C := RX4) (T := TX4) (N := 14) ku_X4 0 rfl rfl 12 (by decide) kw_X4_65 rfl dX4_tallyMule_29 ?_
      refine ww_iload_n C0 dX4_tallyMule_32 rfl ?_
      refine ww_iconst (v := (1)) C0 dX4_tallyMule_33 rfl ?_
      refine ww_isub C0 dX4_tallyMule_34 ?_
      refine ww_iald_n (j := 4 - 1) C0 22 0 rfl rfl (nI_subE (a := 4) (b := 1) rfl rfl (by omega)) (by omega) (by decide) dX4_tallyMule_35 ?_
      refine ww_iload_n C0 dX4_tallyMule_36 rfl ?_
      refine ww_imul C0 dX4_tallyMule_37 ?_
      refine ww_iadd C0 dX4_tallyMule_38 ?_
      refine ww_iast_n (j := 4) C0 22 0 rfl rfl rfl (by omega) (by decide) dX4_tallyMule_39 ?_
      simp only [List.set_cons_zero, List.set_cons_succ]
      refine ww_iinc (d := (-1)) C0 dX4_tallyMule_40 rfl rfl rfl ?_
      simp only [List.set_cons_zero, List.set_cons_succ]
      refine ww_goto (tgt := 8) C0 dX4_tallyMule_43 (by decide) ?_
      refine ww_cong (lo' := [_, _, .int 3]) ?_ (by rfl) rfl rfl
      refine ww_iload_n C0 dX4_tallyMule_8 rfl ?_
      refine ww_if_le (tgt := 46) C0 dX4_tallyMule_9 (by decide) (fun h9 => ?_) (fun h9 => ?_)
      · skip
        replace h9 := (nI_leE (a := 3) (b := 0) rfl rfl (by omega) (by omega)).mp h9
        exfalso; omega
      · skip
        replace h9 := (not_congr (nI_leE (a := 3) (b := 0) rfl rfl (by omega) (by omega))).mp h9
        refine ww_aload_n C0 dX4_tallyMule_12 rfl ?_
        refine ww_get C0 (ci := 4) (C := RX4) (T := TX4) (N := 14) ku_X4 0 rfl rfl 12 (by decide) kw_X4_65 rfl dX4_tallyMule_13 ?_
        refine ww_iload_n C0 dX4_tallyMule_16 rfl ?_
        refine ww_aload_n C0 dX4_tallyMule_17 rfl ?_
        refine ww_get C0 (ci := 4) (C := RX4) (T := TX4) (N := 14) ku_X4 0 rfl rfl 12 (by decide) kw_X4_65 rfl dX4_tallyMule_18 ?_
        refine ww_iload_n C0 dX4_tallyMule_21 rfl ?_
        refine ww_iald_n (j := 3) C0 22 0 rfl rfl rfl (by omega) (by decide) dX4_tallyMule_22 ?_
        refine ww_bipush (v := (10)) C0 dX4_tallyMule_23 rfl ?_
        refine ww_iload_n C0 dX4_tallyMule_25 rfl ?_
        refine ww_isub C0 dX4_tallyMule_26 ?_
        refine ww_imul C0 dX4_tallyMule_27 ?_
        refine ww_aload_n C0 dX4_tallyMule_28 rfl ?_
        refine ww_get C0 (ci := 4) (C := RX4) (T := TX4) (N := 14) ku_X4 0 rfl rfl 12 (by decide) kw_X4_65 rfl dX4_tallyMule_29 ?_
        refine ww_iload_n C0 dX4_tallyMule_32 rfl ?_
        refine ww_iconst (v := (1)) C0 dX4_tallyMule_33 rfl ?_
        refine ww_isub C0 dX4_tallyMule_34 ?_
        refine ww_iald_n (j := 3 - 1) C0 22 0 rfl rfl (nI_subE (a := 3) (b := 1) rfl rfl (by omega)) (by omega) (by decide) dX4_tallyMule_35 ?_
        refine ww_iload_n C0 dX4_tallyMule_36 rfl ?_
        refine ww_imul C0 dX4_tallyMule_37 ?_
        refine ww_iadd C0 dX4_tallyMule_38 ?_
        refine ww_iast_n (j := 3) C0 22 0 rfl rfl rfl (by omega) (by decide) dX4_tallyMule_39 ?_
        simp only [List.set_cons_zero, List.set_cons_succ]
        refine ww_iinc (d := (-1)) C0 dX4_tallyMule_40 rfl rfl rfl ?_
        simp only [List.set_cons_zero, List.set_cons_succ]
        refine ww_goto (tgt := 8) C0 dX4_tallyMule_43 (by decide) ?_
        refine ww_cong (lo' := [_, _, .int 2]) ?_ (by rfl) rfl rfl
        refine ww_iload_n C0 dX4_tallyMule_8 rfl ?_
        refine ww_if_le (tgt := 46) C0 dX4_tallyMule_9 (by decide) (fun h9 => ?_) (fun h9 => ?_)
        · skip
          replace h9 := (nI_leE (a := 2) (b := 0) rfl rfl (by omega) (by omega)).mp h9
          exfalso; omega
        · skip
          replace h9 := (not_congr (nI_leE (a := 2) (b := 0) rfl rfl (by omega) (by omega))).mp h9
          refine ww_aload_n C0 dX4_tallyMule_12 rfl ?_
          refine ww_get C0 (ci := 4) (C := RX4) (T := TX4) (N := 14) ku_X4 0 rfl rfl 12 (by decide) kw_X4_65 rfl dX4_tallyMule_13 ?_
          refine ww_iload_n C0 dX4_tallyMule_16 rfl ?_
          refine ww_aload_n C0 dX4_tallyMule_17 rfl ?_
          refine ww_get C0 (ci := 4) (C := RX4) (T := TX4) (N := 14) ku_X4 0 rfl rfl 12 (by decide) kw_X4_65 rfl dX4_tallyMule_18 ?_
          refine ww_iload_n C0 dX4_tallyMule_21 rfl ?_
          refine ww_iald_n (j := 2) C0 22 0 rfl rfl rfl (by omega) (by decide) dX4_tallyMule_22 ?_
          refine ww_bipush (v := (10)) C0 dX4_tallyMule_23 rfl ?_
          refine ww_iload_n C0 dX4_tallyMule_25 rfl ?_
          refine ww_isub C0 dX4_tallyMule_26 ?_
          refine ww_imul C0 dX4_tallyMule_27 ?_
          refine ww_aload_n C0 dX4_tallyMule_28 rfl ?_
          refine ww_get C0 (ci := 4) (C := RX4) (T := TX4) (N := 14) ku_X4 0 rfl rfl 12 (by decide) kw_X4_65 rfl dX4_tallyMule_29 ?_
          refine ww_iload_n C0 dX4_tallyMule_32 rfl ?_
          refine ww_iconst (v := (1)) C0 dX4_tallyMule_33 rfl ?_
          refine ww_isub C0 dX4_tallyMule_34 ?_
          refine ww_iald_n (j := 2 - 1) C0 22 0 rfl rfl (nI_subE (a := 2) (b := 1) rfl rfl (by omega)) (by omega) (by decide) dX4_tallyMule_35 ?_
          refine ww_iload_n C0 dX4_tallyMule_36 rfl ?_
          refine ww_imul C0 dX4_tallyMule_37 ?_
          refine ww_iadd C0 dX4_tallyMule_38 ?_
          refine ww_iast_n (j := 2) C0 22 0 rfl rfl rfl (by omega) (by decide) dX4_tallyMule_39 ?_
          simp only [List.set_cons_zero, List.set_cons_succ]
          refine ww_iinc (d := (-1)) C0 dX4_tallyMule_40 rfl rfl rfl ?_
          simp only [List.set_cons_zero, List.set_cons_succ]
          refine ww_goto (tgt := 8) C0 dX4_tallyMule_43 (by decide) ?_
          refine ww_cong (lo' := [_, _, .int 1]) ?_ (by rfl) rfl rfl
          refine ww_iload_n C0 dX4_tallyMule_8 rfl ?_
          refine ww_if_le (tgt := 46) C0 dX4_tallyMule_9 (by decide) (fun h9 => ?_) (fun h9 => ?_)
          · skip
            replace h9 := (nI_leE (a := 1) (b := 0) rfl rfl (by omega) (by omega)).mp h9
            exfalso; omega
          · skip
            replace h9 := (not_congr (nI_leE (a := 1) (b := 0) rfl rfl (by omega) (by omega))).mp h9
            refine ww_aload_n C0 dX4_tallyMule_12 rfl ?_
            refine ww_get C0 (ci := 4) (C := RX4) (T := TX4) (N := 14) ku_X4 0 rfl rfl 12 (by decide) kw_X4_65 rfl dX4_tallyMule_13 ?_
            refine ww_iload_n C0 dX4_tallyMule_16 rfl ?_
            refine ww_aload_n C0 dX4_tallyMule_17 rfl ?_
            refine ww_get C0 (ci := 4) (C := RX4) (T := TX4) (N := 14) ku_X4 0 rfl rfl 12 (by decide) kw_X4_65 rfl dX4_tallyMule_18 ?_
            refine ww_iload_n C0 dX4_tallyMule_21 rfl ?_
            refine ww_iald_n (j := 1) C0 22 0 rfl rfl rfl (by omega) (by decide) dX4_tallyMule_22 ?_
            refine ww_bipush (v := (10)) C0 dX4_tallyMule_23 rfl ?_
            refine ww_iload_n C0 dX4_tallyMule_25 rfl ?_
            refine ww_isub C0 dX4_tallyMule_26 ?_
            refine ww_imul C0 dX4_tallyMule_27 ?_
            refine ww_aload_n C0 dX4_tallyMule_28 rfl ?_
            refine ww_get C0 (ci := 4) (C := RX4) (T := TX4) (N := 14) ku_X4 0 rfl rfl 12 (by decide) kw_X4_65 rfl dX4_tallyMule_29 ?_
            refine ww_iload_n C0 dX4_tallyMule_32 rfl ?_
            refine ww_iconst (v := (1)) C0 dX4_tallyMule_33 rfl ?_
            refine ww_isub C0 dX4_tallyMule_34 ?_
            refine ww_iald_n (j := 1 - 1) C0 22 0 rfl rfl (nI_subE (a := 1) (b := 1) rfl rfl (by omega)) (by omega) (by decide) dX4_tallyMule_35 ?_
            refine ww_iload_n C0 dX4_tallyMule_36 rfl ?_
            refine ww_imul C0 dX4_tallyMule_37 ?_
            refine ww_iadd C0 dX4_tallyMule_38 ?_
            refine ww_iast_n (j := 1) C0 22 0 rfl rfl rfl (by omega) (by decide) dX4_tallyMule_39 ?_
            simp only [List.set_cons_zero, List.set_cons_succ]
            refine ww_iinc (d := (-1)) C0 dX4_tallyMule_40 rfl rfl rfl ?_
            simp only [List.set_cons_zero, List.set_cons_succ]
            refine ww_goto (tgt := 8) C0 dX4_tallyMule_43 (by decide) ?_
            refine ww_cong (lo' := [_, _, .int 0]) ?_ (by rfl) rfl rfl
            refine ww_iload_n C0 dX4_tallyMule_8 rfl ?_
            refine ww_if_le (tgt := 46) C0 dX4_tallyMule_9 (by decide) (fun h9 => ?_) (fun h9 => ?_)
            · skip
              replace h9 := (nI_leE (a := 0) (b := 0) rfl rfl (by omega) (by omega)).mp h9
              refine ww_aload_n C0 dX4_tallyMule_46 rfl ?_
              refine ww_get C0 (ci := 4) (C := RX4) (T := TX4) (N := 14) ku_X4 0 rfl rfl 12 (by decide) kw_X4_65 rfl dX4_tallyMule_47 ?_
              refine ww_iconst (v := (0)) C0 dX4_tallyMule_50 rfl ?_
              refine ww_dup2 C0 dX4_tallyMule_51 rfl rfl ?_
              refine ww_iald_n (j := 0) C0 22 0 rfl rfl rfl (by omega) (by decide) dX4_tallyMule_52 ?_
              refine ww_bipush (v := (10)) C0 dX4_tallyMule_53 rfl ?_
              refine ww_iload_n C0 dX4_tallyMule_55 rfl ?_
              refine ww_isub C0 dX4_tallyMule_56 ?_
              refine ww_imul C0 dX4_tallyMule_57 ?_
              refine ww_iast_n (j := 0) C0 22 0 rfl rfl rfl (by omega) (by decide) dX4_tallyMule_58 ?_
              simp only [List.set_cons_zero, List.set_cons_succ]
              refine ww_arr 22 (sTally fW t) rfl (fun k hk => by
                rcases (show k = 0 ∨ k = 1 ∨ k = 2 ∨ k = 3 ∨ k = 4 ∨ k = 5 by omega) with rfl | rfl | rfl | rfl | rfl | rfl <;> simp [upd, sTally]) ?_
              simp only [List.set_cons_zero, List.set_cons_succ]
              exact ww_vret C0 hr dX4_tallyMule_59 (by rfl)
            · skip
              replace h9 := (not_congr (nI_leE (a := 0) (b := 0) rfl rfl (by omega) (by omega))).mp h9
              exfalso; omega
