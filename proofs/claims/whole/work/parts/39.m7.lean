set_option maxHeartbeats 4000000 in
set_option maxRecDepth 100000 in
theorem c_X5_barredBy (l : Launch) (D : va_G) (cI cZ cQ : ClassId) {aM amt amc amw ams amv amr amx amp amq amb amk amz am0 am1 am2 am3 am4 amh amo : Nat} {tn nm na ac gn : Nat} {th vpl vrm vra x0 x1 x2 x3 : Int32} {sd : Int64} {fmt fmc fmw fms fmv fmp : Nat → Int32} {rest : va_W} {so : Int32} (hnm : nm ≤ 5) (hna : na ≤ 5) : MI l D [(cI, .int), (cZ, .boolean), (cQ, .object "MulesRemember$State")] yX5_barredBy cX5_barredBy 5 .int ({ frames := 3, cells := 0, slots := 0, locals := 76 } : Room) [.ref aM, .int so] ((aM, .inr (5, [.int th, .ref amt, .int (nI tn), .int vpl, .int (nI nm), .ref amc, .int (nI na), .ref amw, .ref ams, .ref amv, .int vrm, .ref amr, .int vra, .ref amx, .ref amp, .ref amq, .ref amb, .int (nI ac), .ref amk, .ref amz, .int (nI gn), .ref am0, .ref am1, .ref am2, .ref am3, .ref am4, .long sd, .ref amh, .int x0, .int x1, .int x2, .int x3, .ref amo])) :: (amt, .inl (cI, 48, .inl (fmt))) :: (amc, .inl (cI, 5, .inl (fmc))) :: (amw, .inl (cI, 5, .inl (fmw))) :: (ams, .inl (cI, 5, .inl (fms))) :: (amv, .inl (cI, 5, .inl (fmv))) :: (amp, .inl (cI, 17, .inl (fmp))) :: rest) (mBarred nm na fmw fms fmv fmc fmp so) ((aM, .inr (5, [.int th, .ref amt, .int (nI tn), .int vpl, .int (nI nm), .ref amc, .int (nI na), .ref amw, .ref ams, .ref amv, .int vrm, .ref amr, .int vra, .ref amx, .ref amp, .ref amq, .ref amb, .int (nI ac), .ref amk, .ref amz, .int (nI gn), .ref am0, .ref am1, .ref am2, .ref am3, .ref am4, .long sd, .ref amh, .int x0, .int x1, .int x2, .int x3, .ref amo])) :: (amt, .inl (cI, 48, .inl (fmt))) :: (amc, .inl (cI, 5, .inl (fmc))) :: (amw, .inl (cI, 5, .inl (fmw))) :: (ams, .inl (cI, 5, .inl (fms))) :: (amv, .inl (cI, 5, .inl (fmv))) :: (amp, .inl (cI, 17, .inl (fmp))) :: rest) := by
  refine MI.of [.ref aM, .int so, .null, .null, .null] (by decide) (Nat.le_of_ble_eq_true rfl) rfl ?_
  intro p e s m below meth c A C0 hr
  refine ww_iconst (v := (0)) C0 dX5_barredBy_0 rfl ?_
  refine ww_istore_n (i := 2) C0 dX5_barredBy_1 rfl (Nat.le_of_ble_eq_true rfl) rfl ?_
  simp only [List.set_cons_zero, List.set_cons_succ]
  refine ww_iconst (v := (0)) C0 dX5_barredBy_2 rfl ?_
  refine ww_istore_n (i := 3) C0 dX5_barredBy_3 rfl (Nat.le_of_ble_eq_true rfl) rfl ?_
  simp only [List.set_cons_zero, List.set_cons_succ]
  refine ww_back (ww_loop (pc := 4) 0 (nm) (by omega) (fun j => [_, _, .int (sumI (mStep nm na fmw fms fmv fmc fmp so) j), .int (nI j), .null]) (fun j => _) ?_ ?_) ⟨Or.inr rfl, Or.inr rfl, Or.inr rfl, Or.inr rfl, Or.inl rfl, trivial⟩ (by rfl)
  · intro j hj0 hj ih
    refine ww_iload_n C0 dX5_barredBy_4 rfl ?_
    refine ww_aload_n C0 dX5_barredBy_5 rfl ?_
    refine ww_get C0 (ci := 5) (C := RX5) (T := TX5) (N := 33) ku_X5 0 rfl rfl 4 (by decide) kw_X5_72 rfl dX5_barredBy_6 ?_
    refine ww_icmp_ge (tgt := 72) C0 dX5_barredBy_9 (by decide) (fun h9 => ?_) (fun h9 => ?_)
    · skip
      replace h9 := (nI_leE (a := nm) (b := j) rfl rfl (by omega) (by omega)).mp h9
      exfalso; omega
    · skip
      replace h9 := (not_congr (nI_leE (a := nm) (b := j) rfl rfl (by omega) (by omega))).mp h9
      refine ww_iconst (v := (0)) C0 dX5_barredBy_12 rfl ?_
      refine ww_istore (i := 4) C0 dX5_barredBy_13 (Nat.le_of_ble_eq_true rfl) rfl ?_
      simp only [List.set_cons_zero, List.set_cons_succ]
      refine ww_cong (lo' := [_, _, _, _, .int 0]) ?_ (by rfl) rfl rfl
      refine ww_iload C0 dX5_barredBy_15 rfl ?_
      refine ww_iconst (v := (2)) C0 dX5_barredBy_17 rfl ?_
      refine ww_icmp_ge (tgt := 66) C0 dX5_barredBy_18 (by decide) (fun h18 => ?_) (fun h18 => ?_)
      · skip
        replace h18 := (nI_leE (a := 2) (b := 0) rfl rfl (by omega) (by omega)).mp h18
        exfalso; omega
      · skip
        replace h18 := (not_congr (nI_leE (a := 2) (b := 0) rfl rfl (by omega) (by omega))).mp h18
        refine ww_iload_n C0 dX5_barredBy_21 rfl ?_
        refine ww_aload_n C0 dX5_barredBy_22 rfl ?_
        refine ww_get C0 (ci := 5) (C := RX5) (T := TX5) (N := 33) ku_X5 0 rfl rfl 14 (by decide) kw_X5_31 rfl dX5_barredBy_23 ?_
        refine ww_iload_n C0 dX5_barredBy_26 rfl ?_
        refine ww_iload C0 dX5_barredBy_27 rfl ?_
        refine ww_callSi C0 (c_X5_toStone l D cI cZ cQ (by omega)) kd_X5_toStone kw_X5_119 ks_X5_toStone ki_X5 hd_X5_toStone ⟨Nat.le_of_ble_eq_true rfl, Nat.le_of_ble_eq_true rfl, rfl, rfl⟩ (Nat.le_of_ble_eq_true rfl) dX5_barredBy_29 rfl rfl ⟨Nat.zero_le _, Nat.zero_le _⟩ ?_
        refine ww_bipush (v := (-9)) C0 dX5_barredBy_32 rfl ?_
        refine ww_icmp_eq (tgt := 57) C0 dX5_barredBy_34 (by decide) (fun h34 => ?_) (fun h34 => ?_)
        · skip
          refine ww_iconst (v := (0)) C0 dX5_barredBy_57 rfl ?_
          refine ww_top (v' := mBar1 (mTo (fmp j) 0) (mFF nm na fmw fms fmv fmc fmp j 0) so) (by simp [mBar1, *]) ?_
          refine ww_iadd C0 dX5_barredBy_58 ?_
          refine ww_istore_n (i := 2) C0 dX5_barredBy_59 rfl (Nat.le_of_ble_eq_true rfl) rfl ?_
          simp only [List.set_cons_zero, List.set_cons_succ]
          refine ww_iinc (d := 1) C0 dX5_barredBy_60 rfl rfl rfl ?_
          simp only [List.set_cons_zero, List.set_cons_succ]
          refine ww_goto (tgt := 15) C0 dX5_barredBy_63 (by decide) ?_
          refine ww_cong (lo' := [_, _, _, _, .int 1]) ?_ (by rfl) rfl rfl
          refine ww_iload C0 dX5_barredBy_15 rfl ?_
          refine ww_iconst (v := (2)) C0 dX5_barredBy_17 rfl ?_
          refine ww_icmp_ge (tgt := 66) C0 dX5_barredBy_18 (by decide) (fun h18 => ?_) (fun h18 => ?_)
          · skip
            replace h18 := (nI_leE (a := 2) (b := 1) rfl rfl (by omega) (by omega)).mp h18
            exfalso; omega
          · skip
            replace h18 := (not_congr (nI_leE (a := 2) (b := 1) rfl rfl (by omega) (by omega))).mp h18
            refine ww_iload_n C0 dX5_barredBy_21 rfl ?_
            refine ww_aload_n C0 dX5_barredBy_22 rfl ?_
            refine ww_get C0 (ci := 5) (C := RX5) (T := TX5) (N := 33) ku_X5 0 rfl rfl 14 (by decide) kw_X5_31 rfl dX5_barredBy_23 ?_
            refine ww_iload_n C0 dX5_barredBy_26 rfl ?_
            refine ww_iload C0 dX5_barredBy_27 rfl ?_
            refine ww_callSi C0 (c_X5_toStone l D cI cZ cQ (by omega)) kd_X5_toStone kw_X5_119 ks_X5_toStone ki_X5 hd_X5_toStone ⟨Nat.le_of_ble_eq_true rfl, Nat.le_of_ble_eq_true rfl, rfl, rfl⟩ (Nat.le_of_ble_eq_true rfl) dX5_barredBy_29 rfl rfl ⟨Nat.zero_le _, Nat.zero_le _⟩ ?_
            refine ww_bipush (v := (-9)) C0 dX5_barredBy_32 rfl ?_
            refine ww_icmp_eq (tgt := 57) C0 dX5_barredBy_34 (by decide) (fun h34 => ?_) (fun h34 => ?_)
            · skip
              refine ww_iconst (v := (0)) C0 dX5_barredBy_57 rfl ?_
              refine ww_top (v' := mBar1 (mTo (fmp j) 1) (mFF nm na fmw fms fmv fmc fmp j 1) so) (by simp [mBar1, *]) ?_
              refine ww_iadd C0 dX5_barredBy_58 ?_
              refine ww_istore_n (i := 2) C0 dX5_barredBy_59 rfl (Nat.le_of_ble_eq_true rfl) rfl ?_
              simp only [List.set_cons_zero, List.set_cons_succ]
              refine ww_iinc (d := 1) C0 dX5_barredBy_60 rfl rfl rfl ?_
              simp only [List.set_cons_zero, List.set_cons_succ]
              refine ww_goto (tgt := 15) C0 dX5_barredBy_63 (by decide) ?_
              refine ww_cong (lo' := [_, _, _, _, .int 2]) ?_ (by rfl) rfl rfl
              refine ww_iload C0 dX5_barredBy_15 rfl ?_
              refine ww_iconst (v := (2)) C0 dX5_barredBy_17 rfl ?_
              refine ww_icmp_ge (tgt := 66) C0 dX5_barredBy_18 (by decide) (fun h18 => ?_) (fun h18 => ?_)
              · skip
                replace h18 := (nI_leE (a := 2) (b := 2) rfl rfl (by omega) (by omega)).mp h18
                refine ww_iinc (d := 1) C0 dX5_barredBy_66 rfl rfl rfl ?_
                simp only [List.set_cons_zero, List.set_cons_succ]
                refine ww_goto (tgt := 4) C0 dX5_barredBy_69 (by decide) ?_
                exact ww_back ih ⟨Or.inr rfl, Or.inr rfl, Or.inr (congrArg Value.int (by simp only [sumI, mStep, Int32.add_assoc])), Or.inr (congrArg Value.int (nI_addE (a := j) (b := 1) rfl rfl).symm), Or.inl rfl, trivial⟩ (by rfl)
              · skip
                replace h18 := (not_congr (nI_leE (a := 2) (b := 2) rfl rfl (by omega) (by omega))).mp h18
                exfalso; omega
            · skip
              refine ww_aload_n C0 dX5_barredBy_37 rfl ?_
              refine ww_aload_n C0 dX5_barredBy_38 rfl ?_
              refine ww_get C0 (ci := 5) (C := RX5) (T := TX5) (N := 33) ku_X5 0 rfl rfl 14 (by decide) kw_X5_31 rfl dX5_barredBy_39 ?_
              refine ww_iload_n C0 dX5_barredBy_42 rfl ?_
              refine ww_iload C0 dX5_barredBy_43 rfl ?_
              refine ww_callVi C0 (qc := (RX5, TX5, 33)) 0 5 (c_X5_forbids l D cI cZ cQ hnm hna hj) kd_X5_forbids kw_X5_130 km_X5_forbids kl_X5_forbids ki_X5 hd_X5_forbids rfl rfl ⟨Nat.le_of_ble_eq_true rfl, Nat.le_of_ble_eq_true rfl, rfl, rfl⟩ (Nat.le_of_ble_eq_true rfl) dX5_barredBy_45 rfl rfl rfl ⟨Nat.zero_le _, Nat.zero_le _⟩ ?_
              refine ww_iload_n C0 dX5_barredBy_48 rfl ?_
              refine ww_iand C0 dX5_barredBy_49 ?_
              refine ww_if_eq (tgt := 57) C0 dX5_barredBy_50 (by decide) (fun h50 => ?_) (fun h50 => ?_)
              · skip
                refine ww_iconst (v := (0)) C0 dX5_barredBy_57 rfl ?_
                refine ww_top (v' := mBar1 (mTo (fmp j) 1) (mFF nm na fmw fms fmv fmc fmp j 1) so) (by simp [mBar1, *]) ?_
                refine ww_iadd C0 dX5_barredBy_58 ?_
                refine ww_istore_n (i := 2) C0 dX5_barredBy_59 rfl (Nat.le_of_ble_eq_true rfl) rfl ?_
                simp only [List.set_cons_zero, List.set_cons_succ]
                refine ww_iinc (d := 1) C0 dX5_barredBy_60 rfl rfl rfl ?_
                simp only [List.set_cons_zero, List.set_cons_succ]
                refine ww_goto (tgt := 15) C0 dX5_barredBy_63 (by decide) ?_
                refine ww_cong (lo' := [_, _, _, _, .int 2]) ?_ (by rfl) rfl rfl
                refine ww_iload C0 dX5_barredBy_15 rfl ?_
                refine ww_iconst (v := (2)) C0 dX5_barredBy_17 rfl ?_
                refine ww_icmp_ge (tgt := 66) C0 dX5_barredBy_18 (by decide) (fun h18 => ?_) (fun h18 => ?_)
                · skip
                  replace h18 := (nI_leE (a := 2) (b := 2) rfl rfl (by omega) (by omega)).mp h18
                  refine ww_iinc (d := 1) C0 dX5_barredBy_66 rfl rfl rfl ?_
                  simp only [List.set_cons_zero, List.set_cons_succ]
                  refine ww_goto (tgt := 4) C0 dX5_barredBy_69 (by decide) ?_
                  exact ww_back ih ⟨Or.inr rfl, Or.inr rfl, Or.inr (congrArg Value.int (by simp only [sumI, mStep, Int32.add_assoc])), Or.inr (congrArg Value.int (nI_addE (a := j) (b := 1) rfl rfl).symm), Or.inl rfl, trivial⟩ (by rfl)
                · skip
                  replace h18 := (not_congr (nI_leE (a := 2) (b := 2) rfl rfl (by omega) (by omega))).mp h18
                  exfalso; omega
              · skip
                refine ww_iconst (v := (1)) C0 dX5_barredBy_53 rfl ?_
                refine ww_goto (tgt := 58) C0 dX5_barredBy_54 (by decide) ?_
                refine ww_top (v' := mBar1 (mTo (fmp j) 1) (mFF nm na fmw fms fmv fmc fmp j 1) so) (by simp [mBar1, *]) ?_
                refine ww_iadd C0 dX5_barredBy_58 ?_
                refine ww_istore_n (i := 2) C0 dX5_barredBy_59 rfl (Nat.le_of_ble_eq_true rfl) rfl ?_
                simp only [List.set_cons_zero, List.set_cons_succ]
                refine ww_iinc (d := 1) C0 dX5_barredBy_60 rfl rfl rfl ?_
                simp only [List.set_cons_zero, List.set_cons_succ]
                refine ww_goto (tgt := 15) C0 dX5_barredBy_63 (by decide) ?_
                refine ww_cong (lo' := [_, _, _, _, .int 2]) ?_ (by rfl) rfl rfl
                refine ww_iload C0 dX5_barredBy_15 rfl ?_
                refine ww_iconst (v := (2)) C0 dX5_barredBy_17 rfl ?_
                refine ww_icmp_ge (tgt := 66) C0 dX5_barredBy_18 (by decide) (fun h18 => ?_) (fun h18 => ?_)
                · skip
                  replace h18 := (nI_leE (a := 2) (b := 2) rfl rfl (by omega) (by omega)).mp h18
                  refine ww_iinc (d := 1) C0 dX5_barredBy_66 rfl rfl rfl ?_
                  simp only [List.set_cons_zero, List.set_cons_succ]
                  refine ww_goto (tgt := 4) C0 dX5_barredBy_69 (by decide) ?_
                  exact ww_back ih ⟨Or.inr rfl, Or.inr rfl, Or.inr (congrArg Value.int (by simp only [sumI, mStep, Int32.add_assoc])), Or.inr (congrArg Value.int (nI_addE (a := j) (b := 1) rfl rfl).symm), Or.inl rfl, trivial⟩ (by rfl)
                · skip
                  replace h18 := (not_congr (nI_leE (a := 2) (b := 2) rfl rfl (by omega) (by omega))).mp h18
                  exfalso; omega
        · skip
          refine ww_aload_n C0 dX5_barredBy_37 rfl ?_
          refine ww_aload_n C0 dX5_barredBy_38 rfl ?_
          refine ww_get C0 (ci := 5) (C := RX5) (T := TX5) (N := 33) ku_X5 0 rfl rfl 14 (by decide) kw_X5_31 rfl dX5_barredBy_39 ?_
          refine ww_iload_n C0 dX5_barredBy_42 rfl ?_
          refine ww_iload C0 dX5_barredBy_43 rfl ?_
          refine ww_callVi C0 (qc := (RX5, TX5, 33)) 0 5 (c_X5_forbids l D cI cZ cQ hnm hna hj) kd_X5_forbids kw_X5_130 km_X5_forbids kl_X5_forbids ki_X5 hd_X5_forbids rfl rfl ⟨Nat.le_of_ble_eq_true rfl, Nat.le_of_ble_eq_true rfl, rfl, rfl⟩ (Nat.le_of_ble_eq_true rfl) dX5_barredBy_45 rfl rfl rfl ⟨Nat.zero_le _, Nat.zero_le _⟩ ?_
          refine ww_iload_n C0 dX5_barredBy_48 rfl ?_
          refine ww_iand C0 dX5_barredBy_49 ?_
          refine ww_if_eq (tgt := 57) C0 dX5_barredBy_50 (by decide) (fun h50 => ?_) (fun h50 => ?_)
          · skip
            refine ww_iconst (v := (0)) C0 dX5_barredBy_57 rfl ?_
            refine ww_top (v' := mBar1 (mTo (fmp j) 0) (mFF nm na fmw fms fmv fmc fmp j 0) so) (by simp [mBar1, *]) ?_
            refine ww_iadd C0 dX5_barredBy_58 ?_
            refine ww_istore_n (i := 2) C0 dX5_barredBy_59 rfl (Nat.le_of_ble_eq_true rfl) rfl ?_
            simp only [List.set_cons_zero, List.set_cons_succ]
            refine ww_iinc (d := 1) C0 dX5_barredBy_60 rfl rfl rfl ?_
            simp only [List.set_cons_zero, List.set_cons_succ]
            refine ww_goto (tgt := 15) C0 dX5_barredBy_63 (by decide) ?_
            refine ww_cong (lo' := [_, _, _, _, .int 1]) ?_ (by rfl) rfl rfl
            refine ww_iload C0 dX5_barredBy_15 rfl ?_
            refine ww_iconst (v := (2)) C0 dX5_barredBy_17 rfl ?_
            refine ww_icmp_ge (tgt := 66) C0 dX5_barredBy_18 (by decide) (fun h18 => ?_) (fun h18 => ?_)
            · skip
              replace h18 := (nI_leE (a := 2) (b := 1) rfl rfl (by omega) (by omega)).mp h18
              exfalso; omega
            · skip
              replace h18 := (not_congr (nI_leE (a := 2) (b := 1) rfl rfl (by omega) (by omega))).mp h18
              refine ww_iload_n C0 dX5_barredBy_21 rfl ?_
              refine ww_aload_n C0 dX5_barredBy_22 rfl ?_
              refine ww_get C0 (ci := 5) (C := RX5) (T := TX5) (N := 33) ku_X5 0 rfl rfl 14 (by decide) kw_X5_31 rfl dX5_barredBy_23 ?_
              refine ww_iload_n C0 dX5_barredBy_26 rfl ?_
              refine ww_iload C0 dX5_barredBy_27 rfl ?_
              refine ww_callSi C0 (c_X5_toStone l D cI cZ cQ (by omega)) kd_X5_toStone kw_X5_119 ks_X5_toStone ki_X5 hd_X5_toStone ⟨Nat.le_of_ble_eq_true rfl, Nat.le_of_ble_eq_true rfl, rfl, rfl⟩ (Nat.le_of_ble_eq_true rfl) dX5_barredBy_29 rfl rfl ⟨Nat.zero_le _, Nat.zero_le _⟩ ?_
              refine ww_bipush (v := (-9)) C0 dX5_barredBy_32 rfl ?_
              refine ww_icmp_eq (tgt := 57) C0 dX5_barredBy_34 (by decide) (fun h34 => ?_) (fun h34 => ?_)
              · skip
                refine ww_iconst (v := (0)) C0 dX5_barredBy_57 rfl ?_
                refine ww_top (v' := mBar1 (mTo (fmp j) 1) (mFF nm na fmw fms fmv fmc fmp j 1) so) (by simp [mBar1, *]) ?_
                refine ww_iadd C0 dX5_barredBy_58 ?_
                refine ww_istore_n (i := 2) C0 dX5_barredBy_59 rfl (Nat.le_of_ble_eq_true rfl) rfl ?_
                simp only [List.set_cons_zero, List.set_cons_succ]
                refine ww_iinc (d := 1) C0 dX5_barredBy_60 rfl rfl rfl ?_
                simp only [List.set_cons_zero, List.set_cons_succ]
                refine ww_goto (tgt := 15) C0 dX5_barredBy_63 (by decide) ?_
                refine ww_cong (lo' := [_, _, _, _, .int 2]) ?_ (by rfl) rfl rfl
                refine ww_iload C0 dX5_barredBy_15 rfl ?_
                refine ww_iconst (v := (2)) C0 dX5_barredBy_17 rfl ?_
                refine ww_icmp_ge (tgt := 66) C0 dX5_barredBy_18 (by decide) (fun h18 => ?_) (fun h18 => ?_)
                · skip
                  replace h18 := (nI_leE (a := 2) (b := 2) rfl rfl (by omega) (by omega)).mp h18
                  refine ww_iinc (d := 1) C0 dX5_barredBy_66 rfl rfl rfl ?_
                  simp only [List.set_cons_zero, List.set_cons_succ]
                  refine ww_goto (tgt := 4) C0 dX5_barredBy_69 (by decide) ?_
                  exact ww_back ih ⟨Or.inr rfl, Or.inr rfl, Or.inr (congrArg Value.int (by simp only [sumI, mStep, Int32.add_assoc])), Or.inr (congrArg Value.int (nI_addE (a := j) (b := 1) rfl rfl).symm), Or.inl rfl, trivial⟩ (by rfl)
                · skip
                  replace h18 := (not_congr (nI_leE (a := 2) (b := 2) rfl rfl (by omega) (by omega))).mp h18
                  exfalso; omega
              · skip
                refine ww_aload_n C0 dX5_barredBy_37 rfl ?_
                refine ww_aload_n C0 dX5_barredBy_38 rfl ?_
                refine ww_get C0 (ci := 5) (C := RX5) (T := TX5) (N := 33) ku_X5 0 rfl rfl 14 (by decide) kw_X5_31 rfl dX5_barredBy_39 ?_
                refine ww_iload_n C0 dX5_barredBy_42 rfl ?_
                refine ww_iload C0 dX5_barredBy_43 rfl ?_
                refine ww_callVi C0 (qc := (RX5, TX5, 33)) 0 5 (c_X5_forbids l D cI cZ cQ hnm hna hj) kd_X5_forbids kw_X5_130 km_X5_forbids kl_X5_forbids ki_X5 hd_X5_forbids rfl rfl ⟨Nat.le_of_ble_eq_true rfl, Nat.le_of_ble_eq_true rfl, rfl, rfl⟩ (Nat.le_of_ble_eq_true rfl) dX5_barredBy_45 rfl rfl rfl ⟨Nat.zero_le _, Nat.zero_le _⟩ ?_
                refine ww_iload_n C0 dX5_barredBy_48 rfl ?_
                refine ww_iand C0 dX5_barredBy_49 ?_
                refine ww_if_eq (tgt := 57) C0 dX5_barredBy_50 (by decide) (fun h50 => ?_) (fun h50 => ?_)
                · skip
                  refine ww_iconst (v := (0)) C0 dX5_barredBy_57 rfl ?_
                  refine ww_top (v' := mBar1 (mTo (fmp j) 1) (mFF nm na fmw fms fmv fmc fmp j 1) so) (by simp [mBar1, *]) ?_
                  refine ww_iadd C0 dX5_barredBy_58 ?_
                  refine ww_istore_n (i := 2) C0 dX5_barredBy_59 rfl (Nat.le_of_ble_eq_true rfl) rfl ?_
                  simp only [List.set_cons_zero, List.set_cons_succ]
                  refine ww_iinc (d := 1) C0 dX5_barredBy_60 rfl rfl rfl ?_
                  simp only [List.set_cons_zero, List.set_cons_succ]
                  refine ww_goto (tgt := 15) C0 dX5_barredBy_63 (by decide) ?_
                  refine ww_cong (lo' := [_, _, _, _, .int 2]) ?_ (by rfl) rfl rfl
                  refine ww_iload C0 dX5_barredBy_15 rfl ?_
                  refine ww_iconst (v := (2)) C0 dX5_barredBy_17 rfl ?_
                  refine ww_icmp_ge (tgt := 66) C0 dX5_barredBy_18 (by decide) (fun h18 => ?_) (fun h18 => ?_)
                  · skip
                    replace h18 := (nI_leE (a := 2) (b := 2) rfl rfl (by omega) (by omega)).mp h18
                    refine ww_iinc (d := 1) C0 dX5_barredBy_66 rfl rfl rfl ?_
                    simp only [List.set_cons_zero, List.set_cons_succ]
                    refine ww_goto (tgt := 4) C0 dX5_barredBy_69 (by decide) ?_
                    exact ww_back ih ⟨Or.inr rfl, Or.inr rfl, Or.inr (congrArg Value.int (by simp only [sumI, mStep, Int32.add_assoc])), Or.inr (congrArg Value.int (nI_addE (a := j) (b := 1) rfl rfl).symm), Or.inl rfl, trivial⟩ (by rfl)
                  · skip
                    replace h18 := (not_congr (nI_leE (a := 2) (b := 2) rfl rfl (by omega) (by omega))).mp h18
                    exfalso; omega
                · skip
                  refine ww_iconst (v := (1)) C0 dX5_barredBy_53 rfl ?_
                  refine ww_goto (tgt := 58) C0 dX5_barredBy_54 (by decide) ?_
                  refine ww_top (v' := mBar1 (mTo (fmp j) 1) (mFF nm na fmw fms fmv fmc fmp j 1) so) (by simp [mBar1, *]) ?_
                  refine ww_iadd C0 dX5_barredBy_58 ?_
                  refine ww_istore_n (i := 2) C0 dX5_barredBy_59 rfl (Nat.le_of_ble_eq_true rfl) rfl ?_
                  simp only [List.set_cons_zero, List.set_cons_succ]
                  refine ww_iinc (d := 1) C0 dX5_barredBy_60 rfl rfl rfl ?_
                  simp only [List.set_cons_zero, List.set_cons_succ]
                  refine ww_goto (tgt := 15) C0 dX5_barredBy_63 (by decide) ?_
                  refine ww_cong (lo' := [_, _, _, _, .int 2]) ?_ (by rfl) rfl rfl
                  refine ww_iload C0 dX5_barredBy_15 rfl ?_
                  refine ww_iconst (v := (2)) C0 dX5_barredBy_17 rfl ?_
                  refine ww_icmp_ge (tgt := 66) C0 dX5_barredBy_18 (by decide) (fun h18 => ?_) (fun h18 => ?_)
                  · skip
                    replace h18 := (nI_leE (a := 2) (b := 2) rfl rfl (by omega) (by omega)).mp h18
                    refine ww_iinc (d := 1) C0 dX5_barredBy_66 rfl rfl rfl ?_
                    simp only [List.set_cons_zero, List.set_cons_succ]
                    refine ww_goto (tgt := 4) C0 dX5_barredBy_69 (by decide) ?_
                    exact ww_back ih ⟨Or.inr rfl, Or.inr rfl, Or.inr (congrArg Value.int (by simp only [sumI, mStep, Int32.add_assoc])), Or.inr (congrArg Value.int (nI_addE (a := j) (b := 1) rfl rfl).symm), Or.inl rfl, trivial⟩ (by rfl)
                  · skip
                    replace h18 := (not_congr (nI_leE (a := 2) (b := 2) rfl rfl (by omega) (by omega))).mp h18
                    exfalso; omega
          · skip
            refine ww_iconst (v := (1)) C0 dX5_barredBy_53 rfl ?_
            refine ww_goto (tgt := 58) C0 dX5_barredBy_54 (by decide) ?_
            refine ww_top (v' := mBar1 (mTo (fmp j) 0) (mFF nm na fmw fms fmv fmc fmp j 0) so) (by simp [mBar1, *]) ?_
            refine ww_iadd C0 dX5_barredBy_58 ?_
            refine ww_istore_n (i := 2) C0 dX5_barredBy_59 rfl (Nat.le_of_ble_eq_true rfl) rfl ?_
            simp only [List.set_cons_zero, List.set_cons_succ]
            refine ww_iinc (d := 1) C0 dX5_barredBy_60 rfl rfl rfl ?_
            simp only [List.set_cons_zero, List.set_cons_succ]
            refine ww_goto (tgt := 15) C0 dX5_barredBy_63 (by decide) ?_
            refine ww_cong (lo' := [_, _, _, _, .int 1]) ?_ (by rfl) rfl rfl
            refine ww_iload C0 dX5_barredBy_15 rfl ?_
            refine ww_iconst (v := (2)) C0 dX5_barredBy_17 rfl ?_
            refine ww_icmp_ge (tgt := 66) C0 dX5_barredBy_18 (by decide) (fun h18 => ?_) (fun h18 => ?_)
            · skip
              replace h18 := (nI_leE (a := 2) (b := 1) rfl rfl (by omega) (by omega)).mp h18
              exfalso; omega
            · skip
              replace h18 := (not_congr (nI_leE (a := 2) (b := 1) rfl rfl (by omega) (by omega))).mp h18
              refine ww_iload_n C0 dX5_barredBy_21 rfl ?_
              refine ww_aload_n C0 dX5_barredBy_22 rfl ?_
              refine ww_get C0 (ci := 5) (C := RX5) (T := TX5) (N := 33) ku_X5 0 rfl rfl 14 (by decide) kw_X5_31 rfl dX5_barredBy_23 ?_
              refine ww_iload_n C0 dX5_barredBy_26 rfl ?_
              refine ww_iload C0 dX5_barredBy_27 rfl ?_
              refine ww_callSi C0 (c_X5_toStone l D cI cZ cQ (by omega)) kd_X5_toStone kw_X5_119 ks_X5_toStone ki_X5 hd_X5_toStone ⟨Nat.le_of_ble_eq_true rfl, Nat.le_of_ble_eq_true rfl, rfl, rfl⟩ (Nat.le_of_ble_eq_true rfl) dX5_barredBy_29 rfl rfl ⟨Nat.zero_le _, Nat.zero_le _⟩ ?_
              refine ww_bipush (v := (-9)) C0 dX5_barredBy_32 rfl ?_
              refine ww_icmp_eq (tgt := 57) C0 dX5_barredBy_34 (by decide) (fun h34 => ?_) (fun h34 => ?_)
              · skip
                refine ww_iconst (v := (0)) C0 dX5_barredBy_57 rfl ?_
                refine ww_top (v' := mBar1 (mTo (fmp j) 1) (mFF nm na fmw fms fmv fmc fmp j 1) so) (by simp [mBar1, *]) ?_
                refine ww_iadd C0 dX5_barredBy_58 ?_
                refine ww_istore_n (i := 2) C0 dX5_barredBy_59 rfl (Nat.le_of_ble_eq_true rfl) rfl ?_
                simp only [List.set_cons_zero, List.set_cons_succ]
                refine ww_iinc (d := 1) C0 dX5_barredBy_60 rfl rfl rfl ?_
                simp only [List.set_cons_zero, List.set_cons_succ]
                refine ww_goto (tgt := 15) C0 dX5_barredBy_63 (by decide) ?_
                refine ww_cong (lo' := [_, _, _, _, .int 2]) ?_ (by rfl) rfl rfl
                refine ww_iload C0 dX5_barredBy_15 rfl ?_
                refine ww_iconst (v := (2)) C0 dX5_barredBy_17 rfl ?_
                refine ww_icmp_ge (tgt := 66) C0 dX5_barredBy_18 (by decide) (fun h18 => ?_) (fun h18 => ?_)
                · skip
                  replace h18 := (nI_leE (a := 2) (b := 2) rfl rfl (by omega) (by omega)).mp h18
                  refine ww_iinc (d := 1) C0 dX5_barredBy_66 rfl rfl rfl ?_
                  simp only [List.set_cons_zero, List.set_cons_succ]
                  refine ww_goto (tgt := 4) C0 dX5_barredBy_69 (by decide) ?_
                  exact ww_back ih ⟨Or.inr rfl, Or.inr rfl, Or.inr (congrArg Value.int (by simp only [sumI, mStep, Int32.add_assoc])), Or.inr (congrArg Value.int (nI_addE (a := j) (b := 1) rfl rfl).symm), Or.inl rfl, trivial⟩ (by rfl)
                · skip
                  replace h18 := (not_congr (nI_leE (a := 2) (b := 2) rfl rfl (by omega) (by omega))).mp h18
                  exfalso; omega
              · skip
                refine ww_aload_n C0 dX5_barredBy_37 rfl ?_
                refine ww_aload_n C0 dX5_barredBy_38 rfl ?_
                refine ww_get C0 (ci := 5) (C := RX5) (T := TX5) (N := 33) ku_X5 0 rfl rfl 14 (by decide) kw_X5_31 rfl dX5_barredBy_39 ?_
                refine ww_iload_n C0 dX5_barredBy_42 rfl ?_
                refine ww_iload C0 dX5_barredBy_43 rfl ?_
                refine ww_callVi C0 (qc := (RX5, TX5, 33)) 0 5 (c_X5_forbids l D cI cZ cQ hnm hna hj) kd_X5_forbids kw_X5_130 km_X5_forbids kl_X5_forbids ki_X5 hd_X5_forbids rfl rfl ⟨Nat.le_of_ble_eq_true rfl, Nat.le_of_ble_eq_true rfl, rfl, rfl⟩ (Nat.le_of_ble_eq_true rfl) dX5_barredBy_45 rfl rfl rfl ⟨Nat.zero_le _, Nat.zero_le _⟩ ?_
                refine ww_iload_n C0 dX5_barredBy_48 rfl ?_
                refine ww_iand C0 dX5_barredBy_49 ?_
                refine ww_if_eq (tgt := 57) C0 dX5_barredBy_50 (by decide) (fun h50 => ?_) (fun h50 => ?_)
                · skip
                  refine ww_iconst (v := (0)) C0 dX5_barredBy_57 rfl ?_
                  refine ww_top (v' := mBar1 (mTo (fmp j) 1) (mFF nm na fmw fms fmv fmc fmp j 1) so) (by simp [mBar1, *]) ?_
                  refine ww_iadd C0 dX5_barredBy_58 ?_
                  refine ww_istore_n (i := 2) C0 dX5_barredBy_59 rfl (Nat.le_of_ble_eq_true rfl) rfl ?_
                  simp only [List.set_cons_zero, List.set_cons_succ]
                  refine ww_iinc (d := 1) C0 dX5_barredBy_60 rfl rfl rfl ?_
                  simp only [List.set_cons_zero, List.set_cons_succ]
                  refine ww_goto (tgt := 15) C0 dX5_barredBy_63 (by decide) ?_
                  refine ww_cong (lo' := [_, _, _, _, .int 2]) ?_ (by rfl) rfl rfl
                  refine ww_iload C0 dX5_barredBy_15 rfl ?_
                  refine ww_iconst (v := (2)) C0 dX5_barredBy_17 rfl ?_
                  refine ww_icmp_ge (tgt := 66) C0 dX5_barredBy_18 (by decide) (fun h18 => ?_) (fun h18 => ?_)
                  · skip
                    replace h18 := (nI_leE (a := 2) (b := 2) rfl rfl (by omega) (by omega)).mp h18
                    refine ww_iinc (d := 1) C0 dX5_barredBy_66 rfl rfl rfl ?_
                    simp only [List.set_cons_zero, List.set_cons_succ]
                    refine ww_goto (tgt := 4) C0 dX5_barredBy_69 (by decide) ?_
                    exact ww_back ih ⟨Or.inr rfl, Or.inr rfl, Or.inr (congrArg Value.int (by simp only [sumI, mStep, Int32.add_assoc])), Or.inr (congrArg Value.int (nI_addE (a := j) (b := 1) rfl rfl).symm), Or.inl rfl, trivial⟩ (by rfl)
                  · skip
                    replace h18 := (not_congr (nI_leE (a := 2) (b := 2) rfl rfl (by omega) (by omega))).mp h18
                    exfalso; omega
                · skip
                  refine ww_iconst (v := (1)) C0 dX5_barredBy_53 rfl ?_
                  refine ww_goto (tgt := 58) C0 dX5_barredBy_54 (by decide) ?_
                  refine ww_top (v' := mBar1 (mTo (fmp j) 1) (mFF nm na fmw fms fmv fmc fmp j 1) so) (by simp [mBar1, *]) ?_
                  refine ww_iadd C0 dX5_barredBy_58 ?_
                  refine ww_istore_n (i := 2) C0 dX5_barredBy_59 rfl (Nat.le_of_ble_eq_true rfl) rfl ?_
                  simp only [List.set_cons_zero, List.set_cons_succ]
                  refine ww_iinc (d := 1) C0 dX5_barredBy_60 rfl rfl rfl ?_
                  simp only [List.set_cons_zero, List.set_cons_succ]
                  refine ww_goto (tgt := 15) C0 dX5_barredBy_63 (by decide) ?_
                  refine ww_cong (lo' := [_, _, _, _, .int 2]) ?_ (by rfl) rfl rfl
                  refine ww_iload C0 dX5_barredBy_15 rfl ?_
                  refine ww_iconst (v := (2)) C0 dX5_barredBy_17 rfl ?_
                  refine ww_icmp_ge (tgt := 66) C0 dX5_barredBy_18 (by decide) (fun h18 => ?_) (fun h18 => ?_)
                  · skip
                    replace h18 := (nI_leE (a := 2) (b := 2) rfl rfl (by omega) (by omega)).mp h18
                    refine ww_iinc (d := 1) C0 dX5_barredBy_66 rfl rfl rfl ?_
                    simp only [List.set_cons_zero, List.set_cons_succ]
                    refine ww_goto (tgt := 4) C0 dX5_barredBy_69 (by decide) ?_
                    exact ww_back ih ⟨Or.inr rfl, Or.inr rfl, Or.inr (congrArg Value.int (by simp only [sumI, mStep, Int32.add_assoc])), Or.inr (congrArg Value.int (nI_addE (a := j) (b := 1) rfl rfl).symm), Or.inl rfl, trivial⟩ (by rfl)
                  · skip
                    replace h18 := (not_congr (nI_leE (a := 2) (b := 2) rfl rfl (by omega) (by omega))).mp h18
                    exfalso; omega
  · skip
    refine ww_iload_n C0 dX5_barredBy_4 rfl ?_
    refine ww_aload_n C0 dX5_barredBy_5 rfl ?_
    refine ww_get C0 (ci := 5) (C := RX5) (T := TX5) (N := 33) ku_X5 0 rfl rfl 4 (by decide) kw_X5_72 rfl dX5_barredBy_6 ?_
    refine ww_icmp_ge (tgt := 72) C0 dX5_barredBy_9 (by decide) (fun h9 => ?_) (fun h9 => ?_)
    · skip
      replace h9 := (nI_leE (a := nm) (b := nm) rfl rfl (by omega) (by omega)).mp h9
      refine ww_iload_n C0 dX5_barredBy_72 rfl ?_
      exact ww_iret C0 hr dX5_barredBy_73 (by rfl) (by rfl)
    · skip
      replace h9 := (not_congr (nI_leE (a := nm) (b := nm) rfl rfl (by omega) (by omega))).mp h9
      exfalso; omega

set_option maxHeartbeats 4000000 in
set_option maxRecDepth 100000 in
theorem c_X5_share_b (l : Launch) (D : va_G) (cI cZ cQ : ClassId) {aM amt amc amw ams amv amr amx amp amq amb amk amz am0 am1 am2 am3 am4 amh amo : Nat} {tn nm na ac gn : Nat} {th vpl vrm vra x0 x1 x2 x3 : Int32} {sd : Int64} {rest : va_W} {m : Int32} {u : Bool} (hna : na ≤ 5) (hm : isN na m = false) : MI l D [(cI, .int), (cZ, .boolean), (cQ, .object "MulesRemember$State")] yX5_share cX5_share 6 .int ({ frames := 4, cells := 0, slots := 0, locals := 100 } : Room) [.ref aM, .int m, .int (bI u)] ((aM, .inr (5, [.int th, .ref amt, .int (nI tn), .int vpl, .int (nI nm), .ref amc, .int (nI na), .ref amw, .ref ams, .ref amv, .int vrm, .ref amr, .int vra, .ref amx, .ref amp, .ref amq, .ref amb, .int (nI ac), .ref amk, .ref amz, .int (nI gn), .ref am0, .ref am1, .ref am2, .ref am3, .ref am4, .long sd, .ref amh, .int x0, .int x1, .int x2, .int x3, .ref amo])) :: rest) (-1) ((aM, .inr (5, [.int 0, .ref amt, .int (nI tn), .int vpl, .int (nI nm), .ref amc, .int (nI na), .ref amw, .ref ams, .ref amv, .int vrm, .ref amr, .int vra, .ref amx, .ref amp, .ref amq, .ref amb, .int (nI ac), .ref amk, .ref amz, .int (nI gn), .ref am0, .ref am1, .ref am2, .ref am3, .ref am4, .long sd, .ref amh, .int x0, .int x1, .int x2, .int x3, .ref amo])) :: rest) := by
  refine MI.of [.ref aM, .int m, .int (bI u), .null, .null, .null] (by decide) (Nat.le_of_ble_eq_true rfl) rfl ?_
  intro p e s m below meth c A C0 hr
  refine ww_aload_n C0 dX5_share_0 rfl ?_
  refine ww_iconst (v := (0)) C0 dX5_share_1 rfl ?_
  refine ww_put C0 (ci := 5) (C := RX5) (T := TX5) (N := 33) ku_X5 0 rfl rfl 0 (by decide) tyX5 tyX5_ok nmX5 kw_X5_68 rfl (ty := .int) (by decide +kernel) rfl rfl (Nat.le_of_ble_eq_true rfl) dX5_share_2 ?_
  simp only [List.set_cons_zero, List.set_cons_succ]
  refine ww_aload_n C0 dX5_share_5 rfl ?_
  refine ww_iload_n C0 dX5_share_6 rfl ?_
  refine ww_callVi C0 (qc := (RX5, TX5, 33)) 0 5 (c_X5_noArticle l D cI cZ cQ hna) kd_X5_noArticle kw_X5_144 km_X5_noArticle kl_X5_noArticle ki_X5 hd_X5_noArticle rfl rfl ⟨Nat.le_of_ble_eq_true rfl, Nat.le_of_ble_eq_true rfl, rfl, rfl⟩ (Nat.le_of_ble_eq_true rfl) dX5_share_7 rfl rfl rfl ⟨Nat.zero_le _, Nat.zero_le _⟩ ?_
  refine ww_bif_eq (tgt := 15) C0 dX5_share_10 (by decide) (fun h10 => ?_) (fun h10 => ?_)
  · skip
    exact absurd h10 (by rw [hm]; decide)
  · skip
    refine ww_iconst (v := (-1)) C0 dX5_share_13 rfl ?_
    exact ww_iret C0 hr dX5_share_14 (by rfl) (by rfl)

set_option maxHeartbeats 4000000 in
set_option maxRecDepth 100000 in
theorem c_X5_share (l : Launch) (D : va_G) (cI cZ cQ : ClassId) {aM amt amc amw ams amv amr amx amp amq amb amk amz am0 am1 am2 am3 am4 amh amo : Nat} {tn nm na ac gn : Nat} {th vpl vrm vra x0 x1 x2 x3 : Int32} {sd : Int64} {fmt fmc fmw fms fmv fmp fmq fmr fmx fmb fmk fmz fm0 fm1 fm2 fm3 fm4 fmh fmo : Nat → Int32} {rest : va_W} {a Z : Nat} {u : Bool} (hnm : nm ≤ 5) (hna : na ≤ 5) (ha : a < na) (hZ : sumI (mShare (fun t => mBarred nm na fmw fms fmv fmc fmp (nI t)) na a) (2 ^ na) = nI Z) (hZb : Z < 2 ^ 31) : MI l D [(cI, .int), (cZ, .boolean), (cQ, .object "MulesRemember$State")] yX5_share cX5_share 6 .int ({ frames := 4, cells := 0, slots := 0, locals := 100 } : Room) [.ref aM, .int (nI a), .int (bI u)] ((aM, .inr (5, [.int th, .ref amt, .int (nI tn), .int vpl, .int (nI nm), .ref amc, .int (nI na), .ref amw, .ref ams, .ref amv, .int vrm, .ref amr, .int vra, .ref amx, .ref amp, .ref amq, .ref amb, .int (nI ac), .ref amk, .ref amz, .int (nI gn), .ref am0, .ref am1, .ref am2, .ref am3, .ref am4, .long sd, .ref amh, .int x0, .int x1, .int x2, .int x3, .ref amo])) :: (amt, .inl (cI, 48, .inl (fmt))) :: (amc, .inl (cI, 5, .inl (fmc))) :: (amw, .inl (cI, 5, .inl (fmw))) :: (ams, .inl (cI, 5, .inl (fms))) :: (amv, .inl (cI, 5, .inl (fmv))) :: (amp, .inl (cI, 17, .inl (fmp))) :: (amq, .inl (cI, 17, .inl (fmq))) :: (amr, .inl (cI, 15, .inl (fmr))) :: (amx, .inl (cI, 15, .inl (fmx))) :: (amb, .inl (cI, 238, .inl (fmb))) :: (amk, .inl (cI, 34, .inl (fmk))) :: (amz, .inl (cZ, 2, .inl (fmz))) :: (am0, .inl (cI, 6, .inl (fm0))) :: (am1, .inl (cI, 6, .inl (fm1))) :: (am2, .inl (cI, 6, .inl (fm2))) :: (am3, .inl (cI, 6, .inl (fm3))) :: (am4, .inl (cI, 6, .inl (fm4))) :: (amh, .inl (cI, 10, .inl (fmh))) :: (amo, .inl (cI, 32, .inl (fmo))) :: rest) (sFrac Z (mWaysN na) u) ((aM, .inr (5, [.int 0, .ref amt, .int (nI tn), .int vpl, .int (nI nm), .ref amc, .int (nI na), .ref amw, .ref ams, .ref amv, .int vrm, .ref amr, .int vra, .ref amx, .ref amp, .ref amq, .ref amb, .int (nI ac), .ref amk, .ref amz, .int (nI gn), .ref am0, .ref am1, .ref am2, .ref am3, .ref am4, .long sd, .ref amh, .int x0, .int x1, .int x2, .int x3, .ref amo])) :: (amt, .inl (cI, 48, .inl (fmt))) :: (amc, .inl (cI, 5, .inl (fmc))) :: (amw, .inl (cI, 5, .inl (fmw))) :: (ams, .inl (cI, 5, .inl (fms))) :: (amv, .inl (cI, 5, .inl (fmv))) :: (amp, .inl (cI, 17, .inl (fmp))) :: (amq, .inl (cI, 17, .inl (fmq))) :: (amr, .inl (cI, 15, .inl (fmr))) :: (amx, .inl (cI, 15, .inl (fmx))) :: (amb, .inl (cI, 238, .inl (fmb))) :: (amk, .inl (cI, 34, .inl (fmk))) :: (amz, .inl (cZ, 2, .inl (fmz))) :: (am0, .inl (cI, 6, .inl (fm0))) :: (am1, .inl (cI, 6, .inl (fm1))) :: (am2, .inl (cI, 6, .inl (fm2))) :: (am3, .inl (cI, 6, .inl (fm3))) :: (am4, .inl (cI, 6, .inl (fm4))) :: (amh, .inl (cI, 10, .inl (fmh))) :: (amo, .inl (cI, 32, .inl (cpyF (fun t => mBarred nm na fmw fms fmv fmc fmp (nI t)) fmo (2 ^ na)))) :: rest) := by
  refine MI.of [.ref aM, .int (nI a), .int (bI u), .null, .null, .null] (by decide) (Nat.le_of_ble_eq_true rfl) rfl ?_
  intro p e s m below meth c A C0 hr
  have hp := pow5 hna
  refine ww_aload_n C0 dX5_share_0 rfl ?_
  refine ww_iconst (v := (0)) C0 dX5_share_1 rfl ?_
  refine ww_put C0 (ci := 5) (C := RX5) (T := TX5) (N := 33) ku_X5 0 rfl rfl 0 (by decide) tyX5 tyX5_ok nmX5 kw_X5_68 rfl (ty := .int) (by decide +kernel) rfl rfl (Nat.le_of_ble_eq_true rfl) dX5_share_2 ?_
  simp only [List.set_cons_zero, List.set_cons_succ]
  refine ww_aload_n C0 dX5_share_5 rfl ?_
  refine ww_iload_n C0 dX5_share_6 rfl ?_
  refine ww_callVi C0 (qc := (RX5, TX5, 33)) 0 5 (c_X5_noArticle l D cI cZ cQ hna) kd_X5_noArticle kw_X5_144 km_X5_noArticle kl_X5_noArticle ki_X5 hd_X5_noArticle rfl rfl ⟨Nat.le_of_ble_eq_true rfl, Nat.le_of_ble_eq_true rfl, rfl, rfl⟩ (Nat.le_of_ble_eq_true rfl) dX5_share_7 rfl rfl rfl ⟨Nat.zero_le _, Nat.zero_le _⟩ ?_
  refine ww_bif_eq (tgt := 15) C0 dX5_share_10 (by decide) (fun h10 => ?_) (fun h10 => ?_)
  · skip
    refine ww_iconst (v := (0)) C0 dX5_share_15 rfl ?_
    refine ww_istore_n (i := 3) C0 dX5_share_16 rfl (Nat.le_of_ble_eq_true rfl) rfl ?_
    simp only [List.set_cons_zero, List.set_cons_succ]
    refine ww_back (ww_loop (pc := 17) 0 (2 ^ na) (by omega) (fun j => [_, _, _, .int (nI j), _, _]) (fun j => (aM, .inr (5, [.int 0, .ref amt, .int (nI tn), .int vpl, .int (nI nm), .ref amc, .int (nI na), .ref amw, .ref ams, .ref amv, .int vrm, .ref amr, .int vra, .ref amx, .ref amp, .ref amq, .ref amb, .int (nI ac), .ref amk, .ref amz, .int (nI gn), .ref am0, .ref am1, .ref am2, .ref am3, .ref am4, .long sd, .ref amh, .int x0, .int x1, .int x2, .int x3, .ref amo])) :: (amt, .inl (cI, 48, .inl (fmt))) :: (amc, .inl (cI, 5, .inl (fmc))) :: (amw, .inl (cI, 5, .inl (fmw))) :: (ams, .inl (cI, 5, .inl (fms))) :: (amv, .inl (cI, 5, .inl (fmv))) :: (amp, .inl (cI, 17, .inl (fmp))) :: (amq, .inl (cI, 17, .inl (fmq))) :: (amr, .inl (cI, 15, .inl (fmr))) :: (amx, .inl (cI, 15, .inl (fmx))) :: (amb, .inl (cI, 238, .inl (fmb))) :: (amk, .inl (cI, 34, .inl (fmk))) :: (amz, .inl (cZ, 2, .inl (fmz))) :: (am0, .inl (cI, 6, .inl (fm0))) :: (am1, .inl (cI, 6, .inl (fm1))) :: (am2, .inl (cI, 6, .inl (fm2))) :: (am3, .inl (cI, 6, .inl (fm3))) :: (am4, .inl (cI, 6, .inl (fm4))) :: (amh, .inl (cI, 10, .inl (fmh))) :: (amo, .inl (cI, 32, .inl (cpyF (fun t => mBarred nm na fmw fms fmv fmc fmp (nI t)) fmo j))) :: rest) ?_ ?_) ⟨Or.inr rfl, Or.inr rfl, Or.inr rfl, Or.inr rfl, Or.inr rfl, Or.inr rfl, trivial⟩ (by rw [cpyF_0])
    · intro j hj0 hj ih
      refine ww_iload_n C0 dX5_share_17 rfl ?_
      refine ww_iconst (v := (1)) C0 dX5_share_18 rfl ?_
      refine ww_aload_n C0 dX5_share_19 rfl ?_
      refine ww_get C0 (ci := 5) (C := RX5) (T := TX5) (N := 33) ku_X5 0 rfl rfl 6 (by decide) kw_X5_79 rfl dX5_share_20 ?_
      refine ww_ishl C0 dX5_share_23 ?_
      refine ww_top (shl_nI hna) ?_
      refine ww_icmp_ge (tgt := 44) C0 dX5_share_24 (by decide) (fun h24 => ?_) (fun h24 => ?_)
      · skip
        replace h24 := (nI_leE (a := 2 ^ na) (b := j) rfl rfl (by omega) (by omega)).mp h24
        exfalso; omega
      · skip
        replace h24 := (not_congr (nI_leE (a := 2 ^ na) (b := j) rfl rfl (by omega) (by omega))).mp h24
        refine ww_aload_n C0 dX5_share_27 rfl ?_
        refine ww_get C0 (ci := 5) (C := RX5) (T := TX5) (N := 33) ku_X5 0 rfl rfl 32 (by decide) kw_X5_65 rfl dX5_share_28 ?_
        refine ww_iload_n C0 dX5_share_31 rfl ?_
        refine ww_aload_n C0 dX5_share_32 rfl ?_
        refine ww_iload_n C0 dX5_share_33 rfl ?_
        refine ww_callVi C0 (qc := (RX5, TX5, 33)) 0 5 (c_X5_barredBy l D cI cZ cQ hnm hna) kd_X5_barredBy kw_X5_198 km_X5_barredBy kl_X5_barredBy ki_X5 hd_X5_barredBy rfl rfl ⟨Nat.le_of_ble_eq_true rfl, Nat.le_of_ble_eq_true rfl, rfl, rfl⟩ (Nat.le_of_ble_eq_true rfl) dX5_share_34 rfl rfl rfl ⟨Nat.zero_le _, Nat.zero_le _⟩ ?_
        refine ww_iast_n (j := j) C0 19 0 rfl rfl rfl (by omega) (by decide) dX5_share_37 ?_
        simp only [List.set_cons_zero, List.set_cons_succ]
        refine ww_iinc (d := 1) C0 dX5_share_38 rfl rfl rfl ?_
        simp only [List.set_cons_zero, List.set_cons_succ]
        refine ww_goto (tgt := 17) C0 dX5_share_41 (by decide) ?_
        exact ww_back ih ⟨Or.inr rfl, Or.inr rfl, Or.inr rfl, Or.inr (congrArg Value.int (nI_addE (a := j) (b := 1) rfl rfl).symm), Or.inr rfl, Or.inr rfl, trivial⟩ (by simp only [← cpyF_s])
    · skip
      refine ww_iload_n C0 dX5_share_17 rfl ?_
      refine ww_iconst (v := (1)) C0 dX5_share_18 rfl ?_
      refine ww_aload_n C0 dX5_share_19 rfl ?_
      refine ww_get C0 (ci := 5) (C := RX5) (T := TX5) (N := 33) ku_X5 0 rfl rfl 6 (by decide) kw_X5_79 rfl dX5_share_20 ?_
      refine ww_ishl C0 dX5_share_23 ?_
      refine ww_top (shl_nI hna) ?_
      refine ww_icmp_ge (tgt := 44) C0 dX5_share_24 (by decide) (fun h24 => ?_) (fun h24 => ?_)
      · skip
        replace h24 := (nI_leE (a := 2 ^ na) (b := (2 ^ na)) rfl rfl (by omega) (by omega)).mp h24
        refine ww_iconst (v := (0)) C0 dX5_share_44 rfl ?_
        refine ww_istore_n (i := 3) C0 dX5_share_45 rfl (Nat.le_of_ble_eq_true rfl) rfl ?_
        simp only [List.set_cons_zero, List.set_cons_succ]
        refine ww_iconst (v := (0)) C0 dX5_share_46 rfl ?_
        refine ww_istore (i := 4) C0 dX5_share_47 (Nat.le_of_ble_eq_true rfl) rfl ?_
        simp only [List.set_cons_zero, List.set_cons_succ]
        refine ww_back (ww_loop (pc := 49) 0 (2 ^ na) (by omega) (fun j => [_, _, _, .int (sumI (mShare (fun t => mBarred nm na fmw fms fmv fmc fmp (nI t)) na a) j), .int (nI j), .null]) (fun j => _) ?_ ?_) ⟨Or.inr rfl, Or.inr rfl, Or.inr rfl, Or.inr rfl, Or.inr rfl, Or.inl rfl, trivial⟩ (by rfl)
        · intro j hj0 hj ih
          refine ww_iload C0 dX5_share_49 rfl ?_
          refine ww_iconst (v := (1)) C0 dX5_share_51 rfl ?_
          refine ww_aload_n C0 dX5_share_52 rfl ?_
          refine ww_get C0 (ci := 5) (C := RX5) (T := TX5) (N := 33) ku_X5 0 rfl rfl 6 (by decide) kw_X5_79 rfl dX5_share_53 ?_
          refine ww_ishl C0 dX5_share_56 ?_
          refine ww_top (shl_nI hna) ?_
          refine ww_icmp_ge (tgt := 123) C0 dX5_share_57 (by decide) (fun h57 => ?_) (fun h57 => ?_)
          · skip
            replace h57 := (nI_leE (a := 2 ^ na) (b := j) rfl rfl (by omega) (by omega)).mp h57
            exfalso; omega
          · skip
            replace h57 := (not_congr (nI_leE (a := 2 ^ na) (b := j) rfl rfl (by omega) (by omega))).mp h57
            refine ww_iload C0 dX5_share_60 rfl ?_
            refine ww_iload_n C0 dX5_share_62 rfl ?_
            refine ww_callSi C0 (c_X5_has l D cI cZ cQ) kd_X5_has kw_X5_140 ks_X5_has ki_X5 hd_X5_has ⟨Nat.le_of_ble_eq_true rfl, Nat.le_of_ble_eq_true rfl, rfl, rfl⟩ (Nat.le_of_ble_eq_true rfl) dX5_share_63 rfl rfl ⟨Nat.zero_le _, Nat.zero_le _⟩ ?_
            refine ww_bif_ne (tgt := 117) C0 dX5_share_66 (by decide) (fun h66 => ?_) (fun h66 => ?_)
            · skip
              refine ww_iinc (d := 1) C0 dX5_share_117 rfl rfl rfl ?_
              simp only [List.set_cons_zero, List.set_cons_succ]
              refine ww_goto (tgt := 49) C0 dX5_share_120 (by decide) ?_
              exact ww_back ih ⟨Or.inr rfl, Or.inr rfl, Or.inr rfl, Or.inr (congrArg Value.int (by
                first
                | (simp only [sumI, mShare, h66, if_true]; done)
                | (simp only [sumI, mShare, h66, if_true]; exact Int32.add_zero _)
                | (simp only [sumI, mShare, h66, Bool.false_eq_true, if_false]))), Or.inr (congrArg Value.int (nI_addE (a := j) (b := 1) rfl rfl).symm), Or.inl rfl, trivial⟩ (by rfl)
            · skip
              refine ww_iload C0 dX5_share_69 rfl ?_
              have hpc := pcN_nI j (by omega)
              have hpo := pcN_out na hna j hj a ha h66
              have hor := or_nI na hna j hj a ha
              refine ww_callSi C0 (c_X5_many l D cI cZ cQ) kd_X5_many kw_X5_161 ks_X5_many ki_X5 hd_X5_many ⟨Nat.le_of_ble_eq_true rfl, Nat.le_of_ble_eq_true rfl, rfl, rfl⟩ (Nat.le_of_ble_eq_true rfl) dX5_share_71 rfl rfl ⟨Nat.zero_le _, Nat.zero_le _⟩ ?_
              refine ww_top hpc.1 ?_
              refine ww_istore (i := 5) C0 dX5_share_74 (Nat.le_of_ble_eq_true rfl) rfl ?_
              simp only [List.set_cons_zero, List.set_cons_succ]
              refine ww_iload_n C0 dX5_share_76 rfl ?_
              refine ww_iload C0 dX5_share_77 rfl ?_
              refine ww_callSi C0 (c_X5_ways l D cI cZ cQ hpc.2) kd_X5_ways kw_X5_201 ks_X5_ways ki_X5 hd_X5_ways ⟨Nat.le_of_ble_eq_true rfl, Nat.le_of_ble_eq_true rfl, rfl, rfl⟩ (Nat.le_of_ble_eq_true rfl) dX5_share_79 rfl rfl ⟨Nat.zero_le _, Nat.zero_le _⟩ ?_
              refine ww_aload_n C0 dX5_share_82 rfl ?_
              refine ww_get C0 (ci := 5) (C := RX5) (T := TX5) (N := 33) ku_X5 0 rfl rfl 6 (by decide) kw_X5_79 rfl dX5_share_83 ?_
              refine ww_iconst (v := (1)) C0 dX5_share_86 rfl ?_
              refine ww_isub C0 dX5_share_87 ?_
              refine ww_iload C0 dX5_share_88 rfl ?_
              refine ww_isub C0 dX5_share_90 ?_
              refine ww_top (nI_subE (a := na - 1) (b := pcN j) (nI_subE (a := na) (b := 1) rfl rfl (by omega)) rfl (by omega)) ?_
              refine ww_callSi C0 (c_X5_ways l D cI cZ cQ (by omega)) kd_X5_ways kw_X5_201 ks_X5_ways ki_X5 hd_X5_ways ⟨Nat.le_of_ble_eq_true rfl, Nat.le_of_ble_eq_true rfl, rfl, rfl⟩ (Nat.le_of_ble_eq_true rfl) dX5_share_91 rfl rfl ⟨Nat.zero_le _, Nat.zero_le _⟩ ?_
              refine ww_imul C0 dX5_share_94 ?_
              refine ww_aload_n C0 dX5_share_95 rfl ?_
              refine ww_get C0 (ci := 5) (C := RX5) (T := TX5) (N := 33) ku_X5 0 rfl rfl 32 (by decide) kw_X5_65 rfl dX5_share_96 ?_
              refine ww_iload C0 dX5_share_99 rfl ?_
              refine ww_iconst (v := (1)) C0 dX5_share_101 rfl ?_
              refine ww_iload_n C0 dX5_share_102 rfl ?_
              refine ww_ishl C0 dX5_share_103 ?_
              refine ww_ior C0 dX5_share_104 ?_
              refine ww_top hor.1 ?_
              refine ww_iald_n (j := j ||| 2 ^ a) C0 19 0 rfl rfl rfl (by have := hor.2; omega) (by decide) dX5_share_105 ?_
              refine ww_top (v' := mBarred nm na fmw fms fmv fmc fmp (nI (j ||| 2 ^ a))) (by simp [cpyF, hor.2]) ?_
              refine ww_aload_n C0 dX5_share_106 rfl ?_
              refine ww_get C0 (ci := 5) (C := RX5) (T := TX5) (N := 33) ku_X5 0 rfl rfl 32 (by decide) kw_X5_65 rfl dX5_share_107 ?_
              refine ww_iload C0 dX5_share_110 rfl ?_
              refine ww_iald_n (j := j) C0 19 0 rfl rfl rfl (by omega) (by decide) dX5_share_112 ?_
              refine ww_top (v' := mBarred nm na fmw fms fmv fmc fmp (nI j)) (by simp [cpyF, hj]) ?_
              refine ww_isub C0 dX5_share_113 ?_
              refine ww_imul C0 dX5_share_114 ?_
              refine ww_iadd C0 dX5_share_115 ?_
              refine ww_istore_n (i := 3) C0 dX5_share_116 rfl (Nat.le_of_ble_eq_true rfl) rfl ?_
              simp only [List.set_cons_zero, List.set_cons_succ]
              refine ww_iinc (d := 1) C0 dX5_share_117 rfl rfl rfl ?_
              simp only [List.set_cons_zero, List.set_cons_succ]
              refine ww_goto (tgt := 49) C0 dX5_share_120 (by decide) ?_
              exact ww_back ih ⟨Or.inr rfl, Or.inr rfl, Or.inr rfl, Or.inr (congrArg Value.int (by
                first
                | (simp only [sumI, mShare, h66, if_true]; done)
                | (simp only [sumI, mShare, h66, if_true]; exact Int32.add_zero _)
                | (simp only [sumI, mShare, h66, Bool.false_eq_true, if_false]))), Or.inr (congrArg Value.int (nI_addE (a := j) (b := 1) rfl rfl).symm), Or.inl rfl, trivial⟩ (by rfl)
        · skip
          refine ww_iload C0 dX5_share_49 rfl ?_
          refine ww_iconst (v := (1)) C0 dX5_share_51 rfl ?_
          refine ww_aload_n C0 dX5_share_52 rfl ?_
          refine ww_get C0 (ci := 5) (C := RX5) (T := TX5) (N := 33) ku_X5 0 rfl rfl 6 (by decide) kw_X5_79 rfl dX5_share_53 ?_
          refine ww_ishl C0 dX5_share_56 ?_
          refine ww_top (shl_nI hna) ?_
          refine ww_icmp_ge (tgt := 123) C0 dX5_share_57 (by decide) (fun h57 => ?_) (fun h57 => ?_)
          · skip
            replace h57 := (nI_leE (a := 2 ^ na) (b := (2 ^ na)) rfl rfl (by omega) (by omega)).mp h57
            refine ww_iload_n C0 dX5_share_123 rfl ?_
            refine ww_top hZ ?_
            refine ww_aload_n C0 dX5_share_124 rfl ?_
            refine ww_get C0 (ci := 5) (C := RX5) (T := TX5) (N := 33) ku_X5 0 rfl rfl 6 (by decide) kw_X5_79 rfl dX5_share_125 ?_
            refine ww_callSi C0 (c_X5_ways l D cI cZ cQ hna) kd_X5_ways kw_X5_201 ks_X5_ways ki_X5 hd_X5_ways ⟨Nat.le_of_ble_eq_true rfl, Nat.le_of_ble_eq_true rfl, rfl, rfl⟩ (Nat.le_of_ble_eq_true rfl) dX5_share_128 rfl rfl ⟨Nat.zero_le _, Nat.zero_le _⟩ ?_
            refine ww_top (mWays_nI na) ?_
            refine ww_iload_n C0 dX5_share_131 rfl ?_
            refine ww_callSi C0 (c_X5_fraction l D cI cZ cQ hZb (mWaysN_b na).2 (mWaysN_b na).1) kd_X5_fraction kw_X5_204 ks_X5_fraction ki_X5 hd_X5_fraction ⟨Nat.le_of_ble_eq_true rfl, Nat.le_of_ble_eq_true rfl, rfl, rfl⟩ (Nat.le_of_ble_eq_true rfl) dX5_share_132 rfl rfl ⟨Nat.zero_le _, Nat.zero_le _⟩ ?_
            exact ww_iret C0 hr dX5_share_135 (by rfl) (by rfl)
          · skip
            replace h57 := (not_congr (nI_leE (a := 2 ^ na) (b := (2 ^ na)) rfl rfl (by omega) (by omega))).mp h57
            exfalso; omega
      · skip
        replace h24 := (not_congr (nI_leE (a := 2 ^ na) (b := (2 ^ na)) rfl rfl (by omega) (by omega))).mp h24
        exfalso; omega
  · skip
    exact absurd h10 (by rw [isN_nI (by omega) ha]; decide)

set_option maxHeartbeats 4000000 in
set_option maxRecDepth 100000 in
theorem c_X5_findMay (l : Launch) (D : va_G) (cI cZ cQ : ClassId) {aM amt amc amw ams amv amr amx amp amq amb amk amz am0 am1 am2 am3 am4 amh amo : Nat} {tn nm na ac gn : Nat} {th vpl vrm vra x0 x1 x2 x3 : Int32} {sd : Int64} {fmt fmc fmw fms fmv fmp fmq fmr fmx fmb fmk fmz fm0 fm1 fm2 fm3 fm4 : Nat → Int32} {rest : va_W} {s0 : Int32} (hg : gn ≤ 6) : MV l D [(cI, .int), (cZ, .boolean), (cQ, .object "MulesRemember$State")] yX5_findMay cX5_findMay 6 ({ frames := 1, cells := 0, slots := 0, locals := 25 } : Room) [.ref aM, .int s0] ((aM, .inr (5, [.int th, .ref amt, .int (nI tn), .int vpl, .int (nI nm), .ref amc, .int (nI na), .ref amw, .ref ams, .ref amv, .int vrm, .ref amr, .int vra, .ref amx, .ref amp, .ref amq, .ref amb, .int (nI ac), .ref amk, .ref amz, .int (nI gn), .ref am0, .ref am1, .ref am2, .ref am3, .ref am4, .long sd, .ref amh, .int x0, .int x1, .int x2, .int x3, .ref amo])) :: (amt, .inl (cI, 48, .inl (fmt))) :: (amc, .inl (cI, 5, .inl (fmc))) :: (amw, .inl (cI, 5, .inl (fmw))) :: (ams, .inl (cI, 5, .inl (fms))) :: (amv, .inl (cI, 5, .inl (fmv))) :: (amp, .inl (cI, 17, .inl (fmp))) :: (amq, .inl (cI, 17, .inl (fmq))) :: (amr, .inl (cI, 15, .inl (fmr))) :: (amx, .inl (cI, 15, .inl (fmx))) :: (amb, .inl (cI, 238, .inl (fmb))) :: (amk, .inl (cI, 34, .inl (fmk))) :: (amz, .inl (cZ, 2, .inl (fmz))) :: (am0, .inl (cI, 6, .inl (fm0))) :: (am1, .inl (cI, 6, .inl (fm1))) :: (am2, .inl (cI, 6, .inl (fm2))) :: (am3, .inl (cI, 6, .inl (fm3))) :: (am4, .inl (cI, 6, .inl (fm4))) :: rest) ((aM, .inr (5, [.int th, .ref amt, .int (nI tn), .int vpl, .int (nI nm), .ref amc, .int (nI na), .ref amw, .ref ams, .ref amv, .int vrm, .ref amr, .int vra, .ref amx, .ref amp, .ref amq, .ref amb, .int (nI ac), .ref amk, .ref amz, .int (nI gn), .ref am0, .ref am1, .ref am2, .ref am3, .ref am4, .long sd, .ref amh, .int (sMany (fun t => allB (mAg fm0 fm1 fm2 fm3 fm4 s0 (nI (t / 10)) (nI (t % 10))) gn) (fun t => nI t) (30)).1, .int (sMany (fun t => allB (mAg fm0 fm1 fm2 fm3 fm4 s0 (nI (t / 10)) (nI (t % 10))) gn) (fun t => nI t) (30)).2, .int x2, .int x3, .ref amo])) :: (amt, .inl (cI, 48, .inl (fmt))) :: (amc, .inl (cI, 5, .inl (fmc))) :: (amw, .inl (cI, 5, .inl (fmw))) :: (ams, .inl (cI, 5, .inl (fms))) :: (amv, .inl (cI, 5, .inl (fmv))) :: (amp, .inl (cI, 17, .inl (fmp))) :: (amq, .inl (cI, 17, .inl (fmq))) :: (amr, .inl (cI, 15, .inl (fmr))) :: (amx, .inl (cI, 15, .inl (fmx))) :: (amb, .inl (cI, 238, .inl (fmb))) :: (amk, .inl (cI, 34, .inl (fmk))) :: (amz, .inl (cZ, 2, .inl (fmz))) :: (am0, .inl (cI, 6, .inl (fm0))) :: (am1, .inl (cI, 6, .inl (fm1))) :: (am2, .inl (cI, 6, .inl (fm2))) :: (am3, .inl (cI, 6, .inl (fm3))) :: (am4, .inl (cI, 6, .inl (fm4))) :: rest) := by
  refine MV.of [.ref aM, .int s0, .null, .null, .null, .null] (by decide) (Nat.le_of_ble_eq_true rfl) rfl ?_
  intro p e s m below meth c A C0 hr
  refine ww_aload_n C0 dX5_findMay_0 rfl ?_
  refine ww_iconst (v := (0)) C0 dX5_findMay_1 rfl ?_
  refine ww_put C0 (ci := 5) (C := RX5) (T := TX5) (N := 33) ku_X5 0 rfl rfl 28 (by decide) tyX5 tyX5_ok nmX5 kw_X5_210 rfl (ty := .int) (by decide +kernel) rfl rfl (Nat.le_of_ble_eq_true rfl) dX5_findMay_2 ?_
  simp only [List.set_cons_zero, List.set_cons_succ]
  refine ww_aload_n C0 dX5_findMay_5 rfl ?_
  refine ww_bipush (v := (-9)) C0 dX5_findMay_6 rfl ?_
  refine ww_put C0 (ci := 5) (C := RX5) (T := TX5) (N := 33) ku_X5 0 rfl rfl 29 (by decide) tyX5 tyX5_ok nmX5 kw_X5_213 rfl (ty := .int) (by decide +kernel) rfl rfl (Nat.le_of_ble_eq_true rfl) dX5_findMay_8 ?_
  simp only [List.set_cons_zero, List.set_cons_succ]
  refine ww_iconst (v := (0)) C0 dX5_findMay_11 rfl ?_
  refine ww_istore_n (i := 2) C0 dX5_findMay_12 rfl (Nat.le_of_ble_eq_true rfl) rfl ?_
  simp only [List.set_cons_zero, List.set_cons_succ]
  refine ww_back (ww_loop (pc := 13) 0 (30) (by omega) (fun j => [_, _, .int (nI j), .null, .null, .null]) (fun j => (aM, .inr (5, [.int th, .ref amt, .int (nI tn), .int vpl, .int (nI nm), .ref amc, .int (nI na), .ref amw, .ref ams, .ref amv, .int vrm, .ref amr, .int vra, .ref amx, .ref amp, .ref amq, .ref amb, .int (nI ac), .ref amk, .ref amz, .int (nI gn), .ref am0, .ref am1, .ref am2, .ref am3, .ref am4, .long sd, .ref amh, .int (sMany (fun t => allB (mAg fm0 fm1 fm2 fm3 fm4 s0 (nI (t / 10)) (nI (t % 10))) gn) (fun t => nI t) (j)).1, .int (sMany (fun t => allB (mAg fm0 fm1 fm2 fm3 fm4 s0 (nI (t / 10)) (nI (t % 10))) gn) (fun t => nI t) (j)).2, .int x2, .int x3, .ref amo])) :: (amt, .inl (cI, 48, .inl (fmt))) :: (amc, .inl (cI, 5, .inl (fmc))) :: (amw, .inl (cI, 5, .inl (fmw))) :: (ams, .inl (cI, 5, .inl (fms))) :: (amv, .inl (cI, 5, .inl (fmv))) :: (amp, .inl (cI, 17, .inl (fmp))) :: (amq, .inl (cI, 17, .inl (fmq))) :: (amr, .inl (cI, 15, .inl (fmr))) :: (amx, .inl (cI, 15, .inl (fmx))) :: (amb, .inl (cI, 238, .inl (fmb))) :: (amk, .inl (cI, 34, .inl (fmk))) :: (amz, .inl (cZ, 2, .inl (fmz))) :: (am0, .inl (cI, 6, .inl (fm0))) :: (am1, .inl (cI, 6, .inl (fm1))) :: (am2, .inl (cI, 6, .inl (fm2))) :: (am3, .inl (cI, 6, .inl (fm3))) :: (am4, .inl (cI, 6, .inl (fm4))) :: rest) ?_ ?_) ⟨Or.inr rfl, Or.inr rfl, Or.inr rfl, Or.inl rfl, Or.inl rfl, Or.inl rfl, trivial⟩ (by rfl)
  · intro j hj0 hj ih
    refine ww_iload_n C0 dX5_findMay_13 rfl ?_
    refine ww_bipush (v := (30)) C0 dX5_findMay_14 rfl ?_
    refine ww_icmp_ge (tgt := 163) C0 dX5_findMay_16 (by decide) (fun h16 => ?_) (fun h16 => ?_)
    · skip
      replace h16 := (nI_leE (a := 30) (b := j) rfl rfl (by omega) (by omega)).mp h16
      exfalso; omega
    · skip
      replace h16 := (not_congr (nI_leE (a := 30) (b := j) rfl rfl (by omega) (by omega))).mp h16
      refine ww_iconst (v := (1)) C0 dX5_findMay_19 rfl ?_
      refine ww_istore_n (i := 3) C0 dX5_findMay_20 rfl (Nat.le_of_ble_eq_true rfl) rfl ?_
      simp only [List.set_cons_zero, List.set_cons_succ]
      refine ww_iconst (v := (0)) C0 dX5_findMay_21 rfl ?_
      refine ww_istore (i := 4) C0 dX5_findMay_22 (Nat.le_of_ble_eq_true rfl) rfl ?_
      simp only [List.set_cons_zero, List.set_cons_succ]
      refine ww_back (ww_loop (pc := 24) 0 (gn) (by omega) (fun i => [_, _, _, .int (bI (allB (mAg fm0 fm1 fm2 fm3 fm4 s0 (nI (j / 10)) (nI (j % 10))) i)), .int (nI i), .null]) (fun i => _) ?_ ?_) ⟨Or.inr rfl, Or.inr rfl, Or.inr rfl, Or.inr rfl, Or.inr rfl, Or.inl rfl, trivial⟩ (by rfl)
      · intro i hj0 hj ih
        refine ww_iload C0 dX5_findMay_24 rfl ?_
        refine ww_aload_n C0 dX5_findMay_26 rfl ?_
        refine ww_get C0 (ci := 5) (C := RX5) (T := TX5) (N := 33) ku_X5 0 rfl rfl 20 (by decide) kw_X5_137 rfl dX5_findMay_27 ?_
        refine ww_icmp_ge (tgt := 116) C0 dX5_findMay_30 (by decide) (fun h30 => ?_) (fun h30 => ?_)
        · skip
          replace h30 := (nI_leE (a := gn) (b := i) rfl rfl (by omega) (by omega)).mp h30
          exfalso; omega
        · skip
          replace h30 := (not_congr (nI_leE (a := gn) (b := i) rfl rfl (by omega) (by omega))).mp h30
          refine ww_iload_n C0 dX5_findMay_33 rfl ?_
          refine ww_bipush (v := (10)) C0 dX5_findMay_34 rfl ?_
          refine ww_idiv C0 dX5_findMay_36 (by decide) ?_
          refine ww_top (nI_divE (a := j) (b := 10) rfl rfl (by omega) (by omega) (by omega)) ?_
          refine ww_iload_n C0 dX5_findMay_37 rfl ?_
          refine ww_bipush (v := (10)) C0 dX5_findMay_38 rfl ?_
          refine ww_irem C0 dX5_findMay_40 (by decide) ?_
          refine ww_top (nI_remE (a := j) (b := 10) rfl rfl (by omega) (by omega) (by omega)) ?_
          refine ww_aload_n C0 dX5_findMay_41 rfl ?_
          refine ww_get C0 (ci := 5) (C := RX5) (T := TX5) (N := 33) ku_X5 0 rfl rfl 22 (by decide) kw_X5_50 rfl dX5_findMay_42 ?_
          refine ww_iload C0 dX5_findMay_45 rfl ?_
          refine ww_iald_n (j := i) C0 14 0 rfl rfl rfl (by omega) (by decide) dX5_findMay_47 ?_
          refine ww_aload_n C0 dX5_findMay_48 rfl ?_
          refine ww_get C0 (ci := 5) (C := RX5) (T := TX5) (N := 33) ku_X5 0 rfl rfl 23 (by decide) kw_X5_53 rfl dX5_findMay_49 ?_
          refine ww_iload C0 dX5_findMay_52 rfl ?_
          refine ww_iald_n (j := i) C0 15 0 rfl rfl rfl (by omega) (by decide) dX5_findMay_54 ?_
          refine ww_aload_n C0 dX5_findMay_55 rfl ?_
          refine ww_get C0 (ci := 5) (C := RX5) (T := TX5) (N := 33) ku_X5 0 rfl rfl 24 (by decide) kw_X5_56 rfl dX5_findMay_56 ?_
          refine ww_iload C0 dX5_findMay_59 rfl ?_
          refine ww_iald_n (j := i) C0 16 0 rfl rfl rfl (by omega) (by decide) dX5_findMay_61 ?_
          refine ww_iconst (v := (0)) C0 dX5_findMay_62 rfl ?_
          refine ww_callSi C0 (c_X5_isBarred l D cI cZ cQ) kd_X5_isBarred kw_X5_126 ks_X5_isBarred ki_X5 hd_X5_isBarred ⟨Nat.le_of_ble_eq_true rfl, Nat.le_of_ble_eq_true rfl, rfl, rfl⟩ (Nat.le_of_ble_eq_true rfl) dX5_findMay_63 rfl rfl ⟨Nat.zero_le _, Nat.zero_le _⟩ ?_
          refine ww_istore (i := 5) C0 dX5_findMay_66 (Nat.le_of_ble_eq_true rfl) rfl ?_
          simp only [List.set_cons_zero, List.set_cons_succ]
          refine ww_iload_n C0 dX5_findMay_68 rfl ?_
          refine ww_bif_eq (tgt := 108) C0 dX5_findMay_69 (by decide) (fun h69 => ?_) (fun h69 => ?_)
          · skip
            refine ww_iconst (v := (0)) C0 dX5_findMay_108 rfl ?_
            refine ww_top (v' := bI (allB (mAg fm0 fm1 fm2 fm3 fm4 s0 (nI (j / 10)) (nI (j % 10))) (i + 1))) (by
              show _ = bI (allB _ _ && mAg _ _ _ _ _ _ _ _ _)
              rw [h69]
              first | rfl | (simp [mAg, *]; done) | (simp [mAg, *]; rfl)) ?_
            refine ww_istore_n (i := 3) C0 dX5_findMay_109 rfl (Nat.le_of_ble_eq_true rfl) rfl ?_
            simp only [List.set_cons_zero, List.set_cons_succ]
            refine ww_iinc (d := 1) C0 dX5_findMay_110 rfl rfl rfl ?_
            simp only [List.set_cons_zero, List.set_cons_succ]
            refine ww_goto (tgt := 24) C0 dX5_findMay_113 (by decide) ?_
            exact ww_back ih ⟨Or.inr rfl, Or.inr rfl, Or.inr rfl, Or.inr rfl, Or.inr (congrArg Value.int (nI_addE (a := i) (b := 1) rfl rfl).symm), Or.inl rfl, trivial⟩ (by rfl)
          · skip
            refine ww_aload_n C0 dX5_findMay_72 rfl ?_
            refine ww_get C0 (ci := 5) (C := RX5) (T := TX5) (N := 33) ku_X5 0 rfl rfl 21 (by decide) kw_X5_47 rfl dX5_findMay_73 ?_
            refine ww_iload C0 dX5_findMay_76 rfl ?_
            refine ww_iald_n (j := i) C0 13 0 rfl rfl rfl (by omega) (by decide) dX5_findMay_78 ?_
            refine ww_iload_n C0 dX5_findMay_79 rfl ?_
            refine ww_icmp_ne (tgt := 104) C0 dX5_findMay_80 (by decide) (fun h80 => ?_) (fun h80 => ?_)
            · skip
              refine ww_iconst (v := (1)) C0 dX5_findMay_104 rfl ?_
              refine ww_goto (tgt := 109) C0 dX5_findMay_105 (by decide) ?_
              refine ww_top (v' := bI (allB (mAg fm0 fm1 fm2 fm3 fm4 s0 (nI (j / 10)) (nI (j % 10))) (i + 1))) (by
                show _ = bI (allB _ _ && mAg _ _ _ _ _ _ _ _ _)
                rw [h69]
                first | rfl | (simp [mAg, *]; done) | (simp [mAg, *]; rfl)) ?_
              refine ww_istore_n (i := 3) C0 dX5_findMay_109 rfl (Nat.le_of_ble_eq_true rfl) rfl ?_
              simp only [List.set_cons_zero, List.set_cons_succ]
              refine ww_iinc (d := 1) C0 dX5_findMay_110 rfl rfl rfl ?_
              simp only [List.set_cons_zero, List.set_cons_succ]
              refine ww_goto (tgt := 24) C0 dX5_findMay_113 (by decide) ?_
              exact ww_back ih ⟨Or.inr rfl, Or.inr rfl, Or.inr rfl, Or.inr rfl, Or.inr (congrArg Value.int (nI_addE (a := i) (b := 1) rfl rfl).symm), Or.inl rfl, trivial⟩ (by rfl)
            · skip
              refine ww_iload C0 dX5_findMay_83 rfl ?_
              refine ww_aload_n C0 dX5_findMay_85 rfl ?_
              refine ww_get C0 (ci := 5) (C := RX5) (T := TX5) (N := 33) ku_X5 0 rfl rfl 25 (by decide) kw_X5_59 rfl dX5_findMay_86 ?_
              refine ww_iload C0 dX5_findMay_89 rfl ?_
              refine ww_iald_n (j := i) C0 17 0 rfl rfl rfl (by omega) (by decide) dX5_findMay_91 ?_
              refine ww_iconst (v := (1)) C0 dX5_findMay_92 rfl ?_
              refine ww_icmp_ne (tgt := 100) C0 dX5_findMay_93 (by decide) (fun h93 => ?_) (fun h93 => ?_)
              · skip
                refine ww_iconst (v := (0)) C0 dX5_findMay_100 rfl ?_
                refine ww_icmp_ne (tgt := 108) C0 dX5_findMay_101 (by decide) (fun h101 => ?_) (fun h101 => ?_)
                · skip
                  refine ww_iconst (v := (0)) C0 dX5_findMay_108 rfl ?_
                  refine ww_top (v' := bI (allB (mAg fm0 fm1 fm2 fm3 fm4 s0 (nI (j / 10)) (nI (j % 10))) (i + 1))) (by
                    show _ = bI (allB _ _ && mAg _ _ _ _ _ _ _ _ _)
                    rw [h69]
                    first | rfl | (simp [mAg, *]; done) | (simp [mAg, *]; rfl)) ?_
                  refine ww_istore_n (i := 3) C0 dX5_findMay_109 rfl (Nat.le_of_ble_eq_true rfl) rfl ?_
                  simp only [List.set_cons_zero, List.set_cons_succ]
                  refine ww_iinc (d := 1) C0 dX5_findMay_110 rfl rfl rfl ?_
                  simp only [List.set_cons_zero, List.set_cons_succ]
                  refine ww_goto (tgt := 24) C0 dX5_findMay_113 (by decide) ?_
                  exact ww_back ih ⟨Or.inr rfl, Or.inr rfl, Or.inr rfl, Or.inr rfl, Or.inr (congrArg Value.int (nI_addE (a := i) (b := 1) rfl rfl).symm), Or.inl rfl, trivial⟩ (by rfl)
                · skip
                  refine ww_iconst (v := (1)) C0 dX5_findMay_104 rfl ?_
                  refine ww_goto (tgt := 109) C0 dX5_findMay_105 (by decide) ?_
                  refine ww_top (v' := bI (allB (mAg fm0 fm1 fm2 fm3 fm4 s0 (nI (j / 10)) (nI (j % 10))) (i + 1))) (by
                    show _ = bI (allB _ _ && mAg _ _ _ _ _ _ _ _ _)
                    rw [h69]
                    first | rfl | (simp [mAg, *]; done) | (simp [mAg, *]; rfl)) ?_
                  refine ww_istore_n (i := 3) C0 dX5_findMay_109 rfl (Nat.le_of_ble_eq_true rfl) rfl ?_
                  simp only [List.set_cons_zero, List.set_cons_succ]
                  refine ww_iinc (d := 1) C0 dX5_findMay_110 rfl rfl rfl ?_
                  simp only [List.set_cons_zero, List.set_cons_succ]
                  refine ww_goto (tgt := 24) C0 dX5_findMay_113 (by decide) ?_
                  exact ww_back ih ⟨Or.inr rfl, Or.inr rfl, Or.inr rfl, Or.inr rfl, Or.inr (congrArg Value.int (nI_addE (a := i) (b := 1) rfl rfl).symm), Or.inl rfl, trivial⟩ (by rfl)
              · skip
                refine ww_iconst (v := (1)) C0 dX5_findMay_96 rfl ?_
                refine ww_goto (tgt := 101) C0 dX5_findMay_97 (by decide) ?_
                refine ww_icmp_ne (tgt := 108) C0 dX5_findMay_101 (by decide) (fun h101 => ?_) (fun h101 => ?_)
                · skip
                  refine ww_iconst (v := (0)) C0 dX5_findMay_108 rfl ?_
                  refine ww_top (v' := bI (allB (mAg fm0 fm1 fm2 fm3 fm4 s0 (nI (j / 10)) (nI (j % 10))) (i + 1))) (by
                    show _ = bI (allB _ _ && mAg _ _ _ _ _ _ _ _ _)
                    rw [h69]
                    first | rfl | (simp [mAg, *]; done) | (simp [mAg, *]; rfl)) ?_
                  refine ww_istore_n (i := 3) C0 dX5_findMay_109 rfl (Nat.le_of_ble_eq_true rfl) rfl ?_
                  simp only [List.set_cons_zero, List.set_cons_succ]
                  refine ww_iinc (d := 1) C0 dX5_findMay_110 rfl rfl rfl ?_
                  simp only [List.set_cons_zero, List.set_cons_succ]
                  refine ww_goto (tgt := 24) C0 dX5_findMay_113 (by decide) ?_
                  exact ww_back ih ⟨Or.inr rfl, Or.inr rfl, Or.inr rfl, Or.inr rfl, Or.inr (congrArg Value.int (nI_addE (a := i) (b := 1) rfl rfl).symm), Or.inl rfl, trivial⟩ (by rfl)
                · skip
                  refine ww_iconst (v := (1)) C0 dX5_findMay_104 rfl ?_
                  refine ww_goto (tgt := 109) C0 dX5_findMay_105 (by decide) ?_
                  refine ww_top (v' := bI (allB (mAg fm0 fm1 fm2 fm3 fm4 s0 (nI (j / 10)) (nI (j % 10))) (i + 1))) (by
                    show _ = bI (allB _ _ && mAg _ _ _ _ _ _ _ _ _)
                    rw [h69]
                    first | rfl | (simp [mAg, *]; done) | (simp [mAg, *]; rfl)) ?_
                  refine ww_istore_n (i := 3) C0 dX5_findMay_109 rfl (Nat.le_of_ble_eq_true rfl) rfl ?_
                  simp only [List.set_cons_zero, List.set_cons_succ]
                  refine ww_iinc (d := 1) C0 dX5_findMay_110 rfl rfl rfl ?_
                  simp only [List.set_cons_zero, List.set_cons_succ]
                  refine ww_goto (tgt := 24) C0 dX5_findMay_113 (by decide) ?_
                  exact ww_back ih ⟨Or.inr rfl, Or.inr rfl, Or.inr rfl, Or.inr rfl, Or.inr (congrArg Value.int (nI_addE (a := i) (b := 1) rfl rfl).symm), Or.inl rfl, trivial⟩ (by rfl)
      · skip
        refine ww_iload C0 dX5_findMay_24 rfl ?_
        refine ww_aload_n C0 dX5_findMay_26 rfl ?_
        refine ww_get C0 (ci := 5) (C := RX5) (T := TX5) (N := 33) ku_X5 0 rfl rfl 20 (by decide) kw_X5_137 rfl dX5_findMay_27 ?_
        refine ww_icmp_ge (tgt := 116) C0 dX5_findMay_30 (by decide) (fun h30 => ?_) (fun h30 => ?_)
        · skip
          replace h30 := (nI_leE (a := gn) (b := gn) rfl rfl (by omega) (by omega)).mp h30
          refine ww_aload_n C0 dX5_findMay_116 rfl ?_
          refine ww_iload_n C0 dX5_findMay_117 rfl ?_
          refine ww_bif_eq (tgt := 132) C0 dX5_findMay_118 (by decide) (fun h118 => ?_) (fun h118 => ?_)
          · skip
            refine ww_aload_n C0 dX5_findMay_132 rfl ?_
            refine ww_get C0 (ci := 5) (C := RX5) (T := TX5) (N := 33) ku_X5 0 rfl rfl 29 (by decide) kw_X5_213 rfl dX5_findMay_133 ?_
            refine ww_top (v' := (sMany (fun t => allB (mAg fm0 fm1 fm2 fm3 fm4 s0 (nI (t / 10)) (nI (t % 10))) gn) (fun t => nI t) (j + 1)).2) (by first | (simp [sMany_2, h118, h125]; done) | (simp [sMany_2, h118]; done)) ?_
            refine ww_put C0 (ci := 5) (C := RX5) (T := TX5) (N := 33) ku_X5 0 rfl rfl 29 (by decide) tyX5 tyX5_ok nmX5 kw_X5_213 rfl (ty := .int) (by decide +kernel) rfl rfl (Nat.le_of_ble_eq_true rfl) dX5_findMay_136 ?_
            simp only [List.set_cons_zero, List.set_cons_succ]
            refine ww_aload_n C0 dX5_findMay_139 rfl ?_
            refine ww_dup C0 dX5_findMay_140 rfl ?_
            refine ww_get C0 (ci := 5) (C := RX5) (T := TX5) (N := 33) ku_X5 0 rfl rfl 28 (by decide) kw_X5_210 rfl dX5_findMay_141 ?_
            refine ww_iload_n C0 dX5_findMay_144 rfl ?_
            refine ww_bif_eq (tgt := 152) C0 dX5_findMay_145 (by decide) (fun h145 => ?_) (fun h145 => ?_)
            · skip
              refine ww_iconst (v := (0)) C0 dX5_findMay_152 rfl ?_
              refine ww_iadd C0 dX5_findMay_153 ?_
              refine ww_top (v' := (sMany (fun t => allB (mAg fm0 fm1 fm2 fm3 fm4 s0 (nI (t / 10)) (nI (t % 10))) gn) (fun t => nI t) (j + 1)).1) (by simp [sMany_1, h145]) ?_
              refine ww_put C0 (ci := 5) (C := RX5) (T := TX5) (N := 33) ku_X5 0 rfl rfl 28 (by decide) tyX5 tyX5_ok nmX5 kw_X5_210 rfl (ty := .int) (by decide +kernel) rfl rfl (Nat.le_of_ble_eq_true rfl) dX5_findMay_154 ?_
              simp only [List.set_cons_zero, List.set_cons_succ]
              refine ww_iinc (d := 1) C0 dX5_findMay_157 rfl rfl rfl ?_
              simp only [List.set_cons_zero, List.set_cons_succ]
              refine ww_goto (tgt := 13) C0 dX5_findMay_160 (by decide) ?_
              exact ww_back ih ⟨Or.inr rfl, Or.inr rfl, Or.inr (congrArg Value.int (nI_addE (a := j) (b := 1) rfl rfl).symm), Or.inl rfl, Or.inl rfl, Or.inl rfl, trivial⟩ (by rfl)
            · skip
              refine ww_iconst (v := (1)) C0 dX5_findMay_148 rfl ?_
              refine ww_goto (tgt := 153) C0 dX5_findMay_149 (by decide) ?_
              refine ww_iadd C0 dX5_findMay_153 ?_
              refine ww_top (v' := (sMany (fun t => allB (mAg fm0 fm1 fm2 fm3 fm4 s0 (nI (t / 10)) (nI (t % 10))) gn) (fun t => nI t) (j + 1)).1) (by simp [sMany_1, h145]) ?_
              refine ww_put C0 (ci := 5) (C := RX5) (T := TX5) (N := 33) ku_X5 0 rfl rfl 28 (by decide) tyX5 tyX5_ok nmX5 kw_X5_210 rfl (ty := .int) (by decide +kernel) rfl rfl (Nat.le_of_ble_eq_true rfl) dX5_findMay_154 ?_
              simp only [List.set_cons_zero, List.set_cons_succ]
              refine ww_iinc (d := 1) C0 dX5_findMay_157 rfl rfl rfl ?_
              simp only [List.set_cons_zero, List.set_cons_succ]
              refine ww_goto (tgt := 13) C0 dX5_findMay_160 (by decide) ?_
              exact ww_back ih ⟨Or.inr rfl, Or.inr rfl, Or.inr (congrArg Value.int (nI_addE (a := j) (b := 1) rfl rfl).symm), Or.inl rfl, Or.inl rfl, Or.inl rfl, trivial⟩ (by rfl)
          · skip
            refine ww_aload_n C0 dX5_findMay_121 rfl ?_
            refine ww_get C0 (ci := 5) (C := RX5) (T := TX5) (N := 33) ku_X5 0 rfl rfl 28 (by decide) kw_X5_210 rfl dX5_findMay_122 ?_
            refine ww_if_ne (tgt := 132) C0 dX5_findMay_125 (by decide) (fun h125 => ?_) (fun h125 => ?_)
            · skip
              refine ww_aload_n C0 dX5_findMay_132 rfl ?_
              refine ww_get C0 (ci := 5) (C := RX5) (T := TX5) (N := 33) ku_X5 0 rfl rfl 29 (by decide) kw_X5_213 rfl dX5_findMay_133 ?_
              refine ww_top (v' := (sMany (fun t => allB (mAg fm0 fm1 fm2 fm3 fm4 s0 (nI (t / 10)) (nI (t % 10))) gn) (fun t => nI t) (j + 1)).2) (by first | (simp [sMany_2, h118, h125]; done) | (simp [sMany_2, h118]; done)) ?_
              refine ww_put C0 (ci := 5) (C := RX5) (T := TX5) (N := 33) ku_X5 0 rfl rfl 29 (by decide) tyX5 tyX5_ok nmX5 kw_X5_213 rfl (ty := .int) (by decide +kernel) rfl rfl (Nat.le_of_ble_eq_true rfl) dX5_findMay_136 ?_
              simp only [List.set_cons_zero, List.set_cons_succ]
              refine ww_aload_n C0 dX5_findMay_139 rfl ?_
              refine ww_dup C0 dX5_findMay_140 rfl ?_
              refine ww_get C0 (ci := 5) (C := RX5) (T := TX5) (N := 33) ku_X5 0 rfl rfl 28 (by decide) kw_X5_210 rfl dX5_findMay_141 ?_
              refine ww_iload_n C0 dX5_findMay_144 rfl ?_
              refine ww_bif_eq (tgt := 152) C0 dX5_findMay_145 (by decide) (fun h145 => ?_) (fun h145 => ?_)
              · skip
                refine ww_iconst (v := (0)) C0 dX5_findMay_152 rfl ?_
                refine ww_iadd C0 dX5_findMay_153 ?_
                refine ww_top (v' := (sMany (fun t => allB (mAg fm0 fm1 fm2 fm3 fm4 s0 (nI (t / 10)) (nI (t % 10))) gn) (fun t => nI t) (j + 1)).1) (by simp [sMany_1, h145]) ?_
                refine ww_put C0 (ci := 5) (C := RX5) (T := TX5) (N := 33) ku_X5 0 rfl rfl 28 (by decide) tyX5 tyX5_ok nmX5 kw_X5_210 rfl (ty := .int) (by decide +kernel) rfl rfl (Nat.le_of_ble_eq_true rfl) dX5_findMay_154 ?_
                simp only [List.set_cons_zero, List.set_cons_succ]
                refine ww_iinc (d := 1) C0 dX5_findMay_157 rfl rfl rfl ?_
                simp only [List.set_cons_zero, List.set_cons_succ]
                refine ww_goto (tgt := 13) C0 dX5_findMay_160 (by decide) ?_
                exact ww_back ih ⟨Or.inr rfl, Or.inr rfl, Or.inr (congrArg Value.int (nI_addE (a := j) (b := 1) rfl rfl).symm), Or.inl rfl, Or.inl rfl, Or.inl rfl, trivial⟩ (by rfl)
              · skip
                refine ww_iconst (v := (1)) C0 dX5_findMay_148 rfl ?_
                refine ww_goto (tgt := 153) C0 dX5_findMay_149 (by decide) ?_
                refine ww_iadd C0 dX5_findMay_153 ?_
                refine ww_top (v' := (sMany (fun t => allB (mAg fm0 fm1 fm2 fm3 fm4 s0 (nI (t / 10)) (nI (t % 10))) gn) (fun t => nI t) (j + 1)).1) (by simp [sMany_1, h145]) ?_
                refine ww_put C0 (ci := 5) (C := RX5) (T := TX5) (N := 33) ku_X5 0 rfl rfl 28 (by decide) tyX5 tyX5_ok nmX5 kw_X5_210 rfl (ty := .int) (by decide +kernel) rfl rfl (Nat.le_of_ble_eq_true rfl) dX5_findMay_154 ?_
                simp only [List.set_cons_zero, List.set_cons_succ]
                refine ww_iinc (d := 1) C0 dX5_findMay_157 rfl rfl rfl ?_
                simp only [List.set_cons_zero, List.set_cons_succ]
                refine ww_goto (tgt := 13) C0 dX5_findMay_160 (by decide) ?_
                exact ww_back ih ⟨Or.inr rfl, Or.inr rfl, Or.inr (congrArg Value.int (nI_addE (a := j) (b := 1) rfl rfl).symm), Or.inl rfl, Or.inl rfl, Or.inl rfl, trivial⟩ (by rfl)
            · skip
              refine ww_iload_n C0 dX5_findMay_128 rfl ?_
              refine ww_goto (tgt := 136) C0 dX5_findMay_129 (by decide) ?_
              refine ww_top (v' := (sMany (fun t => allB (mAg fm0 fm1 fm2 fm3 fm4 s0 (nI (t / 10)) (nI (t % 10))) gn) (fun t => nI t) (j + 1)).2) (by first | (simp [sMany_2, h118, h125]; done) | (simp [sMany_2, h118]; done)) ?_
              refine ww_put C0 (ci := 5) (C := RX5) (T := TX5) (N := 33) ku_X5 0 rfl rfl 29 (by decide) tyX5 tyX5_ok nmX5 kw_X5_213 rfl (ty := .int) (by decide +kernel) rfl rfl (Nat.le_of_ble_eq_true rfl) dX5_findMay_136 ?_
              simp only [List.set_cons_zero, List.set_cons_succ]
              refine ww_aload_n C0 dX5_findMay_139 rfl ?_
              refine ww_dup C0 dX5_findMay_140 rfl ?_
              refine ww_get C0 (ci := 5) (C := RX5) (T := TX5) (N := 33) ku_X5 0 rfl rfl 28 (by decide) kw_X5_210 rfl dX5_findMay_141 ?_
              refine ww_iload_n C0 dX5_findMay_144 rfl ?_
              refine ww_bif_eq (tgt := 152) C0 dX5_findMay_145 (by decide) (fun h145 => ?_) (fun h145 => ?_)
              · skip
                refine ww_iconst (v := (0)) C0 dX5_findMay_152 rfl ?_
                refine ww_iadd C0 dX5_findMay_153 ?_
                refine ww_top (v' := (sMany (fun t => allB (mAg fm0 fm1 fm2 fm3 fm4 s0 (nI (t / 10)) (nI (t % 10))) gn) (fun t => nI t) (j + 1)).1) (by simp [sMany_1, h145]) ?_
                refine ww_put C0 (ci := 5) (C := RX5) (T := TX5) (N := 33) ku_X5 0 rfl rfl 28 (by decide) tyX5 tyX5_ok nmX5 kw_X5_210 rfl (ty := .int) (by decide +kernel) rfl rfl (Nat.le_of_ble_eq_true rfl) dX5_findMay_154 ?_
                simp only [List.set_cons_zero, List.set_cons_succ]
                refine ww_iinc (d := 1) C0 dX5_findMay_157 rfl rfl rfl ?_
                simp only [List.set_cons_zero, List.set_cons_succ]
                refine ww_goto (tgt := 13) C0 dX5_findMay_160 (by decide) ?_
                exact ww_back ih ⟨Or.inr rfl, Or.inr rfl, Or.inr (congrArg Value.int (nI_addE (a := j) (b := 1) rfl rfl).symm), Or.inl rfl, Or.inl rfl, Or.inl rfl, trivial⟩ (by rfl)
              · skip
                refine ww_iconst (v := (1)) C0 dX5_findMay_148 rfl ?_
                refine ww_goto (tgt := 153) C0 dX5_findMay_149 (by decide) ?_
                refine ww_iadd C0 dX5_findMay_153 ?_
                refine ww_top (v' := (sMany (fun t => allB (mAg fm0 fm1 fm2 fm3 fm4 s0 (nI (t / 10)) (nI (t % 10))) gn) (fun t => nI t) (j + 1)).1) (by simp [sMany_1, h145]) ?_
                refine ww_put C0 (ci := 5) (C := RX5) (T := TX5) (N := 33) ku_X5 0 rfl rfl 28 (by decide) tyX5 tyX5_ok nmX5 kw_X5_210 rfl (ty := .int) (by decide +kernel) rfl rfl (Nat.le_of_ble_eq_true rfl) dX5_findMay_154 ?_
                simp only [List.set_cons_zero, List.set_cons_succ]
                refine ww_iinc (d := 1) C0 dX5_findMay_157 rfl rfl rfl ?_
                simp only [List.set_cons_zero, List.set_cons_succ]
                refine ww_goto (tgt := 13) C0 dX5_findMay_160 (by decide) ?_
                exact ww_back ih ⟨Or.inr rfl, Or.inr rfl, Or.inr (congrArg Value.int (nI_addE (a := j) (b := 1) rfl rfl).symm), Or.inl rfl, Or.inl rfl, Or.inl rfl, trivial⟩ (by rfl)
        · skip
          replace h30 := (not_congr (nI_leE (a := gn) (b := gn) rfl rfl (by omega) (by omega))).mp h30
          exfalso; omega
  · skip
    refine ww_iload_n C0 dX5_findMay_13 rfl ?_
    refine ww_bipush (v := (30)) C0 dX5_findMay_14 rfl ?_
    refine ww_icmp_ge (tgt := 163) C0 dX5_findMay_16 (by decide) (fun h16 => ?_) (fun h16 => ?_)
    · skip
      replace h16 := (nI_leE (a := 30) (b := 30) rfl rfl (by omega) (by omega)).mp h16
      exact ww_vret C0 hr dX5_findMay_163 (by rfl)
    · skip
      replace h16 := (not_congr (nI_leE (a := 30) (b := 30) rfl rfl (by omega) (by omega))).mp h16
      exfalso; omega

set_option maxHeartbeats 4000000 in
set_option maxRecDepth 100000 in
theorem c_X5_may_b (l : Launch) (D : va_G) (cI cZ cQ : ClassId) {aM amt amc amw ams amv amr amx amp amq amb amk amz am0 am1 am2 am3 am4 amh amo : Nat} {tn nm na ac gn : Nat} {th vpl vrm vra x0 x1 x2 x3 : Int32} {sd : Int64} {rest : va_W} {s0 x : Int32} (hs : isN 10 s0 = false) : MI l D [(cI, .int), (cZ, .boolean), (cQ, .object "MulesRemember$State")] yX5_may cX5_may 3 .int ({ frames := 2, cells := 0, slots := 0, locals := 50 } : Room) [.ref aM, .int s0, .int x] ((aM, .inr (5, [.int th, .ref amt, .int (nI tn), .int vpl, .int (nI nm), .ref amc, .int (nI na), .ref amw, .ref ams, .ref amv, .int vrm, .ref amr, .int vra, .ref amx, .ref amp, .ref amq, .ref amb, .int (nI ac), .ref amk, .ref amz, .int (nI gn), .ref am0, .ref am1, .ref am2, .ref am3, .ref am4, .long sd, .ref amh, .int x0, .int x1, .int x2, .int x3, .ref amo])) :: rest) (-1) ((aM, .inr (5, [.int 0, .ref amt, .int (nI tn), .int vpl, .int (nI nm), .ref amc, .int (nI na), .ref amw, .ref ams, .ref amv, .int vrm, .ref amr, .int vra, .ref amx, .ref amp, .ref amq, .ref amb, .int (nI ac), .ref amk, .ref amz, .int (nI gn), .ref am0, .ref am1, .ref am2, .ref am3, .ref am4, .long sd, .ref amh, .int x0, .int x1, .int x2, .int x3, .ref amo])) :: rest) := by
  refine MI.of [.ref aM, .int s0, .int x] (by decide) (Nat.le_of_ble_eq_true rfl) rfl ?_
  intro p e s m below meth c A C0 hr
  refine ww_aload_n C0 dX5_may_0 rfl ?_
  refine ww_iconst (v := (0)) C0 dX5_may_1 rfl ?_
  refine ww_put C0 (ci := 5) (C := RX5) (T := TX5) (N := 33) ku_X5 0 rfl rfl 0 (by decide) tyX5 tyX5_ok nmX5 kw_X5_68 rfl (ty := .int) (by decide +kernel) rfl rfl (Nat.le_of_ble_eq_true rfl) dX5_may_2 ?_
  simp only [List.set_cons_zero, List.set_cons_succ]
  refine ww_iload_n C0 dX5_may_5 rfl ?_
  refine ww_i2l C0 dX5_may_6 ?_
  refine ww_lconst (v := 0) C0 dX5_may_7 rfl ?_
  refine ww_ldc2 C0 kw_X5_117 dX5_may_8 ?_
  refine ww_callSi C0 (c_X5_in0 l D cI cZ cQ 10 (by decide) (by decide)) kd_X5_in kw_X5_75 ks_X5_in ki_X5 hd_X5_in ⟨Nat.le_of_ble_eq_true rfl, Nat.le_of_ble_eq_true rfl, rfl, rfl⟩ (Nat.le_of_ble_eq_true rfl) dX5_may_11 rfl rfl ⟨Nat.zero_le _, Nat.zero_le _⟩ ?_
  refine ww_bif_ne (tgt := 19) C0 dX5_may_14 (by decide) (fun h14 => ?_) (fun h14 => ?_)
  · skip
    exact absurd hs (by rw [h14]; decide)
  · skip
    refine ww_iconst (v := (-1)) C0 dX5_may_17 rfl ?_
    exact ww_iret C0 hr dX5_may_18 (by rfl) (by rfl)

set_option maxHeartbeats 4000000 in
set_option maxRecDepth 100000 in
theorem c_X5_may_b2 (l : Launch) (D : va_G) (cI cZ cQ : ClassId) {aM amt amc amw ams amv amr amx amp amq amb amk amz am0 am1 am2 am3 am4 amh amo : Nat} {tn nm na ac gn : Nat} {th vpl vrm vra x0 x1 x2 x3 : Int32} {sd : Int64} {rest : va_W} {s0 x : Int32} (hs : isN 10 s0 = true) (hx : isN 2 x = false) : MI l D [(cI, .int), (cZ, .boolean), (cQ, .object "MulesRemember$State")] yX5_may cX5_may 3 .int ({ frames := 2, cells := 0, slots := 0, locals := 50 } : Room) [.ref aM, .int s0, .int x] ((aM, .inr (5, [.int th, .ref amt, .int (nI tn), .int vpl, .int (nI nm), .ref amc, .int (nI na), .ref amw, .ref ams, .ref amv, .int vrm, .ref amr, .int vra, .ref amx, .ref amp, .ref amq, .ref amb, .int (nI ac), .ref amk, .ref amz, .int (nI gn), .ref am0, .ref am1, .ref am2, .ref am3, .ref am4, .long sd, .ref amh, .int x0, .int x1, .int x2, .int x3, .ref amo])) :: rest) (-2) ((aM, .inr (5, [.int 0, .ref amt, .int (nI tn), .int vpl, .int (nI nm), .ref amc, .int (nI na), .ref amw, .ref ams, .ref amv, .int vrm, .ref amr, .int vra, .ref amx, .ref amp, .ref amq, .ref amb, .int (nI ac), .ref amk, .ref amz, .int (nI gn), .ref am0, .ref am1, .ref am2, .ref am3, .ref am4, .long sd, .ref amh, .int x0, .int x1, .int x2, .int x3, .ref amo])) :: rest) := by
  refine MI.of [.ref aM, .int s0, .int x] (by decide) (Nat.le_of_ble_eq_true rfl) rfl ?_
  intro p e s m below meth c A C0 hr
  refine ww_aload_n C0 dX5_may_0 rfl ?_
  refine ww_iconst (v := (0)) C0 dX5_may_1 rfl ?_
  refine ww_put C0 (ci := 5) (C := RX5) (T := TX5) (N := 33) ku_X5 0 rfl rfl 0 (by decide) tyX5 tyX5_ok nmX5 kw_X5_68 rfl (ty := .int) (by decide +kernel) rfl rfl (Nat.le_of_ble_eq_true rfl) dX5_may_2 ?_
  simp only [List.set_cons_zero, List.set_cons_succ]
  refine ww_iload_n C0 dX5_may_5 rfl ?_
  refine ww_i2l C0 dX5_may_6 ?_
  refine ww_lconst (v := 0) C0 dX5_may_7 rfl ?_
  refine ww_ldc2 C0 kw_X5_117 dX5_may_8 ?_
  refine ww_callSi C0 (c_X5_in0 l D cI cZ cQ 10 (by decide) (by decide)) kd_X5_in kw_X5_75 ks_X5_in ki_X5 hd_X5_in ⟨Nat.le_of_ble_eq_true rfl, Nat.le_of_ble_eq_true rfl, rfl, rfl⟩ (Nat.le_of_ble_eq_true rfl) dX5_may_11 rfl rfl ⟨Nat.zero_le _, Nat.zero_le _⟩ ?_
  refine ww_bif_ne (tgt := 19) C0 dX5_may_14 (by decide) (fun h14 => ?_) (fun h14 => ?_)
  · skip
    refine ww_iload_n C0 dX5_may_19 rfl ?_
    refine ww_i2l C0 dX5_may_20 ?_
    refine ww_lconst (v := 0) C0 dX5_may_21 rfl ?_
    refine ww_lconst (v := 1) C0 dX5_may_22 rfl ?_
    refine ww_callSi C0 (c_X5_in0 l D cI cZ cQ 2 (by decide) (by decide)) kd_X5_in kw_X5_75 ks_X5_in ki_X5 hd_X5_in ⟨Nat.le_of_ble_eq_true rfl, Nat.le_of_ble_eq_true rfl, rfl, rfl⟩ (Nat.le_of_ble_eq_true rfl) dX5_may_23 rfl rfl ⟨Nat.zero_le _, Nat.zero_le _⟩ ?_
    refine ww_bif_ne (tgt := 32) C0 dX5_may_26 (by decide) (fun h26 => ?_) (fun h26 => ?_)
    · skip
      exact absurd hx (by rw [h26]; decide)
    · skip
      refine ww_bipush (v := (-2)) C0 dX5_may_29 rfl ?_
      exact ww_iret C0 hr dX5_may_31 (by rfl) (by rfl)
  · skip
    exact absurd hs (by rw [h14]; decide)

set_option maxHeartbeats 4000000 in
set_option maxRecDepth 100000 in
theorem c_X5_may (l : Launch) (D : va_G) (cI cZ cQ : ClassId) {aM amt amc amw ams amv amr amx amp amq amb amk amz am0 am1 am2 am3 am4 amh amo : Nat} {tn nm na ac gn : Nat} {th vpl vrm vra x0 x1 x2 x3 : Int32} {sd : Int64} {fmt fmc fmw fms fmv fmp fmq fmr fmx fmb fmk fmz fm0 fm1 fm2 fm3 fm4 : Nat → Int32} {rest : va_W} {s0 x : Int32} (hs : isN 10 s0 = true) (hx : isN 2 x = true) (hg : gn ≤ 6) : MI l D [(cI, .int), (cZ, .boolean), (cQ, .object "MulesRemember$State")] yX5_may cX5_may 3 .int ({ frames := 2, cells := 0, slots := 0, locals := 50 } : Room) [.ref aM, .int s0, .int x] ((aM, .inr (5, [.int th, .ref amt, .int (nI tn), .int vpl, .int (nI nm), .ref amc, .int (nI na), .ref amw, .ref ams, .ref amv, .int vrm, .ref amr, .int vra, .ref amx, .ref amp, .ref amq, .ref amb, .int (nI ac), .ref amk, .ref amz, .int (nI gn), .ref am0, .ref am1, .ref am2, .ref am3, .ref am4, .long sd, .ref amh, .int x0, .int x1, .int x2, .int x3, .ref amo])) :: (amt, .inl (cI, 48, .inl (fmt))) :: (amc, .inl (cI, 5, .inl (fmc))) :: (amw, .inl (cI, 5, .inl (fmw))) :: (ams, .inl (cI, 5, .inl (fms))) :: (amv, .inl (cI, 5, .inl (fmv))) :: (amp, .inl (cI, 17, .inl (fmp))) :: (amq, .inl (cI, 17, .inl (fmq))) :: (amr, .inl (cI, 15, .inl (fmr))) :: (amx, .inl (cI, 15, .inl (fmx))) :: (amb, .inl (cI, 238, .inl (fmb))) :: (amk, .inl (cI, 34, .inl (fmk))) :: (amz, .inl (cZ, 2, .inl (fmz))) :: (am0, .inl (cI, 6, .inl (fm0))) :: (am1, .inl (cI, 6, .inl (fm1))) :: (am2, .inl (cI, 6, .inl (fm2))) :: (am3, .inl (cI, 6, .inl (fm3))) :: (am4, .inl (cI, 6, .inl (fm4))) :: rest) (if x = 0 then (sMany (fun t => allB (mAg fm0 fm1 fm2 fm3 fm4 s0 (nI (t / 10)) (nI (t % 10))) gn) (fun t => nI t) (30)).1 else (sMany (fun t => allB (mAg fm0 fm1 fm2 fm3 fm4 s0 (nI (t / 10)) (nI (t % 10))) gn) (fun t => nI t) (30)).2) ((aM, .inr (5, [.int 0, .ref amt, .int (nI tn), .int vpl, .int (nI nm), .ref amc, .int (nI na), .ref amw, .ref ams, .ref amv, .int vrm, .ref amr, .int vra, .ref amx, .ref amp, .ref amq, .ref amb, .int (nI ac), .ref amk, .ref amz, .int (nI gn), .ref am0, .ref am1, .ref am2, .ref am3, .ref am4, .long sd, .ref amh, .int (sMany (fun t => allB (mAg fm0 fm1 fm2 fm3 fm4 s0 (nI (t / 10)) (nI (t % 10))) gn) (fun t => nI t) (30)).1, .int (sMany (fun t => allB (mAg fm0 fm1 fm2 fm3 fm4 s0 (nI (t / 10)) (nI (t % 10))) gn) (fun t => nI t) (30)).2, .int x2, .int x3, .ref amo])) :: (amt, .inl (cI, 48, .inl (fmt))) :: (amc, .inl (cI, 5, .inl (fmc))) :: (amw, .inl (cI, 5, .inl (fmw))) :: (ams, .inl (cI, 5, .inl (fms))) :: (amv, .inl (cI, 5, .inl (fmv))) :: (amp, .inl (cI, 17, .inl (fmp))) :: (amq, .inl (cI, 17, .inl (fmq))) :: (amr, .inl (cI, 15, .inl (fmr))) :: (amx, .inl (cI, 15, .inl (fmx))) :: (amb, .inl (cI, 238, .inl (fmb))) :: (amk, .inl (cI, 34, .inl (fmk))) :: (amz, .inl (cZ, 2, .inl (fmz))) :: (am0, .inl (cI, 6, .inl (fm0))) :: (am1, .inl (cI, 6, .inl (fm1))) :: (am2, .inl (cI, 6, .inl (fm2))) :: (am3, .inl (cI, 6, .inl (fm3))) :: (am4, .inl (cI, 6, .inl (fm4))) :: rest) := by
  refine MI.of [.ref aM, .int s0, .int x] (by decide) (Nat.le_of_ble_eq_true rfl) rfl ?_
  intro p e s m below meth c A C0 hr
  refine ww_aload_n C0 dX5_may_0 rfl ?_
  refine ww_iconst (v := (0)) C0 dX5_may_1 rfl ?_
  refine ww_put C0 (ci := 5) (C := RX5) (T := TX5) (N := 33) ku_X5 0 rfl rfl 0 (by decide) tyX5 tyX5_ok nmX5 kw_X5_68 rfl (ty := .int) (by decide +kernel) rfl rfl (Nat.le_of_ble_eq_true rfl) dX5_may_2 ?_
  simp only [List.set_cons_zero, List.set_cons_succ]
  refine ww_iload_n C0 dX5_may_5 rfl ?_
  refine ww_i2l C0 dX5_may_6 ?_
  refine ww_lconst (v := 0) C0 dX5_may_7 rfl ?_
  refine ww_ldc2 C0 kw_X5_117 dX5_may_8 ?_
  refine ww_callSi C0 (c_X5_in0 l D cI cZ cQ 10 (by decide) (by decide)) kd_X5_in kw_X5_75 ks_X5_in ki_X5 hd_X5_in ⟨Nat.le_of_ble_eq_true rfl, Nat.le_of_ble_eq_true rfl, rfl, rfl⟩ (Nat.le_of_ble_eq_true rfl) dX5_may_11 rfl rfl ⟨Nat.zero_le _, Nat.zero_le _⟩ ?_
  refine ww_bif_ne (tgt := 19) C0 dX5_may_14 (by decide) (fun h14 => ?_) (fun h14 => ?_)
  · skip
    refine ww_iload_n C0 dX5_may_19 rfl ?_
    refine ww_i2l C0 dX5_may_20 ?_
    refine ww_lconst (v := 0) C0 dX5_may_21 rfl ?_
    refine ww_lconst (v := 1) C0 dX5_may_22 rfl ?_
    refine ww_callSi C0 (c_X5_in0 l D cI cZ cQ 2 (by decide) (by decide)) kd_X5_in kw_X5_75 ks_X5_in ki_X5 hd_X5_in ⟨Nat.le_of_ble_eq_true rfl, Nat.le_of_ble_eq_true rfl, rfl, rfl⟩ (Nat.le_of_ble_eq_true rfl) dX5_may_23 rfl rfl ⟨Nat.zero_le _, Nat.zero_le _⟩ ?_
    refine ww_bif_ne (tgt := 32) C0 dX5_may_26 (by decide) (fun h26 => ?_) (fun h26 => ?_)
    · skip
      refine ww_aload_n C0 dX5_may_32 rfl ?_
      refine ww_iload_n C0 dX5_may_33 rfl ?_
      refine ww_callVv C0 (qc := (RX5, TX5, 33)) 0 5 (c_X5_findMay l D cI cZ cQ hg) kd_X5_findMay kw_X5_216 km_X5_findMay kl_X5_findMay ki_X5 hd_X5_findMay rfl rfl ⟨Nat.le_of_ble_eq_true rfl, Nat.le_of_ble_eq_true rfl, rfl, rfl⟩ (Nat.le_of_ble_eq_true rfl) dX5_may_34 rfl rfl rfl ⟨Nat.zero_le _, Nat.zero_le _⟩ ?_
      refine ww_iload_n C0 dX5_may_37 rfl ?_
      refine ww_if_ne (tgt := 48) C0 dX5_may_38 (by decide) (fun h38 => ?_) (fun h38 => ?_)
      · skip
        refine ww_aload_n C0 dX5_may_48 rfl ?_
        refine ww_get C0 (ci := 5) (C := RX5) (T := TX5) (N := 33) ku_X5 0 rfl rfl 29 (by decide) kw_X5_213 rfl dX5_may_49 ?_
        exact ww_iret C0 hr dX5_may_52 (by simp [*]) (by rfl)
      · skip
        refine ww_aload_n C0 dX5_may_41 rfl ?_
        refine ww_get C0 (ci := 5) (C := RX5) (T := TX5) (N := 33) ku_X5 0 rfl rfl 28 (by decide) kw_X5_210 rfl dX5_may_42 ?_
        refine ww_goto (tgt := 52) C0 dX5_may_45 (by decide) ?_
        exact ww_iret C0 hr dX5_may_52 (by simp [*]) (by rfl)
    · skip
      exact absurd hx (by rw [h26]; decide)
  · skip
    exact absurd hs (by rw [h14]; decide)

set_option maxHeartbeats 4000000 in
set_option maxRecDepth 100000 in
theorem c_X5_sent (l : Launch) (D : va_G) (cI cZ cQ : ClassId) {aM amt amc amw ams amv amr amx amp amq amb amk amz am0 am1 am2 am3 am4 amh amo : Nat} {tn nm na ac gn : Nat} {th vpl vrm vra x0 x1 x2 x3 : Int32} {sd : Int64} {fmt fmc fmw fms fmv fmp : Nat → Int32} {rest : va_W} (hnm : nm ≤ 5) (hna : na ≤ 5) : MI l D [(cI, .int), (cZ, .boolean), (cQ, .object "MulesRemember$State")] yX5_sent cX5_sent 3 .int ({ frames := 4, cells := 0, slots := 0, locals := 99 } : Room) [.ref aM] ((aM, .inr (5, [.int th, .ref amt, .int (nI tn), .int vpl, .int (nI nm), .ref amc, .int (nI na), .ref amw, .ref ams, .ref amv, .int vrm, .ref amr, .int vra, .ref amx, .ref amp, .ref amq, .ref amb, .int (nI ac), .ref amk, .ref amz, .int (nI gn), .ref am0, .ref am1, .ref am2, .ref am3, .ref am4, .long sd, .ref amh, .int x0, .int x1, .int x2, .int x3, .ref amo])) :: (amt, .inl (cI, 48, .inl (fmt))) :: (amc, .inl (cI, 5, .inl (fmc))) :: (amw, .inl (cI, 5, .inl (fmw))) :: (ams, .inl (cI, 5, .inl (fms))) :: (amv, .inl (cI, 5, .inl (fmv))) :: (amp, .inl (cI, 17, .inl (fmp))) :: rest) (sumI (fun o => mWorth1 (mTo (fmp o) 1) (mBk nm na fmw fms fmv fmc fmp o 1)) nm) ((aM, .inr (5, [.int th, .ref amt, .int (nI tn), .int vpl, .int (nI nm), .ref amc, .int (nI na), .ref amw, .ref ams, .ref amv, .int vrm, .ref amr, .int vra, .ref amx, .ref amp, .ref amq, .ref amb, .int (nI ac), .ref amk, .ref amz, .int (nI gn), .ref am0, .ref am1, .ref am2, .ref am3, .ref am4, .long sd, .ref amh, .int x0, .int x1, .int x2, .int x3, .ref amo])) :: (amt, .inl (cI, 48, .inl (fmt))) :: (amc, .inl (cI, 5, .inl (fmc))) :: (amw, .inl (cI, 5, .inl (fmw))) :: (ams, .inl (cI, 5, .inl (fms))) :: (amv, .inl (cI, 5, .inl (fmv))) :: (amp, .inl (cI, 17, .inl (fmp))) :: rest) := by
  refine MI.of [.ref aM, .null, .null] (by decide) (Nat.le_of_ble_eq_true rfl) rfl ?_
  intro p e s m below meth c A C0 hr
  refine ww_iconst (v := (0)) C0 dX5_sent_0 rfl ?_
  refine ww_istore_n (i := 1) C0 dX5_sent_1 rfl (Nat.le_of_ble_eq_true rfl) rfl ?_
  simp only [List.set_cons_zero, List.set_cons_succ]
  refine ww_iconst (v := (0)) C0 dX5_sent_2 rfl ?_
  refine ww_istore_n (i := 2) C0 dX5_sent_3 rfl (Nat.le_of_ble_eq_true rfl) rfl ?_
  simp only [List.set_cons_zero, List.set_cons_succ]
  refine ww_back (ww_loop (pc := 4) 0 (nm) (by omega) (fun j => [_, .int (sumI (fun o => mWorth1 (mTo (fmp o) 1) (mBk nm na fmw fms fmv fmc fmp o 1)) j), .int (nI j)]) (fun j => _) ?_ ?_) ⟨Or.inr rfl, Or.inr rfl, Or.inr rfl, trivial⟩ (by rfl)
  · intro j hj0 hj ih
    refine ww_iload_n C0 dX5_sent_4 rfl ?_
    refine ww_aload_n C0 dX5_sent_5 rfl ?_
    refine ww_get C0 (ci := 5) (C := RX5) (T := TX5) (N := 33) ku_X5 0 rfl rfl 4 (by decide) kw_X5_72 rfl dX5_sent_6 ?_
    refine ww_icmp_ge (tgt := 57) C0 dX5_sent_9 (by decide) (fun h9 => ?_) (fun h9 => ?_)
    · skip
      replace h9 := (nI_leE (a := nm) (b := j) rfl rfl (by omega) (by omega)).mp h9
      exfalso; omega
    · skip
      replace h9 := (not_congr (nI_leE (a := nm) (b := j) rfl rfl (by omega) (by omega))).mp h9
      refine ww_iload_n C0 dX5_sent_12 rfl ?_
      refine ww_aload_n C0 dX5_sent_13 rfl ?_
      refine ww_get C0 (ci := 5) (C := RX5) (T := TX5) (N := 33) ku_X5 0 rfl rfl 14 (by decide) kw_X5_31 rfl dX5_sent_14 ?_
      refine ww_iload_n C0 dX5_sent_17 rfl ?_
      refine ww_iconst (v := (1)) C0 dX5_sent_18 rfl ?_
      refine ww_callSi C0 (c_X5_toStone l D cI cZ cQ (by omega)) kd_X5_toStone kw_X5_119 ks_X5_toStone ki_X5 hd_X5_toStone ⟨Nat.le_of_ble_eq_true rfl, Nat.le_of_ble_eq_true rfl, rfl, rfl⟩ (Nat.le_of_ble_eq_true rfl) dX5_sent_19 rfl rfl ⟨Nat.zero_le _, Nat.zero_le _⟩ ?_
      refine ww_bipush (v := (-9)) C0 dX5_sent_22 rfl ?_
      refine ww_icmp_ne (tgt := 31) C0 dX5_sent_24 (by decide) (fun h24 => ?_) (fun h24 => ?_)
      · skip
        refine ww_aload_n C0 dX5_sent_31 rfl ?_
        refine ww_aload_n C0 dX5_sent_32 rfl ?_
        refine ww_get C0 (ci := 5) (C := RX5) (T := TX5) (N := 33) ku_X5 0 rfl rfl 14 (by decide) kw_X5_31 rfl dX5_sent_33 ?_
        refine ww_iload_n C0 dX5_sent_36 rfl ?_
        refine ww_iconst (v := (1)) C0 dX5_sent_37 rfl ?_
        refine ww_callVi C0 (qc := (RX5, TX5, 33)) 0 5 (c_X5_isBalking l D cI cZ cQ hnm hna hj) kd_X5_isBalking kw_X5_164 km_X5_isBalking kl_X5_isBalking ki_X5 hd_X5_isBalking rfl rfl ⟨Nat.le_of_ble_eq_true rfl, Nat.le_of_ble_eq_true rfl, rfl, rfl⟩ (Nat.le_of_ble_eq_true rfl) dX5_sent_38 rfl rfl rfl ⟨Nat.zero_le _, Nat.zero_le _⟩ ?_
        refine ww_bif_eq (tgt := 48) C0 dX5_sent_41 (by decide) (fun h41 => ?_) (fun h41 => ?_)
        · skip
          refine ww_iconst (v := (1)) C0 dX5_sent_48 rfl ?_
          refine ww_top (v' := mWorth1 (mTo (fmp j) 1) (mBk nm na fmw fms fmv fmc fmp j 1)) (by simp [mWorth1, *]) ?_
          refine ww_iadd C0 dX5_sent_49 ?_
          refine ww_istore_n (i := 1) C0 dX5_sent_50 rfl (Nat.le_of_ble_eq_true rfl) rfl ?_
          simp only [List.set_cons_zero, List.set_cons_succ]
          refine ww_iinc (d := 1) C0 dX5_sent_51 rfl rfl rfl ?_
          simp only [List.set_cons_zero, List.set_cons_succ]
          refine ww_goto (tgt := 4) C0 dX5_sent_54 (by decide) ?_
          exact ww_back ih ⟨Or.inr rfl, Or.inr rfl, Or.inr (congrArg Value.int (nI_addE (a := j) (b := 1) rfl rfl).symm), trivial⟩ (by rfl)
        · skip
          refine ww_iconst (v := (-1)) C0 dX5_sent_44 rfl ?_
          refine ww_goto (tgt := 49) C0 dX5_sent_45 (by decide) ?_
          refine ww_top (v' := mWorth1 (mTo (fmp j) 1) (mBk nm na fmw fms fmv fmc fmp j 1)) (by simp [mWorth1, *]) ?_
          refine ww_iadd C0 dX5_sent_49 ?_
          refine ww_istore_n (i := 1) C0 dX5_sent_50 rfl (Nat.le_of_ble_eq_true rfl) rfl ?_
          simp only [List.set_cons_zero, List.set_cons_succ]
          refine ww_iinc (d := 1) C0 dX5_sent_51 rfl rfl rfl ?_
          simp only [List.set_cons_zero, List.set_cons_succ]
          refine ww_goto (tgt := 4) C0 dX5_sent_54 (by decide) ?_
          exact ww_back ih ⟨Or.inr rfl, Or.inr rfl, Or.inr (congrArg Value.int (nI_addE (a := j) (b := 1) rfl rfl).symm), trivial⟩ (by rfl)
      · skip
        refine ww_iconst (v := (0)) C0 dX5_sent_27 rfl ?_
        refine ww_goto (tgt := 49) C0 dX5_sent_28 (by decide) ?_
        refine ww_top (v' := mWorth1 (mTo (fmp j) 1) (mBk nm na fmw fms fmv fmc fmp j 1)) (by simp [mWorth1, *]) ?_
        refine ww_iadd C0 dX5_sent_49 ?_
        refine ww_istore_n (i := 1) C0 dX5_sent_50 rfl (Nat.le_of_ble_eq_true rfl) rfl ?_
        simp only [List.set_cons_zero, List.set_cons_succ]
        refine ww_iinc (d := 1) C0 dX5_sent_51 rfl rfl rfl ?_
        simp only [List.set_cons_zero, List.set_cons_succ]
        refine ww_goto (tgt := 4) C0 dX5_sent_54 (by decide) ?_
        exact ww_back ih ⟨Or.inr rfl, Or.inr rfl, Or.inr (congrArg Value.int (nI_addE (a := j) (b := 1) rfl rfl).symm), trivial⟩ (by rfl)
  · skip
    refine ww_iload_n C0 dX5_sent_4 rfl ?_
    refine ww_aload_n C0 dX5_sent_5 rfl ?_
    refine ww_get C0 (ci := 5) (C := RX5) (T := TX5) (N := 33) ku_X5 0 rfl rfl 4 (by decide) kw_X5_72 rfl dX5_sent_6 ?_
    refine ww_icmp_ge (tgt := 57) C0 dX5_sent_9 (by decide) (fun h9 => ?_) (fun h9 => ?_)
    · skip
      replace h9 := (nI_leE (a := nm) (b := nm) rfl rfl (by omega) (by omega)).mp h9
      refine ww_iload_n C0 dX5_sent_57 rfl ?_
      exact ww_iret C0 hr dX5_sent_58 (by rfl) (by rfl)
    · skip
      replace h9 := (not_congr (nI_leE (a := nm) (b := nm) rfl rfl (by omega) (by omega))).mp h9
      exfalso; omega

set_option maxHeartbeats 4000000 in
set_option maxRecDepth 100000 in
theorem c_X5_rests_b (l : Launch) (D : va_G) (cI cZ cQ : ClassId) {aM amt amc amw ams amv amr amx amp amq amb amk amz am0 am1 am2 am3 am4 amh amo : Nat} {tn nm na ac gn : Nat} {th vpl vrm vra x0 x1 x2 x3 : Int32} {sd : Int64} {rest : va_W} {x : Int32} (hx : isN 2 x = false) : MI l D [(cI, .int), (cZ, .boolean), (cQ, .object "MulesRemember$State")] yX5_rests cX5_rests 6 .int ({ frames := 5, cells := 0, slots := 0, locals := 121 } : Room) [.ref aM, .int x] ((aM, .inr (5, [.int th, .ref amt, .int (nI tn), .int vpl, .int (nI nm), .ref amc, .int (nI na), .ref amw, .ref ams, .ref amv, .int vrm, .ref amr, .int vra, .ref amx, .ref amp, .ref amq, .ref amb, .int (nI ac), .ref amk, .ref amz, .int (nI gn), .ref am0, .ref am1, .ref am2, .ref am3, .ref am4, .long sd, .ref amh, .int x0, .int x1, .int x2, .int x3, .ref amo])) :: rest) (-2) ((aM, .inr (5, [.int 0, .ref amt, .int (nI tn), .int vpl, .int (nI nm), .ref amc, .int (nI na), .ref amw, .ref ams, .ref amv, .int vrm, .ref amr, .int vra, .ref amx, .ref amp, .ref amq, .ref amb, .int (nI ac), .ref amk, .ref amz, .int (nI gn), .ref am0, .ref am1, .ref am2, .ref am3, .ref am4, .long sd, .ref amh, .int x0, .int x1, .int x2, .int x3, .ref amo])) :: rest) := by
  refine MI.of [.ref aM, .int x, .null, .null, .null, .null] (by decide) (Nat.le_of_ble_eq_true rfl) rfl ?_
  intro p e s m below meth c A C0 hr
  refine ww_aload_n C0 dX5_rests_0 rfl ?_
  refine ww_iconst (v := (0)) C0 dX5_rests_1 rfl ?_
  refine ww_put C0 (ci := 5) (C := RX5) (T := TX5) (N := 33) ku_X5 0 rfl rfl 0 (by decide) tyX5 tyX5_ok nmX5 kw_X5_68 rfl (ty := .int) (by decide +kernel) rfl rfl (Nat.le_of_ble_eq_true rfl) dX5_rests_2 ?_
  simp only [List.set_cons_zero, List.set_cons_succ]
  refine ww_iload_n C0 dX5_rests_5 rfl ?_
  refine ww_i2l C0 dX5_rests_6 ?_
  refine ww_lconst (v := 0) C0 dX5_rests_7 rfl ?_
  refine ww_lconst (v := 1) C0 dX5_rests_8 rfl ?_
  refine ww_callSi C0 (c_X5_in0 l D cI cZ cQ 2 (by decide) (by decide)) kd_X5_in kw_X5_75 ks_X5_in ki_X5 hd_X5_in ⟨Nat.le_of_ble_eq_true rfl, Nat.le_of_ble_eq_true rfl, rfl, rfl⟩ (Nat.le_of_ble_eq_true rfl) dX5_rests_9 rfl rfl ⟨Nat.zero_le _, Nat.zero_le _⟩ ?_
  refine ww_bif_ne (tgt := 18) C0 dX5_rests_12 (by decide) (fun h12 => ?_) (fun h12 => ?_)
  · skip
    exact absurd hx (by rw [h12]; decide)
  · skip
    refine ww_bipush (v := (-2)) C0 dX5_rests_15 rfl ?_
    exact ww_iret C0 hr dX5_rests_17 (by rfl) (by rfl)

set_option maxHeartbeats 4000000 in
set_option maxRecDepth 100000 in
theorem c_X5_rests (l : Launch) (D : va_G) (cI cZ cQ : ClassId) {aM amt amc amw ams amv amr amx amp amq amb amk amz am0 am1 am2 am3 am4 amh amo : Nat} {tn nm na ac gn : Nat} {th vpl vrm vra x0 x1 x2 x3 : Int32} {sd : Int64} {fmt fmc fmw fms fmv fmp : Nat → Int32} {rest : va_W} {x al : Int32} (hnm : nm ≤ 5) (hna : na ≤ 5) (hx : isN 2 x = true) (hal : sumI (fun o => mWorth1 (mTo (fmp o) 1) (mBk nm na fmw fms fmv fmc fmp o 1)) nm = al) : MI l D [(cI, .int), (cZ, .boolean), (cQ, .object "MulesRemember$State")] yX5_rests cX5_rests 6 .int ({ frames := 5, cells := 0, slots := 0, locals := 121 } : Room) [.ref aM, .int x] ((aM, .inr (5, [.int th, .ref amt, .int (nI tn), .int vpl, .int (nI nm), .ref amc, .int (nI na), .ref amw, .ref ams, .ref amv, .int vrm, .ref amr, .int vra, .ref amx, .ref amp, .ref amq, .ref amb, .int (nI ac), .ref amk, .ref amz, .int (nI gn), .ref am0, .ref am1, .ref am2, .ref am3, .ref am4, .long sd, .ref amh, .int x0, .int x1, .int x2, .int x3, .ref amo])) :: (amt, .inl (cI, 48, .inl (fmt))) :: (amc, .inl (cI, 5, .inl (fmc))) :: (amw, .inl (cI, 5, .inl (fmw))) :: (ams, .inl (cI, 5, .inl (fms))) :: (amv, .inl (cI, 5, .inl (fmv))) :: (amp, .inl (cI, 17, .inl (fmp))) :: rest) (if x = 0 then (sMany (fun t => mRest al (nI (t / 2)) (nI (t % 2))) (fun t => 10 * nI (t / 2) + nI (t % 2)) (4)).1 else (sMany (fun t => mRest al (nI (t / 2)) (nI (t % 2))) (fun t => 10 * nI (t / 2) + nI (t % 2)) (4)).2) ((aM, .inr (5, [.int 0, .ref amt, .int (nI tn), .int vpl, .int (nI nm), .ref amc, .int (nI na), .ref amw, .ref ams, .ref amv, .int vrm, .ref amr, .int vra, .ref amx, .ref amp, .ref amq, .ref amb, .int (nI ac), .ref amk, .ref amz, .int (nI gn), .ref am0, .ref am1, .ref am2, .ref am3, .ref am4, .long sd, .ref amh, .int x0, .int x1, .int (sMany (fun t => mRest al (nI (t / 2)) (nI (t % 2))) (fun t => 10 * nI (t / 2) + nI (t % 2)) (4)).1, .int (sMany (fun t => mRest al (nI (t / 2)) (nI (t % 2))) (fun t => 10 * nI (t / 2) + nI (t % 2)) (4)).2, .ref amo])) :: (amt, .inl (cI, 48, .inl (fmt))) :: (amc, .inl (cI, 5, .inl (fmc))) :: (amw, .inl (cI, 5, .inl (fmw))) :: (ams, .inl (cI, 5, .inl (fms))) :: (amv, .inl (cI, 5, .inl (fmv))) :: (amp, .inl (cI, 17, .inl (fmp))) :: rest) := by
  refine MI.of [.ref aM, .int x, .null, .null, .null, .null] (by decide) (Nat.le_of_ble_eq_true rfl) rfl ?_
  intro p e s m below meth c A C0 hr
  refine ww_aload_n C0 dX5_rests_0 rfl ?_
  refine ww_iconst (v := (0)) C0 dX5_rests_1 rfl ?_
  refine ww_put C0 (ci := 5) (C := RX5) (T := TX5) (N := 33) ku_X5 0 rfl rfl 0 (by decide) tyX5 tyX5_ok nmX5 kw_X5_68 rfl (ty := .int) (by decide +kernel) rfl rfl (Nat.le_of_ble_eq_true rfl) dX5_rests_2 ?_
  simp only [List.set_cons_zero, List.set_cons_succ]
  refine ww_iload_n C0 dX5_rests_5 rfl ?_
  refine ww_i2l C0 dX5_rests_6 ?_
  refine ww_lconst (v := 0) C0 dX5_rests_7 rfl ?_
  refine ww_lconst (v := 1) C0 dX5_rests_8 rfl ?_
  refine ww_callSi C0 (c_X5_in0 l D cI cZ cQ 2 (by decide) (by decide)) kd_X5_in kw_X5_75 ks_X5_in ki_X5 hd_X5_in ⟨Nat.le_of_ble_eq_true rfl, Nat.le_of_ble_eq_true rfl, rfl, rfl⟩ (Nat.le_of_ble_eq_true rfl) dX5_rests_9 rfl rfl ⟨Nat.zero_le _, Nat.zero_le _⟩ ?_
  refine ww_bif_ne (tgt := 18) C0 dX5_rests_12 (by decide) (fun h12 => ?_) (fun h12 => ?_)
  · skip
    refine ww_aload_n C0 dX5_rests_18 rfl ?_
    refine ww_callVi C0 (qc := (RX5, TX5, 33)) 0 5 (c_X5_sent l D cI cZ cQ hnm hna) kd_X5_sent kw_X5_220 km_X5_sent kl_X5_sent ki_X5 hd_X5_sent rfl rfl ⟨Nat.le_of_ble_eq_true rfl, Nat.le_of_ble_eq_true rfl, rfl, rfl⟩ (Nat.le_of_ble_eq_true rfl) dX5_rests_19 rfl rfl rfl ⟨Nat.zero_le _, Nat.zero_le _⟩ ?_
    refine ww_top (v' := al) hal ?_
    refine ww_istore_n (i := 2) C0 dX5_rests_22 rfl (Nat.le_of_ble_eq_true rfl) rfl ?_
    simp only [List.set_cons_zero, List.set_cons_succ]
    refine ww_aload_n C0 dX5_rests_23 rfl ?_
    refine ww_iconst (v := (0)) C0 dX5_rests_24 rfl ?_
    refine ww_put C0 (ci := 5) (C := RX5) (T := TX5) (N := 33) ku_X5 0 rfl rfl 30 (by decide) tyX5 tyX5_ok nmX5 kw_X5_223 rfl (ty := .int) (by decide +kernel) rfl rfl (Nat.le_of_ble_eq_true rfl) dX5_rests_25 ?_
    simp only [List.set_cons_zero, List.set_cons_succ]
    refine ww_aload_n C0 dX5_rests_28 rfl ?_
    refine ww_bipush (v := (-9)) C0 dX5_rests_29 rfl ?_
    refine ww_put C0 (ci := 5) (C := RX5) (T := TX5) (N := 33) ku_X5 0 rfl rfl 31 (by decide) tyX5 tyX5_ok nmX5 kw_X5_226 rfl (ty := .int) (by decide +kernel) rfl rfl (Nat.le_of_ble_eq_true rfl) dX5_rests_31 ?_
    simp only [List.set_cons_zero, List.set_cons_succ]
    refine ww_iconst (v := (0)) C0 dX5_rests_34 rfl ?_
    refine ww_istore_n (i := 3) C0 dX5_rests_35 rfl (Nat.le_of_ble_eq_true rfl) rfl ?_
    simp only [List.set_cons_zero, List.set_cons_succ]
    clear hal
    refine ww_back (ww_loop (pc := 36) 0 (2) (by omega) (fun j => [_, _, _, .int (nI j), .null, .null]) (fun j => (aM, .inr (5, [.int 0, .ref amt, .int (nI tn), .int vpl, .int (nI nm), .ref amc, .int (nI na), .ref amw, .ref ams, .ref amv, .int vrm, .ref amr, .int vra, .ref amx, .ref amp, .ref amq, .ref amb, .int (nI ac), .ref amk, .ref amz, .int (nI gn), .ref am0, .ref am1, .ref am2, .ref am3, .ref am4, .long sd, .ref amh, .int x0, .int x1, .int (sMany (fun t => mRest al (nI (t / 2)) (nI (t % 2))) (fun t => 10 * nI (t / 2) + nI (t % 2)) (2 * j)).1, .int (sMany (fun t => mRest al (nI (t / 2)) (nI (t % 2))) (fun t => 10 * nI (t / 2) + nI (t % 2)) (2 * j)).2, .ref amo])) :: (amt, .inl (cI, 48, .inl (fmt))) :: (amc, .inl (cI, 5, .inl (fmc))) :: (amw, .inl (cI, 5, .inl (fmw))) :: (ams, .inl (cI, 5, .inl (fms))) :: (amv, .inl (cI, 5, .inl (fmv))) :: (amp, .inl (cI, 17, .inl (fmp))) :: rest) ?_ ?_) ⟨Or.inr rfl, Or.inr rfl, Or.inr rfl, Or.inr rfl, Or.inl rfl, Or.inl rfl, trivial⟩ (by rfl)
    · intro j hj0 hj ih
      refine ww_iload_n C0 dX5_rests_36 rfl ?_
      refine ww_iconst (v := (2)) C0 dX5_rests_37 rfl ?_
      refine ww_icmp_ge (tgt := 156) C0 dX5_rests_38 (by decide) (fun h38 => ?_) (fun h38 => ?_)
      · skip
        replace h38 := (nI_leE (a := 2) (b := j) rfl rfl (by omega) (by omega)).mp h38
        exfalso; omega
      · skip
        replace h38 := (not_congr (nI_leE (a := 2) (b := j) rfl rfl (by omega) (by omega))).mp h38
        refine ww_iconst (v := (0)) C0 dX5_rests_41 rfl ?_
        refine ww_istore (i := 4) C0 dX5_rests_42 (Nat.le_of_ble_eq_true rfl) rfl ?_
        simp only [List.set_cons_zero, List.set_cons_succ]
        refine ww_back (ww_loop (pc := 44) 0 (2) (by omega) (fun i => [_, _, _, _, .int (nI i), .null]) (fun i => (aM, .inr (5, [.int 0, .ref amt, .int (nI tn), .int vpl, .int (nI nm), .ref amc, .int (nI na), .ref amw, .ref ams, .ref amv, .int vrm, .ref amr, .int vra, .ref amx, .ref amp, .ref amq, .ref amb, .int (nI ac), .ref amk, .ref amz, .int (nI gn), .ref am0, .ref am1, .ref am2, .ref am3, .ref am4, .long sd, .ref amh, .int x0, .int x1, .int (sMany (fun t => mRest al (nI (t / 2)) (nI (t % 2))) (fun t => 10 * nI (t / 2) + nI (t % 2)) (2 * j + i)).1, .int (sMany (fun t => mRest al (nI (t / 2)) (nI (t % 2))) (fun t => 10 * nI (t / 2) + nI (t % 2)) (2 * j + i)).2, .ref amo])) :: (amt, .inl (cI, 48, .inl (fmt))) :: (amc, .inl (cI, 5, .inl (fmc))) :: (amw, .inl (cI, 5, .inl (fmw))) :: (ams, .inl (cI, 5, .inl (fms))) :: (amv, .inl (cI, 5, .inl (fmv))) :: (amp, .inl (cI, 17, .inl (fmp))) :: rest) ?_ ?_) ⟨Or.inr rfl, Or.inr rfl, Or.inr rfl, Or.inr rfl, Or.inr rfl, Or.inl rfl, trivial⟩ (by rfl)
        · intro i hj0 hj ih
          refine ww_iload C0 dX5_rests_44 rfl ?_
          refine ww_iconst (v := (2)) C0 dX5_rests_46 rfl ?_
          refine ww_icmp_ge (tgt := 150) C0 dX5_rests_47 (by decide) (fun h47 => ?_) (fun h47 => ?_)
          · skip
            replace h47 := (nI_leE (a := 2) (b := i) rfl rfl (by omega) (by omega)).mp h47
            exfalso; omega
          · skip
            replace h47 := (not_congr (nI_leE (a := 2) (b := i) rfl rfl (by omega) (by omega))).mp h47
            refine ww_iload_n C0 dX5_rests_50 rfl ?_
            have e1 : (2 * j + i) / 2 = j := by omega
            have e2 : (2 * j + i) % 2 = i := by omega
            refine ww_iconst (v := (1)) C0 dX5_rests_51 rfl ?_
            refine ww_iload_n C0 dX5_rests_52 rfl ?_
            refine ww_isub C0 dX5_rests_53 ?_
            refine ww_iload C0 dX5_rests_54 rfl ?_
            refine ww_callSi C0 (c_X5_gain l D cI cZ cQ) kd_X5_gain kw_X5_229 ks_X5_gain ki_X5 hd_X5_gain ⟨Nat.le_of_ble_eq_true rfl, Nat.le_of_ble_eq_true rfl, rfl, rfl⟩ (Nat.le_of_ble_eq_true rfl) dX5_rests_56 rfl rfl ⟨Nat.zero_le _, Nat.zero_le _⟩ ?_
            refine ww_iload_n C0 dX5_rests_59 rfl ?_
            refine ww_iload_n C0 dX5_rests_60 rfl ?_
            refine ww_iload C0 dX5_rests_61 rfl ?_
            refine ww_callSi C0 (c_X5_gain l D cI cZ cQ) kd_X5_gain kw_X5_229 ks_X5_gain ki_X5 hd_X5_gain ⟨Nat.le_of_ble_eq_true rfl, Nat.le_of_ble_eq_true rfl, rfl, rfl⟩ (Nat.le_of_ble_eq_true rfl) dX5_rests_63 rfl rfl ⟨Nat.zero_le _, Nat.zero_le _⟩ ?_
            refine ww_icmp_gt (tgt := 92) C0 dX5_rests_66 (by decide) (fun h66 => ?_) (fun h66 => ?_)
            · skip
              refine ww_iconst (v := (0)) C0 dX5_rests_92 rfl ?_
              refine ww_top (v' := bI (mRest al (nI j) (nI i))) (by first | (simp [mRest, *]; done) | (simp [mRest, *]; rfl)) ?_
              refine ww_istore (i := 5) C0 dX5_rests_93 (Nat.le_of_ble_eq_true rfl) rfl ?_
              simp only [List.set_cons_zero, List.set_cons_succ]
              refine ww_aload_n C0 dX5_rests_95 rfl ?_
              refine ww_iload C0 dX5_rests_96 rfl ?_
              refine ww_bif_eq (tgt := 118) C0 dX5_rests_98 (by decide) (fun h98 => ?_) (fun h98 => ?_)
              · skip
                refine ww_aload_n C0 dX5_rests_118 rfl ?_
                refine ww_get C0 (ci := 5) (C := RX5) (T := TX5) (N := 33) ku_X5 0 rfl rfl 31 (by decide) kw_X5_226 rfl dX5_rests_119 ?_
                refine ww_top (v' := (sMany (fun t => mRest al (nI (t / 2)) (nI (t % 2))) (fun t => 10 * nI (t / 2) + nI (t % 2)) (2 * j + i + 1)).2) (by simp only [sMany_2, e1, e2]; first | (simp [h98, h105]; done) | (simp [h98]; done)) ?_
                refine ww_put C0 (ci := 5) (C := RX5) (T := TX5) (N := 33) ku_X5 0 rfl rfl 31 (by decide) tyX5 tyX5_ok nmX5 kw_X5_226 rfl (ty := .int) (by decide +kernel) rfl rfl (Nat.le_of_ble_eq_true rfl) dX5_rests_122 ?_
                simp only [List.set_cons_zero, List.set_cons_succ]
                refine ww_aload_n C0 dX5_rests_125 rfl ?_
                refine ww_dup C0 dX5_rests_126 rfl ?_
                refine ww_get C0 (ci := 5) (C := RX5) (T := TX5) (N := 33) ku_X5 0 rfl rfl 30 (by decide) kw_X5_223 rfl dX5_rests_127 ?_
                refine ww_iload C0 dX5_rests_130 rfl ?_
                refine ww_bif_eq (tgt := 139) C0 dX5_rests_132 (by decide) (fun h132 => ?_) (fun h132 => ?_)
                · skip
                  refine ww_iconst (v := (0)) C0 dX5_rests_139 rfl ?_
                  refine ww_iadd C0 dX5_rests_140 ?_
                  refine ww_top (v' := (sMany (fun t => mRest al (nI (t / 2)) (nI (t % 2))) (fun t => 10 * nI (t / 2) + nI (t % 2)) (2 * j + i + 1)).1) (by simp only [sMany_1, e1, e2]; simp [h132]) ?_
                  refine ww_put C0 (ci := 5) (C := RX5) (T := TX5) (N := 33) ku_X5 0 rfl rfl 30 (by decide) tyX5 tyX5_ok nmX5 kw_X5_223 rfl (ty := .int) (by decide +kernel) rfl rfl (Nat.le_of_ble_eq_true rfl) dX5_rests_141 ?_
                  simp only [List.set_cons_zero, List.set_cons_succ]
                  refine ww_iinc (d := 1) C0 dX5_rests_144 rfl rfl rfl ?_
                  simp only [List.set_cons_zero, List.set_cons_succ]
                  refine ww_goto (tgt := 44) C0 dX5_rests_147 (by decide) ?_
                  exact ww_back ih ⟨Or.inr rfl, Or.inr rfl, Or.inr rfl, Or.inr rfl, Or.inr (congrArg Value.int (nI_addE (a := i) (b := 1) rfl rfl).symm), Or.inl rfl, trivial⟩ (by rfl)
                · skip
                  refine ww_iconst (v := (1)) C0 dX5_rests_135 rfl ?_
                  refine ww_goto (tgt := 140) C0 dX5_rests_136 (by decide) ?_
                  refine ww_iadd C0 dX5_rests_140 ?_
                  refine ww_top (v' := (sMany (fun t => mRest al (nI (t / 2)) (nI (t % 2))) (fun t => 10 * nI (t / 2) + nI (t % 2)) (2 * j + i + 1)).1) (by simp only [sMany_1, e1, e2]; simp [h132]) ?_
                  refine ww_put C0 (ci := 5) (C := RX5) (T := TX5) (N := 33) ku_X5 0 rfl rfl 30 (by decide) tyX5 tyX5_ok nmX5 kw_X5_223 rfl (ty := .int) (by decide +kernel) rfl rfl (Nat.le_of_ble_eq_true rfl) dX5_rests_141 ?_
                  simp only [List.set_cons_zero, List.set_cons_succ]
                  refine ww_iinc (d := 1) C0 dX5_rests_144 rfl rfl rfl ?_
                  simp only [List.set_cons_zero, List.set_cons_succ]
                  refine ww_goto (tgt := 44) C0 dX5_rests_147 (by decide) ?_
                  exact ww_back ih ⟨Or.inr rfl, Or.inr rfl, Or.inr rfl, Or.inr rfl, Or.inr (congrArg Value.int (nI_addE (a := i) (b := 1) rfl rfl).symm), Or.inl rfl, trivial⟩ (by rfl)
              · skip
                refine ww_aload_n C0 dX5_rests_101 rfl ?_
                refine ww_get C0 (ci := 5) (C := RX5) (T := TX5) (N := 33) ku_X5 0 rfl rfl 30 (by decide) kw_X5_223 rfl dX5_rests_102 ?_
                refine ww_if_ne (tgt := 118) C0 dX5_rests_105 (by decide) (fun h105 => ?_) (fun h105 => ?_)
                · skip
                  refine ww_aload_n C0 dX5_rests_118 rfl ?_
                  refine ww_get C0 (ci := 5) (C := RX5) (T := TX5) (N := 33) ku_X5 0 rfl rfl 31 (by decide) kw_X5_226 rfl dX5_rests_119 ?_
                  refine ww_top (v' := (sMany (fun t => mRest al (nI (t / 2)) (nI (t % 2))) (fun t => 10 * nI (t / 2) + nI (t % 2)) (2 * j + i + 1)).2) (by simp only [sMany_2, e1, e2]; first | (simp [h98, h105]; done) | (simp [h98]; done)) ?_
                  refine ww_put C0 (ci := 5) (C := RX5) (T := TX5) (N := 33) ku_X5 0 rfl rfl 31 (by decide) tyX5 tyX5_ok nmX5 kw_X5_226 rfl (ty := .int) (by decide +kernel) rfl rfl (Nat.le_of_ble_eq_true rfl) dX5_rests_122 ?_
                  simp only [List.set_cons_zero, List.set_cons_succ]
                  refine ww_aload_n C0 dX5_rests_125 rfl ?_
                  refine ww_dup C0 dX5_rests_126 rfl ?_
                  refine ww_get C0 (ci := 5) (C := RX5) (T := TX5) (N := 33) ku_X5 0 rfl rfl 30 (by decide) kw_X5_223 rfl dX5_rests_127 ?_
                  refine ww_iload C0 dX5_rests_130 rfl ?_
                  refine ww_bif_eq (tgt := 139) C0 dX5_rests_132 (by decide) (fun h132 => ?_) (fun h132 => ?_)
                  · skip
                    refine ww_iconst (v := (0)) C0 dX5_rests_139 rfl ?_
                    refine ww_iadd C0 dX5_rests_140 ?_
                    refine ww_top (v' := (sMany (fun t => mRest al (nI (t / 2)) (nI (t % 2))) (fun t => 10 * nI (t / 2) + nI (t % 2)) (2 * j + i + 1)).1) (by simp only [sMany_1, e1, e2]; simp [h132]) ?_
                    refine ww_put C0 (ci := 5) (C := RX5) (T := TX5) (N := 33) ku_X5 0 rfl rfl 30 (by decide) tyX5 tyX5_ok nmX5 kw_X5_223 rfl (ty := .int) (by decide +kernel) rfl rfl (Nat.le_of_ble_eq_true rfl) dX5_rests_141 ?_
                    simp only [List.set_cons_zero, List.set_cons_succ]
                    refine ww_iinc (d := 1) C0 dX5_rests_144 rfl rfl rfl ?_
                    simp only [List.set_cons_zero, List.set_cons_succ]
                    refine ww_goto (tgt := 44) C0 dX5_rests_147 (by decide) ?_
                    exact ww_back ih ⟨Or.inr rfl, Or.inr rfl, Or.inr rfl, Or.inr rfl, Or.inr (congrArg Value.int (nI_addE (a := i) (b := 1) rfl rfl).symm), Or.inl rfl, trivial⟩ (by rfl)
                  · skip
                    refine ww_iconst (v := (1)) C0 dX5_rests_135 rfl ?_
                    refine ww_goto (tgt := 140) C0 dX5_rests_136 (by decide) ?_
                    refine ww_iadd C0 dX5_rests_140 ?_
                    refine ww_top (v' := (sMany (fun t => mRest al (nI (t / 2)) (nI (t % 2))) (fun t => 10 * nI (t / 2) + nI (t % 2)) (2 * j + i + 1)).1) (by simp only [sMany_1, e1, e2]; simp [h132]) ?_
                    refine ww_put C0 (ci := 5) (C := RX5) (T := TX5) (N := 33) ku_X5 0 rfl rfl 30 (by decide) tyX5 tyX5_ok nmX5 kw_X5_223 rfl (ty := .int) (by decide +kernel) rfl rfl (Nat.le_of_ble_eq_true rfl) dX5_rests_141 ?_
                    simp only [List.set_cons_zero, List.set_cons_succ]
                    refine ww_iinc (d := 1) C0 dX5_rests_144 rfl rfl rfl ?_
                    simp only [List.set_cons_zero, List.set_cons_succ]
                    refine ww_goto (tgt := 44) C0 dX5_rests_147 (by decide) ?_
                    exact ww_back ih ⟨Or.inr rfl, Or.inr rfl, Or.inr rfl, Or.inr rfl, Or.inr (congrArg Value.int (nI_addE (a := i) (b := 1) rfl rfl).symm), Or.inl rfl, trivial⟩ (by rfl)
                · skip
                  refine ww_bipush (v := (10)) C0 dX5_rests_108 rfl ?_
                  refine ww_iload_n C0 dX5_rests_110 rfl ?_
                  refine ww_imul C0 dX5_rests_111 ?_
                  refine ww_iload C0 dX5_rests_112 rfl ?_
                  refine ww_iadd C0 dX5_rests_114 ?_
                  refine ww_goto (tgt := 122) C0 dX5_rests_115 (by decide) ?_
                  refine ww_top (v' := (sMany (fun t => mRest al (nI (t / 2)) (nI (t % 2))) (fun t => 10 * nI (t / 2) + nI (t % 2)) (2 * j + i + 1)).2) (by simp only [sMany_2, e1, e2]; first | (simp [h98, h105]; done) | (simp [h98]; done)) ?_
                  refine ww_put C0 (ci := 5) (C := RX5) (T := TX5) (N := 33) ku_X5 0 rfl rfl 31 (by decide) tyX5 tyX5_ok nmX5 kw_X5_226 rfl (ty := .int) (by decide +kernel) rfl rfl (Nat.le_of_ble_eq_true rfl) dX5_rests_122 ?_
                  simp only [List.set_cons_zero, List.set_cons_succ]
                  refine ww_aload_n C0 dX5_rests_125 rfl ?_
                  refine ww_dup C0 dX5_rests_126 rfl ?_
                  refine ww_get C0 (ci := 5) (C := RX5) (T := TX5) (N := 33) ku_X5 0 rfl rfl 30 (by decide) kw_X5_223 rfl dX5_rests_127 ?_
                  refine ww_iload C0 dX5_rests_130 rfl ?_
                  refine ww_bif_eq (tgt := 139) C0 dX5_rests_132 (by decide) (fun h132 => ?_) (fun h132 => ?_)
                  · skip
                    refine ww_iconst (v := (0)) C0 dX5_rests_139 rfl ?_
                    refine ww_iadd C0 dX5_rests_140 ?_
                    refine ww_top (v' := (sMany (fun t => mRest al (nI (t / 2)) (nI (t % 2))) (fun t => 10 * nI (t / 2) + nI (t % 2)) (2 * j + i + 1)).1) (by simp only [sMany_1, e1, e2]; simp [h132]) ?_
                    refine ww_put C0 (ci := 5) (C := RX5) (T := TX5) (N := 33) ku_X5 0 rfl rfl 30 (by decide) tyX5 tyX5_ok nmX5 kw_X5_223 rfl (ty := .int) (by decide +kernel) rfl rfl (Nat.le_of_ble_eq_true rfl) dX5_rests_141 ?_
                    simp only [List.set_cons_zero, List.set_cons_succ]
                    refine ww_iinc (d := 1) C0 dX5_rests_144 rfl rfl rfl ?_
                    simp only [List.set_cons_zero, List.set_cons_succ]
                    refine ww_goto (tgt := 44) C0 dX5_rests_147 (by decide) ?_
                    exact ww_back ih ⟨Or.inr rfl, Or.inr rfl, Or.inr rfl, Or.inr rfl, Or.inr (congrArg Value.int (nI_addE (a := i) (b := 1) rfl rfl).symm), Or.inl rfl, trivial⟩ (by rfl)
                  · skip
                    refine ww_iconst (v := (1)) C0 dX5_rests_135 rfl ?_
                    refine ww_goto (tgt := 140) C0 dX5_rests_136 (by decide) ?_
                    refine ww_iadd C0 dX5_rests_140 ?_
                    refine ww_top (v' := (sMany (fun t => mRest al (nI (t / 2)) (nI (t % 2))) (fun t => 10 * nI (t / 2) + nI (t % 2)) (2 * j + i + 1)).1) (by simp only [sMany_1, e1, e2]; simp [h132]) ?_
                    refine ww_put C0 (ci := 5) (C := RX5) (T := TX5) (N := 33) ku_X5 0 rfl rfl 30 (by decide) tyX5 tyX5_ok nmX5 kw_X5_223 rfl (ty := .int) (by decide +kernel) rfl rfl (Nat.le_of_ble_eq_true rfl) dX5_rests_141 ?_
                    simp only [List.set_cons_zero, List.set_cons_succ]
                    refine ww_iinc (d := 1) C0 dX5_rests_144 rfl rfl rfl ?_
                    simp only [List.set_cons_zero, List.set_cons_succ]
                    refine ww_goto (tgt := 44) C0 dX5_rests_147 (by decide) ?_
                    exact ww_back ih ⟨Or.inr rfl, Or.inr rfl, Or.inr rfl, Or.inr rfl, Or.inr (congrArg Value.int (nI_addE (a := i) (b := 1) rfl rfl).symm), Or.inl rfl, trivial⟩ (by rfl)
            · skip
              refine ww_iload_n C0 dX5_rests_69 rfl ?_
              refine ww_iconst (v := (1)) C0 dX5_rests_70 rfl ?_
              refine ww_iload C0 dX5_rests_71 rfl ?_
              refine ww_isub C0 dX5_rests_73 ?_
              refine ww_iload_n C0 dX5_rests_74 rfl ?_
              refine ww_callSi C0 (c_X5_gain l D cI cZ cQ) kd_X5_gain kw_X5_229 ks_X5_gain ki_X5 hd_X5_gain ⟨Nat.le_of_ble_eq_true rfl, Nat.le_of_ble_eq_true rfl, rfl, rfl⟩ (Nat.le_of_ble_eq_true rfl) dX5_rests_75 rfl rfl ⟨Nat.zero_le _, Nat.zero_le _⟩ ?_
              refine ww_iload_n C0 dX5_rests_78 rfl ?_
              refine ww_iload C0 dX5_rests_79 rfl ?_
              refine ww_iload_n C0 dX5_rests_81 rfl ?_
              refine ww_callSi C0 (c_X5_gain l D cI cZ cQ) kd_X5_gain kw_X5_229 ks_X5_gain ki_X5 hd_X5_gain ⟨Nat.le_of_ble_eq_true rfl, Nat.le_of_ble_eq_true rfl, rfl, rfl⟩ (Nat.le_of_ble_eq_true rfl) dX5_rests_82 rfl rfl ⟨Nat.zero_le _, Nat.zero_le _⟩ ?_
              refine ww_icmp_gt (tgt := 92) C0 dX5_rests_85 (by decide) (fun h85 => ?_) (fun h85 => ?_)
              · skip
                refine ww_iconst (v := (0)) C0 dX5_rests_92 rfl ?_
                refine ww_top (v' := bI (mRest al (nI j) (nI i))) (by first | (simp [mRest, *]; done) | (simp [mRest, *]; rfl)) ?_
                refine ww_istore (i := 5) C0 dX5_rests_93 (Nat.le_of_ble_eq_true rfl) rfl ?_
                simp only [List.set_cons_zero, List.set_cons_succ]
                refine ww_aload_n C0 dX5_rests_95 rfl ?_
                refine ww_iload C0 dX5_rests_96 rfl ?_
                refine ww_bif_eq (tgt := 118) C0 dX5_rests_98 (by decide) (fun h98 => ?_) (fun h98 => ?_)
                · skip
                  refine ww_aload_n C0 dX5_rests_118 rfl ?_
                  refine ww_get C0 (ci := 5) (C := RX5) (T := TX5) (N := 33) ku_X5 0 rfl rfl 31 (by decide) kw_X5_226 rfl dX5_rests_119 ?_
                  refine ww_top (v' := (sMany (fun t => mRest al (nI (t / 2)) (nI (t % 2))) (fun t => 10 * nI (t / 2) + nI (t % 2)) (2 * j + i + 1)).2) (by simp only [sMany_2, e1, e2]; first | (simp [h98, h105]; done) | (simp [h98]; done)) ?_
                  refine ww_put C0 (ci := 5) (C := RX5) (T := TX5) (N := 33) ku_X5 0 rfl rfl 31 (by decide) tyX5 tyX5_ok nmX5 kw_X5_226 rfl (ty := .int) (by decide +kernel) rfl rfl (Nat.le_of_ble_eq_true rfl) dX5_rests_122 ?_
                  simp only [List.set_cons_zero, List.set_cons_succ]
                  refine ww_aload_n C0 dX5_rests_125 rfl ?_
                  refine ww_dup C0 dX5_rests_126 rfl ?_
                  refine ww_get C0 (ci := 5) (C := RX5) (T := TX5) (N := 33) ku_X5 0 rfl rfl 30 (by decide) kw_X5_223 rfl dX5_rests_127 ?_
                  refine ww_iload C0 dX5_rests_130 rfl ?_
                  refine ww_bif_eq (tgt := 139) C0 dX5_rests_132 (by decide) (fun h132 => ?_) (fun h132 => ?_)
                  · skip
                    refine ww_iconst (v := (0)) C0 dX5_rests_139 rfl ?_
                    refine ww_iadd C0 dX5_rests_140 ?_
                    refine ww_top (v' := (sMany (fun t => mRest al (nI (t / 2)) (nI (t % 2))) (fun t => 10 * nI (t / 2) + nI (t % 2)) (2 * j + i + 1)).1) (by simp only [sMany_1, e1, e2]; simp [h132]) ?_
                    refine ww_put C0 (ci := 5) (C := RX5) (T := TX5) (N := 33) ku_X5 0 rfl rfl 30 (by decide) tyX5 tyX5_ok nmX5 kw_X5_223 rfl (ty := .int) (by decide +kernel) rfl rfl (Nat.le_of_ble_eq_true rfl) dX5_rests_141 ?_
                    simp only [List.set_cons_zero, List.set_cons_succ]
                    refine ww_iinc (d := 1) C0 dX5_rests_144 rfl rfl rfl ?_
                    simp only [List.set_cons_zero, List.set_cons_succ]
                    refine ww_goto (tgt := 44) C0 dX5_rests_147 (by decide) ?_
                    exact ww_back ih ⟨Or.inr rfl, Or.inr rfl, Or.inr rfl, Or.inr rfl, Or.inr (congrArg Value.int (nI_addE (a := i) (b := 1) rfl rfl).symm), Or.inl rfl, trivial⟩ (by rfl)
                  · skip
                    refine ww_iconst (v := (1)) C0 dX5_rests_135 rfl ?_
                    refine ww_goto (tgt := 140) C0 dX5_rests_136 (by decide) ?_
                    refine ww_iadd C0 dX5_rests_140 ?_
                    refine ww_top (v' := (sMany (fun t => mRest al (nI (t / 2)) (nI (t % 2))) (fun t => 10 * nI (t / 2) + nI (t % 2)) (2 * j + i + 1)).1) (by simp only [sMany_1, e1, e2]; simp [h132]) ?_
                    refine ww_put C0 (ci := 5) (C := RX5) (T := TX5) (N := 33) ku_X5 0 rfl rfl 30 (by decide) tyX5 tyX5_ok nmX5 kw_X5_223 rfl (ty := .int) (by decide +kernel) rfl rfl (Nat.le_of_ble_eq_true rfl) dX5_rests_141 ?_
                    simp only [List.set_cons_zero, List.set_cons_succ]
                    refine ww_iinc (d := 1) C0 dX5_rests_144 rfl rfl rfl ?_
                    simp only [List.set_cons_zero, List.set_cons_succ]
                    refine ww_goto (tgt := 44) C0 dX5_rests_147 (by decide) ?_
                    exact ww_back ih ⟨Or.inr rfl, Or.inr rfl, Or.inr rfl, Or.inr rfl, Or.inr (congrArg Value.int (nI_addE (a := i) (b := 1) rfl rfl).symm), Or.inl rfl, trivial⟩ (by rfl)
                · skip
                  refine ww_aload_n C0 dX5_rests_101 rfl ?_
                  refine ww_get C0 (ci := 5) (C := RX5) (T := TX5) (N := 33) ku_X5 0 rfl rfl 30 (by decide) kw_X5_223 rfl dX5_rests_102 ?_
                  refine ww_if_ne (tgt := 118) C0 dX5_rests_105 (by decide) (fun h105 => ?_) (fun h105 => ?_)
                  · skip
                    refine ww_aload_n C0 dX5_rests_118 rfl ?_
                    refine ww_get C0 (ci := 5) (C := RX5) (T := TX5) (N := 33) ku_X5 0 rfl rfl 31 (by decide) kw_X5_226 rfl dX5_rests_119 ?_
                    refine ww_top (v' := (sMany (fun t => mRest al (nI (t / 2)) (nI (t % 2))) (fun t => 10 * nI (t / 2) + nI (t % 2)) (2 * j + i + 1)).2) (by simp only [sMany_2, e1, e2]; first | (simp [h98, h105]; done) | (simp [h98]; done)) ?_
                    refine ww_put C0 (ci := 5) (C := RX5) (T := TX5) (N := 33) ku_X5 0 rfl rfl 31 (by decide) tyX5 tyX5_ok nmX5 kw_X5_226 rfl (ty := .int) (by decide +kernel) rfl rfl (Nat.le_of_ble_eq_true rfl) dX5_rests_122 ?_
                    simp only [List.set_cons_zero, List.set_cons_succ]
                    refine ww_aload_n C0 dX5_rests_125 rfl ?_
                    refine ww_dup C0 dX5_rests_126 rfl ?_
                    refine ww_get C0 (ci := 5) (C := RX5) (T := TX5) (N := 33) ku_X5 0 rfl rfl 30 (by decide) kw_X5_223 rfl dX5_rests_127 ?_
                    refine ww_iload C0 dX5_rests_130 rfl ?_
                    refine ww_bif_eq (tgt := 139) C0 dX5_rests_132 (by decide) (fun h132 => ?_) (fun h132 => ?_)
                    · skip
                      refine ww_iconst (v := (0)) C0 dX5_rests_139 rfl ?_
                      refine ww_iadd C0 dX5_rests_140 ?_
                      refine ww_top (v' := (sMany (fun t => mRest al (nI (t / 2)) (nI (t % 2))) (fun t => 10 * nI (t / 2) + nI (t % 2)) (2 * j + i + 1)).1) (by simp only [sMany_1, e1, e2]; simp [h132]) ?_
                      refine ww_put C0 (ci := 5) (C := RX5) (T := TX5) (N := 33) ku_X5 0 rfl rfl 30 (by decide) tyX5 tyX5_ok nmX5 kw_X5_223 rfl (ty := .int) (by decide +kernel) rfl rfl (Nat.le_of_ble_eq_true rfl) dX5_rests_141 ?_
                      simp only [List.set_cons_zero, List.set_cons_succ]
                      refine ww_iinc (d := 1) C0 dX5_rests_144 rfl rfl rfl ?_
                      simp only [List.set_cons_zero, List.set_cons_succ]
                      refine ww_goto (tgt := 44) C0 dX5_rests_147 (by decide) ?_
                      exact ww_back ih ⟨Or.inr rfl, Or.inr rfl, Or.inr rfl, Or.inr rfl, Or.inr (congrArg Value.int (nI_addE (a := i) (b := 1) rfl rfl).symm), Or.inl rfl, trivial⟩ (by rfl)
                    · skip
                      refine ww_iconst (v := (1)) C0 dX5_rests_135 rfl ?_
                      refine ww_goto (tgt := 140) C0 dX5_rests_136 (by decide) ?_
                      refine ww_iadd C0 dX5_rests_140 ?_
                      refine ww_top (v' := (sMany (fun t => mRest al (nI (t / 2)) (nI (t % 2))) (fun t => 10 * nI (t / 2) + nI (t % 2)) (2 * j + i + 1)).1) (by simp only [sMany_1, e1, e2]; simp [h132]) ?_
                      refine ww_put C0 (ci := 5) (C := RX5) (T := TX5) (N := 33) ku_X5 0 rfl rfl 30 (by decide) tyX5 tyX5_ok nmX5 kw_X5_223 rfl (ty := .int) (by decide +kernel) rfl rfl (Nat.le_of_ble_eq_true rfl) dX5_rests_141 ?_
                      simp only [List.set_cons_zero, List.set_cons_succ]
                      refine ww_iinc (d := 1) C0 dX5_rests_144 rfl rfl rfl ?_
                      simp only [List.set_cons_zero, List.set_cons_succ]
                      refine ww_goto (tgt := 44) C0 dX5_rests_147 (by decide) ?_
                      exact ww_back ih ⟨Or.inr rfl, Or.inr rfl, Or.inr rfl, Or.inr rfl, Or.inr (congrArg Value.int (nI_addE (a := i) (b := 1) rfl rfl).symm), Or.inl rfl, trivial⟩ (by rfl)
                  · skip
                    refine ww_bipush (v := (10)) C0 dX5_rests_108 rfl ?_
                    refine ww_iload_n C0 dX5_rests_110 rfl ?_
                    refine ww_imul C0 dX5_rests_111 ?_
                    refine ww_iload C0 dX5_rests_112 rfl ?_
                    refine ww_iadd C0 dX5_rests_114 ?_
                    refine ww_goto (tgt := 122) C0 dX5_rests_115 (by decide) ?_
                    refine ww_top (v' := (sMany (fun t => mRest al (nI (t / 2)) (nI (t % 2))) (fun t => 10 * nI (t / 2) + nI (t % 2)) (2 * j + i + 1)).2) (by simp only [sMany_2, e1, e2]; first | (simp [h98, h105]; done) | (simp [h98]; done)) ?_
                    refine ww_put C0 (ci := 5) (C := RX5) (T := TX5) (N := 33) ku_X5 0 rfl rfl 31 (by decide) tyX5 tyX5_ok nmX5 kw_X5_226 rfl (ty := .int) (by decide +kernel) rfl rfl (Nat.le_of_ble_eq_true rfl) dX5_rests_122 ?_
                    simp only [List.set_cons_zero, List.set_cons_succ]
                    refine ww_aload_n C0 dX5_rests_125 rfl ?_
                    refine ww_dup C0 dX5_rests_126 rfl ?_
                    refine ww_get C0 (ci := 5) (C := RX5) (T := TX5) (N := 33) ku_X5 0 rfl rfl 30 (by decide) kw_X5_223 rfl dX5_rests_127 ?_
                    refine ww_iload C0 dX5_rests_130 rfl ?_
                    refine ww_bif_eq (tgt := 139) C0 dX5_rests_132 (by decide) (fun h132 => ?_) (fun h132 => ?_)
                    · skip
                      refine ww_iconst (v := (0)) C0 dX5_rests_139 rfl ?_
                      refine ww_iadd C0 dX5_rests_140 ?_
                      refine ww_top (v' := (sMany (fun t => mRest al (nI (t / 2)) (nI (t % 2))) (fun t => 10 * nI (t / 2) + nI (t % 2)) (2 * j + i + 1)).1) (by simp only [sMany_1, e1, e2]; simp [h132]) ?_
                      refine ww_put C0 (ci := 5) (C := RX5) (T := TX5) (N := 33) ku_X5 0 rfl rfl 30 (by decide) tyX5 tyX5_ok nmX5 kw_X5_223 rfl (ty := .int) (by decide +kernel) rfl rfl (Nat.le_of_ble_eq_true rfl) dX5_rests_141 ?_
                      simp only [List.set_cons_zero, List.set_cons_succ]
                      refine ww_iinc (d := 1) C0 dX5_rests_144 rfl rfl rfl ?_
                      simp only [List.set_cons_zero, List.set_cons_succ]
                      refine ww_goto (tgt := 44) C0 dX5_rests_147 (by decide) ?_
                      exact ww_back ih ⟨Or.inr rfl, Or.inr rfl, Or.inr rfl, Or.inr rfl, Or.inr (congrArg Value.int (nI_addE (a := i) (b := 1) rfl rfl).symm), Or.inl rfl, trivial⟩ (by rfl)
                    · skip
                      refine ww_iconst (v := (1)) C0 dX5_rests_135 rfl ?_
                      refine ww_goto (tgt := 140) C0 dX5_rests_136 (by decide) ?_
                      refine ww_iadd C0 dX5_rests_140 ?_
                      refine ww_top (v' := (sMany (fun t => mRest al (nI (t / 2)) (nI (t % 2))) (fun t => 10 * nI (t / 2) + nI (t % 2)) (2 * j + i + 1)).1) (by simp only [sMany_1, e1, e2]; simp [h132]) ?_
                      refine ww_put C0 (ci := 5) (C := RX5) (T := TX5) (N := 33) ku_X5 0 rfl rfl 30 (by decide) tyX5 tyX5_ok nmX5 kw_X5_223 rfl (ty := .int) (by decide +kernel) rfl rfl (Nat.le_of_ble_eq_true rfl) dX5_rests_141 ?_
                      simp only [List.set_cons_zero, List.set_cons_succ]
                      refine ww_iinc (d := 1) C0 dX5_rests_144 rfl rfl rfl ?_
                      simp only [List.set_cons_zero, List.set_cons_succ]
                      refine ww_goto (tgt := 44) C0 dX5_rests_147 (by decide) ?_
                      exact ww_back ih ⟨Or.inr rfl, Or.inr rfl, Or.inr rfl, Or.inr rfl, Or.inr (congrArg Value.int (nI_addE (a := i) (b := 1) rfl rfl).symm), Or.inl rfl, trivial⟩ (by rfl)
              · skip
                refine ww_iconst (v := (1)) C0 dX5_rests_88 rfl ?_
                refine ww_goto (tgt := 93) C0 dX5_rests_89 (by decide) ?_
                refine ww_top (v' := bI (mRest al (nI j) (nI i))) (by first | (simp [mRest, *]; done) | (simp [mRest, *]; rfl)) ?_
                refine ww_istore (i := 5) C0 dX5_rests_93 (Nat.le_of_ble_eq_true rfl) rfl ?_
                simp only [List.set_cons_zero, List.set_cons_succ]
                refine ww_aload_n C0 dX5_rests_95 rfl ?_
                refine ww_iload C0 dX5_rests_96 rfl ?_
                refine ww_bif_eq (tgt := 118) C0 dX5_rests_98 (by decide) (fun h98 => ?_) (fun h98 => ?_)
                · skip
                  refine ww_aload_n C0 dX5_rests_118 rfl ?_
                  refine ww_get C0 (ci := 5) (C := RX5) (T := TX5) (N := 33) ku_X5 0 rfl rfl 31 (by decide) kw_X5_226 rfl dX5_rests_119 ?_
                  refine ww_top (v' := (sMany (fun t => mRest al (nI (t / 2)) (nI (t % 2))) (fun t => 10 * nI (t / 2) + nI (t % 2)) (2 * j + i + 1)).2) (by simp only [sMany_2, e1, e2]; first | (simp [h98, h105]; done) | (simp [h98]; done)) ?_
                  refine ww_put C0 (ci := 5) (C := RX5) (T := TX5) (N := 33) ku_X5 0 rfl rfl 31 (by decide) tyX5 tyX5_ok nmX5 kw_X5_226 rfl (ty := .int) (by decide +kernel) rfl rfl (Nat.le_of_ble_eq_true rfl) dX5_rests_122 ?_
                  simp only [List.set_cons_zero, List.set_cons_succ]
                  refine ww_aload_n C0 dX5_rests_125 rfl ?_
                  refine ww_dup C0 dX5_rests_126 rfl ?_
                  refine ww_get C0 (ci := 5) (C := RX5) (T := TX5) (N := 33) ku_X5 0 rfl rfl 30 (by decide) kw_X5_223 rfl dX5_rests_127 ?_
                  refine ww_iload C0 dX5_rests_130 rfl ?_
                  refine ww_bif_eq (tgt := 139) C0 dX5_rests_132 (by decide) (fun h132 => ?_) (fun h132 => ?_)
                  · skip
                    refine ww_iconst (v := (0)) C0 dX5_rests_139 rfl ?_
                    refine ww_iadd C0 dX5_rests_140 ?_
                    refine ww_top (v' := (sMany (fun t => mRest al (nI (t / 2)) (nI (t % 2))) (fun t => 10 * nI (t / 2) + nI (t % 2)) (2 * j + i + 1)).1) (by simp only [sMany_1, e1, e2]; simp [h132]) ?_
                    refine ww_put C0 (ci := 5) (C := RX5) (T := TX5) (N := 33) ku_X5 0 rfl rfl 30 (by decide) tyX5 tyX5_ok nmX5 kw_X5_223 rfl (ty := .int) (by decide +kernel) rfl rfl (Nat.le_of_ble_eq_true rfl) dX5_rests_141 ?_
                    simp only [List.set_cons_zero, List.set_cons_succ]
                    refine ww_iinc (d := 1) C0 dX5_rests_144 rfl rfl rfl ?_
                    simp only [List.set_cons_zero, List.set_cons_succ]
                    refine ww_goto (tgt := 44) C0 dX5_rests_147 (by decide) ?_
                    exact ww_back ih ⟨Or.inr rfl, Or.inr rfl, Or.inr rfl, Or.inr rfl, Or.inr (congrArg Value.int (nI_addE (a := i) (b := 1) rfl rfl).symm), Or.inl rfl, trivial⟩ (by rfl)
                  · skip
                    refine ww_iconst (v := (1)) C0 dX5_rests_135 rfl ?_
                    refine ww_goto (tgt := 140) C0 dX5_rests_136 (by decide) ?_
                    refine ww_iadd C0 dX5_rests_140 ?_
                    refine ww_top (v' := (sMany (fun t => mRest al (nI (t / 2)) (nI (t % 2))) (fun t => 10 * nI (t / 2) + nI (t % 2)) (2 * j + i + 1)).1) (by simp only [sMany_1, e1, e2]; simp [h132]) ?_
                    refine ww_put C0 (ci := 5) (C := RX5) (T := TX5) (N := 33) ku_X5 0 rfl rfl 30 (by decide) tyX5 tyX5_ok nmX5 kw_X5_223 rfl (ty := .int) (by decide +kernel) rfl rfl (Nat.le_of_ble_eq_true rfl) dX5_rests_141 ?_
                    simp only [List.set_cons_zero, List.set_cons_succ]
                    refine ww_iinc (d := 1) C0 dX5_rests_144 rfl rfl rfl ?_
                    simp only [List.set_cons_zero, List.set_cons_succ]
                    refine ww_goto (tgt := 44) C0 dX5_rests_147 (by decide) ?_
                    exact ww_back ih ⟨Or.inr rfl, Or.inr rfl, Or.inr rfl, Or.inr rfl, Or.inr (congrArg Value.int (nI_addE (a := i) (b := 1) rfl rfl).symm), Or.inl rfl, trivial⟩ (by rfl)
                · skip
                  refine ww_aload_n C0 dX5_rests_101 rfl ?_
                  refine ww_get C0 (ci := 5) (C := RX5) (T := TX5) (N := 33) ku_X5 0 rfl rfl 30 (by decide) kw_X5_223 rfl dX5_rests_102 ?_
                  refine ww_if_ne (tgt := 118) C0 dX5_rests_105 (by decide) (fun h105 => ?_) (fun h105 => ?_)
                  · skip
                    refine ww_aload_n C0 dX5_rests_118 rfl ?_
                    refine ww_get C0 (ci := 5) (C := RX5) (T := TX5) (N := 33) ku_X5 0 rfl rfl 31 (by decide) kw_X5_226 rfl dX5_rests_119 ?_
                    refine ww_top (v' := (sMany (fun t => mRest al (nI (t / 2)) (nI (t % 2))) (fun t => 10 * nI (t / 2) + nI (t % 2)) (2 * j + i + 1)).2) (by simp only [sMany_2, e1, e2]; first | (simp [h98, h105]; done) | (simp [h98]; done)) ?_
                    refine ww_put C0 (ci := 5) (C := RX5) (T := TX5) (N := 33) ku_X5 0 rfl rfl 31 (by decide) tyX5 tyX5_ok nmX5 kw_X5_226 rfl (ty := .int) (by decide +kernel) rfl rfl (Nat.le_of_ble_eq_true rfl) dX5_rests_122 ?_
                    simp only [List.set_cons_zero, List.set_cons_succ]
                    refine ww_aload_n C0 dX5_rests_125 rfl ?_
                    refine ww_dup C0 dX5_rests_126 rfl ?_
                    refine ww_get C0 (ci := 5) (C := RX5) (T := TX5) (N := 33) ku_X5 0 rfl rfl 30 (by decide) kw_X5_223 rfl dX5_rests_127 ?_
                    refine ww_iload C0 dX5_rests_130 rfl ?_
                    refine ww_bif_eq (tgt := 139) C0 dX5_rests_132 (by decide) (fun h132 => ?_) (fun h132 => ?_)
                    · skip
                      refine ww_iconst (v := (0)) C0 dX5_rests_139 rfl ?_
                      refine ww_iadd C0 dX5_rests_140 ?_
                      refine ww_top (v' := (sMany (fun t => mRest al (nI (t / 2)) (nI (t % 2))) (fun t => 10 * nI (t / 2) + nI (t % 2)) (2 * j + i + 1)).1) (by simp only [sMany_1, e1, e2]; simp [h132]) ?_
                      refine ww_put C0 (ci := 5) (C := RX5) (T := TX5) (N := 33) ku_X5 0 rfl rfl 30 (by decide) tyX5 tyX5_ok nmX5 kw_X5_223 rfl (ty := .int) (by decide +kernel) rfl rfl (Nat.le_of_ble_eq_true rfl) dX5_rests_141 ?_
                      simp only [List.set_cons_zero, List.set_cons_succ]
                      refine ww_iinc (d := 1) C0 dX5_rests_144 rfl rfl rfl ?_
                      simp only [List.set_cons_zero, List.set_cons_succ]
                      refine ww_goto (tgt := 44) C0 dX5_rests_147 (by decide) ?_
                      exact ww_back ih ⟨Or.inr rfl, Or.inr rfl, Or.inr rfl, Or.inr rfl, Or.inr (congrArg Value.int (nI_addE (a := i) (b := 1) rfl rfl).symm), Or.inl rfl, trivial⟩ (by rfl)
                    · skip
                      refine ww_iconst (v := (1)) C0 dX5_rests_135 rfl ?_
                      refine ww_goto (tgt := 140) C0 dX5_rests_136 (by decide) ?_
                      refine ww_iadd C0 dX5_rests_140 ?_
                      refine ww_top (v' := (sMany (fun t => mRest al (nI (t / 2)) (nI (t % 2))) (fun t => 10 * nI (t / 2) + nI (t % 2)) (2 * j + i + 1)).1) (by simp only [sMany_1, e1, e2]; simp [h132]) ?_
                      refine ww_put C0 (ci := 5) (C := RX5) (T := TX5) (N := 33) ku_X5 0 rfl rfl 30 (by decide) tyX5 tyX5_ok nmX5 kw_X5_223 rfl (ty := .int) (by decide +kernel) rfl rfl (Nat.le_of_ble_eq_true rfl) dX5_rests_141 ?_
                      simp only [List.set_cons_zero, List.set_cons_succ]
                      refine ww_iinc (d := 1) C0 dX5_rests_144 rfl rfl rfl ?_
                      simp only [List.set_cons_zero, List.set_cons_succ]
                      refine ww_goto (tgt := 44) C0 dX5_rests_147 (by decide) ?_
                      exact ww_back ih ⟨Or.inr rfl, Or.inr rfl, Or.inr rfl, Or.inr rfl, Or.inr (congrArg Value.int (nI_addE (a := i) (b := 1) rfl rfl).symm), Or.inl rfl, trivial⟩ (by rfl)
                  · skip
                    refine ww_bipush (v := (10)) C0 dX5_rests_108 rfl ?_
                    refine ww_iload_n C0 dX5_rests_110 rfl ?_
                    refine ww_imul C0 dX5_rests_111 ?_
                    refine ww_iload C0 dX5_rests_112 rfl ?_
                    refine ww_iadd C0 dX5_rests_114 ?_
                    refine ww_goto (tgt := 122) C0 dX5_rests_115 (by decide) ?_
                    refine ww_top (v' := (sMany (fun t => mRest al (nI (t / 2)) (nI (t % 2))) (fun t => 10 * nI (t / 2) + nI (t % 2)) (2 * j + i + 1)).2) (by simp only [sMany_2, e1, e2]; first | (simp [h98, h105]; done) | (simp [h98]; done)) ?_
                    refine ww_put C0 (ci := 5) (C := RX5) (T := TX5) (N := 33) ku_X5 0 rfl rfl 31 (by decide) tyX5 tyX5_ok nmX5 kw_X5_226 rfl (ty := .int) (by decide +kernel) rfl rfl (Nat.le_of_ble_eq_true rfl) dX5_rests_122 ?_
                    simp only [List.set_cons_zero, List.set_cons_succ]
                    refine ww_aload_n C0 dX5_rests_125 rfl ?_
                    refine ww_dup C0 dX5_rests_126 rfl ?_
                    refine ww_get C0 (ci := 5) (C := RX5) (T := TX5) (N := 33) ku_X5 0 rfl rfl 30 (by decide) kw_X5_223 rfl dX5_rests_127 ?_
                    refine ww_iload C0 dX5_rests_130 rfl ?_
                    refine ww_bif_eq (tgt := 139) C0 dX5_rests_132 (by decide) (fun h132 => ?_) (fun h132 => ?_)
                    · skip
                      refine ww_iconst (v := (0)) C0 dX5_rests_139 rfl ?_
                      refine ww_iadd C0 dX5_rests_140 ?_
                      refine ww_top (v' := (sMany (fun t => mRest al (nI (t / 2)) (nI (t % 2))) (fun t => 10 * nI (t / 2) + nI (t % 2)) (2 * j + i + 1)).1) (by simp only [sMany_1, e1, e2]; simp [h132]) ?_
                      refine ww_put C0 (ci := 5) (C := RX5) (T := TX5) (N := 33) ku_X5 0 rfl rfl 30 (by decide) tyX5 tyX5_ok nmX5 kw_X5_223 rfl (ty := .int) (by decide +kernel) rfl rfl (Nat.le_of_ble_eq_true rfl) dX5_rests_141 ?_
                      simp only [List.set_cons_zero, List.set_cons_succ]
                      refine ww_iinc (d := 1) C0 dX5_rests_144 rfl rfl rfl ?_
                      simp only [List.set_cons_zero, List.set_cons_succ]
                      refine ww_goto (tgt := 44) C0 dX5_rests_147 (by decide) ?_
                      exact ww_back ih ⟨Or.inr rfl, Or.inr rfl, Or.inr rfl, Or.inr rfl, Or.inr (congrArg Value.int (nI_addE (a := i) (b := 1) rfl rfl).symm), Or.inl rfl, trivial⟩ (by rfl)
                    · skip
                      refine ww_iconst (v := (1)) C0 dX5_rests_135 rfl ?_
                      refine ww_goto (tgt := 140) C0 dX5_rests_136 (by decide) ?_
                      refine ww_iadd C0 dX5_rests_140 ?_
                      refine ww_top (v' := (sMany (fun t => mRest al (nI (t / 2)) (nI (t % 2))) (fun t => 10 * nI (t / 2) + nI (t % 2)) (2 * j + i + 1)).1) (by simp only [sMany_1, e1, e2]; simp [h132]) ?_
                      refine ww_put C0 (ci := 5) (C := RX5) (T := TX5) (N := 33) ku_X5 0 rfl rfl 30 (by decide) tyX5 tyX5_ok nmX5 kw_X5_223 rfl (ty := .int) (by decide +kernel) rfl rfl (Nat.le_of_ble_eq_true rfl) dX5_rests_141 ?_
                      simp only [List.set_cons_zero, List.set_cons_succ]
                      refine ww_iinc (d := 1) C0 dX5_rests_144 rfl rfl rfl ?_
                      simp only [List.set_cons_zero, List.set_cons_succ]
                      refine ww_goto (tgt := 44) C0 dX5_rests_147 (by decide) ?_
                      exact ww_back ih ⟨Or.inr rfl, Or.inr rfl, Or.inr rfl, Or.inr rfl, Or.inr (congrArg Value.int (nI_addE (a := i) (b := 1) rfl rfl).symm), Or.inl rfl, trivial⟩ (by rfl)
        · skip
          refine ww_iload C0 dX5_rests_44 rfl ?_
          refine ww_iconst (v := (2)) C0 dX5_rests_46 rfl ?_
          refine ww_icmp_ge (tgt := 150) C0 dX5_rests_47 (by decide) (fun h47 => ?_) (fun h47 => ?_)
          · skip
            replace h47 := (nI_leE (a := 2) (b := 2) rfl rfl (by omega) (by omega)).mp h47
            refine ww_iinc (d := 1) C0 dX5_rests_150 rfl rfl rfl ?_
            simp only [List.set_cons_zero, List.set_cons_succ]
            refine ww_goto (tgt := 36) C0 dX5_rests_153 (by decide) ?_
            exact ww_back ih ⟨Or.inr rfl, Or.inr rfl, Or.inr rfl, Or.inr (congrArg Value.int (nI_addE (a := j) (b := 1) rfl rfl).symm), Or.inl rfl, Or.inl rfl, trivial⟩ (by (rw [show 2 * (j + 1) = 2 * j + 2 by omega]))
          · skip
            replace h47 := (not_congr (nI_leE (a := 2) (b := 2) rfl rfl (by omega) (by omega))).mp h47
            exfalso; omega
    · skip
      refine ww_iload_n C0 dX5_rests_36 rfl ?_
      refine ww_iconst (v := (2)) C0 dX5_rests_37 rfl ?_
      refine ww_icmp_ge (tgt := 156) C0 dX5_rests_38 (by decide) (fun h38 => ?_) (fun h38 => ?_)
      · skip
        replace h38 := (nI_leE (a := 2) (b := 2) rfl rfl (by omega) (by omega)).mp h38
        refine ww_iload_n C0 dX5_rests_156 rfl ?_
        refine ww_if_ne (tgt := 167) C0 dX5_rests_157 (by decide) (fun h157 => ?_) (fun h157 => ?_)
        · skip
          refine ww_aload_n C0 dX5_rests_167 rfl ?_
          refine ww_get C0 (ci := 5) (C := RX5) (T := TX5) (N := 33) ku_X5 0 rfl rfl 31 (by decide) kw_X5_226 rfl dX5_rests_168 ?_
          exact ww_iret C0 hr dX5_rests_171 (by simp [*]) (by rfl)
        · skip
          refine ww_aload_n C0 dX5_rests_160 rfl ?_
          refine ww_get C0 (ci := 5) (C := RX5) (T := TX5) (N := 33) ku_X5 0 rfl rfl 30 (by decide) kw_X5_223 rfl dX5_rests_161 ?_
          refine ww_goto (tgt := 171) C0 dX5_rests_164 (by decide) ?_
          exact ww_iret C0 hr dX5_rests_171 (by simp [*]) (by rfl)
      · skip
        replace h38 := (not_congr (nI_leE (a := 2) (b := 2) rfl rfl (by omega) (by omega))).mp h38
        exfalso; omega
  · skip
    exact absurd hx (by rw [h12]; decide)

set_option maxHeartbeats 4000000 in
set_option maxRecDepth 100000 in
theorem c_X5_balkers (l : Launch) (D : va_G) (cI cZ cQ : ClassId) {aM amt amc amw ams amv amr amx amp amq amb amk amz am0 am1 am2 am3 am4 amh amo : Nat} {tn nm na ac gn : Nat} {th vpl vrm vra x0 x1 x2 x3 : Int32} {sd : Int64} {fmt fmc fmw fms fmv fmp fmq : Nat → Int32} {rest : va_W} {wa so : Int32} (hnm : nm ≤ 5) (hna : na ≤ 5) : MI l D [(cI, .int), (cZ, .boolean), (cQ, .object "MulesRemember$State")] yX5_balkers cX5_balkers 5 .int ({ frames := 4, cells := 0, slots := 0, locals := 99 } : Room) [.ref aM, .int wa, .int so] ((aM, .inr (5, [.int th, .ref amt, .int (nI tn), .int vpl, .int (nI nm), .ref amc, .int (nI na), .ref amw, .ref ams, .ref amv, .int vrm, .ref amr, .int vra, .ref amx, .ref amp, .ref amq, .ref amb, .int (nI ac), .ref amk, .ref amz, .int (nI gn), .ref am0, .ref am1, .ref am2, .ref am3, .ref am4, .long sd, .ref amh, .int x0, .int x1, .int x2, .int x3, .ref amo])) :: (amt, .inl (cI, 48, .inl (fmt))) :: (amc, .inl (cI, 5, .inl (fmc))) :: (amw, .inl (cI, 5, .inl (fmw))) :: (ams, .inl (cI, 5, .inl (fms))) :: (amv, .inl (cI, 5, .inl (fmv))) :: (amp, .inl (cI, 17, .inl (fmp))) :: (amq, .inl (cI, 17, .inl (fmq))) :: rest) (sumI (mBalk1 nm na fmw fms fmv fmc fmp wa so) nm) ((aM, .inr (5, [.int th, .ref amt, .int (nI tn), .int vpl, .int (nI nm), .ref amc, .int (nI na), .ref amw, .ref ams, .ref amv, .int vrm, .ref amr, .int vra, .ref amx, .ref amp, .ref amq, .ref amb, .int (nI ac), .ref amk, .ref amz, .int (nI gn), .ref am0, .ref am1, .ref am2, .ref am3, .ref am4, .long sd, .ref amh, .int x0, .int x1, .int x2, .int x3, .ref amo])) :: (amt, .inl (cI, 48, .inl (fmt))) :: (amc, .inl (cI, 5, .inl (fmc))) :: (amw, .inl (cI, 5, .inl (fmw))) :: (ams, .inl (cI, 5, .inl (fms))) :: (amv, .inl (cI, 5, .inl (fmv))) :: (amp, .inl (cI, 17, .inl (fmp))) :: (amq, .inl (cI, 17, .inl (mMask fmp so nm))) :: rest) := by
  refine MI.of [.ref aM, .int wa, .int so, .null, .null] (by decide) (Nat.le_of_ble_eq_true rfl) rfl ?_
  intro p e s m below meth c A C0 hr
  refine ww_aload_n C0 dX5_balkers_0 rfl ?_
  refine ww_callVv C0 (qc := (RX5, TX5, 33)) 0 5 (c_X5_begin l D cI cZ cQ) kd_X5_begin kw_X5_175 km_X5_begin kl_X5_begin ki_X5 hd_X5_begin rfl rfl ⟨Nat.le_of_ble_eq_true rfl, Nat.le_of_ble_eq_true rfl, rfl, rfl⟩ (Nat.le_of_ble_eq_true rfl) dX5_balkers_1 rfl rfl rfl ⟨Nat.zero_le _, Nat.zero_le _⟩ ?_
  refine ww_iconst (v := (0)) C0 dX5_balkers_4 rfl ?_
  refine ww_istore_n (i := 3) C0 dX5_balkers_5 rfl (Nat.le_of_ble_eq_true rfl) rfl ?_
  simp only [List.set_cons_zero, List.set_cons_succ]
  refine ww_iconst (v := (0)) C0 dX5_balkers_6 rfl ?_
  refine ww_istore (i := 4) C0 dX5_balkers_7 (Nat.le_of_ble_eq_true rfl) rfl ?_
  simp only [List.set_cons_zero, List.set_cons_succ]
  refine ww_back (ww_loop (pc := 9) 0 (nm) (by omega) (fun j => [_, _, _, .int (sumI (mBalk1 nm na fmw fms fmv fmc fmp wa so) j), .int (nI j)]) (fun j => (aM, .inr (5, [.int th, .ref amt, .int (nI tn), .int vpl, .int (nI nm), .ref amc, .int (nI na), .ref amw, .ref ams, .ref amv, .int vrm, .ref amr, .int vra, .ref amx, .ref amp, .ref amq, .ref amb, .int (nI ac), .ref amk, .ref amz, .int (nI gn), .ref am0, .ref am1, .ref am2, .ref am3, .ref am4, .long sd, .ref amh, .int x0, .int x1, .int x2, .int x3, .ref amo])) :: (amt, .inl (cI, 48, .inl (fmt))) :: (amc, .inl (cI, 5, .inl (fmc))) :: (amw, .inl (cI, 5, .inl (fmw))) :: (ams, .inl (cI, 5, .inl (fms))) :: (amv, .inl (cI, 5, .inl (fmv))) :: (amp, .inl (cI, 17, .inl (fmp))) :: (amq, .inl (cI, 17, .inl (mMask fmp so j))) :: rest) ?_ ?_) ⟨Or.inr rfl, Or.inr rfl, Or.inr rfl, Or.inr rfl, Or.inr rfl, trivial⟩ (by (rw [mMask_0]))
  · intro j hj0 hj ih
    refine ww_iload C0 dX5_balkers_9 rfl ?_
    refine ww_aload_n C0 dX5_balkers_11 rfl ?_
    refine ww_get C0 (ci := 5) (C := RX5) (T := TX5) (N := 33) ku_X5 0 rfl rfl 4 (by decide) kw_X5_72 rfl dX5_balkers_12 ?_
    refine ww_icmp_ge (tgt := 94) C0 dX5_balkers_15 (by decide) (fun h15 => ?_) (fun h15 => ?_)
    · skip
      replace h15 := (nI_leE (a := nm) (b := j) rfl rfl (by omega) (by omega)).mp h15
      exfalso; omega
    · skip
      replace h15 := (not_congr (nI_leE (a := nm) (b := j) rfl rfl (by omega) (by omega))).mp h15
      refine ww_aload_n C0 dX5_balkers_18 rfl ?_
      refine ww_get C0 (ci := 5) (C := RX5) (T := TX5) (N := 33) ku_X5 0 rfl rfl 15 (by decide) kw_X5_34 rfl dX5_balkers_19 ?_
      refine ww_bipush (v := (10)) C0 dX5_balkers_22 rfl ?_
      refine ww_iload C0 dX5_balkers_24 rfl ?_
      refine ww_iadd C0 dX5_balkers_26 ?_
      refine ww_iload_n C0 dX5_balkers_27 rfl ?_
      refine ww_iload C0 dX5_balkers_28 rfl ?_
      refine ww_callSi C0 (c_X5_has l D cI cZ cQ) kd_X5_has kw_X5_140 ks_X5_has ki_X5 hd_X5_has ⟨Nat.le_of_ble_eq_true rfl, Nat.le_of_ble_eq_true rfl, rfl, rfl⟩ (Nat.le_of_ble_eq_true rfl) dX5_balkers_30 rfl rfl ⟨Nat.zero_le _, Nat.zero_le _⟩ ?_
      refine ww_bif_eq (tgt := 40) C0 dX5_balkers_33 (by decide) (fun h33 => ?_) (fun h33 => ?_)
      · skip
        refine ww_aload_n C0 dX5_balkers_40 rfl ?_
        refine ww_get C0 (ci := 5) (C := RX5) (T := TX5) (N := 33) ku_X5 0 rfl rfl 14 (by decide) kw_X5_31 rfl dX5_balkers_41 ?_
        refine ww_bipush (v := (10)) C0 dX5_balkers_44 rfl ?_
        refine ww_iload C0 dX5_balkers_46 rfl ?_
        refine ww_iadd C0 dX5_balkers_48 ?_
        refine ww_iald_n (j := 10 + j) C0 6 0 rfl rfl (nI_addE (a := 10) (b := j) rfl rfl) (by omega) (by decide) dX5_balkers_49 ?_
        refine ww_top (v' := (if hbit so (nI j) then 0 else fmp (10 + j))) (by simp [*]) ?_
        refine ww_iast_n (j := 10 + j) C0 7 0 rfl rfl (nI_addE (a := 10) (b := j) rfl rfl) (by omega) (by decide) dX5_balkers_50 ?_
        simp only [List.set_cons_zero, List.set_cons_succ]
        rw [mMask_s]
        refine ww_iload_n C0 dX5_balkers_51 rfl ?_
        refine ww_aload_n C0 dX5_balkers_52 rfl ?_
        refine ww_get C0 (ci := 5) (C := RX5) (T := TX5) (N := 33) ku_X5 0 rfl rfl 15 (by decide) kw_X5_34 rfl dX5_balkers_53 ?_
        refine ww_iload C0 dX5_balkers_56 rfl ?_
        refine ww_iload_n C0 dX5_balkers_58 rfl ?_
        refine ww_perm (perm_mv 6 1 1 _) ?_
        simp only [List.drop_succ_cons, List.drop_zero, List.take_succ_cons, List.take_zero, List.cons_append, List.nil_append, Nat.reduceAdd]
        refine ww_callSi C0 (c_X5_toStone l D cI cZ cQ (by omega)) kd_X5_toStone kw_X5_119 ks_X5_toStone ki_X5 hd_X5_toStone ⟨Nat.le_of_ble_eq_true rfl, Nat.le_of_ble_eq_true rfl, rfl, rfl⟩ (Nat.le_of_ble_eq_true rfl) dX5_balkers_59 rfl rfl ⟨Nat.zero_le _, Nat.zero_le _⟩ ?_
        refine ww_perm (perm_mv 6 1 1 _) ?_
        simp only [List.drop_succ_cons, List.drop_zero, List.take_succ_cons, List.take_zero, List.cons_append, List.nil_append, Nat.reduceAdd]
        refine ww_bipush (v := (-9)) C0 dX5_balkers_62 rfl ?_
        refine ww_icmp_eq (tgt := 85) C0 dX5_balkers_64 (by decide) (fun h64 => ?_) (fun h64 => ?_)
        · skip
          refine ww_iconst (v := (0)) C0 dX5_balkers_85 rfl ?_
          refine ww_top (v' := mBalk1 nm na fmw fms fmv fmc fmp wa so j) (by simp [mBalk1, *]) ?_
          refine ww_iadd C0 dX5_balkers_86 ?_
          refine ww_istore_n (i := 3) C0 dX5_balkers_87 rfl (Nat.le_of_ble_eq_true rfl) rfl ?_
          simp only [List.set_cons_zero, List.set_cons_succ]
          refine ww_iinc (d := 1) C0 dX5_balkers_88 rfl rfl rfl ?_
          simp only [List.set_cons_zero, List.set_cons_succ]
          refine ww_goto (tgt := 9) C0 dX5_balkers_91 (by decide) ?_
          exact ww_back ih ⟨Or.inr rfl, Or.inr rfl, Or.inr rfl, Or.inr rfl, Or.inr (congrArg Value.int (nI_addE (a := j) (b := 1) rfl rfl).symm), trivial⟩ (by rfl)
        · skip
          refine ww_aload_n C0 dX5_balkers_67 rfl ?_
          refine ww_aload_n C0 dX5_balkers_68 rfl ?_
          refine ww_get C0 (ci := 5) (C := RX5) (T := TX5) (N := 33) ku_X5 0 rfl rfl 15 (by decide) kw_X5_34 rfl dX5_balkers_69 ?_
          refine ww_iload C0 dX5_balkers_72 rfl ?_
          refine ww_iload_n C0 dX5_balkers_74 rfl ?_
          refine ww_perm (perm_mv 6 1 1 _) ?_
          simp only [List.drop_succ_cons, List.drop_zero, List.take_succ_cons, List.take_zero, List.cons_append, List.nil_append, Nat.reduceAdd]
          refine ww_callVi C0 (qc := (RX5, TX5, 33)) 0 5 (c_X5_isBalking l D cI cZ cQ hnm hna hj) kd_X5_isBalking kw_X5_164 km_X5_isBalking kl_X5_isBalking ki_X5 hd_X5_isBalking rfl rfl ⟨Nat.le_of_ble_eq_true rfl, Nat.le_of_ble_eq_true rfl, rfl, rfl⟩ (Nat.le_of_ble_eq_true rfl) dX5_balkers_75 rfl rfl rfl ⟨Nat.zero_le _, Nat.zero_le _⟩ ?_
          refine ww_perm (perm_mv 6 1 1 _) ?_
          simp only [List.drop_succ_cons, List.drop_zero, List.take_succ_cons, List.take_zero, List.cons_append, List.nil_append, Nat.reduceAdd]
          refine ww_bif_eq (tgt := 85) C0 dX5_balkers_78 (by decide) (fun h78 => ?_) (fun h78 => ?_)
          · skip
            refine ww_iconst (v := (0)) C0 dX5_balkers_85 rfl ?_
            refine ww_top (v' := mBalk1 nm na fmw fms fmv fmc fmp wa so j) (by simp [mBalk1, *]) ?_
            refine ww_iadd C0 dX5_balkers_86 ?_
            refine ww_istore_n (i := 3) C0 dX5_balkers_87 rfl (Nat.le_of_ble_eq_true rfl) rfl ?_
            simp only [List.set_cons_zero, List.set_cons_succ]
            refine ww_iinc (d := 1) C0 dX5_balkers_88 rfl rfl rfl ?_
            simp only [List.set_cons_zero, List.set_cons_succ]
            refine ww_goto (tgt := 9) C0 dX5_balkers_91 (by decide) ?_
            exact ww_back ih ⟨Or.inr rfl, Or.inr rfl, Or.inr rfl, Or.inr rfl, Or.inr (congrArg Value.int (nI_addE (a := j) (b := 1) rfl rfl).symm), trivial⟩ (by rfl)
          · skip
            refine ww_iconst (v := (1)) C0 dX5_balkers_81 rfl ?_
            refine ww_goto (tgt := 86) C0 dX5_balkers_82 (by decide) ?_
            refine ww_top (v' := mBalk1 nm na fmw fms fmv fmc fmp wa so j) (by simp [mBalk1, *]) ?_
            refine ww_iadd C0 dX5_balkers_86 ?_
            refine ww_istore_n (i := 3) C0 dX5_balkers_87 rfl (Nat.le_of_ble_eq_true rfl) rfl ?_
            simp only [List.set_cons_zero, List.set_cons_succ]
            refine ww_iinc (d := 1) C0 dX5_balkers_88 rfl rfl rfl ?_
            simp only [List.set_cons_zero, List.set_cons_succ]
            refine ww_goto (tgt := 9) C0 dX5_balkers_91 (by decide) ?_
            exact ww_back ih ⟨Or.inr rfl, Or.inr rfl, Or.inr rfl, Or.inr rfl, Or.inr (congrArg Value.int (nI_addE (a := j) (b := 1) rfl rfl).symm), trivial⟩ (by rfl)
      · skip
        refine ww_iconst (v := (0)) C0 dX5_balkers_36 rfl ?_
        refine ww_goto (tgt := 50) C0 dX5_balkers_37 (by decide) ?_
        refine ww_top (v' := (if hbit so (nI j) then 0 else fmp (10 + j))) (by simp [*]) ?_
        refine ww_iast_n (j := 10 + j) C0 7 0 rfl rfl (nI_addE (a := 10) (b := j) rfl rfl) (by omega) (by decide) dX5_balkers_50 ?_
        simp only [List.set_cons_zero, List.set_cons_succ]
        rw [mMask_s]
        refine ww_iload_n C0 dX5_balkers_51 rfl ?_
        refine ww_aload_n C0 dX5_balkers_52 rfl ?_
        refine ww_get C0 (ci := 5) (C := RX5) (T := TX5) (N := 33) ku_X5 0 rfl rfl 15 (by decide) kw_X5_34 rfl dX5_balkers_53 ?_
        refine ww_iload C0 dX5_balkers_56 rfl ?_
        refine ww_iload_n C0 dX5_balkers_58 rfl ?_
        refine ww_perm (perm_mv 6 1 1 _) ?_
        simp only [List.drop_succ_cons, List.drop_zero, List.take_succ_cons, List.take_zero, List.cons_append, List.nil_append, Nat.reduceAdd]
        refine ww_callSi C0 (c_X5_toStone l D cI cZ cQ (by omega)) kd_X5_toStone kw_X5_119 ks_X5_toStone ki_X5 hd_X5_toStone ⟨Nat.le_of_ble_eq_true rfl, Nat.le_of_ble_eq_true rfl, rfl, rfl⟩ (Nat.le_of_ble_eq_true rfl) dX5_balkers_59 rfl rfl ⟨Nat.zero_le _, Nat.zero_le _⟩ ?_
        refine ww_perm (perm_mv 6 1 1 _) ?_
        simp only [List.drop_succ_cons, List.drop_zero, List.take_succ_cons, List.take_zero, List.cons_append, List.nil_append, Nat.reduceAdd]
        refine ww_bipush (v := (-9)) C0 dX5_balkers_62 rfl ?_
        refine ww_icmp_eq (tgt := 85) C0 dX5_balkers_64 (by decide) (fun h64 => ?_) (fun h64 => ?_)
        · skip
          refine ww_iconst (v := (0)) C0 dX5_balkers_85 rfl ?_
          refine ww_top (v' := mBalk1 nm na fmw fms fmv fmc fmp wa so j) (by simp [mBalk1, *]) ?_
          refine ww_iadd C0 dX5_balkers_86 ?_
          refine ww_istore_n (i := 3) C0 dX5_balkers_87 rfl (Nat.le_of_ble_eq_true rfl) rfl ?_
          simp only [List.set_cons_zero, List.set_cons_succ]
          refine ww_iinc (d := 1) C0 dX5_balkers_88 rfl rfl rfl ?_
          simp only [List.set_cons_zero, List.set_cons_succ]
          refine ww_goto (tgt := 9) C0 dX5_balkers_91 (by decide) ?_
          exact ww_back ih ⟨Or.inr rfl, Or.inr rfl, Or.inr rfl, Or.inr rfl, Or.inr (congrArg Value.int (nI_addE (a := j) (b := 1) rfl rfl).symm), trivial⟩ (by rfl)
        · skip
          refine ww_aload_n C0 dX5_balkers_67 rfl ?_
          refine ww_aload_n C0 dX5_balkers_68 rfl ?_
          refine ww_get C0 (ci := 5) (C := RX5) (T := TX5) (N := 33) ku_X5 0 rfl rfl 15 (by decide) kw_X5_34 rfl dX5_balkers_69 ?_
          refine ww_iload C0 dX5_balkers_72 rfl ?_
          refine ww_iload_n C0 dX5_balkers_74 rfl ?_
          refine ww_perm (perm_mv 6 1 1 _) ?_
          simp only [List.drop_succ_cons, List.drop_zero, List.take_succ_cons, List.take_zero, List.cons_append, List.nil_append, Nat.reduceAdd]
          refine ww_callVi C0 (qc := (RX5, TX5, 33)) 0 5 (c_X5_isBalking l D cI cZ cQ hnm hna hj) kd_X5_isBalking kw_X5_164 km_X5_isBalking kl_X5_isBalking ki_X5 hd_X5_isBalking rfl rfl ⟨Nat.le_of_ble_eq_true rfl, Nat.le_of_ble_eq_true rfl, rfl, rfl⟩ (Nat.le_of_ble_eq_true rfl) dX5_balkers_75 rfl rfl rfl ⟨Nat.zero_le _, Nat.zero_le _⟩ ?_
          refine ww_perm (perm_mv 6 1 1 _) ?_
          simp only [List.drop_succ_cons, List.drop_zero, List.take_succ_cons, List.take_zero, List.cons_append, List.nil_append, Nat.reduceAdd]
          refine ww_bif_eq (tgt := 85) C0 dX5_balkers_78 (by decide) (fun h78 => ?_) (fun h78 => ?_)
          · skip
            refine ww_iconst (v := (0)) C0 dX5_balkers_85 rfl ?_
            refine ww_top (v' := mBalk1 nm na fmw fms fmv fmc fmp wa so j) (by simp [mBalk1, *]) ?_
            refine ww_iadd C0 dX5_balkers_86 ?_
            refine ww_istore_n (i := 3) C0 dX5_balkers_87 rfl (Nat.le_of_ble_eq_true rfl) rfl ?_
            simp only [List.set_cons_zero, List.set_cons_succ]
            refine ww_iinc (d := 1) C0 dX5_balkers_88 rfl rfl rfl ?_
            simp only [List.set_cons_zero, List.set_cons_succ]
            refine ww_goto (tgt := 9) C0 dX5_balkers_91 (by decide) ?_
            exact ww_back ih ⟨Or.inr rfl, Or.inr rfl, Or.inr rfl, Or.inr rfl, Or.inr (congrArg Value.int (nI_addE (a := j) (b := 1) rfl rfl).symm), trivial⟩ (by rfl)
          · skip
            refine ww_iconst (v := (1)) C0 dX5_balkers_81 rfl ?_
            refine ww_goto (tgt := 86) C0 dX5_balkers_82 (by decide) ?_
            refine ww_top (v' := mBalk1 nm na fmw fms fmv fmc fmp wa so j) (by simp [mBalk1, *]) ?_
            refine ww_iadd C0 dX5_balkers_86 ?_
            refine ww_istore_n (i := 3) C0 dX5_balkers_87 rfl (Nat.le_of_ble_eq_true rfl) rfl ?_
            simp only [List.set_cons_zero, List.set_cons_succ]
            refine ww_iinc (d := 1) C0 dX5_balkers_88 rfl rfl rfl ?_
            simp only [List.set_cons_zero, List.set_cons_succ]
            refine ww_goto (tgt := 9) C0 dX5_balkers_91 (by decide) ?_
            exact ww_back ih ⟨Or.inr rfl, Or.inr rfl, Or.inr rfl, Or.inr rfl, Or.inr (congrArg Value.int (nI_addE (a := j) (b := 1) rfl rfl).symm), trivial⟩ (by rfl)
  · skip
    refine ww_iload C0 dX5_balkers_9 rfl ?_
    refine ww_aload_n C0 dX5_balkers_11 rfl ?_
    refine ww_get C0 (ci := 5) (C := RX5) (T := TX5) (N := 33) ku_X5 0 rfl rfl 4 (by decide) kw_X5_72 rfl dX5_balkers_12 ?_
    refine ww_icmp_ge (tgt := 94) C0 dX5_balkers_15 (by decide) (fun h15 => ?_) (fun h15 => ?_)
    · skip
      replace h15 := (nI_leE (a := nm) (b := nm) rfl rfl (by omega) (by omega)).mp h15
      refine ww_iload_n C0 dX5_balkers_94 rfl ?_
      exact ww_iret C0 hr dX5_balkers_95 (by rfl) (by rfl)
    · skip
      replace h15 := (not_congr (nI_leE (a := nm) (b := nm) rfl rfl (by omega) (by omega))).mp h15
      exfalso; omega

set_option maxHeartbeats 4000000 in
set_option maxRecDepth 100000 in
theorem c_X5_forgets_b (l : Launch) (D : va_G) (cI cZ cQ : ClassId) {aM amt amc amw ams amv amr amx amp amq amb amk amz am0 am1 am2 am3 am4 amh amo : Nat} {tn nm na ac gn : Nat} {th vpl vrm vra x0 x1 x2 x3 : Int32} {sd : Int64} {rest : va_W} {wa mm x : Int32} {u : Bool} (hb : (isN 2 wa && isN 6 mm && isN 11 x) = false) : MI l D [(cI, .int), (cZ, .boolean), (cQ, .object "MulesRemember$State")] yX5_forgets cX5_forgets 8 .int ({ frames := 5, cells := 0, slots := 0, locals := 123 } : Room) [.ref aM, .int wa, .int mm, .int x, .int (bI u)] ((aM, .inr (5, [.int th, .ref amt, .int (nI tn), .int vpl, .int (nI nm), .ref amc, .int (nI na), .ref amw, .ref ams, .ref amv, .int vrm, .ref amr, .int vra, .ref amx, .ref amp, .ref amq, .ref amb, .int (nI ac), .ref amk, .ref amz, .int (nI gn), .ref am0, .ref am1, .ref am2, .ref am3, .ref am4, .long sd, .ref amh, .int x0, .int x1, .int x2, .int x3, .ref amo])) :: rest) (-2) ((aM, .inr (5, [.int 0, .ref amt, .int (nI tn), .int vpl, .int (nI nm), .ref amc, .int (nI na), .ref amw, .ref ams, .ref amv, .int vrm, .ref amr, .int vra, .ref amx, .ref amp, .ref amq, .ref amb, .int (nI ac), .ref amk, .ref amz, .int (nI gn), .ref am0, .ref am1, .ref am2, .ref am3, .ref am4, .long sd, .ref amh, .int x0, .int x1, .int x2, .int x3, .ref amo])) :: rest) := by
  refine MI.of [.ref aM, .int wa, .int mm, .int x, .int (bI u), .null, .null, .null] (by decide) (Nat.le_of_ble_eq_true rfl) rfl ?_
  intro p e s m below meth c A C0 hr
  refine ww_aload_n C0 dX5_forgets_0 rfl ?_
  refine ww_iconst (v := (0)) C0 dX5_forgets_1 rfl ?_
  refine ww_put C0 (ci := 5) (C := RX5) (T := TX5) (N := 33) ku_X5 0 rfl rfl 0 (by decide) tyX5 tyX5_ok nmX5 kw_X5_68 rfl (ty := .int) (by decide +kernel) rfl rfl (Nat.le_of_ble_eq_true rfl) dX5_forgets_2 ?_
  simp only [List.set_cons_zero, List.set_cons_succ]
  refine ww_iload_n C0 dX5_forgets_5 rfl ?_
  refine ww_i2l C0 dX5_forgets_6 ?_
  refine ww_lconst (v := 0) C0 dX5_forgets_7 rfl ?_
  refine ww_lconst (v := 1) C0 dX5_forgets_8 rfl ?_
  refine ww_callSi C0 (c_X5_in0 l D cI cZ cQ 2 (by decide) (by decide)) kd_X5_in kw_X5_75 ks_X5_in ki_X5 hd_X5_in ⟨Nat.le_of_ble_eq_true rfl, Nat.le_of_ble_eq_true rfl, rfl, rfl⟩ (Nat.le_of_ble_eq_true rfl) dX5_forgets_9 rfl rfl ⟨Nat.zero_le _, Nat.zero_le _⟩ ?_
  refine ww_bif_eq (tgt := 39) C0 dX5_forgets_12 (by decide) (fun h12 => ?_) (fun h12 => ?_)
  · skip
    refine ww_bipush (v := (-2)) C0 dX5_forgets_39 rfl ?_
    exact ww_iret C0 hr dX5_forgets_41 (by rfl) (by rfl)
  · skip
    refine ww_iload_n C0 dX5_forgets_15 rfl ?_
    refine ww_i2l C0 dX5_forgets_16 ?_
    refine ww_lconst (v := 0) C0 dX5_forgets_17 rfl ?_
    refine ww_ldc2 C0 kw_X5_185 dX5_forgets_18 ?_
    refine ww_callSi C0 (c_X5_in0 l D cI cZ cQ 6 (by decide) (by decide)) kd_X5_in kw_X5_75 ks_X5_in ki_X5 hd_X5_in ⟨Nat.le_of_ble_eq_true rfl, Nat.le_of_ble_eq_true rfl, rfl, rfl⟩ (Nat.le_of_ble_eq_true rfl) dX5_forgets_21 rfl rfl ⟨Nat.zero_le _, Nat.zero_le _⟩ ?_
    refine ww_bif_eq (tgt := 39) C0 dX5_forgets_24 (by decide) (fun h24 => ?_) (fun h24 => ?_)
    · skip
      refine ww_bipush (v := (-2)) C0 dX5_forgets_39 rfl ?_
      exact ww_iret C0 hr dX5_forgets_41 (by rfl) (by rfl)
    · skip
      refine ww_iload_n C0 dX5_forgets_27 rfl ?_
      refine ww_i2l C0 dX5_forgets_28 ?_
      refine ww_lconst (v := 0) C0 dX5_forgets_29 rfl ?_
      refine ww_ldc2 C0 kw_X5_233 dX5_forgets_30 ?_
      refine ww_callSi C0 (c_X5_in0 l D cI cZ cQ 11 (by decide) (by decide)) kd_X5_in kw_X5_75 ks_X5_in ki_X5 hd_X5_in ⟨Nat.le_of_ble_eq_true rfl, Nat.le_of_ble_eq_true rfl, rfl, rfl⟩ (Nat.le_of_ble_eq_true rfl) dX5_forgets_33 rfl rfl ⟨Nat.zero_le _, Nat.zero_le _⟩ ?_
      refine ww_bif_ne (tgt := 42) C0 dX5_forgets_36 (by decide) (fun h36 => ?_) (fun h36 => ?_)
      · skip
        exact absurd hb (by rw [h12, h24, h36]; decide)
      · skip
        refine ww_bipush (v := (-2)) C0 dX5_forgets_39 rfl ?_
        exact ww_iret C0 hr dX5_forgets_41 (by rfl) (by rfl)

set_option maxHeartbeats 4000000 in
set_option maxRecDepth 100000 in
theorem c_X5_forgets (l : Launch) (D : va_G) (cI cZ cQ : ClassId) {aM amt amc amw ams amv amr amx amp amq amb amk amz am0 am1 am2 am3 am4 amh amo : Nat} {tn nm na ac gn : Nat} {th vpl vrm vra x0 x1 x2 x3 : Int32} {sd : Int64} {fmt fmc fmw fms fmv fmp fmq : Nat → Int32} {rest : va_W} {wa mm x : Int32} {u : Bool} {Z : Nat} {cnt : Nat → Int32} (hnm : nm ≤ 5) (hna : na ≤ 5) (h1s : isN 2 wa = true) (h2s : isN 6 mm = true) (h3s : isN 11 x = true) (hc : ∀ t, cnt t = sumI (mBalk1 nm na fmw fms fmv fmc fmp wa (nI t)) nm) (hZ : sumI (mForget cnt mm x nm) (2 ^ nm) = nI Z) (hZb : Z < 2 ^ 31) : MI l D [(cI, .int), (cZ, .boolean), (cQ, .object "MulesRemember$State")] yX5_forgets cX5_forgets 8 .int ({ frames := 5, cells := 0, slots := 0, locals := 123 } : Room) [.ref aM, .int wa, .int mm, .int x, .int (bI u)] ((aM, .inr (5, [.int th, .ref amt, .int (nI tn), .int vpl, .int (nI nm), .ref amc, .int (nI na), .ref amw, .ref ams, .ref amv, .int vrm, .ref amr, .int vra, .ref amx, .ref amp, .ref amq, .ref amb, .int (nI ac), .ref amk, .ref amz, .int (nI gn), .ref am0, .ref am1, .ref am2, .ref am3, .ref am4, .long sd, .ref amh, .int x0, .int x1, .int x2, .int x3, .ref amo])) :: (amt, .inl (cI, 48, .inl (fmt))) :: (amc, .inl (cI, 5, .inl (fmc))) :: (amw, .inl (cI, 5, .inl (fmw))) :: (ams, .inl (cI, 5, .inl (fms))) :: (amv, .inl (cI, 5, .inl (fmv))) :: (amp, .inl (cI, 17, .inl (fmp))) :: (amq, .inl (cI, 17, .inl (fmq))) :: rest) (sFrac Z (10 ^ nm) u) ((aM, .inr (5, [.int 0, .ref amt, .int (nI tn), .int vpl, .int (nI nm), .ref amc, .int (nI na), .ref amw, .ref ams, .ref amv, .int vrm, .ref amr, .int vra, .ref amx, .ref amp, .ref amq, .ref amb, .int (nI ac), .ref amk, .ref amz, .int (nI gn), .ref am0, .ref am1, .ref am2, .ref am3, .ref am4, .long sd, .ref amh, .int x0, .int x1, .int x2, .int x3, .ref amo])) :: (amt, .inl (cI, 48, .inl (fmt))) :: (amc, .inl (cI, 5, .inl (fmc))) :: (amw, .inl (cI, 5, .inl (fmw))) :: (ams, .inl (cI, 5, .inl (fms))) :: (amv, .inl (cI, 5, .inl (fmv))) :: (amp, .inl (cI, 17, .inl (fmp))) :: (amq, .inl (cI, 17, .inl ((if 2 ^ nm = 0 then fmq else mMask fmp (nI (2 ^ nm - 1)) nm)))) :: rest) := by
  refine MI.of [.ref aM, .int wa, .int mm, .int x, .int (bI u), .null, .null, .null] (by decide) (Nat.le_of_ble_eq_true rfl) rfl ?_
  intro p e s m below meth c A C0 hr
  have hp := pow5 hnm
  refine ww_aload_n C0 dX5_forgets_0 rfl ?_
  refine ww_iconst (v := (0)) C0 dX5_forgets_1 rfl ?_
  refine ww_put C0 (ci := 5) (C := RX5) (T := TX5) (N := 33) ku_X5 0 rfl rfl 0 (by decide) tyX5 tyX5_ok nmX5 kw_X5_68 rfl (ty := .int) (by decide +kernel) rfl rfl (Nat.le_of_ble_eq_true rfl) dX5_forgets_2 ?_
  simp only [List.set_cons_zero, List.set_cons_succ]
  refine ww_iload_n C0 dX5_forgets_5 rfl ?_
  refine ww_i2l C0 dX5_forgets_6 ?_
  refine ww_lconst (v := 0) C0 dX5_forgets_7 rfl ?_
  refine ww_lconst (v := 1) C0 dX5_forgets_8 rfl ?_
  refine ww_callSi C0 (c_X5_in0 l D cI cZ cQ 2 (by decide) (by decide)) kd_X5_in kw_X5_75 ks_X5_in ki_X5 hd_X5_in ⟨Nat.le_of_ble_eq_true rfl, Nat.le_of_ble_eq_true rfl, rfl, rfl⟩ (Nat.le_of_ble_eq_true rfl) dX5_forgets_9 rfl rfl ⟨Nat.zero_le _, Nat.zero_le _⟩ ?_
  refine ww_bif_eq (tgt := 39) C0 dX5_forgets_12 (by decide) (fun h12 => ?_) (fun h12 => ?_)
  · skip
    exact absurd h1s (by rw [h12]; decide)
  · skip
    refine ww_iload_n C0 dX5_forgets_15 rfl ?_
    refine ww_i2l C0 dX5_forgets_16 ?_
    refine ww_lconst (v := 0) C0 dX5_forgets_17 rfl ?_
    refine ww_ldc2 C0 kw_X5_185 dX5_forgets_18 ?_
    refine ww_callSi C0 (c_X5_in0 l D cI cZ cQ 6 (by decide) (by decide)) kd_X5_in kw_X5_75 ks_X5_in ki_X5 hd_X5_in ⟨Nat.le_of_ble_eq_true rfl, Nat.le_of_ble_eq_true rfl, rfl, rfl⟩ (Nat.le_of_ble_eq_true rfl) dX5_forgets_21 rfl rfl ⟨Nat.zero_le _, Nat.zero_le _⟩ ?_
    refine ww_bif_eq (tgt := 39) C0 dX5_forgets_24 (by decide) (fun h24 => ?_) (fun h24 => ?_)
    · skip
      exact absurd h2s (by rw [h24]; decide)
    · skip
      refine ww_iload_n C0 dX5_forgets_27 rfl ?_
      refine ww_i2l C0 dX5_forgets_28 ?_
      refine ww_lconst (v := 0) C0 dX5_forgets_29 rfl ?_
      refine ww_ldc2 C0 kw_X5_233 dX5_forgets_30 ?_
      refine ww_callSi C0 (c_X5_in0 l D cI cZ cQ 11 (by decide) (by decide)) kd_X5_in kw_X5_75 ks_X5_in ki_X5 hd_X5_in ⟨Nat.le_of_ble_eq_true rfl, Nat.le_of_ble_eq_true rfl, rfl, rfl⟩ (Nat.le_of_ble_eq_true rfl) dX5_forgets_33 rfl rfl ⟨Nat.zero_le _, Nat.zero_le _⟩ ?_
      refine ww_bif_ne (tgt := 42) C0 dX5_forgets_36 (by decide) (fun h36 => ?_) (fun h36 => ?_)
      · skip
        refine ww_iconst (v := (0)) C0 dX5_forgets_42 rfl ?_
        refine ww_istore (i := 5) C0 dX5_forgets_43 (Nat.le_of_ble_eq_true rfl) rfl ?_
        simp only [List.set_cons_zero, List.set_cons_succ]
        refine ww_iconst (v := (0)) C0 dX5_forgets_45 rfl ?_
        refine ww_istore (i := 6) C0 dX5_forgets_46 (Nat.le_of_ble_eq_true rfl) rfl ?_
        simp only [List.set_cons_zero, List.set_cons_succ]
        refine ww_back (ww_loop (pc := 48) 0 (2 ^ nm) (by omega) (fun j => [_, _, _, _, _, .int (sumI (mForget cnt mm x nm) j), .int (nI j), .null]) (fun j => (aM, .inr (5, [.int 0, .ref amt, .int (nI tn), .int vpl, .int (nI nm), .ref amc, .int (nI na), .ref amw, .ref ams, .ref amv, .int vrm, .ref amr, .int vra, .ref amx, .ref amp, .ref amq, .ref amb, .int (nI ac), .ref amk, .ref amz, .int (nI gn), .ref am0, .ref am1, .ref am2, .ref am3, .ref am4, .long sd, .ref amh, .int x0, .int x1, .int x2, .int x3, .ref amo])) :: (amt, .inl (cI, 48, .inl (fmt))) :: (amc, .inl (cI, 5, .inl (fmc))) :: (amw, .inl (cI, 5, .inl (fmw))) :: (ams, .inl (cI, 5, .inl (fms))) :: (amv, .inl (cI, 5, .inl (fmv))) :: (amp, .inl (cI, 17, .inl (fmp))) :: (amq, .inl (cI, 17, .inl ((if j = 0 then fmq else mMask fmp (nI (j - 1)) nm)))) :: rest) ?_ ?_) ⟨Or.inr rfl, Or.inr rfl, Or.inr rfl, Or.inr rfl, Or.inr rfl, Or.inr rfl, Or.inr rfl, Or.inl rfl, trivial⟩ (by rfl)
        · intro j hj0 hj ih
          refine ww_iload C0 dX5_forgets_48 rfl ?_
          refine ww_iconst (v := (1)) C0 dX5_forgets_50 rfl ?_
          refine ww_aload_n C0 dX5_forgets_51 rfl ?_
          refine ww_get C0 (ci := 5) (C := RX5) (T := TX5) (N := 33) ku_X5 0 rfl rfl 4 (by decide) kw_X5_72 rfl dX5_forgets_52 ?_
          refine ww_ishl C0 dX5_forgets_55 ?_
          refine ww_top (shl_nI hnm) ?_
          refine ww_icmp_ge (tgt := 113) C0 dX5_forgets_56 (by decide) (fun h56 => ?_) (fun h56 => ?_)
          · skip
            replace h56 := (nI_leE (a := 2 ^ nm) (b := j) rfl rfl (by omega) (by omega)).mp h56
            exfalso; omega
          · skip
            replace h56 := (not_congr (nI_leE (a := 2 ^ nm) (b := j) rfl rfl (by omega) (by omega))).mp h56
            refine ww_iload C0 dX5_forgets_59 rfl ?_
            have hpc := pcN_nI j (by omega)
            have hpo := pcN_bit nm hnm j hj
            refine ww_callSi C0 (c_X5_many l D cI cZ cQ) kd_X5_many kw_X5_161 ks_X5_many ki_X5 hd_X5_many ⟨Nat.le_of_ble_eq_true rfl, Nat.le_of_ble_eq_true rfl, rfl, rfl⟩ (Nat.le_of_ble_eq_true rfl) dX5_forgets_61 rfl rfl ⟨Nat.zero_le _, Nat.zero_le _⟩ ?_
            refine ww_top hpc.1 ?_
            refine ww_istore (i := 7) C0 dX5_forgets_64 (Nat.le_of_ble_eq_true rfl) rfl ?_
            simp only [List.set_cons_zero, List.set_cons_succ]
            refine ww_iload C0 dX5_forgets_66 rfl ?_
            refine ww_aload_n C0 dX5_forgets_68 rfl ?_
            refine ww_iload_n C0 dX5_forgets_69 rfl ?_
            refine ww_iload C0 dX5_forgets_70 rfl ?_
            refine ww_callVi C0 (qc := (RX5, TX5, 33)) 0 5 (c_X5_balkers l D cI cZ cQ hnm hna) kd_X5_balkers kw_X5_235 km_X5_balkers kl_X5_balkers ki_X5 hd_X5_balkers rfl rfl ⟨Nat.le_of_ble_eq_true rfl, Nat.le_of_ble_eq_true rfl, rfl, rfl⟩ (Nat.le_of_ble_eq_true rfl) dX5_forgets_72 rfl rfl rfl ⟨Nat.zero_le _, Nat.zero_le _⟩ ?_
            refine ww_top (v' := cnt j) (hc j).symm ?_
            refine ww_iload_n C0 dX5_forgets_75 rfl ?_
            refine ww_icmp_lt (tgt := 103) C0 dX5_forgets_76 (by decide) (fun h76 => ?_) (fun h76 => ?_)
            · skip
              refine ww_iconst (v := (0)) C0 dX5_forgets_103 rfl ?_
              refine ww_top (v' := (mForget cnt mm x nm) j) (by simp only [mForget, h76, if_true, if_false]) ?_
              refine ww_iadd C0 dX5_forgets_104 ?_
              refine ww_istore (i := 5) C0 dX5_forgets_105 (Nat.le_of_ble_eq_true rfl) rfl ?_
              simp only [List.set_cons_zero, List.set_cons_succ]
              refine ww_iinc (d := 1) C0 dX5_forgets_107 rfl rfl rfl ?_
              simp only [List.set_cons_zero, List.set_cons_succ]
              refine ww_goto (tgt := 48) C0 dX5_forgets_110 (by decide) ?_
              exact ww_back ih ⟨Or.inr rfl, Or.inr rfl, Or.inr rfl, Or.inr rfl, Or.inr rfl, Or.inr rfl, Or.inr (congrArg Value.int (nI_addE (a := j) (b := 1) rfl rfl).symm), Or.inl rfl, trivial⟩ (by rfl)
            · skip
              refine ww_iload_n C0 dX5_forgets_79 rfl ?_
              refine ww_iload C0 dX5_forgets_80 rfl ?_
              refine ww_callSi C0 (c_X5_power l D cI cZ cQ (by omega)) kd_X5_power kw_X5_189 ks_X5_power ki_X5 hd_X5_power ⟨Nat.le_of_ble_eq_true rfl, Nat.le_of_ble_eq_true rfl, rfl, rfl⟩ (Nat.le_of_ble_eq_true rfl) dX5_forgets_82 rfl rfl ⟨Nat.zero_le _, Nat.zero_le _⟩ ?_
              refine ww_bipush (v := (10)) C0 dX5_forgets_85 rfl ?_
              refine ww_iload_n C0 dX5_forgets_87 rfl ?_
              refine ww_isub C0 dX5_forgets_88 ?_
              refine ww_aload_n C0 dX5_forgets_89 rfl ?_
              refine ww_get C0 (ci := 5) (C := RX5) (T := TX5) (N := 33) ku_X5 0 rfl rfl 4 (by decide) kw_X5_72 rfl dX5_forgets_90 ?_
              refine ww_iload C0 dX5_forgets_93 rfl ?_
              refine ww_isub C0 dX5_forgets_95 ?_
              refine ww_top (nI_subE (a := nm) (b := pcN j) rfl rfl (by omega)) ?_
              refine ww_callSi C0 (c_X5_power l D cI cZ cQ (by omega)) kd_X5_power kw_X5_189 ks_X5_power ki_X5 hd_X5_power ⟨Nat.le_of_ble_eq_true rfl, Nat.le_of_ble_eq_true rfl, rfl, rfl⟩ (Nat.le_of_ble_eq_true rfl) dX5_forgets_96 rfl rfl ⟨Nat.zero_le _, Nat.zero_le _⟩ ?_
              refine ww_imul C0 dX5_forgets_99 ?_
              refine ww_goto (tgt := 104) C0 dX5_forgets_100 (by decide) ?_
              refine ww_top (v' := (mForget cnt mm x nm) j) (by simp only [mForget, h76, if_true, if_false]) ?_
              refine ww_iadd C0 dX5_forgets_104 ?_
              refine ww_istore (i := 5) C0 dX5_forgets_105 (Nat.le_of_ble_eq_true rfl) rfl ?_
              simp only [List.set_cons_zero, List.set_cons_succ]
              refine ww_iinc (d := 1) C0 dX5_forgets_107 rfl rfl rfl ?_
              simp only [List.set_cons_zero, List.set_cons_succ]
              refine ww_goto (tgt := 48) C0 dX5_forgets_110 (by decide) ?_
              exact ww_back ih ⟨Or.inr rfl, Or.inr rfl, Or.inr rfl, Or.inr rfl, Or.inr rfl, Or.inr rfl, Or.inr (congrArg Value.int (nI_addE (a := j) (b := 1) rfl rfl).symm), Or.inl rfl, trivial⟩ (by rfl)
        · skip
          refine ww_iload C0 dX5_forgets_48 rfl ?_
          refine ww_iconst (v := (1)) C0 dX5_forgets_50 rfl ?_
          refine ww_aload_n C0 dX5_forgets_51 rfl ?_
          refine ww_get C0 (ci := 5) (C := RX5) (T := TX5) (N := 33) ku_X5 0 rfl rfl 4 (by decide) kw_X5_72 rfl dX5_forgets_52 ?_
          refine ww_ishl C0 dX5_forgets_55 ?_
          refine ww_top (shl_nI hnm) ?_
          refine ww_icmp_ge (tgt := 113) C0 dX5_forgets_56 (by decide) (fun h56 => ?_) (fun h56 => ?_)
          · skip
            replace h56 := (nI_leE (a := 2 ^ nm) (b := (2 ^ nm)) rfl rfl (by omega) (by omega)).mp h56
            refine ww_iload C0 dX5_forgets_113 rfl ?_
            refine ww_top hZ ?_
            refine ww_bipush (v := (10)) C0 dX5_forgets_115 rfl ?_
            refine ww_aload_n C0 dX5_forgets_117 rfl ?_
            refine ww_get C0 (ci := 5) (C := RX5) (T := TX5) (N := 33) ku_X5 0 rfl rfl 4 (by decide) kw_X5_72 rfl dX5_forgets_118 ?_
            refine ww_callSi C0 (c_X5_power l D cI cZ cQ (by omega)) kd_X5_power kw_X5_189 ks_X5_power ki_X5 hd_X5_power ⟨Nat.le_of_ble_eq_true rfl, Nat.le_of_ble_eq_true rfl, rfl, rfl⟩ (Nat.le_of_ble_eq_true rfl) dX5_forgets_121 rfl rfl ⟨Nat.zero_le _, Nat.zero_le _⟩ ?_
            refine ww_top (mPow_nI 10 nm) ?_
            refine ww_iload C0 dX5_forgets_124 rfl ?_
            refine ww_callSi C0 (c_X5_fraction l D cI cZ cQ hZb (by have := pw10 hnm; omega) (Nat.pow_pos (by decide))) kd_X5_fraction kw_X5_204 ks_X5_fraction ki_X5 hd_X5_fraction ⟨Nat.le_of_ble_eq_true rfl, Nat.le_of_ble_eq_true rfl, rfl, rfl⟩ (Nat.le_of_ble_eq_true rfl) dX5_forgets_126 rfl rfl ⟨Nat.zero_le _, Nat.zero_le _⟩ ?_
            exact ww_iret C0 hr dX5_forgets_129 (by rfl) (by rfl)
          · skip
            replace h56 := (not_congr (nI_leE (a := 2 ^ nm) (b := (2 ^ nm)) rfl rfl (by omega) (by omega))).mp h56
            exfalso; omega
      · skip
        exact absurd h3s (by rw [h36]; decide)

set_option maxHeartbeats 4000000 in
set_option maxRecDepth 100000 in
theorem c_X5_years_b (l : Launch) (D : va_G) (cI cZ cQ : ClassId) {aM amt amc amw ams amv amr amx amp amq amb amk amz am0 am1 am2 am3 am4 amh amo : Nat} {tn nm na ac gn : Nat} {th vpl vrm vra x0 x1 x2 x3 : Int32} {sd : Int64} {rest : va_W} {n : Int32} (hb : isB 1 30 n = false) : MI l D [(cI, .int), (cZ, .boolean), (cQ, .object "MulesRemember$State")] yX5_years cX5_years 5 .int ({ frames := 4, cells := 0, slots := 0, locals := 99 } : Room) [.ref aM, .int n] ((aM, .inr (5, [.int th, .ref amt, .int (nI tn), .int vpl, .int (nI nm), .ref amc, .int (nI na), .ref amw, .ref ams, .ref amv, .int vrm, .ref amr, .int vra, .ref amx, .ref amp, .ref amq, .ref amb, .int (nI ac), .ref amk, .ref amz, .int (nI gn), .ref am0, .ref am1, .ref am2, .ref am3, .ref am4, .long sd, .ref amh, .int x0, .int x1, .int x2, .int x3, .ref amo])) :: rest) (-2) ((aM, .inr (5, [.int 0, .ref amt, .int (nI tn), .int vpl, .int (nI nm), .ref amc, .int (nI na), .ref amw, .ref ams, .ref amv, .int vrm, .ref amr, .int vra, .ref amx, .ref amp, .ref amq, .ref amb, .int (nI ac), .ref amk, .ref amz, .int (nI gn), .ref am0, .ref am1, .ref am2, .ref am3, .ref am4, .long sd, .ref amh, .int x0, .int x1, .int x2, .int x3, .ref amo])) :: rest) := by
  refine MI.of [.ref aM, .int n, .null, .null, .null] (by decide) (Nat.le_of_ble_eq_true rfl) rfl ?_
  intro p e s m below meth c A C0 hr
  refine ww_aload_n C0 dX5_years_0 rfl ?_
  refine ww_iconst (v := (0)) C0 dX5_years_1 rfl ?_
  refine ww_put C0 (ci := 5) (C := RX5) (T := TX5) (N := 33) ku_X5 0 rfl rfl 0 (by decide) tyX5 tyX5_ok nmX5 kw_X5_68 rfl (ty := .int) (by decide +kernel) rfl rfl (Nat.le_of_ble_eq_true rfl) dX5_years_2 ?_
  simp only [List.set_cons_zero, List.set_cons_succ]
  refine ww_iload_n C0 dX5_years_5 rfl ?_
  refine ww_i2l C0 dX5_years_6 ?_
  refine ww_lconst (v := 1) C0 dX5_years_7 rfl ?_
  refine ww_ldc2 C0 kw_X5_242 dX5_years_8 ?_
  refine ww_callSi C0 (c_X5_inB l D cI cZ cQ (a := nI 1) (b := nI 30) (by decide) (by decide)) kd_X5_in kw_X5_75 ks_X5_in ki_X5 hd_X5_in ⟨Nat.le_of_ble_eq_true rfl, Nat.le_of_ble_eq_true rfl, rfl, rfl⟩ (Nat.le_of_ble_eq_true rfl) dX5_years_11 rfl rfl ⟨Nat.zero_le _, Nat.zero_le _⟩ ?_
  refine ww_bif_ne (tgt := 20) C0 dX5_years_14 (by decide) (fun h14 => ?_) (fun h14 => ?_)
  · skip
    exact absurd hb (by rw [show isB 1 30 n = true from h14]; decide)
  · skip
    refine ww_bipush (v := (-2)) C0 dX5_years_17 rfl ?_
    exact ww_iret C0 hr dX5_years_19 (by rfl) (by rfl)

set_option maxHeartbeats 4000000 in
set_option maxRecDepth 100000 in
theorem c_X5_years (l : Launch) (D : va_G) (cI cZ cQ : ClassId) {aM amt amc amw ams amv amr amx amp amq amb amk amz am0 am1 am2 am3 am4 amh amo : Nat} {tn nm na ac gn : Nat} {th vpl vrm vra x0 x1 x2 x3 : Int32} {sd : Int64} {fmt fmc fmw fms fmv fmp fmq : Nat → Int32} {rest : va_W} {n : Nat} (hnm : nm ≤ 5) (hna : na ≤ 5) (hn1 : 1 ≤ n) (hn2 : n ≤ 30) : MI l D [(cI, .int), (cZ, .boolean), (cQ, .object "MulesRemember$State")] yX5_years cX5_years 5 .int ({ frames := 4, cells := 0, slots := 0, locals := 99 } : Room) [.ref aM, .int (nI n)] ((aM, .inr (5, [.int th, .ref amt, .int (nI tn), .int vpl, .int (nI nm), .ref amc, .int (nI na), .ref amw, .ref ams, .ref amv, .int vrm, .ref amr, .int vra, .ref amx, .ref amp, .ref amq, .ref amb, .int (nI ac), .ref amk, .ref amz, .int (nI gn), .ref am0, .ref am1, .ref am2, .ref am3, .ref am4, .long sd, .ref amh, .int x0, .int x1, .int x2, .int x3, .ref amo])) :: (amt, .inl (cI, 48, .inl (fmt))) :: (amc, .inl (cI, 5, .inl (fmc))) :: (amw, .inl (cI, 5, .inl (fmw))) :: (ams, .inl (cI, 5, .inl (fms))) :: (amv, .inl (cI, 5, .inl (fmv))) :: (amp, .inl (cI, 17, .inl (fmp))) :: (amq, .inl (cI, 17, .inl (fmq))) :: rest) ((mYears nm na fmw fms fmv fmc sd fmp n).2 16 - fmp 16) ((aM, .inr (5, [.int 0, .ref amt, .int (nI tn), .int vpl, .int (nI nm), .ref amc, .int (nI na), .ref amw, .ref ams, .ref amv, .int vrm, .ref amr, .int vra, .ref amx, .ref amp, .ref amq, .ref amb, .int (nI ac), .ref amk, .ref amz, .int (nI gn), .ref am0, .ref am1, .ref am2, .ref am3, .ref am4, .long (mYears nm na fmw fms fmv fmc sd fmp n).1, .ref amh, .int x0, .int x1, .int x2, .int x3, .ref amo])) :: (amt, .inl (cI, 48, .inl (fmt))) :: (amc, .inl (cI, 5, .inl (fmc))) :: (amw, .inl (cI, 5, .inl (fmw))) :: (ams, .inl (cI, 5, .inl (fms))) :: (amv, .inl (cI, 5, .inl (fmv))) :: (amp, .inl (cI, 17, .inl (fmp))) :: (amq, .inl (cI, 17, .inl ((mYears nm na fmw fms fmv fmc sd fmp n).2))) :: rest) := by
  refine MI.of [.ref aM, .int (nI n), .null, .null, .null] (by decide) (Nat.le_of_ble_eq_true rfl) rfl ?_
  intro p e s m below meth c A C0 hr
  refine ww_aload_n C0 dX5_years_0 rfl ?_
  refine ww_iconst (v := (0)) C0 dX5_years_1 rfl ?_
  refine ww_put C0 (ci := 5) (C := RX5) (T := TX5) (N := 33) ku_X5 0 rfl rfl 0 (by decide) tyX5 tyX5_ok nmX5 kw_X5_68 rfl (ty := .int) (by decide +kernel) rfl rfl (Nat.le_of_ble_eq_true rfl) dX5_years_2 ?_
  simp only [List.set_cons_zero, List.set_cons_succ]
  refine ww_iload_n C0 dX5_years_5 rfl ?_
  refine ww_i2l C0 dX5_years_6 ?_
  refine ww_lconst (v := 1) C0 dX5_years_7 rfl ?_
  refine ww_ldc2 C0 kw_X5_242 dX5_years_8 ?_
  refine ww_callSi C0 (c_X5_inB l D cI cZ cQ (a := nI 1) (b := nI 30) (by decide) (by decide)) kd_X5_in kw_X5_75 ks_X5_in ki_X5 hd_X5_in ⟨Nat.le_of_ble_eq_true rfl, Nat.le_of_ble_eq_true rfl, rfl, rfl⟩ (Nat.le_of_ble_eq_true rfl) dX5_years_11 rfl rfl ⟨Nat.zero_le _, Nat.zero_le _⟩ ?_
  refine ww_bif_ne (tgt := 20) C0 dX5_years_14 (by decide) (fun h14 => ?_) (fun h14 => ?_)
  · skip
    refine ww_aload_n C0 dX5_years_20 rfl ?_
    refine ww_callVv C0 (qc := (RX5, TX5, 33)) 0 5 (c_X5_begin l D cI cZ cQ) kd_X5_begin kw_X5_175 km_X5_begin kl_X5_begin ki_X5 hd_X5_begin rfl rfl ⟨Nat.le_of_ble_eq_true rfl, Nat.le_of_ble_eq_true rfl, rfl, rfl⟩ (Nat.le_of_ble_eq_true rfl) dX5_years_21 rfl rfl rfl ⟨Nat.zero_le _, Nat.zero_le _⟩ ?_
    refine ww_iconst (v := (0)) C0 dX5_years_24 rfl ?_
    refine ww_istore_n (i := 2) C0 dX5_years_25 rfl (Nat.le_of_ble_eq_true rfl) rfl ?_
    simp only [List.set_cons_zero, List.set_cons_succ]
    refine ww_back (ww_loop (pc := 26) 0 (n) (by omega) (fun j => [_, _, .int (nI j), .null, .null]) (fun j => (aM, .inr (5, [.int 0, .ref amt, .int (nI tn), .int vpl, .int (nI nm), .ref amc, .int (nI na), .ref amw, .ref ams, .ref amv, .int vrm, .ref amr, .int vra, .ref amx, .ref amp, .ref amq, .ref amb, .int (nI ac), .ref amk, .ref amz, .int (nI gn), .ref am0, .ref am1, .ref am2, .ref am3, .ref am4, .long (mYears nm na fmw fms fmv fmc sd fmp j).1, .ref amh, .int x0, .int x1, .int x2, .int x3, .ref amo])) :: (amt, .inl (cI, 48, .inl (fmt))) :: (amc, .inl (cI, 5, .inl (fmc))) :: (amw, .inl (cI, 5, .inl (fmw))) :: (ams, .inl (cI, 5, .inl (fms))) :: (amv, .inl (cI, 5, .inl (fmv))) :: (amp, .inl (cI, 17, .inl (fmp))) :: (amq, .inl (cI, 17, .inl ((mYears nm na fmw fms fmv fmc sd fmp j).2))) :: rest) ?_ ?_) ⟨Or.inr rfl, Or.inr rfl, Or.inr rfl, Or.inl rfl, Or.inl rfl, trivial⟩ (by rfl)
    · intro j hj0 hj ih
      refine ww_iload_n C0 dX5_years_26 rfl ?_
      refine ww_iload_n C0 dX5_years_27 rfl ?_
      refine ww_icmp_ge (tgt := 157) C0 dX5_years_28 (by decide) (fun h28 => ?_) (fun h28 => ?_)
      · skip
        replace h28 := (nI_leE (a := n) (b := j) rfl rfl (by omega) (by omega)).mp h28
        exfalso; omega
      · skip
        replace h28 := (not_congr (nI_leE (a := n) (b := j) rfl rfl (by omega) (by omega))).mp h28
        refine ww_aload_n C0 dX5_years_31 rfl ?_
        refine ww_aload_n C0 dX5_years_32 rfl ?_
        refine ww_get C0 (ci := 5) (C := RX5) (T := TX5) (N := 33) ku_X5 0 rfl rfl 26 (by decide) kw_X5_238 rfl dX5_years_33 ?_
        refine ww_ldc2 C0 kw_X5_244 dX5_years_36 ?_
        refine ww_lmul C0 dX5_years_39 ?_
        refine ww_ldc2 C0 kw_X5_246 dX5_years_40 ?_
        refine ww_ladd C0 dX5_years_43 ?_
        refine ww_put C0 (ci := 5) (C := RX5) (T := TX5) (N := 33) ku_X5 0 rfl rfl 26 (by decide) tyX5 tyX5_ok nmX5 kw_X5_238 rfl (ty := .long) (by decide +kernel) rfl rfl (Nat.le_of_ble_eq_true rfl) dX5_years_44 ?_
        simp only [List.set_cons_zero, List.set_cons_succ]
        refine ww_aload_n C0 dX5_years_47 rfl ?_
        refine ww_get C0 (ci := 5) (C := RX5) (T := TX5) (N := 33) ku_X5 0 rfl rfl 26 (by decide) kw_X5_238 rfl dX5_years_48 ?_
        refine ww_bipush (v := (33)) C0 dX5_years_51 rfl ?_
        refine ww_lushr C0 dX5_years_53 ?_
        refine ww_ldc2 C0 kw_X5_248 dX5_years_54 ?_
        refine ww_lrem C0 dX5_years_57 (by decide) ?_
        refine ww_l2i C0 dX5_years_58 ?_
        obtain ⟨t, ht, hl, hcl⟩ := sLot_nI (sSeed (mYears nm na fmw fms fmv fmc sd fmp j).1)
        refine ww_top hl ?_
        refine ww_istore_n (i := 3) C0 dX5_years_59 rfl (Nat.le_of_ble_eq_true rfl) rfl ?_
        simp only [List.set_cons_zero, List.set_cons_succ]
        refine ww_iload_n C0 dX5_years_60 rfl ?_
        refine ww_bipush (v := (10)) C0 dX5_years_61 rfl ?_
        refine ww_icmp_ge (tgt := 115) C0 dX5_years_63 (by decide) (fun h63 => ?_) (fun h63 => ?_)
        · skip
          replace h63 := (nI_leE (a := 10) (b := t) rfl rfl (by omega) (by omega)).mp h63
          refine ww_iconst (v := (0)) C0 dX5_years_115 rfl ?_
          refine ww_istore (i := 4) C0 dX5_years_116 (Nat.le_of_ble_eq_true rfl) rfl ?_
          simp only [List.set_cons_zero, List.set_cons_succ]
          refine ww_iload C0 dX5_years_118 rfl ?_
          refine ww_if_eq (tgt := 140) C0 dX5_years_120 (by decide) (fun h120 => ?_) (fun h120 => ?_)
          · skip
            replace h120 := (nI_eqE (a := 0) (b := 0) rfl rfl (by omega) (by omega)).mp h120
            refine ww_aload_n C0 dX5_years_140 rfl ?_
            refine ww_get C0 (ci := 5) (C := RX5) (T := TX5) (N := 33) ku_X5 0 rfl rfl 15 (by decide) kw_X5_34 rfl dX5_years_141 ?_
            refine ww_bipush (v := (15)) C0 dX5_years_144 rfl ?_
            refine ww_dup2 C0 dX5_years_146 rfl rfl ?_
            refine ww_iald_n (j := 15) C0 7 0 rfl rfl rfl (by omega) (by decide) dX5_years_147 ?_
            refine ww_iconst (v := (1)) C0 dX5_years_148 rfl ?_
            refine ww_iadd C0 dX5_years_149 ?_
            refine ww_iast_n (j := 15) C0 7 0 rfl rfl rfl (by omega) (by decide) dX5_years_150 ?_
            simp only [List.set_cons_zero, List.set_cons_succ]
            refine ww_iinc (d := 1) C0 dX5_years_151 rfl rfl rfl ?_
            simp only [List.set_cons_zero, List.set_cons_succ]
            refine ww_goto (tgt := 26) C0 dX5_years_154 (by decide) ?_
            exact ww_back ih ⟨Or.inr rfl, Or.inr rfl, Or.inr (congrArg Value.int (nI_addE (a := j) (b := 1) rfl rfl).symm), Or.inl rfl, Or.inl rfl, trivial⟩ (by (simp only [mYears_s]; rw [hcl]; (first | rw [mLive_t (by omega) hk h91 h108] | rw [mLive_f (fun h => by have := h.1; omega)] | rw [mLive_f (fun h => hk h.2.1)] | rw [mLive_f (fun h => h.2.2.1 h91)] | rw [mLive_f (fun h => absurd (h108.symm.trans h.2.2.2) (by decide))]); first | done | rfl))
          · skip
            replace h120 := (not_congr (nI_eqE (a := 0) (b := 0) rfl rfl (by omega) (by omega))).mp h120
            exfalso; omega
        · skip
          replace h63 := (not_congr (nI_leE (a := 10) (b := t) rfl rfl (by omega) (by omega))).mp h63
          refine ww_aload_n C0 dX5_years_66 rfl ?_
          refine ww_iload_n C0 dX5_years_67 rfl ?_
          refine ww_iconst (v := (2)) C0 dX5_years_68 rfl ?_
          refine ww_idiv C0 dX5_years_69 (by decide) ?_
          refine ww_top (nI_divE (a := t) (b := 2) rfl rfl (by omega) (by omega) (by omega)) ?_
          have hK : isN nm (nI (t / 2)) = decide (t / 2 < nm) := isN_nI' (by omega) (by omega)
          refine ww_callVi C0 (qc := (RX5, TX5, 33)) 0 5 (c_X5_noMule l D cI cZ cQ hnm) kd_X5_noMule kw_X5_151 km_X5_noMule kl_X5_noMule ki_X5 hd_X5_noMule rfl rfl ⟨Nat.le_of_ble_eq_true rfl, Nat.le_of_ble_eq_true rfl, rfl, rfl⟩ (Nat.le_of_ble_eq_true rfl) dX5_years_70 rfl rfl rfl ⟨Nat.zero_le _, Nat.zero_le _⟩ ?_
          refine ww_bif_ne (tgt := 115) C0 dX5_years_73 (by decide) (fun h73 => ?_) (fun h73 => ?_)
          · skip
            have hk : ¬ t / 2 < nm := by rw [hK] at h73; simpa using h73
            refine ww_iconst (v := (0)) C0 dX5_years_115 rfl ?_
            refine ww_istore (i := 4) C0 dX5_years_116 (Nat.le_of_ble_eq_true rfl) rfl ?_
            simp only [List.set_cons_zero, List.set_cons_succ]
            refine ww_iload C0 dX5_years_118 rfl ?_
            refine ww_if_eq (tgt := 140) C0 dX5_years_120 (by decide) (fun h120 => ?_) (fun h120 => ?_)
            · skip
              replace h120 := (nI_eqE (a := 0) (b := 0) rfl rfl (by omega) (by omega)).mp h120
              refine ww_aload_n C0 dX5_years_140 rfl ?_
              refine ww_get C0 (ci := 5) (C := RX5) (T := TX5) (N := 33) ku_X5 0 rfl rfl 15 (by decide) kw_X5_34 rfl dX5_years_141 ?_
              refine ww_bipush (v := (15)) C0 dX5_years_144 rfl ?_
              refine ww_dup2 C0 dX5_years_146 rfl rfl ?_
              refine ww_iald_n (j := 15) C0 7 0 rfl rfl rfl (by omega) (by decide) dX5_years_147 ?_
              refine ww_iconst (v := (1)) C0 dX5_years_148 rfl ?_
              refine ww_iadd C0 dX5_years_149 ?_
              refine ww_iast_n (j := 15) C0 7 0 rfl rfl rfl (by omega) (by decide) dX5_years_150 ?_
              simp only [List.set_cons_zero, List.set_cons_succ]
              refine ww_iinc (d := 1) C0 dX5_years_151 rfl rfl rfl ?_
              simp only [List.set_cons_zero, List.set_cons_succ]
              refine ww_goto (tgt := 26) C0 dX5_years_154 (by decide) ?_
              exact ww_back ih ⟨Or.inr rfl, Or.inr rfl, Or.inr (congrArg Value.int (nI_addE (a := j) (b := 1) rfl rfl).symm), Or.inl rfl, Or.inl rfl, trivial⟩ (by (simp only [mYears_s]; rw [hcl]; (first | rw [mLive_t (by omega) hk h91 h108] | rw [mLive_f (fun h => by have := h.1; omega)] | rw [mLive_f (fun h => hk h.2.1)] | rw [mLive_f (fun h => h.2.2.1 h91)] | rw [mLive_f (fun h => absurd (h108.symm.trans h.2.2.2) (by decide))]); first | done | rfl))
            · skip
              replace h120 := (not_congr (nI_eqE (a := 0) (b := 0) rfl rfl (by omega) (by omega))).mp h120
              exfalso; omega
          · skip
            have hk : t / 2 < nm := by rw [hK] at h73; simpa using h73
            have hk5 : t / 2 < 5 := by omega
            refine ww_aload_n C0 dX5_years_76 rfl ?_
            refine ww_get C0 (ci := 5) (C := RX5) (T := TX5) (N := 33) ku_X5 0 rfl rfl 15 (by decide) kw_X5_34 rfl dX5_years_77 ?_
            refine ww_iload_n C0 dX5_years_80 rfl ?_
            refine ww_iconst (v := (2)) C0 dX5_years_81 rfl ?_
            refine ww_idiv C0 dX5_years_82 (by decide) ?_
            refine ww_iload_n C0 dX5_years_83 rfl ?_
            refine ww_iconst (v := (2)) C0 dX5_years_84 rfl ?_
            refine ww_irem C0 dX5_years_85 (by decide) ?_
            refine ww_cong ?_ rfl (congrArg (fun z => Value.int z :: _) (nI_remE (a := t) (b := 2) rfl rfl (by omega) (by omega) (by omega))) rfl
            refine ww_cong ?_ rfl (congrArg (fun z => _ :: Value.int z :: _) (nI_divE (a := t) (b := 2) rfl rfl (by omega) (by omega) (by omega))) rfl
            refine ww_perm (perm_mv 6 1 1 _) ?_
            simp only [List.drop_succ_cons, List.drop_zero, List.take_succ_cons, List.take_zero, List.cons_append, List.nil_append, Nat.reduceAdd]
            refine ww_callSi C0 (c_X5_toStone l D cI cZ cQ hk5) kd_X5_toStone kw_X5_119 ks_X5_toStone ki_X5 hd_X5_toStone ⟨Nat.le_of_ble_eq_true rfl, Nat.le_of_ble_eq_true rfl, rfl, rfl⟩ (Nat.le_of_ble_eq_true rfl) dX5_years_86 rfl rfl ⟨Nat.zero_le _, Nat.zero_le _⟩ ?_
            refine ww_perm (perm_mv 6 1 1 _) ?_
            simp only [List.drop_succ_cons, List.drop_zero, List.take_succ_cons, List.take_zero, List.cons_append, List.nil_append, Nat.reduceAdd]
            refine ww_bipush (v := (-9)) C0 dX5_years_89 rfl ?_
            refine ww_icmp_eq (tgt := 115) C0 dX5_years_91 (by decide) (fun h91 => ?_) (fun h91 => ?_)
            · skip
              refine ww_iconst (v := (0)) C0 dX5_years_115 rfl ?_
              refine ww_istore (i := 4) C0 dX5_years_116 (Nat.le_of_ble_eq_true rfl) rfl ?_
              simp only [List.set_cons_zero, List.set_cons_succ]
              refine ww_iload C0 dX5_years_118 rfl ?_
              refine ww_if_eq (tgt := 140) C0 dX5_years_120 (by decide) (fun h120 => ?_) (fun h120 => ?_)
              · skip
                replace h120 := (nI_eqE (a := 0) (b := 0) rfl rfl (by omega) (by omega)).mp h120
                refine ww_aload_n C0 dX5_years_140 rfl ?_
                refine ww_get C0 (ci := 5) (C := RX5) (T := TX5) (N := 33) ku_X5 0 rfl rfl 15 (by decide) kw_X5_34 rfl dX5_years_141 ?_
                refine ww_bipush (v := (15)) C0 dX5_years_144 rfl ?_
                refine ww_dup2 C0 dX5_years_146 rfl rfl ?_
                refine ww_iald_n (j := 15) C0 7 0 rfl rfl rfl (by omega) (by decide) dX5_years_147 ?_
                refine ww_iconst (v := (1)) C0 dX5_years_148 rfl ?_
                refine ww_iadd C0 dX5_years_149 ?_
                refine ww_iast_n (j := 15) C0 7 0 rfl rfl rfl (by omega) (by decide) dX5_years_150 ?_
                simp only [List.set_cons_zero, List.set_cons_succ]
                refine ww_iinc (d := 1) C0 dX5_years_151 rfl rfl rfl ?_
                simp only [List.set_cons_zero, List.set_cons_succ]
                refine ww_goto (tgt := 26) C0 dX5_years_154 (by decide) ?_
                exact ww_back ih ⟨Or.inr rfl, Or.inr rfl, Or.inr (congrArg Value.int (nI_addE (a := j) (b := 1) rfl rfl).symm), Or.inl rfl, Or.inl rfl, trivial⟩ (by (simp only [mYears_s]; rw [hcl]; (first | rw [mLive_t (by omega) hk h91 h108] | rw [mLive_f (fun h => by have := h.1; omega)] | rw [mLive_f (fun h => hk h.2.1)] | rw [mLive_f (fun h => h.2.2.1 h91)] | rw [mLive_f (fun h => absurd (h108.symm.trans h.2.2.2) (by decide))]); first | done | rfl))
              · skip
                replace h120 := (not_congr (nI_eqE (a := 0) (b := 0) rfl rfl (by omega) (by omega))).mp h120
                exfalso; omega
            · skip
              refine ww_aload_n C0 dX5_years_94 rfl ?_
              refine ww_aload_n C0 dX5_years_95 rfl ?_
              refine ww_get C0 (ci := 5) (C := RX5) (T := TX5) (N := 33) ku_X5 0 rfl rfl 15 (by decide) kw_X5_34 rfl dX5_years_96 ?_
              refine ww_iload_n C0 dX5_years_99 rfl ?_
              refine ww_iconst (v := (2)) C0 dX5_years_100 rfl ?_
              refine ww_idiv C0 dX5_years_101 (by decide) ?_
              refine ww_iload_n C0 dX5_years_102 rfl ?_
              refine ww_iconst (v := (2)) C0 dX5_years_103 rfl ?_
              refine ww_irem C0 dX5_years_104 (by decide) ?_
              refine ww_cong ?_ rfl (congrArg (fun z => Value.int z :: _) (nI_remE (a := t) (b := 2) rfl rfl (by omega) (by omega) (by omega))) rfl
              refine ww_cong ?_ rfl (congrArg (fun z => _ :: Value.int z :: _) (nI_divE (a := t) (b := 2) rfl rfl (by omega) (by omega) (by omega))) rfl
              refine ww_perm (perm_mv 6 1 1 _) ?_
              simp only [List.drop_succ_cons, List.drop_zero, List.take_succ_cons, List.take_zero, List.cons_append, List.nil_append, Nat.reduceAdd]
              refine ww_callVi C0 (qc := (RX5, TX5, 33)) 0 5 (c_X5_isBalking l D cI cZ cQ hnm hna hk) kd_X5_isBalking kw_X5_164 km_X5_isBalking kl_X5_isBalking ki_X5 hd_X5_isBalking rfl rfl ⟨Nat.le_of_ble_eq_true rfl, Nat.le_of_ble_eq_true rfl, rfl, rfl⟩ (Nat.le_of_ble_eq_true rfl) dX5_years_105 rfl rfl rfl ⟨Nat.zero_le _, Nat.zero_le _⟩ ?_
              refine ww_perm (perm_mv 6 1 1 _) ?_
              simp only [List.drop_succ_cons, List.drop_zero, List.take_succ_cons, List.take_zero, List.cons_append, List.nil_append, Nat.reduceAdd]
              refine ww_bif_ne (tgt := 115) C0 dX5_years_108 (by decide) (fun h108 => ?_) (fun h108 => ?_)
              · skip
                refine ww_iconst (v := (0)) C0 dX5_years_115 rfl ?_
                refine ww_istore (i := 4) C0 dX5_years_116 (Nat.le_of_ble_eq_true rfl) rfl ?_
                simp only [List.set_cons_zero, List.set_cons_succ]
                refine ww_iload C0 dX5_years_118 rfl ?_
                refine ww_if_eq (tgt := 140) C0 dX5_years_120 (by decide) (fun h120 => ?_) (fun h120 => ?_)
                · skip
                  replace h120 := (nI_eqE (a := 0) (b := 0) rfl rfl (by omega) (by omega)).mp h120
                  refine ww_aload_n C0 dX5_years_140 rfl ?_
                  refine ww_get C0 (ci := 5) (C := RX5) (T := TX5) (N := 33) ku_X5 0 rfl rfl 15 (by decide) kw_X5_34 rfl dX5_years_141 ?_
                  refine ww_bipush (v := (15)) C0 dX5_years_144 rfl ?_
                  refine ww_dup2 C0 dX5_years_146 rfl rfl ?_
                  refine ww_iald_n (j := 15) C0 7 0 rfl rfl rfl (by omega) (by decide) dX5_years_147 ?_
                  refine ww_iconst (v := (1)) C0 dX5_years_148 rfl ?_
                  refine ww_iadd C0 dX5_years_149 ?_
                  refine ww_iast_n (j := 15) C0 7 0 rfl rfl rfl (by omega) (by decide) dX5_years_150 ?_
                  simp only [List.set_cons_zero, List.set_cons_succ]
                  refine ww_iinc (d := 1) C0 dX5_years_151 rfl rfl rfl ?_
                  simp only [List.set_cons_zero, List.set_cons_succ]
                  refine ww_goto (tgt := 26) C0 dX5_years_154 (by decide) ?_
                  exact ww_back ih ⟨Or.inr rfl, Or.inr rfl, Or.inr (congrArg Value.int (nI_addE (a := j) (b := 1) rfl rfl).symm), Or.inl rfl, Or.inl rfl, trivial⟩ (by (simp only [mYears_s]; rw [hcl]; (first | rw [mLive_t (by omega) hk h91 h108] | rw [mLive_f (fun h => by have := h.1; omega)] | rw [mLive_f (fun h => hk h.2.1)] | rw [mLive_f (fun h => h.2.2.1 h91)] | rw [mLive_f (fun h => absurd (h108.symm.trans h.2.2.2) (by decide))]); first | done | rfl))
                · skip
                  replace h120 := (not_congr (nI_eqE (a := 0) (b := 0) rfl rfl (by omega) (by omega))).mp h120
                  exfalso; omega
              · skip
                refine ww_iconst (v := (1)) C0 dX5_years_111 rfl ?_
                refine ww_goto (tgt := 116) C0 dX5_years_112 (by decide) ?_
                refine ww_istore (i := 4) C0 dX5_years_116 (Nat.le_of_ble_eq_true rfl) rfl ?_
                simp only [List.set_cons_zero, List.set_cons_succ]
                refine ww_iload C0 dX5_years_118 rfl ?_
                refine ww_if_eq (tgt := 140) C0 dX5_years_120 (by decide) (fun h120 => ?_) (fun h120 => ?_)
                · skip
                  replace h120 := (nI_eqE (a := 1) (b := 0) rfl rfl (by omega) (by omega)).mp h120
                  exfalso; omega
                · skip
                  replace h120 := (not_congr (nI_eqE (a := 1) (b := 0) rfl rfl (by omega) (by omega))).mp h120
                  refine ww_aload_n C0 dX5_years_123 rfl ?_
                  refine ww_aload_n C0 dX5_years_124 rfl ?_
                  refine ww_get C0 (ci := 5) (C := RX5) (T := TX5) (N := 33) ku_X5 0 rfl rfl 15 (by decide) kw_X5_34 rfl dX5_years_125 ?_
                  refine ww_iload_n C0 dX5_years_128 rfl ?_
                  refine ww_iconst (v := (2)) C0 dX5_years_129 rfl ?_
                  refine ww_idiv C0 dX5_years_130 (by decide) ?_
                  refine ww_iload_n C0 dX5_years_131 rfl ?_
                  refine ww_iconst (v := (2)) C0 dX5_years_132 rfl ?_
                  refine ww_irem C0 dX5_years_133 (by decide) ?_
                  refine ww_cong ?_ rfl (congrArg (fun z => Value.int z :: _) (nI_remE (a := t) (b := 2) rfl rfl (by omega) (by omega) (by omega))) rfl
                  refine ww_cong ?_ rfl (congrArg (fun z => _ :: Value.int z :: _) (nI_divE (a := t) (b := 2) rfl rfl (by omega) (by omega) (by omega))) rfl
                  refine ww_perm (perm_mv 6 1 1 _) ?_
                  simp only [List.drop_succ_cons, List.drop_zero, List.take_succ_cons, List.take_zero, List.cons_append, List.nil_append, Nat.reduceAdd]
                  refine ww_callVv C0 (qc := (RX5, TX5, 33)) 0 5 (c_X5_go l D cI cZ cQ hnm hna hk) kd_X5_go kw_X5_171 km_X5_go kl_X5_go ki_X5 hd_X5_go rfl rfl ⟨Nat.le_of_ble_eq_true rfl, Nat.le_of_ble_eq_true rfl, rfl, rfl⟩ (Nat.le_of_ble_eq_true rfl) dX5_years_134 rfl rfl rfl ⟨Nat.zero_le _, Nat.zero_le _⟩ ?_
                  refine ww_perm (perm_mv 6 1 1 _) ?_
                  simp only [List.drop_succ_cons, List.drop_zero, List.take_succ_cons, List.take_zero, List.cons_append, List.nil_append, Nat.reduceAdd]
                  refine ww_goto (tgt := 151) C0 dX5_years_137 (by decide) ?_
                  refine ww_iinc (d := 1) C0 dX5_years_151 rfl rfl rfl ?_
                  simp only [List.set_cons_zero, List.set_cons_succ]
                  refine ww_goto (tgt := 26) C0 dX5_years_154 (by decide) ?_
                  exact ww_back ih ⟨Or.inr rfl, Or.inr rfl, Or.inr (congrArg Value.int (nI_addE (a := j) (b := 1) rfl rfl).symm), Or.inl rfl, Or.inl rfl, trivial⟩ (by (simp only [mYears_s]; rw [hcl]; (first | rw [mLive_t (by omega) hk h91 h108] | rw [mLive_f (fun h => by have := h.1; omega)] | rw [mLive_f (fun h => hk h.2.1)] | rw [mLive_f (fun h => h.2.2.1 h91)] | rw [mLive_f (fun h => absurd (h108.symm.trans h.2.2.2) (by decide))]); first | done | rfl))
    · skip
      refine ww_iload_n C0 dX5_years_26 rfl ?_
      refine ww_iload_n C0 dX5_years_27 rfl ?_
      refine ww_icmp_ge (tgt := 157) C0 dX5_years_28 (by decide) (fun h28 => ?_) (fun h28 => ?_)
      · skip
        replace h28 := (nI_leE (a := n) (b := n) rfl rfl (by omega) (by omega)).mp h28
        refine ww_aload_n C0 dX5_years_157 rfl ?_
        refine ww_get C0 (ci := 5) (C := RX5) (T := TX5) (N := 33) ku_X5 0 rfl rfl 15 (by decide) kw_X5_34 rfl dX5_years_158 ?_
        refine ww_bipush (v := (16)) C0 dX5_years_161 rfl ?_
        refine ww_iald_n (j := 16) C0 7 0 rfl rfl rfl (by omega) (by decide) dX5_years_163 ?_
        refine ww_aload_n C0 dX5_years_164 rfl ?_
        refine ww_get C0 (ci := 5) (C := RX5) (T := TX5) (N := 33) ku_X5 0 rfl rfl 14 (by decide) kw_X5_31 rfl dX5_years_165 ?_
        refine ww_bipush (v := (16)) C0 dX5_years_168 rfl ?_
        refine ww_iald_n (j := 16) C0 6 0 rfl rfl rfl (by omega) (by decide) dX5_years_170 ?_
        refine ww_isub C0 dX5_years_171 ?_
        exact ww_iret C0 hr dX5_years_172 (by rfl) (by rfl)
      · skip
        replace h28 := (not_congr (nI_leE (a := n) (b := n) rfl rfl (by omega) (by omega))).mp h28
        exfalso; omega
  · skip
    exact absurd (show isB (nI 1) (nI 30) (nI n) = true by rw [isB_nI (by decide) (by decide) (by omega)]; simp [hn1, hn2]) (by rw [h14]; decide)
