set_option maxHeartbeats 4000000 in
set_option maxRecDepth 100000 in
theorem c_X5_figure (l : Launch) (D : va_G) (cI cZ cQ : ClassId) {aM amt amc amw ams amv amr amx amp amq amb amk amz am0 am1 am2 am3 am4 amh amo : Nat} {tn nm na ac gn : Nat} {th x0 x1 x2 x3 : Int32} {sd : Int64} {fmt : Nat → Int32} {rest : va_W} {pl rm rr : Nat} {mo : Int32} (ht : tn ≤ 48) (hp : pl ≤ tn) (hok : rOk fmt tn pl mo = true) : MI l D [(cI, .int), (cZ, .boolean), (cQ, .object "MulesRemember$State")] yX5_figure cX5_figure 2 .int ({ frames := 1, cells := 0, slots := 0, locals := 25 } : Room) [.ref aM, .int mo] ((aM, .inr (5, [.int th, .ref amt, .int (nI tn), .int (nI pl), .int (nI nm), .ref amc, .int (nI na), .ref amw, .ref ams, .ref amv, .int (nI rm), .ref amr, .int (nI rr), .ref amx, .ref amp, .ref amq, .ref amb, .int (nI ac), .ref amk, .ref amz, .int (nI gn), .ref am0, .ref am1, .ref am2, .ref am3, .ref am4, .long sd, .ref amh, .int x0, .int x1, .int x2, .int x3, .ref amo])) :: (amt, .inl (cI, 48, .inl (fmt))) :: rest) (fmt pl - 48) ((aM, .inr (5, [.int th, .ref amt, .int (nI tn), .int (nI (pl + 1)), .int (nI nm), .ref amc, .int (nI na), .ref amw, .ref ams, .ref amv, .int (nI rm), .ref amr, .int (nI rr), .ref amx, .ref amp, .ref amq, .ref amb, .int (nI ac), .ref amk, .ref amz, .int (nI gn), .ref am0, .ref am1, .ref am2, .ref am3, .ref am4, .long sd, .ref amh, .int x0, .int x1, .int x2, .int x3, .ref amo])) :: (amt, .inl (cI, 48, .inl (fmt))) :: rest) := by
  refine MI.of [.ref aM, .int mo] (by decide) (Nat.le_of_ble_eq_true rfl) rfl ?_
  intro p e s m below meth c A C0 hr
  have hlt := rOk_lt hok hp
  have hb : isB 0 mo (fmt pl - 48) = true := by simp only [rOk, Bool.and_eq_true] at hok; exact hok.2
  refine ww_aload_n C0 dX5_figure_0 rfl ?_
  refine ww_get C0 (ci := 5) (C := RX5) (T := TX5) (N := 33) ku_X5 0 rfl rfl 3 (by decide) kw_X5_87 rfl dX5_figure_1 ?_
  refine ww_aload_n C0 dX5_figure_4 rfl ?_
  refine ww_get C0 (ci := 5) (C := RX5) (T := TX5) (N := 33) ku_X5 0 rfl rfl 2 (by decide) kw_X5_84 rfl dX5_figure_5 ?_
  refine ww_icmp_eq (tgt := 33) C0 dX5_figure_8 (by decide) (fun h8 => ?_) (fun h8 => ?_)
  · skip
    replace h8 := (nI_eqE (a := pl) (b := tn) rfl rfl (by omega) (by omega)).mp h8
    exfalso; omega
  · skip
    replace h8 := (not_congr (nI_eqE (a := pl) (b := tn) rfl rfl (by omega) (by omega))).mp h8
    refine ww_aload_n C0 dX5_figure_11 rfl ?_
    refine ww_get C0 (ci := 5) (C := RX5) (T := TX5) (N := 33) ku_X5 0 rfl rfl 1 (by decide) kw_X5_7 rfl dX5_figure_12 ?_
    refine ww_aload_n C0 dX5_figure_15 rfl ?_
    refine ww_get C0 (ci := 5) (C := RX5) (T := TX5) (N := 33) ku_X5 0 rfl rfl 3 (by decide) kw_X5_87 rfl dX5_figure_16 ?_
    refine ww_iald_n (j := pl) C0 1 0 rfl rfl rfl (by omega) (by decide) dX5_figure_19 ?_
    refine ww_bipush (v := (48)) C0 dX5_figure_20 rfl ?_
    refine ww_isub C0 dX5_figure_22 ?_
    refine ww_i2l C0 dX5_figure_23 ?_
    refine ww_lconst (v := 0) C0 dX5_figure_24 rfl ?_
    refine ww_iload_n C0 dX5_figure_25 rfl ?_
    refine ww_i2l C0 dX5_figure_26 ?_
    refine ww_callSi C0 (c_X5_inB l D cI cZ cQ (a := 0) (b := mo) rfl rfl) kd_X5_in kw_X5_75 ks_X5_in ki_X5 hd_X5_in ⟨Nat.le_of_ble_eq_true rfl, Nat.le_of_ble_eq_true rfl, rfl, rfl⟩ (Nat.le_of_ble_eq_true rfl) dX5_figure_27 rfl rfl ⟨Nat.zero_le _, Nat.zero_le _⟩ ?_
    refine ww_bif_ne (tgt := 36) C0 dX5_figure_30 (by decide) (fun h30 => ?_) (fun h30 => ?_)
    · skip
      refine ww_aload_n C0 dX5_figure_36 rfl ?_
      refine ww_dup C0 dX5_figure_37 rfl ?_
      refine ww_get C0 (ci := 5) (C := RX5) (T := TX5) (N := 33) ku_X5 0 rfl rfl 3 (by decide) kw_X5_87 rfl dX5_figure_38 ?_
      refine ww_iconst (v := (1)) C0 dX5_figure_41 rfl ?_
      refine ww_iadd C0 dX5_figure_42 ?_
      refine ww_put C0 (ci := 5) (C := RX5) (T := TX5) (N := 33) ku_X5 0 rfl rfl 3 (by decide) tyX5 tyX5_ok nmX5 kw_X5_87 rfl (ty := .int) (by decide +kernel) rfl rfl (Nat.le_of_ble_eq_true rfl) dX5_figure_43 ?_
      simp only [List.set_cons_zero, List.set_cons_succ]
      refine ww_aload_n C0 dX5_figure_46 rfl ?_
      refine ww_get C0 (ci := 5) (C := RX5) (T := TX5) (N := 33) ku_X5 0 rfl rfl 1 (by decide) kw_X5_7 rfl dX5_figure_47 ?_
      refine ww_aload_n C0 dX5_figure_50 rfl ?_
      refine ww_get C0 (ci := 5) (C := RX5) (T := TX5) (N := 33) ku_X5 0 rfl rfl 3 (by decide) kw_X5_87 rfl dX5_figure_51 ?_
      refine ww_iconst (v := (1)) C0 dX5_figure_54 rfl ?_
      refine ww_isub C0 dX5_figure_55 ?_
      refine ww_iald_n (j := (pl + 1) - 1) C0 1 0 rfl rfl (nI_subE (a := pl + 1) (b := 1) (nI_addE (a := pl) (b := 1) rfl rfl) rfl (by omega)) (by omega) (by decide) dX5_figure_56 ?_
      refine ww_bipush (v := (48)) C0 dX5_figure_57 rfl ?_
      refine ww_isub C0 dX5_figure_59 ?_
      exact ww_iret C0 hr dX5_figure_60 (by rfl) (by simp only [nI_1])
    · skip
      exact absurd hb (by rw [h30]; decide)

set_option maxHeartbeats 4000000 in
set_option maxRecDepth 100000 in
theorem c_X5_figure_b (l : Launch) (D : va_G) (cI cZ cQ : ClassId) {aM amt amc amw ams amv amr amx amp amq amb amk amz am0 am1 am2 am3 am4 amh amo : Nat} {tn nm na ac gn : Nat} {th x0 x1 x2 x3 : Int32} {sd : Int64} {fmt : Nat → Int32} {rest : va_W} {pl rm rr : Nat} {mo : Int32} (ht : tn ≤ 48) (hp : pl ≤ tn) (hok : rOk fmt tn pl mo = false) : MI l D [(cI, .int), (cZ, .boolean), (cQ, .object "MulesRemember$State")] yX5_figure cX5_figure 2 .int ({ frames := 1, cells := 0, slots := 0, locals := 25 } : Room) [.ref aM, .int mo] ((aM, .inr (5, [.int th, .ref amt, .int (nI tn), .int (nI pl), .int (nI nm), .ref amc, .int (nI na), .ref amw, .ref ams, .ref amv, .int (nI rm), .ref amr, .int (nI rr), .ref amx, .ref amp, .ref amq, .ref amb, .int (nI ac), .ref amk, .ref amz, .int (nI gn), .ref am0, .ref am1, .ref am2, .ref am3, .ref am4, .long sd, .ref amh, .int x0, .int x1, .int x2, .int x3, .ref amo])) :: (amt, .inl (cI, 48, .inl (fmt))) :: rest) (-9) ((aM, .inr (5, [.int th, .ref amt, .int (nI tn), .int (nI pl), .int (nI nm), .ref amc, .int (nI na), .ref amw, .ref ams, .ref amv, .int (nI rm), .ref amr, .int (nI rr), .ref amx, .ref amp, .ref amq, .ref amb, .int (nI ac), .ref amk, .ref amz, .int (nI gn), .ref am0, .ref am1, .ref am2, .ref am3, .ref am4, .long sd, .ref amh, .int x0, .int x1, .int x2, .int x3, .ref amo])) :: (amt, .inl (cI, 48, .inl (fmt))) :: rest) := by
  refine MI.of [.ref aM, .int mo] (by decide) (Nat.le_of_ble_eq_true rfl) rfl ?_
  intro p e s m below meth c A C0 hr
  refine ww_aload_n C0 dX5_figure_0 rfl ?_
  refine ww_get C0 (ci := 5) (C := RX5) (T := TX5) (N := 33) ku_X5 0 rfl rfl 3 (by decide) kw_X5_87 rfl dX5_figure_1 ?_
  refine ww_aload_n C0 dX5_figure_4 rfl ?_
  refine ww_get C0 (ci := 5) (C := RX5) (T := TX5) (N := 33) ku_X5 0 rfl rfl 2 (by decide) kw_X5_84 rfl dX5_figure_5 ?_
  refine ww_icmp_eq (tgt := 33) C0 dX5_figure_8 (by decide) (fun h8 => ?_) (fun h8 => ?_)
  · skip
    replace h8 := (nI_eqE (a := pl) (b := tn) rfl rfl (by omega) (by omega)).mp h8
    refine ww_bipush (v := (-9)) C0 dX5_figure_33 rfl ?_
    exact ww_iret C0 hr dX5_figure_35 (by rfl) (by rfl)
  · skip
    replace h8 := (not_congr (nI_eqE (a := pl) (b := tn) rfl rfl (by omega) (by omega))).mp h8
    refine ww_aload_n C0 dX5_figure_11 rfl ?_
    refine ww_get C0 (ci := 5) (C := RX5) (T := TX5) (N := 33) ku_X5 0 rfl rfl 1 (by decide) kw_X5_7 rfl dX5_figure_12 ?_
    refine ww_aload_n C0 dX5_figure_15 rfl ?_
    refine ww_get C0 (ci := 5) (C := RX5) (T := TX5) (N := 33) ku_X5 0 rfl rfl 3 (by decide) kw_X5_87 rfl dX5_figure_16 ?_
    refine ww_iald_n (j := pl) C0 1 0 rfl rfl rfl (by omega) (by decide) dX5_figure_19 ?_
    refine ww_bipush (v := (48)) C0 dX5_figure_20 rfl ?_
    refine ww_isub C0 dX5_figure_22 ?_
    refine ww_i2l C0 dX5_figure_23 ?_
    refine ww_lconst (v := 0) C0 dX5_figure_24 rfl ?_
    refine ww_iload_n C0 dX5_figure_25 rfl ?_
    refine ww_i2l C0 dX5_figure_26 ?_
    refine ww_callSi C0 (c_X5_inB l D cI cZ cQ (a := 0) (b := mo) rfl rfl) kd_X5_in kw_X5_75 ks_X5_in ki_X5 hd_X5_in ⟨Nat.le_of_ble_eq_true rfl, Nat.le_of_ble_eq_true rfl, rfl, rfl⟩ (Nat.le_of_ble_eq_true rfl) dX5_figure_27 rfl rfl ⟨Nat.zero_le _, Nat.zero_le _⟩ ?_
    refine ww_bif_ne (tgt := 36) C0 dX5_figure_30 (by decide) (fun h30 => ?_) (fun h30 => ?_)
    · skip
      exact absurd hok (by simp [rOk, *])
    · skip
      refine ww_bipush (v := (-9)) C0 dX5_figure_33 rfl ?_
      exact ww_iret C0 hr dX5_figure_35 (by rfl) (by rfl)

set_option maxHeartbeats 4000000 in
set_option maxRecDepth 100000 in
theorem c_X5_readOneArticle (l : Launch) (D : va_G) (cI cZ cQ : ClassId) {aM amt amc amw ams amv amr amx amp amq amb amk amz am0 am1 am2 am3 am4 amh amo : Nat} {tn nm na ac gn : Nat} {th x0 x1 x2 x3 : Int32} {sd : Int64} {fmt fmc fmw fms fmv fmp fmq fmr fmx : Nat → Int32} {rest : va_W} {pl rm rr : Nat} (ht : tn ≤ 48) (hp : pl ≤ tn) (hr5 : rr < 5) : MI l D [(cI, .int), (cZ, .boolean), (cQ, .object "MulesRemember$State")] yX5_readOneArticle cX5_readOneArticle 3 .boolean ({ frames := 2, cells := 0, slots := 0, locals := 46 } : Room) [.ref aM] ((aM, .inr (5, [.int th, .ref amt, .int (nI tn), .int (nI pl), .int (nI nm), .ref amc, .int (nI na), .ref amw, .ref ams, .ref amv, .int (nI rm), .ref amr, .int (nI rr), .ref amx, .ref amp, .ref amq, .ref amb, .int (nI ac), .ref amk, .ref amz, .int (nI gn), .ref am0, .ref am1, .ref am2, .ref am3, .ref am4, .long sd, .ref amh, .int x0, .int x1, .int x2, .int x3, .ref amo])) :: (amt, .inl (cI, 48, .inl (fmt))) :: (amc, .inl (cI, 5, .inl (fmc))) :: (amw, .inl (cI, 5, .inl (fmw))) :: (ams, .inl (cI, 5, .inl (fms))) :: (amv, .inl (cI, 5, .inl (fmv))) :: (amp, .inl (cI, 17, .inl (fmp))) :: (amq, .inl (cI, 17, .inl (fmq))) :: (amr, .inl (cI, 15, .inl (fmr))) :: (amx, .inl (cI, 15, .inl (fmx))) :: rest) (bI (decide ((rOne 9 3 9 fmt tn pl) = 3))) ((aM, .inr (5, [.int th, .ref amt, .int (nI tn), .int (nI (pl + (rOne 9 3 9 fmt tn pl))), .int (nI nm), .ref amc, .int (nI na), .ref amw, .ref ams, .ref amv, .int (nI rm), .ref amr, .int (nI (if (rOne 9 3 9 fmt tn pl) = 3 then rr + 1 else rr)), .ref amx, .ref amp, .ref amq, .ref amb, .int (nI ac), .ref amk, .ref amz, .int (nI gn), .ref am0, .ref am1, .ref am2, .ref am3, .ref am4, .long sd, .ref amh, .int x0, .int x1, .int x2, .int x3, .ref amo])) :: (amt, .inl (cI, 48, .inl (fmt))) :: (amc, .inl (cI, 5, .inl (fmc))) :: (amw, .inl (cI, 5, .inl (fmw))) :: (ams, .inl (cI, 5, .inl (fms))) :: (amv, .inl (cI, 5, .inl (fmv))) :: (amp, .inl (cI, 17, .inl (fmp))) :: (amq, .inl (cI, 17, .inl (fmq))) :: (amr, .inl (cI, 15, .inl (fmr))) :: (amx, .inl (cI, 15, .inl (rPut fmx (3 * rr) fmt pl (rOne 9 3 9 fmt tn pl)))) :: rest) := by
  refine MI.of [.ref aM, .null, .null] (by decide) (Nat.le_of_ble_eq_true rfl) rfl ?_
  intro p e s m below meth c A C0 hr
  refine ww_iconst (v := (0)) C0 dX5_readOneArticle_0 rfl ?_
  refine ww_istore_n (i := 1) C0 dX5_readOneArticle_1 rfl (Nat.le_of_ble_eq_true rfl) rfl ?_
  simp only [List.set_cons_zero, List.set_cons_succ]
  refine ww_cong (lo' := [_, .int 0, _]) ?_ (by rfl) rfl rfl
  refine ww_iload_n C0 dX5_readOneArticle_2 rfl ?_
  refine ww_iconst (v := (3)) C0 dX5_readOneArticle_3 rfl ?_
  refine ww_icmp_ge (tgt := 51) C0 dX5_readOneArticle_4 (by decide) (fun h4 => ?_) (fun h4 => ?_)
  · skip
    replace h4 := (nI_leE (a := 3) (b := 0) rfl rfl (by omega) (by omega)).mp h4
    exfalso; omega
  · skip
    replace h4 := (not_congr (nI_leE (a := 3) (b := 0) rfl rfl (by omega) (by omega))).mp h4
    refine ww_aload_n C0 dX5_readOneArticle_7 rfl ?_
    refine ww_iload_n C0 dX5_readOneArticle_8 rfl ?_
    refine ww_iconst (v := (1)) C0 dX5_readOneArticle_9 rfl ?_
    refine ww_icmp_ne (tgt := 17) C0 dX5_readOneArticle_10 (by decide) (fun h10 => ?_) (fun h10 => ?_)
    · skip
      replace h10 := (not_congr (nI_eqE (a := 0) (b := 1) rfl rfl (by omega) (by omega))).mp h10
      refine ww_bipush (v := (9)) C0 dX5_readOneArticle_17 rfl ?_
      by_cases hk0 : rOk fmt tn pl 9 = true
      · skip
        have hkl0 := rOk_lt hk0 (by omega)
        have hkn0 := rOk_ne hk0
        refine ww_callVi C0 (qc := (RX5, TX5, 33)) 0 5 (c_X5_figure l D cI cZ cQ ht (by omega) hk0) kd_X5_figure kw_X5_90 km_X5_figure kl_X5_figure ki_X5 hd_X5_figure rfl rfl ⟨Nat.le_of_ble_eq_true rfl, Nat.le_of_ble_eq_true rfl, rfl, rfl⟩ (Nat.le_of_ble_eq_true rfl) dX5_readOneArticle_19 rfl rfl rfl ⟨Nat.zero_le _, Nat.zero_le _⟩ ?_
        refine ww_istore_n (i := 2) C0 dX5_readOneArticle_22 rfl (Nat.le_of_ble_eq_true rfl) rfl ?_
        simp only [List.set_cons_zero, List.set_cons_succ]
        refine ww_iload_n C0 dX5_readOneArticle_23 rfl ?_
        refine ww_bipush (v := (-9)) C0 dX5_readOneArticle_24 rfl ?_
        refine ww_icmp_ne (tgt := 31) C0 dX5_readOneArticle_26 (by decide) (fun h26 => ?_) (fun h26 => ?_)
        · skip
          refine ww_aload_n C0 dX5_readOneArticle_31 rfl ?_
          refine ww_get C0 (ci := 5) (C := RX5) (T := TX5) (N := 33) ku_X5 0 rfl rfl 13 (by decide) kw_X5_28 rfl dX5_readOneArticle_32 ?_
          refine ww_iconst (v := (3)) C0 dX5_readOneArticle_35 rfl ?_
          refine ww_aload_n C0 dX5_readOneArticle_36 rfl ?_
          refine ww_get C0 (ci := 5) (C := RX5) (T := TX5) (N := 33) ku_X5 0 rfl rfl 12 (by decide) kw_X5_94 rfl dX5_readOneArticle_37 ?_
          refine ww_imul C0 dX5_readOneArticle_40 ?_
          refine ww_iload_n C0 dX5_readOneArticle_41 rfl ?_
          refine ww_iadd C0 dX5_readOneArticle_42 ?_
          refine ww_iload_n C0 dX5_readOneArticle_43 rfl ?_
          refine ww_iast_n (j := (3 * rr) + 0) C0 9 0 rfl rfl (nI_addE (a := 3 * rr) (b := 0) (nI_mulE (a := 3) (b := rr) rfl rfl) rfl) (by omega) (by decide) dX5_readOneArticle_44 ?_
          simp only [List.set_cons_zero, List.set_cons_succ]
          refine ww_iinc (d := 1) C0 dX5_readOneArticle_45 rfl rfl rfl ?_
          simp only [List.set_cons_zero, List.set_cons_succ]
          refine ww_goto (tgt := 2) C0 dX5_readOneArticle_48 (by decide) ?_
          refine ww_cong (lo' := [_, .int 1, _]) ?_ (by rfl) rfl rfl
          refine ww_iload_n C0 dX5_readOneArticle_2 rfl ?_
          refine ww_iconst (v := (3)) C0 dX5_readOneArticle_3 rfl ?_
          refine ww_icmp_ge (tgt := 51) C0 dX5_readOneArticle_4 (by decide) (fun h4 => ?_) (fun h4 => ?_)
          · skip
            replace h4 := (nI_leE (a := 3) (b := 1) rfl rfl (by omega) (by omega)).mp h4
            exfalso; omega
          · skip
            replace h4 := (not_congr (nI_leE (a := 3) (b := 1) rfl rfl (by omega) (by omega))).mp h4
            refine ww_aload_n C0 dX5_readOneArticle_7 rfl ?_
            refine ww_iload_n C0 dX5_readOneArticle_8 rfl ?_
            refine ww_iconst (v := (1)) C0 dX5_readOneArticle_9 rfl ?_
            refine ww_icmp_ne (tgt := 17) C0 dX5_readOneArticle_10 (by decide) (fun h10 => ?_) (fun h10 => ?_)
            · skip
              replace h10 := (not_congr (nI_eqE (a := 1) (b := 1) rfl rfl (by omega) (by omega))).mp h10
              exfalso; omega
            · skip
              replace h10 := (nI_eqE (a := 1) (b := 1) rfl rfl (by omega) (by omega)).mp h10
              refine ww_iconst (v := (3)) C0 dX5_readOneArticle_13 rfl ?_
              refine ww_goto (tgt := 19) C0 dX5_readOneArticle_14 (by decide) ?_
              by_cases hk1 : rOk fmt tn (pl + 1) 3 = true
              · skip
                have hkl1 := rOk_lt hk1 (by omega)
                have hkn1 := rOk_ne hk1
                refine ww_callVi C0 (qc := (RX5, TX5, 33)) 0 5 (c_X5_figure l D cI cZ cQ ht (by omega) hk1) kd_X5_figure kw_X5_90 km_X5_figure kl_X5_figure ki_X5 hd_X5_figure rfl rfl ⟨Nat.le_of_ble_eq_true rfl, Nat.le_of_ble_eq_true rfl, rfl, rfl⟩ (Nat.le_of_ble_eq_true rfl) dX5_readOneArticle_19 rfl rfl rfl ⟨Nat.zero_le _, Nat.zero_le _⟩ ?_
                refine ww_istore_n (i := 2) C0 dX5_readOneArticle_22 rfl (Nat.le_of_ble_eq_true rfl) rfl ?_
                simp only [List.set_cons_zero, List.set_cons_succ]
                refine ww_iload_n C0 dX5_readOneArticle_23 rfl ?_
                refine ww_bipush (v := (-9)) C0 dX5_readOneArticle_24 rfl ?_
                refine ww_icmp_ne (tgt := 31) C0 dX5_readOneArticle_26 (by decide) (fun h26 => ?_) (fun h26 => ?_)
                · skip
                  refine ww_aload_n C0 dX5_readOneArticle_31 rfl ?_
                  refine ww_get C0 (ci := 5) (C := RX5) (T := TX5) (N := 33) ku_X5 0 rfl rfl 13 (by decide) kw_X5_28 rfl dX5_readOneArticle_32 ?_
                  refine ww_iconst (v := (3)) C0 dX5_readOneArticle_35 rfl ?_
                  refine ww_aload_n C0 dX5_readOneArticle_36 rfl ?_
                  refine ww_get C0 (ci := 5) (C := RX5) (T := TX5) (N := 33) ku_X5 0 rfl rfl 12 (by decide) kw_X5_94 rfl dX5_readOneArticle_37 ?_
                  refine ww_imul C0 dX5_readOneArticle_40 ?_
                  refine ww_iload_n C0 dX5_readOneArticle_41 rfl ?_
                  refine ww_iadd C0 dX5_readOneArticle_42 ?_
                  refine ww_iload_n C0 dX5_readOneArticle_43 rfl ?_
                  refine ww_iast_n (j := (3 * rr) + 1) C0 9 0 rfl rfl (nI_addE (a := 3 * rr) (b := 1) (nI_mulE (a := 3) (b := rr) rfl rfl) rfl) (by omega) (by decide) dX5_readOneArticle_44 ?_
                  simp only [List.set_cons_zero, List.set_cons_succ]
                  refine ww_iinc (d := 1) C0 dX5_readOneArticle_45 rfl rfl rfl ?_
                  simp only [List.set_cons_zero, List.set_cons_succ]
                  refine ww_goto (tgt := 2) C0 dX5_readOneArticle_48 (by decide) ?_
                  refine ww_cong (lo' := [_, .int 2, _]) ?_ (by rfl) rfl rfl
                  refine ww_iload_n C0 dX5_readOneArticle_2 rfl ?_
                  refine ww_iconst (v := (3)) C0 dX5_readOneArticle_3 rfl ?_
                  refine ww_icmp_ge (tgt := 51) C0 dX5_readOneArticle_4 (by decide) (fun h4 => ?_) (fun h4 => ?_)
                  · skip
                    replace h4 := (nI_leE (a := 3) (b := 2) rfl rfl (by omega) (by omega)).mp h4
                    exfalso; omega
                  · skip
                    replace h4 := (not_congr (nI_leE (a := 3) (b := 2) rfl rfl (by omega) (by omega))).mp h4
                    refine ww_aload_n C0 dX5_readOneArticle_7 rfl ?_
                    refine ww_iload_n C0 dX5_readOneArticle_8 rfl ?_
                    refine ww_iconst (v := (1)) C0 dX5_readOneArticle_9 rfl ?_
                    refine ww_icmp_ne (tgt := 17) C0 dX5_readOneArticle_10 (by decide) (fun h10 => ?_) (fun h10 => ?_)
                    · skip
                      replace h10 := (not_congr (nI_eqE (a := 2) (b := 1) rfl rfl (by omega) (by omega))).mp h10
                      refine ww_bipush (v := (9)) C0 dX5_readOneArticle_17 rfl ?_
                      by_cases hk2 : rOk fmt tn (pl + 2) 9 = true
                      · skip
                        have hkl2 := rOk_lt hk2 (by omega)
                        have hkn2 := rOk_ne hk2
                        refine ww_callVi C0 (qc := (RX5, TX5, 33)) 0 5 (c_X5_figure l D cI cZ cQ ht (by omega) hk2) kd_X5_figure kw_X5_90 km_X5_figure kl_X5_figure ki_X5 hd_X5_figure rfl rfl ⟨Nat.le_of_ble_eq_true rfl, Nat.le_of_ble_eq_true rfl, rfl, rfl⟩ (Nat.le_of_ble_eq_true rfl) dX5_readOneArticle_19 rfl rfl rfl ⟨Nat.zero_le _, Nat.zero_le _⟩ ?_
                        refine ww_istore_n (i := 2) C0 dX5_readOneArticle_22 rfl (Nat.le_of_ble_eq_true rfl) rfl ?_
                        simp only [List.set_cons_zero, List.set_cons_succ]
                        refine ww_iload_n C0 dX5_readOneArticle_23 rfl ?_
                        refine ww_bipush (v := (-9)) C0 dX5_readOneArticle_24 rfl ?_
                        refine ww_icmp_ne (tgt := 31) C0 dX5_readOneArticle_26 (by decide) (fun h26 => ?_) (fun h26 => ?_)
                        · skip
                          refine ww_aload_n C0 dX5_readOneArticle_31 rfl ?_
                          refine ww_get C0 (ci := 5) (C := RX5) (T := TX5) (N := 33) ku_X5 0 rfl rfl 13 (by decide) kw_X5_28 rfl dX5_readOneArticle_32 ?_
                          refine ww_iconst (v := (3)) C0 dX5_readOneArticle_35 rfl ?_
                          refine ww_aload_n C0 dX5_readOneArticle_36 rfl ?_
                          refine ww_get C0 (ci := 5) (C := RX5) (T := TX5) (N := 33) ku_X5 0 rfl rfl 12 (by decide) kw_X5_94 rfl dX5_readOneArticle_37 ?_
                          refine ww_imul C0 dX5_readOneArticle_40 ?_
                          refine ww_iload_n C0 dX5_readOneArticle_41 rfl ?_
                          refine ww_iadd C0 dX5_readOneArticle_42 ?_
                          refine ww_iload_n C0 dX5_readOneArticle_43 rfl ?_
                          refine ww_iast_n (j := (3 * rr) + 2) C0 9 0 rfl rfl (nI_addE (a := 3 * rr) (b := 2) (nI_mulE (a := 3) (b := rr) rfl rfl) rfl) (by omega) (by decide) dX5_readOneArticle_44 ?_
                          simp only [List.set_cons_zero, List.set_cons_succ]
                          refine ww_iinc (d := 1) C0 dX5_readOneArticle_45 rfl rfl rfl ?_
                          simp only [List.set_cons_zero, List.set_cons_succ]
                          refine ww_goto (tgt := 2) C0 dX5_readOneArticle_48 (by decide) ?_
                          refine ww_cong (lo' := [_, .int 3, _]) ?_ (by rfl) rfl rfl
                          refine ww_iload_n C0 dX5_readOneArticle_2 rfl ?_
                          refine ww_iconst (v := (3)) C0 dX5_readOneArticle_3 rfl ?_
                          refine ww_icmp_ge (tgt := 51) C0 dX5_readOneArticle_4 (by decide) (fun h4 => ?_) (fun h4 => ?_)
                          · skip
                            replace h4 := (nI_leE (a := 3) (b := 3) rfl rfl (by omega) (by omega)).mp h4
                            refine ww_aload_n C0 dX5_readOneArticle_51 rfl ?_
                            refine ww_dup C0 dX5_readOneArticle_52 rfl ?_
                            refine ww_get C0 (ci := 5) (C := RX5) (T := TX5) (N := 33) ku_X5 0 rfl rfl 12 (by decide) kw_X5_94 rfl dX5_readOneArticle_53 ?_
                            refine ww_iconst (v := (1)) C0 dX5_readOneArticle_56 rfl ?_
                            refine ww_iadd C0 dX5_readOneArticle_57 ?_
                            refine ww_put C0 (ci := 5) (C := RX5) (T := TX5) (N := 33) ku_X5 0 rfl rfl 12 (by decide) tyX5 tyX5_ok nmX5 kw_X5_94 rfl (ty := .int) (by decide +kernel) rfl rfl (Nat.le_of_ble_eq_true rfl) dX5_readOneArticle_58 ?_
                            simp only [List.set_cons_zero, List.set_cons_succ]
                            refine ww_iconst (v := (1)) C0 dX5_readOneArticle_61 rfl ?_
                            exact ww_zret C0 hr dX5_readOneArticle_62 (by simp [rOne, bI, *]) (by simp [rOne, rPut, nI_1, Nat.add_assoc, *])
                          · skip
                            replace h4 := (not_congr (nI_leE (a := 3) (b := 3) rfl rfl (by omega) (by omega))).mp h4
                            exfalso; omega
                        · skip
                          exact absurd h26 hkn2
                      · skip
                        have hk2 : rOk fmt tn (pl + 2) 9 = false := by simpa using hk2
                        refine ww_callVi C0 (qc := (RX5, TX5, 33)) 0 5 (c_X5_figure_b l D cI cZ cQ ht (by omega) hk2) kd_X5_figure kw_X5_90 km_X5_figure kl_X5_figure ki_X5 hd_X5_figure rfl rfl ⟨Nat.le_of_ble_eq_true rfl, Nat.le_of_ble_eq_true rfl, rfl, rfl⟩ (Nat.le_of_ble_eq_true rfl) dX5_readOneArticle_19 rfl rfl rfl ⟨Nat.zero_le _, Nat.zero_le _⟩ ?_
                        refine ww_istore_n (i := 2) C0 dX5_readOneArticle_22 rfl (Nat.le_of_ble_eq_true rfl) rfl ?_
                        simp only [List.set_cons_zero, List.set_cons_succ]
                        refine ww_iload_n C0 dX5_readOneArticle_23 rfl ?_
                        refine ww_bipush (v := (-9)) C0 dX5_readOneArticle_24 rfl ?_
                        refine ww_icmp_ne (tgt := 31) C0 dX5_readOneArticle_26 (by decide) (fun h26 => ?_) (fun h26 => ?_)
                        · skip
                          exact absurd rfl h26
                        · skip
                          refine ww_iconst (v := (0)) C0 dX5_readOneArticle_29 rfl ?_
                          exact ww_zret C0 hr dX5_readOneArticle_30 (by simp [rOne, bI, *]) (by simp [rOne, rPut, nI_1, Nat.add_assoc, *])
                    · skip
                      replace h10 := (nI_eqE (a := 2) (b := 1) rfl rfl (by omega) (by omega)).mp h10
                      exfalso; omega
                · skip
                  exact absurd h26 hkn1
              · skip
                have hk1 : rOk fmt tn (pl + 1) 3 = false := by simpa using hk1
                refine ww_callVi C0 (qc := (RX5, TX5, 33)) 0 5 (c_X5_figure_b l D cI cZ cQ ht (by omega) hk1) kd_X5_figure kw_X5_90 km_X5_figure kl_X5_figure ki_X5 hd_X5_figure rfl rfl ⟨Nat.le_of_ble_eq_true rfl, Nat.le_of_ble_eq_true rfl, rfl, rfl⟩ (Nat.le_of_ble_eq_true rfl) dX5_readOneArticle_19 rfl rfl rfl ⟨Nat.zero_le _, Nat.zero_le _⟩ ?_
                refine ww_istore_n (i := 2) C0 dX5_readOneArticle_22 rfl (Nat.le_of_ble_eq_true rfl) rfl ?_
                simp only [List.set_cons_zero, List.set_cons_succ]
                refine ww_iload_n C0 dX5_readOneArticle_23 rfl ?_
                refine ww_bipush (v := (-9)) C0 dX5_readOneArticle_24 rfl ?_
                refine ww_icmp_ne (tgt := 31) C0 dX5_readOneArticle_26 (by decide) (fun h26 => ?_) (fun h26 => ?_)
                · skip
                  exact absurd rfl h26
                · skip
                  refine ww_iconst (v := (0)) C0 dX5_readOneArticle_29 rfl ?_
                  exact ww_zret C0 hr dX5_readOneArticle_30 (by simp [rOne, bI, *]) (by simp [rOne, rPut, nI_1, Nat.add_assoc, *])
        · skip
          exact absurd h26 hkn0
      · skip
        have hk0 : rOk fmt tn pl 9 = false := by simpa using hk0
        refine ww_callVi C0 (qc := (RX5, TX5, 33)) 0 5 (c_X5_figure_b l D cI cZ cQ ht (by omega) hk0) kd_X5_figure kw_X5_90 km_X5_figure kl_X5_figure ki_X5 hd_X5_figure rfl rfl ⟨Nat.le_of_ble_eq_true rfl, Nat.le_of_ble_eq_true rfl, rfl, rfl⟩ (Nat.le_of_ble_eq_true rfl) dX5_readOneArticle_19 rfl rfl rfl ⟨Nat.zero_le _, Nat.zero_le _⟩ ?_
        refine ww_istore_n (i := 2) C0 dX5_readOneArticle_22 rfl (Nat.le_of_ble_eq_true rfl) rfl ?_
        simp only [List.set_cons_zero, List.set_cons_succ]
        refine ww_iload_n C0 dX5_readOneArticle_23 rfl ?_
        refine ww_bipush (v := (-9)) C0 dX5_readOneArticle_24 rfl ?_
        refine ww_icmp_ne (tgt := 31) C0 dX5_readOneArticle_26 (by decide) (fun h26 => ?_) (fun h26 => ?_)
        · skip
          exact absurd rfl h26
        · skip
          refine ww_iconst (v := (0)) C0 dX5_readOneArticle_29 rfl ?_
          exact ww_zret C0 hr dX5_readOneArticle_30 (by simp [rOne, bI, *]) (by simp [rOne, rPut, nI_1, Nat.add_assoc, *])
    · skip
      replace h10 := (nI_eqE (a := 0) (b := 1) rfl rfl (by omega) (by omega)).mp h10
      exfalso; omega

set_option maxHeartbeats 4000000 in
set_option maxRecDepth 100000 in
theorem c_X5_readOneMule (l : Launch) (D : va_G) (cI cZ cQ : ClassId) {aM amt amc amw ams amv amr amx amp amq amb amk amz am0 am1 am2 am3 am4 amh amo : Nat} {tn nm na ac gn : Nat} {th x0 x1 x2 x3 : Int32} {sd : Int64} {fmt fmc fmw fms fmv fmp fmq fmr fmx : Nat → Int32} {rest : va_W} {pl rm rr : Nat} (ht : tn ≤ 48) (hp : pl ≤ tn) (hr5 : rm < 5) : MI l D [(cI, .int), (cZ, .boolean), (cQ, .object "MulesRemember$State")] yX5_readOneMule cX5_readOneMule 3 .boolean ({ frames := 2, cells := 0, slots := 0, locals := 46 } : Room) [.ref aM] ((aM, .inr (5, [.int th, .ref amt, .int (nI tn), .int (nI pl), .int (nI nm), .ref amc, .int (nI na), .ref amw, .ref ams, .ref amv, .int (nI rm), .ref amr, .int (nI rr), .ref amx, .ref amp, .ref amq, .ref amb, .int (nI ac), .ref amk, .ref amz, .int (nI gn), .ref am0, .ref am1, .ref am2, .ref am3, .ref am4, .long sd, .ref amh, .int x0, .int x1, .int x2, .int x3, .ref amo])) :: (amt, .inl (cI, 48, .inl (fmt))) :: (amc, .inl (cI, 5, .inl (fmc))) :: (amw, .inl (cI, 5, .inl (fmw))) :: (ams, .inl (cI, 5, .inl (fms))) :: (amv, .inl (cI, 5, .inl (fmv))) :: (amp, .inl (cI, 17, .inl (fmp))) :: (amq, .inl (cI, 17, .inl (fmq))) :: (amr, .inl (cI, 15, .inl (fmr))) :: (amx, .inl (cI, 15, .inl (fmx))) :: rest) (bI (decide ((rOne 9 3 3 fmt tn pl) = 3))) ((aM, .inr (5, [.int th, .ref amt, .int (nI tn), .int (nI (pl + (rOne 9 3 3 fmt tn pl))), .int (nI nm), .ref amc, .int (nI na), .ref amw, .ref ams, .ref amv, .int (nI (if (rOne 9 3 3 fmt tn pl) = 3 then rm + 1 else rm)), .ref amr, .int (nI rr), .ref amx, .ref amp, .ref amq, .ref amb, .int (nI ac), .ref amk, .ref amz, .int (nI gn), .ref am0, .ref am1, .ref am2, .ref am3, .ref am4, .long sd, .ref amh, .int x0, .int x1, .int x2, .int x3, .ref amo])) :: (amt, .inl (cI, 48, .inl (fmt))) :: (amc, .inl (cI, 5, .inl (fmc))) :: (amw, .inl (cI, 5, .inl (fmw))) :: (ams, .inl (cI, 5, .inl (fms))) :: (amv, .inl (cI, 5, .inl (fmv))) :: (amp, .inl (cI, 17, .inl (fmp))) :: (amq, .inl (cI, 17, .inl (fmq))) :: (amr, .inl (cI, 15, .inl (rPut fmr (3 * rm) fmt pl (rOne 9 3 3 fmt tn pl)))) :: (amx, .inl (cI, 15, .inl (fmx))) :: rest) := by
  refine MI.of [.ref aM, .null, .null] (by decide) (Nat.le_of_ble_eq_true rfl) rfl ?_
  intro p e s m below meth c A C0 hr
  refine ww_iconst (v := (0)) C0 dX5_readOneMule_0 rfl ?_
  refine ww_istore_n (i := 1) C0 dX5_readOneMule_1 rfl (Nat.le_of_ble_eq_true rfl) rfl ?_
  simp only [List.set_cons_zero, List.set_cons_succ]
  refine ww_cong (lo' := [_, .int 0, _]) ?_ (by rfl) rfl rfl
  refine ww_iload_n C0 dX5_readOneMule_2 rfl ?_
  refine ww_iconst (v := (3)) C0 dX5_readOneMule_3 rfl ?_
  refine ww_icmp_ge (tgt := 50) C0 dX5_readOneMule_4 (by decide) (fun h4 => ?_) (fun h4 => ?_)
  · skip
    replace h4 := (nI_leE (a := 3) (b := 0) rfl rfl (by omega) (by omega)).mp h4
    exfalso; omega
  · skip
    replace h4 := (not_congr (nI_leE (a := 3) (b := 0) rfl rfl (by omega) (by omega))).mp h4
    refine ww_aload_n C0 dX5_readOneMule_7 rfl ?_
    refine ww_iload_n C0 dX5_readOneMule_8 rfl ?_
    refine ww_if_ne (tgt := 17) C0 dX5_readOneMule_9 (by decide) (fun h9 => ?_) (fun h9 => ?_)
    · skip
      replace h9 := (not_congr (nI_eqE (a := 0) (b := 0) rfl rfl (by omega) (by omega))).mp h9
      exfalso; omega
    · skip
      replace h9 := (nI_eqE (a := 0) (b := 0) rfl rfl (by omega) (by omega)).mp h9
      refine ww_bipush (v := (9)) C0 dX5_readOneMule_12 rfl ?_
      refine ww_goto (tgt := 18) C0 dX5_readOneMule_14 (by decide) ?_
      by_cases hk0 : rOk fmt tn pl 9 = true
      · skip
        have hkl0 := rOk_lt hk0 (by omega)
        have hkn0 := rOk_ne hk0
        refine ww_callVi C0 (qc := (RX5, TX5, 33)) 0 5 (c_X5_figure l D cI cZ cQ ht (by omega) hk0) kd_X5_figure kw_X5_90 km_X5_figure kl_X5_figure ki_X5 hd_X5_figure rfl rfl ⟨Nat.le_of_ble_eq_true rfl, Nat.le_of_ble_eq_true rfl, rfl, rfl⟩ (Nat.le_of_ble_eq_true rfl) dX5_readOneMule_18 rfl rfl rfl ⟨Nat.zero_le _, Nat.zero_le _⟩ ?_
        refine ww_istore_n (i := 2) C0 dX5_readOneMule_21 rfl (Nat.le_of_ble_eq_true rfl) rfl ?_
        simp only [List.set_cons_zero, List.set_cons_succ]
        refine ww_iload_n C0 dX5_readOneMule_22 rfl ?_
        refine ww_bipush (v := (-9)) C0 dX5_readOneMule_23 rfl ?_
        refine ww_icmp_ne (tgt := 30) C0 dX5_readOneMule_25 (by decide) (fun h25 => ?_) (fun h25 => ?_)
        · skip
          refine ww_aload_n C0 dX5_readOneMule_30 rfl ?_
          refine ww_get C0 (ci := 5) (C := RX5) (T := TX5) (N := 33) ku_X5 0 rfl rfl 11 (by decide) kw_X5_25 rfl dX5_readOneMule_31 ?_
          refine ww_iconst (v := (3)) C0 dX5_readOneMule_34 rfl ?_
          refine ww_aload_n C0 dX5_readOneMule_35 rfl ?_
          refine ww_get C0 (ci := 5) (C := RX5) (T := TX5) (N := 33) ku_X5 0 rfl rfl 10 (by decide) kw_X5_97 rfl dX5_readOneMule_36 ?_
          refine ww_imul C0 dX5_readOneMule_39 ?_
          refine ww_iload_n C0 dX5_readOneMule_40 rfl ?_
          refine ww_iadd C0 dX5_readOneMule_41 ?_
          refine ww_iload_n C0 dX5_readOneMule_42 rfl ?_
          refine ww_iast_n (j := (3 * rm) + 0) C0 8 0 rfl rfl (nI_addE (a := 3 * rm) (b := 0) (nI_mulE (a := 3) (b := rm) rfl rfl) rfl) (by omega) (by decide) dX5_readOneMule_43 ?_
          simp only [List.set_cons_zero, List.set_cons_succ]
          refine ww_iinc (d := 1) C0 dX5_readOneMule_44 rfl rfl rfl ?_
          simp only [List.set_cons_zero, List.set_cons_succ]
          refine ww_goto (tgt := 2) C0 dX5_readOneMule_47 (by decide) ?_
          refine ww_cong (lo' := [_, .int 1, _]) ?_ (by rfl) rfl rfl
          refine ww_iload_n C0 dX5_readOneMule_2 rfl ?_
          refine ww_iconst (v := (3)) C0 dX5_readOneMule_3 rfl ?_
          refine ww_icmp_ge (tgt := 50) C0 dX5_readOneMule_4 (by decide) (fun h4 => ?_) (fun h4 => ?_)
          · skip
            replace h4 := (nI_leE (a := 3) (b := 1) rfl rfl (by omega) (by omega)).mp h4
            exfalso; omega
          · skip
            replace h4 := (not_congr (nI_leE (a := 3) (b := 1) rfl rfl (by omega) (by omega))).mp h4
            refine ww_aload_n C0 dX5_readOneMule_7 rfl ?_
            refine ww_iload_n C0 dX5_readOneMule_8 rfl ?_
            refine ww_if_ne (tgt := 17) C0 dX5_readOneMule_9 (by decide) (fun h9 => ?_) (fun h9 => ?_)
            · skip
              replace h9 := (not_congr (nI_eqE (a := 1) (b := 0) rfl rfl (by omega) (by omega))).mp h9
              refine ww_iconst (v := (3)) C0 dX5_readOneMule_17 rfl ?_
              by_cases hk1 : rOk fmt tn (pl + 1) 3 = true
              · skip
                have hkl1 := rOk_lt hk1 (by omega)
                have hkn1 := rOk_ne hk1
                refine ww_callVi C0 (qc := (RX5, TX5, 33)) 0 5 (c_X5_figure l D cI cZ cQ ht (by omega) hk1) kd_X5_figure kw_X5_90 km_X5_figure kl_X5_figure ki_X5 hd_X5_figure rfl rfl ⟨Nat.le_of_ble_eq_true rfl, Nat.le_of_ble_eq_true rfl, rfl, rfl⟩ (Nat.le_of_ble_eq_true rfl) dX5_readOneMule_18 rfl rfl rfl ⟨Nat.zero_le _, Nat.zero_le _⟩ ?_
                refine ww_istore_n (i := 2) C0 dX5_readOneMule_21 rfl (Nat.le_of_ble_eq_true rfl) rfl ?_
                simp only [List.set_cons_zero, List.set_cons_succ]
                refine ww_iload_n C0 dX5_readOneMule_22 rfl ?_
                refine ww_bipush (v := (-9)) C0 dX5_readOneMule_23 rfl ?_
                refine ww_icmp_ne (tgt := 30) C0 dX5_readOneMule_25 (by decide) (fun h25 => ?_) (fun h25 => ?_)
                · skip
                  refine ww_aload_n C0 dX5_readOneMule_30 rfl ?_
                  refine ww_get C0 (ci := 5) (C := RX5) (T := TX5) (N := 33) ku_X5 0 rfl rfl 11 (by decide) kw_X5_25 rfl dX5_readOneMule_31 ?_
                  refine ww_iconst (v := (3)) C0 dX5_readOneMule_34 rfl ?_
                  refine ww_aload_n C0 dX5_readOneMule_35 rfl ?_
                  refine ww_get C0 (ci := 5) (C := RX5) (T := TX5) (N := 33) ku_X5 0 rfl rfl 10 (by decide) kw_X5_97 rfl dX5_readOneMule_36 ?_
                  refine ww_imul C0 dX5_readOneMule_39 ?_
                  refine ww_iload_n C0 dX5_readOneMule_40 rfl ?_
                  refine ww_iadd C0 dX5_readOneMule_41 ?_
                  refine ww_iload_n C0 dX5_readOneMule_42 rfl ?_
                  refine ww_iast_n (j := (3 * rm) + 1) C0 8 0 rfl rfl (nI_addE (a := 3 * rm) (b := 1) (nI_mulE (a := 3) (b := rm) rfl rfl) rfl) (by omega) (by decide) dX5_readOneMule_43 ?_
                  simp only [List.set_cons_zero, List.set_cons_succ]
                  refine ww_iinc (d := 1) C0 dX5_readOneMule_44 rfl rfl rfl ?_
                  simp only [List.set_cons_zero, List.set_cons_succ]
                  refine ww_goto (tgt := 2) C0 dX5_readOneMule_47 (by decide) ?_
                  refine ww_cong (lo' := [_, .int 2, _]) ?_ (by rfl) rfl rfl
                  refine ww_iload_n C0 dX5_readOneMule_2 rfl ?_
                  refine ww_iconst (v := (3)) C0 dX5_readOneMule_3 rfl ?_
                  refine ww_icmp_ge (tgt := 50) C0 dX5_readOneMule_4 (by decide) (fun h4 => ?_) (fun h4 => ?_)
                  · skip
                    replace h4 := (nI_leE (a := 3) (b := 2) rfl rfl (by omega) (by omega)).mp h4
                    exfalso; omega
                  · skip
                    replace h4 := (not_congr (nI_leE (a := 3) (b := 2) rfl rfl (by omega) (by omega))).mp h4
                    refine ww_aload_n C0 dX5_readOneMule_7 rfl ?_
                    refine ww_iload_n C0 dX5_readOneMule_8 rfl ?_
                    refine ww_if_ne (tgt := 17) C0 dX5_readOneMule_9 (by decide) (fun h9 => ?_) (fun h9 => ?_)
                    · skip
                      replace h9 := (not_congr (nI_eqE (a := 2) (b := 0) rfl rfl (by omega) (by omega))).mp h9
                      refine ww_iconst (v := (3)) C0 dX5_readOneMule_17 rfl ?_
                      by_cases hk2 : rOk fmt tn (pl + 2) 3 = true
                      · skip
                        have hkl2 := rOk_lt hk2 (by omega)
                        have hkn2 := rOk_ne hk2
                        refine ww_callVi C0 (qc := (RX5, TX5, 33)) 0 5 (c_X5_figure l D cI cZ cQ ht (by omega) hk2) kd_X5_figure kw_X5_90 km_X5_figure kl_X5_figure ki_X5 hd_X5_figure rfl rfl ⟨Nat.le_of_ble_eq_true rfl, Nat.le_of_ble_eq_true rfl, rfl, rfl⟩ (Nat.le_of_ble_eq_true rfl) dX5_readOneMule_18 rfl rfl rfl ⟨Nat.zero_le _, Nat.zero_le _⟩ ?_
                        refine ww_istore_n (i := 2) C0 dX5_readOneMule_21 rfl (Nat.le_of_ble_eq_true rfl) rfl ?_
                        simp only [List.set_cons_zero, List.set_cons_succ]
                        refine ww_iload_n C0 dX5_readOneMule_22 rfl ?_
                        refine ww_bipush (v := (-9)) C0 dX5_readOneMule_23 rfl ?_
                        refine ww_icmp_ne (tgt := 30) C0 dX5_readOneMule_25 (by decide) (fun h25 => ?_) (fun h25 => ?_)
                        · skip
                          refine ww_aload_n C0 dX5_readOneMule_30 rfl ?_
                          refine ww_get C0 (ci := 5) (C := RX5) (T := TX5) (N := 33) ku_X5 0 rfl rfl 11 (by decide) kw_X5_25 rfl dX5_readOneMule_31 ?_
                          refine ww_iconst (v := (3)) C0 dX5_readOneMule_34 rfl ?_
                          refine ww_aload_n C0 dX5_readOneMule_35 rfl ?_
                          refine ww_get C0 (ci := 5) (C := RX5) (T := TX5) (N := 33) ku_X5 0 rfl rfl 10 (by decide) kw_X5_97 rfl dX5_readOneMule_36 ?_
                          refine ww_imul C0 dX5_readOneMule_39 ?_
                          refine ww_iload_n C0 dX5_readOneMule_40 rfl ?_
                          refine ww_iadd C0 dX5_readOneMule_41 ?_
                          refine ww_iload_n C0 dX5_readOneMule_42 rfl ?_
                          refine ww_iast_n (j := (3 * rm) + 2) C0 8 0 rfl rfl (nI_addE (a := 3 * rm) (b := 2) (nI_mulE (a := 3) (b := rm) rfl rfl) rfl) (by omega) (by decide) dX5_readOneMule_43 ?_
                          simp only [List.set_cons_zero, List.set_cons_succ]
                          refine ww_iinc (d := 1) C0 dX5_readOneMule_44 rfl rfl rfl ?_
                          simp only [List.set_cons_zero, List.set_cons_succ]
                          refine ww_goto (tgt := 2) C0 dX5_readOneMule_47 (by decide) ?_
                          refine ww_cong (lo' := [_, .int 3, _]) ?_ (by rfl) rfl rfl
                          refine ww_iload_n C0 dX5_readOneMule_2 rfl ?_
                          refine ww_iconst (v := (3)) C0 dX5_readOneMule_3 rfl ?_
                          refine ww_icmp_ge (tgt := 50) C0 dX5_readOneMule_4 (by decide) (fun h4 => ?_) (fun h4 => ?_)
                          · skip
                            replace h4 := (nI_leE (a := 3) (b := 3) rfl rfl (by omega) (by omega)).mp h4
                            refine ww_aload_n C0 dX5_readOneMule_50 rfl ?_
                            refine ww_dup C0 dX5_readOneMule_51 rfl ?_
                            refine ww_get C0 (ci := 5) (C := RX5) (T := TX5) (N := 33) ku_X5 0 rfl rfl 10 (by decide) kw_X5_97 rfl dX5_readOneMule_52 ?_
                            refine ww_iconst (v := (1)) C0 dX5_readOneMule_55 rfl ?_
                            refine ww_iadd C0 dX5_readOneMule_56 ?_
                            refine ww_put C0 (ci := 5) (C := RX5) (T := TX5) (N := 33) ku_X5 0 rfl rfl 10 (by decide) tyX5 tyX5_ok nmX5 kw_X5_97 rfl (ty := .int) (by decide +kernel) rfl rfl (Nat.le_of_ble_eq_true rfl) dX5_readOneMule_57 ?_
                            simp only [List.set_cons_zero, List.set_cons_succ]
                            refine ww_iconst (v := (1)) C0 dX5_readOneMule_60 rfl ?_
                            exact ww_zret C0 hr dX5_readOneMule_61 (by simp [rOne, bI, *]) (by simp [rOne, rPut, nI_1, Nat.add_assoc, *])
                          · skip
                            replace h4 := (not_congr (nI_leE (a := 3) (b := 3) rfl rfl (by omega) (by omega))).mp h4
                            exfalso; omega
                        · skip
                          exact absurd h25 hkn2
                      · skip
                        have hk2 : rOk fmt tn (pl + 2) 3 = false := by simpa using hk2
                        refine ww_callVi C0 (qc := (RX5, TX5, 33)) 0 5 (c_X5_figure_b l D cI cZ cQ ht (by omega) hk2) kd_X5_figure kw_X5_90 km_X5_figure kl_X5_figure ki_X5 hd_X5_figure rfl rfl ⟨Nat.le_of_ble_eq_true rfl, Nat.le_of_ble_eq_true rfl, rfl, rfl⟩ (Nat.le_of_ble_eq_true rfl) dX5_readOneMule_18 rfl rfl rfl ⟨Nat.zero_le _, Nat.zero_le _⟩ ?_
                        refine ww_istore_n (i := 2) C0 dX5_readOneMule_21 rfl (Nat.le_of_ble_eq_true rfl) rfl ?_
                        simp only [List.set_cons_zero, List.set_cons_succ]
                        refine ww_iload_n C0 dX5_readOneMule_22 rfl ?_
                        refine ww_bipush (v := (-9)) C0 dX5_readOneMule_23 rfl ?_
                        refine ww_icmp_ne (tgt := 30) C0 dX5_readOneMule_25 (by decide) (fun h25 => ?_) (fun h25 => ?_)
                        · skip
                          exact absurd rfl h25
                        · skip
                          refine ww_iconst (v := (0)) C0 dX5_readOneMule_28 rfl ?_
                          exact ww_zret C0 hr dX5_readOneMule_29 (by simp [rOne, bI, *]) (by simp [rOne, rPut, nI_1, Nat.add_assoc, *])
                    · skip
                      replace h9 := (nI_eqE (a := 2) (b := 0) rfl rfl (by omega) (by omega)).mp h9
                      exfalso; omega
                · skip
                  exact absurd h25 hkn1
              · skip
                have hk1 : rOk fmt tn (pl + 1) 3 = false := by simpa using hk1
                refine ww_callVi C0 (qc := (RX5, TX5, 33)) 0 5 (c_X5_figure_b l D cI cZ cQ ht (by omega) hk1) kd_X5_figure kw_X5_90 km_X5_figure kl_X5_figure ki_X5 hd_X5_figure rfl rfl ⟨Nat.le_of_ble_eq_true rfl, Nat.le_of_ble_eq_true rfl, rfl, rfl⟩ (Nat.le_of_ble_eq_true rfl) dX5_readOneMule_18 rfl rfl rfl ⟨Nat.zero_le _, Nat.zero_le _⟩ ?_
                refine ww_istore_n (i := 2) C0 dX5_readOneMule_21 rfl (Nat.le_of_ble_eq_true rfl) rfl ?_
                simp only [List.set_cons_zero, List.set_cons_succ]
                refine ww_iload_n C0 dX5_readOneMule_22 rfl ?_
                refine ww_bipush (v := (-9)) C0 dX5_readOneMule_23 rfl ?_
                refine ww_icmp_ne (tgt := 30) C0 dX5_readOneMule_25 (by decide) (fun h25 => ?_) (fun h25 => ?_)
                · skip
                  exact absurd rfl h25
                · skip
                  refine ww_iconst (v := (0)) C0 dX5_readOneMule_28 rfl ?_
                  exact ww_zret C0 hr dX5_readOneMule_29 (by simp [rOne, bI, *]) (by simp [rOne, rPut, nI_1, Nat.add_assoc, *])
            · skip
              replace h9 := (nI_eqE (a := 1) (b := 0) rfl rfl (by omega) (by omega)).mp h9
              exfalso; omega
        · skip
          exact absurd h25 hkn0
      · skip
        have hk0 : rOk fmt tn pl 9 = false := by simpa using hk0
        refine ww_callVi C0 (qc := (RX5, TX5, 33)) 0 5 (c_X5_figure_b l D cI cZ cQ ht (by omega) hk0) kd_X5_figure kw_X5_90 km_X5_figure kl_X5_figure ki_X5 hd_X5_figure rfl rfl ⟨Nat.le_of_ble_eq_true rfl, Nat.le_of_ble_eq_true rfl, rfl, rfl⟩ (Nat.le_of_ble_eq_true rfl) dX5_readOneMule_18 rfl rfl rfl ⟨Nat.zero_le _, Nat.zero_le _⟩ ?_
        refine ww_istore_n (i := 2) C0 dX5_readOneMule_21 rfl (Nat.le_of_ble_eq_true rfl) rfl ?_
        simp only [List.set_cons_zero, List.set_cons_succ]
        refine ww_iload_n C0 dX5_readOneMule_22 rfl ?_
        refine ww_bipush (v := (-9)) C0 dX5_readOneMule_23 rfl ?_
        refine ww_icmp_ne (tgt := 30) C0 dX5_readOneMule_25 (by decide) (fun h25 => ?_) (fun h25 => ?_)
        · skip
          exact absurd rfl h25
        · skip
          refine ww_iconst (v := (0)) C0 dX5_readOneMule_28 rfl ?_
          exact ww_zret C0 hr dX5_readOneMule_29 (by simp [rOne, bI, *]) (by simp [rOne, rPut, nI_1, Nat.add_assoc, *])

set_option maxHeartbeats 4000000 in
set_option maxRecDepth 100000 in
theorem c_X5_readPart (l : Launch) (D : va_G) (cI cZ cQ : ClassId) {aM amt amc amw ams amv amr amx amp amq amb amk amz am0 am1 am2 am3 am4 amh amo : Nat} {tn nm na ac gn : Nat} {th x0 x1 x2 x3 : Int32} {sd : Int64} {fmt fmc fmw fms fmv fmp fmq fmr fmx : Nat → Int32} {rest : va_W} {pl rm rr : Nat} (ht : tn ≤ 48) (hp : pl < tn) (hm5 : rm ≤ 5) (ha5 : rr ≤ 5) : MI l D [(cI, .int), (cZ, .boolean), (cQ, .object "MulesRemember$State")] yX5_readPart cX5_readPart 2 .boolean ({ frames := 3, cells := 0, slots := 0, locals := 68 } : Room) [.ref aM] ((aM, .inr (5, [.int th, .ref amt, .int (nI tn), .int (nI pl), .int (nI nm), .ref amc, .int (nI na), .ref amw, .ref ams, .ref amv, .int (nI rm), .ref amr, .int (nI rr), .ref amx, .ref amp, .ref amq, .ref amb, .int (nI ac), .ref amk, .ref amz, .int (nI gn), .ref am0, .ref am1, .ref am2, .ref am3, .ref am4, .long sd, .ref amh, .int x0, .int x1, .int x2, .int x3, .ref amo])) :: (amt, .inl (cI, 48, .inl (fmt))) :: (amc, .inl (cI, 5, .inl (fmc))) :: (amw, .inl (cI, 5, .inl (fmw))) :: (ams, .inl (cI, 5, .inl (fms))) :: (amv, .inl (cI, 5, .inl (fmv))) :: (amp, .inl (cI, 17, .inl (fmp))) :: (amq, .inl (cI, 17, .inl (fmq))) :: (amr, .inl (cI, 15, .inl (fmr))) :: (amx, .inl (cI, 15, .inl (fmx))) :: rest) (bI (rPart fmt tn (pl, rm, rr, fmr, fmx)).1) ((aM, .inr (5, [.int th, .ref amt, .int (nI tn), .int (nI (rPart fmt tn (pl, rm, rr, fmr, fmx)).2.1), .int (nI nm), .ref amc, .int (nI na), .ref amw, .ref ams, .ref amv, .int (nI (rPart fmt tn (pl, rm, rr, fmr, fmx)).2.2.1), .ref amr, .int (nI (rPart fmt tn (pl, rm, rr, fmr, fmx)).2.2.2.1), .ref amx, .ref amp, .ref amq, .ref amb, .int (nI ac), .ref amk, .ref amz, .int (nI gn), .ref am0, .ref am1, .ref am2, .ref am3, .ref am4, .long sd, .ref amh, .int x0, .int x1, .int x2, .int x3, .ref amo])) :: (amt, .inl (cI, 48, .inl (fmt))) :: (amc, .inl (cI, 5, .inl (fmc))) :: (amw, .inl (cI, 5, .inl (fmw))) :: (ams, .inl (cI, 5, .inl (fms))) :: (amv, .inl (cI, 5, .inl (fmv))) :: (amp, .inl (cI, 17, .inl (fmp))) :: (amq, .inl (cI, 17, .inl (fmq))) :: (amr, .inl (cI, 15, .inl ((rPart fmt tn (pl, rm, rr, fmr, fmx)).2.2.2.2.1))) :: (amx, .inl (cI, 15, .inl ((rPart fmt tn (pl, rm, rr, fmr, fmx)).2.2.2.2.2))) :: rest) := by
  refine MI.of [.ref aM, .null] (by decide) (Nat.le_of_ble_eq_true rfl) rfl ?_
  intro p e s m below meth c A C0 hr
  refine ww_aload_n C0 dX5_readPart_0 rfl ?_
  refine ww_get C0 (ci := 5) (C := RX5) (T := TX5) (N := 33) ku_X5 0 rfl rfl 1 (by decide) kw_X5_7 rfl dX5_readPart_1 ?_
  refine ww_aload_n C0 dX5_readPart_4 rfl ?_
  refine ww_get C0 (ci := 5) (C := RX5) (T := TX5) (N := 33) ku_X5 0 rfl rfl 3 (by decide) kw_X5_87 rfl dX5_readPart_5 ?_
  refine ww_iald_n (j := pl) C0 1 0 rfl rfl rfl (by omega) (by decide) dX5_readPart_8 ?_
  refine ww_istore_n (i := 1) C0 dX5_readPart_9 rfl (Nat.le_of_ble_eq_true rfl) rfl ?_
  simp only [List.set_cons_zero, List.set_cons_succ]
  refine ww_aload_n C0 dX5_readPart_10 rfl ?_
  refine ww_dup C0 dX5_readPart_11 rfl ?_
  refine ww_get C0 (ci := 5) (C := RX5) (T := TX5) (N := 33) ku_X5 0 rfl rfl 3 (by decide) kw_X5_87 rfl dX5_readPart_12 ?_
  refine ww_iconst (v := (1)) C0 dX5_readPart_15 rfl ?_
  refine ww_iadd C0 dX5_readPart_16 ?_
  refine ww_put C0 (ci := 5) (C := RX5) (T := TX5) (N := 33) ku_X5 0 rfl rfl 3 (by decide) tyX5 tyX5_ok nmX5 kw_X5_87 rfl (ty := .int) (by decide +kernel) rfl rfl (Nat.le_of_ble_eq_true rfl) dX5_readPart_17 ?_
  simp only [List.set_cons_zero, List.set_cons_succ]
  refine ww_world (w' := (aM, .inr (5, [.int th, .ref amt, .int (nI tn), .int (nI (pl + 1)), .int (nI nm), .ref amc, .int (nI na), .ref amw, .ref ams, .ref amv, .int (nI rm), .ref amr, .int (nI rr), .ref amx, .ref amp, .ref amq, .ref amb, .int (nI ac), .ref amk, .ref amz, .int (nI gn), .ref am0, .ref am1, .ref am2, .ref am3, .ref am4, .long sd, .ref amh, .int x0, .int x1, .int x2, .int x3, .ref amo])) :: (amt, .inl (cI, 48, .inl (fmt))) :: (amc, .inl (cI, 5, .inl (fmc))) :: (amw, .inl (cI, 5, .inl (fmw))) :: (ams, .inl (cI, 5, .inl (fms))) :: (amv, .inl (cI, 5, .inl (fmv))) :: (amp, .inl (cI, 17, .inl (fmp))) :: (amq, .inl (cI, 17, .inl (fmq))) :: (amr, .inl (cI, 15, .inl (fmr))) :: (amx, .inl (cI, 15, .inl (fmx))) :: rest) (by simp only [nI_1]) ?_
  refine ww_iload_n C0 dX5_readPart_20 rfl ?_
  refine ww_bipush (v := (65)) C0 dX5_readPart_21 rfl ?_
  refine ww_icmp_ne (tgt := 39) C0 dX5_readPart_23 (by decide) (fun h23 => ?_) (fun h23 => ?_)
  · skip
    refine ww_iload_n C0 dX5_readPart_39 rfl ?_
    refine ww_bipush (v := (77)) C0 dX5_readPart_40 rfl ?_
    refine ww_icmp_ne (tgt := 58) C0 dX5_readPart_42 (by decide) (fun h42 => ?_) (fun h42 => ?_)
    · skip
      refine ww_aload_n C0 dX5_readPart_58 rfl ?_
      refine ww_dup C0 dX5_readPart_59 rfl ?_
      refine ww_get C0 (ci := 5) (C := RX5) (T := TX5) (N := 33) ku_X5 0 rfl rfl 3 (by decide) kw_X5_87 rfl dX5_readPart_60 ?_
      refine ww_iconst (v := (1)) C0 dX5_readPart_63 rfl ?_
      refine ww_isub C0 dX5_readPart_64 ?_
      refine ww_put C0 (ci := 5) (C := RX5) (T := TX5) (N := 33) ku_X5 0 rfl rfl 3 (by decide) tyX5 tyX5_ok nmX5 kw_X5_87 rfl (ty := .int) (by decide +kernel) rfl rfl (Nat.le_of_ble_eq_true rfl) dX5_readPart_65 ?_
      simp only [List.set_cons_zero, List.set_cons_succ]
      refine ww_iconst (v := (0)) C0 dX5_readPart_68 rfl ?_
      exact ww_zret C0 hr dX5_readPart_69 (by simp [rPart, bI, *]) (by simp [rPart, nI_pred, *])
    · skip
      refine ww_aload_n C0 dX5_readPart_45 rfl ?_
      refine ww_get C0 (ci := 5) (C := RX5) (T := TX5) (N := 33) ku_X5 0 rfl rfl 10 (by decide) kw_X5_97 rfl dX5_readPart_46 ?_
      refine ww_iconst (v := (5)) C0 dX5_readPart_49 rfl ?_
      refine ww_icmp_ge (tgt := 58) C0 dX5_readPart_50 (by decide) (fun h50 => ?_) (fun h50 => ?_)
      · skip
        replace h50 := (nI_leE (a := 5) (b := rm) rfl rfl (by omega) (by omega)).mp h50
        have h50z : ¬ rm < 5 := by omega
        refine ww_aload_n C0 dX5_readPart_58 rfl ?_
        refine ww_dup C0 dX5_readPart_59 rfl ?_
        refine ww_get C0 (ci := 5) (C := RX5) (T := TX5) (N := 33) ku_X5 0 rfl rfl 3 (by decide) kw_X5_87 rfl dX5_readPart_60 ?_
        refine ww_iconst (v := (1)) C0 dX5_readPart_63 rfl ?_
        refine ww_isub C0 dX5_readPart_64 ?_
        refine ww_put C0 (ci := 5) (C := RX5) (T := TX5) (N := 33) ku_X5 0 rfl rfl 3 (by decide) tyX5 tyX5_ok nmX5 kw_X5_87 rfl (ty := .int) (by decide +kernel) rfl rfl (Nat.le_of_ble_eq_true rfl) dX5_readPart_65 ?_
        simp only [List.set_cons_zero, List.set_cons_succ]
        refine ww_iconst (v := (0)) C0 dX5_readPart_68 rfl ?_
        exact ww_zret C0 hr dX5_readPart_69 (by simp [rPart, bI, *]) (by simp [rPart, nI_pred, *])
      · skip
        replace h50 := (not_congr (nI_leE (a := 5) (b := rm) rfl rfl (by omega) (by omega))).mp h50
        have h50z : rm < 5 := by omega
        refine ww_aload_n C0 dX5_readPart_53 rfl ?_
        refine ww_callVi C0 (qc := (RX5, TX5, 33)) 0 5 (c_X5_readOneMule l D cI cZ cQ ht (by omega) h50z) kd_X5_readOneMule kw_X5_104 km_X5_readOneMule kl_X5_readOneMule ki_X5 hd_X5_readOneMule rfl rfl ⟨Nat.le_of_ble_eq_true rfl, Nat.le_of_ble_eq_true rfl, rfl, rfl⟩ (Nat.le_of_ble_eq_true rfl) dX5_readPart_54 rfl rfl rfl ⟨Nat.zero_le _, Nat.zero_le _⟩ ?_
        exact ww_zret C0 hr dX5_readPart_57 (by (first | exact absurd (h23.symm.trans h42) (by decide) | simp [rPart, *])) (by (first | exact absurd (h23.symm.trans h42) (by decide) | simp [rPart, *]))
  · skip
    refine ww_aload_n C0 dX5_readPart_26 rfl ?_
    refine ww_get C0 (ci := 5) (C := RX5) (T := TX5) (N := 33) ku_X5 0 rfl rfl 12 (by decide) kw_X5_94 rfl dX5_readPart_27 ?_
    refine ww_iconst (v := (5)) C0 dX5_readPart_30 rfl ?_
    refine ww_icmp_ge (tgt := 39) C0 dX5_readPart_31 (by decide) (fun h31 => ?_) (fun h31 => ?_)
    · skip
      replace h31 := (nI_leE (a := 5) (b := rr) rfl rfl (by omega) (by omega)).mp h31
      have h31z : ¬ rr < 5 := by omega
      refine ww_iload_n C0 dX5_readPart_39 rfl ?_
      refine ww_bipush (v := (77)) C0 dX5_readPart_40 rfl ?_
      refine ww_icmp_ne (tgt := 58) C0 dX5_readPart_42 (by decide) (fun h42 => ?_) (fun h42 => ?_)
      · skip
        refine ww_aload_n C0 dX5_readPart_58 rfl ?_
        refine ww_dup C0 dX5_readPart_59 rfl ?_
        refine ww_get C0 (ci := 5) (C := RX5) (T := TX5) (N := 33) ku_X5 0 rfl rfl 3 (by decide) kw_X5_87 rfl dX5_readPart_60 ?_
        refine ww_iconst (v := (1)) C0 dX5_readPart_63 rfl ?_
        refine ww_isub C0 dX5_readPart_64 ?_
        refine ww_put C0 (ci := 5) (C := RX5) (T := TX5) (N := 33) ku_X5 0 rfl rfl 3 (by decide) tyX5 tyX5_ok nmX5 kw_X5_87 rfl (ty := .int) (by decide +kernel) rfl rfl (Nat.le_of_ble_eq_true rfl) dX5_readPart_65 ?_
        simp only [List.set_cons_zero, List.set_cons_succ]
        refine ww_iconst (v := (0)) C0 dX5_readPart_68 rfl ?_
        exact ww_zret C0 hr dX5_readPart_69 (by simp [rPart, bI, *]) (by simp [rPart, nI_pred, *])
      · skip
        refine ww_aload_n C0 dX5_readPart_45 rfl ?_
        refine ww_get C0 (ci := 5) (C := RX5) (T := TX5) (N := 33) ku_X5 0 rfl rfl 10 (by decide) kw_X5_97 rfl dX5_readPart_46 ?_
        refine ww_iconst (v := (5)) C0 dX5_readPart_49 rfl ?_
        refine ww_icmp_ge (tgt := 58) C0 dX5_readPart_50 (by decide) (fun h50 => ?_) (fun h50 => ?_)
        · skip
          replace h50 := (nI_leE (a := 5) (b := rm) rfl rfl (by omega) (by omega)).mp h50
          have h50z : ¬ rm < 5 := by omega
          refine ww_aload_n C0 dX5_readPart_58 rfl ?_
          refine ww_dup C0 dX5_readPart_59 rfl ?_
          refine ww_get C0 (ci := 5) (C := RX5) (T := TX5) (N := 33) ku_X5 0 rfl rfl 3 (by decide) kw_X5_87 rfl dX5_readPart_60 ?_
          refine ww_iconst (v := (1)) C0 dX5_readPart_63 rfl ?_
          refine ww_isub C0 dX5_readPart_64 ?_
          refine ww_put C0 (ci := 5) (C := RX5) (T := TX5) (N := 33) ku_X5 0 rfl rfl 3 (by decide) tyX5 tyX5_ok nmX5 kw_X5_87 rfl (ty := .int) (by decide +kernel) rfl rfl (Nat.le_of_ble_eq_true rfl) dX5_readPart_65 ?_
          simp only [List.set_cons_zero, List.set_cons_succ]
          refine ww_iconst (v := (0)) C0 dX5_readPart_68 rfl ?_
          exact ww_zret C0 hr dX5_readPart_69 (by simp [rPart, bI, *]) (by simp [rPart, nI_pred, *])
        · skip
          replace h50 := (not_congr (nI_leE (a := 5) (b := rm) rfl rfl (by omega) (by omega))).mp h50
          have h50z : rm < 5 := by omega
          refine ww_aload_n C0 dX5_readPart_53 rfl ?_
          refine ww_callVi C0 (qc := (RX5, TX5, 33)) 0 5 (c_X5_readOneMule l D cI cZ cQ ht (by omega) h50z) kd_X5_readOneMule kw_X5_104 km_X5_readOneMule kl_X5_readOneMule ki_X5 hd_X5_readOneMule rfl rfl ⟨Nat.le_of_ble_eq_true rfl, Nat.le_of_ble_eq_true rfl, rfl, rfl⟩ (Nat.le_of_ble_eq_true rfl) dX5_readPart_54 rfl rfl rfl ⟨Nat.zero_le _, Nat.zero_le _⟩ ?_
          exact ww_zret C0 hr dX5_readPart_57 (by (first | exact absurd (h23.symm.trans h42) (by decide) | simp [rPart, *])) (by (first | exact absurd (h23.symm.trans h42) (by decide) | simp [rPart, *]))
    · skip
      replace h31 := (not_congr (nI_leE (a := 5) (b := rr) rfl rfl (by omega) (by omega))).mp h31
      have h31z : rr < 5 := by omega
      refine ww_aload_n C0 dX5_readPart_34 rfl ?_
      refine ww_callVi C0 (qc := (RX5, TX5, 33)) 0 5 (c_X5_readOneArticle l D cI cZ cQ ht (by omega) h31z) kd_X5_readOneArticle kw_X5_100 km_X5_readOneArticle kl_X5_readOneArticle ki_X5 hd_X5_readOneArticle rfl rfl ⟨Nat.le_of_ble_eq_true rfl, Nat.le_of_ble_eq_true rfl, rfl, rfl⟩ (Nat.le_of_ble_eq_true rfl) dX5_readPart_35 rfl rfl rfl ⟨Nat.zero_le _, Nat.zero_le _⟩ ?_
      exact ww_zret C0 hr dX5_readPart_38 (by simp [rPart, *]) (by simp [rPart, *])

set_option maxHeartbeats 4000000 in
set_option maxRecDepth 100000 in
theorem c_X5_readTreaty (l : Launch) (D : va_G) (cI cZ cQ : ClassId) {aM amt amc amw ams amv amr amx amp amq amb amk amz am0 am1 am2 am3 am4 amh amo : Nat} {tn nm na ac gn : Nat} {th vpl vrm vra x0 x1 x2 x3 : Int32} {sd : Int64} {fmt fmc fmw fms fmv fmp fmq fmr fmx : Nat → Int32} {rest : va_W} (ht : tn ≤ 48) : MI l D [(cI, .int), (cZ, .boolean), (cQ, .object "MulesRemember$State")] yX5_readTreaty cX5_readTreaty 1 .int ({ frames := 4, cells := 0, slots := 0, locals := 89 } : Room) [.ref aM] ((aM, .inr (5, [.int th, .ref amt, .int (nI tn), .int vpl, .int (nI nm), .ref amc, .int (nI na), .ref amw, .ref ams, .ref amv, .int vrm, .ref amr, .int vra, .ref amx, .ref amp, .ref amq, .ref amb, .int (nI ac), .ref amk, .ref amz, .int (nI gn), .ref am0, .ref am1, .ref am2, .ref am3, .ref am4, .long sd, .ref amh, .int x0, .int x1, .int x2, .int x3, .ref amo])) :: (amt, .inl (cI, 48, .inl (fmt))) :: (amc, .inl (cI, 5, .inl (fmc))) :: (amw, .inl (cI, 5, .inl (fmw))) :: (ams, .inl (cI, 5, .inl (fms))) :: (amv, .inl (cI, 5, .inl (fmv))) :: (amp, .inl (cI, 17, .inl (fmp))) :: (amq, .inl (cI, 17, .inl (fmq))) :: (amr, .inl (cI, 15, .inl (fmr))) :: (amx, .inl (cI, 15, .inl (fmx))) :: rest) ((rTreaty fmt tn fmr fmx).1) ((aM, .inr (5, [.int th, .ref amt, .int (nI tn), .int (nI (rTreaty fmt tn fmr fmx).2.1), .int (nI nm), .ref amc, .int (nI na), .ref amw, .ref ams, .ref amv, .int (nI (rTreaty fmt tn fmr fmx).2.2.1), .ref amr, .int (nI (rTreaty fmt tn fmr fmx).2.2.2.1), .ref amx, .ref amp, .ref amq, .ref amb, .int (nI ac), .ref amk, .ref amz, .int (nI gn), .ref am0, .ref am1, .ref am2, .ref am3, .ref am4, .long sd, .ref amh, .int x0, .int x1, .int x2, .int x3, .ref amo])) :: (amt, .inl (cI, 48, .inl (fmt))) :: (amc, .inl (cI, 5, .inl (fmc))) :: (amw, .inl (cI, 5, .inl (fmw))) :: (ams, .inl (cI, 5, .inl (fms))) :: (amv, .inl (cI, 5, .inl (fmv))) :: (amp, .inl (cI, 17, .inl (fmp))) :: (amq, .inl (cI, 17, .inl (fmq))) :: (amr, .inl (cI, 15, .inl ((rTreaty fmt tn fmr fmx).2.2.2.2.1))) :: (amx, .inl (cI, 15, .inl ((rTreaty fmt tn fmr fmx).2.2.2.2.2))) :: rest) := by
  refine MI.of [.ref aM] (by decide) (Nat.le_of_ble_eq_true rfl) rfl ?_
  intro p e s m below meth c A C0 hr
  refine ww_aload_n C0 dX5_readTreaty_0 rfl ?_
  refine ww_iconst (v := (0)) C0 dX5_readTreaty_1 rfl ?_
  refine ww_put C0 (ci := 5) (C := RX5) (T := TX5) (N := 33) ku_X5 0 rfl rfl 3 (by decide) tyX5 tyX5_ok nmX5 kw_X5_87 rfl (ty := .int) (by decide +kernel) rfl rfl (Nat.le_of_ble_eq_true rfl) dX5_readTreaty_2 ?_
  simp only [List.set_cons_zero, List.set_cons_succ]
  refine ww_aload_n C0 dX5_readTreaty_5 rfl ?_
  refine ww_iconst (v := (0)) C0 dX5_readTreaty_6 rfl ?_
  refine ww_put C0 (ci := 5) (C := RX5) (T := TX5) (N := 33) ku_X5 0 rfl rfl 10 (by decide) tyX5 tyX5_ok nmX5 kw_X5_97 rfl (ty := .int) (by decide +kernel) rfl rfl (Nat.le_of_ble_eq_true rfl) dX5_readTreaty_7 ?_
  simp only [List.set_cons_zero, List.set_cons_succ]
  refine ww_aload_n C0 dX5_readTreaty_10 rfl ?_
  refine ww_iconst (v := (0)) C0 dX5_readTreaty_11 rfl ?_
  refine ww_put C0 (ci := 5) (C := RX5) (T := TX5) (N := 33) ku_X5 0 rfl rfl 12 (by decide) tyX5 tyX5_ok nmX5 kw_X5_94 rfl (ty := .int) (by decide +kernel) rfl rfl (Nat.le_of_ble_eq_true rfl) dX5_readTreaty_12 ?_
  simp only [List.set_cons_zero, List.set_cons_succ]
  refine ww_aload_n C0 dX5_readTreaty_15 rfl ?_
  refine ww_get C0 (ci := 5) (C := RX5) (T := TX5) (N := 33) ku_X5 0 rfl rfl 2 (by decide) kw_X5_84 rfl dX5_readTreaty_16 ?_
  refine ww_if_eq (tgt := 33) C0 dX5_readTreaty_19 (by decide) (fun h19 => ?_) (fun h19 => ?_)
  · skip
    replace h19 := (nI_eqE (a := tn) (b := 0) rfl rfl (by omega) (by omega)).mp h19
    refine ww_iconst (v := (0)) C0 dX5_readTreaty_33 rfl ?_
    exact ww_iret C0 hr dX5_readTreaty_34 (by simp [rTreaty, *]) (by (simp only [rTreaty, *, if_true, if_false]; rfl))
  · skip
    replace h19 := (not_congr (nI_eqE (a := tn) (b := 0) rfl rfl (by omega) (by omega))).mp h19
    refine ww_aload_n C0 dX5_readTreaty_22 rfl ?_
    refine ww_get C0 (ci := 5) (C := RX5) (T := TX5) (N := 33) ku_X5 0 rfl rfl 1 (by decide) kw_X5_7 rfl dX5_readTreaty_23 ?_
    refine ww_iconst (v := (0)) C0 dX5_readTreaty_26 rfl ?_
    refine ww_iald_n (j := 0) C0 1 0 rfl rfl rfl (by decide) (by decide) dX5_readTreaty_27 ?_
    refine ww_bipush (v := (77)) C0 dX5_readTreaty_28 rfl ?_
    refine ww_icmp_eq (tgt := 35) C0 dX5_readTreaty_30 (by decide) (fun h30 => ?_) (fun h30 => ?_)
    · skip
      refine ww_aload_n C0 dX5_readTreaty_35 rfl ?_
      refine ww_iconst (v := (1)) C0 dX5_readTreaty_36 rfl ?_
      refine ww_put C0 (ci := 5) (C := RX5) (T := TX5) (N := 33) ku_X5 0 rfl rfl 3 (by decide) tyX5 tyX5_ok nmX5 kw_X5_87 rfl (ty := .int) (by decide +kernel) rfl rfl (Nat.le_of_ble_eq_true rfl) dX5_readTreaty_37 ?_
      simp only [List.set_cons_zero, List.set_cons_succ]
      have hT : (rTreaty fmt tn fmr fmx) = rLoop fmt tn 13 (1, 0, 0, fmr, fmx) := by simp [rTreaty, *]
      rw [hT]
      refine ww_back (ww_loopI (σ := RV) (pc := 40) 0 12 (by omega) (fun j v => v.1 = 1 + 4 * j ∧ v.1 ≤ tn ∧ v.2.1 ≤ 5 ∧ v.2.2.1 ≤ 5 ∧ rLoop fmt tn 13 (1, 0, 0, fmr, fmx) = rLoop fmt tn (13 - j) v) (fun _ _ => [.ref aM]) (fun _ v => (aM, .inr (5, [.int th, .ref amt, .int (nI tn), .int (nI v.1), .int (nI nm), .ref amc, .int (nI na), .ref amw, .ref ams, .ref amv, .int (nI v.2.1), .ref amr, .int (nI v.2.2.1), .ref amx, .ref amp, .ref amq, .ref amb, .int (nI ac), .ref amk, .ref amz, .int (nI gn), .ref am0, .ref am1, .ref am2, .ref am3, .ref am4, .long sd, .ref amh, .int x0, .int x1, .int x2, .int x3, .ref amo])) :: (amt, .inl (cI, 48, .inl (fmt))) :: (amc, .inl (cI, 5, .inl (fmc))) :: (amw, .inl (cI, 5, .inl (fmw))) :: (ams, .inl (cI, 5, .inl (fms))) :: (amv, .inl (cI, 5, .inl (fmv))) :: (amp, .inl (cI, 17, .inl (fmp))) :: (amq, .inl (cI, 17, .inl (fmq))) :: (amr, .inl (cI, 15, .inl (v.2.2.2.1))) :: (amx, .inl (cI, 15, .inl (v.2.2.2.2))) :: rest) (1, 0, 0, fmr, fmx) ⟨rfl, by show 1 ≤ tn; omega, Nat.zero_le 5, Nat.zero_le 5, rfl⟩ ?_ ?_) ⟨Or.inr rfl, trivial⟩ (by rfl)
      · skip
        rintro j ⟨pl, rm, rr, mr, mx⟩ hj0 hj ⟨h1, h2, h3, h4, hI⟩ ih
        simp only at h1 h2 h3 h4 hI ⊢
        rw [show 13 - j = (13 - (j + 1)) + 1 by omega, rLoop_s _ _ (13 - (j + 1))] at hI
        refine ww_aload_n C0 dX5_readTreaty_40 rfl ?_
        refine ww_get C0 (ci := 5) (C := RX5) (T := TX5) (N := 33) ku_X5 0 rfl rfl 3 (by decide) kw_X5_87 rfl dX5_readTreaty_41 ?_
        refine ww_aload_n C0 dX5_readTreaty_44 rfl ?_
        refine ww_get C0 (ci := 5) (C := RX5) (T := TX5) (N := 33) ku_X5 0 rfl rfl 2 (by decide) kw_X5_84 rfl dX5_readTreaty_45 ?_
        refine ww_icmp_ge (tgt := 63) C0 dX5_readTreaty_48 (by decide) (fun h48 => ?_) (fun h48 => ?_)
        · skip
          replace h48 := (nI_leE (a := tn) (b := pl) rfl rfl (by omega) (by omega)).mp h48
          have h48z : ¬ pl < tn := by omega
          refine ww_bipush (v := (-9)) C0 dX5_readTreaty_63 rfl ?_
          exact ww_iret C0 hr dX5_readTreaty_65 (by (rw [hI, if_neg h48z])) (by (rw [hI, if_neg h48z]))
        · skip
          replace h48 := (not_congr (nI_leE (a := tn) (b := pl) rfl rfl (by omega) (by omega))).mp h48
          have h48z : pl < tn := by omega
          refine ww_aload_n C0 dX5_readTreaty_51 rfl ?_
          refine ww_callVi C0 (qc := (RX5, TX5, 33)) 0 5 (c_X5_readPart l D cI cZ cQ ht h48z h3 h4) kd_X5_readPart kw_X5_107 km_X5_readPart kl_X5_readPart ki_X5 hd_X5_readPart rfl rfl ⟨Nat.le_of_ble_eq_true rfl, Nat.le_of_ble_eq_true rfl, rfl, rfl⟩ (Nat.le_of_ble_eq_true rfl) dX5_readTreaty_52 rfl rfl rfl ⟨Nat.zero_le _, Nat.zero_le _⟩ ?_
          refine ww_bif_ne (tgt := 40) C0 dX5_readTreaty_55 (by decide) (fun h55 => ?_) (fun h55 => ?_)
          · skip
            obtain ⟨g1, g2, g3, g4⟩ := rPart_inv (v := (pl, rm, rr, mr, mx)) (f := fmt) (tn := tn) h48z h3 h4 h55
            exact ww_back (ih _ ⟨by rw [g1]; show pl + 4 = _; omega, g2, g3, g4, by rw [hI, if_pos h48z, if_pos h55]⟩) ⟨Or.inr rfl, trivial⟩ (by rfl)
          · skip
            refine ww_aload_n C0 dX5_readTreaty_58 rfl ?_
            refine ww_get C0 (ci := 5) (C := RX5) (T := TX5) (N := 33) ku_X5 0 rfl rfl 3 (by decide) kw_X5_87 rfl dX5_readTreaty_59 ?_
            exact ww_iret C0 hr dX5_readTreaty_62 (by (rw [hI, if_pos h48z, if_neg (by rw [h55]; decide)])) (by (rw [hI, if_pos h48z, if_neg (by rw [h55]; decide)]))
      · rintro ⟨pl, rm, rr, mr, mx⟩ ⟨h1, h2, h3, h4, hI⟩
        exfalso
        simp only at h1 h2
        omega
    · skip
      refine ww_iconst (v := (0)) C0 dX5_readTreaty_33 rfl ?_
      exact ww_iret C0 hr dX5_readTreaty_34 (by simp [rTreaty, *]) (by (simp only [rTreaty, *, if_true, if_false]; rfl))
