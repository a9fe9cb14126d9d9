set_option maxHeartbeats 4000000 in
set_option maxRecDepth 100000 in
theorem c_X5_write_b (l : Launch) (D : va_G) (cI cZ cQ : ClassId) {aM amt amc amw ams amv amr amx amp amq amb amk amz am0 am1 am2 am3 am4 amh amo : Nat} {tn nm na ac gn : Nat} {th vpl vrm vra x0 x1 x2 x3 : Int32} {sd : Int64} {fmt : Nat → Int32} {rest : va_W} {x : Int32} (hx : isN 256 x = false) : MI l D [(cI, .int), (cZ, .boolean), (cQ, .object "MulesRemember$State")] yX5_write cX5_write 2 .int ({ frames := 1, cells := 0, slots := 0, locals := 25 } : Room) [.ref aM, .int x] ((aM, .inr (5, [.int th, .ref amt, .int (nI tn), .int vpl, .int (nI nm), .ref amc, .int (nI na), .ref amw, .ref ams, .ref amv, .int vrm, .ref amr, .int vra, .ref amx, .ref amp, .ref amq, .ref amb, .int (nI ac), .ref amk, .ref amz, .int (nI gn), .ref am0, .ref am1, .ref am2, .ref am3, .ref am4, .long sd, .ref amh, .int x0, .int x1, .int x2, .int x3, .ref amo])) :: (amt, .inl (cI, 48, .inl (fmt))) :: rest) (-2) ((aM, .inr (5, [.int 0, .ref amt, .int (nI tn), .int vpl, .int (nI nm), .ref amc, .int (nI na), .ref amw, .ref ams, .ref amv, .int vrm, .ref amr, .int vra, .ref amx, .ref amp, .ref amq, .ref amb, .int (nI ac), .ref amk, .ref amz, .int (nI gn), .ref am0, .ref am1, .ref am2, .ref am3, .ref am4, .long sd, .ref amh, .int x0, .int x1, .int x2, .int x3, .ref amo])) :: (amt, .inl (cI, 48, .inl (fmt))) :: rest) := by
  refine MI.of [.ref aM, .int x] (by decide) (Nat.le_of_ble_eq_true rfl) rfl ?_
  intro p e s m below meth c A C0 hr
  refine ww_aload_n C0 dX5_write_0 rfl ?_
  refine ww_iconst (v := (0)) C0 dX5_write_1 rfl ?_
  refine ww_put C0 (ci := 5) (C := RX5) (T := TX5) (N := 33) ku_X5 0 rfl rfl 0 (by decide) tyX5 tyX5_ok nmX5 kw_X5_68 rfl (ty := .int) (by decide +kernel) rfl rfl (Nat.le_of_ble_eq_true rfl) dX5_write_2 ?_
  simp only [List.set_cons_zero, List.set_cons_succ]
  refine ww_iload_n C0 dX5_write_5 rfl ?_
  refine ww_i2l C0 dX5_write_6 ?_
  refine ww_lconst (v := 0) C0 dX5_write_7 rfl ?_
  refine ww_ldc2 C0 kw_X5_82 dX5_write_8 ?_
  refine ww_callSi C0 (c_X5_in0 l D cI cZ cQ 256 (by decide) (by decide)) kd_X5_in kw_X5_75 ks_X5_in ki_X5 hd_X5_in ⟨Nat.le_of_ble_eq_true rfl, Nat.le_of_ble_eq_true rfl, rfl, rfl⟩ (Nat.le_of_ble_eq_true rfl) dX5_write_11 rfl rfl ⟨Nat.zero_le _, Nat.zero_le _⟩ ?_
  refine ww_bif_ne (tgt := 20) C0 dX5_write_14 (by decide) (fun h14 => ?_) (fun h14 => ?_)
  · skip
    exact absurd h14 (by rw [hx]; decide)
  · skip
    refine ww_bipush (v := (-2)) C0 dX5_write_17 rfl ?_
    exact ww_iret C0 hr dX5_write_19 (by rfl) (by rfl)

set_option maxHeartbeats 4000000 in
set_option maxRecDepth 100000 in
theorem c_X5_write_f (l : Launch) (D : va_G) (cI cZ cQ : ClassId) {aM amt amc amw ams amv amr amx amp amq amb amk amz am0 am1 am2 am3 am4 amh amo : Nat} {tn nm na ac gn : Nat} {th vpl vrm vra x0 x1 x2 x3 : Int32} {sd : Int64} {fmt : Nat → Int32} {rest : va_W} {x : Int32} (hx : isN 256 x = true) (ht : tn = 48) : MI l D [(cI, .int), (cZ, .boolean), (cQ, .object "MulesRemember$State")] yX5_write cX5_write 2 .int ({ frames := 1, cells := 0, slots := 0, locals := 25 } : Room) [.ref aM, .int x] ((aM, .inr (5, [.int th, .ref amt, .int (nI tn), .int vpl, .int (nI nm), .ref amc, .int (nI na), .ref amw, .ref ams, .ref amv, .int vrm, .ref amr, .int vra, .ref amx, .ref amp, .ref amq, .ref amb, .int (nI ac), .ref amk, .ref amz, .int (nI gn), .ref am0, .ref am1, .ref am2, .ref am3, .ref am4, .long sd, .ref amh, .int x0, .int x1, .int x2, .int x3, .ref amo])) :: (amt, .inl (cI, 48, .inl (fmt))) :: rest) (-4) ((aM, .inr (5, [.int 0, .ref amt, .int (nI tn), .int vpl, .int (nI nm), .ref amc, .int (nI na), .ref amw, .ref ams, .ref amv, .int vrm, .ref amr, .int vra, .ref amx, .ref amp, .ref amq, .ref amb, .int (nI ac), .ref amk, .ref amz, .int (nI gn), .ref am0, .ref am1, .ref am2, .ref am3, .ref am4, .long sd, .ref amh, .int x0, .int x1, .int x2, .int x3, .ref amo])) :: (amt, .inl (cI, 48, .inl (fmt))) :: rest) := by
  refine MI.of [.ref aM, .int x] (by decide) (Nat.le_of_ble_eq_true rfl) rfl ?_
  intro p e s m below meth c A C0 hr
  refine ww_aload_n C0 dX5_write_0 rfl ?_
  refine ww_iconst (v := (0)) C0 dX5_write_1 rfl ?_
  refine ww_put C0 (ci := 5) (C := RX5) (T := TX5) (N := 33) ku_X5 0 rfl rfl 0 (by decide) tyX5 tyX5_ok nmX5 kw_X5_68 rfl (ty := .int) (by decide +kernel) rfl rfl (Nat.le_of_ble_eq_true rfl) dX5_write_2 ?_
  simp only [List.set_cons_zero, List.set_cons_succ]
  refine ww_iload_n C0 dX5_write_5 rfl ?_
  refine ww_i2l C0 dX5_write_6 ?_
  refine ww_lconst (v := 0) C0 dX5_write_7 rfl ?_
  refine ww_ldc2 C0 kw_X5_82 dX5_write_8 ?_
  refine ww_callSi C0 (c_X5_in0 l D cI cZ cQ 256 (by decide) (by decide)) kd_X5_in kw_X5_75 ks_X5_in ki_X5 hd_X5_in ⟨Nat.le_of_ble_eq_true rfl, Nat.le_of_ble_eq_true rfl, rfl, rfl⟩ (Nat.le_of_ble_eq_true rfl) dX5_write_11 rfl rfl ⟨Nat.zero_le _, Nat.zero_le _⟩ ?_
  refine ww_bif_ne (tgt := 20) C0 dX5_write_14 (by decide) (fun h14 => ?_) (fun h14 => ?_)
  · skip
    refine ww_aload_n C0 dX5_write_20 rfl ?_
    refine ww_get C0 (ci := 5) (C := RX5) (T := TX5) (N := 33) ku_X5 0 rfl rfl 2 (by decide) kw_X5_84 rfl dX5_write_21 ?_
    refine ww_bipush (v := (48)) C0 dX5_write_24 rfl ?_
    refine ww_icmp_ne (tgt := 32) C0 dX5_write_26 (by decide) (fun h26 => ?_) (fun h26 => ?_)
    · skip
      replace h26 := (not_congr (nI_eqE (a := tn) (b := 48) rfl rfl (by omega) (by omega))).mp h26
      exfalso; omega
    · skip
      replace h26 := (nI_eqE (a := tn) (b := 48) rfl rfl (by omega) (by omega)).mp h26
      refine ww_bipush (v := (-4)) C0 dX5_write_29 rfl ?_
      exact ww_iret C0 hr dX5_write_31 (by rfl) (by rfl)
  · skip
    exact absurd hx (by rw [h14]; decide)

set_option maxHeartbeats 4000000 in
set_option maxRecDepth 100000 in
theorem c_X5_write (l : Launch) (D : va_G) (cI cZ cQ : ClassId) {aM amt amc amw ams amv amr amx amp amq amb amk amz am0 am1 am2 am3 am4 amh amo : Nat} {tn nm na ac gn : Nat} {th vpl vrm vra x0 x1 x2 x3 : Int32} {sd : Int64} {fmt : Nat → Int32} {rest : va_W} {x : Int32} (hx : isN 256 x = true) (ht : tn < 48) : MI l D [(cI, .int), (cZ, .boolean), (cQ, .object "MulesRemember$State")] yX5_write cX5_write 2 .int ({ frames := 1, cells := 0, slots := 0, locals := 25 } : Room) [.ref aM, .int x] ((aM, .inr (5, [.int th, .ref amt, .int (nI tn), .int vpl, .int (nI nm), .ref amc, .int (nI na), .ref amw, .ref ams, .ref amv, .int vrm, .ref amr, .int vra, .ref amx, .ref amp, .ref amq, .ref amb, .int (nI ac), .ref amk, .ref amz, .int (nI gn), .ref am0, .ref am1, .ref am2, .ref am3, .ref am4, .long sd, .ref amh, .int x0, .int x1, .int x2, .int x3, .ref amo])) :: (amt, .inl (cI, 48, .inl (fmt))) :: rest) (nI (tn + 1)) ((aM, .inr (5, [.int 0, .ref amt, .int (nI (tn + 1)), .int vpl, .int (nI nm), .ref amc, .int (nI na), .ref amw, .ref ams, .ref amv, .int vrm, .ref amr, .int vra, .ref amx, .ref amp, .ref amq, .ref amb, .int (nI ac), .ref amk, .ref amz, .int (nI gn), .ref am0, .ref am1, .ref am2, .ref am3, .ref am4, .long sd, .ref amh, .int x0, .int x1, .int x2, .int x3, .ref amo])) :: (amt, .inl (cI, 48, .inl (upd fmt tn x))) :: rest) := by
  refine MI.of [.ref aM, .int x] (by decide) (Nat.le_of_ble_eq_true rfl) rfl ?_
  intro p e s m below meth c A C0 hr
  refine ww_aload_n C0 dX5_write_0 rfl ?_
  refine ww_iconst (v := (0)) C0 dX5_write_1 rfl ?_
  refine ww_put C0 (ci := 5) (C := RX5) (T := TX5) (N := 33) ku_X5 0 rfl rfl 0 (by decide) tyX5 tyX5_ok nmX5 kw_X5_68 rfl (ty := .int) (by decide +kernel) rfl rfl (Nat.le_of_ble_eq_true rfl) dX5_write_2 ?_
  simp only [List.set_cons_zero, List.set_cons_succ]
  refine ww_iload_n C0 dX5_write_5 rfl ?_
  refine ww_i2l C0 dX5_write_6 ?_
  refine ww_lconst (v := 0) C0 dX5_write_7 rfl ?_
  refine ww_ldc2 C0 kw_X5_82 dX5_write_8 ?_
  refine ww_callSi C0 (c_X5_in0 l D cI cZ cQ 256 (by decide) (by decide)) kd_X5_in kw_X5_75 ks_X5_in ki_X5 hd_X5_in ⟨Nat.le_of_ble_eq_true rfl, Nat.le_of_ble_eq_true rfl, rfl, rfl⟩ (Nat.le_of_ble_eq_true rfl) dX5_write_11 rfl rfl ⟨Nat.zero_le _, Nat.zero_le _⟩ ?_
  refine ww_bif_ne (tgt := 20) C0 dX5_write_14 (by decide) (fun h14 => ?_) (fun h14 => ?_)
  · skip
    refine ww_aload_n C0 dX5_write_20 rfl ?_
    refine ww_get C0 (ci := 5) (C := RX5) (T := TX5) (N := 33) ku_X5 0 rfl rfl 2 (by decide) kw_X5_84 rfl dX5_write_21 ?_
    refine ww_bipush (v := (48)) C0 dX5_write_24 rfl ?_
    refine ww_icmp_ne (tgt := 32) C0 dX5_write_26 (by decide) (fun h26 => ?_) (fun h26 => ?_)
    · skip
      replace h26 := (not_congr (nI_eqE (a := tn) (b := 48) rfl rfl (by omega) (by omega))).mp h26
      refine ww_aload_n C0 dX5_write_32 rfl ?_
      refine ww_get C0 (ci := 5) (C := RX5) (T := TX5) (N := 33) ku_X5 0 rfl rfl 1 (by decide) kw_X5_7 rfl dX5_write_33 ?_
      refine ww_aload_n C0 dX5_write_36 rfl ?_
      refine ww_get C0 (ci := 5) (C := RX5) (T := TX5) (N := 33) ku_X5 0 rfl rfl 2 (by decide) kw_X5_84 rfl dX5_write_37 ?_
      refine ww_iload_n C0 dX5_write_40 rfl ?_
      refine ww_iast_n (j := tn) C0 1 0 rfl rfl rfl (by omega) (by decide) dX5_write_41 ?_
      simp only [List.set_cons_zero, List.set_cons_succ]
      refine ww_aload_n C0 dX5_write_42 rfl ?_
      refine ww_dup C0 dX5_write_43 rfl ?_
      refine ww_get C0 (ci := 5) (C := RX5) (T := TX5) (N := 33) ku_X5 0 rfl rfl 2 (by decide) kw_X5_84 rfl dX5_write_44 ?_
      refine ww_iconst (v := (1)) C0 dX5_write_47 rfl ?_
      refine ww_iadd C0 dX5_write_48 ?_
      refine ww_put C0 (ci := 5) (C := RX5) (T := TX5) (N := 33) ku_X5 0 rfl rfl 2 (by decide) tyX5 tyX5_ok nmX5 kw_X5_84 rfl (ty := .int) (by decide +kernel) rfl rfl (Nat.le_of_ble_eq_true rfl) dX5_write_49 ?_
      simp only [List.set_cons_zero, List.set_cons_succ]
      refine ww_aload_n C0 dX5_write_52 rfl ?_
      refine ww_get C0 (ci := 5) (C := RX5) (T := TX5) (N := 33) ku_X5 0 rfl rfl 2 (by decide) kw_X5_84 rfl dX5_write_53 ?_
      exact ww_iret C0 hr dX5_write_56 (by exact nI_1 tn) (by simp only [nI_1])
    · skip
      replace h26 := (nI_eqE (a := tn) (b := 48) rfl rfl (by omega) (by omega)).mp h26
      exfalso; omega
  · skip
    exact absurd hx (by rw [h14]; decide)

set_option maxHeartbeats 4000000 in
set_option maxRecDepth 100000 in
theorem c_X5_wipe (l : Launch) (D : va_G) (cI cZ cQ : ClassId) {aM amt amc amw ams amv amr amx amp amq amb amk amz am0 am1 am2 am3 am4 amh amo : Nat} {tn nm na ac gn : Nat} {th vpl vrm vra x0 x1 x2 x3 : Int32} {sd : Int64} {rest : va_W} : MI l D [(cI, .int), (cZ, .boolean), (cQ, .object "MulesRemember$State")] yX5_wipe cX5_wipe 2 .int ({ frames := 0, cells := 0, slots := 0, locals := 0 } : Room) [.ref aM] ((aM, .inr (5, [.int th, .ref amt, .int (nI tn), .int vpl, .int (nI nm), .ref amc, .int (nI na), .ref amw, .ref ams, .ref amv, .int vrm, .ref amr, .int vra, .ref amx, .ref amp, .ref amq, .ref amb, .int (nI ac), .ref amk, .ref amz, .int (nI gn), .ref am0, .ref am1, .ref am2, .ref am3, .ref am4, .long sd, .ref amh, .int x0, .int x1, .int x2, .int x3, .ref amo])) :: rest) (nI tn) ((aM, .inr (5, [.int 0, .ref amt, .int (nI 0), .int vpl, .int (nI nm), .ref amc, .int (nI na), .ref amw, .ref ams, .ref amv, .int vrm, .ref amr, .int vra, .ref amx, .ref amp, .ref amq, .ref amb, .int (nI ac), .ref amk, .ref amz, .int (nI gn), .ref am0, .ref am1, .ref am2, .ref am3, .ref am4, .long sd, .ref amh, .int x0, .int x1, .int x2, .int x3, .ref amo])) :: rest) := by
  refine MI.of [.ref aM, .null] (by decide) (Nat.le_of_ble_eq_true rfl) rfl ?_
  intro p e s m below meth c A C0 hr
  refine ww_aload_n C0 dX5_wipe_0 rfl ?_
  refine ww_iconst (v := (0)) C0 dX5_wipe_1 rfl ?_
  refine ww_put C0 (ci := 5) (C := RX5) (T := TX5) (N := 33) ku_X5 0 rfl rfl 0 (by decide) tyX5 tyX5_ok nmX5 kw_X5_68 rfl (ty := .int) (by decide +kernel) rfl rfl (Nat.le_of_ble_eq_true rfl) dX5_wipe_2 ?_
  simp only [List.set_cons_zero, List.set_cons_succ]
  refine ww_aload_n C0 dX5_wipe_5 rfl ?_
  refine ww_get C0 (ci := 5) (C := RX5) (T := TX5) (N := 33) ku_X5 0 rfl rfl 2 (by decide) kw_X5_84 rfl dX5_wipe_6 ?_
  refine ww_istore_n (i := 1) C0 dX5_wipe_9 rfl (Nat.le_of_ble_eq_true rfl) rfl ?_
  simp only [List.set_cons_zero, List.set_cons_succ]
  refine ww_aload_n C0 dX5_wipe_10 rfl ?_
  refine ww_iconst (v := (0)) C0 dX5_wipe_11 rfl ?_
  refine ww_put C0 (ci := 5) (C := RX5) (T := TX5) (N := 33) ku_X5 0 rfl rfl 2 (by decide) tyX5 tyX5_ok nmX5 kw_X5_84 rfl (ty := .int) (by decide +kernel) rfl rfl (Nat.le_of_ble_eq_true rfl) dX5_wipe_12 ?_
  simp only [List.set_cons_zero, List.set_cons_succ]
  refine ww_iload_n C0 dX5_wipe_15 rfl ?_
  exact ww_iret C0 hr dX5_wipe_16 (by rfl) (by rfl)

set_option maxHeartbeats 4000000 in
set_option maxRecDepth 100000 in
theorem c_X5_fault (l : Launch) (D : va_G) (cI cZ cQ : ClassId) {aM amt amc amw ams amv amr amx amp amq amb amk amz am0 am1 am2 am3 am4 amh amo : Nat} {tn nm na ac gn : Nat} {th vpl vrm vra x0 x1 x2 x3 : Int32} {sd : Int64} {fmt fmc fmw fms fmv fmp fmq fmr fmx : Nat → Int32} {rest : va_W} (ht : tn ≤ 48) : MI l D [(cI, .int), (cZ, .boolean), (cQ, .object "MulesRemember$State")] yX5_fault cX5_fault 1 .int ({ frames := 5, cells := 0, slots := 0, locals := 109 } : Room) [.ref aM] ((aM, .inr (5, [.int th, .ref amt, .int (nI tn), .int vpl, .int (nI nm), .ref amc, .int (nI na), .ref amw, .ref ams, .ref amv, .int vrm, .ref amr, .int vra, .ref amx, .ref amp, .ref amq, .ref amb, .int (nI ac), .ref amk, .ref amz, .int (nI gn), .ref am0, .ref am1, .ref am2, .ref am3, .ref am4, .long sd, .ref amh, .int x0, .int x1, .int x2, .int x3, .ref amo])) :: (amt, .inl (cI, 48, .inl (fmt))) :: (amc, .inl (cI, 5, .inl (fmc))) :: (amw, .inl (cI, 5, .inl (fmw))) :: (ams, .inl (cI, 5, .inl (fms))) :: (amv, .inl (cI, 5, .inl (fmv))) :: (amp, .inl (cI, 17, .inl (fmp))) :: (amq, .inl (cI, 17, .inl (fmq))) :: (amr, .inl (cI, 15, .inl (fmr))) :: (amx, .inl (cI, 15, .inl (fmx))) :: rest) ((rTreaty fmt tn fmr fmx).1) ((aM, .inr (5, [.int 0, .ref amt, .int (nI tn), .int (nI (rTreaty fmt tn fmr fmx).2.1), .int (nI nm), .ref amc, .int (nI na), .ref amw, .ref ams, .ref amv, .int (nI (rTreaty fmt tn fmr fmx).2.2.1), .ref amr, .int (nI (rTreaty fmt tn fmr fmx).2.2.2.1), .ref amx, .ref amp, .ref amq, .ref amb, .int (nI ac), .ref amk, .ref amz, .int (nI gn), .ref am0, .ref am1, .ref am2, .ref am3, .ref am4, .long sd, .ref amh, .int x0, .int x1, .int x2, .int x3, .ref amo])) :: (amt, .inl (cI, 48, .inl (fmt))) :: (amc, .inl (cI, 5, .inl (fmc))) :: (amw, .inl (cI, 5, .inl (fmw))) :: (ams, .inl (cI, 5, .inl (fms))) :: (amv, .inl (cI, 5, .inl (fmv))) :: (amp, .inl (cI, 17, .inl (fmp))) :: (amq, .inl (cI, 17, .inl (fmq))) :: (amr, .inl (cI, 15, .inl ((rTreaty fmt tn fmr fmx).2.2.2.2.1))) :: (amx, .inl (cI, 15, .inl ((rTreaty fmt tn fmr fmx).2.2.2.2.2))) :: rest) := by
  refine MI.of [.ref aM] (by decide) (Nat.le_of_ble_eq_true rfl) rfl ?_
  intro p e s m below meth c A C0 hr
  refine ww_aload_n C0 dX5_fault_0 rfl ?_
  refine ww_iconst (v := (0)) C0 dX5_fault_1 rfl ?_
  refine ww_put C0 (ci := 5) (C := RX5) (T := TX5) (N := 33) ku_X5 0 rfl rfl 0 (by decide) tyX5 tyX5_ok nmX5 kw_X5_68 rfl (ty := .int) (by decide +kernel) rfl rfl (Nat.le_of_ble_eq_true rfl) dX5_fault_2 ?_
  simp only [List.set_cons_zero, List.set_cons_succ]
  refine ww_aload_n C0 dX5_fault_5 rfl ?_
  refine ww_callVi C0 (qc := (RX5, TX5, 33)) 0 5 (c_X5_readTreaty l D cI cZ cQ ht) kd_X5_readTreaty kw_X5_110 km_X5_readTreaty kl_X5_readTreaty ki_X5 hd_X5_readTreaty rfl rfl ⟨Nat.le_of_ble_eq_true rfl, Nat.le_of_ble_eq_true rfl, rfl, rfl⟩ (Nat.le_of_ble_eq_true rfl) dX5_fault_6 rfl rfl rfl ⟨Nat.zero_le _, Nat.zero_le _⟩ ?_
  exact ww_iret C0 hr dX5_fault_9 (by rfl) (by rfl)

set_option maxHeartbeats 4000000 in
set_option maxRecDepth 100000 in
theorem c_X5_treaty_b (l : Launch) (D : va_G) (cI cZ cQ : ClassId) {aM amt amc amw ams amv amr amx amp amq amb amk amz am0 am1 am2 am3 am4 amh amo : Nat} {tn nm na ac gn : Nat} {th vpl vrm vra x0 x1 x2 x3 : Int32} {sd : Int64} {fmt fmc fmw fms fmv fmp fmq fmr fmx fmb fmk fmz : Nat → Int32} {rest : va_W} (ht : tn ≤ 48) (hf : ¬ (rTreaty fmt tn fmr fmx).1 = -9) : MI l D [(cI, .int), (cZ, .boolean), (cQ, .object "MulesRemember$State")] yX5_treaty cX5_treaty 2 .int ({ frames := 5, cells := 0, slots := 0, locals := 109 } : Room) [.ref aM] ((aM, .inr (5, [.int th, .ref amt, .int (nI tn), .int vpl, .int (nI nm), .ref amc, .int (nI na), .ref amw, .ref ams, .ref amv, .int vrm, .ref amr, .int vra, .ref amx, .ref amp, .ref amq, .ref amb, .int (nI ac), .ref amk, .ref amz, .int (nI gn), .ref am0, .ref am1, .ref am2, .ref am3, .ref am4, .long sd, .ref amh, .int x0, .int x1, .int x2, .int x3, .ref amo])) :: (amt, .inl (cI, 48, .inl (fmt))) :: (amc, .inl (cI, 5, .inl (fmc))) :: (amw, .inl (cI, 5, .inl (fmw))) :: (ams, .inl (cI, 5, .inl (fms))) :: (amv, .inl (cI, 5, .inl (fmv))) :: (amp, .inl (cI, 17, .inl (fmp))) :: (amq, .inl (cI, 17, .inl (fmq))) :: (amr, .inl (cI, 15, .inl (fmr))) :: (amx, .inl (cI, 15, .inl (fmx))) :: (amb, .inl (cI, 238, .inl (fmb))) :: (amk, .inl (cI, 34, .inl (fmk))) :: (amz, .inl (cZ, 2, .inl (fmz))) :: rest) (-3) ((aM, .inr (5, [.int 0, .ref amt, .int (nI tn), .int (nI (rTreaty fmt tn fmr fmx).2.1), .int (nI nm), .ref amc, .int (nI na), .ref amw, .ref ams, .ref amv, .int (nI (rTreaty fmt tn fmr fmx).2.2.1), .ref amr, .int (nI (rTreaty fmt tn fmr fmx).2.2.2.1), .ref amx, .ref amp, .ref amq, .ref amb, .int (nI ac), .ref amk, .ref amz, .int (nI gn), .ref am0, .ref am1, .ref am2, .ref am3, .ref am4, .long sd, .ref amh, .int x0, .int x1, .int x2, .int x3, .ref amo])) :: (amt, .inl (cI, 48, .inl (fmt))) :: (amc, .inl (cI, 5, .inl (fmc))) :: (amw, .inl (cI, 5, .inl (fmw))) :: (ams, .inl (cI, 5, .inl (fms))) :: (amv, .inl (cI, 5, .inl (fmv))) :: (amp, .inl (cI, 17, .inl (fmp))) :: (amq, .inl (cI, 17, .inl (fmq))) :: (amr, .inl (cI, 15, .inl ((rTreaty fmt tn fmr fmx).2.2.2.2.1))) :: (amx, .inl (cI, 15, .inl ((rTreaty fmt tn fmr fmx).2.2.2.2.2))) :: (amb, .inl (cI, 238, .inl (fmb))) :: (amk, .inl (cI, 34, .inl (fmk))) :: (amz, .inl (cZ, 2, .inl (fmz))) :: rest) := by
  refine MI.of [.ref aM, .null] (by decide) (Nat.le_of_ble_eq_true rfl) rfl ?_
  intro p e s m below meth c A C0 hr
  refine ww_aload_n C0 dX5_treaty_0 rfl ?_
  refine ww_iconst (v := (0)) C0 dX5_treaty_1 rfl ?_
  refine ww_put C0 (ci := 5) (C := RX5) (T := TX5) (N := 33) ku_X5 0 rfl rfl 0 (by decide) tyX5 tyX5_ok nmX5 kw_X5_68 rfl (ty := .int) (by decide +kernel) rfl rfl (Nat.le_of_ble_eq_true rfl) dX5_treaty_2 ?_
  simp only [List.set_cons_zero, List.set_cons_succ]
  refine ww_aload_n C0 dX5_treaty_5 rfl ?_
  refine ww_callVi C0 (qc := (RX5, TX5, 33)) 0 5 (c_X5_readTreaty l D cI cZ cQ ht) kd_X5_readTreaty kw_X5_110 km_X5_readTreaty kl_X5_readTreaty ki_X5 hd_X5_readTreaty rfl rfl ⟨Nat.le_of_ble_eq_true rfl, Nat.le_of_ble_eq_true rfl, rfl, rfl⟩ (Nat.le_of_ble_eq_true rfl) dX5_treaty_6 rfl rfl rfl ⟨Nat.zero_le _, Nat.zero_le _⟩ ?_
  refine ww_bipush (v := (-9)) C0 dX5_treaty_9 rfl ?_
  refine ww_icmp_eq (tgt := 17) C0 dX5_treaty_11 (by decide) (fun h11 => ?_) (fun h11 => ?_)
  · skip
    exact absurd h11 hf
  · skip
    refine ww_bipush (v := (-3)) C0 dX5_treaty_14 rfl ?_
    exact ww_iret C0 hr dX5_treaty_16 (by rfl) (by rfl)

set_option maxHeartbeats 4000000 in
set_option maxRecDepth 100000 in
theorem c_X5_treaty (l : Launch) (D : va_G) (cI cZ cQ : ClassId) {aM amt amc amw ams amv amr amx amp amq amb amk amz am0 am1 am2 am3 am4 amh amo : Nat} {tn nm na ac gn : Nat} {th vpl vrm vra x0 x1 x2 x3 : Int32} {sd : Int64} {fmt fmc fmw fms fmv fmp fmq fmr fmx fmb fmk fmz : Nat → Int32} {rest : va_W} (ht : tn ≤ 48) (hf : (rTreaty fmt tn fmr fmx).1 = -9) (hb5 : (rTreaty fmt tn fmr fmx).2.2.1 ≤ 5) (ha5 : (rTreaty fmt tn fmr fmx).2.2.2.1 ≤ 5) : MI l D [(cI, .int), (cZ, .boolean), (cQ, .object "MulesRemember$State")] yX5_treaty cX5_treaty 2 .int ({ frames := 5, cells := 0, slots := 0, locals := 109 } : Room) [.ref aM] ((aM, .inr (5, [.int th, .ref amt, .int (nI tn), .int vpl, .int (nI nm), .ref amc, .int (nI na), .ref amw, .ref ams, .ref amv, .int vrm, .ref amr, .int vra, .ref amx, .ref amp, .ref amq, .ref amb, .int (nI ac), .ref amk, .ref amz, .int (nI gn), .ref am0, .ref am1, .ref am2, .ref am3, .ref am4, .long sd, .ref amh, .int x0, .int x1, .int x2, .int x3, .ref amo])) :: (amt, .inl (cI, 48, .inl (fmt))) :: (amc, .inl (cI, 5, .inl (fmc))) :: (amw, .inl (cI, 5, .inl (fmw))) :: (ams, .inl (cI, 5, .inl (fms))) :: (amv, .inl (cI, 5, .inl (fmv))) :: (amp, .inl (cI, 17, .inl (fmp))) :: (amq, .inl (cI, 17, .inl (fmq))) :: (amr, .inl (cI, 15, .inl (fmr))) :: (amx, .inl (cI, 15, .inl (fmx))) :: (amb, .inl (cI, 238, .inl (fmb))) :: (amk, .inl (cI, 34, .inl (fmk))) :: (amz, .inl (cZ, 2, .inl (fmz))) :: rest) (10 * nI (rTreaty fmt tn fmr fmx).2.2.1 + nI (rTreaty fmt tn fmr fmx).2.2.2.1) ((aM, .inr (5, [.int 0, .ref amt, .int (nI tn), .int (nI (rTreaty fmt tn fmr fmx).2.1), .int (nI (rTreaty fmt tn fmr fmx).2.2.1), .ref amc, .int (nI (rTreaty fmt tn fmr fmx).2.2.2.1), .ref amw, .ref ams, .ref amv, .int (nI (rTreaty fmt tn fmr fmx).2.2.1), .ref amr, .int (nI (rTreaty fmt tn fmr fmx).2.2.2.1), .ref amx, .ref amp, .ref amq, .ref amb, .int (nI 0), .ref amk, .ref amz, .int (nI gn), .ref am0, .ref am1, .ref am2, .ref am3, .ref am4, .long sd, .ref amh, .int x0, .int x1, .int x2, .int x3, .ref amo])) :: (amt, .inl (cI, 48, .inl (fmt))) :: (amc, .inl (cI, 5, .inl (tCol (rTreaty fmt tn fmr fmx).2.2.2.2.1 fmc 1 (rTreaty fmt tn fmr fmx).2.2.1))) :: (amw, .inl (cI, 5, .inl (tCol (rTreaty fmt tn fmr fmx).2.2.2.2.2 fmw 0 (rTreaty fmt tn fmr fmx).2.2.2.1))) :: (ams, .inl (cI, 5, .inl (tCol (rTreaty fmt tn fmr fmx).2.2.2.2.2 fms 1 (rTreaty fmt tn fmr fmx).2.2.2.1))) :: (amv, .inl (cI, 5, .inl (tCol (rTreaty fmt tn fmr fmx).2.2.2.2.2 fmv 2 (rTreaty fmt tn fmr fmx).2.2.2.1))) :: (amp, .inl (cI, 17, .inl (tPage (rTreaty fmt tn fmr fmx).2.2.2.2.1 (rTreaty fmt tn fmr fmx).2.2.1))) :: (amq, .inl (cI, 17, .inl (fmq))) :: (amr, .inl (cI, 15, .inl ((rTreaty fmt tn fmr fmx).2.2.2.2.1))) :: (amx, .inl (cI, 15, .inl ((rTreaty fmt tn fmr fmx).2.2.2.2.2))) :: (amb, .inl (cI, 238, .inl (fmb))) :: (amk, .inl (cI, 34, .inl (fmk))) :: (amz, .inl (cZ, 2, .inl ((fun _ => 0)))) :: rest) := by
  refine MI.of [.ref aM, .null] (by decide) (Nat.le_of_ble_eq_true rfl) rfl ?_
  intro p e s m below meth c A C0 hr
  refine ww_aload_n C0 dX5_treaty_0 rfl ?_
  refine ww_iconst (v := (0)) C0 dX5_treaty_1 rfl ?_
  refine ww_put C0 (ci := 5) (C := RX5) (T := TX5) (N := 33) ku_X5 0 rfl rfl 0 (by decide) tyX5 tyX5_ok nmX5 kw_X5_68 rfl (ty := .int) (by decide +kernel) rfl rfl (Nat.le_of_ble_eq_true rfl) dX5_treaty_2 ?_
  simp only [List.set_cons_zero, List.set_cons_succ]
  refine ww_aload_n C0 dX5_treaty_5 rfl ?_
  refine ww_callVi C0 (qc := (RX5, TX5, 33)) 0 5 (c_X5_readTreaty l D cI cZ cQ ht) kd_X5_readTreaty kw_X5_110 km_X5_readTreaty kl_X5_readTreaty ki_X5 hd_X5_readTreaty rfl rfl ⟨Nat.le_of_ble_eq_true rfl, Nat.le_of_ble_eq_true rfl, rfl, rfl⟩ (Nat.le_of_ble_eq_true rfl) dX5_treaty_6 rfl rfl rfl ⟨Nat.zero_le _, Nat.zero_le _⟩ ?_
  refine ww_bipush (v := (-9)) C0 dX5_treaty_9 rfl ?_
  refine ww_icmp_eq (tgt := 17) C0 dX5_treaty_11 (by decide) (fun h11 => ?_) (fun h11 => ?_)
  · skip
    refine ww_aload_n C0 dX5_treaty_17 rfl ?_
    refine ww_aload_n C0 dX5_treaty_18 rfl ?_
    refine ww_get C0 (ci := 5) (C := RX5) (T := TX5) (N := 33) ku_X5 0 rfl rfl 10 (by decide) kw_X5_97 rfl dX5_treaty_19 ?_
    refine ww_put C0 (ci := 5) (C := RX5) (T := TX5) (N := 33) ku_X5 0 rfl rfl 4 (by decide) tyX5 tyX5_ok nmX5 kw_X5_72 rfl (ty := .int) (by decide +kernel) rfl rfl (Nat.le_of_ble_eq_true rfl) dX5_treaty_22 ?_
    simp only [List.set_cons_zero, List.set_cons_succ]
    refine ww_aload_n C0 dX5_treaty_25 rfl ?_
    refine ww_aload_n C0 dX5_treaty_26 rfl ?_
    refine ww_get C0 (ci := 5) (C := RX5) (T := TX5) (N := 33) ku_X5 0 rfl rfl 12 (by decide) kw_X5_94 rfl dX5_treaty_27 ?_
    refine ww_put C0 (ci := 5) (C := RX5) (T := TX5) (N := 33) ku_X5 0 rfl rfl 6 (by decide) tyX5 tyX5_ok nmX5 kw_X5_79 rfl (ty := .int) (by decide +kernel) rfl rfl (Nat.le_of_ble_eq_true rfl) dX5_treaty_30 ?_
    simp only [List.set_cons_zero, List.set_cons_succ]
    refine ww_iconst (v := (0)) C0 dX5_treaty_33 rfl ?_
    refine ww_istore_n (i := 1) C0 dX5_treaty_34 rfl (Nat.le_of_ble_eq_true rfl) rfl ?_
    simp only [List.set_cons_zero, List.set_cons_succ]
    refine ww_back (ww_loop (pc := 35) 0 (17) (by omega) (fun j => [_, .int (nI j)]) (fun j => (aM, .inr (5, [.int 0, .ref amt, .int (nI tn), .int (nI (rTreaty fmt tn fmr fmx).2.1), .int (nI (rTreaty fmt tn fmr fmx).2.2.1), .ref amc, .int (nI (rTreaty fmt tn fmr fmx).2.2.2.1), .ref amw, .ref ams, .ref amv, .int (nI (rTreaty fmt tn fmr fmx).2.2.1), .ref amr, .int (nI (rTreaty fmt tn fmr fmx).2.2.2.1), .ref amx, .ref amp, .ref amq, .ref amb, .int (nI ac), .ref amk, .ref amz, .int (nI gn), .ref am0, .ref am1, .ref am2, .ref am3, .ref am4, .long sd, .ref amh, .int x0, .int x1, .int x2, .int x3, .ref amo])) :: (amt, .inl (cI, 48, .inl (fmt))) :: (amc, .inl (cI, 5, .inl (fmc))) :: (amw, .inl (cI, 5, .inl (fmw))) :: (ams, .inl (cI, 5, .inl (fms))) :: (amv, .inl (cI, 5, .inl (fmv))) :: (amp, .inl (cI, 17, .inl (cpyF (fun _ => 0) fmp j))) :: (amq, .inl (cI, 17, .inl (fmq))) :: (amr, .inl (cI, 15, .inl ((rTreaty fmt tn fmr fmx).2.2.2.2.1))) :: (amx, .inl (cI, 15, .inl ((rTreaty fmt tn fmr fmx).2.2.2.2.2))) :: (amb, .inl (cI, 238, .inl (fmb))) :: (amk, .inl (cI, 34, .inl (fmk))) :: (amz, .inl (cZ, 2, .inl (fmz))) :: rest) ?_ ?_) ⟨Or.inr rfl, Or.inr rfl, trivial⟩ (by rw [cpyF_0])
    · intro j hj0 hj ih
      refine ww_iload_n C0 dX5_treaty_35 rfl ?_
      refine ww_bipush (v := (17)) C0 dX5_treaty_36 rfl ?_
      refine ww_icmp_ge (tgt := 54) C0 dX5_treaty_38 (by decide) (fun h38 => ?_) (fun h38 => ?_)
      · skip
        replace h38 := (nI_leE (a := 17) (b := j) rfl rfl (by omega) (by omega)).mp h38
        exfalso; omega
      · skip
        replace h38 := (not_congr (nI_leE (a := 17) (b := j) rfl rfl (by omega) (by omega))).mp h38
        refine ww_aload_n C0 dX5_treaty_41 rfl ?_
        refine ww_get C0 (ci := 5) (C := RX5) (T := TX5) (N := 33) ku_X5 0 rfl rfl 14 (by decide) kw_X5_31 rfl dX5_treaty_42 ?_
        refine ww_iload_n C0 dX5_treaty_45 rfl ?_
        refine ww_iconst (v := (0)) C0 dX5_treaty_46 rfl ?_
        refine ww_iast_n (j := j) C0 6 0 rfl rfl rfl (by omega) (by decide) dX5_treaty_47 ?_
        simp only [List.set_cons_zero, List.set_cons_succ]
        refine ww_iinc (d := 1) C0 dX5_treaty_48 rfl rfl rfl ?_
        simp only [List.set_cons_zero, List.set_cons_succ]
        refine ww_goto (tgt := 35) C0 dX5_treaty_51 (by decide) ?_
        exact ww_back ih ⟨Or.inr rfl, Or.inr (congrArg Value.int (nI_addE (a := j) (b := 1) rfl rfl).symm), trivial⟩ (by simp only [← cpyF_s])
    · skip
      refine ww_iload_n C0 dX5_treaty_35 rfl ?_
      refine ww_bipush (v := (17)) C0 dX5_treaty_36 rfl ?_
      refine ww_icmp_ge (tgt := 54) C0 dX5_treaty_38 (by decide) (fun h38 => ?_) (fun h38 => ?_)
      · skip
        replace h38 := (nI_leE (a := 17) (b := 17) rfl rfl (by omega) (by omega)).mp h38
        refine ww_iconst (v := (0)) C0 dX5_treaty_54 rfl ?_
        refine ww_istore_n (i := 1) C0 dX5_treaty_55 rfl (Nat.le_of_ble_eq_true rfl) rfl ?_
        simp only [List.set_cons_zero, List.set_cons_succ]
        refine ww_arr 6 (tPage (rTreaty fmt tn fmr fmx).2.2.2.2.1 0) rfl (fun k hk => by rw [tPage_0]; simp [cpyF, hk]) ?_
        simp only [List.set_cons_zero, List.set_cons_succ]
        refine ww_back (ww_loop (pc := 56) 0 ((rTreaty fmt tn fmr fmx).2.2.1) (by omega) (fun j => [_, .int (nI j)]) (fun j => (aM, .inr (5, [.int 0, .ref amt, .int (nI tn), .int (nI (rTreaty fmt tn fmr fmx).2.1), .int (nI (rTreaty fmt tn fmr fmx).2.2.1), .ref amc, .int (nI (rTreaty fmt tn fmr fmx).2.2.2.1), .ref amw, .ref ams, .ref amv, .int (nI (rTreaty fmt tn fmr fmx).2.2.1), .ref amr, .int (nI (rTreaty fmt tn fmr fmx).2.2.2.1), .ref amx, .ref amp, .ref amq, .ref amb, .int (nI ac), .ref amk, .ref amz, .int (nI gn), .ref am0, .ref am1, .ref am2, .ref am3, .ref am4, .long sd, .ref amh, .int x0, .int x1, .int x2, .int x3, .ref amo])) :: (amt, .inl (cI, 48, .inl (fmt))) :: (amc, .inl (cI, 5, .inl (tCol (rTreaty fmt tn fmr fmx).2.2.2.2.1 fmc 1 j))) :: (amw, .inl (cI, 5, .inl (fmw))) :: (ams, .inl (cI, 5, .inl (fms))) :: (amv, .inl (cI, 5, .inl (fmv))) :: (amp, .inl (cI, 17, .inl (tPage (rTreaty fmt tn fmr fmx).2.2.2.2.1 j))) :: (amq, .inl (cI, 17, .inl (fmq))) :: (amr, .inl (cI, 15, .inl ((rTreaty fmt tn fmr fmx).2.2.2.2.1))) :: (amx, .inl (cI, 15, .inl ((rTreaty fmt tn fmr fmx).2.2.2.2.2))) :: (amb, .inl (cI, 238, .inl (fmb))) :: (amk, .inl (cI, 34, .inl (fmk))) :: (amz, .inl (cZ, 2, .inl (fmz))) :: rest) ?_ ?_) ⟨Or.inr rfl, Or.inr rfl, trivial⟩ (by simp only [tCol_0])
        · intro j hj0 hj ih
          refine ww_iload_n C0 dX5_treaty_56 rfl ?_
          refine ww_aload_n C0 dX5_treaty_57 rfl ?_
          refine ww_get C0 (ci := 5) (C := RX5) (T := TX5) (N := 33) ku_X5 0 rfl rfl 4 (by decide) kw_X5_72 rfl dX5_treaty_58 ?_
          refine ww_icmp_ge (tgt := 120) C0 dX5_treaty_61 (by decide) (fun h61 => ?_) (fun h61 => ?_)
          · skip
            replace h61 := (nI_leE (a := (rTreaty fmt tn fmr fmx).2.2.1) (b := j) rfl rfl (by omega) (by omega)).mp h61
            exfalso; omega
          · skip
            replace h61 := (not_congr (nI_leE (a := (rTreaty fmt tn fmr fmx).2.2.1) (b := j) rfl rfl (by omega) (by omega))).mp h61
            refine ww_aload_n C0 dX5_treaty_64 rfl ?_
            refine ww_get C0 (ci := 5) (C := RX5) (T := TX5) (N := 33) ku_X5 0 rfl rfl 14 (by decide) kw_X5_31 rfl dX5_treaty_65 ?_
            refine ww_iconst (v := (0)) C0 dX5_treaty_68 rfl ?_
            refine ww_iload_n C0 dX5_treaty_69 rfl ?_
            refine ww_iadd C0 dX5_treaty_70 ?_
            refine ww_aload_n C0 dX5_treaty_71 rfl ?_
            refine ww_get C0 (ci := 5) (C := RX5) (T := TX5) (N := 33) ku_X5 0 rfl rfl 11 (by decide) kw_X5_25 rfl dX5_treaty_72 ?_
            refine ww_iconst (v := (3)) C0 dX5_treaty_75 rfl ?_
            refine ww_iload_n C0 dX5_treaty_76 rfl ?_
            refine ww_imul C0 dX5_treaty_77 ?_
            refine ww_iald_n (j := 3 * j) C0 8 0 rfl rfl (nI_mulE (a := 3) (b := j) rfl rfl) (by omega) (by decide) dX5_treaty_78 ?_
            refine ww_iast_n (j := j) C0 6 0 rfl rfl (by rw [show (0 : Int32) + nI j = nI (0 + j) from nI_add 0 j, Nat.zero_add]) (by omega) (by decide) dX5_treaty_79 ?_
            simp only [List.set_cons_zero, List.set_cons_succ]
            refine ww_aload_n C0 dX5_treaty_80 rfl ?_
            refine ww_get C0 (ci := 5) (C := RX5) (T := TX5) (N := 33) ku_X5 0 rfl rfl 5 (by decide) kw_X5_13 rfl dX5_treaty_81 ?_
            refine ww_iload_n C0 dX5_treaty_84 rfl ?_
            refine ww_aload_n C0 dX5_treaty_85 rfl ?_
            refine ww_get C0 (ci := 5) (C := RX5) (T := TX5) (N := 33) ku_X5 0 rfl rfl 11 (by decide) kw_X5_25 rfl dX5_treaty_86 ?_
            refine ww_iconst (v := (3)) C0 dX5_treaty_89 rfl ?_
            refine ww_iload_n C0 dX5_treaty_90 rfl ?_
            refine ww_imul C0 dX5_treaty_91 ?_
            refine ww_iconst (v := (1)) C0 dX5_treaty_92 rfl ?_
            refine ww_iadd C0 dX5_treaty_93 ?_
            refine ww_iald_n (j := (3 * j) + 1) C0 8 0 rfl rfl (nI_addE (a := 3 * j) (b := 1) (nI_mulE (a := 3) (b := j) rfl rfl) rfl) (by omega) (by decide) dX5_treaty_94 ?_
            refine ww_iast_n (j := j) C0 2 0 rfl rfl rfl (by omega) (by decide) dX5_treaty_95 ?_
            simp only [List.set_cons_zero, List.set_cons_succ]
            refine ww_aload_n C0 dX5_treaty_96 rfl ?_
            refine ww_get C0 (ci := 5) (C := RX5) (T := TX5) (N := 33) ku_X5 0 rfl rfl 14 (by decide) kw_X5_31 rfl dX5_treaty_97 ?_
            refine ww_iconst (v := (5)) C0 dX5_treaty_100 rfl ?_
            refine ww_iload_n C0 dX5_treaty_101 rfl ?_
            refine ww_iadd C0 dX5_treaty_102 ?_
            refine ww_aload_n C0 dX5_treaty_103 rfl ?_
            refine ww_get C0 (ci := 5) (C := RX5) (T := TX5) (N := 33) ku_X5 0 rfl rfl 11 (by decide) kw_X5_25 rfl dX5_treaty_104 ?_
            refine ww_iconst (v := (3)) C0 dX5_treaty_107 rfl ?_
            refine ww_iload_n C0 dX5_treaty_108 rfl ?_
            refine ww_imul C0 dX5_treaty_109 ?_
            refine ww_iconst (v := (2)) C0 dX5_treaty_110 rfl ?_
            refine ww_iadd C0 dX5_treaty_111 ?_
            refine ww_iald_n (j := (3 * j) + 2) C0 8 0 rfl rfl (nI_addE (a := 3 * j) (b := 2) (nI_mulE (a := 3) (b := j) rfl rfl) rfl) (by omega) (by decide) dX5_treaty_112 ?_
            refine ww_iast_n (j := 5 + j) C0 6 0 rfl rfl (nI_addE (a := 5) (b := j) rfl rfl) (by omega) (by decide) dX5_treaty_113 ?_
            simp only [List.set_cons_zero, List.set_cons_succ]
            refine ww_iinc (d := 1) C0 dX5_treaty_114 rfl rfl rfl ?_
            simp only [List.set_cons_zero, List.set_cons_succ]
            refine ww_goto (tgt := 56) C0 dX5_treaty_117 (by decide) ?_
            exact ww_back ih ⟨Or.inr rfl, Or.inr (congrArg Value.int (nI_addE (a := j) (b := 1) rfl rfl).symm), trivial⟩ (by simp only [← tCol_s, ← tPage_s (show j < 5 by omega)])
        · skip
          refine ww_iload_n C0 dX5_treaty_56 rfl ?_
          refine ww_aload_n C0 dX5_treaty_57 rfl ?_
          refine ww_get C0 (ci := 5) (C := RX5) (T := TX5) (N := 33) ku_X5 0 rfl rfl 4 (by decide) kw_X5_72 rfl dX5_treaty_58 ?_
          refine ww_icmp_ge (tgt := 120) C0 dX5_treaty_61 (by decide) (fun h61 => ?_) (fun h61 => ?_)
          · skip
            replace h61 := (nI_leE (a := (rTreaty fmt tn fmr fmx).2.2.1) (b := ((rTreaty fmt tn fmr fmx).2.2.1)) rfl rfl (by omega) (by omega)).mp h61
            refine ww_iconst (v := (0)) C0 dX5_treaty_120 rfl ?_
            refine ww_istore_n (i := 1) C0 dX5_treaty_121 rfl (Nat.le_of_ble_eq_true rfl) rfl ?_
            simp only [List.set_cons_zero, List.set_cons_succ]
            refine ww_back (ww_loop (pc := 122) 0 ((rTreaty fmt tn fmr fmx).2.2.2.1) (by omega) (fun j => [_, .int (nI j)]) (fun j => (aM, .inr (5, [.int 0, .ref amt, .int (nI tn), .int (nI (rTreaty fmt tn fmr fmx).2.1), .int (nI (rTreaty fmt tn fmr fmx).2.2.1), .ref amc, .int (nI (rTreaty fmt tn fmr fmx).2.2.2.1), .ref amw, .ref ams, .ref amv, .int (nI (rTreaty fmt tn fmr fmx).2.2.1), .ref amr, .int (nI (rTreaty fmt tn fmr fmx).2.2.2.1), .ref amx, .ref amp, .ref amq, .ref amb, .int (nI ac), .ref amk, .ref amz, .int (nI gn), .ref am0, .ref am1, .ref am2, .ref am3, .ref am4, .long sd, .ref amh, .int x0, .int x1, .int x2, .int x3, .ref amo])) :: (amt, .inl (cI, 48, .inl (fmt))) :: (amc, .inl (cI, 5, .inl (tCol (rTreaty fmt tn fmr fmx).2.2.2.2.1 fmc 1 (rTreaty fmt tn fmr fmx).2.2.1))) :: (amw, .inl (cI, 5, .inl (tCol (rTreaty fmt tn fmr fmx).2.2.2.2.2 fmw 0 j))) :: (ams, .inl (cI, 5, .inl (tCol (rTreaty fmt tn fmr fmx).2.2.2.2.2 fms 1 j))) :: (amv, .inl (cI, 5, .inl (tCol (rTreaty fmt tn fmr fmx).2.2.2.2.2 fmv 2 j))) :: (amp, .inl (cI, 17, .inl (tPage (rTreaty fmt tn fmr fmx).2.2.2.2.1 (rTreaty fmt tn fmr fmx).2.2.1))) :: (amq, .inl (cI, 17, .inl (fmq))) :: (amr, .inl (cI, 15, .inl ((rTreaty fmt tn fmr fmx).2.2.2.2.1))) :: (amx, .inl (cI, 15, .inl ((rTreaty fmt tn fmr fmx).2.2.2.2.2))) :: (amb, .inl (cI, 238, .inl (fmb))) :: (amk, .inl (cI, 34, .inl (fmk))) :: (amz, .inl (cZ, 2, .inl (fmz))) :: rest) ?_ ?_) ⟨Or.inr rfl, Or.inr rfl, trivial⟩ (by simp only [tCol_0])
            · intro j hj0 hj ih
              refine ww_iload_n C0 dX5_treaty_122 rfl ?_
              refine ww_aload_n C0 dX5_treaty_123 rfl ?_
              refine ww_get C0 (ci := 5) (C := RX5) (T := TX5) (N := 33) ku_X5 0 rfl rfl 6 (by decide) kw_X5_79 rfl dX5_treaty_124 ?_
              refine ww_icmp_ge (tgt := 182) C0 dX5_treaty_127 (by decide) (fun h127 => ?_) (fun h127 => ?_)
              · skip
                replace h127 := (nI_leE (a := (rTreaty fmt tn fmr fmx).2.2.2.1) (b := j) rfl rfl (by omega) (by omega)).mp h127
                exfalso; omega
              · skip
                replace h127 := (not_congr (nI_leE (a := (rTreaty fmt tn fmr fmx).2.2.2.1) (b := j) rfl rfl (by omega) (by omega))).mp h127
                refine ww_aload_n C0 dX5_treaty_130 rfl ?_
                refine ww_get C0 (ci := 5) (C := RX5) (T := TX5) (N := 33) ku_X5 0 rfl rfl 7 (by decide) kw_X5_16 rfl dX5_treaty_131 ?_
                refine ww_iload_n C0 dX5_treaty_134 rfl ?_
                refine ww_aload_n C0 dX5_treaty_135 rfl ?_
                refine ww_get C0 (ci := 5) (C := RX5) (T := TX5) (N := 33) ku_X5 0 rfl rfl 13 (by decide) kw_X5_28 rfl dX5_treaty_136 ?_
                refine ww_iconst (v := (3)) C0 dX5_treaty_139 rfl ?_
                refine ww_iload_n C0 dX5_treaty_140 rfl ?_
                refine ww_imul C0 dX5_treaty_141 ?_
                refine ww_iald_n (j := 3 * j) C0 9 0 rfl rfl (nI_mulE (a := 3) (b := j) rfl rfl) (by omega) (by decide) dX5_treaty_142 ?_
                refine ww_iast_n (j := j) C0 3 0 rfl rfl rfl (by omega) (by decide) dX5_treaty_143 ?_
                simp only [List.set_cons_zero, List.set_cons_succ]
                refine ww_aload_n C0 dX5_treaty_144 rfl ?_
                refine ww_get C0 (ci := 5) (C := RX5) (T := TX5) (N := 33) ku_X5 0 rfl rfl 8 (by decide) kw_X5_19 rfl dX5_treaty_145 ?_
                refine ww_iload_n C0 dX5_treaty_148 rfl ?_
                refine ww_aload_n C0 dX5_treaty_149 rfl ?_
                refine ww_get C0 (ci := 5) (C := RX5) (T := TX5) (N := 33) ku_X5 0 rfl rfl 13 (by decide) kw_X5_28 rfl dX5_treaty_150 ?_
                refine ww_iconst (v := (3)) C0 dX5_treaty_153 rfl ?_
                refine ww_iload_n C0 dX5_treaty_154 rfl ?_
                refine ww_imul C0 dX5_treaty_155 ?_
                refine ww_iconst (v := (1)) C0 dX5_treaty_156 rfl ?_
                refine ww_iadd C0 dX5_treaty_157 ?_
                refine ww_iald_n (j := (3 * j) + 1) C0 9 0 rfl rfl (nI_addE (a := 3 * j) (b := 1) (nI_mulE (a := 3) (b := j) rfl rfl) rfl) (by omega) (by decide) dX5_treaty_158 ?_
                refine ww_iast_n (j := j) C0 4 0 rfl rfl rfl (by omega) (by decide) dX5_treaty_159 ?_
                simp only [List.set_cons_zero, List.set_cons_succ]
                refine ww_aload_n C0 dX5_treaty_160 rfl ?_
                refine ww_get C0 (ci := 5) (C := RX5) (T := TX5) (N := 33) ku_X5 0 rfl rfl 9 (by decide) kw_X5_22 rfl dX5_treaty_161 ?_
                refine ww_iload_n C0 dX5_treaty_164 rfl ?_
                refine ww_aload_n C0 dX5_treaty_165 rfl ?_
                refine ww_get C0 (ci := 5) (C := RX5) (T := TX5) (N := 33) ku_X5 0 rfl rfl 13 (by decide) kw_X5_28 rfl dX5_treaty_166 ?_
                refine ww_iconst (v := (3)) C0 dX5_treaty_169 rfl ?_
                refine ww_iload_n C0 dX5_treaty_170 rfl ?_
                refine ww_imul C0 dX5_treaty_171 ?_
                refine ww_iconst (v := (2)) C0 dX5_treaty_172 rfl ?_
                refine ww_iadd C0 dX5_treaty_173 ?_
                refine ww_iald_n (j := (3 * j) + 2) C0 9 0 rfl rfl (nI_addE (a := 3 * j) (b := 2) (nI_mulE (a := 3) (b := j) rfl rfl) rfl) (by omega) (by decide) dX5_treaty_174 ?_
                refine ww_iast_n (j := j) C0 5 0 rfl rfl rfl (by omega) (by decide) dX5_treaty_175 ?_
                simp only [List.set_cons_zero, List.set_cons_succ]
                refine ww_iinc (d := 1) C0 dX5_treaty_176 rfl rfl rfl ?_
                simp only [List.set_cons_zero, List.set_cons_succ]
                refine ww_goto (tgt := 122) C0 dX5_treaty_179 (by decide) ?_
                exact ww_back ih ⟨Or.inr rfl, Or.inr (congrArg Value.int (nI_addE (a := j) (b := 1) rfl rfl).symm), trivial⟩ (by (simp only [← tCol_s]; rfl))
            · skip
              refine ww_iload_n C0 dX5_treaty_122 rfl ?_
              refine ww_aload_n C0 dX5_treaty_123 rfl ?_
              refine ww_get C0 (ci := 5) (C := RX5) (T := TX5) (N := 33) ku_X5 0 rfl rfl 6 (by decide) kw_X5_79 rfl dX5_treaty_124 ?_
              refine ww_icmp_ge (tgt := 182) C0 dX5_treaty_127 (by decide) (fun h127 => ?_) (fun h127 => ?_)
              · skip
                replace h127 := (nI_leE (a := (rTreaty fmt tn fmr fmx).2.2.2.1) (b := ((rTreaty fmt tn fmr fmx).2.2.2.1)) rfl rfl (by omega) (by omega)).mp h127
                refine ww_aload_n C0 dX5_treaty_182 rfl ?_
                refine ww_iconst (v := (0)) C0 dX5_treaty_183 rfl ?_
                refine ww_put C0 (ci := 5) (C := RX5) (T := TX5) (N := 33) ku_X5 0 rfl rfl 17 (by decide) tyX5 tyX5_ok nmX5 kw_X5_114 rfl (ty := .int) (by decide +kernel) rfl rfl (Nat.le_of_ble_eq_true rfl) dX5_treaty_184 ?_
                simp only [List.set_cons_zero, List.set_cons_succ]
                refine ww_aload_n C0 dX5_treaty_187 rfl ?_
                refine ww_get C0 (ci := 5) (C := RX5) (T := TX5) (N := 33) ku_X5 0 rfl rfl 19 (by decide) kw_X5_43 rfl dX5_treaty_188 ?_
                refine ww_iconst (v := (0)) C0 dX5_treaty_191 rfl ?_
                refine ww_iconst (v := (0)) C0 dX5_treaty_192 rfl ?_
                refine ww_zast_n (j := 0) C0 12 1 rfl rfl rfl (by omega) (by decide) dX5_treaty_193 ?_
                simp only [List.set_cons_zero, List.set_cons_succ]
                refine ww_aload_n C0 dX5_treaty_194 rfl ?_
                refine ww_get C0 (ci := 5) (C := RX5) (T := TX5) (N := 33) ku_X5 0 rfl rfl 19 (by decide) kw_X5_43 rfl dX5_treaty_195 ?_
                refine ww_iconst (v := (1)) C0 dX5_treaty_198 rfl ?_
                refine ww_iconst (v := (0)) C0 dX5_treaty_199 rfl ?_
                refine ww_zast_n (j := 1) C0 12 1 rfl rfl rfl (by omega) (by decide) dX5_treaty_200 ?_
                simp only [List.set_cons_zero, List.set_cons_succ]
                refine ww_arr 12 (fun _ => 0) rfl (fun k hk => by
                  rcases (show k = 0 ∨ k = 1 by omega) with rfl | rfl <;> simp [upd, vp_nar, narrow]) ?_
                simp only [List.set_cons_zero, List.set_cons_succ]
                refine ww_bipush (v := (10)) C0 dX5_treaty_201 rfl ?_
                refine ww_aload_n C0 dX5_treaty_203 rfl ?_
                refine ww_get C0 (ci := 5) (C := RX5) (T := TX5) (N := 33) ku_X5 0 rfl rfl 4 (by decide) kw_X5_72 rfl dX5_treaty_204 ?_
                refine ww_imul C0 dX5_treaty_207 ?_
                refine ww_aload_n C0 dX5_treaty_208 rfl ?_
                refine ww_get C0 (ci := 5) (C := RX5) (T := TX5) (N := 33) ku_X5 0 rfl rfl 6 (by decide) kw_X5_79 rfl dX5_treaty_209 ?_
                refine ww_iadd C0 dX5_treaty_212 ?_
                exact ww_iret C0 hr dX5_treaty_213 (by rfl) (by rfl)
              · skip
                replace h127 := (not_congr (nI_leE (a := (rTreaty fmt tn fmr fmx).2.2.2.1) (b := ((rTreaty fmt tn fmr fmx).2.2.2.1)) rfl rfl (by omega) (by omega))).mp h127
                exfalso; omega
          · skip
            replace h61 := (not_congr (nI_leE (a := (rTreaty fmt tn fmr fmx).2.2.1) (b := ((rTreaty fmt tn fmr fmx).2.2.1)) rfl rfl (by omega) (by omega))).mp h61
            exfalso; omega
      · skip
        replace h38 := (not_congr (nI_leE (a := 17) (b := 17) rfl rfl (by omega) (by omega))).mp h38
        exfalso; omega
  · skip
    exact absurd hf h11

set_option maxHeartbeats 4000000 in
set_option maxRecDepth 100000 in
theorem c_X5_about (l : Launch) (D : va_G) (cI cZ cQ : ClassId) {aM amt amc amw ams amv amr amx amp amq amb amk amz am0 am1 am2 am3 am4 amh amo : Nat} {tn nm na ac gn : Nat} {th vpl vrm vra x0 x1 x2 x3 : Int32} {sd : Int64} {fmt fmc fmw fms fmv fmp : Nat → Int32} {rest : va_W} {x : Int32} : MI l D [(cI, .int), (cZ, .boolean), (cQ, .object "MulesRemember$State")] yX5_about cX5_about 2 .int ({ frames := 0, cells := 0, slots := 0, locals := 0 } : Room) [.ref aM, .int x] ((aM, .inr (5, [.int th, .ref amt, .int (nI tn), .int vpl, .int (nI nm), .ref amc, .int (nI na), .ref amw, .ref ams, .ref amv, .int vrm, .ref amr, .int vra, .ref amx, .ref amp, .ref amq, .ref amb, .int (nI ac), .ref amk, .ref amz, .int (nI gn), .ref am0, .ref am1, .ref am2, .ref am3, .ref am4, .long sd, .ref amh, .int x0, .int x1, .int x2, .int x3, .ref amo])) :: (amt, .inl (cI, 48, .inl (fmt))) :: (amc, .inl (cI, 5, .inl (fmc))) :: (amw, .inl (cI, 5, .inl (fmw))) :: (ams, .inl (cI, 5, .inl (fms))) :: (amv, .inl (cI, 5, .inl (fmv))) :: (amp, .inl (cI, 17, .inl (fmp))) :: rest) (sAbout (nI nm) (nI na) (fmp 15) (fmp 16) (nI ac) (nI gn) (nI tn) x) ((aM, .inr (5, [.int 0, .ref amt, .int (nI tn), .int vpl, .int (nI nm), .ref amc, .int (nI na), .ref amw, .ref ams, .ref amv, .int vrm, .ref amr, .int vra, .ref amx, .ref amp, .ref amq, .ref amb, .int (nI ac), .ref amk, .ref amz, .int (nI gn), .ref am0, .ref am1, .ref am2, .ref am3, .ref am4, .long sd, .ref amh, .int x0, .int x1, .int x2, .int x3, .ref amo])) :: (amt, .inl (cI, 48, .inl (fmt))) :: (amc, .inl (cI, 5, .inl (fmc))) :: (amw, .inl (cI, 5, .inl (fmw))) :: (ams, .inl (cI, 5, .inl (fms))) :: (amv, .inl (cI, 5, .inl (fmv))) :: (amp, .inl (cI, 17, .inl (fmp))) :: rest) := by
  refine MI.of [.ref aM, .int x] (by decide) (Nat.le_of_ble_eq_true rfl) rfl ?_
  intro p e s m below meth c A C0 hr
  refine ww_aload_n C0 dX5_about_0 rfl ?_
  refine ww_iconst (v := (0)) C0 dX5_about_1 rfl ?_
  refine ww_put C0 (ci := 5) (C := RX5) (T := TX5) (N := 33) ku_X5 0 rfl rfl 0 (by decide) tyX5 tyX5_ok nmX5 kw_X5_68 rfl (ty := .int) (by decide +kernel) rfl rfl (Nat.le_of_ble_eq_true rfl) dX5_about_2 ?_
  simp only [List.set_cons_zero, List.set_cons_succ]
  refine ww_iload_n C0 dX5_about_5 rfl ?_
  by_cases hs6_0 : x = 0
  · skip
    have hsi : (x).toInt = 0 := by rw [hs6_0]; rfl
    refine ww_tableIn (off := 42) (tgt := 48) C0 dX5_about_6 (by rw [hsi]; decide) (by rw [hsi]; decide) (by rw [hsi]; rfl) (by decide) ?_
    refine ww_aload_n C0 dX5_about_48 rfl ?_
    refine ww_get C0 (ci := 5) (C := RX5) (T := TX5) (N := 33) ku_X5 0 rfl rfl 4 (by decide) kw_X5_72 rfl dX5_about_49 ?_
    exact ww_iret C0 hr dX5_about_52 (by simp [sAbout, *]) (by rfl)
  by_cases hs6_1 : x = 1
  · skip
    have hsi : (x).toInt = 1 := by rw [hs6_1]; rfl
    refine ww_tableIn (off := 47) (tgt := 53) C0 dX5_about_6 (by rw [hsi]; decide) (by rw [hsi]; decide) (by rw [hsi]; rfl) (by decide) ?_
    refine ww_aload_n C0 dX5_about_53 rfl ?_
    refine ww_get C0 (ci := 5) (C := RX5) (T := TX5) (N := 33) ku_X5 0 rfl rfl 6 (by decide) kw_X5_79 rfl dX5_about_54 ?_
    exact ww_iret C0 hr dX5_about_57 (by simp [sAbout, *]) (by rfl)
  by_cases hs6_2 : x = 2
  · skip
    have hsi : (x).toInt = 2 := by rw [hs6_2]; rfl
    refine ww_tableIn (off := 52) (tgt := 58) C0 dX5_about_6 (by rw [hsi]; decide) (by rw [hsi]; decide) (by rw [hsi]; rfl) (by decide) ?_
    refine ww_aload_n C0 dX5_about_58 rfl ?_
    refine ww_get C0 (ci := 5) (C := RX5) (T := TX5) (N := 33) ku_X5 0 rfl rfl 14 (by decide) kw_X5_31 rfl dX5_about_59 ?_
    refine ww_bipush (v := (15)) C0 dX5_about_62 rfl ?_
    refine ww_iald_n (j := 15) C0 6 0 rfl rfl rfl (by omega) (by decide) dX5_about_64 ?_
    exact ww_iret C0 hr dX5_about_65 (by simp [sAbout, *]) (by rfl)
  by_cases hs6_3 : x = 3
  · skip
    have hsi : (x).toInt = 3 := by rw [hs6_3]; rfl
    refine ww_tableIn (off := 60) (tgt := 66) C0 dX5_about_6 (by rw [hsi]; decide) (by rw [hsi]; decide) (by rw [hsi]; rfl) (by decide) ?_
    refine ww_aload_n C0 dX5_about_66 rfl ?_
    refine ww_get C0 (ci := 5) (C := RX5) (T := TX5) (N := 33) ku_X5 0 rfl rfl 14 (by decide) kw_X5_31 rfl dX5_about_67 ?_
    refine ww_bipush (v := (16)) C0 dX5_about_70 rfl ?_
    refine ww_iald_n (j := 16) C0 6 0 rfl rfl rfl (by omega) (by decide) dX5_about_72 ?_
    exact ww_iret C0 hr dX5_about_73 (by simp [sAbout, *]) (by rfl)
  by_cases hs6_4 : x = 4
  · skip
    have hsi : (x).toInt = 4 := by rw [hs6_4]; rfl
    refine ww_tableIn (off := 68) (tgt := 74) C0 dX5_about_6 (by rw [hsi]; decide) (by rw [hsi]; decide) (by rw [hsi]; rfl) (by decide) ?_
    refine ww_aload_n C0 dX5_about_74 rfl ?_
    refine ww_get C0 (ci := 5) (C := RX5) (T := TX5) (N := 33) ku_X5 0 rfl rfl 17 (by decide) kw_X5_114 rfl dX5_about_75 ?_
    exact ww_iret C0 hr dX5_about_78 (by simp [sAbout, *]) (by rfl)
  by_cases hs6_5 : x = 5
  · skip
    have hsi : (x).toInt = 5 := by rw [hs6_5]; rfl
    refine ww_tableIn (off := 73) (tgt := 79) C0 dX5_about_6 (by rw [hsi]; decide) (by rw [hsi]; decide) (by rw [hsi]; rfl) (by decide) ?_
    refine ww_aload_n C0 dX5_about_79 rfl ?_
    refine ww_get C0 (ci := 5) (C := RX5) (T := TX5) (N := 33) ku_X5 0 rfl rfl 20 (by decide) kw_X5_137 rfl dX5_about_80 ?_
    exact ww_iret C0 hr dX5_about_83 (by simp [sAbout, *]) (by rfl)
  by_cases hs6_6 : x = 6
  · skip
    have hsi : (x).toInt = 6 := by rw [hs6_6]; rfl
    refine ww_tableIn (off := 78) (tgt := 84) C0 dX5_about_6 (by rw [hsi]; decide) (by rw [hsi]; decide) (by rw [hsi]; rfl) (by decide) ?_
    refine ww_aload_n C0 dX5_about_84 rfl ?_
    refine ww_get C0 (ci := 5) (C := RX5) (T := TX5) (N := 33) ku_X5 0 rfl rfl 2 (by decide) kw_X5_84 rfl dX5_about_85 ?_
    exact ww_iret C0 hr dX5_about_88 (by simp [sAbout, *]) (by rfl)
  refine ww_tableOut (tgt := 89) C0 dX5_about_6 (sw_outc (x) 0 6 (by
    intro k hk1 hk2 he
    rcases (show k = 0 ∨ k = 1 ∨ k = 2 ∨ k = 3 ∨ k = 4 ∨ k = 5 ∨ k = 6 by omega) with rfl | rfl | rfl | rfl | rfl | rfl | rfl
    · exact i32_ne (n := 0) (by decide) hs6_0 he
    · exact i32_ne (n := 1) (by decide) hs6_1 he
    · exact i32_ne (n := 2) (by decide) hs6_2 he
    · exact i32_ne (n := 3) (by decide) hs6_3 he
    · exact i32_ne (n := 4) (by decide) hs6_4 he
    · exact i32_ne (n := 5) (by decide) hs6_5 he
    · exact i32_ne (n := 6) (by decide) hs6_6 he
    )) (by decide) ?_
  refine ww_bipush (v := (-2)) C0 dX5_about_89 rfl ?_
  exact ww_iret C0 hr dX5_about_91 (by simp [sAbout, *]) (by rfl)

set_option maxHeartbeats 4000000 in
set_option maxRecDepth 100000 in
theorem c_X5_knowers (l : Launch) (D : va_G) (cI cZ cQ : ClassId) {aM amt amc amw ams amv amr amx amp amq amb amk amz am0 am1 am2 am3 am4 amh amo : Nat} {tn nm na ac gn : Nat} {th vpl vrm vra x0 x1 x2 x3 : Int32} {sd : Int64} {fmt fmc fmw fms fmv fmp : Nat → Int32} {rest : va_W} {a : Int32} (hnm : nm ≤ 5) (hna : na ≤ 5) : MI l D [(cI, .int), (cZ, .boolean), (cQ, .object "MulesRemember$State")] yX5_knowers cX5_knowers 4 .int ({ frames := 1, cells := 0, slots := 0, locals := 23 } : Room) [.ref aM, .int a] ((aM, .inr (5, [.int th, .ref amt, .int (nI tn), .int vpl, .int (nI nm), .ref amc, .int (nI na), .ref amw, .ref ams, .ref amv, .int vrm, .ref amr, .int vra, .ref amx, .ref amp, .ref amq, .ref amb, .int (nI ac), .ref amk, .ref amz, .int (nI gn), .ref am0, .ref am1, .ref am2, .ref am3, .ref am4, .long sd, .ref amh, .int x0, .int x1, .int x2, .int x3, .ref amo])) :: (amt, .inl (cI, 48, .inl (fmt))) :: (amc, .inl (cI, 5, .inl (fmc))) :: (amw, .inl (cI, 5, .inl (fmw))) :: (ams, .inl (cI, 5, .inl (fms))) :: (amv, .inl (cI, 5, .inl (fmv))) :: (amp, .inl (cI, 17, .inl (fmp))) :: rest) (orBits (fun o => hbit (mKnown na (fmp (5 + o)) (fmp (10 + o))) a) nm) ((aM, .inr (5, [.int th, .ref amt, .int (nI tn), .int vpl, .int (nI nm), .ref amc, .int (nI na), .ref amw, .ref ams, .ref amv, .int vrm, .ref amr, .int vra, .ref amx, .ref amp, .ref amq, .ref amb, .int (nI ac), .ref amk, .ref amz, .int (nI gn), .ref am0, .ref am1, .ref am2, .ref am3, .ref am4, .long sd, .ref amh, .int x0, .int x1, .int x2, .int x3, .ref amo])) :: (amt, .inl (cI, 48, .inl (fmt))) :: (amc, .inl (cI, 5, .inl (fmc))) :: (amw, .inl (cI, 5, .inl (fmw))) :: (ams, .inl (cI, 5, .inl (fms))) :: (amv, .inl (cI, 5, .inl (fmv))) :: (amp, .inl (cI, 17, .inl (fmp))) :: rest) := by
  refine MI.of [.ref aM, .int a, .null, .null] (by decide) (Nat.le_of_ble_eq_true rfl) rfl ?_
  intro p e s m below meth c A C0 hr
  refine ww_iconst (v := (0)) C0 dX5_knowers_0 rfl ?_
  refine ww_istore_n (i := 2) C0 dX5_knowers_1 rfl (Nat.le_of_ble_eq_true rfl) rfl ?_
  simp only [List.set_cons_zero, List.set_cons_succ]
  refine ww_iconst (v := (0)) C0 dX5_knowers_2 rfl ?_
  refine ww_istore_n (i := 3) C0 dX5_knowers_3 rfl (Nat.le_of_ble_eq_true rfl) rfl ?_
  simp only [List.set_cons_zero, List.set_cons_succ]
  refine ww_back (ww_loop (pc := 4) 0 (nm) (by omega) (fun j => [_, _, .int (orBits (fun o => hbit (mKnown na (fmp (5 + o)) (fmp (10 + o))) a) j), .int (nI j)]) (fun j => _) ?_ ?_) ⟨Or.inr rfl, Or.inr rfl, Or.inr rfl, Or.inr rfl, trivial⟩ (by rfl)
  · intro j hj0 hj ih
    refine ww_iload_n C0 dX5_knowers_4 rfl ?_
    refine ww_aload_n C0 dX5_knowers_5 rfl ?_
    refine ww_get C0 (ci := 5) (C := RX5) (T := TX5) (N := 33) ku_X5 0 rfl rfl 4 (by decide) kw_X5_72 rfl dX5_knowers_6 ?_
    refine ww_icmp_ge (tgt := 44) C0 dX5_knowers_9 (by decide) (fun h9 => ?_) (fun h9 => ?_)
    · skip
      replace h9 := (nI_leE (a := nm) (b := j) rfl rfl (by omega) (by omega)).mp h9
      exfalso; omega
    · skip
      replace h9 := (not_congr (nI_leE (a := nm) (b := j) rfl rfl (by omega) (by omega))).mp h9
      refine ww_iload_n C0 dX5_knowers_12 rfl ?_
      refine ww_aload_n C0 dX5_knowers_13 rfl ?_
      refine ww_aload_n C0 dX5_knowers_14 rfl ?_
      refine ww_get C0 (ci := 5) (C := RX5) (T := TX5) (N := 33) ku_X5 0 rfl rfl 14 (by decide) kw_X5_31 rfl dX5_knowers_15 ?_
      refine ww_iload_n C0 dX5_knowers_18 rfl ?_
      refine ww_callVi C0 (qc := (RX5, TX5, 33)) 0 5 (c_X5_knows l D cI cZ cQ hnm hna hj) kd_X5_knows kw_X5_133 km_X5_knows kl_X5_knows ki_X5 hd_X5_knows rfl rfl ⟨Nat.le_of_ble_eq_true rfl, Nat.le_of_ble_eq_true rfl, rfl, rfl⟩ (Nat.le_of_ble_eq_true rfl) dX5_knowers_19 rfl rfl rfl ⟨Nat.zero_le _, Nat.zero_le _⟩ ?_
      refine ww_iload_n C0 dX5_knowers_22 rfl ?_
      refine ww_callSi C0 (c_X5_has l D cI cZ cQ) kd_X5_has kw_X5_140 ks_X5_has ki_X5 hd_X5_has ⟨Nat.le_of_ble_eq_true rfl, Nat.le_of_ble_eq_true rfl, rfl, rfl⟩ (Nat.le_of_ble_eq_true rfl) dX5_knowers_23 rfl rfl ⟨Nat.zero_le _, Nat.zero_le _⟩ ?_
      refine ww_bif_eq (tgt := 35) C0 dX5_knowers_26 (by decide) (fun h26 => ?_) (fun h26 => ?_)
      · skip
        refine ww_iconst (v := (0)) C0 dX5_knowers_35 rfl ?_
        refine ww_ior C0 dX5_knowers_36 ?_
        refine ww_istore_n (i := 2) C0 dX5_knowers_37 rfl (Nat.le_of_ble_eq_true rfl) rfl ?_
        simp only [List.set_cons_zero, List.set_cons_succ]
        refine ww_iinc (d := 1) C0 dX5_knowers_38 rfl rfl rfl ?_
        simp only [List.set_cons_zero, List.set_cons_succ]
        refine ww_goto (tgt := 4) C0 dX5_knowers_41 (by decide) ?_
        exact ww_back ih ⟨Or.inr rfl, Or.inr rfl, Or.inr (congrArg Value.int (by simp [orBits, *])), Or.inr (congrArg Value.int (nI_addE (a := j) (b := 1) rfl rfl).symm), trivial⟩ (by rfl)
      · skip
        refine ww_iconst (v := (1)) C0 dX5_knowers_29 rfl ?_
        refine ww_iload_n C0 dX5_knowers_30 rfl ?_
        refine ww_ishl C0 dX5_knowers_31 ?_
        refine ww_goto (tgt := 36) C0 dX5_knowers_32 (by decide) ?_
        refine ww_ior C0 dX5_knowers_36 ?_
        refine ww_istore_n (i := 2) C0 dX5_knowers_37 rfl (Nat.le_of_ble_eq_true rfl) rfl ?_
        simp only [List.set_cons_zero, List.set_cons_succ]
        refine ww_iinc (d := 1) C0 dX5_knowers_38 rfl rfl rfl ?_
        simp only [List.set_cons_zero, List.set_cons_succ]
        refine ww_goto (tgt := 4) C0 dX5_knowers_41 (by decide) ?_
        exact ww_back ih ⟨Or.inr rfl, Or.inr rfl, Or.inr (congrArg Value.int (by simp [orBits, *])), Or.inr (congrArg Value.int (nI_addE (a := j) (b := 1) rfl rfl).symm), trivial⟩ (by rfl)
  · skip
    refine ww_iload_n C0 dX5_knowers_4 rfl ?_
    refine ww_aload_n C0 dX5_knowers_5 rfl ?_
    refine ww_get C0 (ci := 5) (C := RX5) (T := TX5) (N := 33) ku_X5 0 rfl rfl 4 (by decide) kw_X5_72 rfl dX5_knowers_6 ?_
    refine ww_icmp_ge (tgt := 44) C0 dX5_knowers_9 (by decide) (fun h9 => ?_) (fun h9 => ?_)
    · skip
      replace h9 := (nI_leE (a := nm) (b := nm) rfl rfl (by omega) (by omega)).mp h9
      refine ww_iload_n C0 dX5_knowers_44 rfl ?_
      exact ww_iret C0 hr dX5_knowers_45 (by rfl) (by rfl)
    · skip
      replace h9 := (not_congr (nI_leE (a := nm) (b := nm) rfl rfl (by omega) (by omega))).mp h9
      exfalso; omega

set_option maxHeartbeats 4000000 in
set_option maxRecDepth 100000 in
theorem c_X5_article_b (l : Launch) (D : va_G) (cI cZ cQ : ClassId) {aM amt amc amw ams amv amr amx amp amq amb amk amz am0 am1 am2 am3 am4 amh amo : Nat} {tn nm na ac gn : Nat} {th vpl vrm vra x0 x1 x2 x3 : Int32} {sd : Int64} {rest : va_W} {m x : Int32} (hna : na ≤ 5) (hm : isN na m = false) : MI l D [(cI, .int), (cZ, .boolean), (cQ, .object "MulesRemember$State")] yX5_article cX5_article 3 .int ({ frames := 2, cells := 0, slots := 0, locals := 46 } : Room) [.ref aM, .int m, .int x] ((aM, .inr (5, [.int th, .ref amt, .int (nI tn), .int vpl, .int (nI nm), .ref amc, .int (nI na), .ref amw, .ref ams, .ref amv, .int vrm, .ref amr, .int vra, .ref amx, .ref amp, .ref amq, .ref amb, .int (nI ac), .ref amk, .ref amz, .int (nI gn), .ref am0, .ref am1, .ref am2, .ref am3, .ref am4, .long sd, .ref amh, .int x0, .int x1, .int x2, .int x3, .ref amo])) :: rest) (-1) ((aM, .inr (5, [.int 0, .ref amt, .int (nI tn), .int vpl, .int (nI nm), .ref amc, .int (nI na), .ref amw, .ref ams, .ref amv, .int vrm, .ref amr, .int vra, .ref amx, .ref amp, .ref amq, .ref amb, .int (nI ac), .ref amk, .ref amz, .int (nI gn), .ref am0, .ref am1, .ref am2, .ref am3, .ref am4, .long sd, .ref amh, .int x0, .int x1, .int x2, .int x3, .ref amo])) :: rest) := by
  refine MI.of [.ref aM, .int m, .int x] (by decide) (Nat.le_of_ble_eq_true rfl) rfl ?_
  intro p e s m below meth c A C0 hr
  refine ww_aload_n C0 dX5_article_0 rfl ?_
  refine ww_iconst (v := (0)) C0 dX5_article_1 rfl ?_
  refine ww_put C0 (ci := 5) (C := RX5) (T := TX5) (N := 33) ku_X5 0 rfl rfl 0 (by decide) tyX5 tyX5_ok nmX5 kw_X5_68 rfl (ty := .int) (by decide +kernel) rfl rfl (Nat.le_of_ble_eq_true rfl) dX5_article_2 ?_
  simp only [List.set_cons_zero, List.set_cons_succ]
  refine ww_aload_n C0 dX5_article_5 rfl ?_
  refine ww_iload_n C0 dX5_article_6 rfl ?_
  refine ww_callVi C0 (qc := (RX5, TX5, 33)) 0 5 (c_X5_noArticle l D cI cZ cQ hna) kd_X5_noArticle kw_X5_144 km_X5_noArticle kl_X5_noArticle ki_X5 hd_X5_noArticle rfl rfl ⟨Nat.le_of_ble_eq_true rfl, Nat.le_of_ble_eq_true rfl, rfl, rfl⟩ (Nat.le_of_ble_eq_true rfl) dX5_article_7 rfl rfl rfl ⟨Nat.zero_le _, Nat.zero_le _⟩ ?_
  refine ww_bif_eq (tgt := 15) C0 dX5_article_10 (by decide) (fun h10 => ?_) (fun h10 => ?_)
  · skip
    exact absurd h10 (by rw [hm]; decide)
  · skip
    refine ww_iconst (v := (-1)) C0 dX5_article_13 rfl ?_
    exact ww_iret C0 hr dX5_article_14 (by rfl) (by rfl)

set_option maxHeartbeats 4000000 in
set_option maxRecDepth 100000 in
theorem c_X5_article (l : Launch) (D : va_G) (cI cZ cQ : ClassId) {aM amt amc amw ams amv amr amx amp amq amb amk amz am0 am1 am2 am3 am4 amh amo : Nat} {tn nm na ac gn : Nat} {th vpl vrm vra x0 x1 x2 x3 : Int32} {sd : Int64} {fmt fmc fmw fms fmv fmp : Nat → Int32} {rest : va_W} {a : Nat} {x : Int32} (hnm : nm ≤ 5) (hna : na ≤ 5) (ha : a < na) : MI l D [(cI, .int), (cZ, .boolean), (cQ, .object "MulesRemember$State")] yX5_article cX5_article 3 .int ({ frames := 2, cells := 0, slots := 0, locals := 46 } : Room) [.ref aM, .int (nI a), .int x] ((aM, .inr (5, [.int th, .ref amt, .int (nI tn), .int vpl, .int (nI nm), .ref amc, .int (nI na), .ref amw, .ref ams, .ref amv, .int vrm, .ref amr, .int vra, .ref amx, .ref amp, .ref amq, .ref amb, .int (nI ac), .ref amk, .ref amz, .int (nI gn), .ref am0, .ref am1, .ref am2, .ref am3, .ref am4, .long sd, .ref amh, .int x0, .int x1, .int x2, .int x3, .ref amo])) :: (amt, .inl (cI, 48, .inl (fmt))) :: (amc, .inl (cI, 5, .inl (fmc))) :: (amw, .inl (cI, 5, .inl (fmw))) :: (ams, .inl (cI, 5, .inl (fms))) :: (amv, .inl (cI, 5, .inl (fmv))) :: (amp, .inl (cI, 17, .inl (fmp))) :: rest) (sSel4 (fmw a) (fms a) (fmv a) (orBits (fun o => hbit (mKnown na (fmp (5 + o)) (fmp (10 + o))) (nI a)) nm) x) ((aM, .inr (5, [.int 0, .ref amt, .int (nI tn), .int vpl, .int (nI nm), .ref amc, .int (nI na), .ref amw, .ref ams, .ref amv, .int vrm, .ref amr, .int vra, .ref amx, .ref amp, .ref amq, .ref amb, .int (nI ac), .ref amk, .ref amz, .int (nI gn), .ref am0, .ref am1, .ref am2, .ref am3, .ref am4, .long sd, .ref amh, .int x0, .int x1, .int x2, .int x3, .ref amo])) :: (amt, .inl (cI, 48, .inl (fmt))) :: (amc, .inl (cI, 5, .inl (fmc))) :: (amw, .inl (cI, 5, .inl (fmw))) :: (ams, .inl (cI, 5, .inl (fms))) :: (amv, .inl (cI, 5, .inl (fmv))) :: (amp, .inl (cI, 17, .inl (fmp))) :: rest) := by
  refine MI.of [.ref aM, .int (nI a), .int x] (by decide) (Nat.le_of_ble_eq_true rfl) rfl ?_
  intro p e s m below meth c A C0 hr
  refine ww_aload_n C0 dX5_article_0 rfl ?_
  refine ww_iconst (v := (0)) C0 dX5_article_1 rfl ?_
  refine ww_put C0 (ci := 5) (C := RX5) (T := TX5) (N := 33) ku_X5 0 rfl rfl 0 (by decide) tyX5 tyX5_ok nmX5 kw_X5_68 rfl (ty := .int) (by decide +kernel) rfl rfl (Nat.le_of_ble_eq_true rfl) dX5_article_2 ?_
  simp only [List.set_cons_zero, List.set_cons_succ]
  refine ww_aload_n C0 dX5_article_5 rfl ?_
  refine ww_iload_n C0 dX5_article_6 rfl ?_
  refine ww_callVi C0 (qc := (RX5, TX5, 33)) 0 5 (c_X5_noArticle l D cI cZ cQ hna) kd_X5_noArticle kw_X5_144 km_X5_noArticle kl_X5_noArticle ki_X5 hd_X5_noArticle rfl rfl ⟨Nat.le_of_ble_eq_true rfl, Nat.le_of_ble_eq_true rfl, rfl, rfl⟩ (Nat.le_of_ble_eq_true rfl) dX5_article_7 rfl rfl rfl ⟨Nat.zero_le _, Nat.zero_le _⟩ ?_
  refine ww_bif_eq (tgt := 15) C0 dX5_article_10 (by decide) (fun h10 => ?_) (fun h10 => ?_)
  · skip
    refine ww_iload_n C0 dX5_article_15 rfl ?_
    by_cases hs16_0 : x = 0
    · skip
      have hsi : (x).toInt = 0 := by rw [hs16_0]; rfl
      refine ww_tableIn (off := 32) (tgt := 48) C0 dX5_article_16 (by rw [hsi]; decide) (by rw [hsi]; decide) (by rw [hsi]; rfl) (by decide) ?_
      refine ww_aload_n C0 dX5_article_48 rfl ?_
      refine ww_get C0 (ci := 5) (C := RX5) (T := TX5) (N := 33) ku_X5 0 rfl rfl 7 (by decide) kw_X5_16 rfl dX5_article_49 ?_
      refine ww_iload_n C0 dX5_article_52 rfl ?_
      refine ww_iald_n (j := a) C0 3 0 rfl rfl rfl (by omega) (by decide) dX5_article_53 ?_
      exact ww_iret C0 hr dX5_article_54 (by simp [sSel4, *]) (by rfl)
    by_cases hs16_1 : x = 1
    · skip
      have hsi : (x).toInt = 1 := by rw [hs16_1]; rfl
      refine ww_tableIn (off := 39) (tgt := 55) C0 dX5_article_16 (by rw [hsi]; decide) (by rw [hsi]; decide) (by rw [hsi]; rfl) (by decide) ?_
      refine ww_aload_n C0 dX5_article_55 rfl ?_
      refine ww_get C0 (ci := 5) (C := RX5) (T := TX5) (N := 33) ku_X5 0 rfl rfl 8 (by decide) kw_X5_19 rfl dX5_article_56 ?_
      refine ww_iload_n C0 dX5_article_59 rfl ?_
      refine ww_iald_n (j := a) C0 4 0 rfl rfl rfl (by omega) (by decide) dX5_article_60 ?_
      exact ww_iret C0 hr dX5_article_61 (by simp [sSel4, *]) (by rfl)
    by_cases hs16_2 : x = 2
    · skip
      have hsi : (x).toInt = 2 := by rw [hs16_2]; rfl
      refine ww_tableIn (off := 46) (tgt := 62) C0 dX5_article_16 (by rw [hsi]; decide) (by rw [hsi]; decide) (by rw [hsi]; rfl) (by decide) ?_
      refine ww_aload_n C0 dX5_article_62 rfl ?_
      refine ww_get C0 (ci := 5) (C := RX5) (T := TX5) (N := 33) ku_X5 0 rfl rfl 9 (by decide) kw_X5_22 rfl dX5_article_63 ?_
      refine ww_iload_n C0 dX5_article_66 rfl ?_
      refine ww_iald_n (j := a) C0 5 0 rfl rfl rfl (by omega) (by decide) dX5_article_67 ?_
      exact ww_iret C0 hr dX5_article_68 (by simp [sSel4, *]) (by rfl)
    by_cases hs16_3 : x = 3
    · skip
      have hsi : (x).toInt = 3 := by rw [hs16_3]; rfl
      refine ww_tableIn (off := 53) (tgt := 69) C0 dX5_article_16 (by rw [hsi]; decide) (by rw [hsi]; decide) (by rw [hsi]; rfl) (by decide) ?_
      refine ww_aload_n C0 dX5_article_69 rfl ?_
      refine ww_iload_n C0 dX5_article_70 rfl ?_
      refine ww_callVi C0 (qc := (RX5, TX5, 33)) 0 5 (c_X5_knowers l D cI cZ cQ hnm hna) kd_X5_knowers kw_X5_148 km_X5_knowers kl_X5_knowers ki_X5 hd_X5_knowers rfl rfl ⟨Nat.le_of_ble_eq_true rfl, Nat.le_of_ble_eq_true rfl, rfl, rfl⟩ (Nat.le_of_ble_eq_true rfl) dX5_article_71 rfl rfl rfl ⟨Nat.zero_le _, Nat.zero_le _⟩ ?_
      exact ww_iret C0 hr dX5_article_74 (by simp [sSel4, *]) (by rfl)
    refine ww_tableOut (tgt := 75) C0 dX5_article_16 (sw_outc (x) 0 3 (by
      intro k hk1 hk2 he
      rcases (show k = 0 ∨ k = 1 ∨ k = 2 ∨ k = 3 by omega) with rfl | rfl | rfl | rfl
      · exact i32_ne (n := 0) (by decide) hs16_0 he
      · exact i32_ne (n := 1) (by decide) hs16_1 he
      · exact i32_ne (n := 2) (by decide) hs16_2 he
      · exact i32_ne (n := 3) (by decide) hs16_3 he
      )) (by decide) ?_
    refine ww_bipush (v := (-2)) C0 dX5_article_75 rfl ?_
    exact ww_iret C0 hr dX5_article_77 (by simp [sSel4, *]) (by rfl)
  · skip
    exact absurd h10 (by rw [isN_nI (by omega) ha]; decide)

set_option maxHeartbeats 4000000 in
set_option maxRecDepth 100000 in
theorem c_X5_mule_b (l : Launch) (D : va_G) (cI cZ cQ : ClassId) {aM amt amc amw ams amv amr amx amp amq amb amk amz am0 am1 am2 am3 am4 amh amo : Nat} {tn nm na ac gn : Nat} {th vpl vrm vra x0 x1 x2 x3 : Int32} {sd : Int64} {rest : va_W} {m x : Int32} (hnm : nm ≤ 5) (hm : isN nm m = false) : MI l D [(cI, .int), (cZ, .boolean), (cQ, .object "MulesRemember$State")] yX5_mule cX5_mule 3 .int ({ frames := 2, cells := 0, slots := 0, locals := 46 } : Room) [.ref aM, .int m, .int x] ((aM, .inr (5, [.int th, .ref amt, .int (nI tn), .int vpl, .int (nI nm), .ref amc, .int (nI na), .ref amw, .ref ams, .ref amv, .int vrm, .ref amr, .int vra, .ref amx, .ref amp, .ref amq, .ref amb, .int (nI ac), .ref amk, .ref amz, .int (nI gn), .ref am0, .ref am1, .ref am2, .ref am3, .ref am4, .long sd, .ref amh, .int x0, .int x1, .int x2, .int x3, .ref amo])) :: rest) (-1) ((aM, .inr (5, [.int 0, .ref amt, .int (nI tn), .int vpl, .int (nI nm), .ref amc, .int (nI na), .ref amw, .ref ams, .ref amv, .int vrm, .ref amr, .int vra, .ref amx, .ref amp, .ref amq, .ref amb, .int (nI ac), .ref amk, .ref amz, .int (nI gn), .ref am0, .ref am1, .ref am2, .ref am3, .ref am4, .long sd, .ref amh, .int x0, .int x1, .int x2, .int x3, .ref amo])) :: rest) := by
  refine MI.of [.ref aM, .int m, .int x] (by decide) (Nat.le_of_ble_eq_true rfl) rfl ?_
  intro p e s m below meth c A C0 hr
  refine ww_aload_n C0 dX5_mule_0 rfl ?_
  refine ww_iconst (v := (0)) C0 dX5_mule_1 rfl ?_
  refine ww_put C0 (ci := 5) (C := RX5) (T := TX5) (N := 33) ku_X5 0 rfl rfl 0 (by decide) tyX5 tyX5_ok nmX5 kw_X5_68 rfl (ty := .int) (by decide +kernel) rfl rfl (Nat.le_of_ble_eq_true rfl) dX5_mule_2 ?_
  simp only [List.set_cons_zero, List.set_cons_succ]
  refine ww_aload_n C0 dX5_mule_5 rfl ?_
  refine ww_iload_n C0 dX5_mule_6 rfl ?_
  refine ww_callVi C0 (qc := (RX5, TX5, 33)) 0 5 (c_X5_noMule l D cI cZ cQ hnm) kd_X5_noMule kw_X5_151 km_X5_noMule kl_X5_noMule ki_X5 hd_X5_noMule rfl rfl ⟨Nat.le_of_ble_eq_true rfl, Nat.le_of_ble_eq_true rfl, rfl, rfl⟩ (Nat.le_of_ble_eq_true rfl) dX5_mule_7 rfl rfl rfl ⟨Nat.zero_le _, Nat.zero_le _⟩ ?_
  refine ww_bif_eq (tgt := 15) C0 dX5_mule_10 (by decide) (fun h10 => ?_) (fun h10 => ?_)
  · skip
    exact absurd h10 (by rw [hm]; decide)
  · skip
    refine ww_iconst (v := (-1)) C0 dX5_mule_13 rfl ?_
    exact ww_iret C0 hr dX5_mule_14 (by rfl) (by rfl)

set_option maxHeartbeats 4000000 in
set_option maxRecDepth 100000 in
theorem c_X5_mule (l : Launch) (D : va_G) (cI cZ cQ : ClassId) {aM amt amc amw ams amv amr amx amp amq amb amk amz am0 am1 am2 am3 am4 amh amo : Nat} {tn nm na ac gn : Nat} {th vpl vrm vra x0 x1 x2 x3 : Int32} {sd : Int64} {fmt fmc fmw fms fmv fmp : Nat → Int32} {rest : va_W} {k : Nat} {x : Int32} (hnm : nm ≤ 5) (hna : na ≤ 5) (hk : k < nm) : MI l D [(cI, .int), (cZ, .boolean), (cQ, .object "MulesRemember$State")] yX5_mule cX5_mule 3 .int ({ frames := 2, cells := 0, slots := 0, locals := 46 } : Room) [.ref aM, .int (nI k), .int x] ((aM, .inr (5, [.int th, .ref amt, .int (nI tn), .int vpl, .int (nI nm), .ref amc, .int (nI na), .ref amw, .ref ams, .ref amv, .int vrm, .ref amr, .int vra, .ref amx, .ref amp, .ref amq, .ref amb, .int (nI ac), .ref amk, .ref amz, .int (nI gn), .ref am0, .ref am1, .ref am2, .ref am3, .ref am4, .long sd, .ref amh, .int x0, .int x1, .int x2, .int x3, .ref amo])) :: (amt, .inl (cI, 48, .inl (fmt))) :: (amc, .inl (cI, 5, .inl (fmc))) :: (amw, .inl (cI, 5, .inl (fmw))) :: (ams, .inl (cI, 5, .inl (fms))) :: (amv, .inl (cI, 5, .inl (fmv))) :: (amp, .inl (cI, 17, .inl (fmp))) :: rest) (sSel5 (fmp k) (fmc k) (fmp (5 + k)) (fmp (10 + k)) (mKnown na (fmp (5 + k)) (fmp (10 + k))) x) ((aM, .inr (5, [.int 0, .ref amt, .int (nI tn), .int vpl, .int (nI nm), .ref amc, .int (nI na), .ref amw, .ref ams, .ref amv, .int vrm, .ref amr, .int vra, .ref amx, .ref amp, .ref amq, .ref amb, .int (nI ac), .ref amk, .ref amz, .int (nI gn), .ref am0, .ref am1, .ref am2, .ref am3, .ref am4, .long sd, .ref amh, .int x0, .int x1, .int x2, .int x3, .ref amo])) :: (amt, .inl (cI, 48, .inl (fmt))) :: (amc, .inl (cI, 5, .inl (fmc))) :: (amw, .inl (cI, 5, .inl (fmw))) :: (ams, .inl (cI, 5, .inl (fms))) :: (amv, .inl (cI, 5, .inl (fmv))) :: (amp, .inl (cI, 17, .inl (fmp))) :: rest) := by
  refine MI.of [.ref aM, .int (nI k), .int x] (by decide) (Nat.le_of_ble_eq_true rfl) rfl ?_
  intro p e s m below meth c A C0 hr
  refine ww_aload_n C0 dX5_mule_0 rfl ?_
  refine ww_iconst (v := (0)) C0 dX5_mule_1 rfl ?_
  refine ww_put C0 (ci := 5) (C := RX5) (T := TX5) (N := 33) ku_X5 0 rfl rfl 0 (by decide) tyX5 tyX5_ok nmX5 kw_X5_68 rfl (ty := .int) (by decide +kernel) rfl rfl (Nat.le_of_ble_eq_true rfl) dX5_mule_2 ?_
  simp only [List.set_cons_zero, List.set_cons_succ]
  refine ww_aload_n C0 dX5_mule_5 rfl ?_
  refine ww_iload_n C0 dX5_mule_6 rfl ?_
  refine ww_callVi C0 (qc := (RX5, TX5, 33)) 0 5 (c_X5_noMule l D cI cZ cQ hnm) kd_X5_noMule kw_X5_151 km_X5_noMule kl_X5_noMule ki_X5 hd_X5_noMule rfl rfl ⟨Nat.le_of_ble_eq_true rfl, Nat.le_of_ble_eq_true rfl, rfl, rfl⟩ (Nat.le_of_ble_eq_true rfl) dX5_mule_7 rfl rfl rfl ⟨Nat.zero_le _, Nat.zero_le _⟩ ?_
  refine ww_bif_eq (tgt := 15) C0 dX5_mule_10 (by decide) (fun h10 => ?_) (fun h10 => ?_)
  · skip
    refine ww_iload_n C0 dX5_mule_15 rfl ?_
    by_cases hs16_0 : x = 0
    · skip
      have hsi : (x).toInt = 0 := by rw [hs16_0]; rfl
      refine ww_tableIn (off := 36) (tgt := 52) C0 dX5_mule_16 (by rw [hsi]; decide) (by rw [hsi]; decide) (by rw [hsi]; rfl) (by decide) ?_
      refine ww_aload_n C0 dX5_mule_52 rfl ?_
      refine ww_get C0 (ci := 5) (C := RX5) (T := TX5) (N := 33) ku_X5 0 rfl rfl 14 (by decide) kw_X5_31 rfl dX5_mule_53 ?_
      refine ww_iconst (v := (0)) C0 dX5_mule_56 rfl ?_
      refine ww_iload_n C0 dX5_mule_57 rfl ?_
      refine ww_iadd C0 dX5_mule_58 ?_
      refine ww_iald_n (j := k) C0 6 0 rfl rfl (by rw [show (0 : Int32) + nI k = nI (0 + k) from nI_add 0 k, Nat.zero_add]) (by omega) (by decide) dX5_mule_59 ?_
      exact ww_iret C0 hr dX5_mule_60 (by simp [sSel5, *]) (by rfl)
    by_cases hs16_1 : x = 1
    · skip
      have hsi : (x).toInt = 1 := by rw [hs16_1]; rfl
      refine ww_tableIn (off := 45) (tgt := 61) C0 dX5_mule_16 (by rw [hsi]; decide) (by rw [hsi]; decide) (by rw [hsi]; rfl) (by decide) ?_
      refine ww_aload_n C0 dX5_mule_61 rfl ?_
      refine ww_get C0 (ci := 5) (C := RX5) (T := TX5) (N := 33) ku_X5 0 rfl rfl 5 (by decide) kw_X5_13 rfl dX5_mule_62 ?_
      refine ww_iload_n C0 dX5_mule_65 rfl ?_
      refine ww_iald_n (j := k) C0 2 0 rfl rfl rfl (by omega) (by decide) dX5_mule_66 ?_
      exact ww_iret C0 hr dX5_mule_67 (by simp [sSel5, *]) (by rfl)
    by_cases hs16_2 : x = 2
    · skip
      have hsi : (x).toInt = 2 := by rw [hs16_2]; rfl
      refine ww_tableIn (off := 52) (tgt := 68) C0 dX5_mule_16 (by rw [hsi]; decide) (by rw [hsi]; decide) (by rw [hsi]; rfl) (by decide) ?_
      refine ww_aload_n C0 dX5_mule_68 rfl ?_
      refine ww_get C0 (ci := 5) (C := RX5) (T := TX5) (N := 33) ku_X5 0 rfl rfl 14 (by decide) kw_X5_31 rfl dX5_mule_69 ?_
      refine ww_iconst (v := (5)) C0 dX5_mule_72 rfl ?_
      refine ww_iload_n C0 dX5_mule_73 rfl ?_
      refine ww_iadd C0 dX5_mule_74 ?_
      refine ww_iald_n (j := 5 + k) C0 6 0 rfl rfl (nI_addE (a := 5) (b := k) rfl rfl) (by omega) (by decide) dX5_mule_75 ?_
      exact ww_iret C0 hr dX5_mule_76 (by simp [sSel5, *]) (by rfl)
    by_cases hs16_3 : x = 3
    · skip
      have hsi : (x).toInt = 3 := by rw [hs16_3]; rfl
      refine ww_tableIn (off := 61) (tgt := 77) C0 dX5_mule_16 (by rw [hsi]; decide) (by rw [hsi]; decide) (by rw [hsi]; rfl) (by decide) ?_
      refine ww_aload_n C0 dX5_mule_77 rfl ?_
      refine ww_get C0 (ci := 5) (C := RX5) (T := TX5) (N := 33) ku_X5 0 rfl rfl 14 (by decide) kw_X5_31 rfl dX5_mule_78 ?_
      refine ww_bipush (v := (10)) C0 dX5_mule_81 rfl ?_
      refine ww_iload_n C0 dX5_mule_83 rfl ?_
      refine ww_iadd C0 dX5_mule_84 ?_
      refine ww_iald_n (j := 10 + k) C0 6 0 rfl rfl (nI_addE (a := 10) (b := k) rfl rfl) (by omega) (by decide) dX5_mule_85 ?_
      exact ww_iret C0 hr dX5_mule_86 (by simp [sSel5, *]) (by rfl)
    by_cases hs16_4 : x = 4
    · skip
      have hsi : (x).toInt = 4 := by rw [hs16_4]; rfl
      refine ww_tableIn (off := 71) (tgt := 87) C0 dX5_mule_16 (by rw [hsi]; decide) (by rw [hsi]; decide) (by rw [hsi]; rfl) (by decide) ?_
      refine ww_aload_n C0 dX5_mule_87 rfl ?_
      refine ww_aload_n C0 dX5_mule_88 rfl ?_
      refine ww_get C0 (ci := 5) (C := RX5) (T := TX5) (N := 33) ku_X5 0 rfl rfl 14 (by decide) kw_X5_31 rfl dX5_mule_89 ?_
      refine ww_iload_n C0 dX5_mule_92 rfl ?_
      refine ww_callVi C0 (qc := (RX5, TX5, 33)) 0 5 (c_X5_knows l D cI cZ cQ hnm hna hk) kd_X5_knows kw_X5_133 km_X5_knows kl_X5_knows ki_X5 hd_X5_knows rfl rfl ⟨Nat.le_of_ble_eq_true rfl, Nat.le_of_ble_eq_true rfl, rfl, rfl⟩ (Nat.le_of_ble_eq_true rfl) dX5_mule_93 rfl rfl rfl ⟨Nat.zero_le _, Nat.zero_le _⟩ ?_
      exact ww_iret C0 hr dX5_mule_96 (by simp [sSel5, *]) (by rfl)
    refine ww_tableOut (tgt := 97) C0 dX5_mule_16 (sw_outc (x) 0 4 (by
      intro k hk1 hk2 he
      rcases (show k = 0 ∨ k = 1 ∨ k = 2 ∨ k = 3 ∨ k = 4 by omega) with rfl | rfl | rfl | rfl | rfl
      · exact i32_ne (n := 0) (by decide) hs16_0 he
      · exact i32_ne (n := 1) (by decide) hs16_1 he
      · exact i32_ne (n := 2) (by decide) hs16_2 he
      · exact i32_ne (n := 3) (by decide) hs16_3 he
      · exact i32_ne (n := 4) (by decide) hs16_4 he
      )) (by decide) ?_
    refine ww_bipush (v := (-2)) C0 dX5_mule_97 rfl ?_
    exact ww_iret C0 hr dX5_mule_99 (by simp [sSel5, *]) (by rfl)
  · skip
    exact absurd h10 (by rw [isN_nI (by omega) hk]; decide)

set_option maxHeartbeats 4000000 in
set_option maxRecDepth 100000 in
theorem c_X5_noStep_b (l : Launch) (D : va_G) (cI cZ cQ : ClassId) {aM amt amc amw ams amv amr amx amp amq amb amk amz am0 am1 am2 am3 am4 amh amo : Nat} {tn nm na ac gn : Nat} {th vpl vrm vra x0 x1 x2 x3 : Int32} {sd : Int64} {rest : va_W} {m wa : Int32} (hnm : nm ≤ 5) (hm : isN nm m = false) : MI l D [(cI, .int), (cZ, .boolean), (cQ, .object "MulesRemember$State")] yX5_noStep cX5_noStep 3 .int ({ frames := 2, cells := 0, slots := 0, locals := 48 } : Room) [.ref aM, .int m, .int wa] ((aM, .inr (5, [.int th, .ref amt, .int (nI tn), .int vpl, .int (nI nm), .ref amc, .int (nI na), .ref amw, .ref ams, .ref amv, .int vrm, .ref amr, .int vra, .ref amx, .ref amp, .ref amq, .ref amb, .int (nI ac), .ref amk, .ref amz, .int (nI gn), .ref am0, .ref am1, .ref am2, .ref am3, .ref am4, .long sd, .ref amh, .int x0, .int x1, .int x2, .int x3, .ref amo])) :: rest) (-1) ((aM, .inr (5, [.int th, .ref amt, .int (nI tn), .int vpl, .int (nI nm), .ref amc, .int (nI na), .ref amw, .ref ams, .ref amv, .int vrm, .ref amr, .int vra, .ref amx, .ref amp, .ref amq, .ref amb, .int (nI ac), .ref amk, .ref amz, .int (nI gn), .ref am0, .ref am1, .ref am2, .ref am3, .ref am4, .long sd, .ref amh, .int x0, .int x1, .int x2, .int x3, .ref amo])) :: rest) := by
  refine MI.of [.ref aM, .int m, .int wa] (by decide) (Nat.le_of_ble_eq_true rfl) rfl ?_
  intro p e s m below meth c A C0 hr
  refine ww_aload_n C0 dX5_noStep_0 rfl ?_
  refine ww_iload_n C0 dX5_noStep_1 rfl ?_
  refine ww_callVi C0 (qc := (RX5, TX5, 33)) 0 5 (c_X5_noMule l D cI cZ cQ hnm) kd_X5_noMule kw_X5_151 km_X5_noMule kl_X5_noMule ki_X5 hd_X5_noMule rfl rfl ⟨Nat.le_of_ble_eq_true rfl, Nat.le_of_ble_eq_true rfl, rfl, rfl⟩ (Nat.le_of_ble_eq_true rfl) dX5_noStep_2 rfl rfl rfl ⟨Nat.zero_le _, Nat.zero_le _⟩ ?_
  refine ww_bif_eq (tgt := 10) C0 dX5_noStep_5 (by decide) (fun h5 => ?_) (fun h5 => ?_)
  · skip
    exact absurd h5 (by rw [hm]; decide)
  · skip
    refine ww_iconst (v := (-1)) C0 dX5_noStep_8 rfl ?_
    exact ww_iret C0 hr dX5_noStep_9 (by rfl) (by rfl)

set_option maxHeartbeats 4000000 in
set_option maxRecDepth 100000 in
theorem c_X5_noStep (l : Launch) (D : va_G) (cI cZ cQ : ClassId) {aM amt amc amw ams amv amr amx amp amq amb amk amz am0 am1 am2 am3 am4 amh amo : Nat} {tn nm na ac gn : Nat} {th vpl vrm vra x0 x1 x2 x3 : Int32} {sd : Int64} {fmt fmc fmw fms fmv fmp : Nat → Int32} {rest : va_W} {k : Nat} {wa : Int32} (hnm : nm ≤ 5) (hna : na ≤ 5) (hk : k < nm) : MI l D [(cI, .int), (cZ, .boolean), (cQ, .object "MulesRemember$State")] yX5_noStep cX5_noStep 3 .int ({ frames := 2, cells := 0, slots := 0, locals := 48 } : Room) [.ref aM, .int (nI k), .int wa] ((aM, .inr (5, [.int th, .ref amt, .int (nI tn), .int vpl, .int (nI nm), .ref amc, .int (nI na), .ref amw, .ref ams, .ref amv, .int vrm, .ref amr, .int vra, .ref amx, .ref amp, .ref amq, .ref amb, .int (nI ac), .ref amk, .ref amz, .int (nI gn), .ref am0, .ref am1, .ref am2, .ref am3, .ref am4, .long sd, .ref amh, .int x0, .int x1, .int x2, .int x3, .ref amo])) :: (amt, .inl (cI, 48, .inl (fmt))) :: (amc, .inl (cI, 5, .inl (fmc))) :: (amw, .inl (cI, 5, .inl (fmw))) :: (ams, .inl (cI, 5, .inl (fms))) :: (amv, .inl (cI, 5, .inl (fmv))) :: (amp, .inl (cI, 17, .inl (fmp))) :: rest) (mNo (fmp k) wa) ((aM, .inr (5, [.int th, .ref amt, .int (nI tn), .int vpl, .int (nI nm), .ref amc, .int (nI na), .ref amw, .ref ams, .ref amv, .int vrm, .ref amr, .int vra, .ref amx, .ref amp, .ref amq, .ref amb, .int (nI ac), .ref amk, .ref amz, .int (nI gn), .ref am0, .ref am1, .ref am2, .ref am3, .ref am4, .long sd, .ref amh, .int x0, .int x1, .int x2, .int x3, .ref amo])) :: (amt, .inl (cI, 48, .inl (fmt))) :: (amc, .inl (cI, 5, .inl (fmc))) :: (amw, .inl (cI, 5, .inl (fmw))) :: (ams, .inl (cI, 5, .inl (fms))) :: (amv, .inl (cI, 5, .inl (fmv))) :: (amp, .inl (cI, 17, .inl (fmp))) :: rest) := by
  refine MI.of [.ref aM, .int (nI k), .int wa] (by decide) (Nat.le_of_ble_eq_true rfl) rfl ?_
  intro p e s m below meth c A C0 hr
  have hk5 : k < 5 := by omega
  refine ww_aload_n C0 dX5_noStep_0 rfl ?_
  refine ww_iload_n C0 dX5_noStep_1 rfl ?_
  refine ww_callVi C0 (qc := (RX5, TX5, 33)) 0 5 (c_X5_noMule l D cI cZ cQ hnm) kd_X5_noMule kw_X5_151 km_X5_noMule kl_X5_noMule ki_X5 hd_X5_noMule rfl rfl ⟨Nat.le_of_ble_eq_true rfl, Nat.le_of_ble_eq_true rfl, rfl, rfl⟩ (Nat.le_of_ble_eq_true rfl) dX5_noStep_2 rfl rfl rfl ⟨Nat.zero_le _, Nat.zero_le _⟩ ?_
  refine ww_bif_eq (tgt := 10) C0 dX5_noStep_5 (by decide) (fun h5 => ?_) (fun h5 => ?_)
  · skip
    refine ww_iload_n C0 dX5_noStep_10 rfl ?_
    refine ww_i2l C0 dX5_noStep_11 ?_
    refine ww_lconst (v := 0) C0 dX5_noStep_12 rfl ?_
    refine ww_lconst (v := 1) C0 dX5_noStep_13 rfl ?_
    refine ww_callSi C0 (c_X5_in0 l D cI cZ cQ 2 (by decide) (by decide)) kd_X5_in kw_X5_75 ks_X5_in ki_X5 hd_X5_in ⟨Nat.le_of_ble_eq_true rfl, Nat.le_of_ble_eq_true rfl, rfl, rfl⟩ (Nat.le_of_ble_eq_true rfl) dX5_noStep_14 rfl rfl ⟨Nat.zero_le _, Nat.zero_le _⟩ ?_
    refine ww_bif_ne (tgt := 23) C0 dX5_noStep_17 (by decide) (fun h17 => ?_) (fun h17 => ?_)
    · skip
      refine ww_aload_n C0 dX5_noStep_23 rfl ?_
      refine ww_get C0 (ci := 5) (C := RX5) (T := TX5) (N := 33) ku_X5 0 rfl rfl 14 (by decide) kw_X5_31 rfl dX5_noStep_24 ?_
      refine ww_iload_n C0 dX5_noStep_27 rfl ?_
      refine ww_iload_n C0 dX5_noStep_28 rfl ?_
      refine ww_callSi C0 (c_X5_toStone l D cI cZ cQ hk5) kd_X5_toStone kw_X5_119 ks_X5_toStone ki_X5 hd_X5_toStone ⟨Nat.le_of_ble_eq_true rfl, Nat.le_of_ble_eq_true rfl, rfl, rfl⟩ (Nat.le_of_ble_eq_true rfl) dX5_noStep_29 rfl rfl ⟨Nat.zero_le _, Nat.zero_le _⟩ ?_
      refine ww_bipush (v := (-9)) C0 dX5_noStep_32 rfl ?_
      refine ww_icmp_ne (tgt := 42) C0 dX5_noStep_34 (by decide) (fun h34 => ?_) (fun h34 => ?_)
      · skip
        refine ww_iconst (v := (0)) C0 dX5_noStep_42 rfl ?_
        exact ww_iret C0 hr dX5_noStep_43 (by simp [mNo, *]) (by rfl)
      · skip
        refine ww_bipush (v := (-3)) C0 dX5_noStep_37 rfl ?_
        refine ww_goto (tgt := 43) C0 dX5_noStep_39 (by decide) ?_
        exact ww_iret C0 hr dX5_noStep_43 (by simp [mNo, *]) (by rfl)
    · skip
      refine ww_bipush (v := (-2)) C0 dX5_noStep_20 rfl ?_
      exact ww_iret C0 hr dX5_noStep_22 (by simp [mNo, *]) (by rfl)
  · skip
    exact absurd h5 (by rw [isN_nI (by omega) hk]; decide)

set_option maxHeartbeats 4000000 in
set_option maxRecDepth 100000 in
theorem c_X5_by_b (l : Launch) (D : va_G) (cI cZ cQ : ClassId) {aM amt amc amw ams amv amr amx amp amq amb amk amz am0 am1 am2 am3 am4 amh amo : Nat} {tn nm na ac gn : Nat} {th vpl vrm vra x0 x1 x2 x3 : Int32} {sd : Int64} {rest : va_W} {m wa : Int32} (hnm : nm ≤ 5) (hm : isN nm m = false) : MI l D [(cI, .int), (cZ, .boolean), (cQ, .object "MulesRemember$State")] yX5_by cX5_by 4 .int ({ frames := 3, cells := 0, slots := 0, locals := 76 } : Room) [.ref aM, .int m, .int wa] ((aM, .inr (5, [.int th, .ref amt, .int (nI tn), .int vpl, .int (nI nm), .ref amc, .int (nI na), .ref amw, .ref ams, .ref amv, .int vrm, .ref amr, .int vra, .ref amx, .ref amp, .ref amq, .ref amb, .int (nI ac), .ref amk, .ref amz, .int (nI gn), .ref am0, .ref am1, .ref am2, .ref am3, .ref am4, .long sd, .ref amh, .int x0, .int x1, .int x2, .int x3, .ref amo])) :: rest) (-1) ((aM, .inr (5, [.int 0, .ref amt, .int (nI tn), .int vpl, .int (nI nm), .ref amc, .int (nI na), .ref amw, .ref ams, .ref amv, .int vrm, .ref amr, .int vra, .ref amx, .ref amp, .ref amq, .ref amb, .int (nI ac), .ref amk, .ref amz, .int (nI gn), .ref am0, .ref am1, .ref am2, .ref am3, .ref am4, .long sd, .ref amh, .int x0, .int x1, .int x2, .int x3, .ref amo])) :: rest) := by
  refine MI.of [.ref aM, .int m, .int wa, .null] (by decide) (Nat.le_of_ble_eq_true rfl) rfl ?_
  intro p e s m below meth c A C0 hr
  refine ww_aload_n C0 dX5_by_0 rfl ?_
  refine ww_iconst (v := (0)) C0 dX5_by_1 rfl ?_
  refine ww_put C0 (ci := 5) (C := RX5) (T := TX5) (N := 33) ku_X5 0 rfl rfl 0 (by decide) tyX5 tyX5_ok nmX5 kw_X5_68 rfl (ty := .int) (by decide +kernel) rfl rfl (Nat.le_of_ble_eq_true rfl) dX5_by_2 ?_
  simp only [List.set_cons_zero, List.set_cons_succ]
  refine ww_aload_n C0 dX5_by_5 rfl ?_
  refine ww_iload_n C0 dX5_by_6 rfl ?_
  refine ww_iload_n C0 dX5_by_7 rfl ?_
  refine ww_callVi C0 (qc := (RX5, TX5, 33)) 0 5 (c_X5_noStep_b l D cI cZ cQ hnm hm) kd_X5_noStep kw_X5_154 km_X5_noStep kl_X5_noStep ki_X5 hd_X5_noStep rfl rfl ⟨Nat.le_of_ble_eq_true rfl, Nat.le_of_ble_eq_true rfl, rfl, rfl⟩ (Nat.le_of_ble_eq_true rfl) dX5_by_8 rfl rfl rfl ⟨Nat.zero_le _, Nat.zero_le _⟩ ?_
  refine ww_istore_n (i := 3) C0 dX5_by_11 rfl (Nat.le_of_ble_eq_true rfl) rfl ?_
  simp only [List.set_cons_zero, List.set_cons_succ]
  refine ww_iload_n C0 dX5_by_12 rfl ?_
  refine ww_if_eq (tgt := 20) C0 dX5_by_13 (by decide) (fun h13 => ?_) (fun h13 => ?_)
  · skip
    exact absurd h13 (by decide)
  · skip
    refine ww_iload_n C0 dX5_by_16 rfl ?_
    refine ww_goto (tgt := 30) C0 dX5_by_17 (by decide) ?_
    exact ww_iret C0 hr dX5_by_30 (by rfl) (by rfl)

set_option maxHeartbeats 4000000 in
set_option maxRecDepth 100000 in
theorem c_X5_balks_b (l : Launch) (D : va_G) (cI cZ cQ : ClassId) {aM amt amc amw ams amv amr amx amp amq amb amk amz am0 am1 am2 am3 am4 amh amo : Nat} {tn nm na ac gn : Nat} {th vpl vrm vra x0 x1 x2 x3 : Int32} {sd : Int64} {rest : va_W} {m wa : Int32} (hnm : nm ≤ 5) (hm : isN nm m = false) : MI l D [(cI, .int), (cZ, .boolean), (cQ, .object "MulesRemember$State")] yX5_balks cX5_balks 4 .int ({ frames := 3, cells := 0, slots := 0, locals := 76 } : Room) [.ref aM, .int m, .int wa] ((aM, .inr (5, [.int th, .ref amt, .int (nI tn), .int vpl, .int (nI nm), .ref amc, .int (nI na), .ref amw, .ref ams, .ref amv, .int vrm, .ref amr, .int vra, .ref amx, .ref amp, .ref amq, .ref amb, .int (nI ac), .ref amk, .ref amz, .int (nI gn), .ref am0, .ref am1, .ref am2, .ref am3, .ref am4, .long sd, .ref amh, .int x0, .int x1, .int x2, .int x3, .ref amo])) :: rest) (-1) ((aM, .inr (5, [.int 0, .ref amt, .int (nI tn), .int vpl, .int (nI nm), .ref amc, .int (nI na), .ref amw, .ref ams, .ref amv, .int vrm, .ref amr, .int vra, .ref amx, .ref amp, .ref amq, .ref amb, .int (nI ac), .ref amk, .ref amz, .int (nI gn), .ref am0, .ref am1, .ref am2, .ref am3, .ref am4, .long sd, .ref amh, .int x0, .int x1, .int x2, .int x3, .ref amo])) :: rest) := by
  refine MI.of [.ref aM, .int m, .int wa, .null] (by decide) (Nat.le_of_ble_eq_true rfl) rfl ?_
  intro p e s m below meth c A C0 hr
  refine ww_aload_n C0 dX5_balks_0 rfl ?_
  refine ww_iconst (v := (0)) C0 dX5_balks_1 rfl ?_
  refine ww_put C0 (ci := 5) (C := RX5) (T := TX5) (N := 33) ku_X5 0 rfl rfl 0 (by decide) tyX5 tyX5_ok nmX5 kw_X5_68 rfl (ty := .int) (by decide +kernel) rfl rfl (Nat.le_of_ble_eq_true rfl) dX5_balks_2 ?_
  simp only [List.set_cons_zero, List.set_cons_succ]
  refine ww_aload_n C0 dX5_balks_5 rfl ?_
  refine ww_iload_n C0 dX5_balks_6 rfl ?_
  refine ww_iload_n C0 dX5_balks_7 rfl ?_
  refine ww_callVi C0 (qc := (RX5, TX5, 33)) 0 5 (c_X5_noStep_b l D cI cZ cQ hnm hm) kd_X5_noStep kw_X5_154 km_X5_noStep kl_X5_noStep ki_X5 hd_X5_noStep rfl rfl ⟨Nat.le_of_ble_eq_true rfl, Nat.le_of_ble_eq_true rfl, rfl, rfl⟩ (Nat.le_of_ble_eq_true rfl) dX5_balks_8 rfl rfl rfl ⟨Nat.zero_le _, Nat.zero_le _⟩ ?_
  refine ww_istore_n (i := 3) C0 dX5_balks_11 rfl (Nat.le_of_ble_eq_true rfl) rfl ?_
  simp only [List.set_cons_zero, List.set_cons_succ]
  refine ww_iload_n C0 dX5_balks_12 rfl ?_
  refine ww_if_eq (tgt := 20) C0 dX5_balks_13 (by decide) (fun h13 => ?_) (fun h13 => ?_)
  · skip
    exact absurd h13 (by decide)
  · skip
    refine ww_iload_n C0 dX5_balks_16 rfl ?_
    refine ww_goto (tgt := 43) C0 dX5_balks_17 (by decide) ?_
    exact ww_iret C0 hr dX5_balks_43 (by rfl) (by rfl)

set_option maxHeartbeats 4000000 in
set_option maxRecDepth 100000 in
theorem c_X5_step_b (l : Launch) (D : va_G) (cI cZ cQ : ClassId) {aM amt amc amw ams amv amr amx amp amq amb amk amz am0 am1 am2 am3 am4 amh amo : Nat} {tn nm na ac gn : Nat} {th vpl vrm vra x0 x1 x2 x3 : Int32} {sd : Int64} {rest : va_W} {m wa : Int32} (hnm : nm ≤ 5) (hm : isN nm m = false) : MI l D [(cI, .int), (cZ, .boolean), (cQ, .object "MulesRemember$State")] yX5_step cX5_step 4 .int ({ frames := 4, cells := 0, slots := 0, locals := 99 } : Room) [.ref aM, .int m, .int wa] ((aM, .inr (5, [.int th, .ref amt, .int (nI tn), .int vpl, .int (nI nm), .ref amc, .int (nI na), .ref amw, .ref ams, .ref amv, .int vrm, .ref amr, .int vra, .ref amx, .ref amp, .ref amq, .ref amb, .int (nI ac), .ref amk, .ref amz, .int (nI gn), .ref am0, .ref am1, .ref am2, .ref am3, .ref am4, .long sd, .ref amh, .int x0, .int x1, .int x2, .int x3, .ref amo])) :: rest) (-1) ((aM, .inr (5, [.int 0, .ref amt, .int (nI tn), .int vpl, .int (nI nm), .ref amc, .int (nI na), .ref amw, .ref ams, .ref amv, .int vrm, .ref amr, .int vra, .ref amx, .ref amp, .ref amq, .ref amb, .int (nI ac), .ref amk, .ref amz, .int (nI gn), .ref am0, .ref am1, .ref am2, .ref am3, .ref am4, .long sd, .ref amh, .int x0, .int x1, .int x2, .int x3, .ref amo])) :: rest) := by
  refine MI.of [.ref aM, .int m, .int wa, .null] (by decide) (Nat.le_of_ble_eq_true rfl) rfl ?_
  intro p e s m below meth c A C0 hr
  refine ww_aload_n C0 dX5_step_0 rfl ?_
  refine ww_iconst (v := (0)) C0 dX5_step_1 rfl ?_
  refine ww_put C0 (ci := 5) (C := RX5) (T := TX5) (N := 33) ku_X5 0 rfl rfl 0 (by decide) tyX5 tyX5_ok nmX5 kw_X5_68 rfl (ty := .int) (by decide +kernel) rfl rfl (Nat.le_of_ble_eq_true rfl) dX5_step_2 ?_
  simp only [List.set_cons_zero, List.set_cons_succ]
  refine ww_aload_n C0 dX5_step_5 rfl ?_
  refine ww_iload_n C0 dX5_step_6 rfl ?_
  refine ww_iload_n C0 dX5_step_7 rfl ?_
  refine ww_callVi C0 (qc := (RX5, TX5, 33)) 0 5 (c_X5_noStep_b l D cI cZ cQ hnm hm) kd_X5_noStep kw_X5_154 km_X5_noStep kl_X5_noStep ki_X5 hd_X5_noStep rfl rfl ⟨Nat.le_of_ble_eq_true rfl, Nat.le_of_ble_eq_true rfl, rfl, rfl⟩ (Nat.le_of_ble_eq_true rfl) dX5_step_8 rfl rfl rfl ⟨Nat.zero_le _, Nat.zero_le _⟩ ?_
  refine ww_istore_n (i := 3) C0 dX5_step_11 rfl (Nat.le_of_ble_eq_true rfl) rfl ?_
  simp only [List.set_cons_zero, List.set_cons_succ]
  refine ww_iload_n C0 dX5_step_12 rfl ?_
  refine ww_if_eq (tgt := 18) C0 dX5_step_13 (by decide) (fun h13 => ?_) (fun h13 => ?_)
  · skip
    exact absurd h13 (by decide)
  · skip
    refine ww_iload_n C0 dX5_step_16 rfl ?_
    exact ww_iret C0 hr dX5_step_17 (by rfl) (by rfl)

set_option maxHeartbeats 4000000 in
set_option maxRecDepth 100000 in
theorem c_X5_by (l : Launch) (D : va_G) (cI cZ cQ : ClassId) {aM amt amc amw ams amv amr amx amp amq amb amk amz am0 am1 am2 am3 am4 amh amo : Nat} {tn nm na ac gn : Nat} {th vpl vrm vra x0 x1 x2 x3 : Int32} {sd : Int64} {fmt fmc fmw fms fmv fmp : Nat → Int32} {rest : va_W} {k : Nat} {wa : Int32} (hnm : nm ≤ 5) (hna : na ≤ 5) (hk : k < nm) : MI l D [(cI, .int), (cZ, .boolean), (cQ, .object "MulesRemember$State")] yX5_by cX5_by 4 .int ({ frames := 3, cells := 0, slots := 0, locals := 76 } : Room) [.ref aM, .int (nI k), .int wa] ((aM, .inr (5, [.int th, .ref amt, .int (nI tn), .int vpl, .int (nI nm), .ref amc, .int (nI na), .ref amw, .ref ams, .ref amv, .int vrm, .ref amr, .int vra, .ref amx, .ref amp, .ref amq, .ref amb, .int (nI ac), .ref amk, .ref amz, .int (nI gn), .ref am0, .ref am1, .ref am2, .ref am3, .ref am4, .long sd, .ref amh, .int x0, .int x1, .int x2, .int x3, .ref amo])) :: (amt, .inl (cI, 48, .inl (fmt))) :: (amc, .inl (cI, 5, .inl (fmc))) :: (amw, .inl (cI, 5, .inl (fmw))) :: (ams, .inl (cI, 5, .inl (fms))) :: (amv, .inl (cI, 5, .inl (fmv))) :: (amp, .inl (cI, 17, .inl (fmp))) :: rest) (if mNo (fmp k) wa = 0 then (mFF nm na fmw fms fmv fmc fmp k wa) else mNo (fmp k) wa) ((aM, .inr (5, [.int 0, .ref amt, .int (nI tn), .int vpl, .int (nI nm), .ref amc, .int (nI na), .ref amw, .ref ams, .ref amv, .int vrm, .ref amr, .int vra, .ref amx, .ref amp, .ref amq, .ref amb, .int (nI ac), .ref amk, .ref amz, .int (nI gn), .ref am0, .ref am1, .ref am2, .ref am3, .ref am4, .long sd, .ref amh, .int x0, .int x1, .int x2, .int x3, .ref amo])) :: (amt, .inl (cI, 48, .inl (fmt))) :: (amc, .inl (cI, 5, .inl (fmc))) :: (amw, .inl (cI, 5, .inl (fmw))) :: (ams, .inl (cI, 5, .inl (fms))) :: (amv, .inl (cI, 5, .inl (fmv))) :: (amp, .inl (cI, 17, .inl (fmp))) :: rest) := by
  refine MI.of [.ref aM, .int (nI k), .int wa, .null] (by decide) (Nat.le_of_ble_eq_true rfl) rfl ?_
  intro p e s m below meth c A C0 hr
  refine ww_aload_n C0 dX5_by_0 rfl ?_
  refine ww_iconst (v := (0)) C0 dX5_by_1 rfl ?_
  refine ww_put C0 (ci := 5) (C := RX5) (T := TX5) (N := 33) ku_X5 0 rfl rfl 0 (by decide) tyX5 tyX5_ok nmX5 kw_X5_68 rfl (ty := .int) (by decide +kernel) rfl rfl (Nat.le_of_ble_eq_true rfl) dX5_by_2 ?_
  simp only [List.set_cons_zero, List.set_cons_succ]
  refine ww_aload_n C0 dX5_by_5 rfl ?_
  refine ww_iload_n C0 dX5_by_6 rfl ?_
  refine ww_iload_n C0 dX5_by_7 rfl ?_
  refine ww_callVi C0 (qc := (RX5, TX5, 33)) 0 5 (c_X5_noStep l D cI cZ cQ hnm hna hk) kd_X5_noStep kw_X5_154 km_X5_noStep kl_X5_noStep ki_X5 hd_X5_noStep rfl rfl ⟨Nat.le_of_ble_eq_true rfl, Nat.le_of_ble_eq_true rfl, rfl, rfl⟩ (Nat.le_of_ble_eq_true rfl) dX5_by_8 rfl rfl rfl ⟨Nat.zero_le _, Nat.zero_le _⟩ ?_
  refine ww_istore_n (i := 3) C0 dX5_by_11 rfl (Nat.le_of_ble_eq_true rfl) rfl ?_
  simp only [List.set_cons_zero, List.set_cons_succ]
  refine ww_iload_n C0 dX5_by_12 rfl ?_
  refine ww_if_eq (tgt := 20) C0 dX5_by_13 (by decide) (fun h13 => ?_) (fun h13 => ?_)
  · skip
    refine ww_aload_n C0 dX5_by_20 rfl ?_
    refine ww_aload_n C0 dX5_by_21 rfl ?_
    refine ww_get C0 (ci := 5) (C := RX5) (T := TX5) (N := 33) ku_X5 0 rfl rfl 14 (by decide) kw_X5_31 rfl dX5_by_22 ?_
    refine ww_iload_n C0 dX5_by_25 rfl ?_
    refine ww_iload_n C0 dX5_by_26 rfl ?_
    refine ww_callVi C0 (qc := (RX5, TX5, 33)) 0 5 (c_X5_forbids l D cI cZ cQ hnm hna hk) kd_X5_forbids kw_X5_130 km_X5_forbids kl_X5_forbids ki_X5 hd_X5_forbids rfl rfl ⟨Nat.le_of_ble_eq_true rfl, Nat.le_of_ble_eq_true rfl, rfl, rfl⟩ (Nat.le_of_ble_eq_true rfl) dX5_by_27 rfl rfl rfl ⟨Nat.zero_le _, Nat.zero_le _⟩ ?_
    exact ww_iret C0 hr dX5_by_30 (by simp [*]) (by rfl)
  · skip
    refine ww_iload_n C0 dX5_by_16 rfl ?_
    refine ww_goto (tgt := 30) C0 dX5_by_17 (by decide) ?_
    exact ww_iret C0 hr dX5_by_30 (by simp [*]) (by rfl)

set_option maxHeartbeats 4000000 in
set_option maxRecDepth 100000 in
theorem c_X5_balks (l : Launch) (D : va_G) (cI cZ cQ : ClassId) {aM amt amc amw ams amv amr amx amp amq amb amk amz am0 am1 am2 am3 am4 amh amo : Nat} {tn nm na ac gn : Nat} {th vpl vrm vra x0 x1 x2 x3 : Int32} {sd : Int64} {fmt fmc fmw fms fmv fmp : Nat → Int32} {rest : va_W} {k : Nat} {wa : Int32} (hnm : nm ≤ 5) (hna : na ≤ 5) (hk : k < nm) : MI l D [(cI, .int), (cZ, .boolean), (cQ, .object "MulesRemember$State")] yX5_balks cX5_balks 4 .int ({ frames := 3, cells := 0, slots := 0, locals := 76 } : Room) [.ref aM, .int (nI k), .int wa] ((aM, .inr (5, [.int th, .ref amt, .int (nI tn), .int vpl, .int (nI nm), .ref amc, .int (nI na), .ref amw, .ref ams, .ref amv, .int vrm, .ref amr, .int vra, .ref amx, .ref amp, .ref amq, .ref amb, .int (nI ac), .ref amk, .ref amz, .int (nI gn), .ref am0, .ref am1, .ref am2, .ref am3, .ref am4, .long sd, .ref amh, .int x0, .int x1, .int x2, .int x3, .ref amo])) :: (amt, .inl (cI, 48, .inl (fmt))) :: (amc, .inl (cI, 5, .inl (fmc))) :: (amw, .inl (cI, 5, .inl (fmw))) :: (ams, .inl (cI, 5, .inl (fms))) :: (amv, .inl (cI, 5, .inl (fmv))) :: (amp, .inl (cI, 17, .inl (fmp))) :: rest) (if mNo (fmp k) wa = 0 then sFirst ((mFF nm na fmw fms fmv fmc fmp k wa) &&& (mKnown na (fmp (5 + k)) (fmp (10 + k)))) else mNo (fmp k) wa) ((aM, .inr (5, [.int 0, .ref amt, .int (nI tn), .int vpl, .int (nI nm), .ref amc, .int (nI na), .ref amw, .ref ams, .ref amv, .int vrm, .ref amr, .int vra, .ref amx, .ref amp, .ref amq, .ref amb, .int (nI ac), .ref amk, .ref amz, .int (nI gn), .ref am0, .ref am1, .ref am2, .ref am3, .ref am4, .long sd, .ref amh, .int x0, .int x1, .int x2, .int x3, .ref amo])) :: (amt, .inl (cI, 48, .inl (fmt))) :: (amc, .inl (cI, 5, .inl (fmc))) :: (amw, .inl (cI, 5, .inl (fmw))) :: (ams, .inl (cI, 5, .inl (fms))) :: (amv, .inl (cI, 5, .inl (fmv))) :: (amp, .inl (cI, 17, .inl (fmp))) :: rest) := by
  refine MI.of [.ref aM, .int (nI k), .int wa, .null] (by decide) (Nat.le_of_ble_eq_true rfl) rfl ?_
  intro p e s m below meth c A C0 hr
  refine ww_aload_n C0 dX5_balks_0 rfl ?_
  refine ww_iconst (v := (0)) C0 dX5_balks_1 rfl ?_
  refine ww_put C0 (ci := 5) (C := RX5) (T := TX5) (N := 33) ku_X5 0 rfl rfl 0 (by decide) tyX5 tyX5_ok nmX5 kw_X5_68 rfl (ty := .int) (by decide +kernel) rfl rfl (Nat.le_of_ble_eq_true rfl) dX5_balks_2 ?_
  simp only [List.set_cons_zero, List.set_cons_succ]
  refine ww_aload_n C0 dX5_balks_5 rfl ?_
  refine ww_iload_n C0 dX5_balks_6 rfl ?_
  refine ww_iload_n C0 dX5_balks_7 rfl ?_
  refine ww_callVi C0 (qc := (RX5, TX5, 33)) 0 5 (c_X5_noStep l D cI cZ cQ hnm hna hk) kd_X5_noStep kw_X5_154 km_X5_noStep kl_X5_noStep ki_X5 hd_X5_noStep rfl rfl ⟨Nat.le_of_ble_eq_true rfl, Nat.le_of_ble_eq_true rfl, rfl, rfl⟩ (Nat.le_of_ble_eq_true rfl) dX5_balks_8 rfl rfl rfl ⟨Nat.zero_le _, Nat.zero_le _⟩ ?_
  refine ww_istore_n (i := 3) C0 dX5_balks_11 rfl (Nat.le_of_ble_eq_true rfl) rfl ?_
  simp only [List.set_cons_zero, List.set_cons_succ]
  refine ww_iload_n C0 dX5_balks_12 rfl ?_
  refine ww_if_eq (tgt := 20) C0 dX5_balks_13 (by decide) (fun h13 => ?_) (fun h13 => ?_)
  · skip
    refine ww_aload_n C0 dX5_balks_20 rfl ?_
    refine ww_aload_n C0 dX5_balks_21 rfl ?_
    refine ww_get C0 (ci := 5) (C := RX5) (T := TX5) (N := 33) ku_X5 0 rfl rfl 14 (by decide) kw_X5_31 rfl dX5_balks_22 ?_
    refine ww_iload_n C0 dX5_balks_25 rfl ?_
    refine ww_iload_n C0 dX5_balks_26 rfl ?_
    refine ww_callVi C0 (qc := (RX5, TX5, 33)) 0 5 (c_X5_forbids l D cI cZ cQ hnm hna hk) kd_X5_forbids kw_X5_130 km_X5_forbids kl_X5_forbids ki_X5 hd_X5_forbids rfl rfl ⟨Nat.le_of_ble_eq_true rfl, Nat.le_of_ble_eq_true rfl, rfl, rfl⟩ (Nat.le_of_ble_eq_true rfl) dX5_balks_27 rfl rfl rfl ⟨Nat.zero_le _, Nat.zero_le _⟩ ?_
    refine ww_aload_n C0 dX5_balks_30 rfl ?_
    refine ww_aload_n C0 dX5_balks_31 rfl ?_
    refine ww_get C0 (ci := 5) (C := RX5) (T := TX5) (N := 33) ku_X5 0 rfl rfl 14 (by decide) kw_X5_31 rfl dX5_balks_32 ?_
    refine ww_iload_n C0 dX5_balks_35 rfl ?_
    refine ww_callVi C0 (qc := (RX5, TX5, 33)) 0 5 (c_X5_knows l D cI cZ cQ hnm hna hk) kd_X5_knows kw_X5_133 km_X5_knows kl_X5_knows ki_X5 hd_X5_knows rfl rfl ⟨Nat.le_of_ble_eq_true rfl, Nat.le_of_ble_eq_true rfl, rfl, rfl⟩ (Nat.le_of_ble_eq_true rfl) dX5_balks_36 rfl rfl rfl ⟨Nat.zero_le _, Nat.zero_le _⟩ ?_
    refine ww_iand C0 dX5_balks_39 ?_
    refine ww_callSi C0 (c_X5_leastOf l D cI cZ cQ) kd_X5_leastOf kw_X5_158 ks_X5_leastOf ki_X5 hd_X5_leastOf ⟨Nat.le_of_ble_eq_true rfl, Nat.le_of_ble_eq_true rfl, rfl, rfl⟩ (Nat.le_of_ble_eq_true rfl) dX5_balks_40 rfl rfl ⟨Nat.zero_le _, Nat.zero_le _⟩ ?_
    exact ww_iret C0 hr dX5_balks_43 (by simp [*]) (by rfl)
  · skip
    refine ww_iload_n C0 dX5_balks_16 rfl ?_
    refine ww_goto (tgt := 43) C0 dX5_balks_17 (by decide) ?_
    exact ww_iret C0 hr dX5_balks_43 (by simp [*]) (by rfl)

set_option maxHeartbeats 4000000 in
set_option maxRecDepth 100000 in
theorem c_X5_step_r (l : Launch) (D : va_G) (cI cZ cQ : ClassId) {aM amt amc amw ams amv amr amx amp amq amb amk amz am0 am1 am2 am3 am4 amh amo : Nat} {tn nm na ac gn : Nat} {th vpl vrm vra x0 x1 x2 x3 : Int32} {sd : Int64} {fmt fmc fmw fms fmv fmp : Nat → Int32} {rest : va_W} {k : Nat} {wa : Int32} (hnm : nm ≤ 5) (hna : na ≤ 5) (hk : k < nm) (hs : ¬ mNo (fmp k) wa = 0) : MI l D [(cI, .int), (cZ, .boolean), (cQ, .object "MulesRemember$State")] yX5_step cX5_step 4 .int ({ frames := 4, cells := 0, slots := 0, locals := 99 } : Room) [.ref aM, .int (nI k), .int wa] ((aM, .inr (5, [.int th, .ref amt, .int (nI tn), .int vpl, .int (nI nm), .ref amc, .int (nI na), .ref amw, .ref ams, .ref amv, .int vrm, .ref amr, .int vra, .ref amx, .ref amp, .ref amq, .ref amb, .int (nI ac), .ref amk, .ref amz, .int (nI gn), .ref am0, .ref am1, .ref am2, .ref am3, .ref am4, .long sd, .ref amh, .int x0, .int x1, .int x2, .int x3, .ref amo])) :: (amt, .inl (cI, 48, .inl (fmt))) :: (amc, .inl (cI, 5, .inl (fmc))) :: (amw, .inl (cI, 5, .inl (fmw))) :: (ams, .inl (cI, 5, .inl (fms))) :: (amv, .inl (cI, 5, .inl (fmv))) :: (amp, .inl (cI, 17, .inl (fmp))) :: rest) (mNo (fmp k) wa) ((aM, .inr (5, [.int 0, .ref amt, .int (nI tn), .int vpl, .int (nI nm), .ref amc, .int (nI na), .ref amw, .ref ams, .ref amv, .int vrm, .ref amr, .int vra, .ref amx, .ref amp, .ref amq, .ref amb, .int (nI ac), .ref amk, .ref amz, .int (nI gn), .ref am0, .ref am1, .ref am2, .ref am3, .ref am4, .long sd, .ref amh, .int x0, .int x1, .int x2, .int x3, .ref amo])) :: (amt, .inl (cI, 48, .inl (fmt))) :: (amc, .inl (cI, 5, .inl (fmc))) :: (amw, .inl (cI, 5, .inl (fmw))) :: (ams, .inl (cI, 5, .inl (fms))) :: (amv, .inl (cI, 5, .inl (fmv))) :: (amp, .inl (cI, 17, .inl (fmp))) :: rest) := by
  refine MI.of [.ref aM, .int (nI k), .int wa, .null] (by decide) (Nat.le_of_ble_eq_true rfl) rfl ?_
  intro p e s m below meth c A C0 hr
  refine ww_aload_n C0 dX5_step_0 rfl ?_
  refine ww_iconst (v := (0)) C0 dX5_step_1 rfl ?_
  refine ww_put C0 (ci := 5) (C := RX5) (T := TX5) (N := 33) ku_X5 0 rfl rfl 0 (by decide) tyX5 tyX5_ok nmX5 kw_X5_68 rfl (ty := .int) (by decide +kernel) rfl rfl (Nat.le_of_ble_eq_true rfl) dX5_step_2 ?_
  simp only [List.set_cons_zero, List.set_cons_succ]
  refine ww_aload_n C0 dX5_step_5 rfl ?_
  refine ww_iload_n C0 dX5_step_6 rfl ?_
  refine ww_iload_n C0 dX5_step_7 rfl ?_
  refine ww_callVi C0 (qc := (RX5, TX5, 33)) 0 5 (c_X5_noStep l D cI cZ cQ hnm hna hk) kd_X5_noStep kw_X5_154 km_X5_noStep kl_X5_noStep ki_X5 hd_X5_noStep rfl rfl ⟨Nat.le_of_ble_eq_true rfl, Nat.le_of_ble_eq_true rfl, rfl, rfl⟩ (Nat.le_of_ble_eq_true rfl) dX5_step_8 rfl rfl rfl ⟨Nat.zero_le _, Nat.zero_le _⟩ ?_
  refine ww_istore_n (i := 3) C0 dX5_step_11 rfl (Nat.le_of_ble_eq_true rfl) rfl ?_
  simp only [List.set_cons_zero, List.set_cons_succ]
  refine ww_iload_n C0 dX5_step_12 rfl ?_
  refine ww_if_eq (tgt := 18) C0 dX5_step_13 (by decide) (fun h13 => ?_) (fun h13 => ?_)
  · skip
    exact absurd h13 hs
  · skip
    refine ww_iload_n C0 dX5_step_16 rfl ?_
    exact ww_iret C0 hr dX5_step_17 (by rfl) (by rfl)

set_option maxHeartbeats 4000000 in
set_option maxRecDepth 100000 in
theorem c_X5_step_l (l : Launch) (D : va_G) (cI cZ cQ : ClassId) {aM amt amc amw ams amv amr amx amp amq amb amk amz am0 am1 am2 am3 am4 amh amo : Nat} {tn nm na ac gn : Nat} {th vpl vrm vra x0 x1 x2 x3 : Int32} {sd : Int64} {fmt fmc fmw fms fmv fmp : Nat → Int32} {rest : va_W} {k : Nat} {wa : Int32} (hnm : nm ≤ 5) (hna : na ≤ 5) (hk : k < nm) (hs : mNo (fmp k) wa = 0) (hg : (mBk nm na fmw fms fmv fmc fmp k wa) = true) : MI l D [(cI, .int), (cZ, .boolean), (cQ, .object "MulesRemember$State")] yX5_step cX5_step 4 .int ({ frames := 4, cells := 0, slots := 0, locals := 99 } : Room) [.ref aM, .int (nI k), .int wa] ((aM, .inr (5, [.int th, .ref amt, .int (nI tn), .int vpl, .int (nI nm), .ref amc, .int (nI na), .ref amw, .ref ams, .ref amv, .int vrm, .ref amr, .int vra, .ref amx, .ref amp, .ref amq, .ref amb, .int (nI ac), .ref amk, .ref amz, .int (nI gn), .ref am0, .ref am1, .ref am2, .ref am3, .ref am4, .long sd, .ref amh, .int x0, .int x1, .int x2, .int x3, .ref amo])) :: (amt, .inl (cI, 48, .inl (fmt))) :: (amc, .inl (cI, 5, .inl (fmc))) :: (amw, .inl (cI, 5, .inl (fmw))) :: (ams, .inl (cI, 5, .inl (fms))) :: (amv, .inl (cI, 5, .inl (fmv))) :: (amp, .inl (cI, 17, .inl (fmp))) :: rest) (-3) ((aM, .inr (5, [.int 0, .ref amt, .int (nI tn), .int vpl, .int (nI nm), .ref amc, .int (nI na), .ref amw, .ref ams, .ref amv, .int vrm, .ref amr, .int vra, .ref amx, .ref amp, .ref amq, .ref amb, .int (nI ac), .ref amk, .ref amz, .int (nI gn), .ref am0, .ref am1, .ref am2, .ref am3, .ref am4, .long sd, .ref amh, .int x0, .int x1, .int x2, .int x3, .ref amo])) :: (amt, .inl (cI, 48, .inl (fmt))) :: (amc, .inl (cI, 5, .inl (fmc))) :: (amw, .inl (cI, 5, .inl (fmw))) :: (ams, .inl (cI, 5, .inl (fms))) :: (amv, .inl (cI, 5, .inl (fmv))) :: (amp, .inl (cI, 17, .inl (fmp))) :: rest) := by
  refine MI.of [.ref aM, .int (nI k), .int wa, .null] (by decide) (Nat.le_of_ble_eq_true rfl) rfl ?_
  intro p e s m below meth c A C0 hr
  refine ww_aload_n C0 dX5_step_0 rfl ?_
  refine ww_iconst (v := (0)) C0 dX5_step_1 rfl ?_
  refine ww_put C0 (ci := 5) (C := RX5) (T := TX5) (N := 33) ku_X5 0 rfl rfl 0 (by decide) tyX5 tyX5_ok nmX5 kw_X5_68 rfl (ty := .int) (by decide +kernel) rfl rfl (Nat.le_of_ble_eq_true rfl) dX5_step_2 ?_
  simp only [List.set_cons_zero, List.set_cons_succ]
  refine ww_aload_n C0 dX5_step_5 rfl ?_
  refine ww_iload_n C0 dX5_step_6 rfl ?_
  refine ww_iload_n C0 dX5_step_7 rfl ?_
  refine ww_callVi C0 (qc := (RX5, TX5, 33)) 0 5 (c_X5_noStep l D cI cZ cQ hnm hna hk) kd_X5_noStep kw_X5_154 km_X5_noStep kl_X5_noStep ki_X5 hd_X5_noStep rfl rfl ⟨Nat.le_of_ble_eq_true rfl, Nat.le_of_ble_eq_true rfl, rfl, rfl⟩ (Nat.le_of_ble_eq_true rfl) dX5_step_8 rfl rfl rfl ⟨Nat.zero_le _, Nat.zero_le _⟩ ?_
  refine ww_istore_n (i := 3) C0 dX5_step_11 rfl (Nat.le_of_ble_eq_true rfl) rfl ?_
  simp only [List.set_cons_zero, List.set_cons_succ]
  refine ww_iload_n C0 dX5_step_12 rfl ?_
  refine ww_if_eq (tgt := 18) C0 dX5_step_13 (by decide) (fun h13 => ?_) (fun h13 => ?_)
  · skip
    refine ww_aload_n C0 dX5_step_18 rfl ?_
    refine ww_aload_n C0 dX5_step_19 rfl ?_
    refine ww_get C0 (ci := 5) (C := RX5) (T := TX5) (N := 33) ku_X5 0 rfl rfl 14 (by decide) kw_X5_31 rfl dX5_step_20 ?_
    refine ww_iload_n C0 dX5_step_23 rfl ?_
    refine ww_iload_n C0 dX5_step_24 rfl ?_
    refine ww_callVi C0 (qc := (RX5, TX5, 33)) 0 5 (c_X5_isBalking l D cI cZ cQ hnm hna hk) kd_X5_isBalking kw_X5_164 km_X5_isBalking kl_X5_isBalking ki_X5 hd_X5_isBalking rfl rfl ⟨Nat.le_of_ble_eq_true rfl, Nat.le_of_ble_eq_true rfl, rfl, rfl⟩ (Nat.le_of_ble_eq_true rfl) dX5_step_25 rfl rfl rfl ⟨Nat.zero_le _, Nat.zero_le _⟩ ?_
    refine ww_bif_eq (tgt := 34) C0 dX5_step_28 (by decide) (fun h28 => ?_) (fun h28 => ?_)
    · skip
      exact absurd hg (by rw [h28]; decide)
    · skip
      refine ww_bipush (v := (-3)) C0 dX5_step_31 rfl ?_
      exact ww_iret C0 hr dX5_step_33 (by rfl) (by rfl)
  · skip
    exact absurd hs h13

set_option maxHeartbeats 4000000 in
set_option maxRecDepth 100000 in
theorem c_X5_step (l : Launch) (D : va_G) (cI cZ cQ : ClassId) {aM amt amc amw ams amv amr amx amp amq amb amk amz am0 am1 am2 am3 am4 amh amo : Nat} {tn nm na ac gn : Nat} {th vpl vrm vra x0 x1 x2 x3 : Int32} {sd : Int64} {fmt fmc fmw fms fmv fmp fmq fmr fmx fmb : Nat → Int32} {rest : va_W} {k : Nat} {wa : Int32} (hnm : nm ≤ 5) (hna : na ≤ 5) (hk : k < nm) (hac : ac ≤ 14) (hs : mNo (fmp k) wa = 0) (hg : (mBk nm na fmw fms fmv fmc fmp k wa) = false) : MI l D [(cI, .int), (cZ, .boolean), (cQ, .object "MulesRemember$State")] yX5_step cX5_step 4 .int ({ frames := 4, cells := 0, slots := 0, locals := 99 } : Room) [.ref aM, .int (nI k), .int wa] ((aM, .inr (5, [.int th, .ref amt, .int (nI tn), .int vpl, .int (nI nm), .ref amc, .int (nI na), .ref amw, .ref ams, .ref amv, .int vrm, .ref amr, .int vra, .ref amx, .ref amp, .ref amq, .ref amb, .int (nI ac), .ref amk, .ref amz, .int (nI gn), .ref am0, .ref am1, .ref am2, .ref am3, .ref am4, .long sd, .ref amh, .int x0, .int x1, .int x2, .int x3, .ref amo])) :: (amt, .inl (cI, 48, .inl (fmt))) :: (amc, .inl (cI, 5, .inl (fmc))) :: (amw, .inl (cI, 5, .inl (fmw))) :: (ams, .inl (cI, 5, .inl (fms))) :: (amv, .inl (cI, 5, .inl (fmv))) :: (amp, .inl (cI, 17, .inl (fmp))) :: (amq, .inl (cI, 17, .inl (fmq))) :: (amr, .inl (cI, 15, .inl (fmr))) :: (amx, .inl (cI, 15, .inl (fmx))) :: (amb, .inl (cI, 238, .inl (fmb))) :: rest) (mTo (fmp k) wa) ((aM, .inr (5, [.int 0, .ref amt, .int (nI tn), .int vpl, .int (nI nm), .ref amc, .int (nI na), .ref amw, .ref ams, .ref amv, .int vrm, .ref amr, .int vra, .ref amx, .ref amp, .ref amq, .ref amb, .int (nI (ra ac)), .ref amk, .ref amz, .int (nI gn), .ref am0, .ref am1, .ref am2, .ref am3, .ref am4, .long sd, .ref amh, .int x0, .int x1, .int x2, .int x3, .ref amo])) :: (amt, .inl (cI, 48, .inl (fmt))) :: (amc, .inl (cI, 5, .inl (fmc))) :: (amw, .inl (cI, 5, .inl (fmw))) :: (ams, .inl (cI, 5, .inl (fms))) :: (amv, .inl (cI, 5, .inl (fmv))) :: (amp, .inl (cI, 17, .inl (mGoF fmp k (mTo (fmp k) wa) (mFF nm na fmw fms fmv fmc fmp k wa)))) :: (amq, .inl (cI, 17, .inl (fmq))) :: (amr, .inl (cI, 15, .inl (fmr))) :: (amx, .inl (cI, 15, .inl (fmx))) :: (amb, .inl (cI, 238, .inl (mBook fmb fmp ac))) :: rest) := by
  refine MI.of [.ref aM, .int (nI k), .int wa, .null] (by decide) (Nat.le_of_ble_eq_true rfl) rfl ?_
  intro p e s m below meth c A C0 hr
  refine ww_aload_n C0 dX5_step_0 rfl ?_
  refine ww_iconst (v := (0)) C0 dX5_step_1 rfl ?_
  refine ww_put C0 (ci := 5) (C := RX5) (T := TX5) (N := 33) ku_X5 0 rfl rfl 0 (by decide) tyX5 tyX5_ok nmX5 kw_X5_68 rfl (ty := .int) (by decide +kernel) rfl rfl (Nat.le_of_ble_eq_true rfl) dX5_step_2 ?_
  simp only [List.set_cons_zero, List.set_cons_succ]
  refine ww_aload_n C0 dX5_step_5 rfl ?_
  refine ww_iload_n C0 dX5_step_6 rfl ?_
  refine ww_iload_n C0 dX5_step_7 rfl ?_
  refine ww_callVi C0 (qc := (RX5, TX5, 33)) 0 5 (c_X5_noStep l D cI cZ cQ hnm hna hk) kd_X5_noStep kw_X5_154 km_X5_noStep kl_X5_noStep ki_X5 hd_X5_noStep rfl rfl ⟨Nat.le_of_ble_eq_true rfl, Nat.le_of_ble_eq_true rfl, rfl, rfl⟩ (Nat.le_of_ble_eq_true rfl) dX5_step_8 rfl rfl rfl ⟨Nat.zero_le _, Nat.zero_le _⟩ ?_
  refine ww_istore_n (i := 3) C0 dX5_step_11 rfl (Nat.le_of_ble_eq_true rfl) rfl ?_
  simp only [List.set_cons_zero, List.set_cons_succ]
  refine ww_iload_n C0 dX5_step_12 rfl ?_
  refine ww_if_eq (tgt := 18) C0 dX5_step_13 (by decide) (fun h13 => ?_) (fun h13 => ?_)
  · skip
    refine ww_aload_n C0 dX5_step_18 rfl ?_
    refine ww_aload_n C0 dX5_step_19 rfl ?_
    refine ww_get C0 (ci := 5) (C := RX5) (T := TX5) (N := 33) ku_X5 0 rfl rfl 14 (by decide) kw_X5_31 rfl dX5_step_20 ?_
    refine ww_iload_n C0 dX5_step_23 rfl ?_
    refine ww_iload_n C0 dX5_step_24 rfl ?_
    refine ww_callVi C0 (qc := (RX5, TX5, 33)) 0 5 (c_X5_isBalking l D cI cZ cQ hnm hna hk) kd_X5_isBalking kw_X5_164 km_X5_isBalking kl_X5_isBalking ki_X5 hd_X5_isBalking rfl rfl ⟨Nat.le_of_ble_eq_true rfl, Nat.le_of_ble_eq_true rfl, rfl, rfl⟩ (Nat.le_of_ble_eq_true rfl) dX5_step_25 rfl rfl rfl ⟨Nat.zero_le _, Nat.zero_le _⟩ ?_
    refine ww_bif_eq (tgt := 34) C0 dX5_step_28 (by decide) (fun h28 => ?_) (fun h28 => ?_)
    · skip
      refine ww_aload_n C0 dX5_step_34 rfl ?_
      refine ww_callVv C0 (qc := (RX5, TX5, 33)) 0 5 (c_X5_note l D cI cZ cQ hac) kd_X5_note kw_X5_168 km_X5_note kl_X5_note ki_X5 hd_X5_note rfl rfl ⟨Nat.le_of_ble_eq_true rfl, Nat.le_of_ble_eq_true rfl, rfl, rfl⟩ (Nat.le_of_ble_eq_true rfl) dX5_step_35 rfl rfl rfl ⟨Nat.zero_le _, Nat.zero_le _⟩ ?_
      refine ww_aload_n C0 dX5_step_38 rfl ?_
      refine ww_aload_n C0 dX5_step_39 rfl ?_
      refine ww_get C0 (ci := 5) (C := RX5) (T := TX5) (N := 33) ku_X5 0 rfl rfl 14 (by decide) kw_X5_31 rfl dX5_step_40 ?_
      refine ww_iload_n C0 dX5_step_43 rfl ?_
      refine ww_iload_n C0 dX5_step_44 rfl ?_
      refine ww_callVv C0 (qc := (RX5, TX5, 33)) 0 5 (c_X5_go l D cI cZ cQ hnm hna hk) kd_X5_go kw_X5_171 km_X5_go kl_X5_go ki_X5 hd_X5_go rfl rfl ⟨Nat.le_of_ble_eq_true rfl, Nat.le_of_ble_eq_true rfl, rfl, rfl⟩ (Nat.le_of_ble_eq_true rfl) dX5_step_45 rfl rfl rfl ⟨Nat.zero_le _, Nat.zero_le _⟩ ?_
      refine ww_aload_n C0 dX5_step_48 rfl ?_
      refine ww_get C0 (ci := 5) (C := RX5) (T := TX5) (N := 33) ku_X5 0 rfl rfl 14 (by decide) kw_X5_31 rfl dX5_step_49 ?_
      refine ww_iconst (v := (0)) C0 dX5_step_52 rfl ?_
      refine ww_iload_n C0 dX5_step_53 rfl ?_
      refine ww_iadd C0 dX5_step_54 ?_
      refine ww_iald_n (j := k) C0 6 0 rfl rfl (by rw [show (0 : Int32) + nI k = nI (0 + k) from nI_add 0 k, Nat.zero_add]) (by omega) (by decide) dX5_step_55 ?_
      exact ww_iret C0 hr dX5_step_56 (by simp [mGoF, show ¬ k = 16 by omega]) (by rfl)
    · skip
      exact absurd hg (by rw [h28]; decide)
  · skip
    exact absurd hs h13

set_option maxHeartbeats 4000000 in
set_option maxRecDepth 100000 in
theorem c_X5_pause (l : Launch) (D : va_G) (cI cZ cQ : ClassId) {aM amt amc amw ams amv amr amx amp amq amb amk amz am0 am1 am2 am3 am4 amh amo : Nat} {tn nm na ac gn : Nat} {th vpl vrm vra x0 x1 x2 x3 : Int32} {sd : Int64} {fmt fmc fmw fms fmv fmp fmq fmr fmx fmb : Nat → Int32} {rest : va_W} (hac : ac ≤ 14) : MI l D [(cI, .int), (cZ, .boolean), (cQ, .object "MulesRemember$State")] yX5_pause cX5_pause 1 .int ({ frames := 1, cells := 0, slots := 0, locals := 21 } : Room) [.ref aM] ((aM, .inr (5, [.int th, .ref amt, .int (nI tn), .int vpl, .int (nI nm), .ref amc, .int (nI na), .ref amw, .ref ams, .ref amv, .int vrm, .ref amr, .int vra, .ref amx, .ref amp, .ref amq, .ref amb, .int (nI ac), .ref amk, .ref amz, .int (nI gn), .ref am0, .ref am1, .ref am2, .ref am3, .ref am4, .long sd, .ref amh, .int x0, .int x1, .int x2, .int x3, .ref amo])) :: (amt, .inl (cI, 48, .inl (fmt))) :: (amc, .inl (cI, 5, .inl (fmc))) :: (amw, .inl (cI, 5, .inl (fmw))) :: (ams, .inl (cI, 5, .inl (fms))) :: (amv, .inl (cI, 5, .inl (fmv))) :: (amp, .inl (cI, 17, .inl (fmp))) :: (amq, .inl (cI, 17, .inl (fmq))) :: (amr, .inl (cI, 15, .inl (fmr))) :: (amx, .inl (cI, 15, .inl (fmx))) :: (amb, .inl (cI, 238, .inl (fmb))) :: rest) (fmp 15 + 1) ((aM, .inr (5, [.int 0, .ref amt, .int (nI tn), .int vpl, .int (nI nm), .ref amc, .int (nI na), .ref amw, .ref ams, .ref amv, .int vrm, .ref amr, .int vra, .ref amx, .ref amp, .ref amq, .ref amb, .int (nI (ra ac)), .ref amk, .ref amz, .int (nI gn), .ref am0, .ref am1, .ref am2, .ref am3, .ref am4, .long sd, .ref amh, .int x0, .int x1, .int x2, .int x3, .ref amo])) :: (amt, .inl (cI, 48, .inl (fmt))) :: (amc, .inl (cI, 5, .inl (fmc))) :: (amw, .inl (cI, 5, .inl (fmw))) :: (ams, .inl (cI, 5, .inl (fms))) :: (amv, .inl (cI, 5, .inl (fmv))) :: (amp, .inl (cI, 17, .inl (upd fmp 15 (fmp 15 + 1)))) :: (amq, .inl (cI, 17, .inl (fmq))) :: (amr, .inl (cI, 15, .inl (fmr))) :: (amx, .inl (cI, 15, .inl (fmx))) :: (amb, .inl (cI, 238, .inl (mBook fmb fmp ac))) :: rest) := by
  refine MI.of [.ref aM] (by decide) (Nat.le_of_ble_eq_true rfl) rfl ?_
  intro p e s m below meth c A C0 hr
  refine ww_aload_n C0 dX5_pause_0 rfl ?_
  refine ww_iconst (v := (0)) C0 dX5_pause_1 rfl ?_
  refine ww_put C0 (ci := 5) (C := RX5) (T := TX5) (N := 33) ku_X5 0 rfl rfl 0 (by decide) tyX5 tyX5_ok nmX5 kw_X5_68 rfl (ty := .int) (by decide +kernel) rfl rfl (Nat.le_of_ble_eq_true rfl) dX5_pause_2 ?_
  simp only [List.set_cons_zero, List.set_cons_succ]
  refine ww_aload_n C0 dX5_pause_5 rfl ?_
  refine ww_callVv C0 (qc := (RX5, TX5, 33)) 0 5 (c_X5_note l D cI cZ cQ hac) kd_X5_note kw_X5_168 km_X5_note kl_X5_note ki_X5 hd_X5_note rfl rfl ⟨Nat.le_of_ble_eq_true rfl, Nat.le_of_ble_eq_true rfl, rfl, rfl⟩ (Nat.le_of_ble_eq_true rfl) dX5_pause_6 rfl rfl rfl ⟨Nat.zero_le _, Nat.zero_le _⟩ ?_
  refine ww_aload_n C0 dX5_pause_9 rfl ?_
  refine ww_get C0 (ci := 5) (C := RX5) (T := TX5) (N := 33) ku_X5 0 rfl rfl 14 (by decide) kw_X5_31 rfl dX5_pause_10 ?_
  refine ww_bipush (v := (15)) C0 dX5_pause_13 rfl ?_
  refine ww_dup2 C0 dX5_pause_15 rfl rfl ?_
  refine ww_iald_n (j := 15) C0 6 0 rfl rfl rfl (by omega) (by decide) dX5_pause_16 ?_
  refine ww_iconst (v := (1)) C0 dX5_pause_17 rfl ?_
  refine ww_iadd C0 dX5_pause_18 ?_
  refine ww_iast_n (j := 15) C0 6 0 rfl rfl rfl (by omega) (by decide) dX5_pause_19 ?_
  simp only [List.set_cons_zero, List.set_cons_succ]
  refine ww_aload_n C0 dX5_pause_20 rfl ?_
  refine ww_get C0 (ci := 5) (C := RX5) (T := TX5) (N := 33) ku_X5 0 rfl rfl 14 (by decide) kw_X5_31 rfl dX5_pause_21 ?_
  refine ww_bipush (v := (15)) C0 dX5_pause_24 rfl ?_
  refine ww_iald_n (j := 15) C0 6 0 rfl rfl rfl (by omega) (by decide) dX5_pause_26 ?_
  exact ww_iret C0 hr dX5_pause_27 (by simp [upd]) (by rfl)

set_option maxHeartbeats 4000000 in
set_option maxRecDepth 100000 in
theorem c_X5_show_b (l : Launch) (D : va_G) (cI cZ cQ : ClassId) {aM amt amc amw ams amv amr amx amp amq amb amk amz am0 am1 am2 am3 am4 amh amo : Nat} {tn nm na ac gn : Nat} {th vpl vrm vra x0 x1 x2 x3 : Int32} {sd : Int64} {rest : va_W} {m o a : Int32} (hnm : nm ≤ 5) (hna : na ≤ 5) (hm : (isN nm m && isN nm o && isN na a) = false) : MI l D [(cI, .int), (cZ, .boolean), (cQ, .object "MulesRemember$State")] yX5_show cX5_show 4 .int ({ frames := 2, cells := 0, slots := 0, locals := 46 } : Room) [.ref aM, .int m, .int o, .int a] ((aM, .inr (5, [.int th, .ref amt, .int (nI tn), .int vpl, .int (nI nm), .ref amc, .int (nI na), .ref amw, .ref ams, .ref amv, .int vrm, .ref amr, .int vra, .ref amx, .ref amp, .ref amq, .ref amb, .int (nI ac), .ref amk, .ref amz, .int (nI gn), .ref am0, .ref am1, .ref am2, .ref am3, .ref am4, .long sd, .ref amh, .int x0, .int x1, .int x2, .int x3, .ref amo])) :: rest) (-1) ((aM, .inr (5, [.int 0, .ref amt, .int (nI tn), .int vpl, .int (nI nm), .ref amc, .int (nI na), .ref amw, .ref ams, .ref amv, .int vrm, .ref amr, .int vra, .ref amx, .ref amp, .ref amq, .ref amb, .int (nI ac), .ref amk, .ref amz, .int (nI gn), .ref am0, .ref am1, .ref am2, .ref am3, .ref am4, .long sd, .ref amh, .int x0, .int x1, .int x2, .int x3, .ref amo])) :: rest) := by
  refine MI.of [.ref aM, .int m, .int o, .int a] (by decide) (Nat.le_of_ble_eq_true rfl) rfl ?_
  intro p e s m below meth c A C0 hr
  refine ww_aload_n C0 dX5_show_0 rfl ?_
  refine ww_iconst (v := (0)) C0 dX5_show_1 rfl ?_
  refine ww_put C0 (ci := 5) (C := RX5) (T := TX5) (N := 33) ku_X5 0 rfl rfl 0 (by decide) tyX5 tyX5_ok nmX5 kw_X5_68 rfl (ty := .int) (by decide +kernel) rfl rfl (Nat.le_of_ble_eq_true rfl) dX5_show_2 ?_
  simp only [List.set_cons_zero, List.set_cons_succ]
  refine ww_aload_n C0 dX5_show_5 rfl ?_
  refine ww_iload_n C0 dX5_show_6 rfl ?_
  refine ww_callVi C0 (qc := (RX5, TX5, 33)) 0 5 (c_X5_noMule l D cI cZ cQ hnm) kd_X5_noMule kw_X5_151 km_X5_noMule kl_X5_noMule ki_X5 hd_X5_noMule rfl rfl ⟨Nat.le_of_ble_eq_true rfl, Nat.le_of_ble_eq_true rfl, rfl, rfl⟩ (Nat.le_of_ble_eq_true rfl) dX5_show_7 rfl rfl rfl ⟨Nat.zero_le _, Nat.zero_le _⟩ ?_
  refine ww_bif_ne (tgt := 29) C0 dX5_show_10 (by decide) (fun h10 => ?_) (fun h10 => ?_)
  · skip
    refine ww_iconst (v := (-1)) C0 dX5_show_29 rfl ?_
    exact ww_iret C0 hr dX5_show_30 (by rfl) (by rfl)
  · skip
    refine ww_aload_n C0 dX5_show_13 rfl ?_
    refine ww_iload_n C0 dX5_show_14 rfl ?_
    refine ww_callVi C0 (qc := (RX5, TX5, 33)) 0 5 (c_X5_noMule l D cI cZ cQ hnm) kd_X5_noMule kw_X5_151 km_X5_noMule kl_X5_noMule ki_X5 hd_X5_noMule rfl rfl ⟨Nat.le_of_ble_eq_true rfl, Nat.le_of_ble_eq_true rfl, rfl, rfl⟩ (Nat.le_of_ble_eq_true rfl) dX5_show_15 rfl rfl rfl ⟨Nat.zero_le _, Nat.zero_le _⟩ ?_
    refine ww_bif_ne (tgt := 29) C0 dX5_show_18 (by decide) (fun h18 => ?_) (fun h18 => ?_)
    · skip
      refine ww_iconst (v := (-1)) C0 dX5_show_29 rfl ?_
      exact ww_iret C0 hr dX5_show_30 (by rfl) (by rfl)
    · skip
      refine ww_aload_n C0 dX5_show_21 rfl ?_
      refine ww_iload_n C0 dX5_show_22 rfl ?_
      refine ww_callVi C0 (qc := (RX5, TX5, 33)) 0 5 (c_X5_noArticle l D cI cZ cQ hna) kd_X5_noArticle kw_X5_144 km_X5_noArticle kl_X5_noArticle ki_X5 hd_X5_noArticle rfl rfl ⟨Nat.le_of_ble_eq_true rfl, Nat.le_of_ble_eq_true rfl, rfl, rfl⟩ (Nat.le_of_ble_eq_true rfl) dX5_show_23 rfl rfl rfl ⟨Nat.zero_le _, Nat.zero_le _⟩ ?_
      refine ww_bif_eq (tgt := 31) C0 dX5_show_26 (by decide) (fun h26 => ?_) (fun h26 => ?_)
      · skip
        exact absurd hm (by simp_all)
      · skip
        refine ww_iconst (v := (-1)) C0 dX5_show_29 rfl ?_
        exact ww_iret C0 hr dX5_show_30 (by rfl) (by rfl)

set_option maxHeartbeats 4000000 in
set_option maxRecDepth 100000 in
theorem c_X5_show_s (l : Launch) (D : va_G) (cI cZ cQ : ClassId) {aM amt amc amw ams amv amr amx amp amq amb amk amz am0 am1 am2 am3 am4 amh amo : Nat} {tn nm na ac gn : Nat} {th vpl vrm vra x0 x1 x2 x3 : Int32} {sd : Int64} {fmt fmc fmw fms fmv fmp : Nat → Int32} {rest : va_W} {k o a : Nat} (hnm : nm ≤ 5) (hna : na ≤ 5) (hk : k < nm) (ho : o < nm) (ha : a < na) (he : k = o) : MI l D [(cI, .int), (cZ, .boolean), (cQ, .object "MulesRemember$State")] yX5_show cX5_show 4 .int ({ frames := 2, cells := 0, slots := 0, locals := 46 } : Room) [.ref aM, .int (nI k), .int (nI o), .int (nI a)] ((aM, .inr (5, [.int th, .ref amt, .int (nI tn), .int vpl, .int (nI nm), .ref amc, .int (nI na), .ref amw, .ref ams, .ref amv, .int vrm, .ref amr, .int vra, .ref amx, .ref amp, .ref amq, .ref amb, .int (nI ac), .ref amk, .ref amz, .int (nI gn), .ref am0, .ref am1, .ref am2, .ref am3, .ref am4, .long sd, .ref amh, .int x0, .int x1, .int x2, .int x3, .ref amo])) :: (amt, .inl (cI, 48, .inl (fmt))) :: (amc, .inl (cI, 5, .inl (fmc))) :: (amw, .inl (cI, 5, .inl (fmw))) :: (ams, .inl (cI, 5, .inl (fms))) :: (amv, .inl (cI, 5, .inl (fmv))) :: (amp, .inl (cI, 17, .inl (fmp))) :: rest) (-2) ((aM, .inr (5, [.int 0, .ref amt, .int (nI tn), .int vpl, .int (nI nm), .ref amc, .int (nI na), .ref amw, .ref ams, .ref amv, .int vrm, .ref amr, .int vra, .ref amx, .ref amp, .ref amq, .ref amb, .int (nI ac), .ref amk, .ref amz, .int (nI gn), .ref am0, .ref am1, .ref am2, .ref am3, .ref am4, .long sd, .ref amh, .int x0, .int x1, .int x2, .int x3, .ref amo])) :: (amt, .inl (cI, 48, .inl (fmt))) :: (amc, .inl (cI, 5, .inl (fmc))) :: (amw, .inl (cI, 5, .inl (fmw))) :: (ams, .inl (cI, 5, .inl (fms))) :: (amv, .inl (cI, 5, .inl (fmv))) :: (amp, .inl (cI, 17, .inl (fmp))) :: rest) := by
  refine MI.of [.ref aM, .int (nI k), .int (nI o), .int (nI a)] (by decide) (Nat.le_of_ble_eq_true rfl) rfl ?_
  intro p e s m below meth c A C0 hr
  refine ww_aload_n C0 dX5_show_0 rfl ?_
  refine ww_iconst (v := (0)) C0 dX5_show_1 rfl ?_
  refine ww_put C0 (ci := 5) (C := RX5) (T := TX5) (N := 33) ku_X5 0 rfl rfl 0 (by decide) tyX5 tyX5_ok nmX5 kw_X5_68 rfl (ty := .int) (by decide +kernel) rfl rfl (Nat.le_of_ble_eq_true rfl) dX5_show_2 ?_
  simp only [List.set_cons_zero, List.set_cons_succ]
  refine ww_aload_n C0 dX5_show_5 rfl ?_
  refine ww_iload_n C0 dX5_show_6 rfl ?_
  refine ww_callVi C0 (qc := (RX5, TX5, 33)) 0 5 (c_X5_noMule l D cI cZ cQ hnm) kd_X5_noMule kw_X5_151 km_X5_noMule kl_X5_noMule ki_X5 hd_X5_noMule rfl rfl ⟨Nat.le_of_ble_eq_true rfl, Nat.le_of_ble_eq_true rfl, rfl, rfl⟩ (Nat.le_of_ble_eq_true rfl) dX5_show_7 rfl rfl rfl ⟨Nat.zero_le _, Nat.zero_le _⟩ ?_
  refine ww_bif_ne (tgt := 29) C0 dX5_show_10 (by decide) (fun h10 => ?_) (fun h10 => ?_)
  · skip
    exact absurd h10 (by rw [isN_nI (by omega) hk]; decide)
  · skip
    refine ww_aload_n C0 dX5_show_13 rfl ?_
    refine ww_iload_n C0 dX5_show_14 rfl ?_
    refine ww_callVi C0 (qc := (RX5, TX5, 33)) 0 5 (c_X5_noMule l D cI cZ cQ hnm) kd_X5_noMule kw_X5_151 km_X5_noMule kl_X5_noMule ki_X5 hd_X5_noMule rfl rfl ⟨Nat.le_of_ble_eq_true rfl, Nat.le_of_ble_eq_true rfl, rfl, rfl⟩ (Nat.le_of_ble_eq_true rfl) dX5_show_15 rfl rfl rfl ⟨Nat.zero_le _, Nat.zero_le _⟩ ?_
    refine ww_bif_ne (tgt := 29) C0 dX5_show_18 (by decide) (fun h18 => ?_) (fun h18 => ?_)
    · skip
      exact absurd h18 (by rw [isN_nI (by omega) ho]; decide)
    · skip
      refine ww_aload_n C0 dX5_show_21 rfl ?_
      refine ww_iload_n C0 dX5_show_22 rfl ?_
      refine ww_callVi C0 (qc := (RX5, TX5, 33)) 0 5 (c_X5_noArticle l D cI cZ cQ hna) kd_X5_noArticle kw_X5_144 km_X5_noArticle kl_X5_noArticle ki_X5 hd_X5_noArticle rfl rfl ⟨Nat.le_of_ble_eq_true rfl, Nat.le_of_ble_eq_true rfl, rfl, rfl⟩ (Nat.le_of_ble_eq_true rfl) dX5_show_23 rfl rfl rfl ⟨Nat.zero_le _, Nat.zero_le _⟩ ?_
      refine ww_bif_eq (tgt := 31) C0 dX5_show_26 (by decide) (fun h26 => ?_) (fun h26 => ?_)
      · skip
        refine ww_iload_n C0 dX5_show_31 rfl ?_
        refine ww_iload_n C0 dX5_show_32 rfl ?_
        refine ww_icmp_ne (tgt := 39) C0 dX5_show_33 (by decide) (fun h33 => ?_) (fun h33 => ?_)
        · skip
          replace h33 := (not_congr (nI_eqE (a := k) (b := o) rfl rfl (by omega) (by omega))).mp h33
          exfalso; omega
        · skip
          replace h33 := (nI_eqE (a := k) (b := o) rfl rfl (by omega) (by omega)).mp h33
          refine ww_bipush (v := (-2)) C0 dX5_show_36 rfl ?_
          exact ww_iret C0 hr dX5_show_38 (by rfl) (by rfl)
      · skip
        exact absurd h26 (by rw [isN_nI (by omega) ha]; decide)

set_option maxHeartbeats 4000000 in
set_option maxRecDepth 100000 in
theorem c_X5_show_l (l : Launch) (D : va_G) (cI cZ cQ : ClassId) {aM amt amc amw ams amv amr amx amp amq amb amk amz am0 am1 am2 am3 am4 amh amo : Nat} {tn nm na ac gn : Nat} {th vpl vrm vra x0 x1 x2 x3 : Int32} {sd : Int64} {fmt fmc fmw fms fmv fmp : Nat → Int32} {rest : va_W} {k o a : Nat} (hnm : nm ≤ 5) (hna : na ≤ 5) (hk : k < nm) (ho : o < nm) (ha : a < na) (he : ¬ k = o) (hl : ¬ (fmp k = fmp o ∧ hbit (mKnown na (fmp (5 + o)) (fmp (10 + o))) (nI a) = true ∧ hbit (fmp (10 + k)) (nI a) = false)) : MI l D [(cI, .int), (cZ, .boolean), (cQ, .object "MulesRemember$State")] yX5_show cX5_show 4 .int ({ frames := 2, cells := 0, slots := 0, locals := 46 } : Room) [.ref aM, .int (nI k), .int (nI o), .int (nI a)] ((aM, .inr (5, [.int th, .ref amt, .int (nI tn), .int vpl, .int (nI nm), .ref amc, .int (nI na), .ref amw, .ref ams, .ref amv, .int vrm, .ref amr, .int vra, .ref amx, .ref amp, .ref amq, .ref amb, .int (nI ac), .ref amk, .ref amz, .int (nI gn), .ref am0, .ref am1, .ref am2, .ref am3, .ref am4, .long sd, .ref amh, .int x0, .int x1, .int x2, .int x3, .ref amo])) :: (amt, .inl (cI, 48, .inl (fmt))) :: (amc, .inl (cI, 5, .inl (fmc))) :: (amw, .inl (cI, 5, .inl (fmw))) :: (ams, .inl (cI, 5, .inl (fms))) :: (amv, .inl (cI, 5, .inl (fmv))) :: (amp, .inl (cI, 17, .inl (fmp))) :: rest) (-3) ((aM, .inr (5, [.int 0, .ref amt, .int (nI tn), .int vpl, .int (nI nm), .ref amc, .int (nI na), .ref amw, .ref ams, .ref amv, .int vrm, .ref amr, .int vra, .ref amx, .ref amp, .ref amq, .ref amb, .int (nI ac), .ref amk, .ref amz, .int (nI gn), .ref am0, .ref am1, .ref am2, .ref am3, .ref am4, .long sd, .ref amh, .int x0, .int x1, .int x2, .int x3, .ref amo])) :: (amt, .inl (cI, 48, .inl (fmt))) :: (amc, .inl (cI, 5, .inl (fmc))) :: (amw, .inl (cI, 5, .inl (fmw))) :: (ams, .inl (cI, 5, .inl (fms))) :: (amv, .inl (cI, 5, .inl (fmv))) :: (amp, .inl (cI, 17, .inl (fmp))) :: rest) := by
  refine MI.of [.ref aM, .int (nI k), .int (nI o), .int (nI a)] (by decide) (Nat.le_of_ble_eq_true rfl) rfl ?_
  intro p e s m below meth c A C0 hr
  refine ww_aload_n C0 dX5_show_0 rfl ?_
  refine ww_iconst (v := (0)) C0 dX5_show_1 rfl ?_
  refine ww_put C0 (ci := 5) (C := RX5) (T := TX5) (N := 33) ku_X5 0 rfl rfl 0 (by decide) tyX5 tyX5_ok nmX5 kw_X5_68 rfl (ty := .int) (by decide +kernel) rfl rfl (Nat.le_of_ble_eq_true rfl) dX5_show_2 ?_
  simp only [List.set_cons_zero, List.set_cons_succ]
  refine ww_aload_n C0 dX5_show_5 rfl ?_
  refine ww_iload_n C0 dX5_show_6 rfl ?_
  refine ww_callVi C0 (qc := (RX5, TX5, 33)) 0 5 (c_X5_noMule l D cI cZ cQ hnm) kd_X5_noMule kw_X5_151 km_X5_noMule kl_X5_noMule ki_X5 hd_X5_noMule rfl rfl ⟨Nat.le_of_ble_eq_true rfl, Nat.le_of_ble_eq_true rfl, rfl, rfl⟩ (Nat.le_of_ble_eq_true rfl) dX5_show_7 rfl rfl rfl ⟨Nat.zero_le _, Nat.zero_le _⟩ ?_
  refine ww_bif_ne (tgt := 29) C0 dX5_show_10 (by decide) (fun h10 => ?_) (fun h10 => ?_)
  · skip
    exact absurd h10 (by rw [isN_nI (by omega) hk]; decide)
  · skip
    refine ww_aload_n C0 dX5_show_13 rfl ?_
    refine ww_iload_n C0 dX5_show_14 rfl ?_
    refine ww_callVi C0 (qc := (RX5, TX5, 33)) 0 5 (c_X5_noMule l D cI cZ cQ hnm) kd_X5_noMule kw_X5_151 km_X5_noMule kl_X5_noMule ki_X5 hd_X5_noMule rfl rfl ⟨Nat.le_of_ble_eq_true rfl, Nat.le_of_ble_eq_true rfl, rfl, rfl⟩ (Nat.le_of_ble_eq_true rfl) dX5_show_15 rfl rfl rfl ⟨Nat.zero_le _, Nat.zero_le _⟩ ?_
    refine ww_bif_ne (tgt := 29) C0 dX5_show_18 (by decide) (fun h18 => ?_) (fun h18 => ?_)
    · skip
      exact absurd h18 (by rw [isN_nI (by omega) ho]; decide)
    · skip
      refine ww_aload_n C0 dX5_show_21 rfl ?_
      refine ww_iload_n C0 dX5_show_22 rfl ?_
      refine ww_callVi C0 (qc := (RX5, TX5, 33)) 0 5 (c_X5_noArticle l D cI cZ cQ hna) kd_X5_noArticle kw_X5_144 km_X5_noArticle kl_X5_noArticle ki_X5 hd_X5_noArticle rfl rfl ⟨Nat.le_of_ble_eq_true rfl, Nat.le_of_ble_eq_true rfl, rfl, rfl⟩ (Nat.le_of_ble_eq_true rfl) dX5_show_23 rfl rfl rfl ⟨Nat.zero_le _, Nat.zero_le _⟩ ?_
      refine ww_bif_eq (tgt := 31) C0 dX5_show_26 (by decide) (fun h26 => ?_) (fun h26 => ?_)
      · skip
        refine ww_iload_n C0 dX5_show_31 rfl ?_
        refine ww_iload_n C0 dX5_show_32 rfl ?_
        refine ww_icmp_ne (tgt := 39) C0 dX5_show_33 (by decide) (fun h33 => ?_) (fun h33 => ?_)
        · skip
          replace h33 := (not_congr (nI_eqE (a := k) (b := o) rfl rfl (by omega) (by omega))).mp h33
          refine ww_aload_n C0 dX5_show_39 rfl ?_
          refine ww_get C0 (ci := 5) (C := RX5) (T := TX5) (N := 33) ku_X5 0 rfl rfl 14 (by decide) kw_X5_31 rfl dX5_show_40 ?_
          refine ww_iconst (v := (0)) C0 dX5_show_43 rfl ?_
          refine ww_iload_n C0 dX5_show_44 rfl ?_
          refine ww_iadd C0 dX5_show_45 ?_
          refine ww_iald_n (j := k) C0 6 0 rfl rfl (by rw [show (0 : Int32) + nI k = nI (0 + k) from nI_add 0 k, Nat.zero_add]) (by omega) (by decide) dX5_show_46 ?_
          refine ww_aload_n C0 dX5_show_47 rfl ?_
          refine ww_get C0 (ci := 5) (C := RX5) (T := TX5) (N := 33) ku_X5 0 rfl rfl 14 (by decide) kw_X5_31 rfl dX5_show_48 ?_
          refine ww_iconst (v := (0)) C0 dX5_show_51 rfl ?_
          refine ww_iload_n C0 dX5_show_52 rfl ?_
          refine ww_iadd C0 dX5_show_53 ?_
          refine ww_iald_n (j := o) C0 6 0 rfl rfl (by rw [show (0 : Int32) + nI o = nI (0 + o) from nI_add 0 o, Nat.zero_add]) (by omega) (by decide) dX5_show_54 ?_
          refine ww_icmp_ne (tgt := 90) C0 dX5_show_55 (by decide) (fun h55 => ?_) (fun h55 => ?_)
          · skip
            refine ww_bipush (v := (-3)) C0 dX5_show_90 rfl ?_
            exact ww_iret C0 hr dX5_show_92 (by rfl) (by rfl)
          · skip
            refine ww_aload_n C0 dX5_show_58 rfl ?_
            refine ww_aload_n C0 dX5_show_59 rfl ?_
            refine ww_get C0 (ci := 5) (C := RX5) (T := TX5) (N := 33) ku_X5 0 rfl rfl 14 (by decide) kw_X5_31 rfl dX5_show_60 ?_
            refine ww_iload_n C0 dX5_show_63 rfl ?_
            refine ww_callVi C0 (qc := (RX5, TX5, 33)) 0 5 (c_X5_knows l D cI cZ cQ hnm hna ho) kd_X5_knows kw_X5_133 km_X5_knows kl_X5_knows ki_X5 hd_X5_knows rfl rfl ⟨Nat.le_of_ble_eq_true rfl, Nat.le_of_ble_eq_true rfl, rfl, rfl⟩ (Nat.le_of_ble_eq_true rfl) dX5_show_64 rfl rfl rfl ⟨Nat.zero_le _, Nat.zero_le _⟩ ?_
            refine ww_iload_n C0 dX5_show_67 rfl ?_
            refine ww_callSi C0 (c_X5_has l D cI cZ cQ) kd_X5_has kw_X5_140 ks_X5_has ki_X5 hd_X5_has ⟨Nat.le_of_ble_eq_true rfl, Nat.le_of_ble_eq_true rfl, rfl, rfl⟩ (Nat.le_of_ble_eq_true rfl) dX5_show_68 rfl rfl ⟨Nat.zero_le _, Nat.zero_le _⟩ ?_
            refine ww_bif_eq (tgt := 90) C0 dX5_show_71 (by decide) (fun h71 => ?_) (fun h71 => ?_)
            · skip
              refine ww_bipush (v := (-3)) C0 dX5_show_90 rfl ?_
              exact ww_iret C0 hr dX5_show_92 (by rfl) (by rfl)
            · skip
              refine ww_aload_n C0 dX5_show_74 rfl ?_
              refine ww_get C0 (ci := 5) (C := RX5) (T := TX5) (N := 33) ku_X5 0 rfl rfl 14 (by decide) kw_X5_31 rfl dX5_show_75 ?_
              refine ww_bipush (v := (10)) C0 dX5_show_78 rfl ?_
              refine ww_iload_n C0 dX5_show_80 rfl ?_
              refine ww_iadd C0 dX5_show_81 ?_
              refine ww_iald_n (j := 10 + k) C0 6 0 rfl rfl (nI_addE (a := 10) (b := k) rfl rfl) (by omega) (by decide) dX5_show_82 ?_
              refine ww_iload_n C0 dX5_show_83 rfl ?_
              refine ww_callSi C0 (c_X5_has l D cI cZ cQ) kd_X5_has kw_X5_140 ks_X5_has ki_X5 hd_X5_has ⟨Nat.le_of_ble_eq_true rfl, Nat.le_of_ble_eq_true rfl, rfl, rfl⟩ (Nat.le_of_ble_eq_true rfl) dX5_show_84 rfl rfl ⟨Nat.zero_le _, Nat.zero_le _⟩ ?_
              refine ww_bif_eq (tgt := 93) C0 dX5_show_87 (by decide) (fun h87 => ?_) (fun h87 => ?_)
              · skip
                exact absurd ⟨h55, h71, h87⟩ hl
              · skip
                refine ww_bipush (v := (-3)) C0 dX5_show_90 rfl ?_
                exact ww_iret C0 hr dX5_show_92 (by rfl) (by rfl)
        · skip
          replace h33 := (nI_eqE (a := k) (b := o) rfl rfl (by omega) (by omega)).mp h33
          exfalso; omega
      · skip
        exact absurd h26 (by rw [isN_nI (by omega) ha]; decide)

set_option maxHeartbeats 4000000 in
set_option maxRecDepth 100000 in
theorem c_X5_show (l : Launch) (D : va_G) (cI cZ cQ : ClassId) {aM amt amc amw ams amv amr amx amp amq amb amk amz am0 am1 am2 am3 am4 amh amo : Nat} {tn nm na ac gn : Nat} {th vpl vrm vra x0 x1 x2 x3 : Int32} {sd : Int64} {fmt fmc fmw fms fmv fmp fmq fmr fmx fmb : Nat → Int32} {rest : va_W} {k o a : Nat} (hnm : nm ≤ 5) (hna : na ≤ 5) (hk : k < nm) (ho : o < nm) (ha : a < na) (hac : ac ≤ 14) (he : ¬ k = o) (hl : (fmp k = fmp o ∧ hbit (mKnown na (fmp (5 + o)) (fmp (10 + o))) (nI a) = true ∧ hbit (fmp (10 + k)) (nI a) = false)) : MI l D [(cI, .int), (cZ, .boolean), (cQ, .object "MulesRemember$State")] yX5_show cX5_show 4 .int ({ frames := 2, cells := 0, slots := 0, locals := 46 } : Room) [.ref aM, .int (nI k), .int (nI o), .int (nI a)] ((aM, .inr (5, [.int th, .ref amt, .int (nI tn), .int vpl, .int (nI nm), .ref amc, .int (nI na), .ref amw, .ref ams, .ref amv, .int vrm, .ref amr, .int vra, .ref amx, .ref amp, .ref amq, .ref amb, .int (nI ac), .ref amk, .ref amz, .int (nI gn), .ref am0, .ref am1, .ref am2, .ref am3, .ref am4, .long sd, .ref amh, .int x0, .int x1, .int x2, .int x3, .ref amo])) :: (amt, .inl (cI, 48, .inl (fmt))) :: (amc, .inl (cI, 5, .inl (fmc))) :: (amw, .inl (cI, 5, .inl (fmw))) :: (ams, .inl (cI, 5, .inl (fms))) :: (amv, .inl (cI, 5, .inl (fmv))) :: (amp, .inl (cI, 17, .inl (fmp))) :: (amq, .inl (cI, 17, .inl (fmq))) :: (amr, .inl (cI, 15, .inl (fmr))) :: (amx, .inl (cI, 15, .inl (fmx))) :: (amb, .inl (cI, 238, .inl (fmb))) :: rest) (sMn (fmp (10 + k) ||| ((1 : Int32) <<< (nI a &&& 31)))) ((aM, .inr (5, [.int 0, .ref amt, .int (nI tn), .int vpl, .int (nI nm), .ref amc, .int (nI na), .ref amw, .ref ams, .ref amv, .int vrm, .ref amr, .int vra, .ref amx, .ref amp, .ref amq, .ref amb, .int (nI (ra ac)), .ref amk, .ref amz, .int (nI gn), .ref am0, .ref am1, .ref am2, .ref am3, .ref am4, .long sd, .ref amh, .int x0, .int x1, .int x2, .int x3, .ref amo])) :: (amt, .inl (cI, 48, .inl (fmt))) :: (amc, .inl (cI, 5, .inl (fmc))) :: (amw, .inl (cI, 5, .inl (fmw))) :: (ams, .inl (cI, 5, .inl (fms))) :: (amv, .inl (cI, 5, .inl (fmv))) :: (amp, .inl (cI, 17, .inl (upd fmp (10 + k) (fmp (10 + k) ||| ((1 : Int32) <<< (nI a &&& 31)))))) :: (amq, .inl (cI, 17, .inl (fmq))) :: (amr, .inl (cI, 15, .inl (fmr))) :: (amx, .inl (cI, 15, .inl (fmx))) :: (amb, .inl (cI, 238, .inl (mBook fmb fmp ac))) :: rest) := by
  refine MI.of [.ref aM, .int (nI k), .int (nI o), .int (nI a)] (by decide) (Nat.le_of_ble_eq_true rfl) rfl ?_
  intro p e s m below meth c A C0 hr
  refine ww_aload_n C0 dX5_show_0 rfl ?_
  refine ww_iconst (v := (0)) C0 dX5_show_1 rfl ?_
  refine ww_put C0 (ci := 5) (C := RX5) (T := TX5) (N := 33) ku_X5 0 rfl rfl 0 (by decide) tyX5 tyX5_ok nmX5 kw_X5_68 rfl (ty := .int) (by decide +kernel) rfl rfl (Nat.le_of_ble_eq_true rfl) dX5_show_2 ?_
  simp only [List.set_cons_zero, List.set_cons_succ]
  refine ww_aload_n C0 dX5_show_5 rfl ?_
  refine ww_iload_n C0 dX5_show_6 rfl ?_
  refine ww_callVi C0 (qc := (RX5, TX5, 33)) 0 5 (c_X5_noMule l D cI cZ cQ hnm) kd_X5_noMule kw_X5_151 km_X5_noMule kl_X5_noMule ki_X5 hd_X5_noMule rfl rfl ⟨Nat.le_of_ble_eq_true rfl, Nat.le_of_ble_eq_true rfl, rfl, rfl⟩ (Nat.le_of_ble_eq_true rfl) dX5_show_7 rfl rfl rfl ⟨Nat.zero_le _, Nat.zero_le _⟩ ?_
  refine ww_bif_ne (tgt := 29) C0 dX5_show_10 (by decide) (fun h10 => ?_) (fun h10 => ?_)
  · skip
    exact absurd h10 (by rw [isN_nI (by omega) hk]; decide)
  · skip
    refine ww_aload_n C0 dX5_show_13 rfl ?_
    refine ww_iload_n C0 dX5_show_14 rfl ?_
    refine ww_callVi C0 (qc := (RX5, TX5, 33)) 0 5 (c_X5_noMule l D cI cZ cQ hnm) kd_X5_noMule kw_X5_151 km_X5_noMule kl_X5_noMule ki_X5 hd_X5_noMule rfl rfl ⟨Nat.le_of_ble_eq_true rfl, Nat.le_of_ble_eq_true rfl, rfl, rfl⟩ (Nat.le_of_ble_eq_true rfl) dX5_show_15 rfl rfl rfl ⟨Nat.zero_le _, Nat.zero_le _⟩ ?_
    refine ww_bif_ne (tgt := 29) C0 dX5_show_18 (by decide) (fun h18 => ?_) (fun h18 => ?_)
    · skip
      exact absurd h18 (by rw [isN_nI (by omega) ho]; decide)
    · skip
      refine ww_aload_n C0 dX5_show_21 rfl ?_
      refine ww_iload_n C0 dX5_show_22 rfl ?_
      refine ww_callVi C0 (qc := (RX5, TX5, 33)) 0 5 (c_X5_noArticle l D cI cZ cQ hna) kd_X5_noArticle kw_X5_144 km_X5_noArticle kl_X5_noArticle ki_X5 hd_X5_noArticle rfl rfl ⟨Nat.le_of_ble_eq_true rfl, Nat.le_of_ble_eq_true rfl, rfl, rfl⟩ (Nat.le_of_ble_eq_true rfl) dX5_show_23 rfl rfl rfl ⟨Nat.zero_le _, Nat.zero_le _⟩ ?_
      refine ww_bif_eq (tgt := 31) C0 dX5_show_26 (by decide) (fun h26 => ?_) (fun h26 => ?_)
      · skip
        refine ww_iload_n C0 dX5_show_31 rfl ?_
        refine ww_iload_n C0 dX5_show_32 rfl ?_
        refine ww_icmp_ne (tgt := 39) C0 dX5_show_33 (by decide) (fun h33 => ?_) (fun h33 => ?_)
        · skip
          replace h33 := (not_congr (nI_eqE (a := k) (b := o) rfl rfl (by omega) (by omega))).mp h33
          refine ww_aload_n C0 dX5_show_39 rfl ?_
          refine ww_get C0 (ci := 5) (C := RX5) (T := TX5) (N := 33) ku_X5 0 rfl rfl 14 (by decide) kw_X5_31 rfl dX5_show_40 ?_
          refine ww_iconst (v := (0)) C0 dX5_show_43 rfl ?_
          refine ww_iload_n C0 dX5_show_44 rfl ?_
          refine ww_iadd C0 dX5_show_45 ?_
          refine ww_iald_n (j := k) C0 6 0 rfl rfl (by rw [show (0 : Int32) + nI k = nI (0 + k) from nI_add 0 k, Nat.zero_add]) (by omega) (by decide) dX5_show_46 ?_
          refine ww_aload_n C0 dX5_show_47 rfl ?_
          refine ww_get C0 (ci := 5) (C := RX5) (T := TX5) (N := 33) ku_X5 0 rfl rfl 14 (by decide) kw_X5_31 rfl dX5_show_48 ?_
          refine ww_iconst (v := (0)) C0 dX5_show_51 rfl ?_
          refine ww_iload_n C0 dX5_show_52 rfl ?_
          refine ww_iadd C0 dX5_show_53 ?_
          refine ww_iald_n (j := o) C0 6 0 rfl rfl (by rw [show (0 : Int32) + nI o = nI (0 + o) from nI_add 0 o, Nat.zero_add]) (by omega) (by decide) dX5_show_54 ?_
          refine ww_icmp_ne (tgt := 90) C0 dX5_show_55 (by decide) (fun h55 => ?_) (fun h55 => ?_)
          · skip
            exact absurd hl.1 h55
          · skip
            refine ww_aload_n C0 dX5_show_58 rfl ?_
            refine ww_aload_n C0 dX5_show_59 rfl ?_
            refine ww_get C0 (ci := 5) (C := RX5) (T := TX5) (N := 33) ku_X5 0 rfl rfl 14 (by decide) kw_X5_31 rfl dX5_show_60 ?_
            refine ww_iload_n C0 dX5_show_63 rfl ?_
            refine ww_callVi C0 (qc := (RX5, TX5, 33)) 0 5 (c_X5_knows l D cI cZ cQ hnm hna ho) kd_X5_knows kw_X5_133 km_X5_knows kl_X5_knows ki_X5 hd_X5_knows rfl rfl ⟨Nat.le_of_ble_eq_true rfl, Nat.le_of_ble_eq_true rfl, rfl, rfl⟩ (Nat.le_of_ble_eq_true rfl) dX5_show_64 rfl rfl rfl ⟨Nat.zero_le _, Nat.zero_le _⟩ ?_
            refine ww_iload_n C0 dX5_show_67 rfl ?_
            refine ww_callSi C0 (c_X5_has l D cI cZ cQ) kd_X5_has kw_X5_140 ks_X5_has ki_X5 hd_X5_has ⟨Nat.le_of_ble_eq_true rfl, Nat.le_of_ble_eq_true rfl, rfl, rfl⟩ (Nat.le_of_ble_eq_true rfl) dX5_show_68 rfl rfl ⟨Nat.zero_le _, Nat.zero_le _⟩ ?_
            refine ww_bif_eq (tgt := 90) C0 dX5_show_71 (by decide) (fun h71 => ?_) (fun h71 => ?_)
            · skip
              exact absurd hl.2.1 (by rw [h71]; decide)
            · skip
              refine ww_aload_n C0 dX5_show_74 rfl ?_
              refine ww_get C0 (ci := 5) (C := RX5) (T := TX5) (N := 33) ku_X5 0 rfl rfl 14 (by decide) kw_X5_31 rfl dX5_show_75 ?_
              refine ww_bipush (v := (10)) C0 dX5_show_78 rfl ?_
              refine ww_iload_n C0 dX5_show_80 rfl ?_
              refine ww_iadd C0 dX5_show_81 ?_
              refine ww_iald_n (j := 10 + k) C0 6 0 rfl rfl (nI_addE (a := 10) (b := k) rfl rfl) (by omega) (by decide) dX5_show_82 ?_
              refine ww_iload_n C0 dX5_show_83 rfl ?_
              refine ww_callSi C0 (c_X5_has l D cI cZ cQ) kd_X5_has kw_X5_140 ks_X5_has ki_X5 hd_X5_has ⟨Nat.le_of_ble_eq_true rfl, Nat.le_of_ble_eq_true rfl, rfl, rfl⟩ (Nat.le_of_ble_eq_true rfl) dX5_show_84 rfl rfl ⟨Nat.zero_le _, Nat.zero_le _⟩ ?_
              refine ww_bif_eq (tgt := 93) C0 dX5_show_87 (by decide) (fun h87 => ?_) (fun h87 => ?_)
              · skip
                refine ww_aload_n C0 dX5_show_93 rfl ?_
                refine ww_callVv C0 (qc := (RX5, TX5, 33)) 0 5 (c_X5_note l D cI cZ cQ hac) kd_X5_note kw_X5_168 km_X5_note kl_X5_note ki_X5 hd_X5_note rfl rfl ⟨Nat.le_of_ble_eq_true rfl, Nat.le_of_ble_eq_true rfl, rfl, rfl⟩ (Nat.le_of_ble_eq_true rfl) dX5_show_94 rfl rfl rfl ⟨Nat.zero_le _, Nat.zero_le _⟩ ?_
                refine ww_aload_n C0 dX5_show_97 rfl ?_
                refine ww_get C0 (ci := 5) (C := RX5) (T := TX5) (N := 33) ku_X5 0 rfl rfl 14 (by decide) kw_X5_31 rfl dX5_show_98 ?_
                refine ww_bipush (v := (10)) C0 dX5_show_101 rfl ?_
                refine ww_iload_n C0 dX5_show_103 rfl ?_
                refine ww_iadd C0 dX5_show_104 ?_
                refine ww_dup2 C0 dX5_show_105 rfl rfl ?_
                refine ww_iald_n (j := 10 + k) C0 6 0 rfl rfl (nI_addE (a := 10) (b := k) rfl rfl) (by omega) (by decide) dX5_show_106 ?_
                refine ww_iconst (v := (1)) C0 dX5_show_107 rfl ?_
                refine ww_iload_n C0 dX5_show_108 rfl ?_
                refine ww_ishl C0 dX5_show_109 ?_
                refine ww_ior C0 dX5_show_110 ?_
                refine ww_iast_n (j := 10 + k) C0 6 0 rfl rfl (nI_addE (a := 10) (b := k) rfl rfl) (by omega) (by decide) dX5_show_111 ?_
                simp only [List.set_cons_zero, List.set_cons_succ]
                refine ww_aload_n C0 dX5_show_112 rfl ?_
                refine ww_get C0 (ci := 5) (C := RX5) (T := TX5) (N := 33) ku_X5 0 rfl rfl 14 (by decide) kw_X5_31 rfl dX5_show_113 ?_
                refine ww_bipush (v := (10)) C0 dX5_show_116 rfl ?_
                refine ww_iload_n C0 dX5_show_118 rfl ?_
                refine ww_iadd C0 dX5_show_119 ?_
                refine ww_iald_n (j := 10 + k) C0 6 0 rfl rfl (nI_addE (a := 10) (b := k) rfl rfl) (by omega) (by decide) dX5_show_120 ?_
                refine ww_callSi C0 (c_X5_many l D cI cZ cQ) kd_X5_many kw_X5_161 ks_X5_many ki_X5 hd_X5_many ⟨Nat.le_of_ble_eq_true rfl, Nat.le_of_ble_eq_true rfl, rfl, rfl⟩ (Nat.le_of_ble_eq_true rfl) dX5_show_121 rfl rfl ⟨Nat.zero_le _, Nat.zero_le _⟩ ?_
                exact ww_iret C0 hr dX5_show_124 (by simp [upd]) (by rfl)
              · skip
                exact absurd hl.2.2 (by rw [h87]; decide)
        · skip
          replace h33 := (nI_eqE (a := k) (b := o) rfl rfl (by omega) (by omega)).mp h33
          exfalso; omega
      · skip
        exact absurd h26 (by rw [isN_nI (by omega) ha]; decide)

set_option maxHeartbeats 4000000 in
set_option maxRecDepth 100000 in
theorem c_X5_sell_b (l : Launch) (D : va_G) (cI cZ cQ : ClassId) {aM amt amc amw ams amv amr amx amp amq amb amk amz am0 am1 am2 am3 am4 amh amo : Nat} {tn nm na ac gn : Nat} {th vpl vrm vra x0 x1 x2 x3 : Int32} {sd : Int64} {rest : va_W} {m : Int32} (hnm : nm ≤ 5) (hm : isN nm m = false) : MI l D [(cI, .int), (cZ, .boolean), (cQ, .object "MulesRemember$State")] yX5_sell cX5_sell 3 .int ({ frames := 2, cells := 0, slots := 0, locals := 46 } : Room) [.ref aM, .int m] ((aM, .inr (5, [.int th, .ref amt, .int (nI tn), .int vpl, .int (nI nm), .ref amc, .int (nI na), .ref amw, .ref ams, .ref amv, .int vrm, .ref amr, .int vra, .ref amx, .ref amp, .ref amq, .ref amb, .int (nI ac), .ref amk, .ref amz, .int (nI gn), .ref am0, .ref am1, .ref am2, .ref am3, .ref am4, .long sd, .ref amh, .int x0, .int x1, .int x2, .int x3, .ref amo])) :: rest) (-1) ((aM, .inr (5, [.int 0, .ref amt, .int (nI tn), .int vpl, .int (nI nm), .ref amc, .int (nI na), .ref amw, .ref ams, .ref amv, .int vrm, .ref amr, .int vra, .ref amx, .ref amp, .ref amq, .ref amb, .int (nI ac), .ref amk, .ref amz, .int (nI gn), .ref am0, .ref am1, .ref am2, .ref am3, .ref am4, .long sd, .ref amh, .int x0, .int x1, .int x2, .int x3, .ref amo])) :: rest) := by
  refine MI.of [.ref aM, .int m, .null] (by decide) (Nat.le_of_ble_eq_true rfl) rfl ?_
  intro p e s m below meth c A C0 hr
  refine ww_aload_n C0 dX5_sell_0 rfl ?_
  refine ww_iconst (v := (0)) C0 dX5_sell_1 rfl ?_
  refine ww_put C0 (ci := 5) (C := RX5) (T := TX5) (N := 33) ku_X5 0 rfl rfl 0 (by decide) tyX5 tyX5_ok nmX5 kw_X5_68 rfl (ty := .int) (by decide +kernel) rfl rfl (Nat.le_of_ble_eq_true rfl) dX5_sell_2 ?_
  simp only [List.set_cons_zero, List.set_cons_succ]
  refine ww_aload_n C0 dX5_sell_5 rfl ?_
  refine ww_iload_n C0 dX5_sell_6 rfl ?_
  refine ww_callVi C0 (qc := (RX5, TX5, 33)) 0 5 (c_X5_noMule l D cI cZ cQ hnm) kd_X5_noMule kw_X5_151 km_X5_noMule kl_X5_noMule ki_X5 hd_X5_noMule rfl rfl ⟨Nat.le_of_ble_eq_true rfl, Nat.le_of_ble_eq_true rfl, rfl, rfl⟩ (Nat.le_of_ble_eq_true rfl) dX5_sell_7 rfl rfl rfl ⟨Nat.zero_le _, Nat.zero_le _⟩ ?_
  refine ww_bif_eq (tgt := 15) C0 dX5_sell_10 (by decide) (fun h10 => ?_) (fun h10 => ?_)
  · skip
    exact absurd h10 (by rw [hm]; decide)
  · skip
    refine ww_iconst (v := (-1)) C0 dX5_sell_13 rfl ?_
    exact ww_iret C0 hr dX5_sell_14 (by rfl) (by rfl)

set_option maxHeartbeats 4000000 in
set_option maxRecDepth 100000 in
theorem c_X5_sell_l (l : Launch) (D : va_G) (cI cZ cQ : ClassId) {aM amt amc amw ams amv amr amx amp amq amb amk amz am0 am1 am2 am3 am4 amh amo : Nat} {tn nm na ac gn : Nat} {th vpl vrm vra x0 x1 x2 x3 : Int32} {sd : Int64} {fmt fmc fmw fms fmv fmp : Nat → Int32} {rest : va_W} {k : Nat} (hnm : nm ≤ 5) (hna : na ≤ 5) (hk : k < nm) (hl : fmp (5 + k) = 3) : MI l D [(cI, .int), (cZ, .boolean), (cQ, .object "MulesRemember$State")] yX5_sell cX5_sell 3 .int ({ frames := 2, cells := 0, slots := 0, locals := 46 } : Room) [.ref aM, .int (nI k)] ((aM, .inr (5, [.int th, .ref amt, .int (nI tn), .int vpl, .int (nI nm), .ref amc, .int (nI na), .ref amw, .ref ams, .ref amv, .int vrm, .ref amr, .int vra, .ref amx, .ref amp, .ref amq, .ref amb, .int (nI ac), .ref amk, .ref amz, .int (nI gn), .ref am0, .ref am1, .ref am2, .ref am3, .ref am4, .long sd, .ref amh, .int x0, .int x1, .int x2, .int x3, .ref amo])) :: (amt, .inl (cI, 48, .inl (fmt))) :: (amc, .inl (cI, 5, .inl (fmc))) :: (amw, .inl (cI, 5, .inl (fmw))) :: (ams, .inl (cI, 5, .inl (fms))) :: (amv, .inl (cI, 5, .inl (fmv))) :: (amp, .inl (cI, 17, .inl (fmp))) :: rest) (-3) ((aM, .inr (5, [.int 0, .ref amt, .int (nI tn), .int vpl, .int (nI nm), .ref amc, .int (nI na), .ref amw, .ref ams, .ref amv, .int vrm, .ref amr, .int vra, .ref amx, .ref amp, .ref amq, .ref amb, .int (nI ac), .ref amk, .ref amz, .int (nI gn), .ref am0, .ref am1, .ref am2, .ref am3, .ref am4, .long sd, .ref amh, .int x0, .int x1, .int x2, .int x3, .ref amo])) :: (amt, .inl (cI, 48, .inl (fmt))) :: (amc, .inl (cI, 5, .inl (fmc))) :: (amw, .inl (cI, 5, .inl (fmw))) :: (ams, .inl (cI, 5, .inl (fms))) :: (amv, .inl (cI, 5, .inl (fmv))) :: (amp, .inl (cI, 17, .inl (fmp))) :: rest) := by
  refine MI.of [.ref aM, .int (nI k), .null] (by decide) (Nat.le_of_ble_eq_true rfl) rfl ?_
  intro p e s m below meth c A C0 hr
  refine ww_aload_n C0 dX5_sell_0 rfl ?_
  refine ww_iconst (v := (0)) C0 dX5_sell_1 rfl ?_
  refine ww_put C0 (ci := 5) (C := RX5) (T := TX5) (N := 33) ku_X5 0 rfl rfl 0 (by decide) tyX5 tyX5_ok nmX5 kw_X5_68 rfl (ty := .int) (by decide +kernel) rfl rfl (Nat.le_of_ble_eq_true rfl) dX5_sell_2 ?_
  simp only [List.set_cons_zero, List.set_cons_succ]
  refine ww_aload_n C0 dX5_sell_5 rfl ?_
  refine ww_iload_n C0 dX5_sell_6 rfl ?_
  refine ww_callVi C0 (qc := (RX5, TX5, 33)) 0 5 (c_X5_noMule l D cI cZ cQ hnm) kd_X5_noMule kw_X5_151 km_X5_noMule kl_X5_noMule ki_X5 hd_X5_noMule rfl rfl ⟨Nat.le_of_ble_eq_true rfl, Nat.le_of_ble_eq_true rfl, rfl, rfl⟩ (Nat.le_of_ble_eq_true rfl) dX5_sell_7 rfl rfl rfl ⟨Nat.zero_le _, Nat.zero_le _⟩ ?_
  refine ww_bif_eq (tgt := 15) C0 dX5_sell_10 (by decide) (fun h10 => ?_) (fun h10 => ?_)
  · skip
    refine ww_aload_n C0 dX5_sell_15 rfl ?_
    refine ww_get C0 (ci := 5) (C := RX5) (T := TX5) (N := 33) ku_X5 0 rfl rfl 14 (by decide) kw_X5_31 rfl dX5_sell_16 ?_
    refine ww_iconst (v := (5)) C0 dX5_sell_19 rfl ?_
    refine ww_iload_n C0 dX5_sell_20 rfl ?_
    refine ww_iadd C0 dX5_sell_21 ?_
    refine ww_iald_n (j := 5 + k) C0 6 0 rfl rfl (nI_addE (a := 5) (b := k) rfl rfl) (by omega) (by decide) dX5_sell_22 ?_
    refine ww_istore_n (i := 2) C0 dX5_sell_23 rfl (Nat.le_of_ble_eq_true rfl) rfl ?_
    simp only [List.set_cons_zero, List.set_cons_succ]
    refine ww_iload_n C0 dX5_sell_24 rfl ?_
    refine ww_iconst (v := (3)) C0 dX5_sell_25 rfl ?_
    refine ww_icmp_ne (tgt := 32) C0 dX5_sell_26 (by decide) (fun h26 => ?_) (fun h26 => ?_)
    · skip
      exact absurd hl h26
    · skip
      refine ww_bipush (v := (-3)) C0 dX5_sell_29 rfl ?_
      exact ww_iret C0 hr dX5_sell_31 (by rfl) (by rfl)
  · skip
    exact absurd h10 (by rw [isN_nI (by omega) hk]; decide)

set_option maxHeartbeats 4000000 in
set_option maxRecDepth 100000 in
theorem c_X5_sell (l : Launch) (D : va_G) (cI cZ cQ : ClassId) {aM amt amc amw ams amv amr amx amp amq amb amk amz am0 am1 am2 am3 am4 amh amo : Nat} {tn nm na ac gn : Nat} {th vpl vrm vra x0 x1 x2 x3 : Int32} {sd : Int64} {fmt fmc fmw fms fmv fmp fmq fmr fmx fmb : Nat → Int32} {rest : va_W} {k : Nat} (hnm : nm ≤ 5) (hna : na ≤ 5) (hk : k < nm) (hac : ac ≤ 14) (hl : ¬ fmp (5 + k) = 3) : MI l D [(cI, .int), (cZ, .boolean), (cQ, .object "MulesRemember$State")] yX5_sell cX5_sell 3 .int ({ frames := 2, cells := 0, slots := 0, locals := 46 } : Room) [.ref aM, .int (nI k)] ((aM, .inr (5, [.int th, .ref amt, .int (nI tn), .int vpl, .int (nI nm), .ref amc, .int (nI na), .ref amw, .ref ams, .ref amv, .int vrm, .ref amr, .int vra, .ref amx, .ref amp, .ref amq, .ref amb, .int (nI ac), .ref amk, .ref amz, .int (nI gn), .ref am0, .ref am1, .ref am2, .ref am3, .ref am4, .long sd, .ref amh, .int x0, .int x1, .int x2, .int x3, .ref amo])) :: (amt, .inl (cI, 48, .inl (fmt))) :: (amc, .inl (cI, 5, .inl (fmc))) :: (amw, .inl (cI, 5, .inl (fmw))) :: (ams, .inl (cI, 5, .inl (fms))) :: (amv, .inl (cI, 5, .inl (fmv))) :: (amp, .inl (cI, 17, .inl (fmp))) :: (amq, .inl (cI, 17, .inl (fmq))) :: (amr, .inl (cI, 15, .inl (fmr))) :: (amx, .inl (cI, 15, .inl (fmx))) :: (amb, .inl (cI, 238, .inl (fmb))) :: rest) (fmp (5 + k)) ((aM, .inr (5, [.int 0, .ref amt, .int (nI tn), .int vpl, .int (nI nm), .ref amc, .int (nI na), .ref amw, .ref ams, .ref amv, .int vrm, .ref amr, .int vra, .ref amx, .ref amp, .ref amq, .ref amb, .int (nI (ra ac)), .ref amk, .ref amz, .int (nI gn), .ref am0, .ref am1, .ref am2, .ref am3, .ref am4, .long sd, .ref amh, .int x0, .int x1, .int x2, .int x3, .ref amo])) :: (amt, .inl (cI, 48, .inl (fmt))) :: (amc, .inl (cI, 5, .inl (fmc))) :: (amw, .inl (cI, 5, .inl (fmw))) :: (ams, .inl (cI, 5, .inl (fms))) :: (amv, .inl (cI, 5, .inl (fmv))) :: (amp, .inl (cI, 17, .inl (upd fmp (5 + k) 3))) :: (amq, .inl (cI, 17, .inl (fmq))) :: (amr, .inl (cI, 15, .inl (fmr))) :: (amx, .inl (cI, 15, .inl (fmx))) :: (amb, .inl (cI, 238, .inl (mBook fmb fmp ac))) :: rest) := by
  refine MI.of [.ref aM, .int (nI k), .null] (by decide) (Nat.le_of_ble_eq_true rfl) rfl ?_
  intro p e s m below meth c A C0 hr
  refine ww_aload_n C0 dX5_sell_0 rfl ?_
  refine ww_iconst (v := (0)) C0 dX5_sell_1 rfl ?_
  refine ww_put C0 (ci := 5) (C := RX5) (T := TX5) (N := 33) ku_X5 0 rfl rfl 0 (by decide) tyX5 tyX5_ok nmX5 kw_X5_68 rfl (ty := .int) (by decide +kernel) rfl rfl (Nat.le_of_ble_eq_true rfl) dX5_sell_2 ?_
  simp only [List.set_cons_zero, List.set_cons_succ]
  refine ww_aload_n C0 dX5_sell_5 rfl ?_
  refine ww_iload_n C0 dX5_sell_6 rfl ?_
  refine ww_callVi C0 (qc := (RX5, TX5, 33)) 0 5 (c_X5_noMule l D cI cZ cQ hnm) kd_X5_noMule kw_X5_151 km_X5_noMule kl_X5_noMule ki_X5 hd_X5_noMule rfl rfl ⟨Nat.le_of_ble_eq_true rfl, Nat.le_of_ble_eq_true rfl, rfl, rfl⟩ (Nat.le_of_ble_eq_true rfl) dX5_sell_7 rfl rfl rfl ⟨Nat.zero_le _, Nat.zero_le _⟩ ?_
  refine ww_bif_eq (tgt := 15) C0 dX5_sell_10 (by decide) (fun h10 => ?_) (fun h10 => ?_)
  · skip
    refine ww_aload_n C0 dX5_sell_15 rfl ?_
    refine ww_get C0 (ci := 5) (C := RX5) (T := TX5) (N := 33) ku_X5 0 rfl rfl 14 (by decide) kw_X5_31 rfl dX5_sell_16 ?_
    refine ww_iconst (v := (5)) C0 dX5_sell_19 rfl ?_
    refine ww_iload_n C0 dX5_sell_20 rfl ?_
    refine ww_iadd C0 dX5_sell_21 ?_
    refine ww_iald_n (j := 5 + k) C0 6 0 rfl rfl (nI_addE (a := 5) (b := k) rfl rfl) (by omega) (by decide) dX5_sell_22 ?_
    refine ww_istore_n (i := 2) C0 dX5_sell_23 rfl (Nat.le_of_ble_eq_true rfl) rfl ?_
    simp only [List.set_cons_zero, List.set_cons_succ]
    refine ww_iload_n C0 dX5_sell_24 rfl ?_
    refine ww_iconst (v := (3)) C0 dX5_sell_25 rfl ?_
    refine ww_icmp_ne (tgt := 32) C0 dX5_sell_26 (by decide) (fun h26 => ?_) (fun h26 => ?_)
    · skip
      refine ww_aload_n C0 dX5_sell_32 rfl ?_
      refine ww_callVv C0 (qc := (RX5, TX5, 33)) 0 5 (c_X5_note l D cI cZ cQ hac) kd_X5_note kw_X5_168 km_X5_note kl_X5_note ki_X5 hd_X5_note rfl rfl ⟨Nat.le_of_ble_eq_true rfl, Nat.le_of_ble_eq_true rfl, rfl, rfl⟩ (Nat.le_of_ble_eq_true rfl) dX5_sell_33 rfl rfl rfl ⟨Nat.zero_le _, Nat.zero_le _⟩ ?_
      refine ww_aload_n C0 dX5_sell_36 rfl ?_
      refine ww_get C0 (ci := 5) (C := RX5) (T := TX5) (N := 33) ku_X5 0 rfl rfl 14 (by decide) kw_X5_31 rfl dX5_sell_37 ?_
      refine ww_iconst (v := (5)) C0 dX5_sell_40 rfl ?_
      refine ww_iload_n C0 dX5_sell_41 rfl ?_
      refine ww_iadd C0 dX5_sell_42 ?_
      refine ww_iconst (v := (3)) C0 dX5_sell_43 rfl ?_
      refine ww_iast_n (j := 5 + k) C0 6 0 rfl rfl (nI_addE (a := 5) (b := k) rfl rfl) (by omega) (by decide) dX5_sell_44 ?_
      simp only [List.set_cons_zero, List.set_cons_succ]
      refine ww_iload_n C0 dX5_sell_45 rfl ?_
      exact ww_iret C0 hr dX5_sell_46 (by rfl) (by rfl)
    · skip
      exact absurd h26 hl
  · skip
    exact absurd h10 (by rw [isN_nI (by omega) hk]; decide)

set_option maxHeartbeats 4000000 in
set_option maxRecDepth 100000 in
theorem c_X5_forget_b (l : Launch) (D : va_G) (cI cZ cQ : ClassId) {aM amt amc amw ams amv amr amx amp amq amb amk amz am0 am1 am2 am3 am4 amh amo : Nat} {tn nm na ac gn : Nat} {th vpl vrm vra x0 x1 x2 x3 : Int32} {sd : Int64} {rest : va_W} {m : Int32} (hnm : nm ≤ 5) (hm : isN nm m = false) : MI l D [(cI, .int), (cZ, .boolean), (cQ, .object "MulesRemember$State")] yX5_forget cX5_forget 3 .int ({ frames := 2, cells := 0, slots := 0, locals := 46 } : Room) [.ref aM, .int m] ((aM, .inr (5, [.int th, .ref amt, .int (nI tn), .int vpl, .int (nI nm), .ref amc, .int (nI na), .ref amw, .ref ams, .ref amv, .int vrm, .ref amr, .int vra, .ref amx, .ref amp, .ref amq, .ref amb, .int (nI ac), .ref amk, .ref amz, .int (nI gn), .ref am0, .ref am1, .ref am2, .ref am3, .ref am4, .long sd, .ref amh, .int x0, .int x1, .int x2, .int x3, .ref amo])) :: rest) (-1) ((aM, .inr (5, [.int 0, .ref amt, .int (nI tn), .int vpl, .int (nI nm), .ref amc, .int (nI na), .ref amw, .ref ams, .ref amv, .int vrm, .ref amr, .int vra, .ref amx, .ref amp, .ref amq, .ref amb, .int (nI ac), .ref amk, .ref amz, .int (nI gn), .ref am0, .ref am1, .ref am2, .ref am3, .ref am4, .long sd, .ref amh, .int x0, .int x1, .int x2, .int x3, .ref amo])) :: rest) := by
  refine MI.of [.ref aM, .int m, .null] (by decide) (Nat.le_of_ble_eq_true rfl) rfl ?_
  intro p e s m below meth c A C0 hr
  refine ww_aload_n C0 dX5_forget_0 rfl ?_
  refine ww_iconst (v := (0)) C0 dX5_forget_1 rfl ?_
  refine ww_put C0 (ci := 5) (C := RX5) (T := TX5) (N := 33) ku_X5 0 rfl rfl 0 (by decide) tyX5 tyX5_ok nmX5 kw_X5_68 rfl (ty := .int) (by decide +kernel) rfl rfl (Nat.le_of_ble_eq_true rfl) dX5_forget_2 ?_
  simp only [List.set_cons_zero, List.set_cons_succ]
  refine ww_aload_n C0 dX5_forget_5 rfl ?_
  refine ww_iload_n C0 dX5_forget_6 rfl ?_
  refine ww_callVi C0 (qc := (RX5, TX5, 33)) 0 5 (c_X5_noMule l D cI cZ cQ hnm) kd_X5_noMule kw_X5_151 km_X5_noMule kl_X5_noMule ki_X5 hd_X5_noMule rfl rfl ⟨Nat.le_of_ble_eq_true rfl, Nat.le_of_ble_eq_true rfl, rfl, rfl⟩ (Nat.le_of_ble_eq_true rfl) dX5_forget_7 rfl rfl rfl ⟨Nat.zero_le _, Nat.zero_le _⟩ ?_
  refine ww_bif_eq (tgt := 15) C0 dX5_forget_10 (by decide) (fun h10 => ?_) (fun h10 => ?_)
  · skip
    exact absurd h10 (by rw [hm]; decide)
  · skip
    refine ww_iconst (v := (-1)) C0 dX5_forget_13 rfl ?_
    exact ww_iret C0 hr dX5_forget_14 (by rfl) (by rfl)

set_option maxHeartbeats 4000000 in
set_option maxRecDepth 100000 in
theorem c_X5_forget_l (l : Launch) (D : va_G) (cI cZ cQ : ClassId) {aM amt amc amw ams amv amr amx amp amq amb amk amz am0 am1 am2 am3 am4 amh amo : Nat} {tn nm na ac gn : Nat} {th vpl vrm vra x0 x1 x2 x3 : Int32} {sd : Int64} {fmt fmc fmw fms fmv fmp : Nat → Int32} {rest : va_W} {k : Nat} (hnm : nm ≤ 5) (hna : na ≤ 5) (hk : k < nm) (hl : sMn (fmp (10 + k)) = 0) : MI l D [(cI, .int), (cZ, .boolean), (cQ, .object "MulesRemember$State")] yX5_forget cX5_forget 3 .int ({ frames := 2, cells := 0, slots := 0, locals := 46 } : Room) [.ref aM, .int (nI k)] ((aM, .inr (5, [.int th, .ref amt, .int (nI tn), .int vpl, .int (nI nm), .ref amc, .int (nI na), .ref amw, .ref ams, .ref amv, .int vrm, .ref amr, .int vra, .ref amx, .ref amp, .ref amq, .ref amb, .int (nI ac), .ref amk, .ref amz, .int (nI gn), .ref am0, .ref am1, .ref am2, .ref am3, .ref am4, .long sd, .ref amh, .int x0, .int x1, .int x2, .int x3, .ref amo])) :: (amt, .inl (cI, 48, .inl (fmt))) :: (amc, .inl (cI, 5, .inl (fmc))) :: (amw, .inl (cI, 5, .inl (fmw))) :: (ams, .inl (cI, 5, .inl (fms))) :: (amv, .inl (cI, 5, .inl (fmv))) :: (amp, .inl (cI, 17, .inl (fmp))) :: rest) (-3) ((aM, .inr (5, [.int 0, .ref amt, .int (nI tn), .int vpl, .int (nI nm), .ref amc, .int (nI na), .ref amw, .ref ams, .ref amv, .int vrm, .ref amr, .int vra, .ref amx, .ref amp, .ref amq, .ref amb, .int (nI ac), .ref amk, .ref amz, .int (nI gn), .ref am0, .ref am1, .ref am2, .ref am3, .ref am4, .long sd, .ref amh, .int x0, .int x1, .int x2, .int x3, .ref amo])) :: (amt, .inl (cI, 48, .inl (fmt))) :: (amc, .inl (cI, 5, .inl (fmc))) :: (amw, .inl (cI, 5, .inl (fmw))) :: (ams, .inl (cI, 5, .inl (fms))) :: (amv, .inl (cI, 5, .inl (fmv))) :: (amp, .inl (cI, 17, .inl (fmp))) :: rest) := by
  refine MI.of [.ref aM, .int (nI k), .null] (by decide) (Nat.le_of_ble_eq_true rfl) rfl ?_
  intro p e s m below meth c A C0 hr
  refine ww_aload_n C0 dX5_forget_0 rfl ?_
  refine ww_iconst (v := (0)) C0 dX5_forget_1 rfl ?_
  refine ww_put C0 (ci := 5) (C := RX5) (T := TX5) (N := 33) ku_X5 0 rfl rfl 0 (by decide) tyX5 tyX5_ok nmX5 kw_X5_68 rfl (ty := .int) (by decide +kernel) rfl rfl (Nat.le_of_ble_eq_true rfl) dX5_forget_2 ?_
  simp only [List.set_cons_zero, List.set_cons_succ]
  refine ww_aload_n C0 dX5_forget_5 rfl ?_
  refine ww_iload_n C0 dX5_forget_6 rfl ?_
  refine ww_callVi C0 (qc := (RX5, TX5, 33)) 0 5 (c_X5_noMule l D cI cZ cQ hnm) kd_X5_noMule kw_X5_151 km_X5_noMule kl_X5_noMule ki_X5 hd_X5_noMule rfl rfl ⟨Nat.le_of_ble_eq_true rfl, Nat.le_of_ble_eq_true rfl, rfl, rfl⟩ (Nat.le_of_ble_eq_true rfl) dX5_forget_7 rfl rfl rfl ⟨Nat.zero_le _, Nat.zero_le _⟩ ?_
  refine ww_bif_eq (tgt := 15) C0 dX5_forget_10 (by decide) (fun h10 => ?_) (fun h10 => ?_)
  · skip
    refine ww_aload_n C0 dX5_forget_15 rfl ?_
    refine ww_get C0 (ci := 5) (C := RX5) (T := TX5) (N := 33) ku_X5 0 rfl rfl 14 (by decide) kw_X5_31 rfl dX5_forget_16 ?_
    refine ww_bipush (v := (10)) C0 dX5_forget_19 rfl ?_
    refine ww_iload_n C0 dX5_forget_21 rfl ?_
    refine ww_iadd C0 dX5_forget_22 ?_
    refine ww_iald_n (j := 10 + k) C0 6 0 rfl rfl (nI_addE (a := 10) (b := k) rfl rfl) (by omega) (by decide) dX5_forget_23 ?_
    refine ww_callSi C0 (c_X5_many l D cI cZ cQ) kd_X5_many kw_X5_161 ks_X5_many ki_X5 hd_X5_many ⟨Nat.le_of_ble_eq_true rfl, Nat.le_of_ble_eq_true rfl, rfl, rfl⟩ (Nat.le_of_ble_eq_true rfl) dX5_forget_24 rfl rfl ⟨Nat.zero_le _, Nat.zero_le _⟩ ?_
    refine ww_istore_n (i := 2) C0 dX5_forget_27 rfl (Nat.le_of_ble_eq_true rfl) rfl ?_
    simp only [List.set_cons_zero, List.set_cons_succ]
    refine ww_iload_n C0 dX5_forget_28 rfl ?_
    refine ww_if_ne (tgt := 35) C0 dX5_forget_29 (by decide) (fun h29 => ?_) (fun h29 => ?_)
    · skip
      exact absurd hl h29
    · skip
      refine ww_bipush (v := (-3)) C0 dX5_forget_32 rfl ?_
      exact ww_iret C0 hr dX5_forget_34 (by rfl) (by rfl)
  · skip
    exact absurd h10 (by rw [isN_nI (by omega) hk]; decide)

set_option maxHeartbeats 4000000 in
set_option maxRecDepth 100000 in
theorem c_X5_forget (l : Launch) (D : va_G) (cI cZ cQ : ClassId) {aM amt amc amw ams amv amr amx amp amq amb amk amz am0 am1 am2 am3 am4 amh amo : Nat} {tn nm na ac gn : Nat} {th vpl vrm vra x0 x1 x2 x3 : Int32} {sd : Int64} {fmt fmc fmw fms fmv fmp fmq fmr fmx fmb : Nat → Int32} {rest : va_W} {k : Nat} (hnm : nm ≤ 5) (hna : na ≤ 5) (hk : k < nm) (hac : ac ≤ 14) (hl : ¬ sMn (fmp (10 + k)) = 0) : MI l D [(cI, .int), (cZ, .boolean), (cQ, .object "MulesRemember$State")] yX5_forget cX5_forget 3 .int ({ frames := 2, cells := 0, slots := 0, locals := 46 } : Room) [.ref aM, .int (nI k)] ((aM, .inr (5, [.int th, .ref amt, .int (nI tn), .int vpl, .int (nI nm), .ref amc, .int (nI na), .ref amw, .ref ams, .ref amv, .int vrm, .ref amr, .int vra, .ref amx, .ref amp, .ref amq, .ref amb, .int (nI ac), .ref amk, .ref amz, .int (nI gn), .ref am0, .ref am1, .ref am2, .ref am3, .ref am4, .long sd, .ref amh, .int x0, .int x1, .int x2, .int x3, .ref amo])) :: (amt, .inl (cI, 48, .inl (fmt))) :: (amc, .inl (cI, 5, .inl (fmc))) :: (amw, .inl (cI, 5, .inl (fmw))) :: (ams, .inl (cI, 5, .inl (fms))) :: (amv, .inl (cI, 5, .inl (fmv))) :: (amp, .inl (cI, 17, .inl (fmp))) :: (amq, .inl (cI, 17, .inl (fmq))) :: (amr, .inl (cI, 15, .inl (fmr))) :: (amx, .inl (cI, 15, .inl (fmx))) :: (amb, .inl (cI, 238, .inl (fmb))) :: rest) (sMn (fmp (10 + k))) ((aM, .inr (5, [.int 0, .ref amt, .int (nI tn), .int vpl, .int (nI nm), .ref amc, .int (nI na), .ref amw, .ref ams, .ref amv, .int vrm, .ref amr, .int vra, .ref amx, .ref amp, .ref amq, .ref amb, .int (nI (ra ac)), .ref amk, .ref amz, .int (nI gn), .ref am0, .ref am1, .ref am2, .ref am3, .ref am4, .long sd, .ref amh, .int x0, .int x1, .int x2, .int x3, .ref amo])) :: (amt, .inl (cI, 48, .inl (fmt))) :: (amc, .inl (cI, 5, .inl (fmc))) :: (amw, .inl (cI, 5, .inl (fmw))) :: (ams, .inl (cI, 5, .inl (fms))) :: (amv, .inl (cI, 5, .inl (fmv))) :: (amp, .inl (cI, 17, .inl (upd fmp (10 + k) 0))) :: (amq, .inl (cI, 17, .inl (fmq))) :: (amr, .inl (cI, 15, .inl (fmr))) :: (amx, .inl (cI, 15, .inl (fmx))) :: (amb, .inl (cI, 238, .inl (mBook fmb fmp ac))) :: rest) := by
  refine MI.of [.ref aM, .int (nI k), .null] (by decide) (Nat.le_of_ble_eq_true rfl) rfl ?_
  intro p e s m below meth c A C0 hr
  refine ww_aload_n C0 dX5_forget_0 rfl ?_
  refine ww_iconst (v := (0)) C0 dX5_forget_1 rfl ?_
  refine ww_put C0 (ci := 5) (C := RX5) (T := TX5) (N := 33) ku_X5 0 rfl rfl 0 (by decide) tyX5 tyX5_ok nmX5 kw_X5_68 rfl (ty := .int) (by decide +kernel) rfl rfl (Nat.le_of_ble_eq_true rfl) dX5_forget_2 ?_
  simp only [List.set_cons_zero, List.set_cons_succ]
  refine ww_aload_n C0 dX5_forget_5 rfl ?_
  refine ww_iload_n C0 dX5_forget_6 rfl ?_
  refine ww_callVi C0 (qc := (RX5, TX5, 33)) 0 5 (c_X5_noMule l D cI cZ cQ hnm) kd_X5_noMule kw_X5_151 km_X5_noMule kl_X5_noMule ki_X5 hd_X5_noMule rfl rfl ⟨Nat.le_of_ble_eq_true rfl, Nat.le_of_ble_eq_true rfl, rfl, rfl⟩ (Nat.le_of_ble_eq_true rfl) dX5_forget_7 rfl rfl rfl ⟨Nat.zero_le _, Nat.zero_le _⟩ ?_
  refine ww_bif_eq (tgt := 15) C0 dX5_forget_10 (by decide) (fun h10 => ?_) (fun h10 => ?_)
  · skip
    refine ww_aload_n C0 dX5_forget_15 rfl ?_
    refine ww_get C0 (ci := 5) (C := RX5) (T := TX5) (N := 33) ku_X5 0 rfl rfl 14 (by decide) kw_X5_31 rfl dX5_forget_16 ?_
    refine ww_bipush (v := (10)) C0 dX5_forget_19 rfl ?_
    refine ww_iload_n C0 dX5_forget_21 rfl ?_
    refine ww_iadd C0 dX5_forget_22 ?_
    refine ww_iald_n (j := 10 + k) C0 6 0 rfl rfl (nI_addE (a := 10) (b := k) rfl rfl) (by omega) (by decide) dX5_forget_23 ?_
    refine ww_callSi C0 (c_X5_many l D cI cZ cQ) kd_X5_many kw_X5_161 ks_X5_many ki_X5 hd_X5_many ⟨Nat.le_of_ble_eq_true rfl, Nat.le_of_ble_eq_true rfl, rfl, rfl⟩ (Nat.le_of_ble_eq_true rfl) dX5_forget_24 rfl rfl ⟨Nat.zero_le _, Nat.zero_le _⟩ ?_
    refine ww_istore_n (i := 2) C0 dX5_forget_27 rfl (Nat.le_of_ble_eq_true rfl) rfl ?_
    simp only [List.set_cons_zero, List.set_cons_succ]
    refine ww_iload_n C0 dX5_forget_28 rfl ?_
    refine ww_if_ne (tgt := 35) C0 dX5_forget_29 (by decide) (fun h29 => ?_) (fun h29 => ?_)
    · skip
      refine ww_aload_n C0 dX5_forget_35 rfl ?_
      refine ww_callVv C0 (qc := (RX5, TX5, 33)) 0 5 (c_X5_note l D cI cZ cQ hac) kd_X5_note kw_X5_168 km_X5_note kl_X5_note ki_X5 hd_X5_note rfl rfl ⟨Nat.le_of_ble_eq_true rfl, Nat.le_of_ble_eq_true rfl, rfl, rfl⟩ (Nat.le_of_ble_eq_true rfl) dX5_forget_36 rfl rfl rfl ⟨Nat.zero_le _, Nat.zero_le _⟩ ?_
      refine ww_aload_n C0 dX5_forget_39 rfl ?_
      refine ww_get C0 (ci := 5) (C := RX5) (T := TX5) (N := 33) ku_X5 0 rfl rfl 14 (by decide) kw_X5_31 rfl dX5_forget_40 ?_
      refine ww_bipush (v := (10)) C0 dX5_forget_43 rfl ?_
      refine ww_iload_n C0 dX5_forget_45 rfl ?_
      refine ww_iadd C0 dX5_forget_46 ?_
      refine ww_iconst (v := (0)) C0 dX5_forget_47 rfl ?_
      refine ww_iast_n (j := 10 + k) C0 6 0 rfl rfl (nI_addE (a := 10) (b := k) rfl rfl) (by omega) (by decide) dX5_forget_48 ?_
      simp only [List.set_cons_zero, List.set_cons_succ]
      refine ww_iload_n C0 dX5_forget_49 rfl ?_
      exact ww_iret C0 hr dX5_forget_50 (by rfl) (by rfl)
    · skip
      exact absurd h29 hl
  · skip
    exact absurd h10 (by rw [isN_nI (by omega) hk]; decide)

set_option maxHeartbeats 4000000 in
set_option maxRecDepth 100000 in
theorem c_X5_undo_l (l : Launch) (D : va_G) (cI cZ cQ : ClassId) {aM amt amc amw ams amv amr amx amp amq amb amk amz am0 am1 am2 am3 am4 amh amo : Nat} {tn nm na ac gn : Nat} {th vpl vrm vra x0 x1 x2 x3 : Int32} {sd : Int64} {rest : va_W} (hac : ac = 0) : MI l D [(cI, .int), (cZ, .boolean), (cQ, .object "MulesRemember$State")] yX5_undo cX5_undo 2 .int ({ frames := 0, cells := 0, slots := 0, locals := 0 } : Room) [.ref aM] ((aM, .inr (5, [.int th, .ref amt, .int (nI tn), .int vpl, .int (nI nm), .ref amc, .int (nI na), .ref amw, .ref ams, .ref amv, .int vrm, .ref amr, .int vra, .ref amx, .ref amp, .ref amq, .ref amb, .int (nI ac), .ref amk, .ref amz, .int (nI gn), .ref am0, .ref am1, .ref am2, .ref am3, .ref am4, .long sd, .ref amh, .int x0, .int x1, .int x2, .int x3, .ref amo])) :: rest) (-3) ((aM, .inr (5, [.int 0, .ref amt, .int (nI tn), .int vpl, .int (nI nm), .ref amc, .int (nI na), .ref amw, .ref ams, .ref amv, .int vrm, .ref amr, .int vra, .ref amx, .ref amp, .ref amq, .ref amb, .int (nI ac), .ref amk, .ref amz, .int (nI gn), .ref am0, .ref am1, .ref am2, .ref am3, .ref am4, .long sd, .ref amh, .int x0, .int x1, .int x2, .int x3, .ref amo])) :: rest) := by
  refine MI.of [.ref aM, .null] (by decide) (Nat.le_of_ble_eq_true rfl) rfl ?_
  intro p e s m below meth c A C0 hr
  refine ww_aload_n C0 dX5_undo_0 rfl ?_
  refine ww_iconst (v := (0)) C0 dX5_undo_1 rfl ?_
  refine ww_put C0 (ci := 5) (C := RX5) (T := TX5) (N := 33) ku_X5 0 rfl rfl 0 (by decide) tyX5 tyX5_ok nmX5 kw_X5_68 rfl (ty := .int) (by decide +kernel) rfl rfl (Nat.le_of_ble_eq_true rfl) dX5_undo_2 ?_
  simp only [List.set_cons_zero, List.set_cons_succ]
  refine ww_aload_n C0 dX5_undo_5 rfl ?_
  refine ww_get C0 (ci := 5) (C := RX5) (T := TX5) (N := 33) ku_X5 0 rfl rfl 17 (by decide) kw_X5_114 rfl dX5_undo_6 ?_
  refine ww_if_ne (tgt := 15) C0 dX5_undo_9 (by decide) (fun h9 => ?_) (fun h9 => ?_)
  · skip
    replace h9 := (not_congr (nI_eqE (a := ac) (b := 0) rfl rfl (by omega) (by omega))).mp h9
    exfalso; omega
  · skip
    replace h9 := (nI_eqE (a := ac) (b := 0) rfl rfl (by omega) (by omega)).mp h9
    refine ww_bipush (v := (-3)) C0 dX5_undo_12 rfl ?_
    exact ww_iret C0 hr dX5_undo_14 (by rfl) (by rfl)

set_option maxHeartbeats 4000000 in
set_option maxRecDepth 100000 in
theorem c_X5_undo (l : Launch) (D : va_G) (cI cZ cQ : ClassId) {aM amt amc amw ams amv amr amx amp amq amb amk amz am0 am1 am2 am3 am4 amh amo : Nat} {tn nm na ac gn : Nat} {th vpl vrm vra x0 x1 x2 x3 : Int32} {sd : Int64} {fmt fmc fmw fms fmv fmp fmq fmr fmx fmb : Nat → Int32} {rest : va_W} (hac : ac ≤ 14) (h0 : 0 < ac) : MI l D [(cI, .int), (cZ, .boolean), (cQ, .object "MulesRemember$State")] yX5_undo cX5_undo 2 .int ({ frames := 0, cells := 0, slots := 0, locals := 0 } : Room) [.ref aM] ((aM, .inr (5, [.int th, .ref amt, .int (nI tn), .int vpl, .int (nI nm), .ref amc, .int (nI na), .ref amw, .ref ams, .ref amv, .int vrm, .ref amr, .int vra, .ref amx, .ref amp, .ref amq, .ref amb, .int (nI ac), .ref amk, .ref amz, .int (nI gn), .ref am0, .ref am1, .ref am2, .ref am3, .ref am4, .long sd, .ref amh, .int x0, .int x1, .int x2, .int x3, .ref amo])) :: (amt, .inl (cI, 48, .inl (fmt))) :: (amc, .inl (cI, 5, .inl (fmc))) :: (amw, .inl (cI, 5, .inl (fmw))) :: (ams, .inl (cI, 5, .inl (fms))) :: (amv, .inl (cI, 5, .inl (fmv))) :: (amp, .inl (cI, 17, .inl (fmp))) :: (amq, .inl (cI, 17, .inl (fmq))) :: (amr, .inl (cI, 15, .inl (fmr))) :: (amx, .inl (cI, 15, .inl (fmx))) :: (amb, .inl (cI, 238, .inl (fmb))) :: rest) (nI (ac - 1)) ((aM, .inr (5, [.int 0, .ref amt, .int (nI tn), .int vpl, .int (nI nm), .ref amc, .int (nI na), .ref amw, .ref ams, .ref amv, .int vrm, .ref amr, .int vra, .ref amx, .ref amp, .ref amq, .ref amb, .int (nI (ac - 1)), .ref amk, .ref amz, .int (nI gn), .ref am0, .ref am1, .ref am2, .ref am3, .ref am4, .long sd, .ref amh, .int x0, .int x1, .int x2, .int x3, .ref amo])) :: (amt, .inl (cI, 48, .inl (fmt))) :: (amc, .inl (cI, 5, .inl (fmc))) :: (amw, .inl (cI, 5, .inl (fmw))) :: (ams, .inl (cI, 5, .inl (fms))) :: (amv, .inl (cI, 5, .inl (fmv))) :: (amp, .inl (cI, 17, .inl (fun j => fmb (17 * (ac - 1) + j)))) :: (amq, .inl (cI, 17, .inl (fmq))) :: (amr, .inl (cI, 15, .inl (fmr))) :: (amx, .inl (cI, 15, .inl (fmx))) :: (amb, .inl (cI, 238, .inl (fmb))) :: rest) := by
  refine MI.of [.ref aM, .null] (by decide) (Nat.le_of_ble_eq_true rfl) rfl ?_
  intro p e s m below meth c A C0 hr
  refine ww_aload_n C0 dX5_undo_0 rfl ?_
  refine ww_iconst (v := (0)) C0 dX5_undo_1 rfl ?_
  refine ww_put C0 (ci := 5) (C := RX5) (T := TX5) (N := 33) ku_X5 0 rfl rfl 0 (by decide) tyX5 tyX5_ok nmX5 kw_X5_68 rfl (ty := .int) (by decide +kernel) rfl rfl (Nat.le_of_ble_eq_true rfl) dX5_undo_2 ?_
  simp only [List.set_cons_zero, List.set_cons_succ]
  refine ww_aload_n C0 dX5_undo_5 rfl ?_
  refine ww_get C0 (ci := 5) (C := RX5) (T := TX5) (N := 33) ku_X5 0 rfl rfl 17 (by decide) kw_X5_114 rfl dX5_undo_6 ?_
  refine ww_if_ne (tgt := 15) C0 dX5_undo_9 (by decide) (fun h9 => ?_) (fun h9 => ?_)
  · skip
    replace h9 := (not_congr (nI_eqE (a := ac) (b := 0) rfl rfl (by omega) (by omega))).mp h9
    refine ww_aload_n C0 dX5_undo_15 rfl ?_
    refine ww_dup C0 dX5_undo_16 rfl ?_
    refine ww_get C0 (ci := 5) (C := RX5) (T := TX5) (N := 33) ku_X5 0 rfl rfl 17 (by decide) kw_X5_114 rfl dX5_undo_17 ?_
    refine ww_iconst (v := (1)) C0 dX5_undo_20 rfl ?_
    refine ww_isub C0 dX5_undo_21 ?_
    refine ww_put C0 (ci := 5) (C := RX5) (T := TX5) (N := 33) ku_X5 0 rfl rfl 17 (by decide) tyX5 tyX5_ok nmX5 kw_X5_114 rfl (ty := .int) (by decide +kernel) rfl rfl (Nat.le_of_ble_eq_true rfl) dX5_undo_22 ?_
    simp only [List.set_cons_zero, List.set_cons_succ]
    refine ww_world (w' := (aM, .inr (5, [.int 0, .ref amt, .int (nI tn), .int vpl, .int (nI nm), .ref amc, .int (nI na), .ref amw, .ref ams, .ref amv, .int vrm, .ref amr, .int vra, .ref amx, .ref amp, .ref amq, .ref amb, .int (nI (ac - 1)), .ref amk, .ref amz, .int (nI gn), .ref am0, .ref am1, .ref am2, .ref am3, .ref am4, .long sd, .ref amh, .int x0, .int x1, .int x2, .int x3, .ref amo])) :: (amt, .inl (cI, 48, .inl (fmt))) :: (amc, .inl (cI, 5, .inl (fmc))) :: (amw, .inl (cI, 5, .inl (fmw))) :: (ams, .inl (cI, 5, .inl (fms))) :: (amv, .inl (cI, 5, .inl (fmv))) :: (amp, .inl (cI, 17, .inl (fmp))) :: (amq, .inl (cI, 17, .inl (fmq))) :: (amr, .inl (cI, 15, .inl (fmr))) :: (amx, .inl (cI, 15, .inl (fmx))) :: (amb, .inl (cI, 238, .inl (fmb))) :: rest) (by simp only [show nI ac - 1 = nI (ac - 1) from pk_sub h0]) ?_
    refine ww_iconst (v := (0)) C0 dX5_undo_25 rfl ?_
    refine ww_istore_n (i := 1) C0 dX5_undo_26 rfl (Nat.le_of_ble_eq_true rfl) rfl ?_
    simp only [List.set_cons_zero, List.set_cons_succ]
    refine ww_back (ww_loop (pc := 27) 0 (17) (by omega) (fun j => [_, .int (nI j)]) (fun j => (aM, .inr (5, [.int 0, .ref amt, .int (nI tn), .int vpl, .int (nI nm), .ref amc, .int (nI na), .ref amw, .ref ams, .ref amv, .int vrm, .ref amr, .int vra, .ref amx, .ref amp, .ref amq, .ref amb, .int (nI (ac - 1)), .ref amk, .ref amz, .int (nI gn), .ref am0, .ref am1, .ref am2, .ref am3, .ref am4, .long sd, .ref amh, .int x0, .int x1, .int x2, .int x3, .ref amo])) :: (amt, .inl (cI, 48, .inl (fmt))) :: (amc, .inl (cI, 5, .inl (fmc))) :: (amw, .inl (cI, 5, .inl (fmw))) :: (ams, .inl (cI, 5, .inl (fms))) :: (amv, .inl (cI, 5, .inl (fmv))) :: (amp, .inl (cI, 17, .inl (cpyF (fun j => fmb (17 * (ac - 1) + j)) fmp j))) :: (amq, .inl (cI, 17, .inl (fmq))) :: (amr, .inl (cI, 15, .inl (fmr))) :: (amx, .inl (cI, 15, .inl (fmx))) :: (amb, .inl (cI, 238, .inl (fmb))) :: rest) ?_ ?_) ⟨Or.inr rfl, Or.inr rfl, trivial⟩ (by simp only [cpyF_0])
    · intro j hj0 hj ih
      refine ww_iload_n C0 dX5_undo_27 rfl ?_
      refine ww_bipush (v := (17)) C0 dX5_undo_28 rfl ?_
      refine ww_icmp_ge (tgt := 59) C0 dX5_undo_30 (by decide) (fun h30 => ?_) (fun h30 => ?_)
      · skip
        replace h30 := (nI_leE (a := 17) (b := j) rfl rfl (by omega) (by omega)).mp h30
        exfalso; omega
      · skip
        replace h30 := (not_congr (nI_leE (a := 17) (b := j) rfl rfl (by omega) (by omega))).mp h30
        refine ww_aload_n C0 dX5_undo_33 rfl ?_
        refine ww_get C0 (ci := 5) (C := RX5) (T := TX5) (N := 33) ku_X5 0 rfl rfl 14 (by decide) kw_X5_31 rfl dX5_undo_34 ?_
        refine ww_iload_n C0 dX5_undo_37 rfl ?_
        refine ww_aload_n C0 dX5_undo_38 rfl ?_
        refine ww_get C0 (ci := 5) (C := RX5) (T := TX5) (N := 33) ku_X5 0 rfl rfl 16 (by decide) kw_X5_37 rfl dX5_undo_39 ?_
        refine ww_bipush (v := (17)) C0 dX5_undo_42 rfl ?_
        refine ww_aload_n C0 dX5_undo_44 rfl ?_
        refine ww_get C0 (ci := 5) (C := RX5) (T := TX5) (N := 33) ku_X5 0 rfl rfl 17 (by decide) kw_X5_114 rfl dX5_undo_45 ?_
        refine ww_imul C0 dX5_undo_48 ?_
        refine ww_iload_n C0 dX5_undo_49 rfl ?_
        refine ww_iadd C0 dX5_undo_50 ?_
        refine ww_iald_n (j := (17 * ((ac - 1))) + j) C0 10 0 rfl rfl (nI_addE (a := 17 * ((ac - 1))) (b := j) (nI_mulE (a := 17) (b := (ac - 1)) rfl rfl) rfl) (by omega) (by decide) dX5_undo_51 ?_
        refine ww_iast_n (j := j) C0 6 0 rfl rfl rfl (by omega) (by decide) dX5_undo_52 ?_
        simp only [List.set_cons_zero, List.set_cons_succ]
        refine ww_iinc (d := 1) C0 dX5_undo_53 rfl rfl rfl ?_
        simp only [List.set_cons_zero, List.set_cons_succ]
        refine ww_goto (tgt := 27) C0 dX5_undo_56 (by decide) ?_
        exact ww_back ih ⟨Or.inr rfl, Or.inr (congrArg Value.int (nI_addE (a := j) (b := 1) rfl rfl).symm), trivial⟩ (by simp only [← cpyF_s])
    · skip
      refine ww_iload_n C0 dX5_undo_27 rfl ?_
      refine ww_bipush (v := (17)) C0 dX5_undo_28 rfl ?_
      refine ww_icmp_ge (tgt := 59) C0 dX5_undo_30 (by decide) (fun h30 => ?_) (fun h30 => ?_)
      · skip
        replace h30 := (nI_leE (a := 17) (b := 17) rfl rfl (by omega) (by omega)).mp h30
        refine ww_arr 6 (fun j => fmb (17 * (ac - 1) + j)) rfl (fun k hk => by simp [cpyF, hk]) ?_
        simp only [List.set_cons_zero, List.set_cons_succ]
        refine ww_aload_n C0 dX5_undo_59 rfl ?_
        refine ww_get C0 (ci := 5) (C := RX5) (T := TX5) (N := 33) ku_X5 0 rfl rfl 17 (by decide) kw_X5_114 rfl dX5_undo_60 ?_
        exact ww_iret C0 hr dX5_undo_63 (by rfl) (by rfl)
      · skip
        replace h30 := (not_congr (nI_leE (a := 17) (b := 17) rfl rfl (by omega) (by omega))).mp h30
        exfalso; omega
  · skip
    replace h9 := (nI_eqE (a := ac) (b := 0) rfl rfl (by omega) (by omega)).mp h9
    exfalso; omega
