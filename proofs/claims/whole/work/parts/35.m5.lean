set_option maxHeartbeats 4000000 in
set_option maxRecDepth 100000 in
theorem c_X5_way_b (l : Launch) (D : va_G) (cI cZ cQ : ClassId) {aM amt amc amw ams amv amr amx amp amq amb amk amz am0 am1 am2 am3 am4 amh amo : Nat} {tn nm na ac gn : Nat} {th vpl vrm vra x0 x1 x2 x3 : Int32} {sd : Int64} {rest : va_W} {m s0 : Int32} {u : Bool} (hnm : nm ≤ 5) (hm : (isN nm m && isN 10 s0) = false) : MI l D [(cI, .int), (cZ, .boolean), (cQ, .object "MulesRemember$State")] yX5_way cX5_way 4 .int ({ frames := 5, cells := 0, slots := 0, locals := 127 } : Room) [.ref aM, .int m, .int s0, .int (bI u)] ((aM, .inr (5, [.int th, .ref amt, .int (nI tn), .int vpl, .int (nI nm), .ref amc, .int (nI na), .ref amw, .ref ams, .ref amv, .int vrm, .ref amr, .int vra, .ref amx, .ref amp, .ref amq, .ref amb, .int (nI ac), .ref amk, .ref amz, .int (nI gn), .ref am0, .ref am1, .ref am2, .ref am3, .ref am4, .long sd, .ref amh, .int x0, .int x1, .int x2, .int x3, .ref amo])) :: rest) (-1) ((aM, .inr (5, [.int 0, .ref amt, .int (nI tn), .int vpl, .int (nI nm), .ref amc, .int (nI na), .ref amw, .ref ams, .ref amv, .int vrm, .ref amr, .int vra, .ref amx, .ref amp, .ref amq, .ref amb, .int (nI ac), .ref amk, .ref amz, .int (nI gn), .ref am0, .ref am1, .ref am2, .ref am3, .ref am4, .long sd, .ref amh, .int x0, .int x1, .int x2, .int x3, .ref amo])) :: rest) := by
  refine MI.of [.ref aM, .int m, .int s0, .int (bI u)] (by decide) (Nat.le_of_ble_eq_true rfl) rfl ?_
  intro p e s m below meth c A C0 hr
  refine ww_aload_n C0 dX5_way_0 rfl ?_
  refine ww_iconst (v := (0)) C0 dX5_way_1 rfl ?_
  refine ww_put C0 (ci := 5) (C := RX5) (T := TX5) (N := 33) ku_X5 0 rfl rfl 0 (by decide) tyX5 tyX5_ok nmX5 kw_X5_68 rfl (ty := .int) (by decide +kernel) rfl rfl (Nat.le_of_ble_eq_true rfl) dX5_way_2 ?_
  simp only [List.set_cons_zero, List.set_cons_succ]
  refine ww_aload_n C0 dX5_way_5 rfl ?_
  refine ww_iload_n C0 dX5_way_6 rfl ?_
  refine ww_callVi C0 (qc := (RX5, TX5, 33)) 0 5 (c_X5_noMule l D cI cZ cQ hnm) kd_X5_noMule kw_X5_151 km_X5_noMule kl_X5_noMule ki_X5 hd_X5_noMule rfl rfl ⟨Nat.le_of_ble_eq_true rfl, Nat.le_of_ble_eq_true rfl, rfl, rfl⟩ (Nat.le_of_ble_eq_true rfl) dX5_way_7 rfl rfl rfl ⟨Nat.zero_le _, Nat.zero_le _⟩ ?_
  refine ww_bif_ne (tgt := 25) C0 dX5_way_10 (by decide) (fun h10 => ?_) (fun h10 => ?_)
  · skip
    refine ww_iconst (v := (-1)) C0 dX5_way_25 rfl ?_
    exact ww_iret C0 hr dX5_way_26 (by rfl) (by rfl)
  · skip
    refine ww_iload_n C0 dX5_way_13 rfl ?_
    refine ww_i2l C0 dX5_way_14 ?_
    refine ww_lconst (v := 0) C0 dX5_way_15 rfl ?_
    refine ww_ldc2 C0 kw_X5_117 dX5_way_16 ?_
    refine ww_callSi C0 (c_X5_in0 l D cI cZ cQ 10 (by decide) (by decide)) kd_X5_in kw_X5_75 ks_X5_in ki_X5 hd_X5_in ⟨Nat.le_of_ble_eq_true rfl, Nat.le_of_ble_eq_true rfl, rfl, rfl⟩ (Nat.le_of_ble_eq_true rfl) dX5_way_19 rfl rfl ⟨Nat.zero_le _, Nat.zero_le _⟩ ?_
    refine ww_bif_ne (tgt := 27) C0 dX5_way_22 (by decide) (fun h22 => ?_) (fun h22 => ?_)
    · skip
      exact absurd hm (by simp_all)
    · skip
      refine ww_iconst (v := (-1)) C0 dX5_way_25 rfl ?_
      exact ww_iret C0 hr dX5_way_26 (by rfl) (by rfl)

set_option maxHeartbeats 4000000 in
set_option maxRecDepth 100000 in
theorem c_X5_way (l : Launch) (D : va_G) (cI cZ cQ : ClassId) {aM amt amc amw ams amv amr amx amp amq amb amk amz am0 am1 am2 am3 am4 amh amo : Nat} {tn nm na ac gn : Nat} {th vpl vrm vra x0 x1 x2 x3 : Int32} {sd : Int64} {fmt fmc fmw fms fmv fmp fmq fmr fmx fmb fmk fmz fm0 fm1 fm2 fm3 fm4 fmh : Nat → Int32} {rest : va_W} {k s0 : Nat} {u : Bool} {F : Nat → Int32 → Int32 → Bool} (hnm : nm ≤ 5) (hna : na ≤ 5) (hk : k < nm) (hs : s0 < 10) (hst : isN 10 (fmp k) = true) (hF : F = (fun t s way => if u then !decide (mFF nm na fmw fms fmv fmc (mAt fmp k s (fmp 15 + nI t)) k way = 0) else mBk nm na fmw fms fmv fmc (mAt fmp k s (fmp 15 + nI t)) k way)) : MI l D [(cI, .int), (cZ, .boolean), (cQ, .object "MulesRemember$State")] yX5_way cX5_way 4 .int ({ frames := 5, cells := 0, slots := 0, locals := 127 } : Room) [.ref aM, .int (nI k), .int (nI s0), .int (bI u)] ((aM, .inr (5, [.int th, .ref amt, .int (nI tn), .int vpl, .int (nI nm), .ref amc, .int (nI na), .ref amw, .ref ams, .ref amv, .int vrm, .ref amr, .int vra, .ref amx, .ref amp, .ref amq, .ref amb, .int (nI ac), .ref amk, .ref amz, .int (nI gn), .ref am0, .ref am1, .ref am2, .ref am3, .ref am4, .long sd, .ref amh, .int x0, .int x1, .int x2, .int x3, .ref amo])) :: (amt, .inl (cI, 48, .inl (fmt))) :: (amc, .inl (cI, 5, .inl (fmc))) :: (amw, .inl (cI, 5, .inl (fmw))) :: (ams, .inl (cI, 5, .inl (fms))) :: (amv, .inl (cI, 5, .inl (fmv))) :: (amp, .inl (cI, 17, .inl (fmp))) :: (amq, .inl (cI, 17, .inl (fmq))) :: (amr, .inl (cI, 15, .inl (fmr))) :: (amx, .inl (cI, 15, .inl (fmx))) :: (amb, .inl (cI, 238, .inl (fmb))) :: (amk, .inl (cI, 34, .inl (fmk))) :: (amz, .inl (cZ, 2, .inl (fmz))) :: (am0, .inl (cI, 6, .inl (fm0))) :: (am1, .inl (cI, 6, .inl (fm1))) :: (am2, .inl (cI, 6, .inl (fm2))) :: (am3, .inl (cI, 6, .inl (fm3))) :: (am4, .inl (cI, 6, .inl (fm4))) :: (amh, .inl (cI, 10, .inl (fmh))) :: rest) ((mLayT F (mH0 (fmp k)) 12) s0) ((aM, .inr (5, [.int 0, .ref amt, .int (nI tn), .int vpl, .int (nI nm), .ref amc, .int (nI na), .ref amw, .ref ams, .ref amv, .int vrm, .ref amr, .int vra, .ref amx, .ref amp, .ref amq, .ref amb, .int (nI ac), .ref amk, .ref amz, .int (nI gn), .ref am0, .ref am1, .ref am2, .ref am3, .ref am4, .long sd, .ref amh, .int x0, .int x1, .int x2, .int x3, .ref amo])) :: (amt, .inl (cI, 48, .inl (fmt))) :: (amc, .inl (cI, 5, .inl (fmc))) :: (amw, .inl (cI, 5, .inl (fmw))) :: (ams, .inl (cI, 5, .inl (fms))) :: (amv, .inl (cI, 5, .inl (fmv))) :: (amp, .inl (cI, 17, .inl (fmp))) :: (amq, .inl (cI, 17, .inl (mAt fmp k 9 (fmp 15 + nI 11)))) :: (amr, .inl (cI, 15, .inl (fmr))) :: (amx, .inl (cI, 15, .inl (fmx))) :: (amb, .inl (cI, 238, .inl (fmb))) :: (amk, .inl (cI, 34, .inl (fmk))) :: (amz, .inl (cZ, 2, .inl (fmz))) :: (am0, .inl (cI, 6, .inl (fm0))) :: (am1, .inl (cI, 6, .inl (fm1))) :: (am2, .inl (cI, 6, .inl (fm2))) :: (am3, .inl (cI, 6, .inl (fm3))) :: (am4, .inl (cI, 6, .inl (fm4))) :: (amh, .inl (cI, 10, .inl ((mLayT F (mH0 (fmp k)) 12)))) :: rest) := by
  refine MI.of [.ref aM, .int (nI k), .int (nI s0), .int (bI u)] (by decide) (Nat.le_of_ble_eq_true rfl) rfl ?_
  intro p e s m below meth c A C0 hr
  refine ww_aload_n C0 dX5_way_0 rfl ?_
  refine ww_iconst (v := (0)) C0 dX5_way_1 rfl ?_
  refine ww_put C0 (ci := 5) (C := RX5) (T := TX5) (N := 33) ku_X5 0 rfl rfl 0 (by decide) tyX5 tyX5_ok nmX5 kw_X5_68 rfl (ty := .int) (by decide +kernel) rfl rfl (Nat.le_of_ble_eq_true rfl) dX5_way_2 ?_
  simp only [List.set_cons_zero, List.set_cons_succ]
  refine ww_aload_n C0 dX5_way_5 rfl ?_
  refine ww_iload_n C0 dX5_way_6 rfl ?_
  refine ww_callVi C0 (qc := (RX5, TX5, 33)) 0 5 (c_X5_noMule l D cI cZ cQ hnm) kd_X5_noMule kw_X5_151 km_X5_noMule kl_X5_noMule ki_X5 hd_X5_noMule rfl rfl ⟨Nat.le_of_ble_eq_true rfl, Nat.le_of_ble_eq_true rfl, rfl, rfl⟩ (Nat.le_of_ble_eq_true rfl) dX5_way_7 rfl rfl rfl ⟨Nat.zero_le _, Nat.zero_le _⟩ ?_
  refine ww_bif_ne (tgt := 25) C0 dX5_way_10 (by decide) (fun h10 => ?_) (fun h10 => ?_)
  · skip
    exact absurd h10 (by rw [isN_nI (by omega) hk]; decide)
  · skip
    refine ww_iload_n C0 dX5_way_13 rfl ?_
    refine ww_i2l C0 dX5_way_14 ?_
    refine ww_lconst (v := 0) C0 dX5_way_15 rfl ?_
    refine ww_ldc2 C0 kw_X5_117 dX5_way_16 ?_
    refine ww_callSi C0 (c_X5_in0 l D cI cZ cQ 10 (by decide) (by decide)) kd_X5_in kw_X5_75 ks_X5_in ki_X5 hd_X5_in ⟨Nat.le_of_ble_eq_true rfl, Nat.le_of_ble_eq_true rfl, rfl, rfl⟩ (Nat.le_of_ble_eq_true rfl) dX5_way_19 rfl rfl ⟨Nat.zero_le _, Nat.zero_le _⟩ ?_
    refine ww_bif_ne (tgt := 27) C0 dX5_way_22 (by decide) (fun h22 => ?_) (fun h22 => ?_)
    · skip
      refine ww_aload_n C0 dX5_way_27 rfl ?_
      refine ww_iload_n C0 dX5_way_28 rfl ?_
      refine ww_iload_n C0 dX5_way_29 rfl ?_
      refine ww_callVv C0 (qc := (RX5, TX5, 33)) 0 5 (c_X5_layWays l D cI cZ cQ hnm hna hk hst hF) kd_X5_layWays kw_X5_178 km_X5_layWays kl_X5_layWays ki_X5 hd_X5_layWays rfl rfl ⟨Nat.le_of_ble_eq_true rfl, Nat.le_of_ble_eq_true rfl, rfl, rfl⟩ (Nat.le_of_ble_eq_true rfl) dX5_way_30 rfl rfl rfl ⟨Nat.zero_le _, Nat.zero_le _⟩ ?_
      refine ww_aload_n C0 dX5_way_33 rfl ?_
      refine ww_get C0 (ci := 5) (C := RX5) (T := TX5) (N := 33) ku_X5 0 rfl rfl 27 (by decide) kw_X5_62 rfl dX5_way_34 ?_
      refine ww_iload_n C0 dX5_way_37 rfl ?_
      refine ww_iald_n (j := s0) C0 18 0 rfl rfl rfl (by omega) (by decide) dX5_way_38 ?_
      exact ww_iret C0 hr dX5_way_39 (by rfl) (by rfl)
    · skip
      exact absurd (isN_nI (by omega) hs) (by rw [h22]; decide)

set_option maxHeartbeats 4000000 in
set_option maxRecDepth 100000 in
theorem c_X5_enclaves_b (l : Launch) (D : va_G) (cI cZ cQ : ClassId) {aM amt amc amw ams amv amr amx amp amq amb amk amz am0 am1 am2 am3 am4 amh amo : Nat} {tn nm na ac gn : Nat} {th vpl vrm vra x0 x1 x2 x3 : Int32} {sd : Int64} {rest : va_W} {m : Int32} (hnm : nm ≤ 5) (hm : isN nm m = false) : MI l D [(cI, .int), (cZ, .boolean), (cQ, .object "MulesRemember$State")] yX5_enclaves cX5_enclaves 4 .int ({ frames := 5, cells := 0, slots := 0, locals := 127 } : Room) [.ref aM, .int m] ((aM, .inr (5, [.int th, .ref amt, .int (nI tn), .int vpl, .int (nI nm), .ref amc, .int (nI na), .ref amw, .ref ams, .ref amv, .int vrm, .ref amr, .int vra, .ref amx, .ref amp, .ref amq, .ref amb, .int (nI ac), .ref amk, .ref amz, .int (nI gn), .ref am0, .ref am1, .ref am2, .ref am3, .ref am4, .long sd, .ref amh, .int x0, .int x1, .int x2, .int x3, .ref amo])) :: rest) (-1) ((aM, .inr (5, [.int 0, .ref amt, .int (nI tn), .int vpl, .int (nI nm), .ref amc, .int (nI na), .ref amw, .ref ams, .ref amv, .int vrm, .ref amr, .int vra, .ref amx, .ref amp, .ref amq, .ref amb, .int (nI ac), .ref amk, .ref amz, .int (nI gn), .ref am0, .ref am1, .ref am2, .ref am3, .ref am4, .long sd, .ref amh, .int x0, .int x1, .int x2, .int x3, .ref amo])) :: rest) := by
  refine MI.of [.ref aM, .int m, .null, .null] (by decide) (Nat.le_of_ble_eq_true rfl) rfl ?_
  intro p e s m below meth c A C0 hr
  refine ww_aload_n C0 dX5_enclaves_0 rfl ?_
  refine ww_iconst (v := (0)) C0 dX5_enclaves_1 rfl ?_
  refine ww_put C0 (ci := 5) (C := RX5) (T := TX5) (N := 33) ku_X5 0 rfl rfl 0 (by decide) tyX5 tyX5_ok nmX5 kw_X5_68 rfl (ty := .int) (by decide +kernel) rfl rfl (Nat.le_of_ble_eq_true rfl) dX5_enclaves_2 ?_
  simp only [List.set_cons_zero, List.set_cons_succ]
  refine ww_aload_n C0 dX5_enclaves_5 rfl ?_
  refine ww_iload_n C0 dX5_enclaves_6 rfl ?_
  refine ww_callVi C0 (qc := (RX5, TX5, 33)) 0 5 (c_X5_noMule l D cI cZ cQ hnm) kd_X5_noMule kw_X5_151 km_X5_noMule kl_X5_noMule ki_X5 hd_X5_noMule rfl rfl ⟨Nat.le_of_ble_eq_true rfl, Nat.le_of_ble_eq_true rfl, rfl, rfl⟩ (Nat.le_of_ble_eq_true rfl) dX5_enclaves_7 rfl rfl rfl ⟨Nat.zero_le _, Nat.zero_le _⟩ ?_
  refine ww_bif_eq (tgt := 15) C0 dX5_enclaves_10 (by decide) (fun h10 => ?_) (fun h10 => ?_)
  · skip
    exact absurd h10 (by rw [hm]; decide)
  · skip
    refine ww_iconst (v := (-1)) C0 dX5_enclaves_13 rfl ?_
    exact ww_iret C0 hr dX5_enclaves_14 (by rfl) (by rfl)

set_option maxHeartbeats 4000000 in
set_option maxRecDepth 100000 in
theorem c_X5_enclaves (l : Launch) (D : va_G) (cI cZ cQ : ClassId) {aM amt amc amw ams amv amr amx amp amq amb amk amz am0 am1 am2 am3 am4 amh amo : Nat} {tn nm na ac gn : Nat} {th vpl vrm vra x0 x1 x2 x3 : Int32} {sd : Int64} {fmt fmc fmw fms fmv fmp fmq fmr fmx fmb fmk fmz fm0 fm1 fm2 fm3 fm4 fmh : Nat → Int32} {rest : va_W} {k : Nat} {F : Nat → Int32 → Int32 → Bool} (hnm : nm ≤ 5) (hna : na ≤ 5) (hk : k < nm) (hst : isN 10 (fmp k) = true) (hF : F = (fun t s way => if false then !decide (mFF nm na fmw fms fmv fmc (mAt fmp k s (fmp 15 + nI t)) k way = 0) else mBk nm na fmw fms fmv fmc (mAt fmp k s (fmp 15 + nI t)) k way)) : MI l D [(cI, .int), (cZ, .boolean), (cQ, .object "MulesRemember$State")] yX5_enclaves cX5_enclaves 4 .int ({ frames := 5, cells := 0, slots := 0, locals := 127 } : Room) [.ref aM, .int (nI k)] ((aM, .inr (5, [.int th, .ref amt, .int (nI tn), .int vpl, .int (nI nm), .ref amc, .int (nI na), .ref amw, .ref ams, .ref amv, .int vrm, .ref amr, .int vra, .ref amx, .ref amp, .ref amq, .ref amb, .int (nI ac), .ref amk, .ref amz, .int (nI gn), .ref am0, .ref am1, .ref am2, .ref am3, .ref am4, .long sd, .ref amh, .int x0, .int x1, .int x2, .int x3, .ref amo])) :: (amt, .inl (cI, 48, .inl (fmt))) :: (amc, .inl (cI, 5, .inl (fmc))) :: (amw, .inl (cI, 5, .inl (fmw))) :: (ams, .inl (cI, 5, .inl (fms))) :: (amv, .inl (cI, 5, .inl (fmv))) :: (amp, .inl (cI, 17, .inl (fmp))) :: (amq, .inl (cI, 17, .inl (fmq))) :: (amr, .inl (cI, 15, .inl (fmr))) :: (amx, .inl (cI, 15, .inl (fmx))) :: (amb, .inl (cI, 238, .inl (fmb))) :: (amk, .inl (cI, 34, .inl (fmk))) :: (amz, .inl (cZ, 2, .inl (fmz))) :: (am0, .inl (cI, 6, .inl (fm0))) :: (am1, .inl (cI, 6, .inl (fm1))) :: (am2, .inl (cI, 6, .inl (fm2))) :: (am3, .inl (cI, 6, .inl (fm3))) :: (am4, .inl (cI, 6, .inl (fm4))) :: (amh, .inl (cI, 10, .inl (fmh))) :: rest) (orBits (fun s => decide ((mLayT F (mH0 (fmp k)) 12) s = -9)) 10) ((aM, .inr (5, [.int 0, .ref amt, .int (nI tn), .int vpl, .int (nI nm), .ref amc, .int (nI na), .ref amw, .ref ams, .ref amv, .int vrm, .ref amr, .int vra, .ref amx, .ref amp, .ref amq, .ref amb, .int (nI ac), .ref amk, .ref amz, .int (nI gn), .ref am0, .ref am1, .ref am2, .ref am3, .ref am4, .long sd, .ref amh, .int x0, .int x1, .int x2, .int x3, .ref amo])) :: (amt, .inl (cI, 48, .inl (fmt))) :: (amc, .inl (cI, 5, .inl (fmc))) :: (amw, .inl (cI, 5, .inl (fmw))) :: (ams, .inl (cI, 5, .inl (fms))) :: (amv, .inl (cI, 5, .inl (fmv))) :: (amp, .inl (cI, 17, .inl (fmp))) :: (amq, .inl (cI, 17, .inl (mAt fmp k 9 (fmp 15 + nI 11)))) :: (amr, .inl (cI, 15, .inl (fmr))) :: (amx, .inl (cI, 15, .inl (fmx))) :: (amb, .inl (cI, 238, .inl (fmb))) :: (amk, .inl (cI, 34, .inl (fmk))) :: (amz, .inl (cZ, 2, .inl (fmz))) :: (am0, .inl (cI, 6, .inl (fm0))) :: (am1, .inl (cI, 6, .inl (fm1))) :: (am2, .inl (cI, 6, .inl (fm2))) :: (am3, .inl (cI, 6, .inl (fm3))) :: (am4, .inl (cI, 6, .inl (fm4))) :: (amh, .inl (cI, 10, .inl ((mLayT F (mH0 (fmp k)) 12)))) :: rest) := by
  refine MI.of [.ref aM, .int (nI k), .null, .null] (by decide) (Nat.le_of_ble_eq_true rfl) rfl ?_
  intro p e s m below meth c A C0 hr
  refine ww_aload_n C0 dX5_enclaves_0 rfl ?_
  refine ww_iconst (v := (0)) C0 dX5_enclaves_1 rfl ?_
  refine ww_put C0 (ci := 5) (C := RX5) (T := TX5) (N := 33) ku_X5 0 rfl rfl 0 (by decide) tyX5 tyX5_ok nmX5 kw_X5_68 rfl (ty := .int) (by decide +kernel) rfl rfl (Nat.le_of_ble_eq_true rfl) dX5_enclaves_2 ?_
  simp only [List.set_cons_zero, List.set_cons_succ]
  refine ww_aload_n C0 dX5_enclaves_5 rfl ?_
  refine ww_iload_n C0 dX5_enclaves_6 rfl ?_
  refine ww_callVi C0 (qc := (RX5, TX5, 33)) 0 5 (c_X5_noMule l D cI cZ cQ hnm) kd_X5_noMule kw_X5_151 km_X5_noMule kl_X5_noMule ki_X5 hd_X5_noMule rfl rfl ⟨Nat.le_of_ble_eq_true rfl, Nat.le_of_ble_eq_true rfl, rfl, rfl⟩ (Nat.le_of_ble_eq_true rfl) dX5_enclaves_7 rfl rfl rfl ⟨Nat.zero_le _, Nat.zero_le _⟩ ?_
  refine ww_bif_eq (tgt := 15) C0 dX5_enclaves_10 (by decide) (fun h10 => ?_) (fun h10 => ?_)
  · skip
    refine ww_aload_n C0 dX5_enclaves_15 rfl ?_
    refine ww_iload_n C0 dX5_enclaves_16 rfl ?_
    refine ww_iconst (v := (0)) C0 dX5_enclaves_17 rfl ?_
    refine ww_top (v' := bI false) rfl ?_
    refine ww_callVv C0 (qc := (RX5, TX5, 33)) 0 5 (c_X5_layWays l D cI cZ cQ hnm hna hk hst hF) kd_X5_layWays kw_X5_178 km_X5_layWays kl_X5_layWays ki_X5 hd_X5_layWays rfl rfl ⟨Nat.le_of_ble_eq_true rfl, Nat.le_of_ble_eq_true rfl, rfl, rfl⟩ (Nat.le_of_ble_eq_true rfl) dX5_enclaves_18 rfl rfl rfl ⟨Nat.zero_le _, Nat.zero_le _⟩ ?_
    refine ww_iconst (v := (0)) C0 dX5_enclaves_21 rfl ?_
    refine ww_istore_n (i := 2) C0 dX5_enclaves_22 rfl (Nat.le_of_ble_eq_true rfl) rfl ?_
    simp only [List.set_cons_zero, List.set_cons_succ]
    refine ww_iconst (v := (0)) C0 dX5_enclaves_23 rfl ?_
    refine ww_istore_n (i := 3) C0 dX5_enclaves_24 rfl (Nat.le_of_ble_eq_true rfl) rfl ?_
    simp only [List.set_cons_zero, List.set_cons_succ]
    clear hF
    refine ww_back (ww_loop (pc := 25) 0 (10) (by omega) (fun j => [_, _, .int (orBits (fun s => decide ((mLayT F (mH0 (fmp k)) 12) s = -9)) j), .int (nI j)]) (fun j => _) ?_ ?_) ⟨Or.inr rfl, Or.inr rfl, Or.inr rfl, Or.inr rfl, trivial⟩ (by rfl)
    · intro j hj0 hj ih
      refine ww_iload_n C0 dX5_enclaves_25 rfl ?_
      refine ww_bipush (v := (10)) C0 dX5_enclaves_26 rfl ?_
      refine ww_icmp_ge (tgt := 58) C0 dX5_enclaves_28 (by decide) (fun h28 => ?_) (fun h28 => ?_)
      · skip
        replace h28 := (nI_leE (a := 10) (b := j) rfl rfl (by omega) (by omega)).mp h28
        exfalso; omega
      · skip
        replace h28 := (not_congr (nI_leE (a := 10) (b := j) rfl rfl (by omega) (by omega))).mp h28
        refine ww_iload_n C0 dX5_enclaves_31 rfl ?_
        refine ww_aload_n C0 dX5_enclaves_32 rfl ?_
        refine ww_get C0 (ci := 5) (C := RX5) (T := TX5) (N := 33) ku_X5 0 rfl rfl 27 (by decide) kw_X5_62 rfl dX5_enclaves_33 ?_
        refine ww_iload_n C0 dX5_enclaves_36 rfl ?_
        refine ww_iald_n (j := j) C0 18 0 rfl rfl rfl (by omega) (by decide) dX5_enclaves_37 ?_
        refine ww_bipush (v := (-9)) C0 dX5_enclaves_38 rfl ?_
        refine ww_icmp_ne (tgt := 49) C0 dX5_enclaves_40 (by decide) (fun h40 => ?_) (fun h40 => ?_)
        · skip
          refine ww_iconst (v := (0)) C0 dX5_enclaves_49 rfl ?_
          refine ww_ior C0 dX5_enclaves_50 ?_
          refine ww_istore_n (i := 2) C0 dX5_enclaves_51 rfl (Nat.le_of_ble_eq_true rfl) rfl ?_
          simp only [List.set_cons_zero, List.set_cons_succ]
          refine ww_iinc (d := 1) C0 dX5_enclaves_52 rfl rfl rfl ?_
          simp only [List.set_cons_zero, List.set_cons_succ]
          refine ww_goto (tgt := 25) C0 dX5_enclaves_55 (by decide) ?_
          exact ww_back ih ⟨Or.inr rfl, Or.inr rfl, Or.inr (congrArg Value.int (by simp [orBits, *])), Or.inr (congrArg Value.int (nI_addE (a := j) (b := 1) rfl rfl).symm), trivial⟩ (by rfl)
        · skip
          refine ww_iconst (v := (1)) C0 dX5_enclaves_43 rfl ?_
          refine ww_iload_n C0 dX5_enclaves_44 rfl ?_
          refine ww_ishl C0 dX5_enclaves_45 ?_
          refine ww_goto (tgt := 50) C0 dX5_enclaves_46 (by decide) ?_
          refine ww_ior C0 dX5_enclaves_50 ?_
          refine ww_istore_n (i := 2) C0 dX5_enclaves_51 rfl (Nat.le_of_ble_eq_true rfl) rfl ?_
          simp only [List.set_cons_zero, List.set_cons_succ]
          refine ww_iinc (d := 1) C0 dX5_enclaves_52 rfl rfl rfl ?_
          simp only [List.set_cons_zero, List.set_cons_succ]
          refine ww_goto (tgt := 25) C0 dX5_enclaves_55 (by decide) ?_
          exact ww_back ih ⟨Or.inr rfl, Or.inr rfl, Or.inr (congrArg Value.int (by simp [orBits, *])), Or.inr (congrArg Value.int (nI_addE (a := j) (b := 1) rfl rfl).symm), trivial⟩ (by rfl)
    · skip
      refine ww_iload_n C0 dX5_enclaves_25 rfl ?_
      refine ww_bipush (v := (10)) C0 dX5_enclaves_26 rfl ?_
      refine ww_icmp_ge (tgt := 58) C0 dX5_enclaves_28 (by decide) (fun h28 => ?_) (fun h28 => ?_)
      · skip
        replace h28 := (nI_leE (a := 10) (b := 10) rfl rfl (by omega) (by omega)).mp h28
        refine ww_iload_n C0 dX5_enclaves_58 rfl ?_
        exact ww_iret C0 hr dX5_enclaves_59 (by rfl) (by rfl)
      · skip
        replace h28 := (not_congr (nI_leE (a := 10) (b := 10) rfl rfl (by omega) (by omega))).mp h28
        exfalso; omega
  · skip
    exact absurd h10 (by rw [isN_nI (by omega) hk]; decide)

set_option maxHeartbeats 4000000 in
set_option maxRecDepth 100000 in
theorem c_X5_holdsFast (l : Launch) (D : va_G) (cI cZ cQ : ClassId) {aM amt amc amw ams amv amr amx amp amq amb amk amz am0 am1 am2 am3 am4 amh amo : Nat} {tn nm na ac gn : Nat} {th vpl vrm vra x0 x1 x2 x3 : Int32} {sd : Int64} {fmt fmc fmw fms fmv fmp fmq : Nat → Int32} {rest : va_W} {k : Nat} (hnm : nm ≤ 5) (hna : na ≤ 5) (hk : k < nm) : MI l D [(cI, .int), (cZ, .boolean), (cQ, .object "MulesRemember$State")] yX5_holdsFast cX5_holdsFast 5 .boolean ({ frames := 4, cells := 0, slots := 0, locals := 99 } : Room) [.ref aM, .int (nI k)] ((aM, .inr (5, [.int th, .ref amt, .int (nI tn), .int vpl, .int (nI nm), .ref amc, .int (nI na), .ref amw, .ref ams, .ref amv, .int vrm, .ref amr, .int vra, .ref amx, .ref amp, .ref amq, .ref amb, .int (nI ac), .ref amk, .ref amz, .int (nI gn), .ref am0, .ref am1, .ref am2, .ref am3, .ref am4, .long sd, .ref amh, .int x0, .int x1, .int x2, .int x3, .ref amo])) :: (amt, .inl (cI, 48, .inl (fmt))) :: (amc, .inl (cI, 5, .inl (fmc))) :: (amw, .inl (cI, 5, .inl (fmw))) :: (ams, .inl (cI, 5, .inl (fms))) :: (amv, .inl (cI, 5, .inl (fmv))) :: (amp, .inl (cI, 17, .inl (fmp))) :: (amq, .inl (cI, 17, .inl (fmq))) :: rest) (bI (mHold1 (mTo (fmq k) 0) (mFF nm na fmw fms fmv fmc fmq k 0) (mKnown na (fmq (5 + k)) (fmq (10 + k))) && mHold1 (mTo (fmq k) 1) (mFF nm na fmw fms fmv fmc fmq k 1) (mKnown na (fmq (5 + k)) (fmq (10 + k))))) ((aM, .inr (5, [.int th, .ref amt, .int (nI tn), .int vpl, .int (nI nm), .ref amc, .int (nI na), .ref amw, .ref ams, .ref amv, .int vrm, .ref amr, .int vra, .ref amx, .ref amp, .ref amq, .ref amb, .int (nI ac), .ref amk, .ref amz, .int (nI gn), .ref am0, .ref am1, .ref am2, .ref am3, .ref am4, .long sd, .ref amh, .int x0, .int x1, .int x2, .int x3, .ref amo])) :: (amt, .inl (cI, 48, .inl (fmt))) :: (amc, .inl (cI, 5, .inl (fmc))) :: (amw, .inl (cI, 5, .inl (fmw))) :: (ams, .inl (cI, 5, .inl (fms))) :: (amv, .inl (cI, 5, .inl (fmv))) :: (amp, .inl (cI, 17, .inl (fmp))) :: (amq, .inl (cI, 17, .inl (fmq))) :: rest) := by
  refine MI.of [.ref aM, .int (nI k), .null, .null, .null] (by decide) (Nat.le_of_ble_eq_true rfl) rfl ?_
  intro p e s m below meth c A C0 hr
  have hk5 : k < 5 := by omega
  refine ww_iconst (v := (1)) C0 dX5_holdsFast_0 rfl ?_
  refine ww_istore_n (i := 2) C0 dX5_holdsFast_1 rfl (Nat.le_of_ble_eq_true rfl) rfl ?_
  simp only [List.set_cons_zero, List.set_cons_succ]
  refine ww_iconst (v := (0)) C0 dX5_holdsFast_2 rfl ?_
  refine ww_istore_n (i := 3) C0 dX5_holdsFast_3 rfl (Nat.le_of_ble_eq_true rfl) rfl ?_
  simp only [List.set_cons_zero, List.set_cons_succ]
  refine ww_cong (lo' := [_, _, _, .int 0, _]) ?_ (by rfl) rfl rfl
  refine ww_iload_n C0 dX5_holdsFast_4 rfl ?_
  refine ww_iconst (v := (2)) C0 dX5_holdsFast_5 rfl ?_
  refine ww_icmp_ge (tgt := 77) C0 dX5_holdsFast_6 (by decide) (fun h6 => ?_) (fun h6 => ?_)
  · skip
    replace h6 := (nI_leE (a := 2) (b := 0) rfl rfl (by omega) (by omega)).mp h6
    exfalso; omega
  · skip
    replace h6 := (not_congr (nI_leE (a := 2) (b := 0) rfl rfl (by omega) (by omega))).mp h6
    refine ww_aload_n C0 dX5_holdsFast_9 rfl ?_
    refine ww_get C0 (ci := 5) (C := RX5) (T := TX5) (N := 33) ku_X5 0 rfl rfl 15 (by decide) kw_X5_34 rfl dX5_holdsFast_10 ?_
    refine ww_iload_n C0 dX5_holdsFast_13 rfl ?_
    refine ww_iload_n C0 dX5_holdsFast_14 rfl ?_
    refine ww_perm (perm_mv 6 1 1 _) ?_
    simp only [List.drop_succ_cons, List.drop_zero, List.take_succ_cons, List.take_zero, List.cons_append, List.nil_append, Nat.reduceAdd]
    refine ww_callSi C0 (c_X5_toStone l D cI cZ cQ hk5) kd_X5_toStone kw_X5_119 ks_X5_toStone ki_X5 hd_X5_toStone ⟨Nat.le_of_ble_eq_true rfl, Nat.le_of_ble_eq_true rfl, rfl, rfl⟩ (Nat.le_of_ble_eq_true rfl) dX5_holdsFast_15 rfl rfl ⟨Nat.zero_le _, Nat.zero_le _⟩ ?_
    refine ww_perm (perm_mv 6 1 1 _) ?_
    simp only [List.drop_succ_cons, List.drop_zero, List.take_succ_cons, List.take_zero, List.cons_append, List.nil_append, Nat.reduceAdd]
    refine ww_bipush (v := (-9)) C0 dX5_holdsFast_18 rfl ?_
    refine ww_icmp_eq (tgt := 40) C0 dX5_holdsFast_20 (by decide) (fun h20 => ?_) (fun h20 => ?_)
    · skip
      refine ww_iconst (v := (0)) C0 dX5_holdsFast_40 rfl ?_
      refine ww_istore (i := 4) C0 dX5_holdsFast_41 (Nat.le_of_ble_eq_true rfl) rfl ?_
      simp only [List.set_cons_zero, List.set_cons_succ]
      refine ww_iload_n C0 dX5_holdsFast_43 rfl ?_
      refine ww_if_eq (tgt := 69) C0 dX5_holdsFast_44 (by decide) (fun h44 => ?_) (fun h44 => ?_)
      · skip
        replace h44 := (nI_eqE (a := 1) (b := 0) rfl rfl (by omega) (by omega)).mp h44
        exfalso; omega
      · skip
        replace h44 := (not_congr (nI_eqE (a := 1) (b := 0) rfl rfl (by omega) (by omega))).mp h44
        refine ww_iload C0 dX5_holdsFast_47 rfl ?_
        refine ww_if_eq (tgt := 65) C0 dX5_holdsFast_49 (by decide) (fun h49 => ?_) (fun h49 => ?_)
        · skip
          replace h49 := (nI_eqE (a := 0) (b := 0) rfl rfl (by omega) (by omega)).mp h49
          refine ww_iconst (v := (1)) C0 dX5_holdsFast_65 rfl ?_
          refine ww_goto (tgt := 70) C0 dX5_holdsFast_66 (by decide) ?_
          refine ww_istore_n (i := 2) C0 dX5_holdsFast_70 rfl (Nat.le_of_ble_eq_true rfl) rfl ?_
          simp only [List.set_cons_zero, List.set_cons_succ]
          refine ww_iinc (d := 1) C0 dX5_holdsFast_71 rfl rfl rfl ?_
          simp only [List.set_cons_zero, List.set_cons_succ]
          refine ww_goto (tgt := 4) C0 dX5_holdsFast_74 (by decide) ?_
          refine ww_cong (lo' := [_, _, _, .int 1, _]) ?_ (by rfl) rfl rfl
          refine ww_iload_n C0 dX5_holdsFast_4 rfl ?_
          refine ww_iconst (v := (2)) C0 dX5_holdsFast_5 rfl ?_
          refine ww_icmp_ge (tgt := 77) C0 dX5_holdsFast_6 (by decide) (fun h6 => ?_) (fun h6 => ?_)
          · skip
            replace h6 := (nI_leE (a := 2) (b := 1) rfl rfl (by omega) (by omega)).mp h6
            exfalso; omega
          · skip
            replace h6 := (not_congr (nI_leE (a := 2) (b := 1) rfl rfl (by omega) (by omega))).mp h6
            refine ww_aload_n C0 dX5_holdsFast_9 rfl ?_
            refine ww_get C0 (ci := 5) (C := RX5) (T := TX5) (N := 33) ku_X5 0 rfl rfl 15 (by decide) kw_X5_34 rfl dX5_holdsFast_10 ?_
            refine ww_iload_n C0 dX5_holdsFast_13 rfl ?_
            refine ww_iload_n C0 dX5_holdsFast_14 rfl ?_
            refine ww_perm (perm_mv 6 1 1 _) ?_
            simp only [List.drop_succ_cons, List.drop_zero, List.take_succ_cons, List.take_zero, List.cons_append, List.nil_append, Nat.reduceAdd]
            refine ww_callSi C0 (c_X5_toStone l D cI cZ cQ hk5) kd_X5_toStone kw_X5_119 ks_X5_toStone ki_X5 hd_X5_toStone ⟨Nat.le_of_ble_eq_true rfl, Nat.le_of_ble_eq_true rfl, rfl, rfl⟩ (Nat.le_of_ble_eq_true rfl) dX5_holdsFast_15 rfl rfl ⟨Nat.zero_le _, Nat.zero_le _⟩ ?_
            refine ww_perm (perm_mv 6 1 1 _) ?_
            simp only [List.drop_succ_cons, List.drop_zero, List.take_succ_cons, List.take_zero, List.cons_append, List.nil_append, Nat.reduceAdd]
            refine ww_bipush (v := (-9)) C0 dX5_holdsFast_18 rfl ?_
            refine ww_icmp_eq (tgt := 40) C0 dX5_holdsFast_20 (by decide) (fun h20 => ?_) (fun h20 => ?_)
            · skip
              refine ww_iconst (v := (0)) C0 dX5_holdsFast_40 rfl ?_
              refine ww_istore (i := 4) C0 dX5_holdsFast_41 (Nat.le_of_ble_eq_true rfl) rfl ?_
              simp only [List.set_cons_zero, List.set_cons_succ]
              refine ww_iload_n C0 dX5_holdsFast_43 rfl ?_
              refine ww_if_eq (tgt := 69) C0 dX5_holdsFast_44 (by decide) (fun h44 => ?_) (fun h44 => ?_)
              · skip
                replace h44 := (nI_eqE (a := 1) (b := 0) rfl rfl (by omega) (by omega)).mp h44
                exfalso; omega
              · skip
                replace h44 := (not_congr (nI_eqE (a := 1) (b := 0) rfl rfl (by omega) (by omega))).mp h44
                refine ww_iload C0 dX5_holdsFast_47 rfl ?_
                refine ww_if_eq (tgt := 65) C0 dX5_holdsFast_49 (by decide) (fun h49 => ?_) (fun h49 => ?_)
                · skip
                  replace h49 := (nI_eqE (a := 0) (b := 0) rfl rfl (by omega) (by omega)).mp h49
                  refine ww_iconst (v := (1)) C0 dX5_holdsFast_65 rfl ?_
                  refine ww_goto (tgt := 70) C0 dX5_holdsFast_66 (by decide) ?_
                  refine ww_istore_n (i := 2) C0 dX5_holdsFast_70 rfl (Nat.le_of_ble_eq_true rfl) rfl ?_
                  simp only [List.set_cons_zero, List.set_cons_succ]
                  refine ww_iinc (d := 1) C0 dX5_holdsFast_71 rfl rfl rfl ?_
                  simp only [List.set_cons_zero, List.set_cons_succ]
                  refine ww_goto (tgt := 4) C0 dX5_holdsFast_74 (by decide) ?_
                  refine ww_cong (lo' := [_, _, _, .int 2, _]) ?_ (by rfl) rfl rfl
                  refine ww_iload_n C0 dX5_holdsFast_4 rfl ?_
                  refine ww_iconst (v := (2)) C0 dX5_holdsFast_5 rfl ?_
                  refine ww_icmp_ge (tgt := 77) C0 dX5_holdsFast_6 (by decide) (fun h6 => ?_) (fun h6 => ?_)
                  · skip
                    replace h6 := (nI_leE (a := 2) (b := 2) rfl rfl (by omega) (by omega)).mp h6
                    refine ww_iload_n C0 dX5_holdsFast_77 rfl ?_
                    exact ww_zret C0 hr dX5_holdsFast_78 (by simp [mHold1, bI, *]) (by rfl)
                  · skip
                    replace h6 := (not_congr (nI_leE (a := 2) (b := 2) rfl rfl (by omega) (by omega))).mp h6
                    exfalso; omega
                · skip
                  replace h49 := (not_congr (nI_eqE (a := 0) (b := 0) rfl rfl (by omega) (by omega))).mp h49
                  exfalso; omega
            · skip
              refine ww_aload_n C0 dX5_holdsFast_23 rfl ?_
              refine ww_aload_n C0 dX5_holdsFast_24 rfl ?_
              refine ww_get C0 (ci := 5) (C := RX5) (T := TX5) (N := 33) ku_X5 0 rfl rfl 15 (by decide) kw_X5_34 rfl dX5_holdsFast_25 ?_
              refine ww_iload_n C0 dX5_holdsFast_28 rfl ?_
              refine ww_iload_n C0 dX5_holdsFast_29 rfl ?_
              refine ww_perm (perm_mv 6 1 1 _) ?_
              simp only [List.drop_succ_cons, List.drop_zero, List.take_succ_cons, List.take_zero, List.cons_append, List.nil_append, Nat.reduceAdd]
              refine ww_callVi C0 (qc := (RX5, TX5, 33)) 0 5 (c_X5_forbids l D cI cZ cQ hnm hna hk) kd_X5_forbids kw_X5_130 km_X5_forbids kl_X5_forbids ki_X5 hd_X5_forbids rfl rfl ⟨Nat.le_of_ble_eq_true rfl, Nat.le_of_ble_eq_true rfl, rfl, rfl⟩ (Nat.le_of_ble_eq_true rfl) dX5_holdsFast_30 rfl rfl rfl ⟨Nat.zero_le _, Nat.zero_le _⟩ ?_
              refine ww_perm (perm_mv 6 1 1 _) ?_
              simp only [List.drop_succ_cons, List.drop_zero, List.take_succ_cons, List.take_zero, List.cons_append, List.nil_append, Nat.reduceAdd]
              refine ww_if_eq (tgt := 40) C0 dX5_holdsFast_33 (by decide) (fun h33 => ?_) (fun h33 => ?_)
              · skip
                refine ww_iconst (v := (0)) C0 dX5_holdsFast_40 rfl ?_
                refine ww_istore (i := 4) C0 dX5_holdsFast_41 (Nat.le_of_ble_eq_true rfl) rfl ?_
                simp only [List.set_cons_zero, List.set_cons_succ]
                refine ww_iload_n C0 dX5_holdsFast_43 rfl ?_
                refine ww_if_eq (tgt := 69) C0 dX5_holdsFast_44 (by decide) (fun h44 => ?_) (fun h44 => ?_)
                · skip
                  replace h44 := (nI_eqE (a := 1) (b := 0) rfl rfl (by omega) (by omega)).mp h44
                  exfalso; omega
                · skip
                  replace h44 := (not_congr (nI_eqE (a := 1) (b := 0) rfl rfl (by omega) (by omega))).mp h44
                  refine ww_iload C0 dX5_holdsFast_47 rfl ?_
                  refine ww_if_eq (tgt := 65) C0 dX5_holdsFast_49 (by decide) (fun h49 => ?_) (fun h49 => ?_)
                  · skip
                    replace h49 := (nI_eqE (a := 0) (b := 0) rfl rfl (by omega) (by omega)).mp h49
                    refine ww_iconst (v := (1)) C0 dX5_holdsFast_65 rfl ?_
                    refine ww_goto (tgt := 70) C0 dX5_holdsFast_66 (by decide) ?_
                    refine ww_istore_n (i := 2) C0 dX5_holdsFast_70 rfl (Nat.le_of_ble_eq_true rfl) rfl ?_
                    simp only [List.set_cons_zero, List.set_cons_succ]
                    refine ww_iinc (d := 1) C0 dX5_holdsFast_71 rfl rfl rfl ?_
                    simp only [List.set_cons_zero, List.set_cons_succ]
                    refine ww_goto (tgt := 4) C0 dX5_holdsFast_74 (by decide) ?_
                    refine ww_cong (lo' := [_, _, _, .int 2, _]) ?_ (by rfl) rfl rfl
                    refine ww_iload_n C0 dX5_holdsFast_4 rfl ?_
                    refine ww_iconst (v := (2)) C0 dX5_holdsFast_5 rfl ?_
                    refine ww_icmp_ge (tgt := 77) C0 dX5_holdsFast_6 (by decide) (fun h6 => ?_) (fun h6 => ?_)
                    · skip
                      replace h6 := (nI_leE (a := 2) (b := 2) rfl rfl (by omega) (by omega)).mp h6
                      refine ww_iload_n C0 dX5_holdsFast_77 rfl ?_
                      exact ww_zret C0 hr dX5_holdsFast_78 (by simp [mHold1, bI, *]) (by rfl)
                    · skip
                      replace h6 := (not_congr (nI_leE (a := 2) (b := 2) rfl rfl (by omega) (by omega))).mp h6
                      exfalso; omega
                  · skip
                    replace h49 := (not_congr (nI_eqE (a := 0) (b := 0) rfl rfl (by omega) (by omega))).mp h49
                    exfalso; omega
              · skip
                refine ww_iconst (v := (1)) C0 dX5_holdsFast_36 rfl ?_
                refine ww_goto (tgt := 41) C0 dX5_holdsFast_37 (by decide) ?_
                refine ww_istore (i := 4) C0 dX5_holdsFast_41 (Nat.le_of_ble_eq_true rfl) rfl ?_
                simp only [List.set_cons_zero, List.set_cons_succ]
                refine ww_iload_n C0 dX5_holdsFast_43 rfl ?_
                refine ww_if_eq (tgt := 69) C0 dX5_holdsFast_44 (by decide) (fun h44 => ?_) (fun h44 => ?_)
                · skip
                  replace h44 := (nI_eqE (a := 1) (b := 0) rfl rfl (by omega) (by omega)).mp h44
                  exfalso; omega
                · skip
                  replace h44 := (not_congr (nI_eqE (a := 1) (b := 0) rfl rfl (by omega) (by omega))).mp h44
                  refine ww_iload C0 dX5_holdsFast_47 rfl ?_
                  refine ww_if_eq (tgt := 65) C0 dX5_holdsFast_49 (by decide) (fun h49 => ?_) (fun h49 => ?_)
                  · skip
                    replace h49 := (nI_eqE (a := 1) (b := 0) rfl rfl (by omega) (by omega)).mp h49
                    exfalso; omega
                  · skip
                    replace h49 := (not_congr (nI_eqE (a := 1) (b := 0) rfl rfl (by omega) (by omega))).mp h49
                    refine ww_aload_n C0 dX5_holdsFast_52 rfl ?_
                    refine ww_aload_n C0 dX5_holdsFast_53 rfl ?_
                    refine ww_get C0 (ci := 5) (C := RX5) (T := TX5) (N := 33) ku_X5 0 rfl rfl 15 (by decide) kw_X5_34 rfl dX5_holdsFast_54 ?_
                    refine ww_iload_n C0 dX5_holdsFast_57 rfl ?_
                    refine ww_iload_n C0 dX5_holdsFast_58 rfl ?_
                    refine ww_perm (perm_mv 6 1 1 _) ?_
                    simp only [List.drop_succ_cons, List.drop_zero, List.take_succ_cons, List.take_zero, List.cons_append, List.nil_append, Nat.reduceAdd]
                    refine ww_callVi C0 (qc := (RX5, TX5, 33)) 0 5 (c_X5_isBalking l D cI cZ cQ hnm hna hk) kd_X5_isBalking kw_X5_164 km_X5_isBalking kl_X5_isBalking ki_X5 hd_X5_isBalking rfl rfl ⟨Nat.le_of_ble_eq_true rfl, Nat.le_of_ble_eq_true rfl, rfl, rfl⟩ (Nat.le_of_ble_eq_true rfl) dX5_holdsFast_59 rfl rfl rfl ⟨Nat.zero_le _, Nat.zero_le _⟩ ?_
                    refine ww_perm (perm_mv 6 1 1 _) ?_
                    simp only [List.drop_succ_cons, List.drop_zero, List.take_succ_cons, List.take_zero, List.cons_append, List.nil_append, Nat.reduceAdd]
                    refine ww_bif_eq (tgt := 69) C0 dX5_holdsFast_62 (by decide) (fun h62 => ?_) (fun h62 => ?_)
                    · skip
                      have hb1 := mBk_f h62
                      refine ww_iconst (v := (0)) C0 dX5_holdsFast_69 rfl ?_
                      refine ww_istore_n (i := 2) C0 dX5_holdsFast_70 rfl (Nat.le_of_ble_eq_true rfl) rfl ?_
                      simp only [List.set_cons_zero, List.set_cons_succ]
                      refine ww_iinc (d := 1) C0 dX5_holdsFast_71 rfl rfl rfl ?_
                      simp only [List.set_cons_zero, List.set_cons_succ]
                      refine ww_goto (tgt := 4) C0 dX5_holdsFast_74 (by decide) ?_
                      refine ww_cong (lo' := [_, _, _, .int 2, _]) ?_ (by rfl) rfl rfl
                      refine ww_iload_n C0 dX5_holdsFast_4 rfl ?_
                      refine ww_iconst (v := (2)) C0 dX5_holdsFast_5 rfl ?_
                      refine ww_icmp_ge (tgt := 77) C0 dX5_holdsFast_6 (by decide) (fun h6 => ?_) (fun h6 => ?_)
                      · skip
                        replace h6 := (nI_leE (a := 2) (b := 2) rfl rfl (by omega) (by omega)).mp h6
                        refine ww_iload_n C0 dX5_holdsFast_77 rfl ?_
                        exact ww_zret C0 hr dX5_holdsFast_78 (by simp [mHold1, bI, *]) (by rfl)
                      · skip
                        replace h6 := (not_congr (nI_leE (a := 2) (b := 2) rfl rfl (by omega) (by omega))).mp h6
                        exfalso; omega
                    · skip
                      have hb1 := mBk_t h62
                      refine ww_iconst (v := (1)) C0 dX5_holdsFast_65 rfl ?_
                      refine ww_goto (tgt := 70) C0 dX5_holdsFast_66 (by decide) ?_
                      refine ww_istore_n (i := 2) C0 dX5_holdsFast_70 rfl (Nat.le_of_ble_eq_true rfl) rfl ?_
                      simp only [List.set_cons_zero, List.set_cons_succ]
                      refine ww_iinc (d := 1) C0 dX5_holdsFast_71 rfl rfl rfl ?_
                      simp only [List.set_cons_zero, List.set_cons_succ]
                      refine ww_goto (tgt := 4) C0 dX5_holdsFast_74 (by decide) ?_
                      refine ww_cong (lo' := [_, _, _, .int 2, _]) ?_ (by rfl) rfl rfl
                      refine ww_iload_n C0 dX5_holdsFast_4 rfl ?_
                      refine ww_iconst (v := (2)) C0 dX5_holdsFast_5 rfl ?_
                      refine ww_icmp_ge (tgt := 77) C0 dX5_holdsFast_6 (by decide) (fun h6 => ?_) (fun h6 => ?_)
                      · skip
                        replace h6 := (nI_leE (a := 2) (b := 2) rfl rfl (by omega) (by omega)).mp h6
                        refine ww_iload_n C0 dX5_holdsFast_77 rfl ?_
                        exact ww_zret C0 hr dX5_holdsFast_78 (by simp [mHold1, bI, *]) (by rfl)
                      · skip
                        replace h6 := (not_congr (nI_leE (a := 2) (b := 2) rfl rfl (by omega) (by omega))).mp h6
                        exfalso; omega
        · skip
          replace h49 := (not_congr (nI_eqE (a := 0) (b := 0) rfl rfl (by omega) (by omega))).mp h49
          exfalso; omega
    · skip
      refine ww_aload_n C0 dX5_holdsFast_23 rfl ?_
      refine ww_aload_n C0 dX5_holdsFast_24 rfl ?_
      refine ww_get C0 (ci := 5) (C := RX5) (T := TX5) (N := 33) ku_X5 0 rfl rfl 15 (by decide) kw_X5_34 rfl dX5_holdsFast_25 ?_
      refine ww_iload_n C0 dX5_holdsFast_28 rfl ?_
      refine ww_iload_n C0 dX5_holdsFast_29 rfl ?_
      refine ww_perm (perm_mv 6 1 1 _) ?_
      simp only [List.drop_succ_cons, List.drop_zero, List.take_succ_cons, List.take_zero, List.cons_append, List.nil_append, Nat.reduceAdd]
      refine ww_callVi C0 (qc := (RX5, TX5, 33)) 0 5 (c_X5_forbids l D cI cZ cQ hnm hna hk) kd_X5_forbids kw_X5_130 km_X5_forbids kl_X5_forbids ki_X5 hd_X5_forbids rfl rfl ⟨Nat.le_of_ble_eq_true rfl, Nat.le_of_ble_eq_true rfl, rfl, rfl⟩ (Nat.le_of_ble_eq_true rfl) dX5_holdsFast_30 rfl rfl rfl ⟨Nat.zero_le _, Nat.zero_le _⟩ ?_
      refine ww_perm (perm_mv 6 1 1 _) ?_
      simp only [List.drop_succ_cons, List.drop_zero, List.take_succ_cons, List.take_zero, List.cons_append, List.nil_append, Nat.reduceAdd]
      refine ww_if_eq (tgt := 40) C0 dX5_holdsFast_33 (by decide) (fun h33 => ?_) (fun h33 => ?_)
      · skip
        refine ww_iconst (v := (0)) C0 dX5_holdsFast_40 rfl ?_
        refine ww_istore (i := 4) C0 dX5_holdsFast_41 (Nat.le_of_ble_eq_true rfl) rfl ?_
        simp only [List.set_cons_zero, List.set_cons_succ]
        refine ww_iload_n C0 dX5_holdsFast_43 rfl ?_
        refine ww_if_eq (tgt := 69) C0 dX5_holdsFast_44 (by decide) (fun h44 => ?_) (fun h44 => ?_)
        · skip
          replace h44 := (nI_eqE (a := 1) (b := 0) rfl rfl (by omega) (by omega)).mp h44
          exfalso; omega
        · skip
          replace h44 := (not_congr (nI_eqE (a := 1) (b := 0) rfl rfl (by omega) (by omega))).mp h44
          refine ww_iload C0 dX5_holdsFast_47 rfl ?_
          refine ww_if_eq (tgt := 65) C0 dX5_holdsFast_49 (by decide) (fun h49 => ?_) (fun h49 => ?_)
          · skip
            replace h49 := (nI_eqE (a := 0) (b := 0) rfl rfl (by omega) (by omega)).mp h49
            refine ww_iconst (v := (1)) C0 dX5_holdsFast_65 rfl ?_
            refine ww_goto (tgt := 70) C0 dX5_holdsFast_66 (by decide) ?_
            refine ww_istore_n (i := 2) C0 dX5_holdsFast_70 rfl (Nat.le_of_ble_eq_true rfl) rfl ?_
            simp only [List.set_cons_zero, List.set_cons_succ]
            refine ww_iinc (d := 1) C0 dX5_holdsFast_71 rfl rfl rfl ?_
            simp only [List.set_cons_zero, List.set_cons_succ]
            refine ww_goto (tgt := 4) C0 dX5_holdsFast_74 (by decide) ?_
            refine ww_cong (lo' := [_, _, _, .int 1, _]) ?_ (by rfl) rfl rfl
            refine ww_iload_n C0 dX5_holdsFast_4 rfl ?_
            refine ww_iconst (v := (2)) C0 dX5_holdsFast_5 rfl ?_
            refine ww_icmp_ge (tgt := 77) C0 dX5_holdsFast_6 (by decide) (fun h6 => ?_) (fun h6 => ?_)
            · skip
              replace h6 := (nI_leE (a := 2) (b := 1) rfl rfl (by omega) (by omega)).mp h6
              exfalso; omega
            · skip
              replace h6 := (not_congr (nI_leE (a := 2) (b := 1) rfl rfl (by omega) (by omega))).mp h6
              refine ww_aload_n C0 dX5_holdsFast_9 rfl ?_
              refine ww_get C0 (ci := 5) (C := RX5) (T := TX5) (N := 33) ku_X5 0 rfl rfl 15 (by decide) kw_X5_34 rfl dX5_holdsFast_10 ?_
              refine ww_iload_n C0 dX5_holdsFast_13 rfl ?_
              refine ww_iload_n C0 dX5_holdsFast_14 rfl ?_
              refine ww_perm (perm_mv 6 1 1 _) ?_
              simp only [List.drop_succ_cons, List.drop_zero, List.take_succ_cons, List.take_zero, List.cons_append, List.nil_append, Nat.reduceAdd]
              refine ww_callSi C0 (c_X5_toStone l D cI cZ cQ hk5) kd_X5_toStone kw_X5_119 ks_X5_toStone ki_X5 hd_X5_toStone ⟨Nat.le_of_ble_eq_true rfl, Nat.le_of_ble_eq_true rfl, rfl, rfl⟩ (Nat.le_of_ble_eq_true rfl) dX5_holdsFast_15 rfl rfl ⟨Nat.zero_le _, Nat.zero_le _⟩ ?_
              refine ww_perm (perm_mv 6 1 1 _) ?_
              simp only [List.drop_succ_cons, List.drop_zero, List.take_succ_cons, List.take_zero, List.cons_append, List.nil_append, Nat.reduceAdd]
              refine ww_bipush (v := (-9)) C0 dX5_holdsFast_18 rfl ?_
              refine ww_icmp_eq (tgt := 40) C0 dX5_holdsFast_20 (by decide) (fun h20 => ?_) (fun h20 => ?_)
              · skip
                refine ww_iconst (v := (0)) C0 dX5_holdsFast_40 rfl ?_
                refine ww_istore (i := 4) C0 dX5_holdsFast_41 (Nat.le_of_ble_eq_true rfl) rfl ?_
                simp only [List.set_cons_zero, List.set_cons_succ]
                refine ww_iload_n C0 dX5_holdsFast_43 rfl ?_
                refine ww_if_eq (tgt := 69) C0 dX5_holdsFast_44 (by decide) (fun h44 => ?_) (fun h44 => ?_)
                · skip
                  replace h44 := (nI_eqE (a := 1) (b := 0) rfl rfl (by omega) (by omega)).mp h44
                  exfalso; omega
                · skip
                  replace h44 := (not_congr (nI_eqE (a := 1) (b := 0) rfl rfl (by omega) (by omega))).mp h44
                  refine ww_iload C0 dX5_holdsFast_47 rfl ?_
                  refine ww_if_eq (tgt := 65) C0 dX5_holdsFast_49 (by decide) (fun h49 => ?_) (fun h49 => ?_)
                  · skip
                    replace h49 := (nI_eqE (a := 0) (b := 0) rfl rfl (by omega) (by omega)).mp h49
                    refine ww_iconst (v := (1)) C0 dX5_holdsFast_65 rfl ?_
                    refine ww_goto (tgt := 70) C0 dX5_holdsFast_66 (by decide) ?_
                    refine ww_istore_n (i := 2) C0 dX5_holdsFast_70 rfl (Nat.le_of_ble_eq_true rfl) rfl ?_
                    simp only [List.set_cons_zero, List.set_cons_succ]
                    refine ww_iinc (d := 1) C0 dX5_holdsFast_71 rfl rfl rfl ?_
                    simp only [List.set_cons_zero, List.set_cons_succ]
                    refine ww_goto (tgt := 4) C0 dX5_holdsFast_74 (by decide) ?_
                    refine ww_cong (lo' := [_, _, _, .int 2, _]) ?_ (by rfl) rfl rfl
                    refine ww_iload_n C0 dX5_holdsFast_4 rfl ?_
                    refine ww_iconst (v := (2)) C0 dX5_holdsFast_5 rfl ?_
                    refine ww_icmp_ge (tgt := 77) C0 dX5_holdsFast_6 (by decide) (fun h6 => ?_) (fun h6 => ?_)
                    · skip
                      replace h6 := (nI_leE (a := 2) (b := 2) rfl rfl (by omega) (by omega)).mp h6
                      refine ww_iload_n C0 dX5_holdsFast_77 rfl ?_
                      exact ww_zret C0 hr dX5_holdsFast_78 (by simp [mHold1, bI, *]) (by rfl)
                    · skip
                      replace h6 := (not_congr (nI_leE (a := 2) (b := 2) rfl rfl (by omega) (by omega))).mp h6
                      exfalso; omega
                  · skip
                    replace h49 := (not_congr (nI_eqE (a := 0) (b := 0) rfl rfl (by omega) (by omega))).mp h49
                    exfalso; omega
              · skip
                refine ww_aload_n C0 dX5_holdsFast_23 rfl ?_
                refine ww_aload_n C0 dX5_holdsFast_24 rfl ?_
                refine ww_get C0 (ci := 5) (C := RX5) (T := TX5) (N := 33) ku_X5 0 rfl rfl 15 (by decide) kw_X5_34 rfl dX5_holdsFast_25 ?_
                refine ww_iload_n C0 dX5_holdsFast_28 rfl ?_
                refine ww_iload_n C0 dX5_holdsFast_29 rfl ?_
                refine ww_perm (perm_mv 6 1 1 _) ?_
                simp only [List.drop_succ_cons, List.drop_zero, List.take_succ_cons, List.take_zero, List.cons_append, List.nil_append, Nat.reduceAdd]
                refine ww_callVi C0 (qc := (RX5, TX5, 33)) 0 5 (c_X5_forbids l D cI cZ cQ hnm hna hk) kd_X5_forbids kw_X5_130 km_X5_forbids kl_X5_forbids ki_X5 hd_X5_forbids rfl rfl ⟨Nat.le_of_ble_eq_true rfl, Nat.le_of_ble_eq_true rfl, rfl, rfl⟩ (Nat.le_of_ble_eq_true rfl) dX5_holdsFast_30 rfl rfl rfl ⟨Nat.zero_le _, Nat.zero_le _⟩ ?_
                refine ww_perm (perm_mv 6 1 1 _) ?_
                simp only [List.drop_succ_cons, List.drop_zero, List.take_succ_cons, List.take_zero, List.cons_append, List.nil_append, Nat.reduceAdd]
                refine ww_if_eq (tgt := 40) C0 dX5_holdsFast_33 (by decide) (fun h33 => ?_) (fun h33 => ?_)
                · skip
                  refine ww_iconst (v := (0)) C0 dX5_holdsFast_40 rfl ?_
                  refine ww_istore (i := 4) C0 dX5_holdsFast_41 (Nat.le_of_ble_eq_true rfl) rfl ?_
                  simp only [List.set_cons_zero, List.set_cons_succ]
                  refine ww_iload_n C0 dX5_holdsFast_43 rfl ?_
                  refine ww_if_eq (tgt := 69) C0 dX5_holdsFast_44 (by decide) (fun h44 => ?_) (fun h44 => ?_)
                  · skip
                    replace h44 := (nI_eqE (a := 1) (b := 0) rfl rfl (by omega) (by omega)).mp h44
                    exfalso; omega
                  · skip
                    replace h44 := (not_congr (nI_eqE (a := 1) (b := 0) rfl rfl (by omega) (by omega))).mp h44
                    refine ww_iload C0 dX5_holdsFast_47 rfl ?_
                    refine ww_if_eq (tgt := 65) C0 dX5_holdsFast_49 (by decide) (fun h49 => ?_) (fun h49 => ?_)
                    · skip
                      replace h49 := (nI_eqE (a := 0) (b := 0) rfl rfl (by omega) (by omega)).mp h49
                      refine ww_iconst (v := (1)) C0 dX5_holdsFast_65 rfl ?_
                      refine ww_goto (tgt := 70) C0 dX5_holdsFast_66 (by decide) ?_
                      refine ww_istore_n (i := 2) C0 dX5_holdsFast_70 rfl (Nat.le_of_ble_eq_true rfl) rfl ?_
                      simp only [List.set_cons_zero, List.set_cons_succ]
                      refine ww_iinc (d := 1) C0 dX5_holdsFast_71 rfl rfl rfl ?_
                      simp only [List.set_cons_zero, List.set_cons_succ]
                      refine ww_goto (tgt := 4) C0 dX5_holdsFast_74 (by decide) ?_
                      refine ww_cong (lo' := [_, _, _, .int 2, _]) ?_ (by rfl) rfl rfl
                      refine ww_iload_n C0 dX5_holdsFast_4 rfl ?_
                      refine ww_iconst (v := (2)) C0 dX5_holdsFast_5 rfl ?_
                      refine ww_icmp_ge (tgt := 77) C0 dX5_holdsFast_6 (by decide) (fun h6 => ?_) (fun h6 => ?_)
                      · skip
                        replace h6 := (nI_leE (a := 2) (b := 2) rfl rfl (by omega) (by omega)).mp h6
                        refine ww_iload_n C0 dX5_holdsFast_77 rfl ?_
                        exact ww_zret C0 hr dX5_holdsFast_78 (by simp [mHold1, bI, *]) (by rfl)
                      · skip
                        replace h6 := (not_congr (nI_leE (a := 2) (b := 2) rfl rfl (by omega) (by omega))).mp h6
                        exfalso; omega
                    · skip
                      replace h49 := (not_congr (nI_eqE (a := 0) (b := 0) rfl rfl (by omega) (by omega))).mp h49
                      exfalso; omega
                · skip
                  refine ww_iconst (v := (1)) C0 dX5_holdsFast_36 rfl ?_
                  refine ww_goto (tgt := 41) C0 dX5_holdsFast_37 (by decide) ?_
                  refine ww_istore (i := 4) C0 dX5_holdsFast_41 (Nat.le_of_ble_eq_true rfl) rfl ?_
                  simp only [List.set_cons_zero, List.set_cons_succ]
                  refine ww_iload_n C0 dX5_holdsFast_43 rfl ?_
                  refine ww_if_eq (tgt := 69) C0 dX5_holdsFast_44 (by decide) (fun h44 => ?_) (fun h44 => ?_)
                  · skip
                    replace h44 := (nI_eqE (a := 1) (b := 0) rfl rfl (by omega) (by omega)).mp h44
                    exfalso; omega
                  · skip
                    replace h44 := (not_congr (nI_eqE (a := 1) (b := 0) rfl rfl (by omega) (by omega))).mp h44
                    refine ww_iload C0 dX5_holdsFast_47 rfl ?_
                    refine ww_if_eq (tgt := 65) C0 dX5_holdsFast_49 (by decide) (fun h49 => ?_) (fun h49 => ?_)
                    · skip
                      replace h49 := (nI_eqE (a := 1) (b := 0) rfl rfl (by omega) (by omega)).mp h49
                      exfalso; omega
                    · skip
                      replace h49 := (not_congr (nI_eqE (a := 1) (b := 0) rfl rfl (by omega) (by omega))).mp h49
                      refine ww_aload_n C0 dX5_holdsFast_52 rfl ?_
                      refine ww_aload_n C0 dX5_holdsFast_53 rfl ?_
                      refine ww_get C0 (ci := 5) (C := RX5) (T := TX5) (N := 33) ku_X5 0 rfl rfl 15 (by decide) kw_X5_34 rfl dX5_holdsFast_54 ?_
                      refine ww_iload_n C0 dX5_holdsFast_57 rfl ?_
                      refine ww_iload_n C0 dX5_holdsFast_58 rfl ?_
                      refine ww_perm (perm_mv 6 1 1 _) ?_
                      simp only [List.drop_succ_cons, List.drop_zero, List.take_succ_cons, List.take_zero, List.cons_append, List.nil_append, Nat.reduceAdd]
                      refine ww_callVi C0 (qc := (RX5, TX5, 33)) 0 5 (c_X5_isBalking l D cI cZ cQ hnm hna hk) kd_X5_isBalking kw_X5_164 km_X5_isBalking kl_X5_isBalking ki_X5 hd_X5_isBalking rfl rfl ⟨Nat.le_of_ble_eq_true rfl, Nat.le_of_ble_eq_true rfl, rfl, rfl⟩ (Nat.le_of_ble_eq_true rfl) dX5_holdsFast_59 rfl rfl rfl ⟨Nat.zero_le _, Nat.zero_le _⟩ ?_
                      refine ww_perm (perm_mv 6 1 1 _) ?_
                      simp only [List.drop_succ_cons, List.drop_zero, List.take_succ_cons, List.take_zero, List.cons_append, List.nil_append, Nat.reduceAdd]
                      refine ww_bif_eq (tgt := 69) C0 dX5_holdsFast_62 (by decide) (fun h62 => ?_) (fun h62 => ?_)
                      · skip
                        have hb1 := mBk_f h62
                        refine ww_iconst (v := (0)) C0 dX5_holdsFast_69 rfl ?_
                        refine ww_istore_n (i := 2) C0 dX5_holdsFast_70 rfl (Nat.le_of_ble_eq_true rfl) rfl ?_
                        simp only [List.set_cons_zero, List.set_cons_succ]
                        refine ww_iinc (d := 1) C0 dX5_holdsFast_71 rfl rfl rfl ?_
                        simp only [List.set_cons_zero, List.set_cons_succ]
                        refine ww_goto (tgt := 4) C0 dX5_holdsFast_74 (by decide) ?_
                        refine ww_cong (lo' := [_, _, _, .int 2, _]) ?_ (by rfl) rfl rfl
                        refine ww_iload_n C0 dX5_holdsFast_4 rfl ?_
                        refine ww_iconst (v := (2)) C0 dX5_holdsFast_5 rfl ?_
                        refine ww_icmp_ge (tgt := 77) C0 dX5_holdsFast_6 (by decide) (fun h6 => ?_) (fun h6 => ?_)
                        · skip
                          replace h6 := (nI_leE (a := 2) (b := 2) rfl rfl (by omega) (by omega)).mp h6
                          refine ww_iload_n C0 dX5_holdsFast_77 rfl ?_
                          exact ww_zret C0 hr dX5_holdsFast_78 (by simp [mHold1, bI, *]) (by rfl)
                        · skip
                          replace h6 := (not_congr (nI_leE (a := 2) (b := 2) rfl rfl (by omega) (by omega))).mp h6
                          exfalso; omega
                      · skip
                        have hb1 := mBk_t h62
                        refine ww_iconst (v := (1)) C0 dX5_holdsFast_65 rfl ?_
                        refine ww_goto (tgt := 70) C0 dX5_holdsFast_66 (by decide) ?_
                        refine ww_istore_n (i := 2) C0 dX5_holdsFast_70 rfl (Nat.le_of_ble_eq_true rfl) rfl ?_
                        simp only [List.set_cons_zero, List.set_cons_succ]
                        refine ww_iinc (d := 1) C0 dX5_holdsFast_71 rfl rfl rfl ?_
                        simp only [List.set_cons_zero, List.set_cons_succ]
                        refine ww_goto (tgt := 4) C0 dX5_holdsFast_74 (by decide) ?_
                        refine ww_cong (lo' := [_, _, _, .int 2, _]) ?_ (by rfl) rfl rfl
                        refine ww_iload_n C0 dX5_holdsFast_4 rfl ?_
                        refine ww_iconst (v := (2)) C0 dX5_holdsFast_5 rfl ?_
                        refine ww_icmp_ge (tgt := 77) C0 dX5_holdsFast_6 (by decide) (fun h6 => ?_) (fun h6 => ?_)
                        · skip
                          replace h6 := (nI_leE (a := 2) (b := 2) rfl rfl (by omega) (by omega)).mp h6
                          refine ww_iload_n C0 dX5_holdsFast_77 rfl ?_
                          exact ww_zret C0 hr dX5_holdsFast_78 (by simp [mHold1, bI, *]) (by rfl)
                        · skip
                          replace h6 := (not_congr (nI_leE (a := 2) (b := 2) rfl rfl (by omega) (by omega))).mp h6
                          exfalso; omega
          · skip
            replace h49 := (not_congr (nI_eqE (a := 0) (b := 0) rfl rfl (by omega) (by omega))).mp h49
            exfalso; omega
      · skip
        refine ww_iconst (v := (1)) C0 dX5_holdsFast_36 rfl ?_
        refine ww_goto (tgt := 41) C0 dX5_holdsFast_37 (by decide) ?_
        refine ww_istore (i := 4) C0 dX5_holdsFast_41 (Nat.le_of_ble_eq_true rfl) rfl ?_
        simp only [List.set_cons_zero, List.set_cons_succ]
        refine ww_iload_n C0 dX5_holdsFast_43 rfl ?_
        refine ww_if_eq (tgt := 69) C0 dX5_holdsFast_44 (by decide) (fun h44 => ?_) (fun h44 => ?_)
        · skip
          replace h44 := (nI_eqE (a := 1) (b := 0) rfl rfl (by omega) (by omega)).mp h44
          exfalso; omega
        · skip
          replace h44 := (not_congr (nI_eqE (a := 1) (b := 0) rfl rfl (by omega) (by omega))).mp h44
          refine ww_iload C0 dX5_holdsFast_47 rfl ?_
          refine ww_if_eq (tgt := 65) C0 dX5_holdsFast_49 (by decide) (fun h49 => ?_) (fun h49 => ?_)
          · skip
            replace h49 := (nI_eqE (a := 1) (b := 0) rfl rfl (by omega) (by omega)).mp h49
            exfalso; omega
          · skip
            replace h49 := (not_congr (nI_eqE (a := 1) (b := 0) rfl rfl (by omega) (by omega))).mp h49
            refine ww_aload_n C0 dX5_holdsFast_52 rfl ?_
            refine ww_aload_n C0 dX5_holdsFast_53 rfl ?_
            refine ww_get C0 (ci := 5) (C := RX5) (T := TX5) (N := 33) ku_X5 0 rfl rfl 15 (by decide) kw_X5_34 rfl dX5_holdsFast_54 ?_
            refine ww_iload_n C0 dX5_holdsFast_57 rfl ?_
            refine ww_iload_n C0 dX5_holdsFast_58 rfl ?_
            refine ww_perm (perm_mv 6 1 1 _) ?_
            simp only [List.drop_succ_cons, List.drop_zero, List.take_succ_cons, List.take_zero, List.cons_append, List.nil_append, Nat.reduceAdd]
            refine ww_callVi C0 (qc := (RX5, TX5, 33)) 0 5 (c_X5_isBalking l D cI cZ cQ hnm hna hk) kd_X5_isBalking kw_X5_164 km_X5_isBalking kl_X5_isBalking ki_X5 hd_X5_isBalking rfl rfl ⟨Nat.le_of_ble_eq_true rfl, Nat.le_of_ble_eq_true rfl, rfl, rfl⟩ (Nat.le_of_ble_eq_true rfl) dX5_holdsFast_59 rfl rfl rfl ⟨Nat.zero_le _, Nat.zero_le _⟩ ?_
            refine ww_perm (perm_mv 6 1 1 _) ?_
            simp only [List.drop_succ_cons, List.drop_zero, List.take_succ_cons, List.take_zero, List.cons_append, List.nil_append, Nat.reduceAdd]
            refine ww_bif_eq (tgt := 69) C0 dX5_holdsFast_62 (by decide) (fun h62 => ?_) (fun h62 => ?_)
            · skip
              have hb1 := mBk_f h62
              refine ww_iconst (v := (0)) C0 dX5_holdsFast_69 rfl ?_
              refine ww_istore_n (i := 2) C0 dX5_holdsFast_70 rfl (Nat.le_of_ble_eq_true rfl) rfl ?_
              simp only [List.set_cons_zero, List.set_cons_succ]
              refine ww_iinc (d := 1) C0 dX5_holdsFast_71 rfl rfl rfl ?_
              simp only [List.set_cons_zero, List.set_cons_succ]
              refine ww_goto (tgt := 4) C0 dX5_holdsFast_74 (by decide) ?_
              refine ww_cong (lo' := [_, _, _, .int 1, _]) ?_ (by rfl) rfl rfl
              refine ww_iload_n C0 dX5_holdsFast_4 rfl ?_
              refine ww_iconst (v := (2)) C0 dX5_holdsFast_5 rfl ?_
              refine ww_icmp_ge (tgt := 77) C0 dX5_holdsFast_6 (by decide) (fun h6 => ?_) (fun h6 => ?_)
              · skip
                replace h6 := (nI_leE (a := 2) (b := 1) rfl rfl (by omega) (by omega)).mp h6
                exfalso; omega
              · skip
                replace h6 := (not_congr (nI_leE (a := 2) (b := 1) rfl rfl (by omega) (by omega))).mp h6
                refine ww_aload_n C0 dX5_holdsFast_9 rfl ?_
                refine ww_get C0 (ci := 5) (C := RX5) (T := TX5) (N := 33) ku_X5 0 rfl rfl 15 (by decide) kw_X5_34 rfl dX5_holdsFast_10 ?_
                refine ww_iload_n C0 dX5_holdsFast_13 rfl ?_
                refine ww_iload_n C0 dX5_holdsFast_14 rfl ?_
                refine ww_perm (perm_mv 6 1 1 _) ?_
                simp only [List.drop_succ_cons, List.drop_zero, List.take_succ_cons, List.take_zero, List.cons_append, List.nil_append, Nat.reduceAdd]
                refine ww_callSi C0 (c_X5_toStone l D cI cZ cQ hk5) kd_X5_toStone kw_X5_119 ks_X5_toStone ki_X5 hd_X5_toStone ⟨Nat.le_of_ble_eq_true rfl, Nat.le_of_ble_eq_true rfl, rfl, rfl⟩ (Nat.le_of_ble_eq_true rfl) dX5_holdsFast_15 rfl rfl ⟨Nat.zero_le _, Nat.zero_le _⟩ ?_
                refine ww_perm (perm_mv 6 1 1 _) ?_
                simp only [List.drop_succ_cons, List.drop_zero, List.take_succ_cons, List.take_zero, List.cons_append, List.nil_append, Nat.reduceAdd]
                refine ww_bipush (v := (-9)) C0 dX5_holdsFast_18 rfl ?_
                refine ww_icmp_eq (tgt := 40) C0 dX5_holdsFast_20 (by decide) (fun h20 => ?_) (fun h20 => ?_)
                · skip
                  refine ww_iconst (v := (0)) C0 dX5_holdsFast_40 rfl ?_
                  refine ww_istore (i := 4) C0 dX5_holdsFast_41 (Nat.le_of_ble_eq_true rfl) rfl ?_
                  simp only [List.set_cons_zero, List.set_cons_succ]
                  refine ww_iload_n C0 dX5_holdsFast_43 rfl ?_
                  refine ww_if_eq (tgt := 69) C0 dX5_holdsFast_44 (by decide) (fun h44 => ?_) (fun h44 => ?_)
                  · skip
                    replace h44 := (nI_eqE (a := 0) (b := 0) rfl rfl (by omega) (by omega)).mp h44
                    refine ww_iconst (v := (0)) C0 dX5_holdsFast_69 rfl ?_
                    refine ww_istore_n (i := 2) C0 dX5_holdsFast_70 rfl (Nat.le_of_ble_eq_true rfl) rfl ?_
                    simp only [List.set_cons_zero, List.set_cons_succ]
                    refine ww_iinc (d := 1) C0 dX5_holdsFast_71 rfl rfl rfl ?_
                    simp only [List.set_cons_zero, List.set_cons_succ]
                    refine ww_goto (tgt := 4) C0 dX5_holdsFast_74 (by decide) ?_
                    refine ww_cong (lo' := [_, _, _, .int 2, _]) ?_ (by rfl) rfl rfl
                    refine ww_iload_n C0 dX5_holdsFast_4 rfl ?_
                    refine ww_iconst (v := (2)) C0 dX5_holdsFast_5 rfl ?_
                    refine ww_icmp_ge (tgt := 77) C0 dX5_holdsFast_6 (by decide) (fun h6 => ?_) (fun h6 => ?_)
                    · skip
                      replace h6 := (nI_leE (a := 2) (b := 2) rfl rfl (by omega) (by omega)).mp h6
                      refine ww_iload_n C0 dX5_holdsFast_77 rfl ?_
                      exact ww_zret C0 hr dX5_holdsFast_78 (by simp [mHold1, bI, *]) (by rfl)
                    · skip
                      replace h6 := (not_congr (nI_leE (a := 2) (b := 2) rfl rfl (by omega) (by omega))).mp h6
                      exfalso; omega
                  · skip
                    replace h44 := (not_congr (nI_eqE (a := 0) (b := 0) rfl rfl (by omega) (by omega))).mp h44
                    exfalso; omega
                · skip
                  refine ww_aload_n C0 dX5_holdsFast_23 rfl ?_
                  refine ww_aload_n C0 dX5_holdsFast_24 rfl ?_
                  refine ww_get C0 (ci := 5) (C := RX5) (T := TX5) (N := 33) ku_X5 0 rfl rfl 15 (by decide) kw_X5_34 rfl dX5_holdsFast_25 ?_
                  refine ww_iload_n C0 dX5_holdsFast_28 rfl ?_
                  refine ww_iload_n C0 dX5_holdsFast_29 rfl ?_
                  refine ww_perm (perm_mv 6 1 1 _) ?_
                  simp only [List.drop_succ_cons, List.drop_zero, List.take_succ_cons, List.take_zero, List.cons_append, List.nil_append, Nat.reduceAdd]
                  refine ww_callVi C0 (qc := (RX5, TX5, 33)) 0 5 (c_X5_forbids l D cI cZ cQ hnm hna hk) kd_X5_forbids kw_X5_130 km_X5_forbids kl_X5_forbids ki_X5 hd_X5_forbids rfl rfl ⟨Nat.le_of_ble_eq_true rfl, Nat.le_of_ble_eq_true rfl, rfl, rfl⟩ (Nat.le_of_ble_eq_true rfl) dX5_holdsFast_30 rfl rfl rfl ⟨Nat.zero_le _, Nat.zero_le _⟩ ?_
                  refine ww_perm (perm_mv 6 1 1 _) ?_
                  simp only [List.drop_succ_cons, List.drop_zero, List.take_succ_cons, List.take_zero, List.cons_append, List.nil_append, Nat.reduceAdd]
                  refine ww_if_eq (tgt := 40) C0 dX5_holdsFast_33 (by decide) (fun h33 => ?_) (fun h33 => ?_)
                  · skip
                    refine ww_iconst (v := (0)) C0 dX5_holdsFast_40 rfl ?_
                    refine ww_istore (i := 4) C0 dX5_holdsFast_41 (Nat.le_of_ble_eq_true rfl) rfl ?_
                    simp only [List.set_cons_zero, List.set_cons_succ]
                    refine ww_iload_n C0 dX5_holdsFast_43 rfl ?_
                    refine ww_if_eq (tgt := 69) C0 dX5_holdsFast_44 (by decide) (fun h44 => ?_) (fun h44 => ?_)
                    · skip
                      replace h44 := (nI_eqE (a := 0) (b := 0) rfl rfl (by omega) (by omega)).mp h44
                      refine ww_iconst (v := (0)) C0 dX5_holdsFast_69 rfl ?_
                      refine ww_istore_n (i := 2) C0 dX5_holdsFast_70 rfl (Nat.le_of_ble_eq_true rfl) rfl ?_
                      simp only [List.set_cons_zero, List.set_cons_succ]
                      refine ww_iinc (d := 1) C0 dX5_holdsFast_71 rfl rfl rfl ?_
                      simp only [List.set_cons_zero, List.set_cons_succ]
                      refine ww_goto (tgt := 4) C0 dX5_holdsFast_74 (by decide) ?_
                      refine ww_cong (lo' := [_, _, _, .int 2, _]) ?_ (by rfl) rfl rfl
                      refine ww_iload_n C0 dX5_holdsFast_4 rfl ?_
                      refine ww_iconst (v := (2)) C0 dX5_holdsFast_5 rfl ?_
                      refine ww_icmp_ge (tgt := 77) C0 dX5_holdsFast_6 (by decide) (fun h6 => ?_) (fun h6 => ?_)
                      · skip
                        replace h6 := (nI_leE (a := 2) (b := 2) rfl rfl (by omega) (by omega)).mp h6
                        refine ww_iload_n C0 dX5_holdsFast_77 rfl ?_
                        exact ww_zret C0 hr dX5_holdsFast_78 (by simp [mHold1, bI, *]) (by rfl)
                      · skip
                        replace h6 := (not_congr (nI_leE (a := 2) (b := 2) rfl rfl (by omega) (by omega))).mp h6
                        exfalso; omega
                    · skip
                      replace h44 := (not_congr (nI_eqE (a := 0) (b := 0) rfl rfl (by omega) (by omega))).mp h44
                      exfalso; omega
                  · skip
                    refine ww_iconst (v := (1)) C0 dX5_holdsFast_36 rfl ?_
                    refine ww_goto (tgt := 41) C0 dX5_holdsFast_37 (by decide) ?_
                    refine ww_istore (i := 4) C0 dX5_holdsFast_41 (Nat.le_of_ble_eq_true rfl) rfl ?_
                    simp only [List.set_cons_zero, List.set_cons_succ]
                    refine ww_iload_n C0 dX5_holdsFast_43 rfl ?_
                    refine ww_if_eq (tgt := 69) C0 dX5_holdsFast_44 (by decide) (fun h44 => ?_) (fun h44 => ?_)
                    · skip
                      replace h44 := (nI_eqE (a := 0) (b := 0) rfl rfl (by omega) (by omega)).mp h44
                      refine ww_iconst (v := (0)) C0 dX5_holdsFast_69 rfl ?_
                      refine ww_istore_n (i := 2) C0 dX5_holdsFast_70 rfl (Nat.le_of_ble_eq_true rfl) rfl ?_
                      simp only [List.set_cons_zero, List.set_cons_succ]
                      refine ww_iinc (d := 1) C0 dX5_holdsFast_71 rfl rfl rfl ?_
                      simp only [List.set_cons_zero, List.set_cons_succ]
                      refine ww_goto (tgt := 4) C0 dX5_holdsFast_74 (by decide) ?_
                      refine ww_cong (lo' := [_, _, _, .int 2, _]) ?_ (by rfl) rfl rfl
                      refine ww_iload_n C0 dX5_holdsFast_4 rfl ?_
                      refine ww_iconst (v := (2)) C0 dX5_holdsFast_5 rfl ?_
                      refine ww_icmp_ge (tgt := 77) C0 dX5_holdsFast_6 (by decide) (fun h6 => ?_) (fun h6 => ?_)
                      · skip
                        replace h6 := (nI_leE (a := 2) (b := 2) rfl rfl (by omega) (by omega)).mp h6
                        refine ww_iload_n C0 dX5_holdsFast_77 rfl ?_
                        exact ww_zret C0 hr dX5_holdsFast_78 (by simp [mHold1, bI, *]) (by rfl)
                      · skip
                        replace h6 := (not_congr (nI_leE (a := 2) (b := 2) rfl rfl (by omega) (by omega))).mp h6
                        exfalso; omega
                    · skip
                      replace h44 := (not_congr (nI_eqE (a := 0) (b := 0) rfl rfl (by omega) (by omega))).mp h44
                      exfalso; omega
            · skip
              have hb1 := mBk_t h62
              refine ww_iconst (v := (1)) C0 dX5_holdsFast_65 rfl ?_
              refine ww_goto (tgt := 70) C0 dX5_holdsFast_66 (by decide) ?_
              refine ww_istore_n (i := 2) C0 dX5_holdsFast_70 rfl (Nat.le_of_ble_eq_true rfl) rfl ?_
              simp only [List.set_cons_zero, List.set_cons_succ]
              refine ww_iinc (d := 1) C0 dX5_holdsFast_71 rfl rfl rfl ?_
              simp only [List.set_cons_zero, List.set_cons_succ]
              refine ww_goto (tgt := 4) C0 dX5_holdsFast_74 (by decide) ?_
              refine ww_cong (lo' := [_, _, _, .int 1, _]) ?_ (by rfl) rfl rfl
              refine ww_iload_n C0 dX5_holdsFast_4 rfl ?_
              refine ww_iconst (v := (2)) C0 dX5_holdsFast_5 rfl ?_
              refine ww_icmp_ge (tgt := 77) C0 dX5_holdsFast_6 (by decide) (fun h6 => ?_) (fun h6 => ?_)
              · skip
                replace h6 := (nI_leE (a := 2) (b := 1) rfl rfl (by omega) (by omega)).mp h6
                exfalso; omega
              · skip
                replace h6 := (not_congr (nI_leE (a := 2) (b := 1) rfl rfl (by omega) (by omega))).mp h6
                refine ww_aload_n C0 dX5_holdsFast_9 rfl ?_
                refine ww_get C0 (ci := 5) (C := RX5) (T := TX5) (N := 33) ku_X5 0 rfl rfl 15 (by decide) kw_X5_34 rfl dX5_holdsFast_10 ?_
                refine ww_iload_n C0 dX5_holdsFast_13 rfl ?_
                refine ww_iload_n C0 dX5_holdsFast_14 rfl ?_
                refine ww_perm (perm_mv 6 1 1 _) ?_
                simp only [List.drop_succ_cons, List.drop_zero, List.take_succ_cons, List.take_zero, List.cons_append, List.nil_append, Nat.reduceAdd]
                refine ww_callSi C0 (c_X5_toStone l D cI cZ cQ hk5) kd_X5_toStone kw_X5_119 ks_X5_toStone ki_X5 hd_X5_toStone ⟨Nat.le_of_ble_eq_true rfl, Nat.le_of_ble_eq_true rfl, rfl, rfl⟩ (Nat.le_of_ble_eq_true rfl) dX5_holdsFast_15 rfl rfl ⟨Nat.zero_le _, Nat.zero_le _⟩ ?_
                refine ww_perm (perm_mv 6 1 1 _) ?_
                simp only [List.drop_succ_cons, List.drop_zero, List.take_succ_cons, List.take_zero, List.cons_append, List.nil_append, Nat.reduceAdd]
                refine ww_bipush (v := (-9)) C0 dX5_holdsFast_18 rfl ?_
                refine ww_icmp_eq (tgt := 40) C0 dX5_holdsFast_20 (by decide) (fun h20 => ?_) (fun h20 => ?_)
                · skip
                  refine ww_iconst (v := (0)) C0 dX5_holdsFast_40 rfl ?_
                  refine ww_istore (i := 4) C0 dX5_holdsFast_41 (Nat.le_of_ble_eq_true rfl) rfl ?_
                  simp only [List.set_cons_zero, List.set_cons_succ]
                  refine ww_iload_n C0 dX5_holdsFast_43 rfl ?_
                  refine ww_if_eq (tgt := 69) C0 dX5_holdsFast_44 (by decide) (fun h44 => ?_) (fun h44 => ?_)
                  · skip
                    replace h44 := (nI_eqE (a := 1) (b := 0) rfl rfl (by omega) (by omega)).mp h44
                    exfalso; omega
                  · skip
                    replace h44 := (not_congr (nI_eqE (a := 1) (b := 0) rfl rfl (by omega) (by omega))).mp h44
                    refine ww_iload C0 dX5_holdsFast_47 rfl ?_
                    refine ww_if_eq (tgt := 65) C0 dX5_holdsFast_49 (by decide) (fun h49 => ?_) (fun h49 => ?_)
                    · skip
                      replace h49 := (nI_eqE (a := 0) (b := 0) rfl rfl (by omega) (by omega)).mp h49
                      refine ww_iconst (v := (1)) C0 dX5_holdsFast_65 rfl ?_
                      refine ww_goto (tgt := 70) C0 dX5_holdsFast_66 (by decide) ?_
                      refine ww_istore_n (i := 2) C0 dX5_holdsFast_70 rfl (Nat.le_of_ble_eq_true rfl) rfl ?_
                      simp only [List.set_cons_zero, List.set_cons_succ]
                      refine ww_iinc (d := 1) C0 dX5_holdsFast_71 rfl rfl rfl ?_
                      simp only [List.set_cons_zero, List.set_cons_succ]
                      refine ww_goto (tgt := 4) C0 dX5_holdsFast_74 (by decide) ?_
                      refine ww_cong (lo' := [_, _, _, .int 2, _]) ?_ (by rfl) rfl rfl
                      refine ww_iload_n C0 dX5_holdsFast_4 rfl ?_
                      refine ww_iconst (v := (2)) C0 dX5_holdsFast_5 rfl ?_
                      refine ww_icmp_ge (tgt := 77) C0 dX5_holdsFast_6 (by decide) (fun h6 => ?_) (fun h6 => ?_)
                      · skip
                        replace h6 := (nI_leE (a := 2) (b := 2) rfl rfl (by omega) (by omega)).mp h6
                        refine ww_iload_n C0 dX5_holdsFast_77 rfl ?_
                        exact ww_zret C0 hr dX5_holdsFast_78 (by simp [mHold1, bI, *]) (by rfl)
                      · skip
                        replace h6 := (not_congr (nI_leE (a := 2) (b := 2) rfl rfl (by omega) (by omega))).mp h6
                        exfalso; omega
                    · skip
                      replace h49 := (not_congr (nI_eqE (a := 0) (b := 0) rfl rfl (by omega) (by omega))).mp h49
                      exfalso; omega
                · skip
                  refine ww_aload_n C0 dX5_holdsFast_23 rfl ?_
                  refine ww_aload_n C0 dX5_holdsFast_24 rfl ?_
                  refine ww_get C0 (ci := 5) (C := RX5) (T := TX5) (N := 33) ku_X5 0 rfl rfl 15 (by decide) kw_X5_34 rfl dX5_holdsFast_25 ?_
                  refine ww_iload_n C0 dX5_holdsFast_28 rfl ?_
                  refine ww_iload_n C0 dX5_holdsFast_29 rfl ?_
                  refine ww_perm (perm_mv 6 1 1 _) ?_
                  simp only [List.drop_succ_cons, List.drop_zero, List.take_succ_cons, List.take_zero, List.cons_append, List.nil_append, Nat.reduceAdd]
                  refine ww_callVi C0 (qc := (RX5, TX5, 33)) 0 5 (c_X5_forbids l D cI cZ cQ hnm hna hk) kd_X5_forbids kw_X5_130 km_X5_forbids kl_X5_forbids ki_X5 hd_X5_forbids rfl rfl ⟨Nat.le_of_ble_eq_true rfl, Nat.le_of_ble_eq_true rfl, rfl, rfl⟩ (Nat.le_of_ble_eq_true rfl) dX5_holdsFast_30 rfl rfl rfl ⟨Nat.zero_le _, Nat.zero_le _⟩ ?_
                  refine ww_perm (perm_mv 6 1 1 _) ?_
                  simp only [List.drop_succ_cons, List.drop_zero, List.take_succ_cons, List.take_zero, List.cons_append, List.nil_append, Nat.reduceAdd]
                  refine ww_if_eq (tgt := 40) C0 dX5_holdsFast_33 (by decide) (fun h33 => ?_) (fun h33 => ?_)
                  · skip
                    refine ww_iconst (v := (0)) C0 dX5_holdsFast_40 rfl ?_
                    refine ww_istore (i := 4) C0 dX5_holdsFast_41 (Nat.le_of_ble_eq_true rfl) rfl ?_
                    simp only [List.set_cons_zero, List.set_cons_succ]
                    refine ww_iload_n C0 dX5_holdsFast_43 rfl ?_
                    refine ww_if_eq (tgt := 69) C0 dX5_holdsFast_44 (by decide) (fun h44 => ?_) (fun h44 => ?_)
                    · skip
                      replace h44 := (nI_eqE (a := 1) (b := 0) rfl rfl (by omega) (by omega)).mp h44
                      exfalso; omega
                    · skip
                      replace h44 := (not_congr (nI_eqE (a := 1) (b := 0) rfl rfl (by omega) (by omega))).mp h44
                      refine ww_iload C0 dX5_holdsFast_47 rfl ?_
                      refine ww_if_eq (tgt := 65) C0 dX5_holdsFast_49 (by decide) (fun h49 => ?_) (fun h49 => ?_)
                      · skip
                        replace h49 := (nI_eqE (a := 0) (b := 0) rfl rfl (by omega) (by omega)).mp h49
                        refine ww_iconst (v := (1)) C0 dX5_holdsFast_65 rfl ?_
                        refine ww_goto (tgt := 70) C0 dX5_holdsFast_66 (by decide) ?_
                        refine ww_istore_n (i := 2) C0 dX5_holdsFast_70 rfl (Nat.le_of_ble_eq_true rfl) rfl ?_
                        simp only [List.set_cons_zero, List.set_cons_succ]
                        refine ww_iinc (d := 1) C0 dX5_holdsFast_71 rfl rfl rfl ?_
                        simp only [List.set_cons_zero, List.set_cons_succ]
                        refine ww_goto (tgt := 4) C0 dX5_holdsFast_74 (by decide) ?_
                        refine ww_cong (lo' := [_, _, _, .int 2, _]) ?_ (by rfl) rfl rfl
                        refine ww_iload_n C0 dX5_holdsFast_4 rfl ?_
                        refine ww_iconst (v := (2)) C0 dX5_holdsFast_5 rfl ?_
                        refine ww_icmp_ge (tgt := 77) C0 dX5_holdsFast_6 (by decide) (fun h6 => ?_) (fun h6 => ?_)
                        · skip
                          replace h6 := (nI_leE (a := 2) (b := 2) rfl rfl (by omega) (by omega)).mp h6
                          refine ww_iload_n C0 dX5_holdsFast_77 rfl ?_
                          exact ww_zret C0 hr dX5_holdsFast_78 (by simp [mHold1, bI, *]) (by rfl)
                        · skip
                          replace h6 := (not_congr (nI_leE (a := 2) (b := 2) rfl rfl (by omega) (by omega))).mp h6
                          exfalso; omega
                      · skip
                        replace h49 := (not_congr (nI_eqE (a := 0) (b := 0) rfl rfl (by omega) (by omega))).mp h49
                        exfalso; omega
                  · skip
                    refine ww_iconst (v := (1)) C0 dX5_holdsFast_36 rfl ?_
                    refine ww_goto (tgt := 41) C0 dX5_holdsFast_37 (by decide) ?_
                    refine ww_istore (i := 4) C0 dX5_holdsFast_41 (Nat.le_of_ble_eq_true rfl) rfl ?_
                    simp only [List.set_cons_zero, List.set_cons_succ]
                    refine ww_iload_n C0 dX5_holdsFast_43 rfl ?_
                    refine ww_if_eq (tgt := 69) C0 dX5_holdsFast_44 (by decide) (fun h44 => ?_) (fun h44 => ?_)
                    · skip
                      replace h44 := (nI_eqE (a := 1) (b := 0) rfl rfl (by omega) (by omega)).mp h44
                      exfalso; omega
                    · skip
                      replace h44 := (not_congr (nI_eqE (a := 1) (b := 0) rfl rfl (by omega) (by omega))).mp h44
                      refine ww_iload C0 dX5_holdsFast_47 rfl ?_
                      refine ww_if_eq (tgt := 65) C0 dX5_holdsFast_49 (by decide) (fun h49 => ?_) (fun h49 => ?_)
                      · skip
                        replace h49 := (nI_eqE (a := 1) (b := 0) rfl rfl (by omega) (by omega)).mp h49
                        exfalso; omega
                      · skip
                        replace h49 := (not_congr (nI_eqE (a := 1) (b := 0) rfl rfl (by omega) (by omega))).mp h49
                        refine ww_aload_n C0 dX5_holdsFast_52 rfl ?_
                        refine ww_aload_n C0 dX5_holdsFast_53 rfl ?_
                        refine ww_get C0 (ci := 5) (C := RX5) (T := TX5) (N := 33) ku_X5 0 rfl rfl 15 (by decide) kw_X5_34 rfl dX5_holdsFast_54 ?_
                        refine ww_iload_n C0 dX5_holdsFast_57 rfl ?_
                        refine ww_iload_n C0 dX5_holdsFast_58 rfl ?_
                        refine ww_perm (perm_mv 6 1 1 _) ?_
                        simp only [List.drop_succ_cons, List.drop_zero, List.take_succ_cons, List.take_zero, List.cons_append, List.nil_append, Nat.reduceAdd]
                        refine ww_callVi C0 (qc := (RX5, TX5, 33)) 0 5 (c_X5_isBalking l D cI cZ cQ hnm hna hk) kd_X5_isBalking kw_X5_164 km_X5_isBalking kl_X5_isBalking ki_X5 hd_X5_isBalking rfl rfl ⟨Nat.le_of_ble_eq_true rfl, Nat.le_of_ble_eq_true rfl, rfl, rfl⟩ (Nat.le_of_ble_eq_true rfl) dX5_holdsFast_59 rfl rfl rfl ⟨Nat.zero_le _, Nat.zero_le _⟩ ?_
                        refine ww_perm (perm_mv 6 1 1 _) ?_
                        simp only [List.drop_succ_cons, List.drop_zero, List.take_succ_cons, List.take_zero, List.cons_append, List.nil_append, Nat.reduceAdd]
                        refine ww_bif_eq (tgt := 69) C0 dX5_holdsFast_62 (by decide) (fun h62 => ?_) (fun h62 => ?_)
                        · skip
                          have hb1 := mBk_f h62
                          refine ww_iconst (v := (0)) C0 dX5_holdsFast_69 rfl ?_
                          refine ww_istore_n (i := 2) C0 dX5_holdsFast_70 rfl (Nat.le_of_ble_eq_true rfl) rfl ?_
                          simp only [List.set_cons_zero, List.set_cons_succ]
                          refine ww_iinc (d := 1) C0 dX5_holdsFast_71 rfl rfl rfl ?_
                          simp only [List.set_cons_zero, List.set_cons_succ]
                          refine ww_goto (tgt := 4) C0 dX5_holdsFast_74 (by decide) ?_
                          refine ww_cong (lo' := [_, _, _, .int 2, _]) ?_ (by rfl) rfl rfl
                          refine ww_iload_n C0 dX5_holdsFast_4 rfl ?_
                          refine ww_iconst (v := (2)) C0 dX5_holdsFast_5 rfl ?_
                          refine ww_icmp_ge (tgt := 77) C0 dX5_holdsFast_6 (by decide) (fun h6 => ?_) (fun h6 => ?_)
                          · skip
                            replace h6 := (nI_leE (a := 2) (b := 2) rfl rfl (by omega) (by omega)).mp h6
                            refine ww_iload_n C0 dX5_holdsFast_77 rfl ?_
                            exact ww_zret C0 hr dX5_holdsFast_78 (by simp [mHold1, bI, *]) (by rfl)
                          · skip
                            replace h6 := (not_congr (nI_leE (a := 2) (b := 2) rfl rfl (by omega) (by omega))).mp h6
                            exfalso; omega
                        · skip
                          have hb1 := mBk_t h62
                          refine ww_iconst (v := (1)) C0 dX5_holdsFast_65 rfl ?_
                          refine ww_goto (tgt := 70) C0 dX5_holdsFast_66 (by decide) ?_
                          refine ww_istore_n (i := 2) C0 dX5_holdsFast_70 rfl (Nat.le_of_ble_eq_true rfl) rfl ?_
                          simp only [List.set_cons_zero, List.set_cons_succ]
                          refine ww_iinc (d := 1) C0 dX5_holdsFast_71 rfl rfl rfl ?_
                          simp only [List.set_cons_zero, List.set_cons_succ]
                          refine ww_goto (tgt := 4) C0 dX5_holdsFast_74 (by decide) ?_
                          refine ww_cong (lo' := [_, _, _, .int 2, _]) ?_ (by rfl) rfl rfl
                          refine ww_iload_n C0 dX5_holdsFast_4 rfl ?_
                          refine ww_iconst (v := (2)) C0 dX5_holdsFast_5 rfl ?_
                          refine ww_icmp_ge (tgt := 77) C0 dX5_holdsFast_6 (by decide) (fun h6 => ?_) (fun h6 => ?_)
                          · skip
                            replace h6 := (nI_leE (a := 2) (b := 2) rfl rfl (by omega) (by omega)).mp h6
                            refine ww_iload_n C0 dX5_holdsFast_77 rfl ?_
                            exact ww_zret C0 hr dX5_holdsFast_78 (by simp [mHold1, bI, *]) (by rfl)
                          · skip
                            replace h6 := (not_congr (nI_leE (a := 2) (b := 2) rfl rfl (by omega) (by omega))).mp h6
                            exfalso; omega

set_option maxHeartbeats 4000000 in
set_option maxRecDepth 100000 in
theorem c_X5_teach_b (l : Launch) (D : va_G) (cI cZ cQ : ClassId) {aM amt amc amw ams amv amr amx amp amq amb amk amz am0 am1 am2 am3 am4 amh amo : Nat} {tn nm na ac gn : Nat} {th vpl vrm vra x0 x1 x2 x3 : Int32} {sd : Int64} {rest : va_W} {m : Int32} (hnm : nm ≤ 5) (hm : isN nm m = false) : MI l D [(cI, .int), (cZ, .boolean), (cQ, .object "MulesRemember$State")] yX5_teach cX5_teach 4 .int ({ frames := 5, cells := 0, slots := 0, locals := 123 } : Room) [.ref aM, .int m] ((aM, .inr (5, [.int th, .ref amt, .int (nI tn), .int vpl, .int (nI nm), .ref amc, .int (nI na), .ref amw, .ref ams, .ref amv, .int vrm, .ref amr, .int vra, .ref amx, .ref amp, .ref amq, .ref amb, .int (nI ac), .ref amk, .ref amz, .int (nI gn), .ref am0, .ref am1, .ref am2, .ref am3, .ref am4, .long sd, .ref amh, .int x0, .int x1, .int x2, .int x3, .ref amo])) :: rest) (-1) ((aM, .inr (5, [.int 0, .ref amt, .int (nI tn), .int vpl, .int (nI nm), .ref amc, .int (nI na), .ref amw, .ref ams, .ref amv, .int vrm, .ref amr, .int vra, .ref amx, .ref amp, .ref amq, .ref amb, .int (nI ac), .ref amk, .ref amz, .int (nI gn), .ref am0, .ref am1, .ref am2, .ref am3, .ref am4, .long sd, .ref amh, .int x0, .int x1, .int x2, .int x3, .ref amo])) :: rest) := by
  refine MI.of [.ref aM, .int m, .null, .null] (by decide) (Nat.le_of_ble_eq_true rfl) rfl ?_
  intro p e s m below meth c A C0 hr
  refine ww_aload_n C0 dX5_teach_0 rfl ?_
  refine ww_iconst (v := (0)) C0 dX5_teach_1 rfl ?_
  refine ww_put C0 (ci := 5) (C := RX5) (T := TX5) (N := 33) ku_X5 0 rfl rfl 0 (by decide) tyX5 tyX5_ok nmX5 kw_X5_68 rfl (ty := .int) (by decide +kernel) rfl rfl (Nat.le_of_ble_eq_true rfl) dX5_teach_2 ?_
  simp only [List.set_cons_zero, List.set_cons_succ]
  refine ww_aload_n C0 dX5_teach_5 rfl ?_
  refine ww_iload_n C0 dX5_teach_6 rfl ?_
  refine ww_callVi C0 (qc := (RX5, TX5, 33)) 0 5 (c_X5_noMule l D cI cZ cQ hnm) kd_X5_noMule kw_X5_151 km_X5_noMule kl_X5_noMule ki_X5 hd_X5_noMule rfl rfl ⟨Nat.le_of_ble_eq_true rfl, Nat.le_of_ble_eq_true rfl, rfl, rfl⟩ (Nat.le_of_ble_eq_true rfl) dX5_teach_7 rfl rfl rfl ⟨Nat.zero_le _, Nat.zero_le _⟩ ?_
  refine ww_bif_eq (tgt := 15) C0 dX5_teach_10 (by decide) (fun h10 => ?_) (fun h10 => ?_)
  · skip
    exact absurd h10 (by rw [hm]; decide)
  · skip
    refine ww_iconst (v := (-1)) C0 dX5_teach_13 rfl ?_
    exact ww_iret C0 hr dX5_teach_14 (by rfl) (by rfl)

set_option maxHeartbeats 4000000 in
set_option maxRecDepth 100000 in
theorem c_X5_teach (l : Launch) (D : va_G) (cI cZ cQ : ClassId) {aM amt amc amw ams amv amr amx amp amq amb amk amz am0 am1 am2 am3 am4 amh amo : Nat} {tn nm na ac gn : Nat} {th vpl vrm vra x0 x1 x2 x3 : Int32} {sd : Int64} {fmt fmc fmw fms fmv fmp fmq : Nat → Int32} {rest : va_W} {k : Nat} {ok : Nat → Bool} (hnm : nm ≤ 5) (hna : na ≤ 5) (hk : k < nm) (hok : ok = (fun t => mHold1 (mTo (mUp fmp k (nI t) k) 0) (mFF nm na fmw fms fmv fmc (mUp fmp k (nI t)) k 0) (mKnown na (mUp fmp k (nI t) (5 + k)) (mUp fmp k (nI t) (10 + k))) && mHold1 (mTo (mUp fmp k (nI t) k) 1) (mFF nm na fmw fms fmv fmc (mUp fmp k (nI t)) k 1) (mKnown na (mUp fmp k (nI t) (5 + k)) (mUp fmp k (nI t) (10 + k))))) : MI l D [(cI, .int), (cZ, .boolean), (cQ, .object "MulesRemember$State")] yX5_teach cX5_teach 4 .int ({ frames := 5, cells := 0, slots := 0, locals := 123 } : Room) [.ref aM, .int (nI k)] ((aM, .inr (5, [.int th, .ref amt, .int (nI tn), .int vpl, .int (nI nm), .ref amc, .int (nI na), .ref amw, .ref ams, .ref amv, .int vrm, .ref amr, .int vra, .ref amx, .ref amp, .ref amq, .ref amb, .int (nI ac), .ref amk, .ref amz, .int (nI gn), .ref am0, .ref am1, .ref am2, .ref am3, .ref am4, .long sd, .ref amh, .int x0, .int x1, .int x2, .int x3, .ref amo])) :: (amt, .inl (cI, 48, .inl (fmt))) :: (amc, .inl (cI, 5, .inl (fmc))) :: (amw, .inl (cI, 5, .inl (fmw))) :: (ams, .inl (cI, 5, .inl (fms))) :: (amv, .inl (cI, 5, .inl (fmv))) :: (amp, .inl (cI, 17, .inl (fmp))) :: (amq, .inl (cI, 17, .inl (fmq))) :: rest) ((mTeach na (mKnown na (fmp (5 + k)) (fmp (10 + k))) ok (2 ^ na))) ((aM, .inr (5, [.int 0, .ref amt, .int (nI tn), .int vpl, .int (nI nm), .ref amc, .int (nI na), .ref amw, .ref ams, .ref amv, .int vrm, .ref amr, .int vra, .ref amx, .ref amp, .ref amq, .ref amb, .int (nI ac), .ref amk, .ref amz, .int (nI gn), .ref am0, .ref am1, .ref am2, .ref am3, .ref am4, .long sd, .ref amh, .int x0, .int x1, .int x2, .int x3, .ref amo])) :: (amt, .inl (cI, 48, .inl (fmt))) :: (amc, .inl (cI, 5, .inl (fmc))) :: (amw, .inl (cI, 5, .inl (fmw))) :: (ams, .inl (cI, 5, .inl (fms))) :: (amv, .inl (cI, 5, .inl (fmv))) :: (amp, .inl (cI, 17, .inl (fmp))) :: (amq, .inl (cI, 17, .inl ((mTeachQ na (mKnown na (fmp (5 + k)) (fmp (10 + k))) ok (fun t => mUp fmp k (nI t)) fmq (2 ^ na))))) :: rest) := by
  refine MI.of [.ref aM, .int (nI k), .null, .null] (by decide) (Nat.le_of_ble_eq_true rfl) rfl ?_
  intro p e s m below meth c A C0 hr
  have hp := pow5 hna
  refine ww_aload_n C0 dX5_teach_0 rfl ?_
  refine ww_iconst (v := (0)) C0 dX5_teach_1 rfl ?_
  refine ww_put C0 (ci := 5) (C := RX5) (T := TX5) (N := 33) ku_X5 0 rfl rfl 0 (by decide) tyX5 tyX5_ok nmX5 kw_X5_68 rfl (ty := .int) (by decide +kernel) rfl rfl (Nat.le_of_ble_eq_true rfl) dX5_teach_2 ?_
  simp only [List.set_cons_zero, List.set_cons_succ]
  refine ww_aload_n C0 dX5_teach_5 rfl ?_
  refine ww_iload_n C0 dX5_teach_6 rfl ?_
  refine ww_callVi C0 (qc := (RX5, TX5, 33)) 0 5 (c_X5_noMule l D cI cZ cQ hnm) kd_X5_noMule kw_X5_151 km_X5_noMule kl_X5_noMule ki_X5 hd_X5_noMule rfl rfl ⟨Nat.le_of_ble_eq_true rfl, Nat.le_of_ble_eq_true rfl, rfl, rfl⟩ (Nat.le_of_ble_eq_true rfl) dX5_teach_7 rfl rfl rfl ⟨Nat.zero_le _, Nat.zero_le _⟩ ?_
  refine ww_bif_eq (tgt := 15) C0 dX5_teach_10 (by decide) (fun h10 => ?_) (fun h10 => ?_)
  · skip
    refine ww_bipush (v := (-9)) C0 dX5_teach_15 rfl ?_
    refine ww_istore_n (i := 2) C0 dX5_teach_17 rfl (Nat.le_of_ble_eq_true rfl) rfl ?_
    simp only [List.set_cons_zero, List.set_cons_succ]
    refine ww_iconst (v := (0)) C0 dX5_teach_18 rfl ?_
    refine ww_istore_n (i := 3) C0 dX5_teach_19 rfl (Nat.le_of_ble_eq_true rfl) rfl ?_
    simp only [List.set_cons_zero, List.set_cons_succ]
    refine ww_back (ww_loop (pc := 20) 0 (2 ^ na) (by omega) (fun j => [_, _, .int (mTeach na (mKnown na (fmp (5 + k)) (fmp (10 + k))) ok (j)), .int (nI j)]) (fun j => (aM, .inr (5, [.int 0, .ref amt, .int (nI tn), .int vpl, .int (nI nm), .ref amc, .int (nI na), .ref amw, .ref ams, .ref amv, .int vrm, .ref amr, .int vra, .ref amx, .ref amp, .ref amq, .ref amb, .int (nI ac), .ref amk, .ref amz, .int (nI gn), .ref am0, .ref am1, .ref am2, .ref am3, .ref am4, .long sd, .ref amh, .int x0, .int x1, .int x2, .int x3, .ref amo])) :: (amt, .inl (cI, 48, .inl (fmt))) :: (amc, .inl (cI, 5, .inl (fmc))) :: (amw, .inl (cI, 5, .inl (fmw))) :: (ams, .inl (cI, 5, .inl (fms))) :: (amv, .inl (cI, 5, .inl (fmv))) :: (amp, .inl (cI, 17, .inl (fmp))) :: (amq, .inl (cI, 17, .inl ((mTeachQ na (mKnown na (fmp (5 + k)) (fmp (10 + k))) ok (fun t => mUp fmp k (nI t)) fmq (j))))) :: rest) ?_ ?_) ⟨Or.inr rfl, Or.inr rfl, Or.inr rfl, Or.inr rfl, trivial⟩ (by rfl)
    · intro j hj0 hj ih
      refine ww_iload_n C0 dX5_teach_20 rfl ?_
      refine ww_iconst (v := (1)) C0 dX5_teach_21 rfl ?_
      refine ww_aload_n C0 dX5_teach_22 rfl ?_
      refine ww_get C0 (ci := 5) (C := RX5) (T := TX5) (N := 33) ku_X5 0 rfl rfl 6 (by decide) kw_X5_79 rfl dX5_teach_23 ?_
      refine ww_ishl C0 dX5_teach_26 ?_
      refine ww_top (shl_nI hna) ?_
      refine ww_icmp_ge (tgt := 98) C0 dX5_teach_27 (by decide) (fun h27 => ?_) (fun h27 => ?_)
      · skip
        replace h27 := (nI_leE (a := 2 ^ na) (b := j) rfl rfl (by omega) (by omega)).mp h27
        exfalso; omega
      · skip
        replace h27 := (not_congr (nI_leE (a := 2 ^ na) (b := j) rfl rfl (by omega) (by omega))).mp h27
        refine ww_iload_n C0 dX5_teach_30 rfl ?_
        refine ww_aload_n C0 dX5_teach_31 rfl ?_
        refine ww_aload_n C0 dX5_teach_32 rfl ?_
        refine ww_get C0 (ci := 5) (C := RX5) (T := TX5) (N := 33) ku_X5 0 rfl rfl 14 (by decide) kw_X5_31 rfl dX5_teach_33 ?_
        refine ww_iload_n C0 dX5_teach_36 rfl ?_
        refine ww_callVi C0 (qc := (RX5, TX5, 33)) 0 5 (c_X5_knows l D cI cZ cQ hnm hna hk) kd_X5_knows kw_X5_133 km_X5_knows kl_X5_knows ki_X5 hd_X5_knows rfl rfl ⟨Nat.le_of_ble_eq_true rfl, Nat.le_of_ble_eq_true rfl, rfl, rfl⟩ (Nat.le_of_ble_eq_true rfl) dX5_teach_37 rfl rfl rfl ⟨Nat.zero_le _, Nat.zero_le _⟩ ?_
        refine ww_iand C0 dX5_teach_40 ?_
        refine ww_if_ne (tgt := 92) C0 dX5_teach_41 (by decide) (fun h41 => ?_) (fun h41 => ?_)
        · skip
          refine ww_iinc (d := 1) C0 dX5_teach_92 rfl rfl rfl ?_
          simp only [List.set_cons_zero, List.set_cons_succ]
          refine ww_goto (tgt := 20) C0 dX5_teach_95 (by decide) ?_
          exact ww_back ih ⟨Or.inr rfl, Or.inr rfl, Or.inr (congrArg Value.int (by simp only [mTeach]; simp [*])), Or.inr (congrArg Value.int (nI_addE (a := j) (b := 1) rfl rfl).symm), trivial⟩ (by (simp only [mTeachQ]; simp [*]))
        · skip
          refine ww_iload_n C0 dX5_teach_44 rfl ?_
          refine ww_bipush (v := (-9)) C0 dX5_teach_45 rfl ?_
          refine ww_icmp_eq (tgt := 61) C0 dX5_teach_47 (by decide) (fun h47 => ?_) (fun h47 => ?_)
          · skip
            refine ww_aload_n C0 dX5_teach_61 rfl ?_
            refine ww_callVv C0 (qc := (RX5, TX5, 33)) 0 5 (c_X5_begin l D cI cZ cQ) kd_X5_begin kw_X5_175 km_X5_begin kl_X5_begin ki_X5 hd_X5_begin rfl rfl ⟨Nat.le_of_ble_eq_true rfl, Nat.le_of_ble_eq_true rfl, rfl, rfl⟩ (Nat.le_of_ble_eq_true rfl) dX5_teach_62 rfl rfl rfl ⟨Nat.zero_le _, Nat.zero_le _⟩ ?_
            refine ww_aload_n C0 dX5_teach_65 rfl ?_
            refine ww_get C0 (ci := 5) (C := RX5) (T := TX5) (N := 33) ku_X5 0 rfl rfl 15 (by decide) kw_X5_34 rfl dX5_teach_66 ?_
            refine ww_bipush (v := (10)) C0 dX5_teach_69 rfl ?_
            refine ww_iload_n C0 dX5_teach_71 rfl ?_
            refine ww_iadd C0 dX5_teach_72 ?_
            refine ww_dup2 C0 dX5_teach_73 rfl rfl ?_
            refine ww_iald_n (j := 10 + k) C0 7 0 rfl rfl (nI_addE (a := 10) (b := k) rfl rfl) (by omega) (by decide) dX5_teach_74 ?_
            refine ww_iload_n C0 dX5_teach_75 rfl ?_
            refine ww_ior C0 dX5_teach_76 ?_
            refine ww_iast_n (j := 10 + k) C0 7 0 rfl rfl (nI_addE (a := 10) (b := k) rfl rfl) (by omega) (by decide) dX5_teach_77 ?_
            simp only [List.set_cons_zero, List.set_cons_succ]
            refine ww_arr 7 (mUp fmp k (nI j)) rfl (fun i hi => by
              by_cases e : i = 10 + k
              · subst e; simp [upd, mUp]
              · simp [upd, mUp, e]) ?_
            simp only [List.set_cons_zero, List.set_cons_succ]
            refine ww_aload_n C0 dX5_teach_78 rfl ?_
            refine ww_iload_n C0 dX5_teach_79 rfl ?_
            refine ww_callVi C0 (qc := (RX5, TX5, 33)) 0 5 (c_X5_holdsFast l D cI cZ cQ hnm hna hk) kd_X5_holdsFast kw_X5_182 km_X5_holdsFast kl_X5_holdsFast ki_X5 hd_X5_holdsFast rfl rfl ⟨Nat.le_of_ble_eq_true rfl, Nat.le_of_ble_eq_true rfl, rfl, rfl⟩ (Nat.le_of_ble_eq_true rfl) dX5_teach_80 rfl rfl rfl ⟨Nat.zero_le _, Nat.zero_le _⟩ ?_
            refine ww_bif_eq (tgt := 90) C0 dX5_teach_83 (by decide) (fun h83 => ?_) (fun h83 => ?_)
            · skip
              have hob : ok j = false := by rw [hok]; exact h83
              clear hok h83
              refine ww_iload_n C0 dX5_teach_90 rfl ?_
              refine ww_istore_n (i := 2) C0 dX5_teach_91 rfl (Nat.le_of_ble_eq_true rfl) rfl ?_
              simp only [List.set_cons_zero, List.set_cons_succ]
              refine ww_iinc (d := 1) C0 dX5_teach_92 rfl rfl rfl ?_
              simp only [List.set_cons_zero, List.set_cons_succ]
              refine ww_goto (tgt := 20) C0 dX5_teach_95 (by decide) ?_
              exact ww_back ih ⟨Or.inr rfl, Or.inr rfl, Or.inr (congrArg Value.int (by simp only [mTeach]; simp [*])), Or.inr (congrArg Value.int (nI_addE (a := j) (b := 1) rfl rfl).symm), trivial⟩ (by (simp only [mTeachQ]; simp [*]))
            · skip
              have hob : ok j = true := by rw [hok]; exact h83
              clear hok h83
              refine ww_iload_n C0 dX5_teach_86 rfl ?_
              refine ww_goto (tgt := 91) C0 dX5_teach_87 (by decide) ?_
              refine ww_istore_n (i := 2) C0 dX5_teach_91 rfl (Nat.le_of_ble_eq_true rfl) rfl ?_
              simp only [List.set_cons_zero, List.set_cons_succ]
              refine ww_iinc (d := 1) C0 dX5_teach_92 rfl rfl rfl ?_
              simp only [List.set_cons_zero, List.set_cons_succ]
              refine ww_goto (tgt := 20) C0 dX5_teach_95 (by decide) ?_
              exact ww_back ih ⟨Or.inr rfl, Or.inr rfl, Or.inr (congrArg Value.int (by simp only [mTeach]; simp [*])), Or.inr (congrArg Value.int (nI_addE (a := j) (b := 1) rfl rfl).symm), trivial⟩ (by (simp only [mTeachQ]; simp [*]))
          · skip
            refine ww_iload_n C0 dX5_teach_50 rfl ?_
            refine ww_callSi C0 (c_X5_many l D cI cZ cQ) kd_X5_many kw_X5_161 ks_X5_many ki_X5 hd_X5_many ⟨Nat.le_of_ble_eq_true rfl, Nat.le_of_ble_eq_true rfl, rfl, rfl⟩ (Nat.le_of_ble_eq_true rfl) dX5_teach_51 rfl rfl ⟨Nat.zero_le _, Nat.zero_le _⟩ ?_
            refine ww_iload_n C0 dX5_teach_54 rfl ?_
            refine ww_callSi C0 (c_X5_many l D cI cZ cQ) kd_X5_many kw_X5_161 ks_X5_many ki_X5 hd_X5_many ⟨Nat.le_of_ble_eq_true rfl, Nat.le_of_ble_eq_true rfl, rfl, rfl⟩ (Nat.le_of_ble_eq_true rfl) dX5_teach_55 rfl rfl ⟨Nat.zero_le _, Nat.zero_le _⟩ ?_
            refine ww_icmp_ge (tgt := 92) C0 dX5_teach_58 (by decide) (fun h58 => ?_) (fun h58 => ?_)
            · skip
              have h58z := i32_nlt.mpr h58
              clear hok
              refine ww_iinc (d := 1) C0 dX5_teach_92 rfl rfl rfl ?_
              simp only [List.set_cons_zero, List.set_cons_succ]
              refine ww_goto (tgt := 20) C0 dX5_teach_95 (by decide) ?_
              exact ww_back ih ⟨Or.inr rfl, Or.inr rfl, Or.inr (congrArg Value.int (by simp only [mTeach]; simp [*])), Or.inr (congrArg Value.int (nI_addE (a := j) (b := 1) rfl rfl).symm), trivial⟩ (by (simp only [mTeachQ]; simp [*]))
            · skip
              have h58z := i32_nle.mp h58
              refine ww_aload_n C0 dX5_teach_61 rfl ?_
              refine ww_callVv C0 (qc := (RX5, TX5, 33)) 0 5 (c_X5_begin l D cI cZ cQ) kd_X5_begin kw_X5_175 km_X5_begin kl_X5_begin ki_X5 hd_X5_begin rfl rfl ⟨Nat.le_of_ble_eq_true rfl, Nat.le_of_ble_eq_true rfl, rfl, rfl⟩ (Nat.le_of_ble_eq_true rfl) dX5_teach_62 rfl rfl rfl ⟨Nat.zero_le _, Nat.zero_le _⟩ ?_
              refine ww_aload_n C0 dX5_teach_65 rfl ?_
              refine ww_get C0 (ci := 5) (C := RX5) (T := TX5) (N := 33) ku_X5 0 rfl rfl 15 (by decide) kw_X5_34 rfl dX5_teach_66 ?_
              refine ww_bipush (v := (10)) C0 dX5_teach_69 rfl ?_
              refine ww_iload_n C0 dX5_teach_71 rfl ?_
              refine ww_iadd C0 dX5_teach_72 ?_
              refine ww_dup2 C0 dX5_teach_73 rfl rfl ?_
              refine ww_iald_n (j := 10 + k) C0 7 0 rfl rfl (nI_addE (a := 10) (b := k) rfl rfl) (by omega) (by decide) dX5_teach_74 ?_
              refine ww_iload_n C0 dX5_teach_75 rfl ?_
              refine ww_ior C0 dX5_teach_76 ?_
              refine ww_iast_n (j := 10 + k) C0 7 0 rfl rfl (nI_addE (a := 10) (b := k) rfl rfl) (by omega) (by decide) dX5_teach_77 ?_
              simp only [List.set_cons_zero, List.set_cons_succ]
              refine ww_arr 7 (mUp fmp k (nI j)) rfl (fun i hi => by
                by_cases e : i = 10 + k
                · subst e; simp [upd, mUp]
                · simp [upd, mUp, e]) ?_
              simp only [List.set_cons_zero, List.set_cons_succ]
              refine ww_aload_n C0 dX5_teach_78 rfl ?_
              refine ww_iload_n C0 dX5_teach_79 rfl ?_
              refine ww_callVi C0 (qc := (RX5, TX5, 33)) 0 5 (c_X5_holdsFast l D cI cZ cQ hnm hna hk) kd_X5_holdsFast kw_X5_182 km_X5_holdsFast kl_X5_holdsFast ki_X5 hd_X5_holdsFast rfl rfl ⟨Nat.le_of_ble_eq_true rfl, Nat.le_of_ble_eq_true rfl, rfl, rfl⟩ (Nat.le_of_ble_eq_true rfl) dX5_teach_80 rfl rfl rfl ⟨Nat.zero_le _, Nat.zero_le _⟩ ?_
              refine ww_bif_eq (tgt := 90) C0 dX5_teach_83 (by decide) (fun h83 => ?_) (fun h83 => ?_)
              · skip
                have hob : ok j = false := by rw [hok]; exact h83
                clear hok h83
                refine ww_iload_n C0 dX5_teach_90 rfl ?_
                refine ww_istore_n (i := 2) C0 dX5_teach_91 rfl (Nat.le_of_ble_eq_true rfl) rfl ?_
                simp only [List.set_cons_zero, List.set_cons_succ]
                refine ww_iinc (d := 1) C0 dX5_teach_92 rfl rfl rfl ?_
                simp only [List.set_cons_zero, List.set_cons_succ]
                refine ww_goto (tgt := 20) C0 dX5_teach_95 (by decide) ?_
                exact ww_back ih ⟨Or.inr rfl, Or.inr rfl, Or.inr (congrArg Value.int (by simp only [mTeach]; simp [*])), Or.inr (congrArg Value.int (nI_addE (a := j) (b := 1) rfl rfl).symm), trivial⟩ (by (simp only [mTeachQ]; simp [*]))
              · skip
                have hob : ok j = true := by rw [hok]; exact h83
                clear hok h83
                refine ww_iload_n C0 dX5_teach_86 rfl ?_
                refine ww_goto (tgt := 91) C0 dX5_teach_87 (by decide) ?_
                refine ww_istore_n (i := 2) C0 dX5_teach_91 rfl (Nat.le_of_ble_eq_true rfl) rfl ?_
                simp only [List.set_cons_zero, List.set_cons_succ]
                refine ww_iinc (d := 1) C0 dX5_teach_92 rfl rfl rfl ?_
                simp only [List.set_cons_zero, List.set_cons_succ]
                refine ww_goto (tgt := 20) C0 dX5_teach_95 (by decide) ?_
                exact ww_back ih ⟨Or.inr rfl, Or.inr rfl, Or.inr (congrArg Value.int (by simp only [mTeach]; simp [*])), Or.inr (congrArg Value.int (nI_addE (a := j) (b := 1) rfl rfl).symm), trivial⟩ (by (simp only [mTeachQ]; simp [*]))
    · skip
      refine ww_iload_n C0 dX5_teach_20 rfl ?_
      refine ww_iconst (v := (1)) C0 dX5_teach_21 rfl ?_
      refine ww_aload_n C0 dX5_teach_22 rfl ?_
      refine ww_get C0 (ci := 5) (C := RX5) (T := TX5) (N := 33) ku_X5 0 rfl rfl 6 (by decide) kw_X5_79 rfl dX5_teach_23 ?_
      refine ww_ishl C0 dX5_teach_26 ?_
      refine ww_top (shl_nI hna) ?_
      refine ww_icmp_ge (tgt := 98) C0 dX5_teach_27 (by decide) (fun h27 => ?_) (fun h27 => ?_)
      · skip
        replace h27 := (nI_leE (a := 2 ^ na) (b := (2 ^ na)) rfl rfl (by omega) (by omega)).mp h27
        refine ww_iload_n C0 dX5_teach_98 rfl ?_
        exact ww_iret C0 hr dX5_teach_99 (by rfl) (by rfl)
      · skip
        replace h27 := (not_congr (nI_leE (a := 2 ^ na) (b := (2 ^ na)) rfl rfl (by omega) (by omega))).mp h27
        exfalso; omega
  · skip
    exact absurd h10 (by rw [isN_nI (by omega) hk]; decide)

set_option maxHeartbeats 4000000 in
set_option maxRecDepth 100000 in
theorem c_X5_differ_b (l : Launch) (D : va_G) (cI cZ cQ : ClassId) {aM amt amc amw ams amv amr amx amp amq amb amk amz am0 am1 am2 am3 am4 amh amo : Nat} {tn nm na ac gn : Nat} {th vpl vrm vra x0 x1 x2 x3 : Int32} {sd : Int64} {rest : va_W} {m o : Int32} (hnm : nm ≤ 5) (hm : (isN nm m && isN nm o) = false) : MI l D [(cI, .int), (cZ, .boolean), (cQ, .object "MulesRemember$State")] yX5_differ cX5_differ 3 .int ({ frames := 2, cells := 0, slots := 0, locals := 46 } : Room) [.ref aM, .int m, .int o] ((aM, .inr (5, [.int th, .ref amt, .int (nI tn), .int vpl, .int (nI nm), .ref amc, .int (nI na), .ref amw, .ref ams, .ref amv, .int vrm, .ref amr, .int vra, .ref amx, .ref amp, .ref amq, .ref amb, .int (nI ac), .ref amk, .ref amz, .int (nI gn), .ref am0, .ref am1, .ref am2, .ref am3, .ref am4, .long sd, .ref amh, .int x0, .int x1, .int x2, .int x3, .ref amo])) :: rest) (-1) ((aM, .inr (5, [.int 0, .ref amt, .int (nI tn), .int vpl, .int (nI nm), .ref amc, .int (nI na), .ref amw, .ref ams, .ref amv, .int vrm, .ref amr, .int vra, .ref amx, .ref amp, .ref amq, .ref amb, .int (nI ac), .ref amk, .ref amz, .int (nI gn), .ref am0, .ref am1, .ref am2, .ref am3, .ref am4, .long sd, .ref amh, .int x0, .int x1, .int x2, .int x3, .ref amo])) :: rest) := by
  refine MI.of [.ref aM, .int m, .int o] (by decide) (Nat.le_of_ble_eq_true rfl) rfl ?_
  intro p e s m below meth c A C0 hr
  refine ww_aload_n C0 dX5_differ_0 rfl ?_
  refine ww_iconst (v := (0)) C0 dX5_differ_1 rfl ?_
  refine ww_put C0 (ci := 5) (C := RX5) (T := TX5) (N := 33) ku_X5 0 rfl rfl 0 (by decide) tyX5 tyX5_ok nmX5 kw_X5_68 rfl (ty := .int) (by decide +kernel) rfl rfl (Nat.le_of_ble_eq_true rfl) dX5_differ_2 ?_
  simp only [List.set_cons_zero, List.set_cons_succ]
  refine ww_aload_n C0 dX5_differ_5 rfl ?_
  refine ww_iload_n C0 dX5_differ_6 rfl ?_
  refine ww_callVi C0 (qc := (RX5, TX5, 33)) 0 5 (c_X5_noMule l D cI cZ cQ hnm) kd_X5_noMule kw_X5_151 km_X5_noMule kl_X5_noMule ki_X5 hd_X5_noMule rfl rfl ⟨Nat.le_of_ble_eq_true rfl, Nat.le_of_ble_eq_true rfl, rfl, rfl⟩ (Nat.le_of_ble_eq_true rfl) dX5_differ_7 rfl rfl rfl ⟨Nat.zero_le _, Nat.zero_le _⟩ ?_
  refine ww_bif_ne (tgt := 21) C0 dX5_differ_10 (by decide) (fun h10 => ?_) (fun h10 => ?_)
  · skip
    refine ww_iconst (v := (-1)) C0 dX5_differ_21 rfl ?_
    exact ww_iret C0 hr dX5_differ_22 (by rfl) (by rfl)
  · skip
    refine ww_aload_n C0 dX5_differ_13 rfl ?_
    refine ww_iload_n C0 dX5_differ_14 rfl ?_
    refine ww_callVi C0 (qc := (RX5, TX5, 33)) 0 5 (c_X5_noMule l D cI cZ cQ hnm) kd_X5_noMule kw_X5_151 km_X5_noMule kl_X5_noMule ki_X5 hd_X5_noMule rfl rfl ⟨Nat.le_of_ble_eq_true rfl, Nat.le_of_ble_eq_true rfl, rfl, rfl⟩ (Nat.le_of_ble_eq_true rfl) dX5_differ_15 rfl rfl rfl ⟨Nat.zero_le _, Nat.zero_le _⟩ ?_
    refine ww_bif_eq (tgt := 23) C0 dX5_differ_18 (by decide) (fun h18 => ?_) (fun h18 => ?_)
    · skip
      exact absurd hm (by simp_all)
    · skip
      refine ww_iconst (v := (-1)) C0 dX5_differ_21 rfl ?_
      exact ww_iret C0 hr dX5_differ_22 (by rfl) (by rfl)

set_option maxHeartbeats 4000000 in
set_option maxRecDepth 100000 in
theorem c_X5_differ (l : Launch) (D : va_G) (cI cZ cQ : ClassId) {aM amt amc amw ams amv amr amx amp amq amb amk amz am0 am1 am2 am3 am4 amh amo : Nat} {tn nm na ac gn : Nat} {th vpl vrm vra x0 x1 x2 x3 : Int32} {sd : Int64} {fmt fmc fmw fms fmv fmp : Nat → Int32} {rest : va_W} {k o : Nat} (hnm : nm ≤ 5) (hna : na ≤ 5) (hk : k < nm) (ho : o < nm) : MI l D [(cI, .int), (cZ, .boolean), (cQ, .object "MulesRemember$State")] yX5_differ cX5_differ 3 .int ({ frames := 2, cells := 0, slots := 0, locals := 46 } : Room) [.ref aM, .int (nI k), .int (nI o)] ((aM, .inr (5, [.int th, .ref amt, .int (nI tn), .int vpl, .int (nI nm), .ref amc, .int (nI na), .ref amw, .ref ams, .ref amv, .int vrm, .ref amr, .int vra, .ref amx, .ref amp, .ref amq, .ref amb, .int (nI ac), .ref amk, .ref amz, .int (nI gn), .ref am0, .ref am1, .ref am2, .ref am3, .ref am4, .long sd, .ref amh, .int x0, .int x1, .int x2, .int x3, .ref amo])) :: (amt, .inl (cI, 48, .inl (fmt))) :: (amc, .inl (cI, 5, .inl (fmc))) :: (amw, .inl (cI, 5, .inl (fmw))) :: (ams, .inl (cI, 5, .inl (fms))) :: (amv, .inl (cI, 5, .inl (fmv))) :: (amp, .inl (cI, 17, .inl (fmp))) :: rest) (sFirst ((mKnown na (fmp (5 + k)) (fmp (10 + k))) ^^^ (mKnown na (fmp (5 + o)) (fmp (10 + o))))) ((aM, .inr (5, [.int 0, .ref amt, .int (nI tn), .int vpl, .int (nI nm), .ref amc, .int (nI na), .ref amw, .ref ams, .ref amv, .int vrm, .ref amr, .int vra, .ref amx, .ref amp, .ref amq, .ref amb, .int (nI ac), .ref amk, .ref amz, .int (nI gn), .ref am0, .ref am1, .ref am2, .ref am3, .ref am4, .long sd, .ref amh, .int x0, .int x1, .int x2, .int x3, .ref amo])) :: (amt, .inl (cI, 48, .inl (fmt))) :: (amc, .inl (cI, 5, .inl (fmc))) :: (amw, .inl (cI, 5, .inl (fmw))) :: (ams, .inl (cI, 5, .inl (fms))) :: (amv, .inl (cI, 5, .inl (fmv))) :: (amp, .inl (cI, 17, .inl (fmp))) :: rest) := by
  refine MI.of [.ref aM, .int (nI k), .int (nI o)] (by decide) (Nat.le_of_ble_eq_true rfl) rfl ?_
  intro p e s m below meth c A C0 hr
  refine ww_aload_n C0 dX5_differ_0 rfl ?_
  refine ww_iconst (v := (0)) C0 dX5_differ_1 rfl ?_
  refine ww_put C0 (ci := 5) (C := RX5) (T := TX5) (N := 33) ku_X5 0 rfl rfl 0 (by decide) tyX5 tyX5_ok nmX5 kw_X5_68 rfl (ty := .int) (by decide +kernel) rfl rfl (Nat.le_of_ble_eq_true rfl) dX5_differ_2 ?_
  simp only [List.set_cons_zero, List.set_cons_succ]
  refine ww_aload_n C0 dX5_differ_5 rfl ?_
  refine ww_iload_n C0 dX5_differ_6 rfl ?_
  refine ww_callVi C0 (qc := (RX5, TX5, 33)) 0 5 (c_X5_noMule l D cI cZ cQ hnm) kd_X5_noMule kw_X5_151 km_X5_noMule kl_X5_noMule ki_X5 hd_X5_noMule rfl rfl ⟨Nat.le_of_ble_eq_true rfl, Nat.le_of_ble_eq_true rfl, rfl, rfl⟩ (Nat.le_of_ble_eq_true rfl) dX5_differ_7 rfl rfl rfl ⟨Nat.zero_le _, Nat.zero_le _⟩ ?_
  refine ww_bif_ne (tgt := 21) C0 dX5_differ_10 (by decide) (fun h10 => ?_) (fun h10 => ?_)
  · skip
    exact absurd h10 (by rw [isN_nI (by omega) hk]; decide)
  · skip
    refine ww_aload_n C0 dX5_differ_13 rfl ?_
    refine ww_iload_n C0 dX5_differ_14 rfl ?_
    refine ww_callVi C0 (qc := (RX5, TX5, 33)) 0 5 (c_X5_noMule l D cI cZ cQ hnm) kd_X5_noMule kw_X5_151 km_X5_noMule kl_X5_noMule ki_X5 hd_X5_noMule rfl rfl ⟨Nat.le_of_ble_eq_true rfl, Nat.le_of_ble_eq_true rfl, rfl, rfl⟩ (Nat.le_of_ble_eq_true rfl) dX5_differ_15 rfl rfl rfl ⟨Nat.zero_le _, Nat.zero_le _⟩ ?_
    refine ww_bif_eq (tgt := 23) C0 dX5_differ_18 (by decide) (fun h18 => ?_) (fun h18 => ?_)
    · skip
      refine ww_aload_n C0 dX5_differ_23 rfl ?_
      refine ww_aload_n C0 dX5_differ_24 rfl ?_
      refine ww_get C0 (ci := 5) (C := RX5) (T := TX5) (N := 33) ku_X5 0 rfl rfl 14 (by decide) kw_X5_31 rfl dX5_differ_25 ?_
      refine ww_iload_n C0 dX5_differ_28 rfl ?_
      refine ww_callVi C0 (qc := (RX5, TX5, 33)) 0 5 (c_X5_knows l D cI cZ cQ hnm hna hk) kd_X5_knows kw_X5_133 km_X5_knows kl_X5_knows ki_X5 hd_X5_knows rfl rfl ⟨Nat.le_of_ble_eq_true rfl, Nat.le_of_ble_eq_true rfl, rfl, rfl⟩ (Nat.le_of_ble_eq_true rfl) dX5_differ_29 rfl rfl rfl ⟨Nat.zero_le _, Nat.zero_le _⟩ ?_
      refine ww_aload_n C0 dX5_differ_32 rfl ?_
      refine ww_aload_n C0 dX5_differ_33 rfl ?_
      refine ww_get C0 (ci := 5) (C := RX5) (T := TX5) (N := 33) ku_X5 0 rfl rfl 14 (by decide) kw_X5_31 rfl dX5_differ_34 ?_
      refine ww_iload_n C0 dX5_differ_37 rfl ?_
      refine ww_callVi C0 (qc := (RX5, TX5, 33)) 0 5 (c_X5_knows l D cI cZ cQ hnm hna ho) kd_X5_knows kw_X5_133 km_X5_knows kl_X5_knows ki_X5 hd_X5_knows rfl rfl ⟨Nat.le_of_ble_eq_true rfl, Nat.le_of_ble_eq_true rfl, rfl, rfl⟩ (Nat.le_of_ble_eq_true rfl) dX5_differ_38 rfl rfl rfl ⟨Nat.zero_le _, Nat.zero_le _⟩ ?_
      refine ww_ixor C0 dX5_differ_41 ?_
      refine ww_callSi C0 (c_X5_leastOf l D cI cZ cQ) kd_X5_leastOf kw_X5_158 ks_X5_leastOf ki_X5 hd_X5_leastOf ⟨Nat.le_of_ble_eq_true rfl, Nat.le_of_ble_eq_true rfl, rfl, rfl⟩ (Nat.le_of_ble_eq_true rfl) dX5_differ_42 rfl rfl ⟨Nat.zero_le _, Nat.zero_le _⟩ ?_
      exact ww_iret C0 hr dX5_differ_45 (by rfl) (by rfl)
    · skip
      exact absurd h18 (by rw [isN_nI (by omega) ho]; decide)

set_option maxHeartbeats 4000000 in
set_option maxRecDepth 100000 in
theorem c_X5_power (l : Launch) (D : va_G) (cI cZ cQ : ClassId) {rest : va_W} {a : Int32} {n : Nat} (hn : n < 1000) : MI l D [(cI, .int), (cZ, .boolean), (cQ, .object "MulesRemember$State")] yX5_power cX5_power 4 .int ({ frames := 0, cells := 0, slots := 0, locals := 0 } : Room) [.int a, .int (nI n)] (rest) (mPow a n) (rest) := by
  refine MI.of [.int a, .int (nI n), .null, .null] (by decide) (Nat.le_of_ble_eq_true rfl) rfl ?_
  intro p e s m below meth c A C0 hr
  refine ww_iconst (v := (1)) C0 dX5_power_0 rfl ?_
  refine ww_istore_n (i := 2) C0 dX5_power_1 rfl (Nat.le_of_ble_eq_true rfl) rfl ?_
  simp only [List.set_cons_zero, List.set_cons_succ]
  refine ww_iconst (v := (0)) C0 dX5_power_2 rfl ?_
  refine ww_istore_n (i := 3) C0 dX5_power_3 rfl (Nat.le_of_ble_eq_true rfl) rfl ?_
  simp only [List.set_cons_zero, List.set_cons_succ]
  refine ww_back (ww_loop (pc := 4) 0 (n) (by omega) (fun j => [_, _, .int (mPow a j), .int (nI j)]) (fun j => _) ?_ ?_) ⟨Or.inr rfl, Or.inr rfl, Or.inr rfl, Or.inr rfl, trivial⟩ (by rfl)
  · intro j hj0 hj ih
    refine ww_iload_n C0 dX5_power_4 rfl ?_
    refine ww_iload_n C0 dX5_power_5 rfl ?_
    refine ww_icmp_ge (tgt := 19) C0 dX5_power_6 (by decide) (fun h6 => ?_) (fun h6 => ?_)
    · skip
      replace h6 := (nI_leE (a := n) (b := j) rfl rfl (by omega) (by omega)).mp h6
      exfalso; omega
    · skip
      replace h6 := (not_congr (nI_leE (a := n) (b := j) rfl rfl (by omega) (by omega))).mp h6
      refine ww_iload_n C0 dX5_power_9 rfl ?_
      refine ww_iload_n C0 dX5_power_10 rfl ?_
      refine ww_imul C0 dX5_power_11 ?_
      refine ww_istore_n (i := 2) C0 dX5_power_12 rfl (Nat.le_of_ble_eq_true rfl) rfl ?_
      simp only [List.set_cons_zero, List.set_cons_succ]
      refine ww_iinc (d := 1) C0 dX5_power_13 rfl rfl rfl ?_
      simp only [List.set_cons_zero, List.set_cons_succ]
      refine ww_goto (tgt := 4) C0 dX5_power_16 (by decide) ?_
      exact ww_back ih ⟨Or.inr rfl, Or.inr rfl, Or.inr rfl, Or.inr (congrArg Value.int (nI_addE (a := j) (b := 1) rfl rfl).symm), trivial⟩ (by rfl)
  · skip
    refine ww_iload_n C0 dX5_power_4 rfl ?_
    refine ww_iload_n C0 dX5_power_5 rfl ?_
    refine ww_icmp_ge (tgt := 19) C0 dX5_power_6 (by decide) (fun h6 => ?_) (fun h6 => ?_)
    · skip
      replace h6 := (nI_leE (a := n) (b := n) rfl rfl (by omega) (by omega)).mp h6
      refine ww_iload_n C0 dX5_power_19 rfl ?_
      exact ww_iret C0 hr dX5_power_20 (by rfl) (by rfl)
    · skip
      replace h6 := (not_congr (nI_leE (a := n) (b := n) rfl rfl (by omega) (by omega))).mp h6
      exfalso; omega

set_option maxHeartbeats 4000000 in
set_option maxRecDepth 100000 in
theorem c_X5_does (l : Launch) (D : va_G) (cI cZ cQ : ClassId) {aM amt amc amw ams amv amr amx amp amq amb amk amz am0 am1 am2 am3 am4 amh amo : Nat} {tn nm na ac gn : Nat} {th vpl vrm vra x0 x1 x2 x3 : Int32} {sd : Int64} {fmt fmc fmw fms fmv fmp fmq : Nat → Int32} {rest : va_W} {d : Nat} (hnm : nm ≤ 5) (hna : na ≤ 5) (hd : d < 100) : MI l D [(cI, .int), (cZ, .boolean), (cQ, .object "MulesRemember$State")] yX5_does cX5_does 5 .boolean ({ frames := 4, cells := 0, slots := 0, locals := 99 } : Room) [.ref aM, .int (nI d)] ((aM, .inr (5, [.int th, .ref amt, .int (nI tn), .int vpl, .int (nI nm), .ref amc, .int (nI na), .ref amw, .ref ams, .ref amv, .int vrm, .ref amr, .int vra, .ref amx, .ref amp, .ref amq, .ref amb, .int (nI ac), .ref amk, .ref amz, .int (nI gn), .ref am0, .ref am1, .ref am2, .ref am3, .ref am4, .long sd, .ref amh, .int x0, .int x1, .int x2, .int x3, .ref amo])) :: (amt, .inl (cI, 48, .inl (fmt))) :: (amc, .inl (cI, 5, .inl (fmc))) :: (amw, .inl (cI, 5, .inl (fmw))) :: (ams, .inl (cI, 5, .inl (fms))) :: (amv, .inl (cI, 5, .inl (fmv))) :: (amp, .inl (cI, 17, .inl (fmp))) :: (amq, .inl (cI, 17, .inl (fmq))) :: rest) (bI (mDoes nm na fmw fms fmv fmc fmq d).1) ((aM, .inr (5, [.int th, .ref amt, .int (nI tn), .int vpl, .int (nI nm), .ref amc, .int (nI na), .ref amw, .ref ams, .ref amv, .int vrm, .ref amr, .int vra, .ref amx, .ref amp, .ref amq, .ref amb, .int (nI ac), .ref amk, .ref amz, .int (nI gn), .ref am0, .ref am1, .ref am2, .ref am3, .ref am4, .long sd, .ref amh, .int x0, .int x1, .int x2, .int x3, .ref amo])) :: (amt, .inl (cI, 48, .inl (fmt))) :: (amc, .inl (cI, 5, .inl (fmc))) :: (amw, .inl (cI, 5, .inl (fmw))) :: (ams, .inl (cI, 5, .inl (fms))) :: (amv, .inl (cI, 5, .inl (fmv))) :: (amp, .inl (cI, 17, .inl (fmp))) :: (amq, .inl (cI, 17, .inl ((mDoes nm na fmw fms fmv fmc fmq d).2))) :: rest) := by
  refine MI.of [.ref aM, .int (nI d), .null, .null, .null] (by decide) (Nat.le_of_ble_eq_true rfl) rfl ?_
  intro p e s m below meth c A C0 hr
  refine ww_iload_n C0 dX5_does_0 rfl ?_
  refine ww_bipush (v := (10)) C0 dX5_does_1 rfl ?_
  refine ww_idiv C0 dX5_does_3 (by decide) ?_
  refine ww_top (nI_divE (a := d) (b := 10) rfl rfl (by omega) (by omega) (by omega)) ?_
  refine ww_istore_n (i := 2) C0 dX5_does_4 rfl (Nat.le_of_ble_eq_true rfl) rfl ?_
  simp only [List.set_cons_zero, List.set_cons_succ]
  refine ww_iload_n C0 dX5_does_5 rfl ?_
  refine ww_bipush (v := (10)) C0 dX5_does_6 rfl ?_
  refine ww_irem C0 dX5_does_8 (by decide) ?_
  refine ww_top (nI_remE (a := d) (b := 10) rfl rfl (by omega) (by omega) (by omega)) ?_
  refine ww_istore_n (i := 3) C0 dX5_does_9 rfl (Nat.le_of_ble_eq_true rfl) rfl ?_
  simp only [List.set_cons_zero, List.set_cons_succ]
  refine ww_iload_n C0 dX5_does_10 rfl ?_
  refine ww_if_ne (tgt := 27) C0 dX5_does_11 (by decide) (fun h11 => ?_) (fun h11 => ?_)
  · skip
    replace h11 := (not_congr (nI_eqE (a := d) (b := 0) rfl rfl (by omega) (by omega))).mp h11
    refine ww_iload_n C0 dX5_does_27 rfl ?_
    refine ww_i2l C0 dX5_does_28 ?_
    refine ww_lconst (v := 1) C0 dX5_does_29 rfl ?_
    refine ww_ldc2 C0 kw_X5_185 dX5_does_30 ?_
    refine ww_callSi C0 (c_X5_inB l D cI cZ cQ (a := nI 1) (b := nI 5) (by decide) (by decide)) kd_X5_in kw_X5_75 ks_X5_in ki_X5 hd_X5_in ⟨Nat.le_of_ble_eq_true rfl, Nat.le_of_ble_eq_true rfl, rfl, rfl⟩ (Nat.le_of_ble_eq_true rfl) dX5_does_33 rfl rfl ⟨Nat.zero_le _, Nat.zero_le _⟩ ?_
    refine ww_bif_eq (tgt := 112) C0 dX5_does_36 (by decide) (fun h36 => ?_) (fun h36 => ?_)
    · skip
      rw [isB_nI (by decide) (by decide) (by omega)] at h36
      have hc1 : ¬ (1 ≤ d / 10 ∧ d / 10 ≤ 5) := by intro hh; simp [hh.1, hh.2] at h36
      refine ww_aload_n C0 dX5_does_112 rfl ?_
      refine ww_iload_n C0 dX5_does_113 rfl ?_
      have hK2 : isN nm (nI (d % 10)) = decide (d % 10 < nm) := isN_nI' (by omega) (by omega)
      refine ww_callVi C0 (qc := (RX5, TX5, 33)) 0 5 (c_X5_noMule l D cI cZ cQ hnm) kd_X5_noMule kw_X5_151 km_X5_noMule kl_X5_noMule ki_X5 hd_X5_noMule rfl rfl ⟨Nat.le_of_ble_eq_true rfl, Nat.le_of_ble_eq_true rfl, rfl, rfl⟩ (Nat.le_of_ble_eq_true rfl) dX5_does_114 rfl rfl rfl ⟨Nat.zero_le _, Nat.zero_le _⟩ ?_
      refine ww_bif_eq (tgt := 122) C0 dX5_does_117 (by decide) (fun h117 => ?_) (fun h117 => ?_)
      · skip
        have hk6 : d % 10 < nm := by rw [hK2] at h117; simpa using h117
        refine ww_iload_n C0 dX5_does_122 rfl ?_
        refine ww_bipush (v := (6)) C0 dX5_does_123 rfl ?_
        refine ww_icmp_ne (tgt := 151) C0 dX5_does_125 (by decide) (fun h125 => ?_) (fun h125 => ?_)
        · skip
          replace h125 := (not_congr (nI_eqE (a := d / 10) (b := 6) rfl rfl (by omega) (by omega))).mp h125
          refine ww_iload_n C0 dX5_does_151 rfl ?_
          refine ww_bipush (v := (7)) C0 dX5_does_152 rfl ?_
          refine ww_icmp_ne (tgt := 173) C0 dX5_does_154 (by decide) (fun h154 => ?_) (fun h154 => ?_)
          · skip
            replace h154 := (not_congr (nI_eqE (a := d / 10) (b := 7) rfl rfl (by omega) (by omega))).mp h154
            refine ww_iconst (v := (0)) C0 dX5_does_173 rfl ?_
            refine ww_istore (i := 4) C0 dX5_does_174 (Nat.le_of_ble_eq_true rfl) rfl ?_
            simp only [List.set_cons_zero, List.set_cons_succ]
            refine ww_aload_n C0 dX5_does_176 rfl ?_
            refine ww_get C0 (ci := 5) (C := RX5) (T := TX5) (N := 33) ku_X5 0 rfl rfl 15 (by decide) kw_X5_34 rfl dX5_does_177 ?_
            refine ww_bipush (v := (10)) C0 dX5_does_180 rfl ?_
            refine ww_iload_n C0 dX5_does_182 rfl ?_
            refine ww_iadd C0 dX5_does_183 ?_
            refine ww_iload C0 dX5_does_184 rfl ?_
            refine ww_if_eq (tgt := 193) C0 dX5_does_186 (by decide) (fun h186 => ?_) (fun h186 => ?_)
            · skip
              replace h186 := (nI_eqE (a := 0) (b := 0) rfl rfl (by omega) (by omega)).mp h186
              refine ww_aload_n C0 dX5_does_193 rfl ?_
              refine ww_get C0 (ci := 5) (C := RX5) (T := TX5) (N := 33) ku_X5 0 rfl rfl 15 (by decide) kw_X5_34 rfl dX5_does_194 ?_
              refine ww_bipush (v := (10)) C0 dX5_does_197 rfl ?_
              refine ww_iload_n C0 dX5_does_199 rfl ?_
              refine ww_iadd C0 dX5_does_200 ?_
              refine ww_iald_n (j := 10 + (d % 10)) C0 7 0 rfl rfl (nI_addE (a := 10) (b := d % 10) rfl rfl) (by omega) (by decide) dX5_does_201 ?_
              refine ww_iast_n (j := 10 + (d % 10)) C0 7 0 rfl rfl (nI_addE (a := 10) (b := d % 10) rfl rfl) (by omega) (by decide) dX5_does_202 ?_
              simp only [List.set_cons_zero, List.set_cons_succ]
              refine ww_iload C0 dX5_does_203 rfl ?_
              exact ww_zret C0 hr dX5_does_205 (by first | (simp [mDoes, bI, *]; done) | (exfalso; omega)) (by first | (simp [mDoes, *]; done) | (exfalso; omega))
            · skip
              replace h186 := (not_congr (nI_eqE (a := 0) (b := 0) rfl rfl (by omega) (by omega))).mp h186
              exfalso; omega
          · skip
            replace h154 := (nI_eqE (a := d / 10) (b := 7) rfl rfl (by omega) (by omega)).mp h154
            refine ww_aload_n C0 dX5_does_157 rfl ?_
            refine ww_get C0 (ci := 5) (C := RX5) (T := TX5) (N := 33) ku_X5 0 rfl rfl 15 (by decide) kw_X5_34 rfl dX5_does_158 ?_
            refine ww_bipush (v := (10)) C0 dX5_does_161 rfl ?_
            refine ww_iload_n C0 dX5_does_163 rfl ?_
            refine ww_iadd C0 dX5_does_164 ?_
            refine ww_iald_n (j := 10 + (d % 10)) C0 7 0 rfl rfl (nI_addE (a := 10) (b := d % 10) rfl rfl) (by omega) (by decide) dX5_does_165 ?_
            refine ww_if_eq (tgt := 173) C0 dX5_does_166 (by decide) (fun h166 => ?_) (fun h166 => ?_)
            · skip
              refine ww_iconst (v := (0)) C0 dX5_does_173 rfl ?_
              refine ww_istore (i := 4) C0 dX5_does_174 (Nat.le_of_ble_eq_true rfl) rfl ?_
              simp only [List.set_cons_zero, List.set_cons_succ]
              refine ww_aload_n C0 dX5_does_176 rfl ?_
              refine ww_get C0 (ci := 5) (C := RX5) (T := TX5) (N := 33) ku_X5 0 rfl rfl 15 (by decide) kw_X5_34 rfl dX5_does_177 ?_
              refine ww_bipush (v := (10)) C0 dX5_does_180 rfl ?_
              refine ww_iload_n C0 dX5_does_182 rfl ?_
              refine ww_iadd C0 dX5_does_183 ?_
              refine ww_iload C0 dX5_does_184 rfl ?_
              refine ww_if_eq (tgt := 193) C0 dX5_does_186 (by decide) (fun h186 => ?_) (fun h186 => ?_)
              · skip
                replace h186 := (nI_eqE (a := 0) (b := 0) rfl rfl (by omega) (by omega)).mp h186
                refine ww_aload_n C0 dX5_does_193 rfl ?_
                refine ww_get C0 (ci := 5) (C := RX5) (T := TX5) (N := 33) ku_X5 0 rfl rfl 15 (by decide) kw_X5_34 rfl dX5_does_194 ?_
                refine ww_bipush (v := (10)) C0 dX5_does_197 rfl ?_
                refine ww_iload_n C0 dX5_does_199 rfl ?_
                refine ww_iadd C0 dX5_does_200 ?_
                refine ww_iald_n (j := 10 + (d % 10)) C0 7 0 rfl rfl (nI_addE (a := 10) (b := d % 10) rfl rfl) (by omega) (by decide) dX5_does_201 ?_
                refine ww_iast_n (j := 10 + (d % 10)) C0 7 0 rfl rfl (nI_addE (a := 10) (b := d % 10) rfl rfl) (by omega) (by decide) dX5_does_202 ?_
                simp only [List.set_cons_zero, List.set_cons_succ]
                refine ww_iload C0 dX5_does_203 rfl ?_
                exact ww_zret C0 hr dX5_does_205 (by first | (simp [mDoes, bI, *]; done) | (exfalso; omega)) (by first | (simp [mDoes, *]; done) | (exfalso; omega))
              · skip
                replace h186 := (not_congr (nI_eqE (a := 0) (b := 0) rfl rfl (by omega) (by omega))).mp h186
                exfalso; omega
            · skip
              refine ww_iconst (v := (1)) C0 dX5_does_169 rfl ?_
              refine ww_goto (tgt := 174) C0 dX5_does_170 (by decide) ?_
              refine ww_istore (i := 4) C0 dX5_does_174 (Nat.le_of_ble_eq_true rfl) rfl ?_
              simp only [List.set_cons_zero, List.set_cons_succ]
              refine ww_aload_n C0 dX5_does_176 rfl ?_
              refine ww_get C0 (ci := 5) (C := RX5) (T := TX5) (N := 33) ku_X5 0 rfl rfl 15 (by decide) kw_X5_34 rfl dX5_does_177 ?_
              refine ww_bipush (v := (10)) C0 dX5_does_180 rfl ?_
              refine ww_iload_n C0 dX5_does_182 rfl ?_
              refine ww_iadd C0 dX5_does_183 ?_
              refine ww_iload C0 dX5_does_184 rfl ?_
              refine ww_if_eq (tgt := 193) C0 dX5_does_186 (by decide) (fun h186 => ?_) (fun h186 => ?_)
              · skip
                replace h186 := (nI_eqE (a := 1) (b := 0) rfl rfl (by omega) (by omega)).mp h186
                exfalso; omega
              · skip
                replace h186 := (not_congr (nI_eqE (a := 1) (b := 0) rfl rfl (by omega) (by omega))).mp h186
                refine ww_iconst (v := (0)) C0 dX5_does_189 rfl ?_
                refine ww_goto (tgt := 202) C0 dX5_does_190 (by decide) ?_
                refine ww_iast_n (j := 10 + (d % 10)) C0 7 0 rfl rfl (nI_addE (a := 10) (b := d % 10) rfl rfl) (by omega) (by decide) dX5_does_202 ?_
                simp only [List.set_cons_zero, List.set_cons_succ]
                refine ww_iload C0 dX5_does_203 rfl ?_
                exact ww_zret C0 hr dX5_does_205 (by first | (simp [mDoes, bI, *]; done) | (exfalso; omega)) (by first | (simp [mDoes, *]; done) | (exfalso; omega))
        · skip
          replace h125 := (nI_eqE (a := d / 10) (b := 6) rfl rfl (by omega) (by omega)).mp h125
          refine ww_aload_n C0 dX5_does_128 rfl ?_
          refine ww_get C0 (ci := 5) (C := RX5) (T := TX5) (N := 33) ku_X5 0 rfl rfl 15 (by decide) kw_X5_34 rfl dX5_does_129 ?_
          refine ww_iconst (v := (5)) C0 dX5_does_132 rfl ?_
          refine ww_iload_n C0 dX5_does_133 rfl ?_
          refine ww_iadd C0 dX5_does_134 ?_
          refine ww_iald_n (j := 5 + (d % 10)) C0 7 0 rfl rfl (nI_addE (a := 5) (b := d % 10) rfl rfl) (by omega) (by decide) dX5_does_135 ?_
          refine ww_iconst (v := (3)) C0 dX5_does_136 rfl ?_
          refine ww_icmp_eq (tgt := 151) C0 dX5_does_137 (by decide) (fun h137 => ?_) (fun h137 => ?_)
          · skip
            refine ww_iload_n C0 dX5_does_151 rfl ?_
            refine ww_bipush (v := (7)) C0 dX5_does_152 rfl ?_
            refine ww_icmp_ne (tgt := 173) C0 dX5_does_154 (by decide) (fun h154 => ?_) (fun h154 => ?_)
            · skip
              replace h154 := (not_congr (nI_eqE (a := d / 10) (b := 7) rfl rfl (by omega) (by omega))).mp h154
              refine ww_iconst (v := (0)) C0 dX5_does_173 rfl ?_
              refine ww_istore (i := 4) C0 dX5_does_174 (Nat.le_of_ble_eq_true rfl) rfl ?_
              simp only [List.set_cons_zero, List.set_cons_succ]
              refine ww_aload_n C0 dX5_does_176 rfl ?_
              refine ww_get C0 (ci := 5) (C := RX5) (T := TX5) (N := 33) ku_X5 0 rfl rfl 15 (by decide) kw_X5_34 rfl dX5_does_177 ?_
              refine ww_bipush (v := (10)) C0 dX5_does_180 rfl ?_
              refine ww_iload_n C0 dX5_does_182 rfl ?_
              refine ww_iadd C0 dX5_does_183 ?_
              refine ww_iload C0 dX5_does_184 rfl ?_
              refine ww_if_eq (tgt := 193) C0 dX5_does_186 (by decide) (fun h186 => ?_) (fun h186 => ?_)
              · skip
                replace h186 := (nI_eqE (a := 0) (b := 0) rfl rfl (by omega) (by omega)).mp h186
                refine ww_aload_n C0 dX5_does_193 rfl ?_
                refine ww_get C0 (ci := 5) (C := RX5) (T := TX5) (N := 33) ku_X5 0 rfl rfl 15 (by decide) kw_X5_34 rfl dX5_does_194 ?_
                refine ww_bipush (v := (10)) C0 dX5_does_197 rfl ?_
                refine ww_iload_n C0 dX5_does_199 rfl ?_
                refine ww_iadd C0 dX5_does_200 ?_
                refine ww_iald_n (j := 10 + (d % 10)) C0 7 0 rfl rfl (nI_addE (a := 10) (b := d % 10) rfl rfl) (by omega) (by decide) dX5_does_201 ?_
                refine ww_iast_n (j := 10 + (d % 10)) C0 7 0 rfl rfl (nI_addE (a := 10) (b := d % 10) rfl rfl) (by omega) (by decide) dX5_does_202 ?_
                simp only [List.set_cons_zero, List.set_cons_succ]
                refine ww_iload C0 dX5_does_203 rfl ?_
                exact ww_zret C0 hr dX5_does_205 (by first | (simp [mDoes, bI, *]; done) | (exfalso; omega)) (by first | (simp [mDoes, *]; done) | (exfalso; omega))
              · skip
                replace h186 := (not_congr (nI_eqE (a := 0) (b := 0) rfl rfl (by omega) (by omega))).mp h186
                exfalso; omega
            · skip
              replace h154 := (nI_eqE (a := d / 10) (b := 7) rfl rfl (by omega) (by omega)).mp h154
              refine ww_aload_n C0 dX5_does_157 rfl ?_
              refine ww_get C0 (ci := 5) (C := RX5) (T := TX5) (N := 33) ku_X5 0 rfl rfl 15 (by decide) kw_X5_34 rfl dX5_does_158 ?_
              refine ww_bipush (v := (10)) C0 dX5_does_161 rfl ?_
              refine ww_iload_n C0 dX5_does_163 rfl ?_
              refine ww_iadd C0 dX5_does_164 ?_
              refine ww_iald_n (j := 10 + (d % 10)) C0 7 0 rfl rfl (nI_addE (a := 10) (b := d % 10) rfl rfl) (by omega) (by decide) dX5_does_165 ?_
              refine ww_if_eq (tgt := 173) C0 dX5_does_166 (by decide) (fun h166 => ?_) (fun h166 => ?_)
              · skip
                refine ww_iconst (v := (0)) C0 dX5_does_173 rfl ?_
                refine ww_istore (i := 4) C0 dX5_does_174 (Nat.le_of_ble_eq_true rfl) rfl ?_
                simp only [List.set_cons_zero, List.set_cons_succ]
                refine ww_aload_n C0 dX5_does_176 rfl ?_
                refine ww_get C0 (ci := 5) (C := RX5) (T := TX5) (N := 33) ku_X5 0 rfl rfl 15 (by decide) kw_X5_34 rfl dX5_does_177 ?_
                refine ww_bipush (v := (10)) C0 dX5_does_180 rfl ?_
                refine ww_iload_n C0 dX5_does_182 rfl ?_
                refine ww_iadd C0 dX5_does_183 ?_
                refine ww_iload C0 dX5_does_184 rfl ?_
                refine ww_if_eq (tgt := 193) C0 dX5_does_186 (by decide) (fun h186 => ?_) (fun h186 => ?_)
                · skip
                  replace h186 := (nI_eqE (a := 0) (b := 0) rfl rfl (by omega) (by omega)).mp h186
                  refine ww_aload_n C0 dX5_does_193 rfl ?_
                  refine ww_get C0 (ci := 5) (C := RX5) (T := TX5) (N := 33) ku_X5 0 rfl rfl 15 (by decide) kw_X5_34 rfl dX5_does_194 ?_
                  refine ww_bipush (v := (10)) C0 dX5_does_197 rfl ?_
                  refine ww_iload_n C0 dX5_does_199 rfl ?_
                  refine ww_iadd C0 dX5_does_200 ?_
                  refine ww_iald_n (j := 10 + (d % 10)) C0 7 0 rfl rfl (nI_addE (a := 10) (b := d % 10) rfl rfl) (by omega) (by decide) dX5_does_201 ?_
                  refine ww_iast_n (j := 10 + (d % 10)) C0 7 0 rfl rfl (nI_addE (a := 10) (b := d % 10) rfl rfl) (by omega) (by decide) dX5_does_202 ?_
                  simp only [List.set_cons_zero, List.set_cons_succ]
                  refine ww_iload C0 dX5_does_203 rfl ?_
                  exact ww_zret C0 hr dX5_does_205 (by first | (simp [mDoes, bI, *]; done) | (exfalso; omega)) (by first | (simp [mDoes, *]; done) | (exfalso; omega))
                · skip
                  replace h186 := (not_congr (nI_eqE (a := 0) (b := 0) rfl rfl (by omega) (by omega))).mp h186
                  exfalso; omega
              · skip
                refine ww_iconst (v := (1)) C0 dX5_does_169 rfl ?_
                refine ww_goto (tgt := 174) C0 dX5_does_170 (by decide) ?_
                refine ww_istore (i := 4) C0 dX5_does_174 (Nat.le_of_ble_eq_true rfl) rfl ?_
                simp only [List.set_cons_zero, List.set_cons_succ]
                refine ww_aload_n C0 dX5_does_176 rfl ?_
                refine ww_get C0 (ci := 5) (C := RX5) (T := TX5) (N := 33) ku_X5 0 rfl rfl 15 (by decide) kw_X5_34 rfl dX5_does_177 ?_
                refine ww_bipush (v := (10)) C0 dX5_does_180 rfl ?_
                refine ww_iload_n C0 dX5_does_182 rfl ?_
                refine ww_iadd C0 dX5_does_183 ?_
                refine ww_iload C0 dX5_does_184 rfl ?_
                refine ww_if_eq (tgt := 193) C0 dX5_does_186 (by decide) (fun h186 => ?_) (fun h186 => ?_)
                · skip
                  replace h186 := (nI_eqE (a := 1) (b := 0) rfl rfl (by omega) (by omega)).mp h186
                  exfalso; omega
                · skip
                  replace h186 := (not_congr (nI_eqE (a := 1) (b := 0) rfl rfl (by omega) (by omega))).mp h186
                  refine ww_iconst (v := (0)) C0 dX5_does_189 rfl ?_
                  refine ww_goto (tgt := 202) C0 dX5_does_190 (by decide) ?_
                  refine ww_iast_n (j := 10 + (d % 10)) C0 7 0 rfl rfl (nI_addE (a := 10) (b := d % 10) rfl rfl) (by omega) (by decide) dX5_does_202 ?_
                  simp only [List.set_cons_zero, List.set_cons_succ]
                  refine ww_iload C0 dX5_does_203 rfl ?_
                  exact ww_zret C0 hr dX5_does_205 (by first | (simp [mDoes, bI, *]; done) | (exfalso; omega)) (by first | (simp [mDoes, *]; done) | (exfalso; omega))
          · skip
            refine ww_aload_n C0 dX5_does_140 rfl ?_
            refine ww_get C0 (ci := 5) (C := RX5) (T := TX5) (N := 33) ku_X5 0 rfl rfl 15 (by decide) kw_X5_34 rfl dX5_does_141 ?_
            refine ww_iconst (v := (5)) C0 dX5_does_144 rfl ?_
            refine ww_iload_n C0 dX5_does_145 rfl ?_
            refine ww_iadd C0 dX5_does_146 ?_
            refine ww_iconst (v := (3)) C0 dX5_does_147 rfl ?_
            refine ww_iast_n (j := 5 + (d % 10)) C0 7 0 rfl rfl (nI_addE (a := 5) (b := d % 10) rfl rfl) (by omega) (by decide) dX5_does_148 ?_
            simp only [List.set_cons_zero, List.set_cons_succ]
            refine ww_iconst (v := (1)) C0 dX5_does_149 rfl ?_
            exact ww_zret C0 hr dX5_does_150 (by first | (simp [mDoes, bI, *]; done) | (exfalso; omega)) (by first | (simp [mDoes, *]; done) | (exfalso; omega))
      · skip
        have hk6 : ¬ d % 10 < nm := by rw [hK2] at h117; simpa using h117
        refine ww_iconst (v := (0)) C0 dX5_does_120 rfl ?_
        exact ww_zret C0 hr dX5_does_121 (by first | (simp [mDoes, bI, *]; done) | (exfalso; omega)) (by first | (simp [mDoes, *]; done) | (exfalso; omega))
    · skip
      rw [isB_nI (by decide) (by decide) (by omega)] at h36
      have hc1 : 1 ≤ d / 10 ∧ d / 10 ≤ 5 := by simpa using h36
      refine ww_aload_n C0 dX5_does_39 rfl ?_
      refine ww_iload_n C0 dX5_does_40 rfl ?_
      refine ww_iconst (v := (1)) C0 dX5_does_41 rfl ?_
      refine ww_isub C0 dX5_does_42 ?_
      refine ww_top (nI_subE (a := d / 10) (b := 1) rfl rfl (by omega)) ?_
      have hK : isN nm (nI (d / 10 - 1)) = decide (d / 10 - 1 < nm) := isN_nI' (by omega) (by omega)
      refine ww_callVi C0 (qc := (RX5, TX5, 33)) 0 5 (c_X5_noMule l D cI cZ cQ hnm) kd_X5_noMule kw_X5_151 km_X5_noMule kl_X5_noMule ki_X5 hd_X5_noMule rfl rfl ⟨Nat.le_of_ble_eq_true rfl, Nat.le_of_ble_eq_true rfl, rfl, rfl⟩ (Nat.le_of_ble_eq_true rfl) dX5_does_43 rfl rfl rfl ⟨Nat.zero_le _, Nat.zero_le _⟩ ?_
      refine ww_bif_ne (tgt := 89) C0 dX5_does_46 (by decide) (fun h46 => ?_) (fun h46 => ?_)
      · skip
        have hk : ¬ d / 10 - 1 < nm := by rw [hK] at h46; simpa using h46
        refine ww_iconst (v := (0)) C0 dX5_does_89 rfl ?_
        refine ww_istore (i := 4) C0 dX5_does_90 (Nat.le_of_ble_eq_true rfl) rfl ?_
        simp only [List.set_cons_zero, List.set_cons_succ]
        refine ww_iload C0 dX5_does_92 rfl ?_
        refine ww_if_eq (tgt := 109) C0 dX5_does_94 (by decide) (fun h94 => ?_) (fun h94 => ?_)
        · skip
          replace h94 := (nI_eqE (a := 0) (b := 0) rfl rfl (by omega) (by omega)).mp h94
          refine ww_iload C0 dX5_does_109 rfl ?_
          exact ww_zret C0 hr dX5_does_111 (by first | (simp [mDoes, bI, *]; done) | (exfalso; omega)) (by first | (simp [mDoes, *]; done) | (exfalso; omega))
        · skip
          replace h94 := (not_congr (nI_eqE (a := 0) (b := 0) rfl rfl (by omega) (by omega))).mp h94
          exfalso; omega
      · skip
        have hk : d / 10 - 1 < nm := by rw [hK] at h46; simpa using h46
        have hk5 : d / 10 - 1 < 5 := by omega
        refine ww_iload_n C0 dX5_does_49 rfl ?_
        refine ww_iconst (v := (2)) C0 dX5_does_50 rfl ?_
        refine ww_icmp_ge (tgt := 89) C0 dX5_does_51 (by decide) (fun h51 => ?_) (fun h51 => ?_)
        · skip
          replace h51 := (nI_leE (a := 2) (b := d % 10) rfl rfl (by omega) (by omega)).mp h51
          have hk2 : ¬ d % 10 < 2 := by omega
          refine ww_iconst (v := (0)) C0 dX5_does_89 rfl ?_
          refine ww_istore (i := 4) C0 dX5_does_90 (Nat.le_of_ble_eq_true rfl) rfl ?_
          simp only [List.set_cons_zero, List.set_cons_succ]
          refine ww_iload C0 dX5_does_92 rfl ?_
          refine ww_if_eq (tgt := 109) C0 dX5_does_94 (by decide) (fun h94 => ?_) (fun h94 => ?_)
          · skip
            replace h94 := (nI_eqE (a := 0) (b := 0) rfl rfl (by omega) (by omega)).mp h94
            refine ww_iload C0 dX5_does_109 rfl ?_
            exact ww_zret C0 hr dX5_does_111 (by first | (simp [mDoes, bI, *]; done) | (exfalso; omega)) (by first | (simp [mDoes, *]; done) | (exfalso; omega))
          · skip
            replace h94 := (not_congr (nI_eqE (a := 0) (b := 0) rfl rfl (by omega) (by omega))).mp h94
            exfalso; omega
        · skip
          replace h51 := (not_congr (nI_leE (a := 2) (b := d % 10) rfl rfl (by omega) (by omega))).mp h51
          have hk2 : d % 10 < 2 := by omega
          refine ww_aload_n C0 dX5_does_54 rfl ?_
          refine ww_get C0 (ci := 5) (C := RX5) (T := TX5) (N := 33) ku_X5 0 rfl rfl 15 (by decide) kw_X5_34 rfl dX5_does_55 ?_
          refine ww_iload_n C0 dX5_does_58 rfl ?_
          refine ww_iconst (v := (1)) C0 dX5_does_59 rfl ?_
          refine ww_isub C0 dX5_does_60 ?_
          refine ww_iload_n C0 dX5_does_61 rfl ?_
          refine ww_cong ?_ rfl (congrArg (fun z => Value.int z :: _) rfl) rfl
          refine ww_cong ?_ rfl (congrArg (fun z => _ :: Value.int z :: _) (nI_subE (a := d / 10) (b := 1) rfl rfl (by omega))) rfl
          refine ww_perm (perm_mv 6 1 1 _) ?_
          simp only [List.drop_succ_cons, List.drop_zero, List.take_succ_cons, List.take_zero, List.cons_append, List.nil_append, Nat.reduceAdd]
          refine ww_callSi C0 (c_X5_toStone l D cI cZ cQ hk5) kd_X5_toStone kw_X5_119 ks_X5_toStone ki_X5 hd_X5_toStone ⟨Nat.le_of_ble_eq_true rfl, Nat.le_of_ble_eq_true rfl, rfl, rfl⟩ (Nat.le_of_ble_eq_true rfl) dX5_does_62 rfl rfl ⟨Nat.zero_le _, Nat.zero_le _⟩ ?_
          refine ww_perm (perm_mv 6 1 1 _) ?_
          simp only [List.drop_succ_cons, List.drop_zero, List.take_succ_cons, List.take_zero, List.cons_append, List.nil_append, Nat.reduceAdd]
          refine ww_bipush (v := (-9)) C0 dX5_does_65 rfl ?_
          refine ww_icmp_eq (tgt := 89) C0 dX5_does_67 (by decide) (fun h67 => ?_) (fun h67 => ?_)
          · skip
            refine ww_iconst (v := (0)) C0 dX5_does_89 rfl ?_
            refine ww_istore (i := 4) C0 dX5_does_90 (Nat.le_of_ble_eq_true rfl) rfl ?_
            simp only [List.set_cons_zero, List.set_cons_succ]
            refine ww_iload C0 dX5_does_92 rfl ?_
            refine ww_if_eq (tgt := 109) C0 dX5_does_94 (by decide) (fun h94 => ?_) (fun h94 => ?_)
            · skip
              replace h94 := (nI_eqE (a := 0) (b := 0) rfl rfl (by omega) (by omega)).mp h94
              refine ww_iload C0 dX5_does_109 rfl ?_
              exact ww_zret C0 hr dX5_does_111 (by first | (simp [mDoes, bI, *]; done) | (exfalso; omega)) (by first | (simp [mDoes, *]; done) | (exfalso; omega))
            · skip
              replace h94 := (not_congr (nI_eqE (a := 0) (b := 0) rfl rfl (by omega) (by omega))).mp h94
              exfalso; omega
          · skip
            refine ww_aload_n C0 dX5_does_70 rfl ?_
            refine ww_aload_n C0 dX5_does_71 rfl ?_
            refine ww_get C0 (ci := 5) (C := RX5) (T := TX5) (N := 33) ku_X5 0 rfl rfl 15 (by decide) kw_X5_34 rfl dX5_does_72 ?_
            refine ww_iload_n C0 dX5_does_75 rfl ?_
            refine ww_iconst (v := (1)) C0 dX5_does_76 rfl ?_
            refine ww_isub C0 dX5_does_77 ?_
            refine ww_iload_n C0 dX5_does_78 rfl ?_
            refine ww_cong ?_ rfl (congrArg (fun z => Value.int z :: _) rfl) rfl
            refine ww_cong ?_ rfl (congrArg (fun z => _ :: Value.int z :: _) (nI_subE (a := d / 10) (b := 1) rfl rfl (by omega))) rfl
            refine ww_perm (perm_mv 6 1 1 _) ?_
            simp only [List.drop_succ_cons, List.drop_zero, List.take_succ_cons, List.take_zero, List.cons_append, List.nil_append, Nat.reduceAdd]
            refine ww_callVi C0 (qc := (RX5, TX5, 33)) 0 5 (c_X5_forbids l D cI cZ cQ hnm hna hk) kd_X5_forbids kw_X5_130 km_X5_forbids kl_X5_forbids ki_X5 hd_X5_forbids rfl rfl ⟨Nat.le_of_ble_eq_true rfl, Nat.le_of_ble_eq_true rfl, rfl, rfl⟩ (Nat.le_of_ble_eq_true rfl) dX5_does_79 rfl rfl rfl ⟨Nat.zero_le _, Nat.zero_le _⟩ ?_
            refine ww_perm (perm_mv 6 1 1 _) ?_
            simp only [List.drop_succ_cons, List.drop_zero, List.take_succ_cons, List.take_zero, List.cons_append, List.nil_append, Nat.reduceAdd]
            refine ww_if_ne (tgt := 89) C0 dX5_does_82 (by decide) (fun h82 => ?_) (fun h82 => ?_)
            · skip
              refine ww_iconst (v := (0)) C0 dX5_does_89 rfl ?_
              refine ww_istore (i := 4) C0 dX5_does_90 (Nat.le_of_ble_eq_true rfl) rfl ?_
              simp only [List.set_cons_zero, List.set_cons_succ]
              refine ww_iload C0 dX5_does_92 rfl ?_
              refine ww_if_eq (tgt := 109) C0 dX5_does_94 (by decide) (fun h94 => ?_) (fun h94 => ?_)
              · skip
                replace h94 := (nI_eqE (a := 0) (b := 0) rfl rfl (by omega) (by omega)).mp h94
                refine ww_iload C0 dX5_does_109 rfl ?_
                exact ww_zret C0 hr dX5_does_111 (by first | (simp [mDoes, bI, *]; done) | (exfalso; omega)) (by first | (simp [mDoes, *]; done) | (exfalso; omega))
              · skip
                replace h94 := (not_congr (nI_eqE (a := 0) (b := 0) rfl rfl (by omega) (by omega))).mp h94
                exfalso; omega
            · skip
              refine ww_iconst (v := (1)) C0 dX5_does_85 rfl ?_
              refine ww_goto (tgt := 90) C0 dX5_does_86 (by decide) ?_
              refine ww_istore (i := 4) C0 dX5_does_90 (Nat.le_of_ble_eq_true rfl) rfl ?_
              simp only [List.set_cons_zero, List.set_cons_succ]
              refine ww_iload C0 dX5_does_92 rfl ?_
              refine ww_if_eq (tgt := 109) C0 dX5_does_94 (by decide) (fun h94 => ?_) (fun h94 => ?_)
              · skip
                replace h94 := (nI_eqE (a := 1) (b := 0) rfl rfl (by omega) (by omega)).mp h94
                exfalso; omega
              · skip
                replace h94 := (not_congr (nI_eqE (a := 1) (b := 0) rfl rfl (by omega) (by omega))).mp h94
                refine ww_aload_n C0 dX5_does_97 rfl ?_
                refine ww_aload_n C0 dX5_does_98 rfl ?_
                refine ww_get C0 (ci := 5) (C := RX5) (T := TX5) (N := 33) ku_X5 0 rfl rfl 15 (by decide) kw_X5_34 rfl dX5_does_99 ?_
                refine ww_iload_n C0 dX5_does_102 rfl ?_
                refine ww_iconst (v := (1)) C0 dX5_does_103 rfl ?_
                refine ww_isub C0 dX5_does_104 ?_
                refine ww_iload_n C0 dX5_does_105 rfl ?_
                refine ww_cong ?_ rfl (congrArg (fun z => Value.int z :: _) rfl) rfl
                refine ww_cong ?_ rfl (congrArg (fun z => _ :: Value.int z :: _) (nI_subE (a := d / 10) (b := 1) rfl rfl (by omega))) rfl
                refine ww_perm (perm_mv 6 1 1 _) ?_
                simp only [List.drop_succ_cons, List.drop_zero, List.take_succ_cons, List.take_zero, List.cons_append, List.nil_append, Nat.reduceAdd]
                refine ww_callVv C0 (qc := (RX5, TX5, 33)) 0 5 (c_X5_go l D cI cZ cQ hnm hna hk) kd_X5_go kw_X5_171 km_X5_go kl_X5_go ki_X5 hd_X5_go rfl rfl ⟨Nat.le_of_ble_eq_true rfl, Nat.le_of_ble_eq_true rfl, rfl, rfl⟩ (Nat.le_of_ble_eq_true rfl) dX5_does_106 rfl rfl rfl ⟨Nat.zero_le _, Nat.zero_le _⟩ ?_
                refine ww_perm (perm_mv 6 1 1 _) ?_
                simp only [List.drop_succ_cons, List.drop_zero, List.take_succ_cons, List.take_zero, List.cons_append, List.nil_append, Nat.reduceAdd]
                refine ww_iload C0 dX5_does_109 rfl ?_
                exact ww_zret C0 hr dX5_does_111 (by first | (simp [mDoes, bI, *]; done) | (exfalso; omega)) (by first | (simp [mDoes, *]; done) | (exfalso; omega))
  · skip
    replace h11 := (nI_eqE (a := d) (b := 0) rfl rfl (by omega) (by omega)).mp h11
    refine ww_aload_n C0 dX5_does_14 rfl ?_
    refine ww_get C0 (ci := 5) (C := RX5) (T := TX5) (N := 33) ku_X5 0 rfl rfl 15 (by decide) kw_X5_34 rfl dX5_does_15 ?_
    refine ww_bipush (v := (15)) C0 dX5_does_18 rfl ?_
    refine ww_dup2 C0 dX5_does_20 rfl rfl ?_
    refine ww_iald_n (j := 15) C0 7 0 rfl rfl rfl (by omega) (by decide) dX5_does_21 ?_
    refine ww_iconst (v := (1)) C0 dX5_does_22 rfl ?_
    refine ww_iadd C0 dX5_does_23 ?_
    refine ww_iast_n (j := 15) C0 7 0 rfl rfl rfl (by omega) (by decide) dX5_does_24 ?_
    simp only [List.set_cons_zero, List.set_cons_succ]
    refine ww_iconst (v := (1)) C0 dX5_does_25 rfl ?_
    exact ww_zret C0 hr dX5_does_26 (by first | (simp [mDoes, bI, *]; done) | (exfalso; omega)) (by first | (simp [mDoes, *]; done) | (exfalso; omega))

set_option maxHeartbeats 4000000 in
set_option maxRecDepth 100000 in
theorem c_X5_judge_b (l : Launch) (D : va_G) (cI cZ cQ : ClassId) {aM amt amc amw ams amv amr amx amp amq amb amk amz am0 am1 am2 am3 am4 amh amo : Nat} {tn nm na ac gn : Nat} {th vpl vrm vra x0 x1 x2 x3 : Int32} {sd : Int64} {rest : va_W} {n x : Int32} (hb : isB 1 4 n = false) : MI l D [(cI, .int), (cZ, .boolean), (cQ, .object "MulesRemember$State")] yX5_judge cX5_judge 4 .int ({ frames := 5, cells := 0, slots := 0, locals := 123 } : Room) [.ref aM, .int n, .int x] ((aM, .inr (5, [.int th, .ref amt, .int (nI tn), .int vpl, .int (nI nm), .ref amc, .int (nI na), .ref amw, .ref ams, .ref amv, .int vrm, .ref amr, .int vra, .ref amx, .ref amp, .ref amq, .ref amb, .int (nI ac), .ref amk, .ref amz, .int (nI gn), .ref am0, .ref am1, .ref am2, .ref am3, .ref am4, .long sd, .ref amh, .int x0, .int x1, .int x2, .int x3, .ref amo])) :: rest) (-2) ((aM, .inr (5, [.int 0, .ref amt, .int (nI tn), .int vpl, .int (nI nm), .ref amc, .int (nI na), .ref amw, .ref ams, .ref amv, .int vrm, .ref amr, .int vra, .ref amx, .ref amp, .ref amq, .ref amb, .int (nI ac), .ref amk, .ref amz, .int (nI gn), .ref am0, .ref am1, .ref am2, .ref am3, .ref am4, .long sd, .ref amh, .int x0, .int x1, .int x2, .int x3, .ref amo])) :: rest) := by
  refine MI.of [.ref aM, .int n, .int x, .null] (by decide) (Nat.le_of_ble_eq_true rfl) rfl ?_
  intro p e s m below meth c A C0 hr
  refine ww_aload_n C0 dX5_judge_0 rfl ?_
  refine ww_iconst (v := (0)) C0 dX5_judge_1 rfl ?_
  refine ww_put C0 (ci := 5) (C := RX5) (T := TX5) (N := 33) ku_X5 0 rfl rfl 0 (by decide) tyX5 tyX5_ok nmX5 kw_X5_68 rfl (ty := .int) (by decide +kernel) rfl rfl (Nat.le_of_ble_eq_true rfl) dX5_judge_2 ?_
  simp only [List.set_cons_zero, List.set_cons_succ]
  refine ww_iload_n C0 dX5_judge_5 rfl ?_
  refine ww_i2l C0 dX5_judge_6 ?_
  refine ww_lconst (v := 1) C0 dX5_judge_7 rfl ?_
  refine ww_ldc2 C0 kw_X5_187 dX5_judge_8 ?_
  refine ww_callSi C0 (c_X5_inB l D cI cZ cQ (a := nI 1) (b := nI 4) (by decide) (by decide)) kd_X5_in kw_X5_75 ks_X5_in ki_X5 hd_X5_in ⟨Nat.le_of_ble_eq_true rfl, Nat.le_of_ble_eq_true rfl, rfl, rfl⟩ (Nat.le_of_ble_eq_true rfl) dX5_judge_11 rfl rfl ⟨Nat.zero_le _, Nat.zero_le _⟩ ?_
  refine ww_bif_eq (tgt := 35) C0 dX5_judge_14 (by decide) (fun h14 => ?_) (fun h14 => ?_)
  · skip
    refine ww_bipush (v := (-2)) C0 dX5_judge_35 rfl ?_
    exact ww_iret C0 hr dX5_judge_37 (by rfl) (by rfl)
  · skip
    exact absurd hb (by rw [show isB 1 4 n = true from h14]; decide)

set_option maxHeartbeats 4000000 in
set_option maxRecDepth 100000 in
theorem c_X5_judge_b2 (l : Launch) (D : va_G) (cI cZ cQ : ClassId) {aM amt amc amw ams amv amr amx amp amq amb amk amz am0 am1 am2 am3 am4 amh amo : Nat} {tn nm na ac gn : Nat} {th vpl vrm vra x0 x1 x2 x3 : Int32} {sd : Int64} {rest : va_W} {nn : Nat} {x : Int32} (hn1 : 1 ≤ nn) (hn4 : nn ≤ 4) (hb : isB 0 (mPow 100 nn - 1) x = false) : MI l D [(cI, .int), (cZ, .boolean), (cQ, .object "MulesRemember$State")] yX5_judge cX5_judge 4 .int ({ frames := 5, cells := 0, slots := 0, locals := 123 } : Room) [.ref aM, .int (nI nn), .int x] ((aM, .inr (5, [.int th, .ref amt, .int (nI tn), .int vpl, .int (nI nm), .ref amc, .int (nI na), .ref amw, .ref ams, .ref amv, .int vrm, .ref amr, .int vra, .ref amx, .ref amp, .ref amq, .ref amb, .int (nI ac), .ref amk, .ref amz, .int (nI gn), .ref am0, .ref am1, .ref am2, .ref am3, .ref am4, .long sd, .ref amh, .int x0, .int x1, .int x2, .int x3, .ref amo])) :: rest) (-2) ((aM, .inr (5, [.int 0, .ref amt, .int (nI tn), .int vpl, .int (nI nm), .ref amc, .int (nI na), .ref amw, .ref ams, .ref amv, .int vrm, .ref amr, .int vra, .ref amx, .ref amp, .ref amq, .ref amb, .int (nI ac), .ref amk, .ref amz, .int (nI gn), .ref am0, .ref am1, .ref am2, .ref am3, .ref am4, .long sd, .ref amh, .int x0, .int x1, .int x2, .int x3, .ref amo])) :: rest) := by
  refine MI.of [.ref aM, .int (nI nn), .int x, .null] (by decide) (Nat.le_of_ble_eq_true rfl) rfl ?_
  intro p e s m below meth c A C0 hr
  refine ww_aload_n C0 dX5_judge_0 rfl ?_
  refine ww_iconst (v := (0)) C0 dX5_judge_1 rfl ?_
  refine ww_put C0 (ci := 5) (C := RX5) (T := TX5) (N := 33) ku_X5 0 rfl rfl 0 (by decide) tyX5 tyX5_ok nmX5 kw_X5_68 rfl (ty := .int) (by decide +kernel) rfl rfl (Nat.le_of_ble_eq_true rfl) dX5_judge_2 ?_
  simp only [List.set_cons_zero, List.set_cons_succ]
  refine ww_iload_n C0 dX5_judge_5 rfl ?_
  refine ww_i2l C0 dX5_judge_6 ?_
  refine ww_lconst (v := 1) C0 dX5_judge_7 rfl ?_
  refine ww_ldc2 C0 kw_X5_187 dX5_judge_8 ?_
  refine ww_callSi C0 (c_X5_inB l D cI cZ cQ (a := nI 1) (b := nI 4) (by decide) (by decide)) kd_X5_in kw_X5_75 ks_X5_in ki_X5 hd_X5_in ⟨Nat.le_of_ble_eq_true rfl, Nat.le_of_ble_eq_true rfl, rfl, rfl⟩ (Nat.le_of_ble_eq_true rfl) dX5_judge_11 rfl rfl ⟨Nat.zero_le _, Nat.zero_le _⟩ ?_
  refine ww_bif_eq (tgt := 35) C0 dX5_judge_14 (by decide) (fun h14 => ?_) (fun h14 => ?_)
  · skip
    exact absurd (show isB (nI 1) (nI 4) (nI nn) = true by rw [isB_nI (by decide) (by decide) (by omega)]; simp [hn1, hn4]) (by rw [h14]; decide)
  · skip
    refine ww_iload_n C0 dX5_judge_17 rfl ?_
    refine ww_i2l C0 dX5_judge_18 ?_
    refine ww_lconst (v := 0) C0 dX5_judge_19 rfl ?_
    refine ww_bipush (v := (100)) C0 dX5_judge_20 rfl ?_
    refine ww_iload_n C0 dX5_judge_22 rfl ?_
    refine ww_callSi C0 (c_X5_power l D cI cZ cQ (by omega)) kd_X5_power kw_X5_189 ks_X5_power ki_X5 hd_X5_power ⟨Nat.le_of_ble_eq_true rfl, Nat.le_of_ble_eq_true rfl, rfl, rfl⟩ (Nat.le_of_ble_eq_true rfl) dX5_judge_23 rfl rfl ⟨Nat.zero_le _, Nat.zero_le _⟩ ?_
    refine ww_iconst (v := (1)) C0 dX5_judge_26 rfl ?_
    refine ww_isub C0 dX5_judge_27 ?_
    refine ww_i2l C0 dX5_judge_28 ?_
    refine ww_callSi C0 (c_X5_inB l D cI cZ cQ (a := 0) (b := (mPow 100 nn - 1)) rfl rfl) kd_X5_in kw_X5_75 ks_X5_in ki_X5 hd_X5_in ⟨Nat.le_of_ble_eq_true rfl, Nat.le_of_ble_eq_true rfl, rfl, rfl⟩ (Nat.le_of_ble_eq_true rfl) dX5_judge_29 rfl rfl ⟨Nat.zero_le _, Nat.zero_le _⟩ ?_
    refine ww_bif_ne (tgt := 38) C0 dX5_judge_32 (by decide) (fun h32 => ?_) (fun h32 => ?_)
    · skip
      exact absurd hb (by rw [h32]; decide)
    · skip
      refine ww_bipush (v := (-2)) C0 dX5_judge_35 rfl ?_
      exact ww_iret C0 hr dX5_judge_37 (by rfl) (by rfl)

set_option maxHeartbeats 4000000 in
set_option maxRecDepth 100000 in
theorem c_X5_judge (l : Launch) (D : va_G) (cI cZ cQ : ClassId) {aM amt amc amw ams amv amr amx amp amq amb amk amz am0 am1 am2 am3 am4 amh amo : Nat} {tn nm na ac gn : Nat} {th vpl vrm vra x0 x1 x2 x3 : Int32} {sd : Int64} {fmt fmc fmw fms fmv fmp fmq : Nat → Int32} {rest : va_W} {nn rw0 : Nat} (hnm : nm ≤ 5) (hna : na ≤ 5) (hn1 : 1 ≤ nn) (hn4 : nn ≤ 4) (hrw : rw0 < 2 ^ 31) (hb : isB 0 (mPow 100 nn - 1) (nI rw0) = true) : MI l D [(cI, .int), (cZ, .boolean), (cQ, .object "MulesRemember$State")] yX5_judge cX5_judge 4 .int ({ frames := 5, cells := 0, slots := 0, locals := 123 } : Room) [.ref aM, .int (nI nn), .int (nI rw0)] ((aM, .inr (5, [.int th, .ref amt, .int (nI tn), .int vpl, .int (nI nm), .ref amc, .int (nI na), .ref amw, .ref ams, .ref amv, .int vrm, .ref amr, .int vra, .ref amx, .ref amp, .ref amq, .ref amb, .int (nI ac), .ref amk, .ref amz, .int (nI gn), .ref am0, .ref am1, .ref am2, .ref am3, .ref am4, .long sd, .ref amh, .int x0, .int x1, .int x2, .int x3, .ref amo])) :: (amt, .inl (cI, 48, .inl (fmt))) :: (amc, .inl (cI, 5, .inl (fmc))) :: (amw, .inl (cI, 5, .inl (fmw))) :: (ams, .inl (cI, 5, .inl (fms))) :: (amv, .inl (cI, 5, .inl (fmv))) :: (amp, .inl (cI, 17, .inl (fmp))) :: (amq, .inl (cI, 17, .inl (fmq))) :: rest) ((mJudge nm na fmw fms fmv fmc nn rw0 nn 0 fmp).1) ((aM, .inr (5, [.int 0, .ref amt, .int (nI tn), .int vpl, .int (nI nm), .ref amc, .int (nI na), .ref amw, .ref ams, .ref amv, .int vrm, .ref amr, .int vra, .ref amx, .ref amp, .ref amq, .ref amb, .int (nI ac), .ref amk, .ref amz, .int (nI gn), .ref am0, .ref am1, .ref am2, .ref am3, .ref am4, .long sd, .ref amh, .int x0, .int x1, .int x2, .int x3, .ref amo])) :: (amt, .inl (cI, 48, .inl (fmt))) :: (amc, .inl (cI, 5, .inl (fmc))) :: (amw, .inl (cI, 5, .inl (fmw))) :: (ams, .inl (cI, 5, .inl (fms))) :: (amv, .inl (cI, 5, .inl (fmv))) :: (amp, .inl (cI, 17, .inl (fmp))) :: (amq, .inl (cI, 17, .inl ((mJudge nm na fmw fms fmv fmc nn rw0 nn 0 fmp).2))) :: rest) := by
  refine MI.of [.ref aM, .int (nI nn), .int (nI rw0), .null] (by decide) (Nat.le_of_ble_eq_true rfl) rfl ?_
  intro p e s m below meth c A C0 hr
  refine ww_aload_n C0 dX5_judge_0 rfl ?_
  refine ww_iconst (v := (0)) C0 dX5_judge_1 rfl ?_
  refine ww_put C0 (ci := 5) (C := RX5) (T := TX5) (N := 33) ku_X5 0 rfl rfl 0 (by decide) tyX5 tyX5_ok nmX5 kw_X5_68 rfl (ty := .int) (by decide +kernel) rfl rfl (Nat.le_of_ble_eq_true rfl) dX5_judge_2 ?_
  simp only [List.set_cons_zero, List.set_cons_succ]
  refine ww_iload_n C0 dX5_judge_5 rfl ?_
  refine ww_i2l C0 dX5_judge_6 ?_
  refine ww_lconst (v := 1) C0 dX5_judge_7 rfl ?_
  refine ww_ldc2 C0 kw_X5_187 dX5_judge_8 ?_
  refine ww_callSi C0 (c_X5_inB l D cI cZ cQ (a := nI 1) (b := nI 4) (by decide) (by decide)) kd_X5_in kw_X5_75 ks_X5_in ki_X5 hd_X5_in ⟨Nat.le_of_ble_eq_true rfl, Nat.le_of_ble_eq_true rfl, rfl, rfl⟩ (Nat.le_of_ble_eq_true rfl) dX5_judge_11 rfl rfl ⟨Nat.zero_le _, Nat.zero_le _⟩ ?_
  refine ww_bif_eq (tgt := 35) C0 dX5_judge_14 (by decide) (fun h14 => ?_) (fun h14 => ?_)
  · skip
    exact absurd (show isB (nI 1) (nI 4) (nI nn) = true by rw [isB_nI (by decide) (by decide) (by omega)]; simp [hn1, hn4]) (by rw [h14]; decide)
  · skip
    refine ww_iload_n C0 dX5_judge_17 rfl ?_
    refine ww_i2l C0 dX5_judge_18 ?_
    refine ww_lconst (v := 0) C0 dX5_judge_19 rfl ?_
    refine ww_bipush (v := (100)) C0 dX5_judge_20 rfl ?_
    refine ww_iload_n C0 dX5_judge_22 rfl ?_
    refine ww_callSi C0 (c_X5_power l D cI cZ cQ (by omega)) kd_X5_power kw_X5_189 ks_X5_power ki_X5 hd_X5_power ⟨Nat.le_of_ble_eq_true rfl, Nat.le_of_ble_eq_true rfl, rfl, rfl⟩ (Nat.le_of_ble_eq_true rfl) dX5_judge_23 rfl rfl ⟨Nat.zero_le _, Nat.zero_le _⟩ ?_
    refine ww_iconst (v := (1)) C0 dX5_judge_26 rfl ?_
    refine ww_isub C0 dX5_judge_27 ?_
    refine ww_i2l C0 dX5_judge_28 ?_
    refine ww_callSi C0 (c_X5_inB l D cI cZ cQ (a := 0) (b := (mPow 100 nn - 1)) rfl rfl) kd_X5_in kw_X5_75 ks_X5_in ki_X5 hd_X5_in ⟨Nat.le_of_ble_eq_true rfl, Nat.le_of_ble_eq_true rfl, rfl, rfl⟩ (Nat.le_of_ble_eq_true rfl) dX5_judge_29 rfl rfl ⟨Nat.zero_le _, Nat.zero_le _⟩ ?_
    refine ww_bif_ne (tgt := 38) C0 dX5_judge_32 (by decide) (fun h32 => ?_) (fun h32 => ?_)
    · skip
      refine ww_aload_n C0 dX5_judge_38 rfl ?_
      refine ww_callVv C0 (qc := (RX5, TX5, 33)) 0 5 (c_X5_begin l D cI cZ cQ) kd_X5_begin kw_X5_175 km_X5_begin kl_X5_begin ki_X5 hd_X5_begin rfl rfl ⟨Nat.le_of_ble_eq_true rfl, Nat.le_of_ble_eq_true rfl, rfl, rfl⟩ (Nat.le_of_ble_eq_true rfl) dX5_judge_39 rfl rfl rfl ⟨Nat.zero_le _, Nat.zero_le _⟩ ?_
      refine ww_iconst (v := (0)) C0 dX5_judge_42 rfl ?_
      refine ww_istore_n (i := 3) C0 dX5_judge_43 rfl (Nat.le_of_ble_eq_true rfl) rfl ?_
      simp only [List.set_cons_zero, List.set_cons_succ]
      refine ww_back (ww_loopI (σ := Nat → Int32) (pc := 44) 0 nn (by omega) (fun j P => (mJudge nm na fmw fms fmv fmc nn rw0 nn 0 fmp) = mJudge nm na fmw fms fmv fmc nn rw0 (nn - j) j P) (fun j _ => [_, _, _, .int (nI j)]) (fun _ P => (aM, .inr (5, [.int 0, .ref amt, .int (nI tn), .int vpl, .int (nI nm), .ref amc, .int (nI na), .ref amw, .ref ams, .ref amv, .int vrm, .ref amr, .int vra, .ref amx, .ref amp, .ref amq, .ref amb, .int (nI ac), .ref amk, .ref amz, .int (nI gn), .ref am0, .ref am1, .ref am2, .ref am3, .ref am4, .long sd, .ref amh, .int x0, .int x1, .int x2, .int x3, .ref amo])) :: (amt, .inl (cI, 48, .inl (fmt))) :: (amc, .inl (cI, 5, .inl (fmc))) :: (amw, .inl (cI, 5, .inl (fmw))) :: (ams, .inl (cI, 5, .inl (fms))) :: (amv, .inl (cI, 5, .inl (fmv))) :: (amp, .inl (cI, 17, .inl (fmp))) :: (amq, .inl (cI, 17, .inl (P))) :: rest) fmp rfl ?_ ?_) ⟨Or.inr rfl, Or.inr rfl, Or.inr rfl, Or.inr rfl, trivial⟩ (by rfl)
      · skip
        intro j P hj0 hj hI ih
        rw [show nn - j = (nn - (j + 1)) + 1 by omega, mJudge_s] at hI
        have hpw := pw100 (n := nn - 1 - j) (by omega)
        have hdv : rw0 / 100 ^ (nn - 1 - j) ≤ rw0 := Nat.div_le_self _ _
        refine ww_iload_n C0 dX5_judge_44 rfl ?_
        refine ww_iload_n C0 dX5_judge_45 rfl ?_
        refine ww_icmp_ge (tgt := 79) C0 dX5_judge_46 (by decide) (fun h46 => ?_) (fun h46 => ?_)
        · skip
          replace h46 := (nI_leE (a := nn) (b := j) rfl rfl (by omega) (by omega)).mp h46
          exfalso; omega
        · skip
          replace h46 := (not_congr (nI_leE (a := nn) (b := j) rfl rfl (by omega) (by omega))).mp h46
          refine ww_aload_n C0 dX5_judge_49 rfl ?_
          refine ww_iload_n C0 dX5_judge_50 rfl ?_
          refine ww_bipush (v := (100)) C0 dX5_judge_51 rfl ?_
          refine ww_iload_n C0 dX5_judge_53 rfl ?_
          refine ww_iconst (v := (1)) C0 dX5_judge_54 rfl ?_
          refine ww_isub C0 dX5_judge_55 ?_
          refine ww_iload_n C0 dX5_judge_56 rfl ?_
          refine ww_isub C0 dX5_judge_57 ?_
          refine ww_top (nI_subE (a := nn - 1) (b := j) (nI_subE (a := nn) (b := 1) rfl rfl (by omega)) rfl (by omega)) ?_
          refine ww_callSi C0 (c_X5_power l D cI cZ cQ (by omega)) kd_X5_power kw_X5_189 ks_X5_power ki_X5 hd_X5_power ⟨Nat.le_of_ble_eq_true rfl, Nat.le_of_ble_eq_true rfl, rfl, rfl⟩ (Nat.le_of_ble_eq_true rfl) dX5_judge_58 rfl rfl ⟨Nat.zero_le _, Nat.zero_le _⟩ ?_
          refine ww_top (mPow_nI 100 (nn - 1 - j)) ?_
          refine ww_idiv C0 dX5_judge_61 (nI_ne0 (by omega) (by omega)) ?_
          refine ww_bipush (v := (100)) C0 dX5_judge_62 rfl ?_
          refine ww_irem C0 dX5_judge_64 (by decide) ?_
          refine ww_top (nI_remE (a := rw0 / (100 ^ (nn - 1 - j))) (b := 100) (nI_divE (a := rw0) (b := 100 ^ (nn - 1 - j)) rfl rfl (by omega) (by omega) (by omega)) rfl (by omega) (by omega) (by omega)) ?_
          refine ww_callVi C0 (qc := (RX5, TX5, 33)) 0 5 (c_X5_does l D cI cZ cQ hnm hna (Nat.mod_lt _ (by decide))) kd_X5_does kw_X5_192 km_X5_does kl_X5_does ki_X5 hd_X5_does rfl rfl ⟨Nat.le_of_ble_eq_true rfl, Nat.le_of_ble_eq_true rfl, rfl, rfl⟩ (Nat.le_of_ble_eq_true rfl) dX5_judge_65 rfl rfl rfl ⟨Nat.zero_le _, Nat.zero_le _⟩ ?_
          refine ww_bif_ne (tgt := 73) C0 dX5_judge_68 (by decide) (fun h68 => ?_) (fun h68 => ?_)
          · skip
            refine ww_iinc (d := 1) C0 dX5_judge_73 rfl rfl rfl ?_
            simp only [List.set_cons_zero, List.set_cons_succ]
            refine ww_goto (tgt := 44) C0 dX5_judge_76 (by decide) ?_
            exact ww_back (ih _ (by rw [hI, if_pos h68])) ⟨Or.inr rfl, Or.inr rfl, Or.inr rfl, Or.inr (congrArg Value.int (nI_addE rfl rfl).symm), trivial⟩ rfl
          · skip
            refine ww_iload_n C0 dX5_judge_71 rfl ?_
            exact ww_iret C0 hr dX5_judge_72 (by (rw [hI, if_neg (by rw [h68]; decide)])) (by (rw [hI, if_neg (by rw [h68]; decide)]))
      · skip
        intro P hI
        rw [Nat.sub_self] at hI
        refine ww_iload_n C0 dX5_judge_44 rfl ?_
        refine ww_iload_n C0 dX5_judge_45 rfl ?_
        refine ww_icmp_ge (tgt := 79) C0 dX5_judge_46 (by decide) (fun h46 => ?_) (fun h46 => ?_)
        · skip
          replace h46 := (nI_leE (a := nn) (b := nn) rfl rfl (by omega) (by omega)).mp h46
          refine ww_bipush (v := (-9)) C0 dX5_judge_79 rfl ?_
          exact ww_iret C0 hr dX5_judge_81 (by (rw [hI]; rfl)) (by (rw [hI]; rfl))
        · skip
          replace h46 := (not_congr (nI_leE (a := nn) (b := nn) rfl rfl (by omega) (by omega))).mp h46
          exfalso; omega
    · skip
      exact absurd hb (by rw [h32]; decide)
