set_option maxHeartbeats 4000000 in
set_option maxRecDepth 100000 in
theorem c_X5_in (l : Launch) (D : va_G) (cI cZ cQ : ClassId) {rest : va_W} {v x y : Int64} : MI l D [(cI, .int), (cZ, .boolean), (cQ, .object "MulesRemember$State")] yX5_in cX5_in 6 .boolean ({ frames := 0, cells := 0, slots := 0, locals := 0 } : Room) [.long v, .long x, .long y] (rest) (bI (!decide (v < x) && !decide (y < v))) (rest) := by
  refine MI.of [.long v, .null, .long x, .null, .long y, .null] (by decide) (Nat.le_of_ble_eq_true rfl) rfl ?_
  intro p e s m below meth c A C0 hr
  refine ww_lload_n C0 dX5_in_0 rfl ?_
  refine ww_lload_n C0 dX5_in_1 rfl ?_
  refine ww_lcmp C0 dX5_in_2 ?_
  refine ww_if_lt (tgt := 17) C0 dX5_in_3 (by decide) (fun h3 => ?_) (fun h3 => ?_)
  · skip
    have g0 := cmp_lt.mp h3
    refine ww_iconst (v := (0)) C0 dX5_in_17 rfl ?_
    exact ww_zret C0 hr dX5_in_18 (by simp [bI, *]) (by rfl)
  · skip
    have g0 := (not_congr cmp_lt).mp h3
    refine ww_lload_n C0 dX5_in_6 rfl ?_
    refine ww_lload C0 dX5_in_7 rfl ?_
    refine ww_lcmp C0 dX5_in_9 ?_
    refine ww_if_gt (tgt := 17) C0 dX5_in_10 (by decide) (fun h10 => ?_) (fun h10 => ?_)
    · skip
      have g1 := cmp_gt.mp h10
      refine ww_iconst (v := (0)) C0 dX5_in_17 rfl ?_
      exact ww_zret C0 hr dX5_in_18 (by simp [bI, *]) (by rfl)
    · skip
      have g1 := (not_congr cmp_gt).mp h10
      refine ww_iconst (v := (1)) C0 dX5_in_13 rfl ?_
      refine ww_goto (tgt := 18) C0 dX5_in_14 (by decide) ?_
      exact ww_zret C0 hr dX5_in_18 (by simp [bI, *]) (by rfl)

/-- in(v, a, b) of ints -/
theorem c_X5_inB (l : Launch) (D : va_G) (cI cZ cQ : ClassId) {rest : va_W} {v a b : Int32} {A B : Int64} (hA : A = a.toInt64) (hB : B = b.toInt64) : MI l D [(cI, .int), (cZ, .boolean), (cQ, .object "MulesRemember$State")] yX5_in cX5_in 6 .boolean ({ frames := 0, cells := 0, slots := 0, locals := 0 } : Room) [.long v.toInt64, .long A, .long B] rest (bI (isB a b v)) rest := by
  subst hA; subst hB
  have h := c_X5_in l D cI cZ cQ (rest := rest) (v := v.toInt64) (x := a.toInt64) (y := b.toInt64)
  simp only [i64_lt] at h
  exact h
theorem c_X5_in0 (l : Launch) (D : va_G) (cI cZ cQ : ClassId) {rest : va_W} {v : Int32} {B : Int64} (n : Nat) (hn : n < 1000) (hB : B = (nI n - 1).toInt64) : MI l D [(cI, .int), (cZ, .boolean), (cQ, .object "MulesRemember$State")] yX5_in cX5_in 6 .boolean ({ frames := 0, cells := 0, slots := 0, locals := 0 } : Room) [.long v.toInt64, .long 0, .long B] rest (bI (isN n v)) rest := by
  have h := c_X5_inB l D cI cZ cQ (rest := rest) (v := v) (a := 0) (b := nI n - 1) (A := 0) rfl hB
  rw [isB_0 (by omega)] at h
  exact h

set_option maxHeartbeats 4000000 in
set_option maxRecDepth 100000 in
theorem c_X5_has (l : Launch) (D : va_G) (cI cZ cQ : ClassId) {rest : va_W} {x a : Int32} : MI l D [(cI, .int), (cZ, .boolean), (cQ, .object "MulesRemember$State")] yX5_has cX5_has 2 .boolean ({ frames := 0, cells := 0, slots := 0, locals := 0 } : Room) [.int x, .int a] (rest) (bI (hbit x a)) (rest) := by
  refine MI.of [.int x, .int a] (by decide) (Nat.le_of_ble_eq_true rfl) rfl ?_
  intro p e s m below meth c A C0 hr
  refine ww_iload_n C0 dX5_has_0 rfl ?_
  refine ww_iload_n C0 dX5_has_1 rfl ?_
  refine ww_ishr C0 dX5_has_2 ?_
  refine ww_iconst (v := (1)) C0 dX5_has_3 rfl ?_
  refine ww_iand C0 dX5_has_4 ?_
  refine ww_iconst (v := (1)) C0 dX5_has_5 rfl ?_
  refine ww_icmp_ne (tgt := 13) C0 dX5_has_6 (by decide) (fun h6 => ?_) (fun h6 => ?_)
  · skip
    have g0 : hbit x a = false := by simpa using (not_congr hbit1).mp h6
    refine ww_iconst (v := (0)) C0 dX5_has_13 rfl ?_
    exact ww_zret C0 hr dX5_has_14 (by simp [bI, *]) (by rfl)
  · skip
    have g0 := hbit1.mp h6
    refine ww_iconst (v := (1)) C0 dX5_has_9 rfl ?_
    refine ww_goto (tgt := 14) C0 dX5_has_10 (by decide) ?_
    exact ww_zret C0 hr dX5_has_14 (by simp [bI, *]) (by rfl)

set_option maxHeartbeats 4000000 in
set_option maxRecDepth 100000 in
theorem c_X5_many (l : Launch) (D : va_G) (cI cZ cQ : ClassId) {rest : va_W} {x : Int32} : MI l D [(cI, .int), (cZ, .boolean), (cQ, .object "MulesRemember$State")] yX5_many cX5_many 3 .int ({ frames := 0, cells := 0, slots := 0, locals := 0 } : Room) [.int x] (rest) (sMn x) (rest) := by
  refine MI.of [.int x, .null, .null] (by decide) (Nat.le_of_ble_eq_true rfl) rfl ?_
  intro p e s m below meth c A C0 hr
  refine ww_iconst (v := (0)) C0 dX5_many_0 rfl ?_
  refine ww_istore_n (i := 1) C0 dX5_many_1 rfl (Nat.le_of_ble_eq_true rfl) rfl ?_
  simp only [List.set_cons_zero, List.set_cons_succ]
  refine ww_iconst (v := (0)) C0 dX5_many_2 rfl ?_
  refine ww_istore_n (i := 2) C0 dX5_many_3 rfl (Nat.le_of_ble_eq_true rfl) rfl ?_
  simp only [List.set_cons_zero, List.set_cons_succ]
  refine ww_back (ww_loop (pc := 4) 0 (10) (by omega) (fun j => [_, .int (sumI (fun k => (x >>> (nI k &&& 31)) &&& 1) j), .int (nI j)]) (fun j => _) ?_ ?_) ⟨Or.inr rfl, Or.inr rfl, Or.inr rfl, trivial⟩ (by rfl)
  · intro j hj0 hj ih
    refine ww_iload_n C0 dX5_many_4 rfl ?_
    refine ww_bipush (v := (10)) C0 dX5_many_5 rfl ?_
    refine ww_icmp_ge (tgt := 24) C0 dX5_many_7 (by decide) (fun h7 => ?_) (fun h7 => ?_)
    · skip
      replace h7 := (nI_leE (a := 10) (b := j) rfl rfl (by omega) (by omega)).mp h7
      exfalso; omega
    · skip
      replace h7 := (not_congr (nI_leE (a := 10) (b := j) rfl rfl (by omega) (by omega))).mp h7
      refine ww_iload_n C0 dX5_many_10 rfl ?_
      refine ww_iload_n C0 dX5_many_11 rfl ?_
      refine ww_iload_n C0 dX5_many_12 rfl ?_
      refine ww_ishr C0 dX5_many_13 ?_
      refine ww_iconst (v := (1)) C0 dX5_many_14 rfl ?_
      refine ww_iand C0 dX5_many_15 ?_
      refine ww_iadd C0 dX5_many_16 ?_
      refine ww_istore_n (i := 1) C0 dX5_many_17 rfl (Nat.le_of_ble_eq_true rfl) rfl ?_
      simp only [List.set_cons_zero, List.set_cons_succ]
      refine ww_iinc (d := 1) C0 dX5_many_18 rfl rfl rfl ?_
      simp only [List.set_cons_zero, List.set_cons_succ]
      refine ww_goto (tgt := 4) C0 dX5_many_21 (by decide) ?_
      exact ww_back ih ⟨Or.inr rfl, Or.inr rfl, Or.inr (congrArg Value.int (nI_addE (a := j) (b := 1) rfl rfl).symm), trivial⟩ (by rfl)
  · skip
    refine ww_iload_n C0 dX5_many_4 rfl ?_
    refine ww_bipush (v := (10)) C0 dX5_many_5 rfl ?_
    refine ww_icmp_ge (tgt := 24) C0 dX5_many_7 (by decide) (fun h7 => ?_) (fun h7 => ?_)
    · skip
      replace h7 := (nI_leE (a := 10) (b := 10) rfl rfl (by omega) (by omega)).mp h7
      refine ww_iload_n C0 dX5_many_24 rfl ?_
      exact ww_iret C0 hr dX5_many_25 (by rfl) (by rfl)
    · skip
      replace h7 := (not_congr (nI_leE (a := 10) (b := 10) rfl rfl (by omega) (by omega))).mp h7
      exfalso; omega

set_option maxHeartbeats 4000000 in
set_option maxRecDepth 100000 in
theorem c_X5_noMule (l : Launch) (D : va_G) (cI cZ cQ : ClassId) {aM amt amc amw ams amv amr amx amp amq amb amk amz am0 am1 am2 am3 am4 amh amo : Nat} {tn nm na ac gn : Nat} {th vpl vrm vra x0 x1 x2 x3 : Int32} {sd : Int64} {rest : va_W} {m : Int32} (hnm : nm ≤ 5) : MI l D [(cI, .int), (cZ, .boolean), (cQ, .object "MulesRemember$State")] yX5_noMule cX5_noMule 2 .boolean ({ frames := 1, cells := 0, slots := 0, locals := 25 } : Room) [.ref aM, .int m] ((aM, .inr (5, [.int th, .ref amt, .int (nI tn), .int vpl, .int (nI nm), .ref amc, .int (nI na), .ref amw, .ref ams, .ref amv, .int vrm, .ref amr, .int vra, .ref amx, .ref amp, .ref amq, .ref amb, .int (nI ac), .ref amk, .ref amz, .int (nI gn), .ref am0, .ref am1, .ref am2, .ref am3, .ref am4, .long sd, .ref amh, .int x0, .int x1, .int x2, .int x3, .ref amo])) :: rest) (bI (!isN nm m)) ((aM, .inr (5, [.int th, .ref amt, .int (nI tn), .int vpl, .int (nI nm), .ref amc, .int (nI na), .ref amw, .ref ams, .ref amv, .int vrm, .ref amr, .int vra, .ref amx, .ref amp, .ref amq, .ref amb, .int (nI ac), .ref amk, .ref amz, .int (nI gn), .ref am0, .ref am1, .ref am2, .ref am3, .ref am4, .long sd, .ref amh, .int x0, .int x1, .int x2, .int x3, .ref amo])) :: rest) := by
  refine MI.of [.ref aM, .int m] (by decide) (Nat.le_of_ble_eq_true rfl) rfl ?_
  intro p e s m below meth c A C0 hr
  refine ww_iload_n C0 dX5_noMule_0 rfl ?_
  refine ww_i2l C0 dX5_noMule_1 ?_
  refine ww_lconst (v := 0) C0 dX5_noMule_2 rfl ?_
  refine ww_aload_n C0 dX5_noMule_3 rfl ?_
  refine ww_get C0 (ci := 5) (C := RX5) (T := TX5) (N := 33) ku_X5 0 rfl rfl 4 (by decide) kw_X5_72 rfl dX5_noMule_4 ?_
  refine ww_iconst (v := (1)) C0 dX5_noMule_7 rfl ?_
  refine ww_isub C0 dX5_noMule_8 ?_
  refine ww_i2l C0 dX5_noMule_9 ?_
  refine ww_callSi C0 (c_X5_in0 l D cI cZ cQ nm (by omega) rfl) kd_X5_in kw_X5_75 ks_X5_in ki_X5 hd_X5_in ⟨Nat.le_of_ble_eq_true rfl, Nat.le_of_ble_eq_true rfl, rfl, rfl⟩ (Nat.le_of_ble_eq_true rfl) dX5_noMule_10 rfl rfl ⟨Nat.zero_le _, Nat.zero_le _⟩ ?_
  refine ww_bif_ne (tgt := 20) C0 dX5_noMule_13 (by decide) (fun h13 => ?_) (fun h13 => ?_)
  · skip
    refine ww_iconst (v := (0)) C0 dX5_noMule_20 rfl ?_
    exact ww_zret C0 hr dX5_noMule_21 (by simp [bI, *]) (by rfl)
  · skip
    refine ww_iconst (v := (1)) C0 dX5_noMule_16 rfl ?_
    refine ww_goto (tgt := 21) C0 dX5_noMule_17 (by decide) ?_
    exact ww_zret C0 hr dX5_noMule_21 (by simp [bI, *]) (by rfl)

set_option maxHeartbeats 4000000 in
set_option maxRecDepth 100000 in
theorem c_X5_noArticle (l : Launch) (D : va_G) (cI cZ cQ : ClassId) {aM amt amc amw ams amv amr amx amp amq amb amk amz am0 am1 am2 am3 am4 amh amo : Nat} {tn nm na ac gn : Nat} {th vpl vrm vra x0 x1 x2 x3 : Int32} {sd : Int64} {rest : va_W} {m : Int32} (hna : na ≤ 5) : MI l D [(cI, .int), (cZ, .boolean), (cQ, .object "MulesRemember$State")] yX5_noArticle cX5_noArticle 2 .boolean ({ frames := 1, cells := 0, slots := 0, locals := 25 } : Room) [.ref aM, .int m] ((aM, .inr (5, [.int th, .ref amt, .int (nI tn), .int vpl, .int (nI nm), .ref amc, .int (nI na), .ref amw, .ref ams, .ref amv, .int vrm, .ref amr, .int vra, .ref amx, .ref amp, .ref amq, .ref amb, .int (nI ac), .ref amk, .ref amz, .int (nI gn), .ref am0, .ref am1, .ref am2, .ref am3, .ref am4, .long sd, .ref amh, .int x0, .int x1, .int x2, .int x3, .ref amo])) :: rest) (bI (!isN na m)) ((aM, .inr (5, [.int th, .ref amt, .int (nI tn), .int vpl, .int (nI nm), .ref amc, .int (nI na), .ref amw, .ref ams, .ref amv, .int vrm, .ref amr, .int vra, .ref amx, .ref amp, .ref amq, .ref amb, .int (nI ac), .ref amk, .ref amz, .int (nI gn), .ref am0, .ref am1, .ref am2, .ref am3, .ref am4, .long sd, .ref amh, .int x0, .int x1, .int x2, .int x3, .ref amo])) :: rest) := by
  refine MI.of [.ref aM, .int m] (by decide) (Nat.le_of_ble_eq_true rfl) rfl ?_
  intro p e s m below meth c A C0 hr
  refine ww_iload_n C0 dX5_noArticle_0 rfl ?_
  refine ww_i2l C0 dX5_noArticle_1 ?_
  refine ww_lconst (v := 0) C0 dX5_noArticle_2 rfl ?_
  refine ww_aload_n C0 dX5_noArticle_3 rfl ?_
  refine ww_get C0 (ci := 5) (C := RX5) (T := TX5) (N := 33) ku_X5 0 rfl rfl 6 (by decide) kw_X5_79 rfl dX5_noArticle_4 ?_
  refine ww_iconst (v := (1)) C0 dX5_noArticle_7 rfl ?_
  refine ww_isub C0 dX5_noArticle_8 ?_
  refine ww_i2l C0 dX5_noArticle_9 ?_
  refine ww_callSi C0 (c_X5_in0 l D cI cZ cQ na (by omega) rfl) kd_X5_in kw_X5_75 ks_X5_in ki_X5 hd_X5_in ⟨Nat.le_of_ble_eq_true rfl, Nat.le_of_ble_eq_true rfl, rfl, rfl⟩ (Nat.le_of_ble_eq_true rfl) dX5_noArticle_10 rfl rfl ⟨Nat.zero_le _, Nat.zero_le _⟩ ?_
  refine ww_bif_ne (tgt := 20) C0 dX5_noArticle_13 (by decide) (fun h13 => ?_) (fun h13 => ?_)
  · skip
    refine ww_iconst (v := (0)) C0 dX5_noArticle_20 rfl ?_
    exact ww_zret C0 hr dX5_noArticle_21 (by simp [bI, *]) (by rfl)
  · skip
    refine ww_iconst (v := (1)) C0 dX5_noArticle_16 rfl ?_
    refine ww_goto (tgt := 21) C0 dX5_noArticle_17 (by decide) ?_
    exact ww_zret C0 hr dX5_noArticle_21 (by simp [bI, *]) (by rfl)

set_option maxHeartbeats 4000000 in
set_option maxRecDepth 100000 in
theorem c_X5_knows (l : Launch) (D : va_G) (cI cZ cQ : ClassId) {aM amt amc amw ams amv amr amx amp amq amb amk amz am0 am1 am2 am3 am4 amh amo aP : Nat} {tn nm na ac gn : Nat} {th vpl vrm vra x0 x1 x2 x3 : Int32} {sd : Int64} {fmt fmc fmw fms fmv fP : Nat → Int32} {rest : va_W} {k : Nat} (hnm : nm ≤ 5) (hna : na ≤ 5) (hk : k < nm) : MI l D [(cI, .int), (cZ, .boolean), (cQ, .object "MulesRemember$State")] yX5_knows cX5_knows 4 .int ({ frames := 0, cells := 0, slots := 0, locals := 0 } : Room) [.ref aM, .ref aP, .int (nI k)] ((aM, .inr (5, [.int th, .ref amt, .int (nI tn), .int vpl, .int (nI nm), .ref amc, .int (nI na), .ref amw, .ref ams, .ref amv, .int vrm, .ref amr, .int vra, .ref amx, .ref amp, .ref amq, .ref amb, .int (nI ac), .ref amk, .ref amz, .int (nI gn), .ref am0, .ref am1, .ref am2, .ref am3, .ref am4, .long sd, .ref amh, .int x0, .int x1, .int x2, .int x3, .ref amo])) :: (amt, .inl (cI, 48, .inl (fmt))) :: (amc, .inl (cI, 5, .inl (fmc))) :: (amw, .inl (cI, 5, .inl (fmw))) :: (ams, .inl (cI, 5, .inl (fms))) :: (amv, .inl (cI, 5, .inl (fmv))) :: (aP, .inl (cI, 17, .inl (fP))) :: rest) (mKnown na (fP (5 + k)) (fP (10 + k))) ((aM, .inr (5, [.int th, .ref amt, .int (nI tn), .int vpl, .int (nI nm), .ref amc, .int (nI na), .ref amw, .ref ams, .ref amv, .int vrm, .ref amr, .int vra, .ref amx, .ref amp, .ref amq, .ref amb, .int (nI ac), .ref amk, .ref amz, .int (nI gn), .ref am0, .ref am1, .ref am2, .ref am3, .ref am4, .long sd, .ref amh, .int x0, .int x1, .int x2, .int x3, .ref amo])) :: (amt, .inl (cI, 48, .inl (fmt))) :: (amc, .inl (cI, 5, .inl (fmc))) :: (amw, .inl (cI, 5, .inl (fmw))) :: (ams, .inl (cI, 5, .inl (fms))) :: (amv, .inl (cI, 5, .inl (fmv))) :: (aP, .inl (cI, 17, .inl (fP))) :: rest) := by
  refine MI.of [.ref aM, .ref aP, .int (nI k), .null] (by decide) (Nat.le_of_ble_eq_true rfl) rfl ?_
  intro p e s m below meth c A C0 hr
  refine ww_iconst (v := (1)) C0 dX5_knows_0 rfl ?_
  refine ww_aload_n C0 dX5_knows_1 rfl ?_
  refine ww_get C0 (ci := 5) (C := RX5) (T := TX5) (N := 33) ku_X5 0 rfl rfl 6 (by decide) kw_X5_79 rfl dX5_knows_2 ?_
  refine ww_ishl C0 dX5_knows_5 ?_
  refine ww_iconst (v := (1)) C0 dX5_knows_6 rfl ?_
  refine ww_isub C0 dX5_knows_7 ?_
  refine ww_istore_n (i := 3) C0 dX5_knows_8 rfl (Nat.le_of_ble_eq_true rfl) rfl ?_
  simp only [List.set_cons_zero, List.set_cons_succ]
  refine ww_aload_n C0 dX5_knows_9 rfl ?_
  refine ww_iconst (v := (5)) C0 dX5_knows_10 rfl ?_
  refine ww_iload_n C0 dX5_knows_11 rfl ?_
  refine ww_iadd C0 dX5_knows_12 ?_
  refine ww_iald_n (j := 5 + k) C0 6 0 rfl rfl (nI_addE (a := 5) (b := k) rfl rfl) (by omega) (by decide) dX5_knows_13 ?_
  by_cases hs14_1 : fP (5 + k) = 1
  · skip
    have hsi : (fP (5 + k)).toInt = 1 := by rw [hs14_1]; rfl
    refine ww_tableIn (off := 26) (tgt := 40) C0 dX5_knows_14 (by rw [hsi]; decide) (by rw [hsi]; decide) (by rw [hsi]; rfl) (by decide) ?_
    refine ww_iload_n C0 dX5_knows_40 rfl ?_
    exact ww_iret C0 hr dX5_knows_41 (by simp [mKnown, sAll, *]) (by rfl)
  by_cases hs14_2 : fP (5 + k) = 2
  · skip
    have hsi : (fP (5 + k)).toInt = 2 := by rw [hs14_2]; rfl
    refine ww_tableIn (off := 28) (tgt := 42) C0 dX5_knows_14 (by rw [hsi]; decide) (by rw [hsi]; decide) (by rw [hsi]; rfl) (by decide) ?_
    refine ww_aload_n C0 dX5_knows_42 rfl ?_
    refine ww_bipush (v := (10)) C0 dX5_knows_43 rfl ?_
    refine ww_iload_n C0 dX5_knows_45 rfl ?_
    refine ww_iadd C0 dX5_knows_46 ?_
    refine ww_iald_n (j := 10 + k) C0 6 0 rfl rfl (nI_addE (a := 10) (b := k) rfl rfl) (by omega) (by decide) dX5_knows_47 ?_
    refine ww_iload_n C0 dX5_knows_48 rfl ?_
    refine ww_iand C0 dX5_knows_49 ?_
    exact ww_iret C0 hr dX5_knows_50 (by simp [mKnown, sAll, *]) (by rfl)
  by_cases hs14_3 : fP (5 + k) = 3
  · skip
    have hsi : (fP (5 + k)).toInt = 3 := by rw [hs14_3]; rfl
    refine ww_tableIn (off := 37) (tgt := 51) C0 dX5_knows_14 (by rw [hsi]; decide) (by rw [hsi]; decide) (by rw [hsi]; rfl) (by decide) ?_
    refine ww_aload_n C0 dX5_knows_51 rfl ?_
    refine ww_get C0 (ci := 5) (C := RX5) (T := TX5) (N := 33) ku_X5 0 rfl rfl 6 (by decide) kw_X5_79 rfl dX5_knows_52 ?_
    refine ww_if_ne (tgt := 62) C0 dX5_knows_55 (by decide) (fun h55 => ?_) (fun h55 => ?_)
    · skip
      replace h55 := (not_congr (nI_eqE (a := na) (b := 0) rfl rfl (by omega) (by omega))).mp h55
      refine ww_iconst (v := (1)) C0 dX5_knows_62 rfl ?_
      refine ww_aload_n C0 dX5_knows_63 rfl ?_
      refine ww_get C0 (ci := 5) (C := RX5) (T := TX5) (N := 33) ku_X5 0 rfl rfl 6 (by decide) kw_X5_79 rfl dX5_knows_64 ?_
      refine ww_iconst (v := (1)) C0 dX5_knows_67 rfl ?_
      refine ww_isub C0 dX5_knows_68 ?_
      refine ww_ishl C0 dX5_knows_69 ?_
      exact ww_iret C0 hr dX5_knows_70 (by simp [mKnown, sAll, *]) (by rfl)
    · skip
      replace h55 := (nI_eqE (a := na) (b := 0) rfl rfl (by omega) (by omega)).mp h55
      refine ww_iconst (v := (0)) C0 dX5_knows_58 rfl ?_
      refine ww_goto (tgt := 70) C0 dX5_knows_59 (by decide) ?_
      exact ww_iret C0 hr dX5_knows_70 (by simp [mKnown, sAll, *]) (by rfl)
  refine ww_tableOut (tgt := 71) C0 dX5_knows_14 (sw_outc (fP (5 + k)) 1 3 (by
    intro k hk1 hk2 he
    rcases (show k = 1 ∨ k = 2 ∨ k = 3 by omega) with rfl | rfl | rfl
    · exact i32_ne (n := 1) (by decide) hs14_1 he
    · exact i32_ne (n := 2) (by decide) hs14_2 he
    · exact i32_ne (n := 3) (by decide) hs14_3 he
    )) (by decide) ?_
  refine ww_aload_n C0 dX5_knows_71 rfl ?_
  refine ww_bipush (v := (10)) C0 dX5_knows_72 rfl ?_
  refine ww_iload_n C0 dX5_knows_74 rfl ?_
  refine ww_iadd C0 dX5_knows_75 ?_
  refine ww_iald_n (j := 10 + k) C0 6 0 rfl rfl (nI_addE (a := 10) (b := k) rfl rfl) (by omega) (by decide) dX5_knows_76 ?_
  refine ww_bipush (v := (21)) C0 dX5_knows_77 rfl ?_
  refine ww_ior C0 dX5_knows_79 ?_
  refine ww_iload_n C0 dX5_knows_80 rfl ?_
  refine ww_iand C0 dX5_knows_81 ?_
  exact ww_iret C0 hr dX5_knows_82 (by simp [mKnown, sAll, *]) (by rfl)

set_option maxHeartbeats 4000000 in
set_option maxRecDepth 100000 in
theorem c_X5_toStone (l : Launch) (D : va_G) (cI cZ cQ : ClassId) {aP : Nat} {fP : Nat → Int32} {z0 z1 z2 z3 z4 z5 : Nat × va_E} {rest : va_W} {k : Nat} {wa : Int32} (hk5 : k < 5) : MI l D [(cI, .int), (cZ, .boolean), (cQ, .object "MulesRemember$State")] yX5_toStone cX5_toStone 4 .int ({ frames := 1, cells := 0, slots := 0, locals := 25 } : Room) [.ref aP, .int (nI k), .int wa] (z0 :: z1 :: z2 :: z3 :: z4 :: z5 :: (aP, .inl (cI, 17, .inl (fP))) :: rest) (mTo (fP k) wa) (z0 :: z1 :: z2 :: z3 :: z4 :: z5 :: (aP, .inl (cI, 17, .inl (fP))) :: rest) := by
  refine MI.of [.ref aP, .int (nI k), .int wa, .null] (by decide) (Nat.le_of_ble_eq_true rfl) rfl ?_
  intro p e s m below meth c A C0 hr
  refine ww_aload_n C0 dX5_toStone_0 rfl ?_
  refine ww_iconst (v := (0)) C0 dX5_toStone_1 rfl ?_
  refine ww_iload_n C0 dX5_toStone_2 rfl ?_
  refine ww_iadd C0 dX5_toStone_3 ?_
  refine ww_iald_n (j := k) C0 6 0 rfl rfl (by rw [show (0 : Int32) + nI k = nI (0 + k) from nI_add 0 k, Nat.zero_add]) (by omega) (by decide) dX5_toStone_4 ?_
  refine ww_iload_n C0 dX5_toStone_5 rfl ?_
  refine ww_iconst (v := (1)) C0 dX5_toStone_6 rfl ?_
  refine ww_icmp_ne (tgt := 14) C0 dX5_toStone_7 (by decide) (fun h7 => ?_) (fun h7 => ?_)
  · skip
    refine ww_iconst (v := (-1)) C0 dX5_toStone_14 rfl ?_
    refine ww_iadd C0 dX5_toStone_15 ?_
    refine ww_istore_n (i := 3) C0 dX5_toStone_16 rfl (Nat.le_of_ble_eq_true rfl) rfl ?_
    simp only [List.set_cons_zero, List.set_cons_succ]
    refine ww_iload_n C0 dX5_toStone_17 rfl ?_
    refine ww_i2l C0 dX5_toStone_18 ?_
    refine ww_lconst (v := 0) C0 dX5_toStone_19 rfl ?_
    refine ww_ldc2 C0 kw_X5_117 dX5_toStone_20 ?_
    refine ww_callSi C0 (c_X5_in0 l D cI cZ cQ 10 (by decide) (by decide)) kd_X5_in kw_X5_75 ks_X5_in ki_X5 hd_X5_in ⟨Nat.le_of_ble_eq_true rfl, Nat.le_of_ble_eq_true rfl, rfl, rfl⟩ (Nat.le_of_ble_eq_true rfl) dX5_toStone_23 rfl rfl ⟨Nat.zero_le _, Nat.zero_le _⟩ ?_
    refine ww_bif_eq (tgt := 33) C0 dX5_toStone_26 (by decide) (fun h26 => ?_) (fun h26 => ?_)
    · skip
      refine ww_bipush (v := (-9)) C0 dX5_toStone_33 rfl ?_
      exact ww_iret C0 hr dX5_toStone_35 (by simp [mTo, *]) (by rfl)
    · skip
      refine ww_iload_n C0 dX5_toStone_29 rfl ?_
      refine ww_goto (tgt := 35) C0 dX5_toStone_30 (by decide) ?_
      exact ww_iret C0 hr dX5_toStone_35 (by simp [mTo, *]) (by rfl)
  · skip
    refine ww_iconst (v := (1)) C0 dX5_toStone_10 rfl ?_
    refine ww_goto (tgt := 15) C0 dX5_toStone_11 (by decide) ?_
    refine ww_iadd C0 dX5_toStone_15 ?_
    refine ww_istore_n (i := 3) C0 dX5_toStone_16 rfl (Nat.le_of_ble_eq_true rfl) rfl ?_
    simp only [List.set_cons_zero, List.set_cons_succ]
    refine ww_iload_n C0 dX5_toStone_17 rfl ?_
    refine ww_i2l C0 dX5_toStone_18 ?_
    refine ww_lconst (v := 0) C0 dX5_toStone_19 rfl ?_
    refine ww_ldc2 C0 kw_X5_117 dX5_toStone_20 ?_
    refine ww_callSi C0 (c_X5_in0 l D cI cZ cQ 10 (by decide) (by decide)) kd_X5_in kw_X5_75 ks_X5_in ki_X5 hd_X5_in ⟨Nat.le_of_ble_eq_true rfl, Nat.le_of_ble_eq_true rfl, rfl, rfl⟩ (Nat.le_of_ble_eq_true rfl) dX5_toStone_23 rfl rfl ⟨Nat.zero_le _, Nat.zero_le _⟩ ?_
    refine ww_bif_eq (tgt := 33) C0 dX5_toStone_26 (by decide) (fun h26 => ?_) (fun h26 => ?_)
    · skip
      refine ww_bipush (v := (-9)) C0 dX5_toStone_33 rfl ?_
      exact ww_iret C0 hr dX5_toStone_35 (by simp [mTo, *]) (by rfl)
    · skip
      refine ww_iload_n C0 dX5_toStone_29 rfl ?_
      refine ww_goto (tgt := 35) C0 dX5_toStone_30 (by decide) ?_
      exact ww_iret C0 hr dX5_toStone_35 (by simp [mTo, *]) (by rfl)

set_option maxHeartbeats 4000000 in
set_option maxRecDepth 100000 in
theorem c_X5_northern (l : Launch) (D : va_G) (cI cZ cQ : ClassId) {aM amt amc amw ams amv amr amx amp amq amb amk amz am0 am1 am2 am3 am4 amh amo aP : Nat} {tn nm na ac gn : Nat} {th vpl vrm vra x0 x1 x2 x3 : Int32} {sd : Int64} {fmt fmc fmw fms fmv fP : Nat → Int32} {rest : va_W} {k : Nat} {on : Int32} (hnm : nm ≤ 5) (hk : k < nm) : MI l D [(cI, .int), (cZ, .boolean), (cQ, .object "MulesRemember$State")] yX5_northern cX5_northern 6 .int ({ frames := 0, cells := 0, slots := 0, locals := 0 } : Room) [.ref aM, .ref aP, .int (nI k), .int on] ((aM, .inr (5, [.int th, .ref amt, .int (nI tn), .int vpl, .int (nI nm), .ref amc, .int (nI na), .ref amw, .ref ams, .ref amv, .int vrm, .ref amr, .int vra, .ref amx, .ref amp, .ref amq, .ref amb, .int (nI ac), .ref amk, .ref amz, .int (nI gn), .ref am0, .ref am1, .ref am2, .ref am3, .ref am4, .long sd, .ref amh, .int x0, .int x1, .int x2, .int x3, .ref amo])) :: (amt, .inl (cI, 48, .inl (fmt))) :: (amc, .inl (cI, 5, .inl (fmc))) :: (amw, .inl (cI, 5, .inl (fmw))) :: (ams, .inl (cI, 5, .inl (fms))) :: (amv, .inl (cI, 5, .inl (fmv))) :: (aP, .inl (cI, 17, .inl (fP))) :: rest) (sOth nm fP k on) ((aM, .inr (5, [.int th, .ref amt, .int (nI tn), .int vpl, .int (nI nm), .ref amc, .int (nI na), .ref amw, .ref ams, .ref amv, .int vrm, .ref amr, .int vra, .ref amx, .ref amp, .ref amq, .ref amb, .int (nI ac), .ref amk, .ref amz, .int (nI gn), .ref am0, .ref am1, .ref am2, .ref am3, .ref am4, .long sd, .ref amh, .int x0, .int x1, .int x2, .int x3, .ref amo])) :: (amt, .inl (cI, 48, .inl (fmt))) :: (amc, .inl (cI, 5, .inl (fmc))) :: (amw, .inl (cI, 5, .inl (fmw))) :: (ams, .inl (cI, 5, .inl (fms))) :: (amv, .inl (cI, 5, .inl (fmv))) :: (aP, .inl (cI, 17, .inl (fP))) :: rest) := by
  refine MI.of [.ref aM, .ref aP, .int (nI k), .int on, .null, .null] (by decide) (Nat.le_of_ble_eq_true rfl) rfl ?_
  intro p e s m below meth c A C0 hr
  refine ww_iconst (v := (0)) C0 dX5_northern_0 rfl ?_
  refine ww_istore (i := 4) C0 dX5_northern_1 (Nat.le_of_ble_eq_true rfl) rfl ?_
  simp only [List.set_cons_zero, List.set_cons_succ]
  refine ww_iconst (v := (0)) C0 dX5_northern_3 rfl ?_
  refine ww_istore (i := 5) C0 dX5_northern_4 (Nat.le_of_ble_eq_true rfl) rfl ?_
  simp only [List.set_cons_zero, List.set_cons_succ]
  refine ww_back (ww_loop (pc := 6) 0 (nm) (by omega) (fun j => [_, _, _, _, .int (sOth j fP k on), .int (nI j)]) (fun j => _) ?_ ?_) ⟨Or.inr rfl, Or.inr rfl, Or.inr rfl, Or.inr rfl, Or.inr rfl, Or.inr rfl, trivial⟩ (by rfl)
  · intro j hj0 hj ih
    refine ww_iload C0 dX5_northern_6 rfl ?_
    refine ww_aload_n C0 dX5_northern_8 rfl ?_
    refine ww_get C0 (ci := 5) (C := RX5) (T := TX5) (N := 33) ku_X5 0 rfl rfl 4 (by decide) kw_X5_72 rfl dX5_northern_9 ?_
    refine ww_icmp_ge (tgt := 47) C0 dX5_northern_12 (by decide) (fun h12 => ?_) (fun h12 => ?_)
    · skip
      replace h12 := (nI_leE (a := nm) (b := j) rfl rfl (by omega) (by omega)).mp h12
      exfalso; omega
    · skip
      replace h12 := (not_congr (nI_leE (a := nm) (b := j) rfl rfl (by omega) (by omega))).mp h12
      refine ww_iload C0 dX5_northern_15 rfl ?_
      refine ww_iload C0 dX5_northern_17 rfl ?_
      refine ww_iload_n C0 dX5_northern_19 rfl ?_
      refine ww_icmp_eq (tgt := 37) C0 dX5_northern_20 (by decide) (fun h20 => ?_) (fun h20 => ?_)
      · skip
        replace h20 := (nI_eqE (a := j) (b := k) rfl rfl (by omega) (by omega)).mp h20
        subst h20
        refine ww_iconst (v := (0)) C0 dX5_northern_37 rfl ?_
        refine ww_iadd C0 dX5_northern_38 ?_
        refine ww_istore (i := 4) C0 dX5_northern_39 (Nat.le_of_ble_eq_true rfl) rfl ?_
        simp only [List.set_cons_zero, List.set_cons_succ]
        refine ww_iinc (d := 1) C0 dX5_northern_41 rfl rfl rfl ?_
        simp only [List.set_cons_zero, List.set_cons_succ]
        refine ww_goto (tgt := 6) C0 dX5_northern_44 (by decide) ?_
        exact ww_back ih ⟨Or.inr rfl, Or.inr rfl, Or.inr rfl, Or.inr rfl, Or.inr (congrArg Value.int (by simp [sOth, cntI, *])), Or.inr (congrArg Value.int (nI_addE (a := j) (b := 1) rfl rfl).symm), trivial⟩ (by rfl)
      · skip
        replace h20 := (not_congr (nI_eqE (a := j) (b := k) rfl rfl (by omega) (by omega))).mp h20
        refine ww_aload_n C0 dX5_northern_23 rfl ?_
        refine ww_iconst (v := (0)) C0 dX5_northern_24 rfl ?_
        refine ww_iload C0 dX5_northern_25 rfl ?_
        refine ww_iadd C0 dX5_northern_27 ?_
        refine ww_iald_n (j := j) C0 6 0 rfl rfl (by rw [show (0 : Int32) + nI j = nI (0 + j) from nI_add 0 j, Nat.zero_add]) (by omega) (by decide) dX5_northern_28 ?_
        refine ww_iload_n C0 dX5_northern_29 rfl ?_
        refine ww_icmp_lt (tgt := 37) C0 dX5_northern_30 (by decide) (fun h30 => ?_) (fun h30 => ?_)
        · skip
          refine ww_iconst (v := (0)) C0 dX5_northern_37 rfl ?_
          refine ww_iadd C0 dX5_northern_38 ?_
          refine ww_istore (i := 4) C0 dX5_northern_39 (Nat.le_of_ble_eq_true rfl) rfl ?_
          simp only [List.set_cons_zero, List.set_cons_succ]
          refine ww_iinc (d := 1) C0 dX5_northern_41 rfl rfl rfl ?_
          simp only [List.set_cons_zero, List.set_cons_succ]
          refine ww_goto (tgt := 6) C0 dX5_northern_44 (by decide) ?_
          exact ww_back ih ⟨Or.inr rfl, Or.inr rfl, Or.inr rfl, Or.inr rfl, Or.inr (congrArg Value.int (by simp [sOth, cntI, *])), Or.inr (congrArg Value.int (nI_addE (a := j) (b := 1) rfl rfl).symm), trivial⟩ (by rfl)
        · skip
          refine ww_iconst (v := (1)) C0 dX5_northern_33 rfl ?_
          refine ww_goto (tgt := 38) C0 dX5_northern_34 (by decide) ?_
          refine ww_iadd C0 dX5_northern_38 ?_
          refine ww_istore (i := 4) C0 dX5_northern_39 (Nat.le_of_ble_eq_true rfl) rfl ?_
          simp only [List.set_cons_zero, List.set_cons_succ]
          refine ww_iinc (d := 1) C0 dX5_northern_41 rfl rfl rfl ?_
          simp only [List.set_cons_zero, List.set_cons_succ]
          refine ww_goto (tgt := 6) C0 dX5_northern_44 (by decide) ?_
          exact ww_back ih ⟨Or.inr rfl, Or.inr rfl, Or.inr rfl, Or.inr rfl, Or.inr (congrArg Value.int (by simp [sOth, cntI, *])), Or.inr (congrArg Value.int (nI_addE (a := j) (b := 1) rfl rfl).symm), trivial⟩ (by rfl)
  · skip
    refine ww_iload C0 dX5_northern_6 rfl ?_
    refine ww_aload_n C0 dX5_northern_8 rfl ?_
    refine ww_get C0 (ci := 5) (C := RX5) (T := TX5) (N := 33) ku_X5 0 rfl rfl 4 (by decide) kw_X5_72 rfl dX5_northern_9 ?_
    refine ww_icmp_ge (tgt := 47) C0 dX5_northern_12 (by decide) (fun h12 => ?_) (fun h12 => ?_)
    · skip
      replace h12 := (nI_leE (a := nm) (b := nm) rfl rfl (by omega) (by omega)).mp h12
      refine ww_iload C0 dX5_northern_47 rfl ?_
      exact ww_iret C0 hr dX5_northern_49 (by rfl) (by rfl)
    · skip
      replace h12 := (not_congr (nI_leE (a := nm) (b := nm) rfl rfl (by omega) (by omega))).mp h12
      exfalso; omega

set_option maxHeartbeats 4000000 in
set_option maxRecDepth 100000 in
theorem c_X5_isBarred (l : Launch) (D : va_G) (cI cZ cQ : ClassId) {rest : va_W} {so va co ho wa ot : Int32} : MI l D [(cI, .int), (cZ, .boolean), (cQ, .object "MulesRemember$State")] yX5_isBarred cX5_isBarred 6 .boolean ({ frames := 0, cells := 0, slots := 0, locals := 0 } : Room) [.int so, .int va, .int co, .int ho, .int wa, .int ot] (rest) (bI (mBar so va co ho wa ot)) (rest) := by
  refine MI.of [.int so, .int va, .int co, .int ho, .int wa, .int ot] (by decide) (Nat.le_of_ble_eq_true rfl) rfl ?_
  intro p e s m below meth c A C0 hr
  refine ww_iload_n C0 dX5_isBarred_0 rfl ?_
  by_cases hs1_0 : so = 0
  · skip
    have hsi : (so).toInt = 0 := by rw [hs1_0]; rfl
    refine ww_tableIn (off := 27) (tgt := 28) C0 dX5_isBarred_1 (by rw [hsi]; decide) (by rw [hsi]; decide) (by rw [hsi]; rfl) (by decide) ?_
    refine ww_iload_n C0 dX5_isBarred_28 rfl ?_
    refine ww_iload_n C0 dX5_isBarred_29 rfl ?_
    refine ww_iconst (v := (4)) C0 dX5_isBarred_30 rfl ?_
    refine ww_irem C0 dX5_isBarred_31 (by decide) ?_
    refine ww_icmp_ne (tgt := 39) C0 dX5_isBarred_32 (by decide) (fun h32 => ?_) (fun h32 => ?_)
    · skip
      refine ww_iconst (v := (0)) C0 dX5_isBarred_39 rfl ?_
      exact ww_zret C0 hr dX5_isBarred_40 (by simp [mBar, bI, *]) (by rfl)
    · skip
      refine ww_iconst (v := (1)) C0 dX5_isBarred_35 rfl ?_
      refine ww_goto (tgt := 40) C0 dX5_isBarred_36 (by decide) ?_
      exact ww_zret C0 hr dX5_isBarred_40 (by simp [mBar, bI, *]) (by rfl)
  by_cases hs1_1 : so = 1
  · skip
    have hsi : (so).toInt = 1 := by rw [hs1_1]; rfl
    refine ww_tableIn (off := 40) (tgt := 41) C0 dX5_isBarred_1 (by rw [hsi]; decide) (by rw [hsi]; decide) (by rw [hsi]; rfl) (by decide) ?_
    refine ww_iload_n C0 dX5_isBarred_41 rfl ?_
    refine ww_bipush (v := (10)) C0 dX5_isBarred_42 rfl ?_
    refine ww_irem C0 dX5_isBarred_44 (by decide) ?_
    refine ww_iload_n C0 dX5_isBarred_45 rfl ?_
    refine ww_icmp_ge (tgt := 53) C0 dX5_isBarred_46 (by decide) (fun h46 => ?_) (fun h46 => ?_)
    · skip
      refine ww_iconst (v := (0)) C0 dX5_isBarred_53 rfl ?_
      exact ww_zret C0 hr dX5_isBarred_54 (by simp [mBar, bI, *]) (by rfl)
    · skip
      refine ww_iconst (v := (1)) C0 dX5_isBarred_49 rfl ?_
      refine ww_goto (tgt := 54) C0 dX5_isBarred_50 (by decide) ?_
      exact ww_zret C0 hr dX5_isBarred_54 (by simp [mBar, bI, *]) (by rfl)
  by_cases hs1_2 : so = 2
  · skip
    have hsi : (so).toInt = 2 := by rw [hs1_2]; rfl
    refine ww_tableIn (off := 54) (tgt := 55) C0 dX5_isBarred_1 (by rw [hsi]; decide) (by rw [hsi]; decide) (by rw [hsi]; rfl) (by decide) ?_
    refine ww_iload C0 dX5_isBarred_55 rfl ?_
    refine ww_iload_n C0 dX5_isBarred_57 rfl ?_
    refine ww_iconst (v := (2)) C0 dX5_isBarred_58 rfl ?_
    refine ww_irem C0 dX5_isBarred_59 (by decide) ?_
    refine ww_iconst (v := (1)) C0 dX5_isBarred_60 rfl ?_
    refine ww_icmp_ne (tgt := 68) C0 dX5_isBarred_61 (by decide) (fun h61 => ?_) (fun h61 => ?_)
    · skip
      refine ww_iconst (v := (1)) C0 dX5_isBarred_68 rfl ?_
      refine ww_icmp_ne (tgt := 76) C0 dX5_isBarred_69 (by decide) (fun h69 => ?_) (fun h69 => ?_)
      · skip
        refine ww_iconst (v := (0)) C0 dX5_isBarred_76 rfl ?_
        exact ww_zret C0 hr dX5_isBarred_77 (by simp [mBar, bI, *]) (by rfl)
      · skip
        refine ww_iconst (v := (1)) C0 dX5_isBarred_72 rfl ?_
        refine ww_goto (tgt := 77) C0 dX5_isBarred_73 (by decide) ?_
        exact ww_zret C0 hr dX5_isBarred_77 (by simp [mBar, bI, *]) (by rfl)
    · skip
      refine ww_iconst (v := (0)) C0 dX5_isBarred_64 rfl ?_
      refine ww_goto (tgt := 69) C0 dX5_isBarred_65 (by decide) ?_
      refine ww_icmp_ne (tgt := 76) C0 dX5_isBarred_69 (by decide) (fun h69 => ?_) (fun h69 => ?_)
      · skip
        refine ww_iconst (v := (0)) C0 dX5_isBarred_76 rfl ?_
        exact ww_zret C0 hr dX5_isBarred_77 (by simp [mBar, bI, *]) (by rfl)
      · skip
        refine ww_iconst (v := (1)) C0 dX5_isBarred_72 rfl ?_
        refine ww_goto (tgt := 77) C0 dX5_isBarred_73 (by decide) ?_
        exact ww_zret C0 hr dX5_isBarred_77 (by simp [mBar, bI, *]) (by rfl)
  refine ww_tableOut (tgt := 78) C0 dX5_isBarred_1 (sw_outc (so) 0 2 (by
    intro k hk1 hk2 he
    rcases (show k = 0 ∨ k = 1 ∨ k = 2 by omega) with rfl | rfl | rfl
    · exact i32_ne (n := 0) (by decide) hs1_0 he
    · exact i32_ne (n := 1) (by decide) hs1_1 he
    · exact i32_ne (n := 2) (by decide) hs1_2 he
    )) (by decide) ?_
  refine ww_iload C0 dX5_isBarred_78 rfl ?_
  refine ww_iload_n C0 dX5_isBarred_80 rfl ?_
  refine ww_iconst (v := (5)) C0 dX5_isBarred_81 rfl ?_
  refine ww_irem C0 dX5_isBarred_82 (by decide) ?_
  refine ww_icmp_ge (tgt := 90) C0 dX5_isBarred_83 (by decide) (fun h83 => ?_) (fun h83 => ?_)
  · skip
    refine ww_iconst (v := (0)) C0 dX5_isBarred_90 rfl ?_
    exact ww_zret C0 hr dX5_isBarred_91 (by simp [mBar, bI, *]) (by rfl)
  · skip
    refine ww_iconst (v := (1)) C0 dX5_isBarred_86 rfl ?_
    refine ww_goto (tgt := 91) C0 dX5_isBarred_87 (by decide) ?_
    exact ww_zret C0 hr dX5_isBarred_91 (by simp [mBar, bI, *]) (by rfl)

set_option maxHeartbeats 4000000 in
set_option maxRecDepth 100000 in
theorem c_X5_forbids (l : Launch) (D : va_G) (cI cZ cQ : ClassId) {aM amt amc amw ams amv amr amx amp amq amb amk amz am0 am1 am2 am3 am4 amh amo aP : Nat} {tn nm na ac gn : Nat} {th vpl vrm vra x0 x1 x2 x3 : Int32} {sd : Int64} {fmt fmc fmw fms fmv fP : Nat → Int32} {rest : va_W} {k : Nat} {wa : Int32} (hnm : nm ≤ 5) (hna : na ≤ 5) (hk : k < nm) : MI l D [(cI, .int), (cZ, .boolean), (cQ, .object "MulesRemember$State")] yX5_forbids cX5_forbids 9 .int ({ frames := 2, cells := 0, slots := 0, locals := 48 } : Room) [.ref aM, .ref aP, .int (nI k), .int wa] ((aM, .inr (5, [.int th, .ref amt, .int (nI tn), .int vpl, .int (nI nm), .ref amc, .int (nI na), .ref amw, .ref ams, .ref amv, .int vrm, .ref amr, .int vra, .ref amx, .ref amp, .ref amq, .ref amb, .int (nI ac), .ref amk, .ref amz, .int (nI gn), .ref am0, .ref am1, .ref am2, .ref am3, .ref am4, .long sd, .ref amh, .int x0, .int x1, .int x2, .int x3, .ref amo])) :: (amt, .inl (cI, 48, .inl (fmt))) :: (amc, .inl (cI, 5, .inl (fmc))) :: (amw, .inl (cI, 5, .inl (fmw))) :: (ams, .inl (cI, 5, .inl (fms))) :: (amv, .inl (cI, 5, .inl (fmv))) :: (aP, .inl (cI, 17, .inl (fP))) :: rest) (mFF nm na fmw fms fmv fmc fP k wa) ((aM, .inr (5, [.int th, .ref amt, .int (nI tn), .int vpl, .int (nI nm), .ref amc, .int (nI na), .ref amw, .ref ams, .ref amv, .int vrm, .ref amr, .int vra, .ref amx, .ref amp, .ref amq, .ref amb, .int (nI ac), .ref amk, .ref amz, .int (nI gn), .ref am0, .ref am1, .ref am2, .ref am3, .ref am4, .long sd, .ref amh, .int x0, .int x1, .int x2, .int x3, .ref amo])) :: (amt, .inl (cI, 48, .inl (fmt))) :: (amc, .inl (cI, 5, .inl (fmc))) :: (amw, .inl (cI, 5, .inl (fmw))) :: (ams, .inl (cI, 5, .inl (fms))) :: (amv, .inl (cI, 5, .inl (fmv))) :: (aP, .inl (cI, 17, .inl (fP))) :: rest) := by
  refine MI.of [.ref aM, .ref aP, .int (nI k), .int wa, .null, .null, .null, .null, .null] (by decide) (Nat.le_of_ble_eq_true rfl) rfl ?_
  intro p e s m below meth c A C0 hr
  have hk5 : k < 5 := by omega
  refine ww_aload_n C0 dX5_forbids_0 rfl ?_
  refine ww_iload_n C0 dX5_forbids_1 rfl ?_
  refine ww_iload_n C0 dX5_forbids_2 rfl ?_
  refine ww_callSi C0 (c_X5_toStone l D cI cZ cQ hk5) kd_X5_toStone kw_X5_119 ks_X5_toStone ki_X5 hd_X5_toStone ⟨Nat.le_of_ble_eq_true rfl, Nat.le_of_ble_eq_true rfl, rfl, rfl⟩ (Nat.le_of_ble_eq_true rfl) dX5_forbids_3 rfl rfl ⟨Nat.zero_le _, Nat.zero_le _⟩ ?_
  refine ww_istore (i := 4) C0 dX5_forbids_6 (Nat.le_of_ble_eq_true rfl) rfl ?_
  simp only [List.set_cons_zero, List.set_cons_succ]
  refine ww_iload C0 dX5_forbids_8 rfl ?_
  refine ww_bipush (v := (-9)) C0 dX5_forbids_10 rfl ?_
  refine ww_icmp_ne (tgt := 19) C0 dX5_forbids_12 (by decide) (fun h12 => ?_) (fun h12 => ?_)
  · skip
    refine ww_aload_n C0 dX5_forbids_19 rfl ?_
    refine ww_aload_n C0 dX5_forbids_20 rfl ?_
    refine ww_iload_n C0 dX5_forbids_21 rfl ?_
    refine ww_iload C0 dX5_forbids_22 rfl ?_
    refine ww_callVi C0 (qc := (RX5, TX5, 33)) 0 5 (c_X5_northern l D cI cZ cQ hnm hk) kd_X5_northern kw_X5_123 km_X5_northern kl_X5_northern ki_X5 hd_X5_northern rfl rfl ⟨Nat.le_of_ble_eq_true rfl, Nat.le_of_ble_eq_true rfl, rfl, rfl⟩ (Nat.le_of_ble_eq_true rfl) dX5_forbids_24 rfl rfl rfl ⟨Nat.zero_le _, Nat.zero_le _⟩ ?_
    refine ww_top (v' := (if mTo (fP k) wa = -9 then 0 else sOth nm fP k (mTo (fP k) wa))) (by simp [*]) ?_
    clear h12
    refine ww_istore (i := 5) C0 dX5_forbids_27 (Nat.le_of_ble_eq_true rfl) rfl ?_
    simp only [List.set_cons_zero, List.set_cons_succ]
    refine ww_iconst (v := (0)) C0 dX5_forbids_29 rfl ?_
    refine ww_istore (i := 6) C0 dX5_forbids_30 (Nat.le_of_ble_eq_true rfl) rfl ?_
    simp only [List.set_cons_zero, List.set_cons_succ]
    refine ww_iconst (v := (0)) C0 dX5_forbids_32 rfl ?_
    refine ww_istore (i := 7) C0 dX5_forbids_33 (Nat.le_of_ble_eq_true rfl) rfl ?_
    simp only [List.set_cons_zero, List.set_cons_succ]
    refine ww_back (ww_loop (pc := 35) 0 (na) (by omega) (fun j => [_, _, _, _, _, _, .int (orBits (fun a => if fmw a = mTo (fP k) wa then mBar (fms a) (fmv a) (fmc k) (fP 15) wa (if mTo (fP k) wa = -9 then 0 else sOth nm fP k (mTo (fP k) wa)) else false) j), .int (nI j), .null]) (fun j => _) ?_ ?_) ⟨Or.inr rfl, Or.inr rfl, Or.inr rfl, Or.inr rfl, Or.inr rfl, Or.inr rfl, Or.inr rfl, Or.inr rfl, Or.inl rfl, trivial⟩ (by rfl)
    · intro j hj0 hj ih
      refine ww_iload C0 dX5_forbids_35 rfl ?_
      refine ww_aload_n C0 dX5_forbids_37 rfl ?_
      refine ww_get C0 (ci := 5) (C := RX5) (T := TX5) (N := 33) ku_X5 0 rfl rfl 6 (by decide) kw_X5_79 rfl dX5_forbids_38 ?_
      refine ww_icmp_ge (tgt := 120) C0 dX5_forbids_41 (by decide) (fun h41 => ?_) (fun h41 => ?_)
      · skip
        replace h41 := (nI_leE (a := na) (b := j) rfl rfl (by omega) (by omega)).mp h41
        exfalso; omega
      · skip
        replace h41 := (not_congr (nI_leE (a := na) (b := j) rfl rfl (by omega) (by omega))).mp h41
        refine ww_aload_n C0 dX5_forbids_44 rfl ?_
        refine ww_get C0 (ci := 5) (C := RX5) (T := TX5) (N := 33) ku_X5 0 rfl rfl 7 (by decide) kw_X5_16 rfl dX5_forbids_45 ?_
        refine ww_iload C0 dX5_forbids_48 rfl ?_
        refine ww_iald_n (j := j) C0 3 0 rfl rfl rfl (by omega) (by decide) dX5_forbids_50 ?_
        refine ww_iload C0 dX5_forbids_51 rfl ?_
        refine ww_icmp_ne (tgt := 93) C0 dX5_forbids_53 (by decide) (fun h53 => ?_) (fun h53 => ?_)
        · skip
          refine ww_iconst (v := (0)) C0 dX5_forbids_93 rfl ?_
          refine ww_istore (i := 8) C0 dX5_forbids_94 (Nat.le_of_ble_eq_true rfl) rfl ?_
          simp only [List.set_cons_zero, List.set_cons_succ]
          refine ww_iload C0 dX5_forbids_96 rfl ?_
          refine ww_iload C0 dX5_forbids_98 rfl ?_
          refine ww_if_eq (tgt := 110) C0 dX5_forbids_100 (by decide) (fun h100 => ?_) (fun h100 => ?_)
          · skip
            replace h100 := (nI_eqE (a := 0) (b := 0) rfl rfl (by omega) (by omega)).mp h100
            refine ww_iconst (v := (0)) C0 dX5_forbids_110 rfl ?_
            refine ww_ior C0 dX5_forbids_111 ?_
            refine ww_istore (i := 6) C0 dX5_forbids_112 (Nat.le_of_ble_eq_true rfl) rfl ?_
            simp only [List.set_cons_zero, List.set_cons_succ]
            refine ww_iinc (d := 1) C0 dX5_forbids_114 rfl rfl rfl ?_
            simp only [List.set_cons_zero, List.set_cons_succ]
            refine ww_goto (tgt := 35) C0 dX5_forbids_117 (by decide) ?_
            exact ww_back ih ⟨Or.inr rfl, Or.inr rfl, Or.inr rfl, Or.inr rfl, Or.inr rfl, Or.inr rfl, Or.inr (congrArg Value.int (by simp [orBits, *])), Or.inr (congrArg Value.int (nI_addE (a := j) (b := 1) rfl rfl).symm), Or.inl rfl, trivial⟩ (by rfl)
          · skip
            replace h100 := (not_congr (nI_eqE (a := 0) (b := 0) rfl rfl (by omega) (by omega))).mp h100
            exfalso; omega
        · skip
          refine ww_aload_n C0 dX5_forbids_56 rfl ?_
          refine ww_get C0 (ci := 5) (C := RX5) (T := TX5) (N := 33) ku_X5 0 rfl rfl 8 (by decide) kw_X5_19 rfl dX5_forbids_57 ?_
          refine ww_iload C0 dX5_forbids_60 rfl ?_
          refine ww_iald_n (j := j) C0 4 0 rfl rfl rfl (by omega) (by decide) dX5_forbids_62 ?_
          refine ww_aload_n C0 dX5_forbids_63 rfl ?_
          refine ww_get C0 (ci := 5) (C := RX5) (T := TX5) (N := 33) ku_X5 0 rfl rfl 9 (by decide) kw_X5_22 rfl dX5_forbids_64 ?_
          refine ww_iload C0 dX5_forbids_67 rfl ?_
          refine ww_iald_n (j := j) C0 5 0 rfl rfl rfl (by omega) (by decide) dX5_forbids_69 ?_
          refine ww_aload_n C0 dX5_forbids_70 rfl ?_
          refine ww_get C0 (ci := 5) (C := RX5) (T := TX5) (N := 33) ku_X5 0 rfl rfl 5 (by decide) kw_X5_13 rfl dX5_forbids_71 ?_
          refine ww_iload_n C0 dX5_forbids_74 rfl ?_
          refine ww_iald_n (j := k) C0 2 0 rfl rfl rfl (by omega) (by decide) dX5_forbids_75 ?_
          refine ww_aload_n C0 dX5_forbids_76 rfl ?_
          refine ww_bipush (v := (15)) C0 dX5_forbids_77 rfl ?_
          refine ww_iald_n (j := 15) C0 6 0 rfl rfl rfl (by omega) (by decide) dX5_forbids_79 ?_
          refine ww_iload_n C0 dX5_forbids_80 rfl ?_
          refine ww_iload C0 dX5_forbids_81 rfl ?_
          refine ww_callSi C0 (c_X5_isBarred l D cI cZ cQ) kd_X5_isBarred kw_X5_126 ks_X5_isBarred ki_X5 hd_X5_isBarred ⟨Nat.le_of_ble_eq_true rfl, Nat.le_of_ble_eq_true rfl, rfl, rfl⟩ (Nat.le_of_ble_eq_true rfl) dX5_forbids_83 rfl rfl ⟨Nat.zero_le _, Nat.zero_le _⟩ ?_
          refine ww_bif_eq (tgt := 93) C0 dX5_forbids_86 (by decide) (fun h86 => ?_) (fun h86 => ?_)
          · skip
            refine ww_iconst (v := (0)) C0 dX5_forbids_93 rfl ?_
            refine ww_istore (i := 8) C0 dX5_forbids_94 (Nat.le_of_ble_eq_true rfl) rfl ?_
            simp only [List.set_cons_zero, List.set_cons_succ]
            refine ww_iload C0 dX5_forbids_96 rfl ?_
            refine ww_iload C0 dX5_forbids_98 rfl ?_
            refine ww_if_eq (tgt := 110) C0 dX5_forbids_100 (by decide) (fun h100 => ?_) (fun h100 => ?_)
            · skip
              replace h100 := (nI_eqE (a := 0) (b := 0) rfl rfl (by omega) (by omega)).mp h100
              refine ww_iconst (v := (0)) C0 dX5_forbids_110 rfl ?_
              refine ww_ior C0 dX5_forbids_111 ?_
              refine ww_istore (i := 6) C0 dX5_forbids_112 (Nat.le_of_ble_eq_true rfl) rfl ?_
              simp only [List.set_cons_zero, List.set_cons_succ]
              refine ww_iinc (d := 1) C0 dX5_forbids_114 rfl rfl rfl ?_
              simp only [List.set_cons_zero, List.set_cons_succ]
              refine ww_goto (tgt := 35) C0 dX5_forbids_117 (by decide) ?_
              exact ww_back ih ⟨Or.inr rfl, Or.inr rfl, Or.inr rfl, Or.inr rfl, Or.inr rfl, Or.inr rfl, Or.inr (congrArg Value.int (by simp [orBits, *])), Or.inr (congrArg Value.int (nI_addE (a := j) (b := 1) rfl rfl).symm), Or.inl rfl, trivial⟩ (by rfl)
            · skip
              replace h100 := (not_congr (nI_eqE (a := 0) (b := 0) rfl rfl (by omega) (by omega))).mp h100
              exfalso; omega
          · skip
            refine ww_iconst (v := (1)) C0 dX5_forbids_89 rfl ?_
            refine ww_goto (tgt := 94) C0 dX5_forbids_90 (by decide) ?_
            refine ww_istore (i := 8) C0 dX5_forbids_94 (Nat.le_of_ble_eq_true rfl) rfl ?_
            simp only [List.set_cons_zero, List.set_cons_succ]
            refine ww_iload C0 dX5_forbids_96 rfl ?_
            refine ww_iload C0 dX5_forbids_98 rfl ?_
            refine ww_if_eq (tgt := 110) C0 dX5_forbids_100 (by decide) (fun h100 => ?_) (fun h100 => ?_)
            · skip
              replace h100 := (nI_eqE (a := 1) (b := 0) rfl rfl (by omega) (by omega)).mp h100
              exfalso; omega
            · skip
              replace h100 := (not_congr (nI_eqE (a := 1) (b := 0) rfl rfl (by omega) (by omega))).mp h100
              refine ww_iconst (v := (1)) C0 dX5_forbids_103 rfl ?_
              refine ww_iload C0 dX5_forbids_104 rfl ?_
              refine ww_ishl C0 dX5_forbids_106 ?_
              refine ww_goto (tgt := 111) C0 dX5_forbids_107 (by decide) ?_
              refine ww_ior C0 dX5_forbids_111 ?_
              refine ww_istore (i := 6) C0 dX5_forbids_112 (Nat.le_of_ble_eq_true rfl) rfl ?_
              simp only [List.set_cons_zero, List.set_cons_succ]
              refine ww_iinc (d := 1) C0 dX5_forbids_114 rfl rfl rfl ?_
              simp only [List.set_cons_zero, List.set_cons_succ]
              refine ww_goto (tgt := 35) C0 dX5_forbids_117 (by decide) ?_
              exact ww_back ih ⟨Or.inr rfl, Or.inr rfl, Or.inr rfl, Or.inr rfl, Or.inr rfl, Or.inr rfl, Or.inr (congrArg Value.int (by simp [orBits, *])), Or.inr (congrArg Value.int (nI_addE (a := j) (b := 1) rfl rfl).symm), Or.inl rfl, trivial⟩ (by rfl)
    · skip
      refine ww_iload C0 dX5_forbids_35 rfl ?_
      refine ww_aload_n C0 dX5_forbids_37 rfl ?_
      refine ww_get C0 (ci := 5) (C := RX5) (T := TX5) (N := 33) ku_X5 0 rfl rfl 6 (by decide) kw_X5_79 rfl dX5_forbids_38 ?_
      refine ww_icmp_ge (tgt := 120) C0 dX5_forbids_41 (by decide) (fun h41 => ?_) (fun h41 => ?_)
      · skip
        replace h41 := (nI_leE (a := na) (b := na) rfl rfl (by omega) (by omega)).mp h41
        refine ww_iload C0 dX5_forbids_120 rfl ?_
        exact ww_iret C0 hr dX5_forbids_122 (by rfl) (by rfl)
      · skip
        replace h41 := (not_congr (nI_leE (a := na) (b := na) rfl rfl (by omega) (by omega))).mp h41
        exfalso; omega
  · skip
    refine ww_iconst (v := (0)) C0 dX5_forbids_15 rfl ?_
    refine ww_goto (tgt := 27) C0 dX5_forbids_16 (by decide) ?_
    refine ww_top (v' := (if mTo (fP k) wa = -9 then 0 else sOth nm fP k (mTo (fP k) wa))) (by simp [*]) ?_
    clear h12
    refine ww_istore (i := 5) C0 dX5_forbids_27 (Nat.le_of_ble_eq_true rfl) rfl ?_
    simp only [List.set_cons_zero, List.set_cons_succ]
    refine ww_iconst (v := (0)) C0 dX5_forbids_29 rfl ?_
    refine ww_istore (i := 6) C0 dX5_forbids_30 (Nat.le_of_ble_eq_true rfl) rfl ?_
    simp only [List.set_cons_zero, List.set_cons_succ]
    refine ww_iconst (v := (0)) C0 dX5_forbids_32 rfl ?_
    refine ww_istore (i := 7) C0 dX5_forbids_33 (Nat.le_of_ble_eq_true rfl) rfl ?_
    simp only [List.set_cons_zero, List.set_cons_succ]
    refine ww_back (ww_loop (pc := 35) 0 (na) (by omega) (fun j => [_, _, _, _, _, _, .int (orBits (fun a => if fmw a = mTo (fP k) wa then mBar (fms a) (fmv a) (fmc k) (fP 15) wa (if mTo (fP k) wa = -9 then 0 else sOth nm fP k (mTo (fP k) wa)) else false) j), .int (nI j), .null]) (fun j => _) ?_ ?_) ⟨Or.inr rfl, Or.inr rfl, Or.inr rfl, Or.inr rfl, Or.inr rfl, Or.inr rfl, Or.inr rfl, Or.inr rfl, Or.inl rfl, trivial⟩ (by rfl)
    · intro j hj0 hj ih
      refine ww_iload C0 dX5_forbids_35 rfl ?_
      refine ww_aload_n C0 dX5_forbids_37 rfl ?_
      refine ww_get C0 (ci := 5) (C := RX5) (T := TX5) (N := 33) ku_X5 0 rfl rfl 6 (by decide) kw_X5_79 rfl dX5_forbids_38 ?_
      refine ww_icmp_ge (tgt := 120) C0 dX5_forbids_41 (by decide) (fun h41 => ?_) (fun h41 => ?_)
      · skip
        replace h41 := (nI_leE (a := na) (b := j) rfl rfl (by omega) (by omega)).mp h41
        exfalso; omega
      · skip
        replace h41 := (not_congr (nI_leE (a := na) (b := j) rfl rfl (by omega) (by omega))).mp h41
        refine ww_aload_n C0 dX5_forbids_44 rfl ?_
        refine ww_get C0 (ci := 5) (C := RX5) (T := TX5) (N := 33) ku_X5 0 rfl rfl 7 (by decide) kw_X5_16 rfl dX5_forbids_45 ?_
        refine ww_iload C0 dX5_forbids_48 rfl ?_
        refine ww_iald_n (j := j) C0 3 0 rfl rfl rfl (by omega) (by decide) dX5_forbids_50 ?_
        refine ww_iload C0 dX5_forbids_51 rfl ?_
        refine ww_icmp_ne (tgt := 93) C0 dX5_forbids_53 (by decide) (fun h53 => ?_) (fun h53 => ?_)
        · skip
          refine ww_iconst (v := (0)) C0 dX5_forbids_93 rfl ?_
          refine ww_istore (i := 8) C0 dX5_forbids_94 (Nat.le_of_ble_eq_true rfl) rfl ?_
          simp only [List.set_cons_zero, List.set_cons_succ]
          refine ww_iload C0 dX5_forbids_96 rfl ?_
          refine ww_iload C0 dX5_forbids_98 rfl ?_
          refine ww_if_eq (tgt := 110) C0 dX5_forbids_100 (by decide) (fun h100 => ?_) (fun h100 => ?_)
          · skip
            replace h100 := (nI_eqE (a := 0) (b := 0) rfl rfl (by omega) (by omega)).mp h100
            refine ww_iconst (v := (0)) C0 dX5_forbids_110 rfl ?_
            refine ww_ior C0 dX5_forbids_111 ?_
            refine ww_istore (i := 6) C0 dX5_forbids_112 (Nat.le_of_ble_eq_true rfl) rfl ?_
            simp only [List.set_cons_zero, List.set_cons_succ]
            refine ww_iinc (d := 1) C0 dX5_forbids_114 rfl rfl rfl ?_
            simp only [List.set_cons_zero, List.set_cons_succ]
            refine ww_goto (tgt := 35) C0 dX5_forbids_117 (by decide) ?_
            exact ww_back ih ⟨Or.inr rfl, Or.inr rfl, Or.inr rfl, Or.inr rfl, Or.inr rfl, Or.inr rfl, Or.inr (congrArg Value.int (by simp [orBits, *])), Or.inr (congrArg Value.int (nI_addE (a := j) (b := 1) rfl rfl).symm), Or.inl rfl, trivial⟩ (by rfl)
          · skip
            replace h100 := (not_congr (nI_eqE (a := 0) (b := 0) rfl rfl (by omega) (by omega))).mp h100
            exfalso; omega
        · skip
          refine ww_aload_n C0 dX5_forbids_56 rfl ?_
          refine ww_get C0 (ci := 5) (C := RX5) (T := TX5) (N := 33) ku_X5 0 rfl rfl 8 (by decide) kw_X5_19 rfl dX5_forbids_57 ?_
          refine ww_iload C0 dX5_forbids_60 rfl ?_
          refine ww_iald_n (j := j) C0 4 0 rfl rfl rfl (by omega) (by decide) dX5_forbids_62 ?_
          refine ww_aload_n C0 dX5_forbids_63 rfl ?_
          refine ww_get C0 (ci := 5) (C := RX5) (T := TX5) (N := 33) ku_X5 0 rfl rfl 9 (by decide) kw_X5_22 rfl dX5_forbids_64 ?_
          refine ww_iload C0 dX5_forbids_67 rfl ?_
          refine ww_iald_n (j := j) C0 5 0 rfl rfl rfl (by omega) (by decide) dX5_forbids_69 ?_
          refine ww_aload_n C0 dX5_forbids_70 rfl ?_
          refine ww_get C0 (ci := 5) (C := RX5) (T := TX5) (N := 33) ku_X5 0 rfl rfl 5 (by decide) kw_X5_13 rfl dX5_forbids_71 ?_
          refine ww_iload_n C0 dX5_forbids_74 rfl ?_
          refine ww_iald_n (j := k) C0 2 0 rfl rfl rfl (by omega) (by decide) dX5_forbids_75 ?_
          refine ww_aload_n C0 dX5_forbids_76 rfl ?_
          refine ww_bipush (v := (15)) C0 dX5_forbids_77 rfl ?_
          refine ww_iald_n (j := 15) C0 6 0 rfl rfl rfl (by omega) (by decide) dX5_forbids_79 ?_
          refine ww_iload_n C0 dX5_forbids_80 rfl ?_
          refine ww_iload C0 dX5_forbids_81 rfl ?_
          refine ww_callSi C0 (c_X5_isBarred l D cI cZ cQ) kd_X5_isBarred kw_X5_126 ks_X5_isBarred ki_X5 hd_X5_isBarred ⟨Nat.le_of_ble_eq_true rfl, Nat.le_of_ble_eq_true rfl, rfl, rfl⟩ (Nat.le_of_ble_eq_true rfl) dX5_forbids_83 rfl rfl ⟨Nat.zero_le _, Nat.zero_le _⟩ ?_
          refine ww_bif_eq (tgt := 93) C0 dX5_forbids_86 (by decide) (fun h86 => ?_) (fun h86 => ?_)
          · skip
            refine ww_iconst (v := (0)) C0 dX5_forbids_93 rfl ?_
            refine ww_istore (i := 8) C0 dX5_forbids_94 (Nat.le_of_ble_eq_true rfl) rfl ?_
            simp only [List.set_cons_zero, List.set_cons_succ]
            refine ww_iload C0 dX5_forbids_96 rfl ?_
            refine ww_iload C0 dX5_forbids_98 rfl ?_
            refine ww_if_eq (tgt := 110) C0 dX5_forbids_100 (by decide) (fun h100 => ?_) (fun h100 => ?_)
            · skip
              replace h100 := (nI_eqE (a := 0) (b := 0) rfl rfl (by omega) (by omega)).mp h100
              refine ww_iconst (v := (0)) C0 dX5_forbids_110 rfl ?_
              refine ww_ior C0 dX5_forbids_111 ?_
              refine ww_istore (i := 6) C0 dX5_forbids_112 (Nat.le_of_ble_eq_true rfl) rfl ?_
              simp only [List.set_cons_zero, List.set_cons_succ]
              refine ww_iinc (d := 1) C0 dX5_forbids_114 rfl rfl rfl ?_
              simp only [List.set_cons_zero, List.set_cons_succ]
              refine ww_goto (tgt := 35) C0 dX5_forbids_117 (by decide) ?_
              exact ww_back ih ⟨Or.inr rfl, Or.inr rfl, Or.inr rfl, Or.inr rfl, Or.inr rfl, Or.inr rfl, Or.inr (congrArg Value.int (by simp [orBits, *])), Or.inr (congrArg Value.int (nI_addE (a := j) (b := 1) rfl rfl).symm), Or.inl rfl, trivial⟩ (by rfl)
            · skip
              replace h100 := (not_congr (nI_eqE (a := 0) (b := 0) rfl rfl (by omega) (by omega))).mp h100
              exfalso; omega
          · skip
            refine ww_iconst (v := (1)) C0 dX5_forbids_89 rfl ?_
            refine ww_goto (tgt := 94) C0 dX5_forbids_90 (by decide) ?_
            refine ww_istore (i := 8) C0 dX5_forbids_94 (Nat.le_of_ble_eq_true rfl) rfl ?_
            simp only [List.set_cons_zero, List.set_cons_succ]
            refine ww_iload C0 dX5_forbids_96 rfl ?_
            refine ww_iload C0 dX5_forbids_98 rfl ?_
            refine ww_if_eq (tgt := 110) C0 dX5_forbids_100 (by decide) (fun h100 => ?_) (fun h100 => ?_)
            · skip
              replace h100 := (nI_eqE (a := 1) (b := 0) rfl rfl (by omega) (by omega)).mp h100
              exfalso; omega
            · skip
              replace h100 := (not_congr (nI_eqE (a := 1) (b := 0) rfl rfl (by omega) (by omega))).mp h100
              refine ww_iconst (v := (1)) C0 dX5_forbids_103 rfl ?_
              refine ww_iload C0 dX5_forbids_104 rfl ?_
              refine ww_ishl C0 dX5_forbids_106 ?_
              refine ww_goto (tgt := 111) C0 dX5_forbids_107 (by decide) ?_
              refine ww_ior C0 dX5_forbids_111 ?_
              refine ww_istore (i := 6) C0 dX5_forbids_112 (Nat.le_of_ble_eq_true rfl) rfl ?_
              simp only [List.set_cons_zero, List.set_cons_succ]
              refine ww_iinc (d := 1) C0 dX5_forbids_114 rfl rfl rfl ?_
              simp only [List.set_cons_zero, List.set_cons_succ]
              refine ww_goto (tgt := 35) C0 dX5_forbids_117 (by decide) ?_
              exact ww_back ih ⟨Or.inr rfl, Or.inr rfl, Or.inr rfl, Or.inr rfl, Or.inr rfl, Or.inr rfl, Or.inr (congrArg Value.int (by simp [orBits, *])), Or.inr (congrArg Value.int (nI_addE (a := j) (b := 1) rfl rfl).symm), Or.inl rfl, trivial⟩ (by rfl)
    · skip
      refine ww_iload C0 dX5_forbids_35 rfl ?_
      refine ww_aload_n C0 dX5_forbids_37 rfl ?_
      refine ww_get C0 (ci := 5) (C := RX5) (T := TX5) (N := 33) ku_X5 0 rfl rfl 6 (by decide) kw_X5_79 rfl dX5_forbids_38 ?_
      refine ww_icmp_ge (tgt := 120) C0 dX5_forbids_41 (by decide) (fun h41 => ?_) (fun h41 => ?_)
      · skip
        replace h41 := (nI_leE (a := na) (b := na) rfl rfl (by omega) (by omega)).mp h41
        refine ww_iload C0 dX5_forbids_120 rfl ?_
        exact ww_iret C0 hr dX5_forbids_122 (by rfl) (by rfl)
      · skip
        replace h41 := (not_congr (nI_leE (a := na) (b := na) rfl rfl (by omega) (by omega))).mp h41
        exfalso; omega

set_option maxHeartbeats 4000000 in
set_option maxRecDepth 100000 in
theorem c_X5_isBalking (l : Launch) (D : va_G) (cI cZ cQ : ClassId) {aM amt amc amw ams amv amr amx amp amq amb amk amz am0 am1 am2 am3 am4 amh amo aP : Nat} {tn nm na ac gn : Nat} {th vpl vrm vra x0 x1 x2 x3 : Int32} {sd : Int64} {fmt fmc fmw fms fmv fP : Nat → Int32} {rest : va_W} {k : Nat} {wa : Int32} (hnm : nm ≤ 5) (hna : na ≤ 5) (hk : k < nm) : MI l D [(cI, .int), (cZ, .boolean), (cQ, .object "MulesRemember$State")] yX5_isBalking cX5_isBalking 4 .boolean ({ frames := 3, cells := 0, slots := 0, locals := 76 } : Room) [.ref aM, .ref aP, .int (nI k), .int wa] ((aM, .inr (5, [.int th, .ref amt, .int (nI tn), .int vpl, .int (nI nm), .ref amc, .int (nI na), .ref amw, .ref ams, .ref amv, .int vrm, .ref amr, .int vra, .ref amx, .ref amp, .ref amq, .ref amb, .int (nI ac), .ref amk, .ref amz, .int (nI gn), .ref am0, .ref am1, .ref am2, .ref am3, .ref am4, .long sd, .ref amh, .int x0, .int x1, .int x2, .int x3, .ref amo])) :: (amt, .inl (cI, 48, .inl (fmt))) :: (amc, .inl (cI, 5, .inl (fmc))) :: (amw, .inl (cI, 5, .inl (fmw))) :: (ams, .inl (cI, 5, .inl (fms))) :: (amv, .inl (cI, 5, .inl (fmv))) :: (aP, .inl (cI, 17, .inl (fP))) :: rest) (bI (mBk nm na fmw fms fmv fmc fP k wa)) ((aM, .inr (5, [.int th, .ref amt, .int (nI tn), .int vpl, .int (nI nm), .ref amc, .int (nI na), .ref amw, .ref ams, .ref amv, .int vrm, .ref amr, .int vra, .ref amx, .ref amp, .ref amq, .ref amb, .int (nI ac), .ref amk, .ref amz, .int (nI gn), .ref am0, .ref am1, .ref am2, .ref am3, .ref am4, .long sd, .ref amh, .int x0, .int x1, .int x2, .int x3, .ref amo])) :: (amt, .inl (cI, 48, .inl (fmt))) :: (amc, .inl (cI, 5, .inl (fmc))) :: (amw, .inl (cI, 5, .inl (fmw))) :: (ams, .inl (cI, 5, .inl (fms))) :: (amv, .inl (cI, 5, .inl (fmv))) :: (aP, .inl (cI, 17, .inl (fP))) :: rest) := by
  refine MI.of [.ref aM, .ref aP, .int (nI k), .int wa] (by decide) (Nat.le_of_ble_eq_true rfl) rfl ?_
  intro p e s m below meth c A C0 hr
  refine ww_aload_n C0 dX5_isBalking_0 rfl ?_
  refine ww_aload_n C0 dX5_isBalking_1 rfl ?_
  refine ww_iload_n C0 dX5_isBalking_2 rfl ?_
  refine ww_iload_n C0 dX5_isBalking_3 rfl ?_
  refine ww_callVi C0 (qc := (RX5, TX5, 33)) 0 5 (c_X5_forbids l D cI cZ cQ hnm hna hk) kd_X5_forbids kw_X5_130 km_X5_forbids kl_X5_forbids ki_X5 hd_X5_forbids rfl rfl ⟨Nat.le_of_ble_eq_true rfl, Nat.le_of_ble_eq_true rfl, rfl, rfl⟩ (Nat.le_of_ble_eq_true rfl) dX5_isBalking_4 rfl rfl rfl ⟨Nat.zero_le _, Nat.zero_le _⟩ ?_
  refine ww_aload_n C0 dX5_isBalking_7 rfl ?_
  refine ww_aload_n C0 dX5_isBalking_8 rfl ?_
  refine ww_iload_n C0 dX5_isBalking_9 rfl ?_
  refine ww_callVi C0 (qc := (RX5, TX5, 33)) 0 5 (c_X5_knows l D cI cZ cQ hnm hna hk) kd_X5_knows kw_X5_133 km_X5_knows kl_X5_knows ki_X5 hd_X5_knows rfl rfl ⟨Nat.le_of_ble_eq_true rfl, Nat.le_of_ble_eq_true rfl, rfl, rfl⟩ (Nat.le_of_ble_eq_true rfl) dX5_isBalking_10 rfl rfl rfl ⟨Nat.zero_le _, Nat.zero_le _⟩ ?_
  refine ww_iand C0 dX5_isBalking_13 ?_
  refine ww_if_eq (tgt := 21) C0 dX5_isBalking_14 (by decide) (fun h14 => ?_) (fun h14 => ?_)
  · skip
    refine ww_iconst (v := (0)) C0 dX5_isBalking_21 rfl ?_
    exact ww_zret C0 hr dX5_isBalking_22 (by simp [mBk, bI, *]) (by rfl)
  · skip
    refine ww_iconst (v := (1)) C0 dX5_isBalking_17 rfl ?_
    refine ww_goto (tgt := 22) C0 dX5_isBalking_18 (by decide) ?_
    exact ww_zret C0 hr dX5_isBalking_22 (by simp [mBk, bI, *]) (by rfl)

set_option maxHeartbeats 4000000 in
set_option maxRecDepth 100000 in
theorem c_X5_leastOf (l : Launch) (D : va_G) (cI cZ cQ : ClassId) {rest : va_W} {b : Int32} : MI l D [(cI, .int), (cZ, .boolean), (cQ, .object "MulesRemember$State")] yX5_leastOf cX5_leastOf 3 .int ({ frames := 1, cells := 0, slots := 0, locals := 21 } : Room) [.int b] (rest) (sFirst b) (rest) := by
  refine MI.of [.int b, .null, .null] (by decide) (Nat.le_of_ble_eq_true rfl) rfl ?_
  intro p e s m below meth c A C0 hr
  refine ww_bipush (v := (-9)) C0 dX5_leastOf_0 rfl ?_
  refine ww_istore_n (i := 1) C0 dX5_leastOf_2 rfl (Nat.le_of_ble_eq_true rfl) rfl ?_
  simp only [List.set_cons_zero, List.set_cons_succ]
  refine ww_iconst (v := (4)) C0 dX5_leastOf_3 rfl ?_
  refine ww_istore_n (i := 2) C0 dX5_leastOf_4 rfl (Nat.le_of_ble_eq_true rfl) rfl ?_
  simp only [List.set_cons_zero, List.set_cons_succ]
  refine ww_cong (lo' := [_, _, .int 4]) ?_ (by rfl) rfl rfl
  refine ww_iload_n C0 dX5_leastOf_5 rfl ?_
  refine ww_if_lt (tgt := 29) C0 dX5_leastOf_6 (by decide) (fun h6 => ?_) (fun h6 => ?_)
  · skip
    replace h6 := (nI_ltE (a := 4) (b := 0) rfl rfl (by omega) (by omega)).mp h6
    exfalso; omega
  · skip
    replace h6 := (not_congr (nI_ltE (a := 4) (b := 0) rfl rfl (by omega) (by omega))).mp h6
    refine ww_iload_n C0 dX5_leastOf_9 rfl ?_
    refine ww_iload_n C0 dX5_leastOf_10 rfl ?_
    refine ww_callSi C0 (c_X5_has l D cI cZ cQ) kd_X5_has kw_X5_140 ks_X5_has ki_X5 hd_X5_has ⟨Nat.le_of_ble_eq_true rfl, Nat.le_of_ble_eq_true rfl, rfl, rfl⟩ (Nat.le_of_ble_eq_true rfl) dX5_leastOf_11 rfl rfl ⟨Nat.zero_le _, Nat.zero_le _⟩ ?_
    refine ww_bif_eq (tgt := 21) C0 dX5_leastOf_14 (by decide) (fun h14 => ?_) (fun h14 => ?_)
    · skip
      have g4 := h14
      refine ww_iload_n C0 dX5_leastOf_21 rfl ?_
      refine ww_istore_n (i := 1) C0 dX5_leastOf_22 rfl (Nat.le_of_ble_eq_true rfl) rfl ?_
      simp only [List.set_cons_zero, List.set_cons_succ]
      refine ww_iinc (d := (-1)) C0 dX5_leastOf_23 rfl rfl rfl ?_
      simp only [List.set_cons_zero, List.set_cons_succ]
      refine ww_goto (tgt := 5) C0 dX5_leastOf_26 (by decide) ?_
      refine ww_cong (lo' := [_, _, .int 3]) ?_ (by rfl) rfl rfl
      refine ww_iload_n C0 dX5_leastOf_5 rfl ?_
      refine ww_if_lt (tgt := 29) C0 dX5_leastOf_6 (by decide) (fun h6 => ?_) (fun h6 => ?_)
      · skip
        replace h6 := (nI_ltE (a := 3) (b := 0) rfl rfl (by omega) (by omega)).mp h6
        exfalso; omega
      · skip
        replace h6 := (not_congr (nI_ltE (a := 3) (b := 0) rfl rfl (by omega) (by omega))).mp h6
        refine ww_iload_n C0 dX5_leastOf_9 rfl ?_
        refine ww_iload_n C0 dX5_leastOf_10 rfl ?_
        refine ww_callSi C0 (c_X5_has l D cI cZ cQ) kd_X5_has kw_X5_140 ks_X5_has ki_X5 hd_X5_has ⟨Nat.le_of_ble_eq_true rfl, Nat.le_of_ble_eq_true rfl, rfl, rfl⟩ (Nat.le_of_ble_eq_true rfl) dX5_leastOf_11 rfl rfl ⟨Nat.zero_le _, Nat.zero_le _⟩ ?_
        refine ww_bif_eq (tgt := 21) C0 dX5_leastOf_14 (by decide) (fun h14 => ?_) (fun h14 => ?_)
        · skip
          have g3 := h14
          refine ww_iload_n C0 dX5_leastOf_21 rfl ?_
          refine ww_istore_n (i := 1) C0 dX5_leastOf_22 rfl (Nat.le_of_ble_eq_true rfl) rfl ?_
          simp only [List.set_cons_zero, List.set_cons_succ]
          refine ww_iinc (d := (-1)) C0 dX5_leastOf_23 rfl rfl rfl ?_
          simp only [List.set_cons_zero, List.set_cons_succ]
          refine ww_goto (tgt := 5) C0 dX5_leastOf_26 (by decide) ?_
          refine ww_cong (lo' := [_, _, .int 2]) ?_ (by rfl) rfl rfl
          refine ww_iload_n C0 dX5_leastOf_5 rfl ?_
          refine ww_if_lt (tgt := 29) C0 dX5_leastOf_6 (by decide) (fun h6 => ?_) (fun h6 => ?_)
          · skip
            replace h6 := (nI_ltE (a := 2) (b := 0) rfl rfl (by omega) (by omega)).mp h6
            exfalso; omega
          · skip
            replace h6 := (not_congr (nI_ltE (a := 2) (b := 0) rfl rfl (by omega) (by omega))).mp h6
            refine ww_iload_n C0 dX5_leastOf_9 rfl ?_
            refine ww_iload_n C0 dX5_leastOf_10 rfl ?_
            refine ww_callSi C0 (c_X5_has l D cI cZ cQ) kd_X5_has kw_X5_140 ks_X5_has ki_X5 hd_X5_has ⟨Nat.le_of_ble_eq_true rfl, Nat.le_of_ble_eq_true rfl, rfl, rfl⟩ (Nat.le_of_ble_eq_true rfl) dX5_leastOf_11 rfl rfl ⟨Nat.zero_le _, Nat.zero_le _⟩ ?_
            refine ww_bif_eq (tgt := 21) C0 dX5_leastOf_14 (by decide) (fun h14 => ?_) (fun h14 => ?_)
            · skip
              have g2 := h14
              refine ww_iload_n C0 dX5_leastOf_21 rfl ?_
              refine ww_istore_n (i := 1) C0 dX5_leastOf_22 rfl (Nat.le_of_ble_eq_true rfl) rfl ?_
              simp only [List.set_cons_zero, List.set_cons_succ]
              refine ww_iinc (d := (-1)) C0 dX5_leastOf_23 rfl rfl rfl ?_
              simp only [List.set_cons_zero, List.set_cons_succ]
              refine ww_goto (tgt := 5) C0 dX5_leastOf_26 (by decide) ?_
              refine ww_cong (lo' := [_, _, .int 1]) ?_ (by rfl) rfl rfl
              refine ww_iload_n C0 dX5_leastOf_5 rfl ?_
              refine ww_if_lt (tgt := 29) C0 dX5_leastOf_6 (by decide) (fun h6 => ?_) (fun h6 => ?_)
              · skip
                replace h6 := (nI_ltE (a := 1) (b := 0) rfl rfl (by omega) (by omega)).mp h6
                exfalso; omega
              · skip
                replace h6 := (not_congr (nI_ltE (a := 1) (b := 0) rfl rfl (by omega) (by omega))).mp h6
                refine ww_iload_n C0 dX5_leastOf_9 rfl ?_
                refine ww_iload_n C0 dX5_leastOf_10 rfl ?_
                refine ww_callSi C0 (c_X5_has l D cI cZ cQ) kd_X5_has kw_X5_140 ks_X5_has ki_X5 hd_X5_has ⟨Nat.le_of_ble_eq_true rfl, Nat.le_of_ble_eq_true rfl, rfl, rfl⟩ (Nat.le_of_ble_eq_true rfl) dX5_leastOf_11 rfl rfl ⟨Nat.zero_le _, Nat.zero_le _⟩ ?_
                refine ww_bif_eq (tgt := 21) C0 dX5_leastOf_14 (by decide) (fun h14 => ?_) (fun h14 => ?_)
                · skip
                  have g1 := h14
                  refine ww_iload_n C0 dX5_leastOf_21 rfl ?_
                  refine ww_istore_n (i := 1) C0 dX5_leastOf_22 rfl (Nat.le_of_ble_eq_true rfl) rfl ?_
                  simp only [List.set_cons_zero, List.set_cons_succ]
                  refine ww_iinc (d := (-1)) C0 dX5_leastOf_23 rfl rfl rfl ?_
                  simp only [List.set_cons_zero, List.set_cons_succ]
                  refine ww_goto (tgt := 5) C0 dX5_leastOf_26 (by decide) ?_
                  refine ww_cong (lo' := [_, _, .int 0]) ?_ (by rfl) rfl rfl
                  refine ww_iload_n C0 dX5_leastOf_5 rfl ?_
                  refine ww_if_lt (tgt := 29) C0 dX5_leastOf_6 (by decide) (fun h6 => ?_) (fun h6 => ?_)
                  · skip
                    replace h6 := (nI_ltE (a := 0) (b := 0) rfl rfl (by omega) (by omega)).mp h6
                    exfalso; omega
                  · skip
                    replace h6 := (not_congr (nI_ltE (a := 0) (b := 0) rfl rfl (by omega) (by omega))).mp h6
                    refine ww_iload_n C0 dX5_leastOf_9 rfl ?_
                    refine ww_iload_n C0 dX5_leastOf_10 rfl ?_
                    refine ww_callSi C0 (c_X5_has l D cI cZ cQ) kd_X5_has kw_X5_140 ks_X5_has ki_X5 hd_X5_has ⟨Nat.le_of_ble_eq_true rfl, Nat.le_of_ble_eq_true rfl, rfl, rfl⟩ (Nat.le_of_ble_eq_true rfl) dX5_leastOf_11 rfl rfl ⟨Nat.zero_le _, Nat.zero_le _⟩ ?_
                    refine ww_bif_eq (tgt := 21) C0 dX5_leastOf_14 (by decide) (fun h14 => ?_) (fun h14 => ?_)
                    · skip
                      have g0 := h14
                      refine ww_iload_n C0 dX5_leastOf_21 rfl ?_
                      refine ww_istore_n (i := 1) C0 dX5_leastOf_22 rfl (Nat.le_of_ble_eq_true rfl) rfl ?_
                      simp only [List.set_cons_zero, List.set_cons_succ]
                      refine ww_iinc (d := (-1)) C0 dX5_leastOf_23 rfl rfl rfl ?_
                      simp only [List.set_cons_zero, List.set_cons_succ]
                      refine ww_goto (tgt := 5) C0 dX5_leastOf_26 (by decide) ?_
                      refine ww_cong (lo' := [_, _, .int (-1)]) ?_ (by rfl) rfl rfl
                      refine ww_iload_n C0 dX5_leastOf_5 rfl ?_
                      refine ww_if_lt (tgt := 29) C0 dX5_leastOf_6 (by decide) (fun h6 => ?_) (fun h6 => ?_)
                      · skip
                        refine ww_iload_n C0 dX5_leastOf_29 rfl ?_
                        exact ww_iret C0 hr dX5_leastOf_30 (by simp [sFirst, *]) (by rfl)
                      · skip
                        exact absurd (by decide) h6
                    · skip
                      have g0 := h14
                      refine ww_iload_n C0 dX5_leastOf_17 rfl ?_
                      refine ww_goto (tgt := 22) C0 dX5_leastOf_18 (by decide) ?_
                      refine ww_istore_n (i := 1) C0 dX5_leastOf_22 rfl (Nat.le_of_ble_eq_true rfl) rfl ?_
                      simp only [List.set_cons_zero, List.set_cons_succ]
                      refine ww_iinc (d := (-1)) C0 dX5_leastOf_23 rfl rfl rfl ?_
                      simp only [List.set_cons_zero, List.set_cons_succ]
                      refine ww_goto (tgt := 5) C0 dX5_leastOf_26 (by decide) ?_
                      refine ww_cong (lo' := [_, _, .int (-1)]) ?_ (by rfl) rfl rfl
                      refine ww_iload_n C0 dX5_leastOf_5 rfl ?_
                      refine ww_if_lt (tgt := 29) C0 dX5_leastOf_6 (by decide) (fun h6 => ?_) (fun h6 => ?_)
                      · skip
                        refine ww_iload_n C0 dX5_leastOf_29 rfl ?_
                        exact ww_iret C0 hr dX5_leastOf_30 (by simp [sFirst, *]) (by rfl)
                      · skip
                        exact absurd (by decide) h6
                · skip
                  have g1 := h14
                  refine ww_iload_n C0 dX5_leastOf_17 rfl ?_
                  refine ww_goto (tgt := 22) C0 dX5_leastOf_18 (by decide) ?_
                  refine ww_istore_n (i := 1) C0 dX5_leastOf_22 rfl (Nat.le_of_ble_eq_true rfl) rfl ?_
                  simp only [List.set_cons_zero, List.set_cons_succ]
                  refine ww_iinc (d := (-1)) C0 dX5_leastOf_23 rfl rfl rfl ?_
                  simp only [List.set_cons_zero, List.set_cons_succ]
                  refine ww_goto (tgt := 5) C0 dX5_leastOf_26 (by decide) ?_
                  refine ww_cong (lo' := [_, _, .int 0]) ?_ (by rfl) rfl rfl
                  refine ww_iload_n C0 dX5_leastOf_5 rfl ?_
                  refine ww_if_lt (tgt := 29) C0 dX5_leastOf_6 (by decide) (fun h6 => ?_) (fun h6 => ?_)
                  · skip
                    replace h6 := (nI_ltE (a := 0) (b := 0) rfl rfl (by omega) (by omega)).mp h6
                    exfalso; omega
                  · skip
                    replace h6 := (not_congr (nI_ltE (a := 0) (b := 0) rfl rfl (by omega) (by omega))).mp h6
                    refine ww_iload_n C0 dX5_leastOf_9 rfl ?_
                    refine ww_iload_n C0 dX5_leastOf_10 rfl ?_
                    refine ww_callSi C0 (c_X5_has l D cI cZ cQ) kd_X5_has kw_X5_140 ks_X5_has ki_X5 hd_X5_has ⟨Nat.le_of_ble_eq_true rfl, Nat.le_of_ble_eq_true rfl, rfl, rfl⟩ (Nat.le_of_ble_eq_true rfl) dX5_leastOf_11 rfl rfl ⟨Nat.zero_le _, Nat.zero_le _⟩ ?_
                    refine ww_bif_eq (tgt := 21) C0 dX5_leastOf_14 (by decide) (fun h14 => ?_) (fun h14 => ?_)
                    · skip
                      have g0 := h14
                      refine ww_iload_n C0 dX5_leastOf_21 rfl ?_
                      refine ww_istore_n (i := 1) C0 dX5_leastOf_22 rfl (Nat.le_of_ble_eq_true rfl) rfl ?_
                      simp only [List.set_cons_zero, List.set_cons_succ]
                      refine ww_iinc (d := (-1)) C0 dX5_leastOf_23 rfl rfl rfl ?_
                      simp only [List.set_cons_zero, List.set_cons_succ]
                      refine ww_goto (tgt := 5) C0 dX5_leastOf_26 (by decide) ?_
                      refine ww_cong (lo' := [_, _, .int (-1)]) ?_ (by rfl) rfl rfl
                      refine ww_iload_n C0 dX5_leastOf_5 rfl ?_
                      refine ww_if_lt (tgt := 29) C0 dX5_leastOf_6 (by decide) (fun h6 => ?_) (fun h6 => ?_)
                      · skip
                        refine ww_iload_n C0 dX5_leastOf_29 rfl ?_
                        exact ww_iret C0 hr dX5_leastOf_30 (by simp [sFirst, *]) (by rfl)
                      · skip
                        exact absurd (by decide) h6
                    · skip
                      have g0 := h14
                      refine ww_iload_n C0 dX5_leastOf_17 rfl ?_
                      refine ww_goto (tgt := 22) C0 dX5_leastOf_18 (by decide) ?_
                      refine ww_istore_n (i := 1) C0 dX5_leastOf_22 rfl (Nat.le_of_ble_eq_true rfl) rfl ?_
                      simp only [List.set_cons_zero, List.set_cons_succ]
                      refine ww_iinc (d := (-1)) C0 dX5_leastOf_23 rfl rfl rfl ?_
                      simp only [List.set_cons_zero, List.set_cons_succ]
                      refine ww_goto (tgt := 5) C0 dX5_leastOf_26 (by decide) ?_
                      refine ww_cong (lo' := [_, _, .int (-1)]) ?_ (by rfl) rfl rfl
                      refine ww_iload_n C0 dX5_leastOf_5 rfl ?_
                      refine ww_if_lt (tgt := 29) C0 dX5_leastOf_6 (by decide) (fun h6 => ?_) (fun h6 => ?_)
                      · skip
                        refine ww_iload_n C0 dX5_leastOf_29 rfl ?_
                        exact ww_iret C0 hr dX5_leastOf_30 (by simp [sFirst, *]) (by rfl)
                      · skip
                        exact absurd (by decide) h6
            · skip
              have g2 := h14
              refine ww_iload_n C0 dX5_leastOf_17 rfl ?_
              refine ww_goto (tgt := 22) C0 dX5_leastOf_18 (by decide) ?_
              refine ww_istore_n (i := 1) C0 dX5_leastOf_22 rfl (Nat.le_of_ble_eq_true rfl) rfl ?_
              simp only [List.set_cons_zero, List.set_cons_succ]
              refine ww_iinc (d := (-1)) C0 dX5_leastOf_23 rfl rfl rfl ?_
              simp only [List.set_cons_zero, List.set_cons_succ]
              refine ww_goto (tgt := 5) C0 dX5_leastOf_26 (by decide) ?_
              refine ww_cong (lo' := [_, _, .int 1]) ?_ (by rfl) rfl rfl
              refine ww_iload_n C0 dX5_leastOf_5 rfl ?_
              refine ww_if_lt (tgt := 29) C0 dX5_leastOf_6 (by decide) (fun h6 => ?_) (fun h6 => ?_)
              · skip
                replace h6 := (nI_ltE (a := 1) (b := 0) rfl rfl (by omega) (by omega)).mp h6
                exfalso; omega
              · skip
                replace h6 := (not_congr (nI_ltE (a := 1) (b := 0) rfl rfl (by omega) (by omega))).mp h6
                refine ww_iload_n C0 dX5_leastOf_9 rfl ?_
                refine ww_iload_n C0 dX5_leastOf_10 rfl ?_
                refine ww_callSi C0 (c_X5_has l D cI cZ cQ) kd_X5_has kw_X5_140 ks_X5_has ki_X5 hd_X5_has ⟨Nat.le_of_ble_eq_true rfl, Nat.le_of_ble_eq_true rfl, rfl, rfl⟩ (Nat.le_of_ble_eq_true rfl) dX5_leastOf_11 rfl rfl ⟨Nat.zero_le _, Nat.zero_le _⟩ ?_
                refine ww_bif_eq (tgt := 21) C0 dX5_leastOf_14 (by decide) (fun h14 => ?_) (fun h14 => ?_)
                · skip
                  have g1 := h14
                  refine ww_iload_n C0 dX5_leastOf_21 rfl ?_
                  refine ww_istore_n (i := 1) C0 dX5_leastOf_22 rfl (Nat.le_of_ble_eq_true rfl) rfl ?_
                  simp only [List.set_cons_zero, List.set_cons_succ]
                  refine ww_iinc (d := (-1)) C0 dX5_leastOf_23 rfl rfl rfl ?_
                  simp only [List.set_cons_zero, List.set_cons_succ]
                  refine ww_goto (tgt := 5) C0 dX5_leastOf_26 (by decide) ?_
                  refine ww_cong (lo' := [_, _, .int 0]) ?_ (by rfl) rfl rfl
                  refine ww_iload_n C0 dX5_leastOf_5 rfl ?_
                  refine ww_if_lt (tgt := 29) C0 dX5_leastOf_6 (by decide) (fun h6 => ?_) (fun h6 => ?_)
                  · skip
                    replace h6 := (nI_ltE (a := 0) (b := 0) rfl rfl (by omega) (by omega)).mp h6
                    exfalso; omega
                  · skip
                    replace h6 := (not_congr (nI_ltE (a := 0) (b := 0) rfl rfl (by omega) (by omega))).mp h6
                    refine ww_iload_n C0 dX5_leastOf_9 rfl ?_
                    refine ww_iload_n C0 dX5_leastOf_10 rfl ?_
                    refine ww_callSi C0 (c_X5_has l D cI cZ cQ) kd_X5_has kw_X5_140 ks_X5_has ki_X5 hd_X5_has ⟨Nat.le_of_ble_eq_true rfl, Nat.le_of_ble_eq_true rfl, rfl, rfl⟩ (Nat.le_of_ble_eq_true rfl) dX5_leastOf_11 rfl rfl ⟨Nat.zero_le _, Nat.zero_le _⟩ ?_
                    refine ww_bif_eq (tgt := 21) C0 dX5_leastOf_14 (by decide) (fun h14 => ?_) (fun h14 => ?_)
                    · skip
                      have g0 := h14
                      refine ww_iload_n C0 dX5_leastOf_21 rfl ?_
                      refine ww_istore_n (i := 1) C0 dX5_leastOf_22 rfl (Nat.le_of_ble_eq_true rfl) rfl ?_
                      simp only [List.set_cons_zero, List.set_cons_succ]
                      refine ww_iinc (d := (-1)) C0 dX5_leastOf_23 rfl rfl rfl ?_
                      simp only [List.set_cons_zero, List.set_cons_succ]
                      refine ww_goto (tgt := 5) C0 dX5_leastOf_26 (by decide) ?_
                      refine ww_cong (lo' := [_, _, .int (-1)]) ?_ (by rfl) rfl rfl
                      refine ww_iload_n C0 dX5_leastOf_5 rfl ?_
                      refine ww_if_lt (tgt := 29) C0 dX5_leastOf_6 (by decide) (fun h6 => ?_) (fun h6 => ?_)
                      · skip
                        refine ww_iload_n C0 dX5_leastOf_29 rfl ?_
                        exact ww_iret C0 hr dX5_leastOf_30 (by simp [sFirst, *]) (by rfl)
                      · skip
                        exact absurd (by decide) h6
                    · skip
                      have g0 := h14
                      refine ww_iload_n C0 dX5_leastOf_17 rfl ?_
                      refine ww_goto (tgt := 22) C0 dX5_leastOf_18 (by decide) ?_
                      refine ww_istore_n (i := 1) C0 dX5_leastOf_22 rfl (Nat.le_of_ble_eq_true rfl) rfl ?_
                      simp only [List.set_cons_zero, List.set_cons_succ]
                      refine ww_iinc (d := (-1)) C0 dX5_leastOf_23 rfl rfl rfl ?_
                      simp only [List.set_cons_zero, List.set_cons_succ]
                      refine ww_goto (tgt := 5) C0 dX5_leastOf_26 (by decide) ?_
                      refine ww_cong (lo' := [_, _, .int (-1)]) ?_ (by rfl) rfl rfl
                      refine ww_iload_n C0 dX5_leastOf_5 rfl ?_
                      refine ww_if_lt (tgt := 29) C0 dX5_leastOf_6 (by decide) (fun h6 => ?_) (fun h6 => ?_)
                      · skip
                        refine ww_iload_n C0 dX5_leastOf_29 rfl ?_
                        exact ww_iret C0 hr dX5_leastOf_30 (by simp [sFirst, *]) (by rfl)
                      · skip
                        exact absurd (by decide) h6
                · skip
                  have g1 := h14
                  refine ww_iload_n C0 dX5_leastOf_17 rfl ?_
                  refine ww_goto (tgt := 22) C0 dX5_leastOf_18 (by decide) ?_
                  refine ww_istore_n (i := 1) C0 dX5_leastOf_22 rfl (Nat.le_of_ble_eq_true rfl) rfl ?_
                  simp only [List.set_cons_zero, List.set_cons_succ]
                  refine ww_iinc (d := (-1)) C0 dX5_leastOf_23 rfl rfl rfl ?_
                  simp only [List.set_cons_zero, List.set_cons_succ]
                  refine ww_goto (tgt := 5) C0 dX5_leastOf_26 (by decide) ?_
                  refine ww_cong (lo' := [_, _, .int 0]) ?_ (by rfl) rfl rfl
                  refine ww_iload_n C0 dX5_leastOf_5 rfl ?_
                  refine ww_if_lt (tgt := 29) C0 dX5_leastOf_6 (by decide) (fun h6 => ?_) (fun h6 => ?_)
                  · skip
                    replace h6 := (nI_ltE (a := 0) (b := 0) rfl rfl (by omega) (by omega)).mp h6
                    exfalso; omega
                  · skip
                    replace h6 := (not_congr (nI_ltE (a := 0) (b := 0) rfl rfl (by omega) (by omega))).mp h6
                    refine ww_iload_n C0 dX5_leastOf_9 rfl ?_
                    refine ww_iload_n C0 dX5_leastOf_10 rfl ?_
                    refine ww_callSi C0 (c_X5_has l D cI cZ cQ) kd_X5_has kw_X5_140 ks_X5_has ki_X5 hd_X5_has ⟨Nat.le_of_ble_eq_true rfl, Nat.le_of_ble_eq_true rfl, rfl, rfl⟩ (Nat.le_of_ble_eq_true rfl) dX5_leastOf_11 rfl rfl ⟨Nat.zero_le _, Nat.zero_le _⟩ ?_
                    refine ww_bif_eq (tgt := 21) C0 dX5_leastOf_14 (by decide) (fun h14 => ?_) (fun h14 => ?_)
                    · skip
                      have g0 := h14
                      refine ww_iload_n C0 dX5_leastOf_21 rfl ?_
                      refine ww_istore_n (i := 1) C0 dX5_leastOf_22 rfl (Nat.le_of_ble_eq_true rfl) rfl ?_
                      simp only [List.set_cons_zero, List.set_cons_succ]
                      refine ww_iinc (d := (-1)) C0 dX5_leastOf_23 rfl rfl rfl ?_
                      simp only [List.set_cons_zero, List.set_cons_succ]
                      refine ww_goto (tgt := 5) C0 dX5_leastOf_26 (by decide) ?_
                      refine ww_cong (lo' := [_, _, .int (-1)]) ?_ (by rfl) rfl rfl
                      refine ww_iload_n C0 dX5_leastOf_5 rfl ?_
                      refine ww_if_lt (tgt := 29) C0 dX5_leastOf_6 (by decide) (fun h6 => ?_) (fun h6 => ?_)
                      · skip
                        refine ww_iload_n C0 dX5_leastOf_29 rfl ?_
                        exact ww_iret C0 hr dX5_leastOf_30 (by simp [sFirst, *]) (by rfl)
                      · skip
                        exact absurd (by decide) h6
                    · skip
                      have g0 := h14
                      refine ww_iload_n C0 dX5_leastOf_17 rfl ?_
                      refine ww_goto (tgt := 22) C0 dX5_leastOf_18 (by decide) ?_
                      refine ww_istore_n (i := 1) C0 dX5_leastOf_22 rfl (Nat.le_of_ble_eq_true rfl) rfl ?_
                      simp only [List.set_cons_zero, List.set_cons_succ]
                      refine ww_iinc (d := (-1)) C0 dX5_leastOf_23 rfl rfl rfl ?_
                      simp only [List.set_cons_zero, List.set_cons_succ]
                      refine ww_goto (tgt := 5) C0 dX5_leastOf_26 (by decide) ?_
                      refine ww_cong (lo' := [_, _, .int (-1)]) ?_ (by rfl) rfl rfl
                      refine ww_iload_n C0 dX5_leastOf_5 rfl ?_
                      refine ww_if_lt (tgt := 29) C0 dX5_leastOf_6 (by decide) (fun h6 => ?_) (fun h6 => ?_)
                      · skip
                        refine ww_iload_n C0 dX5_leastOf_29 rfl ?_
                        exact ww_iret C0 hr dX5_leastOf_30 (by simp [sFirst, *]) (by rfl)
                      · skip
                        exact absurd (by decide) h6
        · skip
          have g3 := h14
          refine ww_iload_n C0 dX5_leastOf_17 rfl ?_
          refine ww_goto (tgt := 22) C0 dX5_leastOf_18 (by decide) ?_
          refine ww_istore_n (i := 1) C0 dX5_leastOf_22 rfl (Nat.le_of_ble_eq_true rfl) rfl ?_
          simp only [List.set_cons_zero, List.set_cons_succ]
          refine ww_iinc (d := (-1)) C0 dX5_leastOf_23 rfl rfl rfl ?_
          simp only [List.set_cons_zero, List.set_cons_succ]
          refine ww_goto (tgt := 5) C0 dX5_leastOf_26 (by decide) ?_
          refine ww_cong (lo' := [_, _, .int 2]) ?_ (by rfl) rfl rfl
          refine ww_iload_n C0 dX5_leastOf_5 rfl ?_
          refine ww_if_lt (tgt := 29) C0 dX5_leastOf_6 (by decide) (fun h6 => ?_) (fun h6 => ?_)
          · skip
            replace h6 := (nI_ltE (a := 2) (b := 0) rfl rfl (by omega) (by omega)).mp h6
            exfalso; omega
          · skip
            replace h6 := (not_congr (nI_ltE (a := 2) (b := 0) rfl rfl (by omega) (by omega))).mp h6
            refine ww_iload_n C0 dX5_leastOf_9 rfl ?_
            refine ww_iload_n C0 dX5_leastOf_10 rfl ?_
            refine ww_callSi C0 (c_X5_has l D cI cZ cQ) kd_X5_has kw_X5_140 ks_X5_has ki_X5 hd_X5_has ⟨Nat.le_of_ble_eq_true rfl, Nat.le_of_ble_eq_true rfl, rfl, rfl⟩ (Nat.le_of_ble_eq_true rfl) dX5_leastOf_11 rfl rfl ⟨Nat.zero_le _, Nat.zero_le _⟩ ?_
            refine ww_bif_eq (tgt := 21) C0 dX5_leastOf_14 (by decide) (fun h14 => ?_) (fun h14 => ?_)
            · skip
              have g2 := h14
              refine ww_iload_n C0 dX5_leastOf_21 rfl ?_
              refine ww_istore_n (i := 1) C0 dX5_leastOf_22 rfl (Nat.le_of_ble_eq_true rfl) rfl ?_
              simp only [List.set_cons_zero, List.set_cons_succ]
              refine ww_iinc (d := (-1)) C0 dX5_leastOf_23 rfl rfl rfl ?_
              simp only [List.set_cons_zero, List.set_cons_succ]
              refine ww_goto (tgt := 5) C0 dX5_leastOf_26 (by decide) ?_
              refine ww_cong (lo' := [_, _, .int 1]) ?_ (by rfl) rfl rfl
              refine ww_iload_n C0 dX5_leastOf_5 rfl ?_
              refine ww_if_lt (tgt := 29) C0 dX5_leastOf_6 (by decide) (fun h6 => ?_) (fun h6 => ?_)
              · skip
                replace h6 := (nI_ltE (a := 1) (b := 0) rfl rfl (by omega) (by omega)).mp h6
                exfalso; omega
              · skip
                replace h6 := (not_congr (nI_ltE (a := 1) (b := 0) rfl rfl (by omega) (by omega))).mp h6
                refine ww_iload_n C0 dX5_leastOf_9 rfl ?_
                refine ww_iload_n C0 dX5_leastOf_10 rfl ?_
                refine ww_callSi C0 (c_X5_has l D cI cZ cQ) kd_X5_has kw_X5_140 ks_X5_has ki_X5 hd_X5_has ⟨Nat.le_of_ble_eq_true rfl, Nat.le_of_ble_eq_true rfl, rfl, rfl⟩ (Nat.le_of_ble_eq_true rfl) dX5_leastOf_11 rfl rfl ⟨Nat.zero_le _, Nat.zero_le _⟩ ?_
                refine ww_bif_eq (tgt := 21) C0 dX5_leastOf_14 (by decide) (fun h14 => ?_) (fun h14 => ?_)
                · skip
                  have g1 := h14
                  refine ww_iload_n C0 dX5_leastOf_21 rfl ?_
                  refine ww_istore_n (i := 1) C0 dX5_leastOf_22 rfl (Nat.le_of_ble_eq_true rfl) rfl ?_
                  simp only [List.set_cons_zero, List.set_cons_succ]
                  refine ww_iinc (d := (-1)) C0 dX5_leastOf_23 rfl rfl rfl ?_
                  simp only [List.set_cons_zero, List.set_cons_succ]
                  refine ww_goto (tgt := 5) C0 dX5_leastOf_26 (by decide) ?_
                  refine ww_cong (lo' := [_, _, .int 0]) ?_ (by rfl) rfl rfl
                  refine ww_iload_n C0 dX5_leastOf_5 rfl ?_
                  refine ww_if_lt (tgt := 29) C0 dX5_leastOf_6 (by decide) (fun h6 => ?_) (fun h6 => ?_)
                  · skip
                    replace h6 := (nI_ltE (a := 0) (b := 0) rfl rfl (by omega) (by omega)).mp h6
                    exfalso; omega
                  · skip
                    replace h6 := (not_congr (nI_ltE (a := 0) (b := 0) rfl rfl (by omega) (by omega))).mp h6
                    refine ww_iload_n C0 dX5_leastOf_9 rfl ?_
                    refine ww_iload_n C0 dX5_leastOf_10 rfl ?_
                    refine ww_callSi C0 (c_X5_has l D cI cZ cQ) kd_X5_has kw_X5_140 ks_X5_has ki_X5 hd_X5_has ⟨Nat.le_of_ble_eq_true rfl, Nat.le_of_ble_eq_true rfl, rfl, rfl⟩ (Nat.le_of_ble_eq_true rfl) dX5_leastOf_11 rfl rfl ⟨Nat.zero_le _, Nat.zero_le _⟩ ?_
                    refine ww_bif_eq (tgt := 21) C0 dX5_leastOf_14 (by decide) (fun h14 => ?_) (fun h14 => ?_)
                    · skip
                      have g0 := h14
                      refine ww_iload_n C0 dX5_leastOf_21 rfl ?_
                      refine ww_istore_n (i := 1) C0 dX5_leastOf_22 rfl (Nat.le_of_ble_eq_true rfl) rfl ?_
                      simp only [List.set_cons_zero, List.set_cons_succ]
                      refine ww_iinc (d := (-1)) C0 dX5_leastOf_23 rfl rfl rfl ?_
                      simp only [List.set_cons_zero, List.set_cons_succ]
                      refine ww_goto (tgt := 5) C0 dX5_leastOf_26 (by decide) ?_
                      refine ww_cong (lo' := [_, _, .int (-1)]) ?_ (by rfl) rfl rfl
                      refine ww_iload_n C0 dX5_leastOf_5 rfl ?_
                      refine ww_if_lt (tgt := 29) C0 dX5_leastOf_6 (by decide) (fun h6 => ?_) (fun h6 => ?_)
                      · skip
                        refine ww_iload_n C0 dX5_leastOf_29 rfl ?_
                        exact ww_iret C0 hr dX5_leastOf_30 (by simp [sFirst, *]) (by rfl)
                      · skip
                        exact absurd (by decide) h6
                    · skip
                      have g0 := h14
                      refine ww_iload_n C0 dX5_leastOf_17 rfl ?_
                      refine ww_goto (tgt := 22) C0 dX5_leastOf_18 (by decide) ?_
                      refine ww_istore_n (i := 1) C0 dX5_leastOf_22 rfl (Nat.le_of_ble_eq_true rfl) rfl ?_
                      simp only [List.set_cons_zero, List.set_cons_succ]
                      refine ww_iinc (d := (-1)) C0 dX5_leastOf_23 rfl rfl rfl ?_
                      simp only [List.set_cons_zero, List.set_cons_succ]
                      refine ww_goto (tgt := 5) C0 dX5_leastOf_26 (by decide) ?_
                      refine ww_cong (lo' := [_, _, .int (-1)]) ?_ (by rfl) rfl rfl
                      refine ww_iload_n C0 dX5_leastOf_5 rfl ?_
                      refine ww_if_lt (tgt := 29) C0 dX5_leastOf_6 (by decide) (fun h6 => ?_) (fun h6 => ?_)
                      · skip
                        refine ww_iload_n C0 dX5_leastOf_29 rfl ?_
                        exact ww_iret C0 hr dX5_leastOf_30 (by simp [sFirst, *]) (by rfl)
                      · skip
                        exact absurd (by decide) h6
                · skip
                  have g1 := h14
                  refine ww_iload_n C0 dX5_leastOf_17 rfl ?_
                  refine ww_goto (tgt := 22) C0 dX5_leastOf_18 (by decide) ?_
                  refine ww_istore_n (i := 1) C0 dX5_leastOf_22 rfl (Nat.le_of_ble_eq_true rfl) rfl ?_
                  simp only [List.set_cons_zero, List.set_cons_succ]
                  refine ww_iinc (d := (-1)) C0 dX5_leastOf_23 rfl rfl rfl ?_
                  simp only [List.set_cons_zero, List.set_cons_succ]
                  refine ww_goto (tgt := 5) C0 dX5_leastOf_26 (by decide) ?_
                  refine ww_cong (lo' := [_, _, .int 0]) ?_ (by rfl) rfl rfl
                  refine ww_iload_n C0 dX5_leastOf_5 rfl ?_
                  refine ww_if_lt (tgt := 29) C0 dX5_leastOf_6 (by decide) (fun h6 => ?_) (fun h6 => ?_)
                  · skip
                    replace h6 := (nI_ltE (a := 0) (b := 0) rfl rfl (by omega) (by omega)).mp h6
                    exfalso; omega
                  · skip
                    replace h6 := (not_congr (nI_ltE (a := 0) (b := 0) rfl rfl (by omega) (by omega))).mp h6
                    refine ww_iload_n C0 dX5_leastOf_9 rfl ?_
                    refine ww_iload_n C0 dX5_leastOf_10 rfl ?_
                    refine ww_callSi C0 (c_X5_has l D cI cZ cQ) kd_X5_has kw_X5_140 ks_X5_has ki_X5 hd_X5_has ⟨Nat.le_of_ble_eq_true rfl, Nat.le_of_ble_eq_true rfl, rfl, rfl⟩ (Nat.le_of_ble_eq_true rfl) dX5_leastOf_11 rfl rfl ⟨Nat.zero_le _, Nat.zero_le _⟩ ?_
                    refine ww_bif_eq (tgt := 21) C0 dX5_leastOf_14 (by decide) (fun h14 => ?_) (fun h14 => ?_)
                    · skip
                      have g0 := h14
                      refine ww_iload_n C0 dX5_leastOf_21 rfl ?_
                      refine ww_istore_n (i := 1) C0 dX5_leastOf_22 rfl (Nat.le_of_ble_eq_true rfl) rfl ?_
                      simp only [List.set_cons_zero, List.set_cons_succ]
                      refine ww_iinc (d := (-1)) C0 dX5_leastOf_23 rfl rfl rfl ?_
                      simp only [List.set_cons_zero, List.set_cons_succ]
                      refine ww_goto (tgt := 5) C0 dX5_leastOf_26 (by decide) ?_
                      refine ww_cong (lo' := [_, _, .int (-1)]) ?_ (by rfl) rfl rfl
                      refine ww_iload_n C0 dX5_leastOf_5 rfl ?_
                      refine ww_if_lt (tgt := 29) C0 dX5_leastOf_6 (by decide) (fun h6 => ?_) (fun h6 => ?_)
                      · skip
                        refine ww_iload_n C0 dX5_leastOf_29 rfl ?_
                        exact ww_iret C0 hr dX5_leastOf_30 (by simp [sFirst, *]) (by rfl)
                      · skip
                        exact absurd (by decide) h6
                    · skip
                      have g0 := h14
                      refine ww_iload_n C0 dX5_leastOf_17 rfl ?_
                      refine ww_goto (tgt := 22) C0 dX5_leastOf_18 (by decide) ?_
                      refine ww_istore_n (i := 1) C0 dX5_leastOf_22 rfl (Nat.le_of_ble_eq_true rfl) rfl ?_
                      simp only [List.set_cons_zero, List.set_cons_succ]
                      refine ww_iinc (d := (-1)) C0 dX5_leastOf_23 rfl rfl rfl ?_
                      simp only [List.set_cons_zero, List.set_cons_succ]
                      refine ww_goto (tgt := 5) C0 dX5_leastOf_26 (by decide) ?_
                      refine ww_cong (lo' := [_, _, .int (-1)]) ?_ (by rfl) rfl rfl
                      refine ww_iload_n C0 dX5_leastOf_5 rfl ?_
                      refine ww_if_lt (tgt := 29) C0 dX5_leastOf_6 (by decide) (fun h6 => ?_) (fun h6 => ?_)
                      · skip
                        refine ww_iload_n C0 dX5_leastOf_29 rfl ?_
                        exact ww_iret C0 hr dX5_leastOf_30 (by simp [sFirst, *]) (by rfl)
                      · skip
                        exact absurd (by decide) h6
            · skip
              have g2 := h14
              refine ww_iload_n C0 dX5_leastOf_17 rfl ?_
              refine ww_goto (tgt := 22) C0 dX5_leastOf_18 (by decide) ?_
              refine ww_istore_n (i := 1) C0 dX5_leastOf_22 rfl (Nat.le_of_ble_eq_true rfl) rfl ?_
              simp only [List.set_cons_zero, List.set_cons_succ]
              refine ww_iinc (d := (-1)) C0 dX5_leastOf_23 rfl rfl rfl ?_
              simp only [List.set_cons_zero, List.set_cons_succ]
              refine ww_goto (tgt := 5) C0 dX5_leastOf_26 (by decide) ?_
              refine ww_cong (lo' := [_, _, .int 1]) ?_ (by rfl) rfl rfl
              refine ww_iload_n C0 dX5_leastOf_5 rfl ?_
              refine ww_if_lt (tgt := 29) C0 dX5_leastOf_6 (by decide) (fun h6 => ?_) (fun h6 => ?_)
              · skip
                replace h6 := (nI_ltE (a := 1) (b := 0) rfl rfl (by omega) (by omega)).mp h6
                exfalso; omega
              · skip
                replace h6 := (not_congr (nI_ltE (a := 1) (b := 0) rfl rfl (by omega) (by omega))).mp h6
                refine ww_iload_n C0 dX5_leastOf_9 rfl ?_
                refine ww_iload_n C0 dX5_leastOf_10 rfl ?_
                refine ww_callSi C0 (c_X5_has l D cI cZ cQ) kd_X5_has kw_X5_140 ks_X5_has ki_X5 hd_X5_has ⟨Nat.le_of_ble_eq_true rfl, Nat.le_of_ble_eq_true rfl, rfl, rfl⟩ (Nat.le_of_ble_eq_true rfl) dX5_leastOf_11 rfl rfl ⟨Nat.zero_le _, Nat.zero_le _⟩ ?_
                refine ww_bif_eq (tgt := 21) C0 dX5_leastOf_14 (by decide) (fun h14 => ?_) (fun h14 => ?_)
                · skip
                  have g1 := h14
                  refine ww_iload_n C0 dX5_leastOf_21 rfl ?_
                  refine ww_istore_n (i := 1) C0 dX5_leastOf_22 rfl (Nat.le_of_ble_eq_true rfl) rfl ?_
                  simp only [List.set_cons_zero, List.set_cons_succ]
                  refine ww_iinc (d := (-1)) C0 dX5_leastOf_23 rfl rfl rfl ?_
                  simp only [List.set_cons_zero, List.set_cons_succ]
                  refine ww_goto (tgt := 5) C0 dX5_leastOf_26 (by decide) ?_
                  refine ww_cong (lo' := [_, _, .int 0]) ?_ (by rfl) rfl rfl
                  refine ww_iload_n C0 dX5_leastOf_5 rfl ?_
                  refine ww_if_lt (tgt := 29) C0 dX5_leastOf_6 (by decide) (fun h6 => ?_) (fun h6 => ?_)
                  · skip
                    replace h6 := (nI_ltE (a := 0) (b := 0) rfl rfl (by omega) (by omega)).mp h6
                    exfalso; omega
                  · skip
                    replace h6 := (not_congr (nI_ltE (a := 0) (b := 0) rfl rfl (by omega) (by omega))).mp h6
                    refine ww_iload_n C0 dX5_leastOf_9 rfl ?_
                    refine ww_iload_n C0 dX5_leastOf_10 rfl ?_
                    refine ww_callSi C0 (c_X5_has l D cI cZ cQ) kd_X5_has kw_X5_140 ks_X5_has ki_X5 hd_X5_has ⟨Nat.le_of_ble_eq_true rfl, Nat.le_of_ble_eq_true rfl, rfl, rfl⟩ (Nat.le_of_ble_eq_true rfl) dX5_leastOf_11 rfl rfl ⟨Nat.zero_le _, Nat.zero_le _⟩ ?_
                    refine ww_bif_eq (tgt := 21) C0 dX5_leastOf_14 (by decide) (fun h14 => ?_) (fun h14 => ?_)
                    · skip
                      have g0 := h14
                      refine ww_iload_n C0 dX5_leastOf_21 rfl ?_
                      refine ww_istore_n (i := 1) C0 dX5_leastOf_22 rfl (Nat.le_of_ble_eq_true rfl) rfl ?_
                      simp only [List.set_cons_zero, List.set_cons_succ]
                      refine ww_iinc (d := (-1)) C0 dX5_leastOf_23 rfl rfl rfl ?_
                      simp only [List.set_cons_zero, List.set_cons_succ]
                      refine ww_goto (tgt := 5) C0 dX5_leastOf_26 (by decide) ?_
                      refine ww_cong (lo' := [_, _, .int (-1)]) ?_ (by rfl) rfl rfl
                      refine ww_iload_n C0 dX5_leastOf_5 rfl ?_
                      refine ww_if_lt (tgt := 29) C0 dX5_leastOf_6 (by decide) (fun h6 => ?_) (fun h6 => ?_)
                      · skip
                        refine ww_iload_n C0 dX5_leastOf_29 rfl ?_
                        exact ww_iret C0 hr dX5_leastOf_30 (by simp [sFirst, *]) (by rfl)
                      · skip
                        exact absurd (by decide) h6
                    · skip
                      have g0 := h14
                      refine ww_iload_n C0 dX5_leastOf_17 rfl ?_
                      refine ww_goto (tgt := 22) C0 dX5_leastOf_18 (by decide) ?_
                      refine ww_istore_n (i := 1) C0 dX5_leastOf_22 rfl (Nat.le_of_ble_eq_true rfl) rfl ?_
                      simp only [List.set_cons_zero, List.set_cons_succ]
                      refine ww_iinc (d := (-1)) C0 dX5_leastOf_23 rfl rfl rfl ?_
                      simp only [List.set_cons_zero, List.set_cons_succ]
                      refine ww_goto (tgt := 5) C0 dX5_leastOf_26 (by decide) ?_
                      refine ww_cong (lo' := [_, _, .int (-1)]) ?_ (by rfl) rfl rfl
                      refine ww_iload_n C0 dX5_leastOf_5 rfl ?_
                      refine ww_if_lt (tgt := 29) C0 dX5_leastOf_6 (by decide) (fun h6 => ?_) (fun h6 => ?_)
                      · skip
                        refine ww_iload_n C0 dX5_leastOf_29 rfl ?_
                        exact ww_iret C0 hr dX5_leastOf_30 (by simp [sFirst, *]) (by rfl)
                      · skip
                        exact absurd (by decide) h6
                · skip
                  have g1 := h14
                  refine ww_iload_n C0 dX5_leastOf_17 rfl ?_
                  refine ww_goto (tgt := 22) C0 dX5_leastOf_18 (by decide) ?_
                  refine ww_istore_n (i := 1) C0 dX5_leastOf_22 rfl (Nat.le_of_ble_eq_true rfl) rfl ?_
                  simp only [List.set_cons_zero, List.set_cons_succ]
                  refine ww_iinc (d := (-1)) C0 dX5_leastOf_23 rfl rfl rfl ?_
                  simp only [List.set_cons_zero, List.set_cons_succ]
                  refine ww_goto (tgt := 5) C0 dX5_leastOf_26 (by decide) ?_
                  refine ww_cong (lo' := [_, _, .int 0]) ?_ (by rfl) rfl rfl
                  refine ww_iload_n C0 dX5_leastOf_5 rfl ?_
                  refine ww_if_lt (tgt := 29) C0 dX5_leastOf_6 (by decide) (fun h6 => ?_) (fun h6 => ?_)
                  · skip
                    replace h6 := (nI_ltE (a := 0) (b := 0) rfl rfl (by omega) (by omega)).mp h6
                    exfalso; omega
                  · skip
                    replace h6 := (not_congr (nI_ltE (a := 0) (b := 0) rfl rfl (by omega) (by omega))).mp h6
                    refine ww_iload_n C0 dX5_leastOf_9 rfl ?_
                    refine ww_iload_n C0 dX5_leastOf_10 rfl ?_
                    refine ww_callSi C0 (c_X5_has l D cI cZ cQ) kd_X5_has kw_X5_140 ks_X5_has ki_X5 hd_X5_has ⟨Nat.le_of_ble_eq_true rfl, Nat.le_of_ble_eq_true rfl, rfl, rfl⟩ (Nat.le_of_ble_eq_true rfl) dX5_leastOf_11 rfl rfl ⟨Nat.zero_le _, Nat.zero_le _⟩ ?_
                    refine ww_bif_eq (tgt := 21) C0 dX5_leastOf_14 (by decide) (fun h14 => ?_) (fun h14 => ?_)
                    · skip
                      have g0 := h14
                      refine ww_iload_n C0 dX5_leastOf_21 rfl ?_
                      refine ww_istore_n (i := 1) C0 dX5_leastOf_22 rfl (Nat.le_of_ble_eq_true rfl) rfl ?_
                      simp only [List.set_cons_zero, List.set_cons_succ]
                      refine ww_iinc (d := (-1)) C0 dX5_leastOf_23 rfl rfl rfl ?_
                      simp only [List.set_cons_zero, List.set_cons_succ]
                      refine ww_goto (tgt := 5) C0 dX5_leastOf_26 (by decide) ?_
                      refine ww_cong (lo' := [_, _, .int (-1)]) ?_ (by rfl) rfl rfl
                      refine ww_iload_n C0 dX5_leastOf_5 rfl ?_
                      refine ww_if_lt (tgt := 29) C0 dX5_leastOf_6 (by decide) (fun h6 => ?_) (fun h6 => ?_)
                      · skip
                        refine ww_iload_n C0 dX5_leastOf_29 rfl ?_
                        exact ww_iret C0 hr dX5_leastOf_30 (by simp [sFirst, *]) (by rfl)
                      · skip
                        exact absurd (by decide) h6
                    · skip
                      have g0 := h14
                      refine ww_iload_n C0 dX5_leastOf_17 rfl ?_
                      refine ww_goto (tgt := 22) C0 dX5_leastOf_18 (by decide) ?_
                      refine ww_istore_n (i := 1) C0 dX5_leastOf_22 rfl (Nat.le_of_ble_eq_true rfl) rfl ?_
                      simp only [List.set_cons_zero, List.set_cons_succ]
                      refine ww_iinc (d := (-1)) C0 dX5_leastOf_23 rfl rfl rfl ?_
                      simp only [List.set_cons_zero, List.set_cons_succ]
                      refine ww_goto (tgt := 5) C0 dX5_leastOf_26 (by decide) ?_
                      refine ww_cong (lo' := [_, _, .int (-1)]) ?_ (by rfl) rfl rfl
                      refine ww_iload_n C0 dX5_leastOf_5 rfl ?_
                      refine ww_if_lt (tgt := 29) C0 dX5_leastOf_6 (by decide) (fun h6 => ?_) (fun h6 => ?_)
                      · skip
                        refine ww_iload_n C0 dX5_leastOf_29 rfl ?_
                        exact ww_iret C0 hr dX5_leastOf_30 (by simp [sFirst, *]) (by rfl)
                      · skip
                        exact absurd (by decide) h6
    · skip
      have g4 := h14
      refine ww_iload_n C0 dX5_leastOf_17 rfl ?_
      refine ww_goto (tgt := 22) C0 dX5_leastOf_18 (by decide) ?_
      refine ww_istore_n (i := 1) C0 dX5_leastOf_22 rfl (Nat.le_of_ble_eq_true rfl) rfl ?_
      simp only [List.set_cons_zero, List.set_cons_succ]
      refine ww_iinc (d := (-1)) C0 dX5_leastOf_23 rfl rfl rfl ?_
      simp only [List.set_cons_zero, List.set_cons_succ]
      refine ww_goto (tgt := 5) C0 dX5_leastOf_26 (by decide) ?_
      refine ww_cong (lo' := [_, _, .int 3]) ?_ (by rfl) rfl rfl
      refine ww_iload_n C0 dX5_leastOf_5 rfl ?_
      refine ww_if_lt (tgt := 29) C0 dX5_leastOf_6 (by decide) (fun h6 => ?_) (fun h6 => ?_)
      · skip
        replace h6 := (nI_ltE (a := 3) (b := 0) rfl rfl (by omega) (by omega)).mp h6
        exfalso; omega
      · skip
        replace h6 := (not_congr (nI_ltE (a := 3) (b := 0) rfl rfl (by omega) (by omega))).mp h6
        refine ww_iload_n C0 dX5_leastOf_9 rfl ?_
        refine ww_iload_n C0 dX5_leastOf_10 rfl ?_
        refine ww_callSi C0 (c_X5_has l D cI cZ cQ) kd_X5_has kw_X5_140 ks_X5_has ki_X5 hd_X5_has ⟨Nat.le_of_ble_eq_true rfl, Nat.le_of_ble_eq_true rfl, rfl, rfl⟩ (Nat.le_of_ble_eq_true rfl) dX5_leastOf_11 rfl rfl ⟨Nat.zero_le _, Nat.zero_le _⟩ ?_
        refine ww_bif_eq (tgt := 21) C0 dX5_leastOf_14 (by decide) (fun h14 => ?_) (fun h14 => ?_)
        · skip
          have g3 := h14
          refine ww_iload_n C0 dX5_leastOf_21 rfl ?_
          refine ww_istore_n (i := 1) C0 dX5_leastOf_22 rfl (Nat.le_of_ble_eq_true rfl) rfl ?_
          simp only [List.set_cons_zero, List.set_cons_succ]
          refine ww_iinc (d := (-1)) C0 dX5_leastOf_23 rfl rfl rfl ?_
          simp only [List.set_cons_zero, List.set_cons_succ]
          refine ww_goto (tgt := 5) C0 dX5_leastOf_26 (by decide) ?_
          refine ww_cong (lo' := [_, _, .int 2]) ?_ (by rfl) rfl rfl
          refine ww_iload_n C0 dX5_leastOf_5 rfl ?_
          refine ww_if_lt (tgt := 29) C0 dX5_leastOf_6 (by decide) (fun h6 => ?_) (fun h6 => ?_)
          · skip
            replace h6 := (nI_ltE (a := 2) (b := 0) rfl rfl (by omega) (by omega)).mp h6
            exfalso; omega
          · skip
            replace h6 := (not_congr (nI_ltE (a := 2) (b := 0) rfl rfl (by omega) (by omega))).mp h6
            refine ww_iload_n C0 dX5_leastOf_9 rfl ?_
            refine ww_iload_n C0 dX5_leastOf_10 rfl ?_
            refine ww_callSi C0 (c_X5_has l D cI cZ cQ) kd_X5_has kw_X5_140 ks_X5_has ki_X5 hd_X5_has ⟨Nat.le_of_ble_eq_true rfl, Nat.le_of_ble_eq_true rfl, rfl, rfl⟩ (Nat.le_of_ble_eq_true rfl) dX5_leastOf_11 rfl rfl ⟨Nat.zero_le _, Nat.zero_le _⟩ ?_
            refine ww_bif_eq (tgt := 21) C0 dX5_leastOf_14 (by decide) (fun h14 => ?_) (fun h14 => ?_)
            · skip
              have g2 := h14
              refine ww_iload_n C0 dX5_leastOf_21 rfl ?_
              refine ww_istore_n (i := 1) C0 dX5_leastOf_22 rfl (Nat.le_of_ble_eq_true rfl) rfl ?_
              simp only [List.set_cons_zero, List.set_cons_succ]
              refine ww_iinc (d := (-1)) C0 dX5_leastOf_23 rfl rfl rfl ?_
              simp only [List.set_cons_zero, List.set_cons_succ]
              refine ww_goto (tgt := 5) C0 dX5_leastOf_26 (by decide) ?_
              refine ww_cong (lo' := [_, _, .int 1]) ?_ (by rfl) rfl rfl
              refine ww_iload_n C0 dX5_leastOf_5 rfl ?_
              refine ww_if_lt (tgt := 29) C0 dX5_leastOf_6 (by decide) (fun h6 => ?_) (fun h6 => ?_)
              · skip
                replace h6 := (nI_ltE (a := 1) (b := 0) rfl rfl (by omega) (by omega)).mp h6
                exfalso; omega
              · skip
                replace h6 := (not_congr (nI_ltE (a := 1) (b := 0) rfl rfl (by omega) (by omega))).mp h6
                refine ww_iload_n C0 dX5_leastOf_9 rfl ?_
                refine ww_iload_n C0 dX5_leastOf_10 rfl ?_
                refine ww_callSi C0 (c_X5_has l D cI cZ cQ) kd_X5_has kw_X5_140 ks_X5_has ki_X5 hd_X5_has ⟨Nat.le_of_ble_eq_true rfl, Nat.le_of_ble_eq_true rfl, rfl, rfl⟩ (Nat.le_of_ble_eq_true rfl) dX5_leastOf_11 rfl rfl ⟨Nat.zero_le _, Nat.zero_le _⟩ ?_
                refine ww_bif_eq (tgt := 21) C0 dX5_leastOf_14 (by decide) (fun h14 => ?_) (fun h14 => ?_)
                · skip
                  have g1 := h14
                  refine ww_iload_n C0 dX5_leastOf_21 rfl ?_
                  refine ww_istore_n (i := 1) C0 dX5_leastOf_22 rfl (Nat.le_of_ble_eq_true rfl) rfl ?_
                  simp only [List.set_cons_zero, List.set_cons_succ]
                  refine ww_iinc (d := (-1)) C0 dX5_leastOf_23 rfl rfl rfl ?_
                  simp only [List.set_cons_zero, List.set_cons_succ]
                  refine ww_goto (tgt := 5) C0 dX5_leastOf_26 (by decide) ?_
                  refine ww_cong (lo' := [_, _, .int 0]) ?_ (by rfl) rfl rfl
                  refine ww_iload_n C0 dX5_leastOf_5 rfl ?_
                  refine ww_if_lt (tgt := 29) C0 dX5_leastOf_6 (by decide) (fun h6 => ?_) (fun h6 => ?_)
                  · skip
                    replace h6 := (nI_ltE (a := 0) (b := 0) rfl rfl (by omega) (by omega)).mp h6
                    exfalso; omega
                  · skip
                    replace h6 := (not_congr (nI_ltE (a := 0) (b := 0) rfl rfl (by omega) (by omega))).mp h6
                    refine ww_iload_n C0 dX5_leastOf_9 rfl ?_
                    refine ww_iload_n C0 dX5_leastOf_10 rfl ?_
                    refine ww_callSi C0 (c_X5_has l D cI cZ cQ) kd_X5_has kw_X5_140 ks_X5_has ki_X5 hd_X5_has ⟨Nat.le_of_ble_eq_true rfl, Nat.le_of_ble_eq_true rfl, rfl, rfl⟩ (Nat.le_of_ble_eq_true rfl) dX5_leastOf_11 rfl rfl ⟨Nat.zero_le _, Nat.zero_le _⟩ ?_
                    refine ww_bif_eq (tgt := 21) C0 dX5_leastOf_14 (by decide) (fun h14 => ?_) (fun h14 => ?_)
                    · skip
                      have g0 := h14
                      refine ww_iload_n C0 dX5_leastOf_21 rfl ?_
                      refine ww_istore_n (i := 1) C0 dX5_leastOf_22 rfl (Nat.le_of_ble_eq_true rfl) rfl ?_
                      simp only [List.set_cons_zero, List.set_cons_succ]
                      refine ww_iinc (d := (-1)) C0 dX5_leastOf_23 rfl rfl rfl ?_
                      simp only [List.set_cons_zero, List.set_cons_succ]
                      refine ww_goto (tgt := 5) C0 dX5_leastOf_26 (by decide) ?_
                      refine ww_cong (lo' := [_, _, .int (-1)]) ?_ (by rfl) rfl rfl
                      refine ww_iload_n C0 dX5_leastOf_5 rfl ?_
                      refine ww_if_lt (tgt := 29) C0 dX5_leastOf_6 (by decide) (fun h6 => ?_) (fun h6 => ?_)
                      · skip
                        refine ww_iload_n C0 dX5_leastOf_29 rfl ?_
                        exact ww_iret C0 hr dX5_leastOf_30 (by simp [sFirst, *]) (by rfl)
                      · skip
                        exact absurd (by decide) h6
                    · skip
                      have g0 := h14
                      refine ww_iload_n C0 dX5_leastOf_17 rfl ?_
                      refine ww_goto (tgt := 22) C0 dX5_leastOf_18 (by decide) ?_
                      refine ww_istore_n (i := 1) C0 dX5_leastOf_22 rfl (Nat.le_of_ble_eq_true rfl) rfl ?_
                      simp only [List.set_cons_zero, List.set_cons_succ]
                      refine ww_iinc (d := (-1)) C0 dX5_leastOf_23 rfl rfl rfl ?_
                      simp only [List.set_cons_zero, List.set_cons_succ]
                      refine ww_goto (tgt := 5) C0 dX5_leastOf_26 (by decide) ?_
                      refine ww_cong (lo' := [_, _, .int (-1)]) ?_ (by rfl) rfl rfl
                      refine ww_iload_n C0 dX5_leastOf_5 rfl ?_
                      refine ww_if_lt (tgt := 29) C0 dX5_leastOf_6 (by decide) (fun h6 => ?_) (fun h6 => ?_)
                      · skip
                        refine ww_iload_n C0 dX5_leastOf_29 rfl ?_
                        exact ww_iret C0 hr dX5_leastOf_30 (by simp [sFirst, *]) (by rfl)
                      · skip
                        exact absurd (by decide) h6
                · skip
                  have g1 := h14
                  refine ww_iload_n C0 dX5_leastOf_17 rfl ?_
                  refine ww_goto (tgt := 22) C0 dX5_leastOf_18 (by decide) ?_
                  refine ww_istore_n (i := 1) C0 dX5_leastOf_22 rfl (Nat.le_of_ble_eq_true rfl) rfl ?_
                  simp only [List.set_cons_zero, List.set_cons_succ]
                  refine ww_iinc (d := (-1)) C0 dX5_leastOf_23 rfl rfl rfl ?_
                  simp only [List.set_cons_zero, List.set_cons_succ]
                  refine ww_goto (tgt := 5) C0 dX5_leastOf_26 (by decide) ?_
                  refine ww_cong (lo' := [_, _, .int 0]) ?_ (by rfl) rfl rfl
                  refine ww_iload_n C0 dX5_leastOf_5 rfl ?_
                  refine ww_if_lt (tgt := 29) C0 dX5_leastOf_6 (by decide) (fun h6 => ?_) (fun h6 => ?_)
                  · skip
                    replace h6 := (nI_ltE (a := 0) (b := 0) rfl rfl (by omega) (by omega)).mp h6
                    exfalso; omega
                  · skip
                    replace h6 := (not_congr (nI_ltE (a := 0) (b := 0) rfl rfl (by omega) (by omega))).mp h6
                    refine ww_iload_n C0 dX5_leastOf_9 rfl ?_
                    refine ww_iload_n C0 dX5_leastOf_10 rfl ?_
                    refine ww_callSi C0 (c_X5_has l D cI cZ cQ) kd_X5_has kw_X5_140 ks_X5_has ki_X5 hd_X5_has ⟨Nat.le_of_ble_eq_true rfl, Nat.le_of_ble_eq_true rfl, rfl, rfl⟩ (Nat.le_of_ble_eq_true rfl) dX5_leastOf_11 rfl rfl ⟨Nat.zero_le _, Nat.zero_le _⟩ ?_
                    refine ww_bif_eq (tgt := 21) C0 dX5_leastOf_14 (by decide) (fun h14 => ?_) (fun h14 => ?_)
                    · skip
                      have g0 := h14
                      refine ww_iload_n C0 dX5_leastOf_21 rfl ?_
                      refine ww_istore_n (i := 1) C0 dX5_leastOf_22 rfl (Nat.le_of_ble_eq_true rfl) rfl ?_
                      simp only [List.set_cons_zero, List.set_cons_succ]
                      refine ww_iinc (d := (-1)) C0 dX5_leastOf_23 rfl rfl rfl ?_
                      simp only [List.set_cons_zero, List.set_cons_succ]
                      refine ww_goto (tgt := 5) C0 dX5_leastOf_26 (by decide) ?_
                      refine ww_cong (lo' := [_, _, .int (-1)]) ?_ (by rfl) rfl rfl
                      refine ww_iload_n C0 dX5_leastOf_5 rfl ?_
                      refine ww_if_lt (tgt := 29) C0 dX5_leastOf_6 (by decide) (fun h6 => ?_) (fun h6 => ?_)
                      · skip
                        refine ww_iload_n C0 dX5_leastOf_29 rfl ?_
                        exact ww_iret C0 hr dX5_leastOf_30 (by simp [sFirst, *]) (by rfl)
                      · skip
                        exact absurd (by decide) h6
                    · skip
                      have g0 := h14
                      refine ww_iload_n C0 dX5_leastOf_17 rfl ?_
                      refine ww_goto (tgt := 22) C0 dX5_leastOf_18 (by decide) ?_
                      refine ww_istore_n (i := 1) C0 dX5_leastOf_22 rfl (Nat.le_of_ble_eq_true rfl) rfl ?_
                      simp only [List.set_cons_zero, List.set_cons_succ]
                      refine ww_iinc (d := (-1)) C0 dX5_leastOf_23 rfl rfl rfl ?_
                      simp only [List.set_cons_zero, List.set_cons_succ]
                      refine ww_goto (tgt := 5) C0 dX5_leastOf_26 (by decide) ?_
                      refine ww_cong (lo' := [_, _, .int (-1)]) ?_ (by rfl) rfl rfl
                      refine ww_iload_n C0 dX5_leastOf_5 rfl ?_
                      refine ww_if_lt (tgt := 29) C0 dX5_leastOf_6 (by decide) (fun h6 => ?_) (fun h6 => ?_)
                      · skip
                        refine ww_iload_n C0 dX5_leastOf_29 rfl ?_
                        exact ww_iret C0 hr dX5_leastOf_30 (by simp [sFirst, *]) (by rfl)
                      · skip
                        exact absurd (by decide) h6
            · skip
              have g2 := h14
              refine ww_iload_n C0 dX5_leastOf_17 rfl ?_
              refine ww_goto (tgt := 22) C0 dX5_leastOf_18 (by decide) ?_
              refine ww_istore_n (i := 1) C0 dX5_leastOf_22 rfl (Nat.le_of_ble_eq_true rfl) rfl ?_
              simp only [List.set_cons_zero, List.set_cons_succ]
              refine ww_iinc (d := (-1)) C0 dX5_leastOf_23 rfl rfl rfl ?_
              simp only [List.set_cons_zero, List.set_cons_succ]
              refine ww_goto (tgt := 5) C0 dX5_leastOf_26 (by decide) ?_
              refine ww_cong (lo' := [_, _, .int 1]) ?_ (by rfl) rfl rfl
              refine ww_iload_n C0 dX5_leastOf_5 rfl ?_
              refine ww_if_lt (tgt := 29) C0 dX5_leastOf_6 (by decide) (fun h6 => ?_) (fun h6 => ?_)
              · skip
                replace h6 := (nI_ltE (a := 1) (b := 0) rfl rfl (by omega) (by omega)).mp h6
                exfalso; omega
              · skip
                replace h6 := (not_congr (nI_ltE (a := 1) (b := 0) rfl rfl (by omega) (by omega))).mp h6
                refine ww_iload_n C0 dX5_leastOf_9 rfl ?_
                refine ww_iload_n C0 dX5_leastOf_10 rfl ?_
                refine ww_callSi C0 (c_X5_has l D cI cZ cQ) kd_X5_has kw_X5_140 ks_X5_has ki_X5 hd_X5_has ⟨Nat.le_of_ble_eq_true rfl, Nat.le_of_ble_eq_true rfl, rfl, rfl⟩ (Nat.le_of_ble_eq_true rfl) dX5_leastOf_11 rfl rfl ⟨Nat.zero_le _, Nat.zero_le _⟩ ?_
                refine ww_bif_eq (tgt := 21) C0 dX5_leastOf_14 (by decide) (fun h14 => ?_) (fun h14 => ?_)
                · skip
                  have g1 := h14
                  refine ww_iload_n C0 dX5_leastOf_21 rfl ?_
                  refine ww_istore_n (i := 1) C0 dX5_leastOf_22 rfl (Nat.le_of_ble_eq_true rfl) rfl ?_
                  simp only [List.set_cons_zero, List.set_cons_succ]
                  refine ww_iinc (d := (-1)) C0 dX5_leastOf_23 rfl rfl rfl ?_
                  simp only [List.set_cons_zero, List.set_cons_succ]
                  refine ww_goto (tgt := 5) C0 dX5_leastOf_26 (by decide) ?_
                  refine ww_cong (lo' := [_, _, .int 0]) ?_ (by rfl) rfl rfl
                  refine ww_iload_n C0 dX5_leastOf_5 rfl ?_
                  refine ww_if_lt (tgt := 29) C0 dX5_leastOf_6 (by decide) (fun h6 => ?_) (fun h6 => ?_)
                  · skip
                    replace h6 := (nI_ltE (a := 0) (b := 0) rfl rfl (by omega) (by omega)).mp h6
                    exfalso; omega
                  · skip
                    replace h6 := (not_congr (nI_ltE (a := 0) (b := 0) rfl rfl (by omega) (by omega))).mp h6
                    refine ww_iload_n C0 dX5_leastOf_9 rfl ?_
                    refine ww_iload_n C0 dX5_leastOf_10 rfl ?_
                    refine ww_callSi C0 (c_X5_has l D cI cZ cQ) kd_X5_has kw_X5_140 ks_X5_has ki_X5 hd_X5_has ⟨Nat.le_of_ble_eq_true rfl, Nat.le_of_ble_eq_true rfl, rfl, rfl⟩ (Nat.le_of_ble_eq_true rfl) dX5_leastOf_11 rfl rfl ⟨Nat.zero_le _, Nat.zero_le _⟩ ?_
                    refine ww_bif_eq (tgt := 21) C0 dX5_leastOf_14 (by decide) (fun h14 => ?_) (fun h14 => ?_)
                    · skip
                      have g0 := h14
                      refine ww_iload_n C0 dX5_leastOf_21 rfl ?_
                      refine ww_istore_n (i := 1) C0 dX5_leastOf_22 rfl (Nat.le_of_ble_eq_true rfl) rfl ?_
                      simp only [List.set_cons_zero, List.set_cons_succ]
                      refine ww_iinc (d := (-1)) C0 dX5_leastOf_23 rfl rfl rfl ?_
                      simp only [List.set_cons_zero, List.set_cons_succ]
                      refine ww_goto (tgt := 5) C0 dX5_leastOf_26 (by decide) ?_
                      refine ww_cong (lo' := [_, _, .int (-1)]) ?_ (by rfl) rfl rfl
                      refine ww_iload_n C0 dX5_leastOf_5 rfl ?_
                      refine ww_if_lt (tgt := 29) C0 dX5_leastOf_6 (by decide) (fun h6 => ?_) (fun h6 => ?_)
                      · skip
                        refine ww_iload_n C0 dX5_leastOf_29 rfl ?_
                        exact ww_iret C0 hr dX5_leastOf_30 (by simp [sFirst, *]) (by rfl)
                      · skip
                        exact absurd (by decide) h6
                    · skip
                      have g0 := h14
                      refine ww_iload_n C0 dX5_leastOf_17 rfl ?_
                      refine ww_goto (tgt := 22) C0 dX5_leastOf_18 (by decide) ?_
                      refine ww_istore_n (i := 1) C0 dX5_leastOf_22 rfl (Nat.le_of_ble_eq_true rfl) rfl ?_
                      simp only [List.set_cons_zero, List.set_cons_succ]
                      refine ww_iinc (d := (-1)) C0 dX5_leastOf_23 rfl rfl rfl ?_
                      simp only [List.set_cons_zero, List.set_cons_succ]
                      refine ww_goto (tgt := 5) C0 dX5_leastOf_26 (by decide) ?_
                      refine ww_cong (lo' := [_, _, .int (-1)]) ?_ (by rfl) rfl rfl
                      refine ww_iload_n C0 dX5_leastOf_5 rfl ?_
                      refine ww_if_lt (tgt := 29) C0 dX5_leastOf_6 (by decide) (fun h6 => ?_) (fun h6 => ?_)
                      · skip
                        refine ww_iload_n C0 dX5_leastOf_29 rfl ?_
                        exact ww_iret C0 hr dX5_leastOf_30 (by simp [sFirst, *]) (by rfl)
                      · skip
                        exact absurd (by decide) h6
                · skip
                  have g1 := h14
                  refine ww_iload_n C0 dX5_leastOf_17 rfl ?_
                  refine ww_goto (tgt := 22) C0 dX5_leastOf_18 (by decide) ?_
                  refine ww_istore_n (i := 1) C0 dX5_leastOf_22 rfl (Nat.le_of_ble_eq_true rfl) rfl ?_
                  simp only [List.set_cons_zero, List.set_cons_succ]
                  refine ww_iinc (d := (-1)) C0 dX5_leastOf_23 rfl rfl rfl ?_
                  simp only [List.set_cons_zero, List.set_cons_succ]
                  refine ww_goto (tgt := 5) C0 dX5_leastOf_26 (by decide) ?_
                  refine ww_cong (lo' := [_, _, .int 0]) ?_ (by rfl) rfl rfl
                  refine ww_iload_n C0 dX5_leastOf_5 rfl ?_
                  refine ww_if_lt (tgt := 29) C0 dX5_leastOf_6 (by decide) (fun h6 => ?_) (fun h6 => ?_)
                  · skip
                    replace h6 := (nI_ltE (a := 0) (b := 0) rfl rfl (by omega) (by omega)).mp h6
                    exfalso; omega
                  · skip
                    replace h6 := (not_congr (nI_ltE (a := 0) (b := 0) rfl rfl (by omega) (by omega))).mp h6
                    refine ww_iload_n C0 dX5_leastOf_9 rfl ?_
                    refine ww_iload_n C0 dX5_leastOf_10 rfl ?_
                    refine ww_callSi C0 (c_X5_has l D cI cZ cQ) kd_X5_has kw_X5_140 ks_X5_has ki_X5 hd_X5_has ⟨Nat.le_of_ble_eq_true rfl, Nat.le_of_ble_eq_true rfl, rfl, rfl⟩ (Nat.le_of_ble_eq_true rfl) dX5_leastOf_11 rfl rfl ⟨Nat.zero_le _, Nat.zero_le _⟩ ?_
                    refine ww_bif_eq (tgt := 21) C0 dX5_leastOf_14 (by decide) (fun h14 => ?_) (fun h14 => ?_)
                    · skip
                      have g0 := h14
                      refine ww_iload_n C0 dX5_leastOf_21 rfl ?_
                      refine ww_istore_n (i := 1) C0 dX5_leastOf_22 rfl (Nat.le_of_ble_eq_true rfl) rfl ?_
                      simp only [List.set_cons_zero, List.set_cons_succ]
                      refine ww_iinc (d := (-1)) C0 dX5_leastOf_23 rfl rfl rfl ?_
                      simp only [List.set_cons_zero, List.set_cons_succ]
                      refine ww_goto (tgt := 5) C0 dX5_leastOf_26 (by decide) ?_
                      refine ww_cong (lo' := [_, _, .int (-1)]) ?_ (by rfl) rfl rfl
                      refine ww_iload_n C0 dX5_leastOf_5 rfl ?_
                      refine ww_if_lt (tgt := 29) C0 dX5_leastOf_6 (by decide) (fun h6 => ?_) (fun h6 => ?_)
                      · skip
                        refine ww_iload_n C0 dX5_leastOf_29 rfl ?_
                        exact ww_iret C0 hr dX5_leastOf_30 (by simp [sFirst, *]) (by rfl)
                      · skip
                        exact absurd (by decide) h6
                    · skip
                      have g0 := h14
                      refine ww_iload_n C0 dX5_leastOf_17 rfl ?_
                      refine ww_goto (tgt := 22) C0 dX5_leastOf_18 (by decide) ?_
                      refine ww_istore_n (i := 1) C0 dX5_leastOf_22 rfl (Nat.le_of_ble_eq_true rfl) rfl ?_
                      simp only [List.set_cons_zero, List.set_cons_succ]
                      refine ww_iinc (d := (-1)) C0 dX5_leastOf_23 rfl rfl rfl ?_
                      simp only [List.set_cons_zero, List.set_cons_succ]
                      refine ww_goto (tgt := 5) C0 dX5_leastOf_26 (by decide) ?_
                      refine ww_cong (lo' := [_, _, .int (-1)]) ?_ (by rfl) rfl rfl
                      refine ww_iload_n C0 dX5_leastOf_5 rfl ?_
                      refine ww_if_lt (tgt := 29) C0 dX5_leastOf_6 (by decide) (fun h6 => ?_) (fun h6 => ?_)
                      · skip
                        refine ww_iload_n C0 dX5_leastOf_29 rfl ?_
                        exact ww_iret C0 hr dX5_leastOf_30 (by simp [sFirst, *]) (by rfl)
                      · skip
                        exact absurd (by decide) h6
        · skip
          have g3 := h14
          refine ww_iload_n C0 dX5_leastOf_17 rfl ?_
          refine ww_goto (tgt := 22) C0 dX5_leastOf_18 (by decide) ?_
          refine ww_istore_n (i := 1) C0 dX5_leastOf_22 rfl (Nat.le_of_ble_eq_true rfl) rfl ?_
          simp only [List.set_cons_zero, List.set_cons_succ]
          refine ww_iinc (d := (-1)) C0 dX5_leastOf_23 rfl rfl rfl ?_
          simp only [List.set_cons_zero, List.set_cons_succ]
          refine ww_goto (tgt := 5) C0 dX5_leastOf_26 (by decide) ?_
          refine ww_cong (lo' := [_, _, .int 2]) ?_ (by rfl) rfl rfl
          refine ww_iload_n C0 dX5_leastOf_5 rfl ?_
          refine ww_if_lt (tgt := 29) C0 dX5_leastOf_6 (by decide) (fun h6 => ?_) (fun h6 => ?_)
          · skip
            replace h6 := (nI_ltE (a := 2) (b := 0) rfl rfl (by omega) (by omega)).mp h6
            exfalso; omega
          · skip
            replace h6 := (not_congr (nI_ltE (a := 2) (b := 0) rfl rfl (by omega) (by omega))).mp h6
            refine ww_iload_n C0 dX5_leastOf_9 rfl ?_
            refine ww_iload_n C0 dX5_leastOf_10 rfl ?_
            refine ww_callSi C0 (c_X5_has l D cI cZ cQ) kd_X5_has kw_X5_140 ks_X5_has ki_X5 hd_X5_has ⟨Nat.le_of_ble_eq_true rfl, Nat.le_of_ble_eq_true rfl, rfl, rfl⟩ (Nat.le_of_ble_eq_true rfl) dX5_leastOf_11 rfl rfl ⟨Nat.zero_le _, Nat.zero_le _⟩ ?_
            refine ww_bif_eq (tgt := 21) C0 dX5_leastOf_14 (by decide) (fun h14 => ?_) (fun h14 => ?_)
            · skip
              have g2 := h14
              refine ww_iload_n C0 dX5_leastOf_21 rfl ?_
              refine ww_istore_n (i := 1) C0 dX5_leastOf_22 rfl (Nat.le_of_ble_eq_true rfl) rfl ?_
              simp only [List.set_cons_zero, List.set_cons_succ]
              refine ww_iinc (d := (-1)) C0 dX5_leastOf_23 rfl rfl rfl ?_
              simp only [List.set_cons_zero, List.set_cons_succ]
              refine ww_goto (tgt := 5) C0 dX5_leastOf_26 (by decide) ?_
              refine ww_cong (lo' := [_, _, .int 1]) ?_ (by rfl) rfl rfl
              refine ww_iload_n C0 dX5_leastOf_5 rfl ?_
              refine ww_if_lt (tgt := 29) C0 dX5_leastOf_6 (by decide) (fun h6 => ?_) (fun h6 => ?_)
              · skip
                replace h6 := (nI_ltE (a := 1) (b := 0) rfl rfl (by omega) (by omega)).mp h6
                exfalso; omega
              · skip
                replace h6 := (not_congr (nI_ltE (a := 1) (b := 0) rfl rfl (by omega) (by omega))).mp h6
                refine ww_iload_n C0 dX5_leastOf_9 rfl ?_
                refine ww_iload_n C0 dX5_leastOf_10 rfl ?_
                refine ww_callSi C0 (c_X5_has l D cI cZ cQ) kd_X5_has kw_X5_140 ks_X5_has ki_X5 hd_X5_has ⟨Nat.le_of_ble_eq_true rfl, Nat.le_of_ble_eq_true rfl, rfl, rfl⟩ (Nat.le_of_ble_eq_true rfl) dX5_leastOf_11 rfl rfl ⟨Nat.zero_le _, Nat.zero_le _⟩ ?_
                refine ww_bif_eq (tgt := 21) C0 dX5_leastOf_14 (by decide) (fun h14 => ?_) (fun h14 => ?_)
                · skip
                  have g1 := h14
                  refine ww_iload_n C0 dX5_leastOf_21 rfl ?_
                  refine ww_istore_n (i := 1) C0 dX5_leastOf_22 rfl (Nat.le_of_ble_eq_true rfl) rfl ?_
                  simp only [List.set_cons_zero, List.set_cons_succ]
                  refine ww_iinc (d := (-1)) C0 dX5_leastOf_23 rfl rfl rfl ?_
                  simp only [List.set_cons_zero, List.set_cons_succ]
                  refine ww_goto (tgt := 5) C0 dX5_leastOf_26 (by decide) ?_
                  refine ww_cong (lo' := [_, _, .int 0]) ?_ (by rfl) rfl rfl
                  refine ww_iload_n C0 dX5_leastOf_5 rfl ?_
                  refine ww_if_lt (tgt := 29) C0 dX5_leastOf_6 (by decide) (fun h6 => ?_) (fun h6 => ?_)
                  · skip
                    replace h6 := (nI_ltE (a := 0) (b := 0) rfl rfl (by omega) (by omega)).mp h6
                    exfalso; omega
                  · skip
                    replace h6 := (not_congr (nI_ltE (a := 0) (b := 0) rfl rfl (by omega) (by omega))).mp h6
                    refine ww_iload_n C0 dX5_leastOf_9 rfl ?_
                    refine ww_iload_n C0 dX5_leastOf_10 rfl ?_
                    refine ww_callSi C0 (c_X5_has l D cI cZ cQ) kd_X5_has kw_X5_140 ks_X5_has ki_X5 hd_X5_has ⟨Nat.le_of_ble_eq_true rfl, Nat.le_of_ble_eq_true rfl, rfl, rfl⟩ (Nat.le_of_ble_eq_true rfl) dX5_leastOf_11 rfl rfl ⟨Nat.zero_le _, Nat.zero_le _⟩ ?_
                    refine ww_bif_eq (tgt := 21) C0 dX5_leastOf_14 (by decide) (fun h14 => ?_) (fun h14 => ?_)
                    · skip
                      have g0 := h14
                      refine ww_iload_n C0 dX5_leastOf_21 rfl ?_
                      refine ww_istore_n (i := 1) C0 dX5_leastOf_22 rfl (Nat.le_of_ble_eq_true rfl) rfl ?_
                      simp only [List.set_cons_zero, List.set_cons_succ]
                      refine ww_iinc (d := (-1)) C0 dX5_leastOf_23 rfl rfl rfl ?_
                      simp only [List.set_cons_zero, List.set_cons_succ]
                      refine ww_goto (tgt := 5) C0 dX5_leastOf_26 (by decide) ?_
                      refine ww_cong (lo' := [_, _, .int (-1)]) ?_ (by rfl) rfl rfl
                      refine ww_iload_n C0 dX5_leastOf_5 rfl ?_
                      refine ww_if_lt (tgt := 29) C0 dX5_leastOf_6 (by decide) (fun h6 => ?_) (fun h6 => ?_)
                      · skip
                        refine ww_iload_n C0 dX5_leastOf_29 rfl ?_
                        exact ww_iret C0 hr dX5_leastOf_30 (by simp [sFirst, *]) (by rfl)
                      · skip
                        exact absurd (by decide) h6
                    · skip
                      have g0 := h14
                      refine ww_iload_n C0 dX5_leastOf_17 rfl ?_
                      refine ww_goto (tgt := 22) C0 dX5_leastOf_18 (by decide) ?_
                      refine ww_istore_n (i := 1) C0 dX5_leastOf_22 rfl (Nat.le_of_ble_eq_true rfl) rfl ?_
                      simp only [List.set_cons_zero, List.set_cons_succ]
                      refine ww_iinc (d := (-1)) C0 dX5_leastOf_23 rfl rfl rfl ?_
                      simp only [List.set_cons_zero, List.set_cons_succ]
                      refine ww_goto (tgt := 5) C0 dX5_leastOf_26 (by decide) ?_
                      refine ww_cong (lo' := [_, _, .int (-1)]) ?_ (by rfl) rfl rfl
                      refine ww_iload_n C0 dX5_leastOf_5 rfl ?_
                      refine ww_if_lt (tgt := 29) C0 dX5_leastOf_6 (by decide) (fun h6 => ?_) (fun h6 => ?_)
                      · skip
                        refine ww_iload_n C0 dX5_leastOf_29 rfl ?_
                        exact ww_iret C0 hr dX5_leastOf_30 (by simp [sFirst, *]) (by rfl)
                      · skip
                        exact absurd (by decide) h6
                · skip
                  have g1 := h14
                  refine ww_iload_n C0 dX5_leastOf_17 rfl ?_
                  refine ww_goto (tgt := 22) C0 dX5_leastOf_18 (by decide) ?_
                  refine ww_istore_n (i := 1) C0 dX5_leastOf_22 rfl (Nat.le_of_ble_eq_true rfl) rfl ?_
                  simp only [List.set_cons_zero, List.set_cons_succ]
                  refine ww_iinc (d := (-1)) C0 dX5_leastOf_23 rfl rfl rfl ?_
                  simp only [List.set_cons_zero, List.set_cons_succ]
                  refine ww_goto (tgt := 5) C0 dX5_leastOf_26 (by decide) ?_
                  refine ww_cong (lo' := [_, _, .int 0]) ?_ (by rfl) rfl rfl
                  refine ww_iload_n C0 dX5_leastOf_5 rfl ?_
                  refine ww_if_lt (tgt := 29) C0 dX5_leastOf_6 (by decide) (fun h6 => ?_) (fun h6 => ?_)
                  · skip
                    replace h6 := (nI_ltE (a := 0) (b := 0) rfl rfl (by omega) (by omega)).mp h6
                    exfalso; omega
                  · skip
                    replace h6 := (not_congr (nI_ltE (a := 0) (b := 0) rfl rfl (by omega) (by omega))).mp h6
                    refine ww_iload_n C0 dX5_leastOf_9 rfl ?_
                    refine ww_iload_n C0 dX5_leastOf_10 rfl ?_
                    refine ww_callSi C0 (c_X5_has l D cI cZ cQ) kd_X5_has kw_X5_140 ks_X5_has ki_X5 hd_X5_has ⟨Nat.le_of_ble_eq_true rfl, Nat.le_of_ble_eq_true rfl, rfl, rfl⟩ (Nat.le_of_ble_eq_true rfl) dX5_leastOf_11 rfl rfl ⟨Nat.zero_le _, Nat.zero_le _⟩ ?_
                    refine ww_bif_eq (tgt := 21) C0 dX5_leastOf_14 (by decide) (fun h14 => ?_) (fun h14 => ?_)
                    · skip
                      have g0 := h14
                      refine ww_iload_n C0 dX5_leastOf_21 rfl ?_
                      refine ww_istore_n (i := 1) C0 dX5_leastOf_22 rfl (Nat.le_of_ble_eq_true rfl) rfl ?_
                      simp only [List.set_cons_zero, List.set_cons_succ]
                      refine ww_iinc (d := (-1)) C0 dX5_leastOf_23 rfl rfl rfl ?_
                      simp only [List.set_cons_zero, List.set_cons_succ]
                      refine ww_goto (tgt := 5) C0 dX5_leastOf_26 (by decide) ?_
                      refine ww_cong (lo' := [_, _, .int (-1)]) ?_ (by rfl) rfl rfl
                      refine ww_iload_n C0 dX5_leastOf_5 rfl ?_
                      refine ww_if_lt (tgt := 29) C0 dX5_leastOf_6 (by decide) (fun h6 => ?_) (fun h6 => ?_)
                      · skip
                        refine ww_iload_n C0 dX5_leastOf_29 rfl ?_
                        exact ww_iret C0 hr dX5_leastOf_30 (by simp [sFirst, *]) (by rfl)
                      · skip
                        exact absurd (by decide) h6
                    · skip
                      have g0 := h14
                      refine ww_iload_n C0 dX5_leastOf_17 rfl ?_
                      refine ww_goto (tgt := 22) C0 dX5_leastOf_18 (by decide) ?_
                      refine ww_istore_n (i := 1) C0 dX5_leastOf_22 rfl (Nat.le_of_ble_eq_true rfl) rfl ?_
                      simp only [List.set_cons_zero, List.set_cons_succ]
                      refine ww_iinc (d := (-1)) C0 dX5_leastOf_23 rfl rfl rfl ?_
                      simp only [List.set_cons_zero, List.set_cons_succ]
                      refine ww_goto (tgt := 5) C0 dX5_leastOf_26 (by decide) ?_
                      refine ww_cong (lo' := [_, _, .int (-1)]) ?_ (by rfl) rfl rfl
                      refine ww_iload_n C0 dX5_leastOf_5 rfl ?_
                      refine ww_if_lt (tgt := 29) C0 dX5_leastOf_6 (by decide) (fun h6 => ?_) (fun h6 => ?_)
                      · skip
                        refine ww_iload_n C0 dX5_leastOf_29 rfl ?_
                        exact ww_iret C0 hr dX5_leastOf_30 (by simp [sFirst, *]) (by rfl)
                      · skip
                        exact absurd (by decide) h6
            · skip
              have g2 := h14
              refine ww_iload_n C0 dX5_leastOf_17 rfl ?_
              refine ww_goto (tgt := 22) C0 dX5_leastOf_18 (by decide) ?_
              refine ww_istore_n (i := 1) C0 dX5_leastOf_22 rfl (Nat.le_of_ble_eq_true rfl) rfl ?_
              simp only [List.set_cons_zero, List.set_cons_succ]
              refine ww_iinc (d := (-1)) C0 dX5_leastOf_23 rfl rfl rfl ?_
              simp only [List.set_cons_zero, List.set_cons_succ]
              refine ww_goto (tgt := 5) C0 dX5_leastOf_26 (by decide) ?_
              refine ww_cong (lo' := [_, _, .int 1]) ?_ (by rfl) rfl rfl
              refine ww_iload_n C0 dX5_leastOf_5 rfl ?_
              refine ww_if_lt (tgt := 29) C0 dX5_leastOf_6 (by decide) (fun h6 => ?_) (fun h6 => ?_)
              · skip
                replace h6 := (nI_ltE (a := 1) (b := 0) rfl rfl (by omega) (by omega)).mp h6
                exfalso; omega
              · skip
                replace h6 := (not_congr (nI_ltE (a := 1) (b := 0) rfl rfl (by omega) (by omega))).mp h6
                refine ww_iload_n C0 dX5_leastOf_9 rfl ?_
                refine ww_iload_n C0 dX5_leastOf_10 rfl ?_
                refine ww_callSi C0 (c_X5_has l D cI cZ cQ) kd_X5_has kw_X5_140 ks_X5_has ki_X5 hd_X5_has ⟨Nat.le_of_ble_eq_true rfl, Nat.le_of_ble_eq_true rfl, rfl, rfl⟩ (Nat.le_of_ble_eq_true rfl) dX5_leastOf_11 rfl rfl ⟨Nat.zero_le _, Nat.zero_le _⟩ ?_
                refine ww_bif_eq (tgt := 21) C0 dX5_leastOf_14 (by decide) (fun h14 => ?_) (fun h14 => ?_)
                · skip
                  have g1 := h14
                  refine ww_iload_n C0 dX5_leastOf_21 rfl ?_
                  refine ww_istore_n (i := 1) C0 dX5_leastOf_22 rfl (Nat.le_of_ble_eq_true rfl) rfl ?_
                  simp only [List.set_cons_zero, List.set_cons_succ]
                  refine ww_iinc (d := (-1)) C0 dX5_leastOf_23 rfl rfl rfl ?_
                  simp only [List.set_cons_zero, List.set_cons_succ]
                  refine ww_goto (tgt := 5) C0 dX5_leastOf_26 (by decide) ?_
                  refine ww_cong (lo' := [_, _, .int 0]) ?_ (by rfl) rfl rfl
                  refine ww_iload_n C0 dX5_leastOf_5 rfl ?_
                  refine ww_if_lt (tgt := 29) C0 dX5_leastOf_6 (by decide) (fun h6 => ?_) (fun h6 => ?_)
                  · skip
                    replace h6 := (nI_ltE (a := 0) (b := 0) rfl rfl (by omega) (by omega)).mp h6
                    exfalso; omega
                  · skip
                    replace h6 := (not_congr (nI_ltE (a := 0) (b := 0) rfl rfl (by omega) (by omega))).mp h6
                    refine ww_iload_n C0 dX5_leastOf_9 rfl ?_
                    refine ww_iload_n C0 dX5_leastOf_10 rfl ?_
                    refine ww_callSi C0 (c_X5_has l D cI cZ cQ) kd_X5_has kw_X5_140 ks_X5_has ki_X5 hd_X5_has ⟨Nat.le_of_ble_eq_true rfl, Nat.le_of_ble_eq_true rfl, rfl, rfl⟩ (Nat.le_of_ble_eq_true rfl) dX5_leastOf_11 rfl rfl ⟨Nat.zero_le _, Nat.zero_le _⟩ ?_
                    refine ww_bif_eq (tgt := 21) C0 dX5_leastOf_14 (by decide) (fun h14 => ?_) (fun h14 => ?_)
                    · skip
                      have g0 := h14
                      refine ww_iload_n C0 dX5_leastOf_21 rfl ?_
                      refine ww_istore_n (i := 1) C0 dX5_leastOf_22 rfl (Nat.le_of_ble_eq_true rfl) rfl ?_
                      simp only [List.set_cons_zero, List.set_cons_succ]
                      refine ww_iinc (d := (-1)) C0 dX5_leastOf_23 rfl rfl rfl ?_
                      simp only [List.set_cons_zero, List.set_cons_succ]
                      refine ww_goto (tgt := 5) C0 dX5_leastOf_26 (by decide) ?_
                      refine ww_cong (lo' := [_, _, .int (-1)]) ?_ (by rfl) rfl rfl
                      refine ww_iload_n C0 dX5_leastOf_5 rfl ?_
                      refine ww_if_lt (tgt := 29) C0 dX5_leastOf_6 (by decide) (fun h6 => ?_) (fun h6 => ?_)
                      · skip
                        refine ww_iload_n C0 dX5_leastOf_29 rfl ?_
                        exact ww_iret C0 hr dX5_leastOf_30 (by simp [sFirst, *]) (by rfl)
                      · skip
                        exact absurd (by decide) h6
                    · skip
                      have g0 := h14
                      refine ww_iload_n C0 dX5_leastOf_17 rfl ?_
                      refine ww_goto (tgt := 22) C0 dX5_leastOf_18 (by decide) ?_
                      refine ww_istore_n (i := 1) C0 dX5_leastOf_22 rfl (Nat.le_of_ble_eq_true rfl) rfl ?_
                      simp only [List.set_cons_zero, List.set_cons_succ]
                      refine ww_iinc (d := (-1)) C0 dX5_leastOf_23 rfl rfl rfl ?_
                      simp only [List.set_cons_zero, List.set_cons_succ]
                      refine ww_goto (tgt := 5) C0 dX5_leastOf_26 (by decide) ?_
                      refine ww_cong (lo' := [_, _, .int (-1)]) ?_ (by rfl) rfl rfl
                      refine ww_iload_n C0 dX5_leastOf_5 rfl ?_
                      refine ww_if_lt (tgt := 29) C0 dX5_leastOf_6 (by decide) (fun h6 => ?_) (fun h6 => ?_)
                      · skip
                        refine ww_iload_n C0 dX5_leastOf_29 rfl ?_
                        exact ww_iret C0 hr dX5_leastOf_30 (by simp [sFirst, *]) (by rfl)
                      · skip
                        exact absurd (by decide) h6
                · skip
                  have g1 := h14
                  refine ww_iload_n C0 dX5_leastOf_17 rfl ?_
                  refine ww_goto (tgt := 22) C0 dX5_leastOf_18 (by decide) ?_
                  refine ww_istore_n (i := 1) C0 dX5_leastOf_22 rfl (Nat.le_of_ble_eq_true rfl) rfl ?_
                  simp only [List.set_cons_zero, List.set_cons_succ]
                  refine ww_iinc (d := (-1)) C0 dX5_leastOf_23 rfl rfl rfl ?_
                  simp only [List.set_cons_zero, List.set_cons_succ]
                  refine ww_goto (tgt := 5) C0 dX5_leastOf_26 (by decide) ?_
                  refine ww_cong (lo' := [_, _, .int 0]) ?_ (by rfl) rfl rfl
                  refine ww_iload_n C0 dX5_leastOf_5 rfl ?_
                  refine ww_if_lt (tgt := 29) C0 dX5_leastOf_6 (by decide) (fun h6 => ?_) (fun h6 => ?_)
                  · skip
                    replace h6 := (nI_ltE (a := 0) (b := 0) rfl rfl (by omega) (by omega)).mp h6
                    exfalso; omega
                  · skip
                    replace h6 := (not_congr (nI_ltE (a := 0) (b := 0) rfl rfl (by omega) (by omega))).mp h6
                    refine ww_iload_n C0 dX5_leastOf_9 rfl ?_
                    refine ww_iload_n C0 dX5_leastOf_10 rfl ?_
                    refine ww_callSi C0 (c_X5_has l D cI cZ cQ) kd_X5_has kw_X5_140 ks_X5_has ki_X5 hd_X5_has ⟨Nat.le_of_ble_eq_true rfl, Nat.le_of_ble_eq_true rfl, rfl, rfl⟩ (Nat.le_of_ble_eq_true rfl) dX5_leastOf_11 rfl rfl ⟨Nat.zero_le _, Nat.zero_le _⟩ ?_
                    refine ww_bif_eq (tgt := 21) C0 dX5_leastOf_14 (by decide) (fun h14 => ?_) (fun h14 => ?_)
                    · skip
                      have g0 := h14
                      refine ww_iload_n C0 dX5_leastOf_21 rfl ?_
                      refine ww_istore_n (i := 1) C0 dX5_leastOf_22 rfl (Nat.le_of_ble_eq_true rfl) rfl ?_
                      simp only [List.set_cons_zero, List.set_cons_succ]
                      refine ww_iinc (d := (-1)) C0 dX5_leastOf_23 rfl rfl rfl ?_
                      simp only [List.set_cons_zero, List.set_cons_succ]
                      refine ww_goto (tgt := 5) C0 dX5_leastOf_26 (by decide) ?_
                      refine ww_cong (lo' := [_, _, .int (-1)]) ?_ (by rfl) rfl rfl
                      refine ww_iload_n C0 dX5_leastOf_5 rfl ?_
                      refine ww_if_lt (tgt := 29) C0 dX5_leastOf_6 (by decide) (fun h6 => ?_) (fun h6 => ?_)
                      · skip
                        refine ww_iload_n C0 dX5_leastOf_29 rfl ?_
                        exact ww_iret C0 hr dX5_leastOf_30 (by simp [sFirst, *]) (by rfl)
                      · skip
                        exact absurd (by decide) h6
                    · skip
                      have g0 := h14
                      refine ww_iload_n C0 dX5_leastOf_17 rfl ?_
                      refine ww_goto (tgt := 22) C0 dX5_leastOf_18 (by decide) ?_
                      refine ww_istore_n (i := 1) C0 dX5_leastOf_22 rfl (Nat.le_of_ble_eq_true rfl) rfl ?_
                      simp only [List.set_cons_zero, List.set_cons_succ]
                      refine ww_iinc (d := (-1)) C0 dX5_leastOf_23 rfl rfl rfl ?_
                      simp only [List.set_cons_zero, List.set_cons_succ]
                      refine ww_goto (tgt := 5) C0 dX5_leastOf_26 (by decide) ?_
                      refine ww_cong (lo' := [_, _, .int (-1)]) ?_ (by rfl) rfl rfl
                      refine ww_iload_n C0 dX5_leastOf_5 rfl ?_
                      refine ww_if_lt (tgt := 29) C0 dX5_leastOf_6 (by decide) (fun h6 => ?_) (fun h6 => ?_)
                      · skip
                        refine ww_iload_n C0 dX5_leastOf_29 rfl ?_
                        exact ww_iret C0 hr dX5_leastOf_30 (by simp [sFirst, *]) (by rfl)
                      · skip
                        exact absurd (by decide) h6

set_option maxHeartbeats 4000000 in
set_option maxRecDepth 100000 in
theorem c_X5_go (l : Launch) (D : va_G) (cI cZ cQ : ClassId) {aM amt amc amw ams amv amr amx amp amq amb amk amz am0 am1 am2 am3 am4 amh amo aP : Nat} {tn nm na ac gn : Nat} {th vpl vrm vra x0 x1 x2 x3 : Int32} {sd : Int64} {fmt fmc fmw fms fmv fP : Nat → Int32} {rest : va_W} {k : Nat} {wa : Int32} (hnm : nm ≤ 5) (hna : na ≤ 5) (hk : k < nm) : MV l D [(cI, .int), (cZ, .boolean), (cQ, .object "MulesRemember$State")] yX5_go cX5_go 4 ({ frames := 3, cells := 0, slots := 0, locals := 76 } : Room) [.ref aM, .ref aP, .int (nI k), .int wa] ((aM, .inr (5, [.int th, .ref amt, .int (nI tn), .int vpl, .int (nI nm), .ref amc, .int (nI na), .ref amw, .ref ams, .ref amv, .int vrm, .ref amr, .int vra, .ref amx, .ref amp, .ref amq, .ref amb, .int (nI ac), .ref amk, .ref amz, .int (nI gn), .ref am0, .ref am1, .ref am2, .ref am3, .ref am4, .long sd, .ref amh, .int x0, .int x1, .int x2, .int x3, .ref amo])) :: (amt, .inl (cI, 48, .inl (fmt))) :: (amc, .inl (cI, 5, .inl (fmc))) :: (amw, .inl (cI, 5, .inl (fmw))) :: (ams, .inl (cI, 5, .inl (fms))) :: (amv, .inl (cI, 5, .inl (fmv))) :: (aP, .inl (cI, 17, .inl (fP))) :: rest) ((aM, .inr (5, [.int th, .ref amt, .int (nI tn), .int vpl, .int (nI nm), .ref amc, .int (nI na), .ref amw, .ref ams, .ref amv, .int vrm, .ref amr, .int vra, .ref amx, .ref amp, .ref amq, .ref amb, .int (nI ac), .ref amk, .ref amz, .int (nI gn), .ref am0, .ref am1, .ref am2, .ref am3, .ref am4, .long sd, .ref amh, .int x0, .int x1, .int x2, .int x3, .ref amo])) :: (amt, .inl (cI, 48, .inl (fmt))) :: (amc, .inl (cI, 5, .inl (fmc))) :: (amw, .inl (cI, 5, .inl (fmw))) :: (ams, .inl (cI, 5, .inl (fms))) :: (amv, .inl (cI, 5, .inl (fmv))) :: (aP, .inl (cI, 17, .inl (mGoF fP k (mTo (fP k) wa) (mFF nm na fmw fms fmv fmc fP k wa)))) :: rest) := by
  refine MV.of [.ref aM, .ref aP, .int (nI k), .int wa] (by decide) (Nat.le_of_ble_eq_true rfl) rfl ?_
  intro p e s m below meth c A C0 hr
  have hk5 : k < 5 := by omega
  refine ww_aload_n C0 dX5_go_0 rfl ?_
  refine ww_bipush (v := (16)) C0 dX5_go_1 rfl ?_
  refine ww_dup2 C0 dX5_go_3 rfl rfl ?_
  refine ww_iald_n (j := 16) C0 6 0 rfl rfl rfl (by omega) (by decide) dX5_go_4 ?_
  refine ww_aload_n C0 dX5_go_5 rfl ?_
  refine ww_aload_n C0 dX5_go_6 rfl ?_
  refine ww_iload_n C0 dX5_go_7 rfl ?_
  refine ww_iload_n C0 dX5_go_8 rfl ?_
  refine ww_callVi C0 (qc := (RX5, TX5, 33)) 0 5 (c_X5_forbids l D cI cZ cQ hnm hna hk) kd_X5_forbids kw_X5_130 km_X5_forbids kl_X5_forbids ki_X5 hd_X5_forbids rfl rfl ⟨Nat.le_of_ble_eq_true rfl, Nat.le_of_ble_eq_true rfl, rfl, rfl⟩ (Nat.le_of_ble_eq_true rfl) dX5_go_9 rfl rfl rfl ⟨Nat.zero_le _, Nat.zero_le _⟩ ?_
  refine ww_callSi C0 (c_X5_many l D cI cZ cQ) kd_X5_many kw_X5_161 ks_X5_many ki_X5 hd_X5_many ⟨Nat.le_of_ble_eq_true rfl, Nat.le_of_ble_eq_true rfl, rfl, rfl⟩ (Nat.le_of_ble_eq_true rfl) dX5_go_12 rfl rfl ⟨Nat.zero_le _, Nat.zero_le _⟩ ?_
  refine ww_iadd C0 dX5_go_15 ?_
  refine ww_iast_n (j := 16) C0 6 0 rfl rfl rfl (by omega) (by decide) dX5_go_16 ?_
  simp only [List.set_cons_zero, List.set_cons_succ]
  refine ww_aload_n C0 dX5_go_17 rfl ?_
  refine ww_iconst (v := (0)) C0 dX5_go_18 rfl ?_
  refine ww_iload_n C0 dX5_go_19 rfl ?_
  refine ww_iadd C0 dX5_go_20 ?_
  refine ww_aload_n C0 dX5_go_21 rfl ?_
  refine ww_iload_n C0 dX5_go_22 rfl ?_
  refine ww_iload_n C0 dX5_go_23 rfl ?_
  refine ww_callSi C0 (c_X5_toStone l D cI cZ cQ hk5) kd_X5_toStone kw_X5_119 ks_X5_toStone ki_X5 hd_X5_toStone ⟨Nat.le_of_ble_eq_true rfl, Nat.le_of_ble_eq_true rfl, rfl, rfl⟩ (Nat.le_of_ble_eq_true rfl) dX5_go_24 rfl rfl ⟨Nat.zero_le _, Nat.zero_le _⟩ ?_
  refine ww_iast_n (j := k) C0 6 0 rfl rfl (by rw [show (0 : Int32) + nI k = nI (0 + k) from nI_add 0 k, Nat.zero_add]) (by omega) (by decide) dX5_go_27 ?_
  simp only [List.set_cons_zero, List.set_cons_succ]
  refine ww_aload_n C0 dX5_go_28 rfl ?_
  refine ww_bipush (v := (15)) C0 dX5_go_29 rfl ?_
  refine ww_dup2 C0 dX5_go_31 rfl rfl ?_
  refine ww_iald_n (j := 15) C0 6 0 rfl rfl rfl (by omega) (by decide) dX5_go_32 ?_
  refine ww_iconst (v := (1)) C0 dX5_go_33 rfl ?_
  refine ww_iadd C0 dX5_go_34 ?_
  refine ww_iast_n (j := 15) C0 6 0 rfl rfl rfl (by omega) (by decide) dX5_go_35 ?_
  simp only [List.set_cons_zero, List.set_cons_succ]
  refine ww_arr 6 (mGoF fP k (mTo (fP k) wa) (mFF nm na fmw fms fmv fmc fP k wa)) rfl (fun j hj => by
    simp only [upd, mGoF, show ¬ k = 16 by omega, show ¬ k = 15 by omega, show ¬ (16 : Nat) = 15 by decide, show ¬ (15 : Nat) = 16 by decide, show ¬ (15 : Nat) = k by omega, if_false, if_true]
    repeat' split
    all_goals first | rfl | omega) ?_
  simp only [List.set_cons_zero, List.set_cons_succ]
  exact ww_vret C0 hr dX5_go_36 (by rfl)

set_option maxHeartbeats 4000000 in
set_option maxRecDepth 100000 in
theorem c_X5_note (l : Launch) (D : va_G) (cI cZ cQ : ClassId) {aM amt amc amw ams amv amr amx amp amq amb amk amz am0 am1 am2 am3 am4 amh amo : Nat} {tn nm na ac gn : Nat} {th vpl vrm vra x0 x1 x2 x3 : Int32} {sd : Int64} {fmt fmc fmw fms fmv fmp fmq fmr fmx fmb : Nat → Int32} {rest : va_W} (hac : ac ≤ 14) : MV l D [(cI, .int), (cZ, .boolean), (cQ, .object "MulesRemember$State")] yX5_note cX5_note 2 ({ frames := 0, cells := 0, slots := 0, locals := 0 } : Room) [.ref aM] ((aM, .inr (5, [.int th, .ref amt, .int (nI tn), .int vpl, .int (nI nm), .ref amc, .int (nI na), .ref amw, .ref ams, .ref amv, .int vrm, .ref amr, .int vra, .ref amx, .ref amp, .ref amq, .ref amb, .int (nI ac), .ref amk, .ref amz, .int (nI gn), .ref am0, .ref am1, .ref am2, .ref am3, .ref am4, .long sd, .ref amh, .int x0, .int x1, .int x2, .int x3, .ref amo])) :: (amt, .inl (cI, 48, .inl (fmt))) :: (amc, .inl (cI, 5, .inl (fmc))) :: (amw, .inl (cI, 5, .inl (fmw))) :: (ams, .inl (cI, 5, .inl (fms))) :: (amv, .inl (cI, 5, .inl (fmv))) :: (amp, .inl (cI, 17, .inl (fmp))) :: (amq, .inl (cI, 17, .inl (fmq))) :: (amr, .inl (cI, 15, .inl (fmr))) :: (amx, .inl (cI, 15, .inl (fmx))) :: (amb, .inl (cI, 238, .inl (fmb))) :: rest) ((aM, .inr (5, [.int th, .ref amt, .int (nI tn), .int vpl, .int (nI nm), .ref amc, .int (nI na), .ref amw, .ref ams, .ref amv, .int vrm, .ref amr, .int vra, .ref amx, .ref amp, .ref amq, .ref amb, .int (nI (ra ac)), .ref amk, .ref amz, .int (nI gn), .ref am0, .ref am1, .ref am2, .ref am3, .ref am4, .long sd, .ref amh, .int x0, .int x1, .int x2, .int x3, .ref amo])) :: (amt, .inl (cI, 48, .inl (fmt))) :: (amc, .inl (cI, 5, .inl (fmc))) :: (amw, .inl (cI, 5, .inl (fmw))) :: (ams, .inl (cI, 5, .inl (fms))) :: (amv, .inl (cI, 5, .inl (fmv))) :: (amp, .inl (cI, 17, .inl (fmp))) :: (amq, .inl (cI, 17, .inl (fmq))) :: (amr, .inl (cI, 15, .inl (fmr))) :: (amx, .inl (cI, 15, .inl (fmx))) :: (amb, .inl (cI, 238, .inl (mBook fmb fmp ac))) :: rest) := by
  refine MV.of [.ref aM, .null] (by decide) (Nat.le_of_ble_eq_true rfl) rfl ?_
  intro p e s m below meth c A C0 hr
  refine ww_aload_n C0 dX5_note_0 rfl ?_
  refine ww_get C0 (ci := 5) (C := RX5) (T := TX5) (N := 33) ku_X5 0 rfl rfl 17 (by decide) kw_X5_114 rfl dX5_note_1 ?_
  refine ww_bipush (v := (14)) C0 dX5_note_4 rfl ?_
  refine ww_icmp_ne (tgt := 49) C0 dX5_note_6 (by decide) (fun h6 => ?_) (fun h6 => ?_)
  · skip
    replace h6 := (not_congr (nI_eqE (a := ac) (b := 14) rfl rfl (by omega) (by omega))).mp h6
    refine ww_iconst (v := (0)) C0 dX5_note_49 rfl ?_
    refine ww_istore_n (i := 1) C0 dX5_note_50 rfl (Nat.le_of_ble_eq_true rfl) rfl ?_
    simp only [List.set_cons_zero, List.set_cons_succ]
    refine ww_back (ww_loop (pc := 51) 0 (17) (by omega) (fun j => [_, .int (nI j)]) (fun j => (aM, .inr (5, [.int th, .ref amt, .int (nI tn), .int vpl, .int (nI nm), .ref amc, .int (nI na), .ref amw, .ref ams, .ref amv, .int vrm, .ref amr, .int vra, .ref amx, .ref amp, .ref amq, .ref amb, .int (nI ac), .ref amk, .ref amz, .int (nI gn), .ref am0, .ref am1, .ref am2, .ref am3, .ref am4, .long sd, .ref amh, .int x0, .int x1, .int x2, .int x3, .ref amo])) :: (amt, .inl (cI, 48, .inl (fmt))) :: (amc, .inl (cI, 5, .inl (fmc))) :: (amw, .inl (cI, 5, .inl (fmw))) :: (ams, .inl (cI, 5, .inl (fms))) :: (amv, .inl (cI, 5, .inl (fmv))) :: (amp, .inl (cI, 17, .inl (fmp))) :: (amq, .inl (cI, 17, .inl (fmq))) :: (amr, .inl (cI, 15, .inl (fmr))) :: (amx, .inl (cI, 15, .inl (fmx))) :: (amb, .inl (cI, 238, .inl (ptF fmb fmp (17 * ac) j))) :: rest) ?_ ?_) ⟨Or.inr rfl, Or.inr rfl, trivial⟩ (by simp only [ptF_0])
    · intro j hj0 hj ih
      refine ww_iload_n C0 dX5_note_51 rfl ?_
      refine ww_bipush (v := (17)) C0 dX5_note_52 rfl ?_
      refine ww_icmp_ge (tgt := 83) C0 dX5_note_54 (by decide) (fun h54 => ?_) (fun h54 => ?_)
      · skip
        replace h54 := (nI_leE (a := 17) (b := j) rfl rfl (by omega) (by omega)).mp h54
        exfalso; omega
      · skip
        replace h54 := (not_congr (nI_leE (a := 17) (b := j) rfl rfl (by omega) (by omega))).mp h54
        refine ww_aload_n C0 dX5_note_57 rfl ?_
        refine ww_get C0 (ci := 5) (C := RX5) (T := TX5) (N := 33) ku_X5 0 rfl rfl 16 (by decide) kw_X5_37 rfl dX5_note_58 ?_
        refine ww_bipush (v := (17)) C0 dX5_note_61 rfl ?_
        refine ww_aload_n C0 dX5_note_63 rfl ?_
        refine ww_get C0 (ci := 5) (C := RX5) (T := TX5) (N := 33) ku_X5 0 rfl rfl 17 (by decide) kw_X5_114 rfl dX5_note_64 ?_
        refine ww_imul C0 dX5_note_67 ?_
        refine ww_iload_n C0 dX5_note_68 rfl ?_
        refine ww_iadd C0 dX5_note_69 ?_
        refine ww_aload_n C0 dX5_note_70 rfl ?_
        refine ww_get C0 (ci := 5) (C := RX5) (T := TX5) (N := 33) ku_X5 0 rfl rfl 14 (by decide) kw_X5_31 rfl dX5_note_71 ?_
        refine ww_iload_n C0 dX5_note_74 rfl ?_
        refine ww_iald_n (j := j) C0 6 0 rfl rfl rfl (by omega) (by decide) dX5_note_75 ?_
        refine ww_iast_n (j := (17 * ac) + j) C0 10 0 rfl rfl (nI_addE (a := 17 * ac) (b := j) (nI_mulE (a := 17) (b := ac) rfl rfl) rfl) (by omega) (by decide) dX5_note_76 ?_
        simp only [List.set_cons_zero, List.set_cons_succ]
        refine ww_iinc (d := 1) C0 dX5_note_77 rfl rfl rfl ?_
        simp only [List.set_cons_zero, List.set_cons_succ]
        refine ww_goto (tgt := 51) C0 dX5_note_80 (by decide) ?_
        exact ww_back ih ⟨Or.inr rfl, Or.inr (congrArg Value.int (nI_addE (a := j) (b := 1) rfl rfl).symm), trivial⟩ (by simp only [ptF_s])
    · skip
      refine ww_iload_n C0 dX5_note_51 rfl ?_
      refine ww_bipush (v := (17)) C0 dX5_note_52 rfl ?_
      refine ww_icmp_ge (tgt := 83) C0 dX5_note_54 (by decide) (fun h54 => ?_) (fun h54 => ?_)
      · skip
        replace h54 := (nI_leE (a := 17) (b := 17) rfl rfl (by omega) (by omega)).mp h54
        refine ww_aload_n C0 dX5_note_83 rfl ?_
        refine ww_dup C0 dX5_note_84 rfl ?_
        refine ww_get C0 (ci := 5) (C := RX5) (T := TX5) (N := 33) ku_X5 0 rfl rfl 17 (by decide) kw_X5_114 rfl dX5_note_85 ?_
        refine ww_iconst (v := (1)) C0 dX5_note_88 rfl ?_
        refine ww_iadd C0 dX5_note_89 ?_
        refine ww_put C0 (ci := 5) (C := RX5) (T := TX5) (N := 33) ku_X5 0 rfl rfl 17 (by decide) tyX5 tyX5_ok nmX5 kw_X5_114 rfl (ty := .int) (by decide +kernel) rfl rfl (Nat.le_of_ble_eq_true rfl) dX5_note_90 ?_
        simp only [List.set_cons_zero, List.set_cons_succ]
        exact ww_vret C0 hr dX5_note_93 (by simp [ra, mBook, nI_1, *])
      · skip
        replace h54 := (not_congr (nI_leE (a := 17) (b := 17) rfl rfl (by omega) (by omega))).mp h54
        exfalso; omega
  · skip
    replace h6 := (nI_eqE (a := ac) (b := 14) rfl rfl (by omega) (by omega)).mp h6
    refine ww_iconst (v := (0)) C0 dX5_note_9 rfl ?_
    refine ww_istore_n (i := 1) C0 dX5_note_10 rfl (Nat.le_of_ble_eq_true rfl) rfl ?_
    simp only [List.set_cons_zero, List.set_cons_succ]
    refine ww_back (ww_loop (pc := 11) 0 (221) (by omega) (fun j => [_, .int (nI j)]) (fun j => (aM, .inr (5, [.int th, .ref amt, .int (nI tn), .int vpl, .int (nI nm), .ref amc, .int (nI na), .ref amw, .ref ams, .ref amv, .int vrm, .ref amr, .int vra, .ref amx, .ref amp, .ref amq, .ref amb, .int (nI ac), .ref amk, .ref amz, .int (nI gn), .ref am0, .ref am1, .ref am2, .ref am3, .ref am4, .long sd, .ref amh, .int x0, .int x1, .int x2, .int x3, .ref amo])) :: (amt, .inl (cI, 48, .inl (fmt))) :: (amc, .inl (cI, 5, .inl (fmc))) :: (amw, .inl (cI, 5, .inl (fmw))) :: (ams, .inl (cI, 5, .inl (fms))) :: (amv, .inl (cI, 5, .inl (fmv))) :: (amp, .inl (cI, 17, .inl (fmp))) :: (amq, .inl (cI, 17, .inl (fmq))) :: (amr, .inl (cI, 15, .inl (fmr))) :: (amx, .inl (cI, 15, .inl (fmx))) :: (amb, .inl (cI, 238, .inl (shF fmb j))) :: rest) ?_ ?_) ⟨Or.inr rfl, Or.inr rfl, trivial⟩ (by simp only [shF_0])
    · intro j hj0 hj ih
      refine ww_iload_n C0 dX5_note_11 rfl ?_
      refine ww_sipush (v := (221)) C0 dX5_note_12 rfl ?_
      refine ww_icmp_ge (tgt := 39) C0 dX5_note_15 (by decide) (fun h15 => ?_) (fun h15 => ?_)
      · skip
        replace h15 := (nI_leE (a := 221) (b := j) rfl rfl (by omega) (by omega)).mp h15
        exfalso; omega
      · skip
        replace h15 := (not_congr (nI_leE (a := 221) (b := j) rfl rfl (by omega) (by omega))).mp h15
        refine ww_aload_n C0 dX5_note_18 rfl ?_
        refine ww_get C0 (ci := 5) (C := RX5) (T := TX5) (N := 33) ku_X5 0 rfl rfl 16 (by decide) kw_X5_37 rfl dX5_note_19 ?_
        refine ww_iload_n C0 dX5_note_22 rfl ?_
        refine ww_aload_n C0 dX5_note_23 rfl ?_
        refine ww_get C0 (ci := 5) (C := RX5) (T := TX5) (N := 33) ku_X5 0 rfl rfl 16 (by decide) kw_X5_37 rfl dX5_note_24 ?_
        refine ww_iload_n C0 dX5_note_27 rfl ?_
        refine ww_bipush (v := (17)) C0 dX5_note_28 rfl ?_
        refine ww_iadd C0 dX5_note_30 ?_
        refine ww_iald_n (j := j + 17) C0 10 0 rfl rfl (nI_addE (a := j) (b := 17) rfl rfl) (by omega) (by decide) dX5_note_31 ?_
        refine ww_iast_n (j := j) C0 10 0 rfl rfl rfl (by omega) (by decide) dX5_note_32 ?_
        simp only [List.set_cons_zero, List.set_cons_succ]
        refine ww_iinc (d := 1) C0 dX5_note_33 rfl rfl rfl ?_
        simp only [List.set_cons_zero, List.set_cons_succ]
        refine ww_goto (tgt := 11) C0 dX5_note_36 (by decide) ?_
        exact ww_back ih ⟨Or.inr rfl, Or.inr (congrArg Value.int (nI_addE (a := j) (b := 1) rfl rfl).symm), trivial⟩ (by simp only [shF_s])
    · skip
      refine ww_iload_n C0 dX5_note_11 rfl ?_
      refine ww_sipush (v := (221)) C0 dX5_note_12 rfl ?_
      refine ww_icmp_ge (tgt := 39) C0 dX5_note_15 (by decide) (fun h15 => ?_) (fun h15 => ?_)
      · skip
        replace h15 := (nI_leE (a := 221) (b := 221) rfl rfl (by omega) (by omega)).mp h15
        refine ww_aload_n C0 dX5_note_39 rfl ?_
        refine ww_dup C0 dX5_note_40 rfl ?_
        refine ww_get C0 (ci := 5) (C := RX5) (T := TX5) (N := 33) ku_X5 0 rfl rfl 17 (by decide) kw_X5_114 rfl dX5_note_41 ?_
        refine ww_iconst (v := (1)) C0 dX5_note_44 rfl ?_
        refine ww_isub C0 dX5_note_45 ?_
        refine ww_put C0 (ci := 5) (C := RX5) (T := TX5) (N := 33) ku_X5 0 rfl rfl 17 (by decide) tyX5 tyX5_ok nmX5 kw_X5_114 rfl (ty := .int) (by decide +kernel) rfl rfl (Nat.le_of_ble_eq_true rfl) dX5_note_46 ?_
        simp only [List.set_cons_zero, List.set_cons_succ]
        refine ww_iconst (v := (0)) C0 dX5_note_49 rfl ?_
        refine ww_istore_n (i := 1) C0 dX5_note_50 rfl (Nat.le_of_ble_eq_true rfl) rfl ?_
        simp only [List.set_cons_zero, List.set_cons_succ]
        refine ww_back (ww_loop (pc := 51) 0 (17) (by omega) (fun j => [_, .int (nI j)]) (fun j => (aM, .inr (5, [.int th, .ref amt, .int (nI tn), .int vpl, .int (nI nm), .ref amc, .int (nI na), .ref amw, .ref ams, .ref amv, .int vrm, .ref amr, .int vra, .ref amx, .ref amp, .ref amq, .ref amb, .int (nI ac - 1), .ref amk, .ref amz, .int (nI gn), .ref am0, .ref am1, .ref am2, .ref am3, .ref am4, .long sd, .ref amh, .int x0, .int x1, .int x2, .int x3, .ref amo])) :: (amt, .inl (cI, 48, .inl (fmt))) :: (amc, .inl (cI, 5, .inl (fmc))) :: (amw, .inl (cI, 5, .inl (fmw))) :: (ams, .inl (cI, 5, .inl (fms))) :: (amv, .inl (cI, 5, .inl (fmv))) :: (amp, .inl (cI, 17, .inl (fmp))) :: (amq, .inl (cI, 17, .inl (fmq))) :: (amr, .inl (cI, 15, .inl (fmr))) :: (amx, .inl (cI, 15, .inl (fmx))) :: (amb, .inl (cI, 238, .inl (ptF (shF fmb 221) fmp (17 * (ac - 1)) j))) :: rest) ?_ ?_) ⟨Or.inr rfl, Or.inr rfl, trivial⟩ (by simp only [ptF_0])
        · intro j hj0 hj ih
          refine ww_iload_n C0 dX5_note_51 rfl ?_
          refine ww_bipush (v := (17)) C0 dX5_note_52 rfl ?_
          refine ww_icmp_ge (tgt := 83) C0 dX5_note_54 (by decide) (fun h54 => ?_) (fun h54 => ?_)
          · skip
            replace h54 := (nI_leE (a := 17) (b := j) rfl rfl (by omega) (by omega)).mp h54
            exfalso; omega
          · skip
            replace h54 := (not_congr (nI_leE (a := 17) (b := j) rfl rfl (by omega) (by omega))).mp h54
            refine ww_aload_n C0 dX5_note_57 rfl ?_
            refine ww_get C0 (ci := 5) (C := RX5) (T := TX5) (N := 33) ku_X5 0 rfl rfl 16 (by decide) kw_X5_37 rfl dX5_note_58 ?_
            refine ww_bipush (v := (17)) C0 dX5_note_61 rfl ?_
            refine ww_aload_n C0 dX5_note_63 rfl ?_
            refine ww_get C0 (ci := 5) (C := RX5) (T := TX5) (N := 33) ku_X5 0 rfl rfl 17 (by decide) kw_X5_114 rfl dX5_note_64 ?_
            refine ww_imul C0 dX5_note_67 ?_
            refine ww_iload_n C0 dX5_note_68 rfl ?_
            refine ww_iadd C0 dX5_note_69 ?_
            refine ww_aload_n C0 dX5_note_70 rfl ?_
            refine ww_get C0 (ci := 5) (C := RX5) (T := TX5) (N := 33) ku_X5 0 rfl rfl 14 (by decide) kw_X5_31 rfl dX5_note_71 ?_
            refine ww_iload_n C0 dX5_note_74 rfl ?_
            refine ww_iald_n (j := j) C0 6 0 rfl rfl rfl (by omega) (by decide) dX5_note_75 ?_
            refine ww_iast_n (j := (17 * (ac - 1)) + j) C0 10 0 rfl rfl (nI_addE (a := 17 * (ac - 1)) (b := j) (nI_mulE (a := 17) (b := ac - 1) rfl (nI_subE (a := ac) (b := 1) rfl rfl (by omega))) rfl) (by omega) (by decide) dX5_note_76 ?_
            simp only [List.set_cons_zero, List.set_cons_succ]
            refine ww_iinc (d := 1) C0 dX5_note_77 rfl rfl rfl ?_
            simp only [List.set_cons_zero, List.set_cons_succ]
            refine ww_goto (tgt := 51) C0 dX5_note_80 (by decide) ?_
            exact ww_back ih ⟨Or.inr rfl, Or.inr (congrArg Value.int (nI_addE (a := j) (b := 1) rfl rfl).symm), trivial⟩ (by simp only [ptF_s])
        · skip
          refine ww_iload_n C0 dX5_note_51 rfl ?_
          refine ww_bipush (v := (17)) C0 dX5_note_52 rfl ?_
          refine ww_icmp_ge (tgt := 83) C0 dX5_note_54 (by decide) (fun h54 => ?_) (fun h54 => ?_)
          · skip
            replace h54 := (nI_leE (a := 17) (b := 17) rfl rfl (by omega) (by omega)).mp h54
            refine ww_aload_n C0 dX5_note_83 rfl ?_
            refine ww_dup C0 dX5_note_84 rfl ?_
            refine ww_get C0 (ci := 5) (C := RX5) (T := TX5) (N := 33) ku_X5 0 rfl rfl 17 (by decide) kw_X5_114 rfl dX5_note_85 ?_
            refine ww_iconst (v := (1)) C0 dX5_note_88 rfl ?_
            refine ww_iadd C0 dX5_note_89 ?_
            refine ww_put C0 (ci := 5) (C := RX5) (T := TX5) (N := 33) ku_X5 0 rfl rfl 17 (by decide) tyX5 tyX5_ok nmX5 kw_X5_114 rfl (ty := .int) (by decide +kernel) rfl rfl (Nat.le_of_ble_eq_true rfl) dX5_note_90 ?_
            simp only [List.set_cons_zero, List.set_cons_succ]
            exact ww_vret C0 hr dX5_note_93 (by (subst h6; rfl))
          · skip
            replace h54 := (not_congr (nI_leE (a := 17) (b := 17) rfl rfl (by omega) (by omega))).mp h54
            exfalso; omega
      · skip
        replace h15 := (not_congr (nI_leE (a := 221) (b := 221) rfl rfl (by omega) (by omega))).mp h15
        exfalso; omega

set_option maxHeartbeats 4000000 in
set_option maxRecDepth 100000 in
theorem c_X5_begin (l : Launch) (D : va_G) (cI cZ cQ : ClassId) {aM amt amc amw ams amv amr amx amp amq amb amk amz am0 am1 am2 am3 am4 amh amo : Nat} {tn nm na ac gn : Nat} {th vpl vrm vra x0 x1 x2 x3 : Int32} {sd : Int64} {fmt fmc fmw fms fmv fmp fmq : Nat → Int32} {rest : va_W} : MV l D [(cI, .int), (cZ, .boolean), (cQ, .object "MulesRemember$State")] yX5_begin cX5_begin 2 ({ frames := 0, cells := 0, slots := 0, locals := 0 } : Room) [.ref aM] ((aM, .inr (5, [.int th, .ref amt, .int (nI tn), .int vpl, .int (nI nm), .ref amc, .int (nI na), .ref amw, .ref ams, .ref amv, .int vrm, .ref amr, .int vra, .ref amx, .ref amp, .ref amq, .ref amb, .int (nI ac), .ref amk, .ref amz, .int (nI gn), .ref am0, .ref am1, .ref am2, .ref am3, .ref am4, .long sd, .ref amh, .int x0, .int x1, .int x2, .int x3, .ref amo])) :: (amt, .inl (cI, 48, .inl (fmt))) :: (amc, .inl (cI, 5, .inl (fmc))) :: (amw, .inl (cI, 5, .inl (fmw))) :: (ams, .inl (cI, 5, .inl (fms))) :: (amv, .inl (cI, 5, .inl (fmv))) :: (amp, .inl (cI, 17, .inl (fmp))) :: (amq, .inl (cI, 17, .inl (fmq))) :: rest) ((aM, .inr (5, [.int th, .ref amt, .int (nI tn), .int vpl, .int (nI nm), .ref amc, .int (nI na), .ref amw, .ref ams, .ref amv, .int vrm, .ref amr, .int vra, .ref amx, .ref amp, .ref amq, .ref amb, .int (nI ac), .ref amk, .ref amz, .int (nI gn), .ref am0, .ref am1, .ref am2, .ref am3, .ref am4, .long sd, .ref amh, .int x0, .int x1, .int x2, .int x3, .ref amo])) :: (amt, .inl (cI, 48, .inl (fmt))) :: (amc, .inl (cI, 5, .inl (fmc))) :: (amw, .inl (cI, 5, .inl (fmw))) :: (ams, .inl (cI, 5, .inl (fms))) :: (amv, .inl (cI, 5, .inl (fmv))) :: (amp, .inl (cI, 17, .inl (fmp))) :: (amq, .inl (cI, 17, .inl (fmp))) :: rest) := by
  refine MV.of [.ref aM, .null] (by decide) (Nat.le_of_ble_eq_true rfl) rfl ?_
  intro p e s m below meth c A C0 hr
  refine ww_iconst (v := (0)) C0 dX5_begin_0 rfl ?_
  refine ww_istore_n (i := 1) C0 dX5_begin_1 rfl (Nat.le_of_ble_eq_true rfl) rfl ?_
  simp only [List.set_cons_zero, List.set_cons_succ]
  refine ww_back (ww_loop (pc := 2) 0 (17) (by omega) (fun j => [_, .int (nI j)]) (fun j => (aM, .inr (5, [.int th, .ref amt, .int (nI tn), .int vpl, .int (nI nm), .ref amc, .int (nI na), .ref amw, .ref ams, .ref amv, .int vrm, .ref amr, .int vra, .ref amx, .ref amp, .ref amq, .ref amb, .int (nI ac), .ref amk, .ref amz, .int (nI gn), .ref am0, .ref am1, .ref am2, .ref am3, .ref am4, .long sd, .ref amh, .int x0, .int x1, .int x2, .int x3, .ref amo])) :: (amt, .inl (cI, 48, .inl (fmt))) :: (amc, .inl (cI, 5, .inl (fmc))) :: (amw, .inl (cI, 5, .inl (fmw))) :: (ams, .inl (cI, 5, .inl (fms))) :: (amv, .inl (cI, 5, .inl (fmv))) :: (amp, .inl (cI, 17, .inl (fmp))) :: (amq, .inl (cI, 17, .inl (cpyF fmp fmq j))) :: rest) ?_ ?_) ⟨Or.inr rfl, Or.inr rfl, trivial⟩ (by simp only [cpyF_0])
  · intro j hj0 hj ih
    refine ww_iload_n C0 dX5_begin_2 rfl ?_
    refine ww_bipush (v := (17)) C0 dX5_begin_3 rfl ?_
    refine ww_icmp_ge (tgt := 26) C0 dX5_begin_5 (by decide) (fun h5 => ?_) (fun h5 => ?_)
    · skip
      replace h5 := (nI_leE (a := 17) (b := j) rfl rfl (by omega) (by omega)).mp h5
      exfalso; omega
    · skip
      replace h5 := (not_congr (nI_leE (a := 17) (b := j) rfl rfl (by omega) (by omega))).mp h5
      refine ww_aload_n C0 dX5_begin_8 rfl ?_
      refine ww_get C0 (ci := 5) (C := RX5) (T := TX5) (N := 33) ku_X5 0 rfl rfl 15 (by decide) kw_X5_34 rfl dX5_begin_9 ?_
      refine ww_iload_n C0 dX5_begin_12 rfl ?_
      refine ww_aload_n C0 dX5_begin_13 rfl ?_
      refine ww_get C0 (ci := 5) (C := RX5) (T := TX5) (N := 33) ku_X5 0 rfl rfl 14 (by decide) kw_X5_31 rfl dX5_begin_14 ?_
      refine ww_iload_n C0 dX5_begin_17 rfl ?_
      refine ww_iald_n (j := j) C0 6 0 rfl rfl rfl (by omega) (by decide) dX5_begin_18 ?_
      refine ww_iast_n (j := j) C0 7 0 rfl rfl rfl (by omega) (by decide) dX5_begin_19 ?_
      simp only [List.set_cons_zero, List.set_cons_succ]
      refine ww_iinc (d := 1) C0 dX5_begin_20 rfl rfl rfl ?_
      simp only [List.set_cons_zero, List.set_cons_succ]
      refine ww_goto (tgt := 2) C0 dX5_begin_23 (by decide) ?_
      exact ww_back ih ⟨Or.inr rfl, Or.inr (congrArg Value.int (nI_addE (a := j) (b := 1) rfl rfl).symm), trivial⟩ (by simp only [cpyF_s])
  · skip
    refine ww_iload_n C0 dX5_begin_2 rfl ?_
    refine ww_bipush (v := (17)) C0 dX5_begin_3 rfl ?_
    refine ww_icmp_ge (tgt := 26) C0 dX5_begin_5 (by decide) (fun h5 => ?_) (fun h5 => ?_)
    · skip
      replace h5 := (nI_leE (a := 17) (b := 17) rfl rfl (by omega) (by omega)).mp h5
      refine ww_arr 7 fmp rfl (fun k hk => by simp [cpyF, hk]) ?_
      simp only [List.set_cons_zero, List.set_cons_succ]
      exact ww_vret C0 hr dX5_begin_26 (by rfl)
    · skip
      replace h5 := (not_congr (nI_leE (a := 17) (b := 17) rfl rfl (by omega) (by omega))).mp h5
      exfalso; omega
