set_option maxHeartbeats 4000000 in
set_option maxRecDepth 100000 in
theorem c_X4_write_b (l : Launch) (D : va_G) (cI cZ cQ : ClassId) {aX aT aL aC aN aY aA aO aK aG aW : Nat} {nm fa ac : Nat} {sd : Int64} {rest : va_W} {x : Int32} (hx : isN 256 x = false) : MI l D [(cI, .int), (cZ, .boolean), (cQ, .object "MulesRemember$State")] yX4_write cX4_write 2 .int ({ frames := 1, cells := 0, slots := 0, locals := 21 } : Room) [.ref aX, .int x] ((aX, .inr (4, [.ref aT, .ref aL, .ref aC, .int (nI nm), .ref aN, .ref aY, .ref aA, .int (nI fa), .int (nI ac), .ref aO, .ref aK, .ref aG, .ref aW, .long sd])) :: rest) (-2) ((aX, .inr (4, [.ref aT, .ref aL, .ref aC, .int (nI nm), .ref aN, .ref aY, .ref aA, .int (nI fa), .int (nI ac), .ref aO, .ref aK, .ref aG, .ref aW, .long sd])) :: rest) := by
  refine MI.of [.ref aX, .int x] (by decide) (Nat.le_of_ble_eq_true rfl) rfl ?_
  intro p e s m below meth c A C0 hr
  refine ww_iload_n C0 dX4_write_0 rfl ?_
  refine ww_if_lt (tgt := 11) C0 dX4_write_1 (by decide) (fun h1 => ?_) (fun h1 => ?_)
  · skip
    refine ww_bipush (v := (-2)) C0 dX4_write_11 rfl ?_
    exact ww_iret C0 hr dX4_write_13 (by rfl) (by rfl)
  · skip
    refine ww_iload_n C0 dX4_write_4 rfl ?_
    refine ww_sipush (v := (255)) C0 dX4_write_5 rfl ?_
    refine ww_icmp_le (tgt := 14) C0 dX4_write_8 (by decide) (fun h8 => ?_) (fun h8 => ?_)
    · skip
      exact absurd (isN_yesLe (n := 255) (by decide) h1 h8) (by rw [hx]; decide)
    · skip
      refine ww_bipush (v := (-2)) C0 dX4_write_11 rfl ?_
      exact ww_iret C0 hr dX4_write_13 (by rfl) (by rfl)

set_option maxHeartbeats 4000000 in
set_option maxRecDepth 100000 in
theorem c_X4_write (l : Launch) (D : va_G) (cI cZ cQ : ClassId) {aX aT aL aC aN aY aA aO aK aG aW al0 al1 al2 an0 an1 an2 ay0 ay1 ay2 at0 : Nat} {nm fa ac na tn : Nat} {hN bN hY bY : Int32} {sd : Int64} {fl0 fl1 fl2 fC fn0 fn1 fn2 fy0 fy1 fy2 ft0 : Nat → Int32} {rest : va_W} {x : Nat} (hx : x < 256) (ht : tn < 48) : MI l D [(cI, .int), (cZ, .boolean), (cQ, .object "MulesRemember$State")] yX4_write cX4_write 2 .int ({ frames := 1, cells := 0, slots := 0, locals := 21 } : Room) [.ref aX, .int (nI x)] ((aX, .inr (4, [.ref aT, .ref aL, .ref aC, .int (nI nm), .ref aN, .ref aY, .ref aA, .int (nI fa), .int (nI ac), .ref aO, .ref aK, .ref aG, .ref aW, .long sd])) :: (aL, .inr (0, [.ref al0, .ref al1, .ref al2, .int (nI na)])) :: (al0, .inl (cI, 5, .inl (fl0))) :: (al1, .inl (cI, 5, .inl (fl1))) :: (al2, .inl (cI, 5, .inl (fl2))) :: (aC, .inl (cI, 5, .inl (fC))) :: (aN, .inr (2, [.ref an0, .ref an1, .ref an2, .int hN, .int bN])) :: (an0, .inl (cI, 5, .inl (fn0))) :: (an1, .inl (cI, 5, .inl (fn1))) :: (an2, .inl (cI, 5, .inl (fn2))) :: (aY, .inr (2, [.ref ay0, .ref ay1, .ref ay2, .int hY, .int bY])) :: (ay0, .inl (cI, 5, .inl (fy0))) :: (ay1, .inl (cI, 5, .inl (fy1))) :: (ay2, .inl (cI, 5, .inl (fy2))) :: (aT, .inr (3, [.ref at0, .int (nI tn)])) :: (at0, .inl (cI, 48, .inl (ft0))) :: rest) (nI (tn + 1)) ((aX, .inr (4, [.ref aT, .ref aL, .ref aC, .int (nI nm), .ref aN, .ref aY, .ref aA, .int (nI fa), .int (nI ac), .ref aO, .ref aK, .ref aG, .ref aW, .long sd])) :: (aL, .inr (0, [.ref al0, .ref al1, .ref al2, .int (nI na)])) :: (al0, .inl (cI, 5, .inl (fl0))) :: (al1, .inl (cI, 5, .inl (fl1))) :: (al2, .inl (cI, 5, .inl (fl2))) :: (aC, .inl (cI, 5, .inl (fC))) :: (aN, .inr (2, [.ref an0, .ref an1, .ref an2, .int hN, .int bN])) :: (an0, .inl (cI, 5, .inl (fn0))) :: (an1, .inl (cI, 5, .inl (fn1))) :: (an2, .inl (cI, 5, .inl (fn2))) :: (aY, .inr (2, [.ref ay0, .ref ay1, .ref ay2, .int hY, .int bY])) :: (ay0, .inl (cI, 5, .inl (fy0))) :: (ay1, .inl (cI, 5, .inl (fy1))) :: (ay2, .inl (cI, 5, .inl (fy2))) :: (aT, .inr (3, [.ref at0, .int (nI (tn + 1))])) :: (at0, .inl (cI, 48, .inl (upd ft0 tn (nI x)))) :: rest) := by
  refine MI.of [.ref aX, .int (nI x)] (by decide) (Nat.le_of_ble_eq_true rfl) rfl ?_
  intro p e s m below meth c A C0 hr
  refine ww_iload_n C0 dX4_write_0 rfl ?_
  refine ww_if_lt (tgt := 11) C0 dX4_write_1 (by decide) (fun h1 => ?_) (fun h1 => ?_)
  · skip
    replace h1 := (nI_ltE (a := x) (b := 0) rfl rfl (by omega) (by omega)).mp h1
    exfalso; omega
  · skip
    replace h1 := (not_congr (nI_ltE (a := x) (b := 0) rfl rfl (by omega) (by omega))).mp h1
    refine ww_iload_n C0 dX4_write_4 rfl ?_
    refine ww_sipush (v := (255)) C0 dX4_write_5 rfl ?_
    refine ww_icmp_le (tgt := 14) C0 dX4_write_8 (by decide) (fun h8 => ?_) (fun h8 => ?_)
    · skip
      replace h8 := (nI_leE (a := x) (b := 255) rfl rfl (by omega) (by omega)).mp h8
      refine ww_aload_n C0 dX4_write_14 rfl ?_
      refine ww_get C0 (ci := 4) (C := RX4) (T := TX4) (N := 14) ku_X4 0 rfl rfl 0 (by decide) kw_X4_10 rfl dX4_write_15 ?_
      refine ww_iload_n C0 dX4_write_18 rfl ?_
      refine ww_perm (perm_mv 0 14 2 _) ?_
      simp only [List.drop_succ_cons, List.drop_zero, List.take_succ_cons, List.take_zero, List.cons_append, List.nil_append, Nat.reduceAdd]
      refine ww_callVNi C0 (qc := (RX3, TX3, 2)) 0 3 (c_X3_put l D cI cZ cQ ht) kd_X3_put kn_X4_72 km_X3_put kl_X3_put ki_X3 hd_X3_put rfl rfl ⟨Nat.le_of_ble_eq_true rfl, Nat.le_of_ble_eq_true rfl, rfl, rfl⟩ (Nat.le_of_ble_eq_true rfl) dX4_write_19 rfl rfl rfl ⟨Nat.zero_le _, Nat.zero_le _⟩ ?_
      refine ww_perm (perm_mv 0 2 14 _) ?_
      simp only [List.drop_succ_cons, List.drop_zero, List.take_succ_cons, List.take_zero, List.cons_append, List.nil_append, Nat.reduceAdd]
      refine ww_bif_eq (tgt := 35) C0 dX4_write_22 (by decide) (fun h22 => ?_) (fun h22 => ?_)
      · skip
        cases h22
      · skip
        refine ww_aload_n C0 dX4_write_25 rfl ?_
        refine ww_get C0 (ci := 4) (C := RX4) (T := TX4) (N := 14) ku_X4 0 rfl rfl 0 (by decide) kw_X4_10 rfl dX4_write_26 ?_
        refine ww_getN C0 (ci := 3) (C := RX3) (T := TX3) (N := 2) ku_X3 14 rfl rfl 1 (by decide) kn_X4_76 rfl dX4_write_29 ?_
        refine ww_goto (tgt := 37) C0 dX4_write_32 (by decide) ?_
        exact ww_iret C0 hr dX4_write_37 (by rfl) (by rfl)
    · skip
      replace h8 := (not_congr (nI_leE (a := x) (b := 255) rfl rfl (by omega) (by omega))).mp h8
      exfalso; omega

set_option maxHeartbeats 4000000 in
set_option maxRecDepth 100000 in
theorem c_X4_write_f (l : Launch) (D : va_G) (cI cZ cQ : ClassId) {aX aT aL aC aN aY aA aO aK aG aW al0 al1 al2 an0 an1 an2 ay0 ay1 ay2 at0 : Nat} {nm fa ac na tn : Nat} {hN bN hY bY : Int32} {sd : Int64} {fl0 fl1 fl2 fC fn0 fn1 fn2 fy0 fy1 fy2 ft0 : Nat → Int32} {rest : va_W} {x : Nat} (hx : x < 256) (ht : tn = 48) : MI l D [(cI, .int), (cZ, .boolean), (cQ, .object "MulesRemember$State")] yX4_write cX4_write 2 .int ({ frames := 1, cells := 0, slots := 0, locals := 21 } : Room) [.ref aX, .int (nI x)] ((aX, .inr (4, [.ref aT, .ref aL, .ref aC, .int (nI nm), .ref aN, .ref aY, .ref aA, .int (nI fa), .int (nI ac), .ref aO, .ref aK, .ref aG, .ref aW, .long sd])) :: (aL, .inr (0, [.ref al0, .ref al1, .ref al2, .int (nI na)])) :: (al0, .inl (cI, 5, .inl (fl0))) :: (al1, .inl (cI, 5, .inl (fl1))) :: (al2, .inl (cI, 5, .inl (fl2))) :: (aC, .inl (cI, 5, .inl (fC))) :: (aN, .inr (2, [.ref an0, .ref an1, .ref an2, .int hN, .int bN])) :: (an0, .inl (cI, 5, .inl (fn0))) :: (an1, .inl (cI, 5, .inl (fn1))) :: (an2, .inl (cI, 5, .inl (fn2))) :: (aY, .inr (2, [.ref ay0, .ref ay1, .ref ay2, .int hY, .int bY])) :: (ay0, .inl (cI, 5, .inl (fy0))) :: (ay1, .inl (cI, 5, .inl (fy1))) :: (ay2, .inl (cI, 5, .inl (fy2))) :: (aT, .inr (3, [.ref at0, .int (nI tn)])) :: (at0, .inl (cI, 48, .inl (ft0))) :: rest) (-4) ((aX, .inr (4, [.ref aT, .ref aL, .ref aC, .int (nI nm), .ref aN, .ref aY, .ref aA, .int (nI fa), .int (nI ac), .ref aO, .ref aK, .ref aG, .ref aW, .long sd])) :: (aL, .inr (0, [.ref al0, .ref al1, .ref al2, .int (nI na)])) :: (al0, .inl (cI, 5, .inl (fl0))) :: (al1, .inl (cI, 5, .inl (fl1))) :: (al2, .inl (cI, 5, .inl (fl2))) :: (aC, .inl (cI, 5, .inl (fC))) :: (aN, .inr (2, [.ref an0, .ref an1, .ref an2, .int hN, .int bN])) :: (an0, .inl (cI, 5, .inl (fn0))) :: (an1, .inl (cI, 5, .inl (fn1))) :: (an2, .inl (cI, 5, .inl (fn2))) :: (aY, .inr (2, [.ref ay0, .ref ay1, .ref ay2, .int hY, .int bY])) :: (ay0, .inl (cI, 5, .inl (fy0))) :: (ay1, .inl (cI, 5, .inl (fy1))) :: (ay2, .inl (cI, 5, .inl (fy2))) :: (aT, .inr (3, [.ref at0, .int (nI tn)])) :: (at0, .inl (cI, 48, .inl (ft0))) :: rest) := by
  refine MI.of [.ref aX, .int (nI x)] (by decide) (Nat.le_of_ble_eq_true rfl) rfl ?_
  intro p e s m below meth c A C0 hr
  refine ww_iload_n C0 dX4_write_0 rfl ?_
  refine ww_if_lt (tgt := 11) C0 dX4_write_1 (by decide) (fun h1 => ?_) (fun h1 => ?_)
  · skip
    replace h1 := (nI_ltE (a := x) (b := 0) rfl rfl (by omega) (by omega)).mp h1
    exfalso; omega
  · skip
    replace h1 := (not_congr (nI_ltE (a := x) (b := 0) rfl rfl (by omega) (by omega))).mp h1
    refine ww_iload_n C0 dX4_write_4 rfl ?_
    refine ww_sipush (v := (255)) C0 dX4_write_5 rfl ?_
    refine ww_icmp_le (tgt := 14) C0 dX4_write_8 (by decide) (fun h8 => ?_) (fun h8 => ?_)
    · skip
      replace h8 := (nI_leE (a := x) (b := 255) rfl rfl (by omega) (by omega)).mp h8
      refine ww_aload_n C0 dX4_write_14 rfl ?_
      refine ww_get C0 (ci := 4) (C := RX4) (T := TX4) (N := 14) ku_X4 0 rfl rfl 0 (by decide) kw_X4_10 rfl dX4_write_15 ?_
      refine ww_iload_n C0 dX4_write_18 rfl ?_
      refine ww_perm (perm_mv 0 14 2 _) ?_
      simp only [List.drop_succ_cons, List.drop_zero, List.take_succ_cons, List.take_zero, List.cons_append, List.nil_append, Nat.reduceAdd]
      refine ww_callVNi C0 (qc := (RX3, TX3, 2)) 0 3 (c_X3_put_f l D cI cZ cQ ht) kd_X3_put kn_X4_72 km_X3_put kl_X3_put ki_X3 hd_X3_put rfl rfl ⟨Nat.le_of_ble_eq_true rfl, Nat.le_of_ble_eq_true rfl, rfl, rfl⟩ (Nat.le_of_ble_eq_true rfl) dX4_write_19 rfl rfl rfl ⟨Nat.zero_le _, Nat.zero_le _⟩ ?_
      refine ww_perm (perm_mv 0 2 14 _) ?_
      simp only [List.drop_succ_cons, List.drop_zero, List.take_succ_cons, List.take_zero, List.cons_append, List.nil_append, Nat.reduceAdd]
      refine ww_bif_eq (tgt := 35) C0 dX4_write_22 (by decide) (fun h22 => ?_) (fun h22 => ?_)
      · skip
        refine ww_bipush (v := (-4)) C0 dX4_write_35 rfl ?_
        exact ww_iret C0 hr dX4_write_37 (by rfl) (by rfl)
      · skip
        cases h22
    · skip
      replace h8 := (not_congr (nI_leE (a := x) (b := 255) rfl rfl (by omega) (by omega))).mp h8
      exfalso; omega

set_option maxHeartbeats 4000000 in
set_option maxRecDepth 100000 in
theorem c_X4_wipe (l : Launch) (D : va_G) (cI cZ cQ : ClassId) {aX aT aL aC aN aY aA aO aK aG aW al0 al1 al2 an0 an1 an2 ay0 ay1 ay2 at0 : Nat} {nm fa ac na tn : Nat} {hN bN hY bY : Int32} {sd : Int64} {fl0 fl1 fl2 fC fn0 fn1 fn2 fy0 fy1 fy2 ft0 : Nat → Int32} {rest : va_W} : MI l D [(cI, .int), (cZ, .boolean), (cQ, .object "MulesRemember$State")] yX4_wipe cX4_wipe 2 .int ({ frames := 0, cells := 0, slots := 0, locals := 0 } : Room) [.ref aX] ((aX, .inr (4, [.ref aT, .ref aL, .ref aC, .int (nI nm), .ref aN, .ref aY, .ref aA, .int (nI fa), .int (nI ac), .ref aO, .ref aK, .ref aG, .ref aW, .long sd])) :: (aL, .inr (0, [.ref al0, .ref al1, .ref al2, .int (nI na)])) :: (al0, .inl (cI, 5, .inl (fl0))) :: (al1, .inl (cI, 5, .inl (fl1))) :: (al2, .inl (cI, 5, .inl (fl2))) :: (aC, .inl (cI, 5, .inl (fC))) :: (aN, .inr (2, [.ref an0, .ref an1, .ref an2, .int hN, .int bN])) :: (an0, .inl (cI, 5, .inl (fn0))) :: (an1, .inl (cI, 5, .inl (fn1))) :: (an2, .inl (cI, 5, .inl (fn2))) :: (aY, .inr (2, [.ref ay0, .ref ay1, .ref ay2, .int hY, .int bY])) :: (ay0, .inl (cI, 5, .inl (fy0))) :: (ay1, .inl (cI, 5, .inl (fy1))) :: (ay2, .inl (cI, 5, .inl (fy2))) :: (aT, .inr (3, [.ref at0, .int (nI tn)])) :: (at0, .inl (cI, 48, .inl (ft0))) :: rest) (nI tn) ((aX, .inr (4, [.ref aT, .ref aL, .ref aC, .int (nI nm), .ref aN, .ref aY, .ref aA, .int (nI fa), .int (nI ac), .ref aO, .ref aK, .ref aG, .ref aW, .long sd])) :: (aL, .inr (0, [.ref al0, .ref al1, .ref al2, .int (nI na)])) :: (al0, .inl (cI, 5, .inl (fl0))) :: (al1, .inl (cI, 5, .inl (fl1))) :: (al2, .inl (cI, 5, .inl (fl2))) :: (aC, .inl (cI, 5, .inl (fC))) :: (aN, .inr (2, [.ref an0, .ref an1, .ref an2, .int hN, .int bN])) :: (an0, .inl (cI, 5, .inl (fn0))) :: (an1, .inl (cI, 5, .inl (fn1))) :: (an2, .inl (cI, 5, .inl (fn2))) :: (aY, .inr (2, [.ref ay0, .ref ay1, .ref ay2, .int hY, .int bY])) :: (ay0, .inl (cI, 5, .inl (fy0))) :: (ay1, .inl (cI, 5, .inl (fy1))) :: (ay2, .inl (cI, 5, .inl (fy2))) :: (aT, .inr (3, [.ref at0, .int (nI 0)])) :: (at0, .inl (cI, 48, .inl (ft0))) :: rest) := by
  refine MI.of [.ref aX, .null] (by decide) (Nat.le_of_ble_eq_true rfl) rfl ?_
  intro p e s m below meth c A C0 hr
  refine ww_aload_n C0 dX4_wipe_0 rfl ?_
  refine ww_get C0 (ci := 4) (C := RX4) (T := TX4) (N := 14) ku_X4 0 rfl rfl 0 (by decide) kw_X4_10 rfl dX4_wipe_1 ?_
  refine ww_getN C0 (ci := 3) (C := RX3) (T := TX3) (N := 2) ku_X3 14 rfl rfl 1 (by decide) kn_X4_76 rfl dX4_wipe_4 ?_
  refine ww_istore_n (i := 1) C0 dX4_wipe_7 rfl (Nat.le_of_ble_eq_true rfl) rfl ?_
  simp only [List.set_cons_zero, List.set_cons_succ]
  refine ww_aload_n C0 dX4_wipe_8 rfl ?_
  refine ww_get C0 (ci := 4) (C := RX4) (T := TX4) (N := 14) ku_X4 0 rfl rfl 0 (by decide) kw_X4_10 rfl dX4_wipe_9 ?_
  refine ww_iconst (v := (0)) C0 dX4_wipe_12 rfl ?_
  refine ww_putN C0 (ci := 3) (C := RX3) (T := TX3) (N := 2) ku_X3 14 rfl rfl 1 (by decide) tyX3 tyX3_ok nmX3 kn_X4_76 rfl (ty := .int) (by decide +kernel) rfl rfl (Nat.le_of_ble_eq_true rfl) dX4_wipe_13 ?_
  simp only [List.set_cons_zero, List.set_cons_succ]
  refine ww_iload_n C0 dX4_wipe_16 rfl ?_
  exact ww_iret C0 hr dX4_wipe_17 (by rfl) (by rfl)

set_option maxHeartbeats 4000000 in
set_option maxRecDepth 100000 in
theorem c_X4_fault (l : Launch) (D : va_G) (cI cZ cQ : ClassId) {aX aT aL aC aN aY aA aO aK aG aW al0 al1 al2 an0 an1 an2 ay0 ay1 ay2 at0 : Nat} {nm fa ac na tn : Nat} {hN bN hY bY : Int32} {sd : Int64} {fl0 fl1 fl2 fC fn0 fn1 fn2 fy0 fy1 fy2 ft0 : Nat → Int32} {rest : va_W} (ht : tn ≤ 48) : MI l D [(cI, .int), (cZ, .boolean), (cQ, .object "MulesRemember$State")] yX4_fault cX4_fault 1 .int ({ frames := 2, cells := 0, slots := 0, locals := 48 } : Room) [.ref aX] ((aX, .inr (4, [.ref aT, .ref aL, .ref aC, .int (nI nm), .ref aN, .ref aY, .ref aA, .int (nI fa), .int (nI ac), .ref aO, .ref aK, .ref aG, .ref aW, .long sd])) :: (aL, .inr (0, [.ref al0, .ref al1, .ref al2, .int (nI na)])) :: (al0, .inl (cI, 5, .inl (fl0))) :: (al1, .inl (cI, 5, .inl (fl1))) :: (al2, .inl (cI, 5, .inl (fl2))) :: (aC, .inl (cI, 5, .inl (fC))) :: (aN, .inr (2, [.ref an0, .ref an1, .ref an2, .int hN, .int bN])) :: (an0, .inl (cI, 5, .inl (fn0))) :: (an1, .inl (cI, 5, .inl (fn1))) :: (an2, .inl (cI, 5, .inl (fn2))) :: (aY, .inr (2, [.ref ay0, .ref ay1, .ref ay2, .int hY, .int bY])) :: (ay0, .inl (cI, 5, .inl (fy0))) :: (ay1, .inl (cI, 5, .inl (fy1))) :: (ay2, .inl (cI, 5, .inl (fy2))) :: (aT, .inr (3, [.ref at0, .int (nI tn)])) :: (at0, .inl (cI, 48, .inl (ft0))) :: rest) (sFault ft0 tn tn 0 0 0 77) ((aX, .inr (4, [.ref aT, .ref aL, .ref aC, .int (nI nm), .ref aN, .ref aY, .ref aA, .int (nI fa), .int (nI ac), .ref aO, .ref aK, .ref aG, .ref aW, .long sd])) :: (aL, .inr (0, [.ref al0, .ref al1, .ref al2, .int (nI na)])) :: (al0, .inl (cI, 5, .inl (fl0))) :: (al1, .inl (cI, 5, .inl (fl1))) :: (al2, .inl (cI, 5, .inl (fl2))) :: (aC, .inl (cI, 5, .inl (fC))) :: (aN, .inr (2, [.ref an0, .ref an1, .ref an2, .int hN, .int bN])) :: (an0, .inl (cI, 5, .inl (fn0))) :: (an1, .inl (cI, 5, .inl (fn1))) :: (an2, .inl (cI, 5, .inl (fn2))) :: (aY, .inr (2, [.ref ay0, .ref ay1, .ref ay2, .int hY, .int bY])) :: (ay0, .inl (cI, 5, .inl (fy0))) :: (ay1, .inl (cI, 5, .inl (fy1))) :: (ay2, .inl (cI, 5, .inl (fy2))) :: (aT, .inr (3, [.ref at0, .int (nI tn)])) :: (at0, .inl (cI, 48, .inl (ft0))) :: rest) := by
  refine MI.of [.ref aX] (by decide) (Nat.le_of_ble_eq_true rfl) rfl ?_
  intro p e s m below meth c A C0 hr
  refine ww_aload_n C0 dX4_fault_0 rfl ?_
  refine ww_get C0 (ci := 4) (C := RX4) (T := TX4) (N := 14) ku_X4 0 rfl rfl 0 (by decide) kw_X4_10 rfl dX4_fault_1 ?_
  refine ww_perm (perm_mv 0 14 2 _) ?_
  simp only [List.drop_succ_cons, List.drop_zero, List.take_succ_cons, List.take_zero, List.cons_append, List.nil_append, Nat.reduceAdd]
  refine ww_callVNi C0 (qc := (RX3, TX3, 2)) 0 3 (c_X3_firstFault l D cI cZ cQ ht) kd_X3_firstFault kn_X4_79 km_X3_firstFault kl_X3_firstFault ki_X3 hd_X3_firstFault rfl rfl ⟨Nat.le_of_ble_eq_true rfl, Nat.le_of_ble_eq_true rfl, rfl, rfl⟩ (Nat.le_of_ble_eq_true rfl) dX4_fault_4 rfl rfl rfl ⟨Nat.zero_le _, Nat.zero_le _⟩ ?_
  refine ww_perm (perm_mv 0 2 14 _) ?_
  simp only [List.drop_succ_cons, List.drop_zero, List.take_succ_cons, List.take_zero, List.cons_append, List.nil_append, Nat.reduceAdd]
  exact ww_iret C0 hr dX4_fault_7 (by rfl) (by rfl)

set_option maxHeartbeats 4000000 in
set_option maxRecDepth 100000 in
theorem c_X4_about (l : Launch) (D : va_G) (cI cZ cQ : ClassId) {aX aT aL aC aN aY aA aO aK aG aW al0 al1 al2 an0 an1 an2 ay0 ay1 ay2 at0 ag0 ag1 ag2 ag3 ag4 : Nat} {nm fa ac na tn gn : Nat} {hN bN hY bY : Int32} {sd : Int64} {fl0 fl1 fl2 fC fn0 fn1 fn2 fy0 fy1 fy2 ft0 : Nat → Int32} {rest : va_W} {x : Int32} : MI l D [(cI, .int), (cZ, .boolean), (cQ, .object "MulesRemember$State")] yX4_about cX4_about 2 .int ({ frames := 0, cells := 0, slots := 0, locals := 0 } : Room) [.ref aX, .int x] ((aX, .inr (4, [.ref aT, .ref aL, .ref aC, .int (nI nm), .ref aN, .ref aY, .ref aA, .int (nI fa), .int (nI ac), .ref aO, .ref aK, .ref aG, .ref aW, .long sd])) :: (aL, .inr (0, [.ref al0, .ref al1, .ref al2, .int (nI na)])) :: (al0, .inl (cI, 5, .inl (fl0))) :: (al1, .inl (cI, 5, .inl (fl1))) :: (al2, .inl (cI, 5, .inl (fl2))) :: (aC, .inl (cI, 5, .inl (fC))) :: (aN, .inr (2, [.ref an0, .ref an1, .ref an2, .int hN, .int bN])) :: (an0, .inl (cI, 5, .inl (fn0))) :: (an1, .inl (cI, 5, .inl (fn1))) :: (an2, .inl (cI, 5, .inl (fn2))) :: (aY, .inr (2, [.ref ay0, .ref ay1, .ref ay2, .int hY, .int bY])) :: (ay0, .inl (cI, 5, .inl (fy0))) :: (ay1, .inl (cI, 5, .inl (fy1))) :: (ay2, .inl (cI, 5, .inl (fy2))) :: (aT, .inr (3, [.ref at0, .int (nI tn)])) :: (at0, .inl (cI, 48, .inl (ft0))) :: (aG, .inr (1, [.ref ag0, .ref ag1, .ref ag2, .ref ag3, .ref ag4, .int (nI gn)])) :: rest) (sAbout (nI nm) (nI na) hN bN (nI ac) (nI gn) (nI tn) x) ((aX, .inr (4, [.ref aT, .ref aL, .ref aC, .int (nI nm), .ref aN, .ref aY, .ref aA, .int (nI fa), .int (nI ac), .ref aO, .ref aK, .ref aG, .ref aW, .long sd])) :: (aL, .inr (0, [.ref al0, .ref al1, .ref al2, .int (nI na)])) :: (al0, .inl (cI, 5, .inl (fl0))) :: (al1, .inl (cI, 5, .inl (fl1))) :: (al2, .inl (cI, 5, .inl (fl2))) :: (aC, .inl (cI, 5, .inl (fC))) :: (aN, .inr (2, [.ref an0, .ref an1, .ref an2, .int hN, .int bN])) :: (an0, .inl (cI, 5, .inl (fn0))) :: (an1, .inl (cI, 5, .inl (fn1))) :: (an2, .inl (cI, 5, .inl (fn2))) :: (aY, .inr (2, [.ref ay0, .ref ay1, .ref ay2, .int hY, .int bY])) :: (ay0, .inl (cI, 5, .inl (fy0))) :: (ay1, .inl (cI, 5, .inl (fy1))) :: (ay2, .inl (cI, 5, .inl (fy2))) :: (aT, .inr (3, [.ref at0, .int (nI tn)])) :: (at0, .inl (cI, 48, .inl (ft0))) :: (aG, .inr (1, [.ref ag0, .ref ag1, .ref ag2, .ref ag3, .ref ag4, .int (nI gn)])) :: rest) := by
  refine MI.of [.ref aX, .int x] (by decide) (Nat.le_of_ble_eq_true rfl) rfl ?_
  intro p e s m below meth c A C0 hr
  refine ww_iload_n C0 dX4_about_0 rfl ?_
  by_cases hs1_0 : x = 0
  · skip
    have hsi : (x).toInt = 0 := by rw [hs1_0]; rfl
    refine ww_tableIn (off := 43) (tgt := 44) C0 dX4_about_1 (by rw [hsi]; decide) (by rw [hsi]; decide) (by rw [hsi]; rfl) (by decide) ?_
    refine ww_aload_n C0 dX4_about_44 rfl ?_
    refine ww_get C0 (ci := 4) (C := RX4) (T := TX4) (N := 14) ku_X4 0 rfl rfl 3 (by decide) kw_X4_27 rfl dX4_about_45 ?_
    exact ww_iret C0 hr dX4_about_48 (by simp [sAbout, *]) (by rfl)
  by_cases hs1_1 : x = 1
  · skip
    have hsi : (x).toInt = 1 := by rw [hs1_1]; rfl
    refine ww_tableIn (off := 48) (tgt := 49) C0 dX4_about_1 (by rw [hsi]; decide) (by rw [hsi]; decide) (by rw [hsi]; rfl) (by decide) ?_
    refine ww_aload_n C0 dX4_about_49 rfl ?_
    refine ww_get C0 (ci := 4) (C := RX4) (T := TX4) (N := 14) ku_X4 0 rfl rfl 1 (by decide) kw_X4_19 rfl dX4_about_50 ?_
    refine ww_getN C0 (ci := 0) (C := RX0) (T := TX0) (N := 4) ku_X0 1 rfl rfl 3 (by decide) kn_X4_83 rfl dX4_about_53 ?_
    exact ww_iret C0 hr dX4_about_56 (by simp [sAbout, *]) (by rfl)
  by_cases hs1_2 : x = 2
  · skip
    have hsi : (x).toInt = 2 := by rw [hs1_2]; rfl
    refine ww_tableIn (off := 56) (tgt := 57) C0 dX4_about_1 (by rw [hsi]; decide) (by rw [hsi]; decide) (by rw [hsi]; rfl) (by decide) ?_
    refine ww_aload_n C0 dX4_about_57 rfl ?_
    refine ww_get C0 (ci := 4) (C := RX4) (T := TX4) (N := 14) ku_X4 0 rfl rfl 4 (by decide) kw_X4_34 rfl dX4_about_58 ?_
    refine ww_getN C0 (ci := 2) (C := RX2) (T := TX2) (N := 5) ku_X2 6 rfl rfl 3 (by decide) kn_X4_86 rfl dX4_about_61 ?_
    exact ww_iret C0 hr dX4_about_64 (by simp [sAbout, *]) (by rfl)
  by_cases hs1_3 : x = 3
  · skip
    have hsi : (x).toInt = 3 := by rw [hs1_3]; rfl
    refine ww_tableIn (off := 64) (tgt := 65) C0 dX4_about_1 (by rw [hsi]; decide) (by rw [hsi]; decide) (by rw [hsi]; rfl) (by decide) ?_
    refine ww_aload_n C0 dX4_about_65 rfl ?_
    refine ww_get C0 (ci := 4) (C := RX4) (T := TX4) (N := 14) ku_X4 0 rfl rfl 4 (by decide) kw_X4_34 rfl dX4_about_66 ?_
    refine ww_getN C0 (ci := 2) (C := RX2) (T := TX2) (N := 5) ku_X2 6 rfl rfl 4 (by decide) kn_X4_89 rfl dX4_about_69 ?_
    exact ww_iret C0 hr dX4_about_72 (by simp [sAbout, *]) (by rfl)
  by_cases hs1_4 : x = 4
  · skip
    have hsi : (x).toInt = 4 := by rw [hs1_4]; rfl
    refine ww_tableIn (off := 72) (tgt := 73) C0 dX4_about_1 (by rw [hsi]; decide) (by rw [hsi]; decide) (by rw [hsi]; rfl) (by decide) ?_
    refine ww_aload_n C0 dX4_about_73 rfl ?_
    refine ww_get C0 (ci := 4) (C := RX4) (T := TX4) (N := 14) ku_X4 0 rfl rfl 8 (by decide) kw_X4_48 rfl dX4_about_74 ?_
    exact ww_iret C0 hr dX4_about_77 (by simp [sAbout, *]) (by rfl)
  by_cases hs1_5 : x = 5
  · skip
    have hsi : (x).toInt = 5 := by rw [hs1_5]; rfl
    refine ww_tableIn (off := 77) (tgt := 78) C0 dX4_about_1 (by rw [hsi]; decide) (by rw [hsi]; decide) (by rw [hsi]; rfl) (by decide) ?_
    refine ww_aload_n C0 dX4_about_78 rfl ?_
    refine ww_get C0 (ci := 4) (C := RX4) (T := TX4) (N := 14) ku_X4 0 rfl rfl 11 (by decide) kw_X4_61 rfl dX4_about_79 ?_
    refine ww_getN C0 (ci := 1) (C := RX1) (T := TX1) (N := 6) ku_X1 16 rfl rfl 5 (by decide) kn_X4_96 rfl dX4_about_82 ?_
    exact ww_iret C0 hr dX4_about_85 (by simp [sAbout, *]) (by rfl)
  by_cases hs1_6 : x = 6
  · skip
    have hsi : (x).toInt = 6 := by rw [hs1_6]; rfl
    refine ww_tableIn (off := 85) (tgt := 86) C0 dX4_about_1 (by rw [hsi]; decide) (by rw [hsi]; decide) (by rw [hsi]; rfl) (by decide) ?_
    refine ww_aload_n C0 dX4_about_86 rfl ?_
    refine ww_get C0 (ci := 4) (C := RX4) (T := TX4) (N := 14) ku_X4 0 rfl rfl 0 (by decide) kw_X4_10 rfl dX4_about_87 ?_
    refine ww_getN C0 (ci := 3) (C := RX3) (T := TX3) (N := 2) ku_X3 14 rfl rfl 1 (by decide) kn_X4_76 rfl dX4_about_90 ?_
    exact ww_iret C0 hr dX4_about_93 (by simp [sAbout, *]) (by rfl)
  refine ww_tableOut (tgt := 94) C0 dX4_about_1 (sw_outc (x) 0 6 (by
    intro k hk1 hk2 he
    rcases (show k = 0 ∨ k = 1 ∨ k = 2 ∨ k = 3 ∨ k = 4 ∨ k = 5 ∨ k = 6 by omega) with rfl | rfl | rfl | rfl | rfl | rfl | rfl
    · exact i32_ne (n := 0) (by decide) hs1_0 he
    · exact i32_ne (n := 1) (by decide) hs1_1 he
    · exact i32_ne (n := 2) (by decide) hs1_2 he
    · exact i32_ne (n := 3) (by decide) hs1_3 he
    · exact i32_ne (n := 4) (by decide) hs1_4 he
    · exact i32_ne (n := 5) (by decide) hs1_5 he
    · exact i32_ne (n := 6) (by decide) hs1_6 he
    )) (by decide) ?_
  refine ww_bipush (v := (-2)) C0 dX4_about_94 rfl ?_
  exact ww_iret C0 hr dX4_about_96 (by simp [sAbout, *]) (by rfl)

set_option maxHeartbeats 4000000 in
set_option maxRecDepth 100000 in
theorem c_X4_article_b (l : Launch) (D : va_G) (cI cZ cQ : ClassId) {aX aT aL aC aN aY aA aO aK aG aW al0 al1 al2 : Nat} {nm fa ac na : Nat} {sd : Int64} {rest : va_W} {m x : Int32} (hna : na ≤ 5) (hm : isN na m = false) : MI l D [(cI, .int), (cZ, .boolean), (cQ, .object "MulesRemember$State")] yX4_article cX4_article 3 .int ({ frames := 4, cells := 0, slots := 0, locals := 88 } : Room) [.ref aX, .int m, .int x] ((aX, .inr (4, [.ref aT, .ref aL, .ref aC, .int (nI nm), .ref aN, .ref aY, .ref aA, .int (nI fa), .int (nI ac), .ref aO, .ref aK, .ref aG, .ref aW, .long sd])) :: (aL, .inr (0, [.ref al0, .ref al1, .ref al2, .int (nI na)])) :: rest) (-1) ((aX, .inr (4, [.ref aT, .ref aL, .ref aC, .int (nI nm), .ref aN, .ref aY, .ref aA, .int (nI fa), .int (nI ac), .ref aO, .ref aK, .ref aG, .ref aW, .long sd])) :: (aL, .inr (0, [.ref al0, .ref al1, .ref al2, .int (nI na)])) :: rest) := by
  refine MI.of [.ref aX, .int m, .int x] (by decide) (Nat.le_of_ble_eq_true rfl) rfl ?_
  intro p e s m below meth c A C0 hr
  refine ww_aload_n C0 dX4_article_0 rfl ?_
  refine ww_iload_n C0 dX4_article_1 rfl ?_
  refine ww_callVi C0 (qc := (RX4, TX4, 14)) 0 4 (c_X4_isArticle l D cI cZ cQ hna) kd_X4_isArticle kw_X4_97 km_X4_isArticle kl_X4_isArticle ki_X4 hd_X4_isArticle rfl rfl ⟨Nat.le_of_ble_eq_true rfl, Nat.le_of_ble_eq_true rfl, rfl, rfl⟩ (Nat.le_of_ble_eq_true rfl) dX4_article_2 rfl rfl rfl ⟨Nat.zero_le _, Nat.zero_le _⟩ ?_
  refine ww_bif_ne (tgt := 10) C0 dX4_article_5 (by decide) (fun h5 => ?_) (fun h5 => ?_)
  · skip
    exact absurd h5 (by rw [hm]; decide)
  · skip
    refine ww_iconst (v := (-1)) C0 dX4_article_8 rfl ?_
    exact ww_iret C0 hr dX4_article_9 (by rfl) (by rfl)

set_option maxHeartbeats 4000000 in
set_option maxRecDepth 100000 in
theorem c_X4_article (l : Launch) (D : va_G) (cI cZ cQ : ClassId) {aX aT aL aC aN aY aA aO aK aG aW al0 al1 al2 an0 an1 an2 : Nat} {nm fa ac na : Nat} {hN bN : Int32} {sd : Int64} {fl0 fl1 fl2 fC fn0 fn1 fn2 : Nat → Int32} {rest : va_W} {a : Nat} {x : Int32} (hnm : nm ≤ 5) (hna : na ≤ 5) (ha : a < na) : MI l D [(cI, .int), (cZ, .boolean), (cQ, .object "MulesRemember$State")] yX4_article cX4_article 3 .int ({ frames := 4, cells := 0, slots := 0, locals := 88 } : Room) [.ref aX, .int (nI a), .int x] ((aX, .inr (4, [.ref aT, .ref aL, .ref aC, .int (nI nm), .ref aN, .ref aY, .ref aA, .int (nI fa), .int (nI ac), .ref aO, .ref aK, .ref aG, .ref aW, .long sd])) :: (aL, .inr (0, [.ref al0, .ref al1, .ref al2, .int (nI na)])) :: (al0, .inl (cI, 5, .inl (fl0))) :: (al1, .inl (cI, 5, .inl (fl1))) :: (al2, .inl (cI, 5, .inl (fl2))) :: (aC, .inl (cI, 5, .inl (fC))) :: (aN, .inr (2, [.ref an0, .ref an1, .ref an2, .int hN, .int bN])) :: (an0, .inl (cI, 5, .inl (fn0))) :: (an1, .inl (cI, 5, .inl (fn1))) :: (an2, .inl (cI, 5, .inl (fn2))) :: rest) (sSel4 (fl0 a) (fl1 a) (fl2 a) (orBits (fun o => hbit (sKnown na (fn1 o) (fn2 o)) (nI a)) nm) x) ((aX, .inr (4, [.ref aT, .ref aL, .ref aC, .int (nI nm), .ref aN, .ref aY, .ref aA, .int (nI fa), .int (nI ac), .ref aO, .ref aK, .ref aG, .ref aW, .long sd])) :: (aL, .inr (0, [.ref al0, .ref al1, .ref al2, .int (nI na)])) :: (al0, .inl (cI, 5, .inl (fl0))) :: (al1, .inl (cI, 5, .inl (fl1))) :: (al2, .inl (cI, 5, .inl (fl2))) :: (aC, .inl (cI, 5, .inl (fC))) :: (aN, .inr (2, [.ref an0, .ref an1, .ref an2, .int hN, .int bN])) :: (an0, .inl (cI, 5, .inl (fn0))) :: (an1, .inl (cI, 5, .inl (fn1))) :: (an2, .inl (cI, 5, .inl (fn2))) :: rest) := by
  refine MI.of [.ref aX, .int (nI a), .int x] (by decide) (Nat.le_of_ble_eq_true rfl) rfl ?_
  intro p e s m below meth c A C0 hr
  refine ww_aload_n C0 dX4_article_0 rfl ?_
  refine ww_iload_n C0 dX4_article_1 rfl ?_
  refine ww_callVi C0 (qc := (RX4, TX4, 14)) 0 4 (c_X4_isArticle l D cI cZ cQ hna) kd_X4_isArticle kw_X4_97 km_X4_isArticle kl_X4_isArticle ki_X4 hd_X4_isArticle rfl rfl ⟨Nat.le_of_ble_eq_true rfl, Nat.le_of_ble_eq_true rfl, rfl, rfl⟩ (Nat.le_of_ble_eq_true rfl) dX4_article_2 rfl rfl rfl ⟨Nat.zero_le _, Nat.zero_le _⟩ ?_
  refine ww_bif_ne (tgt := 10) C0 dX4_article_5 (by decide) (fun h5 => ?_) (fun h5 => ?_)
  · skip
    refine ww_iload_n C0 dX4_article_10 rfl ?_
    by_cases hs11_0 : x = 0
    · skip
      have hsi : (x).toInt = 0 := by rw [hs11_0]; rfl
      refine ww_tableIn (off := 29) (tgt := 40) C0 dX4_article_11 (by rw [hsi]; decide) (by rw [hsi]; decide) (by rw [hsi]; rfl) (by decide) ?_
      refine ww_aload_n C0 dX4_article_40 rfl ?_
      refine ww_get C0 (ci := 4) (C := RX4) (T := TX4) (N := 14) ku_X4 0 rfl rfl 1 (by decide) kw_X4_19 rfl dX4_article_41 ?_
      refine ww_getN C0 (ci := 0) (C := RX0) (T := TX0) (N := 4) ku_X0 1 rfl rfl 0 (by decide) kn_X4_100 rfl dX4_article_44 ?_
      refine ww_iload_n C0 dX4_article_47 rfl ?_
      refine ww_iald_n (j := a) C0 2 0 rfl rfl rfl (by omega) (by decide) dX4_article_48 ?_
      exact ww_iret C0 hr dX4_article_49 (by simp [sSel4, *]) (by rfl)
    by_cases hs11_1 : x = 1
    · skip
      have hsi : (x).toInt = 1 := by rw [hs11_1]; rfl
      refine ww_tableIn (off := 39) (tgt := 50) C0 dX4_article_11 (by rw [hsi]; decide) (by rw [hsi]; decide) (by rw [hsi]; rfl) (by decide) ?_
      refine ww_aload_n C0 dX4_article_50 rfl ?_
      refine ww_get C0 (ci := 4) (C := RX4) (T := TX4) (N := 14) ku_X4 0 rfl rfl 1 (by decide) kw_X4_19 rfl dX4_article_51 ?_
      refine ww_getN C0 (ci := 0) (C := RX0) (T := TX0) (N := 4) ku_X0 1 rfl rfl 1 (by decide) kn_X4_103 rfl dX4_article_54 ?_
      refine ww_iload_n C0 dX4_article_57 rfl ?_
      refine ww_iald_n (j := a) C0 3 0 rfl rfl rfl (by omega) (by decide) dX4_article_58 ?_
      exact ww_iret C0 hr dX4_article_59 (by simp [sSel4, *]) (by rfl)
    by_cases hs11_2 : x = 2
    · skip
      have hsi : (x).toInt = 2 := by rw [hs11_2]; rfl
      refine ww_tableIn (off := 49) (tgt := 60) C0 dX4_article_11 (by rw [hsi]; decide) (by rw [hsi]; decide) (by rw [hsi]; rfl) (by decide) ?_
      refine ww_aload_n C0 dX4_article_60 rfl ?_
      refine ww_get C0 (ci := 4) (C := RX4) (T := TX4) (N := 14) ku_X4 0 rfl rfl 1 (by decide) kw_X4_19 rfl dX4_article_61 ?_
      refine ww_getN C0 (ci := 0) (C := RX0) (T := TX0) (N := 4) ku_X0 1 rfl rfl 2 (by decide) kn_X4_106 rfl dX4_article_64 ?_
      refine ww_iload_n C0 dX4_article_67 rfl ?_
      refine ww_iald_n (j := a) C0 4 0 rfl rfl rfl (by omega) (by decide) dX4_article_68 ?_
      exact ww_iret C0 hr dX4_article_69 (by simp [sSel4, *]) (by rfl)
    by_cases hs11_3 : x = 3
    · skip
      have hsi : (x).toInt = 3 := by rw [hs11_3]; rfl
      refine ww_tableIn (off := 59) (tgt := 70) C0 dX4_article_11 (by rw [hsi]; decide) (by rw [hsi]; decide) (by rw [hsi]; rfl) (by decide) ?_
      refine ww_aload_n C0 dX4_article_70 rfl ?_
      refine ww_iload_n C0 dX4_article_71 rfl ?_
      refine ww_callVi C0 (qc := (RX4, TX4, 14)) 0 4 (c_X4_mulesThatKnow l D cI cZ cQ hnm hna) kd_X4_mulesThatKnow kw_X4_109 km_X4_mulesThatKnow kl_X4_mulesThatKnow ki_X4 hd_X4_mulesThatKnow rfl rfl ⟨Nat.le_of_ble_eq_true rfl, Nat.le_of_ble_eq_true rfl, rfl, rfl⟩ (Nat.le_of_ble_eq_true rfl) dX4_article_72 rfl rfl rfl ⟨Nat.zero_le _, Nat.zero_le _⟩ ?_
      exact ww_iret C0 hr dX4_article_75 (by simp [sSel4, *]) (by rfl)
    refine ww_tableOut (tgt := 76) C0 dX4_article_11 (sw_outc (x) 0 3 (by
      intro k hk1 hk2 he
      rcases (show k = 0 ∨ k = 1 ∨ k = 2 ∨ k = 3 by omega) with rfl | rfl | rfl | rfl
      · exact i32_ne (n := 0) (by decide) hs11_0 he
      · exact i32_ne (n := 1) (by decide) hs11_1 he
      · exact i32_ne (n := 2) (by decide) hs11_2 he
      · exact i32_ne (n := 3) (by decide) hs11_3 he
      )) (by decide) ?_
    refine ww_bipush (v := (-2)) C0 dX4_article_76 rfl ?_
    exact ww_iret C0 hr dX4_article_78 (by simp [sSel4, *]) (by rfl)
  · skip
    exact absurd (isN_nI (by omega) ha) (by rw [h5]; decide)

set_option maxHeartbeats 4000000 in
set_option maxRecDepth 100000 in
theorem c_X4_mule_b (l : Launch) (D : va_G) (cI cZ cQ : ClassId) {aX aT aL aC aN aY aA aO aK aG aW : Nat} {nm fa ac : Nat} {sd : Int64} {rest : va_W} {m x : Int32} (hnm : nm ≤ 5) (hm : isN nm m = false) : MI l D [(cI, .int), (cZ, .boolean), (cQ, .object "MulesRemember$State")] yX4_mule cX4_mule 3 .int ({ frames := 3, cells := 0, slots := 0, locals := 65 } : Room) [.ref aX, .int m, .int x] ((aX, .inr (4, [.ref aT, .ref aL, .ref aC, .int (nI nm), .ref aN, .ref aY, .ref aA, .int (nI fa), .int (nI ac), .ref aO, .ref aK, .ref aG, .ref aW, .long sd])) :: rest) (-1) ((aX, .inr (4, [.ref aT, .ref aL, .ref aC, .int (nI nm), .ref aN, .ref aY, .ref aA, .int (nI fa), .int (nI ac), .ref aO, .ref aK, .ref aG, .ref aW, .long sd])) :: rest) := by
  refine MI.of [.ref aX, .int m, .int x] (by decide) (Nat.le_of_ble_eq_true rfl) rfl ?_
  intro p e s m below meth c A C0 hr
  refine ww_aload_n C0 dX4_mule_0 rfl ?_
  refine ww_iload_n C0 dX4_mule_1 rfl ?_
  refine ww_callVi C0 (qc := (RX4, TX4, 14)) 0 4 (c_X4_isMule l D cI cZ cQ hnm) kd_X4_isMule kw_X4_113 km_X4_isMule kl_X4_isMule ki_X4 hd_X4_isMule rfl rfl ⟨Nat.le_of_ble_eq_true rfl, Nat.le_of_ble_eq_true rfl, rfl, rfl⟩ (Nat.le_of_ble_eq_true rfl) dX4_mule_2 rfl rfl rfl ⟨Nat.zero_le _, Nat.zero_le _⟩ ?_
  refine ww_bif_ne (tgt := 10) C0 dX4_mule_5 (by decide) (fun h5 => ?_) (fun h5 => ?_)
  · skip
    exact absurd h5 (by rw [hm]; decide)
  · skip
    refine ww_iconst (v := (-1)) C0 dX4_mule_8 rfl ?_
    exact ww_iret C0 hr dX4_mule_9 (by rfl) (by rfl)

set_option maxHeartbeats 4000000 in
set_option maxRecDepth 100000 in
theorem c_X4_mule (l : Launch) (D : va_G) (cI cZ cQ : ClassId) {aX aT aL aC aN aY aA aO aK aG aW al0 al1 al2 an0 an1 an2 : Nat} {nm fa ac na : Nat} {hN bN : Int32} {sd : Int64} {fl0 fl1 fl2 fC fn0 fn1 fn2 : Nat → Int32} {rest : va_W} {k : Nat} {x : Int32} (hnm : nm ≤ 5) (hna : na ≤ 5) (hk : k < nm) : MI l D [(cI, .int), (cZ, .boolean), (cQ, .object "MulesRemember$State")] yX4_mule cX4_mule 3 .int ({ frames := 3, cells := 0, slots := 0, locals := 65 } : Room) [.ref aX, .int (nI k), .int x] ((aX, .inr (4, [.ref aT, .ref aL, .ref aC, .int (nI nm), .ref aN, .ref aY, .ref aA, .int (nI fa), .int (nI ac), .ref aO, .ref aK, .ref aG, .ref aW, .long sd])) :: (aL, .inr (0, [.ref al0, .ref al1, .ref al2, .int (nI na)])) :: (al0, .inl (cI, 5, .inl (fl0))) :: (al1, .inl (cI, 5, .inl (fl1))) :: (al2, .inl (cI, 5, .inl (fl2))) :: (aC, .inl (cI, 5, .inl (fC))) :: (aN, .inr (2, [.ref an0, .ref an1, .ref an2, .int hN, .int bN])) :: (an0, .inl (cI, 5, .inl (fn0))) :: (an1, .inl (cI, 5, .inl (fn1))) :: (an2, .inl (cI, 5, .inl (fn2))) :: rest) (sSel5 (fn0 k) (fC k) (fn1 k) (fn2 k) (sKnown na (fn1 k) (fn2 k)) x) ((aX, .inr (4, [.ref aT, .ref aL, .ref aC, .int (nI nm), .ref aN, .ref aY, .ref aA, .int (nI fa), .int (nI ac), .ref aO, .ref aK, .ref aG, .ref aW, .long sd])) :: (aL, .inr (0, [.ref al0, .ref al1, .ref al2, .int (nI na)])) :: (al0, .inl (cI, 5, .inl (fl0))) :: (al1, .inl (cI, 5, .inl (fl1))) :: (al2, .inl (cI, 5, .inl (fl2))) :: (aC, .inl (cI, 5, .inl (fC))) :: (aN, .inr (2, [.ref an0, .ref an1, .ref an2, .int hN, .int bN])) :: (an0, .inl (cI, 5, .inl (fn0))) :: (an1, .inl (cI, 5, .inl (fn1))) :: (an2, .inl (cI, 5, .inl (fn2))) :: rest) := by
  refine MI.of [.ref aX, .int (nI k), .int x] (by decide) (Nat.le_of_ble_eq_true rfl) rfl ?_
  intro p e s m below meth c A C0 hr
  refine ww_aload_n C0 dX4_mule_0 rfl ?_
  refine ww_iload_n C0 dX4_mule_1 rfl ?_
  refine ww_callVi C0 (qc := (RX4, TX4, 14)) 0 4 (c_X4_isMule l D cI cZ cQ hnm) kd_X4_isMule kw_X4_113 km_X4_isMule kl_X4_isMule ki_X4 hd_X4_isMule rfl rfl ⟨Nat.le_of_ble_eq_true rfl, Nat.le_of_ble_eq_true rfl, rfl, rfl⟩ (Nat.le_of_ble_eq_true rfl) dX4_mule_2 rfl rfl rfl ⟨Nat.zero_le _, Nat.zero_le _⟩ ?_
  refine ww_bif_ne (tgt := 10) C0 dX4_mule_5 (by decide) (fun h5 => ?_) (fun h5 => ?_)
  · skip
    refine ww_iload_n C0 dX4_mule_10 rfl ?_
    by_cases hs11_0 : x = 0
    · skip
      have hsi : (x).toInt = 0 := by rw [hs11_0]; rfl
      refine ww_tableIn (off := 33) (tgt := 44) C0 dX4_mule_11 (by rw [hsi]; decide) (by rw [hsi]; decide) (by rw [hsi]; rfl) (by decide) ?_
      refine ww_aload_n C0 dX4_mule_44 rfl ?_
      refine ww_get C0 (ci := 4) (C := RX4) (T := TX4) (N := 14) ku_X4 0 rfl rfl 4 (by decide) kw_X4_34 rfl dX4_mule_45 ?_
      refine ww_getN C0 (ci := 2) (C := RX2) (T := TX2) (N := 5) ku_X2 6 rfl rfl 0 (by decide) kn_X4_116 rfl dX4_mule_48 ?_
      refine ww_iload_n C0 dX4_mule_51 rfl ?_
      refine ww_iald_n (j := k) C0 7 0 rfl rfl rfl (by omega) (by decide) dX4_mule_52 ?_
      exact ww_iret C0 hr dX4_mule_53 (by simp [sSel5, *]) (by rfl)
    by_cases hs11_1 : x = 1
    · skip
      have hsi : (x).toInt = 1 := by rw [hs11_1]; rfl
      refine ww_tableIn (off := 43) (tgt := 54) C0 dX4_mule_11 (by rw [hsi]; decide) (by rw [hsi]; decide) (by rw [hsi]; rfl) (by decide) ?_
      refine ww_aload_n C0 dX4_mule_54 rfl ?_
      refine ww_get C0 (ci := 4) (C := RX4) (T := TX4) (N := 14) ku_X4 0 rfl rfl 2 (by decide) kw_X4_23 rfl dX4_mule_55 ?_
      refine ww_iload_n C0 dX4_mule_58 rfl ?_
      refine ww_iald_n (j := k) C0 5 0 rfl rfl rfl (by omega) (by decide) dX4_mule_59 ?_
      exact ww_iret C0 hr dX4_mule_60 (by simp [sSel5, *]) (by rfl)
    by_cases hs11_2 : x = 2
    · skip
      have hsi : (x).toInt = 2 := by rw [hs11_2]; rfl
      refine ww_tableIn (off := 50) (tgt := 61) C0 dX4_mule_11 (by rw [hsi]; decide) (by rw [hsi]; decide) (by rw [hsi]; rfl) (by decide) ?_
      refine ww_aload_n C0 dX4_mule_61 rfl ?_
      refine ww_get C0 (ci := 4) (C := RX4) (T := TX4) (N := 14) ku_X4 0 rfl rfl 4 (by decide) kw_X4_34 rfl dX4_mule_62 ?_
      refine ww_getN C0 (ci := 2) (C := RX2) (T := TX2) (N := 5) ku_X2 6 rfl rfl 1 (by decide) kn_X4_117 rfl dX4_mule_65 ?_
      refine ww_iload_n C0 dX4_mule_68 rfl ?_
      refine ww_iald_n (j := k) C0 8 0 rfl rfl rfl (by omega) (by decide) dX4_mule_69 ?_
      exact ww_iret C0 hr dX4_mule_70 (by simp [sSel5, *]) (by rfl)
    by_cases hs11_3 : x = 3
    · skip
      have hsi : (x).toInt = 3 := by rw [hs11_3]; rfl
      refine ww_tableIn (off := 60) (tgt := 71) C0 dX4_mule_11 (by rw [hsi]; decide) (by rw [hsi]; decide) (by rw [hsi]; rfl) (by decide) ?_
      refine ww_aload_n C0 dX4_mule_71 rfl ?_
      refine ww_get C0 (ci := 4) (C := RX4) (T := TX4) (N := 14) ku_X4 0 rfl rfl 4 (by decide) kw_X4_34 rfl dX4_mule_72 ?_
      refine ww_getN C0 (ci := 2) (C := RX2) (T := TX2) (N := 5) ku_X2 6 rfl rfl 2 (by decide) kn_X4_120 rfl dX4_mule_75 ?_
      refine ww_iload_n C0 dX4_mule_78 rfl ?_
      refine ww_iald_n (j := k) C0 9 0 rfl rfl rfl (by omega) (by decide) dX4_mule_79 ?_
      exact ww_iret C0 hr dX4_mule_80 (by simp [sSel5, *]) (by rfl)
    by_cases hs11_4 : x = 4
    · skip
      have hsi : (x).toInt = 4 := by rw [hs11_4]; rfl
      refine ww_tableIn (off := 70) (tgt := 81) C0 dX4_mule_11 (by rw [hsi]; decide) (by rw [hsi]; decide) (by rw [hsi]; rfl) (by decide) ?_
      refine ww_aload_n C0 dX4_mule_81 rfl ?_
      refine ww_aload_n C0 dX4_mule_82 rfl ?_
      refine ww_get C0 (ci := 4) (C := RX4) (T := TX4) (N := 14) ku_X4 0 rfl rfl 4 (by decide) kw_X4_34 rfl dX4_mule_83 ?_
      refine ww_iload_n C0 dX4_mule_86 rfl ?_
      refine ww_callVi C0 (qc := (RX4, TX4, 14)) 0 4 (c_X4_known l D cI cZ cQ hnm hna hk) kd_X4_known kw_X4_123 km_X4_known kl_X4_known ki_X4 hd_X4_known rfl rfl ⟨Nat.le_of_ble_eq_true rfl, Nat.le_of_ble_eq_true rfl, rfl, rfl⟩ (Nat.le_of_ble_eq_true rfl) dX4_mule_87 rfl rfl rfl ⟨Nat.zero_le _, Nat.zero_le _⟩ ?_
      exact ww_iret C0 hr dX4_mule_90 (by simp [sSel5, *]) (by rfl)
    refine ww_tableOut (tgt := 91) C0 dX4_mule_11 (sw_outc (x) 0 4 (by
      intro k hk1 hk2 he
      rcases (show k = 0 ∨ k = 1 ∨ k = 2 ∨ k = 3 ∨ k = 4 by omega) with rfl | rfl | rfl | rfl | rfl
      · exact i32_ne (n := 0) (by decide) hs11_0 he
      · exact i32_ne (n := 1) (by decide) hs11_1 he
      · exact i32_ne (n := 2) (by decide) hs11_2 he
      · exact i32_ne (n := 3) (by decide) hs11_3 he
      · exact i32_ne (n := 4) (by decide) hs11_4 he
      )) (by decide) ?_
    refine ww_bipush (v := (-2)) C0 dX4_mule_91 rfl ?_
    exact ww_iret C0 hr dX4_mule_93 (by simp [sSel5, *]) (by rfl)
  · skip
    exact absurd (isN_nI (by omega) hk) (by rw [h5]; decide)

set_option maxHeartbeats 4000000 in
set_option maxRecDepth 100000 in
theorem c_X4_by_b (l : Launch) (D : va_G) (cI cZ cQ : ClassId) {aX aT aL aC aN aY aA aO aK aG aW : Nat} {nm fa ac : Nat} {sd : Int64} {rest : va_W} {m wa : Int32} (hnm : nm ≤ 5) (hm : isN nm m = false) : MI l D [(cI, .int), (cZ, .boolean), (cQ, .object "MulesRemember$State")] yX4_by cX4_by 4 .int ({ frames := 4, cells := 0, slots := 0, locals := 102 } : Room) [.ref aX, .int m, .int wa] ((aX, .inr (4, [.ref aT, .ref aL, .ref aC, .int (nI nm), .ref aN, .ref aY, .ref aA, .int (nI fa), .int (nI ac), .ref aO, .ref aK, .ref aG, .ref aW, .long sd])) :: rest) (-1) ((aX, .inr (4, [.ref aT, .ref aL, .ref aC, .int (nI nm), .ref aN, .ref aY, .ref aA, .int (nI fa), .int (nI ac), .ref aO, .ref aK, .ref aG, .ref aW, .long sd])) :: rest) := by
  refine MI.of [.ref aX, .int m, .int wa, .null] (by decide) (Nat.le_of_ble_eq_true rfl) rfl ?_
  intro p e s m below meth c A C0 hr
  refine ww_aload_n C0 dX4_by_0 rfl ?_
  refine ww_iload_n C0 dX4_by_1 rfl ?_
  refine ww_iload_n C0 dX4_by_2 rfl ?_
  refine ww_callVi C0 (qc := (RX4, TX4, 14)) 0 4 (c_X4_stepRefusal_b l D cI cZ cQ hnm hm) kd_X4_stepRefusal kw_X4_127 km_X4_stepRefusal kl_X4_stepRefusal ki_X4 hd_X4_stepRefusal rfl rfl ⟨Nat.le_of_ble_eq_true rfl, Nat.le_of_ble_eq_true rfl, rfl, rfl⟩ (Nat.le_of_ble_eq_true rfl) dX4_by_3 rfl rfl rfl ⟨Nat.zero_le _, Nat.zero_le _⟩ ?_
  refine ww_istore_n (i := 3) C0 dX4_by_6 rfl (Nat.le_of_ble_eq_true rfl) rfl ?_
  simp only [List.set_cons_zero, List.set_cons_succ]
  refine ww_iload_n C0 dX4_by_7 rfl ?_
  refine ww_if_eq (tgt := 15) C0 dX4_by_8 (by decide) (fun h8 => ?_) (fun h8 => ?_)
  · skip
    exact absurd h8 (by decide)
  · skip
    refine ww_iload_n C0 dX4_by_11 rfl ?_
    refine ww_goto (tgt := 25) C0 dX4_by_12 (by decide) ?_
    exact ww_iret C0 hr dX4_by_25 (by rfl) (by rfl)

set_option maxHeartbeats 4000000 in
set_option maxRecDepth 100000 in
theorem c_X4_balks_b (l : Launch) (D : va_G) (cI cZ cQ : ClassId) {aX aT aL aC aN aY aA aO aK aG aW : Nat} {nm fa ac : Nat} {sd : Int64} {rest : va_W} {m wa : Int32} (hnm : nm ≤ 5) (hm : isN nm m = false) : MI l D [(cI, .int), (cZ, .boolean), (cQ, .object "MulesRemember$State")] yX4_balks cX4_balks 4 .int ({ frames := 5, cells := 0, slots := 0, locals := 126 } : Room) [.ref aX, .int m, .int wa] ((aX, .inr (4, [.ref aT, .ref aL, .ref aC, .int (nI nm), .ref aN, .ref aY, .ref aA, .int (nI fa), .int (nI ac), .ref aO, .ref aK, .ref aG, .ref aW, .long sd])) :: rest) (-1) ((aX, .inr (4, [.ref aT, .ref aL, .ref aC, .int (nI nm), .ref aN, .ref aY, .ref aA, .int (nI fa), .int (nI ac), .ref aO, .ref aK, .ref aG, .ref aW, .long sd])) :: rest) := by
  refine MI.of [.ref aX, .int m, .int wa, .null] (by decide) (Nat.le_of_ble_eq_true rfl) rfl ?_
  intro p e s m below meth c A C0 hr
  refine ww_aload_n C0 dX4_balks_0 rfl ?_
  refine ww_iload_n C0 dX4_balks_1 rfl ?_
  refine ww_iload_n C0 dX4_balks_2 rfl ?_
  refine ww_callVi C0 (qc := (RX4, TX4, 14)) 0 4 (c_X4_stepRefusal_b l D cI cZ cQ hnm hm) kd_X4_stepRefusal kw_X4_127 km_X4_stepRefusal kl_X4_stepRefusal ki_X4 hd_X4_stepRefusal rfl rfl ⟨Nat.le_of_ble_eq_true rfl, Nat.le_of_ble_eq_true rfl, rfl, rfl⟩ (Nat.le_of_ble_eq_true rfl) dX4_balks_3 rfl rfl rfl ⟨Nat.zero_le _, Nat.zero_le _⟩ ?_
  refine ww_istore_n (i := 3) C0 dX4_balks_6 rfl (Nat.le_of_ble_eq_true rfl) rfl ?_
  simp only [List.set_cons_zero, List.set_cons_succ]
  refine ww_iload_n C0 dX4_balks_7 rfl ?_
  refine ww_if_eq (tgt := 15) C0 dX4_balks_8 (by decide) (fun h8 => ?_) (fun h8 => ?_)
  · skip
    exact absurd h8 (by decide)
  · skip
    refine ww_iload_n C0 dX4_balks_11 rfl ?_
    refine ww_goto (tgt := 28) C0 dX4_balks_12 (by decide) ?_
    exact ww_iret C0 hr dX4_balks_28 (by rfl) (by rfl)

set_option maxHeartbeats 4000000 in
set_option maxRecDepth 100000 in
theorem c_X4_step_b (l : Launch) (D : va_G) (cI cZ cQ : ClassId) {aX aT aL aC aN aY aA aO aK aG aW : Nat} {nm fa ac : Nat} {sd : Int64} {rest : va_W} {m wa : Int32} (hnm : nm ≤ 5) (hm : isN nm m = false) : MI l D [(cI, .int), (cZ, .boolean), (cQ, .object "MulesRemember$State")] yX4_step cX4_step 4 .int ({ frames := 5, cells := 0, slots := 0, locals := 126 } : Room) [.ref aX, .int m, .int wa] ((aX, .inr (4, [.ref aT, .ref aL, .ref aC, .int (nI nm), .ref aN, .ref aY, .ref aA, .int (nI fa), .int (nI ac), .ref aO, .ref aK, .ref aG, .ref aW, .long sd])) :: rest) (-1) ((aX, .inr (4, [.ref aT, .ref aL, .ref aC, .int (nI nm), .ref aN, .ref aY, .ref aA, .int (nI fa), .int (nI ac), .ref aO, .ref aK, .ref aG, .ref aW, .long sd])) :: rest) := by
  refine MI.of [.ref aX, .int m, .int wa, .null] (by decide) (Nat.le_of_ble_eq_true rfl) rfl ?_
  intro p e s m below meth c A C0 hr
  refine ww_aload_n C0 dX4_step_0 rfl ?_
  refine ww_iload_n C0 dX4_step_1 rfl ?_
  refine ww_iload_n C0 dX4_step_2 rfl ?_
  refine ww_callVi C0 (qc := (RX4, TX4, 14)) 0 4 (c_X4_stepRefusal_b l D cI cZ cQ hnm hm) kd_X4_stepRefusal kw_X4_127 km_X4_stepRefusal kl_X4_stepRefusal ki_X4 hd_X4_stepRefusal rfl rfl ⟨Nat.le_of_ble_eq_true rfl, Nat.le_of_ble_eq_true rfl, rfl, rfl⟩ (Nat.le_of_ble_eq_true rfl) dX4_step_3 rfl rfl rfl ⟨Nat.zero_le _, Nat.zero_le _⟩ ?_
  refine ww_istore_n (i := 3) C0 dX4_step_6 rfl (Nat.le_of_ble_eq_true rfl) rfl ?_
  simp only [List.set_cons_zero, List.set_cons_succ]
  refine ww_iload_n C0 dX4_step_7 rfl ?_
  refine ww_if_eq (tgt := 13) C0 dX4_step_8 (by decide) (fun h8 => ?_) (fun h8 => ?_)
  · skip
    exact absurd h8 (by decide)
  · skip
    refine ww_iload_n C0 dX4_step_11 rfl ?_
    exact ww_iret C0 hr dX4_step_12 (by rfl) (by rfl)

set_option maxHeartbeats 4000000 in
set_option maxRecDepth 100000 in
theorem c_X4_by (l : Launch) (D : va_G) (cI cZ cQ : ClassId) {aX aT aL aC aN aY aA aO aK aG aW al0 al1 al2 an0 an1 an2 : Nat} {nm fa ac na : Nat} {hN bN : Int32} {sd : Int64} {fl0 fl1 fl2 fC fn0 fn1 fn2 : Nat → Int32} {rest : va_W} {k : Nat} {wa : Int32} (hnm : nm ≤ 5) (hna : na ≤ 5) (hk : k < nm) : MI l D [(cI, .int), (cZ, .boolean), (cQ, .object "MulesRemember$State")] yX4_by cX4_by 4 .int ({ frames := 4, cells := 0, slots := 0, locals := 102 } : Room) [.ref aX, .int (nI k), .int wa] ((aX, .inr (4, [.ref aT, .ref aL, .ref aC, .int (nI nm), .ref aN, .ref aY, .ref aA, .int (nI fa), .int (nI ac), .ref aO, .ref aK, .ref aG, .ref aW, .long sd])) :: (aL, .inr (0, [.ref al0, .ref al1, .ref al2, .int (nI na)])) :: (al0, .inl (cI, 5, .inl (fl0))) :: (al1, .inl (cI, 5, .inl (fl1))) :: (al2, .inl (cI, 5, .inl (fl2))) :: (aC, .inl (cI, 5, .inl (fC))) :: (aN, .inr (2, [.ref an0, .ref an1, .ref an2, .int hN, .int bN])) :: (an0, .inl (cI, 5, .inl (fn0))) :: (an1, .inl (cI, 5, .inl (fn1))) :: (an2, .inl (cI, 5, .inl (fn2))) :: rest) (if sRef (fn0 k) wa = 0 then (sFF nm na fl0 fl1 fl2 fC fn0 k (fn0 k) wa hN) else sRef (fn0 k) wa) ((aX, .inr (4, [.ref aT, .ref aL, .ref aC, .int (nI nm), .ref aN, .ref aY, .ref aA, .int (nI fa), .int (nI ac), .ref aO, .ref aK, .ref aG, .ref aW, .long sd])) :: (aL, .inr (0, [.ref al0, .ref al1, .ref al2, .int (nI na)])) :: (al0, .inl (cI, 5, .inl (fl0))) :: (al1, .inl (cI, 5, .inl (fl1))) :: (al2, .inl (cI, 5, .inl (fl2))) :: (aC, .inl (cI, 5, .inl (fC))) :: (aN, .inr (2, [.ref an0, .ref an1, .ref an2, .int hN, .int bN])) :: (an0, .inl (cI, 5, .inl (fn0))) :: (an1, .inl (cI, 5, .inl (fn1))) :: (an2, .inl (cI, 5, .inl (fn2))) :: rest) := by
  refine MI.of [.ref aX, .int (nI k), .int wa, .null] (by decide) (Nat.le_of_ble_eq_true rfl) rfl ?_
  intro p e s m below meth c A C0 hr
  refine ww_aload_n C0 dX4_by_0 rfl ?_
  refine ww_iload_n C0 dX4_by_1 rfl ?_
  refine ww_iload_n C0 dX4_by_2 rfl ?_
  refine ww_callVi C0 (qc := (RX4, TX4, 14)) 0 4 (c_X4_stepRefusal l D cI cZ cQ hnm hna hk) kd_X4_stepRefusal kw_X4_127 km_X4_stepRefusal kl_X4_stepRefusal ki_X4 hd_X4_stepRefusal rfl rfl ⟨Nat.le_of_ble_eq_true rfl, Nat.le_of_ble_eq_true rfl, rfl, rfl⟩ (Nat.le_of_ble_eq_true rfl) dX4_by_3 rfl rfl rfl ⟨Nat.zero_le _, Nat.zero_le _⟩ ?_
  refine ww_istore_n (i := 3) C0 dX4_by_6 rfl (Nat.le_of_ble_eq_true rfl) rfl ?_
  simp only [List.set_cons_zero, List.set_cons_succ]
  refine ww_iload_n C0 dX4_by_7 rfl ?_
  refine ww_if_eq (tgt := 15) C0 dX4_by_8 (by decide) (fun h8 => ?_) (fun h8 => ?_)
  · skip
    refine ww_aload_n C0 dX4_by_15 rfl ?_
    refine ww_aload_n C0 dX4_by_16 rfl ?_
    refine ww_get C0 (ci := 4) (C := RX4) (T := TX4) (N := 14) ku_X4 0 rfl rfl 4 (by decide) kw_X4_34 rfl dX4_by_17 ?_
    refine ww_iload_n C0 dX4_by_20 rfl ?_
    refine ww_iload_n C0 dX4_by_21 rfl ?_
    refine ww_callVi C0 (qc := (RX4, TX4, 14)) 0 4 (c_X4_forbidders l D cI cZ cQ hnm hna hk) kd_X4_forbidders kw_X4_131 km_X4_forbidders kl_X4_forbidders ki_X4 hd_X4_forbidders rfl rfl ⟨Nat.le_of_ble_eq_true rfl, Nat.le_of_ble_eq_true rfl, rfl, rfl⟩ (Nat.le_of_ble_eq_true rfl) dX4_by_22 rfl rfl rfl ⟨Nat.zero_le _, Nat.zero_le _⟩ ?_
    exact ww_iret C0 hr dX4_by_25 (by simp [*]) (by rfl)
  · skip
    refine ww_iload_n C0 dX4_by_11 rfl ?_
    refine ww_goto (tgt := 25) C0 dX4_by_12 (by decide) ?_
    exact ww_iret C0 hr dX4_by_25 (by simp [*]) (by rfl)

set_option maxHeartbeats 4000000 in
set_option maxRecDepth 100000 in
theorem c_X4_balks (l : Launch) (D : va_G) (cI cZ cQ : ClassId) {aX aT aL aC aN aY aA aO aK aG aW al0 al1 al2 an0 an1 an2 : Nat} {nm fa ac na : Nat} {hN bN : Int32} {sd : Int64} {fl0 fl1 fl2 fC fn0 fn1 fn2 : Nat → Int32} {rest : va_W} {k : Nat} {wa : Int32} (hnm : nm ≤ 5) (hna : na ≤ 5) (hk : k < nm) : MI l D [(cI, .int), (cZ, .boolean), (cQ, .object "MulesRemember$State")] yX4_balks cX4_balks 4 .int ({ frames := 5, cells := 0, slots := 0, locals := 126 } : Room) [.ref aX, .int (nI k), .int wa] ((aX, .inr (4, [.ref aT, .ref aL, .ref aC, .int (nI nm), .ref aN, .ref aY, .ref aA, .int (nI fa), .int (nI ac), .ref aO, .ref aK, .ref aG, .ref aW, .long sd])) :: (aL, .inr (0, [.ref al0, .ref al1, .ref al2, .int (nI na)])) :: (al0, .inl (cI, 5, .inl (fl0))) :: (al1, .inl (cI, 5, .inl (fl1))) :: (al2, .inl (cI, 5, .inl (fl2))) :: (aC, .inl (cI, 5, .inl (fC))) :: (aN, .inr (2, [.ref an0, .ref an1, .ref an2, .int hN, .int bN])) :: (an0, .inl (cI, 5, .inl (fn0))) :: (an1, .inl (cI, 5, .inl (fn1))) :: (an2, .inl (cI, 5, .inl (fn2))) :: rest) (if sRef (fn0 k) wa = 0 then sFirst (sBalk (sFF nm na fl0 fl1 fl2 fC fn0 k (fn0 k) wa hN) (sKnown na (fn1 k) (fn2 k))) else sRef (fn0 k) wa) ((aX, .inr (4, [.ref aT, .ref aL, .ref aC, .int (nI nm), .ref aN, .ref aY, .ref aA, .int (nI fa), .int (nI ac), .ref aO, .ref aK, .ref aG, .ref aW, .long sd])) :: (aL, .inr (0, [.ref al0, .ref al1, .ref al2, .int (nI na)])) :: (al0, .inl (cI, 5, .inl (fl0))) :: (al1, .inl (cI, 5, .inl (fl1))) :: (al2, .inl (cI, 5, .inl (fl2))) :: (aC, .inl (cI, 5, .inl (fC))) :: (aN, .inr (2, [.ref an0, .ref an1, .ref an2, .int hN, .int bN])) :: (an0, .inl (cI, 5, .inl (fn0))) :: (an1, .inl (cI, 5, .inl (fn1))) :: (an2, .inl (cI, 5, .inl (fn2))) :: rest) := by
  refine MI.of [.ref aX, .int (nI k), .int wa, .null] (by decide) (Nat.le_of_ble_eq_true rfl) rfl ?_
  intro p e s m below meth c A C0 hr
  refine ww_aload_n C0 dX4_balks_0 rfl ?_
  refine ww_iload_n C0 dX4_balks_1 rfl ?_
  refine ww_iload_n C0 dX4_balks_2 rfl ?_
  refine ww_callVi C0 (qc := (RX4, TX4, 14)) 0 4 (c_X4_stepRefusal l D cI cZ cQ hnm hna hk) kd_X4_stepRefusal kw_X4_127 km_X4_stepRefusal kl_X4_stepRefusal ki_X4 hd_X4_stepRefusal rfl rfl ⟨Nat.le_of_ble_eq_true rfl, Nat.le_of_ble_eq_true rfl, rfl, rfl⟩ (Nat.le_of_ble_eq_true rfl) dX4_balks_3 rfl rfl rfl ⟨Nat.zero_le _, Nat.zero_le _⟩ ?_
  refine ww_istore_n (i := 3) C0 dX4_balks_6 rfl (Nat.le_of_ble_eq_true rfl) rfl ?_
  simp only [List.set_cons_zero, List.set_cons_succ]
  refine ww_iload_n C0 dX4_balks_7 rfl ?_
  refine ww_if_eq (tgt := 15) C0 dX4_balks_8 (by decide) (fun h8 => ?_) (fun h8 => ?_)
  · skip
    refine ww_aload_n C0 dX4_balks_15 rfl ?_
    refine ww_aload_n C0 dX4_balks_16 rfl ?_
    refine ww_get C0 (ci := 4) (C := RX4) (T := TX4) (N := 14) ku_X4 0 rfl rfl 4 (by decide) kw_X4_34 rfl dX4_balks_17 ?_
    refine ww_iload_n C0 dX4_balks_20 rfl ?_
    refine ww_iload_n C0 dX4_balks_21 rfl ?_
    refine ww_callVi C0 (qc := (RX4, TX4, 14)) 0 4 (c_X4_balkers l D cI cZ cQ hnm hna hk) kd_X4_balkers kw_X4_135 km_X4_balkers kl_X4_balkers ki_X4 hd_X4_balkers rfl rfl ⟨Nat.le_of_ble_eq_true rfl, Nat.le_of_ble_eq_true rfl, rfl, rfl⟩ (Nat.le_of_ble_eq_true rfl) dX4_balks_22 rfl rfl rfl ⟨Nat.zero_le _, Nat.zero_le _⟩ ?_
    refine ww_callSi C0 (c_X4_firstOf l D cI cZ cQ) kd_X4_firstOf kw_X4_138 ks_X4_firstOf ki_X4 hd_X4_firstOf ⟨Nat.le_of_ble_eq_true rfl, Nat.le_of_ble_eq_true rfl, rfl, rfl⟩ (Nat.le_of_ble_eq_true rfl) dX4_balks_25 rfl rfl ⟨Nat.zero_le _, Nat.zero_le _⟩ ?_
    exact ww_iret C0 hr dX4_balks_28 (by simp [*]) (by rfl)
  · skip
    refine ww_iload_n C0 dX4_balks_11 rfl ?_
    refine ww_goto (tgt := 28) C0 dX4_balks_12 (by decide) ?_
    exact ww_iret C0 hr dX4_balks_28 (by simp [*]) (by rfl)

set_option maxHeartbeats 4000000 in
set_option maxRecDepth 100000 in
theorem c_X4_step_r (l : Launch) (D : va_G) (cI cZ cQ : ClassId) {aX aT aL aC aN aY aA aO aK aG aW al0 al1 al2 an0 an1 an2 : Nat} {nm fa ac na : Nat} {hN bN : Int32} {sd : Int64} {fl0 fl1 fl2 fC fn0 fn1 fn2 : Nat → Int32} {rest : va_W} {k : Nat} {wa : Int32} (hnm : nm ≤ 5) (hna : na ≤ 5) (hk : k < nm) (hs : ¬ sRef (fn0 k) wa = 0) : MI l D [(cI, .int), (cZ, .boolean), (cQ, .object "MulesRemember$State")] yX4_step cX4_step 4 .int ({ frames := 5, cells := 0, slots := 0, locals := 126 } : Room) [.ref aX, .int (nI k), .int wa] ((aX, .inr (4, [.ref aT, .ref aL, .ref aC, .int (nI nm), .ref aN, .ref aY, .ref aA, .int (nI fa), .int (nI ac), .ref aO, .ref aK, .ref aG, .ref aW, .long sd])) :: (aL, .inr (0, [.ref al0, .ref al1, .ref al2, .int (nI na)])) :: (al0, .inl (cI, 5, .inl (fl0))) :: (al1, .inl (cI, 5, .inl (fl1))) :: (al2, .inl (cI, 5, .inl (fl2))) :: (aC, .inl (cI, 5, .inl (fC))) :: (aN, .inr (2, [.ref an0, .ref an1, .ref an2, .int hN, .int bN])) :: (an0, .inl (cI, 5, .inl (fn0))) :: (an1, .inl (cI, 5, .inl (fn1))) :: (an2, .inl (cI, 5, .inl (fn2))) :: rest) (sRef (fn0 k) wa) ((aX, .inr (4, [.ref aT, .ref aL, .ref aC, .int (nI nm), .ref aN, .ref aY, .ref aA, .int (nI fa), .int (nI ac), .ref aO, .ref aK, .ref aG, .ref aW, .long sd])) :: (aL, .inr (0, [.ref al0, .ref al1, .ref al2, .int (nI na)])) :: (al0, .inl (cI, 5, .inl (fl0))) :: (al1, .inl (cI, 5, .inl (fl1))) :: (al2, .inl (cI, 5, .inl (fl2))) :: (aC, .inl (cI, 5, .inl (fC))) :: (aN, .inr (2, [.ref an0, .ref an1, .ref an2, .int hN, .int bN])) :: (an0, .inl (cI, 5, .inl (fn0))) :: (an1, .inl (cI, 5, .inl (fn1))) :: (an2, .inl (cI, 5, .inl (fn2))) :: rest) := by
  refine MI.of [.ref aX, .int (nI k), .int wa, .null] (by decide) (Nat.le_of_ble_eq_true rfl) rfl ?_
  intro p e s m below meth c A C0 hr
  refine ww_aload_n C0 dX4_step_0 rfl ?_
  refine ww_iload_n C0 dX4_step_1 rfl ?_
  refine ww_iload_n C0 dX4_step_2 rfl ?_
  refine ww_callVi C0 (qc := (RX4, TX4, 14)) 0 4 (c_X4_stepRefusal l D cI cZ cQ hnm hna hk) kd_X4_stepRefusal kw_X4_127 km_X4_stepRefusal kl_X4_stepRefusal ki_X4 hd_X4_stepRefusal rfl rfl ⟨Nat.le_of_ble_eq_true rfl, Nat.le_of_ble_eq_true rfl, rfl, rfl⟩ (Nat.le_of_ble_eq_true rfl) dX4_step_3 rfl rfl rfl ⟨Nat.zero_le _, Nat.zero_le _⟩ ?_
  refine ww_istore_n (i := 3) C0 dX4_step_6 rfl (Nat.le_of_ble_eq_true rfl) rfl ?_
  simp only [List.set_cons_zero, List.set_cons_succ]
  refine ww_iload_n C0 dX4_step_7 rfl ?_
  refine ww_if_eq (tgt := 13) C0 dX4_step_8 (by decide) (fun h8 => ?_) (fun h8 => ?_)
  · skip
    exact absurd h8 hs
  · skip
    refine ww_iload_n C0 dX4_step_11 rfl ?_
    exact ww_iret C0 hr dX4_step_12 (by rfl) (by rfl)

set_option maxHeartbeats 4000000 in
set_option maxRecDepth 100000 in
theorem c_X4_step_l (l : Launch) (D : va_G) (cI cZ cQ : ClassId) {aX aT aL aC aN aY aA aO aK aG aW al0 al1 al2 an0 an1 an2 : Nat} {nm fa ac na : Nat} {hN bN : Int32} {sd : Int64} {fl0 fl1 fl2 fC fn0 fn1 fn2 : Nat → Int32} {rest : va_W} {k : Nat} {wa : Int32} (hnm : nm ≤ 5) (hna : na ≤ 5) (hk : k < nm) (hs : sRef (fn0 k) wa = 0) (hg : (sGoes (sFF nm na fl0 fl1 fl2 fC fn0 k (fn0 k) wa hN) (sKnown na (fn1 k) (fn2 k))) = false) : MI l D [(cI, .int), (cZ, .boolean), (cQ, .object "MulesRemember$State")] yX4_step cX4_step 4 .int ({ frames := 5, cells := 0, slots := 0, locals := 126 } : Room) [.ref aX, .int (nI k), .int wa] ((aX, .inr (4, [.ref aT, .ref aL, .ref aC, .int (nI nm), .ref aN, .ref aY, .ref aA, .int (nI fa), .int (nI ac), .ref aO, .ref aK, .ref aG, .ref aW, .long sd])) :: (aL, .inr (0, [.ref al0, .ref al1, .ref al2, .int (nI na)])) :: (al0, .inl (cI, 5, .inl (fl0))) :: (al1, .inl (cI, 5, .inl (fl1))) :: (al2, .inl (cI, 5, .inl (fl2))) :: (aC, .inl (cI, 5, .inl (fC))) :: (aN, .inr (2, [.ref an0, .ref an1, .ref an2, .int hN, .int bN])) :: (an0, .inl (cI, 5, .inl (fn0))) :: (an1, .inl (cI, 5, .inl (fn1))) :: (an2, .inl (cI, 5, .inl (fn2))) :: rest) (-3) ((aX, .inr (4, [.ref aT, .ref aL, .ref aC, .int (nI nm), .ref aN, .ref aY, .ref aA, .int (nI fa), .int (nI ac), .ref aO, .ref aK, .ref aG, .ref aW, .long sd])) :: (aL, .inr (0, [.ref al0, .ref al1, .ref al2, .int (nI na)])) :: (al0, .inl (cI, 5, .inl (fl0))) :: (al1, .inl (cI, 5, .inl (fl1))) :: (al2, .inl (cI, 5, .inl (fl2))) :: (aC, .inl (cI, 5, .inl (fC))) :: (aN, .inr (2, [.ref an0, .ref an1, .ref an2, .int hN, .int bN])) :: (an0, .inl (cI, 5, .inl (fn0))) :: (an1, .inl (cI, 5, .inl (fn1))) :: (an2, .inl (cI, 5, .inl (fn2))) :: rest) := by
  refine MI.of [.ref aX, .int (nI k), .int wa, .null] (by decide) (Nat.le_of_ble_eq_true rfl) rfl ?_
  intro p e s m below meth c A C0 hr
  refine ww_aload_n C0 dX4_step_0 rfl ?_
  refine ww_iload_n C0 dX4_step_1 rfl ?_
  refine ww_iload_n C0 dX4_step_2 rfl ?_
  refine ww_callVi C0 (qc := (RX4, TX4, 14)) 0 4 (c_X4_stepRefusal l D cI cZ cQ hnm hna hk) kd_X4_stepRefusal kw_X4_127 km_X4_stepRefusal kl_X4_stepRefusal ki_X4 hd_X4_stepRefusal rfl rfl ⟨Nat.le_of_ble_eq_true rfl, Nat.le_of_ble_eq_true rfl, rfl, rfl⟩ (Nat.le_of_ble_eq_true rfl) dX4_step_3 rfl rfl rfl ⟨Nat.zero_le _, Nat.zero_le _⟩ ?_
  refine ww_istore_n (i := 3) C0 dX4_step_6 rfl (Nat.le_of_ble_eq_true rfl) rfl ?_
  simp only [List.set_cons_zero, List.set_cons_succ]
  refine ww_iload_n C0 dX4_step_7 rfl ?_
  refine ww_if_eq (tgt := 13) C0 dX4_step_8 (by decide) (fun h8 => ?_) (fun h8 => ?_)
  · skip
    refine ww_aload_n C0 dX4_step_13 rfl ?_
    refine ww_aload_n C0 dX4_step_14 rfl ?_
    refine ww_get C0 (ci := 4) (C := RX4) (T := TX4) (N := 14) ku_X4 0 rfl rfl 4 (by decide) kw_X4_34 rfl dX4_step_15 ?_
    refine ww_iload_n C0 dX4_step_18 rfl ?_
    refine ww_iload_n C0 dX4_step_19 rfl ?_
    refine ww_callVi C0 (qc := (RX4, TX4, 14)) 0 4 (c_X4_wouldGo l D cI cZ cQ hnm hna hk) kd_X4_wouldGo kw_X4_141 km_X4_wouldGo kl_X4_wouldGo ki_X4 hd_X4_wouldGo rfl rfl ⟨Nat.le_of_ble_eq_true rfl, Nat.le_of_ble_eq_true rfl, rfl, rfl⟩ (Nat.le_of_ble_eq_true rfl) dX4_step_20 rfl rfl rfl ⟨Nat.zero_le _, Nat.zero_le _⟩ ?_
    refine ww_bif_ne (tgt := 29) C0 dX4_step_23 (by decide) (fun h23 => ?_) (fun h23 => ?_)
    · skip
      exact absurd h23 (by rw [hg]; decide)
    · skip
      refine ww_bipush (v := (-3)) C0 dX4_step_26 rfl ?_
      exact ww_iret C0 hr dX4_step_28 (by rfl) (by rfl)
  · skip
    exact absurd hs h8

set_option maxHeartbeats 4000000 in
set_option maxRecDepth 100000 in
theorem c_X4_step (l : Launch) (D : va_G) (cI cZ cQ : ClassId) {aX aT aL aC aN aY aA aO aK aG aW al0 al1 al2 an0 an1 an2 ay0 ay1 ay2 at0 ag0 ag1 ag2 ag3 ag4 : Nat} {nm fa ac na tn gn : Nat} {hN bN hY bY : Int32} {sd : Int64} {fl0 fl1 fl2 fC fn0 fn1 fn2 fy0 fy1 fy2 ft0 fg0 fg1 fg2 fg3 fg4 fW fK : Nat → Int32} {fO fA : Nat → Option Nat} {rest : va_W} {ad : Nat → Nat → Nat} {sv : Nat → SV} {k : Nat} {wa : Int32} (hnm : nm ≤ 5) (hna : na ≤ 5) (hk : k < nm) (hfa : fa < 14) (hac : ac ≤ 14) (hA : ∀ j, j < 14 → fA j = some (ad j 0)) (hs : sRef (fn0 k) wa = 0) (hg : (sGoes (sFF nm na fl0 fl1 fl2 fC fn0 k (fn0 k) wa hN) (sKnown na (fn1 k) (fn2 k))) = true) : MI l D [(cI, .int), (cZ, .boolean), (cQ, .object "MulesRemember$State")] yX4_step cX4_step 4 .int ({ frames := 5, cells := 0, slots := 0, locals := 126 } : Room) [.ref aX, .int (nI k), .int wa] ((aX, .inr (4, [.ref aT, .ref aL, .ref aC, .int (nI nm), .ref aN, .ref aY, .ref aA, .int (nI fa), .int (nI ac), .ref aO, .ref aK, .ref aG, .ref aW, .long sd])) :: (aL, .inr (0, [.ref al0, .ref al1, .ref al2, .int (nI na)])) :: (al0, .inl (cI, 5, .inl (fl0))) :: (al1, .inl (cI, 5, .inl (fl1))) :: (al2, .inl (cI, 5, .inl (fl2))) :: (aC, .inl (cI, 5, .inl (fC))) :: (aN, .inr (2, [.ref an0, .ref an1, .ref an2, .int hN, .int bN])) :: (an0, .inl (cI, 5, .inl (fn0))) :: (an1, .inl (cI, 5, .inl (fn1))) :: (an2, .inl (cI, 5, .inl (fn2))) :: (aY, .inr (2, [.ref ay0, .ref ay1, .ref ay2, .int hY, .int bY])) :: (ay0, .inl (cI, 5, .inl (fy0))) :: (ay1, .inl (cI, 5, .inl (fy1))) :: (ay2, .inl (cI, 5, .inl (fy2))) :: (aT, .inr (3, [.ref at0, .int (nI tn)])) :: (at0, .inl (cI, 48, .inl (ft0))) :: (aG, .inr (1, [.ref ag0, .ref ag1, .ref ag2, .ref ag3, .ref ag4, .int (nI gn)])) :: (ag0, .inl (cI, 6, .inl (fg0))) :: (ag1, .inl (cI, 6, .inl (fg1))) :: (ag2, .inl (cI, 6, .inl (fg2))) :: (ag3, .inl (cI, 6, .inl (fg3))) :: (ag4, .inl (cI, 6, .inl (fg4))) :: (aW, .inl (cI, 6, .inl (fW))) :: (aK, .inl (cZ, 2, .inl (fK))) :: (aO, .inl (cQ, 2, .inr (.inr (.inr (.inr (fO)))))) :: (aA, .inl (cQ, 14, .inr (.inr (.inr (.inr (fA)))))) :: (pool cI ad sv 16 ++ rest)) (sNext (fn0 k) wa) ((aX, .inr (4, [.ref aT, .ref aL, .ref aC, .int (nI nm), .ref aN, .ref aY, .ref aA, .int (nI (rf fa ac)), .int (nI (ra ac)), .ref aO, .ref aK, .ref aG, .ref aW, .long sd])) :: (aL, .inr (0, [.ref al0, .ref al1, .ref al2, .int (nI na)])) :: (al0, .inl (cI, 5, .inl (fl0))) :: (al1, .inl (cI, 5, .inl (fl1))) :: (al2, .inl (cI, 5, .inl (fl2))) :: (aC, .inl (cI, 5, .inl (fC))) :: (aN, .inr (2, [.ref an0, .ref an1, .ref an2, .int (hN + 1), .int (bN + sBC (sFF nm na fl0 fl1 fl2 fC fn0 k (fn0 k) wa hN))])) :: (an0, .inl (cI, 5, .inl (upd fn0 k (sNext (fn0 k) wa)))) :: (an1, .inl (cI, 5, .inl (fn1))) :: (an2, .inl (cI, 5, .inl (fn2))) :: (aY, .inr (2, [.ref ay0, .ref ay1, .ref ay2, .int hY, .int bY])) :: (ay0, .inl (cI, 5, .inl (fy0))) :: (ay1, .inl (cI, 5, .inl (fy1))) :: (ay2, .inl (cI, 5, .inl (fy2))) :: (aT, .inr (3, [.ref at0, .int (nI tn)])) :: (at0, .inl (cI, 48, .inl (ft0))) :: (aG, .inr (1, [.ref ag0, .ref ag1, .ref ag2, .ref ag3, .ref ag4, .int (nI gn)])) :: (ag0, .inl (cI, 6, .inl (fg0))) :: (ag1, .inl (cI, 6, .inl (fg1))) :: (ag2, .inl (cI, 6, .inl (fg2))) :: (ag3, .inl (cI, 6, .inl (fg3))) :: (ag4, .inl (cI, 6, .inl (fg4))) :: (aW, .inl (cI, 6, .inl (fW))) :: (aK, .inl (cZ, 2, .inl (fK))) :: (aO, .inl (cQ, 2, .inr (.inr (.inr (.inr (fO)))))) :: (aA, .inl (cQ, 14, .inr (.inr (.inr (.inr (fA)))))) :: (pool cI ad (va_up sv (ri fa ac) (fn0, fn1, fn2, hN, bN)) 16 ++ rest)) := by
  refine MI.of [.ref aX, .int (nI k), .int wa, .null] (by decide) (Nat.le_of_ble_eq_true rfl) rfl ?_
  intro p e s m below meth c A C0 hr
  refine ww_aload_n C0 dX4_step_0 rfl ?_
  refine ww_iload_n C0 dX4_step_1 rfl ?_
  refine ww_iload_n C0 dX4_step_2 rfl ?_
  refine ww_callVi C0 (qc := (RX4, TX4, 14)) 0 4 (c_X4_stepRefusal l D cI cZ cQ hnm hna hk) kd_X4_stepRefusal kw_X4_127 km_X4_stepRefusal kl_X4_stepRefusal ki_X4 hd_X4_stepRefusal rfl rfl ⟨Nat.le_of_ble_eq_true rfl, Nat.le_of_ble_eq_true rfl, rfl, rfl⟩ (Nat.le_of_ble_eq_true rfl) dX4_step_3 rfl rfl rfl ⟨Nat.zero_le _, Nat.zero_le _⟩ ?_
  refine ww_istore_n (i := 3) C0 dX4_step_6 rfl (Nat.le_of_ble_eq_true rfl) rfl ?_
  simp only [List.set_cons_zero, List.set_cons_succ]
  refine ww_iload_n C0 dX4_step_7 rfl ?_
  refine ww_if_eq (tgt := 13) C0 dX4_step_8 (by decide) (fun h8 => ?_) (fun h8 => ?_)
  · skip
    refine ww_aload_n C0 dX4_step_13 rfl ?_
    refine ww_aload_n C0 dX4_step_14 rfl ?_
    refine ww_get C0 (ci := 4) (C := RX4) (T := TX4) (N := 14) ku_X4 0 rfl rfl 4 (by decide) kw_X4_34 rfl dX4_step_15 ?_
    refine ww_iload_n C0 dX4_step_18 rfl ?_
    refine ww_iload_n C0 dX4_step_19 rfl ?_
    refine ww_callVi C0 (qc := (RX4, TX4, 14)) 0 4 (c_X4_wouldGo l D cI cZ cQ hnm hna hk) kd_X4_wouldGo kw_X4_141 km_X4_wouldGo kl_X4_wouldGo ki_X4 hd_X4_wouldGo rfl rfl ⟨Nat.le_of_ble_eq_true rfl, Nat.le_of_ble_eq_true rfl, rfl, rfl⟩ (Nat.le_of_ble_eq_true rfl) dX4_step_20 rfl rfl rfl ⟨Nat.zero_le _, Nat.zero_le _⟩ ?_
    refine ww_bif_ne (tgt := 29) C0 dX4_step_23 (by decide) (fun h23 => ?_) (fun h23 => ?_)
    · skip
      refine ww_aload_n C0 dX4_step_29 rfl ?_
      refine ww_callVv C0 (qc := (RX4, TX4, 14)) 0 4 (c_X4_rememberAct l D cI cZ cQ hfa hac hA) kd_X4_rememberAct kw_X4_145 km_X4_rememberAct kl_X4_rememberAct ki_X4 hd_X4_rememberAct rfl rfl ⟨Nat.le_of_ble_eq_true rfl, Nat.le_of_ble_eq_true rfl, rfl, rfl⟩ (Nat.le_of_ble_eq_true rfl) dX4_step_30 rfl rfl rfl ⟨Nat.zero_le _, Nat.zero_le _⟩ ?_
      refine ww_aload_n C0 dX4_step_33 rfl ?_
      refine ww_aload_n C0 dX4_step_34 rfl ?_
      refine ww_get C0 (ci := 4) (C := RX4) (T := TX4) (N := 14) ku_X4 0 rfl rfl 4 (by decide) kw_X4_34 rfl dX4_step_35 ?_
      refine ww_iload_n C0 dX4_step_38 rfl ?_
      refine ww_iload_n C0 dX4_step_39 rfl ?_
      refine ww_callVv C0 (qc := (RX4, TX4, 14)) 0 4 (c_X4_go l D cI cZ cQ hnm hna hk (sGoes_ne hg)) kd_X4_go kw_X4_148 km_X4_go kl_X4_go ki_X4 hd_X4_go rfl rfl ⟨Nat.le_of_ble_eq_true rfl, Nat.le_of_ble_eq_true rfl, rfl, rfl⟩ (Nat.le_of_ble_eq_true rfl) dX4_step_40 rfl rfl rfl ⟨Nat.zero_le _, Nat.zero_le _⟩ ?_
      refine ww_aload_n C0 dX4_step_43 rfl ?_
      refine ww_get C0 (ci := 4) (C := RX4) (T := TX4) (N := 14) ku_X4 0 rfl rfl 4 (by decide) kw_X4_34 rfl dX4_step_44 ?_
      refine ww_getN C0 (ci := 2) (C := RX2) (T := TX2) (N := 5) ku_X2 6 rfl rfl 0 (by decide) kn_X4_116 rfl dX4_step_47 ?_
      refine ww_iload_n C0 dX4_step_50 rfl ?_
      refine ww_iald_n (j := k) C0 7 0 rfl rfl rfl (by omega) (by decide) dX4_step_51 ?_
      exact ww_iret C0 hr dX4_step_52 (by simp [upd]) (by rfl)
    · skip
      exact absurd hg (by rw [h23]; decide)
  · skip
    exact absurd hs h8

set_option maxHeartbeats 4000000 in
set_option maxRecDepth 100000 in
theorem c_X4_pause (l : Launch) (D : va_G) (cI cZ cQ : ClassId) {aX aT aL aC aN aY aA aO aK aG aW al0 al1 al2 an0 an1 an2 ay0 ay1 ay2 at0 ag0 ag1 ag2 ag3 ag4 : Nat} {nm fa ac na tn gn : Nat} {hN bN hY bY : Int32} {sd : Int64} {fl0 fl1 fl2 fC fn0 fn1 fn2 fy0 fy1 fy2 ft0 fg0 fg1 fg2 fg3 fg4 fW fK : Nat → Int32} {fO fA : Nat → Option Nat} {rest : va_W} {ad : Nat → Nat → Nat} {sv : Nat → SV} (hfa : fa < 14) (hac : ac ≤ 14) (hA : ∀ j, j < 14 → fA j = some (ad j 0)) : MI l D [(cI, .int), (cZ, .boolean), (cQ, .object "MulesRemember$State")] yX4_pause cX4_pause 1 .int ({ frames := 2, cells := 0, slots := 0, locals := 42 } : Room) [.ref aX] ((aX, .inr (4, [.ref aT, .ref aL, .ref aC, .int (nI nm), .ref aN, .ref aY, .ref aA, .int (nI fa), .int (nI ac), .ref aO, .ref aK, .ref aG, .ref aW, .long sd])) :: (aL, .inr (0, [.ref al0, .ref al1, .ref al2, .int (nI na)])) :: (al0, .inl (cI, 5, .inl (fl0))) :: (al1, .inl (cI, 5, .inl (fl1))) :: (al2, .inl (cI, 5, .inl (fl2))) :: (aC, .inl (cI, 5, .inl (fC))) :: (aN, .inr (2, [.ref an0, .ref an1, .ref an2, .int hN, .int bN])) :: (an0, .inl (cI, 5, .inl (fn0))) :: (an1, .inl (cI, 5, .inl (fn1))) :: (an2, .inl (cI, 5, .inl (fn2))) :: (aY, .inr (2, [.ref ay0, .ref ay1, .ref ay2, .int hY, .int bY])) :: (ay0, .inl (cI, 5, .inl (fy0))) :: (ay1, .inl (cI, 5, .inl (fy1))) :: (ay2, .inl (cI, 5, .inl (fy2))) :: (aT, .inr (3, [.ref at0, .int (nI tn)])) :: (at0, .inl (cI, 48, .inl (ft0))) :: (aG, .inr (1, [.ref ag0, .ref ag1, .ref ag2, .ref ag3, .ref ag4, .int (nI gn)])) :: (ag0, .inl (cI, 6, .inl (fg0))) :: (ag1, .inl (cI, 6, .inl (fg1))) :: (ag2, .inl (cI, 6, .inl (fg2))) :: (ag3, .inl (cI, 6, .inl (fg3))) :: (ag4, .inl (cI, 6, .inl (fg4))) :: (aW, .inl (cI, 6, .inl (fW))) :: (aK, .inl (cZ, 2, .inl (fK))) :: (aO, .inl (cQ, 2, .inr (.inr (.inr (.inr (fO)))))) :: (aA, .inl (cQ, 14, .inr (.inr (.inr (.inr (fA)))))) :: (pool cI ad sv 16 ++ rest)) (hN + 1) ((aX, .inr (4, [.ref aT, .ref aL, .ref aC, .int (nI nm), .ref aN, .ref aY, .ref aA, .int (nI (rf fa ac)), .int (nI (ra ac)), .ref aO, .ref aK, .ref aG, .ref aW, .long sd])) :: (aL, .inr (0, [.ref al0, .ref al1, .ref al2, .int (nI na)])) :: (al0, .inl (cI, 5, .inl (fl0))) :: (al1, .inl (cI, 5, .inl (fl1))) :: (al2, .inl (cI, 5, .inl (fl2))) :: (aC, .inl (cI, 5, .inl (fC))) :: (aN, .inr (2, [.ref an0, .ref an1, .ref an2, .int (hN + 1), .int bN])) :: (an0, .inl (cI, 5, .inl (fn0))) :: (an1, .inl (cI, 5, .inl (fn1))) :: (an2, .inl (cI, 5, .inl (fn2))) :: (aY, .inr (2, [.ref ay0, .ref ay1, .ref ay2, .int hY, .int bY])) :: (ay0, .inl (cI, 5, .inl (fy0))) :: (ay1, .inl (cI, 5, .inl (fy1))) :: (ay2, .inl (cI, 5, .inl (fy2))) :: (aT, .inr (3, [.ref at0, .int (nI tn)])) :: (at0, .inl (cI, 48, .inl (ft0))) :: (aG, .inr (1, [.ref ag0, .ref ag1, .ref ag2, .ref ag3, .ref ag4, .int (nI gn)])) :: (ag0, .inl (cI, 6, .inl (fg0))) :: (ag1, .inl (cI, 6, .inl (fg1))) :: (ag2, .inl (cI, 6, .inl (fg2))) :: (ag3, .inl (cI, 6, .inl (fg3))) :: (ag4, .inl (cI, 6, .inl (fg4))) :: (aW, .inl (cI, 6, .inl (fW))) :: (aK, .inl (cZ, 2, .inl (fK))) :: (aO, .inl (cQ, 2, .inr (.inr (.inr (.inr (fO)))))) :: (aA, .inl (cQ, 14, .inr (.inr (.inr (.inr (fA)))))) :: (pool cI ad (va_up sv (ri fa ac) (fn0, fn1, fn2, hN, bN)) 16 ++ rest)) := by
  refine MI.of [.ref aX] (by decide) (Nat.le_of_ble_eq_true rfl) rfl ?_
  intro p e s m below meth c A C0 hr
  refine ww_aload_n C0 dX4_pause_0 rfl ?_
  refine ww_callVv C0 (qc := (RX4, TX4, 14)) 0 4 (c_X4_rememberAct l D cI cZ cQ hfa hac hA) kd_X4_rememberAct kw_X4_145 km_X4_rememberAct kl_X4_rememberAct ki_X4 hd_X4_rememberAct rfl rfl ⟨Nat.le_of_ble_eq_true rfl, Nat.le_of_ble_eq_true rfl, rfl, rfl⟩ (Nat.le_of_ble_eq_true rfl) dX4_pause_1 rfl rfl rfl ⟨Nat.zero_le _, Nat.zero_le _⟩ ?_
  refine ww_aload_n C0 dX4_pause_4 rfl ?_
  refine ww_get C0 (ci := 4) (C := RX4) (T := TX4) (N := 14) ku_X4 0 rfl rfl 4 (by decide) kw_X4_34 rfl dX4_pause_5 ?_
  refine ww_dup C0 dX4_pause_8 rfl ?_
  refine ww_getN C0 (ci := 2) (C := RX2) (T := TX2) (N := 5) ku_X2 6 rfl rfl 3 (by decide) kn_X4_86 rfl dX4_pause_9 ?_
  refine ww_iconst (v := (1)) C0 dX4_pause_12 rfl ?_
  refine ww_iadd C0 dX4_pause_13 ?_
  refine ww_putN C0 (ci := 2) (C := RX2) (T := TX2) (N := 5) ku_X2 6 rfl rfl 3 (by decide) tyX2 tyX2_ok nmX2 kn_X4_86 rfl (ty := .int) (by decide +kernel) rfl rfl (Nat.le_of_ble_eq_true rfl) dX4_pause_14 ?_
  simp only [List.set_cons_zero, List.set_cons_succ]
  refine ww_aload_n C0 dX4_pause_17 rfl ?_
  refine ww_get C0 (ci := 4) (C := RX4) (T := TX4) (N := 14) ku_X4 0 rfl rfl 4 (by decide) kw_X4_34 rfl dX4_pause_18 ?_
  refine ww_getN C0 (ci := 2) (C := RX2) (T := TX2) (N := 5) ku_X2 6 rfl rfl 3 (by decide) kn_X4_86 rfl dX4_pause_21 ?_
  exact ww_iret C0 hr dX4_pause_24 (by rfl) (by rfl)

set_option maxHeartbeats 4000000 in
set_option maxRecDepth 100000 in
theorem c_X4_show_b (l : Launch) (D : va_G) (cI cZ cQ : ClassId) {aX aT aL aC aN aY aA aO aK aG aW al0 al1 al2 : Nat} {nm fa ac na : Nat} {sd : Int64} {rest : va_W} {m o a : Int32} (hnm : nm ≤ 5) (hna : na ≤ 5) (hm : (isN nm m && isN nm o && isN na a) = false) : MI l D [(cI, .int), (cZ, .boolean), (cQ, .object "MulesRemember$State")] yX4_show cX4_show 6 .int ({ frames := 3, cells := 0, slots := 0, locals := 65 } : Room) [.ref aX, .int m, .int o, .int a] ((aX, .inr (4, [.ref aT, .ref aL, .ref aC, .int (nI nm), .ref aN, .ref aY, .ref aA, .int (nI fa), .int (nI ac), .ref aO, .ref aK, .ref aG, .ref aW, .long sd])) :: (aL, .inr (0, [.ref al0, .ref al1, .ref al2, .int (nI na)])) :: rest) (-1) ((aX, .inr (4, [.ref aT, .ref aL, .ref aC, .int (nI nm), .ref aN, .ref aY, .ref aA, .int (nI fa), .int (nI ac), .ref aO, .ref aK, .ref aG, .ref aW, .long sd])) :: (aL, .inr (0, [.ref al0, .ref al1, .ref al2, .int (nI na)])) :: rest) := by
  refine MI.of [.ref aX, .int m, .int o, .int a, .null, .null] (by decide) (Nat.le_of_ble_eq_true rfl) rfl ?_
  intro p e s m below meth c A C0 hr
  refine ww_aload_n C0 dX4_show_0 rfl ?_
  refine ww_iload_n C0 dX4_show_1 rfl ?_
  refine ww_callVi C0 (qc := (RX4, TX4, 14)) 0 4 (c_X4_isMule l D cI cZ cQ hnm) kd_X4_isMule kw_X4_113 km_X4_isMule kl_X4_isMule ki_X4 hd_X4_isMule rfl rfl ⟨Nat.le_of_ble_eq_true rfl, Nat.le_of_ble_eq_true rfl, rfl, rfl⟩ (Nat.le_of_ble_eq_true rfl) dX4_show_2 rfl rfl rfl ⟨Nat.zero_le _, Nat.zero_le _⟩ ?_
  refine ww_bif_eq (tgt := 24) C0 dX4_show_5 (by decide) (fun h5 => ?_) (fun h5 => ?_)
  · skip
    refine ww_iconst (v := (-1)) C0 dX4_show_24 rfl ?_
    exact ww_iret C0 hr dX4_show_25 (by rfl) (by rfl)
  · skip
    refine ww_aload_n C0 dX4_show_8 rfl ?_
    refine ww_iload_n C0 dX4_show_9 rfl ?_
    refine ww_callVi C0 (qc := (RX4, TX4, 14)) 0 4 (c_X4_isMule l D cI cZ cQ hnm) kd_X4_isMule kw_X4_113 km_X4_isMule kl_X4_isMule ki_X4 hd_X4_isMule rfl rfl ⟨Nat.le_of_ble_eq_true rfl, Nat.le_of_ble_eq_true rfl, rfl, rfl⟩ (Nat.le_of_ble_eq_true rfl) dX4_show_10 rfl rfl rfl ⟨Nat.zero_le _, Nat.zero_le _⟩ ?_
    refine ww_bif_eq (tgt := 24) C0 dX4_show_13 (by decide) (fun h13 => ?_) (fun h13 => ?_)
    · skip
      refine ww_iconst (v := (-1)) C0 dX4_show_24 rfl ?_
      exact ww_iret C0 hr dX4_show_25 (by rfl) (by rfl)
    · skip
      refine ww_aload_n C0 dX4_show_16 rfl ?_
      refine ww_iload_n C0 dX4_show_17 rfl ?_
      refine ww_callVi C0 (qc := (RX4, TX4, 14)) 0 4 (c_X4_isArticle l D cI cZ cQ hna) kd_X4_isArticle kw_X4_97 km_X4_isArticle kl_X4_isArticle ki_X4 hd_X4_isArticle rfl rfl ⟨Nat.le_of_ble_eq_true rfl, Nat.le_of_ble_eq_true rfl, rfl, rfl⟩ (Nat.le_of_ble_eq_true rfl) dX4_show_18 rfl rfl rfl ⟨Nat.zero_le _, Nat.zero_le _⟩ ?_
      refine ww_bif_ne (tgt := 26) C0 dX4_show_21 (by decide) (fun h21 => ?_) (fun h21 => ?_)
      · skip
        exact absurd hm (by rw [h5, h13, h21]; decide)
      · skip
        refine ww_iconst (v := (-1)) C0 dX4_show_24 rfl ?_
        exact ww_iret C0 hr dX4_show_25 (by rfl) (by rfl)

set_option maxHeartbeats 4000000 in
set_option maxRecDepth 100000 in
theorem c_X4_show_s (l : Launch) (D : va_G) (cI cZ cQ : ClassId) {aX aT aL aC aN aY aA aO aK aG aW al0 al1 al2 an0 an1 an2 : Nat} {nm fa ac na : Nat} {hN bN : Int32} {sd : Int64} {fl0 fl1 fl2 fC fn0 fn1 fn2 : Nat → Int32} {rest : va_W} {k o a : Nat} (hnm : nm ≤ 5) (hna : na ≤ 5) (hk : k < nm) (ho : o < nm) (ha : a < na) (he : k = o) : MI l D [(cI, .int), (cZ, .boolean), (cQ, .object "MulesRemember$State")] yX4_show cX4_show 6 .int ({ frames := 3, cells := 0, slots := 0, locals := 65 } : Room) [.ref aX, .int (nI k), .int (nI o), .int (nI a)] ((aX, .inr (4, [.ref aT, .ref aL, .ref aC, .int (nI nm), .ref aN, .ref aY, .ref aA, .int (nI fa), .int (nI ac), .ref aO, .ref aK, .ref aG, .ref aW, .long sd])) :: (aL, .inr (0, [.ref al0, .ref al1, .ref al2, .int (nI na)])) :: (al0, .inl (cI, 5, .inl (fl0))) :: (al1, .inl (cI, 5, .inl (fl1))) :: (al2, .inl (cI, 5, .inl (fl2))) :: (aC, .inl (cI, 5, .inl (fC))) :: (aN, .inr (2, [.ref an0, .ref an1, .ref an2, .int hN, .int bN])) :: (an0, .inl (cI, 5, .inl (fn0))) :: (an1, .inl (cI, 5, .inl (fn1))) :: (an2, .inl (cI, 5, .inl (fn2))) :: rest) (-2) ((aX, .inr (4, [.ref aT, .ref aL, .ref aC, .int (nI nm), .ref aN, .ref aY, .ref aA, .int (nI fa), .int (nI ac), .ref aO, .ref aK, .ref aG, .ref aW, .long sd])) :: (aL, .inr (0, [.ref al0, .ref al1, .ref al2, .int (nI na)])) :: (al0, .inl (cI, 5, .inl (fl0))) :: (al1, .inl (cI, 5, .inl (fl1))) :: (al2, .inl (cI, 5, .inl (fl2))) :: (aC, .inl (cI, 5, .inl (fC))) :: (aN, .inr (2, [.ref an0, .ref an1, .ref an2, .int hN, .int bN])) :: (an0, .inl (cI, 5, .inl (fn0))) :: (an1, .inl (cI, 5, .inl (fn1))) :: (an2, .inl (cI, 5, .inl (fn2))) :: rest) := by
  refine MI.of [.ref aX, .int (nI k), .int (nI o), .int (nI a), .null, .null] (by decide) (Nat.le_of_ble_eq_true rfl) rfl ?_
  intro p e s m below meth c A C0 hr
  refine ww_aload_n C0 dX4_show_0 rfl ?_
  refine ww_iload_n C0 dX4_show_1 rfl ?_
  refine ww_callVi C0 (qc := (RX4, TX4, 14)) 0 4 (c_X4_isMule l D cI cZ cQ hnm) kd_X4_isMule kw_X4_113 km_X4_isMule kl_X4_isMule ki_X4 hd_X4_isMule rfl rfl ⟨Nat.le_of_ble_eq_true rfl, Nat.le_of_ble_eq_true rfl, rfl, rfl⟩ (Nat.le_of_ble_eq_true rfl) dX4_show_2 rfl rfl rfl ⟨Nat.zero_le _, Nat.zero_le _⟩ ?_
  refine ww_bif_eq (tgt := 24) C0 dX4_show_5 (by decide) (fun h5 => ?_) (fun h5 => ?_)
  · skip
    exact absurd (isN_nI (by omega) hk) (by rw [h5]; decide)
  · skip
    refine ww_aload_n C0 dX4_show_8 rfl ?_
    refine ww_iload_n C0 dX4_show_9 rfl ?_
    refine ww_callVi C0 (qc := (RX4, TX4, 14)) 0 4 (c_X4_isMule l D cI cZ cQ hnm) kd_X4_isMule kw_X4_113 km_X4_isMule kl_X4_isMule ki_X4 hd_X4_isMule rfl rfl ⟨Nat.le_of_ble_eq_true rfl, Nat.le_of_ble_eq_true rfl, rfl, rfl⟩ (Nat.le_of_ble_eq_true rfl) dX4_show_10 rfl rfl rfl ⟨Nat.zero_le _, Nat.zero_le _⟩ ?_
    refine ww_bif_eq (tgt := 24) C0 dX4_show_13 (by decide) (fun h13 => ?_) (fun h13 => ?_)
    · skip
      exact absurd (isN_nI (by omega) ho) (by rw [h13]; decide)
    · skip
      refine ww_aload_n C0 dX4_show_16 rfl ?_
      refine ww_iload_n C0 dX4_show_17 rfl ?_
      refine ww_callVi C0 (qc := (RX4, TX4, 14)) 0 4 (c_X4_isArticle l D cI cZ cQ hna) kd_X4_isArticle kw_X4_97 km_X4_isArticle kl_X4_isArticle ki_X4 hd_X4_isArticle rfl rfl ⟨Nat.le_of_ble_eq_true rfl, Nat.le_of_ble_eq_true rfl, rfl, rfl⟩ (Nat.le_of_ble_eq_true rfl) dX4_show_18 rfl rfl rfl ⟨Nat.zero_le _, Nat.zero_le _⟩ ?_
      refine ww_bif_ne (tgt := 26) C0 dX4_show_21 (by decide) (fun h21 => ?_) (fun h21 => ?_)
      · skip
        refine ww_iload_n C0 dX4_show_26 rfl ?_
        refine ww_iload_n C0 dX4_show_27 rfl ?_
        refine ww_icmp_ne (tgt := 34) C0 dX4_show_28 (by decide) (fun h28 => ?_) (fun h28 => ?_)
        · skip
          replace h28 := (not_congr (nI_eqE (a := k) (b := o) rfl rfl (by omega) (by omega))).mp h28
          exfalso; omega
        · skip
          replace h28 := (nI_eqE (a := k) (b := o) rfl rfl (by omega) (by omega)).mp h28
          refine ww_bipush (v := (-2)) C0 dX4_show_31 rfl ?_
          exact ww_iret C0 hr dX4_show_33 (by rfl) (by rfl)
      · skip
        exact absurd (isN_nI (by omega) ha) (by rw [h21]; decide)

set_option maxHeartbeats 4000000 in
set_option maxRecDepth 100000 in
theorem c_X4_show_l (l : Launch) (D : va_G) (cI cZ cQ : ClassId) {aX aT aL aC aN aY aA aO aK aG aW al0 al1 al2 an0 an1 an2 : Nat} {nm fa ac na : Nat} {hN bN : Int32} {sd : Int64} {fl0 fl1 fl2 fC fn0 fn1 fn2 : Nat → Int32} {rest : va_W} {k o a : Nat} (hnm : nm ≤ 5) (hna : na ≤ 5) (hk : k < nm) (ho : o < nm) (ha : a < na) (he : ¬ k = o) (hl : ¬ (fn0 k = fn0 o ∧ ¬ (sKnown na (fn1 o) (fn2 o) &&& ((1 : Int32) <<< (nI a &&& 31)) = 0) ∧ fn2 k &&& ((1 : Int32) <<< (nI a &&& 31)) = 0)) : MI l D [(cI, .int), (cZ, .boolean), (cQ, .object "MulesRemember$State")] yX4_show cX4_show 6 .int ({ frames := 3, cells := 0, slots := 0, locals := 65 } : Room) [.ref aX, .int (nI k), .int (nI o), .int (nI a)] ((aX, .inr (4, [.ref aT, .ref aL, .ref aC, .int (nI nm), .ref aN, .ref aY, .ref aA, .int (nI fa), .int (nI ac), .ref aO, .ref aK, .ref aG, .ref aW, .long sd])) :: (aL, .inr (0, [.ref al0, .ref al1, .ref al2, .int (nI na)])) :: (al0, .inl (cI, 5, .inl (fl0))) :: (al1, .inl (cI, 5, .inl (fl1))) :: (al2, .inl (cI, 5, .inl (fl2))) :: (aC, .inl (cI, 5, .inl (fC))) :: (aN, .inr (2, [.ref an0, .ref an1, .ref an2, .int hN, .int bN])) :: (an0, .inl (cI, 5, .inl (fn0))) :: (an1, .inl (cI, 5, .inl (fn1))) :: (an2, .inl (cI, 5, .inl (fn2))) :: rest) (-3) ((aX, .inr (4, [.ref aT, .ref aL, .ref aC, .int (nI nm), .ref aN, .ref aY, .ref aA, .int (nI fa), .int (nI ac), .ref aO, .ref aK, .ref aG, .ref aW, .long sd])) :: (aL, .inr (0, [.ref al0, .ref al1, .ref al2, .int (nI na)])) :: (al0, .inl (cI, 5, .inl (fl0))) :: (al1, .inl (cI, 5, .inl (fl1))) :: (al2, .inl (cI, 5, .inl (fl2))) :: (aC, .inl (cI, 5, .inl (fC))) :: (aN, .inr (2, [.ref an0, .ref an1, .ref an2, .int hN, .int bN])) :: (an0, .inl (cI, 5, .inl (fn0))) :: (an1, .inl (cI, 5, .inl (fn1))) :: (an2, .inl (cI, 5, .inl (fn2))) :: rest) := by
  refine MI.of [.ref aX, .int (nI k), .int (nI o), .int (nI a), .null, .null] (by decide) (Nat.le_of_ble_eq_true rfl) rfl ?_
  intro p e s m below meth c A C0 hr
  refine ww_aload_n C0 dX4_show_0 rfl ?_
  refine ww_iload_n C0 dX4_show_1 rfl ?_
  refine ww_callVi C0 (qc := (RX4, TX4, 14)) 0 4 (c_X4_isMule l D cI cZ cQ hnm) kd_X4_isMule kw_X4_113 km_X4_isMule kl_X4_isMule ki_X4 hd_X4_isMule rfl rfl ⟨Nat.le_of_ble_eq_true rfl, Nat.le_of_ble_eq_true rfl, rfl, rfl⟩ (Nat.le_of_ble_eq_true rfl) dX4_show_2 rfl rfl rfl ⟨Nat.zero_le _, Nat.zero_le _⟩ ?_
  refine ww_bif_eq (tgt := 24) C0 dX4_show_5 (by decide) (fun h5 => ?_) (fun h5 => ?_)
  · skip
    exact absurd (isN_nI (by omega) hk) (by rw [h5]; decide)
  · skip
    refine ww_aload_n C0 dX4_show_8 rfl ?_
    refine ww_iload_n C0 dX4_show_9 rfl ?_
    refine ww_callVi C0 (qc := (RX4, TX4, 14)) 0 4 (c_X4_isMule l D cI cZ cQ hnm) kd_X4_isMule kw_X4_113 km_X4_isMule kl_X4_isMule ki_X4 hd_X4_isMule rfl rfl ⟨Nat.le_of_ble_eq_true rfl, Nat.le_of_ble_eq_true rfl, rfl, rfl⟩ (Nat.le_of_ble_eq_true rfl) dX4_show_10 rfl rfl rfl ⟨Nat.zero_le _, Nat.zero_le _⟩ ?_
    refine ww_bif_eq (tgt := 24) C0 dX4_show_13 (by decide) (fun h13 => ?_) (fun h13 => ?_)
    · skip
      exact absurd (isN_nI (by omega) ho) (by rw [h13]; decide)
    · skip
      refine ww_aload_n C0 dX4_show_16 rfl ?_
      refine ww_iload_n C0 dX4_show_17 rfl ?_
      refine ww_callVi C0 (qc := (RX4, TX4, 14)) 0 4 (c_X4_isArticle l D cI cZ cQ hna) kd_X4_isArticle kw_X4_97 km_X4_isArticle kl_X4_isArticle ki_X4 hd_X4_isArticle rfl rfl ⟨Nat.le_of_ble_eq_true rfl, Nat.le_of_ble_eq_true rfl, rfl, rfl⟩ (Nat.le_of_ble_eq_true rfl) dX4_show_18 rfl rfl rfl ⟨Nat.zero_le _, Nat.zero_le _⟩ ?_
      refine ww_bif_ne (tgt := 26) C0 dX4_show_21 (by decide) (fun h21 => ?_) (fun h21 => ?_)
      · skip
        refine ww_iload_n C0 dX4_show_26 rfl ?_
        refine ww_iload_n C0 dX4_show_27 rfl ?_
        refine ww_icmp_ne (tgt := 34) C0 dX4_show_28 (by decide) (fun h28 => ?_) (fun h28 => ?_)
        · skip
          replace h28 := (not_congr (nI_eqE (a := k) (b := o) rfl rfl (by omega) (by omega))).mp h28
          refine ww_iconst (v := (1)) C0 dX4_show_34 rfl ?_
          refine ww_iload_n C0 dX4_show_35 rfl ?_
          refine ww_ishl C0 dX4_show_36 ?_
          refine ww_istore (i := 4) C0 dX4_show_37 (Nat.le_of_ble_eq_true rfl) rfl ?_
          simp only [List.set_cons_zero, List.set_cons_succ]
          refine ww_aload_n C0 dX4_show_39 rfl ?_
          refine ww_get C0 (ci := 4) (C := RX4) (T := TX4) (N := 14) ku_X4 0 rfl rfl 4 (by decide) kw_X4_34 rfl dX4_show_40 ?_
          refine ww_getN C0 (ci := 2) (C := RX2) (T := TX2) (N := 5) ku_X2 6 rfl rfl 0 (by decide) kn_X4_116 rfl dX4_show_43 ?_
          refine ww_iload_n C0 dX4_show_46 rfl ?_
          refine ww_iald_n (j := k) C0 7 0 rfl rfl rfl (by omega) (by decide) dX4_show_47 ?_
          refine ww_aload_n C0 dX4_show_48 rfl ?_
          refine ww_get C0 (ci := 4) (C := RX4) (T := TX4) (N := 14) ku_X4 0 rfl rfl 4 (by decide) kw_X4_34 rfl dX4_show_49 ?_
          refine ww_getN C0 (ci := 2) (C := RX2) (T := TX2) (N := 5) ku_X2 6 rfl rfl 0 (by decide) kn_X4_116 rfl dX4_show_52 ?_
          refine ww_iload_n C0 dX4_show_55 rfl ?_
          refine ww_iald_n (j := o) C0 7 0 rfl rfl rfl (by omega) (by decide) dX4_show_56 ?_
          refine ww_icmp_ne (tgt := 64) C0 dX4_show_57 (by decide) (fun h57 => ?_) (fun h57 => ?_)
          · skip
            refine ww_iconst (v := (0)) C0 dX4_show_64 rfl ?_
            refine ww_istore (i := 5) C0 dX4_show_65 (Nat.le_of_ble_eq_true rfl) rfl ?_
            simp only [List.set_cons_zero, List.set_cons_succ]
            refine ww_iload C0 dX4_show_67 rfl ?_
            refine ww_if_eq (tgt := 102) C0 dX4_show_69 (by decide) (fun h69 => ?_) (fun h69 => ?_)
            · skip
              replace h69 := (nI_eqE (a := 0) (b := 0) rfl rfl (by omega) (by omega)).mp h69
              refine ww_bipush (v := (-3)) C0 dX4_show_102 rfl ?_
              exact ww_iret C0 hr dX4_show_104 (by rfl) (by rfl)
            · skip
              replace h69 := (not_congr (nI_eqE (a := 0) (b := 0) rfl rfl (by omega) (by omega))).mp h69
              exfalso; omega
          · skip
            refine ww_iconst (v := (1)) C0 dX4_show_60 rfl ?_
            refine ww_goto (tgt := 65) C0 dX4_show_61 (by decide) ?_
            refine ww_istore (i := 5) C0 dX4_show_65 (Nat.le_of_ble_eq_true rfl) rfl ?_
            simp only [List.set_cons_zero, List.set_cons_succ]
            refine ww_iload C0 dX4_show_67 rfl ?_
            refine ww_if_eq (tgt := 102) C0 dX4_show_69 (by decide) (fun h69 => ?_) (fun h69 => ?_)
            · skip
              replace h69 := (nI_eqE (a := 1) (b := 0) rfl rfl (by omega) (by omega)).mp h69
              exfalso; omega
            · skip
              replace h69 := (not_congr (nI_eqE (a := 1) (b := 0) rfl rfl (by omega) (by omega))).mp h69
              refine ww_aload_n C0 dX4_show_72 rfl ?_
              refine ww_aload_n C0 dX4_show_73 rfl ?_
              refine ww_get C0 (ci := 4) (C := RX4) (T := TX4) (N := 14) ku_X4 0 rfl rfl 4 (by decide) kw_X4_34 rfl dX4_show_74 ?_
              refine ww_iload_n C0 dX4_show_77 rfl ?_
              refine ww_callVi C0 (qc := (RX4, TX4, 14)) 0 4 (c_X4_known l D cI cZ cQ hnm hna ho) kd_X4_known kw_X4_123 km_X4_known kl_X4_known ki_X4 hd_X4_known rfl rfl ⟨Nat.le_of_ble_eq_true rfl, Nat.le_of_ble_eq_true rfl, rfl, rfl⟩ (Nat.le_of_ble_eq_true rfl) dX4_show_78 rfl rfl rfl ⟨Nat.zero_le _, Nat.zero_le _⟩ ?_
              refine ww_iload C0 dX4_show_81 rfl ?_
              refine ww_iand C0 dX4_show_83 ?_
              refine ww_if_eq (tgt := 102) C0 dX4_show_84 (by decide) (fun h84 => ?_) (fun h84 => ?_)
              · skip
                refine ww_bipush (v := (-3)) C0 dX4_show_102 rfl ?_
                exact ww_iret C0 hr dX4_show_104 (by rfl) (by rfl)
              · skip
                refine ww_aload_n C0 dX4_show_87 rfl ?_
                refine ww_get C0 (ci := 4) (C := RX4) (T := TX4) (N := 14) ku_X4 0 rfl rfl 4 (by decide) kw_X4_34 rfl dX4_show_88 ?_
                refine ww_getN C0 (ci := 2) (C := RX2) (T := TX2) (N := 5) ku_X2 6 rfl rfl 2 (by decide) kn_X4_120 rfl dX4_show_91 ?_
                refine ww_iload_n C0 dX4_show_94 rfl ?_
                refine ww_iald_n (j := k) C0 9 0 rfl rfl rfl (by omega) (by decide) dX4_show_95 ?_
                refine ww_iload C0 dX4_show_96 rfl ?_
                refine ww_iand C0 dX4_show_98 ?_
                refine ww_if_eq (tgt := 105) C0 dX4_show_99 (by decide) (fun h99 => ?_) (fun h99 => ?_)
                · skip
                  exact absurd ⟨h57, h84, h99⟩ hl
                · skip
                  refine ww_bipush (v := (-3)) C0 dX4_show_102 rfl ?_
                  exact ww_iret C0 hr dX4_show_104 (by rfl) (by rfl)
        · skip
          replace h28 := (nI_eqE (a := k) (b := o) rfl rfl (by omega) (by omega)).mp h28
          exfalso; omega
      · skip
        exact absurd (isN_nI (by omega) ha) (by rw [h21]; decide)

set_option maxHeartbeats 4000000 in
set_option maxRecDepth 100000 in
theorem c_X4_show (l : Launch) (D : va_G) (cI cZ cQ : ClassId) {aX aT aL aC aN aY aA aO aK aG aW al0 al1 al2 an0 an1 an2 ay0 ay1 ay2 at0 ag0 ag1 ag2 ag3 ag4 : Nat} {nm fa ac na tn gn : Nat} {hN bN hY bY : Int32} {sd : Int64} {fl0 fl1 fl2 fC fn0 fn1 fn2 fy0 fy1 fy2 ft0 fg0 fg1 fg2 fg3 fg4 fW fK : Nat → Int32} {fO fA : Nat → Option Nat} {rest : va_W} {ad : Nat → Nat → Nat} {sv : Nat → SV} {k o a : Nat} (hnm : nm ≤ 5) (hna : na ≤ 5) (hk : k < nm) (ho : o < nm) (ha : a < na) (hfa : fa < 14) (hac : ac ≤ 14) (hA : ∀ j, j < 14 → fA j = some (ad j 0)) (he : ¬ k = o) (hl : (fn0 k = fn0 o ∧ ¬ (sKnown na (fn1 o) (fn2 o) &&& ((1 : Int32) <<< (nI a &&& 31)) = 0) ∧ fn2 k &&& ((1 : Int32) <<< (nI a &&& 31)) = 0)) : MI l D [(cI, .int), (cZ, .boolean), (cQ, .object "MulesRemember$State")] yX4_show cX4_show 6 .int ({ frames := 3, cells := 0, slots := 0, locals := 65 } : Room) [.ref aX, .int (nI k), .int (nI o), .int (nI a)] ((aX, .inr (4, [.ref aT, .ref aL, .ref aC, .int (nI nm), .ref aN, .ref aY, .ref aA, .int (nI fa), .int (nI ac), .ref aO, .ref aK, .ref aG, .ref aW, .long sd])) :: (aL, .inr (0, [.ref al0, .ref al1, .ref al2, .int (nI na)])) :: (al0, .inl (cI, 5, .inl (fl0))) :: (al1, .inl (cI, 5, .inl (fl1))) :: (al2, .inl (cI, 5, .inl (fl2))) :: (aC, .inl (cI, 5, .inl (fC))) :: (aN, .inr (2, [.ref an0, .ref an1, .ref an2, .int hN, .int bN])) :: (an0, .inl (cI, 5, .inl (fn0))) :: (an1, .inl (cI, 5, .inl (fn1))) :: (an2, .inl (cI, 5, .inl (fn2))) :: (aY, .inr (2, [.ref ay0, .ref ay1, .ref ay2, .int hY, .int bY])) :: (ay0, .inl (cI, 5, .inl (fy0))) :: (ay1, .inl (cI, 5, .inl (fy1))) :: (ay2, .inl (cI, 5, .inl (fy2))) :: (aT, .inr (3, [.ref at0, .int (nI tn)])) :: (at0, .inl (cI, 48, .inl (ft0))) :: (aG, .inr (1, [.ref ag0, .ref ag1, .ref ag2, .ref ag3, .ref ag4, .int (nI gn)])) :: (ag0, .inl (cI, 6, .inl (fg0))) :: (ag1, .inl (cI, 6, .inl (fg1))) :: (ag2, .inl (cI, 6, .inl (fg2))) :: (ag3, .inl (cI, 6, .inl (fg3))) :: (ag4, .inl (cI, 6, .inl (fg4))) :: (aW, .inl (cI, 6, .inl (fW))) :: (aK, .inl (cZ, 2, .inl (fK))) :: (aO, .inl (cQ, 2, .inr (.inr (.inr (.inr (fO)))))) :: (aA, .inl (cQ, 14, .inr (.inr (.inr (.inr (fA)))))) :: (pool cI ad sv 16 ++ rest)) (sBC (fn2 k ||| ((1 : Int32) <<< (nI a &&& 31)))) ((aX, .inr (4, [.ref aT, .ref aL, .ref aC, .int (nI nm), .ref aN, .ref aY, .ref aA, .int (nI (rf fa ac)), .int (nI (ra ac)), .ref aO, .ref aK, .ref aG, .ref aW, .long sd])) :: (aL, .inr (0, [.ref al0, .ref al1, .ref al2, .int (nI na)])) :: (al0, .inl (cI, 5, .inl (fl0))) :: (al1, .inl (cI, 5, .inl (fl1))) :: (al2, .inl (cI, 5, .inl (fl2))) :: (aC, .inl (cI, 5, .inl (fC))) :: (aN, .inr (2, [.ref an0, .ref an1, .ref an2, .int hN, .int bN])) :: (an0, .inl (cI, 5, .inl (fn0))) :: (an1, .inl (cI, 5, .inl (fn1))) :: (an2, .inl (cI, 5, .inl (upd fn2 k (fn2 k ||| ((1 : Int32) <<< (nI a &&& 31)))))) :: (aY, .inr (2, [.ref ay0, .ref ay1, .ref ay2, .int hY, .int bY])) :: (ay0, .inl (cI, 5, .inl (fy0))) :: (ay1, .inl (cI, 5, .inl (fy1))) :: (ay2, .inl (cI, 5, .inl (fy2))) :: (aT, .inr (3, [.ref at0, .int (nI tn)])) :: (at0, .inl (cI, 48, .inl (ft0))) :: (aG, .inr (1, [.ref ag0, .ref ag1, .ref ag2, .ref ag3, .ref ag4, .int (nI gn)])) :: (ag0, .inl (cI, 6, .inl (fg0))) :: (ag1, .inl (cI, 6, .inl (fg1))) :: (ag2, .inl (cI, 6, .inl (fg2))) :: (ag3, .inl (cI, 6, .inl (fg3))) :: (ag4, .inl (cI, 6, .inl (fg4))) :: (aW, .inl (cI, 6, .inl (fW))) :: (aK, .inl (cZ, 2, .inl (fK))) :: (aO, .inl (cQ, 2, .inr (.inr (.inr (.inr (fO)))))) :: (aA, .inl (cQ, 14, .inr (.inr (.inr (.inr (fA)))))) :: (pool cI ad (va_up sv (ri fa ac) (fn0, fn1, fn2, hN, bN)) 16 ++ rest)) := by
  refine MI.of [.ref aX, .int (nI k), .int (nI o), .int (nI a), .null, .null] (by decide) (Nat.le_of_ble_eq_true rfl) rfl ?_
  intro p e s m below meth c A C0 hr
  refine ww_aload_n C0 dX4_show_0 rfl ?_
  refine ww_iload_n C0 dX4_show_1 rfl ?_
  refine ww_callVi C0 (qc := (RX4, TX4, 14)) 0 4 (c_X4_isMule l D cI cZ cQ hnm) kd_X4_isMule kw_X4_113 km_X4_isMule kl_X4_isMule ki_X4 hd_X4_isMule rfl rfl ⟨Nat.le_of_ble_eq_true rfl, Nat.le_of_ble_eq_true rfl, rfl, rfl⟩ (Nat.le_of_ble_eq_true rfl) dX4_show_2 rfl rfl rfl ⟨Nat.zero_le _, Nat.zero_le _⟩ ?_
  refine ww_bif_eq (tgt := 24) C0 dX4_show_5 (by decide) (fun h5 => ?_) (fun h5 => ?_)
  · skip
    exact absurd (isN_nI (by omega) hk) (by rw [h5]; decide)
  · skip
    refine ww_aload_n C0 dX4_show_8 rfl ?_
    refine ww_iload_n C0 dX4_show_9 rfl ?_
    refine ww_callVi C0 (qc := (RX4, TX4, 14)) 0 4 (c_X4_isMule l D cI cZ cQ hnm) kd_X4_isMule kw_X4_113 km_X4_isMule kl_X4_isMule ki_X4 hd_X4_isMule rfl rfl ⟨Nat.le_of_ble_eq_true rfl, Nat.le_of_ble_eq_true rfl, rfl, rfl⟩ (Nat.le_of_ble_eq_true rfl) dX4_show_10 rfl rfl rfl ⟨Nat.zero_le _, Nat.zero_le _⟩ ?_
    refine ww_bif_eq (tgt := 24) C0 dX4_show_13 (by decide) (fun h13 => ?_) (fun h13 => ?_)
    · skip
      exact absurd (isN_nI (by omega) ho) (by rw [h13]; decide)
    · skip
      refine ww_aload_n C0 dX4_show_16 rfl ?_
      refine ww_iload_n C0 dX4_show_17 rfl ?_
      refine ww_callVi C0 (qc := (RX4, TX4, 14)) 0 4 (c_X4_isArticle l D cI cZ cQ hna) kd_X4_isArticle kw_X4_97 km_X4_isArticle kl_X4_isArticle ki_X4 hd_X4_isArticle rfl rfl ⟨Nat.le_of_ble_eq_true rfl, Nat.le_of_ble_eq_true rfl, rfl, rfl⟩ (Nat.le_of_ble_eq_true rfl) dX4_show_18 rfl rfl rfl ⟨Nat.zero_le _, Nat.zero_le _⟩ ?_
      refine ww_bif_ne (tgt := 26) C0 dX4_show_21 (by decide) (fun h21 => ?_) (fun h21 => ?_)
      · skip
        refine ww_iload_n C0 dX4_show_26 rfl ?_
        refine ww_iload_n C0 dX4_show_27 rfl ?_
        refine ww_icmp_ne (tgt := 34) C0 dX4_show_28 (by decide) (fun h28 => ?_) (fun h28 => ?_)
        · skip
          replace h28 := (not_congr (nI_eqE (a := k) (b := o) rfl rfl (by omega) (by omega))).mp h28
          refine ww_iconst (v := (1)) C0 dX4_show_34 rfl ?_
          refine ww_iload_n C0 dX4_show_35 rfl ?_
          refine ww_ishl C0 dX4_show_36 ?_
          refine ww_istore (i := 4) C0 dX4_show_37 (Nat.le_of_ble_eq_true rfl) rfl ?_
          simp only [List.set_cons_zero, List.set_cons_succ]
          refine ww_aload_n C0 dX4_show_39 rfl ?_
          refine ww_get C0 (ci := 4) (C := RX4) (T := TX4) (N := 14) ku_X4 0 rfl rfl 4 (by decide) kw_X4_34 rfl dX4_show_40 ?_
          refine ww_getN C0 (ci := 2) (C := RX2) (T := TX2) (N := 5) ku_X2 6 rfl rfl 0 (by decide) kn_X4_116 rfl dX4_show_43 ?_
          refine ww_iload_n C0 dX4_show_46 rfl ?_
          refine ww_iald_n (j := k) C0 7 0 rfl rfl rfl (by omega) (by decide) dX4_show_47 ?_
          refine ww_aload_n C0 dX4_show_48 rfl ?_
          refine ww_get C0 (ci := 4) (C := RX4) (T := TX4) (N := 14) ku_X4 0 rfl rfl 4 (by decide) kw_X4_34 rfl dX4_show_49 ?_
          refine ww_getN C0 (ci := 2) (C := RX2) (T := TX2) (N := 5) ku_X2 6 rfl rfl 0 (by decide) kn_X4_116 rfl dX4_show_52 ?_
          refine ww_iload_n C0 dX4_show_55 rfl ?_
          refine ww_iald_n (j := o) C0 7 0 rfl rfl rfl (by omega) (by decide) dX4_show_56 ?_
          refine ww_icmp_ne (tgt := 64) C0 dX4_show_57 (by decide) (fun h57 => ?_) (fun h57 => ?_)
          · skip
            exact absurd hl.1 h57
          · skip
            refine ww_iconst (v := (1)) C0 dX4_show_60 rfl ?_
            refine ww_goto (tgt := 65) C0 dX4_show_61 (by decide) ?_
            refine ww_istore (i := 5) C0 dX4_show_65 (Nat.le_of_ble_eq_true rfl) rfl ?_
            simp only [List.set_cons_zero, List.set_cons_succ]
            refine ww_iload C0 dX4_show_67 rfl ?_
            refine ww_if_eq (tgt := 102) C0 dX4_show_69 (by decide) (fun h69 => ?_) (fun h69 => ?_)
            · skip
              replace h69 := (nI_eqE (a := 1) (b := 0) rfl rfl (by omega) (by omega)).mp h69
              exfalso; omega
            · skip
              replace h69 := (not_congr (nI_eqE (a := 1) (b := 0) rfl rfl (by omega) (by omega))).mp h69
              refine ww_aload_n C0 dX4_show_72 rfl ?_
              refine ww_aload_n C0 dX4_show_73 rfl ?_
              refine ww_get C0 (ci := 4) (C := RX4) (T := TX4) (N := 14) ku_X4 0 rfl rfl 4 (by decide) kw_X4_34 rfl dX4_show_74 ?_
              refine ww_iload_n C0 dX4_show_77 rfl ?_
              refine ww_callVi C0 (qc := (RX4, TX4, 14)) 0 4 (c_X4_known l D cI cZ cQ hnm hna ho) kd_X4_known kw_X4_123 km_X4_known kl_X4_known ki_X4 hd_X4_known rfl rfl ⟨Nat.le_of_ble_eq_true rfl, Nat.le_of_ble_eq_true rfl, rfl, rfl⟩ (Nat.le_of_ble_eq_true rfl) dX4_show_78 rfl rfl rfl ⟨Nat.zero_le _, Nat.zero_le _⟩ ?_
              refine ww_iload C0 dX4_show_81 rfl ?_
              refine ww_iand C0 dX4_show_83 ?_
              refine ww_if_eq (tgt := 102) C0 dX4_show_84 (by decide) (fun h84 => ?_) (fun h84 => ?_)
              · skip
                exact absurd h84 hl.2.1
              · skip
                refine ww_aload_n C0 dX4_show_87 rfl ?_
                refine ww_get C0 (ci := 4) (C := RX4) (T := TX4) (N := 14) ku_X4 0 rfl rfl 4 (by decide) kw_X4_34 rfl dX4_show_88 ?_
                refine ww_getN C0 (ci := 2) (C := RX2) (T := TX2) (N := 5) ku_X2 6 rfl rfl 2 (by decide) kn_X4_120 rfl dX4_show_91 ?_
                refine ww_iload_n C0 dX4_show_94 rfl ?_
                refine ww_iald_n (j := k) C0 9 0 rfl rfl rfl (by omega) (by decide) dX4_show_95 ?_
                refine ww_iload C0 dX4_show_96 rfl ?_
                refine ww_iand C0 dX4_show_98 ?_
                refine ww_if_eq (tgt := 105) C0 dX4_show_99 (by decide) (fun h99 => ?_) (fun h99 => ?_)
                · skip
                  refine ww_aload_n C0 dX4_show_105 rfl ?_
                  refine ww_callVv C0 (qc := (RX4, TX4, 14)) 0 4 (c_X4_rememberAct l D cI cZ cQ hfa hac hA) kd_X4_rememberAct kw_X4_145 km_X4_rememberAct kl_X4_rememberAct ki_X4 hd_X4_rememberAct rfl rfl ⟨Nat.le_of_ble_eq_true rfl, Nat.le_of_ble_eq_true rfl, rfl, rfl⟩ (Nat.le_of_ble_eq_true rfl) dX4_show_106 rfl rfl rfl ⟨Nat.zero_le _, Nat.zero_le _⟩ ?_
                  refine ww_aload_n C0 dX4_show_109 rfl ?_
                  refine ww_get C0 (ci := 4) (C := RX4) (T := TX4) (N := 14) ku_X4 0 rfl rfl 4 (by decide) kw_X4_34 rfl dX4_show_110 ?_
                  refine ww_getN C0 (ci := 2) (C := RX2) (T := TX2) (N := 5) ku_X2 6 rfl rfl 2 (by decide) kn_X4_120 rfl dX4_show_113 ?_
                  refine ww_iload_n C0 dX4_show_116 rfl ?_
                  refine ww_dup2 C0 dX4_show_117 rfl rfl ?_
                  refine ww_iald_n (j := k) C0 9 0 rfl rfl rfl (by omega) (by decide) dX4_show_118 ?_
                  refine ww_iload C0 dX4_show_119 rfl ?_
                  refine ww_ior C0 dX4_show_121 ?_
                  refine ww_iast_n (j := k) C0 9 0 rfl rfl rfl (by omega) (by decide) dX4_show_122 ?_
                  simp only [List.set_cons_zero, List.set_cons_succ]
                  refine ww_aload_n C0 dX4_show_123 rfl ?_
                  refine ww_get C0 (ci := 4) (C := RX4) (T := TX4) (N := 14) ku_X4 0 rfl rfl 4 (by decide) kw_X4_34 rfl dX4_show_124 ?_
                  refine ww_getN C0 (ci := 2) (C := RX2) (T := TX2) (N := 5) ku_X2 6 rfl rfl 2 (by decide) kn_X4_120 rfl dX4_show_127 ?_
                  refine ww_iload_n C0 dX4_show_130 rfl ?_
                  refine ww_iald_n (j := k) C0 9 0 rfl rfl rfl (by omega) (by decide) dX4_show_131 ?_
                  refine ww_callSi C0 (c_J6_bitCount_0f7a4 l D cI cZ cQ) kd_J6_bitCount_0f7a4 kw_X4_152 ks_J6_bitCount_0f7a4 ki_J6 hd_J6_bitCount_0f7a4 ⟨Nat.le_of_ble_eq_true rfl, Nat.le_of_ble_eq_true rfl, rfl, rfl⟩ (Nat.le_of_ble_eq_true rfl) dX4_show_132 rfl rfl ⟨Nat.zero_le _, Nat.zero_le _⟩ ?_
                  exact ww_iret C0 hr dX4_show_135 (by simp [upd]) (by rfl)
                · skip
                  exact absurd hl.2.2 h99
        · skip
          replace h28 := (nI_eqE (a := k) (b := o) rfl rfl (by omega) (by omega)).mp h28
          exfalso; omega
      · skip
        exact absurd (isN_nI (by omega) ha) (by rw [h21]; decide)

set_option maxHeartbeats 4000000 in
set_option maxRecDepth 100000 in
theorem c_X4_sell_b (l : Launch) (D : va_G) (cI cZ cQ : ClassId) {aX aT aL aC aN aY aA aO aK aG aW : Nat} {nm fa ac : Nat} {sd : Int64} {rest : va_W} {m : Int32} (hnm : nm ≤ 5) (hm : isN nm m = false) : MI l D [(cI, .int), (cZ, .boolean), (cQ, .object "MulesRemember$State")] yX4_sell cX4_sell 3 .int ({ frames := 2, cells := 0, slots := 0, locals := 42 } : Room) [.ref aX, .int m] ((aX, .inr (4, [.ref aT, .ref aL, .ref aC, .int (nI nm), .ref aN, .ref aY, .ref aA, .int (nI fa), .int (nI ac), .ref aO, .ref aK, .ref aG, .ref aW, .long sd])) :: rest) (-1) ((aX, .inr (4, [.ref aT, .ref aL, .ref aC, .int (nI nm), .ref aN, .ref aY, .ref aA, .int (nI fa), .int (nI ac), .ref aO, .ref aK, .ref aG, .ref aW, .long sd])) :: rest) := by
  refine MI.of [.ref aX, .int m, .null] (by decide) (Nat.le_of_ble_eq_true rfl) rfl ?_
  intro p e s m below meth c A C0 hr
  refine ww_aload_n C0 dX4_sell_0 rfl ?_
  refine ww_iload_n C0 dX4_sell_1 rfl ?_
  refine ww_callVi C0 (qc := (RX4, TX4, 14)) 0 4 (c_X4_isMule l D cI cZ cQ hnm) kd_X4_isMule kw_X4_113 km_X4_isMule kl_X4_isMule ki_X4 hd_X4_isMule rfl rfl ⟨Nat.le_of_ble_eq_true rfl, Nat.le_of_ble_eq_true rfl, rfl, rfl⟩ (Nat.le_of_ble_eq_true rfl) dX4_sell_2 rfl rfl rfl ⟨Nat.zero_le _, Nat.zero_le _⟩ ?_
  refine ww_bif_ne (tgt := 10) C0 dX4_sell_5 (by decide) (fun h5 => ?_) (fun h5 => ?_)
  · skip
    exact absurd h5 (by rw [hm]; decide)
  · skip
    refine ww_iconst (v := (-1)) C0 dX4_sell_8 rfl ?_
    exact ww_iret C0 hr dX4_sell_9 (by rfl) (by rfl)

set_option maxHeartbeats 4000000 in
set_option maxRecDepth 100000 in
theorem c_X4_sell_l (l : Launch) (D : va_G) (cI cZ cQ : ClassId) {aX aT aL aC aN aY aA aO aK aG aW al0 al1 al2 an0 an1 an2 : Nat} {nm fa ac na : Nat} {hN bN : Int32} {sd : Int64} {fl0 fl1 fl2 fC fn0 fn1 fn2 : Nat → Int32} {rest : va_W} {k : Nat} (hnm : nm ≤ 5) (hna : na ≤ 5) (hk : k < nm) (hl : fn1 k = 3) : MI l D [(cI, .int), (cZ, .boolean), (cQ, .object "MulesRemember$State")] yX4_sell cX4_sell 3 .int ({ frames := 2, cells := 0, slots := 0, locals := 42 } : Room) [.ref aX, .int (nI k)] ((aX, .inr (4, [.ref aT, .ref aL, .ref aC, .int (nI nm), .ref aN, .ref aY, .ref aA, .int (nI fa), .int (nI ac), .ref aO, .ref aK, .ref aG, .ref aW, .long sd])) :: (aL, .inr (0, [.ref al0, .ref al1, .ref al2, .int (nI na)])) :: (al0, .inl (cI, 5, .inl (fl0))) :: (al1, .inl (cI, 5, .inl (fl1))) :: (al2, .inl (cI, 5, .inl (fl2))) :: (aC, .inl (cI, 5, .inl (fC))) :: (aN, .inr (2, [.ref an0, .ref an1, .ref an2, .int hN, .int bN])) :: (an0, .inl (cI, 5, .inl (fn0))) :: (an1, .inl (cI, 5, .inl (fn1))) :: (an2, .inl (cI, 5, .inl (fn2))) :: rest) (-3) ((aX, .inr (4, [.ref aT, .ref aL, .ref aC, .int (nI nm), .ref aN, .ref aY, .ref aA, .int (nI fa), .int (nI ac), .ref aO, .ref aK, .ref aG, .ref aW, .long sd])) :: (aL, .inr (0, [.ref al0, .ref al1, .ref al2, .int (nI na)])) :: (al0, .inl (cI, 5, .inl (fl0))) :: (al1, .inl (cI, 5, .inl (fl1))) :: (al2, .inl (cI, 5, .inl (fl2))) :: (aC, .inl (cI, 5, .inl (fC))) :: (aN, .inr (2, [.ref an0, .ref an1, .ref an2, .int hN, .int bN])) :: (an0, .inl (cI, 5, .inl (fn0))) :: (an1, .inl (cI, 5, .inl (fn1))) :: (an2, .inl (cI, 5, .inl (fn2))) :: rest) := by
  refine MI.of [.ref aX, .int (nI k), .null] (by decide) (Nat.le_of_ble_eq_true rfl) rfl ?_
  intro p e s m below meth c A C0 hr
  refine ww_aload_n C0 dX4_sell_0 rfl ?_
  refine ww_iload_n C0 dX4_sell_1 rfl ?_
  refine ww_callVi C0 (qc := (RX4, TX4, 14)) 0 4 (c_X4_isMule l D cI cZ cQ hnm) kd_X4_isMule kw_X4_113 km_X4_isMule kl_X4_isMule ki_X4 hd_X4_isMule rfl rfl ⟨Nat.le_of_ble_eq_true rfl, Nat.le_of_ble_eq_true rfl, rfl, rfl⟩ (Nat.le_of_ble_eq_true rfl) dX4_sell_2 rfl rfl rfl ⟨Nat.zero_le _, Nat.zero_le _⟩ ?_
  refine ww_bif_ne (tgt := 10) C0 dX4_sell_5 (by decide) (fun h5 => ?_) (fun h5 => ?_)
  · skip
    refine ww_aload_n C0 dX4_sell_10 rfl ?_
    refine ww_get C0 (ci := 4) (C := RX4) (T := TX4) (N := 14) ku_X4 0 rfl rfl 4 (by decide) kw_X4_34 rfl dX4_sell_11 ?_
    refine ww_getN C0 (ci := 2) (C := RX2) (T := TX2) (N := 5) ku_X2 6 rfl rfl 1 (by decide) kn_X4_117 rfl dX4_sell_14 ?_
    refine ww_iload_n C0 dX4_sell_17 rfl ?_
    refine ww_iald_n (j := k) C0 8 0 rfl rfl rfl (by omega) (by decide) dX4_sell_18 ?_
    refine ww_istore_n (i := 2) C0 dX4_sell_19 rfl (Nat.le_of_ble_eq_true rfl) rfl ?_
    simp only [List.set_cons_zero, List.set_cons_succ]
    refine ww_iload_n C0 dX4_sell_20 rfl ?_
    refine ww_iconst (v := (3)) C0 dX4_sell_21 rfl ?_
    refine ww_icmp_ne (tgt := 28) C0 dX4_sell_22 (by decide) (fun h22 => ?_) (fun h22 => ?_)
    · skip
      exact absurd hl h22
    · skip
      refine ww_bipush (v := (-3)) C0 dX4_sell_25 rfl ?_
      exact ww_iret C0 hr dX4_sell_27 (by rfl) (by rfl)
  · skip
    exact absurd (isN_nI (by omega) hk) (by rw [h5]; decide)

set_option maxHeartbeats 4000000 in
set_option maxRecDepth 100000 in
theorem c_X4_sell (l : Launch) (D : va_G) (cI cZ cQ : ClassId) {aX aT aL aC aN aY aA aO aK aG aW al0 al1 al2 an0 an1 an2 ay0 ay1 ay2 at0 ag0 ag1 ag2 ag3 ag4 : Nat} {nm fa ac na tn gn : Nat} {hN bN hY bY : Int32} {sd : Int64} {fl0 fl1 fl2 fC fn0 fn1 fn2 fy0 fy1 fy2 ft0 fg0 fg1 fg2 fg3 fg4 fW fK : Nat → Int32} {fO fA : Nat → Option Nat} {rest : va_W} {ad : Nat → Nat → Nat} {sv : Nat → SV} {k : Nat} (hnm : nm ≤ 5) (hna : na ≤ 5) (hk : k < nm) (hfa : fa < 14) (hac : ac ≤ 14) (hA : ∀ j, j < 14 → fA j = some (ad j 0)) (hl : ¬ fn1 k = 3) : MI l D [(cI, .int), (cZ, .boolean), (cQ, .object "MulesRemember$State")] yX4_sell cX4_sell 3 .int ({ frames := 2, cells := 0, slots := 0, locals := 42 } : Room) [.ref aX, .int (nI k)] ((aX, .inr (4, [.ref aT, .ref aL, .ref aC, .int (nI nm), .ref aN, .ref aY, .ref aA, .int (nI fa), .int (nI ac), .ref aO, .ref aK, .ref aG, .ref aW, .long sd])) :: (aL, .inr (0, [.ref al0, .ref al1, .ref al2, .int (nI na)])) :: (al0, .inl (cI, 5, .inl (fl0))) :: (al1, .inl (cI, 5, .inl (fl1))) :: (al2, .inl (cI, 5, .inl (fl2))) :: (aC, .inl (cI, 5, .inl (fC))) :: (aN, .inr (2, [.ref an0, .ref an1, .ref an2, .int hN, .int bN])) :: (an0, .inl (cI, 5, .inl (fn0))) :: (an1, .inl (cI, 5, .inl (fn1))) :: (an2, .inl (cI, 5, .inl (fn2))) :: (aY, .inr (2, [.ref ay0, .ref ay1, .ref ay2, .int hY, .int bY])) :: (ay0, .inl (cI, 5, .inl (fy0))) :: (ay1, .inl (cI, 5, .inl (fy1))) :: (ay2, .inl (cI, 5, .inl (fy2))) :: (aT, .inr (3, [.ref at0, .int (nI tn)])) :: (at0, .inl (cI, 48, .inl (ft0))) :: (aG, .inr (1, [.ref ag0, .ref ag1, .ref ag2, .ref ag3, .ref ag4, .int (nI gn)])) :: (ag0, .inl (cI, 6, .inl (fg0))) :: (ag1, .inl (cI, 6, .inl (fg1))) :: (ag2, .inl (cI, 6, .inl (fg2))) :: (ag3, .inl (cI, 6, .inl (fg3))) :: (ag4, .inl (cI, 6, .inl (fg4))) :: (aW, .inl (cI, 6, .inl (fW))) :: (aK, .inl (cZ, 2, .inl (fK))) :: (aO, .inl (cQ, 2, .inr (.inr (.inr (.inr (fO)))))) :: (aA, .inl (cQ, 14, .inr (.inr (.inr (.inr (fA)))))) :: (pool cI ad sv 16 ++ rest)) (fn1 k) ((aX, .inr (4, [.ref aT, .ref aL, .ref aC, .int (nI nm), .ref aN, .ref aY, .ref aA, .int (nI (rf fa ac)), .int (nI (ra ac)), .ref aO, .ref aK, .ref aG, .ref aW, .long sd])) :: (aL, .inr (0, [.ref al0, .ref al1, .ref al2, .int (nI na)])) :: (al0, .inl (cI, 5, .inl (fl0))) :: (al1, .inl (cI, 5, .inl (fl1))) :: (al2, .inl (cI, 5, .inl (fl2))) :: (aC, .inl (cI, 5, .inl (fC))) :: (aN, .inr (2, [.ref an0, .ref an1, .ref an2, .int hN, .int bN])) :: (an0, .inl (cI, 5, .inl (fn0))) :: (an1, .inl (cI, 5, .inl (upd fn1 k 3))) :: (an2, .inl (cI, 5, .inl (fn2))) :: (aY, .inr (2, [.ref ay0, .ref ay1, .ref ay2, .int hY, .int bY])) :: (ay0, .inl (cI, 5, .inl (fy0))) :: (ay1, .inl (cI, 5, .inl (fy1))) :: (ay2, .inl (cI, 5, .inl (fy2))) :: (aT, .inr (3, [.ref at0, .int (nI tn)])) :: (at0, .inl (cI, 48, .inl (ft0))) :: (aG, .inr (1, [.ref ag0, .ref ag1, .ref ag2, .ref ag3, .ref ag4, .int (nI gn)])) :: (ag0, .inl (cI, 6, .inl (fg0))) :: (ag1, .inl (cI, 6, .inl (fg1))) :: (ag2, .inl (cI, 6, .inl (fg2))) :: (ag3, .inl (cI, 6, .inl (fg3))) :: (ag4, .inl (cI, 6, .inl (fg4))) :: (aW, .inl (cI, 6, .inl (fW))) :: (aK, .inl (cZ, 2, .inl (fK))) :: (aO, .inl (cQ, 2, .inr (.inr (.inr (.inr (fO)))))) :: (aA, .inl (cQ, 14, .inr (.inr (.inr (.inr (fA)))))) :: (pool cI ad (va_up sv (ri fa ac) (fn0, fn1, fn2, hN, bN)) 16 ++ rest)) := by
  refine MI.of [.ref aX, .int (nI k), .null] (by decide) (Nat.le_of_ble_eq_true rfl) rfl ?_
  intro p e s m below meth c A C0 hr
  refine ww_aload_n C0 dX4_sell_0 rfl ?_
  refine ww_iload_n C0 dX4_sell_1 rfl ?_
  refine ww_callVi C0 (qc := (RX4, TX4, 14)) 0 4 (c_X4_isMule l D cI cZ cQ hnm) kd_X4_isMule kw_X4_113 km_X4_isMule kl_X4_isMule ki_X4 hd_X4_isMule rfl rfl ⟨Nat.le_of_ble_eq_true rfl, Nat.le_of_ble_eq_true rfl, rfl, rfl⟩ (Nat.le_of_ble_eq_true rfl) dX4_sell_2 rfl rfl rfl ⟨Nat.zero_le _, Nat.zero_le _⟩ ?_
  refine ww_bif_ne (tgt := 10) C0 dX4_sell_5 (by decide) (fun h5 => ?_) (fun h5 => ?_)
  · skip
    refine ww_aload_n C0 dX4_sell_10 rfl ?_
    refine ww_get C0 (ci := 4) (C := RX4) (T := TX4) (N := 14) ku_X4 0 rfl rfl 4 (by decide) kw_X4_34 rfl dX4_sell_11 ?_
    refine ww_getN C0 (ci := 2) (C := RX2) (T := TX2) (N := 5) ku_X2 6 rfl rfl 1 (by decide) kn_X4_117 rfl dX4_sell_14 ?_
    refine ww_iload_n C0 dX4_sell_17 rfl ?_
    refine ww_iald_n (j := k) C0 8 0 rfl rfl rfl (by omega) (by decide) dX4_sell_18 ?_
    refine ww_istore_n (i := 2) C0 dX4_sell_19 rfl (Nat.le_of_ble_eq_true rfl) rfl ?_
    simp only [List.set_cons_zero, List.set_cons_succ]
    refine ww_iload_n C0 dX4_sell_20 rfl ?_
    refine ww_iconst (v := (3)) C0 dX4_sell_21 rfl ?_
    refine ww_icmp_ne (tgt := 28) C0 dX4_sell_22 (by decide) (fun h22 => ?_) (fun h22 => ?_)
    · skip
      refine ww_aload_n C0 dX4_sell_28 rfl ?_
      refine ww_callVv C0 (qc := (RX4, TX4, 14)) 0 4 (c_X4_rememberAct l D cI cZ cQ hfa hac hA) kd_X4_rememberAct kw_X4_145 km_X4_rememberAct kl_X4_rememberAct ki_X4 hd_X4_rememberAct rfl rfl ⟨Nat.le_of_ble_eq_true rfl, Nat.le_of_ble_eq_true rfl, rfl, rfl⟩ (Nat.le_of_ble_eq_true rfl) dX4_sell_29 rfl rfl rfl ⟨Nat.zero_le _, Nat.zero_le _⟩ ?_
      refine ww_aload_n C0 dX4_sell_32 rfl ?_
      refine ww_get C0 (ci := 4) (C := RX4) (T := TX4) (N := 14) ku_X4 0 rfl rfl 4 (by decide) kw_X4_34 rfl dX4_sell_33 ?_
      refine ww_getN C0 (ci := 2) (C := RX2) (T := TX2) (N := 5) ku_X2 6 rfl rfl 1 (by decide) kn_X4_117 rfl dX4_sell_36 ?_
      refine ww_iload_n C0 dX4_sell_39 rfl ?_
      refine ww_iconst (v := (3)) C0 dX4_sell_40 rfl ?_
      refine ww_iast_n (j := k) C0 8 0 rfl rfl rfl (by omega) (by decide) dX4_sell_41 ?_
      simp only [List.set_cons_zero, List.set_cons_succ]
      refine ww_iload_n C0 dX4_sell_42 rfl ?_
      exact ww_iret C0 hr dX4_sell_43 (by rfl) (by rfl)
    · skip
      exact absurd h22 hl
  · skip
    exact absurd (isN_nI (by omega) hk) (by rw [h5]; decide)

set_option maxHeartbeats 4000000 in
set_option maxRecDepth 100000 in
theorem c_X4_forget_b (l : Launch) (D : va_G) (cI cZ cQ : ClassId) {aX aT aL aC aN aY aA aO aK aG aW : Nat} {nm fa ac : Nat} {sd : Int64} {rest : va_W} {m : Int32} (hnm : nm ≤ 5) (hm : isN nm m = false) : MI l D [(cI, .int), (cZ, .boolean), (cQ, .object "MulesRemember$State")] yX4_forget cX4_forget 3 .int ({ frames := 2, cells := 0, slots := 0, locals := 42 } : Room) [.ref aX, .int m] ((aX, .inr (4, [.ref aT, .ref aL, .ref aC, .int (nI nm), .ref aN, .ref aY, .ref aA, .int (nI fa), .int (nI ac), .ref aO, .ref aK, .ref aG, .ref aW, .long sd])) :: rest) (-1) ((aX, .inr (4, [.ref aT, .ref aL, .ref aC, .int (nI nm), .ref aN, .ref aY, .ref aA, .int (nI fa), .int (nI ac), .ref aO, .ref aK, .ref aG, .ref aW, .long sd])) :: rest) := by
  refine MI.of [.ref aX, .int m, .null] (by decide) (Nat.le_of_ble_eq_true rfl) rfl ?_
  intro p e s m below meth c A C0 hr
  refine ww_aload_n C0 dX4_forget_0 rfl ?_
  refine ww_iload_n C0 dX4_forget_1 rfl ?_
  refine ww_callVi C0 (qc := (RX4, TX4, 14)) 0 4 (c_X4_isMule l D cI cZ cQ hnm) kd_X4_isMule kw_X4_113 km_X4_isMule kl_X4_isMule ki_X4 hd_X4_isMule rfl rfl ⟨Nat.le_of_ble_eq_true rfl, Nat.le_of_ble_eq_true rfl, rfl, rfl⟩ (Nat.le_of_ble_eq_true rfl) dX4_forget_2 rfl rfl rfl ⟨Nat.zero_le _, Nat.zero_le _⟩ ?_
  refine ww_bif_ne (tgt := 10) C0 dX4_forget_5 (by decide) (fun h5 => ?_) (fun h5 => ?_)
  · skip
    exact absurd h5 (by rw [hm]; decide)
  · skip
    refine ww_iconst (v := (-1)) C0 dX4_forget_8 rfl ?_
    exact ww_iret C0 hr dX4_forget_9 (by rfl) (by rfl)

set_option maxHeartbeats 4000000 in
set_option maxRecDepth 100000 in
theorem c_X4_forget_l (l : Launch) (D : va_G) (cI cZ cQ : ClassId) {aX aT aL aC aN aY aA aO aK aG aW al0 al1 al2 an0 an1 an2 : Nat} {nm fa ac na : Nat} {hN bN : Int32} {sd : Int64} {fl0 fl1 fl2 fC fn0 fn1 fn2 : Nat → Int32} {rest : va_W} {k : Nat} (hnm : nm ≤ 5) (hna : na ≤ 5) (hk : k < nm) (hl : fn2 k = 0) : MI l D [(cI, .int), (cZ, .boolean), (cQ, .object "MulesRemember$State")] yX4_forget cX4_forget 3 .int ({ frames := 2, cells := 0, slots := 0, locals := 42 } : Room) [.ref aX, .int (nI k)] ((aX, .inr (4, [.ref aT, .ref aL, .ref aC, .int (nI nm), .ref aN, .ref aY, .ref aA, .int (nI fa), .int (nI ac), .ref aO, .ref aK, .ref aG, .ref aW, .long sd])) :: (aL, .inr (0, [.ref al0, .ref al1, .ref al2, .int (nI na)])) :: (al0, .inl (cI, 5, .inl (fl0))) :: (al1, .inl (cI, 5, .inl (fl1))) :: (al2, .inl (cI, 5, .inl (fl2))) :: (aC, .inl (cI, 5, .inl (fC))) :: (aN, .inr (2, [.ref an0, .ref an1, .ref an2, .int hN, .int bN])) :: (an0, .inl (cI, 5, .inl (fn0))) :: (an1, .inl (cI, 5, .inl (fn1))) :: (an2, .inl (cI, 5, .inl (fn2))) :: rest) (-3) ((aX, .inr (4, [.ref aT, .ref aL, .ref aC, .int (nI nm), .ref aN, .ref aY, .ref aA, .int (nI fa), .int (nI ac), .ref aO, .ref aK, .ref aG, .ref aW, .long sd])) :: (aL, .inr (0, [.ref al0, .ref al1, .ref al2, .int (nI na)])) :: (al0, .inl (cI, 5, .inl (fl0))) :: (al1, .inl (cI, 5, .inl (fl1))) :: (al2, .inl (cI, 5, .inl (fl2))) :: (aC, .inl (cI, 5, .inl (fC))) :: (aN, .inr (2, [.ref an0, .ref an1, .ref an2, .int hN, .int bN])) :: (an0, .inl (cI, 5, .inl (fn0))) :: (an1, .inl (cI, 5, .inl (fn1))) :: (an2, .inl (cI, 5, .inl (fn2))) :: rest) := by
  refine MI.of [.ref aX, .int (nI k), .null] (by decide) (Nat.le_of_ble_eq_true rfl) rfl ?_
  intro p e s m below meth c A C0 hr
  refine ww_aload_n C0 dX4_forget_0 rfl ?_
  refine ww_iload_n C0 dX4_forget_1 rfl ?_
  refine ww_callVi C0 (qc := (RX4, TX4, 14)) 0 4 (c_X4_isMule l D cI cZ cQ hnm) kd_X4_isMule kw_X4_113 km_X4_isMule kl_X4_isMule ki_X4 hd_X4_isMule rfl rfl ⟨Nat.le_of_ble_eq_true rfl, Nat.le_of_ble_eq_true rfl, rfl, rfl⟩ (Nat.le_of_ble_eq_true rfl) dX4_forget_2 rfl rfl rfl ⟨Nat.zero_le _, Nat.zero_le _⟩ ?_
  refine ww_bif_ne (tgt := 10) C0 dX4_forget_5 (by decide) (fun h5 => ?_) (fun h5 => ?_)
  · skip
    refine ww_aload_n C0 dX4_forget_10 rfl ?_
    refine ww_get C0 (ci := 4) (C := RX4) (T := TX4) (N := 14) ku_X4 0 rfl rfl 4 (by decide) kw_X4_34 rfl dX4_forget_11 ?_
    refine ww_getN C0 (ci := 2) (C := RX2) (T := TX2) (N := 5) ku_X2 6 rfl rfl 2 (by decide) kn_X4_120 rfl dX4_forget_14 ?_
    refine ww_iload_n C0 dX4_forget_17 rfl ?_
    refine ww_iald_n (j := k) C0 9 0 rfl rfl rfl (by omega) (by decide) dX4_forget_18 ?_
    refine ww_istore_n (i := 2) C0 dX4_forget_19 rfl (Nat.le_of_ble_eq_true rfl) rfl ?_
    simp only [List.set_cons_zero, List.set_cons_succ]
    refine ww_iload_n C0 dX4_forget_20 rfl ?_
    refine ww_if_ne (tgt := 27) C0 dX4_forget_21 (by decide) (fun h21 => ?_) (fun h21 => ?_)
    · skip
      exact absurd hl h21
    · skip
      refine ww_bipush (v := (-3)) C0 dX4_forget_24 rfl ?_
      exact ww_iret C0 hr dX4_forget_26 (by rfl) (by rfl)
  · skip
    exact absurd (isN_nI (by omega) hk) (by rw [h5]; decide)

set_option maxHeartbeats 4000000 in
set_option maxRecDepth 100000 in
theorem c_X4_forget (l : Launch) (D : va_G) (cI cZ cQ : ClassId) {aX aT aL aC aN aY aA aO aK aG aW al0 al1 al2 an0 an1 an2 ay0 ay1 ay2 at0 ag0 ag1 ag2 ag3 ag4 : Nat} {nm fa ac na tn gn : Nat} {hN bN hY bY : Int32} {sd : Int64} {fl0 fl1 fl2 fC fn0 fn1 fn2 fy0 fy1 fy2 ft0 fg0 fg1 fg2 fg3 fg4 fW fK : Nat → Int32} {fO fA : Nat → Option Nat} {rest : va_W} {ad : Nat → Nat → Nat} {sv : Nat → SV} {k : Nat} (hnm : nm ≤ 5) (hna : na ≤ 5) (hk : k < nm) (hfa : fa < 14) (hac : ac ≤ 14) (hA : ∀ j, j < 14 → fA j = some (ad j 0)) (hl : ¬ fn2 k = 0) : MI l D [(cI, .int), (cZ, .boolean), (cQ, .object "MulesRemember$State")] yX4_forget cX4_forget 3 .int ({ frames := 2, cells := 0, slots := 0, locals := 42 } : Room) [.ref aX, .int (nI k)] ((aX, .inr (4, [.ref aT, .ref aL, .ref aC, .int (nI nm), .ref aN, .ref aY, .ref aA, .int (nI fa), .int (nI ac), .ref aO, .ref aK, .ref aG, .ref aW, .long sd])) :: (aL, .inr (0, [.ref al0, .ref al1, .ref al2, .int (nI na)])) :: (al0, .inl (cI, 5, .inl (fl0))) :: (al1, .inl (cI, 5, .inl (fl1))) :: (al2, .inl (cI, 5, .inl (fl2))) :: (aC, .inl (cI, 5, .inl (fC))) :: (aN, .inr (2, [.ref an0, .ref an1, .ref an2, .int hN, .int bN])) :: (an0, .inl (cI, 5, .inl (fn0))) :: (an1, .inl (cI, 5, .inl (fn1))) :: (an2, .inl (cI, 5, .inl (fn2))) :: (aY, .inr (2, [.ref ay0, .ref ay1, .ref ay2, .int hY, .int bY])) :: (ay0, .inl (cI, 5, .inl (fy0))) :: (ay1, .inl (cI, 5, .inl (fy1))) :: (ay2, .inl (cI, 5, .inl (fy2))) :: (aT, .inr (3, [.ref at0, .int (nI tn)])) :: (at0, .inl (cI, 48, .inl (ft0))) :: (aG, .inr (1, [.ref ag0, .ref ag1, .ref ag2, .ref ag3, .ref ag4, .int (nI gn)])) :: (ag0, .inl (cI, 6, .inl (fg0))) :: (ag1, .inl (cI, 6, .inl (fg1))) :: (ag2, .inl (cI, 6, .inl (fg2))) :: (ag3, .inl (cI, 6, .inl (fg3))) :: (ag4, .inl (cI, 6, .inl (fg4))) :: (aW, .inl (cI, 6, .inl (fW))) :: (aK, .inl (cZ, 2, .inl (fK))) :: (aO, .inl (cQ, 2, .inr (.inr (.inr (.inr (fO)))))) :: (aA, .inl (cQ, 14, .inr (.inr (.inr (.inr (fA)))))) :: (pool cI ad sv 16 ++ rest)) (sBC (fn2 k)) ((aX, .inr (4, [.ref aT, .ref aL, .ref aC, .int (nI nm), .ref aN, .ref aY, .ref aA, .int (nI (rf fa ac)), .int (nI (ra ac)), .ref aO, .ref aK, .ref aG, .ref aW, .long sd])) :: (aL, .inr (0, [.ref al0, .ref al1, .ref al2, .int (nI na)])) :: (al0, .inl (cI, 5, .inl (fl0))) :: (al1, .inl (cI, 5, .inl (fl1))) :: (al2, .inl (cI, 5, .inl (fl2))) :: (aC, .inl (cI, 5, .inl (fC))) :: (aN, .inr (2, [.ref an0, .ref an1, .ref an2, .int hN, .int bN])) :: (an0, .inl (cI, 5, .inl (fn0))) :: (an1, .inl (cI, 5, .inl (fn1))) :: (an2, .inl (cI, 5, .inl (upd fn2 k 0))) :: (aY, .inr (2, [.ref ay0, .ref ay1, .ref ay2, .int hY, .int bY])) :: (ay0, .inl (cI, 5, .inl (fy0))) :: (ay1, .inl (cI, 5, .inl (fy1))) :: (ay2, .inl (cI, 5, .inl (fy2))) :: (aT, .inr (3, [.ref at0, .int (nI tn)])) :: (at0, .inl (cI, 48, .inl (ft0))) :: (aG, .inr (1, [.ref ag0, .ref ag1, .ref ag2, .ref ag3, .ref ag4, .int (nI gn)])) :: (ag0, .inl (cI, 6, .inl (fg0))) :: (ag1, .inl (cI, 6, .inl (fg1))) :: (ag2, .inl (cI, 6, .inl (fg2))) :: (ag3, .inl (cI, 6, .inl (fg3))) :: (ag4, .inl (cI, 6, .inl (fg4))) :: (aW, .inl (cI, 6, .inl (fW))) :: (aK, .inl (cZ, 2, .inl (fK))) :: (aO, .inl (cQ, 2, .inr (.inr (.inr (.inr (fO)))))) :: (aA, .inl (cQ, 14, .inr (.inr (.inr (.inr (fA)))))) :: (pool cI ad (va_up sv (ri fa ac) (fn0, fn1, fn2, hN, bN)) 16 ++ rest)) := by
  refine MI.of [.ref aX, .int (nI k), .null] (by decide) (Nat.le_of_ble_eq_true rfl) rfl ?_
  intro p e s m below meth c A C0 hr
  refine ww_aload_n C0 dX4_forget_0 rfl ?_
  refine ww_iload_n C0 dX4_forget_1 rfl ?_
  refine ww_callVi C0 (qc := (RX4, TX4, 14)) 0 4 (c_X4_isMule l D cI cZ cQ hnm) kd_X4_isMule kw_X4_113 km_X4_isMule kl_X4_isMule ki_X4 hd_X4_isMule rfl rfl ⟨Nat.le_of_ble_eq_true rfl, Nat.le_of_ble_eq_true rfl, rfl, rfl⟩ (Nat.le_of_ble_eq_true rfl) dX4_forget_2 rfl rfl rfl ⟨Nat.zero_le _, Nat.zero_le _⟩ ?_
  refine ww_bif_ne (tgt := 10) C0 dX4_forget_5 (by decide) (fun h5 => ?_) (fun h5 => ?_)
  · skip
    refine ww_aload_n C0 dX4_forget_10 rfl ?_
    refine ww_get C0 (ci := 4) (C := RX4) (T := TX4) (N := 14) ku_X4 0 rfl rfl 4 (by decide) kw_X4_34 rfl dX4_forget_11 ?_
    refine ww_getN C0 (ci := 2) (C := RX2) (T := TX2) (N := 5) ku_X2 6 rfl rfl 2 (by decide) kn_X4_120 rfl dX4_forget_14 ?_
    refine ww_iload_n C0 dX4_forget_17 rfl ?_
    refine ww_iald_n (j := k) C0 9 0 rfl rfl rfl (by omega) (by decide) dX4_forget_18 ?_
    refine ww_istore_n (i := 2) C0 dX4_forget_19 rfl (Nat.le_of_ble_eq_true rfl) rfl ?_
    simp only [List.set_cons_zero, List.set_cons_succ]
    refine ww_iload_n C0 dX4_forget_20 rfl ?_
    refine ww_if_ne (tgt := 27) C0 dX4_forget_21 (by decide) (fun h21 => ?_) (fun h21 => ?_)
    · skip
      refine ww_aload_n C0 dX4_forget_27 rfl ?_
      refine ww_callVv C0 (qc := (RX4, TX4, 14)) 0 4 (c_X4_rememberAct l D cI cZ cQ hfa hac hA) kd_X4_rememberAct kw_X4_145 km_X4_rememberAct kl_X4_rememberAct ki_X4 hd_X4_rememberAct rfl rfl ⟨Nat.le_of_ble_eq_true rfl, Nat.le_of_ble_eq_true rfl, rfl, rfl⟩ (Nat.le_of_ble_eq_true rfl) dX4_forget_28 rfl rfl rfl ⟨Nat.zero_le _, Nat.zero_le _⟩ ?_
      refine ww_aload_n C0 dX4_forget_31 rfl ?_
      refine ww_get C0 (ci := 4) (C := RX4) (T := TX4) (N := 14) ku_X4 0 rfl rfl 4 (by decide) kw_X4_34 rfl dX4_forget_32 ?_
      refine ww_getN C0 (ci := 2) (C := RX2) (T := TX2) (N := 5) ku_X2 6 rfl rfl 2 (by decide) kn_X4_120 rfl dX4_forget_35 ?_
      refine ww_iload_n C0 dX4_forget_38 rfl ?_
      refine ww_iconst (v := (0)) C0 dX4_forget_39 rfl ?_
      refine ww_iast_n (j := k) C0 9 0 rfl rfl rfl (by omega) (by decide) dX4_forget_40 ?_
      simp only [List.set_cons_zero, List.set_cons_succ]
      refine ww_iload_n C0 dX4_forget_41 rfl ?_
      refine ww_callSi C0 (c_J6_bitCount_0f7a4 l D cI cZ cQ) kd_J6_bitCount_0f7a4 kw_X4_152 ks_J6_bitCount_0f7a4 ki_J6 hd_J6_bitCount_0f7a4 ⟨Nat.le_of_ble_eq_true rfl, Nat.le_of_ble_eq_true rfl, rfl, rfl⟩ (Nat.le_of_ble_eq_true rfl) dX4_forget_42 rfl rfl ⟨Nat.zero_le _, Nat.zero_le _⟩ ?_
      exact ww_iret C0 hr dX4_forget_45 (by rfl) (by rfl)
    · skip
      exact absurd h21 hl
  · skip
    exact absurd (isN_nI (by omega) hk) (by rw [h5]; decide)

set_option maxHeartbeats 4000000 in
set_option maxRecDepth 100000 in
theorem c_X4_undo_l (l : Launch) (D : va_G) (cI cZ cQ : ClassId) {aX aT aL aC aN aY aA aO aK aG aW : Nat} {nm fa ac : Nat} {sd : Int64} {rest : va_W} (hac : ac = 0) : MI l D [(cI, .int), (cZ, .boolean), (cQ, .object "MulesRemember$State")] yX4_undo cX4_undo 1 .int ({ frames := 1, cells := 0, slots := 0, locals := 22 } : Room) [.ref aX] ((aX, .inr (4, [.ref aT, .ref aL, .ref aC, .int (nI nm), .ref aN, .ref aY, .ref aA, .int (nI fa), .int (nI ac), .ref aO, .ref aK, .ref aG, .ref aW, .long sd])) :: rest) (-3) ((aX, .inr (4, [.ref aT, .ref aL, .ref aC, .int (nI nm), .ref aN, .ref aY, .ref aA, .int (nI fa), .int (nI ac), .ref aO, .ref aK, .ref aG, .ref aW, .long sd])) :: rest) := by
  refine MI.of [.ref aX] (by decide) (Nat.le_of_ble_eq_true rfl) rfl ?_
  intro p e s m below meth c A C0 hr
  refine ww_aload_n C0 dX4_undo_0 rfl ?_
  refine ww_get C0 (ci := 4) (C := RX4) (T := TX4) (N := 14) ku_X4 0 rfl rfl 8 (by decide) kw_X4_48 rfl dX4_undo_1 ?_
  refine ww_if_ne (tgt := 10) C0 dX4_undo_4 (by decide) (fun h4 => ?_) (fun h4 => ?_)
  · skip
    replace h4 := (not_congr (nI_eqE (a := ac) (b := 0) rfl rfl (by omega) (by omega))).mp h4
    exfalso; omega
  · skip
    replace h4 := (nI_eqE (a := ac) (b := 0) rfl rfl (by omega) (by omega)).mp h4
    refine ww_bipush (v := (-3)) C0 dX4_undo_7 rfl ?_
    exact ww_iret C0 hr dX4_undo_9 (by rfl) (by rfl)

set_option maxHeartbeats 4000000 in
set_option maxRecDepth 100000 in
theorem c_X4_undo (l : Launch) (D : va_G) (cI cZ cQ : ClassId) {aX aT aL aC aN aY aA aO aK aG aW al0 al1 al2 an0 an1 an2 ay0 ay1 ay2 at0 ag0 ag1 ag2 ag3 ag4 : Nat} {nm fa ac na tn gn : Nat} {hN bN hY bY : Int32} {sd : Int64} {fl0 fl1 fl2 fC fn0 fn1 fn2 fy0 fy1 fy2 ft0 fg0 fg1 fg2 fg3 fg4 fW fK : Nat → Int32} {fO fA : Nat → Option Nat} {rest : va_W} {ad : Nat → Nat → Nat} {sv : Nat → SV} (hfa : fa < 14) (hac : ac ≤ 14) (hA : ∀ j, j < 14 → fA j = some (ad j 0)) (h0 : 0 < ac) : MI l D [(cI, .int), (cZ, .boolean), (cQ, .object "MulesRemember$State")] yX4_undo cX4_undo 1 .int ({ frames := 1, cells := 0, slots := 0, locals := 22 } : Room) [.ref aX] ((aX, .inr (4, [.ref aT, .ref aL, .ref aC, .int (nI nm), .ref aN, .ref aY, .ref aA, .int (nI fa), .int (nI ac), .ref aO, .ref aK, .ref aG, .ref aW, .long sd])) :: (aL, .inr (0, [.ref al0, .ref al1, .ref al2, .int (nI na)])) :: (al0, .inl (cI, 5, .inl (fl0))) :: (al1, .inl (cI, 5, .inl (fl1))) :: (al2, .inl (cI, 5, .inl (fl2))) :: (aC, .inl (cI, 5, .inl (fC))) :: (aN, .inr (2, [.ref an0, .ref an1, .ref an2, .int hN, .int bN])) :: (an0, .inl (cI, 5, .inl (fn0))) :: (an1, .inl (cI, 5, .inl (fn1))) :: (an2, .inl (cI, 5, .inl (fn2))) :: (aY, .inr (2, [.ref ay0, .ref ay1, .ref ay2, .int hY, .int bY])) :: (ay0, .inl (cI, 5, .inl (fy0))) :: (ay1, .inl (cI, 5, .inl (fy1))) :: (ay2, .inl (cI, 5, .inl (fy2))) :: (aT, .inr (3, [.ref at0, .int (nI tn)])) :: (at0, .inl (cI, 48, .inl (ft0))) :: (aG, .inr (1, [.ref ag0, .ref ag1, .ref ag2, .ref ag3, .ref ag4, .int (nI gn)])) :: (ag0, .inl (cI, 6, .inl (fg0))) :: (ag1, .inl (cI, 6, .inl (fg1))) :: (ag2, .inl (cI, 6, .inl (fg2))) :: (ag3, .inl (cI, 6, .inl (fg3))) :: (ag4, .inl (cI, 6, .inl (fg4))) :: (aW, .inl (cI, 6, .inl (fW))) :: (aK, .inl (cZ, 2, .inl (fK))) :: (aO, .inl (cQ, 2, .inr (.inr (.inr (.inr (fO)))))) :: (aA, .inl (cQ, 14, .inr (.inr (.inr (.inr (fA)))))) :: (pool cI ad sv 16 ++ rest)) (nI (ac - 1)) ((aX, .inr (4, [.ref aT, .ref aL, .ref aC, .int (nI nm), .ref aN, .ref aY, .ref aA, .int (nI fa), .int (nI (ac - 1)), .ref aO, .ref aK, .ref aG, .ref aW, .long sd])) :: (aL, .inr (0, [.ref al0, .ref al1, .ref al2, .int (nI na)])) :: (al0, .inl (cI, 5, .inl (fl0))) :: (al1, .inl (cI, 5, .inl (fl1))) :: (al2, .inl (cI, 5, .inl (fl2))) :: (aC, .inl (cI, 5, .inl (fC))) :: (aN, .inr (2, [.ref an0, .ref an1, .ref an2, .int (sv ((fa + (ac - 1)) % 14)).2.2.2.1, .int (sv ((fa + (ac - 1)) % 14)).2.2.2.2])) :: (an0, .inl (cI, 5, .inl ((sv ((fa + (ac - 1)) % 14)).1))) :: (an1, .inl (cI, 5, .inl ((sv ((fa + (ac - 1)) % 14)).2.1))) :: (an2, .inl (cI, 5, .inl ((sv ((fa + (ac - 1)) % 14)).2.2.1))) :: (aY, .inr (2, [.ref ay0, .ref ay1, .ref ay2, .int hY, .int bY])) :: (ay0, .inl (cI, 5, .inl (fy0))) :: (ay1, .inl (cI, 5, .inl (fy1))) :: (ay2, .inl (cI, 5, .inl (fy2))) :: (aT, .inr (3, [.ref at0, .int (nI tn)])) :: (at0, .inl (cI, 48, .inl (ft0))) :: (aG, .inr (1, [.ref ag0, .ref ag1, .ref ag2, .ref ag3, .ref ag4, .int (nI gn)])) :: (ag0, .inl (cI, 6, .inl (fg0))) :: (ag1, .inl (cI, 6, .inl (fg1))) :: (ag2, .inl (cI, 6, .inl (fg2))) :: (ag3, .inl (cI, 6, .inl (fg3))) :: (ag4, .inl (cI, 6, .inl (fg4))) :: (aW, .inl (cI, 6, .inl (fW))) :: (aK, .inl (cZ, 2, .inl (fK))) :: (aO, .inl (cQ, 2, .inr (.inr (.inr (.inr (fO)))))) :: (aA, .inl (cQ, 14, .inr (.inr (.inr (.inr (fA)))))) :: (pool cI ad sv 16 ++ rest)) := by
  refine MI.of [.ref aX] (by decide) (Nat.le_of_ble_eq_true rfl) rfl ?_
  intro p e s m below meth c A C0 hr
  refine ww_aload_n C0 dX4_undo_0 rfl ?_
  refine ww_get C0 (ci := 4) (C := RX4) (T := TX4) (N := 14) ku_X4 0 rfl rfl 8 (by decide) kw_X4_48 rfl dX4_undo_1 ?_
  refine ww_if_ne (tgt := 10) C0 dX4_undo_4 (by decide) (fun h4 => ?_) (fun h4 => ?_)
  · skip
    replace h4 := (not_congr (nI_eqE (a := ac) (b := 0) rfl rfl (by omega) (by omega))).mp h4
    refine ww_aload_n C0 dX4_undo_10 rfl ?_
    refine ww_dup C0 dX4_undo_11 rfl ?_
    refine ww_get C0 (ci := 4) (C := RX4) (T := TX4) (N := 14) ku_X4 0 rfl rfl 8 (by decide) kw_X4_48 rfl dX4_undo_12 ?_
    refine ww_iconst (v := (1)) C0 dX4_undo_15 rfl ?_
    refine ww_isub C0 dX4_undo_16 ?_
    refine ww_top (nI_subE (a := ac) (b := 1) rfl rfl (by omega)) ?_
    refine ww_put C0 (ci := 4) (C := RX4) (T := TX4) (N := 14) ku_X4 0 rfl rfl 8 (by decide) tyX4 tyX4_ok nmX4 kw_X4_48 rfl (ty := .int) (by decide +kernel) rfl rfl (Nat.le_of_ble_eq_true rfl) dX4_undo_17 ?_
    simp only [List.set_cons_zero, List.set_cons_succ]
    refine ww_aload_n C0 dX4_undo_20 rfl ?_
    refine ww_aload_n C0 dX4_undo_21 rfl ?_
    refine ww_get C0 (ci := 4) (C := RX4) (T := TX4) (N := 14) ku_X4 0 rfl rfl 8 (by decide) kw_X4_48 rfl dX4_undo_22 ?_
    refine ww_callVr C0 (qc := (RX4, TX4, 14)) 0 4 (c_X4_actAt l D cI cZ cQ hfa (by omega) hA rfl) kd_X4_actAt kw_X4_157 km_X4_actAt kl_X4_actAt ki_X4 hd_X4_actAt rfl rfl ⟨Nat.le_of_ble_eq_true rfl, Nat.le_of_ble_eq_true rfl, rfl, rfl⟩ (Nat.le_of_ble_eq_true rfl) dX4_undo_25 rfl rfl rfl ⟨Nat.zero_le _, Nat.zero_le _⟩ ?_
    refine ww_aload_n C0 dX4_undo_28 rfl ?_
    refine ww_get C0 (ci := 4) (C := RX4) (T := TX4) (N := 14) ku_X4 0 rfl rfl 4 (by decide) kw_X4_34 rfl dX4_undo_29 ?_
    refine ww_perm (perm_out 0 26 (i := ((fa + (ac - 1)) % 14)) (n := 16) (Nat.lt_trans (Nat.mod_lt _ (by decide)) (by decide)) rfl) ?_
    simp only [List.drop_succ_cons, List.drop_zero, List.take_succ_cons, List.take_zero, List.cons_append, List.nil_append, stc, Nat.reduceAdd]
    refine ww_perm (perm_mv 4 6 4 _) ?_
    simp only [List.drop_succ_cons, List.drop_zero, List.take_succ_cons, List.take_zero, List.cons_append, List.nil_append, Nat.reduceAdd]
    refine ww_callSv C0 (c_X4_copyState l D cI cZ cQ) kd_X4_copyState kw_X4_161 ks_X4_copyState ki_X4 hd_X4_copyState ⟨Nat.le_of_ble_eq_true rfl, Nat.le_of_ble_eq_true rfl, rfl, rfl⟩ (Nat.le_of_ble_eq_true rfl) dX4_undo_32 rfl rfl ⟨Nat.zero_le _, Nat.zero_le _⟩ ?_
    refine ww_perm (perm_mv 4 4 6 _) ?_
    simp only [List.drop_succ_cons, List.drop_zero, List.take_succ_cons, List.take_zero, List.cons_append, List.nil_append, Nat.reduceAdd]
    refine ww_perm (perm_in 0 26 (i := ((fa + (ac - 1)) % 14)) (n := 16) (sv := sv) (sv (((fa + (ac - 1)) % 14))) (Nat.lt_trans (Nat.mod_lt _ (by decide)) (by decide)) rfl rfl) ?_
    simp only [List.drop_succ_cons, List.drop_zero, List.take_succ_cons, List.take_zero, List.cons_append, List.nil_append, stc, Nat.reduceAdd]
    simp only [va_up_id]
    refine ww_aload_n C0 dX4_undo_35 rfl ?_
    refine ww_get C0 (ci := 4) (C := RX4) (T := TX4) (N := 14) ku_X4 0 rfl rfl 8 (by decide) kw_X4_48 rfl dX4_undo_36 ?_
    exact ww_iret C0 hr dX4_undo_39 (by rfl) (by rfl)
  · skip
    replace h4 := (nI_eqE (a := ac) (b := 0) rfl rfl (by omega) (by omega)).mp h4
    exfalso; omega
