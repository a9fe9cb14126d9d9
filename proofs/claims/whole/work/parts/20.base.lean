set_option maxHeartbeats 4000000 in
set_option maxRecDepth 100000 in
theorem c_X0_all (l : Launch) (D : va_G) (cI cZ cQ : ClassId) {aL al0 al1 al2 : Nat} {na : Nat} {z0 : Nat × va_E} {rest : va_W} : MI l D [(cI, .int), (cZ, .boolean), (cQ, .object "MulesRemember$State")] yX0_all cX0_all 1 .int ({ frames := 0, cells := 0, slots := 0, locals := 0 } : Room) [.ref aL] (z0 :: (aL, .inr (0, [.ref al0, .ref al1, .ref al2, .int (nI na)])) :: rest) (sAll na) (z0 :: (aL, .inr (0, [.ref al0, .ref al1, .ref al2, .int (nI na)])) :: rest) := by
  refine MI.of [.ref aL] (by decide) (Nat.le_of_ble_eq_true rfl) rfl ?_
  intro p e s m below meth c A C0 hr
  refine ww_iconst (v := (1)) C0 dX0_all_0 rfl ?_
  refine ww_aload_n C0 dX0_all_1 rfl ?_
  refine ww_get C0 (ci := 0) (C := RX0) (T := TX0) (N := 4) ku_X0 1 rfl rfl 3 (by decide) kw_X0_21 rfl dX0_all_2 ?_
  refine ww_ishl C0 dX0_all_5 ?_
  refine ww_iconst (v := (1)) C0 dX0_all_6 rfl ?_
  refine ww_isub C0 dX0_all_7 ?_
  exact ww_iret C0 hr dX0_all_8 (by rfl) (by rfl)

set_option maxHeartbeats 4000000 in
set_option maxRecDepth 100000 in
theorem c_X0_last (l : Launch) (D : va_G) (cI cZ cQ : ClassId) {aL al0 al1 al2 : Nat} {na : Nat} {z0 : Nat × va_E} {rest : va_W} (hna : na ≤ 5) : MI l D [(cI, .int), (cZ, .boolean), (cQ, .object "MulesRemember$State")] yX0_last cX0_last 1 .int ({ frames := 0, cells := 0, slots := 0, locals := 0 } : Room) [.ref aL] (z0 :: (aL, .inr (0, [.ref al0, .ref al1, .ref al2, .int (nI na)])) :: rest) (sLast na) (z0 :: (aL, .inr (0, [.ref al0, .ref al1, .ref al2, .int (nI na)])) :: rest) := by
  refine MI.of [.ref aL] (by decide) (Nat.le_of_ble_eq_true rfl) rfl ?_
  intro p e s m below meth c A C0 hr
  refine ww_aload_n C0 dX0_last_0 rfl ?_
  refine ww_get C0 (ci := 0) (C := RX0) (T := TX0) (N := 4) ku_X0 1 rfl rfl 3 (by decide) kw_X0_21 rfl dX0_last_1 ?_
  refine ww_if_le (tgt := 18) C0 dX0_last_4 (by decide) (fun h4 => ?_) (fun h4 => ?_)
  · skip
    replace h4 := (nI_leE (a := na) (b := 0) rfl rfl (by omega) (by omega)).mp h4
    have h4z : ¬ 0 < na := by omega
    refine ww_iconst (v := (0)) C0 dX0_last_18 rfl ?_
    exact ww_iret C0 hr dX0_last_19 (by simp [sLast, *]) (by rfl)
  · skip
    replace h4 := (not_congr (nI_leE (a := na) (b := 0) rfl rfl (by omega) (by omega))).mp h4
    have h4z : 0 < na := by omega
    refine ww_iconst (v := (1)) C0 dX0_last_7 rfl ?_
    refine ww_aload_n C0 dX0_last_8 rfl ?_
    refine ww_get C0 (ci := 0) (C := RX0) (T := TX0) (N := 4) ku_X0 1 rfl rfl 3 (by decide) kw_X0_21 rfl dX0_last_9 ?_
    refine ww_iconst (v := (1)) C0 dX0_last_12 rfl ?_
    refine ww_isub C0 dX0_last_13 ?_
    refine ww_ishl C0 dX0_last_14 ?_
    refine ww_goto (tgt := 19) C0 dX0_last_15 (by decide) ?_
    exact ww_iret C0 hr dX0_last_19 (by simp [sLast, *]) (by rfl)

set_option maxHeartbeats 4000000 in
set_option maxRecDepth 100000 in
theorem c_X0_forbidsAlone (l : Launch) (D : va_G) (cI cZ cQ : ClassId) {rest : va_W} {so va co ho wa : Int32} : MI l D [(cI, .int), (cZ, .boolean), (cQ, .object "MulesRemember$State")] yX0_forbidsAlone cX0_forbidsAlone 5 .boolean ({ frames := 0, cells := 0, slots := 0, locals := 0 } : Room) [.int so, .int va, .int co, .int ho, .int wa] (rest) (bI (sBarA so va co ho wa)) (rest) := by
  refine MI.of [.int so, .int va, .int co, .int ho, .int wa] (by decide) (Nat.le_of_ble_eq_true rfl) rfl ?_
  intro p e s m below meth c A C0 hr
  refine ww_iload_n C0 dX0_forbidsAlone_0 rfl ?_
  by_cases hs1_0 : so = 0
  · skip
    have hsi : (so).toInt = 0 := by rw [hs1_0]; rfl
    refine ww_tableIn (off := 27) (tgt := 28) C0 dX0_forbidsAlone_1 (by rw [hsi]; decide) (by rw [hsi]; decide) (by rw [hsi]; rfl) (by decide) ?_
    refine ww_iload_n C0 dX0_forbidsAlone_28 rfl ?_
    refine ww_iload_n C0 dX0_forbidsAlone_29 rfl ?_
    refine ww_iconst (v := (4)) C0 dX0_forbidsAlone_30 rfl ?_
    refine ww_irem C0 dX0_forbidsAlone_31 (by decide) ?_
    refine ww_icmp_ne (tgt := 39) C0 dX0_forbidsAlone_32 (by decide) (fun h32 => ?_) (fun h32 => ?_)
    · skip
      refine ww_iconst (v := (0)) C0 dX0_forbidsAlone_39 rfl ?_
      exact ww_zret C0 hr dX0_forbidsAlone_40 (by simp [sBarA, bI, *]) (by rfl)
    · skip
      refine ww_iconst (v := (1)) C0 dX0_forbidsAlone_35 rfl ?_
      refine ww_goto (tgt := 40) C0 dX0_forbidsAlone_36 (by decide) ?_
      exact ww_zret C0 hr dX0_forbidsAlone_40 (by simp [sBarA, bI, *]) (by rfl)
  by_cases hs1_1 : so = 1
  · skip
    have hsi : (so).toInt = 1 := by rw [hs1_1]; rfl
    refine ww_tableIn (off := 40) (tgt := 41) C0 dX0_forbidsAlone_1 (by rw [hsi]; decide) (by rw [hsi]; decide) (by rw [hsi]; rfl) (by decide) ?_
    refine ww_iload_n C0 dX0_forbidsAlone_41 rfl ?_
    refine ww_iload_n C0 dX0_forbidsAlone_42 rfl ?_
    refine ww_icmp_ge (tgt := 50) C0 dX0_forbidsAlone_43 (by decide) (fun h43 => ?_) (fun h43 => ?_)
    · skip
      refine ww_iconst (v := (0)) C0 dX0_forbidsAlone_50 rfl ?_
      exact ww_zret C0 hr dX0_forbidsAlone_51 (by simp [sBarA, bI, *]) (by rfl)
    · skip
      refine ww_iconst (v := (1)) C0 dX0_forbidsAlone_46 rfl ?_
      refine ww_goto (tgt := 51) C0 dX0_forbidsAlone_47 (by decide) ?_
      exact ww_zret C0 hr dX0_forbidsAlone_51 (by simp [sBarA, bI, *]) (by rfl)
  by_cases hs1_2 : so = 2
  · skip
    have hsi : (so).toInt = 2 := by rw [hs1_2]; rfl
    refine ww_tableIn (off := 51) (tgt := 52) C0 dX0_forbidsAlone_1 (by rw [hsi]; decide) (by rw [hsi]; decide) (by rw [hsi]; rfl) (by decide) ?_
    refine ww_iload C0 dX0_forbidsAlone_52 rfl ?_
    refine ww_iload_n C0 dX0_forbidsAlone_54 rfl ?_
    refine ww_iconst (v := (2)) C0 dX0_forbidsAlone_55 rfl ?_
    refine ww_irem C0 dX0_forbidsAlone_56 (by decide) ?_
    refine ww_icmp_eq (tgt := 64) C0 dX0_forbidsAlone_57 (by decide) (fun h57 => ?_) (fun h57 => ?_)
    · skip
      refine ww_iconst (v := (0)) C0 dX0_forbidsAlone_64 rfl ?_
      exact ww_zret C0 hr dX0_forbidsAlone_65 (by simp [sBarA, bI, *]) (by rfl)
    · skip
      refine ww_iconst (v := (1)) C0 dX0_forbidsAlone_60 rfl ?_
      refine ww_goto (tgt := 65) C0 dX0_forbidsAlone_61 (by decide) ?_
      exact ww_zret C0 hr dX0_forbidsAlone_65 (by simp [sBarA, bI, *]) (by rfl)
  refine ww_tableOut (tgt := 66) C0 dX0_forbidsAlone_1 (sw_outc (so) 0 2 (by
    intro k hk1 hk2 he
    rcases (show k = 0 ∨ k = 1 ∨ k = 2 by omega) with rfl | rfl | rfl
    · exact i32_ne (n := 0) (by decide) hs1_0 he
    · exact i32_ne (n := 1) (by decide) hs1_1 he
    · exact i32_ne (n := 2) (by decide) hs1_2 he
    )) (by decide) ?_
  refine ww_iconst (v := (0)) C0 dX0_forbidsAlone_66 rfl ?_
  exact ww_zret C0 hr dX0_forbidsAlone_67 (by simp [sBarA, bI, *]) (by rfl)

set_option maxHeartbeats 4000000 in
set_option maxRecDepth 100000 in
theorem c_X0_forbids (l : Launch) (D : va_G) (cI cZ cQ : ClassId) {aL al0 al1 al2 : Nat} {na : Nat} {fl0 fl1 fl2 : Nat → Int32} {z0 : Nat × va_E} {rest : va_W} {a : Nat} {on co ho wa ot : Int32} (hna : na ≤ 5) (ha : a < na) : MI l D [(cI, .int), (cZ, .boolean), (cQ, .object "MulesRemember$State")] yX0_forbids cX0_forbids 7 .boolean ({ frames := 1, cells := 0, slots := 0, locals := 24 } : Room) [.ref aL, .int (nI a), .int on, .int co, .int ho, .int wa, .int ot] (z0 :: (aL, .inr (0, [.ref al0, .ref al1, .ref al2, .int (nI na)])) :: (al0, .inl (cI, 5, .inl (fl0))) :: (al1, .inl (cI, 5, .inl (fl1))) :: (al2, .inl (cI, 5, .inl (fl2))) :: rest) (bI (sBar (fl0 a) (fl1 a) (fl2 a) on co ho wa ot)) (z0 :: (aL, .inr (0, [.ref al0, .ref al1, .ref al2, .int (nI na)])) :: (al0, .inl (cI, 5, .inl (fl0))) :: (al1, .inl (cI, 5, .inl (fl1))) :: (al2, .inl (cI, 5, .inl (fl2))) :: rest) := by
  refine MI.of [.ref aL, .int (nI a), .int on, .int co, .int ho, .int wa, .int ot] (by decide) (Nat.le_of_ble_eq_true rfl) rfl ?_
  intro p e s m below meth c A C0 hr
  refine ww_iload_n C0 dX0_forbids_0 rfl ?_
  refine ww_if_lt (tgt := 27) C0 dX0_forbids_1 (by decide) (fun h1 => ?_) (fun h1 => ?_)
  · skip
    replace h1 := (nI_ltE (a := a) (b := 0) rfl rfl (by omega) (by omega)).mp h1
    exfalso; omega
  · skip
    replace h1 := (not_congr (nI_ltE (a := a) (b := 0) rfl rfl (by omega) (by omega))).mp h1
    refine ww_iload_n C0 dX0_forbids_4 rfl ?_
    refine ww_aload_n C0 dX0_forbids_5 rfl ?_
    refine ww_get C0 (ci := 0) (C := RX0) (T := TX0) (N := 4) ku_X0 1 rfl rfl 3 (by decide) kw_X0_21 rfl dX0_forbids_6 ?_
    refine ww_icmp_ge (tgt := 27) C0 dX0_forbids_9 (by decide) (fun h9 => ?_) (fun h9 => ?_)
    · skip
      replace h9 := (nI_leE (a := na) (b := a) rfl rfl (by omega) (by omega)).mp h9
      exfalso; omega
    · skip
      replace h9 := (not_congr (nI_leE (a := na) (b := a) rfl rfl (by omega) (by omega))).mp h9
      refine ww_iload_n C0 dX0_forbids_12 rfl ?_
      refine ww_iconst (v := (5)) C0 dX0_forbids_13 rfl ?_
      refine ww_icmp_ge (tgt := 27) C0 dX0_forbids_14 (by decide) (fun h14 => ?_) (fun h14 => ?_)
      · skip
        replace h14 := (nI_leE (a := 5) (b := a) rfl rfl (by omega) (by omega)).mp h14
        exfalso; omega
      · skip
        replace h14 := (not_congr (nI_leE (a := 5) (b := a) rfl rfl (by omega) (by omega))).mp h14
        refine ww_aload_n C0 dX0_forbids_17 rfl ?_
        refine ww_get C0 (ci := 0) (C := RX0) (T := TX0) (N := 4) ku_X0 1 rfl rfl 0 (by decide) kw_X0_9 rfl dX0_forbids_18 ?_
        refine ww_iload_n C0 dX0_forbids_21 rfl ?_
        refine ww_iald_n (j := a) C0 2 0 rfl rfl rfl (by omega) (by decide) dX0_forbids_22 ?_
        refine ww_iload_n C0 dX0_forbids_23 rfl ?_
        refine ww_icmp_eq (tgt := 29) C0 dX0_forbids_24 (by decide) (fun h24 => ?_) (fun h24 => ?_)
        · skip
          refine ww_aload_n C0 dX0_forbids_29 rfl ?_
          refine ww_get C0 (ci := 0) (C := RX0) (T := TX0) (N := 4) ku_X0 1 rfl rfl 1 (by decide) kw_X0_15 rfl dX0_forbids_30 ?_
          refine ww_iload_n C0 dX0_forbids_33 rfl ?_
          refine ww_iald_n (j := a) C0 3 0 rfl rfl rfl (by omega) (by decide) dX0_forbids_34 ?_
          refine ww_iconst (v := (3)) C0 dX0_forbids_35 rfl ?_
          refine ww_icmp_ne (tgt := 58) C0 dX0_forbids_36 (by decide) (fun h36 => ?_) (fun h36 => ?_)
          · skip
            refine ww_aload_n C0 dX0_forbids_58 rfl ?_
            refine ww_get C0 (ci := 0) (C := RX0) (T := TX0) (N := 4) ku_X0 1 rfl rfl 1 (by decide) kw_X0_15 rfl dX0_forbids_59 ?_
            refine ww_iload_n C0 dX0_forbids_62 rfl ?_
            refine ww_iald_n (j := a) C0 3 0 rfl rfl rfl (by omega) (by decide) dX0_forbids_63 ?_
            refine ww_aload_n C0 dX0_forbids_64 rfl ?_
            refine ww_get C0 (ci := 0) (C := RX0) (T := TX0) (N := 4) ku_X0 1 rfl rfl 2 (by decide) kw_X0_18 rfl dX0_forbids_65 ?_
            refine ww_iload_n C0 dX0_forbids_68 rfl ?_
            refine ww_iald_n (j := a) C0 4 0 rfl rfl rfl (by omega) (by decide) dX0_forbids_69 ?_
            refine ww_iload_n C0 dX0_forbids_70 rfl ?_
            refine ww_iload C0 dX0_forbids_71 rfl ?_
            refine ww_iload C0 dX0_forbids_73 rfl ?_
            refine ww_callSi C0 (c_X0_forbidsAlone l D cI cZ cQ) kd_X0_forbidsAlone kw_X0_25 ks_X0_forbidsAlone ki_X0 hd_X0_forbidsAlone ⟨Nat.le_of_ble_eq_true rfl, Nat.le_of_ble_eq_true rfl, rfl, rfl⟩ (Nat.le_of_ble_eq_true rfl) dX0_forbids_75 rfl rfl ⟨Nat.zero_le _, Nat.zero_le _⟩ ?_
            exact ww_zret C0 hr dX0_forbids_78 (by simp [sBar, bI, *]) (by rfl)
          · skip
            refine ww_iload C0 dX0_forbids_39 rfl ?_
            refine ww_aload_n C0 dX0_forbids_41 rfl ?_
            refine ww_get C0 (ci := 0) (C := RX0) (T := TX0) (N := 4) ku_X0 1 rfl rfl 2 (by decide) kw_X0_18 rfl dX0_forbids_42 ?_
            refine ww_iload_n C0 dX0_forbids_45 rfl ?_
            refine ww_iald_n (j := a) C0 4 0 rfl rfl rfl (by omega) (by decide) dX0_forbids_46 ?_
            refine ww_iconst (v := (5)) C0 dX0_forbids_47 rfl ?_
            refine ww_irem C0 dX0_forbids_48 (by decide) ?_
            refine ww_icmp_ge (tgt := 56) C0 dX0_forbids_49 (by decide) (fun h49 => ?_) (fun h49 => ?_)
            · skip
              refine ww_iconst (v := (0)) C0 dX0_forbids_56 rfl ?_
              exact ww_zret C0 hr dX0_forbids_57 (by simp [sBar, bI, *]) (by rfl)
            · skip
              refine ww_iconst (v := (1)) C0 dX0_forbids_52 rfl ?_
              refine ww_goto (tgt := 57) C0 dX0_forbids_53 (by decide) ?_
              exact ww_zret C0 hr dX0_forbids_57 (by simp [sBar, bI, *]) (by rfl)
        · skip
          refine ww_iconst (v := (0)) C0 dX0_forbids_27 rfl ?_
          exact ww_zret C0 hr dX0_forbids_28 (by simp [sBar, bI, *]) (by rfl)

set_option maxHeartbeats 4000000 in
set_option maxRecDepth 100000 in
theorem c_X4_isMule (l : Launch) (D : va_G) (cI cZ cQ : ClassId) {aX aT aL aC aN aY aA aO aK aG aW : Nat} {nm fa ac : Nat} {sd : Int64} {rest : va_W} {m : Int32} (hnm : nm ≤ 5) : MI l D [(cI, .int), (cZ, .boolean), (cQ, .object "MulesRemember$State")] yX4_isMule cX4_isMule 2 .boolean ({ frames := 0, cells := 0, slots := 0, locals := 0 } : Room) [.ref aX, .int m] ((aX, .inr (4, [.ref aT, .ref aL, .ref aC, .int (nI nm), .ref aN, .ref aY, .ref aA, .int (nI fa), .int (nI ac), .ref aO, .ref aK, .ref aG, .ref aW, .long sd])) :: rest) (bI (isN nm m)) ((aX, .inr (4, [.ref aT, .ref aL, .ref aC, .int (nI nm), .ref aN, .ref aY, .ref aA, .int (nI fa), .int (nI ac), .ref aO, .ref aK, .ref aG, .ref aW, .long sd])) :: rest) := by
  refine MI.of [.ref aX, .int m] (by decide) (Nat.le_of_ble_eq_true rfl) rfl ?_
  intro p e s m below meth c A C0 hr
  refine ww_iload_n C0 dX4_isMule_0 rfl ?_
  refine ww_if_lt (tgt := 21) C0 dX4_isMule_1 (by decide) (fun h1 => ?_) (fun h1 => ?_)
  · skip
    refine ww_iconst (v := (0)) C0 dX4_isMule_21 rfl ?_
    exact ww_zret C0 hr dX4_isMule_22 (by first | (rw [isN_lt0 h1]; rfl) | (rw [isN_ge h9]; rfl) | (rw [isN_yes h1 h9]; rfl)) (by rfl)
  · skip
    refine ww_iload_n C0 dX4_isMule_4 rfl ?_
    refine ww_aload_n C0 dX4_isMule_5 rfl ?_
    refine ww_get C0 (ci := 4) (C := RX4) (T := TX4) (N := 14) ku_X4 0 rfl rfl 3 (by decide) kw_X4_27 rfl dX4_isMule_6 ?_
    refine ww_icmp_ge (tgt := 21) C0 dX4_isMule_9 (by decide) (fun h9 => ?_) (fun h9 => ?_)
    · skip
      refine ww_iconst (v := (0)) C0 dX4_isMule_21 rfl ?_
      exact ww_zret C0 hr dX4_isMule_22 (by first | (rw [isN_lt0 h1]; rfl) | (rw [isN_ge h9]; rfl) | (rw [isN_yes h1 h9]; rfl)) (by rfl)
    · skip
      refine ww_iload_n C0 dX4_isMule_12 rfl ?_
      refine ww_iconst (v := (5)) C0 dX4_isMule_13 rfl ?_
      refine ww_icmp_ge (tgt := 21) C0 dX4_isMule_14 (by decide) (fun h14 => ?_) (fun h14 => ?_)
      · skip
        exact absurd h14 (isN_cap 5 (by decide) hnm h9)
      · skip
        refine ww_iconst (v := (1)) C0 dX4_isMule_17 rfl ?_
        refine ww_goto (tgt := 22) C0 dX4_isMule_18 (by decide) ?_
        exact ww_zret C0 hr dX4_isMule_22 (by first | (rw [isN_lt0 h1]; rfl) | (rw [isN_ge h9]; rfl) | (rw [isN_yes h1 h9]; rfl)) (by rfl)

set_option maxHeartbeats 4000000 in
set_option maxRecDepth 100000 in
theorem c_X4_isArticle (l : Launch) (D : va_G) (cI cZ cQ : ClassId) {aX aT aL aC aN aY aA aO aK aG aW al0 al1 al2 : Nat} {nm fa ac na : Nat} {sd : Int64} {rest : va_W} {m : Int32} (hna : na ≤ 5) : MI l D [(cI, .int), (cZ, .boolean), (cQ, .object "MulesRemember$State")] yX4_isArticle cX4_isArticle 2 .boolean ({ frames := 0, cells := 0, slots := 0, locals := 0 } : Room) [.ref aX, .int m] ((aX, .inr (4, [.ref aT, .ref aL, .ref aC, .int (nI nm), .ref aN, .ref aY, .ref aA, .int (nI fa), .int (nI ac), .ref aO, .ref aK, .ref aG, .ref aW, .long sd])) :: (aL, .inr (0, [.ref al0, .ref al1, .ref al2, .int (nI na)])) :: rest) (bI (isN na m)) ((aX, .inr (4, [.ref aT, .ref aL, .ref aC, .int (nI nm), .ref aN, .ref aY, .ref aA, .int (nI fa), .int (nI ac), .ref aO, .ref aK, .ref aG, .ref aW, .long sd])) :: (aL, .inr (0, [.ref al0, .ref al1, .ref al2, .int (nI na)])) :: rest) := by
  refine MI.of [.ref aX, .int m] (by decide) (Nat.le_of_ble_eq_true rfl) rfl ?_
  intro p e s m below meth c A C0 hr
  refine ww_iload_n C0 dX4_isArticle_0 rfl ?_
  refine ww_if_lt (tgt := 24) C0 dX4_isArticle_1 (by decide) (fun h1 => ?_) (fun h1 => ?_)
  · skip
    refine ww_iconst (v := (0)) C0 dX4_isArticle_24 rfl ?_
    exact ww_zret C0 hr dX4_isArticle_25 (by first | (rw [isN_lt0 h1]; rfl) | (rw [isN_ge h12]; rfl) | (rw [isN_yes h1 h12]; rfl)) (by rfl)
  · skip
    refine ww_iload_n C0 dX4_isArticle_4 rfl ?_
    refine ww_aload_n C0 dX4_isArticle_5 rfl ?_
    refine ww_get C0 (ci := 4) (C := RX4) (T := TX4) (N := 14) ku_X4 0 rfl rfl 1 (by decide) kw_X4_19 rfl dX4_isArticle_6 ?_
    refine ww_getN C0 (ci := 0) (C := RX0) (T := TX0) (N := 4) ku_X0 1 rfl rfl 3 (by decide) kn_X4_83 rfl dX4_isArticle_9 ?_
    refine ww_icmp_ge (tgt := 24) C0 dX4_isArticle_12 (by decide) (fun h12 => ?_) (fun h12 => ?_)
    · skip
      refine ww_iconst (v := (0)) C0 dX4_isArticle_24 rfl ?_
      exact ww_zret C0 hr dX4_isArticle_25 (by first | (rw [isN_lt0 h1]; rfl) | (rw [isN_ge h12]; rfl) | (rw [isN_yes h1 h12]; rfl)) (by rfl)
    · skip
      refine ww_iload_n C0 dX4_isArticle_15 rfl ?_
      refine ww_iconst (v := (5)) C0 dX4_isArticle_16 rfl ?_
      refine ww_icmp_ge (tgt := 24) C0 dX4_isArticle_17 (by decide) (fun h17 => ?_) (fun h17 => ?_)
      · skip
        exact absurd h17 (isN_cap 5 (by decide) hna h12)
      · skip
        refine ww_iconst (v := (1)) C0 dX4_isArticle_20 rfl ?_
        refine ww_goto (tgt := 25) C0 dX4_isArticle_21 (by decide) ?_
        exact ww_zret C0 hr dX4_isArticle_25 (by first | (rw [isN_lt0 h1]; rfl) | (rw [isN_ge h12]; rfl) | (rw [isN_yes h1 h12]; rfl)) (by rfl)

set_option maxHeartbeats 4000000 in
set_option maxRecDepth 100000 in
theorem c_X4_isStone (l : Launch) (D : va_G) (cI cZ cQ : ClassId) {rest : va_W} {m : Int32} : MI l D [(cI, .int), (cZ, .boolean), (cQ, .object "MulesRemember$State")] yX4_isStone cX4_isStone 1 .boolean ({ frames := 0, cells := 0, slots := 0, locals := 0 } : Room) [.int m] (rest) (bI (isN 10 m)) (rest) := by
  refine MI.of [.int m] (by decide) (Nat.le_of_ble_eq_true rfl) rfl ?_
  intro p e s m below meth c A C0 hr
  refine ww_iload_n C0 dX4_isStone_0 rfl ?_
  refine ww_if_lt (tgt := 14) C0 dX4_isStone_1 (by decide) (fun h1 => ?_) (fun h1 => ?_)
  · skip
    refine ww_iconst (v := (0)) C0 dX4_isStone_14 rfl ?_
    exact ww_zret C0 hr dX4_isStone_15 (by first | (rw [isN_lt0 h1]; rfl) | (rw [isN_ge h7]; rfl) | (rw [isN_yes h1 h7]; rfl)) (by rfl)
  · skip
    refine ww_iload_n C0 dX4_isStone_4 rfl ?_
    refine ww_bipush (v := (10)) C0 dX4_isStone_5 rfl ?_
    refine ww_icmp_ge (tgt := 14) C0 dX4_isStone_7 (by decide) (fun h7 => ?_) (fun h7 => ?_)
    · skip
      refine ww_iconst (v := (0)) C0 dX4_isStone_14 rfl ?_
      exact ww_zret C0 hr dX4_isStone_15 (by first | (rw [isN_lt0 h1]; rfl) | (rw [isN_ge h7]; rfl) | (rw [isN_yes h1 h7]; rfl)) (by rfl)
    · skip
      refine ww_iconst (v := (1)) C0 dX4_isStone_10 rfl ?_
      refine ww_goto (tgt := 15) C0 dX4_isStone_11 (by decide) ?_
      exact ww_zret C0 hr dX4_isStone_15 (by first | (rw [isN_lt0 h1]; rfl) | (rw [isN_ge h7]; rfl) | (rw [isN_yes h1 h7]; rfl)) (by rfl)

set_option maxHeartbeats 4000000 in
set_option maxRecDepth 100000 in
theorem c_X4_isSlot (l : Launch) (D : va_G) (cI cZ cQ : ClassId) {rest : va_W} {m : Int32} : MI l D [(cI, .int), (cZ, .boolean), (cQ, .object "MulesRemember$State")] yX4_isSlot cX4_isSlot 1 .boolean ({ frames := 0, cells := 0, slots := 0, locals := 0 } : Room) [.int m] (rest) (bI (isN 2 m)) (rest) := by
  refine MI.of [.int m] (by decide) (Nat.le_of_ble_eq_true rfl) rfl ?_
  intro p e s m below meth c A C0 hr
  refine ww_iload_n C0 dX4_isSlot_0 rfl ?_
  refine ww_if_lt (tgt := 13) C0 dX4_isSlot_1 (by decide) (fun h1 => ?_) (fun h1 => ?_)
  · skip
    refine ww_iconst (v := (0)) C0 dX4_isSlot_13 rfl ?_
    exact ww_zret C0 hr dX4_isSlot_14 (by first | (rw [isN_lt0 h1]; rfl) | (rw [isN_ge h6]; rfl) | (rw [isN_yes h1 h6]; rfl)) (by rfl)
  · skip
    refine ww_iload_n C0 dX4_isSlot_4 rfl ?_
    refine ww_iconst (v := (2)) C0 dX4_isSlot_5 rfl ?_
    refine ww_icmp_ge (tgt := 13) C0 dX4_isSlot_6 (by decide) (fun h6 => ?_) (fun h6 => ?_)
    · skip
      refine ww_iconst (v := (0)) C0 dX4_isSlot_13 rfl ?_
      exact ww_zret C0 hr dX4_isSlot_14 (by first | (rw [isN_lt0 h1]; rfl) | (rw [isN_ge h6]; rfl) | (rw [isN_yes h1 h6]; rfl)) (by rfl)
    · skip
      refine ww_iconst (v := (1)) C0 dX4_isSlot_9 rfl ?_
      refine ww_goto (tgt := 14) C0 dX4_isSlot_10 (by decide) ?_
      exact ww_zret C0 hr dX4_isSlot_14 (by first | (rw [isN_lt0 h1]; rfl) | (rw [isN_ge h6]; rfl) | (rw [isN_yes h1 h6]; rfl)) (by rfl)

set_option maxHeartbeats 4000000 in
set_option maxRecDepth 100000 in
theorem c_X4_isFlag (l : Launch) (D : va_G) (cI cZ cQ : ClassId) {rest : va_W} {m : Int32} : MI l D [(cI, .int), (cZ, .boolean), (cQ, .object "MulesRemember$State")] yX4_isFlag cX4_isFlag 1 .boolean ({ frames := 0, cells := 0, slots := 0, locals := 0 } : Room) [.int m] (rest) (bI (isN 2 m)) (rest) := by
  refine MI.of [.int m] (by decide) (Nat.le_of_ble_eq_true rfl) rfl ?_
  intro p e s m below meth c A C0 hr
  refine ww_iload_n C0 dX4_isFlag_0 rfl ?_
  refine ww_if_eq (tgt := 9) C0 dX4_isFlag_1 (by decide) (fun h1 => ?_) (fun h1 => ?_)
  · skip
    refine ww_iconst (v := (1)) C0 dX4_isFlag_9 rfl ?_
    refine ww_goto (tgt := 14) C0 dX4_isFlag_10 (by decide) ?_
    exact ww_zret C0 hr dX4_isFlag_14 (by simp [isN_2, bI, *]) (by rfl)
  · skip
    refine ww_iload_n C0 dX4_isFlag_4 rfl ?_
    refine ww_iconst (v := (1)) C0 dX4_isFlag_5 rfl ?_
    refine ww_icmp_ne (tgt := 13) C0 dX4_isFlag_6 (by decide) (fun h6 => ?_) (fun h6 => ?_)
    · skip
      refine ww_iconst (v := (0)) C0 dX4_isFlag_13 rfl ?_
      exact ww_zret C0 hr dX4_isFlag_14 (by simp [isN_2, bI, *]) (by rfl)
    · skip
      refine ww_iconst (v := (1)) C0 dX4_isFlag_9 rfl ?_
      refine ww_goto (tgt := 14) C0 dX4_isFlag_10 (by decide) ?_
      exact ww_zret C0 hr dX4_isFlag_14 (by simp [isN_2, bI, *]) (by rfl)

set_option maxHeartbeats 4000000 in
set_option maxRecDepth 100000 in
theorem c_X4_nextStone (l : Launch) (D : va_G) (cI cZ cQ : ClassId) {rest : va_W} {s0 wa : Int32} : MI l D [(cI, .int), (cZ, .boolean), (cQ, .object "MulesRemember$State")] yX4_nextStone cX4_nextStone 2 .int ({ frames := 0, cells := 0, slots := 0, locals := 0 } : Room) [.int s0, .int wa] (rest) (sNext s0 wa) (rest) := by
  refine MI.of [.int s0, .int wa] (by decide) (Nat.le_of_ble_eq_true rfl) rfl ?_
  intro p e s m below meth c A C0 hr
  refine ww_iload_n C0 dX4_nextStone_0 rfl ?_
  refine ww_iconst (v := (1)) C0 dX4_nextStone_1 rfl ?_
  refine ww_icmp_ne (tgt := 11) C0 dX4_nextStone_2 (by decide) (fun h2 => ?_) (fun h2 => ?_)
  · skip
    refine ww_iload_n C0 dX4_nextStone_11 rfl ?_
    refine ww_iconst (v := (1)) C0 dX4_nextStone_12 rfl ?_
    refine ww_isub C0 dX4_nextStone_13 ?_
    exact ww_iret C0 hr dX4_nextStone_14 (by simp [sNext, *]) (by rfl)
  · skip
    refine ww_iload_n C0 dX4_nextStone_5 rfl ?_
    refine ww_iconst (v := (1)) C0 dX4_nextStone_6 rfl ?_
    refine ww_iadd C0 dX4_nextStone_7 ?_
    refine ww_goto (tgt := 14) C0 dX4_nextStone_8 (by decide) ?_
    exact ww_iret C0 hr dX4_nextStone_14 (by simp [sNext, *]) (by rfl)
