set_option maxHeartbeats 4000000 in
set_option maxRecDepth 100000 in
theorem c_X4_share_b (l : Launch) (D : va_G) (cI cZ cQ : ClassId) {aX aT aL aC aN aY aA aO aK aG aW al0 al1 al2 : Nat} {nm fa ac na : Nat} {sd : Int64} {rest : va_W} {m : Int32} {u : Bool} (hna : na ≤ 5) (hm : isN na m = false) : MI l D [(cI, .int), (cZ, .boolean), (cQ, .object "MulesRemember$State")] yX4_share cX4_share 6 .int ({ frames := 4, cells := 0, slots := 0, locals := 102 } : Room) [.ref aX, .int m, .int (bI u)] ((aX, .inr (4, [.ref aT, .ref aL, .ref aC, .int (nI nm), .ref aN, .ref aY, .ref aA, .int (nI fa), .int (nI ac), .ref aO, .ref aK, .ref aG, .ref aW, .long sd])) :: (aL, .inr (0, [.ref al0, .ref al1, .ref al2, .int (nI na)])) :: rest) (-1) ((aX, .inr (4, [.ref aT, .ref aL, .ref aC, .int (nI nm), .ref aN, .ref aY, .ref aA, .int (nI fa), .int (nI ac), .ref aO, .ref aK, .ref aG, .ref aW, .long sd])) :: (aL, .inr (0, [.ref al0, .ref al1, .ref al2, .int (nI na)])) :: rest) := by
  refine MI.of [.ref aX, .int m, .int (bI u), .null, .null, .null] (by decide) (Nat.le_of_ble_eq_true rfl) rfl ?_
  intro p e s m below meth c A C0 hr
  refine ww_aload_n C0 dX4_share_0 rfl ?_
  refine ww_iload_n C0 dX4_share_1 rfl ?_
  refine ww_callVi C0 (qc := (RX4, TX4, 14)) 0 4 (c_X4_isArticle l D cI cZ cQ hna) kd_X4_isArticle kw_X4_97 km_X4_isArticle kl_X4_isArticle ki_X4 hd_X4_isArticle rfl rfl ⟨Nat.le_of_ble_eq_true rfl, Nat.le_of_ble_eq_true rfl, rfl, rfl⟩ (Nat.le_of_ble_eq_true rfl) dX4_share_2 rfl rfl rfl ⟨Nat.zero_le _, Nat.zero_le _⟩ ?_
  refine ww_bif_ne (tgt := 10) C0 dX4_share_5 (by decide) (fun h5 => ?_) (fun h5 => ?_)
  · skip
    exact absurd h5 (by rw [hm]; decide)
  · skip
    refine ww_iconst (v := (-1)) C0 dX4_share_8 rfl ?_
    exact ww_iret C0 hr dX4_share_9 (by rfl) (by rfl)

set_option maxHeartbeats 4000000 in
set_option maxRecDepth 100000 in
theorem c_X4_share (l : Launch) (D : va_G) (cI cZ cQ : ClassId) {aX aT aL aC aN aY aA aO aK aG aW al0 al1 al2 an0 an1 an2 : Nat} {nm fa ac na : Nat} {hN bN : Int32} {sd : Int64} {fl0 fl1 fl2 fC fn0 fn1 fn2 : Nat → Int32} {rest : va_W} {a Z : Nat} {u : Bool} (hnm : nm ≤ 5) (hna : na ≤ 5) (ha : a < na) (hZ : (sumI (fun o => sSixty (sFF nm na fl0 fl1 fl2 fC fn0 o (fn0 o) 0 hN) (nI a) + sSixty (sFF nm na fl0 fl1 fl2 fC fn0 o (fn0 o) 1 hN) (nI a)) nm) = nI Z) (hZb : Z < 2 ^ 31) : MI l D [(cI, .int), (cZ, .boolean), (cQ, .object "MulesRemember$State")] yX4_share cX4_share 6 .int ({ frames := 4, cells := 0, slots := 0, locals := 102 } : Room) [.ref aX, .int (nI a), .int (bI u)] ((aX, .inr (4, [.ref aT, .ref aL, .ref aC, .int (nI nm), .ref aN, .ref aY, .ref aA, .int (nI fa), .int (nI ac), .ref aO, .ref aK, .ref aG, .ref aW, .long sd])) :: (aL, .inr (0, [.ref al0, .ref al1, .ref al2, .int (nI na)])) :: (al0, .inl (cI, 5, .inl (fl0))) :: (al1, .inl (cI, 5, .inl (fl1))) :: (al2, .inl (cI, 5, .inl (fl2))) :: (aC, .inl (cI, 5, .inl (fC))) :: (aN, .inr (2, [.ref an0, .ref an1, .ref an2, .int hN, .int bN])) :: (an0, .inl (cI, 5, .inl (fn0))) :: (an1, .inl (cI, 5, .inl (fn1))) :: (an2, .inl (cI, 5, .inl (fn2))) :: rest) (sFrac Z 60 u) ((aX, .inr (4, [.ref aT, .ref aL, .ref aC, .int (nI nm), .ref aN, .ref aY, .ref aA, .int (nI fa), .int (nI ac), .ref aO, .ref aK, .ref aG, .ref aW, .long sd])) :: (aL, .inr (0, [.ref al0, .ref al1, .ref al2, .int (nI na)])) :: (al0, .inl (cI, 5, .inl (fl0))) :: (al1, .inl (cI, 5, .inl (fl1))) :: (al2, .inl (cI, 5, .inl (fl2))) :: (aC, .inl (cI, 5, .inl (fC))) :: (aN, .inr (2, [.ref an0, .ref an1, .ref an2, .int hN, .int bN])) :: (an0, .inl (cI, 5, .inl (fn0))) :: (an1, .inl (cI, 5, .inl (fn1))) :: (an2, .inl (cI, 5, .inl (fn2))) :: rest) := by
  refine MI.of [.ref aX, .int (nI a), .int (bI u), .null, .null, .null] (by decide) (Nat.le_of_ble_eq_true rfl) rfl ?_
  intro p e s m below meth c A C0 hr
  refine ww_aload_n C0 dX4_share_0 rfl ?_
  refine ww_iload_n C0 dX4_share_1 rfl ?_
  refine ww_callVi C0 (qc := (RX4, TX4, 14)) 0 4 (c_X4_isArticle l D cI cZ cQ hna) kd_X4_isArticle kw_X4_97 km_X4_isArticle kl_X4_isArticle ki_X4 hd_X4_isArticle rfl rfl ⟨Nat.le_of_ble_eq_true rfl, Nat.le_of_ble_eq_true rfl, rfl, rfl⟩ (Nat.le_of_ble_eq_true rfl) dX4_share_2 rfl rfl rfl ⟨Nat.zero_le _, Nat.zero_le _⟩ ?_
  refine ww_bif_ne (tgt := 10) C0 dX4_share_5 (by decide) (fun h5 => ?_) (fun h5 => ?_)
  · skip
    refine ww_iconst (v := (0)) C0 dX4_share_10 rfl ?_
    refine ww_istore_n (i := 3) C0 dX4_share_11 rfl (Nat.le_of_ble_eq_true rfl) rfl ?_
    simp only [List.set_cons_zero, List.set_cons_succ]
    refine ww_iconst (v := (0)) C0 dX4_share_12 rfl ?_
    refine ww_istore (i := 4) C0 dX4_share_13 (Nat.le_of_ble_eq_true rfl) rfl ?_
    simp only [List.set_cons_zero, List.set_cons_succ]
    refine ww_back (ww_loop (pc := 15) 0 (nm) (by omega) (fun j => [_, _, _, .int (sumI (fun o => sSixty (sFF nm na fl0 fl1 fl2 fC fn0 o (fn0 o) 0 hN) (nI a) + sSixty (sFF nm na fl0 fl1 fl2 fC fn0 o (fn0 o) 1 hN) (nI a)) j), .int (nI j), .null]) (fun j => _) ?_ ?_) ⟨Or.inr rfl, Or.inr rfl, Or.inr rfl, Or.inr rfl, Or.inr rfl, Or.inl rfl, trivial⟩ (by rfl)
    · intro j hj0 hj ih
      refine ww_iload C0 dX4_share_15 rfl ?_
      refine ww_aload_n C0 dX4_share_17 rfl ?_
      refine ww_get C0 (ci := 4) (C := RX4) (T := TX4) (N := 14) ku_X4 0 rfl rfl 3 (by decide) kw_X4_27 rfl dX4_share_18 ?_
      refine ww_icmp_ge (tgt := 64) C0 dX4_share_21 (by decide) (fun h21 => ?_) (fun h21 => ?_)
      · skip
        replace h21 := (nI_leE (a := nm) (b := j) rfl rfl (by omega) (by omega)).mp h21
        exfalso; omega
      · skip
        replace h21 := (not_congr (nI_leE (a := nm) (b := j) rfl rfl (by omega) (by omega))).mp h21
        refine ww_iconst (v := (0)) C0 dX4_share_24 rfl ?_
        refine ww_istore (i := 5) C0 dX4_share_25 (Nat.le_of_ble_eq_true rfl) rfl ?_
        simp only [List.set_cons_zero, List.set_cons_succ]
        refine ww_iload C0 dX4_share_27 rfl ?_
        refine ww_iconst (v := (1)) C0 dX4_share_29 rfl ?_
        refine ww_icmp_gt (tgt := 58) C0 dX4_share_30 (by decide) (fun h30 => ?_) (fun h30 => ?_)
        · skip
          replace h30 := (nI_ltE (a := 1) (b := 0) rfl rfl (by omega) (by omega)).mp h30
          exfalso; omega
        · skip
          replace h30 := (not_congr (nI_ltE (a := 1) (b := 0) rfl rfl (by omega) (by omega))).mp h30
          refine ww_iload_n C0 dX4_share_33 rfl ?_
          refine ww_aload_n C0 dX4_share_34 rfl ?_
          refine ww_aload_n C0 dX4_share_35 rfl ?_
          refine ww_get C0 (ci := 4) (C := RX4) (T := TX4) (N := 14) ku_X4 0 rfl rfl 4 (by decide) kw_X4_34 rfl dX4_share_36 ?_
          refine ww_iload C0 dX4_share_39 rfl ?_
          refine ww_iload C0 dX4_share_41 rfl ?_
          refine ww_callVi C0 (qc := (RX4, TX4, 14)) 0 4 (c_X4_forbidders l D cI cZ cQ hnm hna hj) kd_X4_forbidders kw_X4_131 km_X4_forbidders kl_X4_forbidders ki_X4 hd_X4_forbidders rfl rfl ⟨Nat.le_of_ble_eq_true rfl, Nat.le_of_ble_eq_true rfl, rfl, rfl⟩ (Nat.le_of_ble_eq_true rfl) dX4_share_43 rfl rfl rfl ⟨Nat.zero_le _, Nat.zero_le _⟩ ?_
          refine ww_iload_n C0 dX4_share_46 rfl ?_
          refine ww_callSi C0 (c_X4_sixtiethsOfStep l D cI cZ cQ) kd_X4_sixtiethsOfStep kw_X4_182 ks_X4_sixtiethsOfStep ki_X4 hd_X4_sixtiethsOfStep ⟨Nat.le_of_ble_eq_true rfl, Nat.le_of_ble_eq_true rfl, rfl, rfl⟩ (Nat.le_of_ble_eq_true rfl) dX4_share_47 rfl rfl ⟨Nat.zero_le _, Nat.zero_le _⟩ ?_
          refine ww_iadd C0 dX4_share_50 ?_
          refine ww_istore_n (i := 3) C0 dX4_share_51 rfl (Nat.le_of_ble_eq_true rfl) rfl ?_
          simp only [List.set_cons_zero, List.set_cons_succ]
          refine ww_iinc (d := 1) C0 dX4_share_52 rfl rfl rfl ?_
          simp only [List.set_cons_zero, List.set_cons_succ]
          refine ww_goto (tgt := 27) C0 dX4_share_55 (by decide) ?_
          refine ww_cong (lo' := [_, _, _, _, _, .int 1]) ?_ (by rfl) rfl rfl
          refine ww_iload C0 dX4_share_27 rfl ?_
          refine ww_iconst (v := (1)) C0 dX4_share_29 rfl ?_
          refine ww_icmp_gt (tgt := 58) C0 dX4_share_30 (by decide) (fun h30 => ?_) (fun h30 => ?_)
          · skip
            replace h30 := (nI_ltE (a := 1) (b := 1) rfl rfl (by omega) (by omega)).mp h30
            exfalso; omega
          · skip
            replace h30 := (not_congr (nI_ltE (a := 1) (b := 1) rfl rfl (by omega) (by omega))).mp h30
            refine ww_iload_n C0 dX4_share_33 rfl ?_
            refine ww_aload_n C0 dX4_share_34 rfl ?_
            refine ww_aload_n C0 dX4_share_35 rfl ?_
            refine ww_get C0 (ci := 4) (C := RX4) (T := TX4) (N := 14) ku_X4 0 rfl rfl 4 (by decide) kw_X4_34 rfl dX4_share_36 ?_
            refine ww_iload C0 dX4_share_39 rfl ?_
            refine ww_iload C0 dX4_share_41 rfl ?_
            refine ww_callVi C0 (qc := (RX4, TX4, 14)) 0 4 (c_X4_forbidders l D cI cZ cQ hnm hna hj) kd_X4_forbidders kw_X4_131 km_X4_forbidders kl_X4_forbidders ki_X4 hd_X4_forbidders rfl rfl ⟨Nat.le_of_ble_eq_true rfl, Nat.le_of_ble_eq_true rfl, rfl, rfl⟩ (Nat.le_of_ble_eq_true rfl) dX4_share_43 rfl rfl rfl ⟨Nat.zero_le _, Nat.zero_le _⟩ ?_
            refine ww_iload_n C0 dX4_share_46 rfl ?_
            refine ww_callSi C0 (c_X4_sixtiethsOfStep l D cI cZ cQ) kd_X4_sixtiethsOfStep kw_X4_182 ks_X4_sixtiethsOfStep ki_X4 hd_X4_sixtiethsOfStep ⟨Nat.le_of_ble_eq_true rfl, Nat.le_of_ble_eq_true rfl, rfl, rfl⟩ (Nat.le_of_ble_eq_true rfl) dX4_share_47 rfl rfl ⟨Nat.zero_le _, Nat.zero_le _⟩ ?_
            refine ww_iadd C0 dX4_share_50 ?_
            refine ww_istore_n (i := 3) C0 dX4_share_51 rfl (Nat.le_of_ble_eq_true rfl) rfl ?_
            simp only [List.set_cons_zero, List.set_cons_succ]
            refine ww_iinc (d := 1) C0 dX4_share_52 rfl rfl rfl ?_
            simp only [List.set_cons_zero, List.set_cons_succ]
            refine ww_goto (tgt := 27) C0 dX4_share_55 (by decide) ?_
            refine ww_iload C0 dX4_share_27 rfl ?_
            refine ww_iconst (v := (1)) C0 dX4_share_29 rfl ?_
            refine ww_icmp_gt (tgt := 58) C0 dX4_share_30 (by decide) (fun h30 => ?_) (fun h30 => ?_)
            · skip
              replace h30 := (nI_ltE (a := 1) (b := 1 + 1) rfl (nI_addE (a := 1) (b := 1) rfl rfl) (by omega) (by omega)).mp h30
              refine ww_iinc (d := 1) C0 dX4_share_58 rfl rfl rfl ?_
              simp only [List.set_cons_zero, List.set_cons_succ]
              refine ww_goto (tgt := 15) C0 dX4_share_61 (by decide) ?_
              exact ww_back ih ⟨Or.inr rfl, Or.inr rfl, Or.inr rfl, Or.inr (congrArg Value.int (by simp only [sumI, Int32.add_assoc])), Or.inr (congrArg Value.int (nI_addE (a := j) (b := 1) rfl rfl).symm), Or.inl rfl, trivial⟩ (by rfl)
            · skip
              replace h30 := (not_congr (nI_ltE (a := 1) (b := 1 + 1) rfl (nI_addE (a := 1) (b := 1) rfl rfl) (by omega) (by omega))).mp h30
              exfalso; omega
    · skip
      refine ww_iload C0 dX4_share_15 rfl ?_
      refine ww_aload_n C0 dX4_share_17 rfl ?_
      refine ww_get C0 (ci := 4) (C := RX4) (T := TX4) (N := 14) ku_X4 0 rfl rfl 3 (by decide) kw_X4_27 rfl dX4_share_18 ?_
      refine ww_icmp_ge (tgt := 64) C0 dX4_share_21 (by decide) (fun h21 => ?_) (fun h21 => ?_)
      · skip
        replace h21 := (nI_leE (a := nm) (b := nm) rfl rfl (by omega) (by omega)).mp h21
        refine ww_iload_n C0 dX4_share_64 rfl ?_
        refine ww_top hZ ?_
        refine ww_bipush (v := (60)) C0 dX4_share_65 rfl ?_
        refine ww_iload_n C0 dX4_share_67 rfl ?_
        refine ww_callSi C0 (c_X4_fractionPart l D cI cZ cQ hZb (by decide) (by decide)) kd_X4_fractionPart kw_X4_185 ks_X4_fractionPart ki_X4 hd_X4_fractionPart ⟨Nat.le_of_ble_eq_true rfl, Nat.le_of_ble_eq_true rfl, rfl, rfl⟩ (Nat.le_of_ble_eq_true rfl) dX4_share_68 rfl rfl ⟨Nat.zero_le _, Nat.zero_le _⟩ ?_
        exact ww_iret C0 hr dX4_share_71 (by rfl) (by rfl)
      · skip
        replace h21 := (not_congr (nI_leE (a := nm) (b := nm) rfl rfl (by omega) (by omega))).mp h21
        exfalso; omega
  · skip
    exact absurd (isN_nI (by omega) ha) (by rw [h5]; decide)

set_option maxHeartbeats 4000000 in
set_option maxRecDepth 100000 in
theorem c_X4_see_b (l : Launch) (D : va_G) (cI cZ cQ : ClassId) {rest : va_W} {aX : Nat} {x0 x1 x2 x3 x4 : Int32} (hs : isN 10 x0 = false) : MI l D [(cI, .int), (cZ, .boolean), (cQ, .object "MulesRemember$State")] yX4_see cX4_see 6 .int ({ frames := 1, cells := 0, slots := 0, locals := 25 } : Room) [.ref aX, .int x0, .int x1, .int x2, .int x3, .int x4] (rest) (-1) (rest) := by
  refine MI.of [.ref aX, .int x0, .int x1, .int x2, .int x3, .int x4] (by decide) (Nat.le_of_ble_eq_true rfl) rfl ?_
  intro p e s m below meth c A C0 hr
  refine ww_iload_n C0 dX4_see_0 rfl ?_
  refine ww_callSi C0 (c_X4_isStone l D cI cZ cQ) kd_X4_isStone kw_X4_165 ks_X4_isStone ki_X4 hd_X4_isStone ⟨Nat.le_of_ble_eq_true rfl, Nat.le_of_ble_eq_true rfl, rfl, rfl⟩ (Nat.le_of_ble_eq_true rfl) dX4_see_1 rfl rfl ⟨Nat.zero_le _, Nat.zero_le _⟩ ?_
  refine ww_bif_ne (tgt := 9) C0 dX4_see_4 (by decide) (fun h4 => ?_) (fun h4 => ?_)
  · skip
    exact absurd h4 (by rw [hs]; decide)
  · skip
    refine ww_iconst (v := (-1)) C0 dX4_see_7 rfl ?_
    exact ww_iret C0 hr dX4_see_8 (by rfl) (by rfl)

set_option maxHeartbeats 4000000 in
set_option maxRecDepth 100000 in
theorem c_X4_see_b2 (l : Launch) (D : va_G) (cI cZ cQ : ClassId) {rest : va_W} {aX : Nat} {x0 x1 x2 x3 x4 : Int32} (hs : isN 10 x0 = true) (hb : (isN 4 x1 && isN 10 x2 && isN 2 x3 && isN 2 x4) = false) : MI l D [(cI, .int), (cZ, .boolean), (cQ, .object "MulesRemember$State")] yX4_see cX4_see 6 .int ({ frames := 1, cells := 0, slots := 0, locals := 25 } : Room) [.ref aX, .int x0, .int x1, .int x2, .int x3, .int x4] (rest) (-2) (rest) := by
  refine MI.of [.ref aX, .int x0, .int x1, .int x2, .int x3, .int x4] (by decide) (Nat.le_of_ble_eq_true rfl) rfl ?_
  intro p e s m below meth c A C0 hr
  refine ww_iload_n C0 dX4_see_0 rfl ?_
  refine ww_callSi C0 (c_X4_isStone l D cI cZ cQ) kd_X4_isStone kw_X4_165 ks_X4_isStone ki_X4 hd_X4_isStone ⟨Nat.le_of_ble_eq_true rfl, Nat.le_of_ble_eq_true rfl, rfl, rfl⟩ (Nat.le_of_ble_eq_true rfl) dX4_see_1 rfl rfl ⟨Nat.zero_le _, Nat.zero_le _⟩ ?_
  refine ww_bif_ne (tgt := 9) C0 dX4_see_4 (by decide) (fun h4 => ?_) (fun h4 => ?_)
  · skip
    refine ww_iload_n C0 dX4_see_9 rfl ?_
    refine ww_if_lt (tgt := 44) C0 dX4_see_10 (by decide) (fun h10 => ?_) (fun h10 => ?_)
    · skip
      refine ww_bipush (v := (-2)) C0 dX4_see_44 rfl ?_
      exact ww_iret C0 hr dX4_see_46 (by rfl) (by rfl)
    · skip
      refine ww_iload_n C0 dX4_see_13 rfl ?_
      refine ww_iconst (v := (4)) C0 dX4_see_14 rfl ?_
      refine ww_icmp_ge (tgt := 44) C0 dX4_see_15 (by decide) (fun h15 => ?_) (fun h15 => ?_)
      · skip
        refine ww_bipush (v := (-2)) C0 dX4_see_44 rfl ?_
        exact ww_iret C0 hr dX4_see_46 (by rfl) (by rfl)
      · skip
        refine ww_iload_n C0 dX4_see_18 rfl ?_
        refine ww_if_lt (tgt := 44) C0 dX4_see_19 (by decide) (fun h19 => ?_) (fun h19 => ?_)
        · skip
          refine ww_bipush (v := (-2)) C0 dX4_see_44 rfl ?_
          exact ww_iret C0 hr dX4_see_46 (by rfl) (by rfl)
        · skip
          refine ww_iload_n C0 dX4_see_22 rfl ?_
          refine ww_bipush (v := (10)) C0 dX4_see_23 rfl ?_
          refine ww_icmp_ge (tgt := 44) C0 dX4_see_25 (by decide) (fun h25 => ?_) (fun h25 => ?_)
          · skip
            refine ww_bipush (v := (-2)) C0 dX4_see_44 rfl ?_
            exact ww_iret C0 hr dX4_see_46 (by rfl) (by rfl)
          · skip
            refine ww_iload C0 dX4_see_28 rfl ?_
            refine ww_callSi C0 (c_X4_isFlag l D cI cZ cQ) kd_X4_isFlag kw_X4_189 ks_X4_isFlag ki_X4 hd_X4_isFlag ⟨Nat.le_of_ble_eq_true rfl, Nat.le_of_ble_eq_true rfl, rfl, rfl⟩ (Nat.le_of_ble_eq_true rfl) dX4_see_30 rfl rfl ⟨Nat.zero_le _, Nat.zero_le _⟩ ?_
            refine ww_bif_eq (tgt := 44) C0 dX4_see_33 (by decide) (fun h33 => ?_) (fun h33 => ?_)
            · skip
              refine ww_bipush (v := (-2)) C0 dX4_see_44 rfl ?_
              exact ww_iret C0 hr dX4_see_46 (by rfl) (by rfl)
            · skip
              refine ww_iload C0 dX4_see_36 rfl ?_
              refine ww_callSi C0 (c_X4_isFlag l D cI cZ cQ) kd_X4_isFlag kw_X4_189 ks_X4_isFlag ki_X4 hd_X4_isFlag ⟨Nat.le_of_ble_eq_true rfl, Nat.le_of_ble_eq_true rfl, rfl, rfl⟩ (Nat.le_of_ble_eq_true rfl) dX4_see_38 rfl rfl ⟨Nat.zero_le _, Nat.zero_le _⟩ ?_
              refine ww_bif_ne (tgt := 47) C0 dX4_see_41 (by decide) (fun h41 => ?_) (fun h41 => ?_)
              · skip
                exact absurd hb (by rw [isN_yes (n := 4) h10 h15, isN_yes (n := 10) h19 h25, h33, h41]; decide)
              · skip
                refine ww_bipush (v := (-2)) C0 dX4_see_44 rfl ?_
                exact ww_iret C0 hr dX4_see_46 (by rfl) (by rfl)
  · skip
    exact absurd hs (by rw [h4]; decide)

set_option maxHeartbeats 4000000 in
set_option maxRecDepth 100000 in
theorem c_X4_see (l : Launch) (D : va_G) (cI cZ cQ : ClassId) {aX aT aL aC aN aY aA aO aK aG aW al0 al1 al2 an0 an1 an2 ay0 ay1 ay2 at0 ag0 ag1 ag2 ag3 ag4 : Nat} {nm fa ac na tn gn : Nat} {hN bN hY bY : Int32} {sd : Int64} {fl0 fl1 fl2 fC fn0 fn1 fn2 fy0 fy1 fy2 ft0 fg0 fg1 fg2 fg3 fg4 : Nat → Int32} {rest : va_W} {x0 x1 x2 x3 x4 : Int32} (hs : isN 10 x0 = true) (h1s : isN 4 x1 = true) (h2s : isN 10 x2 = true) (h3s : isN 2 x3 = true) (h4s : isN 2 x4 = true) (hg : gn < 6) : MI l D [(cI, .int), (cZ, .boolean), (cQ, .object "MulesRemember$State")] yX4_see cX4_see 6 .int ({ frames := 1, cells := 0, slots := 0, locals := 25 } : Room) [.ref aX, .int x0, .int x1, .int x2, .int x3, .int x4] ((aX, .inr (4, [.ref aT, .ref aL, .ref aC, .int (nI nm), .ref aN, .ref aY, .ref aA, .int (nI fa), .int (nI ac), .ref aO, .ref aK, .ref aG, .ref aW, .long sd])) :: (aL, .inr (0, [.ref al0, .ref al1, .ref al2, .int (nI na)])) :: (al0, .inl (cI, 5, .inl (fl0))) :: (al1, .inl (cI, 5, .inl (fl1))) :: (al2, .inl (cI, 5, .inl (fl2))) :: (aC, .inl (cI, 5, .inl (fC))) :: (aN, .inr (2, [.ref an0, .ref an1, .ref an2, .int hN, .int bN])) :: (an0, .inl (cI, 5, .inl (fn0))) :: (an1, .inl (cI, 5, .inl (fn1))) :: (an2, .inl (cI, 5, .inl (fn2))) :: (aY, .inr (2, [.ref ay0, .ref ay1, .ref ay2, .int hY, .int bY])) :: (ay0, .inl (cI, 5, .inl (fy0))) :: (ay1, .inl (cI, 5, .inl (fy1))) :: (ay2, .inl (cI, 5, .inl (fy2))) :: (aT, .inr (3, [.ref at0, .int (nI tn)])) :: (at0, .inl (cI, 48, .inl (ft0))) :: (aG, .inr (1, [.ref ag0, .ref ag1, .ref ag2, .ref ag3, .ref ag4, .int (nI gn)])) :: (ag0, .inl (cI, 6, .inl (fg0))) :: (ag1, .inl (cI, 6, .inl (fg1))) :: (ag2, .inl (cI, 6, .inl (fg2))) :: (ag3, .inl (cI, 6, .inl (fg3))) :: (ag4, .inl (cI, 6, .inl (fg4))) :: rest) (nI (gn + 1)) ((aX, .inr (4, [.ref aT, .ref aL, .ref aC, .int (nI nm), .ref aN, .ref aY, .ref aA, .int (nI fa), .int (nI ac), .ref aO, .ref aK, .ref aG, .ref aW, .long sd])) :: (aL, .inr (0, [.ref al0, .ref al1, .ref al2, .int (nI na)])) :: (al0, .inl (cI, 5, .inl (fl0))) :: (al1, .inl (cI, 5, .inl (fl1))) :: (al2, .inl (cI, 5, .inl (fl2))) :: (aC, .inl (cI, 5, .inl (fC))) :: (aN, .inr (2, [.ref an0, .ref an1, .ref an2, .int hN, .int bN])) :: (an0, .inl (cI, 5, .inl (fn0))) :: (an1, .inl (cI, 5, .inl (fn1))) :: (an2, .inl (cI, 5, .inl (fn2))) :: (aY, .inr (2, [.ref ay0, .ref ay1, .ref ay2, .int hY, .int bY])) :: (ay0, .inl (cI, 5, .inl (fy0))) :: (ay1, .inl (cI, 5, .inl (fy1))) :: (ay2, .inl (cI, 5, .inl (fy2))) :: (aT, .inr (3, [.ref at0, .int (nI tn)])) :: (at0, .inl (cI, 48, .inl (ft0))) :: (aG, .inr (1, [.ref ag0, .ref ag1, .ref ag2, .ref ag3, .ref ag4, .int (nI (gn + 1))])) :: (ag0, .inl (cI, 6, .inl (upd fg0 gn x0))) :: (ag1, .inl (cI, 6, .inl (upd fg1 gn x1))) :: (ag2, .inl (cI, 6, .inl (upd fg2 gn x2))) :: (ag3, .inl (cI, 6, .inl (upd fg3 gn x3))) :: (ag4, .inl (cI, 6, .inl (upd fg4 gn x4))) :: rest) := by
  refine MI.of [.ref aX, .int x0, .int x1, .int x2, .int x3, .int x4] (by decide) (Nat.le_of_ble_eq_true rfl) rfl ?_
  intro p e s m below meth c A C0 hr
  refine ww_iload_n C0 dX4_see_0 rfl ?_
  refine ww_callSi C0 (c_X4_isStone l D cI cZ cQ) kd_X4_isStone kw_X4_165 ks_X4_isStone ki_X4 hd_X4_isStone ⟨Nat.le_of_ble_eq_true rfl, Nat.le_of_ble_eq_true rfl, rfl, rfl⟩ (Nat.le_of_ble_eq_true rfl) dX4_see_1 rfl rfl ⟨Nat.zero_le _, Nat.zero_le _⟩ ?_
  refine ww_bif_ne (tgt := 9) C0 dX4_see_4 (by decide) (fun h4 => ?_) (fun h4 => ?_)
  · skip
    refine ww_iload_n C0 dX4_see_9 rfl ?_
    refine ww_if_lt (tgt := 44) C0 dX4_see_10 (by decide) (fun h10 => ?_) (fun h10 => ?_)
    · skip
      exact absurd h1s (by rw [isN_lt0 h10]; decide)
    · skip
      refine ww_iload_n C0 dX4_see_13 rfl ?_
      refine ww_iconst (v := (4)) C0 dX4_see_14 rfl ?_
      refine ww_icmp_ge (tgt := 44) C0 dX4_see_15 (by decide) (fun h15 => ?_) (fun h15 => ?_)
      · skip
        exact absurd h1s (by rw [isN_ge (n := 4) h15]; decide)
      · skip
        refine ww_iload_n C0 dX4_see_18 rfl ?_
        refine ww_if_lt (tgt := 44) C0 dX4_see_19 (by decide) (fun h19 => ?_) (fun h19 => ?_)
        · skip
          exact absurd h2s (by rw [isN_lt0 h19]; decide)
        · skip
          refine ww_iload_n C0 dX4_see_22 rfl ?_
          refine ww_bipush (v := (10)) C0 dX4_see_23 rfl ?_
          refine ww_icmp_ge (tgt := 44) C0 dX4_see_25 (by decide) (fun h25 => ?_) (fun h25 => ?_)
          · skip
            exact absurd h2s (by rw [isN_ge (n := 10) h25]; decide)
          · skip
            refine ww_iload C0 dX4_see_28 rfl ?_
            refine ww_callSi C0 (c_X4_isFlag l D cI cZ cQ) kd_X4_isFlag kw_X4_189 ks_X4_isFlag ki_X4 hd_X4_isFlag ⟨Nat.le_of_ble_eq_true rfl, Nat.le_of_ble_eq_true rfl, rfl, rfl⟩ (Nat.le_of_ble_eq_true rfl) dX4_see_30 rfl rfl ⟨Nat.zero_le _, Nat.zero_le _⟩ ?_
            refine ww_bif_eq (tgt := 44) C0 dX4_see_33 (by decide) (fun h33 => ?_) (fun h33 => ?_)
            · skip
              exact absurd h3s (by rw [h33]; decide)
            · skip
              refine ww_iload C0 dX4_see_36 rfl ?_
              refine ww_callSi C0 (c_X4_isFlag l D cI cZ cQ) kd_X4_isFlag kw_X4_189 ks_X4_isFlag ki_X4 hd_X4_isFlag ⟨Nat.le_of_ble_eq_true rfl, Nat.le_of_ble_eq_true rfl, rfl, rfl⟩ (Nat.le_of_ble_eq_true rfl) dX4_see_38 rfl rfl ⟨Nat.zero_le _, Nat.zero_le _⟩ ?_
              refine ww_bif_ne (tgt := 47) C0 dX4_see_41 (by decide) (fun h41 => ?_) (fun h41 => ?_)
              · skip
                refine ww_aload_n C0 dX4_see_47 rfl ?_
                refine ww_get C0 (ci := 4) (C := RX4) (T := TX4) (N := 14) ku_X4 0 rfl rfl 11 (by decide) kw_X4_61 rfl dX4_see_48 ?_
                refine ww_iload_n C0 dX4_see_51 rfl ?_
                refine ww_iload_n C0 dX4_see_52 rfl ?_
                refine ww_iload_n C0 dX4_see_53 rfl ?_
                refine ww_iload C0 dX4_see_54 rfl ?_
                refine ww_iload C0 dX4_see_56 rfl ?_
                refine ww_perm (perm_mv 0 16 6 _) ?_
                simp only [List.drop_succ_cons, List.drop_zero, List.take_succ_cons, List.take_zero, List.cons_append, List.nil_append, Nat.reduceAdd]
                refine ww_callVNi C0 (qc := (RX1, TX1, 6)) 0 1 (c_X1_add l D cI cZ cQ hg) kd_X1_add kn_X4_192 km_X1_add kl_X1_add ki_X1 hd_X1_add rfl rfl ⟨Nat.le_of_ble_eq_true rfl, Nat.le_of_ble_eq_true rfl, rfl, rfl⟩ (Nat.le_of_ble_eq_true rfl) dX4_see_58 rfl rfl rfl ⟨Nat.zero_le _, Nat.zero_le _⟩ ?_
                refine ww_perm (perm_mv 0 6 16 _) ?_
                simp only [List.drop_succ_cons, List.drop_zero, List.take_succ_cons, List.take_zero, List.cons_append, List.nil_append, Nat.reduceAdd]
                refine ww_bif_eq (tgt := 74) C0 dX4_see_61 (by decide) (fun h61 => ?_) (fun h61 => ?_)
                · skip
                  cases h61
                · skip
                  refine ww_aload_n C0 dX4_see_64 rfl ?_
                  refine ww_get C0 (ci := 4) (C := RX4) (T := TX4) (N := 14) ku_X4 0 rfl rfl 11 (by decide) kw_X4_61 rfl dX4_see_65 ?_
                  refine ww_getN C0 (ci := 1) (C := RX1) (T := TX1) (N := 6) ku_X1 16 rfl rfl 5 (by decide) kn_X4_96 rfl dX4_see_68 ?_
                  refine ww_goto (tgt := 76) C0 dX4_see_71 (by decide) ?_
                  exact ww_iret C0 hr dX4_see_76 (by rfl) (by rfl)
              · skip
                exact absurd h4s (by rw [h41]; decide)
  · skip
    exact absurd hs (by rw [h4]; decide)

set_option maxHeartbeats 4000000 in
set_option maxRecDepth 100000 in
theorem c_X4_see_f (l : Launch) (D : va_G) (cI cZ cQ : ClassId) {aX aT aL aC aN aY aA aO aK aG aW al0 al1 al2 an0 an1 an2 ay0 ay1 ay2 at0 ag0 ag1 ag2 ag3 ag4 : Nat} {nm fa ac na tn gn : Nat} {hN bN hY bY : Int32} {sd : Int64} {fl0 fl1 fl2 fC fn0 fn1 fn2 fy0 fy1 fy2 ft0 fg0 fg1 fg2 fg3 fg4 : Nat → Int32} {rest : va_W} {x0 x1 x2 x3 x4 : Int32} (hs : isN 10 x0 = true) (h1s : isN 4 x1 = true) (h2s : isN 10 x2 = true) (h3s : isN 2 x3 = true) (h4s : isN 2 x4 = true) (hg : gn = 6) : MI l D [(cI, .int), (cZ, .boolean), (cQ, .object "MulesRemember$State")] yX4_see cX4_see 6 .int ({ frames := 1, cells := 0, slots := 0, locals := 25 } : Room) [.ref aX, .int x0, .int x1, .int x2, .int x3, .int x4] ((aX, .inr (4, [.ref aT, .ref aL, .ref aC, .int (nI nm), .ref aN, .ref aY, .ref aA, .int (nI fa), .int (nI ac), .ref aO, .ref aK, .ref aG, .ref aW, .long sd])) :: (aL, .inr (0, [.ref al0, .ref al1, .ref al2, .int (nI na)])) :: (al0, .inl (cI, 5, .inl (fl0))) :: (al1, .inl (cI, 5, .inl (fl1))) :: (al2, .inl (cI, 5, .inl (fl2))) :: (aC, .inl (cI, 5, .inl (fC))) :: (aN, .inr (2, [.ref an0, .ref an1, .ref an2, .int hN, .int bN])) :: (an0, .inl (cI, 5, .inl (fn0))) :: (an1, .inl (cI, 5, .inl (fn1))) :: (an2, .inl (cI, 5, .inl (fn2))) :: (aY, .inr (2, [.ref ay0, .ref ay1, .ref ay2, .int hY, .int bY])) :: (ay0, .inl (cI, 5, .inl (fy0))) :: (ay1, .inl (cI, 5, .inl (fy1))) :: (ay2, .inl (cI, 5, .inl (fy2))) :: (aT, .inr (3, [.ref at0, .int (nI tn)])) :: (at0, .inl (cI, 48, .inl (ft0))) :: (aG, .inr (1, [.ref ag0, .ref ag1, .ref ag2, .ref ag3, .ref ag4, .int (nI gn)])) :: (ag0, .inl (cI, 6, .inl (fg0))) :: (ag1, .inl (cI, 6, .inl (fg1))) :: (ag2, .inl (cI, 6, .inl (fg2))) :: (ag3, .inl (cI, 6, .inl (fg3))) :: (ag4, .inl (cI, 6, .inl (fg4))) :: rest) (-4) ((aX, .inr (4, [.ref aT, .ref aL, .ref aC, .int (nI nm), .ref aN, .ref aY, .ref aA, .int (nI fa), .int (nI ac), .ref aO, .ref aK, .ref aG, .ref aW, .long sd])) :: (aL, .inr (0, [.ref al0, .ref al1, .ref al2, .int (nI na)])) :: (al0, .inl (cI, 5, .inl (fl0))) :: (al1, .inl (cI, 5, .inl (fl1))) :: (al2, .inl (cI, 5, .inl (fl2))) :: (aC, .inl (cI, 5, .inl (fC))) :: (aN, .inr (2, [.ref an0, .ref an1, .ref an2, .int hN, .int bN])) :: (an0, .inl (cI, 5, .inl (fn0))) :: (an1, .inl (cI, 5, .inl (fn1))) :: (an2, .inl (cI, 5, .inl (fn2))) :: (aY, .inr (2, [.ref ay0, .ref ay1, .ref ay2, .int hY, .int bY])) :: (ay0, .inl (cI, 5, .inl (fy0))) :: (ay1, .inl (cI, 5, .inl (fy1))) :: (ay2, .inl (cI, 5, .inl (fy2))) :: (aT, .inr (3, [.ref at0, .int (nI tn)])) :: (at0, .inl (cI, 48, .inl (ft0))) :: (aG, .inr (1, [.ref ag0, .ref ag1, .ref ag2, .ref ag3, .ref ag4, .int (nI gn)])) :: (ag0, .inl (cI, 6, .inl (fg0))) :: (ag1, .inl (cI, 6, .inl (fg1))) :: (ag2, .inl (cI, 6, .inl (fg2))) :: (ag3, .inl (cI, 6, .inl (fg3))) :: (ag4, .inl (cI, 6, .inl (fg4))) :: rest) := by
  refine MI.of [.ref aX, .int x0, .int x1, .int x2, .int x3, .int x4] (by decide) (Nat.le_of_ble_eq_true rfl) rfl ?_
  intro p e s m below meth c A C0 hr
  refine ww_iload_n C0 dX4_see_0 rfl ?_
  refine ww_callSi C0 (c_X4_isStone l D cI cZ cQ) kd_X4_isStone kw_X4_165 ks_X4_isStone ki_X4 hd_X4_isStone ⟨Nat.le_of_ble_eq_true rfl, Nat.le_of_ble_eq_true rfl, rfl, rfl⟩ (Nat.le_of_ble_eq_true rfl) dX4_see_1 rfl rfl ⟨Nat.zero_le _, Nat.zero_le _⟩ ?_
  refine ww_bif_ne (tgt := 9) C0 dX4_see_4 (by decide) (fun h4 => ?_) (fun h4 => ?_)
  · skip
    refine ww_iload_n C0 dX4_see_9 rfl ?_
    refine ww_if_lt (tgt := 44) C0 dX4_see_10 (by decide) (fun h10 => ?_) (fun h10 => ?_)
    · skip
      exact absurd h1s (by rw [isN_lt0 h10]; decide)
    · skip
      refine ww_iload_n C0 dX4_see_13 rfl ?_
      refine ww_iconst (v := (4)) C0 dX4_see_14 rfl ?_
      refine ww_icmp_ge (tgt := 44) C0 dX4_see_15 (by decide) (fun h15 => ?_) (fun h15 => ?_)
      · skip
        exact absurd h1s (by rw [isN_ge (n := 4) h15]; decide)
      · skip
        refine ww_iload_n C0 dX4_see_18 rfl ?_
        refine ww_if_lt (tgt := 44) C0 dX4_see_19 (by decide) (fun h19 => ?_) (fun h19 => ?_)
        · skip
          exact absurd h2s (by rw [isN_lt0 h19]; decide)
        · skip
          refine ww_iload_n C0 dX4_see_22 rfl ?_
          refine ww_bipush (v := (10)) C0 dX4_see_23 rfl ?_
          refine ww_icmp_ge (tgt := 44) C0 dX4_see_25 (by decide) (fun h25 => ?_) (fun h25 => ?_)
          · skip
            exact absurd h2s (by rw [isN_ge (n := 10) h25]; decide)
          · skip
            refine ww_iload C0 dX4_see_28 rfl ?_
            refine ww_callSi C0 (c_X4_isFlag l D cI cZ cQ) kd_X4_isFlag kw_X4_189 ks_X4_isFlag ki_X4 hd_X4_isFlag ⟨Nat.le_of_ble_eq_true rfl, Nat.le_of_ble_eq_true rfl, rfl, rfl⟩ (Nat.le_of_ble_eq_true rfl) dX4_see_30 rfl rfl ⟨Nat.zero_le _, Nat.zero_le _⟩ ?_
            refine ww_bif_eq (tgt := 44) C0 dX4_see_33 (by decide) (fun h33 => ?_) (fun h33 => ?_)
            · skip
              exact absurd h3s (by rw [h33]; decide)
            · skip
              refine ww_iload C0 dX4_see_36 rfl ?_
              refine ww_callSi C0 (c_X4_isFlag l D cI cZ cQ) kd_X4_isFlag kw_X4_189 ks_X4_isFlag ki_X4 hd_X4_isFlag ⟨Nat.le_of_ble_eq_true rfl, Nat.le_of_ble_eq_true rfl, rfl, rfl⟩ (Nat.le_of_ble_eq_true rfl) dX4_see_38 rfl rfl ⟨Nat.zero_le _, Nat.zero_le _⟩ ?_
              refine ww_bif_ne (tgt := 47) C0 dX4_see_41 (by decide) (fun h41 => ?_) (fun h41 => ?_)
              · skip
                refine ww_aload_n C0 dX4_see_47 rfl ?_
                refine ww_get C0 (ci := 4) (C := RX4) (T := TX4) (N := 14) ku_X4 0 rfl rfl 11 (by decide) kw_X4_61 rfl dX4_see_48 ?_
                refine ww_iload_n C0 dX4_see_51 rfl ?_
                refine ww_iload_n C0 dX4_see_52 rfl ?_
                refine ww_iload_n C0 dX4_see_53 rfl ?_
                refine ww_iload C0 dX4_see_54 rfl ?_
                refine ww_iload C0 dX4_see_56 rfl ?_
                refine ww_perm (perm_mv 0 16 6 _) ?_
                simp only [List.drop_succ_cons, List.drop_zero, List.take_succ_cons, List.take_zero, List.cons_append, List.nil_append, Nat.reduceAdd]
                refine ww_callVNi C0 (qc := (RX1, TX1, 6)) 0 1 (c_X1_add_f l D cI cZ cQ hg) kd_X1_add kn_X4_192 km_X1_add kl_X1_add ki_X1 hd_X1_add rfl rfl ⟨Nat.le_of_ble_eq_true rfl, Nat.le_of_ble_eq_true rfl, rfl, rfl⟩ (Nat.le_of_ble_eq_true rfl) dX4_see_58 rfl rfl rfl ⟨Nat.zero_le _, Nat.zero_le _⟩ ?_
                refine ww_perm (perm_mv 0 6 16 _) ?_
                simp only [List.drop_succ_cons, List.drop_zero, List.take_succ_cons, List.take_zero, List.cons_append, List.nil_append, Nat.reduceAdd]
                refine ww_bif_eq (tgt := 74) C0 dX4_see_61 (by decide) (fun h61 => ?_) (fun h61 => ?_)
                · skip
                  refine ww_bipush (v := (-4)) C0 dX4_see_74 rfl ?_
                  exact ww_iret C0 hr dX4_see_76 (by rfl) (by rfl)
                · skip
                  cases h61
              · skip
                exact absurd h4s (by rw [h41]; decide)
  · skip
    exact absurd hs (by rw [h4]; decide)

set_option maxHeartbeats 4000000 in
set_option maxRecDepth 100000 in
theorem c_X4_unsee (l : Launch) (D : va_G) (cI cZ cQ : ClassId) {aX aT aL aC aN aY aA aO aK aG aW al0 al1 al2 an0 an1 an2 ay0 ay1 ay2 at0 ag0 ag1 ag2 ag3 ag4 : Nat} {nm fa ac na tn gn : Nat} {hN bN hY bY : Int32} {sd : Int64} {fl0 fl1 fl2 fC fn0 fn1 fn2 fy0 fy1 fy2 ft0 fg0 fg1 fg2 fg3 fg4 : Nat → Int32} {rest : va_W} : MI l D [(cI, .int), (cZ, .boolean), (cQ, .object "MulesRemember$State")] yX4_unsee cX4_unsee 2 .int ({ frames := 0, cells := 0, slots := 0, locals := 0 } : Room) [.ref aX] ((aX, .inr (4, [.ref aT, .ref aL, .ref aC, .int (nI nm), .ref aN, .ref aY, .ref aA, .int (nI fa), .int (nI ac), .ref aO, .ref aK, .ref aG, .ref aW, .long sd])) :: (aL, .inr (0, [.ref al0, .ref al1, .ref al2, .int (nI na)])) :: (al0, .inl (cI, 5, .inl (fl0))) :: (al1, .inl (cI, 5, .inl (fl1))) :: (al2, .inl (cI, 5, .inl (fl2))) :: (aC, .inl (cI, 5, .inl (fC))) :: (aN, .inr (2, [.ref an0, .ref an1, .ref an2, .int hN, .int bN])) :: (an0, .inl (cI, 5, .inl (fn0))) :: (an1, .inl (cI, 5, .inl (fn1))) :: (an2, .inl (cI, 5, .inl (fn2))) :: (aY, .inr (2, [.ref ay0, .ref ay1, .ref ay2, .int hY, .int bY])) :: (ay0, .inl (cI, 5, .inl (fy0))) :: (ay1, .inl (cI, 5, .inl (fy1))) :: (ay2, .inl (cI, 5, .inl (fy2))) :: (aT, .inr (3, [.ref at0, .int (nI tn)])) :: (at0, .inl (cI, 48, .inl (ft0))) :: (aG, .inr (1, [.ref ag0, .ref ag1, .ref ag2, .ref ag3, .ref ag4, .int (nI gn)])) :: (ag0, .inl (cI, 6, .inl (fg0))) :: (ag1, .inl (cI, 6, .inl (fg1))) :: (ag2, .inl (cI, 6, .inl (fg2))) :: (ag3, .inl (cI, 6, .inl (fg3))) :: (ag4, .inl (cI, 6, .inl (fg4))) :: rest) (nI gn) ((aX, .inr (4, [.ref aT, .ref aL, .ref aC, .int (nI nm), .ref aN, .ref aY, .ref aA, .int (nI fa), .int (nI ac), .ref aO, .ref aK, .ref aG, .ref aW, .long sd])) :: (aL, .inr (0, [.ref al0, .ref al1, .ref al2, .int (nI na)])) :: (al0, .inl (cI, 5, .inl (fl0))) :: (al1, .inl (cI, 5, .inl (fl1))) :: (al2, .inl (cI, 5, .inl (fl2))) :: (aC, .inl (cI, 5, .inl (fC))) :: (aN, .inr (2, [.ref an0, .ref an1, .ref an2, .int hN, .int bN])) :: (an0, .inl (cI, 5, .inl (fn0))) :: (an1, .inl (cI, 5, .inl (fn1))) :: (an2, .inl (cI, 5, .inl (fn2))) :: (aY, .inr (2, [.ref ay0, .ref ay1, .ref ay2, .int hY, .int bY])) :: (ay0, .inl (cI, 5, .inl (fy0))) :: (ay1, .inl (cI, 5, .inl (fy1))) :: (ay2, .inl (cI, 5, .inl (fy2))) :: (aT, .inr (3, [.ref at0, .int (nI tn)])) :: (at0, .inl (cI, 48, .inl (ft0))) :: (aG, .inr (1, [.ref ag0, .ref ag1, .ref ag2, .ref ag3, .ref ag4, .int (nI 0)])) :: (ag0, .inl (cI, 6, .inl (fg0))) :: (ag1, .inl (cI, 6, .inl (fg1))) :: (ag2, .inl (cI, 6, .inl (fg2))) :: (ag3, .inl (cI, 6, .inl (fg3))) :: (ag4, .inl (cI, 6, .inl (fg4))) :: rest) := by
  refine MI.of [.ref aX, .null] (by decide) (Nat.le_of_ble_eq_true rfl) rfl ?_
  intro p e s m below meth c A C0 hr
  refine ww_aload_n C0 dX4_unsee_0 rfl ?_
  refine ww_get C0 (ci := 4) (C := RX4) (T := TX4) (N := 14) ku_X4 0 rfl rfl 11 (by decide) kw_X4_61 rfl dX4_unsee_1 ?_
  refine ww_getN C0 (ci := 1) (C := RX1) (T := TX1) (N := 6) ku_X1 16 rfl rfl 5 (by decide) kn_X4_96 rfl dX4_unsee_4 ?_
  refine ww_istore_n (i := 1) C0 dX4_unsee_7 rfl (Nat.le_of_ble_eq_true rfl) rfl ?_
  simp only [List.set_cons_zero, List.set_cons_succ]
  refine ww_aload_n C0 dX4_unsee_8 rfl ?_
  refine ww_get C0 (ci := 4) (C := RX4) (T := TX4) (N := 14) ku_X4 0 rfl rfl 11 (by decide) kw_X4_61 rfl dX4_unsee_9 ?_
  refine ww_iconst (v := (0)) C0 dX4_unsee_12 rfl ?_
  refine ww_putN C0 (ci := 1) (C := RX1) (T := TX1) (N := 6) ku_X1 16 rfl rfl 5 (by decide) tyX1 tyX1_ok nmX1 kn_X4_96 rfl (ty := .int) (by decide +kernel) rfl rfl (Nat.le_of_ble_eq_true rfl) dX4_unsee_13 ?_
  simp only [List.set_cons_zero, List.set_cons_succ]
  refine ww_iload_n C0 dX4_unsee_16 rfl ?_
  exact ww_iret C0 hr dX4_unsee_17 (by rfl) (by rfl)

set_option maxHeartbeats 4000000 in
set_option maxRecDepth 100000 in
theorem c_X4_may_b (l : Launch) (D : va_G) (cI cZ cQ : ClassId) {rest : va_W} {aX : Nat} {s0 x : Int32} (hs : isN 10 s0 = false) : MI l D [(cI, .int), (cZ, .boolean), (cQ, .object "MulesRemember$State")] yX4_may cX4_may 7 .int ({ frames := 2, cells := 0, slots := 0, locals := 49 } : Room) [.ref aX, .int s0, .int x] (rest) (-1) (rest) := by
  refine MI.of [.ref aX, .int s0, .int x, .null, .null, .null, .null] (by decide) (Nat.le_of_ble_eq_true rfl) rfl ?_
  intro p e s m below meth c A C0 hr
  refine ww_iload_n C0 dX4_may_0 rfl ?_
  refine ww_callSi C0 (c_X4_isStone l D cI cZ cQ) kd_X4_isStone kw_X4_165 ks_X4_isStone ki_X4 hd_X4_isStone ⟨Nat.le_of_ble_eq_true rfl, Nat.le_of_ble_eq_true rfl, rfl, rfl⟩ (Nat.le_of_ble_eq_true rfl) dX4_may_1 rfl rfl ⟨Nat.zero_le _, Nat.zero_le _⟩ ?_
  refine ww_bif_ne (tgt := 9) C0 dX4_may_4 (by decide) (fun h4 => ?_) (fun h4 => ?_)
  · skip
    exact absurd h4 (by rw [hs]; decide)
  · skip
    refine ww_iconst (v := (-1)) C0 dX4_may_7 rfl ?_
    exact ww_iret C0 hr dX4_may_8 (by rfl) (by rfl)

set_option maxHeartbeats 4000000 in
set_option maxRecDepth 100000 in
theorem c_X4_may_b2 (l : Launch) (D : va_G) (cI cZ cQ : ClassId) {rest : va_W} {aX : Nat} {s0 x : Int32} (hs : isN 10 s0 = true) (hx : isN 2 x = false) : MI l D [(cI, .int), (cZ, .boolean), (cQ, .object "MulesRemember$State")] yX4_may cX4_may 7 .int ({ frames := 2, cells := 0, slots := 0, locals := 49 } : Room) [.ref aX, .int s0, .int x] (rest) (-2) (rest) := by
  refine MI.of [.ref aX, .int s0, .int x, .null, .null, .null, .null] (by decide) (Nat.le_of_ble_eq_true rfl) rfl ?_
  intro p e s m below meth c A C0 hr
  refine ww_iload_n C0 dX4_may_0 rfl ?_
  refine ww_callSi C0 (c_X4_isStone l D cI cZ cQ) kd_X4_isStone kw_X4_165 ks_X4_isStone ki_X4 hd_X4_isStone ⟨Nat.le_of_ble_eq_true rfl, Nat.le_of_ble_eq_true rfl, rfl, rfl⟩ (Nat.le_of_ble_eq_true rfl) dX4_may_1 rfl rfl ⟨Nat.zero_le _, Nat.zero_le _⟩ ?_
  refine ww_bif_ne (tgt := 9) C0 dX4_may_4 (by decide) (fun h4 => ?_) (fun h4 => ?_)
  · skip
    refine ww_iload_n C0 dX4_may_9 rfl ?_
    refine ww_callSi C0 (c_X4_isFlag l D cI cZ cQ) kd_X4_isFlag kw_X4_189 ks_X4_isFlag ki_X4 hd_X4_isFlag ⟨Nat.le_of_ble_eq_true rfl, Nat.le_of_ble_eq_true rfl, rfl, rfl⟩ (Nat.le_of_ble_eq_true rfl) dX4_may_10 rfl rfl ⟨Nat.zero_le _, Nat.zero_le _⟩ ?_
    refine ww_bif_ne (tgt := 19) C0 dX4_may_13 (by decide) (fun h13 => ?_) (fun h13 => ?_)
    · skip
      exact absurd h13 (by rw [hx]; decide)
    · skip
      refine ww_bipush (v := (-2)) C0 dX4_may_16 rfl ?_
      exact ww_iret C0 hr dX4_may_18 (by rfl) (by rfl)
  · skip
    exact absurd hs (by rw [h4]; decide)

set_option maxHeartbeats 4000000 in
set_option maxRecDepth 100000 in
theorem c_X4_may (l : Launch) (D : va_G) (cI cZ cQ : ClassId) {aX aT aL aC aN aY aA aO aK aG aW al0 al1 al2 an0 an1 an2 ay0 ay1 ay2 at0 ag0 ag1 ag2 ag3 ag4 : Nat} {nm fa ac na tn gn : Nat} {hN bN hY bY : Int32} {sd : Int64} {fl0 fl1 fl2 fC fn0 fn1 fn2 fy0 fy1 fy2 ft0 fg0 fg1 fg2 fg3 fg4 : Nat → Int32} {rest : va_W} {s0 x : Int32} (hs : isN 10 s0 = true) (hx : isN 2 x = true) (hg : gn ≤ 6) : MI l D [(cI, .int), (cZ, .boolean), (cQ, .object "MulesRemember$State")] yX4_may cX4_may 7 .int ({ frames := 2, cells := 0, slots := 0, locals := 49 } : Room) [.ref aX, .int s0, .int x] ((aX, .inr (4, [.ref aT, .ref aL, .ref aC, .int (nI nm), .ref aN, .ref aY, .ref aA, .int (nI fa), .int (nI ac), .ref aO, .ref aK, .ref aG, .ref aW, .long sd])) :: (aL, .inr (0, [.ref al0, .ref al1, .ref al2, .int (nI na)])) :: (al0, .inl (cI, 5, .inl (fl0))) :: (al1, .inl (cI, 5, .inl (fl1))) :: (al2, .inl (cI, 5, .inl (fl2))) :: (aC, .inl (cI, 5, .inl (fC))) :: (aN, .inr (2, [.ref an0, .ref an1, .ref an2, .int hN, .int bN])) :: (an0, .inl (cI, 5, .inl (fn0))) :: (an1, .inl (cI, 5, .inl (fn1))) :: (an2, .inl (cI, 5, .inl (fn2))) :: (aY, .inr (2, [.ref ay0, .ref ay1, .ref ay2, .int hY, .int bY])) :: (ay0, .inl (cI, 5, .inl (fy0))) :: (ay1, .inl (cI, 5, .inl (fy1))) :: (ay2, .inl (cI, 5, .inl (fy2))) :: (aT, .inr (3, [.ref at0, .int (nI tn)])) :: (at0, .inl (cI, 48, .inl (ft0))) :: (aG, .inr (1, [.ref ag0, .ref ag1, .ref ag2, .ref ag3, .ref ag4, .int (nI gn)])) :: (ag0, .inl (cI, 6, .inl (fg0))) :: (ag1, .inl (cI, 6, .inl (fg1))) :: (ag2, .inl (cI, 6, .inl (fg2))) :: (ag3, .inl (cI, 6, .inl (fg3))) :: (ag4, .inl (cI, 6, .inl (fg4))) :: rest) (if x = 0 then (sMany (fun t => allB (sAg fg0 fg1 fg2 fg3 fg4 s0 (nI (t / 10)) (nI (t % 10))) gn) (fun t => 10 * nI (t / 10) + nI (t % 10)) (30)).1 else (sMany (fun t => allB (sAg fg0 fg1 fg2 fg3 fg4 s0 (nI (t / 10)) (nI (t % 10))) gn) (fun t => 10 * nI (t / 10) + nI (t % 10)) (30)).2) ((aX, .inr (4, [.ref aT, .ref aL, .ref aC, .int (nI nm), .ref aN, .ref aY, .ref aA, .int (nI fa), .int (nI ac), .ref aO, .ref aK, .ref aG, .ref aW, .long sd])) :: (aL, .inr (0, [.ref al0, .ref al1, .ref al2, .int (nI na)])) :: (al0, .inl (cI, 5, .inl (fl0))) :: (al1, .inl (cI, 5, .inl (fl1))) :: (al2, .inl (cI, 5, .inl (fl2))) :: (aC, .inl (cI, 5, .inl (fC))) :: (aN, .inr (2, [.ref an0, .ref an1, .ref an2, .int hN, .int bN])) :: (an0, .inl (cI, 5, .inl (fn0))) :: (an1, .inl (cI, 5, .inl (fn1))) :: (an2, .inl (cI, 5, .inl (fn2))) :: (aY, .inr (2, [.ref ay0, .ref ay1, .ref ay2, .int hY, .int bY])) :: (ay0, .inl (cI, 5, .inl (fy0))) :: (ay1, .inl (cI, 5, .inl (fy1))) :: (ay2, .inl (cI, 5, .inl (fy2))) :: (aT, .inr (3, [.ref at0, .int (nI tn)])) :: (at0, .inl (cI, 48, .inl (ft0))) :: (aG, .inr (1, [.ref ag0, .ref ag1, .ref ag2, .ref ag3, .ref ag4, .int (nI gn)])) :: (ag0, .inl (cI, 6, .inl (fg0))) :: (ag1, .inl (cI, 6, .inl (fg1))) :: (ag2, .inl (cI, 6, .inl (fg2))) :: (ag3, .inl (cI, 6, .inl (fg3))) :: (ag4, .inl (cI, 6, .inl (fg4))) :: rest) := by
  refine MI.of [.ref aX, .int s0, .int x, .null, .null, .null, .null] (by decide) (Nat.le_of_ble_eq_true rfl) rfl ?_
  intro p e s m below meth c A C0 hr
  refine ww_iload_n C0 dX4_may_0 rfl ?_
  refine ww_callSi C0 (c_X4_isStone l D cI cZ cQ) kd_X4_isStone kw_X4_165 ks_X4_isStone ki_X4 hd_X4_isStone ⟨Nat.le_of_ble_eq_true rfl, Nat.le_of_ble_eq_true rfl, rfl, rfl⟩ (Nat.le_of_ble_eq_true rfl) dX4_may_1 rfl rfl ⟨Nat.zero_le _, Nat.zero_le _⟩ ?_
  refine ww_bif_ne (tgt := 9) C0 dX4_may_4 (by decide) (fun h4 => ?_) (fun h4 => ?_)
  · skip
    refine ww_iload_n C0 dX4_may_9 rfl ?_
    refine ww_callSi C0 (c_X4_isFlag l D cI cZ cQ) kd_X4_isFlag kw_X4_189 ks_X4_isFlag ki_X4 hd_X4_isFlag ⟨Nat.le_of_ble_eq_true rfl, Nat.le_of_ble_eq_true rfl, rfl, rfl⟩ (Nat.le_of_ble_eq_true rfl) dX4_may_10 rfl rfl ⟨Nat.zero_le _, Nat.zero_le _⟩ ?_
    refine ww_bif_ne (tgt := 19) C0 dX4_may_13 (by decide) (fun h13 => ?_) (fun h13 => ?_)
    · skip
      refine ww_iconst (v := (0)) C0 dX4_may_19 rfl ?_
      refine ww_istore_n (i := 3) C0 dX4_may_20 rfl (Nat.le_of_ble_eq_true rfl) rfl ?_
      simp only [List.set_cons_zero, List.set_cons_succ]
      refine ww_bipush (v := (-9)) C0 dX4_may_21 rfl ?_
      refine ww_istore (i := 4) C0 dX4_may_23 (Nat.le_of_ble_eq_true rfl) rfl ?_
      simp only [List.set_cons_zero, List.set_cons_succ]
      refine ww_iconst (v := (0)) C0 dX4_may_25 rfl ?_
      refine ww_istore (i := 5) C0 dX4_may_26 (Nat.le_of_ble_eq_true rfl) rfl ?_
      simp only [List.set_cons_zero, List.set_cons_succ]
      refine ww_back (ww_loop (pc := 28) 0 (3) (by omega) (fun j => [_, _, _, .int (sMany (fun t => allB (sAg fg0 fg1 fg2 fg3 fg4 s0 (nI (t / 10)) (nI (t % 10))) gn) (fun t => 10 * nI (t / 10) + nI (t % 10)) (10 * j)).1, .int (sMany (fun t => allB (sAg fg0 fg1 fg2 fg3 fg4 s0 (nI (t / 10)) (nI (t % 10))) gn) (fun t => 10 * nI (t / 10) + nI (t % 10)) (10 * j)).2, .int (nI j), .null]) (fun j => _) ?_ ?_) ⟨Or.inr rfl, Or.inr rfl, Or.inr rfl, Or.inr rfl, Or.inr rfl, Or.inr rfl, Or.inl rfl, trivial⟩ (by rfl)
      · intro j hj0 hj ih
        refine ww_iload C0 dX4_may_28 rfl ?_
        refine ww_iconst (v := (2)) C0 dX4_may_30 rfl ?_
        refine ww_icmp_gt (tgt := 93) C0 dX4_may_31 (by decide) (fun h31 => ?_) (fun h31 => ?_)
        · skip
          replace h31 := (nI_ltE (a := 2) (b := j) rfl rfl (by omega) (by omega)).mp h31
          exfalso; omega
        · skip
          replace h31 := (not_congr (nI_ltE (a := 2) (b := j) rfl rfl (by omega) (by omega))).mp h31
          refine ww_iconst (v := (0)) C0 dX4_may_34 rfl ?_
          refine ww_istore (i := 6) C0 dX4_may_35 (Nat.le_of_ble_eq_true rfl) rfl ?_
          simp only [List.set_cons_zero, List.set_cons_succ]
          refine ww_back (ww_loop (pc := 37) 0 (10) (by omega) (fun i => [_, _, _, .int (sMany (fun t => allB (sAg fg0 fg1 fg2 fg3 fg4 s0 (nI (t / 10)) (nI (t % 10))) gn) (fun t => 10 * nI (t / 10) + nI (t % 10)) (10 * j + i)).1, .int (sMany (fun t => allB (sAg fg0 fg1 fg2 fg3 fg4 s0 (nI (t / 10)) (nI (t % 10))) gn) (fun t => 10 * nI (t / 10) + nI (t % 10)) (10 * j + i)).2, _, .int (nI i)]) (fun i => _) ?_ ?_) ⟨Or.inr rfl, Or.inr rfl, Or.inr rfl, Or.inr rfl, Or.inr rfl, Or.inr rfl, Or.inr rfl, trivial⟩ (by rfl)
          · intro i hj0 hj ih
            refine ww_iload C0 dX4_may_37 rfl ?_
            refine ww_bipush (v := (10)) C0 dX4_may_39 rfl ?_
            refine ww_icmp_ge (tgt := 87) C0 dX4_may_41 (by decide) (fun h41 => ?_) (fun h41 => ?_)
            · skip
              replace h41 := (nI_leE (a := 10) (b := i) rfl rfl (by omega) (by omega)).mp h41
              exfalso; omega
            · skip
              replace h41 := (not_congr (nI_leE (a := 10) (b := i) rfl rfl (by omega) (by omega))).mp h41
              refine ww_aload_n C0 dX4_may_44 rfl ?_
              refine ww_get C0 (ci := 4) (C := RX4) (T := TX4) (N := 14) ku_X4 0 rfl rfl 11 (by decide) kw_X4_61 rfl dX4_may_45 ?_
              refine ww_iload_n C0 dX4_may_48 rfl ?_
              refine ww_iload C0 dX4_may_49 rfl ?_
              refine ww_iload C0 dX4_may_51 rfl ?_
              have e1 : (10 * j + i) / 10 = j := by omega
              have e2 : (10 * j + i) % 10 = i := by omega
              refine ww_perm (perm_mv 0 16 6 _) ?_
              simp only [List.drop_succ_cons, List.drop_zero, List.take_succ_cons, List.take_zero, List.cons_append, List.nil_append, Nat.reduceAdd]
              refine ww_callVNi C0 (qc := (RX1, TX1, 6)) 0 1 (c_X1_agreeWith l D cI cZ cQ hg) kd_X1_agreeWith kn_X4_196 km_X1_agreeWith kl_X1_agreeWith ki_X1 hd_X1_agreeWith rfl rfl ⟨Nat.le_of_ble_eq_true rfl, Nat.le_of_ble_eq_true rfl, rfl, rfl⟩ (Nat.le_of_ble_eq_true rfl) dX4_may_53 rfl rfl rfl ⟨Nat.zero_le _, Nat.zero_le _⟩ ?_
              refine ww_perm (perm_mv 0 6 16 _) ?_
              simp only [List.drop_succ_cons, List.drop_zero, List.take_succ_cons, List.take_zero, List.cons_append, List.nil_append, Nat.reduceAdd]
              refine ww_bif_eq (tgt := 81) C0 dX4_may_56 (by decide) (fun h56 => ?_) (fun h56 => ?_)
              · skip
                refine ww_iinc (d := 1) C0 dX4_may_81 rfl rfl rfl ?_
                simp only [List.set_cons_zero, List.set_cons_succ]
                refine ww_goto (tgt := 37) C0 dX4_may_84 (by decide) ?_
                exact ww_back ih ⟨Or.inr rfl, Or.inr rfl, Or.inr rfl, Or.inr (congrArg Value.int (by simp [sMany, ← Nat.add_assoc, *])), Or.inr (congrArg Value.int (by simp [sMany, ← Nat.add_assoc, *])), Or.inr rfl, Or.inr (congrArg Value.int (nI_addE (a := i) (b := 1) rfl rfl).symm), trivial⟩ (by rfl)
              · skip
                refine ww_iload_n C0 dX4_may_59 rfl ?_
                refine ww_if_ne (tgt := 74) C0 dX4_may_60 (by decide) (fun h60 => ?_) (fun h60 => ?_)
                · skip
                  refine ww_iload C0 dX4_may_74 rfl ?_
                  refine ww_istore (i := 4) C0 dX4_may_76 (Nat.le_of_ble_eq_true rfl) rfl ?_
                  simp only [List.set_cons_zero, List.set_cons_succ]
                  refine ww_iinc (d := 1) C0 dX4_may_78 rfl rfl rfl ?_
                  simp only [List.set_cons_zero, List.set_cons_succ]
                  refine ww_iinc (d := 1) C0 dX4_may_81 rfl rfl rfl ?_
                  simp only [List.set_cons_zero, List.set_cons_succ]
                  refine ww_goto (tgt := 37) C0 dX4_may_84 (by decide) ?_
                  exact ww_back ih ⟨Or.inr rfl, Or.inr rfl, Or.inr rfl, Or.inr (congrArg Value.int (by simp [sMany, ← Nat.add_assoc, *])), Or.inr (congrArg Value.int (by simp [sMany, ← Nat.add_assoc, *])), Or.inr rfl, Or.inr (congrArg Value.int (nI_addE (a := i) (b := 1) rfl rfl).symm), trivial⟩ (by rfl)
                · skip
                  refine ww_bipush (v := (10)) C0 dX4_may_63 rfl ?_
                  refine ww_iload C0 dX4_may_65 rfl ?_
                  refine ww_imul C0 dX4_may_67 ?_
                  refine ww_iload C0 dX4_may_68 rfl ?_
                  refine ww_iadd C0 dX4_may_70 ?_
                  refine ww_goto (tgt := 76) C0 dX4_may_71 (by decide) ?_
                  refine ww_istore (i := 4) C0 dX4_may_76 (Nat.le_of_ble_eq_true rfl) rfl ?_
                  simp only [List.set_cons_zero, List.set_cons_succ]
                  refine ww_iinc (d := 1) C0 dX4_may_78 rfl rfl rfl ?_
                  simp only [List.set_cons_zero, List.set_cons_succ]
                  refine ww_iinc (d := 1) C0 dX4_may_81 rfl rfl rfl ?_
                  simp only [List.set_cons_zero, List.set_cons_succ]
                  refine ww_goto (tgt := 37) C0 dX4_may_84 (by decide) ?_
                  exact ww_back ih ⟨Or.inr rfl, Or.inr rfl, Or.inr rfl, Or.inr (congrArg Value.int (by simp [sMany, ← Nat.add_assoc, *])), Or.inr (congrArg Value.int (by simp [sMany, ← Nat.add_assoc, *])), Or.inr rfl, Or.inr (congrArg Value.int (nI_addE (a := i) (b := 1) rfl rfl).symm), trivial⟩ (by rfl)
          · skip
            refine ww_iload C0 dX4_may_37 rfl ?_
            refine ww_bipush (v := (10)) C0 dX4_may_39 rfl ?_
            refine ww_icmp_ge (tgt := 87) C0 dX4_may_41 (by decide) (fun h41 => ?_) (fun h41 => ?_)
            · skip
              replace h41 := (nI_leE (a := 10) (b := 10) rfl rfl (by omega) (by omega)).mp h41
              refine ww_iinc (d := 1) C0 dX4_may_87 rfl rfl rfl ?_
              simp only [List.set_cons_zero, List.set_cons_succ]
              refine ww_goto (tgt := 28) C0 dX4_may_90 (by decide) ?_
              exact ww_back ih ⟨Or.inr rfl, Or.inr rfl, Or.inr rfl, Or.inr (congrArg Value.int (by rw [show 10 * (j + 1) = 10 * j + 10 by omega])), Or.inr (congrArg Value.int (by rw [show 10 * (j + 1) = 10 * j + 10 by omega])), Or.inr (congrArg Value.int (nI_addE (a := j) (b := 1) rfl rfl).symm), Or.inl rfl, trivial⟩ (by rfl)
            · skip
              replace h41 := (not_congr (nI_leE (a := 10) (b := 10) rfl rfl (by omega) (by omega))).mp h41
              exfalso; omega
      · skip
        refine ww_iload C0 dX4_may_28 rfl ?_
        refine ww_iconst (v := (2)) C0 dX4_may_30 rfl ?_
        refine ww_icmp_gt (tgt := 93) C0 dX4_may_31 (by decide) (fun h31 => ?_) (fun h31 => ?_)
        · skip
          replace h31 := (nI_ltE (a := 2) (b := 3) rfl rfl (by omega) (by omega)).mp h31
          refine ww_iload_n C0 dX4_may_93 rfl ?_
          refine ww_if_ne (tgt := 101) C0 dX4_may_94 (by decide) (fun h94 => ?_) (fun h94 => ?_)
          · skip
            refine ww_iload C0 dX4_may_101 rfl ?_
            exact ww_iret C0 hr dX4_may_103 (by simp [*]) (by rfl)
          · skip
            refine ww_iload_n C0 dX4_may_97 rfl ?_
            refine ww_goto (tgt := 103) C0 dX4_may_98 (by decide) ?_
            exact ww_iret C0 hr dX4_may_103 (by simp [*]) (by rfl)
        · skip
          replace h31 := (not_congr (nI_ltE (a := 2) (b := 3) rfl rfl (by omega) (by omega))).mp h31
          exfalso; omega
    · skip
      exact absurd hx (by rw [h13]; decide)
  · skip
    exact absurd hs (by rw [h4]; decide)

set_option maxHeartbeats 4000000 in
set_option maxRecDepth 100000 in
theorem c_X4_rests_b (l : Launch) (D : va_G) (cI cZ cQ : ClassId) {rest : va_W} {aX : Nat} {x : Int32} (hx : isN 2 x = false) : MI l D [(cI, .int), (cZ, .boolean), (cQ, .object "MulesRemember$State")] yX4_rests cX4_rests 7 .int ({ frames := 5, cells := 0, slots := 0, locals := 125 } : Room) [.ref aX, .int x] (rest) (-2) (rest) := by
  refine MI.of [.ref aX, .int x, .null, .null, .null, .null, .null] (by decide) (Nat.le_of_ble_eq_true rfl) rfl ?_
  intro p e s m below meth c A C0 hr
  refine ww_iload_n C0 dX4_rests_0 rfl ?_
  refine ww_callSi C0 (c_X4_isFlag l D cI cZ cQ) kd_X4_isFlag kw_X4_189 ks_X4_isFlag ki_X4 hd_X4_isFlag ⟨Nat.le_of_ble_eq_true rfl, Nat.le_of_ble_eq_true rfl, rfl, rfl⟩ (Nat.le_of_ble_eq_true rfl) dX4_rests_1 rfl rfl ⟨Nat.zero_le _, Nat.zero_le _⟩ ?_
  refine ww_bif_ne (tgt := 10) C0 dX4_rests_4 (by decide) (fun h4 => ?_) (fun h4 => ?_)
  · skip
    exact absurd h4 (by rw [hx]; decide)
  · skip
    refine ww_bipush (v := (-2)) C0 dX4_rests_7 rfl ?_
    exact ww_iret C0 hr dX4_rests_9 (by rfl) (by rfl)

set_option maxHeartbeats 4000000 in
set_option maxRecDepth 100000 in
theorem c_X4_rests (l : Launch) (D : va_G) (cI cZ cQ : ClassId) {aX aT aL aC aN aY aA aO aK aG aW al0 al1 al2 an0 an1 an2 : Nat} {nm fa ac na : Nat} {hN bN : Int32} {sd : Int64} {fl0 fl1 fl2 fC fn0 fn1 fn2 : Nat → Int32} {rest : va_W} {x : Int32} (hnm : nm ≤ 5) (hna : na ≤ 5) (hx : isN 2 x = true) : MI l D [(cI, .int), (cZ, .boolean), (cQ, .object "MulesRemember$State")] yX4_rests cX4_rests 7 .int ({ frames := 5, cells := 0, slots := 0, locals := 125 } : Room) [.ref aX, .int x] ((aX, .inr (4, [.ref aT, .ref aL, .ref aC, .int (nI nm), .ref aN, .ref aY, .ref aA, .int (nI fa), .int (nI ac), .ref aO, .ref aK, .ref aG, .ref aW, .long sd])) :: (aL, .inr (0, [.ref al0, .ref al1, .ref al2, .int (nI na)])) :: (al0, .inl (cI, 5, .inl (fl0))) :: (al1, .inl (cI, 5, .inl (fl1))) :: (al2, .inl (cI, 5, .inl (fl2))) :: (aC, .inl (cI, 5, .inl (fC))) :: (aN, .inr (2, [.ref an0, .ref an1, .ref an2, .int hN, .int bN])) :: (an0, .inl (cI, 5, .inl (fn0))) :: (an1, .inl (cI, 5, .inl (fn1))) :: (an2, .inl (cI, 5, .inl (fn2))) :: rest) (if x = 0 then (sMany (fun t => sContent (nI (t / 2)) (nI (t % 2)) (sumI (fun o => sWorth1 (sFF nm na fl0 fl1 fl2 fC fn0 o (fn0 o) 1 hN) (sKnown na (fn1 o) (fn2 o))) nm) && sContent (nI (t % 2)) (nI (t / 2)) (sumI (fun o => sWorth1 (sFF nm na fl0 fl1 fl2 fC fn0 o (fn0 o) 1 hN) (sKnown na (fn1 o) (fn2 o))) nm)) (fun t => 10 * nI (t / 2) + nI (t % 2)) (4)).1 else (sMany (fun t => sContent (nI (t / 2)) (nI (t % 2)) (sumI (fun o => sWorth1 (sFF nm na fl0 fl1 fl2 fC fn0 o (fn0 o) 1 hN) (sKnown na (fn1 o) (fn2 o))) nm) && sContent (nI (t % 2)) (nI (t / 2)) (sumI (fun o => sWorth1 (sFF nm na fl0 fl1 fl2 fC fn0 o (fn0 o) 1 hN) (sKnown na (fn1 o) (fn2 o))) nm)) (fun t => 10 * nI (t / 2) + nI (t % 2)) (4)).2) ((aX, .inr (4, [.ref aT, .ref aL, .ref aC, .int (nI nm), .ref aN, .ref aY, .ref aA, .int (nI fa), .int (nI ac), .ref aO, .ref aK, .ref aG, .ref aW, .long sd])) :: (aL, .inr (0, [.ref al0, .ref al1, .ref al2, .int (nI na)])) :: (al0, .inl (cI, 5, .inl (fl0))) :: (al1, .inl (cI, 5, .inl (fl1))) :: (al2, .inl (cI, 5, .inl (fl2))) :: (aC, .inl (cI, 5, .inl (fC))) :: (aN, .inr (2, [.ref an0, .ref an1, .ref an2, .int hN, .int bN])) :: (an0, .inl (cI, 5, .inl (fn0))) :: (an1, .inl (cI, 5, .inl (fn1))) :: (an2, .inl (cI, 5, .inl (fn2))) :: rest) := by
  refine MI.of [.ref aX, .int x, .null, .null, .null, .null, .null] (by decide) (Nat.le_of_ble_eq_true rfl) rfl ?_
  intro p e s m below meth c A C0 hr
  refine ww_iload_n C0 dX4_rests_0 rfl ?_
  refine ww_callSi C0 (c_X4_isFlag l D cI cZ cQ) kd_X4_isFlag kw_X4_189 ks_X4_isFlag ki_X4 hd_X4_isFlag ⟨Nat.le_of_ble_eq_true rfl, Nat.le_of_ble_eq_true rfl, rfl, rfl⟩ (Nat.le_of_ble_eq_true rfl) dX4_rests_1 rfl rfl ⟨Nat.zero_le _, Nat.zero_le _⟩ ?_
  refine ww_bif_ne (tgt := 10) C0 dX4_rests_4 (by decide) (fun h4 => ?_) (fun h4 => ?_)
  · skip
    refine ww_aload_n C0 dX4_rests_10 rfl ?_
    refine ww_callVi C0 (qc := (RX4, TX4, 14)) 0 4 (c_X4_worthOfString l D cI cZ cQ hnm hna) kd_X4_worthOfString kw_X4_200 km_X4_worthOfString kl_X4_worthOfString ki_X4 hd_X4_worthOfString rfl rfl ⟨Nat.le_of_ble_eq_true rfl, Nat.le_of_ble_eq_true rfl, rfl, rfl⟩ (Nat.le_of_ble_eq_true rfl) dX4_rests_11 rfl rfl rfl ⟨Nat.zero_le _, Nat.zero_le _⟩ ?_
    refine ww_istore_n (i := 2) C0 dX4_rests_14 rfl (Nat.le_of_ble_eq_true rfl) rfl ?_
    simp only [List.set_cons_zero, List.set_cons_succ]
    refine ww_iconst (v := (0)) C0 dX4_rests_15 rfl ?_
    refine ww_istore_n (i := 3) C0 dX4_rests_16 rfl (Nat.le_of_ble_eq_true rfl) rfl ?_
    simp only [List.set_cons_zero, List.set_cons_succ]
    refine ww_bipush (v := (-9)) C0 dX4_rests_17 rfl ?_
    refine ww_istore (i := 4) C0 dX4_rests_19 (Nat.le_of_ble_eq_true rfl) rfl ?_
    simp only [List.set_cons_zero, List.set_cons_succ]
    refine ww_iconst (v := (0)) C0 dX4_rests_21 rfl ?_
    refine ww_istore (i := 5) C0 dX4_rests_22 (Nat.le_of_ble_eq_true rfl) rfl ?_
    simp only [List.set_cons_zero, List.set_cons_succ]
    refine ww_back (ww_loop (pc := 24) 0 (2) (by omega) (fun j => [_, _, _, .int (sMany (fun t => sContent (nI (t / 2)) (nI (t % 2)) (sumI (fun o => sWorth1 (sFF nm na fl0 fl1 fl2 fC fn0 o (fn0 o) 1 hN) (sKnown na (fn1 o) (fn2 o))) nm) && sContent (nI (t % 2)) (nI (t / 2)) (sumI (fun o => sWorth1 (sFF nm na fl0 fl1 fl2 fC fn0 o (fn0 o) 1 hN) (sKnown na (fn1 o) (fn2 o))) nm)) (fun t => 10 * nI (t / 2) + nI (t % 2)) (2 * j)).1, .int (sMany (fun t => sContent (nI (t / 2)) (nI (t % 2)) (sumI (fun o => sWorth1 (sFF nm na fl0 fl1 fl2 fC fn0 o (fn0 o) 1 hN) (sKnown na (fn1 o) (fn2 o))) nm) && sContent (nI (t % 2)) (nI (t / 2)) (sumI (fun o => sWorth1 (sFF nm na fl0 fl1 fl2 fC fn0 o (fn0 o) 1 hN) (sKnown na (fn1 o) (fn2 o))) nm)) (fun t => 10 * nI (t / 2) + nI (t % 2)) (2 * j)).2, .int (nI j), .null]) (fun j => _) ?_ ?_) ⟨Or.inr rfl, Or.inr rfl, Or.inr rfl, Or.inr rfl, Or.inr rfl, Or.inr rfl, Or.inl rfl, trivial⟩ (by rfl)
    · intro j hj0 hj ih
      refine ww_iload C0 dX4_rests_24 rfl ?_
      refine ww_iconst (v := (1)) C0 dX4_rests_26 rfl ?_
      refine ww_icmp_gt (tgt := 95) C0 dX4_rests_27 (by decide) (fun h27 => ?_) (fun h27 => ?_)
      · skip
        replace h27 := (nI_ltE (a := 1) (b := j) rfl rfl (by omega) (by omega)).mp h27
        exfalso; omega
      · skip
        replace h27 := (not_congr (nI_ltE (a := 1) (b := j) rfl rfl (by omega) (by omega))).mp h27
        refine ww_iconst (v := (0)) C0 dX4_rests_30 rfl ?_
        refine ww_istore (i := 6) C0 dX4_rests_31 (Nat.le_of_ble_eq_true rfl) rfl ?_
        simp only [List.set_cons_zero, List.set_cons_succ]
        refine ww_back (ww_loop (pc := 33) 0 (2) (by omega) (fun i => [_, _, _, .int (sMany (fun t => sContent (nI (t / 2)) (nI (t % 2)) (sumI (fun o => sWorth1 (sFF nm na fl0 fl1 fl2 fC fn0 o (fn0 o) 1 hN) (sKnown na (fn1 o) (fn2 o))) nm) && sContent (nI (t % 2)) (nI (t / 2)) (sumI (fun o => sWorth1 (sFF nm na fl0 fl1 fl2 fC fn0 o (fn0 o) 1 hN) (sKnown na (fn1 o) (fn2 o))) nm)) (fun t => 10 * nI (t / 2) + nI (t % 2)) (2 * j + i)).1, .int (sMany (fun t => sContent (nI (t / 2)) (nI (t % 2)) (sumI (fun o => sWorth1 (sFF nm na fl0 fl1 fl2 fC fn0 o (fn0 o) 1 hN) (sKnown na (fn1 o) (fn2 o))) nm) && sContent (nI (t % 2)) (nI (t / 2)) (sumI (fun o => sWorth1 (sFF nm na fl0 fl1 fl2 fC fn0 o (fn0 o) 1 hN) (sKnown na (fn1 o) (fn2 o))) nm)) (fun t => 10 * nI (t / 2) + nI (t % 2)) (2 * j + i)).2, _, .int (nI i)]) (fun i => _) ?_ ?_) ⟨Or.inr rfl, Or.inr rfl, Or.inr rfl, Or.inr rfl, Or.inr rfl, Or.inr rfl, Or.inr rfl, trivial⟩ (by rfl)
        · intro i hj0 hj ih
          refine ww_iload C0 dX4_rests_33 rfl ?_
          refine ww_iconst (v := (1)) C0 dX4_rests_35 rfl ?_
          refine ww_icmp_gt (tgt := 89) C0 dX4_rests_36 (by decide) (fun h36 => ?_) (fun h36 => ?_)
          · skip
            replace h36 := (nI_ltE (a := 1) (b := i) rfl rfl (by omega) (by omega)).mp h36
            exfalso; omega
          · skip
            replace h36 := (not_congr (nI_ltE (a := 1) (b := i) rfl rfl (by omega) (by omega))).mp h36
            refine ww_iload C0 dX4_rests_39 rfl ?_
            refine ww_iload C0 dX4_rests_41 rfl ?_
            refine ww_iload_n C0 dX4_rests_43 rfl ?_
            have e1 : (2 * j + i) / 2 = j := by omega
            have e2 : (2 * j + i) % 2 = i := by omega
            refine ww_callSi C0 (c_X4_isContent l D cI cZ cQ) kd_X4_isContent kw_X4_203 ks_X4_isContent ki_X4 hd_X4_isContent ⟨Nat.le_of_ble_eq_true rfl, Nat.le_of_ble_eq_true rfl, rfl, rfl⟩ (Nat.le_of_ble_eq_true rfl) dX4_rests_44 rfl rfl ⟨Nat.zero_le _, Nat.zero_le _⟩ ?_
            refine ww_bif_eq (tgt := 83) C0 dX4_rests_47 (by decide) (fun h47 => ?_) (fun h47 => ?_)
            · skip
              refine ww_iinc (d := 1) C0 dX4_rests_83 rfl rfl rfl ?_
              simp only [List.set_cons_zero, List.set_cons_succ]
              refine ww_goto (tgt := 33) C0 dX4_rests_86 (by decide) ?_
              exact ww_back ih ⟨Or.inr rfl, Or.inr rfl, Or.inr rfl, Or.inr (congrArg Value.int (by simp [sMany, ← Nat.add_assoc, *])), Or.inr (congrArg Value.int (by simp [sMany, ← Nat.add_assoc, *])), Or.inr rfl, Or.inr (congrArg Value.int (nI_addE (a := i) (b := 1) rfl rfl).symm), trivial⟩ (by rfl)
            · skip
              refine ww_iload C0 dX4_rests_50 rfl ?_
              refine ww_iload C0 dX4_rests_52 rfl ?_
              refine ww_iload_n C0 dX4_rests_54 rfl ?_
              refine ww_callSi C0 (c_X4_isContent l D cI cZ cQ) kd_X4_isContent kw_X4_203 ks_X4_isContent ki_X4 hd_X4_isContent ⟨Nat.le_of_ble_eq_true rfl, Nat.le_of_ble_eq_true rfl, rfl, rfl⟩ (Nat.le_of_ble_eq_true rfl) dX4_rests_55 rfl rfl ⟨Nat.zero_le _, Nat.zero_le _⟩ ?_
              refine ww_bif_eq (tgt := 83) C0 dX4_rests_58 (by decide) (fun h58 => ?_) (fun h58 => ?_)
              · skip
                refine ww_iinc (d := 1) C0 dX4_rests_83 rfl rfl rfl ?_
                simp only [List.set_cons_zero, List.set_cons_succ]
                refine ww_goto (tgt := 33) C0 dX4_rests_86 (by decide) ?_
                exact ww_back ih ⟨Or.inr rfl, Or.inr rfl, Or.inr rfl, Or.inr (congrArg Value.int (by simp [sMany, ← Nat.add_assoc, *])), Or.inr (congrArg Value.int (by simp [sMany, ← Nat.add_assoc, *])), Or.inr rfl, Or.inr (congrArg Value.int (nI_addE (a := i) (b := 1) rfl rfl).symm), trivial⟩ (by rfl)
              · skip
                refine ww_iload_n C0 dX4_rests_61 rfl ?_
                refine ww_if_ne (tgt := 76) C0 dX4_rests_62 (by decide) (fun h62 => ?_) (fun h62 => ?_)
                · skip
                  refine ww_iload C0 dX4_rests_76 rfl ?_
                  refine ww_istore (i := 4) C0 dX4_rests_78 (Nat.le_of_ble_eq_true rfl) rfl ?_
                  simp only [List.set_cons_zero, List.set_cons_succ]
                  refine ww_iinc (d := 1) C0 dX4_rests_80 rfl rfl rfl ?_
                  simp only [List.set_cons_zero, List.set_cons_succ]
                  refine ww_iinc (d := 1) C0 dX4_rests_83 rfl rfl rfl ?_
                  simp only [List.set_cons_zero, List.set_cons_succ]
                  refine ww_goto (tgt := 33) C0 dX4_rests_86 (by decide) ?_
                  exact ww_back ih ⟨Or.inr rfl, Or.inr rfl, Or.inr rfl, Or.inr (congrArg Value.int (by simp [sMany, ← Nat.add_assoc, *])), Or.inr (congrArg Value.int (by simp [sMany, ← Nat.add_assoc, *])), Or.inr rfl, Or.inr (congrArg Value.int (nI_addE (a := i) (b := 1) rfl rfl).symm), trivial⟩ (by rfl)
                · skip
                  refine ww_bipush (v := (10)) C0 dX4_rests_65 rfl ?_
                  refine ww_iload C0 dX4_rests_67 rfl ?_
                  refine ww_imul C0 dX4_rests_69 ?_
                  refine ww_iload C0 dX4_rests_70 rfl ?_
                  refine ww_iadd C0 dX4_rests_72 ?_
                  refine ww_goto (tgt := 78) C0 dX4_rests_73 (by decide) ?_
                  refine ww_istore (i := 4) C0 dX4_rests_78 (Nat.le_of_ble_eq_true rfl) rfl ?_
                  simp only [List.set_cons_zero, List.set_cons_succ]
                  refine ww_iinc (d := 1) C0 dX4_rests_80 rfl rfl rfl ?_
                  simp only [List.set_cons_zero, List.set_cons_succ]
                  refine ww_iinc (d := 1) C0 dX4_rests_83 rfl rfl rfl ?_
                  simp only [List.set_cons_zero, List.set_cons_succ]
                  refine ww_goto (tgt := 33) C0 dX4_rests_86 (by decide) ?_
                  exact ww_back ih ⟨Or.inr rfl, Or.inr rfl, Or.inr rfl, Or.inr (congrArg Value.int (by simp [sMany, ← Nat.add_assoc, *])), Or.inr (congrArg Value.int (by simp [sMany, ← Nat.add_assoc, *])), Or.inr rfl, Or.inr (congrArg Value.int (nI_addE (a := i) (b := 1) rfl rfl).symm), trivial⟩ (by rfl)
        · skip
          refine ww_iload C0 dX4_rests_33 rfl ?_
          refine ww_iconst (v := (1)) C0 dX4_rests_35 rfl ?_
          refine ww_icmp_gt (tgt := 89) C0 dX4_rests_36 (by decide) (fun h36 => ?_) (fun h36 => ?_)
          · skip
            replace h36 := (nI_ltE (a := 1) (b := 2) rfl rfl (by omega) (by omega)).mp h36
            refine ww_iinc (d := 1) C0 dX4_rests_89 rfl rfl rfl ?_
            simp only [List.set_cons_zero, List.set_cons_succ]
            refine ww_goto (tgt := 24) C0 dX4_rests_92 (by decide) ?_
            exact ww_back ih ⟨Or.inr rfl, Or.inr rfl, Or.inr rfl, Or.inr (congrArg Value.int (by rw [show 2 * (j + 1) = 2 * j + 2 by omega])), Or.inr (congrArg Value.int (by rw [show 2 * (j + 1) = 2 * j + 2 by omega])), Or.inr (congrArg Value.int (nI_addE (a := j) (b := 1) rfl rfl).symm), Or.inl rfl, trivial⟩ (by rfl)
          · skip
            replace h36 := (not_congr (nI_ltE (a := 1) (b := 2) rfl rfl (by omega) (by omega))).mp h36
            exfalso; omega
    · skip
      refine ww_iload C0 dX4_rests_24 rfl ?_
      refine ww_iconst (v := (1)) C0 dX4_rests_26 rfl ?_
      refine ww_icmp_gt (tgt := 95) C0 dX4_rests_27 (by decide) (fun h27 => ?_) (fun h27 => ?_)
      · skip
        replace h27 := (nI_ltE (a := 1) (b := 2) rfl rfl (by omega) (by omega)).mp h27
        refine ww_iload_n C0 dX4_rests_95 rfl ?_
        refine ww_if_ne (tgt := 103) C0 dX4_rests_96 (by decide) (fun h96 => ?_) (fun h96 => ?_)
        · skip
          refine ww_iload C0 dX4_rests_103 rfl ?_
          exact ww_iret C0 hr dX4_rests_105 (by simp [*]) (by rfl)
        · skip
          refine ww_iload_n C0 dX4_rests_99 rfl ?_
          refine ww_goto (tgt := 105) C0 dX4_rests_100 (by decide) ?_
          exact ww_iret C0 hr dX4_rests_105 (by simp [*]) (by rfl)
      · skip
        replace h27 := (not_congr (nI_ltE (a := 1) (b := 2) rfl rfl (by omega) (by omega))).mp h27
        exfalso; omega
  · skip
    exact absurd hx (by rw [h4]; decide)

set_option maxHeartbeats 4000000 in
set_option maxRecDepth 100000 in
theorem c_X4_forgets_b (l : Launch) (D : va_G) (cI cZ cQ : ClassId) {rest : va_W} {aX : Nat} {wa mm x : Int32} {u : Bool} (hb : (isN 2 wa && isN 6 mm && isN 11 x) = false) : MI l D [(cI, .int), (cZ, .boolean), (cQ, .object "MulesRemember$State")] yX4_forgets cX4_forgets 8 .int ({ frames := 5, cells := 0, slots := 0, locals := 128 } : Room) [.ref aX, .int wa, .int mm, .int x, .int (bI u)] (rest) (-2) (rest) := by
  refine MI.of [.ref aX, .int wa, .int mm, .int x, .int (bI u), .null, .null, .null] (by decide) (Nat.le_of_ble_eq_true rfl) rfl ?_
  intro p e s m below meth c A C0 hr
  refine ww_iload_n C0 dX4_forgets_0 rfl ?_
  refine ww_callSi C0 (c_X4_isFlag l D cI cZ cQ) kd_X4_isFlag kw_X4_189 ks_X4_isFlag ki_X4 hd_X4_isFlag ⟨Nat.le_of_ble_eq_true rfl, Nat.le_of_ble_eq_true rfl, rfl, rfl⟩ (Nat.le_of_ble_eq_true rfl) dX4_forgets_1 rfl rfl ⟨Nat.zero_le _, Nat.zero_le _⟩ ?_
  refine ww_bif_eq (tgt := 26) C0 dX4_forgets_4 (by decide) (fun h4 => ?_) (fun h4 => ?_)
  · skip
    refine ww_bipush (v := (-2)) C0 dX4_forgets_26 rfl ?_
    exact ww_iret C0 hr dX4_forgets_28 (by rfl) (by rfl)
  · skip
    refine ww_iload_n C0 dX4_forgets_7 rfl ?_
    refine ww_if_lt (tgt := 26) C0 dX4_forgets_8 (by decide) (fun h8 => ?_) (fun h8 => ?_)
    · skip
      refine ww_bipush (v := (-2)) C0 dX4_forgets_26 rfl ?_
      exact ww_iret C0 hr dX4_forgets_28 (by rfl) (by rfl)
    · skip
      refine ww_iload_n C0 dX4_forgets_11 rfl ?_
      refine ww_iconst (v := (5)) C0 dX4_forgets_12 rfl ?_
      refine ww_icmp_gt (tgt := 26) C0 dX4_forgets_13 (by decide) (fun h13 => ?_) (fun h13 => ?_)
      · skip
        refine ww_bipush (v := (-2)) C0 dX4_forgets_26 rfl ?_
        exact ww_iret C0 hr dX4_forgets_28 (by rfl) (by rfl)
      · skip
        refine ww_iload_n C0 dX4_forgets_16 rfl ?_
        refine ww_if_lt (tgt := 26) C0 dX4_forgets_17 (by decide) (fun h17 => ?_) (fun h17 => ?_)
        · skip
          refine ww_bipush (v := (-2)) C0 dX4_forgets_26 rfl ?_
          exact ww_iret C0 hr dX4_forgets_28 (by rfl) (by rfl)
        · skip
          refine ww_iload_n C0 dX4_forgets_20 rfl ?_
          refine ww_bipush (v := (10)) C0 dX4_forgets_21 rfl ?_
          refine ww_icmp_le (tgt := 29) C0 dX4_forgets_23 (by decide) (fun h23 => ?_) (fun h23 => ?_)
          · skip
            exact absurd hb (by rw [h4, isN_yesLe (n := 5) (by decide) h8 (i32_nlt.mp h13), isN_yesLe (n := 10) (by decide) h17 h23]; decide)
          · skip
            refine ww_bipush (v := (-2)) C0 dX4_forgets_26 rfl ?_
            exact ww_iret C0 hr dX4_forgets_28 (by rfl) (by rfl)

set_option maxHeartbeats 4000000 in
set_option maxRecDepth 100000 in
theorem c_X4_forgets (l : Launch) (D : va_G) (cI cZ cQ : ClassId) {aX aT aL aC aN aY aA aO aK aG aW al0 al1 al2 an0 an1 an2 ay0 ay1 ay2 at0 ag0 ag1 ag2 ag3 ag4 : Nat} {nm fa ac na tn gn : Nat} {hN bN hY bY : Int32} {sd : Int64} {fl0 fl1 fl2 fC fn0 fn1 fn2 fy0 fy1 fy2 ft0 fg0 fg1 fg2 fg3 fg4 fW : Nat → Int32} {rest : va_W} {mm x Z : Nat} {wa : Int32} {u : Bool} (hnm : nm ≤ 5) (hna : na ≤ 5) (hw : isN 2 wa = true) (hmm : mm ≤ 5) (hx : x ≤ 10) (hZ : sumFrom (sTal (fun o => sTenths (sFF nm na fl0 fl1 fl2 fC fn0 o (fn0 o) wa hN) (sKnown na (fn1 o) (fn2 o)) (sKnown na (fn1 o) 0) (nI x)) nm) mm (6 - mm) = nI Z) (hZb : Z < 2 ^ 31) : MI l D [(cI, .int), (cZ, .boolean), (cQ, .object "MulesRemember$State")] yX4_forgets cX4_forgets 8 .int ({ frames := 5, cells := 0, slots := 0, locals := 128 } : Room) [.ref aX, .int wa, .int (nI mm), .int (nI x), .int (bI u)] ((aX, .inr (4, [.ref aT, .ref aL, .ref aC, .int (nI nm), .ref aN, .ref aY, .ref aA, .int (nI fa), .int (nI ac), .ref aO, .ref aK, .ref aG, .ref aW, .long sd])) :: (aL, .inr (0, [.ref al0, .ref al1, .ref al2, .int (nI na)])) :: (al0, .inl (cI, 5, .inl (fl0))) :: (al1, .inl (cI, 5, .inl (fl1))) :: (al2, .inl (cI, 5, .inl (fl2))) :: (aC, .inl (cI, 5, .inl (fC))) :: (aN, .inr (2, [.ref an0, .ref an1, .ref an2, .int hN, .int bN])) :: (an0, .inl (cI, 5, .inl (fn0))) :: (an1, .inl (cI, 5, .inl (fn1))) :: (an2, .inl (cI, 5, .inl (fn2))) :: (aY, .inr (2, [.ref ay0, .ref ay1, .ref ay2, .int hY, .int bY])) :: (ay0, .inl (cI, 5, .inl (fy0))) :: (ay1, .inl (cI, 5, .inl (fy1))) :: (ay2, .inl (cI, 5, .inl (fy2))) :: (aT, .inr (3, [.ref at0, .int (nI tn)])) :: (at0, .inl (cI, 48, .inl (ft0))) :: (aG, .inr (1, [.ref ag0, .ref ag1, .ref ag2, .ref ag3, .ref ag4, .int (nI gn)])) :: (ag0, .inl (cI, 6, .inl (fg0))) :: (ag1, .inl (cI, 6, .inl (fg1))) :: (ag2, .inl (cI, 6, .inl (fg2))) :: (ag3, .inl (cI, 6, .inl (fg3))) :: (ag4, .inl (cI, 6, .inl (fg4))) :: (aW, .inl (cI, 6, .inl (fW))) :: rest) (sFrac Z (10 ^ nm) u) ((aX, .inr (4, [.ref aT, .ref aL, .ref aC, .int (nI nm), .ref aN, .ref aY, .ref aA, .int (nI fa), .int (nI ac), .ref aO, .ref aK, .ref aG, .ref aW, .long sd])) :: (aL, .inr (0, [.ref al0, .ref al1, .ref al2, .int (nI na)])) :: (al0, .inl (cI, 5, .inl (fl0))) :: (al1, .inl (cI, 5, .inl (fl1))) :: (al2, .inl (cI, 5, .inl (fl2))) :: (aC, .inl (cI, 5, .inl (fC))) :: (aN, .inr (2, [.ref an0, .ref an1, .ref an2, .int hN, .int bN])) :: (an0, .inl (cI, 5, .inl (fn0))) :: (an1, .inl (cI, 5, .inl (fn1))) :: (an2, .inl (cI, 5, .inl (fn2))) :: (aY, .inr (2, [.ref ay0, .ref ay1, .ref ay2, .int hY, .int bY])) :: (ay0, .inl (cI, 5, .inl (fy0))) :: (ay1, .inl (cI, 5, .inl (fy1))) :: (ay2, .inl (cI, 5, .inl (fy2))) :: (aT, .inr (3, [.ref at0, .int (nI tn)])) :: (at0, .inl (cI, 48, .inl (ft0))) :: (aG, .inr (1, [.ref ag0, .ref ag1, .ref ag2, .ref ag3, .ref ag4, .int (nI gn)])) :: (ag0, .inl (cI, 6, .inl (fg0))) :: (ag1, .inl (cI, 6, .inl (fg1))) :: (ag2, .inl (cI, 6, .inl (fg2))) :: (ag3, .inl (cI, 6, .inl (fg3))) :: (ag4, .inl (cI, 6, .inl (fg4))) :: (aW, .inl (cI, 6, .inl (sTal (fun o => sTenths (sFF nm na fl0 fl1 fl2 fC fn0 o (fn0 o) wa hN) (sKnown na (fn1 o) (fn2 o)) (sKnown na (fn1 o) 0) (nI x)) nm))) :: rest) := by
  refine MI.of [.ref aX, .int wa, .int (nI mm), .int (nI x), .int (bI u), .null, .null, .null] (by decide) (Nat.le_of_ble_eq_true rfl) rfl ?_
  intro p e s m below meth c A C0 hr
  refine ww_iload_n C0 dX4_forgets_0 rfl ?_
  refine ww_callSi C0 (c_X4_isFlag l D cI cZ cQ) kd_X4_isFlag kw_X4_189 ks_X4_isFlag ki_X4 hd_X4_isFlag ⟨Nat.le_of_ble_eq_true rfl, Nat.le_of_ble_eq_true rfl, rfl, rfl⟩ (Nat.le_of_ble_eq_true rfl) dX4_forgets_1 rfl rfl ⟨Nat.zero_le _, Nat.zero_le _⟩ ?_
  refine ww_bif_eq (tgt := 26) C0 dX4_forgets_4 (by decide) (fun h4 => ?_) (fun h4 => ?_)
  · skip
    exact absurd hw (by rw [h4]; decide)
  · skip
    refine ww_iload_n C0 dX4_forgets_7 rfl ?_
    refine ww_if_lt (tgt := 26) C0 dX4_forgets_8 (by decide) (fun h8 => ?_) (fun h8 => ?_)
    · skip
      replace h8 := (nI_ltE (a := mm) (b := 0) rfl rfl (by omega) (by omega)).mp h8
      exfalso; omega
    · skip
      replace h8 := (not_congr (nI_ltE (a := mm) (b := 0) rfl rfl (by omega) (by omega))).mp h8
      refine ww_iload_n C0 dX4_forgets_11 rfl ?_
      refine ww_iconst (v := (5)) C0 dX4_forgets_12 rfl ?_
      refine ww_icmp_gt (tgt := 26) C0 dX4_forgets_13 (by decide) (fun h13 => ?_) (fun h13 => ?_)
      · skip
        replace h13 := (nI_ltE (a := 5) (b := mm) rfl rfl (by omega) (by omega)).mp h13
        exfalso; omega
      · skip
        replace h13 := (not_congr (nI_ltE (a := 5) (b := mm) rfl rfl (by omega) (by omega))).mp h13
        refine ww_iload_n C0 dX4_forgets_16 rfl ?_
        refine ww_if_lt (tgt := 26) C0 dX4_forgets_17 (by decide) (fun h17 => ?_) (fun h17 => ?_)
        · skip
          replace h17 := (nI_ltE (a := x) (b := 0) rfl rfl (by omega) (by omega)).mp h17
          exfalso; omega
        · skip
          replace h17 := (not_congr (nI_ltE (a := x) (b := 0) rfl rfl (by omega) (by omega))).mp h17
          refine ww_iload_n C0 dX4_forgets_20 rfl ?_
          refine ww_bipush (v := (10)) C0 dX4_forgets_21 rfl ?_
          refine ww_icmp_le (tgt := 29) C0 dX4_forgets_23 (by decide) (fun h23 => ?_) (fun h23 => ?_)
          · skip
            replace h23 := (nI_leE (a := x) (b := 10) rfl rfl (by omega) (by omega)).mp h23
            refine ww_iconst (v := (0)) C0 dX4_forgets_29 rfl ?_
            refine ww_istore (i := 5) C0 dX4_forgets_30 (Nat.le_of_ble_eq_true rfl) rfl ?_
            simp only [List.set_cons_zero, List.set_cons_succ]
            refine ww_cong (lo' := [_, _, _, _, _, .int 0, _, _]) ?_ (by rfl) rfl rfl
            refine ww_iload C0 dX4_forgets_32 rfl ?_
            refine ww_aload_n C0 dX4_forgets_34 rfl ?_
            refine ww_get C0 (ci := 4) (C := RX4) (T := TX4) (N := 14) ku_X4 0 rfl rfl 12 (by decide) kw_X4_65 rfl dX4_forgets_35 ?_
            refine ww_alen (v := 6) C0 22 0 rfl rfl rfl dX4_forgets_38 ?_
            refine ww_icmp_ge (tgt := 65) C0 dX4_forgets_39 (by decide) (fun h39 => ?_) (fun h39 => ?_)
            · skip
              replace h39 := (nI_leE (a := 6) (b := 0) rfl rfl (by omega) (by omega)).mp h39
              exfalso; omega
            · skip
              replace h39 := (not_congr (nI_leE (a := 6) (b := 0) rfl rfl (by omega) (by omega))).mp h39
              refine ww_aload_n C0 dX4_forgets_42 rfl ?_
              refine ww_get C0 (ci := 4) (C := RX4) (T := TX4) (N := 14) ku_X4 0 rfl rfl 12 (by decide) kw_X4_65 rfl dX4_forgets_43 ?_
              refine ww_iload C0 dX4_forgets_46 rfl ?_
              refine ww_iload C0 dX4_forgets_48 rfl ?_
              refine ww_if_ne (tgt := 57) C0 dX4_forgets_50 (by decide) (fun h50 => ?_) (fun h50 => ?_)
              · skip
                replace h50 := (not_congr (nI_eqE (a := 0) (b := 0) rfl rfl (by omega) (by omega))).mp h50
                exfalso; omega
              · skip
                replace h50 := (nI_eqE (a := 0) (b := 0) rfl rfl (by omega) (by omega)).mp h50
                refine ww_iconst (v := (1)) C0 dX4_forgets_53 rfl ?_
                refine ww_goto (tgt := 58) C0 dX4_forgets_54 (by decide) ?_
                refine ww_iast_n (j := 0) C0 22 0 rfl rfl rfl (by omega) (by decide) dX4_forgets_58 ?_
                simp only [List.set_cons_zero, List.set_cons_succ]
                refine ww_iinc (d := 1) C0 dX4_forgets_59 rfl rfl rfl ?_
                simp only [List.set_cons_zero, List.set_cons_succ]
                refine ww_goto (tgt := 32) C0 dX4_forgets_62 (by decide) ?_
                refine ww_cong (lo' := [_, _, _, _, _, .int 1, _, _]) ?_ (by rfl) rfl rfl
                refine ww_iload C0 dX4_forgets_32 rfl ?_
                refine ww_aload_n C0 dX4_forgets_34 rfl ?_
                refine ww_get C0 (ci := 4) (C := RX4) (T := TX4) (N := 14) ku_X4 0 rfl rfl 12 (by decide) kw_X4_65 rfl dX4_forgets_35 ?_
                refine ww_alen (v := 6) C0 22 0 rfl rfl rfl dX4_forgets_38 ?_
                refine ww_icmp_ge (tgt := 65) C0 dX4_forgets_39 (by decide) (fun h39 => ?_) (fun h39 => ?_)
                · skip
                  replace h39 := (nI_leE (a := 6) (b := 1) rfl rfl (by omega) (by omega)).mp h39
                  exfalso; omega
                · skip
                  replace h39 := (not_congr (nI_leE (a := 6) (b := 1) rfl rfl (by omega) (by omega))).mp h39
                  refine ww_aload_n C0 dX4_forgets_42 rfl ?_
                  refine ww_get C0 (ci := 4) (C := RX4) (T := TX4) (N := 14) ku_X4 0 rfl rfl 12 (by decide) kw_X4_65 rfl dX4_forgets_43 ?_
                  refine ww_iload C0 dX4_forgets_46 rfl ?_
                  refine ww_iload C0 dX4_forgets_48 rfl ?_
                  refine ww_if_ne (tgt := 57) C0 dX4_forgets_50 (by decide) (fun h50 => ?_) (fun h50 => ?_)
                  · skip
                    replace h50 := (not_congr (nI_eqE (a := 1) (b := 0) rfl rfl (by omega) (by omega))).mp h50
                    refine ww_iconst (v := (0)) C0 dX4_forgets_57 rfl ?_
                    refine ww_iast_n (j := 1) C0 22 0 rfl rfl rfl (by omega) (by decide) dX4_forgets_58 ?_
                    simp only [List.set_cons_zero, List.set_cons_succ]
                    refine ww_iinc (d := 1) C0 dX4_forgets_59 rfl rfl rfl ?_
                    simp only [List.set_cons_zero, List.set_cons_succ]
                    refine ww_goto (tgt := 32) C0 dX4_forgets_62 (by decide) ?_
                    refine ww_cong (lo' := [_, _, _, _, _, .int 2, _, _]) ?_ (by rfl) rfl rfl
                    refine ww_iload C0 dX4_forgets_32 rfl ?_
                    refine ww_aload_n C0 dX4_forgets_34 rfl ?_
                    refine ww_get C0 (ci := 4) (C := RX4) (T := TX4) (N := 14) ku_X4 0 rfl rfl 12 (by decide) kw_X4_65 rfl dX4_forgets_35 ?_
                    refine ww_alen (v := 6) C0 22 0 rfl rfl rfl dX4_forgets_38 ?_
                    refine ww_icmp_ge (tgt := 65) C0 dX4_forgets_39 (by decide) (fun h39 => ?_) (fun h39 => ?_)
                    · skip
                      replace h39 := (nI_leE (a := 6) (b := 2) rfl rfl (by omega) (by omega)).mp h39
                      exfalso; omega
                    · skip
                      replace h39 := (not_congr (nI_leE (a := 6) (b := 2) rfl rfl (by omega) (by omega))).mp h39
                      refine ww_aload_n C0 dX4_forgets_42 rfl ?_
                      refine ww_get C0 (ci := 4) (C := RX4) (T := TX4) (N := 14) ku_X4 0 rfl rfl 12 (by decide) kw_X4_65 rfl dX4_forgets_43 ?_
                      refine ww_iload C0 dX4_forgets_46 rfl ?_
                      refine ww_iload C0 dX4_forgets_48 rfl ?_
                      refine ww_if_ne (tgt := 57) C0 dX4_forgets_50 (by decide) (fun h50 => ?_) (fun h50 => ?_)
                      · skip
                        replace h50 := (not_congr (nI_eqE (a := 2) (b := 0) rfl rfl (by omega) (by omega))).mp h50
                        refine ww_iconst (v := (0)) C0 dX4_forgets_57 rfl ?_
                        refine ww_iast_n (j := 2) C0 22 0 rfl rfl rfl (by omega) (by decide) dX4_forgets_58 ?_
                        simp only [List.set_cons_zero, List.set_cons_succ]
                        refine ww_iinc (d := 1) C0 dX4_forgets_59 rfl rfl rfl ?_
                        simp only [List.set_cons_zero, List.set_cons_succ]
                        refine ww_goto (tgt := 32) C0 dX4_forgets_62 (by decide) ?_
                        refine ww_cong (lo' := [_, _, _, _, _, .int 3, _, _]) ?_ (by rfl) rfl rfl
                        refine ww_iload C0 dX4_forgets_32 rfl ?_
                        refine ww_aload_n C0 dX4_forgets_34 rfl ?_
                        refine ww_get C0 (ci := 4) (C := RX4) (T := TX4) (N := 14) ku_X4 0 rfl rfl 12 (by decide) kw_X4_65 rfl dX4_forgets_35 ?_
                        refine ww_alen (v := 6) C0 22 0 rfl rfl rfl dX4_forgets_38 ?_
                        refine ww_icmp_ge (tgt := 65) C0 dX4_forgets_39 (by decide) (fun h39 => ?_) (fun h39 => ?_)
                        · skip
                          replace h39 := (nI_leE (a := 6) (b := 3) rfl rfl (by omega) (by omega)).mp h39
                          exfalso; omega
                        · skip
                          replace h39 := (not_congr (nI_leE (a := 6) (b := 3) rfl rfl (by omega) (by omega))).mp h39
                          refine ww_aload_n C0 dX4_forgets_42 rfl ?_
                          refine ww_get C0 (ci := 4) (C := RX4) (T := TX4) (N := 14) ku_X4 0 rfl rfl 12 (by decide) kw_X4_65 rfl dX4_forgets_43 ?_
                          refine ww_iload C0 dX4_forgets_46 rfl ?_
                          refine ww_iload C0 dX4_forgets_48 rfl ?_
                          refine ww_if_ne (tgt := 57) C0 dX4_forgets_50 (by decide) (fun h50 => ?_) (fun h50 => ?_)
                          · skip
                            replace h50 := (not_congr (nI_eqE (a := 3) (b := 0) rfl rfl (by omega) (by omega))).mp h50
                            refine ww_iconst (v := (0)) C0 dX4_forgets_57 rfl ?_
                            refine ww_iast_n (j := 3) C0 22 0 rfl rfl rfl (by omega) (by decide) dX4_forgets_58 ?_
                            simp only [List.set_cons_zero, List.set_cons_succ]
                            refine ww_iinc (d := 1) C0 dX4_forgets_59 rfl rfl rfl ?_
                            simp only [List.set_cons_zero, List.set_cons_succ]
                            refine ww_goto (tgt := 32) C0 dX4_forgets_62 (by decide) ?_
                            refine ww_cong (lo' := [_, _, _, _, _, .int 4, _, _]) ?_ (by rfl) rfl rfl
                            refine ww_iload C0 dX4_forgets_32 rfl ?_
                            refine ww_aload_n C0 dX4_forgets_34 rfl ?_
                            refine ww_get C0 (ci := 4) (C := RX4) (T := TX4) (N := 14) ku_X4 0 rfl rfl 12 (by decide) kw_X4_65 rfl dX4_forgets_35 ?_
                            refine ww_alen (v := 6) C0 22 0 rfl rfl rfl dX4_forgets_38 ?_
                            refine ww_icmp_ge (tgt := 65) C0 dX4_forgets_39 (by decide) (fun h39 => ?_) (fun h39 => ?_)
                            · skip
                              replace h39 := (nI_leE (a := 6) (b := 4) rfl rfl (by omega) (by omega)).mp h39
                              exfalso; omega
                            · skip
                              replace h39 := (not_congr (nI_leE (a := 6) (b := 4) rfl rfl (by omega) (by omega))).mp h39
                              refine ww_aload_n C0 dX4_forgets_42 rfl ?_
                              refine ww_get C0 (ci := 4) (C := RX4) (T := TX4) (N := 14) ku_X4 0 rfl rfl 12 (by decide) kw_X4_65 rfl dX4_forgets_43 ?_
                              refine ww_iload C0 dX4_forgets_46 rfl ?_
                              refine ww_iload C0 dX4_forgets_48 rfl ?_
                              refine ww_if_ne (tgt := 57) C0 dX4_forgets_50 (by decide) (fun h50 => ?_) (fun h50 => ?_)
                              · skip
                                replace h50 := (not_congr (nI_eqE (a := 4) (b := 0) rfl rfl (by omega) (by omega))).mp h50
                                refine ww_iconst (v := (0)) C0 dX4_forgets_57 rfl ?_
                                refine ww_iast_n (j := 4) C0 22 0 rfl rfl rfl (by omega) (by decide) dX4_forgets_58 ?_
                                simp only [List.set_cons_zero, List.set_cons_succ]
                                refine ww_iinc (d := 1) C0 dX4_forgets_59 rfl rfl rfl ?_
                                simp only [List.set_cons_zero, List.set_cons_succ]
                                refine ww_goto (tgt := 32) C0 dX4_forgets_62 (by decide) ?_
                                refine ww_cong (lo' := [_, _, _, _, _, .int 5, _, _]) ?_ (by rfl) rfl rfl
                                refine ww_iload C0 dX4_forgets_32 rfl ?_
                                refine ww_aload_n C0 dX4_forgets_34 rfl ?_
                                refine ww_get C0 (ci := 4) (C := RX4) (T := TX4) (N := 14) ku_X4 0 rfl rfl 12 (by decide) kw_X4_65 rfl dX4_forgets_35 ?_
                                refine ww_alen (v := 6) C0 22 0 rfl rfl rfl dX4_forgets_38 ?_
                                refine ww_icmp_ge (tgt := 65) C0 dX4_forgets_39 (by decide) (fun h39 => ?_) (fun h39 => ?_)
                                · skip
                                  replace h39 := (nI_leE (a := 6) (b := 5) rfl rfl (by omega) (by omega)).mp h39
                                  exfalso; omega
                                · skip
                                  replace h39 := (not_congr (nI_leE (a := 6) (b := 5) rfl rfl (by omega) (by omega))).mp h39
                                  refine ww_aload_n C0 dX4_forgets_42 rfl ?_
                                  refine ww_get C0 (ci := 4) (C := RX4) (T := TX4) (N := 14) ku_X4 0 rfl rfl 12 (by decide) kw_X4_65 rfl dX4_forgets_43 ?_
                                  refine ww_iload C0 dX4_forgets_46 rfl ?_
                                  refine ww_iload C0 dX4_forgets_48 rfl ?_
                                  refine ww_if_ne (tgt := 57) C0 dX4_forgets_50 (by decide) (fun h50 => ?_) (fun h50 => ?_)
                                  · skip
                                    replace h50 := (not_congr (nI_eqE (a := 5) (b := 0) rfl rfl (by omega) (by omega))).mp h50
                                    refine ww_iconst (v := (0)) C0 dX4_forgets_57 rfl ?_
                                    refine ww_iast_n (j := 5) C0 22 0 rfl rfl rfl (by omega) (by decide) dX4_forgets_58 ?_
                                    simp only [List.set_cons_zero, List.set_cons_succ]
                                    refine ww_iinc (d := 1) C0 dX4_forgets_59 rfl rfl rfl ?_
                                    simp only [List.set_cons_zero, List.set_cons_succ]
                                    refine ww_goto (tgt := 32) C0 dX4_forgets_62 (by decide) ?_
                                    refine ww_cong (lo' := [_, _, _, _, _, .int 6, _, _]) ?_ (by rfl) rfl rfl
                                    refine ww_iload C0 dX4_forgets_32 rfl ?_
                                    refine ww_aload_n C0 dX4_forgets_34 rfl ?_
                                    refine ww_get C0 (ci := 4) (C := RX4) (T := TX4) (N := 14) ku_X4 0 rfl rfl 12 (by decide) kw_X4_65 rfl dX4_forgets_35 ?_
                                    refine ww_alen (v := 6) C0 22 0 rfl rfl rfl dX4_forgets_38 ?_
                                    refine ww_icmp_ge (tgt := 65) C0 dX4_forgets_39 (by decide) (fun h39 => ?_) (fun h39 => ?_)
                                    · skip
                                      replace h39 := (nI_leE (a := 6) (b := 6) rfl rfl (by omega) (by omega)).mp h39
                                      refine ww_arr 22 (sTal (fun o => sTenths (sFF nm na fl0 fl1 fl2 fC fn0 o (fn0 o) wa hN) (sKnown na (fn1 o) (fn2 o)) (sKnown na (fn1 o) 0) (nI x)) 0) rfl (fun k hk => by
                                        rcases (show k = 0 ∨ k = 1 ∨ k = 2 ∨ k = 3 ∨ k = 4 ∨ k = 5 by omega) with rfl | rfl | rfl | rfl | rfl | rfl <;> simp [upd, sTal]) ?_
                                      simp only [List.set_cons_zero, List.set_cons_succ]
                                      refine ww_iconst (v := (1)) C0 dX4_forgets_65 rfl ?_
                                      refine ww_istore (i := 5) C0 dX4_forgets_66 (Nat.le_of_ble_eq_true rfl) rfl ?_
                                      simp only [List.set_cons_zero, List.set_cons_succ]
                                      refine ww_iconst (v := (0)) C0 dX4_forgets_68 rfl ?_
                                      refine ww_istore (i := 6) C0 dX4_forgets_69 (Nat.le_of_ble_eq_true rfl) rfl ?_
                                      simp only [List.set_cons_zero, List.set_cons_succ]
                                      refine ww_back (ww_loop (pc := 71) 0 (nm) (by omega) (fun j => [_, _, _, _, _, .int (nI (10 ^ j)), .int (nI j), _]) (fun j => (aX, .inr (4, [.ref aT, .ref aL, .ref aC, .int (nI nm), .ref aN, .ref aY, .ref aA, .int (nI fa), .int (nI ac), .ref aO, .ref aK, .ref aG, .ref aW, .long sd])) :: (aL, .inr (0, [.ref al0, .ref al1, .ref al2, .int (nI na)])) :: (al0, .inl (cI, 5, .inl (fl0))) :: (al1, .inl (cI, 5, .inl (fl1))) :: (al2, .inl (cI, 5, .inl (fl2))) :: (aC, .inl (cI, 5, .inl (fC))) :: (aN, .inr (2, [.ref an0, .ref an1, .ref an2, .int hN, .int bN])) :: (an0, .inl (cI, 5, .inl (fn0))) :: (an1, .inl (cI, 5, .inl (fn1))) :: (an2, .inl (cI, 5, .inl (fn2))) :: (aY, .inr (2, [.ref ay0, .ref ay1, .ref ay2, .int hY, .int bY])) :: (ay0, .inl (cI, 5, .inl (fy0))) :: (ay1, .inl (cI, 5, .inl (fy1))) :: (ay2, .inl (cI, 5, .inl (fy2))) :: (aT, .inr (3, [.ref at0, .int (nI tn)])) :: (at0, .inl (cI, 48, .inl (ft0))) :: (aG, .inr (1, [.ref ag0, .ref ag1, .ref ag2, .ref ag3, .ref ag4, .int (nI gn)])) :: (ag0, .inl (cI, 6, .inl (fg0))) :: (ag1, .inl (cI, 6, .inl (fg1))) :: (ag2, .inl (cI, 6, .inl (fg2))) :: (ag3, .inl (cI, 6, .inl (fg3))) :: (ag4, .inl (cI, 6, .inl (fg4))) :: (aW, .inl (cI, 6, .inl (sTal (fun o => sTenths (sFF nm na fl0 fl1 fl2 fC fn0 o (fn0 o) wa hN) (sKnown na (fn1 o) (fn2 o)) (sKnown na (fn1 o) 0) (nI x)) j))) :: rest) ?_ ?_) ⟨Or.inr rfl, Or.inr rfl, Or.inr rfl, Or.inr rfl, Or.inr rfl, Or.inr rfl, Or.inr rfl, Or.inr rfl, trivial⟩ (by rfl)
                                      · intro j hj0 hj ih
                                        refine ww_iload C0 dX4_forgets_71 rfl ?_
                                        refine ww_aload_n C0 dX4_forgets_73 rfl ?_
                                        refine ww_get C0 (ci := 4) (C := RX4) (T := TX4) (N := 14) ku_X4 0 rfl rfl 3 (by decide) kw_X4_27 rfl dX4_forgets_74 ?_
                                        refine ww_icmp_ge (tgt := 105) C0 dX4_forgets_77 (by decide) (fun h77 => ?_) (fun h77 => ?_)
                                        · skip
                                          replace h77 := (nI_leE (a := nm) (b := j) rfl rfl (by omega) (by omega)).mp h77
                                          exfalso; omega
                                        · skip
                                          replace h77 := (not_congr (nI_leE (a := nm) (b := j) rfl rfl (by omega) (by omega))).mp h77
                                          refine ww_aload_n C0 dX4_forgets_80 rfl ?_
                                          refine ww_aload_n C0 dX4_forgets_81 rfl ?_
                                          refine ww_iload C0 dX4_forgets_82 rfl ?_
                                          refine ww_iload_n C0 dX4_forgets_84 rfl ?_
                                          refine ww_iload_n C0 dX4_forgets_85 rfl ?_
                                          refine ww_callVi C0 (qc := (RX4, TX4, 14)) 0 4 (c_X4_tenthsToBalk l D cI cZ cQ hnm hna hj) kd_X4_tenthsToBalk kw_X4_206 km_X4_tenthsToBalk kl_X4_tenthsToBalk ki_X4 hd_X4_tenthsToBalk rfl rfl ⟨Nat.le_of_ble_eq_true rfl, Nat.le_of_ble_eq_true rfl, rfl, rfl⟩ (Nat.le_of_ble_eq_true rfl) dX4_forgets_86 rfl rfl rfl ⟨Nat.zero_le _, Nat.zero_le _⟩ ?_
                                          refine ww_callVv C0 (qc := (RX4, TX4, 14)) 0 4 (c_X4_tallyMule l D cI cZ cQ) kd_X4_tallyMule kw_X4_210 km_X4_tallyMule kl_X4_tallyMule ki_X4 hd_X4_tallyMule rfl rfl ⟨Nat.le_of_ble_eq_true rfl, Nat.le_of_ble_eq_true rfl, rfl, rfl⟩ (Nat.le_of_ble_eq_true rfl) dX4_forgets_89 rfl rfl rfl ⟨Nat.zero_le _, Nat.zero_le _⟩ ?_
                                          refine ww_iload C0 dX4_forgets_92 rfl ?_
                                          refine ww_bipush (v := (10)) C0 dX4_forgets_94 rfl ?_
                                          refine ww_imul C0 dX4_forgets_96 ?_
                                          refine ww_istore (i := 5) C0 dX4_forgets_97 (Nat.le_of_ble_eq_true rfl) rfl ?_
                                          simp only [List.set_cons_zero, List.set_cons_succ]
                                          refine ww_iinc (d := 1) C0 dX4_forgets_99 rfl rfl rfl ?_
                                          simp only [List.set_cons_zero, List.set_cons_succ]
                                          refine ww_goto (tgt := 71) C0 dX4_forgets_102 (by decide) ?_
                                          exact ww_back ih ⟨Or.inr rfl, Or.inr rfl, Or.inr rfl, Or.inr rfl, Or.inr rfl, Or.inr (congrArg Value.int (by rw [Nat.pow_succ]; exact (nI_mulE rfl rfl).symm)), Or.inr (congrArg Value.int (nI_addE (a := j) (b := 1) rfl rfl).symm), Or.inr rfl, trivial⟩ (by rfl)
                                      · skip
                                        refine ww_iload C0 dX4_forgets_71 rfl ?_
                                        refine ww_aload_n C0 dX4_forgets_73 rfl ?_
                                        refine ww_get C0 (ci := 4) (C := RX4) (T := TX4) (N := 14) ku_X4 0 rfl rfl 3 (by decide) kw_X4_27 rfl dX4_forgets_74 ?_
                                        refine ww_icmp_ge (tgt := 105) C0 dX4_forgets_77 (by decide) (fun h77 => ?_) (fun h77 => ?_)
                                        · skip
                                          replace h77 := (nI_leE (a := nm) (b := nm) rfl rfl (by omega) (by omega)).mp h77
                                          refine ww_iconst (v := (0)) C0 dX4_forgets_105 rfl ?_
                                          refine ww_istore (i := 6) C0 dX4_forgets_106 (Nat.le_of_ble_eq_true rfl) rfl ?_
                                          simp only [List.set_cons_zero, List.set_cons_succ]
                                          refine ww_iload_n C0 dX4_forgets_108 rfl ?_
                                          refine ww_istore (i := 7) C0 dX4_forgets_109 (Nat.le_of_ble_eq_true rfl) rfl ?_
                                          simp only [List.set_cons_zero, List.set_cons_succ]
                                          refine ww_back (ww_loop (pc := 111) mm (6) (by omega) (fun j => [_, _, _, _, _, _, .int (sumFrom (sTal (fun o => sTenths (sFF nm na fl0 fl1 fl2 fC fn0 o (fn0 o) wa hN) (sKnown na (fn1 o) (fn2 o)) (sKnown na (fn1 o) 0) (nI x)) nm) mm (j - mm)), .int (nI j)]) (fun j => _) ?_ ?_) ⟨Or.inr rfl, Or.inr rfl, Or.inr rfl, Or.inr rfl, Or.inr rfl, Or.inr rfl, Or.inr (by rw [Nat.sub_self]; rfl), Or.inr rfl, trivial⟩ (by rfl)
                                          · intro j hj0 hj ih
                                            refine ww_iload C0 dX4_forgets_111 rfl ?_
                                            refine ww_aload_n C0 dX4_forgets_113 rfl ?_
                                            refine ww_get C0 (ci := 4) (C := RX4) (T := TX4) (N := 14) ku_X4 0 rfl rfl 12 (by decide) kw_X4_65 rfl dX4_forgets_114 ?_
                                            refine ww_alen (v := 6) C0 22 0 rfl rfl rfl dX4_forgets_117 ?_
                                            refine ww_icmp_ge (tgt := 139) C0 dX4_forgets_118 (by decide) (fun h118 => ?_) (fun h118 => ?_)
                                            · skip
                                              replace h118 := (nI_leE (a := 6) (b := j) rfl rfl (by omega) (by omega)).mp h118
                                              exfalso; omega
                                            · skip
                                              replace h118 := (not_congr (nI_leE (a := 6) (b := j) rfl rfl (by omega) (by omega))).mp h118
                                              refine ww_iload C0 dX4_forgets_121 rfl ?_
                                              refine ww_aload_n C0 dX4_forgets_123 rfl ?_
                                              refine ww_get C0 (ci := 4) (C := RX4) (T := TX4) (N := 14) ku_X4 0 rfl rfl 12 (by decide) kw_X4_65 rfl dX4_forgets_124 ?_
                                              refine ww_iload C0 dX4_forgets_127 rfl ?_
                                              refine ww_iald_n (j := j) C0 22 0 rfl rfl rfl (by omega) (by decide) dX4_forgets_129 ?_
                                              refine ww_iadd C0 dX4_forgets_130 ?_
                                              refine ww_istore (i := 6) C0 dX4_forgets_131 (Nat.le_of_ble_eq_true rfl) rfl ?_
                                              simp only [List.set_cons_zero, List.set_cons_succ]
                                              refine ww_iinc (d := 1) C0 dX4_forgets_133 rfl rfl rfl ?_
                                              simp only [List.set_cons_zero, List.set_cons_succ]
                                              refine ww_goto (tgt := 111) C0 dX4_forgets_136 (by decide) ?_
                                              exact ww_back ih ⟨Or.inr rfl, Or.inr rfl, Or.inr rfl, Or.inr rfl, Or.inr rfl, Or.inr rfl, Or.inr (congrArg Value.int (by rw [show j + 1 - mm = (j - mm) + 1 by omega, sumFrom, show mm + (j - mm) = j by omega])), Or.inr (congrArg Value.int (nI_addE (a := j) (b := 1) rfl rfl).symm), trivial⟩ (by rfl)
                                          · skip
                                            refine ww_iload C0 dX4_forgets_111 rfl ?_
                                            refine ww_aload_n C0 dX4_forgets_113 rfl ?_
                                            refine ww_get C0 (ci := 4) (C := RX4) (T := TX4) (N := 14) ku_X4 0 rfl rfl 12 (by decide) kw_X4_65 rfl dX4_forgets_114 ?_
                                            refine ww_alen (v := 6) C0 22 0 rfl rfl rfl dX4_forgets_117 ?_
                                            refine ww_icmp_ge (tgt := 139) C0 dX4_forgets_118 (by decide) (fun h118 => ?_) (fun h118 => ?_)
                                            · skip
                                              replace h118 := (nI_leE (a := 6) (b := 6) rfl rfl (by omega) (by omega)).mp h118
                                              refine ww_iload C0 dX4_forgets_139 rfl ?_
                                              refine ww_top hZ ?_
                                              refine ww_iload C0 dX4_forgets_141 rfl ?_
                                              refine ww_iload C0 dX4_forgets_143 rfl ?_
                                              refine ww_callSi C0 (c_X4_fractionPart l D cI cZ cQ hZb (by have := pw10 hnm; omega) (Nat.pow_pos (by decide))) kd_X4_fractionPart kw_X4_185 ks_X4_fractionPart ki_X4 hd_X4_fractionPart ⟨Nat.le_of_ble_eq_true rfl, Nat.le_of_ble_eq_true rfl, rfl, rfl⟩ (Nat.le_of_ble_eq_true rfl) dX4_forgets_145 rfl rfl ⟨Nat.zero_le _, Nat.zero_le _⟩ ?_
                                              exact ww_iret C0 hr dX4_forgets_148 (by rfl) (by rfl)
                                            · skip
                                              replace h118 := (not_congr (nI_leE (a := 6) (b := 6) rfl rfl (by omega) (by omega))).mp h118
                                              exfalso; omega
                                        · skip
                                          replace h77 := (not_congr (nI_leE (a := nm) (b := nm) rfl rfl (by omega) (by omega))).mp h77
                                          exfalso; omega
                                    · skip
                                      replace h39 := (not_congr (nI_leE (a := 6) (b := 6) rfl rfl (by omega) (by omega))).mp h39
                                      exfalso; omega
                                  · skip
                                    replace h50 := (nI_eqE (a := 5) (b := 0) rfl rfl (by omega) (by omega)).mp h50
                                    exfalso; omega
                              · skip
                                replace h50 := (nI_eqE (a := 4) (b := 0) rfl rfl (by omega) (by omega)).mp h50
                                exfalso; omega
                          · skip
                            replace h50 := (nI_eqE (a := 3) (b := 0) rfl rfl (by omega) (by omega)).mp h50
                            exfalso; omega
                      · skip
                        replace h50 := (nI_eqE (a := 2) (b := 0) rfl rfl (by omega) (by omega)).mp h50
                        exfalso; omega
                  · skip
                    replace h50 := (nI_eqE (a := 1) (b := 0) rfl rfl (by omega) (by omega)).mp h50
                    exfalso; omega
          · skip
            replace h23 := (not_congr (nI_leE (a := x) (b := 10) rfl rfl (by omega) (by omega))).mp h23
            exfalso; omega

set_option maxHeartbeats 4000000 in
set_option maxRecDepth 100000 in
theorem c_X4_seed (l : Launch) (D : va_G) (cI cZ cQ : ClassId) {aX aT aL aC aN aY aA aO aK aG aW : Nat} {nm fa ac : Nat} {sd : Int64} {rest : va_W} {v : Int64} : ML l D [(cI, .int), (cZ, .boolean), (cQ, .object "MulesRemember$State")] yX4_seed cX4_seed 5 ({ frames := 0, cells := 0, slots := 0, locals := 0 } : Room) [.ref aX, .long v] ((aX, .inr (4, [.ref aT, .ref aL, .ref aC, .int (nI nm), .ref aN, .ref aY, .ref aA, .int (nI fa), .int (nI ac), .ref aO, .ref aK, .ref aG, .ref aW, .long sd])) :: rest) (sd) ((aX, .inr (4, [.ref aT, .ref aL, .ref aC, .int (nI nm), .ref aN, .ref aY, .ref aA, .int (nI fa), .int (nI ac), .ref aO, .ref aK, .ref aG, .ref aW, .long v])) :: rest) := by
  refine ML.of [.ref aX, .long v, .null, .null, .null] (by decide) (Nat.le_of_ble_eq_true rfl) rfl ?_
  intro p e s m below meth c A C0 hr
  refine ww_aload_n C0 dX4_seed_0 rfl ?_
  refine ww_get C0 (ci := 4) (C := RX4) (T := TX4) (N := 14) ku_X4 0 rfl rfl 13 (by decide) kw_X4_68 rfl dX4_seed_1 ?_
  refine ww_lstore_n (i := 3) C0 dX4_seed_4 rfl (Nat.le_of_ble_eq_true rfl) rfl ?_
  simp only [List.set_cons_zero, List.set_cons_succ]
  refine ww_aload_n C0 dX4_seed_5 rfl ?_
  refine ww_lload_n C0 dX4_seed_6 rfl ?_
  refine ww_put C0 (ci := 4) (C := RX4) (T := TX4) (N := 14) ku_X4 0 rfl rfl 13 (by decide) tyX4 tyX4_ok nmX4 kw_X4_68 rfl (ty := .long) (by decide +kernel) rfl rfl (Nat.le_of_ble_eq_true rfl) dX4_seed_7 ?_
  simp only [List.set_cons_zero, List.set_cons_succ]
  refine ww_lload_n C0 dX4_seed_10 rfl ?_
  exact ww_lret C0 hr dX4_seed_11 (by rfl) (by rfl)

set_option maxHeartbeats 4000000 in
set_option maxRecDepth 100000 in
theorem c_X4_years_b (l : Launch) (D : va_G) (cI cZ cQ : ClassId) {rest : va_W} {aX : Nat} {n : Int32} (hb : n < 1 ∨ 30 < n) : MI l D [(cI, .int), (cZ, .boolean), (cQ, .object "MulesRemember$State")] yX4_years cX4_years 4 .int ({ frames := 6, cells := 0, slots := 0, locals := 149 } : Room) [.ref aX, .int n] (rest) (-2) (rest) := by
  refine MI.of [.ref aX, .int n, .null, .null] (by decide) (Nat.le_of_ble_eq_true rfl) rfl ?_
  intro p e s m below meth c A C0 hr
  refine ww_iload_n C0 dX4_years_0 rfl ?_
  refine ww_iconst (v := (1)) C0 dX4_years_1 rfl ?_
  refine ww_icmp_lt (tgt := 11) C0 dX4_years_2 (by decide) (fun h2 => ?_) (fun h2 => ?_)
  · skip
    refine ww_bipush (v := (-2)) C0 dX4_years_11 rfl ?_
    exact ww_iret C0 hr dX4_years_13 (by rfl) (by rfl)
  · skip
    refine ww_iload_n C0 dX4_years_5 rfl ?_
    refine ww_bipush (v := (30)) C0 dX4_years_6 rfl ?_
    refine ww_icmp_le (tgt := 14) C0 dX4_years_8 (by decide) (fun h8 => ?_) (fun h8 => ?_)
    · skip
      rcases hb with hb | hb
      · exact absurd hb h2
      · exact absurd hb (i32_nlt.mpr h8)
    · skip
      refine ww_bipush (v := (-2)) C0 dX4_years_11 rfl ?_
      exact ww_iret C0 hr dX4_years_13 (by rfl) (by rfl)

set_option maxHeartbeats 4000000 in
set_option maxRecDepth 100000 in
theorem c_X4_years (l : Launch) (D : va_G) (cI cZ cQ : ClassId) {aX aT aL aC aN aY aA aO aK aG aW al0 al1 al2 an0 an1 an2 ay0 ay1 ay2 : Nat} {nm fa ac na : Nat} {hN bN hY bY : Int32} {sd : Int64} {fl0 fl1 fl2 fC fn0 fn1 fn2 fy0 fy1 fy2 : Nat → Int32} {rest : va_W} {n : Nat} (hnm : nm ≤ 5) (hna : na ≤ 5) (hn1 : 1 ≤ n) (hn2 : n ≤ 30) : MI l D [(cI, .int), (cZ, .boolean), (cQ, .object "MulesRemember$State")] yX4_years cX4_years 4 .int ({ frames := 6, cells := 0, slots := 0, locals := 149 } : Room) [.ref aX, .int (nI n)] ((aX, .inr (4, [.ref aT, .ref aL, .ref aC, .int (nI nm), .ref aN, .ref aY, .ref aA, .int (nI fa), .int (nI ac), .ref aO, .ref aK, .ref aG, .ref aW, .long sd])) :: (aL, .inr (0, [.ref al0, .ref al1, .ref al2, .int (nI na)])) :: (al0, .inl (cI, 5, .inl (fl0))) :: (al1, .inl (cI, 5, .inl (fl1))) :: (al2, .inl (cI, 5, .inl (fl2))) :: (aC, .inl (cI, 5, .inl (fC))) :: (aN, .inr (2, [.ref an0, .ref an1, .ref an2, .int hN, .int bN])) :: (an0, .inl (cI, 5, .inl (fn0))) :: (an1, .inl (cI, 5, .inl (fn1))) :: (an2, .inl (cI, 5, .inl (fn2))) :: (aY, .inr (2, [.ref ay0, .ref ay1, .ref ay2, .int hY, .int bY])) :: (ay0, .inl (cI, 5, .inl (fy0))) :: (ay1, .inl (cI, 5, .inl (fy1))) :: (ay2, .inl (cI, 5, .inl (fy2))) :: rest) ((sYears nm na fl0 fl1 fl2 fC sd (fn0, fn1, fn2, hN, bN) n).2.2.2.2.2 - bN) ((aX, .inr (4, [.ref aT, .ref aL, .ref aC, .int (nI nm), .ref aN, .ref aY, .ref aA, .int (nI fa), .int (nI ac), .ref aO, .ref aK, .ref aG, .ref aW, .long (sYears nm na fl0 fl1 fl2 fC sd (fn0, fn1, fn2, hN, bN) n).1])) :: (aL, .inr (0, [.ref al0, .ref al1, .ref al2, .int (nI na)])) :: (al0, .inl (cI, 5, .inl (fl0))) :: (al1, .inl (cI, 5, .inl (fl1))) :: (al2, .inl (cI, 5, .inl (fl2))) :: (aC, .inl (cI, 5, .inl (fC))) :: (aN, .inr (2, [.ref an0, .ref an1, .ref an2, .int hN, .int bN])) :: (an0, .inl (cI, 5, .inl (fn0))) :: (an1, .inl (cI, 5, .inl (fn1))) :: (an2, .inl (cI, 5, .inl (fn2))) :: (aY, .inr (2, [.ref ay0, .ref ay1, .ref ay2, .int (sYears nm na fl0 fl1 fl2 fC sd (fn0, fn1, fn2, hN, bN) n).2.2.2.2.1, .int (sYears nm na fl0 fl1 fl2 fC sd (fn0, fn1, fn2, hN, bN) n).2.2.2.2.2])) :: (ay0, .inl (cI, 5, .inl ((sYears nm na fl0 fl1 fl2 fC sd (fn0, fn1, fn2, hN, bN) n).2.1))) :: (ay1, .inl (cI, 5, .inl ((sYears nm na fl0 fl1 fl2 fC sd (fn0, fn1, fn2, hN, bN) n).2.2.1))) :: (ay2, .inl (cI, 5, .inl ((sYears nm na fl0 fl1 fl2 fC sd (fn0, fn1, fn2, hN, bN) n).2.2.2.1))) :: rest) := by
  refine MI.of [.ref aX, .int (nI n), .null, .null] (by decide) (Nat.le_of_ble_eq_true rfl) rfl ?_
  intro p e s m below meth c A C0 hr
  refine ww_iload_n C0 dX4_years_0 rfl ?_
  refine ww_iconst (v := (1)) C0 dX4_years_1 rfl ?_
  refine ww_icmp_lt (tgt := 11) C0 dX4_years_2 (by decide) (fun h2 => ?_) (fun h2 => ?_)
  · skip
    replace h2 := (nI_ltE (a := n) (b := 1) rfl rfl (by omega) (by omega)).mp h2
    exfalso; omega
  · skip
    replace h2 := (not_congr (nI_ltE (a := n) (b := 1) rfl rfl (by omega) (by omega))).mp h2
    refine ww_iload_n C0 dX4_years_5 rfl ?_
    refine ww_bipush (v := (30)) C0 dX4_years_6 rfl ?_
    refine ww_icmp_le (tgt := 14) C0 dX4_years_8 (by decide) (fun h8 => ?_) (fun h8 => ?_)
    · skip
      replace h8 := (nI_leE (a := n) (b := 30) rfl rfl (by omega) (by omega)).mp h8
      refine ww_aload_n C0 dX4_years_14 rfl ?_
      refine ww_get C0 (ci := 4) (C := RX4) (T := TX4) (N := 14) ku_X4 0 rfl rfl 4 (by decide) kw_X4_34 rfl dX4_years_15 ?_
      refine ww_aload_n C0 dX4_years_18 rfl ?_
      refine ww_get C0 (ci := 4) (C := RX4) (T := TX4) (N := 14) ku_X4 0 rfl rfl 5 (by decide) kw_X4_38 rfl dX4_years_19 ?_
      refine ww_perm (perm_mv 0 6 8 _) ?_
      simp only [List.drop_succ_cons, List.drop_zero, List.take_succ_cons, List.take_zero, List.cons_append, List.nil_append, Nat.reduceAdd]
      refine ww_callSv C0 (c_X4_copyState l D cI cZ cQ) kd_X4_copyState kw_X4_161 ks_X4_copyState ki_X4 hd_X4_copyState ⟨Nat.le_of_ble_eq_true rfl, Nat.le_of_ble_eq_true rfl, rfl, rfl⟩ (Nat.le_of_ble_eq_true rfl) dX4_years_22 rfl rfl ⟨Nat.zero_le _, Nat.zero_le _⟩ ?_
      refine ww_perm (perm_mv 0 8 6 _) ?_
      simp only [List.drop_succ_cons, List.drop_zero, List.take_succ_cons, List.take_zero, List.cons_append, List.nil_append, Nat.reduceAdd]
      refine ww_iconst (v := (0)) C0 dX4_years_25 rfl ?_
      refine ww_istore_n (i := 2) C0 dX4_years_26 rfl (Nat.le_of_ble_eq_true rfl) rfl ?_
      simp only [List.set_cons_zero, List.set_cons_succ]
      refine ww_back (ww_loop (pc := 27) 0 (n) (by omega) (fun j => [_, _, .int (nI j), .null]) (fun j => (aX, .inr (4, [.ref aT, .ref aL, .ref aC, .int (nI nm), .ref aN, .ref aY, .ref aA, .int (nI fa), .int (nI ac), .ref aO, .ref aK, .ref aG, .ref aW, .long (sYears nm na fl0 fl1 fl2 fC sd (fn0, fn1, fn2, hN, bN) j).1])) :: (aL, .inr (0, [.ref al0, .ref al1, .ref al2, .int (nI na)])) :: (al0, .inl (cI, 5, .inl (fl0))) :: (al1, .inl (cI, 5, .inl (fl1))) :: (al2, .inl (cI, 5, .inl (fl2))) :: (aC, .inl (cI, 5, .inl (fC))) :: (aN, .inr (2, [.ref an0, .ref an1, .ref an2, .int hN, .int bN])) :: (an0, .inl (cI, 5, .inl (fn0))) :: (an1, .inl (cI, 5, .inl (fn1))) :: (an2, .inl (cI, 5, .inl (fn2))) :: (aY, .inr (2, [.ref ay0, .ref ay1, .ref ay2, .int (sYears nm na fl0 fl1 fl2 fC sd (fn0, fn1, fn2, hN, bN) j).2.2.2.2.1, .int (sYears nm na fl0 fl1 fl2 fC sd (fn0, fn1, fn2, hN, bN) j).2.2.2.2.2])) :: (ay0, .inl (cI, 5, .inl ((sYears nm na fl0 fl1 fl2 fC sd (fn0, fn1, fn2, hN, bN) j).2.1))) :: (ay1, .inl (cI, 5, .inl ((sYears nm na fl0 fl1 fl2 fC sd (fn0, fn1, fn2, hN, bN) j).2.2.1))) :: (ay2, .inl (cI, 5, .inl ((sYears nm na fl0 fl1 fl2 fC sd (fn0, fn1, fn2, hN, bN) j).2.2.2.1))) :: rest) ?_ ?_) ⟨Or.inr rfl, Or.inr rfl, Or.inr rfl, Or.inl rfl, trivial⟩ (by rfl)
      · intro j hj0 hj ih
        refine ww_iload_n C0 dX4_years_27 rfl ?_
        refine ww_iload_n C0 dX4_years_28 rfl ?_
        refine ww_icmp_ge (tgt := 81) C0 dX4_years_29 (by decide) (fun h29 => ?_) (fun h29 => ?_)
        · skip
          replace h29 := (nI_leE (a := n) (b := j) rfl rfl (by omega) (by omega)).mp h29
          exfalso; omega
        · skip
          replace h29 := (not_congr (nI_leE (a := n) (b := j) rfl rfl (by omega) (by omega))).mp h29
          refine ww_aload_n C0 dX4_years_32 rfl ?_
          refine ww_aload_n C0 dX4_years_33 rfl ?_
          refine ww_get C0 (ci := 4) (C := RX4) (T := TX4) (N := 14) ku_X4 0 rfl rfl 13 (by decide) kw_X4_68 rfl dX4_years_34 ?_
          refine ww_ldc2 C0 kw_X4_213 dX4_years_37 ?_
          refine ww_lmul C0 dX4_years_40 ?_
          refine ww_ldc2 C0 kw_X4_215 dX4_years_41 ?_
          refine ww_ladd C0 dX4_years_44 ?_
          refine ww_put C0 (ci := 4) (C := RX4) (T := TX4) (N := 14) ku_X4 0 rfl rfl 13 (by decide) tyX4 tyX4_ok nmX4 kw_X4_68 rfl (ty := .long) (by decide +kernel) rfl rfl (Nat.le_of_ble_eq_true rfl) dX4_years_45 ?_
          simp only [List.set_cons_zero, List.set_cons_succ]
          refine ww_aload_n C0 dX4_years_48 rfl ?_
          refine ww_get C0 (ci := 4) (C := RX4) (T := TX4) (N := 14) ku_X4 0 rfl rfl 13 (by decide) kw_X4_68 rfl dX4_years_49 ?_
          refine ww_bipush (v := (33)) C0 dX4_years_52 rfl ?_
          refine ww_lushr C0 dX4_years_54 ?_
          refine ww_ldc2 C0 kw_X4_217 dX4_years_55 ?_
          refine ww_lrem C0 dX4_years_58 (by decide) ?_
          refine ww_l2i C0 dX4_years_59 ?_
          refine ww_istore_n (i := 3) C0 dX4_years_60 rfl (Nat.le_of_ble_eq_true rfl) rfl ?_
          simp only [List.set_cons_zero, List.set_cons_succ]
          refine ww_aload_n C0 dX4_years_61 rfl ?_
          refine ww_aload_n C0 dX4_years_62 rfl ?_
          refine ww_get C0 (ci := 4) (C := RX4) (T := TX4) (N := 14) ku_X4 0 rfl rfl 5 (by decide) kw_X4_38 rfl dX4_years_63 ?_
          refine ww_iload_n C0 dX4_years_66 rfl ?_
          refine ww_iconst (v := (2)) C0 dX4_years_67 rfl ?_
          refine ww_idiv C0 dX4_years_68 (by decide) ?_
          refine ww_iload_n C0 dX4_years_69 rfl ?_
          refine ww_iconst (v := (2)) C0 dX4_years_70 rfl ?_
          refine ww_irem C0 dX4_years_71 (by decide) ?_
          refine ww_perm (perm_mv 6 4 4 _) ?_
          simp only [List.drop_succ_cons, List.drop_zero, List.take_succ_cons, List.take_zero, List.cons_append, List.nil_append, Nat.reduceAdd]
          refine ww_callVv C0 (qc := (RX4, TX4, 14)) 0 4 (c_X4_liveThrough l D cI cZ cQ hnm hna) kd_X4_liveThrough kw_X4_219 km_X4_liveThrough kl_X4_liveThrough ki_X4 hd_X4_liveThrough rfl rfl ⟨Nat.le_of_ble_eq_true rfl, Nat.le_of_ble_eq_true rfl, rfl, rfl⟩ (Nat.le_of_ble_eq_true rfl) dX4_years_72 rfl rfl rfl ⟨Nat.zero_le _, Nat.zero_le _⟩ ?_
          refine ww_perm (perm_mv 6 4 4 _) ?_
          simp only [List.drop_succ_cons, List.drop_zero, List.take_succ_cons, List.take_zero, List.cons_append, List.nil_append, Nat.reduceAdd]
          refine ww_iinc (d := 1) C0 dX4_years_75 rfl rfl rfl ?_
          simp only [List.set_cons_zero, List.set_cons_succ]
          refine ww_goto (tgt := 27) C0 dX4_years_78 (by decide) ?_
          exact ww_back ih ⟨Or.inr rfl, Or.inr rfl, Or.inr (congrArg Value.int (nI_addE (a := j) (b := 1) rfl rfl).symm), Or.inl rfl, trivial⟩ (by rfl)
      · skip
        refine ww_iload_n C0 dX4_years_27 rfl ?_
        refine ww_iload_n C0 dX4_years_28 rfl ?_
        refine ww_icmp_ge (tgt := 81) C0 dX4_years_29 (by decide) (fun h29 => ?_) (fun h29 => ?_)
        · skip
          replace h29 := (nI_leE (a := n) (b := n) rfl rfl (by omega) (by omega)).mp h29
          refine ww_aload_n C0 dX4_years_81 rfl ?_
          refine ww_get C0 (ci := 4) (C := RX4) (T := TX4) (N := 14) ku_X4 0 rfl rfl 5 (by decide) kw_X4_38 rfl dX4_years_82 ?_
          refine ww_getN C0 (ci := 2) (C := RX2) (T := TX2) (N := 5) ku_X2 10 rfl rfl 4 (by decide) kn_X4_89 rfl dX4_years_85 ?_
          refine ww_aload_n C0 dX4_years_88 rfl ?_
          refine ww_get C0 (ci := 4) (C := RX4) (T := TX4) (N := 14) ku_X4 0 rfl rfl 4 (by decide) kw_X4_34 rfl dX4_years_89 ?_
          refine ww_getN C0 (ci := 2) (C := RX2) (T := TX2) (N := 5) ku_X2 6 rfl rfl 4 (by decide) kn_X4_89 rfl dX4_years_92 ?_
          refine ww_isub C0 dX4_years_95 ?_
          exact ww_iret C0 hr dX4_years_96 (by rfl) (by rfl)
        · skip
          replace h29 := (not_congr (nI_leE (a := n) (b := n) rfl rfl (by omega) (by omega))).mp h29
          exfalso; omega
    · skip
      replace h8 := (not_congr (nI_leE (a := n) (b := 30) rfl rfl (by omega) (by omega))).mp h8
      exfalso; omega

set_option maxHeartbeats 4000000 in
set_option maxRecDepth 100000 in
theorem c_X4_keep_b (l : Launch) (D : va_G) (cI cZ cQ : ClassId) {rest : va_W} {aX : Nat} {q : Int32} (hq : isN 2 q = false) : MI l D [(cI, .int), (cZ, .boolean), (cQ, .object "MulesRemember$State")] yX4_keep cX4_keep 2 .int ({ frames := 1, cells := 0, slots := 0, locals := 22 } : Room) [.ref aX, .int q] (rest) (-1) (rest) := by
  refine MI.of [.ref aX, .int q] (by decide) (Nat.le_of_ble_eq_true rfl) rfl ?_
  intro p e s m below meth c A C0 hr
  refine ww_iload_n C0 dX4_keep_0 rfl ?_
  refine ww_callSi C0 (c_X4_isSlot l D cI cZ cQ) kd_X4_isSlot kw_X4_222 ks_X4_isSlot ki_X4 hd_X4_isSlot ⟨Nat.le_of_ble_eq_true rfl, Nat.le_of_ble_eq_true rfl, rfl, rfl⟩ (Nat.le_of_ble_eq_true rfl) dX4_keep_1 rfl rfl ⟨Nat.zero_le _, Nat.zero_le _⟩ ?_
  refine ww_bif_ne (tgt := 9) C0 dX4_keep_4 (by decide) (fun h4 => ?_) (fun h4 => ?_)
  · skip
    exact absurd h4 (by rw [hq]; decide)
  · skip
    refine ww_iconst (v := (-1)) C0 dX4_keep_7 rfl ?_
    exact ww_iret C0 hr dX4_keep_8 (by rfl) (by rfl)

set_option maxHeartbeats 4000000 in
set_option maxRecDepth 100000 in
theorem c_X4_keep (l : Launch) (D : va_G) (cI cZ cQ : ClassId) {aX aT aL aC aN aY aA aO aK aG aW al0 al1 al2 an0 an1 an2 ay0 ay1 ay2 at0 ag0 ag1 ag2 ag3 ag4 : Nat} {nm fa ac na tn gn : Nat} {hN bN hY bY : Int32} {sd : Int64} {fl0 fl1 fl2 fC fn0 fn1 fn2 fy0 fy1 fy2 ft0 fg0 fg1 fg2 fg3 fg4 fW fK : Nat → Int32} {fO fA : Nat → Option Nat} {rest : va_W} {ad : Nat → Nat → Nat} {sv : Nat → SV} {q : Nat} (hq : q < 2) (hO : ∀ j, j < 2 → fO j = some (ad (14 + j) 0)) : MI l D [(cI, .int), (cZ, .boolean), (cQ, .object "MulesRemember$State")] yX4_keep cX4_keep 2 .int ({ frames := 1, cells := 0, slots := 0, locals := 22 } : Room) [.ref aX, .int (nI q)] ((aX, .inr (4, [.ref aT, .ref aL, .ref aC, .int (nI nm), .ref aN, .ref aY, .ref aA, .int (nI fa), .int (nI ac), .ref aO, .ref aK, .ref aG, .ref aW, .long sd])) :: (aL, .inr (0, [.ref al0, .ref al1, .ref al2, .int (nI na)])) :: (al0, .inl (cI, 5, .inl (fl0))) :: (al1, .inl (cI, 5, .inl (fl1))) :: (al2, .inl (cI, 5, .inl (fl2))) :: (aC, .inl (cI, 5, .inl (fC))) :: (aN, .inr (2, [.ref an0, .ref an1, .ref an2, .int hN, .int bN])) :: (an0, .inl (cI, 5, .inl (fn0))) :: (an1, .inl (cI, 5, .inl (fn1))) :: (an2, .inl (cI, 5, .inl (fn2))) :: (aY, .inr (2, [.ref ay0, .ref ay1, .ref ay2, .int hY, .int bY])) :: (ay0, .inl (cI, 5, .inl (fy0))) :: (ay1, .inl (cI, 5, .inl (fy1))) :: (ay2, .inl (cI, 5, .inl (fy2))) :: (aT, .inr (3, [.ref at0, .int (nI tn)])) :: (at0, .inl (cI, 48, .inl (ft0))) :: (aG, .inr (1, [.ref ag0, .ref ag1, .ref ag2, .ref ag3, .ref ag4, .int (nI gn)])) :: (ag0, .inl (cI, 6, .inl (fg0))) :: (ag1, .inl (cI, 6, .inl (fg1))) :: (ag2, .inl (cI, 6, .inl (fg2))) :: (ag3, .inl (cI, 6, .inl (fg3))) :: (ag4, .inl (cI, 6, .inl (fg4))) :: (aW, .inl (cI, 6, .inl (fW))) :: (aK, .inl (cZ, 2, .inl (fK))) :: (aO, .inl (cQ, 2, .inr (.inr (.inr (.inr (fO)))))) :: (aA, .inl (cQ, 14, .inr (.inr (.inr (.inr (fA)))))) :: (pool cI ad sv 16 ++ rest)) (hN) ((aX, .inr (4, [.ref aT, .ref aL, .ref aC, .int (nI nm), .ref aN, .ref aY, .ref aA, .int (nI fa), .int (nI ac), .ref aO, .ref aK, .ref aG, .ref aW, .long sd])) :: (aL, .inr (0, [.ref al0, .ref al1, .ref al2, .int (nI na)])) :: (al0, .inl (cI, 5, .inl (fl0))) :: (al1, .inl (cI, 5, .inl (fl1))) :: (al2, .inl (cI, 5, .inl (fl2))) :: (aC, .inl (cI, 5, .inl (fC))) :: (aN, .inr (2, [.ref an0, .ref an1, .ref an2, .int hN, .int bN])) :: (an0, .inl (cI, 5, .inl (fn0))) :: (an1, .inl (cI, 5, .inl (fn1))) :: (an2, .inl (cI, 5, .inl (fn2))) :: (aY, .inr (2, [.ref ay0, .ref ay1, .ref ay2, .int hY, .int bY])) :: (ay0, .inl (cI, 5, .inl (fy0))) :: (ay1, .inl (cI, 5, .inl (fy1))) :: (ay2, .inl (cI, 5, .inl (fy2))) :: (aT, .inr (3, [.ref at0, .int (nI tn)])) :: (at0, .inl (cI, 48, .inl (ft0))) :: (aG, .inr (1, [.ref ag0, .ref ag1, .ref ag2, .ref ag3, .ref ag4, .int (nI gn)])) :: (ag0, .inl (cI, 6, .inl (fg0))) :: (ag1, .inl (cI, 6, .inl (fg1))) :: (ag2, .inl (cI, 6, .inl (fg2))) :: (ag3, .inl (cI, 6, .inl (fg3))) :: (ag4, .inl (cI, 6, .inl (fg4))) :: (aW, .inl (cI, 6, .inl (fW))) :: (aK, .inl (cZ, 2, .inl (upd fK q 1))) :: (aO, .inl (cQ, 2, .inr (.inr (.inr (.inr (fO)))))) :: (aA, .inl (cQ, 14, .inr (.inr (.inr (.inr (fA)))))) :: (pool cI ad (va_up sv (14 + q) (fn0, fn1, fn2, hN, bN)) 16 ++ rest)) := by
  refine MI.of [.ref aX, .int (nI q)] (by decide) (Nat.le_of_ble_eq_true rfl) rfl ?_
  intro p e s m below meth c A C0 hr
  refine ww_iload_n C0 dX4_keep_0 rfl ?_
  refine ww_callSi C0 (c_X4_isSlot l D cI cZ cQ) kd_X4_isSlot kw_X4_222 ks_X4_isSlot ki_X4 hd_X4_isSlot ⟨Nat.le_of_ble_eq_true rfl, Nat.le_of_ble_eq_true rfl, rfl, rfl⟩ (Nat.le_of_ble_eq_true rfl) dX4_keep_1 rfl rfl ⟨Nat.zero_le _, Nat.zero_le _⟩ ?_
  refine ww_bif_ne (tgt := 9) C0 dX4_keep_4 (by decide) (fun h4 => ?_) (fun h4 => ?_)
  · skip
    refine ww_aload_n C0 dX4_keep_9 rfl ?_
    refine ww_get C0 (ci := 4) (C := RX4) (T := TX4) (N := 14) ku_X4 0 rfl rfl 4 (by decide) kw_X4_34 rfl dX4_keep_10 ?_
    refine ww_aload_n C0 dX4_keep_13 rfl ?_
    refine ww_get C0 (ci := 4) (C := RX4) (T := TX4) (N := 14) ku_X4 0 rfl rfl 9 (by decide) kw_X4_51 rfl dX4_keep_14 ?_
    refine ww_iload_n C0 dX4_keep_17 rfl ?_
    refine ww_aald (j := q) (b := (ad (14 + q) 0)) C0 24 2 rfl rfl rfl hq (by decide) (hO q hq) dX4_keep_18 ?_
    refine ww_perm (perm_mv 0 6 4 _) ?_
    simp only [List.drop_succ_cons, List.drop_zero, List.take_succ_cons, List.take_zero, List.cons_append, List.nil_append, Nat.reduceAdd]
    refine ww_perm (perm_out 4 22 (i := (14 + q)) (n := 16) (by omega) rfl) ?_
    simp only [List.drop_succ_cons, List.drop_zero, List.take_succ_cons, List.take_zero, List.cons_append, List.nil_append, stc, Nat.reduceAdd]
    refine ww_callSv C0 (c_X4_copyState l D cI cZ cQ) kd_X4_copyState kw_X4_161 ks_X4_copyState ki_X4 hd_X4_copyState ⟨Nat.le_of_ble_eq_true rfl, Nat.le_of_ble_eq_true rfl, rfl, rfl⟩ (Nat.le_of_ble_eq_true rfl) dX4_keep_19 rfl rfl ⟨Nat.zero_le _, Nat.zero_le _⟩ ?_
    refine ww_perm (perm_in 4 22 (i := (14 + q)) (n := 16) (sv := _) (fn0, fn1, fn2, hN, bN) (by omega) rfl rfl) ?_
    simp only [List.drop_succ_cons, List.drop_zero, List.take_succ_cons, List.take_zero, List.cons_append, List.nil_append, stc, Nat.reduceAdd]
    refine ww_perm (perm_mv 0 4 6 _) ?_
    simp only [List.drop_succ_cons, List.drop_zero, List.take_succ_cons, List.take_zero, List.cons_append, List.nil_append, Nat.reduceAdd]
    refine ww_aload_n C0 dX4_keep_22 rfl ?_
    refine ww_get C0 (ci := 4) (C := RX4) (T := TX4) (N := 14) ku_X4 0 rfl rfl 10 (by decide) kw_X4_54 rfl dX4_keep_23 ?_
    refine ww_iload_n C0 dX4_keep_26 rfl ?_
    refine ww_iconst (v := (1)) C0 dX4_keep_27 rfl ?_
    refine ww_zast_n (j := q) C0 23 1 rfl rfl rfl (by omega) (by decide) dX4_keep_28 ?_
    simp only [List.set_cons_zero, List.set_cons_succ]
    refine ww_aload_n C0 dX4_keep_29 rfl ?_
    refine ww_get C0 (ci := 4) (C := RX4) (T := TX4) (N := 14) ku_X4 0 rfl rfl 4 (by decide) kw_X4_34 rfl dX4_keep_30 ?_
    refine ww_getN C0 (ci := 2) (C := RX2) (T := TX2) (N := 5) ku_X2 6 rfl rfl 3 (by decide) kn_X4_86 rfl dX4_keep_33 ?_
    exact ww_iret C0 hr dX4_keep_36 (by rfl) (by rfl)
  · skip
    exact absurd (isN_nI (by omega) hq) (by rw [h4]; decide)

set_option maxHeartbeats 4000000 in
set_option maxRecDepth 100000 in
theorem c_X4_again_b (l : Launch) (D : va_G) (cI cZ cQ : ClassId) {rest : va_W} {aX : Nat} {q : Int32} (hq : isN 2 q = false) : MI l D [(cI, .int), (cZ, .boolean), (cQ, .object "MulesRemember$State")] yX4_again cX4_again 2 .int ({ frames := 1, cells := 0, slots := 0, locals := 22 } : Room) [.ref aX, .int q] (rest) (-1) (rest) := by
  refine MI.of [.ref aX, .int q] (by decide) (Nat.le_of_ble_eq_true rfl) rfl ?_
  intro p e s m below meth c A C0 hr
  refine ww_iload_n C0 dX4_again_0 rfl ?_
  refine ww_callSi C0 (c_X4_isSlot l D cI cZ cQ) kd_X4_isSlot kw_X4_222 ks_X4_isSlot ki_X4 hd_X4_isSlot ⟨Nat.le_of_ble_eq_true rfl, Nat.le_of_ble_eq_true rfl, rfl, rfl⟩ (Nat.le_of_ble_eq_true rfl) dX4_again_1 rfl rfl ⟨Nat.zero_le _, Nat.zero_le _⟩ ?_
  refine ww_bif_ne (tgt := 9) C0 dX4_again_4 (by decide) (fun h4 => ?_) (fun h4 => ?_)
  · skip
    exact absurd h4 (by rw [hq]; decide)
  · skip
    refine ww_iconst (v := (-1)) C0 dX4_again_7 rfl ?_
    exact ww_iret C0 hr dX4_again_8 (by rfl) (by rfl)

set_option maxHeartbeats 4000000 in
set_option maxRecDepth 100000 in
theorem c_X4_again_l (l : Launch) (D : va_G) (cI cZ cQ : ClassId) {aX aT aL aC aN aY aA aO aK aG aW al0 al1 al2 an0 an1 an2 ay0 ay1 ay2 at0 ag0 ag1 ag2 ag3 ag4 : Nat} {nm fa ac na tn gn : Nat} {hN bN hY bY : Int32} {sd : Int64} {fl0 fl1 fl2 fC fn0 fn1 fn2 fy0 fy1 fy2 ft0 fg0 fg1 fg2 fg3 fg4 fW fK : Nat → Int32} {rest : va_W} {q : Nat} (hq : q < 2) (hk : fK q = 0) : MI l D [(cI, .int), (cZ, .boolean), (cQ, .object "MulesRemember$State")] yX4_again cX4_again 2 .int ({ frames := 1, cells := 0, slots := 0, locals := 22 } : Room) [.ref aX, .int (nI q)] ((aX, .inr (4, [.ref aT, .ref aL, .ref aC, .int (nI nm), .ref aN, .ref aY, .ref aA, .int (nI fa), .int (nI ac), .ref aO, .ref aK, .ref aG, .ref aW, .long sd])) :: (aL, .inr (0, [.ref al0, .ref al1, .ref al2, .int (nI na)])) :: (al0, .inl (cI, 5, .inl (fl0))) :: (al1, .inl (cI, 5, .inl (fl1))) :: (al2, .inl (cI, 5, .inl (fl2))) :: (aC, .inl (cI, 5, .inl (fC))) :: (aN, .inr (2, [.ref an0, .ref an1, .ref an2, .int hN, .int bN])) :: (an0, .inl (cI, 5, .inl (fn0))) :: (an1, .inl (cI, 5, .inl (fn1))) :: (an2, .inl (cI, 5, .inl (fn2))) :: (aY, .inr (2, [.ref ay0, .ref ay1, .ref ay2, .int hY, .int bY])) :: (ay0, .inl (cI, 5, .inl (fy0))) :: (ay1, .inl (cI, 5, .inl (fy1))) :: (ay2, .inl (cI, 5, .inl (fy2))) :: (aT, .inr (3, [.ref at0, .int (nI tn)])) :: (at0, .inl (cI, 48, .inl (ft0))) :: (aG, .inr (1, [.ref ag0, .ref ag1, .ref ag2, .ref ag3, .ref ag4, .int (nI gn)])) :: (ag0, .inl (cI, 6, .inl (fg0))) :: (ag1, .inl (cI, 6, .inl (fg1))) :: (ag2, .inl (cI, 6, .inl (fg2))) :: (ag3, .inl (cI, 6, .inl (fg3))) :: (ag4, .inl (cI, 6, .inl (fg4))) :: (aW, .inl (cI, 6, .inl (fW))) :: (aK, .inl (cZ, 2, .inl (fK))) :: rest) (-3) ((aX, .inr (4, [.ref aT, .ref aL, .ref aC, .int (nI nm), .ref aN, .ref aY, .ref aA, .int (nI fa), .int (nI ac), .ref aO, .ref aK, .ref aG, .ref aW, .long sd])) :: (aL, .inr (0, [.ref al0, .ref al1, .ref al2, .int (nI na)])) :: (al0, .inl (cI, 5, .inl (fl0))) :: (al1, .inl (cI, 5, .inl (fl1))) :: (al2, .inl (cI, 5, .inl (fl2))) :: (aC, .inl (cI, 5, .inl (fC))) :: (aN, .inr (2, [.ref an0, .ref an1, .ref an2, .int hN, .int bN])) :: (an0, .inl (cI, 5, .inl (fn0))) :: (an1, .inl (cI, 5, .inl (fn1))) :: (an2, .inl (cI, 5, .inl (fn2))) :: (aY, .inr (2, [.ref ay0, .ref ay1, .ref ay2, .int hY, .int bY])) :: (ay0, .inl (cI, 5, .inl (fy0))) :: (ay1, .inl (cI, 5, .inl (fy1))) :: (ay2, .inl (cI, 5, .inl (fy2))) :: (aT, .inr (3, [.ref at0, .int (nI tn)])) :: (at0, .inl (cI, 48, .inl (ft0))) :: (aG, .inr (1, [.ref ag0, .ref ag1, .ref ag2, .ref ag3, .ref ag4, .int (nI gn)])) :: (ag0, .inl (cI, 6, .inl (fg0))) :: (ag1, .inl (cI, 6, .inl (fg1))) :: (ag2, .inl (cI, 6, .inl (fg2))) :: (ag3, .inl (cI, 6, .inl (fg3))) :: (ag4, .inl (cI, 6, .inl (fg4))) :: (aW, .inl (cI, 6, .inl (fW))) :: (aK, .inl (cZ, 2, .inl (fK))) :: rest) := by
  refine MI.of [.ref aX, .int (nI q)] (by decide) (Nat.le_of_ble_eq_true rfl) rfl ?_
  intro p e s m below meth c A C0 hr
  refine ww_iload_n C0 dX4_again_0 rfl ?_
  refine ww_callSi C0 (c_X4_isSlot l D cI cZ cQ) kd_X4_isSlot kw_X4_222 ks_X4_isSlot ki_X4 hd_X4_isSlot ⟨Nat.le_of_ble_eq_true rfl, Nat.le_of_ble_eq_true rfl, rfl, rfl⟩ (Nat.le_of_ble_eq_true rfl) dX4_again_1 rfl rfl ⟨Nat.zero_le _, Nat.zero_le _⟩ ?_
  refine ww_bif_ne (tgt := 9) C0 dX4_again_4 (by decide) (fun h4 => ?_) (fun h4 => ?_)
  · skip
    refine ww_aload_n C0 dX4_again_9 rfl ?_
    refine ww_get C0 (ci := 4) (C := RX4) (T := TX4) (N := 14) ku_X4 0 rfl rfl 10 (by decide) kw_X4_54 rfl dX4_again_10 ?_
    refine ww_iload_n C0 dX4_again_13 rfl ?_
    refine ww_zald_n (j := q) C0 23 1 rfl rfl rfl (by omega) (by decide) dX4_again_14 ?_
    refine ww_if_ne (tgt := 21) C0 dX4_again_15 (by decide) (fun h15 => ?_) (fun h15 => ?_)
    · skip
      exact absurd hk h15
    · skip
      refine ww_bipush (v := (-3)) C0 dX4_again_18 rfl ?_
      exact ww_iret C0 hr dX4_again_20 (by rfl) (by rfl)
  · skip
    exact absurd (isN_nI (by omega) hq) (by rw [h4]; decide)

set_option maxHeartbeats 4000000 in
set_option maxRecDepth 100000 in
theorem c_X4_again (l : Launch) (D : va_G) (cI cZ cQ : ClassId) {aX aT aL aC aN aY aA aO aK aG aW al0 al1 al2 an0 an1 an2 ay0 ay1 ay2 at0 ag0 ag1 ag2 ag3 ag4 : Nat} {nm fa ac na tn gn : Nat} {hN bN hY bY : Int32} {sd : Int64} {fl0 fl1 fl2 fC fn0 fn1 fn2 fy0 fy1 fy2 ft0 fg0 fg1 fg2 fg3 fg4 fW fK : Nat → Int32} {fO fA : Nat → Option Nat} {rest : va_W} {ad : Nat → Nat → Nat} {sv : Nat → SV} {q : Nat} (hq : q < 2) (hk : ¬ fK q = 0) (hO : ∀ j, j < 2 → fO j = some (ad (14 + j) 0)) : MI l D [(cI, .int), (cZ, .boolean), (cQ, .object "MulesRemember$State")] yX4_again cX4_again 2 .int ({ frames := 1, cells := 0, slots := 0, locals := 22 } : Room) [.ref aX, .int (nI q)] ((aX, .inr (4, [.ref aT, .ref aL, .ref aC, .int (nI nm), .ref aN, .ref aY, .ref aA, .int (nI fa), .int (nI ac), .ref aO, .ref aK, .ref aG, .ref aW, .long sd])) :: (aL, .inr (0, [.ref al0, .ref al1, .ref al2, .int (nI na)])) :: (al0, .inl (cI, 5, .inl (fl0))) :: (al1, .inl (cI, 5, .inl (fl1))) :: (al2, .inl (cI, 5, .inl (fl2))) :: (aC, .inl (cI, 5, .inl (fC))) :: (aN, .inr (2, [.ref an0, .ref an1, .ref an2, .int hN, .int bN])) :: (an0, .inl (cI, 5, .inl (fn0))) :: (an1, .inl (cI, 5, .inl (fn1))) :: (an2, .inl (cI, 5, .inl (fn2))) :: (aY, .inr (2, [.ref ay0, .ref ay1, .ref ay2, .int hY, .int bY])) :: (ay0, .inl (cI, 5, .inl (fy0))) :: (ay1, .inl (cI, 5, .inl (fy1))) :: (ay2, .inl (cI, 5, .inl (fy2))) :: (aT, .inr (3, [.ref at0, .int (nI tn)])) :: (at0, .inl (cI, 48, .inl (ft0))) :: (aG, .inr (1, [.ref ag0, .ref ag1, .ref ag2, .ref ag3, .ref ag4, .int (nI gn)])) :: (ag0, .inl (cI, 6, .inl (fg0))) :: (ag1, .inl (cI, 6, .inl (fg1))) :: (ag2, .inl (cI, 6, .inl (fg2))) :: (ag3, .inl (cI, 6, .inl (fg3))) :: (ag4, .inl (cI, 6, .inl (fg4))) :: (aW, .inl (cI, 6, .inl (fW))) :: (aK, .inl (cZ, 2, .inl (fK))) :: (aO, .inl (cQ, 2, .inr (.inr (.inr (.inr (fO)))))) :: (aA, .inl (cQ, 14, .inr (.inr (.inr (.inr (fA)))))) :: (pool cI ad sv 16 ++ rest)) ((sv (14 + q)).2.2.2.1) ((aX, .inr (4, [.ref aT, .ref aL, .ref aC, .int (nI nm), .ref aN, .ref aY, .ref aA, .int (nI fa), .int (nI 0), .ref aO, .ref aK, .ref aG, .ref aW, .long sd])) :: (aL, .inr (0, [.ref al0, .ref al1, .ref al2, .int (nI na)])) :: (al0, .inl (cI, 5, .inl (fl0))) :: (al1, .inl (cI, 5, .inl (fl1))) :: (al2, .inl (cI, 5, .inl (fl2))) :: (aC, .inl (cI, 5, .inl (fC))) :: (aN, .inr (2, [.ref an0, .ref an1, .ref an2, .int (sv (14 + q)).2.2.2.1, .int (sv (14 + q)).2.2.2.2])) :: (an0, .inl (cI, 5, .inl ((sv (14 + q)).1))) :: (an1, .inl (cI, 5, .inl ((sv (14 + q)).2.1))) :: (an2, .inl (cI, 5, .inl ((sv (14 + q)).2.2.1))) :: (aY, .inr (2, [.ref ay0, .ref ay1, .ref ay2, .int hY, .int bY])) :: (ay0, .inl (cI, 5, .inl (fy0))) :: (ay1, .inl (cI, 5, .inl (fy1))) :: (ay2, .inl (cI, 5, .inl (fy2))) :: (aT, .inr (3, [.ref at0, .int (nI tn)])) :: (at0, .inl (cI, 48, .inl (ft0))) :: (aG, .inr (1, [.ref ag0, .ref ag1, .ref ag2, .ref ag3, .ref ag4, .int (nI gn)])) :: (ag0, .inl (cI, 6, .inl (fg0))) :: (ag1, .inl (cI, 6, .inl (fg1))) :: (ag2, .inl (cI, 6, .inl (fg2))) :: (ag3, .inl (cI, 6, .inl (fg3))) :: (ag4, .inl (cI, 6, .inl (fg4))) :: (aW, .inl (cI, 6, .inl (fW))) :: (aK, .inl (cZ, 2, .inl (fK))) :: (aO, .inl (cQ, 2, .inr (.inr (.inr (.inr (fO)))))) :: (aA, .inl (cQ, 14, .inr (.inr (.inr (.inr (fA)))))) :: (pool cI ad sv 16 ++ rest)) := by
  refine MI.of [.ref aX, .int (nI q)] (by decide) (Nat.le_of_ble_eq_true rfl) rfl ?_
  intro p e s m below meth c A C0 hr
  refine ww_iload_n C0 dX4_again_0 rfl ?_
  refine ww_callSi C0 (c_X4_isSlot l D cI cZ cQ) kd_X4_isSlot kw_X4_222 ks_X4_isSlot ki_X4 hd_X4_isSlot ⟨Nat.le_of_ble_eq_true rfl, Nat.le_of_ble_eq_true rfl, rfl, rfl⟩ (Nat.le_of_ble_eq_true rfl) dX4_again_1 rfl rfl ⟨Nat.zero_le _, Nat.zero_le _⟩ ?_
  refine ww_bif_ne (tgt := 9) C0 dX4_again_4 (by decide) (fun h4 => ?_) (fun h4 => ?_)
  · skip
    refine ww_aload_n C0 dX4_again_9 rfl ?_
    refine ww_get C0 (ci := 4) (C := RX4) (T := TX4) (N := 14) ku_X4 0 rfl rfl 10 (by decide) kw_X4_54 rfl dX4_again_10 ?_
    refine ww_iload_n C0 dX4_again_13 rfl ?_
    refine ww_zald_n (j := q) C0 23 1 rfl rfl rfl (by omega) (by decide) dX4_again_14 ?_
    refine ww_if_ne (tgt := 21) C0 dX4_again_15 (by decide) (fun h15 => ?_) (fun h15 => ?_)
    · skip
      refine ww_aload_n C0 dX4_again_21 rfl ?_
      refine ww_get C0 (ci := 4) (C := RX4) (T := TX4) (N := 14) ku_X4 0 rfl rfl 9 (by decide) kw_X4_51 rfl dX4_again_22 ?_
      refine ww_iload_n C0 dX4_again_25 rfl ?_
      refine ww_aald (j := q) (b := (ad (14 + q) 0)) C0 24 2 rfl rfl rfl hq (by decide) (hO q hq) dX4_again_26 ?_
      refine ww_aload_n C0 dX4_again_27 rfl ?_
      refine ww_get C0 (ci := 4) (C := RX4) (T := TX4) (N := 14) ku_X4 0 rfl rfl 4 (by decide) kw_X4_34 rfl dX4_again_28 ?_
      refine ww_perm (perm_out 0 26 (i := (14 + q)) (n := 16) (by omega) rfl) ?_
      simp only [List.drop_succ_cons, List.drop_zero, List.take_succ_cons, List.take_zero, List.cons_append, List.nil_append, stc, Nat.reduceAdd]
      refine ww_perm (perm_mv 4 6 4 _) ?_
      simp only [List.drop_succ_cons, List.drop_zero, List.take_succ_cons, List.take_zero, List.cons_append, List.nil_append, Nat.reduceAdd]
      refine ww_callSv C0 (c_X4_copyState l D cI cZ cQ) kd_X4_copyState kw_X4_161 ks_X4_copyState ki_X4 hd_X4_copyState ⟨Nat.le_of_ble_eq_true rfl, Nat.le_of_ble_eq_true rfl, rfl, rfl⟩ (Nat.le_of_ble_eq_true rfl) dX4_again_31 rfl rfl ⟨Nat.zero_le _, Nat.zero_le _⟩ ?_
      refine ww_perm (perm_mv 4 4 6 _) ?_
      simp only [List.drop_succ_cons, List.drop_zero, List.take_succ_cons, List.take_zero, List.cons_append, List.nil_append, Nat.reduceAdd]
      refine ww_perm (perm_in 0 26 (i := (14 + q)) (n := 16) (sv := sv) (sv ((14 + q))) (by omega) rfl rfl) ?_
      simp only [List.drop_succ_cons, List.drop_zero, List.take_succ_cons, List.take_zero, List.cons_append, List.nil_append, stc, Nat.reduceAdd]
      simp only [va_up_id]
      refine ww_aload_n C0 dX4_again_34 rfl ?_
      refine ww_iconst (v := (0)) C0 dX4_again_35 rfl ?_
      refine ww_put C0 (ci := 4) (C := RX4) (T := TX4) (N := 14) ku_X4 0 rfl rfl 8 (by decide) tyX4 tyX4_ok nmX4 kw_X4_48 rfl (ty := .int) (by decide +kernel) rfl rfl (Nat.le_of_ble_eq_true rfl) dX4_again_36 ?_
      simp only [List.set_cons_zero, List.set_cons_succ]
      refine ww_aload_n C0 dX4_again_39 rfl ?_
      refine ww_get C0 (ci := 4) (C := RX4) (T := TX4) (N := 14) ku_X4 0 rfl rfl 4 (by decide) kw_X4_34 rfl dX4_again_40 ?_
      refine ww_getN C0 (ci := 2) (C := RX2) (T := TX2) (N := 5) ku_X2 6 rfl rfl 3 (by decide) kn_X4_86 rfl dX4_again_43 ?_
      exact ww_iret C0 hr dX4_again_46 (by rfl) (by rfl)
    · skip
      exact absurd h15 hk
  · skip
    exact absurd (isN_nI (by omega) hq) (by rw [h4]; decide)
