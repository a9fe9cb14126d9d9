set_option maxHeartbeats 4000000 in
set_option maxRecDepth 100000 in
theorem c_X4_way_b (l : Launch) (D : va_G) (cI cZ cQ : ClassId) {aX aT aL aC aN aY aA aO aK aG aW : Nat} {nm fa ac : Nat} {sd : Int64} {rest : va_W} {m s0 : Int32} {u : Bool} (hnm : nm ≤ 5) (hm : (isN nm m && isN 10 s0) = false) : MI l D [(cI, .int), (cZ, .boolean), (cQ, .object "MulesRemember$State")] yX4_way cX4_way 7 .int ({ frames := 4, cells := 0, slots := 0, locals := 107 } : Room) [.ref aX, .int m, .int s0, .int (bI u)] ((aX, .inr (4, [.ref aT, .ref aL, .ref aC, .int (nI nm), .ref aN, .ref aY, .ref aA, .int (nI fa), .int (nI ac), .ref aO, .ref aK, .ref aG, .ref aW, .long sd])) :: rest) (-1) ((aX, .inr (4, [.ref aT, .ref aL, .ref aC, .int (nI nm), .ref aN, .ref aY, .ref aA, .int (nI fa), .int (nI ac), .ref aO, .ref aK, .ref aG, .ref aW, .long sd])) :: rest) := by
  refine MI.of [.ref aX, .int m, .int s0, .int (bI u), .null, .null, .null] (by decide) (Nat.le_of_ble_eq_true rfl) rfl ?_
  intro p e s m below meth c A C0 hr
  refine ww_aload_n C0 dX4_way_0 rfl ?_
  refine ww_iload_n C0 dX4_way_1 rfl ?_
  refine ww_callVi C0 (qc := (RX4, TX4, 14)) 0 4 (c_X4_isMule l D cI cZ cQ hnm) kd_X4_isMule kw_X4_113 km_X4_isMule kl_X4_isMule ki_X4 hd_X4_isMule rfl rfl ⟨Nat.le_of_ble_eq_true rfl, Nat.le_of_ble_eq_true rfl, rfl, rfl⟩ (Nat.le_of_ble_eq_true rfl) dX4_way_2 rfl rfl rfl ⟨Nat.zero_le _, Nat.zero_le _⟩ ?_
  refine ww_bif_eq (tgt := 15) C0 dX4_way_5 (by decide) (fun h5 => ?_) (fun h5 => ?_)
  · skip
    refine ww_iconst (v := (-1)) C0 dX4_way_15 rfl ?_
    exact ww_iret C0 hr dX4_way_16 (by rfl) (by rfl)
  · skip
    refine ww_iload_n C0 dX4_way_8 rfl ?_
    refine ww_callSi C0 (c_X4_isStone l D cI cZ cQ) kd_X4_isStone kw_X4_165 ks_X4_isStone ki_X4 hd_X4_isStone ⟨Nat.le_of_ble_eq_true rfl, Nat.le_of_ble_eq_true rfl, rfl, rfl⟩ (Nat.le_of_ble_eq_true rfl) dX4_way_9 rfl rfl ⟨Nat.zero_le _, Nat.zero_le _⟩ ?_
    refine ww_bif_ne (tgt := 17) C0 dX4_way_12 (by decide) (fun h12 => ?_) (fun h12 => ?_)
    · skip
      exact absurd hm (by rw [h5, h12]; decide)
    · skip
      refine ww_iconst (v := (-1)) C0 dX4_way_15 rfl ?_
      exact ww_iret C0 hr dX4_way_16 (by rfl) (by rfl)

set_option maxHeartbeats 4000000 in
set_option maxRecDepth 100000 in
theorem c_X4_way (l : Launch) (D : va_G) (cI cZ cQ : ClassId) {aX aT aL aC aN aY aA aO aK aG aW al0 al1 al2 an0 an1 an2 : Nat} {nm fa ac na : Nat} {hN bN : Int32} {sd : Int64} {fl0 fl1 fl2 fC fn0 fn1 fn2 : Nat → Int32} {rest : va_W} {k : Nat} {s0 : Int32} {u : Bool} (hnm : nm ≤ 5) (hna : na ≤ 5) (hk : k < nm) (hs : isN 10 s0 = true) : MI l D [(cI, .int), (cZ, .boolean), (cQ, .object "MulesRemember$State")] yX4_way cX4_way 7 .int ({ frames := 4, cells := 0, slots := 0, locals := 107 } : Room) [.ref aX, .int (nI k), .int s0, .int (bI u)] ((aX, .inr (4, [.ref aT, .ref aL, .ref aC, .int (nI nm), .ref aN, .ref aY, .ref aA, .int (nI fa), .int (nI ac), .ref aO, .ref aK, .ref aG, .ref aW, .long sd])) :: (aL, .inr (0, [.ref al0, .ref al1, .ref al2, .int (nI na)])) :: (al0, .inl (cI, 5, .inl (fl0))) :: (al1, .inl (cI, 5, .inl (fl1))) :: (al2, .inl (cI, 5, .inl (fl2))) :: (aC, .inl (cI, 5, .inl (fC))) :: (aN, .inr (2, [.ref an0, .ref an1, .ref an2, .int hN, .int bN])) :: (an0, .inl (cI, 5, .inl (fn0))) :: (an1, .inl (cI, 5, .inl (fn1))) :: (an2, .inl (cI, 5, .inl (fn2))) :: rest) (sFirstFrom (fun t => hbit (sReach (fun t s way => sFF nm na fl0 fl1 fl2 fC fn0 k s way (hN + nI t)) ((1 : Int32) <<< (fn0 k &&& 31)) (if u then sAll na else (sKnown na (fn1 k) (fn2 k))) t) s0) 13 0) ((aX, .inr (4, [.ref aT, .ref aL, .ref aC, .int (nI nm), .ref aN, .ref aY, .ref aA, .int (nI fa), .int (nI ac), .ref aO, .ref aK, .ref aG, .ref aW, .long sd])) :: (aL, .inr (0, [.ref al0, .ref al1, .ref al2, .int (nI na)])) :: (al0, .inl (cI, 5, .inl (fl0))) :: (al1, .inl (cI, 5, .inl (fl1))) :: (al2, .inl (cI, 5, .inl (fl2))) :: (aC, .inl (cI, 5, .inl (fC))) :: (aN, .inr (2, [.ref an0, .ref an1, .ref an2, .int hN, .int bN])) :: (an0, .inl (cI, 5, .inl (fn0))) :: (an1, .inl (cI, 5, .inl (fn1))) :: (an2, .inl (cI, 5, .inl (fn2))) :: rest) := by
  refine MI.of [.ref aX, .int (nI k), .int s0, .int (bI u), .null, .null, .null] (by decide) (Nat.le_of_ble_eq_true rfl) rfl ?_
  intro p e s m below meth c A C0 hr
  refine ww_aload_n C0 dX4_way_0 rfl ?_
  refine ww_iload_n C0 dX4_way_1 rfl ?_
  refine ww_callVi C0 (qc := (RX4, TX4, 14)) 0 4 (c_X4_isMule l D cI cZ cQ hnm) kd_X4_isMule kw_X4_113 km_X4_isMule kl_X4_isMule ki_X4 hd_X4_isMule rfl rfl ⟨Nat.le_of_ble_eq_true rfl, Nat.le_of_ble_eq_true rfl, rfl, rfl⟩ (Nat.le_of_ble_eq_true rfl) dX4_way_2 rfl rfl rfl ⟨Nat.zero_le _, Nat.zero_le _⟩ ?_
  refine ww_bif_eq (tgt := 15) C0 dX4_way_5 (by decide) (fun h5 => ?_) (fun h5 => ?_)
  · skip
    exact absurd (isN_nI (by omega) hk) (by rw [h5]; decide)
  · skip
    refine ww_iload_n C0 dX4_way_8 rfl ?_
    refine ww_callSi C0 (c_X4_isStone l D cI cZ cQ) kd_X4_isStone kw_X4_165 ks_X4_isStone ki_X4 hd_X4_isStone ⟨Nat.le_of_ble_eq_true rfl, Nat.le_of_ble_eq_true rfl, rfl, rfl⟩ (Nat.le_of_ble_eq_true rfl) dX4_way_9 rfl rfl ⟨Nat.zero_le _, Nat.zero_le _⟩ ?_
    refine ww_bif_ne (tgt := 17) C0 dX4_way_12 (by decide) (fun h12 => ?_) (fun h12 => ?_)
    · skip
      refine ww_iload_n C0 dX4_way_17 rfl ?_
      refine ww_bif_eq (tgt := 31) C0 dX4_way_18 (by decide) (fun h18 => ?_) (fun h18 => ?_)
      · skip
        refine ww_aload_n C0 dX4_way_31 rfl ?_
        refine ww_aload_n C0 dX4_way_32 rfl ?_
        refine ww_get C0 (ci := 4) (C := RX4) (T := TX4) (N := 14) ku_X4 0 rfl rfl 4 (by decide) kw_X4_34 rfl dX4_way_33 ?_
        refine ww_iload_n C0 dX4_way_36 rfl ?_
        refine ww_callVi C0 (qc := (RX4, TX4, 14)) 0 4 (c_X4_known l D cI cZ cQ hnm hna hk) kd_X4_known kw_X4_123 km_X4_known kl_X4_known ki_X4 hd_X4_known rfl rfl ⟨Nat.le_of_ble_eq_true rfl, Nat.le_of_ble_eq_true rfl, rfl, rfl⟩ (Nat.le_of_ble_eq_true rfl) dX4_way_37 rfl rfl rfl ⟨Nat.zero_le _, Nat.zero_le _⟩ ?_
        refine ww_istore (i := 4) C0 dX4_way_40 (Nat.le_of_ble_eq_true rfl) rfl ?_
        simp only [List.set_cons_zero, List.set_cons_succ]
        refine ww_iconst (v := (1)) C0 dX4_way_42 rfl ?_
        refine ww_aload_n C0 dX4_way_43 rfl ?_
        refine ww_get C0 (ci := 4) (C := RX4) (T := TX4) (N := 14) ku_X4 0 rfl rfl 4 (by decide) kw_X4_34 rfl dX4_way_44 ?_
        refine ww_getN C0 (ci := 2) (C := RX2) (T := TX2) (N := 5) ku_X2 6 rfl rfl 0 (by decide) kn_X4_116 rfl dX4_way_47 ?_
        refine ww_iload_n C0 dX4_way_50 rfl ?_
        refine ww_iald_n (j := k) C0 7 0 rfl rfl rfl (by omega) (by decide) dX4_way_51 ?_
        refine ww_ishl C0 dX4_way_52 ?_
        refine ww_istore (i := 5) C0 dX4_way_53 (Nat.le_of_ble_eq_true rfl) rfl ?_
        simp only [List.set_cons_zero, List.set_cons_succ]
        refine ww_iconst (v := (0)) C0 dX4_way_55 rfl ?_
        refine ww_istore (i := 6) C0 dX4_way_56 (Nat.le_of_ble_eq_true rfl) rfl ?_
        simp only [List.set_cons_zero, List.set_cons_succ]
        refine ww_back (ww_loopI (σ := Unit) (pc := 58) 0 13 (by omega) (fun j _ => sFirstFrom (fun t => hbit (sReach (fun t s way => sFF nm na fl0 fl1 fl2 fC fn0 k s way (hN + nI t)) ((1 : Int32) <<< (fn0 k &&& 31)) (if u then sAll na else (sKnown na (fn1 k) (fn2 k))) t) s0) 13 0 = sFirstFrom (fun t => hbit (sReach (fun t s way => sFF nm na fl0 fl1 fl2 fC fn0 k s way (hN + nI t)) ((1 : Int32) <<< (fn0 k &&& 31)) (if u then sAll na else (sKnown na (fn1 k) (fn2 k))) t) s0) (13 - j) j) (fun j _ => [_, _, _, _, .int (if u then sAll na else (sKnown na (fn1 k) (fn2 k))), .int (sReach (fun t s way => sFF nm na fl0 fl1 fl2 fC fn0 k s way (hN + nI t)) ((1 : Int32) <<< (fn0 k &&& 31)) (if u then sAll na else (sKnown na (fn1 k) (fn2 k))) j), .int (nI j)]) (fun _ _ => _) () rfl ?_ ?_) ⟨Or.inr rfl, Or.inr rfl, Or.inr rfl, Or.inr rfl, Or.inr (by simp [*]), Or.inr rfl, Or.inr rfl, trivial⟩ rfl
        · skip
          rintro j ⟨⟩ hj0 hj hI ih
          rw [show 13 - j = (13 - (j + 1)) + 1 by omega, sFirstFrom_s _ (13 - (j + 1)) j] at hI
          refine ww_iload C0 dX4_way_58 rfl ?_
          refine ww_bipush (v := (12)) C0 dX4_way_60 rfl ?_
          refine ww_icmp_gt (tgt := 104) C0 dX4_way_62 (by decide) (fun h62 => ?_) (fun h62 => ?_)
          · skip
            replace h62 := (nI_ltE (a := 12) (b := j) rfl rfl (by omega) (by omega)).mp h62
            exfalso; omega
          · skip
            replace h62 := (not_congr (nI_ltE (a := 12) (b := j) rfl rfl (by omega) (by omega))).mp h62
            refine ww_iload C0 dX4_way_65 rfl ?_
            refine ww_iload_n C0 dX4_way_67 rfl ?_
            refine ww_ishr C0 dX4_way_68 ?_
            refine ww_iconst (v := (1)) C0 dX4_way_69 rfl ?_
            refine ww_iand C0 dX4_way_70 ?_
            refine ww_if_eq (tgt := 77) C0 dX4_way_71 (by decide) (fun h71 => ?_) (fun h71 => ?_)
            · skip
              have gb := hbit_f h71
              refine ww_aload_n C0 dX4_way_77 rfl ?_
              refine ww_iload_n C0 dX4_way_78 rfl ?_
              refine ww_iload C0 dX4_way_79 rfl ?_
              refine ww_aload_n C0 dX4_way_81 rfl ?_
              refine ww_get C0 (ci := 4) (C := RX4) (T := TX4) (N := 14) ku_X4 0 rfl rfl 4 (by decide) kw_X4_34 rfl dX4_way_82 ?_
              refine ww_getN C0 (ci := 2) (C := RX2) (T := TX2) (N := 5) ku_X2 6 rfl rfl 3 (by decide) kn_X4_86 rfl dX4_way_85 ?_
              refine ww_iload C0 dX4_way_88 rfl ?_
              refine ww_iadd C0 dX4_way_90 ?_
              refine ww_iload C0 dX4_way_91 rfl ?_
              refine ww_callVi C0 (qc := (RX4, TX4, 14)) 0 4 (c_X4_spread l D cI cZ cQ hnm hna hk) kd_X4_spread kw_X4_171 km_X4_spread kl_X4_spread ki_X4 hd_X4_spread rfl rfl ⟨Nat.le_of_ble_eq_true rfl, Nat.le_of_ble_eq_true rfl, rfl, rfl⟩ (Nat.le_of_ble_eq_true rfl) dX4_way_93 rfl rfl rfl ⟨Nat.zero_le _, Nat.zero_le _⟩ ?_
              refine ww_istore (i := 5) C0 dX4_way_96 (Nat.le_of_ble_eq_true rfl) rfl ?_
              simp only [List.set_cons_zero, List.set_cons_succ]
              refine ww_iinc (d := 1) C0 dX4_way_98 rfl rfl rfl ?_
              simp only [List.set_cons_zero, List.set_cons_succ]
              refine ww_goto (tgt := 58) C0 dX4_way_101 (by decide) ?_
              exact ww_back (ih () (by rw [hI]; simp only [gb, Bool.false_eq_true, if_false])) ⟨Or.inr rfl, Or.inr rfl, Or.inr rfl, Or.inr rfl, Or.inr rfl, Or.inr rfl, Or.inr (congrArg Value.int (nI_addE rfl rfl).symm), trivial⟩ rfl
            · skip
              have gb := hbit_t h71
              refine ww_iload C0 dX4_way_74 rfl ?_
              exact ww_iret C0 hr dX4_way_76 (by (rw [hI]; simp only [gb, if_true])) (by rfl)
        · skip
          rintro ⟨⟩ hI
          refine ww_iload C0 dX4_way_58 rfl ?_
          refine ww_bipush (v := (12)) C0 dX4_way_60 rfl ?_
          refine ww_icmp_gt (tgt := 104) C0 dX4_way_62 (by decide) (fun h62 => ?_) (fun h62 => ?_)
          · skip
            replace h62 := (nI_ltE (a := 12) (b := 13) rfl rfl (by omega) (by omega)).mp h62
            refine ww_bipush (v := (-9)) C0 dX4_way_104 rfl ?_
            exact ww_iret C0 hr dX4_way_106 (by (rw [hI]; rfl)) (by rfl)
          · skip
            replace h62 := (not_congr (nI_ltE (a := 12) (b := 13) rfl rfl (by omega) (by omega))).mp h62
            exfalso; omega
      · skip
        refine ww_aload_n C0 dX4_way_21 rfl ?_
        refine ww_get C0 (ci := 4) (C := RX4) (T := TX4) (N := 14) ku_X4 0 rfl rfl 1 (by decide) kw_X4_19 rfl dX4_way_22 ?_
        refine ww_callVNi C0 (qc := (RX0, TX0, 4)) 1 0 (c_X0_all l D cI cZ cQ) kd_X0_all kn_X4_168 km_X0_all kl_X0_all ki_X0 hd_X0_all rfl rfl ⟨Nat.le_of_ble_eq_true rfl, Nat.le_of_ble_eq_true rfl, rfl, rfl⟩ (Nat.le_of_ble_eq_true rfl) dX4_way_25 rfl rfl rfl ⟨Nat.zero_le _, Nat.zero_le _⟩ ?_
        refine ww_goto (tgt := 40) C0 dX4_way_28 (by decide) ?_
        refine ww_istore (i := 4) C0 dX4_way_40 (Nat.le_of_ble_eq_true rfl) rfl ?_
        simp only [List.set_cons_zero, List.set_cons_succ]
        refine ww_iconst (v := (1)) C0 dX4_way_42 rfl ?_
        refine ww_aload_n C0 dX4_way_43 rfl ?_
        refine ww_get C0 (ci := 4) (C := RX4) (T := TX4) (N := 14) ku_X4 0 rfl rfl 4 (by decide) kw_X4_34 rfl dX4_way_44 ?_
        refine ww_getN C0 (ci := 2) (C := RX2) (T := TX2) (N := 5) ku_X2 6 rfl rfl 0 (by decide) kn_X4_116 rfl dX4_way_47 ?_
        refine ww_iload_n C0 dX4_way_50 rfl ?_
        refine ww_iald_n (j := k) C0 7 0 rfl rfl rfl (by omega) (by decide) dX4_way_51 ?_
        refine ww_ishl C0 dX4_way_52 ?_
        refine ww_istore (i := 5) C0 dX4_way_53 (Nat.le_of_ble_eq_true rfl) rfl ?_
        simp only [List.set_cons_zero, List.set_cons_succ]
        refine ww_iconst (v := (0)) C0 dX4_way_55 rfl ?_
        refine ww_istore (i := 6) C0 dX4_way_56 (Nat.le_of_ble_eq_true rfl) rfl ?_
        simp only [List.set_cons_zero, List.set_cons_succ]
        refine ww_back (ww_loopI (σ := Unit) (pc := 58) 0 13 (by omega) (fun j _ => sFirstFrom (fun t => hbit (sReach (fun t s way => sFF nm na fl0 fl1 fl2 fC fn0 k s way (hN + nI t)) ((1 : Int32) <<< (fn0 k &&& 31)) (if u then sAll na else (sKnown na (fn1 k) (fn2 k))) t) s0) 13 0 = sFirstFrom (fun t => hbit (sReach (fun t s way => sFF nm na fl0 fl1 fl2 fC fn0 k s way (hN + nI t)) ((1 : Int32) <<< (fn0 k &&& 31)) (if u then sAll na else (sKnown na (fn1 k) (fn2 k))) t) s0) (13 - j) j) (fun j _ => [_, _, _, _, .int (if u then sAll na else (sKnown na (fn1 k) (fn2 k))), .int (sReach (fun t s way => sFF nm na fl0 fl1 fl2 fC fn0 k s way (hN + nI t)) ((1 : Int32) <<< (fn0 k &&& 31)) (if u then sAll na else (sKnown na (fn1 k) (fn2 k))) j), .int (nI j)]) (fun _ _ => _) () rfl ?_ ?_) ⟨Or.inr rfl, Or.inr rfl, Or.inr rfl, Or.inr rfl, Or.inr (by simp [*]), Or.inr rfl, Or.inr rfl, trivial⟩ rfl
        · skip
          rintro j ⟨⟩ hj0 hj hI ih
          rw [show 13 - j = (13 - (j + 1)) + 1 by omega, sFirstFrom_s _ (13 - (j + 1)) j] at hI
          refine ww_iload C0 dX4_way_58 rfl ?_
          refine ww_bipush (v := (12)) C0 dX4_way_60 rfl ?_
          refine ww_icmp_gt (tgt := 104) C0 dX4_way_62 (by decide) (fun h62 => ?_) (fun h62 => ?_)
          · skip
            replace h62 := (nI_ltE (a := 12) (b := j) rfl rfl (by omega) (by omega)).mp h62
            exfalso; omega
          · skip
            replace h62 := (not_congr (nI_ltE (a := 12) (b := j) rfl rfl (by omega) (by omega))).mp h62
            refine ww_iload C0 dX4_way_65 rfl ?_
            refine ww_iload_n C0 dX4_way_67 rfl ?_
            refine ww_ishr C0 dX4_way_68 ?_
            refine ww_iconst (v := (1)) C0 dX4_way_69 rfl ?_
            refine ww_iand C0 dX4_way_70 ?_
            refine ww_if_eq (tgt := 77) C0 dX4_way_71 (by decide) (fun h71 => ?_) (fun h71 => ?_)
            · skip
              have gb := hbit_f h71
              refine ww_aload_n C0 dX4_way_77 rfl ?_
              refine ww_iload_n C0 dX4_way_78 rfl ?_
              refine ww_iload C0 dX4_way_79 rfl ?_
              refine ww_aload_n C0 dX4_way_81 rfl ?_
              refine ww_get C0 (ci := 4) (C := RX4) (T := TX4) (N := 14) ku_X4 0 rfl rfl 4 (by decide) kw_X4_34 rfl dX4_way_82 ?_
              refine ww_getN C0 (ci := 2) (C := RX2) (T := TX2) (N := 5) ku_X2 6 rfl rfl 3 (by decide) kn_X4_86 rfl dX4_way_85 ?_
              refine ww_iload C0 dX4_way_88 rfl ?_
              refine ww_iadd C0 dX4_way_90 ?_
              refine ww_iload C0 dX4_way_91 rfl ?_
              refine ww_callVi C0 (qc := (RX4, TX4, 14)) 0 4 (c_X4_spread l D cI cZ cQ hnm hna hk) kd_X4_spread kw_X4_171 km_X4_spread kl_X4_spread ki_X4 hd_X4_spread rfl rfl ⟨Nat.le_of_ble_eq_true rfl, Nat.le_of_ble_eq_true rfl, rfl, rfl⟩ (Nat.le_of_ble_eq_true rfl) dX4_way_93 rfl rfl rfl ⟨Nat.zero_le _, Nat.zero_le _⟩ ?_
              refine ww_istore (i := 5) C0 dX4_way_96 (Nat.le_of_ble_eq_true rfl) rfl ?_
              simp only [List.set_cons_zero, List.set_cons_succ]
              refine ww_iinc (d := 1) C0 dX4_way_98 rfl rfl rfl ?_
              simp only [List.set_cons_zero, List.set_cons_succ]
              refine ww_goto (tgt := 58) C0 dX4_way_101 (by decide) ?_
              exact ww_back (ih () (by rw [hI]; simp only [gb, Bool.false_eq_true, if_false])) ⟨Or.inr rfl, Or.inr rfl, Or.inr rfl, Or.inr rfl, Or.inr rfl, Or.inr rfl, Or.inr (congrArg Value.int (nI_addE rfl rfl).symm), trivial⟩ rfl
            · skip
              have gb := hbit_t h71
              refine ww_iload C0 dX4_way_74 rfl ?_
              exact ww_iret C0 hr dX4_way_76 (by (rw [hI]; simp only [gb, if_true])) (by rfl)
        · skip
          rintro ⟨⟩ hI
          refine ww_iload C0 dX4_way_58 rfl ?_
          refine ww_bipush (v := (12)) C0 dX4_way_60 rfl ?_
          refine ww_icmp_gt (tgt := 104) C0 dX4_way_62 (by decide) (fun h62 => ?_) (fun h62 => ?_)
          · skip
            replace h62 := (nI_ltE (a := 12) (b := 13) rfl rfl (by omega) (by omega)).mp h62
            refine ww_bipush (v := (-9)) C0 dX4_way_104 rfl ?_
            exact ww_iret C0 hr dX4_way_106 (by (rw [hI]; rfl)) (by rfl)
          · skip
            replace h62 := (not_congr (nI_ltE (a := 12) (b := 13) rfl rfl (by omega) (by omega))).mp h62
            exfalso; omega
    · skip
      exact absurd hs (by rw [h12]; decide)

set_option maxHeartbeats 4000000 in
set_option maxRecDepth 100000 in
theorem c_X4_enclaves_b (l : Launch) (D : va_G) (cI cZ cQ : ClassId) {aX aT aL aC aN aY aA aO aK aG aW : Nat} {nm fa ac : Nat} {sd : Int64} {rest : va_W} {m : Int32} (hnm : nm ≤ 5) (hm : isN nm m = false) : MI l D [(cI, .int), (cZ, .boolean), (cQ, .object "MulesRemember$State")] yX4_enclaves cX4_enclaves 5 .int ({ frames := 4, cells := 0, slots := 0, locals := 107 } : Room) [.ref aX, .int m] ((aX, .inr (4, [.ref aT, .ref aL, .ref aC, .int (nI nm), .ref aN, .ref aY, .ref aA, .int (nI fa), .int (nI ac), .ref aO, .ref aK, .ref aG, .ref aW, .long sd])) :: rest) (-1) ((aX, .inr (4, [.ref aT, .ref aL, .ref aC, .int (nI nm), .ref aN, .ref aY, .ref aA, .int (nI fa), .int (nI ac), .ref aO, .ref aK, .ref aG, .ref aW, .long sd])) :: rest) := by
  refine MI.of [.ref aX, .int m, .null, .null, .null] (by decide) (Nat.le_of_ble_eq_true rfl) rfl ?_
  intro p e s m below meth c A C0 hr
  refine ww_aload_n C0 dX4_enclaves_0 rfl ?_
  refine ww_iload_n C0 dX4_enclaves_1 rfl ?_
  refine ww_callVi C0 (qc := (RX4, TX4, 14)) 0 4 (c_X4_isMule l D cI cZ cQ hnm) kd_X4_isMule kw_X4_113 km_X4_isMule kl_X4_isMule ki_X4 hd_X4_isMule rfl rfl ⟨Nat.le_of_ble_eq_true rfl, Nat.le_of_ble_eq_true rfl, rfl, rfl⟩ (Nat.le_of_ble_eq_true rfl) dX4_enclaves_2 rfl rfl rfl ⟨Nat.zero_le _, Nat.zero_le _⟩ ?_
  refine ww_bif_ne (tgt := 10) C0 dX4_enclaves_5 (by decide) (fun h5 => ?_) (fun h5 => ?_)
  · skip
    exact absurd h5 (by rw [hm]; decide)
  · skip
    refine ww_iconst (v := (-1)) C0 dX4_enclaves_8 rfl ?_
    exact ww_iret C0 hr dX4_enclaves_9 (by rfl) (by rfl)

set_option maxHeartbeats 4000000 in
set_option maxRecDepth 100000 in
theorem c_X4_enclaves (l : Launch) (D : va_G) (cI cZ cQ : ClassId) {aX aT aL aC aN aY aA aO aK aG aW al0 al1 al2 an0 an1 an2 : Nat} {nm fa ac na : Nat} {hN bN : Int32} {sd : Int64} {fl0 fl1 fl2 fC fn0 fn1 fn2 : Nat → Int32} {rest : va_W} {k : Nat} (hnm : nm ≤ 5) (hna : na ≤ 5) (hk : k < nm) : MI l D [(cI, .int), (cZ, .boolean), (cQ, .object "MulesRemember$State")] yX4_enclaves cX4_enclaves 5 .int ({ frames := 4, cells := 0, slots := 0, locals := 107 } : Room) [.ref aX, .int (nI k)] ((aX, .inr (4, [.ref aT, .ref aL, .ref aC, .int (nI nm), .ref aN, .ref aY, .ref aA, .int (nI fa), .int (nI ac), .ref aO, .ref aK, .ref aG, .ref aW, .long sd])) :: (aL, .inr (0, [.ref al0, .ref al1, .ref al2, .int (nI na)])) :: (al0, .inl (cI, 5, .inl (fl0))) :: (al1, .inl (cI, 5, .inl (fl1))) :: (al2, .inl (cI, 5, .inl (fl2))) :: (aC, .inl (cI, 5, .inl (fC))) :: (aN, .inr (2, [.ref an0, .ref an1, .ref an2, .int hN, .int bN])) :: (an0, .inl (cI, 5, .inl (fn0))) :: (an1, .inl (cI, 5, .inl (fn1))) :: (an2, .inl (cI, 5, .inl (fn2))) :: rest) ((sReach (fun t s way => sFF nm na fl0 fl1 fl2 fC fn0 k s way (hN + nI t)) ((1 : Int32) <<< (fn0 k &&& 31)) (sKnown na (fn1 k) (fn2 k)) 12 ^^^ (-1)) &&& 1023) ((aX, .inr (4, [.ref aT, .ref aL, .ref aC, .int (nI nm), .ref aN, .ref aY, .ref aA, .int (nI fa), .int (nI ac), .ref aO, .ref aK, .ref aG, .ref aW, .long sd])) :: (aL, .inr (0, [.ref al0, .ref al1, .ref al2, .int (nI na)])) :: (al0, .inl (cI, 5, .inl (fl0))) :: (al1, .inl (cI, 5, .inl (fl1))) :: (al2, .inl (cI, 5, .inl (fl2))) :: (aC, .inl (cI, 5, .inl (fC))) :: (aN, .inr (2, [.ref an0, .ref an1, .ref an2, .int hN, .int bN])) :: (an0, .inl (cI, 5, .inl (fn0))) :: (an1, .inl (cI, 5, .inl (fn1))) :: (an2, .inl (cI, 5, .inl (fn2))) :: rest) := by
  refine MI.of [.ref aX, .int (nI k), .null, .null, .null] (by decide) (Nat.le_of_ble_eq_true rfl) rfl ?_
  intro p e s m below meth c A C0 hr
  refine ww_aload_n C0 dX4_enclaves_0 rfl ?_
  refine ww_iload_n C0 dX4_enclaves_1 rfl ?_
  refine ww_callVi C0 (qc := (RX4, TX4, 14)) 0 4 (c_X4_isMule l D cI cZ cQ hnm) kd_X4_isMule kw_X4_113 km_X4_isMule kl_X4_isMule ki_X4 hd_X4_isMule rfl rfl ⟨Nat.le_of_ble_eq_true rfl, Nat.le_of_ble_eq_true rfl, rfl, rfl⟩ (Nat.le_of_ble_eq_true rfl) dX4_enclaves_2 rfl rfl rfl ⟨Nat.zero_le _, Nat.zero_le _⟩ ?_
  refine ww_bif_ne (tgt := 10) C0 dX4_enclaves_5 (by decide) (fun h5 => ?_) (fun h5 => ?_)
  · skip
    refine ww_aload_n C0 dX4_enclaves_10 rfl ?_
    refine ww_aload_n C0 dX4_enclaves_11 rfl ?_
    refine ww_get C0 (ci := 4) (C := RX4) (T := TX4) (N := 14) ku_X4 0 rfl rfl 4 (by decide) kw_X4_34 rfl dX4_enclaves_12 ?_
    refine ww_iload_n C0 dX4_enclaves_15 rfl ?_
    refine ww_callVi C0 (qc := (RX4, TX4, 14)) 0 4 (c_X4_known l D cI cZ cQ hnm hna hk) kd_X4_known kw_X4_123 km_X4_known kl_X4_known ki_X4 hd_X4_known rfl rfl ⟨Nat.le_of_ble_eq_true rfl, Nat.le_of_ble_eq_true rfl, rfl, rfl⟩ (Nat.le_of_ble_eq_true rfl) dX4_enclaves_16 rfl rfl rfl ⟨Nat.zero_le _, Nat.zero_le _⟩ ?_
    refine ww_istore_n (i := 2) C0 dX4_enclaves_19 rfl (Nat.le_of_ble_eq_true rfl) rfl ?_
    simp only [List.set_cons_zero, List.set_cons_succ]
    refine ww_iconst (v := (1)) C0 dX4_enclaves_20 rfl ?_
    refine ww_aload_n C0 dX4_enclaves_21 rfl ?_
    refine ww_get C0 (ci := 4) (C := RX4) (T := TX4) (N := 14) ku_X4 0 rfl rfl 4 (by decide) kw_X4_34 rfl dX4_enclaves_22 ?_
    refine ww_getN C0 (ci := 2) (C := RX2) (T := TX2) (N := 5) ku_X2 6 rfl rfl 0 (by decide) kn_X4_116 rfl dX4_enclaves_25 ?_
    refine ww_iload_n C0 dX4_enclaves_28 rfl ?_
    refine ww_iald_n (j := k) C0 7 0 rfl rfl rfl (by omega) (by decide) dX4_enclaves_29 ?_
    refine ww_ishl C0 dX4_enclaves_30 ?_
    refine ww_istore_n (i := 3) C0 dX4_enclaves_31 rfl (Nat.le_of_ble_eq_true rfl) rfl ?_
    simp only [List.set_cons_zero, List.set_cons_succ]
    refine ww_iconst (v := (0)) C0 dX4_enclaves_32 rfl ?_
    refine ww_istore (i := 4) C0 dX4_enclaves_33 (Nat.le_of_ble_eq_true rfl) rfl ?_
    simp only [List.set_cons_zero, List.set_cons_succ]
    refine ww_back (ww_loop (pc := 35) 0 (12) (by omega) (fun j => [_, _, _, .int (sReach (fun t s way => sFF nm na fl0 fl1 fl2 fC fn0 k s way (hN + nI t)) ((1 : Int32) <<< (fn0 k &&& 31)) (sKnown na (fn1 k) (fn2 k)) j), .int (nI j)]) (fun j => _) ?_ ?_) ⟨Or.inr rfl, Or.inr rfl, Or.inr rfl, Or.inr rfl, Or.inr rfl, trivial⟩ (by rfl)
    · intro j hj0 hj ih
      refine ww_iload C0 dX4_enclaves_35 rfl ?_
      refine ww_bipush (v := (12)) C0 dX4_enclaves_37 rfl ?_
      refine ww_icmp_ge (tgt := 66) C0 dX4_enclaves_39 (by decide) (fun h39 => ?_) (fun h39 => ?_)
      · skip
        replace h39 := (nI_leE (a := 12) (b := j) rfl rfl (by omega) (by omega)).mp h39
        exfalso; omega
      · skip
        replace h39 := (not_congr (nI_leE (a := 12) (b := j) rfl rfl (by omega) (by omega))).mp h39
        refine ww_aload_n C0 dX4_enclaves_42 rfl ?_
        refine ww_iload_n C0 dX4_enclaves_43 rfl ?_
        refine ww_iload_n C0 dX4_enclaves_44 rfl ?_
        refine ww_aload_n C0 dX4_enclaves_45 rfl ?_
        refine ww_get C0 (ci := 4) (C := RX4) (T := TX4) (N := 14) ku_X4 0 rfl rfl 4 (by decide) kw_X4_34 rfl dX4_enclaves_46 ?_
        refine ww_getN C0 (ci := 2) (C := RX2) (T := TX2) (N := 5) ku_X2 6 rfl rfl 3 (by decide) kn_X4_86 rfl dX4_enclaves_49 ?_
        refine ww_iload C0 dX4_enclaves_52 rfl ?_
        refine ww_iadd C0 dX4_enclaves_54 ?_
        refine ww_iload_n C0 dX4_enclaves_55 rfl ?_
        refine ww_callVi C0 (qc := (RX4, TX4, 14)) 0 4 (c_X4_spread l D cI cZ cQ hnm hna hk) kd_X4_spread kw_X4_171 km_X4_spread kl_X4_spread ki_X4 hd_X4_spread rfl rfl ⟨Nat.le_of_ble_eq_true rfl, Nat.le_of_ble_eq_true rfl, rfl, rfl⟩ (Nat.le_of_ble_eq_true rfl) dX4_enclaves_56 rfl rfl rfl ⟨Nat.zero_le _, Nat.zero_le _⟩ ?_
        refine ww_istore_n (i := 3) C0 dX4_enclaves_59 rfl (Nat.le_of_ble_eq_true rfl) rfl ?_
        simp only [List.set_cons_zero, List.set_cons_succ]
        refine ww_iinc (d := 1) C0 dX4_enclaves_60 rfl rfl rfl ?_
        simp only [List.set_cons_zero, List.set_cons_succ]
        refine ww_goto (tgt := 35) C0 dX4_enclaves_63 (by decide) ?_
        exact ww_back ih ⟨Or.inr rfl, Or.inr rfl, Or.inr rfl, Or.inr rfl, Or.inr (congrArg Value.int (nI_addE (a := j) (b := 1) rfl rfl).symm), trivial⟩ (by rfl)
    · skip
      refine ww_iload C0 dX4_enclaves_35 rfl ?_
      refine ww_bipush (v := (12)) C0 dX4_enclaves_37 rfl ?_
      refine ww_icmp_ge (tgt := 66) C0 dX4_enclaves_39 (by decide) (fun h39 => ?_) (fun h39 => ?_)
      · skip
        replace h39 := (nI_leE (a := 12) (b := 12) rfl rfl (by omega) (by omega)).mp h39
        refine ww_iload_n C0 dX4_enclaves_66 rfl ?_
        refine ww_iconst (v := (-1)) C0 dX4_enclaves_67 rfl ?_
        refine ww_ixor C0 dX4_enclaves_68 ?_
        refine ww_sipush (v := (1023)) C0 dX4_enclaves_69 rfl ?_
        refine ww_iand C0 dX4_enclaves_72 ?_
        exact ww_iret C0 hr dX4_enclaves_73 (by rfl) (by rfl)
      · skip
        replace h39 := (not_congr (nI_leE (a := 12) (b := 12) rfl rfl (by omega) (by omega))).mp h39
        exfalso; omega
  · skip
    exact absurd (isN_nI (by omega) hk) (by rw [h5]; decide)

set_option maxHeartbeats 4000000 in
set_option maxRecDepth 100000 in
theorem c_X4_teach_b (l : Launch) (D : va_G) (cI cZ cQ : ClassId) {aX aT aL aC aN aY aA aO aK aG aW : Nat} {nm fa ac : Nat} {sd : Int64} {rest : va_W} {m : Int32} (hnm : nm ≤ 5) (hm : isN nm m = false) : MI l D [(cI, .int), (cZ, .boolean), (cQ, .object "MulesRemember$State")] yX4_teach cX4_teach 7 .int ({ frames := 5, cells := 0, slots := 0, locals := 127 } : Room) [.ref aX, .int m] ((aX, .inr (4, [.ref aT, .ref aL, .ref aC, .int (nI nm), .ref aN, .ref aY, .ref aA, .int (nI fa), .int (nI ac), .ref aO, .ref aK, .ref aG, .ref aW, .long sd])) :: rest) (-1) ((aX, .inr (4, [.ref aT, .ref aL, .ref aC, .int (nI nm), .ref aN, .ref aY, .ref aA, .int (nI fa), .int (nI ac), .ref aO, .ref aK, .ref aG, .ref aW, .long sd])) :: rest) := by
  refine MI.of [.ref aX, .int m, .null, .null, .null, .null, .null] (by decide) (Nat.le_of_ble_eq_true rfl) rfl ?_
  intro p e s m below meth c A C0 hr
  refine ww_aload_n C0 dX4_teach_0 rfl ?_
  refine ww_iload_n C0 dX4_teach_1 rfl ?_
  refine ww_callVi C0 (qc := (RX4, TX4, 14)) 0 4 (c_X4_isMule l D cI cZ cQ hnm) kd_X4_isMule kw_X4_113 km_X4_isMule kl_X4_isMule ki_X4 hd_X4_isMule rfl rfl ⟨Nat.le_of_ble_eq_true rfl, Nat.le_of_ble_eq_true rfl, rfl, rfl⟩ (Nat.le_of_ble_eq_true rfl) dX4_teach_2 rfl rfl rfl ⟨Nat.zero_le _, Nat.zero_le _⟩ ?_
  refine ww_bif_ne (tgt := 10) C0 dX4_teach_5 (by decide) (fun h5 => ?_) (fun h5 => ?_)
  · skip
    exact absurd h5 (by rw [hm]; decide)
  · skip
    refine ww_iconst (v := (-1)) C0 dX4_teach_8 rfl ?_
    exact ww_iret C0 hr dX4_teach_9 (by rfl) (by rfl)

set_option maxHeartbeats 4000000 in
set_option maxRecDepth 100000 in
theorem c_X4_teach (l : Launch) (D : va_G) (cI cZ cQ : ClassId) {aX aT aL aC aN aY aA aO aK aG aW al0 al1 al2 an0 an1 an2 : Nat} {nm fa ac na : Nat} {hN bN : Int32} {sd : Int64} {fl0 fl1 fl2 fC fn0 fn1 fn2 : Nat → Int32} {rest : va_W} {k : Nat} (hnm : nm ≤ 5) (hna : na ≤ 5) (hk : k < nm) : MI l D [(cI, .int), (cZ, .boolean), (cQ, .object "MulesRemember$State")] yX4_teach cX4_teach 7 .int ({ frames := 5, cells := 0, slots := 0, locals := 127 } : Room) [.ref aX, .int (nI k)] ((aX, .inr (4, [.ref aT, .ref aL, .ref aC, .int (nI nm), .ref aN, .ref aY, .ref aA, .int (nI fa), .int (nI ac), .ref aO, .ref aK, .ref aG, .ref aW, .long sd])) :: (aL, .inr (0, [.ref al0, .ref al1, .ref al2, .int (nI na)])) :: (al0, .inl (cI, 5, .inl (fl0))) :: (al1, .inl (cI, 5, .inl (fl1))) :: (al2, .inl (cI, 5, .inl (fl2))) :: (aC, .inl (cI, 5, .inl (fC))) :: (aN, .inr (2, [.ref an0, .ref an1, .ref an2, .int hN, .int bN])) :: (an0, .inl (cI, 5, .inl (fn0))) :: (an1, .inl (cI, 5, .inl (fn1))) :: (an2, .inl (cI, 5, .inl (fn2))) :: rest) ((sTeach (sKnown na (fn1 k) (fn2 k)) (fun t => sKeep1 (sFF nm na fl0 fl1 fl2 fC fn0 k (fn0 k) 0 hN) (sKnown na (fn1 k) (fn2 k ||| nI t)) && sKeep1 (sFF nm na fl0 fl1 fl2 fC fn0 k (fn0 k) 1 hN) (sKnown na (fn1 k) (fn2 k ||| nI t))) (2 ^ na)).1) ((aX, .inr (4, [.ref aT, .ref aL, .ref aC, .int (nI nm), .ref aN, .ref aY, .ref aA, .int (nI fa), .int (nI ac), .ref aO, .ref aK, .ref aG, .ref aW, .long sd])) :: (aL, .inr (0, [.ref al0, .ref al1, .ref al2, .int (nI na)])) :: (al0, .inl (cI, 5, .inl (fl0))) :: (al1, .inl (cI, 5, .inl (fl1))) :: (al2, .inl (cI, 5, .inl (fl2))) :: (aC, .inl (cI, 5, .inl (fC))) :: (aN, .inr (2, [.ref an0, .ref an1, .ref an2, .int hN, .int bN])) :: (an0, .inl (cI, 5, .inl (fn0))) :: (an1, .inl (cI, 5, .inl (fn1))) :: (an2, .inl (cI, 5, .inl (fn2))) :: rest) := by
  refine MI.of [.ref aX, .int (nI k), .null, .null, .null, .null, .null] (by decide) (Nat.le_of_ble_eq_true rfl) rfl ?_
  intro p e s m below meth c A C0 hr
  have hp := pow5 hna
  refine ww_aload_n C0 dX4_teach_0 rfl ?_
  refine ww_iload_n C0 dX4_teach_1 rfl ?_
  refine ww_callVi C0 (qc := (RX4, TX4, 14)) 0 4 (c_X4_isMule l D cI cZ cQ hnm) kd_X4_isMule kw_X4_113 km_X4_isMule kl_X4_isMule ki_X4 hd_X4_isMule rfl rfl ⟨Nat.le_of_ble_eq_true rfl, Nat.le_of_ble_eq_true rfl, rfl, rfl⟩ (Nat.le_of_ble_eq_true rfl) dX4_teach_2 rfl rfl rfl ⟨Nat.zero_le _, Nat.zero_le _⟩ ?_
  refine ww_bif_ne (tgt := 10) C0 dX4_teach_5 (by decide) (fun h5 => ?_) (fun h5 => ?_)
  · skip
    refine ww_aload_n C0 dX4_teach_10 rfl ?_
    refine ww_aload_n C0 dX4_teach_11 rfl ?_
    refine ww_get C0 (ci := 4) (C := RX4) (T := TX4) (N := 14) ku_X4 0 rfl rfl 4 (by decide) kw_X4_34 rfl dX4_teach_12 ?_
    refine ww_iload_n C0 dX4_teach_15 rfl ?_
    refine ww_callVi C0 (qc := (RX4, TX4, 14)) 0 4 (c_X4_known l D cI cZ cQ hnm hna hk) kd_X4_known kw_X4_123 km_X4_known kl_X4_known ki_X4 hd_X4_known rfl rfl ⟨Nat.le_of_ble_eq_true rfl, Nat.le_of_ble_eq_true rfl, rfl, rfl⟩ (Nat.le_of_ble_eq_true rfl) dX4_teach_16 rfl rfl rfl ⟨Nat.zero_le _, Nat.zero_le _⟩ ?_
    refine ww_istore_n (i := 2) C0 dX4_teach_19 rfl (Nat.le_of_ble_eq_true rfl) rfl ?_
    simp only [List.set_cons_zero, List.set_cons_succ]
    refine ww_bipush (v := (-9)) C0 dX4_teach_20 rfl ?_
    refine ww_istore_n (i := 3) C0 dX4_teach_22 rfl (Nat.le_of_ble_eq_true rfl) rfl ?_
    simp only [List.set_cons_zero, List.set_cons_succ]
    refine ww_bipush (v := (6)) C0 dX4_teach_23 rfl ?_
    refine ww_istore (i := 4) C0 dX4_teach_25 (Nat.le_of_ble_eq_true rfl) rfl ?_
    simp only [List.set_cons_zero, List.set_cons_succ]
    refine ww_iconst (v := (0)) C0 dX4_teach_27 rfl ?_
    refine ww_istore (i := 5) C0 dX4_teach_28 (Nat.le_of_ble_eq_true rfl) rfl ?_
    simp only [List.set_cons_zero, List.set_cons_succ]
    refine ww_back (ww_loop (pc := 30) 0 ((2 ^ na)) (by omega) (fun j => [_, _, _, .int (sTeach (sKnown na (fn1 k) (fn2 k)) (fun t => sKeep1 (sFF nm na fl0 fl1 fl2 fC fn0 k (fn0 k) 0 hN) (sKnown na (fn1 k) (fn2 k ||| nI t)) && sKeep1 (sFF nm na fl0 fl1 fl2 fC fn0 k (fn0 k) 1 hN) (sKnown na (fn1 k) (fn2 k ||| nI t))) j).1, .int (sTeach (sKnown na (fn1 k) (fn2 k)) (fun t => sKeep1 (sFF nm na fl0 fl1 fl2 fC fn0 k (fn0 k) 0 hN) (sKnown na (fn1 k) (fn2 k ||| nI t)) && sKeep1 (sFF nm na fl0 fl1 fl2 fC fn0 k (fn0 k) 1 hN) (sKnown na (fn1 k) (fn2 k ||| nI t))) j).2, .int (nI j), .null]) (fun j => _) ?_ ?_) ⟨Or.inr rfl, Or.inr rfl, Or.inr rfl, Or.inr rfl, Or.inr rfl, Or.inr rfl, Or.inl rfl, trivial⟩ (by rfl)
    · intro j hj0 hj ih
      refine ww_iload C0 dX4_teach_30 rfl ?_
      refine ww_aload_n C0 dX4_teach_32 rfl ?_
      refine ww_get C0 (ci := 4) (C := RX4) (T := TX4) (N := 14) ku_X4 0 rfl rfl 1 (by decide) kw_X4_19 rfl dX4_teach_33 ?_
      refine ww_callVNi C0 (qc := (RX0, TX0, 4)) 1 0 (c_X0_all l D cI cZ cQ) kd_X0_all kn_X4_168 km_X0_all kl_X0_all ki_X0 hd_X0_all rfl rfl ⟨Nat.le_of_ble_eq_true rfl, Nat.le_of_ble_eq_true rfl, rfl, rfl⟩ (Nat.le_of_ble_eq_true rfl) dX4_teach_36 rfl rfl rfl ⟨Nat.zero_le _, Nat.zero_le _⟩ ?_
      refine ww_top (sAll_nI hna) ?_
      refine ww_icmp_gt (tgt := 86) C0 dX4_teach_39 (by decide) (fun h39 => ?_) (fun h39 => ?_)
      · skip
        replace h39 := (nI_ltE (a := 2 ^ na - 1) (b := j) rfl rfl (by omega) (by omega)).mp h39
        exfalso; omega
      · skip
        replace h39 := (not_congr (nI_ltE (a := 2 ^ na - 1) (b := j) rfl rfl (by omega) (by omega))).mp h39
        refine ww_iload C0 dX4_teach_42 rfl ?_
        refine ww_callSi C0 (c_J6_bitCount_0f7a4 l D cI cZ cQ) kd_J6_bitCount_0f7a4 kw_X4_152 ks_J6_bitCount_0f7a4 ki_J6 hd_J6_bitCount_0f7a4 ⟨Nat.le_of_ble_eq_true rfl, Nat.le_of_ble_eq_true rfl, rfl, rfl⟩ (Nat.le_of_ble_eq_true rfl) dX4_teach_44 rfl rfl ⟨Nat.zero_le _, Nat.zero_le _⟩ ?_
        refine ww_istore (i := 6) C0 dX4_teach_47 (Nat.le_of_ble_eq_true rfl) rfl ?_
        simp only [List.set_cons_zero, List.set_cons_succ]
        refine ww_iload C0 dX4_teach_49 rfl ?_
        refine ww_iload_n C0 dX4_teach_51 rfl ?_
        refine ww_iand C0 dX4_teach_52 ?_
        refine ww_if_ne (tgt := 80) C0 dX4_teach_53 (by decide) (fun h53 => ?_) (fun h53 => ?_)
        · skip
          refine ww_iinc (d := 1) C0 dX4_teach_80 rfl rfl rfl ?_
          simp only [List.set_cons_zero, List.set_cons_succ]
          refine ww_goto (tgt := 30) C0 dX4_teach_83 (by decide) ?_
          exact ww_back ih ⟨Or.inr rfl, Or.inr rfl, Or.inr rfl, Or.inr (congrArg Value.int (by simp [sTeach, *])), Or.inr (congrArg Value.int (by simp [sTeach, *])), Or.inr (congrArg Value.int (nI_addE (a := j) (b := 1) rfl rfl).symm), Or.inl rfl, trivial⟩ (by rfl)
        · skip
          refine ww_iload C0 dX4_teach_56 rfl ?_
          refine ww_iload C0 dX4_teach_58 rfl ?_
          refine ww_icmp_ge (tgt := 80) C0 dX4_teach_60 (by decide) (fun h60 => ?_) (fun h60 => ?_)
          · skip
            have h60z := i32_nlt.mpr h60
            refine ww_iinc (d := 1) C0 dX4_teach_80 rfl rfl rfl ?_
            simp only [List.set_cons_zero, List.set_cons_succ]
            refine ww_goto (tgt := 30) C0 dX4_teach_83 (by decide) ?_
            exact ww_back ih ⟨Or.inr rfl, Or.inr rfl, Or.inr rfl, Or.inr (congrArg Value.int (by simp [sTeach, *])), Or.inr (congrArg Value.int (by simp [sTeach, *])), Or.inr (congrArg Value.int (nI_addE (a := j) (b := 1) rfl rfl).symm), Or.inl rfl, trivial⟩ (by rfl)
          · skip
            have h60z := i32_nle.mp h60
            refine ww_aload_n C0 dX4_teach_63 rfl ?_
            refine ww_iload_n C0 dX4_teach_64 rfl ?_
            refine ww_iload C0 dX4_teach_65 rfl ?_
            refine ww_callVi C0 (qc := (RX4, TX4, 14)) 0 4 (c_X4_keepsAllIfShown l D cI cZ cQ hnm hna hk) kd_X4_keepsAllIfShown kw_X4_175 km_X4_keepsAllIfShown kl_X4_keepsAllIfShown ki_X4 hd_X4_keepsAllIfShown rfl rfl ⟨Nat.le_of_ble_eq_true rfl, Nat.le_of_ble_eq_true rfl, rfl, rfl⟩ (Nat.le_of_ble_eq_true rfl) dX4_teach_67 rfl rfl rfl ⟨Nat.zero_le _, Nat.zero_le _⟩ ?_
            refine ww_bif_eq (tgt := 80) C0 dX4_teach_70 (by decide) (fun h70 => ?_) (fun h70 => ?_)
            · skip
              refine ww_iinc (d := 1) C0 dX4_teach_80 rfl rfl rfl ?_
              simp only [List.set_cons_zero, List.set_cons_succ]
              refine ww_goto (tgt := 30) C0 dX4_teach_83 (by decide) ?_
              exact ww_back ih ⟨Or.inr rfl, Or.inr rfl, Or.inr rfl, Or.inr (congrArg Value.int (by simp [sTeach, *])), Or.inr (congrArg Value.int (by simp [sTeach, *])), Or.inr (congrArg Value.int (nI_addE (a := j) (b := 1) rfl rfl).symm), Or.inl rfl, trivial⟩ (by rfl)
            · skip
              refine ww_iload C0 dX4_teach_73 rfl ?_
              refine ww_istore_n (i := 3) C0 dX4_teach_75 rfl (Nat.le_of_ble_eq_true rfl) rfl ?_
              simp only [List.set_cons_zero, List.set_cons_succ]
              refine ww_iload C0 dX4_teach_76 rfl ?_
              refine ww_istore (i := 4) C0 dX4_teach_78 (Nat.le_of_ble_eq_true rfl) rfl ?_
              simp only [List.set_cons_zero, List.set_cons_succ]
              refine ww_iinc (d := 1) C0 dX4_teach_80 rfl rfl rfl ?_
              simp only [List.set_cons_zero, List.set_cons_succ]
              refine ww_goto (tgt := 30) C0 dX4_teach_83 (by decide) ?_
              exact ww_back ih ⟨Or.inr rfl, Or.inr rfl, Or.inr rfl, Or.inr (congrArg Value.int (by simp [sTeach, *])), Or.inr (congrArg Value.int (by simp [sTeach, *])), Or.inr (congrArg Value.int (nI_addE (a := j) (b := 1) rfl rfl).symm), Or.inl rfl, trivial⟩ (by rfl)
    · skip
      refine ww_iload C0 dX4_teach_30 rfl ?_
      refine ww_aload_n C0 dX4_teach_32 rfl ?_
      refine ww_get C0 (ci := 4) (C := RX4) (T := TX4) (N := 14) ku_X4 0 rfl rfl 1 (by decide) kw_X4_19 rfl dX4_teach_33 ?_
      refine ww_callVNi C0 (qc := (RX0, TX0, 4)) 1 0 (c_X0_all l D cI cZ cQ) kd_X0_all kn_X4_168 km_X0_all kl_X0_all ki_X0 hd_X0_all rfl rfl ⟨Nat.le_of_ble_eq_true rfl, Nat.le_of_ble_eq_true rfl, rfl, rfl⟩ (Nat.le_of_ble_eq_true rfl) dX4_teach_36 rfl rfl rfl ⟨Nat.zero_le _, Nat.zero_le _⟩ ?_
      refine ww_top (sAll_nI hna) ?_
      refine ww_icmp_gt (tgt := 86) C0 dX4_teach_39 (by decide) (fun h39 => ?_) (fun h39 => ?_)
      · skip
        replace h39 := (nI_ltE (a := 2 ^ na - 1) (b := ((2 ^ na))) rfl rfl (by omega) (by omega)).mp h39
        refine ww_iload_n C0 dX4_teach_86 rfl ?_
        exact ww_iret C0 hr dX4_teach_87 (by rfl) (by rfl)
      · skip
        replace h39 := (not_congr (nI_ltE (a := 2 ^ na - 1) (b := ((2 ^ na))) rfl rfl (by omega) (by omega))).mp h39
        exfalso; omega
  · skip
    exact absurd (isN_nI (by omega) hk) (by rw [h5]; decide)

set_option maxHeartbeats 4000000 in
set_option maxRecDepth 100000 in
theorem c_X4_differ_b (l : Launch) (D : va_G) (cI cZ cQ : ClassId) {aX aT aL aC aN aY aA aO aK aG aW : Nat} {nm fa ac : Nat} {sd : Int64} {rest : va_W} {m o : Int32} (hnm : nm ≤ 5) (hm : (isN nm m && isN nm o) = false) : MI l D [(cI, .int), (cZ, .boolean), (cQ, .object "MulesRemember$State")] yX4_differ cX4_differ 3 .int ({ frames := 3, cells := 0, slots := 0, locals := 65 } : Room) [.ref aX, .int m, .int o] ((aX, .inr (4, [.ref aT, .ref aL, .ref aC, .int (nI nm), .ref aN, .ref aY, .ref aA, .int (nI fa), .int (nI ac), .ref aO, .ref aK, .ref aG, .ref aW, .long sd])) :: rest) (-1) ((aX, .inr (4, [.ref aT, .ref aL, .ref aC, .int (nI nm), .ref aN, .ref aY, .ref aA, .int (nI fa), .int (nI ac), .ref aO, .ref aK, .ref aG, .ref aW, .long sd])) :: rest) := by
  refine MI.of [.ref aX, .int m, .int o] (by decide) (Nat.le_of_ble_eq_true rfl) rfl ?_
  intro p e s m below meth c A C0 hr
  refine ww_aload_n C0 dX4_differ_0 rfl ?_
  refine ww_iload_n C0 dX4_differ_1 rfl ?_
  refine ww_callVi C0 (qc := (RX4, TX4, 14)) 0 4 (c_X4_isMule l D cI cZ cQ hnm) kd_X4_isMule kw_X4_113 km_X4_isMule kl_X4_isMule ki_X4 hd_X4_isMule rfl rfl ⟨Nat.le_of_ble_eq_true rfl, Nat.le_of_ble_eq_true rfl, rfl, rfl⟩ (Nat.le_of_ble_eq_true rfl) dX4_differ_2 rfl rfl rfl ⟨Nat.zero_le _, Nat.zero_le _⟩ ?_
  refine ww_bif_eq (tgt := 16) C0 dX4_differ_5 (by decide) (fun h5 => ?_) (fun h5 => ?_)
  · skip
    refine ww_iconst (v := (-1)) C0 dX4_differ_16 rfl ?_
    exact ww_iret C0 hr dX4_differ_17 (by rfl) (by rfl)
  · skip
    refine ww_aload_n C0 dX4_differ_8 rfl ?_
    refine ww_iload_n C0 dX4_differ_9 rfl ?_
    refine ww_callVi C0 (qc := (RX4, TX4, 14)) 0 4 (c_X4_isMule l D cI cZ cQ hnm) kd_X4_isMule kw_X4_113 km_X4_isMule kl_X4_isMule ki_X4 hd_X4_isMule rfl rfl ⟨Nat.le_of_ble_eq_true rfl, Nat.le_of_ble_eq_true rfl, rfl, rfl⟩ (Nat.le_of_ble_eq_true rfl) dX4_differ_10 rfl rfl rfl ⟨Nat.zero_le _, Nat.zero_le _⟩ ?_
    refine ww_bif_ne (tgt := 18) C0 dX4_differ_13 (by decide) (fun h13 => ?_) (fun h13 => ?_)
    · skip
      exact absurd hm (by rw [h5, h13]; decide)
    · skip
      refine ww_iconst (v := (-1)) C0 dX4_differ_16 rfl ?_
      exact ww_iret C0 hr dX4_differ_17 (by rfl) (by rfl)

set_option maxHeartbeats 4000000 in
set_option maxRecDepth 100000 in
theorem c_X4_differ (l : Launch) (D : va_G) (cI cZ cQ : ClassId) {aX aT aL aC aN aY aA aO aK aG aW al0 al1 al2 an0 an1 an2 : Nat} {nm fa ac na : Nat} {hN bN : Int32} {sd : Int64} {fl0 fl1 fl2 fC fn0 fn1 fn2 : Nat → Int32} {rest : va_W} {k o : Nat} (hnm : nm ≤ 5) (hna : na ≤ 5) (hk : k < nm) (ho : o < nm) : MI l D [(cI, .int), (cZ, .boolean), (cQ, .object "MulesRemember$State")] yX4_differ cX4_differ 3 .int ({ frames := 3, cells := 0, slots := 0, locals := 65 } : Room) [.ref aX, .int (nI k), .int (nI o)] ((aX, .inr (4, [.ref aT, .ref aL, .ref aC, .int (nI nm), .ref aN, .ref aY, .ref aA, .int (nI fa), .int (nI ac), .ref aO, .ref aK, .ref aG, .ref aW, .long sd])) :: (aL, .inr (0, [.ref al0, .ref al1, .ref al2, .int (nI na)])) :: (al0, .inl (cI, 5, .inl (fl0))) :: (al1, .inl (cI, 5, .inl (fl1))) :: (al2, .inl (cI, 5, .inl (fl2))) :: (aC, .inl (cI, 5, .inl (fC))) :: (aN, .inr (2, [.ref an0, .ref an1, .ref an2, .int hN, .int bN])) :: (an0, .inl (cI, 5, .inl (fn0))) :: (an1, .inl (cI, 5, .inl (fn1))) :: (an2, .inl (cI, 5, .inl (fn2))) :: rest) (sFirst ((sKnown na (fn1 k) (fn2 k)) ^^^ (sKnown na (fn1 o) (fn2 o)))) ((aX, .inr (4, [.ref aT, .ref aL, .ref aC, .int (nI nm), .ref aN, .ref aY, .ref aA, .int (nI fa), .int (nI ac), .ref aO, .ref aK, .ref aG, .ref aW, .long sd])) :: (aL, .inr (0, [.ref al0, .ref al1, .ref al2, .int (nI na)])) :: (al0, .inl (cI, 5, .inl (fl0))) :: (al1, .inl (cI, 5, .inl (fl1))) :: (al2, .inl (cI, 5, .inl (fl2))) :: (aC, .inl (cI, 5, .inl (fC))) :: (aN, .inr (2, [.ref an0, .ref an1, .ref an2, .int hN, .int bN])) :: (an0, .inl (cI, 5, .inl (fn0))) :: (an1, .inl (cI, 5, .inl (fn1))) :: (an2, .inl (cI, 5, .inl (fn2))) :: rest) := by
  refine MI.of [.ref aX, .int (nI k), .int (nI o)] (by decide) (Nat.le_of_ble_eq_true rfl) rfl ?_
  intro p e s m below meth c A C0 hr
  refine ww_aload_n C0 dX4_differ_0 rfl ?_
  refine ww_iload_n C0 dX4_differ_1 rfl ?_
  refine ww_callVi C0 (qc := (RX4, TX4, 14)) 0 4 (c_X4_isMule l D cI cZ cQ hnm) kd_X4_isMule kw_X4_113 km_X4_isMule kl_X4_isMule ki_X4 hd_X4_isMule rfl rfl ⟨Nat.le_of_ble_eq_true rfl, Nat.le_of_ble_eq_true rfl, rfl, rfl⟩ (Nat.le_of_ble_eq_true rfl) dX4_differ_2 rfl rfl rfl ⟨Nat.zero_le _, Nat.zero_le _⟩ ?_
  refine ww_bif_eq (tgt := 16) C0 dX4_differ_5 (by decide) (fun h5 => ?_) (fun h5 => ?_)
  · skip
    exact absurd (isN_nI (by omega) hk) (by rw [h5]; decide)
  · skip
    refine ww_aload_n C0 dX4_differ_8 rfl ?_
    refine ww_iload_n C0 dX4_differ_9 rfl ?_
    refine ww_callVi C0 (qc := (RX4, TX4, 14)) 0 4 (c_X4_isMule l D cI cZ cQ hnm) kd_X4_isMule kw_X4_113 km_X4_isMule kl_X4_isMule ki_X4 hd_X4_isMule rfl rfl ⟨Nat.le_of_ble_eq_true rfl, Nat.le_of_ble_eq_true rfl, rfl, rfl⟩ (Nat.le_of_ble_eq_true rfl) dX4_differ_10 rfl rfl rfl ⟨Nat.zero_le _, Nat.zero_le _⟩ ?_
    refine ww_bif_ne (tgt := 18) C0 dX4_differ_13 (by decide) (fun h13 => ?_) (fun h13 => ?_)
    · skip
      refine ww_aload_n C0 dX4_differ_18 rfl ?_
      refine ww_aload_n C0 dX4_differ_19 rfl ?_
      refine ww_get C0 (ci := 4) (C := RX4) (T := TX4) (N := 14) ku_X4 0 rfl rfl 4 (by decide) kw_X4_34 rfl dX4_differ_20 ?_
      refine ww_iload_n C0 dX4_differ_23 rfl ?_
      refine ww_callVi C0 (qc := (RX4, TX4, 14)) 0 4 (c_X4_known l D cI cZ cQ hnm hna hk) kd_X4_known kw_X4_123 km_X4_known kl_X4_known ki_X4 hd_X4_known rfl rfl ⟨Nat.le_of_ble_eq_true rfl, Nat.le_of_ble_eq_true rfl, rfl, rfl⟩ (Nat.le_of_ble_eq_true rfl) dX4_differ_24 rfl rfl rfl ⟨Nat.zero_le _, Nat.zero_le _⟩ ?_
      refine ww_aload_n C0 dX4_differ_27 rfl ?_
      refine ww_aload_n C0 dX4_differ_28 rfl ?_
      refine ww_get C0 (ci := 4) (C := RX4) (T := TX4) (N := 14) ku_X4 0 rfl rfl 4 (by decide) kw_X4_34 rfl dX4_differ_29 ?_
      refine ww_iload_n C0 dX4_differ_32 rfl ?_
      refine ww_callVi C0 (qc := (RX4, TX4, 14)) 0 4 (c_X4_known l D cI cZ cQ hnm hna ho) kd_X4_known kw_X4_123 km_X4_known kl_X4_known ki_X4 hd_X4_known rfl rfl ⟨Nat.le_of_ble_eq_true rfl, Nat.le_of_ble_eq_true rfl, rfl, rfl⟩ (Nat.le_of_ble_eq_true rfl) dX4_differ_33 rfl rfl rfl ⟨Nat.zero_le _, Nat.zero_le _⟩ ?_
      refine ww_ixor C0 dX4_differ_36 ?_
      refine ww_callSi C0 (c_X4_firstOf l D cI cZ cQ) kd_X4_firstOf kw_X4_138 ks_X4_firstOf ki_X4 hd_X4_firstOf ⟨Nat.le_of_ble_eq_true rfl, Nat.le_of_ble_eq_true rfl, rfl, rfl⟩ (Nat.le_of_ble_eq_true rfl) dX4_differ_37 rfl rfl ⟨Nat.zero_le _, Nat.zero_le _⟩ ?_
      exact ww_iret C0 hr dX4_differ_40 (by rfl) (by rfl)
    · skip
      exact absurd (isN_nI (by omega) ho) (by rw [h13]; decide)

set_option maxHeartbeats 4000000 in
set_option maxRecDepth 100000 in
theorem c_X4_judge_b (l : Launch) (D : va_G) (cI cZ cQ : ClassId) {rest : va_W} {aX : Nat} {n ro : Int32} (hb : n < 1 ∨ 4 < n ∨ ro < 0) : MI l D [(cI, .int), (cZ, .boolean), (cQ, .object "MulesRemember$State")] yX4_judge cX4_judge 6 .int ({ frames := 6, cells := 0, slots := 0, locals := 150 } : Room) [.ref aX, .int n, .int ro] (rest) (-2) (rest) := by
  refine MI.of [.ref aX, .int n, .int ro, .null, .null, .null] (by decide) (Nat.le_of_ble_eq_true rfl) rfl ?_
  intro p e s m below meth c A C0 hr
  refine ww_iload_n C0 dX4_judge_0 rfl ?_
  refine ww_iconst (v := (1)) C0 dX4_judge_1 rfl ?_
  refine ww_icmp_lt (tgt := 14) C0 dX4_judge_2 (by decide) (fun h2 => ?_) (fun h2 => ?_)
  · skip
    refine ww_bipush (v := (-2)) C0 dX4_judge_14 rfl ?_
    exact ww_iret C0 hr dX4_judge_16 (by rfl) (by rfl)
  · skip
    refine ww_iload_n C0 dX4_judge_5 rfl ?_
    refine ww_iconst (v := (4)) C0 dX4_judge_6 rfl ?_
    refine ww_icmp_gt (tgt := 14) C0 dX4_judge_7 (by decide) (fun h7 => ?_) (fun h7 => ?_)
    · skip
      refine ww_bipush (v := (-2)) C0 dX4_judge_14 rfl ?_
      exact ww_iret C0 hr dX4_judge_16 (by rfl) (by rfl)
    · skip
      refine ww_iload_n C0 dX4_judge_10 rfl ?_
      refine ww_if_ge (tgt := 17) C0 dX4_judge_11 (by decide) (fun h11 => ?_) (fun h11 => ?_)
      · skip
        rcases hb with hb | hb | hb
        · exact absurd hb h2
        · exact absurd hb h7
        · exact absurd hb (i32_nlt.mpr h11)
      · skip
        refine ww_bipush (v := (-2)) C0 dX4_judge_14 rfl ?_
        exact ww_iret C0 hr dX4_judge_16 (by rfl) (by rfl)

set_option maxHeartbeats 4000000 in
set_option maxRecDepth 100000 in
theorem c_X4_judge_b2 (l : Launch) (D : va_G) (cI cZ cQ : ClassId) {rest : va_W} {aX nn rw0 : Nat} (hn1 : 1 ≤ nn) (hn4 : nn ≤ 4) (hrw : rw0 < 2 ^ 31) (hbig : 99 < rw0 / 100 ^ (nn - 1)) : MI l D [(cI, .int), (cZ, .boolean), (cQ, .object "MulesRemember$State")] yX4_judge cX4_judge 6 .int ({ frames := 6, cells := 0, slots := 0, locals := 150 } : Room) [.ref aX, .int (nI nn), .int (nI rw0)] (rest) (-2) (rest) := by
  refine MI.of [.ref aX, .int (nI nn), .int (nI rw0), .null, .null, .null] (by decide) (Nat.le_of_ble_eq_true rfl) rfl ?_
  intro p e s m below meth c A C0 hr
  have hU := jp hn1 hn4
  have hdv : rw0 / 100 ^ (nn - 1) ≤ rw0 := Nat.div_le_self _ _
  refine ww_iload_n C0 dX4_judge_0 rfl ?_
  refine ww_iconst (v := (1)) C0 dX4_judge_1 rfl ?_
  refine ww_icmp_lt (tgt := 14) C0 dX4_judge_2 (by decide) (fun h2 => ?_) (fun h2 => ?_)
  · skip
    replace h2 := (nI_ltE (a := nn) (b := 1) rfl rfl (by omega) (by omega)).mp h2
    exfalso; omega
  · skip
    replace h2 := (not_congr (nI_ltE (a := nn) (b := 1) rfl rfl (by omega) (by omega))).mp h2
    refine ww_iload_n C0 dX4_judge_5 rfl ?_
    refine ww_iconst (v := (4)) C0 dX4_judge_6 rfl ?_
    refine ww_icmp_gt (tgt := 14) C0 dX4_judge_7 (by decide) (fun h7 => ?_) (fun h7 => ?_)
    · skip
      replace h7 := (nI_ltE (a := 4) (b := nn) rfl rfl (by omega) (by omega)).mp h7
      exfalso; omega
    · skip
      replace h7 := (not_congr (nI_ltE (a := 4) (b := nn) rfl rfl (by omega) (by omega))).mp h7
      refine ww_iload_n C0 dX4_judge_10 rfl ?_
      refine ww_if_ge (tgt := 17) C0 dX4_judge_11 (by decide) (fun h11 => ?_) (fun h11 => ?_)
      · skip
        replace h11 := (nI_leE (a := 0) (b := rw0) rfl rfl (by omega) (by omega)).mp h11
        refine ww_iconst (v := (1)) C0 dX4_judge_17 rfl ?_
        refine ww_istore_n (i := 3) C0 dX4_judge_18 rfl (Nat.le_of_ble_eq_true rfl) rfl ?_
        simp only [List.set_cons_zero, List.set_cons_succ]
        refine ww_iconst (v := (1)) C0 dX4_judge_19 rfl ?_
        refine ww_istore (i := 4) C0 dX4_judge_20 (Nat.le_of_ble_eq_true rfl) rfl ?_
        simp only [List.set_cons_zero, List.set_cons_succ]
        refine ww_back (ww_loop (pc := 22) 1 (nn) (by omega) (fun j => [_, _, _, .int (nI (100 ^ (j - 1))), .int (nI j), _]) (fun j => _) ?_ ?_) ⟨Or.inr rfl, Or.inr rfl, Or.inr rfl, Or.inr rfl, Or.inr rfl, Or.inr rfl, trivial⟩ (by rfl)
        · intro j hj0 hj ih
          refine ww_iload C0 dX4_judge_22 rfl ?_
          refine ww_iload_n C0 dX4_judge_24 rfl ?_
          refine ww_icmp_ge (tgt := 39) C0 dX4_judge_25 (by decide) (fun h25 => ?_) (fun h25 => ?_)
          · skip
            replace h25 := (nI_leE (a := nn) (b := j) rfl rfl (by omega) (by omega)).mp h25
            exfalso; omega
          · skip
            replace h25 := (not_congr (nI_leE (a := nn) (b := j) rfl rfl (by omega) (by omega))).mp h25
            refine ww_iload_n C0 dX4_judge_28 rfl ?_
            refine ww_bipush (v := (100)) C0 dX4_judge_29 rfl ?_
            refine ww_imul C0 dX4_judge_31 ?_
            refine ww_istore_n (i := 3) C0 dX4_judge_32 rfl (Nat.le_of_ble_eq_true rfl) rfl ?_
            simp only [List.set_cons_zero, List.set_cons_succ]
            refine ww_iinc (d := 1) C0 dX4_judge_33 rfl rfl rfl ?_
            simp only [List.set_cons_zero, List.set_cons_succ]
            refine ww_goto (tgt := 22) C0 dX4_judge_36 (by decide) ?_
            exact ww_back ih ⟨Or.inr rfl, Or.inr rfl, Or.inr rfl, Or.inr (congrArg Value.int (js hj0)), Or.inr (congrArg Value.int (nI_addE (a := j) (b := 1) rfl rfl).symm), Or.inr rfl, trivial⟩ (by rfl)
        · skip
          refine ww_iload C0 dX4_judge_22 rfl ?_
          refine ww_iload_n C0 dX4_judge_24 rfl ?_
          refine ww_icmp_ge (tgt := 39) C0 dX4_judge_25 (by decide) (fun h25 => ?_) (fun h25 => ?_)
          · skip
            replace h25 := (nI_leE (a := nn) (b := nn) rfl rfl (by omega) (by omega)).mp h25
            refine ww_iload_n C0 dX4_judge_39 rfl ?_
            refine ww_if_le (tgt := 51) C0 dX4_judge_40 (by decide) (fun h40 => ?_) (fun h40 => ?_)
            · skip
              replace h40 := (nI_leE (a := 100 ^ (nn - 1)) (b := 0) rfl rfl (by omega) (by omega)).mp h40
              exfalso; omega
            · skip
              replace h40 := (not_congr (nI_leE (a := 100 ^ (nn - 1)) (b := 0) rfl rfl (by omega) (by omega))).mp h40
              refine ww_iload_n C0 dX4_judge_43 rfl ?_
              refine ww_iload_n C0 dX4_judge_44 rfl ?_
              refine ww_idiv C0 dX4_judge_45 (nI_ne0 (by omega) (by omega)) ?_
              refine ww_bipush (v := (99)) C0 dX4_judge_46 rfl ?_
              refine ww_icmp_le (tgt := 54) C0 dX4_judge_48 (by decide) (fun h48 => ?_) (fun h48 => ?_)
              · skip
                replace h48 := (nI_leE (a := rw0 / (100 ^ (nn - 1))) (b := 99) (nI_divE (a := rw0) (b := 100 ^ (nn - 1)) rfl rfl (by omega) (by omega) (by omega)) rfl (by omega) (by omega)).mp h48
                exfalso; omega
              · skip
                replace h48 := (not_congr (nI_leE (a := rw0 / (100 ^ (nn - 1))) (b := 99) (nI_divE (a := rw0) (b := 100 ^ (nn - 1)) rfl rfl (by omega) (by omega) (by omega)) rfl (by omega) (by omega))).mp h48
                refine ww_bipush (v := (-2)) C0 dX4_judge_51 rfl ?_
                exact ww_iret C0 hr dX4_judge_53 (by rfl) (by rfl)
          · skip
            replace h25 := (not_congr (nI_leE (a := nn) (b := nn) rfl rfl (by omega) (by omega))).mp h25
            exfalso; omega
      · skip
        replace h11 := (not_congr (nI_leE (a := 0) (b := rw0) rfl rfl (by omega) (by omega))).mp h11
        exfalso; omega

set_option maxHeartbeats 4000000 in
set_option maxRecDepth 100000 in
theorem c_X4_judge (l : Launch) (D : va_G) (cI cZ cQ : ClassId) {aX aT aL aC aN aY aA aO aK aG aW al0 al1 al2 an0 an1 an2 ay0 ay1 ay2 : Nat} {nm fa ac na : Nat} {hN bN hY bY : Int32} {sd : Int64} {fl0 fl1 fl2 fC fn0 fn1 fn2 fy0 fy1 fy2 : Nat → Int32} {rest : va_W} {nn rw0 : Nat} (hnm : nm ≤ 5) (hna : na ≤ 5) (hn1 : 1 ≤ nn) (hn4 : nn ≤ 4) (hrw : rw0 < 2 ^ 31) (hsm : rw0 / 100 ^ (nn - 1) ≤ 99) : MI l D [(cI, .int), (cZ, .boolean), (cQ, .object "MulesRemember$State")] yX4_judge cX4_judge 6 .int ({ frames := 6, cells := 0, slots := 0, locals := 150 } : Room) [.ref aX, .int (nI nn), .int (nI rw0)] ((aX, .inr (4, [.ref aT, .ref aL, .ref aC, .int (nI nm), .ref aN, .ref aY, .ref aA, .int (nI fa), .int (nI ac), .ref aO, .ref aK, .ref aG, .ref aW, .long sd])) :: (aL, .inr (0, [.ref al0, .ref al1, .ref al2, .int (nI na)])) :: (al0, .inl (cI, 5, .inl (fl0))) :: (al1, .inl (cI, 5, .inl (fl1))) :: (al2, .inl (cI, 5, .inl (fl2))) :: (aC, .inl (cI, 5, .inl (fC))) :: (aN, .inr (2, [.ref an0, .ref an1, .ref an2, .int hN, .int bN])) :: (an0, .inl (cI, 5, .inl (fn0))) :: (an1, .inl (cI, 5, .inl (fn1))) :: (an2, .inl (cI, 5, .inl (fn2))) :: (aY, .inr (2, [.ref ay0, .ref ay1, .ref ay2, .int hY, .int bY])) :: (ay0, .inl (cI, 5, .inl (fy0))) :: (ay1, .inl (cI, 5, .inl (fy1))) :: (ay2, .inl (cI, 5, .inl (fy2))) :: rest) ((sJudge nm na fl0 fl1 fl2 fC (100 ^ (nn - 1)) rw0 nn 0 (fn0, fn1, fn2, hN, bN)).1) ((aX, .inr (4, [.ref aT, .ref aL, .ref aC, .int (nI nm), .ref aN, .ref aY, .ref aA, .int (nI fa), .int (nI ac), .ref aO, .ref aK, .ref aG, .ref aW, .long sd])) :: (aL, .inr (0, [.ref al0, .ref al1, .ref al2, .int (nI na)])) :: (al0, .inl (cI, 5, .inl (fl0))) :: (al1, .inl (cI, 5, .inl (fl1))) :: (al2, .inl (cI, 5, .inl (fl2))) :: (aC, .inl (cI, 5, .inl (fC))) :: (aN, .inr (2, [.ref an0, .ref an1, .ref an2, .int hN, .int bN])) :: (an0, .inl (cI, 5, .inl (fn0))) :: (an1, .inl (cI, 5, .inl (fn1))) :: (an2, .inl (cI, 5, .inl (fn2))) :: (aY, .inr (2, [.ref ay0, .ref ay1, .ref ay2, .int (sJudge nm na fl0 fl1 fl2 fC (100 ^ (nn - 1)) rw0 nn 0 (fn0, fn1, fn2, hN, bN)).2.2.2.2.1, .int (sJudge nm na fl0 fl1 fl2 fC (100 ^ (nn - 1)) rw0 nn 0 (fn0, fn1, fn2, hN, bN)).2.2.2.2.2])) :: (ay0, .inl (cI, 5, .inl ((sJudge nm na fl0 fl1 fl2 fC (100 ^ (nn - 1)) rw0 nn 0 (fn0, fn1, fn2, hN, bN)).2.1))) :: (ay1, .inl (cI, 5, .inl ((sJudge nm na fl0 fl1 fl2 fC (100 ^ (nn - 1)) rw0 nn 0 (fn0, fn1, fn2, hN, bN)).2.2.1))) :: (ay2, .inl (cI, 5, .inl ((sJudge nm na fl0 fl1 fl2 fC (100 ^ (nn - 1)) rw0 nn 0 (fn0, fn1, fn2, hN, bN)).2.2.2.1))) :: rest) := by
  refine MI.of [.ref aX, .int (nI nn), .int (nI rw0), .null, .null, .null] (by decide) (Nat.le_of_ble_eq_true rfl) rfl ?_
  intro p e s m below meth c A C0 hr
  have hU := jp hn1 hn4
  have hdv : rw0 / 100 ^ (nn - 1) ≤ rw0 := Nat.div_le_self _ _
  refine ww_iload_n C0 dX4_judge_0 rfl ?_
  refine ww_iconst (v := (1)) C0 dX4_judge_1 rfl ?_
  refine ww_icmp_lt (tgt := 14) C0 dX4_judge_2 (by decide) (fun h2 => ?_) (fun h2 => ?_)
  · skip
    replace h2 := (nI_ltE (a := nn) (b := 1) rfl rfl (by omega) (by omega)).mp h2
    exfalso; omega
  · skip
    replace h2 := (not_congr (nI_ltE (a := nn) (b := 1) rfl rfl (by omega) (by omega))).mp h2
    refine ww_iload_n C0 dX4_judge_5 rfl ?_
    refine ww_iconst (v := (4)) C0 dX4_judge_6 rfl ?_
    refine ww_icmp_gt (tgt := 14) C0 dX4_judge_7 (by decide) (fun h7 => ?_) (fun h7 => ?_)
    · skip
      replace h7 := (nI_ltE (a := 4) (b := nn) rfl rfl (by omega) (by omega)).mp h7
      exfalso; omega
    · skip
      replace h7 := (not_congr (nI_ltE (a := 4) (b := nn) rfl rfl (by omega) (by omega))).mp h7
      refine ww_iload_n C0 dX4_judge_10 rfl ?_
      refine ww_if_ge (tgt := 17) C0 dX4_judge_11 (by decide) (fun h11 => ?_) (fun h11 => ?_)
      · skip
        replace h11 := (nI_leE (a := 0) (b := rw0) rfl rfl (by omega) (by omega)).mp h11
        refine ww_iconst (v := (1)) C0 dX4_judge_17 rfl ?_
        refine ww_istore_n (i := 3) C0 dX4_judge_18 rfl (Nat.le_of_ble_eq_true rfl) rfl ?_
        simp only [List.set_cons_zero, List.set_cons_succ]
        refine ww_iconst (v := (1)) C0 dX4_judge_19 rfl ?_
        refine ww_istore (i := 4) C0 dX4_judge_20 (Nat.le_of_ble_eq_true rfl) rfl ?_
        simp only [List.set_cons_zero, List.set_cons_succ]
        refine ww_back (ww_loop (pc := 22) 1 (nn) (by omega) (fun j => [_, _, _, .int (nI (100 ^ (j - 1))), .int (nI j), _]) (fun j => _) ?_ ?_) ⟨Or.inr rfl, Or.inr rfl, Or.inr rfl, Or.inr rfl, Or.inr rfl, Or.inr rfl, trivial⟩ (by rfl)
        · intro j hj0 hj ih
          refine ww_iload C0 dX4_judge_22 rfl ?_
          refine ww_iload_n C0 dX4_judge_24 rfl ?_
          refine ww_icmp_ge (tgt := 39) C0 dX4_judge_25 (by decide) (fun h25 => ?_) (fun h25 => ?_)
          · skip
            replace h25 := (nI_leE (a := nn) (b := j) rfl rfl (by omega) (by omega)).mp h25
            exfalso; omega
          · skip
            replace h25 := (not_congr (nI_leE (a := nn) (b := j) rfl rfl (by omega) (by omega))).mp h25
            refine ww_iload_n C0 dX4_judge_28 rfl ?_
            refine ww_bipush (v := (100)) C0 dX4_judge_29 rfl ?_
            refine ww_imul C0 dX4_judge_31 ?_
            refine ww_istore_n (i := 3) C0 dX4_judge_32 rfl (Nat.le_of_ble_eq_true rfl) rfl ?_
            simp only [List.set_cons_zero, List.set_cons_succ]
            refine ww_iinc (d := 1) C0 dX4_judge_33 rfl rfl rfl ?_
            simp only [List.set_cons_zero, List.set_cons_succ]
            refine ww_goto (tgt := 22) C0 dX4_judge_36 (by decide) ?_
            exact ww_back ih ⟨Or.inr rfl, Or.inr rfl, Or.inr rfl, Or.inr (congrArg Value.int (js hj0)), Or.inr (congrArg Value.int (nI_addE (a := j) (b := 1) rfl rfl).symm), Or.inr rfl, trivial⟩ (by rfl)
        · skip
          refine ww_iload C0 dX4_judge_22 rfl ?_
          refine ww_iload_n C0 dX4_judge_24 rfl ?_
          refine ww_icmp_ge (tgt := 39) C0 dX4_judge_25 (by decide) (fun h25 => ?_) (fun h25 => ?_)
          · skip
            replace h25 := (nI_leE (a := nn) (b := nn) rfl rfl (by omega) (by omega)).mp h25
            refine ww_iload_n C0 dX4_judge_39 rfl ?_
            refine ww_if_le (tgt := 51) C0 dX4_judge_40 (by decide) (fun h40 => ?_) (fun h40 => ?_)
            · skip
              replace h40 := (nI_leE (a := 100 ^ (nn - 1)) (b := 0) rfl rfl (by omega) (by omega)).mp h40
              exfalso; omega
            · skip
              replace h40 := (not_congr (nI_leE (a := 100 ^ (nn - 1)) (b := 0) rfl rfl (by omega) (by omega))).mp h40
              refine ww_iload_n C0 dX4_judge_43 rfl ?_
              refine ww_iload_n C0 dX4_judge_44 rfl ?_
              refine ww_idiv C0 dX4_judge_45 (nI_ne0 (by omega) (by omega)) ?_
              refine ww_bipush (v := (99)) C0 dX4_judge_46 rfl ?_
              refine ww_icmp_le (tgt := 54) C0 dX4_judge_48 (by decide) (fun h48 => ?_) (fun h48 => ?_)
              · skip
                replace h48 := (nI_leE (a := rw0 / (100 ^ (nn - 1))) (b := 99) (nI_divE (a := rw0) (b := 100 ^ (nn - 1)) rfl rfl (by omega) (by omega) (by omega)) rfl (by omega) (by omega)).mp h48
                refine ww_aload_n C0 dX4_judge_54 rfl ?_
                refine ww_get C0 (ci := 4) (C := RX4) (T := TX4) (N := 14) ku_X4 0 rfl rfl 4 (by decide) kw_X4_34 rfl dX4_judge_55 ?_
                refine ww_aload_n C0 dX4_judge_58 rfl ?_
                refine ww_get C0 (ci := 4) (C := RX4) (T := TX4) (N := 14) ku_X4 0 rfl rfl 5 (by decide) kw_X4_38 rfl dX4_judge_59 ?_
                refine ww_perm (perm_mv 0 6 8 _) ?_
                simp only [List.drop_succ_cons, List.drop_zero, List.take_succ_cons, List.take_zero, List.cons_append, List.nil_append, Nat.reduceAdd]
                refine ww_callSv C0 (c_X4_copyState l D cI cZ cQ) kd_X4_copyState kw_X4_161 ks_X4_copyState ki_X4 hd_X4_copyState ⟨Nat.le_of_ble_eq_true rfl, Nat.le_of_ble_eq_true rfl, rfl, rfl⟩ (Nat.le_of_ble_eq_true rfl) dX4_judge_62 rfl rfl ⟨Nat.zero_le _, Nat.zero_le _⟩ ?_
                refine ww_perm (perm_mv 0 8 6 _) ?_
                simp only [List.drop_succ_cons, List.drop_zero, List.take_succ_cons, List.take_zero, List.cons_append, List.nil_append, Nat.reduceAdd]
                refine ww_iconst (v := (0)) C0 dX4_judge_65 rfl ?_
                refine ww_istore (i := 4) C0 dX4_judge_66 (Nat.le_of_ble_eq_true rfl) rfl ?_
                simp only [List.set_cons_zero, List.set_cons_succ]
                refine ww_back (ww_loopI (σ := SV) (pc := 68) 0 nn (by omega) (fun j v => (sJudge nm na fl0 fl1 fl2 fC (100 ^ (nn - 1)) rw0 nn 0 (fn0, fn1, fn2, hN, bN)) = sJudge nm na fl0 fl1 fl2 fC (100 ^ (nn - 1)) rw0 (nn - j) j v) (fun j _ => [_, _, _, .int (nI ((100 ^ (nn - 1)) / 100 ^ j)), .int (nI j), .null]) (fun _ v => (aX, .inr (4, [.ref aT, .ref aL, .ref aC, .int (nI nm), .ref aN, .ref aY, .ref aA, .int (nI fa), .int (nI ac), .ref aO, .ref aK, .ref aG, .ref aW, .long sd])) :: (aL, .inr (0, [.ref al0, .ref al1, .ref al2, .int (nI na)])) :: (al0, .inl (cI, 5, .inl (fl0))) :: (al1, .inl (cI, 5, .inl (fl1))) :: (al2, .inl (cI, 5, .inl (fl2))) :: (aC, .inl (cI, 5, .inl (fC))) :: (aN, .inr (2, [.ref an0, .ref an1, .ref an2, .int hN, .int bN])) :: (an0, .inl (cI, 5, .inl (fn0))) :: (an1, .inl (cI, 5, .inl (fn1))) :: (an2, .inl (cI, 5, .inl (fn2))) :: (aY, .inr (2, [.ref ay0, .ref ay1, .ref ay2, .int v.2.2.2.1, .int v.2.2.2.2])) :: (ay0, .inl (cI, 5, .inl (v.1))) :: (ay1, .inl (cI, 5, .inl (v.2.1))) :: (ay2, .inl (cI, 5, .inl (v.2.2.1))) :: rest) (fn0, fn1, fn2, hN, bN) rfl ?_ ?_) ⟨Or.inr rfl, Or.inr rfl, Or.inr rfl, Or.inr (by simp), Or.inr rfl, Or.inl rfl, trivial⟩ rfl
                · skip
                  intro j v hj0 hj hI ih
                  rw [show nn - j = (nn - (j + 1)) + 1 by omega, sJudge_s] at hI
                  have hu0 := jU hj
                  have hu1 : (100 ^ (nn - 1)) / 100 ^ j ≤ (100 ^ (nn - 1)) := Nat.div_le_self _ _
                  have hu2 : rw0 / ((100 ^ (nn - 1)) / 100 ^ j) ≤ rw0 := Nat.div_le_self _ _
                  refine ww_iload C0 dX4_judge_68 rfl ?_
                  refine ww_iload_n C0 dX4_judge_70 rfl ?_
                  refine ww_icmp_ge (tgt := 121) C0 dX4_judge_71 (by decide) (fun h71 => ?_) (fun h71 => ?_)
                  · skip
                    replace h71 := (nI_leE (a := nn) (b := j) rfl rfl (by omega) (by omega)).mp h71
                    exfalso; omega
                  · skip
                    replace h71 := (not_congr (nI_leE (a := nn) (b := j) rfl rfl (by omega) (by omega))).mp h71
                    refine ww_iload_n C0 dX4_judge_74 rfl ?_
                    refine ww_if_le (tgt := 121) C0 dX4_judge_75 (by decide) (fun h75 => ?_) (fun h75 => ?_)
                    · skip
                      replace h75 := (nI_leE (a := (100 ^ (nn - 1)) / 100 ^ j) (b := 0) rfl rfl (by omega) (by omega)).mp h75
                      exfalso; omega
                    · skip
                      replace h75 := (not_congr (nI_leE (a := (100 ^ (nn - 1)) / 100 ^ j) (b := 0) rfl rfl (by omega) (by omega))).mp h75
                      refine ww_iload_n C0 dX4_judge_78 rfl ?_
                      refine ww_iload_n C0 dX4_judge_79 rfl ?_
                      refine ww_idiv C0 dX4_judge_80 (nI_ne0 (by omega) (by omega)) ?_
                      refine ww_bipush (v := (100)) C0 dX4_judge_81 rfl ?_
                      refine ww_irem C0 dX4_judge_83 (by decide) ?_
                      refine ww_istore (i := 5) C0 dX4_judge_84 (Nat.le_of_ble_eq_true rfl) rfl ?_
                      simp only [List.set_cons_zero, List.set_cons_succ]
                      refine ww_aload_n C0 dX4_judge_86 rfl ?_
                      refine ww_aload_n C0 dX4_judge_87 rfl ?_
                      refine ww_get C0 (ci := 4) (C := RX4) (T := TX4) (N := 14) ku_X4 0 rfl rfl 5 (by decide) kw_X4_38 rfl dX4_judge_88 ?_
                      refine ww_iload C0 dX4_judge_91 rfl ?_
                      refine ww_bipush (v := (10)) C0 dX4_judge_93 rfl ?_
                      refine ww_idiv C0 dX4_judge_95 (by decide) ?_
                      refine ww_iload C0 dX4_judge_96 rfl ?_
                      refine ww_bipush (v := (10)) C0 dX4_judge_98 rfl ?_
                      refine ww_irem C0 dX4_judge_100 (by decide) ?_
                      refine ww_cong ?_ rfl (congrArg (fun z => Value.int z :: _) (nI_remE (a := (rw0 / ((100 ^ (nn - 1)) / 100 ^ j)) % 100) (b := 10) (nI_remE (a := rw0 / ((100 ^ (nn - 1)) / 100 ^ j)) (b := 100) (nI_divE (a := rw0) (b := (100 ^ (nn - 1)) / 100 ^ j) rfl rfl (by omega) (by omega) (by omega)) rfl (by omega) (by omega) (by omega)) rfl (by omega) (by omega) (by omega))) rfl
                      refine ww_cong ?_ rfl (congrArg (fun z => _ :: Value.int z :: _) (nI_divE (a := (rw0 / ((100 ^ (nn - 1)) / 100 ^ j)) % 100) (b := 10) (nI_remE (a := rw0 / ((100 ^ (nn - 1)) / 100 ^ j)) (b := 100) (nI_divE (a := rw0) (b := (100 ^ (nn - 1)) / 100 ^ j) rfl rfl (by omega) (by omega) (by omega)) rfl (by omega) (by omega) (by omega)) rfl (by omega) (by omega) (by omega))) rfl
                      refine ww_perm (perm_mv 6 4 4 _) ?_
                      simp only [List.drop_succ_cons, List.drop_zero, List.take_succ_cons, List.take_zero, List.cons_append, List.nil_append, Nat.reduceAdd]
                      refine ww_callVi C0 (qc := (RX4, TX4, 14)) 0 4 (c_X4_doneWithoutFault l D cI cZ cQ hnm hna) kd_X4_doneWithoutFault kw_X4_179 km_X4_doneWithoutFault kl_X4_doneWithoutFault ki_X4 hd_X4_doneWithoutFault rfl rfl ⟨Nat.le_of_ble_eq_true rfl, Nat.le_of_ble_eq_true rfl, rfl, rfl⟩ (Nat.le_of_ble_eq_true rfl) dX4_judge_101 rfl rfl rfl ⟨Nat.zero_le _, Nat.zero_le _⟩ ?_
                      refine ww_perm (perm_mv 6 4 4 _) ?_
                      simp only [List.drop_succ_cons, List.drop_zero, List.take_succ_cons, List.take_zero, List.cons_append, List.nil_append, Nat.reduceAdd]
                      refine ww_bif_ne (tgt := 110) C0 dX4_judge_104 (by decide) (fun h104 => ?_) (fun h104 => ?_)
                      · skip
                        refine ww_iload_n C0 dX4_judge_110 rfl ?_
                        refine ww_bipush (v := (100)) C0 dX4_judge_111 rfl ?_
                        refine ww_idiv C0 dX4_judge_113 (by decide) ?_
                        refine ww_istore_n (i := 3) C0 dX4_judge_114 rfl (Nat.le_of_ble_eq_true rfl) rfl ?_
                        simp only [List.set_cons_zero, List.set_cons_succ]
                        refine ww_iinc (d := 1) C0 dX4_judge_115 rfl rfl rfl ?_
                        simp only [List.set_cons_zero, List.set_cons_succ]
                        refine ww_goto (tgt := 68) C0 dX4_judge_118 (by decide) ?_
                        exact ww_back (ih _ (by rw [hI, if_pos h104])) ⟨Or.inr rfl, Or.inr rfl, Or.inr rfl, Or.inr (congrArg Value.int (jV (by omega))), Or.inr (congrArg Value.int (nI_addE rfl rfl).symm), Or.inl rfl, trivial⟩ rfl
                      · skip
                        refine ww_iload C0 dX4_judge_107 rfl ?_
                        exact ww_iret C0 hr dX4_judge_109 (by (rw [hI, if_neg (by rw [h104]; decide)])) (by (rw [hI, if_neg (by rw [h104]; decide)]))
                · skip
                  intro v hI
                  rw [Nat.sub_self] at hI
                  refine ww_iload C0 dX4_judge_68 rfl ?_
                  refine ww_iload_n C0 dX4_judge_70 rfl ?_
                  refine ww_icmp_ge (tgt := 121) C0 dX4_judge_71 (by decide) (fun h71 => ?_) (fun h71 => ?_)
                  · skip
                    replace h71 := (nI_leE (a := nn) (b := nn) rfl rfl (by omega) (by omega)).mp h71
                    refine ww_bipush (v := (-9)) C0 dX4_judge_121 rfl ?_
                    exact ww_iret C0 hr dX4_judge_123 (by (rw [hI]; rfl)) (by (rw [hI]; rfl))
                  · skip
                    replace h71 := (not_congr (nI_leE (a := nn) (b := nn) rfl rfl (by omega) (by omega))).mp h71
                    exfalso; omega
              · skip
                replace h48 := (not_congr (nI_leE (a := rw0 / (100 ^ (nn - 1))) (b := 99) (nI_divE (a := rw0) (b := 100 ^ (nn - 1)) rfl rfl (by omega) (by omega) (by omega)) rfl (by omega) (by omega))).mp h48
                exfalso; omega
          · skip
            replace h25 := (not_congr (nI_leE (a := nn) (b := nn) rfl rfl (by omega) (by omega))).mp h25
            exfalso; omega
      · skip
        replace h11 := (not_congr (nI_leE (a := 0) (b := rw0) rfl rfl (by omega) (by omega))).mp h11
        exfalso; omega
