set_option maxHeartbeats 4000000 in
set_option maxRecDepth 100000 in
theorem c_X4_firstOf (l : Launch) (D : va_G) (cI cZ cQ : ClassId) {rest : va_W} {b : Int32} : MI l D [(cI, .int), (cZ, .boolean), (cQ, .object "MulesRemember$State")] yX4_firstOf cX4_firstOf 2 .int ({ frames := 0, cells := 0, slots := 0, locals := 0 } : Room) [.int b] (rest) (sFirst b) (rest) := by
  refine MI.of [.int b, .null] (by decide) (Nat.le_of_ble_eq_true rfl) rfl ?_
  intro p e s m below meth c A C0 hr
  refine ww_iconst (v := (0)) C0 dX4_firstOf_0 rfl ?_
  refine ww_istore_n (i := 1) C0 dX4_firstOf_1 rfl (Nat.le_of_ble_eq_true rfl) rfl ?_
  simp only [List.set_cons_zero, List.set_cons_succ]
  refine ww_cong (lo' := [.int b, .int 0]) ?_ (by rfl) rfl rfl
  refine ww_iload_n C0 dX4_firstOf_2 rfl ?_
  refine ww_iconst (v := (5)) C0 dX4_firstOf_3 rfl ?_
  refine ww_icmp_ge (tgt := 23) C0 dX4_firstOf_4 (by decide) (fun h4 => ?_) (fun h4 => ?_)
  · skip
    replace h4 := (nI_leE (a := 5) (b := 0) rfl rfl (by omega) (by omega)).mp h4
    exfalso; omega
  · skip
    replace h4 := (not_congr (nI_leE (a := 5) (b := 0) rfl rfl (by omega) (by omega))).mp h4
    refine ww_iload_n C0 dX4_firstOf_7 rfl ?_
    refine ww_iload_n C0 dX4_firstOf_8 rfl ?_
    refine ww_ishr C0 dX4_firstOf_9 ?_
    refine ww_iconst (v := (1)) C0 dX4_firstOf_10 rfl ?_
    refine ww_iand C0 dX4_firstOf_11 ?_
    refine ww_if_eq (tgt := 17) C0 dX4_firstOf_12 (by decide) (fun h12 => ?_) (fun h12 => ?_)
    · skip
      have g0 := hbit_f (a := 0) h12
      refine ww_iinc (d := 1) C0 dX4_firstOf_17 rfl rfl rfl ?_
      simp only [List.set_cons_zero, List.set_cons_succ]
      refine ww_goto (tgt := 2) C0 dX4_firstOf_20 (by decide) ?_
      refine ww_cong (lo' := [.int b, .int 1]) ?_ (by rfl) rfl rfl
      refine ww_iload_n C0 dX4_firstOf_2 rfl ?_
      refine ww_iconst (v := (5)) C0 dX4_firstOf_3 rfl ?_
      refine ww_icmp_ge (tgt := 23) C0 dX4_firstOf_4 (by decide) (fun h4 => ?_) (fun h4 => ?_)
      · skip
        replace h4 := (nI_leE (a := 5) (b := 1) rfl rfl (by omega) (by omega)).mp h4
        exfalso; omega
      · skip
        replace h4 := (not_congr (nI_leE (a := 5) (b := 1) rfl rfl (by omega) (by omega))).mp h4
        refine ww_iload_n C0 dX4_firstOf_7 rfl ?_
        refine ww_iload_n C0 dX4_firstOf_8 rfl ?_
        refine ww_ishr C0 dX4_firstOf_9 ?_
        refine ww_iconst (v := (1)) C0 dX4_firstOf_10 rfl ?_
        refine ww_iand C0 dX4_firstOf_11 ?_
        refine ww_if_eq (tgt := 17) C0 dX4_firstOf_12 (by decide) (fun h12 => ?_) (fun h12 => ?_)
        · skip
          have g1 := hbit_f (a := 1) h12
          refine ww_iinc (d := 1) C0 dX4_firstOf_17 rfl rfl rfl ?_
          simp only [List.set_cons_zero, List.set_cons_succ]
          refine ww_goto (tgt := 2) C0 dX4_firstOf_20 (by decide) ?_
          refine ww_cong (lo' := [.int b, .int 2]) ?_ (by rfl) rfl rfl
          refine ww_iload_n C0 dX4_firstOf_2 rfl ?_
          refine ww_iconst (v := (5)) C0 dX4_firstOf_3 rfl ?_
          refine ww_icmp_ge (tgt := 23) C0 dX4_firstOf_4 (by decide) (fun h4 => ?_) (fun h4 => ?_)
          · skip
            replace h4 := (nI_leE (a := 5) (b := 2) rfl rfl (by omega) (by omega)).mp h4
            exfalso; omega
          · skip
            replace h4 := (not_congr (nI_leE (a := 5) (b := 2) rfl rfl (by omega) (by omega))).mp h4
            refine ww_iload_n C0 dX4_firstOf_7 rfl ?_
            refine ww_iload_n C0 dX4_firstOf_8 rfl ?_
            refine ww_ishr C0 dX4_firstOf_9 ?_
            refine ww_iconst (v := (1)) C0 dX4_firstOf_10 rfl ?_
            refine ww_iand C0 dX4_firstOf_11 ?_
            refine ww_if_eq (tgt := 17) C0 dX4_firstOf_12 (by decide) (fun h12 => ?_) (fun h12 => ?_)
            · skip
              have g2 := hbit_f (a := 2) h12
              refine ww_iinc (d := 1) C0 dX4_firstOf_17 rfl rfl rfl ?_
              simp only [List.set_cons_zero, List.set_cons_succ]
              refine ww_goto (tgt := 2) C0 dX4_firstOf_20 (by decide) ?_
              refine ww_cong (lo' := [.int b, .int 3]) ?_ (by rfl) rfl rfl
              refine ww_iload_n C0 dX4_firstOf_2 rfl ?_
              refine ww_iconst (v := (5)) C0 dX4_firstOf_3 rfl ?_
              refine ww_icmp_ge (tgt := 23) C0 dX4_firstOf_4 (by decide) (fun h4 => ?_) (fun h4 => ?_)
              · skip
                replace h4 := (nI_leE (a := 5) (b := 3) rfl rfl (by omega) (by omega)).mp h4
                exfalso; omega
              · skip
                replace h4 := (not_congr (nI_leE (a := 5) (b := 3) rfl rfl (by omega) (by omega))).mp h4
                refine ww_iload_n C0 dX4_firstOf_7 rfl ?_
                refine ww_iload_n C0 dX4_firstOf_8 rfl ?_
                refine ww_ishr C0 dX4_firstOf_9 ?_
                refine ww_iconst (v := (1)) C0 dX4_firstOf_10 rfl ?_
                refine ww_iand C0 dX4_firstOf_11 ?_
                refine ww_if_eq (tgt := 17) C0 dX4_firstOf_12 (by decide) (fun h12 => ?_) (fun h12 => ?_)
                · skip
                  have g3 := hbit_f (a := 3) h12
                  refine ww_iinc (d := 1) C0 dX4_firstOf_17 rfl rfl rfl ?_
                  simp only [List.set_cons_zero, List.set_cons_succ]
                  refine ww_goto (tgt := 2) C0 dX4_firstOf_20 (by decide) ?_
                  refine ww_cong (lo' := [.int b, .int 4]) ?_ (by rfl) rfl rfl
                  refine ww_iload_n C0 dX4_firstOf_2 rfl ?_
                  refine ww_iconst (v := (5)) C0 dX4_firstOf_3 rfl ?_
                  refine ww_icmp_ge (tgt := 23) C0 dX4_firstOf_4 (by decide) (fun h4 => ?_) (fun h4 => ?_)
                  · skip
                    replace h4 := (nI_leE (a := 5) (b := 4) rfl rfl (by omega) (by omega)).mp h4
                    exfalso; omega
                  · skip
                    replace h4 := (not_congr (nI_leE (a := 5) (b := 4) rfl rfl (by omega) (by omega))).mp h4
                    refine ww_iload_n C0 dX4_firstOf_7 rfl ?_
                    refine ww_iload_n C0 dX4_firstOf_8 rfl ?_
                    refine ww_ishr C0 dX4_firstOf_9 ?_
                    refine ww_iconst (v := (1)) C0 dX4_firstOf_10 rfl ?_
                    refine ww_iand C0 dX4_firstOf_11 ?_
                    refine ww_if_eq (tgt := 17) C0 dX4_firstOf_12 (by decide) (fun h12 => ?_) (fun h12 => ?_)
                    · skip
                      have g4 := hbit_f (a := 4) h12
                      refine ww_iinc (d := 1) C0 dX4_firstOf_17 rfl rfl rfl ?_
                      simp only [List.set_cons_zero, List.set_cons_succ]
                      refine ww_goto (tgt := 2) C0 dX4_firstOf_20 (by decide) ?_
                      refine ww_cong (lo' := [.int b, .int 5]) ?_ (by rfl) rfl rfl
                      refine ww_iload_n C0 dX4_firstOf_2 rfl ?_
                      refine ww_iconst (v := (5)) C0 dX4_firstOf_3 rfl ?_
                      refine ww_icmp_ge (tgt := 23) C0 dX4_firstOf_4 (by decide) (fun h4 => ?_) (fun h4 => ?_)
                      · skip
                        replace h4 := (nI_leE (a := 5) (b := 5) rfl rfl (by omega) (by omega)).mp h4
                        refine ww_bipush (v := (-9)) C0 dX4_firstOf_23 rfl ?_
                        exact ww_iret C0 hr dX4_firstOf_25 (by simp [sFirst, *]) (by rfl)
                      · skip
                        replace h4 := (not_congr (nI_leE (a := 5) (b := 5) rfl rfl (by omega) (by omega))).mp h4
                        exfalso; omega
                    · skip
                      have g4 := hbit_t (a := 4) h12
                      refine ww_iload_n C0 dX4_firstOf_15 rfl ?_
                      exact ww_iret C0 hr dX4_firstOf_16 (by simp [sFirst, *]) (by rfl)
                · skip
                  have g3 := hbit_t (a := 3) h12
                  refine ww_iload_n C0 dX4_firstOf_15 rfl ?_
                  exact ww_iret C0 hr dX4_firstOf_16 (by simp [sFirst, *]) (by rfl)
            · skip
              have g2 := hbit_t (a := 2) h12
              refine ww_iload_n C0 dX4_firstOf_15 rfl ?_
              exact ww_iret C0 hr dX4_firstOf_16 (by simp [sFirst, *]) (by rfl)
        · skip
          have g1 := hbit_t (a := 1) h12
          refine ww_iload_n C0 dX4_firstOf_15 rfl ?_
          exact ww_iret C0 hr dX4_firstOf_16 (by simp [sFirst, *]) (by rfl)
    · skip
      have g0 := hbit_t (a := 0) h12
      refine ww_iload_n C0 dX4_firstOf_15 rfl ?_
      exact ww_iret C0 hr dX4_firstOf_16 (by simp [sFirst, *]) (by rfl)

set_option maxHeartbeats 4000000 in
set_option maxRecDepth 100000 in
theorem c_X4_knownIfShown (l : Launch) (D : va_G) (cI cZ cQ : ClassId) {aX aT aL aC aN aY aA aO aK aG aW al0 al1 al2 : Nat} {nm fa ac na : Nat} {sd : Int64} {rest : va_W} {ki sh : Int32} (hna : na ≤ 5) : MI l D [(cI, .int), (cZ, .boolean), (cQ, .object "MulesRemember$State")] yX4_knownIfShown cX4_knownIfShown 4 .int ({ frames := 1, cells := 0, slots := 0, locals := 20 } : Room) [.ref aX, .int ki, .int sh] ((aX, .inr (4, [.ref aT, .ref aL, .ref aC, .int (nI nm), .ref aN, .ref aY, .ref aA, .int (nI fa), .int (nI ac), .ref aO, .ref aK, .ref aG, .ref aW, .long sd])) :: (aL, .inr (0, [.ref al0, .ref al1, .ref al2, .int (nI na)])) :: rest) (sKnown na ki sh) ((aX, .inr (4, [.ref aT, .ref aL, .ref aC, .int (nI nm), .ref aN, .ref aY, .ref aA, .int (nI fa), .int (nI ac), .ref aO, .ref aK, .ref aG, .ref aW, .long sd])) :: (aL, .inr (0, [.ref al0, .ref al1, .ref al2, .int (nI na)])) :: rest) := by
  refine MI.of [.ref aX, .int ki, .int sh, .null] (by decide) (Nat.le_of_ble_eq_true rfl) rfl ?_
  intro p e s m below meth c A C0 hr
  refine ww_aload_n C0 dX4_knownIfShown_0 rfl ?_
  refine ww_get C0 (ci := 4) (C := RX4) (T := TX4) (N := 14) ku_X4 0 rfl rfl 1 (by decide) kw_X4_19 rfl dX4_knownIfShown_1 ?_
  refine ww_callVNi C0 (qc := (RX0, TX0, 4)) 1 0 (c_X0_all l D cI cZ cQ) kd_X0_all kn_X4_168 km_X0_all kl_X0_all ki_X0 hd_X0_all rfl rfl ⟨Nat.le_of_ble_eq_true rfl, Nat.le_of_ble_eq_true rfl, rfl, rfl⟩ (Nat.le_of_ble_eq_true rfl) dX4_knownIfShown_4 rfl rfl rfl ⟨Nat.zero_le _, Nat.zero_le _⟩ ?_
  refine ww_istore_n (i := 3) C0 dX4_knownIfShown_7 rfl (Nat.le_of_ble_eq_true rfl) rfl ?_
  simp only [List.set_cons_zero, List.set_cons_succ]
  refine ww_iload_n C0 dX4_knownIfShown_8 rfl ?_
  by_cases hs9_0 : ki = 0
  · skip
    have hsi : (ki).toInt = 0 := by rw [hs9_0]; rfl
    refine ww_tableIn (off := 31) (tgt := 40) C0 dX4_knownIfShown_9 (by rw [hsi]; decide) (by rw [hsi]; decide) (by rw [hsi]; rfl) (by decide) ?_
    refine ww_iload_n C0 dX4_knownIfShown_40 rfl ?_
    refine ww_bipush (v := (21)) C0 dX4_knownIfShown_41 rfl ?_
    refine ww_iload_n C0 dX4_knownIfShown_43 rfl ?_
    refine ww_iand C0 dX4_knownIfShown_44 ?_
    refine ww_ior C0 dX4_knownIfShown_45 ?_
    exact ww_iret C0 hr dX4_knownIfShown_46 (by simp [sKnown, *]) (by rfl)
  by_cases hs9_1 : ki = 1
  · skip
    have hsi : (ki).toInt = 1 := by rw [hs9_1]; rfl
    refine ww_tableIn (off := 38) (tgt := 47) C0 dX4_knownIfShown_9 (by rw [hsi]; decide) (by rw [hsi]; decide) (by rw [hsi]; rfl) (by decide) ?_
    refine ww_iload_n C0 dX4_knownIfShown_47 rfl ?_
    exact ww_iret C0 hr dX4_knownIfShown_48 (by simp [sKnown, *]) (by rfl)
  by_cases hs9_2 : ki = 2
  · skip
    have hsi : (ki).toInt = 2 := by rw [hs9_2]; rfl
    refine ww_tableIn (off := 40) (tgt := 49) C0 dX4_knownIfShown_9 (by rw [hsi]; decide) (by rw [hsi]; decide) (by rw [hsi]; rfl) (by decide) ?_
    refine ww_iload_n C0 dX4_knownIfShown_49 rfl ?_
    exact ww_iret C0 hr dX4_knownIfShown_50 (by simp [sKnown, *]) (by rfl)
  by_cases hs9_3 : ki = 3
  · skip
    have hsi : (ki).toInt = 3 := by rw [hs9_3]; rfl
    refine ww_tableIn (off := 42) (tgt := 51) C0 dX4_knownIfShown_9 (by rw [hsi]; decide) (by rw [hsi]; decide) (by rw [hsi]; rfl) (by decide) ?_
    refine ww_aload_n C0 dX4_knownIfShown_51 rfl ?_
    refine ww_get C0 (ci := 4) (C := RX4) (T := TX4) (N := 14) ku_X4 0 rfl rfl 1 (by decide) kw_X4_19 rfl dX4_knownIfShown_52 ?_
    refine ww_callVNi C0 (qc := (RX0, TX0, 4)) 1 0 (c_X0_last l D cI cZ cQ hna) kd_X0_last kn_X4_237 km_X0_last kl_X0_last ki_X0 hd_X0_last rfl rfl ⟨Nat.le_of_ble_eq_true rfl, Nat.le_of_ble_eq_true rfl, rfl, rfl⟩ (Nat.le_of_ble_eq_true rfl) dX4_knownIfShown_55 rfl rfl rfl ⟨Nat.zero_le _, Nat.zero_le _⟩ ?_
    exact ww_iret C0 hr dX4_knownIfShown_58 (by simp [sKnown, *]) (by rfl)
  refine ww_tableOut (tgt := 59) C0 dX4_knownIfShown_9 (sw_outc (ki) 0 3 (by
    intro k hk1 hk2 he
    rcases (show k = 0 ∨ k = 1 ∨ k = 2 ∨ k = 3 by omega) with rfl | rfl | rfl | rfl
    · exact i32_ne (n := 0) (by decide) hs9_0 he
    · exact i32_ne (n := 1) (by decide) hs9_1 he
    · exact i32_ne (n := 2) (by decide) hs9_2 he
    · exact i32_ne (n := 3) (by decide) hs9_3 he
    )) (by decide) ?_
  refine ww_iconst (v := (0)) C0 dX4_knownIfShown_59 rfl ?_
  exact ww_iret C0 hr dX4_knownIfShown_60 (by simp [sKnown, *]) (by rfl)

set_option maxHeartbeats 4000000 in
set_option maxRecDepth 100000 in
theorem c_X4_known (l : Launch) (D : va_G) (cI cZ cQ : ClassId) {aX aT aL aC aN aY aA aO aK aG aW al0 al1 al2 aS as0 as1 as2 : Nat} {nm fa ac na : Nat} {hS bS : Int32} {sd : Int64} {fl0 fl1 fl2 fC fs0 fs1 fs2 : Nat → Int32} {rest : va_W} {k : Nat} (hnm : nm ≤ 5) (hna : na ≤ 5) (hk : k < nm) : MI l D [(cI, .int), (cZ, .boolean), (cQ, .object "MulesRemember$State")] yX4_known cX4_known 3 .int ({ frames := 2, cells := 0, slots := 0, locals := 43 } : Room) [.ref aX, .ref aS, .int (nI k)] ((aX, .inr (4, [.ref aT, .ref aL, .ref aC, .int (nI nm), .ref aN, .ref aY, .ref aA, .int (nI fa), .int (nI ac), .ref aO, .ref aK, .ref aG, .ref aW, .long sd])) :: (aL, .inr (0, [.ref al0, .ref al1, .ref al2, .int (nI na)])) :: (al0, .inl (cI, 5, .inl (fl0))) :: (al1, .inl (cI, 5, .inl (fl1))) :: (al2, .inl (cI, 5, .inl (fl2))) :: (aC, .inl (cI, 5, .inl (fC))) :: (aS, .inr (2, [.ref as0, .ref as1, .ref as2, .int hS, .int bS])) :: (as0, .inl (cI, 5, .inl (fs0))) :: (as1, .inl (cI, 5, .inl (fs1))) :: (as2, .inl (cI, 5, .inl (fs2))) :: rest) (sKnown na (fs1 k) (fs2 k)) ((aX, .inr (4, [.ref aT, .ref aL, .ref aC, .int (nI nm), .ref aN, .ref aY, .ref aA, .int (nI fa), .int (nI ac), .ref aO, .ref aK, .ref aG, .ref aW, .long sd])) :: (aL, .inr (0, [.ref al0, .ref al1, .ref al2, .int (nI na)])) :: (al0, .inl (cI, 5, .inl (fl0))) :: (al1, .inl (cI, 5, .inl (fl1))) :: (al2, .inl (cI, 5, .inl (fl2))) :: (aC, .inl (cI, 5, .inl (fC))) :: (aS, .inr (2, [.ref as0, .ref as1, .ref as2, .int hS, .int bS])) :: (as0, .inl (cI, 5, .inl (fs0))) :: (as1, .inl (cI, 5, .inl (fs1))) :: (as2, .inl (cI, 5, .inl (fs2))) :: rest) := by
  refine MI.of [.ref aX, .ref aS, .int (nI k)] (by decide) (Nat.le_of_ble_eq_true rfl) rfl ?_
  intro p e s m below meth c A C0 hr
  refine ww_aload_n C0 dX4_known_0 rfl ?_
  refine ww_iload_n C0 dX4_known_1 rfl ?_
  refine ww_callVi C0 (qc := (RX4, TX4, 14)) 0 4 (c_X4_isMule l D cI cZ cQ hnm) kd_X4_isMule kw_X4_113 km_X4_isMule kl_X4_isMule ki_X4 hd_X4_isMule rfl rfl ⟨Nat.le_of_ble_eq_true rfl, Nat.le_of_ble_eq_true rfl, rfl, rfl⟩ (Nat.le_of_ble_eq_true rfl) dX4_known_2 rfl rfl rfl ⟨Nat.zero_le _, Nat.zero_le _⟩ ?_
  refine ww_bif_eq (tgt := 27) C0 dX4_known_5 (by decide) (fun h5 => ?_) (fun h5 => ?_)
  · skip
    exact absurd (isN_nI (by omega) hk) (by rw [h5]; decide)
  · skip
    refine ww_aload_n C0 dX4_known_8 rfl ?_
    refine ww_aload_n C0 dX4_known_9 rfl ?_
    refine ww_getN C0 (ci := 2) (C := RX2) (T := TX2) (N := 5) ku_X2 6 rfl rfl 1 (by decide) kn_X4_117 rfl dX4_known_10 ?_
    refine ww_iload_n C0 dX4_known_13 rfl ?_
    refine ww_iald_n (j := k) C0 8 0 rfl rfl rfl (by omega) (by decide) dX4_known_14 ?_
    refine ww_aload_n C0 dX4_known_15 rfl ?_
    refine ww_getN C0 (ci := 2) (C := RX2) (T := TX2) (N := 5) ku_X2 6 rfl rfl 2 (by decide) kn_X4_120 rfl dX4_known_16 ?_
    refine ww_iload_n C0 dX4_known_19 rfl ?_
    refine ww_iald_n (j := k) C0 9 0 rfl rfl rfl (by omega) (by decide) dX4_known_20 ?_
    refine ww_callVi C0 (qc := (RX4, TX4, 14)) 0 4 (c_X4_knownIfShown l D cI cZ cQ hna) kd_X4_knownIfShown kw_X4_234 km_X4_knownIfShown kl_X4_knownIfShown ki_X4 hd_X4_knownIfShown rfl rfl ⟨Nat.le_of_ble_eq_true rfl, Nat.le_of_ble_eq_true rfl, rfl, rfl⟩ (Nat.le_of_ble_eq_true rfl) dX4_known_21 rfl rfl rfl ⟨Nat.zero_le _, Nat.zero_le _⟩ ?_
    refine ww_goto (tgt := 28) C0 dX4_known_24 (by decide) ?_
    exact ww_iret C0 hr dX4_known_28 (by rfl) (by rfl)

set_option maxHeartbeats 4000000 in
set_option maxRecDepth 100000 in
theorem c_X4_mulesThatKnow (l : Launch) (D : va_G) (cI cZ cQ : ClassId) {aX aT aL aC aN aY aA aO aK aG aW al0 al1 al2 an0 an1 an2 : Nat} {nm fa ac na : Nat} {hN bN : Int32} {sd : Int64} {fl0 fl1 fl2 fC fn0 fn1 fn2 : Nat → Int32} {rest : va_W} {a : Int32} (hnm : nm ≤ 5) (hna : na ≤ 5) : MI l D [(cI, .int), (cZ, .boolean), (cQ, .object "MulesRemember$State")] yX4_mulesThatKnow cX4_mulesThatKnow 4 .int ({ frames := 3, cells := 0, slots := 0, locals := 65 } : Room) [.ref aX, .int a] ((aX, .inr (4, [.ref aT, .ref aL, .ref aC, .int (nI nm), .ref aN, .ref aY, .ref aA, .int (nI fa), .int (nI ac), .ref aO, .ref aK, .ref aG, .ref aW, .long sd])) :: (aL, .inr (0, [.ref al0, .ref al1, .ref al2, .int (nI na)])) :: (al0, .inl (cI, 5, .inl (fl0))) :: (al1, .inl (cI, 5, .inl (fl1))) :: (al2, .inl (cI, 5, .inl (fl2))) :: (aC, .inl (cI, 5, .inl (fC))) :: (aN, .inr (2, [.ref an0, .ref an1, .ref an2, .int hN, .int bN])) :: (an0, .inl (cI, 5, .inl (fn0))) :: (an1, .inl (cI, 5, .inl (fn1))) :: (an2, .inl (cI, 5, .inl (fn2))) :: rest) (orBits (fun o => hbit (sKnown na (fn1 o) (fn2 o)) a) nm) ((aX, .inr (4, [.ref aT, .ref aL, .ref aC, .int (nI nm), .ref aN, .ref aY, .ref aA, .int (nI fa), .int (nI ac), .ref aO, .ref aK, .ref aG, .ref aW, .long sd])) :: (aL, .inr (0, [.ref al0, .ref al1, .ref al2, .int (nI na)])) :: (al0, .inl (cI, 5, .inl (fl0))) :: (al1, .inl (cI, 5, .inl (fl1))) :: (al2, .inl (cI, 5, .inl (fl2))) :: (aC, .inl (cI, 5, .inl (fC))) :: (aN, .inr (2, [.ref an0, .ref an1, .ref an2, .int hN, .int bN])) :: (an0, .inl (cI, 5, .inl (fn0))) :: (an1, .inl (cI, 5, .inl (fn1))) :: (an2, .inl (cI, 5, .inl (fn2))) :: rest) := by
  refine MI.of [.ref aX, .int a, .null, .null] (by decide) (Nat.le_of_ble_eq_true rfl) rfl ?_
  intro p e s m below meth c A C0 hr
  refine ww_iconst (v := (0)) C0 dX4_mulesThatKnow_0 rfl ?_
  refine ww_istore_n (i := 2) C0 dX4_mulesThatKnow_1 rfl (Nat.le_of_ble_eq_true rfl) rfl ?_
  simp only [List.set_cons_zero, List.set_cons_succ]
  refine ww_iconst (v := (0)) C0 dX4_mulesThatKnow_2 rfl ?_
  refine ww_istore_n (i := 3) C0 dX4_mulesThatKnow_3 rfl (Nat.le_of_ble_eq_true rfl) rfl ?_
  simp only [List.set_cons_zero, List.set_cons_succ]
  refine ww_back (ww_loop (pc := 4) 0 (nm) (by omega) (fun j => [_, _, .int (orBits (fun o => hbit (sKnown na (fn1 o) (fn2 o)) a) j), .int (nI j)]) (fun j => _) ?_ ?_) ⟨Or.inr rfl, Or.inr rfl, Or.inr rfl, Or.inr rfl, trivial⟩ (by rfl)
  · intro j hj0 hj ih
    refine ww_iload_n C0 dX4_mulesThatKnow_4 rfl ?_
    refine ww_aload_n C0 dX4_mulesThatKnow_5 rfl ?_
    refine ww_get C0 (ci := 4) (C := RX4) (T := TX4) (N := 14) ku_X4 0 rfl rfl 3 (by decide) kw_X4_27 rfl dX4_mulesThatKnow_6 ?_
    refine ww_icmp_ge (tgt := 40) C0 dX4_mulesThatKnow_9 (by decide) (fun h9 => ?_) (fun h9 => ?_)
    · skip
      replace h9 := (nI_leE (a := nm) (b := j) rfl rfl (by omega) (by omega)).mp h9
      exfalso; omega
    · skip
      replace h9 := (not_congr (nI_leE (a := nm) (b := j) rfl rfl (by omega) (by omega))).mp h9
      refine ww_aload_n C0 dX4_mulesThatKnow_12 rfl ?_
      refine ww_aload_n C0 dX4_mulesThatKnow_13 rfl ?_
      refine ww_get C0 (ci := 4) (C := RX4) (T := TX4) (N := 14) ku_X4 0 rfl rfl 4 (by decide) kw_X4_34 rfl dX4_mulesThatKnow_14 ?_
      refine ww_iload_n C0 dX4_mulesThatKnow_17 rfl ?_
      refine ww_callVi C0 (qc := (RX4, TX4, 14)) 0 4 (c_X4_known l D cI cZ cQ hnm hna hj) kd_X4_known kw_X4_123 km_X4_known kl_X4_known ki_X4 hd_X4_known rfl rfl ⟨Nat.le_of_ble_eq_true rfl, Nat.le_of_ble_eq_true rfl, rfl, rfl⟩ (Nat.le_of_ble_eq_true rfl) dX4_mulesThatKnow_18 rfl rfl rfl ⟨Nat.zero_le _, Nat.zero_le _⟩ ?_
      refine ww_iload_n C0 dX4_mulesThatKnow_21 rfl ?_
      refine ww_ishr C0 dX4_mulesThatKnow_22 ?_
      refine ww_iconst (v := (1)) C0 dX4_mulesThatKnow_23 rfl ?_
      refine ww_iand C0 dX4_mulesThatKnow_24 ?_
      refine ww_if_eq (tgt := 34) C0 dX4_mulesThatKnow_25 (by decide) (fun h25 => ?_) (fun h25 => ?_)
      · skip
        refine ww_iinc (d := 1) C0 dX4_mulesThatKnow_34 rfl rfl rfl ?_
        simp only [List.set_cons_zero, List.set_cons_succ]
        refine ww_goto (tgt := 4) C0 dX4_mulesThatKnow_37 (by decide) ?_
        exact ww_back ih ⟨Or.inr rfl, Or.inr rfl, Or.inr (congrArg Value.int (by simp [orBits, hbit, *])), Or.inr (congrArg Value.int (nI_addE (a := j) (b := 1) rfl rfl).symm), trivial⟩ (by rfl)
      · skip
        refine ww_iload_n C0 dX4_mulesThatKnow_28 rfl ?_
        refine ww_iconst (v := (1)) C0 dX4_mulesThatKnow_29 rfl ?_
        refine ww_iload_n C0 dX4_mulesThatKnow_30 rfl ?_
        refine ww_ishl C0 dX4_mulesThatKnow_31 ?_
        refine ww_ior C0 dX4_mulesThatKnow_32 ?_
        refine ww_istore_n (i := 2) C0 dX4_mulesThatKnow_33 rfl (Nat.le_of_ble_eq_true rfl) rfl ?_
        simp only [List.set_cons_zero, List.set_cons_succ]
        refine ww_iinc (d := 1) C0 dX4_mulesThatKnow_34 rfl rfl rfl ?_
        simp only [List.set_cons_zero, List.set_cons_succ]
        refine ww_goto (tgt := 4) C0 dX4_mulesThatKnow_37 (by decide) ?_
        exact ww_back ih ⟨Or.inr rfl, Or.inr rfl, Or.inr (congrArg Value.int (by simp [orBits, hbit, *])), Or.inr (congrArg Value.int (nI_addE (a := j) (b := 1) rfl rfl).symm), trivial⟩ (by rfl)
  · skip
    refine ww_iload_n C0 dX4_mulesThatKnow_4 rfl ?_
    refine ww_aload_n C0 dX4_mulesThatKnow_5 rfl ?_
    refine ww_get C0 (ci := 4) (C := RX4) (T := TX4) (N := 14) ku_X4 0 rfl rfl 3 (by decide) kw_X4_27 rfl dX4_mulesThatKnow_6 ?_
    refine ww_icmp_ge (tgt := 40) C0 dX4_mulesThatKnow_9 (by decide) (fun h9 => ?_) (fun h9 => ?_)
    · skip
      replace h9 := (nI_leE (a := nm) (b := nm) rfl rfl (by omega) (by omega)).mp h9
      refine ww_iload_n C0 dX4_mulesThatKnow_40 rfl ?_
      exact ww_iret C0 hr dX4_mulesThatKnow_41 (by rfl) (by rfl)
    · skip
      replace h9 := (not_congr (nI_leE (a := nm) (b := nm) rfl rfl (by omega) (by omega))).mp h9
      exfalso; omega

set_option maxHeartbeats 4000000 in
set_option maxRecDepth 100000 in
theorem c_X4_stepRefusal (l : Launch) (D : va_G) (cI cZ cQ : ClassId) {aX aT aL aC aN aY aA aO aK aG aW al0 al1 al2 an0 an1 an2 : Nat} {nm fa ac na : Nat} {hN bN : Int32} {sd : Int64} {fl0 fl1 fl2 fC fn0 fn1 fn2 : Nat → Int32} {rest : va_W} {k : Nat} {wa : Int32} (hnm : nm ≤ 5) (hna : na ≤ 5) (hk : k < nm) : MI l D [(cI, .int), (cZ, .boolean), (cQ, .object "MulesRemember$State")] yX4_stepRefusal cX4_stepRefusal 3 .int ({ frames := 1, cells := 0, slots := 0, locals := 21 } : Room) [.ref aX, .int (nI k), .int wa] ((aX, .inr (4, [.ref aT, .ref aL, .ref aC, .int (nI nm), .ref aN, .ref aY, .ref aA, .int (nI fa), .int (nI ac), .ref aO, .ref aK, .ref aG, .ref aW, .long sd])) :: (aL, .inr (0, [.ref al0, .ref al1, .ref al2, .int (nI na)])) :: (al0, .inl (cI, 5, .inl (fl0))) :: (al1, .inl (cI, 5, .inl (fl1))) :: (al2, .inl (cI, 5, .inl (fl2))) :: (aC, .inl (cI, 5, .inl (fC))) :: (aN, .inr (2, [.ref an0, .ref an1, .ref an2, .int hN, .int bN])) :: (an0, .inl (cI, 5, .inl (fn0))) :: (an1, .inl (cI, 5, .inl (fn1))) :: (an2, .inl (cI, 5, .inl (fn2))) :: rest) (sRef (fn0 k) wa) ((aX, .inr (4, [.ref aT, .ref aL, .ref aC, .int (nI nm), .ref aN, .ref aY, .ref aA, .int (nI fa), .int (nI ac), .ref aO, .ref aK, .ref aG, .ref aW, .long sd])) :: (aL, .inr (0, [.ref al0, .ref al1, .ref al2, .int (nI na)])) :: (al0, .inl (cI, 5, .inl (fl0))) :: (al1, .inl (cI, 5, .inl (fl1))) :: (al2, .inl (cI, 5, .inl (fl2))) :: (aC, .inl (cI, 5, .inl (fC))) :: (aN, .inr (2, [.ref an0, .ref an1, .ref an2, .int hN, .int bN])) :: (an0, .inl (cI, 5, .inl (fn0))) :: (an1, .inl (cI, 5, .inl (fn1))) :: (an2, .inl (cI, 5, .inl (fn2))) :: rest) := by
  refine MI.of [.ref aX, .int (nI k), .int wa] (by decide) (Nat.le_of_ble_eq_true rfl) rfl ?_
  intro p e s m below meth c A C0 hr
  refine ww_aload_n C0 dX4_stepRefusal_0 rfl ?_
  refine ww_iload_n C0 dX4_stepRefusal_1 rfl ?_
  refine ww_callVi C0 (qc := (RX4, TX4, 14)) 0 4 (c_X4_isMule l D cI cZ cQ hnm) kd_X4_isMule kw_X4_113 km_X4_isMule kl_X4_isMule ki_X4 hd_X4_isMule rfl rfl ⟨Nat.le_of_ble_eq_true rfl, Nat.le_of_ble_eq_true rfl, rfl, rfl⟩ (Nat.le_of_ble_eq_true rfl) dX4_stepRefusal_2 rfl rfl rfl ⟨Nat.zero_le _, Nat.zero_le _⟩ ?_
  refine ww_bif_ne (tgt := 10) C0 dX4_stepRefusal_5 (by decide) (fun h5 => ?_) (fun h5 => ?_)
  · skip
    refine ww_iload_n C0 dX4_stepRefusal_10 rfl ?_
    refine ww_callSi C0 (c_X4_isFlag l D cI cZ cQ) kd_X4_isFlag kw_X4_189 ks_X4_isFlag ki_X4 hd_X4_isFlag ⟨Nat.le_of_ble_eq_true rfl, Nat.le_of_ble_eq_true rfl, rfl, rfl⟩ (Nat.le_of_ble_eq_true rfl) dX4_stepRefusal_11 rfl rfl ⟨Nat.zero_le _, Nat.zero_le _⟩ ?_
    refine ww_bif_ne (tgt := 20) C0 dX4_stepRefusal_14 (by decide) (fun h14 => ?_) (fun h14 => ?_)
    · skip
      refine ww_aload_n C0 dX4_stepRefusal_20 rfl ?_
      refine ww_get C0 (ci := 4) (C := RX4) (T := TX4) (N := 14) ku_X4 0 rfl rfl 4 (by decide) kw_X4_34 rfl dX4_stepRefusal_21 ?_
      refine ww_getN C0 (ci := 2) (C := RX2) (T := TX2) (N := 5) ku_X2 6 rfl rfl 0 (by decide) kn_X4_116 rfl dX4_stepRefusal_24 ?_
      refine ww_iload_n C0 dX4_stepRefusal_27 rfl ?_
      refine ww_iald_n (j := k) C0 7 0 rfl rfl rfl (by omega) (by decide) dX4_stepRefusal_28 ?_
      refine ww_iload_n C0 dX4_stepRefusal_29 rfl ?_
      refine ww_callSi C0 (c_X4_nextStone l D cI cZ cQ) kd_X4_nextStone kw_X4_240 ks_X4_nextStone ki_X4 hd_X4_nextStone ⟨Nat.le_of_ble_eq_true rfl, Nat.le_of_ble_eq_true rfl, rfl, rfl⟩ (Nat.le_of_ble_eq_true rfl) dX4_stepRefusal_30 rfl rfl ⟨Nat.zero_le _, Nat.zero_le _⟩ ?_
      refine ww_callSi C0 (c_X4_isStone l D cI cZ cQ) kd_X4_isStone kw_X4_165 ks_X4_isStone ki_X4 hd_X4_isStone ⟨Nat.le_of_ble_eq_true rfl, Nat.le_of_ble_eq_true rfl, rfl, rfl⟩ (Nat.le_of_ble_eq_true rfl) dX4_stepRefusal_33 rfl rfl ⟨Nat.zero_le _, Nat.zero_le _⟩ ?_
      refine ww_bif_eq (tgt := 43) C0 dX4_stepRefusal_36 (by decide) (fun h36 => ?_) (fun h36 => ?_)
      · skip
        refine ww_bipush (v := (-3)) C0 dX4_stepRefusal_43 rfl ?_
        exact ww_iret C0 hr dX4_stepRefusal_45 (by simp [sRef, *]) (by rfl)
      · skip
        refine ww_iconst (v := (0)) C0 dX4_stepRefusal_39 rfl ?_
        refine ww_goto (tgt := 45) C0 dX4_stepRefusal_40 (by decide) ?_
        exact ww_iret C0 hr dX4_stepRefusal_45 (by simp [sRef, *]) (by rfl)
    · skip
      refine ww_bipush (v := (-2)) C0 dX4_stepRefusal_17 rfl ?_
      exact ww_iret C0 hr dX4_stepRefusal_19 (by simp [sRef, *]) (by rfl)
  · skip
    exact absurd (isN_nI (by omega) hk) (by rw [h5]; decide)

set_option maxHeartbeats 4000000 in
set_option maxRecDepth 100000 in
theorem c_X4_stepRefusal_b (l : Launch) (D : va_G) (cI cZ cQ : ClassId) {aX aT aL aC aN aY aA aO aK aG aW : Nat} {nm fa ac : Nat} {sd : Int64} {rest : va_W} {m wa : Int32} (hnm : nm ≤ 5) (hm : isN nm m = false) : MI l D [(cI, .int), (cZ, .boolean), (cQ, .object "MulesRemember$State")] yX4_stepRefusal cX4_stepRefusal 3 .int ({ frames := 1, cells := 0, slots := 0, locals := 21 } : Room) [.ref aX, .int m, .int wa] ((aX, .inr (4, [.ref aT, .ref aL, .ref aC, .int (nI nm), .ref aN, .ref aY, .ref aA, .int (nI fa), .int (nI ac), .ref aO, .ref aK, .ref aG, .ref aW, .long sd])) :: rest) (-1) ((aX, .inr (4, [.ref aT, .ref aL, .ref aC, .int (nI nm), .ref aN, .ref aY, .ref aA, .int (nI fa), .int (nI ac), .ref aO, .ref aK, .ref aG, .ref aW, .long sd])) :: rest) := by
  refine MI.of [.ref aX, .int m, .int wa] (by decide) (Nat.le_of_ble_eq_true rfl) rfl ?_
  intro p e s m below meth c A C0 hr
  refine ww_aload_n C0 dX4_stepRefusal_0 rfl ?_
  refine ww_iload_n C0 dX4_stepRefusal_1 rfl ?_
  refine ww_callVi C0 (qc := (RX4, TX4, 14)) 0 4 (c_X4_isMule l D cI cZ cQ hnm) kd_X4_isMule kw_X4_113 km_X4_isMule kl_X4_isMule ki_X4 hd_X4_isMule rfl rfl ⟨Nat.le_of_ble_eq_true rfl, Nat.le_of_ble_eq_true rfl, rfl, rfl⟩ (Nat.le_of_ble_eq_true rfl) dX4_stepRefusal_2 rfl rfl rfl ⟨Nat.zero_le _, Nat.zero_le _⟩ ?_
  refine ww_bif_ne (tgt := 10) C0 dX4_stepRefusal_5 (by decide) (fun h5 => ?_) (fun h5 => ?_)
  · skip
    exact absurd h5 (by rw [hm]; decide)
  · skip
    refine ww_iconst (v := (-1)) C0 dX4_stepRefusal_8 rfl ?_
    exact ww_iret C0 hr dX4_stepRefusal_9 (by rfl) (by rfl)

set_option maxHeartbeats 4000000 in
set_option maxRecDepth 100000 in
theorem c_X4_othersFromNorthOf (l : Launch) (D : va_G) (cI cZ cQ : ClassId) {aX aT aL aC aN aY aA aO aK aG aW al0 al1 al2 aS as0 as1 as2 : Nat} {nm fa ac na : Nat} {hS bS : Int32} {sd : Int64} {fl0 fl1 fl2 fC fs0 fs1 fs2 : Nat → Int32} {rest : va_W} {k : Nat} {on : Int32} (hnm : nm ≤ 5) (hk : k < nm) : MI l D [(cI, .int), (cZ, .boolean), (cQ, .object "MulesRemember$State")] yX4_othersFromNorthOf cX4_othersFromNorthOf 6 .int ({ frames := 0, cells := 0, slots := 0, locals := 0 } : Room) [.ref aX, .ref aS, .int (nI k), .int on] ((aX, .inr (4, [.ref aT, .ref aL, .ref aC, .int (nI nm), .ref aN, .ref aY, .ref aA, .int (nI fa), .int (nI ac), .ref aO, .ref aK, .ref aG, .ref aW, .long sd])) :: (aL, .inr (0, [.ref al0, .ref al1, .ref al2, .int (nI na)])) :: (al0, .inl (cI, 5, .inl (fl0))) :: (al1, .inl (cI, 5, .inl (fl1))) :: (al2, .inl (cI, 5, .inl (fl2))) :: (aC, .inl (cI, 5, .inl (fC))) :: (aS, .inr (2, [.ref as0, .ref as1, .ref as2, .int hS, .int bS])) :: (as0, .inl (cI, 5, .inl (fs0))) :: (as1, .inl (cI, 5, .inl (fs1))) :: (as2, .inl (cI, 5, .inl (fs2))) :: rest) (sOth nm fs0 k on) ((aX, .inr (4, [.ref aT, .ref aL, .ref aC, .int (nI nm), .ref aN, .ref aY, .ref aA, .int (nI fa), .int (nI ac), .ref aO, .ref aK, .ref aG, .ref aW, .long sd])) :: (aL, .inr (0, [.ref al0, .ref al1, .ref al2, .int (nI na)])) :: (al0, .inl (cI, 5, .inl (fl0))) :: (al1, .inl (cI, 5, .inl (fl1))) :: (al2, .inl (cI, 5, .inl (fl2))) :: (aC, .inl (cI, 5, .inl (fC))) :: (aS, .inr (2, [.ref as0, .ref as1, .ref as2, .int hS, .int bS])) :: (as0, .inl (cI, 5, .inl (fs0))) :: (as1, .inl (cI, 5, .inl (fs1))) :: (as2, .inl (cI, 5, .inl (fs2))) :: rest) := by
  refine MI.of [.ref aX, .ref aS, .int (nI k), .int on, .null, .null] (by decide) (Nat.le_of_ble_eq_true rfl) rfl ?_
  intro p e s m below meth c A C0 hr
  refine ww_iconst (v := (0)) C0 dX4_othersFromNorthOf_0 rfl ?_
  refine ww_istore (i := 4) C0 dX4_othersFromNorthOf_1 (Nat.le_of_ble_eq_true rfl) rfl ?_
  simp only [List.set_cons_zero, List.set_cons_succ]
  refine ww_iconst (v := (0)) C0 dX4_othersFromNorthOf_3 rfl ?_
  refine ww_istore (i := 5) C0 dX4_othersFromNorthOf_4 (Nat.le_of_ble_eq_true rfl) rfl ?_
  simp only [List.set_cons_zero, List.set_cons_succ]
  refine ww_back (ww_loop (pc := 6) 0 (nm) (by omega) (fun j => [_, _, _, _, .int (sOth j fs0 k on), .int (nI j)]) (fun j => _) ?_ ?_) ⟨Or.inr rfl, Or.inr rfl, Or.inr rfl, Or.inr rfl, Or.inr rfl, Or.inr rfl, trivial⟩ (by rfl)
  · intro j hj0 hj ih
    refine ww_iload C0 dX4_othersFromNorthOf_6 rfl ?_
    refine ww_aload_n C0 dX4_othersFromNorthOf_8 rfl ?_
    refine ww_get C0 (ci := 4) (C := RX4) (T := TX4) (N := 14) ku_X4 0 rfl rfl 3 (by decide) kw_X4_27 rfl dX4_othersFromNorthOf_9 ?_
    refine ww_icmp_ge (tgt := 47) C0 dX4_othersFromNorthOf_12 (by decide) (fun h12 => ?_) (fun h12 => ?_)
    · skip
      replace h12 := (nI_leE (a := nm) (b := j) rfl rfl (by omega) (by omega)).mp h12
      exfalso; omega
    · skip
      replace h12 := (not_congr (nI_leE (a := nm) (b := j) rfl rfl (by omega) (by omega))).mp h12
      refine ww_iload C0 dX4_othersFromNorthOf_15 rfl ?_
      refine ww_iconst (v := (5)) C0 dX4_othersFromNorthOf_17 rfl ?_
      refine ww_icmp_ge (tgt := 47) C0 dX4_othersFromNorthOf_18 (by decide) (fun h18 => ?_) (fun h18 => ?_)
      · skip
        replace h18 := (nI_leE (a := 5) (b := j) rfl rfl (by omega) (by omega)).mp h18
        exfalso; omega
      · skip
        replace h18 := (not_congr (nI_leE (a := 5) (b := j) rfl rfl (by omega) (by omega))).mp h18
        refine ww_iload C0 dX4_othersFromNorthOf_21 rfl ?_
        refine ww_iload_n C0 dX4_othersFromNorthOf_23 rfl ?_
        refine ww_icmp_eq (tgt := 41) C0 dX4_othersFromNorthOf_24 (by decide) (fun h24 => ?_) (fun h24 => ?_)
        · skip
          replace h24 := (nI_eqE (a := j) (b := k) rfl rfl (by omega) (by omega)).mp h24
          subst h24
          refine ww_iinc (d := 1) C0 dX4_othersFromNorthOf_41 rfl rfl rfl ?_
          simp only [List.set_cons_zero, List.set_cons_succ]
          refine ww_goto (tgt := 6) C0 dX4_othersFromNorthOf_44 (by decide) ?_
          exact ww_back ih ⟨Or.inr rfl, Or.inr rfl, Or.inr rfl, Or.inr rfl, Or.inr (congrArg Value.int (by simp [sOth, cntI, *])), Or.inr (congrArg Value.int (nI_addE (a := j) (b := 1) rfl rfl).symm), trivial⟩ (by rfl)
        · skip
          replace h24 := (not_congr (nI_eqE (a := j) (b := k) rfl rfl (by omega) (by omega))).mp h24
          refine ww_aload_n C0 dX4_othersFromNorthOf_27 rfl ?_
          refine ww_getN C0 (ci := 2) (C := RX2) (T := TX2) (N := 5) ku_X2 6 rfl rfl 0 (by decide) kn_X4_116 rfl dX4_othersFromNorthOf_28 ?_
          refine ww_iload C0 dX4_othersFromNorthOf_31 rfl ?_
          refine ww_iald_n (j := j) C0 7 0 rfl rfl rfl (by omega) (by decide) dX4_othersFromNorthOf_33 ?_
          refine ww_iload_n C0 dX4_othersFromNorthOf_34 rfl ?_
          refine ww_icmp_lt (tgt := 41) C0 dX4_othersFromNorthOf_35 (by decide) (fun h35 => ?_) (fun h35 => ?_)
          · skip
            refine ww_iinc (d := 1) C0 dX4_othersFromNorthOf_41 rfl rfl rfl ?_
            simp only [List.set_cons_zero, List.set_cons_succ]
            refine ww_goto (tgt := 6) C0 dX4_othersFromNorthOf_44 (by decide) ?_
            exact ww_back ih ⟨Or.inr rfl, Or.inr rfl, Or.inr rfl, Or.inr rfl, Or.inr (congrArg Value.int (by simp [sOth, cntI, *])), Or.inr (congrArg Value.int (nI_addE (a := j) (b := 1) rfl rfl).symm), trivial⟩ (by rfl)
          · skip
            refine ww_iinc (d := 1) C0 dX4_othersFromNorthOf_38 rfl rfl rfl ?_
            simp only [List.set_cons_zero, List.set_cons_succ]
            refine ww_iinc (d := 1) C0 dX4_othersFromNorthOf_41 rfl rfl rfl ?_
            simp only [List.set_cons_zero, List.set_cons_succ]
            refine ww_goto (tgt := 6) C0 dX4_othersFromNorthOf_44 (by decide) ?_
            exact ww_back ih ⟨Or.inr rfl, Or.inr rfl, Or.inr rfl, Or.inr rfl, Or.inr (congrArg Value.int (by simp [sOth, cntI, *])), Or.inr (congrArg Value.int (nI_addE (a := j) (b := 1) rfl rfl).symm), trivial⟩ (by rfl)
  · skip
    refine ww_iload C0 dX4_othersFromNorthOf_6 rfl ?_
    refine ww_aload_n C0 dX4_othersFromNorthOf_8 rfl ?_
    refine ww_get C0 (ci := 4) (C := RX4) (T := TX4) (N := 14) ku_X4 0 rfl rfl 3 (by decide) kw_X4_27 rfl dX4_othersFromNorthOf_9 ?_
    refine ww_icmp_ge (tgt := 47) C0 dX4_othersFromNorthOf_12 (by decide) (fun h12 => ?_) (fun h12 => ?_)
    · skip
      replace h12 := (nI_leE (a := nm) (b := nm) rfl rfl (by omega) (by omega)).mp h12
      refine ww_iload C0 dX4_othersFromNorthOf_47 rfl ?_
      exact ww_iret C0 hr dX4_othersFromNorthOf_49 (by rfl) (by rfl)
    · skip
      replace h12 := (not_congr (nI_leE (a := nm) (b := nm) rfl rfl (by omega) (by omega))).mp h12
      exfalso; omega

set_option maxHeartbeats 4000000 in
set_option maxRecDepth 100000 in
theorem c_X4_forbiddersFrom (l : Launch) (D : va_G) (cI cZ cQ : ClassId) {aX aT aL aC aN aY aA aO aK aG aW al0 al1 al2 aS as0 as1 as2 : Nat} {nm fa ac na : Nat} {hS bS : Int32} {sd : Int64} {fl0 fl1 fl2 fC fs0 fs1 fs2 : Nat → Int32} {rest : va_W} {k : Nat} {fr wa ho : Int32} (hnm : nm ≤ 5) (hna : na ≤ 5) (hk : k < nm) : MI l D [(cI, .int), (cZ, .boolean), (cQ, .object "MulesRemember$State")] yX4_forbiddersFrom cX4_forbiddersFrom 10 .int ({ frames := 2, cells := 0, slots := 0, locals := 50 } : Room) [.ref aX, .ref aS, .int (nI k), .int fr, .int wa, .int ho] ((aX, .inr (4, [.ref aT, .ref aL, .ref aC, .int (nI nm), .ref aN, .ref aY, .ref aA, .int (nI fa), .int (nI ac), .ref aO, .ref aK, .ref aG, .ref aW, .long sd])) :: (aL, .inr (0, [.ref al0, .ref al1, .ref al2, .int (nI na)])) :: (al0, .inl (cI, 5, .inl (fl0))) :: (al1, .inl (cI, 5, .inl (fl1))) :: (al2, .inl (cI, 5, .inl (fl2))) :: (aC, .inl (cI, 5, .inl (fC))) :: (aS, .inr (2, [.ref as0, .ref as1, .ref as2, .int hS, .int bS])) :: (as0, .inl (cI, 5, .inl (fs0))) :: (as1, .inl (cI, 5, .inl (fs1))) :: (as2, .inl (cI, 5, .inl (fs2))) :: rest) (sFF nm na fl0 fl1 fl2 fC fs0 k fr wa ho) ((aX, .inr (4, [.ref aT, .ref aL, .ref aC, .int (nI nm), .ref aN, .ref aY, .ref aA, .int (nI fa), .int (nI ac), .ref aO, .ref aK, .ref aG, .ref aW, .long sd])) :: (aL, .inr (0, [.ref al0, .ref al1, .ref al2, .int (nI na)])) :: (al0, .inl (cI, 5, .inl (fl0))) :: (al1, .inl (cI, 5, .inl (fl1))) :: (al2, .inl (cI, 5, .inl (fl2))) :: (aC, .inl (cI, 5, .inl (fC))) :: (aS, .inr (2, [.ref as0, .ref as1, .ref as2, .int hS, .int bS])) :: (as0, .inl (cI, 5, .inl (fs0))) :: (as1, .inl (cI, 5, .inl (fs1))) :: (as2, .inl (cI, 5, .inl (fs2))) :: rest) := by
  refine MI.of [.ref aX, .ref aS, .int (nI k), .int fr, .int wa, .int ho, .null, .null, .null, .null] (by decide) (Nat.le_of_ble_eq_true rfl) rfl ?_
  intro p e s m below meth c A C0 hr
  refine ww_iload_n C0 dX4_forbiddersFrom_0 rfl ?_
  refine ww_iload C0 dX4_forbiddersFrom_1 rfl ?_
  refine ww_callSi C0 (c_X4_nextStone l D cI cZ cQ) kd_X4_nextStone kw_X4_240 ks_X4_nextStone ki_X4 hd_X4_nextStone ⟨Nat.le_of_ble_eq_true rfl, Nat.le_of_ble_eq_true rfl, rfl, rfl⟩ (Nat.le_of_ble_eq_true rfl) dX4_forbiddersFrom_3 rfl rfl ⟨Nat.zero_le _, Nat.zero_le _⟩ ?_
  refine ww_istore (i := 6) C0 dX4_forbiddersFrom_6 (Nat.le_of_ble_eq_true rfl) rfl ?_
  simp only [List.set_cons_zero, List.set_cons_succ]
  refine ww_aload_n C0 dX4_forbiddersFrom_8 rfl ?_
  refine ww_iload_n C0 dX4_forbiddersFrom_9 rfl ?_
  refine ww_callVi C0 (qc := (RX4, TX4, 14)) 0 4 (c_X4_isMule l D cI cZ cQ hnm) kd_X4_isMule kw_X4_113 km_X4_isMule kl_X4_isMule ki_X4 hd_X4_isMule rfl rfl ⟨Nat.le_of_ble_eq_true rfl, Nat.le_of_ble_eq_true rfl, rfl, rfl⟩ (Nat.le_of_ble_eq_true rfl) dX4_forbiddersFrom_10 rfl rfl rfl ⟨Nat.zero_le _, Nat.zero_le _⟩ ?_
  refine ww_bif_eq (tgt := 24) C0 dX4_forbiddersFrom_13 (by decide) (fun h13 => ?_) (fun h13 => ?_)
  · skip
    exact absurd (isN_nI (by omega) hk) (by rw [h13]; decide)
  · skip
    refine ww_iload C0 dX4_forbiddersFrom_16 rfl ?_
    refine ww_callSi C0 (c_X4_isStone l D cI cZ cQ) kd_X4_isStone kw_X4_165 ks_X4_isStone ki_X4 hd_X4_isStone ⟨Nat.le_of_ble_eq_true rfl, Nat.le_of_ble_eq_true rfl, rfl, rfl⟩ (Nat.le_of_ble_eq_true rfl) dX4_forbiddersFrom_18 rfl rfl ⟨Nat.zero_le _, Nat.zero_le _⟩ ?_
    refine ww_bif_ne (tgt := 26) C0 dX4_forbiddersFrom_21 (by decide) (fun h21 => ?_) (fun h21 => ?_)
    · skip
      refine ww_aload_n C0 dX4_forbiddersFrom_26 rfl ?_
      refine ww_aload_n C0 dX4_forbiddersFrom_27 rfl ?_
      refine ww_iload_n C0 dX4_forbiddersFrom_28 rfl ?_
      refine ww_iload C0 dX4_forbiddersFrom_29 rfl ?_
      refine ww_callVi C0 (qc := (RX4, TX4, 14)) 0 4 (c_X4_othersFromNorthOf l D cI cZ cQ hnm hk) kd_X4_othersFromNorthOf kw_X4_247 km_X4_othersFromNorthOf kl_X4_othersFromNorthOf ki_X4 hd_X4_othersFromNorthOf rfl rfl ⟨Nat.le_of_ble_eq_true rfl, Nat.le_of_ble_eq_true rfl, rfl, rfl⟩ (Nat.le_of_ble_eq_true rfl) dX4_forbiddersFrom_31 rfl rfl rfl ⟨Nat.zero_le _, Nat.zero_le _⟩ ?_
      refine ww_istore (i := 7) C0 dX4_forbiddersFrom_34 (Nat.le_of_ble_eq_true rfl) rfl ?_
      simp only [List.set_cons_zero, List.set_cons_succ]
      refine ww_iconst (v := (0)) C0 dX4_forbiddersFrom_36 rfl ?_
      refine ww_istore (i := 8) C0 dX4_forbiddersFrom_37 (Nat.le_of_ble_eq_true rfl) rfl ?_
      simp only [List.set_cons_zero, List.set_cons_succ]
      refine ww_iconst (v := (0)) C0 dX4_forbiddersFrom_39 rfl ?_
      refine ww_istore (i := 9) C0 dX4_forbiddersFrom_40 (Nat.le_of_ble_eq_true rfl) rfl ?_
      simp only [List.set_cons_zero, List.set_cons_succ]
      refine ww_back (ww_loop (pc := 42) 0 (na) (by omega) (fun j => [_, _, _, _, _, _, _, _, .int (sForb j fl0 fl1 fl2 (sNext fr wa) (fC k) (ho - ho / 10 * 10) wa (sOth nm fs0 k (sNext fr wa))), .int (nI j)]) (fun j => _) ?_ ?_) ⟨Or.inr rfl, Or.inr rfl, Or.inr rfl, Or.inr rfl, Or.inr rfl, Or.inr rfl, Or.inr rfl, Or.inr rfl, Or.inr rfl, Or.inr rfl, trivial⟩ (by rfl)
      · intro j hj0 hj ih
        refine ww_iload C0 dX4_forbiddersFrom_42 rfl ?_
        refine ww_aload_n C0 dX4_forbiddersFrom_44 rfl ?_
        refine ww_get C0 (ci := 4) (C := RX4) (T := TX4) (N := 14) ku_X4 0 rfl rfl 1 (by decide) kw_X4_19 rfl dX4_forbiddersFrom_45 ?_
        refine ww_getN C0 (ci := 0) (C := RX0) (T := TX0) (N := 4) ku_X0 1 rfl rfl 3 (by decide) kn_X4_83 rfl dX4_forbiddersFrom_48 ?_
        refine ww_icmp_ge (tgt := 98) C0 dX4_forbiddersFrom_51 (by decide) (fun h51 => ?_) (fun h51 => ?_)
        · skip
          replace h51 := (nI_leE (a := na) (b := j) rfl rfl (by omega) (by omega)).mp h51
          exfalso; omega
        · skip
          replace h51 := (not_congr (nI_leE (a := na) (b := j) rfl rfl (by omega) (by omega))).mp h51
          refine ww_aload_n C0 dX4_forbiddersFrom_54 rfl ?_
          refine ww_get C0 (ci := 4) (C := RX4) (T := TX4) (N := 14) ku_X4 0 rfl rfl 1 (by decide) kw_X4_19 rfl dX4_forbiddersFrom_55 ?_
          refine ww_iload C0 dX4_forbiddersFrom_58 rfl ?_
          refine ww_iload C0 dX4_forbiddersFrom_60 rfl ?_
          refine ww_aload_n C0 dX4_forbiddersFrom_62 rfl ?_
          refine ww_get C0 (ci := 4) (C := RX4) (T := TX4) (N := 14) ku_X4 0 rfl rfl 2 (by decide) kw_X4_23 rfl dX4_forbiddersFrom_63 ?_
          refine ww_iload_n C0 dX4_forbiddersFrom_66 rfl ?_
          refine ww_iald_n (j := k) C0 5 0 rfl rfl rfl (by omega) (by decide) dX4_forbiddersFrom_67 ?_
          refine ww_iload C0 dX4_forbiddersFrom_68 rfl ?_
          refine ww_bipush (v := (10)) C0 dX4_forbiddersFrom_70 rfl ?_
          refine ww_irem C0 dX4_forbiddersFrom_72 (by decide) ?_
          refine ww_iload C0 dX4_forbiddersFrom_73 rfl ?_
          refine ww_iload C0 dX4_forbiddersFrom_75 rfl ?_
          refine ww_callVNi C0 (qc := (RX0, TX0, 4)) 1 0 (c_X0_forbids l D cI cZ cQ hna hj) kd_X0_forbids kn_X4_250 km_X0_forbids kl_X0_forbids ki_X0 hd_X0_forbids rfl rfl ⟨Nat.le_of_ble_eq_true rfl, Nat.le_of_ble_eq_true rfl, rfl, rfl⟩ (Nat.le_of_ble_eq_true rfl) dX4_forbiddersFrom_77 rfl rfl rfl ⟨Nat.zero_le _, Nat.zero_le _⟩ ?_
          refine ww_bif_eq (tgt := 92) C0 dX4_forbiddersFrom_80 (by decide) (fun h80 => ?_) (fun h80 => ?_)
          · skip
            refine ww_iinc (d := 1) C0 dX4_forbiddersFrom_92 rfl rfl rfl ?_
            simp only [List.set_cons_zero, List.set_cons_succ]
            refine ww_goto (tgt := 42) C0 dX4_forbiddersFrom_95 (by decide) ?_
            exact ww_back ih ⟨Or.inr rfl, Or.inr rfl, Or.inr rfl, Or.inr rfl, Or.inr rfl, Or.inr rfl, Or.inr rfl, Or.inr rfl, Or.inr (congrArg Value.int (by simp [sForb, orBits, *])), Or.inr (congrArg Value.int (nI_addE (a := j) (b := 1) rfl rfl).symm), trivial⟩ (by rfl)
          · skip
            refine ww_iload C0 dX4_forbiddersFrom_83 rfl ?_
            refine ww_iconst (v := (1)) C0 dX4_forbiddersFrom_85 rfl ?_
            refine ww_iload C0 dX4_forbiddersFrom_86 rfl ?_
            refine ww_ishl C0 dX4_forbiddersFrom_88 ?_
            refine ww_ior C0 dX4_forbiddersFrom_89 ?_
            refine ww_istore (i := 8) C0 dX4_forbiddersFrom_90 (Nat.le_of_ble_eq_true rfl) rfl ?_
            simp only [List.set_cons_zero, List.set_cons_succ]
            refine ww_iinc (d := 1) C0 dX4_forbiddersFrom_92 rfl rfl rfl ?_
            simp only [List.set_cons_zero, List.set_cons_succ]
            refine ww_goto (tgt := 42) C0 dX4_forbiddersFrom_95 (by decide) ?_
            exact ww_back ih ⟨Or.inr rfl, Or.inr rfl, Or.inr rfl, Or.inr rfl, Or.inr rfl, Or.inr rfl, Or.inr rfl, Or.inr rfl, Or.inr (congrArg Value.int (by simp [sForb, orBits, *])), Or.inr (congrArg Value.int (nI_addE (a := j) (b := 1) rfl rfl).symm), trivial⟩ (by rfl)
      · skip
        refine ww_iload C0 dX4_forbiddersFrom_42 rfl ?_
        refine ww_aload_n C0 dX4_forbiddersFrom_44 rfl ?_
        refine ww_get C0 (ci := 4) (C := RX4) (T := TX4) (N := 14) ku_X4 0 rfl rfl 1 (by decide) kw_X4_19 rfl dX4_forbiddersFrom_45 ?_
        refine ww_getN C0 (ci := 0) (C := RX0) (T := TX0) (N := 4) ku_X0 1 rfl rfl 3 (by decide) kn_X4_83 rfl dX4_forbiddersFrom_48 ?_
        refine ww_icmp_ge (tgt := 98) C0 dX4_forbiddersFrom_51 (by decide) (fun h51 => ?_) (fun h51 => ?_)
        · skip
          replace h51 := (nI_leE (a := na) (b := na) rfl rfl (by omega) (by omega)).mp h51
          refine ww_iload C0 dX4_forbiddersFrom_98 rfl ?_
          exact ww_iret C0 hr dX4_forbiddersFrom_100 (by simp [sFF, *]) (by rfl)
        · skip
          replace h51 := (not_congr (nI_leE (a := na) (b := na) rfl rfl (by omega) (by omega))).mp h51
          exfalso; omega
    · skip
      refine ww_iconst (v := (-1)) C0 dX4_forbiddersFrom_24 rfl ?_
      exact ww_iret C0 hr dX4_forbiddersFrom_25 (by simp [sFF, *]) (by rfl)

set_option maxHeartbeats 4000000 in
set_option maxRecDepth 100000 in
theorem c_X4_forbidders (l : Launch) (D : va_G) (cI cZ cQ : ClassId) {aX aT aL aC aN aY aA aO aK aG aW al0 al1 al2 aS as0 as1 as2 : Nat} {nm fa ac na : Nat} {hS bS : Int32} {sd : Int64} {fl0 fl1 fl2 fC fs0 fs1 fs2 : Nat → Int32} {rest : va_W} {k : Nat} {wa : Int32} (hnm : nm ≤ 5) (hna : na ≤ 5) (hk : k < nm) : MI l D [(cI, .int), (cZ, .boolean), (cQ, .object "MulesRemember$State")] yX4_forbidders cX4_forbidders 4 .int ({ frames := 3, cells := 0, slots := 0, locals := 79 } : Room) [.ref aX, .ref aS, .int (nI k), .int wa] ((aX, .inr (4, [.ref aT, .ref aL, .ref aC, .int (nI nm), .ref aN, .ref aY, .ref aA, .int (nI fa), .int (nI ac), .ref aO, .ref aK, .ref aG, .ref aW, .long sd])) :: (aL, .inr (0, [.ref al0, .ref al1, .ref al2, .int (nI na)])) :: (al0, .inl (cI, 5, .inl (fl0))) :: (al1, .inl (cI, 5, .inl (fl1))) :: (al2, .inl (cI, 5, .inl (fl2))) :: (aC, .inl (cI, 5, .inl (fC))) :: (aS, .inr (2, [.ref as0, .ref as1, .ref as2, .int hS, .int bS])) :: (as0, .inl (cI, 5, .inl (fs0))) :: (as1, .inl (cI, 5, .inl (fs1))) :: (as2, .inl (cI, 5, .inl (fs2))) :: rest) (sFF nm na fl0 fl1 fl2 fC fs0 k (fs0 k) wa hS) ((aX, .inr (4, [.ref aT, .ref aL, .ref aC, .int (nI nm), .ref aN, .ref aY, .ref aA, .int (nI fa), .int (nI ac), .ref aO, .ref aK, .ref aG, .ref aW, .long sd])) :: (aL, .inr (0, [.ref al0, .ref al1, .ref al2, .int (nI na)])) :: (al0, .inl (cI, 5, .inl (fl0))) :: (al1, .inl (cI, 5, .inl (fl1))) :: (al2, .inl (cI, 5, .inl (fl2))) :: (aC, .inl (cI, 5, .inl (fC))) :: (aS, .inr (2, [.ref as0, .ref as1, .ref as2, .int hS, .int bS])) :: (as0, .inl (cI, 5, .inl (fs0))) :: (as1, .inl (cI, 5, .inl (fs1))) :: (as2, .inl (cI, 5, .inl (fs2))) :: rest) := by
  refine MI.of [.ref aX, .ref aS, .int (nI k), .int wa] (by decide) (Nat.le_of_ble_eq_true rfl) rfl ?_
  intro p e s m below meth c A C0 hr
  refine ww_aload_n C0 dX4_forbidders_0 rfl ?_
  refine ww_iload_n C0 dX4_forbidders_1 rfl ?_
  refine ww_callVi C0 (qc := (RX4, TX4, 14)) 0 4 (c_X4_isMule l D cI cZ cQ hnm) kd_X4_isMule kw_X4_113 km_X4_isMule kl_X4_isMule ki_X4 hd_X4_isMule rfl rfl ⟨Nat.le_of_ble_eq_true rfl, Nat.le_of_ble_eq_true rfl, rfl, rfl⟩ (Nat.le_of_ble_eq_true rfl) dX4_forbidders_2 rfl rfl rfl ⟨Nat.zero_le _, Nat.zero_le _⟩ ?_
  refine ww_bif_ne (tgt := 10) C0 dX4_forbidders_5 (by decide) (fun h5 => ?_) (fun h5 => ?_)
  · skip
    refine ww_aload_n C0 dX4_forbidders_10 rfl ?_
    refine ww_aload_n C0 dX4_forbidders_11 rfl ?_
    refine ww_iload_n C0 dX4_forbidders_12 rfl ?_
    refine ww_aload_n C0 dX4_forbidders_13 rfl ?_
    refine ww_getN C0 (ci := 2) (C := RX2) (T := TX2) (N := 5) ku_X2 6 rfl rfl 0 (by decide) kn_X4_116 rfl dX4_forbidders_14 ?_
    refine ww_iload_n C0 dX4_forbidders_17 rfl ?_
    refine ww_iald_n (j := k) C0 7 0 rfl rfl rfl (by omega) (by decide) dX4_forbidders_18 ?_
    refine ww_iload_n C0 dX4_forbidders_19 rfl ?_
    refine ww_aload_n C0 dX4_forbidders_20 rfl ?_
    refine ww_getN C0 (ci := 2) (C := RX2) (T := TX2) (N := 5) ku_X2 6 rfl rfl 3 (by decide) kn_X4_86 rfl dX4_forbidders_21 ?_
    refine ww_callVi C0 (qc := (RX4, TX4, 14)) 0 4 (c_X4_forbiddersFrom l D cI cZ cQ hnm hna hk) kd_X4_forbiddersFrom kw_X4_243 km_X4_forbiddersFrom kl_X4_forbiddersFrom ki_X4 hd_X4_forbiddersFrom rfl rfl ⟨Nat.le_of_ble_eq_true rfl, Nat.le_of_ble_eq_true rfl, rfl, rfl⟩ (Nat.le_of_ble_eq_true rfl) dX4_forbidders_24 rfl rfl rfl ⟨Nat.zero_le _, Nat.zero_le _⟩ ?_
    exact ww_iret C0 hr dX4_forbidders_27 (by rfl) (by rfl)
  · skip
    exact absurd (isN_nI (by omega) hk) (by rw [h5]; decide)

set_option maxHeartbeats 4000000 in
set_option maxRecDepth 100000 in
theorem c_X4_forbidders_b (l : Launch) (D : va_G) (cI cZ cQ : ClassId) {aX aT aL aC aN aY aA aO aK aG aW : Nat} {nm fa ac : Nat} {sd : Int64} {rest : va_W} {aS : Nat} {m wa : Int32} (hnm : nm ≤ 5) (hm : isN nm m = false) : MI l D [(cI, .int), (cZ, .boolean), (cQ, .object "MulesRemember$State")] yX4_forbidders cX4_forbidders 4 .int ({ frames := 3, cells := 0, slots := 0, locals := 79 } : Room) [.ref aX, .ref aS, .int m, .int wa] ((aX, .inr (4, [.ref aT, .ref aL, .ref aC, .int (nI nm), .ref aN, .ref aY, .ref aA, .int (nI fa), .int (nI ac), .ref aO, .ref aK, .ref aG, .ref aW, .long sd])) :: rest) (-1) ((aX, .inr (4, [.ref aT, .ref aL, .ref aC, .int (nI nm), .ref aN, .ref aY, .ref aA, .int (nI fa), .int (nI ac), .ref aO, .ref aK, .ref aG, .ref aW, .long sd])) :: rest) := by
  refine MI.of [.ref aX, .ref aS, .int m, .int wa] (by decide) (Nat.le_of_ble_eq_true rfl) rfl ?_
  intro p e s m below meth c A C0 hr
  refine ww_aload_n C0 dX4_forbidders_0 rfl ?_
  refine ww_iload_n C0 dX4_forbidders_1 rfl ?_
  refine ww_callVi C0 (qc := (RX4, TX4, 14)) 0 4 (c_X4_isMule l D cI cZ cQ hnm) kd_X4_isMule kw_X4_113 km_X4_isMule kl_X4_isMule ki_X4 hd_X4_isMule rfl rfl ⟨Nat.le_of_ble_eq_true rfl, Nat.le_of_ble_eq_true rfl, rfl, rfl⟩ (Nat.le_of_ble_eq_true rfl) dX4_forbidders_2 rfl rfl rfl ⟨Nat.zero_le _, Nat.zero_le _⟩ ?_
  refine ww_bif_ne (tgt := 10) C0 dX4_forbidders_5 (by decide) (fun h5 => ?_) (fun h5 => ?_)
  · skip
    exact absurd h5 (by rw [hm]; decide)
  · skip
    refine ww_iconst (v := (-1)) C0 dX4_forbidders_8 rfl ?_
    exact ww_iret C0 hr dX4_forbidders_9 (by rfl) (by rfl)

set_option maxHeartbeats 4000000 in
set_option maxRecDepth 100000 in
theorem c_X4_balkers (l : Launch) (D : va_G) (cI cZ cQ : ClassId) {aX aT aL aC aN aY aA aO aK aG aW al0 al1 al2 aS as0 as1 as2 : Nat} {nm fa ac na : Nat} {hS bS : Int32} {sd : Int64} {fl0 fl1 fl2 fC fs0 fs1 fs2 : Nat → Int32} {rest : va_W} {k : Nat} {wa : Int32} (hnm : nm ≤ 5) (hna : na ≤ 5) (hk : k < nm) : MI l D [(cI, .int), (cZ, .boolean), (cQ, .object "MulesRemember$State")] yX4_balkers cX4_balkers 5 .int ({ frames := 4, cells := 0, slots := 0, locals := 102 } : Room) [.ref aX, .ref aS, .int (nI k), .int wa] ((aX, .inr (4, [.ref aT, .ref aL, .ref aC, .int (nI nm), .ref aN, .ref aY, .ref aA, .int (nI fa), .int (nI ac), .ref aO, .ref aK, .ref aG, .ref aW, .long sd])) :: (aL, .inr (0, [.ref al0, .ref al1, .ref al2, .int (nI na)])) :: (al0, .inl (cI, 5, .inl (fl0))) :: (al1, .inl (cI, 5, .inl (fl1))) :: (al2, .inl (cI, 5, .inl (fl2))) :: (aC, .inl (cI, 5, .inl (fC))) :: (aS, .inr (2, [.ref as0, .ref as1, .ref as2, .int hS, .int bS])) :: (as0, .inl (cI, 5, .inl (fs0))) :: (as1, .inl (cI, 5, .inl (fs1))) :: (as2, .inl (cI, 5, .inl (fs2))) :: rest) (sBalk (sFF nm na fl0 fl1 fl2 fC fs0 k (fs0 k) wa hS) (sKnown na (fs1 k) (fs2 k))) ((aX, .inr (4, [.ref aT, .ref aL, .ref aC, .int (nI nm), .ref aN, .ref aY, .ref aA, .int (nI fa), .int (nI ac), .ref aO, .ref aK, .ref aG, .ref aW, .long sd])) :: (aL, .inr (0, [.ref al0, .ref al1, .ref al2, .int (nI na)])) :: (al0, .inl (cI, 5, .inl (fl0))) :: (al1, .inl (cI, 5, .inl (fl1))) :: (al2, .inl (cI, 5, .inl (fl2))) :: (aC, .inl (cI, 5, .inl (fC))) :: (aS, .inr (2, [.ref as0, .ref as1, .ref as2, .int hS, .int bS])) :: (as0, .inl (cI, 5, .inl (fs0))) :: (as1, .inl (cI, 5, .inl (fs1))) :: (as2, .inl (cI, 5, .inl (fs2))) :: rest) := by
  refine MI.of [.ref aX, .ref aS, .int (nI k), .int wa, .null] (by decide) (Nat.le_of_ble_eq_true rfl) rfl ?_
  intro p e s m below meth c A C0 hr
  refine ww_aload_n C0 dX4_balkers_0 rfl ?_
  refine ww_aload_n C0 dX4_balkers_1 rfl ?_
  refine ww_iload_n C0 dX4_balkers_2 rfl ?_
  refine ww_iload_n C0 dX4_balkers_3 rfl ?_
  refine ww_callVi C0 (qc := (RX4, TX4, 14)) 0 4 (c_X4_forbidders l D cI cZ cQ hnm hna hk) kd_X4_forbidders kw_X4_131 km_X4_forbidders kl_X4_forbidders ki_X4 hd_X4_forbidders rfl rfl ⟨Nat.le_of_ble_eq_true rfl, Nat.le_of_ble_eq_true rfl, rfl, rfl⟩ (Nat.le_of_ble_eq_true rfl) dX4_balkers_4 rfl rfl rfl ⟨Nat.zero_le _, Nat.zero_le _⟩ ?_
  refine ww_istore (i := 4) C0 dX4_balkers_7 (Nat.le_of_ble_eq_true rfl) rfl ?_
  simp only [List.set_cons_zero, List.set_cons_succ]
  refine ww_iload C0 dX4_balkers_9 rfl ?_
  refine ww_iconst (v := (-1)) C0 dX4_balkers_11 rfl ?_
  refine ww_icmp_ne (tgt := 19) C0 dX4_balkers_12 (by decide) (fun h12 => ?_) (fun h12 => ?_)
  · skip
    refine ww_iload C0 dX4_balkers_19 rfl ?_
    refine ww_aload_n C0 dX4_balkers_21 rfl ?_
    refine ww_aload_n C0 dX4_balkers_22 rfl ?_
    refine ww_iload_n C0 dX4_balkers_23 rfl ?_
    refine ww_callVi C0 (qc := (RX4, TX4, 14)) 0 4 (c_X4_known l D cI cZ cQ hnm hna hk) kd_X4_known kw_X4_123 km_X4_known kl_X4_known ki_X4 hd_X4_known rfl rfl ⟨Nat.le_of_ble_eq_true rfl, Nat.le_of_ble_eq_true rfl, rfl, rfl⟩ (Nat.le_of_ble_eq_true rfl) dX4_balkers_24 rfl rfl rfl ⟨Nat.zero_le _, Nat.zero_le _⟩ ?_
    refine ww_iand C0 dX4_balkers_27 ?_
    exact ww_iret C0 hr dX4_balkers_28 (by simp [sBalk, *]) (by rfl)
  · skip
    refine ww_iconst (v := (0)) C0 dX4_balkers_15 rfl ?_
    refine ww_goto (tgt := 28) C0 dX4_balkers_16 (by decide) ?_
    exact ww_iret C0 hr dX4_balkers_28 (by simp [sBalk, *]) (by rfl)

set_option maxHeartbeats 4000000 in
set_option maxRecDepth 100000 in
theorem c_X4_wouldGo (l : Launch) (D : va_G) (cI cZ cQ : ClassId) {aX aT aL aC aN aY aA aO aK aG aW al0 al1 al2 aS as0 as1 as2 : Nat} {nm fa ac na : Nat} {hS bS : Int32} {sd : Int64} {fl0 fl1 fl2 fC fs0 fs1 fs2 : Nat → Int32} {rest : va_W} {k : Nat} {wa : Int32} (hnm : nm ≤ 5) (hna : na ≤ 5) (hk : k < nm) : MI l D [(cI, .int), (cZ, .boolean), (cQ, .object "MulesRemember$State")] yX4_wouldGo cX4_wouldGo 5 .boolean ({ frames := 4, cells := 0, slots := 0, locals := 102 } : Room) [.ref aX, .ref aS, .int (nI k), .int wa] ((aX, .inr (4, [.ref aT, .ref aL, .ref aC, .int (nI nm), .ref aN, .ref aY, .ref aA, .int (nI fa), .int (nI ac), .ref aO, .ref aK, .ref aG, .ref aW, .long sd])) :: (aL, .inr (0, [.ref al0, .ref al1, .ref al2, .int (nI na)])) :: (al0, .inl (cI, 5, .inl (fl0))) :: (al1, .inl (cI, 5, .inl (fl1))) :: (al2, .inl (cI, 5, .inl (fl2))) :: (aC, .inl (cI, 5, .inl (fC))) :: (aS, .inr (2, [.ref as0, .ref as1, .ref as2, .int hS, .int bS])) :: (as0, .inl (cI, 5, .inl (fs0))) :: (as1, .inl (cI, 5, .inl (fs1))) :: (as2, .inl (cI, 5, .inl (fs2))) :: rest) (bI (sGoes (sFF nm na fl0 fl1 fl2 fC fs0 k (fs0 k) wa hS) (sKnown na (fs1 k) (fs2 k)))) ((aX, .inr (4, [.ref aT, .ref aL, .ref aC, .int (nI nm), .ref aN, .ref aY, .ref aA, .int (nI fa), .int (nI ac), .ref aO, .ref aK, .ref aG, .ref aW, .long sd])) :: (aL, .inr (0, [.ref al0, .ref al1, .ref al2, .int (nI na)])) :: (al0, .inl (cI, 5, .inl (fl0))) :: (al1, .inl (cI, 5, .inl (fl1))) :: (al2, .inl (cI, 5, .inl (fl2))) :: (aC, .inl (cI, 5, .inl (fC))) :: (aS, .inr (2, [.ref as0, .ref as1, .ref as2, .int hS, .int bS])) :: (as0, .inl (cI, 5, .inl (fs0))) :: (as1, .inl (cI, 5, .inl (fs1))) :: (as2, .inl (cI, 5, .inl (fs2))) :: rest) := by
  refine MI.of [.ref aX, .ref aS, .int (nI k), .int wa, .null] (by decide) (Nat.le_of_ble_eq_true rfl) rfl ?_
  intro p e s m below meth c A C0 hr
  refine ww_aload_n C0 dX4_wouldGo_0 rfl ?_
  refine ww_aload_n C0 dX4_wouldGo_1 rfl ?_
  refine ww_iload_n C0 dX4_wouldGo_2 rfl ?_
  refine ww_iload_n C0 dX4_wouldGo_3 rfl ?_
  refine ww_callVi C0 (qc := (RX4, TX4, 14)) 0 4 (c_X4_forbidders l D cI cZ cQ hnm hna hk) kd_X4_forbidders kw_X4_131 km_X4_forbidders kl_X4_forbidders ki_X4 hd_X4_forbidders rfl rfl ⟨Nat.le_of_ble_eq_true rfl, Nat.le_of_ble_eq_true rfl, rfl, rfl⟩ (Nat.le_of_ble_eq_true rfl) dX4_wouldGo_4 rfl rfl rfl ⟨Nat.zero_le _, Nat.zero_le _⟩ ?_
  refine ww_istore (i := 4) C0 dX4_wouldGo_7 (Nat.le_of_ble_eq_true rfl) rfl ?_
  simp only [List.set_cons_zero, List.set_cons_succ]
  refine ww_iload C0 dX4_wouldGo_9 rfl ?_
  refine ww_iconst (v := (-1)) C0 dX4_wouldGo_11 rfl ?_
  refine ww_icmp_eq (tgt := 31) C0 dX4_wouldGo_12 (by decide) (fun h12 => ?_) (fun h12 => ?_)
  · skip
    refine ww_iconst (v := (0)) C0 dX4_wouldGo_31 rfl ?_
    exact ww_zret C0 hr dX4_wouldGo_32 (by simp [sGoes, bI, *]) (by rfl)
  · skip
    refine ww_iload C0 dX4_wouldGo_15 rfl ?_
    refine ww_aload_n C0 dX4_wouldGo_17 rfl ?_
    refine ww_aload_n C0 dX4_wouldGo_18 rfl ?_
    refine ww_iload_n C0 dX4_wouldGo_19 rfl ?_
    refine ww_callVi C0 (qc := (RX4, TX4, 14)) 0 4 (c_X4_known l D cI cZ cQ hnm hna hk) kd_X4_known kw_X4_123 km_X4_known kl_X4_known ki_X4 hd_X4_known rfl rfl ⟨Nat.le_of_ble_eq_true rfl, Nat.le_of_ble_eq_true rfl, rfl, rfl⟩ (Nat.le_of_ble_eq_true rfl) dX4_wouldGo_20 rfl rfl rfl ⟨Nat.zero_le _, Nat.zero_le _⟩ ?_
    refine ww_iand C0 dX4_wouldGo_23 ?_
    refine ww_if_ne (tgt := 31) C0 dX4_wouldGo_24 (by decide) (fun h24 => ?_) (fun h24 => ?_)
    · skip
      refine ww_iconst (v := (0)) C0 dX4_wouldGo_31 rfl ?_
      exact ww_zret C0 hr dX4_wouldGo_32 (by simp [sGoes, bI, *]) (by rfl)
    · skip
      refine ww_iconst (v := (1)) C0 dX4_wouldGo_27 rfl ?_
      refine ww_goto (tgt := 32) C0 dX4_wouldGo_28 (by decide) ?_
      exact ww_zret C0 hr dX4_wouldGo_32 (by simp [sGoes, bI, *]) (by rfl)

set_option maxHeartbeats 4000000 in
set_option maxRecDepth 100000 in
theorem c_X4_wouldGo_b (l : Launch) (D : va_G) (cI cZ cQ : ClassId) {aX aT aL aC aN aY aA aO aK aG aW : Nat} {nm fa ac : Nat} {sd : Int64} {rest : va_W} {aS : Nat} {m wa : Int32} (hnm : nm ≤ 5) (hm : isN nm m = false) : MI l D [(cI, .int), (cZ, .boolean), (cQ, .object "MulesRemember$State")] yX4_wouldGo cX4_wouldGo 5 .boolean ({ frames := 4, cells := 0, slots := 0, locals := 102 } : Room) [.ref aX, .ref aS, .int m, .int wa] ((aX, .inr (4, [.ref aT, .ref aL, .ref aC, .int (nI nm), .ref aN, .ref aY, .ref aA, .int (nI fa), .int (nI ac), .ref aO, .ref aK, .ref aG, .ref aW, .long sd])) :: rest) (bI false) ((aX, .inr (4, [.ref aT, .ref aL, .ref aC, .int (nI nm), .ref aN, .ref aY, .ref aA, .int (nI fa), .int (nI ac), .ref aO, .ref aK, .ref aG, .ref aW, .long sd])) :: rest) := by
  refine MI.of [.ref aX, .ref aS, .int m, .int wa, .null] (by decide) (Nat.le_of_ble_eq_true rfl) rfl ?_
  intro p e s m below meth c A C0 hr
  refine ww_aload_n C0 dX4_wouldGo_0 rfl ?_
  refine ww_aload_n C0 dX4_wouldGo_1 rfl ?_
  refine ww_iload_n C0 dX4_wouldGo_2 rfl ?_
  refine ww_iload_n C0 dX4_wouldGo_3 rfl ?_
  refine ww_callVi C0 (qc := (RX4, TX4, 14)) 0 4 (c_X4_forbidders_b l D cI cZ cQ hnm hm) kd_X4_forbidders kw_X4_131 km_X4_forbidders kl_X4_forbidders ki_X4 hd_X4_forbidders rfl rfl ⟨Nat.le_of_ble_eq_true rfl, Nat.le_of_ble_eq_true rfl, rfl, rfl⟩ (Nat.le_of_ble_eq_true rfl) dX4_wouldGo_4 rfl rfl rfl ⟨Nat.zero_le _, Nat.zero_le _⟩ ?_
  refine ww_istore (i := 4) C0 dX4_wouldGo_7 (Nat.le_of_ble_eq_true rfl) rfl ?_
  simp only [List.set_cons_zero, List.set_cons_succ]
  refine ww_iload C0 dX4_wouldGo_9 rfl ?_
  refine ww_iconst (v := (-1)) C0 dX4_wouldGo_11 rfl ?_
  refine ww_icmp_eq (tgt := 31) C0 dX4_wouldGo_12 (by decide) (fun h12 => ?_) (fun h12 => ?_)
  · skip
    refine ww_iconst (v := (0)) C0 dX4_wouldGo_31 rfl ?_
    exact ww_zret C0 hr dX4_wouldGo_32 (by rfl) (by rfl)
  · skip
    exact absurd rfl h12
