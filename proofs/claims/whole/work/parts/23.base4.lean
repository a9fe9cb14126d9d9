set_option maxHeartbeats 4000000 in
set_option maxRecDepth 100000 in
theorem c_X4_fractionPart (l : Launch) (D : va_G) (cI cZ cQ : ClassId) {rest : va_W} {a b : Nat} {u : Bool} (ha : a < 2 ^ 31) (hb : b < 2 ^ 31) (h0 : 0 < b) : MI l D [(cI, .int), (cZ, .boolean), (cQ, .object "MulesRemember$State")] yX4_fractionPart cX4_fractionPart 7 .int ({ frames := 0, cells := 0, slots := 0, locals := 0 } : Room) [.int (nI a), .int (nI b), .int (bI u)] (rest) (sFrac a b u) (rest) := by
  refine MI.of [.int (nI a), .int (nI b), .int (bI u), .null, .null, .null, .null] (by decide) (Nat.le_of_ble_eq_true rfl) rfl ?_
  intro p e s m below meth c A C0 hr
  refine ww_iload_n C0 dX4_fractionPart_0 rfl ?_
  refine ww_istore_n (i := 3) C0 dX4_fractionPart_1 rfl (Nat.le_of_ble_eq_true rfl) rfl ?_
  simp only [List.set_cons_zero, List.set_cons_succ]
  refine ww_iload_n C0 dX4_fractionPart_2 rfl ?_
  refine ww_istore (i := 4) C0 dX4_fractionPart_3 (Nat.le_of_ble_eq_true rfl) rfl ?_
  simp only [List.set_cons_zero, List.set_cons_succ]
  refine ww_iconst (v := (0)) C0 dX4_fractionPart_5 rfl ?_
  refine ww_istore (i := 5) C0 dX4_fractionPart_6 (Nat.le_of_ble_eq_true rfl) rfl ?_
  simp only [List.set_cons_zero, List.set_cons_succ]
  refine ww_back (ww_loopI (σ := Nat × Nat) (pc := 8) 0 100 (by omega) (EI a b) (fun j x => [_, _, _, .int (nI x.1), .int (nI x.2), .int (nI j), .null]) (fun _ _ => _) (b, a) (EI_0 ha hb h0) ?_ ?_) ⟨Or.inr rfl, Or.inr rfl, Or.inr rfl, Or.inr rfl, Or.inr rfl, Or.inr rfl, Or.inl rfl, trivial⟩ rfl
  · skip
    rintro j ⟨d, q⟩ hj0 hj hI ih
    have hd0 := hI.1
    have hd1 := hI.2.1
    have hq1 := hI.2.2.1
    simp only at hd0 hd1 hq1 ⊢
    refine ww_iload C0 dX4_fractionPart_8 rfl ?_
    refine ww_bipush (v := (100)) C0 dX4_fractionPart_10 rfl ?_
    refine ww_icmp_ge (tgt := 39) C0 dX4_fractionPart_12 (by decide) (fun h12 => ?_) (fun h12 => ?_)
    · skip
      replace h12 := (nI_leE (a := 100) (b := j) rfl rfl (by omega) (by omega)).mp h12
      exfalso; omega
    · skip
      replace h12 := (not_congr (nI_leE (a := 100) (b := j) rfl rfl (by omega) (by omega))).mp h12
      refine ww_iload C0 dX4_fractionPart_15 rfl ?_
      refine ww_if_eq (tgt := 39) C0 dX4_fractionPart_17 (by decide) (fun h17 => ?_) (fun h17 => ?_)
      · skip
        replace h17 := (nI_eqE (a := q) (b := 0) rfl rfl (by omega) (by omega)).mp h17
        subst h17
        have hg : d = Nat.gcd b a := EI_gcd hI
        subst hg
        refine ww_iload_n C0 dX4_fractionPart_39 rfl ?_
        refine ww_if_ne (tgt := 45) C0 dX4_fractionPart_40 (by decide) (fun h40 => ?_) (fun h40 => ?_)
        · skip
          replace h40 := (not_congr (nI_eqE (a := (Nat.gcd b a)) (b := 0) rfl rfl (by omega) (by omega))).mp h40
          refine ww_iload_n C0 dX4_fractionPart_45 rfl ?_
          refine ww_bif_eq (tgt := 55) C0 dX4_fractionPart_46 (by decide) (fun h46 => ?_) (fun h46 => ?_)
          · skip
            refine ww_iload_n C0 dX4_fractionPart_55 rfl ?_
            refine ww_iload_n C0 dX4_fractionPart_56 rfl ?_
            refine ww_idiv C0 dX4_fractionPart_57 (nI_ne0 hd0 hd1) ?_
            exact ww_iret C0 hr dX4_fractionPart_58 (by (simp only [sFrac, *, if_true, Bool.false_eq_true, if_false]; first | exact pk_div ha hd0 hd1 | exact pk_div hb hd0 hd1)) (by rfl)
          · skip
            refine ww_iload_n C0 dX4_fractionPart_49 rfl ?_
            refine ww_iload_n C0 dX4_fractionPart_50 rfl ?_
            refine ww_idiv C0 dX4_fractionPart_51 (nI_ne0 hd0 hd1) ?_
            refine ww_goto (tgt := 58) C0 dX4_fractionPart_52 (by decide) ?_
            exact ww_iret C0 hr dX4_fractionPart_58 (by (simp only [sFrac, *, if_true, Bool.false_eq_true, if_false]; first | exact pk_div ha hd0 hd1 | exact pk_div hb hd0 hd1)) (by rfl)
        · skip
          replace h40 := (nI_eqE (a := (Nat.gcd b a)) (b := 0) rfl rfl (by omega) (by omega)).mp h40
          exfalso; omega
      · skip
        replace h17 := (not_congr (nI_eqE (a := q) (b := 0) rfl rfl (by omega) (by omega))).mp h17
        refine ww_iload_n C0 dX4_fractionPart_20 rfl ?_
        refine ww_iload C0 dX4_fractionPart_21 rfl ?_
        refine ww_irem C0 dX4_fractionPart_23 (nI_ne0 (by omega) (by omega)) ?_
        refine ww_istore (i := 6) C0 dX4_fractionPart_24 (Nat.le_of_ble_eq_true rfl) rfl ?_
        simp only [List.set_cons_zero, List.set_cons_succ]
        refine ww_iload C0 dX4_fractionPart_26 rfl ?_
        refine ww_istore_n (i := 3) C0 dX4_fractionPart_28 rfl (Nat.le_of_ble_eq_true rfl) rfl ?_
        simp only [List.set_cons_zero, List.set_cons_succ]
        refine ww_iload C0 dX4_fractionPart_29 rfl ?_
        refine ww_istore (i := 4) C0 dX4_fractionPart_31 (Nat.le_of_ble_eq_true rfl) rfl ?_
        simp only [List.set_cons_zero, List.set_cons_succ]
        refine ww_iinc (d := 1) C0 dX4_fractionPart_33 rfl rfl rfl ?_
        simp only [List.set_cons_zero, List.set_cons_succ]
        refine ww_goto (tgt := 8) C0 dX4_fractionPart_36 (by decide) ?_
        exact ww_back (ih (q, d % q) (EI_s hI (by omega))) ⟨Or.inr rfl, Or.inr rfl, Or.inr rfl, Or.inr rfl, Or.inr (congrArg Value.int (nI_remE rfl rfl (by omega) (by omega) (by omega)).symm), Or.inr (congrArg Value.int (nI_addE rfl rfl).symm), Or.inl rfl, trivial⟩ rfl
  · skip
    rintro ⟨d, q⟩ hI
    have hd0 := hI.1
    have hd1 := hI.2.1
    have hz : q = 0 := EI_end hI
    subst hz
    have hg : d = Nat.gcd b a := EI_gcd hI
    subst hg
    simp only at hd0 hd1 ⊢
    refine ww_iload C0 dX4_fractionPart_8 rfl ?_
    refine ww_bipush (v := (100)) C0 dX4_fractionPart_10 rfl ?_
    refine ww_icmp_ge (tgt := 39) C0 dX4_fractionPart_12 (by decide) (fun h12 => ?_) (fun h12 => ?_)
    · skip
      replace h12 := (nI_leE (a := 100) (b := 100) rfl rfl (by omega) (by omega)).mp h12
      refine ww_iload_n C0 dX4_fractionPart_39 rfl ?_
      refine ww_if_ne (tgt := 45) C0 dX4_fractionPart_40 (by decide) (fun h40 => ?_) (fun h40 => ?_)
      · skip
        replace h40 := (not_congr (nI_eqE (a := (Nat.gcd b a)) (b := 0) rfl rfl (by omega) (by omega))).mp h40
        refine ww_iload_n C0 dX4_fractionPart_45 rfl ?_
        refine ww_bif_eq (tgt := 55) C0 dX4_fractionPart_46 (by decide) (fun h46 => ?_) (fun h46 => ?_)
        · skip
          refine ww_iload_n C0 dX4_fractionPart_55 rfl ?_
          refine ww_iload_n C0 dX4_fractionPart_56 rfl ?_
          refine ww_idiv C0 dX4_fractionPart_57 (nI_ne0 hd0 hd1) ?_
          exact ww_iret C0 hr dX4_fractionPart_58 (by (simp only [sFrac, *, if_true, Bool.false_eq_true, if_false]; first | exact pk_div ha hd0 hd1 | exact pk_div hb hd0 hd1)) (by rfl)
        · skip
          refine ww_iload_n C0 dX4_fractionPart_49 rfl ?_
          refine ww_iload_n C0 dX4_fractionPart_50 rfl ?_
          refine ww_idiv C0 dX4_fractionPart_51 (nI_ne0 hd0 hd1) ?_
          refine ww_goto (tgt := 58) C0 dX4_fractionPart_52 (by decide) ?_
          exact ww_iret C0 hr dX4_fractionPart_58 (by (simp only [sFrac, *, if_true, Bool.false_eq_true, if_false]; first | exact pk_div ha hd0 hd1 | exact pk_div hb hd0 hd1)) (by rfl)
      · skip
        replace h40 := (nI_eqE (a := (Nat.gcd b a)) (b := 0) rfl rfl (by omega) (by omega)).mp h40
        exfalso; omega
    · skip
      replace h12 := (not_congr (nI_leE (a := 100) (b := 100) rfl rfl (by omega) (by omega))).mp h12
      exfalso; omega

set_option maxHeartbeats 4000000 in
set_option maxRecDepth 100000 in
theorem c_X3_put (l : Launch) (D : va_G) (cI cZ cQ : ClassId) {aT at0 : Nat} {tn : Nat} {ft0 : Nat → Int32} {rest : va_W} {x : Int32} (ht : tn < 48) : MI l D [(cI, .int), (cZ, .boolean), (cQ, .object "MulesRemember$State")] yX3_put cX3_put 2 .boolean ({ frames := 0, cells := 0, slots := 0, locals := 0 } : Room) [.ref aT, .int x] ((aT, .inr (3, [.ref at0, .int (nI tn)])) :: (at0, .inl (cI, 48, .inl (ft0))) :: rest) (bI true) ((aT, .inr (3, [.ref at0, .int (nI (tn + 1))])) :: (at0, .inl (cI, 48, .inl (upd ft0 tn x))) :: rest) := by
  refine MI.of [.ref aT, .int x] (by decide) (Nat.le_of_ble_eq_true rfl) rfl ?_
  intro p e s m below meth c A C0 hr
  refine ww_aload_n C0 dX3_put_0 rfl ?_
  refine ww_get C0 (ci := 3) (C := RX3) (T := TX3) (N := 2) ku_X3 0 rfl rfl 1 (by decide) kw_X3_15 rfl dX3_put_1 ?_
  refine ww_if_lt (tgt := 19) C0 dX3_put_4 (by decide) (fun h4 => ?_) (fun h4 => ?_)
  · skip
    replace h4 := (nI_ltE (a := tn) (b := 0) rfl rfl (by omega) (by omega)).mp h4
    exfalso; omega
  · skip
    replace h4 := (not_congr (nI_ltE (a := tn) (b := 0) rfl rfl (by omega) (by omega))).mp h4
    refine ww_aload_n C0 dX3_put_7 rfl ?_
    refine ww_get C0 (ci := 3) (C := RX3) (T := TX3) (N := 2) ku_X3 0 rfl rfl 1 (by decide) kw_X3_15 rfl dX3_put_8 ?_
    refine ww_aload_n C0 dX3_put_11 rfl ?_
    refine ww_get C0 (ci := 3) (C := RX3) (T := TX3) (N := 2) ku_X3 0 rfl rfl 0 (by decide) kw_X3_9 rfl dX3_put_12 ?_
    refine ww_alen (v := 48) C0 1 0 rfl rfl rfl dX3_put_15 ?_
    refine ww_icmp_lt (tgt := 21) C0 dX3_put_16 (by decide) (fun h16 => ?_) (fun h16 => ?_)
    · skip
      replace h16 := (nI_ltE (a := tn) (b := 48) rfl rfl (by omega) (by omega)).mp h16
      refine ww_aload_n C0 dX3_put_21 rfl ?_
      refine ww_get C0 (ci := 3) (C := RX3) (T := TX3) (N := 2) ku_X3 0 rfl rfl 0 (by decide) kw_X3_9 rfl dX3_put_22 ?_
      refine ww_aload_n C0 dX3_put_25 rfl ?_
      refine ww_get C0 (ci := 3) (C := RX3) (T := TX3) (N := 2) ku_X3 0 rfl rfl 1 (by decide) kw_X3_15 rfl dX3_put_26 ?_
      refine ww_iload_n C0 dX3_put_29 rfl ?_
      refine ww_iast_n (j := tn) C0 1 0 rfl rfl rfl (by omega) (by decide) dX3_put_30 ?_
      simp only [List.set_cons_zero, List.set_cons_succ]
      refine ww_aload_n C0 dX3_put_31 rfl ?_
      refine ww_dup C0 dX3_put_32 rfl ?_
      refine ww_get C0 (ci := 3) (C := RX3) (T := TX3) (N := 2) ku_X3 0 rfl rfl 1 (by decide) kw_X3_15 rfl dX3_put_33 ?_
      refine ww_iconst (v := (1)) C0 dX3_put_36 rfl ?_
      refine ww_iadd C0 dX3_put_37 ?_
      refine ww_put C0 (ci := 3) (C := RX3) (T := TX3) (N := 2) ku_X3 0 rfl rfl 1 (by decide) tyX3 tyX3_ok nmX3 kw_X3_15 rfl (ty := .int) (by decide +kernel) rfl rfl (Nat.le_of_ble_eq_true rfl) dX3_put_38 ?_
      simp only [List.set_cons_zero, List.set_cons_succ]
      refine ww_iconst (v := (1)) C0 dX3_put_41 rfl ?_
      exact ww_zret C0 hr dX3_put_42 (by rfl) (by simp only [nI_1])
    · skip
      replace h16 := (not_congr (nI_ltE (a := tn) (b := 48) rfl rfl (by omega) (by omega))).mp h16
      exfalso; omega

set_option maxHeartbeats 4000000 in
set_option maxRecDepth 100000 in
theorem c_X3_put_f (l : Launch) (D : va_G) (cI cZ cQ : ClassId) {aT at0 : Nat} {tn : Nat} {ft0 : Nat → Int32} {rest : va_W} {x : Int32} (ht : tn = 48) : MI l D [(cI, .int), (cZ, .boolean), (cQ, .object "MulesRemember$State")] yX3_put cX3_put 2 .boolean ({ frames := 0, cells := 0, slots := 0, locals := 0 } : Room) [.ref aT, .int x] ((aT, .inr (3, [.ref at0, .int (nI tn)])) :: (at0, .inl (cI, 48, .inl (ft0))) :: rest) (bI false) ((aT, .inr (3, [.ref at0, .int (nI tn)])) :: (at0, .inl (cI, 48, .inl (ft0))) :: rest) := by
  refine MI.of [.ref aT, .int x] (by decide) (Nat.le_of_ble_eq_true rfl) rfl ?_
  intro p e s m below meth c A C0 hr
  refine ww_aload_n C0 dX3_put_0 rfl ?_
  refine ww_get C0 (ci := 3) (C := RX3) (T := TX3) (N := 2) ku_X3 0 rfl rfl 1 (by decide) kw_X3_15 rfl dX3_put_1 ?_
  refine ww_if_lt (tgt := 19) C0 dX3_put_4 (by decide) (fun h4 => ?_) (fun h4 => ?_)
  · skip
    replace h4 := (nI_ltE (a := tn) (b := 0) rfl rfl (by omega) (by omega)).mp h4
    exfalso; omega
  · skip
    replace h4 := (not_congr (nI_ltE (a := tn) (b := 0) rfl rfl (by omega) (by omega))).mp h4
    refine ww_aload_n C0 dX3_put_7 rfl ?_
    refine ww_get C0 (ci := 3) (C := RX3) (T := TX3) (N := 2) ku_X3 0 rfl rfl 1 (by decide) kw_X3_15 rfl dX3_put_8 ?_
    refine ww_aload_n C0 dX3_put_11 rfl ?_
    refine ww_get C0 (ci := 3) (C := RX3) (T := TX3) (N := 2) ku_X3 0 rfl rfl 0 (by decide) kw_X3_9 rfl dX3_put_12 ?_
    refine ww_alen (v := 48) C0 1 0 rfl rfl rfl dX3_put_15 ?_
    refine ww_icmp_lt (tgt := 21) C0 dX3_put_16 (by decide) (fun h16 => ?_) (fun h16 => ?_)
    · skip
      replace h16 := (nI_ltE (a := tn) (b := 48) rfl rfl (by omega) (by omega)).mp h16
      exfalso; omega
    · skip
      replace h16 := (not_congr (nI_ltE (a := tn) (b := 48) rfl rfl (by omega) (by omega))).mp h16
      refine ww_iconst (v := (0)) C0 dX3_put_19 rfl ?_
      exact ww_zret C0 hr dX3_put_20 (by rfl) (by rfl)

set_option maxHeartbeats 4000000 in
set_option maxRecDepth 100000 in
theorem c_X3_letter (l : Launch) (D : va_G) (cI cZ cQ : ClassId) {aT at0 : Nat} {tn : Nat} {ft0 : Nat → Int32} {rest : va_W} {a : Nat} (ht : tn ≤ 48) (ha : a < 1000) : MI l D [(cI, .int), (cZ, .boolean), (cQ, .object "MulesRemember$State")] yX3_letter cX3_letter 2 .int ({ frames := 0, cells := 0, slots := 0, locals := 0 } : Room) [.ref aT, .int (nI a)] ((aT, .inr (3, [.ref at0, .int (nI tn)])) :: (at0, .inl (cI, 48, .inl (ft0))) :: rest) (sLet ft0 tn a) ((aT, .inr (3, [.ref at0, .int (nI tn)])) :: (at0, .inl (cI, 48, .inl (ft0))) :: rest) := by
  refine MI.of [.ref aT, .int (nI a)] (by decide) (Nat.le_of_ble_eq_true rfl) rfl ?_
  intro p e s m below meth c A C0 hr
  refine ww_iload_n C0 dX3_letter_0 rfl ?_
  refine ww_if_lt (tgt := 30) C0 dX3_letter_1 (by decide) (fun h1 => ?_) (fun h1 => ?_)
  · skip
    replace h1 := (nI_ltE (a := a) (b := 0) rfl rfl (by omega) (by omega)).mp h1
    exfalso; omega
  · skip
    replace h1 := (not_congr (nI_ltE (a := a) (b := 0) rfl rfl (by omega) (by omega))).mp h1
    refine ww_iload_n C0 dX3_letter_4 rfl ?_
    refine ww_aload_n C0 dX3_letter_5 rfl ?_
    refine ww_get C0 (ci := 3) (C := RX3) (T := TX3) (N := 2) ku_X3 0 rfl rfl 1 (by decide) kw_X3_15 rfl dX3_letter_6 ?_
    refine ww_icmp_ge (tgt := 30) C0 dX3_letter_9 (by decide) (fun h9 => ?_) (fun h9 => ?_)
    · skip
      replace h9 := (nI_leE (a := tn) (b := a) rfl rfl (by omega) (by omega)).mp h9
      have h9z : ¬ a < tn := by omega
      refine ww_iconst (v := (0)) C0 dX3_letter_30 rfl ?_
      exact ww_iret C0 hr dX3_letter_31 (by simp [sLet, *]) (by rfl)
    · skip
      replace h9 := (not_congr (nI_leE (a := tn) (b := a) rfl rfl (by omega) (by omega))).mp h9
      have h9z : a < tn := by omega
      refine ww_iload_n C0 dX3_letter_12 rfl ?_
      refine ww_aload_n C0 dX3_letter_13 rfl ?_
      refine ww_get C0 (ci := 3) (C := RX3) (T := TX3) (N := 2) ku_X3 0 rfl rfl 0 (by decide) kw_X3_9 rfl dX3_letter_14 ?_
      refine ww_alen (v := 48) C0 1 0 rfl rfl rfl dX3_letter_17 ?_
      refine ww_icmp_ge (tgt := 30) C0 dX3_letter_18 (by decide) (fun h18 => ?_) (fun h18 => ?_)
      · skip
        replace h18 := (nI_leE (a := 48) (b := a) rfl rfl (by omega) (by omega)).mp h18
        exfalso; omega
      · skip
        replace h18 := (not_congr (nI_leE (a := 48) (b := a) rfl rfl (by omega) (by omega))).mp h18
        refine ww_aload_n C0 dX3_letter_21 rfl ?_
        refine ww_get C0 (ci := 3) (C := RX3) (T := TX3) (N := 2) ku_X3 0 rfl rfl 0 (by decide) kw_X3_9 rfl dX3_letter_22 ?_
        refine ww_iload_n C0 dX3_letter_25 rfl ?_
        refine ww_iald_n (j := a) C0 1 0 rfl rfl rfl (by omega) (by decide) dX3_letter_26 ?_
        refine ww_goto (tgt := 31) C0 dX3_letter_27 (by decide) ?_
        exact ww_iret C0 hr dX3_letter_31 (by simp [sLet, *]) (by rfl)

set_option maxHeartbeats 4000000 in
set_option maxRecDepth 100000 in
theorem c_X3_figure (l : Launch) (D : va_G) (cI cZ cQ : ClassId) {aT at0 : Nat} {tn : Nat} {ft0 : Nat → Int32} {rest : va_W} {a : Nat} (ht : tn ≤ 48) (ha : a < 1000) : MI l D [(cI, .int), (cZ, .boolean), (cQ, .object "MulesRemember$State")] yX3_figure cX3_figure 2 .int ({ frames := 1, cells := 0, slots := 0, locals := 21 } : Room) [.ref aT, .int (nI a)] ((aT, .inr (3, [.ref at0, .int (nI tn)])) :: (at0, .inl (cI, 48, .inl (ft0))) :: rest) (sLet ft0 tn a - 48) ((aT, .inr (3, [.ref at0, .int (nI tn)])) :: (at0, .inl (cI, 48, .inl (ft0))) :: rest) := by
  refine MI.of [.ref aT, .int (nI a)] (by decide) (Nat.le_of_ble_eq_true rfl) rfl ?_
  intro p e s m below meth c A C0 hr
  refine ww_aload_n C0 dX3_figure_0 rfl ?_
  refine ww_iload_n C0 dX3_figure_1 rfl ?_
  refine ww_callVi C0 (qc := (RX3, TX3, 2)) 0 3 (c_X3_letter l D cI cZ cQ ht ha) kd_X3_letter kw_X3_19 km_X3_letter kl_X3_letter ki_X3 hd_X3_letter rfl rfl ⟨Nat.le_of_ble_eq_true rfl, Nat.le_of_ble_eq_true rfl, rfl, rfl⟩ (Nat.le_of_ble_eq_true rfl) dX3_figure_2 rfl rfl rfl ⟨Nat.zero_le _, Nat.zero_le _⟩ ?_
  refine ww_bipush (v := (48)) C0 dX3_figure_5 rfl ?_
  refine ww_isub C0 dX3_figure_7 ?_
  exact ww_iret C0 hr dX3_figure_8 (by rfl) (by rfl)

set_option maxHeartbeats 4000000 in
set_option maxRecDepth 100000 in
theorem c_X3_figuresAt (l : Launch) (D : va_G) (cI cZ cQ : ClassId) {rest : va_W} {a : Nat} {ki : Int32} (ha : a < 1000) : MI l D [(cI, .int), (cZ, .boolean), (cQ, .object "MulesRemember$State")] yX3_figuresAt cX3_figuresAt 2 .int ({ frames := 0, cells := 0, slots := 0, locals := 0 } : Room) [.int (nI a), .int ki] (rest) (sFig a ki) (rest) := by
  refine MI.of [.int (nI a), .int ki] (by decide) (Nat.le_of_ble_eq_true rfl) rfl ?_
  intro p e s m below meth c A C0 hr
  refine ww_iload_n C0 dX3_figuresAt_0 rfl ?_
  refine ww_iconst (v := (4)) C0 dX3_figuresAt_1 rfl ?_
  refine ww_irem C0 dX3_figuresAt_2 (by decide) ?_
  refine ww_top (nI_remE (a := a) (b := 4) rfl rfl (by omega) (by omega) (by omega)) ?_
  by_cases hs2 : a % 4 = 2
  · skip
    refine ww_lookup (off := 25) (tgt := 28) C0 dX3_figuresAt_3 (by decide) (by rw [hs2]; decide) (by decide) ?_
    refine ww_bipush (v := (10)) C0 dX3_figuresAt_28 rfl ?_
    exact ww_iret C0 hr dX3_figuresAt_30 (by simp [sFig, *]) (by rfl)
  by_cases hs3 : a % 4 = 3
  · skip
    refine ww_lookup (off := 28) (tgt := 31) C0 dX3_figuresAt_3 (by decide) (by rw [hs3]; decide) (by decide) ?_
    refine ww_iload_n C0 dX3_figuresAt_31 rfl ?_
    refine ww_bipush (v := (65)) C0 dX3_figuresAt_32 rfl ?_
    refine ww_icmp_ne (tgt := 41) C0 dX3_figuresAt_34 (by decide) (fun h34 => ?_) (fun h34 => ?_)
    · skip
      refine ww_iconst (v := (4)) C0 dX3_figuresAt_41 rfl ?_
      exact ww_iret C0 hr dX3_figuresAt_42 (by simp [sFig, *]) (by rfl)
    · skip
      refine ww_iconst (v := (4)) C0 dX3_figuresAt_37 rfl ?_
      refine ww_goto (tgt := 42) C0 dX3_figuresAt_38 (by decide) ?_
      exact ww_iret C0 hr dX3_figuresAt_42 (by simp [sFig, *]) (by rfl)
  refine ww_lookup (off := 40) (tgt := 43) C0 dX3_figuresAt_3 (by decide) (by rcases (show a % 4 = 0 ∨ a % 4 = 1 by omega) with h | h <;> rw [h] <;> decide) (by decide) ?_
  refine ww_iload_n C0 dX3_figuresAt_43 rfl ?_
  refine ww_bipush (v := (65)) C0 dX3_figuresAt_44 rfl ?_
  refine ww_icmp_ne (tgt := 54) C0 dX3_figuresAt_46 (by decide) (fun h46 => ?_) (fun h46 => ?_)
  · skip
    refine ww_iconst (v := (4)) C0 dX3_figuresAt_54 rfl ?_
    exact ww_iret C0 hr dX3_figuresAt_55 (by simp [sFig, *]) (by rfl)
  · skip
    refine ww_bipush (v := (10)) C0 dX3_figuresAt_49 rfl ?_
    refine ww_goto (tgt := 55) C0 dX3_figuresAt_51 (by decide) ?_
    exact ww_iret C0 hr dX3_figuresAt_55 (by simp [sFig, *]) (by rfl)

set_option maxHeartbeats 4000000 in
set_option maxRecDepth 100000 in
theorem c_X3_firstFault (l : Launch) (D : va_G) (cI cZ cQ : ClassId) {aT at0 : Nat} {tn : Nat} {ft0 : Nat → Int32} {rest : va_W} (ht : tn ≤ 48) : MI l D [(cI, .int), (cZ, .boolean), (cQ, .object "MulesRemember$State")] yX3_firstFault cX3_firstFault 8 .int ({ frames := 1, cells := 0, slots := 0, locals := 21 } : Room) [.ref aT] ((aT, .inr (3, [.ref at0, .int (nI tn)])) :: (at0, .inl (cI, 48, .inl (ft0))) :: rest) (sFault ft0 tn tn 0 0 0 77) ((aT, .inr (3, [.ref at0, .int (nI tn)])) :: (at0, .inl (cI, 48, .inl (ft0))) :: rest) := by
  refine MI.of [.ref aT, .null, .null, .null, .null, .null, .null, .null] (by decide) (Nat.le_of_ble_eq_true rfl) rfl ?_
  intro p e s m below meth c A C0 hr
  refine ww_iconst (v := (0)) C0 dX3_firstFault_0 rfl ?_
  refine ww_istore_n (i := 1) C0 dX3_firstFault_1 rfl (Nat.le_of_ble_eq_true rfl) rfl ?_
  simp only [List.set_cons_zero, List.set_cons_succ]
  refine ww_iconst (v := (0)) C0 dX3_firstFault_2 rfl ?_
  refine ww_istore_n (i := 2) C0 dX3_firstFault_3 rfl (Nat.le_of_ble_eq_true rfl) rfl ?_
  simp only [List.set_cons_zero, List.set_cons_succ]
  refine ww_bipush (v := (77)) C0 dX3_firstFault_4 rfl ?_
  refine ww_istore_n (i := 3) C0 dX3_firstFault_6 rfl (Nat.le_of_ble_eq_true rfl) rfl ?_
  simp only [List.set_cons_zero, List.set_cons_succ]
  refine ww_iconst (v := (0)) C0 dX3_firstFault_7 rfl ?_
  refine ww_istore (i := 4) C0 dX3_firstFault_8 (Nat.le_of_ble_eq_true rfl) rfl ?_
  simp only [List.set_cons_zero, List.set_cons_succ]
  refine ww_back (ww_loopI (σ := Nat × Nat × Int32) (pc := 10) 0 tn (by omega) (fun j x => x.1 ≤ 5 ∧ x.2.1 ≤ 5 ∧ sFault ft0 tn tn 0 0 0 77 = sFault ft0 tn (tn - j) j x.1 x.2.1 x.2.2) (fun j x => [_, .int (nI x.1), .int (nI x.2.1), .int x.2.2, .int (nI j), .null, .null, .null]) (fun _ _ => _) (0, 0, 77) ⟨by decide, by decide, rfl⟩ ?_ ?_) ⟨Or.inr rfl, Or.inr rfl, Or.inr rfl, Or.inr rfl, Or.inr rfl, Or.inl rfl, Or.inl rfl, Or.inl rfl, trivial⟩ rfl
  · skip
    rintro j ⟨mu, ar, ki⟩ hj0 hj ⟨hm, har, hI⟩ ih
    simp only at hm har hI ⊢
    have hn : tn - j = (tn - (j + 1)) + 1 := by omega
    rw [hn, sFault_s] at hI
    have hle : sLet ft0 tn j = ft0 j := by simp [sLet, hj]
    refine ww_iload C0 dX3_firstFault_10 rfl ?_
    refine ww_aload_n C0 dX3_firstFault_12 rfl ?_
    refine ww_get C0 (ci := 3) (C := RX3) (T := TX3) (N := 2) ku_X3 0 rfl rfl 1 (by decide) kw_X3_15 rfl dX3_firstFault_13 ?_
    refine ww_icmp_ge (tgt := 163) C0 dX3_firstFault_16 (by decide) (fun h16 => ?_) (fun h16 => ?_)
    · skip
      replace h16 := (nI_leE (a := tn) (b := j) rfl rfl (by omega) (by omega)).mp h16
      exfalso; omega
    · skip
      replace h16 := (not_congr (nI_leE (a := tn) (b := j) rfl rfl (by omega) (by omega))).mp h16
      refine ww_aload_n C0 dX3_firstFault_19 rfl ?_
      refine ww_iload C0 dX3_firstFault_20 rfl ?_
      refine ww_callVi C0 (qc := (RX3, TX3, 2)) 0 3 (c_X3_letter l D cI cZ cQ ht (by omega)) kd_X3_letter kw_X3_19 km_X3_letter kl_X3_letter ki_X3 hd_X3_letter rfl rfl ⟨Nat.le_of_ble_eq_true rfl, Nat.le_of_ble_eq_true rfl, rfl, rfl⟩ (Nat.le_of_ble_eq_true rfl) dX3_firstFault_22 rfl rfl rfl ⟨Nat.zero_le _, Nat.zero_le _⟩ ?_
      rw [hle]
      refine ww_istore (i := 5) C0 dX3_firstFault_25 (Nat.le_of_ble_eq_true rfl) rfl ?_
      simp only [List.set_cons_zero, List.set_cons_succ]
      refine ww_iload C0 dX3_firstFault_27 rfl ?_
      refine ww_bipush (v := (65)) C0 dX3_firstFault_29 rfl ?_
      refine ww_icmp_ne (tgt := 43) C0 dX3_firstFault_31 (by decide) (fun h31 => ?_) (fun h31 => ?_)
      · skip
        refine ww_iconst (v := (0)) C0 dX3_firstFault_43 rfl ?_
        refine ww_istore (i := 6) C0 dX3_firstFault_44 (Nat.le_of_ble_eq_true rfl) rfl ?_
        simp only [List.set_cons_zero, List.set_cons_succ]
        refine ww_iload C0 dX3_firstFault_46 rfl ?_
        refine ww_bipush (v := (77)) C0 dX3_firstFault_48 rfl ?_
        refine ww_icmp_ne (tgt := 62) C0 dX3_firstFault_50 (by decide) (fun h50 => ?_) (fun h50 => ?_)
        · skip
          refine ww_iconst (v := (0)) C0 dX3_firstFault_62 rfl ?_
          refine ww_istore (i := 7) C0 dX3_firstFault_63 (Nat.le_of_ble_eq_true rfl) rfl ?_
          simp only [List.set_cons_zero, List.set_cons_succ]
          refine ww_iload C0 dX3_firstFault_65 rfl ?_
          refine ww_if_ne (tgt := 80) C0 dX3_firstFault_67 (by decide) (fun h67 => ?_) (fun h67 => ?_)
          · skip
            replace h67 := (not_congr (nI_eqE (a := j) (b := 0) rfl rfl (by omega) (by omega))).mp h67
            skip
            refine ww_iload C0 dX3_firstFault_80 rfl ?_
            refine ww_iconst (v := (4)) C0 dX3_firstFault_82 rfl ?_
            refine ww_irem C0 dX3_firstFault_83 (by decide) ?_
            refine ww_iconst (v := (1)) C0 dX3_firstFault_84 rfl ?_
            refine ww_icmp_ne (tgt := 133) C0 dX3_firstFault_85 (by decide) (fun h85 => ?_) (fun h85 => ?_)
            · skip
              replace h85 := (not_congr (nI_eqE (a := j % 4) (b := 1) (nI_remE (a := j) (b := 4) rfl rfl (by omega) (by omega) (by omega)) rfl (by omega) (by omega))).mp h85
              refine ww_iload C0 dX3_firstFault_133 rfl ?_
              refine ww_bipush (v := (48)) C0 dX3_firstFault_135 rfl ?_
              refine ww_icmp_lt (tgt := 154) C0 dX3_firstFault_137 (by decide) (fun h137 => ?_) (fun h137 => ?_)
              · skip
                refine ww_iload C0 dX3_firstFault_154 rfl ?_
                exact ww_iret C0 hr dX3_firstFault_156 (by ((rw [hI]; repeat' split) <;> first | rfl | contradiction | (exfalso; omega) | (exfalso; simp_all; done))) (by rfl)
              · skip
                refine ww_iload C0 dX3_firstFault_140 rfl ?_
                refine ww_bipush (v := (48)) C0 dX3_firstFault_142 rfl ?_
                refine ww_iload C0 dX3_firstFault_144 rfl ?_
                refine ww_iload_n C0 dX3_firstFault_146 rfl ?_
                refine ww_callSi C0 (c_X3_figuresAt l D cI cZ cQ (by omega)) kd_X3_figuresAt kw_X3_23 ks_X3_figuresAt ki_X3 hd_X3_figuresAt ⟨Nat.le_of_ble_eq_true rfl, Nat.le_of_ble_eq_true rfl, rfl, rfl⟩ (Nat.le_of_ble_eq_true rfl) dX3_firstFault_147 rfl rfl ⟨Nat.zero_le _, Nat.zero_le _⟩ ?_
                refine ww_iadd C0 dX3_firstFault_150 ?_
                refine ww_icmp_lt (tgt := 157) C0 dX3_firstFault_151 (by decide) (fun h151 => ?_) (fun h151 => ?_)
                · skip
                  refine ww_iinc (d := 1) C0 dX3_firstFault_157 rfl rfl rfl ?_
                  simp only [List.set_cons_zero, List.set_cons_succ]
                  refine ww_goto (tgt := 10) C0 dX3_firstFault_160 (by decide) ?_
                  exact ww_back (ih (mu, ar, ki) ⟨by show mu ≤ 5; omega, by show ar ≤ 5; omega, by (rw [hI]; repeat' split) <;> first | rfl | contradiction | (exfalso; omega) | (exfalso; simp_all; done)⟩) ⟨Or.inr rfl, Or.inr (congrArg Value.int rfl.symm), Or.inr (congrArg Value.int rfl.symm), Or.inr rfl, Or.inr (congrArg Value.int (nI_addE rfl rfl).symm), Or.inl rfl, Or.inl rfl, Or.inl rfl, trivial⟩ rfl
                · skip
                  refine ww_iload C0 dX3_firstFault_154 rfl ?_
                  exact ww_iret C0 hr dX3_firstFault_156 (by ((rw [hI]; repeat' split) <;> first | rfl | contradiction | (exfalso; omega) | (exfalso; simp_all; done))) (by rfl)
            · skip
              replace h85 := (nI_eqE (a := j % 4) (b := 1) (nI_remE (a := j) (b := 4) rfl rfl (by omega) (by omega) (by omega)) rfl (by omega) (by omega)).mp h85
              refine ww_iload C0 dX3_firstFault_88 rfl ?_
              refine ww_if_ne (tgt := 101) C0 dX3_firstFault_90 (by decide) (fun h90 => ?_) (fun h90 => ?_)
              · skip
                replace h90 := (not_congr (nI_eqE (a := 0) (b := 0) rfl rfl (by omega) (by omega))).mp h90
                exfalso; omega
              · skip
                replace h90 := (nI_eqE (a := 0) (b := 0) rfl rfl (by omega) (by omega)).mp h90
                refine ww_iload C0 dX3_firstFault_93 rfl ?_
                refine ww_if_ne (tgt := 101) C0 dX3_firstFault_95 (by decide) (fun h95 => ?_) (fun h95 => ?_)
                · skip
                  replace h95 := (not_congr (nI_eqE (a := 0) (b := 0) rfl rfl (by omega) (by omega))).mp h95
                  exfalso; omega
                · skip
                  replace h95 := (nI_eqE (a := 0) (b := 0) rfl rfl (by omega) (by omega)).mp h95
                  refine ww_iload C0 dX3_firstFault_98 rfl ?_
                  exact ww_iret C0 hr dX3_firstFault_100 (by ((rw [hI]; repeat' split) <;> first | rfl | contradiction | (exfalso; omega) | (exfalso; simp_all; done))) (by rfl)
          · skip
            replace h67 := (nI_eqE (a := j) (b := 0) rfl rfl (by omega) (by omega)).mp h67
            refine ww_iload C0 dX3_firstFault_70 rfl ?_
            refine ww_bipush (v := (77)) C0 dX3_firstFault_72 rfl ?_
            refine ww_icmp_eq (tgt := 157) C0 dX3_firstFault_74 (by decide) (fun h74 => ?_) (fun h74 => ?_)
            · skip
              refine ww_iinc (d := 1) C0 dX3_firstFault_157 rfl rfl rfl ?_
              simp only [List.set_cons_zero, List.set_cons_succ]
              refine ww_goto (tgt := 10) C0 dX3_firstFault_160 (by decide) ?_
              exact ww_back (ih (mu, ar, ki) ⟨by show mu ≤ 5; omega, by show ar ≤ 5; omega, by (rw [hI]; repeat' split) <;> first | rfl | contradiction | (exfalso; omega) | (exfalso; simp_all; done)⟩) ⟨Or.inr rfl, Or.inr (congrArg Value.int rfl.symm), Or.inr (congrArg Value.int rfl.symm), Or.inr rfl, Or.inr (congrArg Value.int (nI_addE rfl rfl).symm), Or.inl rfl, Or.inl rfl, Or.inl rfl, trivial⟩ rfl
            · skip
              refine ww_iload C0 dX3_firstFault_77 rfl ?_
              exact ww_iret C0 hr dX3_firstFault_79 (by ((rw [hI]; repeat' split) <;> first | rfl | contradiction | (exfalso; omega) | (exfalso; simp_all; done))) (by rfl)
        · skip
          refine ww_iload_n C0 dX3_firstFault_53 rfl ?_
          refine ww_iconst (v := (5)) C0 dX3_firstFault_54 rfl ?_
          refine ww_icmp_ge (tgt := 62) C0 dX3_firstFault_55 (by decide) (fun h55 => ?_) (fun h55 => ?_)
          · skip
            replace h55 := (nI_leE (a := 5) (b := mu) rfl rfl (by omega) (by omega)).mp h55
            refine ww_iconst (v := (0)) C0 dX3_firstFault_62 rfl ?_
            refine ww_istore (i := 7) C0 dX3_firstFault_63 (Nat.le_of_ble_eq_true rfl) rfl ?_
            simp only [List.set_cons_zero, List.set_cons_succ]
            refine ww_iload C0 dX3_firstFault_65 rfl ?_
            refine ww_if_ne (tgt := 80) C0 dX3_firstFault_67 (by decide) (fun h67 => ?_) (fun h67 => ?_)
            · skip
              replace h67 := (not_congr (nI_eqE (a := j) (b := 0) rfl rfl (by omega) (by omega))).mp h67
              skip
              refine ww_iload C0 dX3_firstFault_80 rfl ?_
              refine ww_iconst (v := (4)) C0 dX3_firstFault_82 rfl ?_
              refine ww_irem C0 dX3_firstFault_83 (by decide) ?_
              refine ww_iconst (v := (1)) C0 dX3_firstFault_84 rfl ?_
              refine ww_icmp_ne (tgt := 133) C0 dX3_firstFault_85 (by decide) (fun h85 => ?_) (fun h85 => ?_)
              · skip
                replace h85 := (not_congr (nI_eqE (a := j % 4) (b := 1) (nI_remE (a := j) (b := 4) rfl rfl (by omega) (by omega) (by omega)) rfl (by omega) (by omega))).mp h85
                refine ww_iload C0 dX3_firstFault_133 rfl ?_
                refine ww_bipush (v := (48)) C0 dX3_firstFault_135 rfl ?_
                refine ww_icmp_lt (tgt := 154) C0 dX3_firstFault_137 (by decide) (fun h137 => ?_) (fun h137 => ?_)
                · skip
                  refine ww_iload C0 dX3_firstFault_154 rfl ?_
                  exact ww_iret C0 hr dX3_firstFault_156 (by ((rw [hI]; repeat' split) <;> first | rfl | contradiction | (exfalso; omega) | (exfalso; simp_all; done))) (by rfl)
                · skip
                  refine ww_iload C0 dX3_firstFault_140 rfl ?_
                  refine ww_bipush (v := (48)) C0 dX3_firstFault_142 rfl ?_
                  refine ww_iload C0 dX3_firstFault_144 rfl ?_
                  refine ww_iload_n C0 dX3_firstFault_146 rfl ?_
                  refine ww_callSi C0 (c_X3_figuresAt l D cI cZ cQ (by omega)) kd_X3_figuresAt kw_X3_23 ks_X3_figuresAt ki_X3 hd_X3_figuresAt ⟨Nat.le_of_ble_eq_true rfl, Nat.le_of_ble_eq_true rfl, rfl, rfl⟩ (Nat.le_of_ble_eq_true rfl) dX3_firstFault_147 rfl rfl ⟨Nat.zero_le _, Nat.zero_le _⟩ ?_
                  refine ww_iadd C0 dX3_firstFault_150 ?_
                  refine ww_icmp_lt (tgt := 157) C0 dX3_firstFault_151 (by decide) (fun h151 => ?_) (fun h151 => ?_)
                  · skip
                    refine ww_iinc (d := 1) C0 dX3_firstFault_157 rfl rfl rfl ?_
                    simp only [List.set_cons_zero, List.set_cons_succ]
                    refine ww_goto (tgt := 10) C0 dX3_firstFault_160 (by decide) ?_
                    exact ww_back (ih (mu, ar, ki) ⟨by show mu ≤ 5; omega, by show ar ≤ 5; omega, by (rw [hI]; repeat' split) <;> first | rfl | contradiction | (exfalso; omega) | (exfalso; simp_all; done)⟩) ⟨Or.inr rfl, Or.inr (congrArg Value.int rfl.symm), Or.inr (congrArg Value.int rfl.symm), Or.inr rfl, Or.inr (congrArg Value.int (nI_addE rfl rfl).symm), Or.inl rfl, Or.inl rfl, Or.inl rfl, trivial⟩ rfl
                  · skip
                    refine ww_iload C0 dX3_firstFault_154 rfl ?_
                    exact ww_iret C0 hr dX3_firstFault_156 (by ((rw [hI]; repeat' split) <;> first | rfl | contradiction | (exfalso; omega) | (exfalso; simp_all; done))) (by rfl)
              · skip
                replace h85 := (nI_eqE (a := j % 4) (b := 1) (nI_remE (a := j) (b := 4) rfl rfl (by omega) (by omega) (by omega)) rfl (by omega) (by omega)).mp h85
                refine ww_iload C0 dX3_firstFault_88 rfl ?_
                refine ww_if_ne (tgt := 101) C0 dX3_firstFault_90 (by decide) (fun h90 => ?_) (fun h90 => ?_)
                · skip
                  replace h90 := (not_congr (nI_eqE (a := 0) (b := 0) rfl rfl (by omega) (by omega))).mp h90
                  exfalso; omega
                · skip
                  replace h90 := (nI_eqE (a := 0) (b := 0) rfl rfl (by omega) (by omega)).mp h90
                  refine ww_iload C0 dX3_firstFault_93 rfl ?_
                  refine ww_if_ne (tgt := 101) C0 dX3_firstFault_95 (by decide) (fun h95 => ?_) (fun h95 => ?_)
                  · skip
                    replace h95 := (not_congr (nI_eqE (a := 0) (b := 0) rfl rfl (by omega) (by omega))).mp h95
                    exfalso; omega
                  · skip
                    replace h95 := (nI_eqE (a := 0) (b := 0) rfl rfl (by omega) (by omega)).mp h95
                    refine ww_iload C0 dX3_firstFault_98 rfl ?_
                    exact ww_iret C0 hr dX3_firstFault_100 (by ((rw [hI]; repeat' split) <;> first | rfl | contradiction | (exfalso; omega) | (exfalso; simp_all; done))) (by rfl)
            · skip
              replace h67 := (nI_eqE (a := j) (b := 0) rfl rfl (by omega) (by omega)).mp h67
              refine ww_iload C0 dX3_firstFault_70 rfl ?_
              refine ww_bipush (v := (77)) C0 dX3_firstFault_72 rfl ?_
              refine ww_icmp_eq (tgt := 157) C0 dX3_firstFault_74 (by decide) (fun h74 => ?_) (fun h74 => ?_)
              · skip
                refine ww_iinc (d := 1) C0 dX3_firstFault_157 rfl rfl rfl ?_
                simp only [List.set_cons_zero, List.set_cons_succ]
                refine ww_goto (tgt := 10) C0 dX3_firstFault_160 (by decide) ?_
                exact ww_back (ih (mu, ar, ki) ⟨by show mu ≤ 5; omega, by show ar ≤ 5; omega, by (rw [hI]; repeat' split) <;> first | rfl | contradiction | (exfalso; omega) | (exfalso; simp_all; done)⟩) ⟨Or.inr rfl, Or.inr (congrArg Value.int rfl.symm), Or.inr (congrArg Value.int rfl.symm), Or.inr rfl, Or.inr (congrArg Value.int (nI_addE rfl rfl).symm), Or.inl rfl, Or.inl rfl, Or.inl rfl, trivial⟩ rfl
              · skip
                refine ww_iload C0 dX3_firstFault_77 rfl ?_
                exact ww_iret C0 hr dX3_firstFault_79 (by ((rw [hI]; repeat' split) <;> first | rfl | contradiction | (exfalso; omega) | (exfalso; simp_all; done))) (by rfl)
          · skip
            replace h55 := (not_congr (nI_leE (a := 5) (b := mu) rfl rfl (by omega) (by omega))).mp h55
            refine ww_iconst (v := (1)) C0 dX3_firstFault_58 rfl ?_
            refine ww_goto (tgt := 63) C0 dX3_firstFault_59 (by decide) ?_
            refine ww_istore (i := 7) C0 dX3_firstFault_63 (Nat.le_of_ble_eq_true rfl) rfl ?_
            simp only [List.set_cons_zero, List.set_cons_succ]
            refine ww_iload C0 dX3_firstFault_65 rfl ?_
            refine ww_if_ne (tgt := 80) C0 dX3_firstFault_67 (by decide) (fun h67 => ?_) (fun h67 => ?_)
            · skip
              replace h67 := (not_congr (nI_eqE (a := j) (b := 0) rfl rfl (by omega) (by omega))).mp h67
              skip
              refine ww_iload C0 dX3_firstFault_80 rfl ?_
              refine ww_iconst (v := (4)) C0 dX3_firstFault_82 rfl ?_
              refine ww_irem C0 dX3_firstFault_83 (by decide) ?_
              refine ww_iconst (v := (1)) C0 dX3_firstFault_84 rfl ?_
              refine ww_icmp_ne (tgt := 133) C0 dX3_firstFault_85 (by decide) (fun h85 => ?_) (fun h85 => ?_)
              · skip
                replace h85 := (not_congr (nI_eqE (a := j % 4) (b := 1) (nI_remE (a := j) (b := 4) rfl rfl (by omega) (by omega) (by omega)) rfl (by omega) (by omega))).mp h85
                refine ww_iload C0 dX3_firstFault_133 rfl ?_
                refine ww_bipush (v := (48)) C0 dX3_firstFault_135 rfl ?_
                refine ww_icmp_lt (tgt := 154) C0 dX3_firstFault_137 (by decide) (fun h137 => ?_) (fun h137 => ?_)
                · skip
                  refine ww_iload C0 dX3_firstFault_154 rfl ?_
                  exact ww_iret C0 hr dX3_firstFault_156 (by ((rw [hI]; repeat' split) <;> first | rfl | contradiction | (exfalso; omega) | (exfalso; simp_all; done))) (by rfl)
                · skip
                  refine ww_iload C0 dX3_firstFault_140 rfl ?_
                  refine ww_bipush (v := (48)) C0 dX3_firstFault_142 rfl ?_
                  refine ww_iload C0 dX3_firstFault_144 rfl ?_
                  refine ww_iload_n C0 dX3_firstFault_146 rfl ?_
                  refine ww_callSi C0 (c_X3_figuresAt l D cI cZ cQ (by omega)) kd_X3_figuresAt kw_X3_23 ks_X3_figuresAt ki_X3 hd_X3_figuresAt ⟨Nat.le_of_ble_eq_true rfl, Nat.le_of_ble_eq_true rfl, rfl, rfl⟩ (Nat.le_of_ble_eq_true rfl) dX3_firstFault_147 rfl rfl ⟨Nat.zero_le _, Nat.zero_le _⟩ ?_
                  refine ww_iadd C0 dX3_firstFault_150 ?_
                  refine ww_icmp_lt (tgt := 157) C0 dX3_firstFault_151 (by decide) (fun h151 => ?_) (fun h151 => ?_)
                  · skip
                    refine ww_iinc (d := 1) C0 dX3_firstFault_157 rfl rfl rfl ?_
                    simp only [List.set_cons_zero, List.set_cons_succ]
                    refine ww_goto (tgt := 10) C0 dX3_firstFault_160 (by decide) ?_
                    exact ww_back (ih (mu, ar, ki) ⟨by show mu ≤ 5; omega, by show ar ≤ 5; omega, by (rw [hI]; repeat' split) <;> first | rfl | contradiction | (exfalso; omega) | (exfalso; simp_all; done)⟩) ⟨Or.inr rfl, Or.inr (congrArg Value.int rfl.symm), Or.inr (congrArg Value.int rfl.symm), Or.inr rfl, Or.inr (congrArg Value.int (nI_addE rfl rfl).symm), Or.inl rfl, Or.inl rfl, Or.inl rfl, trivial⟩ rfl
                  · skip
                    refine ww_iload C0 dX3_firstFault_154 rfl ?_
                    exact ww_iret C0 hr dX3_firstFault_156 (by ((rw [hI]; repeat' split) <;> first | rfl | contradiction | (exfalso; omega) | (exfalso; simp_all; done))) (by rfl)
              · skip
                replace h85 := (nI_eqE (a := j % 4) (b := 1) (nI_remE (a := j) (b := 4) rfl rfl (by omega) (by omega) (by omega)) rfl (by omega) (by omega)).mp h85
                refine ww_iload C0 dX3_firstFault_88 rfl ?_
                refine ww_if_ne (tgt := 101) C0 dX3_firstFault_90 (by decide) (fun h90 => ?_) (fun h90 => ?_)
                · skip
                  replace h90 := (not_congr (nI_eqE (a := 0) (b := 0) rfl rfl (by omega) (by omega))).mp h90
                  exfalso; omega
                · skip
                  replace h90 := (nI_eqE (a := 0) (b := 0) rfl rfl (by omega) (by omega)).mp h90
                  refine ww_iload C0 dX3_firstFault_93 rfl ?_
                  refine ww_if_ne (tgt := 101) C0 dX3_firstFault_95 (by decide) (fun h95 => ?_) (fun h95 => ?_)
                  · skip
                    replace h95 := (not_congr (nI_eqE (a := 1) (b := 0) rfl rfl (by omega) (by omega))).mp h95
                    refine ww_iload C0 dX3_firstFault_101 rfl ?_
                    refine ww_istore_n (i := 3) C0 dX3_firstFault_103 rfl (Nat.le_of_ble_eq_true rfl) rfl ?_
                    simp only [List.set_cons_zero, List.set_cons_succ]
                    refine ww_iload_n C0 dX3_firstFault_104 rfl ?_
                    refine ww_iload C0 dX3_firstFault_105 rfl ?_
                    refine ww_if_eq (tgt := 114) C0 dX3_firstFault_107 (by decide) (fun h107 => ?_) (fun h107 => ?_)
                    · skip
                      replace h107 := (nI_eqE (a := 0) (b := 0) rfl rfl (by omega) (by omega)).mp h107
                      refine ww_iconst (v := (0)) C0 dX3_firstFault_114 rfl ?_
                      refine ww_iadd C0 dX3_firstFault_115 ?_
                      refine ww_istore_n (i := 2) C0 dX3_firstFault_116 rfl (Nat.le_of_ble_eq_true rfl) rfl ?_
                      simp only [List.set_cons_zero, List.set_cons_succ]
                      refine ww_iload_n C0 dX3_firstFault_117 rfl ?_
                      refine ww_iload C0 dX3_firstFault_118 rfl ?_
                      refine ww_if_eq (tgt := 127) C0 dX3_firstFault_120 (by decide) (fun h120 => ?_) (fun h120 => ?_)
                      · skip
                        replace h120 := (nI_eqE (a := 1) (b := 0) rfl rfl (by omega) (by omega)).mp h120
                        exfalso; omega
                      · skip
                        replace h120 := (not_congr (nI_eqE (a := 1) (b := 0) rfl rfl (by omega) (by omega))).mp h120
                        refine ww_iconst (v := (1)) C0 dX3_firstFault_123 rfl ?_
                        refine ww_goto (tgt := 128) C0 dX3_firstFault_124 (by decide) ?_
                        refine ww_iadd C0 dX3_firstFault_128 ?_
                        refine ww_istore_n (i := 1) C0 dX3_firstFault_129 rfl (Nat.le_of_ble_eq_true rfl) rfl ?_
                        simp only [List.set_cons_zero, List.set_cons_succ]
                        refine ww_goto (tgt := 157) C0 dX3_firstFault_130 (by decide) ?_
                        refine ww_iinc (d := 1) C0 dX3_firstFault_157 rfl rfl rfl ?_
                        simp only [List.set_cons_zero, List.set_cons_succ]
                        refine ww_goto (tgt := 10) C0 dX3_firstFault_160 (by decide) ?_
                        exact ww_back (ih (mu + 1, ar + 0, (ft0 j)) ⟨by show mu + 1 ≤ 5; omega, by show ar + 0 ≤ 5; omega, by (rw [hI]; repeat' split) <;> first | rfl | contradiction | (exfalso; omega) | (exfalso; simp_all; done)⟩) ⟨Or.inr rfl, Or.inr (congrArg Value.int (nI_addE (a := mu) (b := 1) rfl rfl).symm), Or.inr (congrArg Value.int (nI_addE (a := ar) (b := 0) rfl rfl).symm), Or.inr rfl, Or.inr (congrArg Value.int (nI_addE rfl rfl).symm), Or.inl rfl, Or.inl rfl, Or.inl rfl, trivial⟩ rfl
                    · skip
                      replace h107 := (not_congr (nI_eqE (a := 0) (b := 0) rfl rfl (by omega) (by omega))).mp h107
                      exfalso; omega
                  · skip
                    replace h95 := (nI_eqE (a := 1) (b := 0) rfl rfl (by omega) (by omega)).mp h95
                    exfalso; omega
            · skip
              replace h67 := (nI_eqE (a := j) (b := 0) rfl rfl (by omega) (by omega)).mp h67
              refine ww_iload C0 dX3_firstFault_70 rfl ?_
              refine ww_bipush (v := (77)) C0 dX3_firstFault_72 rfl ?_
              refine ww_icmp_eq (tgt := 157) C0 dX3_firstFault_74 (by decide) (fun h74 => ?_) (fun h74 => ?_)
              · skip
                refine ww_iinc (d := 1) C0 dX3_firstFault_157 rfl rfl rfl ?_
                simp only [List.set_cons_zero, List.set_cons_succ]
                refine ww_goto (tgt := 10) C0 dX3_firstFault_160 (by decide) ?_
                exact ww_back (ih (mu, ar, ki) ⟨by show mu ≤ 5; omega, by show ar ≤ 5; omega, by (rw [hI]; repeat' split) <;> first | rfl | contradiction | (exfalso; omega) | (exfalso; simp_all; done)⟩) ⟨Or.inr rfl, Or.inr (congrArg Value.int rfl.symm), Or.inr (congrArg Value.int rfl.symm), Or.inr rfl, Or.inr (congrArg Value.int (nI_addE rfl rfl).symm), Or.inl rfl, Or.inl rfl, Or.inl rfl, trivial⟩ rfl
              · skip
                refine ww_iload C0 dX3_firstFault_77 rfl ?_
                exact ww_iret C0 hr dX3_firstFault_79 (by ((rw [hI]; repeat' split) <;> first | rfl | contradiction | (exfalso; omega) | (exfalso; simp_all; done))) (by rfl)
      · skip
        refine ww_iload_n C0 dX3_firstFault_34 rfl ?_
        refine ww_iconst (v := (5)) C0 dX3_firstFault_35 rfl ?_
        refine ww_icmp_ge (tgt := 43) C0 dX3_firstFault_36 (by decide) (fun h36 => ?_) (fun h36 => ?_)
        · skip
          replace h36 := (nI_leE (a := 5) (b := ar) rfl rfl (by omega) (by omega)).mp h36
          refine ww_iconst (v := (0)) C0 dX3_firstFault_43 rfl ?_
          refine ww_istore (i := 6) C0 dX3_firstFault_44 (Nat.le_of_ble_eq_true rfl) rfl ?_
          simp only [List.set_cons_zero, List.set_cons_succ]
          refine ww_iload C0 dX3_firstFault_46 rfl ?_
          refine ww_bipush (v := (77)) C0 dX3_firstFault_48 rfl ?_
          refine ww_icmp_ne (tgt := 62) C0 dX3_firstFault_50 (by decide) (fun h50 => ?_) (fun h50 => ?_)
          · skip
            refine ww_iconst (v := (0)) C0 dX3_firstFault_62 rfl ?_
            refine ww_istore (i := 7) C0 dX3_firstFault_63 (Nat.le_of_ble_eq_true rfl) rfl ?_
            simp only [List.set_cons_zero, List.set_cons_succ]
            refine ww_iload C0 dX3_firstFault_65 rfl ?_
            refine ww_if_ne (tgt := 80) C0 dX3_firstFault_67 (by decide) (fun h67 => ?_) (fun h67 => ?_)
            · skip
              replace h67 := (not_congr (nI_eqE (a := j) (b := 0) rfl rfl (by omega) (by omega))).mp h67
              skip
              refine ww_iload C0 dX3_firstFault_80 rfl ?_
              refine ww_iconst (v := (4)) C0 dX3_firstFault_82 rfl ?_
              refine ww_irem C0 dX3_firstFault_83 (by decide) ?_
              refine ww_iconst (v := (1)) C0 dX3_firstFault_84 rfl ?_
              refine ww_icmp_ne (tgt := 133) C0 dX3_firstFault_85 (by decide) (fun h85 => ?_) (fun h85 => ?_)
              · skip
                replace h85 := (not_congr (nI_eqE (a := j % 4) (b := 1) (nI_remE (a := j) (b := 4) rfl rfl (by omega) (by omega) (by omega)) rfl (by omega) (by omega))).mp h85
                refine ww_iload C0 dX3_firstFault_133 rfl ?_
                refine ww_bipush (v := (48)) C0 dX3_firstFault_135 rfl ?_
                refine ww_icmp_lt (tgt := 154) C0 dX3_firstFault_137 (by decide) (fun h137 => ?_) (fun h137 => ?_)
                · skip
                  refine ww_iload C0 dX3_firstFault_154 rfl ?_
                  exact ww_iret C0 hr dX3_firstFault_156 (by ((rw [hI]; repeat' split) <;> first | rfl | contradiction | (exfalso; omega) | (exfalso; simp_all; done))) (by rfl)
                · skip
                  refine ww_iload C0 dX3_firstFault_140 rfl ?_
                  refine ww_bipush (v := (48)) C0 dX3_firstFault_142 rfl ?_
                  refine ww_iload C0 dX3_firstFault_144 rfl ?_
                  refine ww_iload_n C0 dX3_firstFault_146 rfl ?_
                  refine ww_callSi C0 (c_X3_figuresAt l D cI cZ cQ (by omega)) kd_X3_figuresAt kw_X3_23 ks_X3_figuresAt ki_X3 hd_X3_figuresAt ⟨Nat.le_of_ble_eq_true rfl, Nat.le_of_ble_eq_true rfl, rfl, rfl⟩ (Nat.le_of_ble_eq_true rfl) dX3_firstFault_147 rfl rfl ⟨Nat.zero_le _, Nat.zero_le _⟩ ?_
                  refine ww_iadd C0 dX3_firstFault_150 ?_
                  refine ww_icmp_lt (tgt := 157) C0 dX3_firstFault_151 (by decide) (fun h151 => ?_) (fun h151 => ?_)
                  · skip
                    refine ww_iinc (d := 1) C0 dX3_firstFault_157 rfl rfl rfl ?_
                    simp only [List.set_cons_zero, List.set_cons_succ]
                    refine ww_goto (tgt := 10) C0 dX3_firstFault_160 (by decide) ?_
                    exact ww_back (ih (mu, ar, ki) ⟨by show mu ≤ 5; omega, by show ar ≤ 5; omega, by (rw [hI]; repeat' split) <;> first | rfl | contradiction | (exfalso; omega) | (exfalso; simp_all; done)⟩) ⟨Or.inr rfl, Or.inr (congrArg Value.int rfl.symm), Or.inr (congrArg Value.int rfl.symm), Or.inr rfl, Or.inr (congrArg Value.int (nI_addE rfl rfl).symm), Or.inl rfl, Or.inl rfl, Or.inl rfl, trivial⟩ rfl
                  · skip
                    refine ww_iload C0 dX3_firstFault_154 rfl ?_
                    exact ww_iret C0 hr dX3_firstFault_156 (by ((rw [hI]; repeat' split) <;> first | rfl | contradiction | (exfalso; omega) | (exfalso; simp_all; done))) (by rfl)
              · skip
                replace h85 := (nI_eqE (a := j % 4) (b := 1) (nI_remE (a := j) (b := 4) rfl rfl (by omega) (by omega) (by omega)) rfl (by omega) (by omega)).mp h85
                refine ww_iload C0 dX3_firstFault_88 rfl ?_
                refine ww_if_ne (tgt := 101) C0 dX3_firstFault_90 (by decide) (fun h90 => ?_) (fun h90 => ?_)
                · skip
                  replace h90 := (not_congr (nI_eqE (a := 0) (b := 0) rfl rfl (by omega) (by omega))).mp h90
                  exfalso; omega
                · skip
                  replace h90 := (nI_eqE (a := 0) (b := 0) rfl rfl (by omega) (by omega)).mp h90
                  refine ww_iload C0 dX3_firstFault_93 rfl ?_
                  refine ww_if_ne (tgt := 101) C0 dX3_firstFault_95 (by decide) (fun h95 => ?_) (fun h95 => ?_)
                  · skip
                    replace h95 := (not_congr (nI_eqE (a := 0) (b := 0) rfl rfl (by omega) (by omega))).mp h95
                    exfalso; omega
                  · skip
                    replace h95 := (nI_eqE (a := 0) (b := 0) rfl rfl (by omega) (by omega)).mp h95
                    refine ww_iload C0 dX3_firstFault_98 rfl ?_
                    exact ww_iret C0 hr dX3_firstFault_100 (by ((rw [hI]; repeat' split) <;> first | rfl | contradiction | (exfalso; omega) | (exfalso; simp_all; done))) (by rfl)
            · skip
              replace h67 := (nI_eqE (a := j) (b := 0) rfl rfl (by omega) (by omega)).mp h67
              refine ww_iload C0 dX3_firstFault_70 rfl ?_
              refine ww_bipush (v := (77)) C0 dX3_firstFault_72 rfl ?_
              refine ww_icmp_eq (tgt := 157) C0 dX3_firstFault_74 (by decide) (fun h74 => ?_) (fun h74 => ?_)
              · skip
                refine ww_iinc (d := 1) C0 dX3_firstFault_157 rfl rfl rfl ?_
                simp only [List.set_cons_zero, List.set_cons_succ]
                refine ww_goto (tgt := 10) C0 dX3_firstFault_160 (by decide) ?_
                exact ww_back (ih (mu, ar, ki) ⟨by show mu ≤ 5; omega, by show ar ≤ 5; omega, by (rw [hI]; repeat' split) <;> first | rfl | contradiction | (exfalso; omega) | (exfalso; simp_all; done)⟩) ⟨Or.inr rfl, Or.inr (congrArg Value.int rfl.symm), Or.inr (congrArg Value.int rfl.symm), Or.inr rfl, Or.inr (congrArg Value.int (nI_addE rfl rfl).symm), Or.inl rfl, Or.inl rfl, Or.inl rfl, trivial⟩ rfl
              · skip
                refine ww_iload C0 dX3_firstFault_77 rfl ?_
                exact ww_iret C0 hr dX3_firstFault_79 (by ((rw [hI]; repeat' split) <;> first | rfl | contradiction | (exfalso; omega) | (exfalso; simp_all; done))) (by rfl)
          · skip
            refine ww_iload_n C0 dX3_firstFault_53 rfl ?_
            refine ww_iconst (v := (5)) C0 dX3_firstFault_54 rfl ?_
            refine ww_icmp_ge (tgt := 62) C0 dX3_firstFault_55 (by decide) (fun h55 => ?_) (fun h55 => ?_)
            · skip
              replace h55 := (nI_leE (a := 5) (b := mu) rfl rfl (by omega) (by omega)).mp h55
              refine ww_iconst (v := (0)) C0 dX3_firstFault_62 rfl ?_
              refine ww_istore (i := 7) C0 dX3_firstFault_63 (Nat.le_of_ble_eq_true rfl) rfl ?_
              simp only [List.set_cons_zero, List.set_cons_succ]
              refine ww_iload C0 dX3_firstFault_65 rfl ?_
              refine ww_if_ne (tgt := 80) C0 dX3_firstFault_67 (by decide) (fun h67 => ?_) (fun h67 => ?_)
              · skip
                replace h67 := (not_congr (nI_eqE (a := j) (b := 0) rfl rfl (by omega) (by omega))).mp h67
                skip
                refine ww_iload C0 dX3_firstFault_80 rfl ?_
                refine ww_iconst (v := (4)) C0 dX3_firstFault_82 rfl ?_
                refine ww_irem C0 dX3_firstFault_83 (by decide) ?_
                refine ww_iconst (v := (1)) C0 dX3_firstFault_84 rfl ?_
                refine ww_icmp_ne (tgt := 133) C0 dX3_firstFault_85 (by decide) (fun h85 => ?_) (fun h85 => ?_)
                · skip
                  replace h85 := (not_congr (nI_eqE (a := j % 4) (b := 1) (nI_remE (a := j) (b := 4) rfl rfl (by omega) (by omega) (by omega)) rfl (by omega) (by omega))).mp h85
                  refine ww_iload C0 dX3_firstFault_133 rfl ?_
                  refine ww_bipush (v := (48)) C0 dX3_firstFault_135 rfl ?_
                  refine ww_icmp_lt (tgt := 154) C0 dX3_firstFault_137 (by decide) (fun h137 => ?_) (fun h137 => ?_)
                  · skip
                    refine ww_iload C0 dX3_firstFault_154 rfl ?_
                    exact ww_iret C0 hr dX3_firstFault_156 (by ((rw [hI]; repeat' split) <;> first | rfl | contradiction | (exfalso; omega) | (exfalso; simp_all; done))) (by rfl)
                  · skip
                    refine ww_iload C0 dX3_firstFault_140 rfl ?_
                    refine ww_bipush (v := (48)) C0 dX3_firstFault_142 rfl ?_
                    refine ww_iload C0 dX3_firstFault_144 rfl ?_
                    refine ww_iload_n C0 dX3_firstFault_146 rfl ?_
                    refine ww_callSi C0 (c_X3_figuresAt l D cI cZ cQ (by omega)) kd_X3_figuresAt kw_X3_23 ks_X3_figuresAt ki_X3 hd_X3_figuresAt ⟨Nat.le_of_ble_eq_true rfl, Nat.le_of_ble_eq_true rfl, rfl, rfl⟩ (Nat.le_of_ble_eq_true rfl) dX3_firstFault_147 rfl rfl ⟨Nat.zero_le _, Nat.zero_le _⟩ ?_
                    refine ww_iadd C0 dX3_firstFault_150 ?_
                    refine ww_icmp_lt (tgt := 157) C0 dX3_firstFault_151 (by decide) (fun h151 => ?_) (fun h151 => ?_)
                    · skip
                      refine ww_iinc (d := 1) C0 dX3_firstFault_157 rfl rfl rfl ?_
                      simp only [List.set_cons_zero, List.set_cons_succ]
                      refine ww_goto (tgt := 10) C0 dX3_firstFault_160 (by decide) ?_
                      exact ww_back (ih (mu, ar, ki) ⟨by show mu ≤ 5; omega, by show ar ≤ 5; omega, by (rw [hI]; repeat' split) <;> first | rfl | contradiction | (exfalso; omega) | (exfalso; simp_all; done)⟩) ⟨Or.inr rfl, Or.inr (congrArg Value.int rfl.symm), Or.inr (congrArg Value.int rfl.symm), Or.inr rfl, Or.inr (congrArg Value.int (nI_addE rfl rfl).symm), Or.inl rfl, Or.inl rfl, Or.inl rfl, trivial⟩ rfl
                    · skip
                      refine ww_iload C0 dX3_firstFault_154 rfl ?_
                      exact ww_iret C0 hr dX3_firstFault_156 (by ((rw [hI]; repeat' split) <;> first | rfl | contradiction | (exfalso; omega) | (exfalso; simp_all; done))) (by rfl)
                · skip
                  replace h85 := (nI_eqE (a := j % 4) (b := 1) (nI_remE (a := j) (b := 4) rfl rfl (by omega) (by omega) (by omega)) rfl (by omega) (by omega)).mp h85
                  refine ww_iload C0 dX3_firstFault_88 rfl ?_
                  refine ww_if_ne (tgt := 101) C0 dX3_firstFault_90 (by decide) (fun h90 => ?_) (fun h90 => ?_)
                  · skip
                    replace h90 := (not_congr (nI_eqE (a := 0) (b := 0) rfl rfl (by omega) (by omega))).mp h90
                    exfalso; omega
                  · skip
                    replace h90 := (nI_eqE (a := 0) (b := 0) rfl rfl (by omega) (by omega)).mp h90
                    refine ww_iload C0 dX3_firstFault_93 rfl ?_
                    refine ww_if_ne (tgt := 101) C0 dX3_firstFault_95 (by decide) (fun h95 => ?_) (fun h95 => ?_)
                    · skip
                      replace h95 := (not_congr (nI_eqE (a := 0) (b := 0) rfl rfl (by omega) (by omega))).mp h95
                      exfalso; omega
                    · skip
                      replace h95 := (nI_eqE (a := 0) (b := 0) rfl rfl (by omega) (by omega)).mp h95
                      refine ww_iload C0 dX3_firstFault_98 rfl ?_
                      exact ww_iret C0 hr dX3_firstFault_100 (by ((rw [hI]; repeat' split) <;> first | rfl | contradiction | (exfalso; omega) | (exfalso; simp_all; done))) (by rfl)
              · skip
                replace h67 := (nI_eqE (a := j) (b := 0) rfl rfl (by omega) (by omega)).mp h67
                refine ww_iload C0 dX3_firstFault_70 rfl ?_
                refine ww_bipush (v := (77)) C0 dX3_firstFault_72 rfl ?_
                refine ww_icmp_eq (tgt := 157) C0 dX3_firstFault_74 (by decide) (fun h74 => ?_) (fun h74 => ?_)
                · skip
                  refine ww_iinc (d := 1) C0 dX3_firstFault_157 rfl rfl rfl ?_
                  simp only [List.set_cons_zero, List.set_cons_succ]
                  refine ww_goto (tgt := 10) C0 dX3_firstFault_160 (by decide) ?_
                  exact ww_back (ih (mu, ar, ki) ⟨by show mu ≤ 5; omega, by show ar ≤ 5; omega, by (rw [hI]; repeat' split) <;> first | rfl | contradiction | (exfalso; omega) | (exfalso; simp_all; done)⟩) ⟨Or.inr rfl, Or.inr (congrArg Value.int rfl.symm), Or.inr (congrArg Value.int rfl.symm), Or.inr rfl, Or.inr (congrArg Value.int (nI_addE rfl rfl).symm), Or.inl rfl, Or.inl rfl, Or.inl rfl, trivial⟩ rfl
                · skip
                  refine ww_iload C0 dX3_firstFault_77 rfl ?_
                  exact ww_iret C0 hr dX3_firstFault_79 (by ((rw [hI]; repeat' split) <;> first | rfl | contradiction | (exfalso; omega) | (exfalso; simp_all; done))) (by rfl)
            · skip
              replace h55 := (not_congr (nI_leE (a := 5) (b := mu) rfl rfl (by omega) (by omega))).mp h55
              refine ww_iconst (v := (1)) C0 dX3_firstFault_58 rfl ?_
              refine ww_goto (tgt := 63) C0 dX3_firstFault_59 (by decide) ?_
              refine ww_istore (i := 7) C0 dX3_firstFault_63 (Nat.le_of_ble_eq_true rfl) rfl ?_
              simp only [List.set_cons_zero, List.set_cons_succ]
              refine ww_iload C0 dX3_firstFault_65 rfl ?_
              refine ww_if_ne (tgt := 80) C0 dX3_firstFault_67 (by decide) (fun h67 => ?_) (fun h67 => ?_)
              · skip
                replace h67 := (not_congr (nI_eqE (a := j) (b := 0) rfl rfl (by omega) (by omega))).mp h67
                skip
                refine ww_iload C0 dX3_firstFault_80 rfl ?_
                refine ww_iconst (v := (4)) C0 dX3_firstFault_82 rfl ?_
                refine ww_irem C0 dX3_firstFault_83 (by decide) ?_
                refine ww_iconst (v := (1)) C0 dX3_firstFault_84 rfl ?_
                refine ww_icmp_ne (tgt := 133) C0 dX3_firstFault_85 (by decide) (fun h85 => ?_) (fun h85 => ?_)
                · skip
                  replace h85 := (not_congr (nI_eqE (a := j % 4) (b := 1) (nI_remE (a := j) (b := 4) rfl rfl (by omega) (by omega) (by omega)) rfl (by omega) (by omega))).mp h85
                  refine ww_iload C0 dX3_firstFault_133 rfl ?_
                  refine ww_bipush (v := (48)) C0 dX3_firstFault_135 rfl ?_
                  refine ww_icmp_lt (tgt := 154) C0 dX3_firstFault_137 (by decide) (fun h137 => ?_) (fun h137 => ?_)
                  · skip
                    refine ww_iload C0 dX3_firstFault_154 rfl ?_
                    exact ww_iret C0 hr dX3_firstFault_156 (by ((rw [hI]; repeat' split) <;> first | rfl | contradiction | (exfalso; omega) | (exfalso; simp_all; done))) (by rfl)
                  · skip
                    refine ww_iload C0 dX3_firstFault_140 rfl ?_
                    refine ww_bipush (v := (48)) C0 dX3_firstFault_142 rfl ?_
                    refine ww_iload C0 dX3_firstFault_144 rfl ?_
                    refine ww_iload_n C0 dX3_firstFault_146 rfl ?_
                    refine ww_callSi C0 (c_X3_figuresAt l D cI cZ cQ (by omega)) kd_X3_figuresAt kw_X3_23 ks_X3_figuresAt ki_X3 hd_X3_figuresAt ⟨Nat.le_of_ble_eq_true rfl, Nat.le_of_ble_eq_true rfl, rfl, rfl⟩ (Nat.le_of_ble_eq_true rfl) dX3_firstFault_147 rfl rfl ⟨Nat.zero_le _, Nat.zero_le _⟩ ?_
                    refine ww_iadd C0 dX3_firstFault_150 ?_
                    refine ww_icmp_lt (tgt := 157) C0 dX3_firstFault_151 (by decide) (fun h151 => ?_) (fun h151 => ?_)
                    · skip
                      refine ww_iinc (d := 1) C0 dX3_firstFault_157 rfl rfl rfl ?_
                      simp only [List.set_cons_zero, List.set_cons_succ]
                      refine ww_goto (tgt := 10) C0 dX3_firstFault_160 (by decide) ?_
                      exact ww_back (ih (mu, ar, ki) ⟨by show mu ≤ 5; omega, by show ar ≤ 5; omega, by (rw [hI]; repeat' split) <;> first | rfl | contradiction | (exfalso; omega) | (exfalso; simp_all; done)⟩) ⟨Or.inr rfl, Or.inr (congrArg Value.int rfl.symm), Or.inr (congrArg Value.int rfl.symm), Or.inr rfl, Or.inr (congrArg Value.int (nI_addE rfl rfl).symm), Or.inl rfl, Or.inl rfl, Or.inl rfl, trivial⟩ rfl
                    · skip
                      refine ww_iload C0 dX3_firstFault_154 rfl ?_
                      exact ww_iret C0 hr dX3_firstFault_156 (by ((rw [hI]; repeat' split) <;> first | rfl | contradiction | (exfalso; omega) | (exfalso; simp_all; done))) (by rfl)
                · skip
                  replace h85 := (nI_eqE (a := j % 4) (b := 1) (nI_remE (a := j) (b := 4) rfl rfl (by omega) (by omega) (by omega)) rfl (by omega) (by omega)).mp h85
                  refine ww_iload C0 dX3_firstFault_88 rfl ?_
                  refine ww_if_ne (tgt := 101) C0 dX3_firstFault_90 (by decide) (fun h90 => ?_) (fun h90 => ?_)
                  · skip
                    replace h90 := (not_congr (nI_eqE (a := 0) (b := 0) rfl rfl (by omega) (by omega))).mp h90
                    exfalso; omega
                  · skip
                    replace h90 := (nI_eqE (a := 0) (b := 0) rfl rfl (by omega) (by omega)).mp h90
                    refine ww_iload C0 dX3_firstFault_93 rfl ?_
                    refine ww_if_ne (tgt := 101) C0 dX3_firstFault_95 (by decide) (fun h95 => ?_) (fun h95 => ?_)
                    · skip
                      replace h95 := (not_congr (nI_eqE (a := 1) (b := 0) rfl rfl (by omega) (by omega))).mp h95
                      refine ww_iload C0 dX3_firstFault_101 rfl ?_
                      refine ww_istore_n (i := 3) C0 dX3_firstFault_103 rfl (Nat.le_of_ble_eq_true rfl) rfl ?_
                      simp only [List.set_cons_zero, List.set_cons_succ]
                      refine ww_iload_n C0 dX3_firstFault_104 rfl ?_
                      refine ww_iload C0 dX3_firstFault_105 rfl ?_
                      refine ww_if_eq (tgt := 114) C0 dX3_firstFault_107 (by decide) (fun h107 => ?_) (fun h107 => ?_)
                      · skip
                        replace h107 := (nI_eqE (a := 0) (b := 0) rfl rfl (by omega) (by omega)).mp h107
                        refine ww_iconst (v := (0)) C0 dX3_firstFault_114 rfl ?_
                        refine ww_iadd C0 dX3_firstFault_115 ?_
                        refine ww_istore_n (i := 2) C0 dX3_firstFault_116 rfl (Nat.le_of_ble_eq_true rfl) rfl ?_
                        simp only [List.set_cons_zero, List.set_cons_succ]
                        refine ww_iload_n C0 dX3_firstFault_117 rfl ?_
                        refine ww_iload C0 dX3_firstFault_118 rfl ?_
                        refine ww_if_eq (tgt := 127) C0 dX3_firstFault_120 (by decide) (fun h120 => ?_) (fun h120 => ?_)
                        · skip
                          replace h120 := (nI_eqE (a := 1) (b := 0) rfl rfl (by omega) (by omega)).mp h120
                          exfalso; omega
                        · skip
                          replace h120 := (not_congr (nI_eqE (a := 1) (b := 0) rfl rfl (by omega) (by omega))).mp h120
                          refine ww_iconst (v := (1)) C0 dX3_firstFault_123 rfl ?_
                          refine ww_goto (tgt := 128) C0 dX3_firstFault_124 (by decide) ?_
                          refine ww_iadd C0 dX3_firstFault_128 ?_
                          refine ww_istore_n (i := 1) C0 dX3_firstFault_129 rfl (Nat.le_of_ble_eq_true rfl) rfl ?_
                          simp only [List.set_cons_zero, List.set_cons_succ]
                          refine ww_goto (tgt := 157) C0 dX3_firstFault_130 (by decide) ?_
                          refine ww_iinc (d := 1) C0 dX3_firstFault_157 rfl rfl rfl ?_
                          simp only [List.set_cons_zero, List.set_cons_succ]
                          refine ww_goto (tgt := 10) C0 dX3_firstFault_160 (by decide) ?_
                          exact ww_back (ih (mu + 1, ar + 0, (ft0 j)) ⟨by show mu + 1 ≤ 5; omega, by show ar + 0 ≤ 5; omega, by (rw [hI]; repeat' split) <;> first | rfl | contradiction | (exfalso; omega) | (exfalso; simp_all; done)⟩) ⟨Or.inr rfl, Or.inr (congrArg Value.int (nI_addE (a := mu) (b := 1) rfl rfl).symm), Or.inr (congrArg Value.int (nI_addE (a := ar) (b := 0) rfl rfl).symm), Or.inr rfl, Or.inr (congrArg Value.int (nI_addE rfl rfl).symm), Or.inl rfl, Or.inl rfl, Or.inl rfl, trivial⟩ rfl
                      · skip
                        replace h107 := (not_congr (nI_eqE (a := 0) (b := 0) rfl rfl (by omega) (by omega))).mp h107
                        exfalso; omega
                    · skip
                      replace h95 := (nI_eqE (a := 1) (b := 0) rfl rfl (by omega) (by omega)).mp h95
                      exfalso; omega
              · skip
                replace h67 := (nI_eqE (a := j) (b := 0) rfl rfl (by omega) (by omega)).mp h67
                refine ww_iload C0 dX3_firstFault_70 rfl ?_
                refine ww_bipush (v := (77)) C0 dX3_firstFault_72 rfl ?_
                refine ww_icmp_eq (tgt := 157) C0 dX3_firstFault_74 (by decide) (fun h74 => ?_) (fun h74 => ?_)
                · skip
                  refine ww_iinc (d := 1) C0 dX3_firstFault_157 rfl rfl rfl ?_
                  simp only [List.set_cons_zero, List.set_cons_succ]
                  refine ww_goto (tgt := 10) C0 dX3_firstFault_160 (by decide) ?_
                  exact ww_back (ih (mu, ar, ki) ⟨by show mu ≤ 5; omega, by show ar ≤ 5; omega, by (rw [hI]; repeat' split) <;> first | rfl | contradiction | (exfalso; omega) | (exfalso; simp_all; done)⟩) ⟨Or.inr rfl, Or.inr (congrArg Value.int rfl.symm), Or.inr (congrArg Value.int rfl.symm), Or.inr rfl, Or.inr (congrArg Value.int (nI_addE rfl rfl).symm), Or.inl rfl, Or.inl rfl, Or.inl rfl, trivial⟩ rfl
                · skip
                  refine ww_iload C0 dX3_firstFault_77 rfl ?_
                  exact ww_iret C0 hr dX3_firstFault_79 (by ((rw [hI]; repeat' split) <;> first | rfl | contradiction | (exfalso; omega) | (exfalso; simp_all; done))) (by rfl)
        · skip
          replace h36 := (not_congr (nI_leE (a := 5) (b := ar) rfl rfl (by omega) (by omega))).mp h36
          refine ww_iconst (v := (1)) C0 dX3_firstFault_39 rfl ?_
          refine ww_goto (tgt := 44) C0 dX3_firstFault_40 (by decide) ?_
          refine ww_istore (i := 6) C0 dX3_firstFault_44 (Nat.le_of_ble_eq_true rfl) rfl ?_
          simp only [List.set_cons_zero, List.set_cons_succ]
          refine ww_iload C0 dX3_firstFault_46 rfl ?_
          refine ww_bipush (v := (77)) C0 dX3_firstFault_48 rfl ?_
          refine ww_icmp_ne (tgt := 62) C0 dX3_firstFault_50 (by decide) (fun h50 => ?_) (fun h50 => ?_)
          · skip
            refine ww_iconst (v := (0)) C0 dX3_firstFault_62 rfl ?_
            refine ww_istore (i := 7) C0 dX3_firstFault_63 (Nat.le_of_ble_eq_true rfl) rfl ?_
            simp only [List.set_cons_zero, List.set_cons_succ]
            refine ww_iload C0 dX3_firstFault_65 rfl ?_
            refine ww_if_ne (tgt := 80) C0 dX3_firstFault_67 (by decide) (fun h67 => ?_) (fun h67 => ?_)
            · skip
              replace h67 := (not_congr (nI_eqE (a := j) (b := 0) rfl rfl (by omega) (by omega))).mp h67
              skip
              refine ww_iload C0 dX3_firstFault_80 rfl ?_
              refine ww_iconst (v := (4)) C0 dX3_firstFault_82 rfl ?_
              refine ww_irem C0 dX3_firstFault_83 (by decide) ?_
              refine ww_iconst (v := (1)) C0 dX3_firstFault_84 rfl ?_
              refine ww_icmp_ne (tgt := 133) C0 dX3_firstFault_85 (by decide) (fun h85 => ?_) (fun h85 => ?_)
              · skip
                replace h85 := (not_congr (nI_eqE (a := j % 4) (b := 1) (nI_remE (a := j) (b := 4) rfl rfl (by omega) (by omega) (by omega)) rfl (by omega) (by omega))).mp h85
                refine ww_iload C0 dX3_firstFault_133 rfl ?_
                refine ww_bipush (v := (48)) C0 dX3_firstFault_135 rfl ?_
                refine ww_icmp_lt (tgt := 154) C0 dX3_firstFault_137 (by decide) (fun h137 => ?_) (fun h137 => ?_)
                · skip
                  refine ww_iload C0 dX3_firstFault_154 rfl ?_
                  exact ww_iret C0 hr dX3_firstFault_156 (by ((rw [hI]; repeat' split) <;> first | rfl | contradiction | (exfalso; omega) | (exfalso; simp_all; done))) (by rfl)
                · skip
                  refine ww_iload C0 dX3_firstFault_140 rfl ?_
                  refine ww_bipush (v := (48)) C0 dX3_firstFault_142 rfl ?_
                  refine ww_iload C0 dX3_firstFault_144 rfl ?_
                  refine ww_iload_n C0 dX3_firstFault_146 rfl ?_
                  refine ww_callSi C0 (c_X3_figuresAt l D cI cZ cQ (by omega)) kd_X3_figuresAt kw_X3_23 ks_X3_figuresAt ki_X3 hd_X3_figuresAt ⟨Nat.le_of_ble_eq_true rfl, Nat.le_of_ble_eq_true rfl, rfl, rfl⟩ (Nat.le_of_ble_eq_true rfl) dX3_firstFault_147 rfl rfl ⟨Nat.zero_le _, Nat.zero_le _⟩ ?_
                  refine ww_iadd C0 dX3_firstFault_150 ?_
                  refine ww_icmp_lt (tgt := 157) C0 dX3_firstFault_151 (by decide) (fun h151 => ?_) (fun h151 => ?_)
                  · skip
                    refine ww_iinc (d := 1) C0 dX3_firstFault_157 rfl rfl rfl ?_
                    simp only [List.set_cons_zero, List.set_cons_succ]
                    refine ww_goto (tgt := 10) C0 dX3_firstFault_160 (by decide) ?_
                    exact ww_back (ih (mu, ar, ki) ⟨by show mu ≤ 5; omega, by show ar ≤ 5; omega, by (rw [hI]; repeat' split) <;> first | rfl | contradiction | (exfalso; omega) | (exfalso; simp_all; done)⟩) ⟨Or.inr rfl, Or.inr (congrArg Value.int rfl.symm), Or.inr (congrArg Value.int rfl.symm), Or.inr rfl, Or.inr (congrArg Value.int (nI_addE rfl rfl).symm), Or.inl rfl, Or.inl rfl, Or.inl rfl, trivial⟩ rfl
                  · skip
                    refine ww_iload C0 dX3_firstFault_154 rfl ?_
                    exact ww_iret C0 hr dX3_firstFault_156 (by ((rw [hI]; repeat' split) <;> first | rfl | contradiction | (exfalso; omega) | (exfalso; simp_all; done))) (by rfl)
              · skip
                replace h85 := (nI_eqE (a := j % 4) (b := 1) (nI_remE (a := j) (b := 4) rfl rfl (by omega) (by omega) (by omega)) rfl (by omega) (by omega)).mp h85
                refine ww_iload C0 dX3_firstFault_88 rfl ?_
                refine ww_if_ne (tgt := 101) C0 dX3_firstFault_90 (by decide) (fun h90 => ?_) (fun h90 => ?_)
                · skip
                  replace h90 := (not_congr (nI_eqE (a := 1) (b := 0) rfl rfl (by omega) (by omega))).mp h90
                  refine ww_iload C0 dX3_firstFault_101 rfl ?_
                  refine ww_istore_n (i := 3) C0 dX3_firstFault_103 rfl (Nat.le_of_ble_eq_true rfl) rfl ?_
                  simp only [List.set_cons_zero, List.set_cons_succ]
                  refine ww_iload_n C0 dX3_firstFault_104 rfl ?_
                  refine ww_iload C0 dX3_firstFault_105 rfl ?_
                  refine ww_if_eq (tgt := 114) C0 dX3_firstFault_107 (by decide) (fun h107 => ?_) (fun h107 => ?_)
                  · skip
                    replace h107 := (nI_eqE (a := 1) (b := 0) rfl rfl (by omega) (by omega)).mp h107
                    exfalso; omega
                  · skip
                    replace h107 := (not_congr (nI_eqE (a := 1) (b := 0) rfl rfl (by omega) (by omega))).mp h107
                    refine ww_iconst (v := (1)) C0 dX3_firstFault_110 rfl ?_
                    refine ww_goto (tgt := 115) C0 dX3_firstFault_111 (by decide) ?_
                    refine ww_iadd C0 dX3_firstFault_115 ?_
                    refine ww_istore_n (i := 2) C0 dX3_firstFault_116 rfl (Nat.le_of_ble_eq_true rfl) rfl ?_
                    simp only [List.set_cons_zero, List.set_cons_succ]
                    refine ww_iload_n C0 dX3_firstFault_117 rfl ?_
                    refine ww_iload C0 dX3_firstFault_118 rfl ?_
                    refine ww_if_eq (tgt := 127) C0 dX3_firstFault_120 (by decide) (fun h120 => ?_) (fun h120 => ?_)
                    · skip
                      replace h120 := (nI_eqE (a := 0) (b := 0) rfl rfl (by omega) (by omega)).mp h120
                      refine ww_iconst (v := (0)) C0 dX3_firstFault_127 rfl ?_
                      refine ww_iadd C0 dX3_firstFault_128 ?_
                      refine ww_istore_n (i := 1) C0 dX3_firstFault_129 rfl (Nat.le_of_ble_eq_true rfl) rfl ?_
                      simp only [List.set_cons_zero, List.set_cons_succ]
                      refine ww_goto (tgt := 157) C0 dX3_firstFault_130 (by decide) ?_
                      refine ww_iinc (d := 1) C0 dX3_firstFault_157 rfl rfl rfl ?_
                      simp only [List.set_cons_zero, List.set_cons_succ]
                      refine ww_goto (tgt := 10) C0 dX3_firstFault_160 (by decide) ?_
                      exact ww_back (ih (mu + 0, ar + 1, (ft0 j)) ⟨by show mu + 0 ≤ 5; omega, by show ar + 1 ≤ 5; omega, by (rw [hI]; repeat' split) <;> first | rfl | contradiction | (exfalso; omega) | (exfalso; simp_all; done)⟩) ⟨Or.inr rfl, Or.inr (congrArg Value.int (nI_addE (a := mu) (b := 0) rfl rfl).symm), Or.inr (congrArg Value.int (nI_addE (a := ar) (b := 1) rfl rfl).symm), Or.inr rfl, Or.inr (congrArg Value.int (nI_addE rfl rfl).symm), Or.inl rfl, Or.inl rfl, Or.inl rfl, trivial⟩ rfl
                    · skip
                      replace h120 := (not_congr (nI_eqE (a := 0) (b := 0) rfl rfl (by omega) (by omega))).mp h120
                      exfalso; omega
                · skip
                  replace h90 := (nI_eqE (a := 1) (b := 0) rfl rfl (by omega) (by omega)).mp h90
                  exfalso; omega
            · skip
              replace h67 := (nI_eqE (a := j) (b := 0) rfl rfl (by omega) (by omega)).mp h67
              refine ww_iload C0 dX3_firstFault_70 rfl ?_
              refine ww_bipush (v := (77)) C0 dX3_firstFault_72 rfl ?_
              refine ww_icmp_eq (tgt := 157) C0 dX3_firstFault_74 (by decide) (fun h74 => ?_) (fun h74 => ?_)
              · skip
                refine ww_iinc (d := 1) C0 dX3_firstFault_157 rfl rfl rfl ?_
                simp only [List.set_cons_zero, List.set_cons_succ]
                refine ww_goto (tgt := 10) C0 dX3_firstFault_160 (by decide) ?_
                exact ww_back (ih (mu, ar, ki) ⟨by show mu ≤ 5; omega, by show ar ≤ 5; omega, by (rw [hI]; repeat' split) <;> first | rfl | contradiction | (exfalso; omega) | (exfalso; simp_all; done)⟩) ⟨Or.inr rfl, Or.inr (congrArg Value.int rfl.symm), Or.inr (congrArg Value.int rfl.symm), Or.inr rfl, Or.inr (congrArg Value.int (nI_addE rfl rfl).symm), Or.inl rfl, Or.inl rfl, Or.inl rfl, trivial⟩ rfl
              · skip
                refine ww_iload C0 dX3_firstFault_77 rfl ?_
                exact ww_iret C0 hr dX3_firstFault_79 (by ((rw [hI]; repeat' split) <;> first | rfl | contradiction | (exfalso; omega) | (exfalso; simp_all; done))) (by rfl)
          · skip
            refine ww_iload_n C0 dX3_firstFault_53 rfl ?_
            refine ww_iconst (v := (5)) C0 dX3_firstFault_54 rfl ?_
            refine ww_icmp_ge (tgt := 62) C0 dX3_firstFault_55 (by decide) (fun h55 => ?_) (fun h55 => ?_)
            · skip
              replace h55 := (nI_leE (a := 5) (b := mu) rfl rfl (by omega) (by omega)).mp h55
              refine ww_iconst (v := (0)) C0 dX3_firstFault_62 rfl ?_
              refine ww_istore (i := 7) C0 dX3_firstFault_63 (Nat.le_of_ble_eq_true rfl) rfl ?_
              simp only [List.set_cons_zero, List.set_cons_succ]
              refine ww_iload C0 dX3_firstFault_65 rfl ?_
              refine ww_if_ne (tgt := 80) C0 dX3_firstFault_67 (by decide) (fun h67 => ?_) (fun h67 => ?_)
              · skip
                replace h67 := (not_congr (nI_eqE (a := j) (b := 0) rfl rfl (by omega) (by omega))).mp h67
                skip
                refine ww_iload C0 dX3_firstFault_80 rfl ?_
                refine ww_iconst (v := (4)) C0 dX3_firstFault_82 rfl ?_
                refine ww_irem C0 dX3_firstFault_83 (by decide) ?_
                refine ww_iconst (v := (1)) C0 dX3_firstFault_84 rfl ?_
                refine ww_icmp_ne (tgt := 133) C0 dX3_firstFault_85 (by decide) (fun h85 => ?_) (fun h85 => ?_)
                · skip
                  replace h85 := (not_congr (nI_eqE (a := j % 4) (b := 1) (nI_remE (a := j) (b := 4) rfl rfl (by omega) (by omega) (by omega)) rfl (by omega) (by omega))).mp h85
                  refine ww_iload C0 dX3_firstFault_133 rfl ?_
                  refine ww_bipush (v := (48)) C0 dX3_firstFault_135 rfl ?_
                  refine ww_icmp_lt (tgt := 154) C0 dX3_firstFault_137 (by decide) (fun h137 => ?_) (fun h137 => ?_)
                  · skip
                    refine ww_iload C0 dX3_firstFault_154 rfl ?_
                    exact ww_iret C0 hr dX3_firstFault_156 (by ((rw [hI]; repeat' split) <;> first | rfl | contradiction | (exfalso; omega) | (exfalso; simp_all; done))) (by rfl)
                  · skip
                    refine ww_iload C0 dX3_firstFault_140 rfl ?_
                    refine ww_bipush (v := (48)) C0 dX3_firstFault_142 rfl ?_
                    refine ww_iload C0 dX3_firstFault_144 rfl ?_
                    refine ww_iload_n C0 dX3_firstFault_146 rfl ?_
                    refine ww_callSi C0 (c_X3_figuresAt l D cI cZ cQ (by omega)) kd_X3_figuresAt kw_X3_23 ks_X3_figuresAt ki_X3 hd_X3_figuresAt ⟨Nat.le_of_ble_eq_true rfl, Nat.le_of_ble_eq_true rfl, rfl, rfl⟩ (Nat.le_of_ble_eq_true rfl) dX3_firstFault_147 rfl rfl ⟨Nat.zero_le _, Nat.zero_le _⟩ ?_
                    refine ww_iadd C0 dX3_firstFault_150 ?_
                    refine ww_icmp_lt (tgt := 157) C0 dX3_firstFault_151 (by decide) (fun h151 => ?_) (fun h151 => ?_)
                    · skip
                      refine ww_iinc (d := 1) C0 dX3_firstFault_157 rfl rfl rfl ?_
                      simp only [List.set_cons_zero, List.set_cons_succ]
                      refine ww_goto (tgt := 10) C0 dX3_firstFault_160 (by decide) ?_
                      exact ww_back (ih (mu, ar, ki) ⟨by show mu ≤ 5; omega, by show ar ≤ 5; omega, by (rw [hI]; repeat' split) <;> first | rfl | contradiction | (exfalso; omega) | (exfalso; simp_all; done)⟩) ⟨Or.inr rfl, Or.inr (congrArg Value.int rfl.symm), Or.inr (congrArg Value.int rfl.symm), Or.inr rfl, Or.inr (congrArg Value.int (nI_addE rfl rfl).symm), Or.inl rfl, Or.inl rfl, Or.inl rfl, trivial⟩ rfl
                    · skip
                      refine ww_iload C0 dX3_firstFault_154 rfl ?_
                      exact ww_iret C0 hr dX3_firstFault_156 (by ((rw [hI]; repeat' split) <;> first | rfl | contradiction | (exfalso; omega) | (exfalso; simp_all; done))) (by rfl)
                · skip
                  replace h85 := (nI_eqE (a := j % 4) (b := 1) (nI_remE (a := j) (b := 4) rfl rfl (by omega) (by omega) (by omega)) rfl (by omega) (by omega)).mp h85
                  refine ww_iload C0 dX3_firstFault_88 rfl ?_
                  refine ww_if_ne (tgt := 101) C0 dX3_firstFault_90 (by decide) (fun h90 => ?_) (fun h90 => ?_)
                  · skip
                    replace h90 := (not_congr (nI_eqE (a := 1) (b := 0) rfl rfl (by omega) (by omega))).mp h90
                    refine ww_iload C0 dX3_firstFault_101 rfl ?_
                    refine ww_istore_n (i := 3) C0 dX3_firstFault_103 rfl (Nat.le_of_ble_eq_true rfl) rfl ?_
                    simp only [List.set_cons_zero, List.set_cons_succ]
                    refine ww_iload_n C0 dX3_firstFault_104 rfl ?_
                    refine ww_iload C0 dX3_firstFault_105 rfl ?_
                    refine ww_if_eq (tgt := 114) C0 dX3_firstFault_107 (by decide) (fun h107 => ?_) (fun h107 => ?_)
                    · skip
                      replace h107 := (nI_eqE (a := 1) (b := 0) rfl rfl (by omega) (by omega)).mp h107
                      exfalso; omega
                    · skip
                      replace h107 := (not_congr (nI_eqE (a := 1) (b := 0) rfl rfl (by omega) (by omega))).mp h107
                      refine ww_iconst (v := (1)) C0 dX3_firstFault_110 rfl ?_
                      refine ww_goto (tgt := 115) C0 dX3_firstFault_111 (by decide) ?_
                      refine ww_iadd C0 dX3_firstFault_115 ?_
                      refine ww_istore_n (i := 2) C0 dX3_firstFault_116 rfl (Nat.le_of_ble_eq_true rfl) rfl ?_
                      simp only [List.set_cons_zero, List.set_cons_succ]
                      refine ww_iload_n C0 dX3_firstFault_117 rfl ?_
                      refine ww_iload C0 dX3_firstFault_118 rfl ?_
                      refine ww_if_eq (tgt := 127) C0 dX3_firstFault_120 (by decide) (fun h120 => ?_) (fun h120 => ?_)
                      · skip
                        replace h120 := (nI_eqE (a := 0) (b := 0) rfl rfl (by omega) (by omega)).mp h120
                        refine ww_iconst (v := (0)) C0 dX3_firstFault_127 rfl ?_
                        refine ww_iadd C0 dX3_firstFault_128 ?_
                        refine ww_istore_n (i := 1) C0 dX3_firstFault_129 rfl (Nat.le_of_ble_eq_true rfl) rfl ?_
                        simp only [List.set_cons_zero, List.set_cons_succ]
                        refine ww_goto (tgt := 157) C0 dX3_firstFault_130 (by decide) ?_
                        refine ww_iinc (d := 1) C0 dX3_firstFault_157 rfl rfl rfl ?_
                        simp only [List.set_cons_zero, List.set_cons_succ]
                        refine ww_goto (tgt := 10) C0 dX3_firstFault_160 (by decide) ?_
                        exact ww_back (ih (mu + 0, ar + 1, (ft0 j)) ⟨by show mu + 0 ≤ 5; omega, by show ar + 1 ≤ 5; omega, by (rw [hI]; repeat' split) <;> first | rfl | contradiction | (exfalso; omega) | (exfalso; simp_all; done)⟩) ⟨Or.inr rfl, Or.inr (congrArg Value.int (nI_addE (a := mu) (b := 0) rfl rfl).symm), Or.inr (congrArg Value.int (nI_addE (a := ar) (b := 1) rfl rfl).symm), Or.inr rfl, Or.inr (congrArg Value.int (nI_addE rfl rfl).symm), Or.inl rfl, Or.inl rfl, Or.inl rfl, trivial⟩ rfl
                      · skip
                        replace h120 := (not_congr (nI_eqE (a := 0) (b := 0) rfl rfl (by omega) (by omega))).mp h120
                        exfalso; omega
                  · skip
                    replace h90 := (nI_eqE (a := 1) (b := 0) rfl rfl (by omega) (by omega)).mp h90
                    exfalso; omega
              · skip
                replace h67 := (nI_eqE (a := j) (b := 0) rfl rfl (by omega) (by omega)).mp h67
                refine ww_iload C0 dX3_firstFault_70 rfl ?_
                refine ww_bipush (v := (77)) C0 dX3_firstFault_72 rfl ?_
                refine ww_icmp_eq (tgt := 157) C0 dX3_firstFault_74 (by decide) (fun h74 => ?_) (fun h74 => ?_)
                · skip
                  refine ww_iinc (d := 1) C0 dX3_firstFault_157 rfl rfl rfl ?_
                  simp only [List.set_cons_zero, List.set_cons_succ]
                  refine ww_goto (tgt := 10) C0 dX3_firstFault_160 (by decide) ?_
                  exact ww_back (ih (mu, ar, ki) ⟨by show mu ≤ 5; omega, by show ar ≤ 5; omega, by (rw [hI]; repeat' split) <;> first | rfl | contradiction | (exfalso; omega) | (exfalso; simp_all; done)⟩) ⟨Or.inr rfl, Or.inr (congrArg Value.int rfl.symm), Or.inr (congrArg Value.int rfl.symm), Or.inr rfl, Or.inr (congrArg Value.int (nI_addE rfl rfl).symm), Or.inl rfl, Or.inl rfl, Or.inl rfl, trivial⟩ rfl
                · skip
                  refine ww_iload C0 dX3_firstFault_77 rfl ?_
                  exact ww_iret C0 hr dX3_firstFault_79 (by ((rw [hI]; repeat' split) <;> first | rfl | contradiction | (exfalso; omega) | (exfalso; simp_all; done))) (by rfl)
            · skip
              replace h55 := (not_congr (nI_leE (a := 5) (b := mu) rfl rfl (by omega) (by omega))).mp h55
              refine ww_iconst (v := (1)) C0 dX3_firstFault_58 rfl ?_
              refine ww_goto (tgt := 63) C0 dX3_firstFault_59 (by decide) ?_
              refine ww_istore (i := 7) C0 dX3_firstFault_63 (Nat.le_of_ble_eq_true rfl) rfl ?_
              simp only [List.set_cons_zero, List.set_cons_succ]
              refine ww_iload C0 dX3_firstFault_65 rfl ?_
              refine ww_if_ne (tgt := 80) C0 dX3_firstFault_67 (by decide) (fun h67 => ?_) (fun h67 => ?_)
              · skip
                replace h67 := (not_congr (nI_eqE (a := j) (b := 0) rfl rfl (by omega) (by omega))).mp h67
                skip
                refine ww_iload C0 dX3_firstFault_80 rfl ?_
                refine ww_iconst (v := (4)) C0 dX3_firstFault_82 rfl ?_
                refine ww_irem C0 dX3_firstFault_83 (by decide) ?_
                refine ww_iconst (v := (1)) C0 dX3_firstFault_84 rfl ?_
                refine ww_icmp_ne (tgt := 133) C0 dX3_firstFault_85 (by decide) (fun h85 => ?_) (fun h85 => ?_)
                · skip
                  replace h85 := (not_congr (nI_eqE (a := j % 4) (b := 1) (nI_remE (a := j) (b := 4) rfl rfl (by omega) (by omega) (by omega)) rfl (by omega) (by omega))).mp h85
                  refine ww_iload C0 dX3_firstFault_133 rfl ?_
                  refine ww_bipush (v := (48)) C0 dX3_firstFault_135 rfl ?_
                  refine ww_icmp_lt (tgt := 154) C0 dX3_firstFault_137 (by decide) (fun h137 => ?_) (fun h137 => ?_)
                  · skip
                    refine ww_iload C0 dX3_firstFault_154 rfl ?_
                    exact ww_iret C0 hr dX3_firstFault_156 (by ((rw [hI]; repeat' split) <;> first | rfl | contradiction | (exfalso; omega) | (exfalso; simp_all; done))) (by rfl)
                  · skip
                    refine ww_iload C0 dX3_firstFault_140 rfl ?_
                    refine ww_bipush (v := (48)) C0 dX3_firstFault_142 rfl ?_
                    refine ww_iload C0 dX3_firstFault_144 rfl ?_
                    refine ww_iload_n C0 dX3_firstFault_146 rfl ?_
                    refine ww_callSi C0 (c_X3_figuresAt l D cI cZ cQ (by omega)) kd_X3_figuresAt kw_X3_23 ks_X3_figuresAt ki_X3 hd_X3_figuresAt ⟨Nat.le_of_ble_eq_true rfl, Nat.le_of_ble_eq_true rfl, rfl, rfl⟩ (Nat.le_of_ble_eq_true rfl) dX3_firstFault_147 rfl rfl ⟨Nat.zero_le _, Nat.zero_le _⟩ ?_
                    refine ww_iadd C0 dX3_firstFault_150 ?_
                    refine ww_icmp_lt (tgt := 157) C0 dX3_firstFault_151 (by decide) (fun h151 => ?_) (fun h151 => ?_)
                    · skip
                      refine ww_iinc (d := 1) C0 dX3_firstFault_157 rfl rfl rfl ?_
                      simp only [List.set_cons_zero, List.set_cons_succ]
                      refine ww_goto (tgt := 10) C0 dX3_firstFault_160 (by decide) ?_
                      exact ww_back (ih (mu, ar, ki) ⟨by show mu ≤ 5; omega, by show ar ≤ 5; omega, by (rw [hI]; repeat' split) <;> first | rfl | contradiction | (exfalso; omega) | (exfalso; simp_all; done)⟩) ⟨Or.inr rfl, Or.inr (congrArg Value.int rfl.symm), Or.inr (congrArg Value.int rfl.symm), Or.inr rfl, Or.inr (congrArg Value.int (nI_addE rfl rfl).symm), Or.inl rfl, Or.inl rfl, Or.inl rfl, trivial⟩ rfl
                    · skip
                      refine ww_iload C0 dX3_firstFault_154 rfl ?_
                      exact ww_iret C0 hr dX3_firstFault_156 (by ((rw [hI]; repeat' split) <;> first | rfl | contradiction | (exfalso; omega) | (exfalso; simp_all; done))) (by rfl)
                · skip
                  replace h85 := (nI_eqE (a := j % 4) (b := 1) (nI_remE (a := j) (b := 4) rfl rfl (by omega) (by omega) (by omega)) rfl (by omega) (by omega)).mp h85
                  refine ww_iload C0 dX3_firstFault_88 rfl ?_
                  refine ww_if_ne (tgt := 101) C0 dX3_firstFault_90 (by decide) (fun h90 => ?_) (fun h90 => ?_)
                  · skip
                    replace h90 := (not_congr (nI_eqE (a := 1) (b := 0) rfl rfl (by omega) (by omega))).mp h90
                    refine ww_iload C0 dX3_firstFault_101 rfl ?_
                    refine ww_istore_n (i := 3) C0 dX3_firstFault_103 rfl (Nat.le_of_ble_eq_true rfl) rfl ?_
                    simp only [List.set_cons_zero, List.set_cons_succ]
                    refine ww_iload_n C0 dX3_firstFault_104 rfl ?_
                    refine ww_iload C0 dX3_firstFault_105 rfl ?_
                    refine ww_if_eq (tgt := 114) C0 dX3_firstFault_107 (by decide) (fun h107 => ?_) (fun h107 => ?_)
                    · skip
                      replace h107 := (nI_eqE (a := 1) (b := 0) rfl rfl (by omega) (by omega)).mp h107
                      exfalso; omega
                    · skip
                      replace h107 := (not_congr (nI_eqE (a := 1) (b := 0) rfl rfl (by omega) (by omega))).mp h107
                      refine ww_iconst (v := (1)) C0 dX3_firstFault_110 rfl ?_
                      refine ww_goto (tgt := 115) C0 dX3_firstFault_111 (by decide) ?_
                      refine ww_iadd C0 dX3_firstFault_115 ?_
                      refine ww_istore_n (i := 2) C0 dX3_firstFault_116 rfl (Nat.le_of_ble_eq_true rfl) rfl ?_
                      simp only [List.set_cons_zero, List.set_cons_succ]
                      refine ww_iload_n C0 dX3_firstFault_117 rfl ?_
                      refine ww_iload C0 dX3_firstFault_118 rfl ?_
                      refine ww_if_eq (tgt := 127) C0 dX3_firstFault_120 (by decide) (fun h120 => ?_) (fun h120 => ?_)
                      · skip
                        replace h120 := (nI_eqE (a := 1) (b := 0) rfl rfl (by omega) (by omega)).mp h120
                        exfalso; omega
                      · skip
                        replace h120 := (not_congr (nI_eqE (a := 1) (b := 0) rfl rfl (by omega) (by omega))).mp h120
                        refine ww_iconst (v := (1)) C0 dX3_firstFault_123 rfl ?_
                        refine ww_goto (tgt := 128) C0 dX3_firstFault_124 (by decide) ?_
                        refine ww_iadd C0 dX3_firstFault_128 ?_
                        refine ww_istore_n (i := 1) C0 dX3_firstFault_129 rfl (Nat.le_of_ble_eq_true rfl) rfl ?_
                        simp only [List.set_cons_zero, List.set_cons_succ]
                        refine ww_goto (tgt := 157) C0 dX3_firstFault_130 (by decide) ?_
                        refine ww_iinc (d := 1) C0 dX3_firstFault_157 rfl rfl rfl ?_
                        simp only [List.set_cons_zero, List.set_cons_succ]
                        refine ww_goto (tgt := 10) C0 dX3_firstFault_160 (by decide) ?_
                        exact ww_back (ih (mu + 1, ar + 1, (ft0 j)) ⟨by show mu + 1 ≤ 5; omega, by show ar + 1 ≤ 5; omega, by (rw [hI]; repeat' split) <;> first | rfl | contradiction | (exfalso; omega) | (exfalso; simp_all; done)⟩) ⟨Or.inr rfl, Or.inr (congrArg Value.int (nI_addE (a := mu) (b := 1) rfl rfl).symm), Or.inr (congrArg Value.int (nI_addE (a := ar) (b := 1) rfl rfl).symm), Or.inr rfl, Or.inr (congrArg Value.int (nI_addE rfl rfl).symm), Or.inl rfl, Or.inl rfl, Or.inl rfl, trivial⟩ rfl
                  · skip
                    replace h90 := (nI_eqE (a := 1) (b := 0) rfl rfl (by omega) (by omega)).mp h90
                    exfalso; omega
              · skip
                replace h67 := (nI_eqE (a := j) (b := 0) rfl rfl (by omega) (by omega)).mp h67
                refine ww_iload C0 dX3_firstFault_70 rfl ?_
                refine ww_bipush (v := (77)) C0 dX3_firstFault_72 rfl ?_
                refine ww_icmp_eq (tgt := 157) C0 dX3_firstFault_74 (by decide) (fun h74 => ?_) (fun h74 => ?_)
                · skip
                  refine ww_iinc (d := 1) C0 dX3_firstFault_157 rfl rfl rfl ?_
                  simp only [List.set_cons_zero, List.set_cons_succ]
                  refine ww_goto (tgt := 10) C0 dX3_firstFault_160 (by decide) ?_
                  exact ww_back (ih (mu, ar, ki) ⟨by show mu ≤ 5; omega, by show ar ≤ 5; omega, by (rw [hI]; repeat' split) <;> first | rfl | contradiction | (exfalso; omega) | (exfalso; simp_all; done)⟩) ⟨Or.inr rfl, Or.inr (congrArg Value.int rfl.symm), Or.inr (congrArg Value.int rfl.symm), Or.inr rfl, Or.inr (congrArg Value.int (nI_addE rfl rfl).symm), Or.inl rfl, Or.inl rfl, Or.inl rfl, trivial⟩ rfl
                · skip
                  refine ww_iload C0 dX3_firstFault_77 rfl ?_
                  exact ww_iret C0 hr dX3_firstFault_79 (by ((rw [hI]; repeat' split) <;> first | rfl | contradiction | (exfalso; omega) | (exfalso; simp_all; done))) (by rfl)
  · skip
    rintro ⟨mu, ar, ki⟩ ⟨hm, har, hI⟩
    simp only [Nat.sub_self] at hm har hI ⊢
    rw [sFault_0] at hI
    refine ww_iload C0 dX3_firstFault_10 rfl ?_
    refine ww_aload_n C0 dX3_firstFault_12 rfl ?_
    refine ww_get C0 (ci := 3) (C := RX3) (T := TX3) (N := 2) ku_X3 0 rfl rfl 1 (by decide) kw_X3_15 rfl dX3_firstFault_13 ?_
    refine ww_icmp_ge (tgt := 163) C0 dX3_firstFault_16 (by decide) (fun h16 => ?_) (fun h16 => ?_)
    · skip
      replace h16 := (nI_leE (a := tn) (b := tn) rfl rfl (by omega) (by omega)).mp h16
      refine ww_aload_n C0 dX3_firstFault_163 rfl ?_
      refine ww_get C0 (ci := 3) (C := RX3) (T := TX3) (N := 2) ku_X3 0 rfl rfl 1 (by decide) kw_X3_15 rfl dX3_firstFault_164 ?_
      refine ww_iconst (v := (4)) C0 dX3_firstFault_167 rfl ?_
      refine ww_irem C0 dX3_firstFault_168 (by decide) ?_
      refine ww_iconst (v := (1)) C0 dX3_firstFault_169 rfl ?_
      refine ww_icmp_ne (tgt := 178) C0 dX3_firstFault_170 (by decide) (fun h170 => ?_) (fun h170 => ?_)
      · skip
        replace h170 := (not_congr (nI_eqE (a := tn % 4) (b := 1) (nI_remE (a := tn) (b := 4) rfl rfl (by omega) (by omega) (by omega)) rfl (by omega) (by omega))).mp h170
        refine ww_aload_n C0 dX3_firstFault_178 rfl ?_
        refine ww_get C0 (ci := 3) (C := RX3) (T := TX3) (N := 2) ku_X3 0 rfl rfl 1 (by decide) kw_X3_15 rfl dX3_firstFault_179 ?_
        exact ww_iret C0 hr dX3_firstFault_182 (by (rw [hI]; simp [*])) (by rfl)
      · skip
        replace h170 := (nI_eqE (a := tn % 4) (b := 1) (nI_remE (a := tn) (b := 4) rfl rfl (by omega) (by omega) (by omega)) rfl (by omega) (by omega)).mp h170
        refine ww_bipush (v := (-9)) C0 dX3_firstFault_173 rfl ?_
        refine ww_goto (tgt := 182) C0 dX3_firstFault_175 (by decide) ?_
        exact ww_iret C0 hr dX3_firstFault_182 (by (rw [hI]; simp [*])) (by rfl)
    · skip
      replace h16 := (not_congr (nI_leE (a := tn) (b := tn) rfl rfl (by omega) (by omega))).mp h16
      exfalso; omega

set_option maxHeartbeats 4000000 in
set_option maxRecDepth 100000 in
theorem c_X1_add (l : Launch) (D : va_G) (cI cZ cQ : ClassId) {aG ag0 ag1 ag2 ag3 ag4 : Nat} {gn : Nat} {fg0 fg1 fg2 fg3 fg4 : Nat → Int32} {rest : va_W} {x0 x1 x2 x3 x4 : Int32} (hg : gn < 6) : MI l D [(cI, .int), (cZ, .boolean), (cQ, .object "MulesRemember$State")] yX1_add cX1_add 6 .boolean ({ frames := 0, cells := 0, slots := 0, locals := 0 } : Room) [.ref aG, .int x0, .int x1, .int x2, .int x3, .int x4] ((aG, .inr (1, [.ref ag0, .ref ag1, .ref ag2, .ref ag3, .ref ag4, .int (nI gn)])) :: (ag0, .inl (cI, 6, .inl (fg0))) :: (ag1, .inl (cI, 6, .inl (fg1))) :: (ag2, .inl (cI, 6, .inl (fg2))) :: (ag3, .inl (cI, 6, .inl (fg3))) :: (ag4, .inl (cI, 6, .inl (fg4))) :: rest) (bI true) ((aG, .inr (1, [.ref ag0, .ref ag1, .ref ag2, .ref ag3, .ref ag4, .int (nI (gn + 1))])) :: (ag0, .inl (cI, 6, .inl (upd fg0 gn x0))) :: (ag1, .inl (cI, 6, .inl (upd fg1 gn x1))) :: (ag2, .inl (cI, 6, .inl (upd fg2 gn x2))) :: (ag3, .inl (cI, 6, .inl (upd fg3 gn x3))) :: (ag4, .inl (cI, 6, .inl (upd fg4 gn x4))) :: rest) := by
  refine MI.of [.ref aG, .int x0, .int x1, .int x2, .int x3, .int x4] (by decide) (Nat.le_of_ble_eq_true rfl) rfl ?_
  intro p e s m below meth c A C0 hr
  refine ww_aload_n C0 dX1_add_0 rfl ?_
  refine ww_get C0 (ci := 1) (C := RX1) (T := TX1) (N := 6) ku_X1 0 rfl rfl 5 (by decide) kw_X1_27 rfl dX1_add_1 ?_
  refine ww_if_lt (tgt := 16) C0 dX1_add_4 (by decide) (fun h4 => ?_) (fun h4 => ?_)
  · skip
    replace h4 := (nI_ltE (a := gn) (b := 0) rfl rfl (by omega) (by omega)).mp h4
    exfalso; omega
  · skip
    replace h4 := (not_congr (nI_ltE (a := gn) (b := 0) rfl rfl (by omega) (by omega))).mp h4
    refine ww_aload_n C0 dX1_add_7 rfl ?_
    refine ww_get C0 (ci := 1) (C := RX1) (T := TX1) (N := 6) ku_X1 0 rfl rfl 5 (by decide) kw_X1_27 rfl dX1_add_8 ?_
    refine ww_bipush (v := (6)) C0 dX1_add_11 rfl ?_
    refine ww_icmp_lt (tgt := 18) C0 dX1_add_13 (by decide) (fun h13 => ?_) (fun h13 => ?_)
    · skip
      replace h13 := (nI_ltE (a := gn) (b := 6) rfl rfl (by omega) (by omega)).mp h13
      refine ww_aload_n C0 dX1_add_18 rfl ?_
      refine ww_get C0 (ci := 1) (C := RX1) (T := TX1) (N := 6) ku_X1 0 rfl rfl 0 (by decide) kw_X1_9 rfl dX1_add_19 ?_
      refine ww_aload_n C0 dX1_add_22 rfl ?_
      refine ww_get C0 (ci := 1) (C := RX1) (T := TX1) (N := 6) ku_X1 0 rfl rfl 5 (by decide) kw_X1_27 rfl dX1_add_23 ?_
      refine ww_iload_n C0 dX1_add_26 rfl ?_
      refine ww_iast_n (j := gn) C0 1 0 rfl rfl rfl (by omega) (by decide) dX1_add_27 ?_
      simp only [List.set_cons_zero, List.set_cons_succ]
      refine ww_aload_n C0 dX1_add_28 rfl ?_
      refine ww_get C0 (ci := 1) (C := RX1) (T := TX1) (N := 6) ku_X1 0 rfl rfl 1 (by decide) kw_X1_15 rfl dX1_add_29 ?_
      refine ww_aload_n C0 dX1_add_32 rfl ?_
      refine ww_get C0 (ci := 1) (C := RX1) (T := TX1) (N := 6) ku_X1 0 rfl rfl 5 (by decide) kw_X1_27 rfl dX1_add_33 ?_
      refine ww_iload_n C0 dX1_add_36 rfl ?_
      refine ww_iast_n (j := gn) C0 2 0 rfl rfl rfl (by omega) (by decide) dX1_add_37 ?_
      simp only [List.set_cons_zero, List.set_cons_succ]
      refine ww_aload_n C0 dX1_add_38 rfl ?_
      refine ww_get C0 (ci := 1) (C := RX1) (T := TX1) (N := 6) ku_X1 0 rfl rfl 2 (by decide) kw_X1_18 rfl dX1_add_39 ?_
      refine ww_aload_n C0 dX1_add_42 rfl ?_
      refine ww_get C0 (ci := 1) (C := RX1) (T := TX1) (N := 6) ku_X1 0 rfl rfl 5 (by decide) kw_X1_27 rfl dX1_add_43 ?_
      refine ww_iload_n C0 dX1_add_46 rfl ?_
      refine ww_iast_n (j := gn) C0 3 0 rfl rfl rfl (by omega) (by decide) dX1_add_47 ?_
      simp only [List.set_cons_zero, List.set_cons_succ]
      refine ww_aload_n C0 dX1_add_48 rfl ?_
      refine ww_get C0 (ci := 1) (C := RX1) (T := TX1) (N := 6) ku_X1 0 rfl rfl 3 (by decide) kw_X1_21 rfl dX1_add_49 ?_
      refine ww_aload_n C0 dX1_add_52 rfl ?_
      refine ww_get C0 (ci := 1) (C := RX1) (T := TX1) (N := 6) ku_X1 0 rfl rfl 5 (by decide) kw_X1_27 rfl dX1_add_53 ?_
      refine ww_iload C0 dX1_add_56 rfl ?_
      refine ww_iast_n (j := gn) C0 4 0 rfl rfl rfl (by omega) (by decide) dX1_add_58 ?_
      simp only [List.set_cons_zero, List.set_cons_succ]
      refine ww_aload_n C0 dX1_add_59 rfl ?_
      refine ww_get C0 (ci := 1) (C := RX1) (T := TX1) (N := 6) ku_X1 0 rfl rfl 4 (by decide) kw_X1_24 rfl dX1_add_60 ?_
      refine ww_aload_n C0 dX1_add_63 rfl ?_
      refine ww_get C0 (ci := 1) (C := RX1) (T := TX1) (N := 6) ku_X1 0 rfl rfl 5 (by decide) kw_X1_27 rfl dX1_add_64 ?_
      refine ww_iload C0 dX1_add_67 rfl ?_
      refine ww_iast_n (j := gn) C0 5 0 rfl rfl rfl (by omega) (by decide) dX1_add_69 ?_
      simp only [List.set_cons_zero, List.set_cons_succ]
      refine ww_aload_n C0 dX1_add_70 rfl ?_
      refine ww_dup C0 dX1_add_71 rfl ?_
      refine ww_get C0 (ci := 1) (C := RX1) (T := TX1) (N := 6) ku_X1 0 rfl rfl 5 (by decide) kw_X1_27 rfl dX1_add_72 ?_
      refine ww_iconst (v := (1)) C0 dX1_add_75 rfl ?_
      refine ww_iadd C0 dX1_add_76 ?_
      refine ww_put C0 (ci := 1) (C := RX1) (T := TX1) (N := 6) ku_X1 0 rfl rfl 5 (by decide) tyX1 tyX1_ok nmX1 kw_X1_27 rfl (ty := .int) (by decide +kernel) rfl rfl (Nat.le_of_ble_eq_true rfl) dX1_add_77 ?_
      simp only [List.set_cons_zero, List.set_cons_succ]
      refine ww_iconst (v := (1)) C0 dX1_add_80 rfl ?_
      exact ww_zret C0 hr dX1_add_81 (by rfl) (by simp only [nI_1])
    · skip
      replace h13 := (not_congr (nI_ltE (a := gn) (b := 6) rfl rfl (by omega) (by omega))).mp h13
      exfalso; omega

set_option maxHeartbeats 4000000 in
set_option maxRecDepth 100000 in
theorem c_X1_add_f (l : Launch) (D : va_G) (cI cZ cQ : ClassId) {aG ag0 ag1 ag2 ag3 ag4 : Nat} {gn : Nat} {fg0 fg1 fg2 fg3 fg4 : Nat → Int32} {rest : va_W} {x0 x1 x2 x3 x4 : Int32} (hg : gn = 6) : MI l D [(cI, .int), (cZ, .boolean), (cQ, .object "MulesRemember$State")] yX1_add cX1_add 6 .boolean ({ frames := 0, cells := 0, slots := 0, locals := 0 } : Room) [.ref aG, .int x0, .int x1, .int x2, .int x3, .int x4] ((aG, .inr (1, [.ref ag0, .ref ag1, .ref ag2, .ref ag3, .ref ag4, .int (nI gn)])) :: (ag0, .inl (cI, 6, .inl (fg0))) :: (ag1, .inl (cI, 6, .inl (fg1))) :: (ag2, .inl (cI, 6, .inl (fg2))) :: (ag3, .inl (cI, 6, .inl (fg3))) :: (ag4, .inl (cI, 6, .inl (fg4))) :: rest) (bI false) ((aG, .inr (1, [.ref ag0, .ref ag1, .ref ag2, .ref ag3, .ref ag4, .int (nI gn)])) :: (ag0, .inl (cI, 6, .inl (fg0))) :: (ag1, .inl (cI, 6, .inl (fg1))) :: (ag2, .inl (cI, 6, .inl (fg2))) :: (ag3, .inl (cI, 6, .inl (fg3))) :: (ag4, .inl (cI, 6, .inl (fg4))) :: rest) := by
  refine MI.of [.ref aG, .int x0, .int x1, .int x2, .int x3, .int x4] (by decide) (Nat.le_of_ble_eq_true rfl) rfl ?_
  intro p e s m below meth c A C0 hr
  refine ww_aload_n C0 dX1_add_0 rfl ?_
  refine ww_get C0 (ci := 1) (C := RX1) (T := TX1) (N := 6) ku_X1 0 rfl rfl 5 (by decide) kw_X1_27 rfl dX1_add_1 ?_
  refine ww_if_lt (tgt := 16) C0 dX1_add_4 (by decide) (fun h4 => ?_) (fun h4 => ?_)
  · skip
    replace h4 := (nI_ltE (a := gn) (b := 0) rfl rfl (by omega) (by omega)).mp h4
    exfalso; omega
  · skip
    replace h4 := (not_congr (nI_ltE (a := gn) (b := 0) rfl rfl (by omega) (by omega))).mp h4
    refine ww_aload_n C0 dX1_add_7 rfl ?_
    refine ww_get C0 (ci := 1) (C := RX1) (T := TX1) (N := 6) ku_X1 0 rfl rfl 5 (by decide) kw_X1_27 rfl dX1_add_8 ?_
    refine ww_bipush (v := (6)) C0 dX1_add_11 rfl ?_
    refine ww_icmp_lt (tgt := 18) C0 dX1_add_13 (by decide) (fun h13 => ?_) (fun h13 => ?_)
    · skip
      replace h13 := (nI_ltE (a := gn) (b := 6) rfl rfl (by omega) (by omega)).mp h13
      exfalso; omega
    · skip
      replace h13 := (not_congr (nI_ltE (a := gn) (b := 6) rfl rfl (by omega) (by omega))).mp h13
      refine ww_iconst (v := (0)) C0 dX1_add_16 rfl ?_
      exact ww_zret C0 hr dX1_add_17 (by rfl) (by rfl)

set_option maxHeartbeats 4000000 in
set_option maxRecDepth 100000 in
theorem c_X1_agreeWith (l : Launch) (D : va_G) (cI cZ cQ : ClassId) {aG ag0 ag1 ag2 ag3 ag4 : Nat} {gn : Nat} {fg0 fg1 fg2 fg3 fg4 : Nat → Int32} {rest : va_W} {sn so va : Int32} (hg : gn ≤ 6) : MI l D [(cI, .int), (cZ, .boolean), (cQ, .object "MulesRemember$State")] yX1_agreeWith cX1_agreeWith 6 .boolean ({ frames := 1, cells := 0, slots := 0, locals := 24 } : Room) [.ref aG, .int sn, .int so, .int va] ((aG, .inr (1, [.ref ag0, .ref ag1, .ref ag2, .ref ag3, .ref ag4, .int (nI gn)])) :: (ag0, .inl (cI, 6, .inl (fg0))) :: (ag1, .inl (cI, 6, .inl (fg1))) :: (ag2, .inl (cI, 6, .inl (fg2))) :: (ag3, .inl (cI, 6, .inl (fg3))) :: (ag4, .inl (cI, 6, .inl (fg4))) :: rest) (bI (allB (sAg fg0 fg1 fg2 fg3 fg4 sn so va) gn)) ((aG, .inr (1, [.ref ag0, .ref ag1, .ref ag2, .ref ag3, .ref ag4, .int (nI gn)])) :: (ag0, .inl (cI, 6, .inl (fg0))) :: (ag1, .inl (cI, 6, .inl (fg1))) :: (ag2, .inl (cI, 6, .inl (fg2))) :: (ag3, .inl (cI, 6, .inl (fg3))) :: (ag4, .inl (cI, 6, .inl (fg4))) :: rest) := by
  refine MI.of [.ref aG, .int sn, .int so, .int va, .null, .null] (by decide) (Nat.le_of_ble_eq_true rfl) rfl ?_
  intro p e s m below meth c A C0 hr
  refine ww_iconst (v := (0)) C0 dX1_agreeWith_0 rfl ?_
  refine ww_istore (i := 4) C0 dX1_agreeWith_1 (Nat.le_of_ble_eq_true rfl) rfl ?_
  simp only [List.set_cons_zero, List.set_cons_succ]
  refine ww_back (ww_loopI (σ := Unit) (pc := 3) 0 gn (by omega) (fun j _ => allB (sAg fg0 fg1 fg2 fg3 fg4 sn so va) j = true) (fun j _ => [_, _, _, _, .int (nI j), .null]) (fun _ _ => _) () rfl ?_ ?_) ⟨Or.inr rfl, Or.inr rfl, Or.inr rfl, Or.inr rfl, Or.inr rfl, Or.inl rfl, trivial⟩ rfl
  · skip
    rintro j ⟨⟩ hj0 hj hI ih
    refine ww_iload C0 dX1_agreeWith_3 rfl ?_
    refine ww_aload_n C0 dX1_agreeWith_5 rfl ?_
    refine ww_get C0 (ci := 1) (C := RX1) (T := TX1) (N := 6) ku_X1 0 rfl rfl 5 (by decide) kw_X1_27 rfl dX1_agreeWith_6 ?_
    refine ww_icmp_ge (tgt := 87) C0 dX1_agreeWith_9 (by decide) (fun h9 => ?_) (fun h9 => ?_)
    · skip
      replace h9 := (nI_leE (a := gn) (b := j) rfl rfl (by omega) (by omega)).mp h9
      exfalso; omega
    · skip
      replace h9 := (not_congr (nI_leE (a := gn) (b := j) rfl rfl (by omega) (by omega))).mp h9
      refine ww_iload C0 dX1_agreeWith_12 rfl ?_
      refine ww_bipush (v := (6)) C0 dX1_agreeWith_14 rfl ?_
      refine ww_icmp_ge (tgt := 87) C0 dX1_agreeWith_16 (by decide) (fun h16 => ?_) (fun h16 => ?_)
      · skip
        replace h16 := (nI_leE (a := 6) (b := j) rfl rfl (by omega) (by omega)).mp h16
        exfalso; omega
      · skip
        replace h16 := (not_congr (nI_leE (a := 6) (b := j) rfl rfl (by omega) (by omega))).mp h16
        refine ww_iload_n C0 dX1_agreeWith_19 rfl ?_
        refine ww_iload_n C0 dX1_agreeWith_20 rfl ?_
        refine ww_aload_n C0 dX1_agreeWith_21 rfl ?_
        refine ww_get C0 (ci := 1) (C := RX1) (T := TX1) (N := 6) ku_X1 0 rfl rfl 1 (by decide) kw_X1_15 rfl dX1_agreeWith_22 ?_
        refine ww_iload C0 dX1_agreeWith_25 rfl ?_
        refine ww_iald_n (j := j) C0 2 0 rfl rfl rfl (by omega) (by decide) dX1_agreeWith_27 ?_
        refine ww_aload_n C0 dX1_agreeWith_28 rfl ?_
        refine ww_get C0 (ci := 1) (C := RX1) (T := TX1) (N := 6) ku_X1 0 rfl rfl 2 (by decide) kw_X1_18 rfl dX1_agreeWith_29 ?_
        refine ww_iload C0 dX1_agreeWith_32 rfl ?_
        refine ww_iald_n (j := j) C0 3 0 rfl rfl rfl (by omega) (by decide) dX1_agreeWith_34 ?_
        refine ww_aload_n C0 dX1_agreeWith_35 rfl ?_
        refine ww_get C0 (ci := 1) (C := RX1) (T := TX1) (N := 6) ku_X1 0 rfl rfl 3 (by decide) kw_X1_21 rfl dX1_agreeWith_36 ?_
        refine ww_iload C0 dX1_agreeWith_39 rfl ?_
        refine ww_iald_n (j := j) C0 4 0 rfl rfl rfl (by omega) (by decide) dX1_agreeWith_41 ?_
        refine ww_callSNi C0 (c_X0_forbidsAlone l D cI cZ cQ) kd_X0_forbidsAlone kn_X1_31 ks_X0_forbidsAlone ki_X0 hd_X0_forbidsAlone ⟨Nat.le_of_ble_eq_true rfl, Nat.le_of_ble_eq_true rfl, rfl, rfl⟩ (Nat.le_of_ble_eq_true rfl) dX1_agreeWith_42 rfl rfl ⟨Nat.zero_le _, Nat.zero_le _⟩ ?_
        refine ww_istore (i := 5) C0 dX1_agreeWith_45 (Nat.le_of_ble_eq_true rfl) rfl ?_
        simp only [List.set_cons_zero, List.set_cons_succ]
        refine ww_aload_n C0 dX1_agreeWith_47 rfl ?_
        refine ww_get C0 (ci := 1) (C := RX1) (T := TX1) (N := 6) ku_X1 0 rfl rfl 0 (by decide) kw_X1_9 rfl dX1_agreeWith_48 ?_
        refine ww_iload C0 dX1_agreeWith_51 rfl ?_
        refine ww_iald_n (j := j) C0 1 0 rfl rfl rfl (by omega) (by decide) dX1_agreeWith_53 ?_
        refine ww_iload_n C0 dX1_agreeWith_54 rfl ?_
        refine ww_icmp_ne (tgt := 81) C0 dX1_agreeWith_55 (by decide) (fun h55 => ?_) (fun h55 => ?_)
        · skip
          refine ww_iinc (d := 1) C0 dX1_agreeWith_81 rfl rfl rfl ?_
          simp only [List.set_cons_zero, List.set_cons_succ]
          refine ww_goto (tgt := 3) C0 dX1_agreeWith_84 (by decide) ?_
          exact ww_back (ih () (by simp [allB, sAg, *])) ⟨Or.inr rfl, Or.inr rfl, Or.inr rfl, Or.inr rfl, Or.inr (congrArg Value.int (nI_addE rfl rfl).symm), Or.inl rfl, trivial⟩ rfl
        · skip
          refine ww_iload C0 dX1_agreeWith_58 rfl ?_
          refine ww_aload_n C0 dX1_agreeWith_60 rfl ?_
          refine ww_get C0 (ci := 1) (C := RX1) (T := TX1) (N := 6) ku_X1 0 rfl rfl 4 (by decide) kw_X1_24 rfl dX1_agreeWith_61 ?_
          refine ww_iload C0 dX1_agreeWith_64 rfl ?_
          refine ww_iald_n (j := j) C0 5 0 rfl rfl rfl (by omega) (by decide) dX1_agreeWith_66 ?_
          refine ww_iconst (v := (1)) C0 dX1_agreeWith_67 rfl ?_
          refine ww_icmp_ne (tgt := 75) C0 dX1_agreeWith_68 (by decide) (fun h68 => ?_) (fun h68 => ?_)
          · skip
            refine ww_iconst (v := (0)) C0 dX1_agreeWith_75 rfl ?_
            refine ww_icmp_eq (tgt := 81) C0 dX1_agreeWith_76 (by decide) (fun h76 => ?_) (fun h76 => ?_)
            · skip
              refine ww_iinc (d := 1) C0 dX1_agreeWith_81 rfl rfl rfl ?_
              simp only [List.set_cons_zero, List.set_cons_succ]
              refine ww_goto (tgt := 3) C0 dX1_agreeWith_84 (by decide) ?_
              exact ww_back (ih () (by simp [allB, sAg, *])) ⟨Or.inr rfl, Or.inr rfl, Or.inr rfl, Or.inr rfl, Or.inr (congrArg Value.int (nI_addE rfl rfl).symm), Or.inl rfl, trivial⟩ rfl
            · skip
              refine ww_iconst (v := (0)) C0 dX1_agreeWith_79 rfl ?_
              exact ww_zret C0 hr dX1_agreeWith_80 (by (rw [allB_f hj (by simp [sAg, *])]; rfl)) (by rfl)
          · skip
            refine ww_iconst (v := (1)) C0 dX1_agreeWith_71 rfl ?_
            refine ww_goto (tgt := 76) C0 dX1_agreeWith_72 (by decide) ?_
            refine ww_icmp_eq (tgt := 81) C0 dX1_agreeWith_76 (by decide) (fun h76 => ?_) (fun h76 => ?_)
            · skip
              refine ww_iinc (d := 1) C0 dX1_agreeWith_81 rfl rfl rfl ?_
              simp only [List.set_cons_zero, List.set_cons_succ]
              refine ww_goto (tgt := 3) C0 dX1_agreeWith_84 (by decide) ?_
              exact ww_back (ih () (by simp [allB, sAg, *])) ⟨Or.inr rfl, Or.inr rfl, Or.inr rfl, Or.inr rfl, Or.inr (congrArg Value.int (nI_addE rfl rfl).symm), Or.inl rfl, trivial⟩ rfl
            · skip
              refine ww_iconst (v := (0)) C0 dX1_agreeWith_79 rfl ?_
              exact ww_zret C0 hr dX1_agreeWith_80 (by (rw [allB_f hj (by simp [sAg, *])]; rfl)) (by rfl)
  · skip
    rintro ⟨⟩ hI
    refine ww_iload C0 dX1_agreeWith_3 rfl ?_
    refine ww_aload_n C0 dX1_agreeWith_5 rfl ?_
    refine ww_get C0 (ci := 1) (C := RX1) (T := TX1) (N := 6) ku_X1 0 rfl rfl 5 (by decide) kw_X1_27 rfl dX1_agreeWith_6 ?_
    refine ww_icmp_ge (tgt := 87) C0 dX1_agreeWith_9 (by decide) (fun h9 => ?_) (fun h9 => ?_)
    · skip
      replace h9 := (nI_leE (a := gn) (b := gn) rfl rfl (by omega) (by omega)).mp h9
      refine ww_iconst (v := (1)) C0 dX1_agreeWith_87 rfl ?_
      exact ww_zret C0 hr dX1_agreeWith_88 (by (rw [hI]; rfl)) (by rfl)
    · skip
      replace h9 := (not_congr (nI_leE (a := gn) (b := gn) rfl rfl (by omega) (by omega))).mp h9
      exfalso; omega

set_option maxHeartbeats 4000000 in
set_option maxRecDepth 100000 in
theorem c_X0_add (l : Launch) (D : va_G) (cI cZ cQ : ClassId) {aL al0 al1 al2 : Nat} {na : Nat} {fl0 fl1 fl2 : Nat → Int32} {z0 : Nat × va_E} {rest : va_W} {x y z : Int32} (ha : na < 5) : MV l D [(cI, .int), (cZ, .boolean), (cQ, .object "MulesRemember$State")] yX0_add cX0_add 4 ({ frames := 0, cells := 0, slots := 0, locals := 0 } : Room) [.ref aL, .int x, .int y, .int z] (z0 :: (aL, .inr (0, [.ref al0, .ref al1, .ref al2, .int (nI na)])) :: (al0, .inl (cI, 5, .inl (fl0))) :: (al1, .inl (cI, 5, .inl (fl1))) :: (al2, .inl (cI, 5, .inl (fl2))) :: rest) (z0 :: (aL, .inr (0, [.ref al0, .ref al1, .ref al2, .int (nI (na + 1))])) :: (al0, .inl (cI, 5, .inl (upd fl0 na x))) :: (al1, .inl (cI, 5, .inl (upd fl1 na y))) :: (al2, .inl (cI, 5, .inl (upd fl2 na z))) :: rest) := by
  refine MV.of [.ref aL, .int x, .int y, .int z] (by decide) (Nat.le_of_ble_eq_true rfl) rfl ?_
  intro p e s m below meth c A C0 hr
  refine ww_aload_n C0 dX0_add_0 rfl ?_
  refine ww_get C0 (ci := 0) (C := RX0) (T := TX0) (N := 4) ku_X0 1 rfl rfl 3 (by decide) kw_X0_21 rfl dX0_add_1 ?_
  refine ww_if_lt (tgt := 15) C0 dX0_add_4 (by decide) (fun h4 => ?_) (fun h4 => ?_)
  · skip
    replace h4 := (nI_ltE (a := na) (b := 0) rfl rfl (by omega) (by omega)).mp h4
    exfalso; omega
  · skip
    replace h4 := (not_congr (nI_ltE (a := na) (b := 0) rfl rfl (by omega) (by omega))).mp h4
    refine ww_aload_n C0 dX0_add_7 rfl ?_
    refine ww_get C0 (ci := 0) (C := RX0) (T := TX0) (N := 4) ku_X0 1 rfl rfl 3 (by decide) kw_X0_21 rfl dX0_add_8 ?_
    refine ww_iconst (v := (5)) C0 dX0_add_11 rfl ?_
    refine ww_icmp_lt (tgt := 16) C0 dX0_add_12 (by decide) (fun h12 => ?_) (fun h12 => ?_)
    · skip
      replace h12 := (nI_ltE (a := na) (b := 5) rfl rfl (by omega) (by omega)).mp h12
      refine ww_aload_n C0 dX0_add_16 rfl ?_
      refine ww_get C0 (ci := 0) (C := RX0) (T := TX0) (N := 4) ku_X0 1 rfl rfl 0 (by decide) kw_X0_9 rfl dX0_add_17 ?_
      refine ww_aload_n C0 dX0_add_20 rfl ?_
      refine ww_get C0 (ci := 0) (C := RX0) (T := TX0) (N := 4) ku_X0 1 rfl rfl 3 (by decide) kw_X0_21 rfl dX0_add_21 ?_
      refine ww_iload_n C0 dX0_add_24 rfl ?_
      refine ww_iast_n (j := na) C0 2 0 rfl rfl rfl (by omega) (by decide) dX0_add_25 ?_
      simp only [List.set_cons_zero, List.set_cons_succ]
      refine ww_aload_n C0 dX0_add_26 rfl ?_
      refine ww_get C0 (ci := 0) (C := RX0) (T := TX0) (N := 4) ku_X0 1 rfl rfl 1 (by decide) kw_X0_15 rfl dX0_add_27 ?_
      refine ww_aload_n C0 dX0_add_30 rfl ?_
      refine ww_get C0 (ci := 0) (C := RX0) (T := TX0) (N := 4) ku_X0 1 rfl rfl 3 (by decide) kw_X0_21 rfl dX0_add_31 ?_
      refine ww_iload_n C0 dX0_add_34 rfl ?_
      refine ww_iast_n (j := na) C0 3 0 rfl rfl rfl (by omega) (by decide) dX0_add_35 ?_
      simp only [List.set_cons_zero, List.set_cons_succ]
      refine ww_aload_n C0 dX0_add_36 rfl ?_
      refine ww_get C0 (ci := 0) (C := RX0) (T := TX0) (N := 4) ku_X0 1 rfl rfl 2 (by decide) kw_X0_18 rfl dX0_add_37 ?_
      refine ww_aload_n C0 dX0_add_40 rfl ?_
      refine ww_get C0 (ci := 0) (C := RX0) (T := TX0) (N := 4) ku_X0 1 rfl rfl 3 (by decide) kw_X0_21 rfl dX0_add_41 ?_
      refine ww_iload_n C0 dX0_add_44 rfl ?_
      refine ww_iast_n (j := na) C0 4 0 rfl rfl rfl (by omega) (by decide) dX0_add_45 ?_
      simp only [List.set_cons_zero, List.set_cons_succ]
      refine ww_aload_n C0 dX0_add_46 rfl ?_
      refine ww_dup C0 dX0_add_47 rfl ?_
      refine ww_get C0 (ci := 0) (C := RX0) (T := TX0) (N := 4) ku_X0 1 rfl rfl 3 (by decide) kw_X0_21 rfl dX0_add_48 ?_
      refine ww_iconst (v := (1)) C0 dX0_add_51 rfl ?_
      refine ww_iadd C0 dX0_add_52 ?_
      refine ww_put C0 (ci := 0) (C := RX0) (T := TX0) (N := 4) ku_X0 1 rfl rfl 3 (by decide) tyX0 tyX0_ok nmX0 kw_X0_21 rfl (ty := .int) (by decide +kernel) rfl rfl (Nat.le_of_ble_eq_true rfl) dX0_add_53 ?_
      simp only [List.set_cons_zero, List.set_cons_succ]
      exact ww_vret C0 hr dX0_add_56 (by simp only [nI_1])
    · skip
      replace h12 := (not_congr (nI_ltE (a := na) (b := 5) rfl rfl (by omega) (by omega))).mp h12
      exfalso; omega

set_option maxHeartbeats 4000000 in
set_option maxRecDepth 100000 in
theorem c_X0_add_f (l : Launch) (D : va_G) (cI cZ cQ : ClassId) {aL al0 al1 al2 : Nat} {na : Nat} {fl0 fl1 fl2 : Nat → Int32} {z0 : Nat × va_E} {rest : va_W} {x y z : Int32} (ha : na = 5) : MV l D [(cI, .int), (cZ, .boolean), (cQ, .object "MulesRemember$State")] yX0_add cX0_add 4 ({ frames := 0, cells := 0, slots := 0, locals := 0 } : Room) [.ref aL, .int x, .int y, .int z] (z0 :: (aL, .inr (0, [.ref al0, .ref al1, .ref al2, .int (nI na)])) :: (al0, .inl (cI, 5, .inl (fl0))) :: (al1, .inl (cI, 5, .inl (fl1))) :: (al2, .inl (cI, 5, .inl (fl2))) :: rest) (z0 :: (aL, .inr (0, [.ref al0, .ref al1, .ref al2, .int (nI na)])) :: (al0, .inl (cI, 5, .inl (fl0))) :: (al1, .inl (cI, 5, .inl (fl1))) :: (al2, .inl (cI, 5, .inl (fl2))) :: rest) := by
  refine MV.of [.ref aL, .int x, .int y, .int z] (by decide) (Nat.le_of_ble_eq_true rfl) rfl ?_
  intro p e s m below meth c A C0 hr
  refine ww_aload_n C0 dX0_add_0 rfl ?_
  refine ww_get C0 (ci := 0) (C := RX0) (T := TX0) (N := 4) ku_X0 1 rfl rfl 3 (by decide) kw_X0_21 rfl dX0_add_1 ?_
  refine ww_if_lt (tgt := 15) C0 dX0_add_4 (by decide) (fun h4 => ?_) (fun h4 => ?_)
  · skip
    replace h4 := (nI_ltE (a := na) (b := 0) rfl rfl (by omega) (by omega)).mp h4
    exfalso; omega
  · skip
    replace h4 := (not_congr (nI_ltE (a := na) (b := 0) rfl rfl (by omega) (by omega))).mp h4
    refine ww_aload_n C0 dX0_add_7 rfl ?_
    refine ww_get C0 (ci := 0) (C := RX0) (T := TX0) (N := 4) ku_X0 1 rfl rfl 3 (by decide) kw_X0_21 rfl dX0_add_8 ?_
    refine ww_iconst (v := (5)) C0 dX0_add_11 rfl ?_
    refine ww_icmp_lt (tgt := 16) C0 dX0_add_12 (by decide) (fun h12 => ?_) (fun h12 => ?_)
    · skip
      replace h12 := (nI_ltE (a := na) (b := 5) rfl rfl (by omega) (by omega)).mp h12
      exfalso; omega
    · skip
      replace h12 := (not_congr (nI_ltE (a := na) (b := 5) rfl rfl (by omega) (by omega))).mp h12
      exact ww_vret C0 hr dX0_add_15 (by rfl)
