set_option maxHeartbeats 4000000 in
set_option maxRecDepth 100000 in
theorem c_X5_layWays (l : Launch) (D : va_G) (cI cZ cQ : ClassId) {aM amt amc amw ams amv amr amx amp amq amb amk amz am0 am1 am2 am3 am4 amh amo : Nat} {tn nm na ac gn : Nat} {th vpl vrm vra x0 x1 x2 x3 : Int32} {sd : Int64} {fmt fmc fmw fms fmv fmp fmq fmr fmx fmb fmk fmz fm0 fm1 fm2 fm3 fm4 fmh : Nat → Int32} {rest : va_W} {k : Nat} {u : Bool} {F : Nat → Int32 → Int32 → Bool} (hnm : nm ≤ 5) (hna : na ≤ 5) (hk : k < nm) (hst : isN 10 (fmp k) = true) (hF : F = (fun t s way => if u then !decide (mFF nm na fmw fms fmv fmc (mAt fmp k s (fmp 15 + nI t)) k way = 0) else mBk nm na fmw fms fmv fmc (mAt fmp k s (fmp 15 + nI t)) k way)) : MV l D [(cI, .int), (cZ, .boolean), (cQ, .object "MulesRemember$State")] yX5_layWays cX5_layWays 9 ({ frames := 4, cells := 0, slots := 0, locals := 99 } : Room) [.ref aM, .int (nI k), .int (bI u)] ((aM, .inr (5, [.int th, .ref amt, .int (nI tn), .int vpl, .int (nI nm), .ref amc, .int (nI na), .ref amw, .ref ams, .ref amv, .int vrm, .ref amr, .int vra, .ref amx, .ref amp, .ref amq, .ref amb, .int (nI ac), .ref amk, .ref amz, .int (nI gn), .ref am0, .ref am1, .ref am2, .ref am3, .ref am4, .long sd, .ref amh, .int x0, .int x1, .int x2, .int x3, .ref amo])) :: (amt, .inl (cI, 48, .inl (fmt))) :: (amc, .inl (cI, 5, .inl (fmc))) :: (amw, .inl (cI, 5, .inl (fmw))) :: (ams, .inl (cI, 5, .inl (fms))) :: (amv, .inl (cI, 5, .inl (fmv))) :: (amp, .inl (cI, 17, .inl (fmp))) :: (amq, .inl (cI, 17, .inl (fmq))) :: (amr, .inl (cI, 15, .inl (fmr))) :: (amx, .inl (cI, 15, .inl (fmx))) :: (amb, .inl (cI, 238, .inl (fmb))) :: (amk, .inl (cI, 34, .inl (fmk))) :: (amz, .inl (cZ, 2, .inl (fmz))) :: (am0, .inl (cI, 6, .inl (fm0))) :: (am1, .inl (cI, 6, .inl (fm1))) :: (am2, .inl (cI, 6, .inl (fm2))) :: (am3, .inl (cI, 6, .inl (fm3))) :: (am4, .inl (cI, 6, .inl (fm4))) :: (amh, .inl (cI, 10, .inl (fmh))) :: rest) ((aM, .inr (5, [.int th, .ref amt, .int (nI tn), .int vpl, .int (nI nm), .ref amc, .int (nI na), .ref amw, .ref ams, .ref amv, .int vrm, .ref amr, .int vra, .ref amx, .ref amp, .ref amq, .ref amb, .int (nI ac), .ref amk, .ref amz, .int (nI gn), .ref am0, .ref am1, .ref am2, .ref am3, .ref am4, .long sd, .ref amh, .int x0, .int x1, .int x2, .int x3, .ref amo])) :: (amt, .inl (cI, 48, .inl (fmt))) :: (amc, .inl (cI, 5, .inl (fmc))) :: (amw, .inl (cI, 5, .inl (fmw))) :: (ams, .inl (cI, 5, .inl (fms))) :: (amv, .inl (cI, 5, .inl (fmv))) :: (amp, .inl (cI, 17, .inl (fmp))) :: (amq, .inl (cI, 17, .inl (mAt fmp k 9 (fmp 15 + nI 11)))) :: (amr, .inl (cI, 15, .inl (fmr))) :: (amx, .inl (cI, 15, .inl (fmx))) :: (amb, .inl (cI, 238, .inl (fmb))) :: (amk, .inl (cI, 34, .inl (fmk))) :: (amz, .inl (cZ, 2, .inl (fmz))) :: (am0, .inl (cI, 6, .inl (fm0))) :: (am1, .inl (cI, 6, .inl (fm1))) :: (am2, .inl (cI, 6, .inl (fm2))) :: (am3, .inl (cI, 6, .inl (fm3))) :: (am4, .inl (cI, 6, .inl (fm4))) :: (amh, .inl (cI, 10, .inl (mLayT F (mH0 (fmp k)) 12))) :: rest) := by
  refine MV.of [.ref aM, .int (nI k), .int (bI u), .null, .null, .null, .null, .null, .null] (by decide) (Nat.le_of_ble_eq_true rfl) rfl ?_
  intro p e s m below meth c A C0 hr
  obtain ⟨q0, hq0, hqe⟩ := isN_of (by decide) hst
  refine ww_aload_n C0 dX5_layWays_0 rfl ?_
  refine ww_callVv C0 (qc := (RX5, TX5, 33)) 0 5 (c_X5_begin l D cI cZ cQ) kd_X5_begin kw_X5_175 km_X5_begin kl_X5_begin ki_X5 hd_X5_begin rfl rfl ⟨Nat.le_of_ble_eq_true rfl, Nat.le_of_ble_eq_true rfl, rfl, rfl⟩ (Nat.le_of_ble_eq_true rfl) dX5_layWays_1 rfl rfl rfl ⟨Nat.zero_le _, Nat.zero_le _⟩ ?_
  refine ww_iconst (v := (0)) C0 dX5_layWays_4 rfl ?_
  refine ww_istore_n (i := 3) C0 dX5_layWays_5 rfl (Nat.le_of_ble_eq_true rfl) rfl ?_
  simp only [List.set_cons_zero, List.set_cons_succ]
  refine ww_back (ww_loop (pc := 6) 0 (10) (by omega) (fun j => [_, _, _, .int (nI j), _, _, _, _, _]) (fun j => (aM, .inr (5, [.int th, .ref amt, .int (nI tn), .int vpl, .int (nI nm), .ref amc, .int (nI na), .ref amw, .ref ams, .ref amv, .int vrm, .ref amr, .int vra, .ref amx, .ref amp, .ref amq, .ref amb, .int (nI ac), .ref amk, .ref amz, .int (nI gn), .ref am0, .ref am1, .ref am2, .ref am3, .ref am4, .long sd, .ref amh, .int x0, .int x1, .int x2, .int x3, .ref amo])) :: (amt, .inl (cI, 48, .inl (fmt))) :: (amc, .inl (cI, 5, .inl (fmc))) :: (amw, .inl (cI, 5, .inl (fmw))) :: (ams, .inl (cI, 5, .inl (fms))) :: (amv, .inl (cI, 5, .inl (fmv))) :: (amp, .inl (cI, 17, .inl (fmp))) :: (amq, .inl (cI, 17, .inl (fmp))) :: (amr, .inl (cI, 15, .inl (fmr))) :: (amx, .inl (cI, 15, .inl (fmx))) :: (amb, .inl (cI, 238, .inl (fmb))) :: (amk, .inl (cI, 34, .inl (fmk))) :: (amz, .inl (cZ, 2, .inl (fmz))) :: (am0, .inl (cI, 6, .inl (fm0))) :: (am1, .inl (cI, 6, .inl (fm1))) :: (am2, .inl (cI, 6, .inl (fm2))) :: (am3, .inl (cI, 6, .inl (fm3))) :: (am4, .inl (cI, 6, .inl (fm4))) :: (amh, .inl (cI, 10, .inl (cpyF (fun _ => -9) fmh j))) :: rest) ?_ ?_) ⟨Or.inr rfl, Or.inr rfl, Or.inr rfl, Or.inr rfl, Or.inr rfl, Or.inr rfl, Or.inr rfl, Or.inr rfl, Or.inr rfl, trivial⟩ (by simp only [cpyF_0])
  · intro j hj0 hj ih
    refine ww_iload_n C0 dX5_layWays_6 rfl ?_
    refine ww_bipush (v := (10)) C0 dX5_layWays_7 rfl ?_
    refine ww_icmp_ge (tgt := 26) C0 dX5_layWays_9 (by decide) (fun h9 => ?_) (fun h9 => ?_)
    · skip
      replace h9 := (nI_leE (a := 10) (b := j) rfl rfl (by omega) (by omega)).mp h9
      exfalso; omega
    · skip
      replace h9 := (not_congr (nI_leE (a := 10) (b := j) rfl rfl (by omega) (by omega))).mp h9
      refine ww_aload_n C0 dX5_layWays_12 rfl ?_
      refine ww_get C0 (ci := 5) (C := RX5) (T := TX5) (N := 33) ku_X5 0 rfl rfl 27 (by decide) kw_X5_62 rfl dX5_layWays_13 ?_
      refine ww_iload_n C0 dX5_layWays_16 rfl ?_
      refine ww_bipush (v := (-9)) C0 dX5_layWays_17 rfl ?_
      refine ww_iast_n (j := j) C0 18 0 rfl rfl rfl (by omega) (by decide) dX5_layWays_19 ?_
      simp only [List.set_cons_zero, List.set_cons_succ]
      refine ww_iinc (d := 1) C0 dX5_layWays_20 rfl rfl rfl ?_
      simp only [List.set_cons_zero, List.set_cons_succ]
      refine ww_goto (tgt := 6) C0 dX5_layWays_23 (by decide) ?_
      exact ww_back ih ⟨Or.inr rfl, Or.inr rfl, Or.inr rfl, Or.inr (congrArg Value.int (nI_addE (a := j) (b := 1) rfl rfl).symm), Or.inr rfl, Or.inr rfl, Or.inr rfl, Or.inr rfl, Or.inr rfl, trivial⟩ (by simp only [← cpyF_s])
  · skip
    refine ww_iload_n C0 dX5_layWays_6 rfl ?_
    refine ww_bipush (v := (10)) C0 dX5_layWays_7 rfl ?_
    refine ww_icmp_ge (tgt := 26) C0 dX5_layWays_9 (by decide) (fun h9 => ?_) (fun h9 => ?_)
    · skip
      replace h9 := (nI_leE (a := 10) (b := 10) rfl rfl (by omega) (by omega)).mp h9
      refine ww_aload_n C0 dX5_layWays_26 rfl ?_
      refine ww_get C0 (ci := 5) (C := RX5) (T := TX5) (N := 33) ku_X5 0 rfl rfl 27 (by decide) kw_X5_62 rfl dX5_layWays_27 ?_
      refine ww_aload_n C0 dX5_layWays_30 rfl ?_
      refine ww_get C0 (ci := 5) (C := RX5) (T := TX5) (N := 33) ku_X5 0 rfl rfl 14 (by decide) kw_X5_31 rfl dX5_layWays_31 ?_
      refine ww_iconst (v := (0)) C0 dX5_layWays_34 rfl ?_
      refine ww_iload_n C0 dX5_layWays_35 rfl ?_
      refine ww_iadd C0 dX5_layWays_36 ?_
      refine ww_iald_n (j := k) C0 6 0 rfl rfl (by rw [show (0 : Int32) + nI k = nI (0 + k) from nI_add 0 k, Nat.zero_add]) (by omega) (by decide) dX5_layWays_37 ?_
      refine ww_iconst (v := (0)) C0 dX5_layWays_38 rfl ?_
      refine ww_iast_n (j := q0) C0 18 0 rfl rfl hqe hq0 (by decide) dX5_layWays_39 ?_
      simp only [List.set_cons_zero, List.set_cons_succ]
      refine ww_arr 18 (mH0 (fmp k)) rfl (fun j hj => by
        simp only [mH0, upd, cpyF, hj, if_true]
        by_cases e : j = q0
        · subst e; rw [if_pos rfl, if_pos hqe.symm]
        · rw [if_neg e, if_neg]; intro h; rw [hqe, nI_eq (by omega) (by omega)] at h; exact e h) ?_
      simp only [List.set_cons_zero, List.set_cons_succ]
      refine ww_iconst (v := (0)) C0 dX5_layWays_40 rfl ?_
      refine ww_istore_n (i := 3) C0 dX5_layWays_41 rfl (Nat.le_of_ble_eq_true rfl) rfl ?_
      simp only [List.set_cons_zero, List.set_cons_succ]
      refine ww_back (ww_loop (pc := 42) 0 (12) (by omega) (fun t => [_, _, _, .int (nI t), .null, .null, .null, .null, .null]) (fun t => (aM, .inr (5, [.int th, .ref amt, .int (nI tn), .int vpl, .int (nI nm), .ref amc, .int (nI na), .ref amw, .ref ams, .ref amv, .int vrm, .ref amr, .int vra, .ref amx, .ref amp, .ref amq, .ref amb, .int (nI ac), .ref amk, .ref amz, .int (nI gn), .ref am0, .ref am1, .ref am2, .ref am3, .ref am4, .long sd, .ref amh, .int x0, .int x1, .int x2, .int x3, .ref amo])) :: (amt, .inl (cI, 48, .inl (fmt))) :: (amc, .inl (cI, 5, .inl (fmc))) :: (amw, .inl (cI, 5, .inl (fmw))) :: (ams, .inl (cI, 5, .inl (fms))) :: (amv, .inl (cI, 5, .inl (fmv))) :: (amp, .inl (cI, 17, .inl (fmp))) :: (amq, .inl (cI, 17, .inl ((if t = 0 then fmp else mAt fmp k 9 (fmp 15 + nI (t - 1)))))) :: (amr, .inl (cI, 15, .inl (fmr))) :: (amx, .inl (cI, 15, .inl (fmx))) :: (amb, .inl (cI, 238, .inl (fmb))) :: (amk, .inl (cI, 34, .inl (fmk))) :: (amz, .inl (cZ, 2, .inl (fmz))) :: (am0, .inl (cI, 6, .inl (fm0))) :: (am1, .inl (cI, 6, .inl (fm1))) :: (am2, .inl (cI, 6, .inl (fm2))) :: (am3, .inl (cI, 6, .inl (fm3))) :: (am4, .inl (cI, 6, .inl (fm4))) :: (amh, .inl (cI, 10, .inl ((mLayT F (mH0 (fmp k)) (t))))) :: rest) ?_ ?_) ⟨Or.inr rfl, Or.inr rfl, Or.inr rfl, Or.inr rfl, Or.inl rfl, Or.inl rfl, Or.inl rfl, Or.inl rfl, Or.inl rfl, trivial⟩ (by rfl)
      · intro t hj0 hj ih
        refine ww_iload_n C0 dX5_layWays_42 rfl ?_
        refine ww_bipush (v := (12)) C0 dX5_layWays_43 rfl ?_
        refine ww_icmp_ge (tgt := 231) C0 dX5_layWays_45 (by decide) (fun h45 => ?_) (fun h45 => ?_)
        · skip
          replace h45 := (nI_leE (a := 12) (b := t) rfl rfl (by omega) (by omega)).mp h45
          exfalso; omega
        · skip
          replace h45 := (not_congr (nI_leE (a := 12) (b := t) rfl rfl (by omega) (by omega))).mp h45
          refine ww_aload_n C0 dX5_layWays_48 rfl ?_
          refine ww_get C0 (ci := 5) (C := RX5) (T := TX5) (N := 33) ku_X5 0 rfl rfl 15 (by decide) kw_X5_34 rfl dX5_layWays_49 ?_
          refine ww_bipush (v := (15)) C0 dX5_layWays_52 rfl ?_
          refine ww_aload_n C0 dX5_layWays_54 rfl ?_
          refine ww_get C0 (ci := 5) (C := RX5) (T := TX5) (N := 33) ku_X5 0 rfl rfl 14 (by decide) kw_X5_31 rfl dX5_layWays_55 ?_
          refine ww_bipush (v := (15)) C0 dX5_layWays_58 rfl ?_
          refine ww_iald_n (j := 15) C0 6 0 rfl rfl rfl (by omega) (by decide) dX5_layWays_60 ?_
          refine ww_iload_n C0 dX5_layWays_61 rfl ?_
          refine ww_iadd C0 dX5_layWays_62 ?_
          refine ww_iast_n (j := 15) C0 7 0 rfl rfl rfl (by omega) (by decide) dX5_layWays_63 ?_
          simp only [List.set_cons_zero, List.set_cons_succ]
          refine ww_iconst (v := (0)) C0 dX5_layWays_64 rfl ?_
          refine ww_istore (i := 4) C0 dX5_layWays_65 (Nat.le_of_ble_eq_true rfl) rfl ?_
          simp only [List.set_cons_zero, List.set_cons_succ]
          refine ww_arr 7 (mAt fmp k (if t = 0 then fmp k else 9) (fmp 15 + nI t)) rfl (fun j hj => by
            by_cases ht0 : t = 0
            · subst ht0; by_cases e : j = 15
              · subst e; simp [upd, mAt, show ¬ 15 = k by omega]
              · by_cases e2 : j = k
                · subst e2; simp [upd, mAt, e]
                · simp [upd, mAt, e, e2]
            · by_cases e : j = 15
              · subst e; simp [upd, mAt, show ¬ 15 = k by omega]
              · simp [upd, mAt, e, ht0]) ?_
          simp only [List.set_cons_zero, List.set_cons_succ]
          refine ww_back (ww_loop (pc := 67) 0 (10) (by omega) (fun s => [_, _, _, _, .int (nI s), .null, .null, .null, .null]) (fun s => (aM, .inr (5, [.int th, .ref amt, .int (nI tn), .int vpl, .int (nI nm), .ref amc, .int (nI na), .ref amw, .ref ams, .ref amv, .int vrm, .ref amr, .int vra, .ref amx, .ref amp, .ref amq, .ref amb, .int (nI ac), .ref amk, .ref amz, .int (nI gn), .ref am0, .ref am1, .ref am2, .ref am3, .ref am4, .long sd, .ref amh, .int x0, .int x1, .int x2, .int x3, .ref amo])) :: (amt, .inl (cI, 48, .inl (fmt))) :: (amc, .inl (cI, 5, .inl (fmc))) :: (amw, .inl (cI, 5, .inl (fmw))) :: (ams, .inl (cI, 5, .inl (fms))) :: (amv, .inl (cI, 5, .inl (fmv))) :: (amp, .inl (cI, 17, .inl (fmp))) :: (amq, .inl (cI, 17, .inl ((mAt fmp k (if s = 0 then (if t = 0 then fmp k else 9) else nI (s - 1)) (fmp 15 + nI t))))) :: (amr, .inl (cI, 15, .inl (fmr))) :: (amx, .inl (cI, 15, .inl (fmx))) :: (amb, .inl (cI, 238, .inl (fmb))) :: (amk, .inl (cI, 34, .inl (fmk))) :: (amz, .inl (cZ, 2, .inl (fmz))) :: (am0, .inl (cI, 6, .inl (fm0))) :: (am1, .inl (cI, 6, .inl (fm1))) :: (am2, .inl (cI, 6, .inl (fm2))) :: (am3, .inl (cI, 6, .inl (fm3))) :: (am4, .inl (cI, 6, .inl (fm4))) :: (amh, .inl (cI, 10, .inl ((mLayS F t (mLayT F (mH0 (fmp k)) (t)) (s))))) :: rest) ?_ ?_) ⟨Or.inr rfl, Or.inr rfl, Or.inr rfl, Or.inr rfl, Or.inr rfl, Or.inl rfl, Or.inl rfl, Or.inl rfl, Or.inl rfl, trivial⟩ (by rfl)
          · intro s hj0 hj ih
            refine ww_iload C0 dX5_layWays_67 rfl ?_
            refine ww_bipush (v := (10)) C0 dX5_layWays_69 rfl ?_
            refine ww_icmp_ge (tgt := 225) C0 dX5_layWays_71 (by decide) (fun h71 => ?_) (fun h71 => ?_)
            · skip
              replace h71 := (nI_leE (a := 10) (b := s) rfl rfl (by omega) (by omega)).mp h71
              exfalso; omega
            · skip
              replace h71 := (not_congr (nI_leE (a := 10) (b := s) rfl rfl (by omega) (by omega))).mp h71
              refine ww_iconst (v := (0)) C0 dX5_layWays_74 rfl ?_
              refine ww_istore (i := 5) C0 dX5_layWays_75 (Nat.le_of_ble_eq_true rfl) rfl ?_
              simp only [List.set_cons_zero, List.set_cons_succ]
              refine ww_back (ww_loop (pc := 77) 0 (2) (by omega) (fun w => [_, _, _, _, _, .int (nI w), .null, .null, .null]) (fun w => (aM, .inr (5, [.int th, .ref amt, .int (nI tn), .int vpl, .int (nI nm), .ref amc, .int (nI na), .ref amw, .ref ams, .ref amv, .int vrm, .ref amr, .int vra, .ref amx, .ref amp, .ref amq, .ref amb, .int (nI ac), .ref amk, .ref amz, .int (nI gn), .ref am0, .ref am1, .ref am2, .ref am3, .ref am4, .long sd, .ref amh, .int x0, .int x1, .int x2, .int x3, .ref amo])) :: (amt, .inl (cI, 48, .inl (fmt))) :: (amc, .inl (cI, 5, .inl (fmc))) :: (amw, .inl (cI, 5, .inl (fmw))) :: (ams, .inl (cI, 5, .inl (fms))) :: (amv, .inl (cI, 5, .inl (fmv))) :: (amp, .inl (cI, 17, .inl (fmp))) :: (amq, .inl (cI, 17, .inl ((mAt fmp k (if w = 0 then (if s = 0 then (if t = 0 then fmp k else 9) else nI (s - 1)) else nI s) (fmp 15 + nI t))))) :: (amr, .inl (cI, 15, .inl (fmr))) :: (amx, .inl (cI, 15, .inl (fmx))) :: (amb, .inl (cI, 238, .inl (fmb))) :: (amk, .inl (cI, 34, .inl (fmk))) :: (amz, .inl (cZ, 2, .inl (fmz))) :: (am0, .inl (cI, 6, .inl (fm0))) :: (am1, .inl (cI, 6, .inl (fm1))) :: (am2, .inl (cI, 6, .inl (fm2))) :: (am3, .inl (cI, 6, .inl (fm3))) :: (am4, .inl (cI, 6, .inl (fm4))) :: (amh, .inl (cI, 10, .inl ((mLayW F t s (mLayS F t (mLayT F (mH0 (fmp k)) (t)) (s)) (w))))) :: rest) ?_ ?_) ⟨Or.inr rfl, Or.inr rfl, Or.inr rfl, Or.inr rfl, Or.inr rfl, Or.inr rfl, Or.inl rfl, Or.inl rfl, Or.inl rfl, trivial⟩ (by rfl)
              · intro w hj0 hj ih
                refine ww_iload C0 dX5_layWays_77 rfl ?_
                refine ww_iconst (v := (2)) C0 dX5_layWays_79 rfl ?_
                refine ww_icmp_ge (tgt := 219) C0 dX5_layWays_80 (by decide) (fun h80 => ?_) (fun h80 => ?_)
                · skip
                  replace h80 := (nI_leE (a := 2) (b := w) rfl rfl (by omega) (by omega)).mp h80
                  exfalso; omega
                · skip
                  replace h80 := (not_congr (nI_leE (a := 2) (b := w) rfl rfl (by omega) (by omega))).mp h80
                  refine ww_aload_n C0 dX5_layWays_83 rfl ?_
                  refine ww_get C0 (ci := 5) (C := RX5) (T := TX5) (N := 33) ku_X5 0 rfl rfl 15 (by decide) kw_X5_34 rfl dX5_layWays_84 ?_
                  refine ww_iconst (v := (0)) C0 dX5_layWays_87 rfl ?_
                  refine ww_iload_n C0 dX5_layWays_88 rfl ?_
                  refine ww_iadd C0 dX5_layWays_89 ?_
                  refine ww_iload C0 dX5_layWays_90 rfl ?_
                  refine ww_iast_n (j := 0 + k) C0 7 0 rfl rfl (nI_addE (a := 0) (b := k) rfl rfl) (by omega) (by decide) dX5_layWays_92 ?_
                  simp only [List.set_cons_zero, List.set_cons_succ]
                  refine ww_aload_n C0 dX5_layWays_93 rfl ?_
                  refine ww_get C0 (ci := 5) (C := RX5) (T := TX5) (N := 33) ku_X5 0 rfl rfl 15 (by decide) kw_X5_34 rfl dX5_layWays_94 ?_
                  refine ww_iload_n C0 dX5_layWays_97 rfl ?_
                  refine ww_iload C0 dX5_layWays_98 rfl ?_
                  refine ww_arr 7 (mAt fmp k (nI s) (fmp 15 + nI t)) rfl (fun j hj => by
                    by_cases e : j = k
                    · subst e; simp [upd, mAt]
                    · simp [upd, mAt, e]) ?_
                  simp only [List.set_cons_zero, List.set_cons_succ]
                  have hk5 : k < 5 := by omega
                  refine ww_perm (perm_mv 6 1 1 _) ?_
                  simp only [List.drop_succ_cons, List.drop_zero, List.take_succ_cons, List.take_zero, List.cons_append, List.nil_append, Nat.reduceAdd]
                  refine ww_callSi C0 (c_X5_toStone l D cI cZ cQ hk5) kd_X5_toStone kw_X5_119 ks_X5_toStone ki_X5 hd_X5_toStone ⟨Nat.le_of_ble_eq_true rfl, Nat.le_of_ble_eq_true rfl, rfl, rfl⟩ (Nat.le_of_ble_eq_true rfl) dX5_layWays_100 rfl rfl ⟨Nat.zero_le _, Nat.zero_le _⟩ ?_
                  refine ww_perm (perm_mv 6 1 1 _) ?_
                  simp only [List.drop_succ_cons, List.drop_zero, List.take_succ_cons, List.take_zero, List.cons_append, List.nil_append, Nat.reduceAdd]
                  rw [mAt_k]
                  refine ww_istore (i := 6) C0 dX5_layWays_103 (Nat.le_of_ble_eq_true rfl) rfl ?_
                  simp only [List.set_cons_zero, List.set_cons_succ]
                  refine ww_aload_n C0 dX5_layWays_105 rfl ?_
                  refine ww_get C0 (ci := 5) (C := RX5) (T := TX5) (N := 33) ku_X5 0 rfl rfl 27 (by decide) kw_X5_62 rfl dX5_layWays_106 ?_
                  refine ww_iload C0 dX5_layWays_109 rfl ?_
                  refine ww_iald_n (j := s) C0 18 0 rfl rfl rfl (by omega) (by decide) dX5_layWays_111 ?_
                  refine ww_bipush (v := (-9)) C0 dX5_layWays_112 rfl ?_
                  refine ww_icmp_eq (tgt := 151) C0 dX5_layWays_114 (by decide) (fun h114 => ?_) (fun h114 => ?_)
                  · skip
                    refine ww_iconst (v := (0)) C0 dX5_layWays_151 rfl ?_
                    refine ww_istore (i := 7) C0 dX5_layWays_152 (Nat.le_of_ble_eq_true rfl) rfl ?_
                    simp only [List.set_cons_zero, List.set_cons_succ]
                    refine ww_iload_n C0 dX5_layWays_154 rfl ?_
                    refine ww_bif_eq (tgt := 180) C0 dX5_layWays_155 (by decide) (fun h155 => ?_) (fun h155 => ?_)
                    · skip
                      refine ww_aload_n C0 dX5_layWays_180 rfl ?_
                      refine ww_aload_n C0 dX5_layWays_181 rfl ?_
                      refine ww_get C0 (ci := 5) (C := RX5) (T := TX5) (N := 33) ku_X5 0 rfl rfl 15 (by decide) kw_X5_34 rfl dX5_layWays_182 ?_
                      refine ww_iload_n C0 dX5_layWays_185 rfl ?_
                      refine ww_iload C0 dX5_layWays_186 rfl ?_
                      refine ww_perm (perm_mv 6 1 1 _) ?_
                      simp only [List.drop_succ_cons, List.drop_zero, List.take_succ_cons, List.take_zero, List.cons_append, List.nil_append, Nat.reduceAdd]
                      refine ww_callVi C0 (qc := (RX5, TX5, 33)) 0 5 (c_X5_isBalking l D cI cZ cQ hnm hna hk) kd_X5_isBalking kw_X5_164 km_X5_isBalking kl_X5_isBalking ki_X5 hd_X5_isBalking rfl rfl ⟨Nat.le_of_ble_eq_true rfl, Nat.le_of_ble_eq_true rfl, rfl, rfl⟩ (Nat.le_of_ble_eq_true rfl) dX5_layWays_188 rfl rfl rfl ⟨Nat.zero_le _, Nat.zero_le _⟩ ?_
                      refine ww_perm (perm_mv 6 1 1 _) ?_
                      simp only [List.drop_succ_cons, List.drop_zero, List.take_succ_cons, List.take_zero, List.cons_append, List.nil_append, Nat.reduceAdd]
                      refine ww_istore (i := 8) C0 dX5_layWays_191 (Nat.le_of_ble_eq_true rfl) rfl ?_
                      simp only [List.set_cons_zero, List.set_cons_succ]
                      refine ww_iload C0 dX5_layWays_193 rfl ?_
                      refine ww_if_eq (tgt := 213) C0 dX5_layWays_195 (by decide) (fun h195 => ?_) (fun h195 => ?_)
                      · skip
                        replace h195 := (nI_eqE (a := 0) (b := 0) rfl rfl (by omega) (by omega)).mp h195
                        refine ww_iinc (d := 1) C0 dX5_layWays_213 rfl rfl rfl ?_
                        simp only [List.set_cons_zero, List.set_cons_succ]
                        refine ww_goto (tgt := 77) C0 dX5_layWays_216 (by decide) ?_
                        exact ww_back ih ⟨Or.inr rfl, Or.inr rfl, Or.inr rfl, Or.inr rfl, Or.inr rfl, Or.inr (congrArg Value.int (nI_addE (a := w) (b := 1) rfl rfl).symm), Or.inl rfl, Or.inl rfl, Or.inl rfl, trivial⟩ (by (simp only [show ¬ w + 1 = 0 by omega, if_false, mLayW_s]; first | rw [mLay1_a h114] | rw [mLay1_b h114 h125] | rw [mLay1_c h114 h125 h132] | rw [mLay1_d h114 h125 h132 hcl h144] | rw [mLay1_e h114 h125 h132 hcl h144 hb2] | rw [mLay1_f h114 h125 h132 hcl h144 hb2]))
                      · skip
                        replace h195 := (not_congr (nI_eqE (a := 0) (b := 0) rfl rfl (by omega) (by omega))).mp h195
                        exfalso; omega
                    · skip
                      refine ww_aload_n C0 dX5_layWays_158 rfl ?_
                      refine ww_aload_n C0 dX5_layWays_159 rfl ?_
                      refine ww_get C0 (ci := 5) (C := RX5) (T := TX5) (N := 33) ku_X5 0 rfl rfl 15 (by decide) kw_X5_34 rfl dX5_layWays_160 ?_
                      refine ww_iload_n C0 dX5_layWays_163 rfl ?_
                      refine ww_iload C0 dX5_layWays_164 rfl ?_
                      refine ww_perm (perm_mv 6 1 1 _) ?_
                      simp only [List.drop_succ_cons, List.drop_zero, List.take_succ_cons, List.take_zero, List.cons_append, List.nil_append, Nat.reduceAdd]
                      refine ww_callVi C0 (qc := (RX5, TX5, 33)) 0 5 (c_X5_forbids l D cI cZ cQ hnm hna hk) kd_X5_forbids kw_X5_130 km_X5_forbids kl_X5_forbids ki_X5 hd_X5_forbids rfl rfl ⟨Nat.le_of_ble_eq_true rfl, Nat.le_of_ble_eq_true rfl, rfl, rfl⟩ (Nat.le_of_ble_eq_true rfl) dX5_layWays_166 rfl rfl rfl ⟨Nat.zero_le _, Nat.zero_le _⟩ ?_
                      refine ww_perm (perm_mv 6 1 1 _) ?_
                      simp only [List.drop_succ_cons, List.drop_zero, List.take_succ_cons, List.take_zero, List.cons_append, List.nil_append, Nat.reduceAdd]
                      refine ww_if_eq (tgt := 176) C0 dX5_layWays_169 (by decide) (fun h169 => ?_) (fun h169 => ?_)
                      · skip
                        have hb : F t (nI s) (nI w) = false := by rw [hF]; simp only [h155, if_true, h169, decide_true, Bool.not_true]
                        refine ww_iconst (v := (0)) C0 dX5_layWays_176 rfl ?_
                        refine ww_goto (tgt := 191) C0 dX5_layWays_177 (by decide) ?_
                        refine ww_istore (i := 8) C0 dX5_layWays_191 (Nat.le_of_ble_eq_true rfl) rfl ?_
                        simp only [List.set_cons_zero, List.set_cons_succ]
                        refine ww_iload C0 dX5_layWays_193 rfl ?_
                        refine ww_if_eq (tgt := 213) C0 dX5_layWays_195 (by decide) (fun h195 => ?_) (fun h195 => ?_)
                        · skip
                          replace h195 := (nI_eqE (a := 0) (b := 0) rfl rfl (by omega) (by omega)).mp h195
                          refine ww_iinc (d := 1) C0 dX5_layWays_213 rfl rfl rfl ?_
                          simp only [List.set_cons_zero, List.set_cons_succ]
                          refine ww_goto (tgt := 77) C0 dX5_layWays_216 (by decide) ?_
                          exact ww_back ih ⟨Or.inr rfl, Or.inr rfl, Or.inr rfl, Or.inr rfl, Or.inr rfl, Or.inr (congrArg Value.int (nI_addE (a := w) (b := 1) rfl rfl).symm), Or.inl rfl, Or.inl rfl, Or.inl rfl, trivial⟩ (by (simp only [show ¬ w + 1 = 0 by omega, if_false, mLayW_s]; first | rw [mLay1_a h114] | rw [mLay1_b h114 h125] | rw [mLay1_c h114 h125 h132] | rw [mLay1_d h114 h125 h132 hcl h144] | rw [mLay1_e h114 h125 h132 hcl h144 hb2] | rw [mLay1_f h114 h125 h132 hcl h144 hb2]))
                        · skip
                          replace h195 := (not_congr (nI_eqE (a := 0) (b := 0) rfl rfl (by omega) (by omega))).mp h195
                          exfalso; omega
                      · skip
                        have hb : F t (nI s) (nI w) = true := by rw [hF]; simp only [h155, if_true, h169, decide_false, Bool.not_false]
                        refine ww_iconst (v := (1)) C0 dX5_layWays_172 rfl ?_
                        refine ww_goto (tgt := 191) C0 dX5_layWays_173 (by decide) ?_
                        refine ww_istore (i := 8) C0 dX5_layWays_191 (Nat.le_of_ble_eq_true rfl) rfl ?_
                        simp only [List.set_cons_zero, List.set_cons_succ]
                        refine ww_iload C0 dX5_layWays_193 rfl ?_
                        refine ww_if_eq (tgt := 213) C0 dX5_layWays_195 (by decide) (fun h195 => ?_) (fun h195 => ?_)
                        · skip
                          replace h195 := (nI_eqE (a := 0) (b := 0) rfl rfl (by omega) (by omega)).mp h195
                          refine ww_iinc (d := 1) C0 dX5_layWays_213 rfl rfl rfl ?_
                          simp only [List.set_cons_zero, List.set_cons_succ]
                          refine ww_goto (tgt := 77) C0 dX5_layWays_216 (by decide) ?_
                          exact ww_back ih ⟨Or.inr rfl, Or.inr rfl, Or.inr rfl, Or.inr rfl, Or.inr rfl, Or.inr (congrArg Value.int (nI_addE (a := w) (b := 1) rfl rfl).symm), Or.inl rfl, Or.inl rfl, Or.inl rfl, trivial⟩ (by (simp only [show ¬ w + 1 = 0 by omega, if_false, mLayW_s]; first | rw [mLay1_a h114] | rw [mLay1_b h114 h125] | rw [mLay1_c h114 h125 h132] | rw [mLay1_d h114 h125 h132 hcl h144] | rw [mLay1_e h114 h125 h132 hcl h144 hb2] | rw [mLay1_f h114 h125 h132 hcl h144 hb2]))
                        · skip
                          replace h195 := (not_congr (nI_eqE (a := 0) (b := 0) rfl rfl (by omega) (by omega))).mp h195
                          exfalso; omega
                  · skip
                    refine ww_aload_n C0 dX5_layWays_117 rfl ?_
                    refine ww_get C0 (ci := 5) (C := RX5) (T := TX5) (N := 33) ku_X5 0 rfl rfl 27 (by decide) kw_X5_62 rfl dX5_layWays_118 ?_
                    refine ww_iload C0 dX5_layWays_121 rfl ?_
                    refine ww_iald_n (j := s) C0 18 0 rfl rfl rfl (by omega) (by decide) dX5_layWays_123 ?_
                    refine ww_iload_n C0 dX5_layWays_124 rfl ?_
                    refine ww_icmp_gt (tgt := 151) C0 dX5_layWays_125 (by decide) (fun h125 => ?_) (fun h125 => ?_)
                    · skip
                      refine ww_iconst (v := (0)) C0 dX5_layWays_151 rfl ?_
                      refine ww_istore (i := 7) C0 dX5_layWays_152 (Nat.le_of_ble_eq_true rfl) rfl ?_
                      simp only [List.set_cons_zero, List.set_cons_succ]
                      refine ww_iload_n C0 dX5_layWays_154 rfl ?_
                      refine ww_bif_eq (tgt := 180) C0 dX5_layWays_155 (by decide) (fun h155 => ?_) (fun h155 => ?_)
                      · skip
                        refine ww_aload_n C0 dX5_layWays_180 rfl ?_
                        refine ww_aload_n C0 dX5_layWays_181 rfl ?_
                        refine ww_get C0 (ci := 5) (C := RX5) (T := TX5) (N := 33) ku_X5 0 rfl rfl 15 (by decide) kw_X5_34 rfl dX5_layWays_182 ?_
                        refine ww_iload_n C0 dX5_layWays_185 rfl ?_
                        refine ww_iload C0 dX5_layWays_186 rfl ?_
                        refine ww_perm (perm_mv 6 1 1 _) ?_
                        simp only [List.drop_succ_cons, List.drop_zero, List.take_succ_cons, List.take_zero, List.cons_append, List.nil_append, Nat.reduceAdd]
                        refine ww_callVi C0 (qc := (RX5, TX5, 33)) 0 5 (c_X5_isBalking l D cI cZ cQ hnm hna hk) kd_X5_isBalking kw_X5_164 km_X5_isBalking kl_X5_isBalking ki_X5 hd_X5_isBalking rfl rfl ⟨Nat.le_of_ble_eq_true rfl, Nat.le_of_ble_eq_true rfl, rfl, rfl⟩ (Nat.le_of_ble_eq_true rfl) dX5_layWays_188 rfl rfl rfl ⟨Nat.zero_le _, Nat.zero_le _⟩ ?_
                        refine ww_perm (perm_mv 6 1 1 _) ?_
                        simp only [List.drop_succ_cons, List.drop_zero, List.take_succ_cons, List.take_zero, List.cons_append, List.nil_append, Nat.reduceAdd]
                        refine ww_istore (i := 8) C0 dX5_layWays_191 (Nat.le_of_ble_eq_true rfl) rfl ?_
                        simp only [List.set_cons_zero, List.set_cons_succ]
                        refine ww_iload C0 dX5_layWays_193 rfl ?_
                        refine ww_if_eq (tgt := 213) C0 dX5_layWays_195 (by decide) (fun h195 => ?_) (fun h195 => ?_)
                        · skip
                          replace h195 := (nI_eqE (a := 0) (b := 0) rfl rfl (by omega) (by omega)).mp h195
                          refine ww_iinc (d := 1) C0 dX5_layWays_213 rfl rfl rfl ?_
                          simp only [List.set_cons_zero, List.set_cons_succ]
                          refine ww_goto (tgt := 77) C0 dX5_layWays_216 (by decide) ?_
                          exact ww_back ih ⟨Or.inr rfl, Or.inr rfl, Or.inr rfl, Or.inr rfl, Or.inr rfl, Or.inr (congrArg Value.int (nI_addE (a := w) (b := 1) rfl rfl).symm), Or.inl rfl, Or.inl rfl, Or.inl rfl, trivial⟩ (by (simp only [show ¬ w + 1 = 0 by omega, if_false, mLayW_s]; first | rw [mLay1_a h114] | rw [mLay1_b h114 h125] | rw [mLay1_c h114 h125 h132] | rw [mLay1_d h114 h125 h132 hcl h144] | rw [mLay1_e h114 h125 h132 hcl h144 hb2] | rw [mLay1_f h114 h125 h132 hcl h144 hb2]))
                        · skip
                          replace h195 := (not_congr (nI_eqE (a := 0) (b := 0) rfl rfl (by omega) (by omega))).mp h195
                          exfalso; omega
                      · skip
                        refine ww_aload_n C0 dX5_layWays_158 rfl ?_
                        refine ww_aload_n C0 dX5_layWays_159 rfl ?_
                        refine ww_get C0 (ci := 5) (C := RX5) (T := TX5) (N := 33) ku_X5 0 rfl rfl 15 (by decide) kw_X5_34 rfl dX5_layWays_160 ?_
                        refine ww_iload_n C0 dX5_layWays_163 rfl ?_
                        refine ww_iload C0 dX5_layWays_164 rfl ?_
                        refine ww_perm (perm_mv 6 1 1 _) ?_
                        simp only [List.drop_succ_cons, List.drop_zero, List.take_succ_cons, List.take_zero, List.cons_append, List.nil_append, Nat.reduceAdd]
                        refine ww_callVi C0 (qc := (RX5, TX5, 33)) 0 5 (c_X5_forbids l D cI cZ cQ hnm hna hk) kd_X5_forbids kw_X5_130 km_X5_forbids kl_X5_forbids ki_X5 hd_X5_forbids rfl rfl ⟨Nat.le_of_ble_eq_true rfl, Nat.le_of_ble_eq_true rfl, rfl, rfl⟩ (Nat.le_of_ble_eq_true rfl) dX5_layWays_166 rfl rfl rfl ⟨Nat.zero_le _, Nat.zero_le _⟩ ?_
                        refine ww_perm (perm_mv 6 1 1 _) ?_
                        simp only [List.drop_succ_cons, List.drop_zero, List.take_succ_cons, List.take_zero, List.cons_append, List.nil_append, Nat.reduceAdd]
                        refine ww_if_eq (tgt := 176) C0 dX5_layWays_169 (by decide) (fun h169 => ?_) (fun h169 => ?_)
                        · skip
                          have hb : F t (nI s) (nI w) = false := by rw [hF]; simp only [h155, if_true, h169, decide_true, Bool.not_true]
                          refine ww_iconst (v := (0)) C0 dX5_layWays_176 rfl ?_
                          refine ww_goto (tgt := 191) C0 dX5_layWays_177 (by decide) ?_
                          refine ww_istore (i := 8) C0 dX5_layWays_191 (Nat.le_of_ble_eq_true rfl) rfl ?_
                          simp only [List.set_cons_zero, List.set_cons_succ]
                          refine ww_iload C0 dX5_layWays_193 rfl ?_
                          refine ww_if_eq (tgt := 213) C0 dX5_layWays_195 (by decide) (fun h195 => ?_) (fun h195 => ?_)
                          · skip
                            replace h195 := (nI_eqE (a := 0) (b := 0) rfl rfl (by omega) (by omega)).mp h195
                            refine ww_iinc (d := 1) C0 dX5_layWays_213 rfl rfl rfl ?_
                            simp only [List.set_cons_zero, List.set_cons_succ]
                            refine ww_goto (tgt := 77) C0 dX5_layWays_216 (by decide) ?_
                            exact ww_back ih ⟨Or.inr rfl, Or.inr rfl, Or.inr rfl, Or.inr rfl, Or.inr rfl, Or.inr (congrArg Value.int (nI_addE (a := w) (b := 1) rfl rfl).symm), Or.inl rfl, Or.inl rfl, Or.inl rfl, trivial⟩ (by (simp only [show ¬ w + 1 = 0 by omega, if_false, mLayW_s]; first | rw [mLay1_a h114] | rw [mLay1_b h114 h125] | rw [mLay1_c h114 h125 h132] | rw [mLay1_d h114 h125 h132 hcl h144] | rw [mLay1_e h114 h125 h132 hcl h144 hb2] | rw [mLay1_f h114 h125 h132 hcl h144 hb2]))
                          · skip
                            replace h195 := (not_congr (nI_eqE (a := 0) (b := 0) rfl rfl (by omega) (by omega))).mp h195
                            exfalso; omega
                        · skip
                          have hb : F t (nI s) (nI w) = true := by rw [hF]; simp only [h155, if_true, h169, decide_false, Bool.not_false]
                          refine ww_iconst (v := (1)) C0 dX5_layWays_172 rfl ?_
                          refine ww_goto (tgt := 191) C0 dX5_layWays_173 (by decide) ?_
                          refine ww_istore (i := 8) C0 dX5_layWays_191 (Nat.le_of_ble_eq_true rfl) rfl ?_
                          simp only [List.set_cons_zero, List.set_cons_succ]
                          refine ww_iload C0 dX5_layWays_193 rfl ?_
                          refine ww_if_eq (tgt := 213) C0 dX5_layWays_195 (by decide) (fun h195 => ?_) (fun h195 => ?_)
                          · skip
                            replace h195 := (nI_eqE (a := 0) (b := 0) rfl rfl (by omega) (by omega)).mp h195
                            refine ww_iinc (d := 1) C0 dX5_layWays_213 rfl rfl rfl ?_
                            simp only [List.set_cons_zero, List.set_cons_succ]
                            refine ww_goto (tgt := 77) C0 dX5_layWays_216 (by decide) ?_
                            exact ww_back ih ⟨Or.inr rfl, Or.inr rfl, Or.inr rfl, Or.inr rfl, Or.inr rfl, Or.inr (congrArg Value.int (nI_addE (a := w) (b := 1) rfl rfl).symm), Or.inl rfl, Or.inl rfl, Or.inl rfl, trivial⟩ (by (simp only [show ¬ w + 1 = 0 by omega, if_false, mLayW_s]; first | rw [mLay1_a h114] | rw [mLay1_b h114 h125] | rw [mLay1_c h114 h125 h132] | rw [mLay1_d h114 h125 h132 hcl h144] | rw [mLay1_e h114 h125 h132 hcl h144 hb2] | rw [mLay1_f h114 h125 h132 hcl h144 hb2]))
                          · skip
                            replace h195 := (not_congr (nI_eqE (a := 0) (b := 0) rfl rfl (by omega) (by omega))).mp h195
                            exfalso; omega
                    · skip
                      refine ww_iload C0 dX5_layWays_128 rfl ?_
                      refine ww_bipush (v := (-9)) C0 dX5_layWays_130 rfl ?_
                      refine ww_icmp_eq (tgt := 151) C0 dX5_layWays_132 (by decide) (fun h132 => ?_) (fun h132 => ?_)
                      · skip
                        refine ww_iconst (v := (0)) C0 dX5_layWays_151 rfl ?_
                        refine ww_istore (i := 7) C0 dX5_layWays_152 (Nat.le_of_ble_eq_true rfl) rfl ?_
                        simp only [List.set_cons_zero, List.set_cons_succ]
                        refine ww_iload_n C0 dX5_layWays_154 rfl ?_
                        refine ww_bif_eq (tgt := 180) C0 dX5_layWays_155 (by decide) (fun h155 => ?_) (fun h155 => ?_)
                        · skip
                          refine ww_aload_n C0 dX5_layWays_180 rfl ?_
                          refine ww_aload_n C0 dX5_layWays_181 rfl ?_
                          refine ww_get C0 (ci := 5) (C := RX5) (T := TX5) (N := 33) ku_X5 0 rfl rfl 15 (by decide) kw_X5_34 rfl dX5_layWays_182 ?_
                          refine ww_iload_n C0 dX5_layWays_185 rfl ?_
                          refine ww_iload C0 dX5_layWays_186 rfl ?_
                          refine ww_perm (perm_mv 6 1 1 _) ?_
                          simp only [List.drop_succ_cons, List.drop_zero, List.take_succ_cons, List.take_zero, List.cons_append, List.nil_append, Nat.reduceAdd]
                          refine ww_callVi C0 (qc := (RX5, TX5, 33)) 0 5 (c_X5_isBalking l D cI cZ cQ hnm hna hk) kd_X5_isBalking kw_X5_164 km_X5_isBalking kl_X5_isBalking ki_X5 hd_X5_isBalking rfl rfl ⟨Nat.le_of_ble_eq_true rfl, Nat.le_of_ble_eq_true rfl, rfl, rfl⟩ (Nat.le_of_ble_eq_true rfl) dX5_layWays_188 rfl rfl rfl ⟨Nat.zero_le _, Nat.zero_le _⟩ ?_
                          refine ww_perm (perm_mv 6 1 1 _) ?_
                          simp only [List.drop_succ_cons, List.drop_zero, List.take_succ_cons, List.take_zero, List.cons_append, List.nil_append, Nat.reduceAdd]
                          refine ww_istore (i := 8) C0 dX5_layWays_191 (Nat.le_of_ble_eq_true rfl) rfl ?_
                          simp only [List.set_cons_zero, List.set_cons_succ]
                          refine ww_iload C0 dX5_layWays_193 rfl ?_
                          refine ww_if_eq (tgt := 213) C0 dX5_layWays_195 (by decide) (fun h195 => ?_) (fun h195 => ?_)
                          · skip
                            replace h195 := (nI_eqE (a := 0) (b := 0) rfl rfl (by omega) (by omega)).mp h195
                            refine ww_iinc (d := 1) C0 dX5_layWays_213 rfl rfl rfl ?_
                            simp only [List.set_cons_zero, List.set_cons_succ]
                            refine ww_goto (tgt := 77) C0 dX5_layWays_216 (by decide) ?_
                            exact ww_back ih ⟨Or.inr rfl, Or.inr rfl, Or.inr rfl, Or.inr rfl, Or.inr rfl, Or.inr (congrArg Value.int (nI_addE (a := w) (b := 1) rfl rfl).symm), Or.inl rfl, Or.inl rfl, Or.inl rfl, trivial⟩ (by (simp only [show ¬ w + 1 = 0 by omega, if_false, mLayW_s]; first | rw [mLay1_a h114] | rw [mLay1_b h114 h125] | rw [mLay1_c h114 h125 h132] | rw [mLay1_d h114 h125 h132 hcl h144] | rw [mLay1_e h114 h125 h132 hcl h144 hb2] | rw [mLay1_f h114 h125 h132 hcl h144 hb2]))
                          · skip
                            replace h195 := (not_congr (nI_eqE (a := 0) (b := 0) rfl rfl (by omega) (by omega))).mp h195
                            exfalso; omega
                        · skip
                          refine ww_aload_n C0 dX5_layWays_158 rfl ?_
                          refine ww_aload_n C0 dX5_layWays_159 rfl ?_
                          refine ww_get C0 (ci := 5) (C := RX5) (T := TX5) (N := 33) ku_X5 0 rfl rfl 15 (by decide) kw_X5_34 rfl dX5_layWays_160 ?_
                          refine ww_iload_n C0 dX5_layWays_163 rfl ?_
                          refine ww_iload C0 dX5_layWays_164 rfl ?_
                          refine ww_perm (perm_mv 6 1 1 _) ?_
                          simp only [List.drop_succ_cons, List.drop_zero, List.take_succ_cons, List.take_zero, List.cons_append, List.nil_append, Nat.reduceAdd]
                          refine ww_callVi C0 (qc := (RX5, TX5, 33)) 0 5 (c_X5_forbids l D cI cZ cQ hnm hna hk) kd_X5_forbids kw_X5_130 km_X5_forbids kl_X5_forbids ki_X5 hd_X5_forbids rfl rfl ⟨Nat.le_of_ble_eq_true rfl, Nat.le_of_ble_eq_true rfl, rfl, rfl⟩ (Nat.le_of_ble_eq_true rfl) dX5_layWays_166 rfl rfl rfl ⟨Nat.zero_le _, Nat.zero_le _⟩ ?_
                          refine ww_perm (perm_mv 6 1 1 _) ?_
                          simp only [List.drop_succ_cons, List.drop_zero, List.take_succ_cons, List.take_zero, List.cons_append, List.nil_append, Nat.reduceAdd]
                          refine ww_if_eq (tgt := 176) C0 dX5_layWays_169 (by decide) (fun h169 => ?_) (fun h169 => ?_)
                          · skip
                            have hb : F t (nI s) (nI w) = false := by rw [hF]; simp only [h155, if_true, h169, decide_true, Bool.not_true]
                            refine ww_iconst (v := (0)) C0 dX5_layWays_176 rfl ?_
                            refine ww_goto (tgt := 191) C0 dX5_layWays_177 (by decide) ?_
                            refine ww_istore (i := 8) C0 dX5_layWays_191 (Nat.le_of_ble_eq_true rfl) rfl ?_
                            simp only [List.set_cons_zero, List.set_cons_succ]
                            refine ww_iload C0 dX5_layWays_193 rfl ?_
                            refine ww_if_eq (tgt := 213) C0 dX5_layWays_195 (by decide) (fun h195 => ?_) (fun h195 => ?_)
                            · skip
                              replace h195 := (nI_eqE (a := 0) (b := 0) rfl rfl (by omega) (by omega)).mp h195
                              refine ww_iinc (d := 1) C0 dX5_layWays_213 rfl rfl rfl ?_
                              simp only [List.set_cons_zero, List.set_cons_succ]
                              refine ww_goto (tgt := 77) C0 dX5_layWays_216 (by decide) ?_
                              exact ww_back ih ⟨Or.inr rfl, Or.inr rfl, Or.inr rfl, Or.inr rfl, Or.inr rfl, Or.inr (congrArg Value.int (nI_addE (a := w) (b := 1) rfl rfl).symm), Or.inl rfl, Or.inl rfl, Or.inl rfl, trivial⟩ (by (simp only [show ¬ w + 1 = 0 by omega, if_false, mLayW_s]; first | rw [mLay1_a h114] | rw [mLay1_b h114 h125] | rw [mLay1_c h114 h125 h132] | rw [mLay1_d h114 h125 h132 hcl h144] | rw [mLay1_e h114 h125 h132 hcl h144 hb2] | rw [mLay1_f h114 h125 h132 hcl h144 hb2]))
                            · skip
                              replace h195 := (not_congr (nI_eqE (a := 0) (b := 0) rfl rfl (by omega) (by omega))).mp h195
                              exfalso; omega
                          · skip
                            have hb : F t (nI s) (nI w) = true := by rw [hF]; simp only [h155, if_true, h169, decide_false, Bool.not_false]
                            refine ww_iconst (v := (1)) C0 dX5_layWays_172 rfl ?_
                            refine ww_goto (tgt := 191) C0 dX5_layWays_173 (by decide) ?_
                            refine ww_istore (i := 8) C0 dX5_layWays_191 (Nat.le_of_ble_eq_true rfl) rfl ?_
                            simp only [List.set_cons_zero, List.set_cons_succ]
                            refine ww_iload C0 dX5_layWays_193 rfl ?_
                            refine ww_if_eq (tgt := 213) C0 dX5_layWays_195 (by decide) (fun h195 => ?_) (fun h195 => ?_)
                            · skip
                              replace h195 := (nI_eqE (a := 0) (b := 0) rfl rfl (by omega) (by omega)).mp h195
                              refine ww_iinc (d := 1) C0 dX5_layWays_213 rfl rfl rfl ?_
                              simp only [List.set_cons_zero, List.set_cons_succ]
                              refine ww_goto (tgt := 77) C0 dX5_layWays_216 (by decide) ?_
                              exact ww_back ih ⟨Or.inr rfl, Or.inr rfl, Or.inr rfl, Or.inr rfl, Or.inr rfl, Or.inr (congrArg Value.int (nI_addE (a := w) (b := 1) rfl rfl).symm), Or.inl rfl, Or.inl rfl, Or.inl rfl, trivial⟩ (by (simp only [show ¬ w + 1 = 0 by omega, if_false, mLayW_s]; first | rw [mLay1_a h114] | rw [mLay1_b h114 h125] | rw [mLay1_c h114 h125 h132] | rw [mLay1_d h114 h125 h132 hcl h144] | rw [mLay1_e h114 h125 h132 hcl h144 hb2] | rw [mLay1_f h114 h125 h132 hcl h144 hb2]))
                            · skip
                              replace h195 := (not_congr (nI_eqE (a := 0) (b := 0) rfl rfl (by omega) (by omega))).mp h195
                              exfalso; omega
                      · skip
                        obtain ⟨q, hq, hto, hcl⟩ := mTo_of h132
                        refine ww_aload_n C0 dX5_layWays_135 rfl ?_
                        refine ww_get C0 (ci := 5) (C := RX5) (T := TX5) (N := 33) ku_X5 0 rfl rfl 27 (by decide) kw_X5_62 rfl dX5_layWays_136 ?_
                        refine ww_iload C0 dX5_layWays_139 rfl ?_
                        refine ww_iald_n (j := q) C0 18 0 rfl rfl hto (by omega) (by decide) dX5_layWays_141 ?_
                        refine ww_bipush (v := (-9)) C0 dX5_layWays_142 rfl ?_
                        refine ww_icmp_ne (tgt := 151) C0 dX5_layWays_144 (by decide) (fun h144 => ?_) (fun h144 => ?_)
                        · skip
                          refine ww_iconst (v := (0)) C0 dX5_layWays_151 rfl ?_
                          refine ww_istore (i := 7) C0 dX5_layWays_152 (Nat.le_of_ble_eq_true rfl) rfl ?_
                          simp only [List.set_cons_zero, List.set_cons_succ]
                          refine ww_iload_n C0 dX5_layWays_154 rfl ?_
                          refine ww_bif_eq (tgt := 180) C0 dX5_layWays_155 (by decide) (fun h155 => ?_) (fun h155 => ?_)
                          · skip
                            refine ww_aload_n C0 dX5_layWays_180 rfl ?_
                            refine ww_aload_n C0 dX5_layWays_181 rfl ?_
                            refine ww_get C0 (ci := 5) (C := RX5) (T := TX5) (N := 33) ku_X5 0 rfl rfl 15 (by decide) kw_X5_34 rfl dX5_layWays_182 ?_
                            refine ww_iload_n C0 dX5_layWays_185 rfl ?_
                            refine ww_iload C0 dX5_layWays_186 rfl ?_
                            refine ww_perm (perm_mv 6 1 1 _) ?_
                            simp only [List.drop_succ_cons, List.drop_zero, List.take_succ_cons, List.take_zero, List.cons_append, List.nil_append, Nat.reduceAdd]
                            refine ww_callVi C0 (qc := (RX5, TX5, 33)) 0 5 (c_X5_isBalking l D cI cZ cQ hnm hna hk) kd_X5_isBalking kw_X5_164 km_X5_isBalking kl_X5_isBalking ki_X5 hd_X5_isBalking rfl rfl ⟨Nat.le_of_ble_eq_true rfl, Nat.le_of_ble_eq_true rfl, rfl, rfl⟩ (Nat.le_of_ble_eq_true rfl) dX5_layWays_188 rfl rfl rfl ⟨Nat.zero_le _, Nat.zero_le _⟩ ?_
                            refine ww_perm (perm_mv 6 1 1 _) ?_
                            simp only [List.drop_succ_cons, List.drop_zero, List.take_succ_cons, List.take_zero, List.cons_append, List.nil_append, Nat.reduceAdd]
                            refine ww_istore (i := 8) C0 dX5_layWays_191 (Nat.le_of_ble_eq_true rfl) rfl ?_
                            simp only [List.set_cons_zero, List.set_cons_succ]
                            refine ww_iload C0 dX5_layWays_193 rfl ?_
                            refine ww_if_eq (tgt := 213) C0 dX5_layWays_195 (by decide) (fun h195 => ?_) (fun h195 => ?_)
                            · skip
                              replace h195 := (nI_eqE (a := 0) (b := 0) rfl rfl (by omega) (by omega)).mp h195
                              refine ww_iinc (d := 1) C0 dX5_layWays_213 rfl rfl rfl ?_
                              simp only [List.set_cons_zero, List.set_cons_succ]
                              refine ww_goto (tgt := 77) C0 dX5_layWays_216 (by decide) ?_
                              exact ww_back ih ⟨Or.inr rfl, Or.inr rfl, Or.inr rfl, Or.inr rfl, Or.inr rfl, Or.inr (congrArg Value.int (nI_addE (a := w) (b := 1) rfl rfl).symm), Or.inl rfl, Or.inl rfl, Or.inl rfl, trivial⟩ (by (simp only [show ¬ w + 1 = 0 by omega, if_false, mLayW_s]; first | rw [mLay1_a h114] | rw [mLay1_b h114 h125] | rw [mLay1_c h114 h125 h132] | rw [mLay1_d h114 h125 h132 hcl h144] | rw [mLay1_e h114 h125 h132 hcl h144 hb2] | rw [mLay1_f h114 h125 h132 hcl h144 hb2]))
                            · skip
                              replace h195 := (not_congr (nI_eqE (a := 0) (b := 0) rfl rfl (by omega) (by omega))).mp h195
                              exfalso; omega
                          · skip
                            refine ww_aload_n C0 dX5_layWays_158 rfl ?_
                            refine ww_aload_n C0 dX5_layWays_159 rfl ?_
                            refine ww_get C0 (ci := 5) (C := RX5) (T := TX5) (N := 33) ku_X5 0 rfl rfl 15 (by decide) kw_X5_34 rfl dX5_layWays_160 ?_
                            refine ww_iload_n C0 dX5_layWays_163 rfl ?_
                            refine ww_iload C0 dX5_layWays_164 rfl ?_
                            refine ww_perm (perm_mv 6 1 1 _) ?_
                            simp only [List.drop_succ_cons, List.drop_zero, List.take_succ_cons, List.take_zero, List.cons_append, List.nil_append, Nat.reduceAdd]
                            refine ww_callVi C0 (qc := (RX5, TX5, 33)) 0 5 (c_X5_forbids l D cI cZ cQ hnm hna hk) kd_X5_forbids kw_X5_130 km_X5_forbids kl_X5_forbids ki_X5 hd_X5_forbids rfl rfl ⟨Nat.le_of_ble_eq_true rfl, Nat.le_of_ble_eq_true rfl, rfl, rfl⟩ (Nat.le_of_ble_eq_true rfl) dX5_layWays_166 rfl rfl rfl ⟨Nat.zero_le _, Nat.zero_le _⟩ ?_
                            refine ww_perm (perm_mv 6 1 1 _) ?_
                            simp only [List.drop_succ_cons, List.drop_zero, List.take_succ_cons, List.take_zero, List.cons_append, List.nil_append, Nat.reduceAdd]
                            refine ww_if_eq (tgt := 176) C0 dX5_layWays_169 (by decide) (fun h169 => ?_) (fun h169 => ?_)
                            · skip
                              have hb : F t (nI s) (nI w) = false := by rw [hF]; simp only [h155, if_true, h169, decide_true, Bool.not_true]
                              refine ww_iconst (v := (0)) C0 dX5_layWays_176 rfl ?_
                              refine ww_goto (tgt := 191) C0 dX5_layWays_177 (by decide) ?_
                              refine ww_istore (i := 8) C0 dX5_layWays_191 (Nat.le_of_ble_eq_true rfl) rfl ?_
                              simp only [List.set_cons_zero, List.set_cons_succ]
                              refine ww_iload C0 dX5_layWays_193 rfl ?_
                              refine ww_if_eq (tgt := 213) C0 dX5_layWays_195 (by decide) (fun h195 => ?_) (fun h195 => ?_)
                              · skip
                                replace h195 := (nI_eqE (a := 0) (b := 0) rfl rfl (by omega) (by omega)).mp h195
                                refine ww_iinc (d := 1) C0 dX5_layWays_213 rfl rfl rfl ?_
                                simp only [List.set_cons_zero, List.set_cons_succ]
                                refine ww_goto (tgt := 77) C0 dX5_layWays_216 (by decide) ?_
                                exact ww_back ih ⟨Or.inr rfl, Or.inr rfl, Or.inr rfl, Or.inr rfl, Or.inr rfl, Or.inr (congrArg Value.int (nI_addE (a := w) (b := 1) rfl rfl).symm), Or.inl rfl, Or.inl rfl, Or.inl rfl, trivial⟩ (by (simp only [show ¬ w + 1 = 0 by omega, if_false, mLayW_s]; first | rw [mLay1_a h114] | rw [mLay1_b h114 h125] | rw [mLay1_c h114 h125 h132] | rw [mLay1_d h114 h125 h132 hcl h144] | rw [mLay1_e h114 h125 h132 hcl h144 hb2] | rw [mLay1_f h114 h125 h132 hcl h144 hb2]))
                              · skip
                                replace h195 := (not_congr (nI_eqE (a := 0) (b := 0) rfl rfl (by omega) (by omega))).mp h195
                                exfalso; omega
                            · skip
                              have hb : F t (nI s) (nI w) = true := by rw [hF]; simp only [h155, if_true, h169, decide_false, Bool.not_false]
                              refine ww_iconst (v := (1)) C0 dX5_layWays_172 rfl ?_
                              refine ww_goto (tgt := 191) C0 dX5_layWays_173 (by decide) ?_
                              refine ww_istore (i := 8) C0 dX5_layWays_191 (Nat.le_of_ble_eq_true rfl) rfl ?_
                              simp only [List.set_cons_zero, List.set_cons_succ]
                              refine ww_iload C0 dX5_layWays_193 rfl ?_
                              refine ww_if_eq (tgt := 213) C0 dX5_layWays_195 (by decide) (fun h195 => ?_) (fun h195 => ?_)
                              · skip
                                replace h195 := (nI_eqE (a := 0) (b := 0) rfl rfl (by omega) (by omega)).mp h195
                                refine ww_iinc (d := 1) C0 dX5_layWays_213 rfl rfl rfl ?_
                                simp only [List.set_cons_zero, List.set_cons_succ]
                                refine ww_goto (tgt := 77) C0 dX5_layWays_216 (by decide) ?_
                                exact ww_back ih ⟨Or.inr rfl, Or.inr rfl, Or.inr rfl, Or.inr rfl, Or.inr rfl, Or.inr (congrArg Value.int (nI_addE (a := w) (b := 1) rfl rfl).symm), Or.inl rfl, Or.inl rfl, Or.inl rfl, trivial⟩ (by (simp only [show ¬ w + 1 = 0 by omega, if_false, mLayW_s]; first | rw [mLay1_a h114] | rw [mLay1_b h114 h125] | rw [mLay1_c h114 h125 h132] | rw [mLay1_d h114 h125 h132 hcl h144] | rw [mLay1_e h114 h125 h132 hcl h144 hb2] | rw [mLay1_f h114 h125 h132 hcl h144 hb2]))
                              · skip
                                replace h195 := (not_congr (nI_eqE (a := 0) (b := 0) rfl rfl (by omega) (by omega))).mp h195
                                exfalso; omega
                        · skip
                          refine ww_iconst (v := (1)) C0 dX5_layWays_147 rfl ?_
                          refine ww_goto (tgt := 152) C0 dX5_layWays_148 (by decide) ?_
                          refine ww_istore (i := 7) C0 dX5_layWays_152 (Nat.le_of_ble_eq_true rfl) rfl ?_
                          simp only [List.set_cons_zero, List.set_cons_succ]
                          refine ww_iload_n C0 dX5_layWays_154 rfl ?_
                          refine ww_bif_eq (tgt := 180) C0 dX5_layWays_155 (by decide) (fun h155 => ?_) (fun h155 => ?_)
                          · skip
                            refine ww_aload_n C0 dX5_layWays_180 rfl ?_
                            refine ww_aload_n C0 dX5_layWays_181 rfl ?_
                            refine ww_get C0 (ci := 5) (C := RX5) (T := TX5) (N := 33) ku_X5 0 rfl rfl 15 (by decide) kw_X5_34 rfl dX5_layWays_182 ?_
                            refine ww_iload_n C0 dX5_layWays_185 rfl ?_
                            refine ww_iload C0 dX5_layWays_186 rfl ?_
                            refine ww_perm (perm_mv 6 1 1 _) ?_
                            simp only [List.drop_succ_cons, List.drop_zero, List.take_succ_cons, List.take_zero, List.cons_append, List.nil_append, Nat.reduceAdd]
                            refine ww_callVi C0 (qc := (RX5, TX5, 33)) 0 5 (c_X5_isBalking l D cI cZ cQ hnm hna hk) kd_X5_isBalking kw_X5_164 km_X5_isBalking kl_X5_isBalking ki_X5 hd_X5_isBalking rfl rfl ⟨Nat.le_of_ble_eq_true rfl, Nat.le_of_ble_eq_true rfl, rfl, rfl⟩ (Nat.le_of_ble_eq_true rfl) dX5_layWays_188 rfl rfl rfl ⟨Nat.zero_le _, Nat.zero_le _⟩ ?_
                            refine ww_perm (perm_mv 6 1 1 _) ?_
                            simp only [List.drop_succ_cons, List.drop_zero, List.take_succ_cons, List.take_zero, List.cons_append, List.nil_append, Nat.reduceAdd]
                            refine ww_istore (i := 8) C0 dX5_layWays_191 (Nat.le_of_ble_eq_true rfl) rfl ?_
                            simp only [List.set_cons_zero, List.set_cons_succ]
                            refine ww_iload C0 dX5_layWays_193 rfl ?_
                            refine ww_if_eq (tgt := 213) C0 dX5_layWays_195 (by decide) (fun h195 => ?_) (fun h195 => ?_)
                            · skip
                              replace h195 := (nI_eqE (a := 1) (b := 0) rfl rfl (by omega) (by omega)).mp h195
                              exfalso; omega
                            · skip
                              replace h195 := (not_congr (nI_eqE (a := 1) (b := 0) rfl rfl (by omega) (by omega))).mp h195
                              refine ww_iload C0 dX5_layWays_198 rfl ?_
                              refine ww_bif_ne (tgt := 213) C0 dX5_layWays_200 (by decide) (fun h200 => ?_) (fun h200 => ?_)
                              · skip
                                have hb2 : F t (nI s) (nI w) = true := by
                                  first | exact hb | (rw [hF]; simp only [h155, Bool.false_eq_true, if_false]; exact h200)
                                refine ww_iinc (d := 1) C0 dX5_layWays_213 rfl rfl rfl ?_
                                simp only [List.set_cons_zero, List.set_cons_succ]
                                refine ww_goto (tgt := 77) C0 dX5_layWays_216 (by decide) ?_
                                exact ww_back ih ⟨Or.inr rfl, Or.inr rfl, Or.inr rfl, Or.inr rfl, Or.inr rfl, Or.inr (congrArg Value.int (nI_addE (a := w) (b := 1) rfl rfl).symm), Or.inl rfl, Or.inl rfl, Or.inl rfl, trivial⟩ (by (simp only [show ¬ w + 1 = 0 by omega, if_false, mLayW_s]; first | rw [mLay1_a h114] | rw [mLay1_b h114 h125] | rw [mLay1_c h114 h125 h132] | rw [mLay1_d h114 h125 h132 hcl h144] | rw [mLay1_e h114 h125 h132 hcl h144 hb2] | rw [mLay1_f h114 h125 h132 hcl h144 hb2]))
                              · skip
                                have hb2 : F t (nI s) (nI w) = false := by
                                  first | exact hb | (rw [hF]; simp only [h155, Bool.false_eq_true, if_false]; exact h200)
                                refine ww_aload_n C0 dX5_layWays_203 rfl ?_
                                refine ww_get C0 (ci := 5) (C := RX5) (T := TX5) (N := 33) ku_X5 0 rfl rfl 27 (by decide) kw_X5_62 rfl dX5_layWays_204 ?_
                                refine ww_iload C0 dX5_layWays_207 rfl ?_
                                refine ww_iload_n C0 dX5_layWays_209 rfl ?_
                                refine ww_iconst (v := (1)) C0 dX5_layWays_210 rfl ?_
                                refine ww_iadd C0 dX5_layWays_211 ?_
                                refine ww_iast_n (j := q) C0 18 0 rfl rfl hto (by omega) (by decide) dX5_layWays_212 ?_
                                simp only [List.set_cons_zero, List.set_cons_succ]
                                refine ww_iinc (d := 1) C0 dX5_layWays_213 rfl rfl rfl ?_
                                simp only [List.set_cons_zero, List.set_cons_succ]
                                refine ww_goto (tgt := 77) C0 dX5_layWays_216 (by decide) ?_
                                exact ww_back ih ⟨Or.inr rfl, Or.inr rfl, Or.inr rfl, Or.inr rfl, Or.inr rfl, Or.inr (congrArg Value.int (nI_addE (a := w) (b := 1) rfl rfl).symm), Or.inl rfl, Or.inl rfl, Or.inl rfl, trivial⟩ (by (simp only [show ¬ w + 1 = 0 by omega, if_false, mLayW_s]; first | rw [mLay1_a h114] | rw [mLay1_b h114 h125] | rw [mLay1_c h114 h125 h132] | rw [mLay1_d h114 h125 h132 hcl h144] | rw [mLay1_e h114 h125 h132 hcl h144 hb2] | rw [mLay1_f h114 h125 h132 hcl h144 hb2]))
                          · skip
                            refine ww_aload_n C0 dX5_layWays_158 rfl ?_
                            refine ww_aload_n C0 dX5_layWays_159 rfl ?_
                            refine ww_get C0 (ci := 5) (C := RX5) (T := TX5) (N := 33) ku_X5 0 rfl rfl 15 (by decide) kw_X5_34 rfl dX5_layWays_160 ?_
                            refine ww_iload_n C0 dX5_layWays_163 rfl ?_
                            refine ww_iload C0 dX5_layWays_164 rfl ?_
                            refine ww_perm (perm_mv 6 1 1 _) ?_
                            simp only [List.drop_succ_cons, List.drop_zero, List.take_succ_cons, List.take_zero, List.cons_append, List.nil_append, Nat.reduceAdd]
                            refine ww_callVi C0 (qc := (RX5, TX5, 33)) 0 5 (c_X5_forbids l D cI cZ cQ hnm hna hk) kd_X5_forbids kw_X5_130 km_X5_forbids kl_X5_forbids ki_X5 hd_X5_forbids rfl rfl ⟨Nat.le_of_ble_eq_true rfl, Nat.le_of_ble_eq_true rfl, rfl, rfl⟩ (Nat.le_of_ble_eq_true rfl) dX5_layWays_166 rfl rfl rfl ⟨Nat.zero_le _, Nat.zero_le _⟩ ?_
                            refine ww_perm (perm_mv 6 1 1 _) ?_
                            simp only [List.drop_succ_cons, List.drop_zero, List.take_succ_cons, List.take_zero, List.cons_append, List.nil_append, Nat.reduceAdd]
                            refine ww_if_eq (tgt := 176) C0 dX5_layWays_169 (by decide) (fun h169 => ?_) (fun h169 => ?_)
                            · skip
                              have hb : F t (nI s) (nI w) = false := by rw [hF]; simp only [h155, if_true, h169, decide_true, Bool.not_true]
                              refine ww_iconst (v := (0)) C0 dX5_layWays_176 rfl ?_
                              refine ww_goto (tgt := 191) C0 dX5_layWays_177 (by decide) ?_
                              refine ww_istore (i := 8) C0 dX5_layWays_191 (Nat.le_of_ble_eq_true rfl) rfl ?_
                              simp only [List.set_cons_zero, List.set_cons_succ]
                              refine ww_iload C0 dX5_layWays_193 rfl ?_
                              refine ww_if_eq (tgt := 213) C0 dX5_layWays_195 (by decide) (fun h195 => ?_) (fun h195 => ?_)
                              · skip
                                replace h195 := (nI_eqE (a := 1) (b := 0) rfl rfl (by omega) (by omega)).mp h195
                                exfalso; omega
                              · skip
                                replace h195 := (not_congr (nI_eqE (a := 1) (b := 0) rfl rfl (by omega) (by omega))).mp h195
                                refine ww_iload C0 dX5_layWays_198 rfl ?_
                                refine ww_if_ne (tgt := 213) C0 dX5_layWays_200 (by decide) (fun h200 => ?_) (fun h200 => ?_)
                                · skip
                                  replace h200 := (not_congr (nI_eqE (a := 0) (b := 0) rfl rfl (by omega) (by omega))).mp h200
                                  exfalso; omega
                                · skip
                                  replace h200 := (nI_eqE (a := 0) (b := 0) rfl rfl (by omega) (by omega)).mp h200
                                  have hb2 : F t (nI s) (nI w) = false := by
                                    first | exact hb | (rw [hF]; simp only [h155, Bool.false_eq_true, if_false]; exact h200)
                                  refine ww_aload_n C0 dX5_layWays_203 rfl ?_
                                  refine ww_get C0 (ci := 5) (C := RX5) (T := TX5) (N := 33) ku_X5 0 rfl rfl 27 (by decide) kw_X5_62 rfl dX5_layWays_204 ?_
                                  refine ww_iload C0 dX5_layWays_207 rfl ?_
                                  refine ww_iload_n C0 dX5_layWays_209 rfl ?_
                                  refine ww_iconst (v := (1)) C0 dX5_layWays_210 rfl ?_
                                  refine ww_iadd C0 dX5_layWays_211 ?_
                                  refine ww_iast_n (j := q) C0 18 0 rfl rfl hto (by omega) (by decide) dX5_layWays_212 ?_
                                  simp only [List.set_cons_zero, List.set_cons_succ]
                                  refine ww_iinc (d := 1) C0 dX5_layWays_213 rfl rfl rfl ?_
                                  simp only [List.set_cons_zero, List.set_cons_succ]
                                  refine ww_goto (tgt := 77) C0 dX5_layWays_216 (by decide) ?_
                                  exact ww_back ih ⟨Or.inr rfl, Or.inr rfl, Or.inr rfl, Or.inr rfl, Or.inr rfl, Or.inr (congrArg Value.int (nI_addE (a := w) (b := 1) rfl rfl).symm), Or.inl rfl, Or.inl rfl, Or.inl rfl, trivial⟩ (by (simp only [show ¬ w + 1 = 0 by omega, if_false, mLayW_s]; first | rw [mLay1_a h114] | rw [mLay1_b h114 h125] | rw [mLay1_c h114 h125 h132] | rw [mLay1_d h114 h125 h132 hcl h144] | rw [mLay1_e h114 h125 h132 hcl h144 hb2] | rw [mLay1_f h114 h125 h132 hcl h144 hb2]))
                            · skip
                              have hb : F t (nI s) (nI w) = true := by rw [hF]; simp only [h155, if_true, h169, decide_false, Bool.not_false]
                              refine ww_iconst (v := (1)) C0 dX5_layWays_172 rfl ?_
                              refine ww_goto (tgt := 191) C0 dX5_layWays_173 (by decide) ?_
                              refine ww_istore (i := 8) C0 dX5_layWays_191 (Nat.le_of_ble_eq_true rfl) rfl ?_
                              simp only [List.set_cons_zero, List.set_cons_succ]
                              refine ww_iload C0 dX5_layWays_193 rfl ?_
                              refine ww_if_eq (tgt := 213) C0 dX5_layWays_195 (by decide) (fun h195 => ?_) (fun h195 => ?_)
                              · skip
                                replace h195 := (nI_eqE (a := 1) (b := 0) rfl rfl (by omega) (by omega)).mp h195
                                exfalso; omega
                              · skip
                                replace h195 := (not_congr (nI_eqE (a := 1) (b := 0) rfl rfl (by omega) (by omega))).mp h195
                                refine ww_iload C0 dX5_layWays_198 rfl ?_
                                refine ww_if_ne (tgt := 213) C0 dX5_layWays_200 (by decide) (fun h200 => ?_) (fun h200 => ?_)
                                · skip
                                  replace h200 := (not_congr (nI_eqE (a := 1) (b := 0) rfl rfl (by omega) (by omega))).mp h200
                                  have hb2 : F t (nI s) (nI w) = true := by
                                    first | exact hb | (rw [hF]; simp only [h155, Bool.false_eq_true, if_false]; exact h200)
                                  refine ww_iinc (d := 1) C0 dX5_layWays_213 rfl rfl rfl ?_
                                  simp only [List.set_cons_zero, List.set_cons_succ]
                                  refine ww_goto (tgt := 77) C0 dX5_layWays_216 (by decide) ?_
                                  exact ww_back ih ⟨Or.inr rfl, Or.inr rfl, Or.inr rfl, Or.inr rfl, Or.inr rfl, Or.inr (congrArg Value.int (nI_addE (a := w) (b := 1) rfl rfl).symm), Or.inl rfl, Or.inl rfl, Or.inl rfl, trivial⟩ (by (simp only [show ¬ w + 1 = 0 by omega, if_false, mLayW_s]; first | rw [mLay1_a h114] | rw [mLay1_b h114 h125] | rw [mLay1_c h114 h125 h132] | rw [mLay1_d h114 h125 h132 hcl h144] | rw [mLay1_e h114 h125 h132 hcl h144 hb2] | rw [mLay1_f h114 h125 h132 hcl h144 hb2]))
                                · skip
                                  replace h200 := (nI_eqE (a := 1) (b := 0) rfl rfl (by omega) (by omega)).mp h200
                                  exfalso; omega
              · skip
                refine ww_iload C0 dX5_layWays_77 rfl ?_
                refine ww_iconst (v := (2)) C0 dX5_layWays_79 rfl ?_
                refine ww_icmp_ge (tgt := 219) C0 dX5_layWays_80 (by decide) (fun h80 => ?_) (fun h80 => ?_)
                · skip
                  replace h80 := (nI_leE (a := 2) (b := 2) rfl rfl (by omega) (by omega)).mp h80
                  refine ww_iinc (d := 1) C0 dX5_layWays_219 rfl rfl rfl ?_
                  simp only [List.set_cons_zero, List.set_cons_succ]
                  refine ww_goto (tgt := 67) C0 dX5_layWays_222 (by decide) ?_
                  exact ww_back ih ⟨Or.inr rfl, Or.inr rfl, Or.inr rfl, Or.inr rfl, Or.inr (congrArg Value.int (nI_addE (a := s) (b := 1) rfl rfl).symm), Or.inl rfl, Or.inl rfl, Or.inl rfl, Or.inl rfl, trivial⟩ (by (simp only [Nat.add_sub_cancel, show ¬ s + 1 = 0 by omega, if_false]; rfl))
                · skip
                  replace h80 := (not_congr (nI_leE (a := 2) (b := 2) rfl rfl (by omega) (by omega))).mp h80
                  exfalso; omega
          · skip
            refine ww_iload C0 dX5_layWays_67 rfl ?_
            refine ww_bipush (v := (10)) C0 dX5_layWays_69 rfl ?_
            refine ww_icmp_ge (tgt := 225) C0 dX5_layWays_71 (by decide) (fun h71 => ?_) (fun h71 => ?_)
            · skip
              replace h71 := (nI_leE (a := 10) (b := 10) rfl rfl (by omega) (by omega)).mp h71
              refine ww_iinc (d := 1) C0 dX5_layWays_225 rfl rfl rfl ?_
              simp only [List.set_cons_zero, List.set_cons_succ]
              refine ww_goto (tgt := 42) C0 dX5_layWays_228 (by decide) ?_
              exact ww_back ih ⟨Or.inr rfl, Or.inr rfl, Or.inr rfl, Or.inr (congrArg Value.int (nI_addE (a := t) (b := 1) rfl rfl).symm), Or.inl rfl, Or.inl rfl, Or.inl rfl, Or.inl rfl, Or.inl rfl, trivial⟩ (by rfl)
            · skip
              replace h71 := (not_congr (nI_leE (a := 10) (b := 10) rfl rfl (by omega) (by omega))).mp h71
              exfalso; omega
      · skip
        skip
        refine ww_iload_n C0 dX5_layWays_42 rfl ?_
        refine ww_bipush (v := (12)) C0 dX5_layWays_43 rfl ?_
        refine ww_icmp_ge (tgt := 231) C0 dX5_layWays_45 (by decide) (fun h45 => ?_) (fun h45 => ?_)
        · skip
          replace h45 := (nI_leE (a := 12) (b := 12) rfl rfl (by omega) (by omega)).mp h45
          exact ww_vret C0 hr dX5_layWays_231 (by rfl)
        · skip
          replace h45 := (not_congr (nI_leE (a := 12) (b := 12) rfl rfl (by omega) (by omega))).mp h45
          exfalso; omega
    · skip
      replace h9 := (not_congr (nI_leE (a := 10) (b := 10) rfl rfl (by omega) (by omega))).mp h9
      exfalso; omega
