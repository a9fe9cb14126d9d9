set_option maxHeartbeats 4000000 in
set_option maxRecDepth 100000 in
theorem p_pause (l : Launch) (D : va_G) {A : Ad} {S : St} (h : INV A S) : PAIR l D A S yX4_pause cX4_pause 1 ({ frames := 2, cells := 0, slots := 0, locals := 42 } : Room) yX5_pause cX5_pause 1 ({ frames := 1, cells := 0, slots := 0, locals := 21 } : Room) [] := by
  exact ⟨S.fmp 15 + 1, (S.nm, (rf S.fa S.ac), (ra S.ac), S.na, S.tn, S.gn, (S.hN + 1), S.bN, S.hY, S.bY, (0), S.vpl, S.vrm, S.vra, S.x0, S.x1, S.x2, S.x3, S.sd, (va_up S.sv (ri S.fa S.ac) (S.fn0, S.fn1, S.fn2, S.hN, S.bN)), S.fl0, S.fl1, S.fl2, S.fC, S.fn0, S.fn1, S.fn2, S.fy0, S.fy1, S.fy2, S.ft0, S.fg0, S.fg1, S.fg2, S.fg3, S.fg4, S.fW, S.fK, (upd S.fmp 15 (S.fmp 15 + 1)), S.fmq, S.fmr, S.fmx, (mBook S.fmb S.fmp S.ac), S.fmk, S.fmz, S.fmh, S.fmo), ⟨h.hnm, h.hna, h.ht, h.hg, rf_lt9 h.hfa, ra_le9 h.hac, h.hA, h.hO, h.hl, rs_hour h.hR h.hnm, ok_hour h.hP h.hnm, h.hx, h.hs, book_keep h.hnm h.hfa h.hac h.hR h.hP h.hB, fun q hq => ⟨(h.hK q hq).1, fun hz => by
        show RS S.nm (va_up S.sv (ri S.fa S.ac) (S.fn0, S.fn1, S.fn2, S.hN, S.bN) (14 + q)) _ ∧ _
        rw [slot_keep h.hfa]
        exact (h.hK q hq).2 hz⟩⟩, fun rest => MI.res (congrArg (· + 1) h.hR.2.1) (c_X4_pause l D A.cI A.cZ A.cQ h.hfa h.hac h.hA), fun rest => c_X5_pause l D A.cI A.cZ A.cQ h.hac⟩
set_option maxHeartbeats 4000000 in
set_option maxRecDepth 100000 in
theorem p_sell (l : Launch) (D : va_G) {A : Ad} {S : St} (h : INV A S) {m : Int32} : PAIR l D A S yX4_sell cX4_sell 3 ({ frames := 2, cells := 0, slots := 0, locals := 42 } : Room) yX5_sell cX5_sell 3 ({ frames := 2, cells := 0, slots := 0, locals := 46 } : Room) [.int m] := by
  by_cases hm : isN S.nm m = true
  · obtain ⟨k, hk, rfl⟩ := isN_of (by have := h.hnm; omega) hm
    have e0 : S.fn0 k = S.fmp k := (h.hR.1 k hk).1
    have e1 : S.fn1 k = S.fmp (5 + k) := (h.hR.1 k hk).2.1
    have e2 : S.fn2 k = S.fmp (10 + k) := (h.hR.1 k hk).2.2
    by_cases hl : S.fmp (5 + k) = 3
    · refine ⟨-3, (S.nm, S.fa, S.ac, S.na, S.tn, S.gn, S.hN, S.bN, S.hY, S.bY, (0), S.vpl, S.vrm, S.vra, S.x0, S.x1, S.x2, S.x3, S.sd, S.sv, S.fl0, S.fl1, S.fl2, S.fC, S.fn0, S.fn1, S.fn2, S.fy0, S.fy1, S.fy2, S.ft0, S.fg0, S.fg1, S.fg2, S.fg3, S.fg4, S.fW, S.fK, S.fmp, S.fmq, S.fmr, S.fmx, S.fmb, S.fmk, S.fmz, S.fmh, S.fmo), ⟨h.hnm, h.hna, h.ht, h.hg, h.hfa, h.hac, h.hA, h.hO, h.hl, h.hR, h.hP, h.hx, h.hs, h.hB, h.hK⟩, fun rest => c_X4_sell_l l D A.cI A.cZ A.cQ h.hnm h.hna hk (e1.trans hl), fun rest => c_X5_sell_l l D A.cI A.cZ A.cQ h.hnm h.hna hk hl⟩
    · exact ⟨S.fmp (5 + k), (S.nm, (rf S.fa S.ac), (ra S.ac), S.na, S.tn, S.gn, S.hN, S.bN, S.hY, S.bY, (0), S.vpl, S.vrm, S.vra, S.x0, S.x1, S.x2, S.x3, S.sd, (va_up S.sv (ri S.fa S.ac) (S.fn0, S.fn1, S.fn2, S.hN, S.bN)), S.fl0, S.fl1, S.fl2, S.fC, S.fn0, (upd S.fn1 k 3), S.fn2, S.fy0, S.fy1, S.fy2, S.ft0, S.fg0, S.fg1, S.fg2, S.fg3, S.fg4, S.fW, S.fK, (upd S.fmp (5 + k) 3), S.fmq, S.fmr, S.fmx, (mBook S.fmb S.fmp S.ac), S.fmk, S.fmz, S.fmh, S.fmo), ⟨h.hnm, h.hna, h.ht, h.hg, rf_lt9 h.hfa, ra_le9 h.hac, h.hA, h.hO, h.hl, rs_kind h.hR hk h.hnm, ok_kind h.hP (by decide) hk h.hnm, h.hx, h.hs, book_keep h.hnm h.hfa h.hac h.hR h.hP h.hB, fun q hq => ⟨(h.hK q hq).1, fun hz => by
        show RS S.nm (va_up S.sv (ri S.fa S.ac) (S.fn0, S.fn1, S.fn2, S.hN, S.bN) (14 + q)) _ ∧ _
        rw [slot_keep h.hfa]
        exact (h.hK q hq).2 hz⟩⟩, fun rest => MI.res (e1) (c_X4_sell l D A.cI A.cZ A.cQ h.hnm h.hna hk h.hfa h.hac h.hA (fun z => hl (e1.symm.trans z))), fun rest => c_X5_sell l D A.cI A.cZ A.cQ h.hnm h.hna hk h.hac hl⟩
  · have hm : isN S.nm m = false := by simpa using hm
    refine ⟨-1, (S.nm, S.fa, S.ac, S.na, S.tn, S.gn, S.hN, S.bN, S.hY, S.bY, (0), S.vpl, S.vrm, S.vra, S.x0, S.x1, S.x2, S.x3, S.sd, S.sv, S.fl0, S.fl1, S.fl2, S.fC, S.fn0, S.fn1, S.fn2, S.fy0, S.fy1, S.fy2, S.ft0, S.fg0, S.fg1, S.fg2, S.fg3, S.fg4, S.fW, S.fK, S.fmp, S.fmq, S.fmr, S.fmx, S.fmb, S.fmk, S.fmz, S.fmh, S.fmo), ⟨h.hnm, h.hna, h.ht, h.hg, h.hfa, h.hac, h.hA, h.hO, h.hl, h.hR, h.hP, h.hx, h.hs, h.hB, h.hK⟩, fun rest => c_X4_sell_b l D A.cI A.cZ A.cQ h.hnm hm, fun rest => c_X5_sell_b l D A.cI A.cZ A.cQ h.hnm hm⟩
theorem mn0 : ∀ t, t < 32 → (sMn (nI t) = 0 ↔ nI t = 0) := by decide +kernel
set_option maxHeartbeats 4000000 in
set_option maxRecDepth 100000 in
theorem p_forget (l : Launch) (D : va_G) {A : Ad} {S : St} (h : INV A S) {m : Int32} : PAIR l D A S yX4_forget cX4_forget 3 ({ frames := 2, cells := 0, slots := 0, locals := 42 } : Room) yX5_forget cX5_forget 3 ({ frames := 2, cells := 0, slots := 0, locals := 46 } : Room) [.int m] := by
  by_cases hm : isN S.nm m = true
  · obtain ⟨k, hk, rfl⟩ := isN_of (by have := h.hnm; omega) hm
    have e0 : S.fn0 k = S.fmp k := (h.hR.1 k hk).1
    have e1 : S.fn1 k = S.fmp (5 + k) := (h.hR.1 k hk).2.1
    have e2 : S.fn2 k = S.fmp (10 + k) := (h.hR.1 k hk).2.2
    obtain ⟨t, ht, et⟩ := (h.hP k hk).2.2
    have h32 := pow32 h.hna
    have hbc : sBC (S.fn2 k) = sMn (S.fmp (10 + k)) := by rw [e2, et]; exact bc_nI t (by omega)
    have hmn : sMn (S.fmp (10 + k)) = 0 ↔ S.fn2 k = 0 := by rw [e2, et]; exact mn0 t (by omega)
    by_cases hl : S.fn2 k = 0
    · refine ⟨-3, (S.nm, S.fa, S.ac, S.na, S.tn, S.gn, S.hN, S.bN, S.hY, S.bY, (0), S.vpl, S.vrm, S.vra, S.x0, S.x1, S.x2, S.x3, S.sd, S.sv, S.fl0, S.fl1, S.fl2, S.fC, S.fn0, S.fn1, S.fn2, S.fy0, S.fy1, S.fy2, S.ft0, S.fg0, S.fg1, S.fg2, S.fg3, S.fg4, S.fW, S.fK, S.fmp, S.fmq, S.fmr, S.fmx, S.fmb, S.fmk, S.fmz, S.fmh, S.fmo), ⟨h.hnm, h.hna, h.ht, h.hg, h.hfa, h.hac, h.hA, h.hO, h.hl, h.hR, h.hP, h.hx, h.hs, h.hB, h.hK⟩, fun rest => c_X4_forget_l l D A.cI A.cZ A.cQ h.hnm h.hna hk hl, fun rest => c_X5_forget_l l D A.cI A.cZ A.cQ h.hnm h.hna hk (hmn.mpr hl)⟩
    · exact ⟨sMn (S.fmp (10 + k)), (S.nm, (rf S.fa S.ac), (ra S.ac), S.na, S.tn, S.gn, S.hN, S.bN, S.hY, S.bY, (0), S.vpl, S.vrm, S.vra, S.x0, S.x1, S.x2, S.x3, S.sd, (va_up S.sv (ri S.fa S.ac) (S.fn0, S.fn1, S.fn2, S.hN, S.bN)), S.fl0, S.fl1, S.fl2, S.fC, S.fn0, S.fn1, (upd S.fn2 k 0), S.fy0, S.fy1, S.fy2, S.ft0, S.fg0, S.fg1, S.fg2, S.fg3, S.fg4, S.fW, S.fK, (upd S.fmp (10 + k) 0), S.fmq, S.fmr, S.fmx, (mBook S.fmb S.fmp S.ac), S.fmk, S.fmz, S.fmh, S.fmo), ⟨h.hnm, h.hna, h.ht, h.hg, rf_lt9 h.hfa, ra_le9 h.hac, h.hA, h.hO, h.hl, rs_shown h.hR hk h.hnm, ok_shown (t := 0) h.hP (Nat.pow_pos (by decide)) hk h.hnm, h.hx, h.hs, book_keep h.hnm h.hfa h.hac h.hR h.hP h.hB, fun q hq => ⟨(h.hK q hq).1, fun hz => by
        show RS S.nm (va_up S.sv (ri S.fa S.ac) (S.fn0, S.fn1, S.fn2, S.hN, S.bN) (14 + q)) _ ∧ _
        rw [slot_keep h.hfa]
        exact (h.hK q hq).2 hz⟩⟩, fun rest => MI.res (hbc) (c_X4_forget l D A.cI A.cZ A.cQ h.hnm h.hna hk h.hfa h.hac h.hA hl), fun rest => c_X5_forget l D A.cI A.cZ A.cQ h.hnm h.hna hk h.hac (fun z => hl (hmn.mp z))⟩
  · have hm : isN S.nm m = false := by simpa using hm
    refine ⟨-1, (S.nm, S.fa, S.ac, S.na, S.tn, S.gn, S.hN, S.bN, S.hY, S.bY, (0), S.vpl, S.vrm, S.vra, S.x0, S.x1, S.x2, S.x3, S.sd, S.sv, S.fl0, S.fl1, S.fl2, S.fC, S.fn0, S.fn1, S.fn2, S.fy0, S.fy1, S.fy2, S.ft0, S.fg0, S.fg1, S.fg2, S.fg3, S.fg4, S.fW, S.fK, S.fmp, S.fmq, S.fmr, S.fmx, S.fmb, S.fmk, S.fmz, S.fmh, S.fmo), ⟨h.hnm, h.hna, h.ht, h.hg, h.hfa, h.hac, h.hA, h.hO, h.hl, h.hR, h.hP, h.hx, h.hs, h.hB, h.hK⟩, fun rest => c_X4_forget_b l D A.cI A.cZ A.cQ h.hnm hm, fun rest => c_X5_forget_b l D A.cI A.cZ A.cQ h.hnm hm⟩
set_option maxHeartbeats 4000000 in
set_option maxRecDepth 100000 in
theorem p_step (l : Launch) (D : va_G) {A : Ad} {S : St} (h : INV A S) {m wa : Int32} : PAIR l D A S yX4_step cX4_step 4 ({ frames := 5, cells := 0, slots := 0, locals := 126 } : Room) yX5_step cX5_step 4 ({ frames := 4, cells := 0, slots := 0, locals := 99 } : Room) [.int m, .int wa] := by
  by_cases hm : isN S.nm m = true
  · obtain ⟨k, hk, rfl⟩ := isN_of (by have := h.hnm; omega) hm
    have e0 : S.fn0 k = S.fmp k := (h.hR.1 k hk).1
    have en : mNo (S.fmp k) wa = sRef (S.fn0 k) wa := by rw [no_eq, e0]
    by_cases hz : sRef (S.fn0 k) wa = 0
    · obtain ⟨hw, hn0⟩ := ref_0 hz
      have hn : isN 10 (sNext (S.fmp k) wa) = true := by rw [← e0]; exact hn0
      have hg : sGoes (sFF S.nm S.na S.fl0 S.fl1 S.fl2 S.fC S.fn0 k (S.fn0 k) wa S.hN) (sKnown S.na (S.fn1 k) (S.fn2 k)) = (isN 10 (sNext (S.fmp k) wa) && !mBk S.nm S.na S.fl0 S.fl1 S.fl2 S.fC S.fmp k wa) := rs_goes (v := (S.fn0, S.fn1, S.fn2, S.hN, S.bN)) (f := S.fmp) h.hna h.hl hw hk h.hR h.hP
      have ef : sFF S.nm S.na S.fl0 S.fl1 S.fl2 S.fC S.fn0 k (S.fn0 k) wa S.hN = mFF S.nm S.na S.fl0 S.fl1 S.fl2 S.fC S.fmp k wa := (rs_ff (v := (S.fn0, S.fn1, S.fn2, S.hN, S.bN)) (f := S.fmp) (fc := S.fC) h.hl hw hk h.hR).trans (if_pos hn)
      by_cases hb : mBk S.nm S.na S.fl0 S.fl1 S.fl2 S.fC S.fmp k wa = true
      · refine ⟨-3, (S.nm, S.fa, S.ac, S.na, S.tn, S.gn, S.hN, S.bN, S.hY, S.bY, (0), S.vpl, S.vrm, S.vra, S.x0, S.x1, S.x2, S.x3, S.sd, S.sv, S.fl0, S.fl1, S.fl2, S.fC, S.fn0, S.fn1, S.fn2, S.fy0, S.fy1, S.fy2, S.ft0, S.fg0, S.fg1, S.fg2, S.fg3, S.fg4, S.fW, S.fK, S.fmp, S.fmq, S.fmr, S.fmx, S.fmb, S.fmk, S.fmz, S.fmh, S.fmo), ⟨h.hnm, h.hna, h.ht, h.hg, h.hfa, h.hac, h.hA, h.hO, h.hl, h.hR, h.hP, h.hx, h.hs, h.hB, h.hK⟩, fun rest => c_X4_step_l l D A.cI A.cZ A.cQ h.hnm h.hna hk hz (by rw [hg, hb, hn]; rfl), fun rest => c_X5_step_l l D A.cI A.cZ A.cQ h.hnm h.hna hk (en.trans hz) hb⟩
      · have hb : mBk S.nm S.na S.fl0 S.fl1 S.fl2 S.fC S.fmp k wa = false := by simpa using hb
        obtain ⟨t, ht, et⟩ := ff_nI (nm := S.nm) (na := S.na) (fw := S.fl0) (fs := S.fl1) (fv := S.fl2) (fc := S.fC) (f := S.fmp) (k := k) (way := wa) h.hna
        have h32 := pow32 h.hna
        have hto : mTo (S.fmp k) wa = sNext (S.fmp k) wa := by rw [mTo_next, if_pos hn]
        have hrs : RS S.nm (upd S.fn0 k (sNext (S.fn0 k) wa), S.fn1, S.fn2, S.hN + 1, S.bN + sBC (sFF S.nm S.na S.fl0 S.fl1 S.fl2 S.fC S.fn0 k (S.fn0 k) wa S.hN)) (mGoF S.fmp k (mTo (S.fmp k) wa) (mFF S.nm S.na S.fl0 S.fl1 S.fl2 S.fC S.fmp k wa)) := by
          rw [ef]
          exact rs_go (v := (S.fn0, S.fn1, S.fn2, S.hN, S.bN)) (f := S.fmp) h.hnm hk hn (by rw [et]; exact bc_nI t (by omega)) h.hR
        exact ⟨mTo (S.fmp k) wa, (S.nm, (rf S.fa S.ac), (ra S.ac), S.na, S.tn, S.gn, (S.hN + 1), (S.bN + sBC (sFF S.nm S.na S.fl0 S.fl1 S.fl2 S.fC S.fn0 k (S.fn0 k) wa S.hN)), S.hY, S.bY, (0), S.vpl, S.vrm, S.vra, S.x0, S.x1, S.x2, S.x3, S.sd, (va_up S.sv (ri S.fa S.ac) (S.fn0, S.fn1, S.fn2, S.hN, S.bN)), S.fl0, S.fl1, S.fl2, S.fC, (upd S.fn0 k (sNext (S.fn0 k) wa)), S.fn1, S.fn2, S.fy0, S.fy1, S.fy2, S.ft0, S.fg0, S.fg1, S.fg2, S.fg3, S.fg4, S.fW, S.fK, (mGoF S.fmp k (mTo (S.fmp k) wa) (mFF S.nm S.na S.fl0 S.fl1 S.fl2 S.fC S.fmp k wa)), S.fmq, S.fmr, S.fmx, (mBook S.fmb S.fmp S.ac), S.fmk, S.fmz, S.fmh, S.fmo), ⟨h.hnm, h.hna, h.ht, h.hg, rf_lt9 h.hfa, ra_le9 h.hac, h.hA, h.hO, h.hl, hrs, ok_go h.hnm hk (by rw [hto]; exact hn) h.hP, h.hx, h.hs, book_keep h.hnm h.hfa h.hac h.hR h.hP h.hB, fun q hq => ⟨(h.hK q hq).1, fun hz => by
        show RS S.nm (va_up S.sv (ri S.fa S.ac) (S.fn0, S.fn1, S.fn2, S.hN, S.bN) (14 + q)) _ ∧ _
        rw [slot_keep h.hfa]
        exact (h.hK q hq).2 hz⟩⟩, fun rest => MI.res (by rw [hto, e0]) (c_X4_step l D A.cI A.cZ A.cQ h.hnm h.hna hk h.hfa h.hac h.hA hz (by rw [hg, hb, hn]; rfl)), fun rest => c_X5_step l D A.cI A.cZ A.cQ h.hnm h.hna hk h.hac (en.trans hz) hb⟩
    · refine ⟨mNo (S.fmp k) wa, (S.nm, S.fa, S.ac, S.na, S.tn, S.gn, S.hN, S.bN, S.hY, S.bY, (0), S.vpl, S.vrm, S.vra, S.x0, S.x1, S.x2, S.x3, S.sd, S.sv, S.fl0, S.fl1, S.fl2, S.fC, S.fn0, S.fn1, S.fn2, S.fy0, S.fy1, S.fy2, S.ft0, S.fg0, S.fg1, S.fg2, S.fg3, S.fg4, S.fW, S.fK, S.fmp, S.fmq, S.fmr, S.fmx, S.fmb, S.fmk, S.fmz, S.fmh, S.fmo), ⟨h.hnm, h.hna, h.ht, h.hg, h.hfa, h.hac, h.hA, h.hO, h.hl, h.hR, h.hP, h.hx, h.hs, h.hB, h.hK⟩, fun rest => MI.res (en.symm) (c_X4_step_r l D A.cI A.cZ A.cQ h.hnm h.hna hk hz), fun rest => c_X5_step_r l D A.cI A.cZ A.cQ h.hnm h.hna hk (fun z => hz (en.symm.trans z))⟩
  · have hm : isN S.nm m = false := by simpa using hm
    refine ⟨-1, (S.nm, S.fa, S.ac, S.na, S.tn, S.gn, S.hN, S.bN, S.hY, S.bY, (0), S.vpl, S.vrm, S.vra, S.x0, S.x1, S.x2, S.x3, S.sd, S.sv, S.fl0, S.fl1, S.fl2, S.fC, S.fn0, S.fn1, S.fn2, S.fy0, S.fy1, S.fy2, S.ft0, S.fg0, S.fg1, S.fg2, S.fg3, S.fg4, S.fW, S.fK, S.fmp, S.fmq, S.fmr, S.fmx, S.fmb, S.fmk, S.fmz, S.fmh, S.fmo), ⟨h.hnm, h.hna, h.ht, h.hg, h.hfa, h.hac, h.hA, h.hO, h.hl, h.hR, h.hP, h.hx, h.hs, h.hB, h.hK⟩, fun rest => c_X4_step_b l D A.cI A.cZ A.cQ h.hnm hm, fun rest => c_X5_step_b l D A.cI A.cZ A.cQ h.hnm hm⟩
