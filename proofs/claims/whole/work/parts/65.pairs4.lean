set_option maxHeartbeats 4000000 in
set_option maxRecDepth 100000 in
theorem p_differ (l : Launch) (D : va_G) {A : Ad} {S : St} (h : INV A S) {m o : Int32} : PAIR l D A S yX4_differ cX4_differ 3 ({ frames := 3, cells := 0, slots := 0, locals := 65 } : Room) yX5_differ cX5_differ 3 ({ frames := 2, cells := 0, slots := 0, locals := 46 } : Room) [.int m, .int o] := by
  by_cases hm : (isN S.nm m && isN S.nm o) = true
  · have hm' := hm
    simp only [Bool.and_eq_true] at hm'
    obtain ⟨k, hk, rfl⟩ := isN_of (by have := h.hnm; omega) hm'.1
    obtain ⟨q, hq, rfl⟩ := isN_of (by have := h.hnm; omega) hm'.2
    have ek : sKnown S.na (S.fn1 k) (S.fn2 k) = (mKnown S.na (S.fmp (5 + k)) (S.fmp (10 + k))) := rs_kn (v := (S.fn0, S.fn1, S.fn2, S.hN, S.bN)) (f := S.fmp) h.hna hk h.hR h.hP
    have eq : sKnown S.na (S.fn1 q) (S.fn2 q) = (mKnown S.na (S.fmp (5 + q)) (S.fmp (10 + q))) := rs_kn (v := (S.fn0, S.fn1, S.fn2, S.hN, S.bN)) (f := S.fmp) h.hna hq h.hR h.hP
    refine ⟨sFirst ((mKnown S.na (S.fmp (5 + k)) (S.fmp (10 + k))) ^^^ (mKnown S.na (S.fmp (5 + q)) (S.fmp (10 + q)))), (S.nm, S.fa, S.ac, S.na, S.tn, S.gn, S.hN, S.bN, S.hY, S.bY, (0), S.vpl, S.vrm, S.vra, S.x0, S.x1, S.x2, S.x3, S.sd, S.sv, S.fl0, S.fl1, S.fl2, S.fC, S.fn0, S.fn1, S.fn2, S.fy0, S.fy1, S.fy2, S.ft0, S.fg0, S.fg1, S.fg2, S.fg3, S.fg4, S.fW, S.fK, S.fmp, S.fmq, S.fmr, S.fmx, S.fmb, S.fmk, S.fmz, S.fmh, S.fmo), ⟨h.hnm, h.hna, h.ht, h.hg, h.hfa, h.hac, h.hA, h.hO, h.hl, h.hR, h.hP, h.hx, h.hs, h.hB, h.hK⟩, fun rest => MI.res (by rw [ek, eq]) (c_X4_differ l D A.cI A.cZ A.cQ h.hnm h.hna hk hq), fun rest => c_X5_differ l D A.cI A.cZ A.cQ h.hnm h.hna hk hq⟩
  · have hm : (isN S.nm m && isN S.nm o) = false := by simpa using hm
    refine ⟨-1, (S.nm, S.fa, S.ac, S.na, S.tn, S.gn, S.hN, S.bN, S.hY, S.bY, (0), S.vpl, S.vrm, S.vra, S.x0, S.x1, S.x2, S.x3, S.sd, S.sv, S.fl0, S.fl1, S.fl2, S.fC, S.fn0, S.fn1, S.fn2, S.fy0, S.fy1, S.fy2, S.ft0, S.fg0, S.fg1, S.fg2, S.fg3, S.fg4, S.fW, S.fK, S.fmp, S.fmq, S.fmr, S.fmx, S.fmb, S.fmk, S.fmz, S.fmh, S.fmo), ⟨h.hnm, h.hna, h.ht, h.hg, h.hfa, h.hac, h.hA, h.hO, h.hl, h.hR, h.hP, h.hx, h.hs, h.hB, h.hK⟩, fun rest => c_X4_differ_b l D A.cI A.cZ A.cQ h.hnm hm, fun rest => c_X5_differ_b l D A.cI A.cZ A.cQ h.hnm hm⟩
theorem isB_lt {n : Int32} : isB 1 30 n = true ↔ ¬ (n < 1 ∨ 30 < n) := by
  unfold isB
  by_cases h1 : n < 1 <;> by_cases h2 : 30 < n <;> simp [h1, h2]
set_option maxHeartbeats 4000000 in
set_option maxRecDepth 100000 in
theorem p_rests (l : Launch) (D : va_G) {A : Ad} {S : St} (h : INV A S) {x : Int32} : PAIR l D A S yX4_rests cX4_rests 7 ({ frames := 5, cells := 0, slots := 0, locals := 125 } : Room) yX5_rests cX5_rests 6 ({ frames := 5, cells := 0, slots := 0, locals := 121 } : Room) [.int x] := by
  by_cases hx : isN 2 x = true
  · have ew : sumI (fun o => sWorth1 (sFF S.nm S.na S.fl0 S.fl1 S.fl2 S.fC S.fn0 o (S.fn0 o) 1 S.hN) (sKnown S.na (S.fn1 o) (S.fn2 o))) S.nm = (sumI (fun o => mWorth1 (mTo (S.fmp o) 1) (mBk S.nm S.na S.fl0 S.fl1 S.fl2 S.fC S.fmp o 1)) S.nm) := worth_eq (v := (S.fn0, S.fn1, S.fn2, S.hN, S.bN)) (f := S.fmp) h.hna h.hl h.hR h.hP
    refine ⟨if x = 0 then (sMany (fun t => mRest (sumI (fun o => mWorth1 (mTo (S.fmp o) 1) (mBk S.nm S.na S.fl0 S.fl1 S.fl2 S.fC S.fmp o 1)) S.nm) (nI (t / 2)) (nI (t % 2))) (fun t => 10 * nI (t / 2) + nI (t % 2)) 4).1 else (sMany (fun t => mRest (sumI (fun o => mWorth1 (mTo (S.fmp o) 1) (mBk S.nm S.na S.fl0 S.fl1 S.fl2 S.fC S.fmp o 1)) S.nm) (nI (t / 2)) (nI (t % 2))) (fun t => 10 * nI (t / 2) + nI (t % 2)) 4).2, (S.nm, S.fa, S.ac, S.na, S.tn, S.gn, S.hN, S.bN, S.hY, S.bY, (0), S.vpl, S.vrm, S.vra, S.x0, S.x1, ((sMany (fun t => mRest (sumI (fun o => mWorth1 (mTo (S.fmp o) 1) (mBk S.nm S.na S.fl0 S.fl1 S.fl2 S.fC S.fmp o 1)) S.nm) (nI (t / 2)) (nI (t % 2))) (fun t => 10 * nI (t / 2) + nI (t % 2)) 4).1), ((sMany (fun t => mRest (sumI (fun o => mWorth1 (mTo (S.fmp o) 1) (mBk S.nm S.na S.fl0 S.fl1 S.fl2 S.fC S.fmp o 1)) S.nm) (nI (t / 2)) (nI (t % 2))) (fun t => 10 * nI (t / 2) + nI (t % 2)) 4).2), S.sd, S.sv, S.fl0, S.fl1, S.fl2, S.fC, S.fn0, S.fn1, S.fn2, S.fy0, S.fy1, S.fy2, S.ft0, S.fg0, S.fg1, S.fg2, S.fg3, S.fg4, S.fW, S.fK, S.fmp, S.fmq, S.fmr, S.fmx, S.fmb, S.fmk, S.fmz, S.fmh, S.fmo), ⟨h.hnm, h.hna, h.ht, h.hg, h.hfa, h.hac, h.hA, h.hO, h.hl, h.hR, h.hP, h.hx, h.hs, h.hB, h.hK⟩, fun rest => MI.res (by
      rw [ew]
      rw [sMany_congr 4 (fun t ht => ⟨rest_eq _ t ht, rfl⟩)]) (c_X4_rests l D A.cI A.cZ A.cQ h.hnm h.hna hx), fun rest => c_X5_rests l D A.cI A.cZ A.cQ h.hnm h.hna hx rfl⟩
  · have hx : isN 2 x = false := by simpa using hx
    refine ⟨-2, (S.nm, S.fa, S.ac, S.na, S.tn, S.gn, S.hN, S.bN, S.hY, S.bY, (0), S.vpl, S.vrm, S.vra, S.x0, S.x1, S.x2, S.x3, S.sd, S.sv, S.fl0, S.fl1, S.fl2, S.fC, S.fn0, S.fn1, S.fn2, S.fy0, S.fy1, S.fy2, S.ft0, S.fg0, S.fg1, S.fg2, S.fg3, S.fg4, S.fW, S.fK, S.fmp, S.fmq, S.fmr, S.fmx, S.fmb, S.fmk, S.fmz, S.fmh, S.fmo), ⟨h.hnm, h.hna, h.ht, h.hg, h.hfa, h.hac, h.hA, h.hO, h.hl, h.hR, h.hP, h.hx, h.hs, h.hB, h.hK⟩, fun rest => c_X4_rests_b l D A.cI A.cZ A.cQ hx, fun rest => c_X5_rests_b l D A.cI A.cZ A.cQ hx⟩
