set_option maxHeartbeats 4000000 in
set_option maxRecDepth 100000 in
theorem p_see (l : Launch) (D : va_G) {A : Ad} {S : St} (h : INV A S) {y0 y1 y2 y3 y4 : Int32} : PAIR l D A S yX4_see cX4_see 6 ({ frames := 1, cells := 0, slots := 0, locals := 25 } : Room) yX5_see cX5_see 6 ({ frames := 1, cells := 0, slots := 0, locals := 25 } : Room) [.int y0, .int y1, .int y2, .int y3, .int y4] := by
  by_cases hs : isN 10 y0 = true
  · by_cases hb : (isN 4 y1 && isN 10 y2 && isN 2 y3 && isN 2 y4) = true
    · have hb' := hb
      simp only [Bool.and_eq_true] at hb'
      obtain ⟨⟨⟨h1s, h2s⟩, h3s⟩, h4s⟩ := hb'
      by_cases hg : S.gn = 6
      · refine ⟨-4, (S.nm, S.fa, S.ac, S.na, S.tn, S.gn, S.hN, S.bN, S.hY, S.bY, (0), S.vpl, S.vrm, S.vra, S.x0, S.x1, S.x2, S.x3, S.sd, S.sv, S.fl0, S.fl1, S.fl2, S.fC, S.fn0, S.fn1, S.fn2, S.fy0, S.fy1, S.fy2, S.ft0, S.fg0, S.fg1, S.fg2, S.fg3, S.fg4, S.fW, S.fK, S.fmp, S.fmq, S.fmr, S.fmx, S.fmb, S.fmk, S.fmz, S.fmh, S.fmo), ⟨h.hnm, h.hna, h.ht, h.hg, h.hfa, h.hac, h.hA, h.hO, h.hl, h.hR, h.hP, h.hx, h.hs, h.hB, h.hK⟩, fun rest => c_X4_see_f l D A.cI A.cZ A.cQ hs h1s h2s h3s h4s hg, fun rest => c_X5_see_f l D A.cI A.cZ A.cQ hs h1s h2s h3s h4s hg⟩
      · have hg : S.gn < 6 := by have := h.hg; omega
        refine ⟨nI (S.gn + 1), (S.nm, S.fa, S.ac, S.na, S.tn, (S.gn + 1), S.hN, S.bN, S.hY, S.bY, (0), S.vpl, S.vrm, S.vra, S.x0, S.x1, S.x2, S.x3, S.sd, S.sv, S.fl0, S.fl1, S.fl2, S.fC, S.fn0, S.fn1, S.fn2, S.fy0, S.fy1, S.fy2, S.ft0, (upd S.fg0 S.gn y0), (upd S.fg1 S.gn y1), (upd S.fg2 S.gn y2), (upd S.fg3 S.gn y3), (upd S.fg4 S.gn y4), S.fW, S.fK, S.fmp, S.fmq, S.fmr, S.fmx, S.fmb, S.fmk, S.fmz, S.fmh, S.fmo), ⟨h.hnm, h.hna, h.ht, hg, h.hfa, h.hac, h.hA, h.hO, h.hl, h.hR, h.hP, h.hx, fun i hi => ?_, h.hB, h.hK⟩, fun rest => c_X4_see l D A.cI A.cZ A.cQ hs h1s h2s h3s h4s hg, fun rest => c_X5_see l D A.cI A.cZ A.cQ hs h1s h2s h3s h4s hg⟩
        show isN 10 (upd S.fg2 S.gn y2 i) = true ∧ isN 2 (upd S.fg3 S.gn y3 i) = true
        by_cases e : i = S.gn
        · simp only [upd, e, if_true]; exact ⟨h2s, h3s⟩
        · simp only [upd, e, if_false]; exact h.hs i (by have : i < S.gn + 1 := hi; omega)
    · have hb : (isN 4 y1 && isN 10 y2 && isN 2 y3 && isN 2 y4) = false := by simpa using hb
      refine ⟨-2, (S.nm, S.fa, S.ac, S.na, S.tn, S.gn, S.hN, S.bN, S.hY, S.bY, (0), S.vpl, S.vrm, S.vra, S.x0, S.x1, S.x2, S.x3, S.sd, S.sv, S.fl0, S.fl1, S.fl2, S.fC, S.fn0, S.fn1, S.fn2, S.fy0, S.fy1, S.fy2, S.ft0, S.fg0, S.fg1, S.fg2, S.fg3, S.fg4, S.fW, S.fK, S.fmp, S.fmq, S.fmr, S.fmx, S.fmb, S.fmk, S.fmz, S.fmh, S.fmo), ⟨h.hnm, h.hna, h.ht, h.hg, h.hfa, h.hac, h.hA, h.hO, h.hl, h.hR, h.hP, h.hx, h.hs, h.hB, h.hK⟩, fun rest => c_X4_see_b2 l D A.cI A.cZ A.cQ hs hb, fun rest => c_X5_see_b2 l D A.cI A.cZ A.cQ hs hb⟩
  · have hs : isN 10 y0 = false := by simpa using hs
    refine ⟨-1, (S.nm, S.fa, S.ac, S.na, S.tn, S.gn, S.hN, S.bN, S.hY, S.bY, (0), S.vpl, S.vrm, S.vra, S.x0, S.x1, S.x2, S.x3, S.sd, S.sv, S.fl0, S.fl1, S.fl2, S.fC, S.fn0, S.fn1, S.fn2, S.fy0, S.fy1, S.fy2, S.ft0, S.fg0, S.fg1, S.fg2, S.fg3, S.fg4, S.fW, S.fK, S.fmp, S.fmq, S.fmr, S.fmx, S.fmb, S.fmk, S.fmz, S.fmh, S.fmo), ⟨h.hnm, h.hna, h.ht, h.hg, h.hfa, h.hac, h.hA, h.hO, h.hl, h.hR, h.hP, h.hx, h.hs, h.hB, h.hK⟩, fun rest => c_X4_see_b l D A.cI A.cZ A.cQ hs, fun rest => c_X5_see_b l D A.cI A.cZ A.cQ hs⟩
set_option maxHeartbeats 4000000 in
set_option maxRecDepth 100000 in
theorem p_may (l : Launch) (D : va_G) {A : Ad} {S : St} (h : INV A S) {s0 x : Int32} : PAIR l D A S yX4_may cX4_may 7 ({ frames := 2, cells := 0, slots := 0, locals := 49 } : Room) yX5_may cX5_may 3 ({ frames := 2, cells := 0, slots := 0, locals := 50 } : Room) [.int s0, .int x] := by
  by_cases hs : isN 10 s0 = true
  · by_cases hx : isN 2 x = true
    · refine ⟨if x = 0 then (sMany (fun t => allB (mAg S.fg0 S.fg1 S.fg2 S.fg3 S.fg4 s0 (nI (t / 10)) (nI (t % 10))) S.gn) (fun t => nI t) 30).1 else (sMany (fun t => allB (mAg S.fg0 S.fg1 S.fg2 S.fg3 S.fg4 s0 (nI (t / 10)) (nI (t % 10))) S.gn) (fun t => nI t) 30).2, (S.nm, S.fa, S.ac, S.na, S.tn, S.gn, S.hN, S.bN, S.hY, S.bY, (0), S.vpl, S.vrm, S.vra, ((sMany (fun t => allB (mAg S.fg0 S.fg1 S.fg2 S.fg3 S.fg4 s0 (nI (t / 10)) (nI (t % 10))) S.gn) (fun t => nI t) 30).1), ((sMany (fun t => allB (mAg S.fg0 S.fg1 S.fg2 S.fg3 S.fg4 s0 (nI (t / 10)) (nI (t % 10))) S.gn) (fun t => nI t) 30).2), S.x2, S.x3, S.sd, S.sv, S.fl0, S.fl1, S.fl2, S.fC, S.fn0, S.fn1, S.fn2, S.fy0, S.fy1, S.fy2, S.ft0, S.fg0, S.fg1, S.fg2, S.fg3, S.fg4, S.fW, S.fK, S.fmp, S.fmq, S.fmr, S.fmx, S.fmb, S.fmk, S.fmz, S.fmh, S.fmo), ⟨h.hnm, h.hna, h.ht, h.hg, h.hfa, h.hac, h.hA, h.hO, h.hl, h.hR, h.hP, h.hx, h.hs, h.hB, h.hK⟩, fun rest => MI.res (by rw [may_eq h.hs]) (c_X4_may l D A.cI A.cZ A.cQ hs hx h.hg), fun rest => c_X5_may l D A.cI A.cZ A.cQ hs hx h.hg⟩
    · have hx : isN 2 x = false := by simpa using hx
      refine ⟨-2, (S.nm, S.fa, S.ac, S.na, S.tn, S.gn, S.hN, S.bN, S.hY, S.bY, (0), S.vpl, S.vrm, S.vra, S.x0, S.x1, S.x2, S.x3, S.sd, S.sv, S.fl0, S.fl1, S.fl2, S.fC, S.fn0, S.fn1, S.fn2, S.fy0, S.fy1, S.fy2, S.ft0, S.fg0, S.fg1, S.fg2, S.fg3, S.fg4, S.fW, S.fK, S.fmp, S.fmq, S.fmr, S.fmx, S.fmb, S.fmk, S.fmz, S.fmh, S.fmo), ⟨h.hnm, h.hna, h.ht, h.hg, h.hfa, h.hac, h.hA, h.hO, h.hl, h.hR, h.hP, h.hx, h.hs, h.hB, h.hK⟩, fun rest => c_X4_may_b2 l D A.cI A.cZ A.cQ hs hx, fun rest => c_X5_may_b2 l D A.cI A.cZ A.cQ hs hx⟩
  · have hs : isN 10 s0 = false := by simpa using hs
    refine ⟨-1, (S.nm, S.fa, S.ac, S.na, S.tn, S.gn, S.hN, S.bN, S.hY, S.bY, (0), S.vpl, S.vrm, S.vra, S.x0, S.x1, S.x2, S.x3, S.sd, S.sv, S.fl0, S.fl1, S.fl2, S.fC, S.fn0, S.fn1, S.fn2, S.fy0, S.fy1, S.fy2, S.ft0, S.fg0, S.fg1, S.fg2, S.fg3, S.fg4, S.fW, S.fK, S.fmp, S.fmq, S.fmr, S.fmx, S.fmb, S.fmk, S.fmz, S.fmh, S.fmo), ⟨h.hnm, h.hna, h.ht, h.hg, h.hfa, h.hac, h.hA, h.hO, h.hl, h.hR, h.hP, h.hx, h.hs, h.hB, h.hK⟩, fun rest => c_X4_may_b l D A.cI A.cZ A.cQ hs, fun rest => c_X5_may_b l D A.cI A.cZ A.cQ hs⟩
