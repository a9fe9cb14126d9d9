set_option maxHeartbeats 4000000 in
set_option maxRecDepth 100000 in
theorem p_share (l : Launch) (D : va_G) {A : Ad} {S : St} (h : INV A S) {m : Int32} {u : Bool} : PAIR l D A S yX4_share cX4_share 6 ({ frames := 4, cells := 0, slots := 0, locals := 102 } : Room) yX5_share cX5_share 6 ({ frames := 4, cells := 0, slots := 0, locals := 100 } : Room) [.int m, .int (bI u)] := by
  by_cases hm : isN S.na m = true
  · obtain ⟨k, hk, rfl⟩ := isN_of (by have := h.hna; omega) hm
    have hsh := share_eq (v := (S.fn0, S.fn1, S.fn2, S.hN, S.bN)) (f := S.fmp) (fc := S.fC) h.hnm h.hna hk h.hl h.hR
    dsimp only at hsh
    obtain ⟨Z1, Z2, e1, e2, b1, b2, ef⟩ := hsh
    refine ⟨sFrac Z2 (mWaysN S.na) u, (S.nm, S.fa, S.ac, S.na, S.tn, S.gn, S.hN, S.bN, S.hY, S.bY, (0), S.vpl, S.vrm, S.vra, S.x0, S.x1, S.x2, S.x3, S.sd, S.sv, S.fl0, S.fl1, S.fl2, S.fC, S.fn0, S.fn1, S.fn2, S.fy0, S.fy1, S.fy2, S.ft0, S.fg0, S.fg1, S.fg2, S.fg3, S.fg4, S.fW, S.fK, S.fmp, S.fmq, S.fmr, S.fmx, S.fmb, S.fmk, S.fmz, S.fmh, (cpyF (fun t => mBarred S.nm S.na S.fl0 S.fl1 S.fl2 S.fC S.fmp (nI t)) S.fmo (2 ^ S.na))), ⟨h.hnm, h.hna, h.ht, h.hg, h.hfa, h.hac, h.hA, h.hO, h.hl, h.hR, h.hP, h.hx, h.hs, h.hB, h.hK⟩, fun rest => MI.res (ef u) (c_X4_share l D A.cI A.cZ A.cQ h.hnm h.hna hk e1 b1), fun rest => c_X5_share l D A.cI A.cZ A.cQ h.hnm h.hna hk e2 b2⟩
  · have hm : isN S.na m = false := by simpa using hm
    refine ⟨-1, (S.nm, S.fa, S.ac, S.na, S.tn, S.gn, S.hN, S.bN, S.hY, S.bY, (0), S.vpl, S.vrm, S.vra, S.x0, S.x1, S.x2, S.x3, S.sd, S.sv, S.fl0, S.fl1, S.fl2, S.fC, S.fn0, S.fn1, S.fn2, S.fy0, S.fy1, S.fy2, S.ft0, S.fg0, S.fg1, S.fg2, S.fg3, S.fg4, S.fW, S.fK, S.fmp, S.fmq, S.fmr, S.fmx, S.fmb, S.fmk, S.fmz, S.fmh, S.fmo), ⟨h.hnm, h.hna, h.ht, h.hg, h.hfa, h.hac, h.hA, h.hO, h.hl, h.hR, h.hP, h.hx, h.hs, h.hB, h.hK⟩, fun rest => c_X4_share_b l D A.cI A.cZ A.cQ h.hna hm, fun rest => c_X5_share_b l D A.cI A.cZ A.cQ h.hna hm⟩
