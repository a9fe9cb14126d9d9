theorem MI.res {l : Launch} {D : va_G} {tys : List (ClassId × FieldType)} {y : MethodName} {cc : ByteArray} {nL : Nat} {ret : FieldType} {rm : Room} {av : List Value} {W0 W1 : va_W} {r r' : Int32} (e : r = r') (h : MI l D tys y cc nL ret rm av W0 r W1) : MI l D tys y cc nL ret rm av W0 r' W1 := e ▸ h
set_option maxHeartbeats 4000000 in
set_option maxRecDepth 100000 in
theorem p_wipe (l : Launch) (D : va_G) {A : Ad} {S : St} (h : INV A S) : PAIR l D A S yX4_wipe cX4_wipe 2 ({ frames := 0, cells := 0, slots := 0, locals := 0 } : Room) yX5_wipe cX5_wipe 2 ({ frames := 0, cells := 0, slots := 0, locals := 0 } : Room) [] := by
  refine ⟨nI S.tn, (S.nm, S.fa, S.ac, S.na, (0), S.gn, S.hN, S.bN, S.hY, S.bY, (0), S.vpl, S.vrm, S.vra, S.x0, S.x1, S.x2, S.x3, S.sd, S.sv, S.fl0, S.fl1, S.fl2, S.fC, S.fn0, S.fn1, S.fn2, S.fy0, S.fy1, S.fy2, S.ft0, S.fg0, S.fg1, S.fg2, S.fg3, S.fg4, S.fW, S.fK, S.fmp, S.fmq, S.fmr, S.fmx, S.fmb, S.fmk, S.fmz, S.fmh, S.fmo), ⟨h.hnm, h.hna, Nat.zero_le _, h.hg, h.hfa, h.hac, h.hA, h.hO, h.hl, h.hR, h.hP, fun i hi => absurd hi (Nat.not_lt_zero i), h.hs, h.hB, h.hK⟩, fun rest => c_X4_wipe l D A.cI A.cZ A.cQ , fun rest => c_X5_wipe l D A.cI A.cZ A.cQ ⟩
set_option maxHeartbeats 4000000 in
set_option maxRecDepth 100000 in
theorem p_unsee (l : Launch) (D : va_G) {A : Ad} {S : St} (h : INV A S) : PAIR l D A S yX4_unsee cX4_unsee 2 ({ frames := 0, cells := 0, slots := 0, locals := 0 } : Room) yX5_unsee cX5_unsee 2 ({ frames := 0, cells := 0, slots := 0, locals := 0 } : Room) [] := by
  refine ⟨nI S.gn, (S.nm, S.fa, S.ac, S.na, S.tn, (0), S.hN, S.bN, S.hY, S.bY, (0), S.vpl, S.vrm, S.vra, S.x0, S.x1, S.x2, S.x3, S.sd, S.sv, S.fl0, S.fl1, S.fl2, S.fC, S.fn0, S.fn1, S.fn2, S.fy0, S.fy1, S.fy2, S.ft0, S.fg0, S.fg1, S.fg2, S.fg3, S.fg4, S.fW, S.fK, S.fmp, S.fmq, S.fmr, S.fmx, S.fmb, S.fmk, S.fmz, S.fmh, S.fmo), ⟨h.hnm, h.hna, h.ht, Nat.zero_le _, h.hfa, h.hac, h.hA, h.hO, h.hl, h.hR, h.hP, h.hx, fun i hi => absurd hi (Nat.not_lt_zero i), h.hB, h.hK⟩, fun rest => c_X4_unsee l D A.cI A.cZ A.cQ , fun rest => c_X5_unsee l D A.cI A.cZ A.cQ ⟩
set_option maxHeartbeats 4000000 in
set_option maxRecDepth 100000 in
theorem p_about (l : Launch) (D : va_G) {A : Ad} {S : St} (h : INV A S) {x : Int32} : PAIR l D A S yX4_about cX4_about 2 ({ frames := 0, cells := 0, slots := 0, locals := 0 } : Room) yX5_about cX5_about 2 ({ frames := 0, cells := 0, slots := 0, locals := 0 } : Room) [.int x] := by
  have e1 : S.hN = S.fmp 15 := h.hR.2.1
  have e2 : S.bN = S.fmp 16 := h.hR.2.2
  refine ⟨sAbout (nI S.nm) (nI S.na) (S.fmp 15) (S.fmp 16) (nI S.ac) (nI S.gn) (nI S.tn) x, (S.nm, S.fa, S.ac, S.na, S.tn, S.gn, S.hN, S.bN, S.hY, S.bY, (0), S.vpl, S.vrm, S.vra, S.x0, S.x1, S.x2, S.x3, S.sd, S.sv, S.fl0, S.fl1, S.fl2, S.fC, S.fn0, S.fn1, S.fn2, S.fy0, S.fy1, S.fy2, S.ft0, S.fg0, S.fg1, S.fg2, S.fg3, S.fg4, S.fW, S.fK, S.fmp, S.fmq, S.fmr, S.fmx, S.fmb, S.fmk, S.fmz, S.fmh, S.fmo), ⟨h.hnm, h.hna, h.ht, h.hg, h.hfa, h.hac, h.hA, h.hO, h.hl, h.hR, h.hP, h.hx, h.hs, h.hB, h.hK⟩, fun rest => MI.res (by rw [← e1, ← e2]) (c_X4_about l D A.cI A.cZ A.cQ ), fun rest => c_X5_about l D A.cI A.cZ A.cQ ⟩
set_option maxHeartbeats 4000000 in
set_option maxRecDepth 100000 in
theorem p_write (l : Launch) (D : va_G) {A : Ad} {S : St} (h : INV A S) {x : Int32} : PAIR l D A S yX4_write cX4_write 2 ({ frames := 1, cells := 0, slots := 0, locals := 21 } : Room) yX5_write cX5_write 2 ({ frames := 1, cells := 0, slots := 0, locals := 25 } : Room) [.int x] := by
  by_cases hx : isN 256 x = true
  · obtain ⟨k, hk, rfl⟩ := isN_of (by decide) hx
    by_cases ht : S.tn = 48
    · refine ⟨-4, (S.nm, S.fa, S.ac, S.na, S.tn, S.gn, S.hN, S.bN, S.hY, S.bY, (0), S.vpl, S.vrm, S.vra, S.x0, S.x1, S.x2, S.x3, S.sd, S.sv, S.fl0, S.fl1, S.fl2, S.fC, S.fn0, S.fn1, S.fn2, S.fy0, S.fy1, S.fy2, S.ft0, S.fg0, S.fg1, S.fg2, S.fg3, S.fg4, S.fW, S.fK, S.fmp, S.fmq, S.fmr, S.fmx, S.fmb, S.fmk, S.fmz, S.fmh, S.fmo), ⟨h.hnm, h.hna, h.ht, h.hg, h.hfa, h.hac, h.hA, h.hO, h.hl, h.hR, h.hP, h.hx, h.hs, h.hB, h.hK⟩, fun rest => c_X4_write_f l D A.cI A.cZ A.cQ hk ht, fun rest => c_X5_write_f l D A.cI A.cZ A.cQ hx ht⟩
    · have ht : S.tn < 48 := by have := h.ht; omega
      refine ⟨nI (S.tn + 1), (S.nm, S.fa, S.ac, S.na, (S.tn + 1), S.gn, S.hN, S.bN, S.hY, S.bY, (0), S.vpl, S.vrm, S.vra, S.x0, S.x1, S.x2, S.x3, S.sd, S.sv, S.fl0, S.fl1, S.fl2, S.fC, S.fn0, S.fn1, S.fn2, S.fy0, S.fy1, S.fy2, (upd S.ft0 S.tn (nI k)), S.fg0, S.fg1, S.fg2, S.fg3, S.fg4, S.fW, S.fK, S.fmp, S.fmq, S.fmr, S.fmx, S.fmb, S.fmk, S.fmz, S.fmh, S.fmo), ⟨h.hnm, h.hna, ht, h.hg, h.hfa, h.hac, h.hA, h.hO, h.hl, h.hR, h.hP, fun i hi => ?_, h.hs, h.hB, h.hK⟩, fun rest => c_X4_write l D A.cI A.cZ A.cQ hk ht, fun rest => c_X5_write l D A.cI A.cZ A.cQ hx ht⟩
      by_cases e : i = S.tn
      · exact ⟨k, hk, by show upd S.ft0 S.tn (nI k) i = nI k; simp [upd, e]⟩
      · obtain ⟨x, hx, e2⟩ := h.hx i (by have : i < S.tn + 1 := hi; omega)
        exact ⟨x, hx, by show upd S.ft0 S.tn (nI k) i = nI x; simp [upd, e, e2]⟩
  · have hx : isN 256 x = false := by simpa using hx
    refine ⟨-2, (S.nm, S.fa, S.ac, S.na, S.tn, S.gn, S.hN, S.bN, S.hY, S.bY, (0), S.vpl, S.vrm, S.vra, S.x0, S.x1, S.x2, S.x3, S.sd, S.sv, S.fl0, S.fl1, S.fl2, S.fC, S.fn0, S.fn1, S.fn2, S.fy0, S.fy1, S.fy2, S.ft0, S.fg0, S.fg1, S.fg2, S.fg3, S.fg4, S.fW, S.fK, S.fmp, S.fmq, S.fmr, S.fmx, S.fmb, S.fmk, S.fmz, S.fmh, S.fmo), ⟨h.hnm, h.hna, h.ht, h.hg, h.hfa, h.hac, h.hA, h.hO, h.hl, h.hR, h.hP, h.hx, h.hs, h.hB, h.hK⟩, fun rest => c_X4_write_b l D A.cI A.cZ A.cQ hx, fun rest => c_X5_write_b l D A.cI A.cZ A.cQ hx⟩
set_option maxHeartbeats 4000000 in
set_option maxRecDepth 100000 in
theorem p_fault (l : Launch) (D : va_G) {A : Ad} {S : St} (h : INV A S) : PAIR l D A S yX4_fault cX4_fault 1 ({ frames := 2, cells := 0, slots := 0, locals := 48 } : Room) yX5_fault cX5_fault 1 ({ frames := 5, cells := 0, slots := 0, locals := 109 } : Room) [] := by
  refine ⟨(rTreaty S.ft0 S.tn S.fmr S.fmx).1, (S.nm, S.fa, S.ac, S.na, S.tn, S.gn, S.hN, S.bN, S.hY, S.bY, (0), (nI (rTreaty S.ft0 S.tn S.fmr S.fmx).2.1), (nI (rTreaty S.ft0 S.tn S.fmr S.fmx).2.2.1), (nI (rTreaty S.ft0 S.tn S.fmr S.fmx).2.2.2.1), S.x0, S.x1, S.x2, S.x3, S.sd, S.sv, S.fl0, S.fl1, S.fl2, S.fC, S.fn0, S.fn1, S.fn2, S.fy0, S.fy1, S.fy2, S.ft0, S.fg0, S.fg1, S.fg2, S.fg3, S.fg4, S.fW, S.fK, S.fmp, S.fmq, ((rTreaty S.ft0 S.tn S.fmr S.fmx).2.2.2.2.1), ((rTreaty S.ft0 S.tn S.fmr S.fmx).2.2.2.2.2), S.fmb, S.fmk, S.fmz, S.fmh, S.fmo), ⟨h.hnm, h.hna, h.ht, h.hg, h.hfa, h.hac, h.hA, h.hO, h.hl, h.hR, h.hP, h.hx, h.hs, h.hB, h.hK⟩, fun rest => MI.res (fault_eq h.ht h.hx) (c_X4_fault l D A.cI A.cZ A.cQ h.ht), fun rest => c_X5_fault l D A.cI A.cZ A.cQ h.ht⟩
set_option maxHeartbeats 4000000 in
set_option maxRecDepth 100000 in
theorem p_article (l : Launch) (D : va_G) {A : Ad} {S : St} (h : INV A S) {m x : Int32} : PAIR l D A S yX4_article cX4_article 3 ({ frames := 4, cells := 0, slots := 0, locals := 88 } : Room) yX5_article cX5_article 3 ({ frames := 2, cells := 0, slots := 0, locals := 46 } : Room) [.int m, .int x] := by
  by_cases hm : isN S.na m = true
  · obtain ⟨k, hk, rfl⟩ := isN_of (by have := h.hna; omega) hm
    have e : ∀ y, orBits (fun o => hbit (sKnown S.na (S.fn1 o) (S.fn2 o)) y) S.nm = orBits (fun o => hbit (mKnown S.na (S.fmp (5 + o)) (S.fmp (10 + o))) y) S.nm := fun y => orBits_congr _ (fun o ho => by rw [← rs_kn h.hna ho h.hR h.hP])
    refine ⟨sSel4 (S.fl0 k) (S.fl1 k) (S.fl2 k) (orBits (fun o => hbit (mKnown S.na (S.fmp (5 + o)) (S.fmp (10 + o))) (nI k)) S.nm) x, (S.nm, S.fa, S.ac, S.na, S.tn, S.gn, S.hN, S.bN, S.hY, S.bY, (0), S.vpl, S.vrm, S.vra, S.x0, S.x1, S.x2, S.x3, S.sd, S.sv, S.fl0, S.fl1, S.fl2, S.fC, S.fn0, S.fn1, S.fn2, S.fy0, S.fy1, S.fy2, S.ft0, S.fg0, S.fg1, S.fg2, S.fg3, S.fg4, S.fW, S.fK, S.fmp, S.fmq, S.fmr, S.fmx, S.fmb, S.fmk, S.fmz, S.fmh, S.fmo), ⟨h.hnm, h.hna, h.ht, h.hg, h.hfa, h.hac, h.hA, h.hO, h.hl, h.hR, h.hP, h.hx, h.hs, h.hB, h.hK⟩, fun rest => MI.res (by rw [e]) (c_X4_article l D A.cI A.cZ A.cQ h.hnm h.hna hk), fun rest => c_X5_article l D A.cI A.cZ A.cQ h.hnm h.hna hk⟩
  · have hm : isN S.na m = false := by simpa using hm
    refine ⟨-1, (S.nm, S.fa, S.ac, S.na, S.tn, S.gn, S.hN, S.bN, S.hY, S.bY, (0), S.vpl, S.vrm, S.vra, S.x0, S.x1, S.x2, S.x3, S.sd, S.sv, S.fl0, S.fl1, S.fl2, S.fC, S.fn0, S.fn1, S.fn2, S.fy0, S.fy1, S.fy2, S.ft0, S.fg0, S.fg1, S.fg2, S.fg3, S.fg4, S.fW, S.fK, S.fmp, S.fmq, S.fmr, S.fmx, S.fmb, S.fmk, S.fmz, S.fmh, S.fmo), ⟨h.hnm, h.hna, h.ht, h.hg, h.hfa, h.hac, h.hA, h.hO, h.hl, h.hR, h.hP, h.hx, h.hs, h.hB, h.hK⟩, fun rest => c_X4_article_b l D A.cI A.cZ A.cQ h.hna hm, fun rest => c_X5_article_b l D A.cI A.cZ A.cQ h.hna hm⟩
set_option maxHeartbeats 4000000 in
set_option maxRecDepth 100000 in
theorem p_mule (l : Launch) (D : va_G) {A : Ad} {S : St} (h : INV A S) {m x : Int32} : PAIR l D A S yX4_mule cX4_mule 3 ({ frames := 3, cells := 0, slots := 0, locals := 65 } : Room) yX5_mule cX5_mule 3 ({ frames := 2, cells := 0, slots := 0, locals := 46 } : Room) [.int m, .int x] := by
  by_cases hm : isN S.nm m = true
  · obtain ⟨k, hk, rfl⟩ := isN_of (by have := h.hnm; omega) hm
    have ek : sKnown S.na (S.fn1 k) (S.fn2 k) = mKnown S.na (S.fmp (5 + k)) (S.fmp (10 + k)) := rs_kn h.hna hk h.hR h.hP
    have e0 : S.fn0 k = S.fmp k := (h.hR.1 k hk).1
    have e1 : S.fn1 k = S.fmp (5 + k) := (h.hR.1 k hk).2.1
    have e2 : S.fn2 k = S.fmp (10 + k) := (h.hR.1 k hk).2.2
    refine ⟨sSel5 (S.fmp k) (S.fC k) (S.fmp (5 + k)) (S.fmp (10 + k)) (mKnown S.na (S.fmp (5 + k)) (S.fmp (10 + k))) x, (S.nm, S.fa, S.ac, S.na, S.tn, S.gn, S.hN, S.bN, S.hY, S.bY, (0), S.vpl, S.vrm, S.vra, S.x0, S.x1, S.x2, S.x3, S.sd, S.sv, S.fl0, S.fl1, S.fl2, S.fC, S.fn0, S.fn1, S.fn2, S.fy0, S.fy1, S.fy2, S.ft0, S.fg0, S.fg1, S.fg2, S.fg3, S.fg4, S.fW, S.fK, S.fmp, S.fmq, S.fmr, S.fmx, S.fmb, S.fmk, S.fmz, S.fmh, S.fmo), ⟨h.hnm, h.hna, h.ht, h.hg, h.hfa, h.hac, h.hA, h.hO, h.hl, h.hR, h.hP, h.hx, h.hs, h.hB, h.hK⟩, fun rest => MI.res (by rw [ek, e0, e1, e2]) (c_X4_mule l D A.cI A.cZ A.cQ h.hnm h.hna hk), fun rest => c_X5_mule l D A.cI A.cZ A.cQ h.hnm h.hna hk⟩
  · have hm : isN S.nm m = false := by simpa using hm
    refine ⟨-1, (S.nm, S.fa, S.ac, S.na, S.tn, S.gn, S.hN, S.bN, S.hY, S.bY, (0), S.vpl, S.vrm, S.vra, S.x0, S.x1, S.x2, S.x3, S.sd, S.sv, S.fl0, S.fl1, S.fl2, S.fC, S.fn0, S.fn1, S.fn2, S.fy0, S.fy1, S.fy2, S.ft0, S.fg0, S.fg1, S.fg2, S.fg3, S.fg4, S.fW, S.fK, S.fmp, S.fmq, S.fmr, S.fmx, S.fmb, S.fmk, S.fmz, S.fmh, S.fmo), ⟨h.hnm, h.hna, h.ht, h.hg, h.hfa, h.hac, h.hA, h.hO, h.hl, h.hR, h.hP, h.hx, h.hs, h.hB, h.hK⟩, fun rest => c_X4_mule_b l D A.cI A.cZ A.cQ h.hnm hm, fun rest => c_X5_mule_b l D A.cI A.cZ A.cQ h.hnm hm⟩
theorem ref_0 {st way : Int32} (h : sRef st way = 0) : isN 2 way = true ∧ isN 10 (sNext st way) = true := by
  unfold sRef at h
  by_cases h1 : isN 2 way = true
  · rw [if_pos h1] at h
    by_cases h2 : isN 10 (sNext st way) = true
    · exact ⟨h1, h2⟩
    · rw [if_neg h2] at h; exact absurd h (by decide)
  · rw [if_neg h1] at h; exact absurd h (by decide)
set_option maxHeartbeats 4000000 in
set_option maxRecDepth 100000 in
theorem p_by (l : Launch) (D : va_G) {A : Ad} {S : St} (h : INV A S) {m wa : Int32} : PAIR l D A S yX4_by cX4_by 4 ({ frames := 4, cells := 0, slots := 0, locals := 102 } : Room) yX5_by cX5_by 4 ({ frames := 3, cells := 0, slots := 0, locals := 76 } : Room) [.int m, .int wa] := by
  by_cases hm : isN S.nm m = true
  · obtain ⟨k, hk, rfl⟩ := isN_of (by have := h.hnm; omega) hm
    have e0 : S.fn0 k = S.fmp k := (h.hR.1 k hk).1
    have en : mNo (S.fmp k) wa = sRef (S.fn0 k) wa := by rw [no_eq, e0]
    have ek : sKnown S.na (S.fn1 k) (S.fn2 k) = mKnown S.na (S.fmp (5 + k)) (S.fmp (10 + k)) := rs_kn h.hna hk h.hR h.hP
    have ef : sRef (S.fn0 k) wa = 0 → sFF S.nm S.na S.fl0 S.fl1 S.fl2 S.fC S.fn0 k (S.fn0 k) wa S.hN = mFF S.nm S.na S.fl0 S.fl1 S.fl2 S.fC S.fmp k wa := fun hz => by
      obtain ⟨hw, hn⟩ := ref_0 hz
      have e := rs_ff (fc := S.fC) h.hl hw hk h.hR
      rw [e0] at hn
      rw [if_pos hn] at e
      exact e
    refine ⟨if mNo (S.fmp k) wa = 0 then mFF S.nm S.na S.fl0 S.fl1 S.fl2 S.fC S.fmp k wa else mNo (S.fmp k) wa, (S.nm, S.fa, S.ac, S.na, S.tn, S.gn, S.hN, S.bN, S.hY, S.bY, (0), S.vpl, S.vrm, S.vra, S.x0, S.x1, S.x2, S.x3, S.sd, S.sv, S.fl0, S.fl1, S.fl2, S.fC, S.fn0, S.fn1, S.fn2, S.fy0, S.fy1, S.fy2, S.ft0, S.fg0, S.fg1, S.fg2, S.fg3, S.fg4, S.fW, S.fK, S.fmp, S.fmq, S.fmr, S.fmx, S.fmb, S.fmk, S.fmz, S.fmh, S.fmo), ⟨h.hnm, h.hna, h.ht, h.hg, h.hfa, h.hac, h.hA, h.hO, h.hl, h.hR, h.hP, h.hx, h.hs, h.hB, h.hK⟩, fun rest => MI.res (by
      rw [en]
      by_cases hz : sRef (S.fn0 k) wa = 0
      · rw [if_pos hz, if_pos hz, ef hz]
      · rw [if_neg hz, if_neg hz]) (c_X4_by l D A.cI A.cZ A.cQ h.hnm h.hna hk), fun rest => c_X5_by l D A.cI A.cZ A.cQ h.hnm h.hna hk⟩
  · have hm : isN S.nm m = false := by simpa using hm
    refine ⟨-1, (S.nm, S.fa, S.ac, S.na, S.tn, S.gn, S.hN, S.bN, S.hY, S.bY, (0), S.vpl, S.vrm, S.vra, S.x0, S.x1, S.x2, S.x3, S.sd, S.sv, S.fl0, S.fl1, S.fl2, S.fC, S.fn0, S.fn1, S.fn2, S.fy0, S.fy1, S.fy2, S.ft0, S.fg0, S.fg1, S.fg2, S.fg3, S.fg4, S.fW, S.fK, S.fmp, S.fmq, S.fmr, S.fmx, S.fmb, S.fmk, S.fmz, S.fmh, S.fmo), ⟨h.hnm, h.hna, h.ht, h.hg, h.hfa, h.hac, h.hA, h.hO, h.hl, h.hR, h.hP, h.hx, h.hs, h.hB, h.hK⟩, fun rest => c_X4_by_b l D A.cI A.cZ A.cQ h.hnm hm, fun rest => c_X5_by_b l D A.cI A.cZ A.cQ h.hnm hm⟩
set_option maxHeartbeats 4000000 in
set_option maxRecDepth 100000 in
theorem p_balks (l : Launch) (D : va_G) {A : Ad} {S : St} (h : INV A S) {m wa : Int32} : PAIR l D A S yX4_balks cX4_balks 4 ({ frames := 5, cells := 0, slots := 0, locals := 126 } : Room) yX5_balks cX5_balks 4 ({ frames := 3, cells := 0, slots := 0, locals := 76 } : Room) [.int m, .int wa] := by
  by_cases hm : isN S.nm m = true
  · obtain ⟨k, hk, rfl⟩ := isN_of (by have := h.hnm; omega) hm
    have e0 : S.fn0 k = S.fmp k := (h.hR.1 k hk).1
    have en : mNo (S.fmp k) wa = sRef (S.fn0 k) wa := by rw [no_eq, e0]
    have ek : sKnown S.na (S.fn1 k) (S.fn2 k) = mKnown S.na (S.fmp (5 + k)) (S.fmp (10 + k)) := rs_kn h.hna hk h.hR h.hP
    have ef : sRef (S.fn0 k) wa = 0 → sFF S.nm S.na S.fl0 S.fl1 S.fl2 S.fC S.fn0 k (S.fn0 k) wa S.hN = mFF S.nm S.na S.fl0 S.fl1 S.fl2 S.fC S.fmp k wa := fun hz => by
      obtain ⟨hw, hn⟩ := ref_0 hz
      have e := rs_ff (fc := S.fC) h.hl hw hk h.hR
      rw [e0] at hn
      rw [if_pos hn] at e
      exact e
    refine ⟨if mNo (S.fmp k) wa = 0 then sFirst (mFF S.nm S.na S.fl0 S.fl1 S.fl2 S.fC S.fmp k wa &&& (mKnown S.na (S.fmp (5 + k)) (S.fmp (10 + k)))) else mNo (S.fmp k) wa, (S.nm, S.fa, S.ac, S.na, S.tn, S.gn, S.hN, S.bN, S.hY, S.bY, (0), S.vpl, S.vrm, S.vra, S.x0, S.x1, S.x2, S.x3, S.sd, S.sv, S.fl0, S.fl1, S.fl2, S.fC, S.fn0, S.fn1, S.fn2, S.fy0, S.fy1, S.fy2, S.ft0, S.fg0, S.fg1, S.fg2, S.fg3, S.fg4, S.fW, S.fK, S.fmp, S.fmq, S.fmr, S.fmx, S.fmb, S.fmk, S.fmz, S.fmh, S.fmo), ⟨h.hnm, h.hna, h.ht, h.hg, h.hfa, h.hac, h.hA, h.hO, h.hl, h.hR, h.hP, h.hx, h.hs, h.hB, h.hK⟩, fun rest => MI.res (by
      rw [en]
      by_cases hz : sRef (S.fn0 k) wa = 0
      · rw [if_pos hz, if_pos hz, ef hz, ek, sBalk, if_neg (ff_nem1 h.hna)]
      · rw [if_neg hz, if_neg hz]) (c_X4_balks l D A.cI A.cZ A.cQ h.hnm h.hna hk), fun rest => c_X5_balks l D A.cI A.cZ A.cQ h.hnm h.hna hk⟩
  · have hm : isN S.nm m = false := by simpa using hm
    refine ⟨-1, (S.nm, S.fa, S.ac, S.na, S.tn, S.gn, S.hN, S.bN, S.hY, S.bY, (0), S.vpl, S.vrm, S.vra, S.x0, S.x1, S.x2, S.x3, S.sd, S.sv, S.fl0, S.fl1, S.fl2, S.fC, S.fn0, S.fn1, S.fn2, S.fy0, S.fy1, S.fy2, S.ft0, S.fg0, S.fg1, S.fg2, S.fg3, S.fg4, S.fW, S.fK, S.fmp, S.fmq, S.fmr, S.fmx, S.fmb, S.fmk, S.fmz, S.fmh, S.fmo), ⟨h.hnm, h.hna, h.ht, h.hg, h.hfa, h.hac, h.hA, h.hO, h.hl, h.hR, h.hP, h.hx, h.hs, h.hB, h.hK⟩, fun rest => c_X4_balks_b l D A.cI A.cZ A.cQ h.hnm hm, fun rest => c_X5_balks_b l D A.cI A.cZ A.cQ h.hnm hm⟩
