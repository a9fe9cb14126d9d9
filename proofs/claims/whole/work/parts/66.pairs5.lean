set_option maxHeartbeats 4000000 in
set_option maxRecDepth 100000 in
theorem p_again (l : Launch) (D : va_G) {A : Ad} {S : St} (h : INV A S) {q : Int32} : PAIR l D A S yX4_again cX4_again 2 ({ frames := 1, cells := 0, slots := 0, locals := 22 } : Room) yX5_again cX5_again 3 ({ frames := 1, cells := 0, slots := 0, locals := 25 } : Room) [.int q] := by
  by_cases hq : isN 2 q = true
  · obtain ⟨k, hk, rfl⟩ := isN_of (by decide) hq
    obtain ⟨hz, hs⟩ := h.hK k hk
    by_cases h0 : S.fmz k = 0
    · refine ⟨-3, (S.nm, S.fa, S.ac, S.na, S.tn, S.gn, S.hN, S.bN, S.hY, S.bY, (0), S.vpl, S.vrm, S.vra, S.x0, S.x1, S.x2, S.x3, S.sd, S.sv, S.fl0, S.fl1, S.fl2, S.fC, S.fn0, S.fn1, S.fn2, S.fy0, S.fy1, S.fy2, S.ft0, S.fg0, S.fg1, S.fg2, S.fg3, S.fg4, S.fW, S.fK, S.fmp, S.fmq, S.fmr, S.fmx, S.fmb, S.fmk, S.fmz, S.fmh, S.fmo), ⟨h.hnm, h.hna, h.ht, h.hg, h.hfa, h.hac, h.hA, h.hO, h.hl, h.hR, h.hP, h.hx, h.hs, h.hB, h.hK⟩, fun rest => c_X4_again_l l D A.cI A.cZ A.cQ hk (hz.mpr h0), fun rest => c_X5_again_l l D A.cI A.cZ A.cQ hk h0⟩
    · obtain ⟨hs1, hs2⟩ := hs h0
      exact ⟨S.fmk (17 * k + 15), (S.nm, S.fa, (0), S.na, S.tn, S.gn, ((S.sv (14 + k)).2.2.2.1), ((S.sv (14 + k)).2.2.2.2), S.hY, S.bY, (0), S.vpl, S.vrm, S.vra, S.x0, S.x1, S.x2, S.x3, S.sd, S.sv, S.fl0, S.fl1, S.fl2, S.fC, ((S.sv (14 + k)).1), ((S.sv (14 + k)).2.1), ((S.sv (14 + k)).2.2.1), S.fy0, S.fy1, S.fy2, S.ft0, S.fg0, S.fg1, S.fg2, S.fg3, S.fg4, S.fW, S.fK, (fun j => S.fmk (17 * k + j)), S.fmq, S.fmr, S.fmx, S.fmb, S.fmk, S.fmz, S.fmh, S.fmo), ⟨h.hnm, h.hna, h.ht, h.hg, h.hfa, Nat.zero_le _, h.hA, h.hO, h.hl, hs1, hs2, h.hx, h.hs, fun j hj => absurd hj (Nat.not_lt_zero j), h.hK⟩, fun rest => MI.res (hs1.2.1) (c_X4_again l D A.cI A.cZ A.cQ hk (fun z => h0 (hz.mp z)) h.hO), fun rest => c_X5_again l D A.cI A.cZ A.cQ hk h0⟩
  · have hq : isN 2 q = false := by simpa using hq
    refine ⟨-1, (S.nm, S.fa, S.ac, S.na, S.tn, S.gn, S.hN, S.bN, S.hY, S.bY, (0), S.vpl, S.vrm, S.vra, S.x0, S.x1, S.x2, S.x3, S.sd, S.sv, S.fl0, S.fl1, S.fl2, S.fC, S.fn0, S.fn1, S.fn2, S.fy0, S.fy1, S.fy2, S.ft0, S.fg0, S.fg1, S.fg2, S.fg3, S.fg4, S.fW, S.fK, S.fmp, S.fmq, S.fmr, S.fmx, S.fmb, S.fmk, S.fmz, S.fmh, S.fmo), ⟨h.hnm, h.hna, h.ht, h.hg, h.hfa, h.hac, h.hA, h.hO, h.hl, h.hR, h.hP, h.hx, h.hs, h.hB, h.hK⟩, fun rest => c_X4_again_b l D A.cI A.cZ A.cQ hq, fun rest => c_X5_again_b l D A.cI A.cZ A.cQ hq⟩
set_option maxHeartbeats 4000000 in
set_option maxRecDepth 100000 in
theorem p_keep (l : Launch) (D : va_G) {A : Ad} {S : St} (h : INV A S) {q : Int32} : PAIR l D A S yX4_keep cX4_keep 2 ({ frames := 1, cells := 0, slots := 0, locals := 22 } : Room) yX5_keep cX5_keep 3 ({ frames := 1, cells := 0, slots := 0, locals := 25 } : Room) [.int q] := by
  by_cases hq : isN 2 q = true
  · obtain ⟨k, hk, rfl⟩ := isN_of (by decide) hq
    refine ⟨S.fmp 15, (S.nm, S.fa, S.ac, S.na, S.tn, S.gn, S.hN, S.bN, S.hY, S.bY, (0), S.vpl, S.vrm, S.vra, S.x0, S.x1, S.x2, S.x3, S.sd, (va_up S.sv (14 + k) (S.fn0, S.fn1, S.fn2, S.hN, S.bN)), S.fl0, S.fl1, S.fl2, S.fC, S.fn0, S.fn1, S.fn2, S.fy0, S.fy1, S.fy2, S.ft0, S.fg0, S.fg1, S.fg2, S.fg3, S.fg4, S.fW, (upd S.fK k 1), S.fmp, S.fmq, S.fmr, S.fmx, S.fmb, (ptF S.fmk S.fmp (17 * k) 17), (upd S.fmz k 1), S.fmh, S.fmo), ⟨h.hnm, h.hna, h.ht, h.hg, h.hfa, h.hac, h.hA, h.hO, h.hl, h.hR, h.hP, h.hx, h.hs, fun j hj => ?_, fun q hq => ?_⟩, fun rest => MI.res (h.hR.2.1) (c_X4_keep l D A.cI A.cZ A.cQ hk h.hO), fun rest => c_X5_keep l D A.cI A.cZ A.cQ hk⟩
    · show RS S.nm (va_up S.sv (14 + k) (S.fn0, S.fn1, S.fn2, S.hN, S.bN) ((S.fa + j) % 14)) _ ∧ _
      rw [va_up_ne _ _ (by omega)]
      exact h.hB j hj
    · show (upd S.fK k 1 q = 0 ↔ upd S.fmz k 1 q = 0) ∧ (¬ upd S.fmz k 1 q = 0 → RS S.nm (va_up S.sv (14 + k) (S.fn0, S.fn1, S.fn2, S.hN, S.bN) (14 + q)) (fun i => ptF S.fmk S.fmp (17 * k) 17 (17 * q + i)) ∧ OKf S.nm S.na (fun i => ptF S.fmk S.fmp (17 * k) 17 (17 * q + i)))
      by_cases e : q = k
      · subst e
        have hc : ∀ i, i < 17 → S.fmp i = ptF S.fmk S.fmp (17 * q) 17 (17 * q + i) := fun i hi => by
          unfold ptF
          rw [if_pos (by omega), show 17 * q + i - 17 * q = i by omega]
        rw [va_up_self]
        simp only [upd, if_true]
        exact ⟨trivial, fun _ => ⟨RS.congr h.hnm h.hR hc, OKf.congr h.hnm h.hP hc⟩⟩
      · have hne : (14 + q) ≠ 14 + k := by omega
        have hc : ∀ i, i < 17 → S.fmk (17 * q + i) = ptF S.fmk S.fmp (17 * k) 17 (17 * q + i) := fun i hi => by
          unfold ptF
          rw [if_neg (by omega)]
        rw [va_up_ne _ _ hne]
        simp only [upd, e, if_false]
        exact ⟨(h.hK q hq).1, fun z => ⟨RS.congr h.hnm ((h.hK q hq).2 z).1 hc, OKf.congr h.hnm ((h.hK q hq).2 z).2 hc⟩⟩
  · have hq : isN 2 q = false := by simpa using hq
    refine ⟨-1, (S.nm, S.fa, S.ac, S.na, S.tn, S.gn, S.hN, S.bN, S.hY, S.bY, (0), S.vpl, S.vrm, S.vra, S.x0, S.x1, S.x2, S.x3, S.sd, S.sv, S.fl0, S.fl1, S.fl2, S.fC, S.fn0, S.fn1, S.fn2, S.fy0, S.fy1, S.fy2, S.ft0, S.fg0, S.fg1, S.fg2, S.fg3, S.fg4, S.fW, S.fK, S.fmp, S.fmq, S.fmr, S.fmx, S.fmb, S.fmk, S.fmz, S.fmh, S.fmo), ⟨h.hnm, h.hna, h.ht, h.hg, h.hfa, h.hac, h.hA, h.hO, h.hl, h.hR, h.hP, h.hx, h.hs, h.hB, h.hK⟩, fun rest => c_X4_keep_b l D A.cI A.cZ A.cQ hq, fun rest => c_X5_keep_b l D A.cI A.cZ A.cQ hq⟩
set_option maxHeartbeats 4000000 in
set_option maxRecDepth 100000 in
theorem p_undo (l : Launch) (D : va_G) {A : Ad} {S : St} (h : INV A S) : PAIR l D A S yX4_undo cX4_undo 1 ({ frames := 1, cells := 0, slots := 0, locals := 22 } : Room) yX5_undo cX5_undo 2 ({ frames := 0, cells := 0, slots := 0, locals := 0 } : Room) [] := by
  by_cases h0 : S.ac = 0
  · refine ⟨-3, (S.nm, S.fa, S.ac, S.na, S.tn, S.gn, S.hN, S.bN, S.hY, S.bY, (0), S.vpl, S.vrm, S.vra, S.x0, S.x1, S.x2, S.x3, S.sd, S.sv, S.fl0, S.fl1, S.fl2, S.fC, S.fn0, S.fn1, S.fn2, S.fy0, S.fy1, S.fy2, S.ft0, S.fg0, S.fg1, S.fg2, S.fg3, S.fg4, S.fW, S.fK, S.fmp, S.fmq, S.fmr, S.fmx, S.fmb, S.fmk, S.fmz, S.fmh, S.fmo), ⟨h.hnm, h.hna, h.ht, h.hg, h.hfa, h.hac, h.hA, h.hO, h.hl, h.hR, h.hP, h.hx, h.hs, h.hB, h.hK⟩, fun rest => c_X4_undo_l l D A.cI A.cZ A.cQ h0, fun rest => c_X5_undo_l l D A.cI A.cZ A.cQ h0⟩
  · have h0 : 0 < S.ac := Nat.pos_of_ne_zero h0
    obtain ⟨b1, b2⟩ := h.hB (S.ac - 1) (by omega)
    exact ⟨nI (S.ac - 1), (S.nm, S.fa, (S.ac - 1), S.na, S.tn, S.gn, ((S.sv ((S.fa + (S.ac - 1)) % 14)).2.2.2.1), ((S.sv ((S.fa + (S.ac - 1)) % 14)).2.2.2.2), S.hY, S.bY, (0), S.vpl, S.vrm, S.vra, S.x0, S.x1, S.x2, S.x3, S.sd, S.sv, S.fl0, S.fl1, S.fl2, S.fC, ((S.sv ((S.fa + (S.ac - 1)) % 14)).1), ((S.sv ((S.fa + (S.ac - 1)) % 14)).2.1), ((S.sv ((S.fa + (S.ac - 1)) % 14)).2.2.1), S.fy0, S.fy1, S.fy2, S.ft0, S.fg0, S.fg1, S.fg2, S.fg3, S.fg4, S.fW, S.fK, (fun j => S.fmb (17 * (S.ac - 1) + j)), S.fmq, S.fmr, S.fmx, S.fmb, S.fmk, S.fmz, S.fmh, S.fmo), ⟨h.hnm, h.hna, h.ht, h.hg, h.hfa, by have := h.hac; show S.ac - 1 ≤ 14; omega, h.hA, h.hO, h.hl, b1, b2, h.hx, h.hs, fun j hj => h.hB j (by have : j < S.ac - 1 := hj; omega), h.hK⟩, fun rest => c_X4_undo l D A.cI A.cZ A.cQ h.hfa h.hac h.hA h0, fun rest => c_X5_undo l D A.cI A.cZ A.cQ h.hac h0⟩
