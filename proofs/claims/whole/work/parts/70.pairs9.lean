theorem hb_and : ∀ t, t < 32 → ∀ a, a < 5 → hbit (nI t) (nI a) = !decide (nI t &&& ((1 : Int32) <<< (nI a &&& 31)) = 0) := by decide +kernel
set_option maxHeartbeats 4000000 in
set_option maxRecDepth 100000 in
theorem p_show (l : Launch) (D : va_G) {A : Ad} {S : St} (h : INV A S) {m0 m1 m2 : Int32} : PAIR l D A S yX4_show cX4_show 6 ({ frames := 3, cells := 0, slots := 0, locals := 65 } : Room) yX5_show cX5_show 4 ({ frames := 2, cells := 0, slots := 0, locals := 46 } : Room) [.int m0, .int m1, .int m2] := by
  by_cases hm : (isN S.nm m0 && isN S.nm m1 && isN S.na m2) = true
  · have hm' := hm
    simp only [Bool.and_eq_true] at hm'
    obtain ⟨⟨i0, i1⟩, i2⟩ := hm'
    obtain ⟨k, hk, rfl⟩ := isN_of (by have := h.hnm; omega) i0
    obtain ⟨o, ho, rfl⟩ := isN_of (by have := h.hnm; omega) i1
    obtain ⟨a, ha, rfl⟩ := isN_of (by have := h.hna; omega) i2
    by_cases he : k = o
    · refine ⟨-2, (S.nm, S.fa, S.ac, S.na, S.tn, S.gn, S.hN, S.bN, S.hY, S.bY, (0), S.vpl, S.vrm, S.vra, S.x0, S.x1, S.x2, S.x3, S.sd, S.sv, S.fl0, S.fl1, S.fl2, S.fC, S.fn0, S.fn1, S.fn2, S.fy0, S.fy1, S.fy2, S.ft0, S.fg0, S.fg1, S.fg2, S.fg3, S.fg4, S.fW, S.fK, S.fmp, S.fmq, S.fmr, S.fmx, S.fmb, S.fmk, S.fmz, S.fmh, S.fmo), ?_, ?_, ?_⟩; exact ⟨h.hnm, h.hna, h.ht, h.hg, h.hfa, h.hac, h.hA, h.hO, h.hl, h.hR, h.hP, h.hx, h.hs, h.hB, h.hK⟩; exact fun rest => c_X4_show_s l D A.cI A.cZ A.cQ h.hnm h.hna hk ho ha he; exact fun rest => c_X5_show_s l D A.cI A.cZ A.cQ h.hnm h.hna hk ho ha he
    · have e0 : S.fn0 k = S.fmp k := (h.hR.1 k hk).1
      have e0o : S.fn0 o = S.fmp o := (h.hR.1 o ho).1
      have e2 : S.fn2 k = S.fmp (10 + k) := (h.hR.1 k hk).2.2
      have ek : sKnown S.na (S.fn1 o) (S.fn2 o) = mKnown S.na (S.fmp (5 + o)) (S.fmp (10 + o)) := rs_kn (v := (S.fn0, S.fn1, S.fn2, S.hN, S.bN)) (f := S.fmp) h.hna ho h.hR h.hP
      obtain ⟨t, ht, et⟩ := (h.hP k hk).2.2
      obtain ⟨t2, ht2, et2⟩ := (h.hP o ho).2.2
      obtain ⟨q, hq, eq⟩ := kn_nI h.hna (h.hP o ho).2.1 ht2
      have eq2 : mKnown S.na (S.fmp (5 + o)) (S.fmp (10 + o)) = nI q := by rw [et2, kn_eq h.hna (h.hP o ho).2.1 ht2, eq]
      have h32 := pow32 h.hna
      have ha5 : a < 5 := by have := h.hna; omega
      obtain ⟨or1, or2⟩ := or_nI S.na h.hna t ht a ha
      have hiff : (S.fn0 k = S.fn0 o ∧ ¬ (sKnown S.na (S.fn1 o) (S.fn2 o) &&& ((1 : Int32) <<< (nI a &&& 31)) = 0) ∧ S.fn2 k &&& ((1 : Int32) <<< (nI a &&& 31)) = 0) ↔ (S.fmp k = S.fmp o ∧ hbit (mKnown S.na (S.fmp (5 + o)) (S.fmp (10 + o))) (nI a) = true ∧ hbit (S.fmp (10 + k)) (nI a) = false) := by
        rw [ek, e0, e0o, e2, eq2, et, hb_and q (by omega) a ha5, hb_and t (by omega) a ha5]
        simp
      have hbc : sBC (S.fn2 k ||| ((1 : Int32) <<< (nI a &&& 31))) = sMn (S.fmp (10 + k) ||| ((1 : Int32) <<< (nI a &&& 31))) := by
        rw [e2, et, or1]
        exact bc_nI _ (by omega)
      by_cases hl : (S.fmp k = S.fmp o ∧ hbit (mKnown S.na (S.fmp (5 + o)) (S.fmp (10 + o))) (nI a) = true ∧ hbit (S.fmp (10 + k)) (nI a) = false)
      · have hrs : RS S.nm (S.fn0, S.fn1, upd S.fn2 k (S.fn2 k ||| ((1 : Int32) <<< (nI a &&& 31))), S.hN, S.bN) (upd S.fmp (10 + k) (S.fmp (10 + k) ||| ((1 : Int32) <<< (nI a &&& 31)))) := by
          rw [e2]
          exact rs_shown (v := (S.fn0, S.fn1, S.fn2, S.hN, S.bN)) (f := S.fmp) h.hR hk h.hnm
        have hok : OKf S.nm S.na (upd S.fmp (10 + k) (S.fmp (10 + k) ||| ((1 : Int32) <<< (nI a &&& 31)))) := by
          rw [et, or1]
          exact ok_shown h.hP or2 hk h.hnm
        refine ⟨sMn (S.fmp (10 + k) ||| ((1 : Int32) <<< (nI a &&& 31))), (S.nm, (rf S.fa S.ac), (ra S.ac), S.na, S.tn, S.gn, S.hN, S.bN, S.hY, S.bY, (0), S.vpl, S.vrm, S.vra, S.x0, S.x1, S.x2, S.x3, S.sd, (va_up S.sv (ri S.fa S.ac) (S.fn0, S.fn1, S.fn2, S.hN, S.bN)), S.fl0, S.fl1, S.fl2, S.fC, S.fn0, S.fn1, (upd S.fn2 k (S.fn2 k ||| ((1 : Int32) <<< (nI a &&& 31)))), S.fy0, S.fy1, S.fy2, S.ft0, S.fg0, S.fg1, S.fg2, S.fg3, S.fg4, S.fW, S.fK, (upd S.fmp (10 + k) (S.fmp (10 + k) ||| ((1 : Int32) <<< (nI a &&& 31)))), S.fmq, S.fmr, S.fmx, (mBook S.fmb S.fmp S.ac), S.fmk, S.fmz, S.fmh, S.fmo), ?_, ?_, ?_⟩; exact ⟨h.hnm, h.hna, h.ht, h.hg, rf_lt9 h.hfa, ra_le9 h.hac, h.hA, h.hO, h.hl, hrs, hok, h.hx, h.hs, book_keep h.hnm h.hfa h.hac h.hR h.hP h.hB, fun q hq => ⟨(h.hK q hq).1, fun hz => by
        show RS S.nm (va_up S.sv (ri S.fa S.ac) (S.fn0, S.fn1, S.fn2, S.hN, S.bN) (14 + q)) _ ∧ _
        rw [slot_keep h.hfa]
        exact (h.hK q hq).2 hz⟩⟩; exact fun rest => MI.res (hbc) (c_X4_show l D A.cI A.cZ A.cQ h.hnm h.hna hk ho ha h.hfa h.hac h.hA he (hiff.mpr hl)); exact fun rest => c_X5_show l D A.cI A.cZ A.cQ h.hnm h.hna hk ho ha h.hac he hl
      · refine ⟨-3, (S.nm, S.fa, S.ac, S.na, S.tn, S.gn, S.hN, S.bN, S.hY, S.bY, (0), S.vpl, S.vrm, S.vra, S.x0, S.x1, S.x2, S.x3, S.sd, S.sv, S.fl0, S.fl1, S.fl2, S.fC, S.fn0, S.fn1, S.fn2, S.fy0, S.fy1, S.fy2, S.ft0, S.fg0, S.fg1, S.fg2, S.fg3, S.fg4, S.fW, S.fK, S.fmp, S.fmq, S.fmr, S.fmx, S.fmb, S.fmk, S.fmz, S.fmh, S.fmo), ?_, ?_, ?_⟩; exact ⟨h.hnm, h.hna, h.ht, h.hg, h.hfa, h.hac, h.hA, h.hO, h.hl, h.hR, h.hP, h.hx, h.hs, h.hB, h.hK⟩; exact fun rest => c_X4_show_l l D A.cI A.cZ A.cQ h.hnm h.hna hk ho ha he (fun z => hl (hiff.mp z)); exact fun rest => c_X5_show_l l D A.cI A.cZ A.cQ h.hnm h.hna hk ho ha he hl
  · have hm : (isN S.nm m0 && isN S.nm m1 && isN S.na m2) = false := by simpa using hm
    refine ⟨-1, (S.nm, S.fa, S.ac, S.na, S.tn, S.gn, S.hN, S.bN, S.hY, S.bY, (0), S.vpl, S.vrm, S.vra, S.x0, S.x1, S.x2, S.x3, S.sd, S.sv, S.fl0, S.fl1, S.fl2, S.fC, S.fn0, S.fn1, S.fn2, S.fy0, S.fy1, S.fy2, S.ft0, S.fg0, S.fg1, S.fg2, S.fg3, S.fg4, S.fW, S.fK, S.fmp, S.fmq, S.fmr, S.fmx, S.fmb, S.fmk, S.fmz, S.fmh, S.fmo), ?_, ?_, ?_⟩; exact ⟨h.hnm, h.hna, h.ht, h.hg, h.hfa, h.hac, h.hA, h.hO, h.hl, h.hR, h.hP, h.hx, h.hs, h.hB, h.hK⟩; exact fun rest => c_X4_show_b l D A.cI A.cZ A.cQ h.hnm h.hna hm; exact fun rest => c_X5_show_b l D A.cI A.cZ A.cQ h.hnm h.hna hm
theorem tr_all {f l0 l1 l2 C n0 n1 n2 mr mx : Nat → Int32} {tn : Nat} (ht : tn ≤ 48) (h9 : (rTreaty f tn mr mx).1 = -9) : TR l0 l1 l2 C (sParts f tn (0, 0, l0, l1, l2, C, n0, n1, n2) ((tn - 1) / 4)) (rTreaty f tn mr mx).2 ∧ (rTreaty f tn mr mx).2.2.1 ≤ 5 ∧ (rTreaty f tn mr mx).2.2.2.1 ≤ 5 := by
  unfold rTreaty at h9 ⊢
  by_cases h0 : tn = 0
  · rw [if_pos h0] at h9
    exact absurd (show (0 : Int32) = -9 from h9) (by decide)
  · rw [if_neg h0] at h9 ⊢
    by_cases h77 : f 0 = 77
    · rw [if_pos h77] at h9 ⊢
      refine tr_loop ht 13 0 (1, 0, 0, mr, mx) rfl (by show 1 ≤ tn; omega) (by show tn < 1 + 4 * 13; omega) (Nat.zero_le _) (Nat.zero_le _) ?_ h9
      exact ⟨rfl, rfl, (tCol_0 _ _ _).symm, (tCol_0 _ _ _).symm, (tCol_0 _ _ _).symm, (tCol_0 _ _ _).symm, fun i hi => absurd hi (Nat.not_lt_zero i), fun i hi => absurd hi (Nat.not_lt_zero i), fun i hi => absurd hi (Nat.not_lt_zero i)⟩
    · rw [if_neg h77] at h9
      exact absurd (show (0 : Int32) = -9 from h9) (by decide)
theorem tCol_lt {mr g : Nat → Int32} {c n a : Nat} (h : a < n) : tCol mr g c n a = mr (3 * a + c) := by simp [tCol, h]
theorem tPg_0 {mr : Nat → Int32} {n k : Nat} (h : k < n) : tPage mr n k = mr (3 * k) := by simp [tPage, h]
theorem tPg_1 {mr : Nat → Int32} {n k : Nat} (hn : n ≤ 5) (h : k < n) : tPage mr n (5 + k) = mr (3 * k + 2) := by
  unfold tPage
  rw [if_neg (by omega), if_pos ⟨by omega, by omega⟩, show 5 + k - 5 = k by omega]
theorem tPg_2 {mr : Nat → Int32} {n j : Nat} (hn : n ≤ 5) (h : 10 ≤ j) : tPage mr n j = 0 := by
  unfold tPage
  rw [if_neg (by omega), if_neg (by omega)]
set_option maxHeartbeats 4000000 in
set_option maxRecDepth 100000 in
theorem p_treaty (l : Launch) (D : va_G) {A : Ad} {S : St} (h : INV A S) : PAIR l D A S yX4_treaty cX4_treaty 2 ({ frames := 3, cells := 0, slots := 0, locals := 66 } : Room) yX5_treaty cX5_treaty 2 ({ frames := 5, cells := 0, slots := 0, locals := 109 } : Room) [] := by
  have hfe := fault_eq (mr := S.fmr) (mx := S.fmx) h.ht h.hx
  by_cases h9 : (rTreaty S.ft0 S.tn S.fmr S.fmx).1 = -9
  · obtain ⟨hT, n5, a5⟩ := tr_all (l0 := S.fl0) (l1 := S.fl1) (l2 := S.fl2) (C := S.fC) (n0 := S.fn0) (n1 := S.fn1) (n2 := S.fn2) h.ht h9
    have hc := fun rest => c_X4_treaty l D A.cI A.cZ A.cQ (aX := A.aX) (aT := A.aT) (aL := A.aL) (aC := A.aC) (aN := A.aN) (aY := A.aY) (aA := A.aA) (aO := A.aO) (aK := A.aK) (aG := A.aG) (aW := A.aW) (al0 := A.al0) (al1 := A.al1) (al2 := A.al2) (an0 := A.an0) (an1 := A.an1) (an2 := A.an2) (ay0 := A.ay0) (ay1 := A.ay1) (ay2 := A.ay2) (at0 := A.at0) (ag0 := A.ag0) (ag1 := A.ag1) (ag2 := A.ag2) (ag3 := A.ag3) (ag4 := A.ag4) (nm := S.nm) (fa := S.fa) (ac := S.ac) (na := S.na) (tn := S.tn) (gn := S.gn) (hN := S.hN) (bN := S.bN) (hY := S.hY) (bY := S.bY) (sd := S.sd) (fl0 := S.fl0) (fl1 := S.fl1) (fl2 := S.fl2) (fC := S.fC) (fn0 := S.fn0) (fn1 := S.fn1) (fn2 := S.fn2) (fy0 := S.fy0) (fy1 := S.fy1) (fy2 := S.fy2) (ft0 := S.ft0) (fg0 := S.fg0) (fg1 := S.fg1) (fg2 := S.fg2) (fg3 := S.fg3) (fg4 := S.fg4) (fW := S.fW) (fK := S.fK) (rest := rest) h.ht (hfe.trans h9)
    generalize sParts S.ft0 S.tn (0, 0, S.fl0, S.fl1, S.fl2, S.fC, S.fn0, S.fn1, S.fn2) ((S.tn - 1) / 4) = V at hc hT
    obtain ⟨V1, V2, V3, V4, V5, V6, V7, V8, V9⟩ := V
    obtain ⟨t1, t2, t3, t4, t5, t6, t7, t8, t9⟩ := hT
    dsimp only at hc t1 t2 t3 t4 t5 t6 t7
    subst t1 t2 t3 t4 t5 t6
    refine ⟨10 * nI (rTreaty S.ft0 S.tn S.fmr S.fmx).2.2.1 + nI (rTreaty S.ft0 S.tn S.fmr S.fmx).2.2.2.1, (((rTreaty S.ft0 S.tn S.fmr S.fmx).2.2.1), S.fa, (0), ((rTreaty S.ft0 S.tn S.fmr S.fmx).2.2.2.1), S.tn, S.gn, (0), (0), S.hY, S.bY, (0), (nI (rTreaty S.ft0 S.tn S.fmr S.fmx).2.1), (nI (rTreaty S.ft0 S.tn S.fmr S.fmx).2.2.1), (nI (rTreaty S.ft0 S.tn S.fmr S.fmx).2.2.2.1), S.x0, S.x1, S.x2, S.x3, S.sd, S.sv, (tCol (rTreaty S.ft0 S.tn S.fmr S.fmx).2.2.2.2.2 S.fl0 0 (rTreaty S.ft0 S.tn S.fmr S.fmx).2.2.2.1), (tCol (rTreaty S.ft0 S.tn S.fmr S.fmx).2.2.2.2.2 S.fl1 1 (rTreaty S.ft0 S.tn S.fmr S.fmx).2.2.2.1), (tCol (rTreaty S.ft0 S.tn S.fmr S.fmx).2.2.2.2.2 S.fl2 2 (rTreaty S.ft0 S.tn S.fmr S.fmx).2.2.2.1), (tCol (rTreaty S.ft0 S.tn S.fmr S.fmx).2.2.2.2.1 S.fC 1 (rTreaty S.ft0 S.tn S.fmr S.fmx).2.2.1), (V7), (V8), (V9), S.fy0, S.fy1, S.fy2, S.ft0, S.fg0, S.fg1, S.fg2, S.fg3, S.fg4, S.fW, (fun _ => 0), (tPage (rTreaty S.ft0 S.tn S.fmr S.fmx).2.2.2.2.1 (rTreaty S.ft0 S.tn S.fmr S.fmx).2.2.1), S.fmq, ((rTreaty S.ft0 S.tn S.fmr S.fmx).2.2.2.2.1), ((rTreaty S.ft0 S.tn S.fmr S.fmx).2.2.2.2.2), S.fmb, S.fmk, (fun _ => 0), S.fmh, S.fmo), ⟨n5, a5, h.ht, h.hg, h.hfa, Nat.zero_le _, h.hA, h.hO, ?_, ?_, ?_, h.hx, h.hs, fun j hj => absurd hj (Nat.not_lt_zero j), fun q _ => ⟨Iff.rfl, fun z => absurd rfl z⟩⟩, fun rest => hc _, fun rest => c_X5_treaty l D A.cI A.cZ A.cQ h.ht h9 n5 a5⟩
    · intro a ha
      obtain ⟨u1, u2, u3⟩ := t8 a ha
      refine ⟨?_, ?_, ?_⟩
      · show isN 10 (tCol _ _ 0 _ a) = true
        rw [tCol_lt ha]; exact u1
      · show isN 4 (tCol _ _ 1 _ a) = true
        rw [tCol_lt ha]; exact u2
      · show isN 10 (tCol _ _ 2 _ a) = true
        rw [tCol_lt ha]; exact u3
    · refine ⟨fun k hk => ?_, (tPg_2 n5 (by decide)).symm, (tPg_2 n5 (by decide)).symm⟩
      obtain ⟨u1, u2, u3⟩ := t7 k hk
      exact ⟨u1.trans (tPg_0 hk).symm, u2.trans (tPg_1 n5 hk).symm, u3.trans (tPg_2 n5 (by omega)).symm⟩
    · intro k hk
      obtain ⟨u1, u2, u3⟩ := t9 k hk
      refine ⟨?_, ?_, 0, Nat.pow_pos (by decide), tPg_2 n5 (by omega)⟩
      · show isN 10 (tPage _ _ k) = true
        rw [tPg_0 hk]; exact u1
      · show isN 4 (tPage _ _ (5 + k)) = true
        rw [tPg_1 n5 hk]; exact u3
  · refine ⟨-3, (S.nm, S.fa, S.ac, S.na, S.tn, S.gn, S.hN, S.bN, S.hY, S.bY, (0), (nI (rTreaty S.ft0 S.tn S.fmr S.fmx).2.1), (nI (rTreaty S.ft0 S.tn S.fmr S.fmx).2.2.1), (nI (rTreaty S.ft0 S.tn S.fmr S.fmx).2.2.2.1), S.x0, S.x1, S.x2, S.x3, S.sd, S.sv, S.fl0, S.fl1, S.fl2, S.fC, S.fn0, S.fn1, S.fn2, S.fy0, S.fy1, S.fy2, S.ft0, S.fg0, S.fg1, S.fg2, S.fg3, S.fg4, S.fW, S.fK, S.fmp, S.fmq, ((rTreaty S.ft0 S.tn S.fmr S.fmx).2.2.2.2.1), ((rTreaty S.ft0 S.tn S.fmr S.fmx).2.2.2.2.2), S.fmb, S.fmk, S.fmz, S.fmh, S.fmo), ?_, ?_, ?_⟩; exact ⟨h.hnm, h.hna, h.ht, h.hg, h.hfa, h.hac, h.hA, h.hO, h.hl, h.hR, h.hP, h.hx, h.hs, h.hB, h.hK⟩; exact fun rest => c_X4_treaty_b l D A.cI A.cZ A.cQ h.ht (fun z => h9 (hfe.symm.trans z)); exact fun rest => c_X5_treaty_b l D A.cI A.cZ A.cQ h.ht h9
