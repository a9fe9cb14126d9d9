/-- likewise, the answer a long -/
def PAIRL (l : Launch) (D : va_G) (A : Ad) (S : St) (yx : MethodName) (cx : ByteArray) (nx : Nat) (rx : Room) (ym : MethodName) (cm : ByteArray) (nm : Nat) (rm : Room) (av : List Value) : Prop :=
  ∃ (r : Int64) (T : St), INV A T ∧ (∀ rest, ML l D (TY3 A) yx cx nx rx (.ref A.aX :: av) (XW A S rest) r (XW A T rest)) ∧ ∀ rest, ML l D (TY3 A) ym cm nm rm (.ref A.aM :: av) (MW A S rest) r (MW A T rest)
set_option maxHeartbeats 4000000 in
set_option maxRecDepth 100000 in
theorem p_seed (l : Launch) (D : va_G) {A : Ad} {S : St} (h : INV A S) {v : Int64} : PAIRL l D A S yX4_seed cX4_seed 5 ({ frames := 0, cells := 0, slots := 0, locals := 0 } : Room) yX5_seed cX5_seed 5 ({ frames := 0, cells := 0, slots := 0, locals := 0 } : Room) [.long v] := by
  exact ⟨S.sd, (S.nm, S.fa, S.ac, S.na, S.tn, S.gn, S.hN, S.bN, S.hY, S.bY, (0), S.vpl, S.vrm, S.vra, S.x0, S.x1, S.x2, S.x3, (v), S.sv, S.fl0, S.fl1, S.fl2, S.fC, S.fn0, S.fn1, S.fn2, S.fy0, S.fy1, S.fy2, S.ft0, S.fg0, S.fg1, S.fg2, S.fg3, S.fg4, S.fW, S.fK, S.fmp, S.fmq, S.fmr, S.fmx, S.fmb, S.fmk, S.fmz, S.fmh, S.fmo), ⟨h.hnm, h.hna, h.ht, h.hg, h.hfa, h.hac, h.hA, h.hO, h.hl, h.hR, h.hP, h.hx, h.hs, h.hB, h.hK⟩, fun rest => c_X4_seed l D A.cI A.cZ A.cQ , fun rest => c_X5_seed l D A.cI A.cZ A.cQ ⟩
theorem isB_of {a b : Nat} {n : Int32} (ha : a < 2 ^ 31) (hb : b < 2 ^ 30) (h : isB (nI a) (nI b) n = true) : ∃ k, a ≤ k ∧ k ≤ b ∧ n = nI k := by
  have h2 := h
  unfold isB at h2
  simp only [Bool.and_eq_true, Bool.not_eq_true', decide_eq_false_iff_not] at h2
  obtain ⟨h3, h4⟩ := h2
  have h5 : ¬ n < 0 := by
    intro h6
    apply h3
    have z : (nI a).toInt = (a : Int) := nI_toInt ha
    have z0 : (0 : Int32).toInt = 0 := by decide
    simp only [Int32.lt_iff_toInt_lt] at h6 ⊢
    omega
  obtain ⟨k, hk, rfl⟩ := isN_of (n := b + 1) (by omega) (isN_yesLe hb h5 (i32_nlt.mp h4))
  refine ⟨k, ?_, by omega, rfl⟩
  have h6 : ¬ k < a := fun h7 => h3 ((nI_ltE (a := k) (b := a) rfl rfl (by omega) ha).mpr h7)
  omega
set_option maxHeartbeats 4000000 in
set_option maxRecDepth 100000 in
theorem p_years (l : Launch) (D : va_G) {A : Ad} {S : St} (h : INV A S) {n : Int32} : PAIR l D A S yX4_years cX4_years 4 ({ frames := 6, cells := 0, slots := 0, locals := 149 } : Room) yX5_years cX5_years 5 ({ frames := 4, cells := 0, slots := 0, locals := 99 } : Room) [.int n] := by
  by_cases hb : isB 1 30 n = true
  · obtain ⟨k, h1, h2, rfl⟩ := isB_of (a := 1) (b := 30) (by decide) (by decide) hb
    have hy := years_eq (v := (S.fn0, S.fn1, S.fn2, S.hN, S.bN)) (f := S.fmp) (fc := S.fC) (sd := S.sd) h.hnm h.hna h.hl h.hR h.hP k
    try dsimp only at hy
    obtain ⟨y1, y2, y3⟩ := hy
    have er : (sYears S.nm S.na S.fl0 S.fl1 S.fl2 S.fC S.sd (S.fn0, S.fn1, S.fn2, S.hN, S.bN) k).2.2.2.2.2 - S.bN = (mYears S.nm S.na S.fl0 S.fl1 S.fl2 S.fC S.sd S.fmp k).2 16 - S.fmp 16 := by
      rw [show (sYears S.nm S.na S.fl0 S.fl1 S.fl2 S.fC S.sd (S.fn0, S.fn1, S.fn2, S.hN, S.bN) k).2.2.2.2.2 = (mYears S.nm S.na S.fl0 S.fl1 S.fl2 S.fC S.sd S.fmp k).2 16 from y2.2.2, show S.bN = S.fmp 16 from h.hR.2.2]
    refine ⟨(mYears S.nm S.na S.fl0 S.fl1 S.fl2 S.fC S.sd S.fmp k).2 16 - S.fmp 16, (S.nm, S.fa, S.ac, S.na, S.tn, S.gn, S.hN, S.bN, ((sYears S.nm S.na S.fl0 S.fl1 S.fl2 S.fC S.sd (S.fn0, S.fn1, S.fn2, S.hN, S.bN) k).2.2.2.2.1), ((sYears S.nm S.na S.fl0 S.fl1 S.fl2 S.fC S.sd (S.fn0, S.fn1, S.fn2, S.hN, S.bN) k).2.2.2.2.2), (0), S.vpl, S.vrm, S.vra, S.x0, S.x1, S.x2, S.x3, ((mYears S.nm S.na S.fl0 S.fl1 S.fl2 S.fC S.sd S.fmp k).1), S.sv, S.fl0, S.fl1, S.fl2, S.fC, S.fn0, S.fn1, S.fn2, ((sYears S.nm S.na S.fl0 S.fl1 S.fl2 S.fC S.sd (S.fn0, S.fn1, S.fn2, S.hN, S.bN) k).2.1), ((sYears S.nm S.na S.fl0 S.fl1 S.fl2 S.fC S.sd (S.fn0, S.fn1, S.fn2, S.hN, S.bN) k).2.2.1), ((sYears S.nm S.na S.fl0 S.fl1 S.fl2 S.fC S.sd (S.fn0, S.fn1, S.fn2, S.hN, S.bN) k).2.2.2.1), S.ft0, S.fg0, S.fg1, S.fg2, S.fg3, S.fg4, S.fW, S.fK, S.fmp, ((mYears S.nm S.na S.fl0 S.fl1 S.fl2 S.fC S.sd S.fmp k).2), S.fmr, S.fmx, S.fmb, S.fmk, S.fmz, S.fmh, S.fmo), ?_, ?_, fun rest => c_X5_years l D A.cI A.cZ A.cQ h.hnm h.hna h1 h2⟩
    exact ⟨h.hnm, h.hna, h.ht, h.hg, h.hfa, h.hac, h.hA, h.hO, h.hl, h.hR, h.hP, h.hx, h.hs, h.hB, h.hK⟩
    intro rest
    rw [← y1]
    exact MI.res er (c_X4_years l D A.cI A.cZ A.cQ h.hnm h.hna h1 h2)
  · have hb : isB 1 30 n = false := by simpa using hb
    have hb2 : n < 1 ∨ 30 < n := by
      by_cases h1 : n < 1 ∨ 30 < n
      · exact h1
      · exact absurd (isB_lt.mpr h1) (by rw [hb]; decide)
    refine ⟨-2, (S.nm, S.fa, S.ac, S.na, S.tn, S.gn, S.hN, S.bN, S.hY, S.bY, (0), S.vpl, S.vrm, S.vra, S.x0, S.x1, S.x2, S.x3, S.sd, S.sv, S.fl0, S.fl1, S.fl2, S.fC, S.fn0, S.fn1, S.fn2, S.fy0, S.fy1, S.fy2, S.ft0, S.fg0, S.fg1, S.fg2, S.fg3, S.fg4, S.fW, S.fK, S.fmp, S.fmq, S.fmr, S.fmx, S.fmb, S.fmk, S.fmz, S.fmh, S.fmo), ?_, ?_, ?_⟩; exact ⟨h.hnm, h.hna, h.ht, h.hg, h.hfa, h.hac, h.hA, h.hO, h.hl, h.hR, h.hP, h.hx, h.hs, h.hB, h.hK⟩; exact fun rest => c_X4_years_b l D A.cI A.cZ A.cQ hb2; exact fun rest => c_X5_years_b l D A.cI A.cZ A.cQ hb
theorem isB_lt4 {n : Int32} : isB 1 4 n = true ↔ ¬ (n < 1 ∨ 4 < n) := by
  unfold isB
  by_cases h1 : n < 1 <;> by_cases h2 : 4 < n <;> simp [h1, h2]
theorem pow100 : ∀ n, n ≤ 4 → mPow 100 n = nI (100 ^ n) := by decide +kernel
theorem jb {nn : Nat} {x : Int32} (h1 : 1 ≤ nn) (h4 : nn ≤ 4) : isB 0 (mPow 100 nn - 1) x = isN (100 ^ nn) x := by
  rw [pow100 nn h4]
  refine isB_0 ?_
  rcases (show nn = 1 ∨ nn = 2 ∨ nn = 3 ∨ nn = 4 by omega) with rfl | rfl | rfl | rfl <;> decide
theorem jb2 {nn q : Nat} (h1 : 1 ≤ nn) (h4 : nn ≤ 4) : q < 100 ^ nn ↔ q / 100 ^ (nn - 1) ≤ 99 := by
  rcases (show nn = 1 ∨ nn = 2 ∨ nn = 3 ∨ nn = 4 by omega) with rfl | rfl | rfl | rfl
  · show q < 100 ↔ q / 1 ≤ 99
    omega
  · show q < 10000 ↔ q / 100 ≤ 99
    omega
  · show q < 1000000 ↔ q / 10000 ≤ 99
    omega
  · show q < 100000000 ↔ q / 1000000 ≤ 99
    omega
set_option maxHeartbeats 4000000 in
set_option maxRecDepth 100000 in
theorem p_judge (l : Launch) (D : va_G) {A : Ad} {S : St} (h : INV A S) {n ro : Int32} : PAIR l D A S yX4_judge cX4_judge 6 ({ frames := 6, cells := 0, slots := 0, locals := 150 } : Room) yX5_judge cX5_judge 4 ({ frames := 5, cells := 0, slots := 0, locals := 123 } : Room) [.int n, .int ro] := by
  by_cases hb : isB 1 4 n = true
  · obtain ⟨nn, h1, h4, rfl⟩ := isB_of (a := 1) (b := 4) (by decide) (by decide) hb
    by_cases h0 : ro < 0
    · have hm : isB 0 (mPow 100 nn - 1) ro = false := by rw [jb h1 h4]; exact isN_lt0 h0
      refine ⟨-2, (S.nm, S.fa, S.ac, S.na, S.tn, S.gn, S.hN, S.bN, S.hY, S.bY, (0), S.vpl, S.vrm, S.vra, S.x0, S.x1, S.x2, S.x3, S.sd, S.sv, S.fl0, S.fl1, S.fl2, S.fC, S.fn0, S.fn1, S.fn2, S.fy0, S.fy1, S.fy2, S.ft0, S.fg0, S.fg1, S.fg2, S.fg3, S.fg4, S.fW, S.fK, S.fmp, S.fmq, S.fmr, S.fmx, S.fmb, S.fmk, S.fmz, S.fmh, S.fmo), ?_, ?_, ?_⟩; exact ⟨h.hnm, h.hna, h.ht, h.hg, h.hfa, h.hac, h.hA, h.hO, h.hl, h.hR, h.hP, h.hx, h.hs, h.hB, h.hK⟩; exact fun rest => c_X4_judge_b l D A.cI A.cZ A.cQ (Or.inr (Or.inr h0)); exact fun rest => c_X5_judge_b2 l D A.cI A.cZ A.cQ h1 h4 hm
    · obtain ⟨q, hq, rfl⟩ : ∃ q, q < 2 ^ 31 ∧ ro = nI q := by
        refine ⟨ro.toInt.toNat, ?_, ?_⟩
        · have := Int32.toInt_lt ro
          omega
        · have z0 : (0 : Int32).toInt = 0 := by decide
          have h3 : 0 ≤ ro.toInt := by
            simp only [Int32.lt_iff_toInt_lt] at h0
            omega
          have := Int32.toInt_lt ro
          rw [← Int32.toInt_inj, nI_toInt (by omega)]
          omega
      have hp : 100 ^ nn < 2 ^ 31 := by
        rcases (show nn = 1 ∨ nn = 2 ∨ nn = 3 ∨ nn = 4 by omega) with rfl | rfl | rfl | rfl <;> decide
      by_cases hs : q / 100 ^ (nn - 1) ≤ 99
      · have hm : isB 0 (mPow 100 nn - 1) (nI q) = true := by rw [jb h1 h4]; exact isN_nI hp ((jb2 h1 h4).mpr hs)
        have hj : (sJudge S.nm S.na S.fl0 S.fl1 S.fl2 S.fC (100 ^ (nn - 1)) q nn 0 (S.fn0, S.fn1, S.fn2, S.hN, S.bN)).1 = (mJudge S.nm S.na S.fl0 S.fl1 S.fl2 S.fC nn q nn 0 S.fmp).1 := judge_eq (fc := S.fC) h.hnm h.hna h.hl nn 0 (S.fn0, S.fn1, S.fn2, S.hN, S.bN) S.fmp (by omega) h.hR h.hP
        refine ⟨(mJudge S.nm S.na S.fl0 S.fl1 S.fl2 S.fC nn q nn 0 S.fmp).1, (S.nm, S.fa, S.ac, S.na, S.tn, S.gn, S.hN, S.bN, ((sJudge S.nm S.na S.fl0 S.fl1 S.fl2 S.fC (100 ^ (nn - 1)) q nn 0 (S.fn0, S.fn1, S.fn2, S.hN, S.bN)).2.2.2.2.1), ((sJudge S.nm S.na S.fl0 S.fl1 S.fl2 S.fC (100 ^ (nn - 1)) q nn 0 (S.fn0, S.fn1, S.fn2, S.hN, S.bN)).2.2.2.2.2), (0), S.vpl, S.vrm, S.vra, S.x0, S.x1, S.x2, S.x3, S.sd, S.sv, S.fl0, S.fl1, S.fl2, S.fC, S.fn0, S.fn1, S.fn2, ((sJudge S.nm S.na S.fl0 S.fl1 S.fl2 S.fC (100 ^ (nn - 1)) q nn 0 (S.fn0, S.fn1, S.fn2, S.hN, S.bN)).2.1), ((sJudge S.nm S.na S.fl0 S.fl1 S.fl2 S.fC (100 ^ (nn - 1)) q nn 0 (S.fn0, S.fn1, S.fn2, S.hN, S.bN)).2.2.1), ((sJudge S.nm S.na S.fl0 S.fl1 S.fl2 S.fC (100 ^ (nn - 1)) q nn 0 (S.fn0, S.fn1, S.fn2, S.hN, S.bN)).2.2.2.1), S.ft0, S.fg0, S.fg1, S.fg2, S.fg3, S.fg4, S.fW, S.fK, S.fmp, ((mJudge S.nm S.na S.fl0 S.fl1 S.fl2 S.fC nn q nn 0 S.fmp).2), S.fmr, S.fmx, S.fmb, S.fmk, S.fmz, S.fmh, S.fmo), ?_, ?_, ?_⟩; exact ⟨h.hnm, h.hna, h.ht, h.hg, h.hfa, h.hac, h.hA, h.hO, h.hl, h.hR, h.hP, h.hx, h.hs, h.hB, h.hK⟩; exact fun rest => MI.res (hj) (c_X4_judge l D A.cI A.cZ A.cQ h.hnm h.hna h1 h4 hq hs); exact fun rest => c_X5_judge l D A.cI A.cZ A.cQ h.hnm h.hna h1 h4 hq hm
      · have hm : isB 0 (mPow 100 nn - 1) (nI q) = false := by
          rw [jb h1 h4, isN_nI' hp hq]
          exact decide_eq_false (fun z => hs ((jb2 h1 h4).mp z))
        refine ⟨-2, (S.nm, S.fa, S.ac, S.na, S.tn, S.gn, S.hN, S.bN, S.hY, S.bY, (0), S.vpl, S.vrm, S.vra, S.x0, S.x1, S.x2, S.x3, S.sd, S.sv, S.fl0, S.fl1, S.fl2, S.fC, S.fn0, S.fn1, S.fn2, S.fy0, S.fy1, S.fy2, S.ft0, S.fg0, S.fg1, S.fg2, S.fg3, S.fg4, S.fW, S.fK, S.fmp, S.fmq, S.fmr, S.fmx, S.fmb, S.fmk, S.fmz, S.fmh, S.fmo), ?_, ?_, ?_⟩; exact ⟨h.hnm, h.hna, h.ht, h.hg, h.hfa, h.hac, h.hA, h.hO, h.hl, h.hR, h.hP, h.hx, h.hs, h.hB, h.hK⟩; exact fun rest => c_X4_judge_b2 l D A.cI A.cZ A.cQ h1 h4 hq (by omega); exact fun rest => c_X5_judge_b2 l D A.cI A.cZ A.cQ h1 h4 hm
  · have hb2 : n < 1 ∨ 4 < n := by
      by_cases h1 : n < 1 ∨ 4 < n
      · exact h1
      · exact absurd (isB_lt4.mpr h1) hb
    have hb : isB 1 4 n = false := by simpa using hb
    refine ⟨-2, (S.nm, S.fa, S.ac, S.na, S.tn, S.gn, S.hN, S.bN, S.hY, S.bY, (0), S.vpl, S.vrm, S.vra, S.x0, S.x1, S.x2, S.x3, S.sd, S.sv, S.fl0, S.fl1, S.fl2, S.fC, S.fn0, S.fn1, S.fn2, S.fy0, S.fy1, S.fy2, S.ft0, S.fg0, S.fg1, S.fg2, S.fg3, S.fg4, S.fW, S.fK, S.fmp, S.fmq, S.fmr, S.fmx, S.fmb, S.fmk, S.fmz, S.fmh, S.fmo), ?_, ?_, ?_⟩; exact ⟨h.hnm, h.hna, h.ht, h.hg, h.hfa, h.hac, h.hA, h.hO, h.hl, h.hR, h.hP, h.hx, h.hs, h.hB, h.hK⟩; exact fun rest => c_X4_judge_b l D A.cI A.cZ A.cQ (hb2.elim Or.inl (fun z => Or.inr (Or.inl z))); exact fun rest => c_X5_judge_b l D A.cI A.cZ A.cQ hb
set_option maxHeartbeats 4000000 in
set_option maxRecDepth 100000 in
theorem p_forgets (l : Launch) (D : va_G) {A : Ad} {S : St} (h : INV A S) {wa m x0 : Int32} {u : Bool} : PAIR l D A S yX4_forgets cX4_forgets 8 ({ frames := 5, cells := 0, slots := 0, locals := 128 } : Room) yX5_forgets cX5_forgets 8 ({ frames := 5, cells := 0, slots := 0, locals := 123 } : Room) [.int wa, .int m, .int x0, .int (bI u)] := by
  by_cases hb : (isN 2 wa && isN 6 m && isN 11 x0) = true
  · have hb' := hb
    simp only [Bool.and_eq_true] at hb'
    obtain ⟨⟨hw, hm⟩, hx⟩ := hb'
    obtain ⟨k, hk, rfl⟩ := isN_of (by decide) hm
    obtain ⟨x, hx2, rfl⟩ := isN_of (by decide) hx
    have hf := forgets_eq (v := (S.fn0, S.fn1, S.fn2, S.hN, S.bN)) (f := S.fmp) (fc := S.fC) (wa := wa) (mm := k) (x := x) h.hnm h.hna h.hl h.hR h.hP hw (by omega) (by omega)
    try dsimp only at hf
    obtain ⟨Z, cnt, hz, e1, hc, e2⟩ := hf
    refine ⟨sFrac Z (10 ^ S.nm) u, (S.nm, S.fa, S.ac, S.na, S.tn, S.gn, S.hN, S.bN, S.hY, S.bY, (0), S.vpl, S.vrm, S.vra, S.x0, S.x1, S.x2, S.x3, S.sd, S.sv, S.fl0, S.fl1, S.fl2, S.fC, S.fn0, S.fn1, S.fn2, S.fy0, S.fy1, S.fy2, S.ft0, S.fg0, S.fg1, S.fg2, S.fg3, S.fg4, (sTal (fun o => sTenths (sFF S.nm S.na S.fl0 S.fl1 S.fl2 S.fC S.fn0 o (S.fn0 o) wa S.hN) (sKnown S.na (S.fn1 o) (S.fn2 o)) (sKnown S.na (S.fn1 o) 0) (nI x)) S.nm), S.fK, S.fmp, (if 2 ^ S.nm = 0 then S.fmq else mMask S.fmp (nI (2 ^ S.nm - 1)) S.nm), S.fmr, S.fmx, S.fmb, S.fmk, S.fmz, S.fmh, S.fmo), ?_, ?_, ?_⟩; exact ⟨h.hnm, h.hna, h.ht, h.hg, h.hfa, h.hac, h.hA, h.hO, h.hl, h.hR, h.hP, h.hx, h.hs, h.hB, h.hK⟩; exact fun rest => c_X4_forgets l D A.cI A.cZ A.cQ h.hnm h.hna hw (by omega) (by omega) e1 hz; exact fun rest => c_X5_forgets l D A.cI A.cZ A.cQ h.hnm h.hna hw hm hx hc e2 hz
  · have hb : (isN 2 wa && isN 6 m && isN 11 x0) = false := by simpa using hb
    refine ⟨-2, (S.nm, S.fa, S.ac, S.na, S.tn, S.gn, S.hN, S.bN, S.hY, S.bY, (0), S.vpl, S.vrm, S.vra, S.x0, S.x1, S.x2, S.x3, S.sd, S.sv, S.fl0, S.fl1, S.fl2, S.fC, S.fn0, S.fn1, S.fn2, S.fy0, S.fy1, S.fy2, S.ft0, S.fg0, S.fg1, S.fg2, S.fg3, S.fg4, S.fW, S.fK, S.fmp, S.fmq, S.fmr, S.fmx, S.fmb, S.fmk, S.fmz, S.fmh, S.fmo), ?_, ?_, ?_⟩; exact ⟨h.hnm, h.hna, h.ht, h.hg, h.hfa, h.hac, h.hA, h.hO, h.hl, h.hR, h.hP, h.hx, h.hs, h.hB, h.hK⟩; exact fun rest => c_X4_forgets_b l D A.cI A.cZ A.cQ hb; exact fun rest => c_X5_forgets_b l D A.cI A.cZ A.cQ hb
