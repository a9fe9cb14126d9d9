/-! both systems' states in the law's world -/
abbrev Ad : Type := (ClassId) × (ClassId) × (ClassId) × (Nat) × (Nat) × (Nat) × (Nat) × (Nat) × (Nat) × (Nat) × (Nat) × (Nat) × (Nat) × (Nat) × (Nat) × (Nat) × (Nat) × (Nat) × (Nat) × (Nat) × (Nat) × (Nat) × (Nat) × (Nat) × (Nat) × (Nat) × (Nat) × (Nat) × (Nat) × (Nat) × (Nat) × (Nat) × (Nat) × (Nat) × (Nat) × (Nat) × (Nat) × (Nat) × (Nat) × (Nat) × (Nat) × (Nat) × (Nat) × (Nat) × (Nat) × (Nat) × (Nat) × (Nat) × (Nat) × (Nat → Option Nat) × (Nat → Option Nat) × (Nat → Nat → Nat)
abbrev Ad.cI (X : Ad) : ClassId := X.1
abbrev Ad.cZ (X : Ad) : ClassId := X.2.1
abbrev Ad.cQ (X : Ad) : ClassId := X.2.2.1
abbrev Ad.aX (X : Ad) : Nat := X.2.2.2.1
abbrev Ad.aL (X : Ad) : Nat := X.2.2.2.2.1
abbrev Ad.al0 (X : Ad) : Nat := X.2.2.2.2.2.1
abbrev Ad.al1 (X : Ad) : Nat := X.2.2.2.2.2.2.1
abbrev Ad.al2 (X : Ad) : Nat := X.2.2.2.2.2.2.2.1
abbrev Ad.aC (X : Ad) : Nat := X.2.2.2.2.2.2.2.2.1
abbrev Ad.aN (X : Ad) : Nat := X.2.2.2.2.2.2.2.2.2.1
abbrev Ad.an0 (X : Ad) : Nat := X.2.2.2.2.2.2.2.2.2.2.1
abbrev Ad.an1 (X : Ad) : Nat := X.2.2.2.2.2.2.2.2.2.2.2.1
abbrev Ad.an2 (X : Ad) : Nat := X.2.2.2.2.2.2.2.2.2.2.2.2.1
abbrev Ad.aY (X : Ad) : Nat := X.2.2.2.2.2.2.2.2.2.2.2.2.2.1
abbrev Ad.ay0 (X : Ad) : Nat := X.2.2.2.2.2.2.2.2.2.2.2.2.2.2.1
abbrev Ad.ay1 (X : Ad) : Nat := X.2.2.2.2.2.2.2.2.2.2.2.2.2.2.2.1
abbrev Ad.ay2 (X : Ad) : Nat := X.2.2.2.2.2.2.2.2.2.2.2.2.2.2.2.2.1
abbrev Ad.aT (X : Ad) : Nat := X.2.2.2.2.2.2.2.2.2.2.2.2.2.2.2.2.2.1
abbrev Ad.at0 (X : Ad) : Nat := X.2.2.2.2.2.2.2.2.2.2.2.2.2.2.2.2.2.2.1
abbrev Ad.aG (X : Ad) : Nat := X.2.2.2.2.2.2.2.2.2.2.2.2.2.2.2.2.2.2.2.1
abbrev Ad.ag0 (X : Ad) : Nat := X.2.2.2.2.2.2.2.2.2.2.2.2.2.2.2.2.2.2.2.2.1
abbrev Ad.ag1 (X : Ad) : Nat := X.2.2.2.2.2.2.2.2.2.2.2.2.2.2.2.2.2.2.2.2.2.1
abbrev Ad.ag2 (X : Ad) : Nat := X.2.2.2.2.2.2.2.2.2.2.2.2.2.2.2.2.2.2.2.2.2.2.1
abbrev Ad.ag3 (X : Ad) : Nat := X.2.2.2.2.2.2.2.2.2.2.2.2.2.2.2.2.2.2.2.2.2.2.2.1
abbrev Ad.ag4 (X : Ad) : Nat := X.2.2.2.2.2.2.2.2.2.2.2.2.2.2.2.2.2.2.2.2.2.2.2.2.1
abbrev Ad.aW (X : Ad) : Nat := X.2.2.2.2.2.2.2.2.2.2.2.2.2.2.2.2.2.2.2.2.2.2.2.2.2.1
abbrev Ad.aK (X : Ad) : Nat := X.2.2.2.2.2.2.2.2.2.2.2.2.2.2.2.2.2.2.2.2.2.2.2.2.2.2.1
abbrev Ad.aO (X : Ad) : Nat := X.2.2.2.2.2.2.2.2.2.2.2.2.2.2.2.2.2.2.2.2.2.2.2.2.2.2.2.1
abbrev Ad.aA (X : Ad) : Nat := X.2.2.2.2.2.2.2.2.2.2.2.2.2.2.2.2.2.2.2.2.2.2.2.2.2.2.2.2.1
abbrev Ad.aM (X : Ad) : Nat := X.2.2.2.2.2.2.2.2.2.2.2.2.2.2.2.2.2.2.2.2.2.2.2.2.2.2.2.2.2.1
abbrev Ad.amt (X : Ad) : Nat := X.2.2.2.2.2.2.2.2.2.2.2.2.2.2.2.2.2.2.2.2.2.2.2.2.2.2.2.2.2.2.1
abbrev Ad.amc (X : Ad) : Nat := X.2.2.2.2.2.2.2.2.2.2.2.2.2.2.2.2.2.2.2.2.2.2.2.2.2.2.2.2.2.2.2.1
abbrev Ad.amw (X : Ad) : Nat := X.2.2.2.2.2.2.2.2.2.2.2.2.2.2.2.2.2.2.2.2.2.2.2.2.2.2.2.2.2.2.2.2.1
abbrev Ad.ams (X : Ad) : Nat := X.2.2.2.2.2.2.2.2.2.2.2.2.2.2.2.2.2.2.2.2.2.2.2.2.2.2.2.2.2.2.2.2.2.1
abbrev Ad.amv (X : Ad) : Nat := X.2.2.2.2.2.2.2.2.2.2.2.2.2.2.2.2.2.2.2.2.2.2.2.2.2.2.2.2.2.2.2.2.2.2.1
abbrev Ad.amp (X : Ad) : Nat := X.2.2.2.2.2.2.2.2.2.2.2.2.2.2.2.2.2.2.2.2.2.2.2.2.2.2.2.2.2.2.2.2.2.2.2.1
abbrev Ad.amq (X : Ad) : Nat := X.2.2.2.2.2.2.2.2.2.2.2.2.2.2.2.2.2.2.2.2.2.2.2.2.2.2.2.2.2.2.2.2.2.2.2.2.1
abbrev Ad.amr (X : Ad) : Nat := X.2.2.2.2.2.2.2.2.2.2.2.2.2.2.2.2.2.2.2.2.2.2.2.2.2.2.2.2.2.2.2.2.2.2.2.2.2.1
abbrev Ad.amx (X : Ad) : Nat := X.2.2.2.2.2.2.2.2.2.2.2.2.2.2.2.2.2.2.2.2.2.2.2.2.2.2.2.2.2.2.2.2.2.2.2.2.2.2.1
abbrev Ad.amb (X : Ad) : Nat := X.2.2.2.2.2.2.2.2.2.2.2.2.2.2.2.2.2.2.2.2.2.2.2.2.2.2.2.2.2.2.2.2.2.2.2.2.2.2.2.1
abbrev Ad.amk (X : Ad) : Nat := X.2.2.2.2.2.2.2.2.2.2.2.2.2.2.2.2.2.2.2.2.2.2.2.2.2.2.2.2.2.2.2.2.2.2.2.2.2.2.2.2.1
abbrev Ad.amz (X : Ad) : Nat := X.2.2.2.2.2.2.2.2.2.2.2.2.2.2.2.2.2.2.2.2.2.2.2.2.2.2.2.2.2.2.2.2.2.2.2.2.2.2.2.2.2.1
abbrev Ad.am0 (X : Ad) : Nat := X.2.2.2.2.2.2.2.2.2.2.2.2.2.2.2.2.2.2.2.2.2.2.2.2.2.2.2.2.2.2.2.2.2.2.2.2.2.2.2.2.2.2.1
abbrev Ad.am1 (X : Ad) : Nat := X.2.2.2.2.2.2.2.2.2.2.2.2.2.2.2.2.2.2.2.2.2.2.2.2.2.2.2.2.2.2.2.2.2.2.2.2.2.2.2.2.2.2.2.1
abbrev Ad.am2 (X : Ad) : Nat := X.2.2.2.2.2.2.2.2.2.2.2.2.2.2.2.2.2.2.2.2.2.2.2.2.2.2.2.2.2.2.2.2.2.2.2.2.2.2.2.2.2.2.2.2.1
abbrev Ad.am3 (X : Ad) : Nat := X.2.2.2.2.2.2.2.2.2.2.2.2.2.2.2.2.2.2.2.2.2.2.2.2.2.2.2.2.2.2.2.2.2.2.2.2.2.2.2.2.2.2.2.2.2.1
abbrev Ad.am4 (X : Ad) : Nat := X.2.2.2.2.2.2.2.2.2.2.2.2.2.2.2.2.2.2.2.2.2.2.2.2.2.2.2.2.2.2.2.2.2.2.2.2.2.2.2.2.2.2.2.2.2.2.1
abbrev Ad.amh (X : Ad) : Nat := X.2.2.2.2.2.2.2.2.2.2.2.2.2.2.2.2.2.2.2.2.2.2.2.2.2.2.2.2.2.2.2.2.2.2.2.2.2.2.2.2.2.2.2.2.2.2.2.1
abbrev Ad.amo (X : Ad) : Nat := X.2.2.2.2.2.2.2.2.2.2.2.2.2.2.2.2.2.2.2.2.2.2.2.2.2.2.2.2.2.2.2.2.2.2.2.2.2.2.2.2.2.2.2.2.2.2.2.2.1
abbrev Ad.fA (X : Ad) : Nat → Option Nat := X.2.2.2.2.2.2.2.2.2.2.2.2.2.2.2.2.2.2.2.2.2.2.2.2.2.2.2.2.2.2.2.2.2.2.2.2.2.2.2.2.2.2.2.2.2.2.2.2.2.1
abbrev Ad.fO (X : Ad) : Nat → Option Nat := X.2.2.2.2.2.2.2.2.2.2.2.2.2.2.2.2.2.2.2.2.2.2.2.2.2.2.2.2.2.2.2.2.2.2.2.2.2.2.2.2.2.2.2.2.2.2.2.2.2.2.1
abbrev Ad.ad (X : Ad) : Nat → Nat → Nat := X.2.2.2.2.2.2.2.2.2.2.2.2.2.2.2.2.2.2.2.2.2.2.2.2.2.2.2.2.2.2.2.2.2.2.2.2.2.2.2.2.2.2.2.2.2.2.2.2.2.2.2
abbrev St : Type := (Nat) × (Nat) × (Nat) × (Nat) × (Nat) × (Nat) × (Int32) × (Int32) × (Int32) × (Int32) × (Int32) × (Int32) × (Int32) × (Int32) × (Int32) × (Int32) × (Int32) × (Int32) × (Int64) × (Nat → SV) × (Nat → Int32) × (Nat → Int32) × (Nat → Int32) × (Nat → Int32) × (Nat → Int32) × (Nat → Int32) × (Nat → Int32) × (Nat → Int32) × (Nat → Int32) × (Nat → Int32) × (Nat → Int32) × (Nat → Int32) × (Nat → Int32) × (Nat → Int32) × (Nat → Int32) × (Nat → Int32) × (Nat → Int32) × (Nat → Int32) × (Nat → Int32) × (Nat → Int32) × (Nat → Int32) × (Nat → Int32) × (Nat → Int32) × (Nat → Int32) × (Nat → Int32) × (Nat → Int32) × (Nat → Int32)
abbrev St.nm (X : St) : Nat := X.1
abbrev St.fa (X : St) : Nat := X.2.1
abbrev St.ac (X : St) : Nat := X.2.2.1
abbrev St.na (X : St) : Nat := X.2.2.2.1
abbrev St.tn (X : St) : Nat := X.2.2.2.2.1
abbrev St.gn (X : St) : Nat := X.2.2.2.2.2.1
abbrev St.hN (X : St) : Int32 := X.2.2.2.2.2.2.1
abbrev St.bN (X : St) : Int32 := X.2.2.2.2.2.2.2.1
abbrev St.hY (X : St) : Int32 := X.2.2.2.2.2.2.2.2.1
abbrev St.bY (X : St) : Int32 := X.2.2.2.2.2.2.2.2.2.1
abbrev St.th (X : St) : Int32 := X.2.2.2.2.2.2.2.2.2.2.1
abbrev St.vpl (X : St) : Int32 := X.2.2.2.2.2.2.2.2.2.2.2.1
abbrev St.vrm (X : St) : Int32 := X.2.2.2.2.2.2.2.2.2.2.2.2.1
abbrev St.vra (X : St) : Int32 := X.2.2.2.2.2.2.2.2.2.2.2.2.2.1
abbrev St.x0 (X : St) : Int32 := X.2.2.2.2.2.2.2.2.2.2.2.2.2.2.1
abbrev St.x1 (X : St) : Int32 := X.2.2.2.2.2.2.2.2.2.2.2.2.2.2.2.1
abbrev St.x2 (X : St) : Int32 := X.2.2.2.2.2.2.2.2.2.2.2.2.2.2.2.2.1
abbrev St.x3 (X : St) : Int32 := X.2.2.2.2.2.2.2.2.2.2.2.2.2.2.2.2.2.1
abbrev St.sd (X : St) : Int64 := X.2.2.2.2.2.2.2.2.2.2.2.2.2.2.2.2.2.2.1
abbrev St.sv (X : St) : Nat → SV := X.2.2.2.2.2.2.2.2.2.2.2.2.2.2.2.2.2.2.2.1
abbrev St.fl0 (X : St) : Nat → Int32 := X.2.2.2.2.2.2.2.2.2.2.2.2.2.2.2.2.2.2.2.2.1
abbrev St.fl1 (X : St) : Nat → Int32 := X.2.2.2.2.2.2.2.2.2.2.2.2.2.2.2.2.2.2.2.2.2.1
abbrev St.fl2 (X : St) : Nat → Int32 := X.2.2.2.2.2.2.2.2.2.2.2.2.2.2.2.2.2.2.2.2.2.2.1
abbrev St.fC (X : St) : Nat → Int32 := X.2.2.2.2.2.2.2.2.2.2.2.2.2.2.2.2.2.2.2.2.2.2.2.1
abbrev St.fn0 (X : St) : Nat → Int32 := X.2.2.2.2.2.2.2.2.2.2.2.2.2.2.2.2.2.2.2.2.2.2.2.2.1
abbrev St.fn1 (X : St) : Nat → Int32 := X.2.2.2.2.2.2.2.2.2.2.2.2.2.2.2.2.2.2.2.2.2.2.2.2.2.1
abbrev St.fn2 (X : St) : Nat → Int32 := X.2.2.2.2.2.2.2.2.2.2.2.2.2.2.2.2.2.2.2.2.2.2.2.2.2.2.1
abbrev St.fy0 (X : St) : Nat → Int32 := X.2.2.2.2.2.2.2.2.2.2.2.2.2.2.2.2.2.2.2.2.2.2.2.2.2.2.2.1
abbrev St.fy1 (X : St) : Nat → Int32 := X.2.2.2.2.2.2.2.2.2.2.2.2.2.2.2.2.2.2.2.2.2.2.2.2.2.2.2.2.1
abbrev St.fy2 (X : St) : Nat → Int32 := X.2.2.2.2.2.2.2.2.2.2.2.2.2.2.2.2.2.2.2.2.2.2.2.2.2.2.2.2.2.1
abbrev St.ft0 (X : St) : Nat → Int32 := X.2.2.2.2.2.2.2.2.2.2.2.2.2.2.2.2.2.2.2.2.2.2.2.2.2.2.2.2.2.2.1
abbrev St.fg0 (X : St) : Nat → Int32 := X.2.2.2.2.2.2.2.2.2.2.2.2.2.2.2.2.2.2.2.2.2.2.2.2.2.2.2.2.2.2.2.1
abbrev St.fg1 (X : St) : Nat → Int32 := X.2.2.2.2.2.2.2.2.2.2.2.2.2.2.2.2.2.2.2.2.2.2.2.2.2.2.2.2.2.2.2.2.1
abbrev St.fg2 (X : St) : Nat → Int32 := X.2.2.2.2.2.2.2.2.2.2.2.2.2.2.2.2.2.2.2.2.2.2.2.2.2.2.2.2.2.2.2.2.2.1
abbrev St.fg3 (X : St) : Nat → Int32 := X.2.2.2.2.2.2.2.2.2.2.2.2.2.2.2.2.2.2.2.2.2.2.2.2.2.2.2.2.2.2.2.2.2.2.1
abbrev St.fg4 (X : St) : Nat → Int32 := X.2.2.2.2.2.2.2.2.2.2.2.2.2.2.2.2.2.2.2.2.2.2.2.2.2.2.2.2.2.2.2.2.2.2.2.1
abbrev St.fW (X : St) : Nat → Int32 := X.2.2.2.2.2.2.2.2.2.2.2.2.2.2.2.2.2.2.2.2.2.2.2.2.2.2.2.2.2.2.2.2.2.2.2.2.1
abbrev St.fK (X : St) : Nat → Int32 := X.2.2.2.2.2.2.2.2.2.2.2.2.2.2.2.2.2.2.2.2.2.2.2.2.2.2.2.2.2.2.2.2.2.2.2.2.2.1
abbrev St.fmp (X : St) : Nat → Int32 := X.2.2.2.2.2.2.2.2.2.2.2.2.2.2.2.2.2.2.2.2.2.2.2.2.2.2.2.2.2.2.2.2.2.2.2.2.2.2.1
abbrev St.fmq (X : St) : Nat → Int32 := X.2.2.2.2.2.2.2.2.2.2.2.2.2.2.2.2.2.2.2.2.2.2.2.2.2.2.2.2.2.2.2.2.2.2.2.2.2.2.2.1
abbrev St.fmr (X : St) : Nat → Int32 := X.2.2.2.2.2.2.2.2.2.2.2.2.2.2.2.2.2.2.2.2.2.2.2.2.2.2.2.2.2.2.2.2.2.2.2.2.2.2.2.2.1
abbrev St.fmx (X : St) : Nat → Int32 := X.2.2.2.2.2.2.2.2.2.2.2.2.2.2.2.2.2.2.2.2.2.2.2.2.2.2.2.2.2.2.2.2.2.2.2.2.2.2.2.2.2.1
abbrev St.fmb (X : St) : Nat → Int32 := X.2.2.2.2.2.2.2.2.2.2.2.2.2.2.2.2.2.2.2.2.2.2.2.2.2.2.2.2.2.2.2.2.2.2.2.2.2.2.2.2.2.2.1
abbrev St.fmk (X : St) : Nat → Int32 := X.2.2.2.2.2.2.2.2.2.2.2.2.2.2.2.2.2.2.2.2.2.2.2.2.2.2.2.2.2.2.2.2.2.2.2.2.2.2.2.2.2.2.2.1
abbrev St.fmz (X : St) : Nat → Int32 := X.2.2.2.2.2.2.2.2.2.2.2.2.2.2.2.2.2.2.2.2.2.2.2.2.2.2.2.2.2.2.2.2.2.2.2.2.2.2.2.2.2.2.2.2.1
abbrev St.fmh (X : St) : Nat → Int32 := X.2.2.2.2.2.2.2.2.2.2.2.2.2.2.2.2.2.2.2.2.2.2.2.2.2.2.2.2.2.2.2.2.2.2.2.2.2.2.2.2.2.2.2.2.2.1
abbrev St.fmo (X : St) : Nat → Int32 := X.2.2.2.2.2.2.2.2.2.2.2.2.2.2.2.2.2.2.2.2.2.2.2.2.2.2.2.2.2.2.2.2.2.2.2.2.2.2.2.2.2.2.2.2.2.2
def XW (A : Ad) (S : St) (rest : va_W) : va_W := (A.aX, .inr (4, [.ref A.aT, .ref A.aL, .ref A.aC, .int (nI S.nm), .ref A.aN, .ref A.aY, .ref A.aA, .int (nI S.fa), .int (nI S.ac), .ref A.aO, .ref A.aK, .ref A.aG, .ref A.aW, .long S.sd])) :: (A.aL, .inr (0, [.ref A.al0, .ref A.al1, .ref A.al2, .int (nI S.na)])) :: (A.al0, .inl (A.cI, 5, .inl (S.fl0))) :: (A.al1, .inl (A.cI, 5, .inl (S.fl1))) :: (A.al2, .inl (A.cI, 5, .inl (S.fl2))) :: (A.aC, .inl (A.cI, 5, .inl (S.fC))) :: (A.aN, .inr (2, [.ref A.an0, .ref A.an1, .ref A.an2, .int S.hN, .int S.bN])) :: (A.an0, .inl (A.cI, 5, .inl (S.fn0))) :: (A.an1, .inl (A.cI, 5, .inl (S.fn1))) :: (A.an2, .inl (A.cI, 5, .inl (S.fn2))) :: (A.aY, .inr (2, [.ref A.ay0, .ref A.ay1, .ref A.ay2, .int S.hY, .int S.bY])) :: (A.ay0, .inl (A.cI, 5, .inl (S.fy0))) :: (A.ay1, .inl (A.cI, 5, .inl (S.fy1))) :: (A.ay2, .inl (A.cI, 5, .inl (S.fy2))) :: (A.aT, .inr (3, [.ref A.at0, .int (nI S.tn)])) :: (A.at0, .inl (A.cI, 48, .inl (S.ft0))) :: (A.aG, .inr (1, [.ref A.ag0, .ref A.ag1, .ref A.ag2, .ref A.ag3, .ref A.ag4, .int (nI S.gn)])) :: (A.ag0, .inl (A.cI, 6, .inl (S.fg0))) :: (A.ag1, .inl (A.cI, 6, .inl (S.fg1))) :: (A.ag2, .inl (A.cI, 6, .inl (S.fg2))) :: (A.ag3, .inl (A.cI, 6, .inl (S.fg3))) :: (A.ag4, .inl (A.cI, 6, .inl (S.fg4))) :: (A.aW, .inl (A.cI, 6, .inl (S.fW))) :: (A.aK, .inl (A.cZ, 2, .inl (S.fK))) :: (A.aO, .inl (A.cQ, 2, .inr (.inr (.inr (.inr (A.fO)))))) :: (A.aA, .inl (A.cQ, 14, .inr (.inr (.inr (.inr (A.fA)))))) :: (pool A.cI A.ad S.sv 16 ++ rest)
def MW (A : Ad) (S : St) (rest : va_W) : va_W := (A.aM, .inr (5, [.int S.th, .ref A.amt, .int (nI S.tn), .int S.vpl, .int (nI S.nm), .ref A.amc, .int (nI S.na), .ref A.amw, .ref A.ams, .ref A.amv, .int S.vrm, .ref A.amr, .int S.vra, .ref A.amx, .ref A.amp, .ref A.amq, .ref A.amb, .int (nI S.ac), .ref A.amk, .ref A.amz, .int (nI S.gn), .ref A.am0, .ref A.am1, .ref A.am2, .ref A.am3, .ref A.am4, .long S.sd, .ref A.amh, .int S.x0, .int S.x1, .int S.x2, .int S.x3, .ref A.amo])) :: (A.amt, .inl (A.cI, 48, .inl (S.ft0))) :: (A.amc, .inl (A.cI, 5, .inl (S.fC))) :: (A.amw, .inl (A.cI, 5, .inl (S.fl0))) :: (A.ams, .inl (A.cI, 5, .inl (S.fl1))) :: (A.amv, .inl (A.cI, 5, .inl (S.fl2))) :: (A.amp, .inl (A.cI, 17, .inl (S.fmp))) :: (A.amq, .inl (A.cI, 17, .inl (S.fmq))) :: (A.amr, .inl (A.cI, 15, .inl (S.fmr))) :: (A.amx, .inl (A.cI, 15, .inl (S.fmx))) :: (A.amb, .inl (A.cI, 238, .inl (S.fmb))) :: (A.amk, .inl (A.cI, 34, .inl (S.fmk))) :: (A.amz, .inl (A.cZ, 2, .inl (S.fmz))) :: (A.am0, .inl (A.cI, 6, .inl (S.fg0))) :: (A.am1, .inl (A.cI, 6, .inl (S.fg1))) :: (A.am2, .inl (A.cI, 6, .inl (S.fg2))) :: (A.am3, .inl (A.cI, 6, .inl (S.fg3))) :: (A.am4, .inl (A.cI, 6, .inl (S.fg4))) :: (A.amh, .inl (A.cI, 10, .inl (S.fmh))) :: (A.amo, .inl (A.cI, 32, .inl (S.fmo))) :: rest
theorem XM_perm (A : Ad) (S T : St) (rest : va_W) : (XW A S (MW A T rest)).Perm (MW A T (XW A S rest)) := by
  have e1 : ∀ r, XW A S r = XW A S [] ++ r := fun r => by simp only [XW, List.cons_append, List.append_nil]
  have e2 : ∀ r, MW A T r = MW A T [] ++ r := fun r => rfl
  rw [e1 (MW A T rest), e2 rest, e2 (XW A S rest), e1 rest, ← List.append_assoc, ← List.append_assoc]
  exact List.Perm.append_right _ List.perm_append_comm
theorem MX_perm (A : Ad) (S T : St) (rest : va_W) : (MW A T (XW A S rest)).Perm (XW A S (MW A T rest)) := (XM_perm A S T rest).symm
def INV (A : Ad) (S : St) : Prop := (S.nm ≤ 5) ∧ (S.na ≤ 5) ∧ (S.tn ≤ 48) ∧ (S.gn ≤ 6) ∧ (S.fa < 14) ∧ (S.ac ≤ 14) ∧ (∀ j, j < 14 → A.fA j = some (A.ad j 0)) ∧ (∀ j, j < 2 → A.fO j = some (A.ad (14 + j) 0)) ∧ (OKl S.na S.fl0 S.fl1 S.fl2) ∧ (RS S.nm (S.fn0, S.fn1, S.fn2, S.hN, S.bN) S.fmp) ∧ (OKf S.nm S.na S.fmp) ∧ (TXo S.ft0 S.tn) ∧ (∀ i, i < S.gn → isN 10 (S.fg2 i) = true ∧ isN 2 (S.fg3 i) = true) ∧ (∀ j, j < S.ac → RS S.nm (S.sv ((S.fa + j) % 14)) (fun i => S.fmb (17 * j + i)) ∧ OKf S.nm S.na (fun i => S.fmb (17 * j + i))) ∧ (∀ q, q < 2 → (S.fK q = 0 ↔ S.fmz q = 0) ∧ (¬ S.fmz q = 0 → RS S.nm (S.sv (14 + q)) (fun i => S.fmk (17 * q + i)) ∧ OKf S.nm S.na (fun i => S.fmk (17 * q + i))))
theorem INV.hnm {A : Ad} {S : St} (h : INV A S) : S.nm ≤ 5 := h.1
theorem INV.hna {A : Ad} {S : St} (h : INV A S) : S.na ≤ 5 := h.2.1
theorem INV.ht {A : Ad} {S : St} (h : INV A S) : S.tn ≤ 48 := h.2.2.1
theorem INV.hg {A : Ad} {S : St} (h : INV A S) : S.gn ≤ 6 := h.2.2.2.1
theorem INV.hfa {A : Ad} {S : St} (h : INV A S) : S.fa < 14 := h.2.2.2.2.1
theorem INV.hac {A : Ad} {S : St} (h : INV A S) : S.ac ≤ 14 := h.2.2.2.2.2.1
theorem INV.hA {A : Ad} {S : St} (h : INV A S) : ∀ j, j < 14 → A.fA j = some (A.ad j 0) := h.2.2.2.2.2.2.1
theorem INV.hO {A : Ad} {S : St} (h : INV A S) : ∀ j, j < 2 → A.fO j = some (A.ad (14 + j) 0) := h.2.2.2.2.2.2.2.1
theorem INV.hl {A : Ad} {S : St} (h : INV A S) : OKl S.na S.fl0 S.fl1 S.fl2 := h.2.2.2.2.2.2.2.2.1
theorem INV.hR {A : Ad} {S : St} (h : INV A S) : RS S.nm (S.fn0, S.fn1, S.fn2, S.hN, S.bN) S.fmp := h.2.2.2.2.2.2.2.2.2.1
theorem INV.hP {A : Ad} {S : St} (h : INV A S) : OKf S.nm S.na S.fmp := h.2.2.2.2.2.2.2.2.2.2.1
theorem INV.hx {A : Ad} {S : St} (h : INV A S) : TXo S.ft0 S.tn := h.2.2.2.2.2.2.2.2.2.2.2.1
theorem INV.hs {A : Ad} {S : St} (h : INV A S) : ∀ i, i < S.gn → isN 10 (S.fg2 i) = true ∧ isN 2 (S.fg3 i) = true := h.2.2.2.2.2.2.2.2.2.2.2.2.1
theorem INV.hB {A : Ad} {S : St} (h : INV A S) : ∀ j, j < S.ac → RS S.nm (S.sv ((S.fa + j) % 14)) (fun i => S.fmb (17 * j + i)) ∧ OKf S.nm S.na (fun i => S.fmb (17 * j + i)) := h.2.2.2.2.2.2.2.2.2.2.2.2.2.1
theorem INV.hK {A : Ad} {S : St} (h : INV A S) : ∀ q, q < 2 → (S.fK q = 0 ↔ S.fmz q = 0) ∧ (¬ S.fmz q = 0 → RS S.nm (S.sv (14 + q)) (fun i => S.fmk (17 * q + i)) ∧ OKf S.nm S.na (fun i => S.fmk (17 * q + i))) := h.2.2.2.2.2.2.2.2.2.2.2.2.2.2
abbrev TY3 (A : Ad) : List (ClassId × FieldType) := [(A.cI, .int), (A.cZ, .boolean), (A.cQ, .object "MulesRemember$State")]
/-- one call on either side answers alike -/
def PAIR (l : Launch) (D : va_G) (A : Ad) (S : St) (yx : MethodName) (cx : ByteArray) (nx : Nat) (rx : Room) (ym : MethodName) (cm : ByteArray) (nm : Nat) (rm : Room) (av : List Value) : Prop :=
  ∃ (r : Int32) (T : St), INV A T ∧ (∀ rest, MI l D (TY3 A) yx cx nx .int rx (.ref A.aX :: av) (XW A S rest) r (XW A T rest)) ∧ ∀ rest, MI l D (TY3 A) ym cm nm .int rm (.ref A.aM :: av) (MW A S rest) r (MW A T rest)
