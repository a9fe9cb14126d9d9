/-! both sides answer alike: doings, years, councils, lessons -/
theorem nI_clampE {x : Int32} {k : Nat} (h : x = nI k) (hk : k < 2 ^ 31) : x.toNatClampNeg = k := by subst h; exact nI_clamp hk
section EQ2
variable {nm na : Nat} {fw fs fv fc f : Nat → Int32} {v : SV} {k : Nat} {way : Int32}
theorem mFF_congr {g : Nat → Int32} (h : ∀ o, o < nm → f o = g o) (hk : k < nm) (h15 : f 15 = g 15) : mFF nm na fw fs fv fc f k way = mFF nm na fw fs fv fc g k way := by
  unfold mFF
  rw [h k hk, h15]
  have e : ∀ onto, sOth nm f k onto = sOth nm g k onto := fun onto => cntI_congr nm (fun o ho => by rw [h o ho])
  refine orBits_congr na (fun a _ => ?_)
  rw [e]
theorem md_move {d : Nat} (h0 : ¬ d / 10 = 0) (h5 : d / 10 ≤ 5) : mDoes nm na fw fs fv fc f d = if d / 10 - 1 < nm ∧ d % 10 < 2 ∧ ¬ mTo (f (d / 10 - 1)) (nI (d % 10)) = -9 ∧ mFF nm na fw fs fv fc f (d / 10 - 1) (nI (d % 10)) = 0 then (true, mGoF f (d / 10 - 1) (mTo (f (d / 10 - 1)) (nI (d % 10))) (mFF nm na fw fs fv fc f (d / 10 - 1) (nI (d % 10)))) else (false, f) := by
  unfold mDoes
  have hd0 : ¬ d = 0 := by omega
  have h1 : 1 ≤ d / 10 ∧ d / 10 ≤ 5 := ⟨by omega, h5⟩
  rw [if_neg hd0, if_pos h1]
theorem md_fix {d : Nat} (h0 : ¬ d = 0) (h5 : ¬ (1 ≤ d / 10 ∧ d / 10 ≤ 5)) : mDoes nm na fw fs fv fc f d = if ¬ d % 10 < nm then (false, f)
  else if d / 10 = 6 ∧ ¬ f (5 + d % 10) = 3 then (true, upd f (5 + d % 10) 3)
  else if d / 10 = 7 ∧ ¬ f (10 + d % 10) = 0 then (true, upd f (10 + d % 10) 0)
  else (false, upd f (10 + d % 10) (f (10 + d % 10))) := by
  unfold mDoes
  rw [if_neg h0, if_neg h5]
theorem sd_move {d : Nat} (h0 : ¬ d / 10 = 0) (h5 : d / 10 ≤ 5) (hd : d < 100) (hnm : nm ≤ 5) : sDone nm na fw fs fv fc v (nI (d / 10)) (nI (d % 10)) = if (decide (d % 10 < 2) && (decide (d / 10 - 1 < nm) && decide (sFF nm na fw fs fv fc v.1 (d / 10 - 1) (v.1 (d / 10 - 1)) (nI (d % 10)) v.2.2.2.1 = 0))) = true then (true, goV 0 v (d / 10 - 1) (nI (d % 10))) else (false, v) := by
  have g0 : ¬ nI (d / 10) = 0 := fun h => by
    have := (nI_eqE (a := d / 10) (b := 0) rfl rfl (by omega) (by omega)).mp h
    omega
  have g5 : ¬ (5 : Int32) < nI (d / 10) := fun h => by
    have := (nI_ltE (a := 5) (b := d / 10) rfl rfl (by omega) (by omega)).mp h
    omega
  have e1 : nI (d / 10) - 1 = nI (d / 10 - 1) := nI_subE (a := d / 10) (b := 1) rfl rfl (by omega)
  unfold sDone
  rw [if_neg g0, if_pos g5, e1, nI_clamp (by omega)]
  rw [isN_nI' (n := 2) (by omega) (by omega), isN_nI' (n := nm) (by omega) (by omega)]
theorem sd_fix {d : Nat} (h5 : ¬ d / 10 ≤ 5) (hd : d < 100) (hnm : nm ≤ 5) : sDone nm na fw fs fv fc v (nI (d / 10)) (nI (d % 10)) = if decide (d % 10 < nm) = false then (false, v)
  else if nI (d / 10) = 6 then (!decide (v.2.1 (d % 10) = 3), (v.1, upd v.2.1 (d % 10) 3, v.2.2))
  else (decide (nI (d / 10) = 7) && !decide (v.2.2.1 (d % 10) = 0), (v.1, v.2.1, upd v.2.2.1 (d % 10) 0, v.2.2.2)) := by
  have g0 : ¬ nI (d / 10) = 0 := fun h => by
    have := (nI_eqE (a := d / 10) (b := 0) rfl rfl (by omega) (by omega)).mp h
    omega
  have g5 : ¬ ¬ (5 : Int32) < nI (d / 10) := fun h => h ((nI_ltE (a := 5) (b := d / 10) rfl rfl (by omega) (by omega)).mpr (by omega))
  unfold sDone
  rw [if_neg g0, if_neg g5, isN_nI' (by omega) (by omega), nI_clamp (by omega)]
theorem done_eq {d : Nat} (hnm : nm ≤ 5) (hna : na ≤ 5) (hl : OKl na fw fs fv) (hR : RS nm v f) (hO : OKf nm na f) (hd : d < 100) :
    (sDone nm na fw fs fv fc v (nI (d / 10)) (nI (d % 10))).1 = (mDoes nm na fw fs fv fc f d).1 ∧ ((mDoes nm na fw fs fv fc f d).1 = true → RS nm (sDone nm na fw fs fv fc v (nI (d / 10)) (nI (d % 10))).2 (mDoes nm na fw fs fv fc f d).2 ∧ OKf nm na (mDoes nm na fw fs fv fc f d).2) := by
  by_cases h0 : d / 10 = 0
  · have es : sDone nm na fw fs fv fc v (nI (d / 10)) (nI (d % 10)) = (decide (nI (d % 10) = 0), hourV v) := by
      rw [h0]; unfold sDone; exact if_pos rfl
    rw [es]
    by_cases hd0 : d = 0
    · have e : mDoes nm na fw fs fv fc f d = (true, upd f 15 (f 15 + 1)) := by unfold mDoes; rw [if_pos hd0]
      rw [e]
      refine ⟨?_, fun _ => ⟨rs_hour hR hnm, ok_hour hO hnm⟩⟩
      subst hd0
      rfl
    · have e : (mDoes nm na fw fs fv fc f d).1 = false := by
        have h7 : ¬ (d / 10 = 7 ∧ ¬ f (10 + d % 10) = 0) := by omega
        have h6 : ¬ (d / 10 = 6 ∧ ¬ f (5 + d % 10) = 3) := by omega
        rw [md_fix hd0 (by omega), if_neg h6, if_neg h7]
        split <;> rfl
      rw [e]
      refine ⟨?_, fun h => absurd h Bool.false_ne_true⟩
      have : ¬ nI (d % 10) = 0 := fun h => by
        have := (nI_eqE (a := d % 10) (b := 0) rfl rfl (by omega) (by omega)).mp h
        omega
      simp [this]
  · have hd0 : ¬ d = 0 := by omega
    by_cases h5 : d / 10 ≤ 5
    · rw [sd_move h0 h5 hd hnm, md_move h0 h5]
      by_cases hg : d % 10 < 2
      · by_cases hk : d / 10 - 1 < nm
        · have hw : isN 2 (nI (d % 10)) = true := isN_nI (by decide) hg
          rw [rs_ff hl hw hk hR]
          by_cases hn : isN 10 (sNext (f (d / 10 - 1)) (nI (d % 10))) = true
          · have hto : ¬ mTo (f (d / 10 - 1)) (nI (d % 10)) = -9 := by rw [mTo_next, if_pos hn]; exact isN_ne9 (by decide) hn
            rw [if_pos hn]
            by_cases hf : mFF nm na fw fs fv fc f (d / 10 - 1) (nI (d % 10)) = 0
            · have c1 : (decide (d % 10 < 2) && (decide (d / 10 - 1 < nm) && decide (mFF nm na fw fs fv fc f (d / 10 - 1) (nI (d % 10)) = 0))) = true := by simp [hg, hk, hf]
              rw [if_pos c1, if_pos ⟨hk, hg, hto, hf⟩, hf]
              exact ⟨rfl, fun _ => ⟨rs_go hnm hk hn (by decide) hR, ok_go hnm hk (by rw [mTo_next, if_pos hn]; exact hn) hO⟩⟩
            · have c1 : ¬ (decide (d % 10 < 2) && (decide (d / 10 - 1 < nm) && decide (mFF nm na fw fs fv fc f (d / 10 - 1) (nI (d % 10)) = 0))) = true := by simp [hf]
              rw [if_neg c1, if_neg (fun h => hf h.2.2.2)]
              exact ⟨rfl, fun h => absurd h Bool.false_ne_true⟩
          · have hto : mTo (f (d / 10 - 1)) (nI (d % 10)) = -9 := by rw [mTo_next, if_neg hn]
            rw [if_neg hn]
            have c1 : ¬ (decide (d % 10 < 2) && (decide (d / 10 - 1 < nm) && decide ((-1 : Int32) = 0))) = true := by simp
            rw [if_neg c1, if_neg (fun h => h.2.2.1 hto)]
            exact ⟨rfl, fun h => absurd h Bool.false_ne_true⟩
        · have c1 : ¬ (decide (d % 10 < 2) && (decide (d / 10 - 1 < nm) && decide (sFF nm na fw fs fv fc v.1 (d / 10 - 1) (v.1 (d / 10 - 1)) (nI (d % 10)) v.2.2.2.1 = 0))) = true := by simp [hk]
          rw [if_neg c1, if_neg (fun h => hk h.1)]
          exact ⟨rfl, fun h => absurd h Bool.false_ne_true⟩
      · have c1 : ¬ (decide (d % 10 < 2) && (decide (d / 10 - 1 < nm) && decide (sFF nm na fw fs fv fc v.1 (d / 10 - 1) (v.1 (d / 10 - 1)) (nI (d % 10)) v.2.2.2.1 = 0))) = true := by simp [hg]
        rw [if_neg c1, if_neg (fun h => hg h.2.1)]
        exact ⟨rfl, fun h => absurd h Bool.false_ne_true⟩
    · rw [sd_fix h5 hd hnm, md_fix hd0 (by omega)]
      by_cases hg : d % 10 < nm
      · have c1 : ¬ decide (d % 10 < nm) = false := by simp [hg]
        rw [if_neg c1, if_neg (fun h : ¬ d % 10 < nm => h hg)]
        obtain ⟨r1, r2, r3⟩ := hR.1 _ hg
        rw [r2, r3]
        by_cases h6 : d / 10 = 6
        · have g6 : nI (d / 10) = 6 := by rw [h6]; rfl
          rw [if_pos g6]
          by_cases hc : f (5 + d % 10) = 3
          · have h67 : ¬ (d / 10 = 7 ∧ ¬ f (10 + d % 10) = 0) := by omega
            rw [if_neg (fun h : d / 10 = 6 ∧ ¬ f (5 + d % 10) = 3 => h.2 hc), if_neg h67]
            exact ⟨by simp [hc], fun h => absurd h Bool.false_ne_true⟩
          · rw [if_pos ⟨h6, hc⟩]
            exact ⟨by simp [hc], fun _ => ⟨rs_kind hR hg hnm, ok_kind hO (by decide) hg hnm⟩⟩
        · have g6 : ¬ nI (d / 10) = 6 := fun h => h6 ((nI_eqE (a := d / 10) (b := 6) rfl rfl (by omega) (by omega)).mp h)
          rw [if_neg g6, if_neg (fun h : d / 10 = 6 ∧ ¬ f (5 + d % 10) = 3 => h6 h.1)]
          by_cases h7 : d / 10 = 7
          · have g7 : nI (d / 10) = 7 := by rw [h7]; rfl
            by_cases hc : f (10 + d % 10) = 0
            · rw [if_neg (fun h : d / 10 = 7 ∧ ¬ f (10 + d % 10) = 0 => h.2 hc)]
              exact ⟨by simp [hc, g7], fun h => absurd h Bool.false_ne_true⟩
            · rw [if_pos ⟨h7, hc⟩]
              exact ⟨by simp [hc, g7], fun _ => ⟨rs_shown hR hg hnm, ok_shown (t := 0) hO (Nat.pow_pos (by decide)) hg hnm⟩⟩
          · have g7 : ¬ nI (d / 10) = 7 := fun h => h7 ((nI_eqE (a := d / 10) (b := 7) rfl rfl (by omega) (by omega)).mp h)
            rw [if_neg (fun h : d / 10 = 7 ∧ ¬ f (10 + d % 10) = 0 => h7 h.1)]
            exact ⟨by simp [g7], fun h => absurd h Bool.false_ne_true⟩
      · have c1 : decide (d % 10 < nm) = false := by simp [hg]
        rw [if_pos c1, if_pos hg]
        exact ⟨rfl, fun h => absurd h Bool.false_ne_true⟩
theorem judge_eq {nn rw0 : Nat} (hnm : nm ≤ 5) (hna : na ≤ 5) (hl : OKl na fw fs fv) : ∀ (n j : Nat) (v : SV) (f : Nat → Int32), j + n = nn → RS nm v f → OKf nm na f → (sJudge nm na fw fs fv fc (100 ^ (nn - 1)) rw0 n j v).1 = (mJudge nm na fw fs fv fc nn rw0 n j f).1
  | 0, j, v, f, _, _, _ => rfl
  | n + 1, j, v, f, hj, hR, hO => by
    rw [sJudge_s, mJudge_s]
    have e : 100 ^ (nn - 1) / 100 ^ j = 100 ^ (nn - 1 - j) := Nat.pow_div (by omega) (by decide)
    rw [e]
    obtain ⟨h1, h2⟩ := done_eq (d := rw0 / 100 ^ (nn - 1 - j) % 100) (fc := fc) hnm hna hl hR hO (Nat.mod_lt _ (by decide))
    rw [h1]
    split
    · rename_i h
      exact judge_eq hnm hna hl n (j + 1) _ _ (by omega) (h2 h).1 (h2 h).2
    · rfl
theorem live_eq {t : Nat} (hnm : nm ≤ 5) (hna : na ≤ 5) (hl : OKl na fw fs fv) (hR : RS nm v f) (hO : OKf nm na f) (ht : t < 12) :
    RS nm (sLive nm na fw fs fv fc v (nI t / 2) (nI t - nI t / 2 * 2)) (mLive nm na fw fs fv fc f t) ∧ OKf nm na (mLive nm na fw fs fv fc f t) := by
  have e1 : nI t / 2 = nI (t / 2) := nI_divE (a := t) (b := 2) rfl rfl (by omega) (by decide) (by decide)
  have e2 : nI t - nI t / 2 * 2 = nI (t % 2) := nI_remE (a := t) (b := 2) rfl rfl (by omega) (by decide) (by decide)
  rw [e2, e1]
  unfold sLive
  rw [isN_nI' (by omega) (by omega), nI_clamp (by omega)]
  by_cases hk : t / 2 < nm
  · have hw : isN 2 (nI (t % 2)) = true := isN_nI (by decide) (Nat.mod_lt _ (by decide))
    rw [if_pos (by simp [hk]), rs_goes hna hl hw hk hR hO]
    by_cases hn : isN 10 (sNext (f (t / 2)) (nI (t % 2))) = true
    · have hto : ¬ mTo (f (t / 2)) (nI (t % 2)) = -9 := by rw [mTo_next, if_pos hn]; exact isN_ne9 (by decide) hn
      by_cases hb : mBk nm na fw fs fv fc f (t / 2) (nI (t % 2)) = false
      · rw [mLive_t (by omega) hk hto hb, if_pos (by simp [hn, hb]), rs_ff hl hw hk hR, if_pos hn]
        obtain ⟨q, hq, e⟩ := ff_nI (nm := nm) (fw := fw) (fs := fs) (fv := fv) (fc := fc) (f := f) (k := t / 2) (way := nI (t % 2)) hna
        have h32 := pow32 hna
        exact ⟨rs_go hnm hk hn (by rw [e]; exact bc_nI q (by omega)) hR, ok_go hnm hk (by rw [mTo_next, if_pos hn]; exact hn) hO⟩
      · rw [mLive_f (fun h => hb h.2.2.2), if_neg (by simp [hb])]
        exact ⟨rs_hour hR hnm, ok_hour hO hnm⟩
    · have hto : mTo (f (t / 2)) (nI (t % 2)) = -9 := by rw [mTo_next, if_neg hn]
      rw [mLive_f (fun h => h.2.2.1 hto), if_neg (by simp [hn])]
      exact ⟨rs_hour hR hnm, ok_hour hO hnm⟩
  · rw [mLive_f (fun h => hk h.2.1), if_neg (by simp [hk])]
    exact ⟨rs_hour hR hnm, ok_hour hO hnm⟩
theorem years_eq {sd : Int64} (hnm : nm ≤ 5) (hna : na ≤ 5) (hl : OKl na fw fs fv) (hR : RS nm v f) (hO : OKf nm na f) : ∀ n, (sYears nm na fw fs fv fc sd v n).1 = (mYears nm na fw fs fv fc sd f n).1 ∧ RS nm (sYears nm na fw fs fv fc sd v n).2 (mYears nm na fw fs fv fc sd f n).2 ∧ OKf nm na (mYears nm na fw fs fv fc sd f n).2
  | 0 => ⟨rfl, hR, hO⟩
  | n + 1 => by
    obtain ⟨h1, h2, h3⟩ := years_eq hnm hna hl hR hO n
    obtain ⟨t, ht, hlt, hc⟩ := sLot_nI (sSeed (mYears nm na fw fs fv fc sd f n).1)
    have h4 := live_eq (fc := fc) (t := t) hnm hna hl h2 h3 ht
    rw [mYears_s, sYears, h1]
    refine ⟨rfl, ?_⟩
    dsimp only
    rw [hc, hlt]
    exact h4
theorem worth_eq (hna : na ≤ 5) (hl : OKl na fw fs fv) (hR : RS nm v f) (hO : OKf nm na f) : sumI (fun o => sWorth1 (sFF nm na fw fs fv fc v.1 o (v.1 o) 1 v.2.2.2.1) (sKnown na (v.2.1 o) (v.2.2.1 o))) nm = sumI (fun o => mWorth1 (mTo (f o) 1) (mBk nm na fw fs fv fc f o 1)) nm := by
  refine sumI_congr nm (fun o ho => ?_)
  rw [rs_ff hl (by decide) ho hR, rs_kn hna ho hR hO, mTo_next]
  by_cases hn : isN 10 (sNext (f o) 1) = true
  · rw [if_pos hn, if_pos hn]
    by_cases hb : mFF nm na fw fs fv fc f o 1 &&& mKnown na (f (5 + o)) (f (10 + o)) = 0
    · simp [sWorth1, mWorth1, mBk, hb, ff_nem1 hna, isN_ne9 (by decide) hn]
    · simp [sWorth1, mWorth1, mBk, hb, ff_nem1 hna, isN_ne9 (by decide) hn]
  · rw [if_neg hn, if_neg hn]
    simp [sWorth1, mWorth1]
theorem sMany_congr {p q : Nat → Bool} {a b : Nat → Int32} : ∀ n, (∀ t, t < n → p t = q t ∧ a t = b t) → sMany p a n = sMany q b n
  | 0, _ => rfl
  | n + 1, h => by
    have h1 := sMany_congr n (fun t ht => h t (by omega))
    obtain ⟨h2, h3⟩ := h n (by omega)
    simp only [sMany, h1, h2, h3]
theorem rest_eq (W : Int32) : ∀ t, t < 4 → (sContent (nI (t / 2)) (nI (t % 2)) W && sContent (nI (t % 2)) (nI (t / 2)) W) = mRest W (nI (t / 2)) (nI (t % 2)) := by
  intro t ht
  have e0 : (1 : Int32) - nI 0 = 1 := by decide
  have e1 : (1 : Int32) - nI 1 = 0 := by decide
  have z0 : nI 0 = 0 := rfl
  have z1 : nI 1 = 1 := rfl
  rcases (show t = 0 ∨ t = 1 ∨ t = 2 ∨ t = 3 by omega) with rfl | rfl | rfl | rfl <;> simp [sContent, sGain, mRest, mGain, z0, z1]
theorem mb_eq {so va co ho wa : Int32} (hso : isN 3 so = true) (hva : isN 10 va = true) (hh : isN 10 ho = true) (hw : isN 2 wa = true) : sBarA so va co ho wa = mBar so va co ho wa 0 := by
  have hs : so = 0 ∨ so = 1 ∨ so = 2 := by
    obtain ⟨s, hs, rfl⟩ := isN_of (by decide) hso
    rcases (show s = 0 ∨ s = 1 ∨ s = 2 by omega) with rfl | rfl | rfl
    · exact Or.inl rfl
    · exact Or.inr (Or.inl rfl)
    · exact Or.inr (Or.inr rfl)
  obtain ⟨v, hv, rfl⟩ := isN_of (by decide) hva
  obtain ⟨w, hw2, rfl⟩ := isN_of (by decide) hw
  obtain ⟨h, hh2, rfl⟩ := isN_of (by decide) hh
  have hp := par_eq v hv w hw2
  have e : nI h - nI h / 10 * 10 = nI h := by
    exact (nI_remE (x := nI h) (y := 10) (a := h) (b := 10) rfl rfl (by omega) (by decide) (by decide)).trans (by rw [Nat.mod_eq_of_lt hh2])
  rcases hs with rfl | rfl | rfl
  · simp [sBarA, mBar]
  · simp [sBarA, mBar, e]
  · simp only [sBarA, mBar, show ¬ (2 : Int32) = 0 by decide, show ¬ (2 : Int32) = 1 by decide, if_false, if_true]
    exact hp
theorem may_eq {g0 g1 g2 g3 g4 : Nat → Int32} {s0 : Int32} {gn : Nat} (hg : ∀ i, i < gn → isN 10 (g2 i) = true ∧ isN 2 (g3 i) = true) : sMany (fun t => allB (sAg g0 g1 g2 g3 g4 s0 (nI (t / 10)) (nI (t % 10))) gn) (fun t => 10 * nI (t / 10) + nI (t % 10)) 30 = sMany (fun t => allB (mAg g0 g1 g2 g3 g4 s0 (nI (t / 10)) (nI (t % 10))) gn) (fun t => nI t) 30 := by
  refine sMany_congr 30 (fun t ht => ⟨allB_congr gn (fun i hi => ?_), ?_⟩)
  · obtain ⟨h2, h3⟩ := hg i hi
    unfold sAg mAg
    rw [mb_eq (isN_nI (by decide) (by omega)) (isN_nI (by decide) (Nat.mod_lt _ (by decide))) h2 h3]
    simp [Bool.not_and]
  · show 10 * nI (t / 10) + nI (t % 10) = nI t
    exact (nI_addE (x := 10 * nI (t / 10)) (y := nI (t % 10)) (a := 10 * (t / 10)) (b := t % 10) (nI_mulE (a := 10) (b := t / 10) rfl rfl) rfl).trans (by rw [Nat.div_add_mod])
theorem or_all : ∀ na, na ≤ 5 → ∀ s, s < 2 ^ na → ∀ t, t < 2 ^ na → nI s ||| nI t = nI (s ||| t) ∧ s ||| t < 2 ^ na := by decide +kernel
theorem mn_lt6 : ∀ t, t < 32 → sMn (nI t) < 6 := by decide +kernel
theorem teach_eq {kn : Int32} {ok ok' : Nat → Bool} : ∀ n, n ≤ 32 → (∀ t, t < n → ok t = ok' t) → sTeach kn ok n = (mTeach na kn ok' n, if mTeach na kn ok' n = -9 then 6 else sMn (mTeach na kn ok' n)) ∧ (mTeach na kn ok' n = -9 ∨ ∃ s, s < 32 ∧ mTeach na kn ok' n = nI s)
  | 0, _, _ => ⟨rfl, Or.inl rfl⟩
  | n + 1, hn, h => by
    obtain ⟨h1, h2⟩ := teach_eq (kn := kn) (ok := ok) (ok' := ok') n (by omega) (fun t ht => h t (by omega))
    have h3 := h n (by omega)
    have hb := bc_nI n (by omega)
    have h6 := mn_lt6 n (by omega)
    have hc : (sBC (nI n) < (sTeach kn ok n).2) ↔ (mTeach na kn ok' n = -9 ∨ sMn (nI n) < sMn (mTeach na kn ok' n)) := by
      rw [h1, hb]
      by_cases h9 : mTeach na kn ok' n = -9
      · simp [h9, h6]
      · simp [h9]
    by_cases hx : nI n &&& kn = 0 ∧ (mTeach na kn ok' n = -9 ∨ sMn (nI n) < sMn (mTeach na kn ok' n)) ∧ ok' n = true
    · have et : mTeach na kn ok' (n + 1) = nI n := if_pos hx
      have es : sTeach kn ok (n + 1) = (nI n, sBC (nI n)) := if_pos ⟨hx.1, hc.mpr hx.2.1, h3.trans hx.2.2⟩
      rw [es, et, if_neg (nI_ne_neg (by omega)), hb]
      exact ⟨rfl, Or.inr ⟨n, by omega, rfl⟩⟩
    · have et : mTeach na kn ok' (n + 1) = mTeach na kn ok' n := if_neg hx
      have es : sTeach kn ok (n + 1) = sTeach kn ok n := if_neg (fun z => hx ⟨z.1, hc.mp z.2.1, h3.symm.trans z.2.2⟩)
      rw [es, et]
      exact ⟨h1, h2⟩
theorem mUp_ne {x : Int32} {j : Nat} (h : ¬ j = 10 + k) : mUp f k x j = f j := by simp [mUp, h]
theorem hold_eq {t : Nat} (hnm : nm ≤ 5) (hna : na ≤ 5) (hl : OKl na fw fs fv) (hw : isN 2 way = true) (hk : k < nm) (hR : RS nm v f) (hO : OKf nm na f) (ht : t < 2 ^ na) : sKeep1 (sFF nm na fw fs fv fc v.1 k (v.1 k) way v.2.2.2.1) (sKnown na (v.2.1 k) (v.2.2.1 k ||| nI t)) = mHold1 (mTo (mUp f k (nI t) k) way) (mFF nm na fw fs fv fc (mUp f k (nI t)) k way) (mKnown na (mUp f k (nI t) (5 + k)) (mUp f k (nI t) (10 + k))) := by
  rw [mUp_ne (f := f) (k := k) (x := nI t) (j := k) (by omega), mUp_ne (f := f) (k := k) (x := nI t) (j := 5 + k) (by omega), mFF_congr (f := mUp f k (nI t)) (g := f) (fun o ho => mUp_ne (by omega)) hk (mUp_ne (by omega)), rs_ff hl hw hk hR, mTo_next]
  obtain ⟨-, h2, s, hs, e⟩ := hO k hk
  have e2 : mUp f k (nI t) (10 + k) = nI (s ||| t) := by simp only [mUp, if_true, e]; exact (or_all na hna s hs t ht).1
  have e3 : v.2.2.1 k ||| nI t = nI (s ||| t) := by rw [(hR.1 k hk).2.2, e]; exact (or_all na hna s hs t ht).1
  rw [e2, e3, (hR.1 k hk).2.1, kn_eq hna h2 (or_all na hna s hs t ht).2]
  by_cases hn : isN 10 (sNext (f k) way) = true
  · rw [if_pos hn, if_pos hn]
    simp [sKeep1, mHold1, ff_nem1 hna, isN_ne9 (by decide) hn]
  · rw [if_neg hn, if_neg hn]
    simp [sKeep1, mHold1]
end EQ2
