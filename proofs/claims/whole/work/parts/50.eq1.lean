/-! both sides answer alike: the leaves -/
theorem orBits_congr {p q : Nat → Bool} : ∀ n, (∀ a, a < n → p a = q a) → orBits p n = orBits q n
  | 0, _ => rfl
  | n + 1, h => by simp only [orBits, orBits_congr n (fun a ha => h a (by omega)), h n (by omega)]
theorem cntI_congr {p q : Nat → Bool} : ∀ n, (∀ a, a < n → p a = q a) → cntI p n = cntI q n
  | 0, _ => rfl
  | n + 1, h => by simp only [cntI, cntI_congr n (fun a ha => h a (by omega)), h n (by omega)]
theorem sumI_congr {p q : Nat → Int32} : ∀ n, (∀ a, a < n → p a = q a) → sumI p n = sumI q n
  | 0, _ => rfl
  | n + 1, h => by simp only [sumI, sumI_congr n (fun a ha => h a (by omega)), h n (by omega)]
theorem allB_congr {p q : Nat → Bool} : ∀ n, (∀ a, a < n → p a = q a) → allB p n = allB q n
  | 0, _ => rfl
  | n + 1, h => by simp only [allB, allB_congr n (fun a ha => h a (by omega)), h n (by omega)]
theorem orBits_nI (p : Nat → Bool) : ∀ n, n ≤ 5 → ∃ t, t < 2 ^ n ∧ orBits p n = nI t
  | 0, _ => ⟨0, by decide, rfl⟩
  | n + 1, h => by
    obtain ⟨t, ht, he⟩ := orBits_nI p n (by omega)
    simp only [orBits]
    split
    · rw [he]
      have h1 := or_nI (n + 1) h t (by rw [Nat.pow_succ]; omega) n (by omega)
      exact ⟨_, h1.2, h1.1⟩
    · exact ⟨t, by rw [Nat.pow_succ]; omega, he⟩
theorem orBits_0 {p : Nat → Bool} : ∀ n, (∀ a, a < n → p a = false) → orBits p n = 0
  | 0, _ => rfl
  | n + 1, h => by simp [orBits, orBits_0 n (fun a ha => h a (by omega)), h n (by omega)]
theorem bc_nI : ∀ t, t < 32 → sBC (nI t) = sMn (nI t) := by decide +kernel
theorem isN_ne9 {n : Nat} {x : Int32} (hn : n < 1000) (h : isN n x = true) : ¬ x = -9 := by
  obtain ⟨k, hk, rfl⟩ := isN_of (by omega) h
  exact nI_ne_neg (by omega)
theorem mTo_next (st way : Int32) : mTo st way = if isN 10 (sNext st way) then sNext st way else -9 := by
  have e : st + (if way = 1 then 1 else -1) = sNext st way := by
    unfold sNext
    by_cases h : way = 1
    · simp [h]
    · simp only [h, if_false]
      exact (Int32.sub_eq_add_neg st 1).symm
  unfold mTo
  rw [e]
def OKl (na : Nat) (fw fs fv : Nat → Int32) : Prop := ∀ a, a < na → isN 10 (fw a) = true ∧ isN 4 (fs a) = true ∧ isN 10 (fv a) = true
theorem par_eq : ∀ v, v < 10 → ∀ w, w < 2 → decide (¬ nI w = nI v - nI v / 2 * 2) = decide (nI w = (if nI v - nI v / 2 * 2 = 1 then 0 else 1)) := by decide +kernel
theorem bar_eq {st so va onto co ho way ot : Int32} (hso : isN 4 so = true) (hva : isN 10 va = true) (hw : isN 2 way = true) : sBar st so va onto co (ho - ho / 10 * 10) way ot = if st = onto then mBar so va co ho way ot else false := by
  unfold sBar
  by_cases h : st = onto
  · rw [if_pos h, if_pos h]
    have hs : so = 0 ∨ so = 1 ∨ so = 2 ∨ so = 3 := by
      obtain ⟨s, hs, rfl⟩ := isN_of (by decide) hso
      rcases (show s = 0 ∨ s = 1 ∨ s = 2 ∨ s = 3 by omega) with rfl | rfl | rfl | rfl
      · exact Or.inl rfl
      · exact Or.inr (Or.inl rfl)
      · exact Or.inr (Or.inr (Or.inl rfl))
      · exact Or.inr (Or.inr (Or.inr rfl))
    obtain ⟨v, hv, rfl⟩ := isN_of (by decide) hva
    obtain ⟨w, hw2, rfl⟩ := isN_of (by decide) hw
    have hp := par_eq v hv w hw2
    rcases hs with rfl | rfl | rfl | rfl
    · simp [sBarA, mBar]
    · simp [sBarA, mBar]
    · simp only [sBarA, mBar, show ¬ (2 : Int32) = 3 by decide, show ¬ (2 : Int32) = 0 by decide, show ¬ (2 : Int32) = 1 by decide, if_false, if_true]
      exact hp
    · simp [mBar]
  · rw [if_neg h, if_neg h]
theorem ff_eq {nm na : Nat} {fw fs fv fc st f : Nat → Int32} {k : Nat} {frm way hour : Int32} (hl : OKl na fw fs fv) (hw : isN 2 way = true) (hst : ∀ o, o < nm → ¬ o = k → st o = f o) (hfr : frm = f k) (hh : hour = f 15) : sFF nm na fw fs fv fc st k frm way hour = if isN 10 (sNext (f k) way) then mFF nm na fw fs fv fc f k way else -1 := by
  subst hfr; subst hh
  unfold sFF
  by_cases h : isN 10 (sNext (f k) way) = true
  · rw [if_pos h, if_pos h]
    simp only [sForb, mFF]
    rw [mTo_next, if_pos h]
    refine orBits_congr na (fun a ha => ?_)
    obtain ⟨h1, h2, h3⟩ := hl a ha
    rw [bar_eq h2 h3 hw, if_neg (isN_ne9 (by decide) h)]
    have e : sOth nm st k (sNext (f k) way) = sOth nm f k (sNext (f k) way) := by
      refine cntI_congr nm (fun o ho => ?_)
      by_cases hk : o = k
      · simp [hk]
      · simp [hk, hst o ho hk]
    rw [e]
  · rw [if_neg h, if_neg h]
theorem ff_no {nm na : Nat} {fw fs fv fc f : Nat → Int32} {k : Nat} {way : Int32} (hl : OKl na fw fs fv) (h : isN 10 (sNext (f k) way) = false) : mFF nm na fw fs fv fc f k way = 0 := by
  unfold mFF
  refine orBits_0 na (fun a ha => ?_)
  rw [mTo_next, h]
  have := isN_ne9 (by decide) (hl a ha).1
  simp [this]
theorem ff_nI {nm na : Nat} {fw fs fv fc f : Nat → Int32} {k : Nat} {way : Int32} (hna : na ≤ 5) : ∃ t, t < 2 ^ na ∧ mFF nm na fw fs fv fc f k way = nI t := orBits_nI _ na hna
theorem pow32 {na : Nat} (h : na ≤ 5) : 2 ^ na ≤ 32 := (pow5 h).2
theorem nI_nem1 {t : Nat} (h : t < 1000) : ¬ nI t = -1 := by
  intro e
  have h1 : (nI t).toInt = (-1 : Int32).toInt := by rw [e]
  rw [nI_toInt (by omega)] at h1
  have : (-1 : Int32).toInt = -1 := by decide
  omega
theorem ff_nem1 {nm na : Nat} {fw fs fv fc f : Nat → Int32} {k : Nat} {way : Int32} (hna : na ≤ 5) : ¬ mFF nm na fw fs fv fc f k way = -1 := by
  obtain ⟨t, ht, e⟩ := ff_nI (nm := nm) (na := na) (fw := fw) (fs := fs) (fv := fv) (fc := fc) (f := f) (k := k) (way := way) hna
  rw [e]
  have := pow32 hna
  exact nI_nem1 (by omega)
theorem kn_all : ∀ na, na ≤ 5 → ∀ kd, kd < 4 → ∀ t, t < 2 ^ na → mKnown na (nI kd) (nI t) = sKnown na (nI kd) (nI t) ∧ sKnown na (nI kd) (nI t) = nI (sKnown na (nI kd) (nI t)).toNatClampNeg ∧ (sKnown na (nI kd) (nI t)).toNatClampNeg < 2 ^ na := by decide +kernel
theorem kn_eq {na t : Nat} {kind : Int32} (hna : na ≤ 5) (hk : isN 4 kind = true) (ht : t < 2 ^ na) : mKnown na kind (nI t) = sKnown na kind (nI t) := by
  obtain ⟨kd, hkd, rfl⟩ := isN_of (by decide) hk
  exact (kn_all na hna kd hkd t ht).1
theorem kn_nI {na t : Nat} {kind : Int32} (hna : na ≤ 5) (hk : isN 4 kind = true) (ht : t < 2 ^ na) : ∃ q, q < 2 ^ na ∧ sKnown na kind (nI t) = nI q := by
  obtain ⟨kd, hkd, rfl⟩ := isN_of (by decide) hk
  exact ⟨_, (kn_all na hna kd hkd t ht).2.2, (kn_all na hna kd hkd t ht).2.1⟩
theorem no_eq (st way : Int32) : mNo st way = sRef st way := by
  unfold mNo sRef
  by_cases h : isN 2 way = true
  · rw [if_pos h, if_pos h, mTo_next]
    by_cases h2 : isN 10 (sNext st way) = true
    · simp [h2, isN_ne9 (by decide) h2]
    · simp [h2]
  · rw [if_neg h, if_neg h]
/-! states -/
def RS (nm : Nat) (v : SV) (f : Nat → Int32) : Prop := (∀ k, k < nm → v.1 k = f k ∧ v.2.1 k = f (5 + k) ∧ v.2.2.1 k = f (10 + k)) ∧ v.2.2.2.1 = f 15 ∧ v.2.2.2.2 = f 16
def OKf (nm na : Nat) (f : Nat → Int32) : Prop := ∀ k, k < nm → isN 10 (f k) = true ∧ isN 4 (f (5 + k)) = true ∧ ∃ t, t < 2 ^ na ∧ f (10 + k) = nI t
section EQ
variable {nm na : Nat} {fw fs fv fc f : Nat → Int32} {v : SV} {k : Nat} {way : Int32}
theorem rs_ff (hl : OKl na fw fs fv) (hw : isN 2 way = true) (hk : k < nm) (hR : RS nm v f) : sFF nm na fw fs fv fc v.1 k (v.1 k) way v.2.2.2.1 = if isN 10 (sNext (f k) way) then mFF nm na fw fs fv fc f k way else -1 :=
  ff_eq hl hw (fun o ho _ => (hR.1 o ho).1) (hR.1 k hk).1 hR.2.1
theorem rs_kn (hna : na ≤ 5) (hk : k < nm) (hR : RS nm v f) (hO : OKf nm na f) : sKnown na (v.2.1 k) (v.2.2.1 k) = mKnown na (f (5 + k)) (f (10 + k)) := by
  obtain ⟨-, h2, t, ht, e⟩ := hO k hk
  rw [(hR.1 k hk).2.1, (hR.1 k hk).2.2, e, kn_eq hna h2 ht]
theorem rs_goes (hna : na ≤ 5) (hl : OKl na fw fs fv) (hw : isN 2 way = true) (hk : k < nm) (hR : RS nm v f) (hO : OKf nm na f) : sGoes (sFF nm na fw fs fv fc v.1 k (v.1 k) way v.2.2.2.1) (sKnown na (v.2.1 k) (v.2.2.1 k)) = (isN 10 (sNext (f k) way) && !mBk nm na fw fs fv fc f k way) := by
  rw [rs_ff hl hw hk hR, rs_kn hna hk hR hO]
  by_cases h : isN 10 (sNext (f k) way) = true
  · simp [h, sGoes, mBk, ff_nem1 hna]
  · simp [h, sGoes]
theorem rs_go {b : Int32} (hnm : nm ≤ 5) (hk : k < nm) (hn : isN 10 (sNext (f k) way) = true) (hb : sBC b = sMn b) (hR : RS nm v f) : RS nm (goV b v k way) (mGoF f k (mTo (f k) way) b) := by
  refine ⟨fun j hj => ?_, ?_, ?_⟩
  · have h16 : ¬ j = 16 := by omega
    have h15 : ¬ j = 15 := by omega
    obtain ⟨h1, h2, h3⟩ := hR.1 j hj
    refine ⟨?_, ?_, ?_⟩
    · by_cases e : j = k
      · subst e
        simp [goV, upd, mGoF, h16, mTo_next, hn, h1]
      · simp [goV, upd, mGoF, h16, h15, e, h1]
    · simp only [goV, mGoF, show ¬ 5 + j = 16 by omega, show ¬ 5 + j = k by omega, show ¬ 5 + j = 15 by omega, if_false]; exact h2
    · simp only [goV, mGoF, show ¬ 10 + j = 16 by omega, show ¬ 10 + j = k by omega, show ¬ 10 + j = 15 by omega, if_false]; exact h3
  · simp only [goV, mGoF, show ¬ (15 : Nat) = 16 by decide, show ¬ 15 = k by omega, if_false, if_true, hR.2.1]
  · simp only [goV, mGoF, if_true, hR.2.2, hb]
theorem ok_go {b to : Int32} (hnm : nm ≤ 5) (hk : k < nm) (hto : isN 10 to = true) (hO : OKf nm na f) : OKf nm na (mGoF f k to b) := by
  intro j hj
  obtain ⟨h1, h2, h3⟩ := hO j hj
  simp only [mGoF, show ¬ j = 16 by omega, show ¬ j = 15 by omega, show ¬ 5 + j = 16 by omega, show ¬ 5 + j = k by omega, show ¬ 5 + j = 15 by omega, show ¬ 10 + j = 16 by omega, show ¬ 10 + j = k by omega, show ¬ 10 + j = 15 by omega, if_false]
  refine ⟨?_, h2, h3⟩
  split
  · exact hto
  · exact h1
theorem rs_hour (hR : RS nm v f) (hnm : nm ≤ 5) : RS nm (hourV v) (upd f 15 (f 15 + 1)) := by
  refine ⟨fun j hj => ?_, ?_, ?_⟩
  · obtain ⟨h1, h2, h3⟩ := hR.1 j hj
    simp only [hourV, upd, show ¬ j = 15 by omega, show ¬ 5 + j = 15 by omega, show ¬ 10 + j = 15 by omega, if_false]
    exact ⟨h1, h2, h3⟩
  · simp [hourV, upd, hR.2.1]
  · simp [hourV, upd, hR.2.2]
theorem ok_hour {x : Int32} (hO : OKf nm na f) (hnm : nm ≤ 5) : OKf nm na (upd f 15 x) := by
  intro j hj
  obtain ⟨h1, h2, h3⟩ := hO j hj
  simp only [upd, show ¬ j = 15 by omega, show ¬ 5 + j = 15 by omega, show ¬ 10 + j = 15 by omega, if_false]
  exact ⟨h1, h2, h3⟩
theorem rs_kind {x : Int32} (hR : RS nm v f) (hk : k < nm) (hnm : nm ≤ 5) : RS nm (v.1, upd v.2.1 k x, v.2.2) (upd f (5 + k) x) := by
  refine ⟨fun j hj => ?_, ?_, ?_⟩
  · obtain ⟨h1, h2, h3⟩ := hR.1 j hj
    refine ⟨?_, ?_, ?_⟩
    · simp only [upd, show ¬ j = 5 + k by omega, if_false]; exact h1
    · by_cases e : j = k
      · subst e; simp [upd]
      · simp only [upd, e, show ¬ 5 + j = 5 + k by omega, if_false]; exact h2
    · simp only [upd, show ¬ 10 + j = 5 + k by omega, if_false]; exact h3
  · simp only [upd, show ¬ 15 = 5 + k by omega, if_false]; exact hR.2.1
  · simp only [upd, show ¬ 16 = 5 + k by omega, if_false]; exact hR.2.2
theorem rs_shown {x : Int32} (hR : RS nm v f) (hk : k < nm) (hnm : nm ≤ 5) : RS nm (v.1, v.2.1, upd v.2.2.1 k x, v.2.2.2) (upd f (10 + k) x) := by
  refine ⟨fun j hj => ?_, ?_, ?_⟩
  · obtain ⟨h1, h2, h3⟩ := hR.1 j hj
    refine ⟨?_, ?_, ?_⟩
    · simp only [upd, show ¬ j = 10 + k by omega, if_false]; exact h1
    · simp only [upd, show ¬ 5 + j = 10 + k by omega, if_false]; exact h2
    · by_cases e : j = k
      · subst e; simp [upd]
      · simp only [upd, e, show ¬ 10 + j = 10 + k by omega, if_false]; exact h3
  · simp only [upd, show ¬ 15 = 10 + k by omega, if_false]; exact hR.2.1
  · simp only [upd, show ¬ 16 = 10 + k by omega, if_false]; exact hR.2.2
theorem ok_kind {x : Int32} (hO : OKf nm na f) (hx : isN 4 x = true) (hk : k < nm) (hnm : nm ≤ 5) : OKf nm na (upd f (5 + k) x) := by
  intro j hj
  obtain ⟨h1, h2, h3⟩ := hO j hj
  simp only [upd, show ¬ j = 5 + k by omega, show ¬ 10 + j = 5 + k by omega, if_false]
  refine ⟨h1, ?_, h3⟩
  split
  · exact hx
  · exact h2
theorem ok_shown {t : Nat} (hO : OKf nm na f) (ht : t < 2 ^ na) (hk : k < nm) (hnm : nm ≤ 5) : OKf nm na (upd f (10 + k) (nI t)) := by
  intro j hj
  obtain ⟨h1, h2, h3⟩ := hO j hj
  simp only [upd, show ¬ j = 10 + k by omega, show ¬ 5 + j = 10 + k by omega, if_false]
  refine ⟨h1, h2, ?_⟩
  split
  · exact ⟨t, ht, rfl⟩
  · exact h3
end EQ
