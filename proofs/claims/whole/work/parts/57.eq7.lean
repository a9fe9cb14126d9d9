/-! both sides answer alike: forgetting, from the states -/
section EQ7
variable {nm na : Nat} {fw fs fv fc f : Nat → Int32} {v : SV} {wa : Int32}
theorem mMask_lo {some : Int32} {n j : Nat} (h : j < 10 ∨ 10 + n ≤ j) : mMask f some n j = f j := by
  unfold mMask
  rw [if_neg (by omega)]
theorem mMask_at {some : Int32} {n o : Nat} (h : o < n) : mMask f some n (10 + o) = if hbit some (nI o) then 0 else f (10 + o) := by
  unfold mMask
  rw [if_pos (by omega), show 10 + o - 10 = o by omega]
/-- does mule o balk on its way, with what it remembers (or with nothing shown) -/
def bkN (nm na : Nat) (fw fs fv fc f : Nat → Int32) (wa : Int32) (e : Bool) (o : Nat) : Nat := if isN 10 (sNext (f o) wa) = true ∧ ¬ mFF nm na fw fs fv fc f o wa &&& mKnown na (f (5 + o)) (if e then 0 else f (10 + o)) = 0 then 1 else 0
theorem bkN_01 (e : Bool) (o : Nat) : bkN nm na fw fs fv fc f wa e o = 0 ∨ bkN nm na fw fs fv fc f wa e o = 1 := by
  unfold bkN
  by_cases h : isN 10 (sNext (f o) wa) = true ∧ ¬ mFF nm na fw fs fv fc f o wa &&& mKnown na (f (5 + o)) (if e then 0 else f (10 + o)) = 0
  · exact Or.inr (if_pos h)
  · exact Or.inl (if_neg h)
theorem balk1_eq {t o : Nat} (hnm : nm ≤ 5) (ho : o < nm) (ht : t < 1024) : mBalk1 nm na fw fs fv fc f wa (nI t) o = nI (if t.testBit o then bkN nm na fw fs fv fc f wa true o else bkN nm na fw fs fv fc f wa false o) := by
  have hff : mFF nm na fw fs fv fc (mMask f (nI t) (o + 1)) o wa = mFF nm na fw fs fv fc f o wa := mFF_congr (fun q hq => mMask_lo (by omega)) ho (mMask_lo (by omega))
  unfold mBalk1 mBk
  rw [hff, mMask_lo (f := f) (j := o) (by omega), mMask_lo (f := f) (j := 5 + o) (by omega), mMask_at (f := f) (o := o) (by omega), hb10 (by omega) ht, mTo_next]
  unfold bkN
  by_cases hn : isN 10 (sNext (f o) wa) = true
  · rw [if_pos hn, if_neg (isN_ne9 (by decide) hn)]
    by_cases hb : t.testBit o = true
    · simp only [hb, if_true, hn, true_and]
      by_cases hz : mFF nm na fw fs fv fc f o wa &&& mKnown na (f (5 + o)) 0 = 0
      · simp [hz]; rfl
      · simp [hz]; rfl
    · simp only [hb, if_false, Bool.false_eq_true, hn, true_and]
      by_cases hz : mFF nm na fw fs fv fc f o wa &&& mKnown na (f (5 + o)) (f (10 + o)) = 0
      · simp [hz]; rfl
      · simp [hz]; rfl
  · rw [if_neg hn, if_pos rfl]
    simp [hn]; rfl
theorem tenths_eq {x o : Nat} (hna : na ≤ 5) (hl : OKl na fw fs fv) (hw : isN 2 wa = true) (hR : RS nm v f) (hO : OKf nm na f) (ho : o < nm) (hx : x ≤ 10) : sTenths (sFF nm na fw fs fv fc v.1 o (v.1 o) wa v.2.2.2.1) (sKnown na (v.2.1 o) (v.2.2.1 o)) (sKnown na (v.2.1 o) 0) (nI x) = nI ((10 - x) * bkN nm na fw fs fv fc f wa false o + x * bkN nm na fw fs fv fc f wa true o) := by
  have hk0 : sKnown na (v.2.1 o) 0 = mKnown na (f (5 + o)) 0 := by
    rw [(hR.1 o ho).2.1]
    exact (kn_eq (t := 0) hna (hO o ho).2.1 (Nat.pow_pos (by decide))).symm
  have e10 : (10 : Int32) - nI x = nI (10 - x) := nI_subE (a := 10) (b := x) rfl rfl hx
  rw [rs_ff hl hw ho hR, rs_kn hna ho hR hO, hk0]
  unfold bkN sTenths
  rw [e10]
  by_cases hn : isN 10 (sNext (f o) wa) = true
  · rw [if_pos hn, if_neg (ff_nem1 hna)]
    simp only [hn, true_and, if_true, if_false, Bool.false_eq_true]
    by_cases h1 : mFF nm na fw fs fv fc f o wa &&& mKnown na (f (5 + o)) (f (10 + o)) = 0 <;> by_cases h2 : mFF nm na fw fs fv fc f o wa &&& mKnown na (f (5 + o)) 0 = 0
    · simp [h1, h2]; rfl
    · simp [h1, h2]
    · simp [h1, h2]
    · simp only [h1, h2, if_false, not_false_eq_true, if_true, Nat.mul_one]
      exact nI_add _ _
  · rw [if_neg hn]
    simp [hn]; rfl
theorem forgets_eq {mm x : Nat} (hnm : nm ≤ 5) (hna : na ≤ 5) (hl : OKl na fw fs fv) (hR : RS nm v f) (hO : OKf nm na f) (hw : isN 2 wa = true) (hmm : mm ≤ 5) (hx : x ≤ 10) :
    ∃ (Z : Nat) (cnt : Nat → Int32), Z < 2 ^ 31 ∧ sumFrom (sTal (fun o => sTenths (sFF nm na fw fs fv fc v.1 o (v.1 o) wa v.2.2.2.1) (sKnown na (v.2.1 o) (v.2.2.1 o)) (sKnown na (v.2.1 o) 0) (nI x)) nm) mm (6 - mm) = nI Z ∧ (∀ t, cnt t = sumI (mBalk1 nm na fw fs fv fc f wa (nI t)) nm) ∧ sumI (mForget cnt (nI mm) (nI x) nm) (2 ^ nm) = nI Z := by
  have h0 := bkN_01 (nm := nm) (na := na) (fw := fw) (fs := fs) (fv := fv) (fc := fc) (f := f) (wa := wa) false
  have h1 := bkN_01 (nm := nm) (na := na) (fw := fw) (fs := fs) (fv := fv) (fc := fc) (f := f) (wa := wa) true
  generalize hB0 : bkN nm na fw fs fv fc f wa false = b0 at h0
  generalize hB1 : bkN nm na fw fs fv fc f wa true = b1 at h1
  have hp := pow5 hnm
  obtain ⟨cnt, hcnt⟩ : ∃ cnt : Nat → Int32, ∀ t, cnt t = sumI (mBalk1 nm na fw fs fv fc f wa (nI t)) nm := ⟨_, fun _ => rfl⟩
  refine ⟨sumN (fun T => if mm ≤ fCt b0 b1 nm T then fWt x nm T else 0) (2 ^ nm), cnt, ?_, ?_, hcnt, ?_⟩
  · have := sumN_le (g := fun T => if mm ≤ fCt b0 b1 nm T then fWt x nm T else 0) (b := 100000) (2 ^ nm) (fun T hT => by
      show (if mm ≤ fCt b0 b1 nm T then fWt x nm T else 0) ≤ 100000
      have h1 := fWt_le (T := T) hx (pcN_bit nm hnm T hT)
      have h2 := pw10 hnm
      split <;> omega)
    have h3 : 2 ^ nm * 100000 ≤ 32 * 100000 := Nat.mul_le_mul_right _ hp.2
    omega
  · rw [← tail_eq hx h0 h1 hnm hmm]
    refine sumFrom_nI mm (fun i => tal_nI nm (fun o ho => ⟨?_, ?_⟩) i) (6 - mm)
    · rw [tenths_eq hna hl hw hR hO ho hx, hB0, hB1]
    · show (10 - x) * b0 o + x * b1 o ≤ 10
      rcases h0 o with e0 | e0 <;> rcases h1 o with e1 | e1 <;> rw [e0, e1] <;> omega
  · refine sumN_nI _ (fun t ht => ?_)
    have hc : cnt t = nI (fCt b0 b1 nm t) := by
      rw [hcnt]
      refine sumN_nI nm (fun o ho => ?_)
      rw [balk1_eq hnm ho (by omega), hB0, hB1]
    have hle := fCt_le h0 h1 nm t
    have hpc := pcN_bit nm hnm t ht
    unfold mForget
    rw [hc]
    have e10 : (10 : Int32) - nI x = nI (10 - x) := nI_subE (a := 10) (b := x) rfl rfl hx
    by_cases hm : mm ≤ fCt b0 b1 nm t
    · have : ¬ nI (fCt b0 b1 nm t) < nI mm := fun z => by
        have := (nI_ltI (by omega) (by omega)).mp z
        omega
      rw [if_neg this, if_pos hm, e10, mPow_nI, mPow_nI]
      exact nI_mulE rfl rfl
    · have : nI (fCt b0 b1 nm t) < nI mm := (nI_ltI (by omega) (by omega)).mpr (by omega)
      rw [if_pos this, if_neg hm]
      rfl
end EQ7
