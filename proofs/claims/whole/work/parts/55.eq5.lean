/-! both sides answer alike: shares, the sums -/
theorem i32_split (c x y z w : Int32) : c * ((x + y) - (z + w)) = c * (x - z) + c * (y - w) := by
  rw [← Int32.mul_add]
  congr 1
  rw [Int32.sub_eq_add_neg (x + y), Int32.neg_add, Int32.sub_eq_add_neg (-z) w, Int32.sub_eq_add_neg x z, Int32.sub_eq_add_neg y w]
  rw [Int32.add_assoc, Int32.add_assoc, ← Int32.add_assoc y, Int32.add_comm y, Int32.add_assoc (-z)]
section EQ5
variable {nm na : Nat} {fw fs fv fc f : Nat → Int32} {v : SV} {a : Nat}
theorem ff_m (hna : na ≤ 5) (o w : Nat) : ∃ m, m < 2 ^ na ∧ mFF nm na fw fs fv fc f o (nI w) = nI m := ff_nI hna
theorem six_eq (hna : na ≤ 5) (ha : a < na) (hl : OKl na fw fs fv) (hR : RS nm v f) {o w m : Nat} (ho : o < nm) (hw : w < 2) (hm : m < 2 ^ na) (e : mFF nm na fw fs fv fc f o (nI w) = nI m) : sSixty (sFF nm na fw fs fv fc v.1 o (v.1 o) (nI w) v.2.2.2.1) (nI a) = nI (shX a m) := by
  rw [rs_ff hl (isN_nI (by decide) hw) ho hR]
  by_cases hn : isN 10 (sNext (f o) (nI w)) = true
  · rw [if_pos hn, e]
    exact (sh_all na hna a ha m hm).2.2.1
  · have hn : isN 10 (sNext (f o) (nI w)) = false := by simpa using hn
    have h0 : nI m = nI 0 := by rw [← e, ff_no hl hn]; rfl
    have hp := pow32 hna
    have : m = 0 := (nI_eq (by omega) (by omega)).mp h0
    subst this
    have hb : ∀ a, a < 5 → shX a 0 = 0 := by decide +kernel
    rw [hn, hb a (by omega)]
    rfl
theorem b1_eq (hna : na ≤ 5) (hl : OKl na fw fs fv) {o w m t : Nat} (hm : m < 2 ^ na) (e : mFF nm na fw fs fv fc f o (nI w) = nI m) : mBar1 (mTo (f o) (nI w)) (mFF nm na fw fs fv fc f o (nI w)) (nI t) = shB m t := by
  unfold mBar1 shB
  rw [mTo_next, e]
  by_cases hn : isN 10 (sNext (f o) (nI w)) = true
  · rw [if_pos hn, if_neg (isN_ne9 (by decide) hn)]
  · have hn : isN 10 (sNext (f o) (nI w)) = false := by simpa using hn
    have h0 : nI m = 0 := by rw [← e, ff_no hl hn]
    rw [hn, h0]
    simp
theorem share_eq (hnm : nm ≤ 5) (hna : na ≤ 5) (ha : a < na) (hl : OKl na fw fs fv) (hR : RS nm v f) :
    ∃ Z1 Z2, sumI (fun o => sSixty (sFF nm na fw fs fv fc v.1 o (v.1 o) 0 v.2.2.2.1) (nI a) + sSixty (sFF nm na fw fs fv fc v.1 o (v.1 o) 1 v.2.2.2.1) (nI a)) nm = nI Z1 ∧ sumI (mShare (fun t => mBarred nm na fw fs fv fc f (nI t)) na a) (2 ^ na) = nI Z2 ∧ Z1 < 2 ^ 31 ∧ Z2 < 2 ^ 31 ∧ ∀ u, sFrac Z1 60 u = sFrac Z2 (mWaysN na) u := by
  obtain ⟨M, hM⟩ : ∃ M : Nat → Nat → Nat, ∀ o w, M o w < 2 ^ na ∧ mFF nm na fw fs fv fc f o (nI w) = nI (M o w) :=
    ⟨fun o w => (ff_m (nm := nm) (fw := fw) (fs := fs) (fv := fv) (fc := fc) (f := f) hna o w).choose, fun o w => (ff_m (nm := nm) (fw := fw) (fs := fs) (fv := fv) (fc := fc) (f := f) hna o w).choose_spec⟩
  refine ⟨sumN (fun o => shX a (M o 0) + shX a (M o 1)) nm, sumN (fun o => shS na a (M o 0) + shS na a (M o 1)) nm, ?_, ?_, ?_, ?_, fun u => ?_⟩
  · refine sumN_nI nm (fun o ho => ?_)
    have h0 := six_eq (fc := fc) (w := 0) hna ha hl hR ho (by decide) (hM o 0).1 (hM o 0).2
    have h1 := six_eq (fc := fc) (w := 1) hna ha hl hR ho (by decide) (hM o 1).1 (hM o 1).2
    rw [show nI 0 = 0 from rfl] at h0
    rw [show nI 1 = 1 from rfl] at h1
    rw [h0, h1, nI_add]
  · have hW : ∀ t, mBarred nm na fw fs fv fc f (nI t) = sumI (fun o => shB (M o 0) t + shB (M o 1) t) nm := fun t => by
      unfold mBarred
      refine sumI_congr nm (fun o _ => ?_)
      unfold mStep
      have h0 := b1_eq (fc := fc) (f := f) (o := o) (w := 0) (t := t) hna hl (hM o 0).1 (hM o 0).2
      have h1 := b1_eq (fc := fc) (f := f) (o := o) (w := 1) (t := t) hna hl (hM o 1).1 (hM o 1).2
      rw [show nI 0 = 0 from rfl] at h0
      rw [show nI 1 = 1 from rfl] at h1
      rw [h0, h1]
    have hS : ∀ t, mShare (fun t => mBarred nm na fw fs fv fc f (nI t)) na a t = sumI (fun o => shT na a (M o 0) t + shT na a (M o 1) t) nm := fun t => by
      unfold mShare shT
      by_cases hb : hbit (nI t) (nI a) = true
      · simp only [hb, if_true]
        rw [show (fun _ : Nat => (0 : Int32) + 0) = fun _ => 0 from funext fun _ => rfl, sumI_zero]
      · simp only [hb, if_false, Bool.false_eq_true]
        rw [hW, hW, ← sumI_sub]
        show shC na t * _ = _
        rw [sumI_mul]
        exact sumI_congr nm (fun o _ => i32_split _ _ _ _ _)
    rw [show mShare (fun t => mBarred nm na fw fs fv fc f (nI t)) na a = fun t => sumI (fun o => shT na a (M o 0) t + shT na a (M o 1) t) nm from funext hS, sumI_swap (fun o t => shT na a (M o 0) t + shT na a (M o 1) t)]
    refine sumN_nI nm (fun o ho => ?_)
    rw [sumI_add (fun t => shT na a (M o 0) t) (fun t => shT na a (M o 1) t)]
    have h0 := (sh_all na hna a ha _ (hM o 0).1).1
    have h1 := (sh_all na hna a ha _ (hM o 1).1).1
    have h0' : sumI (fun t => shT na a (M o 0) t) (2 ^ na) = nI (shS na a (M o 0)) := h0
    have h1' : sumI (fun t => shT na a (M o 1) t) (2 ^ na) = nI (shS na a (M o 1)) := h1
    rw [h0', h1', nI_add]
  · have := sumN_le (g := fun o => shX a (M o 0) + shX a (M o 1)) (b := 120) nm (fun o _ => by
      have h0 := (sh_all na hna a ha _ (hM o 0).1).2.2.2.2
      have h1 := (sh_all na hna a ha _ (hM o 1).1).2.2.2.2
      show shX a (M o 0) + shX a (M o 1) ≤ 120
      omega)
    omega
  · have := sumN_le (g := fun o => shS na a (M o 0) + shS na a (M o 1)) (b := 240) nm (fun o _ => by
      have h0 := (sh_all na hna a ha _ (hM o 0).1).2.2.2.1
      have h1 := (sh_all na hna a ha _ (hM o 1).1).2.2.2.1
      show shS na a (M o 0) + shS na a (M o 1) ≤ 240
      omega)
    omega
  · refine frac_eq ?_ (by decide) (mWaysN_b na).1 u
    refine sumN_mul nm (fun o _ => ?_)
    have h0 := (sh_all na hna a ha _ (hM o 0).1).2.1
    have h1 := (sh_all na hna a ha _ (hM o 1).1).2.1
    show (shS na a (M o 0) + shS na a (M o 1)) * 60 = (shX a (M o 0) + shX a (M o 1)) * mWaysN na
    rw [Nat.add_mul, Nat.add_mul, h0, h1]
end EQ5
