/-! both sides answer alike: ways, the steps -/
theorem tb_or {X n s : Nat} : (X ||| 2 ^ n).testBit s = (X.testBit s || decide (s = n)) := by
  rw [Nat.testBit_or, Nat.testBit_two_pow]
  by_cases h : n = s
  · simp [h]
  · have : ¬ s = n := fun e => h e.symm
    simp [h, this]
/-- h' and the bits acc behind a part of step t, from h -/
def LR (h h' : Nat → Int32) (t acc : Nat) : Prop := acc < 1024 ∧ ∀ q, q < 10 → acc.testBit q = !decide (h' q = -9) ∧ (h q = -9 → h' q = -9 ∨ h' q = nI (t + 1)) ∧ (¬ h q = -9 → h' q = h q)
def LB (h : Nat → Int32) (t : Nat) : Prop := ∀ q, q < 10 → h q = -9 ∨ ∃ τ, τ ≤ t ∧ h q = nI τ
theorem lay1_eq {F : Nat → Int32 → Int32 → Bool} {G : Int32 → Int32 → Int32} {he : Int32} {h h' : Nat → Int32} {t acc s w : Nat} (ht : t < 900) (hs : s < 10) (hB : LB h t) (hR : LR h h' t acc) (hsr : ¬ h s = -9)
    (hG1 : isN 10 (sNext (nI s) (nI w)) = false → G (nI s) (nI w) = -1) (hG2 : isN 10 (sNext (nI s) (nI w)) = true → ¬ G (nI s) (nI w) = -1 ∧ (G (nI s) (nI w) &&& he = 0 ↔ F t (nI s) (nI w) = false)) :
    ∃ acc', sSp1 G he (nI acc) (nI s) (nI w) = nI acc' ∧ LR h (mLay1 F t s (nI w) h') t acc' := by
  have h1 : ¬ h' s = -9 := by rw [(hR.2 s hs).2.2 hsr]; exact hsr
  have h2 : ¬ nI t < h' s := by
    rw [(hR.2 s hs).2.2 hsr]
    rcases hB s hs with e | ⟨τ, hτ, e⟩
    · exact absurd e hsr
    · rw [e]
      intro z
      have := (nI_ltI (a := t) (b := τ) (by omega) (by omega)).mp z
      omega
  by_cases hn : isN 10 (sNext (nI s) (nI w)) = true
  · obtain ⟨g1, g2⟩ := hG2 hn
    obtain ⟨q, hq, e⟩ := isN_of (by decide) hn
    have hto : mTo (nI s) (nI w) = nI q := by rw [mTo_next, if_pos hn, e]
    have hto9 : ¬ mTo (nI s) (nI w) = -9 := by rw [hto]; exact nI_ne_neg (by omega)
    have hcl : (mTo (nI s) (nI w)).toNatClampNeg = q := nI_clampE hto (by omega)
    unfold sSp1
    rw [if_neg g1]
    by_cases hF : F t (nI s) (nI w) = true
    · have hg : ¬ G (nI s) (nI w) &&& he = 0 := fun z => by rw [g2.mp z] at hF; cases hF
      rw [if_neg hg]
      refine ⟨acc, rfl, ?_⟩
      by_cases h9 : h' q = -9
      · rw [mLay1_e h1 h2 hto9 hcl h9 hF]; exact hR
      · rw [mLay1_d h1 h2 hto9 hcl h9]; exact hR
    · have hF : F t (nI s) (nI w) = false := by simpa using hF
      rw [if_pos (g2.mpr hF), e, (or10 hq hR.1).1]
      refine ⟨_, rfl, (or10 hq hR.1).2, fun j hj => ?_⟩
      obtain ⟨r1, r2, r3⟩ := hR.2 j hj
      rw [tb_or, r1]
      by_cases h9 : h' q = -9
      · rw [mLay1_f h1 h2 hto9 hcl h9 hF]
        by_cases ej : j = q
        · subst ej
          have e1 : nI t + 1 = nI (t + 1) := nI_1 t
          simp only [upd, if_true, e1]
          refine ⟨by simp [nI_ne_neg (show t + 1 < 1000 by omega)], fun _ => Or.inr trivial, fun z => ?_⟩
          exact absurd h9 (by rw [r3 z]; exact z)
        · simp only [upd, ej, if_false]
          exact ⟨by simp, r2, r3⟩
      · rw [mLay1_d h1 h2 hto9 hcl h9]
        refine ⟨?_, r2, r3⟩
        by_cases ej : j = q
        · subst ej; simp [h9]
        · simp [ej]
  · have hn : isN 10 (sNext (nI s) (nI w)) = false := by simpa using hn
    have hto : mTo (nI s) (nI w) = -9 := by rw [mTo_next, hn]; rfl
    refine ⟨acc, ?_, ?_⟩
    · unfold sSp1
      rw [if_pos (hG1 hn)]
    · rw [mLay1_c h1 h2 hto]; exact hR
theorem lay1_skip {F : Nat → Int32 → Int32 → Bool} {h h' : Nat → Int32} {t acc s : Nat} {way : Int32} (ht : t < 900) (hs : s < 10) (hR : LR h h' t acc) (hsr : h s = -9) : mLay1 F t s way h' = h' := by
  rcases (hR.2 s hs).2.1 hsr with e | e
  · exact mLay1_a e
  · refine mLay1_b ?_ ?_
    · rw [e]; exact nI_ne_neg (by omega)
    · rw [e]; exact (nI_ltI (by omega) (by omega)).mpr (Nat.lt_succ_self t)
section WAY
variable {F : Nat → Int32 → Int32 → Bool} {G : Nat → Int32 → Int32 → Int32} {he : Int32}
def GF (F : Nat → Int32 → Int32 → Bool) (G : Nat → Int32 → Int32 → Int32) (he : Int32) : Prop := ∀ t s w, s < 10 → w < 2 → (isN 10 (sNext (nI s) (nI w)) = false → G t (nI s) (nI w) = -1) ∧ (isN 10 (sNext (nI s) (nI w)) = true → ¬ G t (nI s) (nI w) = -1 ∧ (G t (nI s) (nI w) &&& he = 0 ↔ F t (nI s) (nI w) = false))
theorem spread_eq (hGF : GF F G he) {h : Nat → Int32} {t X : Nat} (ht : t < 900) (hB : LB h t) (hX : X < 1024) (hX2 : ∀ q, q < 10 → X.testBit q = !decide (h q = -9)) : ∀ s, s ≤ 10 → ∃ acc, sSpread (G t) (nI X) he s = nI acc ∧ LR h (mLayS F t h s) t acc
  | 0, _ => ⟨X, rfl, hX, fun q hq => ⟨hX2 q hq, fun z => Or.inl z, fun _ => rfl⟩⟩
  | s + 1, hs => by
    obtain ⟨acc, e, hR⟩ := spread_eq hGF ht hB hX hX2 s (by omega)
    have hs10 : s < 10 := by omega
    simp only [sSpread, mLayS]
    rw [hb10 hs10 hX, hX2 s hs10, e]
    have hl2 : mLayW F t s (mLayS F t h s) 2 = mLay1 F t s (nI 1) (mLay1 F t s (nI 0) (mLayS F t h s)) := rfl
    rw [hl2]
    by_cases hsr : h s = -9
    · rw [if_neg (by simp [hsr]), lay1_skip ht hs10 hR hsr, lay1_skip ht hs10 hR hsr]
      exact ⟨acc, rfl, hR⟩
    · rw [if_pos (by simp [hsr])]
      obtain ⟨a1, e1, R1⟩ := lay1_eq (F := F) (G := G t) (he := he) (w := 0) ht hs10 hB hR hsr (hGF t s 0 hs10 (by decide)).1 (hGF t s 0 hs10 (by decide)).2
      obtain ⟨a2, e2, R2⟩ := lay1_eq (F := F) (G := G t) (he := he) (w := 1) ht hs10 hB R1 hsr (hGF t s 1 hs10 (by decide)).1 (hGF t s 1 hs10 (by decide)).2
      have z0 : nI 0 = 0 := rfl
      have z1 : nI 1 = 1 := rfl
      rw [z0] at e1
      rw [z1] at e2
      rw [e1, e2]
      exact ⟨a2, rfl, R2⟩
theorem sff_succ (p : Nat → Bool) : ∀ n i, i + n < 900 → sFirstFrom p (n + 1) i = if sFirstFrom p n i = -9 then (if p (i + n) then nI (i + n) else -9) else sFirstFrom p n i
  | 0, i, _ => by simp [sFirstFrom]
  | n + 1, i, h => by
    have hL : sFirstFrom p (n + 1 + 1) i = if p i then nI i else sFirstFrom p (n + 1) (i + 1) := rfl
    have hR : sFirstFrom p (n + 1) i = if p i then nI i else sFirstFrom p n (i + 1) := rfl
    rw [hL, hR]
    by_cases hp : p i = true
    · have : ¬ nI i = -9 := nI_ne_neg (by omega)
      rw [if_pos hp, if_pos hp, if_neg this]
    · have e : i + 1 + n = i + (n + 1) := by omega
      rw [if_neg hp, if_neg hp, sff_succ p n (i + 1) (by omega), e]
theorem reach_eq (hGF : GF F G he) {q0 : Nat} (hq0 : q0 < 10) : ∀ t, t ≤ 12 → ∃ X, X < 1024 ∧ sReach G ((1 : Int32) <<< (nI q0 &&& 31)) he t = nI X ∧ LB (mLayT F (mH0 (nI q0)) t) t ∧ (∀ q, q < 10 → X.testBit q = !decide (mLayT F (mH0 (nI q0)) t q = -9)) ∧ ∀ q, q < 10 → mLayT F (mH0 (nI q0)) t q = sFirstFrom (fun τ => hbit (sReach G ((1 : Int32) <<< (nI q0 &&& 31)) he τ) (nI q)) (t + 1) 0
  | 0, _ => by
    have h1 : ∀ q, q < 10 → (2 ^ q0).testBit q = decide (q = q0) := fun q _ => by
      rw [Nat.testBit_two_pow]
      by_cases h : q0 = q
      · simp [h]
      · have : ¬ q = q0 := fun e => h e.symm
        simp [h, this]
    have h2 : ∀ q, q < 10 → mH0 (nI q0) q = if q = q0 then 0 else -9 := fun q hq => by
      unfold mH0
      by_cases h : q = q0
      · simp [h]
      · have : ¬ nI q = nI q0 := fun e => h ((nI_eq (by omega) (by omega)).mp e)
        simp [h, this]
    have z9 : ¬ (0 : Int32) = -9 := by decide
    refine ⟨2 ^ q0, (one10 q0 hq0).2, (one10 q0 hq0).1, fun q hq => ?_, fun q hq => ?_, fun q hq => ?_⟩
    · show mH0 (nI q0) q = -9 ∨ ∃ τ, τ ≤ 0 ∧ mH0 (nI q0) q = nI τ
      rw [h2 q hq]
      split
      · exact Or.inr ⟨0, Nat.le_refl 0, rfl⟩
      · exact Or.inl rfl
    · show _ = !decide (mH0 (nI q0) q = -9)
      rw [h1 q hq, h2 q hq]
      by_cases h : q = q0
      · simp [h, z9]
      · simp [h]
    · show mH0 (nI q0) q = if hbit ((1 : Int32) <<< (nI q0 &&& 31)) (nI q) = true then nI 0 else -9
      rw [h2 q hq, (one10 q0 hq0).1, hb10 hq (one10 q0 hq0).2, h1 q hq]
      by_cases h : q = q0
      · simp [h]; rfl
      · simp [h]
  | t + 1, ht => by
    obtain ⟨X, hX, e, hB, hX2, hF⟩ := reach_eq hGF hq0 t (by omega)
    obtain ⟨acc, e2, hR⟩ := spread_eq hGF (t := t) (by omega) hB hX hX2 10 (Nat.le_refl _)
    have e3 : sReach G ((1 : Int32) <<< (nI q0 &&& 31)) he (t + 1) = nI acc := by
      show sSpread (G t) (sReach G ((1 : Int32) <<< (nI q0 &&& 31)) he t) he 10 = _
      rw [e, e2]
    have hT : mLayT F (mH0 (nI q0)) (t + 1) = mLayS F t (mLayT F (mH0 (nI q0)) t) 10 := rfl
    rw [hT]
    generalize mLayT F (mH0 (nI q0)) t = ht9 at hB hX2 hF hR
    refine ⟨acc, hR.1, e3, fun q hq => ?_, fun q hq => (hR.2 q hq).1, fun q hq => ?_⟩
    · by_cases h9 : ht9 q = -9
      · rcases (hR.2 q hq).2.1 h9 with z | z
        · exact Or.inl z
        · exact Or.inr ⟨t + 1, Nat.le_refl _, z⟩
      · rw [(hR.2 q hq).2.2 h9]
        rcases hB q hq with z | ⟨τ, hτ, z⟩
        · exact absurd z h9
        · exact Or.inr ⟨τ, by omega, z⟩
    · rw [sff_succ _ (t + 1) 0 (by omega), ← hF q hq, Nat.zero_add, e3, hb10 hq hR.1, (hR.2 q hq).1]
      by_cases h9 : ht9 q = -9
      · rw [if_pos h9]
        rcases (hR.2 q hq).2.1 h9 with z | z
        · simp [z]
        · have : ¬ nI (t + 1) = -9 := nI_ne_neg (by omega)
          simp [z, this]
      · rw [if_neg h9, (hR.2 q hq).2.2 h9]
end WAY
section EQ3
variable {nm na : Nat} {fw fs fv fc f : Nat → Int32} {v : SV} {k : Nat} {way : Int32}
theorem gf_of {u : Bool} {kn : Int32} (hnm : nm ≤ 5) (hna : na ≤ 5) (hl : OKl na fw fs fv) (hk : k < nm) (hR : RS nm v f) (hkn : kn = mKnown na (f (5 + k)) (f (10 + k))) :
    GF (fun t s way => if u then !decide (mFF nm na fw fs fv fc (mAt f k s (f 15 + nI t)) k way = 0) else mBk nm na fw fs fv fc (mAt f k s (f 15 + nI t)) k way) (fun t s way => sFF nm na fw fs fv fc v.1 k s way (v.2.2.2.1 + nI t)) (if u then sAll na else kn) := by
  intro t s w hs hw
  have hw2 : isN 2 (nI w) = true := isN_nI (by decide) hw
  have e15 : mAt f k (nI s) (f 15 + nI t) 15 = f 15 + nI t := by simp [mAt, show ¬ 15 = k by omega]
  have e5 : mAt f k (nI s) (f 15 + nI t) (5 + k) = f (5 + k) := by simp only [mAt, show ¬ 5 + k = k by omega, show ¬ 5 + k = 15 by omega, if_false]
  have e10 : mAt f k (nI s) (f 15 + nI t) (10 + k) = f (10 + k) := by simp only [mAt, show ¬ 10 + k = k by omega, show ¬ 10 + k = 15 by omega, if_false]
  have hff : sFF nm na fw fs fv fc v.1 k (nI s) (nI w) (v.2.2.2.1 + nI t) = if isN 10 (sNext (nI s) (nI w)) then mFF nm na fw fs fv fc (mAt f k (nI s) (f 15 + nI t)) k (nI w) else -1 := by
    have h := ff_eq (nm := nm) (fc := fc) (st := v.1) (f := mAt f k (nI s) (f 15 + nI t)) (k := k) (frm := nI s) (way := nI w) (hour := v.2.2.2.1 + nI t) hl hw2 (fun o ho hok => by
      rw [(hR.1 o ho).1]
      simp [mAt, hok, show ¬ o = 15 by omega]) (mAt_k _ _ _ _).symm (by rw [e15, hR.2.1])
    rw [mAt_k] at h
    exact h
  refine ⟨fun hn => ?_, fun hn => ?_⟩
  · show sFF nm na fw fs fv fc v.1 k (nI s) (nI w) (v.2.2.2.1 + nI t) = -1
    rw [hff, hn]; rfl
  · show ¬ sFF nm na fw fs fv fc v.1 k (nI s) (nI w) (v.2.2.2.1 + nI t) = -1 ∧ _
    rw [if_pos hn] at hff
    refine ⟨by rw [hff]; exact ff_nem1 hna, ?_⟩
    show (sFF nm na fw fs fv fc v.1 k (nI s) (nI w) (v.2.2.2.1 + nI t) &&& _ = 0 ↔ _)
    rw [hff]
    cases u with
    | true =>
      obtain ⟨x, hx, e⟩ := ff_nI (nm := nm) (na := na) (fw := fw) (fs := fs) (fv := fv) (fc := fc) (f := mAt f k (nI s) (f 15 + nI t)) (k := k) (way := nI w) hna
      have hall : ∀ na, na ≤ 5 → ∀ x, x < 2 ^ na → nI x &&& sAll na = nI x := by decide +kernel
      simp only [if_true]
      rw [e, hall na hna x hx]
      simp
    | false =>
      simp only [Bool.false_eq_true, if_false, mBk]
      rw [e5, e10, hkn]
      simp
theorem way_eq {u : Bool} {s0 : Nat} (hnm : nm ≤ 5) (hna : na ≤ 5) (hl : OKl na fw fs fv) (hk : k < nm) (hR : RS nm v f) (hO : OKf nm na f) (hs : s0 < 10) {F : Nat → Int32 → Int32 → Bool}
    (hF : F = (fun t s way => if u then !decide (mFF nm na fw fs fv fc (mAt f k s (f 15 + nI t)) k way = 0) else mBk nm na fw fs fv fc (mAt f k s (f 15 + nI t)) k way)) :
    sFirstFrom (fun t => hbit (sReach (fun t s way => sFF nm na fw fs fv fc v.1 k s way (v.2.2.2.1 + nI t)) ((1 : Int32) <<< (v.1 k &&& 31)) (if u then sAll na else sKnown na (v.2.1 k) (v.2.2.1 k)) t) (nI s0)) 13 0 = mLayT F (mH0 (f k)) 12 s0 := by
  subst hF
  obtain ⟨q0, hq0, e0⟩ := isN_of (by decide) (hO k hk).1
  have hkn := rs_kn hna hk hR hO
  rw [(hR.1 k hk).1, e0]
  obtain ⟨X, -, -, -, -, hX⟩ := reach_eq (gf_of (u := u) (fc := fc) hnm hna hl hk hR hkn) hq0 12 (Nat.le_refl _)
  exact (hX s0 hs).symm
theorem enc_eq (hnm : nm ≤ 5) (hna : na ≤ 5) (hl : OKl na fw fs fv) (hk : k < nm) (hR : RS nm v f) (hO : OKf nm na f) {F : Nat → Int32 → Int32 → Bool}
    (hF : F = (fun t s way => if false then !decide (mFF nm na fw fs fv fc (mAt f k s (f 15 + nI t)) k way = 0) else mBk nm na fw fs fv fc (mAt f k s (f 15 + nI t)) k way)) :
    (sReach (fun t s way => sFF nm na fw fs fv fc v.1 k s way (v.2.2.2.1 + nI t)) ((1 : Int32) <<< (v.1 k &&& 31)) (sKnown na (v.2.1 k) (v.2.2.1 k)) 12 ^^^ (-1)) &&& 1023 = orBits (fun s => decide (mLayT F (mH0 (f k)) 12 s = -9)) 10 := by
  have hkn := rs_kn hna hk hR hO
  have hGF := gf_of (u := false) (fc := fc) hnm hna hl hk hR hkn
  obtain ⟨q0, hq0, e0⟩ := isN_of (by decide) (hO k hk).1
  rw [(hR.1 k hk).1, e0]
  obtain ⟨X, hX, e, -, hX2, -⟩ := reach_eq hGF hq0 12 (Nat.le_refl _)
  have e' : sReach (fun t s way => sFF nm na fw fs fv fc v.1 k s way (v.2.2.2.1 + nI t)) ((1 : Int32) <<< (nI q0 &&& 31)) (sKnown na (v.2.1 k) (v.2.2.1 k)) 12 = nI X := e
  rw [e', cp10 hX]
  refine orBits_congr 10 (fun s hs => ?_)
  rw [hX2 s hs, Bool.not_not]
  subst hF
  rfl
end EQ3
