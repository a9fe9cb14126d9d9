/-! both sides answer alike: the treaty read -/
theorem rPut_lo {g f : Nat → Int32} {base pl j : Nat} (h : j < base) : ∀ n, rPut g base f pl n j = g j
  | 0 => rfl
  | n + 1 => by
    simp only [rPut, upd, show ¬ j = base + n by omega, if_false]
    exact rPut_lo h n
theorem rPut_at {g f : Nat → Int32} {base pl c : Nat} : ∀ n, c < n → rPut g base f pl n (base + c) = f (pl + c) - 48
  | 0, h => absurd h (Nat.not_lt_zero _)
  | n + 1, h => by
    by_cases e : c = n
    · subst e; simp [rPut, upd]
    · simp only [rPut, upd, show ¬ base + c = base + n by omega, if_false]
      exact rPut_at n (by omega)
theorem tCol_up {g l f : Nat → Int32} {a p c : Nat} (hc : c < 3) : tCol (rPut g (3 * a) f p 3) l c (a + 1) = upd (tCol g l c a) a (f (p + c) - 48) := by
  funext j
  by_cases e : j = a
  · subst e
    simp only [tCol, upd, show j < j + 1 by omega, if_true]
    exact rPut_at 3 hc
  · simp only [tCol, upd, e, if_false]
    by_cases h : j < a
    · rw [if_pos (by omega), if_pos h]
      exact rPut_lo (by omega) 3
    · rw [if_neg (by omega), if_neg h]
def TR (l0 l1 l2 C : Nat → Int32) (tv : TV) (v : RV) : Prop :=
  tv.1 = v.2.1 ∧ tv.2.1 = v.2.2.1 ∧ tv.2.2.1 = tCol v.2.2.2.2 l0 0 v.2.2.1 ∧ tv.2.2.2.1 = tCol v.2.2.2.2 l1 1 v.2.2.1 ∧ tv.2.2.2.2.1 = tCol v.2.2.2.2 l2 2 v.2.2.1 ∧ tv.2.2.2.2.2.1 = tCol v.2.2.2.1 C 1 v.2.1 ∧
  (∀ i, i < v.2.1 → tv.2.2.2.2.2.2.1 i = v.2.2.2.1 (3 * i) ∧ tv.2.2.2.2.2.2.2.1 i = v.2.2.2.1 (3 * i + 2) ∧ tv.2.2.2.2.2.2.2.2 i = 0) ∧
  (∀ i, i < v.2.2.1 → isN 10 (v.2.2.2.2 (3 * i)) = true ∧ isN 4 (v.2.2.2.2 (3 * i + 1)) = true ∧ isN 10 (v.2.2.2.2 (3 * i + 2)) = true) ∧
  (∀ i, i < v.2.1 → isN 10 (v.2.2.2.1 (3 * i)) = true ∧ isN 4 (v.2.2.2.1 (3 * i + 1)) = true ∧ isN 4 (v.2.2.2.1 (3 * i + 2)) = true)
theorem rOk_9 {f : Nat → Int32} {tn p : Nat} (h : rOk f tn p 9 = true) : isN 10 (f p - 48) = true := by
  simp only [rOk, Bool.and_eq_true] at h
  have := h.2
  rw [show (9 : Int32) = nI 10 - 1 from by decide, isB_0 (by decide)] at this
  exact this
theorem rOk_3 {f : Nat → Int32} {tn p : Nat} (h : rOk f tn p 3 = true) : isN 4 (f p - 48) = true := by
  simp only [rOk, Bool.and_eq_true] at h
  have := h.2
  rw [show (3 : Int32) = nI 4 - 1 from by decide, isB_0 (by decide)] at this
  exact this
theorem rOne_3 {b0 b1 b2 : Int32} {f : Nat → Int32} {tn p : Nat} (h : rOne b0 b1 b2 f tn p = 3) : rOk f tn p b0 = true ∧ rOk f tn (p + 1) b1 = true ∧ rOk f tn (p + 2) b2 = true := by
  unfold rOne at h
  by_cases h0 : rOk f tn p b0 = true
  · rw [if_pos h0] at h
    by_cases h1 : rOk f tn (p + 1) b1 = true
    · rw [if_pos h1] at h
      by_cases h2 : rOk f tn (p + 2) b2 = true
      · exact ⟨h0, h1, h2⟩
      · rw [if_neg h2] at h; cases h
    · rw [if_neg h1] at h; cases h
  · rw [if_neg h0] at h; cases h
theorem tr_step {f l0 l1 l2 C : Nat → Int32} {tn : Nat} {tv : TV} {v : RV} (hT : TR l0 l1 l2 C tv v) (hok : (rPart f tn v).1 = true) : TR l0 l1 l2 C (sPart (f v.1) (f (v.1 + 1) - 48) (f (v.1 + 2) - 48) (f (v.1 + 3) - 48) tv) (rPart f tn v).2 := by
  obtain ⟨t1, t2, t3, t4, t5, t6, t7, t8, t9⟩ := hT
  unfold rPart at hok ⊢
  unfold sPart
  by_cases hA : f v.1 = 65 ∧ v.2.2.1 < 5
  · rw [if_pos hA] at hok ⊢
    have h3 : rOne 9 3 9 f tn (v.1 + 1) = 3 := by simpa using hok
    obtain ⟨k0, k1, k2⟩ := rOne_3 h3
    have ha5 : tv.2.1 < 5 := by rw [t2]; exact hA.2
    rw [if_pos hA.1, if_pos ha5]
    simp only [h3, if_true]
    refine ⟨t1, by rw [t2], ?_, ?_, ?_, t6, t7, ?_, t9⟩
    · rw [t3, t2]; exact (tCol_up (p := v.1 + 1) (c := 0) (by decide)).symm
    · rw [t4, t2]; exact (tCol_up (p := v.1 + 1) (c := 1) (by decide)).symm
    · rw [t5, t2]; exact (tCol_up (p := v.1 + 1) (c := 2) (by decide)).symm
    · intro i hi
      dsimp only at hi ⊢
      by_cases e : i = v.2.2.1
      · subst e
        have z0 := rPut_at (g := v.2.2.2.2) (f := f) (base := 3 * v.2.2.1) (pl := v.1 + 1) (c := 0) 3 (by decide)
        have z1 := rPut_at (g := v.2.2.2.2) (f := f) (base := 3 * v.2.2.1) (pl := v.1 + 1) (c := 1) 3 (by decide)
        have z2 := rPut_at (g := v.2.2.2.2) (f := f) (base := 3 * v.2.2.1) (pl := v.1 + 1) (c := 2) 3 (by decide)
        simp only [Nat.add_zero] at z0
        rw [z0, z1, z2]
        exact ⟨rOk_9 k0, rOk_3 k1, rOk_9 k2⟩
      · rw [rPut_lo (by omega) 3, rPut_lo (by omega) 3, rPut_lo (by omega) 3]
        exact t8 i (by omega)
  · rw [if_neg hA] at hok ⊢
    by_cases hM : f v.1 = 77 ∧ v.2.1 < 5
    · rw [if_pos hM] at hok ⊢
      have h3 : rOne 9 3 3 f tn (v.1 + 1) = 3 := by simpa using hok
      obtain ⟨k0, k1, k2⟩ := rOne_3 h3
      have ha5 : tv.1 < 5 := by rw [t1]; exact hM.2
      have n65 : ¬ f v.1 = 65 := by rw [hM.1]; decide
      rw [if_neg n65, if_pos ha5]
      simp only [h3, if_true]
      have z0 := rPut_at (g := v.2.2.2.1) (f := f) (base := 3 * v.2.1) (pl := v.1 + 1) (c := 0) 3 (by decide)
      have z1 := rPut_at (g := v.2.2.2.1) (f := f) (base := 3 * v.2.1) (pl := v.1 + 1) (c := 1) 3 (by decide)
      have z2 := rPut_at (g := v.2.2.2.1) (f := f) (base := 3 * v.2.1) (pl := v.1 + 1) (c := 2) 3 (by decide)
      simp only [Nat.add_zero] at z0
      refine ⟨by rw [t1], t2, t3, t4, t5, ?_, ?_, t8, ?_⟩
      · rw [t6, t1]; exact (tCol_up (p := v.1 + 1) (c := 1) (by decide)).symm
      · intro i hi
        dsimp only at hi ⊢
        rw [t1]
        by_cases e : i = v.2.1
        · subst e
          rw [z0, z2]
          simp only [upd, if_true]
          exact ⟨trivial, trivial, trivial⟩
        · rw [rPut_lo (by omega) 3, rPut_lo (by omega) 3]
          simp only [upd, e, if_false]
          exact t7 i (by omega)
      · intro i hi
        dsimp only at hi ⊢
        by_cases e : i = v.2.1
        · subst e
          rw [z0, z1, z2]
          exact ⟨rOk_9 k0, rOk_3 k1, rOk_3 k2⟩
        · rw [rPut_lo (by omega) 3, rPut_lo (by omega) 3, rPut_lo (by omega) 3]
          exact t9 i (by omega)
    · rw [if_neg hM] at hok
      cases hok
theorem tr_loop {f l0 l1 l2 C : Nat → Int32} {tn : Nat} {tv0 : TV} (ht : tn ≤ 48) : ∀ (N p : Nat) (v : RV), v.1 = 1 + 4 * p → v.1 ≤ tn → tn < v.1 + 4 * N → v.2.1 ≤ 5 → v.2.2.1 ≤ 5 → TR l0 l1 l2 C (sParts f tn tv0 p) v → (rLoop f tn N v).1 = -9 → TR l0 l1 l2 C (sParts f tn tv0 ((tn - 1) / 4)) (rLoop f tn N v).2 ∧ (rLoop f tn N v).2.2.1 ≤ 5 ∧ (rLoop f tn N v).2.2.2.1 ≤ 5
  | 0, p, v, _, h2, h3, _, _, _, _ => absurd h2 (by omega)
  | N + 1, p, v, h1, h2, h3, h5, h6, hT, h9 => by
    rw [rLoop_s] at h9 ⊢
    by_cases hlt : v.1 < tn
    · rw [if_pos hlt] at h9 ⊢
      by_cases hok : (rPart f tn v).1 = true
      · rw [if_pos hok] at h9 ⊢
        obtain ⟨g1, g2, g3, g4⟩ := rPart_inv hlt h5 h6 hok
        refine tr_loop ht N (p + 1) (rPart f tn v).2 (by omega) g2 (by omega) g3 g4 ?_ h9
        have hs := tr_step hT hok
        have e : sParts f tn tv0 (p + 1) = sPart (f v.1) (f (v.1 + 1) - 48) (f (v.1 + 2) - 48) (f (v.1 + 3) - 48) (sParts f tn tv0 p) := by
          show sPart (sLet f tn (1 + 4 * p)) (sLet f tn (1 + 4 * p + 1) - 48) (sLet f tn (1 + 4 * p + 2) - 48) (sLet f tn (1 + 4 * p + 3) - 48) (sParts f tn tv0 p) = _
          rw [← h1]
          simp only [sLet, show v.1 < tn by omega, show v.1 + 1 < tn by omega, show v.1 + 2 < tn by omega, show v.1 + 3 < tn by omega, if_true]
        rw [e]
        exact hs
      · rw [if_neg hok] at h9
        exact absurd h9 (by
          dsimp only
          have hle : (rPart f tn v).2.1 ≤ tn := by
            unfold rPart
            split
            · exact rOne_le (by omega)
            · split
              · exact rOne_le (by omega)
              · exact h2
          exact nI_ne_neg (by omega))
    · rw [if_neg hlt]
      have e : (tn - 1) / 4 = p := by omega
      rw [e]
      exact ⟨hT, h5, h6⟩
