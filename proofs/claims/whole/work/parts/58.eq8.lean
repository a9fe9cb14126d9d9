/-! both sides answer alike: the text -/
theorem dg9 : ∀ x, x < 256 → isB 0 9 (nI x - 48) = (!decide (nI x < 48) && decide (nI x < 48 + 10)) := by decide +kernel
theorem dg3 : ∀ x, x < 256 → isB 0 3 (nI x - 48) = (!decide (nI x < 48) && decide (nI x < 48 + 4)) := by decide +kernel
def TXo (f : Nat → Int32) (tn : Nat) : Prop := ∀ i, i < tn → ∃ x, x < 256 ∧ f i = nI x
section TXT
variable {f : Nat → Int32} {tn : Nat}
theorem dig_eq {j n mu ar : Nat} {kind b : Int32} (hx : TXo f tn) (hj : j + n = tn) (h4 : ¬ j % 4 = 1) (h0 : ¬ j = 0) (hb : (b = 9 ∧ sFig j kind = 10) ∨ (b = 3 ∧ sFig j kind = 4)) : sFault f tn n j mu ar kind = if rOk f tn j b then sFault f tn (n - 1) (j + 1) mu ar kind else nI j := by
  cases n with
  | zero =>
    have e : j = tn := by omega
    have hr : rOk f tn j b = false := by simp [rOk, e]
    rw [hr, sFault_0, if_neg (by rw [← e]; exact h4), e]
    rfl
  | succ n =>
    have hne : ¬ j = tn := by omega
    obtain ⟨x, hx, e⟩ := hx j (by omega)
    rw [sFault_s, if_neg h0, if_neg h4, Nat.add_sub_cancel]
    rcases hb with ⟨rfl, hs⟩ | ⟨rfl, hs⟩
    · rw [hs]
      have hr : rOk f tn j 9 = (!decide (f j < 48) && decide (f j < 48 + 10)) := by simp only [rOk, hne, decide_false, Bool.not_false, Bool.true_and]; rw [e, dg9 x hx]
      rw [hr]
      by_cases h1 : f j < 48
      · simp [h1]
      · by_cases h2 : f j < 48 + 10
        · simp only [h1, h2, if_false, if_true, decide_false, decide_true, Bool.not_false, Bool.and_self]
        · simp only [h1, h2, if_false, decide_false, Bool.and_false, Bool.false_eq_true]
    · rw [hs]
      have hr : rOk f tn j 3 = (!decide (f j < 48) && decide (f j < 48 + 4)) := by simp only [rOk, hne, decide_false, Bool.not_false, Bool.true_and]; rw [e, dg3 x hx]
      rw [hr]
      by_cases h1 : f j < 48
      · simp [h1]
      · by_cases h2 : f j < 48 + 4
        · simp only [h1, h2, if_false, if_true, decide_false, decide_true, Bool.not_false, Bool.and_self]
        · simp only [h1, h2, if_false, decide_false, Bool.and_false, Bool.false_eq_true]
theorem three_eq {j n mu ar : Nat} {kind b2 : Int32} (hx : TXo f tn) (hj : j + n = tn) (h4 : j % 4 = 2) (hb : (b2 = 9 ∧ kind = 65) ∨ (b2 = 3 ∧ ¬ kind = 65)) : sFault f tn n j mu ar kind = if rOne 9 3 b2 f tn j = 3 then sFault f tn (n - 3) (j + 3) mu ar kind else nI (j + rOne 9 3 b2 f tn j) := by
  rw [dig_eq (b := 9) hx hj (by omega) (by omega) (Or.inl ⟨rfl, by simp [sFig, h4]⟩)]
  unfold rOne
  by_cases h1 : rOk f tn j 9 = true
  · have hlt := rOk_lt h1 (by omega)
    rw [if_pos h1, if_pos h1, dig_eq (b := 3) hx (j := j + 1) (by omega) (by omega) (by omega) (Or.inr ⟨rfl, by
      have : (j + 1) % 4 = 3 := by omega
      simp [sFig, this]⟩)]
    by_cases h2 : rOk f tn (j + 1) 3 = true
    · have hlt := rOk_lt h2 (by omega)
      rw [if_pos h2, if_pos h2, dig_eq (b := b2) hx (j := j + 1 + 1) (by omega) (by omega) (by omega) (by
        have e0 : (j + 1 + 1) % 4 = 0 := by omega
        rcases hb with ⟨rfl, e⟩ | ⟨rfl, e⟩
        · exact Or.inl ⟨rfl, by simp [sFig, e0, e]⟩
        · exact Or.inr ⟨rfl, by simp [sFig, e0, e]⟩)]
      by_cases h3 : rOk f tn (j + 2) b2 = true
      · rw [if_pos h3, if_pos h3, if_pos rfl]
        rfl
      · rw [if_neg h3, if_neg h3, if_neg (by decide)]
    · rw [if_neg h2, if_neg h2, if_neg (by decide)]
  · rw [if_neg h1, if_neg h1, if_neg (by decide)]
    rfl
theorem part_eq {v : RV} {kind : Int32} (hx : TXo f tn) (h4 : v.1 % 4 = 1) (hlt : v.1 < tn) : ∃ kind', sFault f tn (tn - v.1) v.1 v.2.1 v.2.2.1 kind = if (rPart f tn v).1 then sFault f tn (tn - (v.1 + 4)) (v.1 + 4) (rPart f tn v).2.2.1 (rPart f tn v).2.2.2.1 kind' else nI (rPart f tn v).2.1 := by
  have hn : tn - v.1 = (tn - v.1 - 1) + 1 := by omega
  have h0 : ¬ v.1 = 0 := by omega
  rw [hn, sFault_s, if_neg h0, if_pos h4]
  unfold rPart
  by_cases hA : f v.1 = 65 ∧ v.2.2.1 < 5
  · rw [if_pos hA, if_pos hA, three_eq (b2 := 9) hx (j := v.1 + 1) (by omega) (by omega) (Or.inl ⟨rfl, hA.1⟩)]
    refine ⟨f v.1, ?_⟩
    by_cases h3 : rOne 9 3 9 f tn (v.1 + 1) = 3
    · simp only [h3, if_true, decide_true]
      rw [show tn - v.1 - 1 - 3 = tn - (v.1 + 4) by omega]
    · simp only [h3, if_false, decide_false, Bool.false_eq_true]
  · rw [if_neg hA, if_neg hA]
    by_cases hM : f v.1 = 77 ∧ v.2.1 < 5
    · rw [if_pos hM, if_pos hM, three_eq (b2 := 3) hx (j := v.1 + 1) (by omega) (by omega) (Or.inr ⟨rfl, by rw [hM.1]; decide⟩)]
      refine ⟨f v.1, ?_⟩
      by_cases h3 : rOne 9 3 3 f tn (v.1 + 1) = 3
      · simp only [h3, if_true, decide_true]
        rw [show tn - v.1 - 1 - 3 = tn - (v.1 + 4) by omega]
      · simp only [h3, if_false, decide_false, Bool.false_eq_true]
    · rw [if_neg hM, if_neg hM]
      exact ⟨kind, rfl⟩
theorem loop_eq (hx : TXo f tn) : ∀ (N : Nat) (v : RV) (kind : Int32), v.1 % 4 = 1 → v.1 ≤ tn → tn < v.1 + 4 * N → v.2.1 ≤ 5 → v.2.2.1 ≤ 5 → sFault f tn (tn - v.1) v.1 v.2.1 v.2.2.1 kind = (rLoop f tn N v).1
  | 0, v, kind, _, h2, h3, _, _ => absurd h2 (by omega)
  | N + 1, v, kind, h4, h2, h3, h5, h6 => by
    rw [rLoop_s]
    by_cases hlt : v.1 < tn
    · rw [if_pos hlt]
      obtain ⟨k', e⟩ := part_eq (kind := kind) hx h4 hlt
      rw [e]
      by_cases hok : (rPart f tn v).1 = true
      · obtain ⟨g1, g2, g3, g4⟩ := rPart_inv hlt h5 h6 hok
        rw [if_pos hok, if_pos hok]
        have := loop_eq hx N (rPart f tn v).2 k' (by omega) g2 (by omega) g3 g4
        rw [g1] at this
        exact this
      · rw [if_neg hok, if_neg hok]
    · rw [if_neg hlt]
      have e : v.1 = tn := by omega
      rw [e, Nat.sub_self, sFault_0, if_pos (by omega)]
theorem fault_eq {mr mx : Nat → Int32} (ht : tn ≤ 48) (hx : TXo f tn) : sFault f tn tn 0 0 0 77 = (rTreaty f tn mr mx).1 := by
  unfold rTreaty
  by_cases h0 : tn = 0
  · rw [if_pos h0, h0]
    rfl
  · rw [if_neg h0]
    obtain ⟨n, rfl⟩ : ∃ n, tn = n + 1 := ⟨tn - 1, by omega⟩
    rw [sFault_s, if_pos rfl]
    by_cases h7 : f 0 = 77
    · rw [if_pos h7, if_pos h7]
      exact loop_eq hx 13 (1, 0, 0, mr, mx) 77 rfl (by show 1 ≤ n + 1; omega) (by show n + 1 < 1 + 4 * 13; omega) (Nat.zero_le _) (Nat.zero_le _)
    · rw [if_neg h7, if_neg h7]
      rfl
end TXT
