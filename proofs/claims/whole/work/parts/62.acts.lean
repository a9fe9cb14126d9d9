/-! what is remembered of acts, on both sides -/
theorem RS.congr {nm : Nat} {v : SV} {f g : Nat → Int32} (hnm : nm ≤ 5) (hR : RS nm v f) (h : ∀ i, i < 17 → f i = g i) : RS nm v g := by
  refine ⟨fun k hk => ?_, ?_, ?_⟩
  · rw [← h k (by omega), ← h (5 + k) (by omega), ← h (10 + k) (by omega)]; exact hR.1 k hk
  · rw [← h 15 (by omega)]; exact hR.2.1
  · rw [← h 16 (by omega)]; exact hR.2.2
theorem OKf.congr {nm na : Nat} {f g : Nat → Int32} (hnm : nm ≤ 5) (hO : OKf nm na f) (h : ∀ i, i < 17 → f i = g i) : OKf nm na g := by
  intro k hk
  rw [← h k (by omega), ← h (5 + k) (by omega), ← h (10 + k) (by omega)]
  exact hO k hk
theorem book_keep {nm na fa ac : Nat} {sv : Nat → SV} {v : SV} {b f : Nat → Int32} (hnm : nm ≤ 5) (hfa : fa < 14) (hac : ac ≤ 14) (hR : RS nm v f) (hO : OKf nm na f) (hB : ∀ j, j < ac → RS nm (sv ((fa + j) % 14)) (fun i => b (17 * j + i)) ∧ OKf nm na (fun i => b (17 * j + i))) :
    ∀ j, j < ra ac → RS nm (va_up sv (ri fa ac) v ((rf fa ac + j) % 14)) (fun i => mBook b f ac (17 * j + i)) ∧ OKf nm na (fun i => mBook b f ac (17 * j + i)) := by
  intro j hj
  unfold ra at hj
  unfold rf ri mBook
  by_cases h14 : ac = 14
  · subst h14
    simp only [if_true] at hj ⊢
    by_cases hl : j = 13
    · subst hl
      have e : ((fa + 1) % 14 + 13) % 14 = fa := by omega
      rw [e, va_up_self]
      have hc : ∀ i, i < 17 → f i = ptF (shF b 221) f 221 17 (17 * 13 + i) := fun i hi => by
        unfold ptF
        rw [if_pos (by omega), show 17 * 13 + i - 221 = i by omega]
      exact ⟨hR.congr hnm hc, hO.congr hnm hc⟩
    · have e : ((fa + 1) % 14 + j) % 14 = (fa + (j + 1)) % 14 := by omega
      have hne : (fa + (j + 1)) % 14 ≠ fa := by omega
      rw [e, va_up_ne _ _ hne]
      have hc : ∀ i, i < 17 → b (17 * (j + 1) + i) = ptF (shF b 221) f 221 17 (17 * j + i) := fun i hi => by
        unfold ptF
        rw [if_neg (by omega)]
        unfold shF
        rw [if_pos (by omega)]
        congr 1
        omega
      obtain ⟨h1, h2⟩ := hB (j + 1) (by omega)
      exact ⟨RS.congr hnm h1 hc, OKf.congr hnm h2 hc⟩
  · simp only [h14, if_false] at hj ⊢
    by_cases hl : j = ac
    · subst hl
      rw [va_up_self]
      have hc : ∀ i, i < 17 → f i = ptF b f (17 * j) 17 (17 * j + i) := fun i hi => by
        unfold ptF
        rw [if_pos (by omega), show 17 * j + i - 17 * j = i by omega]
      exact ⟨hR.congr hnm hc, hO.congr hnm hc⟩
    · have hne : (fa + j) % 14 ≠ (fa + ac) % 14 := by omega
      rw [va_up_ne _ _ hne]
      have hc : ∀ i, i < 17 → b (17 * j + i) = ptF b f (17 * ac) 17 (17 * j + i) := fun i hi => by
        unfold ptF
        rw [if_neg (by omega)]
      obtain ⟨h1, h2⟩ := hB j (by omega)
      exact ⟨RS.congr hnm h1 hc, OKf.congr hnm h2 hc⟩
theorem ri_lt9 {fa ac : Nat} (h : fa < 14) : ri fa ac < 14 := by
  unfold ri
  split
  · exact h
  · exact Nat.mod_lt _ (by decide)
theorem rf_lt9 {fa ac : Nat} (h : fa < 14) : rf fa ac < 14 := by
  unfold rf
  split
  · exact Nat.mod_lt _ (by decide)
  · exact h
theorem ra_le9 {ac : Nat} (h : ac ≤ 14) : ra ac ≤ 14 := by
  unfold ra
  split <;> omega
theorem slot_keep {sv : Nat → SV} {v : SV} {fa ac q : Nat} (h : fa < 14) : va_up sv (ri fa ac) v (14 + q) = sv (14 + q) := va_up_ne _ _ (by have := ri_lt9 (ac := ac) h; omega)
