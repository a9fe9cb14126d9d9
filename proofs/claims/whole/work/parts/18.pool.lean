theorem perm_out {cI : ClassId} {ad : Nat → Nat → Nat} {sv : Nat → SV} (k1 k2 : Nat) {i n : Nat} (h : i < n) {w r : va_W} (hw : w.drop (k1 + k2) = pool cI ad sv n ++ r) : w.Perm (w.take k1 ++ (stc cI ad (sv i) i ++ ((w.drop k1).take k2 ++ (poolX cI ad sv n i ++ r)))) := by
  have e : w = w.take k1 ++ ((w.drop k1).take k2 ++ (pool cI ad sv n ++ r)) := by
    rw [← hw, ← List.drop_drop, List.take_append_drop, List.take_append_drop]
  have h1 : ((w.drop k1).take k2 ++ (pool cI ad sv n ++ r)).Perm (stc cI ad (sv i) i ++ ((w.drop k1).take k2 ++ (poolX cI ad sv n i ++ r))) := by
    refine (List.Perm.append_left _ (List.Perm.append_right r (pool_out h))).trans ?_
    rw [List.append_assoc]
    exact perm_swap3 [] _ _ _
  exact (List.Perm.of_eq e).trans (List.Perm.append_left _ h1)
theorem perm_in {cI : ClassId} {ad : Nat → Nat → Nat} {sv : Nat → SV} (k1 k2 : Nat) {i n : Nat} (v : SV) (h : i < n) {w r : va_W} (hw1 : (w.drop k1).take 4 = stc cI ad v i) (hw2 : w.drop (k1 + (4 + k2)) = poolX cI ad sv n i ++ r) : w.Perm (w.take k1 ++ ((w.drop (k1 + 4)).take k2 ++ (pool cI ad (va_up sv i v) n ++ r))) := by
  have e : w = w.take k1 ++ (stc cI ad v i ++ ((w.drop (k1 + 4)).take k2 ++ (poolX cI ad sv n i ++ r))) := by
    rw [← hw1, ← hw2, ← List.drop_drop, ← List.drop_drop, ← List.drop_drop, List.take_append_drop, List.take_append_drop, List.take_append_drop]
  have h1 : (stc cI ad v i ++ ((w.drop (k1 + 4)).take k2 ++ (poolX cI ad sv n i ++ r))).Perm ((w.drop (k1 + 4)).take k2 ++ (pool cI ad (va_up sv i v) n ++ r)) := by
    have h2 := perm_swap3 [] (stc cI ad v i) ((w.drop (k1 + 4)).take k2) (poolX cI ad sv n i ++ r)
    simp only [List.nil_append] at h2
    refine h2.trans ?_
    refine List.Perm.append_left _ ?_
    rw [← List.append_assoc]
    exact List.Perm.append_right r (pool_in h v)
  exact (List.Perm.of_eq e).trans (List.Perm.append_left _ h1)
theorem ri_lt {fa ac : Nat} (h : fa < 14) : ri fa ac < 14 := by unfold ri; split <;> omega
theorem rf_lt {fa ac : Nat} (h : fa < 14) : rf fa ac < 14 := by unfold rf; split <;> omega
theorem ra_le {ac : Nat} (h : ac ≤ 14) : ra ac ≤ 14 := by unfold ra; split <;> omega
theorem va_up_id {α : Type} (f : Nat → α) (k : Nat) : va_up f k (f k) = f := by
  funext j
  by_cases h : j = k
  · subst h; exact va_up_self _ _ _
  · exact va_up_ne _ _ h
