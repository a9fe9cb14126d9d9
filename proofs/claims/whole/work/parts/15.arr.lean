/-! an array is what its places hold -/
theorem arrV_ext {cI : ClassId} {N : Nat} {f g : Nat → Value} (h : ∀ k, k < N → f k = g k) : arrV cI N f = arrV cI N g := by
  have e : (fun j : Fin N => f j.val) = fun j => g j.val := funext fun j => h j.1 j.2
  simp only [arrV, e]
theorem va_arr {D : va_G} {cl : List vw_C} {w : va_W} {H : Heap} {q0 a n : Nat} {cA : ClassId} {f : Nat → Int32} (g : Nat → Int32) (ha : w[q0]? = some (a, .inl (cA, n, .inl f))) (h : ∀ k, k < n → f k = g k) (hP : va_P D cl w H) : va_P D cl (w.set q0 (a, .inl (cA, n, .inl g))) H := by
  intro k q hq
  rw [List.getElem?_set] at hq
  by_cases hk : q0 = k
  · subst hk
    rw [if_pos rfl] at hq
    split at hq
    · cases hq
      have h1 := hP q0 _ ha
      have e : vp_cell cA (n, .inl f) = vp_cell cA (n, .inl g) := by
        rw [vp_cell_i, vp_cell_i]
        exact arrV_ext (fun k hk => by rw [h k hk])
      show H[a]? = some (vp_cell cA (n, .inl g))
      rw [← e]
      exact h1
    · cases hq
  · rw [if_neg hk] at hq
    exact hP k q hq
theorem va_arrD {A : Nat → Prop} {w : va_W} {q0 a : Nat} {x y : va_E} (ha : w[q0]? = some (a, x)) (hD : va_D A w) : va_D A (w.set q0 (a, y)) := by
  rw [va_D_iff] at hD ⊢
  obtain ⟨hl, hx⟩ := List.getElem?_eq_some_iff.mp ha
  have e : (w.set q0 (a, y)).map (·.1) = w.map (·.1) := by
    apply List.ext_getElem?
    intro i
    rw [List.map_set, List.getElem?_set]
    split
    · rename_i hi
      subst hi
      rw [if_pos (by simpa using hl), List.getElem?_map, ha]; rfl
    · rfl
  refine ⟨by rw [e]; exact hD.1, fun q hq => ?_⟩
  have h1 : q.1 ∈ (w.set q0 (a, y)).map (·.1) := List.mem_map_of_mem hq
  rw [e] at h1
  obtain ⟨z, hz, he⟩ := List.mem_map.mp h1
  rw [← he]
  exact hD.2 z hz
section WWe
variable {p : Program} {l : Launch} {e : Env} {R : Room} {s : State} {m : MethodId} {args : Array Value} {below : List Frame} {meth : Method} {c : Code} {Q : State → Prop} {D : va_G} {A : Nat → Prop} {nL : Nat} {tys : List (ClassId × FieldType)} {cells slots pc : Nat} {lo st : List Value} {w : va_W}
theorem ww_arr (q0 : Nat) {a n : Nat} {cA : ClassId} {f : Nat → Int32} (g : Nat → Int32) (ha : w[q0]? = some (a, .inl (cA, n, .inl f))) (h : ∀ k, k < n → f k = g k) (kk : WW p l e R s m args below meth c Q D A nL tys cells slots pc lo st (w.set q0 (a, .inl (cA, n, .inl g)))) : WW p l e R s m args below meth c Q D A nL tys cells slots pc lo st w :=
  fun hK H locs ls hP hD hS hl => kk hK H locs ls (va_arr g ha h hP) (va_arrD ha hD) hS hl
end WWe
/-- the first j places of g are f's -/
def cpyF (f g : Nat → Int32) (j : Nat) : Nat → Int32 := fun k => if k < j then f k else g k
theorem cpyF_0 (f g : Nat → Int32) : cpyF f g 0 = g := by funext k; simp [cpyF]
theorem cpyF_s (f g : Nat → Int32) (j : Nat) : upd (cpyF f g j) j (f j) = cpyF f g (j + 1) := by
  funext k
  by_cases h : k = j
  · subst h; simp [cpyF, upd]
  · have : k < j + 1 ↔ k < j := by omega
    simp [cpyF, upd, h, this]
/-! what acts and slots keep: a pool of states -/
abbrev SV : Type := (Nat → Int32) × (Nat → Int32) × (Nat → Int32) × Int32 × Int32
def stc (cI : ClassId) (ad : Nat → Nat → Nat) (v : SV) (j : Nat) : va_W := [(ad j 0, .inr (2, [.ref (ad j 1), .ref (ad j 2), .ref (ad j 3), .int v.2.2.2.1, .int v.2.2.2.2])), (ad j 1, .inl (cI, 5, .inl v.1)), (ad j 2, .inl (cI, 5, .inl v.2.1)), (ad j 3, .inl (cI, 5, .inl v.2.2.1))]
def pool (cI : ClassId) (ad : Nat → Nat → Nat) (sv : Nat → SV) (n : Nat) : va_W := (List.range n).flatMap fun j => stc cI ad (sv j) j
def poolX (cI : ClassId) (ad : Nat → Nat → Nat) (sv : Nat → SV) (n i : Nat) : va_W := ((List.range n).filter (fun j => j != i)).flatMap fun j => stc cI ad (sv j) j
theorem perm_flat {α β : Type} (f : α → List β) {l1 l2 : List α} (h : l1.Perm l2) : (l1.flatMap f).Perm (l2.flatMap f) := by
  induction h with
  | nil => exact List.Perm.refl _
  | cons a _ ih => simp only [List.flatMap_cons]; exact List.Perm.append_left _ ih
  | swap a b l => simp only [List.flatMap_cons, ← List.append_assoc]; exact List.Perm.append_right _ List.perm_append_comm
  | trans _ _ ih1 ih2 => exact ih1.trans ih2
theorem range_perm {n i : Nat} (h : i < n) : (List.range n).Perm (i :: (List.range n).filter (fun j => j != i)) := by
  refine (List.perm_ext_iff_of_nodup List.nodup_range ?_).mpr ?_
  · refine List.nodup_cons.mpr ⟨by simp, List.nodup_range.filter _⟩
  · intro a
    simp only [List.mem_range, List.mem_cons, List.mem_filter, bne_iff_ne, ne_eq]
    constructor
    · intro ha
      by_cases hi : a = i
      · exact Or.inl hi
      · exact Or.inr ⟨ha, hi⟩
    · rintro (rfl | ⟨ha, -⟩)
      · exact h
      · exact ha
theorem pool_out {cI : ClassId} {ad : Nat → Nat → Nat} {sv : Nat → SV} {n i : Nat} (h : i < n) : (pool cI ad sv n).Perm (stc cI ad (sv i) i ++ poolX cI ad sv n i) := by
  have := perm_flat (fun j => stc cI ad (sv j) j) (range_perm h)
  simpa only [pool, poolX, List.flatMap_cons] using this
theorem poolX_up {cI : ClassId} {ad : Nat → Nat → Nat} {sv : Nat → SV} {n i : Nat} (v : SV) : poolX cI ad (va_up sv i v) n i = poolX cI ad sv n i := by
  unfold poolX
  rw [List.flatMap_def, List.flatMap_def, List.map_congr_left]
  intro j hj
  have : j ≠ i := by simpa using (List.mem_filter.mp hj).2
  rw [va_up_ne _ _ this]
theorem pool_in {cI : ClassId} {ad : Nat → Nat → Nat} {sv : Nat → SV} {n i : Nat} (h : i < n) (v : SV) : (stc cI ad v i ++ poolX cI ad sv n i).Perm (pool cI ad (va_up sv i v) n) := by
  have h1 := pool_out (cI := cI) (ad := ad) (sv := va_up sv i v) h
  rw [poolX_up] at h1
  have e : va_up sv i v i = v := by simp [va_up]
  rw [e] at h1
  exact h1.symm
