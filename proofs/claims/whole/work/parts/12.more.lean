/-! fewer things known of the locals; loops; worlds in another order -/
def wl_le : List Value → List Value → Prop
  | [], [] => True
  | a :: as, b :: bs => (a = .null ∨ a = b) ∧ wl_le as bs
  | _, _ => False
theorem wl_le_at : ∀ {lo lo' : List Value}, wl_le lo lo' → lo.length = lo'.length ∧ ∀ (i : Nat) (v : Value), lo[i]? = some v → v ≠ .null → lo'[i]? = some v
  | [], [], _ => ⟨rfl, fun i v h => by simp at h⟩
  | a :: as, b :: bs, h => by
    obtain ⟨h1, h2⟩ := h
    obtain ⟨g1, g2⟩ := wl_le_at h2
    refine ⟨by simp [g1], fun i v hi hv => ?_⟩
    cases i with
    | zero =>
      simp only [List.getElem?_cons_zero, Option.some.injEq] at hi ⊢
      subst hi
      rcases h1 with h1 | h1
      · exact absurd h1 hv
      · exact h1.symm
    | succ i =>
      simp only [List.getElem?_cons_succ] at hi ⊢
      exact g2 i v hi hv
  | [], _ :: _, h => h.elim
  | _ :: _, [], h => h.elim
theorem wl_l.le {ls : Array Slot} {nL : Nat} {lo lo' : List Value} (h : wl_le lo lo') (hl : wl_l ls nL lo') : wl_l ls nL lo :=
  ⟨(wl_le_at h).1.trans hl.1, hl.2.1, hl.2.2.1, fun i v hi hv => hl.2.2.2 i v ((wl_le_at h).2 i v hi hv) hv⟩
theorem perm_mv (i k j : Nat) (w : va_W) : w.Perm (w.take i ++ ((w.drop (i + k)).take j ++ ((w.drop i).take k ++ w.drop (i + k + j)))) := by
  have e : w = w.take i ++ ((w.drop i).take k ++ ((w.drop (i + k)).take j ++ w.drop (i + k + j))) := by
    have h1 : w.drop (i + k) = (w.drop (i + k)).take j ++ w.drop (i + k + j) := by
      conv => lhs; rw [← List.take_append_drop j (w.drop (i + k))]
      rw [List.drop_drop]
    have h2 : w.drop i = (w.drop i).take k ++ w.drop (i + k) := by
      conv => lhs; rw [← List.take_append_drop k (w.drop i)]
      rw [List.drop_drop]
    rw [← h1, ← h2, List.take_append_drop]
  exact (List.Perm.of_eq e).trans (perm_swap3 _ _ _ _)
section WWd
variable {p : Program} {l : Launch} {e : Env} {R : Room} {s : State} {m : MethodId} {args : Array Value} {below : List Frame} {meth : Method} {c : Code} {Q : State → Prop} {D : va_G} {A : Nat → Prop} {cc : ByteArray} {own : String} {nL : Nat} {tys : List (ClassId × FieldType)} {cells slots pc : Nat} {lo st : List Value} {w : va_W}
theorem ww_back {lo' : List Value} {w' : va_W} (k : WW p l e R s m args below meth c Q D A nL tys cells slots pc lo' st w') (h : wl_le lo' lo) (hw : w = w') : WW p l e R s m args below meth c Q D A nL tys cells slots pc lo st w := by
  subst hw
  exact fun hK H locs ls hP hD hS hl => k hK H locs ls hP hD hS (hl.le h)
theorem ww_top {v v' : Int32} (h : v = v') (k : WW p l e R s m args below meth c Q D A nL tys cells slots pc lo (.int v' :: st) w) : WW p l e R s m args below meth c Q D A nL tys cells slots pc lo (.int v :: st) w := by
  subst h; exact k
theorem ww_world {w' : va_W} (h : w = w') (k : WW p l e R s m args below meth c Q D A nL tys cells slots pc lo st w') : WW p l e R s m args below meth c Q D A nL tys cells slots pc lo st w := by
  subst h; exact k
/-- a loop that counts i0 .. N -/
theorem ww_loop (i0 N : Nat) (h0 : i0 ≤ N) (lo : Nat → List Value) (w : Nat → va_W) (hs : ∀ j, i0 ≤ j → j < N → WW p l e R s m args below meth c Q D A nL tys cells slots pc (lo (j + 1)) st (w (j + 1)) → WW p l e R s m args below meth c Q D A nL tys cells slots pc (lo j) st (w j)) (hx : WW p l e R s m args below meth c Q D A nL tys cells slots pc (lo N) st (w N)) : WW p l e R s m args below meth c Q D A nL tys cells slots pc (lo i0) st (w i0) := by
  have key : ∀ n j, i0 ≤ j → j + n = N → WW p l e R s m args below meth c Q D A nL tys cells slots pc (lo j) st (w j) := by
    intro n
    induction n with
    | zero => intro j _ hj; have : j = N := by omega
              subst this; exact hx
    | succ n ih => intro j h1 hj; exact hs j h1 (by omega) (ih (j + 1) (by omega) (by omega))
  exact key (N - i0) i0 (Nat.le_refl _) (by omega)
/-- a loop with an invariant: it may end early -/
theorem ww_loopI {σ : Type} (i0 N : Nat) (h0 : i0 ≤ N) (I : Nat → σ → Prop) (lo : Nat → σ → List Value) (w : Nat → σ → va_W) (x0 : σ) (hI : I i0 x0) (hs : ∀ j x, i0 ≤ j → j < N → I j x → (∀ x', I (j + 1) x' → WW p l e R s m args below meth c Q D A nL tys cells slots pc (lo (j + 1) x') st (w (j + 1) x')) → WW p l e R s m args below meth c Q D A nL tys cells slots pc (lo j x) st (w j x)) (hx : ∀ x, I N x → WW p l e R s m args below meth c Q D A nL tys cells slots pc (lo N x) st (w N x)) : WW p l e R s m args below meth c Q D A nL tys cells slots pc (lo i0 x0) st (w i0 x0) := by
  have key : ∀ n j x, i0 ≤ j → j + n = N → I j x → WW p l e R s m args below meth c Q D A nL tys cells slots pc (lo j x) st (w j x) := by
    intro n
    induction n with
    | zero => intro j x _ hj hi; have : j = N := by omega
              subst this; exact hx x hi
    | succ n ih => intro j x h1 hj hi; exact hs j x h1 (by omega) hi (fun x' h' => ih (j + 1) x' (by omega) (by omega) h')
  exact key (N - i0) i0 x0 (Nat.le_refl _) (by omega) hI
/-- a loop by a measure -/
theorem ww_loopM {σ : Type} (I : σ → Prop) (μ : σ → Nat) (lo : σ → List Value) (w : σ → va_W) (x0 : σ) (hI : I x0) (hs : ∀ x, I x → (∀ x', I x' → μ x' < μ x → WW p l e R s m args below meth c Q D A nL tys cells slots pc (lo x') st (w x')) → WW p l e R s m args below meth c Q D A nL tys cells slots pc (lo x) st (w x)) : WW p l e R s m args below meth c Q D A nL tys cells slots pc (lo x0) st (w x0) := by
  have key : ∀ n x, μ x < n → I x → WW p l e R s m args below meth c Q D A nL tys cells slots pc (lo x) st (w x) := by
    intro n
    induction n with
    | zero => intro x h; omega
    | succ n ih => intro x h hi; exact hs x hi (fun x' h' hm => ih x' (by omega) h')
  exact key (μ x0 + 1) x0 (Nat.lt_succ_self _) hI
end WWd
theorem sw_out {x : Int32} (n : Nat) (hn : n < 2 ^ 31) (h : ∀ k, k < n → ¬ x = nI k) : x.toInt < 0 ∨ (n : Int) - 1 < x.toInt := by
  by_cases h0 : x.toInt < 0
  · exact Or.inl h0
  · by_cases h1 : (n : Int) - 1 < x.toInt
    · exact Or.inr h1
    · exfalso
      refine h x.toInt.toNat (by omega) ?_
      rw [← Int32.toInt_inj, nI_toInt (by omega)]
      omega
