/-! fractions, the text, what is seen -/
theorem euc_step {d q P e : Nat} (hd : 0 < d) (hq : 0 < q) (hqd : q ≤ d) (h : d * q * e ≤ P) : q * (d % q) * (2 * e) ≤ P := by
  have h1 : d % q < q := Nat.mod_lt _ hq
  have h2 : d % q + q ≤ d := by
    have h3 := Nat.mod_add_div d q
    have h4 : 1 ≤ d / q := (Nat.one_le_div_iff hq).mpr hqd
    have h5 : q * 1 ≤ q * (d / q) := Nat.mul_le_mul_left q h4
    omega
  have h3 : 2 * (d % q) ≤ d := by omega
  calc q * (d % q) * (2 * e) = (2 * (d % q)) * q * e := by rw [Nat.mul_comm q (d % q), Nat.mul_assoc (d % q) q, Nat.mul_comm q (2 * e), ← Nat.mul_assoc, ← Nat.mul_assoc, Nat.mul_comm (d % q) 2, Nat.mul_assoc _ e q, Nat.mul_comm e q, ← Nat.mul_assoc]
    _ ≤ d * q * e := Nat.mul_le_mul_right e (Nat.mul_le_mul_right q h3)
    _ ≤ P := h
/-- Euclid's state behind j steps -/
def EI (a b j : Nat) (x : Nat × Nat) : Prop := 0 < x.1 ∧ x.1 < 2 ^ 31 ∧ x.2 < 2 ^ 31 ∧ Nat.gcd x.1 x.2 = Nat.gcd b a ∧ (1 ≤ j → x.2 < x.1 ∧ x.1 * x.2 * 2 ^ (j - 1) ≤ 2 ^ 62)
theorem EI_0 {a b : Nat} (ha : a < 2 ^ 31) (hb : b < 2 ^ 31) (h0 : 0 < b) : EI a b 0 (b, a) := ⟨h0, hb, ha, rfl, fun h => absurd h (by decide)⟩
theorem EI_s {a b j d q : Nat} (h : EI a b j (d, q)) (hq : 0 < q) : EI a b (j + 1) (q, d % q) := by
  obtain ⟨h1, h2, h3, h4, h5⟩ := h
  have hm : d % q < q := Nat.mod_lt _ hq
  refine ⟨hq, h3, Nat.lt_trans hm h3, ?_, fun _ => ⟨hm, ?_⟩⟩
  · show Nat.gcd q (d % q) = _
    rw [Nat.gcd_comm q, ← Nat.gcd_rec, Nat.gcd_comm]; exact h4
  · show q * (d % q) * 2 ^ (j + 1 - 1) ≤ 2 ^ 62
    rw [Nat.add_sub_cancel]
    by_cases hj : j = 0
    · subst hj
      show q * (d % q) * 2 ^ 0 ≤ 2 ^ 62
      rw [Nat.pow_zero, Nat.mul_one]
      exact Nat.le_of_lt (Nat.lt_of_lt_of_le (Nat.mul_lt_mul'' h3 (Nat.lt_trans hm h3)) (by decide))
    · obtain ⟨g1, g2⟩ := h5 (by omega)
      have := euc_step (e := 2 ^ (j - 1)) h1 hq (Nat.le_of_lt g1) g2
      rw [show 2 ^ j = 2 * 2 ^ (j - 1) by rw [← Nat.pow_succ']; congr 1; omega]
      exact this
theorem EI_end {a b d q : Nat} (h : EI a b 100 (d, q)) : q = 0 := by
  obtain ⟨h1, -, -, -, h5⟩ := h
  obtain ⟨g1, g2⟩ := h5 (by decide)
  rcases Nat.eq_zero_or_pos q with hq | hq
  · exact hq
  · exfalso
    have h7 : 1 ≤ d * q := Nat.mul_pos h1 hq
    have h8 : 1 * 2 ^ (100 - 1) ≤ d * q * 2 ^ (100 - 1) := Nat.mul_le_mul_right _ h7
    exact absurd (Nat.le_trans h8 g2) (by decide)
theorem EI_gcd {a b d j : Nat} (h : EI a b j (d, 0)) : d = Nat.gcd b a := by
  have := h.2.2.2.1
  simpa using this
def sFrac (a b : Nat) (u : Bool) : Int32 := if u then nI (a / Nat.gcd b a) else nI (b / Nat.gcd b a)
/-! the text -/
def sFig (a : Nat) (kind : Int32) : Int32 := if a % 4 = 2 then 10 else if a % 4 = 3 then 4 else if kind = 65 then 10 else 4
def sFault (f : Nat → Int32) (tn : Nat) : Nat → Nat → Nat → Nat → Int32 → Int32
  | 0, _, _, _, _ => if tn % 4 = 1 then -9 else nI tn
  | n + 1, j, mu, ar, kind =>
    if j = 0 then (if f j = 77 then sFault f tn n (j + 1) mu ar kind else nI j)
    else if j % 4 = 1 then
      (if f j = 65 ∧ ar < 5 then sFault f tn n (j + 1) mu (ar + 1) (f j)
       else if f j = 77 ∧ mu < 5 then sFault f tn n (j + 1) (mu + 1) ar (f j)
       else nI j)
    else if f j < 48 then nI j
    else if f j < 48 + sFig j kind then sFault f tn n (j + 1) mu ar kind
    else nI j
theorem sFault_0 (f : Nat → Int32) (tn j mu ar : Nat) (kind : Int32) : sFault f tn 0 j mu ar kind = if tn % 4 = 1 then -9 else nI tn := rfl
theorem sFault_s (f : Nat → Int32) (tn n j mu ar : Nat) (kind : Int32) : sFault f tn (n + 1) j mu ar kind = if j = 0 then (if f j = 77 then sFault f tn n (j + 1) mu ar kind else nI j)
    else if j % 4 = 1 then
      (if f j = 65 ∧ ar < 5 then sFault f tn n (j + 1) mu (ar + 1) (f j)
       else if f j = 77 ∧ mu < 5 then sFault f tn n (j + 1) (mu + 1) ar (f j)
       else nI j)
    else if f j < 48 then nI j
    else if f j < 48 + sFig j kind then sFault f tn n (j + 1) mu ar kind
    else nI j := rfl
def sLet (f : Nat → Int32) (tn a : Nat) : Int32 := if a < tn then f a else 0
abbrev TV : Type := Nat × Nat × (Nat → Int32) × (Nat → Int32) × (Nat → Int32) × (Nat → Int32) × (Nat → Int32) × (Nat → Int32) × (Nat → Int32)
/-- a part is read: mules, articles, stones, sorts, values; coats, stones, kinds, shown -/
def sPart (c : Int32) (x y z : Int32) (v : TV) : TV :=
  if c = 65 then
    (if v.2.1 < 5 then (v.1, v.2.1 + 1, upd v.2.2.1 v.2.1 x, upd v.2.2.2.1 v.2.1 y, upd v.2.2.2.2.1 v.2.1 z, v.2.2.2.2.2) else v)
  else if v.1 < 5 then (v.1 + 1, v.2.1, v.2.2.1, v.2.2.2.1, v.2.2.2.2.1, upd v.2.2.2.2.2.1 v.1 y, upd v.2.2.2.2.2.2.1 v.1 x, upd v.2.2.2.2.2.2.2.1 v.1 z, upd v.2.2.2.2.2.2.2.2 v.1 0)
  else v
def sParts (f : Nat → Int32) (tn : Nat) (v : TV) : Nat → TV
  | 0 => v
  | p + 1 => sPart (sLet f tn (1 + 4 * p)) (sLet f tn (1 + 4 * p + 1) - 48) (sLet f tn (1 + 4 * p + 2) - 48) (sLet f tn (1 + 4 * p + 3) - 48) (sParts f tn v p)
theorem sPart_le {c x y z : Int32} {v : TV} (h1 : v.1 ≤ 5) (h2 : v.2.1 ≤ 5) : (sPart c x y z v).1 ≤ 5 ∧ (sPart c x y z v).2.1 ≤ 5 := by
  unfold sPart
  split
  · split
    · exact ⟨h1, by show v.2.1 + 1 ≤ 5; omega⟩
    · exact ⟨h1, h2⟩
  · split
    · exact ⟨by show v.1 + 1 ≤ 5; omega, h2⟩
    · exact ⟨h1, h2⟩
theorem sParts_le {f : Nat → Int32} {tn : Nat} {v : TV} (h1 : v.1 ≤ 5) (h2 : v.2.1 ≤ 5) : ∀ p, (sParts f tn v p).1 ≤ 5 ∧ (sParts f tn v p).2.1 ≤ 5
  | 0 => ⟨h1, h2⟩
  | p + 1 => sPart_le (sParts_le h1 h2 p).1 (sParts_le h1 h2 p).2
theorem nI_ne_neg {n : Nat} (h : n < 1000) : ¬ nI n = -9 := by
  intro e
  have h1 : (nI n).toInt = (-9 : Int32).toInt := by rw [e]
  rw [nI_toInt (by omega)] at h1
  have : (-9 : Int32).toInt = -9 := by decide
  omega
theorem sFault_mod {f : Nat → Int32} {tn : Nat} (ht : tn ≤ 48) : ∀ n j mu ar kind, j + n = tn → sFault f tn n j mu ar kind = -9 → tn % 4 = 1
  | 0, j, mu, ar, kind, hj, h => by
    unfold sFault at h
    split at h
    · assumption
    · exact absurd h (nI_ne_neg (by omega))
  | n + 1, j, mu, ar, kind, hj, h => by
    unfold sFault at h
    have hb : ¬ nI j = -9 := nI_ne_neg (by omega)
    repeat' split at h
    all_goals first | exact absurd h hb | exact sFault_mod ht n (j + 1) _ _ _ (by omega) h
def allB (p : Nat → Bool) : Nat → Bool
  | 0 => true
  | n + 1 => allB p n && p n
theorem allB_f {p : Nat → Bool} {n j : Nat} (hj : j < n) (h : p j = false) : allB p n = false := by
  induction n with
  | zero => omega
  | succ n ih =>
    by_cases e : j = n
    · subst e; simp [allB, h]
    · simp [allB, ih (by omega)]
def sAg (g0 g1 g2 g3 g4 : Nat → Int32) (stone so va : Int32) (i : Nat) : Bool := !(decide (g0 i = stone) && !decide (bI (sBarA so va (g1 i) (g2 i) (g3 i)) = (if g4 i = 1 then 1 else 0)))
