/-! both sides answer alike: forgetting -/
def nTally (f : Nat → Nat) (t : Nat) : Nat → Nat
  | 0 => f 0 * (10 - t)
  | j + 1 => f (j + 1) * (10 - t) + f j * t
def nTal (t : Nat → Nat) : Nat → Nat → Nat
  | 0 => fun i => if i = 0 then 1 else 0
  | n + 1 => nTally (nTal t n) (t n)
theorem tal_nI {tt : Nat → Int32} {t : Nat → Nat} : ∀ n, (∀ o, o < n → tt o = nI (t o) ∧ t o ≤ 10) → ∀ i, sTal tt n i = nI (nTal t n i)
  | 0, _, i => by
    by_cases h : i = 0
    · subst h; rfl
    · simp only [sTal, nTal, h, if_false]; rfl
  | n + 1, h, i => by
    have ih := tal_nI n (fun o ho => h o (by omega))
    obtain ⟨e, hb⟩ := h n (by omega)
    have e10 : (10 : Int32) - tt n = nI (10 - t n) := nI_subE (a := 10) (b := t n) rfl e hb
    cases i with
    | zero =>
      show sTal tt n 0 * (10 - tt n) = nI (nTal t n 0 * (10 - t n))
      exact nI_mulE (ih 0) e10
    | succ j =>
      show sTal tt n (j + 1) * (10 - tt n) + sTal tt n j * tt n = nI (nTal t n (j + 1) * (10 - t n) + nTal t n j * t n)
      exact nI_addE (nI_mulE (ih (j + 1)) e10) (nI_mulE (ih j) e)
theorem sumN_congr {f g : Nat → Nat} : ∀ n, (∀ o, o < n → f o = g o) → sumN f n = sumN g n
  | 0, _ => rfl
  | n + 1, h => by simp only [sumN, sumN_congr n (fun o ho => h o (by omega)), h n (by omega)]
theorem sumN_split (f : Nat → Nat) (a : Nat) : ∀ b, sumN f (a + b) = sumN f a + sumN (fun t => f (a + t)) b
  | 0 => by simp [sumN]
  | b + 1 => by
    show sumN f (a + b) + f (a + b) = sumN f a + (sumN (fun t => f (a + t)) b + f (a + b))
    rw [sumN_split f a b, Nat.add_assoc]
theorem sumN_zero : ∀ n, sumN (fun _ => 0) n = 0
  | 0 => rfl
  | n + 1 => by simp [sumN, sumN_zero n]
theorem sumN_add (f g : Nat → Nat) : ∀ n, sumN (fun t => f t + g t) n = sumN f n + sumN g n
  | 0 => rfl
  | n + 1 => by simp only [sumN, sumN_add f g n]; omega
theorem sumN_swap (g : Nat → Nat → Nat) (N : Nat) : ∀ n, sumN (fun t => sumN (fun o => g o t) n) N = sumN (fun o => sumN (fun t => g o t) N) n
  | 0 => sumN_zero N
  | n + 1 => by
    simp only [sumN]
    rw [sumN_add (fun t => sumN (fun o => g o t) n) (fun t => g n t), sumN_swap g N n]
theorem sumN_scale {p : Nat → Prop} [∀ t, Decidable (p t)] (w : Nat → Nat) (c : Nat) : ∀ n, sumN (fun t => if p t then w t * c else 0) n = sumN (fun t => if p t then w t else 0) n * c
  | 0 => by simp [sumN]
  | n + 1 => by
    simp only [sumN, sumN_scale w c n, Nat.add_mul]
    congr 1
    split
    · rfl
    · simp
theorem sumN_pick (c w m : Nat) : ∀ n, sumN (fun j => if c = m + j then w else 0) n = if m ≤ c ∧ c < m + n then w else 0
  | 0 => by
    have : ¬ (m ≤ c ∧ c < m + 0) := by omega
    rw [if_neg this]
    rfl
  | n + 1 => by
    simp only [sumN, sumN_pick c w m n]
    by_cases h1 : c = m + n
    · have h2 : ¬ (m ≤ c ∧ c < m + n) := by omega
      have h3 : m ≤ c ∧ c < m + (n + 1) := by omega
      rw [if_neg h2, if_pos h1, if_pos h3, Nat.zero_add]
    · rw [if_neg h1, Nat.add_zero]
      by_cases h2 : m ≤ c ∧ c < m + n
      · rw [if_pos h2, if_pos (by omega)]
      · rw [if_neg h2, if_neg (by omega)]
def fWt (x n T : Nat) : Nat := x ^ pcN T * (10 - x) ^ (n - pcN T)
def fCt (b0 b1 : Nat → Nat) (n T : Nat) : Nat := sumN (fun o => if T.testBit o then b1 o else b0 o) n
theorem pc_hi : ∀ n, n < 5 → ∀ T, T < 2 ^ n → pcN (2 ^ n + T) = pcN T + 1 := by decide +kernel
theorem fCt_lo {b0 b1 : Nat → Nat} {n T : Nat} (h : T < 2 ^ n) : fCt b0 b1 (n + 1) T = fCt b0 b1 n T + b0 n := by
  have e : (if T.testBit n then b1 n else b0 n) = b0 n := by rw [Nat.testBit_lt_two_pow h]; rfl
  show sumN (fun o => if T.testBit o then b1 o else b0 o) n + (if T.testBit n then b1 n else b0 n) = _
  rw [e]
  rfl
theorem fCt_hi {b0 b1 : Nat → Nat} {n T : Nat} (h : T < 2 ^ n) : fCt b0 b1 (n + 1) (2 ^ n + T) = fCt b0 b1 n T + b1 n := by
  have e : (if (2 ^ n + T).testBit n then b1 n else b0 n) = b1 n := by rw [Nat.testBit_two_pow_add_eq, Nat.testBit_lt_two_pow h]; rfl
  show sumN (fun o => if (2 ^ n + T).testBit o then b1 o else b0 o) n + (if (2 ^ n + T).testBit n then b1 n else b0 n) = _
  rw [e]
  congr 1
  refine sumN_congr n (fun o ho => ?_)
  rw [Nat.testBit_two_pow_add_gt ho]
theorem fWt_lo {x n T : Nat} (hn : n < 5) (h : T < 2 ^ n) : fWt x (n + 1) T = fWt x n T * (10 - x) := by
  have := pcN_bit n (by omega) T h
  unfold fWt
  rw [show n + 1 - pcN T = (n - pcN T) + 1 by omega, Nat.pow_succ, Nat.mul_assoc]
theorem fWt_hi {x n T : Nat} (hn : n < 5) (h : T < 2 ^ n) : fWt x (n + 1) (2 ^ n + T) = fWt x n T * x := by
  have := pcN_bit n (by omega) T h
  unfold fWt
  rw [pc_hi n hn T h, show n + 1 - (pcN T + 1) = n - pcN T by omega, Nat.pow_succ]
  ac_rfl
theorem dp_eq {b0 b1 : Nat → Nat} {x : Nat} (hx : x ≤ 10) (h0 : ∀ o, b0 o = 0 ∨ b0 o = 1) (h1 : ∀ o, b1 o = 0 ∨ b1 o = 1) : ∀ n, n ≤ 5 → ∀ i, nTal (fun o => (10 - x) * b0 o + x * b1 o) n i = sumN (fun T => if fCt b0 b1 n T = i then fWt x n T else 0) (2 ^ n)
  | 0, _, i => by
    have hp : pcN 0 = 0 := by decide +kernel
    show (if i = 0 then 1 else 0) = 0 + (if fCt b0 b1 0 0 = i then fWt x 0 0 else 0)
    have e : fCt b0 b1 0 0 = 0 := rfl
    have e2 : fWt x 0 0 = 1 := by simp [fWt, hp]
    rw [e, e2, Nat.zero_add]
    by_cases h : i = 0
    · simp [h]
    · have : ¬ 0 = i := fun z => h z.symm
      simp [h, this]
  | n + 1, hn, i => by
    have ih := dp_eq hx h0 h1 n (by omega)
    have hs : sumN (fun T => if fCt b0 b1 (n + 1) T = i then fWt x (n + 1) T else 0) (2 ^ (n + 1)) = sumN (fun T => if fCt b0 b1 n T + b0 n = i then fWt x n T else 0) (2 ^ n) * (10 - x) + sumN (fun T => if fCt b0 b1 n T + b1 n = i then fWt x n T else 0) (2 ^ n) * x := by
      rw [show 2 ^ (n + 1) = 2 ^ n + 2 ^ n by rw [Nat.pow_succ]; omega, sumN_split, ← sumN_scale, ← sumN_scale]
      congr 1
      · refine sumN_congr _ (fun T hT => ?_)
        rw [fCt_lo hT, fWt_lo (by omega) hT]
      · refine sumN_congr _ (fun T hT => ?_)
        rw [fCt_hi hT, fWt_hi (by omega) hT]
    rw [hs]
    have k0 : ∀ i, sumN (fun T => if fCt b0 b1 n T + 0 = i then fWt x n T else 0) (2 ^ n) = nTal (fun o => (10 - x) * b0 o + x * b1 o) n i := fun i => (ih i).symm
    have k1 : ∀ j, sumN (fun T => if fCt b0 b1 n T + 1 = j + 1 then fWt x n T else 0) (2 ^ n) = nTal (fun o => (10 - x) * b0 o + x * b1 o) n j := fun j => by
      rw [ih j]
      refine sumN_congr _ (fun T _ => ?_)
      have : (fCt b0 b1 n T + 1 = j + 1) ↔ fCt b0 b1 n T = j := by omega
      simp only [this]
    have k2 : sumN (fun T => if fCt b0 b1 n T + 1 = 0 then fWt x n T else 0) (2 ^ n) = 0 := by
      rw [show (fun T => if fCt b0 b1 n T + 1 = 0 then fWt x n T else 0) = fun _ => 0 from funext fun T => by simp]
      exact sumN_zero _
    show nTally (nTal (fun o => (10 - x) * b0 o + x * b1 o) n) ((10 - x) * b0 n + x * b1 n) i = _
    have d10 : 10 - (10 - x) = x := by omega
    have dx : ∀ a : Nat, a * 10 = a * (10 - x) + a * x := fun a => by rw [← Nat.mul_add]; congr 1; omega
    cases i with
    | zero =>
      show nTal _ n 0 * (10 - ((10 - x) * b0 n + x * b1 n)) = _
      rcases h0 n with e0 | e0 <;> rcases h1 n with e1 | e1 <;> rw [e0, e1]
      · rw [k0, show (10 - ((10 - x) * 0 + x * 0)) = 10 by omega]; exact dx _
      · rw [k0, k2, show (10 - ((10 - x) * 0 + x * 1)) = 10 - x by omega, Nat.zero_mul, Nat.add_zero]
      · rw [k0, k2, show (10 - ((10 - x) * 1 + x * 0)) = x by omega, Nat.zero_mul, Nat.zero_add]
      · rw [k2, show (10 - ((10 - x) * 1 + x * 1)) = 0 by omega, Nat.zero_mul, Nat.zero_mul, Nat.mul_zero]
    | succ j =>
      show nTal _ n (j + 1) * (10 - ((10 - x) * b0 n + x * b1 n)) + nTal _ n j * ((10 - x) * b0 n + x * b1 n) = _
      rcases h0 n with e0 | e0 <;> rcases h1 n with e1 | e1 <;> rw [e0, e1]
      · rw [k0, show (10 - ((10 - x) * 0 + x * 0)) = 10 by omega, show ((10 - x) * 0 + x * 0) = 0 by omega, Nat.mul_zero, Nat.add_zero]; exact dx _
      · rw [k0, k1, show (10 - ((10 - x) * 0 + x * 1)) = 10 - x by omega, show ((10 - x) * 0 + x * 1) = x by omega]
      · rw [k0, k1, show (10 - ((10 - x) * 1 + x * 0)) = x by omega, show ((10 - x) * 1 + x * 0) = 10 - x by omega, Nat.add_comm]
      · rw [k1, show (10 - ((10 - x) * 1 + x * 1)) = 0 by omega, show ((10 - x) * 1 + x * 1) = 10 by omega, Nat.mul_zero, Nat.zero_add]; exact dx _
theorem sumFrom_nI {f : Nat → Int32} {g : Nat → Nat} (m : Nat) (h : ∀ i, f i = nI (g i)) : ∀ n, sumFrom f m n = nI (sumN (fun j => g (m + j)) n)
  | 0 => rfl
  | n + 1 => by simp only [sumFrom, sumN]; rw [sumFrom_nI m h n, h, nI_add]
theorem fCt_le {b0 b1 : Nat → Nat} (h0 : ∀ o, b0 o = 0 ∨ b0 o = 1) (h1 : ∀ o, b1 o = 0 ∨ b1 o = 1) (n T : Nat) : fCt b0 b1 n T ≤ n := by
  have := sumN_le (g := fun o => if T.testBit o then b1 o else b0 o) (b := 1) n (fun o _ => by
    show (if T.testBit o then b1 o else b0 o) ≤ 1
    have := h0 o; have := h1 o
    split <;> omega)
  unfold fCt
  omega
theorem tail_eq {b0 b1 : Nat → Nat} {x n mm : Nat} (hx : x ≤ 10) (h0 : ∀ o, b0 o = 0 ∨ b0 o = 1) (h1 : ∀ o, b1 o = 0 ∨ b1 o = 1) (hn : n ≤ 5) (hmm : mm ≤ 5) : sumN (fun j => nTal (fun o => (10 - x) * b0 o + x * b1 o) n (mm + j)) (6 - mm) = sumN (fun T => if mm ≤ fCt b0 b1 n T then fWt x n T else 0) (2 ^ n) := by
  rw [sumN_congr (6 - mm) (fun j _ => dp_eq hx h0 h1 n hn (mm + j)), ← sumN_swap (fun j T => if fCt b0 b1 n T = mm + j then fWt x n T else 0)]
  refine sumN_congr _ (fun T _ => ?_)
  rw [sumN_pick]
  have := fCt_le h0 h1 n T
  have e : (mm ≤ fCt b0 b1 n T ∧ fCt b0 b1 n T < mm + (6 - mm)) ↔ mm ≤ fCt b0 b1 n T := by omega
  simp only [e]
theorem fWt_le {x n T : Nat} (hx : x ≤ 10) (hp : pcN T ≤ n) : fWt x n T ≤ 10 ^ n := by
  unfold fWt
  calc x ^ pcN T * (10 - x) ^ (n - pcN T) ≤ 10 ^ pcN T * 10 ^ (n - pcN T) := Nat.mul_le_mul (Nat.pow_le_pow_left hx _) (Nat.pow_le_pow_left (by omega) _)
    _ = 10 ^ n := by rw [← Nat.pow_add]; congr 1; omega
