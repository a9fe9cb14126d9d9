/-! both sides answer alike: shares -/
theorem frac_parts {a b c d g k : Nat} (h : c * b = a * d) (hb : 0 < b) (g1 : 0 < g) (g2 : 0 < k) (e : b * k = d * g) (h1 : g ∣ b) (h2 : k ∣ d) (h3 : g ∣ a) (h4 : k ∣ c) : a / g = c / k ∧ b / g = d / k := by
  obtain ⟨p, rfl⟩ := h1
  obtain ⟨q, rfl⟩ := h2
  obtain ⟨r, rfl⟩ := h3
  obtain ⟨s, rfl⟩ := h4
  have hpq : p = q := by
    have : g * k * p = g * k * q := by
      calc g * k * p = g * p * k := by rw [Nat.mul_assoc, Nat.mul_comm k p, ← Nat.mul_assoc]
        _ = k * q * g := e
        _ = g * k * q := by rw [Nat.mul_comm (k * q) g, Nat.mul_assoc]
    exact Nat.eq_of_mul_eq_mul_left (Nat.mul_pos g1 g2) this
  subst hpq
  have hp0 : 0 < p := Nat.pos_of_ne_zero fun z => by subst z; simp at hb
  have hrs : r = s := by
    have : g * k * p * s = g * k * p * r := by
      calc g * k * p * s = k * s * (g * p) := by ac_rfl
        _ = g * r * (k * p) := h
        _ = g * k * p * r := by ac_rfl
    exact (Nat.eq_of_mul_eq_mul_left (Nat.mul_pos (Nat.mul_pos g1 g2) hp0) this).symm
  subst hrs
  rw [Nat.mul_div_cancel_left _ g1, Nat.mul_div_cancel_left _ g2, Nat.mul_div_cancel_left _ g1, Nat.mul_div_cancel_left _ g2]
  exact ⟨rfl, rfl⟩
theorem frac_eq {a b c d : Nat} (h : c * b = a * d) (hb : 0 < b) (hd : 0 < d) (u : Bool) : sFrac a b u = sFrac c d u := by
  have g1 : 0 < Nat.gcd b a := Nat.gcd_pos_of_pos_left a hb
  have g2 : 0 < Nat.gcd d c := Nat.gcd_pos_of_pos_left c hd
  have e : b * Nat.gcd d c = d * Nat.gcd b a := by
    rw [← Nat.gcd_mul_left, ← Nat.gcd_mul_left, Nat.mul_comm b d, Nat.mul_comm b c, h, Nat.mul_comm a d]
  obtain ⟨z1, z2⟩ := frac_parts h hb g1 g2 e (Nat.gcd_dvd_left b a) (Nat.gcd_dvd_left d c) (Nat.gcd_dvd_right b a) (Nat.gcd_dvd_right d c)
  unfold sFrac
  rw [z1, z2]
/-- sums over one another -/
theorem sumI_add (f g : Nat → Int32) : ∀ n, sumI (fun t => f t + g t) n = sumI f n + sumI g n
  | 0 => by simp [sumI]
  | n + 1 => by
    simp only [sumI, sumI_add f g n]
    rw [Int32.add_assoc, Int32.add_assoc, ← Int32.add_assoc (sumI g n), Int32.add_comm (sumI g n) (f n), Int32.add_assoc (f n)]
theorem sumI_zero : ∀ n, sumI (fun _ => 0) n = 0
  | 0 => rfl
  | n + 1 => by simp [sumI, sumI_zero n]
theorem sumI_swap (g : Nat → Nat → Int32) (N : Nat) : ∀ n, sumI (fun t => sumI (fun o => g o t) n) N = sumI (fun o => sumI (fun t => g o t) N) n
  | 0 => sumI_zero N
  | n + 1 => by
    simp only [sumI]
    rw [sumI_add (fun t => sumI (fun o => g o t) n) (fun t => g n t), sumI_swap g N n]
theorem sumI_mul (c : Int32) (f : Nat → Int32) : ∀ n, c * sumI f n = sumI (fun o => c * f o) n
  | 0 => by simp [sumI]
  | n + 1 => by simp only [sumI]; rw [Int32.mul_add, sumI_mul c f n]
theorem sumI_sub (f g : Nat → Int32) : ∀ n, sumI (fun t => f t - g t) n = sumI f n - sumI g n
  | 0 => by simp [sumI]
  | n + 1 => by
    simp only [sumI, sumI_sub f g n]
    rw [Int32.sub_eq_add_neg, Int32.sub_eq_add_neg, Int32.sub_eq_add_neg, Int32.neg_add, Int32.sub_eq_add_neg]
    rw [Int32.add_assoc, Int32.add_assoc, ← Int32.add_assoc (-sumI g n), Int32.add_comm (-sumI g n) (f n), Int32.add_assoc (f n)]
def sumN (f : Nat → Nat) : Nat → Nat
  | 0 => 0
  | n + 1 => sumN f n + f n
theorem sumN_nI {f : Nat → Int32} {g : Nat → Nat} : ∀ n, (∀ o, o < n → f o = nI (g o)) → sumI f n = nI (sumN g n)
  | 0, _ => rfl
  | n + 1, h => by
    simp only [sumI, sumN]
    rw [sumN_nI n (fun o ho => h o (by omega)), h n (by omega), nI_add]
theorem sumN_le {g : Nat → Nat} {b : Nat} : ∀ n, (∀ o, o < n → g o ≤ b) → sumN g n ≤ n * b
  | 0, _ => by simp [sumN]
  | n + 1, h => by
    have h1 := sumN_le n (fun o ho => h o (by omega))
    have h2 := h n (by omega)
    simp only [sumN]
    rw [Nat.succ_mul]
    omega
theorem sumN_mul {g h : Nat → Nat} {b d : Nat} : ∀ n, (∀ o, o < n → g o * b = h o * d) → sumN g n * b = sumN h n * d
  | 0, _ => by simp [sumN]
  | n + 1, q => by
    simp only [sumN, Nat.add_mul]
    rw [sumN_mul n (fun o ho => q o (by omega)), q n (by omega)]
def shB (m t : Nat) : Int32 := if nI m &&& nI t = 0 then 0 else 1
def shC (na t : Nat) : Int32 := mWays (pcN t) * mWays (na - 1 - pcN t)
def shT (na a m t : Nat) : Int32 := if hbit (nI t) (nI a) then 0 else shC na t * (shB m (t ||| 2 ^ a) - shB m t)
def shS (na a m : Nat) : Nat := if hbit (nI m) (nI a) then mWaysN na / pcN m else 0
def shX (a m : Nat) : Nat := if hbit (nI m) (nI a) then 60 / pcN m else 0
theorem sh_all : ∀ na, na ≤ 5 → ∀ a, a < na → ∀ m, m < 2 ^ na → sumI (shT na a m) (2 ^ na) = nI (shS na a m) ∧ shS na a m * 60 = shX a m * mWaysN na ∧ sSixty (nI m) (nI a) = nI (shX a m) ∧ shS na a m ≤ 120 ∧ shX a m ≤ 60 := by decide +kernel
