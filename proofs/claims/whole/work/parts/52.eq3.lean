/-! both sides answer alike: ways -/
theorem or10r : ∀ n, n < 10 → ∀ a, a < 32 → ∀ b, b < 32 → nI (32 * a + b) ||| ((1 : Int32) <<< (nI n &&& 31)) = nI ((32 * a + b) ||| 2 ^ n) ∧ (32 * a + b) ||| 2 ^ n < 1024 := by decide +kernel
theorem or10 {n X : Nat} (hn : n < 10) (hX : X < 1024) : nI X ||| ((1 : Int32) <<< (nI n &&& 31)) = nI (X ||| 2 ^ n) ∧ X ||| 2 ^ n < 1024 := by
  have := or10r n hn (X / 32) (by omega) (X % 32) (Nat.mod_lt _ (by decide))
  rwa [Nat.div_add_mod] at this
theorem hb10r : ∀ n, n < 10 → ∀ a, a < 32 → ∀ b, b < 32 → hbit (nI (32 * a + b)) (nI n) = (32 * a + b).testBit n := by decide +kernel
theorem hb10 {n X : Nat} (hn : n < 10) (hX : X < 1024) : hbit (nI X) (nI n) = X.testBit n := by
  have := hb10r n hn (X / 32) (by omega) (X % 32) (Nat.mod_lt _ (by decide))
  rwa [Nat.div_add_mod] at this
theorem cp10r : ∀ a, a < 32 → ∀ b, b < 32 → (nI (32 * a + b) ^^^ (-1)) &&& 1023 = orBits (fun s => !(32 * a + b).testBit s) 10 := by decide +kernel
theorem cp10 {X : Nat} (hX : X < 1024) : (nI X ^^^ (-1)) &&& 1023 = orBits (fun s => !X.testBit s) 10 := by
  have := cp10r (X / 32) (by omega) (X % 32) (Nat.mod_lt _ (by decide))
  rwa [Nat.div_add_mod] at this
theorem one10 : ∀ q, q < 10 → (1 : Int32) <<< (nI q &&& 31) = nI (2 ^ q) ∧ 2 ^ q < 1024 := by decide +kernel
