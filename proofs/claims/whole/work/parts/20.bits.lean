/-! PURE: bits, fire, iron -/
theorem ofI_nI (n : Nat) : Int32.ofInt (n : Int) = nI n := Int32.ofInt_eq_ofNat
theorem sh31 : ∀ s : Nat, s < 32 → ((nI s &&& 31).toBitVec.smod 32).toNat = s := by decide
theorem bShr_v {x s : Nat} (hx : x < 2 ^ 31) (hs : s < 32) : bShr (x : Int) (s : Int) = ((x / 2 ^ s : Nat) : Int) := by
  unfold bShr
  rw [ofI_nI, ofI_nI, pk_shrN hx _ s (sh31 s hs), nI_toInt (Nat.lt_of_le_of_lt (Nat.div_le_self _ _) hx)]
theorem bAnd1_v {x : Nat} (hx : x < 2 ^ 31) : bAnd (x : Int) 1 = ((x % 2 : Nat) : Int) := by
  unfold bAnd
  have h1 : Int32.ofInt 1 = 1 := rfl
  rw [ofI_nI, h1, pk_andN (by omega) 1 (by decide), nI_toInt (by omega)]
theorem bit_v {x s : Nat} (hx : x < 2 ^ 31) (hs : s < 32) : bAnd (bShr (x : Int) (s : Int)) 1 = ((x / 2 ^ s % 2 : Nat) : Int) := by
  rw [bShr_v hx hs, bAnd1_v (Nat.lt_of_le_of_lt (Nat.div_le_self _ _) hx)]
theorem bShl1_v : ∀ s : Nat, s < 31 → bShl 1 (s : Int) = ((2 ^ s : Nat) : Int) := by decide
/-- bits by Ints that are not below 0 -/
def bitI (x : Int) (s : Nat) : Int := x / 2 ^ s % 2
theorem bit_I {x s : Int} (hx : 0 ≤ x ∧ x < 2147483648) (hs : 0 ≤ s ∧ s < 32) : bAnd (bShr x s) 1 = bitI x s.toNat := by
  obtain ⟨n, rfl⟩ := Int.eq_ofNat_of_zero_le hx.1
  obtain ⟨k, rfl⟩ := Int.eq_ofNat_of_zero_le hs.1
  have := bit_v (x := n) (s := k) (by omega) (by omega)
  unfold bitI
  rw [this]
  norm_cast
theorem pow_I {s : Int} (hs : 0 ≤ s ∧ s < 31) : bShl 1 s = 2 ^ s.toNat := by
  obtain ⟨k, rfl⟩ := Int.eq_ofNat_of_zero_le hs.1
  have := bShl1_v k (by omega)
  rw [this]
  norm_cast
theorem bitI_01 (x : Int) (s : Nat) : bitI x s = 0 ∨ bitI x s = 1 := by
  unfold bitI
  omega
def pc2 : Nat → Int → Int
  | 0, _ => 0
  | f + 1, b => b % 2 + pc2 f (b / 2)
theorem pc2_R : ∀ (f : Nat) (b : Int), 0 ≤ pc2 f b ∧ pc2 f b ≤ f
  | 0, _ => ⟨by unfold pc2; omega, by unfold pc2; omega⟩
  | f + 1, b => by
    have := pc2_R f (b / 2)
    unfold pc2
    omega
theorem pc2_0 : ∀ f : Nat, pc2 f 0 = 0
  | 0 => rfl
  | f + 1 => by
    unfold pc2
    rw [show (0 : Int) / 2 = 0 by decide, pc2_0 f]
    rfl
theorem pc2_s (f : Nat) (b : Int) : pc2 (f + 1) b = b % 2 + pc2 f (b / 2) := rfl
theorem pc2_fuel : ∀ (f g : Nat) (b : Int), 0 ≤ b → b < 2 ^ f → b < 2 ^ g → pc2 f b = pc2 g b
  | 0, g, b, h0, h1, h2 => by
    have : b = 0 := by simp at h1; omega
    rw [this, pc2_0, pc2_0]
  | f + 1, 0, b, h0, h1, h2 => by
    have : b = 0 := by simp at h2; omega
    rw [this, pc2_0, pc2_0]
  | f + 1, g + 1, b, h0, h1, h2 => by
    rw [pc2_s, pc2_s, pc2_fuel f g (b / 2) (by omega) (by rw [Int.pow_succ] at h1; omega) (by rw [Int.pow_succ] at h2; omega)]
