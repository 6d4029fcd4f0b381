/-! PURE: sets of streets and their sums -/
def sumB (f : Nat → Int) (set : Int) : Nat → Int
  | 0 => 0
  | s + 1 => sumB f set s + (if bitI set s = 1 then f s else 0)
theorem sumB_s (f : Nat → Int) (set : Int) (s : Nat) : sumB f set (s + 1) = sumB f set s + (if bitI set s = 1 then f s else 0) := rfl
theorem sumB_R {f : Nat → Int} {b : Int} {n : Nat} (hf : ∀ s, s < n → 0 ≤ f s ∧ f s ≤ b) (hb : 0 ≤ b) (set : Int) : ∀ m : Nat, m ≤ n → 0 ≤ sumB f set m ∧ sumB f set m ≤ b * m
  | 0, _ => ⟨by unfold sumB; omega, by unfold sumB; simp⟩
  | m + 1, h => by
    have q := sumB_R hf hb set m (by omega)
    have r := hf m (by omega)
    have e : b * ((m + 1 : Nat) : Int) = b * m + b := by rw [Int.natCast_add, Int.mul_add]; simp
    rw [sumB_s, e]
    split <;> omega
theorem sumB_0 (f : Nat → Int) : ∀ m : Nat, sumB f 0 m = 0
  | 0 => rfl
  | m + 1 => by
    rw [sumB_s, sumB_0 f m, bit_0, if_neg (by omega)]
    rfl
theorem sumB_pow (f : Nat → Int) {q : Nat} : ∀ m : Nat, sumB f (2 ^ q) m = if q < m then f q else 0
  | 0 => by
    rw [if_neg (by omega)]
    rfl
  | m + 1 => by
    rw [sumB_s, sumB_pow f m, bit_pow]
    by_cases e : m = q
    · subst e
      rw [if_neg (Nat.lt_irrefl m), if_pos (show m < m + 1 by omega)]
      simp
    · have e2 : (if (if m = q then (1 : Int) else 0) = 1 then f m else 0) = 0 := by rw [if_neg e]; rfl
      rw [e2]
      by_cases g : q < m
      · rw [if_pos g, if_pos (show q < m + 1 by omega)]
        omega
      · rw [if_neg g, if_neg (show ¬ q < m + 1 by omega)]
        omega
theorem sumB_cut {f : Nat → Int} {t t' : Int} {q n : Nat} (hq : bitI t q = 1) (h0 : bitI t' q = 0) (he : ∀ u, u < n → u ≠ q → bitI t' u = bitI t u) : ∀ m : Nat, m ≤ n → sumB f t m = sumB f t' m + (if q < m then f q else 0)
  | 0, _ => by
    rw [if_neg (by omega)]
    rfl
  | m + 1, hm => by
    rw [sumB_s, sumB_s, sumB_cut hq h0 he m (by omega)]
    by_cases e : m = q
    · subst e
      rw [hq, h0, if_neg (Nat.lt_irrefl m), if_pos rfl, if_neg (show ¬ (0 : Int) = 1 by decide), if_pos (show m < m + 1 by omega)]
    · rw [he m (by omega) e]
      by_cases g : q < m
      · rw [if_pos g, if_pos (show q < m + 1 by omega)]
        omega
      · rw [if_neg g, if_neg (show ¬ q < m + 1 by omega)]
        omega
def lowB (t : Nat) : Nat := ((List.range 10).filter (fun s => t / 2 ^ s % 2 = 1)).headD 0
theorem low_n : ∀ t : Nat, t < 1024 → 0 < t → bAnd (t : Int) (-(t : Int)) = 2 ^ lowB t ∧ lowB t < 10 ∧ t / 2 ^ lowB t % 2 = 1 := by decide +kernel
theorem sub_n : ∀ t : Nat, t < 1024 → ∀ s : Nat, s < 10 → t / 2 ^ s % 2 = 1 → 2 ^ s ≤ t ∧ ∀ u : Nat, u < 10 → (t - 2 ^ s) / 2 ^ u % 2 = if u = s then 0 else t / 2 ^ u % 2 := by decide +kernel
theorem bitI_n (t s : Nat) : bitI (t : Int) s = ((t / 2 ^ s % 2 : Nat) : Int) := by
  unfold bitI
  norm_cast
theorem low_I {t : Int} (h : 0 < t ∧ t < 1024) : ∃ q : Nat, q < 10 ∧ bAnd t (-t) = 2 ^ q ∧ bitI t q = 1 ∧ (2 ^ q : Int) ≤ t ∧ bitI (t - 2 ^ q) q = 0 ∧ ∀ u, u < 10 → u ≠ q → bitI (t - 2 ^ q) u = bitI t u := by
  obtain ⟨n, rfl⟩ := Int.eq_ofNat_of_zero_le (by omega : 0 ≤ t)
  have a := low_n n (by omega) (by omega)
  have b := sub_n n (by omega) (lowB n) a.2.1 a.2.2
  have e : ((n : Int) - 2 ^ lowB n) = ((n - 2 ^ lowB n : Nat) : Int) := by
    rw [Int.ofNat_sub b.1]
    norm_cast
  refine ⟨lowB n, a.2.1, a.1, by rw [bitI_n, a.2.2]; rfl, by have := b.1; exact_mod_cast this, ?_, fun u hu hne => ?_⟩
  · rw [e, bitI_n, b.2 _ a.2.1, if_pos rfl]
    rfl
  · rw [e, bitI_n, b.2 u hu, if_neg hne, bitI_n]
/-- the best of the sets 1 .. k: worth, set -/
def bstG (cs ws : Nat → Int) (n : Nat) (sum : Int) : Nat → Int × Int
  | 0 => (0, 0)
  | k + 1 => if sumB cs ((k : Int) + 1) n ≤ sum ∧ ((bstG cs ws n sum k).1 < sumB ws ((k : Int) + 1) n ∨ sumB ws ((k : Int) + 1) n = (bstG cs ws n sum k).1 ∧ pc2 32 ((k : Int) + 1) < pc2 32 (bstG cs ws n sum k).2) then (sumB ws ((k : Int) + 1) n, (k : Int) + 1) else bstG cs ws n sum k
theorem bstG_s (cs ws : Nat → Int) (n : Nat) (sum : Int) (k : Nat) : bstG cs ws n sum (k + 1) = if sumB cs ((k : Int) + 1) n ≤ sum ∧ ((bstG cs ws n sum k).1 < sumB ws ((k : Int) + 1) n ∨ sumB ws ((k : Int) + 1) n = (bstG cs ws n sum k).1 ∧ pc2 32 ((k : Int) + 1) < pc2 32 (bstG cs ws n sum k).2) then (sumB ws ((k : Int) + 1) n, (k : Int) + 1) else bstG cs ws n sum k := rfl
theorem bstG_R (cs ws : Nat → Int) (n : Nat) (sum : Int) : ∀ k : Nat, (0 ≤ (bstG cs ws n sum k).2 ∧ (bstG cs ws n sum k).2 ≤ k) ∧ (bstG cs ws n sum k).1 = sumB ws (bstG cs ws n sum k).2 n
  | 0 => ⟨by show 0 ≤ (0 : Int) ∧ (0 : Int) ≤ ((0 : Nat) : Int); omega, (sumB_0 ws n).symm⟩
  | k + 1 => by
    have q := bstG_R cs ws n sum k
    rw [bstG_s]
    split
    · exact ⟨by show 0 ≤ (k : Int) + 1 ∧ (k : Int) + 1 ≤ ((k + 1 : Nat) : Int); omega, rfl⟩
    · exact ⟨by omega, q.2⟩
theorem pwN (s : Nat) : ((2 : Int) ^ s).toNat = 2 ^ s := by
  rw [show ((2 : Int) ^ s) = ((2 ^ s : Nat) : Int) by norm_cast]
  rfl
theorem pw_le {s n : Nat} (h : s ≤ n) : (2 : Int) ^ s ≤ 2 ^ n := by
  have := Nat.pow_le_pow_right (n := 2) (by decide) h
  exact_mod_cast this
theorem pw_lt {s n : Nat} (h : (2 : Int) ^ s < 2 ^ n) : s < n := by
  rcases Nat.lt_or_ge s n with q | q
  · exact q
  · have := pw_le q
    omega
