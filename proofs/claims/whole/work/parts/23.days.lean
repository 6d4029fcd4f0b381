/-! THE SPECIFICATION, on: days -/
def askL (set : Int) : Nat → List Nat
  | 0 => []
  | s + 1 => askL set s ++ (if bitI set s = 1 then [s] else [])
theorem askL_s (set : Int) (s : Nat) : askL set (s + 1) = askL set s ++ (if bitI set s = 1 then [s] else []) := rfl
/-- the digit of a way's number: the day of the street at place i, of k -/
def dg (k c i : Nat) : Nat := c / 7 ^ (k - 1 - i) % 7
/-- needs on a day of the first i streets -/
def ldD (nd : Nat → Int) (a : Nat → Nat) (d : Nat) : Nat → Int
  | 0 => 0
  | i + 1 => ldD nd a d i + (if a i = d then nd i else 0)
def lkD (ld : Nat → Int) (sum : Int) : Nat → Int
  | 0 => 0
  | d + 1 => lkD ld sum d + (if sum < ld d then ld d - sum else 0)
def msD (ld : Nat → Int) : Nat → Int
  | 0 => 0
  | d + 1 => max (msD ld d) (ld d)
def lkC (nd : Nat → Int) (sum : Int) (k c : Nat) : Int := lkD (fun d => ldD nd (dg k c) d k) sum 7
def msC (nd : Nat → Int) (k c : Nat) : Int := msD (fun d => ldD nd (dg k c) d k) 7
abbrev btr (nd : Nat → Int) (sum : Int) (k c c' : Nat) : Prop := lkC nd sum k c < lkC nd sum k c' ∨ lkC nd sum k c = lkC nd sum k c' ∧ msC nd k c < msC nd k c'
/-- the best of the ways 0 .. j -/
def dsB (nd : Nat → Int) (sum : Int) (k : Nat) : Nat → Nat
  | 0 => 0
  | j + 1 => if btr nd sum k (j + 1) (dsB nd sum k j) then j + 1 else dsB nd sum k j
theorem dsB_s (nd : Nat → Int) (sum : Int) (k j : Nat) : dsB nd sum k (j + 1) = if btr nd sum k (j + 1) (dsB nd sum k j) then j + 1 else dsB nd sum k j := rfl
def ndF (κ : Ks) (set : Int) (i : Nat) : Int := needM κ ((askL set (κ 40 11).toNat).getD i 0)
def kF (κ : Ks) (set : Int) : Nat := (askL set (κ 40 11).toNat).length
def cF (κ : Ks) (set sum : Int) : Nat := dsB (ndF κ set) sum (kF κ set) (7 ^ kF κ set - 1)
abbrev wrongP (κ : Ks) (set sum : Int) : Int := if set < 0 ∨ 2 ^ (κ 40 11).toNat - 1 < set then -1 else if 6 < pc2 32 set then -6 else if sum < 0 then -4 else if 100000 < sum then -6 else 0
def M_days (κ : Ks) (set sum : Int) : Int × Ks := if wrongP κ set sum < 0 then (wrongP κ set sum, rfM κ (-wrongP κ set sum).toNat) else (lkC (ndF κ set) sum (kF κ set) (cF κ set sum), κ)
def posL (l : List Nat) (s : Int) : Nat → Int
  | 0 => -1
  | i + 1 => if posL l s i = -1 ∧ (l.getD i 0 : Int) = s then i else posL l s i
def M_dayOf (κ : Ks) (set sum s : Int) : Int × Ks := if wrongP κ set sum < 0 then (wrongP κ set sum, rfM κ (-wrongP κ set sum).toNat) else if s < 0 ∨ κ 40 11 ≤ s then (-1, rfM κ 1) else (if posL (askL set (κ 40 11).toNat) s (kF κ set) = -1 then -9 else (dg (kF κ set) (cF κ set sum) (posL (askL set (κ 40 11).toNat) s (kF κ set)).toNat : Int), κ)
-- ranges
theorem ndH_R {κ : Ks} (h : MI κ) (s : Int) : ∀ n : Nat, (n : Int) ≤ κ 40 20 → 0 ≤ ndH κ s n ∧ ndH κ s n ≤ 500 * n
  | 0, _ => ⟨by unfold ndH; omega, by unfold ndH; omega⟩
  | n + 1, hn => by
    have a := ndH_R h s n (by omega)
    have b := h.2.2.1 n (by omega)
    unfold ndH
    split <;> omega
theorem need_R {κ : Ks} (h : MI κ) {s : Nat} (hs : (s : Int) < κ 40 11) : 0 ≤ needM κ s ∧ needM κ s ≤ 14000 := by
  have i6 := h.1.2.2.2.2.2.2.1
  have a := ndH_R h s (κ 40 20).toNat (by omega)
  have b := h.2.1 s hs
  unfold needM
  split <;> omega
theorem askL_lt {set : Int} {s : Nat} : ∀ {n : Nat}, s ∈ askL set n → s < n
  | 0, h => by cases h
  | n + 1, h => by
    rw [askL_s] at h
    rcases List.mem_append.mp h with q | q
    · have := askL_lt q
      omega
    · split at q
      · have := List.mem_singleton.mp q
        omega
      · cases q
theorem getD_mem {l : List Nat} {i : Nat} (h : i < l.length) : l.getD i 0 ∈ l := by
  rw [List.getD_eq_getElem?_getD, List.getElem?_eq_getElem h]
  exact List.getElem_mem h
theorem ndF_R {κ : Ks} (h : MI κ) (set : Int) {i : Nat} (hi : i < kF κ set) : 0 ≤ ndF κ set i ∧ ndF κ set i ≤ 14000 := by
  have i5 := h.1.2.2.2.2.2.1
  have := askL_lt (getD_mem hi)
  exact need_R h (by omega)
theorem ldD_R {nd : Nat → Int} {k : Nat} (h : ∀ i, i < k → 0 ≤ nd i ∧ nd i ≤ 14000) (a : Nat → Nat) (d : Nat) : ∀ i : Nat, i ≤ k → 0 ≤ ldD nd a d i ∧ ldD nd a d i ≤ 14000 * i
  | 0, _ => ⟨by unfold ldD; omega, by unfold ldD; omega⟩
  | i + 1, hi => by
    have q := ldD_R h a d i (by omega)
    have r := h i (by omega)
    unfold ldD
    split <;> omega
theorem lkD_R {ld : Nat → Int} {sum b : Int} (h : ∀ d, d < 7 → 0 ≤ ld d ∧ ld d ≤ b) (hs : 0 ≤ sum) (hb : 0 ≤ b) : ∀ d : Nat, d ≤ 7 → 0 ≤ lkD ld sum d ∧ lkD ld sum d ≤ b * d
  | 0, _ => ⟨by unfold lkD; omega, by unfold lkD; simp⟩
  | d + 1, hd => by
    have q := lkD_R h hs hb d (by omega)
    have r := h d (by omega)
    have e : b * ((d + 1 : Nat) : Int) = b * d + b := by rw [Int.natCast_add, Int.mul_add]; simp
    unfold lkD
    rw [e]
    split <;> omega
theorem msD_R {ld : Nat → Int} {b : Int} (h : ∀ d, d < 7 → 0 ≤ ld d ∧ ld d ≤ b) (hb : 0 ≤ b) : ∀ d : Nat, d ≤ 7 → 0 ≤ msD ld d ∧ msD ld d ≤ b
  | 0, _ => ⟨by unfold msD; omega, by unfold msD; omega⟩
  | d + 1, hd => by
    have q := msD_R h hb d (by omega)
    have r := h d (by omega)
    unfold msD
    omega
theorem dg_lt (k c i : Nat) : dg k c i < 7 := Nat.mod_lt _ (by decide)
theorem ldD_congr {nd nd' : Nat → Int} {a a' : Nat → Nat} (d : Nat) : ∀ i : Nat, (∀ j, j < i → nd j = nd' j ∧ a j = a' j) → ldD nd a d i = ldD nd' a' d i
  | 0, _ => rfl
  | i + 1, h => by
    unfold ldD
    rw [ldD_congr d i (fun j hj => h j (by omega)), (h i (by omega)).1, (h i (by omega)).2]
theorem lkD_congr {ld ld' : Nat → Int} {sum : Int} : ∀ d : Nat, (∀ j, j < d → ld j = ld' j) → lkD ld sum d = lkD ld' sum d
  | 0, _ => rfl
  | d + 1, h => by
    unfold lkD
    rw [lkD_congr d (fun j hj => h j (by omega)), h d (by omega)]
theorem msD_congr {ld ld' : Nat → Int} : ∀ d : Nat, (∀ j, j < d → ld j = ld' j) → msD ld d = msD ld' d
  | 0, _ => rfl
  | d + 1, h => by
    unfold msD
    rw [msD_congr d (fun j hj => h j (by omega)), h d (by omega)]
-- the length of the set's list
theorem pc2_ask : ∀ (n : Nat) (set : Int), 0 ≤ set → ((askL set n).length : Int) + pc2 (32 - n) (set / 2 ^ n) = pc2 32 set ∨ 32 < n
  | 0, set, _ => by
    left
    show ((0 : Nat) : Int) + pc2 32 (set / 2 ^ 0) = _
    simp
  | n + 1, set, h => by
    by_cases hn : 32 < n + 1
    · exact Or.inr hn
    · left
      rcases pc2_ask n set h with q | q
      · rw [askL_s, ← q, show 32 - n = (32 - (n + 1)) + 1 by omega, pc2_s]
        have e : set / 2 ^ n / 2 = set / 2 ^ (n + 1) := by rw [Int.ediv_ediv_of_nonneg (Int.le_of_lt (Int.pow_pos (by decide))), ← Int.pow_succ]
        rw [e]
        have b := bitI_01 set n
        unfold bitI at b ⊢
        split
        · rename_i c
          rw [List.length_append, c]
          simp
          omega
        · rename_i c
          rw [List.append_nil, show set / 2 ^ n % 2 = 0 by omega]
          omega
      · omega
theorem kF_le {κ : Ks} (h : MI κ) {set : Int} (h0 : 0 ≤ set) (n : Nat) (hn : n ≤ 10) : ((askL set n).length : Int) ≤ pc2 32 set := by
  rcases pc2_ask n set h0 with q | q
  · have := pc2_R (32 - n) (set / 2 ^ n)
    omega
  · omega
-- digits
theorem low6 (c : Nat) : ∀ m : Nat, (∀ e, e < m → c / 7 ^ e % 7 = 6) → c % 7 ^ m = 7 ^ m - 1
  | 0, _ => by simp [Nat.mod_one]
  | m + 1, h => by
    have q := low6 c m (fun e he => h e (by omega))
    have r := h m (by omega)
    have p : 0 < 7 ^ m := Nat.pow_pos (by decide)
    rw [Nat.pow_succ, Nat.mod_mul, q, r]
    omega
theorem div_pow (c a b : Nat) : c / 7 ^ (a + b) = c / 7 ^ a / 7 ^ b := by rw [Nat.pow_add, Nat.div_div_eq_div_mul]
theorem inc_lo {c m e : Nat} (h : c % 7 ^ m = 7 ^ m - 1) (he : e < m) : (c + 1) / 7 ^ e % 7 = 0 := by
  have p : 0 < 7 ^ m := Nat.pow_pos (by decide)
  have d := Nat.div_add_mod c (7 ^ m)
  have e1 : c + 1 = 7 ^ m * (c / 7 ^ m + 1) := by rw [Nat.mul_add]; omega
  rw [e1, show m = e + ((m - e - 1) + 1) by omega, Nat.pow_add, Nat.pow_succ, Nat.mul_assoc (7 ^ e), Nat.mul_div_cancel_left _ (Nat.pow_pos (by decide)), Nat.mul_comm (7 ^ (m - e - 1)) 7, Nat.mul_assoc, Nat.mul_mod_right]
theorem inc_mid {c m : Nat} (h : c % 7 ^ m = 7 ^ m - 1) : (c + 1) / 7 ^ m = c / 7 ^ m + 1 := by
  have p : 0 < 7 ^ m := Nat.pow_pos (by decide)
  have d := Nat.div_add_mod c (7 ^ m)
  have e1 : c + 1 = 7 ^ m * (c / 7 ^ m + 1) := by rw [Nat.mul_add]; omega
  have : (c + 1) / 7 ^ m = 7 ^ m * (c / 7 ^ m + 1) / 7 ^ m := by rw [← e1]
  rw [this, Nat.mul_div_cancel_left _ p]
theorem inc_hi {c m e : Nat} (h : c % 7 ^ m = 7 ^ m - 1) (h6 : c / 7 ^ m % 7 < 6) (he : m < e) : (c + 1) / 7 ^ e = c / 7 ^ e := by
  rw [show e = m + (1 + (e - m - 1)) by omega, div_pow, div_pow c, inc_mid h, div_pow, div_pow (c / 7 ^ m)]
  congr 1
  rw [Nat.pow_one]
  omega
theorem dg_inc {k c i : Nat} (hi : i < k) (h : ∀ j, i < j → j < k → dg k c j = 6) (h6 : dg k c i < 6) : ∀ j, j < k → dg k (c + 1) j = if j < i then dg k c j else if j = i then dg k c i + 1 else 0 := by
  have low : c % 7 ^ (k - 1 - i) = 7 ^ (k - 1 - i) - 1 := low6 c _ (fun e he => by
    have := h (k - 1 - e) (by omega) (by omega)
    unfold dg at this
    rwa [show k - 1 - (k - 1 - e) = e by omega] at this)
  intro j hj
  unfold dg at h6 ⊢
  split
  · rename_i c1
    rw [inc_hi low h6 (by omega)]
  · split
    · rename_i c2
      subst c2
      rw [inc_mid low]
      omega
    · exact inc_lo low (by omega)
theorem dg_top {k c : Nat} (hc : c < 7 ^ k) (h : ∀ j, j < k → dg k c j = 6) : c = 7 ^ k - 1 := by
  have low : c % 7 ^ k = 7 ^ k - 1 := low6 c k (fun e he => by
    have := h (k - 1 - e) (by omega)
    unfold dg at this
    rwa [show k - 1 - (k - 1 - e) = e by omega] at this)
  rw [Nat.mod_eq_of_lt hc] at low
  exact low
theorem dg_zero (k i : Nat) : dg k 0 i = 0 := by
  unfold dg
  simp
theorem inc_lt {k c i : Nat} (hi : i < k) (hc : c < 7 ^ k) (h6 : dg k c i < 6) : c + 1 < 7 ^ k := by
  rcases Nat.lt_or_ge (c + 1) (7 ^ k) with q | q
  · exact q
  · exfalso
    have e : c = 7 ^ k - 1 := by omega
    have p : 0 < 7 ^ (k - 1 - i) := Nat.pow_pos (by decide)
    have e7 : 7 ^ k = 7 ^ (k - 1 - i) * 7 ^ (i + 1) := by rw [← Nat.pow_add]; congr 1; omega
    have e8 : 7 ^ (i + 1) = 7 ^ i * 7 := Nat.pow_succ _ _
    have p2 : 0 < 7 ^ i := Nat.pow_pos (by decide)
    unfold dg at h6
    have d1 : c / 7 ^ (k - 1 - i) = 7 ^ (i + 1) - 1 := by
      rw [e, e7]
      apply Nat.div_eq_of_lt_le
      · rw [Nat.sub_mul, Nat.one_mul, Nat.mul_comm]
        omega
      · rw [Nat.sub_add_cancel (by omega), Nat.mul_comm (7 ^ (i + 1))]
        have : 0 < 7 ^ (k - 1 - i) * 7 ^ (i + 1) := Nat.mul_pos p (by omega)
        omega
    rw [d1] at h6
    omega
/-- what the ways' loop of findDays keeps -/
def DK (κ κ2 : Ks) (k : Nat) (nd as : Nat → Int) : Prop := MI κ2 ∧ scr κ κ2 ∧ κ2 40 54 = k ∧ ∀ i, i < k → κ2 94 i = nd i ∧ κ2 93 i = as i
theorem DK.s {κ κ2 : Ks} {k : Nat} {nd as : Nat → Int} (h : DK κ κ2 k nd as) {t j : Nat} {v : Int} (ht : t = 96 ∨ t = 97 ∨ t = 98) : DK κ (st2 κ2 t j v) k nd as := ⟨h.1.scr (scr.sT κ2 (by omega)), h.2.1.tr (scr.sT κ2 (by omega)), rd_t (by omega) h.2.2.1, fun i hi => ⟨rd_t (by omega) (h.2.2.2 i hi).1, rd_t (by omega) (h.2.2.2 i hi).2⟩⟩
