/-! BITS, on: of any ints; sets of streets as decreasing lists -/
theorem bv_bit (z : Int32) {s : Nat} (hs : s < 32) : bitI z.toInt s = if z.toBitVec.getLsbD s then 1 else 0 := by
  unfold bitI
  rw [← Int32.toInt_toBitVec, BitVec.toInt_eq_toNat_cond, BitVec.getLsbD, Nat.testBit_eq_decide_div_mod_eq]
  have e : ((z.toBitVec.toNat : Int) / 2 ^ s) = ((z.toBitVec.toNat / 2 ^ s : Nat) : Int) := by norm_cast
  split
  · rw [e]
    split
    · rename_i c
      have := of_decide_eq_true c
      omega
    · rename_i c
      have : ¬ z.toBitVec.toNat / 2 ^ s % 2 = 1 := fun q => c (decide_eq_true q)
      omega
  · have e2 : ((2 ^ 32 : Nat) : Int) = 2 ^ s * (2 ^ (31 - s) * 2) := by
      rw [← Int.pow_succ, ← Int.pow_add, show s + (31 - s + 1) = 32 by omega]
      rfl
    rw [e2, Int.sub_eq_add_neg, ← Int.mul_neg, Int.add_mul_ediv_left _ _ (Int.ne_of_gt (Int.pow_pos (by decide))), e, ← Int.neg_mul]
    split
    · rename_i c
      have := of_decide_eq_true c
      omega
    · rename_i c
      have : ¬ z.toBitVec.toNat / 2 ^ s % 2 = 1 := fun q => c (decide_eq_true q)
      omega
theorem bv_of {x : Int} (h : inR x) {s : Nat} (hs : s < 32) : (Int32.ofInt x).toBitVec.getLsbD s = decide (bitI x s = 1) := by
  have := bv_bit (Int32.ofInt x) hs
  rw [inR_toInt h] at this
  rw [this]
  cases (Int32.ofInt x).toBitVec.getLsbD s <;> rfl
theorem bitAnd {x y : Int} (hx : inR x) (hy : inR y) {s : Nat} (hs : s < 32) : bitI (bAnd x y) s = if bitI x s = 1 ∧ bitI y s = 1 then 1 else 0 := by
  unfold bAnd
  rw [bv_bit _ hs, Int32.toBitVec_and, BitVec.getLsbD_and, bv_of hx hs, bv_of hy hs]
  by_cases a : bitI x s = 1 <;> by_cases b : bitI y s = 1 <;> simp [a, b]
theorem bitOr {x y : Int} (hx : inR x) (hy : inR y) {s : Nat} (hs : s < 32) : bitI (bOr x y) s = if bitI x s = 1 ∨ bitI y s = 1 then 1 else 0 := by
  unfold bOr
  rw [bv_bit _ hs, Int32.toBitVec_or, BitVec.getLsbD_or, bv_of hx hs, bv_of hy hs]
  by_cases a : bitI x s = 1 <;> by_cases b : bitI y s = 1 <;> simp [a, b]
theorem bitXor {x y : Int} (hx : inR x) (hy : inR y) {s : Nat} (hs : s < 32) : bitI (bXor x y) s = if (bitI x s = 1) = (bitI y s = 1) then 0 else 1 := by
  unfold bXor
  rw [bv_bit _ hs, Int32.toBitVec_xor, BitVec.getLsbD_xor, bv_of hx hs, bv_of hy hs]
  by_cases a : bitI x s = 1 <;> by_cases b : bitI y s = 1 <;> simp [a, b]
theorem bit_m1 (s : Nat) : bitI (-1) s = 1 := by
  unfold bitI
  have p : (0 : Int) < 2 ^ s := Int.pow_pos (by decide)
  have : (-1 : Int) / 2 ^ s = -1 := by
    apply Int.le_antisymm
    · exact Int.lt_add_one_iff.mp (Int.ediv_lt_of_lt_mul p (by omega))
    · exact (Int.le_ediv_iff_mul_le p).mpr (by omega)
  rw [this]
  rfl
theorem bit_pow {k s : Nat} : bitI (2 ^ k) s = if s = k then 1 else 0 := by
  unfold bitI
  have e : ((2 : Int) ^ k / 2 ^ s) = ((2 ^ k / 2 ^ s : Nat) : Int) := by norm_cast
  rw [e]
  have t := Nat.testBit_eq_decide_div_mod_eq (i := s) (x := 2 ^ k)
  rw [Nat.testBit_two_pow] at t
  have t2 := decide_eq_decide.mp t
  split
  · have := t2.mp (by omega)
    omega
  · have : ¬ (2 ^ k / 2 ^ s % 2 = 1) := fun q => by have := t2.mpr q; omega
    omega
theorem bit_lt {x : Int} {k : Nat} (h0 : 0 ≤ x) (h1 : x < 2 ^ (k + 1)) (hb : bitI x k = 0) : x < 2 ^ k := by
  unfold bitI at hb
  rw [Int.pow_succ] at h1
  have p : (0 : Int) < 2 ^ k := Int.pow_pos (by decide)
  have d0 : 0 ≤ x / 2 ^ k := Int.ediv_nonneg h0 (by omega)
  have d1 : x / 2 ^ k < 2 := Int.ediv_lt_of_lt_mul p (by omega)
  have d2 : x / 2 ^ k = 0 := by omega
  have := Int.emod_lt_of_pos x p
  have e := Int.mul_ediv_add_emod x (2 ^ k)
  rw [d2] at e
  omega
theorem bit_ub {x : Int} (h0 : 0 ≤ x) (m : Nat) : ∀ j : Nat, x < 2 ^ (m + j) → (∀ s, m ≤ s → s < m + j → bitI x s = 0) → x < 2 ^ m
  | 0, h, _ => h
  | j + 1, h, hb => bit_ub h0 m j (bit_lt h0 h (hb (m + j) (by omega) (by omega))) (fun s h1 h2 => hb s h1 (by omega))
theorem bit_nn {x : Int} (hx : inR x) (h : bitI x 31 = 0) : 0 ≤ x := by
  unfold bitI at h
  unfold inR at hx
  omega
theorem bit_rng {x : Int} (hx : inR x) (m : Nat) (hm : m ≤ 31) (h : ∀ s, m ≤ s → s < 32 → bitI x s = 0) : 0 ≤ x ∧ x < 2 ^ m := by
  have n := bit_nn hx (h 31 hm (by omega))
  refine ⟨n, bit_ub n m (31 - m) ?_ (fun s h1 h2 => h s h1 (by omega))⟩
  rw [show m + (31 - m) = 31 by omega]
  exact hx.2
theorem bit_hi {x : Int} (h0 : 0 ≤ x) {m s : Nat} (h1 : x < 2 ^ m) (hs : m ≤ s) : bitI x s = 0 := by
  unfold bitI
  have p : (2 : Int) ^ m ≤ 2 ^ s := by
    have := Nat.pow_le_pow_right (n := 2) (by decide) hs
    exact_mod_cast this
  rw [Int.ediv_eq_zero_of_lt h0 (by omega)]
  rfl
theorem bit_0 (s : Nat) : bitI 0 s = 0 := by
  unfold bitI
  simp
theorem inR_1024 {x : Int} (h : 0 ≤ x ∧ x < 1024) : inR x := by
  unfold inR
  omega
/-- one street more -/
theorem or_pow {x : Int} (hx : 0 ≤ x ∧ x < 1024) {k : Nat} (hk : k < 10) : (0 ≤ bOr x (2 ^ k) ∧ bOr x (2 ^ k) < 1024) ∧ ∀ s, s < 10 → bitI (bOr x (2 ^ k)) s = if s = k then 1 else bitI x s := by
  have rk : inR (2 ^ k) := by
    have p : (0 : Int) < 2 ^ k := Int.pow_pos (by decide)
    have : (2 : Int) ^ k ≤ 2 ^ 10 := by
      have := Nat.pow_le_pow_right (n := 2) (by decide) (show k ≤ 10 by omega)
      exact_mod_cast this
    unfold inR
    omega
  have rx := inR_1024 hx
  refine ⟨bit_rng (x := bOr x (2 ^ k)) (toInt_inR _) 10 (by decide) (fun s h1 h2 => ?_), fun s hs => ?_⟩
  · rw [bitOr rx rk h2, bit_pow, bit_hi hx.1 (m := 10) (by omega) h1, if_neg (show ¬ s = k by omega)]
    rfl
  · rw [bitOr rx rk (by omega), bit_pow]
    have := bitI_01 x s
    by_cases e : s = k
    · rw [if_pos e, if_pos (Or.inr rfl), if_pos e]
    · rw [if_neg e, if_neg e]
      split <;> omega
/-- without those of another set -/
theorem and_not {x y : Int} (hx : 0 ≤ x ∧ x < 1024) (hy : 0 ≤ y ∧ y < 1024) : (0 ≤ bAnd x (bXor y (-1)) ∧ bAnd x (bXor y (-1)) < 1024) ∧ ∀ s, s < 10 → bitI (bAnd x (bXor y (-1))) s = if bitI x s = 1 ∧ bitI y s = 0 then 1 else 0 := by
  have rx := inR_1024 hx
  have ry := inR_1024 hy
  have r1 : inR (-1) := by unfold inR; omega
  have rz : inR (bXor y (-1)) := toInt_inR _
  refine ⟨bit_rng (x := bAnd x (bXor y (-1))) (toInt_inR _) 10 (by decide) (fun s h1 h2 => ?_), fun s hs => ?_⟩
  · rw [bitAnd rx rz h2, bit_hi hx.1 (m := 10) (by omega) h1, if_neg (by omega)]
  · rw [bitAnd rx rz (by omega), bitXor ry r1 (by omega), bit_m1]
    rcases bitI_01 y s with e | e <;> rw [e] <;> simp
theorem ush_n : ∀ n : Nat, n < 1024 → bUshr n 16 = n / 65536 ∧ bUshr n 8 = n / 256 ∧ bUshr n 4 = n / 16 ∧ bUshr n 2 = n / 4 ∧ bUshr n 1 = n / 2 := by decide +kernel
theorem ush_I {x : Int} (h : 0 ≤ x ∧ x < 1024) : bUshr x 16 = x / 65536 ∧ bUshr x 8 = x / 256 ∧ bUshr x 4 = x / 16 ∧ bUshr x 2 = x / 4 ∧ bUshr x 1 = x / 2 := by
  obtain ⟨n, rfl⟩ := Int.eq_ofNat_of_zero_le h.1
  exact ush_n n (by omega)
theorem tz_n : ∀ n : Nat, n < 1024 → ∀ t : Nat, t < 10 → n / 2 ^ t % 2 = 1 → n % 2 ^ t = 0 → bAnd (bXor (n : Int) (-1)) ((n : Int) - 1) = 2 ^ t - 1 := by decide +kernel
theorem low_0 {x : Int} (h0 : 0 ≤ x) : ∀ t : Nat, (∀ s, s < t → bitI x s = 0) → x % 2 ^ t = 0
  | 0, _ => by simp [Int.emod_one]
  | t + 1, h => by
    have a := low_0 h0 t (fun s hs => h s (by omega))
    have b := h t (by omega)
    unfold bitI at b
    have e := Int.mul_ediv_add_emod x (2 ^ t)
    rw [a] at e
    have e2 : x / 2 ^ t = 2 * (x / 2 ^ t / 2) := by omega
    rw [e2] at e
    have : x = 2 ^ (t + 1) * (x / 2 ^ t / 2) := by rw [Int.pow_succ, Int.mul_assoc]; omega
    rw [this]
    exact Int.mul_emod_right _ _
theorem tz_I {x : Int} (h : 0 ≤ x ∧ x < 1024) {t : Nat} (ht : t < 10) (h1 : bitI x t = 1) (h2 : ∀ s, s < t → bitI x s = 0) : bAnd (bXor x (-1)) (x - 1) = 2 ^ t - 1 := by
  have h3 := low_0 h.1 t h2
  unfold bitI at h1
  obtain ⟨n, rfl⟩ := Int.eq_ofNat_of_zero_le h.1
  exact tz_n n (by omega) t ht (by have e : ((n : Int) / 2 ^ t) = ((n / 2 ^ t : Nat) : Int) := by norm_cast
                                   rw [e] at h1; omega) (by have e : ((n : Int) % 2 ^ t) = ((n % 2 ^ t : Nat) : Int) := by norm_cast
                                                            rw [e] at h3; omega)
theorem hi_I {x : Int} (h : 0 ≤ x ∧ x < 1024) {t : Nat} (ht : t < 10) (h1 : bitI x t = 1) (h2 : ∀ s, t < s → s < 10 → bitI x s = 0) : 2 ^ t ≤ x ∧ x < 2 * 2 ^ t := by
  have u := bit_ub h.1 (t + 1) (9 - t) (by rw [show t + 1 + (9 - t) = 10 by omega]; exact h.2) (fun s a b => h2 s (by omega) (by omega))
  rw [Int.pow_succ] at u
  refine ⟨?_, by omega⟩
  refine Int.not_lt.mp (fun c => ?_)
  have := bit_hi h.1 c (Nat.le_refl t)
  omega
/-- decreasing lists of streets below n, and the sets that they are -/
def decL : Int → List Int → Prop
  | _, [] => True
  | n, x :: l => (0 ≤ x ∧ x < n) ∧ decL x l
theorem decL_mono : ∀ (l : List Int) {n m : Int}, decL n l → n ≤ m → decL m l
  | [], _, _, _, _ => trivial
  | _ :: _, _, _, h, hm => ⟨⟨h.1.1, by have := h.1.2; omega⟩, h.2⟩
theorem decL_mem : ∀ (l : List Int) {n y : Int}, decL n l → y ∈ l → 0 ≤ y ∧ y < n
  | [], _, _, _, hy => by cases hy
  | x :: l, n, y, h, hy => by
    rcases List.mem_cons.mp hy with e | e
    · rw [e]; exact h.1
    · have := decL_mem l h.2 e
      have := h.1.2
      omega
def isSet (A : Int) (l : List Int) : Prop := (0 ≤ A ∧ A < 1024) ∧ ∀ s : Nat, s < 10 → bitI A s = if (s : Int) ∈ l then 1 else 0
theorem decL_len (A : Int) : ∀ (n : Nat) (l : List Int), decL n l → (∀ s : Nat, s < n → bitI A s = if (s : Int) ∈ l then 1 else 0) → l.length = (askL A n).length
  | 0, [], _, _ => rfl
  | 0, x :: l, h, _ => by
    have := h.1
    omega
  | n + 1, l, h, hb => by
    have b := hb n (by omega)
    rw [askL_s, List.length_append]
    by_cases e : (n : Int) ∈ l
    · rw [if_pos e] at b
      rw [if_pos b]
      cases l with
      | nil => cases e
      | cons x l =>
        have hx : x = n := by
          have a := h.1
          rcases List.mem_cons.mp e with q | q
          · exact q.symm
          · have := decL_mem l h.2 q
            omega
        subst hx
        rw [decL_len A n l h.2 (fun s hs => by
          rw [hb s (by omega)]
          have : ((s : Int) ∈ (n : Int) :: l) ↔ (s : Int) ∈ l := by
            rw [List.mem_cons]
            exact ⟨fun q => q.resolve_left (by omega), Or.inr⟩
          simp only [this]) |>.symm]
        rfl
    · rw [if_neg e] at b
      rw [if_neg (by omega), ← decL_len A n l ?_ (fun s hs => hb s (by omega))]
      · rfl
      · cases l with
        | nil => trivial
        | cons x l =>
          refine ⟨⟨h.1.1, ?_⟩, h.2⟩
          have a := h.1.2
          have : x ≠ n := fun q => e (by rw [← q]; exact List.mem_cons_self)
          omega
theorem isSet_len {A : Int} {l : List Int} (h : isSet A l) (hd : decL 10 l) : pc2 32 A = l.length := by
  rw [decL_len A 10 l hd h.2]
  rcases pc2_ask 10 A h.1.1 with q | q
  · rw [← q, show A / 2 ^ 10 = 0 from Int.ediv_eq_zero_of_lt h.1.1 h.1.2, pc2_0]
    omega
  · omega
theorem isSet_nil {A : Int} {l : List Int} (h : isSet A l) (hd : decL 10 l) : A = 0 ↔ l = [] := by
  constructor
  · intro e
    subst e
    cases l with
    | nil => rfl
    | cons x l =>
      have a := hd.1
      have := h.2 x.toNat (by omega)
      rw [bit_0, if_pos (by rw [show ((x.toNat : Nat) : Int) = x by omega]; exact List.mem_cons_self)] at this
      omega
  · intro e
    subst e
    have := bit_ub h.1.1 0 10 h.1.2 (fun s _ hs => by rw [h.2 s (by omega), if_neg List.not_mem_nil])
    have z := h.1.1
    simp at this
    omega
theorem getLastD_mem {α : Type} {d : α} : ∀ (l : List α), l ≠ [] → l.getLastD d ∈ l
  | [], h => absurd rfl h
  | x :: l, _ => by
    rw [List.getLastD_cons]
    cases l with
    | nil => exact List.mem_cons_self
    | cons y l => 
      have := getLastD_mem (d := x) (y :: l) (by simp)
      exact List.mem_cons_of_mem _ this
theorem decL_last : ∀ (l : List Int) {n d y : Int}, decL n l → y ∈ l → l.getLastD d ≤ y
  | [], _, _, _, _, hy => by cases hy
  | x :: l, n, d, y, h, hy => by
    rw [List.getLastD_cons]
    rcases List.mem_cons.mp hy with e | e
    · cases l with
      | nil => rw [e]; exact Int.le_refl _
      | cons z l =>
        have m := getLastD_mem (d := x) (z :: l) (by simp)
        have := decL_mem (z :: l) h.2 m
        omega
    · exact decL_last l h.2 e
theorem decL_head : ∀ (l : List Int) {n d y : Int}, decL n l → y ∈ l → y ≤ l.headD d
  | [], _, _, _, _, hy => by cases hy
  | x :: l, n, d, y, h, hy => by
    show y ≤ x
    rcases List.mem_cons.mp hy with e | e
    · omega
    · have := decL_mem l h.2 e
      omega
theorem headD_mem {α : Type} {d : α} : ∀ (l : List α), l ≠ [] → l.headD d ∈ l
  | [], h => absurd rfl h
  | x :: l, _ => List.mem_cons_self
/-- a set's lowest and highest -/
theorem isSet_low {A : Int} {l : List Int} (h : isSet A l) (hd : decL 10 l) (hn : l ≠ []) : (0 ≤ l.getLastD (-1) ∧ l.getLastD (-1) < 10) ∧ bitI A (l.getLastD (-1)).toNat = 1 ∧ ∀ s, s < (l.getLastD (-1)).toNat → bitI A s = 0 := by
  have m := getLastD_mem (d := -1) l hn
  have r := decL_mem l hd m
  refine ⟨r, ?_, fun s hs => ?_⟩
  · rw [h.2 _ (by omega), if_pos (by rw [show (((l.getLastD (-1)).toNat : Nat) : Int) = l.getLastD (-1) by omega]; exact m)]
  · rw [h.2 _ (by omega), if_neg (fun q => by have := decL_last l (d := -1) hd q; omega)]
theorem isSet_high {A : Int} {l : List Int} (h : isSet A l) (hd : decL 10 l) (hn : l ≠ []) : (0 ≤ l.headD (-1) ∧ l.headD (-1) < 10) ∧ bitI A (l.headD (-1)).toNat = 1 ∧ ∀ s, (l.headD (-1)).toNat < s → s < 10 → bitI A s = 0 := by
  have m := headD_mem (d := -1) l hn
  have r := decL_mem l hd m
  refine ⟨r, ?_, fun s hs h2 => ?_⟩
  · rw [h.2 _ (by omega), if_pos (by rw [show (((l.headD (-1)).toNat : Nat) : Int) = l.headD (-1) by omega]; exact m)]
  · rw [h.2 _ (by omega), if_neg (fun q => by have := decL_head l (d := -1) hd q; omega)]
