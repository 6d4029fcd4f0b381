/-! PURE: days: ways that begin with a day too high are not needed -/
def enc (a : Nat → Nat) : Nat → Nat
  | 0 => 0
  | i + 1 => enc a i * 7 + a i
theorem enc_s (a : Nat → Nat) (i : Nat) : enc a (i + 1) = enc a i * 7 + a i := rfl
theorem enc_congr {a a' : Nat → Nat} : ∀ n : Nat, (∀ i, i < n → a i = a' i) → enc a n = enc a' n
  | 0, _ => rfl
  | n + 1, h => by rw [enc_s, enc_s, enc_congr n (fun i hi => h i (by omega)), h n (by omega)]
theorem enc_div {a : Nat → Nat} (h : ∀ i, a i < 7) : ∀ (r p : Nat), enc a (p + r) / 7 ^ r = enc a p
  | 0, p => by simp
  | r + 1, p => by
    rw [show p + (r + 1) = (p + r) + 1 by omega, enc_s, Nat.pow_succ, Nat.mul_comm (7 ^ r) 7, ← Nat.div_div_eq_div_mul]
    have := h (p + r)
    rw [show (enc a (p + r) * 7 + a (p + r)) / 7 = enc a (p + r) by omega]
    exact enc_div h r p
theorem enc_dg {a : Nat → Nat} (h : ∀ i, a i < 7) {k i : Nat} (hi : i < k) : dg k (enc a k) i = a i := by
  unfold dg
  have e := enc_div h (k - 1 - i) (i + 1)
  rw [show i + 1 + (k - 1 - i) = k by omega] at e
  rw [e, enc_s]
  have := h i
  omega
theorem dg_enc {k c : Nat} (hc : c < 7 ^ k) : ∀ p : Nat, p ≤ k → enc (dg k c) p = c / 7 ^ (k - p)
  | 0, _ => by
    rw [show k - 0 = k from rfl, Nat.div_eq_of_lt hc]
    rfl
  | p + 1, hp => by
    rw [enc_s, dg_enc hc p (by omega)]
    unfold dg
    rw [show k - p = (k - 1 - p) + 1 by omega, Nat.pow_succ, ← Nat.div_div_eq_div_mul, show k - (p + 1) = k - 1 - p by omega]
    omega
theorem dg_pre {k c p pre i : Nat} (hp : p ≤ k) (h : c / 7 ^ (k - p) = pre) (hi : i < p) : dg k c i = dg p pre i := by
  unfold dg
  rw [show k - 1 - i = (k - p) + (p - 1 - i) by omega, div_pow, h]
theorem dg_app {p pre day i : Nat} (hd : day < 7) (hi : i < p + 1) : dg (p + 1) (pre * 7 + day) i = if i = p then day else dg p pre i := by
  by_cases e : i = p
  · subst e
    rw [if_pos rfl]
    unfold dg
    rw [show i + 1 - 1 - i = 0 by omega, Nat.pow_zero, Nat.div_one]
    omega
  · rw [if_neg e]
    exact dg_pre (k := p + 1) (by omega) (by rw [show p + 1 - p = 1 by omega, Nat.pow_one]; omega) (by omega)
theorem app_lt {p pre day : Nat} (h : pre < 7 ^ p) (hd : day < 7) : pre * 7 + day < 7 ^ (p + 1) := by
  rw [Nat.pow_succ]
  omega
-- a change of two days
def sw (u d x : Nat) : Nat := if x = u then d else if x = d then u else x
theorem sw_eq {u d x y : Nat} : sw u d x = y ↔ x = sw u d y := by
  unfold sw
  (repeat' split) <;> omega
theorem sw_lt {u d x : Nat} (hu : u < 7) (hd : d < 7) (hx : x < 7) : sw u d x < 7 := by
  unfold sw
  (repeat' split) <;> omega
theorem ld_sw {nd : Nat → Int} {a : Nat → Nat} {u d : Nat} (x : Nat) : ∀ n : Nat, ldD nd (fun i => sw u d (a i)) x n = ldD nd a (sw u d x) n
  | 0 => rfl
  | n + 1 => by
    unfold ldD
    rw [ld_sw x n]
    simp only [sw_eq]
theorem sum_sw (g : Nat → Int) : ∀ u d : Nat, u < d → d < 7 → 0 + g (sw u d 0) + g (sw u d 1) + g (sw u d 2) + g (sw u d 3) + g (sw u d 4) + g (sw u d 5) + g (sw u d 6) = 0 + g 0 + g 1 + g 2 + g 3 + g 4 + g 5 + g 6 := by
  intro u d hu hd
  rcases (show u = 0 ∨ u = 1 ∨ u = 2 ∨ u = 3 ∨ u = 4 ∨ u = 5 by omega) with rfl | rfl | rfl | rfl | rfl | rfl <;>
  rcases (show d = 1 ∨ d = 2 ∨ d = 3 ∨ d = 4 ∨ d = 5 ∨ d = 6 by omega) with rfl | rfl | rfl | rfl | rfl | rfl <;>
  first
  | (exfalso; omega)
  | (simp [sw]; omega)
theorem lk_sw {ld : Nat → Int} {sum : Int} {u d : Nat} (hu : u < d) (hd : d < 7) : lkD (fun x => ld (sw u d x)) sum 7 = lkD ld sum 7 := sum_sw (fun x => if sum < ld x then ld x - sum else 0) u d hu hd
theorem ms_le {ld : Nat → Int} {b : Int} : ∀ n : Nat, msD ld n ≤ b ↔ 0 ≤ b ∧ ∀ d, d < n → ld d ≤ b
  | 0 => ⟨fun h => ⟨h, fun d hd => by omega⟩, fun h => h.1⟩
  | n + 1 => by
    have q := ms_le (ld := ld) (b := b) n
    have e : msD ld (n + 1) = max (msD ld n) (ld n) := rfl
    constructor
    · intro h
      have h1 := q.mp (by omega)
      refine ⟨h1.1, fun d hd => ?_⟩
      by_cases e : d = n
      · subst e
        omega
      · exact h1.2 d (by omega)
    · intro h
      have h1 := q.mpr ⟨h.1, fun d hd => h.2 d (by omega)⟩
      have h2 := h.2 n (by omega)
      omega
theorem ms_sw {ld : Nat → Int} {u d : Nat} (hu : u < d) (hd : d < 7) : msD (fun x => ld (sw u d x)) 7 = msD ld 7 := by
  have a := (ms_le (ld := ld) (b := msD ld 7) 7).mp (Int.le_refl _)
  have b := (ms_le (ld := fun x => ld (sw u d x)) (b := msD (fun x => ld (sw u d x)) 7) 7).mp (Int.le_refl _)
  have ss : ∀ x, sw u d (sw u d x) = x := fun x => by
    unfold sw
    (repeat' split) <;> omega
  apply Int.le_antisymm
  · exact (ms_le 7).mpr ⟨a.1, fun x hx => a.2 _ (sw_lt (by omega) hd hx)⟩
  · refine (ms_le 7).mpr ⟨b.1, fun x hx => ?_⟩
    have := b.2 (sw u d x) (sw_lt (by omega) hd hx)
    rw [ss] at this
    exact this
/-- of a way that begins as pre and then has a day above u, where pre has only days below u: another comes before it and is as good -/
theorem way_sw {nd : Nat → Int} {sum : Int} {k p pre u c : Nat} (hp : p < k) (hc : c < 7 ^ k) (hq : c / 7 ^ (k - p) = pre) (hu : ∀ i, i < p → dg p pre i < u) (hd : u < dg k c p) : ∃ c', c' < (pre * 7 + u + 1) * 7 ^ (k - p - 1) ∧ lkC nd sum k c' = lkC nd sum k c ∧ msC nd k c' = msC nd k c := by
  have d7 := dg_lt k c p
  have u7 : u < 7 := by omega
  have a7 : ∀ i, sw u (dg k c p) (dg k c i) < 7 := fun i => sw_lt u7 d7 (dg_lt k c i)
  obtain ⟨a, ea⟩ : ∃ a : Nat → Nat, a = fun i => sw u (dg k c p) (dg k c i) := ⟨_, rfl⟩
  have a7 : ∀ i, a i < 7 := fun i => by rw [ea]; exact a7 i
  have dd : ∀ x, ldD nd (dg k (enc a k)) x k = ldD nd (dg k c) (sw u (dg k c p) x) k := fun x => by
    rw [← ld_sw]
    exact ldD_congr x k (fun j hj => ⟨rfl, by rw [enc_dg a7 hj, ea]⟩)
  have pz : ∀ i, i < p → a i = dg k c i := fun i hi => by
    have q := hu i hi
    rw [← dg_pre (Nat.le_of_lt hp) hq hi] at q
    rw [ea]
    show sw u (dg k c p) (dg k c i) = dg k c i
    unfold sw
    rw [if_neg (by omega), if_neg (by omega)]
  have ap : a p = u := by
    rw [ea]
    show sw u (dg k c p) (dg k c p) = u
    unfold sw
    rw [if_neg (by omega), if_pos rfl]
  refine ⟨enc a k, ?_, ?_, ?_⟩
  · have e := enc_div a7 (k - p - 1) (p + 1)
    rw [show p + 1 + (k - p - 1) = k by omega, enc_s, ap, enc_congr p pz, dg_enc hc p (Nat.le_of_lt hp), hq] at e
    have pp : 0 < 7 ^ (k - p - 1) := Nat.pow_pos (by decide)
    exact (Nat.div_lt_iff_lt_mul pp).mp (by omega)
  · exact (lkD_congr 7 (fun x _ => dd x)).trans (lk_sw (ld := fun x => ldD nd (dg k c) x k) hd d7)
  · exact (msD_congr 7 (fun x _ => dd x)).trans (ms_sw (ld := fun x => ldD nd (dg k c) x k) hd d7)
/-- the best of the ways is as good as each -/
theorem dsB_opt {nd : Nat → Int} {sum : Int} {k : Nat} : ∀ (j c : Nat), c ≤ j → ¬ btr nd sum k c (dsB nd sum k j)
  | 0, c, h => by
    have : c = 0 := by omega
    subst this
    show ¬ btr nd sum k 0 0
    unfold btr
    omega
  | j + 1, c, h => by
    rw [dsB_s]
    by_cases b : btr nd sum k (j + 1) (dsB nd sum k j)
    · rw [if_pos b]
      by_cases e : c = j + 1
      · subst e
        unfold btr
        omega
      · have := dsB_opt (nd := nd) (sum := sum) (k := k) j c (by omega)
        unfold btr at this b ⊢
        omega
    · rw [if_neg b]
      by_cases e : c = j + 1
      · subst e
        exact b
      · exact dsB_opt j c (by omega)
theorem dsB_skip {nd : Nat → Int} {sum : Int} {k j : Nat} (h : ∃ c', c' ≤ j ∧ lkC nd sum k c' = lkC nd sum k (j + 1) ∧ msC nd k c' = msC nd k (j + 1)) : dsB nd sum k (j + 1) = dsB nd sum k j := by
  obtain ⟨c', h1, h2, h3⟩ := h
  have := dsB_opt (nd := nd) (sum := sum) (k := k) j c' h1
  rw [dsB_s, if_neg]
  unfold btr at this ⊢
  omega
/-- all ways that begin as pre and then have a day above u change nothing -/
theorem dsB_over {nd : Nat → Int} {sum : Int} {k p pre u : Nat} (hp : p < k) (hpre : pre < 7 ^ p) (hu : ∀ i, i < p → dg p pre i < u) (hu7 : u < 7) : ∀ n : Nat, (pre * 7 + u + 1) * 7 ^ (k - p - 1) + n ≤ (pre + 1) * 7 ^ (k - p) → dsB nd sum k ((pre * 7 + u + 1) * 7 ^ (k - p - 1) + n - 1) = dsB nd sum k ((pre * 7 + u + 1) * 7 ^ (k - p - 1) - 1)
  | 0, _ => rfl
  | n + 1, hn => by
    have pp : 0 < 7 ^ (k - p - 1) := Nat.pow_pos (by decide)
    have p1 : 7 ^ (k - p) = 7 * 7 ^ (k - p - 1) := by
      rw [show k - p = (k - p - 1) + 1 by omega, Nat.pow_succ, Nat.mul_comm]
      rfl
    have p2 : 7 ^ k = 7 ^ p * 7 ^ (k - p) := by rw [← Nat.pow_add, show p + (k - p) = k by omega]
    have b1 : (pre * 7 + u + 1) * 7 ^ (k - p - 1) = pre * (7 * 7 ^ (k - p - 1)) + (u + 1) * 7 ^ (k - p - 1) := by
      rw [show pre * 7 + u + 1 = pre * 7 + (u + 1) by omega, Nat.add_mul, Nat.mul_assoc]
    have b2 : (pre + 1) * 7 ^ (k - p) = pre * (7 * 7 ^ (k - p - 1)) + 7 * 7 ^ (k - p - 1) := by rw [p1, Nat.add_mul, Nat.one_mul]
    have b3 : (pre + 1) * 7 ^ (k - p) ≤ 7 ^ k := by
      rw [p2]
      exact Nat.mul_le_mul_right _ hpre
    have q0 : 0 < (u + 1) * 7 ^ (k - p - 1) := Nat.mul_pos (by omega) pp
    obtain ⟨c, ec⟩ : ∃ c, c = (pre * 7 + u + 1) * 7 ^ (k - p - 1) + n := ⟨_, rfl⟩
    have c0 : 0 < c := by omega
    have hq : c / 7 ^ (k - p) = pre := by
      rw [p1]
      refine Nat.div_eq_of_lt_le (by omega) ?_
      rw [Nat.add_mul, Nat.one_mul]
      omega
    have hd : u < dg k c p := by
      unfold dg
      have e1 : c / 7 ^ (k - 1 - p) = pre * 7 + c / 7 ^ (k - 1 - p) % 7 := by
        have := Nat.div_add_mod (c / 7 ^ (k - 1 - p)) 7
        have e3 : c / 7 ^ (k - 1 - p) / 7 = pre := by
          rw [Nat.div_div_eq_div_mul, show 7 ^ (k - 1 - p) * 7 = 7 ^ (k - p) by rw [p1, Nat.mul_comm, show k - 1 - p = k - p - 1 by omega]]
          exact hq
        omega
      have e2 : pre * 7 + u + 1 ≤ c / 7 ^ (k - 1 - p) := by
        rw [show k - 1 - p = k - p - 1 by omega]
        exact (Nat.le_div_iff_mul_le pp).mpr (by omega)
      omega
    obtain ⟨c', h1, h2, h3⟩ := way_sw (nd := nd) (sum := sum) hp (show c < 7 ^ k by omega) hq hu hd
    rw [show (pre * 7 + u + 1) * 7 ^ (k - p - 1) + (n + 1) - 1 = (c - 1) + 1 by omega, dsB_skip ⟨c', by omega, by rw [show c - 1 + 1 = c by omega]; exact ⟨h2, h3⟩⟩, show c - 1 = (pre * 7 + u + 1) * 7 ^ (k - p - 1) + n - 1 by omega]
    exact dsB_over hp hpre hu hu7 n (by omega)
