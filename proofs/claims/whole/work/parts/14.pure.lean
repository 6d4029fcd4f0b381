/-! PURE: let, open, ways -/
abbrev LetC (κ : Ks) (s h : Int) (u : Nat) : Prop := κ 73 u = s ∧ (h - κ 75 u + 168) % 168 < κ 76 u
def LetP (κ : Ks) (s h : Int) : Prop := ∃ u : Nat, (u : Int) < κ 40 31 ∧ LetC κ s h u
def upM (κ : Ks) : Nat → Int → Int
  | 0, x => x
  | k + 1, x => upM κ k (if x < 0 then -1 else κ 53 x.toNat)
def OpenP (κ : Ks) (x h : Int) : Prop := ∀ k : Nat, 0 ≤ upM κ k x → LetP κ (upM κ k x) h
theorem upM_neg {κ : Ks} : ∀ (k : Nat) {x : Int}, x < 0 → upM κ k x < 0
  | 0, _, h => h
  | k + 1, x, h => by
    unfold upM
    rw [if_pos h]
    exact upM_neg k (by omega)
theorem open_neg {κ : Ks} {x h : Int} (hx : x < 0) : OpenP κ x h := fun k hk => by
  have := upM_neg (κ := κ) k hx
  omega
theorem open_step {κ : Ks} {x h : Int} (hx : 0 ≤ x) : OpenP κ x h ↔ LetP κ x h ∧ OpenP κ (κ 53 x.toNat) h := by
  constructor
  · intro H
    refine ⟨H 0 hx, fun k hk => ?_⟩
    have e : upM κ (k + 1) x = upM κ k (κ 53 x.toNat) := by
      show upM κ k (if x < 0 then -1 else κ 53 x.toNat) = _
      rw [if_neg (by omega)]
    have := H (k + 1)
    rw [e] at this
    exact this hk
  · rintro ⟨h1, h2⟩ k
    cases k with
    | zero => exact fun _ => h1
    | succ k =>
      have e : upM κ (k + 1) x = upM κ k (κ 53 x.toNat) := by
        show upM κ k (if x < 0 then -1 else κ 53 x.toNat) = _
        rw [if_neg (by omega)]
      rw [e]
      exact h2 k
def OnW (κ : Ks) (p x : Int) : Prop := p = -1 ∨ ∃ k : Nat, 0 ≤ upM κ k x ∧ upM κ k x = p
theorem onw_neg {κ : Ks} {p x : Int} (hx : x < 0) : OnW κ p x ↔ p = -1 := by
  constructor
  · rintro (h | ⟨k, h1, h2⟩)
    · exact h
    · have := upM_neg (κ := κ) k hx
      omega
  · exact Or.inl
theorem onw_step {κ : Ks} {p x : Int} (hx : 0 ≤ x) : OnW κ p x ↔ x = p ∨ OnW κ p (κ 53 x.toNat) := by
  constructor
  · rintro (h | ⟨k, h1, h2⟩)
    · exact Or.inr (Or.inl h)
    · cases k with
      | zero => exact Or.inl h2
      | succ k =>
        have e : upM κ (k + 1) x = upM κ k (κ 53 x.toNat) := by
          show upM κ k (if x < 0 then -1 else κ 53 x.toNat) = _
          rw [if_neg (by omega)]
        rw [e] at h1 h2
        exact Or.inr (Or.inr ⟨k, h1, h2⟩)
  · rintro (h | h | ⟨k, h1, h2⟩)
    · exact Or.inr ⟨0, hx, h⟩
    · exact Or.inl h
    · refine Or.inr ⟨k + 1, ?_⟩
      have e : upM κ (k + 1) x = upM κ k (κ 53 x.toNat) := by
        show upM κ k (if x < 0 then -1 else κ 53 x.toNat) = _
        rw [if_neg (by omega)]
      rw [e]
      exact ⟨h1, h2⟩
theorem onw_self {κ : Ks} {x : Int} (hx : -1 ≤ x) : OnW κ x x := by
  by_cases h : 0 ≤ x
  · exact (onw_step h).mpr (Or.inl rfl)
  · exact Or.inl (by omega)
/-- steps between two places, the greater number climbs -/
def stp (κ : Ks) : Nat → Int → Int → Int
  | 0, _, _ => 0
  | f + 1, a, b => if a = b then 0 else if b < a then 1 + stp κ f (κ 53 a.toNat) b else 1 + stp κ f a (κ 53 b.toNat)
theorem stp_s (κ : Ks) (f : Nat) (a b : Int) : stp κ (f + 1) a b = if a = b then 0 else if b < a then 1 + stp κ f (κ 53 a.toNat) b else 1 + stp κ f a (κ 53 b.toNat) := rfl
def wayM (κ : Ks) (a b : Int) : Int := stp κ 20 a b
theorem stp_fuel {κ : Ks} (hS : MIst κ) : ∀ (f g : Nat) (a b : Int), -1 ≤ a → a < κ 40 11 → -1 ≤ b → b < κ 40 11 → a + b + 2 ≤ f → a + b + 2 ≤ g → stp κ f a b = stp κ g a b
  | 0, g, a, b, h1, h2, h3, h4, h5, h6 => by
    have : a = b := by omega
    cases g with
    | zero => rfl
    | succ g =>
      unfold stp
      rw [if_pos this]
  | f + 1, 0, a, b, h1, h2, h3, h4, h5, h6 => by
    have : a = b := by omega
    unfold stp
    rw [if_pos this]
  | f + 1, g + 1, a, b, h1, h2, h3, h4, h5, h6 => by
    unfold stp
    split
    · rfl
    · split
      · have := (hS a.toNat (by omega)).1
        rw [stp_fuel hS f g (κ 53 a.toNat) b (by omega) (by omega) h3 h4 (by omega) (by omega)]
      · have := (hS b.toNat (by omega)).1
        rw [stp_fuel hS f g a (κ 53 b.toNat) h1 h2 (by omega) (by omega) (by omega) (by omega)]
theorem way_eq {κ : Ks} {a : Int} : wayM κ a a = 0 := by
  unfold wayM stp
  rw [if_pos rfl]
theorem way_gt {κ : Ks} (hS : MIst κ) (h10 : κ 40 11 ≤ 10) {a b : Int} (h2 : a < κ 40 11) (h3 : -1 ≤ b) (h : b < a) : wayM κ a b = 1 + wayM κ (κ 53 a.toNat) b := by
  have := (hS a.toNat (by omega)).1
  have e : wayM κ a b = 1 + stp κ 19 (κ 53 a.toNat) b := by
    show stp κ (19 + 1) a b = _
    rw [stp_s, if_neg (by omega), if_pos h]
  rw [e]
  unfold wayM
  rw [stp_fuel hS 19 20 _ b (by omega) (by omega) h3 (by omega) (by omega) (by omega)]
theorem way_lt {κ : Ks} (hS : MIst κ) (h10 : κ 40 11 ≤ 10) {a b : Int} (h1 : -1 ≤ a) (h4 : b < κ 40 11) (h : a < b) : wayM κ a b = 1 + wayM κ a (κ 53 b.toNat) := by
  have := (hS b.toNat (by omega)).1
  have e : wayM κ a b = 1 + stp κ 19 a (κ 53 b.toNat) := by
    show stp κ (19 + 1) a b = _
    rw [stp_s, if_neg (by omega), if_neg (by omega)]
  rw [e]
  unfold wayM
  rw [stp_fuel hS 19 20 a _ h1 (by omega) (by omega) (by omega) (by omega) (by omega)]
theorem stp_ge {κ : Ks} : ∀ (f : Nat) (a b : Int), 0 ≤ stp κ f a b ∧ stp κ f a b ≤ f
  | 0, _, _ => ⟨by unfold stp; omega, by unfold stp; omega⟩
  | f + 1, a, b => by
    unfold stp
    have h1 := stp_ge (κ := κ) f (κ 53 a.toNat) b
    have h2 := stp_ge (κ := κ) f a (κ 53 b.toNat)
    split
    · omega
    · split <;> omega
theorem way_R {κ : Ks} (a b : Int) : 0 ≤ wayM κ a b ∧ wayM κ a b ≤ 20 := by
  have := stp_ge (κ := κ) 20 a b
  unfold wayM
  omega
theorem onw_le {κ : Ks} (hS : MIst κ) : ∀ (m : Nat) (p x : Int), x + 1 ≤ m → -1 ≤ x → x < κ 40 11 → OnW κ p x → p ≤ x
  | 0, p, x, h1, h2, h3, h => by
    have := (onw_neg (κ := κ) (p := p) (x := x) (by omega)).mp h
    omega
  | m + 1, p, x, h1, h2, h3, h => by
    by_cases hx : 0 ≤ x
    · have hs := (hS x.toNat (by omega)).1
      rcases (onw_step hx).mp h with h | h
      · omega
      · have := onw_le hS m p (κ 53 x.toNat) (by omega) (by omega) (by omega) h
        omega
    · have := (onw_neg (κ := κ) (p := p) (x := x) (by omega)).mp h
      omega
theorem way_off {κ : Ks} (hS : MIst κ) (h10 : κ 40 11 ≤ 10) : ∀ (m : Nat) (a b : Int), b + 1 ≤ m → -1 ≤ a → a < κ 40 11 → -1 ≤ b → b < κ 40 11 → ¬ OnW κ a b → wayM κ a b = 1 + wayM κ (κ 53 a.toNat) b
  | 0, a, b, h0, h1, h2, h3, h4, h => by
    have hb : b = -1 := by omega
    have ha : a ≠ -1 := fun e => h (Or.inl e)
    exact way_gt hS h10 h2 h3 (by omega)
  | m + 1, a, b, h0, h1, h2, h3, h4, h => by
    have ha : a ≠ -1 := fun e => h (Or.inl e)
    have hs := (hS a.toNat (by omega)).1
    by_cases hab : b < a
    · exact way_gt hS h10 h2 h3 hab
    · have hne : a ≠ b := fun e => h (by rw [e]; exact onw_self h3)
      have hb := (hS b.toNat (by omega)).1
      have h5 : ¬ OnW κ a (κ 53 b.toNat) := fun z => h ((onw_step (by omega)).mpr (Or.inr z))
      rw [way_lt hS h10 h1 h4 (by omega), way_off hS h10 m a (κ 53 b.toNat) (by omega) h1 h2 (by omega) (by omega) h5, way_lt (a := κ 53 a.toNat) hS h10 (by omega) h4 (by omega)]
theorem way_on {κ : Ks} (hS : MIst κ) (h10 : κ 40 11 ≤ 10) {p x : Int} (h1 : -1 ≤ x) (h2 : x < κ 40 11) (h3 : -1 ≤ p) (hne : x ≠ p) (h : OnW κ p x) : wayM κ p x = 1 + wayM κ p (κ 53 x.toNat) ∧ OnW κ p (κ 53 x.toNat) ∧ 0 ≤ x := by
  have h4 := onw_le hS (x + 1).toNat p x (by omega) h1 h2 h
  have hx : 0 ≤ x := by omega
  refine ⟨way_lt hS h10 h3 h2 (by omega), ?_, hx⟩
  rcases (onw_step hx).mp h with h | h
  · exact absurd h hne
  · exact h
