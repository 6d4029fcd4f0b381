/-! more calls keep the invariant (printed by wip/whole/gen45.py) -/
theorem K_houseOf {κ : Ks} {h w : Int} (hI : MI κ) : MI (M_houseOf κ h w).2 := by
  unfold M_houseOf rfM
  (repeat' split) <;> first | exact MI_ref hI (by decide) | exact hI
theorem K_streetOf {κ : Ks} {s w : Int} (hI : MI κ) : MI (M_streetOf κ s w).2 := by
  unfold M_streetOf rfM
  (repeat' split) <;> first | exact MI_ref hI (by decide) | exact hI
theorem K_let {κ : Ks} {s h w : Int} (hI : MI κ) : MI (M_let κ s h w).2 := by
  unfold M_let rfM
  (repeat' split) <;> first | exact MI_ref hI (by decide) | exact hI
theorem K_way {κ : Ks} {a b : Int} (hI : MI κ) : MI (M_way κ a b).2 := by
  unfold M_way rfM
  (repeat' split) <;> first | exact MI_ref hI (by decide) | exact hI
theorem K_clashes {κ : Ks} {c : Int} (hI : MI κ) : MI (M_clashes κ c).2 := by
  unfold M_clashes rfM
  (repeat' split) <;> first | exact MI_ref hI (by decide) | exact hI
theorem K_rate {κ : Ks} {h d : Int} (hI : MI κ) : MI (M_rate κ h d).2 := by
  unfold M_rate rfM
  (repeat' split) <;> first | exact MI_ref hI (by decide) | exact hI
theorem K_span {κ : Ks} {s w : Int} (hI : MI κ) : MI (M_span κ s w).2 := by
  unfold M_span rfM
  (repeat' split) <;> first | exact MI_ref hI (by decide) | exact hI
theorem K_count {κ : Ks} {w : Int} (hI : MI κ) : MI (M_count κ w).2 := by
  unfold M_count
  exact hI
theorem K_end {κ : Ks} {s z : Int} (hI : MI κ) : MI (M_end κ s z).2 := by
  obtain ⟨⟨i0, i1, i2, i3, i4, i5, i6, i7, i8, i9⟩, iS, iH, iR, iT, iC, iG, iL, iZ⟩ := id hI
  unfold M_end rfM
  (repeat' split) <;> first | exact MI_ref hI (by decide) | exact MI_end hI (by omega) (by have := iS s.toNat (by omega); omega) (by omega)
theorem passN_ok {κ : Ks} (hI : MI κ) : ∀ n : Nat, κ 40 0 + n ≤ 5000 → MI (passN κ n) ∧ passN κ n 40 0 = κ 40 0 + n
  | 0, _ => ⟨hI, by
    show κ 40 0 = κ 40 0 + 0
    omega⟩
  | n + 1, h => by
    obtain ⟨a, b⟩ := passN_ok hI n (by omega)
    obtain ⟨c, d⟩ := passM_ok a (by omega)
    refine ⟨c, ?_⟩
    show passM (passN κ n) 40 0 = _
    rw [d]
    omega
theorem K_hours {κ : Ks} {n : Int} (hI : MI κ) : MI (M_hours κ n).2 := by
  unfold M_hours rfM
  (repeat' split) <;> first | exact MI_ref hI (by decide) | exact (passN_ok hI n.toNat (by omega)).1
