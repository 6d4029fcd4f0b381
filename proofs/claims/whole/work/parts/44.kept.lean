/-! the invariant of the reference is kept, call by call (printed by wip/whole/gen44.py) -/
theorem K_coal {κ : Ks} {n : Int} (hI : MI κ) : MI (M_coal κ n).2 := by
  obtain ⟨⟨i0, i1, i2, i3, i4, i5, i6, i7, i8, i9⟩, iS, iH, iR, iT, iC, iG, iL, iZ⟩ := id hI
  unfold M_coal rfM
  (repeat' split) <;> first | exact MI_ref hI (by decide) | exact hI | exact MI_coal hI (by omega)
theorem K_lose {κ : Ks} {r : Int} (hI : MI κ) : MI (M_lose κ r).2 := by
  obtain ⟨⟨i0, i1, i2, i3, i4, i5, i6, i7, i8, i9⟩, iS, iH, iR, iT, iC, iG, iL, iZ⟩ := id hI
  unfold M_lose rfM
  (repeat' split) <;> first | exact MI_ref hI (by decide) | exact hI | exact MI_lose hI (by omega)
theorem K_put {κ : Ks} {r p n : Int} (hI : MI κ) : MI (M_put κ r p n).2 := by
  obtain ⟨⟨i0, i1, i2, i3, i4, i5, i6, i7, i8, i9⟩, iS, iH, iR, iT, iC, iG, iL, iZ⟩ := id hI
  unfold M_put rfM
  (repeat' split) <;> first | exact MI_ref hI (by decide) | exact hI | (rw [show (24 * r + p).toNat = 24 * r.toNat + p.toNat by omega]; exact MI_put hI (by omega) (by omega) (by have := (iR r.toNat (by omega)).1; omega) (by omega))
theorem K_lead {κ : Ks} {h r : Int} (hI : MI κ) : MI (M_lead κ h r).2 := by
  obtain ⟨⟨i0, i1, i2, i3, i4, i5, i6, i7, i8, i9⟩, iS, iH, iR, iT, iC, iG, iL, iZ⟩ := id hI
  unfold M_lead rfM
  (repeat' split) <;> first | exact MI_ref hI (by decide) | exact hI | exact MI_lead hI (by omega) (by omega)
theorem K_stand {κ : Ks} {c s : Int} (hI : MI κ) : MI (M_stand κ c s).2 := by
  obtain ⟨⟨i0, i1, i2, i3, i4, i5, i6, i7, i8, i9⟩, iS, iH, iR, iT, iC, iG, iL, iZ⟩ := id hI
  unfold M_stand rfM
  (repeat' split) <;> first | exact MI_ref hI (by decide) | exact hI | exact MI_stand hI (by omega) (by omega)
theorem K_draw {κ : Ks} {s b : Int} (z_b : b = 0 ∨ b = 1) (hI : MI κ) : MI (M_draw κ s b).2 := by
  obtain ⟨⟨i0, i1, i2, i3, i4, i5, i6, i7, i8, i9⟩, iS, iH, iR, iT, iC, iG, iL, iZ⟩ := id hI
  unfold M_draw rfM
  (repeat' split) <;> first | exact MI_ref hI (by decide) | exact hI | exact MI_draw hI (by omega) z_b
theorem K_iron {κ : Ks} {s : Int} (hI : MI κ) : MI (M_iron κ s).2 := by
  obtain ⟨⟨i0, i1, i2, i3, i4, i5, i6, i7, i8, i9⟩, iS, iH, iR, iT, iC, iG, iL, iZ⟩ := id hI
  unfold M_iron rfM
  (repeat' split) <;> first | exact MI_ref hI (by decide) | exact hI | exact MI_iron hI (by omega) (by omega)
theorem K_renew {κ : Ks} {s : Int} (hI : MI κ) : MI (M_renew κ s).2 := by
  obtain ⟨⟨i0, i1, i2, i3, i4, i5, i6, i7, i8, i9⟩, iS, iH, iR, iT, iC, iG, iL, iZ⟩ := id hI
  unfold M_renew rfM
  (repeat' split) <;> first | exact MI_ref hI (by decide) | exact hI | exact MI_renew hI (by omega) (by omega)
theorem K_clear {κ : Ks} {s : Int} (hI : MI κ) : MI (M_clear κ s).2 := by
  obtain ⟨⟨i0, i1, i2, i3, i4, i5, i6, i7, i8, i9⟩, iS, iH, iR, iT, iC, iG, iL, iZ⟩ := id hI
  unfold M_clear rfM
  (repeat' split) <;> first | exact MI_ref hI (by decide) | exact hI | exact MI_clear hI (by omega)
theorem K_brew {κ : Ks} {s n : Int} (hI : MI κ) : MI (M_brew κ s n).2 := by
  obtain ⟨⟨i0, i1, i2, i3, i4, i5, i6, i7, i8, i9⟩, iS, iH, iR, iT, iC, iG, iL, iZ⟩ := id hI
  unfold M_brew rfM
  (repeat' split) <;> first | exact MI_ref hI (by decide) | exact hI | exact MI_brew hI (by omega) (by have := (iS s.toNat (by omega)); omega) (by have := (iS s.toNat (by omega)); omega)
