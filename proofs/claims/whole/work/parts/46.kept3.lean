/-! set, row, copy keep the invariant (printed by wip/whole/gen46.py) -/
theorem MI_rows {μ μ' : Ks} (h : MI μ) (hm : ∀ t : Nat, t ≠ 70 → t ≠ 71 → t ≠ 88 → μ' t = μ t) (hr : MIr μ') : MI μ' := by
  have m : ∀ j : Nat, μ' 40 j = μ 40 j := fun j => by rw [hm 40 (by decide) (by decide) (by decide)]
  obtain ⟨iS0, iSt, iH, iR, iT, iC, iG, iL, iZ⟩ := h
  exact ⟨iS0.fr (fun j _ => m j), iSt.fr (m _) (m _) (fun t h1 h2 => (hm _ (by omega) (by omega) (by omega))), iH.fr (m _) (m _) (fun t h1 h2 => (hm _ (by omega) (by omega) (by omega))), hr, iT.fr (m _) (m _) (fun t h1 h2 => (hm _ (by omega) (by omega) (by omega))), iC.fr (m _) (hm _ (by omega) (by omega) (by omega)), iG.fr (m _) (m _) (fun t h1 h2 => (hm _ (by omega) (by omega) (by omega))), iL.fr (m _) (fun t h1 h2 => (hm _ (by omega) (by omega) (by omega))), iZ.fr (m _) (m _) (hm _ (by omega) (by omega) (by omega)) (hm _ (by omega) (by omega) (by omega)) (hm _ (by omega) (by omega) (by omega)) (hm _ (by omega) (by omega) (by omega)) (hm _ (by omega) (by omega) (by omega)) (hm _ (by omega) (by omega) (by omega))⟩
theorem K_row {κ : Ks} {r n : Int} (hI : MI κ) : MI (M_row κ r n).2 := by
  have iR := hI.2.2.2.1
  unfold M_row rfM
  (repeat' split) <;> first | exact MI_ref hI (by decide) | skip
  refine MI_rows hI (fun t h1 h2 _ => (zro h2 _).trans (st2_t h1)) (fun z hz => ?_)
  have q := iR z hz
  have e7 : zrow (st2 κ 70 r.toNat n) r.toNat n.toNat 70 = st2 κ 70 r.toNat n 70 := zro (by decide) _
  show (-1 ≤ zrow (st2 κ 70 r.toNat n) r.toNat n.toNat 70 z ∧ zrow (st2 κ 70 r.toNat n) r.toNat n.toNat 70 z ≤ 24) ∧ ∀ k : Nat, (k : Int) < zrow (st2 κ 70 r.toNat n) r.toNat n.toNat 70 z → 0 ≤ zrow (st2 κ 70 r.toNat n) r.toNat n.toNat 71 (24 * z + k) ∧ zrow (st2 κ 70 r.toNat n) r.toNat n.toNat 71 (24 * z + k) ≤ 20
  rw [e7]
  by_cases e : z = r.toNat
  · subst e
    rw [rd_eq rfl rfl]
    refine ⟨by omega, fun k hk => ?_⟩
    rw [zri _ (by omega)]
    decide
  · rw [rd_ne (by omega)]
    refine ⟨q.1, fun k hk => ?_⟩
    rw [zrx _ (fun i hi => by omega), rd_ne (by omega)]
    exact q.2 k hk
