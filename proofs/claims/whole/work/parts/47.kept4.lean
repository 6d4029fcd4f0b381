/-! copy and set keep the invariant (printed by wip/whole/gen47.py) -/
theorem MI_copy {κ : Ks} {r s i j n : Nat} (hI : MI κ) (hr : r < 4) (hs : s < 4) (h1 : (i : Int) + n ≤ κ 70 r) (h2 : (j : Int) + n ≤ κ 70 s) : MI (cpy2 (cpy1 κ (24 * r + i) n) (24 * s + j) n) := by
  have iR := hI.2.2.2.1
  refine MI_rows hI (fun t _ g2 g3 => (cp2o g2 _).trans (cp1o g3 _)) (fun z hz => ?_)
  have q := iR z hz
  have qr := iR r hr
  have qs := iR s hs
  have e7 : cpy2 (cpy1 κ (24 * r + i) n) (24 * s + j) n 70 = κ 70 := (cp2o (by decide) _).trans (cp1o (by decide) _)
  rw [e7]
  refine ⟨q.1, fun y hy => ?_⟩
  by_cases c : z = s ∧ j ≤ y ∧ y < j + n
  · obtain ⟨rfl, c⟩ := c
    rw [show 24 * z + y = 24 * z + j + (y - j) by omega, cp2i n (by omega), cp1i n (by omega), show 24 * r + i + (y - j) = 24 * r + (i + (y - j)) by omega]
    exact qr.2 _ (by omega)
  · rw [cp2x n (fun a ha => by omega), cp1o (by decide)]
    exact q.2 y hy
theorem K_copy {κ : Ks} {r i s j n : Int} (hI : MI κ) : MI (M_copy κ r i s j n).2 := by
  unfold M_copy rfM
  (repeat' split) <;> first | exact MI_ref hI (by decide) | (rw [show (24 * r + i).toNat = 24 * r.toNat + i.toNat by omega, show (24 * s + j).toNat = 24 * s.toNat + j.toNat by omega]; exact MI_copy hI (by omega) (by omega) (by omega) (by omega))
theorem K_set {κ : Ks} {w v : Int} (hI : MI κ) : MI (M_set κ w v).2 := by
  unfold M_set rfM
  (repeat' split) <;> first | exact MI_ref hI (by decide) | (exfalso; omega) | exact MI_set0 hI (by omega) | exact MI_set1 hI (by omega) | exact MI_set2 hI (by omega)
