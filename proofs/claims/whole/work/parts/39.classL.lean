/-! the class: a copy (printed by wip/whole/gen39.py) -/
theorem cp1o {κ : Ks} {a t : Nat} (h : t ≠ 88) : ∀ k, cpy1 κ a k t = κ t
  | 0 => rfl
  | k + 1 => (st2_t h).trans (cp1o h k)
theorem cp1i {κ : Ks} {a i : Nat} : ∀ k, i < k → cpy1 κ a k 88 i = κ 71 (a + i)
  | 0, h => absurd h (Nat.not_lt_zero _)
  | k + 1, h => by
    by_cases e : i = k
    · subst e
      exact rd_eq rfl rfl
    · exact (rd_ne (by omega)).trans (cp1i k (by omega))
theorem cp2o {κ : Ks} {b t : Nat} (h : t ≠ 71) : ∀ k, cpy2 κ b k t = κ t
  | 0 => rfl
  | k + 1 => (st2_t h).trans (cp2o h k)
theorem cp2i {κ : Ks} {b i : Nat} : ∀ k, i < k → cpy2 κ b k 71 (b + i) = κ 88 i
  | 0, h => absurd h (Nat.not_lt_zero _)
  | k + 1, h => by
    by_cases e : i = k
    · subst e
      exact rd_eq rfl rfl
    · exact (rd_ne (by omega)).trans (cp2i k (by omega))
theorem cp2x {κ : Ks} {b j : Nat} : ∀ k, (∀ i, i < k → j ≠ b + i) → cpy2 κ b k 71 j = κ 71 j
  | 0, _ => rfl
  | k + 1, h => (rd_ne (Or.inr (h k (by omega)))).trans (cp2x k (fun i hi => h i (by omega)))
theorem PC_copy {κ : Ks} {V : Vs} {r s i j n : Nat} {x w : Int} (h : Inv κ V) (hr : r < 4) (hs : s < 4) (h1 : (i : Int) + n ≤ κ 70 r) (h2 : (j : Int) + n ≤ κ 70 s) (hx : x = w) : PC κ (w, cpy2 (cpy1 κ (24 * r + i) n) (24 * s + j) n) (some (Iv x)) V (rowset κ (23 + 2 * s) (va_cpy (κ (23 + 2 * r)) (κ (23 + 2 * s)) i j n)) := by
  subst hx
  have m : ∀ t : Nat, t ≠ 70 → t ≠ 71 → t ≠ 88 → cpy2 (cpy1 κ (24 * r + i) n) (24 * s + j) n t = κ t := fun t _ g2 g3 => (cp2o g2 _).trans (cp1o g3 _)
  have m4 : ∀ q : Nat, cpy2 (cpy1 κ (24 * r + i) n) (24 * s + j) n 40 q = κ 40 q := fun q => by rw [m 40 (by decide) (by decide) (by decide)]
  have k : ∀ t : Nat, t < 22 ∨ 30 ≤ t → rowset κ (23 + 2 * s) (va_cpy (κ (23 + 2 * r)) (κ (23 + 2 * s)) i j n) t = κ t := fun t ht => rowset_n _ _ (by omega)
  refine ⟨rfl, h.2.2.fr (m4 _) (m4 _) (m4 _) (m4 _), fun t g1 g2 => k t (by omega), CI_rows h.1 h.2.1 k m (fun z hz => ?_)⟩
  have q := h.2.1.2.2.2.2.2.1 z hz
  have qr := h.2.1.2.2.2.2.2.1 r hr
  have q3 := (h.1.2.2.2.1 z hz).1
  have q4 := (h.1.2.2.2.1 s hs).1
  have q5 := (h.1.2.2.2.1 r hr).1
  have e7 : cpy2 (cpy1 κ (24 * r + i) n) (24 * s + j) n 70 = κ 70 := (cp2o (by decide) _).trans (cp1o (by decide) _)
  show _ = cpy2 (cpy1 κ (24 * r + i) n) (24 * s + j) n 70 z ∧ ∀ y : Nat, (y : Int) < cpy2 (cpy1 κ (24 * r + i) n) (24 * s + j) n 70 z → _ = cpy2 (cpy1 κ (24 * r + i) n) (24 * s + j) n 71 (24 * z + y)
  rw [e7]
  refine ⟨(congrFun (rowset_n _ _ (by omega)) 1).trans q.1, fun y hy => ?_⟩
  by_cases e : z = s
  · subst e
    refine rr_s ?_
    unfold va_cpy
    by_cases c : j ≤ y ∧ y < j + n
    · rw [if_pos c, show 24 * z + y = 24 * z + j + (y - j) by omega, cp2i n (by omega), cp1i n (by omega), show 24 * r + i + (y - j) = 24 * r + (i + (y - j)) by omega]
      exact qr.2 _ (by omega)
    · rw [if_neg c, cp2x n (fun a ha => by omega), cp1o (by decide)]
      exact q.2 y hy
  · refine rr_t (by omega) ?_
    rw [cp2x n (fun a ha => by omega), cp1o (by decide)]
    exact q.2 y hy
set_option maxHeartbeats 4000000 in
set_option maxRecDepth 20000 in
theorem c_X9_copy {B : Bs} {n0 : Nat} {V : Vs} {κ : Ks} {r i s j n : Int} (r_r : inR r) (r_i : inR i) (r_s : inR s) (r_j : inR j) (r_n : inR n)  (hInv : Inv κ V) : Ct (XR B n0) mX9_copy 2 0 0 [Rf 1, Iv r, Iv i, Iv s, Iv j, Iv n] V κ (PC κ (M_copy κ r i s j n)) := by
  obtain ⟨hI, hC, hV⟩ := id hInv
  obtain ⟨cA, cB, cC, cD, cE, cF, cG, cS, cL, cH, cN, cT, cW, cK, cZ⟩ := id hC
  obtain ⟨⟨i0, i1, i2, i3, i4, i5, i6, i7, i8, i9⟩, iS, iH, iR, iT, iC, iG, iL, iZ⟩ := id hI
  obtain ⟨⟨cV0, cV1, cV2, cV4⟩, _⟩ := id hV
  obtain ⟨cA0, cA1, cA2⟩ := id cA
  obtain ⟨cB0, cB1, cB2⟩ := id cB
  obtain ⟨⟨⟨⟨z0, z1, z2⟩, z3, z4, z5⟩, z6, z7⟩, z8⟩ := id cZ
  have en0 : κ 2 2 = κ 40 11 := cG.1.2.2.1
  have en1 : κ 3 2 = κ 40 20 := cG.2.1.2.2.1
  have en2 : κ 4 2 = κ 40 31 := cG.2.2.1.2.2.1
  have en3 : κ 5 2 = κ 40 41 := cG.2.2.2.2.2.1
  refine Ct.of (L := [some (Rf 1), some (Iv r), some (Iv i), some (Iv s), some (Iv j), some (Iv n), none, none]) 2 (by decide +kernel) rfl rfl ?_
  refine g_aload_n 1 dX9_copy_0 rfl rfl ?_
  refine g_iload_n 2 dX9_copy_1 rfl rfl ?_
  refine o_V 5 0 0 [Iv r] [] dX9_copy_2 cvX9_118 mwX9_rowAt kd_1 (by decide) rfl (Nat.le_of_ble_eq_true rfl) rfl rfl rfl (c_X9_rowAt (by omega)) (fun h2 => ?_) (fun h2 => ?_)
  · have q1F := cF (r).toNat (by omega)
    have q1R := iR (r).toNat (by omega)
    have q1G := q1F.1
    have q1H := q1R.1
    refine g_astore (L' := [some (Rf 1), some (Iv r), some (Iv i), some (Iv s), some (Iv j), some (Iv n), some (Rf (22 + 2 * (r).toNat)), none]) 7 dX9_copy_5 rfl (by decide) rfl ?_
    refine g_aload_n 8 dX9_copy_7 rfl rfl ?_
    refine g_iload_n 9 dX9_copy_8 rfl rfl ?_
    refine o_V 12 0 0 [Iv s] [] dX9_copy_9 cvX9_118 mwX9_rowAt kd_1 (by decide) rfl (Nat.le_of_ble_eq_true rfl) rfl rfl rfl (c_X9_rowAt (by omega)) (fun h4 => ?_) (fun h4 => ?_)
    · have q3F := cF (s).toNat (by omega)
      have q3R := iR (s).toNat (by omega)
      have q3G := q3F.1
      have q3H := q3R.1
      refine g_astore (L' := [some (Rf 1), some (Iv r), some (Iv i), some (Iv s), some (Iv j), some (Iv n), some (Rf (22 + 2 * (r).toNat)), some (Rf (22 + 2 * (s).toNat))]) 14 dX9_copy_12 rfl (by decide) rfl ?_
      refine g_aload 16 dX9_copy_14 rfl rfl ?_
      refine r_ifnull_s 19 24 dX9_copy_16 (by decide) rfl ?_
      refine g_aload 21 dX9_copy_19 rfl rfl ?_
      refine r_ifnonnull_s 30 dX9_copy_21 (by decide) ?_
      refine g_aload 32 dX9_copy_30 rfl rfl ?_
      refine o_V 35 0 0 [] [] dX9_copy_32 cvX9_126 mwX4_isMissing (kd_R (by omega)) (by decide) rfl (Nat.le_of_ble_eq_true rfl) rfl rfl rfl (c_X4_isMissing (by omega)) (fun h5 => ?_) (fun h5 => ?_)
      · refine g_if_ne 46 38 dX9_copy_35 (by decide) (by decide) rfl (fun _ => ?_) (fun z => absurd z (by decide))
        refine g_aload_n 47 dX9_copy_46 rfl rfl ?_
        refine g_bipush 49 dX9_copy_47 (by decide) rfl ?_
        refine e_V 52 0 0 [Iv (-5)] [] dX9_copy_49 cvX9_74 mwX9_refuse kd_1 (by decide) rfl (Nat.le_of_ble_eq_true rfl) rfl rfl rfl (c_X9_refuse 5 (by decide) (by decide)) ?_
        refine g_iret dX9_copy_52 rfl ?_
        unfold M_copy
        (repeat' split) <;> first | (exfalso; omega) | exact PC_ref hInv (by decide) (by omega) rfl | exact PC_same hInv (by omega) | (rw [show (24 * r + i).toNat = 24 * r.toNat + i.toNat by omega, show (24 * s + j).toNat = 24 * s.toNat + j.toNat by omega]; exact PC_copy hInv (by omega) (by omega) (by omega) (by omega) (by omega))
      refine g_if_ne 46 38 dX9_copy_35 (by decide) (by decide) rfl (fun z => absurd z (by decide)) (fun _ => ?_)
      refine g_aload 40 dX9_copy_38 rfl rfl ?_
      refine o_V 43 0 0 [] [] dX9_copy_40 cvX9_126 mwX4_isMissing (kd_R (by omega)) (by decide) rfl (Nat.le_of_ble_eq_true rfl) rfl rfl rfl (c_X4_isMissing (by omega)) (fun h6 => ?_) (fun h6 => ?_)
      · refine g_if_eq 53 46 dX9_copy_43 (by decide) (by decide) rfl (fun z => absurd z (by decide)) (fun _ => ?_)
        refine g_aload_n 47 dX9_copy_46 rfl rfl ?_
        refine g_bipush 49 dX9_copy_47 (by decide) rfl ?_
        refine e_V 52 0 0 [Iv (-5)] [] dX9_copy_49 cvX9_74 mwX9_refuse kd_1 (by decide) rfl (Nat.le_of_ble_eq_true rfl) rfl rfl rfl (c_X9_refuse 5 (by decide) (by decide)) ?_
        refine g_iret dX9_copy_52 rfl ?_
        unfold M_copy
        (repeat' split) <;> first | (exfalso; omega) | exact PC_ref hInv (by decide) (by omega) rfl | exact PC_same hInv (by omega) | (rw [show (24 * r + i).toNat = 24 * r.toNat + i.toNat by omega, show (24 * s + j).toNat = 24 * s.toNat + j.toNat by omega]; exact PC_copy hInv (by omega) (by omega) (by omega) (by omega) (by omega))
      refine g_if_eq 53 46 dX9_copy_43 (by decide) (by decide) rfl (fun _ => ?_) (fun z => absurd z (by decide))
      refine g_aload 55 dX9_copy_53 rfl rfl ?_
      refine g_iload_n 56 dX9_copy_55 rfl rfl ?_
      refine g_iload 58 dX9_copy_56 rfl rfl ?_
      refine o_V 61 0 0 [Iv i, Iv n] [] dX9_copy_58 cvX9_133 mwX4_hasPlaces (kd_R (by omega)) (by decide) rfl (Nat.le_of_ble_eq_true rfl) rfl rfl rfl (c_X4_hasPlaces (by omega) (by omega) (by omega) (by omega)) (fun h7 => ?_) (fun h7 => ?_)
      · refine g_if_eq 76 64 dX9_copy_61 (by decide) (by decide) rfl (fun z => absurd z (by decide)) (fun _ => ?_)
        refine g_aload 66 dX9_copy_64 rfl rfl ?_
        refine g_iload 68 dX9_copy_66 rfl rfl ?_
        refine g_iload 70 dX9_copy_68 rfl rfl ?_
        refine o_V 73 0 0 [Iv j, Iv n] [] dX9_copy_70 cvX9_133 mwX4_hasPlaces (kd_R (by omega)) (by decide) rfl (Nat.le_of_ble_eq_true rfl) rfl rfl rfl (c_X4_hasPlaces (by omega) (by omega) (by omega) (by omega)) (fun h8 => ?_) (fun h8 => ?_)
        · refine g_if_ne 83 76 dX9_copy_73 (by decide) (by decide) rfl (fun _ => ?_) (fun z => absurd z (by decide))
          refine g_aload 85 dX9_copy_83 rfl rfl ?_
          refine g_getC 88 dX9_copy_85 fgX9_137 (kd_R (by omega)) (ly_R0 (by omega)) rfl ?_
          refine g_iload_n 89 dX9_copy_88 rfl rfl ?_
          refine g_aload 91 dX9_copy_89 rfl rfl ?_
          refine g_getC 94 dX9_copy_91 fgX9_137 (kd_R (by omega)) (ly_R0 (by omega)) rfl ?_
          refine g_iload 96 dX9_copy_94 rfl rfl ?_
          refine g_iload 98 dX9_copy_96 rfl rfl ?_
          refine g_copyI 101 dX9_copy_98 acX9_140 (kd_Rn (by omega)) (kd_Rn (by omega)) (ly_Rn (by omega)) (by decide) (by decide) (by omega) (by omega) (by omega) (by omega) (by omega) (by decide) (Nat.le_of_ble_eq_true rfl) rfl ?_
          refine g_iload 103 dX9_copy_101 rfl rfl ?_
          refine g_iret dX9_copy_103 rfl ?_
          unfold M_copy
          (repeat' split) <;> first | (exfalso; omega) | exact PC_ref hInv (by decide) (by omega) rfl | exact PC_same hInv (by omega) | (rw [show (24 * r + i).toNat = 24 * r.toNat + i.toNat by omega, show (24 * s + j).toNat = 24 * s.toNat + j.toNat by omega]; exact PC_copy hInv (by omega) (by omega) (by omega) (by omega) (by omega))
        refine g_if_ne 83 76 dX9_copy_73 (by decide) (by decide) rfl (fun z => absurd z (by decide)) (fun _ => ?_)
        refine g_aload_n 77 dX9_copy_76 rfl rfl ?_
        refine g_bipush 79 dX9_copy_77 (by decide) rfl ?_
        refine e_V 82 0 0 [Iv (-7)] [] dX9_copy_79 cvX9_74 mwX9_refuse kd_1 (by decide) rfl (Nat.le_of_ble_eq_true rfl) rfl rfl rfl (c_X9_refuse 7 (by decide) (by decide)) ?_
        refine g_iret dX9_copy_82 rfl ?_
        unfold M_copy
        (repeat' split) <;> first | (exfalso; omega) | exact PC_ref hInv (by decide) (by omega) rfl | exact PC_same hInv (by omega) | (rw [show (24 * r + i).toNat = 24 * r.toNat + i.toNat by omega, show (24 * s + j).toNat = 24 * s.toNat + j.toNat by omega]; exact PC_copy hInv (by omega) (by omega) (by omega) (by omega) (by omega))
      refine g_if_eq 76 64 dX9_copy_61 (by decide) (by decide) rfl (fun _ => ?_) (fun z => absurd z (by decide))
      refine g_aload_n 77 dX9_copy_76 rfl rfl ?_
      refine g_bipush 79 dX9_copy_77 (by decide) rfl ?_
      refine e_V 82 0 0 [Iv (-7)] [] dX9_copy_79 cvX9_74 mwX9_refuse kd_1 (by decide) rfl (Nat.le_of_ble_eq_true rfl) rfl rfl rfl (c_X9_refuse 7 (by decide) (by decide)) ?_
      refine g_iret dX9_copy_82 rfl ?_
      unfold M_copy
      (repeat' split) <;> first | (exfalso; omega) | exact PC_ref hInv (by decide) (by omega) rfl | exact PC_same hInv (by omega) | (rw [show (24 * r + i).toNat = 24 * r.toNat + i.toNat by omega, show (24 * s + j).toNat = 24 * s.toNat + j.toNat by omega]; exact PC_copy hInv (by omega) (by omega) (by omega) (by omega) (by omega))
    refine g_astore (L' := [some (Rf 1), some (Iv r), some (Iv i), some (Iv s), some (Iv j), some (Iv n), some (Rf (22 + 2 * (r).toNat)), some (Nl)]) 14 dX9_copy_12 rfl (by decide) rfl ?_
    refine g_aload 16 dX9_copy_14 rfl rfl ?_
    refine r_ifnull_s 19 24 dX9_copy_16 (by decide) rfl ?_
    refine g_aload 21 dX9_copy_19 rfl rfl ?_
    refine r_ifnonnull_n 24 30 dX9_copy_21 (by decide) rfl ?_
    refine g_aload_n 25 dX9_copy_24 rfl rfl ?_
    refine g_iconst 26 dX9_copy_25 (by decide) rfl ?_
    refine e_V 29 0 0 [Iv (-1)] [] dX9_copy_26 cvX9_74 mwX9_refuse kd_1 (by decide) rfl (Nat.le_of_ble_eq_true rfl) rfl rfl rfl (c_X9_refuse 1 (by decide) (by decide)) ?_
    refine g_iret dX9_copy_29 rfl ?_
    unfold M_copy
    (repeat' split) <;> first | (exfalso; omega) | exact PC_ref hInv (by decide) (by omega) rfl | exact PC_same hInv (by omega) | (rw [show (24 * r + i).toNat = 24 * r.toNat + i.toNat by omega, show (24 * s + j).toNat = 24 * s.toNat + j.toNat by omega]; exact PC_copy hInv (by omega) (by omega) (by omega) (by omega) (by omega))
  refine g_astore (L' := [some (Rf 1), some (Iv r), some (Iv i), some (Iv s), some (Iv j), some (Iv n), some (Nl), none]) 7 dX9_copy_5 rfl (by decide) rfl ?_
  refine g_aload_n 8 dX9_copy_7 rfl rfl ?_
  refine g_iload_n 9 dX9_copy_8 rfl rfl ?_
  refine o_V 12 0 0 [Iv s] [] dX9_copy_9 cvX9_118 mwX9_rowAt kd_1 (by decide) rfl (Nat.le_of_ble_eq_true rfl) rfl rfl rfl (c_X9_rowAt (by omega)) (fun h10 => ?_) (fun h10 => ?_)
  · have q9F := cF (s).toNat (by omega)
    have q9R := iR (s).toNat (by omega)
    have q9G := q9F.1
    have q9H := q9R.1
    refine g_astore (L' := [some (Rf 1), some (Iv r), some (Iv i), some (Iv s), some (Iv j), some (Iv n), some (Nl), some (Rf (22 + 2 * (s).toNat))]) 14 dX9_copy_12 rfl (by decide) rfl ?_
    refine g_aload 16 dX9_copy_14 rfl rfl ?_
    refine r_ifnull_n 24 dX9_copy_16 (by decide) ?_
    refine g_aload_n 25 dX9_copy_24 rfl rfl ?_
    refine g_iconst 26 dX9_copy_25 (by decide) rfl ?_
    refine e_V 29 0 0 [Iv (-1)] [] dX9_copy_26 cvX9_74 mwX9_refuse kd_1 (by decide) rfl (Nat.le_of_ble_eq_true rfl) rfl rfl rfl (c_X9_refuse 1 (by decide) (by decide)) ?_
    refine g_iret dX9_copy_29 rfl ?_
    unfold M_copy
    (repeat' split) <;> first | (exfalso; omega) | exact PC_ref hInv (by decide) (by omega) rfl | exact PC_same hInv (by omega) | (rw [show (24 * r + i).toNat = 24 * r.toNat + i.toNat by omega, show (24 * s + j).toNat = 24 * s.toNat + j.toNat by omega]; exact PC_copy hInv (by omega) (by omega) (by omega) (by omega) (by omega))
  refine g_astore (L' := [some (Rf 1), some (Iv r), some (Iv i), some (Iv s), some (Iv j), some (Iv n), some (Nl), some (Nl)]) 14 dX9_copy_12 rfl (by decide) rfl ?_
  refine g_aload 16 dX9_copy_14 rfl rfl ?_
  refine r_ifnull_n 24 dX9_copy_16 (by decide) ?_
  refine g_aload_n 25 dX9_copy_24 rfl rfl ?_
  refine g_iconst 26 dX9_copy_25 (by decide) rfl ?_
  refine e_V 29 0 0 [Iv (-1)] [] dX9_copy_26 cvX9_74 mwX9_refuse kd_1 (by decide) rfl (Nat.le_of_ble_eq_true rfl) rfl rfl rfl (c_X9_refuse 1 (by decide) (by decide)) ?_
  refine g_iret dX9_copy_29 rfl ?_
  unfold M_copy
  (repeat' split) <;> first | (exfalso; omega) | exact PC_ref hInv (by decide) (by omega) rfl | exact PC_same hInv (by omega) | (rw [show (24 * r + i).toNat = 24 * r.toNat + i.toNat by omega, show (24 * s + j).toNat = 24 * s.toNat + j.toNat by omega]; exact PC_copy hInv (by omega) (by omega) (by omega) (by omega) (by omega))
