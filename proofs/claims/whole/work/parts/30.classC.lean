/-! the class: public methods of one write (printed by wip/whole/gen30.py) -/
theorem st2_id {κ : Ks} {t j : Nat} {v : Int} (h : κ t j = v) : st2 κ t j v = κ := by
  funext a b
  by_cases e : a = t ∧ b = j
  · obtain ⟨rfl, rfl⟩ := e
    rw [rd_eq rfl rfl]
    exact h.symm
  · exact rd_ne (by omega)
set_option maxHeartbeats 4000000 in
set_option maxRecDepth 20000 in
theorem c_X9_coal {B : Bs} {n0 : Nat} {V : Vs} {κ : Ks} {n : Int} (r_n : inR n)  (hInv : Inv κ V) : Ct (XR B n0) mX9_coal 2 0 0 [Rf 1, Iv n] V κ (PC κ (M_coal κ n)) := by
  obtain ⟨hI, hC, hV⟩ := id hInv
  obtain ⟨cA, cB, cC, cD, cE, cF, cG, cS, cL, cH, cN, cT, cW, cK, cZ⟩ := id hC
  obtain ⟨⟨i0, i1, i2, i3, i4, i5, i6, i7, i8, i9⟩, iS, iH, iR, iT, iC, iG, iL, iZ⟩ := id hI
  obtain ⟨⟨cV0, cV1, cV2, cV4⟩, _⟩ := id hV
  obtain ⟨cA0, cA1, cA2⟩ := id cA
  obtain ⟨cB0, cB1, cB2⟩ := id cB
  obtain ⟨⟨⟨⟨z0, z1, z2⟩, z3, z4, z5⟩, z6, z7⟩, z8⟩ := id cZ
  have en0 : κ 2 2 = κ 40 11 := cG.1.2.2.1
  have en1 : κ 3 2 = κ 40 20 := cG.2.1.2.2.1
  have en2 : κ 4 2 = κ 40 31 := cG.2.2.1.2.2.1
  have en3 : κ 5 2 = κ 40 41 := cG.2.2.2.2.2.1
  refine Ct.of (L := [some (Rf 1), some (Iv n)]) 0 (by decide +kernel) rfl rfl ?_
  refine g_iload_n 1 dX9_coal_0 rfl rfl ?_
  refine g_if_ge 11 4 dX9_coal_1 (by first | assumption | omega) (by decide) rfl (fun h1 => ?_) (fun h1 => ?_)
  · refine g_iload_n 12 dX9_coal_11 rfl rfl ?_
    refine g_ldc (n := 100000) 14 dX9_coal_12 kcX9_100 (by decide) rfl ?_
    refine g_aload_n 15 dX9_coal_14 rfl rfl ?_
    refine r_getI 18 (κ 1 13) dX9_coal_15 fgX9_101 kd_1 ly_1_13 rfl (rfl) (fun r2 => ?_)
    refine g_isub 19 dX9_coal_18 rfl ?_
    refine g_icmp_le 29 22 dX9_coal_19 (by first | assumption | omega) (by first | assumption | omega) (by decide) rfl (fun h3 => ?_) (fun h3 => ?_)
    · refine g_aload_n 30 dX9_coal_29 rfl rfl ?_
      refine g_dup 31 dX9_coal_30 rfl ?_
      refine r_getI 34 (κ 1 13) dX9_coal_31 fgX9_101 kd_1 ly_1_13 rfl (rfl) (fun r4 => ?_)
      refine g_iload_n 35 dX9_coal_34 rfl rfl ?_
      refine g_iadd 36 dX9_coal_35 rfl ?_
      refine g_putI 39 dX9_coal_36 fpX9_101 (fun h => (nomatch h)) kd_1 ly_1_13 (by omega) rfl ?_
      refine g_aload_n 40 dX9_coal_39 rfl rfl ?_
      refine r_getI 43 (((κ 1 13) + n)) dX9_coal_40 fgX9_101 kd_1 ly_1_13 rfl (rd_s rfl rfl rfl) (fun r5 => ?_)
      refine g_iret dX9_coal_43 rfl ?_
      unfold M_coal
      (repeat' split) <;> first | (exfalso; omega) | exact PC_ref hInv (by decide) (by omega) rfl | exact PC_same hInv (by omega) | exact PC_coal hInv (by omega) (by omega) (by first | rfl | (congr 1 <;> first | rfl | omega))
    refine g_aload_n 23 dX9_coal_22 rfl rfl ?_
    refine g_bipush 25 dX9_coal_23 (by decide) rfl ?_
    refine e_V 28 0 0 [Iv (-6)] [] dX9_coal_25 cvX9_74 mwX9_refuse kd_1 (by decide) rfl (Nat.le_of_ble_eq_true rfl) rfl rfl rfl (c_X9_refuse 6 (by decide) (by decide)) ?_
    refine g_iret dX9_coal_28 rfl ?_
    unfold M_coal
    (repeat' split) <;> first | (exfalso; omega) | exact PC_ref hInv (by decide) (by omega) rfl | exact PC_same hInv (by omega) | exact PC_coal hInv (by omega) (by omega) (by first | rfl | (congr 1 <;> first | rfl | omega))
  refine g_aload_n 5 dX9_coal_4 rfl rfl ?_
  refine g_bipush 7 dX9_coal_5 (by decide) rfl ?_
  refine e_V 10 0 0 [Iv (-4)] [] dX9_coal_7 cvX9_74 mwX9_refuse kd_1 (by decide) rfl (Nat.le_of_ble_eq_true rfl) rfl rfl rfl (c_X9_refuse 4 (by decide) (by decide)) ?_
  refine g_iret dX9_coal_10 rfl ?_
  unfold M_coal
  (repeat' split) <;> first | (exfalso; omega) | exact PC_ref hInv (by decide) (by omega) rfl | exact PC_same hInv (by omega) | exact PC_coal hInv (by omega) (by omega) (by first | rfl | (congr 1 <;> first | rfl | omega))
set_option maxHeartbeats 4000000 in
set_option maxRecDepth 20000 in
theorem c_X9_lose {B : Bs} {n0 : Nat} {V : Vs} {κ : Ks} {r : Int} (r_r : inR r)  (hInv : Inv κ V) : Ct (XR B n0) mX9_lose 2 0 0 [Rf 1, Iv r] V κ (PC κ (M_lose κ r)) := by
  obtain ⟨hI, hC, hV⟩ := id hInv
  obtain ⟨cA, cB, cC, cD, cE, cF, cG, cS, cL, cH, cN, cT, cW, cK, cZ⟩ := id hC
  obtain ⟨⟨i0, i1, i2, i3, i4, i5, i6, i7, i8, i9⟩, iS, iH, iR, iT, iC, iG, iL, iZ⟩ := id hI
  obtain ⟨⟨cV0, cV1, cV2, cV4⟩, _⟩ := id hV
  obtain ⟨cA0, cA1, cA2⟩ := id cA
  obtain ⟨cB0, cB1, cB2⟩ := id cB
  obtain ⟨⟨⟨⟨z0, z1, z2⟩, z3, z4, z5⟩, z6, z7⟩, z8⟩ := id cZ
  have en0 : κ 2 2 = κ 40 11 := cG.1.2.2.1
  have en1 : κ 3 2 = κ 40 20 := cG.2.1.2.2.1
  have en2 : κ 4 2 = κ 40 31 := cG.2.2.1.2.2.1
  have en3 : κ 5 2 = κ 40 41 := cG.2.2.2.2.2.1
  refine Ct.of (L := [some (Rf 1), some (Iv r), none]) 1 (by decide +kernel) rfl rfl ?_
  refine g_aload_n 1 dX9_lose_0 rfl rfl ?_
  refine g_iload_n 2 dX9_lose_1 rfl rfl ?_
  refine o_V 5 0 0 [Iv r] [] dX9_lose_2 cvX9_118 mwX9_rowAt kd_1 (by decide) rfl (Nat.le_of_ble_eq_true rfl) rfl rfl rfl (c_X9_rowAt (by omega)) (fun h2 => ?_) (fun h2 => ?_)
  · have q1F := cF (r).toNat (by omega)
    have q1R := iR (r).toNat (by omega)
    have q1G := q1F.1
    have q1H := q1R.1
    refine g_astore_n (L' := [some (Rf 1), some (Iv r), some (Rf (22 + 2 * (r).toNat))]) 6 dX9_lose_5 rfl (by decide) rfl ?_
    refine g_aload_n 7 dX9_lose_6 rfl rfl ?_
    refine r_ifnonnull_s 16 dX9_lose_7 (by decide) ?_
    refine g_aload_n 17 dX9_lose_16 rfl rfl ?_
    refine o_V 20 0 0 [] [] dX9_lose_17 cvX9_126 mwX4_isMissing (kd_R (by omega)) (by decide) rfl (Nat.le_of_ble_eq_true rfl) rfl rfl rfl (c_X4_isMissing (by omega)) (fun h3 => ?_) (fun h3 => ?_)
    · refine g_if_eq 25 23 dX9_lose_20 (by decide) (by decide) rfl (fun z => absurd z (by decide)) (fun _ => ?_)
      refine g_iconst 24 dX9_lose_23 (by decide) rfl ?_
      refine g_iret dX9_lose_24 rfl ?_
      unfold M_lose
      (repeat' split) <;> first | (exfalso; omega) | exact PC_ref hInv (by decide) (by omega) rfl | exact PC_same hInv (by omega) | exact PC_lose hInv (by omega) (by omega) rfl | (rw [st2_id (by omega)]; exact PC_same hInv (by omega))
    refine g_if_eq 25 23 dX9_lose_20 (by decide) (by decide) rfl (fun _ => ?_) (fun z => absurd z (by decide))
    refine g_aload_n 26 dX9_lose_25 rfl rfl ?_
    refine v_V 29 0 0 [] [] dX9_lose_26 cvX9_130 mwX4_forget (kd_R (by omega)) (by decide) rfl (Nat.le_of_ble_eq_true rfl) rfl rfl rfl (c_X4_forget (by omega)) ?_
    refine g_iconst 30 dX9_lose_29 (by decide) rfl ?_
    refine g_iret dX9_lose_30 rfl ?_
    unfold M_lose
    (repeat' split) <;> first | (exfalso; omega) | exact PC_ref hInv (by decide) (by omega) rfl | exact PC_same hInv (by omega) | exact PC_lose hInv (by omega) (by omega) rfl | (rw [st2_id (by omega)]; exact PC_same hInv (by omega))
  refine g_astore_n (L' := [some (Rf 1), some (Iv r), some (Nl)]) 6 dX9_lose_5 rfl (by decide) rfl ?_
  refine g_aload_n 7 dX9_lose_6 rfl rfl ?_
  refine r_ifnonnull_n 10 16 dX9_lose_7 (by decide) rfl ?_
  refine g_aload_n 11 dX9_lose_10 rfl rfl ?_
  refine g_iconst 12 dX9_lose_11 (by decide) rfl ?_
  refine e_V 15 0 0 [Iv (-1)] [] dX9_lose_12 cvX9_74 mwX9_refuse kd_1 (by decide) rfl (Nat.le_of_ble_eq_true rfl) rfl rfl rfl (c_X9_refuse 1 (by decide) (by decide)) ?_
  refine g_iret dX9_lose_15 rfl ?_
  unfold M_lose
  (repeat' split) <;> first | (exfalso; omega) | exact PC_ref hInv (by decide) (by omega) rfl | exact PC_same hInv (by omega) | exact PC_lose hInv (by omega) (by omega) rfl | (rw [st2_id (by omega)]; exact PC_same hInv (by omega))
set_option maxHeartbeats 4000000 in
set_option maxRecDepth 20000 in
theorem c_X9_put {B : Bs} {n0 : Nat} {V : Vs} {κ : Ks} {r p n : Int} (r_r : inR r) (r_p : inR p) (r_n : inR n)  (hInv : Inv κ V) : Ct (XR B n0) mX9_put 2 0 0 [Rf 1, Iv r, Iv p, Iv n] V κ (PC κ (M_put κ r p n)) := by
  obtain ⟨hI, hC, hV⟩ := id hInv
  obtain ⟨cA, cB, cC, cD, cE, cF, cG, cS, cL, cH, cN, cT, cW, cK, cZ⟩ := id hC
  obtain ⟨⟨i0, i1, i2, i3, i4, i5, i6, i7, i8, i9⟩, iS, iH, iR, iT, iC, iG, iL, iZ⟩ := id hI
  obtain ⟨⟨cV0, cV1, cV2, cV4⟩, _⟩ := id hV
  obtain ⟨cA0, cA1, cA2⟩ := id cA
  obtain ⟨cB0, cB1, cB2⟩ := id cB
  obtain ⟨⟨⟨⟨z0, z1, z2⟩, z3, z4, z5⟩, z6, z7⟩, z8⟩ := id cZ
  have en0 : κ 2 2 = κ 40 11 := cG.1.2.2.1
  have en1 : κ 3 2 = κ 40 20 := cG.2.1.2.2.1
  have en2 : κ 4 2 = κ 40 31 := cG.2.2.1.2.2.1
  have en3 : κ 5 2 = κ 40 41 := cG.2.2.2.2.2.1
  refine Ct.of (L := [some (Rf 1), some (Iv r), some (Iv p), some (Iv n), none, none]) 2 (by decide +kernel) rfl rfl ?_
  refine g_aload_n 1 dX9_put_0 rfl rfl ?_
  refine g_iload_n 2 dX9_put_1 rfl rfl ?_
  refine o_V 5 0 0 [Iv r] [] dX9_put_2 cvX9_118 mwX9_rowAt kd_1 (by decide) rfl (Nat.le_of_ble_eq_true rfl) rfl rfl rfl (c_X9_rowAt (by omega)) (fun h2 => ?_) (fun h2 => ?_)
  · have q1F := cF (r).toNat (by omega)
    have q1R := iR (r).toNat (by omega)
    have q1G := q1F.1
    have q1H := q1R.1
    refine g_astore (L' := [some (Rf 1), some (Iv r), some (Iv p), some (Iv n), some (Rf (22 + 2 * (r).toNat)), none]) 7 dX9_put_5 rfl (by decide) rfl ?_
    refine g_aload 9 dX9_put_7 rfl rfl ?_
    refine r_ifnonnull_s 18 dX9_put_9 (by decide) ?_
    refine g_aload 20 dX9_put_18 rfl rfl ?_
    refine o_V 23 0 0 [] [] dX9_put_20 cvX9_126 mwX4_isMissing (kd_R (by omega)) (by decide) rfl (Nat.le_of_ble_eq_true rfl) rfl rfl rfl (c_X4_isMissing (by omega)) (fun h3 => ?_) (fun h3 => ?_)
    · refine g_if_eq 33 26 dX9_put_23 (by decide) (by decide) rfl (fun z => absurd z (by decide)) (fun _ => ?_)
      refine g_aload_n 27 dX9_put_26 rfl rfl ?_
      refine g_bipush 29 dX9_put_27 (by decide) rfl ?_
      refine e_V 32 0 0 [Iv (-5)] [] dX9_put_29 cvX9_74 mwX9_refuse kd_1 (by decide) rfl (Nat.le_of_ble_eq_true rfl) rfl rfl rfl (c_X9_refuse 5 (by decide) (by decide)) ?_
      refine g_iret dX9_put_32 rfl ?_
      unfold M_put
      (repeat' split) <;> first | (exfalso; omega) | exact PC_ref hInv (by decide) (by omega) rfl | exact PC_same hInv (by omega) | (rw [show (24 * r + p).toNat = 24 * r.toNat + p.toNat by omega]; exact PC_put hInv (by omega) (by omega) (by omega) (by omega) (by have := q1F.2 p.toNat (by omega); omega) rfl)
    refine g_if_eq 33 26 dX9_put_23 (by decide) (by decide) rfl (fun _ => ?_) (fun z => absurd z (by decide))
    refine g_aload 35 dX9_put_33 rfl rfl ?_
    refine g_iload_n 36 dX9_put_35 rfl rfl ?_
    refine g_iconst 37 dX9_put_36 (by decide) rfl ?_
    refine o_V 40 0 0 [Iv p, Iv 1] [] dX9_put_37 cvX9_133 mwX4_hasPlaces (kd_R (by omega)) (by decide) rfl (Nat.le_of_ble_eq_true rfl) rfl rfl rfl (c_X4_hasPlaces (by omega) (by omega) (by omega) (by omega)) (fun h4 => ?_) (fun h4 => ?_)
    · refine g_if_ne 50 43 dX9_put_40 (by decide) (by decide) rfl (fun _ => ?_) (fun z => absurd z (by decide))
      refine g_iload_n 51 dX9_put_50 rfl rfl ?_
      refine g_if_ge 61 54 dX9_put_51 (by first | assumption | omega) (by decide) rfl (fun h5 => ?_) (fun h5 => ?_)
      · refine g_iload_n 62 dX9_put_61 rfl rfl ?_
        refine g_bipush 64 dX9_put_62 (by decide) rfl ?_
        refine g_icmp_le 74 67 dX9_put_64 (by first | assumption | omega) (by decide) (by decide) rfl (fun h6 => ?_) (fun h6 => ?_)
        · refine g_aload 76 dX9_put_74 rfl rfl ?_
          refine g_getC 79 dX9_put_76 fgX9_137 (kd_R (by omega)) (ly_R0 (by omega)) rfl ?_
          refine g_iload_n 80 dX9_put_79 rfl rfl ?_
          refine r_iald 81 ((p).toNat) (κ (23 + 2 * (r).toNat) ((p).toNat)) dX9_put_80 (kd_Rn (by omega)) (by decide) (by omega) (rfl) rfl (rfl) (fun r7 => ?_)
          refine g_istore (L' := [some (Rf 1), some (Iv r), some (Iv p), some (Iv n), some (Rf (22 + 2 * (r).toNat)), some (Iv (κ (23 + 2 * (r).toNat) ((p).toNat)))]) 83 dX9_put_81 rfl (by decide) rfl ?_
          refine g_aload 85 dX9_put_83 rfl rfl ?_
          refine g_getC 88 dX9_put_85 fgX9_137 (kd_R (by omega)) (ly_R0 (by omega)) rfl ?_
          refine g_iload_n 89 dX9_put_88 rfl rfl ?_
          refine g_iload_n 90 dX9_put_89 rfl rfl ?_
          refine r_iast 91 ((p).toNat) dX9_put_90 (kd_Rn (by omega)) (by decide) (ly_Rn (by omega)) (by omega) (rfl) (by omega) rfl ?_
          refine g_iload 93 dX9_put_91 rfl rfl ?_
          refine g_iret dX9_put_93 rfl ?_
          unfold M_put
          (repeat' split) <;> first | (exfalso; omega) | exact PC_ref hInv (by decide) (by omega) rfl | exact PC_same hInv (by omega) | (rw [show (24 * r + p).toNat = 24 * r.toNat + p.toNat by omega]; exact PC_put hInv (by omega) (by omega) (by omega) (by omega) (by have := q1F.2 p.toNat (by omega); omega) rfl)
        refine g_aload_n 68 dX9_put_67 rfl rfl ?_
        refine g_bipush 70 dX9_put_68 (by decide) rfl ?_
        refine e_V 73 0 0 [Iv (-6)] [] dX9_put_70 cvX9_74 mwX9_refuse kd_1 (by decide) rfl (Nat.le_of_ble_eq_true rfl) rfl rfl rfl (c_X9_refuse 6 (by decide) (by decide)) ?_
        refine g_iret dX9_put_73 rfl ?_
        unfold M_put
        (repeat' split) <;> first | (exfalso; omega) | exact PC_ref hInv (by decide) (by omega) rfl | exact PC_same hInv (by omega) | (rw [show (24 * r + p).toNat = 24 * r.toNat + p.toNat by omega]; exact PC_put hInv (by omega) (by omega) (by omega) (by omega) (by have := q1F.2 p.toNat (by omega); omega) rfl)
      refine g_aload_n 55 dX9_put_54 rfl rfl ?_
      refine g_bipush 57 dX9_put_55 (by decide) rfl ?_
      refine e_V 60 0 0 [Iv (-4)] [] dX9_put_57 cvX9_74 mwX9_refuse kd_1 (by decide) rfl (Nat.le_of_ble_eq_true rfl) rfl rfl rfl (c_X9_refuse 4 (by decide) (by decide)) ?_
      refine g_iret dX9_put_60 rfl ?_
      unfold M_put
      (repeat' split) <;> first | (exfalso; omega) | exact PC_ref hInv (by decide) (by omega) rfl | exact PC_same hInv (by omega) | (rw [show (24 * r + p).toNat = 24 * r.toNat + p.toNat by omega]; exact PC_put hInv (by omega) (by omega) (by omega) (by omega) (by have := q1F.2 p.toNat (by omega); omega) rfl)
    refine g_if_ne 50 43 dX9_put_40 (by decide) (by decide) rfl (fun z => absurd z (by decide)) (fun _ => ?_)
    refine g_aload_n 44 dX9_put_43 rfl rfl ?_
    refine g_bipush 46 dX9_put_44 (by decide) rfl ?_
    refine e_V 49 0 0 [Iv (-7)] [] dX9_put_46 cvX9_74 mwX9_refuse kd_1 (by decide) rfl (Nat.le_of_ble_eq_true rfl) rfl rfl rfl (c_X9_refuse 7 (by decide) (by decide)) ?_
    refine g_iret dX9_put_49 rfl ?_
    unfold M_put
    (repeat' split) <;> first | (exfalso; omega) | exact PC_ref hInv (by decide) (by omega) rfl | exact PC_same hInv (by omega) | (rw [show (24 * r + p).toNat = 24 * r.toNat + p.toNat by omega]; exact PC_put hInv (by omega) (by omega) (by omega) (by omega) (by have := q1F.2 p.toNat (by omega); omega) rfl)
  refine g_astore (L' := [some (Rf 1), some (Iv r), some (Iv p), some (Iv n), some (Nl), none]) 7 dX9_put_5 rfl (by decide) rfl ?_
  refine g_aload 9 dX9_put_7 rfl rfl ?_
  refine r_ifnonnull_n 12 18 dX9_put_9 (by decide) rfl ?_
  refine g_aload_n 13 dX9_put_12 rfl rfl ?_
  refine g_iconst 14 dX9_put_13 (by decide) rfl ?_
  refine e_V 17 0 0 [Iv (-1)] [] dX9_put_14 cvX9_74 mwX9_refuse kd_1 (by decide) rfl (Nat.le_of_ble_eq_true rfl) rfl rfl rfl (c_X9_refuse 1 (by decide) (by decide)) ?_
  refine g_iret dX9_put_17 rfl ?_
  unfold M_put
  (repeat' split) <;> first | (exfalso; omega) | exact PC_ref hInv (by decide) (by omega) rfl | exact PC_same hInv (by omega) | (rw [show (24 * r + p).toNat = 24 * r.toNat + p.toNat by omega]; exact PC_put hInv (by omega) (by omega) (by omega) (by omega) (by have := q1F.2 p.toNat (by omega); omega) rfl)
set_option maxHeartbeats 4000000 in
set_option maxRecDepth 20000 in
theorem c_X9_lead {B : Bs} {n0 : Nat} {V : Vs} {κ : Ks} {h r : Int} (r_h : inR h) (r_r : inR r)  (hInv : Inv κ V) : Ct (XR B n0) mX9_lead 5 0 0 [Rf 1, Iv h, Iv r] V κ (PC κ (M_lead κ h r)) := by
  obtain ⟨hI, hC, hV⟩ := id hInv
  obtain ⟨cA, cB, cC, cD, cE, cF, cG, cS, cL, cH, cN, cT, cW, cK, cZ⟩ := id hC
  obtain ⟨⟨i0, i1, i2, i3, i4, i5, i6, i7, i8, i9⟩, iS, iH, iR, iT, iC, iG, iL, iZ⟩ := id hI
  obtain ⟨⟨cV0, cV1, cV2, cV4⟩, _⟩ := id hV
  obtain ⟨cA0, cA1, cA2⟩ := id cA
  obtain ⟨cB0, cB1, cB2⟩ := id cB
  obtain ⟨⟨⟨⟨z0, z1, z2⟩, z3, z4, z5⟩, z6, z7⟩, z8⟩ := id cZ
  have en0 : κ 2 2 = κ 40 11 := cG.1.2.2.1
  have en1 : κ 3 2 = κ 40 20 := cG.2.1.2.2.1
  have en2 : κ 4 2 = κ 40 31 := cG.2.2.1.2.2.1
  have en3 : κ 5 2 = κ 40 41 := cG.2.2.2.2.2.1
  refine Ct.of (L := [some (Rf 1), some (Iv h), some (Iv r), none, none]) 2 (by decide +kernel) rfl rfl ?_
  refine g_aload_n 1 dX9_lead_0 rfl rfl ?_
  refine g_iload_n 2 dX9_lead_1 rfl rfl ?_
  refine o_V 5 0 0 [Iv h] [] dX9_lead_2 cvX9_146 mwX9_houseAt kd_1 (by decide) rfl (Nat.le_of_ble_eq_true rfl) rfl rfl rfl (c_X9_houseAt cG.2.1 (by omega) (by omega)) (fun h1 => ?_) (fun h1 => ?_)
  · have qH := cH (h).toNat (by omega)
    have qJ := iH (h).toNat (by omega)
    refine g_astore_n (L' := [some (Rf 1), some (Iv h), some (Iv r), some (Rf (200 + (h).toNat)), none]) 6 dX9_lead_5 rfl (by decide) rfl ?_
    refine g_aload_n 7 dX9_lead_6 rfl rfl ?_
    refine r_ifnull_s 10 23 dX9_lead_7 (by decide) rfl ?_
    refine g_iload_n 11 dX9_lead_10 rfl rfl ?_
    refine g_iconst 12 dX9_lead_11 (by decide) rfl ?_
    refine g_icmp_eq 29 15 dX9_lead_12 (by first | assumption | omega) (by decide) (by decide) rfl (fun h2 => ?_) (fun h2 => ?_)
    · refine g_aload_n 30 dX9_lead_29 rfl rfl ?_
      refine r_getI 33 (κ (200 + (h).toNat) 5) dX9_lead_30 fgX9_153 (kd_H (by omega)) (ly_H (by omega) 5) rfl (rfl) (fun r3 => ?_)
      refine g_istore (L' := [some (Rf 1), some (Iv h), some (Iv r), some (Rf (200 + (h).toNat)), some (Iv (κ (200 + (h).toNat) 5))]) 35 dX9_lead_33 rfl (by decide) rfl ?_
      refine g_aload_n 36 dX9_lead_35 rfl rfl ?_
      refine g_iload_n 37 dX9_lead_36 rfl rfl ?_
      refine g_putI 40 dX9_lead_37 fpX9_153 (fun h => (nomatch h)) (kd_H (by omega)) (ly_H (by omega) 5) (by omega) rfl ?_
      refine g_iload 42 dX9_lead_40 rfl rfl ?_
      refine g_iret dX9_lead_42 rfl ?_
      unfold M_lead
      (repeat' split) <;> first | (exfalso; omega) | exact PC_ref hInv (by decide) (by omega) rfl | exact PC_same hInv (by omega) | exact PC_lead hInv (by omega) (by omega) (by omega) rfl
    refine g_aload_n 16 dX9_lead_15 rfl rfl ?_
    refine g_iload_n 17 dX9_lead_16 rfl rfl ?_
    refine o_V 20 0 0 [Iv r] [] dX9_lead_17 cvX9_118 mwX9_rowAt kd_1 (by decide) rfl (Nat.le_of_ble_eq_true rfl) rfl rfl rfl (c_X9_rowAt (by omega)) (fun h5 => ?_) (fun h5 => ?_)
    · have q4F := cF (r).toNat (by omega)
      have q4R := iR (r).toNat (by omega)
      have q4G := q4F.1
      have q4H := q4R.1
      refine r_ifnonnull_s 29 dX9_lead_20 (by decide) ?_
      refine g_aload_n 30 dX9_lead_29 rfl rfl ?_
      refine r_getI 33 (κ (200 + (h).toNat) 5) dX9_lead_30 fgX9_153 (kd_H (by omega)) (ly_H (by omega) 5) rfl (rfl) (fun r6 => ?_)
      refine g_istore (L' := [some (Rf 1), some (Iv h), some (Iv r), some (Rf (200 + (h).toNat)), some (Iv (κ (200 + (h).toNat) 5))]) 35 dX9_lead_33 rfl (by decide) rfl ?_
      refine g_aload_n 36 dX9_lead_35 rfl rfl ?_
      refine g_iload_n 37 dX9_lead_36 rfl rfl ?_
      refine g_putI 40 dX9_lead_37 fpX9_153 (fun h => (nomatch h)) (kd_H (by omega)) (ly_H (by omega) 5) (by omega) rfl ?_
      refine g_iload 42 dX9_lead_40 rfl rfl ?_
      refine g_iret dX9_lead_42 rfl ?_
      unfold M_lead
      (repeat' split) <;> first | (exfalso; omega) | exact PC_ref hInv (by decide) (by omega) rfl | exact PC_same hInv (by omega) | exact PC_lead hInv (by omega) (by omega) (by omega) rfl
    refine r_ifnonnull_n 23 29 dX9_lead_20 (by decide) rfl ?_
    refine g_aload_n 24 dX9_lead_23 rfl rfl ?_
    refine g_iconst 25 dX9_lead_24 (by decide) rfl ?_
    refine e_V 28 0 0 [Iv (-1)] [] dX9_lead_25 cvX9_150 mwX9_refuseAside kd_1 (by decide) rfl (Nat.le_of_ble_eq_true rfl) rfl rfl rfl (c_X9_refuseAside 1 (by decide) (by decide)) ?_
    refine g_iret dX9_lead_28 rfl ?_
    unfold M_lead
    (repeat' split) <;> first | (exfalso; omega) | exact PC_ref hInv (by decide) (by omega) rfl | exact PC_same hInv (by omega) | exact PC_lead hInv (by omega) (by omega) (by omega) rfl
  refine g_astore_n (L' := [some (Rf 1), some (Iv h), some (Iv r), some (Nl), none]) 6 dX9_lead_5 rfl (by decide) rfl ?_
  refine g_aload_n 7 dX9_lead_6 rfl rfl ?_
  refine r_ifnull_n 23 dX9_lead_7 (by decide) ?_
  refine g_aload_n 24 dX9_lead_23 rfl rfl ?_
  refine g_iconst 25 dX9_lead_24 (by decide) rfl ?_
  refine e_V 28 0 0 [Iv (-1)] [] dX9_lead_25 cvX9_150 mwX9_refuseAside kd_1 (by decide) rfl (Nat.le_of_ble_eq_true rfl) rfl rfl rfl (c_X9_refuseAside 1 (by decide) (by decide)) ?_
  refine g_iret dX9_lead_28 rfl ?_
  unfold M_lead
  (repeat' split) <;> first | (exfalso; omega) | exact PC_ref hInv (by decide) (by omega) rfl | exact PC_same hInv (by omega) | exact PC_lead hInv (by omega) (by omega) (by omega) rfl
set_option maxHeartbeats 4000000 in
set_option maxRecDepth 20000 in
theorem c_X9_stand {B : Bs} {n0 : Nat} {V : Vs} {κ : Ks} {c s : Int} (r_c : inR c) (r_s : inR s)  (hInv : Inv κ V) : Ct (XR B n0) mX9_stand 6 0 0 [Rf 1, Iv c, Iv s] V κ (PC κ (M_stand κ c s)) := by
  obtain ⟨hI, hC, hV⟩ := id hInv
  obtain ⟨cA, cB, cC, cD, cE, cF, cG, cS, cL, cH, cN, cT, cW, cK, cZ⟩ := id hC
  obtain ⟨⟨i0, i1, i2, i3, i4, i5, i6, i7, i8, i9⟩, iS, iH, iR, iT, iC, iG, iL, iZ⟩ := id hI
  obtain ⟨⟨cV0, cV1, cV2, cV4⟩, _⟩ := id hV
  obtain ⟨cA0, cA1, cA2⟩ := id cA
  obtain ⟨cB0, cB1, cB2⟩ := id cB
  obtain ⟨⟨⟨⟨z0, z1, z2⟩, z3, z4, z5⟩, z6, z7⟩, z8⟩ := id cZ
  have en0 : κ 2 2 = κ 40 11 := cG.1.2.2.1
  have en1 : κ 3 2 = κ 40 20 := cG.2.1.2.2.1
  have en2 : κ 4 2 = κ 40 31 := cG.2.2.1.2.2.1
  have en3 : κ 5 2 = κ 40 41 := cG.2.2.2.2.2.1
  refine Ct.of (L := [some (Rf 1), some (Iv c), some (Iv s), none]) 1 (by decide +kernel) rfl rfl ?_
  refine g_iload_n 1 dX9_stand_0 rfl rfl ?_
  refine o_S 4 0 0 [Iv c] [] dX9_stand_1 csX9_170 mwX9_isCock (by decide) rfl (Nat.le_of_ble_eq_true rfl) rfl rfl rfl (c_X9_isCock (by omega)) (fun h1 => ?_) (fun h1 => ?_)
  · refine g_if_eq 15 7 dX9_stand_4 (by decide) (by decide) rfl (fun z => absurd z (by decide)) (fun _ => ?_)
    refine g_aload_n 8 dX9_stand_7 rfl rfl ?_
    refine g_iload_n 9 dX9_stand_8 rfl rfl ?_
    refine o_V 12 0 0 [Iv s] [] dX9_stand_9 cvX9_70 mwX9_isPlace kd_1 (by decide) rfl (Nat.le_of_ble_eq_true rfl) rfl rfl rfl (c_X9_isPlace cG.1 (by omega) (by omega)) (fun h2 => ?_) (fun h2 => ?_)
    · refine g_if_ne 21 15 dX9_stand_12 (by decide) (by decide) rfl (fun _ => ?_) (fun z => absurd z (by decide))
      refine g_aload_n 22 dX9_stand_21 rfl rfl ?_
      refine g_getC 25 dX9_stand_22 fgX9_31 kd_1 ly_1_5 rfl ?_
      refine g_iload_n 26 dX9_stand_25 rfl rfl ?_
      refine r_iald 27 ((c).toNat) (κ 7 ((c).toNat)) dX9_stand_26 kd_7 (by decide) (by omega) (rfl) rfl (rfl) (fun r3 => ?_)
      refine g_istore_n (L' := [some (Rf 1), some (Iv c), some (Iv s), some (Iv (κ 7 ((c).toNat)))]) 28 dX9_stand_27 rfl (by decide) rfl ?_
      refine g_aload_n 29 dX9_stand_28 rfl rfl ?_
      refine g_getC 32 dX9_stand_29 fgX9_31 kd_1 ly_1_5 rfl ?_
      refine g_iload_n 33 dX9_stand_32 rfl rfl ?_
      refine g_iload_n 34 dX9_stand_33 rfl rfl ?_
      refine r_iast 35 ((c).toNat) dX9_stand_34 kd_7 (by decide) ly_7 (by omega) (rfl) (by omega) rfl ?_
      refine g_iload_n 36 dX9_stand_35 rfl rfl ?_
      refine g_iret dX9_stand_36 rfl ?_
      unfold M_stand
      (repeat' split) <;> first | (exfalso; omega) | exact PC_ref hInv (by decide) (by omega) rfl | exact PC_same hInv (by omega) | exact PC_stand hInv (by omega) (by omega) (cC c.toNat (by omega)) rfl
    refine g_if_ne 21 15 dX9_stand_12 (by decide) (by decide) rfl (fun z => absurd z (by decide)) (fun _ => ?_)
    refine g_aload_n 16 dX9_stand_15 rfl rfl ?_
    refine g_iconst 17 dX9_stand_16 (by decide) rfl ?_
    refine e_V 20 0 0 [Iv (-1)] [] dX9_stand_17 cvX9_150 mwX9_refuseAside kd_1 (by decide) rfl (Nat.le_of_ble_eq_true rfl) rfl rfl rfl (c_X9_refuseAside 1 (by decide) (by decide)) ?_
    refine g_iret dX9_stand_20 rfl ?_
    unfold M_stand
    (repeat' split) <;> first | (exfalso; omega) | exact PC_ref hInv (by decide) (by omega) rfl | exact PC_same hInv (by omega) | exact PC_stand hInv (by omega) (by omega) (cC c.toNat (by omega)) rfl
  refine g_if_eq 15 7 dX9_stand_4 (by decide) (by decide) rfl (fun _ => ?_) (fun z => absurd z (by decide))
  refine g_aload_n 16 dX9_stand_15 rfl rfl ?_
  refine g_iconst 17 dX9_stand_16 (by decide) rfl ?_
  refine e_V 20 0 0 [Iv (-1)] [] dX9_stand_17 cvX9_150 mwX9_refuseAside kd_1 (by decide) rfl (Nat.le_of_ble_eq_true rfl) rfl rfl rfl (c_X9_refuseAside 1 (by decide) (by decide)) ?_
  refine g_iret dX9_stand_20 rfl ?_
  unfold M_stand
  (repeat' split) <;> first | (exfalso; omega) | exact PC_ref hInv (by decide) (by omega) rfl | exact PC_same hInv (by omega) | exact PC_stand hInv (by omega) (by omega) (cC c.toNat (by omega)) rfl
set_option maxHeartbeats 4000000 in
set_option maxRecDepth 20000 in
theorem c_X9_end {B : Bs} {n0 : Nat} {V : Vs} {κ : Ks} {s z : Int} (r_s : inR s) (r_z : inR z)  (hInv : Inv κ V) : Ct (XR B n0) mX9_end 5 0 0 [Rf 1, Iv s, Iv z] V κ (PC κ (M_end κ s z)) := by
  obtain ⟨hI, hC, hV⟩ := id hInv
  obtain ⟨cA, cB, cC, cD, cE, cF, cG, cS, cL, cH, cN, cT, cW, cK, cZ⟩ := id hC
  obtain ⟨⟨i0, i1, i2, i3, i4, i5, i6, i7, i8, i9⟩, iS, iH, iR, iT, iC, iG, iL, iZ⟩ := id hI
  obtain ⟨⟨cV0, cV1, cV2, cV4⟩, _⟩ := id hV
  obtain ⟨cA0, cA1, cA2⟩ := id cA
  obtain ⟨cB0, cB1, cB2⟩ := id cB
  obtain ⟨⟨⟨⟨z0, z1, z2⟩, z3, z4, z5⟩, z6, z7⟩, z8⟩ := id cZ
  have en0 : κ 2 2 = κ 40 11 := cG.1.2.2.1
  have en1 : κ 3 2 = κ 40 20 := cG.2.1.2.2.1
  have en2 : κ 4 2 = κ 40 31 := cG.2.2.1.2.2.1
  have en3 : κ 5 2 = κ 40 41 := cG.2.2.2.2.2.1
  refine Ct.of (L := [some (Rf 1), some (Iv s), some (Iv z), none]) 1 (by decide +kernel) rfl rfl ?_
  refine g_aload_n 1 dX9_end_0 rfl rfl ?_
  refine g_iload_n 2 dX9_end_1 rfl rfl ?_
  refine o_V 5 0 0 [Iv s] [] dX9_end_2 cvX9_105 mwX9_streetAt kd_1 (by decide) rfl (Nat.le_of_ble_eq_true rfl) rfl rfl rfl (c_X9_streetAt cG.1 (by omega) (by omega)) (fun h1 => ?_) (fun h1 => ?_)
  · have qS := cS (s).toNat (by omega)
    have qI := iS (s).toNat (by omega)
    refine g_astore_n (L' := [some (Rf 1), some (Iv s), some (Iv z), some (Rf (100 + (s).toNat))]) 6 dX9_end_5 rfl (by decide) rfl ?_
    refine g_aload_n 7 dX9_end_6 rfl rfl ?_
    refine r_ifnonnull_s 16 dX9_end_7 (by decide) ?_
    refine g_aload_n 17 dX9_end_16 rfl rfl ?_
    refine r_getI 20 (κ (100 + (s).toNat) 4) dX9_end_17 fgX9_156 (kd_S (by omega)) (ly_S (by omega) 4) rfl (rfl) (fun r2 => ?_)
    refine g_if_eq 30 23 dX9_end_20 (by first | assumption | omega) (by decide) rfl (fun h3 => ?_) (fun h3 => ?_)
    · refine g_iload_n 31 dX9_end_30 rfl rfl ?_
      refine g_if_eq 47 34 dX9_end_31 (by first | assumption | omega) (by decide) rfl (fun h4 => ?_) (fun h4 => ?_)
      · refine g_iload_n 48 dX9_end_47 rfl rfl ?_
        refine g_sipush 51 dX9_end_48 (by decide) rfl ?_
        refine g_icmp_le 61 54 dX9_end_51 (by first | assumption | omega) (by decide) (by decide) rfl (fun h5 => ?_) (fun h5 => ?_)
        · refine g_aload_n 62 dX9_end_61 rfl rfl ?_
          refine g_iload_n 63 dX9_end_62 rfl rfl ?_
          refine g_if_ne 70 66 dX9_end_63 (by first | assumption | omega) (by decide) rfl (fun h6 => ?_) (fun h6 => ?_)
          · refine g_iconst 71 dX9_end_70 (by decide) rfl ?_
            refine g_iload_n 72 dX9_end_71 rfl rfl ?_
            refine v_V 75 0 0 [Iv 2, Iv z] [] dX9_end_72 cvX9_159 mwX5_setAtEnd (kd_S (by omega)) (by decide) rfl (Nat.le_of_ble_eq_true rfl) rfl rfl rfl (c_X5_setAtEnd (by omega) (by omega) (by omega)) ?_
            refine g_iconst 76 dX9_end_75 (by decide) rfl ?_
            refine g_iret dX9_end_76 rfl ?_
            unfold M_end
            (repeat' split) <;> first | (exfalso; omega) | exact PC_ref hInv (by decide) (by omega) rfl | exact PC_same hInv (by omega) | exact PC_end hInv (by omega) (by omega) (by omega) (by omega) rfl
          refine g_iconst 67 dX9_end_66 (by decide) rfl ?_
          refine g_goto 71 dX9_end_67 (by decide) ?_
          refine g_iload_n 72 dX9_end_71 rfl rfl ?_
          refine v_V 75 0 0 [Iv 1, Iv z] [] dX9_end_72 cvX9_159 mwX5_setAtEnd (kd_S (by omega)) (by decide) rfl (Nat.le_of_ble_eq_true rfl) rfl rfl rfl (c_X5_setAtEnd (by omega) (by omega) (by omega)) ?_
          refine g_iconst 76 dX9_end_75 (by decide) rfl ?_
          refine g_iret dX9_end_76 rfl ?_
          unfold M_end
          (repeat' split) <;> first | (exfalso; omega) | exact PC_ref hInv (by decide) (by omega) rfl | exact PC_same hInv (by omega) | exact PC_end hInv (by omega) (by omega) (by omega) (by omega) rfl
        refine g_aload_n 55 dX9_end_54 rfl rfl ?_
        refine g_bipush 57 dX9_end_55 (by decide) rfl ?_
        refine e_V 60 0 0 [Iv (-6)] [] dX9_end_57 cvX9_74 mwX9_refuse kd_1 (by decide) rfl (Nat.le_of_ble_eq_true rfl) rfl rfl rfl (c_X9_refuse 6 (by decide) (by decide)) ?_
        refine g_iret dX9_end_60 rfl ?_
        unfold M_end
        (repeat' split) <;> first | (exfalso; omega) | exact PC_ref hInv (by decide) (by omega) rfl | exact PC_same hInv (by omega) | exact PC_end hInv (by omega) (by omega) (by omega) (by omega) rfl
      refine g_iload_n 35 dX9_end_34 rfl rfl ?_
      refine g_bipush 37 dX9_end_35 (by decide) rfl ?_
      refine g_icmp_ge 47 40 dX9_end_37 (by first | assumption | omega) (by decide) (by decide) rfl (fun h7 => ?_) (fun h7 => ?_)
      · refine g_iload_n 48 dX9_end_47 rfl rfl ?_
        refine g_sipush 51 dX9_end_48 (by decide) rfl ?_
        refine g_icmp_le 61 54 dX9_end_51 (by first | assumption | omega) (by decide) (by decide) rfl (fun h8 => ?_) (fun h8 => ?_)
        · refine g_aload_n 62 dX9_end_61 rfl rfl ?_
          refine g_iload_n 63 dX9_end_62 rfl rfl ?_
          refine g_if_ne 70 66 dX9_end_63 (by first | assumption | omega) (by decide) rfl (fun h9 => ?_) (fun h9 => ?_)
          · refine g_iconst 71 dX9_end_70 (by decide) rfl ?_
            refine g_iload_n 72 dX9_end_71 rfl rfl ?_
            refine v_V 75 0 0 [Iv 2, Iv z] [] dX9_end_72 cvX9_159 mwX5_setAtEnd (kd_S (by omega)) (by decide) rfl (Nat.le_of_ble_eq_true rfl) rfl rfl rfl (c_X5_setAtEnd (by omega) (by omega) (by omega)) ?_
            refine g_iconst 76 dX9_end_75 (by decide) rfl ?_
            refine g_iret dX9_end_76 rfl ?_
            unfold M_end
            (repeat' split) <;> first | (exfalso; omega) | exact PC_ref hInv (by decide) (by omega) rfl | exact PC_same hInv (by omega) | exact PC_end hInv (by omega) (by omega) (by omega) (by omega) rfl
          refine g_iconst 67 dX9_end_66 (by decide) rfl ?_
          refine g_goto 71 dX9_end_67 (by decide) ?_
          refine g_iload_n 72 dX9_end_71 rfl rfl ?_
          refine v_V 75 0 0 [Iv 1, Iv z] [] dX9_end_72 cvX9_159 mwX5_setAtEnd (kd_S (by omega)) (by decide) rfl (Nat.le_of_ble_eq_true rfl) rfl rfl rfl (c_X5_setAtEnd (by omega) (by omega) (by omega)) ?_
          refine g_iconst 76 dX9_end_75 (by decide) rfl ?_
          refine g_iret dX9_end_76 rfl ?_
          unfold M_end
          (repeat' split) <;> first | (exfalso; omega) | exact PC_ref hInv (by decide) (by omega) rfl | exact PC_same hInv (by omega) | exact PC_end hInv (by omega) (by omega) (by omega) (by omega) rfl
        refine g_aload_n 55 dX9_end_54 rfl rfl ?_
        refine g_bipush 57 dX9_end_55 (by decide) rfl ?_
        refine e_V 60 0 0 [Iv (-6)] [] dX9_end_57 cvX9_74 mwX9_refuse kd_1 (by decide) rfl (Nat.le_of_ble_eq_true rfl) rfl rfl rfl (c_X9_refuse 6 (by decide) (by decide)) ?_
        refine g_iret dX9_end_60 rfl ?_
        unfold M_end
        (repeat' split) <;> first | (exfalso; omega) | exact PC_ref hInv (by decide) (by omega) rfl | exact PC_same hInv (by omega) | exact PC_end hInv (by omega) (by omega) (by omega) (by omega) rfl
      refine g_aload_n 41 dX9_end_40 rfl rfl ?_
      refine g_bipush 43 dX9_end_41 (by decide) rfl ?_
      refine e_V 46 0 0 [Iv (-4)] [] dX9_end_43 cvX9_74 mwX9_refuse kd_1 (by decide) rfl (Nat.le_of_ble_eq_true rfl) rfl rfl rfl (c_X9_refuse 4 (by decide) (by decide)) ?_
      refine g_iret dX9_end_46 rfl ?_
      unfold M_end
      (repeat' split) <;> first | (exfalso; omega) | exact PC_ref hInv (by decide) (by omega) rfl | exact PC_same hInv (by omega) | exact PC_end hInv (by omega) (by omega) (by omega) (by omega) rfl
    refine g_aload_n 24 dX9_end_23 rfl rfl ?_
    refine g_bipush 26 dX9_end_24 (by decide) rfl ?_
    refine e_V 29 0 0 [Iv (-3)] [] dX9_end_26 cvX9_74 mwX9_refuse kd_1 (by decide) rfl (Nat.le_of_ble_eq_true rfl) rfl rfl rfl (c_X9_refuse 3 (by decide) (by decide)) ?_
    refine g_iret dX9_end_29 rfl ?_
    unfold M_end
    (repeat' split) <;> first | (exfalso; omega) | exact PC_ref hInv (by decide) (by omega) rfl | exact PC_same hInv (by omega) | exact PC_end hInv (by omega) (by omega) (by omega) (by omega) rfl
  refine g_astore_n (L' := [some (Rf 1), some (Iv s), some (Iv z), some (Nl)]) 6 dX9_end_5 rfl (by decide) rfl ?_
  refine g_aload_n 7 dX9_end_6 rfl rfl ?_
  refine r_ifnonnull_n 10 16 dX9_end_7 (by decide) rfl ?_
  refine g_aload_n 11 dX9_end_10 rfl rfl ?_
  refine g_iconst 12 dX9_end_11 (by decide) rfl ?_
  refine e_V 15 0 0 [Iv (-1)] [] dX9_end_12 cvX9_74 mwX9_refuse kd_1 (by decide) rfl (Nat.le_of_ble_eq_true rfl) rfl rfl rfl (c_X9_refuse 1 (by decide) (by decide)) ?_
  refine g_iret dX9_end_15 rfl ?_
  unfold M_end
  (repeat' split) <;> first | (exfalso; omega) | exact PC_ref hInv (by decide) (by omega) rfl | exact PC_same hInv (by omega) | exact PC_end hInv (by omega) (by omega) (by omega) (by omega) rfl
set_option maxHeartbeats 4000000 in
set_option maxRecDepth 20000 in
theorem c_X9_clear {B : Bs} {n0 : Nat} {V : Vs} {κ : Ks} {s : Int} (r_s : inR s)  (hInv : Inv κ V) : Ct (XR B n0) mX9_clear 5 0 0 [Rf 1, Iv s] V κ (PC κ (M_clear κ s)) := by
  obtain ⟨hI, hC, hV⟩ := id hInv
  obtain ⟨cA, cB, cC, cD, cE, cF, cG, cS, cL, cH, cN, cT, cW, cK, cZ⟩ := id hC
  obtain ⟨⟨i0, i1, i2, i3, i4, i5, i6, i7, i8, i9⟩, iS, iH, iR, iT, iC, iG, iL, iZ⟩ := id hI
  obtain ⟨⟨cV0, cV1, cV2, cV4⟩, _⟩ := id hV
  obtain ⟨cA0, cA1, cA2⟩ := id cA
  obtain ⟨cB0, cB1, cB2⟩ := id cB
  obtain ⟨⟨⟨⟨z0, z1, z2⟩, z3, z4, z5⟩, z6, z7⟩, z8⟩ := id cZ
  have en0 : κ 2 2 = κ 40 11 := cG.1.2.2.1
  have en1 : κ 3 2 = κ 40 20 := cG.2.1.2.2.1
  have en2 : κ 4 2 = κ 40 31 := cG.2.2.1.2.2.1
  have en3 : κ 5 2 = κ 40 41 := cG.2.2.2.2.2.1
  refine Ct.of (L := [some (Rf 1), some (Iv s), none, none]) 2 (by decide +kernel) rfl rfl ?_
  refine g_aload_n 1 dX9_clear_0 rfl rfl ?_
  refine g_iload_n 2 dX9_clear_1 rfl rfl ?_
  refine o_V 5 0 0 [Iv s] [] dX9_clear_2 cvX9_105 mwX9_streetAt kd_1 (by decide) rfl (Nat.le_of_ble_eq_true rfl) rfl rfl rfl (c_X9_streetAt cG.1 (by omega) (by omega)) (fun h1 => ?_) (fun h1 => ?_)
  · have qS := cS (s).toNat (by omega)
    have qI := iS (s).toNat (by omega)
    refine g_astore_n (L' := [some (Rf 1), some (Iv s), some (Rf (100 + (s).toNat)), none]) 6 dX9_clear_5 rfl (by decide) rfl ?_
    refine g_aload_n 7 dX9_clear_6 rfl rfl ?_
    refine r_ifnonnull_s 16 dX9_clear_7 (by decide) ?_
    refine g_aload_n 17 dX9_clear_16 rfl rfl ?_
    refine r_getI 20 (κ (100 + (s).toNat) 4) dX9_clear_17 fgX9_156 (kd_S (by omega)) (ly_S (by omega) 4) rfl (rfl) (fun r2 => ?_)
    refine g_if_ne 30 23 dX9_clear_20 (by first | assumption | omega) (by decide) rfl (fun h3 => ?_) (fun h3 => ?_)
    · refine g_aload_n 31 dX9_clear_30 rfl rfl ?_
      refine r_getI 34 (κ (100 + (s).toNat) 6) dX9_clear_31 fgX9_163 (kd_S (by omega)) (ly_S (by omega) 6) rfl (rfl) (fun r4 => ?_)
      refine g_istore_n (L' := [some (Rf 1), some (Iv s), some (Rf (100 + (s).toNat)), some (Iv (κ (100 + (s).toNat) 6))]) 35 dX9_clear_34 rfl (by decide) rfl ?_
      refine g_aload_n 36 dX9_clear_35 rfl rfl ?_
      refine g_iconst 37 dX9_clear_36 (by decide) rfl ?_
      refine g_iconst 38 dX9_clear_37 (by decide) rfl ?_
      refine v_V 41 0 0 [Iv 0, Iv 0] [] dX9_clear_38 cvX9_159 mwX5_setAtEnd (kd_S (by omega)) (by decide) rfl (Nat.le_of_ble_eq_true rfl) rfl rfl rfl (c_X5_setAtEnd (by omega) (by omega) (by omega)) ?_
      refine g_iload_n 42 dX9_clear_41 rfl rfl ?_
      refine g_iret dX9_clear_42 rfl ?_
      unfold M_clear
      (repeat' split) <;> first | (exfalso; omega) | exact PC_ref hInv (by decide) (by omega) rfl | exact PC_same hInv (by omega) | exact PC_clear hInv (by omega) (by omega) rfl
    refine g_aload_n 24 dX9_clear_23 rfl rfl ?_
    refine g_bipush 26 dX9_clear_24 (by decide) rfl ?_
    refine e_V 29 0 0 [Iv (-5)] [] dX9_clear_26 cvX9_74 mwX9_refuse kd_1 (by decide) rfl (Nat.le_of_ble_eq_true rfl) rfl rfl rfl (c_X9_refuse 5 (by decide) (by decide)) ?_
    refine g_iret dX9_clear_29 rfl ?_
    unfold M_clear
    (repeat' split) <;> first | (exfalso; omega) | exact PC_ref hInv (by decide) (by omega) rfl | exact PC_same hInv (by omega) | exact PC_clear hInv (by omega) (by omega) rfl
  refine g_astore_n (L' := [some (Rf 1), some (Iv s), some (Nl), none]) 6 dX9_clear_5 rfl (by decide) rfl ?_
  refine g_aload_n 7 dX9_clear_6 rfl rfl ?_
  refine r_ifnonnull_n 10 16 dX9_clear_7 (by decide) rfl ?_
  refine g_aload_n 11 dX9_clear_10 rfl rfl ?_
  refine g_iconst 12 dX9_clear_11 (by decide) rfl ?_
  refine e_V 15 0 0 [Iv (-1)] [] dX9_clear_12 cvX9_74 mwX9_refuse kd_1 (by decide) rfl (Nat.le_of_ble_eq_true rfl) rfl rfl rfl (c_X9_refuse 1 (by decide) (by decide)) ?_
  refine g_iret dX9_clear_15 rfl ?_
  unfold M_clear
  (repeat' split) <;> first | (exfalso; omega) | exact PC_ref hInv (by decide) (by omega) rfl | exact PC_same hInv (by omega) | exact PC_clear hInv (by omega) (by omega) rfl
set_option maxHeartbeats 4000000 in
set_option maxRecDepth 20000 in
theorem c_X9_draw {B : Bs} {n0 : Nat} {V : Vs} {κ : Ks} {s b : Int} (r_s : inR s) (z_b : b = 0 ∨ b = 1) (hInv : Inv κ V) : Ct (XR B n0) mX9_draw 5 0 0 [Rf 1, Iv s, Iv b] V κ (PC κ (M_draw κ s b)) := by
  obtain ⟨hI, hC, hV⟩ := id hInv
  obtain ⟨cA, cB, cC, cD, cE, cF, cG, cS, cL, cH, cN, cT, cW, cK, cZ⟩ := id hC
  obtain ⟨⟨i0, i1, i2, i3, i4, i5, i6, i7, i8, i9⟩, iS, iH, iR, iT, iC, iG, iL, iZ⟩ := id hI
  obtain ⟨⟨cV0, cV1, cV2, cV4⟩, _⟩ := id hV
  obtain ⟨cA0, cA1, cA2⟩ := id cA
  obtain ⟨cB0, cB1, cB2⟩ := id cB
  obtain ⟨⟨⟨⟨z0, z1, z2⟩, z3, z4, z5⟩, z6, z7⟩, z8⟩ := id cZ
  have en0 : κ 2 2 = κ 40 11 := cG.1.2.2.1
  have en1 : κ 3 2 = κ 40 20 := cG.2.1.2.2.1
  have en2 : κ 4 2 = κ 40 31 := cG.2.2.1.2.2.1
  have en3 : κ 5 2 = κ 40 41 := cG.2.2.2.2.2.1
  refine Ct.of (L := [some (Rf 1), some (Iv s), some (Iv b), none]) 1 (by decide +kernel) rfl rfl ?_
  refine g_aload_n 1 dX9_draw_0 rfl rfl ?_
  refine g_iload_n 2 dX9_draw_1 rfl rfl ?_
  refine o_V 5 0 0 [Iv s] [] dX9_draw_2 cvX9_105 mwX9_streetAt kd_1 (by decide) rfl (Nat.le_of_ble_eq_true rfl) rfl rfl rfl (c_X9_streetAt cG.1 (by omega) (by omega)) (fun h1 => ?_) (fun h1 => ?_)
  · have qS := cS (s).toNat (by omega)
    have qI := iS (s).toNat (by omega)
    refine g_astore_n (L' := [some (Rf 1), some (Iv s), some (Iv b), some (Rf (100 + (s).toNat))]) 6 dX9_draw_5 rfl (by decide) rfl ?_
    refine g_aload_n 7 dX9_draw_6 rfl rfl ?_
    refine r_ifnonnull_s 16 dX9_draw_7 (by decide) ?_
    refine g_aload_n 17 dX9_draw_16 rfl rfl ?_
    refine r_getI 20 (κ (100 + (s).toNat) 4) dX9_draw_17 fgX9_156 (kd_S (by omega)) (ly_S (by omega) 4) rfl (rfl) (fun r2 => ?_)
    refine g_if_ne 30 23 dX9_draw_20 (by first | assumption | omega) (by decide) rfl (fun h3 => ?_) (fun h3 => ?_)
    · refine g_aload_n 31 dX9_draw_30 rfl rfl ?_
      refine r_getI 34 (κ (100 + (s).toNat) 4) dX9_draw_31 fgX9_156 (kd_S (by omega)) (ly_S (by omega) 4) rfl (rfl) (fun r4 => ?_)
      refine g_iconst 35 dX9_draw_34 (by decide) rfl ?_
      refine g_icmp_ne 45 38 dX9_draw_35 (by first | assumption | omega) (by decide) (by decide) rfl (fun h5 => ?_) (fun h5 => ?_)
      · refine g_aload_n 46 dX9_draw_45 rfl rfl ?_
        refine r_getI 49 (κ (100 + (s).toNat) 7) dX9_draw_46 fgX9_166 (kd_S (by omega)) (ly_S (by omega) 7) rfl (rfl) (fun r6 => ?_)
        refine g_iload_n 50 dX9_draw_49 rfl rfl ?_
        refine g_icmp_ne 55 53 dX9_draw_50 (by first | assumption | omega) (by first | assumption | omega) (by decide) rfl (fun h7 => ?_) (fun h7 => ?_)
        · refine g_aload_n 56 dX9_draw_55 rfl rfl ?_
          refine g_iload_n 57 dX9_draw_56 rfl rfl ?_
          refine g_putZ 60 dX9_draw_57 fpX9_166 (fun h => (nomatch h)) (kd_S (by omega)) (ly_S (by omega) 7) (by omega) rfl ?_
          refine g_iconst 61 dX9_draw_60 (by decide) rfl ?_
          refine g_iret dX9_draw_61 rfl ?_
          unfold M_draw
          (repeat' split) <;> first | (exfalso; omega) | exact PC_ref hInv (by decide) (by omega) rfl | exact PC_same hInv (by omega) | exact PC_draw hInv (by omega) (by omega) (by omega) rfl | (rw [st2_id (by omega)]; exact PC_same hInv (by omega))
        refine g_iconst 54 dX9_draw_53 (by decide) rfl ?_
        refine g_iret dX9_draw_54 rfl ?_
        unfold M_draw
        (repeat' split) <;> first | (exfalso; omega) | exact PC_ref hInv (by decide) (by omega) rfl | exact PC_same hInv (by omega) | exact PC_draw hInv (by omega) (by omega) (by omega) rfl | (rw [st2_id (by omega)]; exact PC_same hInv (by omega))
      refine g_aload_n 39 dX9_draw_38 rfl rfl ?_
      refine g_bipush 41 dX9_draw_39 (by decide) rfl ?_
      refine e_V 44 0 0 [Iv (-2)] [] dX9_draw_41 cvX9_74 mwX9_refuse kd_1 (by decide) rfl (Nat.le_of_ble_eq_true rfl) rfl rfl rfl (c_X9_refuse 2 (by decide) (by decide)) ?_
      refine g_iret dX9_draw_44 rfl ?_
      unfold M_draw
      (repeat' split) <;> first | (exfalso; omega) | exact PC_ref hInv (by decide) (by omega) rfl | exact PC_same hInv (by omega) | exact PC_draw hInv (by omega) (by omega) (by omega) rfl | (rw [st2_id (by omega)]; exact PC_same hInv (by omega))
    refine g_aload_n 24 dX9_draw_23 rfl rfl ?_
    refine g_bipush 26 dX9_draw_24 (by decide) rfl ?_
    refine e_V 29 0 0 [Iv (-5)] [] dX9_draw_26 cvX9_74 mwX9_refuse kd_1 (by decide) rfl (Nat.le_of_ble_eq_true rfl) rfl rfl rfl (c_X9_refuse 5 (by decide) (by decide)) ?_
    refine g_iret dX9_draw_29 rfl ?_
    unfold M_draw
    (repeat' split) <;> first | (exfalso; omega) | exact PC_ref hInv (by decide) (by omega) rfl | exact PC_same hInv (by omega) | exact PC_draw hInv (by omega) (by omega) (by omega) rfl | (rw [st2_id (by omega)]; exact PC_same hInv (by omega))
  refine g_astore_n (L' := [some (Rf 1), some (Iv s), some (Iv b), some (Nl)]) 6 dX9_draw_5 rfl (by decide) rfl ?_
  refine g_aload_n 7 dX9_draw_6 rfl rfl ?_
  refine r_ifnonnull_n 10 16 dX9_draw_7 (by decide) rfl ?_
  refine g_aload_n 11 dX9_draw_10 rfl rfl ?_
  refine g_iconst 12 dX9_draw_11 (by decide) rfl ?_
  refine e_V 15 0 0 [Iv (-1)] [] dX9_draw_12 cvX9_74 mwX9_refuse kd_1 (by decide) rfl (Nat.le_of_ble_eq_true rfl) rfl rfl rfl (c_X9_refuse 1 (by decide) (by decide)) ?_
  refine g_iret dX9_draw_15 rfl ?_
  unfold M_draw
  (repeat' split) <;> first | (exfalso; omega) | exact PC_ref hInv (by decide) (by omega) rfl | exact PC_same hInv (by omega) | exact PC_draw hInv (by omega) (by omega) (by omega) rfl | (rw [st2_id (by omega)]; exact PC_same hInv (by omega))
set_option maxHeartbeats 4000000 in
set_option maxRecDepth 20000 in
theorem c_X9_brew {B : Bs} {n0 : Nat} {V : Vs} {κ : Ks} {s n : Int} (r_s : inR s) (r_n : inR n)  (hInv : Inv κ V) : Ct (XR B n0) mX9_brew 5 0 0 [Rf 1, Iv s, Iv n] V κ (PC κ (M_brew κ s n)) := by
  obtain ⟨hI, hC, hV⟩ := id hInv
  obtain ⟨cA, cB, cC, cD, cE, cF, cG, cS, cL, cH, cN, cT, cW, cK, cZ⟩ := id hC
  obtain ⟨⟨i0, i1, i2, i3, i4, i5, i6, i7, i8, i9⟩, iS, iH, iR, iT, iC, iG, iL, iZ⟩ := id hI
  obtain ⟨⟨cV0, cV1, cV2, cV4⟩, _⟩ := id hV
  obtain ⟨cA0, cA1, cA2⟩ := id cA
  obtain ⟨cB0, cB1, cB2⟩ := id cB
  obtain ⟨⟨⟨⟨z0, z1, z2⟩, z3, z4, z5⟩, z6, z7⟩, z8⟩ := id cZ
  have en0 : κ 2 2 = κ 40 11 := cG.1.2.2.1
  have en1 : κ 3 2 = κ 40 20 := cG.2.1.2.2.1
  have en2 : κ 4 2 = κ 40 31 := cG.2.2.1.2.2.1
  have en3 : κ 5 2 = κ 40 41 := cG.2.2.2.2.2.1
  refine Ct.of (L := [some (Rf 1), some (Iv s), some (Iv n), none]) 1 (by decide +kernel) rfl rfl ?_
  refine g_aload_n 1 dX9_brew_0 rfl rfl ?_
  refine g_iload_n 2 dX9_brew_1 rfl rfl ?_
  refine o_V 5 0 0 [Iv s] [] dX9_brew_2 cvX9_105 mwX9_streetAt kd_1 (by decide) rfl (Nat.le_of_ble_eq_true rfl) rfl rfl rfl (c_X9_streetAt cG.1 (by omega) (by omega)) (fun h1 => ?_) (fun h1 => ?_)
  · have qS := cS (s).toNat (by omega)
    have qI := iS (s).toNat (by omega)
    refine g_astore_n (L' := [some (Rf 1), some (Iv s), some (Iv n), some (Rf (100 + (s).toNat))]) 6 dX9_brew_5 rfl (by decide) rfl ?_
    refine g_aload_n 7 dX9_brew_6 rfl rfl ?_
    refine r_ifnonnull_s 16 dX9_brew_7 (by decide) ?_
    refine g_aload_n 17 dX9_brew_16 rfl rfl ?_
    refine r_getI 20 (κ (100 + (s).toNat) 4) dX9_brew_17 fgX9_156 (kd_S (by omega)) (ly_S (by omega) 4) rfl (rfl) (fun r2 => ?_)
    refine g_if_ne 30 23 dX9_brew_20 (by first | assumption | omega) (by decide) rfl (fun h3 => ?_) (fun h3 => ?_)
    · refine g_aload_n 31 dX9_brew_30 rfl rfl ?_
      refine r_getI 34 (κ (100 + (s).toNat) 4) dX9_brew_31 fgX9_156 (kd_S (by omega)) (ly_S (by omega) 4) rfl (rfl) (fun r4 => ?_)
      refine g_iconst 35 dX9_brew_34 (by decide) rfl ?_
      refine g_icmp_ne 45 38 dX9_brew_35 (by first | assumption | omega) (by decide) (by decide) rfl (fun h5 => ?_) (fun h5 => ?_)
      · refine g_iload_n 46 dX9_brew_45 rfl rfl ?_
        refine g_if_ge 56 49 dX9_brew_46 (by first | assumption | omega) (by decide) rfl (fun h6 => ?_) (fun h6 => ?_)
        · refine g_iload_n 57 dX9_brew_56 rfl rfl ?_
          refine g_aload_n 58 dX9_brew_57 rfl rfl ?_
          refine r_getI 61 (κ (100 + (s).toNat) 6) dX9_brew_58 fgX9_163 (kd_S (by omega)) (ly_S (by omega) 6) rfl (rfl) (fun r7 => ?_)
          refine g_icmp_le 71 64 dX9_brew_61 (by first | assumption | omega) (by first | assumption | omega) (by decide) rfl (fun h8 => ?_) (fun h8 => ?_)
          · refine g_aload_n 72 dX9_brew_71 rfl rfl ?_
            refine g_dup 73 dX9_brew_72 rfl ?_
            refine r_getI 76 (κ (100 + (s).toNat) 6) dX9_brew_73 fgX9_163 (kd_S (by omega)) (ly_S (by omega) 6) rfl (rfl) (fun r9 => ?_)
            refine g_iload_n 77 dX9_brew_76 rfl rfl ?_
            refine g_isub 78 dX9_brew_77 rfl ?_
            refine g_putI 81 dX9_brew_78 fpX9_163 (fun h => (nomatch h)) (kd_S (by omega)) (ly_S (by omega) 6) (by omega) rfl ?_
            refine g_aload_n 82 dX9_brew_81 rfl rfl ?_
            refine r_getI 85 (((κ (100 + (s).toNat) 6) - n)) dX9_brew_82 fgX9_163 (kd_S (by omega)) (ly_S (by omega) 6) rfl (rd_s rfl rfl rfl) (fun r10 => ?_)
            refine g_iret dX9_brew_85 rfl ?_
            unfold M_brew
            (repeat' split) <;> first | (exfalso; omega) | exact PC_ref hInv (by decide) (by omega) rfl | exact PC_same hInv (by omega) | exact PC_brew hInv (by omega) (by omega) (by omega) (by omega) (by first | rfl | (congr 1 <;> first | rfl | omega))
          refine g_aload_n 65 dX9_brew_64 rfl rfl ?_
          refine g_bipush 67 dX9_brew_65 (by decide) rfl ?_
          refine e_V 70 0 0 [Iv (-6)] [] dX9_brew_67 cvX9_74 mwX9_refuse kd_1 (by decide) rfl (Nat.le_of_ble_eq_true rfl) rfl rfl rfl (c_X9_refuse 6 (by decide) (by decide)) ?_
          refine g_iret dX9_brew_70 rfl ?_
          unfold M_brew
          (repeat' split) <;> first | (exfalso; omega) | exact PC_ref hInv (by decide) (by omega) rfl | exact PC_same hInv (by omega) | exact PC_brew hInv (by omega) (by omega) (by omega) (by omega) (by first | rfl | (congr 1 <;> first | rfl | omega))
        refine g_aload_n 50 dX9_brew_49 rfl rfl ?_
        refine g_bipush 52 dX9_brew_50 (by decide) rfl ?_
        refine e_V 55 0 0 [Iv (-4)] [] dX9_brew_52 cvX9_74 mwX9_refuse kd_1 (by decide) rfl (Nat.le_of_ble_eq_true rfl) rfl rfl rfl (c_X9_refuse 4 (by decide) (by decide)) ?_
        refine g_iret dX9_brew_55 rfl ?_
        unfold M_brew
        (repeat' split) <;> first | (exfalso; omega) | exact PC_ref hInv (by decide) (by omega) rfl | exact PC_same hInv (by omega) | exact PC_brew hInv (by omega) (by omega) (by omega) (by omega) (by first | rfl | (congr 1 <;> first | rfl | omega))
      refine g_aload_n 39 dX9_brew_38 rfl rfl ?_
      refine g_bipush 41 dX9_brew_39 (by decide) rfl ?_
      refine e_V 44 0 0 [Iv (-2)] [] dX9_brew_41 cvX9_74 mwX9_refuse kd_1 (by decide) rfl (Nat.le_of_ble_eq_true rfl) rfl rfl rfl (c_X9_refuse 2 (by decide) (by decide)) ?_
      refine g_iret dX9_brew_44 rfl ?_
      unfold M_brew
      (repeat' split) <;> first | (exfalso; omega) | exact PC_ref hInv (by decide) (by omega) rfl | exact PC_same hInv (by omega) | exact PC_brew hInv (by omega) (by omega) (by omega) (by omega) (by first | rfl | (congr 1 <;> first | rfl | omega))
    refine g_aload_n 24 dX9_brew_23 rfl rfl ?_
    refine g_bipush 26 dX9_brew_24 (by decide) rfl ?_
    refine e_V 29 0 0 [Iv (-5)] [] dX9_brew_26 cvX9_74 mwX9_refuse kd_1 (by decide) rfl (Nat.le_of_ble_eq_true rfl) rfl rfl rfl (c_X9_refuse 5 (by decide) (by decide)) ?_
    refine g_iret dX9_brew_29 rfl ?_
    unfold M_brew
    (repeat' split) <;> first | (exfalso; omega) | exact PC_ref hInv (by decide) (by omega) rfl | exact PC_same hInv (by omega) | exact PC_brew hInv (by omega) (by omega) (by omega) (by omega) (by first | rfl | (congr 1 <;> first | rfl | omega))
  refine g_astore_n (L' := [some (Rf 1), some (Iv s), some (Iv n), some (Nl)]) 6 dX9_brew_5 rfl (by decide) rfl ?_
  refine g_aload_n 7 dX9_brew_6 rfl rfl ?_
  refine r_ifnonnull_n 10 16 dX9_brew_7 (by decide) rfl ?_
  refine g_aload_n 11 dX9_brew_10 rfl rfl ?_
  refine g_iconst 12 dX9_brew_11 (by decide) rfl ?_
  refine e_V 15 0 0 [Iv (-1)] [] dX9_brew_12 cvX9_74 mwX9_refuse kd_1 (by decide) rfl (Nat.le_of_ble_eq_true rfl) rfl rfl rfl (c_X9_refuse 1 (by decide) (by decide)) ?_
  refine g_iret dX9_brew_15 rfl ?_
  unfold M_brew
  (repeat' split) <;> first | (exfalso; omega) | exact PC_ref hInv (by decide) (by omega) rfl | exact PC_same hInv (by omega) | exact PC_brew hInv (by omega) (by omega) (by omega) (by omega) (by first | rfl | (congr 1 <;> first | rfl | omega))
set_option maxHeartbeats 4000000 in
set_option maxRecDepth 20000 in
theorem c_X9_iron {B : Bs} {n0 : Nat} {V : Vs} {κ : Ks} {s : Int} (r_s : inR s)  (hInv : Inv κ V) : Ct (XR B n0) mX9_iron 5 0 0 [Rf 1, Iv s] V κ (PC κ (M_iron κ s)) := by
  obtain ⟨hI, hC, hV⟩ := id hInv
  obtain ⟨cA, cB, cC, cD, cE, cF, cG, cS, cL, cH, cN, cT, cW, cK, cZ⟩ := id hC
  obtain ⟨⟨i0, i1, i2, i3, i4, i5, i6, i7, i8, i9⟩, iS, iH, iR, iT, iC, iG, iL, iZ⟩ := id hI
  obtain ⟨⟨cV0, cV1, cV2, cV4⟩, _⟩ := id hV
  obtain ⟨cA0, cA1, cA2⟩ := id cA
  obtain ⟨cB0, cB1, cB2⟩ := id cB
  obtain ⟨⟨⟨⟨z0, z1, z2⟩, z3, z4, z5⟩, z6, z7⟩, z8⟩ := id cZ
  have en0 : κ 2 2 = κ 40 11 := cG.1.2.2.1
  have en1 : κ 3 2 = κ 40 20 := cG.2.1.2.2.1
  have en2 : κ 4 2 = κ 40 31 := cG.2.2.1.2.2.1
  have en3 : κ 5 2 = κ 40 41 := cG.2.2.2.2.2.1
  refine Ct.of (L := [some (Rf 1), some (Iv s), none]) 1 (by decide +kernel) rfl rfl ?_
  refine g_aload_n 1 dX9_iron_0 rfl rfl ?_
  refine g_iload_n 2 dX9_iron_1 rfl rfl ?_
  refine o_V 5 0 0 [Iv s] [] dX9_iron_2 cvX9_105 mwX9_streetAt kd_1 (by decide) rfl (Nat.le_of_ble_eq_true rfl) rfl rfl rfl (c_X9_streetAt cG.1 (by omega) (by omega)) (fun h1 => ?_) (fun h1 => ?_)
  · have qS := cS (s).toNat (by omega)
    have qI := iS (s).toNat (by omega)
    refine g_astore_n (L' := [some (Rf 1), some (Iv s), some (Rf (100 + (s).toNat))]) 6 dX9_iron_5 rfl (by decide) rfl ?_
    refine g_aload_n 7 dX9_iron_6 rfl rfl ?_
    refine r_ifnonnull_s 16 dX9_iron_7 (by decide) ?_
    refine g_aload_n 17 dX9_iron_16 rfl rfl ?_
    refine r_getI 20 (κ (100 + (s).toNat) 3) dX9_iron_17 fgX9_207 (kd_S (by omega)) (ly_S (by omega) 3) rfl (rfl) (fun r2 => ?_)
    refine g_if_eq 30 23 dX9_iron_20 (by first | assumption | omega) (by decide) rfl (fun h3 => ?_) (fun h3 => ?_)
    · refine g_aload_n 31 dX9_iron_30 rfl rfl ?_
      refine g_iconst 32 dX9_iron_31 (by decide) rfl ?_
      refine g_putZ 35 dX9_iron_32 fpX9_207 (fun h => (nomatch h)) (kd_S (by omega)) (ly_S (by omega) 3) (by omega) rfl ?_
      refine g_aload_n 36 dX9_iron_35 rfl rfl ?_
      refine g_aload_n 37 dX9_iron_36 rfl rfl ?_
      refine e_V 40 0 0 [] [Rf (100 + (s).toNat)] dX9_iron_37 cvX9_84 mwX9_weekNow kd_1 (by decide) rfl (Nat.le_of_ble_eq_true rfl) rfl rfl rfl (c_X9_weekNow (by rw [show (st2 κ (100 + (s).toNat) 3 1) 1 12 = κ 1 12 from rd_t (by omega) (rfl)]; omega)) ?_
      refine G.eqi (congrArg (fun z => z / 168) (rd_t (by omega) (rfl))) ?_
      refine e_V 43 0 0 [Iv ((κ 1 12) / 168)] [] dX9_iron_40 cvX9_210 mwX5_layAnew (kd_S (by omega)) (by decide) rfl (Nat.le_of_ble_eq_true rfl) rfl rfl rfl (c_X5_layAnew (by omega) (by omega)) ?_
      refine G.eqi (congrArg (fun z => ((κ 1 12) / 168) - z) (rd_j (by decide) (rfl))) ?_
      refine g_iret dX9_iron_43 rfl ?_
      unfold M_iron
      (repeat' split) <;> first | (exfalso; omega) | exact PC_ref hInv (by decide) (by omega) rfl | exact PC_same hInv (by omega) | exact PC_iron hInv (by omega) (by omega) (by omega) (by first | rfl | (congr 1 <;> first | rfl | omega))
    refine g_aload_n 24 dX9_iron_23 rfl rfl ?_
    refine g_bipush 26 dX9_iron_24 (by decide) rfl ?_
    refine e_V 29 0 0 [Iv (-3)] [] dX9_iron_26 cvX9_74 mwX9_refuse kd_1 (by decide) rfl (Nat.le_of_ble_eq_true rfl) rfl rfl rfl (c_X9_refuse 3 (by decide) (by decide)) ?_
    refine g_iret dX9_iron_29 rfl ?_
    unfold M_iron
    (repeat' split) <;> first | (exfalso; omega) | exact PC_ref hInv (by decide) (by omega) rfl | exact PC_same hInv (by omega) | exact PC_iron hInv (by omega) (by omega) (by omega) (by first | rfl | (congr 1 <;> first | rfl | omega))
  refine g_astore_n (L' := [some (Rf 1), some (Iv s), some (Nl)]) 6 dX9_iron_5 rfl (by decide) rfl ?_
  refine g_aload_n 7 dX9_iron_6 rfl rfl ?_
  refine r_ifnonnull_n 10 16 dX9_iron_7 (by decide) rfl ?_
  refine g_aload_n 11 dX9_iron_10 rfl rfl ?_
  refine g_iconst 12 dX9_iron_11 (by decide) rfl ?_
  refine e_V 15 0 0 [Iv (-1)] [] dX9_iron_12 cvX9_74 mwX9_refuse kd_1 (by decide) rfl (Nat.le_of_ble_eq_true rfl) rfl rfl rfl (c_X9_refuse 1 (by decide) (by decide)) ?_
  refine g_iret dX9_iron_15 rfl ?_
  unfold M_iron
  (repeat' split) <;> first | (exfalso; omega) | exact PC_ref hInv (by decide) (by omega) rfl | exact PC_same hInv (by omega) | exact PC_iron hInv (by omega) (by omega) (by omega) (by first | rfl | (congr 1 <;> first | rfl | omega))
set_option maxHeartbeats 4000000 in
set_option maxRecDepth 20000 in
theorem c_X9_renew {B : Bs} {n0 : Nat} {V : Vs} {κ : Ks} {s : Int} (r_s : inR s)  (hInv : Inv κ V) : Ct (XR B n0) mX9_renew 5 0 0 [Rf 1, Iv s] V κ (PC κ (M_renew κ s)) := by
  obtain ⟨hI, hC, hV⟩ := id hInv
  obtain ⟨cA, cB, cC, cD, cE, cF, cG, cS, cL, cH, cN, cT, cW, cK, cZ⟩ := id hC
  obtain ⟨⟨i0, i1, i2, i3, i4, i5, i6, i7, i8, i9⟩, iS, iH, iR, iT, iC, iG, iL, iZ⟩ := id hI
  obtain ⟨⟨cV0, cV1, cV2, cV4⟩, _⟩ := id hV
  obtain ⟨cA0, cA1, cA2⟩ := id cA
  obtain ⟨cB0, cB1, cB2⟩ := id cB
  obtain ⟨⟨⟨⟨z0, z1, z2⟩, z3, z4, z5⟩, z6, z7⟩, z8⟩ := id cZ
  have en0 : κ 2 2 = κ 40 11 := cG.1.2.2.1
  have en1 : κ 3 2 = κ 40 20 := cG.2.1.2.2.1
  have en2 : κ 4 2 = κ 40 31 := cG.2.2.1.2.2.1
  have en3 : κ 5 2 = κ 40 41 := cG.2.2.2.2.2.1
  refine Ct.of (L := [some (Rf 1), some (Iv s), none]) 1 (by decide +kernel) rfl rfl ?_
  refine g_aload_n 1 dX9_renew_0 rfl rfl ?_
  refine g_iload_n 2 dX9_renew_1 rfl rfl ?_
  refine o_V 5 0 0 [Iv s] [] dX9_renew_2 cvX9_105 mwX9_streetAt kd_1 (by decide) rfl (Nat.le_of_ble_eq_true rfl) rfl rfl rfl (c_X9_streetAt cG.1 (by omega) (by omega)) (fun h1 => ?_) (fun h1 => ?_)
  · have qS := cS (s).toNat (by omega)
    have qI := iS (s).toNat (by omega)
    refine g_astore_n (L' := [some (Rf 1), some (Iv s), some (Rf (100 + (s).toNat))]) 6 dX9_renew_5 rfl (by decide) rfl ?_
    refine g_aload_n 7 dX9_renew_6 rfl rfl ?_
    refine r_ifnonnull_s 16 dX9_renew_7 (by decide) ?_
    refine g_aload_n 17 dX9_renew_16 rfl rfl ?_
    refine r_getI 20 (κ (100 + (s).toNat) 3) dX9_renew_17 fgX9_207 (kd_S (by omega)) (ly_S (by omega) 3) rfl (rfl) (fun r2 => ?_)
    refine g_if_eq 30 23 dX9_renew_20 (by first | assumption | omega) (by decide) rfl (fun h3 => ?_) (fun h3 => ?_)
    · refine g_aload_n 31 dX9_renew_30 rfl rfl ?_
      refine g_aload_n 32 dX9_renew_31 rfl rfl ?_
      refine e_V 35 0 0 [] [Rf (100 + (s).toNat)] dX9_renew_32 cvX9_84 mwX9_weekNow kd_1 (by decide) rfl (Nat.le_of_ble_eq_true rfl) rfl rfl rfl (c_X9_weekNow (by omega)) ?_
      refine e_V 38 0 0 [Iv ((κ 1 12) / 168)] [] dX9_renew_35 cvX9_210 mwX5_layAnew (kd_S (by omega)) (by decide) rfl (Nat.le_of_ble_eq_true rfl) rfl rfl rfl (c_X5_layAnew (by omega) (by omega)) ?_
      refine g_iret dX9_renew_38 rfl ?_
      unfold M_renew
      (repeat' split) <;> first | (exfalso; omega) | exact PC_ref hInv (by decide) (by omega) rfl | exact PC_same hInv (by omega) | exact PC_renew hInv (by omega) (by omega) (by omega) (by first | rfl | (congr 1 <;> first | rfl | omega))
    refine g_aload_n 24 dX9_renew_23 rfl rfl ?_
    refine g_bipush 26 dX9_renew_24 (by decide) rfl ?_
    refine e_V 29 0 0 [Iv (-3)] [] dX9_renew_26 cvX9_74 mwX9_refuse kd_1 (by decide) rfl (Nat.le_of_ble_eq_true rfl) rfl rfl rfl (c_X9_refuse 3 (by decide) (by decide)) ?_
    refine g_iret dX9_renew_29 rfl ?_
    unfold M_renew
    (repeat' split) <;> first | (exfalso; omega) | exact PC_ref hInv (by decide) (by omega) rfl | exact PC_same hInv (by omega) | exact PC_renew hInv (by omega) (by omega) (by omega) (by first | rfl | (congr 1 <;> first | rfl | omega))
  refine g_astore_n (L' := [some (Rf 1), some (Iv s), some (Nl)]) 6 dX9_renew_5 rfl (by decide) rfl ?_
  refine g_aload_n 7 dX9_renew_6 rfl rfl ?_
  refine r_ifnonnull_n 10 16 dX9_renew_7 (by decide) rfl ?_
  refine g_aload_n 11 dX9_renew_10 rfl rfl ?_
  refine g_iconst 12 dX9_renew_11 (by decide) rfl ?_
  refine e_V 15 0 0 [Iv (-1)] [] dX9_renew_12 cvX9_74 mwX9_refuse kd_1 (by decide) rfl (Nat.le_of_ble_eq_true rfl) rfl rfl rfl (c_X9_refuse 1 (by decide) (by decide)) ?_
  refine g_iret dX9_renew_15 rfl ?_
  unfold M_renew
  (repeat' split) <;> first | (exfalso; omega) | exact PC_ref hInv (by decide) (by omega) rfl | exact PC_same hInv (by omega) | exact PC_renew hInv (by omega) (by omega) (by omega) (by first | rfl | (congr 1 <;> first | rfl | omega))
