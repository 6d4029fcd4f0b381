/-! the class: public methods that only look (printed by wip/whole/gen31.py) -/
set_option maxHeartbeats 4000000 in
set_option maxRecDepth 20000 in
theorem c_X9_set {B : Bs} {n0 : Nat} {V : Vs} {κ : Ks} {w v : Int} (r_w : inR w) (r_v : inR v)  (hInv : Inv κ V) : Ct (XR B n0) mX9_set 2 0 0 [Rf 1, Iv w, Iv v] V κ (PC κ (M_set κ w v)) := by
  obtain ⟨hI, hC, hV⟩ := id hInv
  obtain ⟨cA, cB, cC, cD, cE, cF, cG, cS, cL, cH, cN, cT, cW, cK, cZ⟩ := id hC
  obtain ⟨⟨i0, i1, i2, i3, i4, i5, i6, i7, i8, i9⟩, iS, iH, iR, iT, iC, iG, iL, iZ⟩ := id hI
  obtain ⟨⟨cV0, cV1, cV2, cV4⟩, _⟩ := id hV
  obtain ⟨cA0, cA1, cA2⟩ := id cA
  obtain ⟨cB0, cB1, cB2⟩ := id cB
  obtain ⟨⟨⟨⟨z0, z1, z2⟩, z3, z4, z5⟩, z6, z7⟩, z8⟩ := id cZ
  have en0 : κ 2 2 = κ 40 11 := cG.1.2.2.1
  have en1 : κ 3 2 = κ 40 20 := cG.2.1.2.2.1
  have en2 : κ 4 2 = κ 40 31 := cG.2.2.1.2.2.1
  have en3 : κ 5 2 = κ 40 41 := cG.2.2.2.2.2.1
  refine Ct.of (L := [some (Rf 1), some (Iv w), some (Iv v), none]) 1 (by decide +kernel) rfl rfl ?_
  refine g_iload_n 1 dX9_set_0 rfl rfl ?_
  refine g_if_lt 9 4 dX9_set_1 (by first | assumption | omega) (by decide) rfl (fun h1 => ?_) (fun h1 => ?_)
  · refine g_aload_n 10 dX9_set_9 rfl rfl ?_
    refine g_bipush 12 dX9_set_10 (by decide) rfl ?_
    refine e_V 15 0 0 [Iv (-2)] [] dX9_set_12 cvX9_74 mwX9_refuse kd_1 (by decide) rfl (Nat.le_of_ble_eq_true rfl) rfl rfl rfl (c_X9_refuse 2 (by decide) (by decide)) ?_
    refine g_iret dX9_set_15 rfl ?_
    unfold M_set
    rw [if_pos (by omega)]
    exact PC_ref hInv (by decide) rfl rfl
  refine g_iload_n 5 dX9_set_4 rfl rfl ?_
  refine g_iconst 6 dX9_set_5 (by decide) rfl ?_
  refine g_icmp_le 16 9 dX9_set_6 (by first | assumption | omega) (by decide) (by decide) rfl (fun h2 => ?_) (fun h2 => ?_)
  · refine g_iload_n 17 dX9_set_16 rfl rfl ?_
    refine g_gets 20 (t := 30) dX9_set_17 (fun s h => h.2.2.2.1) rfl gsX9_94 (by first | assumption | rfl) (by rw [kd_30]; decide) rfl ?_
    refine g_iload_n 21 dX9_set_20 rfl rfl ?_
    refine r_iald30 22 ((w).toNat) (κ 30 ((w).toNat)) dX9_set_21 kd_30 (by decide) (by omega) (rfl) rfl (rfl) (fun r3 => ?_)
    refine g_icmp_ge 32 25 dX9_set_22 (by first | assumption | omega) (by first | assumption | omega) (by decide) rfl (fun h4 => ?_) (fun h4 => ?_)
    · refine g_iload_n 33 dX9_set_32 rfl rfl ?_
      refine g_gets 36 (t := 31) dX9_set_33 (fun s h => h.2.2.2.2.1) rfl gsX9_97 (by first | assumption | rfl) (by rw [kd_31]; decide) rfl ?_
      refine g_iload_n 37 dX9_set_36 rfl rfl ?_
      refine r_iald30 38 ((w).toNat) (κ 31 ((w).toNat)) dX9_set_37 kd_31 (by decide) (by omega) (rfl) rfl (rfl) (fun r5 => ?_)
      refine g_icmp_le 48 41 dX9_set_38 (by first | assumption | omega) (by first | assumption | omega) (by decide) rfl (fun h6 => ?_) (fun h6 => ?_)
      · refine g_aload_n 49 dX9_set_48 rfl rfl ?_
        refine g_getC 52 dX9_set_49 fgX9_35 kd_1 ly_1_6 rfl ?_
        refine g_iload_n 53 dX9_set_52 rfl rfl ?_
        refine r_iald 54 ((w).toNat) (κ 8 ((w).toNat)) dX9_set_53 kd_8 (by decide) (by omega) (rfl) rfl (rfl) (fun r7 => ?_)
        refine g_istore_n (L' := [some (Rf 1), some (Iv w), some (Iv v), some (Iv (κ 8 ((w).toNat)))]) 55 dX9_set_54 rfl (by decide) rfl ?_
        refine g_aload_n 56 dX9_set_55 rfl rfl ?_
        refine g_getC 59 dX9_set_56 fgX9_35 kd_1 ly_1_6 rfl ?_
        refine g_iload_n 60 dX9_set_59 rfl rfl ?_
        refine g_iload_n 61 dX9_set_60 rfl rfl ?_
        refine r_iast 62 ((w).toNat) dX9_set_61 kd_8 (by decide) ly_8 (by omega) (rfl) (by omega) rfl ?_
        refine g_iload_n 63 dX9_set_62 rfl rfl ?_
        refine g_iret dX9_set_63 rfl ?_
        rcases (show w = 0 ∨ w = 1 ∨ w = 2 by omega) with e | e | e
        · have f1 : κ 30 (w).toNat = 0 := by rw [e]; exact z0
          have f2 : κ 31 (w).toNat = 5000 := by rw [e]; exact z3
          have f3 : κ 8 (w).toNat = κ 40 1 := by rw [e]; exact cB0
          unfold M_set
          (repeat' split) <;> first | (exfalso; omega) | exact PC_ref hInv (by decide) (by omega) rfl | exact PC_same hInv (by omega) | exact PC_set0 hInv (by omega) (by omega) (by rw [e]; rfl)
        · have f1 : κ 30 (w).toNat = 0 := by rw [e]; exact z1
          have f2 : κ 31 (w).toNat = 50 := by rw [e]; exact z4
          have f3 : κ 8 (w).toNat = κ 40 2 := by rw [e]; exact cB1
          unfold M_set
          (repeat' split) <;> first | (exfalso; omega) | exact PC_ref hInv (by decide) (by omega) rfl | exact PC_same hInv (by omega) | exact PC_set1 hInv (by omega) (by omega) (by rw [e]; rfl)
        · have f1 : κ 30 (w).toNat = 1 := by rw [e]; exact z2
          have f2 : κ 31 (w).toNat = 99 := by rw [e]; exact z5
          have f3 : κ 8 (w).toNat = κ 40 3 := by rw [e]; exact cB2
          unfold M_set
          (repeat' split) <;> first | (exfalso; omega) | exact PC_ref hInv (by decide) (by omega) rfl | exact PC_same hInv (by omega) | exact PC_set2 hInv (by omega) (by omega) (by rw [e]; rfl)
      refine g_aload_n 42 dX9_set_41 rfl rfl ?_
      refine g_bipush 44 dX9_set_42 (by decide) rfl ?_
      refine e_V 47 0 0 [Iv (-6)] [] dX9_set_44 cvX9_74 mwX9_refuse kd_1 (by decide) rfl (Nat.le_of_ble_eq_true rfl) rfl rfl rfl (c_X9_refuse 6 (by decide) (by decide)) ?_
      refine g_iret dX9_set_47 rfl ?_
      rcases (show w = 0 ∨ w = 1 ∨ w = 2 by omega) with e | e | e
      · have f1 : κ 30 (w).toNat = 0 := by rw [e]; exact z0
        have f2 : κ 31 (w).toNat = 5000 := by rw [e]; exact z3
        have f3 : κ 8 (w).toNat = κ 40 1 := by rw [e]; exact cB0
        unfold M_set
        (repeat' split) <;> first | (exfalso; omega) | exact PC_ref hInv (by decide) (by omega) rfl | exact PC_same hInv (by omega) | exact PC_set0 hInv (by omega) (by omega) (by rw [e]; rfl)
      · have f1 : κ 30 (w).toNat = 0 := by rw [e]; exact z1
        have f2 : κ 31 (w).toNat = 50 := by rw [e]; exact z4
        have f3 : κ 8 (w).toNat = κ 40 2 := by rw [e]; exact cB1
        unfold M_set
        (repeat' split) <;> first | (exfalso; omega) | exact PC_ref hInv (by decide) (by omega) rfl | exact PC_same hInv (by omega) | exact PC_set1 hInv (by omega) (by omega) (by rw [e]; rfl)
      · have f1 : κ 30 (w).toNat = 1 := by rw [e]; exact z2
        have f2 : κ 31 (w).toNat = 99 := by rw [e]; exact z5
        have f3 : κ 8 (w).toNat = κ 40 3 := by rw [e]; exact cB2
        unfold M_set
        (repeat' split) <;> first | (exfalso; omega) | exact PC_ref hInv (by decide) (by omega) rfl | exact PC_same hInv (by omega) | exact PC_set2 hInv (by omega) (by omega) (by rw [e]; rfl)
    refine g_aload_n 26 dX9_set_25 rfl rfl ?_
    refine g_bipush 28 dX9_set_26 (by decide) rfl ?_
    refine e_V 31 0 0 [Iv (-4)] [] dX9_set_28 cvX9_74 mwX9_refuse kd_1 (by decide) rfl (Nat.le_of_ble_eq_true rfl) rfl rfl rfl (c_X9_refuse 4 (by decide) (by decide)) ?_
    refine g_iret dX9_set_31 rfl ?_
    rcases (show w = 0 ∨ w = 1 ∨ w = 2 by omega) with e | e | e
    · have f1 : κ 30 (w).toNat = 0 := by rw [e]; exact z0
      have f2 : κ 31 (w).toNat = 5000 := by rw [e]; exact z3
      have f3 : κ 8 (w).toNat = κ 40 1 := by rw [e]; exact cB0
      unfold M_set
      (repeat' split) <;> first | (exfalso; omega) | exact PC_ref hInv (by decide) (by omega) rfl | exact PC_same hInv (by omega) | exact PC_set0 hInv (by omega) (by omega) (by rw [e]; rfl)
    · have f1 : κ 30 (w).toNat = 0 := by rw [e]; exact z1
      have f2 : κ 31 (w).toNat = 50 := by rw [e]; exact z4
      have f3 : κ 8 (w).toNat = κ 40 2 := by rw [e]; exact cB1
      unfold M_set
      (repeat' split) <;> first | (exfalso; omega) | exact PC_ref hInv (by decide) (by omega) rfl | exact PC_same hInv (by omega) | exact PC_set1 hInv (by omega) (by omega) (by rw [e]; rfl)
    · have f1 : κ 30 (w).toNat = 1 := by rw [e]; exact z2
      have f2 : κ 31 (w).toNat = 99 := by rw [e]; exact z5
      have f3 : κ 8 (w).toNat = κ 40 3 := by rw [e]; exact cB2
      unfold M_set
      (repeat' split) <;> first | (exfalso; omega) | exact PC_ref hInv (by decide) (by omega) rfl | exact PC_same hInv (by omega) | exact PC_set2 hInv (by omega) (by omega) (by rw [e]; rfl)
  refine g_aload_n 10 dX9_set_9 rfl rfl ?_
  refine g_bipush 12 dX9_set_10 (by decide) rfl ?_
  refine e_V 15 0 0 [Iv (-2)] [] dX9_set_12 cvX9_74 mwX9_refuse kd_1 (by decide) rfl (Nat.le_of_ble_eq_true rfl) rfl rfl rfl (c_X9_refuse 2 (by decide) (by decide)) ?_
  refine g_iret dX9_set_15 rfl ?_
  unfold M_set
  rw [if_pos (by omega)]
  exact PC_ref hInv (by decide) rfl rfl
set_option maxHeartbeats 4000000 in
set_option maxRecDepth 20000 in
theorem c_X9_span {B : Bs} {n0 : Nat} {V : Vs} {κ : Ks} {s w : Int} (r_s : inR s) (r_w : inR w)  (hInv : Inv κ V) : Ct (XR B n0) mX9_span 5 0 0 [Rf 1, Iv s, Iv w] V κ (PC κ (M_span κ s w)) := by
  obtain ⟨hI, hC, hV⟩ := id hInv
  obtain ⟨cA, cB, cC, cD, cE, cF, cG, cS, cL, cH, cN, cT, cW, cK, cZ⟩ := id hC
  obtain ⟨⟨i0, i1, i2, i3, i4, i5, i6, i7, i8, i9⟩, iS, iH, iR, iT, iC, iG, iL, iZ⟩ := id hI
  obtain ⟨⟨cV0, cV1, cV2, cV4⟩, _⟩ := id hV
  obtain ⟨cA0, cA1, cA2⟩ := id cA
  obtain ⟨cB0, cB1, cB2⟩ := id cB
  obtain ⟨⟨⟨⟨z0, z1, z2⟩, z3, z4, z5⟩, z6, z7⟩, z8⟩ := id cZ
  have en0 : κ 2 2 = κ 40 11 := cG.1.2.2.1
  have en1 : κ 3 2 = κ 40 20 := cG.2.1.2.2.1
  have en2 : κ 4 2 = κ 40 31 := cG.2.2.1.2.2.1
  have en3 : κ 5 2 = κ 40 41 := cG.2.2.2.2.2.1
  refine Ct.of (L := [some (Rf 1), some (Iv s), some (Iv w), none]) 1 (by decide +kernel) rfl rfl ?_
  refine g_aload_n 1 dX9_span_0 rfl rfl ?_
  refine g_iload_n 2 dX9_span_1 rfl rfl ?_
  refine o_V 5 0 0 [Iv s] [] dX9_span_2 cvX9_105 mwX9_streetAt kd_1 (by decide) rfl (Nat.le_of_ble_eq_true rfl) rfl rfl rfl (c_X9_streetAt cG.1 (by omega) (by omega)) (fun h1 => ?_) (fun h1 => ?_)
  · have qS := cS (s).toNat (by omega)
    have qI := iS (s).toNat (by omega)
    refine g_astore_n (L' := [some (Rf 1), some (Iv s), some (Iv w), some (Rf (100 + (s).toNat))]) 6 dX9_span_5 rfl (by decide) rfl ?_
    refine g_aload_n 7 dX9_span_6 rfl rfl ?_
    refine r_ifnonnull_s 16 dX9_span_7 (by decide) ?_
    refine g_iload_n 17 dX9_span_16 rfl rfl ?_
    refine g_if_lt 25 20 dX9_span_17 (by first | assumption | omega) (by decide) rfl (fun h2 => ?_) (fun h2 => ?_)
    · refine g_aload_n 26 dX9_span_25 rfl rfl ?_
      refine g_bipush 28 dX9_span_26 (by decide) rfl ?_
      refine e_V 31 0 0 [Iv (-2)] [] dX9_span_28 cvX9_74 mwX9_refuse kd_1 (by decide) rfl (Nat.le_of_ble_eq_true rfl) rfl rfl rfl (c_X9_refuse 2 (by decide) (by decide)) ?_
      refine g_iret dX9_span_31 rfl ?_
      have qL := cL s.toNat (by omega)
      rw [show ((s.toNat : Nat) : Int) = s by omega] at qL
      unfold M_span
      (repeat' split) <;> first | (exfalso; omega) | exact PC_ref hInv (by decide) (by omega) rfl | exact PC_same hInv (by omega)
    refine g_iload_n 21 dX9_span_20 rfl rfl ?_
    refine g_iconst 22 dX9_span_21 (by decide) rfl ?_
    refine g_icmp_le 32 25 dX9_span_22 (by first | assumption | omega) (by decide) (by decide) rfl (fun h3 => ?_) (fun h3 => ?_)
    · refine g_aload_n 33 dX9_span_32 rfl rfl ?_
      refine r_getI 36 (κ (100 + (s).toNat) 8) dX9_span_33 fgX9_237 (kd_S (by omega)) (ly_S (by omega) 8) rfl (rfl) (fun r4 => ?_)
      refine g_aload_n 37 dX9_span_36 rfl rfl ?_
      refine r_getI 40 (κ (100 + (s).toNat) 9) dX9_span_37 fgX9_240 (kd_S (by omega)) (ly_S (by omega) 9) rfl (rfl) (fun r5 => ?_)
      refine g_icmp_le 46 43 dX9_span_40 (by first | assumption | omega) (by first | assumption | omega) (by decide) rfl (fun h6 => ?_) (fun h6 => ?_)
      · refine g_iload_n 47 dX9_span_46 rfl rfl ?_
        refine g_if_ne 57 50 dX9_span_47 (by first | assumption | omega) (by decide) rfl (fun h7 => ?_) (fun h7 => ?_)
        · refine g_aload_n 58 dX9_span_57 rfl rfl ?_
          refine r_getI 61 (κ (100 + (s).toNat) 9) dX9_span_58 fgX9_240 (kd_S (by omega)) (ly_S (by omega) 9) rfl (rfl) (fun r8 => ?_)
          refine g_iret dX9_span_61 rfl ?_
          have qL := cL s.toNat (by omega)
          rw [show ((s.toNat : Nat) : Int) = s by omega] at qL
          unfold M_span
          (repeat' split) <;> first | (exfalso; omega) | exact PC_ref hInv (by decide) (by omega) rfl | exact PC_same hInv (by omega)
        refine g_aload_n 51 dX9_span_50 rfl rfl ?_
        refine r_getI 54 (κ (100 + (s).toNat) 8) dX9_span_51 fgX9_237 (kd_S (by omega)) (ly_S (by omega) 8) rfl (rfl) (fun r9 => ?_)
        refine g_goto 61 dX9_span_54 (by decide) ?_
        refine g_iret dX9_span_61 rfl ?_
        have qL := cL s.toNat (by omega)
        rw [show ((s.toNat : Nat) : Int) = s by omega] at qL
        unfold M_span
        (repeat' split) <;> first | (exfalso; omega) | exact PC_ref hInv (by decide) (by omega) rfl | exact PC_same hInv (by omega)
      refine g_bipush 45 dX9_span_43 (by decide) rfl ?_
      refine g_iret dX9_span_45 rfl ?_
      have qL := cL s.toNat (by omega)
      rw [show ((s.toNat : Nat) : Int) = s by omega] at qL
      unfold M_span
      (repeat' split) <;> first | (exfalso; omega) | exact PC_ref hInv (by decide) (by omega) rfl | exact PC_same hInv (by omega)
    refine g_aload_n 26 dX9_span_25 rfl rfl ?_
    refine g_bipush 28 dX9_span_26 (by decide) rfl ?_
    refine e_V 31 0 0 [Iv (-2)] [] dX9_span_28 cvX9_74 mwX9_refuse kd_1 (by decide) rfl (Nat.le_of_ble_eq_true rfl) rfl rfl rfl (c_X9_refuse 2 (by decide) (by decide)) ?_
    refine g_iret dX9_span_31 rfl ?_
    have qL := cL s.toNat (by omega)
    rw [show ((s.toNat : Nat) : Int) = s by omega] at qL
    unfold M_span
    (repeat' split) <;> first | (exfalso; omega) | exact PC_ref hInv (by decide) (by omega) rfl | exact PC_same hInv (by omega)
  refine g_astore_n (L' := [some (Rf 1), some (Iv s), some (Iv w), some (Nl)]) 6 dX9_span_5 rfl (by decide) rfl ?_
  refine g_aload_n 7 dX9_span_6 rfl rfl ?_
  refine r_ifnonnull_n 10 16 dX9_span_7 (by decide) rfl ?_
  refine g_aload_n 11 dX9_span_10 rfl rfl ?_
  refine g_iconst 12 dX9_span_11 (by decide) rfl ?_
  refine e_V 15 0 0 [Iv (-1)] [] dX9_span_12 cvX9_74 mwX9_refuse kd_1 (by decide) rfl (Nat.le_of_ble_eq_true rfl) rfl rfl rfl (c_X9_refuse 1 (by decide) (by decide)) ?_
  refine g_iret dX9_span_15 rfl ?_
  unfold M_span
  (repeat' split) <;> first | (exfalso; omega) | exact PC_ref hInv (by decide) (by omega) rfl | exact PC_same hInv (by omega)
set_option maxHeartbeats 4000000 in
set_option maxRecDepth 20000 in
theorem c_X9_let {B : Bs} {n0 : Nat} {V : Vs} {κ : Ks} {s h w : Int} (r_s : inR s) (r_h : inR h) (r_w : inR w)  (hInv : Inv κ V) : Ct (XR B n0) mX9_let 5 0 0 [Rf 1, Iv s, Iv h, Iv w] V κ (PC κ (M_let κ s h w)) := by
  obtain ⟨hI, hC, hV⟩ := id hInv
  obtain ⟨cA, cB, cC, cD, cE, cF, cG, cS, cL, cH, cN, cT, cW, cK, cZ⟩ := id hC
  obtain ⟨⟨i0, i1, i2, i3, i4, i5, i6, i7, i8, i9⟩, iS, iH, iR, iT, iC, iG, iL, iZ⟩ := id hI
  obtain ⟨⟨cV0, cV1, cV2, cV4⟩, _⟩ := id hV
  obtain ⟨cA0, cA1, cA2⟩ := id cA
  obtain ⟨cB0, cB1, cB2⟩ := id cB
  obtain ⟨⟨⟨⟨z0, z1, z2⟩, z3, z4, z5⟩, z6, z7⟩, z8⟩ := id cZ
  have en0 : κ 2 2 = κ 40 11 := cG.1.2.2.1
  have en1 : κ 3 2 = κ 40 20 := cG.2.1.2.2.1
  have en2 : κ 4 2 = κ 40 31 := cG.2.2.1.2.2.1
  have en3 : κ 5 2 = κ 40 41 := cG.2.2.2.2.2.1
  refine Ct.of (L := [some (Rf 1), some (Iv s), some (Iv h), some (Iv w), none]) 1 (by decide +kernel) rfl rfl ?_
  refine g_aload_n 1 dX9_let_0 rfl rfl ?_
  refine g_iload_n 2 dX9_let_1 rfl rfl ?_
  refine o_V 5 0 0 [Iv s] [] dX9_let_2 cvX9_105 mwX9_streetAt kd_1 (by decide) rfl (Nat.le_of_ble_eq_true rfl) rfl rfl rfl (c_X9_streetAt cG.1 (by omega) (by omega)) (fun h1 => ?_) (fun h1 => ?_)
  · have qS := cS (s).toNat (by omega)
    have qI := iS (s).toNat (by omega)
    refine r_ifnonnull_s 14 dX9_let_5 (by decide) ?_
    refine g_iload_n 15 dX9_let_14 rfl rfl ?_
    refine g_if_ge 25 18 dX9_let_15 (by first | assumption | omega) (by decide) rfl (fun h2 => ?_) (fun h2 => ?_)
    · refine g_iload_n 26 dX9_let_25 rfl rfl ?_
      refine g_sipush 29 dX9_let_26 (by decide) rfl ?_
      refine g_icmp_lt 39 32 dX9_let_29 (by first | assumption | omega) (by decide) (by decide) rfl (fun h3 => ?_) (fun h3 => ?_)
      · refine g_iload_n 40 dX9_let_39 rfl rfl ?_
        refine g_if_lt 48 43 dX9_let_40 (by first | assumption | omega) (by decide) rfl (fun h4 => ?_) (fun h4 => ?_)
        · refine g_aload_n 49 dX9_let_48 rfl rfl ?_
          refine g_bipush 51 dX9_let_49 (by decide) rfl ?_
          refine e_V 54 0 0 [Iv (-2)] [] dX9_let_51 cvX9_74 mwX9_refuse kd_1 (by decide) rfl (Nat.le_of_ble_eq_true rfl) rfl rfl rfl (c_X9_refuse 2 (by decide) (by decide)) ?_
          refine g_iret dX9_let_54 rfl ?_
          unfold M_let
          (repeat' split) <;> first | (exfalso; omega) | exact PC_ref hInv (by decide) (by omega) rfl | exact PC_same hInv (by omega)
        refine g_iload_n 44 dX9_let_43 rfl rfl ?_
        refine g_iconst 45 dX9_let_44 (by decide) rfl ?_
        refine g_icmp_le 55 48 dX9_let_45 (by first | assumption | omega) (by decide) (by decide) rfl (fun h5 => ?_) (fun h5 => ?_)
        · have hk := cK (h % 168).toNat (by omega)
          refine g_iload_n 56 dX9_let_55 rfl rfl ?_
          refine g_if_ne 70 59 dX9_let_56 (by first | assumption | omega) (by decide) rfl (fun h6 => ?_) (fun h6 => ?_)
          · refine g_aload_n 71 dX9_let_70 rfl rfl ?_
            refine g_getC 74 dX9_let_71 fgX9_44 kd_1 ly_1_8 rfl ?_
            refine g_iload_n 75 dX9_let_74 rfl rfl ?_
            refine e_V 78 0 0 [Iv h] [] dX9_let_75 cvX9_184 mwX8_openStreets kd_10 (by decide) rfl (Nat.le_of_ble_eq_true rfl) rfl rfl rfl (c_X8_openStreets (by omega)) ?_
            refine g_istore (L' := [some (Rf 1), some (Iv s), some (Iv h), some (Iv w), some (Iv (κ 12 (h % 168).toNat))]) 80 dX9_let_78 rfl (by decide) rfl ?_
            refine g_iload 82 dX9_let_80 rfl rfl ?_
            refine g_iload_n 83 dX9_let_82 rfl rfl ?_
            refine o_S 86 0 0 [Iv (κ 12 (h % 168).toNat), Iv s] [] dX9_let_83 csX9_187 mwX9_hasStreet (by decide) rfl (Nat.le_of_ble_eq_true rfl) rfl rfl rfl (c_X9_hasStreet (by omega) (by omega)) (fun h7 => ?_) (fun h7 => ?_)
            · refine g_if_eq 93 89 dX9_let_86 (by decide) (by decide) rfl (fun z => absurd z (by decide)) (fun _ => ?_)
              refine g_iconst 90 dX9_let_89 (by decide) rfl ?_
              refine g_goto 94 dX9_let_90 (by decide) ?_
              refine g_iret dX9_let_94 rfl ?_
              have k1 := hk.1.2.2 s.toNat (by omega)
              have k2 := hk.2.2.2 s.toNat (by omega)
              rw [show ((s.toNat : Nat) : Int) = s by omega, show (((h % 168).toNat : Nat) : Int) = h by omega] at k1 k2
              unfold M_let
              (repeat' split) <;> first | (exfalso; omega) | exact PC_ref hInv (by decide) (by omega) rfl | exact PC_same hInv (by omega) | (exfalso; simp_all) | (exact PC_same hInv (by simp_all))
            refine g_if_eq 93 89 dX9_let_86 (by decide) (by decide) rfl (fun _ => ?_) (fun z => absurd z (by decide))
            refine g_iconst 94 dX9_let_93 (by decide) rfl ?_
            refine g_iret dX9_let_94 rfl ?_
            have k1 := hk.1.2.2 s.toNat (by omega)
            have k2 := hk.2.2.2 s.toNat (by omega)
            rw [show ((s.toNat : Nat) : Int) = s by omega, show (((h % 168).toNat : Nat) : Int) = h by omega] at k1 k2
            unfold M_let
            (repeat' split) <;> first | (exfalso; omega) | exact PC_ref hInv (by decide) (by omega) rfl | exact PC_same hInv (by omega) | (exfalso; simp_all) | (exact PC_same hInv (by simp_all))
          refine g_aload_n 60 dX9_let_59 rfl rfl ?_
          refine g_getC 63 dX9_let_60 fgX9_44 kd_1 ly_1_8 rfl ?_
          refine g_iload_n 64 dX9_let_63 rfl rfl ?_
          refine e_V 67 0 0 [Iv h] [] dX9_let_64 cvX9_181 mwX8_letStreets kd_10 (by decide) rfl (Nat.le_of_ble_eq_true rfl) rfl rfl rfl (c_X8_letStreets (by omega)) ?_
          refine g_goto 78 dX9_let_67 (by decide) ?_
          refine g_istore (L' := [some (Rf 1), some (Iv s), some (Iv h), some (Iv w), some (Iv (κ 11 (h % 168).toNat))]) 80 dX9_let_78 rfl (by decide) rfl ?_
          refine g_iload 82 dX9_let_80 rfl rfl ?_
          refine g_iload_n 83 dX9_let_82 rfl rfl ?_
          refine o_S 86 0 0 [Iv (κ 11 (h % 168).toNat), Iv s] [] dX9_let_83 csX9_187 mwX9_hasStreet (by decide) rfl (Nat.le_of_ble_eq_true rfl) rfl rfl rfl (c_X9_hasStreet (by omega) (by omega)) (fun h8 => ?_) (fun h8 => ?_)
          · refine g_if_eq 93 89 dX9_let_86 (by decide) (by decide) rfl (fun z => absurd z (by decide)) (fun _ => ?_)
            refine g_iconst 90 dX9_let_89 (by decide) rfl ?_
            refine g_goto 94 dX9_let_90 (by decide) ?_
            refine g_iret dX9_let_94 rfl ?_
            have k1 := hk.1.2.2 s.toNat (by omega)
            have k2 := hk.2.2.2 s.toNat (by omega)
            rw [show ((s.toNat : Nat) : Int) = s by omega, show (((h % 168).toNat : Nat) : Int) = h by omega] at k1 k2
            unfold M_let
            (repeat' split) <;> first | (exfalso; omega) | exact PC_ref hInv (by decide) (by omega) rfl | exact PC_same hInv (by omega) | (exfalso; simp_all) | (exact PC_same hInv (by simp_all))
          refine g_if_eq 93 89 dX9_let_86 (by decide) (by decide) rfl (fun _ => ?_) (fun z => absurd z (by decide))
          refine g_iconst 94 dX9_let_93 (by decide) rfl ?_
          refine g_iret dX9_let_94 rfl ?_
          have k1 := hk.1.2.2 s.toNat (by omega)
          have k2 := hk.2.2.2 s.toNat (by omega)
          rw [show ((s.toNat : Nat) : Int) = s by omega, show (((h % 168).toNat : Nat) : Int) = h by omega] at k1 k2
          unfold M_let
          (repeat' split) <;> first | (exfalso; omega) | exact PC_ref hInv (by decide) (by omega) rfl | exact PC_same hInv (by omega) | (exfalso; simp_all) | (exact PC_same hInv (by simp_all))
        refine g_aload_n 49 dX9_let_48 rfl rfl ?_
        refine g_bipush 51 dX9_let_49 (by decide) rfl ?_
        refine e_V 54 0 0 [Iv (-2)] [] dX9_let_51 cvX9_74 mwX9_refuse kd_1 (by decide) rfl (Nat.le_of_ble_eq_true rfl) rfl rfl rfl (c_X9_refuse 2 (by decide) (by decide)) ?_
        refine g_iret dX9_let_54 rfl ?_
        unfold M_let
        (repeat' split) <;> first | (exfalso; omega) | exact PC_ref hInv (by decide) (by omega) rfl | exact PC_same hInv (by omega)
      refine g_aload_n 33 dX9_let_32 rfl rfl ?_
      refine g_bipush 35 dX9_let_33 (by decide) rfl ?_
      refine e_V 38 0 0 [Iv (-6)] [] dX9_let_35 cvX9_74 mwX9_refuse kd_1 (by decide) rfl (Nat.le_of_ble_eq_true rfl) rfl rfl rfl (c_X9_refuse 6 (by decide) (by decide)) ?_
      refine g_iret dX9_let_38 rfl ?_
      unfold M_let
      (repeat' split) <;> first | (exfalso; omega) | exact PC_ref hInv (by decide) (by omega) rfl | exact PC_same hInv (by omega)
    refine g_aload_n 19 dX9_let_18 rfl rfl ?_
    refine g_bipush 21 dX9_let_19 (by decide) rfl ?_
    refine e_V 24 0 0 [Iv (-4)] [] dX9_let_21 cvX9_74 mwX9_refuse kd_1 (by decide) rfl (Nat.le_of_ble_eq_true rfl) rfl rfl rfl (c_X9_refuse 4 (by decide) (by decide)) ?_
    refine g_iret dX9_let_24 rfl ?_
    unfold M_let
    (repeat' split) <;> first | (exfalso; omega) | exact PC_ref hInv (by decide) (by omega) rfl | exact PC_same hInv (by omega)
  refine r_ifnonnull_n 8 14 dX9_let_5 (by decide) rfl ?_
  refine g_aload_n 9 dX9_let_8 rfl rfl ?_
  refine g_iconst 10 dX9_let_9 (by decide) rfl ?_
  refine e_V 13 0 0 [Iv (-1)] [] dX9_let_10 cvX9_74 mwX9_refuse kd_1 (by decide) rfl (Nat.le_of_ble_eq_true rfl) rfl rfl rfl (c_X9_refuse 1 (by decide) (by decide)) ?_
  refine g_iret dX9_let_13 rfl ?_
  unfold M_let
  (repeat' split) <;> first | (exfalso; omega) | exact PC_ref hInv (by decide) (by omega) rfl | exact PC_same hInv (by omega)
set_option maxHeartbeats 4000000 in
set_option maxRecDepth 20000 in
theorem c_X9_count {B : Bs} {n0 : Nat} {V : Vs} {κ : Ks} {w : Int} (r_w : inR w)  (hInv : Inv κ V) : Ct (XR B n0) mX9_count 2 0 0 [Rf 1, Iv w] V κ (PC κ (M_count κ w)) := by
  obtain ⟨hI, hC, hV⟩ := id hInv
  obtain ⟨cA, cB, cC, cD, cE, cF, cG, cS, cL, cH, cN, cT, cW, cK, cZ⟩ := id hC
  obtain ⟨⟨i0, i1, i2, i3, i4, i5, i6, i7, i8, i9⟩, iS, iH, iR, iT, iC, iG, iL, iZ⟩ := id hI
  obtain ⟨⟨cV0, cV1, cV2, cV4⟩, _⟩ := id hV
  obtain ⟨cA0, cA1, cA2⟩ := id cA
  obtain ⟨cB0, cB1, cB2⟩ := id cB
  obtain ⟨⟨⟨⟨z0, z1, z2⟩, z3, z4, z5⟩, z6, z7⟩, z8⟩ := id cZ
  have en0 : κ 2 2 = κ 40 11 := cG.1.2.2.1
  have en1 : κ 3 2 = κ 40 20 := cG.2.1.2.2.1
  have en2 : κ 4 2 = κ 40 31 := cG.2.2.1.2.2.1
  have en3 : κ 5 2 = κ 40 41 := cG.2.2.2.2.2.1
  refine Ct.of (L := [some (Rf 1), some (Iv w)]) 0 (by decide +kernel) rfl rfl ?_
  refine g_iload_n 1 dX9_count_0 rfl rfl ?_
  by_cases h1 : w = 0
  · refine g_tabIn 96 95 dX9_count_1 (by omega) (by omega) (by omega) (by rw [h1]; rfl) (by decide) ?_
    refine g_aload_n 97 dX9_count_96 rfl rfl ?_
    refine r_getI 100 (κ 1 12) dX9_count_97 fgX9_201 kd_1 ly_1_12 rfl (rfl) (fun r2 => ?_)
    refine g_iret dX9_count_100 rfl ?_
    obtain ⟨e0, e1, e2, e3, e4, e5⟩ := id cE
    unfold M_count
    (repeat' split) <;> first | (exfalso; omega) | exact PC_ref hInv (by decide) (by omega) rfl | exact PC_same hInv (by omega)
  by_cases h3 : w = 1
  · refine g_tabIn 101 100 dX9_count_1 (by omega) (by omega) (by omega) (by rw [h3]; rfl) (by decide) ?_
    refine g_aload_n 102 dX9_count_101 rfl rfl ?_
    refine g_getC 105 dX9_count_102 fgX9_10 kd_1 ly_1_0 rfl ?_
    refine e_V 108 0 0 [] [] dX9_count_105 cvX9_78 mwJx4a65c_size_8abf5 kd_2 (by decide) rfl (Nat.le_of_ble_eq_true rfl) rfl rfl rfl (c_size_0) ?_
    refine g_iret dX9_count_108 rfl ?_
    obtain ⟨e0, e1, e2, e3, e4, e5⟩ := id cE
    unfold M_count
    (repeat' split) <;> first | (exfalso; omega) | exact PC_ref hInv (by decide) (by omega) rfl | exact PC_same hInv (by omega)
  by_cases h4 : w = 2
  · refine g_tabIn 109 108 dX9_count_1 (by omega) (by omega) (by omega) (by rw [h4]; rfl) (by decide) ?_
    refine g_aload_n 110 dX9_count_109 rfl rfl ?_
    refine g_getC 113 dX9_count_110 fgX9_16 kd_1 ly_1_1 rfl ?_
    refine e_V 116 0 0 [] [] dX9_count_113 cvX9_78 mwJx4a65c_size_8abf5 kd_3 (by decide) rfl (Nat.le_of_ble_eq_true rfl) rfl rfl rfl (c_size_1) ?_
    refine g_iret dX9_count_116 rfl ?_
    obtain ⟨e0, e1, e2, e3, e4, e5⟩ := id cE
    unfold M_count
    (repeat' split) <;> first | (exfalso; omega) | exact PC_ref hInv (by decide) (by omega) rfl | exact PC_same hInv (by omega)
  by_cases h5 : w = 3
  · refine g_tabIn 117 116 dX9_count_1 (by omega) (by omega) (by omega) (by rw [h5]; rfl) (by decide) ?_
    refine g_aload_n 118 dX9_count_117 rfl rfl ?_
    refine r_getI 121 (κ 1 13) dX9_count_118 fgX9_101 kd_1 ly_1_13 rfl (rfl) (fun r6 => ?_)
    refine g_iret dX9_count_121 rfl ?_
    obtain ⟨e0, e1, e2, e3, e4, e5⟩ := id cE
    unfold M_count
    (repeat' split) <;> first | (exfalso; omega) | exact PC_ref hInv (by decide) (by omega) rfl | exact PC_same hInv (by omega)
  by_cases h7 : w = 4
  · refine g_tabIn 122 121 dX9_count_1 (by omega) (by omega) (by omega) (by rw [h7]; rfl) (by decide) ?_
    refine g_aload_n 123 dX9_count_122 rfl rfl ?_
    refine g_getC 126 dX9_count_123 fgX9_51 kd_1 ly_1_9 rfl ?_
    refine r_getI 129 (κ 13 0) dX9_count_126 fgX9_296 kd_13 ly_13_0 rfl (rfl) (fun r8 => ?_)
    refine g_iret dX9_count_129 rfl ?_
    obtain ⟨e0, e1, e2, e3, e4, e5⟩ := id cE
    unfold M_count
    (repeat' split) <;> first | (exfalso; omega) | exact PC_ref hInv (by decide) (by omega) rfl | exact PC_same hInv (by omega)
  by_cases h9 : w = 5
  · refine g_tabIn 130 129 dX9_count_1 (by omega) (by omega) (by omega) (by rw [h9]; rfl) (by decide) ?_
    refine g_aload_n 131 dX9_count_130 rfl rfl ?_
    refine g_getC 134 dX9_count_131 fgX9_51 kd_1 ly_1_9 rfl ?_
    refine r_getI 137 (κ 13 1) dX9_count_134 fgX9_299 kd_13 ly_13_1 rfl (rfl) (fun r10 => ?_)
    refine g_iret dX9_count_137 rfl ?_
    obtain ⟨e0, e1, e2, e3, e4, e5⟩ := id cE
    unfold M_count
    (repeat' split) <;> first | (exfalso; omega) | exact PC_ref hInv (by decide) (by omega) rfl | exact PC_same hInv (by omega)
  by_cases h11 : w = 6
  · refine g_tabIn 138 137 dX9_count_1 (by omega) (by omega) (by omega) (by rw [h11]; rfl) (by decide) ?_
    refine g_aload_n 139 dX9_count_138 rfl rfl ?_
    refine g_getC 142 dX9_count_139 fgX9_51 kd_1 ly_1_9 rfl ?_
    refine r_getI 145 (κ 13 2) dX9_count_142 fgX9_302 kd_13 ly_13_2 rfl (rfl) (fun r12 => ?_)
    refine g_iret dX9_count_145 rfl ?_
    obtain ⟨e0, e1, e2, e3, e4, e5⟩ := id cE
    unfold M_count
    (repeat' split) <;> first | (exfalso; omega) | exact PC_ref hInv (by decide) (by omega) rfl | exact PC_same hInv (by omega)
  by_cases h13 : w = 7
  · refine g_tabIn 146 145 dX9_count_1 (by omega) (by omega) (by omega) (by rw [h13]; rfl) (by decide) ?_
    refine g_aload_n 147 dX9_count_146 rfl rfl ?_
    refine g_getC 150 dX9_count_147 fgX9_51 kd_1 ly_1_9 rfl ?_
    refine r_getI 153 (κ 13 3) dX9_count_150 fgX9_305 kd_13 ly_13_3 rfl (rfl) (fun r14 => ?_)
    refine g_iret dX9_count_153 rfl ?_
    obtain ⟨e0, e1, e2, e3, e4, e5⟩ := id cE
    unfold M_count
    (repeat' split) <;> first | (exfalso; omega) | exact PC_ref hInv (by decide) (by omega) rfl | exact PC_same hInv (by omega)
  by_cases h15 : w = 8
  · refine g_tabIn 154 153 dX9_count_1 (by omega) (by omega) (by omega) (by rw [h15]; rfl) (by decide) ?_
    refine g_aload_n 155 dX9_count_154 rfl rfl ?_
    refine g_getC 158 dX9_count_155 fgX9_19 kd_1 ly_1_2 rfl ?_
    refine e_V 161 0 0 [] [] dX9_count_158 cvX9_78 mwJx4a65c_size_8abf5 kd_4 (by decide) rfl (Nat.le_of_ble_eq_true rfl) rfl rfl rfl (c_size_2) ?_
    refine g_iret dX9_count_161 rfl ?_
    obtain ⟨e0, e1, e2, e3, e4, e5⟩ := id cE
    unfold M_count
    (repeat' split) <;> first | (exfalso; omega) | exact PC_ref hInv (by decide) (by omega) rfl | exact PC_same hInv (by omega)
  by_cases h16 : w = 9
  · refine g_tabIn 162 161 dX9_count_1 (by omega) (by omega) (by omega) (by rw [h16]; rfl) (by decide) ?_
    refine g_aload_n 163 dX9_count_162 rfl rfl ?_
    refine r_getI 166 (κ 1 14) dX9_count_163 fgX9_231 kd_1 ly_1_14 rfl (rfl) (fun r17 => ?_)
    refine g_iret dX9_count_166 rfl ?_
    obtain ⟨e0, e1, e2, e3, e4, e5⟩ := id cE
    unfold M_count
    (repeat' split) <;> first | (exfalso; omega) | exact PC_ref hInv (by decide) (by omega) rfl | exact PC_same hInv (by omega)
  by_cases h18 : w = 10
  · refine g_tabIn 167 166 dX9_count_1 (by omega) (by omega) (by omega) (by rw [h18]; rfl) (by decide) ?_
    refine g_aload_n 168 dX9_count_167 rfl rfl ?_
    refine g_getC 171 dX9_count_168 fgX9_22 kd_1 ly_1_3 rfl ?_
    refine e_V 174 0 0 [] [] dX9_count_171 cvX9_78 mwJx4a65c_size_8abf5 kd_5 (by decide) rfl (Nat.le_of_ble_eq_true rfl) rfl rfl rfl (c_size_3) ?_
    refine g_iret dX9_count_174 rfl ?_
    obtain ⟨e0, e1, e2, e3, e4, e5⟩ := id cE
    unfold M_count
    (repeat' split) <;> first | (exfalso; omega) | exact PC_ref hInv (by decide) (by omega) rfl | exact PC_same hInv (by omega)
  by_cases h19 : w = 11
  · refine g_tabIn 191 190 dX9_count_1 (by omega) (by omega) (by omega) (by rw [h19]; rfl) (by decide) ?_
    refine g_iload_n 192 dX9_count_191 rfl rfl ?_
    refine g_bipush 194 dX9_count_192 (by decide) rfl ?_
    refine g_icmp_lt 215 197 dX9_count_194 (by first | assumption | omega) (by decide) (by decide) rfl (fun h20 => ?_) (fun h20 => ?_)
    · refine g_bipush 217 dX9_count_215 (by decide) rfl ?_
      refine g_iret dX9_count_217 rfl ?_
      obtain ⟨e0, e1, e2, e3, e4, e5⟩ := id cE
      unfold M_count
      (repeat' split) <;> first | (exfalso; omega) | exact PC_ref hInv (by decide) (by omega) rfl | exact PC_same hInv (by omega)
    refine g_iload_n 198 dX9_count_197 rfl rfl ?_
    refine g_bipush 200 dX9_count_198 (by decide) rfl ?_
    refine g_icmp_gt 215 203 dX9_count_200 (by first | assumption | omega) (by decide) (by decide) rfl (fun h21 => ?_) (fun h21 => ?_)
    · refine g_bipush 217 dX9_count_215 (by decide) rfl ?_
      refine g_iret dX9_count_217 rfl ?_
      obtain ⟨e0, e1, e2, e3, e4, e5⟩ := id cE
      unfold M_count
      (repeat' split) <;> first | (exfalso; omega) | exact PC_ref hInv (by decide) (by omega) rfl | exact PC_same hInv (by omega)
    refine g_aload_n 204 dX9_count_203 rfl rfl ?_
    refine g_getC 207 dX9_count_204 fgX9_38 kd_1 ly_1_7 rfl ?_
    refine g_iload_n 208 dX9_count_207 rfl rfl ?_
    refine g_bipush 210 dX9_count_208 (by decide) rfl ?_
    refine g_isub 211 dX9_count_210 rfl ?_
    refine r_iald 212 ((w - 10).toNat) (κ 9 ((w - 10).toNat)) dX9_count_211 kd_9 (by decide) (by omega) (rfl) rfl (rfl) (fun r22 => ?_)
    refine g_goto 217 dX9_count_212 (by decide) ?_
    refine g_iret dX9_count_217 rfl ?_
    obtain ⟨e0, e1, e2, e3, e4, e5⟩ := id cE
    have qd := cD (w - 10).toNat (by omega) (by omega)
    unfold M_count
    (repeat' split) <;> first | (exfalso; omega) | exact PC_ref hInv (by decide) (by omega) rfl | exact PC_same hInv (by omega)
  by_cases h23 : w = 12
  · refine g_tabIn 191 190 dX9_count_1 (by omega) (by omega) (by omega) (by rw [h23]; rfl) (by decide) ?_
    refine g_iload_n 192 dX9_count_191 rfl rfl ?_
    refine g_bipush 194 dX9_count_192 (by decide) rfl ?_
    refine g_icmp_lt 215 197 dX9_count_194 (by first | assumption | omega) (by decide) (by decide) rfl (fun h24 => ?_) (fun h24 => ?_)
    · refine g_bipush 217 dX9_count_215 (by decide) rfl ?_
      refine g_iret dX9_count_217 rfl ?_
      obtain ⟨e0, e1, e2, e3, e4, e5⟩ := id cE
      unfold M_count
      (repeat' split) <;> first | (exfalso; omega) | exact PC_ref hInv (by decide) (by omega) rfl | exact PC_same hInv (by omega)
    refine g_iload_n 198 dX9_count_197 rfl rfl ?_
    refine g_bipush 200 dX9_count_198 (by decide) rfl ?_
    refine g_icmp_gt 215 203 dX9_count_200 (by first | assumption | omega) (by decide) (by decide) rfl (fun h25 => ?_) (fun h25 => ?_)
    · refine g_bipush 217 dX9_count_215 (by decide) rfl ?_
      refine g_iret dX9_count_217 rfl ?_
      obtain ⟨e0, e1, e2, e3, e4, e5⟩ := id cE
      unfold M_count
      (repeat' split) <;> first | (exfalso; omega) | exact PC_ref hInv (by decide) (by omega) rfl | exact PC_same hInv (by omega)
    refine g_aload_n 204 dX9_count_203 rfl rfl ?_
    refine g_getC 207 dX9_count_204 fgX9_38 kd_1 ly_1_7 rfl ?_
    refine g_iload_n 208 dX9_count_207 rfl rfl ?_
    refine g_bipush 210 dX9_count_208 (by decide) rfl ?_
    refine g_isub 211 dX9_count_210 rfl ?_
    refine r_iald 212 ((w - 10).toNat) (κ 9 ((w - 10).toNat)) dX9_count_211 kd_9 (by decide) (by omega) (rfl) rfl (rfl) (fun r26 => ?_)
    refine g_goto 217 dX9_count_212 (by decide) ?_
    refine g_iret dX9_count_217 rfl ?_
    obtain ⟨e0, e1, e2, e3, e4, e5⟩ := id cE
    have qd := cD (w - 10).toNat (by omega) (by omega)
    unfold M_count
    (repeat' split) <;> first | (exfalso; omega) | exact PC_ref hInv (by decide) (by omega) rfl | exact PC_same hInv (by omega)
  by_cases h27 : w = 13
  · refine g_tabIn 191 190 dX9_count_1 (by omega) (by omega) (by omega) (by rw [h27]; rfl) (by decide) ?_
    refine g_iload_n 192 dX9_count_191 rfl rfl ?_
    refine g_bipush 194 dX9_count_192 (by decide) rfl ?_
    refine g_icmp_lt 215 197 dX9_count_194 (by first | assumption | omega) (by decide) (by decide) rfl (fun h28 => ?_) (fun h28 => ?_)
    · refine g_bipush 217 dX9_count_215 (by decide) rfl ?_
      refine g_iret dX9_count_217 rfl ?_
      obtain ⟨e0, e1, e2, e3, e4, e5⟩ := id cE
      unfold M_count
      (repeat' split) <;> first | (exfalso; omega) | exact PC_ref hInv (by decide) (by omega) rfl | exact PC_same hInv (by omega)
    refine g_iload_n 198 dX9_count_197 rfl rfl ?_
    refine g_bipush 200 dX9_count_198 (by decide) rfl ?_
    refine g_icmp_gt 215 203 dX9_count_200 (by first | assumption | omega) (by decide) (by decide) rfl (fun h29 => ?_) (fun h29 => ?_)
    · refine g_bipush 217 dX9_count_215 (by decide) rfl ?_
      refine g_iret dX9_count_217 rfl ?_
      obtain ⟨e0, e1, e2, e3, e4, e5⟩ := id cE
      unfold M_count
      (repeat' split) <;> first | (exfalso; omega) | exact PC_ref hInv (by decide) (by omega) rfl | exact PC_same hInv (by omega)
    refine g_aload_n 204 dX9_count_203 rfl rfl ?_
    refine g_getC 207 dX9_count_204 fgX9_38 kd_1 ly_1_7 rfl ?_
    refine g_iload_n 208 dX9_count_207 rfl rfl ?_
    refine g_bipush 210 dX9_count_208 (by decide) rfl ?_
    refine g_isub 211 dX9_count_210 rfl ?_
    refine r_iald 212 ((w - 10).toNat) (κ 9 ((w - 10).toNat)) dX9_count_211 kd_9 (by decide) (by omega) (rfl) rfl (rfl) (fun r30 => ?_)
    refine g_goto 217 dX9_count_212 (by decide) ?_
    refine g_iret dX9_count_217 rfl ?_
    obtain ⟨e0, e1, e2, e3, e4, e5⟩ := id cE
    have qd := cD (w - 10).toNat (by omega) (by omega)
    unfold M_count
    (repeat' split) <;> first | (exfalso; omega) | exact PC_ref hInv (by decide) (by omega) rfl | exact PC_same hInv (by omega)
  by_cases h31 : w = 14
  · refine g_tabIn 191 190 dX9_count_1 (by omega) (by omega) (by omega) (by rw [h31]; rfl) (by decide) ?_
    refine g_iload_n 192 dX9_count_191 rfl rfl ?_
    refine g_bipush 194 dX9_count_192 (by decide) rfl ?_
    refine g_icmp_lt 215 197 dX9_count_194 (by first | assumption | omega) (by decide) (by decide) rfl (fun h32 => ?_) (fun h32 => ?_)
    · refine g_bipush 217 dX9_count_215 (by decide) rfl ?_
      refine g_iret dX9_count_217 rfl ?_
      obtain ⟨e0, e1, e2, e3, e4, e5⟩ := id cE
      unfold M_count
      (repeat' split) <;> first | (exfalso; omega) | exact PC_ref hInv (by decide) (by omega) rfl | exact PC_same hInv (by omega)
    refine g_iload_n 198 dX9_count_197 rfl rfl ?_
    refine g_bipush 200 dX9_count_198 (by decide) rfl ?_
    refine g_icmp_gt 215 203 dX9_count_200 (by first | assumption | omega) (by decide) (by decide) rfl (fun h33 => ?_) (fun h33 => ?_)
    · refine g_bipush 217 dX9_count_215 (by decide) rfl ?_
      refine g_iret dX9_count_217 rfl ?_
      obtain ⟨e0, e1, e2, e3, e4, e5⟩ := id cE
      unfold M_count
      (repeat' split) <;> first | (exfalso; omega) | exact PC_ref hInv (by decide) (by omega) rfl | exact PC_same hInv (by omega)
    refine g_aload_n 204 dX9_count_203 rfl rfl ?_
    refine g_getC 207 dX9_count_204 fgX9_38 kd_1 ly_1_7 rfl ?_
    refine g_iload_n 208 dX9_count_207 rfl rfl ?_
    refine g_bipush 210 dX9_count_208 (by decide) rfl ?_
    refine g_isub 211 dX9_count_210 rfl ?_
    refine r_iald 212 ((w - 10).toNat) (κ 9 ((w - 10).toNat)) dX9_count_211 kd_9 (by decide) (by omega) (rfl) rfl (rfl) (fun r34 => ?_)
    refine g_goto 217 dX9_count_212 (by decide) ?_
    refine g_iret dX9_count_217 rfl ?_
    obtain ⟨e0, e1, e2, e3, e4, e5⟩ := id cE
    have qd := cD (w - 10).toNat (by omega) (by omega)
    unfold M_count
    (repeat' split) <;> first | (exfalso; omega) | exact PC_ref hInv (by decide) (by omega) rfl | exact PC_same hInv (by omega)
  by_cases h35 : w = 15
  · refine g_tabIn 191 190 dX9_count_1 (by omega) (by omega) (by omega) (by rw [h35]; rfl) (by decide) ?_
    refine g_iload_n 192 dX9_count_191 rfl rfl ?_
    refine g_bipush 194 dX9_count_192 (by decide) rfl ?_
    refine g_icmp_lt 215 197 dX9_count_194 (by first | assumption | omega) (by decide) (by decide) rfl (fun h36 => ?_) (fun h36 => ?_)
    · refine g_bipush 217 dX9_count_215 (by decide) rfl ?_
      refine g_iret dX9_count_217 rfl ?_
      obtain ⟨e0, e1, e2, e3, e4, e5⟩ := id cE
      unfold M_count
      (repeat' split) <;> first | (exfalso; omega) | exact PC_ref hInv (by decide) (by omega) rfl | exact PC_same hInv (by omega)
    refine g_iload_n 198 dX9_count_197 rfl rfl ?_
    refine g_bipush 200 dX9_count_198 (by decide) rfl ?_
    refine g_icmp_gt 215 203 dX9_count_200 (by first | assumption | omega) (by decide) (by decide) rfl (fun h37 => ?_) (fun h37 => ?_)
    · refine g_bipush 217 dX9_count_215 (by decide) rfl ?_
      refine g_iret dX9_count_217 rfl ?_
      obtain ⟨e0, e1, e2, e3, e4, e5⟩ := id cE
      unfold M_count
      (repeat' split) <;> first | (exfalso; omega) | exact PC_ref hInv (by decide) (by omega) rfl | exact PC_same hInv (by omega)
    refine g_aload_n 204 dX9_count_203 rfl rfl ?_
    refine g_getC 207 dX9_count_204 fgX9_38 kd_1 ly_1_7 rfl ?_
    refine g_iload_n 208 dX9_count_207 rfl rfl ?_
    refine g_bipush 210 dX9_count_208 (by decide) rfl ?_
    refine g_isub 211 dX9_count_210 rfl ?_
    refine r_iald 212 ((w - 10).toNat) (κ 9 ((w - 10).toNat)) dX9_count_211 kd_9 (by decide) (by omega) (rfl) rfl (rfl) (fun r38 => ?_)
    refine g_goto 217 dX9_count_212 (by decide) ?_
    refine g_iret dX9_count_217 rfl ?_
    obtain ⟨e0, e1, e2, e3, e4, e5⟩ := id cE
    have qd := cD (w - 10).toNat (by omega) (by omega)
    unfold M_count
    (repeat' split) <;> first | (exfalso; omega) | exact PC_ref hInv (by decide) (by omega) rfl | exact PC_same hInv (by omega)
  by_cases h39 : w = 16
  · refine g_tabIn 191 190 dX9_count_1 (by omega) (by omega) (by omega) (by rw [h39]; rfl) (by decide) ?_
    refine g_iload_n 192 dX9_count_191 rfl rfl ?_
    refine g_bipush 194 dX9_count_192 (by decide) rfl ?_
    refine g_icmp_lt 215 197 dX9_count_194 (by first | assumption | omega) (by decide) (by decide) rfl (fun h40 => ?_) (fun h40 => ?_)
    · refine g_bipush 217 dX9_count_215 (by decide) rfl ?_
      refine g_iret dX9_count_217 rfl ?_
      obtain ⟨e0, e1, e2, e3, e4, e5⟩ := id cE
      unfold M_count
      (repeat' split) <;> first | (exfalso; omega) | exact PC_ref hInv (by decide) (by omega) rfl | exact PC_same hInv (by omega)
    refine g_iload_n 198 dX9_count_197 rfl rfl ?_
    refine g_bipush 200 dX9_count_198 (by decide) rfl ?_
    refine g_icmp_gt 215 203 dX9_count_200 (by first | assumption | omega) (by decide) (by decide) rfl (fun h41 => ?_) (fun h41 => ?_)
    · refine g_bipush 217 dX9_count_215 (by decide) rfl ?_
      refine g_iret dX9_count_217 rfl ?_
      obtain ⟨e0, e1, e2, e3, e4, e5⟩ := id cE
      unfold M_count
      (repeat' split) <;> first | (exfalso; omega) | exact PC_ref hInv (by decide) (by omega) rfl | exact PC_same hInv (by omega)
    refine g_aload_n 204 dX9_count_203 rfl rfl ?_
    refine g_getC 207 dX9_count_204 fgX9_38 kd_1 ly_1_7 rfl ?_
    refine g_iload_n 208 dX9_count_207 rfl rfl ?_
    refine g_bipush 210 dX9_count_208 (by decide) rfl ?_
    refine g_isub 211 dX9_count_210 rfl ?_
    refine r_iald 212 ((w - 10).toNat) (κ 9 ((w - 10).toNat)) dX9_count_211 kd_9 (by decide) (by omega) (rfl) rfl (rfl) (fun r42 => ?_)
    refine g_goto 217 dX9_count_212 (by decide) ?_
    refine g_iret dX9_count_217 rfl ?_
    obtain ⟨e0, e1, e2, e3, e4, e5⟩ := id cE
    have qd := cD (w - 10).toNat (by omega) (by omega)
    unfold M_count
    (repeat' split) <;> first | (exfalso; omega) | exact PC_ref hInv (by decide) (by omega) rfl | exact PC_same hInv (by omega)
  by_cases h43 : w = 17
  · refine g_tabIn 191 190 dX9_count_1 (by omega) (by omega) (by omega) (by rw [h43]; rfl) (by decide) ?_
    refine g_iload_n 192 dX9_count_191 rfl rfl ?_
    refine g_bipush 194 dX9_count_192 (by decide) rfl ?_
    refine g_icmp_lt 215 197 dX9_count_194 (by first | assumption | omega) (by decide) (by decide) rfl (fun h44 => ?_) (fun h44 => ?_)
    · refine g_bipush 217 dX9_count_215 (by decide) rfl ?_
      refine g_iret dX9_count_217 rfl ?_
      obtain ⟨e0, e1, e2, e3, e4, e5⟩ := id cE
      unfold M_count
      (repeat' split) <;> first | (exfalso; omega) | exact PC_ref hInv (by decide) (by omega) rfl | exact PC_same hInv (by omega)
    refine g_iload_n 198 dX9_count_197 rfl rfl ?_
    refine g_bipush 200 dX9_count_198 (by decide) rfl ?_
    refine g_icmp_gt 215 203 dX9_count_200 (by first | assumption | omega) (by decide) (by decide) rfl (fun h45 => ?_) (fun h45 => ?_)
    · refine g_bipush 217 dX9_count_215 (by decide) rfl ?_
      refine g_iret dX9_count_217 rfl ?_
      obtain ⟨e0, e1, e2, e3, e4, e5⟩ := id cE
      unfold M_count
      (repeat' split) <;> first | (exfalso; omega) | exact PC_ref hInv (by decide) (by omega) rfl | exact PC_same hInv (by omega)
    refine g_aload_n 204 dX9_count_203 rfl rfl ?_
    refine g_getC 207 dX9_count_204 fgX9_38 kd_1 ly_1_7 rfl ?_
    refine g_iload_n 208 dX9_count_207 rfl rfl ?_
    refine g_bipush 210 dX9_count_208 (by decide) rfl ?_
    refine g_isub 211 dX9_count_210 rfl ?_
    refine r_iald 212 ((w - 10).toNat) (κ 9 ((w - 10).toNat)) dX9_count_211 kd_9 (by decide) (by omega) (rfl) rfl (rfl) (fun r46 => ?_)
    refine g_goto 217 dX9_count_212 (by decide) ?_
    refine g_iret dX9_count_217 rfl ?_
    obtain ⟨e0, e1, e2, e3, e4, e5⟩ := id cE
    have qd := cD (w - 10).toNat (by omega) (by omega)
    unfold M_count
    (repeat' split) <;> first | (exfalso; omega) | exact PC_ref hInv (by decide) (by omega) rfl | exact PC_same hInv (by omega)
  by_cases h47 : w = 18
  · refine g_tabIn 175 174 dX9_count_1 (by omega) (by omega) (by omega) (by rw [h47]; rfl) (by decide) ?_
    refine g_aload_n 176 dX9_count_175 rfl rfl ?_
    refine g_getC 179 dX9_count_176 fgX9_51 kd_1 ly_1_9 rfl ?_
    refine r_getI 182 (κ 13 5) dX9_count_179 fgX9_308 kd_13 ly_13_5 rfl (rfl) (fun r48 => ?_)
    refine g_iret dX9_count_182 rfl ?_
    obtain ⟨e0, e1, e2, e3, e4, e5⟩ := id cE
    unfold M_count
    (repeat' split) <;> first | (exfalso; omega) | exact PC_ref hInv (by decide) (by omega) rfl | exact PC_same hInv (by omega)
  by_cases h49 : w = 19
  · refine g_tabIn 183 182 dX9_count_1 (by omega) (by omega) (by omega) (by rw [h49]; rfl) (by decide) ?_
    refine g_aload_n 184 dX9_count_183 rfl rfl ?_
    refine g_getC 187 dX9_count_184 fgX9_51 kd_1 ly_1_9 rfl ?_
    refine r_getI 190 (κ 13 4) dX9_count_187 fgX9_311 kd_13 ly_13_4 rfl (rfl) (fun r50 => ?_)
    refine g_iret dX9_count_190 rfl ?_
    obtain ⟨e0, e1, e2, e3, e4, e5⟩ := id cE
    unfold M_count
    (repeat' split) <;> first | (exfalso; omega) | exact PC_ref hInv (by decide) (by omega) rfl | exact PC_same hInv (by omega)
  refine g_tabOut 191 dX9_count_1 (by omega) (by omega) (by decide) ?_
  refine g_iload_n 192 dX9_count_191 rfl rfl ?_
  refine g_bipush 194 dX9_count_192 (by decide) rfl ?_
  refine g_icmp_lt 215 197 dX9_count_194 (by first | assumption | omega) (by decide) (by decide) rfl (fun h51 => ?_) (fun h51 => ?_)
  · refine g_bipush 217 dX9_count_215 (by decide) rfl ?_
    refine g_iret dX9_count_217 rfl ?_
    obtain ⟨e0, e1, e2, e3, e4, e5⟩ := id cE
    unfold M_count
    (repeat' split) <;> first | (exfalso; omega) | exact PC_ref hInv (by decide) (by omega) rfl | exact PC_same hInv (by omega)
  refine g_iload_n 198 dX9_count_197 rfl rfl ?_
  refine g_bipush 200 dX9_count_198 (by decide) rfl ?_
  refine g_icmp_gt 215 203 dX9_count_200 (by first | assumption | omega) (by decide) (by decide) rfl (fun h52 => ?_) (fun h52 => ?_)
  · refine g_bipush 217 dX9_count_215 (by decide) rfl ?_
    refine g_iret dX9_count_217 rfl ?_
    obtain ⟨e0, e1, e2, e3, e4, e5⟩ := id cE
    unfold M_count
    (repeat' split) <;> first | (exfalso; omega) | exact PC_ref hInv (by decide) (by omega) rfl | exact PC_same hInv (by omega)
  refine g_aload_n 204 dX9_count_203 rfl rfl ?_
  refine g_getC 207 dX9_count_204 fgX9_38 kd_1 ly_1_7 rfl ?_
  refine g_iload_n 208 dX9_count_207 rfl rfl ?_
  refine g_bipush 210 dX9_count_208 (by decide) rfl ?_
  refine g_isub 211 dX9_count_210 rfl ?_
  refine r_iald 212 ((w - 10).toNat) (κ 9 ((w - 10).toNat)) dX9_count_211 kd_9 (by decide) (by omega) (rfl) rfl (rfl) (fun r53 => ?_)
  refine g_goto 217 dX9_count_212 (by decide) ?_
  refine g_iret dX9_count_217 rfl ?_
  obtain ⟨e0, e1, e2, e3, e4, e5⟩ := id cE
  have qd := cD (w - 10).toNat (by omega) (by omega)
  unfold M_count
  (repeat' split) <;> first | (exfalso; omega) | exact PC_ref hInv (by decide) (by omega) rfl | exact PC_same hInv (by omega)
set_option maxHeartbeats 4000000 in
set_option maxRecDepth 20000 in
theorem c_X9_useNow {B : Bs} {n0 : Nat} {V : Vs} {κ : Ks} {h : Nat} {μ : Ks} (h_h : h < 100) (hH : κ (200 + h) 3 = μ 65 h ∧ κ (200 + h) 5 = μ 67 h) (cF : gF κ μ) (iR : MIr μ) (hL : -1 ≤ μ 67 h ∧ μ 67 h ≤ 3) (c0 : κ 1 12 = μ 40 0) (i0 : 0 ≤ μ 40 0 ∧ μ 40 0 ≤ 5000) : Ct (XR B n0) mX9_useNow 2 0 0 [Rf 1, Rf (200 + h)] V κ (Ex (some (Iv (useM μ h))) V κ) := by
  refine Ct.of (L := [some (Rf 1), some (Rf (200 + h)), none]) 1 (by decide +kernel) rfl rfl ?_
  refine g_aload_n 1 dX9_useNow_0 rfl rfl ?_
  refine g_aload_n 2 dX9_useNow_1 rfl rfl ?_
  refine r_getI 5 (μ 67 h) dX9_useNow_2 fgX9_153 (kd_H (by omega)) (ly_H (by omega) 5) rfl (hH.2) (fun r1 => ?_)
  refine o_V 8 0 0 [Iv (μ 67 h)] [] dX9_useNow_5 cvX9_118 mwX9_rowAt kd_1 (by decide) rfl (Nat.le_of_ble_eq_true rfl) rfl rfl rfl (c_X9_rowAt (by omega)) (fun h2 => ?_) (fun h2 => ?_)
  · have ir := (iR (μ 67 h).toNat (by omega)).1
    refine g_astore_n (L' := [some (Rf 1), some (Rf (200 + h)), some (Rf (22 + 2 * (μ 67 h).toNat))]) 9 dX9_useNow_8 rfl (by decide) rfl ?_
    refine g_aload_n 10 dX9_useNow_9 rfl rfl ?_
    refine r_ifnull_s 13 20 dX9_useNow_10 (by decide) rfl ?_
    refine g_aload_n 14 dX9_useNow_13 rfl rfl ?_
    refine r_getI 17 (μ 70 (μ 67 h).toNat) dX9_useNow_14 fgX9_339 (kd_R (by omega)) (ly_R1 (by omega)) rfl ((cF _ (by omega)).1) (fun r3 => ?_)
    refine g_if_gt 25 20 dX9_useNow_17 (by first | assumption | omega) (by decide) rfl (fun h4 => ?_) (fun h4 => ?_)
    · refine g_aload_n 26 dX9_useNow_25 rfl rfl ?_
      refine g_getC 29 dX9_useNow_26 fgX9_137 (kd_R (by omega)) (ly_R0 (by omega)) rfl ?_
      refine g_aload_n 30 dX9_useNow_29 rfl rfl ?_
      refine r_getI 33 (μ 40 0) dX9_useNow_30 fgX9_201 kd_1 ly_1_12 rfl (c0) (fun r5 => ?_)
      refine g_bipush 35 dX9_useNow_33 (by decide) rfl ?_
      refine g_irem 36 dX9_useNow_35 (by omega) (by omega) rfl ?_
      refine g_aload_n 37 dX9_useNow_36 rfl rfl ?_
      refine r_getI 40 (μ 70 (μ 67 h).toNat) dX9_useNow_37 fgX9_339 (kd_R (by omega)) (ly_R1 (by omega)) rfl ((cF _ (by omega)).1) (fun r6 => ?_)
      refine g_irem 41 dX9_useNow_40 (by omega) (by omega) rfl ?_
      have q1 := Int.emod_nonneg (μ 40 0 % 24) (show μ 70 (μ 67 h).toNat ≠ 0 by omega)
      have q2 := Int.emod_lt_of_pos (μ 40 0 % 24) (show 0 < μ 70 (μ 67 h).toNat by omega)
      refine r_iald 42 ((((μ 40 0) % 24) % (μ 70 (μ 67 h).toNat)).toNat) (μ 71 (24 * (μ 67 h).toNat + (((μ 40 0) % 24) % (μ 70 (μ 67 h).toNat)).toNat)) dX9_useNow_41 (kd_Rn (by omega)) (by decide) (by omega) (rfl) rfl ((cF (μ 67 h).toNat (by omega)).2 _ (by omega)) (fun r7 => ?_)
      refine g_iret dX9_useNow_42 rfl ?_
      unfold useM
      rw [if_pos (by omega), show (24 * μ 67 h + μ 40 0 % 24 % μ 70 (μ 67 h).toNat).toNat = 24 * (μ 67 h).toNat + (μ 40 0 % 24 % μ 70 (μ 67 h).toNat).toNat by omega]
      exact ⟨rfl, rfl, rfl⟩
    refine g_aload_n 21 dX9_useNow_20 rfl rfl ?_
    refine r_getI 24 (μ 65 h) dX9_useNow_21 fgX9_342 (kd_H (by omega)) (ly_H (by omega) 3) rfl (hH.1) (fun r8 => ?_)
    refine g_iret dX9_useNow_24 rfl ?_
    unfold useM
    rw [if_neg (by omega)]
    exact ⟨rfl, rfl, rfl⟩
  refine g_astore_n (L' := [some (Rf 1), some (Rf (200 + h)), some (Nl)]) 9 dX9_useNow_8 rfl (by decide) rfl ?_
  refine g_aload_n 10 dX9_useNow_9 rfl rfl ?_
  refine r_ifnull_n 20 dX9_useNow_10 (by decide) ?_
  refine g_aload_n 21 dX9_useNow_20 rfl rfl ?_
  refine r_getI 24 (μ 65 h) dX9_useNow_21 fgX9_342 (kd_H (by omega)) (ly_H (by omega) 3) rfl (hH.1) (fun r9 => ?_)
  refine g_iret dX9_useNow_24 rfl ?_
  unfold useM
  rw [if_neg (by omega)]
  exact ⟨rfl, rfl, rfl⟩
set_option maxHeartbeats 4000000 in
set_option maxRecDepth 20000 in
theorem c_X9_houseOf {B : Bs} {n0 : Nat} {V : Vs} {κ : Ks} {h w : Int} (r_h : inR h) (r_w : inR w)  (hInv : Inv κ V) : Ct (XR B n0) mX9_houseOf 5 0 0 [Rf 1, Iv h, Iv w] V κ (PC κ (M_houseOf κ h w)) := by
  obtain ⟨hI, hC, hV⟩ := id hInv
  obtain ⟨cA, cB, cC, cD, cE, cF, cG, cS, cL, cH, cN, cT, cW, cK, cZ⟩ := id hC
  obtain ⟨⟨i0, i1, i2, i3, i4, i5, i6, i7, i8, i9⟩, iS, iH, iR, iT, iC, iG, iL, iZ⟩ := id hI
  obtain ⟨⟨cV0, cV1, cV2, cV4⟩, _⟩ := id hV
  obtain ⟨cA0, cA1, cA2⟩ := id cA
  obtain ⟨cB0, cB1, cB2⟩ := id cB
  obtain ⟨⟨⟨⟨z0, z1, z2⟩, z3, z4, z5⟩, z6, z7⟩, z8⟩ := id cZ
  have en0 : κ 2 2 = κ 40 11 := cG.1.2.2.1
  have en1 : κ 3 2 = κ 40 20 := cG.2.1.2.2.1
  have en2 : κ 4 2 = κ 40 31 := cG.2.2.1.2.2.1
  have en3 : κ 5 2 = κ 40 41 := cG.2.2.2.2.2.1
  refine Ct.of (L := [some (Rf 1), some (Iv h), some (Iv w), none]) 1 (by decide +kernel) rfl rfl ?_
  refine g_aload_n 1 dX9_houseOf_0 rfl rfl ?_
  refine g_iload_n 2 dX9_houseOf_1 rfl rfl ?_
  refine o_V 5 0 0 [Iv h] [] dX9_houseOf_2 cvX9_146 mwX9_houseAt kd_1 (by decide) rfl (Nat.le_of_ble_eq_true rfl) rfl rfl rfl (c_X9_houseAt cG.2.1 (by omega) (by omega)) (fun h1 => ?_) (fun h1 => ?_)
  · have qH := cH (h).toNat (by omega)
    have qJ := iH (h).toNat (by omega)
    refine g_astore_n (L' := [some (Rf 1), some (Iv h), some (Iv w), some (Rf (200 + (h).toNat))]) 6 dX9_houseOf_5 rfl (by decide) rfl ?_
    refine g_aload_n 7 dX9_houseOf_6 rfl rfl ?_
    refine r_ifnonnull_s 16 dX9_houseOf_7 (by decide) ?_
    refine g_iload_n 17 dX9_houseOf_16 rfl rfl ?_
    by_cases h2 : w = 0
    · refine g_tabIn 48 31 dX9_houseOf_17 (by omega) (by omega) (by omega) (by rw [h2]; rfl) (by decide) ?_
      refine g_aload_n 49 dX9_houseOf_48 rfl rfl ?_
      refine r_getI 52 (κ (200 + (h).toNat) 6) dX9_houseOf_49 fgX9_275 (kd_H (by omega)) (ly_H (by omega) 6) rfl (rfl) (fun r3 => ?_)
      refine g_iret dX9_houseOf_52 rfl ?_
      unfold M_houseOf
      (repeat' split) <;> first | (exfalso; omega) | exact PC_ref hInv (by decide) (by omega) rfl | exact PC_same hInv (by omega)
    by_cases h4 : w = 1
    · refine g_tabIn 53 36 dX9_houseOf_17 (by omega) (by omega) (by omega) (by rw [h4]; rfl) (by decide) ?_
      refine g_aload_n 54 dX9_houseOf_53 rfl rfl ?_
      refine r_getI 57 (κ (200 + (h).toNat) 7) dX9_houseOf_54 fgX9_278 (kd_H (by omega)) (ly_H (by omega) 7) rfl (rfl) (fun r5 => ?_)
      refine g_iret dX9_houseOf_57 rfl ?_
      unfold M_houseOf
      (repeat' split) <;> first | (exfalso; omega) | exact PC_ref hInv (by decide) (by omega) rfl | exact PC_same hInv (by omega)
    by_cases h6 : w = 2
    · refine g_tabIn 58 41 dX9_houseOf_17 (by omega) (by omega) (by omega) (by rw [h6]; rfl) (by decide) ?_
      refine g_aload_n 59 dX9_houseOf_58 rfl rfl ?_
      refine g_aload_n 60 dX9_houseOf_59 rfl rfl ?_
      refine e_V 63 0 0 [Rf (200 + (h).toNat)] [] dX9_houseOf_60 cvX9_281 mwX9_useNow kd_1 (by decide) rfl (Nat.le_of_ble_eq_true rfl) rfl rfl rfl (c_X9_useNow (μ := κ) (by omega) ⟨qH.2.2.2.1, qH.2.2.2.2.2.1⟩ cF iR (by omega) cA0 (by omega)) ?_
      refine g_iret dX9_houseOf_63 rfl ?_
      unfold M_houseOf
      (repeat' split) <;> first | (exfalso; omega) | exact PC_ref hInv (by decide) (by omega) rfl | exact PC_same hInv (by omega)
    by_cases h7 : w = 3
    · refine g_tabIn 64 47 dX9_houseOf_17 (by omega) (by omega) (by omega) (by rw [h7]; rfl) (by decide) ?_
      refine g_aload_n 65 dX9_houseOf_64 rfl rfl ?_
      refine r_getI 68 (κ (200 + (h).toNat) 0) dX9_houseOf_65 fgX9_284 (kd_H (by omega)) (ly_H (by omega) 0) rfl (rfl) (fun r8 => ?_)
      refine g_iret dX9_houseOf_68 rfl ?_
      unfold M_houseOf
      (repeat' split) <;> first | (exfalso; omega) | exact PC_ref hInv (by decide) (by omega) rfl | exact PC_same hInv (by omega)
    refine g_tabOut 69 dX9_houseOf_17 (by omega) (by omega) (by decide) ?_
    refine g_aload_n 70 dX9_houseOf_69 rfl rfl ?_
    refine g_bipush 72 dX9_houseOf_70 (by decide) rfl ?_
    refine e_V 75 0 0 [Iv (-2)] [] dX9_houseOf_72 cvX9_74 mwX9_refuse kd_1 (by decide) rfl (Nat.le_of_ble_eq_true rfl) rfl rfl rfl (c_X9_refuse 2 (by decide) (by decide)) ?_
    refine g_iret dX9_houseOf_75 rfl ?_
    unfold M_houseOf
    (repeat' split) <;> first | (exfalso; omega) | exact PC_ref hInv (by decide) (by omega) rfl | exact PC_same hInv (by omega)
  refine g_astore_n (L' := [some (Rf 1), some (Iv h), some (Iv w), some (Nl)]) 6 dX9_houseOf_5 rfl (by decide) rfl ?_
  refine g_aload_n 7 dX9_houseOf_6 rfl rfl ?_
  refine r_ifnonnull_n 10 16 dX9_houseOf_7 (by decide) rfl ?_
  refine g_aload_n 11 dX9_houseOf_10 rfl rfl ?_
  refine g_iconst 12 dX9_houseOf_11 (by decide) rfl ?_
  refine e_V 15 0 0 [Iv (-1)] [] dX9_houseOf_12 cvX9_74 mwX9_refuse kd_1 (by decide) rfl (Nat.le_of_ble_eq_true rfl) rfl rfl rfl (c_X9_refuse 1 (by decide) (by decide)) ?_
  refine g_iret dX9_houseOf_15 rfl ?_
  unfold M_houseOf
  (repeat' split) <;> first | (exfalso; omega) | exact PC_ref hInv (by decide) (by omega) rfl | exact PC_same hInv (by omega)
set_option maxHeartbeats 4000000 in
set_option maxRecDepth 20000 in
theorem c_X9_stepsBetween {B : Bs} {n0 : Nat} {V : Vs} {κ : Ks} {a b : Int} (h_a : -1 ≤ a ∧ a < κ 40 11) (h_b : -1 ≤ b ∧ b < κ 40 11) (hInv : Inv κ V) : Ct (XR B n0) mX9_stepsBetween 6 0 0 [Rf 1, Iv a, Iv b] V κ (Ex (some (Iv (wayM κ a b))) V κ) := by
  obtain ⟨hI, hC, hV⟩ := id hInv
  obtain ⟨cA, cB, cC, cD, cE, cF, cG, cS, cL, cH, cN, cT, cW, cK, cZ⟩ := id hC
  obtain ⟨⟨i0, i1, i2, i3, i4, i5, i6, i7, i8, i9⟩, iS, iH, iR, iT, iC, iG, iL, iZ⟩ := id hI
  obtain ⟨⟨cV0, cV1, cV2, cV4⟩, _⟩ := id hV
  obtain ⟨cA0, cA1, cA2⟩ := id cA
  obtain ⟨cB0, cB1, cB2⟩ := id cB
  obtain ⟨⟨⟨⟨z0, z1, z2⟩, z3, z4, z5⟩, z6, z7⟩, z8⟩ := id cZ
  have en0 : κ 2 2 = κ 40 11 := cG.1.2.2.1
  have en1 : κ 3 2 = κ 40 20 := cG.2.1.2.2.1
  have en2 : κ 4 2 = κ 40 31 := cG.2.2.1.2.2.1
  have en3 : κ 5 2 = κ 40 41 := cG.2.2.2.2.2.1
  refine Ct.of (L := [some (Rf 1), some (Iv a), some (Iv b), none, none, none]) 3 (by decide +kernel) rfl rfl ?_
  have lp : ∀ (m : Nat) (c x y : Int), -1 ≤ x ∧ x < κ 40 11 → -1 ≤ y ∧ y < κ 40 11 → 0 ≤ c ∧ c ≤ 20 → (m : Int) = 20 - c → c + stp κ m x y = wayM κ a b → G (XR B n0) mX9_stepsBetween 6 (Ex (some (Iv (wayM κ a b))) V κ) V 0 0 8 [some (Rf 1), some (Iv a), some (Iv b), some (Iv x), some (Iv y), some (Iv c)] [] V κ := by
    intro m
    induction m using Nat.strongRecOn with
    | ind m ih =>
      intro c x y hx hy hc hm hw
      refine g_iload_n 9 dX9_stepsBetween_8 rfl rfl ?_
      refine g_iload 11 dX9_stepsBetween_9 rfl rfl ?_
      refine g_icmp_eq 50 14 dX9_stepsBetween_11 (by first | assumption | omega) (by first | assumption | omega) (by decide) rfl (fun h101 => ?_) (fun h101 => ?_)
      · refine g_iload 52 dX9_stepsBetween_50 rfl rfl ?_
        refine g_iret dX9_stepsBetween_52 rfl ?_
        have e : stp κ m x y = 0 := by
          rcases Nat.eq_zero_or_pos m with e0 | e0
          · rw [e0]; rfl
          · rw [show m = m - 1 + 1 by omega, stp_s, if_pos (by omega)]
        exact ⟨congrArg (fun z => some (Iv z)) (by omega), rfl, rfl⟩
      refine g_iload 16 dX9_stepsBetween_14 rfl rfl ?_
      refine g_bipush 18 dX9_stepsBetween_16 (by decide) rfl ?_
      refine g_icmp_ge 50 21 dX9_stepsBetween_18 (by first | assumption | omega) (by decide) (by decide) rfl (fun h102 => ?_) (fun h102 => ?_)
      · refine g_iload 52 dX9_stepsBetween_50 rfl rfl ?_
        refine g_iret dX9_stepsBetween_52 rfl ?_
        have e : stp κ m x y = 0 := by
          rcases Nat.eq_zero_or_pos m with e0 | e0
          · rw [e0]; rfl
          · rw [show m = m - 1 + 1 by omega, stp_s, if_pos (by omega)]
        exact ⟨congrArg (fun z => some (Iv z)) (by omega), rfl, rfl⟩
      refine g_iload_n 22 dX9_stepsBetween_21 rfl rfl ?_
      refine g_iload 24 dX9_stepsBetween_22 rfl rfl ?_
      refine g_icmp_le 36 27 dX9_stepsBetween_24 (by first | assumption | omega) (by first | assumption | omega) (by decide) rfl (fun h103 => ?_) (fun h103 => ?_)
      · refine g_aload_n 37 dX9_stepsBetween_36 rfl rfl ?_
        refine g_iload 39 dX9_stepsBetween_37 rfl rfl ?_
        refine e_V 42 0 0 [Iv y] [] dX9_stepsBetween_39 cvX9_345 mwX9_placeAheadOf kd_1 (by decide) rfl (Nat.le_of_ble_eq_true rfl) rfl rfl rfl (c_X9_placeAheadOf cG.1 (by omega) (by omega)) ?_
        refine G.eqi (show (if y < 0 then -1 else κ (100 + (y).toNat) 0) = κ 53 (y).toNat from by rw [if_neg (by omega)]; exact (cS (y).toNat (by omega)).1) ?_
        have ix := (iS (y).toNat (by omega)).1
        refine g_istore (L' := [some (Rf 1), some (Iv a), some (Iv b), some (Iv x), some (Iv (κ 53 (y).toNat)), some (Iv c)]) 44 dX9_stepsBetween_42 rfl (by decide) rfl ?_
        refine g_iinc (L' := [some (Rf 1), some (Iv a), some (Iv b), some (Iv x), some (Iv (κ 53 (y).toNat)), some (Iv (c + 1))]) 47 dX9_stepsBetween_44 rfl rfl (by decide) rfl ?_
        refine g_goto 8 dX9_stepsBetween_47 (by decide) ?_
        have e := stp_s κ (m - 1) x y
        rw [show m - 1 + 1 = m by omega, if_neg (by omega), if_neg (by omega)] at e
        exact ih (m - 1) (by omega) _ _ _ (by omega) (by omega) (by omega) (by omega) (by omega)
      refine g_aload_n 28 dX9_stepsBetween_27 rfl rfl ?_
      refine g_iload_n 29 dX9_stepsBetween_28 rfl rfl ?_
      refine e_V 32 0 0 [Iv x] [] dX9_stepsBetween_29 cvX9_345 mwX9_placeAheadOf kd_1 (by decide) rfl (Nat.le_of_ble_eq_true rfl) rfl rfl rfl (c_X9_placeAheadOf cG.1 (by omega) (by omega)) ?_
      refine G.eqi (show (if x < 0 then -1 else κ (100 + (x).toNat) 0) = κ 53 (x).toNat from by rw [if_neg (by omega)]; exact (cS (x).toNat (by omega)).1) ?_
      have ix := (iS (x).toNat (by omega)).1
      refine g_istore_n (L' := [some (Rf 1), some (Iv a), some (Iv b), some (Iv (κ 53 (x).toNat)), some (Iv y), some (Iv c)]) 33 dX9_stepsBetween_32 rfl (by decide) rfl ?_
      refine g_goto 44 dX9_stepsBetween_33 (by decide) ?_
      refine g_iinc (L' := [some (Rf 1), some (Iv a), some (Iv b), some (Iv (κ 53 (x).toNat)), some (Iv y), some (Iv (c + 1))]) 47 dX9_stepsBetween_44 rfl rfl (by decide) rfl ?_
      refine g_goto 8 dX9_stepsBetween_47 (by decide) ?_
      have e := stp_s κ (m - 1) x y
      rw [show m - 1 + 1 = m by omega, if_neg (by omega), if_pos (by omega)] at e
      exact ih (m - 1) (by omega) _ _ _ (by omega) (by omega) (by omega) (by omega) (by omega)
  refine g_iload_n 1 dX9_stepsBetween_0 rfl rfl ?_
  refine g_istore_n (L' := [some (Rf 1), some (Iv a), some (Iv b), some (Iv a), none, none]) 2 dX9_stepsBetween_1 rfl (by decide) rfl ?_
  refine g_iload_n 3 dX9_stepsBetween_2 rfl rfl ?_
  refine g_istore (L' := [some (Rf 1), some (Iv a), some (Iv b), some (Iv a), some (Iv b), none]) 5 dX9_stepsBetween_3 rfl (by decide) rfl ?_
  refine g_iconst 6 dX9_stepsBetween_5 (by decide) rfl ?_
  refine g_istore (L' := [some (Rf 1), some (Iv a), some (Iv b), some (Iv a), some (Iv b), some (Iv 0)]) 8 dX9_stepsBetween_6 rfl (by decide) rfl ?_
  exact lp 20 0 a b h_a h_b (by omega) (by omega) (by unfold wayM; omega)
set_option maxHeartbeats 4000000 in
set_option maxRecDepth 20000 in
theorem c_X9_way {B : Bs} {n0 : Nat} {V : Vs} {κ : Ks} {a b : Int} (r_a : inR a) (r_b : inR b)  (hInv : Inv κ V) : Ct (XR B n0) mX9_way 7 0 0 [Rf 1, Iv a, Iv b] V κ (PC κ (M_way κ a b)) := by
  obtain ⟨hI, hC, hV⟩ := id hInv
  obtain ⟨cA, cB, cC, cD, cE, cF, cG, cS, cL, cH, cN, cT, cW, cK, cZ⟩ := id hC
  obtain ⟨⟨i0, i1, i2, i3, i4, i5, i6, i7, i8, i9⟩, iS, iH, iR, iT, iC, iG, iL, iZ⟩ := id hI
  obtain ⟨⟨cV0, cV1, cV2, cV4⟩, _⟩ := id hV
  obtain ⟨cA0, cA1, cA2⟩ := id cA
  obtain ⟨cB0, cB1, cB2⟩ := id cB
  obtain ⟨⟨⟨⟨z0, z1, z2⟩, z3, z4, z5⟩, z6, z7⟩, z8⟩ := id cZ
  have en0 : κ 2 2 = κ 40 11 := cG.1.2.2.1
  have en1 : κ 3 2 = κ 40 20 := cG.2.1.2.2.1
  have en2 : κ 4 2 = κ 40 31 := cG.2.2.1.2.2.1
  have en3 : κ 5 2 = κ 40 41 := cG.2.2.2.2.2.1
  refine Ct.of (L := [some (Rf 1), some (Iv a), some (Iv b)]) 0 (by decide +kernel) rfl rfl ?_
  refine g_aload_n 1 dX9_way_0 rfl rfl ?_
  refine g_iload_n 2 dX9_way_1 rfl rfl ?_
  refine o_V 5 0 0 [Iv a] [] dX9_way_2 cvX9_70 mwX9_isPlace kd_1 (by decide) rfl (Nat.le_of_ble_eq_true rfl) rfl rfl rfl (c_X9_isPlace cG.1 (by omega) (by omega)) (fun h1 => ?_) (fun h1 => ?_)
  · refine g_if_eq 16 8 dX9_way_5 (by decide) (by decide) rfl (fun z => absurd z (by decide)) (fun _ => ?_)
    refine g_aload_n 9 dX9_way_8 rfl rfl ?_
    refine g_iload_n 10 dX9_way_9 rfl rfl ?_
    refine o_V 13 0 0 [Iv b] [] dX9_way_10 cvX9_70 mwX9_isPlace kd_1 (by decide) rfl (Nat.le_of_ble_eq_true rfl) rfl rfl rfl (c_X9_isPlace cG.1 (by omega) (by omega)) (fun h2 => ?_) (fun h2 => ?_)
    · refine g_if_ne 22 16 dX9_way_13 (by decide) (by decide) rfl (fun _ => ?_) (fun z => absurd z (by decide))
      refine g_aload_n 23 dX9_way_22 rfl rfl ?_
      refine g_iload_n 24 dX9_way_23 rfl rfl ?_
      refine g_iload_n 25 dX9_way_24 rfl rfl ?_
      refine e_V 28 0 0 [Iv a, Iv b] [] dX9_way_25 cvX9_213 mwX9_stepsBetween kd_1 (by decide) rfl (Nat.le_of_ble_eq_true rfl) rfl rfl rfl (c_X9_stepsBetween (by omega) (by omega) hInv) ?_
      refine g_iret dX9_way_28 rfl ?_
      unfold M_way
      (repeat' split) <;> first | (exfalso; omega) | exact PC_ref hInv (by decide) (by omega) rfl | exact PC_same hInv (by omega)
    refine g_if_ne 22 16 dX9_way_13 (by decide) (by decide) rfl (fun z => absurd z (by decide)) (fun _ => ?_)
    refine g_aload_n 17 dX9_way_16 rfl rfl ?_
    refine g_iconst 18 dX9_way_17 (by decide) rfl ?_
    refine e_V 21 0 0 [Iv (-1)] [] dX9_way_18 cvX9_74 mwX9_refuse kd_1 (by decide) rfl (Nat.le_of_ble_eq_true rfl) rfl rfl rfl (c_X9_refuse 1 (by decide) (by decide)) ?_
    refine g_iret dX9_way_21 rfl ?_
    unfold M_way
    (repeat' split) <;> first | (exfalso; omega) | exact PC_ref hInv (by decide) (by omega) rfl | exact PC_same hInv (by omega)
  refine g_if_eq 16 8 dX9_way_5 (by decide) (by decide) rfl (fun _ => ?_) (fun z => absurd z (by decide))
  refine g_aload_n 17 dX9_way_16 rfl rfl ?_
  refine g_iconst 18 dX9_way_17 (by decide) rfl ?_
  refine e_V 21 0 0 [Iv (-1)] [] dX9_way_18 cvX9_74 mwX9_refuse kd_1 (by decide) rfl (Nat.le_of_ble_eq_true rfl) rfl rfl rfl (c_X9_refuse 1 (by decide) (by decide)) ?_
  refine g_iret dX9_way_21 rfl ?_
  unfold M_way
  (repeat' split) <;> first | (exfalso; omega) | exact PC_ref hInv (by decide) (by omega) rfl | exact PC_same hInv (by omega)
