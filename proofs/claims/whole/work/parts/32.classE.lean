/-! the class: rates and clashes (printed by wip/whole/gen32.py) -/
theorem law_R (κ : Ks) (d : Int) : ∀ k : Nat, -1 ≤ lawM κ d k ∧ lawM κ d k < k
  | 0 => by
    unfold lawM
    omega
  | k + 1 => by
    have := law_R κ d k
    unfold lawM
    split <;> omega
theorem stp_sym (κ : Ks) : ∀ (f : Nat) (a b : Int), stp κ f a b = stp κ f b a
  | 0, _, _ => rfl
  | f + 1, a, b => by
    rw [stp_s, stp_s]
    by_cases e : a = b
    · rw [if_pos e, if_pos e.symm]
    · rw [if_neg e, if_neg (show ¬ b = a from fun z => e z.symm)]
      by_cases g : b < a
      · rw [if_pos g, if_neg (by omega), stp_sym κ f]
      · rw [if_neg g, if_pos (by omega), stp_sym κ f]
theorem clash_sym (κ : Ks) {t u : Nat} : clashC κ t u ↔ clashC κ u t := by
  have e : wayM κ (κ 73 t) (κ 73 u) = wayM κ (κ 73 u) (κ 73 t) := stp_sym κ 20 _ _
  show (_ ∨ _ ∨ _ ∨ _) ↔ (_ ∨ _ ∨ _ ∨ _)
  rw [e]
  omega
theorem clsI_0 {κ : Ks} {c : Int} {t : Nat} (h : κ 74 t ≠ c) : ∀ u, clsI κ c t u = 0
  | 0 => rfl
  | u + 1 => by
    have e : clsI κ c t (u + 1) = clsI κ c t u + (if clshP κ c t u then 1 else 0) := rfl
    rw [e, clsI_0 h u, if_neg (fun z => h z.1)]
    rfl
set_option maxHeartbeats 4000000 in
set_option maxRecDepth 20000 in
theorem c_X9_lawOn {B : Bs} {n0 : Nat} {V : Vs} {κ : Ks} {d : Int} (r_d : inR d) (hInv : Inv κ V) : Ct (XR B n0) mX9_lawOn 4 0 0 [Rf 1, Iv d] V κ (Or2 V κ (lawM κ d (κ 40 41).toNat < 0) Nl (0 ≤ lawM κ d (κ 40 41).toNat) (Rf (400 + (lawM κ d (κ 40 41).toNat).toNat))) := by
  obtain ⟨hI, hC, hV⟩ := id hInv
  obtain ⟨cA, cB, cC, cD, cE, cF, cG, cS, cL, cH, cN, cT, cW, cK, cZ⟩ := id hC
  obtain ⟨⟨i0, i1, i2, i3, i4, i5, i6, i7, i8, i9⟩, iS, iH, iR, iT, iC, iG, iL, iZ⟩ := id hI
  obtain ⟨⟨cV0, cV1, cV2, cV4⟩, _⟩ := id hV
  obtain ⟨cA0, cA1, cA2⟩ := id cA
  obtain ⟨cB0, cB1, cB2⟩ := id cB
  obtain ⟨⟨⟨⟨z0, z1, z2⟩, z3, z4, z5⟩, z6, z7⟩, z8⟩ := id cZ
  have en0 : κ 2 2 = κ 40 11 := cG.1.2.2.1
  have en1 : κ 3 2 = κ 40 20 := cG.2.1.2.2.1
  have en2 : κ 4 2 = κ 40 31 := cG.2.2.1.2.2.1
  have en3 : κ 5 2 = κ 40 41 := cG.2.2.2.2.2.1
  refine Ct.of (L := [some (Rf 1), some (Iv d), none, none, none]) 3 (by decide +kernel) rfl rfl ?_
  have lpB : ∀ (m : Nat) (l k : Int) (u : Option Av), 0 ≤ k ∧ k ≤ κ 40 41 → (m : Int) = κ 40 41 - k → l = lawM κ d k.toNat → 0 ≤ l ∧ l < κ 40 41 → G (XR B n0) mX9_lawOn 4 (Or2 V κ (lawM κ d (κ 40 41).toNat < 0) Nl (0 ≤ lawM κ d (κ 40 41).toNat) (Rf (400 + (lawM κ d (κ 40 41).toNat).toNat))) V 0 0 4 [some (Rf 1), some (Iv d), some (Rf (400 + (l).toNat)), some (Iv k), u] [] V κ := by
    intro m
    induction m using Nat.strongRecOn with
    | ind m ih =>
      intro l k u hk hm hl hlr
      refine g_iload_n 5 dX9_lawOn_4 rfl rfl ?_
      refine g_aload_n 6 dX9_lawOn_5 rfl rfl ?_
      refine g_getC 9 dX9_lawOn_6 fgX9_22 kd_1 ly_1_3 rfl ?_
      refine e_V 12 0 0 [] [Iv k] dX9_lawOn_9 cvX9_78 mwJx4a65c_size_8abf5 kd_5 (by decide) rfl (Nat.le_of_ble_eq_true rfl) rfl rfl rfl (c_size_3) ?_
      refine g_icmp_ge 62 15 dX9_lawOn_12 (by first | assumption | omega) (by first | assumption | omega) (by decide) rfl (fun h101 => ?_) (fun h101 => ?_)
      · refine g_aload_n 63 dX9_lawOn_62 rfl rfl ?_
        refine g_aret dX9_lawOn_63 rfl (by first | exact Or.inl ⟨_, rfl⟩ | exact Or.inr ⟨_, rfl⟩) ?_
        have ek : k = κ 40 41 := by omega
        subst ek
        rw [← hl]
        exact ⟨rfl, rfl, Or.inr ⟨by omega, rfl⟩⟩
      refine g_aload_n 16 dX9_lawOn_15 rfl rfl ?_
      refine g_getC 19 dX9_lawOn_16 fgX9_22 kd_1 ly_1_3 rfl ?_
      refine g_iload_n 20 dX9_lawOn_19 rfl rfl ?_
      refine e_V 23 0 0 [Iv k] [] dX9_lawOn_20 cvX9_190 mwJx4a65c_get_915e3 kd_5 (by decide) rfl (Nat.le_of_ble_eq_true rfl) rfl rfl rfl (c_get_3 cG.2.2.2 (by omega) (by omega)) ?_
      refine g_cast 26 dX9_lawOn_23 clX9_264 (ci := 4) rfl (by decide) (kd_L (by omega)) rfl ?_
      refine g_astore (L' := [some (Rf 1), some (Iv d), some (Rf (400 + (l).toNat)), some (Iv k), some (Rf (400 + (k).toNat))]) 28 dX9_lawOn_26 rfl (by decide) rfl ?_
      have w1 := cW k.toNat (by omega)
      have w2 := cW l.toNat (by omega)
      refine g_aload 30 dX9_lawOn_28 rfl rfl ?_
      refine r_getI 33 (κ (400 + (k).toNat) 3) dX9_lawOn_30 fgX9_381 (kd_L (by omega)) (ly_L (by omega) 3) rfl (rfl) (fun r102 => ?_)
      refine g_iload_n 34 dX9_lawOn_33 rfl rfl ?_
      refine g_icmp_gt 56 37 dX9_lawOn_34 (by first | assumption | omega) (by first | assumption | omega) (by decide) rfl (fun h103 => ?_) (fun h103 => ?_)
      · refine g_iinc (L' := [some (Rf 1), some (Iv d), some (Rf (400 + (l).toNat)), some (Iv (k + 1)), some (Rf (400 + (k).toNat))]) 59 dX9_lawOn_56 rfl rfl (by decide) rfl ?_
        refine g_goto 4 dX9_lawOn_59 (by decide) ?_
        refine ih (m - 1) (by omega) l (k + 1) _ (by omega) (by omega) ?_ (by omega)
        rw [show (k + 1).toNat = k.toNat + 1 by omega]
        unfold lawM
        rw [← hl]
        rw [if_neg (by omega)]
      refine g_aload_n 38 dX9_lawOn_37 rfl rfl ?_
      refine r_ifnull_s 41 53 dX9_lawOn_38 (by decide) rfl ?_
      refine g_aload 43 dX9_lawOn_41 rfl rfl ?_
      refine r_getI 46 (κ (400 + (k).toNat) 3) dX9_lawOn_43 fgX9_381 (kd_L (by omega)) (ly_L (by omega) 3) rfl (rfl) (fun r104 => ?_)
      refine g_aload_n 47 dX9_lawOn_46 rfl rfl ?_
      refine r_getI 50 (κ (400 + (l).toNat) 3) dX9_lawOn_47 fgX9_381 (kd_L (by omega)) (ly_L (by omega) 3) rfl (rfl) (fun r105 => ?_)
      refine g_icmp_lt 56 53 dX9_lawOn_50 (by first | assumption | omega) (by first | assumption | omega) (by decide) rfl (fun h106 => ?_) (fun h106 => ?_)
      · refine g_iinc (L' := [some (Rf 1), some (Iv d), some (Rf (400 + (l).toNat)), some (Iv (k + 1)), some (Rf (400 + (k).toNat))]) 59 dX9_lawOn_56 rfl rfl (by decide) rfl ?_
        refine g_goto 4 dX9_lawOn_59 (by decide) ?_
        refine ih (m - 1) (by omega) l (k + 1) _ (by omega) (by omega) ?_ (by omega)
        rw [show (k + 1).toNat = k.toNat + 1 by omega]
        unfold lawM
        rw [← hl]
        rw [if_neg (by omega)]
      refine g_aload 55 dX9_lawOn_53 rfl rfl ?_
      refine g_astore_n (L' := [some (Rf 1), some (Iv d), some (Rf (400 + (k).toNat)), some (Iv k), some (Rf (400 + (k).toNat))]) 56 dX9_lawOn_55 rfl (by decide) rfl ?_
      refine g_iinc (L' := [some (Rf 1), some (Iv d), some (Rf (400 + (k).toNat)), some (Iv (k + 1)), some (Rf (400 + (k).toNat))]) 59 dX9_lawOn_56 rfl rfl (by decide) rfl ?_
      refine g_goto 4 dX9_lawOn_59 (by decide) ?_
      refine ih (m - 1) (by omega) k (k + 1) _ (by omega) (by omega) ?_ (by omega)
      rw [show (k + 1).toNat = k.toNat + 1 by omega]
      unfold lawM
      rw [← hl]
      rw [if_pos (by omega)]
      omega
  have lpA : ∀ (m : Nat) (k : Int) (u : Option Av), 0 ≤ k ∧ k ≤ κ 40 41 → (m : Int) = κ 40 41 - k → lawM κ d k.toNat < 0 → G (XR B n0) mX9_lawOn 4 (Or2 V κ (lawM κ d (κ 40 41).toNat < 0) Nl (0 ≤ lawM κ d (κ 40 41).toNat) (Rf (400 + (lawM κ d (κ 40 41).toNat).toNat))) V 0 0 4 [some (Rf 1), some (Iv d), some (Nl), some (Iv k), u] [] V κ := by
    intro m
    induction m using Nat.strongRecOn with
    | ind m ih =>
      intro k u hk hm hl
      refine g_iload_n 5 dX9_lawOn_4 rfl rfl ?_
      refine g_aload_n 6 dX9_lawOn_5 rfl rfl ?_
      refine g_getC 9 dX9_lawOn_6 fgX9_22 kd_1 ly_1_3 rfl ?_
      refine e_V 12 0 0 [] [Iv k] dX9_lawOn_9 cvX9_78 mwJx4a65c_size_8abf5 kd_5 (by decide) rfl (Nat.le_of_ble_eq_true rfl) rfl rfl rfl (c_size_3) ?_
      refine g_icmp_ge 62 15 dX9_lawOn_12 (by first | assumption | omega) (by first | assumption | omega) (by decide) rfl (fun h101 => ?_) (fun h101 => ?_)
      · refine g_aload_n 63 dX9_lawOn_62 rfl rfl ?_
        refine g_aret dX9_lawOn_63 rfl (by first | exact Or.inl ⟨_, rfl⟩ | exact Or.inr ⟨_, rfl⟩) ?_
        have ek : k = κ 40 41 := by omega
        subst ek
        exact ⟨rfl, rfl, Or.inl ⟨hl, rfl⟩⟩
      refine g_aload_n 16 dX9_lawOn_15 rfl rfl ?_
      refine g_getC 19 dX9_lawOn_16 fgX9_22 kd_1 ly_1_3 rfl ?_
      refine g_iload_n 20 dX9_lawOn_19 rfl rfl ?_
      refine e_V 23 0 0 [Iv k] [] dX9_lawOn_20 cvX9_190 mwJx4a65c_get_915e3 kd_5 (by decide) rfl (Nat.le_of_ble_eq_true rfl) rfl rfl rfl (c_get_3 cG.2.2.2 (by omega) (by omega)) ?_
      refine g_cast 26 dX9_lawOn_23 clX9_264 (ci := 4) rfl (by decide) (kd_L (by omega)) rfl ?_
      refine g_astore (L' := [some (Rf 1), some (Iv d), some (Nl), some (Iv k), some (Rf (400 + (k).toNat))]) 28 dX9_lawOn_26 rfl (by decide) rfl ?_
      have w1 := cW k.toNat (by omega)
      refine g_aload 30 dX9_lawOn_28 rfl rfl ?_
      refine r_getI 33 (κ (400 + (k).toNat) 3) dX9_lawOn_30 fgX9_381 (kd_L (by omega)) (ly_L (by omega) 3) rfl (rfl) (fun r102 => ?_)
      refine g_iload_n 34 dX9_lawOn_33 rfl rfl ?_
      refine g_icmp_gt 56 37 dX9_lawOn_34 (by first | assumption | omega) (by first | assumption | omega) (by decide) rfl (fun h103 => ?_) (fun h103 => ?_)
      · refine g_iinc (L' := [some (Rf 1), some (Iv d), some (Nl), some (Iv (k + 1)), some (Rf (400 + (k).toNat))]) 59 dX9_lawOn_56 rfl rfl (by decide) rfl ?_
        refine g_goto 4 dX9_lawOn_59 (by decide) ?_
        refine ih (m - 1) (by omega) (k + 1) _ (by omega) (by omega) ?_
        rw [show (k + 1).toNat = k.toNat + 1 by omega]
        unfold lawM
        rw [if_neg (by omega)]
        exact hl
      refine g_aload_n 38 dX9_lawOn_37 rfl rfl ?_
      refine r_ifnull_n 53 dX9_lawOn_38 (by decide) ?_
      refine g_aload 55 dX9_lawOn_53 rfl rfl ?_
      refine g_astore_n (L' := [some (Rf 1), some (Iv d), some (Rf (400 + (k).toNat)), some (Iv k), some (Rf (400 + (k).toNat))]) 56 dX9_lawOn_55 rfl (by decide) rfl ?_
      refine g_iinc (L' := [some (Rf 1), some (Iv d), some (Rf (400 + (k).toNat)), some (Iv (k + 1)), some (Rf (400 + (k).toNat))]) 59 dX9_lawOn_56 rfl rfl (by decide) rfl ?_
      refine g_goto 4 dX9_lawOn_59 (by decide) ?_
      refine lpB (m - 1) k (k + 1) _ (by omega) (by omega) ?_ (by omega)
      rw [show (k + 1).toNat = k.toNat + 1 by omega]
      unfold lawM
      rw [if_pos (by omega)]
      omega
  refine g_null 1 dX9_lawOn_0 rfl ?_
  refine g_astore_n (L' := [some (Rf 1), some (Iv d), some (Nl), none, none]) 2 dX9_lawOn_1 rfl (by decide) rfl ?_
  refine g_iconst 3 dX9_lawOn_2 (by decide) rfl ?_
  refine g_istore_n (L' := [some (Rf 1), some (Iv d), some (Nl), some (Iv 0), none]) 4 dX9_lawOn_3 rfl (by decide) rfl ?_
  exact lpA (κ 40 41).toNat 0 none (by omega) (by omega) (show (-1 : Int) < 0 by decide)
set_option maxHeartbeats 4000000 in
set_option maxRecDepth 20000 in
theorem c_X9_rate {B : Bs} {n0 : Nat} {V : Vs} {κ : Ks} {h d : Int} (r_h : inR h) (r_d : inR d)  (hInv : Inv κ V) : Ct (XR B n0) mX9_rate 5 0 0 [Rf 1, Iv h, Iv d] V κ (PC κ (M_rate κ h d)) := by
  obtain ⟨hI, hC, hV⟩ := id hInv
  obtain ⟨cA, cB, cC, cD, cE, cF, cG, cS, cL, cH, cN, cT, cW, cK, cZ⟩ := id hC
  obtain ⟨⟨i0, i1, i2, i3, i4, i5, i6, i7, i8, i9⟩, iS, iH, iR, iT, iC, iG, iL, iZ⟩ := id hI
  obtain ⟨⟨cV0, cV1, cV2, cV4⟩, _⟩ := id hV
  obtain ⟨cA0, cA1, cA2⟩ := id cA
  obtain ⟨cB0, cB1, cB2⟩ := id cB
  obtain ⟨⟨⟨⟨z0, z1, z2⟩, z3, z4, z5⟩, z6, z7⟩, z8⟩ := id cZ
  have en0 : κ 2 2 = κ 40 11 := cG.1.2.2.1
  have en1 : κ 3 2 = κ 40 20 := cG.2.1.2.2.1
  have en2 : κ 4 2 = κ 40 31 := cG.2.2.1.2.2.1
  have en3 : κ 5 2 = κ 40 41 := cG.2.2.2.2.2.1
  have lw := law_R κ d (κ 40 41).toNat
  refine Ct.of (L := [some (Rf 1), some (Iv h), some (Iv d), none, none]) 2 (by decide +kernel) rfl rfl ?_
  refine g_aload_n 1 dX9_rate_0 rfl rfl ?_
  refine g_iload_n 2 dX9_rate_1 rfl rfl ?_
  refine o_V 5 0 0 [Iv h] [] dX9_rate_2 cvX9_146 mwX9_houseAt kd_1 (by decide) rfl (Nat.le_of_ble_eq_true rfl) rfl rfl rfl (c_X9_houseAt cG.2.1 (by omega) (by omega)) (fun h1 => ?_) (fun h1 => ?_)
  · have qH := cH (h).toNat (by omega)
    have qJ := iH (h).toNat (by omega)
    refine g_astore_n (L' := [some (Rf 1), some (Iv h), some (Iv d), some (Rf (200 + (h).toNat)), none]) 6 dX9_rate_5 rfl (by decide) rfl ?_
    refine g_aload_n 7 dX9_rate_6 rfl rfl ?_
    refine r_ifnonnull_s 16 dX9_rate_7 (by decide) ?_
    refine g_iload_n 17 dX9_rate_16 rfl rfl ?_
    refine g_if_ge 27 20 dX9_rate_17 (by first | assumption | omega) (by decide) rfl (fun h2 => ?_) (fun h2 => ?_)
    · refine g_iload_n 28 dX9_rate_27 rfl rfl ?_
      refine g_sipush 31 dX9_rate_28 (by decide) rfl ?_
      refine g_icmp_le 41 34 dX9_rate_31 (by first | assumption | omega) (by decide) (by decide) rfl (fun h3 => ?_) (fun h3 => ?_)
      · refine g_aload_n 42 dX9_rate_41 rfl rfl ?_
        refine g_iload_n 43 dX9_rate_42 rfl rfl ?_
        refine o_V 46 0 0 [Iv d] [] dX9_rate_43 cvX9_267 mwX9_lawOn kd_1 (by decide) rfl (Nat.le_of_ble_eq_true rfl) rfl rfl rfl (c_X9_lawOn (by omega) hInv) (fun h4 => ?_) (fun h4 => ?_)
        · refine g_astore (L' := [some (Rf 1), some (Iv h), some (Iv d), some (Rf (200 + (h).toNat)), some (Nl)]) 48 dX9_rate_46 rfl (by decide) rfl ?_
          refine g_aload 50 dX9_rate_48 rfl rfl ?_
          refine r_ifnonnull_n 53 57 dX9_rate_50 (by decide) rfl ?_
          refine g_iconst 54 dX9_rate_53 (by decide) rfl ?_
          refine g_goto 63 dX9_rate_54 (by decide) ?_
          refine g_iret dX9_rate_63 rfl ?_
          unfold M_rate rateM
          rw [if_neg (by omega), if_neg (by omega), if_neg (by omega), if_pos (by omega)]
          exact PC_same hInv rfl
        refine g_astore (L' := [some (Rf 1), some (Iv h), some (Iv d), some (Rf (200 + (h).toNat)), some (Rf (400 + (lawM κ d (κ 40 41).toNat).toNat))]) 48 dX9_rate_46 rfl (by decide) rfl ?_
        refine g_aload 50 dX9_rate_48 rfl rfl ?_
        refine r_ifnonnull_s 57 dX9_rate_50 (by decide) ?_
        refine g_aload 59 dX9_rate_57 rfl rfl ?_
        refine g_aload_n 60 dX9_rate_59 rfl rfl ?_
        refine e_V 63 0 0 [Rf (200 + (h).toNat)] [] dX9_rate_60 cvX9_271 mwX3_rateFor (kd_L (by omega)) (by decide) rfl (Nat.le_of_ble_eq_true rfl) rfl rfl rfl (c_X3_rateFor (by omega) (by omega) (by omega)) ?_
        refine g_iret dX9_rate_63 rfl ?_
        have w1 := cW (lawM κ d (κ 40 41).toNat).toNat (by omega)
        unfold M_rate rateM
        rw [if_neg (by omega), if_neg (by omega), if_neg (by omega), if_neg (by omega)]
        rw [w1.1, w1.2.1, w1.2.2.1, qH.2.2.1, qH.2.1]
        exact PC_same hInv rfl
      refine g_aload_n 35 dX9_rate_34 rfl rfl ?_
      refine g_bipush 37 dX9_rate_35 (by decide) rfl ?_
      refine e_V 40 0 0 [Iv (-6)] [] dX9_rate_37 cvX9_74 mwX9_refuse kd_1 (by decide) rfl (Nat.le_of_ble_eq_true rfl) rfl rfl rfl (c_X9_refuse 6 (by decide) (by decide)) ?_
      refine g_iret dX9_rate_40 rfl ?_
      unfold M_rate
      (repeat' split) <;> first | (exfalso; omega) | exact PC_ref hInv (by decide) (by omega) rfl | exact PC_same hInv (by omega)
    refine g_aload_n 21 dX9_rate_20 rfl rfl ?_
    refine g_bipush 23 dX9_rate_21 (by decide) rfl ?_
    refine e_V 26 0 0 [Iv (-4)] [] dX9_rate_23 cvX9_74 mwX9_refuse kd_1 (by decide) rfl (Nat.le_of_ble_eq_true rfl) rfl rfl rfl (c_X9_refuse 4 (by decide) (by decide)) ?_
    refine g_iret dX9_rate_26 rfl ?_
    unfold M_rate
    (repeat' split) <;> first | (exfalso; omega) | exact PC_ref hInv (by decide) (by omega) rfl | exact PC_same hInv (by omega)
  refine g_astore_n (L' := [some (Rf 1), some (Iv h), some (Iv d), some (Nl), none]) 6 dX9_rate_5 rfl (by decide) rfl ?_
  refine g_aload_n 7 dX9_rate_6 rfl rfl ?_
  refine r_ifnonnull_n 10 16 dX9_rate_7 (by decide) rfl ?_
  refine g_aload_n 11 dX9_rate_10 rfl rfl ?_
  refine g_iconst 12 dX9_rate_11 (by decide) rfl ?_
  refine e_V 15 0 0 [Iv (-1)] [] dX9_rate_12 cvX9_74 mwX9_refuse kd_1 (by decide) rfl (Nat.le_of_ble_eq_true rfl) rfl rfl rfl (c_X9_refuse 1 (by decide) (by decide)) ?_
  refine g_iret dX9_rate_15 rfl ?_
  unfold M_rate
  (repeat' split) <;> first | (exfalso; omega) | exact PC_ref hInv (by decide) (by omega) rfl | exact PC_same hInv (by omega)
set_option maxHeartbeats 4000000 in
set_option maxRecDepth 20000 in
theorem c_X9_isClash {B : Bs} {n0 : Nat} {V : Vs} {κ : Ks} {t u : Nat} (h_t : (t : Int) < κ 40 31) (h_u : (u : Int) < κ 40 31) (hInv : Inv κ V) : Ct (XR B n0) mX9_isClash 7 0 0 [Rf 1, Rf (300 + t), Rf (300 + u)] V κ (Or2 V κ (κ 73 t ≠ κ 73 u ∧ clashC κ t u) (Iv 1) (¬ (κ 73 t ≠ κ 73 u ∧ clashC κ t u)) (Iv 0)) := by
  obtain ⟨hI, hC, hV⟩ := id hInv
  obtain ⟨cA, cB, cC, cD, cE, cF, cG, cS, cL, cH, cN, cT, cW, cK, cZ⟩ := id hC
  obtain ⟨⟨i0, i1, i2, i3, i4, i5, i6, i7, i8, i9⟩, iS, iH, iR, iT, iC, iG, iL, iZ⟩ := id hI
  obtain ⟨⟨cV0, cV1, cV2, cV4⟩, _⟩ := id hV
  obtain ⟨cA0, cA1, cA2⟩ := id cA
  obtain ⟨cB0, cB1, cB2⟩ := id cB
  obtain ⟨⟨⟨⟨z0, z1, z2⟩, z3, z4, z5⟩, z6, z7⟩, z8⟩ := id cZ
  have en0 : κ 2 2 = κ 40 11 := cG.1.2.2.1
  have en1 : κ 3 2 = κ 40 20 := cG.2.1.2.2.1
  have en2 : κ 4 2 = κ 40 31 := cG.2.2.1.2.2.1
  have en3 : κ 5 2 = κ 40 41 := cG.2.2.2.2.2.1
  have qt := cT t h_t
  have qu := cT u h_u
  have it := iT t h_t
  have iu := iT u h_u
  have wr := way_R (κ := κ) (κ 73 t) (κ 73 u)
  refine Ct.of (L := [some (Rf 1), some (Rf (300 + t)), some (Rf (300 + u)), none, none]) 2 (by decide +kernel) rfl rfl ?_
  refine g_aload_n 1 dX9_isClash_0 rfl rfl ?_
  refine r_getI 4 (κ 73 t) dX9_isClash_1 fgX9_348 (kd_T (by omega)) (ly_T (by omega) 0) rfl ((cT t h_t).1) (fun r1 => ?_)
  refine g_aload_n 5 dX9_isClash_4 rfl rfl ?_
  refine r_getI 8 (κ 73 u) dX9_isClash_5 fgX9_348 (kd_T (by omega)) (ly_T (by omega) 0) rfl ((cT u h_u).1) (fun r2 => ?_)
  refine g_icmp_ne 13 11 dX9_isClash_8 (by first | assumption | omega) (by first | assumption | omega) (by decide) rfl (fun h3 => ?_) (fun h3 => ?_)
  · refine g_aload_n 14 dX9_isClash_13 rfl rfl ?_
    refine g_aload_n 15 dX9_isClash_14 rfl rfl ?_
    refine o_V 18 0 0 [Rf (300 + u)] [] dX9_isClash_15 cvX9_349 mwX7_sharesHourWith (kd_T (by omega)) (by decide) rfl (Nat.le_of_ble_eq_true rfl) rfl rfl rfl (c_X7_sharesHourWith (by omega) (by omega) (by omega) (by omega)) (fun h4 => ?_) (fun h4 => ?_)
    · refine g_if_eq 23 21 dX9_isClash_18 (by decide) (by decide) rfl (fun z => absurd z (by decide)) (fun _ => ?_)
      refine g_iconst 22 dX9_isClash_21 (by decide) rfl ?_
      refine g_zret dX9_isClash_22 rfl (by omega) ?_
      exact ⟨rfl, rfl, Or.inl ⟨by omega, rfl⟩⟩
    refine g_if_eq 23 21 dX9_isClash_18 (by decide) (by decide) rfl (fun _ => ?_) (fun z => absurd z (by decide))
    refine g_aload_n 24 dX9_isClash_23 rfl rfl ?_
    refine g_aload_n 25 dX9_isClash_24 rfl rfl ?_
    refine e_V 28 0 0 [Rf (300 + u)] [] dX9_isClash_25 cvX9_353 mwX7_hoursUntil (kd_T (by omega)) (by decide) rfl (Nat.le_of_ble_eq_true rfl) rfl rfl rfl (c_X7_hoursUntil (by omega) (by omega) (by omega) (by omega)) ?_
    refine g_aload_n 29 dX9_isClash_28 rfl rfl ?_
    refine g_aload_n 30 dX9_isClash_29 rfl rfl ?_
    refine e_V 33 0 0 [Rf (300 + t)] [Iv ((κ (300 + u) 2 - κ (300 + t) 2) % 168)] dX9_isClash_30 cvX9_353 mwX7_hoursUntil (kd_T (by omega)) (by decide) rfl (Nat.le_of_ble_eq_true rfl) rfl rfl rfl (c_X7_hoursUntil (by omega) (by omega) (by omega) (by omega)) ?_
    refine e_S 36 0 0 [Iv ((κ (300 + u) 2 - κ (300 + t) 2) % 168), Iv ((κ (300 + t) 2 - κ (300 + u) 2) % 168)] [] dX9_isClash_33 csX9_327 mwJ9_min_7cf53 (by decide) rfl (Nat.le_of_ble_eq_true rfl) rfl rfl rfl (c_J9_min_7cf53 (by omega) (by omega)) ?_
    refine g_istore_n (L' := [some (Rf 1), some (Rf (300 + t)), some (Rf (300 + u)), some (Iv (min ((κ (300 + u) 2 - κ (300 + t) 2) % 168) ((κ (300 + t) 2 - κ (300 + u) 2) % 168))), none]) 37 dX9_isClash_36 rfl (by decide) rfl ?_
    refine g_aload_n 38 dX9_isClash_37 rfl rfl ?_
    refine g_aload_n 39 dX9_isClash_38 rfl rfl ?_
    refine r_getI 42 (κ 73 t) dX9_isClash_39 fgX9_348 (kd_T (by omega)) (ly_T (by omega) 0) rfl ((cT t h_t).1) (fun r5 => ?_)
    refine g_aload_n 43 dX9_isClash_42 rfl rfl ?_
    refine r_getI 46 (κ 73 u) dX9_isClash_43 fgX9_348 (kd_T (by omega)) (ly_T (by omega) 0) rfl ((cT u h_u).1) (fun r6 => ?_)
    refine e_V 49 0 0 [Iv (κ 73 t), Iv (κ 73 u)] [] dX9_isClash_46 cvX9_213 mwX9_stepsBetween kd_1 (by decide) rfl (Nat.le_of_ble_eq_true rfl) rfl rfl rfl (c_X9_stepsBetween (by omega) (by omega) hInv) ?_
    refine g_iconst 50 dX9_isClash_49 (by decide) rfl ?_
    refine g_iadd 51 dX9_isClash_50 rfl ?_
    refine g_iconst 52 dX9_isClash_51 (by decide) rfl ?_
    refine g_idiv 53 dX9_isClash_52 (by omega) (by omega) rfl ?_
    refine g_istore (L' := [some (Rf 1), some (Rf (300 + t)), some (Rf (300 + u)), some (Iv (min ((κ (300 + u) 2 - κ (300 + t) 2) % 168) ((κ (300 + t) 2 - κ (300 + u) 2) % 168))), some (Iv (((wayM κ (κ 73 t) (κ 73 u)) + 1) / 2))]) 55 dX9_isClash_53 rfl (by decide) rfl ?_
    refine g_iload_n 56 dX9_isClash_55 rfl rfl ?_
    refine g_iload 58 dX9_isClash_56 rfl rfl ?_
    refine g_icmp_ge 65 61 dX9_isClash_58 (by first | assumption | omega) (by first | assumption | omega) (by decide) rfl (fun h7 => ?_) (fun h7 => ?_)
    · refine g_iconst 66 dX9_isClash_65 (by decide) rfl ?_
      refine g_zret dX9_isClash_66 rfl (by omega) ?_
      exact ⟨rfl, rfl, Or.inr ⟨by omega, rfl⟩⟩
    refine g_iconst 62 dX9_isClash_61 (by decide) rfl ?_
    refine g_goto 66 dX9_isClash_62 (by decide) ?_
    refine g_zret dX9_isClash_66 rfl (by omega) ?_
    exact ⟨rfl, rfl, Or.inl ⟨by omega, rfl⟩⟩
  refine g_iconst 12 dX9_isClash_11 (by decide) rfl ?_
  refine g_zret dX9_isClash_12 rfl (by omega) ?_
  exact ⟨rfl, rfl, Or.inr ⟨by omega, rfl⟩⟩
set_option maxHeartbeats 4000000 in
set_option maxRecDepth 20000 in
theorem c_X9_clashes {B : Bs} {n0 : Nat} {V : Vs} {κ : Ks} {c : Int} (r_c : inR c)  (hInv : Inv κ V) : Ct (XR B n0) mX9_clashes 8 0 0 [Rf 1, Iv c] V κ (PC κ (M_clashes κ c)) := by
  obtain ⟨hI, hC, hV⟩ := id hInv
  obtain ⟨cA, cB, cC, cD, cE, cF, cG, cS, cL, cH, cN, cT, cW, cK, cZ⟩ := id hC
  obtain ⟨⟨i0, i1, i2, i3, i4, i5, i6, i7, i8, i9⟩, iS, iH, iR, iT, iC, iG, iL, iZ⟩ := id hI
  obtain ⟨⟨cV0, cV1, cV2, cV4⟩, _⟩ := id hV
  obtain ⟨cA0, cA1, cA2⟩ := id cA
  obtain ⟨cB0, cB1, cB2⟩ := id cB
  obtain ⟨⟨⟨⟨z0, z1, z2⟩, z3, z4, z5⟩, z6, z7⟩, z8⟩ := id cZ
  have en0 : κ 2 2 = κ 40 11 := cG.1.2.2.1
  have en1 : κ 3 2 = κ 40 20 := cG.2.1.2.2.1
  have en2 : κ 4 2 = κ 40 31 := cG.2.2.1.2.2.1
  have en3 : κ 5 2 = κ 40 41 := cG.2.2.2.2.2.1
  refine Ct.of (L := [some (Rf 1), some (Iv c), none, none, none, none, none]) 5 (by decide +kernel) rfl rfl ?_
  have lpO : ∀ (m : Nat), ∀ (n t : Int) (u4 u5 u6 : Option Av), 1 ≤ t ∧ t ≤ κ 40 31 + 1 → (m : Int) = κ 40 31 + 1 - t → (t ≤ κ 40 31 → n = clsO κ c t.toNat) → (κ 40 31 < t → n = 0 ∧ κ 40 31 = 0) → 0 ≤ c ∧ c ≤ 2 → G (XR B n0) mX9_clashes 8 (PC κ (M_clashes κ c)) V 0 0 17 [some (Rf 1), some (Iv c), some (Iv n), some (Iv t), u4, u5, u6] [] V κ := by
    intro m
    induction m using Nat.strongRecOn with
    | ind m ih0 =>
      intro n t u4 u5 u6 ht0 hm0 hn0 hz0 hc0
      have lpI : ∀ (k : Nat) (n t u : Int) (u6 : Option Av), 1 ≤ t ∧ t < κ 40 31 → κ 40 31 + 1 - t = (m : Int) → 0 ≤ u ∧ u ≤ t → (k : Int) = t - u → n = clsO κ c t.toNat + clsI κ c t.toNat u.toNat → κ 74 t.toNat = c → G (XR B n0) mX9_clashes 8 (PC κ (M_clashes κ c)) V 0 0 56 [some (Rf 1), some (Iv c), some (Iv n), some (Iv t), some (Rf (300 + (t).toNat)), some (Iv u), u6] [] V κ := by
        intro k
        induction k using Nat.strongRecOn with
        | ind k ihk =>
          intro n t u u6 ht hmt hu hm hn hq
          refine g_iload 58 dX9_clashes_56 rfl rfl ?_
          refine g_iload_n 59 dX9_clashes_58 rfl rfl ?_
          refine g_icmp_ge 105 62 dX9_clashes_59 (by first | assumption | omega) (by first | assumption | omega) (by decide) rfl (fun h301 => ?_) (fun h301 => ?_)
          · refine g_iinc (L' := [some (Rf 1), some (Iv c), some (Iv n), some (Iv (t + 1)), some (Rf (300 + (t).toNat)), some (Iv u), u6]) 108 dX9_clashes_105 rfl rfl (by decide) rfl ?_
            refine g_goto 17 dX9_clashes_108 (by decide) ?_
            have eu : u = t := by omega
            subst eu
            exact ih0 (m - 1) (by omega) n (u + 1) _ _ _ (by omega) (by omega) (fun _ => by rw [show (u + 1).toNat = u.toNat + 1 by omega]; exact hn) (fun _ => by omega) hc0
          refine g_aload_n 63 dX9_clashes_62 rfl rfl ?_
          refine g_getC 66 dX9_clashes_63 fgX9_19 kd_1 ly_1_2 rfl ?_
          refine g_iload 68 dX9_clashes_66 rfl rfl ?_
          refine e_V 71 0 0 [Iv u] [] dX9_clashes_68 cvX9_190 mwJx4a65c_get_915e3 kd_4 (by decide) rfl (Nat.le_of_ble_eq_true rfl) rfl rfl rfl (c_get_2 cG.2.2.1 (by omega) (by omega)) ?_
          refine g_cast 74 dX9_clashes_71 clX9_173 (ci := 8) rfl (by decide) (kd_T (by omega)) rfl ?_
          refine g_astore (L' := [some (Rf 1), some (Iv c), some (Iv n), some (Iv t), some (Rf (300 + (t).toNat)), some (Iv u), some (Rf (300 + (u).toNat))]) 76 dX9_clashes_74 rfl (by decide) rfl ?_
          have it := cT t.toNat (by omega)
          have iu := cT u.toNat (by omega)
          refine g_aload 78 dX9_clashes_76 rfl rfl ?_
          refine r_getI 81 (κ (300 + (u).toNat) 1) dX9_clashes_78 fgX9_194 (kd_T (by omega)) (ly_T (by omega) 1) rfl (rfl) (fun r302 => ?_)
          refine g_iload_n 82 dX9_clashes_81 rfl rfl ?_
          refine g_icmp_ne 99 85 dX9_clashes_82 (by first | assumption | omega) (by first | assumption | omega) (by decide) rfl (fun h303 => ?_) (fun h303 => ?_)
          · refine g_iinc (L' := [some (Rf 1), some (Iv c), some (Iv n), some (Iv t), some (Rf (300 + (t).toNat)), some (Iv (u + 1)), some (Rf (300 + (u).toNat))]) 102 dX9_clashes_99 rfl rfl (by decide) rfl ?_
            refine g_goto 56 dX9_clashes_102 (by decide) ?_
            refine ihk (k - 1) (by omega) _ t (u + 1) _ ht hmt (by omega) (by omega) ?_ hq
            rw [show (u + 1).toNat = u.toNat + 1 by omega]
            have es : clsI κ c t.toNat (u.toNat + 1) = clsI κ c t.toNat u.toNat + (if clshP κ c t.toNat u.toNat then 1 else 0) := rfl
            rw [es, hn]
            first | (rw [if_pos (by first | omega | exact ⟨hq, by omega, by omega, (clash_sym κ).mp (show κ 73 u.toNat ≠ κ 73 t.toNat ∧ clashC κ u.toNat t.toNat by assumption).2⟩)]; omega) | (rw [if_neg (by first | omega | exact fun z => absurd (show κ 73 u.toNat ≠ κ 73 t.toNat ∧ clashC κ u.toNat t.toNat from ⟨fun e => z.2.2.1 e.symm, (clash_sym κ).mp z.2.2.2⟩) (by assumption))]; omega)
          refine g_aload_n 86 dX9_clashes_85 rfl rfl ?_
          refine g_aload 88 dX9_clashes_86 rfl rfl ?_
          refine g_aload 90 dX9_clashes_88 rfl rfl ?_
          refine o_V 93 0 0 [Rf (300 + (u).toNat), Rf (300 + (t).toNat)] [] dX9_clashes_90 cvX9_197 mwX9_isClash kd_1 (by decide) rfl (Nat.le_of_ble_eq_true rfl) rfl rfl rfl (c_X9_isClash (by omega) (by omega) hInv) (fun h304 => ?_) (fun h304 => ?_)
          · refine g_if_eq 99 96 dX9_clashes_93 (by decide) (by decide) rfl (fun z => absurd z (by decide)) (fun _ => ?_)
            refine g_iinc (L' := [some (Rf 1), some (Iv c), some (Iv (n + 1)), some (Iv t), some (Rf (300 + (t).toNat)), some (Iv u), some (Rf (300 + (u).toNat))]) 99 dX9_clashes_96 rfl rfl (by decide) rfl ?_
            refine g_iinc (L' := [some (Rf 1), some (Iv c), some (Iv (n + 1)), some (Iv t), some (Rf (300 + (t).toNat)), some (Iv (u + 1)), some (Rf (300 + (u).toNat))]) 102 dX9_clashes_99 rfl rfl (by decide) rfl ?_
            refine g_goto 56 dX9_clashes_102 (by decide) ?_
            refine ihk (k - 1) (by omega) _ t (u + 1) _ ht hmt (by omega) (by omega) ?_ hq
            rw [show (u + 1).toNat = u.toNat + 1 by omega]
            have es : clsI κ c t.toNat (u.toNat + 1) = clsI κ c t.toNat u.toNat + (if clshP κ c t.toNat u.toNat then 1 else 0) := rfl
            rw [es, hn]
            first | (rw [if_pos (by first | omega | exact ⟨hq, by omega, by omega, (clash_sym κ).mp (show κ 73 u.toNat ≠ κ 73 t.toNat ∧ clashC κ u.toNat t.toNat by assumption).2⟩)]; omega) | (rw [if_neg (by first | omega | exact fun z => absurd (show κ 73 u.toNat ≠ κ 73 t.toNat ∧ clashC κ u.toNat t.toNat from ⟨fun e => z.2.2.1 e.symm, (clash_sym κ).mp z.2.2.2⟩) (by assumption))]; omega)
          refine g_if_eq 99 96 dX9_clashes_93 (by decide) (by decide) rfl (fun _ => ?_) (fun z => absurd z (by decide))
          refine g_iinc (L' := [some (Rf 1), some (Iv c), some (Iv n), some (Iv t), some (Rf (300 + (t).toNat)), some (Iv (u + 1)), some (Rf (300 + (u).toNat))]) 102 dX9_clashes_99 rfl rfl (by decide) rfl ?_
          refine g_goto 56 dX9_clashes_102 (by decide) ?_
          refine ihk (k - 1) (by omega) _ t (u + 1) _ ht hmt (by omega) (by omega) ?_ hq
          rw [show (u + 1).toNat = u.toNat + 1 by omega]
          have es : clsI κ c t.toNat (u.toNat + 1) = clsI κ c t.toNat u.toNat + (if clshP κ c t.toNat u.toNat then 1 else 0) := rfl
          rw [es, hn]
          first | (rw [if_pos (by first | omega | exact ⟨hq, by omega, by omega, (clash_sym κ).mp (show κ 73 u.toNat ≠ κ 73 t.toNat ∧ clashC κ u.toNat t.toNat by assumption).2⟩)]; omega) | (rw [if_neg (by first | omega | exact fun z => absurd (show κ 73 u.toNat ≠ κ 73 t.toNat ∧ clashC κ u.toNat t.toNat from ⟨fun e => z.2.2.1 e.symm, (clash_sym κ).mp z.2.2.2⟩) (by assumption))]; omega)
      refine g_iload_n 18 dX9_clashes_17 rfl rfl ?_
      refine g_aload_n 19 dX9_clashes_18 rfl rfl ?_
      refine g_getC 22 dX9_clashes_19 fgX9_19 kd_1 ly_1_2 rfl ?_
      refine e_V 25 0 0 [] [Iv t] dX9_clashes_22 cvX9_78 mwJx4a65c_size_8abf5 kd_4 (by decide) rfl (Nat.le_of_ble_eq_true rfl) rfl rfl rfl (c_size_2) ?_
      refine g_icmp_ge 111 28 dX9_clashes_25 (by first | assumption | omega) (by first | assumption | omega) (by decide) rfl (fun h301 => ?_) (fun h301 => ?_)
      · refine g_iload_n 112 dX9_clashes_111 rfl rfl ?_
        refine g_iret dX9_clashes_112 rfl ?_
        unfold M_clashes
        rw [if_neg (by omega)]
        refine PC_same hInv ?_
        by_cases e0 : κ 40 31 = 0
        · rw [e0]; exact (by omega : n = 0)
        · rw [hn0 (by omega), show t = κ 40 31 by omega]
      refine g_aload_n 29 dX9_clashes_28 rfl rfl ?_
      refine g_getC 32 dX9_clashes_29 fgX9_19 kd_1 ly_1_2 rfl ?_
      refine g_iload_n 33 dX9_clashes_32 rfl rfl ?_
      refine e_V 36 0 0 [Iv t] [] dX9_clashes_33 cvX9_190 mwJx4a65c_get_915e3 kd_4 (by decide) rfl (Nat.le_of_ble_eq_true rfl) rfl rfl rfl (c_get_2 cG.2.2.1 (by omega) (by omega)) ?_
      refine g_cast 39 dX9_clashes_36 clX9_173 (ci := 8) rfl (by decide) (kd_T (by omega)) rfl ?_
      refine g_astore (L' := [some (Rf 1), some (Iv c), some (Iv n), some (Iv t), some (Rf (300 + (t).toNat)), u5, u6]) 41 dX9_clashes_39 rfl (by decide) rfl ?_
      have qt := cT t.toNat (by omega)
      refine g_aload 43 dX9_clashes_41 rfl rfl ?_
      refine r_getI 46 (κ (300 + (t).toNat) 1) dX9_clashes_43 fgX9_194 (kd_T (by omega)) (ly_T (by omega) 1) rfl (rfl) (fun r302 => ?_)
      refine g_iload_n 47 dX9_clashes_46 rfl rfl ?_
      refine g_icmp_eq 53 50 dX9_clashes_47 (by first | assumption | omega) (by first | assumption | omega) (by decide) rfl (fun h303 => ?_) (fun h303 => ?_)
      · refine g_iconst 54 dX9_clashes_53 (by decide) rfl ?_
        refine g_istore (L' := [some (Rf 1), some (Iv c), some (Iv n), some (Iv t), some (Rf (300 + (t).toNat)), some (Iv 0), u6]) 56 dX9_clashes_54 rfl (by decide) rfl ?_
        exact lpI t.toNat n t 0 _ (by omega) (by omega) (by omega) (by omega) (by rw [hn0 (by omega)]; show _ = _ + 0; omega) (by omega)
      refine g_goto 105 dX9_clashes_50 (by decide) ?_
      refine g_iinc (L' := [some (Rf 1), some (Iv c), some (Iv n), some (Iv (t + 1)), some (Rf (300 + (t).toNat)), u5, u6]) 108 dX9_clashes_105 rfl rfl (by decide) rfl ?_
      refine g_goto 17 dX9_clashes_108 (by decide) ?_
      have ez := clsI_0 (κ := κ) (c := c) (t := t.toNat) (by omega) t.toNat
      have es : clsO κ c (t.toNat + 1) = clsO κ c t.toNat + clsI κ c t.toNat t.toNat := rfl
      exact ih0 (m - 1) (by omega) n (t + 1) _ _ _ (by omega) (by omega) (fun _ => by rw [show (t + 1).toNat = t.toNat + 1 by omega, es, ez, hn0 (by omega)]; omega) (fun _ => by omega) hc0
  refine g_iload_n 1 dX9_clashes_0 rfl rfl ?_
  refine o_S 4 0 0 [Iv c] [] dX9_clashes_1 csX9_170 mwX9_isCock (by decide) rfl (Nat.le_of_ble_eq_true rfl) rfl rfl rfl (c_X9_isCock (by omega)) (fun h1 => ?_) (fun h1 => ?_)
  · refine g_if_ne 13 7 dX9_clashes_4 (by decide) (by decide) rfl (fun _ => ?_) (fun z => absurd z (by decide))
    refine g_iconst 14 dX9_clashes_13 (by decide) rfl ?_
    refine g_istore_n (L' := [some (Rf 1), some (Iv c), some (Iv 0), none, none, none, none]) 15 dX9_clashes_14 rfl (by decide) rfl ?_
    refine g_iconst 16 dX9_clashes_15 (by decide) rfl ?_
    refine g_istore_n (L' := [some (Rf 1), some (Iv c), some (Iv 0), some (Iv 1), none, none, none]) 17 dX9_clashes_16 rfl (by decide) rfl ?_
    exact lpO (κ 40 31).toNat 0 1 none none none (by omega) (by omega) (fun _ => rfl) (fun _ => by omega) (by omega)
  refine g_if_ne 13 7 dX9_clashes_4 (by decide) (by decide) rfl (fun z => absurd z (by decide)) (fun _ => ?_)
  refine g_aload_n 8 dX9_clashes_7 rfl rfl ?_
  refine g_iconst 9 dX9_clashes_8 (by decide) rfl ?_
  refine e_V 12 0 0 [Iv (-1)] [] dX9_clashes_9 cvX9_74 mwX9_refuse kd_1 (by decide) rfl (Nat.le_of_ble_eq_true rfl) rfl rfl rfl (c_X9_refuse 1 (by decide) (by decide)) ?_
  refine g_iret dX9_clashes_12 rfl ?_
  unfold M_clashes
  (repeat' split) <;> first | (exfalso; omega) | exact PC_ref hInv (by decide) (by omega) rfl | exact PC_same hInv (by omega)
