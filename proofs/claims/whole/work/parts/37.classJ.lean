/-! the class: an hour, hours (printed by wip/whole/gen37.py) -/
theorem eqM.tr {a b c : Ks} (h1 : eqM a b) (h2 : eqM b c) : eqM a c := fun t x y => (h2 t x y).trans (h1 t x y)
theorem some_F {κ : Ks} {x : Int} : ∀ n : Nat, (∀ k : Nat, k < n → ¬ openB κ k x = true) → someM κ x n = false
  | 0, _ => rfl
  | n + 1, h => by
    have e := h n (by omega)
    unfold someM
    rw [some_F n (fun k hk => h k (by omega))]
    cases q : openB κ n x with
    | false => rfl
    | true => exact absurd q e
theorem some_T {κ : Ks} {x : Int} : ∀ n k : Nat, k < n → openB κ k x = true → someM κ x n = true
  | 0, _, h, _ => absurd h (Nat.not_lt_zero _)
  | n + 1, k, hk, ho => by
    unfold someM
    by_cases e : k = n
    · subst e
      rw [ho]
      exact Bool.or_true _
    · rw [some_T n k (by omega) ho]
      exact Bool.true_or _
theorem some_0 {μ : Ks} {o x : Int} (hb : ∀ s : Nat, (s : Int) < μ 40 11 → bitI o s = if openB μ s x = true then 1 else 0) (h : o = 0) : someM μ x (μ 40 11).toNat = false := by
  refine some_F _ (fun k hk q => ?_)
  have b := hb k (by omega)
  rw [if_pos q, h] at b
  unfold bitI at b
  rw [Int.zero_ediv] at b
  exact absurd b (by decide)
theorem bits0 : ∀ (k : Nat) (o : Int), 0 ≤ o → o < 2 ^ k → (∀ s : Nat, s < k → bitI o s = 0) → o = 0
  | 0, o, h0, h1, _ => by
    rw [Int.pow_zero] at h1
    omega
  | k + 1, o, h0, h1, hb => by
    have b := hb 0 (by omega)
    unfold bitI at b
    rw [Int.pow_zero, Int.ediv_one] at b
    rw [Int.pow_succ] at h1
    have e : o / 2 = 0 := bits0 k (o / 2) (by omega) (by omega) (fun s hs => by
      have c := hb (s + 1) (by omega)
      unfold bitI at c ⊢
      rw [Int.pow_succ, Int.mul_comm] at c
      rw [Int.ediv_ediv_of_nonneg (by decide)]
      exact c)
    omega
theorem some_1 {μ : Ks} {o x : Int} (h5 : 0 ≤ μ 40 11 ∧ μ 40 11 ≤ 10) (h0 : 0 ≤ o ∧ o < 1024) (hb : (∀ s : Nat, (s : Int) < μ 40 11 → bitI o s = if openB μ s x = true then 1 else 0)) (hz : ∀ s : Nat, μ 40 11 ≤ s → s < 10 → bitI o s = 0) (h : o ≠ 0) : someM μ x (μ 40 11).toNat = true := by
  refine Classical.byContradiction (fun hn => h ?_)
  have g : ∀ s : Nat, s < 10 → bitI o s = 0 := fun s hs => by
    by_cases e : (s : Int) < μ 40 11
    · rw [hb s e]
      exact if_neg (fun q => hn (some_T _ s (by omega) q))
    · exact hz s (by omega) hs
  exact bits0 10 o h0.1 (by have : (2 : Int) ^ 10 = 1024 := by decide
                            omega) g
theorem pass_sm {μ : Ks} (h : MI μ) : passM μ 40 11 = μ 40 11 ∧ passM μ 40 20 = μ 40 20 ∧ passM μ 40 31 = μ 40 31 ∧ passM μ 40 41 = μ 40 41 := by
  obtain ⟨_, d⟩ := passD_ok h
  unfold passM
  exact ⟨(rd_ne (by omega)).trans d.1.2.2.2.2.1, (rd_ne (by omega)).trans d.1.2.2.2.2.2.1, (rd_ne (by omega)).trans d.1.2.2.2.2.2.2.1, (rd_ne (by omega)).trans d.1.2.2.2.2.2.2.2.2⟩
set_option maxHeartbeats 4000000 in
set_option maxRecDepth 20000 in
theorem c_X9_passHour {B : Bs} {n0 : Nat} {V : Vs} {κ : Ks} {μ : Ks} (hC : CI κ μ) (hI : MI μ) (h_t : μ 40 0 + 1 ≤ 5000) : Ct (XR B n0) mX9_passHour 5 0 0 [Rf 1] V κ (PHv κ V (passM μ)) := by
  obtain ⟨cA, cB, cC, cD, cE, cF, cG, cS, cL, cH, cN, cT, cW, cK, cZ⟩ := id hC
  obtain ⟨⟨i0, i1, i2, i3, i4, i5, i6, i7, i8, i9⟩, iS, iH, iR, iT, iC, iG, iL, iZ⟩ := id hI
  obtain ⟨cA0, cA1, cA2⟩ := id cA
  obtain ⟨e0, e1, e2, e3, e4, e5⟩ := id cE
  have en0 : κ 2 2 = μ 40 11 := cG.1.2.2.1
  have en1 : κ 3 2 = μ 40 20 := cG.2.1.2.2.1
  obtain ⟨a1, a2, a3⟩ := passA_ok hI
  obtain ⟨b1, b2, b3⟩ := passB_ok hI
  obtain ⟨c1, c2, c3⟩ := passC_ok hI
  obtain ⟨d1, d3⟩ := passD_ok hI
  have eA : passA μ 40 11 = μ 40 11 := a3.1.2.2.2.2.1
  have eB : passB μ 40 11 = μ 40 11 := b3.1.2.2.2.2.1
  have e20 : (st2 (passC μ) 40 8 (bm (passC μ 40 8 + passC μ 40 48))) 40 20 = μ 40 20 := (rd_ne (by omega)).trans c3.1.2.2.2.2.2.1
  have hk := (cK (μ 40 0 % 168).toNat (by omega)).2
  rw [show (((μ 40 0 % 168).toNat : Nat) : Int) = (μ 40 0 % 168) by omega] at hk
  obtain ⟨o, eo⟩ : ∃ o, o = κ 12 (μ 40 0 % 168).toNat := ⟨_, rfl⟩
  rw [← eo] at hk
  have hk0 : 0 ≤ o ∧ o < 1024 := ⟨hk.1, hk.2.1⟩
  have hk2 : ∀ s : Nat, μ 40 11 ≤ s → s < 10 → bitI o s = 0 := fun s h1 h2 => (hk.2.2 s h2).trans (if_neg (fun z => by have := z.1; omega))
  have hk1 : ∀ s : Nat, (s : Int) < μ 40 11 → bitI o s = if openB μ s (μ 40 0 % 168) = true then 1 else 0 := fun s hs => (hk.2.2 s (by omega)).trans (by by_cases q : openB μ s (μ 40 0 % 168) = true; (rw [if_pos q, if_pos ⟨hs, q⟩]); (rw [if_neg q, if_neg (fun z => q z.2)]))
  refine Ct.of (L := [some (Rf 1), none, none]) 2 (by decide +kernel) rfl rfl ?_
  have sg : ∀ (κ1 : Ks) (z : Int), CI κ1 (passA μ) → z = passA μ 40 48 → eqM κ κ1 → (∀ h : Nat, κ1 (200 + h) 8 = κ (200 + h) 8) → G (XR B n0) mX9_passHour 5 (PHv κ V (passM μ)) V 0 0 24 [some (Rf 1), some (Iv o), none] [Iv z] V κ1 := by
    intro κ1 z C1 hz hq hx
    refine g_istore_n (L' := [some (Rf 1), some (Iv o), some (Iv z)]) 25 dX9_passHour_24 rfl (by decide) rfl ?_
    refine g_aload_n 26 dX9_passHour_25 rfl rfl ?_
    refine g_iload_n 27 dX9_passHour_26 rfl rfl ?_
    refine g_iload_n 28 dX9_passHour_27 rfl rfl ?_
    refine p_V 31 0 0 [Iv o, Iv z] [] dX9_passHour_28 cvX9_318 mwX9_leak kd_1 (by decide) rfl (Nat.le_of_ble_eq_true rfl) rfl rfl rfl (c_X9_leak (x := (μ 40 0 % 168)) C1 a1 a2 hz hk0 (fun s hs => (hk1 s (by omega)).trans (by rw [openB_sm a3]))) ?_
    intro r1 V1 κ3 hp
    obtain ⟨hr1, hv1, m_κ3, x_κ3, C_κ3⟩ := hp
    subst hv1
    subst hr1
    refine ⟨[Iv (leakM (passA μ) (μ 40 0 % 168) (passA μ 40 11).toNat 40 48)], rfl, ?_⟩
    refine G.eqi (show leakM (passA μ) (μ 40 0 % 168) (passA μ 40 11).toNat 40 48 = passB μ 40 48 from by rw [eA]; rfl) ?_
    have C3 : CI κ3 (passB μ) := by have q := C_κ3; rw [eA] at q; exact q
    refine g_istore_n (L' := [some (Rf 1), some (Iv o), some (Iv (passB μ 40 48))]) 32 dX9_passHour_31 rfl (by decide) rfl ?_
    refine g_aload_n 33 dX9_passHour_32 rfl rfl ?_
    refine g_iload_n 34 dX9_passHour_33 rfl rfl ?_
    refine g_iload_n 35 dX9_passHour_34 rfl rfl ?_
    refine p_V 38 0 0 [Iv o, Iv (passB μ 40 48)] [] dX9_passHour_35 cvX9_321 mwX9_serve kd_1 (by decide) rfl (Nat.le_of_ble_eq_true rfl) rfl rfl rfl (c_X9_serve (x := (μ 40 0 % 168)) C3 b1 b2 rfl hk0 (fun s hs => (hk1 s (by omega)).trans (by rw [openB_sm b3]))) ?_
    intro r1 V1 κ4 hp
    obtain ⟨hr1, hv1, m_κ4, x_κ4, C_κ4⟩ := hp
    subst hv1
    subst hr1
    refine ⟨[Iv (srvM (passB μ) (μ 40 0 % 168) (passB μ 40 11).toNat 40 48)], rfl, ?_⟩
    refine G.eqi (show srvM (passB μ) (μ 40 0 % 168) (passB μ 40 11).toNat 40 48 = passC μ 40 48 from by rw [eB]; rfl) ?_
    have C4 : CI κ4 (passC μ) := by have q := C_κ4; rw [eB] at q; exact q
    have E4 : κ4 13 3 = passC μ 40 8 := C4.2.2.2.2.1.2.2.2.1
    refine g_istore_n (L' := [some (Rf 1), some (Iv o), some (Iv (passC μ 40 48))]) 39 dX9_passHour_38 rfl (by decide) rfl ?_
    refine g_aload_n 40 dX9_passHour_39 rfl rfl ?_
    refine g_getC 43 dX9_passHour_40 fgX9_51 kd_1 ly_1_9 rfl ?_
    refine g_dup 44 dX9_passHour_43 rfl ?_
    refine r_getI 47 (κ4 13 3) dX9_passHour_44 fgX9_305 kd_13 ly_13_3 rfl (rfl) (fun r151 => ?_)
    refine g_iload_n 48 dX9_passHour_47 rfl rfl ?_
    refine g_iadd 49 dX9_passHour_48 rfl ?_
    refine r_putIw 52 dX9_passHour_49 fpX9_305 (fun h => (nomatch h)) kd_13 ly_13_3 rfl ?_
    refine g_aload_n 53 dX9_passHour_52 rfl rfl ?_
    have C5 : CI (st2 κ4 13 3 (bm (κ4 13 3 + passC μ 40 48))) (st2 (passC μ) 40 8 (bm (passC μ 40 8 + passC μ 40 48))) := by rw [show bm (κ4 13 3 + passC μ 40 48) = bm (passC μ 40 8 + passC μ 40 48) from congrArg bm (by omega)]; exact CI_spill c1 C4
    refine p_V 56 0 0 [] [] dX9_passHour_53 cvX9_324 mwX9_drink kd_1 (by decide) rfl (Nat.le_of_ble_eq_true rfl) rfl rfl rfl (c_X9_drink C5 (c1.s40 (by decide))) ?_
    intro r1 V1 κ5 hp
    obtain ⟨hr1, hv1, m_κ5, x_κ5, C_κ5⟩ := hp
    subst hv1
    subst hr1
    refine ⟨[], rfl, ?_⟩
    have C6 : CI κ5 (passD μ) := by have q := C_κ5; rw [e20] at q; exact q
    have E6 : κ5 1 12 = μ 40 0 := C6.1.1.trans d3.1.1
    refine g_aload_n 57 dX9_passHour_56 rfl rfl ?_
    refine g_dup 58 dX9_passHour_57 rfl ?_
    refine r_getI 61 (κ5 1 12) dX9_passHour_58 fgX9_201 kd_1 ly_1_12 rfl (rfl) (fun r152 => ?_)
    refine g_iconst 62 dX9_passHour_61 (by decide) rfl ?_
    refine g_iadd 63 dX9_passHour_62 rfl ?_
    refine g_putI 66 dX9_passHour_63 fpX9_201 (fun h => (nomatch h)) kd_1 ly_1_12 (by omega) rfl ?_
    refine g_vret dX9_passHour_66 rfl ?_
    rw [show κ5 1 12 + 1 = μ 40 0 + 1 by omega]
    exact ⟨rfl, rfl, ((((hq.tr m_κ3).tr m_κ4).st (by omega)).tr m_κ5).st (by omega), fun a => (rd_ne (by omega)).trans ((x_κ5 a).trans ((rd_ne (by omega)).trans ((x_κ4 a).trans ((x_κ3 a).trans (hx a))))), CI_hour d1 C6⟩
  refine g_aload_n 1 dX9_passHour_0 rfl rfl ?_
  refine g_getC 4 dX9_passHour_1 fgX9_44 kd_1 ly_1_8 rfl ?_
  refine g_aload_n 5 dX9_passHour_4 rfl rfl ?_
  refine r_getI 8 (κ 1 12) dX9_passHour_5 fgX9_201 kd_1 ly_1_12 rfl (rfl) (fun r1 => ?_)
  refine e_V 11 0 0 [Iv (κ 1 12)] [] dX9_passHour_8 cvX9_184 mwX8_openStreets kd_10 (by decide) rfl (Nat.le_of_ble_eq_true rfl) rfl rfl rfl (c_X8_openStreets (by omega)) ?_
  refine G.eqi (show κ 12 (κ 1 12 % 168).toNat = o from by rw [cA0, eo]) ?_
  refine g_istore_n (L' := [some (Rf 1), some (Iv o), none]) 12 dX9_passHour_11 rfl (by decide) rfl ?_
  refine g_iload_n 13 dX9_passHour_12 rfl rfl ?_
  refine g_if_eq 23 16 dX9_passHour_13 (by first | assumption | omega) (by decide) rfl (fun h2 => ?_) (fun h2 => ?_)
  · refine g_iconst 24 dX9_passHour_23 (by decide) rfl ?_
    have eP : passA μ = st2 μ 40 48 0 := by unfold passA; rw [some_0 hk1 (by omega)]; unfold pumpM; rw [if_neg (fun z => absurd z.1 (by decide))]
    exact sg κ 0 (by rw [eP]; exact CI_left hI hC) (by rw [eP]; exact (rd_eq rfl rfl).symm) (eqM.rf κ) (fun _ => rfl)
  refine g_aload_n 17 dX9_passHour_16 rfl rfl ?_
  refine p_V 20 0 0 [] [] dX9_passHour_17 cvX9_315 mwX9_pump kd_1 (by decide) rfl (Nat.le_of_ble_eq_true rfl) rfl rfl rfl (c_X9_pump hC hI) ?_
  intro r1 V1 κ1 hp
  obtain ⟨hr1, hv1, m_κ1, x_κ1, C_κ1⟩ := hp
  subst hv1
  subst hr1
  refine ⟨[Iv (pumpM μ true 40 48)], rfl, ?_⟩
  refine g_goto 24 dX9_passHour_20 (by decide) ?_
  have eP : passA μ = pumpM μ true := by unfold passA; rw [some_1 i5 hk0 hk1 hk2 (by omega)]
  exact sg κ1 _ (by rw [eP]; exact C_κ1) (by rw [eP]) m_κ1 x_κ1
set_option maxHeartbeats 4000000 in
set_option maxRecDepth 20000 in
theorem c_X9_hours {B : Bs} {n0 : Nat} {V : Vs} {κ : Ks} {n : Int} (r_n : inR n)  (hInv : Inv κ V) : Ct (XR B n0) mX9_hours 6 0 0 [Rf 1, Iv n] V κ (PC κ (M_hours κ n)) := by
  obtain ⟨hI, hC, hV⟩ := id hInv
  obtain ⟨cA, cB, cC, cD, cE, cF, cG, cS, cL, cH, cN, cT, cW, cK, cZ⟩ := id hC
  obtain ⟨⟨i0, i1, i2, i3, i4, i5, i6, i7, i8, i9⟩, iS, iH, iR, iT, iC, iG, iL, iZ⟩ := id hI
  obtain ⟨⟨cV0, cV1, cV2, cV4⟩, _⟩ := id hV
  obtain ⟨cA0, cA1, cA2⟩ := id cA
  obtain ⟨cB0, cB1, cB2⟩ := id cB
  obtain ⟨⟨⟨⟨z0, z1, z2⟩, z3, z4, z5⟩, z6, z7⟩, z8⟩ := id cZ
  have en0 : κ 2 2 = κ 40 11 := cG.1.2.2.1
  have en1 : κ 3 2 = κ 40 20 := cG.2.1.2.2.1
  have en2 : κ 4 2 = κ 40 31 := cG.2.2.1.2.2.1
  have en3 : κ 5 2 = κ 40 41 := cG.2.2.2.2.2.1
  refine Ct.of (L := [some (Rf 1), some (Iv n), none]) 1 (by decide +kernel) rfl rfl ?_
  have lp : ∀ (m : Nat) (k : Int) (κ2 : Ks), MI (passN κ k.toNat) → 0 ≤ k ∧ k ≤ n → 1 ≤ n ∧ n ≤ 5000 - κ 40 0 → (m : Int) = n - k → passN κ k.toNat 40 0 = κ 40 0 + k → (passN κ k.toNat 40 11 = κ 40 11 ∧ passN κ k.toNat 40 20 = κ 40 20 ∧ passN κ k.toNat 40 31 = κ 40 31 ∧ passN κ k.toNat 40 41 = κ 40 41) → CI κ2 (passN κ k.toNat) → eqM κ κ2 → G (XR B n0) mX9_hours 6 (PC κ (M_hours κ n)) V 0 0 33 [some (Rf 1), some (Iv n), some (Iv k)] [] V κ2 := by
    intro m
    induction m using Nat.strongRecOn with
    | ind m ih =>
      intro k κ2 hI2 hkk hn hm h0 hs C2 hq
      refine g_iload_n 34 dX9_hours_33 rfl rfl ?_
      refine g_iload_n 35 dX9_hours_34 rfl rfl ?_
      refine g_icmp_ge 48 38 dX9_hours_35 (by first | assumption | omega) (by first | assumption | omega) (by decide) rfl (fun h101 => ?_) (fun h101 => ?_)
      · refine g_aload_n 49 dX9_hours_48 rfl rfl ?_
        refine r_getI 52 (κ2 1 12) dX9_hours_49 fgX9_201 kd_1 ly_1_12 rfl (rfl) (fun r102 => ?_)
        refine g_iret dX9_hours_52 rfl ?_
        have ek : k = n := by omega
        subst ek
        unfold M_hours
        rw [if_neg (by omega), if_neg (by omega)]
        exact ⟨congrArg (fun z => some (Iv z)) (by have := C2.1.1; omega), hV.fr hs.1 hs.2.1 hs.2.2.1 hs.2.2.2, hq, C2⟩
      refine g_aload_n 39 dX9_hours_38 rfl rfl ?_
      refine p_V 42 0 0 [] [] dX9_hours_39 cvX9_204 mwX9_passHour kd_1 (by decide) rfl (Nat.le_of_ble_eq_true rfl) rfl rfl rfl (c_X9_passHour C2 hI2 (by omega)) ?_
      intro r1 V1 κ3 hp
      obtain ⟨hr1, hv1, m_κ3, x_κ3, C_κ3⟩ := hp
      subst hv1
      subst hr1
      refine ⟨[], rfl, ?_⟩
      refine g_iinc (L' := [some (Rf 1), some (Iv n), some (Iv (k + 1))]) 45 dX9_hours_42 rfl rfl (by decide) rfl ?_
      refine g_goto 33 dX9_hours_45 (by decide) ?_
      have pm := passM_ok hI2 (by omega)
      have ps := pass_sm hI2
      have es2 : passN κ (k + 1).toNat = passM (passN κ k.toNat) := by rw [show (k + 1).toNat = k.toNat + 1 by omega]; rfl
      exact ih (m - 1) (by omega) (k + 1) κ3 (by rw [es2]; exact pm.1) (by omega) hn (by omega) (by rw [es2, pm.2]; omega) (by rw [es2]; omega) (by rw [es2]; exact C_κ3) (hq.tr m_κ3)
  refine g_iload_n 1 dX9_hours_0 rfl rfl ?_
  refine g_iconst 2 dX9_hours_1 (by decide) rfl ?_
  refine g_icmp_ge 12 5 dX9_hours_2 (by first | assumption | omega) (by decide) (by decide) rfl (fun h1 => ?_) (fun h1 => ?_)
  · refine g_iload_n 13 dX9_hours_12 rfl rfl ?_
    refine g_sipush 16 dX9_hours_13 (by decide) rfl ?_
    refine g_aload_n 17 dX9_hours_16 rfl rfl ?_
    refine r_getI 20 (κ 1 12) dX9_hours_17 fgX9_201 kd_1 ly_1_12 rfl (rfl) (fun r2 => ?_)
    refine g_isub 21 dX9_hours_20 rfl ?_
    refine g_icmp_le 31 24 dX9_hours_21 (by first | assumption | omega) (by first | assumption | omega) (by decide) rfl (fun h3 => ?_) (fun h3 => ?_)
    · refine g_iconst 32 dX9_hours_31 (by decide) rfl ?_
      refine g_istore_n (L' := [some (Rf 1), some (Iv n), some (Iv 0)]) 33 dX9_hours_32 rfl (by decide) rfl ?_
      exact lp n.toNat 0 κ hI (by omega) (by omega) (by omega) (by show κ 40 0 = _; omega) ⟨rfl, rfl, rfl, rfl⟩ hC (eqM.rf κ)
    refine g_aload_n 25 dX9_hours_24 rfl rfl ?_
    refine g_bipush 27 dX9_hours_25 (by decide) rfl ?_
    refine e_V 30 0 0 [Iv (-6)] [] dX9_hours_27 cvX9_74 mwX9_refuse kd_1 (by decide) rfl (Nat.le_of_ble_eq_true rfl) rfl rfl rfl (c_X9_refuse 6 (by decide) (by decide)) ?_
    refine g_iret dX9_hours_30 rfl ?_
    unfold M_hours
    (repeat' split) <;> first | (exfalso; omega) | exact PC_ref hInv (by decide) (by omega) rfl | exact PC_same hInv (by omega)
  refine g_aload_n 6 dX9_hours_5 rfl rfl ?_
  refine g_bipush 8 dX9_hours_6 (by decide) rfl ?_
  refine e_V 11 0 0 [Iv (-4)] [] dX9_hours_8 cvX9_74 mwX9_refuse kd_1 (by decide) rfl (Nat.le_of_ble_eq_true rfl) rfl rfl rfl (c_X9_refuse 4 (by decide) (by decide)) ?_
  refine g_iret dX9_hours_11 rfl ?_
  unfold M_hours
  (repeat' split) <;> first | (exfalso; omega) | exact PC_ref hInv (by decide) (by omega) rfl | exact PC_same hInv (by omega)
