/-! the class: a street served, the engine (printed by wip/whole/gen35.py) -/
set_option maxHeartbeats 4000000 in
set_option maxRecDepth 20000 in
theorem c_X5_takeFrom {B : Bs} {n0 : Nat} {V : Vs} {κ : Ks} {s : Nat} {n : Int} {μ : Ks} (hC : CI κ μ) (hI : MI μ) (hL : HL μ) (h_s : (s : Int) < μ 40 11) (hn : n = μ 40 48) : Ct (XR B n0) mX5_takeFrom 3 0 0 [Rf (100 + s), Iv n, Rf 13] V κ (PH κ (μ 40 48 - serveM μ s 40 48) V (serveM μ s)) := by
  have i5 := hI.1.2.2.2.2.2.1
  have l0 := hL.1
  have l1 := hL.2
  refine Ct.of (L := [some (Rf (100 + s)), some (Iv n), some (Rf 13), none, none]) 2 (by decide +kernel) rfl rfl ?_
  have lp : ∀ (l : List Nat) (v z : Int) (κ2 μ2 : Ks), chn (fun h => κ2 (200 + h) 8) v l → (∀ h ∈ l, (h : Int) < μ2 40 20) → MI μ2 → HL μ2 → CI κ2 μ2 → z = μ2 40 48 → eqM κ κ2 → (∀ h : Nat, κ2 (200 + h) 8 = κ (200 + h) 8) → l.foldl fillM μ2 = serveM μ s → G (XR B n0) mX5_takeFrom 3 (PH κ (μ 40 48 - serveM μ s 40 48) V (serveM μ s)) V 0 0 24 [some (Rf (100 + s)), some (Iv n), some (Rf 13), some (Iv z), some (.inr (dr v))] [] V κ2 := by
    intro l
    induction l with
    | nil =>
      intro v z κ2 μ2 hch hlt hI2 hL2 hC2 hz hm hx hf
      rw [show dr v = none from by rw [show v = 0 from hch]; rfl]
      have hf2 : μ2 = serveM μ s := hf
      refine g_aload 26 dX5_takeFrom_24 rfl rfl ?_
      refine r_ifnull_n 49 dX5_takeFrom_26 (by decide) ?_
      refine g_iload_n 50 dX5_takeFrom_49 rfl rfl ?_
      refine g_iload_n 51 dX5_takeFrom_50 rfl rfl ?_
      refine g_isub 52 dX5_takeFrom_51 rfl ?_
      refine g_iret dX5_takeFrom_52 rfl ?_
      rw [← hf2]
      exact ⟨congrArg (fun z => some (Iv z)) (by omega), rfl, hm, hx, hC2⟩
    | cons k l ih =>
      intro v z κ2 μ2 hch hlt hI2 hL2 hC2 hz hm hx hf
      rw [show dr v = some (200 + k) from by unfold dr; rw [if_neg (by have := hch.1; omega), hch.1]; exact congrArg some (by omega)]
      have lh := hlt k List.mem_cons_self
      have j6 := hI2.1.2.2.2.2.2.2.1
      obtain ⟨f1, f2, f3⟩ := fill_ok hI2 hL2 lh
      have f4 : fillM μ2 k 40 20 = μ2 40 20 := f3.1.2.2.2.2.2.1
      refine g_aload 26 dX5_takeFrom_24 rfl rfl ?_
      refine r_ifnull_s 29 49 dX5_takeFrom_26 (by decide) rfl ?_
      refine g_iload_n 30 dX5_takeFrom_29 rfl rfl ?_
      refine g_aload 32 dX5_takeFrom_30 rfl rfl ?_
      refine g_iload_n 33 dX5_takeFrom_32 rfl rfl ?_
      refine g_aload_n 34 dX5_takeFrom_33 rfl rfl ?_
      refine G.rg (fun hR => ?_)
      refine p_V 37 0 0 [Iv z, Rf 13] [Iv z] dX5_takeFrom_34 cvX5_71 mwX1_takeFrom (kd_H (by omega)) (by decide) rfl (Nat.le_of_ble_eq_true rfl) rfl rfl rfl (c_fill hR hC2 hI2 hL2 lh (by omega)) ?_
      intro r1 V1 κ3 hp
      obtain ⟨hr1, hv1, m_κ3, x_κ3, C_κ3⟩ := hp
      subst hv1
      subst hr1
      refine ⟨[Iv (μ2 40 48 - fillM μ2 k 40 48), Iv z], rfl, ?_⟩
      refine g_isub 38 dX5_takeFrom_37 rfl ?_
      refine g_istore_n (L' := [some (Rf (100 + s)), some (Iv n), some (Rf 13), some (Iv (z - (μ2 40 48 - fillM μ2 k 40 48))), some (Rf (200 + k))]) 39 dX5_takeFrom_38 rfl (by decide) rfl ?_
      refine g_aload 41 dX5_takeFrom_39 rfl rfl ?_
      refine r_getD 44 (dr (κ3 (200 + k) 8)) dX5_takeFrom_41 fgX5_61 (kd_H (by omega)) (ly_H (by omega) 8) rfl (congrArg dr (rfl)) ?_
      refine g_astore (L' := [some (Rf (100 + s)), some (Iv n), some (Rf 13), some (Iv (z - (μ2 40 48 - fillM μ2 k 40 48))), some (.inr (dr (κ3 (200 + k) 8)))]) 46 dX5_takeFrom_44 rfl (by decide) rfl ?_
      refine g_goto 24 dX5_takeFrom_46 (by decide) ?_
      exact ih _ _ κ3 (fillM μ2 k) (chn_congr l (fun a _ => x_κ3 a) (by rw [x_κ3 k]; exact hch.2)) (fun a ha => by rw [f4]; exact hlt a (List.mem_cons_of_mem _ ha)) f1 f2 C_κ3 (by omega) (fun t a b => (m_κ3 t a b).trans (hm t a b)) (fun a => (x_κ3 a).trans (hx a)) hf
  refine g_iload_n 1 dX5_takeFrom_0 rfl rfl ?_
  refine g_aload_n 2 dX5_takeFrom_1 rfl rfl ?_
  refine g_iload_n 3 dX5_takeFrom_2 rfl rfl ?_
  refine g_aload_n 4 dX5_takeFrom_3 rfl rfl ?_
  refine p_V 7 0 0 [Iv n, Rf 13] [Iv n] dX5_takeFrom_4 cvX5_64 mwX5_takeByPlug (kd_S (by omega)) (by decide) rfl (Nat.le_of_ble_eq_true rfl) rfl rfl rfl (c_plug hC hI hL h_s hn) ?_
  intro r1 V1 κ1 hp
  obtain ⟨hr1, hv1, m_κ1, x_κ1, C_κ1⟩ := hp
  subst hv1
  subst hr1
  refine ⟨[Iv (μ 40 48 - plugM μ s 40 48), Iv n], rfl, ?_⟩
  obtain ⟨p1, p2, p3⟩ := plug_ok hI hL s
  have p4 : plugM μ s 40 11 = μ 40 11 := p3.1.2.2.2.2.1
  refine g_isub 8 dX5_takeFrom_7 rfl ?_
  refine g_istore_n (L' := [some (Rf (100 + s)), some (Iv n), some (Rf 13), some (Iv (n - (μ 40 48 - plugM μ s 40 48))), none]) 9 dX5_takeFrom_8 rfl (by decide) rfl ?_
  refine g_iload_n 10 dX5_takeFrom_9 rfl rfl ?_
  refine g_aload_n 11 dX5_takeFrom_10 rfl rfl ?_
  refine g_iload_n 12 dX5_takeFrom_11 rfl rfl ?_
  refine g_aload_n 13 dX5_takeFrom_12 rfl rfl ?_
  refine G.rg (fun hR => ?_)
  refine p_V 16 0 0 [Iv (n - (μ 40 48 - plugM μ s 40 48)), Rf 13] [Iv (n - (μ 40 48 - plugM μ s 40 48))] dX5_takeFrom_13 cvX5_68 mwX5_takeByTun (kd_S (by omega)) (by decide) rfl (Nat.le_of_ble_eq_true rfl) rfl rfl rfl (c_tun hR C_κ1 p1 p2 (by omega) (by omega)) ?_
  intro r1 V1 κ2 hp
  obtain ⟨hr1, hv1, m_κ2, x_κ2, C_κ2⟩ := hp
  subst hv1
  subst hr1
  refine ⟨[Iv (plugM μ s 40 48 - tunM (plugM μ s) s 40 48), Iv (n - (μ 40 48 - plugM μ s 40 48))], rfl, ?_⟩
  obtain ⟨q1, q2, q3⟩ := tun_ok p1 p2 (s := s) (by omega)
  have q4 : tunM (plugM μ s) s 40 11 = plugM μ s 40 11 := q3.1.2.2.2.2.1
  have q5 : hl (tunM (plugM μ s) s) s 10 = hl μ s 10 := hl_sm (p3.tr q3) s 10
  have q6 : 0 ≤ tunM (plugM μ s) s 40 20 := q1.1.2.2.2.2.2.2.1.1
  refine g_isub 17 dX5_takeFrom_16 rfl ?_
  refine g_istore_n (L' := [some (Rf (100 + s)), some (Iv n), some (Rf 13), some (Iv ((n - (μ 40 48 - plugM μ s 40 48)) - (plugM μ s 40 48 - tunM (plugM μ s) s 40 48))), none]) 18 dX5_takeFrom_17 rfl (by decide) rfl ?_
  refine g_aload_n 19 dX5_takeFrom_18 rfl rfl ?_
  refine r_getD 22 (dr (κ2 (100 + s) 10)) dX5_takeFrom_19 fgX5_52 (kd_S (by omega)) (ly_S (by omega) 10) rfl (congrArg dr (rfl)) ?_
  refine g_astore (L' := [some (Rf (100 + s)), some (Iv n), some (Rf 13), some (Iv ((n - (μ 40 48 - plugM μ s 40 48)) - (plugM μ s 40 48 - tunM (plugM μ s) s 40 48))), some (.inr (dr (κ2 (100 + s) 10)))]) 24 dX5_takeFrom_22 rfl (by decide) rfl ?_
  exact lp _ _ _ κ2 (tunM (plugM μ s) s) (C_κ2.2.2.2.2.2.2.2.2.2.2.1 s (by omega)) (fun k hk => hl_lt q6 hk) q1 q2 C_κ2 (by omega) (fun t a b => (m_κ2 t a b).trans (m_κ1 t a b)) (fun a => (x_κ2 a).trans (x_κ1 a)) (by rw [q5]; rfl)
set_option maxHeartbeats 4000000 in
set_option maxRecDepth 20000 in
theorem c_X9_pump {B : Bs} {n0 : Nat} {V : Vs} {κ : Ks} {μ : Ks} (hC : CI κ μ) (hI : MI μ) : Ct (XR B n0) mX9_pump 1 0 0 [Rf 1] V κ (PH κ (pumpM μ true 40 48) V (pumpM μ true)) := by
  obtain ⟨cA, cB, cC, cD, cE, cF, cG, cS, cL, cH, cN, cT, cW, cK, cZ⟩ := id hC
  obtain ⟨⟨i0, i1, i2, i3, i4, i5, i6, i7, i8, i9⟩, iS, iH, iR, iT, iC, iG, iL, iZ⟩ := id hI
  obtain ⟨cA0, cA1, cA2⟩ := id cA
  obtain ⟨e0, e1, e2, e3, e4, e5⟩ := id cE
  have en0 : κ 2 2 = μ 40 11 := cG.1.2.2.1
  have en1 : κ 3 2 = μ 40 20 := cG.2.1.2.2.1
  obtain ⟨cB0, cB1, cB2⟩ := id cB
  refine Ct.of (L := [some (Rf 1)]) 0 (by decide +kernel) rfl rfl ?_
  refine g_aload_n 1 dX9_pump_0 rfl rfl ?_
  refine r_getI 4 (κ 1 13) dX9_pump_1 fgX9_101 kd_1 ly_1_13 rfl (rfl) (fun r1 => ?_)
  refine g_aload_n 5 dX9_pump_4 rfl rfl ?_
  refine g_getC 8 dX9_pump_5 fgX9_35 kd_1 ly_1_6 rfl ?_
  refine g_iconst 9 dX9_pump_8 (by decide) rfl ?_
  refine r_iald 10 1 (κ 8 1) dX9_pump_9 kd_8 (by decide) (by omega) (rfl) rfl (rfl) (fun r2 => ?_)
  refine g_icmp_ge 15 13 dX9_pump_10 (by first | assumption | omega) (by first | assumption | omega) (by decide) rfl (fun h3 => ?_) (fun h3 => ?_)
  · refine g_aload_n 16 dX9_pump_15 rfl rfl ?_
    refine g_dup 17 dX9_pump_16 rfl ?_
    refine r_getI 20 (κ 1 13) dX9_pump_17 fgX9_101 kd_1 ly_1_13 rfl (rfl) (fun r4 => ?_)
    refine g_aload_n 21 dX9_pump_20 rfl rfl ?_
    refine g_getC 24 dX9_pump_21 fgX9_35 kd_1 ly_1_6 rfl ?_
    refine g_iconst 25 dX9_pump_24 (by decide) rfl ?_
    refine r_iald 26 1 (κ 8 1) dX9_pump_25 kd_8 (by decide) (by omega) (rfl) rfl (rfl) (fun r5 => ?_)
    refine g_isub 27 dX9_pump_26 rfl ?_
    refine g_putI 30 dX9_pump_27 fpX9_101 (fun h => (nomatch h)) kd_1 ly_1_13 (by omega) rfl ?_
    refine g_aload_n 31 dX9_pump_30 rfl rfl ?_
    refine g_getC 34 dX9_pump_31 fgX9_51 kd_1 ly_1_9 rfl ?_
    refine g_dup 35 dX9_pump_34 rfl ?_
    refine r_getI 38 (κ 13 5) dX9_pump_35 fgX9_308 kd_13 ly_13_5 rfl (rd_t (by decide) (rfl)) (fun r6 => ?_)
    refine g_iconst 39 dX9_pump_38 (by decide) rfl ?_
    refine g_iadd 40 dX9_pump_39 rfl ?_
    refine r_putIw 43 dX9_pump_40 fpX9_308 (fun h => (nomatch h)) kd_13 ly_13_5 rfl ?_
    refine g_aload_n 44 dX9_pump_43 rfl rfl ?_
    refine g_getC 47 dX9_pump_44 fgX9_35 kd_1 ly_1_6 rfl ?_
    refine g_iconst 48 dX9_pump_47 (by decide) rfl ?_
    refine r_iald 49 0 (κ 8 0) dX9_pump_48 kd_8 (by decide) (by omega) (rfl) rfl (rd_t (by decide) (rd_t (by decide) (rfl))) (fun r7 => ?_)
    refine g_iret dX9_pump_49 rfl ?_
    have ep : pumpM μ true = st2 (st2 (st2 (st2 μ 40 48 0) 40 4 (μ 40 4 - μ 40 2)) 40 48 (μ 40 1)) 40 9 (bm (μ 40 9 + 1)) := by unfold pumpM; rw [if_pos ⟨rfl, by omega⟩]
    rw [ep, show κ 1 13 - κ 8 1 = μ 40 4 - μ 40 2 by omega, show bm (κ 13 5 + 1) = bm (μ 40 9 + 1) from congrArg bm (by omega)]
    refine ⟨congrArg (fun z => some (Iv z)) ?_, rfl, ((eqM.rf κ).st (by omega)).st (by omega), fun h => ?_, CI_pump hI hC⟩
    · rw [rd_ne (by omega), rd_eq rfl rfl]
      omega
    · rw [rd_ne (by omega), rd_ne (by omega)]
  refine g_iconst 14 dX9_pump_13 (by decide) rfl ?_
  refine g_iret dX9_pump_14 rfl ?_
  have ep : pumpM μ true = st2 μ 40 48 0 := by unfold pumpM; rw [if_neg (by intro z; have := z.2; omega)]
  rw [ep]
  exact ⟨congrArg (fun z => some (Iv z)) (rd_eq rfl rfl).symm, rfl, eqM.rf κ, fun _ => rfl, CI_left hI hC⟩
