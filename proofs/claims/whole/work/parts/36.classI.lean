/-! the class: leaks, service, drinking (printed by wip/whole/gen36.py) -/
set_option maxHeartbeats 4000000 in
set_option maxRecDepth 20000 in
theorem c_X9_serve {B : Bs} {n0 : Nat} {V : Vs} {κ : Ks} {o n x : Int} {μ : Ks} (hC : CI κ μ) (hI : MI μ) (hL : HL μ) (hn : n = μ 40 48) (h_o : 0 ≤ o ∧ o < 1024) (ho : ∀ s : Nat, (s : Int) < μ 40 11 → bitI o s = if openB μ s x = true then 1 else 0) : Ct (XR B n0) mX9_serve 4 0 0 [Rf 1, Iv o, Iv n] V κ (PH κ (srvM μ x (μ 40 11).toNat 40 48) V (srvM μ x (μ 40 11).toNat)) := by
  have i5 := hI.1.2.2.2.2.2.1
  have i6 := hI.1.2.2.2.2.2.2.1
  have l0 := hL.1
  have l1 := hL.2
  refine Ct.of (L := [some (Rf 1), some (Iv o), some (Iv n), none, none]) 2 (by decide +kernel) rfl rfl ?_
  have lp : ∀ (m : Nat) (i z : Int) (κ2 : Ks), 0 ≤ i ∧ i ≤ μ 40 11 → (m : Int) = μ 40 11 - i → z = srvM μ x i.toNat 40 48 → CI κ2 (srvM μ x i.toNat) → eqM κ κ2 → (∀ h : Nat, κ2 (200 + h) 8 = κ (200 + h) 8) → G (XR B n0) mX9_serve 4 (PH κ (srvM μ x (μ 40 11).toNat 40 48) V (srvM μ x (μ 40 11).toNat)) V 0 0 5 [some (Rf 1), some (Iv o), some (Iv n), some (Iv z), some (Iv i)] [] V κ2 := by
    intro m
    induction m using Nat.strongRecOn with
    | ind m ih =>
      intro i z κ2 hi hm hz C2 hq hx
      obtain ⟨s1, s2, s3⟩ := srvM_ok hI hL x i.toNat (by omega)
      have s4 : srvM μ x i.toNat 40 11 = μ 40 11 := s3.1.2.2.2.2.1
      have cG := C2.2.2.2.2.2.2.1
      have en : κ2 2 2 = srvM μ x i.toNat 40 11 := cG.1.2.2.1
      have t0 := s2.1
      have t1 := s2.2
      refine g_iload 7 dX9_serve_5 rfl rfl ?_
      refine g_aload_n 8 dX9_serve_7 rfl rfl ?_
      refine g_getC 11 dX9_serve_8 fgX9_10 kd_1 ly_1_0 rfl ?_
      refine e_V 14 0 0 [] [Iv i] dX9_serve_11 cvX9_78 mwJx4a65c_size_8abf5 kd_2 (by decide) rfl (Nat.le_of_ble_eq_true rfl) rfl rfl rfl (c_size_0) ?_
      refine g_icmp_ge 55 17 dX9_serve_14 (by first | assumption | omega) (by first | assumption | omega) (by decide) rfl (fun h101 => ?_) (fun h101 => ?_)
      · refine g_iload_n 56 dX9_serve_55 rfl rfl ?_
        refine g_iret dX9_serve_56 rfl ?_
        have ei : i = μ 40 11 := by omega
        subst ei
        exact ⟨congrArg (fun q => some (Iv q)) hz, rfl, hq, hx, C2⟩
      refine G.rg (fun hR => ?_)
      have b := ho i.toNat (by omega)
      have eo : openB (srvM μ x i.toNat) i.toNat x = openB μ i.toNat x := openB_sm s3 _ _
      refine g_iload_n 18 dX9_serve_17 rfl rfl ?_
      refine g_iload 20 dX9_serve_18 rfl rfl ?_
      refine o_S 23 0 0 [Iv o, Iv i] [] dX9_serve_20 csX9_187 mwX9_hasStreet (by decide) rfl (Nat.le_of_ble_eq_true rfl) rfl rfl rfl (c_X9_hasStreet (by omega) (by omega)) (fun h102 => ?_) (fun h102 => ?_)
      · refine g_if_eq 49 26 dX9_serve_23 (by decide) (by decide) rfl (fun z => absurd z (by decide)) (fun _ => ?_)
        refine g_iload_n 27 dX9_serve_26 rfl rfl ?_
        refine g_aload_n 28 dX9_serve_27 rfl rfl ?_
        refine g_getC 31 dX9_serve_28 fgX9_10 kd_1 ly_1_0 rfl ?_
        refine g_iload 33 dX9_serve_31 rfl rfl ?_
        refine e_V 36 0 0 [Iv i] [Iv z] dX9_serve_33 cvX9_190 mwJx4a65c_get_915e3 kd_2 (by decide) rfl (Nat.le_of_ble_eq_true rfl) rfl rfl rfl (c_get_0 cG.1 (by omega) (by omega)) ?_
        refine g_cast 39 dX9_serve_36 clX9_82 (ci := 6) rfl (by decide) (kd_S (by omega)) rfl ?_
        refine g_iload_n 40 dX9_serve_39 rfl rfl ?_
        refine g_aload_n 41 dX9_serve_40 rfl rfl ?_
        refine g_getC 44 dX9_serve_41 fgX9_51 kd_1 ly_1_9 rfl ?_
        refine p_V 47 0 0 [Iv z, Rf 13] [Iv z] dX9_serve_44 cvX9_332 mwX5_takeFrom (kd_S (by omega)) (by decide) rfl (Nat.le_of_ble_eq_true rfl) rfl rfl rfl (c_X5_takeFrom C2 s1 s2 (by omega) hz) ?_
        intro r1 V1 κ3 hp
        obtain ⟨hr1, hv1, m_κ3, x_κ3, C_κ3⟩ := hp
        subst hv1
        subst hr1
        refine ⟨[Iv (srvM μ x i.toNat 40 48 - serveM (srvM μ x i.toNat) i.toNat 40 48), Iv z], rfl, ?_⟩
        refine g_isub 48 dX9_serve_47 rfl ?_
        refine g_istore_n (L' := [some (Rf 1), some (Iv o), some (Iv n), some (Iv (z - (srvM μ x i.toNat 40 48 - serveM (srvM μ x i.toNat) i.toNat 40 48))), some (Iv i)]) 49 dX9_serve_48 rfl (by decide) rfl ?_
        refine g_iinc (L' := [some (Rf 1), some (Iv o), some (Iv n), some (Iv (z - (srvM μ x i.toNat 40 48 - serveM (srvM μ x i.toNat) i.toNat 40 48))), some (Iv (i + 1))]) 52 dX9_serve_49 rfl rfl (by decide) rfl ?_
        refine g_goto 5 dX9_serve_52 (by decide) ?_
        have eb : openB (srvM μ x i.toNat) i.toNat x = true := by rw [eo]; by_cases q : openB μ i.toNat x = true; (exact q); (rw [if_neg q] at b; omega)
        have es2 : srvM μ x (i + 1).toNat = serveM (srvM μ x i.toNat) i.toNat := by rw [show (i + 1).toNat = i.toNat + 1 by omega]; exact if_pos eb
        exact ih (m - 1) (by omega) (i + 1) _ κ3 (by omega) (by omega) (by rw [es2]; omega) (by rw [es2]; exact C_κ3) (fun t a b => (m_κ3 t a b).trans (hq t a b)) (fun a => (x_κ3 a).trans (hx a))
      refine g_if_eq 49 26 dX9_serve_23 (by decide) (by decide) rfl (fun _ => ?_) (fun z => absurd z (by decide))
      refine g_iinc (L' := [some (Rf 1), some (Iv o), some (Iv n), some (Iv z), some (Iv (i + 1))]) 52 dX9_serve_49 rfl rfl (by decide) rfl ?_
      refine g_goto 5 dX9_serve_52 (by decide) ?_
      have eb : ¬ openB (srvM μ x i.toNat) i.toNat x = true := by rw [eo]; intro q; rw [if_pos q] at b; omega
      have es2 : srvM μ x (i + 1).toNat = srvM μ x i.toNat := by rw [show (i + 1).toNat = i.toNat + 1 by omega]; exact if_neg eb
      exact ih (m - 1) (by omega) (i + 1) _ κ2 (by omega) (by omega) (by rw [es2]; exact hz) (by rw [es2]; exact C2) hq hx
  refine g_iload_n 1 dX9_serve_0 rfl rfl ?_
  refine g_istore_n (L' := [some (Rf 1), some (Iv o), some (Iv n), some (Iv n), none]) 2 dX9_serve_1 rfl (by decide) rfl ?_
  refine g_iconst 3 dX9_serve_2 (by decide) rfl ?_
  refine g_istore (L' := [some (Rf 1), some (Iv o), some (Iv n), some (Iv n), some (Iv 0)]) 5 dX9_serve_3 rfl (by decide) rfl ?_
  exact lp (μ 40 11).toNat 0 n κ (by omega) (by omega) hn hC (eqM.rf κ) (fun _ => rfl)
set_option maxHeartbeats 4000000 in
set_option maxRecDepth 20000 in
theorem c_X9_leak {B : Bs} {n0 : Nat} {V : Vs} {κ : Ks} {o n x : Int} {μ : Ks} (hC : CI κ μ) (hI : MI μ) (hL : HL μ) (hn : n = μ 40 48) (h_o : 0 ≤ o ∧ o < 1024) (ho : ∀ s : Nat, (s : Int) < μ 40 11 → bitI o s = if openB μ s x = true then 1 else 0) : Ct (XR B n0) mX9_leak 4 0 0 [Rf 1, Iv o, Iv n] V κ (PH κ (leakM μ x (μ 40 11).toNat 40 48) V (leakM μ x (μ 40 11).toNat)) := by
  have i5 := hI.1.2.2.2.2.2.1
  have i6 := hI.1.2.2.2.2.2.2.1
  have l0 := hL.1
  have l1 := hL.2
  refine Ct.of (L := [some (Rf 1), some (Iv o), some (Iv n), none, none, none]) 3 (by decide +kernel) rfl rfl ?_
  have lp : ∀ (m : Nat) (i z : Int) (κ2 : Ks) (u : Option Av), 0 ≤ i ∧ i ≤ μ 40 11 → (m : Int) = μ 40 11 - i → z = leakM μ x i.toNat 40 48 → CI κ2 (leakM μ x i.toNat) → eqM κ κ2 → (∀ h : Nat, κ2 (200 + h) 8 = κ (200 + h) 8) → G (XR B n0) mX9_leak 4 (PH κ (leakM μ x (μ 40 11).toNat 40 48) V (leakM μ x (μ 40 11).toNat)) V 0 0 5 [some (Rf 1), some (Iv o), some (Iv n), some (Iv z), some (Iv i), u] [] V κ2 := by
    intro m
    induction m using Nat.strongRecOn with
    | ind m ih =>
      intro i z κ2 u hi hm hz C2 hq hx
      obtain ⟨s1, s2, s3⟩ := leakM_ok hI hL x i.toNat (by omega)
      have s4 : leakM μ x i.toNat 40 11 = μ 40 11 := s3.1.2.2.2.2.1
      have cG := C2.2.2.2.2.2.2.1
      have en : κ2 2 2 = leakM μ x i.toNat 40 11 := cG.1.2.2.1
      have t0 := s2.1
      have t1 := s2.2
      refine g_iload 7 dX9_leak_5 rfl rfl ?_
      refine g_aload_n 8 dX9_leak_7 rfl rfl ?_
      refine g_getC 11 dX9_leak_8 fgX9_10 kd_1 ly_1_0 rfl ?_
      refine e_V 14 0 0 [] [Iv i] dX9_leak_11 cvX9_78 mwJx4a65c_size_8abf5 kd_2 (by decide) rfl (Nat.le_of_ble_eq_true rfl) rfl rfl rfl (c_size_0) ?_
      refine g_icmp_ge 79 17 dX9_leak_14 (by first | assumption | omega) (by first | assumption | omega) (by decide) rfl (fun h101 => ?_) (fun h101 => ?_)
      · refine g_iload_n 80 dX9_leak_79 rfl rfl ?_
        refine g_iret dX9_leak_80 rfl ?_
        have ei : i = μ 40 11 := by omega
        subst ei
        exact ⟨congrArg (fun q => some (Iv q)) hz, rfl, hq, hx, C2⟩
      refine G.rg (fun hR => ?_)
      have b := ho i.toNat (by omega)
      have eo : openB (leakM μ x i.toNat) i.toNat x = openB μ i.toNat x := openB_sm s3 _ _
      have qE : κ2 13 0 = leakM μ x i.toNat 40 5 := C2.2.2.2.2.1.1
      have ea : κ2 1 12 = leakM μ x i.toNat 40 0 := C2.1.1
      have eb0 := s1.1.1
      have qS := C2.2.2.2.2.2.2.2.1 i.toNat (by omega)
      have qI := s1.2.1 i.toNat (by omega)
      have dR := drip_R s1 (s := i.toNat) (by omega)
      refine g_iload_n 18 dX9_leak_17 rfl rfl ?_
      refine g_iload 20 dX9_leak_18 rfl rfl ?_
      refine o_S 23 0 0 [Iv o, Iv i] [] dX9_leak_20 csX9_187 mwX9_hasStreet (by decide) rfl (Nat.le_of_ble_eq_true rfl) rfl rfl rfl (c_X9_hasStreet (by omega) (by omega)) (fun h102 => ?_) (fun h102 => ?_)
      · refine g_if_ne 29 26 dX9_leak_23 (by decide) (by decide) rfl (fun _ => ?_) (fun z => absurd z (by decide))
        refine g_iload_n 30 dX9_leak_29 rfl rfl ?_
        refine g_aload_n 31 dX9_leak_30 rfl rfl ?_
        refine g_getC 34 dX9_leak_31 fgX9_10 kd_1 ly_1_0 rfl ?_
        refine g_iload 36 dX9_leak_34 rfl rfl ?_
        refine e_V 39 0 0 [Iv i] [Iv z] dX9_leak_36 cvX9_190 mwJx4a65c_get_915e3 kd_2 (by decide) rfl (Nat.le_of_ble_eq_true rfl) rfl rfl rfl (c_get_0 cG.1 (by omega) (by omega)) ?_
        refine g_cast 42 dX9_leak_39 clX9_82 (ci := 6) rfl (by decide) (kd_S (by omega)) rfl ?_
        refine g_aload_n 43 dX9_leak_42 rfl rfl ?_
        refine e_V 46 0 0 [] [Rf (100 + (i).toNat), Iv z] dX9_leak_43 cvX9_84 mwX9_weekNow kd_1 (by decide) rfl (Nat.le_of_ble_eq_true rfl) rfl rfl rfl (c_X9_weekNow (by omega)) ?_
        refine e_V 49 0 0 [Iv ((κ2 1 12) / 168)] [Iv z] dX9_leak_46 cvX9_287 mwX5_dripIn (kd_S (by omega)) (by decide) rfl (Nat.le_of_ble_eq_true rfl) rfl rfl rfl (c_X5_dripIn (by omega) (by omega) (by omega)) ?_
        refine G.eqi (show (if κ2 (100 + (i).toNat) 3 ≠ 0 then 0 else κ2 (100 + (i).toNat) 1 * (1 + (((κ2 1 12) / 168) - κ2 (100 + (i).toNat) 2) / 4) / 10) = dripM (leakM μ x i.toNat) i.toNat from by unfold dripM; rw [qS.2.2.2.1, qS.2.1, qS.2.2.1, ea]) ?_
        refine e_S 52 0 0 [Iv z, Iv (dripM (leakM μ x i.toNat) i.toNat)] [] dX9_leak_49 csX9_327 mwJ9_min_7cf53 (by decide) rfl (Nat.le_of_ble_eq_true rfl) rfl rfl rfl (c_J9_min_7cf53 (by omega) (by omega)) ?_
        refine g_istore (L' := [some (Rf 1), some (Iv o), some (Iv n), some (Iv z), some (Iv i), some (Iv (min z (dripM (leakM μ x i.toNat) i.toNat)))]) 54 dX9_leak_52 rfl (by decide) rfl ?_
        refine g_aload_n 55 dX9_leak_54 rfl rfl ?_
        refine g_getC 58 dX9_leak_55 fgX9_51 kd_1 ly_1_9 rfl ?_
        refine g_dup 59 dX9_leak_58 rfl ?_
        refine r_getI 62 (κ2 13 0) dX9_leak_59 fgX9_296 kd_13 ly_13_0 rfl (rfl) (fun r103 => ?_)
        refine g_iload 64 dX9_leak_62 rfl rfl ?_
        refine g_iadd 65 dX9_leak_64 rfl ?_
        refine r_putIw 68 dX9_leak_65 fpX9_296 (fun h => (nomatch h)) kd_13 ly_13_0 rfl ?_
        refine g_iload_n 69 dX9_leak_68 rfl rfl ?_
        refine g_iload 71 dX9_leak_69 rfl rfl ?_
        refine g_isub 72 dX9_leak_71 rfl ?_
        refine g_istore_n (L' := [some (Rf 1), some (Iv o), some (Iv n), some (Iv (z - (min z (dripM (leakM μ x i.toNat) i.toNat)))), some (Iv i), some (Iv (min z (dripM (leakM μ x i.toNat) i.toNat)))]) 73 dX9_leak_72 rfl (by decide) rfl ?_
        refine g_iinc (L' := [some (Rf 1), some (Iv o), some (Iv n), some (Iv (z - (min z (dripM (leakM μ x i.toNat) i.toNat)))), some (Iv (i + 1)), some (Iv (min z (dripM (leakM μ x i.toNat) i.toNat)))]) 76 dX9_leak_73 rfl rfl (by decide) rfl ?_
        refine g_goto 5 dX9_leak_76 (by decide) ?_
        have eb : openB (leakM μ x i.toNat) i.toNat x = true := by rw [eo]; by_cases q : openB μ i.toNat x = true; (exact q); (rw [if_neg q] at b; omega)
        have es2 : leakM μ x (i + 1).toNat = st2 (st2 (leakM μ x i.toNat) 40 48 (leakM μ x i.toNat 40 48 - min (dripM (leakM μ x i.toNat) i.toNat) (leakM μ x i.toNat 40 48))) 40 5 (bm (leakM μ x i.toNat 40 5 + min (dripM (leakM μ x i.toNat) i.toNat) (leakM μ x i.toNat 40 48))) := by rw [show (i + 1).toNat = i.toNat + 1 by omega]; show leakS _ _ _ = _; unfold leakS; rw [if_pos eb]; rfl
        refine ih (m - 1) (by omega) (i + 1) _ _ _ (by omega) (by omega) ?_ ?_ (hq.st (by omega)) (fun a => (rd_ne (by omega)).trans (hx a))
        · rw [es2, rd_ne (by omega), rd_eq rfl rfl]
          omega
        · have ew : bm (κ2 13 0 + min z (dripM (leakM μ x i.toNat) i.toNat)) = bm (leakM μ x i.toNat 40 5 + min (dripM (leakM μ x i.toNat) i.toNat) (leakM μ x i.toNat 40 48)) := congrArg bm (by omega)
          rw [es2, ew]
          exact CI_leak s1 C2
      refine g_if_ne 29 26 dX9_leak_23 (by decide) (by decide) rfl (fun z => absurd z (by decide)) (fun _ => ?_)
      refine g_goto 73 dX9_leak_26 (by decide) ?_
      refine g_iinc (L' := [some (Rf 1), some (Iv o), some (Iv n), some (Iv z), some (Iv (i + 1)), u]) 76 dX9_leak_73 rfl rfl (by decide) rfl ?_
      refine g_goto 5 dX9_leak_76 (by decide) ?_
      have eb : ¬ openB (leakM μ x i.toNat) i.toNat x = true := by rw [eo]; intro q; rw [if_pos q] at b; omega
      have r5 : inR (leakM μ x i.toNat 40 5) := by rw [← qE]; exact hR 13 0
      have es2 : leakM μ x (i + 1).toNat = leakM μ x i.toNat := by rw [show (i + 1).toNat = i.toNat + 1 by omega]; show leakS _ _ _ = _; unfold leakS; rw [if_neg eb]; exact st2_id (by rw [Int.add_zero, bm_id r5])
      exact ih (m - 1) (by omega) (i + 1) _ κ2 _ (by omega) (by omega) (by rw [es2]; exact hz) (by rw [es2]; exact C2) hq hx
  refine g_iload_n 1 dX9_leak_0 rfl rfl ?_
  refine g_istore_n (L' := [some (Rf 1), some (Iv o), some (Iv n), some (Iv n), none, none]) 2 dX9_leak_1 rfl (by decide) rfl ?_
  refine g_iconst 3 dX9_leak_2 (by decide) rfl ?_
  refine g_istore (L' := [some (Rf 1), some (Iv o), some (Iv n), some (Iv n), some (Iv 0), none]) 5 dX9_leak_3 rfl (by decide) rfl ?_
  exact lp (μ 40 11).toNat 0 n κ none (by omega) (by omega) hn hC (eqM.rf κ) (fun _ => rfl)
theorem c_use {B : Bs} {n0 : Nat} {V : Vs} {κ μ : Ks} {k : Nat} {n : Int} (hR : ∀ t j, inR (κ t j)) (hC : CI κ μ) (hI : MI μ) (h_k : (k : Int) < μ 40 20) (hn : n = useM μ k) : Ct (XR B n0) mX1_use 1 0 0 [Rf (200 + k), Iv n] V κ (PHv κ V (drnkS μ k)) := by
  have i6 := hI.1.2.2.2.2.2.2.1
  have qH := hC.2.2.2.2.2.2.2.2.2.1 k h_k
  have qI := hI.2.2.1 k h_k
  have uR := use_R hI h_k
  have r7 := hR (200 + k) 7
  refine Ct.mono (c_X1_use (by omega) (by omega) (by omega)) (fun r V' κ' hp => ?_) ⟨rfl, rfl, rfl⟩
  obtain ⟨hr, hv, hk⟩ := hp
  subst hv
  unfold drnkS
  by_cases e : μ 68 k < useM μ k
  · rw [if_pos (by omega)] at hk
    rw [if_pos e, if_pos e]
    refine ⟨hr, rfl, ?_, fun h => ?_, ?_⟩
    · rw [hk]
      exact ((eqM.rf κ).st (by omega)).st (by omega)
    · rw [hk, rd_ne (by omega), rd_ne (by omega)]
    · rw [hk, show bm (κ (200 + k) 7 + 1) = bm (μ 69 k + 1) from congrArg bm (by omega)]
      exact CI_drinkB hI hC h_k
  · rw [if_neg (by omega)] at hk
    rw [if_neg e, if_neg e, st2_id (κ := μ) (t := 69) (j := k) (by rw [Int.add_zero, ← qH.2.2.2.2.2.2.2, bm_id r7])]
    refine ⟨hr, rfl, ?_, fun h => ?_, ?_⟩
    · rw [hk]
      exact (eqM.rf κ).st (by omega)
    · rw [hk]
      exact rd_ne (by omega)
    · rw [hk, show κ (200 + k) 6 - n = μ 68 k - useM μ k by omega]
      exact CI_drinkA hI hC h_k
set_option maxHeartbeats 4000000 in
set_option maxRecDepth 20000 in
theorem c_X9_drink {B : Bs} {n0 : Nat} {V : Vs} {κ : Ks} {μ : Ks} (hC : CI κ μ) (hI : MI μ) : Ct (XR B n0) mX9_drink 4 0 0 [Rf 1] V κ (PHv κ V (drnkM μ (μ 40 20).toNat)) := by
  have i5 := hI.1.2.2.2.2.2.1
  have i6 := hI.1.2.2.2.2.2.2.1
  refine Ct.of (L := [some (Rf 1), none, none]) 2 (by decide +kernel) rfl rfl ?_
  have lp : ∀ (m : Nat) (i : Int) (κ2 : Ks) (u : Option Av), 0 ≤ i ∧ i ≤ μ 40 20 → (m : Int) = μ 40 20 - i → CI κ2 (drnkM μ i.toNat) → eqM κ κ2 → (∀ h : Nat, κ2 (200 + h) 8 = κ (200 + h) 8) → G (XR B n0) mX9_drink 4 (PHv κ V (drnkM μ (μ 40 20).toNat)) V 0 0 2 [some (Rf 1), some (Iv i), u] [] V κ2 := by
    intro m
    induction m using Nat.strongRecOn with
    | ind m ih =>
      intro i κ2 u hi hm C2 hq hx
      obtain ⟨s1, s3⟩ := drnkM_ok hI i.toNat (by omega)
      have s4 : drnkM μ i.toNat 40 20 = μ 40 20 := s3.1.2.2.2.2.2.1
      have cG := C2.2.2.2.2.2.2.1
      have en : κ2 3 2 = drnkM μ i.toNat 40 20 := cG.2.1.2.2.1
      refine g_iload_n 3 dX9_drink_2 rfl rfl ?_
      refine g_aload_n 4 dX9_drink_3 rfl rfl ?_
      refine g_getC 7 dX9_drink_4 fgX9_16 kd_1 ly_1_1 rfl ?_
      refine e_V 10 0 0 [] [Iv i] dX9_drink_7 cvX9_78 mwJx4a65c_size_8abf5 kd_3 (by decide) rfl (Nat.le_of_ble_eq_true rfl) rfl rfl rfl (c_size_1) ?_
      refine g_icmp_ge 40 13 dX9_drink_10 (by first | assumption | omega) (by first | assumption | omega) (by decide) rfl (fun h101 => ?_) (fun h101 => ?_)
      · refine g_vret dX9_drink_40 rfl ?_
        have ei : i = μ 40 20 := by omega
        subst ei
        exact ⟨rfl, rfl, hq, hx, C2⟩
      refine g_aload_n 14 dX9_drink_13 rfl rfl ?_
      refine g_getC 17 dX9_drink_14 fgX9_16 kd_1 ly_1_1 rfl ?_
      refine g_iload_n 18 dX9_drink_17 rfl rfl ?_
      refine e_V 21 0 0 [Iv i] [] dX9_drink_18 cvX9_190 mwJx4a65c_get_915e3 kd_3 (by decide) rfl (Nat.le_of_ble_eq_true rfl) rfl rfl rfl (c_get_1 cG.2.1 (by omega) (by omega)) ?_
      refine g_cast 24 dX9_drink_21 clX9_109 (ci := 2) rfl (by decide) (kd_H (by omega)) rfl ?_
      refine g_astore_n (L' := [some (Rf 1), some (Iv i), some (Rf (200 + (i).toNat))]) 25 dX9_drink_24 rfl (by decide) rfl ?_
      refine G.rg (fun hR => ?_)
      have qH := C2.2.2.2.2.2.2.2.2.2.1 i.toNat (by omega)
      have qJ := s1.2.2.1 i.toNat (by omega)
      have eb0 := s1.1.1
      refine g_aload_n 26 dX9_drink_25 rfl rfl ?_
      refine g_aload_n 27 dX9_drink_26 rfl rfl ?_
      refine g_aload_n 28 dX9_drink_27 rfl rfl ?_
      refine e_V 31 0 0 [Rf (200 + (i).toNat)] [Rf (200 + (i).toNat)] dX9_drink_28 cvX9_281 mwX9_useNow kd_1 (by decide) rfl (Nat.le_of_ble_eq_true rfl) rfl rfl rfl (c_X9_useNow (μ := drnkM μ i.toNat) (by omega) ⟨qH.2.2.2.1, qH.2.2.2.2.2.1⟩ C2.2.2.2.2.2.1 s1.2.2.2.1 (by omega) C2.1.1 (by omega)) ?_
      refine p_V 34 0 0 [Iv (useM (drnkM μ i.toNat) i.toNat)] [] dX9_drink_31 cvX9_336 mwX1_use (kd_H (by omega)) (by decide) rfl (Nat.le_of_ble_eq_true rfl) rfl rfl rfl (c_use hR C2 s1 (by omega) rfl) ?_
      intro r1 V1 κ3 hp
      obtain ⟨hr1, hv1, m_κ3, x_κ3, C_κ3⟩ := hp
      subst hv1
      subst hr1
      refine ⟨[], rfl, ?_⟩
      refine g_iinc (L' := [some (Rf 1), some (Iv (i + 1)), some (Rf (200 + (i).toNat))]) 37 dX9_drink_34 rfl rfl (by decide) rfl ?_
      refine g_goto 2 dX9_drink_37 (by decide) ?_
      have es2 : drnkM μ (i + 1).toNat = drnkS (drnkM μ i.toNat) i.toNat := by rw [show (i + 1).toNat = i.toNat + 1 by omega]; rfl
      exact ih (m - 1) (by omega) (i + 1) κ3 _ (by omega) (by omega) (by rw [es2]; exact C_κ3) (fun t a b => (m_κ3 t a b).trans (hq t a b)) (fun a => (x_κ3 a).trans (hx a))
  refine g_iconst 1 dX9_drink_0 (by decide) rfl ?_
  refine g_istore_n (L' := [some (Rf 1), some (Iv 0), none]) 2 dX9_drink_1 rfl (by decide) rfl ?_
  exact lp (μ 40 20).toNat 0 κ none (by omega) (by omega) hC (eqM.rf κ) (fun _ => rfl)
