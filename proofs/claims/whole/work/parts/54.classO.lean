/-! the class: street, law (printed by wip/whole/gen54.py) -/
theorem st2_if {κ : Ks} {t n j : Nat} {v : Int} : st2 κ t n v t j = if j = n then v else κ t j := by
  by_cases e : j = n
  · rw [if_pos e, rd_eq rfl e]
  · rw [if_neg e, rd_ne (by omega)]
theorem ini4_o {κ : Ks} {t q : Nat} {f : Nat → Int} {a b c d : Int} (h : q ≠ t) : ini4 (rowset κ t f) t a b c d q = κ q := by
  unfold ini4
  rw [st2_t h, st2_t h, st2_t h, st2_t h, rowset_n _ _ h]
theorem iniS_o {κ : Ks} {t q : Nat} {f : Nat → Int} {a b c : Int} (h : q ≠ t) : iniS (rowset κ t f) t a b c q = κ q := by
  unfold iniS
  rw [st2_t h, st2_t h, st2_t h, st2_t h, st2_t h, st2_t h, rowset_n _ _ h]
theorem iniH_o {κ : Ks} {t q : Nat} {f : Nat → Int} {a b c d e : Int} (h : q ≠ t) : iniH (rowset κ t f) t a b c d e q = κ q := by
  unfold iniH
  rw [st2_t h, st2_t h, st2_t h, st2_t h, st2_t h, st2_t h, rowset_n _ _ h]
theorem ini4_i {κ : Ks} {t : Nat} {f : Nat → Int} {a b c d : Int} : ini4 (rowset κ t f) t a b c d t 0 = a ∧ ini4 (rowset κ t f) t a b c d t 1 = b ∧ ini4 (rowset κ t f) t a b c d t 2 = c ∧ ini4 (rowset κ t f) t a b c d t 3 = d := by
  unfold ini4
  refine ⟨?_, ?_, ?_, ?_⟩
  · rw [rd_ne (by omega), rd_ne (by omega), rd_ne (by omega), rd_eq rfl rfl]
  · rw [rd_ne (by omega), rd_ne (by omega), rd_eq rfl rfl]
  · rw [rd_ne (by omega), rd_eq rfl rfl]
  · rw [rd_eq rfl rfl]
theorem st2_w {κ : Ks} {t n : Nat} {v : Int} {f : Nat → Int} (h : ∀ j, κ t j = f j) (j : Nat) : st2 κ t n v t j = if j = n then v else f j := by rw [st2_if, h]
theorem PC_law {κ κ2 : Ks} {V V2 : Vs} {a b c d x : Int} (h : Inv κ V) (n20 : κ 40 41 < 20) (hL : Lst κ2 3 (κ 40 41 + 1)) (pF : ∀ t, t ≠ 2 + 3 → t ≠ etg 3 (κ 40 41 + 1) → κ2 t = ini4 (rowset κ (400 + (κ 40 41).toNat) (fun _ => 0)) (400 + (κ 40 41).toNat) a b c d t) (pV : ∀ t, t ≠ etg 3 (κ 40 41 + 1) → V2 t = vset V (400 + (κ 40 41).toNat) t) (hx : x = κ 40 41) : PC κ (κ 40 41, st2 (st2 (st2 (st2 (st2 κ 83 (κ 40 41).toNat a) 84 (κ 40 41).toNat b) 85 (κ 40 41).toNat c) 86 (κ 40 41).toNat d) 40 41 (κ 40 41 + 1)) (some (Iv x)) V2 κ2 := by
  obtain ⟨n, hn⟩ := Int.eq_ofNat_of_zero_le h.1.1.2.2.2.2.2.2.2.2.2.1
  rw [show (κ 40 41).toNat = n by omega] at pF pV ⊢
  rw [hn] at hL pF pV hx ⊢
  have er := etg_R (k := 3) (n := (n : Int) + 1) (by omega)
  have fr : ∀ t, t ≠ 5 → t ≠ 400 + n → t ≠ etg 3 ((n : Int) + 1) → κ2 t = κ t := fun t h1 h2 h3 => (pF t h1 h3).trans (ini4_o h2)
  have m40 : ∀ j, j ≠ 41 → st2 (st2 (st2 (st2 (st2 κ 83 n a) 84 n b) 85 n c) 86 n d) 40 41 ((n : Int) + 1) 40 j = κ 40 j := fun j hj => by rw [rd_ne (by omega), rd_ne (by omega), rd_ne (by omega), rd_ne (by omega), rd_ne (by omega)]
  show _ ∧ LVP V2 (st2 (st2 (st2 (st2 (st2 κ 83 n a) 84 n b) 85 n c) 86 n d) 40 41 ((n : Int) + 1)) ∧ eqM κ κ2 ∧ CI κ2 (st2 (st2 (st2 (st2 (st2 κ 83 n a) 84 n b) 85 n c) 86 n d) 40 41 ((n : Int) + 1))
  refine ⟨congrArg (fun z => some (Iv z)) hx, LVP_3 h.2.2 hn (by omega) m40 (rd_eq rfl rfl) (fun t h1 h2 => (pV t h2).trans (vset_n h1)), fun t h1 h2 => fr t (by omega) (by omega) (by omega), CI_law h.1 h.2.1 hn m40 (rd_eq rfl rfl) (fun t ht => by rw [st2_t (by omega), st2_t (by omega), st2_t (by omega), st2_t (by omega), st2_t (by omega)]) hL fr (by rw [pF (400 + n) (by omega) (by omega)]; exact ini4_i) ⟨fun j => ?_, fun j => ?_, fun j => ?_, fun j => ?_⟩⟩
  · rw [rd_ne (by omega), rd_ne (by omega), rd_ne (by omega), rd_ne (by omega)]
    exact st2_w (fun _ => rfl) j
  · rw [rd_ne (by omega), rd_ne (by omega), rd_ne (by omega)]
    exact st2_w (fun i => rd_ne (by omega)) j
  · rw [rd_ne (by omega), rd_ne (by omega)]
    exact st2_w (fun i => by rw [rd_ne (by omega), rd_ne (by omega)]) j
  · rw [rd_ne (by omega)]
    exact st2_w (fun i => by rw [rd_ne (by omega), rd_ne (by omega), rd_ne (by omega)]) j
theorem PC_street {κ κ2 : Ks} {V V2 : Vs} {a b c x : Int} (h : Inv κ V) (n10 : κ 40 11 < 10) (hL : Lst κ2 0 (κ 40 11 + 1)) (pF : ∀ t, t ≠ 2 + 0 → t ≠ etg 0 (κ 40 11 + 1) → κ2 t = iniS (rowset κ (100 + (κ 40 11).toNat) (fun _ => 0)) (100 + (κ 40 11).toNat) a b c t) (pV : ∀ t, t ≠ etg 0 (κ 40 11 + 1) → V2 t = vset V (100 + (κ 40 11).toNat) t) (hx : x = κ 40 11) : PC κ (κ 40 11, st2 (st2 (st2 (st2 κ 53 (κ 40 11).toNat a) 54 (κ 40 11).toNat b) 55 (κ 40 11).toNat c) 40 11 (κ 40 11 + 1)) (some (Iv x)) V2 κ2 := by
  obtain ⟨n, hn⟩ := Int.eq_ofNat_of_zero_le h.1.1.2.2.2.2.2.1.1
  rw [show (κ 40 11).toNat = n by omega] at pF pV ⊢
  rw [hn] at hL pF pV hx ⊢
  have er := etg_R (k := 0) (n := (n : Int) + 1) (by omega)
  have fr : ∀ t, t ≠ 2 → t ≠ 100 + n → t ≠ etg 0 ((n : Int) + 1) → κ2 t = κ t := fun t h1 h2 h3 => (pF t h1 h3).trans (iniS_o h2)
  have m40 : ∀ j, j ≠ 11 → st2 (st2 (st2 (st2 κ 53 n a) 54 n b) 55 n c) 40 11 ((n : Int) + 1) 40 j = κ 40 j := fun j hj => by rw [rd_ne (by omega), rd_ne (by omega), rd_ne (by omega), rd_ne (by omega)]
  show _ ∧ LVP V2 (st2 (st2 (st2 (st2 κ 53 n a) 54 n b) 55 n c) 40 11 ((n : Int) + 1)) ∧ eqM κ κ2 ∧ CI κ2 (st2 (st2 (st2 (st2 κ 53 n a) 54 n b) 55 n c) 40 11 ((n : Int) + 1))
  refine ⟨congrArg (fun z => some (Iv z)) hx, LVP_0 h.2.2 hn (by omega) m40 (rd_eq rfl rfl) (fun t h1 h2 => (pV t h2).trans (vset_n h1)), fun t h1 h2 => fr t (by omega) (by omega) (by omega), CI_street h.1 h.2.1 hn m40 (rd_eq rfl rfl) (fun t ht => by rw [st2_t (by omega), st2_t (by omega), st2_t (by omega), st2_t (by omega)]) hL fr (by rw [pF (100 + n) (by omega) (by omega)]; unfold iniS; exact ⟨rd_ne (by omega) |>.trans (rd_ne (by omega) |>.trans (rd_eq rfl rfl)), rd_ne (by omega) |>.trans (rd_eq rfl rfl), rd_eq rfl rfl, by rw [rd_ne (by omega), rd_ne (by omega), rd_ne (by omega), rd_ne (by omega), rd_ne (by omega), rd_ne (by omega), rowset_s], by rw [rd_ne (by omega), rd_ne (by omega), rd_ne (by omega), rd_ne (by omega), rd_ne (by omega), rd_eq rfl rfl], by rw [rd_ne (by omega), rd_ne (by omega), rd_ne (by omega), rd_ne (by omega), rd_ne (by omega), rd_ne (by omega), rowset_s], by rw [rd_ne (by omega), rd_ne (by omega), rd_ne (by omega), rd_ne (by omega), rd_ne (by omega), rd_ne (by omega), rowset_s], by rw [rd_ne (by omega), rd_ne (by omega), rd_ne (by omega), rd_ne (by omega), rd_ne (by omega), rd_ne (by omega), rowset_s], by rw [rd_ne (by omega), rd_ne (by omega), rd_ne (by omega), rd_ne (by omega), rd_eq rfl rfl], by rw [rd_ne (by omega), rd_ne (by omega), rd_ne (by omega), rd_eq rfl rfl], by rw [rd_ne (by omega), rd_ne (by omega), rd_ne (by omega), rd_ne (by omega), rd_ne (by omega), rd_ne (by omega), rowset_s]⟩) ⟨fun j => ?_, fun j => ?_, fun j => ?_⟩ (by omega)⟩
  · rw [rd_ne (by omega), rd_ne (by omega), rd_ne (by omega)]
    exact st2_w (fun _ => rfl) j
  · rw [rd_ne (by omega), rd_ne (by omega)]
    exact st2_w (fun i => rd_ne (by omega)) j
  · rw [rd_ne (by omega)]
    exact st2_w (fun i => by rw [rd_ne (by omega), rd_ne (by omega)]) j
set_option maxHeartbeats 4000000 in
set_option maxRecDepth 20000 in
theorem c_X9_law {B : Bs} {n0 : Nat} {V : Vs} {κ : Ks} {h f t d : Int} (r_h : inR h) (r_f : inR f) (r_t : inR t) (r_d : inR d)  (hInv : Inv κ V) : Ct (XR B n0) mX9_law 8 2 37 [Rf 1, Iv h, Iv f, Iv t, Iv d] V κ (PC κ (M_law κ h f t d)) := by
  obtain ⟨hI, hC, hV⟩ := id hInv
  obtain ⟨cA, cB, cC, cD, cE, cF, cG, cS, cL, cH, cN, cT, cW, cK, cZ⟩ := id hC
  obtain ⟨⟨i0, i1, i2, i3, i4, i5, i6, i7, i8, i9⟩, iS, iH, iR, iT, iC, iG, iL, iZ⟩ := id hI
  obtain ⟨⟨cV0, cV1, cV2, cV4⟩, _⟩ := id hV
  obtain ⟨cA0, cA1, cA2⟩ := id cA
  obtain ⟨cB0, cB1, cB2⟩ := id cB
  obtain ⟨⟨⟨⟨z0, z1, z2⟩, z3, z4, z5⟩, z6, z7⟩, z8⟩ := id cZ
  have en0 : κ 2 2 = κ 40 11 := cG.1.2.2.1
  have en1 : κ 3 2 = κ 40 20 := cG.2.1.2.2.1
  have en2 : κ 4 2 = κ 40 31 := cG.2.2.1.2.2.1
  have en3 : κ 5 2 = κ 40 41 := cG.2.2.2.2.2.1
  refine Ct.of (L := [some (Rf 1), some (Iv h), some (Iv f), some (Iv t), some (Iv d)]) 0 (by decide +kernel) rfl rfl ?_
  refine g_iload_n 1 dX9_law_0 rfl rfl ?_
  refine g_if_lt 24 4 dX9_law_1 (by first | assumption | omega) (by decide) rfl (fun h1 => ?_) (fun h1 => ?_)
  · refine g_aload_n 25 dX9_law_24 rfl rfl ?_
    refine g_bipush 27 dX9_law_25 (by decide) rfl ?_
    refine e_V 30 2 37 [Iv (-4)] [] dX9_law_27 cvX9_74 mwX9_refuse kd_1 (by decide) rfl (Nat.le_of_ble_eq_true rfl) rfl rfl rfl (c_X9_refuse 4 (by decide) (by decide)) ?_
    refine g_iret dX9_law_30 rfl ?_
    unfold M_law
    (repeat' split) <;> first | (exfalso; omega) | exact PC_ref hInv (by decide) (by omega) rfl | exact PC_same hInv (by omega)
  refine g_iload_n 5 dX9_law_4 rfl rfl ?_
  refine g_if_lt 24 8 dX9_law_5 (by first | assumption | omega) (by decide) rfl (fun h2 => ?_) (fun h2 => ?_)
  · refine g_aload_n 25 dX9_law_24 rfl rfl ?_
    refine g_bipush 27 dX9_law_25 (by decide) rfl ?_
    refine e_V 30 2 37 [Iv (-4)] [] dX9_law_27 cvX9_74 mwX9_refuse kd_1 (by decide) rfl (Nat.le_of_ble_eq_true rfl) rfl rfl rfl (c_X9_refuse 4 (by decide) (by decide)) ?_
    refine g_iret dX9_law_30 rfl ?_
    unfold M_law
    (repeat' split) <;> first | (exfalso; omega) | exact PC_ref hInv (by decide) (by omega) rfl | exact PC_same hInv (by omega)
  refine g_iload_n 9 dX9_law_8 rfl rfl ?_
  refine g_if_lt 24 12 dX9_law_9 (by first | assumption | omega) (by decide) rfl (fun h3 => ?_) (fun h3 => ?_)
  · refine g_aload_n 25 dX9_law_24 rfl rfl ?_
    refine g_bipush 27 dX9_law_25 (by decide) rfl ?_
    refine e_V 30 2 37 [Iv (-4)] [] dX9_law_27 cvX9_74 mwX9_refuse kd_1 (by decide) rfl (Nat.le_of_ble_eq_true rfl) rfl rfl rfl (c_X9_refuse 4 (by decide) (by decide)) ?_
    refine g_iret dX9_law_30 rfl ?_
    unfold M_law
    (repeat' split) <;> first | (exfalso; omega) | exact PC_ref hInv (by decide) (by omega) rfl | exact PC_same hInv (by omega)
  refine g_iload 14 dX9_law_12 rfl rfl ?_
  refine g_aload_n 15 dX9_law_14 rfl rfl ?_
  refine r_getI 18 (κ 1 12) dX9_law_15 fgX9_201 kd_1 ly_1_12 rfl (rfl) (fun r4 => ?_)
  refine g_bipush 20 dX9_law_18 (by decide) rfl ?_
  refine g_idiv 21 dX9_law_20 (by omega) (by omega) rfl ?_
  refine g_icmp_ge 31 24 dX9_law_21 (by first | assumption | omega) (by first | assumption | omega) (by decide) rfl (fun h5 => ?_) (fun h5 => ?_)
  · refine g_iload_n 32 dX9_law_31 rfl rfl ?_
    refine g_sipush 35 dX9_law_32 (by decide) rfl ?_
    refine g_icmp_gt 50 38 dX9_law_35 (by first | assumption | omega) (by decide) (by decide) rfl (fun h6 => ?_) (fun h6 => ?_)
    · refine g_aload_n 51 dX9_law_50 rfl rfl ?_
      refine g_bipush 53 dX9_law_51 (by decide) rfl ?_
      refine e_V 56 2 37 [Iv (-6)] [] dX9_law_53 cvX9_74 mwX9_refuse kd_1 (by decide) rfl (Nat.le_of_ble_eq_true rfl) rfl rfl rfl (c_X9_refuse 6 (by decide) (by decide)) ?_
      refine g_iret dX9_law_56 rfl ?_
      unfold M_law
      (repeat' split) <;> first | (exfalso; omega) | exact PC_ref hInv (by decide) (by omega) rfl | exact PC_same hInv (by omega)
    refine g_iload_n 39 dX9_law_38 rfl rfl ?_
    refine g_bipush 41 dX9_law_39 (by decide) rfl ?_
    refine g_icmp_gt 50 44 dX9_law_41 (by first | assumption | omega) (by decide) (by decide) rfl (fun h7 => ?_) (fun h7 => ?_)
    · refine g_aload_n 51 dX9_law_50 rfl rfl ?_
      refine g_bipush 53 dX9_law_51 (by decide) rfl ?_
      refine e_V 56 2 37 [Iv (-6)] [] dX9_law_53 cvX9_74 mwX9_refuse kd_1 (by decide) rfl (Nat.le_of_ble_eq_true rfl) rfl rfl rfl (c_X9_refuse 6 (by decide) (by decide)) ?_
      refine g_iret dX9_law_56 rfl ?_
      unfold M_law
      (repeat' split) <;> first | (exfalso; omega) | exact PC_ref hInv (by decide) (by omega) rfl | exact PC_same hInv (by omega)
    refine g_iload_n 45 dX9_law_44 rfl rfl ?_
    refine g_bipush 47 dX9_law_45 (by decide) rfl ?_
    refine g_icmp_le 57 50 dX9_law_47 (by first | assumption | omega) (by decide) (by decide) rfl (fun h8 => ?_) (fun h8 => ?_)
    · refine g_iload 59 dX9_law_57 rfl rfl ?_
      refine g_sipush 62 dX9_law_59 (by decide) rfl ?_
      refine g_icmp_gt 77 65 dX9_law_62 (by first | assumption | omega) (by decide) (by decide) rfl (fun h9 => ?_) (fun h9 => ?_)
      · refine g_aload_n 78 dX9_law_77 rfl rfl ?_
        refine g_bipush 80 dX9_law_78 (by decide) rfl ?_
        refine e_V 83 2 37 [Iv (-6)] [] dX9_law_80 cvX9_74 mwX9_refuse kd_1 (by decide) rfl (Nat.le_of_ble_eq_true rfl) rfl rfl rfl (c_X9_refuse 6 (by decide) (by decide)) ?_
        refine g_iret dX9_law_83 rfl ?_
        unfold M_law
        (repeat' split) <;> first | (exfalso; omega) | exact PC_ref hInv (by decide) (by omega) rfl | exact PC_same hInv (by omega)
      refine g_aload_n 66 dX9_law_65 rfl rfl ?_
      refine g_getC 69 dX9_law_66 fgX9_22 kd_1 ly_1_3 rfl ?_
      refine e_V 72 2 37 [] [] dX9_law_69 cvX9_78 mwJx4a65c_size_8abf5 kd_5 (by decide) rfl (Nat.le_of_ble_eq_true rfl) rfl rfl rfl (c_size_3) ?_
      refine g_bipush 74 dX9_law_72 (by decide) rfl ?_
      refine g_icmp_lt 84 77 dX9_law_74 (by first | assumption | omega) (by decide) (by decide) rfl (fun h10 => ?_) (fun h10 => ?_)
      · refine g_aload_n 85 dX9_law_84 rfl rfl ?_
        refine g_getC 88 dX9_law_85 fgX9_22 kd_1 ly_1_3 rfl ?_
        have hf0 : V (400 + (κ 40 41).toNat) = false := hV.2.2.2.2.1 (κ 40 41).toNat (by omega) (by omega)
        refine g_new 91 (400 + (κ 40 41).toNat) dX9_law_88 nwX9_264 (kd_L (by omega)) (ly_L (by omega)) (fun j => by first | (show (if j = _ then 1 else 0) ≤ 1; split <;> omega) | exact Nat.zero_le 1) hf0 rfl ?_
        refine g_dup 92 dX9_law_91 rfl ?_
        refine g_iload_n 93 dX9_law_92 rfl rfl ?_
        refine g_iload_n 94 dX9_law_93 rfl rfl ?_
        refine g_iload_n 95 dX9_law_94 rfl rfl ?_
        refine g_iload 97 dX9_law_95 rfl rfl ?_
        refine v_I 100 1 33 [Iv h, Iv f, Iv t, Iv d] [Rf (400 + (κ 40 41).toNat), Rf 5] dX9_law_97 ciX9_266 mwX3_init (by decide) rfl (Nat.le_of_ble_eq_true rfl) rfl rfl rfl (c_X3_init (v := (κ 40 41).toNat) (by omega) (by omega) (by omega) (by omega) (by omega)) ?_
        have hLk : Lst (ini4 (rowset κ (400 + (κ 40 41).toNat) (fun _ => 0)) (400 + (κ 40 41).toNat) h f t d) 3 (κ 40 41) := cG.2.2.2.fr (ini4_o (by omega)) (fun z => ini4_o (by have := etg_ge (k := 3) z; omega))
        refine p_V 103 0 0 [Rf (400 + (κ 40 41).toNat)] [] dX9_law_100 cvX9_90 mwJx4a65c_add_9ea2d kd_5 (by decide) rfl (Nat.le_of_ble_eq_true rfl) rfl rfl rfl (c_add_3 hLk (by omega) (by rw [vset_n (by omega)]; exact cV2) (by rw [vset_n (by omega)]; exact cV4) (fun c h1 h2 => by rw [vset_n (by omega)]; exact hV.2.2.2.2.2.2.2.2 c h1 h2)) ?_
        intro r1 V2 κ2 hp
        obtain ⟨hr1, pL, pF, pV⟩ := hp
        subst hr1
        refine ⟨[Iv 1], rfl, ?_⟩
        have pz : κ2 5 2 = κ 40 41 + 1 := pL.2.2.1
        refine g_pop 104 dX9_law_103 rfl ?_
        refine g_aload_n 105 dX9_law_104 rfl rfl ?_
        refine g_getC 108 dX9_law_105 fgX9_22 kd_1 ly_1_3 rfl ?_
        refine e_V 111 0 0 [] [] dX9_law_108 cvX9_78 mwJx4a65c_size_8abf5 kd_5 (by decide) rfl (Nat.le_of_ble_eq_true rfl) rfl rfl rfl (c_size_3) ?_
        refine g_iconst 112 dX9_law_111 (by decide) rfl ?_
        refine g_isub 113 dX9_law_112 rfl ?_
        refine g_iret dX9_law_113 rfl ?_
        unfold M_law
        rw [if_neg (by omega), if_neg (by omega)]
        exact PC_law hInv (by omega) pL pF pV (by omega)
      refine g_aload_n 78 dX9_law_77 rfl rfl ?_
      refine g_bipush 80 dX9_law_78 (by decide) rfl ?_
      refine e_V 83 2 37 [Iv (-6)] [] dX9_law_80 cvX9_74 mwX9_refuse kd_1 (by decide) rfl (Nat.le_of_ble_eq_true rfl) rfl rfl rfl (c_X9_refuse 6 (by decide) (by decide)) ?_
      refine g_iret dX9_law_83 rfl ?_
      unfold M_law
      (repeat' split) <;> first | (exfalso; omega) | exact PC_ref hInv (by decide) (by omega) rfl | exact PC_same hInv (by omega)
    refine g_aload_n 51 dX9_law_50 rfl rfl ?_
    refine g_bipush 53 dX9_law_51 (by decide) rfl ?_
    refine e_V 56 2 37 [Iv (-6)] [] dX9_law_53 cvX9_74 mwX9_refuse kd_1 (by decide) rfl (Nat.le_of_ble_eq_true rfl) rfl rfl rfl (c_X9_refuse 6 (by decide) (by decide)) ?_
    refine g_iret dX9_law_56 rfl ?_
    unfold M_law
    (repeat' split) <;> first | (exfalso; omega) | exact PC_ref hInv (by decide) (by omega) rfl | exact PC_same hInv (by omega)
  refine g_aload_n 25 dX9_law_24 rfl rfl ?_
  refine g_bipush 27 dX9_law_25 (by decide) rfl ?_
  refine e_V 30 2 37 [Iv (-4)] [] dX9_law_27 cvX9_74 mwX9_refuse kd_1 (by decide) rfl (Nat.le_of_ble_eq_true rfl) rfl rfl rfl (c_X9_refuse 4 (by decide) (by decide)) ?_
  refine g_iret dX9_law_30 rfl ?_
  unfold M_law
  (repeat' split) <;> first | (exfalso; omega) | exact PC_ref hInv (by decide) (by omega) rfl | exact PC_same hInv (by omega)
set_option maxHeartbeats 4000000 in
set_option maxRecDepth 20000 in
theorem c_X9_street {B : Bs} {n0 : Nat} {V : Vs} {κ : Ks} {a l : Int} (r_a : inR a) (r_l : inR l)  (hInv : Inv κ V) : Ct (XR B n0) mX9_street 8 2 44 [Rf 1, Iv a, Iv l] V κ (PC κ (M_street κ a l)) := by
  obtain ⟨hI, hC, hV⟩ := id hInv
  obtain ⟨cA, cB, cC, cD, cE, cF, cG, cS, cL, cH, cN, cT, cW, cK, cZ⟩ := id hC
  obtain ⟨⟨i0, i1, i2, i3, i4, i5, i6, i7, i8, i9⟩, iS, iH, iR, iT, iC, iG, iL, iZ⟩ := id hI
  obtain ⟨⟨cV0, cV1, cV2, cV4⟩, _⟩ := id hV
  obtain ⟨cA0, cA1, cA2⟩ := id cA
  obtain ⟨cB0, cB1, cB2⟩ := id cB
  obtain ⟨⟨⟨⟨z0, z1, z2⟩, z3, z4, z5⟩, z6, z7⟩, z8⟩ := id cZ
  have en0 : κ 2 2 = κ 40 11 := cG.1.2.2.1
  have en1 : κ 3 2 = κ 40 20 := cG.2.1.2.2.1
  have en2 : κ 4 2 = κ 40 31 := cG.2.2.1.2.2.1
  have en3 : κ 5 2 = κ 40 41 := cG.2.2.2.2.2.1
  refine Ct.of (L := [some (Rf 1), some (Iv a), some (Iv l)]) 0 (by decide +kernel) rfl rfl ?_
  refine g_aload_n 1 dX9_street_0 rfl rfl ?_
  refine g_iload_n 2 dX9_street_1 rfl rfl ?_
  refine o_V 5 2 44 [Iv a] [] dX9_street_2 cvX9_70 mwX9_isPlace kd_1 (by decide) rfl (Nat.le_of_ble_eq_true rfl) rfl rfl rfl (c_X9_isPlace cG.1 (by omega) (by omega)) (fun h1 => ?_) (fun h1 => ?_)
  · refine g_if_ne 14 8 dX9_street_5 (by decide) (by decide) rfl (fun _ => ?_) (fun z => absurd z (by decide))
    refine g_iload_n 15 dX9_street_14 rfl rfl ?_
    refine g_iconst 16 dX9_street_15 (by decide) rfl ?_
    refine g_icmp_ge 26 19 dX9_street_16 (by first | assumption | omega) (by decide) (by decide) rfl (fun h2 => ?_) (fun h2 => ?_)
    · refine g_iload_n 27 dX9_street_26 rfl rfl ?_
      refine g_bipush 29 dX9_street_27 (by decide) rfl ?_
      refine g_icmp_gt 44 32 dX9_street_29 (by first | assumption | omega) (by decide) (by decide) rfl (fun h3 => ?_) (fun h3 => ?_)
      · refine g_aload_n 45 dX9_street_44 rfl rfl ?_
        refine g_bipush 47 dX9_street_45 (by decide) rfl ?_
        refine e_V 50 2 44 [Iv (-6)] [] dX9_street_47 cvX9_74 mwX9_refuse kd_1 (by decide) rfl (Nat.le_of_ble_eq_true rfl) rfl rfl rfl (c_X9_refuse 6 (by decide) (by decide)) ?_
        refine g_iret dX9_street_50 rfl ?_
        unfold M_street
        (repeat' split) <;> first | (exfalso; omega) | exact PC_ref hInv (by decide) (by omega) rfl | exact PC_same hInv (by omega)
      refine g_aload_n 33 dX9_street_32 rfl rfl ?_
      refine g_getC 36 dX9_street_33 fgX9_10 kd_1 ly_1_0 rfl ?_
      refine e_V 39 2 44 [] [] dX9_street_36 cvX9_78 mwJx4a65c_size_8abf5 kd_2 (by decide) rfl (Nat.le_of_ble_eq_true rfl) rfl rfl rfl (c_size_0) ?_
      refine g_bipush 41 dX9_street_39 (by decide) rfl ?_
      refine g_icmp_lt 51 44 dX9_street_41 (by first | assumption | omega) (by decide) (by decide) rfl (fun h4 => ?_) (fun h4 => ?_)
      · refine g_aload_n 52 dX9_street_51 rfl rfl ?_
        refine g_getC 55 dX9_street_52 fgX9_10 kd_1 ly_1_0 rfl ?_
        have hf0 : V (100 + (κ 40 11).toNat) = false := hV.2.1 (κ 40 11).toNat (by omega) (by omega)
        refine g_new 58 (100 + (κ 40 11).toNat) dX9_street_55 nwX9_82 (kd_S (by omega)) (ly_S (by omega)) (fun j => by first | (show (if j = _ then 1 else 0) ≤ 1; split <;> omega) | exact Nat.zero_le 1) hf0 rfl ?_
        refine g_dup 59 dX9_street_58 rfl ?_
        refine g_iload_n 60 dX9_street_59 rfl rfl ?_
        refine g_iload_n 61 dX9_street_60 rfl rfl ?_
        refine g_aload_n 62 dX9_street_61 rfl rfl ?_
        refine e_V 65 1 33 [] [Iv l, Iv a, Rf (100 + (κ 40 11).toNat), Rf (100 + (κ 40 11).toNat), Rf 2] dX9_street_62 cvX9_84 mwX9_weekNow kd_1 (by decide) rfl (Nat.le_of_ble_eq_true rfl) rfl rfl rfl (c_X9_weekNow (by rw [show (rowset κ (100 + (κ 40 11).toNat) (fun _ => 0)) 1 12 = κ 1 12 from rr_t (by omega) (rfl)]; omega)) ?_
        refine G.eqi (congrArg (fun z => z / 168) ((rr_t (by omega) (rfl)).trans cA0)) ?_
        refine v_I 68 1 33 [Iv a, Iv l, Iv ((κ 40 0) / 168)] [Rf (100 + (κ 40 11).toNat), Rf 2] dX9_street_65 ciX9_87 mwX5_init (by decide) rfl (Nat.le_of_ble_eq_true rfl) rfl rfl rfl (c_X5_init (v := (κ 40 11).toNat) (by omega) (by omega) (by omega) (by omega)) ?_
        have hLk : Lst (iniS (rowset κ (100 + (κ 40 11).toNat) (fun _ => 0)) (100 + (κ 40 11).toNat) a l ((κ 40 0) / 168)) 0 (κ 40 11) := cG.1.fr (iniS_o (by omega)) (fun z => iniS_o (by have := etg_ge (k := 0) z; omega))
        refine p_V 71 0 0 [Rf (100 + (κ 40 11).toNat)] [] dX9_street_68 cvX9_90 mwJx4a65c_add_9ea2d kd_2 (by decide) rfl (Nat.le_of_ble_eq_true rfl) rfl rfl rfl (c_add_0 hLk (by omega) (by rw [vset_n (by omega)]; exact cV2) (by rw [vset_n (by omega)]; exact cV4) (fun c h1 h2 => by rw [vset_n (by omega)]; exact hV.2.2.2.2.2.1 c h1 h2)) ?_
        intro r1 V2 κ2 hp
        obtain ⟨hr1, pL, pF, pV⟩ := hp
        subst hr1
        refine ⟨[Iv 1], rfl, ?_⟩
        have pz : κ2 2 2 = κ 40 11 + 1 := pL.2.2.1
        refine g_pop 72 dX9_street_71 rfl ?_
        refine g_aload_n 73 dX9_street_72 rfl rfl ?_
        refine g_getC 76 dX9_street_73 fgX9_10 kd_1 ly_1_0 rfl ?_
        refine e_V 79 0 0 [] [] dX9_street_76 cvX9_78 mwJx4a65c_size_8abf5 kd_2 (by decide) rfl (Nat.le_of_ble_eq_true rfl) rfl rfl rfl (c_size_0) ?_
        refine g_iconst 80 dX9_street_79 (by decide) rfl ?_
        refine g_isub 81 dX9_street_80 rfl ?_
        refine g_iret dX9_street_81 rfl ?_
        unfold M_street
        rw [if_neg (by omega), if_neg (by omega), if_neg (by omega)]
        exact PC_street hInv (by omega) pL pF pV (by omega)
      refine g_aload_n 45 dX9_street_44 rfl rfl ?_
      refine g_bipush 47 dX9_street_45 (by decide) rfl ?_
      refine e_V 50 2 44 [Iv (-6)] [] dX9_street_47 cvX9_74 mwX9_refuse kd_1 (by decide) rfl (Nat.le_of_ble_eq_true rfl) rfl rfl rfl (c_X9_refuse 6 (by decide) (by decide)) ?_
      refine g_iret dX9_street_50 rfl ?_
      unfold M_street
      (repeat' split) <;> first | (exfalso; omega) | exact PC_ref hInv (by decide) (by omega) rfl | exact PC_same hInv (by omega)
    refine g_aload_n 20 dX9_street_19 rfl rfl ?_
    refine g_bipush 22 dX9_street_20 (by decide) rfl ?_
    refine e_V 25 2 44 [Iv (-4)] [] dX9_street_22 cvX9_74 mwX9_refuse kd_1 (by decide) rfl (Nat.le_of_ble_eq_true rfl) rfl rfl rfl (c_X9_refuse 4 (by decide) (by decide)) ?_
    refine g_iret dX9_street_25 rfl ?_
    unfold M_street
    (repeat' split) <;> first | (exfalso; omega) | exact PC_ref hInv (by decide) (by omega) rfl | exact PC_same hInv (by omega)
  refine g_if_ne 14 8 dX9_street_5 (by decide) (by decide) rfl (fun z => absurd z (by decide)) (fun _ => ?_)
  refine g_aload_n 9 dX9_street_8 rfl rfl ?_
  refine g_iconst 10 dX9_street_9 (by decide) rfl ?_
  refine e_V 13 2 44 [Iv (-1)] [] dX9_street_10 cvX9_74 mwX9_refuse kd_1 (by decide) rfl (Nat.le_of_ble_eq_true rfl) rfl rfl rfl (c_X9_refuse 1 (by decide) (by decide)) ?_
  refine g_iret dX9_street_13 rfl ?_
  unfold M_street
  (repeat' split) <;> first | (exfalso; omega) | exact PC_ref hInv (by decide) (by omega) rfl | exact PC_same hInv (by omega)
