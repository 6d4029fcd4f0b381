/-! the reference: days (printed by wip/whole/gen24.py) -/
theorem ndH_sm {κ κ' : Ks} (h62 : κ' 62 = κ 62) (h63 : κ' 63 = κ 63) (h68 : κ' 68 = κ 68) (s : Int) : ∀ n : Nat, ndH κ' s n = ndH κ s n
  | 0 => rfl
  | n + 1 => by
    unfold ndH
    rw [ndH_sm h62 h63 h68 s n, h62, h63, h68]
theorem posL_stay (l : List Nat) (s : Int) : ∀ (n j : Nat), posL l s j ≠ -1 → posL l s (j + n) = posL l s j
  | 0, j, _ => rfl
  | n + 1, j, h => by
    have q := posL_stay l s n j h
    rw [show j + (n + 1) = j + n + 1 by omega]
    unfold posL
    rw [q, if_neg (fun z => h z.1)]
    cases j with
    | zero => exact absurd rfl h
    | succ j => rfl
theorem lkC_0 {κ : Ks} {set u : Int} (h : MI κ) (hu : 0 ≤ u) (c : Nat) : 0 ≤ lkC (ndF κ set) u (kF κ set) c := (lkD_R (b := 14000 * (kF κ set : Int)) (fun d hd => ldD_R (nd := ndF κ set) (k := kF κ set) (fun i hi => ndF_R h set hi) (dg (kF κ set) c) d (kF κ set) (Nat.le_refl _)) hu (by omega) 7 (by omega)).1
theorem need_scr {κ κ' : Ks} (h : scr κ κ') (s : Nat) : needM κ' s = needM κ s := by
  have et : ∀ t, t < 88 → t ≠ 40 → κ' t = κ t := fun t h0 h1 => h.2 t h1 (by omega) (by omega) (by omega) (by omega) (by omega) (by omega)
  unfold needM
  rw [ndH_sm (et 62 (by decide) (by decide)) (et 63 (by decide) (by decide)) (et 68 (by decide) (by decide)), et 57 (by decide) (by decide), et 58 (by decide) (by decide), et 59 (by decide) (by decide), h.1 20 (by decide) (by decide) (by decide)]
set_option maxHeartbeats 4000000 in
set_option maxRecDepth 20000 in
theorem c_X10_wrongDays {B : Bs} {n0 : Nat} {V : Vs} {κ : Ks} {a u : Int} (r_a : inR a) (r_u : inR u) (hI : MI κ) : Ct (XR B n0) mX10_wrongDays 2 0 0 [Rf 40, Iv a, Iv u] V κ (Ex (some (Iv (wrongP κ a u))) V κ) := by
  obtain ⟨⟨i0, i1, i2, i3, i4, i5, i6, i7, i8, i9⟩, iS, iH, iR, iT, iC, iG, iL, iZ⟩ := id hI
  obtain ⟨N, hN⟩ : ∃ N : Int, N = 2 ^ (κ 40 11).toNat := ⟨_, rfl⟩
  have hNR : 1 ≤ N ∧ N ≤ 1024 := by rw [hN]; exact pow_R (by omega)
  have pr := pc2_R 32 a
  refine Ct.of (L := [some (Rf 40), some (Iv a), some (Iv u)]) 0 (by decide +kernel) rfl rfl ?_
  refine g_iload_n 1 dX10_wrongDays_0 rfl rfl ?_
  refine g_iconst 2 dX10_wrongDays_1 (by decide) rfl ?_
  refine g_iconst 3 dX10_wrongDays_2 (by decide) rfl ?_
  refine g_aload_n 4 dX10_wrongDays_3 rfl rfl ?_
  refine r_getI 7 (κ 40 11) dX10_wrongDays_4 fgX10_135 kd_40 ly_40_11 rfl (rfl) (fun r1 => ?_)
  refine g_ishl 8 dX10_wrongDays_7 rfl ?_
  refine G.eqi (show bShl 1 (κ 40 11) = N by rw [pow_I (by omega)]; exact hN.symm) ?_
  refine g_iconst 9 dX10_wrongDays_8 (by decide) rfl ?_
  refine g_isub 10 dX10_wrongDays_9 rfl ?_
  refine o_S 13 0 0 [Iv a, Iv 0, Iv (N - 1)] [] dX10_wrongDays_10 csX10_138 mwX10_in (by decide) rfl (Nat.le_of_ble_eq_true rfl) rfl rfl rfl (c_X10_in (by omega) (by omega) (by omega)) (fun h2 => ?_) (fun h2 => ?_)
  · refine g_if_ne 18 16 dX10_wrongDays_13 (by decide) (by decide) rfl (fun _ => ?_) (fun z => absurd z (by decide))
    refine g_iload_n 19 dX10_wrongDays_18 rfl rfl ?_
    refine e_S 22 0 0 [Iv a] [] dX10_wrongDays_19 csX10_239 mwX10_ones (by decide) rfl (Nat.le_of_ble_eq_true rfl) rfl rfl rfl (c_X10_ones (by omega)) ?_
    refine g_bipush 24 dX10_wrongDays_22 (by decide) rfl ?_
    refine g_icmp_le 32 27 dX10_wrongDays_24 (by first | assumption | omega) (by decide) (by decide) rfl (fun h3 => ?_) (fun h3 => ?_)
    · refine g_iload_n 33 dX10_wrongDays_32 rfl rfl ?_
      refine g_if_ge 41 36 dX10_wrongDays_33 (by first | assumption | omega) (by decide) rfl (fun h4 => ?_) (fun h4 => ?_)
      · refine g_iload_n 42 dX10_wrongDays_41 rfl rfl ?_
        refine g_ldc (n := 100000) 44 dX10_wrongDays_42 kcX10_152 (by decide) rfl ?_
        refine g_icmp_le 52 47 dX10_wrongDays_44 (by first | assumption | omega) (by decide) (by decide) rfl (fun h5 => ?_) (fun h5 => ?_)
        · refine g_iconst 53 dX10_wrongDays_52 (by decide) rfl ?_
          refine g_iret dX10_wrongDays_53 rfl ?_
          refine ⟨congrArg (fun x => some (Iv x)) ?_, rfl, rfl⟩
          show _ = if a < 0 ∨ 2 ^ (κ 40 11).toNat - 1 < a then (-1 : Int) else if 6 < pc2 32 a then -6 else if u < 0 then -4 else if 100000 < u then -6 else 0
          rw [← hN]
          (repeat' split) <;> first | rfl | (exfalso; omega)
        refine g_bipush 49 dX10_wrongDays_47 (by decide) rfl ?_
        refine g_goto 53 dX10_wrongDays_49 (by decide) ?_
        refine g_iret dX10_wrongDays_53 rfl ?_
        refine ⟨congrArg (fun x => some (Iv x)) ?_, rfl, rfl⟩
        show _ = if a < 0 ∨ 2 ^ (κ 40 11).toNat - 1 < a then (-1 : Int) else if 6 < pc2 32 a then -6 else if u < 0 then -4 else if 100000 < u then -6 else 0
        rw [← hN]
        (repeat' split) <;> first | rfl | (exfalso; omega)
      refine g_bipush 38 dX10_wrongDays_36 (by decide) rfl ?_
      refine g_goto 53 dX10_wrongDays_38 (by decide) ?_
      refine g_iret dX10_wrongDays_53 rfl ?_
      refine ⟨congrArg (fun x => some (Iv x)) ?_, rfl, rfl⟩
      show _ = if a < 0 ∨ 2 ^ (κ 40 11).toNat - 1 < a then (-1 : Int) else if 6 < pc2 32 a then -6 else if u < 0 then -4 else if 100000 < u then -6 else 0
      rw [← hN]
      (repeat' split) <;> first | rfl | (exfalso; omega)
    refine g_bipush 29 dX10_wrongDays_27 (by decide) rfl ?_
    refine g_goto 53 dX10_wrongDays_29 (by decide) ?_
    refine g_iret dX10_wrongDays_53 rfl ?_
    refine ⟨congrArg (fun x => some (Iv x)) ?_, rfl, rfl⟩
    show _ = if a < 0 ∨ 2 ^ (κ 40 11).toNat - 1 < a then (-1 : Int) else if 6 < pc2 32 a then -6 else if u < 0 then -4 else if 100000 < u then -6 else 0
    rw [← hN]
    (repeat' split) <;> first | rfl | (exfalso; omega)
  refine g_if_ne 18 16 dX10_wrongDays_13 (by decide) (by decide) rfl (fun z => absurd z (by decide)) (fun _ => ?_)
  refine g_iconst 17 dX10_wrongDays_16 (by decide) rfl ?_
  refine g_iret dX10_wrongDays_17 rfl ?_
  refine ⟨congrArg (fun x => some (Iv x)) ?_, rfl, rfl⟩
  show _ = if a < 0 ∨ 2 ^ (κ 40 11).toNat - 1 < a then (-1 : Int) else if 6 < pc2 32 a then -6 else if u < 0 then -4 else if 100000 < u then -6 else 0
  rw [← hN]
  (repeat' split) <;> first | rfl | (exfalso; omega)
set_option maxHeartbeats 4000000 in
set_option maxRecDepth 20000 in
theorem c_X10_findDays {B : Bs} {n0 : Nat} {V : Vs} {κ : Ks} {set u : Int} (h_set : 0 ≤ set ∧ set < 2147483648) (h_pc : pc2 32 set ≤ 6) (h_u : 0 ≤ u ∧ u ≤ 100000) (hI : MI κ) : Ct (XR B n0) mX10_findDays 2 0 0 [Rf 40, Iv set, Iv u] V κ (fun r V1 κ1 => r = some (Iv (lkC (ndF κ set) u (kF κ set) (cF κ set u))) ∧ V1 = V ∧ DK κ κ1 (kF κ set) (ndF κ set) (fun i => (((askL set (κ 40 11).toNat).getD i 0 : Nat) : Int)) ∧ ∀ i, i < kF κ set → κ1 97 i = dg (kF κ set) (cF κ set u) i) := by
  obtain ⟨⟨i0, i1, i2, i3, i4, i5, i6, i7, i8, i9⟩, iS, iH, iR, iT, iC, iG, iL, iZ⟩ := id hI
  have hk6 : kF κ set ≤ 6 := by have := kF_le hI h_set.1 (κ 40 11).toNat (by omega); unfold kF; omega
  refine Ct.of (L := [some (Rf 40), some (Iv set), some (Iv u), none, none, none, none, none, none]) 6 (by decide +kernel) rfl rfl ?_
  have ex : ∀ (be bm : Int) (κ2 : Ks) (a6 a7 a8 : Option Av), DK κ κ2 (kF κ set) (ndF κ set) (fun i => (((askL set (κ 40 11).toNat).getD i 0 : Nat) : Int)) → 0 ≤ bm ∧ bm ≤ 84000 ∧ -1 ≤ be ∧ be ≤ 588000 → be = lkC (ndF κ set) u (kF κ set) (cF κ set u) → (∀ i, i < kF κ set → κ2 97 i = dg (kF κ set) (cF κ set u) i) → G (XR B n0) mX10_findDays 2 (fun r V1 κ1 => r = some (Iv (lkC (ndF κ set) u (kF κ set) (cF κ set u))) ∧ V1 = V ∧ DK κ κ1 (kF κ set) (ndF κ set) (fun i => (((askL set (κ 40 11).toNat).getD i 0 : Nat) : Int)) ∧ ∀ i, i < kF κ set → κ1 97 i = dg (kF κ set) (cF κ set u) i) V 0 0 82 [some (Rf 40), some (Iv set), some (Iv u), some (Iv be), some (Iv bm), some (Iv 0), a6, a7, a8] [] V κ2 := by
    intro be bm κ2 a6 a7 a8 hD hr hb hbd
    have hr2 := hr
    refine g_iload 84 dX10_findDays_82 rfl rfl ?_
    refine g_if_eq 360 87 dX10_findDays_84 (by decide) (by decide) rfl (fun _ => ?_) (fun z => absurd z (by decide))
    refine g_iload_n 361 dX10_findDays_360 rfl rfl ?_
    refine g_iret dX10_findDays_361 rfl ?_
    exact ⟨congrArg (fun x => some (Iv x)) hb, rfl, hD, hbd⟩
  have lpC : ∀ (m c : Nat) (be bm : Int) (κ2 : Ks), DK κ κ2 (kF κ set) (ndF κ set) (fun i => (((askL set (κ 40 11).toNat).getD i 0 : Nat) : Int)) → (∀ i, i < kF κ set → κ2 96 i = dg (kF κ set) c i) → c < 7 ^ kF κ set → m = 7 ^ kF κ set - c → (c = 0 ∧ be = -1 ∨ 0 < c ∧ be = lkC (ndF κ set) u (kF κ set) (dsB (ndF κ set) u (kF κ set) (c - 1)) ∧ bm = msC (ndF κ set) (kF κ set) (dsB (ndF κ set) u (kF κ set) (c - 1)) ∧ ∀ i, i < kF κ set → κ2 97 i = dg (kF κ set) (dsB (ndF κ set) u (kF κ set) (c - 1)) i) → 0 ≤ bm ∧ bm ≤ 84000 ∧ -1 ≤ be ∧ be ≤ 588000 → ∀ a6 a7 a8 : Option Av, G (XR B n0) mX10_findDays 2 (fun r V1 κ1 => r = some (Iv (lkC (ndF κ set) u (kF κ set) (cF κ set u))) ∧ V1 = V ∧ DK κ κ1 (kF κ set) (ndF κ set) (fun i => (((askL set (κ 40 11).toNat).getD i 0 : Nat) : Int)) ∧ ∀ i, i < kF κ set → κ1 97 i = dg (kF κ set) (cF κ set u) i) V 0 0 82 [some (Rf 40), some (Iv set), some (Iv u), some (Iv be), some (Iv bm), some (Iv 1), a6, a7, a8] [] V κ2 := by
    intro m
    induction m using Nat.strongRecOn with
    | ind m ih0 =>
      intro c be bm κ2 hD hday hc hm0 hbest hbr a6 a7 a8
      have lpQ : ∀ (q : Nat) (be bm i : Int) (κ2 : Ks), DK κ κ2 (kF κ set) (ndF κ set) (fun i => (((askL set (κ 40 11).toNat).getD i 0 : Nat) : Int)) → (be = lkC (ndF κ set) u (kF κ set) (dsB (ndF κ set) u (kF κ set) c) ∧ bm = msC (ndF κ set) (kF κ set) (dsB (ndF κ set) u (kF κ set) c) ∧ ∀ i, i < kF κ set → κ2 97 i = dg (kF κ set) (dsB (ndF κ set) u (kF κ set) c) i) → 0 ≤ bm ∧ bm ≤ 84000 ∧ -1 ≤ be ∧ be ≤ 588000 → -1 ≤ i ∧ i < kF κ set → (q : Int) = i + 1 → (∀ j : Nat, (j : Int) ≤ i → κ2 96 j = dg (kF κ set) c j) → (∀ j : Nat, i < (j : Int) → j < kF κ set → κ2 96 j = 0 ∧ dg (kF κ set) c j = 6) → ∀ a6 a7 : Option Av, G (XR B n0) mX10_findDays 2 (fun r V1 κ1 => r = some (Iv (lkC (ndF κ set) u (kF κ set) (cF κ set u))) ∧ V1 = V ∧ DK κ κ1 (kF κ set) (ndF κ set) (fun i => (((askL set (κ 40 11).toNat).getD i 0 : Nat) : Int)) ∧ ∀ i, i < kF κ set → κ1 97 i = dg (kF κ set) (cF κ set u) i) V 0 0 298 [some (Rf 40), some (Iv set), some (Iv u), some (Iv be), some (Iv bm), some (Iv 1), a6, a7, some (Iv i)] [] V κ2 := by
        intro q
        induction q using Nat.strongRecOn with
        | ind q ihq =>
          intro be bm i κ2 hD hb hbr hi hq hlo hhi a6 a7
          obtain ⟨⟨⟨j0, j1, j2, j3, j4, j5, j6, j7, j8, j9⟩, jS, jH, jR, jT, jC, jG, jL, jZ⟩, hS2, e54, hnd⟩ := id hD
          have k6 := hk6
          refine g_iload 300 dX10_findDays_298 rfl rfl ?_
          refine g_if_lt 329 303 dX10_findDays_300 (by first | assumption | omega) (by decide) rfl (fun h301 => ?_) (fun h301 => ?_)
          · refine g_iload 331 dX10_findDays_329 rfl rfl ?_
            refine g_if_lt 338 334 dX10_findDays_331 (by first | assumption | omega) (by decide) rfl (fun h302 => ?_) (fun h302 => ?_)
            · refine g_iconst 339 dX10_findDays_338 (by decide) rfl ?_
              refine g_istore (L' := [some (Rf 40), some (Iv set), some (Iv u), some (Iv be), some (Iv bm), some (Iv 0), a6, a7, some (Iv i)]) 341 dX10_findDays_339 rfl (by decide) rfl ?_
              refine g_iload 343 dX10_findDays_341 rfl rfl ?_
              refine g_if_eq 357 346 dX10_findDays_343 (by decide) (by decide) rfl (fun _ => ?_) (fun z => absurd z (by decide))
              refine g_goto 82 dX10_findDays_357 (by decide) ?_
              have et : c = 7 ^ kF κ set - 1 := dg_top hc (fun j hj => (hhi j (by omega) hj).2)
              exact ex be bm κ2 _ _ _ hD hbr (by unfold cF; rw [← et]; exact hb.1) (fun j hj => by unfold cF; rw [← et]; exact hb.2.2 j hj)
            refine g_iconst 335 dX10_findDays_334 (by decide) rfl ?_
            refine g_goto 339 dX10_findDays_335 (by decide) ?_
            refine g_istore (L' := [some (Rf 40), some (Iv set), some (Iv u), some (Iv be), some (Iv bm), some (Iv 1), a6, a7, some (Iv i)]) 341 dX10_findDays_339 rfl (by decide) rfl ?_
            refine g_iload 343 dX10_findDays_341 rfl rfl ?_
            refine g_if_eq 357 346 dX10_findDays_343 (by decide) (by decide) rfl (fun z => absurd z (by decide)) (fun _ => ?_)
            refine g_aload_n 347 dX10_findDays_346 rfl rfl ?_
            refine g_getC 350 dX10_findDays_347 fgX10_126 kd_40 ly_40_55 rfl ?_
            refine g_iload 352 dX10_findDays_350 rfl rfl ?_
            refine g_dup2 353 dX10_findDays_352 rfl ?_
            have hlo2 := hlo i.toNat (by omega)
            have hd8 := dg_lt (kF κ set) c i.toNat
            refine r_iald 354 ((i).toNat) (κ2 96 ((i).toNat)) dX10_findDays_353 kd_96 (by decide) (by omega) (rfl) rfl (rfl) (fun r303 => ?_)
            refine g_iconst 355 dX10_findDays_354 (by decide) rfl ?_
            refine g_iadd 356 dX10_findDays_355 rfl ?_
            refine r_iast 357 ((i).toNat) dX10_findDays_356 kd_96 (by decide) ly_96 (by omega) (rfl) (by omega) rfl ?_
            refine g_goto 82 dX10_findDays_357 (by decide) ?_
            have hd6 := dg_lt (kF κ set) c i.toNat
            have h6 := hlo i.toNat (by omega)
            have inc := dg_inc (k := kF κ set) (c := c) (i := i.toNat) (by omega) (fun j h1 h2 => (hhi j (by omega) h2).2) (by omega)
            have hlt := inc_lt (k := kF κ set) (c := c) (i := i.toNat) (by omega) hc (by omega)
            refine ih0 (7 ^ kF κ set - (c + 1)) (by omega) (c + 1) be bm _ (hD.s (by decide)) (fun j hj => ?_) hlt rfl (Or.inr ⟨by omega, hb.1, hb.2.1, fun j hj => rd_t (by decide) (hb.2.2 j hj)⟩) hbr _ _ _
            rw [inc j hj]
            by_cases h1 : j < i.toNat
            · rw [if_pos h1]
              exact rd_j (by omega) (hlo j (by omega))
            · rw [if_neg h1]
              by_cases h2 : j = i.toNat
              · subst h2
                rw [if_pos rfl, st2_s]
                omega
              · rw [if_neg h2]
                exact rd_j h2 (hhi j (by omega) hj).1
          refine g_aload_n 304 dX10_findDays_303 rfl rfl ?_
          refine g_getC 307 dX10_findDays_304 fgX10_126 kd_40 ly_40_55 rfl ?_
          refine g_iload 309 dX10_findDays_307 rfl rfl ?_
          have hlo1 := hlo i.toNat (by omega)
          have hd7 := dg_lt (kF κ set) c i.toNat
          refine r_iald 310 ((i).toNat) (κ2 96 ((i).toNat)) dX10_findDays_309 kd_96 (by decide) (by omega) (rfl) rfl (rfl) (fun r304 => ?_)
          refine g_bipush 312 dX10_findDays_310 (by decide) rfl ?_
          refine g_icmp_ne 329 315 dX10_findDays_312 (by first | assumption | omega) (by decide) (by decide) rfl (fun h305 => ?_) (fun h305 => ?_)
          · refine g_iload 331 dX10_findDays_329 rfl rfl ?_
            refine g_if_lt 338 334 dX10_findDays_331 (by first | assumption | omega) (by decide) rfl (fun h306 => ?_) (fun h306 => ?_)
            · refine g_iconst 339 dX10_findDays_338 (by decide) rfl ?_
              refine g_istore (L' := [some (Rf 40), some (Iv set), some (Iv u), some (Iv be), some (Iv bm), some (Iv 0), a6, a7, some (Iv i)]) 341 dX10_findDays_339 rfl (by decide) rfl ?_
              refine g_iload 343 dX10_findDays_341 rfl rfl ?_
              refine g_if_eq 357 346 dX10_findDays_343 (by decide) (by decide) rfl (fun _ => ?_) (fun z => absurd z (by decide))
              refine g_goto 82 dX10_findDays_357 (by decide) ?_
              have et : c = 7 ^ kF κ set - 1 := dg_top hc (fun j hj => (hhi j (by omega) hj).2)
              exact ex be bm κ2 _ _ _ hD hbr (by unfold cF; rw [← et]; exact hb.1) (fun j hj => by unfold cF; rw [← et]; exact hb.2.2 j hj)
            refine g_iconst 335 dX10_findDays_334 (by decide) rfl ?_
            refine g_goto 339 dX10_findDays_335 (by decide) ?_
            refine g_istore (L' := [some (Rf 40), some (Iv set), some (Iv u), some (Iv be), some (Iv bm), some (Iv 1), a6, a7, some (Iv i)]) 341 dX10_findDays_339 rfl (by decide) rfl ?_
            refine g_iload 343 dX10_findDays_341 rfl rfl ?_
            refine g_if_eq 357 346 dX10_findDays_343 (by decide) (by decide) rfl (fun z => absurd z (by decide)) (fun _ => ?_)
            refine g_aload_n 347 dX10_findDays_346 rfl rfl ?_
            refine g_getC 350 dX10_findDays_347 fgX10_126 kd_40 ly_40_55 rfl ?_
            refine g_iload 352 dX10_findDays_350 rfl rfl ?_
            refine g_dup2 353 dX10_findDays_352 rfl ?_
            have hlo2 := hlo i.toNat (by omega)
            have hd8 := dg_lt (kF κ set) c i.toNat
            refine r_iald 354 ((i).toNat) (κ2 96 ((i).toNat)) dX10_findDays_353 kd_96 (by decide) (by omega) (rfl) rfl (rfl) (fun r307 => ?_)
            refine g_iconst 355 dX10_findDays_354 (by decide) rfl ?_
            refine g_iadd 356 dX10_findDays_355 rfl ?_
            refine r_iast 357 ((i).toNat) dX10_findDays_356 kd_96 (by decide) ly_96 (by omega) (rfl) (by omega) rfl ?_
            refine g_goto 82 dX10_findDays_357 (by decide) ?_
            have hd6 := dg_lt (kF κ set) c i.toNat
            have h6 := hlo i.toNat (by omega)
            have inc := dg_inc (k := kF κ set) (c := c) (i := i.toNat) (by omega) (fun j h1 h2 => (hhi j (by omega) h2).2) (by omega)
            have hlt := inc_lt (k := kF κ set) (c := c) (i := i.toNat) (by omega) hc (by omega)
            refine ih0 (7 ^ kF κ set - (c + 1)) (by omega) (c + 1) be bm _ (hD.s (by decide)) (fun j hj => ?_) hlt rfl (Or.inr ⟨by omega, hb.1, hb.2.1, fun j hj => rd_t (by decide) (hb.2.2 j hj)⟩) hbr _ _ _
            rw [inc j hj]
            by_cases h1 : j < i.toNat
            · rw [if_pos h1]
              exact rd_j (by omega) (hlo j (by omega))
            · rw [if_neg h1]
              by_cases h2 : j = i.toNat
              · subst h2
                rw [if_pos rfl, st2_s]
                omega
              · rw [if_neg h2]
                exact rd_j h2 (hhi j (by omega) hj).1
          refine g_aload_n 316 dX10_findDays_315 rfl rfl ?_
          refine g_getC 319 dX10_findDays_316 fgX10_126 kd_40 ly_40_55 rfl ?_
          refine g_iload 321 dX10_findDays_319 rfl rfl ?_
          refine g_iconst 322 dX10_findDays_321 (by decide) rfl ?_
          refine r_iast 323 ((i).toNat) dX10_findDays_322 kd_96 (by decide) ly_96 (by omega) (rfl) (by omega) rfl ?_
          refine g_iinc (L' := [some (Rf 40), some (Iv set), some (Iv u), some (Iv be), some (Iv bm), some (Iv 1), a6, a7, some (Iv (i + (-1)))]) 326 dX10_findDays_323 rfl rfl (by decide) rfl ?_
          refine g_goto 298 dX10_findDays_326 (by decide) ?_
          refine ihq (q - 1) (by omega) be bm (i + (-1)) _ (hD.s (by decide)) ⟨hb.1, hb.2.1, fun j hj => rd_t (by decide) (hb.2.2 j hj)⟩ hbr (by omega) (by omega) (fun j hj => rd_j (by omega) (hlo j (by omega))) (fun j hj hk => ?_) a6 a7
          by_cases hji : j = i.toNat
          · subst hji
            have h6 := hlo i.toNat (by omega)
            exact ⟨st2_s _ _ _ _, by omega⟩
          · have h7 := hhi j (by omega) hk
            exact ⟨rd_j hji h7.1, h7.2⟩
      have lpP : ∀ (q : Nat) (be bm i : Int) (κ2 : Ks), DK κ κ2 (kF κ set) (ndF κ set) (fun i => (((askL set (κ 40 11).toNat).getD i 0 : Nat) : Int)) → (∀ i, i < kF κ set → κ2 96 i = dg (kF κ set) c i) → be = lkC (ndF κ set) u (kF κ set) c ∧ bm = msC (ndF κ set) (kF κ set) c ∧ dsB (ndF κ set) u (kF κ set) c = c → 0 ≤ bm ∧ bm ≤ 84000 ∧ -1 ≤ be ∧ be ≤ 588000 → 0 ≤ i ∧ i ≤ kF κ set → (q : Int) = kF κ set - i → (∀ j : Nat, (j : Int) < i → κ2 97 j = dg (kF κ set) c j) → ∀ a6 a7 : Option Av, G (XR B n0) mX10_findDays 2 (fun r V1 κ1 => r = some (Iv (lkC (ndF κ set) u (kF κ set) (cF κ set u))) ∧ V1 = V ∧ DK κ κ1 (kF κ set) (ndF κ set) (fun i => (((askL set (κ 40 11).toNat).getD i 0 : Nat) : Int)) ∧ ∀ i, i < kF κ set → κ1 97 i = dg (kF κ set) (cF κ set u) i) V 0 0 261 [some (Rf 40), some (Iv set), some (Iv u), some (Iv be), some (Iv bm), some (Iv 1), a6, a7, some (Iv i)] [] V κ2 := by
        intro q
        induction q using Nat.strongRecOn with
        | ind q ihq =>
          intro be bm i κ2 hD hday hb hbr hi hq hcp a6 a7
          obtain ⟨⟨⟨j0, j1, j2, j3, j4, j5, j6, j7, j8, j9⟩, jS, jH, jR, jT, jC, jG, jL, jZ⟩, hS2, e54, hnd⟩ := id hD
          have k6 := hk6
          refine g_iload 263 dX10_findDays_261 rfl rfl ?_
          refine g_aload_n 264 dX10_findDays_263 rfl rfl ?_
          refine r_getI 267 (κ2 40 54) dX10_findDays_264 fgX10_245 kd_40 ly_40_54 rfl (rfl) (fun r301 => ?_)
          refine g_icmp_ge 290 270 dX10_findDays_267 (by first | assumption | omega) (by first | assumption | omega) (by decide) rfl (fun h302 => ?_) (fun h302 => ?_)
          · refine g_aload_n 291 dX10_findDays_290 rfl rfl ?_
            refine r_getI 294 (κ2 40 54) dX10_findDays_291 fgX10_245 kd_40 ly_40_54 rfl (rfl) (fun r303 => ?_)
            refine g_iconst 295 dX10_findDays_294 (by decide) rfl ?_
            refine g_isub 296 dX10_findDays_295 rfl ?_
            refine g_istore (L' := [some (Rf 40), some (Iv set), some (Iv u), some (Iv be), some (Iv bm), some (Iv 1), a6, a7, some (Iv ((κ2 40 54) - 1))]) 298 dX10_findDays_296 rfl (by decide) rfl ?_
            have hb2 : be = lkC (ndF κ set) u (kF κ set) (dsB (ndF κ set) u (kF κ set) c) ∧ bm = msC (ndF κ set) (kF κ set) (dsB (ndF κ set) u (kF κ set) c) ∧ ∀ i, i < kF κ set → κ2 97 i = dg (kF κ set) (dsB (ndF κ set) u (kF κ set) c) i := by rw [hb.2.2]; exact ⟨hb.1, hb.2.1, fun j hj => hcp j (by omega)⟩
            exact lpQ (kF κ set) be bm _ κ2 hD hb2 hbr (by omega) (by omega) (fun j hj => hday j (by omega)) (fun j h1 h2 => by omega) _ _
          refine g_aload_n 271 dX10_findDays_270 rfl rfl ?_
          refine g_getC 274 dX10_findDays_271 fgX10_129 kd_40 ly_40_56 rfl ?_
          refine g_iload 276 dX10_findDays_274 rfl rfl ?_
          refine g_aload_n 277 dX10_findDays_276 rfl rfl ?_
          refine g_getC 280 dX10_findDays_277 fgX10_126 kd_40 ly_40_55 rfl ?_
          refine g_iload 282 dX10_findDays_280 rfl rfl ?_
          have hd1 := hday i.toNat (by omega)
          have hd7 := dg_lt (kF κ set) c i.toNat
          refine r_iald 283 ((i).toNat) (κ2 96 ((i).toNat)) dX10_findDays_282 kd_96 (by decide) (by omega) (rfl) rfl (rfl) (fun r304 => ?_)
          refine r_iast 284 ((i).toNat) dX10_findDays_283 kd_97 (by decide) ly_97 (by omega) (rfl) (by omega) rfl ?_
          refine g_iinc (L' := [some (Rf 40), some (Iv set), some (Iv u), some (Iv be), some (Iv bm), some (Iv 1), a6, a7, some (Iv (i + 1))]) 287 dX10_findDays_284 rfl rfl (by decide) rfl ?_
          refine g_goto 261 dX10_findDays_287 (by decide) ?_
          refine ihq (q - 1) (by omega) be bm (i + 1) _ (hD.s (by decide)) (fun j hj => rd_t (by decide) (hday j hj)) hb hbr (by omega) (by omega) (fun j hj => ?_) a6 a7
          by_cases hji : j = i.toNat
          · subst hji
            rw [st2_s]
            exact hday _ (by omega)
          · exact rd_j hji (hcp j (by omega))
      have lpL : ∀ (q : Nat) (be bm la mo e : Int) (κ2 : Ks), DK κ κ2 (kF κ set) (ndF κ set) (fun i => (((askL set (κ 40 11).toNat).getD i 0 : Nat) : Int)) → (∀ i, i < kF κ set → κ2 96 i = dg (kF κ set) c i) → (c = 0 ∧ be = -1 ∨ 0 < c ∧ be = lkC (ndF κ set) u (kF κ set) (dsB (ndF κ set) u (kF κ set) (c - 1)) ∧ bm = msC (ndF κ set) (kF κ set) (dsB (ndF κ set) u (kF κ set) (c - 1)) ∧ ∀ i, i < kF κ set → κ2 97 i = dg (kF κ set) (dsB (ndF κ set) u (kF κ set) (c - 1)) i) → 0 ≤ bm ∧ bm ≤ 84000 ∧ -1 ≤ be ∧ be ≤ 588000 → 0 ≤ e ∧ e ≤ 7 → (q : Int) = 7 - e → (∀ x : Nat, x < 7 → κ2 98 x = ldD (ndF κ set) (dg (kF κ set) c) x (kF κ set)) → la = lkD (fun d => ldD (ndF κ set) (dg (kF κ set) c) d (kF κ set)) u e.toNat → mo = msD (fun d => ldD (ndF κ set) (dg (kF κ set) c) d (kF κ set)) e.toNat → G (XR B n0) mX10_findDays 2 (fun r V1 κ1 => r = some (Iv (lkC (ndF κ set) u (kF κ set) (cF κ set u))) ∧ V1 = V ∧ DK κ κ1 (kF κ set) (ndF κ set) (fun i => (((askL set (κ 40 11).toNat).getD i 0 : Nat) : Int)) ∧ ∀ i, i < kF κ set → κ1 97 i = dg (kF κ set) (cF κ set u) i) V 0 0 160 [some (Rf 40), some (Iv set), some (Iv u), some (Iv be), some (Iv bm), some (Iv 1), some (Iv la), some (Iv mo), some (Iv e)] [] V κ2 := by
        intro q
        induction q using Nat.strongRecOn with
        | ind q ihq =>
          intro be bm la mo e κ2 hD hday hbest hbr hd hq hon hla hmo
          obtain ⟨⟨⟨j0, j1, j2, j3, j4, j5, j6, j7, j8, j9⟩, jS, jH, jR, jT, jC, jG, jL, jZ⟩, hS2, e54, hnd⟩ := id hD
          have k6 := hk6
          have hR1 : ∀ x, x < 7 → 0 ≤ (fun d => ldD (ndF κ set) (dg (kF κ set) c) d (kF κ set)) x ∧ (fun d => ldD (ndF κ set) (dg (kF κ set) c) d (kF κ set)) x ≤ 84000 := fun x hx => by have := ldD_R (nd := ndF κ set) (k := kF κ set) (fun i hi => ndF_R hI set hi) (dg (kF κ set) c) x (kF κ set) (Nat.le_refl _); have k6 := hk6; exact ⟨this.1, by show ldD (ndF κ set) (dg (kF κ set) c) x (kF κ set) ≤ _; omega⟩
          have hR2 := lkD_R hR1 (by omega : 0 ≤ u) (by omega) e.toNat (by omega)
          have hR3 := msD_R hR1 (by omega) e.toNat (by omega)
          refine g_iload 162 dX10_findDays_160 rfl rfl ?_
          refine g_bipush 164 dX10_findDays_162 (by decide) rfl ?_
          refine g_icmp_ge 228 167 dX10_findDays_164 (by first | assumption | omega) (by decide) (by decide) rfl (fun h301 => ?_) (fun h301 => ?_)
          · refine g_iload_n 229 dX10_findDays_228 rfl rfl ?_
            refine g_if_lt 251 232 dX10_findDays_229 (by first | assumption | omega) (by decide) rfl (fun h302 => ?_) (fun h302 => ?_)
            · refine g_iload 253 dX10_findDays_251 rfl rfl ?_
              refine g_istore_n (L' := [some (Rf 40), some (Iv set), some (Iv u), some (Iv la), some (Iv bm), some (Iv 1), some (Iv la), some (Iv mo), some (Iv e)]) 254 dX10_findDays_253 rfl (by decide) rfl ?_
              refine g_iload 256 dX10_findDays_254 rfl rfl ?_
              refine g_istore (L' := [some (Rf 40), some (Iv set), some (Iv u), some (Iv la), some (Iv mo), some (Iv 1), some (Iv la), some (Iv mo), some (Iv e)]) 258 dX10_findDays_256 rfl (by decide) rfl ?_
              refine g_iconst 259 dX10_findDays_258 (by decide) rfl ?_
              refine g_istore (L' := [some (Rf 40), some (Iv set), some (Iv u), some (Iv la), some (Iv mo), some (Iv 1), some (Iv la), some (Iv mo), some (Iv 0)]) 261 dX10_findDays_259 rfl (by decide) rfl ?_
              have ee : e = 7 := by omega
              subst ee
              have hla : la = lkC (ndF κ set) u (kF κ set) c := hla
              have hmo : mo = msC (ndF κ set) (kF κ set) c := hmo
              have hds : dsB (ndF κ set) u (kF κ set) c = c := by
                rcases hbest with hb | hb
                · rw [hb.1]
                  rfl
                · have e1 := dsB_s (ndF κ set) u (kF κ set) (c - 1)
                  have h3 := lkC_0 hI (set := set) h_u.1 (dsB (ndF κ set) u (kF κ set) (c - 1))
                  rw [show c - 1 + 1 = c by omega] at e1
                  rw [e1, if_pos (show btr (ndF κ set) u (kF κ set) c (dsB (ndF κ set) u (kF κ set) (c - 1)) by have h1 := hb.2.1; have h2 := hb.2.2.1; unfold btr; omega)]
              exact lpP (kF κ set) la mo 0 κ2 hD hday ⟨hla, hmo, hds⟩ (by omega) (by omega) (by omega) (fun j hj => by omega) _ _
            refine g_iload 234 dX10_findDays_232 rfl rfl ?_
            refine g_iload_n 235 dX10_findDays_234 rfl rfl ?_
            refine g_icmp_lt 251 238 dX10_findDays_235 (by first | assumption | omega) (by first | assumption | omega) (by decide) rfl (fun h303 => ?_) (fun h303 => ?_)
            · refine g_iload 253 dX10_findDays_251 rfl rfl ?_
              refine g_istore_n (L' := [some (Rf 40), some (Iv set), some (Iv u), some (Iv la), some (Iv bm), some (Iv 1), some (Iv la), some (Iv mo), some (Iv e)]) 254 dX10_findDays_253 rfl (by decide) rfl ?_
              refine g_iload 256 dX10_findDays_254 rfl rfl ?_
              refine g_istore (L' := [some (Rf 40), some (Iv set), some (Iv u), some (Iv la), some (Iv mo), some (Iv 1), some (Iv la), some (Iv mo), some (Iv e)]) 258 dX10_findDays_256 rfl (by decide) rfl ?_
              refine g_iconst 259 dX10_findDays_258 (by decide) rfl ?_
              refine g_istore (L' := [some (Rf 40), some (Iv set), some (Iv u), some (Iv la), some (Iv mo), some (Iv 1), some (Iv la), some (Iv mo), some (Iv 0)]) 261 dX10_findDays_259 rfl (by decide) rfl ?_
              have ee : e = 7 := by omega
              subst ee
              have hla : la = lkC (ndF κ set) u (kF κ set) c := hla
              have hmo : mo = msC (ndF κ set) (kF κ set) c := hmo
              have hds : dsB (ndF κ set) u (kF κ set) c = c := by
                rcases hbest with hb | hb
                · rw [hb.1]
                  rfl
                · have e1 := dsB_s (ndF κ set) u (kF κ set) (c - 1)
                  have h3 := lkC_0 hI (set := set) h_u.1 (dsB (ndF κ set) u (kF κ set) (c - 1))
                  rw [show c - 1 + 1 = c by omega] at e1
                  rw [e1, if_pos (show btr (ndF κ set) u (kF κ set) c (dsB (ndF κ set) u (kF κ set) (c - 1)) by have h1 := hb.2.1; have h2 := hb.2.2.1; unfold btr; omega)]
              exact lpP (kF κ set) la mo 0 κ2 hD hday ⟨hla, hmo, hds⟩ (by omega) (by omega) (by omega) (fun j hj => by omega) _ _
            refine g_iload 240 dX10_findDays_238 rfl rfl ?_
            refine g_iload_n 241 dX10_findDays_240 rfl rfl ?_
            refine g_icmp_ne 290 244 dX10_findDays_241 (by first | assumption | omega) (by first | assumption | omega) (by decide) rfl (fun h304 => ?_) (fun h304 => ?_)
            · refine g_aload_n 291 dX10_findDays_290 rfl rfl ?_
              refine r_getI 294 (κ2 40 54) dX10_findDays_291 fgX10_245 kd_40 ly_40_54 rfl (rfl) (fun r305 => ?_)
              refine g_iconst 295 dX10_findDays_294 (by decide) rfl ?_
              refine g_isub 296 dX10_findDays_295 rfl ?_
              refine g_istore (L' := [some (Rf 40), some (Iv set), some (Iv u), some (Iv be), some (Iv bm), some (Iv 1), some (Iv la), some (Iv mo), some (Iv ((κ2 40 54) - 1))]) 298 dX10_findDays_296 rfl (by decide) rfl ?_
              have ee : e = 7 := by omega
              subst ee
              have hla : la = lkC (ndF κ set) u (kF κ set) c := hla
              have hmo : mo = msC (ndF κ set) (kF κ set) c := hmo
              rcases hbest with hb | hb
              · exfalso
                omega
              · have hds : dsB (ndF κ set) u (kF κ set) c = dsB (ndF κ set) u (kF κ set) (c - 1) := by
                  have e1 := dsB_s (ndF κ set) u (kF κ set) (c - 1)
                  rw [show c - 1 + 1 = c by omega] at e1
                  rw [e1, if_neg (show ¬ btr (ndF κ set) u (kF κ set) c (dsB (ndF κ set) u (kF κ set) (c - 1)) by have h1 := hb.2.1; have h2 := hb.2.2.1; unfold btr; omega)]
                exact lpQ (kF κ set) be bm _ κ2 hD (by rw [hds]; exact hb.2) hbr (by omega) (by omega) (fun j hj => hday j (by omega)) (fun j h1 h2 => by omega) _ _
            refine g_iload 246 dX10_findDays_244 rfl rfl ?_
            refine g_iload 248 dX10_findDays_246 rfl rfl ?_
            refine g_icmp_ge 290 251 dX10_findDays_248 (by first | assumption | omega) (by first | assumption | omega) (by decide) rfl (fun h306 => ?_) (fun h306 => ?_)
            · refine g_aload_n 291 dX10_findDays_290 rfl rfl ?_
              refine r_getI 294 (κ2 40 54) dX10_findDays_291 fgX10_245 kd_40 ly_40_54 rfl (rfl) (fun r307 => ?_)
              refine g_iconst 295 dX10_findDays_294 (by decide) rfl ?_
              refine g_isub 296 dX10_findDays_295 rfl ?_
              refine g_istore (L' := [some (Rf 40), some (Iv set), some (Iv u), some (Iv be), some (Iv bm), some (Iv 1), some (Iv la), some (Iv mo), some (Iv ((κ2 40 54) - 1))]) 298 dX10_findDays_296 rfl (by decide) rfl ?_
              have ee : e = 7 := by omega
              subst ee
              have hla : la = lkC (ndF κ set) u (kF κ set) c := hla
              have hmo : mo = msC (ndF κ set) (kF κ set) c := hmo
              rcases hbest with hb | hb
              · exfalso
                omega
              · have hds : dsB (ndF κ set) u (kF κ set) c = dsB (ndF κ set) u (kF κ set) (c - 1) := by
                  have e1 := dsB_s (ndF κ set) u (kF κ set) (c - 1)
                  rw [show c - 1 + 1 = c by omega] at e1
                  rw [e1, if_neg (show ¬ btr (ndF κ set) u (kF κ set) c (dsB (ndF κ set) u (kF κ set) (c - 1)) by have h1 := hb.2.1; have h2 := hb.2.2.1; unfold btr; omega)]
                exact lpQ (kF κ set) be bm _ κ2 hD (by rw [hds]; exact hb.2) hbr (by omega) (by omega) (fun j hj => hday j (by omega)) (fun j h1 h2 => by omega) _ _
            refine g_iload 253 dX10_findDays_251 rfl rfl ?_
            refine g_istore_n (L' := [some (Rf 40), some (Iv set), some (Iv u), some (Iv la), some (Iv bm), some (Iv 1), some (Iv la), some (Iv mo), some (Iv e)]) 254 dX10_findDays_253 rfl (by decide) rfl ?_
            refine g_iload 256 dX10_findDays_254 rfl rfl ?_
            refine g_istore (L' := [some (Rf 40), some (Iv set), some (Iv u), some (Iv la), some (Iv mo), some (Iv 1), some (Iv la), some (Iv mo), some (Iv e)]) 258 dX10_findDays_256 rfl (by decide) rfl ?_
            refine g_iconst 259 dX10_findDays_258 (by decide) rfl ?_
            refine g_istore (L' := [some (Rf 40), some (Iv set), some (Iv u), some (Iv la), some (Iv mo), some (Iv 1), some (Iv la), some (Iv mo), some (Iv 0)]) 261 dX10_findDays_259 rfl (by decide) rfl ?_
            have ee : e = 7 := by omega
            subst ee
            have hla : la = lkC (ndF κ set) u (kF κ set) c := hla
            have hmo : mo = msC (ndF κ set) (kF κ set) c := hmo
            have hds : dsB (ndF κ set) u (kF κ set) c = c := by
              rcases hbest with hb | hb
              · rw [hb.1]
                rfl
              · have e1 := dsB_s (ndF κ set) u (kF κ set) (c - 1)
                have h3 := lkC_0 hI (set := set) h_u.1 (dsB (ndF κ set) u (kF κ set) (c - 1))
                rw [show c - 1 + 1 = c by omega] at e1
                rw [e1, if_pos (show btr (ndF κ set) u (kF κ set) c (dsB (ndF κ set) u (kF κ set) (c - 1)) by have h1 := hb.2.1; have h2 := hb.2.2.1; unfold btr; omega)]
            exact lpP (kF κ set) la mo 0 κ2 hD hday ⟨hla, hmo, hds⟩ (by omega) (by omega) (by omega) (fun j hj => by omega) _ _
          refine g_iload 169 dX10_findDays_167 rfl rfl ?_
          refine g_aload_n 170 dX10_findDays_169 rfl rfl ?_
          refine g_getC 173 dX10_findDays_170 fgX10_132 kd_40 ly_40_57 rfl ?_
          refine g_iload 175 dX10_findDays_173 rfl rfl ?_
          have hx0 := hon e.toNat (by omega)
          have hx1 := hR1 e.toNat (by omega)
          have hx2 : ldD (ndF κ set) (dg (kF κ set) c) e.toNat (kF κ set) = (fun d => ldD (ndF κ set) (dg (kF κ set) c) d (kF κ set)) e.toNat := rfl
          refine r_iald 176 ((e).toNat) (κ2 98 ((e).toNat)) dX10_findDays_175 kd_98 (by decide) (by omega) (rfl) rfl (rfl) (fun r308 => ?_)
          refine g_iload_n 177 dX10_findDays_176 rfl rfl ?_
          refine g_icmp_le 192 180 dX10_findDays_177 (by first | assumption | omega) (by first | assumption | omega) (by decide) rfl (fun h309 => ?_) (fun h309 => ?_)
          · refine g_iconst 193 dX10_findDays_192 (by decide) rfl ?_
            refine g_iadd 194 dX10_findDays_193 rfl ?_
            refine g_istore (L' := [some (Rf 40), some (Iv set), some (Iv u), some (Iv be), some (Iv bm), some (Iv 1), some (Iv (la + 0)), some (Iv mo), some (Iv e)]) 196 dX10_findDays_194 rfl (by decide) rfl ?_
            refine g_aload_n 197 dX10_findDays_196 rfl rfl ?_
            refine g_getC 200 dX10_findDays_197 fgX10_132 kd_40 ly_40_57 rfl ?_
            refine g_iload 202 dX10_findDays_200 rfl rfl ?_
            refine r_iald 203 ((e).toNat) (κ2 98 ((e).toNat)) dX10_findDays_202 kd_98 (by decide) (by omega) (rfl) rfl (rfl) (fun r310 => ?_)
            refine g_iload 205 dX10_findDays_203 rfl rfl ?_
            refine g_icmp_le 218 208 dX10_findDays_205 (by first | assumption | omega) (by first | assumption | omega) (by decide) rfl (fun h311 => ?_) (fun h311 => ?_)
            · refine g_iload 220 dX10_findDays_218 rfl rfl ?_
              refine g_istore (L' := [some (Rf 40), some (Iv set), some (Iv u), some (Iv be), some (Iv bm), some (Iv 1), some (Iv (la + 0)), some (Iv mo), some (Iv e)]) 222 dX10_findDays_220 rfl (by decide) rfl ?_
              refine g_iinc (L' := [some (Rf 40), some (Iv set), some (Iv u), some (Iv be), some (Iv bm), some (Iv 1), some (Iv (la + 0)), some (Iv mo), some (Iv (e + 1))]) 225 dX10_findDays_222 rfl rfl (by decide) rfl ?_
              refine g_goto 160 dX10_findDays_225 (by decide) ?_
              refine ihq (q - 1) (by omega) be bm _ _ (e + 1) κ2 hD hday hbest hbr (by omega) (by omega) hon ?_ ?_
              · rw [show (e + 1).toNat = e.toNat + 1 by omega]
                unfold lkD
                rw [hla]
                have hx := hon e.toNat (by omega)
                first | (rw [if_pos (by omega)]; omega) | (rw [if_neg (by omega)])
              · rw [show (e + 1).toNat = e.toNat + 1 by omega]
                unfold msD
                rw [← hmo]
                have hx := hon e.toNat (by omega)
                omega
            refine g_aload_n 209 dX10_findDays_208 rfl rfl ?_
            refine g_getC 212 dX10_findDays_209 fgX10_132 kd_40 ly_40_57 rfl ?_
            refine g_iload 214 dX10_findDays_212 rfl rfl ?_
            refine r_iald 215 ((e).toNat) (κ2 98 ((e).toNat)) dX10_findDays_214 kd_98 (by decide) (by omega) (rfl) rfl (rfl) (fun r312 => ?_)
            refine g_goto 220 dX10_findDays_215 (by decide) ?_
            refine g_istore (L' := [some (Rf 40), some (Iv set), some (Iv u), some (Iv be), some (Iv bm), some (Iv 1), some (Iv (la + 0)), some (Iv (κ2 98 ((e).toNat))), some (Iv e)]) 222 dX10_findDays_220 rfl (by decide) rfl ?_
            refine g_iinc (L' := [some (Rf 40), some (Iv set), some (Iv u), some (Iv be), some (Iv bm), some (Iv 1), some (Iv (la + 0)), some (Iv (κ2 98 ((e).toNat))), some (Iv (e + 1))]) 225 dX10_findDays_222 rfl rfl (by decide) rfl ?_
            refine g_goto 160 dX10_findDays_225 (by decide) ?_
            refine ihq (q - 1) (by omega) be bm _ _ (e + 1) κ2 hD hday hbest hbr (by omega) (by omega) hon ?_ ?_
            · rw [show (e + 1).toNat = e.toNat + 1 by omega]
              unfold lkD
              rw [hla]
              have hx := hon e.toNat (by omega)
              first | (rw [if_pos (by omega)]; omega) | (rw [if_neg (by omega)])
            · rw [show (e + 1).toNat = e.toNat + 1 by omega]
              unfold msD
              rw [← hmo]
              have hx := hon e.toNat (by omega)
              omega
          refine g_aload_n 181 dX10_findDays_180 rfl rfl ?_
          refine g_getC 184 dX10_findDays_181 fgX10_132 kd_40 ly_40_57 rfl ?_
          refine g_iload 186 dX10_findDays_184 rfl rfl ?_
          refine r_iald 187 ((e).toNat) (κ2 98 ((e).toNat)) dX10_findDays_186 kd_98 (by decide) (by omega) (rfl) rfl (rfl) (fun r313 => ?_)
          refine g_iload_n 188 dX10_findDays_187 rfl rfl ?_
          refine g_isub 189 dX10_findDays_188 rfl ?_
          refine g_goto 193 dX10_findDays_189 (by decide) ?_
          refine g_iadd 194 dX10_findDays_193 rfl ?_
          refine g_istore (L' := [some (Rf 40), some (Iv set), some (Iv u), some (Iv be), some (Iv bm), some (Iv 1), some (Iv (la + ((κ2 98 ((e).toNat)) - u))), some (Iv mo), some (Iv e)]) 196 dX10_findDays_194 rfl (by decide) rfl ?_
          refine g_aload_n 197 dX10_findDays_196 rfl rfl ?_
          refine g_getC 200 dX10_findDays_197 fgX10_132 kd_40 ly_40_57 rfl ?_
          refine g_iload 202 dX10_findDays_200 rfl rfl ?_
          refine r_iald 203 ((e).toNat) (κ2 98 ((e).toNat)) dX10_findDays_202 kd_98 (by decide) (by omega) (rfl) rfl (rfl) (fun r314 => ?_)
          refine g_iload 205 dX10_findDays_203 rfl rfl ?_
          refine g_icmp_le 218 208 dX10_findDays_205 (by first | assumption | omega) (by first | assumption | omega) (by decide) rfl (fun h315 => ?_) (fun h315 => ?_)
          · refine g_iload 220 dX10_findDays_218 rfl rfl ?_
            refine g_istore (L' := [some (Rf 40), some (Iv set), some (Iv u), some (Iv be), some (Iv bm), some (Iv 1), some (Iv (la + ((κ2 98 ((e).toNat)) - u))), some (Iv mo), some (Iv e)]) 222 dX10_findDays_220 rfl (by decide) rfl ?_
            refine g_iinc (L' := [some (Rf 40), some (Iv set), some (Iv u), some (Iv be), some (Iv bm), some (Iv 1), some (Iv (la + ((κ2 98 ((e).toNat)) - u))), some (Iv mo), some (Iv (e + 1))]) 225 dX10_findDays_222 rfl rfl (by decide) rfl ?_
            refine g_goto 160 dX10_findDays_225 (by decide) ?_
            refine ihq (q - 1) (by omega) be bm _ _ (e + 1) κ2 hD hday hbest hbr (by omega) (by omega) hon ?_ ?_
            · rw [show (e + 1).toNat = e.toNat + 1 by omega]
              unfold lkD
              rw [hla]
              have hx := hon e.toNat (by omega)
              first | (rw [if_pos (by omega)]; omega) | (rw [if_neg (by omega)])
            · rw [show (e + 1).toNat = e.toNat + 1 by omega]
              unfold msD
              rw [← hmo]
              have hx := hon e.toNat (by omega)
              omega
          refine g_aload_n 209 dX10_findDays_208 rfl rfl ?_
          refine g_getC 212 dX10_findDays_209 fgX10_132 kd_40 ly_40_57 rfl ?_
          refine g_iload 214 dX10_findDays_212 rfl rfl ?_
          refine r_iald 215 ((e).toNat) (κ2 98 ((e).toNat)) dX10_findDays_214 kd_98 (by decide) (by omega) (rfl) rfl (rfl) (fun r316 => ?_)
          refine g_goto 220 dX10_findDays_215 (by decide) ?_
          refine g_istore (L' := [some (Rf 40), some (Iv set), some (Iv u), some (Iv be), some (Iv bm), some (Iv 1), some (Iv (la + ((κ2 98 ((e).toNat)) - u))), some (Iv (κ2 98 ((e).toNat))), some (Iv e)]) 222 dX10_findDays_220 rfl (by decide) rfl ?_
          refine g_iinc (L' := [some (Rf 40), some (Iv set), some (Iv u), some (Iv be), some (Iv bm), some (Iv 1), some (Iv (la + ((κ2 98 ((e).toNat)) - u))), some (Iv (κ2 98 ((e).toNat))), some (Iv (e + 1))]) 225 dX10_findDays_222 rfl rfl (by decide) rfl ?_
          refine g_goto 160 dX10_findDays_225 (by decide) ?_
          refine ihq (q - 1) (by omega) be bm _ _ (e + 1) κ2 hD hday hbest hbr (by omega) (by omega) hon ?_ ?_
          · rw [show (e + 1).toNat = e.toNat + 1 by omega]
            unfold lkD
            rw [hla]
            have hx := hon e.toNat (by omega)
            first | (rw [if_pos (by omega)]; omega) | (rw [if_neg (by omega)])
          · rw [show (e + 1).toNat = e.toNat + 1 by omega]
            unfold msD
            rw [← hmo]
            have hx := hon e.toNat (by omega)
            omega
      have lpA : ∀ (q : Nat) (be bm i : Int) (κ2 : Ks), DK κ κ2 (kF κ set) (ndF κ set) (fun i => (((askL set (κ 40 11).toNat).getD i 0 : Nat) : Int)) → (∀ i, i < kF κ set → κ2 96 i = dg (kF κ set) c i) → (c = 0 ∧ be = -1 ∨ 0 < c ∧ be = lkC (ndF κ set) u (kF κ set) (dsB (ndF κ set) u (kF κ set) (c - 1)) ∧ bm = msC (ndF κ set) (kF κ set) (dsB (ndF κ set) u (kF κ set) (c - 1)) ∧ ∀ i, i < kF κ set → κ2 97 i = dg (kF κ set) (dsB (ndF κ set) u (kF κ set) (c - 1)) i) → 0 ≤ bm ∧ bm ≤ 84000 ∧ -1 ≤ be ∧ be ≤ 588000 → 0 ≤ i ∧ i ≤ kF κ set → (q : Int) = kF κ set - i → (∀ x : Nat, x < 7 → κ2 98 x = ldD (ndF κ set) (dg (kF κ set) c) x i.toNat) → ∀ a7 a8 : Option Av, G (XR B n0) mX10_findDays 2 (fun r V1 κ1 => r = some (Iv (lkC (ndF κ set) u (kF κ set) (cF κ set u))) ∧ V1 = V ∧ DK κ κ1 (kF κ set) (ndF κ set) (fun i => (((askL set (κ 40 11).toNat).getD i 0 : Nat) : Int)) ∧ ∀ i, i < kF κ set → κ1 97 i = dg (kF κ set) (cF κ set u) i) V 0 0 114 [some (Rf 40), some (Iv set), some (Iv u), some (Iv be), some (Iv bm), some (Iv 1), some (Iv i), a7, a8] [] V κ2 := by
        intro q
        induction q using Nat.strongRecOn with
        | ind q ihq =>
          intro be bm i κ2 hD hday hbest hbr hi hq hon a7 a8
          obtain ⟨⟨⟨j0, j1, j2, j3, j4, j5, j6, j7, j8, j9⟩, jS, jH, jR, jT, jC, jG, jL, jZ⟩, hS2, e54, hnd⟩ := id hD
          have k6 := hk6
          refine g_iload 116 dX10_findDays_114 rfl rfl ?_
          refine g_aload_n 117 dX10_findDays_116 rfl rfl ?_
          refine r_getI 120 (κ2 40 54) dX10_findDays_117 fgX10_245 kd_40 ly_40_54 rfl (rfl) (fun r301 => ?_)
          refine g_icmp_ge 151 123 dX10_findDays_120 (by first | assumption | omega) (by first | assumption | omega) (by decide) rfl (fun h302 => ?_) (fun h302 => ?_)
          · refine g_iconst 152 dX10_findDays_151 (by decide) rfl ?_
            refine g_istore (L' := [some (Rf 40), some (Iv set), some (Iv u), some (Iv be), some (Iv bm), some (Iv 1), some (Iv 0), a7, a8]) 154 dX10_findDays_152 rfl (by decide) rfl ?_
            refine g_iconst 155 dX10_findDays_154 (by decide) rfl ?_
            refine g_istore (L' := [some (Rf 40), some (Iv set), some (Iv u), some (Iv be), some (Iv bm), some (Iv 1), some (Iv 0), some (Iv 0), a8]) 157 dX10_findDays_155 rfl (by decide) rfl ?_
            refine g_iconst 158 dX10_findDays_157 (by decide) rfl ?_
            refine g_istore (L' := [some (Rf 40), some (Iv set), some (Iv u), some (Iv be), some (Iv bm), some (Iv 1), some (Iv 0), some (Iv 0), some (Iv 0)]) 160 dX10_findDays_158 rfl (by decide) rfl ?_
            have ei : i = kF κ set := by omega
            subst ei
            exact lpL 7 be bm 0 0 0 κ2 hD hday hbest hbr (by omega) (by omega) (fun x hx => hon x hx) rfl rfl
          refine g_aload_n 124 dX10_findDays_123 rfl rfl ?_
          refine g_getC 127 dX10_findDays_124 fgX10_132 kd_40 ly_40_57 rfl ?_
          refine g_aload_n 128 dX10_findDays_127 rfl rfl ?_
          refine g_getC 131 dX10_findDays_128 fgX10_126 kd_40 ly_40_55 rfl ?_
          refine g_iload 133 dX10_findDays_131 rfl rfl ?_
          have hd1 := hday i.toNat (by omega)
          have hd7 := dg_lt (kF κ set) c i.toNat
          have hn1 := (hnd i.toNat (by omega)).1
          have hn2 := ndF_R hI set (i := i.toNat) (by omega)
          have hx0 := hon (κ2 96 i.toNat).toNat (by omega)
          have hR := ldD_R (nd := ndF κ set) (k := kF κ set) (fun i hi => ndF_R hI set hi) (dg (kF κ set) c) (κ2 96 i.toNat).toNat i.toNat (by omega)
          refine r_iald 134 ((i).toNat) (κ2 96 ((i).toNat)) dX10_findDays_133 kd_96 (by decide) (by omega) (rfl) rfl (rfl) (fun r303 => ?_)
          refine g_dup2 135 dX10_findDays_134 rfl ?_
          refine r_iald 136 ((κ2 96 ((i).toNat)).toNat) (κ2 98 ((κ2 96 ((i).toNat)).toNat)) dX10_findDays_135 kd_98 (by decide) (by omega) (rfl) rfl (rfl) (fun r304 => ?_)
          refine g_aload_n 137 dX10_findDays_136 rfl rfl ?_
          refine g_getC 140 dX10_findDays_137 fgX10_123 kd_40 ly_40_53 rfl ?_
          refine g_iload 142 dX10_findDays_140 rfl rfl ?_
          refine r_iald 143 ((i).toNat) (κ2 94 ((i).toNat)) dX10_findDays_142 kd_94 (by decide) (by omega) (rfl) rfl (rfl) (fun r305 => ?_)
          refine g_iadd 144 dX10_findDays_143 rfl ?_
          refine r_iast 145 ((κ2 96 ((i).toNat)).toNat) dX10_findDays_144 kd_98 (by decide) ly_98 (by omega) (rfl) (by omega) rfl ?_
          refine g_iinc (L' := [some (Rf 40), some (Iv set), some (Iv u), some (Iv be), some (Iv bm), some (Iv 1), some (Iv (i + 1)), a7, a8]) 148 dX10_findDays_145 rfl rfl (by decide) rfl ?_
          refine g_goto 114 dX10_findDays_148 (by decide) ?_
          refine ihq (q - 1) (by omega) be bm (i + 1) _ (hD.s (by decide)) (fun j hj => rd_t (by decide) (hday j hj)) (hbest.imp id (fun z => ⟨z.1, z.2.1, z.2.2.1, fun j hj => rd_t (by decide) (z.2.2.2 j hj)⟩)) hbr (by omega) (by omega) (fun x hx => ?_) a7 a8
          rw [show (i + 1).toNat = i.toNat + 1 by omega]
          unfold ldD
          by_cases hxd : x = (κ2 96 i.toNat).toNat
          · subst hxd
            rw [st2_s, if_pos (by omega), (hnd i.toNat (by omega)).1, hon _ (by omega)]
          · rw [if_neg (by omega)]
            rw [st2_j hxd, hon x hx]
            omega
      have lpZ : ∀ (q : Nat) (be bm i : Int) (κ2 : Ks), DK κ κ2 (kF κ set) (ndF κ set) (fun i => (((askL set (κ 40 11).toNat).getD i 0 : Nat) : Int)) → (∀ i, i < kF κ set → κ2 96 i = dg (kF κ set) c i) → (c = 0 ∧ be = -1 ∨ 0 < c ∧ be = lkC (ndF κ set) u (kF κ set) (dsB (ndF κ set) u (kF κ set) (c - 1)) ∧ bm = msC (ndF κ set) (kF κ set) (dsB (ndF κ set) u (kF κ set) (c - 1)) ∧ ∀ i, i < kF κ set → κ2 97 i = dg (kF κ set) (dsB (ndF κ set) u (kF κ set) (c - 1)) i) → 0 ≤ bm ∧ bm ≤ 84000 ∧ -1 ≤ be ∧ be ≤ 588000 → 0 ≤ i ∧ i ≤ 7 → (q : Int) = 7 - i → (∀ x : Nat, (x : Int) < i → κ2 98 x = 0) → ∀ a7 a8 : Option Av, G (XR B n0) mX10_findDays 2 (fun r V1 κ1 => r = some (Iv (lkC (ndF κ set) u (kF κ set) (cF κ set u))) ∧ V1 = V ∧ DK κ κ1 (kF κ set) (ndF κ set) (fun i => (((askL set (κ 40 11).toNat).getD i 0 : Nat) : Int)) ∧ ∀ i, i < kF κ set → κ1 97 i = dg (kF κ set) (cF κ set u) i) V 0 0 90 [some (Rf 40), some (Iv set), some (Iv u), some (Iv be), some (Iv bm), some (Iv 1), some (Iv i), a7, a8] [] V κ2 := by
        intro q
        induction q using Nat.strongRecOn with
        | ind q ihq =>
          intro be bm i κ2 hD hday hbest hbr hi hq hon a7 a8
          obtain ⟨⟨⟨j0, j1, j2, j3, j4, j5, j6, j7, j8, j9⟩, jS, jH, jR, jT, jC, jG, jL, jZ⟩, hS2, e54, hnd⟩ := id hD
          have k6 := hk6
          refine g_iload 92 dX10_findDays_90 rfl rfl ?_
          refine g_bipush 94 dX10_findDays_92 (by decide) rfl ?_
          refine g_icmp_ge 111 97 dX10_findDays_94 (by first | assumption | omega) (by decide) (by decide) rfl (fun h301 => ?_) (fun h301 => ?_)
          · refine g_iconst 112 dX10_findDays_111 (by decide) rfl ?_
            refine g_istore (L' := [some (Rf 40), some (Iv set), some (Iv u), some (Iv be), some (Iv bm), some (Iv 1), some (Iv 0), a7, a8]) 114 dX10_findDays_112 rfl (by decide) rfl ?_
            exact lpA (kF κ set) be bm 0 κ2 hD hday hbest hbr (by omega) (by omega) (fun x hx => hon x (by omega)) a7 a8
          refine g_aload_n 98 dX10_findDays_97 rfl rfl ?_
          refine g_getC 101 dX10_findDays_98 fgX10_132 kd_40 ly_40_57 rfl ?_
          refine g_iload 103 dX10_findDays_101 rfl rfl ?_
          refine g_iconst 104 dX10_findDays_103 (by decide) rfl ?_
          refine r_iast 105 ((i).toNat) dX10_findDays_104 kd_98 (by decide) ly_98 (by omega) (rfl) (by omega) rfl ?_
          refine g_iinc (L' := [some (Rf 40), some (Iv set), some (Iv u), some (Iv be), some (Iv bm), some (Iv 1), some (Iv (i + 1)), a7, a8]) 108 dX10_findDays_105 rfl rfl (by decide) rfl ?_
          refine g_goto 90 dX10_findDays_108 (by decide) ?_
          refine ihq (q - 1) (by omega) be bm (i + 1) _ (hD.s (by decide)) (fun j hj => rd_t (by decide) (hday j hj)) (hbest.imp id (fun z => ⟨z.1, z.2.1, z.2.2.1, fun j hj => rd_t (by decide) (z.2.2.2 j hj)⟩)) hbr (by omega) (by omega) (fun x hx => ?_) a7 a8
          by_cases hxd : x = i.toNat
          · subst hxd
            exact st2_s _ _ _ _
          · exact rd_j hxd (hon x (by omega))
      refine g_iload 84 dX10_findDays_82 rfl rfl ?_
      refine g_if_eq 360 87 dX10_findDays_84 (by decide) (by decide) rfl (fun z => absurd z (by decide)) (fun _ => ?_)
      refine g_iconst 88 dX10_findDays_87 (by decide) rfl ?_
      refine g_istore (L' := [some (Rf 40), some (Iv set), some (Iv u), some (Iv be), some (Iv bm), some (Iv 1), some (Iv 0), a7, a8]) 90 dX10_findDays_88 rfl (by decide) rfl ?_
      exact lpZ 7 be bm 0 κ2 hD hday hbest hbr (by omega) (by omega) (fun x hx => by omega) _ _
  have lpG : ∀ (m : Nat) (s : Int) (κ2 : Ks), MI κ2 → scr κ κ2 → 0 ≤ s ∧ s ≤ κ 40 11 → (m : Int) = κ 40 11 - s → κ2 40 54 = ((askL set s.toNat).length : Int) → (∀ i, i < (askL set s.toNat).length → κ2 93 i = (((askL set s.toNat).getD i 0 : Nat) : Int) ∧ κ2 94 i = needM κ ((askL set s.toNat).getD i 0) ∧ κ2 96 i = 0) → ∀ a4 a5 a6 a7 a8 : Option Av, G (XR B n0) mX10_findDays 2 (fun r V1 κ1 => r = some (Iv (lkC (ndF κ set) u (kF κ set) (cF κ set u))) ∧ V1 = V ∧ DK κ κ1 (kF κ set) (ndF κ set) (fun i => (((askL set (κ 40 11).toNat).getD i 0 : Nat) : Int)) ∧ ∀ i, i < kF κ set → κ1 97 i = dg (kF κ set) (cF κ set u) i) V 0 0 7 [some (Rf 40), some (Iv set), some (Iv u), some (Iv s), a4, a5, a6, a7, a8] [] V κ2 := by
    intro m
    induction m using Nat.strongRecOn with
    | ind m ih =>
      intro s κ2 hI2 hS2 hs hm hl ha a4 a5 a6 a7 a8
      obtain ⟨⟨j0, j1, j2, j3, j4, j5, j6, j7, j8, j9⟩, jS, jH, jR, jT, jC, jG, jL, jZ⟩ := id hI2
      have e11 : κ2 40 11 = κ 40 11 := hS2.1 11 (by decide) (by decide) (by decide)
      have k6 : ((askL set s.toNat).length : Int) ≤ 6 := by have := kF_le hI h_set.1 s.toNat (by omega); omega
      refine g_iload_n 8 dX10_findDays_7 rfl rfl ?_
      refine g_aload_n 9 dX10_findDays_8 rfl rfl ?_
      refine r_getI 12 (κ2 40 11) dX10_findDays_9 fgX10_135 kd_40 ly_40_11 rfl (rfl) (fun r101 => ?_)
      refine g_icmp_ge 74 15 dX10_findDays_12 (by first | assumption | omega) (by first | assumption | omega) (by decide) rfl (fun h102 => ?_) (fun h102 => ?_)
      · refine g_iconst 75 dX10_findDays_74 (by decide) rfl ?_
        refine g_istore_n (L' := [some (Rf 40), some (Iv set), some (Iv u), some (Iv (-1)), a4, a5, a6, a7, a8]) 76 dX10_findDays_75 rfl (by decide) rfl ?_
        refine g_iconst 77 dX10_findDays_76 (by decide) rfl ?_
        refine g_istore (L' := [some (Rf 40), some (Iv set), some (Iv u), some (Iv (-1)), some (Iv 0), a5, a6, a7, a8]) 79 dX10_findDays_77 rfl (by decide) rfl ?_
        refine g_iconst 80 dX10_findDays_79 (by decide) rfl ?_
        refine g_istore (L' := [some (Rf 40), some (Iv set), some (Iv u), some (Iv (-1)), some (Iv 0), some (Iv 1), a6, a7, a8]) 82 dX10_findDays_80 rfl (by decide) rfl ?_
        have es : s = κ 40 11 := by omega
        subst es
        have p7 : 0 < 7 ^ kF κ set := Nat.pow_pos (by decide)
        exact lpC (7 ^ kF κ set) 0 (-1) 0 κ2 ⟨hI2, hS2, hl, fun i hi => ⟨(ha i hi).2.1, (ha i hi).1⟩⟩ (fun i hi => by rw [dg_zero]; exact (ha i hi).2.2) p7 rfl (Or.inl ⟨rfl, rfl⟩) (by omega) _ _ _
      refine g_iload_n 16 dX10_findDays_15 rfl rfl ?_
      refine g_iload_n 17 dX10_findDays_16 rfl rfl ?_
      refine g_ishr 18 dX10_findDays_17 rfl ?_
      refine g_iconst 19 dX10_findDays_18 (by decide) rfl ?_
      refine g_iand 20 dX10_findDays_19 rfl ?_
      refine G.eqi (bit_I (by omega) (by omega)) ?_
      have b01 := bitI_01 set s.toNat
      have k7 : ((askL set (s.toNat + 1)).length : Int) ≤ 6 := by have := kF_le hI h_set.1 (s.toNat + 1) (by omega); omega
      refine g_iconst 21 dX10_findDays_20 (by decide) rfl ?_
      refine g_icmp_ne 68 24 dX10_findDays_21 (by first | assumption | omega) (by decide) (by decide) rfl (fun h103 => ?_) (fun h103 => ?_)
      · refine g_iinc (L' := [some (Rf 40), some (Iv set), some (Iv u), some (Iv (s + 1)), a4, a5, a6, a7, a8]) 71 dX10_findDays_68 rfl rfl (by decide) rfl ?_
        refine g_goto 7 dX10_findDays_71 (by decide) ?_
        exact ih (m - 1) (by omega) (s + 1) κ2 hI2 hS2 (by omega) (by omega) (by rw [show (s + 1).toNat = s.toNat + 1 by omega, askL_s, if_neg (by omega), List.append_nil]; exact hl) (by rw [show (s + 1).toNat = s.toNat + 1 by omega, askL_s, if_neg (by omega), List.append_nil]; exact ha) a4 a5 a6 a7 a8
      have k8 : ((askL set s.toNat).length : Int) + 1 ≤ 6 := by
        rw [askL_s, if_pos (by omega), List.length_append] at k7
        simp at k7
        omega
      have nr := need_R hI2 (s := s.toNat) (by omega)
      refine g_aload_n 25 dX10_findDays_24 rfl rfl ?_
      refine g_getC 28 dX10_findDays_25 fgX10_120 kd_40 ly_40_52 rfl ?_
      refine g_aload_n 29 dX10_findDays_28 rfl rfl ?_
      refine r_getI 32 (κ2 40 54) dX10_findDays_29 fgX10_245 kd_40 ly_40_54 rfl (rfl) (fun r104 => ?_)
      refine g_iload_n 33 dX10_findDays_32 rfl rfl ?_
      refine r_iast 34 ((κ2 40 54).toNat) dX10_findDays_33 kd_93 (by decide) ly_93 (by omega) (rfl) (by omega) rfl ?_
      obtain ⟨κ3, hκ3⟩ : ∃ κ3, κ3 = st2 κ2 93 (κ2 40 54).toNat s := ⟨_, rfl⟩
      rw [← hκ3]
      have hI3 : MI κ3 := by rw [hκ3]; exact hI2.scr (scr.sT _ (by decide))
      have hS3 : scr κ κ3 := by rw [hκ3]; exact hS2.tr (scr.sT _ (by decide))
      have e311 : κ3 40 11 = κ 40 11 := hS3.1 11 (by decide) (by decide) (by decide)
      have e354 : κ3 40 54 = κ2 40 54 := by rw [hκ3]; exact rd_t (by decide) rfl
      have nr3 := need_R hI3 (s := s.toNat) (by omega)
      refine g_aload_n 35 dX10_findDays_34 rfl rfl ?_
      refine g_getC 38 dX10_findDays_35 fgX10_123 kd_40 ly_40_53 rfl ?_
      refine g_aload_n 39 dX10_findDays_38 rfl rfl ?_
      refine r_getI 42 (κ3 40 54) dX10_findDays_39 fgX10_245 kd_40 ly_40_54 rfl (rfl) (fun r105 => ?_)
      refine g_aload_n 43 dX10_findDays_42 rfl rfl ?_
      refine g_iload_n 44 dX10_findDays_43 rfl rfl ?_
      refine e_V 47 0 0 [Iv s] [Iv (κ3 40 54), Rf 94] dX10_findDays_44 cvX10_248 mwX10_needOf kd_40 (by decide) rfl (Nat.le_of_ble_eq_true rfl) rfl rfl rfl (c_X10_needOf (by omega) hI3) ?_
      refine r_iast 48 ((κ3 40 54).toNat) dX10_findDays_47 kd_94 (by decide) ly_94 (by omega) (rfl) (by omega) rfl ?_
      refine g_aload_n 49 dX10_findDays_48 rfl rfl ?_
      refine g_getC 52 dX10_findDays_49 fgX10_126 kd_40 ly_40_55 rfl ?_
      refine g_aload_n 53 dX10_findDays_52 rfl rfl ?_
      refine r_getI 56 (κ3 40 54) dX10_findDays_53 fgX10_245 kd_40 ly_40_54 rfl (rd_t (by decide) (rfl)) (fun r106 => ?_)
      refine g_iconst 57 dX10_findDays_56 (by decide) rfl ?_
      refine r_iast 58 ((κ3 40 54).toNat) dX10_findDays_57 kd_96 (by decide) ly_96 (by omega) (rfl) (by omega) rfl ?_
      refine g_aload_n 59 dX10_findDays_58 rfl rfl ?_
      refine g_dup 60 dX10_findDays_59 rfl ?_
      refine r_getI 63 (κ3 40 54) dX10_findDays_60 fgX10_245 kd_40 ly_40_54 rfl (rd_t (by decide) (rd_t (by decide) (rfl))) (fun r107 => ?_)
      refine g_iconst 64 dX10_findDays_63 (by decide) rfl ?_
      refine g_iadd 65 dX10_findDays_64 rfl ?_
      refine g_putI 68 dX10_findDays_65 fpX10_245 (fun h => (nomatch h)) kd_40 ly_40_54 (by omega) rfl ?_
      refine g_iinc (L' := [some (Rf 40), some (Iv set), some (Iv u), some (Iv (s + 1)), a4, a5, a6, a7, a8]) 71 dX10_findDays_68 rfl rfl (by decide) rfl ?_
      refine g_goto 7 dX10_findDays_71 (by decide) ?_
      refine ih (m - 1) (by omega) (s + 1) _ (((hI3.scr (scr.sT _ (by decide))).scr (scr.sT _ (by decide))).scr (scr.s40 _ (by decide))) (((hS3.tr (scr.sT _ (by decide))).tr (scr.sT _ (by decide))).tr (scr.s40 _ (by decide))) (by omega) (by omega) ?_ ?_ a4 a5 a6 a7 a8
      · rw [show (s + 1).toNat = s.toNat + 1 by omega, askL_s, if_pos (by omega), List.length_append]
        refine rd_s rfl rfl ?_
        simp
        omega
      · rw [show (s + 1).toNat = s.toNat + 1 by omega, askL_s, if_pos (by omega)]
        intro i hi
        rw [List.length_append] at hi
        simp at hi
        have en : (κ3 40 54).toNat = (askL set s.toNat).length := by omega
        have en2 : (κ2 40 54).toNat = (askL set s.toNat).length := by omega
        by_cases hl1 : i < (askL set s.toNat).length
        · rw [show (askL set s.toNat ++ [s.toNat]).getD i 0 = (askL set s.toNat).getD i 0 by rw [List.getD_eq_getElem?_getD, List.getD_eq_getElem?_getD, List.getElem?_append_left hl1]]
          have q := ha i hl1
          exact ⟨rd_t (by decide) (rd_t (by decide) (rd_t (by decide) (by rw [hκ3]; exact rd_j (by omega) q.1))), rd_t (by decide) (rd_t (by decide) (rd_j (by omega) (by rw [hκ3]; exact rd_t (by decide) q.2.1))), rd_t (by decide) (rd_j (by omega) (rd_t (by decide) (by rw [hκ3]; exact rd_t (by decide) q.2.2)))⟩
        · have ei : i = (askL set s.toNat).length := by omega
          rw [show (askL set s.toNat ++ [s.toNat]).getD i 0 = s.toNat by rw [List.getD_eq_getElem?_getD, List.getElem?_append_right (by omega), ei, Nat.sub_self]; rfl]
          rw [ei, ← en]
          exact ⟨rd_t (by decide) (rd_t (by decide) (rd_t (by decide) (by rw [e354, hκ3]; exact rd_s rfl rfl (by omega)))), rd_t (by decide) (rd_t (by decide) (rd_s rfl rfl (need_scr hS3 _))), rd_t (by decide) (rd_s rfl rfl rfl)⟩
  refine g_aload_n 1 dX10_findDays_0 rfl rfl ?_
  refine g_iconst 2 dX10_findDays_1 (by decide) rfl ?_
  refine g_putI 5 dX10_findDays_2 fpX10_245 (fun h => (nomatch h)) kd_40 ly_40_54 (by omega) rfl ?_
  refine g_iconst 6 dX10_findDays_5 (by decide) rfl ?_
  refine g_istore_n (L' := [some (Rf 40), some (Iv set), some (Iv u), some (Iv 0), none, none, none, none, none]) 7 dX10_findDays_6 rfl (by decide) rfl ?_
  exact lpG (κ 40 11).toNat 0 _ (hI.scr (scr.s40 _ (by decide))) (scr.s40 _ (by decide)) (by omega) (by omega) (rd_s rfl rfl rfl) (fun i hi => by cases hi) none none none none none
set_option maxHeartbeats 4000000 in
set_option maxRecDepth 20000 in
theorem c_X10_days {B : Bs} {n0 : Nat} {V : Vs} {κ : Ks} {a u : Int} (r_a : inR a) (r_u : inR u) (hI : MI κ) : Ct (XR B n0) mX10_days 3 0 0 [Rf 40, Iv a, Iv u] V κ (PS (M_days κ a u) V) := by
  obtain ⟨⟨i0, i1, i2, i3, i4, i5, i6, i7, i8, i9⟩, iS, iH, iR, iT, iC, iG, iL, iZ⟩ := id hI
  refine Ct.of (L := [some (Rf 40), some (Iv a), some (Iv u), none]) 1 (by decide +kernel) rfl rfl ?_
  refine g_aload_n 1 dX10_days_0 rfl rfl ?_
  refine g_iload_n 2 dX10_days_1 rfl rfl ?_
  refine g_iload_n 3 dX10_days_2 rfl rfl ?_
  refine e_V 6 0 0 [Iv a, Iv u] [] dX10_days_3 cvX10_251 mwX10_wrongDays kd_40 (by decide) rfl (Nat.le_of_ble_eq_true rfl) rfl rfl rfl (c_X10_wrongDays (by omega) (by omega) hI) ?_
  have wr : wrongP κ a u = -1 ∨ wrongP κ a u = -6 ∨ wrongP κ a u = -4 ∨ wrongP κ a u = 0 := by
    unfold wrongP
    (repeat' split) <;> omega
  refine g_istore_n (L' := [some (Rf 40), some (Iv a), some (Iv u), some (Iv (wrongP κ a u))]) 7 dX10_days_6 rfl (by decide) rfl ?_
  refine g_iload_n 8 dX10_days_7 rfl rfl ?_
  refine g_if_ge 19 11 dX10_days_8 (by first | assumption | omega) (by decide) rfl (fun h1 => ?_) (fun h1 => ?_)
  · have wq : wrongP κ a u = 0 := by omega
    have hq : 0 ≤ a ∧ a < 2147483648 ∧ pc2 32 a ≤ 6 ∧ 0 ≤ u ∧ u ≤ 100000 := by
      have pR := pow_R (n := (κ 40 11).toNat) (by omega)
      unfold wrongP at wq
      (repeat' split at wq) <;> omega
    refine g_aload_n 20 dX10_days_19 rfl rfl ?_
    refine g_iload_n 21 dX10_days_20 rfl rfl ?_
    refine g_iload_n 22 dX10_days_21 rfl rfl ?_
    refine p_V 25 0 0 [Iv a, Iv u] [] dX10_days_22 cvX10_254 mwX10_findDays kd_40 (by decide) rfl (Nat.le_of_ble_eq_true rfl) rfl rfl rfl (c_X10_findDays (by omega) (by omega) (by omega) hI) ?_
    rintro r V1 κ1 ⟨rfl, rfl, hD1, hbd⟩
    refine ⟨[Iv (lkC (ndF κ a) u (kF κ a) (cF κ a u))], rfl, ?_⟩
    refine g_iret dX10_days_25 rfl ?_
    unfold M_days
    rw [if_neg (by omega)]
    exact ⟨rfl, rfl, hD1.2.1⟩
  refine g_aload_n 12 dX10_days_11 rfl rfl ?_
  refine g_iload_n 13 dX10_days_12 rfl rfl ?_
  refine e_V 16 0 0 [Iv (wrongP κ a u)] [] dX10_days_13 cvX10_145 mwX10_refuse kd_40 (by decide) rfl (Nat.le_of_ble_eq_true rfl) rfl rfl rfl (c_X10_refuse (-(wrongP κ a u)).toNat (by omega) (by omega)) ?_
  refine g_goto 25 dX10_days_16 (by decide) ?_
  refine g_iret dX10_days_25 rfl ?_
  unfold M_days
  rw [if_pos (by omega)]
  exact ⟨rfl, rfl, scr.rf _⟩
set_option maxHeartbeats 4000000 in
set_option maxRecDepth 20000 in
theorem c_X10_dayOf {B : Bs} {n0 : Nat} {V : Vs} {κ : Ks} {a u s : Int} (r_a : inR a) (r_u : inR u) (r_s : inR s) (hI : MI κ) : Ct (XR B n0) mX10_dayOf 3 0 0 [Rf 40, Iv a, Iv u, Iv s] V κ (PS (M_dayOf κ a u s) V) := by
  obtain ⟨⟨i0, i1, i2, i3, i4, i5, i6, i7, i8, i9⟩, iS, iH, iR, iT, iC, iG, iL, iZ⟩ := id hI
  refine Ct.of (L := [some (Rf 40), some (Iv a), some (Iv u), some (Iv s), none, none, none]) 3 (by decide +kernel) rfl rfl ?_
  have lp : ∀ (m : Nat) (i : Int) (κ1 : Ks) (a4 a5 : Option Av), DK κ κ1 (kF κ a) (ndF κ a) (fun i => (((askL a (κ 40 11).toNat).getD i 0 : Nat) : Int)) → (∀ i, i < kF κ a → κ1 97 i = dg (kF κ a) (cF κ a u) i) → kF κ a ≤ 6 → wrongP κ a u = 0 ∧ 0 ≤ s ∧ s < κ 40 11 → 0 ≤ i ∧ i ≤ kF κ a → (m : Int) = kF κ a - i → posL (askL a (κ 40 11).toNat) s i.toNat = -1 → G (XR B n0) mX10_dayOf 3 (PS (M_dayOf κ a u s) V) V 0 0 45 [some (Rf 40), some (Iv a), some (Iv u), some (Iv s), a4, a5, some (Iv i)] [] V κ1 := by
    intro m
    induction m using Nat.strongRecOn with
    | ind m ih =>
      intro i κ1 a4 a5 hD1 hbd hk6 hw hi hm hp
      have e54 := hD1.2.2.1
      refine g_iload 47 dX10_dayOf_45 rfl rfl ?_
      refine g_aload_n 48 dX10_dayOf_47 rfl rfl ?_
      refine r_getI 51 (κ1 40 54) dX10_dayOf_48 fgX10_245 kd_40 ly_40_54 rfl (rfl) (fun r101 => ?_)
      refine g_icmp_ge 79 54 dX10_dayOf_51 (by first | assumption | omega) (by first | assumption | omega) (by decide) rfl (fun h102 => ?_) (fun h102 => ?_)
      · refine g_bipush 81 dX10_dayOf_79 (by decide) rfl ?_
        refine g_iret dX10_dayOf_81 rfl ?_
        unfold M_dayOf
        rw [if_neg (by omega), if_neg (by omega)]
        have ei : i = kF κ a := by omega
        subst ei
        have hp2 : posL (askL a (κ 40 11).toNat) s (kF κ a) = -1 := hp
        rw [if_pos hp2]
        exact ⟨rfl, rfl, hD1.2.1⟩
      refine g_aload_n 55 dX10_dayOf_54 rfl rfl ?_
      refine g_getC 58 dX10_dayOf_55 fgX10_120 kd_40 ly_40_52 rfl ?_
      refine g_iload 60 dX10_dayOf_58 rfl rfl ?_
      have ha : κ1 93 i.toNat = (((askL a (κ 40 11).toNat).getD i.toNat 0 : Nat) : Int) := (hD1.2.2.2 i.toNat (by omega)).2
      refine r_iald 61 ((i).toNat) (κ1 93 ((i).toNat)) dX10_dayOf_60 kd_93 (by decide) (by omega) (rfl) rfl (rfl) (fun r103 => ?_)
      refine g_iload_n 62 dX10_dayOf_61 rfl rfl ?_
      refine g_icmp_ne 73 65 dX10_dayOf_62 (by first | assumption | omega) (by first | assumption | omega) (by decide) rfl (fun h104 => ?_) (fun h104 => ?_)
      · refine g_iinc (L' := [some (Rf 40), some (Iv a), some (Iv u), some (Iv s), a4, a5, some (Iv (i + 1))]) 76 dX10_dayOf_73 rfl rfl (by decide) rfl ?_
        refine g_goto 45 dX10_dayOf_76 (by decide) ?_
        exact ih (m - 1) (by omega) (i + 1) κ1 a4 a5 hD1 hbd hk6 hw (by omega) (by omega) (by rw [show (i + 1).toNat = i.toNat + 1 by omega]; unfold posL; rw [if_neg (fun z => by omega)]; exact hp)
      refine g_aload_n 66 dX10_dayOf_65 rfl rfl ?_
      refine g_getC 69 dX10_dayOf_66 fgX10_129 kd_40 ly_40_56 rfl ?_
      refine g_iload 71 dX10_dayOf_69 rfl rfl ?_
      refine r_iald 72 ((i).toNat) (κ1 97 ((i).toNat)) dX10_dayOf_71 kd_97 (by decide) (by omega) (rfl) rfl (rfl) (fun r105 => ?_)
      refine g_iret dX10_dayOf_72 rfl ?_
      unfold M_dayOf
      rw [if_neg (by omega), if_neg (by omega)]
      have e1 : posL (askL a (κ 40 11).toNat) s (i.toNat + 1) = i := by
        unfold posL
        rw [if_pos ⟨hp, by omega⟩]
        omega
      have e2 := posL_stay (askL a (κ 40 11).toNat) s (kF κ a - (i.toNat + 1)) (i.toNat + 1) (by omega)
      rw [show i.toNat + 1 + (kF κ a - (i.toNat + 1)) = kF κ a by omega, e1] at e2
      rw [e2, if_neg (by omega)]
      exact ⟨congrArg (fun x => some (Iv x)) (hbd i.toNat (by omega)), rfl, hD1.2.1⟩
  refine g_aload_n 1 dX10_dayOf_0 rfl rfl ?_
  refine g_iload_n 2 dX10_dayOf_1 rfl rfl ?_
  refine g_iload_n 3 dX10_dayOf_2 rfl rfl ?_
  refine e_V 6 0 0 [Iv a, Iv u] [] dX10_dayOf_3 cvX10_251 mwX10_wrongDays kd_40 (by decide) rfl (Nat.le_of_ble_eq_true rfl) rfl rfl rfl (c_X10_wrongDays (by omega) (by omega) hI) ?_
  have wr : wrongP κ a u = -1 ∨ wrongP κ a u = -6 ∨ wrongP κ a u = -4 ∨ wrongP κ a u = 0 := by
    unfold wrongP
    (repeat' split) <;> omega
  refine g_istore (L' := [some (Rf 40), some (Iv a), some (Iv u), some (Iv s), some (Iv (wrongP κ a u)), none, none]) 8 dX10_dayOf_6 rfl (by decide) rfl ?_
  refine g_iload 10 dX10_dayOf_8 rfl rfl ?_
  refine g_if_ge 20 13 dX10_dayOf_10 (by first | assumption | omega) (by decide) rfl (fun h1 => ?_) (fun h1 => ?_)
  · have wq : wrongP κ a u = 0 := by omega
    have hq : 0 ≤ a ∧ a < 2147483648 ∧ pc2 32 a ≤ 6 ∧ 0 ≤ u ∧ u ≤ 100000 := by
      have pR := pow_R (n := (κ 40 11).toNat) (by omega)
      unfold wrongP at wq
      (repeat' split at wq) <;> omega
    refine g_aload_n 21 dX10_dayOf_20 rfl rfl ?_
    refine g_iload_n 22 dX10_dayOf_21 rfl rfl ?_
    refine o_V 25 0 0 [Iv s] [] dX10_dayOf_22 cvX10_156 mwX10_isStreet kd_40 (by decide) rfl (Nat.le_of_ble_eq_true rfl) rfl rfl rfl (c_X10_isStreet (by omega) hI) (fun h2 => ?_) (fun h2 => ?_)
    · refine g_if_ne 34 28 dX10_dayOf_25 (by decide) (by decide) rfl (fun _ => ?_) (fun z => absurd z (by decide))
      refine g_aload_n 35 dX10_dayOf_34 rfl rfl ?_
      refine g_iload_n 36 dX10_dayOf_35 rfl rfl ?_
      refine g_iload_n 37 dX10_dayOf_36 rfl rfl ?_
      refine p_V 40 0 0 [Iv a, Iv u] [] dX10_dayOf_37 cvX10_254 mwX10_findDays kd_40 (by decide) rfl (Nat.le_of_ble_eq_true rfl) rfl rfl rfl (c_X10_findDays (by omega) (by omega) (by omega) hI) ?_
      rintro r V1 κ1 ⟨rfl, rfl, hD1, hbd⟩
      refine ⟨[Iv (lkC (ndF κ a) u (kF κ a) (cF κ a u))], rfl, ?_⟩
      refine g_istore (L' := [some (Rf 40), some (Iv a), some (Iv u), some (Iv s), some (Iv (wrongP κ a u)), some (Iv (lkC (ndF κ a) u (kF κ a) (cF κ a u))), none]) 42 dX10_dayOf_40 rfl (by decide) rfl ?_
      refine g_iconst 43 dX10_dayOf_42 (by decide) rfl ?_
      refine g_istore (L' := [some (Rf 40), some (Iv a), some (Iv u), some (Iv s), some (Iv (wrongP κ a u)), some (Iv (lkC (ndF κ a) u (kF κ a) (cF κ a u))), some (Iv 0)]) 45 dX10_dayOf_43 rfl (by decide) rfl ?_
      exact lp (kF κ a) 0 κ1 _ _ hD1 hbd (by have := kF_le hI hq.1 (κ 40 11).toNat (by omega); unfold kF; omega) (by omega) (by omega) (by omega) rfl
    refine g_if_ne 34 28 dX10_dayOf_25 (by decide) (by decide) rfl (fun z => absurd z (by decide)) (fun _ => ?_)
    refine g_aload_n 29 dX10_dayOf_28 rfl rfl ?_
    refine g_iconst 30 dX10_dayOf_29 (by decide) rfl ?_
    refine e_V 33 0 0 [Iv (-1)] [] dX10_dayOf_30 cvX10_145 mwX10_refuse kd_40 (by decide) rfl (Nat.le_of_ble_eq_true rfl) rfl rfl rfl (c_X10_refuse 1 (by decide) (by decide)) ?_
    refine g_iret dX10_dayOf_33 rfl ?_
    unfold M_dayOf
    rw [if_neg (by omega), if_pos (by omega)]
    exact ⟨rfl, rfl, scr.rf _⟩
  refine g_aload_n 14 dX10_dayOf_13 rfl rfl ?_
  refine g_iload 16 dX10_dayOf_14 rfl rfl ?_
  refine e_V 19 0 0 [Iv (wrongP κ a u)] [] dX10_dayOf_16 cvX10_145 mwX10_refuse kd_40 (by decide) rfl (Nat.le_of_ble_eq_true rfl) rfl rfl rfl (c_X10_refuse (-(wrongP κ a u)).toNat (by omega) (by omega)) ?_
  refine g_iret dX10_dayOf_19 rfl ?_
  unfold M_dayOf
  rw [if_pos (by omega)]
  exact ⟨rfl, rfl, scr.rf _⟩
