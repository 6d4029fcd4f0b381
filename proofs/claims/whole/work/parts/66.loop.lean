/-! the law: its loop (printed by wip/whole/gen66.py) -/
set_option maxHeartbeats 4000000 in
set_option maxRecDepth 20000 in
theorem law_loop {B : Bs} {n0 : Nat} (hn0 : n0 ≤ 3072) : ∀ (m : Nat) (i : Int) (V : Vs) (κ : Ks), LI κ V → 0 ≤ i ∧ i ≤ 3072 → (n0 : Int) - i ≤ 6 * (m : Int) + 5 → G (XR B n0) mL_law 20 PL Vz (2 * m) (44 * m) 18 [some (Rf 33), some (Rf 1), some (Rf 40), some (Iv i)] [] V κ := by
  intro m
  induction m with
  | zero =>
    intro i V κ hLI hi hm
    refine g_iload_n 19 dL_law_18 rfl rfl ?_
    refine g_aload_n 20 dL_law_19 rfl rfl ?_
    refine g_alen30 21 dL_law_20 kd_33 rfl ?_
    refine g_bipush 23 dL_law_21 (by decide) rfl ?_
    refine g_isub 24 dL_law_23 rfl ?_
    refine g_icmp_gt 1367 27 dL_law_24 (by omega) (by omega) (by decide) rfl (fun h1 => ?_) (fun h1 => by omega)
    refine g_iconst 1368 dL_law_1367 (by decide) rfl ?_
    exact g_zret dL_law_1368 rfl (Or.inr rfl) rfl
  | succ m ih =>
    intro i V κ hLI hi hm
    refine g_iload_n 19 dL_law_18 rfl rfl ?_
    refine g_aload_n 20 dL_law_19 rfl rfl ?_
    refine g_alen30 21 dL_law_20 kd_33 rfl ?_
    refine g_bipush 23 dL_law_21 (by decide) rfl ?_
    refine g_isub 24 dL_law_23 rfl ?_
    refine g_icmp_gt 1367 27 dL_law_24 (by omega) (by omega) (by decide) rfl (fun h1 => ?_) (fun h1 => ?_)
    · refine g_iconst 1368 dL_law_1367 (by decide) rfl ?_
      exact g_zret dL_law_1368 rfl (Or.inr rfl) rfl
    have kk : ∀ (κ2 : Ks) (V2 : Vs), LI κ2 V2 → G (XR B n0) mL_law 20 PL Vz (2 * m) (44 * m) 1361 [some (Rf 33), some (Rf 1), some (Rf 40), some (Iv i)] [] V2 κ2 := fun κ2 V2 h2 => by
      refine g_iinc (L' := [some (Rf 33), some (Rf 1), some (Rf 40), some (Iv (i + 6))]) 1364 dL_law_1361 rfl rfl (by decide) rfl ?_
      refine g_goto 18 dL_law_1364 (by decide) ?_
      exact ih (i + 6) V2 κ2 h2 (by omega) (by omega)
    show G (XR B n0) mL_law 20 PL Vz (2 * m + 2) (44 * m + 44) 27 [some (Rf 33), some (Rf 1), some (Rf 40), some (Iv i)] [] V κ
    refine g_aload_n 28 dL_law_27 rfl rfl ?_
    refine g_iload_n 29 dL_law_28 rfl rfl ?_
    refine r_iald30 30 i.toNat (κ 33 i.toNat) dL_law_29 kd_33 (by omega) (by omega) rfl rfl rfl (fun r0 => ?_)
    refine g_bipush 32 dL_law_30 (by decide) rfl ?_
    refine g_iand 33 dL_law_32 rfl ?_
    obtain ⟨x, ex⟩ : ∃ x, x = bAnd (κ 33 i.toNat) 63 := ⟨_, rfl⟩
    refine G.eqi ex.symm ?_
    have rx : inR x := by rw [ex]; exact toInt_inR _
    by_cases h_0 : x = 0
    · refine g_tabIn 180 147 dL_law_33 rx (by omega) (by omega) (by rw [h_0]; rfl) (by decide) ?_
      exact lw_street hn0 hLI (by omega) kk
    by_cases h_1 : x = 1
    · refine g_tabIn 213 180 dL_law_33 rx (by omega) (by omega) (by rw [h_1]; rfl) (by decide) ?_
      exact lw_set hn0 hLI (by omega) kk
    by_cases h_2 : x = 2
    · refine g_tabIn 246 213 dL_law_33 rx (by omega) (by omega) (by rw [h_2]; rfl) (by decide) ?_
      exact lw_coal hn0 hLI (by omega) kk
    by_cases h_3 : x = 3
    · refine g_tabIn 269 236 dL_law_33 rx (by omega) (by omega) (by rw [h_3]; rfl) (by decide) ?_
      exact lw_house hn0 hLI (by omega) kk
    by_cases h_4 : x = 4
    · refine g_tabIn 348 315 dL_law_33 rx (by omega) (by omega) (by rw [h_4]; rfl) (by decide) ?_
      exact lw_row hn0 hLI (by omega) kk
    by_cases h_5 : x = 5
    · refine g_tabIn 381 348 dL_law_33 rx (by omega) (by omega) (by rw [h_5]; rfl) (by decide) ?_
      exact lw_lose hn0 hLI (by omega) kk
    by_cases h_6 : x = 6
    · refine g_tabIn 404 371 dL_law_33 rx (by omega) (by omega) (by rw [h_6]; rfl) (by decide) ?_
      exact lw_put hn0 hLI (by omega) kk
    by_cases h_7 : x = 7
    · refine g_tabIn 447 414 dL_law_33 rx (by omega) (by omega) (by rw [h_7]; rfl) (by decide) ?_
      exact lw_copy hn0 hLI (by omega) kk
    by_cases h_8 : x = 8
    · refine g_tabIn 510 477 dL_law_33 rx (by omega) (by omega) (by rw [h_8]; rfl) (by decide) ?_
      exact lw_lead hn0 hLI (by omega) kk
    by_cases h_9 : x = 9
    · refine g_tabIn 543 510 dL_law_33 rx (by omega) (by omega) (by rw [h_9]; rfl) (by decide) ?_
      exact lw_end hn0 hLI (by omega) kk
    by_cases h_10 : x = 10
    · refine g_tabIn 576 543 dL_law_33 rx (by omega) (by omega) (by rw [h_10]; rfl) (by decide) ?_
      exact lw_clear hn0 hLI (by omega) kk
    by_cases h_11 : x = 11
    · refine g_tabIn 599 566 dL_law_33 rx (by omega) (by omega) (by rw [h_11]; rfl) (by decide) ?_
      exact lw_draw hn0 hLI (by omega) kk
    by_cases h_12 : x = 12
    · refine g_tabIn 648 615 dL_law_33 rx (by omega) (by omega) (by rw [h_12]; rfl) (by decide) ?_
      exact lw_brew hn0 hLI (by omega) kk
    by_cases h_13 : x = 13
    · refine g_tabIn 681 648 dL_law_33 rx (by omega) (by omega) (by rw [h_13]; rfl) (by decide) ?_
      exact lw_turn hn0 hLI (by omega) kk
    by_cases h_14 : x = 14
    · refine g_tabIn 744 711 dL_law_33 rx (by omega) (by omega) (by rw [h_14]; rfl) (by decide) ?_
      exact lw_let hn0 hLI (by omega) kk
    by_cases h_15 : x = 15
    · refine g_tabIn 787 754 dL_law_33 rx (by omega) (by omega) (by rw [h_15]; rfl) (by decide) ?_
      exact lw_clashes hn0 hLI (by omega) kk
    by_cases h_16 : x = 16
    · refine g_tabIn 810 777 dL_law_33 rx (by omega) (by omega) (by rw [h_16]; rfl) (by decide) ?_
      exact lw_hours hn0 hLI (by omega) kk
    by_cases h_17 : x = 17
    · refine g_tabIn 833 800 dL_law_33 rx (by omega) (by omega) (by rw [h_17]; rfl) (by decide) ?_
      exact lw_iron hn0 hLI (by omega) kk
    by_cases h_18 : x = 18
    · refine g_tabIn 856 823 dL_law_33 rx (by omega) (by omega) (by rw [h_18]; rfl) (by decide) ?_
      exact lw_renew hn0 hLI (by omega) kk
    by_cases h_19 : x = 19
    · refine g_tabIn 879 846 dL_law_33 rx (by omega) (by omega) (by rw [h_19]; rfl) (by decide) ?_
      exact lw_stand hn0 hLI (by omega) kk
    by_cases h_20 : x = 20
    · refine g_tabIn 912 879 dL_law_33 rx (by omega) (by omega) (by rw [h_20]; rfl) (by decide) ?_
      exact lw_way hn0 hLI (by omega) kk
    by_cases h_21 : x = 21
    · refine g_tabIn 945 912 dL_law_33 rx (by omega) (by omega) (by rw [h_21]; rfl) (by decide) ?_
      exact lw_fire hn0 hLI (by omega) kk
    by_cases h_22 : x = 22
    · refine g_tabIn 978 945 dL_law_33 rx (by omega) (by omega) (by rw [h_22]; rfl) (by decide) ?_
      exact lw_reading hn0 hLI (by omega) kk
    by_cases h_23 : x = 23
    · refine g_tabIn 1031 998 dL_law_33 rx (by omega) (by omega) (by rw [h_23]; rfl) (by decide) ?_
      exact lw_span hn0 hLI (by omega) kk
    by_cases h_24 : x = 24
    · refine g_tabIn 1064 1031 dL_law_33 rx (by omega) (by omega) (by rw [h_24]; rfl) (by decide) ?_
      exact lw_best hn0 hLI (by omega) kk
    by_cases h_25 : x = 25
    · refine g_tabIn 1087 1054 dL_law_33 rx (by omega) (by omega) (by rw [h_25]; rfl) (by decide) ?_
      exact lw_bestWorth hn0 hLI (by omega) kk
    by_cases h_26 : x = 26
    · refine g_tabIn 1110 1077 dL_law_33 rx (by omega) (by omega) (by rw [h_26]; rfl) (by decide) ?_
      exact lw_days hn0 hLI (by omega) kk
    by_cases h_27 : x = 27
    · refine g_tabIn 1143 1110 dL_law_33 rx (by omega) (by omega) (by rw [h_27]; rfl) (by decide) ?_
      exact lw_dayOf hn0 hLI (by omega) kk
    by_cases h_28 : x = 28
    · refine g_tabIn 1186 1153 dL_law_33 rx (by omega) (by omega) (by rw [h_28]; rfl) (by decide) ?_
      exact lw_law hn0 hLI (by omega) kk
    by_cases h_29 : x = 29
    · refine g_tabIn 1239 1206 dL_law_33 rx (by omega) (by omega) (by rw [h_29]; rfl) (by decide) ?_
      exact lw_rate hn0 hLI (by omega) kk
    by_cases h_30 : x = 30
    · refine g_tabIn 1272 1239 dL_law_33 rx (by omega) (by omega) (by rw [h_30]; rfl) (by decide) ?_
      exact lw_houseOf hn0 hLI (by omega) kk
    by_cases h_31 : x = 31
    · refine g_tabIn 1305 1272 dL_law_33 rx (by omega) (by omega) (by rw [h_31]; rfl) (by decide) ?_
      exact lw_streetOf hn0 hLI (by omega) kk
    by_cases h_32 : x = 32
    · refine g_tabIn 1338 1305 dL_law_33 rx (by omega) (by omega) (by rw [h_32]; rfl) (by decide) ?_
      exact lw_count hn0 hLI (by omega) kk
    refine g_tabOut 1361 dL_law_33 rx (by omega) (by decide) ?_
    exact G.wk (bc1 := 2 * m) (bs1 := 44 * m) (by omega) (by omega) (kk κ V hLI)
