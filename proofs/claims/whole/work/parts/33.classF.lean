/-! the class: a street's need (printed by wip/whole/gen33.py) -/
def sumL (g : Nat → Int) : List Nat → Int
  | [] => 0
  | h :: l => g h + sumL g l
theorem sumL_app (g : Nat → Int) : ∀ a b : List Nat, sumL g (a ++ b) = sumL g a + sumL g b
  | [], b => by
    show sumL g b = 0 + sumL g b
    omega
  | h :: a, b => by
    show g h + sumL g (a ++ b) = g h + sumL g a + sumL g b
    rw [sumL_app g a b]
    omega
def nd2 (κ : Ks) (s F : Int) : Nat → Int
  | 0 => 0
  | h + 1 => nd2 κ s F h + (if κ 62 h = s ∧ κ 64 h < F then κ 63 h - κ 68 h else 0)
theorem hsf_sn (κ : Ks) (s f : Int) (n : Nat) : hsf κ s f (n + 1) = hsf κ s f n ++ (if κ 62 n = s ∧ κ 64 n = f then [n] else []) := by
  unfold hsf
  rw [List.range_succ, List.filter_append]
  congr 1
  by_cases e : κ 62 n = s ∧ κ 64 n = f
  · rw [if_pos e, List.filter_cons_of_pos (by exact decide_eq_true e)]
    rfl
  · rw [if_neg e, List.filter_cons_of_neg (by rw [decide_eq_false e]; exact Bool.false_ne_true)]
    rfl
theorem nd2_s (κ : Ks) (s : Int) (F : Nat) : ∀ n : Nat, nd2 κ s (F + 1 : Nat) n = nd2 κ s F n + sumL (fun h => κ 63 h - κ 68 h) (hsf κ s F n)
  | 0 => rfl
  | n + 1 => by
    have e1 : nd2 κ s (F + 1 : Nat) (n + 1) = nd2 κ s (F + 1 : Nat) n + (if κ 62 n = s ∧ κ 64 n < (F + 1 : Nat) then κ 63 n - κ 68 n else 0) := rfl
    have e2 : nd2 κ s F (n + 1) = nd2 κ s F n + (if κ 62 n = s ∧ κ 64 n < F then κ 63 n - κ 68 n else 0) := rfl
    rw [e1, e2, nd2_s κ s F n, hsf_sn, sumL_app]
    have e3 : sumL (fun h => κ 63 h - κ 68 h) [n] = κ 63 n - κ 68 n + 0 := rfl
    have e4 : sumL (fun h => κ 63 h - κ 68 h) [] = 0 := rfl
    by_cases c1 : κ 62 n = s ∧ κ 64 n = F
    · rw [if_pos c1, if_pos (by omega), if_neg (by omega), e3]
      omega
    · rw [if_neg c1, e4]
      by_cases c2 : κ 62 n = s ∧ κ 64 n < F
      · rw [if_pos c2, if_pos (by omega)]
        omega
      · rw [if_neg c2, if_neg (by omega)]
        omega
theorem nd_fl (κ : Ks) (s : Int) : ∀ F : Nat, (∀ h : Nat, (h : Int) < κ 40 20 → 0 ≤ κ 64 h) → sumL (fun h => κ 63 h - κ 68 h) (hl κ s F) = nd2 κ s F (κ 40 20).toNat
  | 0, hp => by
    have z : ∀ n : Nat, n ≤ (κ 40 20).toNat → nd2 κ s (0 : Nat) n = 0 := by
      intro n
      induction n with
      | zero => intro _; rfl
      | succ n ih =>
        intro hn
        have e : nd2 κ s (0 : Nat) (n + 1) = nd2 κ s (0 : Nat) n + (if κ 62 n = s ∧ κ 64 n < (0 : Nat) then κ 63 n - κ 68 n else 0) := rfl
        have := hp n (by omega)
        rw [e, ih (by omega), if_neg (by omega)]
        rfl
    rw [z _ (Nat.le_refl _)]
    rfl
  | F + 1, hp => by
    have e : hl κ s (F + 1) = hl κ s F ++ hsf κ s F (κ 40 20).toNat := rfl
    rw [e, sumL_app, nd_fl κ s F hp, nd2_s]
theorem nd_hl {κ : Ks} (h : MI κ) {s : Int} : sumL (fun h => κ 63 h - κ 68 h) (hl κ s 10) = ndH κ s (κ 40 20).toNat := by
  have hp : ∀ k : Nat, (k : Int) < κ 40 20 → 0 ≤ κ 64 k ∧ κ 64 k ≤ 9 := fun k hk => (h.2.2.1 k hk).2.2.1
  rw [nd_fl κ s 10 (fun k hk => (hp k hk).1)]
  have z : ∀ n : Nat, n ≤ (κ 40 20).toNat → nd2 κ s (10 : Nat) n = ndH κ s n := by
    intro n
    induction n with
    | zero => intro _; rfl
    | succ n ih =>
      intro hn
      have e : nd2 κ s (10 : Nat) (n + 1) = nd2 κ s (10 : Nat) n + (if κ 62 n = s ∧ κ 64 n < (10 : Nat) then κ 63 n - κ 68 n else 0) := rfl
      have e' : ndH κ s (n + 1) = ndH κ s n + (if κ 62 n = s then κ 63 n - κ 68 n else 0) := rfl
      have := hp n (by omega)
      rw [e, e', ih (by omega)]
      by_cases c : κ 62 n = s
      · rw [if_pos c, if_pos ⟨c, by omega⟩]
      · rw [if_neg c, if_neg (fun q => c q.1)]
  exact z _ (Nat.le_refl _)
set_option maxHeartbeats 4000000 in
set_option maxRecDepth 20000 in
theorem c_X5_roomNow {B : Bs} {n0 : Nat} {V : Vs} {κ : Ks} {s : Nat} (h_s : (s : Int) < κ 40 11) (hInv : Inv κ V) : Ct (XR B n0) mX5_roomNow 2 0 0 [Rf (100 + s)] V κ (Ex (some (Iv (needM κ s))) V κ) := by
  obtain ⟨hI, hC, hV⟩ := id hInv
  obtain ⟨cA, cB, cC, cD, cE, cF, cG, cS, cL, cH, cN, cT, cW, cK, cZ⟩ := id hC
  obtain ⟨⟨i0, i1, i2, i3, i4, i5, i6, i7, i8, i9⟩, iS, iH, iR, iT, iC, iG, iL, iZ⟩ := id hI
  obtain ⟨⟨cV0, cV1, cV2, cV4⟩, _⟩ := id hV
  obtain ⟨cA0, cA1, cA2⟩ := id cA
  obtain ⟨cB0, cB1, cB2⟩ := id cB
  obtain ⟨⟨⟨⟨z0, z1, z2⟩, z3, z4, z5⟩, z6, z7⟩, z8⟩ := id cZ
  have en0 : κ 2 2 = κ 40 11 := cG.1.2.2.1
  have en1 : κ 3 2 = κ 40 20 := cG.2.1.2.2.1
  have en2 : κ 4 2 = κ 40 31 := cG.2.2.1.2.2.1
  have en3 : κ 5 2 = κ 40 41 := cG.2.2.2.2.2.1
  have qS := cS s h_s
  have qI := iS s h_s
  refine Ct.of (L := [some (Rf (100 + s)), none, none]) 2 (by decide +kernel) rfl rfl ?_
  have lp : ∀ (l : List Nat) (v : Int) (n : Int), chn (fun h => κ (200 + h) 8) v l → (∀ h ∈ l, (h : Int) < κ 40 20) → n + sumL (fun h => κ 63 h - κ 68 h) l = needM κ s → G (XR B n0) mX5_roomNow 2 (Ex (some (Iv (needM κ s))) V κ) V 0 0 15 [some (Rf (100 + s)), some (Iv n), some (.inr (dr v))] [] V κ := by
    intro l
    induction l with
    | nil =>
      intro v n hch hlt hn
      rw [show dr v = none from by rw [show v = 0 from hch]; rfl]
      refine g_aload_n 16 dX5_roomNow_15 rfl rfl ?_
      refine r_ifnull_n 34 dX5_roomNow_16 (by decide) ?_
      refine g_iload_n 35 dX5_roomNow_34 rfl rfl ?_
      refine g_iret dX5_roomNow_35 rfl ?_
      have e : sumL (fun h => κ 63 h - κ 68 h) [] = 0 := rfl
      rw [e] at hn
      exact ⟨congrArg (fun z => some (Iv z)) (by omega), rfl, rfl⟩
    | cons h l ih =>
      intro v n hch hlt hn
      rw [show dr v = some (200 + h) from by unfold dr; rw [if_neg (by have := hch.1; omega), hch.1]; exact congrArg some (by omega)]
      have lh := hlt h List.mem_cons_self
      have lt2 : ∀ k ∈ l, (k : Int) < κ 40 20 := fun k hk => hlt k (List.mem_cons_of_mem _ hk)
      have qH := cH h lh
      have qJ := iH h lh
      refine g_aload_n 16 dX5_roomNow_15 rfl rfl ?_
      refine r_ifnull_s 19 34 dX5_roomNow_16 (by decide) rfl ?_
      refine g_iload_n 20 dX5_roomNow_19 rfl rfl ?_
      refine g_aload_n 21 dX5_roomNow_20 rfl rfl ?_
      refine e_V 24 0 0 [] [Iv n] dX5_roomNow_21 cvX5_82 mwX1_roomInCistern (kd_H (by omega)) (by decide) rfl (Nat.le_of_ble_eq_true rfl) rfl rfl rfl (c_X1_roomInCistern (by omega)) ?_
      refine g_iadd 25 dX5_roomNow_24 rfl ?_
      refine g_istore_n (L' := [some (Rf (100 + s)), some (Iv (n + ((κ (200 + h) 1) - (κ (200 + h) 6)))), some (Rf (200 + h))]) 26 dX5_roomNow_25 rfl (by decide) rfl ?_
      refine g_aload_n 27 dX5_roomNow_26 rfl rfl ?_
      refine r_getD 30 (dr (κ (200 + h) 8)) dX5_roomNow_27 fgX5_61 (kd_H (by omega)) (ly_H (by omega) 8) rfl (congrArg dr (rfl)) ?_
      refine g_astore_n (L' := [some (Rf (100 + s)), some (Iv (n + ((κ (200 + h) 1) - (κ (200 + h) 6)))), some (.inr (dr (κ (200 + h) 8)))]) 31 dX5_roomNow_30 rfl (by decide) rfl ?_
      refine g_goto 15 dX5_roomNow_31 (by decide) ?_
      refine ih _ _ hch.2 lt2 ?_
      have e : sumL (fun h => κ 63 h - κ 68 h) (h :: l) = (κ 63 h - κ 68 h) + sumL (fun h => κ 63 h - κ 68 h) l := rfl
      rw [e] at hn
      omega
  refine g_aload_n 1 dX5_roomNow_0 rfl rfl ?_
  refine r_getI 4 (κ (100 + s) 5) dX5_roomNow_1 fgX5_34 (kd_S (by omega)) (ly_S (by omega) 5) rfl (rfl) (fun r1 => ?_)
  refine g_aload_n 5 dX5_roomNow_4 rfl rfl ?_
  refine r_getI 8 (κ (100 + s) 6) dX5_roomNow_5 fgX5_37 (kd_S (by omega)) (ly_S (by omega) 6) rfl (rfl) (fun r2 => ?_)
  refine g_isub 9 dX5_roomNow_8 rfl ?_
  refine g_istore_n (L' := [some (Rf (100 + s)), some (Iv ((κ (100 + s) 5) - (κ (100 + s) 6))), none]) 10 dX5_roomNow_9 rfl (by decide) rfl ?_
  refine g_aload_n 11 dX5_roomNow_10 rfl rfl ?_
  refine r_getD 14 (dr (κ (100 + s) 10)) dX5_roomNow_11 fgX5_52 (kd_S (by omega)) (ly_S (by omega) 10) rfl (congrArg dr (rfl)) ?_
  refine g_astore_n (L' := [some (Rf (100 + s)), some (Iv ((κ (100 + s) 5) - (κ (100 + s) 6))), some (.inr (dr (κ (100 + s) 10)))]) 15 dX5_roomNow_14 rfl (by decide) rfl ?_
  refine lp (hl κ s 10) (κ (100 + s) 10) _ (cN s h_s) (fun k hk => hl_lt i6.1 hk) ?_
  rw [nd_hl hInv.1]
  unfold needM
  by_cases e2 : κ 57 s = 2
  · rw [if_pos e2] at qS ⊢
    omega
  · rw [if_neg e2] at qS ⊢
    omega
set_option maxHeartbeats 4000000 in
set_option maxRecDepth 20000 in
theorem c_X9_streetOf {B : Bs} {n0 : Nat} {V : Vs} {κ : Ks} {s w : Int} (r_s : inR s) (r_w : inR w)  (hInv : Inv κ V) : Ct (XR B n0) mX9_streetOf 5 0 0 [Rf 1, Iv s, Iv w] V κ (PC κ (M_streetOf κ s w)) := by
  obtain ⟨hI, hC, hV⟩ := id hInv
  obtain ⟨cA, cB, cC, cD, cE, cF, cG, cS, cL, cH, cN, cT, cW, cK, cZ⟩ := id hC
  obtain ⟨⟨i0, i1, i2, i3, i4, i5, i6, i7, i8, i9⟩, iS, iH, iR, iT, iC, iG, iL, iZ⟩ := id hI
  obtain ⟨⟨cV0, cV1, cV2, cV4⟩, _⟩ := id hV
  obtain ⟨cA0, cA1, cA2⟩ := id cA
  obtain ⟨cB0, cB1, cB2⟩ := id cB
  obtain ⟨⟨⟨⟨z0, z1, z2⟩, z3, z4, z5⟩, z6, z7⟩, z8⟩ := id cZ
  have en0 : κ 2 2 = κ 40 11 := cG.1.2.2.1
  have en1 : κ 3 2 = κ 40 20 := cG.2.1.2.2.1
  have en2 : κ 4 2 = κ 40 31 := cG.2.2.1.2.2.1
  have en3 : κ 5 2 = κ 40 41 := cG.2.2.2.2.2.1
  refine Ct.of (L := [some (Rf 1), some (Iv s), some (Iv w), none]) 1 (by decide +kernel) rfl rfl ?_
  refine g_aload_n 1 dX9_streetOf_0 rfl rfl ?_
  refine g_iload_n 2 dX9_streetOf_1 rfl rfl ?_
  refine o_V 5 0 0 [Iv s] [] dX9_streetOf_2 cvX9_105 mwX9_streetAt kd_1 (by decide) rfl (Nat.le_of_ble_eq_true rfl) rfl rfl rfl (c_X9_streetAt cG.1 (by omega) (by omega)) (fun h1 => ?_) (fun h1 => ?_)
  · have qS := cS (s).toNat (by omega)
    have qI := iS (s).toNat (by omega)
    refine g_astore_n (L' := [some (Rf 1), some (Iv s), some (Iv w), some (Rf (100 + (s).toNat))]) 6 dX9_streetOf_5 rfl (by decide) rfl ?_
    refine g_aload_n 7 dX9_streetOf_6 rfl rfl ?_
    refine r_ifnonnull_s 16 dX9_streetOf_7 (by decide) ?_
    refine g_iload_n 17 dX9_streetOf_16 rfl rfl ?_
    by_cases h2 : w = 0
    · refine g_tabIn 60 43 dX9_streetOf_17 (by omega) (by omega) (by omega) (by rw [h2]; rfl) (by decide) ?_
      refine g_aload_n 61 dX9_streetOf_60 rfl rfl ?_
      refine r_getI 64 (κ (100 + (s).toNat) 4) dX9_streetOf_61 fgX9_156 (kd_S (by omega)) (ly_S (by omega) 4) rfl (rfl) (fun r3 => ?_)
      refine g_iret dX9_streetOf_64 rfl ?_
      unfold M_streetOf
      (repeat' split) <;> first | (exfalso; omega) | exact PC_ref hInv (by decide) (by omega) rfl | exact PC_same hInv (by omega)
    by_cases h4 : w = 1
    · refine g_tabIn 65 48 dX9_streetOf_17 (by omega) (by omega) (by omega) (by rw [h4]; rfl) (by decide) ?_
      refine g_aload_n 66 dX9_streetOf_65 rfl rfl ?_
      refine r_getI 69 (κ (100 + (s).toNat) 6) dX9_streetOf_66 fgX9_163 (kd_S (by omega)) (ly_S (by omega) 6) rfl (rfl) (fun r5 => ?_)
      refine g_iret dX9_streetOf_69 rfl ?_
      unfold M_streetOf
      (repeat' split) <;> first | (exfalso; omega) | exact PC_ref hInv (by decide) (by omega) rfl | exact PC_same hInv (by omega)
    by_cases h6 : w = 2
    · refine g_tabIn 70 53 dX9_streetOf_17 (by omega) (by omega) (by omega) (by rw [h6]; rfl) (by decide) ?_
      refine g_aload_n 71 dX9_streetOf_70 rfl rfl ?_
      refine g_aload_n 72 dX9_streetOf_71 rfl rfl ?_
      refine e_V 75 0 0 [] [Rf (100 + (s).toNat)] dX9_streetOf_72 cvX9_84 mwX9_weekNow kd_1 (by decide) rfl (Nat.le_of_ble_eq_true rfl) rfl rfl rfl (c_X9_weekNow (by omega)) ?_
      refine e_V 78 0 0 [Iv ((κ 1 12) / 168)] [] dX9_streetOf_75 cvX9_287 mwX5_dripIn (kd_S (by omega)) (by decide) rfl (Nat.le_of_ble_eq_true rfl) rfl rfl rfl (c_X5_dripIn (by omega) (by omega) (by omega)) ?_
      refine G.eqi (show (if κ (100 + (s).toNat) 3 ≠ 0 then 0 else κ (100 + (s).toNat) 1 * (1 + (((κ 1 12) / 168) - κ (100 + (s).toNat) 2) / 4) / 10) = dripM κ (s).toNat from by unfold dripM; rw [qS.2.2.2.1, qS.2.1, qS.2.2.1, cA0]) ?_
      refine g_iret dX9_streetOf_78 rfl ?_
      unfold M_streetOf
      (repeat' split) <;> first | (exfalso; omega) | exact PC_ref hInv (by decide) (by omega) rfl | exact PC_same hInv (by omega)
    by_cases h7 : w = 3
    · refine g_tabIn 79 62 dX9_streetOf_17 (by omega) (by omega) (by omega) (by rw [h7]; rfl) (by decide) ?_
      refine g_aload_n 80 dX9_streetOf_79 rfl rfl ?_
      refine r_getI 83 (κ (100 + (s).toNat) 3) dX9_streetOf_80 fgX9_207 (kd_S (by omega)) (ly_S (by omega) 3) rfl (rfl) (fun r8 => ?_)
      refine g_if_eq 90 86 dX9_streetOf_83 (by first | assumption | omega) (by decide) rfl (fun h9 => ?_) (fun h9 => ?_)
      · refine g_iconst 91 dX9_streetOf_90 (by decide) rfl ?_
        refine g_iret dX9_streetOf_91 rfl ?_
        unfold M_streetOf
        (repeat' split) <;> first | (exfalso; omega) | exact PC_ref hInv (by decide) (by omega) rfl | exact PC_same hInv (by omega)
      refine g_iconst 87 dX9_streetOf_86 (by decide) rfl ?_
      refine g_goto 91 dX9_streetOf_87 (by decide) ?_
      refine g_iret dX9_streetOf_91 rfl ?_
      unfold M_streetOf
      (repeat' split) <;> first | (exfalso; omega) | exact PC_ref hInv (by decide) (by omega) rfl | exact PC_same hInv (by omega)
    by_cases h10 : w = 4
    · refine g_tabIn 92 75 dX9_streetOf_17 (by omega) (by omega) (by omega) (by rw [h10]; rfl) (by decide) ?_
      refine g_aload_n 93 dX9_streetOf_92 rfl rfl ?_
      refine r_getI 96 (κ (100 + (s).toNat) 0) dX9_streetOf_93 fgX9_290 (kd_S (by omega)) (ly_S (by omega) 0) rfl (rfl) (fun r11 => ?_)
      refine g_iconst 97 dX9_streetOf_96 (by decide) rfl ?_
      refine g_icmp_ne 105 100 dX9_streetOf_97 (by first | assumption | omega) (by decide) (by decide) rfl (fun h12 => ?_) (fun h12 => ?_)
      · refine g_aload_n 106 dX9_streetOf_105 rfl rfl ?_
        refine r_getI 109 (κ (100 + (s).toNat) 0) dX9_streetOf_106 fgX9_290 (kd_S (by omega)) (ly_S (by omega) 0) rfl (rfl) (fun r13 => ?_)
        refine g_iret dX9_streetOf_109 rfl ?_
        unfold M_streetOf
        (repeat' split) <;> first | (exfalso; omega) | exact PC_ref hInv (by decide) (by omega) rfl | exact PC_same hInv (by omega)
      refine g_bipush 102 dX9_streetOf_100 (by decide) rfl ?_
      refine g_goto 109 dX9_streetOf_102 (by decide) ?_
      refine g_iret dX9_streetOf_109 rfl ?_
      unfold M_streetOf
      (repeat' split) <;> first | (exfalso; omega) | exact PC_ref hInv (by decide) (by omega) rfl | exact PC_same hInv (by omega)
    by_cases h14 : w = 5
    · refine g_tabIn 110 93 dX9_streetOf_17 (by omega) (by omega) (by omega) (by rw [h14]; rfl) (by decide) ?_
      refine g_aload_n 111 dX9_streetOf_110 rfl rfl ?_
      refine r_getI 114 (κ (100 + (s).toNat) 7) dX9_streetOf_111 fgX9_166 (kd_S (by omega)) (ly_S (by omega) 7) rfl (rfl) (fun r15 => ?_)
      refine g_if_eq 121 117 dX9_streetOf_114 (by first | assumption | omega) (by decide) rfl (fun h16 => ?_) (fun h16 => ?_)
      · refine g_iconst 122 dX9_streetOf_121 (by decide) rfl ?_
        refine g_iret dX9_streetOf_122 rfl ?_
        unfold M_streetOf
        (repeat' split) <;> first | (exfalso; omega) | exact PC_ref hInv (by decide) (by omega) rfl | exact PC_same hInv (by omega)
      refine g_iconst 118 dX9_streetOf_117 (by decide) rfl ?_
      refine g_goto 122 dX9_streetOf_118 (by decide) ?_
      refine g_iret dX9_streetOf_122 rfl ?_
      unfold M_streetOf
      (repeat' split) <;> first | (exfalso; omega) | exact PC_ref hInv (by decide) (by omega) rfl | exact PC_same hInv (by omega)
    by_cases h17 : w = 6
    · refine g_tabIn 123 106 dX9_streetOf_17 (by omega) (by omega) (by omega) (by rw [h17]; rfl) (by decide) ?_
      refine g_aload_n 124 dX9_streetOf_123 rfl rfl ?_
      refine e_V 127 0 0 [] [] dX9_streetOf_124 cvX9_293 mwX5_roomNow (kd_S (by omega)) (by decide) rfl (Nat.le_of_ble_eq_true rfl) rfl rfl rfl (c_X5_roomNow (by omega) hInv) ?_
      refine g_iret dX9_streetOf_127 rfl ?_
      unfold M_streetOf
      (repeat' split) <;> first | (exfalso; omega) | exact PC_ref hInv (by decide) (by omega) rfl | exact PC_same hInv (by omega)
    refine g_tabOut 128 dX9_streetOf_17 (by omega) (by omega) (by decide) ?_
    refine g_aload_n 129 dX9_streetOf_128 rfl rfl ?_
    refine g_bipush 131 dX9_streetOf_129 (by decide) rfl ?_
    refine e_V 134 0 0 [Iv (-2)] [] dX9_streetOf_131 cvX9_74 mwX9_refuse kd_1 (by decide) rfl (Nat.le_of_ble_eq_true rfl) rfl rfl rfl (c_X9_refuse 2 (by decide) (by decide)) ?_
    refine g_iret dX9_streetOf_134 rfl ?_
    unfold M_streetOf
    (repeat' split) <;> first | (exfalso; omega) | exact PC_ref hInv (by decide) (by omega) rfl | exact PC_same hInv (by omega)
  refine g_astore_n (L' := [some (Rf 1), some (Iv s), some (Iv w), some (Nl)]) 6 dX9_streetOf_5 rfl (by decide) rfl ?_
  refine g_aload_n 7 dX9_streetOf_6 rfl rfl ?_
  refine r_ifnonnull_n 10 16 dX9_streetOf_7 (by decide) rfl ?_
  refine g_aload_n 11 dX9_streetOf_10 rfl rfl ?_
  refine g_iconst 12 dX9_streetOf_11 (by decide) rfl ?_
  refine e_V 15 0 0 [Iv (-1)] [] dX9_streetOf_12 cvX9_74 mwX9_refuse kd_1 (by decide) rfl (Nat.le_of_ble_eq_true rfl) rfl rfl rfl (c_X9_refuse 1 (by decide) (by decide)) ?_
  refine g_iret dX9_streetOf_15 rfl ?_
  unfold M_streetOf
  (repeat' split) <;> first | (exfalso; omega) | exact PC_ref hInv (by decide) (by omega) rfl | exact PC_same hInv (by omega)
