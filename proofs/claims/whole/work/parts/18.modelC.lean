/-! the reference: clashes, an hour (printed by wip/whole/gen18.py) -/
theorem clsI_R (κ : Ks) (c : Int) (t : Nat) : ∀ u : Nat, 0 ≤ clsI κ c t u ∧ clsI κ c t u ≤ u
  | 0 => ⟨by unfold clsI; omega, by unfold clsI; omega⟩
  | u + 1 => by
    have := clsI_R κ c t u
    unfold clsI
    split <;> omega
theorem clsO_R (κ : Ks) (c : Int) : ∀ t : Nat, 0 ≤ clsO κ c t ∧ clsO κ c t ≤ ((t * t : Nat) : Int)
  | 0 => ⟨by unfold clsO; omega, by unfold clsO; omega⟩
  | t + 1 => by
    have h1 := clsO_R κ c t
    have h2 := clsI_R κ c t t
    unfold clsO
    have h3 : (t + 1) * (t + 1) = t * t + 2 * t + 1 := by rw [Nat.mul_add, Nat.add_mul]; omega
    rw [h3]
    omega
theorem cls_R (κ : Ks) (c : Int) (t u : Nat) : (0 ≤ clsO κ c t ∧ clsO κ c t ≤ ((t * t : Nat) : Int)) ∧ 0 ≤ clsI κ c t u ∧ clsI κ c t u ≤ u := ⟨clsO_R κ c t, clsI_R κ c t u⟩
theorem hsf_s (κ : Ks) (s f : Int) (n : Nat) : hsf κ s f (n + 1) = hsf κ s f n ++ (if κ 62 n = s ∧ κ 64 n = f then [n] else []) := by
  unfold hsf
  rw [List.range_succ, List.filter_append]
  congr 1
  by_cases h : κ 62 n = s ∧ κ 64 n = f
  · rw [if_pos h, List.filter_cons, if_pos (decide_eq_true h)]
    rfl
  · rw [if_neg h, List.filter_cons, if_neg (by rw [decide_eq_true_eq]; exact h)]
    rfl
set_option maxHeartbeats 4000000 in
set_option maxRecDepth 20000 in
theorem c_X10_way {B : Bs} {n0 : Nat} {V : Vs} {κ : Ks} {a b : Int} (r_a : inR a) (r_b : inR b) (hI : MI κ) : Ct (XR B n0) mX10_way 3 0 0 [Rf 40, Iv a, Iv b] V κ (PM (M_way κ a b) V) := by
  obtain ⟨⟨i0, i1, i2, i3, i4, i5, i6, i7, i8, i9⟩, iS, iH, iR, iT, iC, iG, iL, iZ⟩ := id hI
  refine Ct.of (L := [some (Rf 40), some (Iv a), some (Iv b)]) 0 (by decide +kernel) rfl rfl ?_
  refine g_iload_n 1 dX10_way_0 rfl rfl ?_
  refine g_iconst 2 dX10_way_1 (by decide) rfl ?_
  refine g_aload_n 3 dX10_way_2 rfl rfl ?_
  refine r_getI 6 (κ 40 11) dX10_way_3 fgX10_135 kd_40 ly_40_11 rfl (rfl) (fun r1 => ?_)
  refine g_iconst 7 dX10_way_6 (by decide) rfl ?_
  refine g_isub 8 dX10_way_7 rfl ?_
  refine o_S 11 0 0 [Iv a, Iv (-1), Iv ((κ 40 11) - 1)] [] dX10_way_8 csX10_138 mwX10_in (by decide) rfl (Nat.le_of_ble_eq_true rfl) rfl rfl rfl (c_X10_in (by omega) (by omega) (by omega)) (fun h2 => ?_) (fun h2 => ?_)
  · refine g_if_eq 37 14 dX10_way_11 (by decide) (by decide) rfl (fun z => absurd z (by decide)) (fun _ => ?_)
    refine g_iload_n 15 dX10_way_14 rfl rfl ?_
    refine g_iconst 16 dX10_way_15 (by decide) rfl ?_
    refine g_aload_n 17 dX10_way_16 rfl rfl ?_
    refine r_getI 20 (κ 40 11) dX10_way_17 fgX10_135 kd_40 ly_40_11 rfl (rfl) (fun r3 => ?_)
    refine g_iconst 21 dX10_way_20 (by decide) rfl ?_
    refine g_isub 22 dX10_way_21 rfl ?_
    refine o_S 25 0 0 [Iv b, Iv (-1), Iv ((κ 40 11) - 1)] [] dX10_way_22 csX10_138 mwX10_in (by decide) rfl (Nat.le_of_ble_eq_true rfl) rfl rfl rfl (c_X10_in (by omega) (by omega) (by omega)) (fun h4 => ?_) (fun h4 => ?_)
    · refine g_if_eq 37 28 dX10_way_25 (by decide) (by decide) rfl (fun z => absurd z (by decide)) (fun _ => ?_)
      refine g_aload_n 29 dX10_way_28 rfl rfl ?_
      refine g_iload_n 30 dX10_way_29 rfl rfl ?_
      refine g_iload_n 31 dX10_way_30 rfl rfl ?_
      refine e_V 34 0 0 [Iv a, Iv b] [] dX10_way_31 cvX10_177 mwX10_wayOf kd_40 (by decide) rfl (Nat.le_of_ble_eq_true rfl) rfl rfl rfl (c_X10_wayOf (by omega) (by omega) hI) ?_
      refine g_goto 42 dX10_way_34 (by decide) ?_
      refine g_iret dX10_way_42 rfl ?_
      unfold M_way
      (repeat' split) <;> first | (exfalso; omega) | exact ⟨rfl, rfl, rfl⟩ | exact ⟨congrArg (fun x => some (Iv x)) (by omega), rfl, rfl⟩
    refine g_if_eq 37 28 dX10_way_25 (by decide) (by decide) rfl (fun _ => ?_) (fun z => absurd z (by decide))
    refine g_aload_n 38 dX10_way_37 rfl rfl ?_
    refine g_iconst 39 dX10_way_38 (by decide) rfl ?_
    refine e_V 42 0 0 [Iv (-1)] [] dX10_way_39 cvX10_145 mwX10_refuse kd_40 (by decide) rfl (Nat.le_of_ble_eq_true rfl) rfl rfl rfl (c_X10_refuse 1 (by decide) (by decide)) ?_
    refine g_iret dX10_way_42 rfl ?_
    unfold M_way
    (repeat' split) <;> first | (exfalso; omega) | exact ⟨rfl, rfl, rfl⟩ | exact ⟨congrArg (fun x => some (Iv x)) (by omega), rfl, rfl⟩
  refine g_if_eq 37 14 dX10_way_11 (by decide) (by decide) rfl (fun _ => ?_) (fun z => absurd z (by decide))
  refine g_aload_n 38 dX10_way_37 rfl rfl ?_
  refine g_iconst 39 dX10_way_38 (by decide) rfl ?_
  refine e_V 42 0 0 [Iv (-1)] [] dX10_way_39 cvX10_145 mwX10_refuse kd_40 (by decide) rfl (Nat.le_of_ble_eq_true rfl) rfl rfl rfl (c_X10_refuse 1 (by decide) (by decide)) ?_
  refine g_iret dX10_way_42 rfl ?_
  unfold M_way
  (repeat' split) <;> first | (exfalso; omega) | exact ⟨rfl, rfl, rfl⟩ | exact ⟨congrArg (fun x => some (Iv x)) (by omega), rfl, rfl⟩
set_option maxHeartbeats 4000000 in
set_option maxRecDepth 20000 in
theorem c_X10_let {B : Bs} {n0 : Nat} {V : Vs} {κ : Ks} {s h w : Int} (r_s : inR s) (r_h : inR h) (r_w : inR w) (hI : MI κ) : Ct (XR B n0) mX10_let 3 0 0 [Rf 40, Iv s, Iv h, Iv w] V κ (PM (M_let κ s h w) V) := by
  obtain ⟨⟨i0, i1, i2, i3, i4, i5, i6, i7, i8, i9⟩, iS, iH, iR, iT, iC, iG, iL, iZ⟩ := id hI
  refine Ct.of (L := [some (Rf 40), some (Iv s), some (Iv h), some (Iv w)]) 0 (by decide +kernel) rfl rfl ?_
  refine g_aload_n 1 dX10_let_0 rfl rfl ?_
  refine g_iload_n 2 dX10_let_1 rfl rfl ?_
  refine o_V 5 0 0 [Iv s] [] dX10_let_2 cvX10_156 mwX10_isStreet kd_40 (by decide) rfl (Nat.le_of_ble_eq_true rfl) rfl rfl rfl (c_X10_isStreet (by omega) hI) (fun h1 => ?_) (fun h1 => ?_)
  · refine g_if_ne 14 8 dX10_let_5 (by decide) (by decide) rfl (fun _ => ?_) (fun z => absurd z (by decide))
    refine g_iload_n 15 dX10_let_14 rfl rfl ?_
    refine g_if_ge 25 18 dX10_let_15 (by first | assumption | omega) (by decide) rfl (fun h2 => ?_) (fun h2 => ?_)
    · refine g_iload_n 26 dX10_let_25 rfl rfl ?_
      refine g_sipush 29 dX10_let_26 (by decide) rfl ?_
      refine g_icmp_le 39 32 dX10_let_29 (by first | assumption | omega) (by decide) (by decide) rfl (fun h3 => ?_) (fun h3 => ?_)
      · refine g_iload_n 40 dX10_let_39 rfl rfl ?_
        refine g_iconst 41 dX10_let_40 (by decide) rfl ?_
        refine g_iconst 42 dX10_let_41 (by decide) rfl ?_
        refine o_S 45 0 0 [Iv w, Iv 0, Iv 1] [] dX10_let_42 csX10_138 mwX10_in (by decide) rfl (Nat.le_of_ble_eq_true rfl) rfl rfl rfl (c_X10_in (by omega) (by omega) (by omega)) (fun h4 => ?_) (fun h4 => ?_)
        · refine g_if_ne 55 48 dX10_let_45 (by decide) (by decide) rfl (fun _ => ?_) (fun z => absurd z (by decide))
          refine g_iload_n 56 dX10_let_55 rfl rfl ?_
          refine g_if_ne 76 59 dX10_let_56 (by first | assumption | omega) (by decide) rfl (fun h5 => ?_) (fun h5 => ?_)
          · refine g_aload_n 77 dX10_let_76 rfl rfl ?_
            refine g_iload_n 78 dX10_let_77 rfl rfl ?_
            refine g_iload_n 79 dX10_let_78 rfl rfl ?_
            refine o_V 82 0 0 [Iv s, Iv h] [] dX10_let_79 cvX10_171 mwX10_isOpen kd_40 (by decide) rfl (Nat.le_of_ble_eq_true rfl) rfl rfl rfl (c_X10_isOpen (by omega) (by omega) hI) (fun h6 => ?_) (fun h6 => ?_)
            · refine g_if_eq 89 85 dX10_let_82 (by decide) (by decide) rfl (fun z => absurd z (by decide)) (fun _ => ?_)
              refine g_iconst 86 dX10_let_85 (by decide) rfl ?_
              refine g_goto 90 dX10_let_86 (by decide) ?_
              refine g_iret dX10_let_90 rfl ?_
              unfold M_let
              rw [if_neg (by omega), if_neg (by omega), if_neg (by omega), if_neg (by omega)]
              refine ⟨congrArg (fun x => some (Iv x)) ?_, rfl, rfl⟩
              show _ = if w = 0 then (if LetB κ s h then (1 : Int) else 0) else (if openB κ s h then 1 else 0)
              first | rw [if_pos (by omega), if_pos (letB_iff.mpr (by assumption))] | rw [if_pos (by omega), if_neg (fun z => absurd (letB_iff.mp z) (by assumption))] | rw [if_neg (by omega), if_pos ((openB_iff iS (by omega) (by omega)).mpr (by assumption))] | rw [if_neg (by omega), if_neg (fun z => absurd ((openB_iff iS (by omega) (by omega)).mp z) (by assumption))]
            refine g_if_eq 89 85 dX10_let_82 (by decide) (by decide) rfl (fun _ => ?_) (fun z => absurd z (by decide))
            refine g_iconst 90 dX10_let_89 (by decide) rfl ?_
            refine g_iret dX10_let_90 rfl ?_
            unfold M_let
            rw [if_neg (by omega), if_neg (by omega), if_neg (by omega), if_neg (by omega)]
            refine ⟨congrArg (fun x => some (Iv x)) ?_, rfl, rfl⟩
            show _ = if w = 0 then (if LetB κ s h then (1 : Int) else 0) else (if openB κ s h then 1 else 0)
            first | rw [if_pos (by omega), if_pos (letB_iff.mpr (by assumption))] | rw [if_pos (by omega), if_neg (fun z => absurd (letB_iff.mp z) (by assumption))] | rw [if_neg (by omega), if_pos ((openB_iff iS (by omega) (by omega)).mpr (by assumption))] | rw [if_neg (by omega), if_neg (fun z => absurd ((openB_iff iS (by omega) (by omega)).mp z) (by assumption))]
          refine g_aload_n 60 dX10_let_59 rfl rfl ?_
          refine g_iload_n 61 dX10_let_60 rfl rfl ?_
          refine g_iload_n 62 dX10_let_61 rfl rfl ?_
          refine o_V 65 0 0 [Iv s, Iv h] [] dX10_let_62 cvX10_167 mwX10_isLet kd_40 (by decide) rfl (Nat.le_of_ble_eq_true rfl) rfl rfl rfl (c_X10_isLet (by first | assumption | omega) (by omega) hI) (fun h7 => ?_) (fun h7 => ?_)
          · refine g_if_eq 72 68 dX10_let_65 (by decide) (by decide) rfl (fun z => absurd z (by decide)) (fun _ => ?_)
            refine g_iconst 69 dX10_let_68 (by decide) rfl ?_
            refine g_goto 90 dX10_let_69 (by decide) ?_
            refine g_iret dX10_let_90 rfl ?_
            unfold M_let
            rw [if_neg (by omega), if_neg (by omega), if_neg (by omega), if_neg (by omega)]
            refine ⟨congrArg (fun x => some (Iv x)) ?_, rfl, rfl⟩
            show _ = if w = 0 then (if LetB κ s h then (1 : Int) else 0) else (if openB κ s h then 1 else 0)
            first | rw [if_pos (by omega), if_pos (letB_iff.mpr (by assumption))] | rw [if_pos (by omega), if_neg (fun z => absurd (letB_iff.mp z) (by assumption))] | rw [if_neg (by omega), if_pos ((openB_iff iS (by omega) (by omega)).mpr (by assumption))] | rw [if_neg (by omega), if_neg (fun z => absurd ((openB_iff iS (by omega) (by omega)).mp z) (by assumption))]
          refine g_if_eq 72 68 dX10_let_65 (by decide) (by decide) rfl (fun _ => ?_) (fun z => absurd z (by decide))
          refine g_iconst 73 dX10_let_72 (by decide) rfl ?_
          refine g_goto 90 dX10_let_73 (by decide) ?_
          refine g_iret dX10_let_90 rfl ?_
          unfold M_let
          rw [if_neg (by omega), if_neg (by omega), if_neg (by omega), if_neg (by omega)]
          refine ⟨congrArg (fun x => some (Iv x)) ?_, rfl, rfl⟩
          show _ = if w = 0 then (if LetB κ s h then (1 : Int) else 0) else (if openB κ s h then 1 else 0)
          first | rw [if_pos (by omega), if_pos (letB_iff.mpr (by assumption))] | rw [if_pos (by omega), if_neg (fun z => absurd (letB_iff.mp z) (by assumption))] | rw [if_neg (by omega), if_pos ((openB_iff iS (by omega) (by omega)).mpr (by assumption))] | rw [if_neg (by omega), if_neg (fun z => absurd ((openB_iff iS (by omega) (by omega)).mp z) (by assumption))]
        refine g_if_ne 55 48 dX10_let_45 (by decide) (by decide) rfl (fun z => absurd z (by decide)) (fun _ => ?_)
        refine g_aload_n 49 dX10_let_48 rfl rfl ?_
        refine g_bipush 51 dX10_let_49 (by decide) rfl ?_
        refine e_V 54 0 0 [Iv (-2)] [] dX10_let_51 cvX10_145 mwX10_refuse kd_40 (by decide) rfl (Nat.le_of_ble_eq_true rfl) rfl rfl rfl (c_X10_refuse 2 (by decide) (by decide)) ?_
        refine g_iret dX10_let_54 rfl ?_
        unfold M_let
        (repeat' split) <;> first | (exfalso; omega) | exact ⟨rfl, rfl, rfl⟩ | exact ⟨congrArg (fun x => some (Iv x)) (by omega), rfl, rfl⟩
      refine g_aload_n 33 dX10_let_32 rfl rfl ?_
      refine g_bipush 35 dX10_let_33 (by decide) rfl ?_
      refine e_V 38 0 0 [Iv (-6)] [] dX10_let_35 cvX10_145 mwX10_refuse kd_40 (by decide) rfl (Nat.le_of_ble_eq_true rfl) rfl rfl rfl (c_X10_refuse 6 (by decide) (by decide)) ?_
      refine g_iret dX10_let_38 rfl ?_
      unfold M_let
      (repeat' split) <;> first | (exfalso; omega) | exact ⟨rfl, rfl, rfl⟩ | exact ⟨congrArg (fun x => some (Iv x)) (by omega), rfl, rfl⟩
    refine g_aload_n 19 dX10_let_18 rfl rfl ?_
    refine g_bipush 21 dX10_let_19 (by decide) rfl ?_
    refine e_V 24 0 0 [Iv (-4)] [] dX10_let_21 cvX10_145 mwX10_refuse kd_40 (by decide) rfl (Nat.le_of_ble_eq_true rfl) rfl rfl rfl (c_X10_refuse 4 (by decide) (by decide)) ?_
    refine g_iret dX10_let_24 rfl ?_
    unfold M_let
    (repeat' split) <;> first | (exfalso; omega) | exact ⟨rfl, rfl, rfl⟩ | exact ⟨congrArg (fun x => some (Iv x)) (by omega), rfl, rfl⟩
  refine g_if_ne 14 8 dX10_let_5 (by decide) (by decide) rfl (fun z => absurd z (by decide)) (fun _ => ?_)
  refine g_aload_n 9 dX10_let_8 rfl rfl ?_
  refine g_iconst 10 dX10_let_9 (by decide) rfl ?_
  refine e_V 13 0 0 [Iv (-1)] [] dX10_let_10 cvX10_145 mwX10_refuse kd_40 (by decide) rfl (Nat.le_of_ble_eq_true rfl) rfl rfl rfl (c_X10_refuse 1 (by decide) (by decide)) ?_
  refine g_iret dX10_let_13 rfl ?_
  unfold M_let
  (repeat' split) <;> first | (exfalso; omega) | exact ⟨rfl, rfl, rfl⟩ | exact ⟨congrArg (fun x => some (Iv x)) (by omega), rfl, rfl⟩
set_option maxHeartbeats 4000000 in
set_option maxRecDepth 20000 in
theorem c_X10_clash {B : Bs} {n0 : Nat} {V : Vs} {κ : Ks} {t u : Int} (h_t : 0 ≤ t ∧ t < κ 40 31) (h_u : 0 ≤ u ∧ u < κ 40 31) (hI : MI κ) : Ct (XR B n0) mX10_clash 3 0 0 [Rf 40, Iv t, Iv u] V κ (Or2 V κ (clashC κ t.toNat u.toNat) (Iv 1) (¬ clashC κ t.toNat u.toNat) (Iv 0)) := by
  obtain ⟨⟨i0, i1, i2, i3, i4, i5, i6, i7, i8, i9⟩, iS, iH, iR, iT, iC, iG, iL, iZ⟩ := id hI
  refine Ct.of (L := [some (Rf 40), some (Iv t), some (Iv u), none, none, none]) 3 (by decide +kernel) rfl rfl ?_
  have it := iT t.toNat (by omega)
  have iu := iT u.toNat (by omega)
  have wr := way_R (κ := κ) (κ 73 t.toNat) (κ 73 u.toNat)
  refine g_aload_n 1 dX10_clash_0 rfl rfl ?_
  refine g_aload_n 2 dX10_clash_1 rfl rfl ?_
  refine g_getC 5 dX10_clash_2 fgX10_75 kd_40 ly_40_32 rfl ?_
  refine g_iload_n 6 dX10_clash_5 rfl rfl ?_
  refine r_iald 7 ((t).toNat) (κ 73 ((t).toNat)) dX10_clash_6 kd_73 (by decide) (by omega) (rfl) rfl (rfl) (fun r1 => ?_)
  refine g_aload_n 8 dX10_clash_7 rfl rfl ?_
  refine g_getC 11 dX10_clash_8 fgX10_75 kd_40 ly_40_32 rfl ?_
  refine g_iload_n 12 dX10_clash_11 rfl rfl ?_
  refine r_iald 13 ((u).toNat) (κ 73 ((u).toNat)) dX10_clash_12 kd_73 (by decide) (by omega) (rfl) rfl (rfl) (fun r2 => ?_)
  refine e_V 16 0 0 [Iv (κ 73 ((t).toNat)), Iv (κ 73 ((u).toNat))] [] dX10_clash_13 cvX10_177 mwX10_wayOf kd_40 (by decide) rfl (Nat.le_of_ble_eq_true rfl) rfl rfl rfl (c_X10_wayOf (by omega) (by omega) hI) ?_
  refine g_iconst 17 dX10_clash_16 (by decide) rfl ?_
  refine g_iadd 18 dX10_clash_17 rfl ?_
  refine g_iconst 19 dX10_clash_18 (by decide) rfl ?_
  refine g_idiv 20 dX10_clash_19 (by omega) (by omega) rfl ?_
  refine g_istore_n (L' := [some (Rf 40), some (Iv t), some (Iv u), some (Iv (((wayM κ (κ 73 ((t).toNat)) (κ 73 ((u).toNat))) + 1) / 2)), none, none]) 21 dX10_clash_20 rfl (by decide) rfl ?_
  refine g_aload_n 22 dX10_clash_21 rfl rfl ?_
  refine g_getC 25 dX10_clash_22 fgX10_81 kd_40 ly_40_34 rfl ?_
  refine g_iload_n 26 dX10_clash_25 rfl rfl ?_
  refine r_iald 27 ((u).toNat) (κ 75 ((u).toNat)) dX10_clash_26 kd_75 (by decide) (by omega) (rfl) rfl (rfl) (fun r3 => ?_)
  refine g_aload_n 28 dX10_clash_27 rfl rfl ?_
  refine g_getC 31 dX10_clash_28 fgX10_81 kd_40 ly_40_34 rfl ?_
  refine g_iload_n 32 dX10_clash_31 rfl rfl ?_
  refine r_iald 33 ((t).toNat) (κ 75 ((t).toNat)) dX10_clash_32 kd_75 (by decide) (by omega) (rfl) rfl (rfl) (fun r4 => ?_)
  refine g_isub 34 dX10_clash_33 rfl ?_
  refine g_sipush 37 dX10_clash_34 (by decide) rfl ?_
  refine g_iadd 38 dX10_clash_37 rfl ?_
  refine g_sipush 41 dX10_clash_38 (by decide) rfl ?_
  refine g_irem 42 dX10_clash_41 (by omega) (by omega) rfl ?_
  refine g_istore (L' := [some (Rf 40), some (Iv t), some (Iv u), some (Iv (((wayM κ (κ 73 ((t).toNat)) (κ 73 ((u).toNat))) + 1) / 2)), some (Iv ((((κ 75 ((u).toNat)) - (κ 75 ((t).toNat))) + 168) % 168)), none]) 44 dX10_clash_42 rfl (by decide) rfl ?_
  refine g_aload_n 45 dX10_clash_44 rfl rfl ?_
  refine g_getC 48 dX10_clash_45 fgX10_81 kd_40 ly_40_34 rfl ?_
  refine g_iload_n 49 dX10_clash_48 rfl rfl ?_
  refine r_iald 50 ((t).toNat) (κ 75 ((t).toNat)) dX10_clash_49 kd_75 (by decide) (by omega) (rfl) rfl (rfl) (fun r5 => ?_)
  refine g_aload_n 51 dX10_clash_50 rfl rfl ?_
  refine g_getC 54 dX10_clash_51 fgX10_81 kd_40 ly_40_34 rfl ?_
  refine g_iload_n 55 dX10_clash_54 rfl rfl ?_
  refine r_iald 56 ((u).toNat) (κ 75 ((u).toNat)) dX10_clash_55 kd_75 (by decide) (by omega) (rfl) rfl (rfl) (fun r6 => ?_)
  refine g_isub 57 dX10_clash_56 rfl ?_
  refine g_sipush 60 dX10_clash_57 (by decide) rfl ?_
  refine g_iadd 61 dX10_clash_60 rfl ?_
  refine g_sipush 64 dX10_clash_61 (by decide) rfl ?_
  refine g_irem 65 dX10_clash_64 (by omega) (by omega) rfl ?_
  refine g_istore (L' := [some (Rf 40), some (Iv t), some (Iv u), some (Iv (((wayM κ (κ 73 ((t).toNat)) (κ 73 ((u).toNat))) + 1) / 2)), some (Iv ((((κ 75 ((u).toNat)) - (κ 75 ((t).toNat))) + 168) % 168)), some (Iv ((((κ 75 ((t).toNat)) - (κ 75 ((u).toNat))) + 168) % 168))]) 67 dX10_clash_65 rfl (by decide) rfl ?_
  refine g_iload 69 dX10_clash_67 rfl rfl ?_
  refine g_aload_n 70 dX10_clash_69 rfl rfl ?_
  refine g_getC 73 dX10_clash_70 fgX10_84 kd_40 ly_40_35 rfl ?_
  refine g_iload_n 74 dX10_clash_73 rfl rfl ?_
  refine r_iald 75 ((t).toNat) (κ 76 ((t).toNat)) dX10_clash_74 kd_76 (by decide) (by omega) (rfl) rfl (rfl) (fun r7 => ?_)
  refine g_icmp_lt 101 78 dX10_clash_75 (by first | assumption | omega) (by first | assumption | omega) (by decide) rfl (fun h8 => ?_) (fun h8 => ?_)
  · refine g_iconst 102 dX10_clash_101 (by decide) rfl ?_
    refine g_goto 106 dX10_clash_102 (by decide) ?_
    refine g_zret dX10_clash_106 rfl (by omega) ?_
    exact ⟨rfl, rfl, Or.inl ⟨by omega, rfl⟩⟩
  refine g_iload 80 dX10_clash_78 rfl rfl ?_
  refine g_aload_n 81 dX10_clash_80 rfl rfl ?_
  refine g_getC 84 dX10_clash_81 fgX10_84 kd_40 ly_40_35 rfl ?_
  refine g_iload_n 85 dX10_clash_84 rfl rfl ?_
  refine r_iald 86 ((u).toNat) (κ 76 ((u).toNat)) dX10_clash_85 kd_76 (by decide) (by omega) (rfl) rfl (rfl) (fun r9 => ?_)
  refine g_icmp_lt 101 89 dX10_clash_86 (by first | assumption | omega) (by first | assumption | omega) (by decide) rfl (fun h10 => ?_) (fun h10 => ?_)
  · refine g_iconst 102 dX10_clash_101 (by decide) rfl ?_
    refine g_goto 106 dX10_clash_102 (by decide) ?_
    refine g_zret dX10_clash_106 rfl (by omega) ?_
    exact ⟨rfl, rfl, Or.inl ⟨by omega, rfl⟩⟩
  refine g_iload 91 dX10_clash_89 rfl rfl ?_
  refine g_iload_n 92 dX10_clash_91 rfl rfl ?_
  refine g_icmp_lt 101 95 dX10_clash_92 (by first | assumption | omega) (by first | assumption | omega) (by decide) rfl (fun h11 => ?_) (fun h11 => ?_)
  · refine g_iconst 102 dX10_clash_101 (by decide) rfl ?_
    refine g_goto 106 dX10_clash_102 (by decide) ?_
    refine g_zret dX10_clash_106 rfl (by omega) ?_
    exact ⟨rfl, rfl, Or.inl ⟨by omega, rfl⟩⟩
  refine g_iload 97 dX10_clash_95 rfl rfl ?_
  refine g_iload_n 98 dX10_clash_97 rfl rfl ?_
  refine g_icmp_ge 105 101 dX10_clash_98 (by first | assumption | omega) (by first | assumption | omega) (by decide) rfl (fun h12 => ?_) (fun h12 => ?_)
  · refine g_iconst 106 dX10_clash_105 (by decide) rfl ?_
    refine g_zret dX10_clash_106 rfl (by omega) ?_
    exact ⟨rfl, rfl, Or.inr ⟨by omega, rfl⟩⟩
  refine g_iconst 102 dX10_clash_101 (by decide) rfl ?_
  refine g_goto 106 dX10_clash_102 (by decide) ?_
  refine g_zret dX10_clash_106 rfl (by omega) ?_
  exact ⟨rfl, rfl, Or.inl ⟨by omega, rfl⟩⟩
set_option maxHeartbeats 4000000 in
set_option maxRecDepth 20000 in
theorem c_X10_clashes {B : Bs} {n0 : Nat} {V : Vs} {κ : Ks} {c : Int} (r_c : inR c) (hI : MI κ) : Ct (XR B n0) mX10_clashes 4 0 0 [Rf 40, Iv c] V κ (PM (M_clashes κ c) V) := by
  obtain ⟨⟨i0, i1, i2, i3, i4, i5, i6, i7, i8, i9⟩, iS, iH, iR, iT, iC, iG, iL, iZ⟩ := id hI
  refine Ct.of (L := [some (Rf 40), some (Iv c), none, none, none]) 3 (by decide +kernel) rfl rfl ?_
  have lpO : ∀ (m : Nat) (n t : Int), 0 ≤ t ∧ t ≤ κ 40 31 → (m : Int) = κ 40 31 - t → n = clsO κ c t.toNat → 0 ≤ c ∧ c ≤ 2 → ∀ u0 : Option Av, okA V (u0.getD Nl) → G (XR B n0) mX10_clashes 4 (PM (M_clashes κ c) V) V 0 0 19 [some (Rf 40), some (Iv c), some (Iv n), some (Iv t), u0] [] V κ := by
    intro m
    induction m using Nat.strongRecOn with
    | ind m ih0 =>
      intro n t ht0 hm0 hn0 hc0 u0 hu0
      have lpO : ∀ (m' : Nat), m' < m → ∀ (n t : Int), 0 ≤ t ∧ t ≤ κ 40 31 → (m' : Int) = κ 40 31 - t → n = clsO κ c t.toNat → 0 ≤ c ∧ c ≤ 2 → ∀ u0 : Option Av, okA V (u0.getD Nl) → G (XR B n0) mX10_clashes 4 (PM (M_clashes κ c) V) V 0 0 19 [some (Rf 40), some (Iv c), some (Iv n), some (Iv t), u0] [] V κ := ih0
      have lpI : ∀ (k : Nat) (n t u : Int), 0 ≤ t ∧ t < κ 40 31 → κ 40 31 - t = (m : Int) → 0 ≤ u ∧ u ≤ t → (k : Int) = t - u → n = clsO κ c t.toNat + clsI κ c t.toNat u.toNat → 0 ≤ c ∧ c ≤ 2 → G (XR B n0) mX10_clashes 4 (PM (M_clashes κ c) V) V 0 0 30 [some (Rf 40), some (Iv c), some (Iv n), some (Iv t), some (Iv u)] [] V κ := by
        intro k
        induction k using Nat.strongRecOn with
        | ind k ihk =>
          intro n t u ht hmt hu hm hn hc
          refine g_iload 32 dX10_clashes_30 rfl rfl ?_
          refine g_iload_n 33 dX10_clashes_32 rfl rfl ?_
          refine g_icmp_ge 97 36 dX10_clashes_33 (by first | assumption | omega) (by first | assumption | omega) (by decide) rfl (fun h301 => ?_) (fun h301 => ?_)
          · refine g_iinc (L' := [some (Rf 40), some (Iv c), some (Iv n), some (Iv (t + 1)), some (Iv u)]) 100 dX10_clashes_97 rfl rfl (by decide) rfl ?_
            refine g_goto 19 dX10_clashes_100 (by decide) ?_
            have eu : u = t := by omega
            subst eu
            exact lpO (m - 1) (by omega) n (u + 1) (by omega) (by omega) (by rw [show (u + 1).toNat = u.toNat + 1 by omega]; exact hn) hc _ trivial
          have it := iT t.toNat (by omega)
          have iu := iT u.toNat (by omega)
          have cb := cls_R κ c t.toNat u.toNat
          have tb : t.toNat ≤ 30 ∧ u.toNat ≤ 30 := by omega
          have h9 : t.toNat * t.toNat ≤ 30 * 30 := Nat.mul_le_mul tb.1 tb.1
          refine g_iload_n 37 dX10_clashes_36 rfl rfl ?_
          refine g_aload_n 38 dX10_clashes_37 rfl rfl ?_
          refine g_getC 41 dX10_clashes_38 fgX10_78 kd_40 ly_40_33 rfl ?_
          refine g_iload_n 42 dX10_clashes_41 rfl rfl ?_
          refine r_iald 43 ((t).toNat) (κ 74 ((t).toNat)) dX10_clashes_42 kd_74 (by decide) (by omega) (rfl) rfl (rfl) (fun r302 => ?_)
          refine g_iload_n 44 dX10_clashes_43 rfl rfl ?_
          refine g_icmp_ne 88 47 dX10_clashes_44 (by first | assumption | omega) (by first | assumption | omega) (by decide) rfl (fun h303 => ?_) (fun h303 => ?_)
          · refine g_iconst 89 dX10_clashes_88 (by decide) rfl ?_
            refine g_iadd 90 dX10_clashes_89 rfl ?_
            refine g_istore_n (L' := [some (Rf 40), some (Iv c), some (Iv (n + 0)), some (Iv t), some (Iv u)]) 91 dX10_clashes_90 rfl (by decide) rfl ?_
            refine g_iinc (L' := [some (Rf 40), some (Iv c), some (Iv (n + 0)), some (Iv t), some (Iv (u + 1))]) 94 dX10_clashes_91 rfl rfl (by decide) rfl ?_
            refine g_goto 30 dX10_clashes_94 (by decide) ?_
            refine ihk (k - 1) (by omega) _ t (u + 1) ht hmt (by omega) (by omega) ?_ hc
            rw [show (u + 1).toNat = u.toNat + 1 by omega]
            have es : clsI κ c t.toNat (u.toNat + 1) = clsI κ c t.toNat u.toNat + (if clshP κ c t.toNat u.toNat then 1 else 0) := rfl
            rw [es, hn]
            first | (rw [if_pos (by first | omega | exact ⟨by omega, by omega, by omega, by assumption⟩)]; omega) | (rw [if_neg (by first | omega | exact fun z => absurd z.2.2.2 (by assumption))]; omega)
          refine g_aload_n 48 dX10_clashes_47 rfl rfl ?_
          refine g_getC 51 dX10_clashes_48 fgX10_78 kd_40 ly_40_33 rfl ?_
          refine g_iload 53 dX10_clashes_51 rfl rfl ?_
          refine r_iald 54 ((u).toNat) (κ 74 ((u).toNat)) dX10_clashes_53 kd_74 (by decide) (by omega) (rfl) rfl (rfl) (fun r304 => ?_)
          refine g_iload_n 55 dX10_clashes_54 rfl rfl ?_
          refine g_icmp_ne 88 58 dX10_clashes_55 (by first | assumption | omega) (by first | assumption | omega) (by decide) rfl (fun h305 => ?_) (fun h305 => ?_)
          · refine g_iconst 89 dX10_clashes_88 (by decide) rfl ?_
            refine g_iadd 90 dX10_clashes_89 rfl ?_
            refine g_istore_n (L' := [some (Rf 40), some (Iv c), some (Iv (n + 0)), some (Iv t), some (Iv u)]) 91 dX10_clashes_90 rfl (by decide) rfl ?_
            refine g_iinc (L' := [some (Rf 40), some (Iv c), some (Iv (n + 0)), some (Iv t), some (Iv (u + 1))]) 94 dX10_clashes_91 rfl rfl (by decide) rfl ?_
            refine g_goto 30 dX10_clashes_94 (by decide) ?_
            refine ihk (k - 1) (by omega) _ t (u + 1) ht hmt (by omega) (by omega) ?_ hc
            rw [show (u + 1).toNat = u.toNat + 1 by omega]
            have es : clsI κ c t.toNat (u.toNat + 1) = clsI κ c t.toNat u.toNat + (if clshP κ c t.toNat u.toNat then 1 else 0) := rfl
            rw [es, hn]
            first | (rw [if_pos (by first | omega | exact ⟨by omega, by omega, by omega, by assumption⟩)]; omega) | (rw [if_neg (by first | omega | exact fun z => absurd z.2.2.2 (by assumption))]; omega)
          refine g_aload_n 59 dX10_clashes_58 rfl rfl ?_
          refine g_getC 62 dX10_clashes_59 fgX10_75 kd_40 ly_40_32 rfl ?_
          refine g_iload_n 63 dX10_clashes_62 rfl rfl ?_
          refine r_iald 64 ((t).toNat) (κ 73 ((t).toNat)) dX10_clashes_63 kd_73 (by decide) (by omega) (rfl) rfl (rfl) (fun r306 => ?_)
          refine g_aload_n 65 dX10_clashes_64 rfl rfl ?_
          refine g_getC 68 dX10_clashes_65 fgX10_75 kd_40 ly_40_32 rfl ?_
          refine g_iload 70 dX10_clashes_68 rfl rfl ?_
          refine r_iald 71 ((u).toNat) (κ 73 ((u).toNat)) dX10_clashes_70 kd_73 (by decide) (by omega) (rfl) rfl (rfl) (fun r307 => ?_)
          refine g_icmp_eq 88 74 dX10_clashes_71 (by first | assumption | omega) (by first | assumption | omega) (by decide) rfl (fun h308 => ?_) (fun h308 => ?_)
          · refine g_iconst 89 dX10_clashes_88 (by decide) rfl ?_
            refine g_iadd 90 dX10_clashes_89 rfl ?_
            refine g_istore_n (L' := [some (Rf 40), some (Iv c), some (Iv (n + 0)), some (Iv t), some (Iv u)]) 91 dX10_clashes_90 rfl (by decide) rfl ?_
            refine g_iinc (L' := [some (Rf 40), some (Iv c), some (Iv (n + 0)), some (Iv t), some (Iv (u + 1))]) 94 dX10_clashes_91 rfl rfl (by decide) rfl ?_
            refine g_goto 30 dX10_clashes_94 (by decide) ?_
            refine ihk (k - 1) (by omega) _ t (u + 1) ht hmt (by omega) (by omega) ?_ hc
            rw [show (u + 1).toNat = u.toNat + 1 by omega]
            have es : clsI κ c t.toNat (u.toNat + 1) = clsI κ c t.toNat u.toNat + (if clshP κ c t.toNat u.toNat then 1 else 0) := rfl
            rw [es, hn]
            first | (rw [if_pos (by first | omega | exact ⟨by omega, by omega, by omega, by assumption⟩)]; omega) | (rw [if_neg (by first | omega | exact fun z => absurd z.2.2.2 (by assumption))]; omega)
          refine g_aload_n 75 dX10_clashes_74 rfl rfl ?_
          refine g_iload_n 76 dX10_clashes_75 rfl rfl ?_
          refine g_iload 78 dX10_clashes_76 rfl rfl ?_
          refine o_V 81 0 0 [Iv t, Iv u] [Iv n] dX10_clashes_78 cvX10_181 mwX10_clash kd_40 (by decide) rfl (Nat.le_of_ble_eq_true rfl) rfl rfl rfl (c_X10_clash (by omega) (by omega) hI) (fun h309 => ?_) (fun h309 => ?_)
          · refine g_if_eq 88 84 dX10_clashes_81 (by decide) (by decide) rfl (fun z => absurd z (by decide)) (fun _ => ?_)
            refine g_iconst 85 dX10_clashes_84 (by decide) rfl ?_
            refine g_goto 89 dX10_clashes_85 (by decide) ?_
            refine g_iadd 90 dX10_clashes_89 rfl ?_
            refine g_istore_n (L' := [some (Rf 40), some (Iv c), some (Iv (n + 1)), some (Iv t), some (Iv u)]) 91 dX10_clashes_90 rfl (by decide) rfl ?_
            refine g_iinc (L' := [some (Rf 40), some (Iv c), some (Iv (n + 1)), some (Iv t), some (Iv (u + 1))]) 94 dX10_clashes_91 rfl rfl (by decide) rfl ?_
            refine g_goto 30 dX10_clashes_94 (by decide) ?_
            refine ihk (k - 1) (by omega) _ t (u + 1) ht hmt (by omega) (by omega) ?_ hc
            rw [show (u + 1).toNat = u.toNat + 1 by omega]
            have es : clsI κ c t.toNat (u.toNat + 1) = clsI κ c t.toNat u.toNat + (if clshP κ c t.toNat u.toNat then 1 else 0) := rfl
            rw [es, hn]
            first | (rw [if_pos (by first | omega | exact ⟨by omega, by omega, by omega, by assumption⟩)]; omega) | (rw [if_neg (by first | omega | exact fun z => absurd z.2.2.2 (by assumption))]; omega)
          refine g_if_eq 88 84 dX10_clashes_81 (by decide) (by decide) rfl (fun _ => ?_) (fun z => absurd z (by decide))
          refine g_iconst 89 dX10_clashes_88 (by decide) rfl ?_
          refine g_iadd 90 dX10_clashes_89 rfl ?_
          refine g_istore_n (L' := [some (Rf 40), some (Iv c), some (Iv (n + 0)), some (Iv t), some (Iv u)]) 91 dX10_clashes_90 rfl (by decide) rfl ?_
          refine g_iinc (L' := [some (Rf 40), some (Iv c), some (Iv (n + 0)), some (Iv t), some (Iv (u + 1))]) 94 dX10_clashes_91 rfl rfl (by decide) rfl ?_
          refine g_goto 30 dX10_clashes_94 (by decide) ?_
          refine ihk (k - 1) (by omega) _ t (u + 1) ht hmt (by omega) (by omega) ?_ hc
          rw [show (u + 1).toNat = u.toNat + 1 by omega]
          have es : clsI κ c t.toNat (u.toNat + 1) = clsI κ c t.toNat u.toNat + (if clshP κ c t.toNat u.toNat then 1 else 0) := rfl
          rw [es, hn]
          first | (rw [if_pos (by first | omega | exact ⟨by omega, by omega, by omega, by assumption⟩)]; omega) | (rw [if_neg (by first | omega | exact fun z => absurd z.2.2.2 (by assumption))]; omega)
      refine g_iload_n 20 dX10_clashes_19 rfl rfl ?_
      refine g_aload_n 21 dX10_clashes_20 rfl rfl ?_
      refine r_getI 24 (κ 40 31) dX10_clashes_21 fgX10_164 kd_40 ly_40_31 rfl (rfl) (fun r301 => ?_)
      refine g_icmp_ge 103 27 dX10_clashes_24 (by first | assumption | omega) (by first | assumption | omega) (by decide) rfl (fun h302 => ?_) (fun h302 => ?_)
      · refine g_iload_n 104 dX10_clashes_103 rfl rfl ?_
        refine g_iret dX10_clashes_104 rfl ?_
        have et : t = κ 40 31 := by omega
        subst et
        unfold M_clashes
        rw [if_neg (by omega)]
        exact ⟨congrArg (fun x => some (Iv x)) hn0, rfl, rfl⟩
      refine g_iconst 28 dX10_clashes_27 (by decide) rfl ?_
      refine g_istore (L' := [some (Rf 40), some (Iv c), some (Iv n), some (Iv t), some (Iv 0)]) 30 dX10_clashes_28 rfl (by decide) rfl ?_
      exact lpI t.toNat n t 0 (by omega) (by omega) (by omega) (by omega) (by rw [hn0]; show _ = _ + 0; omega) hc0
  refine g_iload_n 1 dX10_clashes_0 rfl rfl ?_
  refine g_iconst 2 dX10_clashes_1 (by decide) rfl ?_
  refine g_iconst 3 dX10_clashes_2 (by decide) rfl ?_
  refine o_S 6 0 0 [Iv c, Iv 0, Iv 2] [] dX10_clashes_3 csX10_138 mwX10_in (by decide) rfl (Nat.le_of_ble_eq_true rfl) rfl rfl rfl (c_X10_in (by omega) (by omega) (by omega)) (fun h1 => ?_) (fun h1 => ?_)
  · refine g_if_ne 15 9 dX10_clashes_6 (by decide) (by decide) rfl (fun _ => ?_) (fun z => absurd z (by decide))
    refine g_iconst 16 dX10_clashes_15 (by decide) rfl ?_
    refine g_istore_n (L' := [some (Rf 40), some (Iv c), some (Iv 0), none, none]) 17 dX10_clashes_16 rfl (by decide) rfl ?_
    refine g_iconst 18 dX10_clashes_17 (by decide) rfl ?_
    refine g_istore_n (L' := [some (Rf 40), some (Iv c), some (Iv 0), some (Iv 0), none]) 19 dX10_clashes_18 rfl (by decide) rfl ?_
    exact lpO (κ 40 31).toNat 0 0 (by omega) (by omega) rfl (by omega) none trivial
  refine g_if_ne 15 9 dX10_clashes_6 (by decide) (by decide) rfl (fun z => absurd z (by decide)) (fun _ => ?_)
  refine g_aload_n 10 dX10_clashes_9 rfl rfl ?_
  refine g_iconst 11 dX10_clashes_10 (by decide) rfl ?_
  refine e_V 14 0 0 [Iv (-1)] [] dX10_clashes_11 cvX10_145 mwX10_refuse kd_40 (by decide) rfl (Nat.le_of_ble_eq_true rfl) rfl rfl rfl (c_X10_refuse 1 (by decide) (by decide)) ?_
  refine g_iret dX10_clashes_14 rfl ?_
  unfold M_clashes
  (repeat' split) <;> first | (exfalso; omega) | exact ⟨rfl, rfl, rfl⟩ | exact ⟨congrArg (fun x => some (Iv x)) (by omega), rfl, rfl⟩
set_option maxHeartbeats 4000000 in
set_option maxRecDepth 20000 in
theorem c_X10_dripOf {B : Bs} {n0 : Nat} {V : Vs} {κ : Ks} {s : Int} (h_s : 0 ≤ s ∧ s < κ 40 11) (hI : MI κ) : Ct (XR B n0) mX10_dripOf 1 0 0 [Rf 40, Iv s] V κ (Ex (some (Iv (dripM κ s.toNat))) V κ) := by
  obtain ⟨⟨i0, i1, i2, i3, i4, i5, i6, i7, i8, i9⟩, iS, iH, iR, iT, iC, iG, iL, iZ⟩ := id hI
  refine Ct.of (L := [some (Rf 40), some (Iv s)]) 0 (by decide +kernel) rfl rfl ?_
  refine g_aload_n 1 dX10_dripOf_0 rfl rfl ?_
  refine g_getC 4 dX10_dripOf_1 fgX10_29 kd_40 ly_40_15 rfl ?_
  refine g_iload_n 5 dX10_dripOf_4 rfl rfl ?_
  have is := iS s.toNat (by omega)
  refine r_zald 6 ((s).toNat) (κ 56 ((s).toNat)) dX10_dripOf_5 kd_56 (by decide) (by omega) (rfl) rfl (rfl) (fun r1 => ?_)
  refine g_if_eq 13 9 dX10_dripOf_6 (by first | assumption | omega) (by decide) rfl (fun h2 => ?_) (fun h2 => ?_)
  · refine g_aload_n 14 dX10_dripOf_13 rfl rfl ?_
    refine g_getC 17 dX10_dripOf_14 fgX10_23 kd_40 ly_40_13 rfl ?_
    refine g_iload_n 18 dX10_dripOf_17 rfl rfl ?_
    refine r_iald 19 ((s).toNat) (κ 54 ((s).toNat)) dX10_dripOf_18 kd_54 (by decide) (by omega) (rfl) rfl (rfl) (fun r3 => ?_)
    refine g_iconst 20 dX10_dripOf_19 (by decide) rfl ?_
    refine g_aload_n 21 dX10_dripOf_20 rfl rfl ?_
    refine r_getI 24 (κ 40 0) dX10_dripOf_21 fgX10_149 kd_40 ly_40_0 rfl (rfl) (fun r4 => ?_)
    refine g_sipush 27 dX10_dripOf_24 (by decide) rfl ?_
    refine g_idiv 28 dX10_dripOf_27 (by omega) (by omega) rfl ?_
    refine g_aload_n 29 dX10_dripOf_28 rfl rfl ?_
    refine g_getC 32 dX10_dripOf_29 fgX10_26 kd_40 ly_40_14 rfl ?_
    refine g_iload_n 33 dX10_dripOf_32 rfl rfl ?_
    refine r_iald 34 ((s).toNat) (κ 55 ((s).toNat)) dX10_dripOf_33 kd_55 (by decide) (by omega) (rfl) rfl (rfl) (fun r5 => ?_)
    refine g_isub 35 dX10_dripOf_34 rfl ?_
    refine g_iconst 36 dX10_dripOf_35 (by decide) rfl ?_
    refine g_idiv 37 dX10_dripOf_36 (by omega) (by omega) rfl ?_
    refine g_iadd 38 dX10_dripOf_37 rfl ?_
    refine g_imul 39 dX10_dripOf_38 rfl ?_
    have p1 : 0 ≤ κ 54 s.toNat * (1 + (κ 40 0 / 168 - κ 55 s.toNat) / 4) := Int.mul_nonneg (by omega) (by omega)
    have p2 : κ 54 s.toNat * (1 + (κ 40 0 / 168 - κ 55 s.toNat) / 4) ≤ 50 * 8 := Int.mul_le_mul (by omega) (by omega) (by omega) (by omega)
    refine g_bipush 41 dX10_dripOf_39 (by decide) rfl ?_
    refine g_idiv 42 dX10_dripOf_41 (by omega) (by omega) rfl ?_
    refine g_iret dX10_dripOf_42 rfl ?_
    unfold dripM
    split <;> first | (exfalso; omega) | exact ⟨rfl, rfl, rfl⟩
  refine g_iconst 10 dX10_dripOf_9 (by decide) rfl ?_
  refine g_goto 42 dX10_dripOf_10 (by decide) ?_
  refine g_iret dX10_dripOf_42 rfl ?_
  unfold dripM
  split <;> first | (exfalso; omega) | exact ⟨rfl, rfl, rfl⟩
set_option maxHeartbeats 4000000 in
set_option maxRecDepth 20000 in
theorem c_X10_take {B : Bs} {n0 : Nat} {V : Vs} {κ : Ks} {n : Int} (h_n : 0 ≤ n ∧ n < 2147483648) (hL : HL κ) : Ct (XR B n0) mX10_take 2 0 0 [Rf 40, Iv n] V κ (Ex (some (Iv (min n (κ 40 48)))) V (tkM κ n)) := by
  obtain ⟨l1, l2⟩ := id hL
  refine Ct.of (L := [some (Rf 40), some (Iv n), none]) 1 (by decide +kernel) rfl rfl ?_
  refine g_iload_n 1 dX10_take_0 rfl rfl ?_
  refine g_aload_n 2 dX10_take_1 rfl rfl ?_
  refine r_getI 5 (κ 40 48) dX10_take_2 fgX10_184 kd_40 ly_40_48 rfl (rfl) (fun r1 => ?_)
  refine e_S 8 0 0 [Iv n, Iv (κ 40 48)] [] dX10_take_5 csX10_187 mwX10_least (by decide) rfl (Nat.le_of_ble_eq_true rfl) rfl rfl rfl (c_X10_least (by omega) (by omega)) ?_
  refine g_istore_n (L' := [some (Rf 40), some (Iv n), some (Iv (min n (κ 40 48)))]) 9 dX10_take_8 rfl (by decide) rfl ?_
  refine g_aload_n 10 dX10_take_9 rfl rfl ?_
  refine g_dup 11 dX10_take_10 rfl ?_
  refine r_getI 14 (κ 40 48) dX10_take_11 fgX10_184 kd_40 ly_40_48 rfl (rfl) (fun r2 => ?_)
  refine g_iload_n 15 dX10_take_14 rfl rfl ?_
  refine g_isub 16 dX10_take_15 rfl ?_
  refine g_putI 19 dX10_take_16 fpX10_184 (fun h => (nomatch h)) kd_40 ly_40_48 (by omega) rfl ?_
  refine g_iload_n 20 dX10_take_19 rfl rfl ?_
  refine g_iret dX10_take_20 rfl ?_
  exact ⟨rfl, rfl, rfl⟩
set_option maxHeartbeats 4000000 in
set_option maxRecDepth 20000 in
theorem c_X10_fillHouse {B : Bs} {n0 : Nat} {V : Vs} {κ : Ks} {h : Int} (h_h : 0 ≤ h ∧ h < κ 40 20) (hI : MI κ) (hL : HL κ) : Ct (XR B n0) mX10_fillHouse 3 0 0 [Rf 40, Iv h] V κ (Ex none V (fillM κ h.toNat)) := by
  obtain ⟨⟨i0, i1, i2, i3, i4, i5, i6, i7, i8, i9⟩, iS, iH, iR, iT, iC, iG, iL, iZ⟩ := id hI
  obtain ⟨l1, l2⟩ := id hL
  refine Ct.of (L := [some (Rf 40), some (Iv h)]) 0 (by decide +kernel) rfl rfl ?_
  refine g_aload_n 1 dX10_fillHouse_0 rfl rfl ?_
  refine g_getC 4 dX10_fillHouse_1 fgX10_57 kd_40 ly_40_25 rfl ?_
  refine g_iload_n 5 dX10_fillHouse_4 rfl rfl ?_
  have ih := iH h.toNat (by omega)
  refine r_zald 6 ((h).toNat) (κ 66 ((h).toNat)) dX10_fillHouse_5 kd_66 (by decide) (by omega) (rfl) rfl (rfl) (fun r1 => ?_)
  refine g_if_eq 41 9 dX10_fillHouse_6 (by first | assumption | omega) (by decide) rfl (fun h2 => ?_) (fun h2 => ?_)
  · refine g_aload_n 42 dX10_fillHouse_41 rfl rfl ?_
    refine g_getC 45 dX10_fillHouse_42 fgX10_63 kd_40 ly_40_27 rfl ?_
    refine g_iload_n 46 dX10_fillHouse_45 rfl rfl ?_
    refine g_dup2 47 dX10_fillHouse_46 rfl ?_
    refine r_iald 48 ((h).toNat) (κ 68 ((h).toNat)) dX10_fillHouse_47 kd_68 (by decide) (by omega) (rfl) rfl (rfl) (fun r3 => ?_)
    refine g_aload_n 49 dX10_fillHouse_48 rfl rfl ?_
    refine g_bipush 51 dX10_fillHouse_49 (by decide) rfl ?_
    refine e_V 54 0 0 [Iv 30] [Iv (κ 68 ((h).toNat)), Iv h, Rf 68] dX10_fillHouse_51 cvX10_190 mwX10_take kd_40 (by decide) rfl (Nat.le_of_ble_eq_true rfl) rfl rfl rfl (c_X10_take (by omega) hL) ?_
    refine g_iadd 55 dX10_fillHouse_54 rfl ?_
    refine r_iast 56 ((h).toNat) dX10_fillHouse_55 kd_68 (by decide) ly_68 (by omega) (rfl) (by omega) rfl ?_
    refine g_aload_n 57 dX10_fillHouse_56 rfl rfl ?_
    refine g_getC 60 dX10_fillHouse_57 fgX10_63 kd_40 ly_40_27 rfl ?_
    refine g_iload_n 61 dX10_fillHouse_60 rfl rfl ?_
    refine r_iald 62 ((h).toNat) (((κ 68 ((h).toNat)) + (min 30 (κ 40 48)))) dX10_fillHouse_61 kd_68 (by decide) (by omega) (rfl) rfl (rd_s rfl rfl rfl) (fun r4 => ?_)
    refine g_aload_n 63 dX10_fillHouse_62 rfl rfl ?_
    refine g_getC 66 dX10_fillHouse_63 fgX10_48 kd_40 ly_40_22 rfl ?_
    refine g_iload_n 67 dX10_fillHouse_66 rfl rfl ?_
    refine r_iald 68 ((h).toNat) (κ 63 ((h).toNat)) dX10_fillHouse_67 kd_63 (by decide) (by omega) (rfl) rfl (rd_t (by decide) (rd_t (by decide) (rfl))) (fun r5 => ?_)
    refine g_icmp_le 105 71 dX10_fillHouse_68 (by first | assumption | omega) (by first | assumption | omega) (by decide) rfl (fun h6 => ?_) (fun h6 => ?_)
    · refine g_vret dX10_fillHouse_105 rfl ?_
      refine ⟨rfl, rfl, ?_⟩
      unfold fillM tkM
      (repeat' split) <;> first | rfl | (exfalso; omega)
    refine g_aload_n 72 dX10_fillHouse_71 rfl rfl ?_
    refine g_dup 73 dX10_fillHouse_72 rfl ?_
    refine r_getI 76 (κ 40 7) dX10_fillHouse_73 fgX10_193 kd_40 ly_40_7 rfl (rd_t (by decide) (rd_j (by decide) (rfl))) (fun r7 => ?_)
    refine g_aload_n 77 dX10_fillHouse_76 rfl rfl ?_
    refine g_getC 80 dX10_fillHouse_77 fgX10_63 kd_40 ly_40_27 rfl ?_
    refine g_iload_n 81 dX10_fillHouse_80 rfl rfl ?_
    refine r_iald 82 ((h).toNat) (((κ 68 ((h).toNat)) + (min 30 (κ 40 48)))) dX10_fillHouse_81 kd_68 (by decide) (by omega) (rfl) rfl (rd_s rfl rfl rfl) (fun r8 => ?_)
    refine g_aload_n 83 dX10_fillHouse_82 rfl rfl ?_
    refine g_getC 86 dX10_fillHouse_83 fgX10_48 kd_40 ly_40_22 rfl ?_
    refine g_iload_n 87 dX10_fillHouse_86 rfl rfl ?_
    refine r_iald 88 ((h).toNat) (κ 63 ((h).toNat)) dX10_fillHouse_87 kd_63 (by decide) (by omega) (rfl) rfl (rd_t (by decide) (rd_t (by decide) (rfl))) (fun r9 => ?_)
    refine g_isub 89 dX10_fillHouse_88 rfl ?_
    refine g_iadd 90 dX10_fillHouse_89 rfl ?_
    refine r_putIw 93 dX10_fillHouse_90 fpX10_193 (fun h => (nomatch h)) kd_40 ly_40_7 rfl ?_
    refine g_aload_n 94 dX10_fillHouse_93 rfl rfl ?_
    refine g_getC 97 dX10_fillHouse_94 fgX10_63 kd_40 ly_40_27 rfl ?_
    refine g_iload_n 98 dX10_fillHouse_97 rfl rfl ?_
    refine g_aload_n 99 dX10_fillHouse_98 rfl rfl ?_
    refine g_getC 102 dX10_fillHouse_99 fgX10_48 kd_40 ly_40_22 rfl ?_
    refine g_iload_n 103 dX10_fillHouse_102 rfl rfl ?_
    refine r_iald 104 ((h).toNat) (κ 63 ((h).toNat)) dX10_fillHouse_103 kd_63 (by decide) (by omega) (rfl) rfl (rd_t (by decide) (rd_t (by decide) (rd_t (by decide) (rfl)))) (fun r10 => ?_)
    refine r_iast 105 ((h).toNat) dX10_fillHouse_104 kd_68 (by decide) ly_68 (by omega) (rfl) (by omega) rfl ?_
    refine g_vret dX10_fillHouse_105 rfl ?_
    refine ⟨rfl, rfl, ?_⟩
    unfold fillM tkM
    (repeat' split) <;> first | rfl | (exfalso; omega)
  refine g_aload_n 10 dX10_fillHouse_9 rfl rfl ?_
  refine g_getC 13 dX10_fillHouse_10 fgX10_63 kd_40 ly_40_27 rfl ?_
  refine g_iload_n 14 dX10_fillHouse_13 rfl rfl ?_
  refine g_dup2 15 dX10_fillHouse_14 rfl ?_
  refine r_iald 16 ((h).toNat) (κ 68 ((h).toNat)) dX10_fillHouse_15 kd_68 (by decide) (by omega) (rfl) rfl (rfl) (fun r11 => ?_)
  refine g_aload_n 17 dX10_fillHouse_16 rfl rfl ?_
  refine g_bipush 19 dX10_fillHouse_17 (by decide) rfl ?_
  refine g_aload_n 20 dX10_fillHouse_19 rfl rfl ?_
  refine g_getC 23 dX10_fillHouse_20 fgX10_48 kd_40 ly_40_22 rfl ?_
  refine g_iload_n 24 dX10_fillHouse_23 rfl rfl ?_
  refine r_iald 25 ((h).toNat) (κ 63 ((h).toNat)) dX10_fillHouse_24 kd_63 (by decide) (by omega) (rfl) rfl (rfl) (fun r12 => ?_)
  refine g_aload_n 26 dX10_fillHouse_25 rfl rfl ?_
  refine g_getC 29 dX10_fillHouse_26 fgX10_63 kd_40 ly_40_27 rfl ?_
  refine g_iload_n 30 dX10_fillHouse_29 rfl rfl ?_
  refine r_iald 31 ((h).toNat) (κ 68 ((h).toNat)) dX10_fillHouse_30 kd_68 (by decide) (by omega) (rfl) rfl (rfl) (fun r13 => ?_)
  refine g_isub 32 dX10_fillHouse_31 rfl ?_
  refine e_S 35 0 0 [Iv 30, Iv ((κ 63 ((h).toNat)) - (κ 68 ((h).toNat)))] [Rf 40, Iv (κ 68 ((h).toNat)), Iv h, Rf 68] dX10_fillHouse_32 csX10_187 mwX10_least (by decide) rfl (Nat.le_of_ble_eq_true rfl) rfl rfl rfl (c_X10_least (by omega) (by omega)) ?_
  refine e_V 38 0 0 [Iv (min 30 ((κ 63 ((h).toNat)) - (κ 68 ((h).toNat))))] [Iv (κ 68 ((h).toNat)), Iv h, Rf 68] dX10_fillHouse_35 cvX10_190 mwX10_take kd_40 (by decide) rfl (Nat.le_of_ble_eq_true rfl) rfl rfl rfl (c_X10_take (by omega) hL) ?_
  refine g_iadd 39 dX10_fillHouse_38 rfl ?_
  refine r_iast 40 ((h).toNat) dX10_fillHouse_39 kd_68 (by decide) ly_68 (by omega) (rfl) (by omega) rfl ?_
  refine g_vret dX10_fillHouse_40 rfl ?_
  refine ⟨rfl, rfl, ?_⟩
  unfold fillM tkM
  (repeat' split) <;> first | rfl | (exfalso; omega)
set_option maxHeartbeats 4000000 in
set_option maxRecDepth 20000 in
theorem c_X10_serve {B : Bs} {n0 : Nat} {V : Vs} {κ : Ks} {s : Int} (h_s : 0 ≤ s ∧ s < κ 40 11) (hI : MI κ) (hL : HL κ) : Ct (XR B n0) mX10_serve 4 0 0 [Rf 40, Iv s] V κ (Ex none V (serveM κ s.toNat)) := by
  obtain ⟨⟨i0, i1, i2, i3, i4, i5, i6, i7, i8, i9⟩, iS, iH, iR, iT, iC, iG, iL, iZ⟩ := id hI
  obtain ⟨l1, l2⟩ := id hL
  have is := iS s.toNat (by omega)
  refine Ct.of (L := [some (Rf 40), some (Iv s), none, none]) 2 (by decide +kernel) rfl rfl ?_
  have lpF : ∀ (m : Nat) (f : Int) (κ2 : Ks), MI κ2 → HL κ2 → sm κ κ2 → 0 ≤ f ∧ f ≤ 10 → (m : Int) = 10 - f → κ2 = (hl κ s f.toNat).foldl fillM (tunM (plugM κ s.toNat) s.toNat) → ∀ h0 : Option Av, okA V (h0.getD Nl) → G (XR B n0) mX10_serve 4 (Ex none V (serveM κ s.toNat)) V 0 0 79 [some (Rf 40), some (Iv s), some (Iv f), h0] [] V κ2 := by
    intro m
    induction m using Nat.strongRecOn with
    | ind m ih0 =>
      intro f κ2 hI2 hL2 hS2 hf hm0 hk h0 hh0
      have lpH : ∀ (k : Nat) (h : Int) (κ2 : Ks), MI κ2 → HL κ2 → sm κ κ2 → 0 ≤ f ∧ f < 10 → 0 ≤ h ∧ h ≤ κ 40 20 → (k : Int) = κ 40 20 - h → κ2 = (hl κ s f.toNat ++ hsf κ s f h.toNat).foldl fillM (tunM (plugM κ s.toNat) s.toNat) → G (XR B n0) mX10_serve 4 (Ex none V (serveM κ s.toNat)) V 0 0 87 [some (Rf 40), some (Iv s), some (Iv f), some (Iv h)] [] V κ2 := by
        intro k
        induction k using Nat.strongRecOn with
        | ind k ihk =>
          intro h κ2 hI2 hL2 hS2 hf hh hm hk
          have i2 := hS2.1.2.2.2.2.2.1
          have e62 := hS2.2 62 (by decide) (by decide) (by decide) (by decide) (by decide)
          have e64 := hS2.2 64 (by decide) (by decide) (by decide) (by decide) (by decide)
          refine g_iload_n 88 dX10_serve_87 rfl rfl ?_
          refine g_aload_n 89 dX10_serve_88 rfl rfl ?_
          refine r_getI 92 (κ2 40 20) dX10_serve_89 fgX10_142 kd_40 ly_40_20 rfl (rfl) (fun r301 => ?_)
          refine g_icmp_ge 126 95 dX10_serve_92 (by first | assumption | omega) (by first | assumption | omega) (by decide) rfl (fun h302 => ?_) (fun h302 => ?_)
          · refine g_iinc (L' := [some (Rf 40), some (Iv s), some (Iv (f + 1)), some (Iv h)]) 129 dX10_serve_126 rfl rfl (by decide) rfl ?_
            refine g_goto 79 dX10_serve_129 (by decide) ?_
            have eh : h = κ 40 20 := by omega
            subst eh
            exact ih0 (m - 1) (by omega) (f + 1) κ2 hI2 hL2 hS2 (by omega) (by omega) (by rw [show (f + 1).toNat = f.toNat + 1 by omega]; rw [hk]; show _ = List.foldl fillM _ (hl κ s f.toNat ++ hsf κ s (f.toNat : Nat) (κ 40 20).toNat); rw [show ((f.toNat : Nat) : Int) = f by omega]) _ trivial
          refine g_aload_n 96 dX10_serve_95 rfl rfl ?_
          refine g_getC 99 dX10_serve_96 fgX10_45 kd_40 ly_40_21 rfl ?_
          refine g_iload_n 100 dX10_serve_99 rfl rfl ?_
          refine r_iald 101 ((h).toNat) (κ2 62 ((h).toNat)) dX10_serve_100 kd_62 (by decide) (by omega) (rfl) rfl (rfl) (fun r303 => ?_)
          refine g_iload_n 102 dX10_serve_101 rfl rfl ?_
          refine g_icmp_ne 120 105 dX10_serve_102 (by first | assumption | omega) (by first | assumption | omega) (by decide) rfl (fun h304 => ?_) (fun h304 => ?_)
          · refine g_iinc (L' := [some (Rf 40), some (Iv s), some (Iv f), some (Iv (h + 1))]) 123 dX10_serve_120 rfl rfl (by decide) rfl ?_
            refine g_goto 87 dX10_serve_123 (by decide) ?_
            refine ihk (k - 1) (by omega) (h + 1) _ hI2 hL2 hS2 hf (by omega) (by omega) ?_
            rw [show (h + 1).toNat = h.toNat + 1 by omega, hsf_s, if_neg (by rw [← e62, ← e64]; omega), List.append_nil]
            exact hk
          refine g_aload_n 106 dX10_serve_105 rfl rfl ?_
          refine g_getC 109 dX10_serve_106 fgX10_51 kd_40 ly_40_23 rfl ?_
          refine g_iload_n 110 dX10_serve_109 rfl rfl ?_
          refine r_iald 111 ((h).toNat) (κ2 64 ((h).toNat)) dX10_serve_110 kd_64 (by decide) (by omega) (rfl) rfl (rfl) (fun r305 => ?_)
          refine g_iload_n 112 dX10_serve_111 rfl rfl ?_
          refine g_icmp_ne 120 115 dX10_serve_112 (by first | assumption | omega) (by first | assumption | omega) (by decide) rfl (fun h306 => ?_) (fun h306 => ?_)
          · refine g_iinc (L' := [some (Rf 40), some (Iv s), some (Iv f), some (Iv (h + 1))]) 123 dX10_serve_120 rfl rfl (by decide) rfl ?_
            refine g_goto 87 dX10_serve_123 (by decide) ?_
            refine ihk (k - 1) (by omega) (h + 1) _ hI2 hL2 hS2 hf (by omega) (by omega) ?_
            rw [show (h + 1).toNat = h.toNat + 1 by omega, hsf_s, if_neg (by rw [← e62, ← e64]; omega), List.append_nil]
            exact hk
          refine g_aload_n 116 dX10_serve_115 rfl rfl ?_
          refine g_iload_n 117 dX10_serve_116 rfl rfl ?_
          refine v_V 120 0 0 [Iv h] [] dX10_serve_117 cvX10_202 mwX10_fillHouse kd_40 (by decide) rfl (Nat.le_of_ble_eq_true rfl) rfl rfl rfl (c_X10_fillHouse (by omega) hI2 hL2) ?_
          refine g_iinc (L' := [some (Rf 40), some (Iv s), some (Iv f), some (Iv (h + 1))]) 123 dX10_serve_120 rfl rfl (by decide) rfl ?_
          refine g_goto 87 dX10_serve_123 (by decide) ?_
          have ef := fill_ok hI2 hL2 (k := h.toNat) (by omega)
          refine ihk (k - 1) (by omega) (h + 1) _ ef.1 ef.2.1 (hS2.tr ef.2.2) hf (by omega) (by omega) ?_
          rw [show (h + 1).toNat = h.toNat + 1 by omega, hsf_s, if_pos (by rw [← e62, ← e64]; omega), ← List.append_assoc, List.foldl_append, ← hk]
          rfl
      refine g_iload_n 80 dX10_serve_79 rfl rfl ?_
      refine g_bipush 82 dX10_serve_80 (by decide) rfl ?_
      refine g_icmp_ge 132 85 dX10_serve_82 (by first | assumption | omega) (by decide) (by decide) rfl (fun h301 => ?_) (fun h301 => ?_)
      · refine g_vret dX10_serve_132 rfl ?_
        have ef : f = 10 := by omega
        subst ef
        exact ⟨rfl, rfl, by rw [hk]; unfold serveM; rw [show ((s.toNat : Nat) : Int) = s by omega]; rfl⟩
      refine g_iconst 86 dX10_serve_85 (by decide) rfl ?_
      refine g_istore_n (L' := [some (Rf 40), some (Iv s), some (Iv f), some (Iv 0)]) 87 dX10_serve_86 rfl (by decide) rfl ?_
      exact lpH (κ 40 20).toNat 0 κ2 hI2 hL2 hS2 (by omega) (by omega) (by omega) (by rw [hk]; show _ = List.foldl fillM _ (_ ++ []); rw [List.append_nil])
  have sgT : ∀ (κ2 : Ks), MI κ2 → HL κ2 → sm κ κ2 → κ2 = plugM κ s.toNat → G (XR B n0) mX10_serve 4 (Ex none V (serveM κ s.toNat)) V 0 0 24 [some (Rf 40), some (Iv s), none, none] [] V κ2 := by
    intro κ2 hI2 hL2 hS2 hk
    have i2 := hS2.1.2.2.2.2.1
    have is2 := hI2.2.1 s.toNat (by omega)
    have hL := hL2
    obtain ⟨l1, l2⟩ := id hL2
    refine g_aload_n 25 dX10_serve_24 rfl rfl ?_
    refine g_getC 28 dX10_serve_25 fgX10_33 kd_40 ly_40_16 rfl ?_
    refine g_iload_n 29 dX10_serve_28 rfl rfl ?_
    refine r_iald 30 ((s).toNat) (κ2 57 ((s).toNat)) dX10_serve_29 kd_57 (by decide) (by omega) (rfl) rfl (rfl) (fun r151 => ?_)
    refine g_iconst 31 dX10_serve_30 (by decide) rfl ?_
    refine g_icmp_ne 77 34 dX10_serve_31 (by first | assumption | omega) (by decide) (by decide) rfl (fun h152 => ?_) (fun h152 => ?_)
    · refine g_iconst 78 dX10_serve_77 (by decide) rfl ?_
      refine g_istore_n (L' := [some (Rf 40), some (Iv s), some (Iv 0), none]) 79 dX10_serve_78 rfl (by decide) rfl ?_
      have et := tun_ok hI2 hL2 (s := s.toNat) (by omega)
      have ek : κ2 = tunM κ2 s.toNat := by unfold tunM tkM; split <;> first | rfl | (exfalso; omega)
      have q := lpF 10 0 _ et.1 et.2.1 (hS2.tr et.2.2) (by omega) (by omega) (by rw [hk]; rfl) none trivial
      rw [← ek] at q
      exact q
    refine g_aload_n 35 dX10_serve_34 rfl rfl ?_
    refine g_bipush 37 dX10_serve_35 (by decide) rfl ?_
    refine g_aload_n 38 dX10_serve_37 rfl rfl ?_
    refine g_getC 41 dX10_serve_38 fgX10_36 kd_40 ly_40_17 rfl ?_
    refine g_iload_n 42 dX10_serve_41 rfl rfl ?_
    refine r_iald 43 ((s).toNat) (κ2 58 ((s).toNat)) dX10_serve_42 kd_58 (by decide) (by omega) (rfl) rfl (rfl) (fun r153 => ?_)
    refine g_aload_n 44 dX10_serve_43 rfl rfl ?_
    refine g_getC 47 dX10_serve_44 fgX10_39 kd_40 ly_40_18 rfl ?_
    refine g_iload_n 48 dX10_serve_47 rfl rfl ?_
    refine r_iald 49 ((s).toNat) (κ2 59 ((s).toNat)) dX10_serve_48 kd_59 (by decide) (by omega) (rfl) rfl (rfl) (fun r154 => ?_)
    refine g_isub 50 dX10_serve_49 rfl ?_
    refine e_S 53 0 0 [Iv 40, Iv ((κ2 58 ((s).toNat)) - (κ2 59 ((s).toNat)))] [Rf 40] dX10_serve_50 csX10_187 mwX10_least (by decide) rfl (Nat.le_of_ble_eq_true rfl) rfl rfl rfl (c_X10_least (by omega) (by omega)) ?_
    refine e_V 56 0 0 [Iv (min 40 ((κ2 58 ((s).toNat)) - (κ2 59 ((s).toNat))))] [] dX10_serve_53 cvX10_190 mwX10_take kd_40 (by decide) rfl (Nat.le_of_ble_eq_true rfl) rfl rfl rfl (c_X10_take (by omega) hL) ?_
    refine g_istore_n (L' := [some (Rf 40), some (Iv s), some (Iv (min (min 40 ((κ2 58 ((s).toNat)) - (κ2 59 ((s).toNat)))) (κ2 40 48))), none]) 57 dX10_serve_56 rfl (by decide) rfl ?_
    refine g_aload_n 58 dX10_serve_57 rfl rfl ?_
    refine g_getC 61 dX10_serve_58 fgX10_39 kd_40 ly_40_18 rfl ?_
    refine g_iload_n 62 dX10_serve_61 rfl rfl ?_
    refine g_dup2 63 dX10_serve_62 rfl ?_
    refine r_iald 64 ((s).toNat) (κ2 59 ((s).toNat)) dX10_serve_63 kd_59 (by decide) (by omega) (rfl) rfl (rd_t (by decide) (rfl)) (fun r155 => ?_)
    refine g_iload_n 65 dX10_serve_64 rfl rfl ?_
    refine g_iadd 66 dX10_serve_65 rfl ?_
    refine r_iast 67 ((s).toNat) dX10_serve_66 kd_59 (by decide) ly_59 (by omega) (rfl) (by omega) rfl ?_
    refine g_aload_n 68 dX10_serve_67 rfl rfl ?_
    refine g_dup 69 dX10_serve_68 rfl ?_
    refine r_getI 72 (κ2 40 10) dX10_serve_69 fgX10_199 kd_40 ly_40_10 rfl (rd_t (by decide) (rd_j (by decide) (rfl))) (fun r156 => ?_)
    refine g_iload_n 73 dX10_serve_72 rfl rfl ?_
    refine g_iadd 74 dX10_serve_73 rfl ?_
    refine r_putIw 77 dX10_serve_74 fpX10_199 (fun h => (nomatch h)) kd_40 ly_40_10 rfl ?_
    refine g_iconst 78 dX10_serve_77 (by decide) rfl ?_
    refine g_istore_n (L' := [some (Rf 40), some (Iv s), some (Iv 0), none]) 79 dX10_serve_78 rfl (by decide) rfl ?_
    have et := tun_ok hI2 hL2 (s := s.toNat) (by omega)
    have ek : (st2 (st2 (st2 κ2 40 48 (κ2 40 48 - min (min 40 ((κ2 58 ((s).toNat)) - (κ2 59 ((s).toNat)))) (κ2 40 48))) 59 ((s).toNat) ((κ2 59 ((s).toNat)) + (min (min 40 ((κ2 58 ((s).toNat)) - (κ2 59 ((s).toNat)))) (κ2 40 48)))) 40 10 (bm ((κ2 40 10) + (min (min 40 ((κ2 58 ((s).toNat)) - (κ2 59 ((s).toNat)))) (κ2 40 48))))) = tunM κ2 s.toNat := by unfold tunM tkM; split <;> first | rfl | (exfalso; omega)
    have q := lpF 10 0 _ et.1 et.2.1 (hS2.tr et.2.2) (by omega) (by omega) (by rw [hk]; rfl) none trivial
    rw [← ek] at q
    exact q
  refine g_aload_n 1 dX10_serve_0 rfl rfl ?_
  refine g_getC 4 dX10_serve_1 fgX10_42 kd_40 ly_40_19 rfl ?_
  refine g_iload_n 5 dX10_serve_4 rfl rfl ?_
  refine r_zald 6 ((s).toNat) (κ 60 ((s).toNat)) dX10_serve_5 kd_60 (by decide) (by omega) (rfl) rfl (rfl) (fun r1 => ?_)
  refine g_if_eq 24 9 dX10_serve_6 (by first | assumption | omega) (by decide) rfl (fun h2 => ?_) (fun h2 => ?_)
  · have ep := plug_ok hI hL s.toNat
    have ek : κ = plugM κ s.toNat := by unfold plugM tkM; split <;> first | rfl | (exfalso; omega)
    have q := sgT _ ep.1 ep.2.1 ep.2.2 rfl
    rw [← ek] at q
    exact q
  refine g_aload_n 10 dX10_serve_9 rfl rfl ?_
  refine g_dup 11 dX10_serve_10 rfl ?_
  refine r_getI 14 (κ 40 6) dX10_serve_11 fgX10_196 kd_40 ly_40_6 rfl (rfl) (fun r3 => ?_)
  refine g_aload_n 15 dX10_serve_14 rfl rfl ?_
  refine g_bipush 17 dX10_serve_15 (by decide) rfl ?_
  refine e_V 20 0 0 [Iv 60] [Iv (κ 40 6), Rf 40] dX10_serve_17 cvX10_190 mwX10_take kd_40 (by decide) rfl (Nat.le_of_ble_eq_true rfl) rfl rfl rfl (c_X10_take (by omega) hL) ?_
  refine g_iadd 21 dX10_serve_20 rfl ?_
  refine r_putIw 24 dX10_serve_21 fpX10_196 (fun h => (nomatch h)) kd_40 ly_40_6 rfl ?_
  have ep := plug_ok hI hL s.toNat
  have ek : (st2 (st2 κ 40 48 (κ 40 48 - min 60 (κ 40 48))) 40 6 (bm ((κ 40 6) + (min 60 (κ 40 48))))) = plugM κ s.toNat := by unfold plugM tkM; split <;> first | rfl | (exfalso; omega)
  have q := sgT _ ep.1 ep.2.1 ep.2.2 rfl
  rw [← ek] at q
  exact q
