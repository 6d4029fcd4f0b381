/-! the reference: methods without loops (printed by wip/whole/gen13.py) -/
set_option maxHeartbeats 4000000 in
set_option maxRecDepth 20000 in
theorem c_X10_in {B : Bs} {n0 : Nat} {V : Vs} {κ : Ks} {v lo hi : Int} (r_v : inR v) (r_lo : inR lo) (r_hi : inR hi) : Ct (XR B n0) mX10_in 1 0 0 [Iv v, Iv lo, Iv hi] V κ (Or2 V κ (lo ≤ v ∧ v ≤ hi) (Iv 1) (v < lo ∨ hi < v) (Iv 0)) := by
  refine Ct.of (L := [some (Iv v), some (Iv lo), some (Iv hi)]) 0 (by decide +kernel) rfl rfl ?_
  refine g_iload_n 1 dX10_in_0 rfl rfl ?_
  refine g_iload_n 2 dX10_in_1 rfl rfl ?_
  refine g_icmp_lt 14 5 dX10_in_2 (by omega) (by omega) (by decide) rfl (fun h1 => ?_) (fun h1 => ?_)
  · refine g_iconst 15 dX10_in_14 (by decide) rfl ?_
    refine g_zret dX10_in_15 rfl (by omega) ?_
    exact ⟨rfl, rfl, Or.inr ⟨by omega, rfl⟩⟩
  refine g_iload_n 6 dX10_in_5 rfl rfl ?_
  refine g_iload_n 7 dX10_in_6 rfl rfl ?_
  refine g_icmp_gt 14 10 dX10_in_7 (by omega) (by omega) (by decide) rfl (fun h2 => ?_) (fun h2 => ?_)
  · refine g_iconst 15 dX10_in_14 (by decide) rfl ?_
    refine g_zret dX10_in_15 rfl (by omega) ?_
    exact ⟨rfl, rfl, Or.inr ⟨by omega, rfl⟩⟩
  refine g_iconst 11 dX10_in_10 (by decide) rfl ?_
  refine g_goto 15 dX10_in_11 (by decide) ?_
  refine g_zret dX10_in_15 rfl (by omega) ?_
  exact ⟨rfl, rfl, Or.inl ⟨by omega, rfl⟩⟩
set_option maxHeartbeats 4000000 in
set_option maxRecDepth 20000 in
theorem c_X10_refuse {B : Bs} {n0 : Nat} {V : Vs} {κ : Ks} (j : Nat) {w : Int} (hj : 1 ≤ j ∧ j ≤ 7) (hw : w = -(j : Int)) : Ct (XR B n0) mX10_refuse 1 0 0 [Rf 40, Iv w] V κ (Ex (some (Iv w)) V (rfM κ j)) := by
  refine Ct.of (L := [some (Rf 40), some (Iv w)]) 0 (by decide +kernel) rfl rfl ?_
  refine g_aload_n 1 dX10_refuse_0 rfl rfl ?_
  refine g_getC 4 dX10_refuse_1 fgX10_111 kd_40 ly_40_46 rfl ?_
  refine g_iload_n 5 dX10_refuse_4 rfl rfl ?_
  refine g_ineg 6 dX10_refuse_5 rfl ?_
  refine g_dup2 7 dX10_refuse_6 rfl ?_
  refine r_iald 8 j (κ 87 j) dX10_refuse_7 kd_87 (by decide) (by omega) (by omega) rfl (rfl) (fun r1 => ?_)
  refine g_iconst 9 dX10_refuse_8 (by decide) rfl ?_
  refine g_iadd 10 dX10_refuse_9 rfl ?_
  refine r_iastw 11 j dX10_refuse_10 kd_87 (by decide) ly_87 (by omega) (by omega) rfl ?_
  refine g_iload_n 12 dX10_refuse_11 rfl rfl ?_
  refine g_iret dX10_refuse_12 rfl ?_
  exact ⟨rfl, rfl, rfl⟩
set_option maxHeartbeats 4000000 in
set_option maxRecDepth 20000 in
theorem c_X10_least {B : Bs} {n0 : Nat} {V : Vs} {κ : Ks} {a b : Int} (r_a : inR a) (r_b : inR b) : Ct (XR B n0) mX10_least 1 0 0 [Iv a, Iv b] V κ (Ex (some (Iv (min a b))) V κ) := by
  refine Ct.of (L := [some (Iv a), some (Iv b)]) 0 (by decide +kernel) rfl rfl ?_
  refine g_iload_n 1 dX10_least_0 rfl rfl ?_
  refine g_iload_n 2 dX10_least_1 rfl rfl ?_
  refine g_icmp_ge 9 5 dX10_least_2 (by omega) (by omega) (by decide) rfl (fun h1 => ?_) (fun h1 => ?_)
  · refine g_iload_n 10 dX10_least_9 rfl rfl ?_
    refine g_iret dX10_least_10 rfl ?_
    exact ⟨congrArg (fun x => some (Iv x)) (by omega), rfl, rfl⟩
  refine g_iload_n 6 dX10_least_5 rfl rfl ?_
  refine g_goto 10 dX10_least_6 (by decide) ?_
  refine g_iret dX10_least_10 rfl ?_
  exact ⟨congrArg (fun x => some (Iv x)) (by omega), rfl, rfl⟩
set_option maxHeartbeats 4000000 in
set_option maxRecDepth 20000 in
theorem c_X10_isStreet {B : Bs} {n0 : Nat} {V : Vs} {κ : Ks} {s : Int} (r_s : inR s) (hI : MI κ) : Ct (XR B n0) mX10_isStreet 2 0 0 [Rf 40, Iv s] V κ (Or2 V κ (0 ≤ s ∧ s < κ 40 11) (Iv 1) (s < 0 ∨ κ 40 11 ≤ s) (Iv 0)) := by
  obtain ⟨⟨i0, i1, i2, i3, i4, i5, i6, i7, i8, i9⟩, iS, iH, iR, iT, iC, iG, iL, iZ⟩ := id hI
  refine Ct.of (L := [some (Rf 40), some (Iv s)]) 0 (by decide +kernel) rfl rfl ?_
  refine g_iload_n 1 dX10_isStreet_0 rfl rfl ?_
  refine g_iconst 2 dX10_isStreet_1 (by decide) rfl ?_
  refine g_aload_n 3 dX10_isStreet_2 rfl rfl ?_
  refine r_getI 6 (κ 40 11) dX10_isStreet_3 fgX10_135 kd_40 ly_40_11 rfl (rfl) (fun r1 => ?_)
  refine g_iconst 7 dX10_isStreet_6 (by decide) rfl ?_
  refine g_isub 8 dX10_isStreet_7 rfl ?_
  refine o_S 11 0 0 [Iv s, Iv 0, Iv ((κ 40 11) - 1)] [] dX10_isStreet_8 csX10_138 mwX10_in (by decide) rfl (by decide) rfl rfl rfl (c_X10_in (by omega) (by omega) (by omega)) (fun h2 => ?_) (fun h2 => ?_)
  · refine g_zret dX10_isStreet_11 rfl (by omega) ?_
    exact ⟨rfl, rfl, Or.inl ⟨by omega, rfl⟩⟩
  refine g_zret dX10_isStreet_11 rfl (by omega) ?_
  exact ⟨rfl, rfl, Or.inr ⟨by omega, rfl⟩⟩
set_option maxHeartbeats 4000000 in
set_option maxRecDepth 20000 in
theorem c_X10_isHouse {B : Bs} {n0 : Nat} {V : Vs} {κ : Ks} {s : Int} (r_s : inR s) (hI : MI κ) : Ct (XR B n0) mX10_isHouse 2 0 0 [Rf 40, Iv s] V κ (Or2 V κ (0 ≤ s ∧ s < κ 40 20) (Iv 1) (s < 0 ∨ κ 40 20 ≤ s) (Iv 0)) := by
  obtain ⟨⟨i0, i1, i2, i3, i4, i5, i6, i7, i8, i9⟩, iS, iH, iR, iT, iC, iG, iL, iZ⟩ := id hI
  refine Ct.of (L := [some (Rf 40), some (Iv s)]) 0 (by decide +kernel) rfl rfl ?_
  refine g_iload_n 1 dX10_isHouse_0 rfl rfl ?_
  refine g_iconst 2 dX10_isHouse_1 (by decide) rfl ?_
  refine g_aload_n 3 dX10_isHouse_2 rfl rfl ?_
  refine r_getI 6 (κ 40 20) dX10_isHouse_3 fgX10_142 kd_40 ly_40_20 rfl (rfl) (fun r1 => ?_)
  refine g_iconst 7 dX10_isHouse_6 (by decide) rfl ?_
  refine g_isub 8 dX10_isHouse_7 rfl ?_
  refine o_S 11 0 0 [Iv s, Iv 0, Iv ((κ 40 20) - 1)] [] dX10_isHouse_8 csX10_138 mwX10_in (by decide) rfl (by decide) rfl rfl rfl (c_X10_in (by omega) (by omega) (by omega)) (fun h2 => ?_) (fun h2 => ?_)
  · refine g_zret dX10_isHouse_11 rfl (by omega) ?_
    exact ⟨rfl, rfl, Or.inl ⟨by omega, rfl⟩⟩
  refine g_zret dX10_isHouse_11 rfl (by omega) ?_
  exact ⟨rfl, rfl, Or.inr ⟨by omega, rfl⟩⟩
set_option maxHeartbeats 4000000 in
set_option maxRecDepth 20000 in
theorem c_X10_street {B : Bs} {n0 : Nat} {V : Vs} {κ : Ks} {a l : Int} (r_a : inR a) (r_l : inR l)  (hI : MI κ) : Ct (XR B n0) mX10_street 2 0 0 [Rf 40, Iv a, Iv l] V κ (PM (M_street κ a l) V) := by
  obtain ⟨⟨i0, i1, i2, i3, i4, i5, i6, i7, i8, i9⟩, iS, iH, iR, iT, iC, iG, iL, iZ⟩ := id hI
  refine Ct.of (L := [some (Rf 40), some (Iv a), some (Iv l)]) 0 (by decide +kernel) rfl rfl ?_
  refine g_iload_n 1 dX10_street_0 rfl rfl ?_
  refine g_iconst 2 dX10_street_1 (by decide) rfl ?_
  refine g_aload_n 3 dX10_street_2 rfl rfl ?_
  refine r_getI 6 (κ 40 11) dX10_street_3 fgX10_135 kd_40 ly_40_11 rfl (rfl) (fun r1 => ?_)
  refine g_iconst 7 dX10_street_6 (by decide) rfl ?_
  refine g_isub 8 dX10_street_7 rfl ?_
  refine o_S 11 0 0 [Iv a, Iv (-1), Iv ((κ 40 11) - 1)] [] dX10_street_8 csX10_138 mwX10_in (by decide) rfl (by decide) rfl rfl rfl (c_X10_in (by omega) (by omega) (by omega)) (fun h2 => ?_) (fun h2 => ?_)
  · refine g_if_ne 20 14 dX10_street_11 (by omega) (by decide) rfl (fun _ => ?_) (fun z => absurd z (by decide))
    refine g_iload_n 21 dX10_street_20 rfl rfl ?_
    refine g_iconst 22 dX10_street_21 (by decide) rfl ?_
    refine g_icmp_ge 32 25 dX10_street_22 (by omega) (by omega) (by decide) rfl (fun h3 => ?_) (fun h3 => ?_)
    · refine g_iload_n 33 dX10_street_32 rfl rfl ?_
      refine g_bipush 35 dX10_street_33 (by decide) rfl ?_
      refine g_icmp_gt 47 38 dX10_street_35 (by omega) (by omega) (by decide) rfl (fun h4 => ?_) (fun h4 => ?_)
      · refine g_aload_n 48 dX10_street_47 rfl rfl ?_
        refine g_bipush 50 dX10_street_48 (by decide) rfl ?_
        refine e_V 53 0 0 [Iv (-6)] [] dX10_street_50 cvX10_145 mwX10_refuse kd_40 (by decide) rfl (by decide) rfl rfl rfl (c_X10_refuse 6 (by decide) (by decide)) ?_
        refine g_iret dX10_street_53 rfl ?_
        unfold M_street
        (repeat' split) <;> first | (exfalso; omega) | exact ⟨rfl, rfl, rfl⟩ | exact ⟨congrArg (fun x => some (Iv x)) (by omega), rfl, rfl⟩
      refine g_aload_n 39 dX10_street_38 rfl rfl ?_
      refine r_getI 42 (κ 40 11) dX10_street_39 fgX10_135 kd_40 ly_40_11 rfl (rfl) (fun r5 => ?_)
      refine g_bipush 44 dX10_street_42 (by decide) rfl ?_
      refine g_icmp_ne 54 47 dX10_street_44 (by omega) (by omega) (by decide) rfl (fun h6 => ?_) (fun h6 => ?_)
      · refine g_aload_n 55 dX10_street_54 rfl rfl ?_
        refine g_getC 58 dX10_street_55 fgX10_19 kd_40 ly_40_12 rfl ?_
        refine g_aload_n 59 dX10_street_58 rfl rfl ?_
        refine r_getI 62 (κ 40 11) dX10_street_59 fgX10_135 kd_40 ly_40_11 rfl (rfl) (fun r7 => ?_)
        refine g_iload_n 63 dX10_street_62 rfl rfl ?_
        refine r_iast 64 ((κ 40 11).toNat) dX10_street_63 kd_53 (by decide) ly_53 (by omega) (rfl) (by omega) rfl ?_
        refine g_aload_n 65 dX10_street_64 rfl rfl ?_
        refine g_getC 68 dX10_street_65 fgX10_23 kd_40 ly_40_13 rfl ?_
        refine g_aload_n 69 dX10_street_68 rfl rfl ?_
        refine r_getI 72 (κ 40 11) dX10_street_69 fgX10_135 kd_40 ly_40_11 rfl (rd_t (by decide) (rfl)) (fun r8 => ?_)
        refine g_iload_n 73 dX10_street_72 rfl rfl ?_
        refine r_iast 74 ((κ 40 11).toNat) dX10_street_73 kd_54 (by decide) ly_54 (by omega) (rfl) (by omega) rfl ?_
        refine g_aload_n 75 dX10_street_74 rfl rfl ?_
        refine g_getC 78 dX10_street_75 fgX10_26 kd_40 ly_40_14 rfl ?_
        refine g_aload_n 79 dX10_street_78 rfl rfl ?_
        refine r_getI 82 (κ 40 11) dX10_street_79 fgX10_135 kd_40 ly_40_11 rfl (rd_t (by decide) (rd_t (by decide) (rfl))) (fun r9 => ?_)
        refine g_aload_n 83 dX10_street_82 rfl rfl ?_
        refine r_getI 86 (κ 40 0) dX10_street_83 fgX10_149 kd_40 ly_40_0 rfl (rd_t (by decide) (rd_t (by decide) (rfl))) (fun r10 => ?_)
        refine g_sipush 89 dX10_street_86 (by decide) rfl ?_
        refine g_idiv 90 dX10_street_89 (by omega) (by omega) rfl ?_
        refine r_iast 91 ((κ 40 11).toNat) dX10_street_90 kd_55 (by decide) ly_55 (by omega) (rfl) (by omega) rfl ?_
        refine g_aload_n 92 dX10_street_91 rfl rfl ?_
        refine g_dup 93 dX10_street_92 rfl ?_
        refine r_getI 96 (κ 40 11) dX10_street_93 fgX10_135 kd_40 ly_40_11 rfl (rd_t (by decide) (rd_t (by decide) (rd_t (by decide) (rfl)))) (fun r11 => ?_)
        refine g_iconst 97 dX10_street_96 (by decide) rfl ?_
        refine g_iadd 98 dX10_street_97 rfl ?_
        refine g_putI 101 dX10_street_98 fpX10_135 (fun h => (nomatch h)) kd_40 ly_40_11 (by omega) rfl ?_
        refine g_aload_n 102 dX10_street_101 rfl rfl ?_
        refine r_getI 105 (((κ 40 11) + 1)) dX10_street_102 fgX10_135 kd_40 ly_40_11 rfl (rd_s rfl rfl rfl) (fun r12 => ?_)
        refine g_iconst 106 dX10_street_105 (by decide) rfl ?_
        refine g_isub 107 dX10_street_106 rfl ?_
        refine g_iret dX10_street_107 rfl ?_
        unfold M_street
        (repeat' split) <;> first | (exfalso; omega) | exact ⟨rfl, rfl, rfl⟩ | exact ⟨congrArg (fun x => some (Iv x)) (by omega), rfl, rfl⟩
      refine g_aload_n 48 dX10_street_47 rfl rfl ?_
      refine g_bipush 50 dX10_street_48 (by decide) rfl ?_
      refine e_V 53 0 0 [Iv (-6)] [] dX10_street_50 cvX10_145 mwX10_refuse kd_40 (by decide) rfl (by decide) rfl rfl rfl (c_X10_refuse 6 (by decide) (by decide)) ?_
      refine g_iret dX10_street_53 rfl ?_
      unfold M_street
      (repeat' split) <;> first | (exfalso; omega) | exact ⟨rfl, rfl, rfl⟩ | exact ⟨congrArg (fun x => some (Iv x)) (by omega), rfl, rfl⟩
    refine g_aload_n 26 dX10_street_25 rfl rfl ?_
    refine g_bipush 28 dX10_street_26 (by decide) rfl ?_
    refine e_V 31 0 0 [Iv (-4)] [] dX10_street_28 cvX10_145 mwX10_refuse kd_40 (by decide) rfl (by decide) rfl rfl rfl (c_X10_refuse 4 (by decide) (by decide)) ?_
    refine g_iret dX10_street_31 rfl ?_
    unfold M_street
    (repeat' split) <;> first | (exfalso; omega) | exact ⟨rfl, rfl, rfl⟩ | exact ⟨congrArg (fun x => some (Iv x)) (by omega), rfl, rfl⟩
  refine g_if_ne 20 14 dX10_street_11 (by omega) (by decide) rfl (fun z => absurd z (by decide)) (fun _ => ?_)
  refine g_aload_n 15 dX10_street_14 rfl rfl ?_
  refine g_iconst 16 dX10_street_15 (by decide) rfl ?_
  refine e_V 19 0 0 [Iv (-1)] [] dX10_street_16 cvX10_145 mwX10_refuse kd_40 (by decide) rfl (by decide) rfl rfl rfl (c_X10_refuse 1 (by decide) (by decide)) ?_
  refine g_iret dX10_street_19 rfl ?_
  unfold M_street
  (repeat' split) <;> first | (exfalso; omega) | exact ⟨rfl, rfl, rfl⟩ | exact ⟨congrArg (fun x => some (Iv x)) (by omega), rfl, rfl⟩
set_option maxHeartbeats 4000000 in
set_option maxRecDepth 20000 in
theorem c_X10_set {B : Bs} {n0 : Nat} {V : Vs} {κ : Ks} {w v : Int} (r_w : inR w) (r_v : inR v)  (hI : MI κ) : Ct (XR B n0) mX10_set 2 0 0 [Rf 40, Iv w, Iv v] V κ (PM (M_set κ w v) V) := by
  obtain ⟨⟨i0, i1, i2, i3, i4, i5, i6, i7, i8, i9⟩, iS, iH, iR, iT, iC, iG, iL, iZ⟩ := id hI
  refine Ct.of (L := [some (Rf 40), some (Iv w), some (Iv v), none]) 1 (by decide +kernel) rfl rfl ?_
  refine g_iload_n 1 dX10_set_0 rfl rfl ?_
  refine g_iconst 2 dX10_set_1 (by decide) rfl ?_
  refine g_iconst 3 dX10_set_2 (by decide) rfl ?_
  refine o_S 6 0 0 [Iv w, Iv 0, Iv 2] [] dX10_set_3 csX10_138 mwX10_in (by decide) rfl (by decide) rfl rfl rfl (c_X10_in (by omega) (by omega) (by omega)) (fun h1 => ?_) (fun h1 => ?_)
  · refine g_if_ne 16 9 dX10_set_6 (by omega) (by decide) rfl (fun _ => ?_) (fun z => absurd z (by decide))
    refine g_iload_n 17 dX10_set_16 rfl rfl ?_
    refine g_iload_n 18 dX10_set_17 rfl rfl ?_
    refine g_iconst 19 dX10_set_18 (by decide) rfl ?_
    refine g_icmp_ne 26 22 dX10_set_19 (by omega) (by omega) (by decide) rfl (fun h2 => ?_) (fun h2 => ?_)
    · refine g_iconst 27 dX10_set_26 (by decide) rfl ?_
      refine g_icmp_ge 37 30 dX10_set_27 (by omega) (by omega) (by decide) rfl (fun h3 => ?_) (fun h3 => ?_)
      · refine g_iload_n 38 dX10_set_37 rfl rfl ?_
        refine g_iload_n 39 dX10_set_38 rfl rfl ?_
        refine g_if_ne 48 42 dX10_set_39 (by omega) (by decide) rfl (fun h4 => ?_) (fun h4 => ?_)
        · refine g_iload_n 49 dX10_set_48 rfl rfl ?_
          refine g_iconst 50 dX10_set_49 (by decide) rfl ?_
          refine g_icmp_ne 58 53 dX10_set_50 (by omega) (by omega) (by decide) rfl (fun h5 => ?_) (fun h5 => ?_)
          · refine g_bipush 60 dX10_set_58 (by decide) rfl ?_
            refine g_icmp_le 70 63 dX10_set_60 (by omega) (by omega) (by decide) rfl (fun h6 => ?_) (fun h6 => ?_)
            · refine g_iload_n 71 dX10_set_70 rfl rfl ?_
              refine g_if_ne 81 74 dX10_set_71 (by omega) (by decide) rfl (fun h7 => ?_) (fun h7 => ?_)
              · refine g_iload_n 82 dX10_set_81 rfl rfl ?_
                refine g_iconst 83 dX10_set_82 (by decide) rfl ?_
                refine g_icmp_ne 93 86 dX10_set_83 (by omega) (by omega) (by decide) rfl (fun h8 => ?_) (fun h8 => ?_)
                · refine g_aload_n 94 dX10_set_93 rfl rfl ?_
                  refine r_getI 97 (κ 40 3) dX10_set_94 fgX10_16 kd_40 ly_40_3 rfl (rfl) (fun r9 => ?_)
                  refine g_istore_n (L' := [some (Rf 40), some (Iv w), some (Iv v), some (Iv (κ 40 3))]) 98 dX10_set_97 rfl (by decide) rfl ?_
                  refine g_aload_n 99 dX10_set_98 rfl rfl ?_
                  refine g_iload_n 100 dX10_set_99 rfl rfl ?_
                  refine g_if_ne 107 103 dX10_set_100 (by omega) (by decide) rfl (fun h10 => ?_) (fun h10 => ?_)
                  · refine g_aload_n 108 dX10_set_107 rfl rfl ?_
                    refine r_getI 111 (κ 40 1) dX10_set_108 fgX10_7 kd_40 ly_40_1 rfl (rfl) (fun r11 => ?_)
                    refine g_putI 114 dX10_set_111 fpX10_7 (fun h => (nomatch h)) kd_40 ly_40_1 (by omega) rfl ?_
                    refine g_aload_n 115 dX10_set_114 rfl rfl ?_
                    refine g_iload_n 116 dX10_set_115 rfl rfl ?_
                    refine g_iconst 117 dX10_set_116 (by decide) rfl ?_
                    refine g_icmp_ne 124 120 dX10_set_117 (by omega) (by omega) (by decide) rfl (fun h12 => ?_) (fun h12 => ?_)
                    · refine g_aload_n 125 dX10_set_124 rfl rfl ?_
                      refine r_getI 128 (κ 40 2) dX10_set_125 fgX10_13 kd_40 ly_40_2 rfl (rd_j (by decide) (rfl)) (fun r13 => ?_)
                      refine g_putI 131 dX10_set_128 fpX10_13 (fun h => (nomatch h)) kd_40 ly_40_2 (by omega) rfl ?_
                      refine g_aload_n 132 dX10_set_131 rfl rfl ?_
                      refine g_iload_n 133 dX10_set_132 rfl rfl ?_
                      refine g_iconst 134 dX10_set_133 (by decide) rfl ?_
                      refine g_icmp_ne 141 137 dX10_set_134 (by omega) (by omega) (by decide) rfl (fun h14 => ?_) (fun h14 => ?_)
                      · refine g_aload_n 142 dX10_set_141 rfl rfl ?_
                        refine r_getI 145 (κ 40 3) dX10_set_142 fgX10_16 kd_40 ly_40_3 rfl (rd_j (by decide) (rd_j (by decide) (rfl))) (fun r15 => ?_)
                        refine g_putI 148 dX10_set_145 fpX10_16 (fun h => (nomatch h)) kd_40 ly_40_3 (by omega) rfl ?_
                        refine g_iload_n 149 dX10_set_148 rfl rfl ?_
                        refine g_iret dX10_set_149 rfl ?_
                        unfold M_set
                        (repeat' split) <;> first | (exfalso; omega) | exact ⟨rfl, rfl, rfl⟩ | exact ⟨congrArg (fun x => some (Iv x)) (by omega), rfl, rfl⟩
                      refine g_iload_n 138 dX10_set_137 rfl rfl ?_
                      refine g_goto 145 dX10_set_138 (by decide) ?_
                      refine g_putI 148 dX10_set_145 fpX10_16 (fun h => (nomatch h)) kd_40 ly_40_3 (by omega) rfl ?_
                      refine g_iload_n 149 dX10_set_148 rfl rfl ?_
                      refine g_iret dX10_set_149 rfl ?_
                      unfold M_set
                      (repeat' split) <;> first | (exfalso; omega) | exact ⟨rfl, rfl, rfl⟩ | exact ⟨congrArg (fun x => some (Iv x)) (by omega), rfl, rfl⟩
                    refine g_iload_n 121 dX10_set_120 rfl rfl ?_
                    refine g_goto 128 dX10_set_121 (by decide) ?_
                    refine g_putI 131 dX10_set_128 fpX10_13 (fun h => (nomatch h)) kd_40 ly_40_2 (by omega) rfl ?_
                    refine g_aload_n 132 dX10_set_131 rfl rfl ?_
                    refine g_iload_n 133 dX10_set_132 rfl rfl ?_
                    refine g_iconst 134 dX10_set_133 (by decide) rfl ?_
                    refine g_icmp_ne 141 137 dX10_set_134 (by omega) (by omega) (by decide) rfl (fun h16 => ?_) (fun h16 => ?_)
                    · refine g_aload_n 142 dX10_set_141 rfl rfl ?_
                      refine r_getI 145 (κ 40 3) dX10_set_142 fgX10_16 kd_40 ly_40_3 rfl (rd_j (by decide) (rd_j (by decide) (rfl))) (fun r17 => ?_)
                      refine g_putI 148 dX10_set_145 fpX10_16 (fun h => (nomatch h)) kd_40 ly_40_3 (by omega) rfl ?_
                      refine g_iload_n 149 dX10_set_148 rfl rfl ?_
                      refine g_iret dX10_set_149 rfl ?_
                      unfold M_set
                      (repeat' split) <;> first | (exfalso; omega) | exact ⟨rfl, rfl, rfl⟩ | exact ⟨congrArg (fun x => some (Iv x)) (by omega), rfl, rfl⟩
                    refine g_iload_n 138 dX10_set_137 rfl rfl ?_
                    refine g_goto 145 dX10_set_138 (by decide) ?_
                    refine g_putI 148 dX10_set_145 fpX10_16 (fun h => (nomatch h)) kd_40 ly_40_3 (by omega) rfl ?_
                    refine g_iload_n 149 dX10_set_148 rfl rfl ?_
                    refine g_iret dX10_set_149 rfl ?_
                    unfold M_set
                    (repeat' split) <;> first | (exfalso; omega) | exact ⟨rfl, rfl, rfl⟩ | exact ⟨congrArg (fun x => some (Iv x)) (by omega), rfl, rfl⟩
                  refine g_iload_n 104 dX10_set_103 rfl rfl ?_
                  refine g_goto 111 dX10_set_104 (by decide) ?_
                  refine g_putI 114 dX10_set_111 fpX10_7 (fun h => (nomatch h)) kd_40 ly_40_1 (by omega) rfl ?_
                  refine g_aload_n 115 dX10_set_114 rfl rfl ?_
                  refine g_iload_n 116 dX10_set_115 rfl rfl ?_
                  refine g_iconst 117 dX10_set_116 (by decide) rfl ?_
                  refine g_icmp_ne 124 120 dX10_set_117 (by omega) (by omega) (by decide) rfl (fun h18 => ?_) (fun h18 => ?_)
                  · refine g_aload_n 125 dX10_set_124 rfl rfl ?_
                    refine r_getI 128 (κ 40 2) dX10_set_125 fgX10_13 kd_40 ly_40_2 rfl (rd_j (by decide) (rfl)) (fun r19 => ?_)
                    refine g_putI 131 dX10_set_128 fpX10_13 (fun h => (nomatch h)) kd_40 ly_40_2 (by omega) rfl ?_
                    refine g_aload_n 132 dX10_set_131 rfl rfl ?_
                    refine g_iload_n 133 dX10_set_132 rfl rfl ?_
                    refine g_iconst 134 dX10_set_133 (by decide) rfl ?_
                    refine g_icmp_ne 141 137 dX10_set_134 (by omega) (by omega) (by decide) rfl (fun h20 => ?_) (fun h20 => ?_)
                    · refine g_aload_n 142 dX10_set_141 rfl rfl ?_
                      refine r_getI 145 (κ 40 3) dX10_set_142 fgX10_16 kd_40 ly_40_3 rfl (rd_j (by decide) (rd_j (by decide) (rfl))) (fun r21 => ?_)
                      refine g_putI 148 dX10_set_145 fpX10_16 (fun h => (nomatch h)) kd_40 ly_40_3 (by omega) rfl ?_
                      refine g_iload_n 149 dX10_set_148 rfl rfl ?_
                      refine g_iret dX10_set_149 rfl ?_
                      unfold M_set
                      (repeat' split) <;> first | (exfalso; omega) | exact ⟨rfl, rfl, rfl⟩ | exact ⟨congrArg (fun x => some (Iv x)) (by omega), rfl, rfl⟩
                    refine g_iload_n 138 dX10_set_137 rfl rfl ?_
                    refine g_goto 145 dX10_set_138 (by decide) ?_
                    refine g_putI 148 dX10_set_145 fpX10_16 (fun h => (nomatch h)) kd_40 ly_40_3 (by omega) rfl ?_
                    refine g_iload_n 149 dX10_set_148 rfl rfl ?_
                    refine g_iret dX10_set_149 rfl ?_
                    unfold M_set
                    (repeat' split) <;> first | (exfalso; omega) | exact ⟨rfl, rfl, rfl⟩ | exact ⟨congrArg (fun x => some (Iv x)) (by omega), rfl, rfl⟩
                  refine g_iload_n 121 dX10_set_120 rfl rfl ?_
                  refine g_goto 128 dX10_set_121 (by decide) ?_
                  refine g_putI 131 dX10_set_128 fpX10_13 (fun h => (nomatch h)) kd_40 ly_40_2 (by omega) rfl ?_
                  refine g_aload_n 132 dX10_set_131 rfl rfl ?_
                  refine g_iload_n 133 dX10_set_132 rfl rfl ?_
                  refine g_iconst 134 dX10_set_133 (by decide) rfl ?_
                  refine g_icmp_ne 141 137 dX10_set_134 (by omega) (by omega) (by decide) rfl (fun h22 => ?_) (fun h22 => ?_)
                  · refine g_aload_n 142 dX10_set_141 rfl rfl ?_
                    refine r_getI 145 (κ 40 3) dX10_set_142 fgX10_16 kd_40 ly_40_3 rfl (rd_j (by decide) (rd_j (by decide) (rfl))) (fun r23 => ?_)
                    refine g_putI 148 dX10_set_145 fpX10_16 (fun h => (nomatch h)) kd_40 ly_40_3 (by omega) rfl ?_
                    refine g_iload_n 149 dX10_set_148 rfl rfl ?_
                    refine g_iret dX10_set_149 rfl ?_
                    unfold M_set
                    (repeat' split) <;> first | (exfalso; omega) | exact ⟨rfl, rfl, rfl⟩ | exact ⟨congrArg (fun x => some (Iv x)) (by omega), rfl, rfl⟩
                  refine g_iload_n 138 dX10_set_137 rfl rfl ?_
                  refine g_goto 145 dX10_set_138 (by decide) ?_
                  refine g_putI 148 dX10_set_145 fpX10_16 (fun h => (nomatch h)) kd_40 ly_40_3 (by omega) rfl ?_
                  refine g_iload_n 149 dX10_set_148 rfl rfl ?_
                  refine g_iret dX10_set_149 rfl ?_
                  unfold M_set
                  (repeat' split) <;> first | (exfalso; omega) | exact ⟨rfl, rfl, rfl⟩ | exact ⟨congrArg (fun x => some (Iv x)) (by omega), rfl, rfl⟩
                refine g_aload_n 87 dX10_set_86 rfl rfl ?_
                refine r_getI 90 (κ 40 2) dX10_set_87 fgX10_13 kd_40 ly_40_2 rfl (rfl) (fun r24 => ?_)
                refine g_goto 97 dX10_set_90 (by decide) ?_
                refine g_istore_n (L' := [some (Rf 40), some (Iv w), some (Iv v), some (Iv (κ 40 2))]) 98 dX10_set_97 rfl (by decide) rfl ?_
                refine g_aload_n 99 dX10_set_98 rfl rfl ?_
                refine g_iload_n 100 dX10_set_99 rfl rfl ?_
                refine g_if_ne 107 103 dX10_set_100 (by omega) (by decide) rfl (fun h25 => ?_) (fun h25 => ?_)
                · refine g_aload_n 108 dX10_set_107 rfl rfl ?_
                  refine r_getI 111 (κ 40 1) dX10_set_108 fgX10_7 kd_40 ly_40_1 rfl (rfl) (fun r26 => ?_)
                  refine g_putI 114 dX10_set_111 fpX10_7 (fun h => (nomatch h)) kd_40 ly_40_1 (by omega) rfl ?_
                  refine g_aload_n 115 dX10_set_114 rfl rfl ?_
                  refine g_iload_n 116 dX10_set_115 rfl rfl ?_
                  refine g_iconst 117 dX10_set_116 (by decide) rfl ?_
                  refine g_icmp_ne 124 120 dX10_set_117 (by omega) (by omega) (by decide) rfl (fun h27 => ?_) (fun h27 => ?_)
                  · refine g_aload_n 125 dX10_set_124 rfl rfl ?_
                    refine r_getI 128 (κ 40 2) dX10_set_125 fgX10_13 kd_40 ly_40_2 rfl (rd_j (by decide) (rfl)) (fun r28 => ?_)
                    refine g_putI 131 dX10_set_128 fpX10_13 (fun h => (nomatch h)) kd_40 ly_40_2 (by omega) rfl ?_
                    refine g_aload_n 132 dX10_set_131 rfl rfl ?_
                    refine g_iload_n 133 dX10_set_132 rfl rfl ?_
                    refine g_iconst 134 dX10_set_133 (by decide) rfl ?_
                    refine g_icmp_ne 141 137 dX10_set_134 (by omega) (by omega) (by decide) rfl (fun h29 => ?_) (fun h29 => ?_)
                    · refine g_aload_n 142 dX10_set_141 rfl rfl ?_
                      refine r_getI 145 (κ 40 3) dX10_set_142 fgX10_16 kd_40 ly_40_3 rfl (rd_j (by decide) (rd_j (by decide) (rfl))) (fun r30 => ?_)
                      refine g_putI 148 dX10_set_145 fpX10_16 (fun h => (nomatch h)) kd_40 ly_40_3 (by omega) rfl ?_
                      refine g_iload_n 149 dX10_set_148 rfl rfl ?_
                      refine g_iret dX10_set_149 rfl ?_
                      unfold M_set
                      (repeat' split) <;> first | (exfalso; omega) | exact ⟨rfl, rfl, rfl⟩ | exact ⟨congrArg (fun x => some (Iv x)) (by omega), rfl, rfl⟩
                    refine g_iload_n 138 dX10_set_137 rfl rfl ?_
                    refine g_goto 145 dX10_set_138 (by decide) ?_
                    refine g_putI 148 dX10_set_145 fpX10_16 (fun h => (nomatch h)) kd_40 ly_40_3 (by omega) rfl ?_
                    refine g_iload_n 149 dX10_set_148 rfl rfl ?_
                    refine g_iret dX10_set_149 rfl ?_
                    unfold M_set
                    (repeat' split) <;> first | (exfalso; omega) | exact ⟨rfl, rfl, rfl⟩ | exact ⟨congrArg (fun x => some (Iv x)) (by omega), rfl, rfl⟩
                  refine g_iload_n 121 dX10_set_120 rfl rfl ?_
                  refine g_goto 128 dX10_set_121 (by decide) ?_
                  refine g_putI 131 dX10_set_128 fpX10_13 (fun h => (nomatch h)) kd_40 ly_40_2 (by omega) rfl ?_
                  refine g_aload_n 132 dX10_set_131 rfl rfl ?_
                  refine g_iload_n 133 dX10_set_132 rfl rfl ?_
                  refine g_iconst 134 dX10_set_133 (by decide) rfl ?_
                  refine g_icmp_ne 141 137 dX10_set_134 (by omega) (by omega) (by decide) rfl (fun h31 => ?_) (fun h31 => ?_)
                  · refine g_aload_n 142 dX10_set_141 rfl rfl ?_
                    refine r_getI 145 (κ 40 3) dX10_set_142 fgX10_16 kd_40 ly_40_3 rfl (rd_j (by decide) (rd_j (by decide) (rfl))) (fun r32 => ?_)
                    refine g_putI 148 dX10_set_145 fpX10_16 (fun h => (nomatch h)) kd_40 ly_40_3 (by omega) rfl ?_
                    refine g_iload_n 149 dX10_set_148 rfl rfl ?_
                    refine g_iret dX10_set_149 rfl ?_
                    unfold M_set
                    (repeat' split) <;> first | (exfalso; omega) | exact ⟨rfl, rfl, rfl⟩ | exact ⟨congrArg (fun x => some (Iv x)) (by omega), rfl, rfl⟩
                  refine g_iload_n 138 dX10_set_137 rfl rfl ?_
                  refine g_goto 145 dX10_set_138 (by decide) ?_
                  refine g_putI 148 dX10_set_145 fpX10_16 (fun h => (nomatch h)) kd_40 ly_40_3 (by omega) rfl ?_
                  refine g_iload_n 149 dX10_set_148 rfl rfl ?_
                  refine g_iret dX10_set_149 rfl ?_
                  unfold M_set
                  (repeat' split) <;> first | (exfalso; omega) | exact ⟨rfl, rfl, rfl⟩ | exact ⟨congrArg (fun x => some (Iv x)) (by omega), rfl, rfl⟩
                refine g_iload_n 104 dX10_set_103 rfl rfl ?_
                refine g_goto 111 dX10_set_104 (by decide) ?_
                refine g_putI 114 dX10_set_111 fpX10_7 (fun h => (nomatch h)) kd_40 ly_40_1 (by omega) rfl ?_
                refine g_aload_n 115 dX10_set_114 rfl rfl ?_
                refine g_iload_n 116 dX10_set_115 rfl rfl ?_
                refine g_iconst 117 dX10_set_116 (by decide) rfl ?_
                refine g_icmp_ne 124 120 dX10_set_117 (by omega) (by omega) (by decide) rfl (fun h33 => ?_) (fun h33 => ?_)
                · refine g_aload_n 125 dX10_set_124 rfl rfl ?_
                  refine r_getI 128 (κ 40 2) dX10_set_125 fgX10_13 kd_40 ly_40_2 rfl (rd_j (by decide) (rfl)) (fun r34 => ?_)
                  refine g_putI 131 dX10_set_128 fpX10_13 (fun h => (nomatch h)) kd_40 ly_40_2 (by omega) rfl ?_
                  refine g_aload_n 132 dX10_set_131 rfl rfl ?_
                  refine g_iload_n 133 dX10_set_132 rfl rfl ?_
                  refine g_iconst 134 dX10_set_133 (by decide) rfl ?_
                  refine g_icmp_ne 141 137 dX10_set_134 (by omega) (by omega) (by decide) rfl (fun h35 => ?_) (fun h35 => ?_)
                  · refine g_aload_n 142 dX10_set_141 rfl rfl ?_
                    refine r_getI 145 (κ 40 3) dX10_set_142 fgX10_16 kd_40 ly_40_3 rfl (rd_j (by decide) (rd_j (by decide) (rfl))) (fun r36 => ?_)
                    refine g_putI 148 dX10_set_145 fpX10_16 (fun h => (nomatch h)) kd_40 ly_40_3 (by omega) rfl ?_
                    refine g_iload_n 149 dX10_set_148 rfl rfl ?_
                    refine g_iret dX10_set_149 rfl ?_
                    unfold M_set
                    (repeat' split) <;> first | (exfalso; omega) | exact ⟨rfl, rfl, rfl⟩ | exact ⟨congrArg (fun x => some (Iv x)) (by omega), rfl, rfl⟩
                  refine g_iload_n 138 dX10_set_137 rfl rfl ?_
                  refine g_goto 145 dX10_set_138 (by decide) ?_
                  refine g_putI 148 dX10_set_145 fpX10_16 (fun h => (nomatch h)) kd_40 ly_40_3 (by omega) rfl ?_
                  refine g_iload_n 149 dX10_set_148 rfl rfl ?_
                  refine g_iret dX10_set_149 rfl ?_
                  unfold M_set
                  (repeat' split) <;> first | (exfalso; omega) | exact ⟨rfl, rfl, rfl⟩ | exact ⟨congrArg (fun x => some (Iv x)) (by omega), rfl, rfl⟩
                refine g_iload_n 121 dX10_set_120 rfl rfl ?_
                refine g_goto 128 dX10_set_121 (by decide) ?_
                refine g_putI 131 dX10_set_128 fpX10_13 (fun h => (nomatch h)) kd_40 ly_40_2 (by omega) rfl ?_
                refine g_aload_n 132 dX10_set_131 rfl rfl ?_
                refine g_iload_n 133 dX10_set_132 rfl rfl ?_
                refine g_iconst 134 dX10_set_133 (by decide) rfl ?_
                refine g_icmp_ne 141 137 dX10_set_134 (by omega) (by omega) (by decide) rfl (fun h37 => ?_) (fun h37 => ?_)
                · refine g_aload_n 142 dX10_set_141 rfl rfl ?_
                  refine r_getI 145 (κ 40 3) dX10_set_142 fgX10_16 kd_40 ly_40_3 rfl (rd_j (by decide) (rd_j (by decide) (rfl))) (fun r38 => ?_)
                  refine g_putI 148 dX10_set_145 fpX10_16 (fun h => (nomatch h)) kd_40 ly_40_3 (by omega) rfl ?_
                  refine g_iload_n 149 dX10_set_148 rfl rfl ?_
                  refine g_iret dX10_set_149 rfl ?_
                  unfold M_set
                  (repeat' split) <;> first | (exfalso; omega) | exact ⟨rfl, rfl, rfl⟩ | exact ⟨congrArg (fun x => some (Iv x)) (by omega), rfl, rfl⟩
                refine g_iload_n 138 dX10_set_137 rfl rfl ?_
                refine g_goto 145 dX10_set_138 (by decide) ?_
                refine g_putI 148 dX10_set_145 fpX10_16 (fun h => (nomatch h)) kd_40 ly_40_3 (by omega) rfl ?_
                refine g_iload_n 149 dX10_set_148 rfl rfl ?_
                refine g_iret dX10_set_149 rfl ?_
                unfold M_set
                (repeat' split) <;> first | (exfalso; omega) | exact ⟨rfl, rfl, rfl⟩ | exact ⟨congrArg (fun x => some (Iv x)) (by omega), rfl, rfl⟩
              refine g_aload_n 75 dX10_set_74 rfl rfl ?_
              refine r_getI 78 (κ 40 1) dX10_set_75 fgX10_7 kd_40 ly_40_1 rfl (rfl) (fun r39 => ?_)
              refine g_goto 97 dX10_set_78 (by decide) ?_
              refine g_istore_n (L' := [some (Rf 40), some (Iv w), some (Iv v), some (Iv (κ 40 1))]) 98 dX10_set_97 rfl (by decide) rfl ?_
              refine g_aload_n 99 dX10_set_98 rfl rfl ?_
              refine g_iload_n 100 dX10_set_99 rfl rfl ?_
              refine g_if_ne 107 103 dX10_set_100 (by omega) (by decide) rfl (fun h40 => ?_) (fun h40 => ?_)
              · refine g_aload_n 108 dX10_set_107 rfl rfl ?_
                refine r_getI 111 (κ 40 1) dX10_set_108 fgX10_7 kd_40 ly_40_1 rfl (rfl) (fun r41 => ?_)
                refine g_putI 114 dX10_set_111 fpX10_7 (fun h => (nomatch h)) kd_40 ly_40_1 (by omega) rfl ?_
                refine g_aload_n 115 dX10_set_114 rfl rfl ?_
                refine g_iload_n 116 dX10_set_115 rfl rfl ?_
                refine g_iconst 117 dX10_set_116 (by decide) rfl ?_
                refine g_icmp_ne 124 120 dX10_set_117 (by omega) (by omega) (by decide) rfl (fun h42 => ?_) (fun h42 => ?_)
                · refine g_aload_n 125 dX10_set_124 rfl rfl ?_
                  refine r_getI 128 (κ 40 2) dX10_set_125 fgX10_13 kd_40 ly_40_2 rfl (rd_j (by decide) (rfl)) (fun r43 => ?_)
                  refine g_putI 131 dX10_set_128 fpX10_13 (fun h => (nomatch h)) kd_40 ly_40_2 (by omega) rfl ?_
                  refine g_aload_n 132 dX10_set_131 rfl rfl ?_
                  refine g_iload_n 133 dX10_set_132 rfl rfl ?_
                  refine g_iconst 134 dX10_set_133 (by decide) rfl ?_
                  refine g_icmp_ne 141 137 dX10_set_134 (by omega) (by omega) (by decide) rfl (fun h44 => ?_) (fun h44 => ?_)
                  · refine g_aload_n 142 dX10_set_141 rfl rfl ?_
                    refine r_getI 145 (κ 40 3) dX10_set_142 fgX10_16 kd_40 ly_40_3 rfl (rd_j (by decide) (rd_j (by decide) (rfl))) (fun r45 => ?_)
                    refine g_putI 148 dX10_set_145 fpX10_16 (fun h => (nomatch h)) kd_40 ly_40_3 (by omega) rfl ?_
                    refine g_iload_n 149 dX10_set_148 rfl rfl ?_
                    refine g_iret dX10_set_149 rfl ?_
                    unfold M_set
                    (repeat' split) <;> first | (exfalso; omega) | exact ⟨rfl, rfl, rfl⟩ | exact ⟨congrArg (fun x => some (Iv x)) (by omega), rfl, rfl⟩
                  refine g_iload_n 138 dX10_set_137 rfl rfl ?_
                  refine g_goto 145 dX10_set_138 (by decide) ?_
                  refine g_putI 148 dX10_set_145 fpX10_16 (fun h => (nomatch h)) kd_40 ly_40_3 (by omega) rfl ?_
                  refine g_iload_n 149 dX10_set_148 rfl rfl ?_
                  refine g_iret dX10_set_149 rfl ?_
                  unfold M_set
                  (repeat' split) <;> first | (exfalso; omega) | exact ⟨rfl, rfl, rfl⟩ | exact ⟨congrArg (fun x => some (Iv x)) (by omega), rfl, rfl⟩
                refine g_iload_n 121 dX10_set_120 rfl rfl ?_
                refine g_goto 128 dX10_set_121 (by decide) ?_
                refine g_putI 131 dX10_set_128 fpX10_13 (fun h => (nomatch h)) kd_40 ly_40_2 (by omega) rfl ?_
                refine g_aload_n 132 dX10_set_131 rfl rfl ?_
                refine g_iload_n 133 dX10_set_132 rfl rfl ?_
                refine g_iconst 134 dX10_set_133 (by decide) rfl ?_
                refine g_icmp_ne 141 137 dX10_set_134 (by omega) (by omega) (by decide) rfl (fun h46 => ?_) (fun h46 => ?_)
                · refine g_aload_n 142 dX10_set_141 rfl rfl ?_
                  refine r_getI 145 (κ 40 3) dX10_set_142 fgX10_16 kd_40 ly_40_3 rfl (rd_j (by decide) (rd_j (by decide) (rfl))) (fun r47 => ?_)
                  refine g_putI 148 dX10_set_145 fpX10_16 (fun h => (nomatch h)) kd_40 ly_40_3 (by omega) rfl ?_
                  refine g_iload_n 149 dX10_set_148 rfl rfl ?_
                  refine g_iret dX10_set_149 rfl ?_
                  unfold M_set
                  (repeat' split) <;> first | (exfalso; omega) | exact ⟨rfl, rfl, rfl⟩ | exact ⟨congrArg (fun x => some (Iv x)) (by omega), rfl, rfl⟩
                refine g_iload_n 138 dX10_set_137 rfl rfl ?_
                refine g_goto 145 dX10_set_138 (by decide) ?_
                refine g_putI 148 dX10_set_145 fpX10_16 (fun h => (nomatch h)) kd_40 ly_40_3 (by omega) rfl ?_
                refine g_iload_n 149 dX10_set_148 rfl rfl ?_
                refine g_iret dX10_set_149 rfl ?_
                unfold M_set
                (repeat' split) <;> first | (exfalso; omega) | exact ⟨rfl, rfl, rfl⟩ | exact ⟨congrArg (fun x => some (Iv x)) (by omega), rfl, rfl⟩
              refine g_iload_n 104 dX10_set_103 rfl rfl ?_
              refine g_goto 111 dX10_set_104 (by decide) ?_
              refine g_putI 114 dX10_set_111 fpX10_7 (fun h => (nomatch h)) kd_40 ly_40_1 (by omega) rfl ?_
              refine g_aload_n 115 dX10_set_114 rfl rfl ?_
              refine g_iload_n 116 dX10_set_115 rfl rfl ?_
              refine g_iconst 117 dX10_set_116 (by decide) rfl ?_
              refine g_icmp_ne 124 120 dX10_set_117 (by omega) (by omega) (by decide) rfl (fun h48 => ?_) (fun h48 => ?_)
              · refine g_aload_n 125 dX10_set_124 rfl rfl ?_
                refine r_getI 128 (κ 40 2) dX10_set_125 fgX10_13 kd_40 ly_40_2 rfl (rd_j (by decide) (rfl)) (fun r49 => ?_)
                refine g_putI 131 dX10_set_128 fpX10_13 (fun h => (nomatch h)) kd_40 ly_40_2 (by omega) rfl ?_
                refine g_aload_n 132 dX10_set_131 rfl rfl ?_
                refine g_iload_n 133 dX10_set_132 rfl rfl ?_
                refine g_iconst 134 dX10_set_133 (by decide) rfl ?_
                refine g_icmp_ne 141 137 dX10_set_134 (by omega) (by omega) (by decide) rfl (fun h50 => ?_) (fun h50 => ?_)
                · refine g_aload_n 142 dX10_set_141 rfl rfl ?_
                  refine r_getI 145 (κ 40 3) dX10_set_142 fgX10_16 kd_40 ly_40_3 rfl (rd_j (by decide) (rd_j (by decide) (rfl))) (fun r51 => ?_)
                  refine g_putI 148 dX10_set_145 fpX10_16 (fun h => (nomatch h)) kd_40 ly_40_3 (by omega) rfl ?_
                  refine g_iload_n 149 dX10_set_148 rfl rfl ?_
                  refine g_iret dX10_set_149 rfl ?_
                  unfold M_set
                  (repeat' split) <;> first | (exfalso; omega) | exact ⟨rfl, rfl, rfl⟩ | exact ⟨congrArg (fun x => some (Iv x)) (by omega), rfl, rfl⟩
                refine g_iload_n 138 dX10_set_137 rfl rfl ?_
                refine g_goto 145 dX10_set_138 (by decide) ?_
                refine g_putI 148 dX10_set_145 fpX10_16 (fun h => (nomatch h)) kd_40 ly_40_3 (by omega) rfl ?_
                refine g_iload_n 149 dX10_set_148 rfl rfl ?_
                refine g_iret dX10_set_149 rfl ?_
                unfold M_set
                (repeat' split) <;> first | (exfalso; omega) | exact ⟨rfl, rfl, rfl⟩ | exact ⟨congrArg (fun x => some (Iv x)) (by omega), rfl, rfl⟩
              refine g_iload_n 121 dX10_set_120 rfl rfl ?_
              refine g_goto 128 dX10_set_121 (by decide) ?_
              refine g_putI 131 dX10_set_128 fpX10_13 (fun h => (nomatch h)) kd_40 ly_40_2 (by omega) rfl ?_
              refine g_aload_n 132 dX10_set_131 rfl rfl ?_
              refine g_iload_n 133 dX10_set_132 rfl rfl ?_
              refine g_iconst 134 dX10_set_133 (by decide) rfl ?_
              refine g_icmp_ne 141 137 dX10_set_134 (by omega) (by omega) (by decide) rfl (fun h52 => ?_) (fun h52 => ?_)
              · refine g_aload_n 142 dX10_set_141 rfl rfl ?_
                refine r_getI 145 (κ 40 3) dX10_set_142 fgX10_16 kd_40 ly_40_3 rfl (rd_j (by decide) (rd_j (by decide) (rfl))) (fun r53 => ?_)
                refine g_putI 148 dX10_set_145 fpX10_16 (fun h => (nomatch h)) kd_40 ly_40_3 (by omega) rfl ?_
                refine g_iload_n 149 dX10_set_148 rfl rfl ?_
                refine g_iret dX10_set_149 rfl ?_
                unfold M_set
                (repeat' split) <;> first | (exfalso; omega) | exact ⟨rfl, rfl, rfl⟩ | exact ⟨congrArg (fun x => some (Iv x)) (by omega), rfl, rfl⟩
              refine g_iload_n 138 dX10_set_137 rfl rfl ?_
              refine g_goto 145 dX10_set_138 (by decide) ?_
              refine g_putI 148 dX10_set_145 fpX10_16 (fun h => (nomatch h)) kd_40 ly_40_3 (by omega) rfl ?_
              refine g_iload_n 149 dX10_set_148 rfl rfl ?_
              refine g_iret dX10_set_149 rfl ?_
              unfold M_set
              (repeat' split) <;> first | (exfalso; omega) | exact ⟨rfl, rfl, rfl⟩ | exact ⟨congrArg (fun x => some (Iv x)) (by omega), rfl, rfl⟩
            refine g_aload_n 64 dX10_set_63 rfl rfl ?_
            refine g_bipush 66 dX10_set_64 (by decide) rfl ?_
            refine e_V 69 0 0 [Iv (-6)] [] dX10_set_66 cvX10_145 mwX10_refuse kd_40 (by decide) rfl (by decide) rfl rfl rfl (c_X10_refuse 6 (by decide) (by decide)) ?_
            refine g_iret dX10_set_69 rfl ?_
            unfold M_set
            (repeat' split) <;> first | (exfalso; omega) | exact ⟨rfl, rfl, rfl⟩ | exact ⟨congrArg (fun x => some (Iv x)) (by omega), rfl, rfl⟩
          refine g_bipush 55 dX10_set_53 (by decide) rfl ?_
          refine g_goto 60 dX10_set_55 (by decide) ?_
          refine g_icmp_le 70 63 dX10_set_60 (by omega) (by omega) (by decide) rfl (fun h54 => ?_) (fun h54 => ?_)
          · refine g_iload_n 71 dX10_set_70 rfl rfl ?_
            refine g_if_ne 81 74 dX10_set_71 (by omega) (by decide) rfl (fun h55 => ?_) (fun h55 => ?_)
            · refine g_iload_n 82 dX10_set_81 rfl rfl ?_
              refine g_iconst 83 dX10_set_82 (by decide) rfl ?_
              refine g_icmp_ne 93 86 dX10_set_83 (by omega) (by omega) (by decide) rfl (fun h56 => ?_) (fun h56 => ?_)
              · refine g_aload_n 94 dX10_set_93 rfl rfl ?_
                refine r_getI 97 (κ 40 3) dX10_set_94 fgX10_16 kd_40 ly_40_3 rfl (rfl) (fun r57 => ?_)
                refine g_istore_n (L' := [some (Rf 40), some (Iv w), some (Iv v), some (Iv (κ 40 3))]) 98 dX10_set_97 rfl (by decide) rfl ?_
                refine g_aload_n 99 dX10_set_98 rfl rfl ?_
                refine g_iload_n 100 dX10_set_99 rfl rfl ?_
                refine g_if_ne 107 103 dX10_set_100 (by omega) (by decide) rfl (fun h58 => ?_) (fun h58 => ?_)
                · refine g_aload_n 108 dX10_set_107 rfl rfl ?_
                  refine r_getI 111 (κ 40 1) dX10_set_108 fgX10_7 kd_40 ly_40_1 rfl (rfl) (fun r59 => ?_)
                  refine g_putI 114 dX10_set_111 fpX10_7 (fun h => (nomatch h)) kd_40 ly_40_1 (by omega) rfl ?_
                  refine g_aload_n 115 dX10_set_114 rfl rfl ?_
                  refine g_iload_n 116 dX10_set_115 rfl rfl ?_
                  refine g_iconst 117 dX10_set_116 (by decide) rfl ?_
                  refine g_icmp_ne 124 120 dX10_set_117 (by omega) (by omega) (by decide) rfl (fun h60 => ?_) (fun h60 => ?_)
                  · refine g_aload_n 125 dX10_set_124 rfl rfl ?_
                    refine r_getI 128 (κ 40 2) dX10_set_125 fgX10_13 kd_40 ly_40_2 rfl (rd_j (by decide) (rfl)) (fun r61 => ?_)
                    refine g_putI 131 dX10_set_128 fpX10_13 (fun h => (nomatch h)) kd_40 ly_40_2 (by omega) rfl ?_
                    refine g_aload_n 132 dX10_set_131 rfl rfl ?_
                    refine g_iload_n 133 dX10_set_132 rfl rfl ?_
                    refine g_iconst 134 dX10_set_133 (by decide) rfl ?_
                    refine g_icmp_ne 141 137 dX10_set_134 (by omega) (by omega) (by decide) rfl (fun h62 => ?_) (fun h62 => ?_)
                    · refine g_aload_n 142 dX10_set_141 rfl rfl ?_
                      refine r_getI 145 (κ 40 3) dX10_set_142 fgX10_16 kd_40 ly_40_3 rfl (rd_j (by decide) (rd_j (by decide) (rfl))) (fun r63 => ?_)
                      refine g_putI 148 dX10_set_145 fpX10_16 (fun h => (nomatch h)) kd_40 ly_40_3 (by omega) rfl ?_
                      refine g_iload_n 149 dX10_set_148 rfl rfl ?_
                      refine g_iret dX10_set_149 rfl ?_
                      unfold M_set
                      (repeat' split) <;> first | (exfalso; omega) | exact ⟨rfl, rfl, rfl⟩ | exact ⟨congrArg (fun x => some (Iv x)) (by omega), rfl, rfl⟩
                    refine g_iload_n 138 dX10_set_137 rfl rfl ?_
                    refine g_goto 145 dX10_set_138 (by decide) ?_
                    refine g_putI 148 dX10_set_145 fpX10_16 (fun h => (nomatch h)) kd_40 ly_40_3 (by omega) rfl ?_
                    refine g_iload_n 149 dX10_set_148 rfl rfl ?_
                    refine g_iret dX10_set_149 rfl ?_
                    unfold M_set
                    (repeat' split) <;> first | (exfalso; omega) | exact ⟨rfl, rfl, rfl⟩ | exact ⟨congrArg (fun x => some (Iv x)) (by omega), rfl, rfl⟩
                  refine g_iload_n 121 dX10_set_120 rfl rfl ?_
                  refine g_goto 128 dX10_set_121 (by decide) ?_
                  refine g_putI 131 dX10_set_128 fpX10_13 (fun h => (nomatch h)) kd_40 ly_40_2 (by omega) rfl ?_
                  refine g_aload_n 132 dX10_set_131 rfl rfl ?_
                  refine g_iload_n 133 dX10_set_132 rfl rfl ?_
                  refine g_iconst 134 dX10_set_133 (by decide) rfl ?_
                  refine g_icmp_ne 141 137 dX10_set_134 (by omega) (by omega) (by decide) rfl (fun h64 => ?_) (fun h64 => ?_)
                  · refine g_aload_n 142 dX10_set_141 rfl rfl ?_
                    refine r_getI 145 (κ 40 3) dX10_set_142 fgX10_16 kd_40 ly_40_3 rfl (rd_j (by decide) (rd_j (by decide) (rfl))) (fun r65 => ?_)
                    refine g_putI 148 dX10_set_145 fpX10_16 (fun h => (nomatch h)) kd_40 ly_40_3 (by omega) rfl ?_
                    refine g_iload_n 149 dX10_set_148 rfl rfl ?_
                    refine g_iret dX10_set_149 rfl ?_
                    unfold M_set
                    (repeat' split) <;> first | (exfalso; omega) | exact ⟨rfl, rfl, rfl⟩ | exact ⟨congrArg (fun x => some (Iv x)) (by omega), rfl, rfl⟩
                  refine g_iload_n 138 dX10_set_137 rfl rfl ?_
                  refine g_goto 145 dX10_set_138 (by decide) ?_
                  refine g_putI 148 dX10_set_145 fpX10_16 (fun h => (nomatch h)) kd_40 ly_40_3 (by omega) rfl ?_
                  refine g_iload_n 149 dX10_set_148 rfl rfl ?_
                  refine g_iret dX10_set_149 rfl ?_
                  unfold M_set
                  (repeat' split) <;> first | (exfalso; omega) | exact ⟨rfl, rfl, rfl⟩ | exact ⟨congrArg (fun x => some (Iv x)) (by omega), rfl, rfl⟩
                refine g_iload_n 104 dX10_set_103 rfl rfl ?_
                refine g_goto 111 dX10_set_104 (by decide) ?_
                refine g_putI 114 dX10_set_111 fpX10_7 (fun h => (nomatch h)) kd_40 ly_40_1 (by omega) rfl ?_
                refine g_aload_n 115 dX10_set_114 rfl rfl ?_
                refine g_iload_n 116 dX10_set_115 rfl rfl ?_
                refine g_iconst 117 dX10_set_116 (by decide) rfl ?_
                refine g_icmp_ne 124 120 dX10_set_117 (by omega) (by omega) (by decide) rfl (fun h66 => ?_) (fun h66 => ?_)
                · refine g_aload_n 125 dX10_set_124 rfl rfl ?_
                  refine r_getI 128 (κ 40 2) dX10_set_125 fgX10_13 kd_40 ly_40_2 rfl (rd_j (by decide) (rfl)) (fun r67 => ?_)
                  refine g_putI 131 dX10_set_128 fpX10_13 (fun h => (nomatch h)) kd_40 ly_40_2 (by omega) rfl ?_
                  refine g_aload_n 132 dX10_set_131 rfl rfl ?_
                  refine g_iload_n 133 dX10_set_132 rfl rfl ?_
                  refine g_iconst 134 dX10_set_133 (by decide) rfl ?_
                  refine g_icmp_ne 141 137 dX10_set_134 (by omega) (by omega) (by decide) rfl (fun h68 => ?_) (fun h68 => ?_)
                  · refine g_aload_n 142 dX10_set_141 rfl rfl ?_
                    refine r_getI 145 (κ 40 3) dX10_set_142 fgX10_16 kd_40 ly_40_3 rfl (rd_j (by decide) (rd_j (by decide) (rfl))) (fun r69 => ?_)
                    refine g_putI 148 dX10_set_145 fpX10_16 (fun h => (nomatch h)) kd_40 ly_40_3 (by omega) rfl ?_
                    refine g_iload_n 149 dX10_set_148 rfl rfl ?_
                    refine g_iret dX10_set_149 rfl ?_
                    unfold M_set
                    (repeat' split) <;> first | (exfalso; omega) | exact ⟨rfl, rfl, rfl⟩ | exact ⟨congrArg (fun x => some (Iv x)) (by omega), rfl, rfl⟩
                  refine g_iload_n 138 dX10_set_137 rfl rfl ?_
                  refine g_goto 145 dX10_set_138 (by decide) ?_
                  refine g_putI 148 dX10_set_145 fpX10_16 (fun h => (nomatch h)) kd_40 ly_40_3 (by omega) rfl ?_
                  refine g_iload_n 149 dX10_set_148 rfl rfl ?_
                  refine g_iret dX10_set_149 rfl ?_
                  unfold M_set
                  (repeat' split) <;> first | (exfalso; omega) | exact ⟨rfl, rfl, rfl⟩ | exact ⟨congrArg (fun x => some (Iv x)) (by omega), rfl, rfl⟩
                refine g_iload_n 121 dX10_set_120 rfl rfl ?_
                refine g_goto 128 dX10_set_121 (by decide) ?_
                refine g_putI 131 dX10_set_128 fpX10_13 (fun h => (nomatch h)) kd_40 ly_40_2 (by omega) rfl ?_
                refine g_aload_n 132 dX10_set_131 rfl rfl ?_
                refine g_iload_n 133 dX10_set_132 rfl rfl ?_
                refine g_iconst 134 dX10_set_133 (by decide) rfl ?_
                refine g_icmp_ne 141 137 dX10_set_134 (by omega) (by omega) (by decide) rfl (fun h70 => ?_) (fun h70 => ?_)
                · refine g_aload_n 142 dX10_set_141 rfl rfl ?_
                  refine r_getI 145 (κ 40 3) dX10_set_142 fgX10_16 kd_40 ly_40_3 rfl (rd_j (by decide) (rd_j (by decide) (rfl))) (fun r71 => ?_)
                  refine g_putI 148 dX10_set_145 fpX10_16 (fun h => (nomatch h)) kd_40 ly_40_3 (by omega) rfl ?_
                  refine g_iload_n 149 dX10_set_148 rfl rfl ?_
                  refine g_iret dX10_set_149 rfl ?_
                  unfold M_set
                  (repeat' split) <;> first | (exfalso; omega) | exact ⟨rfl, rfl, rfl⟩ | exact ⟨congrArg (fun x => some (Iv x)) (by omega), rfl, rfl⟩
                refine g_iload_n 138 dX10_set_137 rfl rfl ?_
                refine g_goto 145 dX10_set_138 (by decide) ?_
                refine g_putI 148 dX10_set_145 fpX10_16 (fun h => (nomatch h)) kd_40 ly_40_3 (by omega) rfl ?_
                refine g_iload_n 149 dX10_set_148 rfl rfl ?_
                refine g_iret dX10_set_149 rfl ?_
                unfold M_set
                (repeat' split) <;> first | (exfalso; omega) | exact ⟨rfl, rfl, rfl⟩ | exact ⟨congrArg (fun x => some (Iv x)) (by omega), rfl, rfl⟩
              refine g_aload_n 87 dX10_set_86 rfl rfl ?_
              refine r_getI 90 (κ 40 2) dX10_set_87 fgX10_13 kd_40 ly_40_2 rfl (rfl) (fun r72 => ?_)
              refine g_goto 97 dX10_set_90 (by decide) ?_
              refine g_istore_n (L' := [some (Rf 40), some (Iv w), some (Iv v), some (Iv (κ 40 2))]) 98 dX10_set_97 rfl (by decide) rfl ?_
              refine g_aload_n 99 dX10_set_98 rfl rfl ?_
              refine g_iload_n 100 dX10_set_99 rfl rfl ?_
              refine g_if_ne 107 103 dX10_set_100 (by omega) (by decide) rfl (fun h73 => ?_) (fun h73 => ?_)
              · refine g_aload_n 108 dX10_set_107 rfl rfl ?_
                refine r_getI 111 (κ 40 1) dX10_set_108 fgX10_7 kd_40 ly_40_1 rfl (rfl) (fun r74 => ?_)
                refine g_putI 114 dX10_set_111 fpX10_7 (fun h => (nomatch h)) kd_40 ly_40_1 (by omega) rfl ?_
                refine g_aload_n 115 dX10_set_114 rfl rfl ?_
                refine g_iload_n 116 dX10_set_115 rfl rfl ?_
                refine g_iconst 117 dX10_set_116 (by decide) rfl ?_
                refine g_icmp_ne 124 120 dX10_set_117 (by omega) (by omega) (by decide) rfl (fun h75 => ?_) (fun h75 => ?_)
                · refine g_aload_n 125 dX10_set_124 rfl rfl ?_
                  refine r_getI 128 (κ 40 2) dX10_set_125 fgX10_13 kd_40 ly_40_2 rfl (rd_j (by decide) (rfl)) (fun r76 => ?_)
                  refine g_putI 131 dX10_set_128 fpX10_13 (fun h => (nomatch h)) kd_40 ly_40_2 (by omega) rfl ?_
                  refine g_aload_n 132 dX10_set_131 rfl rfl ?_
                  refine g_iload_n 133 dX10_set_132 rfl rfl ?_
                  refine g_iconst 134 dX10_set_133 (by decide) rfl ?_
                  refine g_icmp_ne 141 137 dX10_set_134 (by omega) (by omega) (by decide) rfl (fun h77 => ?_) (fun h77 => ?_)
                  · refine g_aload_n 142 dX10_set_141 rfl rfl ?_
                    refine r_getI 145 (κ 40 3) dX10_set_142 fgX10_16 kd_40 ly_40_3 rfl (rd_j (by decide) (rd_j (by decide) (rfl))) (fun r78 => ?_)
                    refine g_putI 148 dX10_set_145 fpX10_16 (fun h => (nomatch h)) kd_40 ly_40_3 (by omega) rfl ?_
                    refine g_iload_n 149 dX10_set_148 rfl rfl ?_
                    refine g_iret dX10_set_149 rfl ?_
                    unfold M_set
                    (repeat' split) <;> first | (exfalso; omega) | exact ⟨rfl, rfl, rfl⟩ | exact ⟨congrArg (fun x => some (Iv x)) (by omega), rfl, rfl⟩
                  refine g_iload_n 138 dX10_set_137 rfl rfl ?_
                  refine g_goto 145 dX10_set_138 (by decide) ?_
                  refine g_putI 148 dX10_set_145 fpX10_16 (fun h => (nomatch h)) kd_40 ly_40_3 (by omega) rfl ?_
                  refine g_iload_n 149 dX10_set_148 rfl rfl ?_
                  refine g_iret dX10_set_149 rfl ?_
                  unfold M_set
                  (repeat' split) <;> first | (exfalso; omega) | exact ⟨rfl, rfl, rfl⟩ | exact ⟨congrArg (fun x => some (Iv x)) (by omega), rfl, rfl⟩
                refine g_iload_n 121 dX10_set_120 rfl rfl ?_
                refine g_goto 128 dX10_set_121 (by decide) ?_
                refine g_putI 131 dX10_set_128 fpX10_13 (fun h => (nomatch h)) kd_40 ly_40_2 (by omega) rfl ?_
                refine g_aload_n 132 dX10_set_131 rfl rfl ?_
                refine g_iload_n 133 dX10_set_132 rfl rfl ?_
                refine g_iconst 134 dX10_set_133 (by decide) rfl ?_
                refine g_icmp_ne 141 137 dX10_set_134 (by omega) (by omega) (by decide) rfl (fun h79 => ?_) (fun h79 => ?_)
                · refine g_aload_n 142 dX10_set_141 rfl rfl ?_
                  refine r_getI 145 (κ 40 3) dX10_set_142 fgX10_16 kd_40 ly_40_3 rfl (rd_j (by decide) (rd_j (by decide) (rfl))) (fun r80 => ?_)
                  refine g_putI 148 dX10_set_145 fpX10_16 (fun h => (nomatch h)) kd_40 ly_40_3 (by omega) rfl ?_
                  refine g_iload_n 149 dX10_set_148 rfl rfl ?_
                  refine g_iret dX10_set_149 rfl ?_
                  unfold M_set
                  (repeat' split) <;> first | (exfalso; omega) | exact ⟨rfl, rfl, rfl⟩ | exact ⟨congrArg (fun x => some (Iv x)) (by omega), rfl, rfl⟩
                refine g_iload_n 138 dX10_set_137 rfl rfl ?_
                refine g_goto 145 dX10_set_138 (by decide) ?_
                refine g_putI 148 dX10_set_145 fpX10_16 (fun h => (nomatch h)) kd_40 ly_40_3 (by omega) rfl ?_
                refine g_iload_n 149 dX10_set_148 rfl rfl ?_
                refine g_iret dX10_set_149 rfl ?_
                unfold M_set
                (repeat' split) <;> first | (exfalso; omega) | exact ⟨rfl, rfl, rfl⟩ | exact ⟨congrArg (fun x => some (Iv x)) (by omega), rfl, rfl⟩
              refine g_iload_n 104 dX10_set_103 rfl rfl ?_
              refine g_goto 111 dX10_set_104 (by decide) ?_
              refine g_putI 114 dX10_set_111 fpX10_7 (fun h => (nomatch h)) kd_40 ly_40_1 (by omega) rfl ?_
              refine g_aload_n 115 dX10_set_114 rfl rfl ?_
              refine g_iload_n 116 dX10_set_115 rfl rfl ?_
              refine g_iconst 117 dX10_set_116 (by decide) rfl ?_
              refine g_icmp_ne 124 120 dX10_set_117 (by omega) (by omega) (by decide) rfl (fun h81 => ?_) (fun h81 => ?_)
              · refine g_aload_n 125 dX10_set_124 rfl rfl ?_
                refine r_getI 128 (κ 40 2) dX10_set_125 fgX10_13 kd_40 ly_40_2 rfl (rd_j (by decide) (rfl)) (fun r82 => ?_)
                refine g_putI 131 dX10_set_128 fpX10_13 (fun h => (nomatch h)) kd_40 ly_40_2 (by omega) rfl ?_
                refine g_aload_n 132 dX10_set_131 rfl rfl ?_
                refine g_iload_n 133 dX10_set_132 rfl rfl ?_
                refine g_iconst 134 dX10_set_133 (by decide) rfl ?_
                refine g_icmp_ne 141 137 dX10_set_134 (by omega) (by omega) (by decide) rfl (fun h83 => ?_) (fun h83 => ?_)
                · refine g_aload_n 142 dX10_set_141 rfl rfl ?_
                  refine r_getI 145 (κ 40 3) dX10_set_142 fgX10_16 kd_40 ly_40_3 rfl (rd_j (by decide) (rd_j (by decide) (rfl))) (fun r84 => ?_)
                  refine g_putI 148 dX10_set_145 fpX10_16 (fun h => (nomatch h)) kd_40 ly_40_3 (by omega) rfl ?_
                  refine g_iload_n 149 dX10_set_148 rfl rfl ?_
                  refine g_iret dX10_set_149 rfl ?_
                  unfold M_set
                  (repeat' split) <;> first | (exfalso; omega) | exact ⟨rfl, rfl, rfl⟩ | exact ⟨congrArg (fun x => some (Iv x)) (by omega), rfl, rfl⟩
                refine g_iload_n 138 dX10_set_137 rfl rfl ?_
                refine g_goto 145 dX10_set_138 (by decide) ?_
                refine g_putI 148 dX10_set_145 fpX10_16 (fun h => (nomatch h)) kd_40 ly_40_3 (by omega) rfl ?_
                refine g_iload_n 149 dX10_set_148 rfl rfl ?_
                refine g_iret dX10_set_149 rfl ?_
                unfold M_set
                (repeat' split) <;> first | (exfalso; omega) | exact ⟨rfl, rfl, rfl⟩ | exact ⟨congrArg (fun x => some (Iv x)) (by omega), rfl, rfl⟩
              refine g_iload_n 121 dX10_set_120 rfl rfl ?_
              refine g_goto 128 dX10_set_121 (by decide) ?_
              refine g_putI 131 dX10_set_128 fpX10_13 (fun h => (nomatch h)) kd_40 ly_40_2 (by omega) rfl ?_
              refine g_aload_n 132 dX10_set_131 rfl rfl ?_
              refine g_iload_n 133 dX10_set_132 rfl rfl ?_
              refine g_iconst 134 dX10_set_133 (by decide) rfl ?_
              refine g_icmp_ne 141 137 dX10_set_134 (by omega) (by omega) (by decide) rfl (fun h85 => ?_) (fun h85 => ?_)
              · refine g_aload_n 142 dX10_set_141 rfl rfl ?_
                refine r_getI 145 (κ 40 3) dX10_set_142 fgX10_16 kd_40 ly_40_3 rfl (rd_j (by decide) (rd_j (by decide) (rfl))) (fun r86 => ?_)
                refine g_putI 148 dX10_set_145 fpX10_16 (fun h => (nomatch h)) kd_40 ly_40_3 (by omega) rfl ?_
                refine g_iload_n 149 dX10_set_148 rfl rfl ?_
                refine g_iret dX10_set_149 rfl ?_
                unfold M_set
                (repeat' split) <;> first | (exfalso; omega) | exact ⟨rfl, rfl, rfl⟩ | exact ⟨congrArg (fun x => some (Iv x)) (by omega), rfl, rfl⟩
              refine g_iload_n 138 dX10_set_137 rfl rfl ?_
              refine g_goto 145 dX10_set_138 (by decide) ?_
              refine g_putI 148 dX10_set_145 fpX10_16 (fun h => (nomatch h)) kd_40 ly_40_3 (by omega) rfl ?_
              refine g_iload_n 149 dX10_set_148 rfl rfl ?_
              refine g_iret dX10_set_149 rfl ?_
              unfold M_set
              (repeat' split) <;> first | (exfalso; omega) | exact ⟨rfl, rfl, rfl⟩ | exact ⟨congrArg (fun x => some (Iv x)) (by omega), rfl, rfl⟩
            refine g_aload_n 75 dX10_set_74 rfl rfl ?_
            refine r_getI 78 (κ 40 1) dX10_set_75 fgX10_7 kd_40 ly_40_1 rfl (rfl) (fun r87 => ?_)
            refine g_goto 97 dX10_set_78 (by decide) ?_
            refine g_istore_n (L' := [some (Rf 40), some (Iv w), some (Iv v), some (Iv (κ 40 1))]) 98 dX10_set_97 rfl (by decide) rfl ?_
            refine g_aload_n 99 dX10_set_98 rfl rfl ?_
            refine g_iload_n 100 dX10_set_99 rfl rfl ?_
            refine g_if_ne 107 103 dX10_set_100 (by omega) (by decide) rfl (fun h88 => ?_) (fun h88 => ?_)
            · refine g_aload_n 108 dX10_set_107 rfl rfl ?_
              refine r_getI 111 (κ 40 1) dX10_set_108 fgX10_7 kd_40 ly_40_1 rfl (rfl) (fun r89 => ?_)
              refine g_putI 114 dX10_set_111 fpX10_7 (fun h => (nomatch h)) kd_40 ly_40_1 (by omega) rfl ?_
              refine g_aload_n 115 dX10_set_114 rfl rfl ?_
              refine g_iload_n 116 dX10_set_115 rfl rfl ?_
              refine g_iconst 117 dX10_set_116 (by decide) rfl ?_
              refine g_icmp_ne 124 120 dX10_set_117 (by omega) (by omega) (by decide) rfl (fun h90 => ?_) (fun h90 => ?_)
              · refine g_aload_n 125 dX10_set_124 rfl rfl ?_
                refine r_getI 128 (κ 40 2) dX10_set_125 fgX10_13 kd_40 ly_40_2 rfl (rd_j (by decide) (rfl)) (fun r91 => ?_)
                refine g_putI 131 dX10_set_128 fpX10_13 (fun h => (nomatch h)) kd_40 ly_40_2 (by omega) rfl ?_
                refine g_aload_n 132 dX10_set_131 rfl rfl ?_
                refine g_iload_n 133 dX10_set_132 rfl rfl ?_
                refine g_iconst 134 dX10_set_133 (by decide) rfl ?_
                refine g_icmp_ne 141 137 dX10_set_134 (by omega) (by omega) (by decide) rfl (fun h92 => ?_) (fun h92 => ?_)
                · refine g_aload_n 142 dX10_set_141 rfl rfl ?_
                  refine r_getI 145 (κ 40 3) dX10_set_142 fgX10_16 kd_40 ly_40_3 rfl (rd_j (by decide) (rd_j (by decide) (rfl))) (fun r93 => ?_)
                  refine g_putI 148 dX10_set_145 fpX10_16 (fun h => (nomatch h)) kd_40 ly_40_3 (by omega) rfl ?_
                  refine g_iload_n 149 dX10_set_148 rfl rfl ?_
                  refine g_iret dX10_set_149 rfl ?_
                  unfold M_set
                  (repeat' split) <;> first | (exfalso; omega) | exact ⟨rfl, rfl, rfl⟩ | exact ⟨congrArg (fun x => some (Iv x)) (by omega), rfl, rfl⟩
                refine g_iload_n 138 dX10_set_137 rfl rfl ?_
                refine g_goto 145 dX10_set_138 (by decide) ?_
                refine g_putI 148 dX10_set_145 fpX10_16 (fun h => (nomatch h)) kd_40 ly_40_3 (by omega) rfl ?_
                refine g_iload_n 149 dX10_set_148 rfl rfl ?_
                refine g_iret dX10_set_149 rfl ?_
                unfold M_set
                (repeat' split) <;> first | (exfalso; omega) | exact ⟨rfl, rfl, rfl⟩ | exact ⟨congrArg (fun x => some (Iv x)) (by omega), rfl, rfl⟩
              refine g_iload_n 121 dX10_set_120 rfl rfl ?_
              refine g_goto 128 dX10_set_121 (by decide) ?_
              refine g_putI 131 dX10_set_128 fpX10_13 (fun h => (nomatch h)) kd_40 ly_40_2 (by omega) rfl ?_
              refine g_aload_n 132 dX10_set_131 rfl rfl ?_
              refine g_iload_n 133 dX10_set_132 rfl rfl ?_
              refine g_iconst 134 dX10_set_133 (by decide) rfl ?_
              refine g_icmp_ne 141 137 dX10_set_134 (by omega) (by omega) (by decide) rfl (fun h94 => ?_) (fun h94 => ?_)
              · refine g_aload_n 142 dX10_set_141 rfl rfl ?_
                refine r_getI 145 (κ 40 3) dX10_set_142 fgX10_16 kd_40 ly_40_3 rfl (rd_j (by decide) (rd_j (by decide) (rfl))) (fun r95 => ?_)
                refine g_putI 148 dX10_set_145 fpX10_16 (fun h => (nomatch h)) kd_40 ly_40_3 (by omega) rfl ?_
                refine g_iload_n 149 dX10_set_148 rfl rfl ?_
                refine g_iret dX10_set_149 rfl ?_
                unfold M_set
                (repeat' split) <;> first | (exfalso; omega) | exact ⟨rfl, rfl, rfl⟩ | exact ⟨congrArg (fun x => some (Iv x)) (by omega), rfl, rfl⟩
              refine g_iload_n 138 dX10_set_137 rfl rfl ?_
              refine g_goto 145 dX10_set_138 (by decide) ?_
              refine g_putI 148 dX10_set_145 fpX10_16 (fun h => (nomatch h)) kd_40 ly_40_3 (by omega) rfl ?_
              refine g_iload_n 149 dX10_set_148 rfl rfl ?_
              refine g_iret dX10_set_149 rfl ?_
              unfold M_set
              (repeat' split) <;> first | (exfalso; omega) | exact ⟨rfl, rfl, rfl⟩ | exact ⟨congrArg (fun x => some (Iv x)) (by omega), rfl, rfl⟩
            refine g_iload_n 104 dX10_set_103 rfl rfl ?_
            refine g_goto 111 dX10_set_104 (by decide) ?_
            refine g_putI 114 dX10_set_111 fpX10_7 (fun h => (nomatch h)) kd_40 ly_40_1 (by omega) rfl ?_
            refine g_aload_n 115 dX10_set_114 rfl rfl ?_
            refine g_iload_n 116 dX10_set_115 rfl rfl ?_
            refine g_iconst 117 dX10_set_116 (by decide) rfl ?_
            refine g_icmp_ne 124 120 dX10_set_117 (by omega) (by omega) (by decide) rfl (fun h96 => ?_) (fun h96 => ?_)
            · refine g_aload_n 125 dX10_set_124 rfl rfl ?_
              refine r_getI 128 (κ 40 2) dX10_set_125 fgX10_13 kd_40 ly_40_2 rfl (rd_j (by decide) (rfl)) (fun r97 => ?_)
              refine g_putI 131 dX10_set_128 fpX10_13 (fun h => (nomatch h)) kd_40 ly_40_2 (by omega) rfl ?_
              refine g_aload_n 132 dX10_set_131 rfl rfl ?_
              refine g_iload_n 133 dX10_set_132 rfl rfl ?_
              refine g_iconst 134 dX10_set_133 (by decide) rfl ?_
              refine g_icmp_ne 141 137 dX10_set_134 (by omega) (by omega) (by decide) rfl (fun h98 => ?_) (fun h98 => ?_)
              · refine g_aload_n 142 dX10_set_141 rfl rfl ?_
                refine r_getI 145 (κ 40 3) dX10_set_142 fgX10_16 kd_40 ly_40_3 rfl (rd_j (by decide) (rd_j (by decide) (rfl))) (fun r99 => ?_)
                refine g_putI 148 dX10_set_145 fpX10_16 (fun h => (nomatch h)) kd_40 ly_40_3 (by omega) rfl ?_
                refine g_iload_n 149 dX10_set_148 rfl rfl ?_
                refine g_iret dX10_set_149 rfl ?_
                unfold M_set
                (repeat' split) <;> first | (exfalso; omega) | exact ⟨rfl, rfl, rfl⟩ | exact ⟨congrArg (fun x => some (Iv x)) (by omega), rfl, rfl⟩
              refine g_iload_n 138 dX10_set_137 rfl rfl ?_
              refine g_goto 145 dX10_set_138 (by decide) ?_
              refine g_putI 148 dX10_set_145 fpX10_16 (fun h => (nomatch h)) kd_40 ly_40_3 (by omega) rfl ?_
              refine g_iload_n 149 dX10_set_148 rfl rfl ?_
              refine g_iret dX10_set_149 rfl ?_
              unfold M_set
              (repeat' split) <;> first | (exfalso; omega) | exact ⟨rfl, rfl, rfl⟩ | exact ⟨congrArg (fun x => some (Iv x)) (by omega), rfl, rfl⟩
            refine g_iload_n 121 dX10_set_120 rfl rfl ?_
            refine g_goto 128 dX10_set_121 (by decide) ?_
            refine g_putI 131 dX10_set_128 fpX10_13 (fun h => (nomatch h)) kd_40 ly_40_2 (by omega) rfl ?_
            refine g_aload_n 132 dX10_set_131 rfl rfl ?_
            refine g_iload_n 133 dX10_set_132 rfl rfl ?_
            refine g_iconst 134 dX10_set_133 (by decide) rfl ?_
            refine g_icmp_ne 141 137 dX10_set_134 (by omega) (by omega) (by decide) rfl (fun h100 => ?_) (fun h100 => ?_)
            · refine g_aload_n 142 dX10_set_141 rfl rfl ?_
              refine r_getI 145 (κ 40 3) dX10_set_142 fgX10_16 kd_40 ly_40_3 rfl (rd_j (by decide) (rd_j (by decide) (rfl))) (fun r101 => ?_)
              refine g_putI 148 dX10_set_145 fpX10_16 (fun h => (nomatch h)) kd_40 ly_40_3 (by omega) rfl ?_
              refine g_iload_n 149 dX10_set_148 rfl rfl ?_
              refine g_iret dX10_set_149 rfl ?_
              unfold M_set
              (repeat' split) <;> first | (exfalso; omega) | exact ⟨rfl, rfl, rfl⟩ | exact ⟨congrArg (fun x => some (Iv x)) (by omega), rfl, rfl⟩
            refine g_iload_n 138 dX10_set_137 rfl rfl ?_
            refine g_goto 145 dX10_set_138 (by decide) ?_
            refine g_putI 148 dX10_set_145 fpX10_16 (fun h => (nomatch h)) kd_40 ly_40_3 (by omega) rfl ?_
            refine g_iload_n 149 dX10_set_148 rfl rfl ?_
            refine g_iret dX10_set_149 rfl ?_
            unfold M_set
            (repeat' split) <;> first | (exfalso; omega) | exact ⟨rfl, rfl, rfl⟩ | exact ⟨congrArg (fun x => some (Iv x)) (by omega), rfl, rfl⟩
          refine g_aload_n 64 dX10_set_63 rfl rfl ?_
          refine g_bipush 66 dX10_set_64 (by decide) rfl ?_
          refine e_V 69 0 0 [Iv (-6)] [] dX10_set_66 cvX10_145 mwX10_refuse kd_40 (by decide) rfl (by decide) rfl rfl rfl (c_X10_refuse 6 (by decide) (by decide)) ?_
          refine g_iret dX10_set_69 rfl ?_
          unfold M_set
          (repeat' split) <;> first | (exfalso; omega) | exact ⟨rfl, rfl, rfl⟩ | exact ⟨congrArg (fun x => some (Iv x)) (by omega), rfl, rfl⟩
        refine g_sipush 45 dX10_set_42 (by decide) rfl ?_
        refine g_goto 60 dX10_set_45 (by decide) ?_
        refine g_icmp_le 70 63 dX10_set_60 (by omega) (by omega) (by decide) rfl (fun h102 => ?_) (fun h102 => ?_)
        · refine g_iload_n 71 dX10_set_70 rfl rfl ?_
          refine g_if_ne 81 74 dX10_set_71 (by omega) (by decide) rfl (fun h103 => ?_) (fun h103 => ?_)
          · refine g_iload_n 82 dX10_set_81 rfl rfl ?_
            refine g_iconst 83 dX10_set_82 (by decide) rfl ?_
            refine g_icmp_ne 93 86 dX10_set_83 (by omega) (by omega) (by decide) rfl (fun h104 => ?_) (fun h104 => ?_)
            · refine g_aload_n 94 dX10_set_93 rfl rfl ?_
              refine r_getI 97 (κ 40 3) dX10_set_94 fgX10_16 kd_40 ly_40_3 rfl (rfl) (fun r105 => ?_)
              refine g_istore_n (L' := [some (Rf 40), some (Iv w), some (Iv v), some (Iv (κ 40 3))]) 98 dX10_set_97 rfl (by decide) rfl ?_
              refine g_aload_n 99 dX10_set_98 rfl rfl ?_
              refine g_iload_n 100 dX10_set_99 rfl rfl ?_
              refine g_if_ne 107 103 dX10_set_100 (by omega) (by decide) rfl (fun h106 => ?_) (fun h106 => ?_)
              · refine g_aload_n 108 dX10_set_107 rfl rfl ?_
                refine r_getI 111 (κ 40 1) dX10_set_108 fgX10_7 kd_40 ly_40_1 rfl (rfl) (fun r107 => ?_)
                refine g_putI 114 dX10_set_111 fpX10_7 (fun h => (nomatch h)) kd_40 ly_40_1 (by omega) rfl ?_
                refine g_aload_n 115 dX10_set_114 rfl rfl ?_
                refine g_iload_n 116 dX10_set_115 rfl rfl ?_
                refine g_iconst 117 dX10_set_116 (by decide) rfl ?_
                refine g_icmp_ne 124 120 dX10_set_117 (by omega) (by omega) (by decide) rfl (fun h108 => ?_) (fun h108 => ?_)
                · refine g_aload_n 125 dX10_set_124 rfl rfl ?_
                  refine r_getI 128 (κ 40 2) dX10_set_125 fgX10_13 kd_40 ly_40_2 rfl (rd_j (by decide) (rfl)) (fun r109 => ?_)
                  refine g_putI 131 dX10_set_128 fpX10_13 (fun h => (nomatch h)) kd_40 ly_40_2 (by omega) rfl ?_
                  refine g_aload_n 132 dX10_set_131 rfl rfl ?_
                  refine g_iload_n 133 dX10_set_132 rfl rfl ?_
                  refine g_iconst 134 dX10_set_133 (by decide) rfl ?_
                  refine g_icmp_ne 141 137 dX10_set_134 (by omega) (by omega) (by decide) rfl (fun h110 => ?_) (fun h110 => ?_)
                  · refine g_aload_n 142 dX10_set_141 rfl rfl ?_
                    refine r_getI 145 (κ 40 3) dX10_set_142 fgX10_16 kd_40 ly_40_3 rfl (rd_j (by decide) (rd_j (by decide) (rfl))) (fun r111 => ?_)
                    refine g_putI 148 dX10_set_145 fpX10_16 (fun h => (nomatch h)) kd_40 ly_40_3 (by omega) rfl ?_
                    refine g_iload_n 149 dX10_set_148 rfl rfl ?_
                    refine g_iret dX10_set_149 rfl ?_
                    unfold M_set
                    (repeat' split) <;> first | (exfalso; omega) | exact ⟨rfl, rfl, rfl⟩ | exact ⟨congrArg (fun x => some (Iv x)) (by omega), rfl, rfl⟩
                  refine g_iload_n 138 dX10_set_137 rfl rfl ?_
                  refine g_goto 145 dX10_set_138 (by decide) ?_
                  refine g_putI 148 dX10_set_145 fpX10_16 (fun h => (nomatch h)) kd_40 ly_40_3 (by omega) rfl ?_
                  refine g_iload_n 149 dX10_set_148 rfl rfl ?_
                  refine g_iret dX10_set_149 rfl ?_
                  unfold M_set
                  (repeat' split) <;> first | (exfalso; omega) | exact ⟨rfl, rfl, rfl⟩ | exact ⟨congrArg (fun x => some (Iv x)) (by omega), rfl, rfl⟩
                refine g_iload_n 121 dX10_set_120 rfl rfl ?_
                refine g_goto 128 dX10_set_121 (by decide) ?_
                refine g_putI 131 dX10_set_128 fpX10_13 (fun h => (nomatch h)) kd_40 ly_40_2 (by omega) rfl ?_
                refine g_aload_n 132 dX10_set_131 rfl rfl ?_
                refine g_iload_n 133 dX10_set_132 rfl rfl ?_
                refine g_iconst 134 dX10_set_133 (by decide) rfl ?_
                refine g_icmp_ne 141 137 dX10_set_134 (by omega) (by omega) (by decide) rfl (fun h112 => ?_) (fun h112 => ?_)
                · refine g_aload_n 142 dX10_set_141 rfl rfl ?_
                  refine r_getI 145 (κ 40 3) dX10_set_142 fgX10_16 kd_40 ly_40_3 rfl (rd_j (by decide) (rd_j (by decide) (rfl))) (fun r113 => ?_)
                  refine g_putI 148 dX10_set_145 fpX10_16 (fun h => (nomatch h)) kd_40 ly_40_3 (by omega) rfl ?_
                  refine g_iload_n 149 dX10_set_148 rfl rfl ?_
                  refine g_iret dX10_set_149 rfl ?_
                  unfold M_set
                  (repeat' split) <;> first | (exfalso; omega) | exact ⟨rfl, rfl, rfl⟩ | exact ⟨congrArg (fun x => some (Iv x)) (by omega), rfl, rfl⟩
                refine g_iload_n 138 dX10_set_137 rfl rfl ?_
                refine g_goto 145 dX10_set_138 (by decide) ?_
                refine g_putI 148 dX10_set_145 fpX10_16 (fun h => (nomatch h)) kd_40 ly_40_3 (by omega) rfl ?_
                refine g_iload_n 149 dX10_set_148 rfl rfl ?_
                refine g_iret dX10_set_149 rfl ?_
                unfold M_set
                (repeat' split) <;> first | (exfalso; omega) | exact ⟨rfl, rfl, rfl⟩ | exact ⟨congrArg (fun x => some (Iv x)) (by omega), rfl, rfl⟩
              refine g_iload_n 104 dX10_set_103 rfl rfl ?_
              refine g_goto 111 dX10_set_104 (by decide) ?_
              refine g_putI 114 dX10_set_111 fpX10_7 (fun h => (nomatch h)) kd_40 ly_40_1 (by omega) rfl ?_
              refine g_aload_n 115 dX10_set_114 rfl rfl ?_
              refine g_iload_n 116 dX10_set_115 rfl rfl ?_
              refine g_iconst 117 dX10_set_116 (by decide) rfl ?_
              refine g_icmp_ne 124 120 dX10_set_117 (by omega) (by omega) (by decide) rfl (fun h114 => ?_) (fun h114 => ?_)
              · refine g_aload_n 125 dX10_set_124 rfl rfl ?_
                refine r_getI 128 (κ 40 2) dX10_set_125 fgX10_13 kd_40 ly_40_2 rfl (rd_j (by decide) (rfl)) (fun r115 => ?_)
                refine g_putI 131 dX10_set_128 fpX10_13 (fun h => (nomatch h)) kd_40 ly_40_2 (by omega) rfl ?_
                refine g_aload_n 132 dX10_set_131 rfl rfl ?_
                refine g_iload_n 133 dX10_set_132 rfl rfl ?_
                refine g_iconst 134 dX10_set_133 (by decide) rfl ?_
                refine g_icmp_ne 141 137 dX10_set_134 (by omega) (by omega) (by decide) rfl (fun h116 => ?_) (fun h116 => ?_)
                · refine g_aload_n 142 dX10_set_141 rfl rfl ?_
                  refine r_getI 145 (κ 40 3) dX10_set_142 fgX10_16 kd_40 ly_40_3 rfl (rd_j (by decide) (rd_j (by decide) (rfl))) (fun r117 => ?_)
                  refine g_putI 148 dX10_set_145 fpX10_16 (fun h => (nomatch h)) kd_40 ly_40_3 (by omega) rfl ?_
                  refine g_iload_n 149 dX10_set_148 rfl rfl ?_
                  refine g_iret dX10_set_149 rfl ?_
                  unfold M_set
                  (repeat' split) <;> first | (exfalso; omega) | exact ⟨rfl, rfl, rfl⟩ | exact ⟨congrArg (fun x => some (Iv x)) (by omega), rfl, rfl⟩
                refine g_iload_n 138 dX10_set_137 rfl rfl ?_
                refine g_goto 145 dX10_set_138 (by decide) ?_
                refine g_putI 148 dX10_set_145 fpX10_16 (fun h => (nomatch h)) kd_40 ly_40_3 (by omega) rfl ?_
                refine g_iload_n 149 dX10_set_148 rfl rfl ?_
                refine g_iret dX10_set_149 rfl ?_
                unfold M_set
                (repeat' split) <;> first | (exfalso; omega) | exact ⟨rfl, rfl, rfl⟩ | exact ⟨congrArg (fun x => some (Iv x)) (by omega), rfl, rfl⟩
              refine g_iload_n 121 dX10_set_120 rfl rfl ?_
              refine g_goto 128 dX10_set_121 (by decide) ?_
              refine g_putI 131 dX10_set_128 fpX10_13 (fun h => (nomatch h)) kd_40 ly_40_2 (by omega) rfl ?_
              refine g_aload_n 132 dX10_set_131 rfl rfl ?_
              refine g_iload_n 133 dX10_set_132 rfl rfl ?_
              refine g_iconst 134 dX10_set_133 (by decide) rfl ?_
              refine g_icmp_ne 141 137 dX10_set_134 (by omega) (by omega) (by decide) rfl (fun h118 => ?_) (fun h118 => ?_)
              · refine g_aload_n 142 dX10_set_141 rfl rfl ?_
                refine r_getI 145 (κ 40 3) dX10_set_142 fgX10_16 kd_40 ly_40_3 rfl (rd_j (by decide) (rd_j (by decide) (rfl))) (fun r119 => ?_)
                refine g_putI 148 dX10_set_145 fpX10_16 (fun h => (nomatch h)) kd_40 ly_40_3 (by omega) rfl ?_
                refine g_iload_n 149 dX10_set_148 rfl rfl ?_
                refine g_iret dX10_set_149 rfl ?_
                unfold M_set
                (repeat' split) <;> first | (exfalso; omega) | exact ⟨rfl, rfl, rfl⟩ | exact ⟨congrArg (fun x => some (Iv x)) (by omega), rfl, rfl⟩
              refine g_iload_n 138 dX10_set_137 rfl rfl ?_
              refine g_goto 145 dX10_set_138 (by decide) ?_
              refine g_putI 148 dX10_set_145 fpX10_16 (fun h => (nomatch h)) kd_40 ly_40_3 (by omega) rfl ?_
              refine g_iload_n 149 dX10_set_148 rfl rfl ?_
              refine g_iret dX10_set_149 rfl ?_
              unfold M_set
              (repeat' split) <;> first | (exfalso; omega) | exact ⟨rfl, rfl, rfl⟩ | exact ⟨congrArg (fun x => some (Iv x)) (by omega), rfl, rfl⟩
            refine g_aload_n 87 dX10_set_86 rfl rfl ?_
            refine r_getI 90 (κ 40 2) dX10_set_87 fgX10_13 kd_40 ly_40_2 rfl (rfl) (fun r120 => ?_)
            refine g_goto 97 dX10_set_90 (by decide) ?_
            refine g_istore_n (L' := [some (Rf 40), some (Iv w), some (Iv v), some (Iv (κ 40 2))]) 98 dX10_set_97 rfl (by decide) rfl ?_
            refine g_aload_n 99 dX10_set_98 rfl rfl ?_
            refine g_iload_n 100 dX10_set_99 rfl rfl ?_
            refine g_if_ne 107 103 dX10_set_100 (by omega) (by decide) rfl (fun h121 => ?_) (fun h121 => ?_)
            · refine g_aload_n 108 dX10_set_107 rfl rfl ?_
              refine r_getI 111 (κ 40 1) dX10_set_108 fgX10_7 kd_40 ly_40_1 rfl (rfl) (fun r122 => ?_)
              refine g_putI 114 dX10_set_111 fpX10_7 (fun h => (nomatch h)) kd_40 ly_40_1 (by omega) rfl ?_
              refine g_aload_n 115 dX10_set_114 rfl rfl ?_
              refine g_iload_n 116 dX10_set_115 rfl rfl ?_
              refine g_iconst 117 dX10_set_116 (by decide) rfl ?_
              refine g_icmp_ne 124 120 dX10_set_117 (by omega) (by omega) (by decide) rfl (fun h123 => ?_) (fun h123 => ?_)
              · refine g_aload_n 125 dX10_set_124 rfl rfl ?_
                refine r_getI 128 (κ 40 2) dX10_set_125 fgX10_13 kd_40 ly_40_2 rfl (rd_j (by decide) (rfl)) (fun r124 => ?_)
                refine g_putI 131 dX10_set_128 fpX10_13 (fun h => (nomatch h)) kd_40 ly_40_2 (by omega) rfl ?_
                refine g_aload_n 132 dX10_set_131 rfl rfl ?_
                refine g_iload_n 133 dX10_set_132 rfl rfl ?_
                refine g_iconst 134 dX10_set_133 (by decide) rfl ?_
                refine g_icmp_ne 141 137 dX10_set_134 (by omega) (by omega) (by decide) rfl (fun h125 => ?_) (fun h125 => ?_)
                · refine g_aload_n 142 dX10_set_141 rfl rfl ?_
                  refine r_getI 145 (κ 40 3) dX10_set_142 fgX10_16 kd_40 ly_40_3 rfl (rd_j (by decide) (rd_j (by decide) (rfl))) (fun r126 => ?_)
                  refine g_putI 148 dX10_set_145 fpX10_16 (fun h => (nomatch h)) kd_40 ly_40_3 (by omega) rfl ?_
                  refine g_iload_n 149 dX10_set_148 rfl rfl ?_
                  refine g_iret dX10_set_149 rfl ?_
                  unfold M_set
                  (repeat' split) <;> first | (exfalso; omega) | exact ⟨rfl, rfl, rfl⟩ | exact ⟨congrArg (fun x => some (Iv x)) (by omega), rfl, rfl⟩
                refine g_iload_n 138 dX10_set_137 rfl rfl ?_
                refine g_goto 145 dX10_set_138 (by decide) ?_
                refine g_putI 148 dX10_set_145 fpX10_16 (fun h => (nomatch h)) kd_40 ly_40_3 (by omega) rfl ?_
                refine g_iload_n 149 dX10_set_148 rfl rfl ?_
                refine g_iret dX10_set_149 rfl ?_
                unfold M_set
                (repeat' split) <;> first | (exfalso; omega) | exact ⟨rfl, rfl, rfl⟩ | exact ⟨congrArg (fun x => some (Iv x)) (by omega), rfl, rfl⟩
              refine g_iload_n 121 dX10_set_120 rfl rfl ?_
              refine g_goto 128 dX10_set_121 (by decide) ?_
              refine g_putI 131 dX10_set_128 fpX10_13 (fun h => (nomatch h)) kd_40 ly_40_2 (by omega) rfl ?_
              refine g_aload_n 132 dX10_set_131 rfl rfl ?_
              refine g_iload_n 133 dX10_set_132 rfl rfl ?_
              refine g_iconst 134 dX10_set_133 (by decide) rfl ?_
              refine g_icmp_ne 141 137 dX10_set_134 (by omega) (by omega) (by decide) rfl (fun h127 => ?_) (fun h127 => ?_)
              · refine g_aload_n 142 dX10_set_141 rfl rfl ?_
                refine r_getI 145 (κ 40 3) dX10_set_142 fgX10_16 kd_40 ly_40_3 rfl (rd_j (by decide) (rd_j (by decide) (rfl))) (fun r128 => ?_)
                refine g_putI 148 dX10_set_145 fpX10_16 (fun h => (nomatch h)) kd_40 ly_40_3 (by omega) rfl ?_
                refine g_iload_n 149 dX10_set_148 rfl rfl ?_
                refine g_iret dX10_set_149 rfl ?_
                unfold M_set
                (repeat' split) <;> first | (exfalso; omega) | exact ⟨rfl, rfl, rfl⟩ | exact ⟨congrArg (fun x => some (Iv x)) (by omega), rfl, rfl⟩
              refine g_iload_n 138 dX10_set_137 rfl rfl ?_
              refine g_goto 145 dX10_set_138 (by decide) ?_
              refine g_putI 148 dX10_set_145 fpX10_16 (fun h => (nomatch h)) kd_40 ly_40_3 (by omega) rfl ?_
              refine g_iload_n 149 dX10_set_148 rfl rfl ?_
              refine g_iret dX10_set_149 rfl ?_
              unfold M_set
              (repeat' split) <;> first | (exfalso; omega) | exact ⟨rfl, rfl, rfl⟩ | exact ⟨congrArg (fun x => some (Iv x)) (by omega), rfl, rfl⟩
            refine g_iload_n 104 dX10_set_103 rfl rfl ?_
            refine g_goto 111 dX10_set_104 (by decide) ?_
            refine g_putI 114 dX10_set_111 fpX10_7 (fun h => (nomatch h)) kd_40 ly_40_1 (by omega) rfl ?_
            refine g_aload_n 115 dX10_set_114 rfl rfl ?_
            refine g_iload_n 116 dX10_set_115 rfl rfl ?_
            refine g_iconst 117 dX10_set_116 (by decide) rfl ?_
            refine g_icmp_ne 124 120 dX10_set_117 (by omega) (by omega) (by decide) rfl (fun h129 => ?_) (fun h129 => ?_)
            · refine g_aload_n 125 dX10_set_124 rfl rfl ?_
              refine r_getI 128 (κ 40 2) dX10_set_125 fgX10_13 kd_40 ly_40_2 rfl (rd_j (by decide) (rfl)) (fun r130 => ?_)
              refine g_putI 131 dX10_set_128 fpX10_13 (fun h => (nomatch h)) kd_40 ly_40_2 (by omega) rfl ?_
              refine g_aload_n 132 dX10_set_131 rfl rfl ?_
              refine g_iload_n 133 dX10_set_132 rfl rfl ?_
              refine g_iconst 134 dX10_set_133 (by decide) rfl ?_
              refine g_icmp_ne 141 137 dX10_set_134 (by omega) (by omega) (by decide) rfl (fun h131 => ?_) (fun h131 => ?_)
              · refine g_aload_n 142 dX10_set_141 rfl rfl ?_
                refine r_getI 145 (κ 40 3) dX10_set_142 fgX10_16 kd_40 ly_40_3 rfl (rd_j (by decide) (rd_j (by decide) (rfl))) (fun r132 => ?_)
                refine g_putI 148 dX10_set_145 fpX10_16 (fun h => (nomatch h)) kd_40 ly_40_3 (by omega) rfl ?_
                refine g_iload_n 149 dX10_set_148 rfl rfl ?_
                refine g_iret dX10_set_149 rfl ?_
                unfold M_set
                (repeat' split) <;> first | (exfalso; omega) | exact ⟨rfl, rfl, rfl⟩ | exact ⟨congrArg (fun x => some (Iv x)) (by omega), rfl, rfl⟩
              refine g_iload_n 138 dX10_set_137 rfl rfl ?_
              refine g_goto 145 dX10_set_138 (by decide) ?_
              refine g_putI 148 dX10_set_145 fpX10_16 (fun h => (nomatch h)) kd_40 ly_40_3 (by omega) rfl ?_
              refine g_iload_n 149 dX10_set_148 rfl rfl ?_
              refine g_iret dX10_set_149 rfl ?_
              unfold M_set
              (repeat' split) <;> first | (exfalso; omega) | exact ⟨rfl, rfl, rfl⟩ | exact ⟨congrArg (fun x => some (Iv x)) (by omega), rfl, rfl⟩
            refine g_iload_n 121 dX10_set_120 rfl rfl ?_
            refine g_goto 128 dX10_set_121 (by decide) ?_
            refine g_putI 131 dX10_set_128 fpX10_13 (fun h => (nomatch h)) kd_40 ly_40_2 (by omega) rfl ?_
            refine g_aload_n 132 dX10_set_131 rfl rfl ?_
            refine g_iload_n 133 dX10_set_132 rfl rfl ?_
            refine g_iconst 134 dX10_set_133 (by decide) rfl ?_
            refine g_icmp_ne 141 137 dX10_set_134 (by omega) (by omega) (by decide) rfl (fun h133 => ?_) (fun h133 => ?_)
            · refine g_aload_n 142 dX10_set_141 rfl rfl ?_
              refine r_getI 145 (κ 40 3) dX10_set_142 fgX10_16 kd_40 ly_40_3 rfl (rd_j (by decide) (rd_j (by decide) (rfl))) (fun r134 => ?_)
              refine g_putI 148 dX10_set_145 fpX10_16 (fun h => (nomatch h)) kd_40 ly_40_3 (by omega) rfl ?_
              refine g_iload_n 149 dX10_set_148 rfl rfl ?_
              refine g_iret dX10_set_149 rfl ?_
              unfold M_set
              (repeat' split) <;> first | (exfalso; omega) | exact ⟨rfl, rfl, rfl⟩ | exact ⟨congrArg (fun x => some (Iv x)) (by omega), rfl, rfl⟩
            refine g_iload_n 138 dX10_set_137 rfl rfl ?_
            refine g_goto 145 dX10_set_138 (by decide) ?_
            refine g_putI 148 dX10_set_145 fpX10_16 (fun h => (nomatch h)) kd_40 ly_40_3 (by omega) rfl ?_
            refine g_iload_n 149 dX10_set_148 rfl rfl ?_
            refine g_iret dX10_set_149 rfl ?_
            unfold M_set
            (repeat' split) <;> first | (exfalso; omega) | exact ⟨rfl, rfl, rfl⟩ | exact ⟨congrArg (fun x => some (Iv x)) (by omega), rfl, rfl⟩
          refine g_aload_n 75 dX10_set_74 rfl rfl ?_
          refine r_getI 78 (κ 40 1) dX10_set_75 fgX10_7 kd_40 ly_40_1 rfl (rfl) (fun r135 => ?_)
          refine g_goto 97 dX10_set_78 (by decide) ?_
          refine g_istore_n (L' := [some (Rf 40), some (Iv w), some (Iv v), some (Iv (κ 40 1))]) 98 dX10_set_97 rfl (by decide) rfl ?_
          refine g_aload_n 99 dX10_set_98 rfl rfl ?_
          refine g_iload_n 100 dX10_set_99 rfl rfl ?_
          refine g_if_ne 107 103 dX10_set_100 (by omega) (by decide) rfl (fun h136 => ?_) (fun h136 => ?_)
          · refine g_aload_n 108 dX10_set_107 rfl rfl ?_
            refine r_getI 111 (κ 40 1) dX10_set_108 fgX10_7 kd_40 ly_40_1 rfl (rfl) (fun r137 => ?_)
            refine g_putI 114 dX10_set_111 fpX10_7 (fun h => (nomatch h)) kd_40 ly_40_1 (by omega) rfl ?_
            refine g_aload_n 115 dX10_set_114 rfl rfl ?_
            refine g_iload_n 116 dX10_set_115 rfl rfl ?_
            refine g_iconst 117 dX10_set_116 (by decide) rfl ?_
            refine g_icmp_ne 124 120 dX10_set_117 (by omega) (by omega) (by decide) rfl (fun h138 => ?_) (fun h138 => ?_)
            · refine g_aload_n 125 dX10_set_124 rfl rfl ?_
              refine r_getI 128 (κ 40 2) dX10_set_125 fgX10_13 kd_40 ly_40_2 rfl (rd_j (by decide) (rfl)) (fun r139 => ?_)
              refine g_putI 131 dX10_set_128 fpX10_13 (fun h => (nomatch h)) kd_40 ly_40_2 (by omega) rfl ?_
              refine g_aload_n 132 dX10_set_131 rfl rfl ?_
              refine g_iload_n 133 dX10_set_132 rfl rfl ?_
              refine g_iconst 134 dX10_set_133 (by decide) rfl ?_
              refine g_icmp_ne 141 137 dX10_set_134 (by omega) (by omega) (by decide) rfl (fun h140 => ?_) (fun h140 => ?_)
              · refine g_aload_n 142 dX10_set_141 rfl rfl ?_
                refine r_getI 145 (κ 40 3) dX10_set_142 fgX10_16 kd_40 ly_40_3 rfl (rd_j (by decide) (rd_j (by decide) (rfl))) (fun r141 => ?_)
                refine g_putI 148 dX10_set_145 fpX10_16 (fun h => (nomatch h)) kd_40 ly_40_3 (by omega) rfl ?_
                refine g_iload_n 149 dX10_set_148 rfl rfl ?_
                refine g_iret dX10_set_149 rfl ?_
                unfold M_set
                (repeat' split) <;> first | (exfalso; omega) | exact ⟨rfl, rfl, rfl⟩ | exact ⟨congrArg (fun x => some (Iv x)) (by omega), rfl, rfl⟩
              refine g_iload_n 138 dX10_set_137 rfl rfl ?_
              refine g_goto 145 dX10_set_138 (by decide) ?_
              refine g_putI 148 dX10_set_145 fpX10_16 (fun h => (nomatch h)) kd_40 ly_40_3 (by omega) rfl ?_
              refine g_iload_n 149 dX10_set_148 rfl rfl ?_
              refine g_iret dX10_set_149 rfl ?_
              unfold M_set
              (repeat' split) <;> first | (exfalso; omega) | exact ⟨rfl, rfl, rfl⟩ | exact ⟨congrArg (fun x => some (Iv x)) (by omega), rfl, rfl⟩
            refine g_iload_n 121 dX10_set_120 rfl rfl ?_
            refine g_goto 128 dX10_set_121 (by decide) ?_
            refine g_putI 131 dX10_set_128 fpX10_13 (fun h => (nomatch h)) kd_40 ly_40_2 (by omega) rfl ?_
            refine g_aload_n 132 dX10_set_131 rfl rfl ?_
            refine g_iload_n 133 dX10_set_132 rfl rfl ?_
            refine g_iconst 134 dX10_set_133 (by decide) rfl ?_
            refine g_icmp_ne 141 137 dX10_set_134 (by omega) (by omega) (by decide) rfl (fun h142 => ?_) (fun h142 => ?_)
            · refine g_aload_n 142 dX10_set_141 rfl rfl ?_
              refine r_getI 145 (κ 40 3) dX10_set_142 fgX10_16 kd_40 ly_40_3 rfl (rd_j (by decide) (rd_j (by decide) (rfl))) (fun r143 => ?_)
              refine g_putI 148 dX10_set_145 fpX10_16 (fun h => (nomatch h)) kd_40 ly_40_3 (by omega) rfl ?_
              refine g_iload_n 149 dX10_set_148 rfl rfl ?_
              refine g_iret dX10_set_149 rfl ?_
              unfold M_set
              (repeat' split) <;> first | (exfalso; omega) | exact ⟨rfl, rfl, rfl⟩ | exact ⟨congrArg (fun x => some (Iv x)) (by omega), rfl, rfl⟩
            refine g_iload_n 138 dX10_set_137 rfl rfl ?_
            refine g_goto 145 dX10_set_138 (by decide) ?_
            refine g_putI 148 dX10_set_145 fpX10_16 (fun h => (nomatch h)) kd_40 ly_40_3 (by omega) rfl ?_
            refine g_iload_n 149 dX10_set_148 rfl rfl ?_
            refine g_iret dX10_set_149 rfl ?_
            unfold M_set
            (repeat' split) <;> first | (exfalso; omega) | exact ⟨rfl, rfl, rfl⟩ | exact ⟨congrArg (fun x => some (Iv x)) (by omega), rfl, rfl⟩
          refine g_iload_n 104 dX10_set_103 rfl rfl ?_
          refine g_goto 111 dX10_set_104 (by decide) ?_
          refine g_putI 114 dX10_set_111 fpX10_7 (fun h => (nomatch h)) kd_40 ly_40_1 (by omega) rfl ?_
          refine g_aload_n 115 dX10_set_114 rfl rfl ?_
          refine g_iload_n 116 dX10_set_115 rfl rfl ?_
          refine g_iconst 117 dX10_set_116 (by decide) rfl ?_
          refine g_icmp_ne 124 120 dX10_set_117 (by omega) (by omega) (by decide) rfl (fun h144 => ?_) (fun h144 => ?_)
          · refine g_aload_n 125 dX10_set_124 rfl rfl ?_
            refine r_getI 128 (κ 40 2) dX10_set_125 fgX10_13 kd_40 ly_40_2 rfl (rd_j (by decide) (rfl)) (fun r145 => ?_)
            refine g_putI 131 dX10_set_128 fpX10_13 (fun h => (nomatch h)) kd_40 ly_40_2 (by omega) rfl ?_
            refine g_aload_n 132 dX10_set_131 rfl rfl ?_
            refine g_iload_n 133 dX10_set_132 rfl rfl ?_
            refine g_iconst 134 dX10_set_133 (by decide) rfl ?_
            refine g_icmp_ne 141 137 dX10_set_134 (by omega) (by omega) (by decide) rfl (fun h146 => ?_) (fun h146 => ?_)
            · refine g_aload_n 142 dX10_set_141 rfl rfl ?_
              refine r_getI 145 (κ 40 3) dX10_set_142 fgX10_16 kd_40 ly_40_3 rfl (rd_j (by decide) (rd_j (by decide) (rfl))) (fun r147 => ?_)
              refine g_putI 148 dX10_set_145 fpX10_16 (fun h => (nomatch h)) kd_40 ly_40_3 (by omega) rfl ?_
              refine g_iload_n 149 dX10_set_148 rfl rfl ?_
              refine g_iret dX10_set_149 rfl ?_
              unfold M_set
              (repeat' split) <;> first | (exfalso; omega) | exact ⟨rfl, rfl, rfl⟩ | exact ⟨congrArg (fun x => some (Iv x)) (by omega), rfl, rfl⟩
            refine g_iload_n 138 dX10_set_137 rfl rfl ?_
            refine g_goto 145 dX10_set_138 (by decide) ?_
            refine g_putI 148 dX10_set_145 fpX10_16 (fun h => (nomatch h)) kd_40 ly_40_3 (by omega) rfl ?_
            refine g_iload_n 149 dX10_set_148 rfl rfl ?_
            refine g_iret dX10_set_149 rfl ?_
            unfold M_set
            (repeat' split) <;> first | (exfalso; omega) | exact ⟨rfl, rfl, rfl⟩ | exact ⟨congrArg (fun x => some (Iv x)) (by omega), rfl, rfl⟩
          refine g_iload_n 121 dX10_set_120 rfl rfl ?_
          refine g_goto 128 dX10_set_121 (by decide) ?_
          refine g_putI 131 dX10_set_128 fpX10_13 (fun h => (nomatch h)) kd_40 ly_40_2 (by omega) rfl ?_
          refine g_aload_n 132 dX10_set_131 rfl rfl ?_
          refine g_iload_n 133 dX10_set_132 rfl rfl ?_
          refine g_iconst 134 dX10_set_133 (by decide) rfl ?_
          refine g_icmp_ne 141 137 dX10_set_134 (by omega) (by omega) (by decide) rfl (fun h148 => ?_) (fun h148 => ?_)
          · refine g_aload_n 142 dX10_set_141 rfl rfl ?_
            refine r_getI 145 (κ 40 3) dX10_set_142 fgX10_16 kd_40 ly_40_3 rfl (rd_j (by decide) (rd_j (by decide) (rfl))) (fun r149 => ?_)
            refine g_putI 148 dX10_set_145 fpX10_16 (fun h => (nomatch h)) kd_40 ly_40_3 (by omega) rfl ?_
            refine g_iload_n 149 dX10_set_148 rfl rfl ?_
            refine g_iret dX10_set_149 rfl ?_
            unfold M_set
            (repeat' split) <;> first | (exfalso; omega) | exact ⟨rfl, rfl, rfl⟩ | exact ⟨congrArg (fun x => some (Iv x)) (by omega), rfl, rfl⟩
          refine g_iload_n 138 dX10_set_137 rfl rfl ?_
          refine g_goto 145 dX10_set_138 (by decide) ?_
          refine g_putI 148 dX10_set_145 fpX10_16 (fun h => (nomatch h)) kd_40 ly_40_3 (by omega) rfl ?_
          refine g_iload_n 149 dX10_set_148 rfl rfl ?_
          refine g_iret dX10_set_149 rfl ?_
          unfold M_set
          (repeat' split) <;> first | (exfalso; omega) | exact ⟨rfl, rfl, rfl⟩ | exact ⟨congrArg (fun x => some (Iv x)) (by omega), rfl, rfl⟩
        refine g_aload_n 64 dX10_set_63 rfl rfl ?_
        refine g_bipush 66 dX10_set_64 (by decide) rfl ?_
        refine e_V 69 0 0 [Iv (-6)] [] dX10_set_66 cvX10_145 mwX10_refuse kd_40 (by decide) rfl (by decide) rfl rfl rfl (c_X10_refuse 6 (by decide) (by decide)) ?_
        refine g_iret dX10_set_69 rfl ?_
        unfold M_set
        (repeat' split) <;> first | (exfalso; omega) | exact ⟨rfl, rfl, rfl⟩ | exact ⟨congrArg (fun x => some (Iv x)) (by omega), rfl, rfl⟩
      refine g_aload_n 31 dX10_set_30 rfl rfl ?_
      refine g_bipush 33 dX10_set_31 (by decide) rfl ?_
      refine e_V 36 0 0 [Iv (-4)] [] dX10_set_33 cvX10_145 mwX10_refuse kd_40 (by decide) rfl (by decide) rfl rfl rfl (c_X10_refuse 4 (by decide) (by decide)) ?_
      refine g_iret dX10_set_36 rfl ?_
      unfold M_set
      (repeat' split) <;> first | (exfalso; omega) | exact ⟨rfl, rfl, rfl⟩ | exact ⟨congrArg (fun x => some (Iv x)) (by omega), rfl, rfl⟩
    refine g_iconst 23 dX10_set_22 (by decide) rfl ?_
    refine g_goto 27 dX10_set_23 (by decide) ?_
    refine g_icmp_ge 37 30 dX10_set_27 (by omega) (by omega) (by decide) rfl (fun h150 => ?_) (fun h150 => ?_)
    · refine g_iload_n 38 dX10_set_37 rfl rfl ?_
      refine g_iload_n 39 dX10_set_38 rfl rfl ?_
      refine g_if_ne 48 42 dX10_set_39 (by omega) (by decide) rfl (fun h151 => ?_) (fun h151 => ?_)
      · refine g_iload_n 49 dX10_set_48 rfl rfl ?_
        refine g_iconst 50 dX10_set_49 (by decide) rfl ?_
        refine g_icmp_ne 58 53 dX10_set_50 (by omega) (by omega) (by decide) rfl (fun h152 => ?_) (fun h152 => ?_)
        · refine g_bipush 60 dX10_set_58 (by decide) rfl ?_
          refine g_icmp_le 70 63 dX10_set_60 (by omega) (by omega) (by decide) rfl (fun h153 => ?_) (fun h153 => ?_)
          · refine g_iload_n 71 dX10_set_70 rfl rfl ?_
            refine g_if_ne 81 74 dX10_set_71 (by omega) (by decide) rfl (fun h154 => ?_) (fun h154 => ?_)
            · refine g_iload_n 82 dX10_set_81 rfl rfl ?_
              refine g_iconst 83 dX10_set_82 (by decide) rfl ?_
              refine g_icmp_ne 93 86 dX10_set_83 (by omega) (by omega) (by decide) rfl (fun h155 => ?_) (fun h155 => ?_)
              · refine g_aload_n 94 dX10_set_93 rfl rfl ?_
                refine r_getI 97 (κ 40 3) dX10_set_94 fgX10_16 kd_40 ly_40_3 rfl (rfl) (fun r156 => ?_)
                refine g_istore_n (L' := [some (Rf 40), some (Iv w), some (Iv v), some (Iv (κ 40 3))]) 98 dX10_set_97 rfl (by decide) rfl ?_
                refine g_aload_n 99 dX10_set_98 rfl rfl ?_
                refine g_iload_n 100 dX10_set_99 rfl rfl ?_
                refine g_if_ne 107 103 dX10_set_100 (by omega) (by decide) rfl (fun h157 => ?_) (fun h157 => ?_)
                · refine g_aload_n 108 dX10_set_107 rfl rfl ?_
                  refine r_getI 111 (κ 40 1) dX10_set_108 fgX10_7 kd_40 ly_40_1 rfl (rfl) (fun r158 => ?_)
                  refine g_putI 114 dX10_set_111 fpX10_7 (fun h => (nomatch h)) kd_40 ly_40_1 (by omega) rfl ?_
                  refine g_aload_n 115 dX10_set_114 rfl rfl ?_
                  refine g_iload_n 116 dX10_set_115 rfl rfl ?_
                  refine g_iconst 117 dX10_set_116 (by decide) rfl ?_
                  refine g_icmp_ne 124 120 dX10_set_117 (by omega) (by omega) (by decide) rfl (fun h159 => ?_) (fun h159 => ?_)
                  · refine g_aload_n 125 dX10_set_124 rfl rfl ?_
                    refine r_getI 128 (κ 40 2) dX10_set_125 fgX10_13 kd_40 ly_40_2 rfl (rd_j (by decide) (rfl)) (fun r160 => ?_)
                    refine g_putI 131 dX10_set_128 fpX10_13 (fun h => (nomatch h)) kd_40 ly_40_2 (by omega) rfl ?_
                    refine g_aload_n 132 dX10_set_131 rfl rfl ?_
                    refine g_iload_n 133 dX10_set_132 rfl rfl ?_
                    refine g_iconst 134 dX10_set_133 (by decide) rfl ?_
                    refine g_icmp_ne 141 137 dX10_set_134 (by omega) (by omega) (by decide) rfl (fun h161 => ?_) (fun h161 => ?_)
                    · refine g_aload_n 142 dX10_set_141 rfl rfl ?_
                      refine r_getI 145 (κ 40 3) dX10_set_142 fgX10_16 kd_40 ly_40_3 rfl (rd_j (by decide) (rd_j (by decide) (rfl))) (fun r162 => ?_)
                      refine g_putI 148 dX10_set_145 fpX10_16 (fun h => (nomatch h)) kd_40 ly_40_3 (by omega) rfl ?_
                      refine g_iload_n 149 dX10_set_148 rfl rfl ?_
                      refine g_iret dX10_set_149 rfl ?_
                      unfold M_set
                      (repeat' split) <;> first | (exfalso; omega) | exact ⟨rfl, rfl, rfl⟩ | exact ⟨congrArg (fun x => some (Iv x)) (by omega), rfl, rfl⟩
                    refine g_iload_n 138 dX10_set_137 rfl rfl ?_
                    refine g_goto 145 dX10_set_138 (by decide) ?_
                    refine g_putI 148 dX10_set_145 fpX10_16 (fun h => (nomatch h)) kd_40 ly_40_3 (by omega) rfl ?_
                    refine g_iload_n 149 dX10_set_148 rfl rfl ?_
                    refine g_iret dX10_set_149 rfl ?_
                    unfold M_set
                    (repeat' split) <;> first | (exfalso; omega) | exact ⟨rfl, rfl, rfl⟩ | exact ⟨congrArg (fun x => some (Iv x)) (by omega), rfl, rfl⟩
                  refine g_iload_n 121 dX10_set_120 rfl rfl ?_
                  refine g_goto 128 dX10_set_121 (by decide) ?_
                  refine g_putI 131 dX10_set_128 fpX10_13 (fun h => (nomatch h)) kd_40 ly_40_2 (by omega) rfl ?_
                  refine g_aload_n 132 dX10_set_131 rfl rfl ?_
                  refine g_iload_n 133 dX10_set_132 rfl rfl ?_
                  refine g_iconst 134 dX10_set_133 (by decide) rfl ?_
                  refine g_icmp_ne 141 137 dX10_set_134 (by omega) (by omega) (by decide) rfl (fun h163 => ?_) (fun h163 => ?_)
                  · refine g_aload_n 142 dX10_set_141 rfl rfl ?_
                    refine r_getI 145 (κ 40 3) dX10_set_142 fgX10_16 kd_40 ly_40_3 rfl (rd_j (by decide) (rd_j (by decide) (rfl))) (fun r164 => ?_)
                    refine g_putI 148 dX10_set_145 fpX10_16 (fun h => (nomatch h)) kd_40 ly_40_3 (by omega) rfl ?_
                    refine g_iload_n 149 dX10_set_148 rfl rfl ?_
                    refine g_iret dX10_set_149 rfl ?_
                    unfold M_set
                    (repeat' split) <;> first | (exfalso; omega) | exact ⟨rfl, rfl, rfl⟩ | exact ⟨congrArg (fun x => some (Iv x)) (by omega), rfl, rfl⟩
                  refine g_iload_n 138 dX10_set_137 rfl rfl ?_
                  refine g_goto 145 dX10_set_138 (by decide) ?_
                  refine g_putI 148 dX10_set_145 fpX10_16 (fun h => (nomatch h)) kd_40 ly_40_3 (by omega) rfl ?_
                  refine g_iload_n 149 dX10_set_148 rfl rfl ?_
                  refine g_iret dX10_set_149 rfl ?_
                  unfold M_set
                  (repeat' split) <;> first | (exfalso; omega) | exact ⟨rfl, rfl, rfl⟩ | exact ⟨congrArg (fun x => some (Iv x)) (by omega), rfl, rfl⟩
                refine g_iload_n 104 dX10_set_103 rfl rfl ?_
                refine g_goto 111 dX10_set_104 (by decide) ?_
                refine g_putI 114 dX10_set_111 fpX10_7 (fun h => (nomatch h)) kd_40 ly_40_1 (by omega) rfl ?_
                refine g_aload_n 115 dX10_set_114 rfl rfl ?_
                refine g_iload_n 116 dX10_set_115 rfl rfl ?_
                refine g_iconst 117 dX10_set_116 (by decide) rfl ?_
                refine g_icmp_ne 124 120 dX10_set_117 (by omega) (by omega) (by decide) rfl (fun h165 => ?_) (fun h165 => ?_)
                · refine g_aload_n 125 dX10_set_124 rfl rfl ?_
                  refine r_getI 128 (κ 40 2) dX10_set_125 fgX10_13 kd_40 ly_40_2 rfl (rd_j (by decide) (rfl)) (fun r166 => ?_)
                  refine g_putI 131 dX10_set_128 fpX10_13 (fun h => (nomatch h)) kd_40 ly_40_2 (by omega) rfl ?_
                  refine g_aload_n 132 dX10_set_131 rfl rfl ?_
                  refine g_iload_n 133 dX10_set_132 rfl rfl ?_
                  refine g_iconst 134 dX10_set_133 (by decide) rfl ?_
                  refine g_icmp_ne 141 137 dX10_set_134 (by omega) (by omega) (by decide) rfl (fun h167 => ?_) (fun h167 => ?_)
                  · refine g_aload_n 142 dX10_set_141 rfl rfl ?_
                    refine r_getI 145 (κ 40 3) dX10_set_142 fgX10_16 kd_40 ly_40_3 rfl (rd_j (by decide) (rd_j (by decide) (rfl))) (fun r168 => ?_)
                    refine g_putI 148 dX10_set_145 fpX10_16 (fun h => (nomatch h)) kd_40 ly_40_3 (by omega) rfl ?_
                    refine g_iload_n 149 dX10_set_148 rfl rfl ?_
                    refine g_iret dX10_set_149 rfl ?_
                    unfold M_set
                    (repeat' split) <;> first | (exfalso; omega) | exact ⟨rfl, rfl, rfl⟩ | exact ⟨congrArg (fun x => some (Iv x)) (by omega), rfl, rfl⟩
                  refine g_iload_n 138 dX10_set_137 rfl rfl ?_
                  refine g_goto 145 dX10_set_138 (by decide) ?_
                  refine g_putI 148 dX10_set_145 fpX10_16 (fun h => (nomatch h)) kd_40 ly_40_3 (by omega) rfl ?_
                  refine g_iload_n 149 dX10_set_148 rfl rfl ?_
                  refine g_iret dX10_set_149 rfl ?_
                  unfold M_set
                  (repeat' split) <;> first | (exfalso; omega) | exact ⟨rfl, rfl, rfl⟩ | exact ⟨congrArg (fun x => some (Iv x)) (by omega), rfl, rfl⟩
                refine g_iload_n 121 dX10_set_120 rfl rfl ?_
                refine g_goto 128 dX10_set_121 (by decide) ?_
                refine g_putI 131 dX10_set_128 fpX10_13 (fun h => (nomatch h)) kd_40 ly_40_2 (by omega) rfl ?_
                refine g_aload_n 132 dX10_set_131 rfl rfl ?_
                refine g_iload_n 133 dX10_set_132 rfl rfl ?_
                refine g_iconst 134 dX10_set_133 (by decide) rfl ?_
                refine g_icmp_ne 141 137 dX10_set_134 (by omega) (by omega) (by decide) rfl (fun h169 => ?_) (fun h169 => ?_)
                · refine g_aload_n 142 dX10_set_141 rfl rfl ?_
                  refine r_getI 145 (κ 40 3) dX10_set_142 fgX10_16 kd_40 ly_40_3 rfl (rd_j (by decide) (rd_j (by decide) (rfl))) (fun r170 => ?_)
                  refine g_putI 148 dX10_set_145 fpX10_16 (fun h => (nomatch h)) kd_40 ly_40_3 (by omega) rfl ?_
                  refine g_iload_n 149 dX10_set_148 rfl rfl ?_
                  refine g_iret dX10_set_149 rfl ?_
                  unfold M_set
                  (repeat' split) <;> first | (exfalso; omega) | exact ⟨rfl, rfl, rfl⟩ | exact ⟨congrArg (fun x => some (Iv x)) (by omega), rfl, rfl⟩
                refine g_iload_n 138 dX10_set_137 rfl rfl ?_
                refine g_goto 145 dX10_set_138 (by decide) ?_
                refine g_putI 148 dX10_set_145 fpX10_16 (fun h => (nomatch h)) kd_40 ly_40_3 (by omega) rfl ?_
                refine g_iload_n 149 dX10_set_148 rfl rfl ?_
                refine g_iret dX10_set_149 rfl ?_
                unfold M_set
                (repeat' split) <;> first | (exfalso; omega) | exact ⟨rfl, rfl, rfl⟩ | exact ⟨congrArg (fun x => some (Iv x)) (by omega), rfl, rfl⟩
              refine g_aload_n 87 dX10_set_86 rfl rfl ?_
              refine r_getI 90 (κ 40 2) dX10_set_87 fgX10_13 kd_40 ly_40_2 rfl (rfl) (fun r171 => ?_)
              refine g_goto 97 dX10_set_90 (by decide) ?_
              refine g_istore_n (L' := [some (Rf 40), some (Iv w), some (Iv v), some (Iv (κ 40 2))]) 98 dX10_set_97 rfl (by decide) rfl ?_
              refine g_aload_n 99 dX10_set_98 rfl rfl ?_
              refine g_iload_n 100 dX10_set_99 rfl rfl ?_
              refine g_if_ne 107 103 dX10_set_100 (by omega) (by decide) rfl (fun h172 => ?_) (fun h172 => ?_)
              · refine g_aload_n 108 dX10_set_107 rfl rfl ?_
                refine r_getI 111 (κ 40 1) dX10_set_108 fgX10_7 kd_40 ly_40_1 rfl (rfl) (fun r173 => ?_)
                refine g_putI 114 dX10_set_111 fpX10_7 (fun h => (nomatch h)) kd_40 ly_40_1 (by omega) rfl ?_
                refine g_aload_n 115 dX10_set_114 rfl rfl ?_
                refine g_iload_n 116 dX10_set_115 rfl rfl ?_
                refine g_iconst 117 dX10_set_116 (by decide) rfl ?_
                refine g_icmp_ne 124 120 dX10_set_117 (by omega) (by omega) (by decide) rfl (fun h174 => ?_) (fun h174 => ?_)
                · refine g_aload_n 125 dX10_set_124 rfl rfl ?_
                  refine r_getI 128 (κ 40 2) dX10_set_125 fgX10_13 kd_40 ly_40_2 rfl (rd_j (by decide) (rfl)) (fun r175 => ?_)
                  refine g_putI 131 dX10_set_128 fpX10_13 (fun h => (nomatch h)) kd_40 ly_40_2 (by omega) rfl ?_
                  refine g_aload_n 132 dX10_set_131 rfl rfl ?_
                  refine g_iload_n 133 dX10_set_132 rfl rfl ?_
                  refine g_iconst 134 dX10_set_133 (by decide) rfl ?_
                  refine g_icmp_ne 141 137 dX10_set_134 (by omega) (by omega) (by decide) rfl (fun h176 => ?_) (fun h176 => ?_)
                  · refine g_aload_n 142 dX10_set_141 rfl rfl ?_
                    refine r_getI 145 (κ 40 3) dX10_set_142 fgX10_16 kd_40 ly_40_3 rfl (rd_j (by decide) (rd_j (by decide) (rfl))) (fun r177 => ?_)
                    refine g_putI 148 dX10_set_145 fpX10_16 (fun h => (nomatch h)) kd_40 ly_40_3 (by omega) rfl ?_
                    refine g_iload_n 149 dX10_set_148 rfl rfl ?_
                    refine g_iret dX10_set_149 rfl ?_
                    unfold M_set
                    (repeat' split) <;> first | (exfalso; omega) | exact ⟨rfl, rfl, rfl⟩ | exact ⟨congrArg (fun x => some (Iv x)) (by omega), rfl, rfl⟩
                  refine g_iload_n 138 dX10_set_137 rfl rfl ?_
                  refine g_goto 145 dX10_set_138 (by decide) ?_
                  refine g_putI 148 dX10_set_145 fpX10_16 (fun h => (nomatch h)) kd_40 ly_40_3 (by omega) rfl ?_
                  refine g_iload_n 149 dX10_set_148 rfl rfl ?_
                  refine g_iret dX10_set_149 rfl ?_
                  unfold M_set
                  (repeat' split) <;> first | (exfalso; omega) | exact ⟨rfl, rfl, rfl⟩ | exact ⟨congrArg (fun x => some (Iv x)) (by omega), rfl, rfl⟩
                refine g_iload_n 121 dX10_set_120 rfl rfl ?_
                refine g_goto 128 dX10_set_121 (by decide) ?_
                refine g_putI 131 dX10_set_128 fpX10_13 (fun h => (nomatch h)) kd_40 ly_40_2 (by omega) rfl ?_
                refine g_aload_n 132 dX10_set_131 rfl rfl ?_
                refine g_iload_n 133 dX10_set_132 rfl rfl ?_
                refine g_iconst 134 dX10_set_133 (by decide) rfl ?_
                refine g_icmp_ne 141 137 dX10_set_134 (by omega) (by omega) (by decide) rfl (fun h178 => ?_) (fun h178 => ?_)
                · refine g_aload_n 142 dX10_set_141 rfl rfl ?_
                  refine r_getI 145 (κ 40 3) dX10_set_142 fgX10_16 kd_40 ly_40_3 rfl (rd_j (by decide) (rd_j (by decide) (rfl))) (fun r179 => ?_)
                  refine g_putI 148 dX10_set_145 fpX10_16 (fun h => (nomatch h)) kd_40 ly_40_3 (by omega) rfl ?_
                  refine g_iload_n 149 dX10_set_148 rfl rfl ?_
                  refine g_iret dX10_set_149 rfl ?_
                  unfold M_set
                  (repeat' split) <;> first | (exfalso; omega) | exact ⟨rfl, rfl, rfl⟩ | exact ⟨congrArg (fun x => some (Iv x)) (by omega), rfl, rfl⟩
                refine g_iload_n 138 dX10_set_137 rfl rfl ?_
                refine g_goto 145 dX10_set_138 (by decide) ?_
                refine g_putI 148 dX10_set_145 fpX10_16 (fun h => (nomatch h)) kd_40 ly_40_3 (by omega) rfl ?_
                refine g_iload_n 149 dX10_set_148 rfl rfl ?_
                refine g_iret dX10_set_149 rfl ?_
                unfold M_set
                (repeat' split) <;> first | (exfalso; omega) | exact ⟨rfl, rfl, rfl⟩ | exact ⟨congrArg (fun x => some (Iv x)) (by omega), rfl, rfl⟩
              refine g_iload_n 104 dX10_set_103 rfl rfl ?_
              refine g_goto 111 dX10_set_104 (by decide) ?_
              refine g_putI 114 dX10_set_111 fpX10_7 (fun h => (nomatch h)) kd_40 ly_40_1 (by omega) rfl ?_
              refine g_aload_n 115 dX10_set_114 rfl rfl ?_
              refine g_iload_n 116 dX10_set_115 rfl rfl ?_
              refine g_iconst 117 dX10_set_116 (by decide) rfl ?_
              refine g_icmp_ne 124 120 dX10_set_117 (by omega) (by omega) (by decide) rfl (fun h180 => ?_) (fun h180 => ?_)
              · refine g_aload_n 125 dX10_set_124 rfl rfl ?_
                refine r_getI 128 (κ 40 2) dX10_set_125 fgX10_13 kd_40 ly_40_2 rfl (rd_j (by decide) (rfl)) (fun r181 => ?_)
                refine g_putI 131 dX10_set_128 fpX10_13 (fun h => (nomatch h)) kd_40 ly_40_2 (by omega) rfl ?_
                refine g_aload_n 132 dX10_set_131 rfl rfl ?_
                refine g_iload_n 133 dX10_set_132 rfl rfl ?_
                refine g_iconst 134 dX10_set_133 (by decide) rfl ?_
                refine g_icmp_ne 141 137 dX10_set_134 (by omega) (by omega) (by decide) rfl (fun h182 => ?_) (fun h182 => ?_)
                · refine g_aload_n 142 dX10_set_141 rfl rfl ?_
                  refine r_getI 145 (κ 40 3) dX10_set_142 fgX10_16 kd_40 ly_40_3 rfl (rd_j (by decide) (rd_j (by decide) (rfl))) (fun r183 => ?_)
                  refine g_putI 148 dX10_set_145 fpX10_16 (fun h => (nomatch h)) kd_40 ly_40_3 (by omega) rfl ?_
                  refine g_iload_n 149 dX10_set_148 rfl rfl ?_
                  refine g_iret dX10_set_149 rfl ?_
                  unfold M_set
                  (repeat' split) <;> first | (exfalso; omega) | exact ⟨rfl, rfl, rfl⟩ | exact ⟨congrArg (fun x => some (Iv x)) (by omega), rfl, rfl⟩
                refine g_iload_n 138 dX10_set_137 rfl rfl ?_
                refine g_goto 145 dX10_set_138 (by decide) ?_
                refine g_putI 148 dX10_set_145 fpX10_16 (fun h => (nomatch h)) kd_40 ly_40_3 (by omega) rfl ?_
                refine g_iload_n 149 dX10_set_148 rfl rfl ?_
                refine g_iret dX10_set_149 rfl ?_
                unfold M_set
                (repeat' split) <;> first | (exfalso; omega) | exact ⟨rfl, rfl, rfl⟩ | exact ⟨congrArg (fun x => some (Iv x)) (by omega), rfl, rfl⟩
              refine g_iload_n 121 dX10_set_120 rfl rfl ?_
              refine g_goto 128 dX10_set_121 (by decide) ?_
              refine g_putI 131 dX10_set_128 fpX10_13 (fun h => (nomatch h)) kd_40 ly_40_2 (by omega) rfl ?_
              refine g_aload_n 132 dX10_set_131 rfl rfl ?_
              refine g_iload_n 133 dX10_set_132 rfl rfl ?_
              refine g_iconst 134 dX10_set_133 (by decide) rfl ?_
              refine g_icmp_ne 141 137 dX10_set_134 (by omega) (by omega) (by decide) rfl (fun h184 => ?_) (fun h184 => ?_)
              · refine g_aload_n 142 dX10_set_141 rfl rfl ?_
                refine r_getI 145 (κ 40 3) dX10_set_142 fgX10_16 kd_40 ly_40_3 rfl (rd_j (by decide) (rd_j (by decide) (rfl))) (fun r185 => ?_)
                refine g_putI 148 dX10_set_145 fpX10_16 (fun h => (nomatch h)) kd_40 ly_40_3 (by omega) rfl ?_
                refine g_iload_n 149 dX10_set_148 rfl rfl ?_
                refine g_iret dX10_set_149 rfl ?_
                unfold M_set
                (repeat' split) <;> first | (exfalso; omega) | exact ⟨rfl, rfl, rfl⟩ | exact ⟨congrArg (fun x => some (Iv x)) (by omega), rfl, rfl⟩
              refine g_iload_n 138 dX10_set_137 rfl rfl ?_
              refine g_goto 145 dX10_set_138 (by decide) ?_
              refine g_putI 148 dX10_set_145 fpX10_16 (fun h => (nomatch h)) kd_40 ly_40_3 (by omega) rfl ?_
              refine g_iload_n 149 dX10_set_148 rfl rfl ?_
              refine g_iret dX10_set_149 rfl ?_
              unfold M_set
              (repeat' split) <;> first | (exfalso; omega) | exact ⟨rfl, rfl, rfl⟩ | exact ⟨congrArg (fun x => some (Iv x)) (by omega), rfl, rfl⟩
            refine g_aload_n 75 dX10_set_74 rfl rfl ?_
            refine r_getI 78 (κ 40 1) dX10_set_75 fgX10_7 kd_40 ly_40_1 rfl (rfl) (fun r186 => ?_)
            refine g_goto 97 dX10_set_78 (by decide) ?_
            refine g_istore_n (L' := [some (Rf 40), some (Iv w), some (Iv v), some (Iv (κ 40 1))]) 98 dX10_set_97 rfl (by decide) rfl ?_
            refine g_aload_n 99 dX10_set_98 rfl rfl ?_
            refine g_iload_n 100 dX10_set_99 rfl rfl ?_
            refine g_if_ne 107 103 dX10_set_100 (by omega) (by decide) rfl (fun h187 => ?_) (fun h187 => ?_)
            · refine g_aload_n 108 dX10_set_107 rfl rfl ?_
              refine r_getI 111 (κ 40 1) dX10_set_108 fgX10_7 kd_40 ly_40_1 rfl (rfl) (fun r188 => ?_)
              refine g_putI 114 dX10_set_111 fpX10_7 (fun h => (nomatch h)) kd_40 ly_40_1 (by omega) rfl ?_
              refine g_aload_n 115 dX10_set_114 rfl rfl ?_
              refine g_iload_n 116 dX10_set_115 rfl rfl ?_
              refine g_iconst 117 dX10_set_116 (by decide) rfl ?_
              refine g_icmp_ne 124 120 dX10_set_117 (by omega) (by omega) (by decide) rfl (fun h189 => ?_) (fun h189 => ?_)
              · refine g_aload_n 125 dX10_set_124 rfl rfl ?_
                refine r_getI 128 (κ 40 2) dX10_set_125 fgX10_13 kd_40 ly_40_2 rfl (rd_j (by decide) (rfl)) (fun r190 => ?_)
                refine g_putI 131 dX10_set_128 fpX10_13 (fun h => (nomatch h)) kd_40 ly_40_2 (by omega) rfl ?_
                refine g_aload_n 132 dX10_set_131 rfl rfl ?_
                refine g_iload_n 133 dX10_set_132 rfl rfl ?_
                refine g_iconst 134 dX10_set_133 (by decide) rfl ?_
                refine g_icmp_ne 141 137 dX10_set_134 (by omega) (by omega) (by decide) rfl (fun h191 => ?_) (fun h191 => ?_)
                · refine g_aload_n 142 dX10_set_141 rfl rfl ?_
                  refine r_getI 145 (κ 40 3) dX10_set_142 fgX10_16 kd_40 ly_40_3 rfl (rd_j (by decide) (rd_j (by decide) (rfl))) (fun r192 => ?_)
                  refine g_putI 148 dX10_set_145 fpX10_16 (fun h => (nomatch h)) kd_40 ly_40_3 (by omega) rfl ?_
                  refine g_iload_n 149 dX10_set_148 rfl rfl ?_
                  refine g_iret dX10_set_149 rfl ?_
                  unfold M_set
                  (repeat' split) <;> first | (exfalso; omega) | exact ⟨rfl, rfl, rfl⟩ | exact ⟨congrArg (fun x => some (Iv x)) (by omega), rfl, rfl⟩
                refine g_iload_n 138 dX10_set_137 rfl rfl ?_
                refine g_goto 145 dX10_set_138 (by decide) ?_
                refine g_putI 148 dX10_set_145 fpX10_16 (fun h => (nomatch h)) kd_40 ly_40_3 (by omega) rfl ?_
                refine g_iload_n 149 dX10_set_148 rfl rfl ?_
                refine g_iret dX10_set_149 rfl ?_
                unfold M_set
                (repeat' split) <;> first | (exfalso; omega) | exact ⟨rfl, rfl, rfl⟩ | exact ⟨congrArg (fun x => some (Iv x)) (by omega), rfl, rfl⟩
              refine g_iload_n 121 dX10_set_120 rfl rfl ?_
              refine g_goto 128 dX10_set_121 (by decide) ?_
              refine g_putI 131 dX10_set_128 fpX10_13 (fun h => (nomatch h)) kd_40 ly_40_2 (by omega) rfl ?_
              refine g_aload_n 132 dX10_set_131 rfl rfl ?_
              refine g_iload_n 133 dX10_set_132 rfl rfl ?_
              refine g_iconst 134 dX10_set_133 (by decide) rfl ?_
              refine g_icmp_ne 141 137 dX10_set_134 (by omega) (by omega) (by decide) rfl (fun h193 => ?_) (fun h193 => ?_)
              · refine g_aload_n 142 dX10_set_141 rfl rfl ?_
                refine r_getI 145 (κ 40 3) dX10_set_142 fgX10_16 kd_40 ly_40_3 rfl (rd_j (by decide) (rd_j (by decide) (rfl))) (fun r194 => ?_)
                refine g_putI 148 dX10_set_145 fpX10_16 (fun h => (nomatch h)) kd_40 ly_40_3 (by omega) rfl ?_
                refine g_iload_n 149 dX10_set_148 rfl rfl ?_
                refine g_iret dX10_set_149 rfl ?_
                unfold M_set
                (repeat' split) <;> first | (exfalso; omega) | exact ⟨rfl, rfl, rfl⟩ | exact ⟨congrArg (fun x => some (Iv x)) (by omega), rfl, rfl⟩
              refine g_iload_n 138 dX10_set_137 rfl rfl ?_
              refine g_goto 145 dX10_set_138 (by decide) ?_
              refine g_putI 148 dX10_set_145 fpX10_16 (fun h => (nomatch h)) kd_40 ly_40_3 (by omega) rfl ?_
              refine g_iload_n 149 dX10_set_148 rfl rfl ?_
              refine g_iret dX10_set_149 rfl ?_
              unfold M_set
              (repeat' split) <;> first | (exfalso; omega) | exact ⟨rfl, rfl, rfl⟩ | exact ⟨congrArg (fun x => some (Iv x)) (by omega), rfl, rfl⟩
            refine g_iload_n 104 dX10_set_103 rfl rfl ?_
            refine g_goto 111 dX10_set_104 (by decide) ?_
            refine g_putI 114 dX10_set_111 fpX10_7 (fun h => (nomatch h)) kd_40 ly_40_1 (by omega) rfl ?_
            refine g_aload_n 115 dX10_set_114 rfl rfl ?_
            refine g_iload_n 116 dX10_set_115 rfl rfl ?_
            refine g_iconst 117 dX10_set_116 (by decide) rfl ?_
            refine g_icmp_ne 124 120 dX10_set_117 (by omega) (by omega) (by decide) rfl (fun h195 => ?_) (fun h195 => ?_)
            · refine g_aload_n 125 dX10_set_124 rfl rfl ?_
              refine r_getI 128 (κ 40 2) dX10_set_125 fgX10_13 kd_40 ly_40_2 rfl (rd_j (by decide) (rfl)) (fun r196 => ?_)
              refine g_putI 131 dX10_set_128 fpX10_13 (fun h => (nomatch h)) kd_40 ly_40_2 (by omega) rfl ?_
              refine g_aload_n 132 dX10_set_131 rfl rfl ?_
              refine g_iload_n 133 dX10_set_132 rfl rfl ?_
              refine g_iconst 134 dX10_set_133 (by decide) rfl ?_
              refine g_icmp_ne 141 137 dX10_set_134 (by omega) (by omega) (by decide) rfl (fun h197 => ?_) (fun h197 => ?_)
              · refine g_aload_n 142 dX10_set_141 rfl rfl ?_
                refine r_getI 145 (κ 40 3) dX10_set_142 fgX10_16 kd_40 ly_40_3 rfl (rd_j (by decide) (rd_j (by decide) (rfl))) (fun r198 => ?_)
                refine g_putI 148 dX10_set_145 fpX10_16 (fun h => (nomatch h)) kd_40 ly_40_3 (by omega) rfl ?_
                refine g_iload_n 149 dX10_set_148 rfl rfl ?_
                refine g_iret dX10_set_149 rfl ?_
                unfold M_set
                (repeat' split) <;> first | (exfalso; omega) | exact ⟨rfl, rfl, rfl⟩ | exact ⟨congrArg (fun x => some (Iv x)) (by omega), rfl, rfl⟩
              refine g_iload_n 138 dX10_set_137 rfl rfl ?_
              refine g_goto 145 dX10_set_138 (by decide) ?_
              refine g_putI 148 dX10_set_145 fpX10_16 (fun h => (nomatch h)) kd_40 ly_40_3 (by omega) rfl ?_
              refine g_iload_n 149 dX10_set_148 rfl rfl ?_
              refine g_iret dX10_set_149 rfl ?_
              unfold M_set
              (repeat' split) <;> first | (exfalso; omega) | exact ⟨rfl, rfl, rfl⟩ | exact ⟨congrArg (fun x => some (Iv x)) (by omega), rfl, rfl⟩
            refine g_iload_n 121 dX10_set_120 rfl rfl ?_
            refine g_goto 128 dX10_set_121 (by decide) ?_
            refine g_putI 131 dX10_set_128 fpX10_13 (fun h => (nomatch h)) kd_40 ly_40_2 (by omega) rfl ?_
            refine g_aload_n 132 dX10_set_131 rfl rfl ?_
            refine g_iload_n 133 dX10_set_132 rfl rfl ?_
            refine g_iconst 134 dX10_set_133 (by decide) rfl ?_
            refine g_icmp_ne 141 137 dX10_set_134 (by omega) (by omega) (by decide) rfl (fun h199 => ?_) (fun h199 => ?_)
            · refine g_aload_n 142 dX10_set_141 rfl rfl ?_
              refine r_getI 145 (κ 40 3) dX10_set_142 fgX10_16 kd_40 ly_40_3 rfl (rd_j (by decide) (rd_j (by decide) (rfl))) (fun r200 => ?_)
              refine g_putI 148 dX10_set_145 fpX10_16 (fun h => (nomatch h)) kd_40 ly_40_3 (by omega) rfl ?_
              refine g_iload_n 149 dX10_set_148 rfl rfl ?_
              refine g_iret dX10_set_149 rfl ?_
              unfold M_set
              (repeat' split) <;> first | (exfalso; omega) | exact ⟨rfl, rfl, rfl⟩ | exact ⟨congrArg (fun x => some (Iv x)) (by omega), rfl, rfl⟩
            refine g_iload_n 138 dX10_set_137 rfl rfl ?_
            refine g_goto 145 dX10_set_138 (by decide) ?_
            refine g_putI 148 dX10_set_145 fpX10_16 (fun h => (nomatch h)) kd_40 ly_40_3 (by omega) rfl ?_
            refine g_iload_n 149 dX10_set_148 rfl rfl ?_
            refine g_iret dX10_set_149 rfl ?_
            unfold M_set
            (repeat' split) <;> first | (exfalso; omega) | exact ⟨rfl, rfl, rfl⟩ | exact ⟨congrArg (fun x => some (Iv x)) (by omega), rfl, rfl⟩
          refine g_aload_n 64 dX10_set_63 rfl rfl ?_
          refine g_bipush 66 dX10_set_64 (by decide) rfl ?_
          refine e_V 69 0 0 [Iv (-6)] [] dX10_set_66 cvX10_145 mwX10_refuse kd_40 (by decide) rfl (by decide) rfl rfl rfl (c_X10_refuse 6 (by decide) (by decide)) ?_
          refine g_iret dX10_set_69 rfl ?_
          unfold M_set
          (repeat' split) <;> first | (exfalso; omega) | exact ⟨rfl, rfl, rfl⟩ | exact ⟨congrArg (fun x => some (Iv x)) (by omega), rfl, rfl⟩
        refine g_bipush 55 dX10_set_53 (by decide) rfl ?_
        refine g_goto 60 dX10_set_55 (by decide) ?_
        refine g_icmp_le 70 63 dX10_set_60 (by omega) (by omega) (by decide) rfl (fun h201 => ?_) (fun h201 => ?_)
        · refine g_iload_n 71 dX10_set_70 rfl rfl ?_
          refine g_if_ne 81 74 dX10_set_71 (by omega) (by decide) rfl (fun h202 => ?_) (fun h202 => ?_)
          · refine g_iload_n 82 dX10_set_81 rfl rfl ?_
            refine g_iconst 83 dX10_set_82 (by decide) rfl ?_
            refine g_icmp_ne 93 86 dX10_set_83 (by omega) (by omega) (by decide) rfl (fun h203 => ?_) (fun h203 => ?_)
            · refine g_aload_n 94 dX10_set_93 rfl rfl ?_
              refine r_getI 97 (κ 40 3) dX10_set_94 fgX10_16 kd_40 ly_40_3 rfl (rfl) (fun r204 => ?_)
              refine g_istore_n (L' := [some (Rf 40), some (Iv w), some (Iv v), some (Iv (κ 40 3))]) 98 dX10_set_97 rfl (by decide) rfl ?_
              refine g_aload_n 99 dX10_set_98 rfl rfl ?_
              refine g_iload_n 100 dX10_set_99 rfl rfl ?_
              refine g_if_ne 107 103 dX10_set_100 (by omega) (by decide) rfl (fun h205 => ?_) (fun h205 => ?_)
              · refine g_aload_n 108 dX10_set_107 rfl rfl ?_
                refine r_getI 111 (κ 40 1) dX10_set_108 fgX10_7 kd_40 ly_40_1 rfl (rfl) (fun r206 => ?_)
                refine g_putI 114 dX10_set_111 fpX10_7 (fun h => (nomatch h)) kd_40 ly_40_1 (by omega) rfl ?_
                refine g_aload_n 115 dX10_set_114 rfl rfl ?_
                refine g_iload_n 116 dX10_set_115 rfl rfl ?_
                refine g_iconst 117 dX10_set_116 (by decide) rfl ?_
                refine g_icmp_ne 124 120 dX10_set_117 (by omega) (by omega) (by decide) rfl (fun h207 => ?_) (fun h207 => ?_)
                · refine g_aload_n 125 dX10_set_124 rfl rfl ?_
                  refine r_getI 128 (κ 40 2) dX10_set_125 fgX10_13 kd_40 ly_40_2 rfl (rd_j (by decide) (rfl)) (fun r208 => ?_)
                  refine g_putI 131 dX10_set_128 fpX10_13 (fun h => (nomatch h)) kd_40 ly_40_2 (by omega) rfl ?_
                  refine g_aload_n 132 dX10_set_131 rfl rfl ?_
                  refine g_iload_n 133 dX10_set_132 rfl rfl ?_
                  refine g_iconst 134 dX10_set_133 (by decide) rfl ?_
                  refine g_icmp_ne 141 137 dX10_set_134 (by omega) (by omega) (by decide) rfl (fun h209 => ?_) (fun h209 => ?_)
                  · refine g_aload_n 142 dX10_set_141 rfl rfl ?_
                    refine r_getI 145 (κ 40 3) dX10_set_142 fgX10_16 kd_40 ly_40_3 rfl (rd_j (by decide) (rd_j (by decide) (rfl))) (fun r210 => ?_)
                    refine g_putI 148 dX10_set_145 fpX10_16 (fun h => (nomatch h)) kd_40 ly_40_3 (by omega) rfl ?_
                    refine g_iload_n 149 dX10_set_148 rfl rfl ?_
                    refine g_iret dX10_set_149 rfl ?_
                    unfold M_set
                    (repeat' split) <;> first | (exfalso; omega) | exact ⟨rfl, rfl, rfl⟩ | exact ⟨congrArg (fun x => some (Iv x)) (by omega), rfl, rfl⟩
                  refine g_iload_n 138 dX10_set_137 rfl rfl ?_
                  refine g_goto 145 dX10_set_138 (by decide) ?_
                  refine g_putI 148 dX10_set_145 fpX10_16 (fun h => (nomatch h)) kd_40 ly_40_3 (by omega) rfl ?_
                  refine g_iload_n 149 dX10_set_148 rfl rfl ?_
                  refine g_iret dX10_set_149 rfl ?_
                  unfold M_set
                  (repeat' split) <;> first | (exfalso; omega) | exact ⟨rfl, rfl, rfl⟩ | exact ⟨congrArg (fun x => some (Iv x)) (by omega), rfl, rfl⟩
                refine g_iload_n 121 dX10_set_120 rfl rfl ?_
                refine g_goto 128 dX10_set_121 (by decide) ?_
                refine g_putI 131 dX10_set_128 fpX10_13 (fun h => (nomatch h)) kd_40 ly_40_2 (by omega) rfl ?_
                refine g_aload_n 132 dX10_set_131 rfl rfl ?_
                refine g_iload_n 133 dX10_set_132 rfl rfl ?_
                refine g_iconst 134 dX10_set_133 (by decide) rfl ?_
                refine g_icmp_ne 141 137 dX10_set_134 (by omega) (by omega) (by decide) rfl (fun h211 => ?_) (fun h211 => ?_)
                · refine g_aload_n 142 dX10_set_141 rfl rfl ?_
                  refine r_getI 145 (κ 40 3) dX10_set_142 fgX10_16 kd_40 ly_40_3 rfl (rd_j (by decide) (rd_j (by decide) (rfl))) (fun r212 => ?_)
                  refine g_putI 148 dX10_set_145 fpX10_16 (fun h => (nomatch h)) kd_40 ly_40_3 (by omega) rfl ?_
                  refine g_iload_n 149 dX10_set_148 rfl rfl ?_
                  refine g_iret dX10_set_149 rfl ?_
                  unfold M_set
                  (repeat' split) <;> first | (exfalso; omega) | exact ⟨rfl, rfl, rfl⟩ | exact ⟨congrArg (fun x => some (Iv x)) (by omega), rfl, rfl⟩
                refine g_iload_n 138 dX10_set_137 rfl rfl ?_
                refine g_goto 145 dX10_set_138 (by decide) ?_
                refine g_putI 148 dX10_set_145 fpX10_16 (fun h => (nomatch h)) kd_40 ly_40_3 (by omega) rfl ?_
                refine g_iload_n 149 dX10_set_148 rfl rfl ?_
                refine g_iret dX10_set_149 rfl ?_
                unfold M_set
                (repeat' split) <;> first | (exfalso; omega) | exact ⟨rfl, rfl, rfl⟩ | exact ⟨congrArg (fun x => some (Iv x)) (by omega), rfl, rfl⟩
              refine g_iload_n 104 dX10_set_103 rfl rfl ?_
              refine g_goto 111 dX10_set_104 (by decide) ?_
              refine g_putI 114 dX10_set_111 fpX10_7 (fun h => (nomatch h)) kd_40 ly_40_1 (by omega) rfl ?_
              refine g_aload_n 115 dX10_set_114 rfl rfl ?_
              refine g_iload_n 116 dX10_set_115 rfl rfl ?_
              refine g_iconst 117 dX10_set_116 (by decide) rfl ?_
              refine g_icmp_ne 124 120 dX10_set_117 (by omega) (by omega) (by decide) rfl (fun h213 => ?_) (fun h213 => ?_)
              · refine g_aload_n 125 dX10_set_124 rfl rfl ?_
                refine r_getI 128 (κ 40 2) dX10_set_125 fgX10_13 kd_40 ly_40_2 rfl (rd_j (by decide) (rfl)) (fun r214 => ?_)
                refine g_putI 131 dX10_set_128 fpX10_13 (fun h => (nomatch h)) kd_40 ly_40_2 (by omega) rfl ?_
                refine g_aload_n 132 dX10_set_131 rfl rfl ?_
                refine g_iload_n 133 dX10_set_132 rfl rfl ?_
                refine g_iconst 134 dX10_set_133 (by decide) rfl ?_
                refine g_icmp_ne 141 137 dX10_set_134 (by omega) (by omega) (by decide) rfl (fun h215 => ?_) (fun h215 => ?_)
                · refine g_aload_n 142 dX10_set_141 rfl rfl ?_
                  refine r_getI 145 (κ 40 3) dX10_set_142 fgX10_16 kd_40 ly_40_3 rfl (rd_j (by decide) (rd_j (by decide) (rfl))) (fun r216 => ?_)
                  refine g_putI 148 dX10_set_145 fpX10_16 (fun h => (nomatch h)) kd_40 ly_40_3 (by omega) rfl ?_
                  refine g_iload_n 149 dX10_set_148 rfl rfl ?_
                  refine g_iret dX10_set_149 rfl ?_
                  unfold M_set
                  (repeat' split) <;> first | (exfalso; omega) | exact ⟨rfl, rfl, rfl⟩ | exact ⟨congrArg (fun x => some (Iv x)) (by omega), rfl, rfl⟩
                refine g_iload_n 138 dX10_set_137 rfl rfl ?_
                refine g_goto 145 dX10_set_138 (by decide) ?_
                refine g_putI 148 dX10_set_145 fpX10_16 (fun h => (nomatch h)) kd_40 ly_40_3 (by omega) rfl ?_
                refine g_iload_n 149 dX10_set_148 rfl rfl ?_
                refine g_iret dX10_set_149 rfl ?_
                unfold M_set
                (repeat' split) <;> first | (exfalso; omega) | exact ⟨rfl, rfl, rfl⟩ | exact ⟨congrArg (fun x => some (Iv x)) (by omega), rfl, rfl⟩
              refine g_iload_n 121 dX10_set_120 rfl rfl ?_
              refine g_goto 128 dX10_set_121 (by decide) ?_
              refine g_putI 131 dX10_set_128 fpX10_13 (fun h => (nomatch h)) kd_40 ly_40_2 (by omega) rfl ?_
              refine g_aload_n 132 dX10_set_131 rfl rfl ?_
              refine g_iload_n 133 dX10_set_132 rfl rfl ?_
              refine g_iconst 134 dX10_set_133 (by decide) rfl ?_
              refine g_icmp_ne 141 137 dX10_set_134 (by omega) (by omega) (by decide) rfl (fun h217 => ?_) (fun h217 => ?_)
              · refine g_aload_n 142 dX10_set_141 rfl rfl ?_
                refine r_getI 145 (κ 40 3) dX10_set_142 fgX10_16 kd_40 ly_40_3 rfl (rd_j (by decide) (rd_j (by decide) (rfl))) (fun r218 => ?_)
                refine g_putI 148 dX10_set_145 fpX10_16 (fun h => (nomatch h)) kd_40 ly_40_3 (by omega) rfl ?_
                refine g_iload_n 149 dX10_set_148 rfl rfl ?_
                refine g_iret dX10_set_149 rfl ?_
                unfold M_set
                (repeat' split) <;> first | (exfalso; omega) | exact ⟨rfl, rfl, rfl⟩ | exact ⟨congrArg (fun x => some (Iv x)) (by omega), rfl, rfl⟩
              refine g_iload_n 138 dX10_set_137 rfl rfl ?_
              refine g_goto 145 dX10_set_138 (by decide) ?_
              refine g_putI 148 dX10_set_145 fpX10_16 (fun h => (nomatch h)) kd_40 ly_40_3 (by omega) rfl ?_
              refine g_iload_n 149 dX10_set_148 rfl rfl ?_
              refine g_iret dX10_set_149 rfl ?_
              unfold M_set
              (repeat' split) <;> first | (exfalso; omega) | exact ⟨rfl, rfl, rfl⟩ | exact ⟨congrArg (fun x => some (Iv x)) (by omega), rfl, rfl⟩
            refine g_aload_n 87 dX10_set_86 rfl rfl ?_
            refine r_getI 90 (κ 40 2) dX10_set_87 fgX10_13 kd_40 ly_40_2 rfl (rfl) (fun r219 => ?_)
            refine g_goto 97 dX10_set_90 (by decide) ?_
            refine g_istore_n (L' := [some (Rf 40), some (Iv w), some (Iv v), some (Iv (κ 40 2))]) 98 dX10_set_97 rfl (by decide) rfl ?_
            refine g_aload_n 99 dX10_set_98 rfl rfl ?_
            refine g_iload_n 100 dX10_set_99 rfl rfl ?_
            refine g_if_ne 107 103 dX10_set_100 (by omega) (by decide) rfl (fun h220 => ?_) (fun h220 => ?_)
            · refine g_aload_n 108 dX10_set_107 rfl rfl ?_
              refine r_getI 111 (κ 40 1) dX10_set_108 fgX10_7 kd_40 ly_40_1 rfl (rfl) (fun r221 => ?_)
              refine g_putI 114 dX10_set_111 fpX10_7 (fun h => (nomatch h)) kd_40 ly_40_1 (by omega) rfl ?_
              refine g_aload_n 115 dX10_set_114 rfl rfl ?_
              refine g_iload_n 116 dX10_set_115 rfl rfl ?_
              refine g_iconst 117 dX10_set_116 (by decide) rfl ?_
              refine g_icmp_ne 124 120 dX10_set_117 (by omega) (by omega) (by decide) rfl (fun h222 => ?_) (fun h222 => ?_)
              · refine g_aload_n 125 dX10_set_124 rfl rfl ?_
                refine r_getI 128 (κ 40 2) dX10_set_125 fgX10_13 kd_40 ly_40_2 rfl (rd_j (by decide) (rfl)) (fun r223 => ?_)
                refine g_putI 131 dX10_set_128 fpX10_13 (fun h => (nomatch h)) kd_40 ly_40_2 (by omega) rfl ?_
                refine g_aload_n 132 dX10_set_131 rfl rfl ?_
                refine g_iload_n 133 dX10_set_132 rfl rfl ?_
                refine g_iconst 134 dX10_set_133 (by decide) rfl ?_
                refine g_icmp_ne 141 137 dX10_set_134 (by omega) (by omega) (by decide) rfl (fun h224 => ?_) (fun h224 => ?_)
                · refine g_aload_n 142 dX10_set_141 rfl rfl ?_
                  refine r_getI 145 (κ 40 3) dX10_set_142 fgX10_16 kd_40 ly_40_3 rfl (rd_j (by decide) (rd_j (by decide) (rfl))) (fun r225 => ?_)
                  refine g_putI 148 dX10_set_145 fpX10_16 (fun h => (nomatch h)) kd_40 ly_40_3 (by omega) rfl ?_
                  refine g_iload_n 149 dX10_set_148 rfl rfl ?_
                  refine g_iret dX10_set_149 rfl ?_
                  unfold M_set
                  (repeat' split) <;> first | (exfalso; omega) | exact ⟨rfl, rfl, rfl⟩ | exact ⟨congrArg (fun x => some (Iv x)) (by omega), rfl, rfl⟩
                refine g_iload_n 138 dX10_set_137 rfl rfl ?_
                refine g_goto 145 dX10_set_138 (by decide) ?_
                refine g_putI 148 dX10_set_145 fpX10_16 (fun h => (nomatch h)) kd_40 ly_40_3 (by omega) rfl ?_
                refine g_iload_n 149 dX10_set_148 rfl rfl ?_
                refine g_iret dX10_set_149 rfl ?_
                unfold M_set
                (repeat' split) <;> first | (exfalso; omega) | exact ⟨rfl, rfl, rfl⟩ | exact ⟨congrArg (fun x => some (Iv x)) (by omega), rfl, rfl⟩
              refine g_iload_n 121 dX10_set_120 rfl rfl ?_
              refine g_goto 128 dX10_set_121 (by decide) ?_
              refine g_putI 131 dX10_set_128 fpX10_13 (fun h => (nomatch h)) kd_40 ly_40_2 (by omega) rfl ?_
              refine g_aload_n 132 dX10_set_131 rfl rfl ?_
              refine g_iload_n 133 dX10_set_132 rfl rfl ?_
              refine g_iconst 134 dX10_set_133 (by decide) rfl ?_
              refine g_icmp_ne 141 137 dX10_set_134 (by omega) (by omega) (by decide) rfl (fun h226 => ?_) (fun h226 => ?_)
              · refine g_aload_n 142 dX10_set_141 rfl rfl ?_
                refine r_getI 145 (κ 40 3) dX10_set_142 fgX10_16 kd_40 ly_40_3 rfl (rd_j (by decide) (rd_j (by decide) (rfl))) (fun r227 => ?_)
                refine g_putI 148 dX10_set_145 fpX10_16 (fun h => (nomatch h)) kd_40 ly_40_3 (by omega) rfl ?_
                refine g_iload_n 149 dX10_set_148 rfl rfl ?_
                refine g_iret dX10_set_149 rfl ?_
                unfold M_set
                (repeat' split) <;> first | (exfalso; omega) | exact ⟨rfl, rfl, rfl⟩ | exact ⟨congrArg (fun x => some (Iv x)) (by omega), rfl, rfl⟩
              refine g_iload_n 138 dX10_set_137 rfl rfl ?_
              refine g_goto 145 dX10_set_138 (by decide) ?_
              refine g_putI 148 dX10_set_145 fpX10_16 (fun h => (nomatch h)) kd_40 ly_40_3 (by omega) rfl ?_
              refine g_iload_n 149 dX10_set_148 rfl rfl ?_
              refine g_iret dX10_set_149 rfl ?_
              unfold M_set
              (repeat' split) <;> first | (exfalso; omega) | exact ⟨rfl, rfl, rfl⟩ | exact ⟨congrArg (fun x => some (Iv x)) (by omega), rfl, rfl⟩
            refine g_iload_n 104 dX10_set_103 rfl rfl ?_
            refine g_goto 111 dX10_set_104 (by decide) ?_
            refine g_putI 114 dX10_set_111 fpX10_7 (fun h => (nomatch h)) kd_40 ly_40_1 (by omega) rfl ?_
            refine g_aload_n 115 dX10_set_114 rfl rfl ?_
            refine g_iload_n 116 dX10_set_115 rfl rfl ?_
            refine g_iconst 117 dX10_set_116 (by decide) rfl ?_
            refine g_icmp_ne 124 120 dX10_set_117 (by omega) (by omega) (by decide) rfl (fun h228 => ?_) (fun h228 => ?_)
            · refine g_aload_n 125 dX10_set_124 rfl rfl ?_
              refine r_getI 128 (κ 40 2) dX10_set_125 fgX10_13 kd_40 ly_40_2 rfl (rd_j (by decide) (rfl)) (fun r229 => ?_)
              refine g_putI 131 dX10_set_128 fpX10_13 (fun h => (nomatch h)) kd_40 ly_40_2 (by omega) rfl ?_
              refine g_aload_n 132 dX10_set_131 rfl rfl ?_
              refine g_iload_n 133 dX10_set_132 rfl rfl ?_
              refine g_iconst 134 dX10_set_133 (by decide) rfl ?_
              refine g_icmp_ne 141 137 dX10_set_134 (by omega) (by omega) (by decide) rfl (fun h230 => ?_) (fun h230 => ?_)
              · refine g_aload_n 142 dX10_set_141 rfl rfl ?_
                refine r_getI 145 (κ 40 3) dX10_set_142 fgX10_16 kd_40 ly_40_3 rfl (rd_j (by decide) (rd_j (by decide) (rfl))) (fun r231 => ?_)
                refine g_putI 148 dX10_set_145 fpX10_16 (fun h => (nomatch h)) kd_40 ly_40_3 (by omega) rfl ?_
                refine g_iload_n 149 dX10_set_148 rfl rfl ?_
                refine g_iret dX10_set_149 rfl ?_
                unfold M_set
                (repeat' split) <;> first | (exfalso; omega) | exact ⟨rfl, rfl, rfl⟩ | exact ⟨congrArg (fun x => some (Iv x)) (by omega), rfl, rfl⟩
              refine g_iload_n 138 dX10_set_137 rfl rfl ?_
              refine g_goto 145 dX10_set_138 (by decide) ?_
              refine g_putI 148 dX10_set_145 fpX10_16 (fun h => (nomatch h)) kd_40 ly_40_3 (by omega) rfl ?_
              refine g_iload_n 149 dX10_set_148 rfl rfl ?_
              refine g_iret dX10_set_149 rfl ?_
              unfold M_set
              (repeat' split) <;> first | (exfalso; omega) | exact ⟨rfl, rfl, rfl⟩ | exact ⟨congrArg (fun x => some (Iv x)) (by omega), rfl, rfl⟩
            refine g_iload_n 121 dX10_set_120 rfl rfl ?_
            refine g_goto 128 dX10_set_121 (by decide) ?_
            refine g_putI 131 dX10_set_128 fpX10_13 (fun h => (nomatch h)) kd_40 ly_40_2 (by omega) rfl ?_
            refine g_aload_n 132 dX10_set_131 rfl rfl ?_
            refine g_iload_n 133 dX10_set_132 rfl rfl ?_
            refine g_iconst 134 dX10_set_133 (by decide) rfl ?_
            refine g_icmp_ne 141 137 dX10_set_134 (by omega) (by omega) (by decide) rfl (fun h232 => ?_) (fun h232 => ?_)
            · refine g_aload_n 142 dX10_set_141 rfl rfl ?_
              refine r_getI 145 (κ 40 3) dX10_set_142 fgX10_16 kd_40 ly_40_3 rfl (rd_j (by decide) (rd_j (by decide) (rfl))) (fun r233 => ?_)
              refine g_putI 148 dX10_set_145 fpX10_16 (fun h => (nomatch h)) kd_40 ly_40_3 (by omega) rfl ?_
              refine g_iload_n 149 dX10_set_148 rfl rfl ?_
              refine g_iret dX10_set_149 rfl ?_
              unfold M_set
              (repeat' split) <;> first | (exfalso; omega) | exact ⟨rfl, rfl, rfl⟩ | exact ⟨congrArg (fun x => some (Iv x)) (by omega), rfl, rfl⟩
            refine g_iload_n 138 dX10_set_137 rfl rfl ?_
            refine g_goto 145 dX10_set_138 (by decide) ?_
            refine g_putI 148 dX10_set_145 fpX10_16 (fun h => (nomatch h)) kd_40 ly_40_3 (by omega) rfl ?_
            refine g_iload_n 149 dX10_set_148 rfl rfl ?_
            refine g_iret dX10_set_149 rfl ?_
            unfold M_set
            (repeat' split) <;> first | (exfalso; omega) | exact ⟨rfl, rfl, rfl⟩ | exact ⟨congrArg (fun x => some (Iv x)) (by omega), rfl, rfl⟩
          refine g_aload_n 75 dX10_set_74 rfl rfl ?_
          refine r_getI 78 (κ 40 1) dX10_set_75 fgX10_7 kd_40 ly_40_1 rfl (rfl) (fun r234 => ?_)
          refine g_goto 97 dX10_set_78 (by decide) ?_
          refine g_istore_n (L' := [some (Rf 40), some (Iv w), some (Iv v), some (Iv (κ 40 1))]) 98 dX10_set_97 rfl (by decide) rfl ?_
          refine g_aload_n 99 dX10_set_98 rfl rfl ?_
          refine g_iload_n 100 dX10_set_99 rfl rfl ?_
          refine g_if_ne 107 103 dX10_set_100 (by omega) (by decide) rfl (fun h235 => ?_) (fun h235 => ?_)
          · refine g_aload_n 108 dX10_set_107 rfl rfl ?_
            refine r_getI 111 (κ 40 1) dX10_set_108 fgX10_7 kd_40 ly_40_1 rfl (rfl) (fun r236 => ?_)
            refine g_putI 114 dX10_set_111 fpX10_7 (fun h => (nomatch h)) kd_40 ly_40_1 (by omega) rfl ?_
            refine g_aload_n 115 dX10_set_114 rfl rfl ?_
            refine g_iload_n 116 dX10_set_115 rfl rfl ?_
            refine g_iconst 117 dX10_set_116 (by decide) rfl ?_
            refine g_icmp_ne 124 120 dX10_set_117 (by omega) (by omega) (by decide) rfl (fun h237 => ?_) (fun h237 => ?_)
            · refine g_aload_n 125 dX10_set_124 rfl rfl ?_
              refine r_getI 128 (κ 40 2) dX10_set_125 fgX10_13 kd_40 ly_40_2 rfl (rd_j (by decide) (rfl)) (fun r238 => ?_)
              refine g_putI 131 dX10_set_128 fpX10_13 (fun h => (nomatch h)) kd_40 ly_40_2 (by omega) rfl ?_
              refine g_aload_n 132 dX10_set_131 rfl rfl ?_
              refine g_iload_n 133 dX10_set_132 rfl rfl ?_
              refine g_iconst 134 dX10_set_133 (by decide) rfl ?_
              refine g_icmp_ne 141 137 dX10_set_134 (by omega) (by omega) (by decide) rfl (fun h239 => ?_) (fun h239 => ?_)
              · refine g_aload_n 142 dX10_set_141 rfl rfl ?_
                refine r_getI 145 (κ 40 3) dX10_set_142 fgX10_16 kd_40 ly_40_3 rfl (rd_j (by decide) (rd_j (by decide) (rfl))) (fun r240 => ?_)
                refine g_putI 148 dX10_set_145 fpX10_16 (fun h => (nomatch h)) kd_40 ly_40_3 (by omega) rfl ?_
                refine g_iload_n 149 dX10_set_148 rfl rfl ?_
                refine g_iret dX10_set_149 rfl ?_
                unfold M_set
                (repeat' split) <;> first | (exfalso; omega) | exact ⟨rfl, rfl, rfl⟩ | exact ⟨congrArg (fun x => some (Iv x)) (by omega), rfl, rfl⟩
              refine g_iload_n 138 dX10_set_137 rfl rfl ?_
              refine g_goto 145 dX10_set_138 (by decide) ?_
              refine g_putI 148 dX10_set_145 fpX10_16 (fun h => (nomatch h)) kd_40 ly_40_3 (by omega) rfl ?_
              refine g_iload_n 149 dX10_set_148 rfl rfl ?_
              refine g_iret dX10_set_149 rfl ?_
              unfold M_set
              (repeat' split) <;> first | (exfalso; omega) | exact ⟨rfl, rfl, rfl⟩ | exact ⟨congrArg (fun x => some (Iv x)) (by omega), rfl, rfl⟩
            refine g_iload_n 121 dX10_set_120 rfl rfl ?_
            refine g_goto 128 dX10_set_121 (by decide) ?_
            refine g_putI 131 dX10_set_128 fpX10_13 (fun h => (nomatch h)) kd_40 ly_40_2 (by omega) rfl ?_
            refine g_aload_n 132 dX10_set_131 rfl rfl ?_
            refine g_iload_n 133 dX10_set_132 rfl rfl ?_
            refine g_iconst 134 dX10_set_133 (by decide) rfl ?_
            refine g_icmp_ne 141 137 dX10_set_134 (by omega) (by omega) (by decide) rfl (fun h241 => ?_) (fun h241 => ?_)
            · refine g_aload_n 142 dX10_set_141 rfl rfl ?_
              refine r_getI 145 (κ 40 3) dX10_set_142 fgX10_16 kd_40 ly_40_3 rfl (rd_j (by decide) (rd_j (by decide) (rfl))) (fun r242 => ?_)
              refine g_putI 148 dX10_set_145 fpX10_16 (fun h => (nomatch h)) kd_40 ly_40_3 (by omega) rfl ?_
              refine g_iload_n 149 dX10_set_148 rfl rfl ?_
              refine g_iret dX10_set_149 rfl ?_
              unfold M_set
              (repeat' split) <;> first | (exfalso; omega) | exact ⟨rfl, rfl, rfl⟩ | exact ⟨congrArg (fun x => some (Iv x)) (by omega), rfl, rfl⟩
            refine g_iload_n 138 dX10_set_137 rfl rfl ?_
            refine g_goto 145 dX10_set_138 (by decide) ?_
            refine g_putI 148 dX10_set_145 fpX10_16 (fun h => (nomatch h)) kd_40 ly_40_3 (by omega) rfl ?_
            refine g_iload_n 149 dX10_set_148 rfl rfl ?_
            refine g_iret dX10_set_149 rfl ?_
            unfold M_set
            (repeat' split) <;> first | (exfalso; omega) | exact ⟨rfl, rfl, rfl⟩ | exact ⟨congrArg (fun x => some (Iv x)) (by omega), rfl, rfl⟩
          refine g_iload_n 104 dX10_set_103 rfl rfl ?_
          refine g_goto 111 dX10_set_104 (by decide) ?_
          refine g_putI 114 dX10_set_111 fpX10_7 (fun h => (nomatch h)) kd_40 ly_40_1 (by omega) rfl ?_
          refine g_aload_n 115 dX10_set_114 rfl rfl ?_
          refine g_iload_n 116 dX10_set_115 rfl rfl ?_
          refine g_iconst 117 dX10_set_116 (by decide) rfl ?_
          refine g_icmp_ne 124 120 dX10_set_117 (by omega) (by omega) (by decide) rfl (fun h243 => ?_) (fun h243 => ?_)
          · refine g_aload_n 125 dX10_set_124 rfl rfl ?_
            refine r_getI 128 (κ 40 2) dX10_set_125 fgX10_13 kd_40 ly_40_2 rfl (rd_j (by decide) (rfl)) (fun r244 => ?_)
            refine g_putI 131 dX10_set_128 fpX10_13 (fun h => (nomatch h)) kd_40 ly_40_2 (by omega) rfl ?_
            refine g_aload_n 132 dX10_set_131 rfl rfl ?_
            refine g_iload_n 133 dX10_set_132 rfl rfl ?_
            refine g_iconst 134 dX10_set_133 (by decide) rfl ?_
            refine g_icmp_ne 141 137 dX10_set_134 (by omega) (by omega) (by decide) rfl (fun h245 => ?_) (fun h245 => ?_)
            · refine g_aload_n 142 dX10_set_141 rfl rfl ?_
              refine r_getI 145 (κ 40 3) dX10_set_142 fgX10_16 kd_40 ly_40_3 rfl (rd_j (by decide) (rd_j (by decide) (rfl))) (fun r246 => ?_)
              refine g_putI 148 dX10_set_145 fpX10_16 (fun h => (nomatch h)) kd_40 ly_40_3 (by omega) rfl ?_
              refine g_iload_n 149 dX10_set_148 rfl rfl ?_
              refine g_iret dX10_set_149 rfl ?_
              unfold M_set
              (repeat' split) <;> first | (exfalso; omega) | exact ⟨rfl, rfl, rfl⟩ | exact ⟨congrArg (fun x => some (Iv x)) (by omega), rfl, rfl⟩
            refine g_iload_n 138 dX10_set_137 rfl rfl ?_
            refine g_goto 145 dX10_set_138 (by decide) ?_
            refine g_putI 148 dX10_set_145 fpX10_16 (fun h => (nomatch h)) kd_40 ly_40_3 (by omega) rfl ?_
            refine g_iload_n 149 dX10_set_148 rfl rfl ?_
            refine g_iret dX10_set_149 rfl ?_
            unfold M_set
            (repeat' split) <;> first | (exfalso; omega) | exact ⟨rfl, rfl, rfl⟩ | exact ⟨congrArg (fun x => some (Iv x)) (by omega), rfl, rfl⟩
          refine g_iload_n 121 dX10_set_120 rfl rfl ?_
          refine g_goto 128 dX10_set_121 (by decide) ?_
          refine g_putI 131 dX10_set_128 fpX10_13 (fun h => (nomatch h)) kd_40 ly_40_2 (by omega) rfl ?_
          refine g_aload_n 132 dX10_set_131 rfl rfl ?_
          refine g_iload_n 133 dX10_set_132 rfl rfl ?_
          refine g_iconst 134 dX10_set_133 (by decide) rfl ?_
          refine g_icmp_ne 141 137 dX10_set_134 (by omega) (by omega) (by decide) rfl (fun h247 => ?_) (fun h247 => ?_)
          · refine g_aload_n 142 dX10_set_141 rfl rfl ?_
            refine r_getI 145 (κ 40 3) dX10_set_142 fgX10_16 kd_40 ly_40_3 rfl (rd_j (by decide) (rd_j (by decide) (rfl))) (fun r248 => ?_)
            refine g_putI 148 dX10_set_145 fpX10_16 (fun h => (nomatch h)) kd_40 ly_40_3 (by omega) rfl ?_
            refine g_iload_n 149 dX10_set_148 rfl rfl ?_
            refine g_iret dX10_set_149 rfl ?_
            unfold M_set
            (repeat' split) <;> first | (exfalso; omega) | exact ⟨rfl, rfl, rfl⟩ | exact ⟨congrArg (fun x => some (Iv x)) (by omega), rfl, rfl⟩
          refine g_iload_n 138 dX10_set_137 rfl rfl ?_
          refine g_goto 145 dX10_set_138 (by decide) ?_
          refine g_putI 148 dX10_set_145 fpX10_16 (fun h => (nomatch h)) kd_40 ly_40_3 (by omega) rfl ?_
          refine g_iload_n 149 dX10_set_148 rfl rfl ?_
          refine g_iret dX10_set_149 rfl ?_
          unfold M_set
          (repeat' split) <;> first | (exfalso; omega) | exact ⟨rfl, rfl, rfl⟩ | exact ⟨congrArg (fun x => some (Iv x)) (by omega), rfl, rfl⟩
        refine g_aload_n 64 dX10_set_63 rfl rfl ?_
        refine g_bipush 66 dX10_set_64 (by decide) rfl ?_
        refine e_V 69 0 0 [Iv (-6)] [] dX10_set_66 cvX10_145 mwX10_refuse kd_40 (by decide) rfl (by decide) rfl rfl rfl (c_X10_refuse 6 (by decide) (by decide)) ?_
        refine g_iret dX10_set_69 rfl ?_
        unfold M_set
        (repeat' split) <;> first | (exfalso; omega) | exact ⟨rfl, rfl, rfl⟩ | exact ⟨congrArg (fun x => some (Iv x)) (by omega), rfl, rfl⟩
      refine g_sipush 45 dX10_set_42 (by decide) rfl ?_
      refine g_goto 60 dX10_set_45 (by decide) ?_
      refine g_icmp_le 70 63 dX10_set_60 (by omega) (by omega) (by decide) rfl (fun h249 => ?_) (fun h249 => ?_)
      · refine g_iload_n 71 dX10_set_70 rfl rfl ?_
        refine g_if_ne 81 74 dX10_set_71 (by omega) (by decide) rfl (fun h250 => ?_) (fun h250 => ?_)
        · refine g_iload_n 82 dX10_set_81 rfl rfl ?_
          refine g_iconst 83 dX10_set_82 (by decide) rfl ?_
          refine g_icmp_ne 93 86 dX10_set_83 (by omega) (by omega) (by decide) rfl (fun h251 => ?_) (fun h251 => ?_)
          · refine g_aload_n 94 dX10_set_93 rfl rfl ?_
            refine r_getI 97 (κ 40 3) dX10_set_94 fgX10_16 kd_40 ly_40_3 rfl (rfl) (fun r252 => ?_)
            refine g_istore_n (L' := [some (Rf 40), some (Iv w), some (Iv v), some (Iv (κ 40 3))]) 98 dX10_set_97 rfl (by decide) rfl ?_
            refine g_aload_n 99 dX10_set_98 rfl rfl ?_
            refine g_iload_n 100 dX10_set_99 rfl rfl ?_
            refine g_if_ne 107 103 dX10_set_100 (by omega) (by decide) rfl (fun h253 => ?_) (fun h253 => ?_)
            · refine g_aload_n 108 dX10_set_107 rfl rfl ?_
              refine r_getI 111 (κ 40 1) dX10_set_108 fgX10_7 kd_40 ly_40_1 rfl (rfl) (fun r254 => ?_)
              refine g_putI 114 dX10_set_111 fpX10_7 (fun h => (nomatch h)) kd_40 ly_40_1 (by omega) rfl ?_
              refine g_aload_n 115 dX10_set_114 rfl rfl ?_
              refine g_iload_n 116 dX10_set_115 rfl rfl ?_
              refine g_iconst 117 dX10_set_116 (by decide) rfl ?_
              refine g_icmp_ne 124 120 dX10_set_117 (by omega) (by omega) (by decide) rfl (fun h255 => ?_) (fun h255 => ?_)
              · refine g_aload_n 125 dX10_set_124 rfl rfl ?_
                refine r_getI 128 (κ 40 2) dX10_set_125 fgX10_13 kd_40 ly_40_2 rfl (rd_j (by decide) (rfl)) (fun r256 => ?_)
                refine g_putI 131 dX10_set_128 fpX10_13 (fun h => (nomatch h)) kd_40 ly_40_2 (by omega) rfl ?_
                refine g_aload_n 132 dX10_set_131 rfl rfl ?_
                refine g_iload_n 133 dX10_set_132 rfl rfl ?_
                refine g_iconst 134 dX10_set_133 (by decide) rfl ?_
                refine g_icmp_ne 141 137 dX10_set_134 (by omega) (by omega) (by decide) rfl (fun h257 => ?_) (fun h257 => ?_)
                · refine g_aload_n 142 dX10_set_141 rfl rfl ?_
                  refine r_getI 145 (κ 40 3) dX10_set_142 fgX10_16 kd_40 ly_40_3 rfl (rd_j (by decide) (rd_j (by decide) (rfl))) (fun r258 => ?_)
                  refine g_putI 148 dX10_set_145 fpX10_16 (fun h => (nomatch h)) kd_40 ly_40_3 (by omega) rfl ?_
                  refine g_iload_n 149 dX10_set_148 rfl rfl ?_
                  refine g_iret dX10_set_149 rfl ?_
                  unfold M_set
                  (repeat' split) <;> first | (exfalso; omega) | exact ⟨rfl, rfl, rfl⟩ | exact ⟨congrArg (fun x => some (Iv x)) (by omega), rfl, rfl⟩
                refine g_iload_n 138 dX10_set_137 rfl rfl ?_
                refine g_goto 145 dX10_set_138 (by decide) ?_
                refine g_putI 148 dX10_set_145 fpX10_16 (fun h => (nomatch h)) kd_40 ly_40_3 (by omega) rfl ?_
                refine g_iload_n 149 dX10_set_148 rfl rfl ?_
                refine g_iret dX10_set_149 rfl ?_
                unfold M_set
                (repeat' split) <;> first | (exfalso; omega) | exact ⟨rfl, rfl, rfl⟩ | exact ⟨congrArg (fun x => some (Iv x)) (by omega), rfl, rfl⟩
              refine g_iload_n 121 dX10_set_120 rfl rfl ?_
              refine g_goto 128 dX10_set_121 (by decide) ?_
              refine g_putI 131 dX10_set_128 fpX10_13 (fun h => (nomatch h)) kd_40 ly_40_2 (by omega) rfl ?_
              refine g_aload_n 132 dX10_set_131 rfl rfl ?_
              refine g_iload_n 133 dX10_set_132 rfl rfl ?_
              refine g_iconst 134 dX10_set_133 (by decide) rfl ?_
              refine g_icmp_ne 141 137 dX10_set_134 (by omega) (by omega) (by decide) rfl (fun h259 => ?_) (fun h259 => ?_)
              · refine g_aload_n 142 dX10_set_141 rfl rfl ?_
                refine r_getI 145 (κ 40 3) dX10_set_142 fgX10_16 kd_40 ly_40_3 rfl (rd_j (by decide) (rd_j (by decide) (rfl))) (fun r260 => ?_)
                refine g_putI 148 dX10_set_145 fpX10_16 (fun h => (nomatch h)) kd_40 ly_40_3 (by omega) rfl ?_
                refine g_iload_n 149 dX10_set_148 rfl rfl ?_
                refine g_iret dX10_set_149 rfl ?_
                unfold M_set
                (repeat' split) <;> first | (exfalso; omega) | exact ⟨rfl, rfl, rfl⟩ | exact ⟨congrArg (fun x => some (Iv x)) (by omega), rfl, rfl⟩
              refine g_iload_n 138 dX10_set_137 rfl rfl ?_
              refine g_goto 145 dX10_set_138 (by decide) ?_
              refine g_putI 148 dX10_set_145 fpX10_16 (fun h => (nomatch h)) kd_40 ly_40_3 (by omega) rfl ?_
              refine g_iload_n 149 dX10_set_148 rfl rfl ?_
              refine g_iret dX10_set_149 rfl ?_
              unfold M_set
              (repeat' split) <;> first | (exfalso; omega) | exact ⟨rfl, rfl, rfl⟩ | exact ⟨congrArg (fun x => some (Iv x)) (by omega), rfl, rfl⟩
            refine g_iload_n 104 dX10_set_103 rfl rfl ?_
            refine g_goto 111 dX10_set_104 (by decide) ?_
            refine g_putI 114 dX10_set_111 fpX10_7 (fun h => (nomatch h)) kd_40 ly_40_1 (by omega) rfl ?_
            refine g_aload_n 115 dX10_set_114 rfl rfl ?_
            refine g_iload_n 116 dX10_set_115 rfl rfl ?_
            refine g_iconst 117 dX10_set_116 (by decide) rfl ?_
            refine g_icmp_ne 124 120 dX10_set_117 (by omega) (by omega) (by decide) rfl (fun h261 => ?_) (fun h261 => ?_)
            · refine g_aload_n 125 dX10_set_124 rfl rfl ?_
              refine r_getI 128 (κ 40 2) dX10_set_125 fgX10_13 kd_40 ly_40_2 rfl (rd_j (by decide) (rfl)) (fun r262 => ?_)
              refine g_putI 131 dX10_set_128 fpX10_13 (fun h => (nomatch h)) kd_40 ly_40_2 (by omega) rfl ?_
              refine g_aload_n 132 dX10_set_131 rfl rfl ?_
              refine g_iload_n 133 dX10_set_132 rfl rfl ?_
              refine g_iconst 134 dX10_set_133 (by decide) rfl ?_
              refine g_icmp_ne 141 137 dX10_set_134 (by omega) (by omega) (by decide) rfl (fun h263 => ?_) (fun h263 => ?_)
              · refine g_aload_n 142 dX10_set_141 rfl rfl ?_
                refine r_getI 145 (κ 40 3) dX10_set_142 fgX10_16 kd_40 ly_40_3 rfl (rd_j (by decide) (rd_j (by decide) (rfl))) (fun r264 => ?_)
                refine g_putI 148 dX10_set_145 fpX10_16 (fun h => (nomatch h)) kd_40 ly_40_3 (by omega) rfl ?_
                refine g_iload_n 149 dX10_set_148 rfl rfl ?_
                refine g_iret dX10_set_149 rfl ?_
                unfold M_set
                (repeat' split) <;> first | (exfalso; omega) | exact ⟨rfl, rfl, rfl⟩ | exact ⟨congrArg (fun x => some (Iv x)) (by omega), rfl, rfl⟩
              refine g_iload_n 138 dX10_set_137 rfl rfl ?_
              refine g_goto 145 dX10_set_138 (by decide) ?_
              refine g_putI 148 dX10_set_145 fpX10_16 (fun h => (nomatch h)) kd_40 ly_40_3 (by omega) rfl ?_
              refine g_iload_n 149 dX10_set_148 rfl rfl ?_
              refine g_iret dX10_set_149 rfl ?_
              unfold M_set
              (repeat' split) <;> first | (exfalso; omega) | exact ⟨rfl, rfl, rfl⟩ | exact ⟨congrArg (fun x => some (Iv x)) (by omega), rfl, rfl⟩
            refine g_iload_n 121 dX10_set_120 rfl rfl ?_
            refine g_goto 128 dX10_set_121 (by decide) ?_
            refine g_putI 131 dX10_set_128 fpX10_13 (fun h => (nomatch h)) kd_40 ly_40_2 (by omega) rfl ?_
            refine g_aload_n 132 dX10_set_131 rfl rfl ?_
            refine g_iload_n 133 dX10_set_132 rfl rfl ?_
            refine g_iconst 134 dX10_set_133 (by decide) rfl ?_
            refine g_icmp_ne 141 137 dX10_set_134 (by omega) (by omega) (by decide) rfl (fun h265 => ?_) (fun h265 => ?_)
            · refine g_aload_n 142 dX10_set_141 rfl rfl ?_
              refine r_getI 145 (κ 40 3) dX10_set_142 fgX10_16 kd_40 ly_40_3 rfl (rd_j (by decide) (rd_j (by decide) (rfl))) (fun r266 => ?_)
              refine g_putI 148 dX10_set_145 fpX10_16 (fun h => (nomatch h)) kd_40 ly_40_3 (by omega) rfl ?_
              refine g_iload_n 149 dX10_set_148 rfl rfl ?_
              refine g_iret dX10_set_149 rfl ?_
              unfold M_set
              (repeat' split) <;> first | (exfalso; omega) | exact ⟨rfl, rfl, rfl⟩ | exact ⟨congrArg (fun x => some (Iv x)) (by omega), rfl, rfl⟩
            refine g_iload_n 138 dX10_set_137 rfl rfl ?_
            refine g_goto 145 dX10_set_138 (by decide) ?_
            refine g_putI 148 dX10_set_145 fpX10_16 (fun h => (nomatch h)) kd_40 ly_40_3 (by omega) rfl ?_
            refine g_iload_n 149 dX10_set_148 rfl rfl ?_
            refine g_iret dX10_set_149 rfl ?_
            unfold M_set
            (repeat' split) <;> first | (exfalso; omega) | exact ⟨rfl, rfl, rfl⟩ | exact ⟨congrArg (fun x => some (Iv x)) (by omega), rfl, rfl⟩
          refine g_aload_n 87 dX10_set_86 rfl rfl ?_
          refine r_getI 90 (κ 40 2) dX10_set_87 fgX10_13 kd_40 ly_40_2 rfl (rfl) (fun r267 => ?_)
          refine g_goto 97 dX10_set_90 (by decide) ?_
          refine g_istore_n (L' := [some (Rf 40), some (Iv w), some (Iv v), some (Iv (κ 40 2))]) 98 dX10_set_97 rfl (by decide) rfl ?_
          refine g_aload_n 99 dX10_set_98 rfl rfl ?_
          refine g_iload_n 100 dX10_set_99 rfl rfl ?_
          refine g_if_ne 107 103 dX10_set_100 (by omega) (by decide) rfl (fun h268 => ?_) (fun h268 => ?_)
          · refine g_aload_n 108 dX10_set_107 rfl rfl ?_
            refine r_getI 111 (κ 40 1) dX10_set_108 fgX10_7 kd_40 ly_40_1 rfl (rfl) (fun r269 => ?_)
            refine g_putI 114 dX10_set_111 fpX10_7 (fun h => (nomatch h)) kd_40 ly_40_1 (by omega) rfl ?_
            refine g_aload_n 115 dX10_set_114 rfl rfl ?_
            refine g_iload_n 116 dX10_set_115 rfl rfl ?_
            refine g_iconst 117 dX10_set_116 (by decide) rfl ?_
            refine g_icmp_ne 124 120 dX10_set_117 (by omega) (by omega) (by decide) rfl (fun h270 => ?_) (fun h270 => ?_)
            · refine g_aload_n 125 dX10_set_124 rfl rfl ?_
              refine r_getI 128 (κ 40 2) dX10_set_125 fgX10_13 kd_40 ly_40_2 rfl (rd_j (by decide) (rfl)) (fun r271 => ?_)
              refine g_putI 131 dX10_set_128 fpX10_13 (fun h => (nomatch h)) kd_40 ly_40_2 (by omega) rfl ?_
              refine g_aload_n 132 dX10_set_131 rfl rfl ?_
              refine g_iload_n 133 dX10_set_132 rfl rfl ?_
              refine g_iconst 134 dX10_set_133 (by decide) rfl ?_
              refine g_icmp_ne 141 137 dX10_set_134 (by omega) (by omega) (by decide) rfl (fun h272 => ?_) (fun h272 => ?_)
              · refine g_aload_n 142 dX10_set_141 rfl rfl ?_
                refine r_getI 145 (κ 40 3) dX10_set_142 fgX10_16 kd_40 ly_40_3 rfl (rd_j (by decide) (rd_j (by decide) (rfl))) (fun r273 => ?_)
                refine g_putI 148 dX10_set_145 fpX10_16 (fun h => (nomatch h)) kd_40 ly_40_3 (by omega) rfl ?_
                refine g_iload_n 149 dX10_set_148 rfl rfl ?_
                refine g_iret dX10_set_149 rfl ?_
                unfold M_set
                (repeat' split) <;> first | (exfalso; omega) | exact ⟨rfl, rfl, rfl⟩ | exact ⟨congrArg (fun x => some (Iv x)) (by omega), rfl, rfl⟩
              refine g_iload_n 138 dX10_set_137 rfl rfl ?_
              refine g_goto 145 dX10_set_138 (by decide) ?_
              refine g_putI 148 dX10_set_145 fpX10_16 (fun h => (nomatch h)) kd_40 ly_40_3 (by omega) rfl ?_
              refine g_iload_n 149 dX10_set_148 rfl rfl ?_
              refine g_iret dX10_set_149 rfl ?_
              unfold M_set
              (repeat' split) <;> first | (exfalso; omega) | exact ⟨rfl, rfl, rfl⟩ | exact ⟨congrArg (fun x => some (Iv x)) (by omega), rfl, rfl⟩
            refine g_iload_n 121 dX10_set_120 rfl rfl ?_
            refine g_goto 128 dX10_set_121 (by decide) ?_
            refine g_putI 131 dX10_set_128 fpX10_13 (fun h => (nomatch h)) kd_40 ly_40_2 (by omega) rfl ?_
            refine g_aload_n 132 dX10_set_131 rfl rfl ?_
            refine g_iload_n 133 dX10_set_132 rfl rfl ?_
            refine g_iconst 134 dX10_set_133 (by decide) rfl ?_
            refine g_icmp_ne 141 137 dX10_set_134 (by omega) (by omega) (by decide) rfl (fun h274 => ?_) (fun h274 => ?_)
            · refine g_aload_n 142 dX10_set_141 rfl rfl ?_
              refine r_getI 145 (κ 40 3) dX10_set_142 fgX10_16 kd_40 ly_40_3 rfl (rd_j (by decide) (rd_j (by decide) (rfl))) (fun r275 => ?_)
              refine g_putI 148 dX10_set_145 fpX10_16 (fun h => (nomatch h)) kd_40 ly_40_3 (by omega) rfl ?_
              refine g_iload_n 149 dX10_set_148 rfl rfl ?_
              refine g_iret dX10_set_149 rfl ?_
              unfold M_set
              (repeat' split) <;> first | (exfalso; omega) | exact ⟨rfl, rfl, rfl⟩ | exact ⟨congrArg (fun x => some (Iv x)) (by omega), rfl, rfl⟩
            refine g_iload_n 138 dX10_set_137 rfl rfl ?_
            refine g_goto 145 dX10_set_138 (by decide) ?_
            refine g_putI 148 dX10_set_145 fpX10_16 (fun h => (nomatch h)) kd_40 ly_40_3 (by omega) rfl ?_
            refine g_iload_n 149 dX10_set_148 rfl rfl ?_
            refine g_iret dX10_set_149 rfl ?_
            unfold M_set
            (repeat' split) <;> first | (exfalso; omega) | exact ⟨rfl, rfl, rfl⟩ | exact ⟨congrArg (fun x => some (Iv x)) (by omega), rfl, rfl⟩
          refine g_iload_n 104 dX10_set_103 rfl rfl ?_
          refine g_goto 111 dX10_set_104 (by decide) ?_
          refine g_putI 114 dX10_set_111 fpX10_7 (fun h => (nomatch h)) kd_40 ly_40_1 (by omega) rfl ?_
          refine g_aload_n 115 dX10_set_114 rfl rfl ?_
          refine g_iload_n 116 dX10_set_115 rfl rfl ?_
          refine g_iconst 117 dX10_set_116 (by decide) rfl ?_
          refine g_icmp_ne 124 120 dX10_set_117 (by omega) (by omega) (by decide) rfl (fun h276 => ?_) (fun h276 => ?_)
          · refine g_aload_n 125 dX10_set_124 rfl rfl ?_
            refine r_getI 128 (κ 40 2) dX10_set_125 fgX10_13 kd_40 ly_40_2 rfl (rd_j (by decide) (rfl)) (fun r277 => ?_)
            refine g_putI 131 dX10_set_128 fpX10_13 (fun h => (nomatch h)) kd_40 ly_40_2 (by omega) rfl ?_
            refine g_aload_n 132 dX10_set_131 rfl rfl ?_
            refine g_iload_n 133 dX10_set_132 rfl rfl ?_
            refine g_iconst 134 dX10_set_133 (by decide) rfl ?_
            refine g_icmp_ne 141 137 dX10_set_134 (by omega) (by omega) (by decide) rfl (fun h278 => ?_) (fun h278 => ?_)
            · refine g_aload_n 142 dX10_set_141 rfl rfl ?_
              refine r_getI 145 (κ 40 3) dX10_set_142 fgX10_16 kd_40 ly_40_3 rfl (rd_j (by decide) (rd_j (by decide) (rfl))) (fun r279 => ?_)
              refine g_putI 148 dX10_set_145 fpX10_16 (fun h => (nomatch h)) kd_40 ly_40_3 (by omega) rfl ?_
              refine g_iload_n 149 dX10_set_148 rfl rfl ?_
              refine g_iret dX10_set_149 rfl ?_
              unfold M_set
              (repeat' split) <;> first | (exfalso; omega) | exact ⟨rfl, rfl, rfl⟩ | exact ⟨congrArg (fun x => some (Iv x)) (by omega), rfl, rfl⟩
            refine g_iload_n 138 dX10_set_137 rfl rfl ?_
            refine g_goto 145 dX10_set_138 (by decide) ?_
            refine g_putI 148 dX10_set_145 fpX10_16 (fun h => (nomatch h)) kd_40 ly_40_3 (by omega) rfl ?_
            refine g_iload_n 149 dX10_set_148 rfl rfl ?_
            refine g_iret dX10_set_149 rfl ?_
            unfold M_set
            (repeat' split) <;> first | (exfalso; omega) | exact ⟨rfl, rfl, rfl⟩ | exact ⟨congrArg (fun x => some (Iv x)) (by omega), rfl, rfl⟩
          refine g_iload_n 121 dX10_set_120 rfl rfl ?_
          refine g_goto 128 dX10_set_121 (by decide) ?_
          refine g_putI 131 dX10_set_128 fpX10_13 (fun h => (nomatch h)) kd_40 ly_40_2 (by omega) rfl ?_
          refine g_aload_n 132 dX10_set_131 rfl rfl ?_
          refine g_iload_n 133 dX10_set_132 rfl rfl ?_
          refine g_iconst 134 dX10_set_133 (by decide) rfl ?_
          refine g_icmp_ne 141 137 dX10_set_134 (by omega) (by omega) (by decide) rfl (fun h280 => ?_) (fun h280 => ?_)
          · refine g_aload_n 142 dX10_set_141 rfl rfl ?_
            refine r_getI 145 (κ 40 3) dX10_set_142 fgX10_16 kd_40 ly_40_3 rfl (rd_j (by decide) (rd_j (by decide) (rfl))) (fun r281 => ?_)
            refine g_putI 148 dX10_set_145 fpX10_16 (fun h => (nomatch h)) kd_40 ly_40_3 (by omega) rfl ?_
            refine g_iload_n 149 dX10_set_148 rfl rfl ?_
            refine g_iret dX10_set_149 rfl ?_
            unfold M_set
            (repeat' split) <;> first | (exfalso; omega) | exact ⟨rfl, rfl, rfl⟩ | exact ⟨congrArg (fun x => some (Iv x)) (by omega), rfl, rfl⟩
          refine g_iload_n 138 dX10_set_137 rfl rfl ?_
          refine g_goto 145 dX10_set_138 (by decide) ?_
          refine g_putI 148 dX10_set_145 fpX10_16 (fun h => (nomatch h)) kd_40 ly_40_3 (by omega) rfl ?_
          refine g_iload_n 149 dX10_set_148 rfl rfl ?_
          refine g_iret dX10_set_149 rfl ?_
          unfold M_set
          (repeat' split) <;> first | (exfalso; omega) | exact ⟨rfl, rfl, rfl⟩ | exact ⟨congrArg (fun x => some (Iv x)) (by omega), rfl, rfl⟩
        refine g_aload_n 75 dX10_set_74 rfl rfl ?_
        refine r_getI 78 (κ 40 1) dX10_set_75 fgX10_7 kd_40 ly_40_1 rfl (rfl) (fun r282 => ?_)
        refine g_goto 97 dX10_set_78 (by decide) ?_
        refine g_istore_n (L' := [some (Rf 40), some (Iv w), some (Iv v), some (Iv (κ 40 1))]) 98 dX10_set_97 rfl (by decide) rfl ?_
        refine g_aload_n 99 dX10_set_98 rfl rfl ?_
        refine g_iload_n 100 dX10_set_99 rfl rfl ?_
        refine g_if_ne 107 103 dX10_set_100 (by omega) (by decide) rfl (fun h283 => ?_) (fun h283 => ?_)
        · refine g_aload_n 108 dX10_set_107 rfl rfl ?_
          refine r_getI 111 (κ 40 1) dX10_set_108 fgX10_7 kd_40 ly_40_1 rfl (rfl) (fun r284 => ?_)
          refine g_putI 114 dX10_set_111 fpX10_7 (fun h => (nomatch h)) kd_40 ly_40_1 (by omega) rfl ?_
          refine g_aload_n 115 dX10_set_114 rfl rfl ?_
          refine g_iload_n 116 dX10_set_115 rfl rfl ?_
          refine g_iconst 117 dX10_set_116 (by decide) rfl ?_
          refine g_icmp_ne 124 120 dX10_set_117 (by omega) (by omega) (by decide) rfl (fun h285 => ?_) (fun h285 => ?_)
          · refine g_aload_n 125 dX10_set_124 rfl rfl ?_
            refine r_getI 128 (κ 40 2) dX10_set_125 fgX10_13 kd_40 ly_40_2 rfl (rd_j (by decide) (rfl)) (fun r286 => ?_)
            refine g_putI 131 dX10_set_128 fpX10_13 (fun h => (nomatch h)) kd_40 ly_40_2 (by omega) rfl ?_
            refine g_aload_n 132 dX10_set_131 rfl rfl ?_
            refine g_iload_n 133 dX10_set_132 rfl rfl ?_
            refine g_iconst 134 dX10_set_133 (by decide) rfl ?_
            refine g_icmp_ne 141 137 dX10_set_134 (by omega) (by omega) (by decide) rfl (fun h287 => ?_) (fun h287 => ?_)
            · refine g_aload_n 142 dX10_set_141 rfl rfl ?_
              refine r_getI 145 (κ 40 3) dX10_set_142 fgX10_16 kd_40 ly_40_3 rfl (rd_j (by decide) (rd_j (by decide) (rfl))) (fun r288 => ?_)
              refine g_putI 148 dX10_set_145 fpX10_16 (fun h => (nomatch h)) kd_40 ly_40_3 (by omega) rfl ?_
              refine g_iload_n 149 dX10_set_148 rfl rfl ?_
              refine g_iret dX10_set_149 rfl ?_
              unfold M_set
              (repeat' split) <;> first | (exfalso; omega) | exact ⟨rfl, rfl, rfl⟩ | exact ⟨congrArg (fun x => some (Iv x)) (by omega), rfl, rfl⟩
            refine g_iload_n 138 dX10_set_137 rfl rfl ?_
            refine g_goto 145 dX10_set_138 (by decide) ?_
            refine g_putI 148 dX10_set_145 fpX10_16 (fun h => (nomatch h)) kd_40 ly_40_3 (by omega) rfl ?_
            refine g_iload_n 149 dX10_set_148 rfl rfl ?_
            refine g_iret dX10_set_149 rfl ?_
            unfold M_set
            (repeat' split) <;> first | (exfalso; omega) | exact ⟨rfl, rfl, rfl⟩ | exact ⟨congrArg (fun x => some (Iv x)) (by omega), rfl, rfl⟩
          refine g_iload_n 121 dX10_set_120 rfl rfl ?_
          refine g_goto 128 dX10_set_121 (by decide) ?_
          refine g_putI 131 dX10_set_128 fpX10_13 (fun h => (nomatch h)) kd_40 ly_40_2 (by omega) rfl ?_
          refine g_aload_n 132 dX10_set_131 rfl rfl ?_
          refine g_iload_n 133 dX10_set_132 rfl rfl ?_
          refine g_iconst 134 dX10_set_133 (by decide) rfl ?_
          refine g_icmp_ne 141 137 dX10_set_134 (by omega) (by omega) (by decide) rfl (fun h289 => ?_) (fun h289 => ?_)
          · refine g_aload_n 142 dX10_set_141 rfl rfl ?_
            refine r_getI 145 (κ 40 3) dX10_set_142 fgX10_16 kd_40 ly_40_3 rfl (rd_j (by decide) (rd_j (by decide) (rfl))) (fun r290 => ?_)
            refine g_putI 148 dX10_set_145 fpX10_16 (fun h => (nomatch h)) kd_40 ly_40_3 (by omega) rfl ?_
            refine g_iload_n 149 dX10_set_148 rfl rfl ?_
            refine g_iret dX10_set_149 rfl ?_
            unfold M_set
            (repeat' split) <;> first | (exfalso; omega) | exact ⟨rfl, rfl, rfl⟩ | exact ⟨congrArg (fun x => some (Iv x)) (by omega), rfl, rfl⟩
          refine g_iload_n 138 dX10_set_137 rfl rfl ?_
          refine g_goto 145 dX10_set_138 (by decide) ?_
          refine g_putI 148 dX10_set_145 fpX10_16 (fun h => (nomatch h)) kd_40 ly_40_3 (by omega) rfl ?_
          refine g_iload_n 149 dX10_set_148 rfl rfl ?_
          refine g_iret dX10_set_149 rfl ?_
          unfold M_set
          (repeat' split) <;> first | (exfalso; omega) | exact ⟨rfl, rfl, rfl⟩ | exact ⟨congrArg (fun x => some (Iv x)) (by omega), rfl, rfl⟩
        refine g_iload_n 104 dX10_set_103 rfl rfl ?_
        refine g_goto 111 dX10_set_104 (by decide) ?_
        refine g_putI 114 dX10_set_111 fpX10_7 (fun h => (nomatch h)) kd_40 ly_40_1 (by omega) rfl ?_
        refine g_aload_n 115 dX10_set_114 rfl rfl ?_
        refine g_iload_n 116 dX10_set_115 rfl rfl ?_
        refine g_iconst 117 dX10_set_116 (by decide) rfl ?_
        refine g_icmp_ne 124 120 dX10_set_117 (by omega) (by omega) (by decide) rfl (fun h291 => ?_) (fun h291 => ?_)
        · refine g_aload_n 125 dX10_set_124 rfl rfl ?_
          refine r_getI 128 (κ 40 2) dX10_set_125 fgX10_13 kd_40 ly_40_2 rfl (rd_j (by decide) (rfl)) (fun r292 => ?_)
          refine g_putI 131 dX10_set_128 fpX10_13 (fun h => (nomatch h)) kd_40 ly_40_2 (by omega) rfl ?_
          refine g_aload_n 132 dX10_set_131 rfl rfl ?_
          refine g_iload_n 133 dX10_set_132 rfl rfl ?_
          refine g_iconst 134 dX10_set_133 (by decide) rfl ?_
          refine g_icmp_ne 141 137 dX10_set_134 (by omega) (by omega) (by decide) rfl (fun h293 => ?_) (fun h293 => ?_)
          · refine g_aload_n 142 dX10_set_141 rfl rfl ?_
            refine r_getI 145 (κ 40 3) dX10_set_142 fgX10_16 kd_40 ly_40_3 rfl (rd_j (by decide) (rd_j (by decide) (rfl))) (fun r294 => ?_)
            refine g_putI 148 dX10_set_145 fpX10_16 (fun h => (nomatch h)) kd_40 ly_40_3 (by omega) rfl ?_
            refine g_iload_n 149 dX10_set_148 rfl rfl ?_
            refine g_iret dX10_set_149 rfl ?_
            unfold M_set
            (repeat' split) <;> first | (exfalso; omega) | exact ⟨rfl, rfl, rfl⟩ | exact ⟨congrArg (fun x => some (Iv x)) (by omega), rfl, rfl⟩
          refine g_iload_n 138 dX10_set_137 rfl rfl ?_
          refine g_goto 145 dX10_set_138 (by decide) ?_
          refine g_putI 148 dX10_set_145 fpX10_16 (fun h => (nomatch h)) kd_40 ly_40_3 (by omega) rfl ?_
          refine g_iload_n 149 dX10_set_148 rfl rfl ?_
          refine g_iret dX10_set_149 rfl ?_
          unfold M_set
          (repeat' split) <;> first | (exfalso; omega) | exact ⟨rfl, rfl, rfl⟩ | exact ⟨congrArg (fun x => some (Iv x)) (by omega), rfl, rfl⟩
        refine g_iload_n 121 dX10_set_120 rfl rfl ?_
        refine g_goto 128 dX10_set_121 (by decide) ?_
        refine g_putI 131 dX10_set_128 fpX10_13 (fun h => (nomatch h)) kd_40 ly_40_2 (by omega) rfl ?_
        refine g_aload_n 132 dX10_set_131 rfl rfl ?_
        refine g_iload_n 133 dX10_set_132 rfl rfl ?_
        refine g_iconst 134 dX10_set_133 (by decide) rfl ?_
        refine g_icmp_ne 141 137 dX10_set_134 (by omega) (by omega) (by decide) rfl (fun h295 => ?_) (fun h295 => ?_)
        · refine g_aload_n 142 dX10_set_141 rfl rfl ?_
          refine r_getI 145 (κ 40 3) dX10_set_142 fgX10_16 kd_40 ly_40_3 rfl (rd_j (by decide) (rd_j (by decide) (rfl))) (fun r296 => ?_)
          refine g_putI 148 dX10_set_145 fpX10_16 (fun h => (nomatch h)) kd_40 ly_40_3 (by omega) rfl ?_
          refine g_iload_n 149 dX10_set_148 rfl rfl ?_
          refine g_iret dX10_set_149 rfl ?_
          unfold M_set
          (repeat' split) <;> first | (exfalso; omega) | exact ⟨rfl, rfl, rfl⟩ | exact ⟨congrArg (fun x => some (Iv x)) (by omega), rfl, rfl⟩
        refine g_iload_n 138 dX10_set_137 rfl rfl ?_
        refine g_goto 145 dX10_set_138 (by decide) ?_
        refine g_putI 148 dX10_set_145 fpX10_16 (fun h => (nomatch h)) kd_40 ly_40_3 (by omega) rfl ?_
        refine g_iload_n 149 dX10_set_148 rfl rfl ?_
        refine g_iret dX10_set_149 rfl ?_
        unfold M_set
        (repeat' split) <;> first | (exfalso; omega) | exact ⟨rfl, rfl, rfl⟩ | exact ⟨congrArg (fun x => some (Iv x)) (by omega), rfl, rfl⟩
      refine g_aload_n 64 dX10_set_63 rfl rfl ?_
      refine g_bipush 66 dX10_set_64 (by decide) rfl ?_
      refine e_V 69 0 0 [Iv (-6)] [] dX10_set_66 cvX10_145 mwX10_refuse kd_40 (by decide) rfl (by decide) rfl rfl rfl (c_X10_refuse 6 (by decide) (by decide)) ?_
      refine g_iret dX10_set_69 rfl ?_
      unfold M_set
      (repeat' split) <;> first | (exfalso; omega) | exact ⟨rfl, rfl, rfl⟩ | exact ⟨congrArg (fun x => some (Iv x)) (by omega), rfl, rfl⟩
    refine g_aload_n 31 dX10_set_30 rfl rfl ?_
    refine g_bipush 33 dX10_set_31 (by decide) rfl ?_
    refine e_V 36 0 0 [Iv (-4)] [] dX10_set_33 cvX10_145 mwX10_refuse kd_40 (by decide) rfl (by decide) rfl rfl rfl (c_X10_refuse 4 (by decide) (by decide)) ?_
    refine g_iret dX10_set_36 rfl ?_
    unfold M_set
    (repeat' split) <;> first | (exfalso; omega) | exact ⟨rfl, rfl, rfl⟩ | exact ⟨congrArg (fun x => some (Iv x)) (by omega), rfl, rfl⟩
  refine g_if_ne 16 9 dX10_set_6 (by omega) (by decide) rfl (fun z => absurd z (by decide)) (fun _ => ?_)
  refine g_aload_n 10 dX10_set_9 rfl rfl ?_
  refine g_bipush 12 dX10_set_10 (by decide) rfl ?_
  refine e_V 15 0 0 [Iv (-2)] [] dX10_set_12 cvX10_145 mwX10_refuse kd_40 (by decide) rfl (by decide) rfl rfl rfl (c_X10_refuse 2 (by decide) (by decide)) ?_
  refine g_iret dX10_set_15 rfl ?_
  unfold M_set
  (repeat' split) <;> first | (exfalso; omega) | exact ⟨rfl, rfl, rfl⟩ | exact ⟨congrArg (fun x => some (Iv x)) (by omega), rfl, rfl⟩
set_option maxHeartbeats 4000000 in
set_option maxRecDepth 20000 in
theorem c_X10_coal {B : Bs} {n0 : Nat} {V : Vs} {κ : Ks} {n : Int} (r_n : inR n)  (hI : MI κ) : Ct (XR B n0) mX10_coal 2 0 0 [Rf 40, Iv n] V κ (PM (M_coal κ n) V) := by
  obtain ⟨⟨i0, i1, i2, i3, i4, i5, i6, i7, i8, i9⟩, iS, iH, iR, iT, iC, iG, iL, iZ⟩ := id hI
  refine Ct.of (L := [some (Rf 40), some (Iv n)]) 0 (by decide +kernel) rfl rfl ?_
  refine g_iload_n 1 dX10_coal_0 rfl rfl ?_
  refine g_if_ge 11 4 dX10_coal_1 (by omega) (by decide) rfl (fun h1 => ?_) (fun h1 => ?_)
  · refine g_iload_n 12 dX10_coal_11 rfl rfl ?_
    refine g_ldc (n := 100000) 14 dX10_coal_12 kcX10_152 (by decide) rfl ?_
    refine g_aload_n 15 dX10_coal_14 rfl rfl ?_
    refine r_getI 18 (κ 40 4) dX10_coal_15 fgX10_153 kd_40 ly_40_4 rfl (rfl) (fun r2 => ?_)
    refine g_isub 19 dX10_coal_18 rfl ?_
    refine g_icmp_le 29 22 dX10_coal_19 (by omega) (by omega) (by decide) rfl (fun h3 => ?_) (fun h3 => ?_)
    · refine g_aload_n 30 dX10_coal_29 rfl rfl ?_
      refine g_dup 31 dX10_coal_30 rfl ?_
      refine r_getI 34 (κ 40 4) dX10_coal_31 fgX10_153 kd_40 ly_40_4 rfl (rfl) (fun r4 => ?_)
      refine g_iload_n 35 dX10_coal_34 rfl rfl ?_
      refine g_iadd 36 dX10_coal_35 rfl ?_
      refine g_putI 39 dX10_coal_36 fpX10_153 (fun h => (nomatch h)) kd_40 ly_40_4 (by omega) rfl ?_
      refine g_aload_n 40 dX10_coal_39 rfl rfl ?_
      refine r_getI 43 (((κ 40 4) + n)) dX10_coal_40 fgX10_153 kd_40 ly_40_4 rfl (rd_s rfl rfl rfl) (fun r5 => ?_)
      refine g_iret dX10_coal_43 rfl ?_
      unfold M_coal
      (repeat' split) <;> first | (exfalso; omega) | exact ⟨rfl, rfl, rfl⟩ | exact ⟨congrArg (fun x => some (Iv x)) (by omega), rfl, rfl⟩
    refine g_aload_n 23 dX10_coal_22 rfl rfl ?_
    refine g_bipush 25 dX10_coal_23 (by decide) rfl ?_
    refine e_V 28 0 0 [Iv (-6)] [] dX10_coal_25 cvX10_145 mwX10_refuse kd_40 (by decide) rfl (by decide) rfl rfl rfl (c_X10_refuse 6 (by decide) (by decide)) ?_
    refine g_iret dX10_coal_28 rfl ?_
    unfold M_coal
    (repeat' split) <;> first | (exfalso; omega) | exact ⟨rfl, rfl, rfl⟩ | exact ⟨congrArg (fun x => some (Iv x)) (by omega), rfl, rfl⟩
  refine g_aload_n 5 dX10_coal_4 rfl rfl ?_
  refine g_bipush 7 dX10_coal_5 (by decide) rfl ?_
  refine e_V 10 0 0 [Iv (-4)] [] dX10_coal_7 cvX10_145 mwX10_refuse kd_40 (by decide) rfl (by decide) rfl rfl rfl (c_X10_refuse 4 (by decide) (by decide)) ?_
  refine g_iret dX10_coal_10 rfl ?_
  unfold M_coal
  (repeat' split) <;> first | (exfalso; omega) | exact ⟨rfl, rfl, rfl⟩ | exact ⟨congrArg (fun x => some (Iv x)) (by omega), rfl, rfl⟩
set_option maxHeartbeats 4000000 in
set_option maxRecDepth 20000 in
theorem c_X10_house {B : Bs} {n0 : Nat} {V : Vs} {κ : Ks} {s c f u b : Int} (r_s : inR s) (r_c : inR c) (r_f : inR f) (r_u : inR u) (z_b : b = 0 ∨ b = 1) (hI : MI κ) : Ct (XR B n0) mX10_house 3 0 0 [Rf 40, Iv s, Iv c, Iv f, Iv u, Iv b] V κ (PM (M_house κ s c f u b) V) := by
  obtain ⟨⟨i0, i1, i2, i3, i4, i5, i6, i7, i8, i9⟩, iS, iH, iR, iT, iC, iG, iL, iZ⟩ := id hI
  refine Ct.of (L := [some (Rf 40), some (Iv s), some (Iv c), some (Iv f), some (Iv u), some (Iv b)]) 0 (by decide +kernel) rfl rfl ?_
  refine g_aload_n 1 dX10_house_0 rfl rfl ?_
  refine g_iload_n 2 dX10_house_1 rfl rfl ?_
  refine o_V 5 0 0 [Iv s] [] dX10_house_2 cvX10_156 mwX10_isStreet kd_40 (by decide) rfl (by decide) rfl rfl rfl (c_X10_isStreet (by omega) hI) (fun h1 => ?_) (fun h1 => ?_)
  · refine g_if_ne 14 8 dX10_house_5 (by omega) (by decide) rfl (fun _ => ?_) (fun z => absurd z (by decide))
    refine g_iload_n 15 dX10_house_14 rfl rfl ?_
    refine g_bipush 17 dX10_house_15 (by decide) rfl ?_
    refine g_icmp_lt 29 20 dX10_house_17 (by omega) (by omega) (by decide) rfl (fun h2 => ?_) (fun h2 => ?_)
    · refine g_aload_n 30 dX10_house_29 rfl rfl ?_
      refine g_bipush 32 dX10_house_30 (by decide) rfl ?_
      refine e_V 35 0 0 [Iv (-4)] [] dX10_house_32 cvX10_145 mwX10_refuse kd_40 (by decide) rfl (by decide) rfl rfl rfl (c_X10_refuse 4 (by decide) (by decide)) ?_
      refine g_iret dX10_house_35 rfl ?_
      unfold M_house
      (repeat' split) <;> first | (exfalso; omega) | exact ⟨rfl, rfl, rfl⟩ | exact ⟨congrArg (fun x => some (Iv x)) (by omega), rfl, rfl⟩
    refine g_iload_n 21 dX10_house_20 rfl rfl ?_
    refine g_if_lt 29 24 dX10_house_21 (by omega) (by decide) rfl (fun h3 => ?_) (fun h3 => ?_)
    · refine g_aload_n 30 dX10_house_29 rfl rfl ?_
      refine g_bipush 32 dX10_house_30 (by decide) rfl ?_
      refine e_V 35 0 0 [Iv (-4)] [] dX10_house_32 cvX10_145 mwX10_refuse kd_40 (by decide) rfl (by decide) rfl rfl rfl (c_X10_refuse 4 (by decide) (by decide)) ?_
      refine g_iret dX10_house_35 rfl ?_
      unfold M_house
      (repeat' split) <;> first | (exfalso; omega) | exact ⟨rfl, rfl, rfl⟩ | exact ⟨congrArg (fun x => some (Iv x)) (by omega), rfl, rfl⟩
    refine g_iload 26 dX10_house_24 rfl rfl ?_
    refine g_if_ge 36 29 dX10_house_26 (by omega) (by decide) rfl (fun h4 => ?_) (fun h4 => ?_)
    · refine g_iload_n 37 dX10_house_36 rfl rfl ?_
      refine g_sipush 40 dX10_house_37 (by decide) rfl ?_
      refine g_icmp_gt 65 43 dX10_house_40 (by omega) (by omega) (by decide) rfl (fun h5 => ?_) (fun h5 => ?_)
      · refine g_aload_n 66 dX10_house_65 rfl rfl ?_
        refine g_bipush 68 dX10_house_66 (by decide) rfl ?_
        refine e_V 71 0 0 [Iv (-6)] [] dX10_house_68 cvX10_145 mwX10_refuse kd_40 (by decide) rfl (by decide) rfl rfl rfl (c_X10_refuse 6 (by decide) (by decide)) ?_
        refine g_iret dX10_house_71 rfl ?_
        unfold M_house
        (repeat' split) <;> first | (exfalso; omega) | exact ⟨rfl, rfl, rfl⟩ | exact ⟨congrArg (fun x => some (Iv x)) (by omega), rfl, rfl⟩
      refine g_iload_n 44 dX10_house_43 rfl rfl ?_
      refine g_bipush 46 dX10_house_44 (by decide) rfl ?_
      refine g_icmp_gt 65 49 dX10_house_46 (by omega) (by omega) (by decide) rfl (fun h6 => ?_) (fun h6 => ?_)
      · refine g_aload_n 66 dX10_house_65 rfl rfl ?_
        refine g_bipush 68 dX10_house_66 (by decide) rfl ?_
        refine e_V 71 0 0 [Iv (-6)] [] dX10_house_68 cvX10_145 mwX10_refuse kd_40 (by decide) rfl (by decide) rfl rfl rfl (c_X10_refuse 6 (by decide) (by decide)) ?_
        refine g_iret dX10_house_71 rfl ?_
        unfold M_house
        (repeat' split) <;> first | (exfalso; omega) | exact ⟨rfl, rfl, rfl⟩ | exact ⟨congrArg (fun x => some (Iv x)) (by omega), rfl, rfl⟩
      refine g_iload 51 dX10_house_49 rfl rfl ?_
      refine g_bipush 53 dX10_house_51 (by decide) rfl ?_
      refine g_icmp_gt 65 56 dX10_house_53 (by omega) (by omega) (by decide) rfl (fun h7 => ?_) (fun h7 => ?_)
      · refine g_aload_n 66 dX10_house_65 rfl rfl ?_
        refine g_bipush 68 dX10_house_66 (by decide) rfl ?_
        refine e_V 71 0 0 [Iv (-6)] [] dX10_house_68 cvX10_145 mwX10_refuse kd_40 (by decide) rfl (by decide) rfl rfl rfl (c_X10_refuse 6 (by decide) (by decide)) ?_
        refine g_iret dX10_house_71 rfl ?_
        unfold M_house
        (repeat' split) <;> first | (exfalso; omega) | exact ⟨rfl, rfl, rfl⟩ | exact ⟨congrArg (fun x => some (Iv x)) (by omega), rfl, rfl⟩
      refine g_aload_n 57 dX10_house_56 rfl rfl ?_
      refine r_getI 60 (κ 40 20) dX10_house_57 fgX10_142 kd_40 ly_40_20 rfl (rfl) (fun r8 => ?_)
      refine g_bipush 62 dX10_house_60 (by decide) rfl ?_
      refine g_icmp_ne 72 65 dX10_house_62 (by omega) (by omega) (by decide) rfl (fun h9 => ?_) (fun h9 => ?_)
      · refine g_aload_n 73 dX10_house_72 rfl rfl ?_
        refine g_getC 76 dX10_house_73 fgX10_45 kd_40 ly_40_21 rfl ?_
        refine g_aload_n 77 dX10_house_76 rfl rfl ?_
        refine r_getI 80 (κ 40 20) dX10_house_77 fgX10_142 kd_40 ly_40_20 rfl (rfl) (fun r10 => ?_)
        refine g_iload_n 81 dX10_house_80 rfl rfl ?_
        refine r_iast 82 ((κ 40 20).toNat) dX10_house_81 kd_62 (by decide) ly_62 (by omega) (rfl) (by omega) rfl ?_
        refine g_aload_n 83 dX10_house_82 rfl rfl ?_
        refine g_getC 86 dX10_house_83 fgX10_48 kd_40 ly_40_22 rfl ?_
        refine g_aload_n 87 dX10_house_86 rfl rfl ?_
        refine r_getI 90 (κ 40 20) dX10_house_87 fgX10_142 kd_40 ly_40_20 rfl (rd_t (by decide) (rfl)) (fun r11 => ?_)
        refine g_iload_n 91 dX10_house_90 rfl rfl ?_
        refine r_iast 92 ((κ 40 20).toNat) dX10_house_91 kd_63 (by decide) ly_63 (by omega) (rfl) (by omega) rfl ?_
        refine g_aload_n 93 dX10_house_92 rfl rfl ?_
        refine g_getC 96 dX10_house_93 fgX10_51 kd_40 ly_40_23 rfl ?_
        refine g_aload_n 97 dX10_house_96 rfl rfl ?_
        refine r_getI 100 (κ 40 20) dX10_house_97 fgX10_142 kd_40 ly_40_20 rfl (rd_t (by decide) (rd_t (by decide) (rfl))) (fun r12 => ?_)
        refine g_iload_n 101 dX10_house_100 rfl rfl ?_
        refine r_iast 102 ((κ 40 20).toNat) dX10_house_101 kd_64 (by decide) ly_64 (by omega) (rfl) (by omega) rfl ?_
        refine g_aload_n 103 dX10_house_102 rfl rfl ?_
        refine g_getC 106 dX10_house_103 fgX10_54 kd_40 ly_40_24 rfl ?_
        refine g_aload_n 107 dX10_house_106 rfl rfl ?_
        refine r_getI 110 (κ 40 20) dX10_house_107 fgX10_142 kd_40 ly_40_20 rfl (rd_t (by decide) (rd_t (by decide) (rd_t (by decide) (rfl)))) (fun r13 => ?_)
        refine g_iload 112 dX10_house_110 rfl rfl ?_
        refine r_iast 113 ((κ 40 20).toNat) dX10_house_112 kd_65 (by decide) ly_65 (by omega) (rfl) (by omega) rfl ?_
        refine g_aload_n 114 dX10_house_113 rfl rfl ?_
        refine g_getC 117 dX10_house_114 fgX10_57 kd_40 ly_40_25 rfl ?_
        refine g_aload_n 118 dX10_house_117 rfl rfl ?_
        refine r_getI 121 (κ 40 20) dX10_house_118 fgX10_142 kd_40 ly_40_20 rfl (rd_t (by decide) (rd_t (by decide) (rd_t (by decide) (rd_t (by decide) (rfl))))) (fun r14 => ?_)
        refine g_iload 123 dX10_house_121 rfl rfl ?_
        refine r_zast 124 ((κ 40 20).toNat) dX10_house_123 kd_66 (by decide) ly_66 (by omega) (rfl) (by omega) rfl ?_
        refine g_aload_n 125 dX10_house_124 rfl rfl ?_
        refine g_getC 128 dX10_house_125 fgX10_60 kd_40 ly_40_26 rfl ?_
        refine g_aload_n 129 dX10_house_128 rfl rfl ?_
        refine r_getI 132 (κ 40 20) dX10_house_129 fgX10_142 kd_40 ly_40_20 rfl (rd_t (by decide) (rd_t (by decide) (rd_t (by decide) (rd_t (by decide) (rd_t (by decide) (rfl)))))) (fun r15 => ?_)
        refine g_iconst 133 dX10_house_132 (by decide) rfl ?_
        refine r_iast 134 ((κ 40 20).toNat) dX10_house_133 kd_67 (by decide) ly_67 (by omega) (rfl) (by omega) rfl ?_
        refine g_aload_n 135 dX10_house_134 rfl rfl ?_
        refine g_dup 136 dX10_house_135 rfl ?_
        refine r_getI 139 (κ 40 20) dX10_house_136 fgX10_142 kd_40 ly_40_20 rfl (rd_t (by decide) (rd_t (by decide) (rd_t (by decide) (rd_t (by decide) (rd_t (by decide) (rd_t (by decide) (rfl))))))) (fun r16 => ?_)
        refine g_iconst 140 dX10_house_139 (by decide) rfl ?_
        refine g_iadd 141 dX10_house_140 rfl ?_
        refine g_putI 144 dX10_house_141 fpX10_142 (fun h => (nomatch h)) kd_40 ly_40_20 (by omega) rfl ?_
        refine g_aload_n 145 dX10_house_144 rfl rfl ?_
        refine r_getI 148 (((κ 40 20) + 1)) dX10_house_145 fgX10_142 kd_40 ly_40_20 rfl (rd_s rfl rfl rfl) (fun r17 => ?_)
        refine g_iconst 149 dX10_house_148 (by decide) rfl ?_
        refine g_isub 150 dX10_house_149 rfl ?_
        refine g_iret dX10_house_150 rfl ?_
        unfold M_house
        (repeat' split) <;> first | (exfalso; omega) | exact ⟨rfl, rfl, rfl⟩ | exact ⟨congrArg (fun x => some (Iv x)) (by omega), rfl, rfl⟩
      refine g_aload_n 66 dX10_house_65 rfl rfl ?_
      refine g_bipush 68 dX10_house_66 (by decide) rfl ?_
      refine e_V 71 0 0 [Iv (-6)] [] dX10_house_68 cvX10_145 mwX10_refuse kd_40 (by decide) rfl (by decide) rfl rfl rfl (c_X10_refuse 6 (by decide) (by decide)) ?_
      refine g_iret dX10_house_71 rfl ?_
      unfold M_house
      (repeat' split) <;> first | (exfalso; omega) | exact ⟨rfl, rfl, rfl⟩ | exact ⟨congrArg (fun x => some (Iv x)) (by omega), rfl, rfl⟩
    refine g_aload_n 30 dX10_house_29 rfl rfl ?_
    refine g_bipush 32 dX10_house_30 (by decide) rfl ?_
    refine e_V 35 0 0 [Iv (-4)] [] dX10_house_32 cvX10_145 mwX10_refuse kd_40 (by decide) rfl (by decide) rfl rfl rfl (c_X10_refuse 4 (by decide) (by decide)) ?_
    refine g_iret dX10_house_35 rfl ?_
    unfold M_house
    (repeat' split) <;> first | (exfalso; omega) | exact ⟨rfl, rfl, rfl⟩ | exact ⟨congrArg (fun x => some (Iv x)) (by omega), rfl, rfl⟩
  refine g_if_ne 14 8 dX10_house_5 (by omega) (by decide) rfl (fun z => absurd z (by decide)) (fun _ => ?_)
  refine g_aload_n 9 dX10_house_8 rfl rfl ?_
  refine g_iconst 10 dX10_house_9 (by decide) rfl ?_
  refine e_V 13 0 0 [Iv (-1)] [] dX10_house_10 cvX10_145 mwX10_refuse kd_40 (by decide) rfl (by decide) rfl rfl rfl (c_X10_refuse 1 (by decide) (by decide)) ?_
  refine g_iret dX10_house_13 rfl ?_
  unfold M_house
  (repeat' split) <;> first | (exfalso; omega) | exact ⟨rfl, rfl, rfl⟩ | exact ⟨congrArg (fun x => some (Iv x)) (by omega), rfl, rfl⟩
set_option maxHeartbeats 4000000 in
set_option maxRecDepth 20000 in
theorem c_X10_lose {B : Bs} {n0 : Nat} {V : Vs} {κ : Ks} {r : Int} (r_r : inR r)  (hI : MI κ) : Ct (XR B n0) mX10_lose 2 0 0 [Rf 40, Iv r] V κ (PM (M_lose κ r) V) := by
  obtain ⟨⟨i0, i1, i2, i3, i4, i5, i6, i7, i8, i9⟩, iS, iH, iR, iT, iC, iG, iL, iZ⟩ := id hI
  refine Ct.of (L := [some (Rf 40), some (Iv r), none]) 1 (by decide +kernel) rfl rfl ?_
  refine g_iload_n 1 dX10_lose_0 rfl rfl ?_
  refine g_iconst 2 dX10_lose_1 (by decide) rfl ?_
  refine g_iconst 3 dX10_lose_2 (by decide) rfl ?_
  refine o_S 6 0 0 [Iv r, Iv 0, Iv 3] [] dX10_lose_3 csX10_138 mwX10_in (by decide) rfl (by decide) rfl rfl rfl (c_X10_in (by omega) (by omega) (by omega)) (fun h1 => ?_) (fun h1 => ?_)
  · refine g_if_ne 15 9 dX10_lose_6 (by omega) (by decide) rfl (fun _ => ?_) (fun z => absurd z (by decide))
    refine g_aload_n 16 dX10_lose_15 rfl rfl ?_
    refine g_getC 19 dX10_lose_16 fgX10_69 kd_40 ly_40_29 rfl ?_
    refine g_iload_n 20 dX10_lose_19 rfl rfl ?_
    refine r_iald 21 ((r).toNat) (κ 70 ((r).toNat)) dX10_lose_20 kd_70 (by decide) (by omega) (rfl) rfl (rfl) (fun r2 => ?_)
    refine g_istore_n (L' := [some (Rf 40), some (Iv r), some (Iv (κ 70 ((r).toNat)))]) 22 dX10_lose_21 rfl (by decide) rfl ?_
    refine g_aload_n 23 dX10_lose_22 rfl rfl ?_
    refine g_getC 26 dX10_lose_23 fgX10_69 kd_40 ly_40_29 rfl ?_
    refine g_iload_n 27 dX10_lose_26 rfl rfl ?_
    refine g_iconst 28 dX10_lose_27 (by decide) rfl ?_
    refine r_iast 29 ((r).toNat) dX10_lose_28 kd_70 (by decide) ly_70 (by omega) (rfl) (by omega) rfl ?_
    refine g_iload_n 30 dX10_lose_29 rfl rfl ?_
    refine g_if_ge 37 33 dX10_lose_30 (by omega) (by decide) rfl (fun h3 => ?_) (fun h3 => ?_)
    · refine g_iconst 38 dX10_lose_37 (by decide) rfl ?_
      refine g_iret dX10_lose_38 rfl ?_
      unfold M_lose
      (repeat' split) <;> first | (exfalso; omega) | exact ⟨rfl, rfl, rfl⟩ | exact ⟨congrArg (fun x => some (Iv x)) (by omega), rfl, rfl⟩
    refine g_iconst 34 dX10_lose_33 (by decide) rfl ?_
    refine g_goto 38 dX10_lose_34 (by decide) ?_
    refine g_iret dX10_lose_38 rfl ?_
    unfold M_lose
    (repeat' split) <;> first | (exfalso; omega) | exact ⟨rfl, rfl, rfl⟩ | exact ⟨congrArg (fun x => some (Iv x)) (by omega), rfl, rfl⟩
  refine g_if_ne 15 9 dX10_lose_6 (by omega) (by decide) rfl (fun z => absurd z (by decide)) (fun _ => ?_)
  refine g_aload_n 10 dX10_lose_9 rfl rfl ?_
  refine g_iconst 11 dX10_lose_10 (by decide) rfl ?_
  refine e_V 14 0 0 [Iv (-1)] [] dX10_lose_11 cvX10_145 mwX10_refuse kd_40 (by decide) rfl (by decide) rfl rfl rfl (c_X10_refuse 1 (by decide) (by decide)) ?_
  refine g_iret dX10_lose_14 rfl ?_
  unfold M_lose
  (repeat' split) <;> first | (exfalso; omega) | exact ⟨rfl, rfl, rfl⟩ | exact ⟨congrArg (fun x => some (Iv x)) (by omega), rfl, rfl⟩
set_option maxHeartbeats 4000000 in
set_option maxRecDepth 20000 in
theorem c_X10_put {B : Bs} {n0 : Nat} {V : Vs} {κ : Ks} {r p n : Int} (r_r : inR r) (r_p : inR p) (r_n : inR n)  (hI : MI κ) : Ct (XR B n0) mX10_put 2 0 0 [Rf 40, Iv r, Iv p, Iv n] V κ (PM (M_put κ r p n) V) := by
  obtain ⟨⟨i0, i1, i2, i3, i4, i5, i6, i7, i8, i9⟩, iS, iH, iR, iT, iC, iG, iL, iZ⟩ := id hI
  refine Ct.of (L := [some (Rf 40), some (Iv r), some (Iv p), some (Iv n), none]) 1 (by decide +kernel) rfl rfl ?_
  refine g_iload_n 1 dX10_put_0 rfl rfl ?_
  refine g_iconst 2 dX10_put_1 (by decide) rfl ?_
  refine g_iconst 3 dX10_put_2 (by decide) rfl ?_
  refine o_S 6 0 0 [Iv r, Iv 0, Iv 3] [] dX10_put_3 csX10_138 mwX10_in (by decide) rfl (by decide) rfl rfl rfl (c_X10_in (by omega) (by omega) (by omega)) (fun h1 => ?_) (fun h1 => ?_)
  · refine g_if_ne 15 9 dX10_put_6 (by omega) (by decide) rfl (fun _ => ?_) (fun z => absurd z (by decide))
    refine g_aload_n 16 dX10_put_15 rfl rfl ?_
    refine g_getC 19 dX10_put_16 fgX10_69 kd_40 ly_40_29 rfl ?_
    refine g_iload_n 20 dX10_put_19 rfl rfl ?_
    refine r_iald 21 ((r).toNat) (κ 70 ((r).toNat)) dX10_put_20 kd_70 (by decide) (by omega) (rfl) rfl (rfl) (fun r2 => ?_)
    refine g_if_ge 31 24 dX10_put_21 (by omega) (by decide) rfl (fun h3 => ?_) (fun h3 => ?_)
    · refine g_iload_n 32 dX10_put_31 rfl rfl ?_
      refine g_iconst 33 dX10_put_32 (by decide) rfl ?_
      refine g_aload_n 34 dX10_put_33 rfl rfl ?_
      refine g_getC 37 dX10_put_34 fgX10_69 kd_40 ly_40_29 rfl ?_
      refine g_iload_n 38 dX10_put_37 rfl rfl ?_
      refine r_iald 39 ((r).toNat) (κ 70 ((r).toNat)) dX10_put_38 kd_70 (by decide) (by omega) (rfl) rfl (rfl) (fun r4 => ?_)
      refine g_iconst 40 dX10_put_39 (by decide) rfl ?_
      refine g_isub 41 dX10_put_40 rfl ?_
      refine o_S 44 0 0 [Iv p, Iv 0, Iv ((κ 70 ((r).toNat)) - 1)] [] dX10_put_41 csX10_138 mwX10_in (by decide) rfl (by decide) rfl rfl rfl (c_X10_in (by omega) (by omega) (by omega)) (fun h5 => ?_) (fun h5 => ?_)
      · refine g_if_ne 54 47 dX10_put_44 (by omega) (by decide) rfl (fun _ => ?_) (fun z => absurd z (by decide))
        refine g_iload_n 55 dX10_put_54 rfl rfl ?_
        refine g_if_ge 65 58 dX10_put_55 (by omega) (by decide) rfl (fun h6 => ?_) (fun h6 => ?_)
        · refine g_iload_n 66 dX10_put_65 rfl rfl ?_
          refine g_bipush 68 dX10_put_66 (by decide) rfl ?_
          refine g_icmp_le 78 71 dX10_put_68 (by omega) (by omega) (by decide) rfl (fun h7 => ?_) (fun h7 => ?_)
          · refine g_aload_n 79 dX10_put_78 rfl rfl ?_
            refine g_getC 82 dX10_put_79 fgX10_72 kd_40 ly_40_30 rfl ?_
            refine g_bipush 84 dX10_put_82 (by decide) rfl ?_
            refine g_iload_n 85 dX10_put_84 rfl rfl ?_
            refine g_imul 86 dX10_put_85 rfl ?_
            refine g_iload_n 87 dX10_put_86 rfl rfl ?_
            refine g_iadd 88 dX10_put_87 rfl ?_
            have ir := (iR r.toNat (by omega)).1
            refine r_iald 89 (((24 * r) + p).toNat) (κ 71 (((24 * r) + p).toNat)) dX10_put_88 kd_71 (by decide) (by omega) (rfl) rfl (rfl) (fun r8 => ?_)
            refine g_istore (L' := [some (Rf 40), some (Iv r), some (Iv p), some (Iv n), some (Iv (κ 71 (((24 * r) + p).toNat)))]) 91 dX10_put_89 rfl (by decide) rfl ?_
            refine g_aload_n 92 dX10_put_91 rfl rfl ?_
            refine g_getC 95 dX10_put_92 fgX10_72 kd_40 ly_40_30 rfl ?_
            refine g_bipush 97 dX10_put_95 (by decide) rfl ?_
            refine g_iload_n 98 dX10_put_97 rfl rfl ?_
            refine g_imul 99 dX10_put_98 rfl ?_
            refine g_iload_n 100 dX10_put_99 rfl rfl ?_
            refine g_iadd 101 dX10_put_100 rfl ?_
            refine g_iload_n 102 dX10_put_101 rfl rfl ?_
            refine r_iast 103 (((24 * r) + p).toNat) dX10_put_102 kd_71 (by decide) ly_71 (by omega) (rfl) (by omega) rfl ?_
            refine g_iload 105 dX10_put_103 rfl rfl ?_
            refine g_iret dX10_put_105 rfl ?_
            unfold M_put
            (repeat' split) <;> first | (exfalso; omega) | exact ⟨rfl, rfl, rfl⟩ | exact ⟨congrArg (fun x => some (Iv x)) (by omega), rfl, rfl⟩
          refine g_aload_n 72 dX10_put_71 rfl rfl ?_
          refine g_bipush 74 dX10_put_72 (by decide) rfl ?_
          refine e_V 77 0 0 [Iv (-6)] [] dX10_put_74 cvX10_145 mwX10_refuse kd_40 (by decide) rfl (by decide) rfl rfl rfl (c_X10_refuse 6 (by decide) (by decide)) ?_
          refine g_iret dX10_put_77 rfl ?_
          unfold M_put
          (repeat' split) <;> first | (exfalso; omega) | exact ⟨rfl, rfl, rfl⟩ | exact ⟨congrArg (fun x => some (Iv x)) (by omega), rfl, rfl⟩
        refine g_aload_n 59 dX10_put_58 rfl rfl ?_
        refine g_bipush 61 dX10_put_59 (by decide) rfl ?_
        refine e_V 64 0 0 [Iv (-4)] [] dX10_put_61 cvX10_145 mwX10_refuse kd_40 (by decide) rfl (by decide) rfl rfl rfl (c_X10_refuse 4 (by decide) (by decide)) ?_
        refine g_iret dX10_put_64 rfl ?_
        unfold M_put
        (repeat' split) <;> first | (exfalso; omega) | exact ⟨rfl, rfl, rfl⟩ | exact ⟨congrArg (fun x => some (Iv x)) (by omega), rfl, rfl⟩
      refine g_if_ne 54 47 dX10_put_44 (by omega) (by decide) rfl (fun z => absurd z (by decide)) (fun _ => ?_)
      refine g_aload_n 48 dX10_put_47 rfl rfl ?_
      refine g_bipush 50 dX10_put_48 (by decide) rfl ?_
      refine e_V 53 0 0 [Iv (-7)] [] dX10_put_50 cvX10_145 mwX10_refuse kd_40 (by decide) rfl (by decide) rfl rfl rfl (c_X10_refuse 7 (by decide) (by decide)) ?_
      refine g_iret dX10_put_53 rfl ?_
      unfold M_put
      (repeat' split) <;> first | (exfalso; omega) | exact ⟨rfl, rfl, rfl⟩ | exact ⟨congrArg (fun x => some (Iv x)) (by omega), rfl, rfl⟩
    refine g_aload_n 25 dX10_put_24 rfl rfl ?_
    refine g_bipush 27 dX10_put_25 (by decide) rfl ?_
    refine e_V 30 0 0 [Iv (-5)] [] dX10_put_27 cvX10_145 mwX10_refuse kd_40 (by decide) rfl (by decide) rfl rfl rfl (c_X10_refuse 5 (by decide) (by decide)) ?_
    refine g_iret dX10_put_30 rfl ?_
    unfold M_put
    (repeat' split) <;> first | (exfalso; omega) | exact ⟨rfl, rfl, rfl⟩ | exact ⟨congrArg (fun x => some (Iv x)) (by omega), rfl, rfl⟩
  refine g_if_ne 15 9 dX10_put_6 (by omega) (by decide) rfl (fun z => absurd z (by decide)) (fun _ => ?_)
  refine g_aload_n 10 dX10_put_9 rfl rfl ?_
  refine g_iconst 11 dX10_put_10 (by decide) rfl ?_
  refine e_V 14 0 0 [Iv (-1)] [] dX10_put_11 cvX10_145 mwX10_refuse kd_40 (by decide) rfl (by decide) rfl rfl rfl (c_X10_refuse 1 (by decide) (by decide)) ?_
  refine g_iret dX10_put_14 rfl ?_
  unfold M_put
  (repeat' split) <;> first | (exfalso; omega) | exact ⟨rfl, rfl, rfl⟩ | exact ⟨congrArg (fun x => some (Iv x)) (by omega), rfl, rfl⟩
set_option maxHeartbeats 4000000 in
set_option maxRecDepth 20000 in
theorem c_X10_lead {B : Bs} {n0 : Nat} {V : Vs} {κ : Ks} {h r : Int} (r_h : inR h) (r_r : inR r)  (hI : MI κ) : Ct (XR B n0) mX10_lead 3 0 0 [Rf 40, Iv h, Iv r] V κ (PM (M_lead κ h r) V) := by
  obtain ⟨⟨i0, i1, i2, i3, i4, i5, i6, i7, i8, i9⟩, iS, iH, iR, iT, iC, iG, iL, iZ⟩ := id hI
  refine Ct.of (L := [some (Rf 40), some (Iv h), some (Iv r), none]) 1 (by decide +kernel) rfl rfl ?_
  refine g_aload_n 1 dX10_lead_0 rfl rfl ?_
  refine g_iload_n 2 dX10_lead_1 rfl rfl ?_
  refine o_V 5 0 0 [Iv h] [] dX10_lead_2 cvX10_160 mwX10_isHouse kd_40 (by decide) rfl (by decide) rfl rfl rfl (c_X10_isHouse (by omega) hI) (fun h1 => ?_) (fun h1 => ?_)
  · refine g_if_eq 17 8 dX10_lead_5 (by omega) (by decide) rfl (fun z => absurd z (by decide)) (fun _ => ?_)
    refine g_iload_n 9 dX10_lead_8 rfl rfl ?_
    refine g_iconst 10 dX10_lead_9 (by decide) rfl ?_
    refine g_iconst 11 dX10_lead_10 (by decide) rfl ?_
    refine o_S 14 0 0 [Iv r, Iv (-1), Iv 3] [] dX10_lead_11 csX10_138 mwX10_in (by decide) rfl (by decide) rfl rfl rfl (c_X10_in (by omega) (by omega) (by omega)) (fun h2 => ?_) (fun h2 => ?_)
    · refine g_if_ne 30 17 dX10_lead_14 (by omega) (by decide) rfl (fun _ => ?_) (fun z => absurd z (by decide))
      refine g_aload_n 31 dX10_lead_30 rfl rfl ?_
      refine g_getC 34 dX10_lead_31 fgX10_60 kd_40 ly_40_26 rfl ?_
      refine g_iload_n 35 dX10_lead_34 rfl rfl ?_
      refine r_iald 36 ((h).toNat) (κ 67 ((h).toNat)) dX10_lead_35 kd_67 (by decide) (by omega) (rfl) rfl (rfl) (fun r3 => ?_)
      refine g_istore_n (L' := [some (Rf 40), some (Iv h), some (Iv r), some (Iv (κ 67 ((h).toNat)))]) 37 dX10_lead_36 rfl (by decide) rfl ?_
      refine g_aload_n 38 dX10_lead_37 rfl rfl ?_
      refine g_getC 41 dX10_lead_38 fgX10_60 kd_40 ly_40_26 rfl ?_
      refine g_iload_n 42 dX10_lead_41 rfl rfl ?_
      refine g_iload_n 43 dX10_lead_42 rfl rfl ?_
      refine r_iast 44 ((h).toNat) dX10_lead_43 kd_67 (by decide) ly_67 (by omega) (rfl) (by omega) rfl ?_
      refine g_iload_n 45 dX10_lead_44 rfl rfl ?_
      refine g_iret dX10_lead_45 rfl ?_
      unfold M_lead
      (repeat' split) <;> first | (exfalso; omega) | exact ⟨rfl, rfl, rfl⟩ | exact ⟨congrArg (fun x => some (Iv x)) (by omega), rfl, rfl⟩
    refine g_if_ne 30 17 dX10_lead_14 (by omega) (by decide) rfl (fun z => absurd z (by decide)) (fun _ => ?_)
    refine g_aload_n 18 dX10_lead_17 rfl rfl ?_
    refine g_getC 21 dX10_lead_18 fgX10_111 kd_40 ly_40_46 rfl ?_
    refine g_iconst 22 dX10_lead_21 (by decide) rfl ?_
    refine g_dup2 23 dX10_lead_22 rfl ?_
    refine r_iald 24 1 (κ 87 1) dX10_lead_23 kd_87 (by decide) (by omega) (rfl) rfl (rfl) (fun r4 => ?_)
    refine g_iconst 25 dX10_lead_24 (by decide) rfl ?_
    refine g_iadd 26 dX10_lead_25 rfl ?_
    refine r_iastw 27 1 dX10_lead_26 kd_87 (by decide) ly_87 (by omega) (rfl) rfl ?_
    refine g_ldc (n := 2000000001) 29 dX10_lead_27 kcX10_163 (by decide) rfl ?_
    refine g_iret dX10_lead_29 rfl ?_
    unfold M_lead
    (repeat' split) <;> first | (exfalso; omega) | exact ⟨rfl, rfl, rfl⟩ | exact ⟨congrArg (fun x => some (Iv x)) (by omega), rfl, rfl⟩
  refine g_if_eq 17 8 dX10_lead_5 (by omega) (by decide) rfl (fun _ => ?_) (fun z => absurd z (by decide))
  refine g_aload_n 18 dX10_lead_17 rfl rfl ?_
  refine g_getC 21 dX10_lead_18 fgX10_111 kd_40 ly_40_46 rfl ?_
  refine g_iconst 22 dX10_lead_21 (by decide) rfl ?_
  refine g_dup2 23 dX10_lead_22 rfl ?_
  refine r_iald 24 1 (κ 87 1) dX10_lead_23 kd_87 (by decide) (by omega) (rfl) rfl (rfl) (fun r5 => ?_)
  refine g_iconst 25 dX10_lead_24 (by decide) rfl ?_
  refine g_iadd 26 dX10_lead_25 rfl ?_
  refine r_iastw 27 1 dX10_lead_26 kd_87 (by decide) ly_87 (by omega) (rfl) rfl ?_
  refine g_ldc (n := 2000000001) 29 dX10_lead_27 kcX10_163 (by decide) rfl ?_
  refine g_iret dX10_lead_29 rfl ?_
  unfold M_lead
  (repeat' split) <;> first | (exfalso; omega) | exact ⟨rfl, rfl, rfl⟩ | exact ⟨congrArg (fun x => some (Iv x)) (by omega), rfl, rfl⟩
set_option maxHeartbeats 4000000 in
set_option maxRecDepth 20000 in
theorem c_X10_end {B : Bs} {n0 : Nat} {V : Vs} {κ : Ks} {s z : Int} (r_s : inR s) (r_z : inR z)  (hI : MI κ) : Ct (XR B n0) mX10_end 3 0 0 [Rf 40, Iv s, Iv z] V κ (PM (M_end κ s z) V) := by
  obtain ⟨⟨i0, i1, i2, i3, i4, i5, i6, i7, i8, i9⟩, iS, iH, iR, iT, iC, iG, iL, iZ⟩ := id hI
  refine Ct.of (L := [some (Rf 40), some (Iv s), some (Iv z)]) 0 (by decide +kernel) rfl rfl ?_
  refine g_aload_n 1 dX10_end_0 rfl rfl ?_
  refine g_iload_n 2 dX10_end_1 rfl rfl ?_
  refine o_V 5 0 0 [Iv s] [] dX10_end_2 cvX10_156 mwX10_isStreet kd_40 (by decide) rfl (by decide) rfl rfl rfl (c_X10_isStreet (by omega) hI) (fun h1 => ?_) (fun h1 => ?_)
  · refine g_if_ne 14 8 dX10_end_5 (by omega) (by decide) rfl (fun _ => ?_) (fun z => absurd z (by decide))
    refine g_aload_n 15 dX10_end_14 rfl rfl ?_
    refine g_getC 18 dX10_end_15 fgX10_33 kd_40 ly_40_16 rfl ?_
    refine g_iload_n 19 dX10_end_18 rfl rfl ?_
    refine r_iald 20 ((s).toNat) (κ 57 ((s).toNat)) dX10_end_19 kd_57 (by decide) (by omega) (rfl) rfl (rfl) (fun r2 => ?_)
    refine g_if_le 30 23 dX10_end_20 (by omega) (by decide) rfl (fun h3 => ?_) (fun h3 => ?_)
    · refine g_iload_n 31 dX10_end_30 rfl rfl ?_
      refine g_if_lt 44 34 dX10_end_31 (by omega) (by decide) rfl (fun h4 => ?_) (fun h4 => ?_)
      · refine g_aload_n 45 dX10_end_44 rfl rfl ?_
        refine g_bipush 47 dX10_end_45 (by decide) rfl ?_
        refine e_V 50 0 0 [Iv (-4)] [] dX10_end_47 cvX10_145 mwX10_refuse kd_40 (by decide) rfl (by decide) rfl rfl rfl (c_X10_refuse 4 (by decide) (by decide)) ?_
        refine g_iret dX10_end_50 rfl ?_
        unfold M_end
        (repeat' split) <;> first | (exfalso; omega) | exact ⟨rfl, rfl, rfl⟩ | exact ⟨congrArg (fun x => some (Iv x)) (by omega), rfl, rfl⟩
      refine g_iload_n 35 dX10_end_34 rfl rfl ?_
      refine g_iconst 36 dX10_end_35 (by decide) rfl ?_
      refine g_bipush 38 dX10_end_36 (by decide) rfl ?_
      refine o_S 41 0 0 [Iv z, Iv 1, Iv 49] [] dX10_end_38 csX10_138 mwX10_in (by decide) rfl (by decide) rfl rfl rfl (c_X10_in (by omega) (by omega) (by omega)) (fun h5 => ?_) (fun h5 => ?_)
      · refine g_if_eq 51 44 dX10_end_41 (by omega) (by decide) rfl (fun z => absurd z (by decide)) (fun _ => ?_)
        refine g_aload_n 45 dX10_end_44 rfl rfl ?_
        refine g_bipush 47 dX10_end_45 (by decide) rfl ?_
        refine e_V 50 0 0 [Iv (-4)] [] dX10_end_47 cvX10_145 mwX10_refuse kd_40 (by decide) rfl (by decide) rfl rfl rfl (c_X10_refuse 4 (by decide) (by decide)) ?_
        refine g_iret dX10_end_50 rfl ?_
        unfold M_end
        (repeat' split) <;> first | (exfalso; omega) | exact ⟨rfl, rfl, rfl⟩ | exact ⟨congrArg (fun x => some (Iv x)) (by omega), rfl, rfl⟩
      refine g_if_eq 51 44 dX10_end_41 (by omega) (by decide) rfl (fun _ => ?_) (fun z => absurd z (by decide))
      refine g_iload_n 52 dX10_end_51 rfl rfl ?_
      refine g_sipush 55 dX10_end_52 (by decide) rfl ?_
      refine g_icmp_le 65 58 dX10_end_55 (by omega) (by omega) (by decide) rfl (fun h6 => ?_) (fun h6 => ?_)
      · refine g_aload_n 66 dX10_end_65 rfl rfl ?_
        refine g_getC 69 dX10_end_66 fgX10_33 kd_40 ly_40_16 rfl ?_
        refine g_iload_n 70 dX10_end_69 rfl rfl ?_
        refine g_iload_n 71 dX10_end_70 rfl rfl ?_
        refine g_if_ne 78 74 dX10_end_71 (by omega) (by decide) rfl (fun h7 => ?_) (fun h7 => ?_)
        · refine g_iconst 79 dX10_end_78 (by decide) rfl ?_
          refine r_iast 80 ((s).toNat) dX10_end_79 kd_57 (by decide) ly_57 (by omega) (rfl) (by omega) rfl ?_
          refine g_aload_n 81 dX10_end_80 rfl rfl ?_
          refine g_getC 84 dX10_end_81 fgX10_36 kd_40 ly_40_17 rfl ?_
          refine g_iload_n 85 dX10_end_84 rfl rfl ?_
          refine g_iload_n 86 dX10_end_85 rfl rfl ?_
          refine r_iast 87 ((s).toNat) dX10_end_86 kd_58 (by decide) ly_58 (by omega) (rfl) (by omega) rfl ?_
          refine g_aload_n 88 dX10_end_87 rfl rfl ?_
          refine g_getC 91 dX10_end_88 fgX10_39 kd_40 ly_40_18 rfl ?_
          refine g_iload_n 92 dX10_end_91 rfl rfl ?_
          refine g_iconst 93 dX10_end_92 (by decide) rfl ?_
          refine r_iast 94 ((s).toNat) dX10_end_93 kd_59 (by decide) ly_59 (by omega) (rfl) (by omega) rfl ?_
          refine g_aload_n 95 dX10_end_94 rfl rfl ?_
          refine g_getC 98 dX10_end_95 fgX10_42 kd_40 ly_40_19 rfl ?_
          refine g_iload_n 99 dX10_end_98 rfl rfl ?_
          refine g_iconst 100 dX10_end_99 (by decide) rfl ?_
          refine r_zast 101 ((s).toNat) dX10_end_100 kd_60 (by decide) ly_60 (by omega) (rfl) (by omega) rfl ?_
          refine g_iconst 102 dX10_end_101 (by decide) rfl ?_
          refine g_iret dX10_end_102 rfl ?_
          unfold M_end
          (repeat' split) <;> first | (exfalso; omega) | exact ⟨rfl, rfl, rfl⟩ | exact ⟨congrArg (fun x => some (Iv x)) (by omega), rfl, rfl⟩
        refine g_iconst 75 dX10_end_74 (by decide) rfl ?_
        refine g_goto 79 dX10_end_75 (by decide) ?_
        refine r_iast 80 ((s).toNat) dX10_end_79 kd_57 (by decide) ly_57 (by omega) (rfl) (by omega) rfl ?_
        refine g_aload_n 81 dX10_end_80 rfl rfl ?_
        refine g_getC 84 dX10_end_81 fgX10_36 kd_40 ly_40_17 rfl ?_
        refine g_iload_n 85 dX10_end_84 rfl rfl ?_
        refine g_iload_n 86 dX10_end_85 rfl rfl ?_
        refine r_iast 87 ((s).toNat) dX10_end_86 kd_58 (by decide) ly_58 (by omega) (rfl) (by omega) rfl ?_
        refine g_aload_n 88 dX10_end_87 rfl rfl ?_
        refine g_getC 91 dX10_end_88 fgX10_39 kd_40 ly_40_18 rfl ?_
        refine g_iload_n 92 dX10_end_91 rfl rfl ?_
        refine g_iconst 93 dX10_end_92 (by decide) rfl ?_
        refine r_iast 94 ((s).toNat) dX10_end_93 kd_59 (by decide) ly_59 (by omega) (rfl) (by omega) rfl ?_
        refine g_aload_n 95 dX10_end_94 rfl rfl ?_
        refine g_getC 98 dX10_end_95 fgX10_42 kd_40 ly_40_19 rfl ?_
        refine g_iload_n 99 dX10_end_98 rfl rfl ?_
        refine g_iconst 100 dX10_end_99 (by decide) rfl ?_
        refine r_zast 101 ((s).toNat) dX10_end_100 kd_60 (by decide) ly_60 (by omega) (rfl) (by omega) rfl ?_
        refine g_iconst 102 dX10_end_101 (by decide) rfl ?_
        refine g_iret dX10_end_102 rfl ?_
        unfold M_end
        (repeat' split) <;> first | (exfalso; omega) | exact ⟨rfl, rfl, rfl⟩ | exact ⟨congrArg (fun x => some (Iv x)) (by omega), rfl, rfl⟩
      refine g_aload_n 59 dX10_end_58 rfl rfl ?_
      refine g_bipush 61 dX10_end_59 (by decide) rfl ?_
      refine e_V 64 0 0 [Iv (-6)] [] dX10_end_61 cvX10_145 mwX10_refuse kd_40 (by decide) rfl (by decide) rfl rfl rfl (c_X10_refuse 6 (by decide) (by decide)) ?_
      refine g_iret dX10_end_64 rfl ?_
      unfold M_end
      (repeat' split) <;> first | (exfalso; omega) | exact ⟨rfl, rfl, rfl⟩ | exact ⟨congrArg (fun x => some (Iv x)) (by omega), rfl, rfl⟩
    refine g_aload_n 24 dX10_end_23 rfl rfl ?_
    refine g_bipush 26 dX10_end_24 (by decide) rfl ?_
    refine e_V 29 0 0 [Iv (-3)] [] dX10_end_26 cvX10_145 mwX10_refuse kd_40 (by decide) rfl (by decide) rfl rfl rfl (c_X10_refuse 3 (by decide) (by decide)) ?_
    refine g_iret dX10_end_29 rfl ?_
    unfold M_end
    (repeat' split) <;> first | (exfalso; omega) | exact ⟨rfl, rfl, rfl⟩ | exact ⟨congrArg (fun x => some (Iv x)) (by omega), rfl, rfl⟩
  refine g_if_ne 14 8 dX10_end_5 (by omega) (by decide) rfl (fun z => absurd z (by decide)) (fun _ => ?_)
  refine g_aload_n 9 dX10_end_8 rfl rfl ?_
  refine g_iconst 10 dX10_end_9 (by decide) rfl ?_
  refine e_V 13 0 0 [Iv (-1)] [] dX10_end_10 cvX10_145 mwX10_refuse kd_40 (by decide) rfl (by decide) rfl rfl rfl (c_X10_refuse 1 (by decide) (by decide)) ?_
  refine g_iret dX10_end_13 rfl ?_
  unfold M_end
  (repeat' split) <;> first | (exfalso; omega) | exact ⟨rfl, rfl, rfl⟩ | exact ⟨congrArg (fun x => some (Iv x)) (by omega), rfl, rfl⟩
set_option maxHeartbeats 4000000 in
set_option maxRecDepth 20000 in
theorem c_X10_clear {B : Bs} {n0 : Nat} {V : Vs} {κ : Ks} {s : Int} (r_s : inR s)  (hI : MI κ) : Ct (XR B n0) mX10_clear 3 0 0 [Rf 40, Iv s] V κ (PM (M_clear κ s) V) := by
  obtain ⟨⟨i0, i1, i2, i3, i4, i5, i6, i7, i8, i9⟩, iS, iH, iR, iT, iC, iG, iL, iZ⟩ := id hI
  refine Ct.of (L := [some (Rf 40), some (Iv s), none]) 1 (by decide +kernel) rfl rfl ?_
  refine g_aload_n 1 dX10_clear_0 rfl rfl ?_
  refine g_iload_n 2 dX10_clear_1 rfl rfl ?_
  refine o_V 5 0 0 [Iv s] [] dX10_clear_2 cvX10_156 mwX10_isStreet kd_40 (by decide) rfl (by decide) rfl rfl rfl (c_X10_isStreet (by omega) hI) (fun h1 => ?_) (fun h1 => ?_)
  · refine g_if_ne 14 8 dX10_clear_5 (by omega) (by decide) rfl (fun _ => ?_) (fun z => absurd z (by decide))
    refine g_aload_n 15 dX10_clear_14 rfl rfl ?_
    refine g_getC 18 dX10_clear_15 fgX10_33 kd_40 ly_40_16 rfl ?_
    refine g_iload_n 19 dX10_clear_18 rfl rfl ?_
    refine r_iald 20 ((s).toNat) (κ 57 ((s).toNat)) dX10_clear_19 kd_57 (by decide) (by omega) (rfl) rfl (rfl) (fun r2 => ?_)
    refine g_if_ne 30 23 dX10_clear_20 (by omega) (by decide) rfl (fun h3 => ?_) (fun h3 => ?_)
    · refine g_aload_n 31 dX10_clear_30 rfl rfl ?_
      refine g_getC 34 dX10_clear_31 fgX10_33 kd_40 ly_40_16 rfl ?_
      refine g_iload_n 35 dX10_clear_34 rfl rfl ?_
      refine r_iald 36 ((s).toNat) (κ 57 ((s).toNat)) dX10_clear_35 kd_57 (by decide) (by omega) (rfl) rfl (rfl) (fun r4 => ?_)
      refine g_iconst 37 dX10_clear_36 (by decide) rfl ?_
      refine g_icmp_ne 49 40 dX10_clear_37 (by omega) (by omega) (by decide) rfl (fun h5 => ?_) (fun h5 => ?_)
      · refine g_iconst 50 dX10_clear_49 (by decide) rfl ?_
        refine g_istore_n (L' := [some (Rf 40), some (Iv s), some (Iv 0)]) 51 dX10_clear_50 rfl (by decide) rfl ?_
        refine g_aload_n 52 dX10_clear_51 rfl rfl ?_
        refine g_getC 55 dX10_clear_52 fgX10_33 kd_40 ly_40_16 rfl ?_
        refine g_iload_n 56 dX10_clear_55 rfl rfl ?_
        refine g_iconst 57 dX10_clear_56 (by decide) rfl ?_
        refine r_iast 58 ((s).toNat) dX10_clear_57 kd_57 (by decide) ly_57 (by omega) (rfl) (by omega) rfl ?_
        refine g_aload_n 59 dX10_clear_58 rfl rfl ?_
        refine g_getC 62 dX10_clear_59 fgX10_39 kd_40 ly_40_18 rfl ?_
        refine g_iload_n 63 dX10_clear_62 rfl rfl ?_
        refine g_iconst 64 dX10_clear_63 (by decide) rfl ?_
        refine r_iast 65 ((s).toNat) dX10_clear_64 kd_59 (by decide) ly_59 (by omega) (rfl) (by omega) rfl ?_
        refine g_aload_n 66 dX10_clear_65 rfl rfl ?_
        refine g_getC 69 dX10_clear_66 fgX10_42 kd_40 ly_40_19 rfl ?_
        refine g_iload_n 70 dX10_clear_69 rfl rfl ?_
        refine g_iconst 71 dX10_clear_70 (by decide) rfl ?_
        refine r_zast 72 ((s).toNat) dX10_clear_71 kd_60 (by decide) ly_60 (by omega) (rfl) (by omega) rfl ?_
        refine g_iload_n 73 dX10_clear_72 rfl rfl ?_
        refine g_iret dX10_clear_73 rfl ?_
        unfold M_clear
        (repeat' split) <;> first | (exfalso; omega) | exact ⟨rfl, rfl, rfl⟩ | exact ⟨congrArg (fun x => some (Iv x)) (by omega), rfl, rfl⟩
      refine g_aload_n 41 dX10_clear_40 rfl rfl ?_
      refine g_getC 44 dX10_clear_41 fgX10_39 kd_40 ly_40_18 rfl ?_
      refine g_iload_n 45 dX10_clear_44 rfl rfl ?_
      refine r_iald 46 ((s).toNat) (κ 59 ((s).toNat)) dX10_clear_45 kd_59 (by decide) (by omega) (rfl) rfl (rfl) (fun r6 => ?_)
      refine g_goto 50 dX10_clear_46 (by decide) ?_
      refine g_istore_n (L' := [some (Rf 40), some (Iv s), some (Iv (κ 59 ((s).toNat)))]) 51 dX10_clear_50 rfl (by decide) rfl ?_
      refine g_aload_n 52 dX10_clear_51 rfl rfl ?_
      refine g_getC 55 dX10_clear_52 fgX10_33 kd_40 ly_40_16 rfl ?_
      refine g_iload_n 56 dX10_clear_55 rfl rfl ?_
      refine g_iconst 57 dX10_clear_56 (by decide) rfl ?_
      refine r_iast 58 ((s).toNat) dX10_clear_57 kd_57 (by decide) ly_57 (by omega) (rfl) (by omega) rfl ?_
      refine g_aload_n 59 dX10_clear_58 rfl rfl ?_
      refine g_getC 62 dX10_clear_59 fgX10_39 kd_40 ly_40_18 rfl ?_
      refine g_iload_n 63 dX10_clear_62 rfl rfl ?_
      refine g_iconst 64 dX10_clear_63 (by decide) rfl ?_
      refine r_iast 65 ((s).toNat) dX10_clear_64 kd_59 (by decide) ly_59 (by omega) (rfl) (by omega) rfl ?_
      refine g_aload_n 66 dX10_clear_65 rfl rfl ?_
      refine g_getC 69 dX10_clear_66 fgX10_42 kd_40 ly_40_19 rfl ?_
      refine g_iload_n 70 dX10_clear_69 rfl rfl ?_
      refine g_iconst 71 dX10_clear_70 (by decide) rfl ?_
      refine r_zast 72 ((s).toNat) dX10_clear_71 kd_60 (by decide) ly_60 (by omega) (rfl) (by omega) rfl ?_
      refine g_iload_n 73 dX10_clear_72 rfl rfl ?_
      refine g_iret dX10_clear_73 rfl ?_
      unfold M_clear
      (repeat' split) <;> first | (exfalso; omega) | exact ⟨rfl, rfl, rfl⟩ | exact ⟨congrArg (fun x => some (Iv x)) (by omega), rfl, rfl⟩
    refine g_aload_n 24 dX10_clear_23 rfl rfl ?_
    refine g_bipush 26 dX10_clear_24 (by decide) rfl ?_
    refine e_V 29 0 0 [Iv (-5)] [] dX10_clear_26 cvX10_145 mwX10_refuse kd_40 (by decide) rfl (by decide) rfl rfl rfl (c_X10_refuse 5 (by decide) (by decide)) ?_
    refine g_iret dX10_clear_29 rfl ?_
    unfold M_clear
    (repeat' split) <;> first | (exfalso; omega) | exact ⟨rfl, rfl, rfl⟩ | exact ⟨congrArg (fun x => some (Iv x)) (by omega), rfl, rfl⟩
  refine g_if_ne 14 8 dX10_clear_5 (by omega) (by decide) rfl (fun z => absurd z (by decide)) (fun _ => ?_)
  refine g_aload_n 9 dX10_clear_8 rfl rfl ?_
  refine g_iconst 10 dX10_clear_9 (by decide) rfl ?_
  refine e_V 13 0 0 [Iv (-1)] [] dX10_clear_10 cvX10_145 mwX10_refuse kd_40 (by decide) rfl (by decide) rfl rfl rfl (c_X10_refuse 1 (by decide) (by decide)) ?_
  refine g_iret dX10_clear_13 rfl ?_
  unfold M_clear
  (repeat' split) <;> first | (exfalso; omega) | exact ⟨rfl, rfl, rfl⟩ | exact ⟨congrArg (fun x => some (Iv x)) (by omega), rfl, rfl⟩
set_option maxHeartbeats 4000000 in
set_option maxRecDepth 20000 in
theorem c_X10_draw {B : Bs} {n0 : Nat} {V : Vs} {κ : Ks} {s b : Int} (r_s : inR s) (z_b : b = 0 ∨ b = 1) (hI : MI κ) : Ct (XR B n0) mX10_draw 3 0 0 [Rf 40, Iv s, Iv b] V κ (PM (M_draw κ s b) V) := by
  obtain ⟨⟨i0, i1, i2, i3, i4, i5, i6, i7, i8, i9⟩, iS, iH, iR, iT, iC, iG, iL, iZ⟩ := id hI
  refine Ct.of (L := [some (Rf 40), some (Iv s), some (Iv b), none]) 1 (by decide +kernel) rfl rfl ?_
  refine g_aload_n 1 dX10_draw_0 rfl rfl ?_
  refine g_iload_n 2 dX10_draw_1 rfl rfl ?_
  refine o_V 5 0 0 [Iv s] [] dX10_draw_2 cvX10_156 mwX10_isStreet kd_40 (by decide) rfl (by decide) rfl rfl rfl (c_X10_isStreet (by omega) hI) (fun h1 => ?_) (fun h1 => ?_)
  · refine g_if_ne 14 8 dX10_draw_5 (by omega) (by decide) rfl (fun _ => ?_) (fun z => absurd z (by decide))
    refine g_aload_n 15 dX10_draw_14 rfl rfl ?_
    refine g_getC 18 dX10_draw_15 fgX10_33 kd_40 ly_40_16 rfl ?_
    refine g_iload_n 19 dX10_draw_18 rfl rfl ?_
    refine r_iald 20 ((s).toNat) (κ 57 ((s).toNat)) dX10_draw_19 kd_57 (by decide) (by omega) (rfl) rfl (rfl) (fun r2 => ?_)
    refine g_if_ne 30 23 dX10_draw_20 (by omega) (by decide) rfl (fun h3 => ?_) (fun h3 => ?_)
    · refine g_aload_n 31 dX10_draw_30 rfl rfl ?_
      refine g_getC 34 dX10_draw_31 fgX10_33 kd_40 ly_40_16 rfl ?_
      refine g_iload_n 35 dX10_draw_34 rfl rfl ?_
      refine r_iald 36 ((s).toNat) (κ 57 ((s).toNat)) dX10_draw_35 kd_57 (by decide) (by omega) (rfl) rfl (rfl) (fun r4 => ?_)
      refine g_iconst 37 dX10_draw_36 (by decide) rfl ?_
      refine g_icmp_ne 47 40 dX10_draw_37 (by omega) (by omega) (by decide) rfl (fun h5 => ?_) (fun h5 => ?_)
      · refine g_aload_n 48 dX10_draw_47 rfl rfl ?_
        refine g_getC 51 dX10_draw_48 fgX10_42 kd_40 ly_40_19 rfl ?_
        refine g_iload_n 52 dX10_draw_51 rfl rfl ?_
        refine r_zald 53 ((s).toNat) (κ 60 ((s).toNat)) dX10_draw_52 kd_60 (by decide) (by omega) (rfl) rfl (rfl) (fun r6 => ?_)
        refine g_istore_n (L' := [some (Rf 40), some (Iv s), some (Iv b), some (Iv (κ 60 ((s).toNat)))]) 54 dX10_draw_53 rfl (by decide) rfl ?_
        refine g_aload_n 55 dX10_draw_54 rfl rfl ?_
        refine g_getC 58 dX10_draw_55 fgX10_42 kd_40 ly_40_19 rfl ?_
        refine g_iload_n 59 dX10_draw_58 rfl rfl ?_
        refine g_iload_n 60 dX10_draw_59 rfl rfl ?_
        refine r_zast 61 ((s).toNat) dX10_draw_60 kd_60 (by decide) ly_60 (by omega) (rfl) (by omega) rfl ?_
        refine g_iload_n 62 dX10_draw_61 rfl rfl ?_
        refine g_iload_n 63 dX10_draw_62 rfl rfl ?_
        refine g_icmp_ne 70 66 dX10_draw_63 (by omega) (by omega) (by decide) rfl (fun h7 => ?_) (fun h7 => ?_)
        · refine g_iconst 71 dX10_draw_70 (by decide) rfl ?_
          refine g_iret dX10_draw_71 rfl ?_
          unfold M_draw
          (repeat' split) <;> first | (exfalso; omega) | exact ⟨rfl, rfl, rfl⟩ | exact ⟨congrArg (fun x => some (Iv x)) (by omega), rfl, rfl⟩
        refine g_iconst 67 dX10_draw_66 (by decide) rfl ?_
        refine g_goto 71 dX10_draw_67 (by decide) ?_
        refine g_iret dX10_draw_71 rfl ?_
        unfold M_draw
        (repeat' split) <;> first | (exfalso; omega) | exact ⟨rfl, rfl, rfl⟩ | exact ⟨congrArg (fun x => some (Iv x)) (by omega), rfl, rfl⟩
      refine g_aload_n 41 dX10_draw_40 rfl rfl ?_
      refine g_bipush 43 dX10_draw_41 (by decide) rfl ?_
      refine e_V 46 0 0 [Iv (-2)] [] dX10_draw_43 cvX10_145 mwX10_refuse kd_40 (by decide) rfl (by decide) rfl rfl rfl (c_X10_refuse 2 (by decide) (by decide)) ?_
      refine g_iret dX10_draw_46 rfl ?_
      unfold M_draw
      (repeat' split) <;> first | (exfalso; omega) | exact ⟨rfl, rfl, rfl⟩ | exact ⟨congrArg (fun x => some (Iv x)) (by omega), rfl, rfl⟩
    refine g_aload_n 24 dX10_draw_23 rfl rfl ?_
    refine g_bipush 26 dX10_draw_24 (by decide) rfl ?_
    refine e_V 29 0 0 [Iv (-5)] [] dX10_draw_26 cvX10_145 mwX10_refuse kd_40 (by decide) rfl (by decide) rfl rfl rfl (c_X10_refuse 5 (by decide) (by decide)) ?_
    refine g_iret dX10_draw_29 rfl ?_
    unfold M_draw
    (repeat' split) <;> first | (exfalso; omega) | exact ⟨rfl, rfl, rfl⟩ | exact ⟨congrArg (fun x => some (Iv x)) (by omega), rfl, rfl⟩
  refine g_if_ne 14 8 dX10_draw_5 (by omega) (by decide) rfl (fun z => absurd z (by decide)) (fun _ => ?_)
  refine g_aload_n 9 dX10_draw_8 rfl rfl ?_
  refine g_iconst 10 dX10_draw_9 (by decide) rfl ?_
  refine e_V 13 0 0 [Iv (-1)] [] dX10_draw_10 cvX10_145 mwX10_refuse kd_40 (by decide) rfl (by decide) rfl rfl rfl (c_X10_refuse 1 (by decide) (by decide)) ?_
  refine g_iret dX10_draw_13 rfl ?_
  unfold M_draw
  (repeat' split) <;> first | (exfalso; omega) | exact ⟨rfl, rfl, rfl⟩ | exact ⟨congrArg (fun x => some (Iv x)) (by omega), rfl, rfl⟩
set_option maxHeartbeats 4000000 in
set_option maxRecDepth 20000 in
theorem c_X10_brew {B : Bs} {n0 : Nat} {V : Vs} {κ : Ks} {s n : Int} (r_s : inR s) (r_n : inR n)  (hI : MI κ) : Ct (XR B n0) mX10_brew 3 0 0 [Rf 40, Iv s, Iv n] V κ (PM (M_brew κ s n) V) := by
  obtain ⟨⟨i0, i1, i2, i3, i4, i5, i6, i7, i8, i9⟩, iS, iH, iR, iT, iC, iG, iL, iZ⟩ := id hI
  refine Ct.of (L := [some (Rf 40), some (Iv s), some (Iv n)]) 0 (by decide +kernel) rfl rfl ?_
  refine g_aload_n 1 dX10_brew_0 rfl rfl ?_
  refine g_iload_n 2 dX10_brew_1 rfl rfl ?_
  refine o_V 5 0 0 [Iv s] [] dX10_brew_2 cvX10_156 mwX10_isStreet kd_40 (by decide) rfl (by decide) rfl rfl rfl (c_X10_isStreet (by omega) hI) (fun h1 => ?_) (fun h1 => ?_)
  · refine g_if_ne 14 8 dX10_brew_5 (by omega) (by decide) rfl (fun _ => ?_) (fun z => absurd z (by decide))
    refine g_aload_n 15 dX10_brew_14 rfl rfl ?_
    refine g_getC 18 dX10_brew_15 fgX10_33 kd_40 ly_40_16 rfl ?_
    refine g_iload_n 19 dX10_brew_18 rfl rfl ?_
    refine r_iald 20 ((s).toNat) (κ 57 ((s).toNat)) dX10_brew_19 kd_57 (by decide) (by omega) (rfl) rfl (rfl) (fun r2 => ?_)
    refine g_if_ne 30 23 dX10_brew_20 (by omega) (by decide) rfl (fun h3 => ?_) (fun h3 => ?_)
    · refine g_aload_n 31 dX10_brew_30 rfl rfl ?_
      refine g_getC 34 dX10_brew_31 fgX10_33 kd_40 ly_40_16 rfl ?_
      refine g_iload_n 35 dX10_brew_34 rfl rfl ?_
      refine r_iald 36 ((s).toNat) (κ 57 ((s).toNat)) dX10_brew_35 kd_57 (by decide) (by omega) (rfl) rfl (rfl) (fun r4 => ?_)
      refine g_iconst 37 dX10_brew_36 (by decide) rfl ?_
      refine g_icmp_ne 47 40 dX10_brew_37 (by omega) (by omega) (by decide) rfl (fun h5 => ?_) (fun h5 => ?_)
      · refine g_iload_n 48 dX10_brew_47 rfl rfl ?_
        refine g_if_ge 58 51 dX10_brew_48 (by omega) (by decide) rfl (fun h6 => ?_) (fun h6 => ?_)
        · refine g_iload_n 59 dX10_brew_58 rfl rfl ?_
          refine g_aload_n 60 dX10_brew_59 rfl rfl ?_
          refine g_getC 63 dX10_brew_60 fgX10_39 kd_40 ly_40_18 rfl ?_
          refine g_iload_n 64 dX10_brew_63 rfl rfl ?_
          refine r_iald 65 ((s).toNat) (κ 59 ((s).toNat)) dX10_brew_64 kd_59 (by decide) (by omega) (rfl) rfl (rfl) (fun r7 => ?_)
          refine g_icmp_le 75 68 dX10_brew_65 (by omega) (by omega) (by decide) rfl (fun h8 => ?_) (fun h8 => ?_)
          · refine g_aload_n 76 dX10_brew_75 rfl rfl ?_
            refine g_getC 79 dX10_brew_76 fgX10_39 kd_40 ly_40_18 rfl ?_
            refine g_iload_n 80 dX10_brew_79 rfl rfl ?_
            refine g_dup2 81 dX10_brew_80 rfl ?_
            refine r_iald 82 ((s).toNat) (κ 59 ((s).toNat)) dX10_brew_81 kd_59 (by decide) (by omega) (rfl) rfl (rfl) (fun r9 => ?_)
            refine g_iload_n 83 dX10_brew_82 rfl rfl ?_
            refine g_isub 84 dX10_brew_83 rfl ?_
            refine r_iast 85 ((s).toNat) dX10_brew_84 kd_59 (by decide) ly_59 (by omega) (rfl) (by omega) rfl ?_
            refine g_aload_n 86 dX10_brew_85 rfl rfl ?_
            refine g_getC 89 dX10_brew_86 fgX10_39 kd_40 ly_40_18 rfl ?_
            refine g_iload_n 90 dX10_brew_89 rfl rfl ?_
            refine r_iald 91 ((s).toNat) (((κ 59 ((s).toNat)) - n)) dX10_brew_90 kd_59 (by decide) (by omega) (rfl) rfl (rd_s rfl rfl rfl) (fun r10 => ?_)
            refine g_iret dX10_brew_91 rfl ?_
            unfold M_brew
            (repeat' split) <;> first | (exfalso; omega) | exact ⟨rfl, rfl, rfl⟩ | exact ⟨congrArg (fun x => some (Iv x)) (by omega), rfl, rfl⟩
          refine g_aload_n 69 dX10_brew_68 rfl rfl ?_
          refine g_bipush 71 dX10_brew_69 (by decide) rfl ?_
          refine e_V 74 0 0 [Iv (-6)] [] dX10_brew_71 cvX10_145 mwX10_refuse kd_40 (by decide) rfl (by decide) rfl rfl rfl (c_X10_refuse 6 (by decide) (by decide)) ?_
          refine g_iret dX10_brew_74 rfl ?_
          unfold M_brew
          (repeat' split) <;> first | (exfalso; omega) | exact ⟨rfl, rfl, rfl⟩ | exact ⟨congrArg (fun x => some (Iv x)) (by omega), rfl, rfl⟩
        refine g_aload_n 52 dX10_brew_51 rfl rfl ?_
        refine g_bipush 54 dX10_brew_52 (by decide) rfl ?_
        refine e_V 57 0 0 [Iv (-4)] [] dX10_brew_54 cvX10_145 mwX10_refuse kd_40 (by decide) rfl (by decide) rfl rfl rfl (c_X10_refuse 4 (by decide) (by decide)) ?_
        refine g_iret dX10_brew_57 rfl ?_
        unfold M_brew
        (repeat' split) <;> first | (exfalso; omega) | exact ⟨rfl, rfl, rfl⟩ | exact ⟨congrArg (fun x => some (Iv x)) (by omega), rfl, rfl⟩
      refine g_aload_n 41 dX10_brew_40 rfl rfl ?_
      refine g_bipush 43 dX10_brew_41 (by decide) rfl ?_
      refine e_V 46 0 0 [Iv (-2)] [] dX10_brew_43 cvX10_145 mwX10_refuse kd_40 (by decide) rfl (by decide) rfl rfl rfl (c_X10_refuse 2 (by decide) (by decide)) ?_
      refine g_iret dX10_brew_46 rfl ?_
      unfold M_brew
      (repeat' split) <;> first | (exfalso; omega) | exact ⟨rfl, rfl, rfl⟩ | exact ⟨congrArg (fun x => some (Iv x)) (by omega), rfl, rfl⟩
    refine g_aload_n 24 dX10_brew_23 rfl rfl ?_
    refine g_bipush 26 dX10_brew_24 (by decide) rfl ?_
    refine e_V 29 0 0 [Iv (-5)] [] dX10_brew_26 cvX10_145 mwX10_refuse kd_40 (by decide) rfl (by decide) rfl rfl rfl (c_X10_refuse 5 (by decide) (by decide)) ?_
    refine g_iret dX10_brew_29 rfl ?_
    unfold M_brew
    (repeat' split) <;> first | (exfalso; omega) | exact ⟨rfl, rfl, rfl⟩ | exact ⟨congrArg (fun x => some (Iv x)) (by omega), rfl, rfl⟩
  refine g_if_ne 14 8 dX10_brew_5 (by omega) (by decide) rfl (fun z => absurd z (by decide)) (fun _ => ?_)
  refine g_aload_n 9 dX10_brew_8 rfl rfl ?_
  refine g_iconst 10 dX10_brew_9 (by decide) rfl ?_
  refine e_V 13 0 0 [Iv (-1)] [] dX10_brew_10 cvX10_145 mwX10_refuse kd_40 (by decide) rfl (by decide) rfl rfl rfl (c_X10_refuse 1 (by decide) (by decide)) ?_
  refine g_iret dX10_brew_13 rfl ?_
  unfold M_brew
  (repeat' split) <;> first | (exfalso; omega) | exact ⟨rfl, rfl, rfl⟩ | exact ⟨congrArg (fun x => some (Iv x)) (by omega), rfl, rfl⟩
set_option maxHeartbeats 4000000 in
set_option maxRecDepth 20000 in
theorem c_X10_turn {B : Bs} {n0 : Nat} {V : Vs} {κ : Ks} {s c y h n : Int} (r_s : inR s) (r_c : inR c) (r_y : inR y) (r_h : inR h) (r_n : inR n)  (hI : MI κ) : Ct (XR B n0) mX10_turn 3 0 0 [Rf 40, Iv s, Iv c, Iv y, Iv h, Iv n] V κ (PM (M_turn κ s c y h n) V) := by
  obtain ⟨⟨i0, i1, i2, i3, i4, i5, i6, i7, i8, i9⟩, iS, iH, iR, iT, iC, iG, iL, iZ⟩ := id hI
  refine Ct.of (L := [some (Rf 40), some (Iv s), some (Iv c), some (Iv y), some (Iv h), some (Iv n)]) 0 (by decide +kernel) rfl rfl ?_
  refine g_aload_n 1 dX10_turn_0 rfl rfl ?_
  refine g_iload_n 2 dX10_turn_1 rfl rfl ?_
  refine o_V 5 0 0 [Iv s] [] dX10_turn_2 cvX10_156 mwX10_isStreet kd_40 (by decide) rfl (by decide) rfl rfl rfl (c_X10_isStreet (by omega) hI) (fun h1 => ?_) (fun h1 => ?_)
  · refine g_if_eq 17 8 dX10_turn_5 (by omega) (by decide) rfl (fun z => absurd z (by decide)) (fun _ => ?_)
    refine g_iload_n 9 dX10_turn_8 rfl rfl ?_
    refine g_iconst 10 dX10_turn_9 (by decide) rfl ?_
    refine g_iconst 11 dX10_turn_10 (by decide) rfl ?_
    refine o_S 14 0 0 [Iv c, Iv 0, Iv 2] [] dX10_turn_11 csX10_138 mwX10_in (by decide) rfl (by decide) rfl rfl rfl (c_X10_in (by omega) (by omega) (by omega)) (fun h2 => ?_) (fun h2 => ?_)
    · refine g_if_ne 23 17 dX10_turn_14 (by omega) (by decide) rfl (fun _ => ?_) (fun z => absurd z (by decide))
      refine g_iload_n 24 dX10_turn_23 rfl rfl ?_
      refine g_if_lt 38 27 dX10_turn_24 (by omega) (by decide) rfl (fun h3 => ?_) (fun h3 => ?_)
      · refine g_aload_n 39 dX10_turn_38 rfl rfl ?_
        refine g_bipush 41 dX10_turn_39 (by decide) rfl ?_
        refine e_V 44 0 0 [Iv (-4)] [] dX10_turn_41 cvX10_145 mwX10_refuse kd_40 (by decide) rfl (by decide) rfl rfl rfl (c_X10_refuse 4 (by decide) (by decide)) ?_
        refine g_iret dX10_turn_44 rfl ?_
        unfold M_turn
        (repeat' split) <;> first | (exfalso; omega) | exact ⟨rfl, rfl, rfl⟩ | exact ⟨congrArg (fun x => some (Iv x)) (by omega), rfl, rfl⟩
      refine g_iload 29 dX10_turn_27 rfl rfl ?_
      refine g_if_lt 38 32 dX10_turn_29 (by omega) (by decide) rfl (fun h4 => ?_) (fun h4 => ?_)
      · refine g_aload_n 39 dX10_turn_38 rfl rfl ?_
        refine g_bipush 41 dX10_turn_39 (by decide) rfl ?_
        refine e_V 44 0 0 [Iv (-4)] [] dX10_turn_41 cvX10_145 mwX10_refuse kd_40 (by decide) rfl (by decide) rfl rfl rfl (c_X10_refuse 4 (by decide) (by decide)) ?_
        refine g_iret dX10_turn_44 rfl ?_
        unfold M_turn
        (repeat' split) <;> first | (exfalso; omega) | exact ⟨rfl, rfl, rfl⟩ | exact ⟨congrArg (fun x => some (Iv x)) (by omega), rfl, rfl⟩
      refine g_iload 34 dX10_turn_32 rfl rfl ?_
      refine g_iconst 35 dX10_turn_34 (by decide) rfl ?_
      refine g_icmp_ge 45 38 dX10_turn_35 (by omega) (by omega) (by decide) rfl (fun h5 => ?_) (fun h5 => ?_)
      · refine g_iload_n 46 dX10_turn_45 rfl rfl ?_
        refine g_bipush 48 dX10_turn_46 (by decide) rfl ?_
        refine g_icmp_gt 74 51 dX10_turn_48 (by omega) (by omega) (by decide) rfl (fun h6 => ?_) (fun h6 => ?_)
        · refine g_aload_n 75 dX10_turn_74 rfl rfl ?_
          refine g_bipush 77 dX10_turn_75 (by decide) rfl ?_
          refine e_V 80 0 0 [Iv (-6)] [] dX10_turn_77 cvX10_145 mwX10_refuse kd_40 (by decide) rfl (by decide) rfl rfl rfl (c_X10_refuse 6 (by decide) (by decide)) ?_
          refine g_iret dX10_turn_80 rfl ?_
          unfold M_turn
          (repeat' split) <;> first | (exfalso; omega) | exact ⟨rfl, rfl, rfl⟩ | exact ⟨congrArg (fun x => some (Iv x)) (by omega), rfl, rfl⟩
        refine g_iload 53 dX10_turn_51 rfl rfl ?_
        refine g_bipush 55 dX10_turn_53 (by decide) rfl ?_
        refine g_icmp_gt 74 58 dX10_turn_55 (by omega) (by omega) (by decide) rfl (fun h7 => ?_) (fun h7 => ?_)
        · refine g_aload_n 75 dX10_turn_74 rfl rfl ?_
          refine g_bipush 77 dX10_turn_75 (by decide) rfl ?_
          refine e_V 80 0 0 [Iv (-6)] [] dX10_turn_77 cvX10_145 mwX10_refuse kd_40 (by decide) rfl (by decide) rfl rfl rfl (c_X10_refuse 6 (by decide) (by decide)) ?_
          refine g_iret dX10_turn_80 rfl ?_
          unfold M_turn
          (repeat' split) <;> first | (exfalso; omega) | exact ⟨rfl, rfl, rfl⟩ | exact ⟨congrArg (fun x => some (Iv x)) (by omega), rfl, rfl⟩
        refine g_iload 60 dX10_turn_58 rfl rfl ?_
        refine g_bipush 62 dX10_turn_60 (by decide) rfl ?_
        refine g_icmp_gt 74 65 dX10_turn_62 (by omega) (by omega) (by decide) rfl (fun h8 => ?_) (fun h8 => ?_)
        · refine g_aload_n 75 dX10_turn_74 rfl rfl ?_
          refine g_bipush 77 dX10_turn_75 (by decide) rfl ?_
          refine e_V 80 0 0 [Iv (-6)] [] dX10_turn_77 cvX10_145 mwX10_refuse kd_40 (by decide) rfl (by decide) rfl rfl rfl (c_X10_refuse 6 (by decide) (by decide)) ?_
          refine g_iret dX10_turn_80 rfl ?_
          unfold M_turn
          (repeat' split) <;> first | (exfalso; omega) | exact ⟨rfl, rfl, rfl⟩ | exact ⟨congrArg (fun x => some (Iv x)) (by omega), rfl, rfl⟩
        refine g_aload_n 66 dX10_turn_65 rfl rfl ?_
        refine r_getI 69 (κ 40 31) dX10_turn_66 fgX10_164 kd_40 ly_40_31 rfl (rfl) (fun r9 => ?_)
        refine g_bipush 71 dX10_turn_69 (by decide) rfl ?_
        refine g_icmp_ne 81 74 dX10_turn_71 (by omega) (by omega) (by decide) rfl (fun h10 => ?_) (fun h10 => ?_)
        · refine g_aload_n 82 dX10_turn_81 rfl rfl ?_
          refine g_getC 85 dX10_turn_82 fgX10_75 kd_40 ly_40_32 rfl ?_
          refine g_aload_n 86 dX10_turn_85 rfl rfl ?_
          refine r_getI 89 (κ 40 31) dX10_turn_86 fgX10_164 kd_40 ly_40_31 rfl (rfl) (fun r11 => ?_)
          refine g_iload_n 90 dX10_turn_89 rfl rfl ?_
          refine r_iast 91 ((κ 40 31).toNat) dX10_turn_90 kd_73 (by decide) ly_73 (by omega) (rfl) (by omega) rfl ?_
          refine g_aload_n 92 dX10_turn_91 rfl rfl ?_
          refine g_getC 95 dX10_turn_92 fgX10_78 kd_40 ly_40_33 rfl ?_
          refine g_aload_n 96 dX10_turn_95 rfl rfl ?_
          refine r_getI 99 (κ 40 31) dX10_turn_96 fgX10_164 kd_40 ly_40_31 rfl (rd_t (by decide) (rfl)) (fun r12 => ?_)
          refine g_iload_n 100 dX10_turn_99 rfl rfl ?_
          refine r_iast 101 ((κ 40 31).toNat) dX10_turn_100 kd_74 (by decide) ly_74 (by omega) (rfl) (by omega) rfl ?_
          refine g_aload_n 102 dX10_turn_101 rfl rfl ?_
          refine g_getC 105 dX10_turn_102 fgX10_81 kd_40 ly_40_34 rfl ?_
          refine g_aload_n 106 dX10_turn_105 rfl rfl ?_
          refine r_getI 109 (κ 40 31) dX10_turn_106 fgX10_164 kd_40 ly_40_31 rfl (rd_t (by decide) (rd_t (by decide) (rfl))) (fun r13 => ?_)
          refine g_bipush 111 dX10_turn_109 (by decide) rfl ?_
          refine g_iload_n 112 dX10_turn_111 rfl rfl ?_
          refine g_imul 113 dX10_turn_112 rfl ?_
          refine g_iload 115 dX10_turn_113 rfl rfl ?_
          refine g_iadd 116 dX10_turn_115 rfl ?_
          refine r_iast 117 ((κ 40 31).toNat) dX10_turn_116 kd_75 (by decide) ly_75 (by omega) (rfl) (by omega) rfl ?_
          refine g_aload_n 118 dX10_turn_117 rfl rfl ?_
          refine g_getC 121 dX10_turn_118 fgX10_84 kd_40 ly_40_35 rfl ?_
          refine g_aload_n 122 dX10_turn_121 rfl rfl ?_
          refine r_getI 125 (κ 40 31) dX10_turn_122 fgX10_164 kd_40 ly_40_31 rfl (rd_t (by decide) (rd_t (by decide) (rd_t (by decide) (rfl)))) (fun r14 => ?_)
          refine g_iload 127 dX10_turn_125 rfl rfl ?_
          refine r_iast 128 ((κ 40 31).toNat) dX10_turn_127 kd_76 (by decide) ly_76 (by omega) (rfl) (by omega) rfl ?_
          refine g_aload_n 129 dX10_turn_128 rfl rfl ?_
          refine g_dup 130 dX10_turn_129 rfl ?_
          refine r_getI 133 (κ 40 31) dX10_turn_130 fgX10_164 kd_40 ly_40_31 rfl (rd_t (by decide) (rd_t (by decide) (rd_t (by decide) (rd_t (by decide) (rfl))))) (fun r15 => ?_)
          refine g_iconst 134 dX10_turn_133 (by decide) rfl ?_
          refine g_iadd 135 dX10_turn_134 rfl ?_
          refine g_putI 138 dX10_turn_135 fpX10_164 (fun h => (nomatch h)) kd_40 ly_40_31 (by omega) rfl ?_
          refine g_aload_n 139 dX10_turn_138 rfl rfl ?_
          refine r_getI 142 (((κ 40 31) + 1)) dX10_turn_139 fgX10_164 kd_40 ly_40_31 rfl (rd_s rfl rfl rfl) (fun r16 => ?_)
          refine g_iconst 143 dX10_turn_142 (by decide) rfl ?_
          refine g_isub 144 dX10_turn_143 rfl ?_
          refine g_iret dX10_turn_144 rfl ?_
          unfold M_turn
          (repeat' split) <;> first | (exfalso; omega) | exact ⟨rfl, rfl, rfl⟩ | exact ⟨congrArg (fun x => some (Iv x)) (by omega), rfl, rfl⟩
        refine g_aload_n 75 dX10_turn_74 rfl rfl ?_
        refine g_bipush 77 dX10_turn_75 (by decide) rfl ?_
        refine e_V 80 0 0 [Iv (-6)] [] dX10_turn_77 cvX10_145 mwX10_refuse kd_40 (by decide) rfl (by decide) rfl rfl rfl (c_X10_refuse 6 (by decide) (by decide)) ?_
        refine g_iret dX10_turn_80 rfl ?_
        unfold M_turn
        (repeat' split) <;> first | (exfalso; omega) | exact ⟨rfl, rfl, rfl⟩ | exact ⟨congrArg (fun x => some (Iv x)) (by omega), rfl, rfl⟩
      refine g_aload_n 39 dX10_turn_38 rfl rfl ?_
      refine g_bipush 41 dX10_turn_39 (by decide) rfl ?_
      refine e_V 44 0 0 [Iv (-4)] [] dX10_turn_41 cvX10_145 mwX10_refuse kd_40 (by decide) rfl (by decide) rfl rfl rfl (c_X10_refuse 4 (by decide) (by decide)) ?_
      refine g_iret dX10_turn_44 rfl ?_
      unfold M_turn
      (repeat' split) <;> first | (exfalso; omega) | exact ⟨rfl, rfl, rfl⟩ | exact ⟨congrArg (fun x => some (Iv x)) (by omega), rfl, rfl⟩
    refine g_if_ne 23 17 dX10_turn_14 (by omega) (by decide) rfl (fun z => absurd z (by decide)) (fun _ => ?_)
    refine g_aload_n 18 dX10_turn_17 rfl rfl ?_
    refine g_iconst 19 dX10_turn_18 (by decide) rfl ?_
    refine e_V 22 0 0 [Iv (-1)] [] dX10_turn_19 cvX10_145 mwX10_refuse kd_40 (by decide) rfl (by decide) rfl rfl rfl (c_X10_refuse 1 (by decide) (by decide)) ?_
    refine g_iret dX10_turn_22 rfl ?_
    unfold M_turn
    (repeat' split) <;> first | (exfalso; omega) | exact ⟨rfl, rfl, rfl⟩ | exact ⟨congrArg (fun x => some (Iv x)) (by omega), rfl, rfl⟩
  refine g_if_eq 17 8 dX10_turn_5 (by omega) (by decide) rfl (fun _ => ?_) (fun z => absurd z (by decide))
  refine g_aload_n 18 dX10_turn_17 rfl rfl ?_
  refine g_iconst 19 dX10_turn_18 (by decide) rfl ?_
  refine e_V 22 0 0 [Iv (-1)] [] dX10_turn_19 cvX10_145 mwX10_refuse kd_40 (by decide) rfl (by decide) rfl rfl rfl (c_X10_refuse 1 (by decide) (by decide)) ?_
  refine g_iret dX10_turn_22 rfl ?_
  unfold M_turn
  (repeat' split) <;> first | (exfalso; omega) | exact ⟨rfl, rfl, rfl⟩ | exact ⟨congrArg (fun x => some (Iv x)) (by omega), rfl, rfl⟩
set_option maxHeartbeats 4000000 in
set_option maxRecDepth 20000 in
theorem c_X10_iron {B : Bs} {n0 : Nat} {V : Vs} {κ : Ks} {s : Int} (r_s : inR s)  (hI : MI κ) : Ct (XR B n0) mX10_iron 3 0 0 [Rf 40, Iv s] V κ (PM (M_iron κ s) V) := by
  obtain ⟨⟨i0, i1, i2, i3, i4, i5, i6, i7, i8, i9⟩, iS, iH, iR, iT, iC, iG, iL, iZ⟩ := id hI
  refine Ct.of (L := [some (Rf 40), some (Iv s), none]) 1 (by decide +kernel) rfl rfl ?_
  refine g_aload_n 1 dX10_iron_0 rfl rfl ?_
  refine g_iload_n 2 dX10_iron_1 rfl rfl ?_
  refine o_V 5 0 0 [Iv s] [] dX10_iron_2 cvX10_156 mwX10_isStreet kd_40 (by decide) rfl (by decide) rfl rfl rfl (c_X10_isStreet (by omega) hI) (fun h1 => ?_) (fun h1 => ?_)
  · refine g_if_ne 14 8 dX10_iron_5 (by omega) (by decide) rfl (fun _ => ?_) (fun z => absurd z (by decide))
    refine g_aload_n 15 dX10_iron_14 rfl rfl ?_
    refine g_getC 18 dX10_iron_15 fgX10_29 kd_40 ly_40_15 rfl ?_
    refine g_iload_n 19 dX10_iron_18 rfl rfl ?_
    refine r_zald 20 ((s).toNat) (κ 56 ((s).toNat)) dX10_iron_19 kd_56 (by decide) (by omega) (rfl) rfl (rfl) (fun r2 => ?_)
    refine g_if_eq 30 23 dX10_iron_20 (by omega) (by decide) rfl (fun h3 => ?_) (fun h3 => ?_)
    · refine g_aload_n 31 dX10_iron_30 rfl rfl ?_
      refine g_getC 34 dX10_iron_31 fgX10_29 kd_40 ly_40_15 rfl ?_
      refine g_iload_n 35 dX10_iron_34 rfl rfl ?_
      refine g_iconst 36 dX10_iron_35 (by decide) rfl ?_
      refine r_zast 37 ((s).toNat) dX10_iron_36 kd_56 (by decide) ly_56 (by omega) (rfl) (by omega) rfl ?_
      refine g_aload_n 38 dX10_iron_37 rfl rfl ?_
      refine r_getI 41 (κ 40 0) dX10_iron_38 fgX10_149 kd_40 ly_40_0 rfl (rd_t (by decide) (rfl)) (fun r4 => ?_)
      refine g_sipush 44 dX10_iron_41 (by decide) rfl ?_
      refine g_idiv 45 dX10_iron_44 (by omega) (by omega) rfl ?_
      refine g_aload_n 46 dX10_iron_45 rfl rfl ?_
      refine g_getC 49 dX10_iron_46 fgX10_26 kd_40 ly_40_14 rfl ?_
      refine g_iload_n 50 dX10_iron_49 rfl rfl ?_
      refine r_iald 51 ((s).toNat) (κ 55 ((s).toNat)) dX10_iron_50 kd_55 (by decide) (by omega) (rfl) rfl (rd_t (by decide) (rfl)) (fun r5 => ?_)
      refine g_isub 52 dX10_iron_51 rfl ?_
      refine g_istore_n (L' := [some (Rf 40), some (Iv s), some (Iv (((κ 40 0) / 168) - (κ 55 ((s).toNat))))]) 53 dX10_iron_52 rfl (by decide) rfl ?_
      refine g_aload_n 54 dX10_iron_53 rfl rfl ?_
      refine g_getC 57 dX10_iron_54 fgX10_26 kd_40 ly_40_14 rfl ?_
      refine g_iload_n 58 dX10_iron_57 rfl rfl ?_
      refine g_aload_n 59 dX10_iron_58 rfl rfl ?_
      refine r_getI 62 (κ 40 0) dX10_iron_59 fgX10_149 kd_40 ly_40_0 rfl (rd_t (by decide) (rfl)) (fun r6 => ?_)
      refine g_sipush 65 dX10_iron_62 (by decide) rfl ?_
      refine g_idiv 66 dX10_iron_65 (by omega) (by omega) rfl ?_
      refine r_iast 67 ((s).toNat) dX10_iron_66 kd_55 (by decide) ly_55 (by omega) (rfl) (by omega) rfl ?_
      refine g_iload_n 68 dX10_iron_67 rfl rfl ?_
      refine g_iret dX10_iron_68 rfl ?_
      unfold M_iron
      (repeat' split) <;> first | (exfalso; omega) | exact ⟨rfl, rfl, rfl⟩ | exact ⟨congrArg (fun x => some (Iv x)) (by omega), rfl, rfl⟩
    refine g_aload_n 24 dX10_iron_23 rfl rfl ?_
    refine g_bipush 26 dX10_iron_24 (by decide) rfl ?_
    refine e_V 29 0 0 [Iv (-3)] [] dX10_iron_26 cvX10_145 mwX10_refuse kd_40 (by decide) rfl (by decide) rfl rfl rfl (c_X10_refuse 3 (by decide) (by decide)) ?_
    refine g_iret dX10_iron_29 rfl ?_
    unfold M_iron
    (repeat' split) <;> first | (exfalso; omega) | exact ⟨rfl, rfl, rfl⟩ | exact ⟨congrArg (fun x => some (Iv x)) (by omega), rfl, rfl⟩
  refine g_if_ne 14 8 dX10_iron_5 (by omega) (by decide) rfl (fun z => absurd z (by decide)) (fun _ => ?_)
  refine g_aload_n 9 dX10_iron_8 rfl rfl ?_
  refine g_iconst 10 dX10_iron_9 (by decide) rfl ?_
  refine e_V 13 0 0 [Iv (-1)] [] dX10_iron_10 cvX10_145 mwX10_refuse kd_40 (by decide) rfl (by decide) rfl rfl rfl (c_X10_refuse 1 (by decide) (by decide)) ?_
  refine g_iret dX10_iron_13 rfl ?_
  unfold M_iron
  (repeat' split) <;> first | (exfalso; omega) | exact ⟨rfl, rfl, rfl⟩ | exact ⟨congrArg (fun x => some (Iv x)) (by omega), rfl, rfl⟩
set_option maxHeartbeats 4000000 in
set_option maxRecDepth 20000 in
theorem c_X10_renew {B : Bs} {n0 : Nat} {V : Vs} {κ : Ks} {s : Int} (r_s : inR s)  (hI : MI κ) : Ct (XR B n0) mX10_renew 3 0 0 [Rf 40, Iv s] V κ (PM (M_renew κ s) V) := by
  obtain ⟨⟨i0, i1, i2, i3, i4, i5, i6, i7, i8, i9⟩, iS, iH, iR, iT, iC, iG, iL, iZ⟩ := id hI
  refine Ct.of (L := [some (Rf 40), some (Iv s), none]) 1 (by decide +kernel) rfl rfl ?_
  refine g_aload_n 1 dX10_renew_0 rfl rfl ?_
  refine g_iload_n 2 dX10_renew_1 rfl rfl ?_
  refine o_V 5 0 0 [Iv s] [] dX10_renew_2 cvX10_156 mwX10_isStreet kd_40 (by decide) rfl (by decide) rfl rfl rfl (c_X10_isStreet (by omega) hI) (fun h1 => ?_) (fun h1 => ?_)
  · refine g_if_ne 14 8 dX10_renew_5 (by omega) (by decide) rfl (fun _ => ?_) (fun z => absurd z (by decide))
    refine g_aload_n 15 dX10_renew_14 rfl rfl ?_
    refine g_getC 18 dX10_renew_15 fgX10_29 kd_40 ly_40_15 rfl ?_
    refine g_iload_n 19 dX10_renew_18 rfl rfl ?_
    refine r_zald 20 ((s).toNat) (κ 56 ((s).toNat)) dX10_renew_19 kd_56 (by decide) (by omega) (rfl) rfl (rfl) (fun r2 => ?_)
    refine g_if_eq 30 23 dX10_renew_20 (by omega) (by decide) rfl (fun h3 => ?_) (fun h3 => ?_)
    · refine g_aload_n 31 dX10_renew_30 rfl rfl ?_
      refine r_getI 34 (κ 40 0) dX10_renew_31 fgX10_149 kd_40 ly_40_0 rfl (rfl) (fun r4 => ?_)
      refine g_sipush 37 dX10_renew_34 (by decide) rfl ?_
      refine g_idiv 38 dX10_renew_37 (by omega) (by omega) rfl ?_
      refine g_aload_n 39 dX10_renew_38 rfl rfl ?_
      refine g_getC 42 dX10_renew_39 fgX10_26 kd_40 ly_40_14 rfl ?_
      refine g_iload_n 43 dX10_renew_42 rfl rfl ?_
      refine r_iald 44 ((s).toNat) (κ 55 ((s).toNat)) dX10_renew_43 kd_55 (by decide) (by omega) (rfl) rfl (rfl) (fun r5 => ?_)
      refine g_isub 45 dX10_renew_44 rfl ?_
      refine g_istore_n (L' := [some (Rf 40), some (Iv s), some (Iv (((κ 40 0) / 168) - (κ 55 ((s).toNat))))]) 46 dX10_renew_45 rfl (by decide) rfl ?_
      refine g_aload_n 47 dX10_renew_46 rfl rfl ?_
      refine g_getC 50 dX10_renew_47 fgX10_26 kd_40 ly_40_14 rfl ?_
      refine g_iload_n 51 dX10_renew_50 rfl rfl ?_
      refine g_aload_n 52 dX10_renew_51 rfl rfl ?_
      refine r_getI 55 (κ 40 0) dX10_renew_52 fgX10_149 kd_40 ly_40_0 rfl (rfl) (fun r6 => ?_)
      refine g_sipush 58 dX10_renew_55 (by decide) rfl ?_
      refine g_idiv 59 dX10_renew_58 (by omega) (by omega) rfl ?_
      refine r_iast 60 ((s).toNat) dX10_renew_59 kd_55 (by decide) ly_55 (by omega) (rfl) (by omega) rfl ?_
      refine g_iload_n 61 dX10_renew_60 rfl rfl ?_
      refine g_iret dX10_renew_61 rfl ?_
      unfold M_renew
      (repeat' split) <;> first | (exfalso; omega) | exact ⟨rfl, rfl, rfl⟩ | exact ⟨congrArg (fun x => some (Iv x)) (by omega), rfl, rfl⟩
    refine g_aload_n 24 dX10_renew_23 rfl rfl ?_
    refine g_bipush 26 dX10_renew_24 (by decide) rfl ?_
    refine e_V 29 0 0 [Iv (-3)] [] dX10_renew_26 cvX10_145 mwX10_refuse kd_40 (by decide) rfl (by decide) rfl rfl rfl (c_X10_refuse 3 (by decide) (by decide)) ?_
    refine g_iret dX10_renew_29 rfl ?_
    unfold M_renew
    (repeat' split) <;> first | (exfalso; omega) | exact ⟨rfl, rfl, rfl⟩ | exact ⟨congrArg (fun x => some (Iv x)) (by omega), rfl, rfl⟩
  refine g_if_ne 14 8 dX10_renew_5 (by omega) (by decide) rfl (fun z => absurd z (by decide)) (fun _ => ?_)
  refine g_aload_n 9 dX10_renew_8 rfl rfl ?_
  refine g_iconst 10 dX10_renew_9 (by decide) rfl ?_
  refine e_V 13 0 0 [Iv (-1)] [] dX10_renew_10 cvX10_145 mwX10_refuse kd_40 (by decide) rfl (by decide) rfl rfl rfl (c_X10_refuse 1 (by decide) (by decide)) ?_
  refine g_iret dX10_renew_13 rfl ?_
  unfold M_renew
  (repeat' split) <;> first | (exfalso; omega) | exact ⟨rfl, rfl, rfl⟩ | exact ⟨congrArg (fun x => some (Iv x)) (by omega), rfl, rfl⟩
set_option maxHeartbeats 4000000 in
set_option maxRecDepth 20000 in
theorem c_X10_stand {B : Bs} {n0 : Nat} {V : Vs} {κ : Ks} {c s : Int} (r_c : inR c) (r_s : inR s)  (hI : MI κ) : Ct (XR B n0) mX10_stand 2 0 0 [Rf 40, Iv c, Iv s] V κ (PM (M_stand κ c s) V) := by
  obtain ⟨⟨i0, i1, i2, i3, i4, i5, i6, i7, i8, i9⟩, iS, iH, iR, iT, iC, iG, iL, iZ⟩ := id hI
  refine Ct.of (L := [some (Rf 40), some (Iv c), some (Iv s), none]) 1 (by decide +kernel) rfl rfl ?_
  refine g_iload_n 1 dX10_stand_0 rfl rfl ?_
  refine g_iconst 2 dX10_stand_1 (by decide) rfl ?_
  refine g_iconst 3 dX10_stand_2 (by decide) rfl ?_
  refine o_S 6 0 0 [Iv c, Iv 0, Iv 2] [] dX10_stand_3 csX10_138 mwX10_in (by decide) rfl (by decide) rfl rfl rfl (c_X10_in (by omega) (by omega) (by omega)) (fun h1 => ?_) (fun h1 => ?_)
  · refine g_if_eq 23 9 dX10_stand_6 (by omega) (by decide) rfl (fun z => absurd z (by decide)) (fun _ => ?_)
    refine g_iload_n 10 dX10_stand_9 rfl rfl ?_
    refine g_iconst 11 dX10_stand_10 (by decide) rfl ?_
    refine g_aload_n 12 dX10_stand_11 rfl rfl ?_
    refine r_getI 15 (κ 40 11) dX10_stand_12 fgX10_135 kd_40 ly_40_11 rfl (rfl) (fun r2 => ?_)
    refine g_iconst 16 dX10_stand_15 (by decide) rfl ?_
    refine g_isub 17 dX10_stand_16 rfl ?_
    refine o_S 20 0 0 [Iv s, Iv (-1), Iv ((κ 40 11) - 1)] [] dX10_stand_17 csX10_138 mwX10_in (by decide) rfl (by decide) rfl rfl rfl (c_X10_in (by omega) (by omega) (by omega)) (fun h3 => ?_) (fun h3 => ?_)
    · refine g_if_ne 36 23 dX10_stand_20 (by omega) (by decide) rfl (fun _ => ?_) (fun z => absurd z (by decide))
      refine g_aload_n 37 dX10_stand_36 rfl rfl ?_
      refine g_getC 40 dX10_stand_37 fgX10_87 kd_40 ly_40_36 rfl ?_
      refine g_iload_n 41 dX10_stand_40 rfl rfl ?_
      refine r_iald 42 ((c).toNat) (κ 77 ((c).toNat)) dX10_stand_41 kd_77 (by decide) (by omega) (rfl) rfl (rfl) (fun r4 => ?_)
      refine g_istore_n (L' := [some (Rf 40), some (Iv c), some (Iv s), some (Iv (κ 77 ((c).toNat)))]) 43 dX10_stand_42 rfl (by decide) rfl ?_
      refine g_aload_n 44 dX10_stand_43 rfl rfl ?_
      refine g_getC 47 dX10_stand_44 fgX10_87 kd_40 ly_40_36 rfl ?_
      refine g_iload_n 48 dX10_stand_47 rfl rfl ?_
      refine g_iload_n 49 dX10_stand_48 rfl rfl ?_
      refine r_iast 50 ((c).toNat) dX10_stand_49 kd_77 (by decide) ly_77 (by omega) (rfl) (by omega) rfl ?_
      refine g_iload_n 51 dX10_stand_50 rfl rfl ?_
      refine g_iret dX10_stand_51 rfl ?_
      unfold M_stand
      (repeat' split) <;> first | (exfalso; omega) | exact ⟨rfl, rfl, rfl⟩ | exact ⟨congrArg (fun x => some (Iv x)) (by omega), rfl, rfl⟩
    refine g_if_ne 36 23 dX10_stand_20 (by omega) (by decide) rfl (fun z => absurd z (by decide)) (fun _ => ?_)
    refine g_aload_n 24 dX10_stand_23 rfl rfl ?_
    refine g_getC 27 dX10_stand_24 fgX10_111 kd_40 ly_40_46 rfl ?_
    refine g_iconst 28 dX10_stand_27 (by decide) rfl ?_
    refine g_dup2 29 dX10_stand_28 rfl ?_
    refine r_iald 30 1 (κ 87 1) dX10_stand_29 kd_87 (by decide) (by omega) (rfl) rfl (rfl) (fun r5 => ?_)
    refine g_iconst 31 dX10_stand_30 (by decide) rfl ?_
    refine g_iadd 32 dX10_stand_31 rfl ?_
    refine r_iastw 33 1 dX10_stand_32 kd_87 (by decide) ly_87 (by omega) (rfl) rfl ?_
    refine g_ldc (n := 2000000001) 35 dX10_stand_33 kcX10_163 (by decide) rfl ?_
    refine g_iret dX10_stand_35 rfl ?_
    unfold M_stand
    (repeat' split) <;> first | (exfalso; omega) | exact ⟨rfl, rfl, rfl⟩ | exact ⟨congrArg (fun x => some (Iv x)) (by omega), rfl, rfl⟩
  refine g_if_eq 23 9 dX10_stand_6 (by omega) (by decide) rfl (fun _ => ?_) (fun z => absurd z (by decide))
  refine g_aload_n 24 dX10_stand_23 rfl rfl ?_
  refine g_getC 27 dX10_stand_24 fgX10_111 kd_40 ly_40_46 rfl ?_
  refine g_iconst 28 dX10_stand_27 (by decide) rfl ?_
  refine g_dup2 29 dX10_stand_28 rfl ?_
  refine r_iald 30 1 (κ 87 1) dX10_stand_29 kd_87 (by decide) (by omega) (rfl) rfl (rfl) (fun r6 => ?_)
  refine g_iconst 31 dX10_stand_30 (by decide) rfl ?_
  refine g_iadd 32 dX10_stand_31 rfl ?_
  refine r_iastw 33 1 dX10_stand_32 kd_87 (by decide) ly_87 (by omega) (rfl) rfl ?_
  refine g_ldc (n := 2000000001) 35 dX10_stand_33 kcX10_163 (by decide) rfl ?_
  refine g_iret dX10_stand_35 rfl ?_
  unfold M_stand
  (repeat' split) <;> first | (exfalso; omega) | exact ⟨rfl, rfl, rfl⟩ | exact ⟨congrArg (fun x => some (Iv x)) (by omega), rfl, rfl⟩
set_option maxHeartbeats 4000000 in
set_option maxRecDepth 20000 in
theorem c_X10_reading {B : Bs} {n0 : Nat} {V : Vs} {κ : Ks} {s i t d : Int} (r_s : inR s) (r_i : inR i) (r_t : inR t) (r_d : inR d)  (hI : MI κ) : Ct (XR B n0) mX10_reading 3 0 0 [Rf 40, Iv s, Iv i, Iv t, Iv d] V κ (PM (M_reading κ s i t d) V) := by
  obtain ⟨⟨i0, i1, i2, i3, i4, i5, i6, i7, i8, i9⟩, iS, iH, iR, iT, iC, iG, iL, iZ⟩ := id hI
  refine Ct.of (L := [some (Rf 40), some (Iv s), some (Iv i), some (Iv t), some (Iv d)]) 0 (by decide +kernel) rfl rfl ?_
  refine g_aload_n 1 dX10_reading_0 rfl rfl ?_
  refine g_iload_n 2 dX10_reading_1 rfl rfl ?_
  refine o_V 5 0 0 [Iv s] [] dX10_reading_2 cvX10_156 mwX10_isStreet kd_40 (by decide) rfl (by decide) rfl rfl rfl (c_X10_isStreet (by omega) hI) (fun h1 => ?_) (fun h1 => ?_)
  · refine g_if_ne 14 8 dX10_reading_5 (by omega) (by decide) rfl (fun _ => ?_) (fun z => absurd z (by decide))
    refine g_iload_n 15 dX10_reading_14 rfl rfl ?_
    refine g_if_lt 27 18 dX10_reading_15 (by omega) (by decide) rfl (fun h2 => ?_) (fun h2 => ?_)
    · refine g_aload_n 28 dX10_reading_27 rfl rfl ?_
      refine g_bipush 30 dX10_reading_28 (by decide) rfl ?_
      refine e_V 33 0 0 [Iv (-4)] [] dX10_reading_30 cvX10_145 mwX10_refuse kd_40 (by decide) rfl (by decide) rfl rfl rfl (c_X10_refuse 4 (by decide) (by decide)) ?_
      refine g_iret dX10_reading_33 rfl ?_
      unfold M_reading
      (repeat' split) <;> first | (exfalso; omega) | exact ⟨rfl, rfl, rfl⟩ | exact ⟨congrArg (fun x => some (Iv x)) (by omega), rfl, rfl⟩
    refine g_iload_n 19 dX10_reading_18 rfl rfl ?_
    refine g_if_lt 27 22 dX10_reading_19 (by omega) (by decide) rfl (fun h3 => ?_) (fun h3 => ?_)
    · refine g_aload_n 28 dX10_reading_27 rfl rfl ?_
      refine g_bipush 30 dX10_reading_28 (by decide) rfl ?_
      refine e_V 33 0 0 [Iv (-4)] [] dX10_reading_30 cvX10_145 mwX10_refuse kd_40 (by decide) rfl (by decide) rfl rfl rfl (c_X10_refuse 4 (by decide) (by decide)) ?_
      refine g_iret dX10_reading_33 rfl ?_
      unfold M_reading
      (repeat' split) <;> first | (exfalso; omega) | exact ⟨rfl, rfl, rfl⟩ | exact ⟨congrArg (fun x => some (Iv x)) (by omega), rfl, rfl⟩
    refine g_iload 24 dX10_reading_22 rfl rfl ?_
    refine g_if_ge 34 27 dX10_reading_24 (by omega) (by decide) rfl (fun h4 => ?_) (fun h4 => ?_)
    · refine g_iload_n 35 dX10_reading_34 rfl rfl ?_
      refine g_sipush 38 dX10_reading_35 (by decide) rfl ?_
      refine g_icmp_gt 64 41 dX10_reading_38 (by omega) (by omega) (by decide) rfl (fun h5 => ?_) (fun h5 => ?_)
      · refine g_aload_n 65 dX10_reading_64 rfl rfl ?_
        refine g_bipush 67 dX10_reading_65 (by decide) rfl ?_
        refine e_V 70 0 0 [Iv (-6)] [] dX10_reading_67 cvX10_145 mwX10_refuse kd_40 (by decide) rfl (by decide) rfl rfl rfl (c_X10_refuse 6 (by decide) (by decide)) ?_
        refine g_iret dX10_reading_70 rfl ?_
        unfold M_reading
        (repeat' split) <;> first | (exfalso; omega) | exact ⟨rfl, rfl, rfl⟩ | exact ⟨congrArg (fun x => some (Iv x)) (by omega), rfl, rfl⟩
      refine g_iload_n 42 dX10_reading_41 rfl rfl ?_
      refine g_sipush 45 dX10_reading_42 (by decide) rfl ?_
      refine g_icmp_gt 64 48 dX10_reading_45 (by omega) (by omega) (by decide) rfl (fun h6 => ?_) (fun h6 => ?_)
      · refine g_aload_n 65 dX10_reading_64 rfl rfl ?_
        refine g_bipush 67 dX10_reading_65 (by decide) rfl ?_
        refine e_V 70 0 0 [Iv (-6)] [] dX10_reading_67 cvX10_145 mwX10_refuse kd_40 (by decide) rfl (by decide) rfl rfl rfl (c_X10_refuse 6 (by decide) (by decide)) ?_
        refine g_iret dX10_reading_70 rfl ?_
        unfold M_reading
        (repeat' split) <;> first | (exfalso; omega) | exact ⟨rfl, rfl, rfl⟩ | exact ⟨congrArg (fun x => some (Iv x)) (by omega), rfl, rfl⟩
      refine g_iload 50 dX10_reading_48 rfl rfl ?_
      refine g_bipush 52 dX10_reading_50 (by decide) rfl ?_
      refine g_icmp_gt 64 55 dX10_reading_52 (by omega) (by omega) (by decide) rfl (fun h7 => ?_) (fun h7 => ?_)
      · refine g_aload_n 65 dX10_reading_64 rfl rfl ?_
        refine g_bipush 67 dX10_reading_65 (by decide) rfl ?_
        refine e_V 70 0 0 [Iv (-6)] [] dX10_reading_67 cvX10_145 mwX10_refuse kd_40 (by decide) rfl (by decide) rfl rfl rfl (c_X10_refuse 6 (by decide) (by decide)) ?_
        refine g_iret dX10_reading_70 rfl ?_
        unfold M_reading
        (repeat' split) <;> first | (exfalso; omega) | exact ⟨rfl, rfl, rfl⟩ | exact ⟨congrArg (fun x => some (Iv x)) (by omega), rfl, rfl⟩
      refine g_aload_n 56 dX10_reading_55 rfl rfl ?_
      refine r_getI 59 (κ 40 37) dX10_reading_56 fgX10_227 kd_40 ly_40_37 rfl (rfl) (fun r8 => ?_)
      refine g_bipush 61 dX10_reading_59 (by decide) rfl ?_
      refine g_icmp_ne 71 64 dX10_reading_61 (by omega) (by omega) (by decide) rfl (fun h9 => ?_) (fun h9 => ?_)
      · refine g_aload_n 72 dX10_reading_71 rfl rfl ?_
        refine g_getC 75 dX10_reading_72 fgX10_90 kd_40 ly_40_38 rfl ?_
        refine g_aload_n 76 dX10_reading_75 rfl rfl ?_
        refine r_getI 79 (κ 40 37) dX10_reading_76 fgX10_227 kd_40 ly_40_37 rfl (rfl) (fun r10 => ?_)
        refine g_iload_n 80 dX10_reading_79 rfl rfl ?_
        refine r_iast 81 ((κ 40 37).toNat) dX10_reading_80 kd_79 (by decide) ly_79 (by omega) (rfl) (by omega) rfl ?_
        refine g_aload_n 82 dX10_reading_81 rfl rfl ?_
        refine g_getC 85 dX10_reading_82 fgX10_93 kd_40 ly_40_39 rfl ?_
        refine g_aload_n 86 dX10_reading_85 rfl rfl ?_
        refine r_getI 89 (κ 40 37) dX10_reading_86 fgX10_227 kd_40 ly_40_37 rfl (rd_t (by decide) (rfl)) (fun r11 => ?_)
        refine g_iload_n 90 dX10_reading_89 rfl rfl ?_
        refine g_iload_n 91 dX10_reading_90 rfl rfl ?_
        refine g_isub 92 dX10_reading_91 rfl ?_
        refine r_iast 93 ((κ 40 37).toNat) dX10_reading_92 kd_80 (by decide) ly_80 (by omega) (rfl) (by omega) rfl ?_
        refine g_aload_n 94 dX10_reading_93 rfl rfl ?_
        refine g_getC 97 dX10_reading_94 fgX10_96 kd_40 ly_40_40 rfl ?_
        refine g_aload_n 98 dX10_reading_97 rfl rfl ?_
        refine r_getI 101 (κ 40 37) dX10_reading_98 fgX10_227 kd_40 ly_40_37 rfl (rd_t (by decide) (rd_t (by decide) (rfl))) (fun r12 => ?_)
        refine g_iload 103 dX10_reading_101 rfl rfl ?_
        refine r_iast 104 ((κ 40 37).toNat) dX10_reading_103 kd_81 (by decide) ly_81 (by omega) (rfl) (by omega) rfl ?_
        refine g_aload_n 105 dX10_reading_104 rfl rfl ?_
        refine g_dup 106 dX10_reading_105 rfl ?_
        refine r_getI 109 (κ 40 37) dX10_reading_106 fgX10_227 kd_40 ly_40_37 rfl (rd_t (by decide) (rd_t (by decide) (rd_t (by decide) (rfl)))) (fun r13 => ?_)
        refine g_iconst 110 dX10_reading_109 (by decide) rfl ?_
        refine g_iadd 111 dX10_reading_110 rfl ?_
        refine g_putI 114 dX10_reading_111 fpX10_227 (fun h => (nomatch h)) kd_40 ly_40_37 (by omega) rfl ?_
        refine g_aload_n 115 dX10_reading_114 rfl rfl ?_
        refine r_getI 118 (((κ 40 37) + 1)) dX10_reading_115 fgX10_227 kd_40 ly_40_37 rfl (rd_s rfl rfl rfl) (fun r14 => ?_)
        refine g_iret dX10_reading_118 rfl ?_
        unfold M_reading
        (repeat' split) <;> first | (exfalso; omega) | exact ⟨rfl, rfl, rfl⟩ | exact ⟨congrArg (fun x => some (Iv x)) (by omega), rfl, rfl⟩
      refine g_aload_n 65 dX10_reading_64 rfl rfl ?_
      refine g_bipush 67 dX10_reading_65 (by decide) rfl ?_
      refine e_V 70 0 0 [Iv (-6)] [] dX10_reading_67 cvX10_145 mwX10_refuse kd_40 (by decide) rfl (by decide) rfl rfl rfl (c_X10_refuse 6 (by decide) (by decide)) ?_
      refine g_iret dX10_reading_70 rfl ?_
      unfold M_reading
      (repeat' split) <;> first | (exfalso; omega) | exact ⟨rfl, rfl, rfl⟩ | exact ⟨congrArg (fun x => some (Iv x)) (by omega), rfl, rfl⟩
    refine g_aload_n 28 dX10_reading_27 rfl rfl ?_
    refine g_bipush 30 dX10_reading_28 (by decide) rfl ?_
    refine e_V 33 0 0 [Iv (-4)] [] dX10_reading_30 cvX10_145 mwX10_refuse kd_40 (by decide) rfl (by decide) rfl rfl rfl (c_X10_refuse 4 (by decide) (by decide)) ?_
    refine g_iret dX10_reading_33 rfl ?_
    unfold M_reading
    (repeat' split) <;> first | (exfalso; omega) | exact ⟨rfl, rfl, rfl⟩ | exact ⟨congrArg (fun x => some (Iv x)) (by omega), rfl, rfl⟩
  refine g_if_ne 14 8 dX10_reading_5 (by omega) (by decide) rfl (fun z => absurd z (by decide)) (fun _ => ?_)
  refine g_aload_n 9 dX10_reading_8 rfl rfl ?_
  refine g_iconst 10 dX10_reading_9 (by decide) rfl ?_
  refine e_V 13 0 0 [Iv (-1)] [] dX10_reading_10 cvX10_145 mwX10_refuse kd_40 (by decide) rfl (by decide) rfl rfl rfl (c_X10_refuse 1 (by decide) (by decide)) ?_
  refine g_iret dX10_reading_13 rfl ?_
  unfold M_reading
  (repeat' split) <;> first | (exfalso; omega) | exact ⟨rfl, rfl, rfl⟩ | exact ⟨congrArg (fun x => some (Iv x)) (by omega), rfl, rfl⟩
set_option maxHeartbeats 4000000 in
set_option maxRecDepth 20000 in
theorem c_X10_law {B : Bs} {n0 : Nat} {V : Vs} {κ : Ks} {h f t d : Int} (r_h : inR h) (r_f : inR f) (r_t : inR t) (r_d : inR d)  (hI : MI κ) : Ct (XR B n0) mX10_law 2 0 0 [Rf 40, Iv h, Iv f, Iv t, Iv d] V κ (PM (M_law κ h f t d) V) := by
  obtain ⟨⟨i0, i1, i2, i3, i4, i5, i6, i7, i8, i9⟩, iS, iH, iR, iT, iC, iG, iL, iZ⟩ := id hI
  refine Ct.of (L := [some (Rf 40), some (Iv h), some (Iv f), some (Iv t), some (Iv d)]) 0 (by decide +kernel) rfl rfl ?_
  refine g_iload_n 1 dX10_law_0 rfl rfl ?_
  refine g_if_lt 24 4 dX10_law_1 (by omega) (by decide) rfl (fun h1 => ?_) (fun h1 => ?_)
  · refine g_aload_n 25 dX10_law_24 rfl rfl ?_
    refine g_bipush 27 dX10_law_25 (by decide) rfl ?_
    refine e_V 30 0 0 [Iv (-4)] [] dX10_law_27 cvX10_145 mwX10_refuse kd_40 (by decide) rfl (by decide) rfl rfl rfl (c_X10_refuse 4 (by decide) (by decide)) ?_
    refine g_iret dX10_law_30 rfl ?_
    unfold M_law
    (repeat' split) <;> first | (exfalso; omega) | exact ⟨rfl, rfl, rfl⟩ | exact ⟨congrArg (fun x => some (Iv x)) (by omega), rfl, rfl⟩
  refine g_iload_n 5 dX10_law_4 rfl rfl ?_
  refine g_if_lt 24 8 dX10_law_5 (by omega) (by decide) rfl (fun h2 => ?_) (fun h2 => ?_)
  · refine g_aload_n 25 dX10_law_24 rfl rfl ?_
    refine g_bipush 27 dX10_law_25 (by decide) rfl ?_
    refine e_V 30 0 0 [Iv (-4)] [] dX10_law_27 cvX10_145 mwX10_refuse kd_40 (by decide) rfl (by decide) rfl rfl rfl (c_X10_refuse 4 (by decide) (by decide)) ?_
    refine g_iret dX10_law_30 rfl ?_
    unfold M_law
    (repeat' split) <;> first | (exfalso; omega) | exact ⟨rfl, rfl, rfl⟩ | exact ⟨congrArg (fun x => some (Iv x)) (by omega), rfl, rfl⟩
  refine g_iload_n 9 dX10_law_8 rfl rfl ?_
  refine g_if_lt 24 12 dX10_law_9 (by omega) (by decide) rfl (fun h3 => ?_) (fun h3 => ?_)
  · refine g_aload_n 25 dX10_law_24 rfl rfl ?_
    refine g_bipush 27 dX10_law_25 (by decide) rfl ?_
    refine e_V 30 0 0 [Iv (-4)] [] dX10_law_27 cvX10_145 mwX10_refuse kd_40 (by decide) rfl (by decide) rfl rfl rfl (c_X10_refuse 4 (by decide) (by decide)) ?_
    refine g_iret dX10_law_30 rfl ?_
    unfold M_law
    (repeat' split) <;> first | (exfalso; omega) | exact ⟨rfl, rfl, rfl⟩ | exact ⟨congrArg (fun x => some (Iv x)) (by omega), rfl, rfl⟩
  refine g_iload 14 dX10_law_12 rfl rfl ?_
  refine g_aload_n 15 dX10_law_14 rfl rfl ?_
  refine r_getI 18 (κ 40 0) dX10_law_15 fgX10_149 kd_40 ly_40_0 rfl (rfl) (fun r4 => ?_)
  refine g_bipush 20 dX10_law_18 (by decide) rfl ?_
  refine g_idiv 21 dX10_law_20 (by omega) (by omega) rfl ?_
  refine g_icmp_ge 31 24 dX10_law_21 (by omega) (by omega) (by decide) rfl (fun h5 => ?_) (fun h5 => ?_)
  · refine g_iload_n 32 dX10_law_31 rfl rfl ?_
    refine g_sipush 35 dX10_law_32 (by decide) rfl ?_
    refine g_icmp_gt 67 38 dX10_law_35 (by omega) (by omega) (by decide) rfl (fun h6 => ?_) (fun h6 => ?_)
    · refine g_aload_n 68 dX10_law_67 rfl rfl ?_
      refine g_bipush 70 dX10_law_68 (by decide) rfl ?_
      refine e_V 73 0 0 [Iv (-6)] [] dX10_law_70 cvX10_145 mwX10_refuse kd_40 (by decide) rfl (by decide) rfl rfl rfl (c_X10_refuse 6 (by decide) (by decide)) ?_
      refine g_iret dX10_law_73 rfl ?_
      unfold M_law
      (repeat' split) <;> first | (exfalso; omega) | exact ⟨rfl, rfl, rfl⟩ | exact ⟨congrArg (fun x => some (Iv x)) (by omega), rfl, rfl⟩
    refine g_iload_n 39 dX10_law_38 rfl rfl ?_
    refine g_bipush 41 dX10_law_39 (by decide) rfl ?_
    refine g_icmp_gt 67 44 dX10_law_41 (by omega) (by omega) (by decide) rfl (fun h7 => ?_) (fun h7 => ?_)
    · refine g_aload_n 68 dX10_law_67 rfl rfl ?_
      refine g_bipush 70 dX10_law_68 (by decide) rfl ?_
      refine e_V 73 0 0 [Iv (-6)] [] dX10_law_70 cvX10_145 mwX10_refuse kd_40 (by decide) rfl (by decide) rfl rfl rfl (c_X10_refuse 6 (by decide) (by decide)) ?_
      refine g_iret dX10_law_73 rfl ?_
      unfold M_law
      (repeat' split) <;> first | (exfalso; omega) | exact ⟨rfl, rfl, rfl⟩ | exact ⟨congrArg (fun x => some (Iv x)) (by omega), rfl, rfl⟩
    refine g_iload_n 45 dX10_law_44 rfl rfl ?_
    refine g_bipush 47 dX10_law_45 (by decide) rfl ?_
    refine g_icmp_gt 67 50 dX10_law_47 (by omega) (by omega) (by decide) rfl (fun h8 => ?_) (fun h8 => ?_)
    · refine g_aload_n 68 dX10_law_67 rfl rfl ?_
      refine g_bipush 70 dX10_law_68 (by decide) rfl ?_
      refine e_V 73 0 0 [Iv (-6)] [] dX10_law_70 cvX10_145 mwX10_refuse kd_40 (by decide) rfl (by decide) rfl rfl rfl (c_X10_refuse 6 (by decide) (by decide)) ?_
      refine g_iret dX10_law_73 rfl ?_
      unfold M_law
      (repeat' split) <;> first | (exfalso; omega) | exact ⟨rfl, rfl, rfl⟩ | exact ⟨congrArg (fun x => some (Iv x)) (by omega), rfl, rfl⟩
    refine g_iload 52 dX10_law_50 rfl rfl ?_
    refine g_sipush 55 dX10_law_52 (by decide) rfl ?_
    refine g_icmp_gt 67 58 dX10_law_55 (by omega) (by omega) (by decide) rfl (fun h9 => ?_) (fun h9 => ?_)
    · refine g_aload_n 68 dX10_law_67 rfl rfl ?_
      refine g_bipush 70 dX10_law_68 (by decide) rfl ?_
      refine e_V 73 0 0 [Iv (-6)] [] dX10_law_70 cvX10_145 mwX10_refuse kd_40 (by decide) rfl (by decide) rfl rfl rfl (c_X10_refuse 6 (by decide) (by decide)) ?_
      refine g_iret dX10_law_73 rfl ?_
      unfold M_law
      (repeat' split) <;> first | (exfalso; omega) | exact ⟨rfl, rfl, rfl⟩ | exact ⟨congrArg (fun x => some (Iv x)) (by omega), rfl, rfl⟩
    refine g_aload_n 59 dX10_law_58 rfl rfl ?_
    refine r_getI 62 (κ 40 41) dX10_law_59 fgX10_257 kd_40 ly_40_41 rfl (rfl) (fun r10 => ?_)
    refine g_bipush 64 dX10_law_62 (by decide) rfl ?_
    refine g_icmp_ne 74 67 dX10_law_64 (by omega) (by omega) (by decide) rfl (fun h11 => ?_) (fun h11 => ?_)
    · refine g_aload_n 75 dX10_law_74 rfl rfl ?_
      refine g_getC 78 dX10_law_75 fgX10_99 kd_40 ly_40_42 rfl ?_
      refine g_aload_n 79 dX10_law_78 rfl rfl ?_
      refine r_getI 82 (κ 40 41) dX10_law_79 fgX10_257 kd_40 ly_40_41 rfl (rfl) (fun r12 => ?_)
      refine g_iload_n 83 dX10_law_82 rfl rfl ?_
      refine r_iast 84 ((κ 40 41).toNat) dX10_law_83 kd_83 (by decide) ly_83 (by omega) (rfl) (by omega) rfl ?_
      refine g_aload_n 85 dX10_law_84 rfl rfl ?_
      refine g_getC 88 dX10_law_85 fgX10_102 kd_40 ly_40_43 rfl ?_
      refine g_aload_n 89 dX10_law_88 rfl rfl ?_
      refine r_getI 92 (κ 40 41) dX10_law_89 fgX10_257 kd_40 ly_40_41 rfl (rd_t (by decide) (rfl)) (fun r13 => ?_)
      refine g_iload_n 93 dX10_law_92 rfl rfl ?_
      refine r_iast 94 ((κ 40 41).toNat) dX10_law_93 kd_84 (by decide) ly_84 (by omega) (rfl) (by omega) rfl ?_
      refine g_aload_n 95 dX10_law_94 rfl rfl ?_
      refine g_getC 98 dX10_law_95 fgX10_105 kd_40 ly_40_44 rfl ?_
      refine g_aload_n 99 dX10_law_98 rfl rfl ?_
      refine r_getI 102 (κ 40 41) dX10_law_99 fgX10_257 kd_40 ly_40_41 rfl (rd_t (by decide) (rd_t (by decide) (rfl))) (fun r14 => ?_)
      refine g_iload_n 103 dX10_law_102 rfl rfl ?_
      refine r_iast 104 ((κ 40 41).toNat) dX10_law_103 kd_85 (by decide) ly_85 (by omega) (rfl) (by omega) rfl ?_
      refine g_aload_n 105 dX10_law_104 rfl rfl ?_
      refine g_getC 108 dX10_law_105 fgX10_108 kd_40 ly_40_45 rfl ?_
      refine g_aload_n 109 dX10_law_108 rfl rfl ?_
      refine r_getI 112 (κ 40 41) dX10_law_109 fgX10_257 kd_40 ly_40_41 rfl (rd_t (by decide) (rd_t (by decide) (rd_t (by decide) (rfl)))) (fun r15 => ?_)
      refine g_iload 114 dX10_law_112 rfl rfl ?_
      refine r_iast 115 ((κ 40 41).toNat) dX10_law_114 kd_86 (by decide) ly_86 (by omega) (rfl) (by omega) rfl ?_
      refine g_aload_n 116 dX10_law_115 rfl rfl ?_
      refine g_dup 117 dX10_law_116 rfl ?_
      refine r_getI 120 (κ 40 41) dX10_law_117 fgX10_257 kd_40 ly_40_41 rfl (rd_t (by decide) (rd_t (by decide) (rd_t (by decide) (rd_t (by decide) (rfl))))) (fun r16 => ?_)
      refine g_iconst 121 dX10_law_120 (by decide) rfl ?_
      refine g_iadd 122 dX10_law_121 rfl ?_
      refine g_putI 125 dX10_law_122 fpX10_257 (fun h => (nomatch h)) kd_40 ly_40_41 (by omega) rfl ?_
      refine g_aload_n 126 dX10_law_125 rfl rfl ?_
      refine r_getI 129 (((κ 40 41) + 1)) dX10_law_126 fgX10_257 kd_40 ly_40_41 rfl (rd_s rfl rfl rfl) (fun r17 => ?_)
      refine g_iconst 130 dX10_law_129 (by decide) rfl ?_
      refine g_isub 131 dX10_law_130 rfl ?_
      refine g_iret dX10_law_131 rfl ?_
      unfold M_law
      (repeat' split) <;> first | (exfalso; omega) | exact ⟨rfl, rfl, rfl⟩ | exact ⟨congrArg (fun x => some (Iv x)) (by omega), rfl, rfl⟩
    refine g_aload_n 68 dX10_law_67 rfl rfl ?_
    refine g_bipush 70 dX10_law_68 (by decide) rfl ?_
    refine e_V 73 0 0 [Iv (-6)] [] dX10_law_70 cvX10_145 mwX10_refuse kd_40 (by decide) rfl (by decide) rfl rfl rfl (c_X10_refuse 6 (by decide) (by decide)) ?_
    refine g_iret dX10_law_73 rfl ?_
    unfold M_law
    (repeat' split) <;> first | (exfalso; omega) | exact ⟨rfl, rfl, rfl⟩ | exact ⟨congrArg (fun x => some (Iv x)) (by omega), rfl, rfl⟩
  refine g_aload_n 25 dX10_law_24 rfl rfl ?_
  refine g_bipush 27 dX10_law_25 (by decide) rfl ?_
  refine e_V 30 0 0 [Iv (-4)] [] dX10_law_27 cvX10_145 mwX10_refuse kd_40 (by decide) rfl (by decide) rfl rfl rfl (c_X10_refuse 4 (by decide) (by decide)) ?_
  refine g_iret dX10_law_30 rfl ?_
  unfold M_law
  (repeat' split) <;> first | (exfalso; omega) | exact ⟨rfl, rfl, rfl⟩ | exact ⟨congrArg (fun x => some (Iv x)) (by omega), rfl, rfl⟩
set_option maxHeartbeats 4000000 in
set_option maxRecDepth 20000 in
theorem c_X10_count {B : Bs} {n0 : Nat} {V : Vs} {κ : Ks} {w : Int} (r_w : inR w)  (hI : MI κ) : Ct (XR B n0) mX10_count 2 0 0 [Rf 40, Iv w] V κ (PM (M_count κ w) V) := by
  obtain ⟨⟨i0, i1, i2, i3, i4, i5, i6, i7, i8, i9⟩, iS, iH, iR, iT, iC, iG, iL, iZ⟩ := id hI
  refine Ct.of (L := [some (Rf 40), some (Iv w)]) 0 (by decide +kernel) rfl rfl ?_
  refine g_iload_n 1 dX10_count_0 rfl rfl ?_
  by_cases h1 : w = 0
  · refine g_tabIn 96 95 dX10_count_1 (by omega) (by omega) (by omega) (by rw [h1]; rfl) (by decide) ?_
    refine g_aload_n 97 dX10_count_96 rfl rfl ?_
    refine r_getI 100 (κ 40 0) dX10_count_97 fgX10_149 kd_40 ly_40_0 rfl (rfl) (fun r2 => ?_)
    refine g_iret dX10_count_100 rfl ?_
    unfold M_count
    (repeat' split) <;> first | (exfalso; omega) | exact ⟨rfl, rfl, rfl⟩ | exact ⟨congrArg (fun x => some (Iv x)) (by omega), rfl, rfl⟩
  by_cases h3 : w = 1
  · refine g_tabIn 101 100 dX10_count_1 (by omega) (by omega) (by omega) (by rw [h3]; rfl) (by decide) ?_
    refine g_aload_n 102 dX10_count_101 rfl rfl ?_
    refine r_getI 105 (κ 40 11) dX10_count_102 fgX10_135 kd_40 ly_40_11 rfl (rfl) (fun r4 => ?_)
    refine g_iret dX10_count_105 rfl ?_
    unfold M_count
    (repeat' split) <;> first | (exfalso; omega) | exact ⟨rfl, rfl, rfl⟩ | exact ⟨congrArg (fun x => some (Iv x)) (by omega), rfl, rfl⟩
  by_cases h5 : w = 2
  · refine g_tabIn 106 105 dX10_count_1 (by omega) (by omega) (by omega) (by rw [h5]; rfl) (by decide) ?_
    refine g_aload_n 107 dX10_count_106 rfl rfl ?_
    refine r_getI 110 (κ 40 20) dX10_count_107 fgX10_142 kd_40 ly_40_20 rfl (rfl) (fun r6 => ?_)
    refine g_iret dX10_count_110 rfl ?_
    unfold M_count
    (repeat' split) <;> first | (exfalso; omega) | exact ⟨rfl, rfl, rfl⟩ | exact ⟨congrArg (fun x => some (Iv x)) (by omega), rfl, rfl⟩
  by_cases h7 : w = 3
  · refine g_tabIn 111 110 dX10_count_1 (by omega) (by omega) (by omega) (by rw [h7]; rfl) (by decide) ?_
    refine g_aload_n 112 dX10_count_111 rfl rfl ?_
    refine r_getI 115 (κ 40 4) dX10_count_112 fgX10_153 kd_40 ly_40_4 rfl (rfl) (fun r8 => ?_)
    refine g_iret dX10_count_115 rfl ?_
    unfold M_count
    (repeat' split) <;> first | (exfalso; omega) | exact ⟨rfl, rfl, rfl⟩ | exact ⟨congrArg (fun x => some (Iv x)) (by omega), rfl, rfl⟩
  by_cases h9 : w = 4
  · refine g_tabIn 116 115 dX10_count_1 (by omega) (by omega) (by omega) (by rw [h9]; rfl) (by decide) ?_
    refine g_aload_n 117 dX10_count_116 rfl rfl ?_
    refine r_getI 120 (κ 40 5) dX10_count_117 fgX10_209 kd_40 ly_40_5 rfl (rfl) (fun r10 => ?_)
    refine g_iret dX10_count_120 rfl ?_
    unfold M_count
    (repeat' split) <;> first | (exfalso; omega) | exact ⟨rfl, rfl, rfl⟩ | exact ⟨congrArg (fun x => some (Iv x)) (by omega), rfl, rfl⟩
  by_cases h11 : w = 5
  · refine g_tabIn 121 120 dX10_count_1 (by omega) (by omega) (by omega) (by rw [h11]; rfl) (by decide) ?_
    refine g_aload_n 122 dX10_count_121 rfl rfl ?_
    refine r_getI 125 (κ 40 6) dX10_count_122 fgX10_196 kd_40 ly_40_6 rfl (rfl) (fun r12 => ?_)
    refine g_iret dX10_count_125 rfl ?_
    unfold M_count
    (repeat' split) <;> first | (exfalso; omega) | exact ⟨rfl, rfl, rfl⟩ | exact ⟨congrArg (fun x => some (Iv x)) (by omega), rfl, rfl⟩
  by_cases h13 : w = 6
  · refine g_tabIn 126 125 dX10_count_1 (by omega) (by omega) (by omega) (by rw [h13]; rfl) (by decide) ?_
    refine g_aload_n 127 dX10_count_126 rfl rfl ?_
    refine r_getI 130 (κ 40 7) dX10_count_127 fgX10_193 kd_40 ly_40_7 rfl (rfl) (fun r14 => ?_)
    refine g_iret dX10_count_130 rfl ?_
    unfold M_count
    (repeat' split) <;> first | (exfalso; omega) | exact ⟨rfl, rfl, rfl⟩ | exact ⟨congrArg (fun x => some (Iv x)) (by omega), rfl, rfl⟩
  by_cases h15 : w = 7
  · refine g_tabIn 131 130 dX10_count_1 (by omega) (by omega) (by omega) (by rw [h15]; rfl) (by decide) ?_
    refine g_aload_n 132 dX10_count_131 rfl rfl ?_
    refine r_getI 135 (κ 40 8) dX10_count_132 fgX10_218 kd_40 ly_40_8 rfl (rfl) (fun r16 => ?_)
    refine g_iret dX10_count_135 rfl ?_
    unfold M_count
    (repeat' split) <;> first | (exfalso; omega) | exact ⟨rfl, rfl, rfl⟩ | exact ⟨congrArg (fun x => some (Iv x)) (by omega), rfl, rfl⟩
  by_cases h17 : w = 8
  · refine g_tabIn 136 135 dX10_count_1 (by omega) (by omega) (by omega) (by rw [h17]; rfl) (by decide) ?_
    refine g_aload_n 137 dX10_count_136 rfl rfl ?_
    refine r_getI 140 (κ 40 31) dX10_count_137 fgX10_164 kd_40 ly_40_31 rfl (rfl) (fun r18 => ?_)
    refine g_iret dX10_count_140 rfl ?_
    unfold M_count
    (repeat' split) <;> first | (exfalso; omega) | exact ⟨rfl, rfl, rfl⟩ | exact ⟨congrArg (fun x => some (Iv x)) (by omega), rfl, rfl⟩
  by_cases h19 : w = 9
  · refine g_tabIn 141 140 dX10_count_1 (by omega) (by omega) (by omega) (by rw [h19]; rfl) (by decide) ?_
    refine g_aload_n 142 dX10_count_141 rfl rfl ?_
    refine r_getI 145 (κ 40 37) dX10_count_142 fgX10_227 kd_40 ly_40_37 rfl (rfl) (fun r20 => ?_)
    refine g_iret dX10_count_145 rfl ?_
    unfold M_count
    (repeat' split) <;> first | (exfalso; omega) | exact ⟨rfl, rfl, rfl⟩ | exact ⟨congrArg (fun x => some (Iv x)) (by omega), rfl, rfl⟩
  by_cases h21 : w = 10
  · refine g_tabIn 146 145 dX10_count_1 (by omega) (by omega) (by omega) (by rw [h21]; rfl) (by decide) ?_
    refine g_aload_n 147 dX10_count_146 rfl rfl ?_
    refine r_getI 150 (κ 40 41) dX10_count_147 fgX10_257 kd_40 ly_40_41 rfl (rfl) (fun r22 => ?_)
    refine g_iret dX10_count_150 rfl ?_
    unfold M_count
    (repeat' split) <;> first | (exfalso; omega) | exact ⟨rfl, rfl, rfl⟩ | exact ⟨congrArg (fun x => some (Iv x)) (by omega), rfl, rfl⟩
  by_cases h23 : w = 11
  · refine g_tabIn 161 160 dX10_count_1 (by omega) (by omega) (by omega) (by rw [h23]; rfl) (by decide) ?_
    refine g_iload_n 162 dX10_count_161 rfl rfl ?_
    refine g_bipush 164 dX10_count_162 (by decide) rfl ?_
    refine g_bipush 166 dX10_count_164 (by decide) rfl ?_
    refine o_S 169 0 0 [Iv w, Iv 11, Iv 17] [] dX10_count_166 csX10_138 mwX10_in (by decide) rfl (by decide) rfl rfl rfl (c_X10_in (by omega) (by omega) (by omega)) (fun h24 => ?_) (fun h24 => ?_)
    · refine g_if_eq 184 172 dX10_count_169 (by omega) (by decide) rfl (fun z => absurd z (by decide)) (fun _ => ?_)
      refine g_aload_n 173 dX10_count_172 rfl rfl ?_
      refine g_getC 176 dX10_count_173 fgX10_111 kd_40 ly_40_46 rfl ?_
      refine g_iload_n 177 dX10_count_176 rfl rfl ?_
      refine g_bipush 179 dX10_count_177 (by decide) rfl ?_
      refine g_isub 180 dX10_count_179 rfl ?_
      refine r_iald 181 ((w - 10).toNat) (κ 87 ((w - 10).toNat)) dX10_count_180 kd_87 (by decide) (by omega) (rfl) rfl (rfl) (fun r25 => ?_)
      refine g_goto 186 dX10_count_181 (by decide) ?_
      refine g_iret dX10_count_186 rfl ?_
      unfold M_count
      (repeat' split) <;> first | (exfalso; omega) | exact ⟨rfl, rfl, rfl⟩ | exact ⟨congrArg (fun x => some (Iv x)) (by omega), rfl, rfl⟩
    refine g_if_eq 184 172 dX10_count_169 (by omega) (by decide) rfl (fun _ => ?_) (fun z => absurd z (by decide))
    refine g_bipush 186 dX10_count_184 (by decide) rfl ?_
    refine g_iret dX10_count_186 rfl ?_
    unfold M_count
    (repeat' split) <;> first | (exfalso; omega) | exact ⟨rfl, rfl, rfl⟩ | exact ⟨congrArg (fun x => some (Iv x)) (by omega), rfl, rfl⟩
  by_cases h26 : w = 12
  · refine g_tabIn 161 160 dX10_count_1 (by omega) (by omega) (by omega) (by rw [h26]; rfl) (by decide) ?_
    refine g_iload_n 162 dX10_count_161 rfl rfl ?_
    refine g_bipush 164 dX10_count_162 (by decide) rfl ?_
    refine g_bipush 166 dX10_count_164 (by decide) rfl ?_
    refine o_S 169 0 0 [Iv w, Iv 11, Iv 17] [] dX10_count_166 csX10_138 mwX10_in (by decide) rfl (by decide) rfl rfl rfl (c_X10_in (by omega) (by omega) (by omega)) (fun h27 => ?_) (fun h27 => ?_)
    · refine g_if_eq 184 172 dX10_count_169 (by omega) (by decide) rfl (fun z => absurd z (by decide)) (fun _ => ?_)
      refine g_aload_n 173 dX10_count_172 rfl rfl ?_
      refine g_getC 176 dX10_count_173 fgX10_111 kd_40 ly_40_46 rfl ?_
      refine g_iload_n 177 dX10_count_176 rfl rfl ?_
      refine g_bipush 179 dX10_count_177 (by decide) rfl ?_
      refine g_isub 180 dX10_count_179 rfl ?_
      refine r_iald 181 ((w - 10).toNat) (κ 87 ((w - 10).toNat)) dX10_count_180 kd_87 (by decide) (by omega) (rfl) rfl (rfl) (fun r28 => ?_)
      refine g_goto 186 dX10_count_181 (by decide) ?_
      refine g_iret dX10_count_186 rfl ?_
      unfold M_count
      (repeat' split) <;> first | (exfalso; omega) | exact ⟨rfl, rfl, rfl⟩ | exact ⟨congrArg (fun x => some (Iv x)) (by omega), rfl, rfl⟩
    refine g_if_eq 184 172 dX10_count_169 (by omega) (by decide) rfl (fun _ => ?_) (fun z => absurd z (by decide))
    refine g_bipush 186 dX10_count_184 (by decide) rfl ?_
    refine g_iret dX10_count_186 rfl ?_
    unfold M_count
    (repeat' split) <;> first | (exfalso; omega) | exact ⟨rfl, rfl, rfl⟩ | exact ⟨congrArg (fun x => some (Iv x)) (by omega), rfl, rfl⟩
  by_cases h29 : w = 13
  · refine g_tabIn 161 160 dX10_count_1 (by omega) (by omega) (by omega) (by rw [h29]; rfl) (by decide) ?_
    refine g_iload_n 162 dX10_count_161 rfl rfl ?_
    refine g_bipush 164 dX10_count_162 (by decide) rfl ?_
    refine g_bipush 166 dX10_count_164 (by decide) rfl ?_
    refine o_S 169 0 0 [Iv w, Iv 11, Iv 17] [] dX10_count_166 csX10_138 mwX10_in (by decide) rfl (by decide) rfl rfl rfl (c_X10_in (by omega) (by omega) (by omega)) (fun h30 => ?_) (fun h30 => ?_)
    · refine g_if_eq 184 172 dX10_count_169 (by omega) (by decide) rfl (fun z => absurd z (by decide)) (fun _ => ?_)
      refine g_aload_n 173 dX10_count_172 rfl rfl ?_
      refine g_getC 176 dX10_count_173 fgX10_111 kd_40 ly_40_46 rfl ?_
      refine g_iload_n 177 dX10_count_176 rfl rfl ?_
      refine g_bipush 179 dX10_count_177 (by decide) rfl ?_
      refine g_isub 180 dX10_count_179 rfl ?_
      refine r_iald 181 ((w - 10).toNat) (κ 87 ((w - 10).toNat)) dX10_count_180 kd_87 (by decide) (by omega) (rfl) rfl (rfl) (fun r31 => ?_)
      refine g_goto 186 dX10_count_181 (by decide) ?_
      refine g_iret dX10_count_186 rfl ?_
      unfold M_count
      (repeat' split) <;> first | (exfalso; omega) | exact ⟨rfl, rfl, rfl⟩ | exact ⟨congrArg (fun x => some (Iv x)) (by omega), rfl, rfl⟩
    refine g_if_eq 184 172 dX10_count_169 (by omega) (by decide) rfl (fun _ => ?_) (fun z => absurd z (by decide))
    refine g_bipush 186 dX10_count_184 (by decide) rfl ?_
    refine g_iret dX10_count_186 rfl ?_
    unfold M_count
    (repeat' split) <;> first | (exfalso; omega) | exact ⟨rfl, rfl, rfl⟩ | exact ⟨congrArg (fun x => some (Iv x)) (by omega), rfl, rfl⟩
  by_cases h32 : w = 14
  · refine g_tabIn 161 160 dX10_count_1 (by omega) (by omega) (by omega) (by rw [h32]; rfl) (by decide) ?_
    refine g_iload_n 162 dX10_count_161 rfl rfl ?_
    refine g_bipush 164 dX10_count_162 (by decide) rfl ?_
    refine g_bipush 166 dX10_count_164 (by decide) rfl ?_
    refine o_S 169 0 0 [Iv w, Iv 11, Iv 17] [] dX10_count_166 csX10_138 mwX10_in (by decide) rfl (by decide) rfl rfl rfl (c_X10_in (by omega) (by omega) (by omega)) (fun h33 => ?_) (fun h33 => ?_)
    · refine g_if_eq 184 172 dX10_count_169 (by omega) (by decide) rfl (fun z => absurd z (by decide)) (fun _ => ?_)
      refine g_aload_n 173 dX10_count_172 rfl rfl ?_
      refine g_getC 176 dX10_count_173 fgX10_111 kd_40 ly_40_46 rfl ?_
      refine g_iload_n 177 dX10_count_176 rfl rfl ?_
      refine g_bipush 179 dX10_count_177 (by decide) rfl ?_
      refine g_isub 180 dX10_count_179 rfl ?_
      refine r_iald 181 ((w - 10).toNat) (κ 87 ((w - 10).toNat)) dX10_count_180 kd_87 (by decide) (by omega) (rfl) rfl (rfl) (fun r34 => ?_)
      refine g_goto 186 dX10_count_181 (by decide) ?_
      refine g_iret dX10_count_186 rfl ?_
      unfold M_count
      (repeat' split) <;> first | (exfalso; omega) | exact ⟨rfl, rfl, rfl⟩ | exact ⟨congrArg (fun x => some (Iv x)) (by omega), rfl, rfl⟩
    refine g_if_eq 184 172 dX10_count_169 (by omega) (by decide) rfl (fun _ => ?_) (fun z => absurd z (by decide))
    refine g_bipush 186 dX10_count_184 (by decide) rfl ?_
    refine g_iret dX10_count_186 rfl ?_
    unfold M_count
    (repeat' split) <;> first | (exfalso; omega) | exact ⟨rfl, rfl, rfl⟩ | exact ⟨congrArg (fun x => some (Iv x)) (by omega), rfl, rfl⟩
  by_cases h35 : w = 15
  · refine g_tabIn 161 160 dX10_count_1 (by omega) (by omega) (by omega) (by rw [h35]; rfl) (by decide) ?_
    refine g_iload_n 162 dX10_count_161 rfl rfl ?_
    refine g_bipush 164 dX10_count_162 (by decide) rfl ?_
    refine g_bipush 166 dX10_count_164 (by decide) rfl ?_
    refine o_S 169 0 0 [Iv w, Iv 11, Iv 17] [] dX10_count_166 csX10_138 mwX10_in (by decide) rfl (by decide) rfl rfl rfl (c_X10_in (by omega) (by omega) (by omega)) (fun h36 => ?_) (fun h36 => ?_)
    · refine g_if_eq 184 172 dX10_count_169 (by omega) (by decide) rfl (fun z => absurd z (by decide)) (fun _ => ?_)
      refine g_aload_n 173 dX10_count_172 rfl rfl ?_
      refine g_getC 176 dX10_count_173 fgX10_111 kd_40 ly_40_46 rfl ?_
      refine g_iload_n 177 dX10_count_176 rfl rfl ?_
      refine g_bipush 179 dX10_count_177 (by decide) rfl ?_
      refine g_isub 180 dX10_count_179 rfl ?_
      refine r_iald 181 ((w - 10).toNat) (κ 87 ((w - 10).toNat)) dX10_count_180 kd_87 (by decide) (by omega) (rfl) rfl (rfl) (fun r37 => ?_)
      refine g_goto 186 dX10_count_181 (by decide) ?_
      refine g_iret dX10_count_186 rfl ?_
      unfold M_count
      (repeat' split) <;> first | (exfalso; omega) | exact ⟨rfl, rfl, rfl⟩ | exact ⟨congrArg (fun x => some (Iv x)) (by omega), rfl, rfl⟩
    refine g_if_eq 184 172 dX10_count_169 (by omega) (by decide) rfl (fun _ => ?_) (fun z => absurd z (by decide))
    refine g_bipush 186 dX10_count_184 (by decide) rfl ?_
    refine g_iret dX10_count_186 rfl ?_
    unfold M_count
    (repeat' split) <;> first | (exfalso; omega) | exact ⟨rfl, rfl, rfl⟩ | exact ⟨congrArg (fun x => some (Iv x)) (by omega), rfl, rfl⟩
  by_cases h38 : w = 16
  · refine g_tabIn 161 160 dX10_count_1 (by omega) (by omega) (by omega) (by rw [h38]; rfl) (by decide) ?_
    refine g_iload_n 162 dX10_count_161 rfl rfl ?_
    refine g_bipush 164 dX10_count_162 (by decide) rfl ?_
    refine g_bipush 166 dX10_count_164 (by decide) rfl ?_
    refine o_S 169 0 0 [Iv w, Iv 11, Iv 17] [] dX10_count_166 csX10_138 mwX10_in (by decide) rfl (by decide) rfl rfl rfl (c_X10_in (by omega) (by omega) (by omega)) (fun h39 => ?_) (fun h39 => ?_)
    · refine g_if_eq 184 172 dX10_count_169 (by omega) (by decide) rfl (fun z => absurd z (by decide)) (fun _ => ?_)
      refine g_aload_n 173 dX10_count_172 rfl rfl ?_
      refine g_getC 176 dX10_count_173 fgX10_111 kd_40 ly_40_46 rfl ?_
      refine g_iload_n 177 dX10_count_176 rfl rfl ?_
      refine g_bipush 179 dX10_count_177 (by decide) rfl ?_
      refine g_isub 180 dX10_count_179 rfl ?_
      refine r_iald 181 ((w - 10).toNat) (κ 87 ((w - 10).toNat)) dX10_count_180 kd_87 (by decide) (by omega) (rfl) rfl (rfl) (fun r40 => ?_)
      refine g_goto 186 dX10_count_181 (by decide) ?_
      refine g_iret dX10_count_186 rfl ?_
      unfold M_count
      (repeat' split) <;> first | (exfalso; omega) | exact ⟨rfl, rfl, rfl⟩ | exact ⟨congrArg (fun x => some (Iv x)) (by omega), rfl, rfl⟩
    refine g_if_eq 184 172 dX10_count_169 (by omega) (by decide) rfl (fun _ => ?_) (fun z => absurd z (by decide))
    refine g_bipush 186 dX10_count_184 (by decide) rfl ?_
    refine g_iret dX10_count_186 rfl ?_
    unfold M_count
    (repeat' split) <;> first | (exfalso; omega) | exact ⟨rfl, rfl, rfl⟩ | exact ⟨congrArg (fun x => some (Iv x)) (by omega), rfl, rfl⟩
  by_cases h41 : w = 17
  · refine g_tabIn 161 160 dX10_count_1 (by omega) (by omega) (by omega) (by rw [h41]; rfl) (by decide) ?_
    refine g_iload_n 162 dX10_count_161 rfl rfl ?_
    refine g_bipush 164 dX10_count_162 (by decide) rfl ?_
    refine g_bipush 166 dX10_count_164 (by decide) rfl ?_
    refine o_S 169 0 0 [Iv w, Iv 11, Iv 17] [] dX10_count_166 csX10_138 mwX10_in (by decide) rfl (by decide) rfl rfl rfl (c_X10_in (by omega) (by omega) (by omega)) (fun h42 => ?_) (fun h42 => ?_)
    · refine g_if_eq 184 172 dX10_count_169 (by omega) (by decide) rfl (fun z => absurd z (by decide)) (fun _ => ?_)
      refine g_aload_n 173 dX10_count_172 rfl rfl ?_
      refine g_getC 176 dX10_count_173 fgX10_111 kd_40 ly_40_46 rfl ?_
      refine g_iload_n 177 dX10_count_176 rfl rfl ?_
      refine g_bipush 179 dX10_count_177 (by decide) rfl ?_
      refine g_isub 180 dX10_count_179 rfl ?_
      refine r_iald 181 ((w - 10).toNat) (κ 87 ((w - 10).toNat)) dX10_count_180 kd_87 (by decide) (by omega) (rfl) rfl (rfl) (fun r43 => ?_)
      refine g_goto 186 dX10_count_181 (by decide) ?_
      refine g_iret dX10_count_186 rfl ?_
      unfold M_count
      (repeat' split) <;> first | (exfalso; omega) | exact ⟨rfl, rfl, rfl⟩ | exact ⟨congrArg (fun x => some (Iv x)) (by omega), rfl, rfl⟩
    refine g_if_eq 184 172 dX10_count_169 (by omega) (by decide) rfl (fun _ => ?_) (fun z => absurd z (by decide))
    refine g_bipush 186 dX10_count_184 (by decide) rfl ?_
    refine g_iret dX10_count_186 rfl ?_
    unfold M_count
    (repeat' split) <;> first | (exfalso; omega) | exact ⟨rfl, rfl, rfl⟩ | exact ⟨congrArg (fun x => some (Iv x)) (by omega), rfl, rfl⟩
  by_cases h44 : w = 18
  · refine g_tabIn 151 150 dX10_count_1 (by omega) (by omega) (by omega) (by rw [h44]; rfl) (by decide) ?_
    refine g_aload_n 152 dX10_count_151 rfl rfl ?_
    refine r_getI 155 (κ 40 9) dX10_count_152 fgX10_206 kd_40 ly_40_9 rfl (rfl) (fun r45 => ?_)
    refine g_iret dX10_count_155 rfl ?_
    unfold M_count
    (repeat' split) <;> first | (exfalso; omega) | exact ⟨rfl, rfl, rfl⟩ | exact ⟨congrArg (fun x => some (Iv x)) (by omega), rfl, rfl⟩
  by_cases h46 : w = 19
  · refine g_tabIn 156 155 dX10_count_1 (by omega) (by omega) (by omega) (by rw [h46]; rfl) (by decide) ?_
    refine g_aload_n 157 dX10_count_156 rfl rfl ?_
    refine r_getI 160 (κ 40 10) dX10_count_157 fgX10_199 kd_40 ly_40_10 rfl (rfl) (fun r47 => ?_)
    refine g_iret dX10_count_160 rfl ?_
    unfold M_count
    (repeat' split) <;> first | (exfalso; omega) | exact ⟨rfl, rfl, rfl⟩ | exact ⟨congrArg (fun x => some (Iv x)) (by omega), rfl, rfl⟩
  refine g_tabOut 161 dX10_count_1 (by omega) (by omega) (by decide) ?_
  refine g_iload_n 162 dX10_count_161 rfl rfl ?_
  refine g_bipush 164 dX10_count_162 (by decide) rfl ?_
  refine g_bipush 166 dX10_count_164 (by decide) rfl ?_
  refine o_S 169 0 0 [Iv w, Iv 11, Iv 17] [] dX10_count_166 csX10_138 mwX10_in (by decide) rfl (by decide) rfl rfl rfl (c_X10_in (by omega) (by omega) (by omega)) (fun h48 => ?_) (fun h48 => ?_)
  · refine g_if_eq 184 172 dX10_count_169 (by omega) (by decide) rfl (fun z => absurd z (by decide)) (fun _ => ?_)
    refine g_aload_n 173 dX10_count_172 rfl rfl ?_
    refine g_getC 176 dX10_count_173 fgX10_111 kd_40 ly_40_46 rfl ?_
    refine g_iload_n 177 dX10_count_176 rfl rfl ?_
    refine g_bipush 179 dX10_count_177 (by decide) rfl ?_
    refine g_isub 180 dX10_count_179 rfl ?_
    refine r_iald 181 ((w - 10).toNat) (κ 87 ((w - 10).toNat)) dX10_count_180 kd_87 (by decide) (by omega) (rfl) rfl (rfl) (fun r49 => ?_)
    refine g_goto 186 dX10_count_181 (by decide) ?_
    refine g_iret dX10_count_186 rfl ?_
    unfold M_count
    (repeat' split) <;> first | (exfalso; omega) | exact ⟨rfl, rfl, rfl⟩ | exact ⟨congrArg (fun x => some (Iv x)) (by omega), rfl, rfl⟩
  refine g_if_eq 184 172 dX10_count_169 (by omega) (by decide) rfl (fun _ => ?_) (fun z => absurd z (by decide))
  refine g_bipush 186 dX10_count_184 (by decide) rfl ?_
  refine g_iret dX10_count_186 rfl ?_
  unfold M_count
  (repeat' split) <;> first | (exfalso; omega) | exact ⟨rfl, rfl, rfl⟩ | exact ⟨congrArg (fun x => some (Iv x)) (by omega), rfl, rfl⟩
