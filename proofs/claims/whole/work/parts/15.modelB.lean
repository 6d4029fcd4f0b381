/-! the reference: loops (printed by wip/whole/gen15.py) -/
theorem cpy2_88 (κ : Ks) (b j : Nat) : ∀ k : Nat, cpy2 κ b k 88 j = κ 88 j
  | 0 => rfl
  | k + 1 => rd_t (by decide) (cpy2_88 κ b j k)
theorem cpy1_71 (κ : Ks) (a j : Nat) : ∀ k : Nat, cpy1 κ a k 71 j = κ 71 j
  | 0 => rfl
  | k + 1 => rd_t (by decide) (cpy1_71 κ a j k)
set_option maxHeartbeats 4000000 in
set_option maxRecDepth 20000 in
theorem c_X10_useOf {B : Bs} {n0 : Nat} {V : Vs} {κ : Ks} {h : Int} (h_h : 0 ≤ h ∧ h < κ 40 20) (hI : MI κ) : Ct (XR B n0) mX10_useOf 1 0 0 [Rf 40, Iv h] V κ (Ex (some (Iv (useM κ h.toNat))) V κ) := by
  obtain ⟨⟨i0, i1, i2, i3, i4, i5, i6, i7, i8, i9⟩, iS, iH, iR, iT, iC, iG, iL, iZ⟩ := id hI
  refine Ct.of (L := [some (Rf 40), some (Iv h), none]) 1 (by decide +kernel) rfl rfl ?_
  refine g_aload_n 1 dX10_useOf_0 rfl rfl ?_
  refine g_getC 4 dX10_useOf_1 fgX10_60 kd_40 ly_40_26 rfl ?_
  refine g_iload_n 5 dX10_useOf_4 rfl rfl ?_
  have ih := iH h.toNat (by omega)
  refine r_iald 6 ((h).toNat) (κ 67 ((h).toNat)) dX10_useOf_5 kd_67 (by decide) (by omega) (rfl) rfl (rfl) (fun r1 => ?_)
  refine g_istore_n (L' := [some (Rf 40), some (Iv h), some (Iv (κ 67 ((h).toNat)))]) 7 dX10_useOf_6 rfl (by decide) rfl ?_
  refine g_iload_n 8 dX10_useOf_7 rfl rfl ?_
  refine g_if_lt 47 11 dX10_useOf_8 (by first | assumption | omega) (by decide) rfl (fun h2 => ?_) (fun h2 => ?_)
  · refine g_aload_n 48 dX10_useOf_47 rfl rfl ?_
    refine g_getC 51 dX10_useOf_48 fgX10_54 kd_40 ly_40_24 rfl ?_
    refine g_iload_n 52 dX10_useOf_51 rfl rfl ?_
    refine r_iald 53 ((h).toNat) (κ 65 ((h).toNat)) dX10_useOf_52 kd_65 (by decide) (by omega) (rfl) rfl (rfl) (fun r3 => ?_)
    refine g_iret dX10_useOf_53 rfl ?_
    unfold useM
    (repeat' split) <;> first | (exfalso; omega) | exact ⟨rfl, rfl, rfl⟩
  refine g_aload_n 12 dX10_useOf_11 rfl rfl ?_
  refine g_getC 15 dX10_useOf_12 fgX10_69 kd_40 ly_40_29 rfl ?_
  refine g_iload_n 16 dX10_useOf_15 rfl rfl ?_
  have ir := (iR (κ 67 h.toNat).toNat (by omega)).1
  refine r_iald 17 ((κ 67 ((h).toNat)).toNat) (κ 70 ((κ 67 ((h).toNat)).toNat)) dX10_useOf_16 kd_70 (by decide) (by omega) (rfl) rfl (rfl) (fun r4 => ?_)
  refine g_if_le 47 20 dX10_useOf_17 (by first | assumption | omega) (by decide) rfl (fun h5 => ?_) (fun h5 => ?_)
  · refine g_aload_n 48 dX10_useOf_47 rfl rfl ?_
    refine g_getC 51 dX10_useOf_48 fgX10_54 kd_40 ly_40_24 rfl ?_
    refine g_iload_n 52 dX10_useOf_51 rfl rfl ?_
    refine r_iald 53 ((h).toNat) (κ 65 ((h).toNat)) dX10_useOf_52 kd_65 (by decide) (by omega) (rfl) rfl (rfl) (fun r6 => ?_)
    refine g_iret dX10_useOf_53 rfl ?_
    unfold useM
    (repeat' split) <;> first | (exfalso; omega) | exact ⟨rfl, rfl, rfl⟩
  refine g_aload_n 21 dX10_useOf_20 rfl rfl ?_
  refine g_getC 24 dX10_useOf_21 fgX10_72 kd_40 ly_40_30 rfl ?_
  refine g_bipush 26 dX10_useOf_24 (by decide) rfl ?_
  refine g_iload_n 27 dX10_useOf_26 rfl rfl ?_
  refine g_imul 28 dX10_useOf_27 rfl ?_
  refine g_aload_n 29 dX10_useOf_28 rfl rfl ?_
  refine r_getI 32 (κ 40 0) dX10_useOf_29 fgX10_149 kd_40 ly_40_0 rfl (rfl) (fun r7 => ?_)
  refine g_bipush 34 dX10_useOf_32 (by decide) rfl ?_
  refine g_irem 35 dX10_useOf_34 (by omega) (by omega) rfl ?_
  refine g_aload_n 36 dX10_useOf_35 rfl rfl ?_
  refine g_getC 39 dX10_useOf_36 fgX10_69 kd_40 ly_40_29 rfl ?_
  refine g_iload_n 40 dX10_useOf_39 rfl rfl ?_
  refine r_iald 41 ((κ 67 ((h).toNat)).toNat) (κ 70 ((κ 67 ((h).toNat)).toNat)) dX10_useOf_40 kd_70 (by decide) (by omega) (rfl) rfl (rfl) (fun r8 => ?_)
  refine g_irem 42 dX10_useOf_41 (by omega) (by omega) rfl ?_
  refine g_iadd 43 dX10_useOf_42 rfl ?_
  have q1 := Int.emod_nonneg (κ 40 0 % 24) (show κ 70 (κ 67 h.toNat).toNat ≠ 0 by omega)
  have q2 := Int.emod_lt_of_pos (κ 40 0 % 24) (show 0 < κ 70 (κ 67 h.toNat).toNat by omega)
  refine r_iald 44 (((24 * (κ 67 ((h).toNat))) + (((κ 40 0) % 24) % (κ 70 ((κ 67 ((h).toNat)).toNat)))).toNat) (κ 71 (((24 * (κ 67 ((h).toNat))) + (((κ 40 0) % 24) % (κ 70 ((κ 67 ((h).toNat)).toNat)))).toNat)) dX10_useOf_43 kd_71 (by decide) (by omega) (rfl) rfl (rfl) (fun r9 => ?_)
  refine g_goto 53 dX10_useOf_44 (by decide) ?_
  refine g_iret dX10_useOf_53 rfl ?_
  unfold useM
  (repeat' split) <;> first | (exfalso; omega) | exact ⟨rfl, rfl, rfl⟩
set_option maxHeartbeats 4000000 in
set_option maxRecDepth 20000 in
theorem c_X10_row {B : Bs} {n0 : Nat} {V : Vs} {κ : Ks} {r n : Int} (r_r : inR r) (r_n : inR n) (hI : MI κ) : Ct (XR B n0) mX10_row 2 0 0 [Rf 40, Iv r, Iv n] V κ (PM (M_row κ r n) V) := by
  obtain ⟨⟨i0, i1, i2, i3, i4, i5, i6, i7, i8, i9⟩, iS, iH, iR, iT, iC, iG, iL, iZ⟩ := id hI
  refine Ct.of (L := [some (Rf 40), some (Iv r), some (Iv n), none]) 1 (by decide +kernel) rfl rfl ?_
  have lp : ∀ (m : Nat) (k : Int), 0 ≤ k ∧ k ≤ n → (m : Int) = n - k → 0 ≤ r ∧ r ≤ 3 ∧ 0 ≤ n ∧ n ≤ 24 → G (XR B n0) mX10_row 2 (PM (M_row κ r n) V) V 0 0 48 [some (Rf 40), some (Iv r), some (Iv n), some (Iv k)] [] V (zrow (st2 κ 70 r.toNat n) r.toNat k.toNat) := by
    intro m
    induction m using Nat.strongRecOn with
    | ind m ih =>
      intro k hk hm hc
      refine g_iload_n 49 dX10_row_48 rfl rfl ?_
      refine g_iload_n 50 dX10_row_49 rfl rfl ?_
      refine g_icmp_ge 71 53 dX10_row_50 (by first | assumption | omega) (by first | assumption | omega) (by decide) rfl (fun h101 => ?_) (fun h101 => ?_)
      · refine g_iload_n 72 dX10_row_71 rfl rfl ?_
        refine g_iret dX10_row_72 rfl ?_
        have ek : k = n := by omega
        subst ek
        unfold M_row
        rw [if_neg (by omega), if_neg (by omega), if_neg (by omega)]
        exact ⟨rfl, rfl, rfl⟩
      refine g_aload_n 54 dX10_row_53 rfl rfl ?_
      refine g_getC 57 dX10_row_54 fgX10_72 kd_40 ly_40_30 rfl ?_
      refine g_bipush 59 dX10_row_57 (by decide) rfl ?_
      refine g_iload_n 60 dX10_row_59 rfl rfl ?_
      refine g_imul 61 dX10_row_60 rfl ?_
      refine g_iload_n 62 dX10_row_61 rfl rfl ?_
      refine g_iadd 63 dX10_row_62 rfl ?_
      refine g_iconst 64 dX10_row_63 (by decide) rfl ?_
      refine r_iast 65 (24 * r.toNat + k.toNat) dX10_row_64 kd_71 (by decide) ly_71 (by omega) (by omega) (by omega) rfl ?_
      refine g_iinc (L' := [some (Rf 40), some (Iv r), some (Iv n), some (Iv (k + 1))]) 68 dX10_row_65 rfl rfl (by decide) rfl ?_
      refine g_goto 48 dX10_row_68 (by decide) ?_
      have e : zrow (st2 κ 70 r.toNat n) r.toNat (k + 1).toNat = (st2 (zrow (st2 κ 70 r.toNat n) r.toNat k.toNat) 71 (24 * r.toNat + k.toNat) 0) := by rw [show (k + 1).toNat = k.toNat + 1 by omega]; rfl
      rw [← e]
      exact ih (m - 1) (by omega) (k + 1) (by omega) (by omega) hc
  refine g_iload_n 1 dX10_row_0 rfl rfl ?_
  refine g_iconst 2 dX10_row_1 (by decide) rfl ?_
  refine g_iconst 3 dX10_row_2 (by decide) rfl ?_
  refine o_S 6 0 0 [Iv r, Iv 0, Iv 3] [] dX10_row_3 csX10_138 mwX10_in (by decide) rfl (by decide) rfl rfl rfl (c_X10_in (by omega) (by omega) (by omega)) (fun h1 => ?_) (fun h1 => ?_)
  · refine g_if_ne 15 9 dX10_row_6 (by decide) (by decide) rfl (fun _ => ?_) (fun z => absurd z (by decide))
    refine g_iload_n 16 dX10_row_15 rfl rfl ?_
    refine g_if_ge 26 19 dX10_row_16 (by first | assumption | omega) (by decide) rfl (fun h2 => ?_) (fun h2 => ?_)
    · refine g_iload_n 27 dX10_row_26 rfl rfl ?_
      refine g_bipush 29 dX10_row_27 (by decide) rfl ?_
      refine g_icmp_le 39 32 dX10_row_29 (by first | assumption | omega) (by decide) (by decide) rfl (fun h3 => ?_) (fun h3 => ?_)
      · refine g_aload_n 40 dX10_row_39 rfl rfl ?_
        refine g_getC 43 dX10_row_40 fgX10_69 kd_40 ly_40_29 rfl ?_
        refine g_iload_n 44 dX10_row_43 rfl rfl ?_
        refine g_iload_n 45 dX10_row_44 rfl rfl ?_
        refine r_iast 46 ((r).toNat) dX10_row_45 kd_70 (by decide) ly_70 (by omega) (rfl) (by omega) rfl ?_
        refine g_iconst 47 dX10_row_46 (by decide) rfl ?_
        refine g_istore_n (L' := [some (Rf 40), some (Iv r), some (Iv n), some (Iv 0)]) 48 dX10_row_47 rfl (by decide) rfl ?_
        exact lp n.toNat 0 (by omega) (by omega) (by omega)
      refine g_aload_n 33 dX10_row_32 rfl rfl ?_
      refine g_bipush 35 dX10_row_33 (by decide) rfl ?_
      refine e_V 38 0 0 [Iv (-6)] [] dX10_row_35 cvX10_145 mwX10_refuse kd_40 (by decide) rfl (by decide) rfl rfl rfl (c_X10_refuse 6 (by decide) (by decide)) ?_
      refine g_iret dX10_row_38 rfl ?_
      unfold M_row
      (repeat' split) <;> first | (exfalso; omega) | exact ⟨rfl, rfl, rfl⟩ | exact ⟨congrArg (fun x => some (Iv x)) (by omega), rfl, rfl⟩
    refine g_aload_n 20 dX10_row_19 rfl rfl ?_
    refine g_bipush 22 dX10_row_20 (by decide) rfl ?_
    refine e_V 25 0 0 [Iv (-4)] [] dX10_row_22 cvX10_145 mwX10_refuse kd_40 (by decide) rfl (by decide) rfl rfl rfl (c_X10_refuse 4 (by decide) (by decide)) ?_
    refine g_iret dX10_row_25 rfl ?_
    unfold M_row
    (repeat' split) <;> first | (exfalso; omega) | exact ⟨rfl, rfl, rfl⟩ | exact ⟨congrArg (fun x => some (Iv x)) (by omega), rfl, rfl⟩
  refine g_if_ne 15 9 dX10_row_6 (by decide) (by decide) rfl (fun z => absurd z (by decide)) (fun _ => ?_)
  refine g_aload_n 10 dX10_row_9 rfl rfl ?_
  refine g_iconst 11 dX10_row_10 (by decide) rfl ?_
  refine e_V 14 0 0 [Iv (-1)] [] dX10_row_11 cvX10_145 mwX10_refuse kd_40 (by decide) rfl (by decide) rfl rfl rfl (c_X10_refuse 1 (by decide) (by decide)) ?_
  refine g_iret dX10_row_14 rfl ?_
  unfold M_row
  (repeat' split) <;> first | (exfalso; omega) | exact ⟨rfl, rfl, rfl⟩ | exact ⟨congrArg (fun x => some (Iv x)) (by omega), rfl, rfl⟩
set_option maxHeartbeats 4000000 in
set_option maxRecDepth 20000 in
theorem c_X10_copy {B : Bs} {n0 : Nat} {V : Vs} {κ : Ks} {r i s j n : Int} (r_r : inR r) (r_i : inR i) (r_s : inR s) (r_j : inR j) (r_n : inR n) (hI : MI κ) : Ct (XR B n0) mX10_copy 2 0 0 [Rf 40, Iv r, Iv i, Iv s, Iv j, Iv n] V κ (PM (M_copy κ r i s j n) V) := by
  obtain ⟨⟨i0, i1, i2, i3, i4, i5, i6, i7, i8, i9⟩, iS, iH, iR, iT, iC, iG, iL, iZ⟩ := id hI
  refine Ct.of (L := [some (Rf 40), some (Iv r), some (Iv i), some (Iv s), some (Iv j), some (Iv n), none]) 1 (by decide +kernel) rfl rfl ?_
  have lp2 : ∀ (m : Nat) (k : Int), 0 ≤ k ∧ k ≤ n → (m : Int) = n - k → (0 ≤ r ∧ r ≤ 3) ∧ (0 ≤ s ∧ s ≤ 3) ∧ (0 ≤ κ 70 r.toNat ∧ κ 70 r.toNat ≤ 24) ∧ (0 ≤ κ 70 s.toNat ∧ κ 70 s.toNat ≤ 24) ∧ 0 ≤ n ∧ n ≤ 24 ∧ 0 ≤ i ∧ 0 ≤ j ∧ i ≤ κ 70 r.toNat - n ∧ j ≤ κ 70 s.toNat - n → G (XR B n0) mX10_copy 2 (PM (M_copy κ r i s j n) V) V 0 0 144 [some (Rf 40), some (Iv r), some (Iv i), some (Iv s), some (Iv j), some (Iv n), some (Iv k)] [] V (cpy2 (cpy1 κ (24 * r + i).toNat n.toNat) (24 * s + j).toNat k.toNat) := by
    intro m
    induction m using Nat.strongRecOn with
    | ind m ih =>
      intro k hk hm hc
      refine g_iload 146 dX10_copy_144 rfl rfl ?_
      refine g_iload 148 dX10_copy_146 rfl rfl ?_
      refine g_icmp_ge 179 151 dX10_copy_148 (by first | assumption | omega) (by first | assumption | omega) (by decide) rfl (fun h101 => ?_) (fun h101 => ?_)
      · refine g_iload 181 dX10_copy_179 rfl rfl ?_
        refine g_iret dX10_copy_181 rfl ?_
        have ek : k = n := by omega
        subst ek
        unfold M_copy
        rw [if_neg (by omega), if_neg (by omega), if_neg (by omega)]
        exact ⟨rfl, rfl, rfl⟩
      refine g_aload_n 152 dX10_copy_151 rfl rfl ?_
      refine g_getC 155 dX10_copy_152 fgX10_72 kd_40 ly_40_30 rfl ?_
      refine g_bipush 157 dX10_copy_155 (by decide) rfl ?_
      refine g_iload_n 158 dX10_copy_157 rfl rfl ?_
      refine g_imul 159 dX10_copy_158 rfl ?_
      refine g_iload 161 dX10_copy_159 rfl rfl ?_
      refine g_iadd 162 dX10_copy_161 rfl ?_
      refine g_iload 164 dX10_copy_162 rfl rfl ?_
      refine g_iadd 165 dX10_copy_164 rfl ?_
      refine g_aload_n 166 dX10_copy_165 rfl rfl ?_
      refine g_getC 169 dX10_copy_166 fgX10_114 kd_40 ly_40_47 rfl ?_
      refine g_iload 171 dX10_copy_169 rfl rfl ?_
      refine r_iald 172 k.toNat ((cpy1 κ (24 * r + i).toNat n.toNat) 88 k.toNat) dX10_copy_171 kd_88 (by decide) (by omega) rfl rfl (cpy2_88 _ _ _ _) (fun r171 => ?_)
      refine r_iast 173 ((24 * s + j).toNat + k.toNat) dX10_copy_172 kd_71 (by decide) ly_71 (by omega) (by omega) (by omega) rfl ?_
      refine g_iinc (L' := [some (Rf 40), some (Iv r), some (Iv i), some (Iv s), some (Iv j), some (Iv n), some (Iv (k + 1))]) 176 dX10_copy_173 rfl rfl (by decide) rfl ?_
      refine g_goto 144 dX10_copy_176 (by decide) ?_
      have e : cpy2 (cpy1 κ (24 * r + i).toNat n.toNat) (24 * s + j).toNat (k + 1).toNat = (st2 (cpy2 (cpy1 κ (24 * r + i).toNat n.toNat) (24 * s + j).toNat k.toNat) 71 ((24 * s + j).toNat + k.toNat) ((cpy1 κ (24 * r + i).toNat n.toNat) 88 k.toNat)) := by rw [show (k + 1).toNat = k.toNat + 1 by omega]; rfl
      rw [← e]
      exact ih (m - 1) (by omega) (k + 1) (by omega) (by omega) hc
  have lp1 : ∀ (m : Nat) (k : Int), 0 ≤ k ∧ k ≤ n → (m : Int) = n - k → (0 ≤ r ∧ r ≤ 3) ∧ (0 ≤ s ∧ s ≤ 3) ∧ (0 ≤ κ 70 r.toNat ∧ κ 70 r.toNat ≤ 24) ∧ (0 ≤ κ 70 s.toNat ∧ κ 70 s.toNat ≤ 24) ∧ 0 ≤ n ∧ n ≤ 24 ∧ 0 ≤ i ∧ 0 ≤ j ∧ i ≤ κ 70 r.toNat - n ∧ j ≤ κ 70 s.toNat - n → G (XR B n0) mX10_copy 2 (PM (M_copy κ r i s j n) V) V 0 0 107 [some (Rf 40), some (Iv r), some (Iv i), some (Iv s), some (Iv j), some (Iv n), some (Iv k)] [] V (cpy1 κ (24 * r + i).toNat k.toNat) := by
    intro m
    induction m using Nat.strongRecOn with
    | ind m ih =>
      intro k hk hm hc
      refine g_iload 109 dX10_copy_107 rfl rfl ?_
      refine g_iload 111 dX10_copy_109 rfl rfl ?_
      refine g_icmp_ge 141 114 dX10_copy_111 (by first | assumption | omega) (by first | assumption | omega) (by decide) rfl (fun h101 => ?_) (fun h101 => ?_)
      · refine g_iconst 142 dX10_copy_141 (by decide) rfl ?_
        refine g_istore (L' := [some (Rf 40), some (Iv r), some (Iv i), some (Iv s), some (Iv j), some (Iv n), some (Iv 0)]) 144 dX10_copy_142 rfl (by decide) rfl ?_
        have ek : k = n := by omega
        rw [ek]
        exact lp2 n.toNat 0 (by omega) (by omega) hc
      refine g_aload_n 115 dX10_copy_114 rfl rfl ?_
      refine g_getC 118 dX10_copy_115 fgX10_114 kd_40 ly_40_47 rfl ?_
      refine g_iload 120 dX10_copy_118 rfl rfl ?_
      refine g_aload_n 121 dX10_copy_120 rfl rfl ?_
      refine g_getC 124 dX10_copy_121 fgX10_72 kd_40 ly_40_30 rfl ?_
      refine g_bipush 126 dX10_copy_124 (by decide) rfl ?_
      refine g_iload_n 127 dX10_copy_126 rfl rfl ?_
      refine g_imul 128 dX10_copy_127 rfl ?_
      refine g_iload_n 129 dX10_copy_128 rfl rfl ?_
      refine g_iadd 130 dX10_copy_129 rfl ?_
      refine g_iload 132 dX10_copy_130 rfl rfl ?_
      refine g_iadd 133 dX10_copy_132 rfl ?_
      refine r_iald 134 ((24 * r + i).toNat + k.toNat) (κ 71 ((24 * r + i).toNat + k.toNat)) dX10_copy_133 kd_71 (by decide) (by omega) (by omega) rfl (cpy1_71 _ _ _ _) (fun r133 => ?_)
      refine r_iast 135 ((k).toNat) dX10_copy_134 kd_88 (by decide) ly_88 (by omega) (rfl) (by omega) rfl ?_
      refine g_iinc (L' := [some (Rf 40), some (Iv r), some (Iv i), some (Iv s), some (Iv j), some (Iv n), some (Iv (k + 1))]) 138 dX10_copy_135 rfl rfl (by decide) rfl ?_
      refine g_goto 107 dX10_copy_138 (by decide) ?_
      have e : cpy1 κ (24 * r + i).toNat (k + 1).toNat = (st2 (cpy1 κ (24 * r + i).toNat k.toNat) 88 ((k).toNat) (κ 71 ((24 * r + i).toNat + k.toNat))) := by rw [show (k + 1).toNat = k.toNat + 1 by omega]; rfl
      rw [← e]
      exact ih (m - 1) (by omega) (k + 1) (by omega) (by omega) hc
  refine g_iload_n 1 dX10_copy_0 rfl rfl ?_
  refine g_iconst 2 dX10_copy_1 (by decide) rfl ?_
  refine g_iconst 3 dX10_copy_2 (by decide) rfl ?_
  refine o_S 6 0 0 [Iv r, Iv 0, Iv 3] [] dX10_copy_3 csX10_138 mwX10_in (by decide) rfl (by decide) rfl rfl rfl (c_X10_in (by omega) (by omega) (by omega)) (fun h1 => ?_) (fun h1 => ?_)
  · refine g_if_eq 18 9 dX10_copy_6 (by decide) (by decide) rfl (fun z => absurd z (by decide)) (fun _ => ?_)
    refine g_iload_n 10 dX10_copy_9 rfl rfl ?_
    refine g_iconst 11 dX10_copy_10 (by decide) rfl ?_
    refine g_iconst 12 dX10_copy_11 (by decide) rfl ?_
    refine o_S 15 0 0 [Iv s, Iv 0, Iv 3] [] dX10_copy_12 csX10_138 mwX10_in (by decide) rfl (by decide) rfl rfl rfl (c_X10_in (by omega) (by omega) (by omega)) (fun h2 => ?_) (fun h2 => ?_)
    · refine g_if_ne 24 18 dX10_copy_15 (by decide) (by decide) rfl (fun _ => ?_) (fun z => absurd z (by decide))
      have ir := (iR r.toNat (by omega)).1
      have is := (iR s.toNat (by omega)).1
      refine g_aload_n 25 dX10_copy_24 rfl rfl ?_
      refine g_getC 28 dX10_copy_25 fgX10_69 kd_40 ly_40_29 rfl ?_
      refine g_iload_n 29 dX10_copy_28 rfl rfl ?_
      refine r_iald 30 ((r).toNat) (κ 70 ((r).toNat)) dX10_copy_29 kd_70 (by decide) (by omega) (rfl) rfl (rfl) (fun r3 => ?_)
      refine g_if_lt 42 33 dX10_copy_30 (by first | assumption | omega) (by decide) rfl (fun h4 => ?_) (fun h4 => ?_)
      · refine g_aload_n 43 dX10_copy_42 rfl rfl ?_
        refine g_bipush 45 dX10_copy_43 (by decide) rfl ?_
        refine e_V 48 0 0 [Iv (-5)] [] dX10_copy_45 cvX10_145 mwX10_refuse kd_40 (by decide) rfl (by decide) rfl rfl rfl (c_X10_refuse 5 (by decide) (by decide)) ?_
        refine g_iret dX10_copy_48 rfl ?_
        unfold M_copy
        (repeat' split) <;> first | (exfalso; omega) | exact ⟨rfl, rfl, rfl⟩ | exact ⟨congrArg (fun x => some (Iv x)) (by omega), rfl, rfl⟩
      refine g_aload_n 34 dX10_copy_33 rfl rfl ?_
      refine g_getC 37 dX10_copy_34 fgX10_69 kd_40 ly_40_29 rfl ?_
      refine g_iload_n 38 dX10_copy_37 rfl rfl ?_
      refine r_iald 39 ((s).toNat) (κ 70 ((s).toNat)) dX10_copy_38 kd_70 (by decide) (by omega) (rfl) rfl (rfl) (fun r5 => ?_)
      refine g_if_ge 49 42 dX10_copy_39 (by first | assumption | omega) (by decide) rfl (fun h6 => ?_) (fun h6 => ?_)
      · refine g_iload 51 dX10_copy_49 rfl rfl ?_
        refine g_if_lt 97 54 dX10_copy_51 (by first | assumption | omega) (by decide) rfl (fun h7 => ?_) (fun h7 => ?_)
        · refine g_aload_n 98 dX10_copy_97 rfl rfl ?_
          refine g_bipush 100 dX10_copy_98 (by decide) rfl ?_
          refine e_V 103 0 0 [Iv (-7)] [] dX10_copy_100 cvX10_145 mwX10_refuse kd_40 (by decide) rfl (by decide) rfl rfl rfl (c_X10_refuse 7 (by decide) (by decide)) ?_
          refine g_iret dX10_copy_103 rfl ?_
          unfold M_copy
          (repeat' split) <;> first | (exfalso; omega) | exact ⟨rfl, rfl, rfl⟩ | exact ⟨congrArg (fun x => some (Iv x)) (by omega), rfl, rfl⟩
        refine g_iload 56 dX10_copy_54 rfl rfl ?_
        refine g_bipush 58 dX10_copy_56 (by decide) rfl ?_
        refine g_icmp_gt 97 61 dX10_copy_58 (by first | assumption | omega) (by decide) (by decide) rfl (fun h8 => ?_) (fun h8 => ?_)
        · refine g_aload_n 98 dX10_copy_97 rfl rfl ?_
          refine g_bipush 100 dX10_copy_98 (by decide) rfl ?_
          refine e_V 103 0 0 [Iv (-7)] [] dX10_copy_100 cvX10_145 mwX10_refuse kd_40 (by decide) rfl (by decide) rfl rfl rfl (c_X10_refuse 7 (by decide) (by decide)) ?_
          refine g_iret dX10_copy_103 rfl ?_
          unfold M_copy
          (repeat' split) <;> first | (exfalso; omega) | exact ⟨rfl, rfl, rfl⟩ | exact ⟨congrArg (fun x => some (Iv x)) (by omega), rfl, rfl⟩
        refine g_iload_n 62 dX10_copy_61 rfl rfl ?_
        refine g_if_lt 97 65 dX10_copy_62 (by first | assumption | omega) (by decide) rfl (fun h9 => ?_) (fun h9 => ?_)
        · refine g_aload_n 98 dX10_copy_97 rfl rfl ?_
          refine g_bipush 100 dX10_copy_98 (by decide) rfl ?_
          refine e_V 103 0 0 [Iv (-7)] [] dX10_copy_100 cvX10_145 mwX10_refuse kd_40 (by decide) rfl (by decide) rfl rfl rfl (c_X10_refuse 7 (by decide) (by decide)) ?_
          refine g_iret dX10_copy_103 rfl ?_
          unfold M_copy
          (repeat' split) <;> first | (exfalso; omega) | exact ⟨rfl, rfl, rfl⟩ | exact ⟨congrArg (fun x => some (Iv x)) (by omega), rfl, rfl⟩
        refine g_iload 67 dX10_copy_65 rfl rfl ?_
        refine g_if_lt 97 70 dX10_copy_67 (by first | assumption | omega) (by decide) rfl (fun h10 => ?_) (fun h10 => ?_)
        · refine g_aload_n 98 dX10_copy_97 rfl rfl ?_
          refine g_bipush 100 dX10_copy_98 (by decide) rfl ?_
          refine e_V 103 0 0 [Iv (-7)] [] dX10_copy_100 cvX10_145 mwX10_refuse kd_40 (by decide) rfl (by decide) rfl rfl rfl (c_X10_refuse 7 (by decide) (by decide)) ?_
          refine g_iret dX10_copy_103 rfl ?_
          unfold M_copy
          (repeat' split) <;> first | (exfalso; omega) | exact ⟨rfl, rfl, rfl⟩ | exact ⟨congrArg (fun x => some (Iv x)) (by omega), rfl, rfl⟩
        refine g_iload_n 71 dX10_copy_70 rfl rfl ?_
        refine g_aload_n 72 dX10_copy_71 rfl rfl ?_
        refine g_getC 75 dX10_copy_72 fgX10_69 kd_40 ly_40_29 rfl ?_
        refine g_iload_n 76 dX10_copy_75 rfl rfl ?_
        refine r_iald 77 ((r).toNat) (κ 70 ((r).toNat)) dX10_copy_76 kd_70 (by decide) (by omega) (rfl) rfl (rfl) (fun r11 => ?_)
        refine g_iload 79 dX10_copy_77 rfl rfl ?_
        refine g_isub 80 dX10_copy_79 rfl ?_
        refine g_icmp_gt 97 83 dX10_copy_80 (by first | assumption | omega) (by first | assumption | omega) (by decide) rfl (fun h12 => ?_) (fun h12 => ?_)
        · refine g_aload_n 98 dX10_copy_97 rfl rfl ?_
          refine g_bipush 100 dX10_copy_98 (by decide) rfl ?_
          refine e_V 103 0 0 [Iv (-7)] [] dX10_copy_100 cvX10_145 mwX10_refuse kd_40 (by decide) rfl (by decide) rfl rfl rfl (c_X10_refuse 7 (by decide) (by decide)) ?_
          refine g_iret dX10_copy_103 rfl ?_
          unfold M_copy
          (repeat' split) <;> first | (exfalso; omega) | exact ⟨rfl, rfl, rfl⟩ | exact ⟨congrArg (fun x => some (Iv x)) (by omega), rfl, rfl⟩
        refine g_iload 85 dX10_copy_83 rfl rfl ?_
        refine g_aload_n 86 dX10_copy_85 rfl rfl ?_
        refine g_getC 89 dX10_copy_86 fgX10_69 kd_40 ly_40_29 rfl ?_
        refine g_iload_n 90 dX10_copy_89 rfl rfl ?_
        refine r_iald 91 ((s).toNat) (κ 70 ((s).toNat)) dX10_copy_90 kd_70 (by decide) (by omega) (rfl) rfl (rfl) (fun r13 => ?_)
        refine g_iload 93 dX10_copy_91 rfl rfl ?_
        refine g_isub 94 dX10_copy_93 rfl ?_
        refine g_icmp_le 104 97 dX10_copy_94 (by first | assumption | omega) (by first | assumption | omega) (by decide) rfl (fun h14 => ?_) (fun h14 => ?_)
        · refine g_iconst 105 dX10_copy_104 (by decide) rfl ?_
          refine g_istore (L' := [some (Rf 40), some (Iv r), some (Iv i), some (Iv s), some (Iv j), some (Iv n), some (Iv 0)]) 107 dX10_copy_105 rfl (by decide) rfl ?_
          exact lp1 n.toNat 0 (by omega) (by omega) (by omega)
        refine g_aload_n 98 dX10_copy_97 rfl rfl ?_
        refine g_bipush 100 dX10_copy_98 (by decide) rfl ?_
        refine e_V 103 0 0 [Iv (-7)] [] dX10_copy_100 cvX10_145 mwX10_refuse kd_40 (by decide) rfl (by decide) rfl rfl rfl (c_X10_refuse 7 (by decide) (by decide)) ?_
        refine g_iret dX10_copy_103 rfl ?_
        unfold M_copy
        (repeat' split) <;> first | (exfalso; omega) | exact ⟨rfl, rfl, rfl⟩ | exact ⟨congrArg (fun x => some (Iv x)) (by omega), rfl, rfl⟩
      refine g_aload_n 43 dX10_copy_42 rfl rfl ?_
      refine g_bipush 45 dX10_copy_43 (by decide) rfl ?_
      refine e_V 48 0 0 [Iv (-5)] [] dX10_copy_45 cvX10_145 mwX10_refuse kd_40 (by decide) rfl (by decide) rfl rfl rfl (c_X10_refuse 5 (by decide) (by decide)) ?_
      refine g_iret dX10_copy_48 rfl ?_
      unfold M_copy
      (repeat' split) <;> first | (exfalso; omega) | exact ⟨rfl, rfl, rfl⟩ | exact ⟨congrArg (fun x => some (Iv x)) (by omega), rfl, rfl⟩
    refine g_if_ne 24 18 dX10_copy_15 (by decide) (by decide) rfl (fun z => absurd z (by decide)) (fun _ => ?_)
    refine g_aload_n 19 dX10_copy_18 rfl rfl ?_
    refine g_iconst 20 dX10_copy_19 (by decide) rfl ?_
    refine e_V 23 0 0 [Iv (-1)] [] dX10_copy_20 cvX10_145 mwX10_refuse kd_40 (by decide) rfl (by decide) rfl rfl rfl (c_X10_refuse 1 (by decide) (by decide)) ?_
    refine g_iret dX10_copy_23 rfl ?_
    unfold M_copy
    (repeat' split) <;> first | (exfalso; omega) | exact ⟨rfl, rfl, rfl⟩ | exact ⟨congrArg (fun x => some (Iv x)) (by omega), rfl, rfl⟩
  refine g_if_eq 18 9 dX10_copy_6 (by decide) (by decide) rfl (fun _ => ?_) (fun z => absurd z (by decide))
  refine g_aload_n 19 dX10_copy_18 rfl rfl ?_
  refine g_iconst 20 dX10_copy_19 (by decide) rfl ?_
  refine e_V 23 0 0 [Iv (-1)] [] dX10_copy_20 cvX10_145 mwX10_refuse kd_40 (by decide) rfl (by decide) rfl rfl rfl (c_X10_refuse 1 (by decide) (by decide)) ?_
  refine g_iret dX10_copy_23 rfl ?_
  unfold M_copy
  (repeat' split) <;> first | (exfalso; omega) | exact ⟨rfl, rfl, rfl⟩ | exact ⟨congrArg (fun x => some (Iv x)) (by omega), rfl, rfl⟩
set_option maxHeartbeats 4000000 in
set_option maxRecDepth 20000 in
theorem c_X10_isLet {B : Bs} {n0 : Nat} {V : Vs} {κ : Ks} {s h : Int} (r_s : inR s) (h_h : 0 ≤ h ∧ h < 168) (hI : MI κ) : Ct (XR B n0) mX10_isLet 1 0 0 [Rf 40, Iv s, Iv h] V κ (Or2 V κ (LetP κ s h) (Iv 1) (¬ LetP κ s h) (Iv 0)) := by
  obtain ⟨⟨i0, i1, i2, i3, i4, i5, i6, i7, i8, i9⟩, iS, iH, iR, iT, iC, iG, iL, iZ⟩ := id hI
  refine Ct.of (L := [some (Rf 40), some (Iv s), some (Iv h), none]) 1 (by decide +kernel) rfl rfl ?_
  have lp : ∀ (m : Nat) (t : Int), 0 ≤ t ∧ t ≤ κ 40 31 → (m : Int) = κ 40 31 - t → (∀ u : Nat, (u : Int) < t → ¬ LetC κ s h u) → G (XR B n0) mX10_isLet 1 (Or2 V κ (LetP κ s h) (Iv 1) (¬ LetP κ s h) (Iv 0)) V 0 0 2 [some (Rf 40), some (Iv s), some (Iv h), some (Iv t)] [] V κ := by
    intro m
    induction m using Nat.strongRecOn with
    | ind m ih =>
      intro t ht hm hn
      refine g_iload_n 3 dX10_isLet_2 rfl rfl ?_
      refine g_aload_n 4 dX10_isLet_3 rfl rfl ?_
      refine r_getI 7 (κ 40 31) dX10_isLet_4 fgX10_164 kd_40 ly_40_31 rfl (rfl) (fun r101 => ?_)
      refine g_icmp_ge 53 10 dX10_isLet_7 (by first | assumption | omega) (by first | assumption | omega) (by decide) rfl (fun h102 => ?_) (fun h102 => ?_)
      · refine g_iconst 54 dX10_isLet_53 (by decide) rfl ?_
        refine g_zret dX10_isLet_54 rfl (by omega) ?_
        exact ⟨rfl, rfl, Or.inr ⟨fun ⟨u, hu, hc⟩ => hn u (by omega) hc, rfl⟩⟩
      refine g_aload_n 11 dX10_isLet_10 rfl rfl ?_
      refine g_getC 14 dX10_isLet_11 fgX10_75 kd_40 ly_40_32 rfl ?_
      refine g_iload_n 15 dX10_isLet_14 rfl rfl ?_
      have it := iT t.toNat (by omega)
      refine r_iald 16 ((t).toNat) (κ 73 ((t).toNat)) dX10_isLet_15 kd_73 (by decide) (by omega) (rfl) rfl (rfl) (fun r103 => ?_)
      refine g_iload_n 17 dX10_isLet_16 rfl rfl ?_
      refine g_icmp_ne 47 20 dX10_isLet_17 (by first | assumption | omega) (by first | assumption | omega) (by decide) rfl (fun h104 => ?_) (fun h104 => ?_)
      · refine g_iinc (L' := [some (Rf 40), some (Iv s), some (Iv h), some (Iv (t + 1))]) 50 dX10_isLet_47 rfl rfl (by decide) rfl ?_
        refine g_goto 2 dX10_isLet_50 (by decide) ?_
        refine ih (m - 1) (by omega) (t + 1) (by omega) (by omega) (fun u hu hc => ?_)
        rcases Int.lt_or_le (u : Int) t with q | q
        · exact hn u q hc
        · have e : u = t.toNat := by omega
          subst e
          omega
      refine g_iload_n 21 dX10_isLet_20 rfl rfl ?_
      refine g_aload_n 22 dX10_isLet_21 rfl rfl ?_
      refine g_getC 25 dX10_isLet_22 fgX10_81 kd_40 ly_40_34 rfl ?_
      refine g_iload_n 26 dX10_isLet_25 rfl rfl ?_
      refine r_iald 27 ((t).toNat) (κ 75 ((t).toNat)) dX10_isLet_26 kd_75 (by decide) (by omega) (rfl) rfl (rfl) (fun r105 => ?_)
      refine g_isub 28 dX10_isLet_27 rfl ?_
      refine g_sipush 31 dX10_isLet_28 (by decide) rfl ?_
      refine g_iadd 32 dX10_isLet_31 rfl ?_
      refine g_sipush 35 dX10_isLet_32 (by decide) rfl ?_
      refine g_irem 36 dX10_isLet_35 (by omega) (by omega) rfl ?_
      refine g_aload_n 37 dX10_isLet_36 rfl rfl ?_
      refine g_getC 40 dX10_isLet_37 fgX10_84 kd_40 ly_40_35 rfl ?_
      refine g_iload_n 41 dX10_isLet_40 rfl rfl ?_
      refine r_iald 42 ((t).toNat) (κ 76 ((t).toNat)) dX10_isLet_41 kd_76 (by decide) (by omega) (rfl) rfl (rfl) (fun r106 => ?_)
      refine g_icmp_ge 47 45 dX10_isLet_42 (by first | assumption | omega) (by first | assumption | omega) (by decide) rfl (fun h107 => ?_) (fun h107 => ?_)
      · refine g_iinc (L' := [some (Rf 40), some (Iv s), some (Iv h), some (Iv (t + 1))]) 50 dX10_isLet_47 rfl rfl (by decide) rfl ?_
        refine g_goto 2 dX10_isLet_50 (by decide) ?_
        refine ih (m - 1) (by omega) (t + 1) (by omega) (by omega) (fun u hu hc => ?_)
        rcases Int.lt_or_le (u : Int) t with q | q
        · exact hn u q hc
        · have e : u = t.toNat := by omega
          subst e
          omega
      refine g_iconst 46 dX10_isLet_45 (by decide) rfl ?_
      refine g_zret dX10_isLet_46 rfl (by omega) ?_
      exact ⟨rfl, rfl, Or.inl ⟨⟨t.toNat, by omega, by omega, by omega⟩, rfl⟩⟩
  refine g_iconst 1 dX10_isLet_0 (by decide) rfl ?_
  refine g_istore_n (L' := [some (Rf 40), some (Iv s), some (Iv h), some (Iv 0)]) 2 dX10_isLet_1 rfl (by decide) rfl ?_
  exact lp (κ 40 31).toNat 0 (by omega) (by omega) (fun u hu => by omega)
set_option maxHeartbeats 4000000 in
set_option maxRecDepth 20000 in
theorem c_X10_isOpen {B : Bs} {n0 : Nat} {V : Vs} {κ : Ks} {s h : Int} (h_s : -1 ≤ s ∧ s < κ 40 11) (h_h : 0 ≤ h ∧ h < 168) (hI : MI κ) : Ct (XR B n0) mX10_isOpen 2 0 0 [Rf 40, Iv s, Iv h] V κ (Or2 V κ (OpenP κ s h) (Iv 1) (¬ OpenP κ s h) (Iv 0)) := by
  obtain ⟨⟨i0, i1, i2, i3, i4, i5, i6, i7, i8, i9⟩, iS, iH, iR, iT, iC, iG, iL, iZ⟩ := id hI
  refine Ct.of (L := [some (Rf 40), some (Iv s), some (Iv h), none, none]) 2 (by decide +kernel) rfl rfl ?_
  have ex0 : ∀ (x : Int), inR x → ¬ OpenP κ s h → G (XR B n0) mX10_isOpen 2 (Or2 V κ (OpenP κ s h) (Iv 1) (¬ OpenP κ s h) (Iv 0)) V 0 0 5 [some (Rf 40), some (Iv s), some (Iv h), some (Iv 0), some (Iv x)] [] V κ := by
    intro x rx hno
    refine g_iload 7 dX10_isOpen_5 rfl rfl ?_
    refine g_if_lt 34 10 dX10_isOpen_7 (by first | assumption | omega) (by decide) rfl (fun h151 => ?_) (fun h151 => ?_)
    · refine g_iload_n 35 dX10_isOpen_34 rfl rfl ?_
      refine g_zret dX10_isOpen_35 rfl (by omega) ?_
      exact ⟨rfl, rfl, Or.inr ⟨hno, rfl⟩⟩
    refine g_iload_n 11 dX10_isOpen_10 rfl rfl ?_
    refine g_if_eq 34 14 dX10_isOpen_11 (by decide) (by decide) rfl (fun _ => ?_) (fun z => absurd z (by decide))
    refine g_iload_n 35 dX10_isOpen_34 rfl rfl ?_
    refine g_zret dX10_isOpen_35 rfl (by omega) ?_
    exact ⟨rfl, rfl, Or.inr ⟨hno, rfl⟩⟩
  have lp : ∀ (m : Nat) (x : Int), -1 ≤ x ∧ x < κ 40 11 → (m : Int) = x + 1 → (OpenP κ x h ↔ OpenP κ s h) → G (XR B n0) mX10_isOpen 2 (Or2 V κ (OpenP κ s h) (Iv 1) (¬ OpenP κ s h) (Iv 0)) V 0 0 5 [some (Rf 40), some (Iv s), some (Iv h), some (Iv 1), some (Iv x)] [] V κ := by
    intro m
    induction m using Nat.strongRecOn with
    | ind m ih =>
      intro x hx hm ho
      refine g_iload 7 dX10_isOpen_5 rfl rfl ?_
      refine g_if_lt 34 10 dX10_isOpen_7 (by first | assumption | omega) (by decide) rfl (fun h101 => ?_) (fun h101 => ?_)
      · refine g_iload_n 35 dX10_isOpen_34 rfl rfl ?_
        refine g_zret dX10_isOpen_35 rfl (by omega) ?_
        exact ⟨rfl, rfl, Or.inl ⟨ho.mp (open_neg (by omega)), rfl⟩⟩
      refine g_iload_n 11 dX10_isOpen_10 rfl rfl ?_
      refine g_if_eq 34 14 dX10_isOpen_11 (by decide) (by decide) rfl (fun z => absurd z (by decide)) (fun _ => ?_)
      refine g_aload_n 15 dX10_isOpen_14 rfl rfl ?_
      refine g_iload 17 dX10_isOpen_15 rfl rfl ?_
      refine g_iload_n 18 dX10_isOpen_17 rfl rfl ?_
      refine o_V 21 0 0 [Iv x, Iv h] [] dX10_isOpen_18 cvX10_167 mwX10_isLet kd_40 (by decide) rfl (by decide) rfl rfl rfl (c_X10_isLet (by first | assumption | omega) (by omega) hI) (fun h102 => ?_) (fun h102 => ?_)
      · have hl := h102
        refine g_istore_n (L' := [some (Rf 40), some (Iv s), some (Iv h), some (Iv 1), some (Iv x)]) 22 dX10_isOpen_21 rfl (by decide) rfl ?_
        refine g_aload_n 23 dX10_isOpen_22 rfl rfl ?_
        refine g_getC 26 dX10_isOpen_23 fgX10_19 kd_40 ly_40_12 rfl ?_
        refine g_iload 28 dX10_isOpen_26 rfl rfl ?_
        have ix := (iS x.toNat (by omega)).1
        refine r_iald 29 ((x).toNat) (κ 53 ((x).toNat)) dX10_isOpen_28 kd_53 (by decide) (by omega) (rfl) rfl (rfl) (fun r103 => ?_)
        refine g_istore (L' := [some (Rf 40), some (Iv s), some (Iv h), some (Iv 1), some (Iv (κ 53 ((x).toNat)))]) 31 dX10_isOpen_29 rfl (by decide) rfl ?_
        refine g_goto 5 dX10_isOpen_31 (by decide) ?_
        exact ih (κ 53 x.toNat + 1).toNat (by omega) _ (by omega) (by omega) (⟨fun z => ho.mp ((open_step (by omega)).mpr ⟨hl, z⟩), fun z => ((open_step (by omega)).mp (ho.mpr z)).2⟩)
      have hl := h102
      refine g_istore_n (L' := [some (Rf 40), some (Iv s), some (Iv h), some (Iv 0), some (Iv x)]) 22 dX10_isOpen_21 rfl (by decide) rfl ?_
      refine g_aload_n 23 dX10_isOpen_22 rfl rfl ?_
      refine g_getC 26 dX10_isOpen_23 fgX10_19 kd_40 ly_40_12 rfl ?_
      refine g_iload 28 dX10_isOpen_26 rfl rfl ?_
      have ix := (iS x.toNat (by omega)).1
      refine r_iald 29 ((x).toNat) (κ 53 ((x).toNat)) dX10_isOpen_28 kd_53 (by decide) (by omega) (rfl) rfl (rfl) (fun r104 => ?_)
      refine g_istore (L' := [some (Rf 40), some (Iv s), some (Iv h), some (Iv 0), some (Iv (κ 53 ((x).toNat)))]) 31 dX10_isOpen_29 rfl (by decide) rfl ?_
      refine g_goto 5 dX10_isOpen_31 (by decide) ?_
      exact ex0 _ (by omega) (fun z => hl ((open_step (by omega)).mp (ho.mpr z)).1)
  refine g_iconst 1 dX10_isOpen_0 (by decide) rfl ?_
  refine g_istore_n (L' := [some (Rf 40), some (Iv s), some (Iv h), some (Iv 1), none]) 2 dX10_isOpen_1 rfl (by decide) rfl ?_
  refine g_iload_n 3 dX10_isOpen_2 rfl rfl ?_
  refine g_istore (L' := [some (Rf 40), some (Iv s), some (Iv h), some (Iv 1), some (Iv s)]) 5 dX10_isOpen_3 rfl (by decide) rfl ?_
  exact lp (s + 1).toNat s (by omega) (by omega) Iff.rfl
set_option maxHeartbeats 4000000 in
set_option maxRecDepth 20000 in
theorem c_X10_isOnWay {B : Bs} {n0 : Nat} {V : Vs} {κ : Ks} {p s : Int} (r_p : inR p) (h_s : -1 ≤ s ∧ s < κ 40 11) (hI : MI κ) : Ct (XR B n0) mX10_isOnWay 1 0 0 [Rf 40, Iv p, Iv s] V κ (Or2 V κ (OnW κ p s) (Iv 1) (¬ OnW κ p s) (Iv 0)) := by
  obtain ⟨⟨i0, i1, i2, i3, i4, i5, i6, i7, i8, i9⟩, iS, iH, iR, iT, iC, iG, iL, iZ⟩ := id hI
  refine Ct.of (L := [some (Rf 40), some (Iv p), some (Iv s), none]) 1 (by decide +kernel) rfl rfl ?_
  have lp : ∀ (m : Nat) (x : Int), -1 ≤ x ∧ x < κ 40 11 → (m : Int) = x + 1 → (OnW κ p x ↔ OnW κ p s) → G (XR B n0) mX10_isOnWay 1 (Or2 V κ (OnW κ p s) (Iv 1) (¬ OnW κ p s) (Iv 0)) V 0 0 2 [some (Rf 40), some (Iv p), some (Iv s), some (Iv x)] [] V κ := by
    intro m
    induction m using Nat.strongRecOn with
    | ind m ih =>
      intro x hx hm ho
      refine g_iload_n 3 dX10_isOnWay_2 rfl rfl ?_
      refine g_if_lt 23 6 dX10_isOnWay_3 (by first | assumption | omega) (by decide) rfl (fun h101 => ?_) (fun h101 => ?_)
      · refine g_iload_n 24 dX10_isOnWay_23 rfl rfl ?_
        refine g_iconst 25 dX10_isOnWay_24 (by decide) rfl ?_
        refine g_icmp_ne 32 28 dX10_isOnWay_25 (by first | assumption | omega) (by decide) (by decide) rfl (fun h102 => ?_) (fun h102 => ?_)
        · refine g_iconst 33 dX10_isOnWay_32 (by decide) rfl ?_
          refine g_zret dX10_isOnWay_33 rfl (by omega) ?_
          exact ⟨rfl, rfl, Or.inr ⟨fun z => absurd ((onw_neg (by omega)).mp (ho.mpr z)) (by omega), rfl⟩⟩
        refine g_iconst 29 dX10_isOnWay_28 (by decide) rfl ?_
        refine g_goto 33 dX10_isOnWay_29 (by decide) ?_
        refine g_zret dX10_isOnWay_33 rfl (by omega) ?_
        first | exact ⟨rfl, rfl, Or.inl ⟨ho.mp ((onw_step (by omega)).mpr (Or.inl (by omega))), rfl⟩⟩ | exact ⟨rfl, rfl, Or.inl ⟨Or.inl (by omega), rfl⟩⟩
      refine g_iload_n 7 dX10_isOnWay_6 rfl rfl ?_
      refine g_iload_n 8 dX10_isOnWay_7 rfl rfl ?_
      refine g_icmp_ne 13 11 dX10_isOnWay_8 (by first | assumption | omega) (by first | assumption | omega) (by decide) rfl (fun h103 => ?_) (fun h103 => ?_)
      · refine g_aload_n 14 dX10_isOnWay_13 rfl rfl ?_
        refine g_getC 17 dX10_isOnWay_14 fgX10_19 kd_40 ly_40_12 rfl ?_
        refine g_iload_n 18 dX10_isOnWay_17 rfl rfl ?_
        have ix := (iS x.toNat (by omega)).1
        refine r_iald 19 ((x).toNat) (κ 53 ((x).toNat)) dX10_isOnWay_18 kd_53 (by decide) (by omega) (rfl) rfl (rfl) (fun r104 => ?_)
        refine g_istore_n (L' := [some (Rf 40), some (Iv p), some (Iv s), some (Iv (κ 53 ((x).toNat)))]) 20 dX10_isOnWay_19 rfl (by decide) rfl ?_
        refine g_goto 2 dX10_isOnWay_20 (by decide) ?_
        exact ih (κ 53 x.toNat + 1).toNat (by omega) _ (by omega) (by omega) ⟨fun z => ho.mp ((onw_step (by omega)).mpr (Or.inr z)), fun z => ((onw_step (by omega)).mp (ho.mpr z)).elim (fun q => by omega) id⟩
      refine g_iconst 12 dX10_isOnWay_11 (by decide) rfl ?_
      refine g_zret dX10_isOnWay_12 rfl (by omega) ?_
      first | exact ⟨rfl, rfl, Or.inl ⟨ho.mp ((onw_step (by omega)).mpr (Or.inl (by omega))), rfl⟩⟩ | exact ⟨rfl, rfl, Or.inl ⟨Or.inl (by omega), rfl⟩⟩
  refine g_iload_n 1 dX10_isOnWay_0 rfl rfl ?_
  refine g_istore_n (L' := [some (Rf 40), some (Iv p), some (Iv s), some (Iv s)]) 2 dX10_isOnWay_1 rfl (by decide) rfl ?_
  exact lp (s + 1).toNat s (by omega) (by omega) Iff.rfl
set_option maxHeartbeats 4000000 in
set_option maxRecDepth 20000 in
theorem c_X10_wayOf {B : Bs} {n0 : Nat} {V : Vs} {κ : Ks} {a b : Int} (h_a : -1 ≤ a ∧ a < κ 40 11) (h_b : -1 ≤ b ∧ b < κ 40 11) (hI : MI κ) : Ct (XR B n0) mX10_wayOf 2 0 0 [Rf 40, Iv a, Iv b] V κ (Ex (some (Iv (wayM κ a b))) V κ) := by
  obtain ⟨⟨i0, i1, i2, i3, i4, i5, i6, i7, i8, i9⟩, iS, iH, iR, iT, iC, iG, iL, iZ⟩ := id hI
  refine Ct.of (L := [some (Rf 40), some (Iv a), some (Iv b), none, none, none]) 3 (by decide +kernel) rfl rfl ?_
  have lp2 : ∀ (m : Nat) (n t x : Int), -1 ≤ x ∧ x < κ 40 11 → -1 ≤ t ∧ t < κ 40 11 → (m : Int) = x + 1 → 0 ≤ n ∧ n ≤ 20 → n + wayM κ t x = wayM κ a b → OnW κ t x → G (XR B n0) mX10_wayOf 2 (Ex (some (Iv (wayM κ a b))) V κ) V 0 0 33 [some (Rf 40), some (Iv a), some (Iv b), some (Iv n), some (Iv t), some (Iv x)] [] V κ := by
    intro m
    induction m using Nat.strongRecOn with
    | ind m ih =>
      intro n t x hx ht hm hn hw ho
      refine g_iload 35 dX10_wayOf_33 rfl rfl ?_
      refine g_iload 37 dX10_wayOf_35 rfl rfl ?_
      refine g_icmp_eq 55 40 dX10_wayOf_37 (by first | assumption | omega) (by first | assumption | omega) (by decide) rfl (fun h101 => ?_) (fun h101 => ?_)
      · refine g_iload_n 56 dX10_wayOf_55 rfl rfl ?_
        refine g_iret dX10_wayOf_56 rfl ?_
        have e : x = t := by omega
        subst e
        rw [way_eq] at hw
        exact ⟨congrArg (fun z => some (Iv z)) (by omega), rfl, rfl⟩
      obtain ⟨q1, q2, q3⟩ := way_on iS i5.2 hx.1 hx.2 ht.1 (by omega) ho
      have ix := (iS x.toNat (by omega)).1
      have wr := way_R (κ := κ) a b
      have wr2 := way_R (κ := κ) t (κ 53 x.toNat)
      refine g_iinc (L' := [some (Rf 40), some (Iv a), some (Iv b), some (Iv (n + 1)), some (Iv t), some (Iv x)]) 43 dX10_wayOf_40 rfl rfl (by decide) rfl ?_
      refine g_aload_n 44 dX10_wayOf_43 rfl rfl ?_
      refine g_getC 47 dX10_wayOf_44 fgX10_19 kd_40 ly_40_12 rfl ?_
      refine g_iload 49 dX10_wayOf_47 rfl rfl ?_
      refine r_iald 50 ((x).toNat) (κ 53 ((x).toNat)) dX10_wayOf_49 kd_53 (by decide) (by omega) (rfl) rfl (rfl) (fun r102 => ?_)
      refine g_istore (L' := [some (Rf 40), some (Iv a), some (Iv b), some (Iv (n + 1)), some (Iv t), some (Iv (κ 53 ((x).toNat)))]) 52 dX10_wayOf_50 rfl (by decide) rfl ?_
      refine g_goto 33 dX10_wayOf_52 (by decide) ?_
      exact ih (κ 53 x.toNat + 1).toNat (by omega) _ _ _ (by omega) ht (by omega) (by omega) (by omega) q2
  have lp1 : ∀ (m : Nat) (n t : Int), -1 ≤ t ∧ t < κ 40 11 → (m : Int) = t + 1 → 0 ≤ n ∧ n ≤ 20 → n + wayM κ t b = wayM κ a b → G (XR B n0) mX10_wayOf 2 (Ex (some (Iv (wayM κ a b))) V κ) V 0 0 5 [some (Rf 40), some (Iv a), some (Iv b), some (Iv n), some (Iv t), none] [] V κ := by
    intro m
    induction m using Nat.strongRecOn with
    | ind m ih =>
      intro n t ht hm hn hw
      refine g_aload_n 6 dX10_wayOf_5 rfl rfl ?_
      refine g_iload 8 dX10_wayOf_6 rfl rfl ?_
      refine g_iload_n 9 dX10_wayOf_8 rfl rfl ?_
      refine o_V 12 0 0 [Iv t, Iv b] [] dX10_wayOf_9 cvX10_174 mwX10_isOnWay kd_40 (by decide) rfl (by decide) rfl rfl rfl (c_X10_isOnWay (by omega) (by omega) hI) (fun h101 => ?_) (fun h101 => ?_)
      · have ho := h101
        refine g_if_ne 30 15 dX10_wayOf_12 (by decide) (by decide) rfl (fun _ => ?_) (fun z => absurd z (by decide))
        refine g_iload_n 31 dX10_wayOf_30 rfl rfl ?_
        refine g_istore (L' := [some (Rf 40), some (Iv a), some (Iv b), some (Iv n), some (Iv t), some (Iv b)]) 33 dX10_wayOf_31 rfl (by decide) rfl ?_
        exact lp2 (b + 1).toNat n t b h_b ht (by omega) hn hw ho
      have ho := h101
      refine g_if_ne 30 15 dX10_wayOf_12 (by decide) (by decide) rfl (fun z => absurd z (by decide)) (fun _ => ?_)
      have t0 : t ≠ -1 := fun e => ho (Or.inl e)
      have q1 := way_off iS i5.2 (b + 1).toNat t b (by omega) ht.1 ht.2 h_b.1 h_b.2 ho
      have ix := (iS t.toNat (by omega)).1
      have wr := way_R (κ := κ) a b
      have wr2 := way_R (κ := κ) (κ 53 t.toNat) b
      refine g_aload_n 16 dX10_wayOf_15 rfl rfl ?_
      refine g_getC 19 dX10_wayOf_16 fgX10_19 kd_40 ly_40_12 rfl ?_
      refine g_iload 21 dX10_wayOf_19 rfl rfl ?_
      refine r_iald 22 ((t).toNat) (κ 53 ((t).toNat)) dX10_wayOf_21 kd_53 (by decide) (by omega) (rfl) rfl (rfl) (fun r102 => ?_)
      refine g_istore (L' := [some (Rf 40), some (Iv a), some (Iv b), some (Iv n), some (Iv (κ 53 ((t).toNat))), none]) 24 dX10_wayOf_22 rfl (by decide) rfl ?_
      refine g_iinc (L' := [some (Rf 40), some (Iv a), some (Iv b), some (Iv (n + 1)), some (Iv (κ 53 ((t).toNat))), none]) 27 dX10_wayOf_24 rfl rfl (by decide) rfl ?_
      refine g_goto 5 dX10_wayOf_27 (by decide) ?_
      exact ih (κ 53 t.toNat + 1).toNat (by omega) _ _ (by omega) (by omega) (by omega) (by omega)
  refine g_iconst 1 dX10_wayOf_0 (by decide) rfl ?_
  refine g_istore_n (L' := [some (Rf 40), some (Iv a), some (Iv b), some (Iv 0), none, none]) 2 dX10_wayOf_1 rfl (by decide) rfl ?_
  refine g_iload_n 3 dX10_wayOf_2 rfl rfl ?_
  refine g_istore (L' := [some (Rf 40), some (Iv a), some (Iv b), some (Iv 0), some (Iv a), none]) 5 dX10_wayOf_3 rfl (by decide) rfl ?_
  exact lp1 (a + 1).toNat 0 a h_a (by omega) (by omega) (by omega)
