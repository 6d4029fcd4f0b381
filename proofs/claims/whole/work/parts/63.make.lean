/-! constructors (printed by wip/whole/gen63.py) -/
def lyI (t j : Nat) : Nat := if t = 6 then 1 else lyC t j
abbrev XI (B : Bs) (n0 : Nat) : Cx := (B.1, B.2.1, B.2.2.1, B.2.2.2.1, B.2.2.2.2, kdR n0, lyI)
theorem gD1 (l : List Nat) (h : l.all (fun x => x ≤ 1) = true) (j : Nat) : l.getD j 0 ≤ 1 := by
  rw [List.getD_eq_getElem?_getD]
  cases e : l[j]? with
  | none => exact Nat.zero_le 1
  | some x => exact of_decide_eq_true (List.all_eq_true.mp h x (List.mem_of_getElem? e))
section KI
variable {B : Bs} {n0 : Nat}
theorem ki_1 : kd (XI B n0) 1 = (10, 15) := rfl
theorem ki_2 : kd (XI B n0) 2 = (0, 3) := rfl
theorem ki_3 : kd (XI B n0) 3 = (0, 3) := rfl
theorem ki_4 : kd (XI B n0) 4 = (0, 3) := rfl
theorem ki_5 : kd (XI B n0) 5 = (0, 3) := rfl
theorem ki_6 : kd (XI B n0) 6 = (23, 4) := rfl
theorem ki_7 : kd (XI B n0) 7 = (20, 3) := rfl
theorem li_7 (j : Nat) : (XI B n0).2.2.2.2.2.2 7 j = 0 := rfl
theorem ki_8 : kd (XI B n0) 8 = (20, 3) := rfl
theorem li_8 (j : Nat) : (XI B n0).2.2.2.2.2.2 8 j = 0 := rfl
theorem ki_9 : kd (XI B n0) 9 = (20, 8) := rfl
theorem li_9 (j : Nat) : (XI B n0).2.2.2.2.2.2 9 j = 0 := rfl
theorem ki_10 : kd (XI B n0) 10 = (9, 2) := rfl
theorem ki_11 : kd (XI B n0) 11 = (20, 168) := rfl
theorem li_11 (j : Nat) : (XI B n0).2.2.2.2.2.2 11 j = 0 := rfl
theorem ki_12 : kd (XI B n0) 12 = (20, 168) := rfl
theorem li_12 (j : Nat) : (XI B n0).2.2.2.2.2.2 12 j = 0 := rfl
theorem ki_13 : kd (XI B n0) 13 = (7, 6) := rfl
theorem ki_14 : kd (XI B n0) 14 = (3, 2) := rfl
theorem ki_15 : kd (XI B n0) 15 = (20, 1024) := rfl
theorem li_15 (j : Nat) : (XI B n0).2.2.2.2.2.2 15 j = 0 := rfl
theorem ki_16 : kd (XI B n0) 16 = (20, 1024) := rfl
theorem li_16 (j : Nat) : (XI B n0).2.2.2.2.2.2 16 j = 0 := rfl
theorem ki_17 : kd (XI B n0) 17 = (1, 8) := rfl
theorem ki_18 : kd (XI B n0) 18 = (20, 6) := rfl
theorem li_18 (j : Nat) : (XI B n0).2.2.2.2.2.2 18 j = 0 := rfl
theorem ki_19 : kd (XI B n0) 19 = (20, 6) := rfl
theorem li_19 (j : Nat) : (XI B n0).2.2.2.2.2.2 19 j = 0 := rfl
theorem ki_20 : kd (XI B n0) 20 = (20, 6) := rfl
theorem li_20 (j : Nat) : (XI B n0).2.2.2.2.2.2 20 j = 0 := rfl
theorem ki_21 : kd (XI B n0) 21 = (20, 7) := rfl
theorem li_21 (j : Nat) : (XI B n0).2.2.2.2.2.2 21 j = 0 := rfl
theorem ki_22 : kd (XI B n0) 22 = (5, 2) := rfl
theorem ki_23 : kd (XI B n0) 23 = (20, 24) := rfl
theorem li_23 (j : Nat) : (XI B n0).2.2.2.2.2.2 23 j = 0 := rfl
theorem ki_24 : kd (XI B n0) 24 = (5, 2) := rfl
theorem ki_25 : kd (XI B n0) 25 = (20, 24) := rfl
theorem li_25 (j : Nat) : (XI B n0).2.2.2.2.2.2 25 j = 0 := rfl
theorem ki_26 : kd (XI B n0) 26 = (5, 2) := rfl
theorem ki_27 : kd (XI B n0) 27 = (20, 24) := rfl
theorem li_27 (j : Nat) : (XI B n0).2.2.2.2.2.2 27 j = 0 := rfl
theorem ki_28 : kd (XI B n0) 28 = (5, 2) := rfl
theorem ki_29 : kd (XI B n0) 29 = (20, 24) := rfl
theorem li_29 (j : Nat) : (XI B n0).2.2.2.2.2.2 29 j = 0 := rfl
theorem ki_30 : kd (XI B n0) 30 = (30, 3) := rfl
theorem ki_31 : kd (XI B n0) 31 = (30, 3) := rfl
theorem ki_32 : kd (XI B n0) 32 = (31, 0) := rfl
theorem ki_33 : kd (XI B n0) 33 = (30, n0) := rfl
theorem ki_34 : kd (XI B n0) 34 = (32, 0) := rfl
theorem ki_40 : kd (XI B n0) 40 = (11, 58) := rfl
theorem ki_53 : kd (XI B n0) 53 = (20, 10) := rfl
theorem li_53 (j : Nat) : (XI B n0).2.2.2.2.2.2 53 j = 0 := rfl
theorem ki_54 : kd (XI B n0) 54 = (20, 10) := rfl
theorem li_54 (j : Nat) : (XI B n0).2.2.2.2.2.2 54 j = 0 := rfl
theorem ki_55 : kd (XI B n0) 55 = (20, 10) := rfl
theorem li_55 (j : Nat) : (XI B n0).2.2.2.2.2.2 55 j = 0 := rfl
theorem ki_56 : kd (XI B n0) 56 = (21, 10) := rfl
theorem li_56 (j : Nat) : (XI B n0).2.2.2.2.2.2 56 j = 0 := rfl
theorem ki_57 : kd (XI B n0) 57 = (20, 10) := rfl
theorem li_57 (j : Nat) : (XI B n0).2.2.2.2.2.2 57 j = 0 := rfl
theorem ki_58 : kd (XI B n0) 58 = (20, 10) := rfl
theorem li_58 (j : Nat) : (XI B n0).2.2.2.2.2.2 58 j = 0 := rfl
theorem ki_59 : kd (XI B n0) 59 = (20, 10) := rfl
theorem li_59 (j : Nat) : (XI B n0).2.2.2.2.2.2 59 j = 0 := rfl
theorem ki_60 : kd (XI B n0) 60 = (21, 10) := rfl
theorem li_60 (j : Nat) : (XI B n0).2.2.2.2.2.2 60 j = 0 := rfl
theorem ki_62 : kd (XI B n0) 62 = (20, 24) := rfl
theorem li_62 (j : Nat) : (XI B n0).2.2.2.2.2.2 62 j = 0 := rfl
theorem ki_63 : kd (XI B n0) 63 = (20, 24) := rfl
theorem li_63 (j : Nat) : (XI B n0).2.2.2.2.2.2 63 j = 0 := rfl
theorem ki_64 : kd (XI B n0) 64 = (20, 24) := rfl
theorem li_64 (j : Nat) : (XI B n0).2.2.2.2.2.2 64 j = 0 := rfl
theorem ki_65 : kd (XI B n0) 65 = (20, 24) := rfl
theorem li_65 (j : Nat) : (XI B n0).2.2.2.2.2.2 65 j = 0 := rfl
theorem ki_66 : kd (XI B n0) 66 = (21, 24) := rfl
theorem li_66 (j : Nat) : (XI B n0).2.2.2.2.2.2 66 j = 0 := rfl
theorem ki_67 : kd (XI B n0) 67 = (20, 24) := rfl
theorem li_67 (j : Nat) : (XI B n0).2.2.2.2.2.2 67 j = 0 := rfl
theorem ki_68 : kd (XI B n0) 68 = (20, 24) := rfl
theorem li_68 (j : Nat) : (XI B n0).2.2.2.2.2.2 68 j = 0 := rfl
theorem ki_69 : kd (XI B n0) 69 = (20, 24) := rfl
theorem li_69 (j : Nat) : (XI B n0).2.2.2.2.2.2 69 j = 0 := rfl
theorem ki_70 : kd (XI B n0) 70 = (20, 4) := rfl
theorem li_70 (j : Nat) : (XI B n0).2.2.2.2.2.2 70 j = 0 := rfl
theorem ki_71 : kd (XI B n0) 71 = (20, 96) := rfl
theorem li_71 (j : Nat) : (XI B n0).2.2.2.2.2.2 71 j = 0 := rfl
theorem ki_73 : kd (XI B n0) 73 = (20, 30) := rfl
theorem li_73 (j : Nat) : (XI B n0).2.2.2.2.2.2 73 j = 0 := rfl
theorem ki_74 : kd (XI B n0) 74 = (20, 30) := rfl
theorem li_74 (j : Nat) : (XI B n0).2.2.2.2.2.2 74 j = 0 := rfl
theorem ki_75 : kd (XI B n0) 75 = (20, 30) := rfl
theorem li_75 (j : Nat) : (XI B n0).2.2.2.2.2.2 75 j = 0 := rfl
theorem ki_76 : kd (XI B n0) 76 = (20, 30) := rfl
theorem li_76 (j : Nat) : (XI B n0).2.2.2.2.2.2 76 j = 0 := rfl
theorem ki_77 : kd (XI B n0) 77 = (20, 3) := rfl
theorem li_77 (j : Nat) : (XI B n0).2.2.2.2.2.2 77 j = 0 := rfl
theorem ki_79 : kd (XI B n0) 79 = (20, 40) := rfl
theorem li_79 (j : Nat) : (XI B n0).2.2.2.2.2.2 79 j = 0 := rfl
theorem ki_80 : kd (XI B n0) 80 = (20, 40) := rfl
theorem li_80 (j : Nat) : (XI B n0).2.2.2.2.2.2 80 j = 0 := rfl
theorem ki_81 : kd (XI B n0) 81 = (20, 40) := rfl
theorem li_81 (j : Nat) : (XI B n0).2.2.2.2.2.2 81 j = 0 := rfl
theorem ki_83 : kd (XI B n0) 83 = (20, 20) := rfl
theorem li_83 (j : Nat) : (XI B n0).2.2.2.2.2.2 83 j = 0 := rfl
theorem ki_84 : kd (XI B n0) 84 = (20, 20) := rfl
theorem li_84 (j : Nat) : (XI B n0).2.2.2.2.2.2 84 j = 0 := rfl
theorem ki_85 : kd (XI B n0) 85 = (20, 20) := rfl
theorem li_85 (j : Nat) : (XI B n0).2.2.2.2.2.2 85 j = 0 := rfl
theorem ki_86 : kd (XI B n0) 86 = (20, 20) := rfl
theorem li_86 (j : Nat) : (XI B n0).2.2.2.2.2.2 86 j = 0 := rfl
theorem ki_87 : kd (XI B n0) 87 = (20, 8) := rfl
theorem li_87 (j : Nat) : (XI B n0).2.2.2.2.2.2 87 j = 0 := rfl
theorem ki_88 : kd (XI B n0) 88 = (20, 24) := rfl
theorem li_88 (j : Nat) : (XI B n0).2.2.2.2.2.2 88 j = 0 := rfl
theorem ki_90 : kd (XI B n0) 90 = (20, 10) := rfl
theorem li_90 (j : Nat) : (XI B n0).2.2.2.2.2.2 90 j = 0 := rfl
theorem ki_93 : kd (XI B n0) 93 = (20, 6) := rfl
theorem li_93 (j : Nat) : (XI B n0).2.2.2.2.2.2 93 j = 0 := rfl
theorem ki_94 : kd (XI B n0) 94 = (20, 6) := rfl
theorem li_94 (j : Nat) : (XI B n0).2.2.2.2.2.2 94 j = 0 := rfl
theorem ki_96 : kd (XI B n0) 96 = (20, 6) := rfl
theorem li_96 (j : Nat) : (XI B n0).2.2.2.2.2.2 96 j = 0 := rfl
theorem ki_97 : kd (XI B n0) 97 = (20, 6) := rfl
theorem li_97 (j : Nat) : (XI B n0).2.2.2.2.2.2 97 j = 0 := rfl
theorem ki_98 : kd (XI B n0) 98 = (20, 7) := rfl
theorem li_98 (j : Nat) : (XI B n0).2.2.2.2.2.2 98 j = 0 := rfl
end KI
set_option maxHeartbeats 4000000 in
set_option maxRecDepth 20000 in
theorem c_ac_0 {B : Bs} {n0 : Nat} {V : Vs} {κ : Ks}   : Ct (XI B n0) mJxa1e45_init_da8c8 2 0 0 [Rf 2] V κ (Ex none V κ) := by
  refine Ct.of (L := [some (Rf 2)]) 0 (by decide +kernel) rfl rfl ?_
  refine g_aload_n 1 dJxa1e45_init_da8c8_0 rfl rfl ?_
  refine g_objInit 4 dJxa1e45_init_da8c8_1 oiJxa1e45_1 oiI oiC (by decide) (Nat.le_of_ble_eq_true rfl) rfl ?_
  refine g_vret dJxa1e45_init_da8c8_4 rfl ?_
  exact ⟨rfl, rfl, rfl⟩
set_option maxHeartbeats 4000000 in
set_option maxRecDepth 20000 in
theorem c_al_0 {B : Bs} {n0 : Nat} {V : Vs} {κ : Ks}   : Ct (XI B n0) mJxc12de_init_da8c8 3 0 0 [Rf 2] V κ (Ex none V (st2 κ 2 0 0)) := by
  refine Ct.of (L := [some (Rf 2)]) 0 (by decide +kernel) rfl rfl ?_
  refine g_aload_n 1 dJxc12de_init_da8c8_0 rfl rfl ?_
  refine v_I 4 0 0 [] [] dJxc12de_init_da8c8_1 ciJxc12de_1 mwJxa1e45_init_da8c8 (by decide) rfl (Nat.le_of_ble_eq_true rfl) rfl rfl rfl (c_ac_0) ?_
  refine g_aload_n 5 dJxc12de_init_da8c8_4 rfl rfl ?_
  refine g_iconst 6 dJxc12de_init_da8c8_5 (by decide) rfl ?_
  refine g_putI 9 dJxc12de_init_da8c8_6 fpJxc12de_7 (fun h => (nomatch h)) ki_2 rfl (by omega) rfl ?_
  refine g_vret dJxc12de_init_da8c8_9 rfl ?_
  exact ⟨rfl, rfl, rfl⟩
set_option maxHeartbeats 4000000 in
set_option maxRecDepth 20000 in
theorem c_ai_0 {B : Bs} {n0 : Nat} {V : Vs} {κ : Ks}  (hV32 : V 32 = true) : Ct (XI B n0) mJx4a65c_init_da8c8 4 0 0 [Rf 2] V κ (Ex none V (st2 (st2 κ 2 0 0) 2 1 (cd (some (32))))) := by
  refine Ct.of (L := [some (Rf 2)]) 0 (by decide +kernel) rfl rfl ?_
  refine g_aload_n 1 dJx4a65c_init_da8c8_0 rfl rfl ?_
  refine v_I 4 0 0 [] [] dJx4a65c_init_da8c8_1 ciJx4a65c_1 mwJxc12de_init_da8c8 (by decide) rfl (Nat.le_of_ble_eq_true rfl) rfl rfl rfl (c_al_0) ?_
  refine g_aload_n 5 dJx4a65c_init_da8c8_4 rfl rfl ?_
  refine g_gets 8 (t := 32) dJx4a65c_init_da8c8_5 (fun s h => h.2.2.2.2.2) rfl gsJx4a65c_39 (by first | assumption | rfl) (by rw [ki_32]; decide) rfl ?_
  refine g_putR 11 dJx4a65c_init_da8c8_8 fpJx4a65c_9 (Or.inr ⟨_, rfl⟩) (fun h => (nomatch h)) ki_2 rfl (fun q hq => by cases hq; omega) rfl ?_
  refine g_vret dJx4a65c_init_da8c8_11 rfl ?_
  exact ⟨rfl, rfl, rfl⟩
set_option maxHeartbeats 4000000 in
set_option maxRecDepth 20000 in
theorem c_ac_1 {B : Bs} {n0 : Nat} {V : Vs} {κ : Ks}   : Ct (XI B n0) mJxa1e45_init_da8c8 2 0 0 [Rf 3] V κ (Ex none V κ) := by
  refine Ct.of (L := [some (Rf 3)]) 0 (by decide +kernel) rfl rfl ?_
  refine g_aload_n 1 dJxa1e45_init_da8c8_0 rfl rfl ?_
  refine g_objInit 4 dJxa1e45_init_da8c8_1 oiJxa1e45_1 oiI oiC (by decide) (Nat.le_of_ble_eq_true rfl) rfl ?_
  refine g_vret dJxa1e45_init_da8c8_4 rfl ?_
  exact ⟨rfl, rfl, rfl⟩
set_option maxHeartbeats 4000000 in
set_option maxRecDepth 20000 in
theorem c_al_1 {B : Bs} {n0 : Nat} {V : Vs} {κ : Ks}   : Ct (XI B n0) mJxc12de_init_da8c8 3 0 0 [Rf 3] V κ (Ex none V (st2 κ 3 0 0)) := by
  refine Ct.of (L := [some (Rf 3)]) 0 (by decide +kernel) rfl rfl ?_
  refine g_aload_n 1 dJxc12de_init_da8c8_0 rfl rfl ?_
  refine v_I 4 0 0 [] [] dJxc12de_init_da8c8_1 ciJxc12de_1 mwJxa1e45_init_da8c8 (by decide) rfl (Nat.le_of_ble_eq_true rfl) rfl rfl rfl (c_ac_1) ?_
  refine g_aload_n 5 dJxc12de_init_da8c8_4 rfl rfl ?_
  refine g_iconst 6 dJxc12de_init_da8c8_5 (by decide) rfl ?_
  refine g_putI 9 dJxc12de_init_da8c8_6 fpJxc12de_7 (fun h => (nomatch h)) ki_3 rfl (by omega) rfl ?_
  refine g_vret dJxc12de_init_da8c8_9 rfl ?_
  exact ⟨rfl, rfl, rfl⟩
set_option maxHeartbeats 4000000 in
set_option maxRecDepth 20000 in
theorem c_ai_1 {B : Bs} {n0 : Nat} {V : Vs} {κ : Ks}  (hV32 : V 32 = true) : Ct (XI B n0) mJx4a65c_init_da8c8 4 0 0 [Rf 3] V κ (Ex none V (st2 (st2 κ 3 0 0) 3 1 (cd (some (32))))) := by
  refine Ct.of (L := [some (Rf 3)]) 0 (by decide +kernel) rfl rfl ?_
  refine g_aload_n 1 dJx4a65c_init_da8c8_0 rfl rfl ?_
  refine v_I 4 0 0 [] [] dJx4a65c_init_da8c8_1 ciJx4a65c_1 mwJxc12de_init_da8c8 (by decide) rfl (Nat.le_of_ble_eq_true rfl) rfl rfl rfl (c_al_1) ?_
  refine g_aload_n 5 dJx4a65c_init_da8c8_4 rfl rfl ?_
  refine g_gets 8 (t := 32) dJx4a65c_init_da8c8_5 (fun s h => h.2.2.2.2.2) rfl gsJx4a65c_39 (by first | assumption | rfl) (by rw [ki_32]; decide) rfl ?_
  refine g_putR 11 dJx4a65c_init_da8c8_8 fpJx4a65c_9 (Or.inr ⟨_, rfl⟩) (fun h => (nomatch h)) ki_3 rfl (fun q hq => by cases hq; omega) rfl ?_
  refine g_vret dJx4a65c_init_da8c8_11 rfl ?_
  exact ⟨rfl, rfl, rfl⟩
set_option maxHeartbeats 4000000 in
set_option maxRecDepth 20000 in
theorem c_ac_2 {B : Bs} {n0 : Nat} {V : Vs} {κ : Ks}   : Ct (XI B n0) mJxa1e45_init_da8c8 2 0 0 [Rf 4] V κ (Ex none V κ) := by
  refine Ct.of (L := [some (Rf 4)]) 0 (by decide +kernel) rfl rfl ?_
  refine g_aload_n 1 dJxa1e45_init_da8c8_0 rfl rfl ?_
  refine g_objInit 4 dJxa1e45_init_da8c8_1 oiJxa1e45_1 oiI oiC (by decide) (Nat.le_of_ble_eq_true rfl) rfl ?_
  refine g_vret dJxa1e45_init_da8c8_4 rfl ?_
  exact ⟨rfl, rfl, rfl⟩
set_option maxHeartbeats 4000000 in
set_option maxRecDepth 20000 in
theorem c_al_2 {B : Bs} {n0 : Nat} {V : Vs} {κ : Ks}   : Ct (XI B n0) mJxc12de_init_da8c8 3 0 0 [Rf 4] V κ (Ex none V (st2 κ 4 0 0)) := by
  refine Ct.of (L := [some (Rf 4)]) 0 (by decide +kernel) rfl rfl ?_
  refine g_aload_n 1 dJxc12de_init_da8c8_0 rfl rfl ?_
  refine v_I 4 0 0 [] [] dJxc12de_init_da8c8_1 ciJxc12de_1 mwJxa1e45_init_da8c8 (by decide) rfl (Nat.le_of_ble_eq_true rfl) rfl rfl rfl (c_ac_2) ?_
  refine g_aload_n 5 dJxc12de_init_da8c8_4 rfl rfl ?_
  refine g_iconst 6 dJxc12de_init_da8c8_5 (by decide) rfl ?_
  refine g_putI 9 dJxc12de_init_da8c8_6 fpJxc12de_7 (fun h => (nomatch h)) ki_4 rfl (by omega) rfl ?_
  refine g_vret dJxc12de_init_da8c8_9 rfl ?_
  exact ⟨rfl, rfl, rfl⟩
set_option maxHeartbeats 4000000 in
set_option maxRecDepth 20000 in
theorem c_ai_2 {B : Bs} {n0 : Nat} {V : Vs} {κ : Ks}  (hV32 : V 32 = true) : Ct (XI B n0) mJx4a65c_init_da8c8 4 0 0 [Rf 4] V κ (Ex none V (st2 (st2 κ 4 0 0) 4 1 (cd (some (32))))) := by
  refine Ct.of (L := [some (Rf 4)]) 0 (by decide +kernel) rfl rfl ?_
  refine g_aload_n 1 dJx4a65c_init_da8c8_0 rfl rfl ?_
  refine v_I 4 0 0 [] [] dJx4a65c_init_da8c8_1 ciJx4a65c_1 mwJxc12de_init_da8c8 (by decide) rfl (Nat.le_of_ble_eq_true rfl) rfl rfl rfl (c_al_2) ?_
  refine g_aload_n 5 dJx4a65c_init_da8c8_4 rfl rfl ?_
  refine g_gets 8 (t := 32) dJx4a65c_init_da8c8_5 (fun s h => h.2.2.2.2.2) rfl gsJx4a65c_39 (by first | assumption | rfl) (by rw [ki_32]; decide) rfl ?_
  refine g_putR 11 dJx4a65c_init_da8c8_8 fpJx4a65c_9 (Or.inr ⟨_, rfl⟩) (fun h => (nomatch h)) ki_4 rfl (fun q hq => by cases hq; omega) rfl ?_
  refine g_vret dJx4a65c_init_da8c8_11 rfl ?_
  exact ⟨rfl, rfl, rfl⟩
set_option maxHeartbeats 4000000 in
set_option maxRecDepth 20000 in
theorem c_ac_3 {B : Bs} {n0 : Nat} {V : Vs} {κ : Ks}   : Ct (XI B n0) mJxa1e45_init_da8c8 2 0 0 [Rf 5] V κ (Ex none V κ) := by
  refine Ct.of (L := [some (Rf 5)]) 0 (by decide +kernel) rfl rfl ?_
  refine g_aload_n 1 dJxa1e45_init_da8c8_0 rfl rfl ?_
  refine g_objInit 4 dJxa1e45_init_da8c8_1 oiJxa1e45_1 oiI oiC (by decide) (Nat.le_of_ble_eq_true rfl) rfl ?_
  refine g_vret dJxa1e45_init_da8c8_4 rfl ?_
  exact ⟨rfl, rfl, rfl⟩
set_option maxHeartbeats 4000000 in
set_option maxRecDepth 20000 in
theorem c_al_3 {B : Bs} {n0 : Nat} {V : Vs} {κ : Ks}   : Ct (XI B n0) mJxc12de_init_da8c8 3 0 0 [Rf 5] V κ (Ex none V (st2 κ 5 0 0)) := by
  refine Ct.of (L := [some (Rf 5)]) 0 (by decide +kernel) rfl rfl ?_
  refine g_aload_n 1 dJxc12de_init_da8c8_0 rfl rfl ?_
  refine v_I 4 0 0 [] [] dJxc12de_init_da8c8_1 ciJxc12de_1 mwJxa1e45_init_da8c8 (by decide) rfl (Nat.le_of_ble_eq_true rfl) rfl rfl rfl (c_ac_3) ?_
  refine g_aload_n 5 dJxc12de_init_da8c8_4 rfl rfl ?_
  refine g_iconst 6 dJxc12de_init_da8c8_5 (by decide) rfl ?_
  refine g_putI 9 dJxc12de_init_da8c8_6 fpJxc12de_7 (fun h => (nomatch h)) ki_5 rfl (by omega) rfl ?_
  refine g_vret dJxc12de_init_da8c8_9 rfl ?_
  exact ⟨rfl, rfl, rfl⟩
set_option maxHeartbeats 4000000 in
set_option maxRecDepth 20000 in
theorem c_ai_3 {B : Bs} {n0 : Nat} {V : Vs} {κ : Ks}  (hV32 : V 32 = true) : Ct (XI B n0) mJx4a65c_init_da8c8 4 0 0 [Rf 5] V κ (Ex none V (st2 (st2 κ 5 0 0) 5 1 (cd (some (32))))) := by
  refine Ct.of (L := [some (Rf 5)]) 0 (by decide +kernel) rfl rfl ?_
  refine g_aload_n 1 dJx4a65c_init_da8c8_0 rfl rfl ?_
  refine v_I 4 0 0 [] [] dJx4a65c_init_da8c8_1 ciJx4a65c_1 mwJxc12de_init_da8c8 (by decide) rfl (Nat.le_of_ble_eq_true rfl) rfl rfl rfl (c_al_3) ?_
  refine g_aload_n 5 dJx4a65c_init_da8c8_4 rfl rfl ?_
  refine g_gets 8 (t := 32) dJx4a65c_init_da8c8_5 (fun s h => h.2.2.2.2.2) rfl gsJx4a65c_39 (by first | assumption | rfl) (by rw [ki_32]; decide) rfl ?_
  refine g_putR 11 dJx4a65c_init_da8c8_8 fpJx4a65c_9 (Or.inr ⟨_, rfl⟩) (fun h => (nomatch h)) ki_5 rfl (fun q hq => by cases hq; omega) rfl ?_
  refine g_vret dJx4a65c_init_da8c8_11 rfl ?_
  exact ⟨rfl, rfl, rfl⟩
set_option maxHeartbeats 4000000 in
set_option maxRecDepth 20000 in
theorem c_X6_init {B : Bs} {n0 : Nat} {V : Vs} {κ : Ks}   : Ct (XI B n0) mX6_init 2 0 0 [Rf 13] V κ (Ex none V κ) := by
  refine Ct.of (L := [some (Rf 13)]) 0 (by decide +kernel) rfl rfl ?_
  refine g_aload_n 1 dX6_init_0 rfl rfl ?_
  refine g_objInit 4 dX6_init_1 oiX6_1 oiI oiC (by decide) (Nat.le_of_ble_eq_true rfl) rfl ?_
  refine g_vret dX6_init_4 rfl ?_
  exact ⟨rfl, rfl, rfl⟩
def k_i_10 (κ : Ks) : Ks := (st2 (rowset (st2 (rowset κ 11 (fun _ => 0)) 10 0 (cd (some (11)))) 12 (fun _ => 0)) 10 1 (cd (some (12))))
set_option maxHeartbeats 4000000 in
set_option maxRecDepth 20000 in
theorem i_10 {B : Bs} {n0 : Nat} {V : Vs} {κ : Ks}  (hV : ∀ t : Nat, t = 11 ∨ t = 12 → V t = false) : Ct (XI B n0) mX8_init 2 2 336 [Rf 10] V κ (Ex none (vset (vset V 11) 12) (k_i_10 κ)) := by
  refine Ct.of (L := [some (Rf 10)]) 0 (by decide +kernel) rfl rfl ?_
  refine g_aload_n 1 dX8_init_0 rfl rfl ?_
  refine g_objInit 4 dX8_init_1 oiX8_3 oiI oiC (by decide) (Nat.le_of_ble_eq_true rfl) rfl ?_
  refine g_aload_n 5 dX8_init_4 rfl rfl ?_
  refine g_sipush 8 dX8_init_5 (by decide) rfl ?_
  refine G.eqi (show (168 : Int) = ((168 : Nat) : Int) from rfl) ?_
  refine g_newI 10 11 dX8_init_8 wAI ki_11 (by decide) (fun j => rfl) (hV 11 (by decide)) rfl ?_
  refine g_putR 13 dX8_init_10 fpX8_9 (Or.inr ⟨_, rfl⟩) (fun _ => rfl) ki_10 rfl (fun q hq => by cases hq; omega) rfl ?_
  refine g_aload_n 14 dX8_init_13 rfl rfl ?_
  refine g_sipush 17 dX8_init_14 (by decide) rfl ?_
  refine G.eqi (show (168 : Int) = ((168 : Nat) : Int) from rfl) ?_
  refine g_newI 19 12 dX8_init_17 wAI ki_12 (by decide) (fun j => rfl) ((vset_n (by decide)).trans (hV 12 (by decide))) rfl ?_
  refine g_putR 22 dX8_init_19 fpX8_15 (Or.inr ⟨_, rfl⟩) (fun _ => rfl) ki_10 rfl (fun q hq => by cases hq; omega) rfl ?_
  refine g_vret dX8_init_22 rfl ?_
  exact ⟨rfl, rfl, rfl⟩
def k_i_14 (κ : Ks) : Ks := (st2 (rowset (st2 (rowset κ 15 (fun _ => 0)) 14 0 (cd (some (15)))) 16 (fun _ => 0)) 14 1 (cd (some (16))))
set_option maxHeartbeats 4000000 in
set_option maxRecDepth 20000 in
theorem i_14 {B : Bs} {n0 : Nat} {V : Vs} {κ : Ks}  (hV : ∀ t : Nat, t = 15 ∨ t = 16 → V t = false) : Ct (XI B n0) mX2_init 2 2 2048 [Rf 14] V κ (Ex none (vset (vset V 15) 16) (k_i_14 κ)) := by
  refine Ct.of (L := [some (Rf 14)]) 0 (by decide +kernel) rfl rfl ?_
  refine g_aload_n 1 dX2_init_0 rfl rfl ?_
  refine g_objInit 4 dX2_init_1 oiX2_3 oiI oiC (by decide) (Nat.le_of_ble_eq_true rfl) rfl ?_
  refine g_aload_n 5 dX2_init_4 rfl rfl ?_
  refine g_sipush 8 dX2_init_5 (by decide) rfl ?_
  refine G.eqi (show (1024 : Int) = ((1024 : Nat) : Int) from rfl) ?_
  refine g_newI 10 15 dX2_init_8 wAI ki_15 (by decide) (fun j => rfl) (hV 15 (by decide)) rfl ?_
  refine g_putR 13 dX2_init_10 fpX2_9 (Or.inr ⟨_, rfl⟩) (fun _ => rfl) ki_14 rfl (fun q hq => by cases hq; omega) rfl ?_
  refine g_aload_n 14 dX2_init_13 rfl rfl ?_
  refine g_sipush 17 dX2_init_14 (by decide) rfl ?_
  refine G.eqi (show (1024 : Int) = ((1024 : Nat) : Int) from rfl) ?_
  refine g_newI 19 16 dX2_init_17 wAI ki_16 (by decide) (fun j => rfl) ((vset_n (by decide)).trans (hV 16 (by decide))) rfl ?_
  refine g_putR 22 dX2_init_19 fpX2_15 (Or.inr ⟨_, rfl⟩) (fun _ => rfl) ki_14 rfl (fun q hq => by cases hq; omega) rfl ?_
  refine g_vret dX2_init_22 rfl ?_
  exact ⟨rfl, rfl, rfl⟩
def k_i_17 (κ : Ks) : Ks := (st2 (rowset (st2 (rowset (st2 (rowset (st2 (rowset κ 18 (fun _ => 0)) 17 0 (cd (some (18)))) 19 (fun _ => 0)) 17 1 (cd (some (19)))) 20 (fun _ => 0)) 17 2 (cd (some (20)))) 21 (fun _ => 0)) 17 3 (cd (some (21))))
set_option maxHeartbeats 4000000 in
set_option maxRecDepth 20000 in
theorem i_17 {B : Bs} {n0 : Nat} {V : Vs} {κ : Ks}  (hV : ∀ t : Nat, t = 18 ∨ t = 19 ∨ t = 20 ∨ t = 21 → V t = false) : Ct (XI B n0) mX0_init 2 4 25 [Rf 17] V κ (Ex none (vset (vset (vset (vset V 18) 19) 20) 21) (k_i_17 κ)) := by
  refine Ct.of (L := [some (Rf 17)]) 0 (by decide +kernel) rfl rfl ?_
  refine g_aload_n 1 dX0_init_0 rfl rfl ?_
  refine g_objInit 4 dX0_init_1 oiX0_3 oiI oiC (by decide) (Nat.le_of_ble_eq_true rfl) rfl ?_
  refine g_aload_n 5 dX0_init_4 rfl rfl ?_
  refine g_bipush 7 dX0_init_5 (by decide) rfl ?_
  refine G.eqi (show (6 : Int) = ((6 : Nat) : Int) from rfl) ?_
  refine g_newI 9 18 dX0_init_7 wAI ki_18 (by decide) (fun j => rfl) (hV 18 (by decide)) rfl ?_
  refine g_putR 12 dX0_init_9 fpX0_9 (Or.inr ⟨_, rfl⟩) (fun _ => rfl) ki_17 rfl (fun q hq => by cases hq; omega) rfl ?_
  refine g_aload_n 13 dX0_init_12 rfl rfl ?_
  refine g_bipush 15 dX0_init_13 (by decide) rfl ?_
  refine G.eqi (show (6 : Int) = ((6 : Nat) : Int) from rfl) ?_
  refine g_newI 17 19 dX0_init_15 wAI ki_19 (by decide) (fun j => rfl) ((vset_n (by decide)).trans (hV 19 (by decide))) rfl ?_
  refine g_putR 20 dX0_init_17 fpX0_15 (Or.inr ⟨_, rfl⟩) (fun _ => rfl) ki_17 rfl (fun q hq => by cases hq; omega) rfl ?_
  refine g_aload_n 21 dX0_init_20 rfl rfl ?_
  refine g_bipush 23 dX0_init_21 (by decide) rfl ?_
  refine G.eqi (show (6 : Int) = ((6 : Nat) : Int) from rfl) ?_
  refine g_newI 25 20 dX0_init_23 wAI ki_20 (by decide) (fun j => rfl) ((vset_n (by decide)).trans ((vset_n (by decide)).trans (hV 20 (by decide)))) rfl ?_
  refine g_putR 28 dX0_init_25 fpX0_18 (Or.inr ⟨_, rfl⟩) (fun _ => rfl) ki_17 rfl (fun q hq => by cases hq; omega) rfl ?_
  refine g_aload_n 29 dX0_init_28 rfl rfl ?_
  refine g_bipush 31 dX0_init_29 (by decide) rfl ?_
  refine G.eqi (show (7 : Int) = ((7 : Nat) : Int) from rfl) ?_
  refine g_newI 33 21 dX0_init_31 wAI ki_21 (by decide) (fun j => rfl) ((vset_n (by decide)).trans ((vset_n (by decide)).trans ((vset_n (by decide)).trans (hV 21 (by decide))))) rfl ?_
  refine g_putR 36 dX0_init_33 fpX0_21 (Or.inr ⟨_, rfl⟩) (fun _ => rfl) ki_17 rfl (fun q hq => by cases hq; omega) rfl ?_
  refine g_vret dX0_init_36 rfl ?_
  exact ⟨rfl, rfl, rfl⟩
def k_i_22 (κ : Ks) : Ks := (st2 (st2 (rowset κ 23 (fun _ => 0)) 22 0 (cd (some (23)))) 22 1 (-1))
set_option maxHeartbeats 4000000 in
set_option maxRecDepth 20000 in
theorem i_22 {B : Bs} {n0 : Nat} {V : Vs} {κ : Ks}  (hV : ∀ t : Nat, t = 23 → V t = false) : Ct (XI B n0) mX4_init 2 1 24 [Rf 22] V κ (Ex none (vset V 23) (k_i_22 κ)) := by
  refine Ct.of (L := [some (Rf 22)]) 0 (by decide +kernel) rfl rfl ?_
  refine g_aload_n 1 dX4_init_0 rfl rfl ?_
  refine g_objInit 4 dX4_init_1 oiX4_3 oiI oiC (by decide) (Nat.le_of_ble_eq_true rfl) rfl ?_
  refine g_aload_n 5 dX4_init_4 rfl rfl ?_
  refine g_bipush 7 dX4_init_5 (by decide) rfl ?_
  refine G.eqi (show (24 : Int) = ((24 : Nat) : Int) from rfl) ?_
  refine g_newI 9 23 dX4_init_7 wAI ki_23 (by decide) (fun j => rfl) (hV 23 (by decide)) rfl ?_
  refine g_putR 12 dX4_init_9 fpX4_9 (Or.inr ⟨_, rfl⟩) (fun _ => rfl) ki_22 rfl (fun q hq => by cases hq; omega) rfl ?_
  refine g_aload_n 13 dX4_init_12 rfl rfl ?_
  refine g_iconst 14 dX4_init_13 (by decide) rfl ?_
  refine g_putI 17 dX4_init_14 fpX4_15 (fun h => (nomatch h)) ki_22 rfl (by omega) rfl ?_
  refine g_vret dX4_init_17 rfl ?_
  exact ⟨rfl, rfl, rfl⟩
def k_i_24 (κ : Ks) : Ks := (st2 (st2 (rowset κ 25 (fun _ => 0)) 24 0 (cd (some (25)))) 24 1 (-1))
set_option maxHeartbeats 4000000 in
set_option maxRecDepth 20000 in
theorem i_24 {B : Bs} {n0 : Nat} {V : Vs} {κ : Ks}  (hV : ∀ t : Nat, t = 25 → V t = false) : Ct (XI B n0) mX4_init 2 1 24 [Rf 24] V κ (Ex none (vset V 25) (k_i_24 κ)) := by
  refine Ct.of (L := [some (Rf 24)]) 0 (by decide +kernel) rfl rfl ?_
  refine g_aload_n 1 dX4_init_0 rfl rfl ?_
  refine g_objInit 4 dX4_init_1 oiX4_3 oiI oiC (by decide) (Nat.le_of_ble_eq_true rfl) rfl ?_
  refine g_aload_n 5 dX4_init_4 rfl rfl ?_
  refine g_bipush 7 dX4_init_5 (by decide) rfl ?_
  refine G.eqi (show (24 : Int) = ((24 : Nat) : Int) from rfl) ?_
  refine g_newI 9 25 dX4_init_7 wAI ki_25 (by decide) (fun j => rfl) (hV 25 (by decide)) rfl ?_
  refine g_putR 12 dX4_init_9 fpX4_9 (Or.inr ⟨_, rfl⟩) (fun _ => rfl) ki_24 rfl (fun q hq => by cases hq; omega) rfl ?_
  refine g_aload_n 13 dX4_init_12 rfl rfl ?_
  refine g_iconst 14 dX4_init_13 (by decide) rfl ?_
  refine g_putI 17 dX4_init_14 fpX4_15 (fun h => (nomatch h)) ki_24 rfl (by omega) rfl ?_
  refine g_vret dX4_init_17 rfl ?_
  exact ⟨rfl, rfl, rfl⟩
def k_i_26 (κ : Ks) : Ks := (st2 (st2 (rowset κ 27 (fun _ => 0)) 26 0 (cd (some (27)))) 26 1 (-1))
set_option maxHeartbeats 4000000 in
set_option maxRecDepth 20000 in
theorem i_26 {B : Bs} {n0 : Nat} {V : Vs} {κ : Ks}  (hV : ∀ t : Nat, t = 27 → V t = false) : Ct (XI B n0) mX4_init 2 1 24 [Rf 26] V κ (Ex none (vset V 27) (k_i_26 κ)) := by
  refine Ct.of (L := [some (Rf 26)]) 0 (by decide +kernel) rfl rfl ?_
  refine g_aload_n 1 dX4_init_0 rfl rfl ?_
  refine g_objInit 4 dX4_init_1 oiX4_3 oiI oiC (by decide) (Nat.le_of_ble_eq_true rfl) rfl ?_
  refine g_aload_n 5 dX4_init_4 rfl rfl ?_
  refine g_bipush 7 dX4_init_5 (by decide) rfl ?_
  refine G.eqi (show (24 : Int) = ((24 : Nat) : Int) from rfl) ?_
  refine g_newI 9 27 dX4_init_7 wAI ki_27 (by decide) (fun j => rfl) (hV 27 (by decide)) rfl ?_
  refine g_putR 12 dX4_init_9 fpX4_9 (Or.inr ⟨_, rfl⟩) (fun _ => rfl) ki_26 rfl (fun q hq => by cases hq; omega) rfl ?_
  refine g_aload_n 13 dX4_init_12 rfl rfl ?_
  refine g_iconst 14 dX4_init_13 (by decide) rfl ?_
  refine g_putI 17 dX4_init_14 fpX4_15 (fun h => (nomatch h)) ki_26 rfl (by omega) rfl ?_
  refine g_vret dX4_init_17 rfl ?_
  exact ⟨rfl, rfl, rfl⟩
def k_i_28 (κ : Ks) : Ks := (st2 (st2 (rowset κ 29 (fun _ => 0)) 28 0 (cd (some (29)))) 28 1 (-1))
set_option maxHeartbeats 4000000 in
set_option maxRecDepth 20000 in
theorem i_28 {B : Bs} {n0 : Nat} {V : Vs} {κ : Ks}  (hV : ∀ t : Nat, t = 29 → V t = false) : Ct (XI B n0) mX4_init 2 1 24 [Rf 28] V κ (Ex none (vset V 29) (k_i_28 κ)) := by
  refine Ct.of (L := [some (Rf 28)]) 0 (by decide +kernel) rfl rfl ?_
  refine g_aload_n 1 dX4_init_0 rfl rfl ?_
  refine g_objInit 4 dX4_init_1 oiX4_3 oiI oiC (by decide) (Nat.le_of_ble_eq_true rfl) rfl ?_
  refine g_aload_n 5 dX4_init_4 rfl rfl ?_
  refine g_bipush 7 dX4_init_5 (by decide) rfl ?_
  refine G.eqi (show (24 : Int) = ((24 : Nat) : Int) from rfl) ?_
  refine g_newI 9 29 dX4_init_7 wAI ki_29 (by decide) (fun j => rfl) (hV 29 (by decide)) rfl ?_
  refine g_putR 12 dX4_init_9 fpX4_9 (Or.inr ⟨_, rfl⟩) (fun _ => rfl) ki_28 rfl (fun q hq => by cases hq; omega) rfl ?_
  refine g_aload_n 13 dX4_init_12 rfl rfl ?_
  refine g_iconst 14 dX4_init_13 (by decide) rfl ?_
  refine g_putI 17 dX4_init_14 fpX4_15 (fun h => (nomatch h)) ki_28 rfl (by omega) rfl ?_
  refine g_vret dX4_init_17 rfl ?_
  exact ⟨rfl, rfl, rfl⟩
def k_i_1 (κ : Ks) : Ks := (st2 (k_i_28 (rowset (st2 (k_i_26 (rowset (st2 (k_i_24 (rowset (st2 (k_i_22 (rowset (st2 (k_i_17 (rowset (st2 (k_i_14 (rowset (st2 (rowset (st2 (k_i_10 (rowset (st2 (rowset (st2 (st2 (st2 (st2 (rowset (st2 (st2 (st2 (st2 (rowset (st2 (rowset (st2 (st2 (st2 (rowset (st2 (st2 (st2 (rowset (st2 (st2 (st2 (rowset (st2 (st2 (st2 (rowset κ 2 (fun _ => 0)) 2 0 0) 2 1 (cd (some (32)))) 1 0 (cd (some (2)))) 3 (fun _ => 0)) 3 0 0) 3 1 (cd (some (32)))) 1 1 (cd (some (3)))) 4 (fun _ => 0)) 4 0 0) 4 1 (cd (some (32)))) 1 2 (cd (some (4)))) 5 (fun _ => 0)) 5 0 0) 5 1 (cd (some (32)))) 1 3 (cd (some (5)))) 6 (fun _ => 0)) 1 4 (cd (some (6)))) 7 (fun _ => 0)) 7 0 (-1)) 7 1 (-1)) 7 2 (-1)) 1 5 (cd (some (7)))) 8 (fun _ => 0)) 8 0 100) 8 1 1) 8 2 10) 1 6 (cd (some (8)))) 9 (fun _ => 0)) 1 7 (cd (some (9)))) 10 (fun _ => 0))) 1 8 (cd (some (10)))) 13 (fun _ => 0)) 1 9 (cd (some (13)))) 14 (fun _ => 0))) 1 10 (cd (some (14)))) 17 (fun _ => 0))) 1 11 (cd (some (17)))) 22 (fun _ => 0))) 6 0 ((22 : Nat) : Int)) 24 (fun _ => 0))) 6 1 ((24 : Nat) : Int)) 26 (fun _ => 0))) 6 2 ((26 : Nat) : Int)) 28 (fun _ => 0))) 6 3 ((28 : Nat) : Int))
set_option maxHeartbeats 4000000 in
set_option maxRecDepth 20000 in
theorem i_1 {B : Bs} {n0 : Nat} {V : Vs} {κ : Ks}  (hV : ∀ t : Nat, 2 ≤ t ∧ t < 30 → V t = false) (hV32 : V 32 = true) : Ct (XI B n0) mX9_init 5 28 2561 [Rf 1] V κ (Ex none (vset (vset (vset (vset (vset (vset (vset (vset (vset (vset (vset (vset (vset (vset (vset (vset (vset (vset (vset (vset (vset (vset (vset (vset (vset (vset (vset (vset V 2) 3) 4) 5) 6) 7) 8) 9) 10) 11) 12) 13) 14) 15) 16) 17) 18) 19) 20) 21) 22) 23) 24) 25) 26) 27) 28) 29) (k_i_1 κ)) := by
  refine Ct.of (L := [some (Rf 1), none]) 1 (by decide +kernel) rfl rfl ?_
  refine g_aload_n 1 dX9_init_0 rfl rfl ?_
  refine g_objInit 4 dX9_init_1 oiX9_1 oiI oiC (by decide) (Nat.le_of_ble_eq_true rfl) rfl ?_
  refine g_aload_n 5 dX9_init_4 rfl rfl ?_
  refine g_new 8 2 dX9_init_5 nwX9_7 ki_2 (fun j => rfl) (gD1 _ (by decide)) (hV 2 (by decide)) rfl ?_
  refine g_dup 9 dX9_init_8 rfl ?_
  refine v_I 12 27 2558 [] [Rf 2, Rf 1] dX9_init_9 ciX9_9 mwJx4a65c_init_da8c8 (by decide) rfl (Nat.le_of_ble_eq_true rfl) rfl rfl rfl (c_ai_0 ((vset_n (by decide)).trans (hV32))) ?_
  refine g_putR 15 dX9_init_12 fpX9_10 (Or.inl ⟨_, rfl⟩) (fun _ => rfl) ki_1 rfl (fun q hq => by cases hq; omega) rfl ?_
  refine g_aload_n 16 dX9_init_15 rfl rfl ?_
  refine g_new 19 3 dX9_init_16 nwX9_7 ki_3 (fun j => rfl) (gD1 _ (by decide)) ((vset_n (by decide)).trans (hV 3 (by decide))) rfl ?_
  refine g_dup 20 dX9_init_19 rfl ?_
  refine v_I 23 26 2555 [] [Rf 3, Rf 1] dX9_init_20 ciX9_9 mwJx4a65c_init_da8c8 (by decide) rfl (Nat.le_of_ble_eq_true rfl) rfl rfl rfl (c_ai_1 ((vset_n (by decide)).trans ((vset_n (by decide)).trans (hV32)))) ?_
  refine g_putR 26 dX9_init_23 fpX9_16 (Or.inl ⟨_, rfl⟩) (fun _ => rfl) ki_1 rfl (fun q hq => by cases hq; omega) rfl ?_
  refine g_aload_n 27 dX9_init_26 rfl rfl ?_
  refine g_new 30 4 dX9_init_27 nwX9_7 ki_4 (fun j => rfl) (gD1 _ (by decide)) ((vset_n (by decide)).trans ((vset_n (by decide)).trans (hV 4 (by decide)))) rfl ?_
  refine g_dup 31 dX9_init_30 rfl ?_
  refine v_I 34 25 2552 [] [Rf 4, Rf 1] dX9_init_31 ciX9_9 mwJx4a65c_init_da8c8 (by decide) rfl (Nat.le_of_ble_eq_true rfl) rfl rfl rfl (c_ai_2 ((vset_n (by decide)).trans ((vset_n (by decide)).trans ((vset_n (by decide)).trans (hV32))))) ?_
  refine g_putR 37 dX9_init_34 fpX9_19 (Or.inl ⟨_, rfl⟩) (fun _ => rfl) ki_1 rfl (fun q hq => by cases hq; omega) rfl ?_
  refine g_aload_n 38 dX9_init_37 rfl rfl ?_
  refine g_new 41 5 dX9_init_38 nwX9_7 ki_5 (fun j => rfl) (gD1 _ (by decide)) ((vset_n (by decide)).trans ((vset_n (by decide)).trans ((vset_n (by decide)).trans (hV 5 (by decide))))) rfl ?_
  refine g_dup 42 dX9_init_41 rfl ?_
  refine v_I 45 24 2549 [] [Rf 5, Rf 1] dX9_init_42 ciX9_9 mwJx4a65c_init_da8c8 (by decide) rfl (Nat.le_of_ble_eq_true rfl) rfl rfl rfl (c_ai_3 ((vset_n (by decide)).trans ((vset_n (by decide)).trans ((vset_n (by decide)).trans ((vset_n (by decide)).trans (hV32)))))) ?_
  refine g_putR 48 dX9_init_45 fpX9_22 (Or.inl ⟨_, rfl⟩) (fun _ => rfl) ki_1 rfl (fun q hq => by cases hq; omega) rfl ?_
  refine g_aload_n 49 dX9_init_48 rfl rfl ?_
  refine g_iconst 50 dX9_init_49 (by decide) rfl ?_
  refine G.eqi (show (4 : Int) = ((4 : Nat) : Int) from rfl) ?_
  refine g_newA 53 6 dX9_init_50 clX9_25 (Or.inr ⟨rfl, rfl, rfl⟩) ki_6 (by decide) (fun j => rfl) ((vset_n (by decide)).trans ((vset_n (by decide)).trans ((vset_n (by decide)).trans ((vset_n (by decide)).trans (hV 6 (by decide)))))) rfl ?_
  refine g_putR 56 dX9_init_53 fpX9_27 (Or.inr ⟨_, rfl⟩) (fun _ => rfl) ki_1 rfl (fun q hq => by cases hq; omega) rfl ?_
  refine g_aload_n 57 dX9_init_56 rfl rfl ?_
  refine g_iconst 58 dX9_init_57 (by decide) rfl ?_
  refine G.eqi (show (3 : Int) = ((3 : Nat) : Int) from rfl) ?_
  refine g_newI 60 7 dX9_init_58 wAI ki_7 (by decide) (fun j => rfl) ((vset_n (by decide)).trans ((vset_n (by decide)).trans ((vset_n (by decide)).trans ((vset_n (by decide)).trans ((vset_n (by decide)).trans (hV 7 (by decide))))))) rfl ?_
  refine g_dup 61 dX9_init_60 rfl ?_
  refine g_iconst 62 dX9_init_61 (by decide) rfl ?_
  refine g_iconst 63 dX9_init_62 (by decide) rfl ?_
  refine r_iast 64 0 dX9_init_63 ki_7 (by decide) li_7 (by omega) (rfl) (by omega) rfl ?_
  refine g_dup 65 dX9_init_64 rfl ?_
  refine g_iconst 66 dX9_init_65 (by decide) rfl ?_
  refine g_iconst 67 dX9_init_66 (by decide) rfl ?_
  refine r_iast 68 1 dX9_init_67 ki_7 (by decide) li_7 (by omega) (rfl) (by omega) rfl ?_
  refine g_dup 69 dX9_init_68 rfl ?_
  refine g_iconst 70 dX9_init_69 (by decide) rfl ?_
  refine g_iconst 71 dX9_init_70 (by decide) rfl ?_
  refine r_iast 72 2 dX9_init_71 ki_7 (by decide) li_7 (by omega) (rfl) (by omega) rfl ?_
  refine g_putR 75 dX9_init_72 fpX9_31 (Or.inr ⟨_, rfl⟩) (fun _ => rfl) ki_1 rfl (fun q hq => by cases hq; omega) rfl ?_
  refine g_aload_n 76 dX9_init_75 rfl rfl ?_
  refine g_iconst 77 dX9_init_76 (by decide) rfl ?_
  refine G.eqi (show (3 : Int) = ((3 : Nat) : Int) from rfl) ?_
  refine g_newI 79 8 dX9_init_77 wAI ki_8 (by decide) (fun j => rfl) ((vset_n (by decide)).trans ((vset_n (by decide)).trans ((vset_n (by decide)).trans ((vset_n (by decide)).trans ((vset_n (by decide)).trans ((vset_n (by decide)).trans (hV 8 (by decide)))))))) rfl ?_
  refine g_dup 80 dX9_init_79 rfl ?_
  refine g_iconst 81 dX9_init_80 (by decide) rfl ?_
  refine g_bipush 83 dX9_init_81 (by decide) rfl ?_
  refine r_iast 84 0 dX9_init_83 ki_8 (by decide) li_8 (by omega) (rfl) (by omega) rfl ?_
  refine g_dup 85 dX9_init_84 rfl ?_
  refine g_iconst 86 dX9_init_85 (by decide) rfl ?_
  refine g_iconst 87 dX9_init_86 (by decide) rfl ?_
  refine r_iast 88 1 dX9_init_87 ki_8 (by decide) li_8 (by omega) (rfl) (by omega) rfl ?_
  refine g_dup 89 dX9_init_88 rfl ?_
  refine g_iconst 90 dX9_init_89 (by decide) rfl ?_
  refine g_bipush 92 dX9_init_90 (by decide) rfl ?_
  refine r_iast 93 2 dX9_init_92 ki_8 (by decide) li_8 (by omega) (rfl) (by omega) rfl ?_
  refine g_putR 96 dX9_init_93 fpX9_35 (Or.inr ⟨_, rfl⟩) (fun _ => rfl) ki_1 rfl (fun q hq => by cases hq; omega) rfl ?_
  refine g_aload_n 97 dX9_init_96 rfl rfl ?_
  refine g_bipush 99 dX9_init_97 (by decide) rfl ?_
  refine G.eqi (show (8 : Int) = ((8 : Nat) : Int) from rfl) ?_
  refine g_newI 101 9 dX9_init_99 wAI ki_9 (by decide) (fun j => rfl) ((vset_n (by decide)).trans ((vset_n (by decide)).trans ((vset_n (by decide)).trans ((vset_n (by decide)).trans ((vset_n (by decide)).trans ((vset_n (by decide)).trans ((vset_n (by decide)).trans (hV 9 (by decide))))))))) rfl ?_
  refine g_putR 104 dX9_init_101 fpX9_38 (Or.inr ⟨_, rfl⟩) (fun _ => rfl) ki_1 rfl (fun q hq => by cases hq; omega) rfl ?_
  refine g_aload_n 105 dX9_init_104 rfl rfl ?_
  refine g_new 108 10 dX9_init_105 nwX9_41 ki_10 (fun j => rfl) (gD1 _ (by decide)) ((vset_n (by decide)).trans ((vset_n (by decide)).trans ((vset_n (by decide)).trans ((vset_n (by decide)).trans ((vset_n (by decide)).trans ((vset_n (by decide)).trans ((vset_n (by decide)).trans ((vset_n (by decide)).trans (hV 10 (by decide)))))))))) rfl ?_
  refine g_dup 109 dX9_init_108 rfl ?_
  refine v_IN 112 17 2193 [] [Rf 10, Rf 1] dX9_init_109 ciX9_43 mwX8_init (by decide) rfl (Nat.le_of_ble_eq_true rfl) rfl rfl rfl (i_10 (fun t ht => (vset_n (by omega)).trans ((vset_n (by omega)).trans ((vset_n (by omega)).trans ((vset_n (by omega)).trans ((vset_n (by omega)).trans ((vset_n (by omega)).trans ((vset_n (by omega)).trans ((vset_n (by omega)).trans ((vset_n (by omega)).trans (hV t (by omega)))))))))))) ?_
  refine g_putR 115 dX9_init_112 fpX9_44 (Or.inl ⟨_, rfl⟩) (fun _ => rfl) ki_1 rfl (fun q hq => by cases hq; omega) rfl ?_
  refine g_aload_n 116 dX9_init_115 rfl rfl ?_
  refine g_new 119 13 dX9_init_116 nwX9_48 ki_13 (fun j => rfl) (fun j => Nat.zero_le 1) ((vset_n (by decide)).trans ((vset_n (by decide)).trans ((vset_n (by decide)).trans ((vset_n (by decide)).trans ((vset_n (by decide)).trans ((vset_n (by decide)).trans ((vset_n (by decide)).trans ((vset_n (by decide)).trans ((vset_n (by decide)).trans ((vset_n (by decide)).trans ((vset_n (by decide)).trans (hV 13 (by decide))))))))))))) rfl ?_
  refine g_dup 120 dX9_init_119 rfl ?_
  refine v_IN 123 16 2187 [] [Rf 13, Rf 1] dX9_init_120 ciX9_50 mwX6_init (by decide) rfl (Nat.le_of_ble_eq_true rfl) rfl rfl rfl (c_X6_init) ?_
  refine g_putR 126 dX9_init_123 fpX9_51 (Or.inl ⟨_, rfl⟩) (fun _ => rfl) ki_1 rfl (fun q hq => by cases hq; omega) rfl ?_
  refine g_aload_n 127 dX9_init_126 rfl rfl ?_
  refine g_new 130 14 dX9_init_127 nwX9_55 ki_14 (fun j => rfl) (gD1 _ (by decide)) ((vset_n (by decide)).trans ((vset_n (by decide)).trans ((vset_n (by decide)).trans ((vset_n (by decide)).trans ((vset_n (by decide)).trans ((vset_n (by decide)).trans ((vset_n (by decide)).trans ((vset_n (by decide)).trans ((vset_n (by decide)).trans ((vset_n (by decide)).trans ((vset_n (by decide)).trans ((vset_n (by decide)).trans (hV 14 (by decide)))))))))))))) rfl ?_
  refine g_dup 131 dX9_init_130 rfl ?_
  refine v_IN 134 13 137 [] [Rf 14, Rf 1] dX9_init_131 ciX9_57 mwX2_init (by decide) rfl (Nat.le_of_ble_eq_true rfl) rfl rfl rfl (i_14 (fun t ht => (vset_n (by omega)).trans ((vset_n (by omega)).trans ((vset_n (by omega)).trans ((vset_n (by omega)).trans ((vset_n (by omega)).trans ((vset_n (by omega)).trans ((vset_n (by omega)).trans ((vset_n (by omega)).trans ((vset_n (by omega)).trans ((vset_n (by omega)).trans ((vset_n (by omega)).trans ((vset_n (by omega)).trans ((vset_n (by omega)).trans (hV t (by omega)))))))))))))))) ?_
  refine g_putR 137 dX9_init_134 fpX9_58 (Or.inl ⟨_, rfl⟩) (fun _ => rfl) ki_1 rfl (fun q hq => by cases hq; omega) rfl ?_
  refine g_aload_n 138 dX9_init_137 rfl rfl ?_
  refine g_new 141 17 dX9_init_138 nwX9_62 ki_17 (fun j => rfl) (gD1 _ (by decide)) ((vset_n (by decide)).trans ((vset_n (by decide)).trans ((vset_n (by decide)).trans ((vset_n (by decide)).trans ((vset_n (by decide)).trans ((vset_n (by decide)).trans ((vset_n (by decide)).trans ((vset_n (by decide)).trans ((vset_n (by decide)).trans ((vset_n (by decide)).trans ((vset_n (by decide)).trans ((vset_n (by decide)).trans ((vset_n (by decide)).trans ((vset_n (by decide)).trans ((vset_n (by decide)).trans (hV 17 (by decide))))))))))))))))) rfl ?_
  refine g_dup 142 dX9_init_141 rfl ?_
  refine v_IN 145 8 104 [] [Rf 17, Rf 1] dX9_init_142 ciX9_64 mwX0_init (by decide) rfl (Nat.le_of_ble_eq_true rfl) rfl rfl rfl (i_17 (fun t ht => (vset_n (by omega)).trans ((vset_n (by omega)).trans ((vset_n (by omega)).trans ((vset_n (by omega)).trans ((vset_n (by omega)).trans ((vset_n (by omega)).trans ((vset_n (by omega)).trans ((vset_n (by omega)).trans ((vset_n (by omega)).trans ((vset_n (by omega)).trans ((vset_n (by omega)).trans ((vset_n (by omega)).trans ((vset_n (by omega)).trans ((vset_n (by omega)).trans ((vset_n (by omega)).trans ((vset_n (by omega)).trans (hV t (by omega))))))))))))))))))) ?_
  refine g_putR 148 dX9_init_145 fpX9_65 (Or.inl ⟨_, rfl⟩) (fun _ => rfl) ki_1 rfl (fun q hq => by cases hq; omega) rfl ?_
  refine g_iconst 149 dX9_init_148 (by decide) rfl ?_
  refine g_istore_n (L' := [some (Rf 1), some (Iv 0)]) 150 dX9_init_149 rfl (by decide) rfl ?_
  refine g_iload_n 151 dX9_init_150 rfl rfl ?_
  refine g_iconst 152 dX9_init_151 (by decide) rfl ?_
  refine g_icmp_ge 174 155 dX9_init_152 (by decide) (by decide) (by decide) rfl (fun z => absurd z (by decide)) (fun _ => ?_)
  refine g_aload_n 156 dX9_init_155 rfl rfl ?_
  refine r_getD 159 (some 6) dX9_init_156 fgX9_27 ki_1 rfl rfl rfl ?_
  refine g_iload_n 160 dX9_init_159 rfl rfl ?_
  refine g_new 163 22 dX9_init_160 nwX9_25 ki_22 (fun j => rfl) (gD1 _ (by decide)) ((vset_n (by decide)).trans ((vset_n (by decide)).trans ((vset_n (by decide)).trans ((vset_n (by decide)).trans ((vset_n (by decide)).trans ((vset_n (by decide)).trans ((vset_n (by decide)).trans ((vset_n (by decide)).trans ((vset_n (by decide)).trans ((vset_n (by decide)).trans ((vset_n (by decide)).trans ((vset_n (by decide)).trans ((vset_n (by decide)).trans ((vset_n (by decide)).trans ((vset_n (by decide)).trans ((vset_n (by decide)).trans ((vset_n (by decide)).trans ((vset_n (by decide)).trans ((vset_n (by decide)).trans ((vset_n (by decide)).trans (hV 22 (by decide)))))))))))))))))))))) rfl ?_
  refine g_dup 164 dX9_init_163 rfl ?_
  refine v_IN 167 6 78 [] [Rf 22, Iv 0, Rf 6] dX9_init_164 ciX9_69 mwX4_init (by decide) rfl (Nat.le_of_ble_eq_true rfl) rfl rfl rfl (i_22 (fun t ht => (vset_n (by omega)).trans ((vset_n (by omega)).trans ((vset_n (by omega)).trans ((vset_n (by omega)).trans ((vset_n (by omega)).trans ((vset_n (by omega)).trans ((vset_n (by omega)).trans ((vset_n (by omega)).trans ((vset_n (by omega)).trans ((vset_n (by omega)).trans ((vset_n (by omega)).trans ((vset_n (by omega)).trans ((vset_n (by omega)).trans ((vset_n (by omega)).trans ((vset_n (by omega)).trans ((vset_n (by omega)).trans ((vset_n (by omega)).trans ((vset_n (by omega)).trans ((vset_n (by omega)).trans ((vset_n (by omega)).trans ((vset_n (by omega)).trans (hV t (by omega)))))))))))))))))))))))) ?_
  refine g_aast 168 dX9_init_167 (ci := 5) rfl (by decide) (Or.inr ⟨rfl, rfl⟩) ki_6 ki_22 (by decide) (by decide) (fun j => rfl) (by decide) rfl ?_
  refine g_iinc (L' := [some (Rf 1), some (Iv 1)]) 171 dX9_init_168 rfl rfl (by decide) rfl ?_
  refine g_goto 150 dX9_init_171 (by decide) ?_
  refine g_iload_n 151 dX9_init_150 rfl rfl ?_
  refine g_iconst 152 dX9_init_151 (by decide) rfl ?_
  refine g_icmp_ge 174 155 dX9_init_152 (by decide) (by decide) (by decide) rfl (fun z => absurd z (by decide)) (fun _ => ?_)
  refine g_aload_n 156 dX9_init_155 rfl rfl ?_
  refine r_getD 159 (some 6) dX9_init_156 fgX9_27 ki_1 rfl rfl rfl ?_
  refine g_iload_n 160 dX9_init_159 rfl rfl ?_
  refine g_new 163 24 dX9_init_160 nwX9_25 ki_24 (fun j => rfl) (gD1 _ (by decide)) ((vset_n (by decide)).trans ((vset_n (by decide)).trans ((vset_n (by decide)).trans ((vset_n (by decide)).trans ((vset_n (by decide)).trans ((vset_n (by decide)).trans ((vset_n (by decide)).trans ((vset_n (by decide)).trans ((vset_n (by decide)).trans ((vset_n (by decide)).trans ((vset_n (by decide)).trans ((vset_n (by decide)).trans ((vset_n (by decide)).trans ((vset_n (by decide)).trans ((vset_n (by decide)).trans ((vset_n (by decide)).trans ((vset_n (by decide)).trans ((vset_n (by decide)).trans ((vset_n (by decide)).trans ((vset_n (by decide)).trans ((vset_n (by decide)).trans ((vset_n (by decide)).trans (hV 24 (by decide)))))))))))))))))))))))) rfl ?_
  refine g_dup 164 dX9_init_163 rfl ?_
  refine v_IN 167 4 52 [] [Rf 24, Iv 1, Rf 6] dX9_init_164 ciX9_69 mwX4_init (by decide) rfl (Nat.le_of_ble_eq_true rfl) rfl rfl rfl (i_24 (fun t ht => (vset_n (by omega)).trans ((vset_n (by omega)).trans ((vset_n (by omega)).trans ((vset_n (by omega)).trans ((vset_n (by omega)).trans ((vset_n (by omega)).trans ((vset_n (by omega)).trans ((vset_n (by omega)).trans ((vset_n (by omega)).trans ((vset_n (by omega)).trans ((vset_n (by omega)).trans ((vset_n (by omega)).trans ((vset_n (by omega)).trans ((vset_n (by omega)).trans ((vset_n (by omega)).trans ((vset_n (by omega)).trans ((vset_n (by omega)).trans ((vset_n (by omega)).trans ((vset_n (by omega)).trans ((vset_n (by omega)).trans ((vset_n (by omega)).trans ((vset_n (by omega)).trans ((vset_n (by omega)).trans (hV t (by omega)))))))))))))))))))))))))) ?_
  refine g_aast 168 dX9_init_167 (ci := 5) rfl (by decide) (Or.inr ⟨rfl, rfl⟩) ki_6 ki_24 (by decide) (by decide) (fun j => rfl) (by decide) rfl ?_
  refine g_iinc (L' := [some (Rf 1), some (Iv 2)]) 171 dX9_init_168 rfl rfl (by decide) rfl ?_
  refine g_goto 150 dX9_init_171 (by decide) ?_
  refine g_iload_n 151 dX9_init_150 rfl rfl ?_
  refine g_iconst 152 dX9_init_151 (by decide) rfl ?_
  refine g_icmp_ge 174 155 dX9_init_152 (by decide) (by decide) (by decide) rfl (fun z => absurd z (by decide)) (fun _ => ?_)
  refine g_aload_n 156 dX9_init_155 rfl rfl ?_
  refine r_getD 159 (some 6) dX9_init_156 fgX9_27 ki_1 rfl rfl rfl ?_
  refine g_iload_n 160 dX9_init_159 rfl rfl ?_
  refine g_new 163 26 dX9_init_160 nwX9_25 ki_26 (fun j => rfl) (gD1 _ (by decide)) ((vset_n (by decide)).trans ((vset_n (by decide)).trans ((vset_n (by decide)).trans ((vset_n (by decide)).trans ((vset_n (by decide)).trans ((vset_n (by decide)).trans ((vset_n (by decide)).trans ((vset_n (by decide)).trans ((vset_n (by decide)).trans ((vset_n (by decide)).trans ((vset_n (by decide)).trans ((vset_n (by decide)).trans ((vset_n (by decide)).trans ((vset_n (by decide)).trans ((vset_n (by decide)).trans ((vset_n (by decide)).trans ((vset_n (by decide)).trans ((vset_n (by decide)).trans ((vset_n (by decide)).trans ((vset_n (by decide)).trans ((vset_n (by decide)).trans ((vset_n (by decide)).trans ((vset_n (by decide)).trans ((vset_n (by decide)).trans (hV 26 (by decide)))))))))))))))))))))))))) rfl ?_
  refine g_dup 164 dX9_init_163 rfl ?_
  refine v_IN 167 2 26 [] [Rf 26, Iv 2, Rf 6] dX9_init_164 ciX9_69 mwX4_init (by decide) rfl (Nat.le_of_ble_eq_true rfl) rfl rfl rfl (i_26 (fun t ht => (vset_n (by omega)).trans ((vset_n (by omega)).trans ((vset_n (by omega)).trans ((vset_n (by omega)).trans ((vset_n (by omega)).trans ((vset_n (by omega)).trans ((vset_n (by omega)).trans ((vset_n (by omega)).trans ((vset_n (by omega)).trans ((vset_n (by omega)).trans ((vset_n (by omega)).trans ((vset_n (by omega)).trans ((vset_n (by omega)).trans ((vset_n (by omega)).trans ((vset_n (by omega)).trans ((vset_n (by omega)).trans ((vset_n (by omega)).trans ((vset_n (by omega)).trans ((vset_n (by omega)).trans ((vset_n (by omega)).trans ((vset_n (by omega)).trans ((vset_n (by omega)).trans ((vset_n (by omega)).trans ((vset_n (by omega)).trans ((vset_n (by omega)).trans (hV t (by omega)))))))))))))))))))))))))))) ?_
  refine g_aast 168 dX9_init_167 (ci := 5) rfl (by decide) (Or.inr ⟨rfl, rfl⟩) ki_6 ki_26 (by decide) (by decide) (fun j => rfl) (by decide) rfl ?_
  refine g_iinc (L' := [some (Rf 1), some (Iv 3)]) 171 dX9_init_168 rfl rfl (by decide) rfl ?_
  refine g_goto 150 dX9_init_171 (by decide) ?_
  refine g_iload_n 151 dX9_init_150 rfl rfl ?_
  refine g_iconst 152 dX9_init_151 (by decide) rfl ?_
  refine g_icmp_ge 174 155 dX9_init_152 (by decide) (by decide) (by decide) rfl (fun z => absurd z (by decide)) (fun _ => ?_)
  refine g_aload_n 156 dX9_init_155 rfl rfl ?_
  refine r_getD 159 (some 6) dX9_init_156 fgX9_27 ki_1 rfl rfl rfl ?_
  refine g_iload_n 160 dX9_init_159 rfl rfl ?_
  refine g_new 163 28 dX9_init_160 nwX9_25 ki_28 (fun j => rfl) (gD1 _ (by decide)) ((vset_n (by decide)).trans ((vset_n (by decide)).trans ((vset_n (by decide)).trans ((vset_n (by decide)).trans ((vset_n (by decide)).trans ((vset_n (by decide)).trans ((vset_n (by decide)).trans ((vset_n (by decide)).trans ((vset_n (by decide)).trans ((vset_n (by decide)).trans ((vset_n (by decide)).trans ((vset_n (by decide)).trans ((vset_n (by decide)).trans ((vset_n (by decide)).trans ((vset_n (by decide)).trans ((vset_n (by decide)).trans ((vset_n (by decide)).trans ((vset_n (by decide)).trans ((vset_n (by decide)).trans ((vset_n (by decide)).trans ((vset_n (by decide)).trans ((vset_n (by decide)).trans ((vset_n (by decide)).trans ((vset_n (by decide)).trans ((vset_n (by decide)).trans ((vset_n (by decide)).trans (hV 28 (by decide)))))))))))))))))))))))))))) rfl ?_
  refine g_dup 164 dX9_init_163 rfl ?_
  refine v_IN 167 0 0 [] [Rf 28, Iv 3, Rf 6] dX9_init_164 ciX9_69 mwX4_init (by decide) rfl (Nat.le_of_ble_eq_true rfl) rfl rfl rfl (i_28 (fun t ht => (vset_n (by omega)).trans ((vset_n (by omega)).trans ((vset_n (by omega)).trans ((vset_n (by omega)).trans ((vset_n (by omega)).trans ((vset_n (by omega)).trans ((vset_n (by omega)).trans ((vset_n (by omega)).trans ((vset_n (by omega)).trans ((vset_n (by omega)).trans ((vset_n (by omega)).trans ((vset_n (by omega)).trans ((vset_n (by omega)).trans ((vset_n (by omega)).trans ((vset_n (by omega)).trans ((vset_n (by omega)).trans ((vset_n (by omega)).trans ((vset_n (by omega)).trans ((vset_n (by omega)).trans ((vset_n (by omega)).trans ((vset_n (by omega)).trans ((vset_n (by omega)).trans ((vset_n (by omega)).trans ((vset_n (by omega)).trans ((vset_n (by omega)).trans ((vset_n (by omega)).trans ((vset_n (by omega)).trans (hV t (by omega)))))))))))))))))))))))))))))) ?_
  refine g_aast 168 dX9_init_167 (ci := 5) rfl (by decide) (Or.inr ⟨rfl, rfl⟩) ki_6 ki_28 (by decide) (by decide) (fun j => rfl) (by decide) rfl ?_
  refine g_iinc (L' := [some (Rf 1), some (Iv 4)]) 171 dX9_init_168 rfl rfl (by decide) rfl ?_
  refine g_goto 150 dX9_init_171 (by decide) ?_
  refine g_iload_n 151 dX9_init_150 rfl rfl ?_
  refine g_iconst 152 dX9_init_151 (by decide) rfl ?_
  refine g_icmp_ge 174 155 dX9_init_152 (by decide) (by decide) (by decide) rfl (fun _ => ?_) (fun z => absurd z (by decide))
  refine g_vret dX9_init_174 rfl ?_
  exact ⟨rfl, rfl, rfl⟩
def k_i_40 (κ : Ks) : Ks := (st2 (rowset (st2 (rowset (st2 (rowset (st2 (rowset (st2 (rowset (st2 (rowset (st2 (rowset (st2 (rowset (st2 (rowset (st2 (rowset (st2 (rowset (st2 (rowset (st2 (rowset (st2 (rowset (st2 (rowset (st2 (st2 (st2 (st2 (rowset (st2 (rowset (st2 (rowset (st2 (rowset (st2 (rowset (st2 (rowset (st2 (st2 (st2 (st2 (st2 (rowset (st2 (rowset (st2 (rowset (st2 (rowset (st2 (rowset (st2 (rowset (st2 (rowset (st2 (rowset (st2 (rowset (st2 (rowset (st2 (rowset (st2 (rowset (st2 (rowset (st2 (rowset (st2 (rowset (st2 (rowset (st2 (rowset (st2 (st2 (st2 κ 40 1 100) 40 2 1) 40 3 10) 53 (fun _ => 0)) 40 12 (cd (some (53)))) 54 (fun _ => 0)) 40 13 (cd (some (54)))) 55 (fun _ => 0)) 40 14 (cd (some (55)))) 56 (fun _ => 0)) 40 15 (cd (some (56)))) 57 (fun _ => 0)) 40 16 (cd (some (57)))) 58 (fun _ => 0)) 40 17 (cd (some (58)))) 59 (fun _ => 0)) 40 18 (cd (some (59)))) 60 (fun _ => 0)) 40 19 (cd (some (60)))) 62 (fun _ => 0)) 40 21 (cd (some (62)))) 63 (fun _ => 0)) 40 22 (cd (some (63)))) 64 (fun _ => 0)) 40 23 (cd (some (64)))) 65 (fun _ => 0)) 40 24 (cd (some (65)))) 66 (fun _ => 0)) 40 25 (cd (some (66)))) 67 (fun _ => 0)) 40 26 (cd (some (67)))) 68 (fun _ => 0)) 40 27 (cd (some (68)))) 69 (fun _ => 0)) 40 28 (cd (some (69)))) 70 (fun _ => 0)) 70 0 (-1)) 70 1 (-1)) 70 2 (-1)) 70 3 (-1)) 40 29 (cd (some (70)))) 71 (fun _ => 0)) 40 30 (cd (some (71)))) 73 (fun _ => 0)) 40 32 (cd (some (73)))) 74 (fun _ => 0)) 40 33 (cd (some (74)))) 75 (fun _ => 0)) 40 34 (cd (some (75)))) 76 (fun _ => 0)) 40 35 (cd (some (76)))) 77 (fun _ => 0)) 77 0 (-1)) 77 1 (-1)) 77 2 (-1)) 40 36 (cd (some (77)))) 79 (fun _ => 0)) 40 38 (cd (some (79)))) 80 (fun _ => 0)) 40 39 (cd (some (80)))) 81 (fun _ => 0)) 40 40 (cd (some (81)))) 83 (fun _ => 0)) 40 42 (cd (some (83)))) 84 (fun _ => 0)) 40 43 (cd (some (84)))) 85 (fun _ => 0)) 40 44 (cd (some (85)))) 86 (fun _ => 0)) 40 45 (cd (some (86)))) 87 (fun _ => 0)) 40 46 (cd (some (87)))) 88 (fun _ => 0)) 40 47 (cd (some (88)))) 90 (fun _ => 0)) 40 49 (cd (some (90)))) 93 (fun _ => 0)) 40 52 (cd (some (93)))) 94 (fun _ => 0)) 40 53 (cd (some (94)))) 96 (fun _ => 0)) 40 55 (cd (some (96)))) 97 (fun _ => 0)) 40 56 (cd (some (97)))) 98 (fun _ => 0)) 40 57 (cd (some (98))))
set_option maxHeartbeats 4000000 in
set_option maxRecDepth 20000 in
theorem i_40 {B : Bs} {n0 : Nat} {V : Vs} {κ : Ks}  (hV : ∀ t : Nat, 41 ≤ t ∧ t < 100 → V t = false) : Ct (XI B n0) mX10_init 2 38 768 [Rf 40] V κ (Ex none (vset (vset (vset (vset (vset (vset (vset (vset (vset (vset (vset (vset (vset (vset (vset (vset (vset (vset (vset (vset (vset (vset (vset (vset (vset (vset (vset (vset (vset (vset (vset (vset (vset (vset (vset (vset (vset (vset V 53) 54) 55) 56) 57) 58) 59) 60) 62) 63) 64) 65) 66) 67) 68) 69) 70) 71) 73) 74) 75) 76) 77) 79) 80) 81) 83) 84) 85) 86) 87) 88) 90) 93) 94) 96) 97) 98) (k_i_40 κ)) := by
  refine Ct.of (L := [some (Rf 40)]) 0 (by decide +kernel) rfl rfl ?_
  refine g_aload_n 1 dX10_init_0 rfl rfl ?_
  refine g_objInit 4 dX10_init_1 oiX10_1 oiI oiC (by decide) (Nat.le_of_ble_eq_true rfl) rfl ?_
  refine g_aload_n 5 dX10_init_4 rfl rfl ?_
  refine g_bipush 7 dX10_init_5 (by decide) rfl ?_
  refine g_putI 10 dX10_init_7 fpX10_7 (fun h => (nomatch h)) ki_40 rfl (by omega) rfl ?_
  refine g_aload_n 11 dX10_init_10 rfl rfl ?_
  refine g_iconst 12 dX10_init_11 (by decide) rfl ?_
  refine g_putI 15 dX10_init_12 fpX10_13 (fun h => (nomatch h)) ki_40 rfl (by omega) rfl ?_
  refine g_aload_n 16 dX10_init_15 rfl rfl ?_
  refine g_bipush 18 dX10_init_16 (by decide) rfl ?_
  refine g_putI 21 dX10_init_18 fpX10_16 (fun h => (nomatch h)) ki_40 rfl (by omega) rfl ?_
  refine g_aload_n 22 dX10_init_21 rfl rfl ?_
  refine g_bipush 24 dX10_init_22 (by decide) rfl ?_
  refine G.eqi (show (10 : Int) = ((10 : Nat) : Int) from rfl) ?_
  refine g_newI 26 53 dX10_init_24 wAI ki_53 (by decide) (fun j => rfl) (hV 53 (by decide)) rfl ?_
  refine g_putR 29 dX10_init_26 fpX10_19 (Or.inr ⟨_, rfl⟩) (fun _ => rfl) ki_40 rfl (fun q hq => by cases hq; omega) rfl ?_
  refine g_aload_n 30 dX10_init_29 rfl rfl ?_
  refine g_bipush 32 dX10_init_30 (by decide) rfl ?_
  refine G.eqi (show (10 : Int) = ((10 : Nat) : Int) from rfl) ?_
  refine g_newI 34 54 dX10_init_32 wAI ki_54 (by decide) (fun j => rfl) ((vset_n (by decide)).trans (hV 54 (by decide))) rfl ?_
  refine g_putR 37 dX10_init_34 fpX10_23 (Or.inr ⟨_, rfl⟩) (fun _ => rfl) ki_40 rfl (fun q hq => by cases hq; omega) rfl ?_
  refine g_aload_n 38 dX10_init_37 rfl rfl ?_
  refine g_bipush 40 dX10_init_38 (by decide) rfl ?_
  refine G.eqi (show (10 : Int) = ((10 : Nat) : Int) from rfl) ?_
  refine g_newI 42 55 dX10_init_40 wAI ki_55 (by decide) (fun j => rfl) ((vset_n (by decide)).trans ((vset_n (by decide)).trans (hV 55 (by decide)))) rfl ?_
  refine g_putR 45 dX10_init_42 fpX10_26 (Or.inr ⟨_, rfl⟩) (fun _ => rfl) ki_40 rfl (fun q hq => by cases hq; omega) rfl ?_
  refine g_aload_n 46 dX10_init_45 rfl rfl ?_
  refine g_bipush 48 dX10_init_46 (by decide) rfl ?_
  refine G.eqi (show (10 : Int) = ((10 : Nat) : Int) from rfl) ?_
  refine g_newZ 50 56 dX10_init_48 wAZ ki_56 (by decide) (fun j => rfl) ((vset_n (by decide)).trans ((vset_n (by decide)).trans ((vset_n (by decide)).trans (hV 56 (by decide))))) rfl ?_
  refine g_putR 53 dX10_init_50 fpX10_29 (Or.inr ⟨_, rfl⟩) (fun _ => rfl) ki_40 rfl (fun q hq => by cases hq; omega) rfl ?_
  refine g_aload_n 54 dX10_init_53 rfl rfl ?_
  refine g_bipush 56 dX10_init_54 (by decide) rfl ?_
  refine G.eqi (show (10 : Int) = ((10 : Nat) : Int) from rfl) ?_
  refine g_newI 58 57 dX10_init_56 wAI ki_57 (by decide) (fun j => rfl) ((vset_n (by decide)).trans ((vset_n (by decide)).trans ((vset_n (by decide)).trans ((vset_n (by decide)).trans (hV 57 (by decide)))))) rfl ?_
  refine g_putR 61 dX10_init_58 fpX10_33 (Or.inr ⟨_, rfl⟩) (fun _ => rfl) ki_40 rfl (fun q hq => by cases hq; omega) rfl ?_
  refine g_aload_n 62 dX10_init_61 rfl rfl ?_
  refine g_bipush 64 dX10_init_62 (by decide) rfl ?_
  refine G.eqi (show (10 : Int) = ((10 : Nat) : Int) from rfl) ?_
  refine g_newI 66 58 dX10_init_64 wAI ki_58 (by decide) (fun j => rfl) ((vset_n (by decide)).trans ((vset_n (by decide)).trans ((vset_n (by decide)).trans ((vset_n (by decide)).trans ((vset_n (by decide)).trans (hV 58 (by decide))))))) rfl ?_
  refine g_putR 69 dX10_init_66 fpX10_36 (Or.inr ⟨_, rfl⟩) (fun _ => rfl) ki_40 rfl (fun q hq => by cases hq; omega) rfl ?_
  refine g_aload_n 70 dX10_init_69 rfl rfl ?_
  refine g_bipush 72 dX10_init_70 (by decide) rfl ?_
  refine G.eqi (show (10 : Int) = ((10 : Nat) : Int) from rfl) ?_
  refine g_newI 74 59 dX10_init_72 wAI ki_59 (by decide) (fun j => rfl) ((vset_n (by decide)).trans ((vset_n (by decide)).trans ((vset_n (by decide)).trans ((vset_n (by decide)).trans ((vset_n (by decide)).trans ((vset_n (by decide)).trans (hV 59 (by decide)))))))) rfl ?_
  refine g_putR 77 dX10_init_74 fpX10_39 (Or.inr ⟨_, rfl⟩) (fun _ => rfl) ki_40 rfl (fun q hq => by cases hq; omega) rfl ?_
  refine g_aload_n 78 dX10_init_77 rfl rfl ?_
  refine g_bipush 80 dX10_init_78 (by decide) rfl ?_
  refine G.eqi (show (10 : Int) = ((10 : Nat) : Int) from rfl) ?_
  refine g_newZ 82 60 dX10_init_80 wAZ ki_60 (by decide) (fun j => rfl) ((vset_n (by decide)).trans ((vset_n (by decide)).trans ((vset_n (by decide)).trans ((vset_n (by decide)).trans ((vset_n (by decide)).trans ((vset_n (by decide)).trans ((vset_n (by decide)).trans (hV 60 (by decide))))))))) rfl ?_
  refine g_putR 85 dX10_init_82 fpX10_42 (Or.inr ⟨_, rfl⟩) (fun _ => rfl) ki_40 rfl (fun q hq => by cases hq; omega) rfl ?_
  refine g_aload_n 86 dX10_init_85 rfl rfl ?_
  refine g_bipush 88 dX10_init_86 (by decide) rfl ?_
  refine G.eqi (show (24 : Int) = ((24 : Nat) : Int) from rfl) ?_
  refine g_newI 90 62 dX10_init_88 wAI ki_62 (by decide) (fun j => rfl) ((vset_n (by decide)).trans ((vset_n (by decide)).trans ((vset_n (by decide)).trans ((vset_n (by decide)).trans ((vset_n (by decide)).trans ((vset_n (by decide)).trans ((vset_n (by decide)).trans ((vset_n (by decide)).trans (hV 62 (by decide)))))))))) rfl ?_
  refine g_putR 93 dX10_init_90 fpX10_45 (Or.inr ⟨_, rfl⟩) (fun _ => rfl) ki_40 rfl (fun q hq => by cases hq; omega) rfl ?_
  refine g_aload_n 94 dX10_init_93 rfl rfl ?_
  refine g_bipush 96 dX10_init_94 (by decide) rfl ?_
  refine G.eqi (show (24 : Int) = ((24 : Nat) : Int) from rfl) ?_
  refine g_newI 98 63 dX10_init_96 wAI ki_63 (by decide) (fun j => rfl) ((vset_n (by decide)).trans ((vset_n (by decide)).trans ((vset_n (by decide)).trans ((vset_n (by decide)).trans ((vset_n (by decide)).trans ((vset_n (by decide)).trans ((vset_n (by decide)).trans ((vset_n (by decide)).trans ((vset_n (by decide)).trans (hV 63 (by decide))))))))))) rfl ?_
  refine g_putR 101 dX10_init_98 fpX10_48 (Or.inr ⟨_, rfl⟩) (fun _ => rfl) ki_40 rfl (fun q hq => by cases hq; omega) rfl ?_
  refine g_aload_n 102 dX10_init_101 rfl rfl ?_
  refine g_bipush 104 dX10_init_102 (by decide) rfl ?_
  refine G.eqi (show (24 : Int) = ((24 : Nat) : Int) from rfl) ?_
  refine g_newI 106 64 dX10_init_104 wAI ki_64 (by decide) (fun j => rfl) ((vset_n (by decide)).trans ((vset_n (by decide)).trans ((vset_n (by decide)).trans ((vset_n (by decide)).trans ((vset_n (by decide)).trans ((vset_n (by decide)).trans ((vset_n (by decide)).trans ((vset_n (by decide)).trans ((vset_n (by decide)).trans ((vset_n (by decide)).trans (hV 64 (by decide)))))))))))) rfl ?_
  refine g_putR 109 dX10_init_106 fpX10_51 (Or.inr ⟨_, rfl⟩) (fun _ => rfl) ki_40 rfl (fun q hq => by cases hq; omega) rfl ?_
  refine g_aload_n 110 dX10_init_109 rfl rfl ?_
  refine g_bipush 112 dX10_init_110 (by decide) rfl ?_
  refine G.eqi (show (24 : Int) = ((24 : Nat) : Int) from rfl) ?_
  refine g_newI 114 65 dX10_init_112 wAI ki_65 (by decide) (fun j => rfl) ((vset_n (by decide)).trans ((vset_n (by decide)).trans ((vset_n (by decide)).trans ((vset_n (by decide)).trans ((vset_n (by decide)).trans ((vset_n (by decide)).trans ((vset_n (by decide)).trans ((vset_n (by decide)).trans ((vset_n (by decide)).trans ((vset_n (by decide)).trans ((vset_n (by decide)).trans (hV 65 (by decide))))))))))))) rfl ?_
  refine g_putR 117 dX10_init_114 fpX10_54 (Or.inr ⟨_, rfl⟩) (fun _ => rfl) ki_40 rfl (fun q hq => by cases hq; omega) rfl ?_
  refine g_aload_n 118 dX10_init_117 rfl rfl ?_
  refine g_bipush 120 dX10_init_118 (by decide) rfl ?_
  refine G.eqi (show (24 : Int) = ((24 : Nat) : Int) from rfl) ?_
  refine g_newZ 122 66 dX10_init_120 wAZ ki_66 (by decide) (fun j => rfl) ((vset_n (by decide)).trans ((vset_n (by decide)).trans ((vset_n (by decide)).trans ((vset_n (by decide)).trans ((vset_n (by decide)).trans ((vset_n (by decide)).trans ((vset_n (by decide)).trans ((vset_n (by decide)).trans ((vset_n (by decide)).trans ((vset_n (by decide)).trans ((vset_n (by decide)).trans ((vset_n (by decide)).trans (hV 66 (by decide)))))))))))))) rfl ?_
  refine g_putR 125 dX10_init_122 fpX10_57 (Or.inr ⟨_, rfl⟩) (fun _ => rfl) ki_40 rfl (fun q hq => by cases hq; omega) rfl ?_
  refine g_aload_n 126 dX10_init_125 rfl rfl ?_
  refine g_bipush 128 dX10_init_126 (by decide) rfl ?_
  refine G.eqi (show (24 : Int) = ((24 : Nat) : Int) from rfl) ?_
  refine g_newI 130 67 dX10_init_128 wAI ki_67 (by decide) (fun j => rfl) ((vset_n (by decide)).trans ((vset_n (by decide)).trans ((vset_n (by decide)).trans ((vset_n (by decide)).trans ((vset_n (by decide)).trans ((vset_n (by decide)).trans ((vset_n (by decide)).trans ((vset_n (by decide)).trans ((vset_n (by decide)).trans ((vset_n (by decide)).trans ((vset_n (by decide)).trans ((vset_n (by decide)).trans ((vset_n (by decide)).trans (hV 67 (by decide))))))))))))))) rfl ?_
  refine g_putR 133 dX10_init_130 fpX10_60 (Or.inr ⟨_, rfl⟩) (fun _ => rfl) ki_40 rfl (fun q hq => by cases hq; omega) rfl ?_
  refine g_aload_n 134 dX10_init_133 rfl rfl ?_
  refine g_bipush 136 dX10_init_134 (by decide) rfl ?_
  refine G.eqi (show (24 : Int) = ((24 : Nat) : Int) from rfl) ?_
  refine g_newI 138 68 dX10_init_136 wAI ki_68 (by decide) (fun j => rfl) ((vset_n (by decide)).trans ((vset_n (by decide)).trans ((vset_n (by decide)).trans ((vset_n (by decide)).trans ((vset_n (by decide)).trans ((vset_n (by decide)).trans ((vset_n (by decide)).trans ((vset_n (by decide)).trans ((vset_n (by decide)).trans ((vset_n (by decide)).trans ((vset_n (by decide)).trans ((vset_n (by decide)).trans ((vset_n (by decide)).trans ((vset_n (by decide)).trans (hV 68 (by decide)))))))))))))))) rfl ?_
  refine g_putR 141 dX10_init_138 fpX10_63 (Or.inr ⟨_, rfl⟩) (fun _ => rfl) ki_40 rfl (fun q hq => by cases hq; omega) rfl ?_
  refine g_aload_n 142 dX10_init_141 rfl rfl ?_
  refine g_bipush 144 dX10_init_142 (by decide) rfl ?_
  refine G.eqi (show (24 : Int) = ((24 : Nat) : Int) from rfl) ?_
  refine g_newI 146 69 dX10_init_144 wAI ki_69 (by decide) (fun j => rfl) ((vset_n (by decide)).trans ((vset_n (by decide)).trans ((vset_n (by decide)).trans ((vset_n (by decide)).trans ((vset_n (by decide)).trans ((vset_n (by decide)).trans ((vset_n (by decide)).trans ((vset_n (by decide)).trans ((vset_n (by decide)).trans ((vset_n (by decide)).trans ((vset_n (by decide)).trans ((vset_n (by decide)).trans ((vset_n (by decide)).trans ((vset_n (by decide)).trans ((vset_n (by decide)).trans (hV 69 (by decide))))))))))))))))) rfl ?_
  refine g_putR 149 dX10_init_146 fpX10_66 (Or.inr ⟨_, rfl⟩) (fun _ => rfl) ki_40 rfl (fun q hq => by cases hq; omega) rfl ?_
  refine g_aload_n 150 dX10_init_149 rfl rfl ?_
  refine g_iconst 151 dX10_init_150 (by decide) rfl ?_
  refine G.eqi (show (4 : Int) = ((4 : Nat) : Int) from rfl) ?_
  refine g_newI 153 70 dX10_init_151 wAI ki_70 (by decide) (fun j => rfl) ((vset_n (by decide)).trans ((vset_n (by decide)).trans ((vset_n (by decide)).trans ((vset_n (by decide)).trans ((vset_n (by decide)).trans ((vset_n (by decide)).trans ((vset_n (by decide)).trans ((vset_n (by decide)).trans ((vset_n (by decide)).trans ((vset_n (by decide)).trans ((vset_n (by decide)).trans ((vset_n (by decide)).trans ((vset_n (by decide)).trans ((vset_n (by decide)).trans ((vset_n (by decide)).trans ((vset_n (by decide)).trans (hV 70 (by decide)))))))))))))))))) rfl ?_
  refine g_dup 154 dX10_init_153 rfl ?_
  refine g_iconst 155 dX10_init_154 (by decide) rfl ?_
  refine g_iconst 156 dX10_init_155 (by decide) rfl ?_
  refine r_iast 157 0 dX10_init_156 ki_70 (by decide) li_70 (by omega) (rfl) (by omega) rfl ?_
  refine g_dup 158 dX10_init_157 rfl ?_
  refine g_iconst 159 dX10_init_158 (by decide) rfl ?_
  refine g_iconst 160 dX10_init_159 (by decide) rfl ?_
  refine r_iast 161 1 dX10_init_160 ki_70 (by decide) li_70 (by omega) (rfl) (by omega) rfl ?_
  refine g_dup 162 dX10_init_161 rfl ?_
  refine g_iconst 163 dX10_init_162 (by decide) rfl ?_
  refine g_iconst 164 dX10_init_163 (by decide) rfl ?_
  refine r_iast 165 2 dX10_init_164 ki_70 (by decide) li_70 (by omega) (rfl) (by omega) rfl ?_
  refine g_dup 166 dX10_init_165 rfl ?_
  refine g_iconst 167 dX10_init_166 (by decide) rfl ?_
  refine g_iconst 168 dX10_init_167 (by decide) rfl ?_
  refine r_iast 169 3 dX10_init_168 ki_70 (by decide) li_70 (by omega) (rfl) (by omega) rfl ?_
  refine g_putR 172 dX10_init_169 fpX10_69 (Or.inr ⟨_, rfl⟩) (fun _ => rfl) ki_40 rfl (fun q hq => by cases hq; omega) rfl ?_
  refine g_aload_n 173 dX10_init_172 rfl rfl ?_
  refine g_bipush 175 dX10_init_173 (by decide) rfl ?_
  refine G.eqi (show (96 : Int) = ((96 : Nat) : Int) from rfl) ?_
  refine g_newI 177 71 dX10_init_175 wAI ki_71 (by decide) (fun j => rfl) ((vset_n (by decide)).trans ((vset_n (by decide)).trans ((vset_n (by decide)).trans ((vset_n (by decide)).trans ((vset_n (by decide)).trans ((vset_n (by decide)).trans ((vset_n (by decide)).trans ((vset_n (by decide)).trans ((vset_n (by decide)).trans ((vset_n (by decide)).trans ((vset_n (by decide)).trans ((vset_n (by decide)).trans ((vset_n (by decide)).trans ((vset_n (by decide)).trans ((vset_n (by decide)).trans ((vset_n (by decide)).trans ((vset_n (by decide)).trans (hV 71 (by decide))))))))))))))))))) rfl ?_
  refine g_putR 180 dX10_init_177 fpX10_72 (Or.inr ⟨_, rfl⟩) (fun _ => rfl) ki_40 rfl (fun q hq => by cases hq; omega) rfl ?_
  refine g_aload_n 181 dX10_init_180 rfl rfl ?_
  refine g_bipush 183 dX10_init_181 (by decide) rfl ?_
  refine G.eqi (show (30 : Int) = ((30 : Nat) : Int) from rfl) ?_
  refine g_newI 185 73 dX10_init_183 wAI ki_73 (by decide) (fun j => rfl) ((vset_n (by decide)).trans ((vset_n (by decide)).trans ((vset_n (by decide)).trans ((vset_n (by decide)).trans ((vset_n (by decide)).trans ((vset_n (by decide)).trans ((vset_n (by decide)).trans ((vset_n (by decide)).trans ((vset_n (by decide)).trans ((vset_n (by decide)).trans ((vset_n (by decide)).trans ((vset_n (by decide)).trans ((vset_n (by decide)).trans ((vset_n (by decide)).trans ((vset_n (by decide)).trans ((vset_n (by decide)).trans ((vset_n (by decide)).trans ((vset_n (by decide)).trans (hV 73 (by decide)))))))))))))))))))) rfl ?_
  refine g_putR 188 dX10_init_185 fpX10_75 (Or.inr ⟨_, rfl⟩) (fun _ => rfl) ki_40 rfl (fun q hq => by cases hq; omega) rfl ?_
  refine g_aload_n 189 dX10_init_188 rfl rfl ?_
  refine g_bipush 191 dX10_init_189 (by decide) rfl ?_
  refine G.eqi (show (30 : Int) = ((30 : Nat) : Int) from rfl) ?_
  refine g_newI 193 74 dX10_init_191 wAI ki_74 (by decide) (fun j => rfl) ((vset_n (by decide)).trans ((vset_n (by decide)).trans ((vset_n (by decide)).trans ((vset_n (by decide)).trans ((vset_n (by decide)).trans ((vset_n (by decide)).trans ((vset_n (by decide)).trans ((vset_n (by decide)).trans ((vset_n (by decide)).trans ((vset_n (by decide)).trans ((vset_n (by decide)).trans ((vset_n (by decide)).trans ((vset_n (by decide)).trans ((vset_n (by decide)).trans ((vset_n (by decide)).trans ((vset_n (by decide)).trans ((vset_n (by decide)).trans ((vset_n (by decide)).trans ((vset_n (by decide)).trans (hV 74 (by decide))))))))))))))))))))) rfl ?_
  refine g_putR 196 dX10_init_193 fpX10_78 (Or.inr ⟨_, rfl⟩) (fun _ => rfl) ki_40 rfl (fun q hq => by cases hq; omega) rfl ?_
  refine g_aload_n 197 dX10_init_196 rfl rfl ?_
  refine g_bipush 199 dX10_init_197 (by decide) rfl ?_
  refine G.eqi (show (30 : Int) = ((30 : Nat) : Int) from rfl) ?_
  refine g_newI 201 75 dX10_init_199 wAI ki_75 (by decide) (fun j => rfl) ((vset_n (by decide)).trans ((vset_n (by decide)).trans ((vset_n (by decide)).trans ((vset_n (by decide)).trans ((vset_n (by decide)).trans ((vset_n (by decide)).trans ((vset_n (by decide)).trans ((vset_n (by decide)).trans ((vset_n (by decide)).trans ((vset_n (by decide)).trans ((vset_n (by decide)).trans ((vset_n (by decide)).trans ((vset_n (by decide)).trans ((vset_n (by decide)).trans ((vset_n (by decide)).trans ((vset_n (by decide)).trans ((vset_n (by decide)).trans ((vset_n (by decide)).trans ((vset_n (by decide)).trans ((vset_n (by decide)).trans (hV 75 (by decide)))))))))))))))))))))) rfl ?_
  refine g_putR 204 dX10_init_201 fpX10_81 (Or.inr ⟨_, rfl⟩) (fun _ => rfl) ki_40 rfl (fun q hq => by cases hq; omega) rfl ?_
  refine g_aload_n 205 dX10_init_204 rfl rfl ?_
  refine g_bipush 207 dX10_init_205 (by decide) rfl ?_
  refine G.eqi (show (30 : Int) = ((30 : Nat) : Int) from rfl) ?_
  refine g_newI 209 76 dX10_init_207 wAI ki_76 (by decide) (fun j => rfl) ((vset_n (by decide)).trans ((vset_n (by decide)).trans ((vset_n (by decide)).trans ((vset_n (by decide)).trans ((vset_n (by decide)).trans ((vset_n (by decide)).trans ((vset_n (by decide)).trans ((vset_n (by decide)).trans ((vset_n (by decide)).trans ((vset_n (by decide)).trans ((vset_n (by decide)).trans ((vset_n (by decide)).trans ((vset_n (by decide)).trans ((vset_n (by decide)).trans ((vset_n (by decide)).trans ((vset_n (by decide)).trans ((vset_n (by decide)).trans ((vset_n (by decide)).trans ((vset_n (by decide)).trans ((vset_n (by decide)).trans ((vset_n (by decide)).trans (hV 76 (by decide))))))))))))))))))))))) rfl ?_
  refine g_putR 212 dX10_init_209 fpX10_84 (Or.inr ⟨_, rfl⟩) (fun _ => rfl) ki_40 rfl (fun q hq => by cases hq; omega) rfl ?_
  refine g_aload_n 213 dX10_init_212 rfl rfl ?_
  refine g_iconst 214 dX10_init_213 (by decide) rfl ?_
  refine G.eqi (show (3 : Int) = ((3 : Nat) : Int) from rfl) ?_
  refine g_newI 216 77 dX10_init_214 wAI ki_77 (by decide) (fun j => rfl) ((vset_n (by decide)).trans ((vset_n (by decide)).trans ((vset_n (by decide)).trans ((vset_n (by decide)).trans ((vset_n (by decide)).trans ((vset_n (by decide)).trans ((vset_n (by decide)).trans ((vset_n (by decide)).trans ((vset_n (by decide)).trans ((vset_n (by decide)).trans ((vset_n (by decide)).trans ((vset_n (by decide)).trans ((vset_n (by decide)).trans ((vset_n (by decide)).trans ((vset_n (by decide)).trans ((vset_n (by decide)).trans ((vset_n (by decide)).trans ((vset_n (by decide)).trans ((vset_n (by decide)).trans ((vset_n (by decide)).trans ((vset_n (by decide)).trans ((vset_n (by decide)).trans (hV 77 (by decide)))))))))))))))))))))))) rfl ?_
  refine g_dup 217 dX10_init_216 rfl ?_
  refine g_iconst 218 dX10_init_217 (by decide) rfl ?_
  refine g_iconst 219 dX10_init_218 (by decide) rfl ?_
  refine r_iast 220 0 dX10_init_219 ki_77 (by decide) li_77 (by omega) (rfl) (by omega) rfl ?_
  refine g_dup 221 dX10_init_220 rfl ?_
  refine g_iconst 222 dX10_init_221 (by decide) rfl ?_
  refine g_iconst 223 dX10_init_222 (by decide) rfl ?_
  refine r_iast 224 1 dX10_init_223 ki_77 (by decide) li_77 (by omega) (rfl) (by omega) rfl ?_
  refine g_dup 225 dX10_init_224 rfl ?_
  refine g_iconst 226 dX10_init_225 (by decide) rfl ?_
  refine g_iconst 227 dX10_init_226 (by decide) rfl ?_
  refine r_iast 228 2 dX10_init_227 ki_77 (by decide) li_77 (by omega) (rfl) (by omega) rfl ?_
  refine g_putR 231 dX10_init_228 fpX10_87 (Or.inr ⟨_, rfl⟩) (fun _ => rfl) ki_40 rfl (fun q hq => by cases hq; omega) rfl ?_
  refine g_aload_n 232 dX10_init_231 rfl rfl ?_
  refine g_bipush 234 dX10_init_232 (by decide) rfl ?_
  refine G.eqi (show (40 : Int) = ((40 : Nat) : Int) from rfl) ?_
  refine g_newI 236 79 dX10_init_234 wAI ki_79 (by decide) (fun j => rfl) ((vset_n (by decide)).trans ((vset_n (by decide)).trans ((vset_n (by decide)).trans ((vset_n (by decide)).trans ((vset_n (by decide)).trans ((vset_n (by decide)).trans ((vset_n (by decide)).trans ((vset_n (by decide)).trans ((vset_n (by decide)).trans ((vset_n (by decide)).trans ((vset_n (by decide)).trans ((vset_n (by decide)).trans ((vset_n (by decide)).trans ((vset_n (by decide)).trans ((vset_n (by decide)).trans ((vset_n (by decide)).trans ((vset_n (by decide)).trans ((vset_n (by decide)).trans ((vset_n (by decide)).trans ((vset_n (by decide)).trans ((vset_n (by decide)).trans ((vset_n (by decide)).trans ((vset_n (by decide)).trans (hV 79 (by decide))))))))))))))))))))))))) rfl ?_
  refine g_putR 239 dX10_init_236 fpX10_90 (Or.inr ⟨_, rfl⟩) (fun _ => rfl) ki_40 rfl (fun q hq => by cases hq; omega) rfl ?_
  refine g_aload_n 240 dX10_init_239 rfl rfl ?_
  refine g_bipush 242 dX10_init_240 (by decide) rfl ?_
  refine G.eqi (show (40 : Int) = ((40 : Nat) : Int) from rfl) ?_
  refine g_newI 244 80 dX10_init_242 wAI ki_80 (by decide) (fun j => rfl) ((vset_n (by decide)).trans ((vset_n (by decide)).trans ((vset_n (by decide)).trans ((vset_n (by decide)).trans ((vset_n (by decide)).trans ((vset_n (by decide)).trans ((vset_n (by decide)).trans ((vset_n (by decide)).trans ((vset_n (by decide)).trans ((vset_n (by decide)).trans ((vset_n (by decide)).trans ((vset_n (by decide)).trans ((vset_n (by decide)).trans ((vset_n (by decide)).trans ((vset_n (by decide)).trans ((vset_n (by decide)).trans ((vset_n (by decide)).trans ((vset_n (by decide)).trans ((vset_n (by decide)).trans ((vset_n (by decide)).trans ((vset_n (by decide)).trans ((vset_n (by decide)).trans ((vset_n (by decide)).trans ((vset_n (by decide)).trans (hV 80 (by decide)))))))))))))))))))))))))) rfl ?_
  refine g_putR 247 dX10_init_244 fpX10_93 (Or.inr ⟨_, rfl⟩) (fun _ => rfl) ki_40 rfl (fun q hq => by cases hq; omega) rfl ?_
  refine g_aload_n 248 dX10_init_247 rfl rfl ?_
  refine g_bipush 250 dX10_init_248 (by decide) rfl ?_
  refine G.eqi (show (40 : Int) = ((40 : Nat) : Int) from rfl) ?_
  refine g_newI 252 81 dX10_init_250 wAI ki_81 (by decide) (fun j => rfl) ((vset_n (by decide)).trans ((vset_n (by decide)).trans ((vset_n (by decide)).trans ((vset_n (by decide)).trans ((vset_n (by decide)).trans ((vset_n (by decide)).trans ((vset_n (by decide)).trans ((vset_n (by decide)).trans ((vset_n (by decide)).trans ((vset_n (by decide)).trans ((vset_n (by decide)).trans ((vset_n (by decide)).trans ((vset_n (by decide)).trans ((vset_n (by decide)).trans ((vset_n (by decide)).trans ((vset_n (by decide)).trans ((vset_n (by decide)).trans ((vset_n (by decide)).trans ((vset_n (by decide)).trans ((vset_n (by decide)).trans ((vset_n (by decide)).trans ((vset_n (by decide)).trans ((vset_n (by decide)).trans ((vset_n (by decide)).trans ((vset_n (by decide)).trans (hV 81 (by decide))))))))))))))))))))))))))) rfl ?_
  refine g_putR 255 dX10_init_252 fpX10_96 (Or.inr ⟨_, rfl⟩) (fun _ => rfl) ki_40 rfl (fun q hq => by cases hq; omega) rfl ?_
  refine g_aload_n 256 dX10_init_255 rfl rfl ?_
  refine g_bipush 258 dX10_init_256 (by decide) rfl ?_
  refine G.eqi (show (20 : Int) = ((20 : Nat) : Int) from rfl) ?_
  refine g_newI 260 83 dX10_init_258 wAI ki_83 (by decide) (fun j => rfl) ((vset_n (by decide)).trans ((vset_n (by decide)).trans ((vset_n (by decide)).trans ((vset_n (by decide)).trans ((vset_n (by decide)).trans ((vset_n (by decide)).trans ((vset_n (by decide)).trans ((vset_n (by decide)).trans ((vset_n (by decide)).trans ((vset_n (by decide)).trans ((vset_n (by decide)).trans ((vset_n (by decide)).trans ((vset_n (by decide)).trans ((vset_n (by decide)).trans ((vset_n (by decide)).trans ((vset_n (by decide)).trans ((vset_n (by decide)).trans ((vset_n (by decide)).trans ((vset_n (by decide)).trans ((vset_n (by decide)).trans ((vset_n (by decide)).trans ((vset_n (by decide)).trans ((vset_n (by decide)).trans ((vset_n (by decide)).trans ((vset_n (by decide)).trans ((vset_n (by decide)).trans (hV 83 (by decide)))))))))))))))))))))))))))) rfl ?_
  refine g_putR 263 dX10_init_260 fpX10_99 (Or.inr ⟨_, rfl⟩) (fun _ => rfl) ki_40 rfl (fun q hq => by cases hq; omega) rfl ?_
  refine g_aload_n 264 dX10_init_263 rfl rfl ?_
  refine g_bipush 266 dX10_init_264 (by decide) rfl ?_
  refine G.eqi (show (20 : Int) = ((20 : Nat) : Int) from rfl) ?_
  refine g_newI 268 84 dX10_init_266 wAI ki_84 (by decide) (fun j => rfl) ((vset_n (by decide)).trans ((vset_n (by decide)).trans ((vset_n (by decide)).trans ((vset_n (by decide)).trans ((vset_n (by decide)).trans ((vset_n (by decide)).trans ((vset_n (by decide)).trans ((vset_n (by decide)).trans ((vset_n (by decide)).trans ((vset_n (by decide)).trans ((vset_n (by decide)).trans ((vset_n (by decide)).trans ((vset_n (by decide)).trans ((vset_n (by decide)).trans ((vset_n (by decide)).trans ((vset_n (by decide)).trans ((vset_n (by decide)).trans ((vset_n (by decide)).trans ((vset_n (by decide)).trans ((vset_n (by decide)).trans ((vset_n (by decide)).trans ((vset_n (by decide)).trans ((vset_n (by decide)).trans ((vset_n (by decide)).trans ((vset_n (by decide)).trans ((vset_n (by decide)).trans ((vset_n (by decide)).trans (hV 84 (by decide))))))))))))))))))))))))))))) rfl ?_
  refine g_putR 271 dX10_init_268 fpX10_102 (Or.inr ⟨_, rfl⟩) (fun _ => rfl) ki_40 rfl (fun q hq => by cases hq; omega) rfl ?_
  refine g_aload_n 272 dX10_init_271 rfl rfl ?_
  refine g_bipush 274 dX10_init_272 (by decide) rfl ?_
  refine G.eqi (show (20 : Int) = ((20 : Nat) : Int) from rfl) ?_
  refine g_newI 276 85 dX10_init_274 wAI ki_85 (by decide) (fun j => rfl) ((vset_n (by decide)).trans ((vset_n (by decide)).trans ((vset_n (by decide)).trans ((vset_n (by decide)).trans ((vset_n (by decide)).trans ((vset_n (by decide)).trans ((vset_n (by decide)).trans ((vset_n (by decide)).trans ((vset_n (by decide)).trans ((vset_n (by decide)).trans ((vset_n (by decide)).trans ((vset_n (by decide)).trans ((vset_n (by decide)).trans ((vset_n (by decide)).trans ((vset_n (by decide)).trans ((vset_n (by decide)).trans ((vset_n (by decide)).trans ((vset_n (by decide)).trans ((vset_n (by decide)).trans ((vset_n (by decide)).trans ((vset_n (by decide)).trans ((vset_n (by decide)).trans ((vset_n (by decide)).trans ((vset_n (by decide)).trans ((vset_n (by decide)).trans ((vset_n (by decide)).trans ((vset_n (by decide)).trans ((vset_n (by decide)).trans (hV 85 (by decide)))))))))))))))))))))))))))))) rfl ?_
  refine g_putR 279 dX10_init_276 fpX10_105 (Or.inr ⟨_, rfl⟩) (fun _ => rfl) ki_40 rfl (fun q hq => by cases hq; omega) rfl ?_
  refine g_aload_n 280 dX10_init_279 rfl rfl ?_
  refine g_bipush 282 dX10_init_280 (by decide) rfl ?_
  refine G.eqi (show (20 : Int) = ((20 : Nat) : Int) from rfl) ?_
  refine g_newI 284 86 dX10_init_282 wAI ki_86 (by decide) (fun j => rfl) ((vset_n (by decide)).trans ((vset_n (by decide)).trans ((vset_n (by decide)).trans ((vset_n (by decide)).trans ((vset_n (by decide)).trans ((vset_n (by decide)).trans ((vset_n (by decide)).trans ((vset_n (by decide)).trans ((vset_n (by decide)).trans ((vset_n (by decide)).trans ((vset_n (by decide)).trans ((vset_n (by decide)).trans ((vset_n (by decide)).trans ((vset_n (by decide)).trans ((vset_n (by decide)).trans ((vset_n (by decide)).trans ((vset_n (by decide)).trans ((vset_n (by decide)).trans ((vset_n (by decide)).trans ((vset_n (by decide)).trans ((vset_n (by decide)).trans ((vset_n (by decide)).trans ((vset_n (by decide)).trans ((vset_n (by decide)).trans ((vset_n (by decide)).trans ((vset_n (by decide)).trans ((vset_n (by decide)).trans ((vset_n (by decide)).trans ((vset_n (by decide)).trans (hV 86 (by decide))))))))))))))))))))))))))))))) rfl ?_
  refine g_putR 287 dX10_init_284 fpX10_108 (Or.inr ⟨_, rfl⟩) (fun _ => rfl) ki_40 rfl (fun q hq => by cases hq; omega) rfl ?_
  refine g_aload_n 288 dX10_init_287 rfl rfl ?_
  refine g_bipush 290 dX10_init_288 (by decide) rfl ?_
  refine G.eqi (show (8 : Int) = ((8 : Nat) : Int) from rfl) ?_
  refine g_newI 292 87 dX10_init_290 wAI ki_87 (by decide) (fun j => rfl) ((vset_n (by decide)).trans ((vset_n (by decide)).trans ((vset_n (by decide)).trans ((vset_n (by decide)).trans ((vset_n (by decide)).trans ((vset_n (by decide)).trans ((vset_n (by decide)).trans ((vset_n (by decide)).trans ((vset_n (by decide)).trans ((vset_n (by decide)).trans ((vset_n (by decide)).trans ((vset_n (by decide)).trans ((vset_n (by decide)).trans ((vset_n (by decide)).trans ((vset_n (by decide)).trans ((vset_n (by decide)).trans ((vset_n (by decide)).trans ((vset_n (by decide)).trans ((vset_n (by decide)).trans ((vset_n (by decide)).trans ((vset_n (by decide)).trans ((vset_n (by decide)).trans ((vset_n (by decide)).trans ((vset_n (by decide)).trans ((vset_n (by decide)).trans ((vset_n (by decide)).trans ((vset_n (by decide)).trans ((vset_n (by decide)).trans ((vset_n (by decide)).trans ((vset_n (by decide)).trans (hV 87 (by decide)))))))))))))))))))))))))))))))) rfl ?_
  refine g_putR 295 dX10_init_292 fpX10_111 (Or.inr ⟨_, rfl⟩) (fun _ => rfl) ki_40 rfl (fun q hq => by cases hq; omega) rfl ?_
  refine g_aload_n 296 dX10_init_295 rfl rfl ?_
  refine g_bipush 298 dX10_init_296 (by decide) rfl ?_
  refine G.eqi (show (24 : Int) = ((24 : Nat) : Int) from rfl) ?_
  refine g_newI 300 88 dX10_init_298 wAI ki_88 (by decide) (fun j => rfl) ((vset_n (by decide)).trans ((vset_n (by decide)).trans ((vset_n (by decide)).trans ((vset_n (by decide)).trans ((vset_n (by decide)).trans ((vset_n (by decide)).trans ((vset_n (by decide)).trans ((vset_n (by decide)).trans ((vset_n (by decide)).trans ((vset_n (by decide)).trans ((vset_n (by decide)).trans ((vset_n (by decide)).trans ((vset_n (by decide)).trans ((vset_n (by decide)).trans ((vset_n (by decide)).trans ((vset_n (by decide)).trans ((vset_n (by decide)).trans ((vset_n (by decide)).trans ((vset_n (by decide)).trans ((vset_n (by decide)).trans ((vset_n (by decide)).trans ((vset_n (by decide)).trans ((vset_n (by decide)).trans ((vset_n (by decide)).trans ((vset_n (by decide)).trans ((vset_n (by decide)).trans ((vset_n (by decide)).trans ((vset_n (by decide)).trans ((vset_n (by decide)).trans ((vset_n (by decide)).trans ((vset_n (by decide)).trans (hV 88 (by decide))))))))))))))))))))))))))))))))) rfl ?_
  refine g_putR 303 dX10_init_300 fpX10_114 (Or.inr ⟨_, rfl⟩) (fun _ => rfl) ki_40 rfl (fun q hq => by cases hq; omega) rfl ?_
  refine g_aload_n 304 dX10_init_303 rfl rfl ?_
  refine g_bipush 306 dX10_init_304 (by decide) rfl ?_
  refine G.eqi (show (10 : Int) = ((10 : Nat) : Int) from rfl) ?_
  refine g_newI 308 90 dX10_init_306 wAI ki_90 (by decide) (fun j => rfl) ((vset_n (by decide)).trans ((vset_n (by decide)).trans ((vset_n (by decide)).trans ((vset_n (by decide)).trans ((vset_n (by decide)).trans ((vset_n (by decide)).trans ((vset_n (by decide)).trans ((vset_n (by decide)).trans ((vset_n (by decide)).trans ((vset_n (by decide)).trans ((vset_n (by decide)).trans ((vset_n (by decide)).trans ((vset_n (by decide)).trans ((vset_n (by decide)).trans ((vset_n (by decide)).trans ((vset_n (by decide)).trans ((vset_n (by decide)).trans ((vset_n (by decide)).trans ((vset_n (by decide)).trans ((vset_n (by decide)).trans ((vset_n (by decide)).trans ((vset_n (by decide)).trans ((vset_n (by decide)).trans ((vset_n (by decide)).trans ((vset_n (by decide)).trans ((vset_n (by decide)).trans ((vset_n (by decide)).trans ((vset_n (by decide)).trans ((vset_n (by decide)).trans ((vset_n (by decide)).trans ((vset_n (by decide)).trans ((vset_n (by decide)).trans (hV 90 (by decide)))))))))))))))))))))))))))))))))) rfl ?_
  refine g_putR 311 dX10_init_308 fpX10_117 (Or.inr ⟨_, rfl⟩) (fun _ => rfl) ki_40 rfl (fun q hq => by cases hq; omega) rfl ?_
  refine g_aload_n 312 dX10_init_311 rfl rfl ?_
  refine g_bipush 314 dX10_init_312 (by decide) rfl ?_
  refine G.eqi (show (6 : Int) = ((6 : Nat) : Int) from rfl) ?_
  refine g_newI 316 93 dX10_init_314 wAI ki_93 (by decide) (fun j => rfl) ((vset_n (by decide)).trans ((vset_n (by decide)).trans ((vset_n (by decide)).trans ((vset_n (by decide)).trans ((vset_n (by decide)).trans ((vset_n (by decide)).trans ((vset_n (by decide)).trans ((vset_n (by decide)).trans ((vset_n (by decide)).trans ((vset_n (by decide)).trans ((vset_n (by decide)).trans ((vset_n (by decide)).trans ((vset_n (by decide)).trans ((vset_n (by decide)).trans ((vset_n (by decide)).trans ((vset_n (by decide)).trans ((vset_n (by decide)).trans ((vset_n (by decide)).trans ((vset_n (by decide)).trans ((vset_n (by decide)).trans ((vset_n (by decide)).trans ((vset_n (by decide)).trans ((vset_n (by decide)).trans ((vset_n (by decide)).trans ((vset_n (by decide)).trans ((vset_n (by decide)).trans ((vset_n (by decide)).trans ((vset_n (by decide)).trans ((vset_n (by decide)).trans ((vset_n (by decide)).trans ((vset_n (by decide)).trans ((vset_n (by decide)).trans ((vset_n (by decide)).trans (hV 93 (by decide))))))))))))))))))))))))))))))))))) rfl ?_
  refine g_putR 319 dX10_init_316 fpX10_120 (Or.inr ⟨_, rfl⟩) (fun _ => rfl) ki_40 rfl (fun q hq => by cases hq; omega) rfl ?_
  refine g_aload_n 320 dX10_init_319 rfl rfl ?_
  refine g_bipush 322 dX10_init_320 (by decide) rfl ?_
  refine G.eqi (show (6 : Int) = ((6 : Nat) : Int) from rfl) ?_
  refine g_newI 324 94 dX10_init_322 wAI ki_94 (by decide) (fun j => rfl) ((vset_n (by decide)).trans ((vset_n (by decide)).trans ((vset_n (by decide)).trans ((vset_n (by decide)).trans ((vset_n (by decide)).trans ((vset_n (by decide)).trans ((vset_n (by decide)).trans ((vset_n (by decide)).trans ((vset_n (by decide)).trans ((vset_n (by decide)).trans ((vset_n (by decide)).trans ((vset_n (by decide)).trans ((vset_n (by decide)).trans ((vset_n (by decide)).trans ((vset_n (by decide)).trans ((vset_n (by decide)).trans ((vset_n (by decide)).trans ((vset_n (by decide)).trans ((vset_n (by decide)).trans ((vset_n (by decide)).trans ((vset_n (by decide)).trans ((vset_n (by decide)).trans ((vset_n (by decide)).trans ((vset_n (by decide)).trans ((vset_n (by decide)).trans ((vset_n (by decide)).trans ((vset_n (by decide)).trans ((vset_n (by decide)).trans ((vset_n (by decide)).trans ((vset_n (by decide)).trans ((vset_n (by decide)).trans ((vset_n (by decide)).trans ((vset_n (by decide)).trans ((vset_n (by decide)).trans (hV 94 (by decide)))))))))))))))))))))))))))))))))))) rfl ?_
  refine g_putR 327 dX10_init_324 fpX10_123 (Or.inr ⟨_, rfl⟩) (fun _ => rfl) ki_40 rfl (fun q hq => by cases hq; omega) rfl ?_
  refine g_aload_n 328 dX10_init_327 rfl rfl ?_
  refine g_bipush 330 dX10_init_328 (by decide) rfl ?_
  refine G.eqi (show (6 : Int) = ((6 : Nat) : Int) from rfl) ?_
  refine g_newI 332 96 dX10_init_330 wAI ki_96 (by decide) (fun j => rfl) ((vset_n (by decide)).trans ((vset_n (by decide)).trans ((vset_n (by decide)).trans ((vset_n (by decide)).trans ((vset_n (by decide)).trans ((vset_n (by decide)).trans ((vset_n (by decide)).trans ((vset_n (by decide)).trans ((vset_n (by decide)).trans ((vset_n (by decide)).trans ((vset_n (by decide)).trans ((vset_n (by decide)).trans ((vset_n (by decide)).trans ((vset_n (by decide)).trans ((vset_n (by decide)).trans ((vset_n (by decide)).trans ((vset_n (by decide)).trans ((vset_n (by decide)).trans ((vset_n (by decide)).trans ((vset_n (by decide)).trans ((vset_n (by decide)).trans ((vset_n (by decide)).trans ((vset_n (by decide)).trans ((vset_n (by decide)).trans ((vset_n (by decide)).trans ((vset_n (by decide)).trans ((vset_n (by decide)).trans ((vset_n (by decide)).trans ((vset_n (by decide)).trans ((vset_n (by decide)).trans ((vset_n (by decide)).trans ((vset_n (by decide)).trans ((vset_n (by decide)).trans ((vset_n (by decide)).trans ((vset_n (by decide)).trans (hV 96 (by decide))))))))))))))))))))))))))))))))))))) rfl ?_
  refine g_putR 335 dX10_init_332 fpX10_126 (Or.inr ⟨_, rfl⟩) (fun _ => rfl) ki_40 rfl (fun q hq => by cases hq; omega) rfl ?_
  refine g_aload_n 336 dX10_init_335 rfl rfl ?_
  refine g_bipush 338 dX10_init_336 (by decide) rfl ?_
  refine G.eqi (show (6 : Int) = ((6 : Nat) : Int) from rfl) ?_
  refine g_newI 340 97 dX10_init_338 wAI ki_97 (by decide) (fun j => rfl) ((vset_n (by decide)).trans ((vset_n (by decide)).trans ((vset_n (by decide)).trans ((vset_n (by decide)).trans ((vset_n (by decide)).trans ((vset_n (by decide)).trans ((vset_n (by decide)).trans ((vset_n (by decide)).trans ((vset_n (by decide)).trans ((vset_n (by decide)).trans ((vset_n (by decide)).trans ((vset_n (by decide)).trans ((vset_n (by decide)).trans ((vset_n (by decide)).trans ((vset_n (by decide)).trans ((vset_n (by decide)).trans ((vset_n (by decide)).trans ((vset_n (by decide)).trans ((vset_n (by decide)).trans ((vset_n (by decide)).trans ((vset_n (by decide)).trans ((vset_n (by decide)).trans ((vset_n (by decide)).trans ((vset_n (by decide)).trans ((vset_n (by decide)).trans ((vset_n (by decide)).trans ((vset_n (by decide)).trans ((vset_n (by decide)).trans ((vset_n (by decide)).trans ((vset_n (by decide)).trans ((vset_n (by decide)).trans ((vset_n (by decide)).trans ((vset_n (by decide)).trans ((vset_n (by decide)).trans ((vset_n (by decide)).trans ((vset_n (by decide)).trans (hV 97 (by decide)))))))))))))))))))))))))))))))))))))) rfl ?_
  refine g_putR 343 dX10_init_340 fpX10_129 (Or.inr ⟨_, rfl⟩) (fun _ => rfl) ki_40 rfl (fun q hq => by cases hq; omega) rfl ?_
  refine g_aload_n 344 dX10_init_343 rfl rfl ?_
  refine g_bipush 346 dX10_init_344 (by decide) rfl ?_
  refine G.eqi (show (7 : Int) = ((7 : Nat) : Int) from rfl) ?_
  refine g_newI 348 98 dX10_init_346 wAI ki_98 (by decide) (fun j => rfl) ((vset_n (by decide)).trans ((vset_n (by decide)).trans ((vset_n (by decide)).trans ((vset_n (by decide)).trans ((vset_n (by decide)).trans ((vset_n (by decide)).trans ((vset_n (by decide)).trans ((vset_n (by decide)).trans ((vset_n (by decide)).trans ((vset_n (by decide)).trans ((vset_n (by decide)).trans ((vset_n (by decide)).trans ((vset_n (by decide)).trans ((vset_n (by decide)).trans ((vset_n (by decide)).trans ((vset_n (by decide)).trans ((vset_n (by decide)).trans ((vset_n (by decide)).trans ((vset_n (by decide)).trans ((vset_n (by decide)).trans ((vset_n (by decide)).trans ((vset_n (by decide)).trans ((vset_n (by decide)).trans ((vset_n (by decide)).trans ((vset_n (by decide)).trans ((vset_n (by decide)).trans ((vset_n (by decide)).trans ((vset_n (by decide)).trans ((vset_n (by decide)).trans ((vset_n (by decide)).trans ((vset_n (by decide)).trans ((vset_n (by decide)).trans ((vset_n (by decide)).trans ((vset_n (by decide)).trans ((vset_n (by decide)).trans ((vset_n (by decide)).trans ((vset_n (by decide)).trans (hV 98 (by decide))))))))))))))))))))))))))))))))))))))) rfl ?_
  refine g_putR 351 dX10_init_348 fpX10_132 (Or.inr ⟨_, rfl⟩) (fun _ => rfl) ki_40 rfl (fun q hq => by cases hq; omega) rfl ?_
  refine g_vret dX10_init_351 rfl ?_
  exact ⟨rfl, rfl, rfl⟩
