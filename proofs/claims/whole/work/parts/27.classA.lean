/-! the class: small methods (printed by wip/whole/gen27.py) -/
def rfC (κ : Ks) (j : Nat) : Ks := st2 κ 9 j (bm (κ 9 j + 1))
section R27
variable {B : Bs} {n0 : Nat}
theorem kd_R {r : Nat} (h : r < 4) : kd (XR B n0) (22 + 2 * r) = (5, 2) := by
  rcases (show r = 0 ∨ r = 1 ∨ r = 2 ∨ r = 3 by omega) with rfl | rfl | rfl | rfl <;> rfl
theorem kd_Rn {r : Nat} (h : r < 4) : kd (XR B n0) (23 + 2 * r) = (20, 24) := by
  rcases (show r = 0 ∨ r = 1 ∨ r = 2 ∨ r = 3 by omega) with rfl | rfl | rfl | rfl <;> rfl
theorem ly_R0 {r : Nat} (h : r < 4) : (XR B n0).2.2.2.2.2.2 (22 + 2 * r) 0 = (23 + 2 * r) + 2 := by
  rcases (show r = 0 ∨ r = 1 ∨ r = 2 ∨ r = 3 by omega) with rfl | rfl | rfl | rfl <;> rfl
theorem ly_R1 {r : Nat} (h : r < 4) : (XR B n0).2.2.2.2.2.2 (22 + 2 * r) 1 = 0 := by
  rcases (show r = 0 ∨ r = 1 ∨ r = 2 ∨ r = 3 by omega) with rfl | rfl | rfl | rfl <;> rfl
theorem ly_Rn {r : Nat} (h : r < 4) (j : Nat) : (XR B n0).2.2.2.2.2.2 (23 + 2 * r) j = 0 := by
  rcases (show r = 0 ∨ r = 1 ∨ r = 2 ∨ r = 3 by omega) with rfl | rfl | rfl | rfl <;> rfl
theorem row_ly {r : Nat} (h : r < 4) : (XR B n0).2.2.2.2.2.2 6 r ≠ 0 := by
  show lyR 6 r ≠ 0
  rcases (show r = 0 ∨ r = 1 ∨ r = 2 ∨ r = 3 by omega) with rfl | rfl | rfl | rfl <;> decide
theorem row_vr {r : Nat} (h : r < 4) {f : Nat → Int} : vr (XR B n0) 6 f r = Rf (22 + 2 * r) := by
  rcases (show r = 0 ∨ r = 1 ∨ r = 2 ∨ r = 3 by omega) with rfl | rfl | rfl | rfl <;> rfl
end R27
set_option maxHeartbeats 4000000 in
set_option maxRecDepth 20000 in
theorem c_X9_refuse {B : Bs} {n0 : Nat} {V : Vs} {κ : Ks} (j : Nat) {w : Int} (hj : 1 ≤ j ∧ j ≤ 7) (hw : w = -(j : Int)) : Ct (XR B n0) mX9_refuse 1 0 0 [Rf 1, Iv w] V κ (Ex (some (Iv w)) V (rfC κ j)) := by
  refine Ct.of (L := [some (Rf 1), some (Iv w)]) 0 (by decide +kernel) rfl rfl ?_
  refine g_iload_n 1 dX9_refuse_0 rfl rfl ?_
  refine g_bipush 3 dX9_refuse_1 (by decide) rfl ?_
  refine g_icmp_lt 22 6 dX9_refuse_3 (by first | assumption | omega) (by decide) (by decide) rfl (fun h1 => ?_) (fun h1 => ?_)
  · refine g_iload_n 23 dX9_refuse_22 rfl rfl ?_
    refine g_iret dX9_refuse_23 rfl ?_
    exfalso
    omega
  refine g_iload_n 7 dX9_refuse_6 rfl rfl ?_
  refine g_iconst 8 dX9_refuse_7 (by decide) rfl ?_
  refine g_icmp_gt 22 11 dX9_refuse_8 (by first | assumption | omega) (by decide) (by decide) rfl (fun h2 => ?_) (fun h2 => ?_)
  · refine g_iload_n 23 dX9_refuse_22 rfl rfl ?_
    refine g_iret dX9_refuse_23 rfl ?_
    exfalso
    omega
  refine g_aload_n 12 dX9_refuse_11 rfl rfl ?_
  refine g_getC 15 dX9_refuse_12 fgX9_38 kd_1 ly_1_7 rfl ?_
  refine g_iload_n 16 dX9_refuse_15 rfl rfl ?_
  refine g_ineg 17 dX9_refuse_16 rfl ?_
  refine g_dup2 18 dX9_refuse_17 rfl ?_
  refine r_iald 19 j (κ 9 j) dX9_refuse_18 kd_9 (by decide) (by omega) (by omega) rfl (rfl) (fun r3 => ?_)
  refine g_iconst 20 dX9_refuse_19 (by decide) rfl ?_
  refine g_iadd 21 dX9_refuse_20 rfl ?_
  refine r_iastw 22 j dX9_refuse_21 kd_9 (by decide) ly_9 (by omega) (by omega) rfl ?_
  refine g_iload_n 23 dX9_refuse_22 rfl rfl ?_
  refine g_iret dX9_refuse_23 rfl ?_
  exact ⟨rfl, rfl, rfl⟩
set_option maxHeartbeats 4000000 in
set_option maxRecDepth 20000 in
theorem c_X9_refuseAside {B : Bs} {n0 : Nat} {V : Vs} {κ : Ks} (j : Nat) {w : Int} (hj : 1 ≤ j ∧ j ≤ 7) (hw : w = -(j : Int)) : Ct (XR B n0) mX9_refuseAside 2 0 0 [Rf 1, Iv w] V κ (Ex (some (Iv (2000000000 - w))) V (rfC κ j)) := by
  refine Ct.of (L := [some (Rf 1), some (Iv w)]) 0 (by decide +kernel) rfl rfl ?_
  refine g_ldcw (n := 2000000000) 3 dX9_refuseAside_0 kcX9_314 (by decide) rfl ?_
  refine g_aload_n 4 dX9_refuseAside_3 rfl rfl ?_
  refine g_iload_n 5 dX9_refuseAside_4 rfl rfl ?_
  refine e_V 8 0 0 [Iv w] [Iv 2000000000] dX9_refuseAside_5 cvX9_74 mwX9_refuse kd_1 (by decide) rfl (Nat.le_of_ble_eq_true rfl) rfl rfl rfl (c_X9_refuse j hj hw) ?_
  refine g_isub 9 dX9_refuseAside_8 rfl ?_
  refine g_iret dX9_refuseAside_9 rfl ?_
  exact ⟨rfl, rfl, rfl⟩
set_option maxHeartbeats 4000000 in
set_option maxRecDepth 20000 in
theorem c_X9_streetAt {B : Bs} {n0 : Nat} {V : Vs} {κ : Ks} {i n : Int} (hG : Lst κ 0 n) (h_n : 0 ≤ n ∧ n ≤ 33) (r_i : inR i) : Ct (XR B n0) mX9_streetAt 4 0 0 [Rf 1, Iv i] V κ (Or2 V κ (0 ≤ i ∧ i < n) (Rf (100 + i.toNat)) (i < 0 ∨ n ≤ i) Nl) := by
  have e2 : κ 2 2 = n := hG.2.2.1
  refine Ct.of (L := [some (Rf 1), some (Iv i)]) 0 (by decide +kernel) rfl rfl ?_
  refine g_iload_n 1 dX9_streetAt_0 rfl rfl ?_
  refine g_if_lt 29 4 dX9_streetAt_1 (by first | assumption | omega) (by decide) rfl (fun h1 => ?_) (fun h1 => ?_)
  · refine g_null 30 dX9_streetAt_29 rfl ?_
    refine g_aret dX9_streetAt_30 rfl (by first | exact Or.inl ⟨_, rfl⟩ | exact Or.inr ⟨_, rfl⟩) ?_
    exact ⟨rfl, rfl, Or.inr ⟨by omega, rfl⟩⟩
  refine g_iload_n 5 dX9_streetAt_4 rfl rfl ?_
  refine g_aload_n 6 dX9_streetAt_5 rfl rfl ?_
  refine g_getC 9 dX9_streetAt_6 fgX9_10 kd_1 ly_1_0 rfl ?_
  refine e_V 12 0 0 [] [Iv i] dX9_streetAt_9 cvX9_78 mwJx4a65c_size_8abf5 kd_2 (by decide) rfl (Nat.le_of_ble_eq_true rfl) rfl rfl rfl (c_size_0) ?_
  refine g_icmp_ge 29 15 dX9_streetAt_12 (by first | assumption | omega) (by first | assumption | omega) (by decide) rfl (fun h2 => ?_) (fun h2 => ?_)
  · refine g_null 30 dX9_streetAt_29 rfl ?_
    refine g_aret dX9_streetAt_30 rfl (by first | exact Or.inl ⟨_, rfl⟩ | exact Or.inr ⟨_, rfl⟩) ?_
    exact ⟨rfl, rfl, Or.inr ⟨by omega, rfl⟩⟩
  refine g_aload_n 16 dX9_streetAt_15 rfl rfl ?_
  refine g_getC 19 dX9_streetAt_16 fgX9_10 kd_1 ly_1_0 rfl ?_
  refine g_iload_n 20 dX9_streetAt_19 rfl rfl ?_
  refine e_V 23 0 0 [Iv i] [] dX9_streetAt_20 cvX9_190 mwJx4a65c_get_915e3 kd_2 (by decide) rfl (Nat.le_of_ble_eq_true rfl) rfl rfl rfl (c_get_0 hG (by omega) (by omega)) ?_
  refine g_cast 26 dX9_streetAt_23 clX9_82 (ci := 6) rfl (by decide) (kd_S (by omega)) rfl ?_
  refine g_goto 30 dX9_streetAt_26 (by decide) ?_
  refine g_aret dX9_streetAt_30 rfl (by first | exact Or.inl ⟨_, rfl⟩ | exact Or.inr ⟨_, rfl⟩) ?_
  exact ⟨rfl, rfl, Or.inl ⟨by omega, rfl⟩⟩
set_option maxHeartbeats 4000000 in
set_option maxRecDepth 20000 in
theorem c_X9_houseAt {B : Bs} {n0 : Nat} {V : Vs} {κ : Ks} {i n : Int} (hG : Lst κ 1 n) (h_n : 0 ≤ n ∧ n ≤ 33) (r_i : inR i) : Ct (XR B n0) mX9_houseAt 4 0 0 [Rf 1, Iv i] V κ (Or2 V κ (0 ≤ i ∧ i < n) (Rf (200 + i.toNat)) (i < 0 ∨ n ≤ i) Nl) := by
  have e2 : κ 3 2 = n := hG.2.2.1
  refine Ct.of (L := [some (Rf 1), some (Iv i)]) 0 (by decide +kernel) rfl rfl ?_
  refine g_iload_n 1 dX9_houseAt_0 rfl rfl ?_
  refine g_if_lt 29 4 dX9_houseAt_1 (by first | assumption | omega) (by decide) rfl (fun h1 => ?_) (fun h1 => ?_)
  · refine g_null 30 dX9_houseAt_29 rfl ?_
    refine g_aret dX9_houseAt_30 rfl (by first | exact Or.inl ⟨_, rfl⟩ | exact Or.inr ⟨_, rfl⟩) ?_
    exact ⟨rfl, rfl, Or.inr ⟨by omega, rfl⟩⟩
  refine g_iload_n 5 dX9_houseAt_4 rfl rfl ?_
  refine g_aload_n 6 dX9_houseAt_5 rfl rfl ?_
  refine g_getC 9 dX9_houseAt_6 fgX9_16 kd_1 ly_1_1 rfl ?_
  refine e_V 12 0 0 [] [Iv i] dX9_houseAt_9 cvX9_78 mwJx4a65c_size_8abf5 kd_3 (by decide) rfl (Nat.le_of_ble_eq_true rfl) rfl rfl rfl (c_size_1) ?_
  refine g_icmp_ge 29 15 dX9_houseAt_12 (by first | assumption | omega) (by first | assumption | omega) (by decide) rfl (fun h2 => ?_) (fun h2 => ?_)
  · refine g_null 30 dX9_houseAt_29 rfl ?_
    refine g_aret dX9_houseAt_30 rfl (by first | exact Or.inl ⟨_, rfl⟩ | exact Or.inr ⟨_, rfl⟩) ?_
    exact ⟨rfl, rfl, Or.inr ⟨by omega, rfl⟩⟩
  refine g_aload_n 16 dX9_houseAt_15 rfl rfl ?_
  refine g_getC 19 dX9_houseAt_16 fgX9_16 kd_1 ly_1_1 rfl ?_
  refine g_iload_n 20 dX9_houseAt_19 rfl rfl ?_
  refine e_V 23 0 0 [Iv i] [] dX9_houseAt_20 cvX9_190 mwJx4a65c_get_915e3 kd_3 (by decide) rfl (Nat.le_of_ble_eq_true rfl) rfl rfl rfl (c_get_1 hG (by omega) (by omega)) ?_
  refine g_cast 26 dX9_houseAt_23 clX9_109 (ci := 2) rfl (by decide) (kd_H (by omega)) rfl ?_
  refine g_goto 30 dX9_houseAt_26 (by decide) ?_
  refine g_aret dX9_houseAt_30 rfl (by first | exact Or.inl ⟨_, rfl⟩ | exact Or.inr ⟨_, rfl⟩) ?_
  exact ⟨rfl, rfl, Or.inl ⟨by omega, rfl⟩⟩
set_option maxHeartbeats 4000000 in
set_option maxRecDepth 20000 in
theorem c_X9_rowAt {B : Bs} {n0 : Nat} {V : Vs} {κ : Ks} {i : Int} (r_i : inR i) : Ct (XR B n0) mX9_rowAt 1 0 0 [Rf 1, Iv i] V κ (Or2 V κ (0 ≤ i ∧ i < 4) (Rf (22 + 2 * i.toNat)) (i < 0 ∨ 4 ≤ i) Nl) := by
  refine Ct.of (L := [some (Rf 1), some (Iv i)]) 0 (by decide +kernel) rfl rfl ?_
  refine g_iload_n 1 dX9_rowAt_0 rfl rfl ?_
  refine g_if_lt 18 4 dX9_rowAt_1 (by first | assumption | omega) (by decide) rfl (fun h1 => ?_) (fun h1 => ?_)
  · refine g_null 19 dX9_rowAt_18 rfl ?_
    refine g_aret dX9_rowAt_19 rfl (by first | exact Or.inl ⟨_, rfl⟩ | exact Or.inr ⟨_, rfl⟩) ?_
    exact ⟨rfl, rfl, Or.inr ⟨by omega, rfl⟩⟩
  refine g_iload_n 5 dX9_rowAt_4 rfl rfl ?_
  refine g_iconst 6 dX9_rowAt_5 (by decide) rfl ?_
  refine g_icmp_ge 18 9 dX9_rowAt_6 (by first | assumption | omega) (by decide) (by decide) rfl (fun h2 => ?_) (fun h2 => ?_)
  · refine g_null 19 dX9_rowAt_18 rfl ?_
    refine g_aret dX9_rowAt_19 rfl (by first | exact Or.inl ⟨_, rfl⟩ | exact Or.inr ⟨_, rfl⟩) ?_
    exact ⟨rfl, rfl, Or.inr ⟨by omega, rfl⟩⟩
  refine g_aload_n 10 dX9_rowAt_9 rfl rfl ?_
  refine g_getC 13 dX9_rowAt_10 fgX9_27 kd_1 ly_1_4 rfl ?_
  refine g_iload_n 14 dX9_rowAt_13 rfl rfl ?_
  refine g_aald 15 dX9_rowAt_14 kd_6 (Or.inr rfl) (by decide) (by omega) (row_ly (by omega)) rfl (fun _ => ?_)
  rw [row_vr (by omega)]
  refine g_goto 19 dX9_rowAt_15 (by decide) ?_
  refine g_aret dX9_rowAt_19 rfl (by first | exact Or.inl ⟨_, rfl⟩ | exact Or.inr ⟨_, rfl⟩) ?_
  exact ⟨rfl, rfl, Or.inl ⟨by omega, rfl⟩⟩
set_option maxHeartbeats 4000000 in
set_option maxRecDepth 20000 in
theorem c_X9_isCock {B : Bs} {n0 : Nat} {V : Vs} {κ : Ks} {i : Int} (r_i : inR i) : Ct (XR B n0) mX9_isCock 1 0 0 [Iv i] V κ (Or2 V κ (0 ≤ i ∧ i < 3) (Iv 1) (i < 0 ∨ 3 ≤ i) (Iv 0)) := by
  refine Ct.of (L := [some (Iv i)]) 0 (by decide +kernel) rfl rfl ?_
  refine g_iload_n 1 dX9_isCock_0 rfl rfl ?_
  refine g_if_lt 13 4 dX9_isCock_1 (by first | assumption | omega) (by decide) rfl (fun h1 => ?_) (fun h1 => ?_)
  · refine g_iconst 14 dX9_isCock_13 (by decide) rfl ?_
    refine g_zret dX9_isCock_14 rfl (by omega) ?_
    exact ⟨rfl, rfl, Or.inr ⟨by omega, rfl⟩⟩
  refine g_iload_n 5 dX9_isCock_4 rfl rfl ?_
  refine g_iconst 6 dX9_isCock_5 (by decide) rfl ?_
  refine g_icmp_ge 13 9 dX9_isCock_6 (by first | assumption | omega) (by decide) (by decide) rfl (fun h2 => ?_) (fun h2 => ?_)
  · refine g_iconst 14 dX9_isCock_13 (by decide) rfl ?_
    refine g_zret dX9_isCock_14 rfl (by omega) ?_
    exact ⟨rfl, rfl, Or.inr ⟨by omega, rfl⟩⟩
  refine g_iconst 10 dX9_isCock_9 (by decide) rfl ?_
  refine g_goto 14 dX9_isCock_10 (by decide) ?_
  refine g_zret dX9_isCock_14 rfl (by omega) ?_
  exact ⟨rfl, rfl, Or.inl ⟨by omega, rfl⟩⟩
set_option maxHeartbeats 4000000 in
set_option maxRecDepth 20000 in
theorem c_X9_isPlace {B : Bs} {n0 : Nat} {V : Vs} {κ : Ks} {i n : Int} (hG : Lst κ 0 n) (h_n : 0 ≤ n ∧ n ≤ 33) (r_i : inR i) : Ct (XR B n0) mX9_isPlace 5 0 0 [Rf 1, Iv i] V κ (Or2 V κ (-1 ≤ i ∧ i < n) (Iv 1) (i < -1 ∨ n ≤ i) (Iv 0)) := by
  refine Ct.of (L := [some (Rf 1), some (Iv i)]) 0 (by decide +kernel) rfl rfl ?_
  refine g_iload_n 1 dX9_isPlace_0 rfl rfl ?_
  refine g_iconst 2 dX9_isPlace_1 (by decide) rfl ?_
  refine g_icmp_eq 13 5 dX9_isPlace_2 (by first | assumption | omega) (by decide) (by decide) rfl (fun h1 => ?_) (fun h1 => ?_)
  · refine g_iconst 14 dX9_isPlace_13 (by decide) rfl ?_
    refine g_goto 18 dX9_isPlace_14 (by decide) ?_
    refine g_zret dX9_isPlace_18 rfl (by omega) ?_
    exact ⟨rfl, rfl, Or.inl ⟨by omega, rfl⟩⟩
  refine g_aload_n 6 dX9_isPlace_5 rfl rfl ?_
  refine g_iload_n 7 dX9_isPlace_6 rfl rfl ?_
  refine o_V 10 0 0 [Iv i] [] dX9_isPlace_7 cvX9_105 mwX9_streetAt kd_1 (by decide) rfl (Nat.le_of_ble_eq_true rfl) rfl rfl rfl (c_X9_streetAt hG (by omega) (by omega)) (fun h2 => ?_) (fun h2 => ?_)
  · refine r_ifnull_s 13 17 dX9_isPlace_10 (by decide) rfl ?_
    refine g_iconst 14 dX9_isPlace_13 (by decide) rfl ?_
    refine g_goto 18 dX9_isPlace_14 (by decide) ?_
    refine g_zret dX9_isPlace_18 rfl (by omega) ?_
    exact ⟨rfl, rfl, Or.inl ⟨by omega, rfl⟩⟩
  refine r_ifnull_n 17 dX9_isPlace_10 (by decide) ?_
  refine g_iconst 18 dX9_isPlace_17 (by decide) rfl ?_
  refine g_zret dX9_isPlace_18 rfl (by omega) ?_
  exact ⟨rfl, rfl, Or.inr ⟨by omega, rfl⟩⟩
set_option maxHeartbeats 4000000 in
set_option maxRecDepth 20000 in
theorem c_X9_weekNow {B : Bs} {n0 : Nat} {V : Vs} {κ : Ks}  (h_h : 0 ≤ κ 1 12 ∧ κ 1 12 ≤ 5000) : Ct (XR B n0) mX9_weekNow 1 0 0 [Rf 1] V κ (Ex (some (Iv (κ 1 12 / 168))) V κ) := by
  refine Ct.of (L := [some (Rf 1)]) 0 (by decide +kernel) rfl rfl ?_
  refine g_aload_n 1 dX9_weekNow_0 rfl rfl ?_
  refine r_getI 4 (κ 1 12) dX9_weekNow_1 fgX9_201 kd_1 ly_1_12 rfl (rfl) (fun r1 => ?_)
  refine g_sipush 7 dX9_weekNow_4 (by decide) rfl ?_
  refine g_idiv 8 dX9_weekNow_7 (by omega) (by omega) rfl ?_
  refine g_iret dX9_weekNow_8 rfl ?_
  exact ⟨rfl, rfl, rfl⟩
set_option maxHeartbeats 4000000 in
set_option maxRecDepth 20000 in
theorem c_X9_hasStreet {B : Bs} {n0 : Nat} {V : Vs} {κ : Ks} {a s : Int} (h_a : 0 ≤ a ∧ a < 1024) (h_s : 0 ≤ s ∧ s < 32) : Ct (XR B n0) mX9_hasStreet 1 0 0 [Iv a, Iv s] V κ (Or2 V κ (bitI a s.toNat = 1) (Iv 1) (bitI a s.toNat = 0) (Iv 0)) := by
  refine Ct.of (L := [some (Iv a), some (Iv s)]) 0 (by decide +kernel) rfl rfl ?_
  refine g_iload_n 1 dX9_hasStreet_0 rfl rfl ?_
  refine g_iload_n 2 dX9_hasStreet_1 rfl rfl ?_
  refine g_ishr 3 dX9_hasStreet_2 rfl ?_
  refine g_iconst 4 dX9_hasStreet_3 (by decide) rfl ?_
  refine g_iand 5 dX9_hasStreet_4 rfl ?_
  refine G.eqi (bit_I (by omega) (by omega)) ?_
  have b01 := bitI_01 a s.toNat
  refine g_if_eq 12 8 dX9_hasStreet_5 (by first | assumption | omega) (by decide) rfl (fun h1 => ?_) (fun h1 => ?_)
  · refine g_iconst 13 dX9_hasStreet_12 (by decide) rfl ?_
    refine g_zret dX9_hasStreet_13 rfl (by omega) ?_
    exact ⟨rfl, rfl, Or.inr ⟨by omega, rfl⟩⟩
  refine g_iconst 9 dX9_hasStreet_8 (by decide) rfl ?_
  refine g_goto 13 dX9_hasStreet_9 (by decide) ?_
  refine g_zret dX9_hasStreet_13 rfl (by omega) ?_
  exact ⟨rfl, rfl, Or.inl ⟨by omega, rfl⟩⟩
set_option maxHeartbeats 4000000 in
set_option maxRecDepth 20000 in
theorem c_X9_placeAheadOf {B : Bs} {n0 : Nat} {V : Vs} {κ : Ks} {i n : Int} (hG : Lst κ 0 n) (h_n : 0 ≤ n ∧ n ≤ 33) (h_i : -1 ≤ i ∧ i < n) : Ct (XR B n0) mX9_placeAheadOf 5 0 0 [Rf 1, Iv i] V κ (Ex (some (Iv (if i < 0 then -1 else κ (100 + i.toNat) 0))) V κ) := by
  refine Ct.of (L := [some (Rf 1), some (Iv i), none]) 1 (by decide +kernel) rfl rfl ?_
  refine g_aload_n 1 dX9_placeAheadOf_0 rfl rfl ?_
  refine g_iload_n 2 dX9_placeAheadOf_1 rfl rfl ?_
  refine o_V 5 0 0 [Iv i] [] dX9_placeAheadOf_2 cvX9_105 mwX9_streetAt kd_1 (by decide) rfl (Nat.le_of_ble_eq_true rfl) rfl rfl rfl (c_X9_streetAt hG (by omega) (by omega)) (fun h1 => ?_) (fun h1 => ?_)
  · refine g_astore_n (L' := [some (Rf 1), some (Iv i), some (Rf (100 + i.toNat))]) 6 dX9_placeAheadOf_5 rfl (by decide) rfl ?_
    refine g_aload_n 7 dX9_placeAheadOf_6 rfl rfl ?_
    refine r_ifnonnull_s 14 dX9_placeAheadOf_7 (by decide) ?_
    refine g_aload_n 15 dX9_placeAheadOf_14 rfl rfl ?_
    refine r_getI 18 (κ (100 + i.toNat) 0) dX9_placeAheadOf_15 fgX9_290 (kd_S (by omega)) (ly_S (by omega) 0) rfl (rfl) (fun r2 => ?_)
    refine g_iret dX9_placeAheadOf_18 rfl ?_
    rw [if_neg (by omega)]
    exact ⟨rfl, rfl, rfl⟩
  refine g_astore_n (L' := [some (Rf 1), some (Iv i), some (Nl)]) 6 dX9_placeAheadOf_5 rfl (by decide) rfl ?_
  refine g_aload_n 7 dX9_placeAheadOf_6 rfl rfl ?_
  refine r_ifnonnull_n 10 14 dX9_placeAheadOf_7 (by decide) rfl ?_
  refine g_iconst 11 dX9_placeAheadOf_10 (by decide) rfl ?_
  refine g_goto 18 dX9_placeAheadOf_11 (by decide) ?_
  refine g_iret dX9_placeAheadOf_18 rfl ?_
  rw [if_pos (by omega)]
  exact ⟨rfl, rfl, rfl⟩
