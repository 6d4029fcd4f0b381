/-! the class: small methods of its parts (printed by wip/whole/gen28.py) -/
def flN (κ : Ks) (t : Nat) (v : Int) : Nat → Ks
  | 0 => κ
  | k + 1 => st2 (flN κ t v k) t k v
set_option maxHeartbeats 4000000 in
set_option maxRecDepth 20000 in
theorem c_X4_isMissing {B : Bs} {n0 : Nat} {V : Vs} {κ : Ks} {r : Nat} (h_r : r < 4) : Ct (XR B n0) mX4_isMissing 1 0 0 [Rf (22 + 2 * r)] V κ (Or2 V κ (κ (22 + 2 * r) 1 < 0) (Iv 1) (0 ≤ κ (22 + 2 * r) 1) (Iv 0)) := by
  refine Ct.of (L := [some (Rf (22 + 2 * r))]) 0 (by decide +kernel) rfl rfl ?_
  refine g_aload_n 1 dX4_isMissing_0 rfl rfl ?_
  refine r_getI 4 (κ (22 + 2 * r) 1) dX4_isMissing_1 fgX4_15 (kd_R (by omega)) (ly_R1 (by omega)) rfl (rfl) (fun r1 => ?_)
  refine g_if_ge 11 7 dX4_isMissing_4 (by first | assumption | omega) (by decide) rfl (fun h2 => ?_) (fun h2 => ?_)
  · refine g_iconst 12 dX4_isMissing_11 (by decide) rfl ?_
    refine g_zret dX4_isMissing_12 rfl (by omega) ?_
    exact ⟨rfl, rfl, Or.inr ⟨by omega, rfl⟩⟩
  refine g_iconst 8 dX4_isMissing_7 (by decide) rfl ?_
  refine g_goto 12 dX4_isMissing_8 (by decide) ?_
  refine g_zret dX4_isMissing_12 rfl (by omega) ?_
  exact ⟨rfl, rfl, Or.inl ⟨by omega, rfl⟩⟩
set_option maxHeartbeats 4000000 in
set_option maxRecDepth 20000 in
theorem c_X4_forget {B : Bs} {n0 : Nat} {V : Vs} {κ : Ks} {r : Nat} (h_r : r < 4) : Ct (XR B n0) mX4_forget 1 0 0 [Rf (22 + 2 * r)] V κ (Ex none V (st2 κ (22 + 2 * r) 1 (-1))) := by
  refine Ct.of (L := [some (Rf (22 + 2 * r))]) 0 (by decide +kernel) rfl rfl ?_
  refine g_aload_n 1 dX4_forget_0 rfl rfl ?_
  refine g_iconst 2 dX4_forget_1 (by decide) rfl ?_
  refine g_putI 5 dX4_forget_2 fpX4_15 (fun h => (nomatch h)) (kd_R (by omega)) (ly_R1 (by omega)) (by omega) rfl ?_
  refine g_vret dX4_forget_5 rfl ?_
  exact ⟨rfl, rfl, rfl⟩
set_option maxHeartbeats 4000000 in
set_option maxRecDepth 20000 in
theorem c_X4_hasPlaces {B : Bs} {n0 : Nat} {V : Vs} {κ : Ks} {r : Nat} {a n : Int} (h_r : r < 4) (r_a : inR a) (r_n : inR n) (h_l : -1 ≤ κ (22 + 2 * r) 1 ∧ κ (22 + 2 * r) 1 ≤ 24) : Ct (XR B n0) mX4_hasPlaces 1 0 0 [Rf (22 + 2 * r), Iv a, Iv n] V κ (Or2 V κ (0 ≤ a ∧ 0 ≤ n ∧ n ≤ κ (22 + 2 * r) 1 - a) (Iv 1) (a < 0 ∨ n < 0 ∨ κ (22 + 2 * r) 1 - a < n) (Iv 0)) := by
  refine Ct.of (L := [some (Rf (22 + 2 * r)), some (Iv a), some (Iv n)]) 0 (by decide +kernel) rfl rfl ?_
  refine g_iload_n 1 dX4_hasPlaces_0 rfl rfl ?_
  refine g_if_lt 22 4 dX4_hasPlaces_1 (by first | assumption | omega) (by decide) rfl (fun h1 => ?_) (fun h1 => ?_)
  · refine g_iconst 23 dX4_hasPlaces_22 (by decide) rfl ?_
    refine g_zret dX4_hasPlaces_23 rfl (by omega) ?_
    exact ⟨rfl, rfl, Or.inr ⟨by omega, rfl⟩⟩
  refine g_iload_n 5 dX4_hasPlaces_4 rfl rfl ?_
  refine g_if_lt 22 8 dX4_hasPlaces_5 (by first | assumption | omega) (by decide) rfl (fun h2 => ?_) (fun h2 => ?_)
  · refine g_iconst 23 dX4_hasPlaces_22 (by decide) rfl ?_
    refine g_zret dX4_hasPlaces_23 rfl (by omega) ?_
    exact ⟨rfl, rfl, Or.inr ⟨by omega, rfl⟩⟩
  refine g_iload_n 9 dX4_hasPlaces_8 rfl rfl ?_
  refine g_aload_n 10 dX4_hasPlaces_9 rfl rfl ?_
  refine r_getI 13 (κ (22 + 2 * r) 1) dX4_hasPlaces_10 fgX4_15 (kd_R (by omega)) (ly_R1 (by omega)) rfl (rfl) (fun r3 => ?_)
  refine g_iload_n 14 dX4_hasPlaces_13 rfl rfl ?_
  refine g_isub 15 dX4_hasPlaces_14 rfl ?_
  refine g_icmp_gt 22 18 dX4_hasPlaces_15 (by first | assumption | omega) (by first | assumption | omega) (by decide) rfl (fun h4 => ?_) (fun h4 => ?_)
  · refine g_iconst 23 dX4_hasPlaces_22 (by decide) rfl ?_
    refine g_zret dX4_hasPlaces_23 rfl (by omega) ?_
    exact ⟨rfl, rfl, Or.inr ⟨by omega, rfl⟩⟩
  refine g_iconst 19 dX4_hasPlaces_18 (by decide) rfl ?_
  refine g_goto 23 dX4_hasPlaces_19 (by decide) ?_
  refine g_zret dX4_hasPlaces_23 rfl (by omega) ?_
  exact ⟨rfl, rfl, Or.inl ⟨by omega, rfl⟩⟩
set_option maxHeartbeats 4000000 in
set_option maxRecDepth 20000 in
theorem c_J7_fill_53178 {B : Bs} {n0 : Nat} {V : Vs} {κ : Ks} {r : Nat} {v : Int} (h_r : r < 4) (r_v : inR v) : Ct (XR B n0) mJ7_fill_53178 1 0 0 [Rf (23 + 2 * r), Iv v] V κ (Ex none V (flN κ (23 + 2 * r) v 24)) := by
  refine Ct.of (L := [some (Rf (23 + 2 * r)), some (Iv v), none, none]) 2 (by decide +kernel) rfl rfl ?_
  have lp : ∀ (m : Nat) (i : Int), 0 ≤ i ∧ i ≤ 24 → (m : Int) = 24 - i → G (XR B n0) mJ7_fill_53178 1 (Ex none V (flN κ (23 + 2 * r) v 24)) V 0 0 5 [some (Rf (23 + 2 * r)), some (Iv v), some (Iv i), some (Iv ((24 : Nat) : Int))] [] V (flN κ (23 + 2 * r) v i.toNat) := by
    intro m
    induction m using Nat.strongRecOn with
    | ind m ih =>
      intro i hi hm
      refine g_iload_n 6 dJ7_fill_53178_5 rfl rfl ?_
      refine g_iload_n 7 dJ7_fill_53178_6 rfl rfl ?_
      refine g_icmp_ge 20 10 dJ7_fill_53178_7 (by first | assumption | omega) (by first | assumption | omega) (by decide) rfl (fun h101 => ?_) (fun h101 => ?_)
      · refine g_vret dJ7_fill_53178_20 rfl ?_
        have ei : i = 24 := by omega
        subst ei
        exact ⟨rfl, rfl, rfl⟩
      refine g_aload_n 11 dJ7_fill_53178_10 rfl rfl ?_
      refine g_iload_n 12 dJ7_fill_53178_11 rfl rfl ?_
      refine g_iload_n 13 dJ7_fill_53178_12 rfl rfl ?_
      refine r_iast 14 ((i).toNat) dJ7_fill_53178_13 (kd_Rn (by omega)) (by decide) (ly_Rn (by omega)) (by omega) (rfl) (by omega) rfl ?_
      refine g_iinc (L' := [some (Rf (23 + 2 * r)), some (Iv v), some (Iv (i + 1)), some (Iv ((24 : Nat) : Int))]) 17 dJ7_fill_53178_14 rfl rfl (by decide) rfl ?_
      refine g_goto 5 dJ7_fill_53178_17 (by decide) ?_
      have e : flN κ (23 + 2 * r) v (i + 1).toNat = (st2 (flN κ (23 + 2 * r) v i.toNat) (23 + 2 * r) ((i).toNat) v) := by rw [show (i + 1).toNat = i.toNat + 1 by omega]; rfl
      rw [← e]
      exact ih (m - 1) (by omega) (i + 1) (by omega) (by omega)
  refine g_iconst 1 dJ7_fill_53178_0 (by decide) rfl ?_
  refine g_istore_n (L' := [some (Rf (23 + 2 * r)), some (Iv v), some (Iv 0), none]) 2 dJ7_fill_53178_1 rfl (by decide) rfl ?_
  refine g_aload_n 3 dJ7_fill_53178_2 rfl rfl ?_
  refine g_alen 4 dJ7_fill_53178_3 (kd_Rn h_r) (Or.inl rfl) rfl ?_
  refine g_istore_n (L' := [some (Rf (23 + 2 * r)), some (Iv v), some (Iv 0), some (Iv ((24 : Nat) : Int))]) 5 dJ7_fill_53178_4 rfl (by decide) rfl ?_
  exact lp 24 0 (by omega) (by omega)
set_option maxHeartbeats 4000000 in
set_option maxRecDepth 20000 in
theorem c_X4_makeAnew {B : Bs} {n0 : Nat} {V : Vs} {κ : Ks} {r : Nat} {n : Int} (h_r : r < 4) (r_n : inR n) : Ct (XR B n0) mX4_makeAnew 2 0 0 [Rf (22 + 2 * r), Iv n] V κ (Ex none V (st2 (flN κ (23 + 2 * r) 0 24) (22 + 2 * r) 1 n)) := by
  refine Ct.of (L := [some (Rf (22 + 2 * r)), some (Iv n)]) 0 (by decide +kernel) rfl rfl ?_
  refine g_aload_n 1 dX4_makeAnew_0 rfl rfl ?_
  refine g_getC 4 dX4_makeAnew_1 fgX4_9 (kd_R (by omega)) (ly_R0 (by omega)) rfl ?_
  refine g_iconst 5 dX4_makeAnew_4 (by decide) rfl ?_
  refine v_S 8 0 0 [Rf (23 + 2 * r), Iv 0] [] dX4_makeAnew_5 csX4_19 mwJ7_fill_53178 (by decide) rfl (Nat.le_of_ble_eq_true rfl) rfl rfl rfl (c_J7_fill_53178 (by omega) (by omega)) ?_
  refine g_aload_n 9 dX4_makeAnew_8 rfl rfl ?_
  refine g_iload_n 10 dX4_makeAnew_9 rfl rfl ?_
  refine g_putI 13 dX4_makeAnew_10 fpX4_15 (fun h => (nomatch h)) (kd_R (by omega)) (ly_R1 (by omega)) (by omega) rfl ?_
  refine g_vret dX4_makeAnew_13 rfl ?_
  exact ⟨rfl, rfl, rfl⟩
set_option maxHeartbeats 4000000 in
set_option maxRecDepth 20000 in
theorem c_X5_dripIn {B : Bs} {n0 : Nat} {V : Vs} {κ : Ks} {s : Nat} {w : Int} (h_s : s < 100) (h_l : 1 ≤ κ (100 + s) 1 ∧ κ (100 + s) 1 ≤ 50) (h_w : 0 ≤ κ (100 + s) 2 ∧ κ (100 + s) 2 ≤ w ∧ w ≤ 29) : Ct (XR B n0) mX5_dripIn 1 0 0 [Rf (100 + s), Iv w] V κ (Ex (some (Iv (if κ (100 + s) 3 ≠ 0 then 0 else κ (100 + s) 1 * (1 + (w - κ (100 + s) 2) / 4) / 10))) V κ) := by
  have p1 : 0 ≤ κ (100 + s) 1 * (1 + (w - κ (100 + s) 2) / 4) := Int.mul_nonneg (by omega) (by omega)
  have p2 : κ (100 + s) 1 * (1 + (w - κ (100 + s) 2) / 4) ≤ 50 * 8 := Int.mul_le_mul (by omega) (by omega) (by omega) (by omega)
  refine Ct.of (L := [some (Rf (100 + s)), some (Iv w)]) 0 (by decide +kernel) rfl rfl ?_
  refine g_aload_n 1 dX5_dripIn_0 rfl rfl ?_
  refine r_getI 4 (κ (100 + s) 3) dX5_dripIn_1 fgX5_30 (kd_S (by omega)) (ly_S (by omega) 3) rfl (rfl) (fun r1 => ?_)
  refine g_if_eq 11 7 dX5_dripIn_4 (by first | assumption | omega) (by decide) rfl (fun h2 => ?_) (fun h2 => ?_)
  · refine g_aload_n 12 dX5_dripIn_11 rfl rfl ?_
    refine r_getI 15 (κ (100 + s) 1) dX5_dripIn_12 fgX5_24 (kd_S (by omega)) (ly_S (by omega) 1) rfl (rfl) (fun r3 => ?_)
    refine g_iconst 16 dX5_dripIn_15 (by decide) rfl ?_
    refine g_iload_n 17 dX5_dripIn_16 rfl rfl ?_
    refine g_aload_n 18 dX5_dripIn_17 rfl rfl ?_
    refine r_getI 21 (κ (100 + s) 2) dX5_dripIn_18 fgX5_27 (kd_S (by omega)) (ly_S (by omega) 2) rfl (rfl) (fun r4 => ?_)
    refine g_isub 22 dX5_dripIn_21 rfl ?_
    refine g_iconst 23 dX5_dripIn_22 (by decide) rfl ?_
    refine g_idiv 24 dX5_dripIn_23 (by omega) (by omega) rfl ?_
    refine g_iadd 25 dX5_dripIn_24 rfl ?_
    refine g_imul 26 dX5_dripIn_25 rfl ?_
    refine g_bipush 28 dX5_dripIn_26 (by decide) rfl ?_
    refine g_idiv 29 dX5_dripIn_28 (by omega) (by omega) rfl ?_
    refine g_iret dX5_dripIn_29 rfl ?_
    rw [if_neg (by omega)]
    exact ⟨rfl, rfl, rfl⟩
  refine g_iconst 8 dX5_dripIn_7 (by decide) rfl ?_
  refine g_goto 29 dX5_dripIn_8 (by decide) ?_
  refine g_iret dX5_dripIn_29 rfl ?_
  rw [if_pos (by omega)]
  exact ⟨rfl, rfl, rfl⟩
set_option maxHeartbeats 4000000 in
set_option maxRecDepth 20000 in
theorem c_X5_layAnew {B : Bs} {n0 : Nat} {V : Vs} {κ : Ks} {s : Nat} {w : Int} (h_s : s < 100) (r_w : inR w) : Ct (XR B n0) mX5_layAnew 1 0 0 [Rf (100 + s), Iv w] V κ (Ex (some (Iv (w - κ (100 + s) 2))) V (st2 κ (100 + s) 2 w)) := by
  refine Ct.of (L := [some (Rf (100 + s)), some (Iv w), none]) 1 (by decide +kernel) rfl rfl ?_
  refine g_iload_n 1 dX5_layAnew_0 rfl rfl ?_
  refine g_aload_n 2 dX5_layAnew_1 rfl rfl ?_
  refine r_getI 5 (κ (100 + s) 2) dX5_layAnew_2 fgX5_27 (kd_S (by omega)) (ly_S (by omega) 2) rfl (rfl) (fun r1 => ?_)
  refine g_isub 6 dX5_layAnew_5 rfl ?_
  refine g_istore_n (L' := [some (Rf (100 + s)), some (Iv w), some (Iv (w - (κ (100 + s) 2)))]) 7 dX5_layAnew_6 rfl (by decide) rfl ?_
  refine g_aload_n 8 dX5_layAnew_7 rfl rfl ?_
  refine g_iload_n 9 dX5_layAnew_8 rfl rfl ?_
  refine g_putI 12 dX5_layAnew_9 fpX5_27 (fun h => (nomatch h)) (kd_S (by omega)) (ly_S (by omega) 2) (by omega) rfl ?_
  refine g_iload_n 13 dX5_layAnew_12 rfl rfl ?_
  refine g_iret dX5_layAnew_13 rfl ?_
  exact ⟨rfl, rfl, rfl⟩
set_option maxHeartbeats 4000000 in
set_option maxRecDepth 20000 in
theorem c_X5_setAtEnd {B : Bs} {n0 : Nat} {V : Vs} {κ : Ks} {s : Nat} {k z : Int} (h_s : s < 100) (r_k : inR k) (r_z : inR z) : Ct (XR B n0) mX5_setAtEnd 1 0 0 [Rf (100 + s), Iv k, Iv z] V κ (Ex none V (st2 (st2 (st2 (st2 κ (100 + s) 4 k) (100 + s) 5 z) (100 + s) 6 0) (100 + s) 7 0)) := by
  refine Ct.of (L := [some (Rf (100 + s)), some (Iv k), some (Iv z)]) 0 (by decide +kernel) rfl rfl ?_
  refine g_aload_n 1 dX5_setAtEnd_0 rfl rfl ?_
  refine g_iload_n 2 dX5_setAtEnd_1 rfl rfl ?_
  refine g_putI 5 dX5_setAtEnd_2 fpX5_9 (fun h => (nomatch h)) (kd_S (by omega)) (ly_S (by omega) 4) (by omega) rfl ?_
  refine g_aload_n 6 dX5_setAtEnd_5 rfl rfl ?_
  refine g_iload_n 7 dX5_setAtEnd_6 rfl rfl ?_
  refine g_putI 10 dX5_setAtEnd_7 fpX5_34 (fun h => (nomatch h)) (kd_S (by omega)) (ly_S (by omega) 5) (by omega) rfl ?_
  refine g_aload_n 11 dX5_setAtEnd_10 rfl rfl ?_
  refine g_iconst 12 dX5_setAtEnd_11 (by decide) rfl ?_
  refine g_putI 15 dX5_setAtEnd_12 fpX5_37 (fun h => (nomatch h)) (kd_S (by omega)) (ly_S (by omega) 6) (by omega) rfl ?_
  refine g_aload_n 16 dX5_setAtEnd_15 rfl rfl ?_
  refine g_iconst 17 dX5_setAtEnd_16 (by decide) rfl ?_
  refine g_putZ 20 dX5_setAtEnd_17 fpX5_40 (fun h => (nomatch h)) (kd_S (by omega)) (ly_S (by omega) 7) (by omega) rfl ?_
  refine g_vret dX5_setAtEnd_20 rfl ?_
  exact ⟨rfl, rfl, rfl⟩
set_option maxHeartbeats 4000000 in
set_option maxRecDepth 20000 in
theorem c_X5_hemIn {B : Bs} {n0 : Nat} {V : Vs} {κ : Ks} {s : Nat} {a b : Int} (h_s : s < 100) (r_a : inR a) (r_b : inR b) : Ct (XR B n0) mX5_hemIn 2 0 0 [Rf (100 + s), Iv a, Iv b] V κ (Ex none V (st2 (st2 κ (100 + s) 8 (max (κ (100 + s) 8) a)) (100 + s) 9 (min (κ (100 + s) 9) b))) := by
  refine Ct.of (L := [some (Rf (100 + s)), some (Iv a), some (Iv b)]) 0 (by decide +kernel) rfl rfl ?_
  refine g_aload_n 1 dX5_hemIn_0 rfl rfl ?_
  refine g_aload_n 2 dX5_hemIn_1 rfl rfl ?_
  refine r_getI 5 (κ (100 + s) 8) dX5_hemIn_2 fgX5_15 (kd_S (by omega)) (ly_S (by omega) 8) rfl (rfl) (fun r1 => ?_)
  refine g_iload_n 6 dX5_hemIn_5 rfl rfl ?_
  refine e_S 9 0 0 [Iv (κ (100 + s) 8), Iv a] [Rf (100 + s)] dX5_hemIn_6 csX5_43 mwJ9_max_7cf53 (by decide) rfl (Nat.le_of_ble_eq_true rfl) rfl rfl rfl (c_J9_max_7cf53 (by omega) (by omega)) ?_
  refine g_putI 12 dX5_hemIn_9 fpX5_15 (fun h => (nomatch h)) (kd_S (by omega)) (ly_S (by omega) 8) (by omega) rfl ?_
  refine g_aload_n 13 dX5_hemIn_12 rfl rfl ?_
  refine g_aload_n 14 dX5_hemIn_13 rfl rfl ?_
  refine r_getI 17 (κ (100 + s) 9) dX5_hemIn_14 fgX5_18 (kd_S (by omega)) (ly_S (by omega) 9) rfl (rd_j (by decide) (rfl)) (fun r2 => ?_)
  refine g_iload_n 18 dX5_hemIn_17 rfl rfl ?_
  refine e_S 21 0 0 [Iv (κ (100 + s) 9), Iv b] [Rf (100 + s)] dX5_hemIn_18 csX5_49 mwJ9_min_7cf53 (by decide) rfl (Nat.le_of_ble_eq_true rfl) rfl rfl rfl (c_J9_min_7cf53 (by omega) (by omega)) ?_
  refine g_putI 24 dX5_hemIn_21 fpX5_18 (fun h => (nomatch h)) (kd_S (by omega)) (ly_S (by omega) 9) (by omega) rfl ?_
  refine g_vret dX5_hemIn_24 rfl ?_
  exact ⟨rfl, rfl, rfl⟩
set_option maxHeartbeats 4000000 in
set_option maxRecDepth 20000 in
theorem c_X5_takeByPlug {B : Bs} {n0 : Nat} {V : Vs} {κ : Ks} {s : Nat} {n : Int} (h_s : s < 100) (h_n : 0 ≤ n ∧ n ≤ 5000) : Ct (XR B n0) mX5_takeByPlug 2 0 0 [Rf (100 + s), Iv n, Rf 13] V κ (Ex (some (Iv (if κ (100 + s) 7 ≠ 0 then min 60 n else 0))) V (if κ (100 + s) 7 ≠ 0 then st2 κ 13 1 (bm (κ 13 1 + min 60 n)) else κ)) := by
  refine Ct.of (L := [some (Rf (100 + s)), some (Iv n), some (Rf 13), none]) 1 (by decide +kernel) rfl rfl ?_
  refine g_aload_n 1 dX5_takeByPlug_0 rfl rfl ?_
  refine r_getI 4 (κ (100 + s) 7) dX5_takeByPlug_1 fgX5_40 (kd_S (by omega)) (ly_S (by omega) 7) rfl (rfl) (fun r1 => ?_)
  refine g_if_ne 9 7 dX5_takeByPlug_4 (by first | assumption | omega) (by decide) rfl (fun h2 => ?_) (fun h2 => ?_)
  · refine g_bipush 11 dX5_takeByPlug_9 (by decide) rfl ?_
    refine g_iload_n 12 dX5_takeByPlug_11 rfl rfl ?_
    refine e_S 15 0 0 [Iv 60, Iv n] [] dX5_takeByPlug_12 csX5_49 mwJ9_min_7cf53 (by decide) rfl (Nat.le_of_ble_eq_true rfl) rfl rfl rfl (c_J9_min_7cf53 (by omega) (by omega)) ?_
    refine g_istore_n (L' := [some (Rf (100 + s)), some (Iv n), some (Rf 13), some (Iv (min 60 n))]) 16 dX5_takeByPlug_15 rfl (by decide) rfl ?_
    refine g_aload_n 17 dX5_takeByPlug_16 rfl rfl ?_
    refine g_dup 18 dX5_takeByPlug_17 rfl ?_
    refine r_getI 21 (κ 13 1) dX5_takeByPlug_18 fgX5_74 kd_13 ly_13_1 rfl (rfl) (fun r3 => ?_)
    refine g_iload_n 22 dX5_takeByPlug_21 rfl rfl ?_
    refine g_iadd 23 dX5_takeByPlug_22 rfl ?_
    refine r_putIw 26 dX5_takeByPlug_23 fpX5_74 (fun h => (nomatch h)) kd_13 ly_13_1 rfl ?_
    refine g_iload_n 27 dX5_takeByPlug_26 rfl rfl ?_
    refine g_iret dX5_takeByPlug_27 rfl ?_
    rw [if_pos (by omega), if_pos (by omega)]
    exact ⟨rfl, rfl, rfl⟩
  refine g_iconst 8 dX5_takeByPlug_7 (by decide) rfl ?_
  refine g_iret dX5_takeByPlug_8 rfl ?_
  rw [if_neg (by omega), if_neg (by omega)]
  exact ⟨rfl, rfl, rfl⟩
set_option maxHeartbeats 4000000 in
set_option maxRecDepth 20000 in
theorem c_X5_takeByTun {B : Bs} {n0 : Nat} {V : Vs} {κ : Ks} {s : Nat} {n : Int} (h_s : s < 100) (h_n : 0 ≤ n ∧ n ≤ 5000) (h_t : 0 ≤ κ (100 + s) 6 ∧ κ (100 + s) 6 ≤ κ (100 + s) 5 ∧ κ (100 + s) 5 ≤ 2000) : Ct (XR B n0) mX5_takeByTun 2 0 0 [Rf (100 + s), Iv n, Rf 13] V κ (Ex (some (Iv (min n (min 40 (κ (100 + s) 5 - κ (100 + s) 6))))) V (st2 (st2 κ (100 + s) 6 (κ (100 + s) 6 + min n (min 40 (κ (100 + s) 5 - κ (100 + s) 6)))) 13 4 (bm (κ 13 4 + min n (min 40 (κ (100 + s) 5 - κ (100 + s) 6)))))) := by
  refine Ct.of (L := [some (Rf (100 + s)), some (Iv n), some (Rf 13), none]) 1 (by decide +kernel) rfl rfl ?_
  refine g_iload_n 1 dX5_takeByTun_0 rfl rfl ?_
  refine g_bipush 3 dX5_takeByTun_1 (by decide) rfl ?_
  refine g_aload_n 4 dX5_takeByTun_3 rfl rfl ?_
  refine r_getI 7 (κ (100 + s) 5) dX5_takeByTun_4 fgX5_34 (kd_S (by omega)) (ly_S (by omega) 5) rfl (rfl) (fun r1 => ?_)
  refine g_aload_n 8 dX5_takeByTun_7 rfl rfl ?_
  refine r_getI 11 (κ (100 + s) 6) dX5_takeByTun_8 fgX5_37 (kd_S (by omega)) (ly_S (by omega) 6) rfl (rfl) (fun r2 => ?_)
  refine g_isub 12 dX5_takeByTun_11 rfl ?_
  refine e_S 15 0 0 [Iv 40, Iv ((κ (100 + s) 5) - (κ (100 + s) 6))] [Iv n] dX5_takeByTun_12 csX5_49 mwJ9_min_7cf53 (by decide) rfl (Nat.le_of_ble_eq_true rfl) rfl rfl rfl (c_J9_min_7cf53 (by omega) (by omega)) ?_
  refine e_S 18 0 0 [Iv n, Iv (min 40 ((κ (100 + s) 5) - (κ (100 + s) 6)))] [] dX5_takeByTun_15 csX5_49 mwJ9_min_7cf53 (by decide) rfl (Nat.le_of_ble_eq_true rfl) rfl rfl rfl (c_J9_min_7cf53 (by omega) (by omega)) ?_
  refine g_istore_n (L' := [some (Rf (100 + s)), some (Iv n), some (Rf 13), some (Iv (min n (min 40 ((κ (100 + s) 5) - (κ (100 + s) 6)))))]) 19 dX5_takeByTun_18 rfl (by decide) rfl ?_
  refine g_aload_n 20 dX5_takeByTun_19 rfl rfl ?_
  refine g_dup 21 dX5_takeByTun_20 rfl ?_
  refine r_getI 24 (κ (100 + s) 6) dX5_takeByTun_21 fgX5_37 (kd_S (by omega)) (ly_S (by omega) 6) rfl (rfl) (fun r3 => ?_)
  refine g_iload_n 25 dX5_takeByTun_24 rfl rfl ?_
  refine g_iadd 26 dX5_takeByTun_25 rfl ?_
  refine g_putI 29 dX5_takeByTun_26 fpX5_37 (fun h => (nomatch h)) (kd_S (by omega)) (ly_S (by omega) 6) (by omega) rfl ?_
  refine g_aload_n 30 dX5_takeByTun_29 rfl rfl ?_
  refine g_dup 31 dX5_takeByTun_30 rfl ?_
  refine r_getI 34 (κ 13 4) dX5_takeByTun_31 fgX5_79 kd_13 ly_13_4 rfl (rd_t (by omega) (rfl)) (fun r4 => ?_)
  refine g_iload_n 35 dX5_takeByTun_34 rfl rfl ?_
  refine g_iadd 36 dX5_takeByTun_35 rfl ?_
  refine r_putIw 39 dX5_takeByTun_36 fpX5_79 (fun h => (nomatch h)) kd_13 ly_13_4 rfl ?_
  refine g_iload_n 40 dX5_takeByTun_39 rfl rfl ?_
  refine g_iret dX5_takeByTun_40 rfl ?_
  exact ⟨rfl, rfl, rfl⟩
set_option maxHeartbeats 4000000 in
set_option maxRecDepth 20000 in
theorem c_X1_roomInCistern {B : Bs} {n0 : Nat} {V : Vs} {κ : Ks} {h : Nat} (h_h : h < 100) : Ct (XR B n0) mX1_roomInCistern 1 0 0 [Rf (200 + h)] V κ (Ex (some (Iv (κ (200 + h) 1 - κ (200 + h) 6))) V κ) := by
  refine Ct.of (L := [some (Rf (200 + h))]) 0 (by decide +kernel) rfl rfl ?_
  refine g_aload_n 1 dX1_roomInCistern_0 rfl rfl ?_
  refine r_getI 4 (κ (200 + h) 1) dX1_roomInCistern_1 fgX1_18 (kd_H (by omega)) (ly_H (by omega) 1) rfl (rfl) (fun r1 => ?_)
  refine g_aload_n 5 dX1_roomInCistern_4 rfl rfl ?_
  refine r_getI 8 (κ (200 + h) 6) dX1_roomInCistern_5 fgX1_31 (kd_H (by omega)) (ly_H (by omega) 6) rfl (rfl) (fun r2 => ?_)
  refine g_isub 9 dX1_roomInCistern_8 rfl ?_
  refine g_iret dX1_roomInCistern_9 rfl ?_
  exact ⟨rfl, rfl, rfl⟩
set_option maxHeartbeats 4000000 in
set_option maxRecDepth 20000 in
theorem c_X1_takeFrom {B : Bs} {n0 : Nat} {V : Vs} {κ : Ks} {h : Nat} {n : Int} (h_h : h < 100) (h_n : 0 ≤ n ∧ n ≤ 5000) (h_w : 0 ≤ κ (200 + h) 6 ∧ κ (200 + h) 6 ≤ κ (200 + h) 1 ∧ κ (200 + h) 1 ≤ 500) : Ct (XR B n0) mX1_takeFrom 2 0 0 [Rf (200 + h), Iv n, Rf 13] V κ (Ex (some (Iv (if κ (200 + h) 4 ≠ 0 then min (min 30 n) (κ (200 + h) 1 - κ (200 + h) 6) else min 30 n))) V (if κ (200 + h) 4 ≠ 0 then st2 κ (200 + h) 6 (κ (200 + h) 6 + min (min 30 n) (κ (200 + h) 1 - κ (200 + h) 6)) else st2 (st2 κ (200 + h) 6 (κ (200 + h) 6 + min (min 30 n) (κ (200 + h) 1 - κ (200 + h) 6))) 13 2 (bm (κ 13 2 + (min 30 n - min (min 30 n) (κ (200 + h) 1 - κ (200 + h) 6)))))) := by
  refine Ct.of (L := [some (Rf (200 + h)), some (Iv n), some (Rf 13), none, none]) 2 (by decide +kernel) rfl rfl ?_
  refine g_bipush 2 dX1_takeFrom_0 (by decide) rfl ?_
  refine g_iload_n 3 dX1_takeFrom_2 rfl rfl ?_
  refine e_S 6 0 0 [Iv 30, Iv n] [] dX1_takeFrom_3 csX1_34 mwJ9_min_7cf53 (by decide) rfl (Nat.le_of_ble_eq_true rfl) rfl rfl rfl (c_J9_min_7cf53 (by omega) (by omega)) ?_
  refine g_istore_n (L' := [some (Rf (200 + h)), some (Iv n), some (Rf 13), some (Iv (min 30 n)), none]) 7 dX1_takeFrom_6 rfl (by decide) rfl ?_
  refine g_iload_n 8 dX1_takeFrom_7 rfl rfl ?_
  refine g_aload_n 9 dX1_takeFrom_8 rfl rfl ?_
  refine e_V 12 0 0 [] [Iv (min 30 n)] dX1_takeFrom_9 cvX1_40 mwX1_roomInCistern (kd_H (by omega)) (by decide) rfl (Nat.le_of_ble_eq_true rfl) rfl rfl rfl (c_X1_roomInCistern (by omega)) ?_
  refine e_S 15 0 0 [Iv (min 30 n), Iv ((κ (200 + h) 1) - (κ (200 + h) 6))] [] dX1_takeFrom_12 csX1_34 mwJ9_min_7cf53 (by decide) rfl (Nat.le_of_ble_eq_true rfl) rfl rfl rfl (c_J9_min_7cf53 (by omega) (by omega)) ?_
  refine g_istore (L' := [some (Rf (200 + h)), some (Iv n), some (Rf 13), some (Iv (min 30 n)), some (Iv (min (min 30 n) ((κ (200 + h) 1) - (κ (200 + h) 6))))]) 17 dX1_takeFrom_15 rfl (by decide) rfl ?_
  refine g_aload_n 18 dX1_takeFrom_17 rfl rfl ?_
  refine g_dup 19 dX1_takeFrom_18 rfl ?_
  refine r_getI 22 (κ (200 + h) 6) dX1_takeFrom_19 fgX1_31 (kd_H (by omega)) (ly_H (by omega) 6) rfl (rfl) (fun r1 => ?_)
  refine g_iload 24 dX1_takeFrom_22 rfl rfl ?_
  refine g_iadd 25 dX1_takeFrom_24 rfl ?_
  refine g_putI 28 dX1_takeFrom_25 fpX1_31 (fun h => (nomatch h)) (kd_H (by omega)) (ly_H (by omega) 6) (by omega) rfl ?_
  refine g_aload_n 29 dX1_takeFrom_28 rfl rfl ?_
  refine r_getI 32 (κ (200 + h) 4) dX1_takeFrom_29 fgX1_27 (kd_H (by omega)) (ly_H (by omega) 4) rfl (rd_j (by decide) (rfl)) (fun r2 => ?_)
  refine g_if_eq 38 35 dX1_takeFrom_32 (by first | assumption | omega) (by decide) rfl (fun h3 => ?_) (fun h3 => ?_)
  · refine g_aload_n 39 dX1_takeFrom_38 rfl rfl ?_
    refine g_dup 40 dX1_takeFrom_39 rfl ?_
    refine r_getI 43 (κ 13 2) dX1_takeFrom_40 fgX1_44 kd_13 ly_13_2 rfl (rd_t (by omega) (rfl)) (fun r4 => ?_)
    refine g_iload_n 44 dX1_takeFrom_43 rfl rfl ?_
    refine g_iload 46 dX1_takeFrom_44 rfl rfl ?_
    refine g_isub 47 dX1_takeFrom_46 rfl ?_
    refine g_iadd 48 dX1_takeFrom_47 rfl ?_
    refine r_putIw 51 dX1_takeFrom_48 fpX1_44 (fun h => (nomatch h)) kd_13 ly_13_2 rfl ?_
    refine g_iload_n 52 dX1_takeFrom_51 rfl rfl ?_
    refine g_iret dX1_takeFrom_52 rfl ?_
    rw [if_neg (by omega), if_neg (by omega)]
    exact ⟨rfl, rfl, rfl⟩
  refine g_iload 37 dX1_takeFrom_35 rfl rfl ?_
  refine g_iret dX1_takeFrom_37 rfl ?_
  rw [if_pos (by omega), if_pos (by omega)]
  exact ⟨rfl, rfl, rfl⟩
set_option maxHeartbeats 4000000 in
set_option maxRecDepth 20000 in
theorem c_X1_use {B : Bs} {n0 : Nat} {V : Vs} {κ : Ks} {h : Nat} {n : Int} (h_h : h < 100) (h_n : 0 ≤ n ∧ n ≤ 20) (h_w : 0 ≤ κ (200 + h) 6 ∧ κ (200 + h) 6 ≤ 500) : Ct (XR B n0) mX1_use 1 0 0 [Rf (200 + h), Iv n] V κ (Ex none V (if κ (200 + h) 6 < n then st2 (st2 κ (200 + h) 6 0) (200 + h) 7 (bm (κ (200 + h) 7 + 1)) else st2 κ (200 + h) 6 (κ (200 + h) 6 - n))) := by
  refine Ct.of (L := [some (Rf (200 + h)), some (Iv n)]) 0 (by decide +kernel) rfl rfl ?_
  refine g_aload_n 1 dX1_use_0 rfl rfl ?_
  refine r_getI 4 (κ (200 + h) 6) dX1_use_1 fgX1_31 (kd_H (by omega)) (ly_H (by omega) 6) rfl (rfl) (fun r1 => ?_)
  refine g_iload_n 5 dX1_use_4 rfl rfl ?_
  refine g_icmp_ge 26 8 dX1_use_5 (by first | assumption | omega) (by first | assumption | omega) (by decide) rfl (fun h2 => ?_) (fun h2 => ?_)
  · refine g_aload_n 27 dX1_use_26 rfl rfl ?_
    refine g_dup 28 dX1_use_27 rfl ?_
    refine r_getI 31 (κ (200 + h) 6) dX1_use_28 fgX1_31 (kd_H (by omega)) (ly_H (by omega) 6) rfl (rfl) (fun r3 => ?_)
    refine g_iload_n 32 dX1_use_31 rfl rfl ?_
    refine g_isub 33 dX1_use_32 rfl ?_
    refine g_putI 36 dX1_use_33 fpX1_31 (fun h => (nomatch h)) (kd_H (by omega)) (ly_H (by omega) 6) (by omega) rfl ?_
    refine g_vret dX1_use_36 rfl ?_
    rw [if_neg (by omega)]
    exact ⟨rfl, rfl, rfl⟩
  refine g_aload_n 9 dX1_use_8 rfl rfl ?_
  refine g_iconst 10 dX1_use_9 (by decide) rfl ?_
  refine g_putI 13 dX1_use_10 fpX1_31 (fun h => (nomatch h)) (kd_H (by omega)) (ly_H (by omega) 6) (by omega) rfl ?_
  refine g_aload_n 14 dX1_use_13 rfl rfl ?_
  refine g_dup 15 dX1_use_14 rfl ?_
  refine r_getI 18 (κ (200 + h) 7) dX1_use_15 fgX1_49 (kd_H (by omega)) (ly_H (by omega) 7) rfl (rd_j (by decide) (rfl)) (fun r4 => ?_)
  refine g_iconst 19 dX1_use_18 (by decide) rfl ?_
  refine g_iadd 20 dX1_use_19 rfl ?_
  refine r_putIw 23 dX1_use_20 fpX1_49 (fun h => (nomatch h)) (kd_H (by omega)) (ly_H (by omega) 7) rfl ?_
  refine g_goto 36 dX1_use_23 (by decide) ?_
  refine g_vret dX1_use_36 rfl ?_
  rw [if_pos (by omega)]
  exact ⟨rfl, rfl, rfl⟩
set_option maxHeartbeats 4000000 in
set_option maxRecDepth 20000 in
theorem c_X7_hoursUntil {B : Bs} {n0 : Nat} {V : Vs} {κ : Ks} {t u : Nat} (h_t : t < 100) (h_u : u < 100) (h_1 : 0 ≤ κ (300 + t) 2 ∧ κ (300 + t) 2 ≤ 167) (h_2 : 0 ≤ κ (300 + u) 2 ∧ κ (300 + u) 2 ≤ 167) : Ct (XR B n0) mX7_hoursUntil 2 0 0 [Rf (300 + t), Rf (300 + u)] V κ (Ex (some (Iv ((κ (300 + u) 2 - κ (300 + t) 2) % 168))) V κ) := by
  refine Ct.of (L := [some (Rf (300 + t)), some (Rf (300 + u))]) 0 (by decide +kernel) rfl rfl ?_
  refine g_aload_n 1 dX7_hoursUntil_0 rfl rfl ?_
  refine r_getI 4 (κ (300 + u) 2) dX7_hoursUntil_1 fgX7_18 (kd_T (by omega)) (ly_T (by omega) 2) rfl (rfl) (fun r1 => ?_)
  refine g_aload_n 5 dX7_hoursUntil_4 rfl rfl ?_
  refine r_getI 8 (κ (300 + t) 2) dX7_hoursUntil_5 fgX7_18 (kd_T (by omega)) (ly_T (by omega) 2) rfl (rfl) (fun r2 => ?_)
  refine g_isub 9 dX7_hoursUntil_8 rfl ?_
  refine g_sipush 12 dX7_hoursUntil_9 (by decide) rfl ?_
  refine e_S 15 0 0 [Iv ((κ (300 + u) 2) - (κ (300 + t) 2)), Iv 168] [] dX7_hoursUntil_12 csX7_24 mwJ9_floorMod_7cf53 (by decide) rfl (Nat.le_of_ble_eq_true rfl) rfl rfl rfl (c_J9_floorMod_7cf53 (by omega)) ?_
  refine g_iret dX7_hoursUntil_15 rfl ?_
  exact ⟨rfl, rfl, rfl⟩
set_option maxHeartbeats 4000000 in
set_option maxRecDepth 20000 in
theorem c_X7_sharesHourWith {B : Bs} {n0 : Nat} {V : Vs} {κ : Ks} {t u : Nat} (h_t : t < 100) (h_u : u < 100) (h_1 : 0 ≤ κ (300 + t) 2 ∧ κ (300 + t) 2 ≤ 167) (h_2 : 0 ≤ κ (300 + u) 2 ∧ κ (300 + u) 2 ≤ 167) : Ct (XR B n0) mX7_sharesHourWith 3 0 0 [Rf (300 + t), Rf (300 + u)] V κ (Or2 V κ ((κ (300 + u) 2 - κ (300 + t) 2) % 168 < κ (300 + t) 3 ∨ (κ (300 + t) 2 - κ (300 + u) 2) % 168 < κ (300 + u) 3) (Iv 1) (κ (300 + t) 3 ≤ (κ (300 + u) 2 - κ (300 + t) 2) % 168 ∧ κ (300 + u) 3 ≤ (κ (300 + t) 2 - κ (300 + u) 2) % 168) (Iv 0)) := by
  refine Ct.of (L := [some (Rf (300 + t)), some (Rf (300 + u))]) 0 (by decide +kernel) rfl rfl ?_
  refine g_aload_n 1 dX7_sharesHourWith_0 rfl rfl ?_
  refine g_aload_n 2 dX7_sharesHourWith_1 rfl rfl ?_
  refine e_V 5 0 0 [Rf (300 + u)] [] dX7_sharesHourWith_2 cvX7_30 mwX7_hoursUntil (kd_T (by omega)) (by decide) rfl (Nat.le_of_ble_eq_true rfl) rfl rfl rfl (c_X7_hoursUntil (by omega) (by omega) (by omega) (by omega)) ?_
  refine g_aload_n 6 dX7_sharesHourWith_5 rfl rfl ?_
  refine r_getI 9 (κ (300 + t) 3) dX7_sharesHourWith_6 fgX7_21 (kd_T (by omega)) (ly_T (by omega) 3) rfl (rfl) (fun r1 => ?_)
  refine g_icmp_lt 24 12 dX7_sharesHourWith_9 (by first | assumption | omega) (by first | assumption | omega) (by decide) rfl (fun h2 => ?_) (fun h2 => ?_)
  · refine g_iconst 25 dX7_sharesHourWith_24 (by decide) rfl ?_
    refine g_goto 29 dX7_sharesHourWith_25 (by decide) ?_
    refine g_zret dX7_sharesHourWith_29 rfl (by omega) ?_
    exact ⟨rfl, rfl, Or.inl ⟨by omega, rfl⟩⟩
  refine g_aload_n 13 dX7_sharesHourWith_12 rfl rfl ?_
  refine g_aload_n 14 dX7_sharesHourWith_13 rfl rfl ?_
  refine e_V 17 0 0 [Rf (300 + t)] [] dX7_sharesHourWith_14 cvX7_30 mwX7_hoursUntil (kd_T (by omega)) (by decide) rfl (Nat.le_of_ble_eq_true rfl) rfl rfl rfl (c_X7_hoursUntil (by omega) (by omega) (by omega) (by omega)) ?_
  refine g_aload_n 18 dX7_sharesHourWith_17 rfl rfl ?_
  refine r_getI 21 (κ (300 + u) 3) dX7_sharesHourWith_18 fgX7_21 (kd_T (by omega)) (ly_T (by omega) 3) rfl (rfl) (fun r3 => ?_)
  refine g_icmp_ge 28 24 dX7_sharesHourWith_21 (by first | assumption | omega) (by first | assumption | omega) (by decide) rfl (fun h4 => ?_) (fun h4 => ?_)
  · refine g_iconst 29 dX7_sharesHourWith_28 (by decide) rfl ?_
    refine g_zret dX7_sharesHourWith_29 rfl (by omega) ?_
    exact ⟨rfl, rfl, Or.inr ⟨by omega, rfl⟩⟩
  refine g_iconst 25 dX7_sharesHourWith_24 (by decide) rfl ?_
  refine g_goto 29 dX7_sharesHourWith_25 (by decide) ?_
  refine g_zret dX7_sharesHourWith_29 rfl (by omega) ?_
  exact ⟨rfl, rfl, Or.inl ⟨by omega, rfl⟩⟩
set_option maxHeartbeats 4000000 in
set_option maxRecDepth 20000 in
theorem c_X3_rateFor {B : Bs} {n0 : Nat} {V : Vs} {κ : Ks} {l h : Nat} (h_l : l < 100) (h_h : h < 100) (h_c : 0 ≤ κ (200 + h) 1 ∧ κ (200 + h) 1 ≤ 500) : Ct (XR B n0) mX3_rateFor 1 0 0 [Rf (400 + l), Rf (200 + h)] V κ (Ex (some (Iv (κ (400 + l) 0 + κ (400 + l) 1 * κ (200 + h) 2 + κ (400 + l) 2 * (κ (200 + h) 1 / 10)))) V κ) := by
  refine Ct.of (L := [some (Rf (400 + l)), some (Rf (200 + h))]) 0 (by decide +kernel) rfl rfl ?_
  refine g_aload_n 1 dX3_rateFor_0 rfl rfl ?_
  refine r_getI 4 (κ (400 + l) 0) dX3_rateFor_1 fgX3_7 (kd_L (by omega)) (ly_L (by omega) 0) rfl (rfl) (fun r1 => ?_)
  refine g_aload_n 5 dX3_rateFor_4 rfl rfl ?_
  refine r_getI 8 (κ (400 + l) 1) dX3_rateFor_5 fgX3_13 (kd_L (by omega)) (ly_L (by omega) 1) rfl (rfl) (fun r2 => ?_)
  refine g_aload_n 9 dX3_rateFor_8 rfl rfl ?_
  refine r_getI 12 (κ (200 + h) 2) dX3_rateFor_9 fgX3_22 (kd_H (by omega)) (ly_H (by omega) 2) rfl (rfl) (fun r3 => ?_)
  refine g_imul 13 dX3_rateFor_12 rfl ?_
  refine g_iadd 14 dX3_rateFor_13 rfl ?_
  refine g_aload_n 15 dX3_rateFor_14 rfl rfl ?_
  refine r_getI 18 (κ (400 + l) 2) dX3_rateFor_15 fgX3_16 (kd_L (by omega)) (ly_L (by omega) 2) rfl (rfl) (fun r4 => ?_)
  refine g_aload_n 19 dX3_rateFor_18 rfl rfl ?_
  refine r_getI 22 (κ (200 + h) 1) dX3_rateFor_19 fgX3_27 (kd_H (by omega)) (ly_H (by omega) 1) rfl (rfl) (fun r5 => ?_)
  refine g_bipush 24 dX3_rateFor_22 (by decide) rfl ?_
  refine g_idiv 25 dX3_rateFor_24 (by omega) (by omega) rfl ?_
  refine g_imul 26 dX3_rateFor_25 rfl ?_
  refine g_iadd 27 dX3_rateFor_26 rfl ?_
  refine g_iret dX3_rateFor_27 rfl ?_
  exact ⟨rfl, rfl, rfl⟩
set_option maxHeartbeats 4000000 in
set_option maxRecDepth 20000 in
theorem c_X8_letStreets {B : Bs} {n0 : Nat} {V : Vs} {κ : Ks} {x : Int} (h_x : 0 ≤ x ∧ x ≤ 5000) : Ct (XR B n0) mX8_letStreets 2 0 0 [Rf 10, Iv x] V κ (Ex (some (Iv (κ 11 (x % 168).toNat))) V κ) := by
  refine Ct.of (L := [some (Rf 10), some (Iv x)]) 0 (by decide +kernel) rfl rfl ?_
  refine g_aload_n 1 dX8_letStreets_0 rfl rfl ?_
  refine g_getC 4 dX8_letStreets_1 fgX8_9 kd_10 ly_10_0 rfl ?_
  refine g_iload_n 5 dX8_letStreets_4 rfl rfl ?_
  refine g_sipush 8 dX8_letStreets_5 (by decide) rfl ?_
  refine e_S 11 0 0 [Iv x, Iv 168] [Rf 11] dX8_letStreets_8 csX8_18 mwJ9_floorMod_7cf53 (by decide) rfl (Nat.le_of_ble_eq_true rfl) rfl rfl rfl (c_J9_floorMod_7cf53 (by omega)) ?_
  refine r_iald 12 ((x % 168).toNat) (κ 11 ((x % 168).toNat)) dX8_letStreets_11 kd_11 (by decide) (by omega) (rfl) rfl (rfl) (fun r1 => ?_)
  refine g_iret dX8_letStreets_12 rfl ?_
  exact ⟨rfl, rfl, rfl⟩
set_option maxHeartbeats 4000000 in
set_option maxRecDepth 20000 in
theorem c_X8_openStreets {B : Bs} {n0 : Nat} {V : Vs} {κ : Ks} {x : Int} (h_x : 0 ≤ x ∧ x ≤ 5000) : Ct (XR B n0) mX8_openStreets 2 0 0 [Rf 10, Iv x] V κ (Ex (some (Iv (κ 12 (x % 168).toNat))) V κ) := by
  refine Ct.of (L := [some (Rf 10), some (Iv x)]) 0 (by decide +kernel) rfl rfl ?_
  refine g_aload_n 1 dX8_openStreets_0 rfl rfl ?_
  refine g_getC 4 dX8_openStreets_1 fgX8_15 kd_10 ly_10_1 rfl ?_
  refine g_iload_n 5 dX8_openStreets_4 rfl rfl ?_
  refine g_sipush 8 dX8_openStreets_5 (by decide) rfl ?_
  refine e_S 11 0 0 [Iv x, Iv 168] [Rf 12] dX8_openStreets_8 csX8_18 mwJ9_floorMod_7cf53 (by decide) rfl (Nat.le_of_ble_eq_true rfl) rfl rfl rfl (c_J9_floorMod_7cf53 (by omega)) ?_
  refine r_iald 12 ((x % 168).toNat) (κ 12 ((x % 168).toNat)) dX8_openStreets_11 kd_12 (by decide) (by omega) (rfl) rfl (rfl) (fun r1 => ?_)
  refine g_iret dX8_openStreets_12 rfl ?_
  exact ⟨rfl, rfl, rfl⟩
