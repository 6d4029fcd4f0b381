/-! the class: iron, the search (printed by wip/whole/gen58.py) -/
def IS (cs ws : Nat → Int) (n : Nat) (t : Int) (κ : Ks) : Prop := κ 16 0 = 0 ∧ (∀ x : Nat, 1 ≤ x → (x : Int) < t → κ 15 x = sumB cs x n ∧ κ 16 x = sumB ws x n) ∧ ∀ s : Nat, s < n → κ 15 (2 ^ s) = cs s ∧ κ 16 (2 ^ s) = ws s
theorem IS_one {cs ws : Nat → Int} {n q : Nat} {t : Int} {κ : Ks} (h : IS cs ws n t κ) (ht : t = 2 ^ q) (hq : q < n) : IS cs ws n (t + 1) κ := by
  refine ⟨h.1, fun x h1 h2 => ?_, h.2.2⟩
  by_cases e : (x : Int) = t
  · have ex : x = 2 ^ q := by
      have := pwN q
      omega
    rw [e, ht, sumB_pow, sumB_pow, if_pos hq, if_pos hq, ex]
    exact h.2.2 q hq
  · exact h.2.1 x h1 (by omega)
theorem IS_two {cs ws : Nat → Int} {n q : Nat} {t a b : Int} {κ : Ks} (h : IS cs ws n t κ) (ht : 1 ≤ t) (hq : bitI t q = 1) (hne : t ≠ 2 ^ q) (ha : a = sumB cs t n) (hb : b = sumB ws t n) : IS cs ws n (t + 1) (st2 (st2 κ 15 t.toNat a) 16 t.toNat b) := by
  refine ⟨?_, fun x h1 h2 => ?_, fun s hs => ?_⟩
  · rw [rd_ne (by omega), rd_ne (by omega)]
    exact h.1
  · by_cases e : (x : Int) = t
    · have ex : x = t.toNat := by omega
      rw [rd_ne (by omega), rd_eq rfl ex, rd_eq rfl ex, ha, hb, e]
      exact ⟨rfl, rfl⟩
    · rw [rd_ne (by omega), rd_ne (by omega), rd_ne (by omega), rd_ne (by omega)]
      exact h.2.1 x h1 (by omega)
  · have : 2 ^ s ≠ t.toNat := fun e => by
      have e2 : t = 2 ^ s := by
        have := pwN s
        omega
      rw [e2, bit_pow] at hq
      by_cases g : q = s
      · rw [g] at hne
        exact hne e2
      · rw [if_neg g] at hq
        omega
    rw [rd_ne (by omega), rd_ne (by omega), rd_ne (by omega), rd_ne (by omega)]
    exact h.2.2 s hs
set_option maxHeartbeats 4000000 in
set_option maxRecDepth 20000 in
theorem c_X8_hoursOpen {B : Bs} {n0 : Nat} {V : Vs} {κ : Ks} {s : Int} {μ : Ks} (hK : gK κ μ) (h_s : 0 ≤ s ∧ s < μ 40 11) (i5 : μ 40 11 ≤ 10) : Ct (XR B n0) mX8_hoursOpen 1 0 0 [Rf 10, Iv s] V κ (Ex (some (Iv (cntO μ s 168))) V κ) := by
  refine Ct.of (L := [some (Rf 10), some (Iv s), none, none]) 2 (by decide +kernel) rfl rfl ?_
  have lp : ∀ (m : Nat) (n x : Int), 0 ≤ x ∧ x ≤ 168 → (m : Int) = 168 - x → n = cntO μ s x.toNat → G (XR B n0) mX8_hoursOpen 1 (Ex (some (Iv (cntO μ s 168))) V κ) V 0 0 4 [some (Rf 10), some (Iv s), some (Iv n), some (Iv x)] [] V κ := by
    intro m
    induction m using Nat.strongRecOn with
    | ind m ih =>
      intro n x hx hm hn
      refine g_iload_n 5 dX8_hoursOpen_4 rfl rfl ?_
      refine g_sipush 8 dX8_hoursOpen_5 (by decide) rfl ?_
      refine g_icmp_ge 30 11 dX8_hoursOpen_8 (by first | assumption | omega) (by decide) (by decide) rfl (fun h101 => ?_) (fun h101 => ?_)
      · refine g_iload_n 31 dX8_hoursOpen_30 rfl rfl ?_
        refine g_iret dX8_hoursOpen_31 rfl ?_
        rw [hn, show x = 168 by omega]
        exact ⟨rfl, rfl, rfl⟩
      refine g_iload_n 12 dX8_hoursOpen_11 rfl rfl ?_
      refine g_aload_n 13 dX8_hoursOpen_12 rfl rfl ?_
      refine g_getC 16 dX8_hoursOpen_13 fgX8_15 kd_10 ly_10_1 rfl ?_
      refine g_iload_n 17 dX8_hoursOpen_16 rfl rfl ?_
      refine r_iald 18 ((x).toNat) (κ 12 ((x).toNat)) dX8_hoursOpen_17 kd_12 (by decide) (by omega) (rfl) rfl (rfl) (fun r102 => ?_)
      refine g_iload_n 19 dX8_hoursOpen_18 rfl rfl ?_
      refine g_ishr 20 dX8_hoursOpen_19 rfl ?_
      refine g_iconst 21 dX8_hoursOpen_20 (by decide) rfl ?_
      refine g_iand 22 dX8_hoursOpen_21 rfl ?_
      have hk := (hK x.toNat (by omega)).2
      refine G.eqi (bit_I ⟨hk.1, by omega⟩ (by omega)) ?_
      have hb := hk.2.2 s.toNat (by omega)
      rw [show ((s.toNat : Nat) : Int) = s by omega, show ((x.toNat : Nat) : Int) = x by omega] at hb
      have es : cntO μ s (x + 1).toNat = cntO μ s x.toNat + (if openB μ s x then 1 else 0) := by rw [show (x + 1).toNat = x.toNat + 1 by omega]; show cntO μ s x.toNat + (if openB μ s ((x.toNat : Nat) : Int) then 1 else 0) = _; rw [show ((x.toNat : Nat) : Int) = x by omega]
      have hb2 : bitI (κ 12 x.toNat) s.toNat = if openB μ s x then 1 else 0 := by rw [hb]; by_cases g : openB μ s x = true; (rw [if_pos ⟨h_s.2, g⟩, if_pos g]); (rw [if_neg (fun z => g z.2), if_neg g])
      refine g_iadd 23 dX8_hoursOpen_22 rfl ?_
      refine g_istore_n (L' := [some (Rf 10), some (Iv s), some (Iv (n + (bitI (κ 12 x.toNat) s.toNat))), some (Iv x)]) 24 dX8_hoursOpen_23 rfl (by decide) rfl ?_
      refine g_iinc (L' := [some (Rf 10), some (Iv s), some (Iv (n + (bitI (κ 12 x.toNat) s.toNat))), some (Iv (x + 1))]) 27 dX8_hoursOpen_24 rfl rfl (by decide) rfl ?_
      refine g_goto 4 dX8_hoursOpen_27 (by decide) ?_
      exact ih (m - 1) (by omega) _ (x + 1) (by omega) (by omega) (by rw [es, hn, hb2])
  refine g_iconst 1 dX8_hoursOpen_0 (by decide) rfl ?_
  refine g_istore_n (L' := [some (Rf 10), some (Iv s), some (Iv 0), none]) 2 dX8_hoursOpen_1 rfl (by decide) rfl ?_
  refine g_iconst 3 dX8_hoursOpen_2 (by decide) rfl ?_
  refine g_istore_n (L' := [some (Rf 10), some (Iv s), some (Iv 0), some (Iv 0)]) 4 dX8_hoursOpen_3 rfl (by decide) rfl ?_
  exact lp 168 0 0 (by omega) (by omega) rfl
set_option maxHeartbeats 4000000 in
set_option maxRecDepth 20000 in
theorem c_X2_tell {B : Bs} {n0 : Nat} {V : Vs} {κ : Ks} {s c u : Int} (h_s : 0 ≤ s ∧ s < 10) (r_c : inR c) (r_u : inR u) : Ct (XR B n0) mX2_tell 1 0 0 [Rf 14, Iv s, Iv c, Iv u] V κ (Ex none V (st2 (st2 κ 15 (2 ^ s.toNat) c) 16 (2 ^ s.toNat) u)) := by
  have p2 := pw_le (show s.toNat ≤ 9 by omega)
  have p1 : (0 : Int) < 2 ^ s.toNat := Int.pow_pos (by decide)
  refine Ct.of (L := [some (Rf 14), some (Iv s), some (Iv c), some (Iv u)]) 0 (by decide +kernel) rfl rfl ?_
  refine g_aload_n 1 dX2_tell_0 rfl rfl ?_
  refine g_getC 4 dX2_tell_1 fgX2_9 kd_14 ly_14_0 rfl ?_
  refine g_iconst 5 dX2_tell_4 (by decide) rfl ?_
  refine g_iload_n 6 dX2_tell_5 rfl rfl ?_
  refine g_ishl 7 dX2_tell_6 rfl ?_
  refine G.eqi (pow_I (s := s) (by omega)) ?_
  refine g_iload_n 8 dX2_tell_7 rfl rfl ?_
  refine r_iast 9 (((2 : Int) ^ s.toNat).toNat) dX2_tell_8 kd_15 (by decide) ly_15 (by omega) (rfl) (by omega) rfl ?_
  refine g_aload_n 10 dX2_tell_9 rfl rfl ?_
  refine g_getC 13 dX2_tell_10 fgX2_15 kd_14 ly_14_1 rfl ?_
  refine g_iconst 14 dX2_tell_13 (by decide) rfl ?_
  refine g_iload_n 15 dX2_tell_14 rfl rfl ?_
  refine g_ishl 16 dX2_tell_15 rfl ?_
  refine G.eqi (pow_I (s := s) (by omega)) ?_
  refine g_iload_n 17 dX2_tell_16 rfl rfl ?_
  refine r_iast 18 (((2 : Int) ^ s.toNat).toNat) dX2_tell_17 kd_16 (by decide) ly_16 (by omega) (rfl) (by omega) rfl ?_
  refine g_vret dX2_tell_18 rfl ?_
  rw [pwN]
  exact ⟨rfl, rfl, rfl⟩
set_option maxHeartbeats 4000000 in
set_option maxRecDepth 20000 in
theorem c_X2_worthOf {B : Bs} {n0 : Nat} {V : Vs} {κ : Ks} {s : Int} (h_s : 0 ≤ s ∧ s < 1024) : Ct (XR B n0) mX2_worthOf 1 0 0 [Rf 14, Iv s] V κ (Ex (some (Iv (κ 16 s.toNat))) V κ) := by
  refine Ct.of (L := [some (Rf 14), some (Iv s)]) 0 (by decide +kernel) rfl rfl ?_
  refine g_aload_n 1 dX2_worthOf_0 rfl rfl ?_
  refine g_getC 4 dX2_worthOf_1 fgX2_15 kd_14 ly_14_1 rfl ?_
  refine g_iload_n 5 dX2_worthOf_4 rfl rfl ?_
  refine r_iald 6 ((s).toNat) (κ 16 ((s).toNat)) dX2_worthOf_5 kd_16 (by decide) (by omega) (rfl) rfl (rfl) (fun r1 => ?_)
  refine g_iret dX2_worthOf_6 rfl ?_
  exact ⟨rfl, rfl, rfl⟩
set_option maxHeartbeats 4000000 in
set_option maxRecDepth 20000 in
theorem c_X2_isBetter {B : Bs} {n0 : Nat} {V : Vs} {κ : Ks} {x y : Int} (h_x : 0 ≤ x ∧ x < 1024) (h_y : 0 ≤ y ∧ y < 1024) : Ct (XR B n0) mX2_isBetter 2 0 0 [Rf 14, Iv x, Iv y] V κ (Or2 V κ (κ 16 y.toNat < κ 16 x.toNat ∨ κ 16 x.toNat = κ 16 y.toNat ∧ pc2 32 x < pc2 32 y) (Iv 1) (¬ (κ 16 y.toNat < κ 16 x.toNat ∨ κ 16 x.toNat = κ 16 y.toNat ∧ pc2 32 x < pc2 32 y)) (Iv 0)) := by
  have px := pc2_R 32 x
  have py := pc2_R 32 y
  refine Ct.of (L := [some (Rf 14), some (Iv x), some (Iv y)]) 0 (by decide +kernel) rfl rfl ?_
  refine g_aload_n 1 dX2_isBetter_0 rfl rfl ?_
  refine g_getC 4 dX2_isBetter_1 fgX2_15 kd_14 ly_14_1 rfl ?_
  refine g_iload_n 5 dX2_isBetter_4 rfl rfl ?_
  refine r_iald 6 ((x).toNat) (κ 16 ((x).toNat)) dX2_isBetter_5 kd_16 (by decide) (by omega) (rfl) rfl (rfl) (fun r1 => ?_)
  refine g_aload_n 7 dX2_isBetter_6 rfl rfl ?_
  refine g_getC 10 dX2_isBetter_7 fgX2_15 kd_14 ly_14_1 rfl ?_
  refine g_iload_n 11 dX2_isBetter_10 rfl rfl ?_
  refine r_iald 12 ((y).toNat) (κ 16 ((y).toNat)) dX2_isBetter_11 kd_16 (by decide) (by omega) (rfl) rfl (rfl) (fun r2 => ?_)
  refine g_icmp_eq 36 15 dX2_isBetter_12 (by first | assumption | omega) (by first | assumption | omega) (by decide) rfl (fun h3 => ?_) (fun h3 => ?_)
  · refine g_iload_n 37 dX2_isBetter_36 rfl rfl ?_
    refine e_S 40 0 0 [Iv x] [] dX2_isBetter_37 csX2_22 mwJ6_bitCount_0f7a4 (by decide) rfl (Nat.le_of_ble_eq_true rfl) rfl rfl rfl (c_J6_bitCount_0f7a4 (by omega)) ?_
    refine g_iload_n 41 dX2_isBetter_40 rfl rfl ?_
    refine e_S 44 0 0 [Iv y] [Iv (pc2 32 x)] dX2_isBetter_41 csX2_22 mwJ6_bitCount_0f7a4 (by decide) rfl (Nat.le_of_ble_eq_true rfl) rfl rfl rfl (c_J6_bitCount_0f7a4 (by omega)) ?_
    refine g_icmp_ge 51 47 dX2_isBetter_44 (by first | assumption | omega) (by first | assumption | omega) (by decide) rfl (fun h4 => ?_) (fun h4 => ?_)
    · refine g_iconst 52 dX2_isBetter_51 (by decide) rfl ?_
      refine g_zret dX2_isBetter_52 rfl (by omega) ?_
      exact ⟨rfl, rfl, Or.inr ⟨by omega, rfl⟩⟩
    refine g_iconst 48 dX2_isBetter_47 (by decide) rfl ?_
    refine g_goto 52 dX2_isBetter_48 (by decide) ?_
    refine g_zret dX2_isBetter_52 rfl (by omega) ?_
    exact ⟨rfl, rfl, Or.inl ⟨by omega, rfl⟩⟩
  refine g_aload_n 16 dX2_isBetter_15 rfl rfl ?_
  refine g_getC 19 dX2_isBetter_16 fgX2_15 kd_14 ly_14_1 rfl ?_
  refine g_iload_n 20 dX2_isBetter_19 rfl rfl ?_
  refine r_iald 21 ((x).toNat) (κ 16 ((x).toNat)) dX2_isBetter_20 kd_16 (by decide) (by omega) (rfl) rfl (rfl) (fun r5 => ?_)
  refine g_aload_n 22 dX2_isBetter_21 rfl rfl ?_
  refine g_getC 25 dX2_isBetter_22 fgX2_15 kd_14 ly_14_1 rfl ?_
  refine g_iload_n 26 dX2_isBetter_25 rfl rfl ?_
  refine r_iald 27 ((y).toNat) (κ 16 ((y).toNat)) dX2_isBetter_26 kd_16 (by decide) (by omega) (rfl) rfl (rfl) (fun r6 => ?_)
  refine g_icmp_le 34 30 dX2_isBetter_27 (by first | assumption | omega) (by first | assumption | omega) (by decide) rfl (fun h7 => ?_) (fun h7 => ?_)
  · refine g_iconst 35 dX2_isBetter_34 (by decide) rfl ?_
    refine g_zret dX2_isBetter_35 rfl (by omega) ?_
    exact ⟨rfl, rfl, Or.inr ⟨by omega, rfl⟩⟩
  refine g_iconst 31 dX2_isBetter_30 (by decide) rfl ?_
  refine g_goto 35 dX2_isBetter_31 (by decide) ?_
  refine g_zret dX2_isBetter_35 rfl (by omega) ?_
  exact ⟨rfl, rfl, Or.inl ⟨by omega, rfl⟩⟩
set_option maxHeartbeats 4000000 in
set_option maxRecDepth 20000 in
theorem c_X2_bestSet {B : Bs} {n0 : Nat} {V : Vs} {κ : Ks} {n : Nat} {sum : Int} {cs ws : Nat → Int} (h_n : n ≤ 10) (r_s : inR sum) (hcs : ∀ s, s < n → 0 ≤ cs s ∧ cs s ≤ 10001) (hws : ∀ s, s < n → 0 ≤ ws s ∧ ws s ≤ 6720) (h0 : κ 16 0 = 0) (hp : ∀ s, s < n → κ 15 (2 ^ s) = cs s ∧ κ 16 (2 ^ s) = ws s) : Ct (XR B n0) mX2_bestSet 3 0 0 [Rf 14, Iv (n : Int), Iv sum] V κ (fun r V1 κ1 => r = some (Iv (bstG cs ws n sum (2 ^ n - 1)).2) ∧ V1 = V ∧ (∀ q, q ≠ 15 → q ≠ 16 → κ1 q = κ q) ∧ κ1 16 0 = 0 ∧ κ1 16 (bstG cs ws n sum (2 ^ n - 1)).2.toNat = (bstG cs ws n sum (2 ^ n - 1)).1) := by
  have pn := pw_le h_n
  have pn0 : (0 : Int) < 2 ^ n := Int.pow_pos (by decide)
  refine Ct.of (L := [some (Rf 14), some (Iv (n : Int)), some (Iv sum), none, none, none]) 3 (by decide +kernel) rfl rfl ?_
  have lp : ∀ (m : Nat) (b t : Int) (u5 : Option Av) (κ2 : Ks), 1 ≤ t ∧ t ≤ 2 ^ n → (m : Int) = 2 ^ n - t → IS cs ws n t κ2 → (∀ q, q ≠ 15 → q ≠ 16 → κ2 q = κ q) → b = (bstG cs ws n sum (t - 1).toNat).2 → G (XR B n0) mX2_bestSet 3 (fun r V1 κ1 => r = some (Iv (bstG cs ws n sum (2 ^ n - 1)).2) ∧ V1 = V ∧ (∀ q, q ≠ 15 → q ≠ 16 → κ1 q = κ q) ∧ κ1 16 0 = 0 ∧ κ1 16 (bstG cs ws n sum (2 ^ n - 1)).2.toNat = (bstG cs ws n sum (2 ^ n - 1)).1) V 0 0 5 [some (Rf 14), some (Iv (n : Int)), some (Iv sum), some (Iv b), some (Iv t), u5] [] V κ2 := by
    intro m
    induction m using Nat.strongRecOn with
    | ind m ih =>
      intro b t u5 κ2 ht hm hIS fr hb
      refine g_iload 7 dX2_bestSet_5 rfl rfl ?_
      refine g_iconst 8 dX2_bestSet_7 (by decide) rfl ?_
      refine g_iload_n 9 dX2_bestSet_8 rfl rfl ?_
      refine g_ishl 10 dX2_bestSet_9 rfl ?_
      refine G.eqi (show bShl 1 (n : Int) = 2 ^ n from pow_I (s := (n : Int)) (by omega)) ?_
      refine g_icmp_ge 108 13 dX2_bestSet_10 (by first | assumption | omega) (by first | assumption | omega) (by decide) rfl (fun h101 => ?_) (fun h101 => ?_)
      · refine g_iload_n 109 dX2_bestSet_108 rfl rfl ?_
        refine g_iret dX2_bestSet_109 rfl ?_
        have bR := bstG_R cs ws n sum (2 ^ n - 1)
        have e1 : (t - 1).toNat = 2 ^ n - 1 := by have := pwN n; omega
        rw [e1] at hb
        refine ⟨by rw [hb], rfl, fr, hIS.1, ?_⟩
        rw [bR.2, ← hb]
        by_cases e0 : b = 0
        · rw [e0, sumB_0]; exact hIS.1
        · exact (hIS.2.1 b.toNat (by omega) (by have := pwN n; omega)).2.trans (by rw [show ((b.toNat : Nat) : Int) = b by omega])
      refine g_iload 15 dX2_bestSet_13 rfl rfl ?_
      refine g_iload 17 dX2_bestSet_15 rfl rfl ?_
      refine g_ineg 18 dX2_bestSet_17 rfl ?_
      refine g_iand 19 dX2_bestSet_18 rfl ?_
      obtain ⟨q, q1, q2, q3, q4, q5, q6⟩ := low_I (t := t) (by omega)
      refine G.eqi q2 ?_
      have qp : (0 : Int) < 2 ^ q := Int.pow_pos (by decide)
      have qn : q < n := pw_lt (by omega)
      have c1 := sumB_R hcs (by decide) (t - 2 ^ q) n (Nat.le_refl n)
      have c2 := sumB_R hws (by decide) (t - 2 ^ q) n (Nat.le_refl n)
      have c3 := hcs q qn
      have c4 := hws q qn
      have d1 := sumB_cut (f := cs) q3 q5 (fun u hu => q6 u (by omega)) n (Nat.le_refl n)
      have d2 := sumB_cut (f := ws) q3 q5 (fun u hu => q6 u (by omega)) n (Nat.le_refl n)
      rw [if_pos qn] at d1 d2
      have bR := bstG_R cs ws n sum (t - 1).toNat
      refine g_istore (L' := [some (Rf 14), some (Iv (n : Int)), some (Iv sum), some (Iv b), some (Iv t), some (Iv ((2 : Int) ^ q))]) 21 dX2_bestSet_19 rfl (by decide) rfl ?_
      refine g_iload 23 dX2_bestSet_21 rfl rfl ?_
      refine g_iload 25 dX2_bestSet_23 rfl rfl ?_
      refine g_icmp_eq 78 28 dX2_bestSet_25 (by first | assumption | omega) (by first | assumption | omega) (by decide) rfl (fun h102 => ?_) (fun h102 => ?_)
      · refine g_aload_n 79 dX2_bestSet_78 rfl rfl ?_
        refine g_getC 82 dX2_bestSet_79 fgX2_9 kd_14 ly_14_0 rfl ?_
        refine g_iload 84 dX2_bestSet_82 rfl rfl ?_
        refine r_iald 85 ((t).toNat) (κ2 15 ((t).toNat)) dX2_bestSet_84 kd_15 (by decide) (by omega) (rfl) rfl (rfl) (fun r103 => ?_)
        have et : t = 2 ^ q := by omega
        refine G.eqi (show (κ2 15 ((t).toNat)) = sumB cs t n from by rw [et, pwN, sumB_pow, if_pos qn]; exact (hIS.2.2 q qn).1) ?_
        refine g_iload_n 86 dX2_bestSet_85 rfl rfl ?_
        refine g_icmp_gt 102 89 dX2_bestSet_86 (by first | assumption | omega) (by first | assumption | omega) (by decide) rfl (fun h104 => ?_) (fun h104 => ?_)
        · refine g_iinc (L' := [some (Rf 14), some (Iv (n : Int)), some (Iv sum), some (Iv b), some (Iv (t + 1)), some (Iv ((2 : Int) ^ q))]) 105 dX2_bestSet_102 rfl rfl (by decide) rfl ?_
          refine g_goto 5 dX2_bestSet_105 (by decide) ?_
          have hIS1 : IS cs ws n (t + 1) κ2 := by first | exact hIS1 | exact IS_one hIS (show t = 2 ^ q by omega) qn | exact IS_two hIS (by omega) q3 (by omega) d1.symm d2.symm
          have es : bstG cs ws n sum (t + 1 - 1).toNat = bstG cs ws n sum ((t - 1).toNat + 1) := by rw [show (t + 1 - 1).toNat = (t - 1).toNat + 1 by omega]
          rw [bstG_s, show (((t - 1).toNat : Nat) : Int) + 1 = t by omega] at es
          rw [if_neg (fun z => by have z1 := z.1; have z2 := z.2; rw [← hb] at z2; omega)] at es
          exact ih (m - 1) (by omega) b (t + 1) _ _ (by omega) (by omega) hIS1 (fun x h1 h2 => fr x h1 h2) (by rw [es]; exact hb)
        have hIS1 : IS cs ws n (t + 1) κ2 := IS_one hIS (show t = 2 ^ q by omega) qn
        have eT : κ2 16 t.toNat = sumB ws t n := (hIS1.2.1 t.toNat (by omega) (by omega)).2.trans (by rw [show ((t.toNat : Nat) : Int) = t by omega])
        have eB : κ2 16 b.toNat = (bstG cs ws n sum (t - 1).toNat).1 := by
          rw [bR.2, ← hb]
          by_cases e0 : b = 0
          · rw [e0, sumB_0]; exact hIS1.1
          · exact (hIS1.2.1 b.toNat (by omega) (by omega)).2.trans (by rw [show ((b.toNat : Nat) : Int) = b by omega])
        refine g_aload_n 90 dX2_bestSet_89 rfl rfl ?_
        refine g_iload 92 dX2_bestSet_90 rfl rfl ?_
        refine g_iload_n 93 dX2_bestSet_92 rfl rfl ?_
        refine o_V 96 0 0 [Iv t, Iv b] [] dX2_bestSet_93 cvX2_18 mwX2_isBetter kd_14 (by decide) rfl (Nat.le_of_ble_eq_true rfl) rfl rfl rfl (c_X2_isBetter (by omega) (by omega)) (fun h105 => ?_) (fun h105 => ?_)
        · refine g_if_eq 102 99 dX2_bestSet_96 (by decide) (by decide) rfl (fun z => absurd z (by decide)) (fun _ => ?_)
          refine g_iload 101 dX2_bestSet_99 rfl rfl ?_
          refine g_istore_n (L' := [some (Rf 14), some (Iv (n : Int)), some (Iv sum), some (Iv t), some (Iv t), some (Iv ((2 : Int) ^ q))]) 102 dX2_bestSet_101 rfl (by decide) rfl ?_
          refine g_iinc (L' := [some (Rf 14), some (Iv (n : Int)), some (Iv sum), some (Iv t), some (Iv (t + 1)), some (Iv ((2 : Int) ^ q))]) 105 dX2_bestSet_102 rfl rfl (by decide) rfl ?_
          refine g_goto 5 dX2_bestSet_105 (by decide) ?_
          have es : bstG cs ws n sum (t + 1 - 1).toNat = bstG cs ws n sum ((t - 1).toNat + 1) := by rw [show (t + 1 - 1).toNat = (t - 1).toNat + 1 by omega]
          rw [bstG_s, show (((t - 1).toNat : Nat) : Int) + 1 = t by omega] at es
          rw [if_pos ⟨by omega, by rw [← hb]; omega⟩] at es
          exact ih (m - 1) (by omega) t (t + 1) _ _ (by omega) (by omega) hIS1 (fun x h1 h2 => fr x h1 h2) (by rw [es])
        refine g_if_eq 102 99 dX2_bestSet_96 (by decide) (by decide) rfl (fun _ => ?_) (fun z => absurd z (by decide))
        refine g_iinc (L' := [some (Rf 14), some (Iv (n : Int)), some (Iv sum), some (Iv b), some (Iv (t + 1)), some (Iv ((2 : Int) ^ q))]) 105 dX2_bestSet_102 rfl rfl (by decide) rfl ?_
        refine g_goto 5 dX2_bestSet_105 (by decide) ?_
        have hIS1 : IS cs ws n (t + 1) κ2 := by first | exact hIS1 | exact IS_one hIS (show t = 2 ^ q by omega) qn | exact IS_two hIS (by omega) q3 (by omega) d1.symm d2.symm
        have es : bstG cs ws n sum (t + 1 - 1).toNat = bstG cs ws n sum ((t - 1).toNat + 1) := by rw [show (t + 1 - 1).toNat = (t - 1).toNat + 1 by omega]
        rw [bstG_s, show (((t - 1).toNat : Nat) : Int) + 1 = t by omega] at es
        rw [if_neg (fun z => by have z1 := z.1; have z2 := z.2; rw [← hb] at z2; omega)] at es
        exact ih (m - 1) (by omega) b (t + 1) _ _ (by omega) (by omega) hIS1 (fun x h1 h2 => fr x h1 h2) (by rw [es]; exact hb)
      refine g_aload_n 29 dX2_bestSet_28 rfl rfl ?_
      refine g_getC 32 dX2_bestSet_29 fgX2_9 kd_14 ly_14_0 rfl ?_
      refine g_iload 34 dX2_bestSet_32 rfl rfl ?_
      refine g_aload_n 35 dX2_bestSet_34 rfl rfl ?_
      refine g_getC 38 dX2_bestSet_35 fgX2_9 kd_14 ly_14_0 rfl ?_
      refine g_iload 40 dX2_bestSet_38 rfl rfl ?_
      refine g_iload 42 dX2_bestSet_40 rfl rfl ?_
      refine g_isub 43 dX2_bestSet_42 rfl ?_
      refine r_iald 44 ((t - ((2 : Int) ^ q)).toNat) (κ2 15 ((t - ((2 : Int) ^ q)).toNat)) dX2_bestSet_43 kd_15 (by decide) (by omega) (rfl) rfl (rfl) (fun r106 => ?_)
      refine G.eqi (show (κ2 15 ((t - ((2 : Int) ^ q)).toNat)) = (sumB cs (t - 2 ^ q) n) from (hIS.2.1 (t - 2 ^ q).toNat (by omega) (by omega)).1.trans (by rw [show (((t - 2 ^ q).toNat : Nat) : Int) = t - 2 ^ q by omega])) ?_
      refine g_aload_n 45 dX2_bestSet_44 rfl rfl ?_
      refine g_getC 48 dX2_bestSet_45 fgX2_9 kd_14 ly_14_0 rfl ?_
      refine g_iload 50 dX2_bestSet_48 rfl rfl ?_
      refine r_iald 51 (((2 : Int) ^ q).toNat) (κ2 15 (((2 : Int) ^ q).toNat)) dX2_bestSet_50 kd_15 (by decide) (by omega) (rfl) rfl (rfl) (fun r107 => ?_)
      refine G.eqi (show (κ2 15 (((2 : Int) ^ q).toNat)) = (cs q) from by rw [pwN]; exact (hIS.2.2 q qn).1) ?_
      refine g_iadd 52 dX2_bestSet_51 rfl ?_
      refine r_iast 53 ((t).toNat) dX2_bestSet_52 kd_15 (by decide) ly_15 (by omega) (rfl) (by omega) rfl ?_
      refine g_aload_n 54 dX2_bestSet_53 rfl rfl ?_
      refine g_getC 57 dX2_bestSet_54 fgX2_15 kd_14 ly_14_1 rfl ?_
      refine g_iload 59 dX2_bestSet_57 rfl rfl ?_
      refine g_aload_n 60 dX2_bestSet_59 rfl rfl ?_
      refine g_getC 63 dX2_bestSet_60 fgX2_15 kd_14 ly_14_1 rfl ?_
      refine g_iload 65 dX2_bestSet_63 rfl rfl ?_
      refine g_iload 67 dX2_bestSet_65 rfl rfl ?_
      refine g_isub 68 dX2_bestSet_67 rfl ?_
      refine r_iald 69 ((t - ((2 : Int) ^ q)).toNat) (κ2 16 ((t - ((2 : Int) ^ q)).toNat)) dX2_bestSet_68 kd_16 (by decide) (by omega) (rfl) rfl (rd_t (by decide) (rfl)) (fun r108 => ?_)
      refine G.eqi (show (κ2 16 ((t - ((2 : Int) ^ q)).toNat)) = (sumB ws (t - 2 ^ q) n) from (hIS.2.1 (t - 2 ^ q).toNat (by omega) (by omega)).2.trans (by rw [show (((t - 2 ^ q).toNat : Nat) : Int) = t - 2 ^ q by omega])) ?_
      refine g_aload_n 70 dX2_bestSet_69 rfl rfl ?_
      refine g_getC 73 dX2_bestSet_70 fgX2_15 kd_14 ly_14_1 rfl ?_
      refine g_iload 75 dX2_bestSet_73 rfl rfl ?_
      refine r_iald 76 (((2 : Int) ^ q).toNat) (κ2 16 (((2 : Int) ^ q).toNat)) dX2_bestSet_75 kd_16 (by decide) (by omega) (rfl) rfl (rd_t (by decide) (rfl)) (fun r109 => ?_)
      refine G.eqi (show (κ2 16 (((2 : Int) ^ q).toNat)) = (ws q) from by rw [pwN]; exact (hIS.2.2 q qn).2) ?_
      refine g_iadd 77 dX2_bestSet_76 rfl ?_
      refine r_iast 78 ((t).toNat) dX2_bestSet_77 kd_16 (by decide) ly_16 (by omega) (rfl) (by omega) rfl ?_
      refine g_aload_n 79 dX2_bestSet_78 rfl rfl ?_
      refine g_getC 82 dX2_bestSet_79 fgX2_9 kd_14 ly_14_0 rfl ?_
      refine g_iload 84 dX2_bestSet_82 rfl rfl ?_
      refine r_iald 85 ((t).toNat) (((sumB cs (t - 2 ^ q) n) + (cs q))) dX2_bestSet_84 kd_15 (by decide) (by omega) (rfl) rfl (rd_t (by decide) (rd_s rfl rfl rfl)) (fun r110 => ?_)
      refine G.eqi (show ((sumB cs (t - 2 ^ q) n) + (cs q)) = sumB cs t n from by omega) ?_
      refine g_iload_n 86 dX2_bestSet_85 rfl rfl ?_
      refine g_icmp_gt 102 89 dX2_bestSet_86 (by first | assumption | omega) (by first | assumption | omega) (by decide) rfl (fun h111 => ?_) (fun h111 => ?_)
      · refine g_iinc (L' := [some (Rf 14), some (Iv (n : Int)), some (Iv sum), some (Iv b), some (Iv (t + 1)), some (Iv ((2 : Int) ^ q))]) 105 dX2_bestSet_102 rfl rfl (by decide) rfl ?_
        refine g_goto 5 dX2_bestSet_105 (by decide) ?_
        have hIS1 : IS cs ws n (t + 1) (st2 (st2 κ2 15 ((t).toNat) ((sumB cs (t - 2 ^ q) n) + (cs q))) 16 ((t).toNat) ((sumB ws (t - 2 ^ q) n) + (ws q))) := by first | exact hIS1 | exact IS_one hIS (show t = 2 ^ q by omega) qn | exact IS_two hIS (by omega) q3 (by omega) d1.symm d2.symm
        have es : bstG cs ws n sum (t + 1 - 1).toNat = bstG cs ws n sum ((t - 1).toNat + 1) := by rw [show (t + 1 - 1).toNat = (t - 1).toNat + 1 by omega]
        rw [bstG_s, show (((t - 1).toNat : Nat) : Int) + 1 = t by omega] at es
        rw [if_neg (fun z => by have z1 := z.1; have z2 := z.2; rw [← hb] at z2; omega)] at es
        exact ih (m - 1) (by omega) b (t + 1) _ _ (by omega) (by omega) hIS1 (fun x h1 h2 => (st2_t h2).trans ((st2_t h1).trans (fr x h1 h2))) (by rw [es]; exact hb)
      have hIS1 : IS cs ws n (t + 1) (st2 (st2 κ2 15 ((t).toNat) ((sumB cs (t - 2 ^ q) n) + (cs q))) 16 ((t).toNat) ((sumB ws (t - 2 ^ q) n) + (ws q))) := IS_two hIS (by omega) q3 (by omega) d1.symm d2.symm
      have eT : (st2 (st2 κ2 15 ((t).toNat) ((sumB cs (t - 2 ^ q) n) + (cs q))) 16 ((t).toNat) ((sumB ws (t - 2 ^ q) n) + (ws q))) 16 t.toNat = sumB ws t n := (hIS1.2.1 t.toNat (by omega) (by omega)).2.trans (by rw [show ((t.toNat : Nat) : Int) = t by omega])
      have eB : (st2 (st2 κ2 15 ((t).toNat) ((sumB cs (t - 2 ^ q) n) + (cs q))) 16 ((t).toNat) ((sumB ws (t - 2 ^ q) n) + (ws q))) 16 b.toNat = (bstG cs ws n sum (t - 1).toNat).1 := by
        rw [bR.2, ← hb]
        by_cases e0 : b = 0
        · rw [e0, sumB_0]; exact hIS1.1
        · exact (hIS1.2.1 b.toNat (by omega) (by omega)).2.trans (by rw [show ((b.toNat : Nat) : Int) = b by omega])
      refine g_aload_n 90 dX2_bestSet_89 rfl rfl ?_
      refine g_iload 92 dX2_bestSet_90 rfl rfl ?_
      refine g_iload_n 93 dX2_bestSet_92 rfl rfl ?_
      refine o_V 96 0 0 [Iv t, Iv b] [] dX2_bestSet_93 cvX2_18 mwX2_isBetter kd_14 (by decide) rfl (Nat.le_of_ble_eq_true rfl) rfl rfl rfl (c_X2_isBetter (by omega) (by omega)) (fun h112 => ?_) (fun h112 => ?_)
      · refine g_if_eq 102 99 dX2_bestSet_96 (by decide) (by decide) rfl (fun z => absurd z (by decide)) (fun _ => ?_)
        refine g_iload 101 dX2_bestSet_99 rfl rfl ?_
        refine g_istore_n (L' := [some (Rf 14), some (Iv (n : Int)), some (Iv sum), some (Iv t), some (Iv t), some (Iv ((2 : Int) ^ q))]) 102 dX2_bestSet_101 rfl (by decide) rfl ?_
        refine g_iinc (L' := [some (Rf 14), some (Iv (n : Int)), some (Iv sum), some (Iv t), some (Iv (t + 1)), some (Iv ((2 : Int) ^ q))]) 105 dX2_bestSet_102 rfl rfl (by decide) rfl ?_
        refine g_goto 5 dX2_bestSet_105 (by decide) ?_
        have es : bstG cs ws n sum (t + 1 - 1).toNat = bstG cs ws n sum ((t - 1).toNat + 1) := by rw [show (t + 1 - 1).toNat = (t - 1).toNat + 1 by omega]
        rw [bstG_s, show (((t - 1).toNat : Nat) : Int) + 1 = t by omega] at es
        rw [if_pos ⟨by omega, by rw [← hb]; omega⟩] at es
        exact ih (m - 1) (by omega) t (t + 1) _ _ (by omega) (by omega) hIS1 (fun x h1 h2 => (st2_t h2).trans ((st2_t h1).trans (fr x h1 h2))) (by rw [es])
      refine g_if_eq 102 99 dX2_bestSet_96 (by decide) (by decide) rfl (fun _ => ?_) (fun z => absurd z (by decide))
      refine g_iinc (L' := [some (Rf 14), some (Iv (n : Int)), some (Iv sum), some (Iv b), some (Iv (t + 1)), some (Iv ((2 : Int) ^ q))]) 105 dX2_bestSet_102 rfl rfl (by decide) rfl ?_
      refine g_goto 5 dX2_bestSet_105 (by decide) ?_
      have hIS1 : IS cs ws n (t + 1) (st2 (st2 κ2 15 ((t).toNat) ((sumB cs (t - 2 ^ q) n) + (cs q))) 16 ((t).toNat) ((sumB ws (t - 2 ^ q) n) + (ws q))) := by first | exact hIS1 | exact IS_one hIS (show t = 2 ^ q by omega) qn | exact IS_two hIS (by omega) q3 (by omega) d1.symm d2.symm
      have es : bstG cs ws n sum (t + 1 - 1).toNat = bstG cs ws n sum ((t - 1).toNat + 1) := by rw [show (t + 1 - 1).toNat = (t - 1).toNat + 1 by omega]
      rw [bstG_s, show (((t - 1).toNat : Nat) : Int) + 1 = t by omega] at es
      rw [if_neg (fun z => by have z1 := z.1; have z2 := z.2; rw [← hb] at z2; omega)] at es
      exact ih (m - 1) (by omega) b (t + 1) _ _ (by omega) (by omega) hIS1 (fun x h1 h2 => (st2_t h2).trans ((st2_t h1).trans (fr x h1 h2))) (by rw [es]; exact hb)
  refine g_iconst 1 dX2_bestSet_0 (by decide) rfl ?_
  refine g_istore_n (L' := [some (Rf 14), some (Iv (n : Int)), some (Iv sum), some (Iv 0), none, none]) 2 dX2_bestSet_1 rfl (by decide) rfl ?_
  refine g_iconst 3 dX2_bestSet_2 (by decide) rfl ?_
  refine g_istore (L' := [some (Rf 14), some (Iv (n : Int)), some (Iv sum), some (Iv 0), some (Iv 1), none]) 5 dX2_bestSet_3 rfl (by decide) rfl ?_
  exact lp (2 ^ n - 1) 0 1 none κ (by omega) (by have := pwN n; omega) ⟨h0, fun x h1 h2 => by omega, hp⟩ (fun _ _ _ => rfl) rfl
