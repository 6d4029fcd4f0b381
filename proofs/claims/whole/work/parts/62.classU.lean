/-! the class: days (printed by wip/whole/gen62.py) -/
theorem Inv_scrC {κ κ2 : Ks} {V : Vs} (h : Inv κ V) (fr : ∀ t, (t < 17 ∨ 21 < t) → κ2 t = κ t) (h7 : ∀ d : Nat, d < 7 → κ2 21 d = 0) : Inv κ2 V := by
  have hm : ∀ t : Nat, 40 ≤ t → t < 100 → κ2 t = κ t := fun t h1 h2 => fr t (by omega)
  have m : ∀ j : Nat, κ2 40 j = κ 40 j := fun j => by rw [hm 40 (by decide) (by decide)]
  exact ⟨MI_cl h.1 hm, CI_cl h.1 (CI_scrC h.1 h.2.1 (fun q _ _ h3 => fr q h3) (by rw [fr 16 (by decide)]; exact h.2.1.2.2.2.2.2.2.2.2.2.2.2.2.2.2.1.2.1) h7) (fun _ _ => rfl) hm rfl, h.2.2.fr (m _) (m _) (m _) (m _)⟩
theorem need_scC {κ κ2 : Ks} {s : Nat} (fr : ∀ t, (t < 17 ∨ 21 < t) → κ2 t = κ t) : needM κ2 s = needM κ s := by
  rw [mrg_eqM (κ := κ) (κ' := κ2) (fun t h1 h2 => fr t (by omega)), needM_L]
theorem ask_tell {κ κ2 : Ks} {l : List Nat} {s : Nat} (h4 : κ2 17 4 = (l.length : Int)) (hn : ∀ i, i < l.length → κ2 18 i = needM κ (l.getD i 0)) : st2 (st2 κ2 18 (κ2 17 4).toNat (needM κ s)) 17 4 (κ2 17 4 + 1) 17 4 = ((l ++ [s]).length : Int) ∧ ∀ i, i < (l ++ [s]).length → st2 (st2 κ2 18 (κ2 17 4).toNat (needM κ s)) 17 4 (κ2 17 4 + 1) 18 i = needM κ ((l ++ [s]).getD i 0) := by
  have el : (l ++ [s]).length = l.length + 1 := by simp
  rw [el]
  refine ⟨by rw [rd_eq rfl rfl, h4]; rfl, fun i hi => ?_⟩
  rw [rd_ne (by omega)]
  by_cases e : i = l.length
  · rw [rd_eq rfl (by omega), e]
    congr 1
    simp
  · rw [rd_ne (by omega), hn i (by omega)]
    congr 1
    rw [List.getD_eq_getElem?_getD, List.getD_eq_getElem?_getD, List.getElem?_append_left (by omega)]
theorem bit_mask (n s : Nat) : bitI (2 ^ n - 1) s = if s < n then 1 else 0 := by
  have p := Nat.pow_pos (n := n) (show 0 < 2 by decide)
  have e : (2 : Int) ^ n - 1 = ((2 ^ n - 1 : Nat) : Int) := by
    rw [Int.ofNat_sub p]
    norm_cast
  rw [e, bitI_n]
  have t := Nat.testBit_eq_decide_div_mod_eq (i := s) (x := 2 ^ n - 1)
  rw [Nat.testBit_two_pow_sub_one] at t
  have t2 := decide_eq_decide.mp t
  split
  · rename_i c
    have := t2.mp c
    omega
  · rename_i c
    have : ¬ ((2 ^ n - 1) / 2 ^ s % 2 = 1) := fun q => c (t2.mpr q)
    omega
theorem mask_R {n : Nat} (hn : n ≤ 30) : inR ((2 : Int) ^ n - 1) := by
  have p : (0 : Int) < 2 ^ n := Int.pow_pos (by decide)
  have := pw_le hn
  unfold inR
  omega
theorem bits_0 {z : Int} (hz : inR z) (h : ∀ s, s < 32 → bitI z s = 0) : z = 0 := by
  have := bit_rng hz 0 (by decide) (fun s _ h2 => h s h2)
  simp at this
  omega
theorem mask_0 {set : Int} (hs : inR set) {n : Nat} (hn : n ≤ 10) {z : Int} (hz : z = bAnd set (bXor ((2 : Int) ^ n - 1) (-1))) : z = 0 ↔ 0 ≤ set ∧ set < 2 ^ n := by
  have rz : inR z := by rw [hz]; exact toInt_inR _
  have rx : inR (bXor ((2 : Int) ^ n - 1) (-1)) := toInt_inR _
  have b : ∀ s, s < 32 → bitI z s = if bitI set s = 1 ∧ ¬ s < n then 1 else 0 := fun s h => by
    rw [hz, bitAnd hs rx h, bitXor (mask_R (by omega)) (by unfold inR; omega) h, bit_m1, bit_mask]
    by_cases e : s < n
    · simp [e]
    · simp [e]
  constructor
  · intro e
    refine bit_rng hs n (by omega) (fun s h1 h2 => ?_)
    have q := b s h2
    rw [e, bit_0] at q
    have o := bitI_01 set s
    by_cases g : bitI set s = 1
    · rw [if_pos ⟨g, by omega⟩] at q
      omega
    · omega
  · intro e
    refine bits_0 rz (fun s hs2 => ?_)
    rw [b s hs2]
    by_cases g : s < n
    · rw [if_neg (fun z => z.2 g)]
    · rw [if_neg (fun z => by rw [bit_hi e.1 e.2 (by omega)] at z; omega)]
theorem mask_n {set : Int} (hs : 0 ≤ set ∧ set < 1024) {s : Nat} (h : s < 10) : (0 ≤ bAnd set (2 ^ s - 1) ∧ bAnd set (2 ^ s - 1) < 1024) ∧ pc2 32 (bAnd set (2 ^ s - 1)) = ((askL set s).length : Int) := by
  obtain ⟨z, hz⟩ : ∃ z, z = bAnd set ((2 : Int) ^ s - 1) := ⟨_, rfl⟩
  rw [← hz]
  have rz : inR z := by rw [hz]; exact toInt_inR _
  have b : ∀ u, u < 32 → bitI z u = if bitI set u = 1 ∧ u < s then 1 else 0 := fun u hu => by
    rw [hz, bitAnd (inR_1024 hs) (mask_R (by omega)) hu, bit_mask]
    by_cases e : u < s
    · simp [e]
    · simp [e]
  have r := bit_rng rz 10 (by decide) (fun u h1 h2 => by rw [b u h2, if_neg (by omega)])
  refine ⟨r, ?_⟩
  have a : ∀ n : Nat, n ≤ s → askL z n = askL set n := by
    intro n
    induction n with
    | zero => intro _; rfl
    | succ n ih =>
      intro hn
      rw [askL_s, askL_s, ih (by omega)]
      have q := b n (by omega)
      by_cases g : bitI set n = 1
      · rw [if_pos ⟨g, by omega⟩] at q
        rw [if_pos g, if_pos q]
      · rw [if_neg (fun y => g y.1)] at q
        rw [if_neg g, if_neg (by omega)]
  have c : ∀ j : Nat, s + j ≤ 10 → askL z (s + j) = askL set s := by
    intro j
    induction j with
    | zero => intro _; exact a s (Nat.le_refl s)
    | succ j ih =>
      intro hj
      rw [show s + (j + 1) = (s + j) + 1 by omega, askL_s, ih (by omega), if_neg (by rw [b _ (by omega), if_neg (by omega)]; omega), List.append_nil]
  have e := c (10 - s) (by omega)
  rw [show s + (10 - s) = 10 by omega] at e
  rcases pc2_ask 10 z r.1 with q | q
  · rw [← q, e, show z / 2 ^ 10 = 0 from Int.ediv_eq_zero_of_lt r.1 r.2, pc2_0]
    omega
  · omega
theorem wrong_R (κ : Ks) (set sum : Int) : wrongP κ set sum = -1 ∨ wrongP κ set sum = -6 ∨ wrongP κ set sum = -4 ∨ wrongP κ set sum = 0 := by
  unfold wrongP
  (repeat' split) <;> omega
theorem wrong_0 {κ : Ks} (h : MI κ) {set sum : Int} (e : wrongP κ set sum = 0) : (0 ≤ set ∧ set < 1024) ∧ pc2 32 set ≤ 6 ∧ 0 ≤ sum ∧ sum ≤ 100000 := by
  have i5 := h.1.2.2.2.2.2.1
  have p := pw_le (show (κ 40 11).toNat ≤ 10 by omega)
  unfold wrongP at e
  revert e
  (repeat' split) <;> omega
theorem DS_end {κ κ1 : Ks} {set sum : Int} (h : DS κ1 (kF κ set) sum (ndF κ set) 0 0 (7 ^ kF κ set)) : κ1 17 7 = lkC (ndF κ set) sum (kF κ set) (cF κ set sum) ∧ True ∧ (∀ i, i < kF κ set → κ1 20 i = (dg (kF κ set) (cF κ set sum) i : Int)) ∧ ∀ d : Nat, d < 7 → κ1 21 d = 0 := by
  have p : 0 < 7 ^ kF κ set := Nat.pow_pos (by decide)
  rcases h.2.2.2.2.2 with ⟨c0, _⟩ | ⟨_, a1, _, a3⟩
  · omega
  · exact ⟨a1, trivial, a3, fun d hd => h.2.2.2.2.1 d hd⟩
theorem pos_A {A Bl : List Nat} {s : Nat} (hA : s ∉ A) : ∀ i : Nat, posL (A ++ s :: Bl) (s : Int) i = if i ≤ A.length then -1 else (A.length : Int)
  | 0 => by
    rw [if_pos (Nat.zero_le _)]
    rfl
  | i + 1 => by
    have q := pos_A (Bl := Bl) hA i
    have e : posL (A ++ s :: Bl) (s : Int) (i + 1) = if posL (A ++ s :: Bl) (s : Int) i = -1 ∧ ((A ++ s :: Bl).getD i 0 : Int) = (s : Int) then (i : Int) else posL (A ++ s :: Bl) (s : Int) i := rfl
    rw [e, q]
    by_cases c1 : i < A.length
    · have g : (A ++ s :: Bl).getD i 0 ≠ s := fun z => by
        rw [List.getD_eq_getElem?_getD, List.getElem?_append_left c1, List.getElem?_eq_getElem c1] at z
        exact hA (z ▸ List.getElem_mem c1)
      rw [if_pos (show i ≤ A.length by omega), if_neg (fun z => g (by have := z.2; omega)), if_pos (by omega)]
    · by_cases c2 : i = A.length
      · subst c2
        have g : (A ++ s :: Bl).getD A.length 0 = s := by
          rw [List.getD_eq_getElem?_getD, List.getElem?_append_right (Nat.le_refl _)]
          simp
        rw [if_pos (Nat.le_refl _), if_pos ⟨rfl, by rw [g]⟩, if_neg (by omega)]
      · rw [if_neg (show ¬ i ≤ A.length by omega), if_neg (fun z => by have := z.1; omega), if_neg (by omega)]
theorem pos_B {l : List Nat} {s : Int} (h : ∀ x ∈ l, (x : Int) ≠ s) : ∀ i : Nat, i ≤ l.length → posL l s i = -1
  | 0, _ => rfl
  | i + 1, hi => by
    have e : posL l s (i + 1) = if posL l s i = -1 ∧ (l.getD i 0 : Int) = s then (i : Int) else posL l s i := rfl
    rw [e, pos_B h i (by omega), if_neg]
    rintro ⟨_, z⟩
    exact h _ (getD_mem (by omega)) z
theorem ask_split {set : Int} {s : Nat} (hb : bitI set s = 1) : ∀ n : Nat, s < n → ∃ Bl, askL set n = askL set s ++ s :: Bl
  | 0, h => absurd h (Nat.not_lt_zero s)
  | n + 1, h => by
    by_cases e : s = n
    · subst e
      exact ⟨[], by rw [askL_s, if_pos hb]⟩
    · obtain ⟨Bl, q⟩ := ask_split hb n (by omega)
      exact ⟨Bl ++ (if bitI set n = 1 then [n] else []), by rw [askL_s, q, List.append_assoc]; rfl⟩
theorem ask_bit {set : Int} {x : Nat} : ∀ {n : Nat}, x ∈ askL set n → bitI set x = 1
  | 0, h => by cases h
  | n + 1, h => by
    rw [askL_s] at h
    rcases List.mem_append.mp h with q | q
    · exact ask_bit q
    · split at q
      · rename_i c
        rw [List.mem_singleton.mp q]
        exact c
      · cases q
theorem pos_no {set s : Int} {n : Nat} (h0 : 0 ≤ s) (h1 : s < n) (hb : bitI set s.toNat = 0) : posL (askL set n) s (askL set n).length = -1 := pos_B (fun x hx e => by
  have := ask_bit hx
  rw [show x = s.toNat by omega] at this
  omega) _ (Nat.le_refl _)
theorem ask_lt_k {set : Int} {s n : Nat} (h1 : s < n) (hb : bitI set s = 1) : (askL set s).length < (askL set n).length := by
  obtain ⟨Bl, q⟩ := ask_split hb n h1
  rw [q, List.length_append, List.length_cons]
  omega
theorem pos_yes {set s : Int} {n : Nat} (h1 : 0 ≤ s ∧ s < n) (hb : bitI set s.toNat = 1) : posL (askL set n) s (askL set n).length = ((askL set s.toNat).length : Int) := by
  have lt := ask_lt_k (n := n) (show s.toNat < n by omega) hb
  obtain ⟨Bl, q⟩ := ask_split hb n (by omega)
  have p := pos_A (A := askL set s.toNat) (Bl := Bl) (s := s.toNat) (fun z => by have := askL_lt z; omega) (askL set n).length
  rw [show ((s.toNat : Nat) : Int) = s by omega, ← q, if_neg (by omega)] at p
  exact p
set_option maxHeartbeats 4000000 in
set_option maxRecDepth 20000 in
theorem c_X0_begin {B : Bs} {n0 : Nat} {V : Vs} {κ : Ks} {n : Int} (r_n : inR n) : Ct (XR B n0) mX0_begin 1 0 0 [Rf 17, Iv n] V κ (Ex none V (st2 (st2 κ 17 4 0) 17 5 n)) := by
  refine Ct.of (L := [some (Rf 17), some (Iv n)]) 0 (by decide +kernel) rfl rfl ?_
  refine g_aload_n 1 dX0_begin_0 rfl rfl ?_
  refine g_iconst 2 dX0_begin_1 (by decide) rfl ?_
  refine g_putI 5 dX0_begin_2 fpX0_24 (fun h => (nomatch h)) kd_17 ly_17_4 (by omega) rfl ?_
  refine g_aload_n 6 dX0_begin_5 rfl rfl ?_
  refine g_iload_n 7 dX0_begin_6 rfl rfl ?_
  refine g_putI 10 dX0_begin_7 fpX0_28 (fun h => (nomatch h)) kd_17 ly_17_5 (by omega) rfl ?_
  refine g_vret dX0_begin_10 rfl ?_
  exact ⟨rfl, rfl, rfl⟩
set_option maxHeartbeats 4000000 in
set_option maxRecDepth 20000 in
theorem c_X0_tell {B : Bs} {n0 : Nat} {V : Vs} {κ : Ks} {n : Int} (h_t : 0 ≤ κ 17 4 ∧ κ 17 4 < 6) (r_n : inR n) : Ct (XR B n0) mX0_tell 1 0 0 [Rf 17, Iv n] V κ (Ex none V (st2 (st2 κ 18 (κ 17 4).toNat n) 17 4 (κ 17 4 + 1))) := by
  refine Ct.of (L := [some (Rf 17), some (Iv n)]) 0 (by decide +kernel) rfl rfl ?_
  refine g_aload_n 1 dX0_tell_0 rfl rfl ?_
  refine r_getI 4 (κ 17 4) dX0_tell_1 fgX0_24 kd_17 ly_17_4 rfl (rfl) (fun r1 => ?_)
  refine g_bipush 6 dX0_tell_4 (by decide) rfl ?_
  refine g_icmp_lt 10 9 dX0_tell_6 (by first | assumption | omega) (by decide) (by decide) rfl (fun h2 => ?_) (fun h2 => ?_)
  · refine g_aload_n 11 dX0_tell_10 rfl rfl ?_
    refine g_getC 14 dX0_tell_11 fgX0_9 kd_17 ly_17_0 rfl ?_
    refine g_aload_n 15 dX0_tell_14 rfl rfl ?_
    refine r_getI 18 (κ 17 4) dX0_tell_15 fgX0_24 kd_17 ly_17_4 rfl (rfl) (fun r3 => ?_)
    refine g_iload_n 19 dX0_tell_18 rfl rfl ?_
    refine r_iast 20 ((κ 17 4).toNat) dX0_tell_19 kd_18 (by decide) ly_18 (by omega) (rfl) (by omega) rfl ?_
    refine g_aload_n 21 dX0_tell_20 rfl rfl ?_
    refine g_dup 22 dX0_tell_21 rfl ?_
    refine r_getI 25 (κ 17 4) dX0_tell_22 fgX0_24 kd_17 ly_17_4 rfl (rd_t (by decide) (rfl)) (fun r4 => ?_)
    refine g_iconst 26 dX0_tell_25 (by decide) rfl ?_
    refine g_iadd 27 dX0_tell_26 rfl ?_
    refine g_putI 30 dX0_tell_27 fpX0_24 (fun h => (nomatch h)) kd_17 ly_17_4 (by omega) rfl ?_
    refine g_vret dX0_tell_30 rfl ?_
    exact ⟨rfl, rfl, rfl⟩
  refine g_vret dX0_tell_9 rfl ?_
  exfalso
  omega
set_option maxHeartbeats 4000000 in
set_option maxRecDepth 20000 in
theorem c_X0_bestDay {B : Bs} {n0 : Nat} {V : Vs} {κ : Ks} {n : Int} (h_n : 0 ≤ n ∧ n < κ 17 4 ∧ n < 6) : Ct (XR B n0) mX0_bestDay 1 0 0 [Rf 17, Iv n] V κ (Ex (some (Iv (κ 20 n.toNat))) V κ) := by
  refine Ct.of (L := [some (Rf 17), some (Iv n)]) 0 (by decide +kernel) rfl rfl ?_
  refine g_iload_n 1 dX0_bestDay_0 rfl rfl ?_
  refine g_if_lt 21 4 dX0_bestDay_1 (by first | assumption | omega) (by decide) rfl (fun h1 => ?_) (fun h1 => ?_)
  · refine g_bipush 23 dX0_bestDay_21 (by decide) rfl ?_
    refine g_iret dX0_bestDay_23 rfl ?_
    exfalso
    omega
  refine g_iload_n 5 dX0_bestDay_4 rfl rfl ?_
  refine g_aload_n 6 dX0_bestDay_5 rfl rfl ?_
  refine r_getI 9 (κ 17 4) dX0_bestDay_6 fgX0_24 kd_17 ly_17_4 rfl (rfl) (fun r2 => ?_)
  refine g_icmp_ge 21 12 dX0_bestDay_9 (by first | assumption | omega) (by first | assumption | omega) (by decide) rfl (fun h3 => ?_) (fun h3 => ?_)
  · refine g_bipush 23 dX0_bestDay_21 (by decide) rfl ?_
    refine g_iret dX0_bestDay_23 rfl ?_
    exfalso
    omega
  refine g_aload_n 13 dX0_bestDay_12 rfl rfl ?_
  refine g_getC 16 dX0_bestDay_13 fgX0_18 kd_17 ly_17_2 rfl ?_
  refine g_iload_n 17 dX0_bestDay_16 rfl rfl ?_
  refine r_iald 18 ((n).toNat) (κ 20 ((n).toNat)) dX0_bestDay_17 kd_20 (by decide) (by omega) (rfl) rfl (rfl) (fun r4 => ?_)
  refine g_goto 23 dX0_bestDay_18 (by decide) ?_
  refine g_iret dX0_bestDay_23 rfl ?_
  exact ⟨rfl, rfl, rfl⟩
set_option maxHeartbeats 4000000 in
set_option maxRecDepth 20000 in
theorem c_X9_findDays {B : Bs} {n0 : Nat} {V : Vs} {κ : Ks} {set sum : Int} (h_set : 0 ≤ set ∧ set < 1024) (h_6 : pc2 32 set ≤ 6) (h_sum : 0 ≤ sum ∧ sum ≤ 100000) (hInv : Inv κ V) : Ct (XR B n0) mX9_findDays 12 0 0 [Rf 1, Iv set, Iv sum] V κ (fun r V1 κ1 => r = none ∧ V1 = V ∧ DS κ1 (kF κ set) sum (ndF κ set) 0 0 (7 ^ kF κ set) ∧ ∀ t, (t < 17 ∨ 21 < t) → κ1 t = κ t) := by
  obtain ⟨hI, hC, hV⟩ := id hInv
  obtain ⟨cA, cB, cC, cD, cE, cF, cG, cS, cL, cH, cN, cT, cW, cK, cZ⟩ := id hC
  obtain ⟨⟨i0, i1, i2, i3, i4, i5, i6, i7, i8, i9⟩, iS, iH, iR, iT, iC, iG, iL, iZ⟩ := id hI
  obtain ⟨⟨cV0, cV1, cV2, cV4⟩, _⟩ := id hV
  obtain ⟨cA0, cA1, cA2⟩ := id cA
  obtain ⟨cB0, cB1, cB2⟩ := id cB
  obtain ⟨⟨⟨⟨z0, z1, z2⟩, z3, z4, z5⟩, z6, z7⟩, z8⟩ := id cZ
  have en0 : κ 2 2 = κ 40 11 := cG.1.2.2.1
  have en1 : κ 3 2 = κ 40 20 := cG.2.1.2.2.1
  have en2 : κ 4 2 = κ 40 31 := cG.2.2.1.2.2.1
  have en3 : κ 5 2 = κ 40 41 := cG.2.2.2.2.2.1
  have kF6 : kF κ set ≤ 6 := by have := kF_le hI h_set.1 (κ 40 11).toNat (by omega); unfold kF; omega
  refine Ct.of (L := [some (Rf 1), some (Iv set), some (Iv sum), none]) 1 (by decide +kernel) rfl rfl ?_
  have lp : ∀ (m : Nat) (s : Int) (κ2 : Ks), 0 ≤ s ∧ s ≤ κ 40 11 → (m : Int) = κ 40 11 - s → (∀ t, (t < 17 ∨ 21 < t) → κ2 t = κ t) → (∀ d : Nat, d < 7 → κ2 21 d = 0) → κ2 17 5 = sum → (κ2 17 4 = ((askL set s.toNat).length : Int) ∧ ∀ i, i < (askL set s.toNat).length → κ2 18 i = needM κ ((askL set s.toNat).getD i 0)) → G (XR B n0) mX9_findDays 12 (fun r V1 κ1 => r = none ∧ V1 = V ∧ DS κ1 (kF κ set) sum (ndF κ set) 0 0 (7 ^ kF κ set) ∧ ∀ t, (t < 17 ∨ 21 < t) → κ1 t = κ t) V 0 0 10 [some (Rf 1), some (Iv set), some (Iv sum), some (Iv s)] [] V κ2 := by
    intro m
    induction m using Nat.strongRecOn with
    | ind m ih =>
      intro s κ2 hs hm fr h21 h5 h44
      obtain ⟨h4, hnn⟩ := h44
      have fL : Lst κ2 0 (κ 40 11) := cG.1.fr (fr 2 (by decide)) (fun z => fr _ (by have := etg_ge (k := 0) z; omega))
      have en : κ2 2 2 = κ 40 11 := fL.2.2.1
      have e11 : κ2 40 11 = κ 40 11 := by rw [fr 40 (by decide)]
      have kl0 := kF_le hI h_set.1 s.toNat (by omega)
      refine g_iload_n 11 dX9_findDays_10 rfl rfl ?_
      refine g_aload_n 12 dX9_findDays_11 rfl rfl ?_
      refine g_getC 15 dX9_findDays_12 fgX9_10 kd_1 ly_1_0 rfl ?_
      refine e_V 18 0 0 [] [Iv s] dX9_findDays_15 cvX9_78 mwJx4a65c_size_8abf5 kd_2 (by omega) rfl (Nat.le_of_ble_eq_true rfl) rfl rfl rfl (c_size_0) ?_
      refine g_icmp_ge 56 21 dX9_findDays_18 (by first | assumption | omega) (by first | assumption | omega) (by decide) rfl (fun h101 => ?_) (fun h101 => ?_)
      · refine g_aload_n 57 dX9_findDays_56 rfl rfl ?_
        refine g_getC 60 dX9_findDays_57 fgX9_65 kd_1 ly_1_11 rfl ?_
        have es : s.toNat = (κ 40 11).toNat := by omega
        refine p_V 63 0 0 [] [] dX9_findDays_60 cvX9_378 mwX0_search kd_17 (by omega) rfl (Nat.le_of_ble_eq_true rfl) rfl rfl rfl (c_X0_search (k := kF κ set) (nd := ndF κ set) (sum := sum) kF6 h_sum (fun i hi => ndF_R hI set hi) (h4.trans (by rw [es]; rfl)) h5 (fun i hi => (hnn i (by rw [es]; exact hi)).trans (by rw [es]; rfl)) h21) ?_
        intro r1 V1 κ5 hp1
        obtain ⟨hr1, hv1, hD5, fr5⟩ := hp1
        subst hv1
        subst hr1
        refine ⟨[], rfl, ?_⟩
        refine g_vret dX9_findDays_63 rfl ?_
        exact ⟨rfl, rfl, hD5, fun t ht => (fr5 t ht).trans (fr t ht)⟩
      refine g_iload_n 22 dX9_findDays_21 rfl rfl ?_
      refine g_iload_n 23 dX9_findDays_22 rfl rfl ?_
      refine o_S 26 0 0 [Iv set, Iv s] [] dX9_findDays_23 csX9_187 mwX9_hasStreet (by omega) rfl (Nat.le_of_ble_eq_true rfl) rfl rfl rfl (c_X9_hasStreet h_set (by omega)) (fun h102 => ?_) (fun h102 => ?_)
      · have kl := kF_le hI h_set.1 (s + 1).toNat (by omega)
        rw [show (s + 1).toNat = s.toNat + 1 by omega, askL_s, if_pos h102, List.length_append] at kl
        have kl : ((askL set s.toNat).length : Int) + 1 ≤ pc2 32 set := by simpa using kl
        refine g_if_eq 50 29 dX9_findDays_26 (by decide) (by decide) rfl (fun z => absurd z (by decide)) (fun _ => ?_)
        refine g_aload_n 30 dX9_findDays_29 rfl rfl ?_
        refine g_getC 33 dX9_findDays_30 fgX9_65 kd_1 ly_1_11 rfl ?_
        refine g_aload_n 34 dX9_findDays_33 rfl rfl ?_
        refine g_getC 37 dX9_findDays_34 fgX9_10 kd_1 ly_1_0 rfl ?_
        refine g_iload_n 38 dX9_findDays_37 rfl rfl ?_
        refine e_V 41 0 0 [Iv s] [Rf 17] dX9_findDays_38 cvX9_190 mwJx4a65c_get_915e3 kd_2 (by omega) rfl (Nat.le_of_ble_eq_true rfl) rfl rfl rfl (c_get_0 fL (by omega) (by omega)) ?_
        refine g_cast 44 dX9_findDays_41 clX9_82 (ci := 6) rfl (by decide) (kd_S (by omega)) rfl ?_
        refine e_V 47 0 0 [] [Rf 17] dX9_findDays_44 cvX9_293 mwX5_roomNow (kd_S (by omega)) (by omega) rfl (Nat.le_of_ble_eq_true rfl) rfl rfl rfl (c_X5_roomNow (by omega) (Inv_scrC hInv fr h21)) ?_
        refine G.eqi (need_scC fr) ?_
        have nR := need_R hI (s := s.toNat) (by omega)
        refine v_V 50 0 0 [Iv (needM κ s.toNat)] [] dX9_findDays_47 cvX9_376 mwX0_tell kd_17 (by omega) rfl (Nat.le_of_ble_eq_true rfl) rfl rfl rfl (c_X0_tell (by omega) (by omega)) ?_
        refine g_iinc (L' := [some (Rf 1), some (Iv set), some (Iv sum), some (Iv (s + 1))]) 53 dX9_findDays_50 rfl rfl (by decide) rfl ?_
        refine g_goto 10 dX9_findDays_53 (by decide) ?_
        exact ih (m - 1) (by omega) (s + 1) _ (by omega) (by omega) (fun t ht => (st2_t (by omega)).trans ((st2_t (by omega)).trans (fr t ht))) (fun d hd => by rw [rd_ne (by omega), rd_ne (by omega)]; exact h21 d hd) (by rw [rd_ne (by omega), rd_ne (by omega)]; exact h5) (by rw [show (s + 1).toNat = s.toNat + 1 by omega, askL_s, if_pos (by omega)]; exact ask_tell h4 hnn)
      refine g_if_eq 50 29 dX9_findDays_26 (by decide) (by decide) rfl (fun _ => ?_) (fun z => absurd z (by decide))
      refine g_iinc (L' := [some (Rf 1), some (Iv set), some (Iv sum), some (Iv (s + 1))]) 53 dX9_findDays_50 rfl rfl (by decide) rfl ?_
      refine g_goto 10 dX9_findDays_53 (by decide) ?_
      exact ih (m - 1) (by omega) (s + 1) κ2 (by omega) (by omega) fr h21 h5 (by rw [show (s + 1).toNat = s.toNat + 1 by omega, askL_s, if_neg (by omega), List.append_nil]; exact ⟨h4, hnn⟩)
  refine g_aload_n 1 dX9_findDays_0 rfl rfl ?_
  refine g_getC 4 dX9_findDays_1 fgX9_65 kd_1 ly_1_11 rfl ?_
  refine g_iload_n 5 dX9_findDays_4 rfl rfl ?_
  refine v_V 8 0 0 [Iv sum] [] dX9_findDays_5 cvX9_373 mwX0_begin kd_17 (by omega) rfl (Nat.le_of_ble_eq_true rfl) rfl rfl rfl (c_X0_begin (by omega)) ?_
  refine g_iconst 9 dX9_findDays_8 (by decide) rfl ?_
  refine g_istore_n (L' := [some (Rf 1), some (Iv set), some (Iv sum), some (Iv 0)]) 10 dX9_findDays_9 rfl (by decide) rfl ?_
  exact lp (κ 40 11).toNat 0 _ (by omega) (by omega) (fun t ht => (st2_t (by omega)).trans (st2_t (by omega))) (fun d hd => by rw [rd_ne (by omega), rd_ne (by omega)]; exact z7 d hd) (rd_eq rfl rfl) ⟨by rw [rd_ne (by omega), rd_eq rfl rfl]; rfl, fun i hi => absurd hi (Nat.not_lt_zero i)⟩
set_option maxHeartbeats 4000000 in
set_option maxRecDepth 20000 in
theorem c_X9_refusalOfDays {B : Bs} {n0 : Nat} {V : Vs} {κ : Ks} {set sum : Int} (r_set : inR set) (r_sum : inR sum) (hInv : Inv κ V) : Ct (XR B n0) mX9_refusalOfDays 2 0 0 [Rf 1, Iv set, Iv sum] V κ (Ex (some (Iv (wrongP κ set sum))) V κ) := by
  obtain ⟨hI, hC, hV⟩ := id hInv
  obtain ⟨cA, cB, cC, cD, cE, cF, cG, cS, cL, cH, cN, cT, cW, cK, cZ⟩ := id hC
  obtain ⟨⟨i0, i1, i2, i3, i4, i5, i6, i7, i8, i9⟩, iS, iH, iR, iT, iC, iG, iL, iZ⟩ := id hI
  obtain ⟨⟨cV0, cV1, cV2, cV4⟩, _⟩ := id hV
  obtain ⟨cA0, cA1, cA2⟩ := id cA
  obtain ⟨cB0, cB1, cB2⟩ := id cB
  obtain ⟨⟨⟨⟨z0, z1, z2⟩, z3, z4, z5⟩, z6, z7⟩, z8⟩ := id cZ
  have en0 : κ 2 2 = κ 40 11 := cG.1.2.2.1
  have en1 : κ 3 2 = κ 40 20 := cG.2.1.2.2.1
  have en2 : κ 4 2 = κ 40 31 := cG.2.2.1.2.2.1
  have en3 : κ 5 2 = κ 40 41 := cG.2.2.2.2.2.1
  refine Ct.of (L := [some (Rf 1), some (Iv set), some (Iv sum)]) 0 (by decide +kernel) rfl rfl ?_
  refine g_iload_n 1 dX9_refusalOfDays_0 rfl rfl ?_
  refine g_iconst 2 dX9_refusalOfDays_1 (by decide) rfl ?_
  refine g_aload_n 3 dX9_refusalOfDays_2 rfl rfl ?_
  refine g_getC 6 dX9_refusalOfDays_3 fgX9_10 kd_1 ly_1_0 rfl ?_
  refine e_V 9 0 0 [] [Iv 1, Iv set] dX9_refusalOfDays_6 cvX9_78 mwJx4a65c_size_8abf5 kd_2 (by decide) rfl (Nat.le_of_ble_eq_true rfl) rfl rfl rfl (c_size_0) ?_
  refine g_ishl 10 dX9_refusalOfDays_9 rfl ?_
  refine G.eqi (show (bShl 1 (κ 2 2)) = 2 ^ (κ 40 11).toNat from by rw [en0]; exact pow_I (by omega)) ?_
  refine g_iconst 11 dX9_refusalOfDays_10 (by decide) rfl ?_
  refine g_isub 12 dX9_refusalOfDays_11 rfl ?_
  refine g_iconst 13 dX9_refusalOfDays_12 (by decide) rfl ?_
  refine g_ixor 14 dX9_refusalOfDays_13 rfl ?_
  refine g_iand 15 dX9_refusalOfDays_14 rfl ?_
  obtain ⟨z, hz⟩ : ∃ z, z = (bAnd set (bXor (((2 : Int) ^ (κ 40 11).toNat) - 1) (-1))) := ⟨_, rfl⟩
  refine G.eqi hz.symm ?_
  have zz := mask_0 r_set (n := (κ 40 11).toNat) (by omega) (z := z) hz
  have zr : inR z := by rw [hz]; exact toInt_inR _
  have p2 := pw_le (show (κ 40 11).toNat ≤ 10 by omega)
  refine g_if_eq 20 18 dX9_refusalOfDays_15 (by first | assumption | omega) (by decide) rfl (fun h1 => ?_) (fun h1 => ?_)
  · refine g_iload_n 21 dX9_refusalOfDays_20 rfl rfl ?_
    refine e_S 24 0 0 [Iv set] [] dX9_refusalOfDays_21 csX9_220 mwJ6_bitCount_0f7a4 (by decide) rfl (Nat.le_of_ble_eq_true rfl) rfl rfl rfl (c_J6_bitCount_0f7a4 (by omega)) ?_
    have pR := pc2_R 32 set
    refine g_bipush 26 dX9_refusalOfDays_24 (by decide) rfl ?_
    refine g_icmp_le 32 29 dX9_refusalOfDays_26 (by first | assumption | omega) (by decide) (by decide) rfl (fun h2 => ?_) (fun h2 => ?_)
    · refine g_iload_n 33 dX9_refusalOfDays_32 rfl rfl ?_
      refine g_if_ge 39 36 dX9_refusalOfDays_33 (by first | assumption | omega) (by decide) rfl (fun h3 => ?_) (fun h3 => ?_)
      · refine g_iload_n 40 dX9_refusalOfDays_39 rfl rfl ?_
        refine g_ldc (n := 100000) 42 dX9_refusalOfDays_40 kcX9_100 (by decide) rfl ?_
        refine g_icmp_le 50 45 dX9_refusalOfDays_42 (by first | assumption | omega) (by decide) (by decide) rfl (fun h4 => ?_) (fun h4 => ?_)
        · refine g_iconst 51 dX9_refusalOfDays_50 (by decide) rfl ?_
          refine g_iret dX9_refusalOfDays_51 rfl ?_
          unfold wrongP
          (repeat' split) <;> first | (exfalso; omega) | exact ⟨rfl, rfl, rfl⟩
        refine g_bipush 47 dX9_refusalOfDays_45 (by decide) rfl ?_
        refine g_goto 51 dX9_refusalOfDays_47 (by decide) ?_
        refine g_iret dX9_refusalOfDays_51 rfl ?_
        unfold wrongP
        (repeat' split) <;> first | (exfalso; omega) | exact ⟨rfl, rfl, rfl⟩
      refine g_bipush 38 dX9_refusalOfDays_36 (by decide) rfl ?_
      refine g_iret dX9_refusalOfDays_38 rfl ?_
      unfold wrongP
      (repeat' split) <;> first | (exfalso; omega) | exact ⟨rfl, rfl, rfl⟩
    refine g_bipush 31 dX9_refusalOfDays_29 (by decide) rfl ?_
    refine g_iret dX9_refusalOfDays_31 rfl ?_
    unfold wrongP
    (repeat' split) <;> first | (exfalso; omega) | exact ⟨rfl, rfl, rfl⟩
  refine g_iconst 19 dX9_refusalOfDays_18 (by decide) rfl ?_
  refine g_iret dX9_refusalOfDays_19 rfl ?_
  unfold wrongP
  (repeat' split) <;> first | (exfalso; omega) | exact ⟨rfl, rfl, rfl⟩
set_option maxHeartbeats 4000000 in
set_option maxRecDepth 20000 in
theorem c_X9_days {B : Bs} {n0 : Nat} {V : Vs} {κ : Ks} {set sum : Int} (r_set : inR set) (r_sum : inR sum)  (hInv : Inv κ V) : Ct (XR B n0) mX9_days 13 0 0 [Rf 1, Iv set, Iv sum] V κ (PC κ (M_days κ set sum)) := by
  obtain ⟨hI, hC, hV⟩ := id hInv
  obtain ⟨cA, cB, cC, cD, cE, cF, cG, cS, cL, cH, cN, cT, cW, cK, cZ⟩ := id hC
  obtain ⟨⟨i0, i1, i2, i3, i4, i5, i6, i7, i8, i9⟩, iS, iH, iR, iT, iC, iG, iL, iZ⟩ := id hI
  obtain ⟨⟨cV0, cV1, cV2, cV4⟩, _⟩ := id hV
  obtain ⟨cA0, cA1, cA2⟩ := id cA
  obtain ⟨cB0, cB1, cB2⟩ := id cB
  obtain ⟨⟨⟨⟨z0, z1, z2⟩, z3, z4, z5⟩, z6, z7⟩, z8⟩ := id cZ
  have en0 : κ 2 2 = κ 40 11 := cG.1.2.2.1
  have en1 : κ 3 2 = κ 40 20 := cG.2.1.2.2.1
  have en2 : κ 4 2 = κ 40 31 := cG.2.2.1.2.2.1
  have en3 : κ 5 2 = κ 40 41 := cG.2.2.2.2.2.1
  refine Ct.of (L := [some (Rf 1), some (Iv set), some (Iv sum), none]) 1 (by decide +kernel) rfl rfl ?_
  refine g_aload_n 1 dX9_days_0 rfl rfl ?_
  refine g_iload_n 2 dX9_days_1 rfl rfl ?_
  refine g_iload_n 3 dX9_days_2 rfl rfl ?_
  refine e_V 6 0 0 [Iv set, Iv sum] [] dX9_days_3 cvX9_252 mwX9_refusalOfDays kd_1 (by omega) rfl (Nat.le_of_ble_eq_true rfl) rfl rfl rfl (c_X9_refusalOfDays (by omega) (by omega) hInv) ?_
  obtain ⟨f, ef⟩ : ∃ f : Int, f = wrongP κ set sum := ⟨_, rfl⟩
  refine G.eqi ef.symm ?_
  have ff := wrong_R κ set sum
  rw [← ef] at ff
  refine g_istore_n (L' := [some (Rf 1), some (Iv set), some (Iv sum), some (Iv f)]) 7 dX9_days_6 rfl (by decide) rfl ?_
  refine g_iload_n 8 dX9_days_7 rfl rfl ?_
  refine g_if_eq 17 11 dX9_days_8 (by first | assumption | omega) (by decide) rfl (fun h1 => ?_) (fun h1 => ?_)
  · have f0 : f = 0 := by omega
    have h_f := wrong_0 hI (ef.symm.trans f0)
    have k6 : kF κ set ≤ 6 := by have := kF_le hI h_f.1.1 (κ 40 11).toNat (by omega); unfold kF; omega
    refine g_aload_n 18 dX9_days_17 rfl rfl ?_
    refine g_iload_n 19 dX9_days_18 rfl rfl ?_
    refine g_iload_n 20 dX9_days_19 rfl rfl ?_
    refine p_V 23 0 0 [Iv set, Iv sum] [] dX9_days_20 cvX9_255 mwX9_findDays kd_1 (by omega) rfl (Nat.le_of_ble_eq_true rfl) rfl rfl rfl (c_X9_findDays h_f.1 h_f.2.1 h_f.2.2 hInv) ?_
    intro r1 V1 κ1 hp1
    obtain ⟨hr1, hv1, hD, fr1⟩ := hp1
    subst hv1
    subst hr1
    refine ⟨[], rfl, ?_⟩
    have hB := DS_end hD
    have kb := hD.1
    refine g_aload_n 24 dX9_days_23 rfl rfl ?_
    refine g_getC 27 dX9_days_24 fgX9_65 kd_1 ly_1_11 rfl ?_
    refine r_getI 30 (κ1 17 7) dX9_days_27 fgX9_258 kd_17 ly_17_7 rfl (rfl) (fun r2 => ?_)
    refine g_iret dX9_days_30 rfl ?_
    unfold M_days
    rw [if_neg (by omega)]
    exact PC_scrC hInv (fun q h1 h2 h3 => fr1 q h3) (by rw [fr1 16 (by decide)]; exact z6) hB.2.2.2 hB.1
  refine g_aload_n 12 dX9_days_11 rfl rfl ?_
  refine g_iload_n 13 dX9_days_12 rfl rfl ?_
  refine e_V 16 0 0 [Iv f] [] dX9_days_13 cvX9_74 mwX9_refuse kd_1 (by omega) rfl (Nat.le_of_ble_eq_true rfl) rfl rfl rfl (c_X9_refuse (-f).toNat (by omega) (by omega)) ?_
  refine g_iret dX9_days_16 rfl ?_
  unfold M_days
  first | (rw [if_pos (by omega)]; rw [← ef]; exact PC_ref hInv (by omega) rfl rfl) | (rw [if_neg (by omega), if_pos (by omega)]; exact PC_ref hInv (by decide) rfl rfl) | (rw [if_neg (by omega), if_neg (by omega), if_pos (show posL (askL set (κ 40 11).toNat) st (kF κ set) = -1 from pos_no (by omega) (by omega) (by omega))]; exact PC_same hInv rfl)
set_option maxHeartbeats 4000000 in
set_option maxRecDepth 20000 in
theorem c_X9_dayOf {B : Bs} {n0 : Nat} {V : Vs} {κ : Ks} {set sum st : Int} (r_set : inR set) (r_sum : inR sum) (r_st : inR st)  (hInv : Inv κ V) : Ct (XR B n0) mX9_dayOf 13 0 0 [Rf 1, Iv set, Iv sum, Iv st] V κ (PC κ (M_dayOf κ set sum st)) := by
  obtain ⟨hI, hC, hV⟩ := id hInv
  obtain ⟨cA, cB, cC, cD, cE, cF, cG, cS, cL, cH, cN, cT, cW, cK, cZ⟩ := id hC
  obtain ⟨⟨i0, i1, i2, i3, i4, i5, i6, i7, i8, i9⟩, iS, iH, iR, iT, iC, iG, iL, iZ⟩ := id hI
  obtain ⟨⟨cV0, cV1, cV2, cV4⟩, _⟩ := id hV
  obtain ⟨cA0, cA1, cA2⟩ := id cA
  obtain ⟨cB0, cB1, cB2⟩ := id cB
  obtain ⟨⟨⟨⟨z0, z1, z2⟩, z3, z4, z5⟩, z6, z7⟩, z8⟩ := id cZ
  have en0 : κ 2 2 = κ 40 11 := cG.1.2.2.1
  have en1 : κ 3 2 = κ 40 20 := cG.2.1.2.2.1
  have en2 : κ 4 2 = κ 40 31 := cG.2.2.1.2.2.1
  have en3 : κ 5 2 = κ 40 41 := cG.2.2.2.2.2.1
  refine Ct.of (L := [some (Rf 1), some (Iv set), some (Iv sum), some (Iv st), none, none]) 2 (by decide +kernel) rfl rfl ?_
  refine g_aload_n 1 dX9_dayOf_0 rfl rfl ?_
  refine g_iload_n 2 dX9_dayOf_1 rfl rfl ?_
  refine g_iload_n 3 dX9_dayOf_2 rfl rfl ?_
  refine e_V 6 0 0 [Iv set, Iv sum] [] dX9_dayOf_3 cvX9_252 mwX9_refusalOfDays kd_1 (by omega) rfl (Nat.le_of_ble_eq_true rfl) rfl rfl rfl (c_X9_refusalOfDays (by omega) (by omega) hInv) ?_
  obtain ⟨f, ef⟩ : ∃ f : Int, f = wrongP κ set sum := ⟨_, rfl⟩
  refine G.eqi ef.symm ?_
  have ff := wrong_R κ set sum
  rw [← ef] at ff
  refine g_istore (L' := [some (Rf 1), some (Iv set), some (Iv sum), some (Iv st), some (Iv f), none]) 8 dX9_dayOf_6 rfl (by decide) rfl ?_
  refine g_iload 10 dX9_dayOf_8 rfl rfl ?_
  refine g_if_eq 20 13 dX9_dayOf_10 (by first | assumption | omega) (by decide) rfl (fun h1 => ?_) (fun h1 => ?_)
  · have f0 : f = 0 := by omega
    have h_f := wrong_0 hI (ef.symm.trans f0)
    have k6 : kF κ set ≤ 6 := by have := kF_le hI h_f.1.1 (κ 40 11).toNat (by omega); unfold kF; omega
    refine g_aload_n 21 dX9_dayOf_20 rfl rfl ?_
    refine g_iload_n 22 dX9_dayOf_21 rfl rfl ?_
    refine o_V 25 0 0 [Iv st] [] dX9_dayOf_22 cvX9_105 mwX9_streetAt kd_1 (by omega) rfl (Nat.le_of_ble_eq_true rfl) rfl rfl rfl (c_X9_streetAt cG.1 (by omega) (by omega)) (fun h2 => ?_) (fun h2 => ?_)
    · have qS := cS (st).toNat (by omega)
      have qI := iS (st).toNat (by omega)
      refine r_ifnonnull_s 34 dX9_dayOf_25 (by decide) ?_
      refine g_iload_n 35 dX9_dayOf_34 rfl rfl ?_
      refine g_iload_n 36 dX9_dayOf_35 rfl rfl ?_
      refine o_S 39 0 0 [Iv set, Iv st] [] dX9_dayOf_36 csX9_187 mwX9_hasStreet (by omega) rfl (Nat.le_of_ble_eq_true rfl) rfl rfl rfl (c_X9_hasStreet h_f.1 (by omega)) (fun h3 => ?_) (fun h3 => ?_)
      · refine g_if_ne 45 42 dX9_dayOf_39 (by decide) (by decide) rfl (fun _ => ?_) (fun z => absurd z (by decide))
        refine g_aload_n 46 dX9_dayOf_45 rfl rfl ?_
        refine g_iload_n 47 dX9_dayOf_46 rfl rfl ?_
        refine g_iload_n 48 dX9_dayOf_47 rfl rfl ?_
        refine p_V 51 0 0 [Iv set, Iv sum] [] dX9_dayOf_48 cvX9_255 mwX9_findDays kd_1 (by omega) rfl (Nat.le_of_ble_eq_true rfl) rfl rfl rfl (c_X9_findDays h_f.1 h_f.2.1 h_f.2.2 hInv) ?_
        intro r1 V1 κ1 hp1
        obtain ⟨hr1, hv1, hD, fr1⟩ := hp1
        subst hv1
        subst hr1
        refine ⟨[], rfl, ?_⟩
        have hB := DS_end hD
        have kb := hD.1
        refine g_iload_n 52 dX9_dayOf_51 rfl rfl ?_
        refine g_iconst 53 dX9_dayOf_52 (by decide) rfl ?_
        refine g_iload_n 54 dX9_dayOf_53 rfl rfl ?_
        refine g_ishl 55 dX9_dayOf_54 rfl ?_
        refine G.eqi (pow_I (s := st) (by omega)) ?_
        refine g_iconst 56 dX9_dayOf_55 (by decide) rfl ?_
        refine g_isub 57 dX9_dayOf_56 rfl ?_
        refine g_iand 58 dX9_dayOf_57 rfl ?_
        have mk := mask_n h_f.1 (s := st.toNat) (by omega)
        refine g_istore (L' := [some (Rf 1), some (Iv set), some (Iv sum), some (Iv st), some (Iv f), some (Iv (bAnd set (((2 : Int) ^ st.toNat) - 1)))]) 60 dX9_dayOf_58 rfl (by decide) rfl ?_
        refine g_aload_n 61 dX9_dayOf_60 rfl rfl ?_
        refine g_getC 64 dX9_dayOf_61 fgX9_65 kd_1 ly_1_11 rfl ?_
        refine g_iload 66 dX9_dayOf_64 rfl rfl ?_
        refine e_S 69 0 0 [Iv (bAnd set (((2 : Int) ^ st.toNat) - 1))] [Rf 17] dX9_dayOf_66 csX9_220 mwJ6_bitCount_0f7a4 (by omega) rfl (Nat.le_of_ble_eq_true rfl) rfl rfl rfl (c_J6_bitCount_0f7a4 mk.1) ?_
        obtain ⟨n, en⟩ : ∃ n : Int, n = pc2 32 (bAnd set (2 ^ st.toNat - 1)) := ⟨_, rfl⟩
        refine G.eqi en.symm ?_
        rw [mk.2] at en
        have hp := pos_yes (set := set) (s := st) (n := (κ 40 11).toNat) (by omega) (by omega)
        have hpl := ask_lt_k (set := set) (s := st.toNat) (n := (κ 40 11).toNat) (by omega) (by omega)
        have hkF : kF κ set = (askL set (κ 40 11).toNat).length := rfl
        rw [← hkF] at hp hpl
        refine e_V 72 0 0 [Iv n] [] dX9_dayOf_69 cvX9_261 mwX0_bestDay kd_17 (by omega) rfl (Nat.le_of_ble_eq_true rfl) rfl rfl rfl (c_X0_bestDay (by omega)) ?_
        refine g_iret dX9_dayOf_72 rfl ?_
        have e20 := hB.2.2.1 n.toNat (by omega)
        rw [e20]
        unfold M_dayOf
        rw [if_neg (by omega), if_neg (by omega), if_neg (by rw [hp]; omega), hp]
        exact PC_scrC hInv (fun q h1 h2 h3 => fr1 q h3) (by rw [fr1 16 (by decide)]; exact z6) hB.2.2.2 (by rw [show ((askL set st.toNat).length : Int).toNat = n.toNat by omega])
      refine g_if_ne 45 42 dX9_dayOf_39 (by decide) (by decide) rfl (fun z => absurd z (by decide)) (fun _ => ?_)
      refine g_bipush 44 dX9_dayOf_42 (by decide) rfl ?_
      refine g_iret dX9_dayOf_44 rfl ?_
      unfold M_dayOf
      first | (rw [if_pos (by omega)]; rw [← ef]; exact PC_ref hInv (by omega) rfl rfl) | (rw [if_neg (by omega), if_pos (by omega)]; exact PC_ref hInv (by decide) rfl rfl) | (rw [if_neg (by omega), if_neg (by omega), if_pos (show posL (askL set (κ 40 11).toNat) st (kF κ set) = -1 from pos_no (by omega) (by omega) (by omega))]; exact PC_same hInv rfl)
    refine r_ifnonnull_n 28 34 dX9_dayOf_25 (by decide) rfl ?_
    refine g_aload_n 29 dX9_dayOf_28 rfl rfl ?_
    refine g_iconst 30 dX9_dayOf_29 (by decide) rfl ?_
    refine e_V 33 0 0 [Iv (-1)] [] dX9_dayOf_30 cvX9_74 mwX9_refuse kd_1 (by omega) rfl (Nat.le_of_ble_eq_true rfl) rfl rfl rfl (c_X9_refuse 1 (by decide) (by decide)) ?_
    refine g_iret dX9_dayOf_33 rfl ?_
    unfold M_dayOf
    first | (rw [if_pos (by omega)]; rw [← ef]; exact PC_ref hInv (by omega) rfl rfl) | (rw [if_neg (by omega), if_pos (by omega)]; exact PC_ref hInv (by decide) rfl rfl) | (rw [if_neg (by omega), if_neg (by omega), if_pos (show posL (askL set (κ 40 11).toNat) st (kF κ set) = -1 from pos_no (by omega) (by omega) (by omega))]; exact PC_same hInv rfl)
  refine g_aload_n 14 dX9_dayOf_13 rfl rfl ?_
  refine g_iload 16 dX9_dayOf_14 rfl rfl ?_
  refine e_V 19 0 0 [Iv f] [] dX9_dayOf_16 cvX9_74 mwX9_refuse kd_1 (by omega) rfl (Nat.le_of_ble_eq_true rfl) rfl rfl rfl (c_X9_refuse (-f).toNat (by omega) (by omega)) ?_
  refine g_iret dX9_dayOf_19 rfl ?_
  unfold M_dayOf
  first | (rw [if_pos (by omega)]; rw [← ef]; exact PC_ref hInv (by omega) rfl rfl) | (rw [if_neg (by omega), if_pos (by omega)]; exact PC_ref hInv (by decide) rfl rfl) | (rw [if_neg (by omega), if_neg (by omega), if_pos (show posL (askL set (κ 40 11).toNat) st (kF κ set) = -1 from pos_no (by omega) (by omega) (by omega))]; exact PC_same hInv rfl)
