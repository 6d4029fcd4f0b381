/-! the class: best iron (printed by wip/whole/gen59.py) -/
def csI (κ : Ks) (s : Nat) : Int := if κ 56 s ≠ 0 then 10001 else κ 54 s * κ 40 3
theorem csI_R {κ : Ks} (h : MI κ) {s : Nat} (hs : (s : Int) < κ 40 11) : 0 ≤ csI κ s ∧ csI κ s ≤ 10001 := by
  have b := (h.2.1 s hs).2.1
  have c := h.1.2.2.2.1
  have p1 : 0 ≤ κ 54 s * κ 40 3 := Int.mul_nonneg (by omega) (by omega)
  have p2 : κ 54 s * κ 40 3 ≤ 50 * 99 := Int.mul_le_mul (by omega) (by omega) (by omega) (by omega)
  unfold csI
  split <;> omega
theorem wd_sum {κ : Ks} (h : MI κ) (set : Int) : ∀ m : Nat, (m : Int) ≤ κ 40 11 → 0 ≤ sumB (csI κ) set m ∧ (wdM κ set m = 1 ∧ sumB (csI κ) set m = costM κ set m ∨ wdM κ set m = 0 ∧ 10001 ≤ sumB (csI κ) set m)
  | 0, _ => ⟨Int.le_refl 0, Or.inl ⟨rfl, rfl⟩⟩
  | m + 1, hm => by
    have q := wd_sum h set m (by omega)
    have r := csI_R h (s := m) (by omega)
    have e1 : wdM κ set (m + 1) = if wdM κ set m = 1 ∧ ¬ (bitI set m = 1 ∧ κ 56 m ≠ 0) then 1 else 0 := rfl
    have e2 : costM κ set (m + 1) = costM κ set m + (if bitI set m = 1 then κ 54 m * κ 40 3 else 0) := rfl
    rw [sumB_s, e1, e2]
    by_cases b : bitI set m = 1
    · rw [if_pos b, if_pos b]
      by_cases g : κ 56 m ≠ 0
      · have ec : csI κ m = 10001 := by unfold csI; rw [if_pos g]
        rw [if_neg (fun z => z.2 ⟨b, g⟩)]
        exact ⟨by omega, Or.inr ⟨rfl, by omega⟩⟩
      · have ec : csI κ m = κ 54 m * κ 40 3 := by unfold csI; rw [if_neg g]
        rcases q.2 with ⟨a1, a2⟩ | ⟨a1, a2⟩
        · rw [if_pos ⟨a1, fun z => g z.2⟩]
          exact ⟨by omega, Or.inl ⟨rfl, by rw [a2, ec]⟩⟩
        · rw [if_neg (fun z => by have := z.1; omega)]
          exact ⟨by omega, Or.inr ⟨rfl, by omega⟩⟩
    · rw [if_neg b, if_neg b]
      rcases q.2 with ⟨a1, a2⟩ | ⟨a1, a2⟩
      · rw [if_pos ⟨a1, fun z => b z.1⟩]
        exact ⟨by omega, Or.inl ⟨rfl, by rw [a2]⟩⟩
      · rw [if_neg (fun z => by have := z.1; omega)]
        exact ⟨by omega, Or.inr ⟨rfl, by omega⟩⟩
theorem worM_sum (κ : Ks) (set : Int) : ∀ m : Nat, worM κ set m = sumB (worthM κ) set m
  | 0 => rfl
  | m + 1 => by
    have e : worM κ set (m + 1) = worM κ set m + (if bitI set m = 1 then worthM κ m else 0) := rfl
    rw [e, worM_sum κ set m, sumB_s]
theorem bst_k {κ : Ks} (h : MI κ) {sum : Int} (hs : sum ≤ 10000) : ∀ k : Nat, bst κ sum k = bstG (csI κ) (worthM κ) (κ 40 11).toNat sum k
  | 0 => rfl
  | k + 1 => by
    have i5 := h.1.2.2.2.2.2.1
    have w := wd_sum h ((k : Int) + 1) (κ 40 11).toNat (by omega)
    have e : bst κ sum (k + 1) = if bstC κ sum ((k : Int) + 1) (bst κ sum k) then (worM κ ((k : Int) + 1) (κ 40 11).toNat, (k : Int) + 1) else bst κ sum k := rfl
    rw [e, bstG_s, bst_k h hs k]
    by_cases c : sumB (csI κ) ((k : Int) + 1) (κ 40 11).toNat ≤ sum ∧ ((bstG (csI κ) (worthM κ) (κ 40 11).toNat sum k).1 < sumB (worthM κ) ((k : Int) + 1) (κ 40 11).toNat ∨ sumB (worthM κ) ((k : Int) + 1) (κ 40 11).toNat = (bstG (csI κ) (worthM κ) (κ 40 11).toNat sum k).1 ∧ pc2 32 ((k : Int) + 1) < pc2 32 (bstG (csI κ) (worthM κ) (κ 40 11).toNat sum k).2)
    · have c1 := c.1
      rw [if_pos c, if_pos (show bstC κ sum ((k : Int) + 1) _ from ⟨by omega, by omega, by rw [worM_sum]; exact c.2⟩), worM_sum]
    · rw [if_neg c, if_neg]
      rintro ⟨d1, d2, d3⟩
      rw [worM_sum] at d3
      exact c ⟨by omega, d3⟩
theorem bst_G {κ : Ks} (h : MI κ) {sum : Int} (hs : sum ≤ 10000) : bestM κ sum = bstG (csI κ) (worthM κ) (κ 40 11).toNat sum (2 ^ (κ 40 11).toNat - 1) := bst_k h hs _
theorem best_R {κ : Ks} (h : MI κ) {sum : Int} (hs : sum ≤ 10000) : 0 ≤ (bestM κ sum).2 ∧ (bestM κ sum).2 < 1024 := by
  have i5 := h.1.2.2.2.2.2.1
  have q := (bstG_R (csI κ) (worthM κ) (κ 40 11).toNat sum (2 ^ (κ 40 11).toNat - 1)).1
  rw [bst_G h hs]
  have p := Nat.pow_le_pow_right (n := 2) (by decide) (show (κ 40 11).toNat ≤ 10 by omega)
  have p0 := Nat.pow_pos (n := (κ 40 11).toNat) (show 0 < 2 by decide)
  omega
theorem tell_ok {κ κ2 : Ks} {i : Int} (hi : 0 ≤ i) (hp : ∀ s : Nat, (s : Int) < i → κ2 15 (2 ^ s) = csI κ s ∧ κ2 16 (2 ^ s) = worthM κ s) (s : Nat) (hs : (s : Int) < i + 1) : st2 (st2 κ2 15 (2 ^ i.toNat) (csI κ i.toNat)) 16 (2 ^ i.toNat) (worthM κ i.toNat) 15 (2 ^ s) = csI κ s ∧ st2 (st2 κ2 15 (2 ^ i.toNat) (csI κ i.toNat)) 16 (2 ^ i.toNat) (worthM κ i.toNat) 16 (2 ^ s) = worthM κ s := by
  by_cases e : s = i.toNat
  · subst e
    rw [rd_ne (by omega), rd_eq rfl rfl, rd_eq rfl rfl]
    exact ⟨rfl, rfl⟩
  · have : 2 ^ s ≠ 2 ^ i.toNat := fun z => by
      rcases Nat.lt_or_gt_of_ne e with q | q
      · have := Nat.pow_lt_pow_right (a := 2) (by decide) q
        omega
      · have := Nat.pow_lt_pow_right (a := 2) (by decide) q
        omega
    rw [rd_ne (by omega), rd_ne (by omega), rd_ne (by omega), rd_ne (by omega)]
    exact hp s (by omega)
theorem CI_scrC {κ κ1 μ : Ks} (hI : MI μ) (h : CI κ μ) (fr : ∀ q, q ≠ 15 → q ≠ 16 → (q < 17 ∨ 21 < q) → κ1 q = κ q) (h0 : κ1 16 0 = 0) (h7 : ∀ d : Nat, d < 7 → κ1 21 d = 0) : CI κ1 μ := by
  obtain ⟨cA, cB, cC, cD, cE, cF, cG, cS, cL, cH, cN, cT, cW, cK, cZ⟩ := h
  have i6 := hI.1.2.2.2.2.2.2.1
  have f : ∀ q, (q < 15 ∨ 21 < q) → κ1 q = κ q := fun q hq => fr q (by omega) (by omega) (by omega)
  exact ⟨cA.fr (by rw [f 1 (by decide)]) (by rw [f 1 (by decide)]) (by rw [f 1 (by decide)]) rfl rfl rfl, cB.fr (f _ (by decide)) rfl rfl rfl, cC.fr (f _ (by decide)) rfl, cD.fr (f _ (by decide)) rfl, cE.fr (f _ (by decide)) rfl rfl rfl rfl rfl rfl, cF.fr (fun t h1 h2 => f t (by omega)) rfl rfl, cG.fr (f _ (by decide)) (f _ (by decide)) (f _ (by decide)) (f _ (by decide)) (fun t ht => f t (by omega)) rfl rfl rfl rfl, cS.fr (fun s j _ _ => by rw [f (100 + s) (by omega)]) rfl (fun _ _ _ => rfl), cL.fr (fun s j _ _ => by rw [f (100 + s) (by omega)]) rfl rfl rfl rfl rfl, cH.fr (fun s j _ _ => by rw [f (200 + s) (by omega)]) rfl (fun _ _ _ => rfl), cN.fr i6.1 (fun s _ => by rw [f (100 + s) (by omega)]) (fun s _ => by rw [f (200 + s) (by omega)]) rfl rfl rfl rfl, cT.fr (fun t _ => f _ (by omega)) rfl rfl rfl rfl rfl, cW.fr (fun t _ => f _ (by omega)) rfl rfl rfl rfl rfl, cK.fr (f _ (by decide)) (f _ (by decide)) rfl rfl rfl rfl rfl rfl, ⟨⟨by rw [f 30 (by decide), f 31 (by decide)]; exact cZ.1.1, h0, h7⟩, (f 33 (by decide)).trans cZ.2⟩⟩
theorem PC_scrC {κ κ1 : Ks} {V : Vs} {x w : Int} (h : Inv κ V) (fr : ∀ q, q ≠ 15 → q ≠ 16 → (q < 17 ∨ 21 < q) → κ1 q = κ q) (h0 : κ1 16 0 = 0) (h7 : ∀ d : Nat, d < 7 → κ1 21 d = 0) (hx : x = w) : PC κ (w, κ) (some (Iv x)) V κ1 := ⟨by rw [hx], h.2.2, fun t h1 h2 => fr t (by omega) (by omega) (by omega), CI_scrC h.1 h.2.1 fr h0 h7⟩
set_option maxHeartbeats 4000000 in
set_option maxRecDepth 20000 in
theorem c_X9_findIron {B : Bs} {n0 : Nat} {V : Vs} {κ : Ks} {sum : Int} (h_sum : 0 ≤ sum ∧ sum ≤ 10000) (hInv : Inv κ V) : Ct (XR B n0) mX9_findIron 4 0 0 [Rf 1, Iv sum] V κ (fun r V1 κ1 => r = some (Iv (bestM κ sum).2) ∧ V1 = V ∧ (∀ q, q ≠ 15 → q ≠ 16 → κ1 q = κ q) ∧ κ1 16 0 = 0 ∧ κ1 16 (bestM κ sum).2.toNat = (bestM κ sum).1) := by
  obtain ⟨hI, hC, hV⟩ := id hInv
  obtain ⟨cA, cB, cC, cD, cE, cF, cG, cS, cL, cH, cN, cT, cW, cK, cZ⟩ := id hC
  obtain ⟨⟨i0, i1, i2, i3, i4, i5, i6, i7, i8, i9⟩, iS, iH, iR, iT, iC, iG, iL, iZ⟩ := id hI
  obtain ⟨⟨cV0, cV1, cV2, cV4⟩, _⟩ := id hV
  obtain ⟨cA0, cA1, cA2⟩ := id cA
  obtain ⟨cB0, cB1, cB2⟩ := id cB
  obtain ⟨⟨⟨⟨z0, z1, z2⟩, z3, z4, z5⟩, z6, z7⟩, z8⟩ := id cZ
  have en0 : κ 2 2 = κ 40 11 := cG.1.2.2.1
  have en1 : κ 3 2 = κ 40 20 := cG.2.1.2.2.1
  have en2 : κ 4 2 = κ 40 31 := cG.2.2.1.2.2.1
  have en3 : κ 5 2 = κ 40 41 := cG.2.2.2.2.2.1
  refine Ct.of (L := [some (Rf 1), some (Iv sum), none, none, none]) 3 (by decide +kernel) rfl rfl ?_
  have lp : ∀ (m : Nat) (i : Int) (u3 u4 : Option Av) (κ2 : Ks), 0 ≤ i ∧ i ≤ κ 40 11 → (m : Int) = κ 40 11 - i → (∀ q, q ≠ 15 → q ≠ 16 → κ2 q = κ q) → κ2 16 0 = 0 → (∀ s : Nat, (s : Int) < i → κ2 15 (2 ^ s) = csI κ s ∧ κ2 16 (2 ^ s) = worthM κ s) → G (XR B n0) mX9_findIron 4 (fun r V1 κ1 => r = some (Iv (bestM κ sum).2) ∧ V1 = V ∧ (∀ q, q ≠ 15 → q ≠ 16 → κ1 q = κ q) ∧ κ1 16 0 = 0 ∧ κ1 16 (bestM κ sum).2.toNat = (bestM κ sum).1) V 0 0 2 [some (Rf 1), some (Iv sum), some (Iv i), u3, u4] [] V κ2 := by
    intro m
    induction m using Nat.strongRecOn with
    | ind m ih =>
      intro i u3 u4 κ2 hi hm fr h0 hp
      have fL : Lst κ2 0 (κ 40 11) := cG.1.fr (fr 2 (by decide) (by decide)) (fun z => fr _ (by have := etg_ge (k := 0) z; omega) (by have := etg_ge (k := 0) z; omega))
      have en : κ2 2 2 = κ 40 11 := fL.2.2.1
      have e12 : κ2 1 12 = κ 40 0 := (congrFun (fr 1 (by decide) (by decide)) 12).trans cA0
      have e8 : κ2 8 2 = κ 40 3 := (congrFun (fr 8 (by decide) (by decide)) 2).trans cB2
      have gk2 : gK κ2 κ := cK.fr (fr 11 (by decide) (by decide)) (fr 12 (by decide) (by decide)) rfl rfl rfl rfl rfl rfl
      refine g_iload_n 3 dX9_findIron_2 rfl rfl ?_
      refine g_aload_n 4 dX9_findIron_3 rfl rfl ?_
      refine g_getC 7 dX9_findIron_4 fgX9_10 kd_1 ly_1_0 rfl ?_
      refine e_V 10 0 0 [] [Iv i] dX9_findIron_7 cvX9_78 mwJx4a65c_size_8abf5 kd_2 (by decide) rfl (Nat.le_of_ble_eq_true rfl) rfl rfl rfl (c_size_0) ?_
      refine g_icmp_ge 84 13 dX9_findIron_10 (by first | assumption | omega) (by first | assumption | omega) (by decide) rfl (fun h101 => ?_) (fun h101 => ?_)
      · refine g_aload_n 85 dX9_findIron_84 rfl rfl ?_
        refine g_getC 88 dX9_findIron_85 fgX9_58 kd_1 ly_1_10 rfl ?_
        refine g_aload_n 89 dX9_findIron_88 rfl rfl ?_
        refine g_getC 92 dX9_findIron_89 fgX9_10 kd_1 ly_1_0 rfl ?_
        refine e_V 95 0 0 [] [Rf 14] dX9_findIron_92 cvX9_78 mwJx4a65c_size_8abf5 kd_2 (by decide) rfl (Nat.le_of_ble_eq_true rfl) rfl rfl rfl (c_size_0) ?_
        refine G.eqi (show κ2 2 2 = (((κ 40 11).toNat : Nat) : Int) by omega) ?_
        refine g_iload_n 96 dX9_findIron_95 rfl rfl ?_
        refine p_V 99 0 0 [Iv (((κ 40 11).toNat : Nat) : Int), Iv sum] [] dX9_findIron_96 cvX9_370 mwX2_bestSet kd_14 (by decide) rfl (Nat.le_of_ble_eq_true rfl) rfl rfl rfl (c_X2_bestSet (n := (κ 40 11).toNat) (cs := csI κ) (ws := worthM κ) (by omega) (by omega) (fun s hs => csI_R hI (by omega)) (fun s hs => worth_R hI (by omega)) h0 (fun s hs => hp s (by omega))) ?_
        intro r1 V1 κ1 hp1
        obtain ⟨hr1, hv1, fr1, z1, zb⟩ := hp1
        subst hv1
        rw [← bst_G hI h_sum.2] at hr1 zb
        subst hr1
        refine ⟨[Iv (bestM κ sum).2], rfl, ?_⟩
        refine g_iret dX9_findIron_99 rfl ?_
        exact ⟨rfl, rfl, fun q h1 h2 => (fr1 q h1 h2).trans (fr q h1 h2), z1, zb⟩
      refine g_aload_n 14 dX9_findIron_13 rfl rfl ?_
      refine g_getC 17 dX9_findIron_14 fgX9_10 kd_1 ly_1_0 rfl ?_
      refine g_iload_n 18 dX9_findIron_17 rfl rfl ?_
      refine e_V 21 0 0 [Iv i] [] dX9_findIron_18 cvX9_190 mwJx4a65c_get_915e3 kd_2 (by decide) rfl (Nat.le_of_ble_eq_true rfl) rfl rfl rfl (c_get_0 fL (by omega) (by omega)) ?_
      refine g_cast 24 dX9_findIron_21 clX9_82 (ci := 6) rfl (by decide) (kd_S (by omega)) rfl ?_
      have fS := fr (100 + (i).toNat) (by omega) (by omega)
      have qS := cS i.toNat (by omega)
      have qI := iS i.toNat (by omega)
      have s1 : κ2 (100 + (i).toNat) 1 = κ 54 i.toNat := (congrFun fS 1).trans qS.2.1
      have s2 : κ2 (100 + (i).toNat) 2 = κ 55 i.toNat := (congrFun fS 2).trans qS.2.2.1
      have s3 : κ2 (100 + (i).toNat) 3 = κ 56 i.toNat := (congrFun fS 3).trans qS.2.2.2.1
      have cR := csI_R hI (s := i.toNat) (by omega)
      have wR := worth_R hI (s := i.toNat) (by omega)
      have dR := drip_R hI (s := i.toNat) (by omega)
      have nR := cntO_R κ i 168
      refine g_astore_n (L' := [some (Rf 1), some (Iv sum), some (Iv i), some (Rf (100 + (i).toNat)), u4]) 25 dX9_findIron_24 rfl (by decide) rfl ?_
      refine g_aload_n 26 dX9_findIron_25 rfl rfl ?_
      refine r_getI 29 (κ2 (100 + (i).toNat) 3) dX9_findIron_26 fgX9_207 (kd_S (by omega)) (ly_S (by omega) 3) rfl (rfl) (fun r102 => ?_)
      refine g_if_eq 38 32 dX9_findIron_29 (by first | assumption | omega) (by decide) rfl (fun h103 => ?_) (fun h103 => ?_)
      · refine g_aload_n 39 dX9_findIron_38 rfl rfl ?_
        refine r_getI 42 (κ2 (100 + (i).toNat) 1) dX9_findIron_39 fgX9_363 (kd_S (by omega)) (ly_S (by omega) 1) rfl (rfl) (fun r104 => ?_)
        refine g_aload_n 43 dX9_findIron_42 rfl rfl ?_
        refine g_getC 46 dX9_findIron_43 fgX9_35 kd_1 ly_1_6 rfl ?_
        refine g_iconst 47 dX9_findIron_46 (by decide) rfl ?_
        refine r_iald 48 2 (κ2 8 2) dX9_findIron_47 kd_8 (by decide) (by omega) (rfl) rfl (rfl) (fun r105 => ?_)
        refine g_imul 49 dX9_findIron_48 rfl ?_
        refine G.eqi (show ((κ2 (100 + (i).toNat) 1) * (κ2 8 2)) = csI κ i.toNat from by unfold csI; rw [if_neg (by omega), s1, e8]) ?_
        refine g_istore (L' := [some (Rf 1), some (Iv sum), some (Iv i), some (Rf (100 + (i).toNat)), some (Iv (csI κ i.toNat))]) 51 dX9_findIron_49 rfl (by decide) rfl ?_
        refine g_aload_n 52 dX9_findIron_51 rfl rfl ?_
        refine g_getC 55 dX9_findIron_52 fgX9_58 kd_1 ly_1_10 rfl ?_
        refine g_iload_n 56 dX9_findIron_55 rfl rfl ?_
        refine g_iload 58 dX9_findIron_56 rfl rfl ?_
        refine g_aload_n 59 dX9_findIron_58 rfl rfl ?_
        refine g_aload_n 60 dX9_findIron_59 rfl rfl ?_
        refine e_V 63 0 0 [] [Rf (100 + (i).toNat), Iv (csI κ i.toNat), Iv i, Rf 14] dX9_findIron_60 cvX9_84 mwX9_weekNow kd_1 (by decide) rfl (Nat.le_of_ble_eq_true rfl) rfl rfl rfl (c_X9_weekNow (by omega)) ?_
        refine e_V 66 0 0 [Iv ((κ2 1 12) / 168)] [Iv (csI κ i.toNat), Iv i, Rf 14] dX9_findIron_63 cvX9_287 mwX5_dripIn (kd_S (by omega)) (by decide) rfl (Nat.le_of_ble_eq_true rfl) rfl rfl rfl (c_X5_dripIn (by omega) (by omega) (by omega)) ?_
        refine G.eqi (show (if κ2 (100 + (i).toNat) 3 ≠ 0 then 0 else κ2 (100 + (i).toNat) 1 * (1 + ((κ2 1 12) / 168 - κ2 (100 + (i).toNat) 2) / 4) / 10) = dripM κ i.toNat from by unfold dripM; rw [s3, s1, s2, e12]) ?_
        refine g_aload_n 67 dX9_findIron_66 rfl rfl ?_
        refine g_getC 70 dX9_findIron_67 fgX9_44 kd_1 ly_1_8 rfl ?_
        refine g_iload_n 71 dX9_findIron_70 rfl rfl ?_
        refine e_V 74 0 0 [Iv i] [Iv (dripM κ i.toNat), Iv (csI κ i.toNat), Iv i, Rf 14] dX9_findIron_71 cvX9_364 mwX8_hoursOpen kd_10 (by decide) rfl (Nat.le_of_ble_eq_true rfl) rfl rfl rfl (c_X8_hoursOpen (μ := κ) gk2 (by omega) (by omega)) ?_
        refine g_imul 75 dX9_findIron_74 rfl ?_
        refine G.eqi (show ((dripM κ i.toNat) * (cntO κ i 168)) = worthM κ i.toNat from by unfold worthM; rw [show ((i.toNat : Nat) : Int) = i by omega, Int.mul_comm]) ?_
        refine v_V 78 0 0 [Iv i, Iv (csI κ i.toNat), Iv (worthM κ i.toNat)] [] dX9_findIron_75 cvX9_367 mwX2_tell kd_14 (by decide) rfl (Nat.le_of_ble_eq_true rfl) rfl rfl rfl (c_X2_tell (by omega) (by omega) (by omega)) ?_
        refine g_iinc (L' := [some (Rf 1), some (Iv sum), some (Iv (i + 1)), some (Rf (100 + (i).toNat)), some (Iv (csI κ i.toNat))]) 81 dX9_findIron_78 rfl rfl (by decide) rfl ?_
        refine g_goto 2 dX9_findIron_81 (by decide) ?_
        exact ih (m - 1) (by omega) (i + 1) _ _ _ (by omega) (by omega) (fun q h1 h2 => (st2_t h2).trans ((st2_t h1).trans (fr q h1 h2))) (by rw [rd_ne (by have := Nat.pow_pos (n := i.toNat) (show 0 < 2 by decide); omega), rd_ne (by omega)]; exact h0) (tell_ok hi.1 hp)
      refine g_sipush 35 dX9_findIron_32 (by decide) rfl ?_
      refine g_goto 49 dX9_findIron_35 (by decide) ?_
      refine G.eqi (show 10001 = csI κ i.toNat from by unfold csI; rw [if_pos (by omega)]) ?_
      refine g_istore (L' := [some (Rf 1), some (Iv sum), some (Iv i), some (Rf (100 + (i).toNat)), some (Iv (csI κ i.toNat))]) 51 dX9_findIron_49 rfl (by decide) rfl ?_
      refine g_aload_n 52 dX9_findIron_51 rfl rfl ?_
      refine g_getC 55 dX9_findIron_52 fgX9_58 kd_1 ly_1_10 rfl ?_
      refine g_iload_n 56 dX9_findIron_55 rfl rfl ?_
      refine g_iload 58 dX9_findIron_56 rfl rfl ?_
      refine g_aload_n 59 dX9_findIron_58 rfl rfl ?_
      refine g_aload_n 60 dX9_findIron_59 rfl rfl ?_
      refine e_V 63 0 0 [] [Rf (100 + (i).toNat), Iv (csI κ i.toNat), Iv i, Rf 14] dX9_findIron_60 cvX9_84 mwX9_weekNow kd_1 (by decide) rfl (Nat.le_of_ble_eq_true rfl) rfl rfl rfl (c_X9_weekNow (by omega)) ?_
      refine e_V 66 0 0 [Iv ((κ2 1 12) / 168)] [Iv (csI κ i.toNat), Iv i, Rf 14] dX9_findIron_63 cvX9_287 mwX5_dripIn (kd_S (by omega)) (by decide) rfl (Nat.le_of_ble_eq_true rfl) rfl rfl rfl (c_X5_dripIn (by omega) (by omega) (by omega)) ?_
      refine G.eqi (show (if κ2 (100 + (i).toNat) 3 ≠ 0 then 0 else κ2 (100 + (i).toNat) 1 * (1 + ((κ2 1 12) / 168 - κ2 (100 + (i).toNat) 2) / 4) / 10) = dripM κ i.toNat from by unfold dripM; rw [s3, s1, s2, e12]) ?_
      refine g_aload_n 67 dX9_findIron_66 rfl rfl ?_
      refine g_getC 70 dX9_findIron_67 fgX9_44 kd_1 ly_1_8 rfl ?_
      refine g_iload_n 71 dX9_findIron_70 rfl rfl ?_
      refine e_V 74 0 0 [Iv i] [Iv (dripM κ i.toNat), Iv (csI κ i.toNat), Iv i, Rf 14] dX9_findIron_71 cvX9_364 mwX8_hoursOpen kd_10 (by decide) rfl (Nat.le_of_ble_eq_true rfl) rfl rfl rfl (c_X8_hoursOpen (μ := κ) gk2 (by omega) (by omega)) ?_
      refine g_imul 75 dX9_findIron_74 rfl ?_
      refine G.eqi (show ((dripM κ i.toNat) * (cntO κ i 168)) = worthM κ i.toNat from by unfold worthM; rw [show ((i.toNat : Nat) : Int) = i by omega, Int.mul_comm]) ?_
      refine v_V 78 0 0 [Iv i, Iv (csI κ i.toNat), Iv (worthM κ i.toNat)] [] dX9_findIron_75 cvX9_367 mwX2_tell kd_14 (by decide) rfl (Nat.le_of_ble_eq_true rfl) rfl rfl rfl (c_X2_tell (by omega) (by omega) (by omega)) ?_
      refine g_iinc (L' := [some (Rf 1), some (Iv sum), some (Iv (i + 1)), some (Rf (100 + (i).toNat)), some (Iv (csI κ i.toNat))]) 81 dX9_findIron_78 rfl rfl (by decide) rfl ?_
      refine g_goto 2 dX9_findIron_81 (by decide) ?_
      exact ih (m - 1) (by omega) (i + 1) _ _ _ (by omega) (by omega) (fun q h1 h2 => (st2_t h2).trans ((st2_t h1).trans (fr q h1 h2))) (by rw [rd_ne (by have := Nat.pow_pos (n := i.toNat) (show 0 < 2 by decide); omega), rd_ne (by omega)]; exact h0) (tell_ok hi.1 hp)
  refine g_iconst 1 dX9_findIron_0 (by decide) rfl ?_
  refine g_istore_n (L' := [some (Rf 1), some (Iv sum), some (Iv 0), none, none]) 2 dX9_findIron_1 rfl (by decide) rfl ?_
  exact lp (κ 40 11).toNat 0 none none κ (by omega) (by omega) (fun _ _ _ => rfl) z6 (fun s hs => by omega)
set_option maxHeartbeats 4000000 in
set_option maxRecDepth 20000 in
theorem c_X9_refusalOfIronSum {B : Bs} {n0 : Nat} {V : Vs} {κ : Ks} {sum : Int} (r_s : inR sum) : Ct (XR B n0) mX9_refusalOfIronSum 1 0 0 [Iv sum] V κ (Ex (some (Iv (if sum < 0 then -4 else if 10000 < sum then -6 else 0))) V κ) := by
  refine Ct.of (L := [some (Iv sum)]) 0 (by decide +kernel) rfl rfl ?_
  refine g_iload_n 1 dX9_refusalOfIronSum_0 rfl rfl ?_
  refine g_if_ge 7 4 dX9_refusalOfIronSum_1 (by first | assumption | omega) (by decide) rfl (fun h1 => ?_) (fun h1 => ?_)
  · refine g_iload_n 8 dX9_refusalOfIronSum_7 rfl rfl ?_
    refine g_sipush 11 dX9_refusalOfIronSum_8 (by decide) rfl ?_
    refine g_icmp_le 19 14 dX9_refusalOfIronSum_11 (by first | assumption | omega) (by decide) (by decide) rfl (fun h2 => ?_) (fun h2 => ?_)
    · refine g_iconst 20 dX9_refusalOfIronSum_19 (by decide) rfl ?_
      refine g_iret dX9_refusalOfIronSum_20 rfl ?_
      (repeat' split) <;> first | (exfalso; omega) | exact ⟨rfl, rfl, rfl⟩
    refine g_bipush 16 dX9_refusalOfIronSum_14 (by decide) rfl ?_
    refine g_goto 20 dX9_refusalOfIronSum_16 (by decide) ?_
    refine g_iret dX9_refusalOfIronSum_20 rfl ?_
    (repeat' split) <;> first | (exfalso; omega) | exact ⟨rfl, rfl, rfl⟩
  refine g_bipush 6 dX9_refusalOfIronSum_4 (by decide) rfl ?_
  refine g_iret dX9_refusalOfIronSum_6 rfl ?_
  (repeat' split) <;> first | (exfalso; omega) | exact ⟨rfl, rfl, rfl⟩
set_option maxHeartbeats 4000000 in
set_option maxRecDepth 20000 in
theorem c_X9_best {B : Bs} {n0 : Nat} {V : Vs} {κ : Ks} {sum : Int} (r_sum : inR sum)  (hInv : Inv κ V) : Ct (XR B n0) mX9_best 5 0 0 [Rf 1, Iv sum] V κ (PC κ (M_best κ sum)) := by
  obtain ⟨hI, hC, hV⟩ := id hInv
  obtain ⟨cA, cB, cC, cD, cE, cF, cG, cS, cL, cH, cN, cT, cW, cK, cZ⟩ := id hC
  obtain ⟨⟨i0, i1, i2, i3, i4, i5, i6, i7, i8, i9⟩, iS, iH, iR, iT, iC, iG, iL, iZ⟩ := id hI
  obtain ⟨⟨cV0, cV1, cV2, cV4⟩, _⟩ := id hV
  obtain ⟨cA0, cA1, cA2⟩ := id cA
  obtain ⟨cB0, cB1, cB2⟩ := id cB
  obtain ⟨⟨⟨⟨z0, z1, z2⟩, z3, z4, z5⟩, z6, z7⟩, z8⟩ := id cZ
  have en0 : κ 2 2 = κ 40 11 := cG.1.2.2.1
  have en1 : κ 3 2 = κ 40 20 := cG.2.1.2.2.1
  have en2 : κ 4 2 = κ 40 31 := cG.2.2.1.2.2.1
  have en3 : κ 5 2 = κ 40 41 := cG.2.2.2.2.2.1
  refine Ct.of (L := [some (Rf 1), some (Iv sum), none]) 1 (by decide +kernel) rfl rfl ?_
  refine g_iload_n 1 dX9_best_0 rfl rfl ?_
  refine e_S 4 0 0 [Iv sum] [] dX9_best_1 csX9_243 mwX9_refusalOfIronSum (by decide) rfl (Nat.le_of_ble_eq_true rfl) rfl rfl rfl (c_X9_refusalOfIronSum (by omega)) ?_
  obtain ⟨f, ef⟩ : ∃ f : Int, f = (if sum < 0 then -4 else if 10000 < sum then -6 else 0) := ⟨_, rfl⟩
  refine G.eqi ef.symm ?_
  have ff : (f = -4 ∧ sum < 0) ∨ (f = -6 ∧ 10000 < sum) ∨ (f = 0 ∧ 0 ≤ sum ∧ sum ≤ 10000) := by rw [ef]; (repeat' split) <;> omega
  refine g_istore_n (L' := [some (Rf 1), some (Iv sum), some (Iv f)]) 5 dX9_best_4 rfl (by decide) rfl ?_
  refine g_iload_n 6 dX9_best_5 rfl rfl ?_
  refine g_if_eq 15 9 dX9_best_6 (by first | assumption | omega) (by decide) rfl (fun h1 => ?_) (fun h1 => ?_)
  · have h_f : 0 ≤ sum ∧ sum ≤ 10000 := by omega
    refine g_aload_n 16 dX9_best_15 rfl rfl ?_
    refine g_iload_n 17 dX9_best_16 rfl rfl ?_
    refine p_V 20 0 0 [Iv sum] [] dX9_best_17 cvX9_246 mwX9_findIron kd_1 (by decide) rfl (Nat.le_of_ble_eq_true rfl) rfl rfl rfl (c_X9_findIron h_f hInv) ?_
    intro r1 V1 κ1 hp1
    obtain ⟨hr1, hv1, fr1, z1, zb⟩ := hp1
    subst hv1
    subst hr1
    refine ⟨[Iv ((bestM κ sum).2)], rfl, ?_⟩
    have bR := best_R hI h_f.2
    refine g_iret dX9_best_20 rfl ?_
    unfold M_best
    rw [if_neg (by omega), if_neg (by omega)]
    exact PC_scrC hInv (fun q h1 h2 _ => fr1 q h1 h2) z1 (fun d hd => by rw [fr1 21 (by decide) (by decide)]; exact z7 d hd) rfl
  refine g_aload_n 10 dX9_best_9 rfl rfl ?_
  refine g_iload_n 11 dX9_best_10 rfl rfl ?_
  refine e_V 14 0 0 [Iv f] [] dX9_best_11 cvX9_74 mwX9_refuse kd_1 (by decide) rfl (Nat.le_of_ble_eq_true rfl) rfl rfl rfl (c_X9_refuse (-f).toNat (by omega) (by omega)) ?_
  refine g_iret dX9_best_14 rfl ?_
  rcases ff with ⟨e1, e2⟩ | ⟨e1, e2⟩ | ⟨e1, e2⟩
  · unfold M_best
    rw [if_pos e2]
    exact PC_ref hInv (by decide) e1 (by rw [e1]; rfl)
  · unfold M_best
    rw [if_neg (by omega), if_pos e2]
    exact PC_ref hInv (by decide) e1 (by rw [e1]; rfl)
  · exact absurd e1 (by omega)
set_option maxHeartbeats 4000000 in
set_option maxRecDepth 20000 in
theorem c_X9_bestWorth {B : Bs} {n0 : Nat} {V : Vs} {κ : Ks} {sum : Int} (r_sum : inR sum)  (hInv : Inv κ V) : Ct (XR B n0) mX9_bestWorth 5 0 0 [Rf 1, Iv sum] V κ (PC κ (M_bestWorth κ sum)) := by
  obtain ⟨hI, hC, hV⟩ := id hInv
  obtain ⟨cA, cB, cC, cD, cE, cF, cG, cS, cL, cH, cN, cT, cW, cK, cZ⟩ := id hC
  obtain ⟨⟨i0, i1, i2, i3, i4, i5, i6, i7, i8, i9⟩, iS, iH, iR, iT, iC, iG, iL, iZ⟩ := id hI
  obtain ⟨⟨cV0, cV1, cV2, cV4⟩, _⟩ := id hV
  obtain ⟨cA0, cA1, cA2⟩ := id cA
  obtain ⟨cB0, cB1, cB2⟩ := id cB
  obtain ⟨⟨⟨⟨z0, z1, z2⟩, z3, z4, z5⟩, z6, z7⟩, z8⟩ := id cZ
  have en0 : κ 2 2 = κ 40 11 := cG.1.2.2.1
  have en1 : κ 3 2 = κ 40 20 := cG.2.1.2.2.1
  have en2 : κ 4 2 = κ 40 31 := cG.2.2.1.2.2.1
  have en3 : κ 5 2 = κ 40 41 := cG.2.2.2.2.2.1
  refine Ct.of (L := [some (Rf 1), some (Iv sum), none]) 1 (by decide +kernel) rfl rfl ?_
  refine g_iload_n 1 dX9_bestWorth_0 rfl rfl ?_
  refine e_S 4 0 0 [Iv sum] [] dX9_bestWorth_1 csX9_243 mwX9_refusalOfIronSum (by decide) rfl (Nat.le_of_ble_eq_true rfl) rfl rfl rfl (c_X9_refusalOfIronSum (by omega)) ?_
  obtain ⟨f, ef⟩ : ∃ f : Int, f = (if sum < 0 then -4 else if 10000 < sum then -6 else 0) := ⟨_, rfl⟩
  refine G.eqi ef.symm ?_
  have ff : (f = -4 ∧ sum < 0) ∨ (f = -6 ∧ 10000 < sum) ∨ (f = 0 ∧ 0 ≤ sum ∧ sum ≤ 10000) := by rw [ef]; (repeat' split) <;> omega
  refine g_istore_n (L' := [some (Rf 1), some (Iv sum), some (Iv f)]) 5 dX9_bestWorth_4 rfl (by decide) rfl ?_
  refine g_iload_n 6 dX9_bestWorth_5 rfl rfl ?_
  refine g_if_eq 15 9 dX9_bestWorth_6 (by first | assumption | omega) (by decide) rfl (fun h1 => ?_) (fun h1 => ?_)
  · have h_f : 0 ≤ sum ∧ sum ≤ 10000 := by omega
    refine g_aload_n 16 dX9_bestWorth_15 rfl rfl ?_
    refine g_getC 19 dX9_bestWorth_16 fgX9_58 kd_1 ly_1_10 rfl ?_
    refine g_aload_n 20 dX9_bestWorth_19 rfl rfl ?_
    refine g_iload_n 21 dX9_bestWorth_20 rfl rfl ?_
    refine p_V 24 0 0 [Iv sum] [Rf 14] dX9_bestWorth_21 cvX9_246 mwX9_findIron kd_1 (by decide) rfl (Nat.le_of_ble_eq_true rfl) rfl rfl rfl (c_X9_findIron h_f hInv) ?_
    intro r1 V1 κ1 hp1
    obtain ⟨hr1, hv1, fr1, z1, zb⟩ := hp1
    subst hv1
    subst hr1
    refine ⟨[Iv ((bestM κ sum).2), Rf 14], rfl, ?_⟩
    have bR := best_R hI h_f.2
    refine e_V 27 0 0 [Iv ((bestM κ sum).2)] [] dX9_bestWorth_24 cvX9_249 mwX2_worthOf kd_14 (by decide) rfl (Nat.le_of_ble_eq_true rfl) rfl rfl rfl (c_X2_worthOf (by omega)) ?_
    refine g_iret dX9_bestWorth_27 rfl ?_
    unfold M_bestWorth
    rw [if_neg (by omega), if_neg (by omega)]
    exact PC_scrC hInv (fun q h1 h2 _ => fr1 q h1 h2) z1 (fun d hd => by rw [fr1 21 (by decide) (by decide)]; exact z7 d hd) zb
  refine g_aload_n 10 dX9_bestWorth_9 rfl rfl ?_
  refine g_iload_n 11 dX9_bestWorth_10 rfl rfl ?_
  refine e_V 14 0 0 [Iv f] [] dX9_bestWorth_11 cvX9_74 mwX9_refuse kd_1 (by decide) rfl (Nat.le_of_ble_eq_true rfl) rfl rfl rfl (c_X9_refuse (-f).toNat (by omega) (by omega)) ?_
  refine g_iret dX9_bestWorth_14 rfl ?_
  rcases ff with ⟨e1, e2⟩ | ⟨e1, e2⟩ | ⟨e1, e2⟩
  · unfold M_bestWorth
    rw [if_pos e2]
    exact PC_ref hInv (by decide) e1 (by rw [e1]; rfl)
  · unfold M_bestWorth
    rw [if_neg (by omega), if_pos e2]
    exact PC_ref hInv (by decide) e1 (by rw [e1]; rfl)
  · exact absurd e1 (by omega)
