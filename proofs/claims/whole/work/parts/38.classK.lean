/-! the class: a row made anew, a reading (printed by wip/whole/gen38.py) -/
theorem lowM_s (μ : Ks) (s : Int) (k : Nat) : lowM μ s (k + 1) = if μ 79 k = s then max (lowM μ s k) (μ 80 k - μ 81 k) else lowM μ s k := rfl
theorem highM_s (μ : Ks) (s : Int) (k : Nat) : highM μ s (k + 1) = if μ 79 k = s then min (highM μ s k) (μ 80 k + μ 81 k) else highM μ s k := rfl
theorem lowM_lt {μ μ' : Ks} {s : Int} : ∀ n : Nat, (∀ k : Nat, k < n → μ' 79 k = μ 79 k ∧ μ' 80 k = μ 80 k ∧ μ' 81 k = μ 81 k) → lowM μ' s n = lowM μ s n
  | 0, _ => rfl
  | n + 1, h => by
    obtain ⟨a, b, c⟩ := h n (by omega)
    rw [lowM_s, lowM_s, lowM_lt n (fun k hk => h k (by omega)), a, b, c]
theorem highM_lt {μ μ' : Ks} {s : Int} : ∀ n : Nat, (∀ k : Nat, k < n → μ' 79 k = μ 79 k ∧ μ' 80 k = μ 80 k ∧ μ' 81 k = μ 81 k) → highM μ' s n = highM μ s n
  | 0, _ => rfl
  | n + 1, h => by
    obtain ⟨a, b, c⟩ := h n (by omega)
    rw [highM_s, highM_s, highM_lt n (fun k hk => h k (by omega)), a, b, c]
theorem CI_rows {κ κ' μ μ' : Ks} (hI : MI μ) (h : CI κ μ) (hk : ∀ t : Nat, t < 22 ∨ 30 ≤ t → κ' t = κ t) (hm : ∀ t : Nat, t ≠ 70 → t ≠ 71 → t ≠ 88 → μ' t = μ t) (hF : gF κ' μ') : CI κ' μ' := by
  obtain ⟨hA, hB, hC, hD, hE, _, hG, hS, hL, hH, hN, hT, hW, hK, hZ⟩ := h
  have k : ∀ t j : Nat, t < 22 ∨ 30 ≤ t → κ' t j = κ t j := fun t j ht => by rw [hk t ht]
  have m : ∀ j : Nat, μ' 40 j = μ 40 j := fun j => by rw [hm 40 (by decide) (by decide) (by decide)]
  exact ⟨hA.fr (k _ _ (by omega)) (k _ _ (by omega)) (k _ _ (by omega)) (m _) (m _) (m _), hB.fr (hk _ (by omega)) (m _) (m _) (m _), hC.fr (hk _ (by omega)) (hm _ (by omega) (by omega) (by omega)), hD.fr (hk _ (by omega)) (hm _ (by omega) (by omega) (by omega)), hE.fr (hk _ (by omega)) (m _) (m _) (m _) (m _) (m _) (m _), hF, hG.fr (hk _ (by omega)) (hk _ (by omega)) (hk _ (by omega)) (hk _ (by omega)) (fun t ht => hk _ (by omega)) (m _) (m _) (m _) (m _), hS.fr (fun z j _ _ => k _ _ (by omega)) (m _) (fun t h1 h2 => hm _ (by omega) (by omega) (by omega)), hL.fr (fun z j _ _ => k _ _ (by omega)) (m _) (m _) (hm _ (by omega) (by omega) (by omega)) (hm _ (by omega) (by omega) (by omega)) (hm _ (by omega) (by omega) (by omega)), hH.fr (fun z j _ _ => k _ _ (by omega)) (m _) (fun t h1 h2 => hm _ (by omega) (by omega) (by omega)), hN.fr hI.1.2.2.2.2.2.2.1.1 (fun z _ => k _ _ (by omega)) (fun z _ => k _ _ (by omega)) (m _) (m _) (hm _ (by omega) (by omega) (by omega)) (hm _ (by omega) (by omega) (by omega)), hT.fr (fun t _ => hk _ (by omega)) (m _) (hm _ (by omega) (by omega) (by omega)) (hm _ (by omega) (by omega) (by omega)) (hm _ (by omega) (by omega) (by omega)) (hm _ (by omega) (by omega) (by omega)), hW.fr (fun t _ => hk _ (by omega)) (m _) (hm _ (by omega) (by omega) (by omega)) (hm _ (by omega) (by omega) (by omega)) (hm _ (by omega) (by omega) (by omega)) (hm _ (by omega) (by omega) (by omega)), hK.fr (hk _ (by omega)) (hk _ (by omega)) (m _) (m _) (hm _ (by omega) (by omega) (by omega)) (hm _ (by omega) (by omega) (by omega)) (hm _ (by omega) (by omega) (by omega)) (hm _ (by omega) (by omega) (by omega)), hZ.fr (hk _ (by omega)) (hk _ (by omega)) (hk _ (by omega)) (hk _ (by omega)) (hk _ (by omega)) (hm _ (by omega) (by omega) (by omega))⟩
theorem flN_o {κ : Ks} {t : Nat} {v : Int} {a : Nat} (h : a ≠ t) : ∀ k, flN κ t v k a = κ a
  | 0 => rfl
  | k + 1 => (st2_t h).trans (flN_o h k)
theorem flN_i {κ : Ks} {t : Nat} {v : Int} {j : Nat} : ∀ k, j < k → flN κ t v k t j = v
  | 0, h => absurd h (Nat.not_lt_zero _)
  | k + 1, h => by
    by_cases e : j = k
    · exact rd_eq rfl e
    · exact (rd_ne (Or.inr e)).trans (flN_i k (by omega))
theorem zro {κ : Ks} {r a : Nat} (h : a ≠ 71) : ∀ k, zrow κ r k a = κ a
  | 0 => rfl
  | k + 1 => (st2_t h).trans (zro h k)
theorem zrx {κ : Ks} {r j : Nat} : ∀ k, (∀ i, i < k → j ≠ 24 * r + i) → zrow κ r k 71 j = κ 71 j
  | 0, _ => rfl
  | k + 1, h => (rd_ne (Or.inr (h k (by omega)))).trans (zrx k (fun i hi => h i (by omega)))
theorem zri {κ : Ks} {r i : Nat} : ∀ k, i < k → zrow κ r k 71 (24 * r + i) = 0
  | 0, h => absurd h (Nat.not_lt_zero _)
  | k + 1, h => by
    by_cases e : i = k
    · exact rd_eq rfl (by omega)
    · exact (rd_ne (by omega)).trans (zri k (by omega))
theorem PC_row {κ : Ks} {V : Vs} {r : Nat} {n : Int} (h : Inv κ V) (hr : r < 4) (hn : 0 ≤ n ∧ n ≤ 24) {x : Int} (hx : x = n) : PC κ (n, zrow (st2 κ 70 r n) r n.toNat) (some (Iv x)) V (st2 (flN κ (23 + 2 * r) 0 24) (22 + 2 * r) 1 n) := by
  subst hx
  have m : ∀ t : Nat, t ≠ 70 → t ≠ 71 → t ≠ 88 → zrow (st2 κ 70 r x) r x.toNat t = κ t := fun t h1 h2 _ => (zro h2 _).trans (st2_t h1)
  have m4 : ∀ j : Nat, zrow (st2 κ 70 r x) r x.toNat 40 j = κ 40 j := fun j => by rw [m 40 (by decide) (by decide) (by decide)]
  have k : ∀ t : Nat, t < 22 ∨ 30 ≤ t → st2 (flN κ (23 + 2 * r) 0 24) (22 + 2 * r) 1 x t = κ t := fun t ht => (st2_t (by omega)).trans (flN_o (by omega) _)
  refine ⟨rfl, h.2.2.fr (m4 _) (m4 _) (m4 _) (m4 _), fun t h1 h2 => k t (by omega), CI_rows h.1 h.2.1 k m (fun z hz => ?_)⟩
  have q := h.2.1.2.2.2.2.2.1 z hz
  have q3 := (h.1.2.2.2.1 z hz).1
  have e7 : zrow (st2 κ 70 r x) r x.toNat 70 = st2 κ 70 r x 70 := zro (by decide) _
  show _ = zrow (st2 κ 70 r x) r x.toNat 70 z ∧ ∀ j : Nat, (j : Int) < zrow (st2 κ 70 r x) r x.toNat 70 z → _ = zrow (st2 κ 70 r x) r x.toNat 71 (24 * z + j)
  rw [e7]
  by_cases e : z = r
  · subst e
    rw [rd_eq rfl rfl, rd_eq rfl rfl]
    refine ⟨rfl, fun j hj => ?_⟩
    rw [rd_ne (by omega), flN_i 24 (by omega), zri _ (by omega)]
  · rw [rd_ne (by omega), rd_ne (t' := 70) (by omega), flN_o (by omega)]
    refine ⟨q.1, fun j hj => ?_⟩
    rw [rd_ne (by omega), flN_o (by omega), zrx _ (fun i hi => by omega), rd_ne (by omega)]
    exact q.2 j hj
theorem CI_read {κ μ : Ks} {s : Nat} {a d lo up n : Int} (hI : MI μ) (h : CI κ μ) (hs : (s : Int) < μ 40 11) (hn : n = μ 40 37 + 1) (hlo : lo = max (κ (100 + s) 8) (a - d)) (hup : up = min (κ (100 + s) 9) (a + d)) : CI (st2 (st2 (st2 κ (100 + s) 8 lo) (100 + s) 9 up) 1 14 n) (st2 (st2 (st2 (st2 μ 79 ((μ 40 37).toNat) s) 80 ((μ 40 37).toNat) a) 81 ((μ 40 37).toNat) d) 40 37 n) := by
  obtain ⟨hA, hB, hC, hD, hE, hF, hG, hS, hL, hH, hN, hT, hW, hK, hZ⟩ := h
  have i5 := hI.1.2.2.2.2.2.1
  have i6 := hI.1.2.2.2.2.2.2.1
  have i8 := hI.1.2.2.2.2.2.2.2.2.1
  refine ⟨?_, gB.fr hB ((st2_t (by omega)).trans ((st2_t (by omega)).trans ((st2_t (by omega)).trans (rfl)))) (rd_o (by omega) (rd_o (by omega) (rd_o (by omega) (rd_o (by omega) (rfl))))) (rd_o (by omega) (rd_o (by omega) (rd_o (by omega) (rd_o (by omega) (rfl))))) (rd_o (by omega) (rd_o (by omega) (rd_o (by omega) (rd_o (by omega) (rfl))))), gC.fr hC ((st2_t (by omega)).trans ((st2_t (by omega)).trans ((st2_t (by omega)).trans (rfl)))) ((st2_t (by omega)).trans ((st2_t (by omega)).trans ((st2_t (by omega)).trans ((st2_t (by omega)).trans (rfl))))), gD.fr hD ((st2_t (by omega)).trans ((st2_t (by omega)).trans ((st2_t (by omega)).trans (rfl)))) ((st2_t (by omega)).trans ((st2_t (by omega)).trans ((st2_t (by omega)).trans ((st2_t (by omega)).trans (rfl))))), gE.fr hE ((st2_t (by omega)).trans ((st2_t (by omega)).trans ((st2_t (by omega)).trans (rfl)))) (rd_o (by omega) (rd_o (by omega) (rd_o (by omega) (rd_o (by omega) (rfl))))) (rd_o (by omega) (rd_o (by omega) (rd_o (by omega) (rd_o (by omega) (rfl))))) (rd_o (by omega) (rd_o (by omega) (rd_o (by omega) (rd_o (by omega) (rfl))))) (rd_o (by omega) (rd_o (by omega) (rd_o (by omega) (rd_o (by omega) (rfl))))) (rd_o (by omega) (rd_o (by omega) (rd_o (by omega) (rd_o (by omega) (rfl))))) (rd_o (by omega) (rd_o (by omega) (rd_o (by omega) (rd_o (by omega) (rfl))))), gF.fr hF (fun t h1 h2 => (st2_t (by omega)).trans ((st2_t (by omega)).trans ((st2_t (by omega)).trans (rfl)))) ((st2_t (by omega)).trans ((st2_t (by omega)).trans ((st2_t (by omega)).trans ((st2_t (by omega)).trans (rfl))))) ((st2_t (by omega)).trans ((st2_t (by omega)).trans ((st2_t (by omega)).trans ((st2_t (by omega)).trans (rfl))))), gG.fr hG ((st2_t (by omega)).trans ((st2_t (by omega)).trans ((st2_t (by omega)).trans (rfl)))) ((st2_t (by omega)).trans ((st2_t (by omega)).trans ((st2_t (by omega)).trans (rfl)))) ((st2_t (by omega)).trans ((st2_t (by omega)).trans ((st2_t (by omega)).trans (rfl)))) ((st2_t (by omega)).trans ((st2_t (by omega)).trans ((st2_t (by omega)).trans (rfl)))) (fun t h1 => (st2_t (by omega)).trans ((st2_t (by omega)).trans ((st2_t (by omega)).trans (rfl)))) (rd_o (by omega) (rd_o (by omega) (rd_o (by omega) (rd_o (by omega) (rfl))))) (rd_o (by omega) (rd_o (by omega) (rd_o (by omega) (rd_o (by omega) (rfl))))) (rd_o (by omega) (rd_o (by omega) (rd_o (by omega) (rd_o (by omega) (rfl))))) (rd_o (by omega) (rd_o (by omega) (rd_o (by omega) (rd_o (by omega) (rfl))))), gS.fr hS (fun z j hz hj => rd_o (by omega) (rd_o (by omega) (rd_o (by omega) (rfl)))) (rd_o (by omega) (rd_o (by omega) (rd_o (by omega) (rd_o (by omega) (rfl))))) (fun t h1 h2 => (st2_t (by omega)).trans ((st2_t (by omega)).trans ((st2_t (by omega)).trans ((st2_t (by omega)).trans (rfl))))), ?_, gH.fr hH (fun z j hz hj => rd_o (by omega) (rd_o (by omega) (rd_o (by omega) (rfl)))) (rd_o (by omega) (rd_o (by omega) (rd_o (by omega) (rd_o (by omega) (rfl))))) (fun t h1 h2 => (st2_t (by omega)).trans ((st2_t (by omega)).trans ((st2_t (by omega)).trans ((st2_t (by omega)).trans (rfl))))), gN.fr hN hI.1.2.2.2.2.2.2.1.1 (fun z hz => rd_o (by omega) (rd_o (by omega) (rd_o (by omega) (rfl)))) (fun z hz => rd_o (by omega) (rd_o (by omega) (rd_o (by omega) (rfl)))) (rd_o (by omega) (rd_o (by omega) (rd_o (by omega) (rd_o (by omega) (rfl))))) (rd_o (by omega) (rd_o (by omega) (rd_o (by omega) (rd_o (by omega) (rfl))))) ((st2_t (by omega)).trans ((st2_t (by omega)).trans ((st2_t (by omega)).trans ((st2_t (by omega)).trans (rfl))))) ((st2_t (by omega)).trans ((st2_t (by omega)).trans ((st2_t (by omega)).trans ((st2_t (by omega)).trans (rfl))))), gT.fr hT (fun t ht => (st2_t (by omega)).trans ((st2_t (by omega)).trans ((st2_t (by omega)).trans (rfl)))) (rd_o (by omega) (rd_o (by omega) (rd_o (by omega) (rd_o (by omega) (rfl))))) ((st2_t (by omega)).trans ((st2_t (by omega)).trans ((st2_t (by omega)).trans ((st2_t (by omega)).trans (rfl))))) ((st2_t (by omega)).trans ((st2_t (by omega)).trans ((st2_t (by omega)).trans ((st2_t (by omega)).trans (rfl))))) ((st2_t (by omega)).trans ((st2_t (by omega)).trans ((st2_t (by omega)).trans ((st2_t (by omega)).trans (rfl))))) ((st2_t (by omega)).trans ((st2_t (by omega)).trans ((st2_t (by omega)).trans ((st2_t (by omega)).trans (rfl))))), gW.fr hW (fun t ht => (st2_t (by omega)).trans ((st2_t (by omega)).trans ((st2_t (by omega)).trans (rfl)))) (rd_o (by omega) (rd_o (by omega) (rd_o (by omega) (rd_o (by omega) (rfl))))) ((st2_t (by omega)).trans ((st2_t (by omega)).trans ((st2_t (by omega)).trans ((st2_t (by omega)).trans (rfl))))) ((st2_t (by omega)).trans ((st2_t (by omega)).trans ((st2_t (by omega)).trans ((st2_t (by omega)).trans (rfl))))) ((st2_t (by omega)).trans ((st2_t (by omega)).trans ((st2_t (by omega)).trans ((st2_t (by omega)).trans (rfl))))) ((st2_t (by omega)).trans ((st2_t (by omega)).trans ((st2_t (by omega)).trans ((st2_t (by omega)).trans (rfl))))), gK.fr hK ((st2_t (by omega)).trans ((st2_t (by omega)).trans ((st2_t (by omega)).trans (rfl)))) ((st2_t (by omega)).trans ((st2_t (by omega)).trans ((st2_t (by omega)).trans (rfl)))) (rd_o (by omega) (rd_o (by omega) (rd_o (by omega) (rd_o (by omega) (rfl))))) (rd_o (by omega) (rd_o (by omega) (rd_o (by omega) (rd_o (by omega) (rfl))))) ((st2_t (by omega)).trans ((st2_t (by omega)).trans ((st2_t (by omega)).trans ((st2_t (by omega)).trans (rfl))))) ((st2_t (by omega)).trans ((st2_t (by omega)).trans ((st2_t (by omega)).trans ((st2_t (by omega)).trans (rfl))))) ((st2_t (by omega)).trans ((st2_t (by omega)).trans ((st2_t (by omega)).trans ((st2_t (by omega)).trans (rfl))))) ((st2_t (by omega)).trans ((st2_t (by omega)).trans ((st2_t (by omega)).trans ((st2_t (by omega)).trans (rfl))))), gZ.fr hZ ((st2_t (by omega)).trans ((st2_t (by omega)).trans ((st2_t (by omega)).trans (rfl)))) ((st2_t (by omega)).trans ((st2_t (by omega)).trans ((st2_t (by omega)).trans (rfl)))) ((st2_t (by omega)).trans ((st2_t (by omega)).trans ((st2_t (by omega)).trans (rfl)))) ((st2_t (by omega)).trans ((st2_t (by omega)).trans ((st2_t (by omega)).trans (rfl)))) ((st2_t (by omega)).trans ((st2_t (by omega)).trans ((st2_t (by omega)).trans (rfl)))) ((st2_t (by omega)).trans ((st2_t (by omega)).trans ((st2_t (by omega)).trans ((st2_t (by omega)).trans (rfl)))))⟩
  · unfold gA at hA ⊢
    simp (disch := omega) only [rd_eq, rd_ne, true_and, and_true, true_or, or_true, implies_true] <;> omega
  · intro z hz
    simp (disch := omega) only [rd_ne] at hz
    have q := hL z hz
    rw [show ((st2 (st2 (st2 (st2 μ 79 (μ 40 37).toNat s) 80 (μ 40 37).toNat a) 81 (μ 40 37).toNat d) 40 37 n) 40 37).toNat = (μ 40 37).toNat + 1 by rw [rd_eq rfl rfl]; omega]
    rw [lowM_s, highM_s, lowM_lt (μ := μ) _ (fun k hk => ⟨by simp (disch := omega) only [rd_eq, rd_ne, true_and, and_true, true_or, or_true, implies_true], by simp (disch := omega) only [rd_eq, rd_ne, true_and, and_true, true_or, or_true, implies_true], by simp (disch := omega) only [rd_eq, rd_ne, true_and, and_true, true_or, or_true, implies_true]⟩), highM_lt (μ := μ) _ (fun k hk => ⟨by simp (disch := omega) only [rd_eq, rd_ne, true_and, and_true, true_or, or_true, implies_true], by simp (disch := omega) only [rd_eq, rd_ne, true_and, and_true, true_or, or_true, implies_true], by simp (disch := omega) only [rd_eq, rd_ne, true_and, and_true, true_or, or_true, implies_true]⟩)]
    simp (disch := omega) only [rd_eq, rd_ne]
    by_cases e : z = s
    · subst e
      rw [if_pos rfl, if_pos rfl]
      simp (disch := omega) only [rd_eq, rd_ne, true_and, and_true, true_or, or_true, implies_true] <;> omega
    · rw [if_neg (by omega), if_neg (by omega)]
      simp (disch := omega) only [rd_eq, rd_ne, true_and, and_true, true_or, or_true, implies_true]
      exact q
theorem PC_read {κ κ1 : Ks} {V : Vs} {s : Nat} {a d lo up n : Int} {x w : Int} (h : Inv κ V) (hs : (s : Int) < κ 40 11) (hn : n = κ 40 37 + 1) (hlo : lo = max (κ (100 + s) 8) (a - d)) (hup : up = min (κ (100 + s) 9) (a + d)) (hx : x = w) (hk : κ1 = (st2 (st2 (st2 κ (100 + s) 8 lo) (100 + s) 9 up) 1 14 n)) : PC κ (w, (st2 (st2 (st2 (st2 κ 79 ((κ 40 37).toNat) s) 80 ((κ 40 37).toNat) a) 81 ((κ 40 37).toNat) d) 40 37 n)) (some (Iv x)) V κ1 := by
  subst hx
  subst hk
  show _ ∧ LVP V (st2 (st2 (st2 (st2 κ 79 ((κ 40 37).toNat) s) 80 ((κ 40 37).toNat) a) 81 ((κ 40 37).toNat) d) 40 37 n) ∧ eqM κ (st2 (st2 (st2 κ (100 + s) 8 lo) (100 + s) 9 up) 1 14 n) ∧ CI (st2 (st2 (st2 κ (100 + s) 8 lo) (100 + s) 9 up) 1 14 n) (st2 (st2 (st2 (st2 κ 79 ((κ 40 37).toNat) s) 80 ((κ 40 37).toNat) a) 81 ((κ 40 37).toNat) d) 40 37 n)
  exact ⟨rfl, h.2.2.fr (rd_o (by omega) (rd_o (by omega) (rd_o (by omega) (rd_o (by omega) (rfl))))) (rd_o (by omega) (rd_o (by omega) (rd_o (by omega) (rd_o (by omega) (rfl))))) (rd_o (by omega) (rd_o (by omega) (rd_o (by omega) (rd_o (by omega) (rfl))))) (rd_o (by omega) (rd_o (by omega) (rd_o (by omega) (rd_o (by omega) (rfl))))), (((eqM.rf κ).st (by omega)).st (by omega)).st (by omega), CI_read h.1 h.2.1 hs hn hlo hup⟩
set_option maxHeartbeats 4000000 in
set_option maxRecDepth 20000 in
theorem c_X9_row {B : Bs} {n0 : Nat} {V : Vs} {κ : Ks} {r n : Int} (r_r : inR r) (r_n : inR n)  (hInv : Inv κ V) : Ct (XR B n0) mX9_row 3 0 0 [Rf 1, Iv r, Iv n] V κ (PC κ (M_row κ r n)) := by
  obtain ⟨hI, hC, hV⟩ := id hInv
  obtain ⟨cA, cB, cC, cD, cE, cF, cG, cS, cL, cH, cN, cT, cW, cK, cZ⟩ := id hC
  obtain ⟨⟨i0, i1, i2, i3, i4, i5, i6, i7, i8, i9⟩, iS, iH, iR, iT, iC, iG, iL, iZ⟩ := id hI
  obtain ⟨⟨cV0, cV1, cV2, cV4⟩, _⟩ := id hV
  obtain ⟨cA0, cA1, cA2⟩ := id cA
  obtain ⟨cB0, cB1, cB2⟩ := id cB
  obtain ⟨⟨⟨⟨z0, z1, z2⟩, z3, z4, z5⟩, z6, z7⟩, z8⟩ := id cZ
  have en0 : κ 2 2 = κ 40 11 := cG.1.2.2.1
  have en1 : κ 3 2 = κ 40 20 := cG.2.1.2.2.1
  have en2 : κ 4 2 = κ 40 31 := cG.2.2.1.2.2.1
  have en3 : κ 5 2 = κ 40 41 := cG.2.2.2.2.2.1
  refine Ct.of (L := [some (Rf 1), some (Iv r), some (Iv n), none]) 1 (by decide +kernel) rfl rfl ?_
  refine g_aload_n 1 dX9_row_0 rfl rfl ?_
  refine g_iload_n 2 dX9_row_1 rfl rfl ?_
  refine o_V 5 0 0 [Iv r] [] dX9_row_2 cvX9_118 mwX9_rowAt kd_1 (by decide) rfl (Nat.le_of_ble_eq_true rfl) rfl rfl rfl (c_X9_rowAt (by omega)) (fun h2 => ?_) (fun h2 => ?_)
  · have q1F := cF (r).toNat (by omega)
    have q1R := iR (r).toNat (by omega)
    have q1G := q1F.1
    have q1H := q1R.1
    refine g_astore_n (L' := [some (Rf 1), some (Iv r), some (Iv n), some (Rf (22 + 2 * (r).toNat))]) 6 dX9_row_5 rfl (by decide) rfl ?_
    refine g_aload_n 7 dX9_row_6 rfl rfl ?_
    refine r_ifnonnull_s 16 dX9_row_7 (by decide) ?_
    refine g_iload_n 17 dX9_row_16 rfl rfl ?_
    refine g_if_ge 27 20 dX9_row_17 (by first | assumption | omega) (by decide) rfl (fun h3 => ?_) (fun h3 => ?_)
    · refine g_iload_n 28 dX9_row_27 rfl rfl ?_
      refine g_bipush 30 dX9_row_28 (by decide) rfl ?_
      refine g_icmp_le 40 33 dX9_row_30 (by first | assumption | omega) (by decide) (by decide) rfl (fun h4 => ?_) (fun h4 => ?_)
      · refine g_aload_n 41 dX9_row_40 rfl rfl ?_
        refine g_iload_n 42 dX9_row_41 rfl rfl ?_
        refine v_V 45 0 0 [Iv n] [] dX9_row_42 cvX9_122 mwX4_makeAnew (kd_R (by omega)) (by decide) rfl (Nat.le_of_ble_eq_true rfl) rfl rfl rfl (c_X4_makeAnew (by omega) (by omega)) ?_
        refine g_iload_n 46 dX9_row_45 rfl rfl ?_
        refine g_iret dX9_row_46 rfl ?_
        unfold M_row
        (repeat' split) <;> first | (exfalso; omega) | exact PC_ref hInv (by decide) (by omega) rfl | exact PC_same hInv (by omega) | exact PC_row hInv (by omega) (by omega) (by omega)
      refine g_aload_n 34 dX9_row_33 rfl rfl ?_
      refine g_bipush 36 dX9_row_34 (by decide) rfl ?_
      refine e_V 39 0 0 [Iv (-6)] [] dX9_row_36 cvX9_74 mwX9_refuse kd_1 (by decide) rfl (Nat.le_of_ble_eq_true rfl) rfl rfl rfl (c_X9_refuse 6 (by decide) (by decide)) ?_
      refine g_iret dX9_row_39 rfl ?_
      unfold M_row
      (repeat' split) <;> first | (exfalso; omega) | exact PC_ref hInv (by decide) (by omega) rfl | exact PC_same hInv (by omega) | exact PC_row hInv (by omega) (by omega) (by omega)
    refine g_aload_n 21 dX9_row_20 rfl rfl ?_
    refine g_bipush 23 dX9_row_21 (by decide) rfl ?_
    refine e_V 26 0 0 [Iv (-4)] [] dX9_row_23 cvX9_74 mwX9_refuse kd_1 (by decide) rfl (Nat.le_of_ble_eq_true rfl) rfl rfl rfl (c_X9_refuse 4 (by decide) (by decide)) ?_
    refine g_iret dX9_row_26 rfl ?_
    unfold M_row
    (repeat' split) <;> first | (exfalso; omega) | exact PC_ref hInv (by decide) (by omega) rfl | exact PC_same hInv (by omega) | exact PC_row hInv (by omega) (by omega) (by omega)
  refine g_astore_n (L' := [some (Rf 1), some (Iv r), some (Iv n), some (Nl)]) 6 dX9_row_5 rfl (by decide) rfl ?_
  refine g_aload_n 7 dX9_row_6 rfl rfl ?_
  refine r_ifnonnull_n 10 16 dX9_row_7 (by decide) rfl ?_
  refine g_aload_n 11 dX9_row_10 rfl rfl ?_
  refine g_iconst 12 dX9_row_11 (by decide) rfl ?_
  refine e_V 15 0 0 [Iv (-1)] [] dX9_row_12 cvX9_74 mwX9_refuse kd_1 (by decide) rfl (Nat.le_of_ble_eq_true rfl) rfl rfl rfl (c_X9_refuse 1 (by decide) (by decide)) ?_
  refine g_iret dX9_row_15 rfl ?_
  unfold M_row
  (repeat' split) <;> first | (exfalso; omega) | exact PC_ref hInv (by decide) (by omega) rfl | exact PC_same hInv (by omega) | exact PC_row hInv (by omega) (by omega) (by omega)
set_option maxHeartbeats 4000000 in
set_option maxRecDepth 20000 in
theorem c_X9_reading {B : Bs} {n0 : Nat} {V : Vs} {κ : Ks} {s i t d : Int} (r_s : inR s) (r_i : inR i) (r_t : inR t) (r_d : inR d)  (hInv : Inv κ V) : Ct (XR B n0) mX9_reading 5 0 0 [Rf 1, Iv s, Iv i, Iv t, Iv d] V κ (PC κ (M_reading κ s i t d)) := by
  obtain ⟨hI, hC, hV⟩ := id hInv
  obtain ⟨cA, cB, cC, cD, cE, cF, cG, cS, cL, cH, cN, cT, cW, cK, cZ⟩ := id hC
  obtain ⟨⟨i0, i1, i2, i3, i4, i5, i6, i7, i8, i9⟩, iS, iH, iR, iT, iC, iG, iL, iZ⟩ := id hI
  obtain ⟨⟨cV0, cV1, cV2, cV4⟩, _⟩ := id hV
  obtain ⟨cA0, cA1, cA2⟩ := id cA
  obtain ⟨cB0, cB1, cB2⟩ := id cB
  obtain ⟨⟨⟨⟨z0, z1, z2⟩, z3, z4, z5⟩, z6, z7⟩, z8⟩ := id cZ
  have en0 : κ 2 2 = κ 40 11 := cG.1.2.2.1
  have en1 : κ 3 2 = κ 40 20 := cG.2.1.2.2.1
  have en2 : κ 4 2 = κ 40 31 := cG.2.2.1.2.2.1
  have en3 : κ 5 2 = κ 40 41 := cG.2.2.2.2.2.1
  refine Ct.of (L := [some (Rf 1), some (Iv s), some (Iv i), some (Iv t), some (Iv d), none]) 1 (by decide +kernel) rfl rfl ?_
  refine g_aload_n 1 dX9_reading_0 rfl rfl ?_
  refine g_iload_n 2 dX9_reading_1 rfl rfl ?_
  refine o_V 5 0 0 [Iv s] [] dX9_reading_2 cvX9_105 mwX9_streetAt kd_1 (by decide) rfl (Nat.le_of_ble_eq_true rfl) rfl rfl rfl (c_X9_streetAt cG.1 (by omega) (by omega)) (fun h1 => ?_) (fun h1 => ?_)
  · have qS := cS (s).toNat (by omega)
    have qI := iS (s).toNat (by omega)
    refine g_astore (L' := [some (Rf 1), some (Iv s), some (Iv i), some (Iv t), some (Iv d), some (Rf (100 + (s).toNat))]) 7 dX9_reading_5 rfl (by decide) rfl ?_
    refine g_aload 9 dX9_reading_7 rfl rfl ?_
    refine r_ifnonnull_s 18 dX9_reading_9 (by decide) ?_
    refine g_iload_n 19 dX9_reading_18 rfl rfl ?_
    refine g_if_lt 31 22 dX9_reading_19 (by first | assumption | omega) (by decide) rfl (fun h2 => ?_) (fun h2 => ?_)
    · refine g_aload_n 32 dX9_reading_31 rfl rfl ?_
      refine g_bipush 34 dX9_reading_32 (by decide) rfl ?_
      refine e_V 37 0 0 [Iv (-4)] [] dX9_reading_34 cvX9_74 mwX9_refuse kd_1 (by decide) rfl (Nat.le_of_ble_eq_true rfl) rfl rfl rfl (c_X9_refuse 4 (by decide) (by decide)) ?_
      refine g_iret dX9_reading_37 rfl ?_
      unfold M_reading
      (repeat' split) <;> first | (exfalso; omega) | exact PC_ref hInv (by decide) (by omega) rfl | exact PC_same hInv (by omega) | (rw [show (s : Int) = ((s.toNat : Nat) : Int) by omega]; exact PC_read hInv (by omega) rfl rfl rfl (by omega) (by first | rfl | (congr 1 <;> first | rfl | omega)))
    refine g_iload_n 23 dX9_reading_22 rfl rfl ?_
    refine g_if_lt 31 26 dX9_reading_23 (by first | assumption | omega) (by decide) rfl (fun h3 => ?_) (fun h3 => ?_)
    · refine g_aload_n 32 dX9_reading_31 rfl rfl ?_
      refine g_bipush 34 dX9_reading_32 (by decide) rfl ?_
      refine e_V 37 0 0 [Iv (-4)] [] dX9_reading_34 cvX9_74 mwX9_refuse kd_1 (by decide) rfl (Nat.le_of_ble_eq_true rfl) rfl rfl rfl (c_X9_refuse 4 (by decide) (by decide)) ?_
      refine g_iret dX9_reading_37 rfl ?_
      unfold M_reading
      (repeat' split) <;> first | (exfalso; omega) | exact PC_ref hInv (by decide) (by omega) rfl | exact PC_same hInv (by omega) | (rw [show (s : Int) = ((s.toNat : Nat) : Int) by omega]; exact PC_read hInv (by omega) rfl rfl rfl (by omega) (by first | rfl | (congr 1 <;> first | rfl | omega)))
    refine g_iload 28 dX9_reading_26 rfl rfl ?_
    refine g_if_ge 38 31 dX9_reading_28 (by first | assumption | omega) (by decide) rfl (fun h4 => ?_) (fun h4 => ?_)
    · refine g_iload_n 39 dX9_reading_38 rfl rfl ?_
      refine g_sipush 42 dX9_reading_39 (by decide) rfl ?_
      refine g_icmp_gt 59 45 dX9_reading_42 (by first | assumption | omega) (by decide) (by decide) rfl (fun h5 => ?_) (fun h5 => ?_)
      · refine g_aload_n 60 dX9_reading_59 rfl rfl ?_
        refine g_bipush 62 dX9_reading_60 (by decide) rfl ?_
        refine e_V 65 0 0 [Iv (-6)] [] dX9_reading_62 cvX9_74 mwX9_refuse kd_1 (by decide) rfl (Nat.le_of_ble_eq_true rfl) rfl rfl rfl (c_X9_refuse 6 (by decide) (by decide)) ?_
        refine g_iret dX9_reading_65 rfl ?_
        unfold M_reading
        (repeat' split) <;> first | (exfalso; omega) | exact PC_ref hInv (by decide) (by omega) rfl | exact PC_same hInv (by omega) | (rw [show (s : Int) = ((s.toNat : Nat) : Int) by omega]; exact PC_read hInv (by omega) rfl rfl rfl (by omega) (by first | rfl | (congr 1 <;> first | rfl | omega)))
      refine g_iload_n 46 dX9_reading_45 rfl rfl ?_
      refine g_sipush 49 dX9_reading_46 (by decide) rfl ?_
      refine g_icmp_gt 59 52 dX9_reading_49 (by first | assumption | omega) (by decide) (by decide) rfl (fun h6 => ?_) (fun h6 => ?_)
      · refine g_aload_n 60 dX9_reading_59 rfl rfl ?_
        refine g_bipush 62 dX9_reading_60 (by decide) rfl ?_
        refine e_V 65 0 0 [Iv (-6)] [] dX9_reading_62 cvX9_74 mwX9_refuse kd_1 (by decide) rfl (Nat.le_of_ble_eq_true rfl) rfl rfl rfl (c_X9_refuse 6 (by decide) (by decide)) ?_
        refine g_iret dX9_reading_65 rfl ?_
        unfold M_reading
        (repeat' split) <;> first | (exfalso; omega) | exact PC_ref hInv (by decide) (by omega) rfl | exact PC_same hInv (by omega) | (rw [show (s : Int) = ((s.toNat : Nat) : Int) by omega]; exact PC_read hInv (by omega) rfl rfl rfl (by omega) (by first | rfl | (congr 1 <;> first | rfl | omega)))
      refine g_iload 54 dX9_reading_52 rfl rfl ?_
      refine g_bipush 56 dX9_reading_54 (by decide) rfl ?_
      refine g_icmp_le 66 59 dX9_reading_56 (by first | assumption | omega) (by decide) (by decide) rfl (fun h7 => ?_) (fun h7 => ?_)
      · refine g_aload_n 67 dX9_reading_66 rfl rfl ?_
        refine r_getI 70 (κ 1 14) dX9_reading_67 fgX9_231 kd_1 ly_1_14 rfl (rfl) (fun r8 => ?_)
        refine g_bipush 72 dX9_reading_70 (by decide) rfl ?_
        refine g_icmp_lt 82 75 dX9_reading_72 (by first | assumption | omega) (by decide) (by decide) rfl (fun h9 => ?_) (fun h9 => ?_)
        · refine g_aload 84 dX9_reading_82 rfl rfl ?_
          refine g_iload_n 85 dX9_reading_84 rfl rfl ?_
          refine g_iload_n 86 dX9_reading_85 rfl rfl ?_
          refine g_isub 87 dX9_reading_86 rfl ?_
          refine g_iload 89 dX9_reading_87 rfl rfl ?_
          refine g_isub 90 dX9_reading_89 rfl ?_
          refine g_iload_n 91 dX9_reading_90 rfl rfl ?_
          refine g_iload_n 92 dX9_reading_91 rfl rfl ?_
          refine g_isub 93 dX9_reading_92 rfl ?_
          refine g_iload 95 dX9_reading_93 rfl rfl ?_
          refine g_iadd 96 dX9_reading_95 rfl ?_
          refine v_V 99 0 0 [Iv ((i - t) - d), Iv ((i - t) + d)] [] dX9_reading_96 cvX9_234 mwX5_hemIn (kd_S (by omega)) (by decide) rfl (Nat.le_of_ble_eq_true rfl) rfl rfl rfl (c_X5_hemIn (by omega) (by omega) (by omega)) ?_
          refine g_aload_n 100 dX9_reading_99 rfl rfl ?_
          refine g_dup 101 dX9_reading_100 rfl ?_
          refine r_getI 104 (κ 1 14) dX9_reading_101 fgX9_231 kd_1 ly_1_14 rfl (rd_t (by omega) (rd_t (by omega) (rfl))) (fun r10 => ?_)
          refine g_iconst 105 dX9_reading_104 (by decide) rfl ?_
          refine g_iadd 106 dX9_reading_105 rfl ?_
          refine g_putI 109 dX9_reading_106 fpX9_231 (fun h => (nomatch h)) kd_1 ly_1_14 (by omega) rfl ?_
          refine g_aload_n 110 dX9_reading_109 rfl rfl ?_
          refine r_getI 113 (((κ 1 14) + 1)) dX9_reading_110 fgX9_231 kd_1 ly_1_14 rfl (rd_s rfl rfl rfl) (fun r11 => ?_)
          refine g_iret dX9_reading_113 rfl ?_
          unfold M_reading
          (repeat' split) <;> first | (exfalso; omega) | exact PC_ref hInv (by decide) (by omega) rfl | exact PC_same hInv (by omega) | (rw [show (s : Int) = ((s.toNat : Nat) : Int) by omega]; exact PC_read hInv (by omega) rfl rfl rfl (by omega) (by first | rfl | (congr 1 <;> first | rfl | omega)))
        refine g_aload_n 76 dX9_reading_75 rfl rfl ?_
        refine g_bipush 78 dX9_reading_76 (by decide) rfl ?_
        refine e_V 81 0 0 [Iv (-6)] [] dX9_reading_78 cvX9_74 mwX9_refuse kd_1 (by decide) rfl (Nat.le_of_ble_eq_true rfl) rfl rfl rfl (c_X9_refuse 6 (by decide) (by decide)) ?_
        refine g_iret dX9_reading_81 rfl ?_
        unfold M_reading
        (repeat' split) <;> first | (exfalso; omega) | exact PC_ref hInv (by decide) (by omega) rfl | exact PC_same hInv (by omega) | (rw [show (s : Int) = ((s.toNat : Nat) : Int) by omega]; exact PC_read hInv (by omega) rfl rfl rfl (by omega) (by first | rfl | (congr 1 <;> first | rfl | omega)))
      refine g_aload_n 60 dX9_reading_59 rfl rfl ?_
      refine g_bipush 62 dX9_reading_60 (by decide) rfl ?_
      refine e_V 65 0 0 [Iv (-6)] [] dX9_reading_62 cvX9_74 mwX9_refuse kd_1 (by decide) rfl (Nat.le_of_ble_eq_true rfl) rfl rfl rfl (c_X9_refuse 6 (by decide) (by decide)) ?_
      refine g_iret dX9_reading_65 rfl ?_
      unfold M_reading
      (repeat' split) <;> first | (exfalso; omega) | exact PC_ref hInv (by decide) (by omega) rfl | exact PC_same hInv (by omega) | (rw [show (s : Int) = ((s.toNat : Nat) : Int) by omega]; exact PC_read hInv (by omega) rfl rfl rfl (by omega) (by first | rfl | (congr 1 <;> first | rfl | omega)))
    refine g_aload_n 32 dX9_reading_31 rfl rfl ?_
    refine g_bipush 34 dX9_reading_32 (by decide) rfl ?_
    refine e_V 37 0 0 [Iv (-4)] [] dX9_reading_34 cvX9_74 mwX9_refuse kd_1 (by decide) rfl (Nat.le_of_ble_eq_true rfl) rfl rfl rfl (c_X9_refuse 4 (by decide) (by decide)) ?_
    refine g_iret dX9_reading_37 rfl ?_
    unfold M_reading
    (repeat' split) <;> first | (exfalso; omega) | exact PC_ref hInv (by decide) (by omega) rfl | exact PC_same hInv (by omega) | (rw [show (s : Int) = ((s.toNat : Nat) : Int) by omega]; exact PC_read hInv (by omega) rfl rfl rfl (by omega) (by first | rfl | (congr 1 <;> first | rfl | omega)))
  refine g_astore (L' := [some (Rf 1), some (Iv s), some (Iv i), some (Iv t), some (Iv d), some (Nl)]) 7 dX9_reading_5 rfl (by decide) rfl ?_
  refine g_aload 9 dX9_reading_7 rfl rfl ?_
  refine r_ifnonnull_n 12 18 dX9_reading_9 (by decide) rfl ?_
  refine g_aload_n 13 dX9_reading_12 rfl rfl ?_
  refine g_iconst 14 dX9_reading_13 (by decide) rfl ?_
  refine e_V 17 0 0 [Iv (-1)] [] dX9_reading_14 cvX9_74 mwX9_refuse kd_1 (by decide) rfl (Nat.le_of_ble_eq_true rfl) rfl rfl rfl (c_X9_refuse 1 (by decide) (by decide)) ?_
  refine g_iret dX9_reading_17 rfl ?_
  unfold M_reading
  (repeat' split) <;> first | (exfalso; omega) | exact PC_ref hInv (by decide) (by omega) rfl | exact PC_same hInv (by omega) | (rw [show (s : Int) = ((s.toNat : Nat) : Int) by omega]; exact PC_read hInv (by omega) rfl rfl rfl (by omega) (by first | rfl | (congr 1 <;> first | rfl | omega)))
