/-! the store where the law's loop begins (printed by wip/whole/gen67.py) -/
abbrev VL : Vs := fun t => decide (30 ≤ t ∧ t ≤ 34)
def κS (κ : Ks) : Ks := k_i_40 (rowset (k_i_1 (rowset κ 1 (fun _ => 0))) 40 (fun _ => 0))
def VS : Vs := (vset (vset (vset (vset (vset (vset (vset (vset (vset (vset (vset (vset (vset (vset (vset (vset (vset (vset (vset (vset (vset (vset (vset (vset (vset (vset (vset (vset (vset (vset (vset (vset (vset (vset (vset (vset (vset (vset (vset (vset (vset (vset (vset (vset (vset (vset (vset (vset (vset (vset (vset (vset (vset (vset (vset (vset (vset (vset (vset (vset (vset (vset (vset (vset (vset (vset (vset (vset VL 1) 2) 3) 4) 5) 6) 7) 8) 9) 10) 11) 12) 13) 14) 15) 16) 17) 18) 19) 20) 21) 22) 23) 24) 25) 26) 27) 28) 29) 40) 53) 54) 55) 56) 57) 58) 59) 60) 62) 63) 64) 65) 66) 67) 68) 69) 70) 71) 73) 74) 75) 76) 77) 79) 80) 81) 83) 84) 85) 86) 87) 88) 90) 93) 94) 96) 97) 98)
theorem VS_hi {t : Nat} (h : 100 ≤ t) : VS t = false := (vset_n (by omega)).trans ((vset_n (by omega)).trans ((vset_n (by omega)).trans ((vset_n (by omega)).trans ((vset_n (by omega)).trans ((vset_n (by omega)).trans ((vset_n (by omega)).trans ((vset_n (by omega)).trans ((vset_n (by omega)).trans ((vset_n (by omega)).trans ((vset_n (by omega)).trans ((vset_n (by omega)).trans ((vset_n (by omega)).trans ((vset_n (by omega)).trans ((vset_n (by omega)).trans ((vset_n (by omega)).trans ((vset_n (by omega)).trans ((vset_n (by omega)).trans ((vset_n (by omega)).trans ((vset_n (by omega)).trans ((vset_n (by omega)).trans ((vset_n (by omega)).trans ((vset_n (by omega)).trans ((vset_n (by omega)).trans ((vset_n (by omega)).trans ((vset_n (by omega)).trans ((vset_n (by omega)).trans ((vset_n (by omega)).trans ((vset_n (by omega)).trans ((vset_n (by omega)).trans ((vset_n (by omega)).trans ((vset_n (by omega)).trans ((vset_n (by omega)).trans ((vset_n (by omega)).trans ((vset_n (by omega)).trans ((vset_n (by omega)).trans ((vset_n (by omega)).trans ((vset_n (by omega)).trans ((vset_n (by omega)).trans ((vset_n (by omega)).trans ((vset_n (by omega)).trans ((vset_n (by omega)).trans ((vset_n (by omega)).trans ((vset_n (by omega)).trans ((vset_n (by omega)).trans ((vset_n (by omega)).trans ((vset_n (by omega)).trans ((vset_n (by omega)).trans ((vset_n (by omega)).trans ((vset_n (by omega)).trans ((vset_n (by omega)).trans ((vset_n (by omega)).trans ((vset_n (by omega)).trans ((vset_n (by omega)).trans ((vset_n (by omega)).trans ((vset_n (by omega)).trans ((vset_n (by omega)).trans ((vset_n (by omega)).trans ((vset_n (by omega)).trans ((vset_n (by omega)).trans ((vset_n (by omega)).trans ((vset_n (by omega)).trans ((vset_n (by omega)).trans ((vset_n (by omega)).trans ((vset_n (by omega)).trans ((vset_n (by omega)).trans ((vset_n (by omega)).trans ((vset_n (by omega)).trans (decide_eq_false (by omega)))))))))))))))))))))))))))))))))))))))))))))))))))))))))))))))))))))
theorem VS_lo : ∀ t : Nat, t < 100 → VS t = true → t ≠ 0 := by decide
section S67
set_option maxRecDepth 20000
variable {κ : Ks}
theorem s40_0 : κS κ 40 0 = 0 := rfl
theorem s40_1 : κS κ 40 1 = 100 := rfl
theorem s40_2 : κS κ 40 2 = 1 := rfl
theorem s40_3 : κS κ 40 3 = 10 := rfl
theorem s40_4 : κS κ 40 4 = 0 := rfl
theorem s40_5 : κS κ 40 5 = 0 := rfl
theorem s40_6 : κS κ 40 6 = 0 := rfl
theorem s40_7 : κS κ 40 7 = 0 := rfl
theorem s40_8 : κS κ 40 8 = 0 := rfl
theorem s40_9 : κS κ 40 9 = 0 := rfl
theorem s40_10 : κS κ 40 10 = 0 := rfl
theorem s40_11 : κS κ 40 11 = 0 := rfl
theorem s40_20 : κS κ 40 20 = 0 := rfl
theorem s40_31 : κS κ 40 31 = 0 := rfl
theorem s40_37 : κS κ 40 37 = 0 := rfl
theorem s40_41 : κS κ 40 41 = 0 := rfl
theorem s70 {r : Nat} (h : r < 4) : κS κ 70 r = -1 := by
  rcases (show r = 0 ∨ r = 1 ∨ r = 2 ∨ r = 3 by omega) with rfl | rfl | rfl | rfl <;> rfl
theorem s77 {r : Nat} (h : r < 3) : κS κ 77 r = -1 := by
  rcases (show r = 0 ∨ r = 1 ∨ r = 2 by omega) with rfl | rfl | rfl <;> rfl
theorem S_MZ : MZ (κS κ) := fun s _ _ => rfl
theorem S_MI : MI (κS κ) := by
  refine ⟨?_, fun s hs => ?_, fun s hs => ?_, fun r hr => ?_, fun s hs => ?_, fun c hc => ?_, fun s hs => ?_, fun s hs => ?_, fun s _ _ => ⟨rfl, rfl, rfl, rfl⟩, fun h _ _ => ⟨rfl, rfl⟩⟩
  · unfold MIs
    rw [s40_0, s40_1, s40_2, s40_3, s40_4, s40_11, s40_20, s40_31, s40_37, s40_41]
    omega
  · exfalso; rw [s40_11] at hs; omega
  · exfalso; rw [s40_20] at hs; omega
  · rw [s70 hr]
    exact ⟨by omega, fun k hk => by omega⟩
  · exfalso; rw [s40_31] at hs; omega
  · rw [s77 hc, s40_11]; omega
  · exfalso; rw [s40_37] at hs; omega
  · exfalso; rw [s40_41] at hs; omega
theorem s_lst {k : Nat} (hk : k < 4) : Lst (κS κ) k 0 := by
  rcases (show k = 0 ∨ k = 1 ∨ k = 2 ∨ k = 3 by omega) with rfl | rfl | rfl | rfl <;> exact ⟨rfl, rfl, rfl, fun j _ h => absurd h (by decide)⟩
theorem s_row {r : Nat} (h : r < 4) : κS κ (22 + 2 * r) 1 = -1 := by
  rcases (show r = 0 ∨ r = 1 ∨ r = 2 ∨ r = 3 by omega) with rfl | rfl | rfl | rfl <;> rfl
theorem s_cock {r : Nat} (h : r < 3) : κS κ 7 r = -1 := by
  rcases (show r = 0 ∨ r = 1 ∨ r = 2 by omega) with rfl | rfl | rfl <;> rfl
theorem S_CI (h0 : κ 30 0 = 0 ∧ κ 30 1 = 0 ∧ κ 30 2 = 1) (h1 : κ 31 0 = 5000 ∧ κ 31 1 = 50 ∧ κ 31 2 = 99) : CI (κS κ) (κS κ) := by
  refine ⟨⟨rfl, rfl, rfl⟩, ⟨rfl, rfl, rfl⟩, fun c hc => by rw [s_cock hc, s77 hc], fun j _ _ => rfl, ⟨rfl, rfl, rfl, rfl, rfl, rfl⟩, fun r hr => ?_, ?_, fun s hs => ?_, fun s hs => ?_, fun s hs => ?_, fun s hs => ?_, fun s hs => ?_, fun s hs => ?_, fun x hx => ?_, ⟨⟨⟨h0, h1⟩, rfl, fun d _ => rfl⟩, rfl⟩⟩
  · rw [s70 hr]
    exact ⟨s_row hr, fun j hj => by omega⟩
  · unfold gG
    rw [s40_11, s40_20, s40_31, s40_41]
    exact ⟨s_lst (by decide), s_lst (by decide), s_lst (by decide), s_lst (by decide)⟩
  · exfalso; rw [s40_11] at hs; omega
  · exfalso; rw [s40_11] at hs; omega
  · exfalso; rw [s40_20] at hs; omega
  · exfalso; rw [s40_11] at hs; omega
  · exfalso; rw [s40_31] at hs; omega
  · exfalso; rw [s40_41] at hs; omega
  · have e11 : κS κ 11 x = 0 := rfl
    have e12 : κS κ 12 x = 0 := rfl
    rw [e11, e12, s40_11]
    refine ⟨⟨by omega, by omega, fun s hs => ?_⟩, by omega, by omega, fun s hs => ?_⟩
    · rw [bit_0, if_neg (let_no (fun t ht => by rw [s40_31] at ht; omega))]
    · rw [bit_0, if_neg (by omega)]
theorem S_LVP : LVP VS (κS κ) := by
  refine ⟨⟨by decide, by decide, by decide, by decide⟩, fun s _ _ => VS_hi (by omega), fun s _ _ => VS_hi (by omega), fun s _ _ => VS_hi (by omega), fun s _ _ => VS_hi (by omega), fun c _ _ => VS_hi (by omega), fun c _ _ => VS_hi (by omega), fun c _ _ => VS_hi (by omega), fun c _ _ => VS_hi (by omega)⟩
theorem S_LI (h0 : κ 30 0 = 0 ∧ κ 30 1 = 0 ∧ κ 30 2 = 1) (h1 : κ 31 0 = 5000 ∧ κ 31 1 = 50 ∧ κ 31 2 = 99) : LI (κS κ) VS := ⟨⟨S_MI, S_CI h0 h1, S_LVP⟩, S_MZ⟩
variable {B : Bs} {n0 : Nat}
theorem ly_eqb : ((List.range 100).all (fun t => [1, 6, 10, 14, 17, 22, 24, 26, 28, 40].contains t || (lyT.getD t [] == lyU.getD t []))) = true := by decide +kernel
theorem ly_eq (t : Nat) (ht : t < 100) (h_1 : t ≠ 1) (h_6 : t ≠ 6) (h_10 : t ≠ 10) (h_14 : t ≠ 14) (h_17 : t ≠ 17) (h_22 : t ≠ 22) (h_24 : t ≠ 24) (h_26 : t ≠ 26) (h_28 : t ≠ 28) (h_40 : t ≠ 40) : lyT.getD t [] = lyU.getD t [] := by
  have h := List.all_eq_true.mp ly_eqb t (List.mem_range.mpr ht)
  rw [Bool.or_eq_true] at h
  rcases h with h | h
  · exfalso
    have := List.contains_iff_mem.mp h
    simp at this
    omega
  · exact eq_of_beq h
theorem vr_eq {t j : Nat} (h : (t < 100 → lyT.getD t [] = lyU.getD t []) ∧ t ≠ 6) (r : Nat → Int) : vr (XI B n0) t r j = vr (XR B n0) t r j := by
  have e : lyI t j = lyR t j := by
    unfold lyI lyR lyC
    rw [if_neg h.2]
    by_cases c : t < 100
    · rw [if_pos c, if_pos c, h.1 c]
    · rw [if_neg c, if_neg c]
  show (match lyI t j with | 0 => _ | 1 => _ | c + 2 => _) = (match lyR t j with | 0 => _ | 1 => _ | c + 2 => _)
  rw [e]
theorem vq_1_0 : vr (XI B n0) 1 (κS κ 1) 0 = vr (XR B n0) 1 (κS κ 1) 0 := rfl
theorem vq_1_1 : vr (XI B n0) 1 (κS κ 1) 1 = vr (XR B n0) 1 (κS κ 1) 1 := rfl
theorem vq_1_2 : vr (XI B n0) 1 (κS κ 1) 2 = vr (XR B n0) 1 (κS κ 1) 2 := rfl
theorem vq_1_3 : vr (XI B n0) 1 (κS κ 1) 3 = vr (XR B n0) 1 (κS κ 1) 3 := rfl
theorem vq_1_4 : vr (XI B n0) 1 (κS κ 1) 4 = vr (XR B n0) 1 (κS κ 1) 4 := rfl
theorem vq_1_5 : vr (XI B n0) 1 (κS κ 1) 5 = vr (XR B n0) 1 (κS κ 1) 5 := rfl
theorem vq_1_6 : vr (XI B n0) 1 (κS κ 1) 6 = vr (XR B n0) 1 (κS κ 1) 6 := rfl
theorem vq_1_7 : vr (XI B n0) 1 (κS κ 1) 7 = vr (XR B n0) 1 (κS κ 1) 7 := rfl
theorem vq_1_8 : vr (XI B n0) 1 (κS κ 1) 8 = vr (XR B n0) 1 (κS κ 1) 8 := rfl
theorem vq_1_9 : vr (XI B n0) 1 (κS κ 1) 9 = vr (XR B n0) 1 (κS κ 1) 9 := rfl
theorem vq_1_10 : vr (XI B n0) 1 (κS κ 1) 10 = vr (XR B n0) 1 (κS κ 1) 10 := rfl
theorem vq_1_11 : vr (XI B n0) 1 (κS κ 1) 11 = vr (XR B n0) 1 (κS κ 1) 11 := rfl
theorem vq_1_12 : vr (XI B n0) 1 (κS κ 1) 12 = vr (XR B n0) 1 (κS κ 1) 12 := rfl
theorem vq_1_13 : vr (XI B n0) 1 (κS κ 1) 13 = vr (XR B n0) 1 (κS κ 1) 13 := rfl
theorem vq_1_14 : vr (XI B n0) 1 (κS κ 1) 14 = vr (XR B n0) 1 (κS κ 1) 14 := rfl
theorem vq_1 {j : Nat} (h : j < 15) : vr (XI B n0) 1 (κS κ 1) j = vr (XR B n0) 1 (κS κ 1) j := by
  rcases (show j = 0 ∨ j = 1 ∨ j = 2 ∨ j = 3 ∨ j = 4 ∨ j = 5 ∨ j = 6 ∨ j = 7 ∨ j = 8 ∨ j = 9 ∨ j = 10 ∨ j = 11 ∨ j = 12 ∨ j = 13 ∨ j = 14 by omega) with rfl | rfl | rfl | rfl | rfl | rfl | rfl | rfl | rfl | rfl | rfl | rfl | rfl | rfl | rfl
  · exact vq_1_0
  · exact vq_1_1
  · exact vq_1_2
  · exact vq_1_3
  · exact vq_1_4
  · exact vq_1_5
  · exact vq_1_6
  · exact vq_1_7
  · exact vq_1_8
  · exact vq_1_9
  · exact vq_1_10
  · exact vq_1_11
  · exact vq_1_12
  · exact vq_1_13
  · exact vq_1_14
theorem vo_1 {j : Nat} (h : 15 ≤ j) (r : Nat → Int) : vr (XI B n0) 1 r j = .inl (r j) ∧ vr (XR B n0) 1 r j = .inl (r j) := by
  obtain ⟨k, rfl⟩ : ∃ k, j = k + 15 := ⟨j - 15, by omega⟩
  exact ⟨rfl, rfl⟩
theorem vq_6_0 : vr (XI B n0) 6 (κS κ 6) 0 = vr (XR B n0) 6 (κS κ 6) 0 := rfl
theorem vq_6_1 : vr (XI B n0) 6 (κS κ 6) 1 = vr (XR B n0) 6 (κS κ 6) 1 := rfl
theorem vq_6_2 : vr (XI B n0) 6 (κS κ 6) 2 = vr (XR B n0) 6 (κS κ 6) 2 := rfl
theorem vq_6_3 : vr (XI B n0) 6 (κS κ 6) 3 = vr (XR B n0) 6 (κS κ 6) 3 := rfl
theorem vq_6 {j : Nat} (h : j < 4) : vr (XI B n0) 6 (κS κ 6) j = vr (XR B n0) 6 (κS κ 6) j := by
  rcases (show j = 0 ∨ j = 1 ∨ j = 2 ∨ j = 3 by omega) with rfl | rfl | rfl | rfl
  · exact vq_6_0
  · exact vq_6_1
  · exact vq_6_2
  · exact vq_6_3
theorem vo_6 {j : Nat} (h : 4 ≤ j) : vr (XI B n0) 6 (κS κ 6) j = .inr none ∧ vr (XR B n0) 6 (κS κ 6) j = .inl 0 := by
  obtain ⟨k, rfl⟩ : ∃ k, j = k + 4 := ⟨j - 4, by omega⟩
  exact ⟨rfl, rfl⟩
theorem vq_10_0 : vr (XI B n0) 10 (κS κ 10) 0 = vr (XR B n0) 10 (κS κ 10) 0 := rfl
theorem vq_10_1 : vr (XI B n0) 10 (κS κ 10) 1 = vr (XR B n0) 10 (κS κ 10) 1 := rfl
theorem vq_10 {j : Nat} (h : j < 2) : vr (XI B n0) 10 (κS κ 10) j = vr (XR B n0) 10 (κS κ 10) j := by
  rcases (show j = 0 ∨ j = 1 by omega) with rfl | rfl
  · exact vq_10_0
  · exact vq_10_1
theorem vo_10 {j : Nat} (h : 2 ≤ j) (r : Nat → Int) : vr (XI B n0) 10 r j = .inl (r j) ∧ vr (XR B n0) 10 r j = .inl (r j) := by
  obtain ⟨k, rfl⟩ : ∃ k, j = k + 2 := ⟨j - 2, by omega⟩
  exact ⟨rfl, rfl⟩
theorem vq_14_0 : vr (XI B n0) 14 (κS κ 14) 0 = vr (XR B n0) 14 (κS κ 14) 0 := rfl
theorem vq_14_1 : vr (XI B n0) 14 (κS κ 14) 1 = vr (XR B n0) 14 (κS κ 14) 1 := rfl
theorem vq_14 {j : Nat} (h : j < 2) : vr (XI B n0) 14 (κS κ 14) j = vr (XR B n0) 14 (κS κ 14) j := by
  rcases (show j = 0 ∨ j = 1 by omega) with rfl | rfl
  · exact vq_14_0
  · exact vq_14_1
theorem vo_14 {j : Nat} (h : 2 ≤ j) (r : Nat → Int) : vr (XI B n0) 14 r j = .inl (r j) ∧ vr (XR B n0) 14 r j = .inl (r j) := by
  obtain ⟨k, rfl⟩ : ∃ k, j = k + 2 := ⟨j - 2, by omega⟩
  exact ⟨rfl, rfl⟩
theorem vq_17_0 : vr (XI B n0) 17 (κS κ 17) 0 = vr (XR B n0) 17 (κS κ 17) 0 := rfl
theorem vq_17_1 : vr (XI B n0) 17 (κS κ 17) 1 = vr (XR B n0) 17 (κS κ 17) 1 := rfl
theorem vq_17_2 : vr (XI B n0) 17 (κS κ 17) 2 = vr (XR B n0) 17 (κS κ 17) 2 := rfl
theorem vq_17_3 : vr (XI B n0) 17 (κS κ 17) 3 = vr (XR B n0) 17 (κS κ 17) 3 := rfl
theorem vq_17_4 : vr (XI B n0) 17 (κS κ 17) 4 = vr (XR B n0) 17 (κS κ 17) 4 := rfl
theorem vq_17_5 : vr (XI B n0) 17 (κS κ 17) 5 = vr (XR B n0) 17 (κS κ 17) 5 := rfl
theorem vq_17_6 : vr (XI B n0) 17 (κS κ 17) 6 = vr (XR B n0) 17 (κS κ 17) 6 := rfl
theorem vq_17_7 : vr (XI B n0) 17 (κS κ 17) 7 = vr (XR B n0) 17 (κS κ 17) 7 := rfl
theorem vq_17 {j : Nat} (h : j < 8) : vr (XI B n0) 17 (κS κ 17) j = vr (XR B n0) 17 (κS κ 17) j := by
  rcases (show j = 0 ∨ j = 1 ∨ j = 2 ∨ j = 3 ∨ j = 4 ∨ j = 5 ∨ j = 6 ∨ j = 7 by omega) with rfl | rfl | rfl | rfl | rfl | rfl | rfl | rfl
  · exact vq_17_0
  · exact vq_17_1
  · exact vq_17_2
  · exact vq_17_3
  · exact vq_17_4
  · exact vq_17_5
  · exact vq_17_6
  · exact vq_17_7
theorem vo_17 {j : Nat} (h : 8 ≤ j) (r : Nat → Int) : vr (XI B n0) 17 r j = .inl (r j) ∧ vr (XR B n0) 17 r j = .inl (r j) := by
  obtain ⟨k, rfl⟩ : ∃ k, j = k + 8 := ⟨j - 8, by omega⟩
  exact ⟨rfl, rfl⟩
theorem vq_22_0 : vr (XI B n0) 22 (κS κ 22) 0 = vr (XR B n0) 22 (κS κ 22) 0 := rfl
theorem vq_22_1 : vr (XI B n0) 22 (κS κ 22) 1 = vr (XR B n0) 22 (κS κ 22) 1 := rfl
theorem vq_22 {j : Nat} (h : j < 2) : vr (XI B n0) 22 (κS κ 22) j = vr (XR B n0) 22 (κS κ 22) j := by
  rcases (show j = 0 ∨ j = 1 by omega) with rfl | rfl
  · exact vq_22_0
  · exact vq_22_1
theorem vo_22 {j : Nat} (h : 2 ≤ j) (r : Nat → Int) : vr (XI B n0) 22 r j = .inl (r j) ∧ vr (XR B n0) 22 r j = .inl (r j) := by
  obtain ⟨k, rfl⟩ : ∃ k, j = k + 2 := ⟨j - 2, by omega⟩
  exact ⟨rfl, rfl⟩
theorem vq_24_0 : vr (XI B n0) 24 (κS κ 24) 0 = vr (XR B n0) 24 (κS κ 24) 0 := rfl
theorem vq_24_1 : vr (XI B n0) 24 (κS κ 24) 1 = vr (XR B n0) 24 (κS κ 24) 1 := rfl
theorem vq_24 {j : Nat} (h : j < 2) : vr (XI B n0) 24 (κS κ 24) j = vr (XR B n0) 24 (κS κ 24) j := by
  rcases (show j = 0 ∨ j = 1 by omega) with rfl | rfl
  · exact vq_24_0
  · exact vq_24_1
theorem vo_24 {j : Nat} (h : 2 ≤ j) (r : Nat → Int) : vr (XI B n0) 24 r j = .inl (r j) ∧ vr (XR B n0) 24 r j = .inl (r j) := by
  obtain ⟨k, rfl⟩ : ∃ k, j = k + 2 := ⟨j - 2, by omega⟩
  exact ⟨rfl, rfl⟩
theorem vq_26_0 : vr (XI B n0) 26 (κS κ 26) 0 = vr (XR B n0) 26 (κS κ 26) 0 := rfl
theorem vq_26_1 : vr (XI B n0) 26 (κS κ 26) 1 = vr (XR B n0) 26 (κS κ 26) 1 := rfl
theorem vq_26 {j : Nat} (h : j < 2) : vr (XI B n0) 26 (κS κ 26) j = vr (XR B n0) 26 (κS κ 26) j := by
  rcases (show j = 0 ∨ j = 1 by omega) with rfl | rfl
  · exact vq_26_0
  · exact vq_26_1
theorem vo_26 {j : Nat} (h : 2 ≤ j) (r : Nat → Int) : vr (XI B n0) 26 r j = .inl (r j) ∧ vr (XR B n0) 26 r j = .inl (r j) := by
  obtain ⟨k, rfl⟩ : ∃ k, j = k + 2 := ⟨j - 2, by omega⟩
  exact ⟨rfl, rfl⟩
theorem vq_28_0 : vr (XI B n0) 28 (κS κ 28) 0 = vr (XR B n0) 28 (κS κ 28) 0 := rfl
theorem vq_28_1 : vr (XI B n0) 28 (κS κ 28) 1 = vr (XR B n0) 28 (κS κ 28) 1 := rfl
theorem vq_28 {j : Nat} (h : j < 2) : vr (XI B n0) 28 (κS κ 28) j = vr (XR B n0) 28 (κS κ 28) j := by
  rcases (show j = 0 ∨ j = 1 by omega) with rfl | rfl
  · exact vq_28_0
  · exact vq_28_1
theorem vo_28 {j : Nat} (h : 2 ≤ j) (r : Nat → Int) : vr (XI B n0) 28 r j = .inl (r j) ∧ vr (XR B n0) 28 r j = .inl (r j) := by
  obtain ⟨k, rfl⟩ : ∃ k, j = k + 2 := ⟨j - 2, by omega⟩
  exact ⟨rfl, rfl⟩
theorem vq_40_0 : vr (XI B n0) 40 (κS κ 40) 0 = vr (XR B n0) 40 (κS κ 40) 0 := rfl
theorem vq_40_1 : vr (XI B n0) 40 (κS κ 40) 1 = vr (XR B n0) 40 (κS κ 40) 1 := rfl
theorem vq_40_2 : vr (XI B n0) 40 (κS κ 40) 2 = vr (XR B n0) 40 (κS κ 40) 2 := rfl
theorem vq_40_3 : vr (XI B n0) 40 (κS κ 40) 3 = vr (XR B n0) 40 (κS κ 40) 3 := rfl
theorem vq_40_4 : vr (XI B n0) 40 (κS κ 40) 4 = vr (XR B n0) 40 (κS κ 40) 4 := rfl
theorem vq_40_5 : vr (XI B n0) 40 (κS κ 40) 5 = vr (XR B n0) 40 (κS κ 40) 5 := rfl
theorem vq_40_6 : vr (XI B n0) 40 (κS κ 40) 6 = vr (XR B n0) 40 (κS κ 40) 6 := rfl
theorem vq_40_7 : vr (XI B n0) 40 (κS κ 40) 7 = vr (XR B n0) 40 (κS κ 40) 7 := rfl
theorem vq_40_8 : vr (XI B n0) 40 (κS κ 40) 8 = vr (XR B n0) 40 (κS κ 40) 8 := rfl
theorem vq_40_9 : vr (XI B n0) 40 (κS κ 40) 9 = vr (XR B n0) 40 (κS κ 40) 9 := rfl
theorem vq_40_10 : vr (XI B n0) 40 (κS κ 40) 10 = vr (XR B n0) 40 (κS κ 40) 10 := rfl
theorem vq_40_11 : vr (XI B n0) 40 (κS κ 40) 11 = vr (XR B n0) 40 (κS κ 40) 11 := rfl
theorem vq_40_12 : vr (XI B n0) 40 (κS κ 40) 12 = vr (XR B n0) 40 (κS κ 40) 12 := rfl
theorem vq_40_13 : vr (XI B n0) 40 (κS κ 40) 13 = vr (XR B n0) 40 (κS κ 40) 13 := rfl
theorem vq_40_14 : vr (XI B n0) 40 (κS κ 40) 14 = vr (XR B n0) 40 (κS κ 40) 14 := rfl
theorem vq_40_15 : vr (XI B n0) 40 (κS κ 40) 15 = vr (XR B n0) 40 (κS κ 40) 15 := rfl
theorem vq_40_16 : vr (XI B n0) 40 (κS κ 40) 16 = vr (XR B n0) 40 (κS κ 40) 16 := rfl
theorem vq_40_17 : vr (XI B n0) 40 (κS κ 40) 17 = vr (XR B n0) 40 (κS κ 40) 17 := rfl
theorem vq_40_18 : vr (XI B n0) 40 (κS κ 40) 18 = vr (XR B n0) 40 (κS κ 40) 18 := rfl
theorem vq_40_19 : vr (XI B n0) 40 (κS κ 40) 19 = vr (XR B n0) 40 (κS κ 40) 19 := rfl
theorem vq_40_20 : vr (XI B n0) 40 (κS κ 40) 20 = vr (XR B n0) 40 (κS κ 40) 20 := rfl
theorem vq_40_21 : vr (XI B n0) 40 (κS κ 40) 21 = vr (XR B n0) 40 (κS κ 40) 21 := rfl
theorem vq_40_22 : vr (XI B n0) 40 (κS κ 40) 22 = vr (XR B n0) 40 (κS κ 40) 22 := rfl
theorem vq_40_23 : vr (XI B n0) 40 (κS κ 40) 23 = vr (XR B n0) 40 (κS κ 40) 23 := rfl
theorem vq_40_24 : vr (XI B n0) 40 (κS κ 40) 24 = vr (XR B n0) 40 (κS κ 40) 24 := rfl
theorem vq_40_25 : vr (XI B n0) 40 (κS κ 40) 25 = vr (XR B n0) 40 (κS κ 40) 25 := rfl
theorem vq_40_26 : vr (XI B n0) 40 (κS κ 40) 26 = vr (XR B n0) 40 (κS κ 40) 26 := rfl
theorem vq_40_27 : vr (XI B n0) 40 (κS κ 40) 27 = vr (XR B n0) 40 (κS κ 40) 27 := rfl
theorem vq_40_28 : vr (XI B n0) 40 (κS κ 40) 28 = vr (XR B n0) 40 (κS κ 40) 28 := rfl
theorem vq_40_29 : vr (XI B n0) 40 (κS κ 40) 29 = vr (XR B n0) 40 (κS κ 40) 29 := rfl
theorem vq_40_30 : vr (XI B n0) 40 (κS κ 40) 30 = vr (XR B n0) 40 (κS κ 40) 30 := rfl
theorem vq_40_31 : vr (XI B n0) 40 (κS κ 40) 31 = vr (XR B n0) 40 (κS κ 40) 31 := rfl
theorem vq_40_32 : vr (XI B n0) 40 (κS κ 40) 32 = vr (XR B n0) 40 (κS κ 40) 32 := rfl
theorem vq_40_33 : vr (XI B n0) 40 (κS κ 40) 33 = vr (XR B n0) 40 (κS κ 40) 33 := rfl
theorem vq_40_34 : vr (XI B n0) 40 (κS κ 40) 34 = vr (XR B n0) 40 (κS κ 40) 34 := rfl
theorem vq_40_35 : vr (XI B n0) 40 (κS κ 40) 35 = vr (XR B n0) 40 (κS κ 40) 35 := rfl
theorem vq_40_36 : vr (XI B n0) 40 (κS κ 40) 36 = vr (XR B n0) 40 (κS κ 40) 36 := rfl
theorem vq_40_37 : vr (XI B n0) 40 (κS κ 40) 37 = vr (XR B n0) 40 (κS κ 40) 37 := rfl
theorem vq_40_38 : vr (XI B n0) 40 (κS κ 40) 38 = vr (XR B n0) 40 (κS κ 40) 38 := rfl
theorem vq_40_39 : vr (XI B n0) 40 (κS κ 40) 39 = vr (XR B n0) 40 (κS κ 40) 39 := rfl
theorem vq_40_40 : vr (XI B n0) 40 (κS κ 40) 40 = vr (XR B n0) 40 (κS κ 40) 40 := rfl
theorem vq_40_41 : vr (XI B n0) 40 (κS κ 40) 41 = vr (XR B n0) 40 (κS κ 40) 41 := rfl
theorem vq_40_42 : vr (XI B n0) 40 (κS κ 40) 42 = vr (XR B n0) 40 (κS κ 40) 42 := rfl
theorem vq_40_43 : vr (XI B n0) 40 (κS κ 40) 43 = vr (XR B n0) 40 (κS κ 40) 43 := rfl
theorem vq_40_44 : vr (XI B n0) 40 (κS κ 40) 44 = vr (XR B n0) 40 (κS κ 40) 44 := rfl
theorem vq_40_45 : vr (XI B n0) 40 (κS κ 40) 45 = vr (XR B n0) 40 (κS κ 40) 45 := rfl
theorem vq_40_46 : vr (XI B n0) 40 (κS κ 40) 46 = vr (XR B n0) 40 (κS κ 40) 46 := rfl
theorem vq_40_47 : vr (XI B n0) 40 (κS κ 40) 47 = vr (XR B n0) 40 (κS κ 40) 47 := rfl
theorem vq_40_48 : vr (XI B n0) 40 (κS κ 40) 48 = vr (XR B n0) 40 (κS κ 40) 48 := rfl
theorem vq_40_49 : vr (XI B n0) 40 (κS κ 40) 49 = vr (XR B n0) 40 (κS κ 40) 49 := rfl
theorem vq_40_50 : vr (XI B n0) 40 (κS κ 40) 50 = vr (XR B n0) 40 (κS κ 40) 50 := rfl
theorem vq_40_51 : vr (XI B n0) 40 (κS κ 40) 51 = vr (XR B n0) 40 (κS κ 40) 51 := rfl
theorem vq_40_52 : vr (XI B n0) 40 (κS κ 40) 52 = vr (XR B n0) 40 (κS κ 40) 52 := rfl
theorem vq_40_53 : vr (XI B n0) 40 (κS κ 40) 53 = vr (XR B n0) 40 (κS κ 40) 53 := rfl
theorem vq_40_54 : vr (XI B n0) 40 (κS κ 40) 54 = vr (XR B n0) 40 (κS κ 40) 54 := rfl
theorem vq_40_55 : vr (XI B n0) 40 (κS κ 40) 55 = vr (XR B n0) 40 (κS κ 40) 55 := rfl
theorem vq_40_56 : vr (XI B n0) 40 (κS κ 40) 56 = vr (XR B n0) 40 (κS κ 40) 56 := rfl
theorem vq_40_57 : vr (XI B n0) 40 (κS κ 40) 57 = vr (XR B n0) 40 (κS κ 40) 57 := rfl
theorem vq_40 {j : Nat} (h : j < 58) : vr (XI B n0) 40 (κS κ 40) j = vr (XR B n0) 40 (κS κ 40) j := by
  rcases (show j = 0 ∨ j = 1 ∨ j = 2 ∨ j = 3 ∨ j = 4 ∨ j = 5 ∨ j = 6 ∨ j = 7 ∨ j = 8 ∨ j = 9 ∨ j = 10 ∨ j = 11 ∨ j = 12 ∨ j = 13 ∨ j = 14 ∨ j = 15 ∨ j = 16 ∨ j = 17 ∨ j = 18 ∨ j = 19 ∨ j = 20 ∨ j = 21 ∨ j = 22 ∨ j = 23 ∨ j = 24 ∨ j = 25 ∨ j = 26 ∨ j = 27 ∨ j = 28 ∨ j = 29 ∨ j = 30 ∨ j = 31 ∨ j = 32 ∨ j = 33 ∨ j = 34 ∨ j = 35 ∨ j = 36 ∨ j = 37 ∨ j = 38 ∨ j = 39 ∨ j = 40 ∨ j = 41 ∨ j = 42 ∨ j = 43 ∨ j = 44 ∨ j = 45 ∨ j = 46 ∨ j = 47 ∨ j = 48 ∨ j = 49 ∨ j = 50 ∨ j = 51 ∨ j = 52 ∨ j = 53 ∨ j = 54 ∨ j = 55 ∨ j = 56 ∨ j = 57 by omega) with rfl | rfl | rfl | rfl | rfl | rfl | rfl | rfl | rfl | rfl | rfl | rfl | rfl | rfl | rfl | rfl | rfl | rfl | rfl | rfl | rfl | rfl | rfl | rfl | rfl | rfl | rfl | rfl | rfl | rfl | rfl | rfl | rfl | rfl | rfl | rfl | rfl | rfl | rfl | rfl | rfl | rfl | rfl | rfl | rfl | rfl | rfl | rfl | rfl | rfl | rfl | rfl | rfl | rfl | rfl | rfl | rfl | rfl
  · exact vq_40_0
  · exact vq_40_1
  · exact vq_40_2
  · exact vq_40_3
  · exact vq_40_4
  · exact vq_40_5
  · exact vq_40_6
  · exact vq_40_7
  · exact vq_40_8
  · exact vq_40_9
  · exact vq_40_10
  · exact vq_40_11
  · exact vq_40_12
  · exact vq_40_13
  · exact vq_40_14
  · exact vq_40_15
  · exact vq_40_16
  · exact vq_40_17
  · exact vq_40_18
  · exact vq_40_19
  · exact vq_40_20
  · exact vq_40_21
  · exact vq_40_22
  · exact vq_40_23
  · exact vq_40_24
  · exact vq_40_25
  · exact vq_40_26
  · exact vq_40_27
  · exact vq_40_28
  · exact vq_40_29
  · exact vq_40_30
  · exact vq_40_31
  · exact vq_40_32
  · exact vq_40_33
  · exact vq_40_34
  · exact vq_40_35
  · exact vq_40_36
  · exact vq_40_37
  · exact vq_40_38
  · exact vq_40_39
  · exact vq_40_40
  · exact vq_40_41
  · exact vq_40_42
  · exact vq_40_43
  · exact vq_40_44
  · exact vq_40_45
  · exact vq_40_46
  · exact vq_40_47
  · exact vq_40_48
  · exact vq_40_49
  · exact vq_40_50
  · exact vq_40_51
  · exact vq_40_52
  · exact vq_40_53
  · exact vq_40_54
  · exact vq_40_55
  · exact vq_40_56
  · exact vq_40_57
theorem vo_40 {j : Nat} (h : 58 ≤ j) (r : Nat → Int) : vr (XI B n0) 40 r j = .inl (r j) ∧ vr (XR B n0) 40 r j = .inl (r j) := by
  obtain ⟨k, rfl⟩ : ∃ k, j = k + 58 := ⟨j - 58, by omega⟩
  exact ⟨rfl, rfl⟩
theorem entO_eq {X Y : Cx} {ρ : Nat → Nat} {t : Nat} {r : Nat → Int} (hk : kd X t = kd Y t) (h : ∀ j, j < (kd X t).2 → vr X t r j = vr Y t r j) : entO X ρ t r = entO Y ρ t r := by
  unfold entO
  rw [← hk]
  congr 2
  exact List.map_congr_left (fun j hj => by rw [h j (List.mem_range.mp hj)])
theorem S_ent {ρ : Nat → Nat} {t : Nat} (ht : VS t = true) : ent (XI B n0) ρ t (κS κ t) = ent (XR B n0) ρ t (κS κ t) := by
  by_cases h_1 : t = 1
  · subst h_1
    exact entO_eq (X := XI B n0) (Y := XR B n0) rfl (fun j hj => vq_1 hj)
  by_cases h_6 : t = 6
  · subst h_6
    show entR (XI B n0) ρ 3 6 (κS κ 6) = entR (XR B n0) ρ 3 6 (κS κ 6)
    unfold entR
    congr 7
    funext j
    by_cases c : j < 4
    · rw [vq_6 c]
    · rw [(vo_6 (by omega)).1, (vo_6 (by omega)).2]
      rfl
  by_cases h_10 : t = 10
  · subst h_10
    exact entO_eq (X := XI B n0) (Y := XR B n0) rfl (fun j hj => vq_10 hj)
  by_cases h_14 : t = 14
  · subst h_14
    exact entO_eq (X := XI B n0) (Y := XR B n0) rfl (fun j hj => vq_14 hj)
  by_cases h_17 : t = 17
  · subst h_17
    exact entO_eq (X := XI B n0) (Y := XR B n0) rfl (fun j hj => vq_17 hj)
  by_cases h_22 : t = 22
  · subst h_22
    exact entO_eq (X := XI B n0) (Y := XR B n0) rfl (fun j hj => vq_22 hj)
  by_cases h_24 : t = 24
  · subst h_24
    exact entO_eq (X := XI B n0) (Y := XR B n0) rfl (fun j hj => vq_24 hj)
  by_cases h_26 : t = 26
  · subst h_26
    exact entO_eq (X := XI B n0) (Y := XR B n0) rfl (fun j hj => vq_26 hj)
  by_cases h_28 : t = 28
  · subst h_28
    exact entO_eq (X := XI B n0) (Y := XR B n0) rfl (fun j hj => vq_28 hj)
  by_cases h_40 : t = 40
  · subst h_40
    exact entO_eq (X := XI B n0) (Y := XR B n0) rfl (fun j hj => vq_40 hj)
  have t1 : t < 100 := by
    rcases Nat.lt_or_ge t 100 with q | q
    · exact q
    · rw [VS_hi q] at ht
      cases ht
  have v : ∀ j, vr (XI B n0) t (κS κ t) j = vr (XR B n0) t (κS κ t) j := fun j => vr_eq ⟨fun _ => ly_eq t t1 h_1 h_6 h_10 h_14 h_17 h_22 h_24 h_26 h_28 h_40, h_6⟩ _
  unfold ent entI entR entO
  simp only [v]
theorem S_ref {t j q : Nat} (hI : ∀ t j q : Nat, VS t = true → vr (XI B n0) t (κS κ t) j = .inr (some q) → VS q = true) (ht : VS t = true) (h : vr (XR B n0) t (κS κ t) j = .inr (some q)) : VS q = true := by
  by_cases h_1 : t = 1
  · subst h_1
    by_cases c : j < 15
    · exact hI 1 j q ht ((vq_1 c).trans h)
    · rw [(vo_1 (by omega) _).2] at h
      cases h
  by_cases h_6 : t = 6
  · subst h_6
    by_cases c : j < 4
    · exact hI 6 j q ht ((vq_6 c).trans h)
    · rw [(vo_6 (by omega)).2] at h
      cases h
  by_cases h_10 : t = 10
  · subst h_10
    by_cases c : j < 2
    · exact hI 10 j q ht ((vq_10 c).trans h)
    · rw [(vo_10 (by omega) _).2] at h
      cases h
  by_cases h_14 : t = 14
  · subst h_14
    by_cases c : j < 2
    · exact hI 14 j q ht ((vq_14 c).trans h)
    · rw [(vo_14 (by omega) _).2] at h
      cases h
  by_cases h_17 : t = 17
  · subst h_17
    by_cases c : j < 8
    · exact hI 17 j q ht ((vq_17 c).trans h)
    · rw [(vo_17 (by omega) _).2] at h
      cases h
  by_cases h_22 : t = 22
  · subst h_22
    by_cases c : j < 2
    · exact hI 22 j q ht ((vq_22 c).trans h)
    · rw [(vo_22 (by omega) _).2] at h
      cases h
  by_cases h_24 : t = 24
  · subst h_24
    by_cases c : j < 2
    · exact hI 24 j q ht ((vq_24 c).trans h)
    · rw [(vo_24 (by omega) _).2] at h
      cases h
  by_cases h_26 : t = 26
  · subst h_26
    by_cases c : j < 2
    · exact hI 26 j q ht ((vq_26 c).trans h)
    · rw [(vo_26 (by omega) _).2] at h
      cases h
  by_cases h_28 : t = 28
  · subst h_28
    by_cases c : j < 2
    · exact hI 28 j q ht ((vq_28 c).trans h)
    · rw [(vo_28 (by omega) _).2] at h
      cases h
  by_cases h_40 : t = 40
  · subst h_40
    by_cases c : j < 58
    · exact hI 40 j q ht ((vq_40 c).trans h)
    · rw [(vo_40 (by omega) _).2] at h
      cases h
  have t1 : t < 100 := by
    rcases Nat.lt_or_ge t 100 with q | q
    · exact q
    · rw [VS_hi q] at ht
      cases ht
  exact hI t j q ht ((vr_eq ⟨fun _ => ly_eq t t1 h_1 h_6 h_10 h_14 h_17 h_22 h_24 h_26 h_28 h_40, h_6⟩ _).trans h)
theorem mm_conv {ρ : Nat → Nat} {U : State} {H : Heap} (h : mm (XI B n0) ρ VS (κS κ) U H) : mm (XR B n0) ρ VS (κS κ) U H := by
  refine ⟨fun t ht => ?_, h.2.1, h.2.2.1, fun t j q ht hq => S_ref (B := B) (n0 := n0) h.2.2.2.1 ht hq, h.2.2.2.2⟩
  have h1 := h.1 t ht
  unfold cellOk at h1 ⊢
  rw [← S_ent ht]
  exact h1
theorem mm_none (X : Cx) (ρ : Nat → Nat) (U : State) (H : Heap) : mm X ρ Vz (fun _ _ => 0) U H := ⟨fun t h => (nomatch h), fun a b h => (nomatch h), fun _ _ => inR_0, fun t j q h => (nomatch h), 0, fun t h => (nomatch h)⟩
theorem W.post {p : Program} {l : Launch} {e : Env} {R : Room} {s : State} {m : MethodId} {args : Array Value} {below : List Frame} {meth : Method} {c : Code} {H : Heap} {locs : List Loc} {cells slots : Nat} {Q Q' : State → Prop} {g : JFrame} (k : W p l e R s m args below meth c H locs cells slots Q g) (h : ∀ t, Q t → Q' t) : W p l e R s m args below meth c H locs cells slots Q' g := fun T hT X => by
  obtain ⟨t, a, b⟩ := k T hT X
  exact ⟨t, a, h t b⟩
theorem G_conv {bc bs pc : Nat} {L : Lc} {st : List Av} (k : G (XR B n0) mL_law 20 PL Vz bc bs pc L st VS (κS κ)) : G (XI B n0) mL_law 20 PL Vz bc bs pc L st VS (κS κ) := by
  intro p e R s m args below meth c mc ms ρ0 C H locs cells slots ls ρ hh
  have w := k p e R s m args below meth c mc ms ρ0 C H locs cells slots ls ρ ⟨hh.1, hh.2.1, hh.2.2.1, mm_conv hh.2.2.2.1, hh.2.2.2.2.1, hh.2.2.2.2.2.1, hh.2.2.2.2.2.2⟩
  refine W.post w (fun t ht => ?_)
  obtain ⟨o, h1, h2, ⟨⟨r, V', κ', ρ', ho, hm, hp, hok, hv⟩, hF⟩, L', h4, h5⟩ := ht
  exact ⟨o, h1, h2, ⟨⟨r, Vz, fun _ _ => 0, ρ', ho, mm_none _ _ _ _, hp, fun v hv2 => by rw [show r = some (Iv 1) from hp] at hv2; cases hv2; trivial, fun t h => (nomatch h)⟩, hF⟩, L', h4, h5⟩
end S67
set_option maxHeartbeats 4000000 in
set_option maxRecDepth 20000 in
theorem law_G {B : Bs} {n0 : Nat} {κ : Ks} (hn0 : n0 ≤ 3072) (h0 : κ 30 0 = 0 ∧ κ 30 1 = 0 ∧ κ 30 2 = 1) (h1 : κ 31 0 = 5000 ∧ κ 31 1 = 50 ∧ κ 31 2 = 99) : G (XI B n0) mL_law 20 PL Vz 1092 25930 0 [some (Rf 33), none, none, none] [] VL κ := by
  refine g_new 3 1 dL_law_0 nwL_7 ki_1 (fun j => rfl) (gD1 _ (by decide)) rfl rfl ?_
  refine g_dup 4 dL_law_3 rfl ?_
  refine v_I 7 1063 23354 [] [Rf 1] dL_law_4 ciL_9 mwX9_init (by decide) rfl (Nat.le_of_ble_eq_true rfl) rfl rfl rfl (i_1 (fun t ht => (vset_n (by omega)).trans (decide_eq_false (by omega))) ((vset_n (by decide)).trans rfl)) ?_
  refine g_astore_n (L' := [some (Rf 33), some (Rf 1), none, none]) 8 dL_law_7 rfl (by decide) rfl ?_
  refine g_new 11 40 dL_law_8 nwL_10 ki_40 (fun j => rfl) (gD1 _ (by decide)) ((vset_n (by decide)).trans ((vset_n (by decide)).trans ((vset_n (by decide)).trans ((vset_n (by decide)).trans ((vset_n (by decide)).trans ((vset_n (by decide)).trans ((vset_n (by decide)).trans ((vset_n (by decide)).trans ((vset_n (by decide)).trans ((vset_n (by decide)).trans ((vset_n (by decide)).trans ((vset_n (by decide)).trans ((vset_n (by decide)).trans ((vset_n (by decide)).trans ((vset_n (by decide)).trans ((vset_n (by decide)).trans ((vset_n (by decide)).trans ((vset_n (by decide)).trans ((vset_n (by decide)).trans ((vset_n (by decide)).trans ((vset_n (by decide)).trans ((vset_n (by decide)).trans ((vset_n (by decide)).trans ((vset_n (by decide)).trans ((vset_n (by decide)).trans ((vset_n (by decide)).trans ((vset_n (by decide)).trans ((vset_n (by decide)).trans ((vset_n (by decide)).trans (rfl)))))))))))))))))))))))))))))) rfl ?_
  refine g_dup 12 dL_law_11 rfl ?_
  refine v_I 15 1024 22528 [] [Rf 40] dL_law_12 ciL_12 mwX10_init (by decide) rfl (Nat.le_of_ble_eq_true rfl) rfl rfl rfl (i_40 (fun t ht => (vset_n (by omega)).trans ((vset_n (by omega)).trans ((vset_n (by omega)).trans ((vset_n (by omega)).trans ((vset_n (by omega)).trans ((vset_n (by omega)).trans ((vset_n (by omega)).trans ((vset_n (by omega)).trans ((vset_n (by omega)).trans ((vset_n (by omega)).trans ((vset_n (by omega)).trans ((vset_n (by omega)).trans ((vset_n (by omega)).trans ((vset_n (by omega)).trans ((vset_n (by omega)).trans ((vset_n (by omega)).trans ((vset_n (by omega)).trans ((vset_n (by omega)).trans ((vset_n (by omega)).trans ((vset_n (by omega)).trans ((vset_n (by omega)).trans ((vset_n (by omega)).trans ((vset_n (by omega)).trans ((vset_n (by omega)).trans ((vset_n (by omega)).trans ((vset_n (by omega)).trans ((vset_n (by omega)).trans ((vset_n (by omega)).trans ((vset_n (by omega)).trans ((vset_n (by omega)).trans (decide_eq_false (by omega))))))))))))))))))))))))))))))))) ?_
  refine g_astore_n (L' := [some (Rf 33), some (Rf 1), some (Rf 40), none]) 16 dL_law_15 rfl (by decide) rfl ?_
  refine G_conv (κ := κ) ?_
  refine g_iconst 17 dL_law_16 (by decide) rfl ?_
  refine g_istore_n (L' := [some (Rf 33), some (Rf 1), some (Rf 40), some (Iv 0)]) 18 dL_law_17 rfl (by decide) rfl ?_
  exact law_loop hn0 512 0 VS (κS κ) (S_LI h0 h1) (by omega) (by omega)
