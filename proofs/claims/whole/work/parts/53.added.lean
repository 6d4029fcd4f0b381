/-! the link after an addition (printed by wip/whole/gen53.py) -/
theorem etg_R {k : Nat} {n : Int} (h : 0 < n) : 1000 + 100 * k ≤ etg k n ∧ etg k n < 1100 + 100 * k := by
  have := capN_lt n
  unfold etg
  rw [if_neg (by omega)]
  omega
theorem capN_mono (n : Int) : capN n ≤ capN (n + 1) := by
  unfold capN
  (repeat' split) <;> omega
theorem LVP_0 {V V1 : Vs} {μ μ1 : Ks} {n : Nat} (h : LVP V μ) (hn : μ 40 11 = n) (hn2 : n < 40) (m40 : ∀ j, j ≠ 11 → μ1 40 j = μ 40 j) (mn : μ1 40 11 = (n : Int) + 1) (hV : ∀ t, t ≠ 100 + n → t ≠ etg 0 ((n : Int) + 1) → V1 t = V t) : LVP V1 μ1 := by
  have er := etg_R (k := 0) (n := (n : Int) + 1) (by omega)
  obtain ⟨⟨a0, a1, a2, a3⟩, s0, s1, s2, s3, c0, c1, c2, c3⟩ := h
  have cm := capN_mono (n : Int)
  have ee : etg 0 ((n : Int) + 1) = 1000 + 100 * 0 + capN ((n : Int) + 1) := by unfold etg; rw [if_neg (by omega)]
  refine ⟨⟨by rw [hV _ (by omega) (by omega)]; exact a0, by rw [hV _ (by omega) (by omega)]; exact a1, by rw [hV _ (by omega) (by omega)]; exact a2, by rw [hV _ (by omega) (by omega)]; exact a3⟩, ?_, ?_, ?_, ?_, ?_, ?_, ?_, ?_⟩
  · intro s h1 h2
    rw [mn] at h1
    rw [hV _ (by omega) (by omega)]
    exact s0 s (by omega) h2
  · intro s h1 h2
    rw [m40 20 (by decide)] at h1
    rw [hV _ (by omega) (by omega)]
    exact s1 s h1 h2
  · intro s h1 h2
    rw [m40 31 (by decide)] at h1
    rw [hV _ (by omega) (by omega)]
    exact s2 s h1 h2
  · intro s h1 h2
    rw [m40 41 (by decide)] at h1
    rw [hV _ (by omega) (by omega)]
    exact s3 s h1 h2
  · intro c h1 h2
    rw [mn] at h1
    rw [hV _ (by omega) (by omega)]
    exact c0 c (by rw [hn]; omega) h2
  · intro c h1 h2
    rw [m40 20 (by decide)] at h1
    rw [hV _ (by omega) (by omega)]
    exact c1 c h1 h2
  · intro c h1 h2
    rw [m40 31 (by decide)] at h1
    rw [hV _ (by omega) (by omega)]
    exact c2 c h1 h2
  · intro c h1 h2
    rw [m40 41 (by decide)] at h1
    rw [hV _ (by omega) (by omega)]
    exact c3 c h1 h2
theorem LVP_1 {V V1 : Vs} {μ μ1 : Ks} {n : Nat} (h : LVP V μ) (hn : μ 40 20 = n) (hn2 : n < 40) (m40 : ∀ j, j ≠ 20 → μ1 40 j = μ 40 j) (mn : μ1 40 20 = (n : Int) + 1) (hV : ∀ t, t ≠ 200 + n → t ≠ etg 1 ((n : Int) + 1) → V1 t = V t) : LVP V1 μ1 := by
  have er := etg_R (k := 1) (n := (n : Int) + 1) (by omega)
  obtain ⟨⟨a0, a1, a2, a3⟩, s0, s1, s2, s3, c0, c1, c2, c3⟩ := h
  have cm := capN_mono (n : Int)
  have ee : etg 1 ((n : Int) + 1) = 1000 + 100 * 1 + capN ((n : Int) + 1) := by unfold etg; rw [if_neg (by omega)]
  refine ⟨⟨by rw [hV _ (by omega) (by omega)]; exact a0, by rw [hV _ (by omega) (by omega)]; exact a1, by rw [hV _ (by omega) (by omega)]; exact a2, by rw [hV _ (by omega) (by omega)]; exact a3⟩, ?_, ?_, ?_, ?_, ?_, ?_, ?_, ?_⟩
  · intro s h1 h2
    rw [m40 11 (by decide)] at h1
    rw [hV _ (by omega) (by omega)]
    exact s0 s h1 h2
  · intro s h1 h2
    rw [mn] at h1
    rw [hV _ (by omega) (by omega)]
    exact s1 s (by omega) h2
  · intro s h1 h2
    rw [m40 31 (by decide)] at h1
    rw [hV _ (by omega) (by omega)]
    exact s2 s h1 h2
  · intro s h1 h2
    rw [m40 41 (by decide)] at h1
    rw [hV _ (by omega) (by omega)]
    exact s3 s h1 h2
  · intro c h1 h2
    rw [m40 11 (by decide)] at h1
    rw [hV _ (by omega) (by omega)]
    exact c0 c h1 h2
  · intro c h1 h2
    rw [mn] at h1
    rw [hV _ (by omega) (by omega)]
    exact c1 c (by rw [hn]; omega) h2
  · intro c h1 h2
    rw [m40 31 (by decide)] at h1
    rw [hV _ (by omega) (by omega)]
    exact c2 c h1 h2
  · intro c h1 h2
    rw [m40 41 (by decide)] at h1
    rw [hV _ (by omega) (by omega)]
    exact c3 c h1 h2
theorem LVP_2 {V V1 : Vs} {μ μ1 : Ks} {n : Nat} (h : LVP V μ) (hn : μ 40 31 = n) (hn2 : n < 40) (m40 : ∀ j, j ≠ 31 → μ1 40 j = μ 40 j) (mn : μ1 40 31 = (n : Int) + 1) (hV : ∀ t, t ≠ 300 + n → t ≠ etg 2 ((n : Int) + 1) → V1 t = V t) : LVP V1 μ1 := by
  have er := etg_R (k := 2) (n := (n : Int) + 1) (by omega)
  obtain ⟨⟨a0, a1, a2, a3⟩, s0, s1, s2, s3, c0, c1, c2, c3⟩ := h
  have cm := capN_mono (n : Int)
  have ee : etg 2 ((n : Int) + 1) = 1000 + 100 * 2 + capN ((n : Int) + 1) := by unfold etg; rw [if_neg (by omega)]
  refine ⟨⟨by rw [hV _ (by omega) (by omega)]; exact a0, by rw [hV _ (by omega) (by omega)]; exact a1, by rw [hV _ (by omega) (by omega)]; exact a2, by rw [hV _ (by omega) (by omega)]; exact a3⟩, ?_, ?_, ?_, ?_, ?_, ?_, ?_, ?_⟩
  · intro s h1 h2
    rw [m40 11 (by decide)] at h1
    rw [hV _ (by omega) (by omega)]
    exact s0 s h1 h2
  · intro s h1 h2
    rw [m40 20 (by decide)] at h1
    rw [hV _ (by omega) (by omega)]
    exact s1 s h1 h2
  · intro s h1 h2
    rw [mn] at h1
    rw [hV _ (by omega) (by omega)]
    exact s2 s (by omega) h2
  · intro s h1 h2
    rw [m40 41 (by decide)] at h1
    rw [hV _ (by omega) (by omega)]
    exact s3 s h1 h2
  · intro c h1 h2
    rw [m40 11 (by decide)] at h1
    rw [hV _ (by omega) (by omega)]
    exact c0 c h1 h2
  · intro c h1 h2
    rw [m40 20 (by decide)] at h1
    rw [hV _ (by omega) (by omega)]
    exact c1 c h1 h2
  · intro c h1 h2
    rw [mn] at h1
    rw [hV _ (by omega) (by omega)]
    exact c2 c (by rw [hn]; omega) h2
  · intro c h1 h2
    rw [m40 41 (by decide)] at h1
    rw [hV _ (by omega) (by omega)]
    exact c3 c h1 h2
theorem LVP_3 {V V1 : Vs} {μ μ1 : Ks} {n : Nat} (h : LVP V μ) (hn : μ 40 41 = n) (hn2 : n < 40) (m40 : ∀ j, j ≠ 41 → μ1 40 j = μ 40 j) (mn : μ1 40 41 = (n : Int) + 1) (hV : ∀ t, t ≠ 400 + n → t ≠ etg 3 ((n : Int) + 1) → V1 t = V t) : LVP V1 μ1 := by
  have er := etg_R (k := 3) (n := (n : Int) + 1) (by omega)
  obtain ⟨⟨a0, a1, a2, a3⟩, s0, s1, s2, s3, c0, c1, c2, c3⟩ := h
  have cm := capN_mono (n : Int)
  have ee : etg 3 ((n : Int) + 1) = 1000 + 100 * 3 + capN ((n : Int) + 1) := by unfold etg; rw [if_neg (by omega)]
  refine ⟨⟨by rw [hV _ (by omega) (by omega)]; exact a0, by rw [hV _ (by omega) (by omega)]; exact a1, by rw [hV _ (by omega) (by omega)]; exact a2, by rw [hV _ (by omega) (by omega)]; exact a3⟩, ?_, ?_, ?_, ?_, ?_, ?_, ?_, ?_⟩
  · intro s h1 h2
    rw [m40 11 (by decide)] at h1
    rw [hV _ (by omega) (by omega)]
    exact s0 s h1 h2
  · intro s h1 h2
    rw [m40 20 (by decide)] at h1
    rw [hV _ (by omega) (by omega)]
    exact s1 s h1 h2
  · intro s h1 h2
    rw [m40 31 (by decide)] at h1
    rw [hV _ (by omega) (by omega)]
    exact s2 s h1 h2
  · intro s h1 h2
    rw [mn] at h1
    rw [hV _ (by omega) (by omega)]
    exact s3 s (by omega) h2
  · intro c h1 h2
    rw [m40 11 (by decide)] at h1
    rw [hV _ (by omega) (by omega)]
    exact c0 c h1 h2
  · intro c h1 h2
    rw [m40 20 (by decide)] at h1
    rw [hV _ (by omega) (by omega)]
    exact c1 c h1 h2
  · intro c h1 h2
    rw [m40 31 (by decide)] at h1
    rw [hV _ (by omega) (by omega)]
    exact c2 c h1 h2
  · intro c h1 h2
    rw [mn] at h1
    rw [hV _ (by omega) (by omega)]
    exact c3 c (by rw [hn]; omega) h2
theorem CI_law {κ κ1 μ μ1 : Ks} {n : Nat} {a b c d : Int} (hI : MI μ) (h : CI κ μ) (hn : μ 40 41 = n) (m40 : ∀ j, j ≠ 41 → μ1 40 j = μ 40 j) (mn : μ1 40 41 = (n : Int) + 1) (mt : ∀ t, t < 83 ∧ t ≠ 40 ∨ 86 < t → μ1 t = μ t) (hL : Lst κ1 3 ((n : Int) + 1)) (fr : ∀ t, t ≠ 5 → t ≠ 400 + n → t ≠ etg 3 ((n : Int) + 1) → κ1 t = κ t) (r : κ1 (400 + n) 0 = a ∧ κ1 (400 + n) 1 = b ∧ κ1 (400 + n) 2 = c ∧ κ1 (400 + n) 3 = d) (w : (∀ j, μ1 83 j = if j = n then a else μ 83 j) ∧ (∀ j, μ1 84 j = if j = n then b else μ 84 j) ∧ (∀ j, μ1 85 j = if j = n then c else μ 85 j) ∧ ∀ j, μ1 86 j = if j = n then d else μ 86 j) : CI κ1 μ1 := by
  obtain ⟨cA, cB, cC, cD, cE, cF, cG, cS, cL, cH, cN, cT, cW, cK, cZ⟩ := h
  obtain ⟨⟨i0, i1, i2, i3, i4, i5, i6, i7, i8, i9⟩, iS, iH, iR, iT, iC, iG, iL, iZ⟩ := id hI
  have er := etg_R (k := 3) (n := (n : Int) + 1) (by omega)
  have f0 : ∀ t, t < 100 → t ≠ 5 → κ1 t = κ t := fun t h1 h2 => fr t h2 (by omega) (by omega)
  have fE : ∀ t q : Nat, 1000 + 100 * q ≤ t ∧ t < 1100 + 100 * q → q ≠ 3 → κ1 t = κ t := fun t q h1 h2 => fr t (by omega) (by omega) (by omega)
  have fS : ∀ s j : Nat, s < 90 → True → κ1 (100 + s) j = κ (100 + s) j := fun s j h1 h2 => by rw [fr (100 + s) (by omega) (by omega) (by omega)]
  have fH : ∀ s j : Nat, s < 90 → True → κ1 (200 + s) j = κ (200 + s) j := fun s j h1 h2 => by rw [fr (200 + s) (by omega) (by omega) (by omega)]
  have fT : ∀ s : Nat, s < 90 → True → κ1 (300 + s) = κ (300 + s) := fun s h1 h2 => fr (300 + s) (by omega) (by omega) (by omega)
  have fW : ∀ s : Nat, s < 90 → s ≠ n → κ1 (400 + s) = κ (400 + s) := fun s h1 h2 => fr (400 + s) (by omega) (by omega) (by omega)
  refine ⟨cA.fr (by rw [f0 1 (by decide) (by decide)]) (by rw [f0 1 (by decide) (by decide)]) (by rw [f0 1 (by decide) (by decide)]) (m40 0 (by decide)) (m40 4 (by decide)) (m40 37 (by decide)), cB.fr (f0 8 (by decide) (by decide)) (m40 1 (by decide)) (m40 2 (by decide)) (m40 3 (by decide)), cC.fr (f0 7 (by decide) (by decide)) (mt 77 (by decide)), cD.fr (f0 9 (by decide) (by decide)) (mt 87 (by decide)), cE.fr (f0 13 (by decide) (by decide)) (m40 5 (by decide)) (m40 6 (by decide)) (m40 7 (by decide)) (m40 8 (by decide)) (m40 9 (by decide)) (m40 10 (by decide)), cF.fr (fun t h1 h2 => f0 t (by omega) (by omega)) (mt 70 (by decide)) (mt 71 (by decide)), ⟨by rw [m40 11 (by decide)]; exact cG.1.fr (f0 2 (by decide) (by decide)) (fun z => fE _ 0 (etg_R z) (by decide)), by rw [m40 20 (by decide)]; exact cG.2.1.fr (f0 3 (by decide) (by decide)) (fun z => fE _ 1 (etg_R z) (by decide)), by rw [m40 31 (by decide)]; exact cG.2.2.1.fr (f0 4 (by decide) (by decide)) (fun z => fE _ 2 (etg_R z) (by decide)), by rw [mn]; exact hL⟩, cS.fr (fun s j hs hj => fS s j (by omega) (by first | trivial | omega)) (m40 11 (by decide)) (fun t h1 h2 => mt t (by omega)), cL.fr (fun s j hs hj => fS s j (by omega) (by first | trivial | omega)) (m40 11 (by decide)) (m40 37 (by decide)) (mt 79 (by decide)) (mt 80 (by decide)) (mt 81 (by decide)), cH.fr (fun s j hs hj => fH s j (by omega) (by first | trivial | omega)) (m40 20 (by decide)) (fun t h1 h2 => mt t (by omega)), cN.fr i6.1 (fun s hs => fS s 10 (by omega) (by first | trivial | omega)) (fun s hs => fH s 8 (by omega) (by first | trivial | omega)) (m40 11 (by decide)) (m40 20 (by decide)) (mt 62 (by decide)) (mt 64 (by decide)), cT.fr (fun t ht => fT t (by omega) (by first | trivial | omega)) (m40 31 (by decide)) (mt 73 (by decide)) (mt 74 (by decide)) (mt 75 (by decide)) (mt 76 (by decide)), ?_, cK.fr (f0 11 (by decide) (by decide)) (f0 12 (by decide) (by decide)) (m40 11 (by decide)) (m40 31 (by decide)) (mt 53 (by decide)) (mt 73 (by decide)) (mt 75 (by decide)) (mt 76 (by decide)), cZ.fr (f0 30 (by decide) (by decide)) (f0 31 (by decide) (by decide)) (f0 16 (by decide) (by decide)) (f0 21 (by decide) (by decide)) (f0 33 (by decide) (by decide)) (mt 33 (by decide))⟩
  · intro t ht
    rw [mn] at ht
    rw [w.1 t, w.2.1 t, w.2.2.1 t, w.2.2.2 t]
    by_cases e : t = n
    · subst e
      rw [if_pos rfl, if_pos rfl, if_pos rfl, if_pos rfl]
      exact r
    · rw [if_neg e, if_neg e, if_neg e, if_neg e, fW t (by omega) e]
      exact cW t (by omega)
theorem lowM_0 {μ : Ks} {s : Int} : ∀ n : Nat, (∀ k : Nat, k < n → μ 79 k ≠ s) → lowM μ s n = 0 ∧ highM μ s n = 5000
  | 0, _ => ⟨rfl, rfl⟩
  | n + 1, h => by
    have q := lowM_0 (μ := μ) (s := s) n (fun k hk => h k (by omega))
    rw [lowM_s, highM_s, if_neg (h n (by omega)), if_neg (h n (by omega))]
    exact q
theorem hsf_nil {μ : Ks} {s f : Int} {n : Nat} (h : ∀ k : Nat, k < n → μ 62 k ≠ s) : hsf μ s f n = [] := by
  unfold hsf
  rw [List.filter_eq_nil_iff]
  intro k hk
  have := h k (List.mem_range.mp hk)
  simp [this]
theorem hl_nil {μ : Ks} {s : Int} (h : ∀ k : Nat, (k : Int) < μ 40 20 → μ 62 k ≠ s) : ∀ f, hl μ s f = []
  | 0 => rfl
  | f + 1 => by
    unfold hl
    rw [hl_nil h f, hsf_nil (fun k hk => h k (by omega))]
    rfl
theorem opB_lt {μ μ1 : Ks} {x : Int} {n : Nat} (hL : ∀ s, LetB μ1 s x = LetB μ s x) (h53 : ∀ j, j ≠ n → μ1 53 j = μ 53 j) (hS : ∀ s : Nat, s < n → μ 53 s < s) : ∀ (f : Nat) (s : Int), s < n → opB μ1 x f s = opB μ x f s
  | 0, _, _ => rfl
  | f + 1, s, hs => by
    unfold opB
    rw [hL]
    by_cases e : s < 0
    · rw [if_pos e, if_pos e]
    · rw [if_neg e, if_neg e, h53 _ (by omega)]
      have := hS s.toNat (by omega)
      rw [opB_lt hL h53 hS f _ (by omega)]
theorem let_no {μ : Ks} {s x : Int} (h : ∀ t : Nat, (t : Int) < μ 40 31 → μ 73 t ≠ s) : ¬ LetB μ s x = true := fun z => by
  obtain ⟨u, h1, h2⟩ := letB_iff.mp z
  exact h u h1 h2.1
theorem open_let {μ : Ks} {s x : Int} (h0 : 0 ≤ s) (h : openB μ s x = true) : LetB μ s x = true := by
  unfold openB at h
  rw [show (s + 1).toNat = s.toNat + 1 by omega] at h
  unfold opB at h
  rw [if_neg (by omega)] at h
  exact (Bool.and_eq_true _ _ ▸ h).1
theorem CI_street {κ κ1 μ μ1 : Ks} {n : Nat} {a b c : Int} (hI : MI μ) (h : CI κ μ) (hn : μ 40 11 = n) (m40 : ∀ j, j ≠ 11 → μ1 40 j = μ 40 j) (mn : μ1 40 11 = (n : Int) + 1) (mt : ∀ t, t < 53 ∧ t ≠ 40 ∨ 55 < t → μ1 t = μ t) (hL : Lst κ1 0 ((n : Int) + 1)) (fr : ∀ t, t ≠ 2 → t ≠ 100 + n → t ≠ etg 0 ((n : Int) + 1) → κ1 t = κ t) (r : κ1 (100 + n) 0 = a ∧ κ1 (100 + n) 1 = b ∧ κ1 (100 + n) 2 = c ∧ κ1 (100 + n) 3 = 0 ∧ κ1 (100 + n) 4 = 0 ∧ κ1 (100 + n) 5 = 0 ∧ κ1 (100 + n) 6 = 0 ∧ κ1 (100 + n) 7 = 0 ∧ κ1 (100 + n) 8 = 0 ∧ κ1 (100 + n) 9 = 5000 ∧ κ1 (100 + n) 10 = 0) (w : (∀ j, μ1 53 j = if j = n then a else μ 53 j) ∧ (∀ j, μ1 54 j = if j = n then b else μ 54 j) ∧ ∀ j, μ1 55 j = if j = n then c else μ 55 j) (n10 : n < 10) : CI κ1 μ1 := by
  obtain ⟨cA, cB, cC, cD, cE, cF, cG, cS, cL, cH, cN, cT, cW, cK, cZ⟩ := h
  obtain ⟨⟨i0, i1, i2, i3, i4, i5, i6, i7, i8, i9⟩, iS, iH, iR, iT, iC, iG, iL, iZ⟩ := id hI
  have er := etg_R (k := 0) (n := (n : Int) + 1) (by omega)
  have f0 : ∀ t, t < 100 → t ≠ 2 → κ1 t = κ t := fun t h1 h2 => fr t h2 (by omega) (by omega)
  have fE : ∀ t q : Nat, 1000 + 100 * q ≤ t ∧ t < 1100 + 100 * q → q ≠ 0 → κ1 t = κ t := fun t q h1 h2 => fr t (by omega) (by omega) (by omega)
  have fS : ∀ s j : Nat, s < 90 → s ≠ n → κ1 (100 + s) j = κ (100 + s) j := fun s j h1 h2 => by rw [fr (100 + s) (by omega) (by omega) (by omega)]
  have fH : ∀ s j : Nat, s < 90 → True → κ1 (200 + s) j = κ (200 + s) j := fun s j h1 h2 => by rw [fr (200 + s) (by omega) (by omega) (by omega)]
  have fT : ∀ s : Nat, s < 90 → True → κ1 (300 + s) = κ (300 + s) := fun s h1 h2 => fr (300 + s) (by omega) (by omega) (by omega)
  have fW : ∀ s : Nat, s < 90 → True → κ1 (400 + s) = κ (400 + s) := fun s h1 h2 => fr (400 + s) (by omega) (by omega) (by omega)
  refine ⟨cA.fr (by rw [f0 1 (by decide) (by decide)]) (by rw [f0 1 (by decide) (by decide)]) (by rw [f0 1 (by decide) (by decide)]) (m40 0 (by decide)) (m40 4 (by decide)) (m40 37 (by decide)), cB.fr (f0 8 (by decide) (by decide)) (m40 1 (by decide)) (m40 2 (by decide)) (m40 3 (by decide)), cC.fr (f0 7 (by decide) (by decide)) (mt 77 (by decide)), cD.fr (f0 9 (by decide) (by decide)) (mt 87 (by decide)), cE.fr (f0 13 (by decide) (by decide)) (m40 5 (by decide)) (m40 6 (by decide)) (m40 7 (by decide)) (m40 8 (by decide)) (m40 9 (by decide)) (m40 10 (by decide)), cF.fr (fun t h1 h2 => f0 t (by omega) (by omega)) (mt 70 (by decide)) (mt 71 (by decide)), ⟨by rw [mn]; exact hL, by rw [m40 20 (by decide)]; exact cG.2.1.fr (f0 3 (by decide) (by decide)) (fun z => fE _ 1 (etg_R z) (by decide)), by rw [m40 31 (by decide)]; exact cG.2.2.1.fr (f0 4 (by decide) (by decide)) (fun z => fE _ 2 (etg_R z) (by decide)), by rw [m40 41 (by decide)]; exact cG.2.2.2.fr (f0 5 (by decide) (by decide)) (fun z => fE _ 3 (etg_R z) (by decide))⟩, ?_, ?_, cH.fr (fun s j hs hj => fH s j (by omega) (by first | trivial | omega)) (m40 20 (by decide)) (fun t h1 h2 => mt t (by omega)), ?_, cT.fr (fun t ht => fT t (by omega) (by first | trivial | omega)) (m40 31 (by decide)) (mt 73 (by decide)) (mt 74 (by decide)) (mt 75 (by decide)) (mt 76 (by decide)), cW.fr (fun t ht => fW t (by omega) (by first | trivial | omega)) (m40 41 (by decide)) (mt 83 (by decide)) (mt 84 (by decide)) (mt 85 (by decide)) (mt 86 (by decide)), ?_, cZ.fr (f0 30 (by decide) (by decide)) (f0 31 (by decide) (by decide)) (f0 16 (by decide) (by decide)) (f0 21 (by decide) (by decide)) (f0 33 (by decide) (by decide)) (mt 33 (by decide))⟩
  · intro s hs
    rw [mn] at hs
    rw [w.1 s, w.2.1 s, w.2.2 s, mt 56 (by decide), mt 57 (by decide), mt 58 (by decide), mt 59 (by decide), mt 60 (by decide)]
    by_cases e : s = n
    · subst e
      have z := iZ.1 s (by omega) n10
      rw [if_pos rfl, if_pos rfl, if_pos rfl, if_neg (by omega), z.1, z.2.1, z.2.2.1, z.2.2.2]
      exact ⟨r.1, r.2.1, r.2.2.1, r.2.2.2.1, r.2.2.2.2.1, r.2.2.2.2.2.1, r.2.2.2.2.2.2.1, r.2.2.2.2.2.2.2.1⟩
    · rw [if_neg e, if_neg e, if_neg e, fS s 0 (by omega) e, fS s 1 (by omega) e, fS s 2 (by omega) e, fS s 3 (by omega) e, fS s 4 (by omega) e, fS s 5 (by omega) e, fS s 6 (by omega) e, fS s 7 (by omega) e]
      exact cS s (by omega)
  · intro s hs
    rw [mn] at hs
    rw [m40 37 (by decide), lowM_eq (mt 79 (by decide)) (mt 80 (by decide)) (mt 81 (by decide)), highM_eq (mt 79 (by decide)) (mt 80 (by decide)) (mt 81 (by decide))]
    by_cases e : s = n
    · subst e
      have z := lowM_0 (μ := μ) (s := (s : Int)) (μ 40 37).toNat (fun k hk => by have := (iG k (by omega)).1; omega)
      rw [z.1, z.2]
      exact ⟨r.2.2.2.2.2.2.2.2.1, r.2.2.2.2.2.2.2.2.2.1⟩
    · rw [fS s 8 (by omega) e, fS s 9 (by omega) e]
      exact cL s (by omega)
  · intro s hs
    rw [mn] at hs
    rw [hl_eq (mt 62 (by decide)) (mt 64 (by decide)) (m40 20 (by decide))]
    by_cases e : s = n
    · subst e
      rw [hl_nil (fun k hk => by have := (iH k hk).1; omega), r.2.2.2.2.2.2.2.2.2.2]
      rfl
    · rw [fS s 10 (by omega) e]
      exact chn_congr _ (fun k hk => fH k 8 (by have := hl_lt i6.1 hk; omega) trivial) (cN s (by omega))
  · intro x hx
    have q := cK x hx
    have lE : ∀ s : Int, LetB μ1 s x = LetB μ s x := fun s => letB_eq (m40 31 (by decide)) (mt 73 (by decide)) (mt 75 (by decide)) (mt 76 (by decide)) s x
    rw [f0 11 (by decide) (by decide), f0 12 (by decide) (by decide)]
    refine ⟨⟨q.1.1, q.1.2.1, fun s hs => ?_⟩, q.2.1, q.2.2.1, fun s hs => ?_⟩
    · rw [lE]
      exact q.1.2.2 s hs
    · rw [q.2.2.2 s hs, mn, hn]
      by_cases e : s = n
      · subst e
        rw [if_neg (by omega), if_neg (fun z => let_no (fun t ht => by have := (iT t ht).1; omega) ((lE s).symm.trans (open_let (by omega) z.2)))]
      · by_cases e2 : s < n
        · have eo : openB μ1 s x = openB μ s x := opB_lt (n := n) lE (fun j hj => (w.1 j).trans (if_neg hj)) (fun k hk => (iS k (by omega)).1.2) _ _ (by omega)
          rw [eo]
          by_cases g : openB μ s x = true
          · rw [if_pos ⟨by omega, g⟩, if_pos ⟨by omega, g⟩]
          · rw [if_neg (fun z => g z.2), if_neg (fun z => g z.2)]
        · rw [if_neg (by omega), if_neg (by omega)]
theorem CI_turn {κ κ1 μ μ1 : Ks} {n : Nat} {a b c d : Int} (hI : MI μ) (h : CI κ μ) (hn : μ 40 31 = n) (m40 : ∀ j, j ≠ 31 → μ1 40 j = μ 40 j) (mn : μ1 40 31 = (n : Int) + 1) (mt : ∀ t, t < 73 ∧ t ≠ 40 ∨ 76 < t → μ1 t = μ t) (hL : Lst κ1 2 ((n : Int) + 1)) (fr : ∀ t, t ≠ 4 → t ≠ 11 → t ≠ 12 → t ≠ 300 + n → t ≠ etg 2 ((n : Int) + 1) → κ1 t = κ t) (r : κ1 (300 + n) 0 = a ∧ κ1 (300 + n) 1 = b ∧ κ1 (300 + n) 2 = c ∧ κ1 (300 + n) 3 = d) (w : (∀ j, μ1 73 j = if j = n then a else μ 73 j) ∧ (∀ j, μ1 74 j = if j = n then b else μ 74 j) ∧ (∀ j, μ1 75 j = if j = n then c else μ 75 j) ∧ ∀ j, μ1 76 j = if j = n then d else μ 76 j) (gk : gK κ1 μ1) : CI κ1 μ1 := by
  obtain ⟨cA, cB, cC, cD, cE, cF, cG, cS, cL, cH, cN, cT, cW, cK, cZ⟩ := h
  obtain ⟨⟨i0, i1, i2, i3, i4, i5, i6, i7, i8, i9⟩, iS, iH, iR, iT, iC, iG, iL, iZ⟩ := id hI
  have er := etg_R (k := 2) (n := (n : Int) + 1) (by omega)
  have f0 : ∀ t, t < 100 → t ≠ 4 → t ≠ 11 → t ≠ 12 → κ1 t = κ t := fun t h1 h2 h3 h4 => fr t h2 h3 h4 (by omega) (by omega)
  have fE : ∀ t q : Nat, 1000 + 100 * q ≤ t ∧ t < 1100 + 100 * q → q ≠ 2 → κ1 t = κ t := fun t q h1 h2 => fr t (by omega) (by omega) (by omega) (by omega) (by omega)
  have fS : ∀ s j : Nat, s < 90 → True → κ1 (100 + s) j = κ (100 + s) j := fun s j h1 h2 => by rw [fr (100 + s) (by omega) (by omega) (by omega) (by omega) (by omega)]
  have fH : ∀ s j : Nat, s < 90 → True → κ1 (200 + s) j = κ (200 + s) j := fun s j h1 h2 => by rw [fr (200 + s) (by omega) (by omega) (by omega) (by omega) (by omega)]
  have fT : ∀ s : Nat, s < 90 → s ≠ n → κ1 (300 + s) = κ (300 + s) := fun s h1 h2 => fr (300 + s) (by omega) (by omega) (by omega) (by omega) (by omega)
  have fW : ∀ s : Nat, s < 90 → True → κ1 (400 + s) = κ (400 + s) := fun s h1 h2 => fr (400 + s) (by omega) (by omega) (by omega) (by omega) (by omega)
  refine ⟨cA.fr (by rw [f0 1 (by decide) (by decide) (by decide) (by decide)]) (by rw [f0 1 (by decide) (by decide) (by decide) (by decide)]) (by rw [f0 1 (by decide) (by decide) (by decide) (by decide)]) (m40 0 (by decide)) (m40 4 (by decide)) (m40 37 (by decide)), cB.fr (f0 8 (by decide) (by decide) (by decide) (by decide)) (m40 1 (by decide)) (m40 2 (by decide)) (m40 3 (by decide)), cC.fr (f0 7 (by decide) (by decide) (by decide) (by decide)) (mt 77 (by decide)), cD.fr (f0 9 (by decide) (by decide) (by decide) (by decide)) (mt 87 (by decide)), cE.fr (f0 13 (by decide) (by decide) (by decide) (by decide)) (m40 5 (by decide)) (m40 6 (by decide)) (m40 7 (by decide)) (m40 8 (by decide)) (m40 9 (by decide)) (m40 10 (by decide)), cF.fr (fun t h1 h2 => f0 t (by omega) (by omega) (by omega) (by omega)) (mt 70 (by decide)) (mt 71 (by decide)), ⟨by rw [m40 11 (by decide)]; exact cG.1.fr (f0 2 (by decide) (by decide) (by decide) (by decide)) (fun z => fE _ 0 (etg_R z) (by decide)), by rw [m40 20 (by decide)]; exact cG.2.1.fr (f0 3 (by decide) (by decide) (by decide) (by decide)) (fun z => fE _ 1 (etg_R z) (by decide)), by rw [mn]; exact hL, by rw [m40 41 (by decide)]; exact cG.2.2.2.fr (f0 5 (by decide) (by decide) (by decide) (by decide)) (fun z => fE _ 3 (etg_R z) (by decide))⟩, cS.fr (fun s j hs hj => fS s j (by omega) (by first | trivial | omega)) (m40 11 (by decide)) (fun t h1 h2 => mt t (by omega)), cL.fr (fun s j hs hj => fS s j (by omega) (by first | trivial | omega)) (m40 11 (by decide)) (m40 37 (by decide)) (mt 79 (by decide)) (mt 80 (by decide)) (mt 81 (by decide)), cH.fr (fun s j hs hj => fH s j (by omega) (by first | trivial | omega)) (m40 20 (by decide)) (fun t h1 h2 => mt t (by omega)), cN.fr i6.1 (fun s hs => fS s 10 (by omega) (by first | trivial | omega)) (fun s hs => fH s 8 (by omega) (by first | trivial | omega)) (m40 11 (by decide)) (m40 20 (by decide)) (mt 62 (by decide)) (mt 64 (by decide)), ?_, cW.fr (fun t ht => fW t (by omega) (by first | trivial | omega)) (m40 41 (by decide)) (mt 83 (by decide)) (mt 84 (by decide)) (mt 85 (by decide)) (mt 86 (by decide)), gk, cZ.fr (f0 30 (by decide) (by decide) (by decide) (by decide)) (f0 31 (by decide) (by decide) (by decide) (by decide)) (f0 16 (by decide) (by decide) (by decide) (by decide)) (f0 21 (by decide) (by decide) (by decide) (by decide)) (f0 33 (by decide) (by decide) (by decide) (by decide)) (mt 33 (by decide))⟩
  · intro t ht
    rw [mn] at ht
    rw [w.1 t, w.2.1 t, w.2.2.1 t, w.2.2.2 t]
    by_cases e : t = n
    · subst e
      rw [if_pos rfl, if_pos rfl, if_pos rfl, if_pos rfl]
      exact r
    · rw [if_neg e, if_neg e, if_neg e, if_neg e, fT t (by omega) e]
      exact cT t (by omega)
theorem CI_house {κ κ1 μ μ1 : Ks} {n : Nat} {a b c d e : Int} (hI : MI μ) (h : CI κ μ) (hn : μ 40 20 = n) (m40 : ∀ j, j ≠ 20 → μ1 40 j = μ 40 j) (mn : μ1 40 20 = (n : Int) + 1) (mt : ∀ t, t < 62 ∧ t ≠ 40 ∨ 67 < t → μ1 t = μ t) (hL : Lst κ1 1 ((n : Int) + 1)) (f0 : ∀ t, t < 100 → t ≠ 3 → κ1 t = κ t) (fE : ∀ t q : Nat, 1000 + 100 * q ≤ t ∧ t < 1100 + 100 * q → q ≠ 1 → κ1 t = κ t) (fS : ∀ s j : Nat, s < 90 → j ≠ 10 → κ1 (100 + s) j = κ (100 + s) j) (fH : ∀ s j : Nat, s < n → j ≠ 8 → κ1 (200 + s) j = κ (200 + s) j) (fT : ∀ s : Nat, s < 90 → True → κ1 (300 + s) = κ (300 + s)) (fW : ∀ s : Nat, s < 90 → True → κ1 (400 + s) = κ (400 + s)) (r : κ1 (200 + n) 0 = a ∧ κ1 (200 + n) 1 = b ∧ κ1 (200 + n) 2 = c ∧ κ1 (200 + n) 3 = d ∧ κ1 (200 + n) 4 = e ∧ κ1 (200 + n) 5 = -1 ∧ κ1 (200 + n) 6 = 0 ∧ κ1 (200 + n) 7 = 0) (w : (∀ j, μ1 62 j = if j = n then a else μ 62 j) ∧ (∀ j, μ1 63 j = if j = n then b else μ 63 j) ∧ (∀ j, μ1 64 j = if j = n then c else μ 64 j) ∧ (∀ j, μ1 65 j = if j = n then d else μ 65 j) ∧ (∀ j, μ1 66 j = if j = n then e else μ 66 j) ∧ ∀ j, μ1 67 j = if j = n then -1 else μ 67 j) (gn : gN κ1 μ1) (n24 : n < 24) : CI κ1 μ1 := by
  obtain ⟨cA, cB, cC, cD, cE, cF, cG, cS, cL, cH, cN, cT, cW, cK, cZ⟩ := h
  obtain ⟨⟨i0, i1, i2, i3, i4, i5, i6, i7, i8, i9⟩, iS, iH, iR, iT, iC, iG, iL, iZ⟩ := id hI
  have er := etg_R (k := 1) (n := (n : Int) + 1) (by omega)
  refine ⟨cA.fr (by rw [f0 1 (by decide) (by decide)]) (by rw [f0 1 (by decide) (by decide)]) (by rw [f0 1 (by decide) (by decide)]) (m40 0 (by decide)) (m40 4 (by decide)) (m40 37 (by decide)), cB.fr (f0 8 (by decide) (by decide)) (m40 1 (by decide)) (m40 2 (by decide)) (m40 3 (by decide)), cC.fr (f0 7 (by decide) (by decide)) (mt 77 (by decide)), cD.fr (f0 9 (by decide) (by decide)) (mt 87 (by decide)), cE.fr (f0 13 (by decide) (by decide)) (m40 5 (by decide)) (m40 6 (by decide)) (m40 7 (by decide)) (m40 8 (by decide)) (m40 9 (by decide)) (m40 10 (by decide)), cF.fr (fun t h1 h2 => f0 t (by omega) (by omega)) (mt 70 (by decide)) (mt 71 (by decide)), ⟨by rw [m40 11 (by decide)]; exact cG.1.fr (f0 2 (by decide) (by decide)) (fun z => fE _ 0 (etg_R z) (by decide)), by rw [mn]; exact hL, by rw [m40 31 (by decide)]; exact cG.2.2.1.fr (f0 4 (by decide) (by decide)) (fun z => fE _ 2 (etg_R z) (by decide)), by rw [m40 41 (by decide)]; exact cG.2.2.2.fr (f0 5 (by decide) (by decide)) (fun z => fE _ 3 (etg_R z) (by decide))⟩, cS.fr (fun s j hs hj => fS s j (by omega) (by first | trivial | omega)) (m40 11 (by decide)) (fun t h1 h2 => mt t (by omega)), cL.fr (fun s j hs hj => fS s j (by omega) (by first | trivial | omega)) (m40 11 (by decide)) (m40 37 (by decide)) (mt 79 (by decide)) (mt 80 (by decide)) (mt 81 (by decide)), ?_, gn, cT.fr (fun t ht => fT t (by omega) (by first | trivial | omega)) (m40 31 (by decide)) (mt 73 (by decide)) (mt 74 (by decide)) (mt 75 (by decide)) (mt 76 (by decide)), cW.fr (fun t ht => fW t (by omega) (by first | trivial | omega)) (m40 41 (by decide)) (mt 83 (by decide)) (mt 84 (by decide)) (mt 85 (by decide)) (mt 86 (by decide)), cK.fr (f0 11 (by decide) (by decide)) (f0 12 (by decide) (by decide)) (m40 11 (by decide)) (m40 31 (by decide)) (mt 53 (by decide)) (mt 73 (by decide)) (mt 75 (by decide)) (mt 76 (by decide)), cZ.fr (f0 30 (by decide) (by decide)) (f0 31 (by decide) (by decide)) (f0 16 (by decide) (by decide)) (f0 21 (by decide) (by decide)) (f0 33 (by decide) (by decide)) (mt 33 (by decide))⟩
  · intro t ht
    rw [mn] at ht
    rw [w.1 t, w.2.1 t, w.2.2.1 t, w.2.2.2.1 t, w.2.2.2.2.1 t, w.2.2.2.2.2 t, mt 68 (by decide), mt 69 (by decide)]
    by_cases e : t = n
    · subst e
      have z := iZ.2 t (by omega) n24
      rw [if_pos rfl, if_pos rfl, if_pos rfl, if_pos rfl, if_pos rfl, if_pos rfl, z.1, z.2]
      exact r
    · rw [if_neg e, if_neg e, if_neg e, if_neg e, if_neg e, if_neg e, fH t 0 (by omega) (by decide), fH t 1 (by omega) (by decide), fH t 2 (by omega) (by decide), fH t 3 (by omega) (by decide), fH t 4 (by omega) (by decide), fH t 5 (by omega) (by decide), fH t 6 (by omega) (by decide), fH t 7 (by omega) (by decide)]
      exact cH t (by omega)
