/-! locality of fire and the searches; what street, house and the searches keep (printed by wip/whole/gen64.py) -/
theorem shL_L {ρ κ : Ks} {h : Int} : ∀ (f : Nat) (x : Int), shL (mrg ρ κ) h f x = shL κ h f x
  | 0, _ => rfl
  | f + 1, x => by rw [shL_s, shL_s, LetB_L, mrg_in (by decide), shL_L f]
theorem shM_L {ρ κ : Ks} {s : Int} : shM (mrg ρ κ) s = shM κ s := by
  unfold shM
  rw [shL_L, mrg_in (by decide)]
theorem wkM_L {ρ κ : Ks} {l : List Int} {c : Nat} : wkM (mrg ρ κ) l c = wkM κ l c := by
  unfold wkM
  rw [wayM_L, wayM_L, wayM_L, mrg_in (by decide)]
theorem whoM_L {ρ κ : Ks} {l : List Int} : whoM (mrg ρ κ) l = whoM κ l := by
  unfold whoM
  rw [wkM_L, wkM_L, wkM_L]
theorem fireA_L {ρ κ : Ks} {l : List Int} {w : Int} : fireA (mrg ρ κ) l w = fireA κ l w := by
  unfold fireA
  rw [whoM_L, wkM_L]
theorem L_fire {ρ κ : Ks} {s w : Int} : M_fire (mrg ρ κ) s w = ((M_fire κ s w).1, mrg ρ (M_fire κ s w).2) := by
  unfold M_fire
  simp (disch := decide) only [mrg_in, rfM_L, shM_L, fireA_L]
  (repeat' split) <;> rfl
theorem cntO_L {ρ κ : Ks} {s : Int} : ∀ h : Nat, cntO (mrg ρ κ) s h = cntO κ s h
  | 0 => rfl
  | h + 1 => by
    unfold cntO
    rw [cntO_L h, openB_L]
theorem worthM_L {ρ κ : Ks} {s : Nat} : worthM (mrg ρ κ) s = worthM κ s := by
  unfold worthM
  rw [cntO_L, dripM_L]
theorem wdM_L {ρ κ : Ks} {set : Int} : ∀ s : Nat, wdM (mrg ρ κ) set s = wdM κ set s
  | 0 => rfl
  | s + 1 => by
    unfold wdM
    rw [wdM_L s, mrg_in (by decide)]
theorem costM_L {ρ κ : Ks} {set : Int} : ∀ s : Nat, costM (mrg ρ κ) set s = costM κ set s
  | 0 => rfl
  | s + 1 => by
    unfold costM
    rw [costM_L s, mrg_in (by decide), mrg_in (by decide)]
theorem worM_L {ρ κ : Ks} {set : Int} : ∀ s : Nat, worM (mrg ρ κ) set s = worM κ set s
  | 0 => rfl
  | s + 1 => by
    unfold worM
    rw [worM_L s, worthM_L]
theorem bst_L {ρ κ : Ks} {sum : Int} : ∀ k : Nat, bst (mrg ρ κ) sum k = bst κ sum k
  | 0 => rfl
  | k + 1 => by
    have e1 : bst (mrg ρ κ) sum (k + 1) = if bstC (mrg ρ κ) sum ((k : Int) + 1) (bst (mrg ρ κ) sum k) then (worM (mrg ρ κ) ((k : Int) + 1) ((mrg ρ κ) 40 11).toNat, (k : Int) + 1) else bst (mrg ρ κ) sum k := rfl
    have e2 : bst κ sum (k + 1) = if bstC κ sum ((k : Int) + 1) (bst κ sum k) then (worM κ ((k : Int) + 1) (κ 40 11).toNat, (k : Int) + 1) else bst κ sum k := rfl
    rw [e1, e2, bst_L k]
    have h11 : (mrg ρ κ) 40 11 = κ 40 11 := by rw [mrg_in (by decide)]
    have ec : bstC (mrg ρ κ) sum ((k : Int) + 1) (bst κ sum k) ↔ bstC κ sum ((k : Int) + 1) (bst κ sum k) := by
      unfold bstC
      rw [h11, wdM_L, costM_L, worM_L]
    by_cases c : bstC κ sum ((k : Int) + 1) (bst κ sum k)
    · rw [if_pos c, if_pos (ec.mpr c), worM_L, h11]
    · rw [if_neg c, if_neg (fun z => c (ec.mp z))]
theorem bestM_L {ρ κ : Ks} {sum : Int} : bestM (mrg ρ κ) sum = bestM κ sum := by
  unfold bestM
  rw [bst_L, mrg_in (by decide)]
theorem L_best {ρ κ : Ks} {sum : Int} : M_best (mrg ρ κ) sum = ((M_best κ sum).1, mrg ρ (M_best κ sum).2) := by
  unfold M_best
  simp (disch := decide) only [rfM_L, bestM_L]
  (repeat' split) <;> rfl
theorem L_bestWorth {ρ κ : Ks} {sum : Int} : M_bestWorth (mrg ρ κ) sum = ((M_bestWorth κ sum).1, mrg ρ (M_bestWorth κ sum).2) := by
  unfold M_bestWorth
  simp (disch := decide) only [rfM_L, bestM_L]
  (repeat' split) <;> rfl
theorem ndF_L {ρ κ : Ks} {set : Int} : ndF (mrg ρ κ) set = ndF κ set := by
  funext i
  unfold ndF
  rw [needM_L, mrg_in (by decide)]
theorem kF_L {ρ κ : Ks} {set : Int} : kF (mrg ρ κ) set = kF κ set := by
  unfold kF
  rw [mrg_in (by decide)]
theorem cF_L {ρ κ : Ks} {set sum : Int} : cF (mrg ρ κ) set sum = cF κ set sum := by
  unfold cF
  rw [ndF_L, kF_L]
theorem wrongP_L {ρ κ : Ks} {set sum : Int} : wrongP (mrg ρ κ) set sum = wrongP κ set sum := by
  unfold wrongP
  rw [mrg_in (by decide)]
theorem L_days {ρ κ : Ks} {set sum : Int} : M_days (mrg ρ κ) set sum = ((M_days κ set sum).1, mrg ρ (M_days κ set sum).2) := by
  unfold M_days
  rw [wrongP_L, ndF_L, kF_L, cF_L, rfM_L]
  by_cases c : wrongP κ set sum < 0
  · rw [if_pos c, if_pos c]
  · rw [if_neg c, if_neg c]
theorem L_dayOf {ρ κ : Ks} {set sum s : Int} : M_dayOf (mrg ρ κ) set sum s = ((M_dayOf κ set sum s).1, mrg ρ (M_dayOf κ set sum s).2) := by
  have h11 : (mrg ρ κ) 40 11 = κ 40 11 := by rw [mrg_in (by decide)]
  unfold M_dayOf
  rw [wrongP_L, kF_L, cF_L, rfM_L, rfM_L, h11]
  by_cases c : wrongP κ set sum < 0
  · rw [if_pos c, if_pos c]
  · rw [if_neg c, if_neg c]
    by_cases d : s < 0 ∨ κ 40 11 ≤ s
    · rw [if_pos d, if_pos d]
    · rw [if_neg d, if_neg d]
-- the invariant
theorem MI_rfM {κ : Ks} {j : Nat} (h : MI κ) (hj : 1 ≤ j ∧ j ≤ 7) : MI (rfM κ j) := MI_ref h hj
theorem K_fire {κ : Ks} {s w : Int} (hI : MI κ) : MI (M_fire κ s w).2 := by
  unfold M_fire rfM
  (repeat' split) <;> first | exact MI_ref hI (by decide) | exact hI
theorem K_best {κ : Ks} {sum : Int} (hI : MI κ) : MI (M_best κ sum).2 := by
  unfold M_best rfM
  (repeat' split) <;> first | exact MI_ref hI (by decide) | exact hI
theorem K_bestWorth {κ : Ks} {sum : Int} (hI : MI κ) : MI (M_bestWorth κ sum).2 := by
  unfold M_bestWorth rfM
  (repeat' split) <;> first | exact MI_ref hI (by decide) | exact hI
theorem K_days {κ : Ks} {set sum : Int} (hI : MI κ) : MI (M_days κ set sum).2 := by
  have w := wrong_R κ set sum
  unfold M_days
  by_cases c : wrongP κ set sum < 0
  · rw [if_pos c]
    exact MI_rfM hI (by omega)
  · rw [if_neg c]
    exact hI
theorem K_dayOf {κ : Ks} {set sum s : Int} (hI : MI κ) : MI (M_dayOf κ set sum s).2 := by
  have w := wrong_R κ set sum
  unfold M_dayOf
  by_cases c : wrongP κ set sum < 0
  · rw [if_pos c]
    exact MI_rfM hI (by omega)
  · rw [if_neg c]
    by_cases d : s < 0 ∨ κ 40 11 ≤ s
    · rw [if_pos d]
      exact MI_rfM hI (by decide)
    · rw [if_neg d]
      exact hI
/-- tun sizes of streets that are not told yet -/
def MZ (κ : Ks) : Prop := ∀ s : Nat, κ 40 11 ≤ s → s < 10 → κ 58 s = 0
theorem MZ.fr {κ κ1 : Ks} (h : MZ κ) (h58 : κ1 58 = κ 58) (h11 : κ1 40 11 = κ 40 11) : MZ κ1 := fun s a b => by
  rw [h58]
  exact h s (by omega) b
theorem K_street {κ : Ks} {a l : Int} (hI : MI κ) (hz : MZ κ) : MI (M_street κ a l).2 := by
  obtain ⟨iS0, iSt, iH, iR, iT, iC, iG, iL, iZ⟩ := id hI
  obtain ⟨i0, i1, i2, i3, i4, i5, i6, i7, i8, i9⟩ := id iS0
  unfold M_street
  by_cases c1 : a < -1 ∨ κ 40 11 ≤ a
  · rw [if_pos c1]; exact MI_rfM hI (by decide)
  · rw [if_neg c1]
    by_cases c2 : l < 1
    · rw [if_pos c2]; exact MI_rfM hI (by decide)
    · rw [if_neg c2]
      by_cases c3 : 50 < l ∨ κ 40 11 = 10
      · rw [if_pos c3]; exact MI_rfM hI (by decide)
      · rw [if_neg c3]
        obtain ⟨n, hn⟩ := Int.eq_ofNat_of_zero_le i5.1
        show MI (st2 (st2 (st2 (st2 κ 53 (κ 40 11).toNat a) 54 (κ 40 11).toNat l) 55 (κ 40 11).toNat (κ 40 0 / 168)) 40 11 (κ 40 11 + 1))
        rw [show (κ 40 11).toNat = n by omega, hn]
        obtain ⟨μ, hμ⟩ : ∃ μ, μ = st2 (st2 (st2 (st2 κ 53 n a) 54 n l) 55 n (κ 40 0 / 168)) 40 11 ((n : Int) + 1) := ⟨_, rfl⟩
        rw [← hμ]
        have m40 : ∀ j, j ≠ 11 → μ 40 j = κ 40 j := fun j hj => by rw [hμ, rd_ne (by omega), rd_ne (by omega), rd_ne (by omega), rd_ne (by omega)]
        have mn : μ 40 11 = (n : Int) + 1 := by rw [hμ]; exact rd_eq rfl rfl
        have mt : ∀ t, t < 53 ∧ t ≠ 40 ∨ 55 < t → μ t = κ t := fun t ht => by rw [hμ, st2_t (by omega), st2_t (by omega), st2_t (by omega), st2_t (by omega)]
        have w1 : ∀ j, μ 53 j = if j = n then a else κ 53 j := fun j => by rw [hμ, rd_ne (by omega), rd_ne (by omega), rd_ne (by omega)]; exact st2_w (fun _ => rfl) j
        have w2 : ∀ j, μ 54 j = if j = n then l else κ 54 j := fun j => by rw [hμ, rd_ne (by omega), rd_ne (by omega)]; exact st2_w (fun i => rd_ne (by omega)) j
        have w3 : ∀ j, μ 55 j = if j = n then κ 40 0 / 168 else κ 55 j := fun j => by rw [hμ, rd_ne (by omega)]; exact st2_w (fun i => by rw [rd_ne (by omega), rd_ne (by omega)]) j
        refine ⟨?_, ?_, ?_, iR.fr (mt 70 (by decide)) (mt 71 (by decide)), ?_, ?_, ?_, iL.fr (m40 41 (by decide)) (fun t h1 h2 => mt t (by omega)), ?_⟩
        · unfold MIs
          rw [m40 0 (by decide), m40 1 (by decide), m40 2 (by decide), m40 3 (by decide), m40 4 (by decide), mn, m40 20 (by decide), m40 31 (by decide), m40 37 (by decide), m40 41 (by decide)]
          exact ⟨i0, i1, i2, i3, i4, by omega, i6, i7, i8, i9⟩
        · intro s hs
          rw [mn] at hs
          rw [w1 s, w2 s, w3 s, mt 56 (by decide), mt 57 (by decide), mt 58 (by decide), mt 59 (by decide), mt 60 (by decide), m40 0 (by decide)]
          by_cases e : s = n
          · subst e
            have z := iZ.1 s (by omega) (by omega)
            have y := hz s (by omega) (by omega)
            rw [if_pos rfl, if_pos rfl, if_pos rfl, z.1, z.2.1, z.2.2.1, z.2.2.2, y]
            omega
          · rw [if_neg e, if_neg e, if_neg e]
            exact iSt s (by omega)
        · intro h hh
          rw [m40 20 (by decide)] at hh
          have q := iH h hh
          rw [mt 62 (by decide), mt 63 (by decide), mt 64 (by decide), mt 65 (by decide), mt 66 (by decide), mt 67 (by decide), mt 68 (by decide), mn]
          omega
        · intro t ht
          rw [m40 31 (by decide)] at ht
          have q := iT t ht
          rw [mt 73 (by decide), mt 74 (by decide), mt 75 (by decide), mt 76 (by decide), mn]
          omega
        · intro c hc
          have q := iC c hc
          rw [mt 77 (by decide), mn]
          omega
        · intro k hk
          rw [m40 37 (by decide)] at hk
          have q := iG k hk
          rw [mt 79 (by decide), mt 80 (by decide), mt 81 (by decide), mn]
          omega
        · refine ⟨fun s h1 h2 => ?_, fun h h1 h2 => ?_⟩
          · rw [mn] at h1
            rw [mt 56 (by decide), mt 57 (by decide), mt 59 (by decide), mt 60 (by decide)]
            exact iZ.1 s (by omega) h2
          · rw [m40 20 (by decide)] at h1
            rw [mt 68 (by decide), mt 69 (by decide)]
            exact iZ.2 h h1 h2
theorem K_house {κ : Ks} {s c f u b : Int} (hI : MI κ) (hb : b = 0 ∨ b = 1) : MI (M_house κ s c f u b).2 := by
  obtain ⟨iS0, iSt, iH, iR, iT, iC, iG, iL, iZ⟩ := id hI
  obtain ⟨i0, i1, i2, i3, i4, i5, i6, i7, i8, i9⟩ := id iS0
  unfold M_house
  by_cases c1 : s < 0 ∨ κ 40 11 ≤ s
  · rw [if_pos c1]; exact MI_rfM hI (by decide)
  · rw [if_neg c1]
    by_cases c2 : c < 10 ∨ f < 0 ∨ u < 0
    · rw [if_pos c2]; exact MI_rfM hI (by decide)
    · rw [if_neg c2]
      by_cases c3 : 500 < c ∨ 9 < f ∨ 20 < u ∨ κ 40 20 = 24
      · rw [if_pos c3]; exact MI_rfM hI (by decide)
      · rw [if_neg c3]
        obtain ⟨n, hn⟩ := Int.eq_ofNat_of_zero_le i6.1
        show MI (st2 (st2 (st2 (st2 (st2 (st2 (st2 κ 62 (κ 40 20).toNat s) 63 (κ 40 20).toNat c) 64 (κ 40 20).toNat f) 65 (κ 40 20).toNat u) 66 (κ 40 20).toNat b) 67 (κ 40 20).toNat (-1)) 40 20 (κ 40 20 + 1))
        rw [show (κ 40 20).toNat = n by omega, hn]
        obtain ⟨μ1, hμ⟩ : ∃ μ1, μ1 = st2 (st2 (st2 (st2 (st2 (st2 (st2 κ 62 n s) 63 n c) 64 n f) 65 n u) 66 n b) 67 n (-1)) 40 20 ((n : Int) + 1) := ⟨_, rfl⟩
        rw [← hμ]
        have m40 : ∀ j, j ≠ 20 → μ1 40 j = κ 40 j := fun j hj => by rw [hμ, rd_ne (by omega), rd_ne (by omega), rd_ne (by omega), rd_ne (by omega), rd_ne (by omega), rd_ne (by omega), rd_ne (by omega)]
        have mn : μ1 40 20 = (n : Int) + 1 := by rw [hμ]; exact rd_eq rfl rfl
        have mt : ∀ t, (t < 62 ∧ t ≠ 40 ∨ 67 < t) → μ1 t = κ t := fun t ht => by rw [hμ, st2_t (by omega), st2_t (by omega), st2_t (by omega), st2_t (by omega), st2_t (by omega), st2_t (by omega), st2_t (by omega)]
        have w1 : ∀ j, μ1 62 j = if j = n then s else κ 62 j := fun j => by
          rw [hμ, rd_ne (by omega), rd_ne (by omega), rd_ne (by omega), rd_ne (by omega), rd_ne (by omega), rd_ne (by omega)]
          exact st2_w (fun _ => rfl) j
        have w2 : ∀ j, μ1 63 j = if j = n then c else κ 63 j := fun j => by
          rw [hμ, rd_ne (by omega), rd_ne (by omega), rd_ne (by omega), rd_ne (by omega), rd_ne (by omega)]
          exact st2_w (fun i => rd_ne (by omega)) j
        have w3 : ∀ j, μ1 64 j = if j = n then f else κ 64 j := fun j => by
          rw [hμ, rd_ne (by omega), rd_ne (by omega), rd_ne (by omega), rd_ne (by omega)]
          exact st2_w (fun i => by rw [rd_ne (by omega), rd_ne (by omega)]) j
        have w4 : ∀ j, μ1 65 j = if j = n then u else κ 65 j := fun j => by
          rw [hμ, rd_ne (by omega), rd_ne (by omega), rd_ne (by omega)]
          exact st2_w (fun i => by rw [rd_ne (by omega), rd_ne (by omega), rd_ne (by omega)]) j
        have w5 : ∀ j, μ1 66 j = if j = n then b else κ 66 j := fun j => by
          rw [hμ, rd_ne (by omega), rd_ne (by omega)]
          exact st2_w (fun i => by rw [rd_ne (by omega), rd_ne (by omega), rd_ne (by omega), rd_ne (by omega)]) j
        have w6 : ∀ j, μ1 67 j = if j = n then -1 else κ 67 j := fun j => by
          rw [hμ, rd_ne (by omega)]
          exact st2_w (fun i => by rw [rd_ne (by omega), rd_ne (by omega), rd_ne (by omega), rd_ne (by omega), rd_ne (by omega)]) j
        refine ⟨?_, iSt.fr (m40 0 (by decide)) (m40 11 (by decide)) (fun t h1 h2 => mt t (by omega)), ?_, iR.fr (mt 70 (by decide)) (mt 71 (by decide)), iT.fr (m40 11 (by decide)) (m40 31 (by decide)) (fun t h1 h2 => mt t (by omega)), iC.fr (m40 11 (by decide)) (mt 77 (by decide)), iG.fr (m40 11 (by decide)) (m40 37 (by decide)) (fun t h1 h2 => mt t (by omega)), iL.fr (m40 41 (by decide)) (fun t h1 h2 => mt t (by omega)), ?_⟩
        · unfold MIs
          rw [m40 0 (by decide), m40 1 (by decide), m40 2 (by decide), m40 3 (by decide), m40 4 (by decide), m40 11 (by decide), mn, m40 31 (by decide), m40 37 (by decide), m40 41 (by decide)]
          exact ⟨i0, i1, i2, i3, i4, i5, by omega, i7, i8, i9⟩
        · intro h hh
          rw [mn] at hh
          rw [w1 h, w2 h, w3 h, w4 h, w5 h, w6 h, mt 68 (by decide), m40 11 (by decide)]
          by_cases e : h = n
          · subst e
            have z := iZ.2 h (by omega) (by omega)
            rw [if_pos rfl, if_pos rfl, if_pos rfl, if_pos rfl, if_pos rfl, if_pos rfl, z.1]
            omega
          · rw [if_neg e, if_neg e, if_neg e, if_neg e, if_neg e, if_neg e]
            exact iH h (by omega)
        · refine ⟨fun k h1 h2 => ?_, fun h h1 h2 => ?_⟩
          · rw [m40 11 (by decide)] at h1
            rw [mt 56 (by decide), mt 57 (by decide), mt 59 (by decide), mt 60 (by decide)]
            exact iZ.1 k h1 h2
          · rw [mn] at h1
            rw [mt 68 (by decide), mt 69 (by decide)]
            exact iZ.2 h (by omega) h2
theorem zrow_o {κ : Ks} {r t : Nat} (h : t ≠ 71) : ∀ k, zrow κ r k t = κ t
  | 0 => rfl
  | k + 1 => (st2_t h).trans (zrow_o h k)
theorem cpy1_o {κ : Ks} {a t : Nat} (h : t ≠ 88) : ∀ k, cpy1 κ a k t = κ t
  | 0 => rfl
  | k + 1 => (st2_t h).trans (cpy1_o h k)
theorem cpy2_o {κ : Ks} {a t : Nat} (h : t ≠ 71) : ∀ k, cpy2 κ a k t = κ t
  | 0 => rfl
  | k + 1 => (st2_t h).trans (cpy2_o h k)
theorem passN_58 {κ : Ks} (hI : MI κ) : ∀ n : Nat, κ 40 0 + n ≤ 5000 → passN κ n 58 = κ 58 ∧ passN κ n 40 11 = κ 40 11
  | 0, _ => ⟨rfl, rfl⟩
  | n + 1, h => by
    have q := passN_58 hI n (by omega)
    have ok := passN_ok hI n (by omega)
    obtain ⟨_, d⟩ := passD_ok ok.1
    have e : passN κ (n + 1) = passM (passN κ n) := rfl
    rw [e]
    refine ⟨?_, (pass_sm ok.1).1.trans q.2⟩
    unfold passM
    rw [st2_t (by decide), d.2 58 (by decide) (by decide) (by decide) (by decide) (by decide)]
    exact q.1
theorem MZ.up {κ κ1 : Ks} (h : MZ κ) (h58 : κ1 58 = κ 58) (h11 : κ1 40 11 = κ 40 11 + 1) : MZ κ1 := fun s a b => by
  rw [h58]
  exact h s (by omega) b
theorem MZ.at {κ κ1 : Ks} (h : MZ κ) {k : Nat} (hk : (k : Int) < κ 40 11) (h58 : ∀ j, j ≠ k → κ1 58 j = κ 58 j) (h11 : κ1 40 11 = κ 40 11) : MZ κ1 := fun s a b => (h58 s (by omega)).trans (h s (by omega) b)
theorem Z_street {κ : Ks} {a l : Int} (hz : MZ κ) : MZ (M_street κ a l).2 := by
  unfold M_street rfM
  (repeat' split) <;> first | exact hz.fr rfl rfl | exact hz.up rfl rfl
theorem Z_set {κ : Ks} {w v : Int} (hz : MZ κ) : MZ (M_set κ w v).2 := by
  unfold M_set
  (try unfold rfM)
  (repeat' split) <;> first | exact hz.fr rfl rfl | exact hz
theorem Z_coal {κ : Ks} {n : Int} (hz : MZ κ) : MZ (M_coal κ n).2 := by
  unfold M_coal
  (try unfold rfM)
  (repeat' split) <;> first | exact hz.fr rfl rfl | exact hz
theorem Z_house {κ : Ks} {s c f u b : Int} (hz : MZ κ) : MZ (M_house κ s c f u b).2 := by
  unfold M_house
  (try unfold rfM)
  (repeat' split) <;> first | exact hz.fr rfl rfl | exact hz
theorem Z_row {κ : Ks} {r n : Int} (hz : MZ κ) : MZ (M_row κ r n).2 := by
  unfold M_row rfM
  (repeat' split) <;> first | exact hz.fr rfl rfl | exact hz.fr (zrow_o (by decide) _) (congrFun (zrow_o (by decide) _) 11) | exact hz.fr ((cpy2_o (by decide) _).trans (cpy1_o (by decide) _)) (congrFun ((cpy2_o (by decide) _).trans (cpy1_o (by decide) _)) 11)
theorem Z_lose {κ : Ks} {r : Int} (hz : MZ κ) : MZ (M_lose κ r).2 := by
  unfold M_lose
  (try unfold rfM)
  (repeat' split) <;> first | exact hz.fr rfl rfl | exact hz
theorem Z_put {κ : Ks} {r p n : Int} (hz : MZ κ) : MZ (M_put κ r p n).2 := by
  unfold M_put
  (try unfold rfM)
  (repeat' split) <;> first | exact hz.fr rfl rfl | exact hz
theorem Z_copy {κ : Ks} {r i s j n : Int} (hz : MZ κ) : MZ (M_copy κ r i s j n).2 := by
  unfold M_copy rfM
  (repeat' split) <;> first | exact hz.fr rfl rfl | exact hz.fr (zrow_o (by decide) _) (congrFun (zrow_o (by decide) _) 11) | exact hz.fr ((cpy2_o (by decide) _).trans (cpy1_o (by decide) _)) (congrFun ((cpy2_o (by decide) _).trans (cpy1_o (by decide) _)) 11)
theorem Z_lead {κ : Ks} {h r : Int} (hz : MZ κ) : MZ (M_lead κ h r).2 := by
  unfold M_lead
  (try unfold rfM)
  (repeat' split) <;> first | exact hz.fr rfl rfl | exact hz
theorem Z_end {κ : Ks} {s z : Int} (hz : MZ κ) : MZ (M_end κ s z).2 := by
  unfold M_end
  by_cases c1 : s < 0 ∨ κ 40 11 ≤ s
  · rw [if_pos c1]; exact hz.fr rfl rfl
  · rw [if_neg c1]
    (repeat' split) <;> first | exact hz.fr rfl rfl | (refine hz.at (k := s.toNat) (by omega) (fun j hj => ?_) rfl; dsimp only; rw [rd_ne (by omega), rd_ne (by omega), rd_ne (by omega), rd_ne (by omega)])
theorem Z_clear {κ : Ks} {s : Int} (hz : MZ κ) : MZ (M_clear κ s).2 := by
  unfold M_clear
  (try unfold rfM)
  (repeat' split) <;> first | exact hz.fr rfl rfl | exact hz
theorem Z_draw {κ : Ks} {s b : Int} (hz : MZ κ) : MZ (M_draw κ s b).2 := by
  unfold M_draw
  (try unfold rfM)
  (repeat' split) <;> first | exact hz.fr rfl rfl | exact hz
theorem Z_brew {κ : Ks} {s n : Int} (hz : MZ κ) : MZ (M_brew κ s n).2 := by
  unfold M_brew
  (try unfold rfM)
  (repeat' split) <;> first | exact hz.fr rfl rfl | exact hz
theorem Z_turn {κ : Ks} {s c y h n : Int} (hz : MZ κ) : MZ (M_turn κ s c y h n).2 := by
  unfold M_turn
  (try unfold rfM)
  (repeat' split) <;> first | exact hz.fr rfl rfl | exact hz
theorem Z_let {κ : Ks} {s h w : Int} (hz : MZ κ) : MZ (M_let κ s h w).2 := by
  unfold M_let
  (try unfold rfM)
  (repeat' split) <;> first | exact hz.fr rfl rfl | exact hz
theorem Z_clashes {κ : Ks} {c : Int} (hz : MZ κ) : MZ (M_clashes κ c).2 := by
  unfold M_clashes
  (try unfold rfM)
  (repeat' split) <;> first | exact hz.fr rfl rfl | exact hz
theorem Z_hours {κ : Ks} {n : Int} (hI : MI κ) (hz : MZ κ) : MZ (M_hours κ n).2 := by
  unfold M_hours rfM
  (repeat' split) <;> first | exact hz.fr rfl rfl | exact hz.fr (passN_58 hI n.toNat (by omega)).1 (passN_58 hI n.toNat (by omega)).2
theorem Z_iron {κ : Ks} {s : Int} (hz : MZ κ) : MZ (M_iron κ s).2 := by
  unfold M_iron
  (try unfold rfM)
  (repeat' split) <;> first | exact hz.fr rfl rfl | exact hz
theorem Z_renew {κ : Ks} {s : Int} (hz : MZ κ) : MZ (M_renew κ s).2 := by
  unfold M_renew
  (try unfold rfM)
  (repeat' split) <;> first | exact hz.fr rfl rfl | exact hz
theorem Z_stand {κ : Ks} {c s : Int} (hz : MZ κ) : MZ (M_stand κ c s).2 := by
  unfold M_stand
  (try unfold rfM)
  (repeat' split) <;> first | exact hz.fr rfl rfl | exact hz
theorem Z_way {κ : Ks} {a b : Int} (hz : MZ κ) : MZ (M_way κ a b).2 := by
  unfold M_way
  (try unfold rfM)
  (repeat' split) <;> first | exact hz.fr rfl rfl | exact hz
theorem Z_fire {κ : Ks} {s w : Int} (hz : MZ κ) : MZ (M_fire κ s w).2 := by
  unfold M_fire
  (try unfold rfM)
  (repeat' split) <;> first | exact hz.fr rfl rfl | exact hz
theorem Z_reading {κ : Ks} {s i t d : Int} (hz : MZ κ) : MZ (M_reading κ s i t d).2 := by
  unfold M_reading
  (try unfold rfM)
  (repeat' split) <;> first | exact hz.fr rfl rfl | exact hz
theorem Z_span {κ : Ks} {s w : Int} (hz : MZ κ) : MZ (M_span κ s w).2 := by
  unfold M_span
  (try unfold rfM)
  (repeat' split) <;> first | exact hz.fr rfl rfl | exact hz
theorem Z_best {κ : Ks} {sum : Int} (hz : MZ κ) : MZ (M_best κ sum).2 := by
  unfold M_best
  (try unfold rfM)
  (repeat' split) <;> first | exact hz.fr rfl rfl | exact hz
theorem Z_bestWorth {κ : Ks} {sum : Int} (hz : MZ κ) : MZ (M_bestWorth κ sum).2 := by
  unfold M_bestWorth
  (try unfold rfM)
  (repeat' split) <;> first | exact hz.fr rfl rfl | exact hz
theorem Z_days {κ : Ks} {set sum : Int} (hz : MZ κ) : MZ (M_days κ set sum).2 := by
  unfold M_days rfM
  (repeat' split) <;> first | exact hz.fr rfl rfl | exact hz
theorem Z_dayOf {κ : Ks} {set sum s : Int} (hz : MZ κ) : MZ (M_dayOf κ set sum s).2 := by
  unfold M_dayOf rfM
  (repeat' split) <;> first | exact hz.fr rfl rfl | exact hz
theorem Z_law {κ : Ks} {h f t d : Int} (hz : MZ κ) : MZ (M_law κ h f t d).2 := by
  unfold M_law
  (try unfold rfM)
  (repeat' split) <;> first | exact hz.fr rfl rfl | exact hz
theorem Z_rate {κ : Ks} {h d : Int} (hz : MZ κ) : MZ (M_rate κ h d).2 := by
  unfold M_rate
  (try unfold rfM)
  (repeat' split) <;> first | exact hz.fr rfl rfl | exact hz
theorem Z_houseOf {κ : Ks} {h w : Int} (hz : MZ κ) : MZ (M_houseOf κ h w).2 := by
  unfold M_houseOf
  (try unfold rfM)
  (repeat' split) <;> first | exact hz.fr rfl rfl | exact hz
theorem Z_streetOf {κ : Ks} {s w : Int} (hz : MZ κ) : MZ (M_streetOf κ s w).2 := by
  unfold M_streetOf
  (try unfold rfM)
  (repeat' split) <;> first | exact hz.fr rfl rfl | exact hz
theorem Z_count {κ : Ks} {w : Int} (hz : MZ κ) : MZ (M_count κ w).2 := by
  unfold M_count
  (try unfold rfM)
  (repeat' split) <;> first | exact hz.fr rfl rfl | exact hz
/-- the link when the reference's scratch cells change -/
theorem CI.scr {κ μ μ1 : Ks} (hI : MI μ) (h : CI κ μ) (hs : scr μ μ1) : CI κ μ1 := by
  obtain ⟨cA, cB, cC, cD, cE, cF, cG, cS, cL, cH, cN, cT, cW, cK, cZ⟩ := h
  have i6 := hI.1.2.2.2.2.2.2.1
  have m : ∀ j, j ≠ 50 → j ≠ 51 → j ≠ 54 → μ1 40 j = μ 40 j := hs.1
  have t : ∀ q, q < 90 → q ≠ 40 → μ1 q = μ q := fun q h1 h2 => hs.2 q h2 (by omega) (by omega) (by omega) (by omega) (by omega) (by omega)
  have M : ∀ j, j < 50 → μ1 40 j = μ 40 j := fun j hj => m j (by omega) (by omega) (by omega)
  exact ⟨cA.fr rfl rfl rfl (M _ (by decide)) (M _ (by decide)) (M _ (by decide)), cB.fr rfl (M _ (by decide)) (M _ (by decide)) (M _ (by decide)), cC.fr rfl (t _ (by decide) (by decide)), cD.fr rfl (t _ (by decide) (by decide)), cE.fr rfl (M _ (by decide)) (M _ (by decide)) (M _ (by decide)) (M _ (by decide)) (M _ (by decide)) (M _ (by decide)), cF.fr (fun _ _ _ => rfl) (t _ (by decide) (by decide)) (t _ (by decide) (by decide)), cG.fr rfl rfl rfl rfl (fun _ _ => rfl) (M _ (by decide)) (M _ (by decide)) (M _ (by decide)) (M _ (by decide)), cS.fr (fun _ _ _ _ => rfl) (M _ (by decide)) (fun q h1 h2 => t q (by omega) (by omega)), cL.fr (fun _ _ _ _ => rfl) (M _ (by decide)) (M _ (by decide)) (t _ (by decide) (by decide)) (t _ (by decide) (by decide)) (t _ (by decide) (by decide)), cH.fr (fun _ _ _ _ => rfl) (M _ (by decide)) (fun q h1 h2 => t q (by omega) (by omega)), cN.fr i6.1 (fun _ _ => rfl) (fun _ _ => rfl) (M _ (by decide)) (M _ (by decide)) (t _ (by decide) (by decide)) (t _ (by decide) (by decide)), cT.fr (fun _ _ => rfl) (M _ (by decide)) (t _ (by decide) (by decide)) (t _ (by decide) (by decide)) (t _ (by decide) (by decide)) (t _ (by decide) (by decide)), cW.fr (fun _ _ => rfl) (M _ (by decide)) (t _ (by decide) (by decide)) (t _ (by decide) (by decide)) (t _ (by decide) (by decide)) (t _ (by decide) (by decide)), cK.fr rfl rfl (M _ (by decide)) (M _ (by decide)) (t _ (by decide) (by decide)) (t _ (by decide) (by decide)) (t _ (by decide) (by decide)) (t _ (by decide) (by decide)), cZ.fr rfl rfl rfl rfl rfl (t _ (by decide) (by decide))⟩
/-- what holds at the head of the law's loop -/
def LI (κ : Ks) (V : Vs) : Prop := Inv κ V ∧ MZ κ
/-- the class's call and the reference's -/
theorem LI_step {κ κ1 : Ks} {V1 : Vs} {p : Int × Ks} (hK : MI p.2) (hZ : MZ p.2) (hC : CI κ1 p.2) (hV : LVP V1 p.2) : LI (mrg κ1 p.2) V1 := ⟨Inv_step hK hC hV, hZ.fr (mrg_in (by decide)) (by rw [mrg_in (by decide)])⟩
theorem LI_scr {κ κ2 : Ks} {V : Vs} (h : LI κ V) (hs : scr κ κ2) : LI κ2 V := by
  have t : ∀ q, q < 40 ∨ 100 ≤ q → κ2 q = κ q := fun q h1 => hs.2 q (by omega) (by omega) (by omega) (by omega) (by omega) (by omega) (by omega)
  have M : ∀ j, j < 50 → κ2 40 j = κ 40 j := fun j hj => hs.1 j (by omega) (by omega) (by omega)
  refine ⟨⟨h.1.1.scr hs, ?_, h.1.2.2.fr (M _ (by decide)) (M _ (by decide)) (M _ (by decide)) (M _ (by decide))⟩, h.2.fr (hs.2 58 (by decide) (by decide) (by decide) (by decide) (by decide) (by decide) (by decide)) (M _ (by decide))⟩
  have c := CI.scr h.1.1 h.1.2.1 hs
  exact CI_cl (h.1.1.scr hs) c t (fun _ _ _ => rfl) rfl
