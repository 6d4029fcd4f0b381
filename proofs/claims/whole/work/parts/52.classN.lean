/-! ArrayList.add; new streets, houses, turns, laws (printed by wip/whole/gen52.py) -/
section G52
variable {X : Cx} {mt : Mt} {d : Nat} {P : Po} {V0 : Vs} {bc bs pc : Nat} {L : Lc} {st : List Av} {V : Vs} {κ : Ks}
theorem g_copyAb (n' : Nat) {t0 t1 N0 N1 idx ci : Nat} {sp dp n : Int} {C0 : String} {T : u_T} {Nv : Nat} (hd : decode mt.2.1 pc = .ok (.invokestatic idx, 3)) (hw : ACw mt.1.cls idx) (hk0 : kd X t0 = (22, N0)) (hk1 : kd X t1 = (22, N1)) (hl0 : ∀ j, X.2.2.2.2.2.2 t0 j = 1) (hl1 : ∀ j, X.2.2.2.2.2.2 t1 j = 1) (hN0 : N0 < 2147483648) (hN1 : N1 < 2147483648) (h1 : 0 ≤ sp) (h2 : 0 ≤ dp) (h3 : 0 ≤ n) (h4 : sp + n ≤ N0) (h5 : dp + n ≤ N1) (hc : vwCl[ci]? = some (C0, T, Nv)) (hci : ci < 20) (hca : Cond.castable C0 "java/lang/Object" ∈ nwL) (hel : ∀ j q, j < N0 → dr (κ t0 j) = some q → kd X q = (ci, Nv)) (hdd : 1 ≤ d) (hrl : st.length ≤ 8) (hn : pc + 3 = n') (kk : G X mt d P V0 bc bs n' L st V (rowset κ t1 (va_cpy (κ t0) (κ t1) sp.toNat dp.toNat n.toNat))) : G X mt d P V0 bc bs pc L (Iv n :: Iv dp :: Rf t1 :: Iv sp :: Rf t0 :: st) V κ := fun p e R s m args below meth c mc ms ρ0 C H locs cells slots ls ρ hh => by
  have hM := hh.2.2.2.1
  obtain ⟨NN, hNN⟩ := hM.2.2.2.2
  have hV1 : V t1 = true := hh.2.2.1.2.2.1
  have hV0 : V t0 = true := hh.2.2.1.2.2.2.2.1
  have hx := C.2.2.2.2.1
  have ha := C.2.2.2.2.2.2.2.2.1
  have g1 := C.2.2.2.2.2.2.2.2.2.1.1
  have g2 := C.2.2.2.2.2.2.2.2.2.1.2.1
  obtain ⟨q0, hq0⟩ := lvl_pos hNN hV0 (kd_lt hk0 (by omega))
  obtain ⟨q1, hq1⟩ := lvl_pos hNN hV1 (kd_lt hk1 (by omega))
  have he0 := wsO_pos (X := X) (ρ := ρ) (κ := κ) hq0
  rw [ent_A hk0] at he0
  have he1 := wsO_pos (X := X) (ρ := ρ) (κ := κ) hq1
  rw [ent_A hk1] at he1
  have r1 : inR sp := ⟨by omega, by omega⟩
  have r2 : inR dp := ⟨by omega, by omega⟩
  have r3 : inR n := ⟨by omega, by omega⟩
  refine va_copyM (D := X.2.1) (tys := tysG X) (E0 := "java/lang/Object") (E1 := "java/lang/Object") C.1 C.2.1 (C.2.2.1.trans hh.1.1.symm) C.2.2.2.1 (hx _ hw.1) (hx _ hw.2.1) (hx _ hw.2.2.1) (hx _ hw.2.2.2) ha.1 (hM.P NN) (hM.D NN) hh.2.2.2.2.1 q0 q1 2 2 he0 he1 rfl rfl (fun z => by have := (ofI_lt r1 inR_0).mp z; omega) (fun z => by have := (ofI_lt r2 inR_0).mp z; omega) (fun z => by have := (ofI_lt r3 inR_0).mp z; omega) (by rw [clampN r1, clampN r3]; omega) (by rw [clampN r2, clampN r3]; omega) (fun i hi y hy => ?_) (by omega) (by have := nfw; rw [cat_sum]; omega) hd (fun H1 locs1 hP1 _ hS1 => ?_)
  · rw [vr_1 (hl0 _)] at hy
    have hy : (dr (κ t0 ((Int32.ofInt sp).toNatClampNeg + i))).map ρ = some y := hy
    cases hq : dr (κ t0 ((Int32.ofInt sp).toNatClampNeg + i)) with
    | none => rw [hq] at hy; cases hy
    | some q =>
      rw [hq] at hy
      have hy : ρ q = y := Option.some.inj hy
      subst hy
      have hVq : V q = true := hM.2.2.2.1 t0 _ q hV0 (by rw [vr_1 (hl0 _), hq])
      have hkq := hel _ q (by rw [clampN r1]; rw [clampN r3] at hi; omega) hq
      obtain ⟨q2, hq2⟩ := lvl_pos hNN hVq (kd_lt hkq (by omega))
      have hev : (wsO X ρ κ (lvl X V NN))[q2]? = some (ρ q, .inr (ci, (List.range Nv).map fun j => cv ρ (vr X q (κ q) j))) := by rw [wsO_pos hq2, ent_O hkq hci]
      exact va_rAny ha.1 (hM.P NN) hev hc (fun comp c0 z1 z2 => vb_asgC (ha.2.1 _ hca) comp c0 z1 z2)
  · have e3 : va_cpy (fun j => rfo ρ (vr X t0 (κ t0) j)) (fun j => rfo ρ (vr X t1 (κ t1) j)) sp.toNat dp.toNat n.toNat = fun j => rfo ρ (vr X t1 (va_cpy (κ t0) (κ t1) sp.toNat dp.toNat n.toNat) j) := by
      funext j
      rw [vr_1 (hl1 j)]
      unfold va_cpy
      split
      · show rfo ρ (vr X t0 (κ t0) (sp.toNat + (j - dp.toNat))) = _
        rw [vr_1 (hl0 _)]
      · show rfo ρ (vr X t1 (κ t1) j) = _
        rw [vr_1 (hl1 _)]
    rw [clampN r1, clampN r2, clampN r3, e3, ← ent_A hk1] at hP1
    rw [hn]
    exact kk p e R s m args below meth c mc ms ρ0 C H1 locs1 cells slots ls ρ (hh.wr hh.2.2.1.2.2.2.2.2 (hM.write C.2.2.2.2.2.2.2.2.2.2 hNN hq1 hh.2.2.2.2.1 hS1 hP1 (cpy_R (hM.2.2.1 t0) (hM.2.2.1 t1)) (fun j q hq => by
      rw [vr_1 (hl1 j)] at hq
      unfold va_cpy at hq
      split at hq
      · exact hM.2.2.2.1 t0 _ q hV0 (by rw [vr_1 (hl0 _)]; exact hq)
      · exact hM.2.2.2.1 t1 _ q hV1 (by rw [vr_1 (hl1 _)]; exact hq))) hS1)
theorem G.wk {bc1 bs1 : Nat} (h1 : bc1 ≤ bc) (h2 : bs1 ≤ bs) (k : G X mt d P V0 bc1 bs1 pc L st V κ) : G X mt d P V0 bc bs pc L st V κ := fun p e R s m args below meth c mc ms ρ0 C H locs cells slots ls ρ hh => k p e R s m args below meth c mc ms ρ0 C H locs cells slots ls ρ ⟨hh.1, hh.2.1, hh.2.2.1, hh.2.2.2.1, hh.2.2.2.2.1, ⟨by have := hh.2.2.2.2.2.1.1; omega, by have := hh.2.2.2.2.2.1.2; omega⟩, hh.2.2.2.2.2.2⟩
end G52
theorem dr_n {x : Int} {t : Nat} (h : x = (t : Int)) (ht : 0 < t) : dr x = some t := by
  subst h
  unfold dr
  rw [if_neg (by omega)]
  exact congrArg some (by omega)
def cpO (κ : Ks) (t0 t1 n : Nat) : Ks := rowset (rowset κ t1 (fun _ => 0)) t1 (va_cpy ((rowset κ t1 (fun _ => 0)) t0) ((rowset κ t1 (fun _ => 0)) t1) 0 0 n)
theorem cpO_o {κ : Ks} {t0 t1 n a : Nat} (h : a ≠ t1) : cpO κ t0 t1 n a = κ a := by
  unfold cpO
  rw [rowset_n _ _ h, rowset_n _ _ h]
theorem cpO_i {κ : Ks} {t0 t1 n : Nat} (h : t0 ≠ t1) (j : Nat) : cpO κ t0 t1 n t1 j = if j < n then κ t0 j else 0 := by
  unfold cpO
  rw [rowset_s, rowset_n _ _ h, rowset_s]
  unfold va_cpy
  simp
/-- the end of an addition to list k that held n things -/
def PA (κ : Ks) (V : Vs) (k : Nat) (n : Int) : Po := fun r V' κ' => r = some (Iv 1) ∧ Lst κ' k (n + 1) ∧ (∀ t, t ≠ 2 + k → t ≠ etg k (n + 1) → κ' t = κ t) ∧ ∀ t, t ≠ etg k (n + 1) → V' t = V t
theorem vset_n {V : Vs} {t a : Nat} (h : a ≠ t) : vset V t a = V a := if_neg h
theorem PA_keep {κ : Ks} {V : Vs} {k : Nat} {n m v : Int} (hk : k < 4) (hL : Lst κ k n) (hn : 0 < n ∧ n < capN n ∧ n ≤ 32) (hm : m = κ (2 + k) 0 + 1) (hv : v = 100 * (k : Int) + 100 + n) : PA κ V k n (some (Iv 1)) V (st2 (st2 (st2 κ (2 + k) 0 m) (1000 + 100 * k + capN n) n.toNat v) (2 + k) 2 (n + 1)) := by
  have ec : capN (n + 1) = capN n := by
    have := hn.2.1
    unfold capN at this ⊢
    revert this
    (repeat' split) <;> omega
  have e1 : etg k (n + 1) = 1000 + 100 * k + capN n := by
    unfold etg
    rw [if_neg (by omega), ec]
  have e0 : etg k n = 1000 + 100 * k + capN n := by
    unfold etg
    rw [if_neg (by omega)]
  refine ⟨rfl, ⟨?_, ?_, ?_, fun j hj _ => ?_⟩, fun t h1 h2 => ?_, fun t _ => rfl⟩
  · rw [rd_ne (by omega), rd_ne (by omega), rd_eq rfl rfl, hm, hL.1]
  · rw [rd_ne (by omega), rd_ne (by omega), rd_ne (by omega), hL.2.1, e0, e1]
  · rw [rd_eq rfl rfl]
  · have q := hL.2.2.2 j hj (by omega)
    rw [e0] at q
    rw [e1, rd_ne (by omega)]
    by_cases ej : j = n.toNat
    · rw [rd_eq rfl ej, if_pos (by omega)]
      omega
    · rw [rd_ne (by omega), rd_ne (by omega), q]
      (repeat' split) <;> omega
  · rw [e1] at h2
    rw [st2_t h1, st2_t h2, st2_t h1]
theorem PA_full {κ : Ks} {V : Vs} {k c0 c1 : Nat} {n m v : Int} (hk : k < 4) (hL : Lst κ k n) (hc : c0 = 10 ∧ c1 = 15 ∨ c0 = 15 ∧ c1 = 22 ∨ c0 = 22 ∧ c1 = 33) (hn : n = ((c0 : Nat) : Int)) (hm : m = κ (2 + k) 0 + 1) (hv : v = 100 * (k : Int) + 100 + n) : PA κ V k n (some (Iv 1)) (vset V (1000 + 100 * k + c1)) (st2 (st2 (st2 (cpO (st2 κ (2 + k) 0 m) (1000 + 100 * k + c0) (1000 + 100 * k + c1) c0) (2 + k) 1 (cd (some (1000 + 100 * k + c1)))) (1000 + 100 * k + c1) c0 v) (2 + k) 2 (((c0 : Nat) : Int) + 1)) := by
  have e1 : etg k (n + 1) = 1000 + 100 * k + c1 := by
    unfold etg capN
    (repeat' split) <;> omega
  have e0 : etg k n = 1000 + 100 * k + c0 := by
    unfold etg capN
    (repeat' split) <;> omega
  refine ⟨rfl, ⟨?_, ?_, ?_, fun j hj _ => ?_⟩, fun t h1 h2 => ?_, fun t h => ?_⟩
  · rw [rd_ne (by omega), rd_ne (by omega), rd_ne (by omega), cpO_o (by omega), rd_eq rfl rfl, hm, hL.1]
  · rw [rd_ne (by omega), rd_ne (by omega), rd_eq rfl rfl, e1]
    rfl
  · rw [rd_eq rfl rfl, hn]
  · have q := hL.2.2.2 j hj (by omega)
    rw [e0] at q
    rw [e1, rd_ne (by omega)]
    by_cases ej : j = c0
    · rw [rd_eq rfl ej, if_pos (by omega)]
      omega
    · rw [rd_ne (by omega), rd_ne (by omega), cpO_i (by omega), rd_ne (by omega), q]
      (repeat' split) <;> omega
  · rw [e1] at h2
    rw [st2_t h1, st2_t h2, st2_t h1, cpO_o h2, st2_t h1]
  · rw [e1] at h
    exact vset_n h
theorem PA_empty {κ : Ks} {V : Vs} {k : Nat} {n m v : Int} (hk : k < 4) (hL : Lst κ k n) (hn : n = 0) (hm : m = κ (2 + k) 0 + 1) (hv : v = 100 * (k : Int) + 100 + n) : PA κ V k n (some (Iv 1)) (vset V (1000 + 100 * k + 10)) (st2 (st2 (st2 (rowset (st2 κ (2 + k) 0 m) (1000 + 100 * k + 10) (fun _ => 0)) (2 + k) 1 (cd (some (1000 + 100 * k + 10)))) (1000 + 100 * k + 10) 0 v) (2 + k) 2 1) := by
  have e1 : etg k (n + 1) = 1000 + 100 * k + 10 := by
    unfold etg capN
    (repeat' split) <;> omega
  refine ⟨rfl, ⟨?_, ?_, ?_, fun j hj _ => ?_⟩, fun t h1 h2 => ?_, fun t h => ?_⟩
  · rw [rd_ne (by omega), rd_ne (by omega), rd_ne (by omega), rowset_n _ _ (by omega), rd_eq rfl rfl, hm, hL.1]
  · rw [rd_ne (by omega), rd_ne (by omega), rd_eq rfl rfl, e1]
    rfl
  · rw [rd_eq rfl rfl, hn]
    rfl
  · rw [e1, rd_ne (by omega)]
    by_cases ej : j = 0
    · rw [rd_eq rfl ej, if_pos (by omega)]
      omega
    · rw [rd_ne (by omega), rd_ne (by omega), rowset_s]
      (repeat' split) <;> omega
  · rw [e1] at h2
    rw [st2_t h1, st2_t h2, st2_t h1, rowset_n _ _ h2, st2_t h1]
  · rw [e1] at h
    exact vset_n h
def iniS (κ : Ks) (t : Nat) (a l w : Int) : Ks := st2 (st2 (st2 (st2 (st2 (st2 κ t 4 0) t 8 0) t 9 5000) t 0 a) t 1 l) t 2 w
def iniH (κ : Ks) (t : Nat) (s c f u b : Int) : Ks := st2 (st2 (st2 (st2 (st2 (st2 κ t 5 (-1)) t 0 s) t 1 c) t 2 f) t 3 u) t 4 b
def ini4 (κ : Ks) (t : Nat) (s c f n : Int) : Ks := st2 (st2 (st2 (st2 κ t 0 s) t 1 c) t 2 f) t 3 n
set_option maxHeartbeats 4000000 in
set_option maxRecDepth 20000 in
theorem c_J8_newLength_cabcc {B : Bs} {n0 : Nat} {V : Vs} {κ : Ks} {a b c : Int} (h : (0 ≤ a ∧ a ≤ 1000) ∧ (0 ≤ b ∧ b ≤ 1000) ∧ (0 ≤ c ∧ c ≤ 1000) ∧ 0 < a + max b c) : Ct (XR B n0) mJ8_newLength_cabcc 2 0 0 [Iv a, Iv b, Iv c] V κ (Ex (some (Iv (a + max b c))) V κ) := by
  refine Ct.of (L := [some (Iv a), some (Iv b), some (Iv c), none]) 1 (by decide +kernel) rfl rfl ?_
  refine g_iload_n 1 dJ8_newLength_cabcc_0 rfl rfl ?_
  refine g_iload_n 2 dJ8_newLength_cabcc_1 rfl rfl ?_
  refine g_iload_n 3 dJ8_newLength_cabcc_2 rfl rfl ?_
  refine e_S 6 0 0 [Iv b, Iv c] [Iv a] dJ8_newLength_cabcc_3 csJ8_194 mwJ9_max_7cf53 (by decide) rfl (Nat.le_of_ble_eq_true rfl) rfl rfl rfl (c_J9_max_7cf53 (by omega) (by omega)) ?_
  refine g_iadd 7 dJ8_newLength_cabcc_6 rfl ?_
  refine g_istore_n (L' := [some (Iv a), some (Iv b), some (Iv c), some (Iv (a + (max b c)))]) 8 dJ8_newLength_cabcc_7 rfl (by decide) rfl ?_
  refine g_iconst 9 dJ8_newLength_cabcc_8 (by decide) rfl ?_
  refine g_iload_n 10 dJ8_newLength_cabcc_9 rfl rfl ?_
  refine g_icmp_ge 21 13 dJ8_newLength_cabcc_10 (by decide) (by first | assumption | omega) (by decide) rfl (fun h1 => ?_) (fun h1 => ?_)
  · exfalso
    omega
  refine g_iload_n 14 dJ8_newLength_cabcc_13 rfl rfl ?_
  refine g_ldc (n := 2147483639) 16 dJ8_newLength_cabcc_14 kcJ8_200 (by decide) rfl ?_
  refine g_icmp_gt 21 19 dJ8_newLength_cabcc_16 (by first | assumption | omega) (by decide) (by decide) rfl (fun h2 => ?_) (fun h2 => ?_)
  · exfalso
    omega
  refine g_iload_n 20 dJ8_newLength_cabcc_19 rfl rfl ?_
  refine g_iret dJ8_newLength_cabcc_20 rfl ?_
  exact ⟨rfl, rfl, rfl⟩
set_option maxHeartbeats 4000000 in
set_option maxRecDepth 20000 in
theorem c_cpc_0 {B : Bs} {n0 : Nat} {V : Vs} {κ : Ks} {c0 c1 : Nat} (hc : c0 = 10 ∧ c1 = 15 ∨ c0 = 15 ∧ c1 = 22 ∨ c0 = 22 ∧ c1 = 33) (hV34 : V 34 = true) (hf : V (1000 + 100 * 0 + c1) = false) (hel : ∀ j q, j < c0 → dr (κ (1000 + 100 * 0 + c0) j) = some q → kd (XR B n0) q = (6, 11)) : Ct (XR B n0) mJ7_copyOf_6403c 2 1 (0 + c1) [Rf (1000 + 100 * 0 + c0), Iv ((c1 : Nat) : Int), Rf 34] V κ (Ex (some (Rf (1000 + 100 * 0 + c1))) (vset V (1000 + 100 * 0 + c1)) (cpO κ (1000 + 100 * 0 + c0) (1000 + 100 * 0 + c1) c0)) := by
  refine Ct.of (L := [some (Rf (1000 + 100 * 0 + c0)), some (Iv ((c1 : Nat) : Int)), some (Rf 34), none]) 1 (by decide +kernel) rfl rfl ?_
  refine g_aload_n 1 dJ7_copyOf_6403c_0 rfl rfl ?_
  refine g_ldcM 3 34 dJ7_copyOf_6403c_1 clJ7_110 kd_34 hV34 rfl ?_
  refine g_acmpE_ne 6 dJ7_copyOf_6403c_3 (tg := 13) (by decide) rfl ?_
  refine g_iload_n 7 dJ7_copyOf_6403c_6 rfl rfl ?_
  refine g_newA 10 (1000 + 100 * 0 + c1) dJ7_copyOf_6403c_7 clJ7_2 (Or.inl ⟨rfl, rfl, rfl⟩) (kd_E (by omega)) (by omega) (ly_E (by omega)) hf rfl ?_
  refine g_goto 24 dJ7_copyOf_6403c_10 (by decide) ?_
  refine g_astore_n (L' := [some (Rf (1000 + 100 * 0 + c0)), some (Iv ((c1 : Nat) : Int)), some (Rf 34), some (Rf (1000 + 100 * 0 + c1))]) 25 dJ7_copyOf_6403c_24 rfl (by decide) rfl ?_
  refine g_aload_n 26 dJ7_copyOf_6403c_25 rfl rfl ?_
  refine g_iconst 27 dJ7_copyOf_6403c_26 (by decide) rfl ?_
  refine g_aload_n 28 dJ7_copyOf_6403c_27 rfl rfl ?_
  refine g_iconst 29 dJ7_copyOf_6403c_28 (by decide) rfl ?_
  refine g_aload_n 30 dJ7_copyOf_6403c_29 rfl rfl ?_
  refine g_alen 31 dJ7_copyOf_6403c_30 (kd_E (by omega)) (Or.inr rfl) rfl ?_
  refine g_iload_n 32 dJ7_copyOf_6403c_31 rfl rfl ?_
  refine e_S 35 0 0 [Iv ((c0 : Nat) : Int), Iv ((c1 : Nat) : Int)] [Iv 0, Rf (1000 + 100 * 0 + c1), Iv 0, Rf (1000 + 100 * 0 + c0)] dJ7_copyOf_6403c_32 csJ7_304 mwJ9_min_7cf53 (by decide) rfl (Nat.le_of_ble_eq_true rfl) rfl rfl rfl (c_J9_min_7cf53 (by omega) (by omega)) ?_
  refine G.eqi (show min ((c0 : Nat) : Int) ((c1 : Nat) : Int) = ((c0 : Nat) : Int) by omega) ?_
  refine g_copyAb 38 dJ7_copyOf_6403c_35 acJ7_150 (kd_E (by omega)) (kd_E (by omega)) (ly_E (by omega)) (ly_E (by omega)) (by omega) (by omega) (by decide) (by decide) (by omega) (by omega) (by omega) (ci := 6) rfl (by decide) caX5 (fun j q hj hq => hel j q hj (by rw [rowset_n _ _ (by omega)] at hq; exact hq)) (by decide) (Nat.le_of_ble_eq_true rfl) rfl ?_
  refine g_aload_n 39 dJ7_copyOf_6403c_38 rfl rfl ?_
  refine g_aret dJ7_copyOf_6403c_39 rfl (by first | exact Or.inl ⟨_, rfl⟩ | exact Or.inr ⟨_, rfl⟩) ?_
  exact ⟨rfl, rfl, rfl⟩
set_option maxHeartbeats 4000000 in
set_option maxRecDepth 20000 in
theorem c_cpb_0 {B : Bs} {n0 : Nat} {V : Vs} {κ : Ks} {c0 c1 : Nat} (hc : c0 = 10 ∧ c1 = 15 ∨ c0 = 15 ∧ c1 = 22 ∨ c0 = 22 ∧ c1 = 33) (hV34 : V 34 = true) (hf : V (1000 + 100 * 0 + c1) = false) (hel : ∀ j q, j < c0 → dr (κ (1000 + 100 * 0 + c0) j) = some q → kd (XR B n0) q = (6, 11)) : Ct (XR B n0) mJ7_copyOf_1904c 3 1 (0 + c1) [Rf (1000 + 100 * 0 + c0), Iv ((c1 : Nat) : Int)] V κ (Ex (some (Rf (1000 + 100 * 0 + c1))) (vset V (1000 + 100 * 0 + c1)) (cpO κ (1000 + 100 * 0 + c0) (1000 + 100 * 0 + c1) c0)) := by
  refine Ct.of (L := [some (Rf (1000 + 100 * 0 + c0)), some (Iv ((c1 : Nat) : Int))]) 0 (by decide +kernel) rfl rfl ?_
  refine g_aload_n 1 dJ7_copyOf_1904c_0 rfl rfl ?_
  refine g_iload_n 2 dJ7_copyOf_1904c_1 rfl rfl ?_
  refine g_aload_n 3 dJ7_copyOf_1904c_2 rfl rfl ?_
  refine g_getC0 6 34 dJ7_copyOf_1904c_3 gcL gcD gcS gcI gcV (kd_E (by omega)) kd_34 hV34 (by decide) (Nat.le_of_ble_eq_true rfl) rfl ?_
  refine e_S 9 0 0 [Rf (1000 + 100 * 0 + c0), Iv ((c1 : Nat) : Int), Rf 34] [] dJ7_copyOf_1904c_6 csJ7_300 mwJ7_copyOf_6403c (by decide) rfl (Nat.le_of_ble_eq_true rfl) rfl rfl rfl (c_cpc_0 hc hV34 hf hel) ?_
  refine g_aret dJ7_copyOf_1904c_9 rfl (by first | exact Or.inl ⟨_, rfl⟩ | exact Or.inr ⟨_, rfl⟩) ?_
  exact ⟨rfl, rfl, rfl⟩
set_option maxHeartbeats 4000000 in
set_option maxRecDepth 20000 in
theorem c_gra_0 {B : Bs} {n0 : Nat} {V : Vs} {κ : Ks} {c0 c1 : Nat} {mc : Int} (hc : c0 = 10 ∧ c1 = 15 ∨ c0 = 15 ∧ c1 = 22 ∨ c0 = 22 ∧ c1 = 33) (h_m : mc = ((c0 : Nat) : Int) + 1) (hV34 : V 34 = true) (hf : V (1000 + 100 * 0 + c1) = false) (hel : ∀ j q, j < c0 → dr (κ (1000 + 100 * 0 + c0) j) = some q → kd (XR B n0) q = (6, 11)) (he : κ 2 1 = ((1000 + 100 * 0 + c0 : Nat) : Int)) : Ct (XR B n0) mJx4a65c_grow_92f84 4 1 (0 + c1) [Rf 2, Iv mc] V κ (Ex (some (Rf (1000 + 100 * 0 + c1))) (vset V (1000 + 100 * 0 + c1)) (st2 (cpO κ (1000 + 100 * 0 + c0) (1000 + 100 * 0 + c1) c0) 2 1 (cd (some (1000 + 100 * 0 + c1))))) := by
  refine Ct.of (L := [some (Rf 2), some (Iv mc), none, none]) 2 (by decide +kernel) rfl rfl ?_
  refine g_aload_n 1 dJx4a65c_grow_92f84_0 rfl rfl ?_
  refine r_getD 4 (dr (κ 2 1)) dJx4a65c_grow_92f84_1 fgJx4a65c_9 kd_2 ly_2_1 rfl (congrArg dr (rfl)) ?_
  rw [show dr (κ 2 1) = some (1000 + 100 * 0 + c0) from dr_n he (by omega)]
  refine g_alen 5 dJx4a65c_grow_92f84_4 (kd_E (by omega)) (Or.inr rfl) rfl ?_
  refine g_istore_n (L' := [some (Rf 2), some (Iv mc), some (Iv ((c0 : Nat) : Int)), none]) 6 dJx4a65c_grow_92f84_5 rfl (by decide) rfl ?_
  refine g_iload_n 7 dJx4a65c_grow_92f84_6 rfl rfl ?_
  refine g_if_gt 20 10 dJx4a65c_grow_92f84_7 (by first | assumption | omega) (by decide) rfl (fun h1 => ?_) (fun h1 => ?_)
  · refine g_iload_n 21 dJx4a65c_grow_92f84_20 rfl rfl ?_
    refine g_iload_n 22 dJx4a65c_grow_92f84_21 rfl rfl ?_
    refine g_iload_n 23 dJx4a65c_grow_92f84_22 rfl rfl ?_
    refine g_isub 24 dJx4a65c_grow_92f84_23 rfl ?_
    refine g_iload_n 25 dJx4a65c_grow_92f84_24 rfl rfl ?_
    refine g_iconst 26 dJx4a65c_grow_92f84_25 (by decide) rfl ?_
    refine g_ishr 27 dJx4a65c_grow_92f84_26 rfl ?_
    refine G.eqi (show (bShr ((c0 : Nat) : Int) 1) = ((c0 : Nat) : Int) / 2 from by rw [show (1 : Int) = ((1 : Nat) : Int) from rfl, bShr_v (x := c0) (by omega) (by omega)]; norm_cast) ?_
    refine e_S 30 1 (0 + c1) [Iv ((c0 : Nat) : Int), Iv (mc - ((c0 : Nat) : Int)), Iv (((c0 : Nat) : Int) / 2)] [] dJx4a65c_grow_92f84_27 csJx4a65c_73 mwJ8_newLength_cabcc (by decide) rfl (Nat.le_of_ble_eq_true rfl) rfl (by omega) rfl (c_J8_newLength_cabcc (by omega)) ?_
    refine G.eqi (show (((c0 : Nat) : Int) + max (mc - ((c0 : Nat) : Int)) (((c0 : Nat) : Int) / 2)) = ((c1 : Nat) : Int) from by omega) ?_
    refine g_istore_n (L' := [some (Rf 2), some (Iv mc), some (Iv ((c0 : Nat) : Int)), some (Iv ((c1 : Nat) : Int))]) 31 dJx4a65c_grow_92f84_30 rfl (by decide) rfl ?_
    refine g_aload_n 32 dJx4a65c_grow_92f84_31 rfl rfl ?_
    refine g_aload_n 33 dJx4a65c_grow_92f84_32 rfl rfl ?_
    refine r_getD 36 (dr (κ 2 1)) dJx4a65c_grow_92f84_33 fgJx4a65c_9 kd_2 ly_2_1 rfl (congrArg dr (rfl)) ?_
    rw [show dr (κ 2 1) = some (1000 + 100 * 0 + c0) from dr_n he (by omega)]
    refine g_iload_n 37 dJx4a65c_grow_92f84_36 rfl rfl ?_
    refine e_S 40 0 0 [Rf (1000 + 100 * 0 + c0), Iv ((c1 : Nat) : Int)] [Rf 2] dJx4a65c_grow_92f84_37 csJx4a65c_66 mwJ7_copyOf_1904c (by decide) rfl (Nat.le_of_ble_eq_true rfl) rfl rfl rfl (c_cpb_0 hc hV34 hf hel) ?_
    refine g_dup_x1 41 dJx4a65c_grow_92f84_40 rfl ?_
    refine g_putR 44 dJx4a65c_grow_92f84_41 fpJx4a65c_9 (Or.inr ⟨_, rfl⟩) (fun h => (nomatch h)) kd_2 ly_2_1 (fun q hq => by cases hq; omega) rfl ?_
    refine g_aret dJx4a65c_grow_92f84_44 rfl (by first | exact Or.inl ⟨_, rfl⟩ | exact Or.inr ⟨_, rfl⟩) ?_
    exact ⟨rfl, rfl, rfl⟩
  exfalso
  omega
set_option maxHeartbeats 4000000 in
set_option maxRecDepth 20000 in
theorem c_grz_0 {B : Bs} {n0 : Nat} {V : Vs} {κ : Ks}  (hV32 : V 32 = true) (hf : V 1010 = false) (he : κ 2 1 = ((32 : Nat) : Int)) : Ct (XR B n0) mJx4a65c_grow_92f84 4 1 10 [Rf 2, Iv 1] V κ (Ex (some (Rf 1010)) (vset V 1010) (st2 (rowset κ 1010 (fun _ => 0)) 2 1 (cd (some (1010))))) := by
  refine Ct.of (L := [some (Rf 2), some (Iv 1), none, none]) 2 (by decide +kernel) rfl rfl ?_
  refine g_aload_n 1 dJx4a65c_grow_92f84_0 rfl rfl ?_
  refine r_getD 4 (dr (κ 2 1)) dJx4a65c_grow_92f84_1 fgJx4a65c_9 kd_2 ly_2_1 rfl (congrArg dr (rfl)) ?_
  rw [show dr (κ 2 1) = some 32 from dr_n he (by omega)]
  refine g_alen31 5 dJx4a65c_grow_92f84_4 kd_32 rfl ?_
  refine g_istore_n (L' := [some (Rf 2), some (Iv 1), some (Iv 0), none]) 6 dJx4a65c_grow_92f84_5 rfl (by decide) rfl ?_
  refine g_iload_n 7 dJx4a65c_grow_92f84_6 rfl rfl ?_
  refine g_if_gt 20 10 dJx4a65c_grow_92f84_7 (by decide) (by decide) rfl (fun z => absurd z (by decide)) (fun _ => ?_)
  refine g_aload_n 11 dJx4a65c_grow_92f84_10 rfl rfl ?_
  refine r_getD 14 (dr (κ 2 1)) dJx4a65c_grow_92f84_11 fgJx4a65c_9 kd_2 ly_2_1 rfl (congrArg dr (rfl)) ?_
  rw [show dr (κ 2 1) = some 32 from dr_n he (by omega)]
  refine g_gets 17 (t := 32) dJx4a65c_grow_92f84_14 (fun s h => h.2.2.2.2.2) rfl gsJx4a65c_39 (by first | assumption | rfl) (by rw [kd_32]; decide) rfl ?_
  refine g_acmpE_eq 45 dJx4a65c_grow_92f84_17 (by decide) ?_
  refine g_aload_n 46 dJx4a65c_grow_92f84_45 rfl rfl ?_
  refine g_bipush 48 dJx4a65c_grow_92f84_46 (by decide) rfl ?_
  refine g_iload_n 49 dJx4a65c_grow_92f84_48 rfl rfl ?_
  refine e_S 52 1 10 [Iv 10, Iv 1] [Rf 2] dJx4a65c_grow_92f84_49 csJx4a65c_79 mwJ9_max_7cf53 (by decide) rfl (Nat.le_of_ble_eq_true rfl) rfl rfl rfl (c_J9_max_7cf53 (by omega) (by omega)) ?_
  refine G.eqi (show max 10 1 = ((10 : Nat) : Int) by decide) ?_
  refine g_newA 55 1010 dJx4a65c_grow_92f84_52 clJx4a65c_7 (Or.inl ⟨rfl, rfl, rfl⟩) (kd_E (k := 0) (c := 10) (by omega)) (by omega) (ly_E (by omega)) hf rfl ?_
  refine g_dup_x1 56 dJx4a65c_grow_92f84_55 rfl ?_
  refine g_putR 59 dJx4a65c_grow_92f84_56 fpJx4a65c_9 (Or.inr ⟨_, rfl⟩) (fun h => (nomatch h)) kd_2 ly_2_1 (fun q hq => by cases hq; omega) rfl ?_
  refine g_aret dJx4a65c_grow_92f84_59 rfl (by first | exact Or.inl ⟨_, rfl⟩ | exact Or.inr ⟨_, rfl⟩) ?_
  exact ⟨rfl, rfl, rfl⟩
set_option maxHeartbeats 4000000 in
set_option maxRecDepth 20000 in
theorem c_gwa_0 {B : Bs} {n0 : Nat} {V : Vs} {κ : Ks} {c0 c1 : Nat} (hc : c0 = 10 ∧ c1 = 15 ∨ c0 = 15 ∧ c1 = 22 ∨ c0 = 22 ∧ c1 = 33) (h_n : κ 2 2 = ((c0 : Nat) : Int)) (hV34 : V 34 = true) (hf : V (1000 + 100 * 0 + c1) = false) (hel : ∀ j q, j < c0 → dr (κ (1000 + 100 * 0 + c0) j) = some q → kd (XR B n0) q = (6, 11)) (he : κ 2 1 = ((1000 + 100 * 0 + c0 : Nat) : Int)) : Ct (XR B n0) mJx4a65c_grow_d5877 5 1 (0 + c1) [Rf 2] V κ (Ex (some (Rf (1000 + 100 * 0 + c1))) (vset V (1000 + 100 * 0 + c1)) (st2 (cpO κ (1000 + 100 * 0 + c0) (1000 + 100 * 0 + c1) c0) 2 1 (cd (some (1000 + 100 * 0 + c1))))) := by
  refine Ct.of (L := [some (Rf 2)]) 0 (by decide +kernel) rfl rfl ?_
  refine g_aload_n 1 dJx4a65c_grow_d5877_0 rfl rfl ?_
  refine g_aload_n 2 dJx4a65c_grow_d5877_1 rfl rfl ?_
  refine r_getI 5 (κ 2 2) dJx4a65c_grow_d5877_2 fgJx4a65c_48 kd_2 ly_2_2 rfl (rfl) (fun r1 => ?_)
  refine g_iconst 6 dJx4a65c_grow_d5877_5 (by decide) rfl ?_
  refine g_iadd 7 dJx4a65c_grow_d5877_6 rfl ?_
  refine e_V 10 0 0 [Iv ((κ 2 2) + 1)] [] dJx4a65c_grow_d5877_7 cvJx4a65c_69 mwJx4a65c_grow_92f84 kd_2 (by decide) rfl (Nat.le_of_ble_eq_true rfl) rfl rfl rfl (c_gra_0 hc (by omega) hV34 hf hel he) ?_
  refine g_aret dJx4a65c_grow_d5877_10 rfl (by first | exact Or.inl ⟨_, rfl⟩ | exact Or.inr ⟨_, rfl⟩) ?_
  exact ⟨rfl, rfl, rfl⟩
set_option maxHeartbeats 4000000 in
set_option maxRecDepth 20000 in
theorem c_gwz_0 {B : Bs} {n0 : Nat} {V : Vs} {κ : Ks}  (h_n : κ 2 2 = 0) (hV32 : V 32 = true) (hf : V 1010 = false) (he : κ 2 1 = ((32 : Nat) : Int)) : Ct (XR B n0) mJx4a65c_grow_d5877 5 1 10 [Rf 2] V κ (Ex (some (Rf 1010)) (vset V 1010) (st2 (rowset κ 1010 (fun _ => 0)) 2 1 (cd (some (1010))))) := by
  refine Ct.of (L := [some (Rf 2)]) 0 (by decide +kernel) rfl rfl ?_
  refine g_aload_n 1 dJx4a65c_grow_d5877_0 rfl rfl ?_
  refine g_aload_n 2 dJx4a65c_grow_d5877_1 rfl rfl ?_
  refine r_getI 5 (κ 2 2) dJx4a65c_grow_d5877_2 fgJx4a65c_48 kd_2 ly_2_2 rfl (rfl) (fun r1 => ?_)
  refine g_iconst 6 dJx4a65c_grow_d5877_5 (by decide) rfl ?_
  refine g_iadd 7 dJx4a65c_grow_d5877_6 rfl ?_
  refine G.eqi (show ((κ 2 2) + 1) = 1 from by omega) ?_
  refine e_V 10 0 0 [Iv 1] [] dJx4a65c_grow_d5877_7 cvJx4a65c_69 mwJx4a65c_grow_92f84 kd_2 (by decide) rfl (Nat.le_of_ble_eq_true rfl) rfl rfl rfl (c_grz_0 hV32 hf he) ?_
  refine g_aret dJx4a65c_grow_d5877_10 rfl (by first | exact Or.inl ⟨_, rfl⟩ | exact Or.inr ⟨_, rfl⟩) ?_
  exact ⟨rfl, rfl, rfl⟩
set_option maxHeartbeats 4000000 in
set_option maxRecDepth 20000 in
theorem c_adk_0 {B : Bs} {n0 : Nat} {V : Vs} {κ : Ks} {c0 v : Nat} {n : Int} (h_v : v < 100) (h_n : 0 ≤ n ∧ n < ((c0 : Nat) : Int) ∧ c0 < 100) : Ct (XR B n0) mJx4a65c_add_72be8 6 0 0 [Rf 2, Rf (100 + v), Rf (1000 + 100 * 0 + c0), Iv n] V κ (Ex none V (st2 (st2 κ (1000 + 100 * 0 + c0) n.toNat ((100 + v : Nat) : Int)) 2 2 (n + 1))) := by
  refine Ct.of (L := [some (Rf 2), some (Rf (100 + v)), some (Rf (1000 + 100 * 0 + c0)), some (Iv n)]) 0 (by decide +kernel) rfl rfl ?_
  refine g_iload_n 1 dJx4a65c_add_72be8_0 rfl rfl ?_
  refine g_aload_n 2 dJx4a65c_add_72be8_1 rfl rfl ?_
  refine g_alen 3 dJx4a65c_add_72be8_2 (kd_E (by omega)) (Or.inr rfl) rfl ?_
  refine g_icmp_ne 11 6 dJx4a65c_add_72be8_3 (by first | assumption | omega) (by first | assumption | omega) (by decide) rfl (fun h1 => ?_) (fun h1 => ?_)
  · refine g_aload_n 12 dJx4a65c_add_72be8_11 rfl rfl ?_
    refine g_iload_n 13 dJx4a65c_add_72be8_12 rfl rfl ?_
    refine g_aload_n 14 dJx4a65c_add_72be8_13 rfl rfl ?_
    refine g_aast 15 dJx4a65c_add_72be8_14 (ci := 6) rfl (by decide) (Or.inl ⟨rfl, caX5⟩) (kd_E (by omega)) (kd_S (by omega)) (by omega) (by omega) (ly_E (by omega)) (by omega) rfl ?_
    refine g_aload_n 16 dJx4a65c_add_72be8_15 rfl rfl ?_
    refine g_iload_n 17 dJx4a65c_add_72be8_16 rfl rfl ?_
    refine g_iconst 18 dJx4a65c_add_72be8_17 (by decide) rfl ?_
    refine g_iadd 19 dJx4a65c_add_72be8_18 rfl ?_
    refine g_putI 22 dJx4a65c_add_72be8_19 fpJx4a65c_48 (fun h => (nomatch h)) kd_2 ly_2_2 (by omega) rfl ?_
    refine g_vret dJx4a65c_add_72be8_22 rfl ?_
    exact ⟨rfl, rfl, rfl⟩
  exfalso
  omega
set_option maxHeartbeats 4000000 in
set_option maxRecDepth 20000 in
theorem c_ada_0 {B : Bs} {n0 : Nat} {V : Vs} {κ : Ks} {c0 c1 v : Nat} (h_v : v < 100) (hc : c0 = 10 ∧ c1 = 15 ∨ c0 = 15 ∧ c1 = 22 ∨ c0 = 22 ∧ c1 = 33) (h_n : κ 2 2 = ((c0 : Nat) : Int)) (hV34 : V 34 = true) (hf : V (1000 + 100 * 0 + c1) = false) (hel : ∀ j q, j < c0 → dr (κ (1000 + 100 * 0 + c0) j) = some q → kd (XR B n0) q = (6, 11)) (he : κ 2 1 = ((1000 + 100 * 0 + c0 : Nat) : Int)) : Ct (XR B n0) mJx4a65c_add_72be8 6 1 (0 + c1) [Rf 2, Rf (100 + v), Rf (1000 + 100 * 0 + c0), Iv ((c0 : Nat) : Int)] V κ (Ex none (vset V (1000 + 100 * 0 + c1)) (st2 (st2 (st2 (cpO κ (1000 + 100 * 0 + c0) (1000 + 100 * 0 + c1) c0) 2 1 (cd (some (1000 + 100 * 0 + c1)))) (1000 + 100 * 0 + c1) c0 ((100 + v : Nat) : Int)) 2 2 (((c0 : Nat) : Int) + 1))) := by
  refine Ct.of (L := [some (Rf 2), some (Rf (100 + v)), some (Rf (1000 + 100 * 0 + c0)), some (Iv ((c0 : Nat) : Int))]) 0 (by decide +kernel) rfl rfl ?_
  refine g_iload_n 1 dJx4a65c_add_72be8_0 rfl rfl ?_
  refine g_aload_n 2 dJx4a65c_add_72be8_1 rfl rfl ?_
  refine g_alen 3 dJx4a65c_add_72be8_2 (kd_E (by omega)) (Or.inr rfl) rfl ?_
  refine g_icmp_ne 11 6 dJx4a65c_add_72be8_3 (by first | assumption | omega) (by first | assumption | omega) (by decide) rfl (fun h1 => ?_) (fun h1 => ?_)
  · exfalso
    omega
  refine g_aload_n 7 dJx4a65c_add_72be8_6 rfl rfl ?_
  refine e_V 10 0 0 [] [] dJx4a65c_add_72be8_7 cvJx4a65c_129 mwJx4a65c_grow_d5877 kd_2 (by decide) rfl (Nat.le_of_ble_eq_true rfl) rfl rfl rfl (c_gwa_0 hc h_n hV34 hf hel he) ?_
  refine g_astore_n (L' := [some (Rf 2), some (Rf (100 + v)), some (Rf (1000 + 100 * 0 + c1)), some (Iv ((c0 : Nat) : Int))]) 11 dJx4a65c_add_72be8_10 rfl (by decide) rfl ?_
  refine g_aload_n 12 dJx4a65c_add_72be8_11 rfl rfl ?_
  refine g_iload_n 13 dJx4a65c_add_72be8_12 rfl rfl ?_
  refine g_aload_n 14 dJx4a65c_add_72be8_13 rfl rfl ?_
  refine g_aast 15 dJx4a65c_add_72be8_14 (ci := 6) rfl (by decide) (Or.inl ⟨rfl, caX5⟩) (kd_E (by omega)) (kd_S (by omega)) (by omega) (by omega) (ly_E (by omega)) (by omega) rfl ?_
  refine g_aload_n 16 dJx4a65c_add_72be8_15 rfl rfl ?_
  refine g_iload_n 17 dJx4a65c_add_72be8_16 rfl rfl ?_
  refine g_iconst 18 dJx4a65c_add_72be8_17 (by decide) rfl ?_
  refine g_iadd 19 dJx4a65c_add_72be8_18 rfl ?_
  refine g_putI 22 dJx4a65c_add_72be8_19 fpJx4a65c_48 (fun h => (nomatch h)) kd_2 ly_2_2 (by omega) rfl ?_
  refine g_vret dJx4a65c_add_72be8_22 rfl ?_
  exact ⟨rfl, rfl, rfl⟩
set_option maxHeartbeats 4000000 in
set_option maxRecDepth 20000 in
theorem c_adz_0 {B : Bs} {n0 : Nat} {V : Vs} {κ : Ks} {v : Nat} (h_v : v < 100) (h_n : κ 2 2 = 0) (hV32 : V 32 = true) (hf : V 1010 = false) (he : κ 2 1 = ((32 : Nat) : Int)) : Ct (XR B n0) mJx4a65c_add_72be8 6 1 10 [Rf 2, Rf (100 + v), Rf 32, Iv 0] V κ (Ex none (vset V 1010) (st2 (st2 (st2 (rowset κ 1010 (fun _ => 0)) 2 1 (cd (some (1010)))) 1010 0 ((100 + v : Nat) : Int)) 2 2 1)) := by
  refine Ct.of (L := [some (Rf 2), some (Rf (100 + v)), some (Rf 32), some (Iv 0)]) 0 (by decide +kernel) rfl rfl ?_
  refine g_iload_n 1 dJx4a65c_add_72be8_0 rfl rfl ?_
  refine g_aload_n 2 dJx4a65c_add_72be8_1 rfl rfl ?_
  refine g_alen31 3 dJx4a65c_add_72be8_2 kd_32 rfl ?_
  refine g_icmp_ne 11 6 dJx4a65c_add_72be8_3 (by decide) (by decide) (by decide) rfl (fun z => absurd z (by decide)) (fun _ => ?_)
  refine g_aload_n 7 dJx4a65c_add_72be8_6 rfl rfl ?_
  refine e_V 10 0 0 [] [] dJx4a65c_add_72be8_7 cvJx4a65c_129 mwJx4a65c_grow_d5877 kd_2 (by decide) rfl (Nat.le_of_ble_eq_true rfl) rfl rfl rfl (c_gwz_0 h_n hV32 hf he) ?_
  refine g_astore_n (L' := [some (Rf 2), some (Rf (100 + v)), some (Rf 1010), some (Iv 0)]) 11 dJx4a65c_add_72be8_10 rfl (by decide) rfl ?_
  refine g_aload_n 12 dJx4a65c_add_72be8_11 rfl rfl ?_
  refine g_iload_n 13 dJx4a65c_add_72be8_12 rfl rfl ?_
  refine g_aload_n 14 dJx4a65c_add_72be8_13 rfl rfl ?_
  refine g_aast 15 dJx4a65c_add_72be8_14 (ci := 6) rfl (by decide) (Or.inl ⟨rfl, caX5⟩) (kd_E (k := 0) (c := 10) (by omega)) (kd_S (by omega)) (by omega) (by omega) (ly_E (by omega)) (by omega) rfl ?_
  refine g_aload_n 16 dJx4a65c_add_72be8_15 rfl rfl ?_
  refine g_iload_n 17 dJx4a65c_add_72be8_16 rfl rfl ?_
  refine g_iconst 18 dJx4a65c_add_72be8_17 (by decide) rfl ?_
  refine g_iadd 19 dJx4a65c_add_72be8_18 rfl ?_
  refine g_putI 22 dJx4a65c_add_72be8_19 fpJx4a65c_48 (fun h => (nomatch h)) kd_2 ly_2_2 (by omega) rfl ?_
  refine g_vret dJx4a65c_add_72be8_22 rfl ?_
  exact ⟨rfl, rfl, rfl⟩
set_option maxHeartbeats 4000000 in
set_option maxRecDepth 20000 in
theorem c_add1_0 {B : Bs} {n0 : Nat} {V : Vs} {κ : Ks} {n : Int} (hL : Lst κ 0 n) (h_n : 0 < n ∧ n < capN n ∧ n ≤ 32) : Ct (XR B n0) mJx4a65c_add_9ea2d 7 1 33 [Rf 2, Rf (100 + n.toNat)] V κ (PA κ V 0 n) := by
  refine Ct.of (L := [some (Rf 2), some (Rf (100 + n.toNat))]) 0 (by decide +kernel) rfl rfl ?_
  refine G.wk (bc1 := 0) (bs1 := 0) (by omega) (by omega) ?_
  refine g_aload_n 1 dJx4a65c_add_9ea2d_0 rfl rfl ?_
  refine g_dup 2 dJx4a65c_add_9ea2d_1 rfl ?_
  refine r_getI 5 (κ 2 0) dJx4a65c_add_9ea2d_2 fgJx4a65c_63 kd_2 ly_2_0 rfl (rfl) (fun r1 => ?_)
  have e0 : κ 2 0 = n := hL.1
  refine g_iconst 6 dJx4a65c_add_9ea2d_5 (by decide) rfl ?_
  refine g_iadd 7 dJx4a65c_add_9ea2d_6 rfl ?_
  refine g_putI 10 dJx4a65c_add_9ea2d_7 fpJx4a65c_63 (fun h => (nomatch h)) kd_2 ly_2_0 (by omega) rfl ?_
  refine g_aload_n 11 dJx4a65c_add_9ea2d_10 rfl rfl ?_
  refine g_aload_n 12 dJx4a65c_add_9ea2d_11 rfl rfl ?_
  refine g_aload_n 13 dJx4a65c_add_9ea2d_12 rfl rfl ?_
  refine r_getD 16 (dr (κ 2 1)) dJx4a65c_add_9ea2d_13 fgJx4a65c_9 kd_2 ly_2_1 rfl (congrArg dr (rd_j (by decide) (rfl))) ?_
  rw [show dr (κ 2 1) = some (1000 + 100 * 0 + capN n) from dr_n (hL.2.1.trans (by unfold etg; rw [if_neg (by omega)])) (by omega)]
  refine g_aload_n 17 dJx4a65c_add_9ea2d_16 rfl rfl ?_
  refine r_getI 20 (κ 2 2) dJx4a65c_add_9ea2d_17 fgJx4a65c_48 kd_2 ly_2_2 rfl (rd_j (by decide) (rfl)) (fun r2 => ?_)
  refine G.eqi (show (κ 2 2) = n from hL.2.2.1) ?_
  refine v_V 23 0 0 [Rf (100 + n.toNat), Rf (1000 + 100 * 0 + capN n), Iv n] [] dJx4a65c_add_9ea2d_20 cvJx4a65c_131 mwJx4a65c_add_72be8 kd_2 (by decide) rfl (Nat.le_of_ble_eq_true rfl) rfl rfl rfl (c_adk_0 (c0 := capN n) (v := n.toNat) (by omega) (by have := capN_lt n; omega)) ?_
  refine g_iconst 24 dJx4a65c_add_9ea2d_23 (by decide) rfl ?_
  refine g_zret dJx4a65c_add_9ea2d_24 rfl (by omega) ?_
  exact PA_keep (k := 0) (by decide) hL h_n rfl (by omega)
set_option maxHeartbeats 4000000 in
set_option maxRecDepth 20000 in
theorem c_add2_0 {B : Bs} {n0 : Nat} {V : Vs} {κ : Ks} {c0 c1 : Nat} {n : Int} (hL : Lst κ 0 n) (hc : c0 = 10 ∧ c1 = 15 ∨ c0 = 15 ∧ c1 = 22 ∨ c0 = 22 ∧ c1 = 33) (h_n : n = ((c0 : Nat) : Int)) (hV34 : V 34 = true) (hf : V (1000 + 100 * 0 + c1) = false) : Ct (XR B n0) mJx4a65c_add_9ea2d 7 1 33 [Rf 2, Rf (100 + n.toNat)] V κ (PA κ V 0 n) := by
  have e0 : κ 2 0 = n := hL.1
  have e2 : κ 2 2 = n := hL.2.2.1
  have h_n2 : κ 2 2 = ((c0 : Nat) : Int) := by omega
  have ecn : capN n = c0 := by unfold capN; (repeat' split) <;> omega
  have eet : etg 0 n = 1000 + 100 * 0 + c0 := by unfold etg; rw [if_neg (by omega), ecn]
  have he : κ 2 1 = ((1000 + 100 * 0 + c0 : Nat) : Int) := by rw [← eet]; exact hL.2.1
  have hel : ∀ j q, j < c0 → dr ((st2 κ 2 0 (κ 2 0 + 1)) (1000 + 100 * 0 + c0) j) = some q → kd (XR B n0) q = (6, 11) := fun j q hj hq => by
    rw [st2_t (by omega)] at hq
    have := hL.2.2.2 j (by omega) (by omega)
    rw [eet, if_pos (by omega)] at this
    rw [dr_n (t := 100 + j) (by omega) (by omega)] at hq
    cases hq
    exact kd_S (by omega)
  refine Ct.of (L := [some (Rf 2), some (Rf (100 + n.toNat))]) 0 (by decide +kernel) rfl rfl ?_
  refine G.wk (bc1 := 1) (bs1 := 0 + c1) (by omega) (by omega) ?_
  refine g_aload_n 1 dJx4a65c_add_9ea2d_0 rfl rfl ?_
  refine g_dup 2 dJx4a65c_add_9ea2d_1 rfl ?_
  refine r_getI 5 (κ 2 0) dJx4a65c_add_9ea2d_2 fgJx4a65c_63 kd_2 ly_2_0 rfl (rfl) (fun r1 => ?_)
  refine g_iconst 6 dJx4a65c_add_9ea2d_5 (by decide) rfl ?_
  refine g_iadd 7 dJx4a65c_add_9ea2d_6 rfl ?_
  refine g_putI 10 dJx4a65c_add_9ea2d_7 fpJx4a65c_63 (fun h => (nomatch h)) kd_2 ly_2_0 (by omega) rfl ?_
  refine g_aload_n 11 dJx4a65c_add_9ea2d_10 rfl rfl ?_
  refine g_aload_n 12 dJx4a65c_add_9ea2d_11 rfl rfl ?_
  refine g_aload_n 13 dJx4a65c_add_9ea2d_12 rfl rfl ?_
  refine r_getD 16 (dr (κ 2 1)) dJx4a65c_add_9ea2d_13 fgJx4a65c_9 kd_2 ly_2_1 rfl (congrArg dr (rd_j (by decide) (rfl))) ?_
  rw [show dr (κ 2 1) = some (1000 + 100 * 0 + c0) from dr_n he (by omega)]
  refine g_aload_n 17 dJx4a65c_add_9ea2d_16 rfl rfl ?_
  refine r_getI 20 (κ 2 2) dJx4a65c_add_9ea2d_17 fgJx4a65c_48 kd_2 ly_2_2 rfl (rd_j (by decide) (rfl)) (fun r2 => ?_)
  refine G.eqi (show (κ 2 2) = ((c0 : Nat) : Int) from h_n2) ?_
  refine v_V 23 0 0 [Rf (100 + n.toNat), Rf (1000 + 100 * 0 + c0), Iv ((c0 : Nat) : Int)] [] dJx4a65c_add_9ea2d_20 cvJx4a65c_131 mwJx4a65c_add_72be8 kd_2 (by decide) rfl (Nat.le_of_ble_eq_true rfl) rfl rfl rfl (c_ada_0 (v := n.toNat) (by omega) hc (h_n2 : (st2 κ 2 0 (κ 2 0 + 1)) 2 2 = _) hV34 hf hel (show (st2 κ 2 0 (κ 2 0 + 1)) 2 1 = _ from he)) ?_
  refine g_iconst 24 dJx4a65c_add_9ea2d_23 (by decide) rfl ?_
  refine g_zret dJx4a65c_add_9ea2d_24 rfl (by omega) ?_
  exact PA_full (k := 0) (by decide) hL hc h_n rfl (by omega)
set_option maxHeartbeats 4000000 in
set_option maxRecDepth 20000 in
theorem c_add3_0 {B : Bs} {n0 : Nat} {V : Vs} {κ : Ks} {n : Int} (hL : Lst κ 0 n) (h_n : n = 0) (hV32 : V 32 = true) (hf : V 1010 = false) : Ct (XR B n0) mJx4a65c_add_9ea2d 7 1 33 [Rf 2, Rf (100 + n.toNat)] V κ (PA κ V 0 n) := by
  have e0 : κ 2 0 = n := hL.1
  have h_n2 : κ 2 2 = 0 := hL.2.2.1.trans h_n
  have he : κ 2 1 = ((32 : Nat) : Int) := hL.2.1.trans (by unfold etg; rw [if_pos (by omega)])
  refine Ct.of (L := [some (Rf 2), some (Rf (100 + n.toNat))]) 0 (by decide +kernel) rfl rfl ?_
  refine G.wk (bc1 := 1) (bs1 := 10) (by omega) (by omega) ?_
  refine g_aload_n 1 dJx4a65c_add_9ea2d_0 rfl rfl ?_
  refine g_dup 2 dJx4a65c_add_9ea2d_1 rfl ?_
  refine r_getI 5 (κ 2 0) dJx4a65c_add_9ea2d_2 fgJx4a65c_63 kd_2 ly_2_0 rfl (rfl) (fun r1 => ?_)
  refine g_iconst 6 dJx4a65c_add_9ea2d_5 (by decide) rfl ?_
  refine g_iadd 7 dJx4a65c_add_9ea2d_6 rfl ?_
  refine g_putI 10 dJx4a65c_add_9ea2d_7 fpJx4a65c_63 (fun h => (nomatch h)) kd_2 ly_2_0 (by omega) rfl ?_
  refine g_aload_n 11 dJx4a65c_add_9ea2d_10 rfl rfl ?_
  refine g_aload_n 12 dJx4a65c_add_9ea2d_11 rfl rfl ?_
  refine g_aload_n 13 dJx4a65c_add_9ea2d_12 rfl rfl ?_
  refine r_getD 16 (dr (κ 2 1)) dJx4a65c_add_9ea2d_13 fgJx4a65c_9 kd_2 ly_2_1 rfl (congrArg dr (rd_j (by decide) (rfl))) ?_
  rw [show dr (κ 2 1) = some 32 from dr_n he (by omega)]
  refine g_aload_n 17 dJx4a65c_add_9ea2d_16 rfl rfl ?_
  refine r_getI 20 (κ 2 2) dJx4a65c_add_9ea2d_17 fgJx4a65c_48 kd_2 ly_2_2 rfl (rd_j (by decide) (rfl)) (fun r2 => ?_)
  refine G.eqi (show (κ 2 2) = 0 from h_n2) ?_
  refine v_V 23 0 0 [Rf (100 + n.toNat), Rf 32, Iv 0] [] dJx4a65c_add_9ea2d_20 cvJx4a65c_131 mwJx4a65c_add_72be8 kd_2 (by decide) rfl (Nat.le_of_ble_eq_true rfl) rfl rfl rfl (c_adz_0 (v := n.toNat) (by omega) (h_n2 : (st2 κ 2 0 (κ 2 0 + 1)) 2 2 = _) hV32 hf (show (st2 κ 2 0 (κ 2 0 + 1)) 2 1 = _ from he)) ?_
  refine g_iconst 24 dJx4a65c_add_9ea2d_23 (by decide) rfl ?_
  refine g_zret dJx4a65c_add_9ea2d_24 rfl (by omega) ?_
  exact PA_empty (k := 0) (by decide) hL h_n rfl (by omega)
theorem c_add_0 {B : Bs} {n0 : Nat} {V : Vs} {κ : Ks} {n : Int} (hL : Lst κ 0 n) (h_n : 0 ≤ n ∧ n ≤ 32) (hV32 : V 32 = true) (hV34 : V 34 = true) (hf : ∀ c : Nat, capN n < c → c < 100 → V (1000 + 100 * 0 + c) = false) : Ct (XR B n0) mJx4a65c_add_9ea2d 7 1 33 [Rf 2, Rf (100 + n.toNat)] V κ (PA κ V 0 n) := by
  have cn : capN n = if n ≤ 0 then 0 else if n ≤ 10 then 10 else if n ≤ 15 then 15 else if n ≤ 22 then 22 else 33 := rfl
  by_cases h0 : n = 0
  · exact c_add3_0 hL h0 hV32 (hf 10 (by rw [cn, if_pos (by omega)]; omega) (by omega))
  · by_cases h1 : n < capN n
    · exact c_add1_0 hL ⟨by omega, h1, by omega⟩
    · have h2 : n = 10 ∨ n = 15 ∨ n = 22 := by
        revert h1
        rw [cn]
        (repeat' split) <;> omega
      rcases h2 with e | e | e
      · exact c_add2_0 (c0 := 10) (c1 := 15) hL (by omega) (by omega) hV34 (hf 15 (by rw [cn, e]; decide) (by omega))
      · exact c_add2_0 (c0 := 15) (c1 := 22) hL (by omega) (by omega) hV34 (hf 22 (by rw [cn, e]; decide) (by omega))
      · exact c_add2_0 (c0 := 22) (c1 := 33) hL (by omega) (by omega) hV34 (hf 33 (by rw [cn, e]; decide) (by omega))
set_option maxHeartbeats 4000000 in
set_option maxRecDepth 20000 in
theorem c_cpc_1 {B : Bs} {n0 : Nat} {V : Vs} {κ : Ks} {c0 c1 : Nat} (hc : c0 = 10 ∧ c1 = 15 ∨ c0 = 15 ∧ c1 = 22 ∨ c0 = 22 ∧ c1 = 33) (hV34 : V 34 = true) (hf : V (1000 + 100 * 1 + c1) = false) (hel : ∀ j q, j < c0 → dr (κ (1000 + 100 * 1 + c0) j) = some q → kd (XR B n0) q = (2, 9)) : Ct (XR B n0) mJ7_copyOf_6403c 2 1 (0 + c1) [Rf (1000 + 100 * 1 + c0), Iv ((c1 : Nat) : Int), Rf 34] V κ (Ex (some (Rf (1000 + 100 * 1 + c1))) (vset V (1000 + 100 * 1 + c1)) (cpO κ (1000 + 100 * 1 + c0) (1000 + 100 * 1 + c1) c0)) := by
  refine Ct.of (L := [some (Rf (1000 + 100 * 1 + c0)), some (Iv ((c1 : Nat) : Int)), some (Rf 34), none]) 1 (by decide +kernel) rfl rfl ?_
  refine g_aload_n 1 dJ7_copyOf_6403c_0 rfl rfl ?_
  refine g_ldcM 3 34 dJ7_copyOf_6403c_1 clJ7_110 kd_34 hV34 rfl ?_
  refine g_acmpE_ne 6 dJ7_copyOf_6403c_3 (tg := 13) (by decide) rfl ?_
  refine g_iload_n 7 dJ7_copyOf_6403c_6 rfl rfl ?_
  refine g_newA 10 (1000 + 100 * 1 + c1) dJ7_copyOf_6403c_7 clJ7_2 (Or.inl ⟨rfl, rfl, rfl⟩) (kd_E (by omega)) (by omega) (ly_E (by omega)) hf rfl ?_
  refine g_goto 24 dJ7_copyOf_6403c_10 (by decide) ?_
  refine g_astore_n (L' := [some (Rf (1000 + 100 * 1 + c0)), some (Iv ((c1 : Nat) : Int)), some (Rf 34), some (Rf (1000 + 100 * 1 + c1))]) 25 dJ7_copyOf_6403c_24 rfl (by decide) rfl ?_
  refine g_aload_n 26 dJ7_copyOf_6403c_25 rfl rfl ?_
  refine g_iconst 27 dJ7_copyOf_6403c_26 (by decide) rfl ?_
  refine g_aload_n 28 dJ7_copyOf_6403c_27 rfl rfl ?_
  refine g_iconst 29 dJ7_copyOf_6403c_28 (by decide) rfl ?_
  refine g_aload_n 30 dJ7_copyOf_6403c_29 rfl rfl ?_
  refine g_alen 31 dJ7_copyOf_6403c_30 (kd_E (by omega)) (Or.inr rfl) rfl ?_
  refine g_iload_n 32 dJ7_copyOf_6403c_31 rfl rfl ?_
  refine e_S 35 0 0 [Iv ((c0 : Nat) : Int), Iv ((c1 : Nat) : Int)] [Iv 0, Rf (1000 + 100 * 1 + c1), Iv 0, Rf (1000 + 100 * 1 + c0)] dJ7_copyOf_6403c_32 csJ7_304 mwJ9_min_7cf53 (by decide) rfl (Nat.le_of_ble_eq_true rfl) rfl rfl rfl (c_J9_min_7cf53 (by omega) (by omega)) ?_
  refine G.eqi (show min ((c0 : Nat) : Int) ((c1 : Nat) : Int) = ((c0 : Nat) : Int) by omega) ?_
  refine g_copyAb 38 dJ7_copyOf_6403c_35 acJ7_150 (kd_E (by omega)) (kd_E (by omega)) (ly_E (by omega)) (ly_E (by omega)) (by omega) (by omega) (by decide) (by decide) (by omega) (by omega) (by omega) (ci := 2) rfl (by decide) caX1 (fun j q hj hq => hel j q hj (by rw [rowset_n _ _ (by omega)] at hq; exact hq)) (by decide) (Nat.le_of_ble_eq_true rfl) rfl ?_
  refine g_aload_n 39 dJ7_copyOf_6403c_38 rfl rfl ?_
  refine g_aret dJ7_copyOf_6403c_39 rfl (by first | exact Or.inl ⟨_, rfl⟩ | exact Or.inr ⟨_, rfl⟩) ?_
  exact ⟨rfl, rfl, rfl⟩
set_option maxHeartbeats 4000000 in
set_option maxRecDepth 20000 in
theorem c_cpb_1 {B : Bs} {n0 : Nat} {V : Vs} {κ : Ks} {c0 c1 : Nat} (hc : c0 = 10 ∧ c1 = 15 ∨ c0 = 15 ∧ c1 = 22 ∨ c0 = 22 ∧ c1 = 33) (hV34 : V 34 = true) (hf : V (1000 + 100 * 1 + c1) = false) (hel : ∀ j q, j < c0 → dr (κ (1000 + 100 * 1 + c0) j) = some q → kd (XR B n0) q = (2, 9)) : Ct (XR B n0) mJ7_copyOf_1904c 3 1 (0 + c1) [Rf (1000 + 100 * 1 + c0), Iv ((c1 : Nat) : Int)] V κ (Ex (some (Rf (1000 + 100 * 1 + c1))) (vset V (1000 + 100 * 1 + c1)) (cpO κ (1000 + 100 * 1 + c0) (1000 + 100 * 1 + c1) c0)) := by
  refine Ct.of (L := [some (Rf (1000 + 100 * 1 + c0)), some (Iv ((c1 : Nat) : Int))]) 0 (by decide +kernel) rfl rfl ?_
  refine g_aload_n 1 dJ7_copyOf_1904c_0 rfl rfl ?_
  refine g_iload_n 2 dJ7_copyOf_1904c_1 rfl rfl ?_
  refine g_aload_n 3 dJ7_copyOf_1904c_2 rfl rfl ?_
  refine g_getC0 6 34 dJ7_copyOf_1904c_3 gcL gcD gcS gcI gcV (kd_E (by omega)) kd_34 hV34 (by decide) (Nat.le_of_ble_eq_true rfl) rfl ?_
  refine e_S 9 0 0 [Rf (1000 + 100 * 1 + c0), Iv ((c1 : Nat) : Int), Rf 34] [] dJ7_copyOf_1904c_6 csJ7_300 mwJ7_copyOf_6403c (by decide) rfl (Nat.le_of_ble_eq_true rfl) rfl rfl rfl (c_cpc_1 hc hV34 hf hel) ?_
  refine g_aret dJ7_copyOf_1904c_9 rfl (by first | exact Or.inl ⟨_, rfl⟩ | exact Or.inr ⟨_, rfl⟩) ?_
  exact ⟨rfl, rfl, rfl⟩
set_option maxHeartbeats 4000000 in
set_option maxRecDepth 20000 in
theorem c_gra_1 {B : Bs} {n0 : Nat} {V : Vs} {κ : Ks} {c0 c1 : Nat} {mc : Int} (hc : c0 = 10 ∧ c1 = 15 ∨ c0 = 15 ∧ c1 = 22 ∨ c0 = 22 ∧ c1 = 33) (h_m : mc = ((c0 : Nat) : Int) + 1) (hV34 : V 34 = true) (hf : V (1000 + 100 * 1 + c1) = false) (hel : ∀ j q, j < c0 → dr (κ (1000 + 100 * 1 + c0) j) = some q → kd (XR B n0) q = (2, 9)) (he : κ 3 1 = ((1000 + 100 * 1 + c0 : Nat) : Int)) : Ct (XR B n0) mJx4a65c_grow_92f84 4 1 (0 + c1) [Rf 3, Iv mc] V κ (Ex (some (Rf (1000 + 100 * 1 + c1))) (vset V (1000 + 100 * 1 + c1)) (st2 (cpO κ (1000 + 100 * 1 + c0) (1000 + 100 * 1 + c1) c0) 3 1 (cd (some (1000 + 100 * 1 + c1))))) := by
  refine Ct.of (L := [some (Rf 3), some (Iv mc), none, none]) 2 (by decide +kernel) rfl rfl ?_
  refine g_aload_n 1 dJx4a65c_grow_92f84_0 rfl rfl ?_
  refine r_getD 4 (dr (κ 3 1)) dJx4a65c_grow_92f84_1 fgJx4a65c_9 kd_3 ly_3_1 rfl (congrArg dr (rfl)) ?_
  rw [show dr (κ 3 1) = some (1000 + 100 * 1 + c0) from dr_n he (by omega)]
  refine g_alen 5 dJx4a65c_grow_92f84_4 (kd_E (by omega)) (Or.inr rfl) rfl ?_
  refine g_istore_n (L' := [some (Rf 3), some (Iv mc), some (Iv ((c0 : Nat) : Int)), none]) 6 dJx4a65c_grow_92f84_5 rfl (by decide) rfl ?_
  refine g_iload_n 7 dJx4a65c_grow_92f84_6 rfl rfl ?_
  refine g_if_gt 20 10 dJx4a65c_grow_92f84_7 (by first | assumption | omega) (by decide) rfl (fun h1 => ?_) (fun h1 => ?_)
  · refine g_iload_n 21 dJx4a65c_grow_92f84_20 rfl rfl ?_
    refine g_iload_n 22 dJx4a65c_grow_92f84_21 rfl rfl ?_
    refine g_iload_n 23 dJx4a65c_grow_92f84_22 rfl rfl ?_
    refine g_isub 24 dJx4a65c_grow_92f84_23 rfl ?_
    refine g_iload_n 25 dJx4a65c_grow_92f84_24 rfl rfl ?_
    refine g_iconst 26 dJx4a65c_grow_92f84_25 (by decide) rfl ?_
    refine g_ishr 27 dJx4a65c_grow_92f84_26 rfl ?_
    refine G.eqi (show (bShr ((c0 : Nat) : Int) 1) = ((c0 : Nat) : Int) / 2 from by rw [show (1 : Int) = ((1 : Nat) : Int) from rfl, bShr_v (x := c0) (by omega) (by omega)]; norm_cast) ?_
    refine e_S 30 1 (0 + c1) [Iv ((c0 : Nat) : Int), Iv (mc - ((c0 : Nat) : Int)), Iv (((c0 : Nat) : Int) / 2)] [] dJx4a65c_grow_92f84_27 csJx4a65c_73 mwJ8_newLength_cabcc (by decide) rfl (Nat.le_of_ble_eq_true rfl) rfl (by omega) rfl (c_J8_newLength_cabcc (by omega)) ?_
    refine G.eqi (show (((c0 : Nat) : Int) + max (mc - ((c0 : Nat) : Int)) (((c0 : Nat) : Int) / 2)) = ((c1 : Nat) : Int) from by omega) ?_
    refine g_istore_n (L' := [some (Rf 3), some (Iv mc), some (Iv ((c0 : Nat) : Int)), some (Iv ((c1 : Nat) : Int))]) 31 dJx4a65c_grow_92f84_30 rfl (by decide) rfl ?_
    refine g_aload_n 32 dJx4a65c_grow_92f84_31 rfl rfl ?_
    refine g_aload_n 33 dJx4a65c_grow_92f84_32 rfl rfl ?_
    refine r_getD 36 (dr (κ 3 1)) dJx4a65c_grow_92f84_33 fgJx4a65c_9 kd_3 ly_3_1 rfl (congrArg dr (rfl)) ?_
    rw [show dr (κ 3 1) = some (1000 + 100 * 1 + c0) from dr_n he (by omega)]
    refine g_iload_n 37 dJx4a65c_grow_92f84_36 rfl rfl ?_
    refine e_S 40 0 0 [Rf (1000 + 100 * 1 + c0), Iv ((c1 : Nat) : Int)] [Rf 3] dJx4a65c_grow_92f84_37 csJx4a65c_66 mwJ7_copyOf_1904c (by decide) rfl (Nat.le_of_ble_eq_true rfl) rfl rfl rfl (c_cpb_1 hc hV34 hf hel) ?_
    refine g_dup_x1 41 dJx4a65c_grow_92f84_40 rfl ?_
    refine g_putR 44 dJx4a65c_grow_92f84_41 fpJx4a65c_9 (Or.inr ⟨_, rfl⟩) (fun h => (nomatch h)) kd_3 ly_3_1 (fun q hq => by cases hq; omega) rfl ?_
    refine g_aret dJx4a65c_grow_92f84_44 rfl (by first | exact Or.inl ⟨_, rfl⟩ | exact Or.inr ⟨_, rfl⟩) ?_
    exact ⟨rfl, rfl, rfl⟩
  exfalso
  omega
set_option maxHeartbeats 4000000 in
set_option maxRecDepth 20000 in
theorem c_grz_1 {B : Bs} {n0 : Nat} {V : Vs} {κ : Ks}  (hV32 : V 32 = true) (hf : V 1110 = false) (he : κ 3 1 = ((32 : Nat) : Int)) : Ct (XR B n0) mJx4a65c_grow_92f84 4 1 10 [Rf 3, Iv 1] V κ (Ex (some (Rf 1110)) (vset V 1110) (st2 (rowset κ 1110 (fun _ => 0)) 3 1 (cd (some (1110))))) := by
  refine Ct.of (L := [some (Rf 3), some (Iv 1), none, none]) 2 (by decide +kernel) rfl rfl ?_
  refine g_aload_n 1 dJx4a65c_grow_92f84_0 rfl rfl ?_
  refine r_getD 4 (dr (κ 3 1)) dJx4a65c_grow_92f84_1 fgJx4a65c_9 kd_3 ly_3_1 rfl (congrArg dr (rfl)) ?_
  rw [show dr (κ 3 1) = some 32 from dr_n he (by omega)]
  refine g_alen31 5 dJx4a65c_grow_92f84_4 kd_32 rfl ?_
  refine g_istore_n (L' := [some (Rf 3), some (Iv 1), some (Iv 0), none]) 6 dJx4a65c_grow_92f84_5 rfl (by decide) rfl ?_
  refine g_iload_n 7 dJx4a65c_grow_92f84_6 rfl rfl ?_
  refine g_if_gt 20 10 dJx4a65c_grow_92f84_7 (by decide) (by decide) rfl (fun z => absurd z (by decide)) (fun _ => ?_)
  refine g_aload_n 11 dJx4a65c_grow_92f84_10 rfl rfl ?_
  refine r_getD 14 (dr (κ 3 1)) dJx4a65c_grow_92f84_11 fgJx4a65c_9 kd_3 ly_3_1 rfl (congrArg dr (rfl)) ?_
  rw [show dr (κ 3 1) = some 32 from dr_n he (by omega)]
  refine g_gets 17 (t := 32) dJx4a65c_grow_92f84_14 (fun s h => h.2.2.2.2.2) rfl gsJx4a65c_39 (by first | assumption | rfl) (by rw [kd_32]; decide) rfl ?_
  refine g_acmpE_eq 45 dJx4a65c_grow_92f84_17 (by decide) ?_
  refine g_aload_n 46 dJx4a65c_grow_92f84_45 rfl rfl ?_
  refine g_bipush 48 dJx4a65c_grow_92f84_46 (by decide) rfl ?_
  refine g_iload_n 49 dJx4a65c_grow_92f84_48 rfl rfl ?_
  refine e_S 52 1 10 [Iv 10, Iv 1] [Rf 3] dJx4a65c_grow_92f84_49 csJx4a65c_79 mwJ9_max_7cf53 (by decide) rfl (Nat.le_of_ble_eq_true rfl) rfl rfl rfl (c_J9_max_7cf53 (by omega) (by omega)) ?_
  refine G.eqi (show max 10 1 = ((10 : Nat) : Int) by decide) ?_
  refine g_newA 55 1110 dJx4a65c_grow_92f84_52 clJx4a65c_7 (Or.inl ⟨rfl, rfl, rfl⟩) (kd_E (k := 1) (c := 10) (by omega)) (by omega) (ly_E (by omega)) hf rfl ?_
  refine g_dup_x1 56 dJx4a65c_grow_92f84_55 rfl ?_
  refine g_putR 59 dJx4a65c_grow_92f84_56 fpJx4a65c_9 (Or.inr ⟨_, rfl⟩) (fun h => (nomatch h)) kd_3 ly_3_1 (fun q hq => by cases hq; omega) rfl ?_
  refine g_aret dJx4a65c_grow_92f84_59 rfl (by first | exact Or.inl ⟨_, rfl⟩ | exact Or.inr ⟨_, rfl⟩) ?_
  exact ⟨rfl, rfl, rfl⟩
set_option maxHeartbeats 4000000 in
set_option maxRecDepth 20000 in
theorem c_gwa_1 {B : Bs} {n0 : Nat} {V : Vs} {κ : Ks} {c0 c1 : Nat} (hc : c0 = 10 ∧ c1 = 15 ∨ c0 = 15 ∧ c1 = 22 ∨ c0 = 22 ∧ c1 = 33) (h_n : κ 3 2 = ((c0 : Nat) : Int)) (hV34 : V 34 = true) (hf : V (1000 + 100 * 1 + c1) = false) (hel : ∀ j q, j < c0 → dr (κ (1000 + 100 * 1 + c0) j) = some q → kd (XR B n0) q = (2, 9)) (he : κ 3 1 = ((1000 + 100 * 1 + c0 : Nat) : Int)) : Ct (XR B n0) mJx4a65c_grow_d5877 5 1 (0 + c1) [Rf 3] V κ (Ex (some (Rf (1000 + 100 * 1 + c1))) (vset V (1000 + 100 * 1 + c1)) (st2 (cpO κ (1000 + 100 * 1 + c0) (1000 + 100 * 1 + c1) c0) 3 1 (cd (some (1000 + 100 * 1 + c1))))) := by
  refine Ct.of (L := [some (Rf 3)]) 0 (by decide +kernel) rfl rfl ?_
  refine g_aload_n 1 dJx4a65c_grow_d5877_0 rfl rfl ?_
  refine g_aload_n 2 dJx4a65c_grow_d5877_1 rfl rfl ?_
  refine r_getI 5 (κ 3 2) dJx4a65c_grow_d5877_2 fgJx4a65c_48 kd_3 ly_3_2 rfl (rfl) (fun r1 => ?_)
  refine g_iconst 6 dJx4a65c_grow_d5877_5 (by decide) rfl ?_
  refine g_iadd 7 dJx4a65c_grow_d5877_6 rfl ?_
  refine e_V 10 0 0 [Iv ((κ 3 2) + 1)] [] dJx4a65c_grow_d5877_7 cvJx4a65c_69 mwJx4a65c_grow_92f84 kd_3 (by decide) rfl (Nat.le_of_ble_eq_true rfl) rfl rfl rfl (c_gra_1 hc (by omega) hV34 hf hel he) ?_
  refine g_aret dJx4a65c_grow_d5877_10 rfl (by first | exact Or.inl ⟨_, rfl⟩ | exact Or.inr ⟨_, rfl⟩) ?_
  exact ⟨rfl, rfl, rfl⟩
set_option maxHeartbeats 4000000 in
set_option maxRecDepth 20000 in
theorem c_gwz_1 {B : Bs} {n0 : Nat} {V : Vs} {κ : Ks}  (h_n : κ 3 2 = 0) (hV32 : V 32 = true) (hf : V 1110 = false) (he : κ 3 1 = ((32 : Nat) : Int)) : Ct (XR B n0) mJx4a65c_grow_d5877 5 1 10 [Rf 3] V κ (Ex (some (Rf 1110)) (vset V 1110) (st2 (rowset κ 1110 (fun _ => 0)) 3 1 (cd (some (1110))))) := by
  refine Ct.of (L := [some (Rf 3)]) 0 (by decide +kernel) rfl rfl ?_
  refine g_aload_n 1 dJx4a65c_grow_d5877_0 rfl rfl ?_
  refine g_aload_n 2 dJx4a65c_grow_d5877_1 rfl rfl ?_
  refine r_getI 5 (κ 3 2) dJx4a65c_grow_d5877_2 fgJx4a65c_48 kd_3 ly_3_2 rfl (rfl) (fun r1 => ?_)
  refine g_iconst 6 dJx4a65c_grow_d5877_5 (by decide) rfl ?_
  refine g_iadd 7 dJx4a65c_grow_d5877_6 rfl ?_
  refine G.eqi (show ((κ 3 2) + 1) = 1 from by omega) ?_
  refine e_V 10 0 0 [Iv 1] [] dJx4a65c_grow_d5877_7 cvJx4a65c_69 mwJx4a65c_grow_92f84 kd_3 (by decide) rfl (Nat.le_of_ble_eq_true rfl) rfl rfl rfl (c_grz_1 hV32 hf he) ?_
  refine g_aret dJx4a65c_grow_d5877_10 rfl (by first | exact Or.inl ⟨_, rfl⟩ | exact Or.inr ⟨_, rfl⟩) ?_
  exact ⟨rfl, rfl, rfl⟩
set_option maxHeartbeats 4000000 in
set_option maxRecDepth 20000 in
theorem c_adk_1 {B : Bs} {n0 : Nat} {V : Vs} {κ : Ks} {c0 v : Nat} {n : Int} (h_v : v < 100) (h_n : 0 ≤ n ∧ n < ((c0 : Nat) : Int) ∧ c0 < 100) : Ct (XR B n0) mJx4a65c_add_72be8 6 0 0 [Rf 3, Rf (200 + v), Rf (1000 + 100 * 1 + c0), Iv n] V κ (Ex none V (st2 (st2 κ (1000 + 100 * 1 + c0) n.toNat ((200 + v : Nat) : Int)) 3 2 (n + 1))) := by
  refine Ct.of (L := [some (Rf 3), some (Rf (200 + v)), some (Rf (1000 + 100 * 1 + c0)), some (Iv n)]) 0 (by decide +kernel) rfl rfl ?_
  refine g_iload_n 1 dJx4a65c_add_72be8_0 rfl rfl ?_
  refine g_aload_n 2 dJx4a65c_add_72be8_1 rfl rfl ?_
  refine g_alen 3 dJx4a65c_add_72be8_2 (kd_E (by omega)) (Or.inr rfl) rfl ?_
  refine g_icmp_ne 11 6 dJx4a65c_add_72be8_3 (by first | assumption | omega) (by first | assumption | omega) (by decide) rfl (fun h1 => ?_) (fun h1 => ?_)
  · refine g_aload_n 12 dJx4a65c_add_72be8_11 rfl rfl ?_
    refine g_iload_n 13 dJx4a65c_add_72be8_12 rfl rfl ?_
    refine g_aload_n 14 dJx4a65c_add_72be8_13 rfl rfl ?_
    refine g_aast 15 dJx4a65c_add_72be8_14 (ci := 2) rfl (by decide) (Or.inl ⟨rfl, caX1⟩) (kd_E (by omega)) (kd_H (by omega)) (by omega) (by omega) (ly_E (by omega)) (by omega) rfl ?_
    refine g_aload_n 16 dJx4a65c_add_72be8_15 rfl rfl ?_
    refine g_iload_n 17 dJx4a65c_add_72be8_16 rfl rfl ?_
    refine g_iconst 18 dJx4a65c_add_72be8_17 (by decide) rfl ?_
    refine g_iadd 19 dJx4a65c_add_72be8_18 rfl ?_
    refine g_putI 22 dJx4a65c_add_72be8_19 fpJx4a65c_48 (fun h => (nomatch h)) kd_3 ly_3_2 (by omega) rfl ?_
    refine g_vret dJx4a65c_add_72be8_22 rfl ?_
    exact ⟨rfl, rfl, rfl⟩
  exfalso
  omega
set_option maxHeartbeats 4000000 in
set_option maxRecDepth 20000 in
theorem c_ada_1 {B : Bs} {n0 : Nat} {V : Vs} {κ : Ks} {c0 c1 v : Nat} (h_v : v < 100) (hc : c0 = 10 ∧ c1 = 15 ∨ c0 = 15 ∧ c1 = 22 ∨ c0 = 22 ∧ c1 = 33) (h_n : κ 3 2 = ((c0 : Nat) : Int)) (hV34 : V 34 = true) (hf : V (1000 + 100 * 1 + c1) = false) (hel : ∀ j q, j < c0 → dr (κ (1000 + 100 * 1 + c0) j) = some q → kd (XR B n0) q = (2, 9)) (he : κ 3 1 = ((1000 + 100 * 1 + c0 : Nat) : Int)) : Ct (XR B n0) mJx4a65c_add_72be8 6 1 (0 + c1) [Rf 3, Rf (200 + v), Rf (1000 + 100 * 1 + c0), Iv ((c0 : Nat) : Int)] V κ (Ex none (vset V (1000 + 100 * 1 + c1)) (st2 (st2 (st2 (cpO κ (1000 + 100 * 1 + c0) (1000 + 100 * 1 + c1) c0) 3 1 (cd (some (1000 + 100 * 1 + c1)))) (1000 + 100 * 1 + c1) c0 ((200 + v : Nat) : Int)) 3 2 (((c0 : Nat) : Int) + 1))) := by
  refine Ct.of (L := [some (Rf 3), some (Rf (200 + v)), some (Rf (1000 + 100 * 1 + c0)), some (Iv ((c0 : Nat) : Int))]) 0 (by decide +kernel) rfl rfl ?_
  refine g_iload_n 1 dJx4a65c_add_72be8_0 rfl rfl ?_
  refine g_aload_n 2 dJx4a65c_add_72be8_1 rfl rfl ?_
  refine g_alen 3 dJx4a65c_add_72be8_2 (kd_E (by omega)) (Or.inr rfl) rfl ?_
  refine g_icmp_ne 11 6 dJx4a65c_add_72be8_3 (by first | assumption | omega) (by first | assumption | omega) (by decide) rfl (fun h1 => ?_) (fun h1 => ?_)
  · exfalso
    omega
  refine g_aload_n 7 dJx4a65c_add_72be8_6 rfl rfl ?_
  refine e_V 10 0 0 [] [] dJx4a65c_add_72be8_7 cvJx4a65c_129 mwJx4a65c_grow_d5877 kd_3 (by decide) rfl (Nat.le_of_ble_eq_true rfl) rfl rfl rfl (c_gwa_1 hc h_n hV34 hf hel he) ?_
  refine g_astore_n (L' := [some (Rf 3), some (Rf (200 + v)), some (Rf (1000 + 100 * 1 + c1)), some (Iv ((c0 : Nat) : Int))]) 11 dJx4a65c_add_72be8_10 rfl (by decide) rfl ?_
  refine g_aload_n 12 dJx4a65c_add_72be8_11 rfl rfl ?_
  refine g_iload_n 13 dJx4a65c_add_72be8_12 rfl rfl ?_
  refine g_aload_n 14 dJx4a65c_add_72be8_13 rfl rfl ?_
  refine g_aast 15 dJx4a65c_add_72be8_14 (ci := 2) rfl (by decide) (Or.inl ⟨rfl, caX1⟩) (kd_E (by omega)) (kd_H (by omega)) (by omega) (by omega) (ly_E (by omega)) (by omega) rfl ?_
  refine g_aload_n 16 dJx4a65c_add_72be8_15 rfl rfl ?_
  refine g_iload_n 17 dJx4a65c_add_72be8_16 rfl rfl ?_
  refine g_iconst 18 dJx4a65c_add_72be8_17 (by decide) rfl ?_
  refine g_iadd 19 dJx4a65c_add_72be8_18 rfl ?_
  refine g_putI 22 dJx4a65c_add_72be8_19 fpJx4a65c_48 (fun h => (nomatch h)) kd_3 ly_3_2 (by omega) rfl ?_
  refine g_vret dJx4a65c_add_72be8_22 rfl ?_
  exact ⟨rfl, rfl, rfl⟩
set_option maxHeartbeats 4000000 in
set_option maxRecDepth 20000 in
theorem c_adz_1 {B : Bs} {n0 : Nat} {V : Vs} {κ : Ks} {v : Nat} (h_v : v < 100) (h_n : κ 3 2 = 0) (hV32 : V 32 = true) (hf : V 1110 = false) (he : κ 3 1 = ((32 : Nat) : Int)) : Ct (XR B n0) mJx4a65c_add_72be8 6 1 10 [Rf 3, Rf (200 + v), Rf 32, Iv 0] V κ (Ex none (vset V 1110) (st2 (st2 (st2 (rowset κ 1110 (fun _ => 0)) 3 1 (cd (some (1110)))) 1110 0 ((200 + v : Nat) : Int)) 3 2 1)) := by
  refine Ct.of (L := [some (Rf 3), some (Rf (200 + v)), some (Rf 32), some (Iv 0)]) 0 (by decide +kernel) rfl rfl ?_
  refine g_iload_n 1 dJx4a65c_add_72be8_0 rfl rfl ?_
  refine g_aload_n 2 dJx4a65c_add_72be8_1 rfl rfl ?_
  refine g_alen31 3 dJx4a65c_add_72be8_2 kd_32 rfl ?_
  refine g_icmp_ne 11 6 dJx4a65c_add_72be8_3 (by decide) (by decide) (by decide) rfl (fun z => absurd z (by decide)) (fun _ => ?_)
  refine g_aload_n 7 dJx4a65c_add_72be8_6 rfl rfl ?_
  refine e_V 10 0 0 [] [] dJx4a65c_add_72be8_7 cvJx4a65c_129 mwJx4a65c_grow_d5877 kd_3 (by decide) rfl (Nat.le_of_ble_eq_true rfl) rfl rfl rfl (c_gwz_1 h_n hV32 hf he) ?_
  refine g_astore_n (L' := [some (Rf 3), some (Rf (200 + v)), some (Rf 1110), some (Iv 0)]) 11 dJx4a65c_add_72be8_10 rfl (by decide) rfl ?_
  refine g_aload_n 12 dJx4a65c_add_72be8_11 rfl rfl ?_
  refine g_iload_n 13 dJx4a65c_add_72be8_12 rfl rfl ?_
  refine g_aload_n 14 dJx4a65c_add_72be8_13 rfl rfl ?_
  refine g_aast 15 dJx4a65c_add_72be8_14 (ci := 2) rfl (by decide) (Or.inl ⟨rfl, caX1⟩) (kd_E (k := 1) (c := 10) (by omega)) (kd_H (by omega)) (by omega) (by omega) (ly_E (by omega)) (by omega) rfl ?_
  refine g_aload_n 16 dJx4a65c_add_72be8_15 rfl rfl ?_
  refine g_iload_n 17 dJx4a65c_add_72be8_16 rfl rfl ?_
  refine g_iconst 18 dJx4a65c_add_72be8_17 (by decide) rfl ?_
  refine g_iadd 19 dJx4a65c_add_72be8_18 rfl ?_
  refine g_putI 22 dJx4a65c_add_72be8_19 fpJx4a65c_48 (fun h => (nomatch h)) kd_3 ly_3_2 (by omega) rfl ?_
  refine g_vret dJx4a65c_add_72be8_22 rfl ?_
  exact ⟨rfl, rfl, rfl⟩
set_option maxHeartbeats 4000000 in
set_option maxRecDepth 20000 in
theorem c_add1_1 {B : Bs} {n0 : Nat} {V : Vs} {κ : Ks} {n : Int} (hL : Lst κ 1 n) (h_n : 0 < n ∧ n < capN n ∧ n ≤ 32) : Ct (XR B n0) mJx4a65c_add_9ea2d 7 1 33 [Rf 3, Rf (200 + n.toNat)] V κ (PA κ V 1 n) := by
  refine Ct.of (L := [some (Rf 3), some (Rf (200 + n.toNat))]) 0 (by decide +kernel) rfl rfl ?_
  refine G.wk (bc1 := 0) (bs1 := 0) (by omega) (by omega) ?_
  refine g_aload_n 1 dJx4a65c_add_9ea2d_0 rfl rfl ?_
  refine g_dup 2 dJx4a65c_add_9ea2d_1 rfl ?_
  refine r_getI 5 (κ 3 0) dJx4a65c_add_9ea2d_2 fgJx4a65c_63 kd_3 ly_3_0 rfl (rfl) (fun r1 => ?_)
  have e0 : κ 3 0 = n := hL.1
  refine g_iconst 6 dJx4a65c_add_9ea2d_5 (by decide) rfl ?_
  refine g_iadd 7 dJx4a65c_add_9ea2d_6 rfl ?_
  refine g_putI 10 dJx4a65c_add_9ea2d_7 fpJx4a65c_63 (fun h => (nomatch h)) kd_3 ly_3_0 (by omega) rfl ?_
  refine g_aload_n 11 dJx4a65c_add_9ea2d_10 rfl rfl ?_
  refine g_aload_n 12 dJx4a65c_add_9ea2d_11 rfl rfl ?_
  refine g_aload_n 13 dJx4a65c_add_9ea2d_12 rfl rfl ?_
  refine r_getD 16 (dr (κ 3 1)) dJx4a65c_add_9ea2d_13 fgJx4a65c_9 kd_3 ly_3_1 rfl (congrArg dr (rd_j (by decide) (rfl))) ?_
  rw [show dr (κ 3 1) = some (1000 + 100 * 1 + capN n) from dr_n (hL.2.1.trans (by unfold etg; rw [if_neg (by omega)])) (by omega)]
  refine g_aload_n 17 dJx4a65c_add_9ea2d_16 rfl rfl ?_
  refine r_getI 20 (κ 3 2) dJx4a65c_add_9ea2d_17 fgJx4a65c_48 kd_3 ly_3_2 rfl (rd_j (by decide) (rfl)) (fun r2 => ?_)
  refine G.eqi (show (κ 3 2) = n from hL.2.2.1) ?_
  refine v_V 23 0 0 [Rf (200 + n.toNat), Rf (1000 + 100 * 1 + capN n), Iv n] [] dJx4a65c_add_9ea2d_20 cvJx4a65c_131 mwJx4a65c_add_72be8 kd_3 (by decide) rfl (Nat.le_of_ble_eq_true rfl) rfl rfl rfl (c_adk_1 (c0 := capN n) (v := n.toNat) (by omega) (by have := capN_lt n; omega)) ?_
  refine g_iconst 24 dJx4a65c_add_9ea2d_23 (by decide) rfl ?_
  refine g_zret dJx4a65c_add_9ea2d_24 rfl (by omega) ?_
  exact PA_keep (k := 1) (by decide) hL h_n rfl (by omega)
set_option maxHeartbeats 4000000 in
set_option maxRecDepth 20000 in
theorem c_add2_1 {B : Bs} {n0 : Nat} {V : Vs} {κ : Ks} {c0 c1 : Nat} {n : Int} (hL : Lst κ 1 n) (hc : c0 = 10 ∧ c1 = 15 ∨ c0 = 15 ∧ c1 = 22 ∨ c0 = 22 ∧ c1 = 33) (h_n : n = ((c0 : Nat) : Int)) (hV34 : V 34 = true) (hf : V (1000 + 100 * 1 + c1) = false) : Ct (XR B n0) mJx4a65c_add_9ea2d 7 1 33 [Rf 3, Rf (200 + n.toNat)] V κ (PA κ V 1 n) := by
  have e0 : κ 3 0 = n := hL.1
  have e2 : κ 3 2 = n := hL.2.2.1
  have h_n2 : κ 3 2 = ((c0 : Nat) : Int) := by omega
  have ecn : capN n = c0 := by unfold capN; (repeat' split) <;> omega
  have eet : etg 1 n = 1000 + 100 * 1 + c0 := by unfold etg; rw [if_neg (by omega), ecn]
  have he : κ 3 1 = ((1000 + 100 * 1 + c0 : Nat) : Int) := by rw [← eet]; exact hL.2.1
  have hel : ∀ j q, j < c0 → dr ((st2 κ 3 0 (κ 3 0 + 1)) (1000 + 100 * 1 + c0) j) = some q → kd (XR B n0) q = (2, 9) := fun j q hj hq => by
    rw [st2_t (by omega)] at hq
    have := hL.2.2.2 j (by omega) (by omega)
    rw [eet, if_pos (by omega)] at this
    rw [dr_n (t := 200 + j) (by omega) (by omega)] at hq
    cases hq
    exact kd_H (by omega)
  refine Ct.of (L := [some (Rf 3), some (Rf (200 + n.toNat))]) 0 (by decide +kernel) rfl rfl ?_
  refine G.wk (bc1 := 1) (bs1 := 0 + c1) (by omega) (by omega) ?_
  refine g_aload_n 1 dJx4a65c_add_9ea2d_0 rfl rfl ?_
  refine g_dup 2 dJx4a65c_add_9ea2d_1 rfl ?_
  refine r_getI 5 (κ 3 0) dJx4a65c_add_9ea2d_2 fgJx4a65c_63 kd_3 ly_3_0 rfl (rfl) (fun r1 => ?_)
  refine g_iconst 6 dJx4a65c_add_9ea2d_5 (by decide) rfl ?_
  refine g_iadd 7 dJx4a65c_add_9ea2d_6 rfl ?_
  refine g_putI 10 dJx4a65c_add_9ea2d_7 fpJx4a65c_63 (fun h => (nomatch h)) kd_3 ly_3_0 (by omega) rfl ?_
  refine g_aload_n 11 dJx4a65c_add_9ea2d_10 rfl rfl ?_
  refine g_aload_n 12 dJx4a65c_add_9ea2d_11 rfl rfl ?_
  refine g_aload_n 13 dJx4a65c_add_9ea2d_12 rfl rfl ?_
  refine r_getD 16 (dr (κ 3 1)) dJx4a65c_add_9ea2d_13 fgJx4a65c_9 kd_3 ly_3_1 rfl (congrArg dr (rd_j (by decide) (rfl))) ?_
  rw [show dr (κ 3 1) = some (1000 + 100 * 1 + c0) from dr_n he (by omega)]
  refine g_aload_n 17 dJx4a65c_add_9ea2d_16 rfl rfl ?_
  refine r_getI 20 (κ 3 2) dJx4a65c_add_9ea2d_17 fgJx4a65c_48 kd_3 ly_3_2 rfl (rd_j (by decide) (rfl)) (fun r2 => ?_)
  refine G.eqi (show (κ 3 2) = ((c0 : Nat) : Int) from h_n2) ?_
  refine v_V 23 0 0 [Rf (200 + n.toNat), Rf (1000 + 100 * 1 + c0), Iv ((c0 : Nat) : Int)] [] dJx4a65c_add_9ea2d_20 cvJx4a65c_131 mwJx4a65c_add_72be8 kd_3 (by decide) rfl (Nat.le_of_ble_eq_true rfl) rfl rfl rfl (c_ada_1 (v := n.toNat) (by omega) hc (h_n2 : (st2 κ 3 0 (κ 3 0 + 1)) 3 2 = _) hV34 hf hel (show (st2 κ 3 0 (κ 3 0 + 1)) 3 1 = _ from he)) ?_
  refine g_iconst 24 dJx4a65c_add_9ea2d_23 (by decide) rfl ?_
  refine g_zret dJx4a65c_add_9ea2d_24 rfl (by omega) ?_
  exact PA_full (k := 1) (by decide) hL hc h_n rfl (by omega)
set_option maxHeartbeats 4000000 in
set_option maxRecDepth 20000 in
theorem c_add3_1 {B : Bs} {n0 : Nat} {V : Vs} {κ : Ks} {n : Int} (hL : Lst κ 1 n) (h_n : n = 0) (hV32 : V 32 = true) (hf : V 1110 = false) : Ct (XR B n0) mJx4a65c_add_9ea2d 7 1 33 [Rf 3, Rf (200 + n.toNat)] V κ (PA κ V 1 n) := by
  have e0 : κ 3 0 = n := hL.1
  have h_n2 : κ 3 2 = 0 := hL.2.2.1.trans h_n
  have he : κ 3 1 = ((32 : Nat) : Int) := hL.2.1.trans (by unfold etg; rw [if_pos (by omega)])
  refine Ct.of (L := [some (Rf 3), some (Rf (200 + n.toNat))]) 0 (by decide +kernel) rfl rfl ?_
  refine G.wk (bc1 := 1) (bs1 := 10) (by omega) (by omega) ?_
  refine g_aload_n 1 dJx4a65c_add_9ea2d_0 rfl rfl ?_
  refine g_dup 2 dJx4a65c_add_9ea2d_1 rfl ?_
  refine r_getI 5 (κ 3 0) dJx4a65c_add_9ea2d_2 fgJx4a65c_63 kd_3 ly_3_0 rfl (rfl) (fun r1 => ?_)
  refine g_iconst 6 dJx4a65c_add_9ea2d_5 (by decide) rfl ?_
  refine g_iadd 7 dJx4a65c_add_9ea2d_6 rfl ?_
  refine g_putI 10 dJx4a65c_add_9ea2d_7 fpJx4a65c_63 (fun h => (nomatch h)) kd_3 ly_3_0 (by omega) rfl ?_
  refine g_aload_n 11 dJx4a65c_add_9ea2d_10 rfl rfl ?_
  refine g_aload_n 12 dJx4a65c_add_9ea2d_11 rfl rfl ?_
  refine g_aload_n 13 dJx4a65c_add_9ea2d_12 rfl rfl ?_
  refine r_getD 16 (dr (κ 3 1)) dJx4a65c_add_9ea2d_13 fgJx4a65c_9 kd_3 ly_3_1 rfl (congrArg dr (rd_j (by decide) (rfl))) ?_
  rw [show dr (κ 3 1) = some 32 from dr_n he (by omega)]
  refine g_aload_n 17 dJx4a65c_add_9ea2d_16 rfl rfl ?_
  refine r_getI 20 (κ 3 2) dJx4a65c_add_9ea2d_17 fgJx4a65c_48 kd_3 ly_3_2 rfl (rd_j (by decide) (rfl)) (fun r2 => ?_)
  refine G.eqi (show (κ 3 2) = 0 from h_n2) ?_
  refine v_V 23 0 0 [Rf (200 + n.toNat), Rf 32, Iv 0] [] dJx4a65c_add_9ea2d_20 cvJx4a65c_131 mwJx4a65c_add_72be8 kd_3 (by decide) rfl (Nat.le_of_ble_eq_true rfl) rfl rfl rfl (c_adz_1 (v := n.toNat) (by omega) (h_n2 : (st2 κ 3 0 (κ 3 0 + 1)) 3 2 = _) hV32 hf (show (st2 κ 3 0 (κ 3 0 + 1)) 3 1 = _ from he)) ?_
  refine g_iconst 24 dJx4a65c_add_9ea2d_23 (by decide) rfl ?_
  refine g_zret dJx4a65c_add_9ea2d_24 rfl (by omega) ?_
  exact PA_empty (k := 1) (by decide) hL h_n rfl (by omega)
theorem c_add_1 {B : Bs} {n0 : Nat} {V : Vs} {κ : Ks} {n : Int} (hL : Lst κ 1 n) (h_n : 0 ≤ n ∧ n ≤ 32) (hV32 : V 32 = true) (hV34 : V 34 = true) (hf : ∀ c : Nat, capN n < c → c < 100 → V (1000 + 100 * 1 + c) = false) : Ct (XR B n0) mJx4a65c_add_9ea2d 7 1 33 [Rf 3, Rf (200 + n.toNat)] V κ (PA κ V 1 n) := by
  have cn : capN n = if n ≤ 0 then 0 else if n ≤ 10 then 10 else if n ≤ 15 then 15 else if n ≤ 22 then 22 else 33 := rfl
  by_cases h0 : n = 0
  · exact c_add3_1 hL h0 hV32 (hf 10 (by rw [cn, if_pos (by omega)]; omega) (by omega))
  · by_cases h1 : n < capN n
    · exact c_add1_1 hL ⟨by omega, h1, by omega⟩
    · have h2 : n = 10 ∨ n = 15 ∨ n = 22 := by
        revert h1
        rw [cn]
        (repeat' split) <;> omega
      rcases h2 with e | e | e
      · exact c_add2_1 (c0 := 10) (c1 := 15) hL (by omega) (by omega) hV34 (hf 15 (by rw [cn, e]; decide) (by omega))
      · exact c_add2_1 (c0 := 15) (c1 := 22) hL (by omega) (by omega) hV34 (hf 22 (by rw [cn, e]; decide) (by omega))
      · exact c_add2_1 (c0 := 22) (c1 := 33) hL (by omega) (by omega) hV34 (hf 33 (by rw [cn, e]; decide) (by omega))
set_option maxHeartbeats 4000000 in
set_option maxRecDepth 20000 in
theorem c_cpc_2 {B : Bs} {n0 : Nat} {V : Vs} {κ : Ks} {c0 c1 : Nat} (hc : c0 = 10 ∧ c1 = 15 ∨ c0 = 15 ∧ c1 = 22 ∨ c0 = 22 ∧ c1 = 33) (hV34 : V 34 = true) (hf : V (1000 + 100 * 2 + c1) = false) (hel : ∀ j q, j < c0 → dr (κ (1000 + 100 * 2 + c0) j) = some q → kd (XR B n0) q = (8, 4)) : Ct (XR B n0) mJ7_copyOf_6403c 2 1 (0 + c1) [Rf (1000 + 100 * 2 + c0), Iv ((c1 : Nat) : Int), Rf 34] V κ (Ex (some (Rf (1000 + 100 * 2 + c1))) (vset V (1000 + 100 * 2 + c1)) (cpO κ (1000 + 100 * 2 + c0) (1000 + 100 * 2 + c1) c0)) := by
  refine Ct.of (L := [some (Rf (1000 + 100 * 2 + c0)), some (Iv ((c1 : Nat) : Int)), some (Rf 34), none]) 1 (by decide +kernel) rfl rfl ?_
  refine g_aload_n 1 dJ7_copyOf_6403c_0 rfl rfl ?_
  refine g_ldcM 3 34 dJ7_copyOf_6403c_1 clJ7_110 kd_34 hV34 rfl ?_
  refine g_acmpE_ne 6 dJ7_copyOf_6403c_3 (tg := 13) (by decide) rfl ?_
  refine g_iload_n 7 dJ7_copyOf_6403c_6 rfl rfl ?_
  refine g_newA 10 (1000 + 100 * 2 + c1) dJ7_copyOf_6403c_7 clJ7_2 (Or.inl ⟨rfl, rfl, rfl⟩) (kd_E (by omega)) (by omega) (ly_E (by omega)) hf rfl ?_
  refine g_goto 24 dJ7_copyOf_6403c_10 (by decide) ?_
  refine g_astore_n (L' := [some (Rf (1000 + 100 * 2 + c0)), some (Iv ((c1 : Nat) : Int)), some (Rf 34), some (Rf (1000 + 100 * 2 + c1))]) 25 dJ7_copyOf_6403c_24 rfl (by decide) rfl ?_
  refine g_aload_n 26 dJ7_copyOf_6403c_25 rfl rfl ?_
  refine g_iconst 27 dJ7_copyOf_6403c_26 (by decide) rfl ?_
  refine g_aload_n 28 dJ7_copyOf_6403c_27 rfl rfl ?_
  refine g_iconst 29 dJ7_copyOf_6403c_28 (by decide) rfl ?_
  refine g_aload_n 30 dJ7_copyOf_6403c_29 rfl rfl ?_
  refine g_alen 31 dJ7_copyOf_6403c_30 (kd_E (by omega)) (Or.inr rfl) rfl ?_
  refine g_iload_n 32 dJ7_copyOf_6403c_31 rfl rfl ?_
  refine e_S 35 0 0 [Iv ((c0 : Nat) : Int), Iv ((c1 : Nat) : Int)] [Iv 0, Rf (1000 + 100 * 2 + c1), Iv 0, Rf (1000 + 100 * 2 + c0)] dJ7_copyOf_6403c_32 csJ7_304 mwJ9_min_7cf53 (by decide) rfl (Nat.le_of_ble_eq_true rfl) rfl rfl rfl (c_J9_min_7cf53 (by omega) (by omega)) ?_
  refine G.eqi (show min ((c0 : Nat) : Int) ((c1 : Nat) : Int) = ((c0 : Nat) : Int) by omega) ?_
  refine g_copyAb 38 dJ7_copyOf_6403c_35 acJ7_150 (kd_E (by omega)) (kd_E (by omega)) (ly_E (by omega)) (ly_E (by omega)) (by omega) (by omega) (by decide) (by decide) (by omega) (by omega) (by omega) (ci := 8) rfl (by decide) caX7 (fun j q hj hq => hel j q hj (by rw [rowset_n _ _ (by omega)] at hq; exact hq)) (by decide) (Nat.le_of_ble_eq_true rfl) rfl ?_
  refine g_aload_n 39 dJ7_copyOf_6403c_38 rfl rfl ?_
  refine g_aret dJ7_copyOf_6403c_39 rfl (by first | exact Or.inl ⟨_, rfl⟩ | exact Or.inr ⟨_, rfl⟩) ?_
  exact ⟨rfl, rfl, rfl⟩
set_option maxHeartbeats 4000000 in
set_option maxRecDepth 20000 in
theorem c_cpb_2 {B : Bs} {n0 : Nat} {V : Vs} {κ : Ks} {c0 c1 : Nat} (hc : c0 = 10 ∧ c1 = 15 ∨ c0 = 15 ∧ c1 = 22 ∨ c0 = 22 ∧ c1 = 33) (hV34 : V 34 = true) (hf : V (1000 + 100 * 2 + c1) = false) (hel : ∀ j q, j < c0 → dr (κ (1000 + 100 * 2 + c0) j) = some q → kd (XR B n0) q = (8, 4)) : Ct (XR B n0) mJ7_copyOf_1904c 3 1 (0 + c1) [Rf (1000 + 100 * 2 + c0), Iv ((c1 : Nat) : Int)] V κ (Ex (some (Rf (1000 + 100 * 2 + c1))) (vset V (1000 + 100 * 2 + c1)) (cpO κ (1000 + 100 * 2 + c0) (1000 + 100 * 2 + c1) c0)) := by
  refine Ct.of (L := [some (Rf (1000 + 100 * 2 + c0)), some (Iv ((c1 : Nat) : Int))]) 0 (by decide +kernel) rfl rfl ?_
  refine g_aload_n 1 dJ7_copyOf_1904c_0 rfl rfl ?_
  refine g_iload_n 2 dJ7_copyOf_1904c_1 rfl rfl ?_
  refine g_aload_n 3 dJ7_copyOf_1904c_2 rfl rfl ?_
  refine g_getC0 6 34 dJ7_copyOf_1904c_3 gcL gcD gcS gcI gcV (kd_E (by omega)) kd_34 hV34 (by decide) (Nat.le_of_ble_eq_true rfl) rfl ?_
  refine e_S 9 0 0 [Rf (1000 + 100 * 2 + c0), Iv ((c1 : Nat) : Int), Rf 34] [] dJ7_copyOf_1904c_6 csJ7_300 mwJ7_copyOf_6403c (by decide) rfl (Nat.le_of_ble_eq_true rfl) rfl rfl rfl (c_cpc_2 hc hV34 hf hel) ?_
  refine g_aret dJ7_copyOf_1904c_9 rfl (by first | exact Or.inl ⟨_, rfl⟩ | exact Or.inr ⟨_, rfl⟩) ?_
  exact ⟨rfl, rfl, rfl⟩
set_option maxHeartbeats 4000000 in
set_option maxRecDepth 20000 in
theorem c_gra_2 {B : Bs} {n0 : Nat} {V : Vs} {κ : Ks} {c0 c1 : Nat} {mc : Int} (hc : c0 = 10 ∧ c1 = 15 ∨ c0 = 15 ∧ c1 = 22 ∨ c0 = 22 ∧ c1 = 33) (h_m : mc = ((c0 : Nat) : Int) + 1) (hV34 : V 34 = true) (hf : V (1000 + 100 * 2 + c1) = false) (hel : ∀ j q, j < c0 → dr (κ (1000 + 100 * 2 + c0) j) = some q → kd (XR B n0) q = (8, 4)) (he : κ 4 1 = ((1000 + 100 * 2 + c0 : Nat) : Int)) : Ct (XR B n0) mJx4a65c_grow_92f84 4 1 (0 + c1) [Rf 4, Iv mc] V κ (Ex (some (Rf (1000 + 100 * 2 + c1))) (vset V (1000 + 100 * 2 + c1)) (st2 (cpO κ (1000 + 100 * 2 + c0) (1000 + 100 * 2 + c1) c0) 4 1 (cd (some (1000 + 100 * 2 + c1))))) := by
  refine Ct.of (L := [some (Rf 4), some (Iv mc), none, none]) 2 (by decide +kernel) rfl rfl ?_
  refine g_aload_n 1 dJx4a65c_grow_92f84_0 rfl rfl ?_
  refine r_getD 4 (dr (κ 4 1)) dJx4a65c_grow_92f84_1 fgJx4a65c_9 kd_4 ly_4_1 rfl (congrArg dr (rfl)) ?_
  rw [show dr (κ 4 1) = some (1000 + 100 * 2 + c0) from dr_n he (by omega)]
  refine g_alen 5 dJx4a65c_grow_92f84_4 (kd_E (by omega)) (Or.inr rfl) rfl ?_
  refine g_istore_n (L' := [some (Rf 4), some (Iv mc), some (Iv ((c0 : Nat) : Int)), none]) 6 dJx4a65c_grow_92f84_5 rfl (by decide) rfl ?_
  refine g_iload_n 7 dJx4a65c_grow_92f84_6 rfl rfl ?_
  refine g_if_gt 20 10 dJx4a65c_grow_92f84_7 (by first | assumption | omega) (by decide) rfl (fun h1 => ?_) (fun h1 => ?_)
  · refine g_iload_n 21 dJx4a65c_grow_92f84_20 rfl rfl ?_
    refine g_iload_n 22 dJx4a65c_grow_92f84_21 rfl rfl ?_
    refine g_iload_n 23 dJx4a65c_grow_92f84_22 rfl rfl ?_
    refine g_isub 24 dJx4a65c_grow_92f84_23 rfl ?_
    refine g_iload_n 25 dJx4a65c_grow_92f84_24 rfl rfl ?_
    refine g_iconst 26 dJx4a65c_grow_92f84_25 (by decide) rfl ?_
    refine g_ishr 27 dJx4a65c_grow_92f84_26 rfl ?_
    refine G.eqi (show (bShr ((c0 : Nat) : Int) 1) = ((c0 : Nat) : Int) / 2 from by rw [show (1 : Int) = ((1 : Nat) : Int) from rfl, bShr_v (x := c0) (by omega) (by omega)]; norm_cast) ?_
    refine e_S 30 1 (0 + c1) [Iv ((c0 : Nat) : Int), Iv (mc - ((c0 : Nat) : Int)), Iv (((c0 : Nat) : Int) / 2)] [] dJx4a65c_grow_92f84_27 csJx4a65c_73 mwJ8_newLength_cabcc (by decide) rfl (Nat.le_of_ble_eq_true rfl) rfl (by omega) rfl (c_J8_newLength_cabcc (by omega)) ?_
    refine G.eqi (show (((c0 : Nat) : Int) + max (mc - ((c0 : Nat) : Int)) (((c0 : Nat) : Int) / 2)) = ((c1 : Nat) : Int) from by omega) ?_
    refine g_istore_n (L' := [some (Rf 4), some (Iv mc), some (Iv ((c0 : Nat) : Int)), some (Iv ((c1 : Nat) : Int))]) 31 dJx4a65c_grow_92f84_30 rfl (by decide) rfl ?_
    refine g_aload_n 32 dJx4a65c_grow_92f84_31 rfl rfl ?_
    refine g_aload_n 33 dJx4a65c_grow_92f84_32 rfl rfl ?_
    refine r_getD 36 (dr (κ 4 1)) dJx4a65c_grow_92f84_33 fgJx4a65c_9 kd_4 ly_4_1 rfl (congrArg dr (rfl)) ?_
    rw [show dr (κ 4 1) = some (1000 + 100 * 2 + c0) from dr_n he (by omega)]
    refine g_iload_n 37 dJx4a65c_grow_92f84_36 rfl rfl ?_
    refine e_S 40 0 0 [Rf (1000 + 100 * 2 + c0), Iv ((c1 : Nat) : Int)] [Rf 4] dJx4a65c_grow_92f84_37 csJx4a65c_66 mwJ7_copyOf_1904c (by decide) rfl (Nat.le_of_ble_eq_true rfl) rfl rfl rfl (c_cpb_2 hc hV34 hf hel) ?_
    refine g_dup_x1 41 dJx4a65c_grow_92f84_40 rfl ?_
    refine g_putR 44 dJx4a65c_grow_92f84_41 fpJx4a65c_9 (Or.inr ⟨_, rfl⟩) (fun h => (nomatch h)) kd_4 ly_4_1 (fun q hq => by cases hq; omega) rfl ?_
    refine g_aret dJx4a65c_grow_92f84_44 rfl (by first | exact Or.inl ⟨_, rfl⟩ | exact Or.inr ⟨_, rfl⟩) ?_
    exact ⟨rfl, rfl, rfl⟩
  exfalso
  omega
set_option maxHeartbeats 4000000 in
set_option maxRecDepth 20000 in
theorem c_grz_2 {B : Bs} {n0 : Nat} {V : Vs} {κ : Ks}  (hV32 : V 32 = true) (hf : V 1210 = false) (he : κ 4 1 = ((32 : Nat) : Int)) : Ct (XR B n0) mJx4a65c_grow_92f84 4 1 10 [Rf 4, Iv 1] V κ (Ex (some (Rf 1210)) (vset V 1210) (st2 (rowset κ 1210 (fun _ => 0)) 4 1 (cd (some (1210))))) := by
  refine Ct.of (L := [some (Rf 4), some (Iv 1), none, none]) 2 (by decide +kernel) rfl rfl ?_
  refine g_aload_n 1 dJx4a65c_grow_92f84_0 rfl rfl ?_
  refine r_getD 4 (dr (κ 4 1)) dJx4a65c_grow_92f84_1 fgJx4a65c_9 kd_4 ly_4_1 rfl (congrArg dr (rfl)) ?_
  rw [show dr (κ 4 1) = some 32 from dr_n he (by omega)]
  refine g_alen31 5 dJx4a65c_grow_92f84_4 kd_32 rfl ?_
  refine g_istore_n (L' := [some (Rf 4), some (Iv 1), some (Iv 0), none]) 6 dJx4a65c_grow_92f84_5 rfl (by decide) rfl ?_
  refine g_iload_n 7 dJx4a65c_grow_92f84_6 rfl rfl ?_
  refine g_if_gt 20 10 dJx4a65c_grow_92f84_7 (by decide) (by decide) rfl (fun z => absurd z (by decide)) (fun _ => ?_)
  refine g_aload_n 11 dJx4a65c_grow_92f84_10 rfl rfl ?_
  refine r_getD 14 (dr (κ 4 1)) dJx4a65c_grow_92f84_11 fgJx4a65c_9 kd_4 ly_4_1 rfl (congrArg dr (rfl)) ?_
  rw [show dr (κ 4 1) = some 32 from dr_n he (by omega)]
  refine g_gets 17 (t := 32) dJx4a65c_grow_92f84_14 (fun s h => h.2.2.2.2.2) rfl gsJx4a65c_39 (by first | assumption | rfl) (by rw [kd_32]; decide) rfl ?_
  refine g_acmpE_eq 45 dJx4a65c_grow_92f84_17 (by decide) ?_
  refine g_aload_n 46 dJx4a65c_grow_92f84_45 rfl rfl ?_
  refine g_bipush 48 dJx4a65c_grow_92f84_46 (by decide) rfl ?_
  refine g_iload_n 49 dJx4a65c_grow_92f84_48 rfl rfl ?_
  refine e_S 52 1 10 [Iv 10, Iv 1] [Rf 4] dJx4a65c_grow_92f84_49 csJx4a65c_79 mwJ9_max_7cf53 (by decide) rfl (Nat.le_of_ble_eq_true rfl) rfl rfl rfl (c_J9_max_7cf53 (by omega) (by omega)) ?_
  refine G.eqi (show max 10 1 = ((10 : Nat) : Int) by decide) ?_
  refine g_newA 55 1210 dJx4a65c_grow_92f84_52 clJx4a65c_7 (Or.inl ⟨rfl, rfl, rfl⟩) (kd_E (k := 2) (c := 10) (by omega)) (by omega) (ly_E (by omega)) hf rfl ?_
  refine g_dup_x1 56 dJx4a65c_grow_92f84_55 rfl ?_
  refine g_putR 59 dJx4a65c_grow_92f84_56 fpJx4a65c_9 (Or.inr ⟨_, rfl⟩) (fun h => (nomatch h)) kd_4 ly_4_1 (fun q hq => by cases hq; omega) rfl ?_
  refine g_aret dJx4a65c_grow_92f84_59 rfl (by first | exact Or.inl ⟨_, rfl⟩ | exact Or.inr ⟨_, rfl⟩) ?_
  exact ⟨rfl, rfl, rfl⟩
set_option maxHeartbeats 4000000 in
set_option maxRecDepth 20000 in
theorem c_gwa_2 {B : Bs} {n0 : Nat} {V : Vs} {κ : Ks} {c0 c1 : Nat} (hc : c0 = 10 ∧ c1 = 15 ∨ c0 = 15 ∧ c1 = 22 ∨ c0 = 22 ∧ c1 = 33) (h_n : κ 4 2 = ((c0 : Nat) : Int)) (hV34 : V 34 = true) (hf : V (1000 + 100 * 2 + c1) = false) (hel : ∀ j q, j < c0 → dr (κ (1000 + 100 * 2 + c0) j) = some q → kd (XR B n0) q = (8, 4)) (he : κ 4 1 = ((1000 + 100 * 2 + c0 : Nat) : Int)) : Ct (XR B n0) mJx4a65c_grow_d5877 5 1 (0 + c1) [Rf 4] V κ (Ex (some (Rf (1000 + 100 * 2 + c1))) (vset V (1000 + 100 * 2 + c1)) (st2 (cpO κ (1000 + 100 * 2 + c0) (1000 + 100 * 2 + c1) c0) 4 1 (cd (some (1000 + 100 * 2 + c1))))) := by
  refine Ct.of (L := [some (Rf 4)]) 0 (by decide +kernel) rfl rfl ?_
  refine g_aload_n 1 dJx4a65c_grow_d5877_0 rfl rfl ?_
  refine g_aload_n 2 dJx4a65c_grow_d5877_1 rfl rfl ?_
  refine r_getI 5 (κ 4 2) dJx4a65c_grow_d5877_2 fgJx4a65c_48 kd_4 ly_4_2 rfl (rfl) (fun r1 => ?_)
  refine g_iconst 6 dJx4a65c_grow_d5877_5 (by decide) rfl ?_
  refine g_iadd 7 dJx4a65c_grow_d5877_6 rfl ?_
  refine e_V 10 0 0 [Iv ((κ 4 2) + 1)] [] dJx4a65c_grow_d5877_7 cvJx4a65c_69 mwJx4a65c_grow_92f84 kd_4 (by decide) rfl (Nat.le_of_ble_eq_true rfl) rfl rfl rfl (c_gra_2 hc (by omega) hV34 hf hel he) ?_
  refine g_aret dJx4a65c_grow_d5877_10 rfl (by first | exact Or.inl ⟨_, rfl⟩ | exact Or.inr ⟨_, rfl⟩) ?_
  exact ⟨rfl, rfl, rfl⟩
set_option maxHeartbeats 4000000 in
set_option maxRecDepth 20000 in
theorem c_gwz_2 {B : Bs} {n0 : Nat} {V : Vs} {κ : Ks}  (h_n : κ 4 2 = 0) (hV32 : V 32 = true) (hf : V 1210 = false) (he : κ 4 1 = ((32 : Nat) : Int)) : Ct (XR B n0) mJx4a65c_grow_d5877 5 1 10 [Rf 4] V κ (Ex (some (Rf 1210)) (vset V 1210) (st2 (rowset κ 1210 (fun _ => 0)) 4 1 (cd (some (1210))))) := by
  refine Ct.of (L := [some (Rf 4)]) 0 (by decide +kernel) rfl rfl ?_
  refine g_aload_n 1 dJx4a65c_grow_d5877_0 rfl rfl ?_
  refine g_aload_n 2 dJx4a65c_grow_d5877_1 rfl rfl ?_
  refine r_getI 5 (κ 4 2) dJx4a65c_grow_d5877_2 fgJx4a65c_48 kd_4 ly_4_2 rfl (rfl) (fun r1 => ?_)
  refine g_iconst 6 dJx4a65c_grow_d5877_5 (by decide) rfl ?_
  refine g_iadd 7 dJx4a65c_grow_d5877_6 rfl ?_
  refine G.eqi (show ((κ 4 2) + 1) = 1 from by omega) ?_
  refine e_V 10 0 0 [Iv 1] [] dJx4a65c_grow_d5877_7 cvJx4a65c_69 mwJx4a65c_grow_92f84 kd_4 (by decide) rfl (Nat.le_of_ble_eq_true rfl) rfl rfl rfl (c_grz_2 hV32 hf he) ?_
  refine g_aret dJx4a65c_grow_d5877_10 rfl (by first | exact Or.inl ⟨_, rfl⟩ | exact Or.inr ⟨_, rfl⟩) ?_
  exact ⟨rfl, rfl, rfl⟩
set_option maxHeartbeats 4000000 in
set_option maxRecDepth 20000 in
theorem c_adk_2 {B : Bs} {n0 : Nat} {V : Vs} {κ : Ks} {c0 v : Nat} {n : Int} (h_v : v < 100) (h_n : 0 ≤ n ∧ n < ((c0 : Nat) : Int) ∧ c0 < 100) : Ct (XR B n0) mJx4a65c_add_72be8 6 0 0 [Rf 4, Rf (300 + v), Rf (1000 + 100 * 2 + c0), Iv n] V κ (Ex none V (st2 (st2 κ (1000 + 100 * 2 + c0) n.toNat ((300 + v : Nat) : Int)) 4 2 (n + 1))) := by
  refine Ct.of (L := [some (Rf 4), some (Rf (300 + v)), some (Rf (1000 + 100 * 2 + c0)), some (Iv n)]) 0 (by decide +kernel) rfl rfl ?_
  refine g_iload_n 1 dJx4a65c_add_72be8_0 rfl rfl ?_
  refine g_aload_n 2 dJx4a65c_add_72be8_1 rfl rfl ?_
  refine g_alen 3 dJx4a65c_add_72be8_2 (kd_E (by omega)) (Or.inr rfl) rfl ?_
  refine g_icmp_ne 11 6 dJx4a65c_add_72be8_3 (by first | assumption | omega) (by first | assumption | omega) (by decide) rfl (fun h1 => ?_) (fun h1 => ?_)
  · refine g_aload_n 12 dJx4a65c_add_72be8_11 rfl rfl ?_
    refine g_iload_n 13 dJx4a65c_add_72be8_12 rfl rfl ?_
    refine g_aload_n 14 dJx4a65c_add_72be8_13 rfl rfl ?_
    refine g_aast 15 dJx4a65c_add_72be8_14 (ci := 8) rfl (by decide) (Or.inl ⟨rfl, caX7⟩) (kd_E (by omega)) (kd_T (by omega)) (by omega) (by omega) (ly_E (by omega)) (by omega) rfl ?_
    refine g_aload_n 16 dJx4a65c_add_72be8_15 rfl rfl ?_
    refine g_iload_n 17 dJx4a65c_add_72be8_16 rfl rfl ?_
    refine g_iconst 18 dJx4a65c_add_72be8_17 (by decide) rfl ?_
    refine g_iadd 19 dJx4a65c_add_72be8_18 rfl ?_
    refine g_putI 22 dJx4a65c_add_72be8_19 fpJx4a65c_48 (fun h => (nomatch h)) kd_4 ly_4_2 (by omega) rfl ?_
    refine g_vret dJx4a65c_add_72be8_22 rfl ?_
    exact ⟨rfl, rfl, rfl⟩
  exfalso
  omega
set_option maxHeartbeats 4000000 in
set_option maxRecDepth 20000 in
theorem c_ada_2 {B : Bs} {n0 : Nat} {V : Vs} {κ : Ks} {c0 c1 v : Nat} (h_v : v < 100) (hc : c0 = 10 ∧ c1 = 15 ∨ c0 = 15 ∧ c1 = 22 ∨ c0 = 22 ∧ c1 = 33) (h_n : κ 4 2 = ((c0 : Nat) : Int)) (hV34 : V 34 = true) (hf : V (1000 + 100 * 2 + c1) = false) (hel : ∀ j q, j < c0 → dr (κ (1000 + 100 * 2 + c0) j) = some q → kd (XR B n0) q = (8, 4)) (he : κ 4 1 = ((1000 + 100 * 2 + c0 : Nat) : Int)) : Ct (XR B n0) mJx4a65c_add_72be8 6 1 (0 + c1) [Rf 4, Rf (300 + v), Rf (1000 + 100 * 2 + c0), Iv ((c0 : Nat) : Int)] V κ (Ex none (vset V (1000 + 100 * 2 + c1)) (st2 (st2 (st2 (cpO κ (1000 + 100 * 2 + c0) (1000 + 100 * 2 + c1) c0) 4 1 (cd (some (1000 + 100 * 2 + c1)))) (1000 + 100 * 2 + c1) c0 ((300 + v : Nat) : Int)) 4 2 (((c0 : Nat) : Int) + 1))) := by
  refine Ct.of (L := [some (Rf 4), some (Rf (300 + v)), some (Rf (1000 + 100 * 2 + c0)), some (Iv ((c0 : Nat) : Int))]) 0 (by decide +kernel) rfl rfl ?_
  refine g_iload_n 1 dJx4a65c_add_72be8_0 rfl rfl ?_
  refine g_aload_n 2 dJx4a65c_add_72be8_1 rfl rfl ?_
  refine g_alen 3 dJx4a65c_add_72be8_2 (kd_E (by omega)) (Or.inr rfl) rfl ?_
  refine g_icmp_ne 11 6 dJx4a65c_add_72be8_3 (by first | assumption | omega) (by first | assumption | omega) (by decide) rfl (fun h1 => ?_) (fun h1 => ?_)
  · exfalso
    omega
  refine g_aload_n 7 dJx4a65c_add_72be8_6 rfl rfl ?_
  refine e_V 10 0 0 [] [] dJx4a65c_add_72be8_7 cvJx4a65c_129 mwJx4a65c_grow_d5877 kd_4 (by decide) rfl (Nat.le_of_ble_eq_true rfl) rfl rfl rfl (c_gwa_2 hc h_n hV34 hf hel he) ?_
  refine g_astore_n (L' := [some (Rf 4), some (Rf (300 + v)), some (Rf (1000 + 100 * 2 + c1)), some (Iv ((c0 : Nat) : Int))]) 11 dJx4a65c_add_72be8_10 rfl (by decide) rfl ?_
  refine g_aload_n 12 dJx4a65c_add_72be8_11 rfl rfl ?_
  refine g_iload_n 13 dJx4a65c_add_72be8_12 rfl rfl ?_
  refine g_aload_n 14 dJx4a65c_add_72be8_13 rfl rfl ?_
  refine g_aast 15 dJx4a65c_add_72be8_14 (ci := 8) rfl (by decide) (Or.inl ⟨rfl, caX7⟩) (kd_E (by omega)) (kd_T (by omega)) (by omega) (by omega) (ly_E (by omega)) (by omega) rfl ?_
  refine g_aload_n 16 dJx4a65c_add_72be8_15 rfl rfl ?_
  refine g_iload_n 17 dJx4a65c_add_72be8_16 rfl rfl ?_
  refine g_iconst 18 dJx4a65c_add_72be8_17 (by decide) rfl ?_
  refine g_iadd 19 dJx4a65c_add_72be8_18 rfl ?_
  refine g_putI 22 dJx4a65c_add_72be8_19 fpJx4a65c_48 (fun h => (nomatch h)) kd_4 ly_4_2 (by omega) rfl ?_
  refine g_vret dJx4a65c_add_72be8_22 rfl ?_
  exact ⟨rfl, rfl, rfl⟩
set_option maxHeartbeats 4000000 in
set_option maxRecDepth 20000 in
theorem c_adz_2 {B : Bs} {n0 : Nat} {V : Vs} {κ : Ks} {v : Nat} (h_v : v < 100) (h_n : κ 4 2 = 0) (hV32 : V 32 = true) (hf : V 1210 = false) (he : κ 4 1 = ((32 : Nat) : Int)) : Ct (XR B n0) mJx4a65c_add_72be8 6 1 10 [Rf 4, Rf (300 + v), Rf 32, Iv 0] V κ (Ex none (vset V 1210) (st2 (st2 (st2 (rowset κ 1210 (fun _ => 0)) 4 1 (cd (some (1210)))) 1210 0 ((300 + v : Nat) : Int)) 4 2 1)) := by
  refine Ct.of (L := [some (Rf 4), some (Rf (300 + v)), some (Rf 32), some (Iv 0)]) 0 (by decide +kernel) rfl rfl ?_
  refine g_iload_n 1 dJx4a65c_add_72be8_0 rfl rfl ?_
  refine g_aload_n 2 dJx4a65c_add_72be8_1 rfl rfl ?_
  refine g_alen31 3 dJx4a65c_add_72be8_2 kd_32 rfl ?_
  refine g_icmp_ne 11 6 dJx4a65c_add_72be8_3 (by decide) (by decide) (by decide) rfl (fun z => absurd z (by decide)) (fun _ => ?_)
  refine g_aload_n 7 dJx4a65c_add_72be8_6 rfl rfl ?_
  refine e_V 10 0 0 [] [] dJx4a65c_add_72be8_7 cvJx4a65c_129 mwJx4a65c_grow_d5877 kd_4 (by decide) rfl (Nat.le_of_ble_eq_true rfl) rfl rfl rfl (c_gwz_2 h_n hV32 hf he) ?_
  refine g_astore_n (L' := [some (Rf 4), some (Rf (300 + v)), some (Rf 1210), some (Iv 0)]) 11 dJx4a65c_add_72be8_10 rfl (by decide) rfl ?_
  refine g_aload_n 12 dJx4a65c_add_72be8_11 rfl rfl ?_
  refine g_iload_n 13 dJx4a65c_add_72be8_12 rfl rfl ?_
  refine g_aload_n 14 dJx4a65c_add_72be8_13 rfl rfl ?_
  refine g_aast 15 dJx4a65c_add_72be8_14 (ci := 8) rfl (by decide) (Or.inl ⟨rfl, caX7⟩) (kd_E (k := 2) (c := 10) (by omega)) (kd_T (by omega)) (by omega) (by omega) (ly_E (by omega)) (by omega) rfl ?_
  refine g_aload_n 16 dJx4a65c_add_72be8_15 rfl rfl ?_
  refine g_iload_n 17 dJx4a65c_add_72be8_16 rfl rfl ?_
  refine g_iconst 18 dJx4a65c_add_72be8_17 (by decide) rfl ?_
  refine g_iadd 19 dJx4a65c_add_72be8_18 rfl ?_
  refine g_putI 22 dJx4a65c_add_72be8_19 fpJx4a65c_48 (fun h => (nomatch h)) kd_4 ly_4_2 (by omega) rfl ?_
  refine g_vret dJx4a65c_add_72be8_22 rfl ?_
  exact ⟨rfl, rfl, rfl⟩
set_option maxHeartbeats 4000000 in
set_option maxRecDepth 20000 in
theorem c_add1_2 {B : Bs} {n0 : Nat} {V : Vs} {κ : Ks} {n : Int} (hL : Lst κ 2 n) (h_n : 0 < n ∧ n < capN n ∧ n ≤ 32) : Ct (XR B n0) mJx4a65c_add_9ea2d 7 1 33 [Rf 4, Rf (300 + n.toNat)] V κ (PA κ V 2 n) := by
  refine Ct.of (L := [some (Rf 4), some (Rf (300 + n.toNat))]) 0 (by decide +kernel) rfl rfl ?_
  refine G.wk (bc1 := 0) (bs1 := 0) (by omega) (by omega) ?_
  refine g_aload_n 1 dJx4a65c_add_9ea2d_0 rfl rfl ?_
  refine g_dup 2 dJx4a65c_add_9ea2d_1 rfl ?_
  refine r_getI 5 (κ 4 0) dJx4a65c_add_9ea2d_2 fgJx4a65c_63 kd_4 ly_4_0 rfl (rfl) (fun r1 => ?_)
  have e0 : κ 4 0 = n := hL.1
  refine g_iconst 6 dJx4a65c_add_9ea2d_5 (by decide) rfl ?_
  refine g_iadd 7 dJx4a65c_add_9ea2d_6 rfl ?_
  refine g_putI 10 dJx4a65c_add_9ea2d_7 fpJx4a65c_63 (fun h => (nomatch h)) kd_4 ly_4_0 (by omega) rfl ?_
  refine g_aload_n 11 dJx4a65c_add_9ea2d_10 rfl rfl ?_
  refine g_aload_n 12 dJx4a65c_add_9ea2d_11 rfl rfl ?_
  refine g_aload_n 13 dJx4a65c_add_9ea2d_12 rfl rfl ?_
  refine r_getD 16 (dr (κ 4 1)) dJx4a65c_add_9ea2d_13 fgJx4a65c_9 kd_4 ly_4_1 rfl (congrArg dr (rd_j (by decide) (rfl))) ?_
  rw [show dr (κ 4 1) = some (1000 + 100 * 2 + capN n) from dr_n (hL.2.1.trans (by unfold etg; rw [if_neg (by omega)])) (by omega)]
  refine g_aload_n 17 dJx4a65c_add_9ea2d_16 rfl rfl ?_
  refine r_getI 20 (κ 4 2) dJx4a65c_add_9ea2d_17 fgJx4a65c_48 kd_4 ly_4_2 rfl (rd_j (by decide) (rfl)) (fun r2 => ?_)
  refine G.eqi (show (κ 4 2) = n from hL.2.2.1) ?_
  refine v_V 23 0 0 [Rf (300 + n.toNat), Rf (1000 + 100 * 2 + capN n), Iv n] [] dJx4a65c_add_9ea2d_20 cvJx4a65c_131 mwJx4a65c_add_72be8 kd_4 (by decide) rfl (Nat.le_of_ble_eq_true rfl) rfl rfl rfl (c_adk_2 (c0 := capN n) (v := n.toNat) (by omega) (by have := capN_lt n; omega)) ?_
  refine g_iconst 24 dJx4a65c_add_9ea2d_23 (by decide) rfl ?_
  refine g_zret dJx4a65c_add_9ea2d_24 rfl (by omega) ?_
  exact PA_keep (k := 2) (by decide) hL h_n rfl (by omega)
set_option maxHeartbeats 4000000 in
set_option maxRecDepth 20000 in
theorem c_add2_2 {B : Bs} {n0 : Nat} {V : Vs} {κ : Ks} {c0 c1 : Nat} {n : Int} (hL : Lst κ 2 n) (hc : c0 = 10 ∧ c1 = 15 ∨ c0 = 15 ∧ c1 = 22 ∨ c0 = 22 ∧ c1 = 33) (h_n : n = ((c0 : Nat) : Int)) (hV34 : V 34 = true) (hf : V (1000 + 100 * 2 + c1) = false) : Ct (XR B n0) mJx4a65c_add_9ea2d 7 1 33 [Rf 4, Rf (300 + n.toNat)] V κ (PA κ V 2 n) := by
  have e0 : κ 4 0 = n := hL.1
  have e2 : κ 4 2 = n := hL.2.2.1
  have h_n2 : κ 4 2 = ((c0 : Nat) : Int) := by omega
  have ecn : capN n = c0 := by unfold capN; (repeat' split) <;> omega
  have eet : etg 2 n = 1000 + 100 * 2 + c0 := by unfold etg; rw [if_neg (by omega), ecn]
  have he : κ 4 1 = ((1000 + 100 * 2 + c0 : Nat) : Int) := by rw [← eet]; exact hL.2.1
  have hel : ∀ j q, j < c0 → dr ((st2 κ 4 0 (κ 4 0 + 1)) (1000 + 100 * 2 + c0) j) = some q → kd (XR B n0) q = (8, 4) := fun j q hj hq => by
    rw [st2_t (by omega)] at hq
    have := hL.2.2.2 j (by omega) (by omega)
    rw [eet, if_pos (by omega)] at this
    rw [dr_n (t := 300 + j) (by omega) (by omega)] at hq
    cases hq
    exact kd_T (by omega)
  refine Ct.of (L := [some (Rf 4), some (Rf (300 + n.toNat))]) 0 (by decide +kernel) rfl rfl ?_
  refine G.wk (bc1 := 1) (bs1 := 0 + c1) (by omega) (by omega) ?_
  refine g_aload_n 1 dJx4a65c_add_9ea2d_0 rfl rfl ?_
  refine g_dup 2 dJx4a65c_add_9ea2d_1 rfl ?_
  refine r_getI 5 (κ 4 0) dJx4a65c_add_9ea2d_2 fgJx4a65c_63 kd_4 ly_4_0 rfl (rfl) (fun r1 => ?_)
  refine g_iconst 6 dJx4a65c_add_9ea2d_5 (by decide) rfl ?_
  refine g_iadd 7 dJx4a65c_add_9ea2d_6 rfl ?_
  refine g_putI 10 dJx4a65c_add_9ea2d_7 fpJx4a65c_63 (fun h => (nomatch h)) kd_4 ly_4_0 (by omega) rfl ?_
  refine g_aload_n 11 dJx4a65c_add_9ea2d_10 rfl rfl ?_
  refine g_aload_n 12 dJx4a65c_add_9ea2d_11 rfl rfl ?_
  refine g_aload_n 13 dJx4a65c_add_9ea2d_12 rfl rfl ?_
  refine r_getD 16 (dr (κ 4 1)) dJx4a65c_add_9ea2d_13 fgJx4a65c_9 kd_4 ly_4_1 rfl (congrArg dr (rd_j (by decide) (rfl))) ?_
  rw [show dr (κ 4 1) = some (1000 + 100 * 2 + c0) from dr_n he (by omega)]
  refine g_aload_n 17 dJx4a65c_add_9ea2d_16 rfl rfl ?_
  refine r_getI 20 (κ 4 2) dJx4a65c_add_9ea2d_17 fgJx4a65c_48 kd_4 ly_4_2 rfl (rd_j (by decide) (rfl)) (fun r2 => ?_)
  refine G.eqi (show (κ 4 2) = ((c0 : Nat) : Int) from h_n2) ?_
  refine v_V 23 0 0 [Rf (300 + n.toNat), Rf (1000 + 100 * 2 + c0), Iv ((c0 : Nat) : Int)] [] dJx4a65c_add_9ea2d_20 cvJx4a65c_131 mwJx4a65c_add_72be8 kd_4 (by decide) rfl (Nat.le_of_ble_eq_true rfl) rfl rfl rfl (c_ada_2 (v := n.toNat) (by omega) hc (h_n2 : (st2 κ 4 0 (κ 4 0 + 1)) 4 2 = _) hV34 hf hel (show (st2 κ 4 0 (κ 4 0 + 1)) 4 1 = _ from he)) ?_
  refine g_iconst 24 dJx4a65c_add_9ea2d_23 (by decide) rfl ?_
  refine g_zret dJx4a65c_add_9ea2d_24 rfl (by omega) ?_
  exact PA_full (k := 2) (by decide) hL hc h_n rfl (by omega)
set_option maxHeartbeats 4000000 in
set_option maxRecDepth 20000 in
theorem c_add3_2 {B : Bs} {n0 : Nat} {V : Vs} {κ : Ks} {n : Int} (hL : Lst κ 2 n) (h_n : n = 0) (hV32 : V 32 = true) (hf : V 1210 = false) : Ct (XR B n0) mJx4a65c_add_9ea2d 7 1 33 [Rf 4, Rf (300 + n.toNat)] V κ (PA κ V 2 n) := by
  have e0 : κ 4 0 = n := hL.1
  have h_n2 : κ 4 2 = 0 := hL.2.2.1.trans h_n
  have he : κ 4 1 = ((32 : Nat) : Int) := hL.2.1.trans (by unfold etg; rw [if_pos (by omega)])
  refine Ct.of (L := [some (Rf 4), some (Rf (300 + n.toNat))]) 0 (by decide +kernel) rfl rfl ?_
  refine G.wk (bc1 := 1) (bs1 := 10) (by omega) (by omega) ?_
  refine g_aload_n 1 dJx4a65c_add_9ea2d_0 rfl rfl ?_
  refine g_dup 2 dJx4a65c_add_9ea2d_1 rfl ?_
  refine r_getI 5 (κ 4 0) dJx4a65c_add_9ea2d_2 fgJx4a65c_63 kd_4 ly_4_0 rfl (rfl) (fun r1 => ?_)
  refine g_iconst 6 dJx4a65c_add_9ea2d_5 (by decide) rfl ?_
  refine g_iadd 7 dJx4a65c_add_9ea2d_6 rfl ?_
  refine g_putI 10 dJx4a65c_add_9ea2d_7 fpJx4a65c_63 (fun h => (nomatch h)) kd_4 ly_4_0 (by omega) rfl ?_
  refine g_aload_n 11 dJx4a65c_add_9ea2d_10 rfl rfl ?_
  refine g_aload_n 12 dJx4a65c_add_9ea2d_11 rfl rfl ?_
  refine g_aload_n 13 dJx4a65c_add_9ea2d_12 rfl rfl ?_
  refine r_getD 16 (dr (κ 4 1)) dJx4a65c_add_9ea2d_13 fgJx4a65c_9 kd_4 ly_4_1 rfl (congrArg dr (rd_j (by decide) (rfl))) ?_
  rw [show dr (κ 4 1) = some 32 from dr_n he (by omega)]
  refine g_aload_n 17 dJx4a65c_add_9ea2d_16 rfl rfl ?_
  refine r_getI 20 (κ 4 2) dJx4a65c_add_9ea2d_17 fgJx4a65c_48 kd_4 ly_4_2 rfl (rd_j (by decide) (rfl)) (fun r2 => ?_)
  refine G.eqi (show (κ 4 2) = 0 from h_n2) ?_
  refine v_V 23 0 0 [Rf (300 + n.toNat), Rf 32, Iv 0] [] dJx4a65c_add_9ea2d_20 cvJx4a65c_131 mwJx4a65c_add_72be8 kd_4 (by decide) rfl (Nat.le_of_ble_eq_true rfl) rfl rfl rfl (c_adz_2 (v := n.toNat) (by omega) (h_n2 : (st2 κ 4 0 (κ 4 0 + 1)) 4 2 = _) hV32 hf (show (st2 κ 4 0 (κ 4 0 + 1)) 4 1 = _ from he)) ?_
  refine g_iconst 24 dJx4a65c_add_9ea2d_23 (by decide) rfl ?_
  refine g_zret dJx4a65c_add_9ea2d_24 rfl (by omega) ?_
  exact PA_empty (k := 2) (by decide) hL h_n rfl (by omega)
theorem c_add_2 {B : Bs} {n0 : Nat} {V : Vs} {κ : Ks} {n : Int} (hL : Lst κ 2 n) (h_n : 0 ≤ n ∧ n ≤ 32) (hV32 : V 32 = true) (hV34 : V 34 = true) (hf : ∀ c : Nat, capN n < c → c < 100 → V (1000 + 100 * 2 + c) = false) : Ct (XR B n0) mJx4a65c_add_9ea2d 7 1 33 [Rf 4, Rf (300 + n.toNat)] V κ (PA κ V 2 n) := by
  have cn : capN n = if n ≤ 0 then 0 else if n ≤ 10 then 10 else if n ≤ 15 then 15 else if n ≤ 22 then 22 else 33 := rfl
  by_cases h0 : n = 0
  · exact c_add3_2 hL h0 hV32 (hf 10 (by rw [cn, if_pos (by omega)]; omega) (by omega))
  · by_cases h1 : n < capN n
    · exact c_add1_2 hL ⟨by omega, h1, by omega⟩
    · have h2 : n = 10 ∨ n = 15 ∨ n = 22 := by
        revert h1
        rw [cn]
        (repeat' split) <;> omega
      rcases h2 with e | e | e
      · exact c_add2_2 (c0 := 10) (c1 := 15) hL (by omega) (by omega) hV34 (hf 15 (by rw [cn, e]; decide) (by omega))
      · exact c_add2_2 (c0 := 15) (c1 := 22) hL (by omega) (by omega) hV34 (hf 22 (by rw [cn, e]; decide) (by omega))
      · exact c_add2_2 (c0 := 22) (c1 := 33) hL (by omega) (by omega) hV34 (hf 33 (by rw [cn, e]; decide) (by omega))
set_option maxHeartbeats 4000000 in
set_option maxRecDepth 20000 in
theorem c_cpc_3 {B : Bs} {n0 : Nat} {V : Vs} {κ : Ks} {c0 c1 : Nat} (hc : c0 = 10 ∧ c1 = 15 ∨ c0 = 15 ∧ c1 = 22 ∨ c0 = 22 ∧ c1 = 33) (hV34 : V 34 = true) (hf : V (1000 + 100 * 3 + c1) = false) (hel : ∀ j q, j < c0 → dr (κ (1000 + 100 * 3 + c0) j) = some q → kd (XR B n0) q = (4, 4)) : Ct (XR B n0) mJ7_copyOf_6403c 2 1 (0 + c1) [Rf (1000 + 100 * 3 + c0), Iv ((c1 : Nat) : Int), Rf 34] V κ (Ex (some (Rf (1000 + 100 * 3 + c1))) (vset V (1000 + 100 * 3 + c1)) (cpO κ (1000 + 100 * 3 + c0) (1000 + 100 * 3 + c1) c0)) := by
  refine Ct.of (L := [some (Rf (1000 + 100 * 3 + c0)), some (Iv ((c1 : Nat) : Int)), some (Rf 34), none]) 1 (by decide +kernel) rfl rfl ?_
  refine g_aload_n 1 dJ7_copyOf_6403c_0 rfl rfl ?_
  refine g_ldcM 3 34 dJ7_copyOf_6403c_1 clJ7_110 kd_34 hV34 rfl ?_
  refine g_acmpE_ne 6 dJ7_copyOf_6403c_3 (tg := 13) (by decide) rfl ?_
  refine g_iload_n 7 dJ7_copyOf_6403c_6 rfl rfl ?_
  refine g_newA 10 (1000 + 100 * 3 + c1) dJ7_copyOf_6403c_7 clJ7_2 (Or.inl ⟨rfl, rfl, rfl⟩) (kd_E (by omega)) (by omega) (ly_E (by omega)) hf rfl ?_
  refine g_goto 24 dJ7_copyOf_6403c_10 (by decide) ?_
  refine g_astore_n (L' := [some (Rf (1000 + 100 * 3 + c0)), some (Iv ((c1 : Nat) : Int)), some (Rf 34), some (Rf (1000 + 100 * 3 + c1))]) 25 dJ7_copyOf_6403c_24 rfl (by decide) rfl ?_
  refine g_aload_n 26 dJ7_copyOf_6403c_25 rfl rfl ?_
  refine g_iconst 27 dJ7_copyOf_6403c_26 (by decide) rfl ?_
  refine g_aload_n 28 dJ7_copyOf_6403c_27 rfl rfl ?_
  refine g_iconst 29 dJ7_copyOf_6403c_28 (by decide) rfl ?_
  refine g_aload_n 30 dJ7_copyOf_6403c_29 rfl rfl ?_
  refine g_alen 31 dJ7_copyOf_6403c_30 (kd_E (by omega)) (Or.inr rfl) rfl ?_
  refine g_iload_n 32 dJ7_copyOf_6403c_31 rfl rfl ?_
  refine e_S 35 0 0 [Iv ((c0 : Nat) : Int), Iv ((c1 : Nat) : Int)] [Iv 0, Rf (1000 + 100 * 3 + c1), Iv 0, Rf (1000 + 100 * 3 + c0)] dJ7_copyOf_6403c_32 csJ7_304 mwJ9_min_7cf53 (by decide) rfl (Nat.le_of_ble_eq_true rfl) rfl rfl rfl (c_J9_min_7cf53 (by omega) (by omega)) ?_
  refine G.eqi (show min ((c0 : Nat) : Int) ((c1 : Nat) : Int) = ((c0 : Nat) : Int) by omega) ?_
  refine g_copyAb 38 dJ7_copyOf_6403c_35 acJ7_150 (kd_E (by omega)) (kd_E (by omega)) (ly_E (by omega)) (ly_E (by omega)) (by omega) (by omega) (by decide) (by decide) (by omega) (by omega) (by omega) (ci := 4) rfl (by decide) caX3 (fun j q hj hq => hel j q hj (by rw [rowset_n _ _ (by omega)] at hq; exact hq)) (by decide) (Nat.le_of_ble_eq_true rfl) rfl ?_
  refine g_aload_n 39 dJ7_copyOf_6403c_38 rfl rfl ?_
  refine g_aret dJ7_copyOf_6403c_39 rfl (by first | exact Or.inl ⟨_, rfl⟩ | exact Or.inr ⟨_, rfl⟩) ?_
  exact ⟨rfl, rfl, rfl⟩
set_option maxHeartbeats 4000000 in
set_option maxRecDepth 20000 in
theorem c_cpb_3 {B : Bs} {n0 : Nat} {V : Vs} {κ : Ks} {c0 c1 : Nat} (hc : c0 = 10 ∧ c1 = 15 ∨ c0 = 15 ∧ c1 = 22 ∨ c0 = 22 ∧ c1 = 33) (hV34 : V 34 = true) (hf : V (1000 + 100 * 3 + c1) = false) (hel : ∀ j q, j < c0 → dr (κ (1000 + 100 * 3 + c0) j) = some q → kd (XR B n0) q = (4, 4)) : Ct (XR B n0) mJ7_copyOf_1904c 3 1 (0 + c1) [Rf (1000 + 100 * 3 + c0), Iv ((c1 : Nat) : Int)] V κ (Ex (some (Rf (1000 + 100 * 3 + c1))) (vset V (1000 + 100 * 3 + c1)) (cpO κ (1000 + 100 * 3 + c0) (1000 + 100 * 3 + c1) c0)) := by
  refine Ct.of (L := [some (Rf (1000 + 100 * 3 + c0)), some (Iv ((c1 : Nat) : Int))]) 0 (by decide +kernel) rfl rfl ?_
  refine g_aload_n 1 dJ7_copyOf_1904c_0 rfl rfl ?_
  refine g_iload_n 2 dJ7_copyOf_1904c_1 rfl rfl ?_
  refine g_aload_n 3 dJ7_copyOf_1904c_2 rfl rfl ?_
  refine g_getC0 6 34 dJ7_copyOf_1904c_3 gcL gcD gcS gcI gcV (kd_E (by omega)) kd_34 hV34 (by decide) (Nat.le_of_ble_eq_true rfl) rfl ?_
  refine e_S 9 0 0 [Rf (1000 + 100 * 3 + c0), Iv ((c1 : Nat) : Int), Rf 34] [] dJ7_copyOf_1904c_6 csJ7_300 mwJ7_copyOf_6403c (by decide) rfl (Nat.le_of_ble_eq_true rfl) rfl rfl rfl (c_cpc_3 hc hV34 hf hel) ?_
  refine g_aret dJ7_copyOf_1904c_9 rfl (by first | exact Or.inl ⟨_, rfl⟩ | exact Or.inr ⟨_, rfl⟩) ?_
  exact ⟨rfl, rfl, rfl⟩
set_option maxHeartbeats 4000000 in
set_option maxRecDepth 20000 in
theorem c_gra_3 {B : Bs} {n0 : Nat} {V : Vs} {κ : Ks} {c0 c1 : Nat} {mc : Int} (hc : c0 = 10 ∧ c1 = 15 ∨ c0 = 15 ∧ c1 = 22 ∨ c0 = 22 ∧ c1 = 33) (h_m : mc = ((c0 : Nat) : Int) + 1) (hV34 : V 34 = true) (hf : V (1000 + 100 * 3 + c1) = false) (hel : ∀ j q, j < c0 → dr (κ (1000 + 100 * 3 + c0) j) = some q → kd (XR B n0) q = (4, 4)) (he : κ 5 1 = ((1000 + 100 * 3 + c0 : Nat) : Int)) : Ct (XR B n0) mJx4a65c_grow_92f84 4 1 (0 + c1) [Rf 5, Iv mc] V κ (Ex (some (Rf (1000 + 100 * 3 + c1))) (vset V (1000 + 100 * 3 + c1)) (st2 (cpO κ (1000 + 100 * 3 + c0) (1000 + 100 * 3 + c1) c0) 5 1 (cd (some (1000 + 100 * 3 + c1))))) := by
  refine Ct.of (L := [some (Rf 5), some (Iv mc), none, none]) 2 (by decide +kernel) rfl rfl ?_
  refine g_aload_n 1 dJx4a65c_grow_92f84_0 rfl rfl ?_
  refine r_getD 4 (dr (κ 5 1)) dJx4a65c_grow_92f84_1 fgJx4a65c_9 kd_5 ly_5_1 rfl (congrArg dr (rfl)) ?_
  rw [show dr (κ 5 1) = some (1000 + 100 * 3 + c0) from dr_n he (by omega)]
  refine g_alen 5 dJx4a65c_grow_92f84_4 (kd_E (by omega)) (Or.inr rfl) rfl ?_
  refine g_istore_n (L' := [some (Rf 5), some (Iv mc), some (Iv ((c0 : Nat) : Int)), none]) 6 dJx4a65c_grow_92f84_5 rfl (by decide) rfl ?_
  refine g_iload_n 7 dJx4a65c_grow_92f84_6 rfl rfl ?_
  refine g_if_gt 20 10 dJx4a65c_grow_92f84_7 (by first | assumption | omega) (by decide) rfl (fun h1 => ?_) (fun h1 => ?_)
  · refine g_iload_n 21 dJx4a65c_grow_92f84_20 rfl rfl ?_
    refine g_iload_n 22 dJx4a65c_grow_92f84_21 rfl rfl ?_
    refine g_iload_n 23 dJx4a65c_grow_92f84_22 rfl rfl ?_
    refine g_isub 24 dJx4a65c_grow_92f84_23 rfl ?_
    refine g_iload_n 25 dJx4a65c_grow_92f84_24 rfl rfl ?_
    refine g_iconst 26 dJx4a65c_grow_92f84_25 (by decide) rfl ?_
    refine g_ishr 27 dJx4a65c_grow_92f84_26 rfl ?_
    refine G.eqi (show (bShr ((c0 : Nat) : Int) 1) = ((c0 : Nat) : Int) / 2 from by rw [show (1 : Int) = ((1 : Nat) : Int) from rfl, bShr_v (x := c0) (by omega) (by omega)]; norm_cast) ?_
    refine e_S 30 1 (0 + c1) [Iv ((c0 : Nat) : Int), Iv (mc - ((c0 : Nat) : Int)), Iv (((c0 : Nat) : Int) / 2)] [] dJx4a65c_grow_92f84_27 csJx4a65c_73 mwJ8_newLength_cabcc (by decide) rfl (Nat.le_of_ble_eq_true rfl) rfl (by omega) rfl (c_J8_newLength_cabcc (by omega)) ?_
    refine G.eqi (show (((c0 : Nat) : Int) + max (mc - ((c0 : Nat) : Int)) (((c0 : Nat) : Int) / 2)) = ((c1 : Nat) : Int) from by omega) ?_
    refine g_istore_n (L' := [some (Rf 5), some (Iv mc), some (Iv ((c0 : Nat) : Int)), some (Iv ((c1 : Nat) : Int))]) 31 dJx4a65c_grow_92f84_30 rfl (by decide) rfl ?_
    refine g_aload_n 32 dJx4a65c_grow_92f84_31 rfl rfl ?_
    refine g_aload_n 33 dJx4a65c_grow_92f84_32 rfl rfl ?_
    refine r_getD 36 (dr (κ 5 1)) dJx4a65c_grow_92f84_33 fgJx4a65c_9 kd_5 ly_5_1 rfl (congrArg dr (rfl)) ?_
    rw [show dr (κ 5 1) = some (1000 + 100 * 3 + c0) from dr_n he (by omega)]
    refine g_iload_n 37 dJx4a65c_grow_92f84_36 rfl rfl ?_
    refine e_S 40 0 0 [Rf (1000 + 100 * 3 + c0), Iv ((c1 : Nat) : Int)] [Rf 5] dJx4a65c_grow_92f84_37 csJx4a65c_66 mwJ7_copyOf_1904c (by decide) rfl (Nat.le_of_ble_eq_true rfl) rfl rfl rfl (c_cpb_3 hc hV34 hf hel) ?_
    refine g_dup_x1 41 dJx4a65c_grow_92f84_40 rfl ?_
    refine g_putR 44 dJx4a65c_grow_92f84_41 fpJx4a65c_9 (Or.inr ⟨_, rfl⟩) (fun h => (nomatch h)) kd_5 ly_5_1 (fun q hq => by cases hq; omega) rfl ?_
    refine g_aret dJx4a65c_grow_92f84_44 rfl (by first | exact Or.inl ⟨_, rfl⟩ | exact Or.inr ⟨_, rfl⟩) ?_
    exact ⟨rfl, rfl, rfl⟩
  exfalso
  omega
set_option maxHeartbeats 4000000 in
set_option maxRecDepth 20000 in
theorem c_grz_3 {B : Bs} {n0 : Nat} {V : Vs} {κ : Ks}  (hV32 : V 32 = true) (hf : V 1310 = false) (he : κ 5 1 = ((32 : Nat) : Int)) : Ct (XR B n0) mJx4a65c_grow_92f84 4 1 10 [Rf 5, Iv 1] V κ (Ex (some (Rf 1310)) (vset V 1310) (st2 (rowset κ 1310 (fun _ => 0)) 5 1 (cd (some (1310))))) := by
  refine Ct.of (L := [some (Rf 5), some (Iv 1), none, none]) 2 (by decide +kernel) rfl rfl ?_
  refine g_aload_n 1 dJx4a65c_grow_92f84_0 rfl rfl ?_
  refine r_getD 4 (dr (κ 5 1)) dJx4a65c_grow_92f84_1 fgJx4a65c_9 kd_5 ly_5_1 rfl (congrArg dr (rfl)) ?_
  rw [show dr (κ 5 1) = some 32 from dr_n he (by omega)]
  refine g_alen31 5 dJx4a65c_grow_92f84_4 kd_32 rfl ?_
  refine g_istore_n (L' := [some (Rf 5), some (Iv 1), some (Iv 0), none]) 6 dJx4a65c_grow_92f84_5 rfl (by decide) rfl ?_
  refine g_iload_n 7 dJx4a65c_grow_92f84_6 rfl rfl ?_
  refine g_if_gt 20 10 dJx4a65c_grow_92f84_7 (by decide) (by decide) rfl (fun z => absurd z (by decide)) (fun _ => ?_)
  refine g_aload_n 11 dJx4a65c_grow_92f84_10 rfl rfl ?_
  refine r_getD 14 (dr (κ 5 1)) dJx4a65c_grow_92f84_11 fgJx4a65c_9 kd_5 ly_5_1 rfl (congrArg dr (rfl)) ?_
  rw [show dr (κ 5 1) = some 32 from dr_n he (by omega)]
  refine g_gets 17 (t := 32) dJx4a65c_grow_92f84_14 (fun s h => h.2.2.2.2.2) rfl gsJx4a65c_39 (by first | assumption | rfl) (by rw [kd_32]; decide) rfl ?_
  refine g_acmpE_eq 45 dJx4a65c_grow_92f84_17 (by decide) ?_
  refine g_aload_n 46 dJx4a65c_grow_92f84_45 rfl rfl ?_
  refine g_bipush 48 dJx4a65c_grow_92f84_46 (by decide) rfl ?_
  refine g_iload_n 49 dJx4a65c_grow_92f84_48 rfl rfl ?_
  refine e_S 52 1 10 [Iv 10, Iv 1] [Rf 5] dJx4a65c_grow_92f84_49 csJx4a65c_79 mwJ9_max_7cf53 (by decide) rfl (Nat.le_of_ble_eq_true rfl) rfl rfl rfl (c_J9_max_7cf53 (by omega) (by omega)) ?_
  refine G.eqi (show max 10 1 = ((10 : Nat) : Int) by decide) ?_
  refine g_newA 55 1310 dJx4a65c_grow_92f84_52 clJx4a65c_7 (Or.inl ⟨rfl, rfl, rfl⟩) (kd_E (k := 3) (c := 10) (by omega)) (by omega) (ly_E (by omega)) hf rfl ?_
  refine g_dup_x1 56 dJx4a65c_grow_92f84_55 rfl ?_
  refine g_putR 59 dJx4a65c_grow_92f84_56 fpJx4a65c_9 (Or.inr ⟨_, rfl⟩) (fun h => (nomatch h)) kd_5 ly_5_1 (fun q hq => by cases hq; omega) rfl ?_
  refine g_aret dJx4a65c_grow_92f84_59 rfl (by first | exact Or.inl ⟨_, rfl⟩ | exact Or.inr ⟨_, rfl⟩) ?_
  exact ⟨rfl, rfl, rfl⟩
set_option maxHeartbeats 4000000 in
set_option maxRecDepth 20000 in
theorem c_gwa_3 {B : Bs} {n0 : Nat} {V : Vs} {κ : Ks} {c0 c1 : Nat} (hc : c0 = 10 ∧ c1 = 15 ∨ c0 = 15 ∧ c1 = 22 ∨ c0 = 22 ∧ c1 = 33) (h_n : κ 5 2 = ((c0 : Nat) : Int)) (hV34 : V 34 = true) (hf : V (1000 + 100 * 3 + c1) = false) (hel : ∀ j q, j < c0 → dr (κ (1000 + 100 * 3 + c0) j) = some q → kd (XR B n0) q = (4, 4)) (he : κ 5 1 = ((1000 + 100 * 3 + c0 : Nat) : Int)) : Ct (XR B n0) mJx4a65c_grow_d5877 5 1 (0 + c1) [Rf 5] V κ (Ex (some (Rf (1000 + 100 * 3 + c1))) (vset V (1000 + 100 * 3 + c1)) (st2 (cpO κ (1000 + 100 * 3 + c0) (1000 + 100 * 3 + c1) c0) 5 1 (cd (some (1000 + 100 * 3 + c1))))) := by
  refine Ct.of (L := [some (Rf 5)]) 0 (by decide +kernel) rfl rfl ?_
  refine g_aload_n 1 dJx4a65c_grow_d5877_0 rfl rfl ?_
  refine g_aload_n 2 dJx4a65c_grow_d5877_1 rfl rfl ?_
  refine r_getI 5 (κ 5 2) dJx4a65c_grow_d5877_2 fgJx4a65c_48 kd_5 ly_5_2 rfl (rfl) (fun r1 => ?_)
  refine g_iconst 6 dJx4a65c_grow_d5877_5 (by decide) rfl ?_
  refine g_iadd 7 dJx4a65c_grow_d5877_6 rfl ?_
  refine e_V 10 0 0 [Iv ((κ 5 2) + 1)] [] dJx4a65c_grow_d5877_7 cvJx4a65c_69 mwJx4a65c_grow_92f84 kd_5 (by decide) rfl (Nat.le_of_ble_eq_true rfl) rfl rfl rfl (c_gra_3 hc (by omega) hV34 hf hel he) ?_
  refine g_aret dJx4a65c_grow_d5877_10 rfl (by first | exact Or.inl ⟨_, rfl⟩ | exact Or.inr ⟨_, rfl⟩) ?_
  exact ⟨rfl, rfl, rfl⟩
set_option maxHeartbeats 4000000 in
set_option maxRecDepth 20000 in
theorem c_gwz_3 {B : Bs} {n0 : Nat} {V : Vs} {κ : Ks}  (h_n : κ 5 2 = 0) (hV32 : V 32 = true) (hf : V 1310 = false) (he : κ 5 1 = ((32 : Nat) : Int)) : Ct (XR B n0) mJx4a65c_grow_d5877 5 1 10 [Rf 5] V κ (Ex (some (Rf 1310)) (vset V 1310) (st2 (rowset κ 1310 (fun _ => 0)) 5 1 (cd (some (1310))))) := by
  refine Ct.of (L := [some (Rf 5)]) 0 (by decide +kernel) rfl rfl ?_
  refine g_aload_n 1 dJx4a65c_grow_d5877_0 rfl rfl ?_
  refine g_aload_n 2 dJx4a65c_grow_d5877_1 rfl rfl ?_
  refine r_getI 5 (κ 5 2) dJx4a65c_grow_d5877_2 fgJx4a65c_48 kd_5 ly_5_2 rfl (rfl) (fun r1 => ?_)
  refine g_iconst 6 dJx4a65c_grow_d5877_5 (by decide) rfl ?_
  refine g_iadd 7 dJx4a65c_grow_d5877_6 rfl ?_
  refine G.eqi (show ((κ 5 2) + 1) = 1 from by omega) ?_
  refine e_V 10 0 0 [Iv 1] [] dJx4a65c_grow_d5877_7 cvJx4a65c_69 mwJx4a65c_grow_92f84 kd_5 (by decide) rfl (Nat.le_of_ble_eq_true rfl) rfl rfl rfl (c_grz_3 hV32 hf he) ?_
  refine g_aret dJx4a65c_grow_d5877_10 rfl (by first | exact Or.inl ⟨_, rfl⟩ | exact Or.inr ⟨_, rfl⟩) ?_
  exact ⟨rfl, rfl, rfl⟩
set_option maxHeartbeats 4000000 in
set_option maxRecDepth 20000 in
theorem c_adk_3 {B : Bs} {n0 : Nat} {V : Vs} {κ : Ks} {c0 v : Nat} {n : Int} (h_v : v < 100) (h_n : 0 ≤ n ∧ n < ((c0 : Nat) : Int) ∧ c0 < 100) : Ct (XR B n0) mJx4a65c_add_72be8 6 0 0 [Rf 5, Rf (400 + v), Rf (1000 + 100 * 3 + c0), Iv n] V κ (Ex none V (st2 (st2 κ (1000 + 100 * 3 + c0) n.toNat ((400 + v : Nat) : Int)) 5 2 (n + 1))) := by
  refine Ct.of (L := [some (Rf 5), some (Rf (400 + v)), some (Rf (1000 + 100 * 3 + c0)), some (Iv n)]) 0 (by decide +kernel) rfl rfl ?_
  refine g_iload_n 1 dJx4a65c_add_72be8_0 rfl rfl ?_
  refine g_aload_n 2 dJx4a65c_add_72be8_1 rfl rfl ?_
  refine g_alen 3 dJx4a65c_add_72be8_2 (kd_E (by omega)) (Or.inr rfl) rfl ?_
  refine g_icmp_ne 11 6 dJx4a65c_add_72be8_3 (by first | assumption | omega) (by first | assumption | omega) (by decide) rfl (fun h1 => ?_) (fun h1 => ?_)
  · refine g_aload_n 12 dJx4a65c_add_72be8_11 rfl rfl ?_
    refine g_iload_n 13 dJx4a65c_add_72be8_12 rfl rfl ?_
    refine g_aload_n 14 dJx4a65c_add_72be8_13 rfl rfl ?_
    refine g_aast 15 dJx4a65c_add_72be8_14 (ci := 4) rfl (by decide) (Or.inl ⟨rfl, caX3⟩) (kd_E (by omega)) (kd_L (by omega)) (by omega) (by omega) (ly_E (by omega)) (by omega) rfl ?_
    refine g_aload_n 16 dJx4a65c_add_72be8_15 rfl rfl ?_
    refine g_iload_n 17 dJx4a65c_add_72be8_16 rfl rfl ?_
    refine g_iconst 18 dJx4a65c_add_72be8_17 (by decide) rfl ?_
    refine g_iadd 19 dJx4a65c_add_72be8_18 rfl ?_
    refine g_putI 22 dJx4a65c_add_72be8_19 fpJx4a65c_48 (fun h => (nomatch h)) kd_5 ly_5_2 (by omega) rfl ?_
    refine g_vret dJx4a65c_add_72be8_22 rfl ?_
    exact ⟨rfl, rfl, rfl⟩
  exfalso
  omega
set_option maxHeartbeats 4000000 in
set_option maxRecDepth 20000 in
theorem c_ada_3 {B : Bs} {n0 : Nat} {V : Vs} {κ : Ks} {c0 c1 v : Nat} (h_v : v < 100) (hc : c0 = 10 ∧ c1 = 15 ∨ c0 = 15 ∧ c1 = 22 ∨ c0 = 22 ∧ c1 = 33) (h_n : κ 5 2 = ((c0 : Nat) : Int)) (hV34 : V 34 = true) (hf : V (1000 + 100 * 3 + c1) = false) (hel : ∀ j q, j < c0 → dr (κ (1000 + 100 * 3 + c0) j) = some q → kd (XR B n0) q = (4, 4)) (he : κ 5 1 = ((1000 + 100 * 3 + c0 : Nat) : Int)) : Ct (XR B n0) mJx4a65c_add_72be8 6 1 (0 + c1) [Rf 5, Rf (400 + v), Rf (1000 + 100 * 3 + c0), Iv ((c0 : Nat) : Int)] V κ (Ex none (vset V (1000 + 100 * 3 + c1)) (st2 (st2 (st2 (cpO κ (1000 + 100 * 3 + c0) (1000 + 100 * 3 + c1) c0) 5 1 (cd (some (1000 + 100 * 3 + c1)))) (1000 + 100 * 3 + c1) c0 ((400 + v : Nat) : Int)) 5 2 (((c0 : Nat) : Int) + 1))) := by
  refine Ct.of (L := [some (Rf 5), some (Rf (400 + v)), some (Rf (1000 + 100 * 3 + c0)), some (Iv ((c0 : Nat) : Int))]) 0 (by decide +kernel) rfl rfl ?_
  refine g_iload_n 1 dJx4a65c_add_72be8_0 rfl rfl ?_
  refine g_aload_n 2 dJx4a65c_add_72be8_1 rfl rfl ?_
  refine g_alen 3 dJx4a65c_add_72be8_2 (kd_E (by omega)) (Or.inr rfl) rfl ?_
  refine g_icmp_ne 11 6 dJx4a65c_add_72be8_3 (by first | assumption | omega) (by first | assumption | omega) (by decide) rfl (fun h1 => ?_) (fun h1 => ?_)
  · exfalso
    omega
  refine g_aload_n 7 dJx4a65c_add_72be8_6 rfl rfl ?_
  refine e_V 10 0 0 [] [] dJx4a65c_add_72be8_7 cvJx4a65c_129 mwJx4a65c_grow_d5877 kd_5 (by decide) rfl (Nat.le_of_ble_eq_true rfl) rfl rfl rfl (c_gwa_3 hc h_n hV34 hf hel he) ?_
  refine g_astore_n (L' := [some (Rf 5), some (Rf (400 + v)), some (Rf (1000 + 100 * 3 + c1)), some (Iv ((c0 : Nat) : Int))]) 11 dJx4a65c_add_72be8_10 rfl (by decide) rfl ?_
  refine g_aload_n 12 dJx4a65c_add_72be8_11 rfl rfl ?_
  refine g_iload_n 13 dJx4a65c_add_72be8_12 rfl rfl ?_
  refine g_aload_n 14 dJx4a65c_add_72be8_13 rfl rfl ?_
  refine g_aast 15 dJx4a65c_add_72be8_14 (ci := 4) rfl (by decide) (Or.inl ⟨rfl, caX3⟩) (kd_E (by omega)) (kd_L (by omega)) (by omega) (by omega) (ly_E (by omega)) (by omega) rfl ?_
  refine g_aload_n 16 dJx4a65c_add_72be8_15 rfl rfl ?_
  refine g_iload_n 17 dJx4a65c_add_72be8_16 rfl rfl ?_
  refine g_iconst 18 dJx4a65c_add_72be8_17 (by decide) rfl ?_
  refine g_iadd 19 dJx4a65c_add_72be8_18 rfl ?_
  refine g_putI 22 dJx4a65c_add_72be8_19 fpJx4a65c_48 (fun h => (nomatch h)) kd_5 ly_5_2 (by omega) rfl ?_
  refine g_vret dJx4a65c_add_72be8_22 rfl ?_
  exact ⟨rfl, rfl, rfl⟩
set_option maxHeartbeats 4000000 in
set_option maxRecDepth 20000 in
theorem c_adz_3 {B : Bs} {n0 : Nat} {V : Vs} {κ : Ks} {v : Nat} (h_v : v < 100) (h_n : κ 5 2 = 0) (hV32 : V 32 = true) (hf : V 1310 = false) (he : κ 5 1 = ((32 : Nat) : Int)) : Ct (XR B n0) mJx4a65c_add_72be8 6 1 10 [Rf 5, Rf (400 + v), Rf 32, Iv 0] V κ (Ex none (vset V 1310) (st2 (st2 (st2 (rowset κ 1310 (fun _ => 0)) 5 1 (cd (some (1310)))) 1310 0 ((400 + v : Nat) : Int)) 5 2 1)) := by
  refine Ct.of (L := [some (Rf 5), some (Rf (400 + v)), some (Rf 32), some (Iv 0)]) 0 (by decide +kernel) rfl rfl ?_
  refine g_iload_n 1 dJx4a65c_add_72be8_0 rfl rfl ?_
  refine g_aload_n 2 dJx4a65c_add_72be8_1 rfl rfl ?_
  refine g_alen31 3 dJx4a65c_add_72be8_2 kd_32 rfl ?_
  refine g_icmp_ne 11 6 dJx4a65c_add_72be8_3 (by decide) (by decide) (by decide) rfl (fun z => absurd z (by decide)) (fun _ => ?_)
  refine g_aload_n 7 dJx4a65c_add_72be8_6 rfl rfl ?_
  refine e_V 10 0 0 [] [] dJx4a65c_add_72be8_7 cvJx4a65c_129 mwJx4a65c_grow_d5877 kd_5 (by decide) rfl (Nat.le_of_ble_eq_true rfl) rfl rfl rfl (c_gwz_3 h_n hV32 hf he) ?_
  refine g_astore_n (L' := [some (Rf 5), some (Rf (400 + v)), some (Rf 1310), some (Iv 0)]) 11 dJx4a65c_add_72be8_10 rfl (by decide) rfl ?_
  refine g_aload_n 12 dJx4a65c_add_72be8_11 rfl rfl ?_
  refine g_iload_n 13 dJx4a65c_add_72be8_12 rfl rfl ?_
  refine g_aload_n 14 dJx4a65c_add_72be8_13 rfl rfl ?_
  refine g_aast 15 dJx4a65c_add_72be8_14 (ci := 4) rfl (by decide) (Or.inl ⟨rfl, caX3⟩) (kd_E (k := 3) (c := 10) (by omega)) (kd_L (by omega)) (by omega) (by omega) (ly_E (by omega)) (by omega) rfl ?_
  refine g_aload_n 16 dJx4a65c_add_72be8_15 rfl rfl ?_
  refine g_iload_n 17 dJx4a65c_add_72be8_16 rfl rfl ?_
  refine g_iconst 18 dJx4a65c_add_72be8_17 (by decide) rfl ?_
  refine g_iadd 19 dJx4a65c_add_72be8_18 rfl ?_
  refine g_putI 22 dJx4a65c_add_72be8_19 fpJx4a65c_48 (fun h => (nomatch h)) kd_5 ly_5_2 (by omega) rfl ?_
  refine g_vret dJx4a65c_add_72be8_22 rfl ?_
  exact ⟨rfl, rfl, rfl⟩
set_option maxHeartbeats 4000000 in
set_option maxRecDepth 20000 in
theorem c_add1_3 {B : Bs} {n0 : Nat} {V : Vs} {κ : Ks} {n : Int} (hL : Lst κ 3 n) (h_n : 0 < n ∧ n < capN n ∧ n ≤ 32) : Ct (XR B n0) mJx4a65c_add_9ea2d 7 1 33 [Rf 5, Rf (400 + n.toNat)] V κ (PA κ V 3 n) := by
  refine Ct.of (L := [some (Rf 5), some (Rf (400 + n.toNat))]) 0 (by decide +kernel) rfl rfl ?_
  refine G.wk (bc1 := 0) (bs1 := 0) (by omega) (by omega) ?_
  refine g_aload_n 1 dJx4a65c_add_9ea2d_0 rfl rfl ?_
  refine g_dup 2 dJx4a65c_add_9ea2d_1 rfl ?_
  refine r_getI 5 (κ 5 0) dJx4a65c_add_9ea2d_2 fgJx4a65c_63 kd_5 ly_5_0 rfl (rfl) (fun r1 => ?_)
  have e0 : κ 5 0 = n := hL.1
  refine g_iconst 6 dJx4a65c_add_9ea2d_5 (by decide) rfl ?_
  refine g_iadd 7 dJx4a65c_add_9ea2d_6 rfl ?_
  refine g_putI 10 dJx4a65c_add_9ea2d_7 fpJx4a65c_63 (fun h => (nomatch h)) kd_5 ly_5_0 (by omega) rfl ?_
  refine g_aload_n 11 dJx4a65c_add_9ea2d_10 rfl rfl ?_
  refine g_aload_n 12 dJx4a65c_add_9ea2d_11 rfl rfl ?_
  refine g_aload_n 13 dJx4a65c_add_9ea2d_12 rfl rfl ?_
  refine r_getD 16 (dr (κ 5 1)) dJx4a65c_add_9ea2d_13 fgJx4a65c_9 kd_5 ly_5_1 rfl (congrArg dr (rd_j (by decide) (rfl))) ?_
  rw [show dr (κ 5 1) = some (1000 + 100 * 3 + capN n) from dr_n (hL.2.1.trans (by unfold etg; rw [if_neg (by omega)])) (by omega)]
  refine g_aload_n 17 dJx4a65c_add_9ea2d_16 rfl rfl ?_
  refine r_getI 20 (κ 5 2) dJx4a65c_add_9ea2d_17 fgJx4a65c_48 kd_5 ly_5_2 rfl (rd_j (by decide) (rfl)) (fun r2 => ?_)
  refine G.eqi (show (κ 5 2) = n from hL.2.2.1) ?_
  refine v_V 23 0 0 [Rf (400 + n.toNat), Rf (1000 + 100 * 3 + capN n), Iv n] [] dJx4a65c_add_9ea2d_20 cvJx4a65c_131 mwJx4a65c_add_72be8 kd_5 (by decide) rfl (Nat.le_of_ble_eq_true rfl) rfl rfl rfl (c_adk_3 (c0 := capN n) (v := n.toNat) (by omega) (by have := capN_lt n; omega)) ?_
  refine g_iconst 24 dJx4a65c_add_9ea2d_23 (by decide) rfl ?_
  refine g_zret dJx4a65c_add_9ea2d_24 rfl (by omega) ?_
  exact PA_keep (k := 3) (by decide) hL h_n rfl (by omega)
set_option maxHeartbeats 4000000 in
set_option maxRecDepth 20000 in
theorem c_add2_3 {B : Bs} {n0 : Nat} {V : Vs} {κ : Ks} {c0 c1 : Nat} {n : Int} (hL : Lst κ 3 n) (hc : c0 = 10 ∧ c1 = 15 ∨ c0 = 15 ∧ c1 = 22 ∨ c0 = 22 ∧ c1 = 33) (h_n : n = ((c0 : Nat) : Int)) (hV34 : V 34 = true) (hf : V (1000 + 100 * 3 + c1) = false) : Ct (XR B n0) mJx4a65c_add_9ea2d 7 1 33 [Rf 5, Rf (400 + n.toNat)] V κ (PA κ V 3 n) := by
  have e0 : κ 5 0 = n := hL.1
  have e2 : κ 5 2 = n := hL.2.2.1
  have h_n2 : κ 5 2 = ((c0 : Nat) : Int) := by omega
  have ecn : capN n = c0 := by unfold capN; (repeat' split) <;> omega
  have eet : etg 3 n = 1000 + 100 * 3 + c0 := by unfold etg; rw [if_neg (by omega), ecn]
  have he : κ 5 1 = ((1000 + 100 * 3 + c0 : Nat) : Int) := by rw [← eet]; exact hL.2.1
  have hel : ∀ j q, j < c0 → dr ((st2 κ 5 0 (κ 5 0 + 1)) (1000 + 100 * 3 + c0) j) = some q → kd (XR B n0) q = (4, 4) := fun j q hj hq => by
    rw [st2_t (by omega)] at hq
    have := hL.2.2.2 j (by omega) (by omega)
    rw [eet, if_pos (by omega)] at this
    rw [dr_n (t := 400 + j) (by omega) (by omega)] at hq
    cases hq
    exact kd_L (by omega)
  refine Ct.of (L := [some (Rf 5), some (Rf (400 + n.toNat))]) 0 (by decide +kernel) rfl rfl ?_
  refine G.wk (bc1 := 1) (bs1 := 0 + c1) (by omega) (by omega) ?_
  refine g_aload_n 1 dJx4a65c_add_9ea2d_0 rfl rfl ?_
  refine g_dup 2 dJx4a65c_add_9ea2d_1 rfl ?_
  refine r_getI 5 (κ 5 0) dJx4a65c_add_9ea2d_2 fgJx4a65c_63 kd_5 ly_5_0 rfl (rfl) (fun r1 => ?_)
  refine g_iconst 6 dJx4a65c_add_9ea2d_5 (by decide) rfl ?_
  refine g_iadd 7 dJx4a65c_add_9ea2d_6 rfl ?_
  refine g_putI 10 dJx4a65c_add_9ea2d_7 fpJx4a65c_63 (fun h => (nomatch h)) kd_5 ly_5_0 (by omega) rfl ?_
  refine g_aload_n 11 dJx4a65c_add_9ea2d_10 rfl rfl ?_
  refine g_aload_n 12 dJx4a65c_add_9ea2d_11 rfl rfl ?_
  refine g_aload_n 13 dJx4a65c_add_9ea2d_12 rfl rfl ?_
  refine r_getD 16 (dr (κ 5 1)) dJx4a65c_add_9ea2d_13 fgJx4a65c_9 kd_5 ly_5_1 rfl (congrArg dr (rd_j (by decide) (rfl))) ?_
  rw [show dr (κ 5 1) = some (1000 + 100 * 3 + c0) from dr_n he (by omega)]
  refine g_aload_n 17 dJx4a65c_add_9ea2d_16 rfl rfl ?_
  refine r_getI 20 (κ 5 2) dJx4a65c_add_9ea2d_17 fgJx4a65c_48 kd_5 ly_5_2 rfl (rd_j (by decide) (rfl)) (fun r2 => ?_)
  refine G.eqi (show (κ 5 2) = ((c0 : Nat) : Int) from h_n2) ?_
  refine v_V 23 0 0 [Rf (400 + n.toNat), Rf (1000 + 100 * 3 + c0), Iv ((c0 : Nat) : Int)] [] dJx4a65c_add_9ea2d_20 cvJx4a65c_131 mwJx4a65c_add_72be8 kd_5 (by decide) rfl (Nat.le_of_ble_eq_true rfl) rfl rfl rfl (c_ada_3 (v := n.toNat) (by omega) hc (h_n2 : (st2 κ 5 0 (κ 5 0 + 1)) 5 2 = _) hV34 hf hel (show (st2 κ 5 0 (κ 5 0 + 1)) 5 1 = _ from he)) ?_
  refine g_iconst 24 dJx4a65c_add_9ea2d_23 (by decide) rfl ?_
  refine g_zret dJx4a65c_add_9ea2d_24 rfl (by omega) ?_
  exact PA_full (k := 3) (by decide) hL hc h_n rfl (by omega)
set_option maxHeartbeats 4000000 in
set_option maxRecDepth 20000 in
theorem c_add3_3 {B : Bs} {n0 : Nat} {V : Vs} {κ : Ks} {n : Int} (hL : Lst κ 3 n) (h_n : n = 0) (hV32 : V 32 = true) (hf : V 1310 = false) : Ct (XR B n0) mJx4a65c_add_9ea2d 7 1 33 [Rf 5, Rf (400 + n.toNat)] V κ (PA κ V 3 n) := by
  have e0 : κ 5 0 = n := hL.1
  have h_n2 : κ 5 2 = 0 := hL.2.2.1.trans h_n
  have he : κ 5 1 = ((32 : Nat) : Int) := hL.2.1.trans (by unfold etg; rw [if_pos (by omega)])
  refine Ct.of (L := [some (Rf 5), some (Rf (400 + n.toNat))]) 0 (by decide +kernel) rfl rfl ?_
  refine G.wk (bc1 := 1) (bs1 := 10) (by omega) (by omega) ?_
  refine g_aload_n 1 dJx4a65c_add_9ea2d_0 rfl rfl ?_
  refine g_dup 2 dJx4a65c_add_9ea2d_1 rfl ?_
  refine r_getI 5 (κ 5 0) dJx4a65c_add_9ea2d_2 fgJx4a65c_63 kd_5 ly_5_0 rfl (rfl) (fun r1 => ?_)
  refine g_iconst 6 dJx4a65c_add_9ea2d_5 (by decide) rfl ?_
  refine g_iadd 7 dJx4a65c_add_9ea2d_6 rfl ?_
  refine g_putI 10 dJx4a65c_add_9ea2d_7 fpJx4a65c_63 (fun h => (nomatch h)) kd_5 ly_5_0 (by omega) rfl ?_
  refine g_aload_n 11 dJx4a65c_add_9ea2d_10 rfl rfl ?_
  refine g_aload_n 12 dJx4a65c_add_9ea2d_11 rfl rfl ?_
  refine g_aload_n 13 dJx4a65c_add_9ea2d_12 rfl rfl ?_
  refine r_getD 16 (dr (κ 5 1)) dJx4a65c_add_9ea2d_13 fgJx4a65c_9 kd_5 ly_5_1 rfl (congrArg dr (rd_j (by decide) (rfl))) ?_
  rw [show dr (κ 5 1) = some 32 from dr_n he (by omega)]
  refine g_aload_n 17 dJx4a65c_add_9ea2d_16 rfl rfl ?_
  refine r_getI 20 (κ 5 2) dJx4a65c_add_9ea2d_17 fgJx4a65c_48 kd_5 ly_5_2 rfl (rd_j (by decide) (rfl)) (fun r2 => ?_)
  refine G.eqi (show (κ 5 2) = 0 from h_n2) ?_
  refine v_V 23 0 0 [Rf (400 + n.toNat), Rf 32, Iv 0] [] dJx4a65c_add_9ea2d_20 cvJx4a65c_131 mwJx4a65c_add_72be8 kd_5 (by decide) rfl (Nat.le_of_ble_eq_true rfl) rfl rfl rfl (c_adz_3 (v := n.toNat) (by omega) (h_n2 : (st2 κ 5 0 (κ 5 0 + 1)) 5 2 = _) hV32 hf (show (st2 κ 5 0 (κ 5 0 + 1)) 5 1 = _ from he)) ?_
  refine g_iconst 24 dJx4a65c_add_9ea2d_23 (by decide) rfl ?_
  refine g_zret dJx4a65c_add_9ea2d_24 rfl (by omega) ?_
  exact PA_empty (k := 3) (by decide) hL h_n rfl (by omega)
theorem c_add_3 {B : Bs} {n0 : Nat} {V : Vs} {κ : Ks} {n : Int} (hL : Lst κ 3 n) (h_n : 0 ≤ n ∧ n ≤ 32) (hV32 : V 32 = true) (hV34 : V 34 = true) (hf : ∀ c : Nat, capN n < c → c < 100 → V (1000 + 100 * 3 + c) = false) : Ct (XR B n0) mJx4a65c_add_9ea2d 7 1 33 [Rf 5, Rf (400 + n.toNat)] V κ (PA κ V 3 n) := by
  have cn : capN n = if n ≤ 0 then 0 else if n ≤ 10 then 10 else if n ≤ 15 then 15 else if n ≤ 22 then 22 else 33 := rfl
  by_cases h0 : n = 0
  · exact c_add3_3 hL h0 hV32 (hf 10 (by rw [cn, if_pos (by omega)]; omega) (by omega))
  · by_cases h1 : n < capN n
    · exact c_add1_3 hL ⟨by omega, h1, by omega⟩
    · have h2 : n = 10 ∨ n = 15 ∨ n = 22 := by
        revert h1
        rw [cn]
        (repeat' split) <;> omega
      rcases h2 with e | e | e
      · exact c_add2_3 (c0 := 10) (c1 := 15) hL (by omega) (by omega) hV34 (hf 15 (by rw [cn, e]; decide) (by omega))
      · exact c_add2_3 (c0 := 15) (c1 := 22) hL (by omega) (by omega) hV34 (hf 22 (by rw [cn, e]; decide) (by omega))
      · exact c_add2_3 (c0 := 22) (c1 := 33) hL (by omega) (by omega) hV34 (hf 33 (by rw [cn, e]; decide) (by omega))
set_option maxHeartbeats 4000000 in
set_option maxRecDepth 20000 in
theorem c_X5_init {B : Bs} {n0 : Nat} {V : Vs} {κ : Ks} {v : Nat} {a l w : Int} (h_v : v < 100) (r_a : inR a) (r_l : inR l) (r_w : inR w) : Ct (XR B n0) mX5_init 1 0 0 [Rf (100 + v), Iv a, Iv l, Iv w] V κ (Ex none V (iniS κ (100 + v) a l w)) := by
  refine Ct.of (L := [some (Rf (100 + v)), some (Iv a), some (Iv l), some (Iv w)]) 0 (by decide +kernel) rfl rfl ?_
  refine g_aload_n 1 dX5_init_0 rfl rfl ?_
  refine g_objInit 4 dX5_init_1 oiX5_3 oiI oiC (by decide) (Nat.le_of_ble_eq_true rfl) rfl ?_
  refine g_aload_n 5 dX5_init_4 rfl rfl ?_
  refine g_iconst 6 dX5_init_5 (by decide) rfl ?_
  refine g_putI 9 dX5_init_6 fpX5_9 (fun h => (nomatch h)) (kd_S (by omega)) (ly_S (by omega) 4) (by omega) rfl ?_
  refine g_aload_n 10 dX5_init_9 rfl rfl ?_
  refine g_iconst 11 dX5_init_10 (by decide) rfl ?_
  refine g_putI 14 dX5_init_11 fpX5_15 (fun h => (nomatch h)) (kd_S (by omega)) (ly_S (by omega) 8) (by omega) rfl ?_
  refine g_aload_n 15 dX5_init_14 rfl rfl ?_
  refine g_sipush 18 dX5_init_15 (by decide) rfl ?_
  refine g_putI 21 dX5_init_18 fpX5_18 (fun h => (nomatch h)) (kd_S (by omega)) (ly_S (by omega) 9) (by omega) rfl ?_
  refine g_aload_n 22 dX5_init_21 rfl rfl ?_
  refine g_iload_n 23 dX5_init_22 rfl rfl ?_
  refine g_putI 26 dX5_init_23 fpX5_21 (fun _ => rfl) (kd_S (by omega)) (ly_S (by omega) 0) (by omega) rfl ?_
  refine g_aload_n 27 dX5_init_26 rfl rfl ?_
  refine g_iload_n 28 dX5_init_27 rfl rfl ?_
  refine g_putI 31 dX5_init_28 fpX5_24 (fun _ => rfl) (kd_S (by omega)) (ly_S (by omega) 1) (by omega) rfl ?_
  refine g_aload_n 32 dX5_init_31 rfl rfl ?_
  refine g_iload_n 33 dX5_init_32 rfl rfl ?_
  refine g_putI 36 dX5_init_33 fpX5_27 (fun h => (nomatch h)) (kd_S (by omega)) (ly_S (by omega) 2) (by omega) rfl ?_
  refine g_vret dX5_init_36 rfl ?_
  exact ⟨rfl, rfl, rfl⟩
set_option maxHeartbeats 4000000 in
set_option maxRecDepth 20000 in
theorem c_X1_init {B : Bs} {n0 : Nat} {V : Vs} {κ : Ks} {v : Nat} {s c f u b : Int} (h_v : v < 100) (r_s : inR s) (r_c : inR c) (r_f : inR f) (r_u : inR u) (h_b : b = 0 ∨ b = 1) : Ct (XR B n0) mX1_init 1 0 0 [Rf (200 + v), Iv s, Iv c, Iv f, Iv u, Iv b] V κ (Ex none V (iniH κ (200 + v) s c f u b)) := by
  refine Ct.of (L := [some (Rf (200 + v)), some (Iv s), some (Iv c), some (Iv f), some (Iv u), some (Iv b)]) 0 (by decide +kernel) rfl rfl ?_
  refine g_aload_n 1 dX1_init_0 rfl rfl ?_
  refine g_objInit 4 dX1_init_1 oiX1_3 oiI oiC (by decide) (Nat.le_of_ble_eq_true rfl) rfl ?_
  refine g_aload_n 5 dX1_init_4 rfl rfl ?_
  refine g_iconst 6 dX1_init_5 (by decide) rfl ?_
  refine g_putI 9 dX1_init_6 fpX1_9 (fun h => (nomatch h)) (kd_H (by omega)) (ly_H (by omega) 5) (by omega) rfl ?_
  refine g_aload_n 10 dX1_init_9 rfl rfl ?_
  refine g_iload_n 11 dX1_init_10 rfl rfl ?_
  refine g_putI 14 dX1_init_11 fpX1_15 (fun _ => rfl) (kd_H (by omega)) (ly_H (by omega) 0) (by omega) rfl ?_
  refine g_aload_n 15 dX1_init_14 rfl rfl ?_
  refine g_iload_n 16 dX1_init_15 rfl rfl ?_
  refine g_putI 19 dX1_init_16 fpX1_18 (fun _ => rfl) (kd_H (by omega)) (ly_H (by omega) 1) (by omega) rfl ?_
  refine g_aload_n 20 dX1_init_19 rfl rfl ?_
  refine g_iload_n 21 dX1_init_20 rfl rfl ?_
  refine g_putI 24 dX1_init_21 fpX1_21 (fun _ => rfl) (kd_H (by omega)) (ly_H (by omega) 2) (by omega) rfl ?_
  refine g_aload_n 25 dX1_init_24 rfl rfl ?_
  refine g_iload 27 dX1_init_25 rfl rfl ?_
  refine g_putI 30 dX1_init_27 fpX1_24 (fun _ => rfl) (kd_H (by omega)) (ly_H (by omega) 3) (by omega) rfl ?_
  refine g_aload_n 31 dX1_init_30 rfl rfl ?_
  refine g_iload 33 dX1_init_31 rfl rfl ?_
  refine g_putZ 36 dX1_init_33 fpX1_27 (fun _ => rfl) (kd_H (by omega)) (ly_H (by omega) 4) (by omega) rfl ?_
  refine g_vret dX1_init_36 rfl ?_
  exact ⟨rfl, rfl, rfl⟩
set_option maxHeartbeats 4000000 in
set_option maxRecDepth 20000 in
theorem c_X7_init {B : Bs} {n0 : Nat} {V : Vs} {κ : Ks} {v : Nat} {s c f n : Int} (h_v : v < 100) (r_s : inR s) (r_c : inR c) (r_f : inR f) (r_n : inR n) : Ct (XR B n0) mX7_init 1 0 0 [Rf (300 + v), Iv s, Iv c, Iv f, Iv n] V κ (Ex none V (ini4 κ (300 + v) s c f n)) := by
  refine Ct.of (L := [some (Rf (300 + v)), some (Iv s), some (Iv c), some (Iv f), some (Iv n)]) 0 (by decide +kernel) rfl rfl ?_
  refine g_aload_n 1 dX7_init_0 rfl rfl ?_
  refine g_objInit 4 dX7_init_1 oiX7_3 oiI oiC (by decide) (Nat.le_of_ble_eq_true rfl) rfl ?_
  refine g_aload_n 5 dX7_init_4 rfl rfl ?_
  refine g_iload_n 6 dX7_init_5 rfl rfl ?_
  refine g_putI 9 dX7_init_6 fpX7_9 (fun _ => rfl) (kd_T (by omega)) (ly_T (by omega) 0) (by omega) rfl ?_
  refine g_aload_n 10 dX7_init_9 rfl rfl ?_
  refine g_iload_n 11 dX7_init_10 rfl rfl ?_
  refine g_putI 14 dX7_init_11 fpX7_15 (fun _ => rfl) (kd_T (by omega)) (ly_T (by omega) 1) (by omega) rfl ?_
  refine g_aload_n 15 dX7_init_14 rfl rfl ?_
  refine g_iload_n 16 dX7_init_15 rfl rfl ?_
  refine g_putI 19 dX7_init_16 fpX7_18 (fun _ => rfl) (kd_T (by omega)) (ly_T (by omega) 2) (by omega) rfl ?_
  refine g_aload_n 20 dX7_init_19 rfl rfl ?_
  refine g_iload 22 dX7_init_20 rfl rfl ?_
  refine g_putI 25 dX7_init_22 fpX7_21 (fun _ => rfl) (kd_T (by omega)) (ly_T (by omega) 3) (by omega) rfl ?_
  refine g_vret dX7_init_25 rfl ?_
  exact ⟨rfl, rfl, rfl⟩
set_option maxHeartbeats 4000000 in
set_option maxRecDepth 20000 in
theorem c_X3_init {B : Bs} {n0 : Nat} {V : Vs} {κ : Ks} {v : Nat} {s c f n : Int} (h_v : v < 100) (r_s : inR s) (r_c : inR c) (r_f : inR f) (r_n : inR n) : Ct (XR B n0) mX3_init 1 0 0 [Rf (400 + v), Iv s, Iv c, Iv f, Iv n] V κ (Ex none V (ini4 κ (400 + v) s c f n)) := by
  refine Ct.of (L := [some (Rf (400 + v)), some (Iv s), some (Iv c), some (Iv f), some (Iv n)]) 0 (by decide +kernel) rfl rfl ?_
  refine g_aload_n 1 dX3_init_0 rfl rfl ?_
  refine g_objInit 4 dX3_init_1 oiX3_1 oiI oiC (by decide) (Nat.le_of_ble_eq_true rfl) rfl ?_
  refine g_aload_n 5 dX3_init_4 rfl rfl ?_
  refine g_iload_n 6 dX3_init_5 rfl rfl ?_
  refine g_putI 9 dX3_init_6 fpX3_7 (fun _ => rfl) (kd_L (by omega)) (ly_L (by omega) 0) (by omega) rfl ?_
  refine g_aload_n 10 dX3_init_9 rfl rfl ?_
  refine g_iload_n 11 dX3_init_10 rfl rfl ?_
  refine g_putI 14 dX3_init_11 fpX3_13 (fun _ => rfl) (kd_L (by omega)) (ly_L (by omega) 1) (by omega) rfl ?_
  refine g_aload_n 15 dX3_init_14 rfl rfl ?_
  refine g_iload_n 16 dX3_init_15 rfl rfl ?_
  refine g_putI 19 dX3_init_16 fpX3_16 (fun _ => rfl) (kd_L (by omega)) (ly_L (by omega) 2) (by omega) rfl ?_
  refine g_aload_n 20 dX3_init_19 rfl rfl ?_
  refine g_iload 22 dX3_init_20 rfl rfl ?_
  refine g_putI 25 dX3_init_22 fpX3_19 (fun _ => rfl) (kd_L (by omega)) (ly_L (by omega) 3) (by omega) rfl ?_
  refine g_vret dX3_init_25 rfl ?_
  exact ⟨rfl, rfl, rfl⟩
