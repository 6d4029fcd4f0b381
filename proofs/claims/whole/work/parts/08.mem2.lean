/-! ROWS of G: arrays of references, copies, mirrors, casts -/
theorem rfo_up {X : Cx} {ρ : Nat → Nat} {t k v : Nat} {r : Nat → Int} (hl : ∀ j, X.2.2.2.2.2.2 t j = 1) (hv : 0 < v) : va_up (fun j => rfo ρ (vr X t r j)) k (some (ρ v)) = fun j => rfo ρ (vr X t (up1 r k (v : Int)) j) := by
  funext j
  unfold va_up
  by_cases h : j = k
  · subst h
    rw [if_pos rfl, vr_1 (hl _), up1_s]
    show _ = (dr (v : Int)).map ρ
    unfold dr
    rw [if_neg (by omega)]
    rfl
  · rw [if_neg h, vr_up h]
theorem cpy_map {α β : Type} (h : α → β) (f g : Nat → α) (a b n : Nat) : va_cpy (fun j => h (f j)) (fun j => h (g j)) a b n = fun j => h (va_cpy f g a b n j) := by
  funext j
  unfold va_cpy
  split <;> rfl
theorem cpy_R {f g : Nat → Int} {a b n : Nat} (hf : ∀ j, inR (f j)) (hg : ∀ j, inR (g j)) (j : Nat) : inR (va_cpy f g a b n j) := by
  unfold va_cpy
  split
  · exact hf _
  · exact hg _
theorem clampN {i : Int} (h : inR i) : (Int32.ofInt i).toNatClampNeg = i.toNat := by
  show (Int32.ofInt i).toInt.toNat = i.toNat
  rw [inR_toInt h]
theorem nfw : nativeFrameWords "java/lang/System" "arraycopy" 5 + 11 ≤ 40 := by decide
section G8
variable {X : Cx} {mt : Mt} {d : Nat} {P : Po} {V0 : Vs} {bc bs pc : Nat} {L : Lc} {st : List Av} {V : Vs} {κ : Ks}
theorem g_newA (n' : Nat) (t : Nat) {idx k kt N : Nat} {C0 : String} (hd : decode mt.2.1 pc = .ok (.anewarray idx, 3)) (hw : Cond.classLink mt.1.cls idx C0 ∈ tbG) (hkt : (kt = 22 ∧ k = 2 ∧ C0 = "java/lang/Object") ∨ (kt = 23 ∧ k = 3 ∧ C0 = "WoodenMains$Row")) (hk : kd X t = (kt, N)) (hN : N < 100000) (hl : ∀ j, X.2.2.2.2.2.2 t j = 1) (ht : V t = false) (hn : pc + 3 = n') (kk : G X mt d P V0 bc bs n' L (Rf t :: st) (vset V t) (rowset κ t (fun _ => 0))) : G X mt d P V0 (bc + 1) (bs + N) pc L (Iv (N : Int) :: st) V κ := fun p e R s m args below meth c mc ms ρ0 C H locs cells slots ls ρ hh => by
  have hM := hh.2.2.2.1
  have hx := C.2.2.2.2.1
  obtain ⟨N0, hN0⟩ := hM.2.2.2.2
  have hr := C.2.2.2.2.2.2.2.2.2.1.2.2
  have hb := hh.2.2.2.2.2.1
  have ha := C.2.2.2.2.2.2.2.2.1
  have hNR : inR (N : Int) := by unfold inR; omega
  have hAO : va_AO C0 s ∧ (tysG X)[k]? = some (X.2.2.1 k, .object C0) := by
    rcases hkt with ⟨-, rfl, rfl⟩ | ⟨-, rfl, rfl⟩
    · exact ⟨ha.2.2.1.1, rfl⟩
    · exact ⟨ha.2.2.1.2, rfl⟩
  refine va_newq (N' := N) (D := X.2.1) (tys := tysG X) C.1 C.2.1 C.2.2.2.1 (hx _ hw) hAO.1 ha.1 (hM.P N0) (hM.D N0) hh.2.2.2.2.1 (frA_new C.2.2.2.2.2.2.2.2.2.2) (fun z => by have := (ofI_lt hNR inR_0).mp z; omega) (by show (Int32.ofInt (N : Int)).toInt.toNat = N; rw [inR_toInt hNR]; rfl) (by omega) (by omega) (by omega) hd (fun q cA H1 hK1 hP1 hD1 hS1 => ?_)
  have hcA := arr_same (k := k) ha.1 hAO.2 hK1
  subst hcA
  have hz : (fun _ : Nat => (none : Option Nat)) = fun j => rfo ρ (vr X t (fun _ => 0) j) := by
    funext j
    rw [vr_1 (hl j)]
    rfl
  have he : (Sum.inl (X.2.2.1 k, N, Sum.inr (Sum.inr (Sum.inr (Sum.inr (fun _ : Nat => (none : Option Nat)))))) : va_E) = ent X ρ t (fun _ => 0) := by
    rw [hz]
    rcases hkt with ⟨rfl, rfl, rfl⟩ | ⟨rfl, rfl, rfl⟩
    · rw [ent_A hk]
    · rw [ent_W hk]
  rw [he] at hP1 hD1
  rw [hn]
  have h2 := mm.push C.2.2.2.2.2.2.2.2.2.2 hM hN0 ht (kd_lt hk (by omega)) hh.2.2.2.2.1 hS1 hP1 hD1 (fun _ => inR_0) (fun j => vr_z (by rw [hl j]; omega))
  have h3 := kk p e R s m args below meth c mc ms ρ0 C H1 locs (cells + 1) (slots + N) ls _ (hh.nw ht hh.2.2.1.2 h2 hS1)
  have e2 : (Rf t :: st).map (cv fun a => if a = t then q else ρ a) = .ref q :: st.map (cv ρ) := by
    rw [List.map_cons, cvS_ext (V := V) (ρ := ρ) (fun a ha => if_neg (fun e => by rw [e, ht] at ha; cases ha)) hh.2.2.1.2]
    show Value.ref (if t = t then q else ρ t) :: _ = _
    rw [if_pos rfl]
  rw [e2] at h3
  exact h3
theorem g_aast (n' : Nat) {t v kt N ci Nv : Nat} {i : Int} {C0 : String} {T : u_T} (hd : decode mt.2.1 pc = .ok (.aastore, 1)) (hc : vwCl[ci]? = some (C0, T, Nv)) (hci : ci < 20) (hkt : (kt = 22 ∧ Cond.castable C0 "java/lang/Object" ∈ nwL) ∨ (kt = 23 ∧ C0 = "WoodenMains$Row")) (hk : kd X t = (kt, N)) (hkv : kd X v = (ci, Nv)) (hv0 : 0 < v ∧ v < 2147483648) (hN : N < 2147483648) (hl : ∀ j, X.2.2.2.2.2.2 t j = 1) (hi : 0 ≤ i ∧ i < N) (hn : pc + 1 = n') (kk : G X mt d P V0 bc bs n' L st V (st2 κ t i.toNat (v : Int))) : G X mt d P V0 bc bs pc L (Rf v :: Iv i :: Rf t :: st) V κ := fun p e R s m args below meth c mc ms ρ0 C H locs cells slots ls ρ hh => by
  have hM := hh.2.2.2.1
  obtain ⟨N0, hN0⟩ := hM.2.2.2.2
  have hV : V t = true := hh.2.2.1.2.2.1
  have hVv : V v = true := hh.2.2.1.1
  have ha := C.2.2.2.2.2.2.2.2.1
  obtain ⟨q0, hq0⟩ := lvl_pos hN0 hV (kd_lt hk (by rcases hkt with h | h <;> omega))
  obtain ⟨q1, hq1⟩ := lvl_pos hN0 hVv (kd_lt hkv (by omega))
  have hev : (wsO X ρ κ (lvl X V N0))[q1]? = some (ρ v, .inr (ci, (List.range Nv).map fun j => cv ρ (vr X v (κ v) j))) := by rw [wsO_pos hq1, ent_O hkv hci]
  have he := wsO_pos (X := X) (ρ := ρ) (κ := κ) hq0
  have fin : ∀ (H1 : Heap) (locs1 : List Loc), va_P X.2.1 vwCl ((wsO X ρ κ (lvl X V N0)).set q0 (ρ t, ent X ρ t (up1 (κ t) i.toNat (v : Int)))) H1 → va_S (frA X) s.heap H1 locs1 → W p X.1 e R s m args below meth c H1 locs1 cells slots (MQ below (qcG X P V0 ρ0) args s mc ms (frA X)) (F0 m (pc + 1) ls (st.map (cv ρ))) := fun H1 locs1 hP1 hS1 => by
    rw [hn]
    exact kk p e R s m args below meth c mc ms ρ0 C H1 locs1 cells slots ls ρ (hh.wr hh.2.2.1.2.2.2 (hM.write C.2.2.2.2.2.2.2.2.2.2 hN0 hq0 hh.2.2.2.2.1 hS1 hP1 (up1_R (hM.2.2.1 t) (by unfold inR; omega)) (wr_cl hM hV (fun q hq => by
      rw [vr_1 (hl _), up1_s] at hq
      have e3 : dr (v : Int) = some v := by
        unfold dr
        rw [if_neg (by omega)]
        rfl
      rw [e3] at hq
      cases hq
      exact hVv))) hS1)
  rcases hkt with ⟨rfl, hca⟩ | ⟨rfl, rfl⟩
  · rw [ent_A hk] at he
    refine va_astqO (D := X.2.1) (tys := tysG X) C.1 C.2.1 ha.1 (hM.P N0) (hM.D N0) hh.2.2.2.2.1 q0 2 q1 ci he (E := "java/lang/Object") rfl (ha.2.1 _ hca) hev hc (inI hi hN) hd (fun H1 locs1 hP1 _ hS1 => fin H1 locs1 ?_ hS1)
    rw [clampI hi hN, rfo_up hl hv0.1, ← ent_A hk] at hP1
    exact hP1
  · rw [ent_W hk] at he
    refine va_astq (D := X.2.1) (tys := tysG X) C.1 C.2.1 ha.1 (hM.P N0) (hM.D N0) hh.2.2.2.2.1 q0 3 q1 ci he rfl hev hc (inI hi hN) hd (fun H1 locs1 hP1 _ hS1 => fin H1 locs1 ?_ hS1)
    rw [clampI hi hN, rfo_up hl hv0.1, ← ent_W hk] at hP1
    exact hP1
def ACw (own : String) (idx : Nat) : Prop := Cond.methodLink own idx arraycopyName ∈ tbG ∧ Cond.native arraycopyName ∈ tbG ∧ Cond.static arraycopyName ∈ tbG ∧ Cond.initialized "java/lang/System" ∈ tbG
theorem g_copyI (n' : Nat) {t0 t1 N0 N1 idx : Nat} {sp dp n : Int} (hd : decode mt.2.1 pc = .ok (.invokestatic idx, 3)) (hw : ACw mt.1.cls idx) (hk0 : kd X t0 = (20, N0)) (hk1 : kd X t1 = (20, N1)) (hl : ∀ j, X.2.2.2.2.2.2 t1 j = 0) (hN0 : N0 < 2147483648) (hN1 : N1 < 2147483648) (h1 : 0 ≤ sp) (h2 : 0 ≤ dp) (h3 : 0 ≤ n) (h4 : sp + n ≤ N0) (h5 : dp + n ≤ N1) (hdd : 1 ≤ d) (hrl : st.length ≤ 8) (hn : pc + 3 = n') (kk : G X mt d P V0 bc bs n' L st V (rowset κ t1 (va_cpy (κ t0) (κ t1) sp.toNat dp.toNat n.toNat))) : G X mt d P V0 bc bs pc L (Iv n :: Iv dp :: Rf t1 :: Iv sp :: Rf t0 :: st) V κ := fun p e R s m args below meth c mc ms ρ0 C H locs cells slots ls ρ hh => by
  have hM := hh.2.2.2.1
  obtain ⟨NN, hNN⟩ := hM.2.2.2.2
  have hV1 : V t1 = true := hh.2.2.1.2.2.1
  have hV0 : V t0 = true := hh.2.2.1.2.2.2.2.1
  have hx := C.2.2.2.2.1
  have g1 := C.2.2.2.2.2.2.2.2.2.1.1
  have g2 := C.2.2.2.2.2.2.2.2.2.1.2.1
  obtain ⟨q0, hq0⟩ := lvl_pos hNN hV0 (kd_lt hk0 (by omega))
  obtain ⟨q1, hq1⟩ := lvl_pos hNN hV1 (kd_lt hk1 (by omega))
  have he0 := wsO_pos (X := X) (ρ := ρ) (κ := κ) hq0
  rw [ent_I hk0] at he0
  have he1 := wsO_pos (X := X) (ρ := ρ) (κ := κ) hq1
  rw [ent_I hk1] at he1
  have r1 : inR sp := ⟨by omega, by omega⟩
  have r2 : inR dp := ⟨by omega, by omega⟩
  have r3 : inR n := ⟨by omega, by omega⟩
  refine va_copyi (ty := .int) (D := X.2.1) (tys := tysG X) C.1 C.2.1 (C.2.2.1.trans hh.1.1.symm) C.2.2.2.1 (hx _ hw.1) (hx _ hw.2.1) (hx _ hw.2.2.1) (hx _ hw.2.2.2) C.2.2.2.2.2.2.2.2.1.1 (hM.P NN) (hM.D NN) hh.2.2.2.2.1 q0 q1 0 0 he0 he1 rfl rfl rfl (fun z => by have := (ofI_lt r1 inR_0).mp z; omega) (fun z => by have := (ofI_lt r2 inR_0).mp z; omega) (fun z => by have := (ofI_lt r3 inR_0).mp z; omega) (by rw [clampN r1, clampN r3]; omega) (by rw [clampN r2, clampN r3]; omega) (fun _ _ => rfl) (by omega) (by have := nfw; rw [cat_sum]; omega) hd (fun H1 locs1 hP1 _ hS1 => ?_)
  rw [clampN r1, clampN r2, clampN r3, cpy_map, ← ent_I hk1] at hP1
  rw [hn]
  exact kk p e R s m args below meth c mc ms ρ0 C H1 locs1 cells slots ls ρ (hh.wr hh.2.2.1.2.2.2.2.2 (hM.write C.2.2.2.2.2.2.2.2.2.2 hNN hq1 hh.2.2.2.2.1 hS1 hP1 (cpy_R (hM.2.2.1 t0) (hM.2.2.1 t1)) (fun j q hq => by rw [vr_0 (hl j)] at hq; cases hq)) hS1)
theorem g_copyA (n' : Nat) {t0 t1 N0 N1 idx ci : Nat} {sp dp n : Int} {C0 : String} {T : u_T} {Nv : Nat} (hd : decode mt.2.1 pc = .ok (.invokestatic idx, 3)) (hw : ACw mt.1.cls idx) (hk0 : kd X t0 = (22, N0)) (hk1 : kd X t1 = (22, N1)) (hl0 : ∀ j, X.2.2.2.2.2.2 t0 j = 1) (hl1 : ∀ j, X.2.2.2.2.2.2 t1 j = 1) (hN0 : N0 < 2147483648) (hN1 : N1 < 2147483648) (h1 : 0 ≤ sp) (h2 : 0 ≤ dp) (h3 : 0 ≤ n) (h4 : sp + n ≤ N0) (h5 : dp + n ≤ N1) (hc : vwCl[ci]? = some (C0, T, Nv)) (hci : ci < 20) (hca : Cond.castable C0 "java/lang/Object" ∈ nwL) (hel : ∀ j q, dr (κ t0 j) = some q → kd X q = (ci, Nv)) (hdd : 1 ≤ d) (hrl : st.length ≤ 8) (hn : pc + 3 = n') (kk : G X mt d P V0 bc bs n' L st V (rowset κ t1 (va_cpy (κ t0) (κ t1) sp.toNat dp.toNat n.toNat))) : G X mt d P V0 bc bs pc L (Iv n :: Iv dp :: Rf t1 :: Iv sp :: Rf t0 :: st) V κ := fun p e R s m args below meth c mc ms ρ0 C H locs cells slots ls ρ hh => by
  have hM := hh.2.2.2.1
  obtain ⟨NN, hNN⟩ := hM.2.2.2.2
  have hV1 : V t1 = true := hh.2.2.1.2.2.1
  have hV0 : V t0 = true := hh.2.2.1.2.2.2.2.1
  have hx := C.2.2.2.2.1
  have ha := C.2.2.2.2.2.2.2.2.1
  have g1 := C.2.2.2.2.2.2.2.2.2.1.1
  have g2 := C.2.2.2.2.2.2.2.2.2.1.2.1
  obtain ⟨q0, hq0⟩ := lvl_pos hNN hV0 (kd_lt hk0 (by omega))
  obtain ⟨q1, hq1⟩ := lvl_pos hNN hV1 (kd_lt hk1 (by omega))
  have he0 := wsO_pos (X := X) (ρ := ρ) (κ := κ) hq0
  rw [ent_A hk0] at he0
  have he1 := wsO_pos (X := X) (ρ := ρ) (κ := κ) hq1
  rw [ent_A hk1] at he1
  have r1 : inR sp := ⟨by omega, by omega⟩
  have r2 : inR dp := ⟨by omega, by omega⟩
  have r3 : inR n := ⟨by omega, by omega⟩
  refine va_copyM (D := X.2.1) (tys := tysG X) (E0 := "java/lang/Object") (E1 := "java/lang/Object") C.1 C.2.1 (C.2.2.1.trans hh.1.1.symm) C.2.2.2.1 (hx _ hw.1) (hx _ hw.2.1) (hx _ hw.2.2.1) (hx _ hw.2.2.2) ha.1 (hM.P NN) (hM.D NN) hh.2.2.2.2.1 q0 q1 2 2 he0 he1 rfl rfl (fun z => by have := (ofI_lt r1 inR_0).mp z; omega) (fun z => by have := (ofI_lt r2 inR_0).mp z; omega) (fun z => by have := (ofI_lt r3 inR_0).mp z; omega) (by rw [clampN r1, clampN r3]; omega) (by rw [clampN r2, clampN r3]; omega) (fun i _ y hy => ?_) (by omega) (by have := nfw; rw [cat_sum]; omega) hd (fun H1 locs1 hP1 _ hS1 => ?_)
  · rw [vr_1 (hl0 _)] at hy
    have hy : (dr (κ t0 ((Int32.ofInt sp).toNatClampNeg + i))).map ρ = some y := hy
    cases hq : dr (κ t0 ((Int32.ofInt sp).toNatClampNeg + i)) with
    | none => rw [hq] at hy; cases hy
    | some q =>
      rw [hq] at hy
      have hy : ρ q = y := Option.some.inj hy
      subst hy
      have hVq : V q = true := hM.2.2.2.1 t0 _ q hV0 (by rw [vr_1 (hl0 _), hq])
      have hkq := hel _ q hq
      obtain ⟨q2, hq2⟩ := lvl_pos hNN hVq (kd_lt hkq (by omega))
      have hev : (wsO X ρ κ (lvl X V NN))[q2]? = some (ρ q, .inr (ci, (List.range Nv).map fun j => cv ρ (vr X q (κ q) j))) := by rw [wsO_pos hq2, ent_O hkq hci]
      exact va_rAny ha.1 (hM.P NN) hev hc (fun comp c0 z1 z2 => vb_asgC (ha.2.1 _ hca) comp c0 z1 z2)
  · have e3 : va_cpy (fun j => rfo ρ (vr X t0 (κ t0) j)) (fun j => rfo ρ (vr X t1 (κ t1) j)) sp.toNat dp.toNat n.toNat = fun j => rfo ρ (vr X t1 (va_cpy (κ t0) (κ t1) sp.toNat dp.toNat n.toNat) j) := by
      funext j
      rw [vr_1 (hl1 j)]
      unfold va_cpy
      split
      · show rfo ρ (vr X t0 (κ t0) (sp.toNat + (j - dp.toNat))) = _
        rw [vr_1 (hl0 _)]
      · show rfo ρ (vr X t1 (κ t1) j) = _
        rw [vr_1 (hl1 _)]
    rw [clampN r1, clampN r2, clampN r3, e3, ← ent_A hk1] at hP1
    rw [hn]
    exact kk p e R s m args below meth c mc ms ρ0 C H1 locs1 cells slots ls ρ (hh.wr hh.2.2.1.2.2.2.2.2 (hM.write C.2.2.2.2.2.2.2.2.2.2 hNN hq1 hh.2.2.2.2.1 hS1 hP1 (cpy_R (hM.2.2.1 t0) (hM.2.2.1 t1)) (fun j q hq => by
      rw [vr_1 (hl1 j)] at hq
      unfold va_cpy at hq
      split at hq
      · exact hM.2.2.2.1 t0 _ q hV0 (by rw [vr_1 (hl0 _)]; exact hq)
      · exact hM.2.2.2.1 t1 _ q hV1 (by rw [vr_1 (hl1 _)]; exact hq))) hS1)
theorem oldM {ρ : Nat → Nat} {U : State} {H : Heap} (hM : mm X ρ V κ U H) {t N : Nat} (hV : V t = true) (hk : kd X t = (32, N)) : va_Mi "[Ljava/lang/Object;" (ρ t) U := by
  have h := (hM.old hV (by rw [hk]; show 30 ≤ 32; omega)).2.2.2
  unfold oldOk at h
  rw [hk] at h
  exact h
theorem g_ldcM (n' : Nat) (t : Nat) {idx N : Nat} (hd : decode mt.2.1 pc = .ok (.ldc idx, 2)) (hw : Cond.classLink mt.1.cls idx "[Ljava/lang/Object;" ∈ tbG) (hk : kd X t = (32, N)) (hV : V t = true) (hn : pc + 2 = n') (kk : G X mt d P V0 bc bs n' L (Rf t :: st) V κ) : G X mt d P V0 bc bs pc L st V κ := fun p e R s m args below meth c mc ms ρ0 C H locs cells slots ls ρ hh => by
  refine va_ldcM C.1 C.2.1 C.2.2.2.1 (C.2.2.2.2.1 _ hw) (oldM hh.2.2.2.1 hV hk) hd ?_
  rw [hn]
  exact kk p e R s m args below meth c mc ms ρ0 C H locs cells slots ls ρ (hh.stk ⟨hV, hh.2.2.1⟩)
def gcN : MethodName := ⟨"java/lang/Object", "getClass", "()Ljava/lang/Class;"⟩
theorem g_getC0 (n' : Nat) (tm : Nat) {t idx N Nm : Nat} (hd : decode mt.2.1 pc = .ok (.invokevirtual idx, 3)) (hw1 : Cond.methodLink mt.1.cls idx gcN ∈ tbG) (hw2 : Cond.declares gcN ∈ nwL) (hw3 : Cond.selects "[Ljava/lang/Object;" gcN gcN ∈ tbG) (hw4 : Cond.instanceMethod gcN ∈ tbG) (hw5 : Cond.native gcN ∈ tbG) (hk : kd X t = (22, N)) (hkm : kd X tm = (32, Nm)) (hV : V tm = true) (hdd : 1 ≤ d) (hrl : st.length ≤ 8) (hn : pc + 3 = n') (kk : G X mt d P V0 bc bs n' L (Rf tm :: st) V κ) : G X mt d P V0 bc bs pc L (Rf t :: st) V κ := fun p e R s m args below meth c mc ms ρ0 C H locs cells slots ls ρ hh => by
  have hM := hh.2.2.2.1
  have hx := C.2.2.2.2.1
  have ha := C.2.2.2.2.2.2.2.2.1
  have g1 := C.2.2.2.2.2.2.2.2.2.1.1
  have g2 := C.2.2.2.2.2.2.2.2.2.1.2.1
  have hVt : V t = true := hh.2.2.1.1
  have hat := (hM.at hVt (kd_lt hk (by omega))).2
  rw [ent_A hk] at hat
  have hRA := (ha.1.2 2 _ rfl).2
  obtain ⟨kA, comp, r1, r2, r3, r4⟩ := hRA
  refine va_getC (C := "[Ljava/lang/Object;") C.1 C.2.1 (C.2.2.1.trans hh.1.1.symm) C.2.2.2.1 (hx _ hw1) (va_Nw.use rfl (ha.2.1 _ hw2)) (hx _ hw3) (hx _ hw4) (hx _ hw5) (oldM hM hV hkm) ⟨_, hat, rfl, r4⟩ (by omega) (by rw [cat_sum]; omega) hd ?_
  rw [hn]
  exact kk p e R s m args below meth c mc ms ρ0 C H locs cells slots ls ρ (hh.stk ⟨hV, hh.2.2.1.2⟩)
theorem g_cast (n' : Nat) {t idx ci N : Nat} {C0 : String} {T : u_T} (hd : decode mt.2.1 pc = .ok (.checkcast idx, 3)) (hw : Cond.classLink mt.1.cls idx C0 ∈ tbG) (hc : vwCl[ci]? = some (C0, T, N)) (hci : ci < 20) (hk : kd X t = (ci, N)) (hn : pc + 3 = n') (kk : G X mt d P V0 bc bs n' L (Rf t :: st) V κ) : G X mt d P V0 bc bs pc L (Rf t :: st) V κ := fun p e R s m args below meth c mc ms ρ0 C H locs cells slots ls ρ hh => by
  have hM := hh.2.2.2.1
  obtain ⟨N0, hN0⟩ := hM.2.2.2.2
  have ha := C.2.2.2.2.2.2.2.2.1
  have hV : V t = true := hh.2.2.1.1
  obtain ⟨q0, hq0⟩ := lvl_pos hN0 hV (kd_lt hk (by omega))
  have he : (wsO X ρ κ (lvl X V N0))[q0]? = some (ρ t, .inr (ci, (List.range N).map fun j => cv ρ (vr X t (κ t) j))) := by rw [wsO_pos hq0, ent_O hk hci]
  refine va_castS C.1 C.2.1 C.2.2.2.1 (C.2.2.2.2.1 _ hw) (ha.1.1 ci _ hc).2 (va_recv ha.1 (hM.P N0) hc he) hd ?_
  rw [hn]
  exact kk p e R s m args below meth c mc ms ρ0 C H locs cells slots ls ρ (hh.stk ⟨hV, hh.2.2.1.2⟩)
end G8
