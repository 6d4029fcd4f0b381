/-! the JDK's methods (printed by wip/whole/gen26.py) -/
theorem Met.ofWF {l : Launch} {y : MethodName} {ws ws' : List Cond} {rm : Room} {Pc : Array Value → State → Prop} {Qc : Array Value → State → Outcome → State → Prop} {mc ms : Nat} {free : Addr → Prop} {cc : ByteArray} {maxL : Nat} {ret : Option FieldType}
    (hy : plainFor y = true) (hw : ws = Cond.code y cc maxL ret :: ws')
    (body : ∀ p e s m args below meth c s₁, BodyLoose p l y (headSpec ws rm) cc maxL ret e s m args below meth c s₁ → c.maxLocals = maxL → Pc args s →
      W p l e (headSpec ws rm).room s m args below meth c s.heap [] 0 0 (MQ below Qc args s mc ms free) (entryFrame m args maxL)) : Met l y ws rm Pc Qc mc ms free := by
  refine MetFree.of_bodySF (code := cc) (maxLocals := maxL) (ret := ret) hy ?_ ?_
  · intro args s m h hn
    obtain ⟨meth, c, h1, h2, h3, h4, h5, h6, -, -⟩ := Cond.code_spec hn (atoms_spec (ws := ws) h _ (by rw [hw]; exact List.mem_cons_self))
    exact ⟨meth, c, h1, h2, h3, h4, h5, h6⟩
  · intro p e s m args below meth c s₁ B hml hP _
    have hh0 : s₁.heap = s.heap := by rw [B.state]; rfl
    obtain ⟨t, a1, o, b1, b2, b3⟩ := body p e s m args below meth c s₁ B hml hP s₁ hh0 (Stand.of_body B)
    exact ⟨t, o, a1, b1, b2, ⟨b3.1, b3.2⟩⟩
theorem Ct.ofF {X : Cx} {mt : Mt} {d : Nat} {P : Po} {bc bs : Nat} {L : Lc} {V : Vs} {κ : Ks} {as : List Av} (k : Nat) (hy : plainFor mt.1 = true) (hlen : as.length + k = mt.2.2.1) (hL : as.map some ++ List.replicate k none = L) (h : G X mt d P V bc bs 0 L [] V κ) : Ct X mt d bc bs as V κ P := by
  intro ρ
  refine Met.ofWF (cc := mt.2.1) (maxL := mt.2.2.1) (ret := mt.2.2.2) hy rfl ?_
  intro p e s m args below meth c s₁ B hml hv
  obtain ⟨rfl, hok, hM, hA, hlo⟩ := hv
  have hts := atoms_spec (ws := .code mt.1 mt.2.1 mt.2.2.1 mt.2.2.2 :: tbG) B.pre
  have hl := lv_entry (as.map (cv ρ)) (n := mt.2.2.1) (by rw [lg_sl_len]; omega)
  rw [lg_entry_eq]
  refine h p e _ s m _ below meth c bc bs ρ ⟨B.exec, B.bytes, hml, findClass_of_methodNamed B.named, fun w hw => hts w (List.mem_cons_of_mem _ hw), B.returns, B.notSynchronized, (name_of_methodNamed B.named B.method).1, hA, ⟨Nat.le_refl _, Nat.le_refl _, Nat.le_refl _, Nat.le_refl _⟩, hlo⟩ s.heap [] 0 0 _ ρ ⟨⟨hl.1, hl.2.1, fun i v hi => ?_⟩, hL ▸ okL_of V as k hok, trivial, hM, va_S.rf, ⟨by omega, by omega⟩, fun t ht => ⟨ht, rfl⟩⟩
  rw [← hL] at hi
  have h1 : as[i]? = some v := by
    by_cases hi2 : i < as.length
    · rw [List.getElem?_append_left (by simpa using hi2)] at hi
      rw [List.getElem?_map] at hi
      cases ha : as[i]? with
      | none => rw [ha] at hi; cases hi
      | some w => rw [ha] at hi; cases hi; rfl
    · rw [List.getElem?_append_right (by simpa using hi2)] at hi
      rw [List.getElem?_replicate] at hi
      split at hi <;> cases hi
  have h2 := lv_args_get (ρ := ρ) as 0 i v h1
  rw [Nat.zero_add] at h2
  exact hl.2.2 (i, cv ρ v) h2
theorem tmod168 (x : Int) : (0 ≤ x → x.tmod 168 = x % 168) ∧ (x < 0 → (x % 168 = 0 ∧ x.tmod 168 = 0) ∨ (x % 168 ≠ 0 ∧ x.tmod 168 = x % 168 - 168)) := by
  refine ⟨fun h => Int.tmod_eq_emod_of_nonneg h, fun h => ?_⟩
  rw [Int.tmod_eq_emod]
  split
  · rename_i c
    rcases c with c | c
    · omega
    · left
      have := Int.emod_eq_zero_of_dvd c
      omega
  · rename_i c
    right
    have : x % 168 ≠ 0 := fun z => c (Or.inr (Int.dvd_of_emod_eq_zero z))
    exact ⟨this, rfl⟩
theorem xor168 {x : Int} (h : inR x) : bXor x 168 < 0 ↔ x < 0 := by
  unfold bXor
  have e1 : ∀ z : Int32, (z.toInt < 0) ↔ z.toBitVec.msb = true := fun z => by
    have := BitVec.msb_eq_toInt (x := z.toBitVec)
    rw [this, decide_eq_true_eq]
    rfl
  rw [e1, Int32.toBitVec_xor, BitVec.msb_xor]
  have e2 : (Int32.ofInt 168).toBitVec.msb = false := by decide
  rw [e2, Bool.xor_false, ← e1, inR_toInt h]
def bc1 (x : Int) : Int := x - bAnd (bUshr x 1) 1431655765
def bc2 (x : Int) : Int := bAnd x 858993459 + bAnd (bUshr x 2) 858993459
def bc3 (x : Int) : Int := bAnd (x + bUshr x 4) 252645135
def bc4 (x : Int) : Int := x + bUshr x 8
def bc5 (x : Int) : Int := x + bUshr x 16
theorem bc_n : ∀ n : Nat, n < 1024 → bAnd (bc5 (bc4 (bc3 (bc2 (bc1 (n : Int)))))) 63 = pc2 32 (n : Int) := by decide +kernel
theorem bc_ok {x : Int} (h : 0 ≤ x ∧ x < 1024) : bAnd (bc5 (bc4 (bc3 (bc2 (bc1 x))))) 63 = pc2 32 x := by
  obtain ⟨n, rfl⟩ := Int.eq_ofNat_of_zero_le h.1
  exact bc_n n (by omega)
theorem capN_lt (n : Int) : capN n < 100 := by
  unfold capN
  (repeat' split) <;> omega
theorem capN_ge {n : Int} (h : n ≤ 33) : n ≤ capN n := by
  unfold capN
  (repeat' split) <;> omega
set_option maxHeartbeats 4000000 in
set_option maxRecDepth 20000 in
theorem c_J9_min_7cf53 {B : Bs} {n0 : Nat} {V : Vs} {κ : Ks} {a b : Int} (r_a : inR a) (r_b : inR b) : Ct (XR B n0) mJ9_min_7cf53 1 0 0 [Iv a, Iv b] V κ (Ex (some (Iv (min a b))) V κ) := by
  refine Ct.ofF (L := [some (Iv a), some (Iv b)]) 0 (by decide +kernel) rfl rfl ?_
  refine g_iload_n 1 dJ9_min_7cf53_0 rfl rfl ?_
  refine g_iload_n 2 dJ9_min_7cf53_1 rfl rfl ?_
  refine g_icmp_gt 9 5 dJ9_min_7cf53_2 (by first | assumption | omega) (by first | assumption | omega) (by decide) rfl (fun h1 => ?_) (fun h1 => ?_)
  · refine g_iload_n 10 dJ9_min_7cf53_9 rfl rfl ?_
    refine g_iret dJ9_min_7cf53_10 rfl ?_
    exact ⟨congrArg (fun x => some (Iv x)) (by omega), rfl, rfl⟩
  refine g_iload_n 6 dJ9_min_7cf53_5 rfl rfl ?_
  refine g_goto 10 dJ9_min_7cf53_6 (by decide) ?_
  refine g_iret dJ9_min_7cf53_10 rfl ?_
  exact ⟨congrArg (fun x => some (Iv x)) (by omega), rfl, rfl⟩
set_option maxHeartbeats 4000000 in
set_option maxRecDepth 20000 in
theorem c_J9_max_7cf53 {B : Bs} {n0 : Nat} {V : Vs} {κ : Ks} {a b : Int} (r_a : inR a) (r_b : inR b) : Ct (XR B n0) mJ9_max_7cf53 1 0 0 [Iv a, Iv b] V κ (Ex (some (Iv (max a b))) V κ) := by
  refine Ct.ofF (L := [some (Iv a), some (Iv b)]) 0 (by decide +kernel) rfl rfl ?_
  refine g_iload_n 1 dJ9_max_7cf53_0 rfl rfl ?_
  refine g_iload_n 2 dJ9_max_7cf53_1 rfl rfl ?_
  refine g_icmp_lt 9 5 dJ9_max_7cf53_2 (by first | assumption | omega) (by first | assumption | omega) (by decide) rfl (fun h1 => ?_) (fun h1 => ?_)
  · refine g_iload_n 10 dJ9_max_7cf53_9 rfl rfl ?_
    refine g_iret dJ9_max_7cf53_10 rfl ?_
    exact ⟨congrArg (fun x => some (Iv x)) (by omega), rfl, rfl⟩
  refine g_iload_n 6 dJ9_max_7cf53_5 rfl rfl ?_
  refine g_goto 10 dJ9_max_7cf53_6 (by decide) ?_
  refine g_iret dJ9_max_7cf53_10 rfl ?_
  exact ⟨congrArg (fun x => some (Iv x)) (by omega), rfl, rfl⟩
set_option maxHeartbeats 4000000 in
set_option maxRecDepth 20000 in
theorem c_J9_floorMod_7cf53 {B : Bs} {n0 : Nat} {V : Vs} {κ : Ks} {x : Int} (r_x : inR x) : Ct (XR B n0) mJ9_floorMod_7cf53 1 0 0 [Iv x, Iv 168] V κ (Ex (some (Iv (x % 168))) V κ) := by
  refine Ct.ofF (L := [some (Iv x), some (Iv 168), none]) 1 (by decide +kernel) rfl rfl ?_
  refine g_iload_n 1 dJ9_floorMod_7cf53_0 rfl rfl ?_
  refine g_iload_n 2 dJ9_floorMod_7cf53_1 rfl rfl ?_
  refine g_iremT 3 dJ9_floorMod_7cf53_2 (by omega) (by omega) (by omega) rfl ?_
  have tm := tmod168 x
  have xs := xor168 r_x
  refine g_istore_n (L' := [some (Iv x), some (Iv 168), some (Iv (x.tmod 168))]) 4 dJ9_floorMod_7cf53_3 rfl (by decide) rfl ?_
  refine g_iload_n 5 dJ9_floorMod_7cf53_4 rfl rfl ?_
  refine g_iload_n 6 dJ9_floorMod_7cf53_5 rfl rfl ?_
  refine g_ixor 7 dJ9_floorMod_7cf53_6 rfl ?_
  have xr : inR (bXor x 168) := toInt_inR _
  refine g_if_ge 18 10 dJ9_floorMod_7cf53_7 (by first | assumption | omega) (by decide) rfl (fun h1 => ?_) (fun h1 => ?_)
  · refine g_iload_n 19 dJ9_floorMod_7cf53_18 rfl rfl ?_
    refine g_iret dJ9_floorMod_7cf53_19 rfl ?_
    exact ⟨congrArg (fun x => some (Iv x)) (by omega), rfl, rfl⟩
  refine g_iload_n 11 dJ9_floorMod_7cf53_10 rfl rfl ?_
  refine g_if_eq 18 14 dJ9_floorMod_7cf53_11 (by first | assumption | omega) (by decide) rfl (fun h2 => ?_) (fun h2 => ?_)
  · refine g_iload_n 19 dJ9_floorMod_7cf53_18 rfl rfl ?_
    refine g_iret dJ9_floorMod_7cf53_19 rfl ?_
    exact ⟨congrArg (fun x => some (Iv x)) (by omega), rfl, rfl⟩
  refine g_iload_n 15 dJ9_floorMod_7cf53_14 rfl rfl ?_
  refine g_iload_n 16 dJ9_floorMod_7cf53_15 rfl rfl ?_
  refine g_iadd 17 dJ9_floorMod_7cf53_16 rfl ?_
  refine g_iret dJ9_floorMod_7cf53_17 rfl ?_
  exact ⟨congrArg (fun x => some (Iv x)) (by omega), rfl, rfl⟩
set_option maxHeartbeats 4000000 in
set_option maxRecDepth 20000 in
theorem c_J6_bitCount_0f7a4 {B : Bs} {n0 : Nat} {V : Vs} {κ : Ks} {x : Int} (h_x : 0 ≤ x ∧ x < 1024) : Ct (XR B n0) mJ6_bitCount_0f7a4 1 0 0 [Iv x] V κ (Ex (some (Iv (pc2 32 x))) V κ) := by
  refine Ct.of (L := [some (Iv x)]) 0 (by decide +kernel) rfl rfl ?_
  refine g_iload_n 1 dJ6_bitCount_0f7a4_0 rfl rfl ?_
  refine g_iload_n 2 dJ6_bitCount_0f7a4_1 rfl rfl ?_
  refine g_iconst 3 dJ6_bitCount_0f7a4_2 (by decide) rfl ?_
  refine g_iushr 4 dJ6_bitCount_0f7a4_3 rfl ?_
  refine g_ldcw (n := 1431655765) 7 dJ6_bitCount_0f7a4_4 kcJ6_265 (by decide) rfl ?_
  refine g_iand 8 dJ6_bitCount_0f7a4_7 rfl ?_
  refine g_isub 9 dJ6_bitCount_0f7a4_8 rfl ?_
  refine G.eqi (show (x - (bAnd (bUshr x 1) 1431655765)) = bc1 x from rfl) ?_
  refine g_istore_n (L' := [some (Iv (bc1 x))]) 10 dJ6_bitCount_0f7a4_9 rfl (by decide) rfl ?_
  refine g_iload_n 11 dJ6_bitCount_0f7a4_10 rfl rfl ?_
  refine g_ldcw (n := 858993459) 14 dJ6_bitCount_0f7a4_11 kcJ6_266 (by decide) rfl ?_
  refine g_iand 15 dJ6_bitCount_0f7a4_14 rfl ?_
  refine g_iload_n 16 dJ6_bitCount_0f7a4_15 rfl rfl ?_
  refine g_iconst 17 dJ6_bitCount_0f7a4_16 (by decide) rfl ?_
  refine g_iushr 18 dJ6_bitCount_0f7a4_17 rfl ?_
  refine g_ldcw (n := 858993459) 21 dJ6_bitCount_0f7a4_18 kcJ6_266 (by decide) rfl ?_
  refine g_iand 22 dJ6_bitCount_0f7a4_21 rfl ?_
  refine g_iadd 23 dJ6_bitCount_0f7a4_22 rfl ?_
  refine G.eqi (show ((bAnd (bc1 x) 858993459) + (bAnd (bUshr (bc1 x) 2) 858993459)) = bc2 (bc1 x) from rfl) ?_
  refine g_istore_n (L' := [some (Iv (bc2 (bc1 x)))]) 24 dJ6_bitCount_0f7a4_23 rfl (by decide) rfl ?_
  refine g_iload_n 25 dJ6_bitCount_0f7a4_24 rfl rfl ?_
  refine g_iload_n 26 dJ6_bitCount_0f7a4_25 rfl rfl ?_
  refine g_iconst 27 dJ6_bitCount_0f7a4_26 (by decide) rfl ?_
  refine g_iushr 28 dJ6_bitCount_0f7a4_27 rfl ?_
  refine g_iadd 29 dJ6_bitCount_0f7a4_28 rfl ?_
  refine g_ldcw (n := 252645135) 32 dJ6_bitCount_0f7a4_29 kcJ6_267 (by decide) rfl ?_
  refine g_iand 33 dJ6_bitCount_0f7a4_32 rfl ?_
  refine G.eqi (show (bAnd ((bc2 (bc1 x)) + (bUshr (bc2 (bc1 x)) 4)) 252645135) = bc3 (bc2 (bc1 x)) from rfl) ?_
  refine g_istore_n (L' := [some (Iv (bc3 (bc2 (bc1 x))))]) 34 dJ6_bitCount_0f7a4_33 rfl (by decide) rfl ?_
  refine g_iload_n 35 dJ6_bitCount_0f7a4_34 rfl rfl ?_
  refine g_iload_n 36 dJ6_bitCount_0f7a4_35 rfl rfl ?_
  refine g_bipush 38 dJ6_bitCount_0f7a4_36 (by decide) rfl ?_
  refine g_iushr 39 dJ6_bitCount_0f7a4_38 rfl ?_
  refine g_iadd 40 dJ6_bitCount_0f7a4_39 rfl ?_
  refine G.eqi (show ((bc3 (bc2 (bc1 x))) + (bUshr (bc3 (bc2 (bc1 x))) 8)) = bc4 (bc3 (bc2 (bc1 x))) from rfl) ?_
  refine g_istore_n (L' := [some (Iv (bc4 (bc3 (bc2 (bc1 x)))))]) 41 dJ6_bitCount_0f7a4_40 rfl (by decide) rfl ?_
  refine g_iload_n 42 dJ6_bitCount_0f7a4_41 rfl rfl ?_
  refine g_iload_n 43 dJ6_bitCount_0f7a4_42 rfl rfl ?_
  refine g_bipush 45 dJ6_bitCount_0f7a4_43 (by decide) rfl ?_
  refine g_iushr 46 dJ6_bitCount_0f7a4_45 rfl ?_
  refine g_iadd 47 dJ6_bitCount_0f7a4_46 rfl ?_
  refine G.eqi (show ((bc4 (bc3 (bc2 (bc1 x)))) + (bUshr (bc4 (bc3 (bc2 (bc1 x)))) 16)) = bc5 (bc4 (bc3 (bc2 (bc1 x)))) from rfl) ?_
  refine g_istore_n (L' := [some (Iv (bc5 (bc4 (bc3 (bc2 (bc1 x))))))]) 48 dJ6_bitCount_0f7a4_47 rfl (by decide) rfl ?_
  refine g_iload_n 49 dJ6_bitCount_0f7a4_48 rfl rfl ?_
  refine g_bipush 51 dJ6_bitCount_0f7a4_49 (by decide) rfl ?_
  refine g_iand 52 dJ6_bitCount_0f7a4_51 rfl ?_
  refine g_iret dJ6_bitCount_0f7a4_52 rfl ?_
  exact ⟨congrArg (fun x => some (Iv x)) (bc_ok h_x), rfl, rfl⟩
set_option maxHeartbeats 4000000 in
set_option maxRecDepth 20000 in
theorem c_J3_checkIndex_8e157 {B : Bs} {n0 : Nat} {V : Vs} {κ : Ks} {i n : Int} (h_i : 0 ≤ i ∧ i < n) (r_n : inR n) : Ct (XR B n0) mJ3_checkIndex_8e157 1 0 0 [Iv i, Iv n, Nl] V κ (Ex (some (Iv i)) V κ) := by
  refine Ct.of (L := [some (Iv i), some (Iv n), some (Nl)]) 0 (by decide +kernel) rfl rfl ?_
  refine g_iload_n 1 dJ3_checkIndex_8e157_0 rfl rfl ?_
  refine g_if_lt 9 4 dJ3_checkIndex_8e157_1 (by first | assumption | omega) (by decide) rfl (fun h1 => ?_) (fun h1 => ?_)
  · exfalso
    omega
  refine g_iload_n 5 dJ3_checkIndex_8e157_4 rfl rfl ?_
  refine g_iload_n 6 dJ3_checkIndex_8e157_5 rfl rfl ?_
  refine g_icmp_lt 16 9 dJ3_checkIndex_8e157_6 (by first | assumption | omega) (by first | assumption | omega) (by decide) rfl (fun h2 => ?_) (fun h2 => ?_)
  · refine g_iload_n 17 dJ3_checkIndex_8e157_16 rfl rfl ?_
    refine g_iret dJ3_checkIndex_8e157_17 rfl ?_
    exact ⟨rfl, rfl, rfl⟩
  exfalso
  omega
set_option maxHeartbeats 4000000 in
set_option maxRecDepth 20000 in
theorem c_J15_checkIndex_7cf53 {B : Bs} {n0 : Nat} {V : Vs} {κ : Ks} {i n : Int} (h_i : 0 ≤ i ∧ i < n) (r_n : inR n) : Ct (XR B n0) mJ15_checkIndex_7cf53 2 0 0 [Iv i, Iv n] V κ (Ex (some (Iv i)) V κ) := by
  refine Ct.of (L := [some (Iv i), some (Iv n)]) 0 (by decide +kernel) rfl rfl ?_
  refine g_iload_n 1 dJ15_checkIndex_7cf53_0 rfl rfl ?_
  refine g_iload_n 2 dJ15_checkIndex_7cf53_1 rfl rfl ?_
  refine g_null 3 dJ15_checkIndex_7cf53_2 rfl ?_
  refine e_S 6 0 0 [Iv i, Iv n, Nl] [] dJ15_checkIndex_7cf53_3 csJ15_105 mwJ3_checkIndex_8e157 (by decide) rfl (Nat.le_of_ble_eq_true rfl) rfl rfl rfl (c_J3_checkIndex_8e157 (by omega) (by omega)) ?_
  refine g_iret dJ15_checkIndex_7cf53_6 rfl ?_
  exact ⟨rfl, rfl, rfl⟩
set_option maxHeartbeats 4000000 in
set_option maxRecDepth 20000 in
theorem c_size_0 {B : Bs} {n0 : Nat} {V : Vs} {κ : Ks}   : Ct (XR B n0) mJx4a65c_size_8abf5 1 0 0 [Rf 2] V κ (Ex (some (Iv (κ 2 2))) V κ) := by
  refine Ct.of (L := [some (Rf 2)]) 0 (by decide +kernel) rfl rfl ?_
  refine g_aload_n 1 dJx4a65c_size_8abf5_0 rfl rfl ?_
  refine r_getI 4 (κ 2 2) dJx4a65c_size_8abf5_1 fgJx4a65c_48 kd_2 ly_2_2 rfl (rfl) (fun r1 => ?_)
  refine g_iret dJx4a65c_size_8abf5_4 rfl ?_
  exact ⟨rfl, rfl, rfl⟩
set_option maxHeartbeats 4000000 in
set_option maxRecDepth 20000 in
theorem c_elem_0 {B : Bs} {n0 : Nat} {V : Vs} {κ : Ks} {i n : Int} (hL : Lst κ 0 n) (h_i : 0 ≤ i ∧ i < n) (h_n : n ≤ 33) : Ct (XR B n0) mJx4a65c_elementData_915e3 1 0 0 [Rf 2, Iv i] V κ (Ex (some (Rf (100 + i.toNat))) V κ) := by
  have ee : etg 0 n = 1000 + 100 * 0 + capN n := by unfold etg; rw [if_neg (by omega)]
  refine Ct.of (L := [some (Rf 2), some (Iv i)]) 0 (by decide +kernel) rfl rfl ?_
  refine g_aload_n 1 dJx4a65c_elementData_915e3_0 rfl rfl ?_
  refine r_getD 4 (dr (κ 2 1)) dJx4a65c_elementData_915e3_1 fgJx4a65c_9 kd_2 ly_2_1 rfl (congrArg dr (rfl)) ?_
  rw [show dr (κ 2 1) = some (1000 + 100 * 0 + capN n) by rw [hL.2.1, ee]; unfold dr; rw [if_neg (by omega)]; exact congrArg some (by omega)]
  refine g_iload_n 5 dJx4a65c_elementData_915e3_4 rfl rfl ?_
  refine g_aald 6 dJx4a65c_elementData_915e3_5 (kd_E (k := 0) (capN_lt n)) (Or.inl rfl) (by have := capN_lt n; omega) (by have := capN_ge (n := n) (by omega); omega) (by rw [ly_E (by omega)]; decide) rfl (fun _ => ?_)
  have ev : vr (XR B n0) (1000 + 100 * 0 + capN n) (κ (1000 + 100 * 0 + capN n)) i.toNat = Rf (100 + i.toNat) := by
    rw [vr_1 (ly_E (by omega) _)]
    have e0 := hL.2.2.2 i.toNat (by omega) (by omega)
    rw [if_pos (by omega), ee] at e0
    rw [e0]
    unfold dr
    rw [if_neg (by omega)]
    exact congrArg (fun z => Sum.inr (some z)) (by omega)
  rw [ev]
  refine g_aret dJx4a65c_elementData_915e3_6 rfl (by first | exact Or.inl ⟨_, rfl⟩ | exact Or.inr ⟨_, rfl⟩) ?_
  exact ⟨rfl, rfl, rfl⟩
set_option maxHeartbeats 4000000 in
set_option maxRecDepth 20000 in
theorem c_get_0 {B : Bs} {n0 : Nat} {V : Vs} {κ : Ks} {i n : Int} (hL : Lst κ 0 n) (h_i : 0 ≤ i ∧ i < n) (h_n : n ≤ 33) : Ct (XR B n0) mJx4a65c_get_915e3 3 0 0 [Rf 2, Iv i] V κ (Ex (some (Rf (100 + i.toNat))) V κ) := by
  have e2 : κ 2 2 = n := hL.2.2.1
  refine Ct.of (L := [some (Rf 2), some (Iv i)]) 0 (by decide +kernel) rfl rfl ?_
  refine g_iload_n 1 dJx4a65c_get_915e3_0 rfl rfl ?_
  refine g_aload_n 2 dJx4a65c_get_915e3_1 rfl rfl ?_
  refine r_getI 5 (κ 2 2) dJx4a65c_get_915e3_2 fgJx4a65c_48 kd_2 ly_2_2 rfl (rfl) (fun r1 => ?_)
  refine e_S 8 0 0 [Iv i, Iv (κ 2 2)] [] dJx4a65c_get_915e3_5 csJx4a65c_118 mwJ15_checkIndex_7cf53 (by decide) rfl (Nat.le_of_ble_eq_true rfl) rfl rfl rfl (c_J15_checkIndex_7cf53 (by omega) (by omega)) ?_
  refine g_pop 9 dJx4a65c_get_915e3_8 rfl ?_
  refine g_aload_n 10 dJx4a65c_get_915e3_9 rfl rfl ?_
  refine g_iload_n 11 dJx4a65c_get_915e3_10 rfl rfl ?_
  refine e_V 14 0 0 [Iv i] [] dJx4a65c_get_915e3_11 cvJx4a65c_123 mwJx4a65c_elementData_915e3 kd_2 (by decide) rfl (Nat.le_of_ble_eq_true rfl) rfl rfl rfl (c_elem_0 hL h_i h_n) ?_
  refine g_aret dJx4a65c_get_915e3_14 rfl (by first | exact Or.inl ⟨_, rfl⟩ | exact Or.inr ⟨_, rfl⟩) ?_
  exact ⟨rfl, rfl, rfl⟩
set_option maxHeartbeats 4000000 in
set_option maxRecDepth 20000 in
theorem c_size_1 {B : Bs} {n0 : Nat} {V : Vs} {κ : Ks}   : Ct (XR B n0) mJx4a65c_size_8abf5 1 0 0 [Rf 3] V κ (Ex (some (Iv (κ 3 2))) V κ) := by
  refine Ct.of (L := [some (Rf 3)]) 0 (by decide +kernel) rfl rfl ?_
  refine g_aload_n 1 dJx4a65c_size_8abf5_0 rfl rfl ?_
  refine r_getI 4 (κ 3 2) dJx4a65c_size_8abf5_1 fgJx4a65c_48 kd_3 ly_3_2 rfl (rfl) (fun r1 => ?_)
  refine g_iret dJx4a65c_size_8abf5_4 rfl ?_
  exact ⟨rfl, rfl, rfl⟩
set_option maxHeartbeats 4000000 in
set_option maxRecDepth 20000 in
theorem c_elem_1 {B : Bs} {n0 : Nat} {V : Vs} {κ : Ks} {i n : Int} (hL : Lst κ 1 n) (h_i : 0 ≤ i ∧ i < n) (h_n : n ≤ 33) : Ct (XR B n0) mJx4a65c_elementData_915e3 1 0 0 [Rf 3, Iv i] V κ (Ex (some (Rf (200 + i.toNat))) V κ) := by
  have ee : etg 1 n = 1000 + 100 * 1 + capN n := by unfold etg; rw [if_neg (by omega)]
  refine Ct.of (L := [some (Rf 3), some (Iv i)]) 0 (by decide +kernel) rfl rfl ?_
  refine g_aload_n 1 dJx4a65c_elementData_915e3_0 rfl rfl ?_
  refine r_getD 4 (dr (κ 3 1)) dJx4a65c_elementData_915e3_1 fgJx4a65c_9 kd_3 ly_3_1 rfl (congrArg dr (rfl)) ?_
  rw [show dr (κ 3 1) = some (1000 + 100 * 1 + capN n) by rw [hL.2.1, ee]; unfold dr; rw [if_neg (by omega)]; exact congrArg some (by omega)]
  refine g_iload_n 5 dJx4a65c_elementData_915e3_4 rfl rfl ?_
  refine g_aald 6 dJx4a65c_elementData_915e3_5 (kd_E (k := 1) (capN_lt n)) (Or.inl rfl) (by have := capN_lt n; omega) (by have := capN_ge (n := n) (by omega); omega) (by rw [ly_E (by omega)]; decide) rfl (fun _ => ?_)
  have ev : vr (XR B n0) (1000 + 100 * 1 + capN n) (κ (1000 + 100 * 1 + capN n)) i.toNat = Rf (200 + i.toNat) := by
    rw [vr_1 (ly_E (by omega) _)]
    have e0 := hL.2.2.2 i.toNat (by omega) (by omega)
    rw [if_pos (by omega), ee] at e0
    rw [e0]
    unfold dr
    rw [if_neg (by omega)]
    exact congrArg (fun z => Sum.inr (some z)) (by omega)
  rw [ev]
  refine g_aret dJx4a65c_elementData_915e3_6 rfl (by first | exact Or.inl ⟨_, rfl⟩ | exact Or.inr ⟨_, rfl⟩) ?_
  exact ⟨rfl, rfl, rfl⟩
set_option maxHeartbeats 4000000 in
set_option maxRecDepth 20000 in
theorem c_get_1 {B : Bs} {n0 : Nat} {V : Vs} {κ : Ks} {i n : Int} (hL : Lst κ 1 n) (h_i : 0 ≤ i ∧ i < n) (h_n : n ≤ 33) : Ct (XR B n0) mJx4a65c_get_915e3 3 0 0 [Rf 3, Iv i] V κ (Ex (some (Rf (200 + i.toNat))) V κ) := by
  have e2 : κ 3 2 = n := hL.2.2.1
  refine Ct.of (L := [some (Rf 3), some (Iv i)]) 0 (by decide +kernel) rfl rfl ?_
  refine g_iload_n 1 dJx4a65c_get_915e3_0 rfl rfl ?_
  refine g_aload_n 2 dJx4a65c_get_915e3_1 rfl rfl ?_
  refine r_getI 5 (κ 3 2) dJx4a65c_get_915e3_2 fgJx4a65c_48 kd_3 ly_3_2 rfl (rfl) (fun r1 => ?_)
  refine e_S 8 0 0 [Iv i, Iv (κ 3 2)] [] dJx4a65c_get_915e3_5 csJx4a65c_118 mwJ15_checkIndex_7cf53 (by decide) rfl (Nat.le_of_ble_eq_true rfl) rfl rfl rfl (c_J15_checkIndex_7cf53 (by omega) (by omega)) ?_
  refine g_pop 9 dJx4a65c_get_915e3_8 rfl ?_
  refine g_aload_n 10 dJx4a65c_get_915e3_9 rfl rfl ?_
  refine g_iload_n 11 dJx4a65c_get_915e3_10 rfl rfl ?_
  refine e_V 14 0 0 [Iv i] [] dJx4a65c_get_915e3_11 cvJx4a65c_123 mwJx4a65c_elementData_915e3 kd_3 (by decide) rfl (Nat.le_of_ble_eq_true rfl) rfl rfl rfl (c_elem_1 hL h_i h_n) ?_
  refine g_aret dJx4a65c_get_915e3_14 rfl (by first | exact Or.inl ⟨_, rfl⟩ | exact Or.inr ⟨_, rfl⟩) ?_
  exact ⟨rfl, rfl, rfl⟩
set_option maxHeartbeats 4000000 in
set_option maxRecDepth 20000 in
theorem c_size_2 {B : Bs} {n0 : Nat} {V : Vs} {κ : Ks}   : Ct (XR B n0) mJx4a65c_size_8abf5 1 0 0 [Rf 4] V κ (Ex (some (Iv (κ 4 2))) V κ) := by
  refine Ct.of (L := [some (Rf 4)]) 0 (by decide +kernel) rfl rfl ?_
  refine g_aload_n 1 dJx4a65c_size_8abf5_0 rfl rfl ?_
  refine r_getI 4 (κ 4 2) dJx4a65c_size_8abf5_1 fgJx4a65c_48 kd_4 ly_4_2 rfl (rfl) (fun r1 => ?_)
  refine g_iret dJx4a65c_size_8abf5_4 rfl ?_
  exact ⟨rfl, rfl, rfl⟩
set_option maxHeartbeats 4000000 in
set_option maxRecDepth 20000 in
theorem c_elem_2 {B : Bs} {n0 : Nat} {V : Vs} {κ : Ks} {i n : Int} (hL : Lst κ 2 n) (h_i : 0 ≤ i ∧ i < n) (h_n : n ≤ 33) : Ct (XR B n0) mJx4a65c_elementData_915e3 1 0 0 [Rf 4, Iv i] V κ (Ex (some (Rf (300 + i.toNat))) V κ) := by
  have ee : etg 2 n = 1000 + 100 * 2 + capN n := by unfold etg; rw [if_neg (by omega)]
  refine Ct.of (L := [some (Rf 4), some (Iv i)]) 0 (by decide +kernel) rfl rfl ?_
  refine g_aload_n 1 dJx4a65c_elementData_915e3_0 rfl rfl ?_
  refine r_getD 4 (dr (κ 4 1)) dJx4a65c_elementData_915e3_1 fgJx4a65c_9 kd_4 ly_4_1 rfl (congrArg dr (rfl)) ?_
  rw [show dr (κ 4 1) = some (1000 + 100 * 2 + capN n) by rw [hL.2.1, ee]; unfold dr; rw [if_neg (by omega)]; exact congrArg some (by omega)]
  refine g_iload_n 5 dJx4a65c_elementData_915e3_4 rfl rfl ?_
  refine g_aald 6 dJx4a65c_elementData_915e3_5 (kd_E (k := 2) (capN_lt n)) (Or.inl rfl) (by have := capN_lt n; omega) (by have := capN_ge (n := n) (by omega); omega) (by rw [ly_E (by omega)]; decide) rfl (fun _ => ?_)
  have ev : vr (XR B n0) (1000 + 100 * 2 + capN n) (κ (1000 + 100 * 2 + capN n)) i.toNat = Rf (300 + i.toNat) := by
    rw [vr_1 (ly_E (by omega) _)]
    have e0 := hL.2.2.2 i.toNat (by omega) (by omega)
    rw [if_pos (by omega), ee] at e0
    rw [e0]
    unfold dr
    rw [if_neg (by omega)]
    exact congrArg (fun z => Sum.inr (some z)) (by omega)
  rw [ev]
  refine g_aret dJx4a65c_elementData_915e3_6 rfl (by first | exact Or.inl ⟨_, rfl⟩ | exact Or.inr ⟨_, rfl⟩) ?_
  exact ⟨rfl, rfl, rfl⟩
set_option maxHeartbeats 4000000 in
set_option maxRecDepth 20000 in
theorem c_get_2 {B : Bs} {n0 : Nat} {V : Vs} {κ : Ks} {i n : Int} (hL : Lst κ 2 n) (h_i : 0 ≤ i ∧ i < n) (h_n : n ≤ 33) : Ct (XR B n0) mJx4a65c_get_915e3 3 0 0 [Rf 4, Iv i] V κ (Ex (some (Rf (300 + i.toNat))) V κ) := by
  have e2 : κ 4 2 = n := hL.2.2.1
  refine Ct.of (L := [some (Rf 4), some (Iv i)]) 0 (by decide +kernel) rfl rfl ?_
  refine g_iload_n 1 dJx4a65c_get_915e3_0 rfl rfl ?_
  refine g_aload_n 2 dJx4a65c_get_915e3_1 rfl rfl ?_
  refine r_getI 5 (κ 4 2) dJx4a65c_get_915e3_2 fgJx4a65c_48 kd_4 ly_4_2 rfl (rfl) (fun r1 => ?_)
  refine e_S 8 0 0 [Iv i, Iv (κ 4 2)] [] dJx4a65c_get_915e3_5 csJx4a65c_118 mwJ15_checkIndex_7cf53 (by decide) rfl (Nat.le_of_ble_eq_true rfl) rfl rfl rfl (c_J15_checkIndex_7cf53 (by omega) (by omega)) ?_
  refine g_pop 9 dJx4a65c_get_915e3_8 rfl ?_
  refine g_aload_n 10 dJx4a65c_get_915e3_9 rfl rfl ?_
  refine g_iload_n 11 dJx4a65c_get_915e3_10 rfl rfl ?_
  refine e_V 14 0 0 [Iv i] [] dJx4a65c_get_915e3_11 cvJx4a65c_123 mwJx4a65c_elementData_915e3 kd_4 (by decide) rfl (Nat.le_of_ble_eq_true rfl) rfl rfl rfl (c_elem_2 hL h_i h_n) ?_
  refine g_aret dJx4a65c_get_915e3_14 rfl (by first | exact Or.inl ⟨_, rfl⟩ | exact Or.inr ⟨_, rfl⟩) ?_
  exact ⟨rfl, rfl, rfl⟩
set_option maxHeartbeats 4000000 in
set_option maxRecDepth 20000 in
theorem c_size_3 {B : Bs} {n0 : Nat} {V : Vs} {κ : Ks}   : Ct (XR B n0) mJx4a65c_size_8abf5 1 0 0 [Rf 5] V κ (Ex (some (Iv (κ 5 2))) V κ) := by
  refine Ct.of (L := [some (Rf 5)]) 0 (by decide +kernel) rfl rfl ?_
  refine g_aload_n 1 dJx4a65c_size_8abf5_0 rfl rfl ?_
  refine r_getI 4 (κ 5 2) dJx4a65c_size_8abf5_1 fgJx4a65c_48 kd_5 ly_5_2 rfl (rfl) (fun r1 => ?_)
  refine g_iret dJx4a65c_size_8abf5_4 rfl ?_
  exact ⟨rfl, rfl, rfl⟩
set_option maxHeartbeats 4000000 in
set_option maxRecDepth 20000 in
theorem c_elem_3 {B : Bs} {n0 : Nat} {V : Vs} {κ : Ks} {i n : Int} (hL : Lst κ 3 n) (h_i : 0 ≤ i ∧ i < n) (h_n : n ≤ 33) : Ct (XR B n0) mJx4a65c_elementData_915e3 1 0 0 [Rf 5, Iv i] V κ (Ex (some (Rf (400 + i.toNat))) V κ) := by
  have ee : etg 3 n = 1000 + 100 * 3 + capN n := by unfold etg; rw [if_neg (by omega)]
  refine Ct.of (L := [some (Rf 5), some (Iv i)]) 0 (by decide +kernel) rfl rfl ?_
  refine g_aload_n 1 dJx4a65c_elementData_915e3_0 rfl rfl ?_
  refine r_getD 4 (dr (κ 5 1)) dJx4a65c_elementData_915e3_1 fgJx4a65c_9 kd_5 ly_5_1 rfl (congrArg dr (rfl)) ?_
  rw [show dr (κ 5 1) = some (1000 + 100 * 3 + capN n) by rw [hL.2.1, ee]; unfold dr; rw [if_neg (by omega)]; exact congrArg some (by omega)]
  refine g_iload_n 5 dJx4a65c_elementData_915e3_4 rfl rfl ?_
  refine g_aald 6 dJx4a65c_elementData_915e3_5 (kd_E (k := 3) (capN_lt n)) (Or.inl rfl) (by have := capN_lt n; omega) (by have := capN_ge (n := n) (by omega); omega) (by rw [ly_E (by omega)]; decide) rfl (fun _ => ?_)
  have ev : vr (XR B n0) (1000 + 100 * 3 + capN n) (κ (1000 + 100 * 3 + capN n)) i.toNat = Rf (400 + i.toNat) := by
    rw [vr_1 (ly_E (by omega) _)]
    have e0 := hL.2.2.2 i.toNat (by omega) (by omega)
    rw [if_pos (by omega), ee] at e0
    rw [e0]
    unfold dr
    rw [if_neg (by omega)]
    exact congrArg (fun z => Sum.inr (some z)) (by omega)
  rw [ev]
  refine g_aret dJx4a65c_elementData_915e3_6 rfl (by first | exact Or.inl ⟨_, rfl⟩ | exact Or.inr ⟨_, rfl⟩) ?_
  exact ⟨rfl, rfl, rfl⟩
set_option maxHeartbeats 4000000 in
set_option maxRecDepth 20000 in
theorem c_get_3 {B : Bs} {n0 : Nat} {V : Vs} {κ : Ks} {i n : Int} (hL : Lst κ 3 n) (h_i : 0 ≤ i ∧ i < n) (h_n : n ≤ 33) : Ct (XR B n0) mJx4a65c_get_915e3 3 0 0 [Rf 5, Iv i] V κ (Ex (some (Rf (400 + i.toNat))) V κ) := by
  have e2 : κ 5 2 = n := hL.2.2.1
  refine Ct.of (L := [some (Rf 5), some (Iv i)]) 0 (by decide +kernel) rfl rfl ?_
  refine g_iload_n 1 dJx4a65c_get_915e3_0 rfl rfl ?_
  refine g_aload_n 2 dJx4a65c_get_915e3_1 rfl rfl ?_
  refine r_getI 5 (κ 5 2) dJx4a65c_get_915e3_2 fgJx4a65c_48 kd_5 ly_5_2 rfl (rfl) (fun r1 => ?_)
  refine e_S 8 0 0 [Iv i, Iv (κ 5 2)] [] dJx4a65c_get_915e3_5 csJx4a65c_118 mwJ15_checkIndex_7cf53 (by decide) rfl (Nat.le_of_ble_eq_true rfl) rfl rfl rfl (c_J15_checkIndex_7cf53 (by omega) (by omega)) ?_
  refine g_pop 9 dJx4a65c_get_915e3_8 rfl ?_
  refine g_aload_n 10 dJx4a65c_get_915e3_9 rfl rfl ?_
  refine g_iload_n 11 dJx4a65c_get_915e3_10 rfl rfl ?_
  refine e_V 14 0 0 [Iv i] [] dJx4a65c_get_915e3_11 cvJx4a65c_123 mwJx4a65c_elementData_915e3 kd_5 (by decide) rfl (Nat.le_of_ble_eq_true rfl) rfl rfl rfl (c_elem_3 hL h_i h_n) ?_
  refine g_aret dJx4a65c_get_915e3_14 rfl (by first | exact Or.inl ⟨_, rfl⟩ | exact Or.inr ⟨_, rfl⟩) ?_
  exact ⟨rfl, rfl, rfl⟩
