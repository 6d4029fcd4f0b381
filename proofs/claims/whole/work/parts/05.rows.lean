/-! ROWS of G: constants, locals, stack, arithmetic, branches (printed by wip/whole/gen05.py) -/
theorem inR_toInt {x : Int} (h : inR x) : (Int32.ofInt x).toInt = x := Int32.toInt_ofInt_of_le h.1 h.2
theorem ofI_eq {x y : Int} (hx : inR x) (hy : inR y) : Int32.ofInt x = Int32.ofInt y ↔ x = y := by rw [← Int32.toInt_inj, inR_toInt hx, inR_toInt hy]
theorem ofI_lt {x y : Int} (hx : inR x) (hy : inR y) : Int32.ofInt x < Int32.ofInt y ↔ x < y := by rw [Int32.lt_iff_toInt_lt, inR_toInt hx, inR_toInt hy]
theorem ofI_le {x y : Int} (hx : inR x) (hy : inR y) : Int32.ofInt x ≤ Int32.ofInt y ↔ x ≤ y := by rw [Int32.le_iff_toInt_le, inR_toInt hx, inR_toInt hy]
theorem inR_0 : inR 0 := by unfold inR; omega
theorem ofI_0 : Int32.ofInt 0 = 0 := rfl
theorem toInt_inR (x : Int32) : inR x.toInt := ⟨Int32.le_toInt x, Int32.toInt_lt x⟩
theorem ofI_tdiv {x y : Int} (hx : inR x) (hy : inR y) : Int32.ofInt x / Int32.ofInt y = Int32.ofInt (x.tdiv y) := (Int32.ofInt_tdiv hx.1 (Int.le_sub_one_of_lt hx.2) hy.1 (Int.le_sub_one_of_lt hy.2)).symm
theorem ofI_tmod {x y : Int} (hx : inR x) (hy : inR y) : Int32.ofInt x - Int32.ofInt x / Int32.ofInt y * Int32.ofInt y = Int32.ofInt (x.tmod y) := by
  rw [ofI_tdiv hx hy, ← Int32.ofInt_mul, ← Int32.ofInt_sub]
  congr 1
  have := Int.mul_tdiv_add_tmod x y
  rw [Int.mul_comm] at this
  omega
def bAnd (x y : Int) : Int := (Int32.ofInt x &&& Int32.ofInt y).toInt
def bOr (x y : Int) : Int := (Int32.ofInt x ||| Int32.ofInt y).toInt
def bXor (x y : Int) : Int := (Int32.ofInt x ^^^ Int32.ofInt y).toInt
def bShl (x y : Int) : Int := (Int32.ofInt x <<< (Int32.ofInt y &&& 31)).toInt
def bShr (x y : Int) : Int := (Int32.ofInt x >>> (Int32.ofInt y &&& 31)).toInt
def bUshr (x y : Int) : Int := ((Int32.ofInt x).toUInt32 >>> ((Int32.ofInt y).toUInt32 &&& Int32.toUInt32 31)).toInt32.toInt
theorem hhS.stk {X : Cx} {mt : Mt} {V0 : Vs} {ρ0 : Nat → Nat} {bc bs : Nat} {L : Lc} {st st' : List Av} {V : Vs} {κ : Ks} {s : State} {H : Heap} {locs : List Loc} {cells slots : Nat} {ls : Array Slot} {mc ms : Nat} {ρ : Nat → Nat} (h : hhS X mt V0 ρ0 bc bs L st V κ s H locs cells slots ls mc ms ρ) (k : okS V st') : hhS X mt V0 ρ0 bc bs L st' V κ s H locs cells slots ls mc ms ρ := ⟨h.1, h.2.1, k, h.2.2.2⟩
theorem hhS.loc {X : Cx} {mt : Mt} {V0 : Vs} {ρ0 : Nat → Nat} {bc bs : Nat} {L L' : Lc} {st st' : List Av} {V : Vs} {κ : Ks} {s : State} {H : Heap} {locs : List Loc} {cells slots : Nat} {ls ls' : Array Slot} {mc ms : Nat} {ρ : Nat → Nat} (h : hhS X mt V0 ρ0 bc bs L st V κ s H locs cells slots ls mc ms ρ) (k : okS V st') (kl : okL V L') (hl : lvL ρ ls' mt.2.2.1 L') : hhS X mt V0 ρ0 bc bs L' st' V κ s H locs cells slots ls' mc ms ρ := ⟨hl, kl, k, h.2.2.2⟩
section G5
variable {X : Cx} {mt : Mt} {d : Nat} {P : Po} {V0 : Vs} {bc bs pc : Nat} {L : Lc} {st : List Av} {V : Vs} {κ : Ks}
theorem frA_new {s : State} (h : X.2.2.2.1 ≤ s.heap.size) : ∀ q : Nat, s.heap.size ≤ q → frA X q := fun _ hq => Nat.le_trans h hq
theorem lv_args_get {ρ : Nat → Nat} : ∀ (as : List Av) (o i : Nat) (v : Av), as[i]? = some v → (o + i, cv ρ v) ∈ lv_args o (as.map (cv ρ))
  | [], _, _, _, h => by simp at h
  | a :: as, o, 0, v, h => by
    simp at h
    subst h
    rw [List.map_cons]
    unfold lv_args
    simp
  | a :: as, o, i + 1, v, h => by
    have h1 : as[i]? = some v := by simpa using h
    have h2 := lv_args_get (ρ := ρ) as (o + 1) i v h1
    rw [List.map_cons]
    unfold lv_args
    rw [cv_cat]
    refine List.mem_cons_of_mem _ ?_
    rw [show o + (i + 1) = o + 1 + i by omega]
    exact h2
theorem lg_sl_len {ρ : Nat → Nat} : ∀ (as : List Av), (lg_sl (as.map (cv ρ))).length = as.length
  | [] => rfl
  | a :: as => by
    have ih := lg_sl_len (ρ := ρ) as
    have e : lg_sl ((a :: as).map (cv ρ)) = .val (cv ρ a) :: lg_sl (as.map (cv ρ)) := by
      unfold lg_sl
      rw [List.map_cons, List.flatMap_cons, cv_cat]
      rfl
    rw [e, List.length_cons, List.length_cons, ih]
theorem okL_of (V : Vs) : ∀ (as : List Av) (n : Nat), okS V as → okL V (as.map some ++ List.replicate n none)
  | [], n, _ => by
    induction n with
    | zero => trivial
    | succ n ih => exact ⟨fun v h => (nomatch h), ih⟩
  | a :: as, n, h => ⟨fun v hv => by cases hv; exact h.1, okL_of V as n h.2⟩
theorem Ct.of {as : List Av} (k : Nat) (hy : plainName mt.1.cls = true) (hlen : as.length + k = mt.2.2.1) (hL : as.map some ++ List.replicate k none = L) (h : G X mt d P V bc bs 0 L [] V κ) : Ct X mt d bc bs as V κ P := by
  intro ρ
  refine Met.ofW (cc := mt.2.1) (maxL := mt.2.2.1) (ret := mt.2.2.2) hy rfl ?_
  intro p e s m args below meth c s₁ B hml hv
  obtain ⟨rfl, hok, hM, hA, hlo⟩ := hv
  have hts := atoms_spec (ws := .code mt.1 mt.2.1 mt.2.2.1 mt.2.2.2 :: tbG) B.pre
  have hl := lv_entry (as.map (cv ρ)) (n := mt.2.2.1) (by rw [lg_sl_len]; omega)
  rw [lg_entry_eq]
  refine h p e _ s m _ below meth c bc bs ρ ⟨B.exec, B.bytes, hml, findClass_of_methodNamed B.named, fun w hw => hts w (List.mem_cons_of_mem _ hw), B.returns, B.notSynchronized, (name_of_methodNamed B.named B.method).1, hA, ⟨Nat.le_refl _, Nat.le_refl _, Nat.le_refl _, Nat.le_refl _⟩, hlo⟩ s.heap [] 0 0 _ ρ ⟨⟨hl.1, hl.2.1, fun i v hi => ?_⟩, hL ▸ okL_of V as k hok, trivial, hM, va_S.rf, ⟨by omega, by omega⟩, fun t ht => ⟨ht, rfl⟩⟩
  rw [← hL] at hi
  have h1 : as[i]? = some v := by
    by_cases hi2 : i < as.length
    · rw [List.getElem?_append_left (by simpa using hi2)] at hi
      rw [List.getElem?_map] at hi
      cases ha : as[i]? with
      | none => rw [ha] at hi; cases hi
      | some w => rw [ha] at hi; cases hi; rfl
    · rw [List.getElem?_append_right (by simpa using hi2)] at hi
      rw [List.getElem?_replicate] at hi
      split at hi <;> cases hi
  have h2 := lv_args_get (ρ := ρ) as 0 i v h1
  rw [Nat.zero_add] at h2
  exact hl.2.2 (i, cv ρ v) h2
theorem G.post {P' : Po} (hP : ∀ r V κ, P r V κ → P' r V κ) (h : G X mt d P V0 bc bs pc L st V κ) : G X mt d P' V0 bc bs pc L st V κ := fun p e R s m args below meth c mc ms ρ0 C H locs cells slots ls ρ hh T hT S => by
  obtain ⟨t, h1, o, h2, h3, h4, h5⟩ := h p e R s m args below meth c mc ms ρ0 C H locs cells slots ls ρ hh T hT S
  obtain ⟨⟨r, V', κ', ρ', q1, q2, q3, q4⟩, q5⟩ := h4
  exact ⟨t, h1, o, h2, h3, ⟨⟨r, V', κ', ρ', q1, q2, hP _ _ _ q3, q4⟩, q5⟩, h5⟩
theorem g_iret {v : Int} (hd : decode mt.2.1 pc = .ok (.ireturn, 1)) (hr : mt.2.2.2 = some .int) (h : P (some (Iv v)) V κ) : G X mt d P V0 bc bs pc L [Iv v] V κ := fun p e R s m args below meth c mc ms ρ0 C H locs cells slots ls ρ hh => W.widen (k := mc) (n := ms) (by have := hh.2.2.2.2.2.1.1; omega) (by have := hh.2.2.2.2.2.1.2; omega) (W.iret C.1 C.2.1 (C.2.2.2.2.2.1.trans hr) (fun t ht hW => ⟨⟨some (Iv v), V, κ, ρ, rfl, by rw [ht]; exact hh.2.2.2.1.moved hW.alike, h, fun w hw => by cases hw; trivial, hh.2.2.2.2.2.2⟩, hh.2.2.2.2.1.F ht⟩) hh.2.2.2.2.1.2.2 hd C.2.2.2.2.2.2.1)
theorem narZ {v : Int} (hv : v = 0 ∨ v = 1) : narrow .boolean (.int (Int32.ofInt v)) = .int (Int32.ofInt v) := by rcases hv with rfl | rfl <;> decide
theorem g_zret {v : Int} (hd : decode mt.2.1 pc = .ok (.ireturn, 1)) (hr : mt.2.2.2 = some .boolean) (hv : v = 0 ∨ v = 1) (h : P (some (Iv v)) V κ) : G X mt d P V0 bc bs pc L [Iv v] V κ := fun p e R s m args below meth c mc ms ρ0 C H locs cells slots ls ρ hh => W.widen (k := mc) (n := ms) (by have := hh.2.2.2.2.2.1.1; omega) (by have := hh.2.2.2.2.2.1.2; omega) (W.zret C.1 C.2.1 (C.2.2.2.2.2.1.trans hr) (narZ hv) (fun t ht hW => ⟨⟨some (Iv v), V, κ, ρ, rfl, by rw [ht]; exact hh.2.2.2.1.moved hW.alike, h, fun w hw => by cases hw; trivial, hh.2.2.2.2.2.2⟩, hh.2.2.2.2.1.F ht⟩) hh.2.2.2.2.1.2.2 hd C.2.2.2.2.2.2.1)
theorem g_vret (hd : decode mt.2.1 pc = .ok (.return_, 1)) (hr : mt.2.2.2 = none) (h : P none V κ) : G X mt d P V0 bc bs pc L [] V κ := fun p e R s m args below meth c mc ms ρ0 C H locs cells slots ls ρ hh => W.widen (k := mc) (n := ms) (by have := hh.2.2.2.2.2.1.1; omega) (by have := hh.2.2.2.2.2.1.2; omega) (W.vret C.1 C.2.1 (C.2.2.2.2.2.1.trans hr) (fun t ht hW => ⟨⟨none, V, κ, ρ, rfl, by rw [ht]; exact hh.2.2.2.1.moved hW.alike, h, fun w hw => (nomatch hw), hh.2.2.2.2.2.2⟩, hh.2.2.2.2.1.F ht⟩) hh.2.2.2.2.1.2.2 hd C.2.2.2.2.2.2.1)
theorem g_aret {v : Option Nat} {rt : FieldType} (hd : decode mt.2.1 pc = .ok (.areturn, 1)) (hr : mt.2.2.2 = some rt) (hrt : (∃ n, rt = .object n) ∨ ∃ t, rt = .array t) (h : P (some (.inr v)) V κ) : G X mt d P V0 bc bs pc L [.inr v] V κ := fun p e R s m args below meth c mc ms ρ0 C H locs cells slots ls ρ hh => W.widen (k := mc) (n := ms) (by have := hh.2.2.2.2.2.1.1; omega) (by have := hh.2.2.2.2.2.1.2; omega) (W.aret (v := cv ρ (.inr v)) C.1 C.2.1 (C.2.2.2.2.2.1.trans hr) hrt (by rcases v with _ | t; exact Or.inl rfl; exact Or.inr ⟨_, rfl⟩) (fun t ht hW => ⟨⟨some (.inr v), V, κ, ρ, rfl, by rw [ht]; exact hh.2.2.2.1.moved hW.alike, h, fun w hw => by cases hw; exact hh.2.2.1.1, hh.2.2.2.2.2.2⟩, hh.2.2.2.2.1.F ht⟩) hh.2.2.2.2.1.2.2 hd C.2.2.2.2.2.2.1)
theorem g_iconst (n' : Nat) {n : Int} (hd : decode mt.2.1 pc = .ok (.iconst n, 1)) (hv : Int32.ofInt n = Int32.ofInt n) (hn : pc + 1 = n') (k : G X mt d P V0 bc bs n' L (Iv n :: st) V κ) : G X mt d P V0 bc bs pc L st V κ := fun p e R s m args below meth c mc ms ρ0 C H locs cells slots ls ρ hh => lv_iconst C.1 C.2.1 hd hv (by rw [hn]; exact k p e R s m args below meth c mc ms ρ0 C H locs cells slots ls ρ (hh.stk ⟨trivial, hh.2.2.1⟩))
theorem g_bipush (n' : Nat) {n : Int} (hd : decode mt.2.1 pc = .ok (.bipush n, 2)) (hv : (Int8.ofInt n).toInt32 = Int32.ofInt n) (hn : pc + 2 = n') (k : G X mt d P V0 bc bs n' L (Iv n :: st) V κ) : G X mt d P V0 bc bs pc L st V κ := fun p e R s m args below meth c mc ms ρ0 C H locs cells slots ls ρ hh => lv_bipush C.1 C.2.1 hd hv (by rw [hn]; exact k p e R s m args below meth c mc ms ρ0 C H locs cells slots ls ρ (hh.stk ⟨trivial, hh.2.2.1⟩))
theorem g_sipush (n' : Nat) {n : Int} (hd : decode mt.2.1 pc = .ok (.sipush n, 3)) (hv : (Int16.ofInt n).toInt32 = Int32.ofInt n) (hn : pc + 3 = n') (k : G X mt d P V0 bc bs n' L (Iv n :: st) V κ) : G X mt d P V0 bc bs pc L st V κ := fun p e R s m args below meth c mc ms ρ0 C H locs cells slots ls ρ hh => lv_sipush C.1 C.2.1 hd hv (by rw [hn]; exact k p e R s m args below meth c mc ms ρ0 C H locs cells slots ls ρ (hh.stk ⟨trivial, hh.2.2.1⟩))
theorem g_ldc (n' : Nat) {n : Int} {idx : Nat} {w : Int32} (hd : decode mt.2.1 pc = .ok (.ldc idx, 2)) (hw : Cond.constant mt.1.cls idx w ∈ tbG) (hv : w = Int32.ofInt n) (hn : pc + 2 = n') (k : G X mt d P V0 bc bs n' L (Iv n :: st) V κ) : G X mt d P V0 bc bs pc L st V κ := fun p e R s m args below meth c mc ms ρ0 C H locs cells slots ls ρ hh => lv_ldc C.1 C.2.1 C.2.2.2.1 (C.2.2.2.2.1 _ (hv ▸ hw)) hd (by rw [hn]; exact k p e R s m args below meth c mc ms ρ0 C H locs cells slots ls ρ (hh.stk ⟨trivial, hh.2.2.1⟩))
theorem g_ldcw (n' : Nat) {n : Int} {idx : Nat} {w : Int32} (hd : decode mt.2.1 pc = .ok (.ldc_w idx, 3)) (hw : Cond.constant mt.1.cls idx w ∈ tbG) (hv : w = Int32.ofInt n) (hn : pc + 3 = n') (k : G X mt d P V0 bc bs n' L (Iv n :: st) V κ) : G X mt d P V0 bc bs pc L st V κ := fun p e R s m args below meth c mc ms ρ0 C H locs cells slots ls ρ hh => lv_ldcw C.1 C.2.1 C.2.2.2.1 (C.2.2.2.2.1 _ (hv ▸ hw)) hd (by rw [hn]; exact k p e R s m args below meth c mc ms ρ0 C H locs cells slots ls ρ (hh.stk ⟨trivial, hh.2.2.1⟩))
theorem g_null (n' : Nat) (hd : decode mt.2.1 pc = .ok (.aconst_null, 1)) (hn : pc + 1 = n') (k : G X mt d P V0 bc bs n' L (Nl :: st) V κ) : G X mt d P V0 bc bs pc L st V κ := fun p e R s m args below meth c mc ms ρ0 C H locs cells slots ls ρ hh => lv_null C.1 C.2.1 hd (by rw [hn]; exact k p e R s m args below meth c mc ms ρ0 C H locs cells slots ls ρ (hh.stk ⟨trivial, hh.2.2.1⟩))
theorem g_iload_n (n' : Nat) {j : Fin 4} {x : Int} (hd : decode mt.2.1 pc = .ok (.iload_n j, 1)) (hl : L[(j : Nat)]? = some (some (Iv x))) (hn : pc + 1 = n') (k : G X mt d P V0 bc bs n' L (Iv x :: st) V κ) : G X mt d P V0 bc bs pc L st V κ := fun p e R s m args below meth c mc ms ρ0 C H locs cells slots ls ρ hh => lv_iload_n C.1 C.2.1 hd rfl (hh.1.2.2 _ _ hl) (by rw [hn]; exact k p e R s m args below meth c mc ms ρ0 C H locs cells slots ls ρ (hh.stk ⟨trivial, hh.2.2.1⟩))
theorem g_iload (n' : Nat) {j : Nat} {x : Int} (hd : decode mt.2.1 pc = .ok (.iload j, 2)) (hl : L[j]? = some (some (Iv x))) (hn : pc + 2 = n') (k : G X mt d P V0 bc bs n' L (Iv x :: st) V κ) : G X mt d P V0 bc bs pc L st V κ := fun p e R s m args below meth c mc ms ρ0 C H locs cells slots ls ρ hh => lv_iload C.1 C.2.1 hd (hh.1.2.2 _ _ hl) (by rw [hn]; exact k p e R s m args below meth c mc ms ρ0 C H locs cells slots ls ρ (hh.stk ⟨trivial, hh.2.2.1⟩))
theorem g_aload_n (n' : Nat) {j : Fin 4} {v : Option Nat} (hd : decode mt.2.1 pc = .ok (.aload_n j, 1)) (hl : L[(j : Nat)]? = some (some (.inr v))) (hn : pc + 1 = n') (k : G X mt d P V0 bc bs n' L (.inr v :: st) V κ) : G X mt d P V0 bc bs pc L st V κ := fun p e R s m args below meth c mc ms ρ0 C H locs cells slots ls ρ hh => by
  have hk := k p e R s m args below meth c mc ms ρ0 C H locs cells slots ls ρ (hh.stk ⟨hh.2.1.get hl, hh.2.2.1⟩)
  rw [← hn] at hk
  have h0 := hh.1.2.2 _ _ hl
  rcases v with _ | t
  · exact lv_aload_nN C.1 C.2.1 hd rfl h0 hk
  · exact lv_aload_n C.1 C.2.1 hd rfl h0 hk
theorem g_aload (n' : Nat) {j : Nat} {v : Option Nat} (hd : decode mt.2.1 pc = .ok (.aload j, 2)) (hl : L[j]? = some (some (.inr v))) (hn : pc + 2 = n') (k : G X mt d P V0 bc bs n' L (.inr v :: st) V κ) : G X mt d P V0 bc bs pc L st V κ := fun p e R s m args below meth c mc ms ρ0 C H locs cells slots ls ρ hh => by
  have hk := k p e R s m args below meth c mc ms ρ0 C H locs cells slots ls ρ (hh.stk ⟨hh.2.1.get hl, hh.2.2.1⟩)
  rw [← hn] at hk
  have h0 := hh.1.2.2 _ _ hl
  rcases v with _ | t
  · exact lv_aloadN C.1 C.2.1 hd h0 hk
  · exact lv_aload C.1 C.2.1 hd h0 hk
theorem g_istore_n (n' : Nat) {j : Fin 4} {x : Int} {L' : Lc} (hd : decode mt.2.1 pc = .ok (.istore_n j, 1)) (hL : L.set (j : Nat) (some (Iv x)) = L') (hj : (j : Nat) < mt.2.2.1) (hn : pc + 1 = n') (k : G X mt d P V0 bc bs n' L' st V κ) : G X mt d P V0 bc bs pc L (Iv x :: st) V κ := fun p e R s m args below meth c mc ms ρ0 C H locs cells slots ls ρ hh => lv_istore_n C.1 C.2.1 hd rfl hh.1.has hj rfl (fun ls' hl => by rw [hn]; exact k p e R s m args below meth c mc ms ρ0 C H locs cells slots ls' ρ (hh.loc hh.2.2.1.2 (hL ▸ hh.2.1.set trivial) (hL ▸ lvL.store (v := Iv x) hl)))
theorem g_istore (n' : Nat) {j : Nat} {x : Int} {L' : Lc} (hd : decode mt.2.1 pc = .ok (.istore j, 2)) (hL : L.set j (some (Iv x)) = L') (hj : j < mt.2.2.1) (hn : pc + 2 = n') (k : G X mt d P V0 bc bs n' L' st V κ) : G X mt d P V0 bc bs pc L (Iv x :: st) V κ := fun p e R s m args below meth c mc ms ρ0 C H locs cells slots ls ρ hh => lv_istore C.1 C.2.1 hd hh.1.has hj rfl (fun ls' hl => by rw [hn]; exact k p e R s m args below meth c mc ms ρ0 C H locs cells slots ls' ρ (hh.loc hh.2.2.1.2 (hL ▸ hh.2.1.set trivial) (hL ▸ lvL.store (v := Iv x) hl)))
theorem g_astore_n (n' : Nat) {j : Fin 4} {v : Option Nat} {L' : Lc} (hd : decode mt.2.1 pc = .ok (.astore_n j, 1)) (hL : L.set (j : Nat) (some (.inr v)) = L') (hj : (j : Nat) < mt.2.2.1) (hn : pc + 1 = n') (k : G X mt d P V0 bc bs n' L' st V κ) : G X mt d P V0 bc bs pc L (.inr v :: st) V κ := fun p e R s m args below meth c mc ms ρ0 C H locs cells slots ls ρ hh => by
  have hk : ∀ ls', lvL ρ ls' mt.2.2.1 (L.set (j : Nat) (some (.inr v))) → W p X.1 e R s m args below meth c H locs cells slots (MQ below (qcG X P V0 ρ0) args s mc ms (frA X)) (F0 m (pc + 1) ls' (st.map (cv ρ))) := fun ls' hl => by rw [hn]; exact k p e R s m args below meth c mc ms ρ0 C H locs cells slots ls' ρ (hh.loc hh.2.2.1.2 (hL ▸ hh.2.1.set hh.2.2.1.1) (hL ▸ hl))
  rcases v with _ | t
  · exact lv_astore_nN C.1 C.2.1 hd rfl hh.1.has hj rfl (fun ls' hl => hk ls' (lvL.store (v := Nl) hl))
  · exact lv_astore_n C.1 C.2.1 hd rfl hh.1.has hj rfl (fun ls' hl => hk ls' (lvL.store (v := Rf t) hl))
theorem g_astore (n' : Nat) {j : Nat} {v : Option Nat} {L' : Lc} (hd : decode mt.2.1 pc = .ok (.astore j, 2)) (hL : L.set j (some (.inr v)) = L') (hj : j < mt.2.2.1) (hn : pc + 2 = n') (k : G X mt d P V0 bc bs n' L' st V κ) : G X mt d P V0 bc bs pc L (.inr v :: st) V κ := fun p e R s m args below meth c mc ms ρ0 C H locs cells slots ls ρ hh => by
  have hk : ∀ ls', lvL ρ ls' mt.2.2.1 (L.set j (some (.inr v))) → W p X.1 e R s m args below meth c H locs cells slots (MQ below (qcG X P V0 ρ0) args s mc ms (frA X)) (F0 m (pc + 2) ls' (st.map (cv ρ))) := fun ls' hl => by rw [hn]; exact k p e R s m args below meth c mc ms ρ0 C H locs cells slots ls' ρ (hh.loc hh.2.2.1.2 (hL ▸ hh.2.1.set hh.2.2.1.1) (hL ▸ hl))
  rcases v with _ | t
  · exact lv_astoreN C.1 C.2.1 hd hh.1.has hj rfl (fun ls' hl => hk ls' (lvL.store (v := Nl) hl))
  · exact lv_astore C.1 C.2.1 hd hh.1.has hj rfl (fun ls' hl => hk ls' (lvL.store (v := Rf t) hl))
theorem g_iinc (n' : Nat) {j : Nat} {n x : Int} {L' : Lc} (hd : decode mt.2.1 pc = .ok (.iinc j n, 3)) (hl : L[j]? = some (some (Iv x))) (hL : L.set j (some (Iv (x + n))) = L') (hj : j < mt.2.2.1) (hn : pc + 3 = n') (k : G X mt d P V0 bc bs n' L' st V κ) : G X mt d P V0 bc bs pc L st V κ := fun p e R s m args below meth c mc ms ρ0 C H locs cells slots ls ρ hh => by
  obtain ⟨i, hi⟩ := List.getElem?_of_mem (pr1_mem.mpr ⟨Iv x, hl, (rfl : cv ρ (Iv x) = cv ρ (Iv x))⟩)
  exact lv_iinc C.1 C.2.1 hd hh.1.has hi (Int32.ofInt_add x n).symm hj rfl (fun ls' hl => by rw [hn]; exact k p e R s m args below meth c mc ms ρ0 C H locs cells slots ls' ρ (hh.loc hh.2.2.1 (hL ▸ hh.2.1.set trivial) (hL ▸ lvL.store (v := Iv (x + n)) hl)))
theorem g_dup (n' : Nat) {v : Av} (hd : decode mt.2.1 pc = .ok (.dup, 1)) (hn : pc + 1 = n') (k : G X mt d P V0 bc bs n' L (v :: v :: st) V κ) : G X mt d P V0 bc bs pc L (v :: st) V κ := fun p e R s m args below meth c mc ms ρ0 C H locs cells slots ls ρ hh => lv_dup C.1 C.2.1 hd (cv_cat ρ v) (by rw [hn]; exact k p e R s m args below meth c mc ms ρ0 C H locs cells slots ls ρ (hh.stk ⟨hh.2.2.1.1, hh.2.2.1⟩))
theorem g_pop (n' : Nat) {v : Av} (hd : decode mt.2.1 pc = .ok (.pop, 1)) (hn : pc + 1 = n') (k : G X mt d P V0 bc bs n' L st V κ) : G X mt d P V0 bc bs pc L (v :: st) V κ := fun p e R s m args below meth c mc ms ρ0 C H locs cells slots ls ρ hh => lv_pop C.1 C.2.1 hd (cv_cat ρ v) (by rw [hn]; exact k p e R s m args below meth c mc ms ρ0 C H locs cells slots ls ρ (hh.stk hh.2.2.1.2))
theorem g_dup_x1 (n' : Nat) {v w : Av} (hd : decode mt.2.1 pc = .ok (.dup_x1, 1)) (hn : pc + 1 = n') (k : G X mt d P V0 bc bs n' L (v :: w :: v :: st) V κ) : G X mt d P V0 bc bs pc L (v :: w :: st) V κ := fun p e R s m args below meth c mc ms ρ0 C H locs cells slots ls ρ hh => lv_dup_x1 C.1 C.2.1 hd (cv_cat ρ v) (cv_cat ρ w) (by rw [hn]; exact k p e R s m args below meth c mc ms ρ0 C H locs cells slots ls ρ (hh.stk ⟨hh.2.2.1.1, hh.2.2.1.2.1, hh.2.2.1.1, hh.2.2.1.2.2⟩))
theorem g_dup2 (n' : Nat) {v w : Av} (hd : decode mt.2.1 pc = .ok (.dup2, 1)) (hn : pc + 1 = n') (k : G X mt d P V0 bc bs n' L (v :: w :: v :: w :: st) V κ) : G X mt d P V0 bc bs pc L (v :: w :: st) V κ := fun p e R s m args below meth c mc ms ρ0 C H locs cells slots ls ρ hh => lv_dup2_11 C.1 C.2.1 hd (cv_cat ρ v) (cv_cat ρ w) (by rw [hn]; exact k p e R s m args below meth c mc ms ρ0 C H locs cells slots ls ρ (hh.stk ⟨hh.2.2.1.1, hh.2.2.1.2.1, hh.2.2.1⟩))
theorem g_iadd (n' : Nat) {x y : Int} (hd : decode mt.2.1 pc = .ok (.iadd, 1)) (hn : pc + 1 = n') (k : G X mt d P V0 bc bs n' L (Iv (x + y) :: st) V κ) : G X mt d P V0 bc bs pc L (Iv y :: Iv x :: st) V κ := fun p e R s m args below meth c mc ms ρ0 C H locs cells slots ls ρ hh => lv_iadd C.1 C.2.1 hd (by rw [hn, ← Int32.ofInt_add]; exact k p e R s m args below meth c mc ms ρ0 C H locs cells slots ls ρ (hh.stk ⟨trivial, hh.2.2.1.2.2⟩))
theorem g_isub (n' : Nat) {x y : Int} (hd : decode mt.2.1 pc = .ok (.isub, 1)) (hn : pc + 1 = n') (k : G X mt d P V0 bc bs n' L (Iv (x - y) :: st) V κ) : G X mt d P V0 bc bs pc L (Iv y :: Iv x :: st) V κ := fun p e R s m args below meth c mc ms ρ0 C H locs cells slots ls ρ hh => lv_isub C.1 C.2.1 hd (by rw [hn, ← Int32.ofInt_sub]; exact k p e R s m args below meth c mc ms ρ0 C H locs cells slots ls ρ (hh.stk ⟨trivial, hh.2.2.1.2.2⟩))
theorem g_imul (n' : Nat) {x y : Int} (hd : decode mt.2.1 pc = .ok (.imul, 1)) (hn : pc + 1 = n') (k : G X mt d P V0 bc bs n' L (Iv (x * y) :: st) V κ) : G X mt d P V0 bc bs pc L (Iv y :: Iv x :: st) V κ := fun p e R s m args below meth c mc ms ρ0 C H locs cells slots ls ρ hh => lv_imul C.1 C.2.1 hd (by rw [hn, ← Int32.ofInt_mul]; exact k p e R s m args below meth c mc ms ρ0 C H locs cells slots ls ρ (hh.stk ⟨trivial, hh.2.2.1.2.2⟩))
theorem g_ineg (n' : Nat) {x : Int} (hd : decode mt.2.1 pc = .ok (.ineg, 1)) (hn : pc + 1 = n') (k : G X mt d P V0 bc bs n' L (Iv (-x) :: st) V κ) : G X mt d P V0 bc bs pc L (Iv x :: st) V κ := fun p e R s m args below meth c mc ms ρ0 C H locs cells slots ls ρ hh => lv_ineg C.1 C.2.1 hd (by rw [hn, ← Int32.ofInt_neg]; exact k p e R s m args below meth c mc ms ρ0 C H locs cells slots ls ρ (hh.stk ⟨trivial, hh.2.2.1.2⟩))
theorem g_iand (n' : Nat) {x y : Int} (hd : decode mt.2.1 pc = .ok (.iand, 1)) (hn : pc + 1 = n') (k : G X mt d P V0 bc bs n' L (Iv (bAnd x y) :: st) V κ) : G X mt d P V0 bc bs pc L (Iv y :: Iv x :: st) V κ := fun p e R s m args below meth c mc ms ρ0 C H locs cells slots ls ρ hh => by
  have hk := k p e R s m args below meth c mc ms ρ0 C H locs cells slots ls ρ (hh.stk ⟨trivial, hh.2.2.1.2.2⟩)
  rw [List.map_cons, ← hn] at hk
  have h1 : cv ρ (Iv (bAnd x y)) = .int _ := congrArg Value.int (Int32.ofInt_toInt _)
  rw [h1] at hk
  exact lv_iand C.1 C.2.1 hd hk
theorem g_ior (n' : Nat) {x y : Int} (hd : decode mt.2.1 pc = .ok (.ior, 1)) (hn : pc + 1 = n') (k : G X mt d P V0 bc bs n' L (Iv (bOr x y) :: st) V κ) : G X mt d P V0 bc bs pc L (Iv y :: Iv x :: st) V κ := fun p e R s m args below meth c mc ms ρ0 C H locs cells slots ls ρ hh => by
  have hk := k p e R s m args below meth c mc ms ρ0 C H locs cells slots ls ρ (hh.stk ⟨trivial, hh.2.2.1.2.2⟩)
  rw [List.map_cons, ← hn] at hk
  have h1 : cv ρ (Iv (bOr x y)) = .int _ := congrArg Value.int (Int32.ofInt_toInt _)
  rw [h1] at hk
  exact lv_ior C.1 C.2.1 hd hk
theorem g_ixor (n' : Nat) {x y : Int} (hd : decode mt.2.1 pc = .ok (.ixor, 1)) (hn : pc + 1 = n') (k : G X mt d P V0 bc bs n' L (Iv (bXor x y) :: st) V κ) : G X mt d P V0 bc bs pc L (Iv y :: Iv x :: st) V κ := fun p e R s m args below meth c mc ms ρ0 C H locs cells slots ls ρ hh => by
  have hk := k p e R s m args below meth c mc ms ρ0 C H locs cells slots ls ρ (hh.stk ⟨trivial, hh.2.2.1.2.2⟩)
  rw [List.map_cons, ← hn] at hk
  have h1 : cv ρ (Iv (bXor x y)) = .int _ := congrArg Value.int (Int32.ofInt_toInt _)
  rw [h1] at hk
  exact lv_ixor C.1 C.2.1 hd hk
theorem g_ishl (n' : Nat) {x y : Int} (hd : decode mt.2.1 pc = .ok (.ishl, 1)) (hn : pc + 1 = n') (k : G X mt d P V0 bc bs n' L (Iv (bShl x y) :: st) V κ) : G X mt d P V0 bc bs pc L (Iv y :: Iv x :: st) V κ := fun p e R s m args below meth c mc ms ρ0 C H locs cells slots ls ρ hh => by
  have hk := k p e R s m args below meth c mc ms ρ0 C H locs cells slots ls ρ (hh.stk ⟨trivial, hh.2.2.1.2.2⟩)
  rw [List.map_cons, ← hn] at hk
  have h1 : cv ρ (Iv (bShl x y)) = .int _ := congrArg Value.int (Int32.ofInt_toInt _)
  rw [h1] at hk
  exact lv_ishl C.1 C.2.1 hd hk
theorem g_ishr (n' : Nat) {x y : Int} (hd : decode mt.2.1 pc = .ok (.ishr, 1)) (hn : pc + 1 = n') (k : G X mt d P V0 bc bs n' L (Iv (bShr x y) :: st) V κ) : G X mt d P V0 bc bs pc L (Iv y :: Iv x :: st) V κ := fun p e R s m args below meth c mc ms ρ0 C H locs cells slots ls ρ hh => by
  have hk := k p e R s m args below meth c mc ms ρ0 C H locs cells slots ls ρ (hh.stk ⟨trivial, hh.2.2.1.2.2⟩)
  rw [List.map_cons, ← hn] at hk
  have h1 : cv ρ (Iv (bShr x y)) = .int _ := congrArg Value.int (Int32.ofInt_toInt _)
  rw [h1] at hk
  exact lv_ishr C.1 C.2.1 hd hk
theorem g_iushr (n' : Nat) {x y : Int} (hd : decode mt.2.1 pc = .ok (.iushr, 1)) (hn : pc + 1 = n') (k : G X mt d P V0 bc bs n' L (Iv (bUshr x y) :: st) V κ) : G X mt d P V0 bc bs pc L (Iv y :: Iv x :: st) V κ := fun p e R s m args below meth c mc ms ρ0 C H locs cells slots ls ρ hh => lv_iushr C.1 C.2.1 hd (Int32.ofInt_toInt _).symm (by rw [hn]; exact k p e R s m args below meth c mc ms ρ0 C H locs cells slots ls ρ (hh.stk ⟨trivial, hh.2.2.1.2.2⟩))
theorem g_idivT (n' : Nat) {x y : Int} (hd : decode mt.2.1 pc = .ok (.idiv, 1)) (hx : inR x) (hy : inR y) (h0 : y ≠ 0) (hn : pc + 1 = n') (k : G X mt d P V0 bc bs n' L (Iv (x.tdiv y) :: st) V κ) : G X mt d P V0 bc bs pc L (Iv y :: Iv x :: st) V κ := fun p e R s m args below meth c mc ms ρ0 C H locs cells slots ls ρ hh => lv_idiv C.1 C.2.1 hd (fun z => h0 ((ofI_eq hy inR_0).mp z)) (by rw [hn, ofI_tdiv hx hy]; exact k p e R s m args below meth c mc ms ρ0 C H locs cells slots ls ρ (hh.stk ⟨trivial, hh.2.2.1.2.2⟩))
theorem g_iremT (n' : Nat) {x y : Int} (hd : decode mt.2.1 pc = .ok (.irem, 1)) (hx : inR x) (hy : inR y) (h0 : y ≠ 0) (hn : pc + 1 = n') (k : G X mt d P V0 bc bs n' L (Iv (x.tmod y) :: st) V κ) : G X mt d P V0 bc bs pc L (Iv y :: Iv x :: st) V κ := fun p e R s m args below meth c mc ms ρ0 C H locs cells slots ls ρ hh => lv_irem C.1 C.2.1 hd (fun z => h0 ((ofI_eq hy inR_0).mp z)) (by rw [hn, ofI_tmod hx hy]; exact k p e R s m args below meth c mc ms ρ0 C H locs cells slots ls ρ (hh.stk ⟨trivial, hh.2.2.1.2.2⟩))
theorem g_idiv (n' : Nat) {x y : Int} (hd : decode mt.2.1 pc = .ok (.idiv, 1)) (hx : inR x ∧ 0 ≤ x) (hy : inR y ∧ 0 < y) (hn : pc + 1 = n') (k : G X mt d P V0 bc bs n' L (Iv (x / y) :: st) V κ) : G X mt d P V0 bc bs pc L (Iv y :: Iv x :: st) V κ := g_idivT n' hd hx.1 hy.1 (by omega) hn (by rw [Int.tdiv_eq_ediv_of_nonneg hx.2]; exact k)
theorem g_irem (n' : Nat) {x y : Int} (hd : decode mt.2.1 pc = .ok (.irem, 1)) (hx : inR x ∧ 0 ≤ x) (hy : inR y ∧ 0 < y) (hn : pc + 1 = n') (k : G X mt d P V0 bc bs n' L (Iv (x % y) :: st) V κ) : G X mt d P V0 bc bs pc L (Iv y :: Iv x :: st) V κ := g_iremT n' hd hx.1 hy.1 (by omega) hn (by rw [Int.tmod_eq_emod_of_nonneg hx.2]; exact k)
theorem g_if_eq (tg n' : Nat) {x : Int} {off : Int} (hd : decode mt.2.1 pc = .ok (.ifCond .eq off, 3)) (hx : inR x) (ht : (pc : Int) + off = (tg : Int)) (hn : pc + 3 = n') (kt : x = 0 → G X mt d P V0 bc bs tg L st V κ) (kf : ¬ x = 0 → G X mt d P V0 bc bs n' L st V κ) : G X mt d P V0 bc bs pc L (Iv x :: st) V κ := fun p e R s m args below meth c mc ms ρ0 C H locs cells slots ls ρ hh => lv_if_eq C.1 C.2.1 hd ht (fun z => kt ((ofI_eq hx inR_0).mp z) p e R s m args below meth c mc ms ρ0 C H locs cells slots ls ρ (hh.stk hh.2.2.1.2)) (fun z => by rw [hn]; exact kf (fun w => z ((ofI_eq hx inR_0).mpr w)) p e R s m args below meth c mc ms ρ0 C H locs cells slots ls ρ (hh.stk hh.2.2.1.2))
theorem g_icmp_eq (tg n' : Nat) {x y : Int} {off : Int} (hd : decode mt.2.1 pc = .ok (.if_icmp .eq off, 3)) (hx : inR x) (hy : inR y) (ht : (pc : Int) + off = (tg : Int)) (hn : pc + 3 = n') (kt : x = y → G X mt d P V0 bc bs tg L st V κ) (kf : ¬ x = y → G X mt d P V0 bc bs n' L st V κ) : G X mt d P V0 bc bs pc L (Iv y :: Iv x :: st) V κ := fun p e R s m args below meth c mc ms ρ0 C H locs cells slots ls ρ hh => lv_icmp_eq C.1 C.2.1 hd ht (fun z => kt ((ofI_eq hx hy).mp z) p e R s m args below meth c mc ms ρ0 C H locs cells slots ls ρ (hh.stk hh.2.2.1.2.2)) (fun z => by rw [hn]; exact kf (fun w => z ((ofI_eq hx hy).mpr w)) p e R s m args below meth c mc ms ρ0 C H locs cells slots ls ρ (hh.stk hh.2.2.1.2.2))
theorem g_if_ne (tg n' : Nat) {x : Int} {off : Int} (hd : decode mt.2.1 pc = .ok (.ifCond .ne off, 3)) (hx : inR x) (ht : (pc : Int) + off = (tg : Int)) (hn : pc + 3 = n') (kt : ¬ x = 0 → G X mt d P V0 bc bs tg L st V κ) (kf : x = 0 → G X mt d P V0 bc bs n' L st V κ) : G X mt d P V0 bc bs pc L (Iv x :: st) V κ := fun p e R s m args below meth c mc ms ρ0 C H locs cells slots ls ρ hh => lv_if_ne C.1 C.2.1 hd ht (fun z => kt (fun w => z ((ofI_eq hx inR_0).mpr w)) p e R s m args below meth c mc ms ρ0 C H locs cells slots ls ρ (hh.stk hh.2.2.1.2)) (fun z => by rw [hn]; exact kf ((ofI_eq hx inR_0).mp z) p e R s m args below meth c mc ms ρ0 C H locs cells slots ls ρ (hh.stk hh.2.2.1.2))
theorem g_icmp_ne (tg n' : Nat) {x y : Int} {off : Int} (hd : decode mt.2.1 pc = .ok (.if_icmp .ne off, 3)) (hx : inR x) (hy : inR y) (ht : (pc : Int) + off = (tg : Int)) (hn : pc + 3 = n') (kt : ¬ x = y → G X mt d P V0 bc bs tg L st V κ) (kf : x = y → G X mt d P V0 bc bs n' L st V κ) : G X mt d P V0 bc bs pc L (Iv y :: Iv x :: st) V κ := fun p e R s m args below meth c mc ms ρ0 C H locs cells slots ls ρ hh => lv_icmp_ne C.1 C.2.1 hd ht (fun z => kt (fun w => z ((ofI_eq hx hy).mpr w)) p e R s m args below meth c mc ms ρ0 C H locs cells slots ls ρ (hh.stk hh.2.2.1.2.2)) (fun z => by rw [hn]; exact kf ((ofI_eq hx hy).mp z) p e R s m args below meth c mc ms ρ0 C H locs cells slots ls ρ (hh.stk hh.2.2.1.2.2))
theorem g_if_lt (tg n' : Nat) {x : Int} {off : Int} (hd : decode mt.2.1 pc = .ok (.ifCond .lt off, 3)) (hx : inR x) (ht : (pc : Int) + off = (tg : Int)) (hn : pc + 3 = n') (kt : x < 0 → G X mt d P V0 bc bs tg L st V κ) (kf : 0 ≤ x → G X mt d P V0 bc bs n' L st V κ) : G X mt d P V0 bc bs pc L (Iv x :: st) V κ := fun p e R s m args below meth c mc ms ρ0 C H locs cells slots ls ρ hh => lv_if_lt C.1 C.2.1 hd ht (fun z => kt ((ofI_lt hx inR_0).mp z) p e R s m args below meth c mc ms ρ0 C H locs cells slots ls ρ (hh.stk hh.2.2.1.2)) (fun z => by rw [hn]; exact kf (Int.not_lt.mp (fun w => z ((ofI_lt hx inR_0).mpr w))) p e R s m args below meth c mc ms ρ0 C H locs cells slots ls ρ (hh.stk hh.2.2.1.2))
theorem g_icmp_lt (tg n' : Nat) {x y : Int} {off : Int} (hd : decode mt.2.1 pc = .ok (.if_icmp .lt off, 3)) (hx : inR x) (hy : inR y) (ht : (pc : Int) + off = (tg : Int)) (hn : pc + 3 = n') (kt : x < y → G X mt d P V0 bc bs tg L st V κ) (kf : y ≤ x → G X mt d P V0 bc bs n' L st V κ) : G X mt d P V0 bc bs pc L (Iv y :: Iv x :: st) V κ := fun p e R s m args below meth c mc ms ρ0 C H locs cells slots ls ρ hh => lv_icmp_lt C.1 C.2.1 hd ht (fun z => kt ((ofI_lt hx hy).mp z) p e R s m args below meth c mc ms ρ0 C H locs cells slots ls ρ (hh.stk hh.2.2.1.2.2)) (fun z => by rw [hn]; exact kf (Int.not_lt.mp (fun w => z ((ofI_lt hx hy).mpr w))) p e R s m args below meth c mc ms ρ0 C H locs cells slots ls ρ (hh.stk hh.2.2.1.2.2))
theorem g_if_ge (tg n' : Nat) {x : Int} {off : Int} (hd : decode mt.2.1 pc = .ok (.ifCond .ge off, 3)) (hx : inR x) (ht : (pc : Int) + off = (tg : Int)) (hn : pc + 3 = n') (kt : 0 ≤ x → G X mt d P V0 bc bs tg L st V κ) (kf : x < 0 → G X mt d P V0 bc bs n' L st V κ) : G X mt d P V0 bc bs pc L (Iv x :: st) V κ := fun p e R s m args below meth c mc ms ρ0 C H locs cells slots ls ρ hh => lv_if_ge C.1 C.2.1 hd ht (fun z => kt ((ofI_le inR_0 hx).mp z) p e R s m args below meth c mc ms ρ0 C H locs cells slots ls ρ (hh.stk hh.2.2.1.2)) (fun z => by rw [hn]; exact kf (Int.not_le.mp (fun w => z ((ofI_le inR_0 hx).mpr w))) p e R s m args below meth c mc ms ρ0 C H locs cells slots ls ρ (hh.stk hh.2.2.1.2))
theorem g_icmp_ge (tg n' : Nat) {x y : Int} {off : Int} (hd : decode mt.2.1 pc = .ok (.if_icmp .ge off, 3)) (hx : inR x) (hy : inR y) (ht : (pc : Int) + off = (tg : Int)) (hn : pc + 3 = n') (kt : y ≤ x → G X mt d P V0 bc bs tg L st V κ) (kf : x < y → G X mt d P V0 bc bs n' L st V κ) : G X mt d P V0 bc bs pc L (Iv y :: Iv x :: st) V κ := fun p e R s m args below meth c mc ms ρ0 C H locs cells slots ls ρ hh => lv_icmp_ge C.1 C.2.1 hd ht (fun z => kt ((ofI_le hy hx).mp z) p e R s m args below meth c mc ms ρ0 C H locs cells slots ls ρ (hh.stk hh.2.2.1.2.2)) (fun z => by rw [hn]; exact kf (Int.not_le.mp (fun w => z ((ofI_le hy hx).mpr w))) p e R s m args below meth c mc ms ρ0 C H locs cells slots ls ρ (hh.stk hh.2.2.1.2.2))
theorem g_if_gt (tg n' : Nat) {x : Int} {off : Int} (hd : decode mt.2.1 pc = .ok (.ifCond .gt off, 3)) (hx : inR x) (ht : (pc : Int) + off = (tg : Int)) (hn : pc + 3 = n') (kt : 0 < x → G X mt d P V0 bc bs tg L st V κ) (kf : x ≤ 0 → G X mt d P V0 bc bs n' L st V κ) : G X mt d P V0 bc bs pc L (Iv x :: st) V κ := fun p e R s m args below meth c mc ms ρ0 C H locs cells slots ls ρ hh => lv_if_gt C.1 C.2.1 hd ht (fun z => kt ((ofI_lt inR_0 hx).mp z) p e R s m args below meth c mc ms ρ0 C H locs cells slots ls ρ (hh.stk hh.2.2.1.2)) (fun z => by rw [hn]; exact kf (Int.not_lt.mp (fun w => z ((ofI_lt inR_0 hx).mpr w))) p e R s m args below meth c mc ms ρ0 C H locs cells slots ls ρ (hh.stk hh.2.2.1.2))
theorem g_icmp_gt (tg n' : Nat) {x y : Int} {off : Int} (hd : decode mt.2.1 pc = .ok (.if_icmp .gt off, 3)) (hx : inR x) (hy : inR y) (ht : (pc : Int) + off = (tg : Int)) (hn : pc + 3 = n') (kt : y < x → G X mt d P V0 bc bs tg L st V κ) (kf : x ≤ y → G X mt d P V0 bc bs n' L st V κ) : G X mt d P V0 bc bs pc L (Iv y :: Iv x :: st) V κ := fun p e R s m args below meth c mc ms ρ0 C H locs cells slots ls ρ hh => lv_icmp_gt C.1 C.2.1 hd ht (fun z => kt ((ofI_lt hy hx).mp z) p e R s m args below meth c mc ms ρ0 C H locs cells slots ls ρ (hh.stk hh.2.2.1.2.2)) (fun z => by rw [hn]; exact kf (Int.not_lt.mp (fun w => z ((ofI_lt hy hx).mpr w))) p e R s m args below meth c mc ms ρ0 C H locs cells slots ls ρ (hh.stk hh.2.2.1.2.2))
theorem g_if_le (tg n' : Nat) {x : Int} {off : Int} (hd : decode mt.2.1 pc = .ok (.ifCond .le off, 3)) (hx : inR x) (ht : (pc : Int) + off = (tg : Int)) (hn : pc + 3 = n') (kt : x ≤ 0 → G X mt d P V0 bc bs tg L st V κ) (kf : 0 < x → G X mt d P V0 bc bs n' L st V κ) : G X mt d P V0 bc bs pc L (Iv x :: st) V κ := fun p e R s m args below meth c mc ms ρ0 C H locs cells slots ls ρ hh => lv_if_le C.1 C.2.1 hd ht (fun z => kt ((ofI_le hx inR_0).mp z) p e R s m args below meth c mc ms ρ0 C H locs cells slots ls ρ (hh.stk hh.2.2.1.2)) (fun z => by rw [hn]; exact kf (Int.not_le.mp (fun w => z ((ofI_le hx inR_0).mpr w))) p e R s m args below meth c mc ms ρ0 C H locs cells slots ls ρ (hh.stk hh.2.2.1.2))
theorem g_icmp_le (tg n' : Nat) {x y : Int} {off : Int} (hd : decode mt.2.1 pc = .ok (.if_icmp .le off, 3)) (hx : inR x) (hy : inR y) (ht : (pc : Int) + off = (tg : Int)) (hn : pc + 3 = n') (kt : x ≤ y → G X mt d P V0 bc bs tg L st V κ) (kf : y < x → G X mt d P V0 bc bs n' L st V κ) : G X mt d P V0 bc bs pc L (Iv y :: Iv x :: st) V κ := fun p e R s m args below meth c mc ms ρ0 C H locs cells slots ls ρ hh => lv_icmp_le C.1 C.2.1 hd ht (fun z => kt ((ofI_le hx hy).mp z) p e R s m args below meth c mc ms ρ0 C H locs cells slots ls ρ (hh.stk hh.2.2.1.2.2)) (fun z => by rw [hn]; exact kf (Int.not_le.mp (fun w => z ((ofI_le hx hy).mpr w))) p e R s m args below meth c mc ms ρ0 C H locs cells slots ls ρ (hh.stk hh.2.2.1.2.2))
theorem g_goto (tg : Nat) {off : Int} (hd : decode mt.2.1 pc = .ok (.goto off, 3)) (ht : (pc : Int) + off = (tg : Int)) (k : G X mt d P V0 bc bs tg L st V κ) : G X mt d P V0 bc bs pc L st V κ := fun p e R s m args below meth c mc ms ρ0 C H locs cells slots ls ρ hh => lv_goto C.1 C.2.1 hd ht (k p e R s m args below meth c mc ms ρ0 C H locs cells slots ls ρ hh)
theorem g_ifnull (tg n' : Nat) {v : Option Nat} {off : Int} (hd : decode mt.2.1 pc = .ok (.ifnull off, 3)) (ht : (pc : Int) + off = (tg : Int)) (hn : pc + 3 = n') (kt : v = none → G X mt d P V0 bc bs tg L st V κ) (kf : v ≠ none → G X mt d P V0 bc bs n' L st V κ) : G X mt d P V0 bc bs pc L (.inr v :: st) V κ := fun p e R s m args below meth c mc ms ρ0 C H locs cells slots ls ρ hh => by
  rcases v with _ | t
  · exact lv_ifnullN C.1 C.2.1 hd ht (kt rfl p e R s m args below meth c mc ms ρ0 C H locs cells slots ls ρ (hh.stk hh.2.2.1.2))
  · exact lv_ifnull C.1 C.2.1 hd (by rw [hn]; exact kf (fun z => by cases z) p e R s m args below meth c mc ms ρ0 C H locs cells slots ls ρ (hh.stk hh.2.2.1.2))
theorem g_ifnonnull (tg n' : Nat) {v : Option Nat} {off : Int} (hd : decode mt.2.1 pc = .ok (.ifnonnull off, 3)) (ht : (pc : Int) + off = (tg : Int)) (hn : pc + 3 = n') (kt : v ≠ none → G X mt d P V0 bc bs tg L st V κ) (kf : v = none → G X mt d P V0 bc bs n' L st V κ) : G X mt d P V0 bc bs pc L (.inr v :: st) V κ := fun p e R s m args below meth c mc ms ρ0 C H locs cells slots ls ρ hh => by
  rcases v with _ | t
  · exact lv_ifnonnullN C.1 C.2.1 hd (by rw [hn]; exact kf rfl p e R s m args below meth c mc ms ρ0 C H locs cells slots ls ρ (hh.stk hh.2.2.1.2))
  · exact lv_ifnonnull C.1 C.2.1 hd ht (kt (fun z => by cases z) p e R s m args below meth c mc ms ρ0 C H locs cells slots ls ρ (hh.stk hh.2.2.1.2))
theorem g_tabOut (tg : Nat) {dflt lo hi : Int} {offs : Array Int} {len : Nat} {x : Int} (hd : decode mt.2.1 pc = .ok (.tableswitch dflt lo hi offs, len)) (hx : inR x) (h : x < lo ∨ hi < x) (ht : (pc : Int) + dflt = (tg : Int)) (k : G X mt d P V0 bc bs tg L st V κ) : G X mt d P V0 bc bs pc L (Iv x :: st) V κ := fun p e R s m args below meth c mc ms ρ0 C H locs cells slots ls ρ hh => lv_tableOut C.1 C.2.1 hd (by rw [inR_toInt hx]; exact h) ht (k p e R s m args below meth c mc ms ρ0 C H locs cells slots ls ρ (hh.stk hh.2.2.1.2))
theorem g_tabIn (tg : Nat) {dflt lo hi : Int} {offs : Array Int} {len : Nat} {x : Int} (off : Int) (hd : decode mt.2.1 pc = .ok (.tableswitch dflt lo hi offs, len)) (hx : inR x) (h1 : ¬ x < lo) (h2 : ¬ hi < x) (ho : offs[(x - lo).toNat]? = some off) (ht : (pc : Int) + off = (tg : Int)) (k : G X mt d P V0 bc bs tg L st V κ) : G X mt d P V0 bc bs pc L (Iv x :: st) V κ := fun p e R s m args below meth c mc ms ρ0 C H locs cells slots ls ρ hh => lv_tableIn C.1 C.2.1 hd (by rw [inR_toInt hx]; exact h1) (by rw [inR_toInt hx]; exact h2) (by rw [inR_toInt hx]; exact ho) ht (k p e R s m args below meth c mc ms ρ0 C H locs cells slots ls ρ (hh.stk hh.2.2.1.2))
theorem va_rf_cv (ρ : Nat → Nat) (v : Option Nat) : va_rf (v.map ρ) = cv ρ (.inr v) := by rcases v with _ | t <;> rfl
theorem g_acmpE_eq (tg : Nat) {t : Nat} {off : Int} (hd : decode mt.2.1 pc = .ok (.if_acmp .eq off, 3)) (ht : (pc : Int) + off = (tg : Int)) (k : G X mt d P V0 bc bs tg L st V κ) : G X mt d P V0 bc bs pc L (Rf t :: Rf t :: st) V κ := fun p e R s m args below meth c mc ms ρ0 C H locs cells slots ls ρ hh => lv_acmp_eq (rx := some (ρ t)) (ry := some (ρ t)) C.1 C.2.1 hd ht (fun _ => k p e R s m args below meth c mc ms ρ0 C H locs cells slots ls ρ (hh.stk hh.2.2.1.2.2)) (fun z => absurd rfl z)
theorem g_acmpE_ne (n' : Nat) {t : Nat} {off : Int} (hd : decode mt.2.1 pc = .ok (.if_acmp .ne off, 3)) {tg : Nat} (ht : (pc : Int) + off = (tg : Int)) (hn : pc + 3 = n') (k : G X mt d P V0 bc bs n' L st V κ) : G X mt d P V0 bc bs pc L (Rf t :: Rf t :: st) V κ := fun p e R s m args below meth c mc ms ρ0 C H locs cells slots ls ρ hh => lv_acmp_ne (rx := some (ρ t)) (ry := some (ρ t)) C.1 C.2.1 hd ht (fun z => absurd rfl z) (fun _ => by rw [hn]; exact k p e R s m args below meth c mc ms ρ0 C H locs cells slots ls ρ (hh.stk hh.2.2.1.2.2))
end G5
