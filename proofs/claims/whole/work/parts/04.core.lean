/-! THE CORE: a judgement G over a memory that is a function (address to cell), with the machine hidden; rows of it out of the kit's rows -/
abbrev Cel : Type := (Nat × vp_A) ⊕ (Nat × List Value)
abbrev Mem : Type := Nat → Option Cel
/-- launch; classes' numbers and slots; array classes (0 int, 1 boolean, 2 Object, 3 Row); the first address that may be written; addresses of static arrays -/
abbrev Cx : Type := Launch × va_G × (Nat → ClassId) × Nat × (Nat → Nat)
def tysG (X : Cx) : List (ClassId × FieldType) := [(X.2.2.1 0, .int), (X.2.2.1 1, .boolean), (X.2.2.1 2, .object "java/lang/Object"), (X.2.2.1 3, .object "WoodenMains$Row")]
def toE (X : Cx) (e : Cel) : va_E := match e with
  | .inl q => .inl (X.2.2.1 q.1, q.2)
  | .inr o => .inr o
def frA (X : Cx) : Nat → Prop := fun q => X.2.2.2.1 ≤ q
def iA (n : Nat) (f : Nat → Int32) : Cel := .inl (0, n, .inl f)
def zA (n : Nat) (f : Nat → Int32) : Cel := .inl (1, n, .inl f)
def oA (n : Nat) (f : Nat → Option Nat) : Cel := .inl (2, n, .inr (.inr (.inr (.inr f))))
def rA (n : Nat) (f : Nat → Option Nat) : Cel := .inl (3, n, .inr (.inr (.inr (.inr f))))
def ob (ci : Nat) (fs : List Value) : Cel := .inr (ci, fs)
def wkI (U : State) (H : Heap) (a n : Nat) (f : Nat → Int32) : Prop := ∃ cell : Cell, H[a]? = some cell ∧ U.isArrayOf cell .int ∧ cell.vm ≠ .unknown ∧ cell.slots.size = n ∧ ∀ j : Nat, j < n → cell.slots[j]? = some (.int (f j))
def wkO (U : State) (H : Heap) (a n : Nat) : Prop := ∃ cell : Cell, H[a]? = some cell ∧ U.isArrayOf cell (.object "java/lang/Object") ∧ cell.vm ≠ .unknown ∧ cell.slots.size = n
/-- an old array, that is only read -/
def wk (U : State) (H : Heap) (a : Nat) (e : Cel) : Prop := (∃ n f, e = iA n f ∧ wkI U H a n f) ∨ ∃ f, e = oA 0 f ∧ wkO U H a 0
def mm (X : Cx) (M : Mem) (U : State) (H : Heap) : Prop := ∀ (a : Nat) (e : Cel), M a = some e → (frA X a ∧ va_at X.2.1 vwCl (a, toE X e) H) ∨ (¬ frA X a ∧ wk U H a e)
def mset (M : Mem) (a : Nat) (e : Cel) : Mem := fun q => if q = a then some e else M q
theorem mset_s (M : Mem) (a : Nat) (e : Cel) : mset M a e a = some e := if_pos rfl
theorem mset_n (M : Mem) {a q : Nat} (e : Cel) (h : q ≠ a) : mset M a e q = M q := if_neg h
theorem wk.moved {u U : State} {H : Heap} {a : Nat} {e : Cel} (hvm : u.vm.Alike U.vm) (h : wk u H a e) : wk U H a e := by
  rcases h with ⟨n, f, h0, c, h1, h2, h3⟩ | ⟨f, h0, c, h1, h2, h3⟩
  · exact Or.inl ⟨n, f, h0, c, h1, State.isArrayOf_alike hvm h2, h3⟩
  · exact Or.inr ⟨f, h0, c, h1, State.isArrayOf_alike hvm h2, h3⟩
theorem wk.kept {U : State} {H H1 : Heap} {a : Nat} {e : Cel} (h : wk U H a e) (hq : H1[a]? = H[a]?) : wk U H1 a e := by
  rcases h with ⟨n, f, h0, c, h1, h2⟩ | ⟨f, h0, c, h1, h2⟩
  · exact Or.inl ⟨n, f, h0, c, by rw [hq]; exact h1, h2⟩
  · exact Or.inr ⟨f, h0, c, by rw [hq]; exact h1, h2⟩
theorem wk.lt {U : State} {H : Heap} {a : Nat} {e : Cel} (h : wk U H a e) : a < H.size := by
  rcases h with ⟨n, f, h0, c, h1, h2⟩ | ⟨f, h0, c, h1, h2⟩
  · exact (Array.getElem?_eq_some_iff.mp h1).1
  · exact (Array.getElem?_eq_some_iff.mp h1).1
theorem mm.moved {X : Cx} {M : Mem} {u U : State} {H : Heap} (hvm : u.vm.Alike U.vm) (h : mm X M u H) : mm X M U H := fun a e he => (h a e he).elim Or.inl (fun q => Or.inr ⟨q.1, q.2.moved hvm⟩)
theorem mm.lt {X : Cx} {M : Mem} {U : State} {H : Heap} {a : Nat} {e : Cel} (h : mm X M U H) (he : M a = some e) : a < H.size := (h a e he).elim (fun q => q.2.lt) (fun q => q.2.lt)
theorem mm.none {X : Cx} {M : Mem} {U : State} {H : Heap} {a : Nat} (h : mm X M U H) (ha : H.size ≤ a) : M a = none := by
  cases he : M a with
  | none => rfl
  | some e => exact absurd (h.lt he) (Nat.not_lt.mpr ha)
theorem mm.obj {X : Cx} {M : Mem} {U : State} {H : Heap} {a : Nat} {o : Nat × List Value} (h : mm X M U H) (he : M a = some (.inr o)) : frA X a ∧ va_at X.2.1 vwCl (a, .inr o) H := by
  rcases h a _ he with q | ⟨-, ⟨n, f, h0, -⟩ | ⟨f, h0, -⟩⟩
  · exact q
  · cases h0
  · cases h0
theorem mm.kept {X : Cx} {M : Mem} {U : State} {H H1 : Heap} (h : mm X M U H) (hq : ∀ q : Nat, q < H.size → H1[q]? = H[q]?) : mm X M U H1 := fun a e he => by
  have hl := hq a (h.lt he)
  rcases h a e he with ⟨q1, q2⟩ | ⟨q1, q2⟩
  · exact Or.inl ⟨q1, q2.kept hl⟩
  · exact Or.inr ⟨q1, q2.kept hl⟩
theorem mm.set {X : Cx} {M : Mem} {U : State} {H H1 : Heap} {a : Nat} {e1 : Cel} (h : mm X M U H) (ha : frA X a) (he : va_at X.2.1 vwCl (a, toE X e1) H1) (oq : ∀ q : Nat, q ≠ a → H1[q]? = H[q]?) : mm X (mset M a e1) U H1 := fun b e hb => by
  by_cases hab : b = a
  · subst hab
    rw [mset_s] at hb
    cases hb
    exact Or.inl ⟨ha, he⟩
  · rw [mset_n M e1 hab] at hb
    rcases h b e hb with ⟨q1, q2⟩ | ⟨q1, q2⟩
    · exact Or.inl ⟨q1, q2.kept (oq b hab)⟩
    · exact Or.inr ⟨q1, q2.kept (oq b hab)⟩
theorem mm.push {X : Cx} {M : Mem} {U : State} {H H1 : Heap} {e1 : Cel} (h : mm X M U H) (ha : frA X H.size) (he : va_at X.2.1 vwCl (H.size, toE X e1) H1) (oq : ∀ q : Nat, q < H.size → H1[q]? = H[q]?) : mm X (mset M H.size e1) U H1 := fun b e hb => by
  by_cases hab : b = H.size
  · subst hab
    rw [mset_s] at hb
    cases hb
    exact Or.inl ⟨ha, he⟩
  · rw [mset_n M e1 hab] at hb
    exact h.kept oq b e hb
/-- words that stay but are not carried by the kit's lists -/
def nwL : List Cond := lw_tbl.filter (fun w => match w with
  | .methodLinkNest .. => true
  | .castable .. => true
  | _ => false)
def am (X : Cx) (U : State) (H : Heap) : Prop :=
  va_K X.2.1 vwCl (tysG X) U ∧ (∀ w ∈ nwL, va_Nw w U) ∧ (va_AO "java/lang/Object" U ∧ va_AO "WoodenMains$Row" U) ∧
  va_Z "WoodenMains" "LEAST_SETTINGS" "[I" (.ref (X.2.2.2.2 0)) (frA X) U H ∧ va_Z "WoodenMains" "MOST_SETTINGS" "[I" (.ref (X.2.2.2.2 1)) (frA X) U H ∧
  va_Z "java/util/ArrayList" "DEFAULTCAPACITY_EMPTY_ELEMENTDATA" "[Ljava/lang/Object;" (.ref (X.2.2.2.2 2)) (frA X) U H
theorem nwL_warm {w : Cond} (h : w ∈ nwL) {s U : State} (hW : s.WarmedH U.vm) (hZ : va_Nw w s) : va_Nw w U := by
  have h2 := (List.mem_filter.mp h).2
  cases w <;> first | exact hZ.warmM hW | exact hZ.warmC hW | cases h2
theorem am.moved {X : Cx} {u U : State} {H : Heap} (hW : u.WarmedH U.vm) (h : am X u H) : am X U H :=
  ⟨va_K.moved hW.alike h.1, fun w hw => nwL_warm hw hW (h.2.1 w hw), ⟨h.2.2.1.1.moved hW.alike, h.2.2.1.2.moved hW.alike⟩, h.2.2.2.1.moved hW.alike, h.2.2.2.2.1.moved hW.alike, h.2.2.2.2.2.moved hW.alike⟩
-- locals
abbrev Lc : Type := List (Option Value)
def lvL (ls : Array Slot) (n : Nat) (L : Lc) : Prop := ls.size = n ∧ lv_wf ls ∧ ∀ (i : Nat) (v : Value), L[i]? = some (some v) → v.category = 1 → ls[i]? = some (.val v)
def pr1 (L : Lc) : List (Nat × Value) := (List.range L.length).filterMap (fun i => match L[i]? with
  | some (some v) => if v.category = 1 then some (i, v) else none
  | _ => none)
theorem pr1_mem {L : Lc} {i : Nat} {v : Value} : (i, v) ∈ pr1 L ↔ L[i]? = some (some v) ∧ v.category = 1 := by
  unfold pr1
  rw [List.mem_filterMap]
  constructor
  · rintro ⟨j, hj, h⟩
    cases hL : L[j]? with
    | none => rw [hL] at h; cases h
    | some o =>
      cases o with
      | none => rw [hL] at h; cases h
      | some w =>
        rw [hL] at h
        by_cases hc : w.category = 1
        · simp only [hc, if_true] at h
          cases h
          exact ⟨hL, hc⟩
        · simp only [hc, if_false] at h
          cases h
  · rintro ⟨h, hc⟩
    refine ⟨i, List.mem_range.mpr (List.getElem?_eq_some_iff.mp h).1, ?_⟩
    rw [h]
    simp [hc]
theorem lvL.has {ls : Array Slot} {n : Nat} {L : Lc} (h : lvL ls n L) : lv_has ls n (pr1 L) := ⟨h.1, h.2.1, fun q hq => h.2.2 q.1 q.2 (pr1_mem.mp hq).1 (pr1_mem.mp hq).2⟩
theorem lvL.store {ls : Array Slot} {n i : Nat} {L : Lc} {v : Value} (h : lv_has ls n ((i, v) :: (pr1 L).filter (fun q => !(q.1 == i) && !(q.1 + 1 == i && q.2.category == 2)))) : lvL ls n (L.set i (some v)) := by
  refine ⟨h.1, h.2.1, fun j w hj hc => ?_⟩
  by_cases hij : j = i
  · subst hij
    have hl : j < L.length := by
      have := (List.getElem?_eq_some_iff.mp hj).1
      rwa [List.length_set] at this
    rw [List.getElem?_set_self hl] at hj
    cases hj
    exact h.2.2 (j, v) List.mem_cons_self
  · rw [List.getElem?_set_ne (Ne.symm hij)] at hj
    refine h.2.2 (j, w) (List.mem_cons_of_mem _ (List.mem_filter.mpr ⟨pr1_mem.mpr ⟨hj, hc⟩, ?_⟩))
    simp [hij, hc]
-- methods, contracts
abbrev Mt : Type := MethodName × ByteArray × Nat × Option FieldType
abbrev Po : Type := Option Value → Mem → Nat → Prop
def cxC (X : Cx) (mt : Mt) (d : Nat) (p : Program) (R : Room) (s : State) (m : MethodId) (args : Array Value) (meth : Method) (c : Code) (mc ms : Nat) : Prop :=
  p.tables.exec = Jvm.exec ∧ c.code = mt.2.1 ∧ c.maxLocals = mt.2.2.1 ∧ s.vm.findClass mt.1.cls = some m.cls ∧ (∀ w ∈ tbG, w.before args s = true) ∧ meth.sig.returnType = mt.2.2.2 ∧ meth.locks = false ∧ meth.name = mt.1.name ∧ am X s s.heap ∧ (d ≤ R.frames ∧ 64 * d ≤ R.locals ∧ mc ≤ R.cells ∧ ms ≤ R.slots) ∧ X.2.2.2.1 ≤ s.heap.size
def hhS (X : Cx) (mt : Mt) (bc bs : Nat) (L : Lc) (M : Mem) (sz : Nat) (s : State) (H : Heap) (locs : List Loc) (cells slots : Nat) (ls : Array Slot) (mc ms : Nat) : Prop :=
  lvL ls mt.2.2.1 L ∧ H.size = sz ∧ mm X M s H ∧ va_S (frA X) s.heap H locs ∧ cells + bc ≤ mc ∧ slots + bs ≤ ms
def qcG (X : Cx) (P : Po) : Array Value → State → Outcome → State → Prop := fun _ st oc t => (∃ (r : Option Value) (M' : Mem), oc = .returned r ∧ mm X M' t t.heap ∧ P r M' t.heap.size) ∧ va_F (frA X) st t
def G (X : Cx) (mt : Mt) (d : Nat) (P : Po) (bc bs pc : Nat) (L : Lc) (st : List Value) (M : Mem) (sz : Nat) : Prop :=
  ∀ (p : Program) (e : Env) (R : Room) (s : State) (m : MethodId) (args : Array Value) (below : List Frame) (meth : Method) (c : Code) (mc ms : Nat), cxC X mt d p R s m args meth c mc ms →
  ∀ (H : Heap) (locs : List Loc) (cells slots : Nat) (ls : Array Slot), hhS X mt bc bs L M sz s H locs cells slots ls mc ms →
  W p X.1 e R s m args below meth c H locs cells slots (MQ below (qcG X P) args s mc ms (frA X)) (F0 m pc ls st)
def Ct (X : Cx) (mt : Mt) (d bc bs : Nat) (as : List Value) (M : Mem) (sz : Nat) (P : Po) : Prop :=
  Met X.1 mt.1 (.code mt.1 mt.2.1 mt.2.2.1 mt.2.2.2 :: tbG) { frames := d, cells := bc, slots := bs, locals := 64 * d } (va_Pc as (fun U => U.heap.size = sz ∧ mm X M U U.heap ∧ am X U U.heap ∧ X.2.2.2.1 ≤ U.heap.size)) (qcG X P) bc bs (frA X)
section GG
variable {X : Cx} {mt : Mt} {d : Nat} {P : Po} {bc bs pc : Nat} {L : Lc} {st : List Value} {M : Mem} {sz : Nat}
theorem frA_new {s : State} (h : X.2.2.2.1 ≤ s.heap.size) : ∀ q : Nat, s.heap.size ≤ q → frA X q := fun _ hq => Nat.le_trans h hq
theorem Ct.of {as : List Value} (hy : plainName mt.1.cls = true) (hlen : (lg_sl as).length ≤ mt.2.2.1) (hL : ∀ (i : Nat) (v : Value), L[i]? = some (some v) → (i, v) ∈ lv_args 0 as) (h : G X mt d P bc bs 0 L [] M sz) : Ct X mt d bc bs as M sz P := by
  refine Met.ofW (cc := mt.2.1) (maxL := mt.2.2.1) (ret := mt.2.2.2) hy rfl ?_
  intro p e s m args below meth c s₁ B hml hv
  obtain ⟨rfl, hsz, hM, hA, hlo⟩ := hv
  have hts := atoms_spec (ws := .code mt.1 mt.2.1 mt.2.2.1 mt.2.2.2 :: tbG) B.pre
  have hl := lv_entry as (n := mt.2.2.1) hlen
  rw [lg_entry_eq]
  refine h p e _ s m _ below meth c bc bs ⟨B.exec, B.bytes, hml, findClass_of_methodNamed B.named, fun w hw => hts w (List.mem_cons_of_mem _ hw), B.returns, B.notSynchronized, (name_of_methodNamed B.named B.method).1, hA, ⟨Nat.le_refl _, Nat.le_refl _, Nat.le_refl _, Nat.le_refl _⟩, hlo⟩ s.heap [] 0 0 _ ⟨⟨hl.1, hl.2.1, fun i v hi _ => hl.2.2 (i, v) (hL i v hi)⟩, hsz, hM, va_S.rf, by omega, by omega⟩
-- ends
theorem g_iret {v : Int32} (hd : decode mt.2.1 pc = .ok (.ireturn, 1)) (hr : mt.2.2.2 = some .int) (h : P (some (.int v)) M sz) : G X mt d P bc bs pc L [.int v] M sz := fun p e R s m args below meth c mc ms C H locs cells slots ls hh =>
  W.widen (k := mc) (n := ms) (by have := hh.2.2.2.2.1; omega) (by have := hh.2.2.2.2.2; omega) (W.iret C.1 C.2.1 (C.2.2.2.2.2.1.trans hr) (fun t ht hW => ⟨⟨_, M, rfl, by rw [ht]; exact hh.2.2.1.moved hW.alike, by rw [ht, hh.2.1]; exact h⟩, hh.2.2.2.1.F ht⟩) hh.2.2.2.1.2.2 hd C.2.2.2.2.2.2.1)
theorem g_zret {v : Int32} (hd : decode mt.2.1 pc = .ok (.ireturn, 1)) (hr : mt.2.2.2 = some .boolean) (hv : narrow .boolean (.int v) = .int v) (h : P (some (.int v)) M sz) : G X mt d P bc bs pc L [.int v] M sz := fun p e R s m args below meth c mc ms C H locs cells slots ls hh =>
  W.widen (k := mc) (n := ms) (by have := hh.2.2.2.2.1; omega) (by have := hh.2.2.2.2.2; omega) (W.zret C.1 C.2.1 (C.2.2.2.2.2.1.trans hr) hv (fun t ht hW => ⟨⟨_, M, rfl, by rw [ht]; exact hh.2.2.1.moved hW.alike, by rw [ht, hh.2.1]; exact h⟩, hh.2.2.2.1.F ht⟩) hh.2.2.2.1.2.2 hd C.2.2.2.2.2.2.1)
theorem g_vret (hd : decode mt.2.1 pc = .ok (.return_, 1)) (hr : mt.2.2.2 = none) (h : P none M sz) : G X mt d P bc bs pc L [] M sz := fun p e R s m args below meth c mc ms C H locs cells slots ls hh =>
  W.widen (k := mc) (n := ms) (by have := hh.2.2.2.2.1; omega) (by have := hh.2.2.2.2.2; omega) (W.vret C.1 C.2.1 (C.2.2.2.2.2.1.trans hr) (fun t ht hW => ⟨⟨_, M, rfl, by rw [ht]; exact hh.2.2.1.moved hW.alike, by rw [ht, hh.2.1]; exact h⟩, hh.2.2.2.1.F ht⟩) hh.2.2.2.1.2.2 hd C.2.2.2.2.2.2.1)
theorem g_aret {v : Value} {rt : FieldType} (hd : decode mt.2.1 pc = .ok (.areturn, 1)) (hr : mt.2.2.2 = some rt) (hrt : (∃ n, rt = .object n) ∨ ∃ t, rt = .array t) (hv : v = .null ∨ ∃ a, v = .ref a) (h : P (some v) M sz) : G X mt d P bc bs pc L [v] M sz := fun p e R s m args below meth c mc ms C H locs cells slots ls hh =>
  W.widen (k := mc) (n := ms) (by have := hh.2.2.2.2.1; omega) (by have := hh.2.2.2.2.2; omega) (W.aret C.1 C.2.1 (C.2.2.2.2.2.1.trans hr) hrt hv (fun t ht hW => ⟨⟨_, M, rfl, by rw [ht]; exact hh.2.2.1.moved hW.alike, by rw [ht, hh.2.1]; exact h⟩, hh.2.2.2.1.F ht⟩) hh.2.2.2.1.2.2 hd C.2.2.2.2.2.2.1)
-- constants, locals, stack
theorem g_iconst (n' : Nat) {n : Int} {v : Int32} (hd : decode mt.2.1 pc = .ok (.iconst n, 1)) (hv : Int32.ofInt n = v) (hn : pc + 1 = n') (k : G X mt d P bc bs n' L (.int v :: st) M sz) : G X mt d P bc bs pc L st M sz := fun p e R s m args below meth c mc ms C H locs cells slots ls hh => lv_iconst C.1 C.2.1 hd hv (by rw [hn]; exact k p e R s m args below meth c mc ms C H locs cells slots ls hh)
theorem g_bipush (n' : Nat) {n : Int} {v : Int32} (hd : decode mt.2.1 pc = .ok (.bipush n, 2)) (hv : (Int8.ofInt n).toInt32 = v) (hn : pc + 2 = n') (k : G X mt d P bc bs n' L (.int v :: st) M sz) : G X mt d P bc bs pc L st M sz := fun p e R s m args below meth c mc ms C H locs cells slots ls hh => lv_bipush C.1 C.2.1 hd hv (by rw [hn]; exact k p e R s m args below meth c mc ms C H locs cells slots ls hh)
theorem g_sipush (n' : Nat) {n : Int} {v : Int32} (hd : decode mt.2.1 pc = .ok (.sipush n, 3)) (hv : (Int16.ofInt n).toInt32 = v) (hn : pc + 3 = n') (k : G X mt d P bc bs n' L (.int v :: st) M sz) : G X mt d P bc bs pc L st M sz := fun p e R s m args below meth c mc ms C H locs cells slots ls hh => lv_sipush C.1 C.2.1 hd hv (by rw [hn]; exact k p e R s m args below meth c mc ms C H locs cells slots ls hh)
theorem g_null (n' : Nat) (hd : decode mt.2.1 pc = .ok (.aconst_null, 1)) (hn : pc + 1 = n') (k : G X mt d P bc bs n' L (.null :: st) M sz) : G X mt d P bc bs pc L st M sz := fun p e R s m args below meth c mc ms C H locs cells slots ls hh => lv_null C.1 C.2.1 hd (by rw [hn]; exact k p e R s m args below meth c mc ms C H locs cells slots ls hh)
theorem g_iload_n (n' : Nat) {j : Fin 4} {x : Int32} (hd : decode mt.2.1 pc = .ok (.iload_n j, 1)) (hl : L[(j : Nat)]? = some (some (.int x))) (hn : pc + 1 = n') (k : G X mt d P bc bs n' L (.int x :: st) M sz) : G X mt d P bc bs pc L st M sz := fun p e R s m args below meth c mc ms C H locs cells slots ls hh => lv_iload_n C.1 C.2.1 hd rfl (hh.1.2.2 _ _ hl rfl) (by rw [hn]; exact k p e R s m args below meth c mc ms C H locs cells slots ls hh)
theorem g_iload (n' : Nat) {j : Nat} {x : Int32} (hd : decode mt.2.1 pc = .ok (.iload j, 2)) (hl : L[j]? = some (some (.int x))) (hn : pc + 2 = n') (k : G X mt d P bc bs n' L (.int x :: st) M sz) : G X mt d P bc bs pc L st M sz := fun p e R s m args below meth c mc ms C H locs cells slots ls hh => lv_iload C.1 C.2.1 hd (hh.1.2.2 _ _ hl rfl) (by rw [hn]; exact k p e R s m args below meth c mc ms C H locs cells slots ls hh)
theorem g_aload_n (n' : Nat) {j : Fin 4} {x : Nat} (hd : decode mt.2.1 pc = .ok (.aload_n j, 1)) (hl : L[(j : Nat)]? = some (some (.ref x))) (hn : pc + 1 = n') (k : G X mt d P bc bs n' L (.ref x :: st) M sz) : G X mt d P bc bs pc L st M sz := fun p e R s m args below meth c mc ms C H locs cells slots ls hh => lv_aload_n C.1 C.2.1 hd rfl (hh.1.2.2 _ _ hl rfl) (by rw [hn]; exact k p e R s m args below meth c mc ms C H locs cells slots ls hh)
theorem g_aload (n' : Nat) {j : Nat} {x : Nat} (hd : decode mt.2.1 pc = .ok (.aload j, 2)) (hl : L[j]? = some (some (.ref x))) (hn : pc + 2 = n') (k : G X mt d P bc bs n' L (.ref x :: st) M sz) : G X mt d P bc bs pc L st M sz := fun p e R s m args below meth c mc ms C H locs cells slots ls hh => lv_aload C.1 C.2.1 hd (hh.1.2.2 _ _ hl rfl) (by rw [hn]; exact k p e R s m args below meth c mc ms C H locs cells slots ls hh)
theorem g_aload_nN (n' : Nat) {j : Fin 4} (hd : decode mt.2.1 pc = .ok (.aload_n j, 1)) (hl : L[(j : Nat)]? = some (some .null)) (hn : pc + 1 = n') (k : G X mt d P bc bs n' L (.null :: st) M sz) : G X mt d P bc bs pc L st M sz := fun p e R s m args below meth c mc ms C H locs cells slots ls hh => lv_aload_nN C.1 C.2.1 hd rfl (hh.1.2.2 _ _ hl rfl) (by rw [hn]; exact k p e R s m args below meth c mc ms C H locs cells slots ls hh)
theorem g_aloadN (n' : Nat) {j : Nat} (hd : decode mt.2.1 pc = .ok (.aload j, 2)) (hl : L[j]? = some (some .null)) (hn : pc + 2 = n') (k : G X mt d P bc bs n' L (.null :: st) M sz) : G X mt d P bc bs pc L st M sz := fun p e R s m args below meth c mc ms C H locs cells slots ls hh => lv_aloadN C.1 C.2.1 hd (hh.1.2.2 _ _ hl rfl) (by rw [hn]; exact k p e R s m args below meth c mc ms C H locs cells slots ls hh)
theorem g_istore_n (n' : Nat) {j : Fin 4} {x : Int32} {L' : Lc} (hd : decode mt.2.1 pc = .ok (.istore_n j, 1)) (hL : L.set (j : Nat) (some (.int x)) = L') (hj : (j : Nat) < mt.2.2.1) (hn : pc + 1 = n') (k : G X mt d P bc bs n' L' st M sz) : G X mt d P bc bs pc L (.int x :: st) M sz := fun p e R s m args below meth c mc ms C H locs cells slots ls hh => lv_istore_n C.1 C.2.1 hd rfl hh.1.has hj rfl (fun ls' hl => by rw [hn]; exact k p e R s m args below meth c mc ms C H locs cells slots ls' ⟨hL ▸ lvL.store hl, hh.2⟩)
theorem g_istore (n' : Nat) {j : Nat} {x : Int32} {L' : Lc} (hd : decode mt.2.1 pc = .ok (.istore j, 2)) (hL : L.set j (some (.int x)) = L') (hj : j < mt.2.2.1) (hn : pc + 2 = n') (k : G X mt d P bc bs n' L' st M sz) : G X mt d P bc bs pc L (.int x :: st) M sz := fun p e R s m args below meth c mc ms C H locs cells slots ls hh => lv_istore C.1 C.2.1 hd hh.1.has hj rfl (fun ls' hl => by rw [hn]; exact k p e R s m args below meth c mc ms C H locs cells slots ls' ⟨hL ▸ lvL.store hl, hh.2⟩)
theorem g_astore_n (n' : Nat) {j : Fin 4} {x : Nat} {L' : Lc} (hd : decode mt.2.1 pc = .ok (.astore_n j, 1)) (hL : L.set (j : Nat) (some (.ref x)) = L') (hj : (j : Nat) < mt.2.2.1) (hn : pc + 1 = n') (k : G X mt d P bc bs n' L' st M sz) : G X mt d P bc bs pc L (.ref x :: st) M sz := fun p e R s m args below meth c mc ms C H locs cells slots ls hh => lv_astore_n C.1 C.2.1 hd rfl hh.1.has hj rfl (fun ls' hl => by rw [hn]; exact k p e R s m args below meth c mc ms C H locs cells slots ls' ⟨hL ▸ lvL.store hl, hh.2⟩)
theorem g_astore (n' : Nat) {j : Nat} {x : Nat} {L' : Lc} (hd : decode mt.2.1 pc = .ok (.astore j, 2)) (hL : L.set j (some (.ref x)) = L') (hj : j < mt.2.2.1) (hn : pc + 2 = n') (k : G X mt d P bc bs n' L' st M sz) : G X mt d P bc bs pc L (.ref x :: st) M sz := fun p e R s m args below meth c mc ms C H locs cells slots ls hh => lv_astore C.1 C.2.1 hd hh.1.has hj rfl (fun ls' hl => by rw [hn]; exact k p e R s m args below meth c mc ms C H locs cells slots ls' ⟨hL ▸ lvL.store hl, hh.2⟩)
theorem g_astore_nN (n' : Nat) {j : Fin 4} {L' : Lc} (hd : decode mt.2.1 pc = .ok (.astore_n j, 1)) (hL : L.set (j : Nat) (some .null) = L') (hj : (j : Nat) < mt.2.2.1) (hn : pc + 1 = n') (k : G X mt d P bc bs n' L' st M sz) : G X mt d P bc bs pc L (.null :: st) M sz := fun p e R s m args below meth c mc ms C H locs cells slots ls hh => lv_astore_nN C.1 C.2.1 hd rfl hh.1.has hj rfl (fun ls' hl => by rw [hn]; exact k p e R s m args below meth c mc ms C H locs cells slots ls' ⟨hL ▸ lvL.store hl, hh.2⟩)
theorem g_astoreN (n' : Nat) {j : Nat} {L' : Lc} (hd : decode mt.2.1 pc = .ok (.astore j, 2)) (hL : L.set j (some .null) = L') (hj : j < mt.2.2.1) (hn : pc + 2 = n') (k : G X mt d P bc bs n' L' st M sz) : G X mt d P bc bs pc L (.null :: st) M sz := fun p e R s m args below meth c mc ms C H locs cells slots ls hh => lv_astoreN C.1 C.2.1 hd hh.1.has hj rfl (fun ls' hl => by rw [hn]; exact k p e R s m args below meth c mc ms C H locs cells slots ls' ⟨hL ▸ lvL.store hl, hh.2⟩)
theorem g_iinc (n' : Nat) {j : Nat} {n : Int} {x v : Int32} {L' : Lc} (hd : decode mt.2.1 pc = .ok (.iinc j n, 3)) (hl : L[j]? = some (some (.int x))) (hv : x + Int32.ofInt n = v) (hL : L.set j (some (.int v)) = L') (hj : j < mt.2.2.1) (hn : pc + 3 = n') (k : G X mt d P bc bs n' L' st M sz) : G X mt d P bc bs pc L st M sz := fun p e R s m args below meth c mc ms C H locs cells slots ls hh => by
  obtain ⟨i, hi⟩ := List.getElem?_of_mem (pr1_mem.mpr ⟨hl, (rfl : (Value.int x).category = 1)⟩)
  exact lv_iinc C.1 C.2.1 hd hh.1.has hi hv hj rfl (fun ls' hl => by rw [hn]; exact k p e R s m args below meth c mc ms C H locs cells slots ls' ⟨hL ▸ lvL.store hl, hh.2⟩)
end GG
