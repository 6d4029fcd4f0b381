/-! THE CORE: a judgement G over an abstract memory: tags for addresses, Ints for ints; a store κ (tag, slot), a set V of live tags, a static layout of the tags; the machine hidden -/
abbrev Av : Type := Int ⊕ Option Nat
abbrev Ks : Type := Nat → Nat → Int
abbrev Vs : Type := Nat → Bool
abbrev Iv (x : Int) : Av := .inl x
abbrev Rf (t : Nat) : Av := .inr (some t)
abbrev Nl : Av := .inr none
def cv (ρ : Nat → Nat) (v : Av) : Value := match v with
  | .inl x => .int (Int32.ofInt x)
  | .inr none => .null
  | .inr (some t) => .ref (ρ t)
abbrev inR (x : Int) : Prop := -2147483648 ≤ x ∧ x < 2147483648
/-- launch; classes' numbers and slots; array classes (0 int, 1 boolean, 2 Object, 3 Row); the first address that may be written; addresses of old things by their tags; kinds and sizes of tags; kinds of slots (0 int, 1 a reference by its tag or 0, c + 2 the tag c) -/
abbrev Cx : Type := Launch × va_G × (Nat → ClassId) × Nat × (Nat → Nat) × (Nat → Nat × Nat) × (Nat → Nat → Nat)
abbrev kd (X : Cx) (t : Nat) : Nat × Nat := X.2.2.2.2.2.1 t
def tysG (X : Cx) : List (ClassId × FieldType) := [(X.2.2.1 0, .int), (X.2.2.1 1, .boolean), (X.2.2.1 2, .object "java/lang/Object"), (X.2.2.1 3, .object "WoodenMains$Row")]
def frA (X : Cx) : Nat → Prop := fun q => X.2.2.2.1 ≤ q
def vr (X : Cx) (t : Nat) (r : Nat → Int) (j : Nat) : Av := match X.2.2.2.2.2.2 t j with
  | 0 => .inl (r j)
  | 1 => .inr (if r j = 0 then none else some (r j).toNat)
  | c + 2 => .inr (some c)
def rfo (ρ : Nat → Nat) (v : Av) : Option Nat := match v with
  | .inl _ => none
  | .inr o => o.map ρ
def entI (X : Cx) (k t : Nat) (r : Nat → Int) : va_E := .inl (X.2.2.1 k, (kd X t).2, .inl (fun j => Int32.ofInt (r j)))
def entR (X : Cx) (ρ : Nat → Nat) (k t : Nat) (r : Nat → Int) : va_E := .inl (X.2.2.1 k, (kd X t).2, .inr (.inr (.inr (.inr (fun j => rfo ρ (vr X t r j))))))
def entO (X : Cx) (ρ : Nat → Nat) (t : Nat) (r : Nat → Int) : va_E := .inr ((kd X t).1, (List.range (kd X t).2).map (fun j => cv ρ (vr X t r j)))
def ent (X : Cx) (ρ : Nat → Nat) (t : Nat) (r : Nat → Int) : va_E :=
  if (kd X t).1 = 20 then entI X 0 t r else if (kd X t).1 = 21 then entI X 1 t r else if (kd X t).1 = 22 then entR X ρ 2 t r else if (kd X t).1 = 23 then entR X ρ 3 t r else entO X ρ t r
def wkI (U : State) (H : Heap) (a n : Nat) (f : Nat → Int32) : Prop := ∃ cell : Cell, H[a]? = some cell ∧ U.isArrayOf cell .int ∧ cell.vm ≠ .unknown ∧ cell.slots.size = n ∧ ∀ j : Nat, j < n → cell.slots[j]? = some (.int (f j))
def wkO (U : State) (H : Heap) (a : Nat) : Prop := ∃ cell : Cell, H[a]? = some cell ∧ U.isArrayOf cell (.object "java/lang/Object") ∧ cell.vm ≠ .unknown ∧ cell.slots.size = 0
/-- old things: 30 an array of ints, 31 the empty array of objects, else the mirror of Object[] -/
def oldOk (X : Cx) (t : Nat) (r : Nat → Int) (a : Nat) (U : State) (H : Heap) : Prop :=
  if (kd X t).1 = 30 then wkI U H a (kd X t).2 (fun j => Int32.ofInt (r j)) else if (kd X t).1 = 31 then wkO U H a else va_Mi "[Ljava/lang/Object;" a U
def cellOk (X : Cx) (ρ : Nat → Nat) (t : Nat) (r : Nat → Int) (U : State) (H : Heap) : Prop :=
  if 30 ≤ (kd X t).1 then ρ t = X.2.2.2.2.1 t ∧ ((kd X t).1 = 32 ∨ ¬ frA X (ρ t)) ∧ ((kd X t).1 = 32 ∨ ρ t < H.size) ∧ oldOk X t r (ρ t) U H else frA X (ρ t) ∧ va_at X.2.1 vwCl (ρ t, ent X ρ t r) H
def mm (X : Cx) (ρ : Nat → Nat) (V : Vs) (κ : Ks) (U : State) (H : Heap) : Prop :=
  (∀ t : Nat, V t = true → cellOk X ρ t (κ t) U H) ∧ (∀ a b : Nat, V a = true → V b = true → (kd X a).1 < 30 → (kd X b).1 < 30 → ρ a = ρ b → a = b) ∧
  (∀ t j : Nat, inR (κ t j)) ∧ (∀ t j q : Nat, V t = true → vr X t (κ t) j = .inr (some q) → V q = true) ∧ ∃ N : Nat, ∀ t, V t = true → t < N
def rowset (κ : Ks) (t : Nat) (r : Nat → Int) : Ks := fun a => if a = t then r else κ a
def up1 (r : Nat → Int) (j : Nat) (v : Int) : Nat → Int := fun b => if b = j then v else r b
def st2 (κ : Ks) (t j : Nat) (v : Int) : Ks := rowset κ t (up1 (κ t) j v)
def vset (V : Vs) (t : Nat) : Vs := fun a => if a = t then true else V a
def okA (V : Vs) (v : Av) : Prop := match v with
  | .inr (some t) => V t = true
  | _ => True
def okS (V : Vs) : List Av → Prop
  | [] => True
  | v :: st => okA V v ∧ okS V st
abbrev Lc : Type := List (Option Av)
def okL (V : Vs) : Lc → Prop
  | [] => True
  | o :: L => (∀ v, o = some v → okA V v) ∧ okL V L
theorem cv_cat (ρ : Nat → Nat) (v : Av) : (cv ρ v).category = 1 := by
  rcases v with x | (_ | t) <;> rfl
theorem rowset_s (κ : Ks) (t : Nat) (r : Nat → Int) : rowset κ t r t = r := if_pos rfl
theorem rowset_n (κ : Ks) {t a : Nat} (r : Nat → Int) (h : a ≠ t) : rowset κ t r a = κ a := if_neg h
theorem wkI.moved {u U : State} {H : Heap} {a n : Nat} {f : Nat → Int32} (hvm : u.vm.Alike U.vm) (h : wkI u H a n f) : wkI U H a n f := by
  obtain ⟨c, h1, h2, h3⟩ := h
  exact ⟨c, h1, State.isArrayOf_alike hvm h2, h3⟩
theorem wkO.moved {u U : State} {H : Heap} {a : Nat} (hvm : u.vm.Alike U.vm) (h : wkO u H a) : wkO U H a := by
  obtain ⟨c, h1, h2, h3⟩ := h
  exact ⟨c, h1, State.isArrayOf_alike hvm h2, h3⟩
theorem cellOk.moved {X : Cx} {ρ : Nat → Nat} {t : Nat} {r : Nat → Int} {u U : State} {H : Heap} (hvm : u.vm.Alike U.vm) (h : cellOk X ρ t r u H) : cellOk X ρ t r U H := by
  unfold cellOk at h ⊢
  split
  · rename_i c
    rw [if_pos c] at h
    refine ⟨h.1, h.2.1, h.2.2.1, ?_⟩
    have h3 := h.2.2.2
    unfold oldOk at h3 ⊢
    split
    · rename_i c
      rw [if_pos c] at h3
      exact h3.moved hvm
    · rename_i c
      rw [if_neg c] at h3
      split
      · rename_i c
        rw [if_pos c] at h3
        exact h3.moved hvm
      · rename_i c
        rw [if_neg c] at h3
        exact h3.moved hvm
  · rename_i c
    rw [if_neg c] at h
    exact h
theorem cellOk.kept {X : Cx} {ρ : Nat → Nat} {t : Nat} {r : Nat → Int} {U : State} {H H1 : Heap} (h : cellOk X ρ t r U H) (hs : H.size ≤ H1.size) (hq : H1[ρ t]? = H[ρ t]?) : cellOk X ρ t r U H1 := by
  unfold cellOk at h ⊢
  split
  · rename_i c
    rw [if_pos c] at h
    refine ⟨h.1, h.2.1, h.2.2.1.imp id (fun z => Nat.lt_of_lt_of_le z hs), ?_⟩
    have h3 := h.2.2.2
    unfold oldOk at h3 ⊢
    split
    · rename_i c
      rw [if_pos c] at h3
      obtain ⟨c, h1, h2⟩ := h3
      exact ⟨c, by rw [hq]; exact h1, h2⟩
    · rename_i c
      rw [if_neg c] at h3
      split
      · rename_i c
        rw [if_pos c] at h3
        obtain ⟨c, h1, h2⟩ := h3
        exact ⟨c, by rw [hq]; exact h1, h2⟩
      · rename_i c
        rw [if_neg c] at h3
        exact h3
  · rename_i c
    rw [if_neg c] at h
    exact ⟨h.1, h.2.kept hq⟩
theorem mm.moved {X : Cx} {ρ : Nat → Nat} {V : Vs} {κ : Ks} {u U : State} {H : Heap} (hvm : u.vm.Alike U.vm) (h : mm X ρ V κ u H) : mm X ρ V κ U H := ⟨fun t ht => (h.1 t ht).moved hvm, h.2⟩
/-- a fresh cell, as the kit has it -/
theorem mm.at {X : Cx} {ρ : Nat → Nat} {V : Vs} {κ : Ks} {U : State} {H : Heap} (h : mm X ρ V κ U H) {t : Nat} (ht : V t = true) (hk : (kd X t).1 < 30) : frA X (ρ t) ∧ va_at X.2.1 vwCl (ρ t, ent X ρ t (κ t)) H := by
  have h1 := h.1 t ht
  unfold cellOk at h1
  rw [if_neg (Nat.not_le.mpr hk)] at h1
  exact h1
theorem mm.old {X : Cx} {ρ : Nat → Nat} {V : Vs} {κ : Ks} {U : State} {H : Heap} (h : mm X ρ V κ U H) {t : Nat} (ht : V t = true) (hk : 30 ≤ (kd X t).1) : ρ t = X.2.2.2.2.1 t ∧ ((kd X t).1 = 32 ∨ ¬ frA X (ρ t)) ∧ ((kd X t).1 = 32 ∨ ρ t < H.size) ∧ oldOk X t (κ t) (ρ t) U H := by
  have h1 := h.1 t ht
  unfold cellOk at h1
  rw [if_pos hk] at h1
  exact h1
def lvl (X : Cx) (V : Vs) (N : Nat) : List Nat := (List.range N).filter (fun t => V t && decide ((kd X t).1 < 30))
def wsO (X : Cx) (ρ : Nat → Nat) (κ : Ks) (l : List Nat) : va_W := l.map (fun t => (ρ t, ent X ρ t (κ t)))
theorem lvl_mem {X : Cx} {V : Vs} {N t : Nat} : t ∈ lvl X V N ↔ t < N ∧ V t = true ∧ (kd X t).1 < 30 := by
  unfold lvl
  rw [List.mem_filter, List.mem_range, Bool.and_eq_true, decide_eq_true_eq]
theorem lvl_nodup (X : Cx) (V : Vs) (N : Nat) : (lvl X V N).Nodup := List.Pairwise.filter _ List.nodup_range
theorem wsO_get {X : Cx} {ρ : Nat → Nat} {κ : Ks} {l : List Nat} {k : Nat} {q : Nat × va_E} (h : (wsO X ρ κ l)[k]? = some q) : ∃ t, l[k]? = some t ∧ q = (ρ t, ent X ρ t (κ t)) := by
  unfold wsO at h
  rw [List.getElem?_map] at h
  cases ht : l[k]? with
  | none => rw [ht] at h; cases h
  | some t => rw [ht] at h; cases h; exact ⟨t, rfl, rfl⟩
theorem mm.P {X : Cx} {ρ : Nat → Nat} {V : Vs} {κ : Ks} {U : State} {H : Heap} (h : mm X ρ V κ U H) (N : Nat) : va_P X.2.1 vwCl (wsO X ρ κ (lvl X V N)) H := fun k q hq => by
  obtain ⟨t, h1, rfl⟩ := wsO_get hq
  have h2 := lvl_mem.mp (List.mem_of_getElem? h1)
  exact (h.at h2.2.1 h2.2.2).2
theorem nodup_get {l : List Nat} (hl : l.Nodup) {i j t : Nat} (h1 : l[i]? = some t) (h2 : l[j]? = some t) : i = j := by
  obtain ⟨a1, a2⟩ := List.getElem?_eq_some_iff.mp h1
  obtain ⟨b1, b2⟩ := List.getElem?_eq_some_iff.mp h2
  exact (List.getElem_inj hl).mp (a2.trans b2.symm)
theorem mm.D {X : Cx} {ρ : Nat → Nat} {V : Vs} {κ : Ks} {U : State} {H : Heap} (h : mm X ρ V κ U H) (N : Nat) : va_D (frA X) (wsO X ρ κ (lvl X V N)) := by
  refine ⟨fun i j p q hp hq hpq => ?_, fun k q hq => ?_⟩
  · obtain ⟨t, h1, rfl⟩ := wsO_get hp
    obtain ⟨t', h1', rfl⟩ := wsO_get hq
    have h2 := lvl_mem.mp (List.mem_of_getElem? h1)
    have h2' := lvl_mem.mp (List.mem_of_getElem? h1')
    have e := h.2.1 t t' h2.2.1 h2'.2.1 h2.2.2 h2'.2.2 hpq
    subst e
    exact nodup_get (lvl_nodup X V N) h1 h1'
  · obtain ⟨t, h1, rfl⟩ := wsO_get hq
    have h2 := lvl_mem.mp (List.mem_of_getElem? h1)
    exact (h.at h2.2.1 h2.2.2).1
theorem lvl_pos {X : Cx} {V : Vs} {N t : Nat} (hN : ∀ t, V t = true → t < N) (ht : V t = true) (hk : (kd X t).1 < 30) : ∃ k : Nat, (lvl X V N)[k]? = some t := List.getElem?_of_mem (lvl_mem.mpr ⟨hN t ht, ht, hk⟩)
theorem wsO_pos {X : Cx} {ρ : Nat → Nat} {κ : Ks} {l : List Nat} {k t : Nat} (h : l[k]? = some t) : (wsO X ρ κ l)[k]? = some (ρ t, ent X ρ t (κ t)) := by
  unfold wsO
  rw [List.getElem?_map, h]
  rfl
theorem old_kept {X : Cx} {ρ : Nat → Nat} {V : Vs} {κ : Ks} {U : State} {H0 H H1 : Heap} {locs locs1 : List Loc} (hlo : X.2.2.2.1 ≤ H0.size) (h : mm X ρ V κ U H) (hS : va_S (frA X) H0 H locs) (hS1 : va_S (frA X) H0 H1 locs1) {a : Nat} (ha : V a = true) (hk : 30 ≤ (kd X a).1) : ((kd X a).1 = 32 ∨ H1[ρ a]? = H[ρ a]?) ∧ ((kd X a).1 = 32 ∨ ρ a < H1.size) := by
  rcases (h.old ha hk).2.1 with z | h1
  · exact ⟨Or.inl z, Or.inl z⟩
  · have h2 : ρ a < H0.size := Nat.lt_of_lt_of_le (Nat.not_le.mp h1) hlo
    exact ⟨Or.inr ((hS1.2.1 _ h2 h1).trans (hS.2.1 _ h2 h1).symm), Or.inr (Nat.lt_of_lt_of_le h2 hS1.1)⟩
theorem cellOk.old {X : Cx} {ρ : Nat → Nat} {t : Nat} {r : Nat → Int} {U : State} {H H1 : Heap} (h : cellOk X ρ t r U H) (hk : 30 ≤ (kd X t).1) (hq : (kd X t).1 = 32 ∨ H1[ρ t]? = H[ρ t]?) (hs : (kd X t).1 = 32 ∨ ρ t < H1.size) : cellOk X ρ t r U H1 := by
  unfold cellOk at h ⊢
  rw [if_pos hk] at h ⊢
  refine ⟨h.1, h.2.1, hs, ?_⟩
  have h3 := h.2.2.2
  unfold oldOk at h3 ⊢
  split
  · rename_i c
    have hq := hq.resolve_left (by omega)
    rw [if_pos c] at h3
    obtain ⟨c, h1, h2⟩ := h3
    exact ⟨c, by rw [hq]; exact h1, h2⟩
  · rename_i c
    rw [if_neg c] at h3
    split
    · rename_i c
      have hq := hq.resolve_left (by omega)
      rw [if_pos c] at h3
      obtain ⟨c, h1, h2⟩ := h3
      exact ⟨c, by rw [hq]; exact h1, h2⟩
    · rename_i c
      rw [if_neg c] at h3
      exact h3
theorem mm.write {X : Cx} {ρ : Nat → Nat} {V : Vs} {κ : Ks} {U : State} {H0 H H1 : Heap} {locs locs1 : List Loc} {t N k : Nat} {r : Nat → Int} (hlo : X.2.2.2.1 ≤ H0.size) (h : mm X ρ V κ U H) (hN : ∀ t, V t = true → t < N) (hkt : (lvl X V N)[k]? = some t) (hS : va_S (frA X) H0 H locs) (hS1 : va_S (frA X) H0 H1 locs1) (hP : va_P X.2.1 vwCl ((wsO X ρ κ (lvl X V N)).set k (ρ t, ent X ρ t r)) H1) (hr : ∀ j, inR (r j)) (hc : ∀ j q, vr X t r j = .inr (some q) → V q = true) : mm X ρ V (rowset κ t r) U H1 := by
  have ht := lvl_mem.mp (List.mem_of_getElem? hkt)
  have hkl : k < (wsO X ρ κ (lvl X V N)).length := by
    unfold wsO
    rw [List.length_map]
    exact (List.getElem?_eq_some_iff.mp hkt).1
  refine ⟨fun a ha => ?_, h.2.1, fun a j => ?_, fun a j q ha hq => ?_, h.2.2.2.2⟩
  · by_cases hat : a = t
    · subst hat
      rw [rowset_s]
      unfold cellOk
      rw [if_neg (Nat.not_le.mpr ht.2.2)]
      exact ⟨(h.at ha ht.2.2).1, hP k _ (List.getElem?_set_self hkl)⟩
    · rw [rowset_n κ r hat]
      by_cases ha30 : 30 ≤ (kd X a).1
      · exact (h.1 a ha).old ha30 (old_kept hlo h hS hS1 ha ha30).1 (old_kept hlo h hS hS1 ha ha30).2
      · have ha30 := Nat.not_le.mp ha30
        obtain ⟨k', hk'⟩ := lvl_pos hN ha ha30
        have hne : k ≠ k' := fun e => by
          subst e
          rw [hkt] at hk'
          exact hat (Option.some.inj hk').symm
        have h1 := hP k' _ ((List.getElem?_set_ne hne).trans (wsO_pos hk'))
        unfold cellOk
        rw [if_neg (Nat.not_le.mpr ha30)]
        exact ⟨(h.at ha ha30).1, h1⟩
  · by_cases hat : a = t
    · subst hat
      rw [rowset_s]
      exact hr j
    · rw [rowset_n κ r hat]
      exact h.2.2.1 a j
  · by_cases hat : a = t
    · subst hat
      rw [rowset_s] at hq
      exact hc j q hq
    · rw [rowset_n κ r hat] at hq
      exact h.2.2.2.1 a j q ha hq
theorem ent_ext {X : Cx} {ρ ρ' : Nat → Nat} {t : Nat} {r : Nat → Int} (h : ∀ j q, vr X t r j = .inr (some q) → ρ' q = ρ q) : ent X ρ' t r = ent X ρ t r := by
  have h1 : ∀ j, cv ρ' (vr X t r j) = cv ρ (vr X t r j) := fun j => by
    rcases hv : vr X t r j with x | (_ | q)
    · rfl
    · rfl
    · show Value.ref (ρ' q) = Value.ref (ρ q)
      rw [h j q hv]
  have h2 : ∀ j, rfo ρ' (vr X t r j) = rfo ρ (vr X t r j) := fun j => by
    rcases hv : vr X t r j with x | (_ | q)
    · rfl
    · rfl
    · show some (ρ' q) = some (ρ q)
      rw [h j q hv]
  unfold ent entO entR
  simp only [h1, h2]
theorem mm.push {X : Cx} {ρ : Nat → Nat} {V : Vs} {κ : Ks} {U : State} {H0 H H1 : Heap} {locs locs1 : List Loc} {t N q0 : Nat} {r : Nat → Int} (hlo : X.2.2.2.1 ≤ H0.size) (h : mm X ρ V κ U H) (hN : ∀ t, V t = true → t < N) (ht : V t = false) (hk : (kd X t).1 < 30) (hS : va_S (frA X) H0 H locs) (hS1 : va_S (frA X) H0 H1 locs1) (hP : va_P X.2.1 vwCl (wsO X ρ κ (lvl X V N) ++ [(q0, ent X ρ t r)]) H1) (hD : va_D (frA X) (wsO X ρ κ (lvl X V N) ++ [(q0, ent X ρ t r)])) (hr : ∀ j, inR (r j)) (hc : ∀ j q, vr X t r j ≠ .inr (some q)) : mm X (fun a => if a = t then q0 else ρ a) (vset V t) (rowset κ t r) U H1 := by
  have hρ : ∀ a, V a = true → (fun a => if a = t then q0 else ρ a) a = ρ a := fun a ha => if_neg (fun e => by rw [e, ht] at ha; cases ha)
  have hV : ∀ a, vset V t a = true → a ≠ t → V a = true := fun a ha hne => by
    unfold vset at ha
    rwa [if_neg hne] at ha
  have hlast : (wsO X ρ κ (lvl X V N) ++ [(q0, ent X ρ t r)])[(wsO X ρ κ (lvl X V N)).length]? = some (q0, ent X ρ t r) := by
    rw [List.getElem?_append_right (Nat.le_refl _), Nat.sub_self]
    rfl
  have hfr : frA X q0 := hD.2 _ _ hlast
  have hold : ∀ {a k : Nat}, (lvl X V N)[k]? = some a → k < (wsO X ρ κ (lvl X V N)).length ∧ (wsO X ρ κ (lvl X V N) ++ [(q0, ent X ρ t r)])[k]? = some (ρ a, ent X ρ a (κ a)) := fun {a k} hk' => by
    have hl : k < (wsO X ρ κ (lvl X V N)).length := by
      unfold wsO
      rw [List.length_map]
      exact (List.getElem?_eq_some_iff.mp hk').1
    exact ⟨hl, by rw [List.getElem?_append_left hl]; exact wsO_pos hk'⟩
  have hne : ∀ a, V a = true → (kd X a).1 < 30 → ρ a ≠ q0 := fun a ha hka e => by
    obtain ⟨k', hk'⟩ := lvl_pos hN ha hka
    obtain ⟨g1, g2⟩ := hold hk'
    have := hD.1 _ _ _ _ g2 hlast e
    omega
  refine ⟨fun a ha => ?_, fun a b ha hb hka hkb hab => ?_, fun a j => ?_, fun a j q ha hq => ?_, ?_⟩
  · by_cases hat : a = t
    · subst hat
      rw [rowset_s]
      unfold cellOk
      rw [if_neg (Nat.not_le.mpr hk)]
      have e2 : (fun b => if b = a then q0 else ρ b) a = q0 := if_pos rfl
      rw [e2]
      refine ⟨hfr, ?_⟩
      rw [ent_ext (ρ := ρ) (fun j q hq => absurd hq (hc j q))]
      exact hP _ _ hlast
    · have hVa := hV a ha hat
      rw [rowset_n κ r hat]
      have h1 : cellOk X ρ a (κ a) U H1 := by
        by_cases ha30 : 30 ≤ (kd X a).1
        · exact (h.1 a hVa).old ha30 (old_kept hlo h hS hS1 hVa ha30).1 (old_kept hlo h hS hS1 hVa ha30).2
        · have ha30 := Nat.not_le.mp ha30
          obtain ⟨k', hk'⟩ := lvl_pos hN hVa ha30
          unfold cellOk
          rw [if_neg (Nat.not_le.mpr ha30)]
          exact ⟨(h.at hVa ha30).1, hP k' _ (hold hk').2⟩
      unfold cellOk at h1 ⊢
      rw [hρ a hVa]
      rw [ent_ext (ρ := ρ) (fun j q hq => hρ q (h.2.2.2.1 a j q hVa hq))]
      exact h1
  · by_cases hat : a = t
    · by_cases hbt : b = t
      · rw [hat, hbt]
      · exfalso
        have hVb := hV b hb hbt
        rw [hρ b hVb] at hab
        have e2 : (fun b => if b = t then q0 else ρ b) a = q0 := if_pos hat
        rw [e2] at hab
        exact hne b hVb hkb hab.symm
    · have hVa := hV a ha hat
      by_cases hbt : b = t
      · exfalso
        rw [hρ a hVa] at hab
        have e2 : (fun b => if b = t then q0 else ρ b) b = q0 := if_pos hbt
        rw [e2] at hab
        exact hne a hVa hka hab
      · have hVb := hV b hb hbt
        rw [hρ a hVa, hρ b hVb] at hab
        exact h.2.1 a b hVa hVb hka hkb hab
  · by_cases hat : a = t
    · subst hat
      rw [rowset_s]
      exact hr j
    · rw [rowset_n κ r hat]
      exact h.2.2.1 a j
  · by_cases hat : a = t
    · subst hat
      rw [rowset_s] at hq
      exact absurd hq (hc j q)
    · rw [rowset_n κ r hat] at hq
      have h1 := h.2.2.2.1 a j q (hV a ha hat) hq
      unfold vset
      split
      · rfl
      · exact h1
  · refine ⟨N + t + 1, fun a ha => ?_⟩
    by_cases hat : a = t
    · omega
    · have := hN a (hV a ha hat)
      omega
/-- words that stay but are not carried by the kit's lists -/
def nwL : List Cond := lw_tbl.filter (fun w => match w with
  | .methodLinkNest .. => true
  | .castable .. => true
  | .declares .. => true
  | _ => false)
def am (X : Cx) (U : State) (H : Heap) : Prop :=
  va_K X.2.1 vwCl (tysG X) U ∧ (∀ w ∈ nwL, va_Nw w U) ∧ (va_AO "java/lang/Object" U ∧ va_AO "WoodenMains$Row" U) ∧
  va_Z "WoodenMains" "LEAST_SETTINGS" "[I" (.ref (X.2.2.2.2.1 30)) (frA X) U H ∧ va_Z "WoodenMains" "MOST_SETTINGS" "[I" (.ref (X.2.2.2.2.1 31)) (frA X) U H ∧
  va_Z "java/util/ArrayList" "DEFAULTCAPACITY_EMPTY_ELEMENTDATA" "[Ljava/lang/Object;" (.ref (X.2.2.2.2.1 32)) (frA X) U H
theorem nwL_warm {w : Cond} (h : w ∈ nwL) {s U : State} (hW : s.WarmedH U.vm) (hZ : va_Nw w s) : va_Nw w U := by
  have h2 := (List.mem_filter.mp h).2
  cases w <;> first | exact hZ.warmM hW | exact hZ.warmC hW | exact hZ.warmD hW | cases h2
theorem am.moved {X : Cx} {u U : State} {H : Heap} (hW : u.WarmedH U.vm) (h : am X u H) : am X U H :=
  ⟨va_K.moved hW.alike h.1, fun w hw => nwL_warm hw hW (h.2.1 w hw), ⟨h.2.2.1.1.moved hW.alike, h.2.2.1.2.moved hW.alike⟩, h.2.2.2.1.moved hW.alike, h.2.2.2.2.1.moved hW.alike, h.2.2.2.2.2.moved hW.alike⟩
-- locals
def lvL (ρ : Nat → Nat) (ls : Array Slot) (n : Nat) (L : Lc) : Prop := ls.size = n ∧ lv_wf ls ∧ ∀ (i : Nat) (v : Av), L[i]? = some (some v) → ls[i]? = some (.val (cv ρ v))
def pr1 (ρ : Nat → Nat) (L : Lc) : List (Nat × Value) := (List.range L.length).filterMap (fun i => match L[i]? with
  | some (some v) => some (i, cv ρ v)
  | _ => none)
theorem pr1_mem {ρ : Nat → Nat} {L : Lc} {i : Nat} {w : Value} : (i, w) ∈ pr1 ρ L ↔ ∃ v, L[i]? = some (some v) ∧ w = cv ρ v := by
  unfold pr1
  rw [List.mem_filterMap]
  constructor
  · rintro ⟨j, hj, h⟩
    cases hL : L[j]? with
    | none => rw [hL] at h; cases h
    | some o =>
      cases o with
      | none => rw [hL] at h; cases h
      | some u =>
        rw [hL] at h
        cases h
        exact ⟨u, hL, rfl⟩
  · rintro ⟨v, h, rfl⟩
    refine ⟨i, List.mem_range.mpr (List.getElem?_eq_some_iff.mp h).1, ?_⟩
    rw [h]
theorem lvL.has {ρ : Nat → Nat} {ls : Array Slot} {n : Nat} {L : Lc} (h : lvL ρ ls n L) : lv_has ls n (pr1 ρ L) := ⟨h.1, h.2.1, fun q hq => by
  obtain ⟨v, h1, h2⟩ := pr1_mem.mp hq
  rw [h2]
  exact h.2.2 q.1 v h1⟩
theorem lvL.store {ρ : Nat → Nat} {ls : Array Slot} {n i : Nat} {L : Lc} {v : Av} (h : lv_has ls n ((i, cv ρ v) :: (pr1 ρ L).filter (fun q => !(q.1 == i) && !(q.1 + 1 == i && q.2.category == 2)))) : lvL ρ ls n (L.set i (some v)) := by
  refine ⟨h.1, h.2.1, fun j w hj => ?_⟩
  by_cases hij : j = i
  · subst hij
    have hl : j < L.length := by
      have := (List.getElem?_eq_some_iff.mp hj).1
      rwa [List.length_set] at this
    rw [List.getElem?_set_self hl] at hj
    cases hj
    exact h.2.2 (j, cv ρ v) List.mem_cons_self
  · rw [List.getElem?_set_ne (Ne.symm hij)] at hj
    refine h.2.2 (j, cv ρ w) (List.mem_cons_of_mem _ (List.mem_filter.mpr ⟨pr1_mem.mpr ⟨w, hj, rfl⟩, ?_⟩))
    simp [hij, cv_cat]
theorem okL.get {V : Vs} : ∀ {L : Lc} {i : Nat} {v : Av}, okL V L → L[i]? = some (some v) → okA V v
  | [], i, v, _, h => by simp at h
  | o :: L, 0, v, hk, h => hk.1 v (by simpa using h)
  | o :: L, i + 1, v, hk, h => okL.get hk.2 (by simpa using h)
theorem okL.set {V : Vs} : ∀ {L : Lc} {i : Nat} {v : Av}, okL V L → okA V v → okL V (L.set i (some v))
  | [], i, v, _, _ => trivial
  | o :: L, 0, v, hk, h => ⟨fun w hw => by cases hw; exact h, hk.2⟩
  | o :: L, i + 1, v, hk, h => ⟨hk.1, okL.set hk.2 h⟩
theorem okA.mono {V V' : Vs} (h : ∀ t, V t = true → V' t = true) {v : Av} (hk : okA V v) : okA V' v := by
  rcases v with x | (_ | t)
  · trivial
  · trivial
  · exact h t hk
theorem okS.mono {V V' : Vs} (h : ∀ t, V t = true → V' t = true) : ∀ {st : List Av}, okS V st → okS V' st
  | [], _ => trivial
  | _ :: _, hk => ⟨hk.1.mono h, okS.mono h hk.2⟩
theorem okL.mono {V V' : Vs} (h : ∀ t, V t = true → V' t = true) : ∀ {L : Lc}, okL V L → okL V' L
  | [], _ => trivial
  | _ :: _, hk => ⟨fun v hv => (hk.1 v hv).mono h, okL.mono h hk.2⟩
theorem cv_ext {V : Vs} {ρ ρ' : Nat → Nat} (h : ∀ t, V t = true → ρ' t = ρ t) {v : Av} (hk : okA V v) : cv ρ' v = cv ρ v := by
  rcases v with x | (_ | t)
  · rfl
  · rfl
  · show Value.ref (ρ' t) = Value.ref (ρ t)
    rw [h t hk]
theorem cvS_ext {V : Vs} {ρ ρ' : Nat → Nat} (h : ∀ t, V t = true → ρ' t = ρ t) : ∀ {st : List Av}, okS V st → st.map (cv ρ') = st.map (cv ρ)
  | [], _ => rfl
  | v :: st, hk => by rw [List.map_cons, List.map_cons, cv_ext h hk.1, cvS_ext h hk.2]
theorem lvL.ext {V : Vs} {ρ ρ' : Nat → Nat} (h : ∀ t, V t = true → ρ' t = ρ t) {ls : Array Slot} {n : Nat} {L : Lc} (hk : okL V L) (hl : lvL ρ ls n L) : lvL ρ' ls n L := ⟨hl.1, hl.2.1, fun i v hi => by rw [cv_ext h (hk.get hi)]; exact hl.2.2 i v hi⟩
-- methods, contracts
abbrev Mt : Type := MethodName × ByteArray × Nat × Option FieldType
abbrev Po : Type := Option Av → Vs → Ks → Prop
def cxC (X : Cx) (mt : Mt) (d : Nat) (p : Program) (R : Room) (s : State) (m : MethodId) (args : Array Value) (meth : Method) (c : Code) (mc ms : Nat) : Prop :=
  p.tables.exec = Jvm.exec ∧ c.code = mt.2.1 ∧ c.maxLocals = mt.2.2.1 ∧ s.vm.findClass mt.1.cls = some m.cls ∧ (∀ w ∈ tbG, w.before args s = true) ∧ meth.sig.returnType = mt.2.2.2 ∧ meth.locks = false ∧ meth.name = mt.1.name ∧ am X s s.heap ∧ (d ≤ R.frames ∧ 64 * d ≤ R.locals ∧ mc ≤ R.cells ∧ ms ≤ R.slots) ∧ X.2.2.2.1 ≤ s.heap.size
def hhS (X : Cx) (mt : Mt) (V0 : Vs) (ρ0 : Nat → Nat) (bc bs : Nat) (L : Lc) (st : List Av) (V : Vs) (κ : Ks) (s : State) (H : Heap) (locs : List Loc) (cells slots : Nat) (ls : Array Slot) (mc ms : Nat) (ρ : Nat → Nat) : Prop :=
  lvL ρ ls mt.2.2.1 L ∧ okL V L ∧ okS V st ∧ mm X ρ V κ s H ∧ va_S (frA X) s.heap H locs ∧ (cells + bc ≤ mc ∧ slots + bs ≤ ms) ∧ (∀ t, V0 t = true → V t = true ∧ ρ t = ρ0 t)
def qcG (X : Cx) (P : Po) (V0 : Vs) (ρ0 : Nat → Nat) : Array Value → State → Outcome → State → Prop := fun _ st oc t => (∃ (r : Option Av) (V' : Vs) (κ' : Ks) (ρ' : Nat → Nat), oc = .returned (r.map (cv ρ')) ∧ mm X ρ' V' κ' t t.heap ∧ P r V' κ' ∧ (∀ v, r = some v → okA V' v) ∧ ∀ t, V0 t = true → V' t = true ∧ ρ' t = ρ0 t) ∧ va_F (frA X) st t
def G (X : Cx) (mt : Mt) (d : Nat) (P : Po) (V0 : Vs) (bc bs pc : Nat) (L : Lc) (st : List Av) (V : Vs) (κ : Ks) : Prop :=
  ∀ (p : Program) (e : Env) (R : Room) (s : State) (m : MethodId) (args : Array Value) (below : List Frame) (meth : Method) (c : Code) (mc ms : Nat) (ρ0 : Nat → Nat), cxC X mt d p R s m args meth c mc ms →
  ∀ (H : Heap) (locs : List Loc) (cells slots : Nat) (ls : Array Slot) (ρ : Nat → Nat), hhS X mt V0 ρ0 bc bs L st V κ s H locs cells slots ls mc ms ρ →
  W p X.1 e R s m args below meth c H locs cells slots (MQ below (qcG X P V0 ρ0) args s mc ms (frA X)) (F0 m pc ls (st.map (cv ρ)))
def Ct (X : Cx) (mt : Mt) (d bc bs : Nat) (as : List Av) (V : Vs) (κ : Ks) (P : Po) : Prop := ∀ ρ : Nat → Nat,
  Met X.1 mt.1 (.code mt.1 mt.2.1 mt.2.2.1 mt.2.2.2 :: tbG) { frames := d, cells := bc, slots := bs, locals := 64 * d } (va_Pc (as.map (cv ρ)) (fun U => okS V as ∧ mm X ρ V κ U U.heap ∧ am X U U.heap ∧ X.2.2.2.1 ≤ U.heap.size)) (qcG X P V ρ) bc bs (frA X)
