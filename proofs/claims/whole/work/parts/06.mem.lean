/-! ROWS of G for the memory: fields, arrays, statics -/
def dr (x : Int) : Option Nat := if x = 0 then none else some x.toNat
theorem vr_0 {X : Cx} {t j : Nat} {r : Nat → Int} (h : X.2.2.2.2.2.2 t j = 0) : vr X t r j = .inl (r j) := by unfold vr; rw [h]
theorem vr_1 {X : Cx} {t j : Nat} {r : Nat → Int} (h : X.2.2.2.2.2.2 t j = 1) : vr X t r j = .inr (dr (r j)) := by unfold vr; rw [h]; rfl
theorem vr_c {X : Cx} {t j c : Nat} {r : Nat → Int} (h : X.2.2.2.2.2.2 t j = c + 2) : vr X t r j = .inr (some c) := by unfold vr; rw [h]
theorem vr_up {X : Cx} {t j k : Nat} {r : Nat → Int} {x : Int} (h : j ≠ k) : vr X t (up1 r k x) j = vr X t r j := by
  have e : up1 r k x j = r j := if_neg h
  unfold vr
  rw [e]
theorem up1_s {r : Nat → Int} {k : Nat} {x : Int} : up1 r k x k = x := if_pos rfl
theorem up1_R {r : Nat → Int} {k : Nat} {x : Int} (h : ∀ j, inR (r j)) (hx : inR x) (j : Nat) : inR (up1 r k x j) := by
  unfold up1
  split
  · exact hx
  · exact h j
theorem okA_vr {X : Cx} {ρ : Nat → Nat} {V : Vs} {κ : Ks} {U : State} {H : Heap} (h : mm X ρ V κ U H) {t j : Nat} (ht : V t = true) : okA V (vr X t (κ t) j) := by
  rcases hv : vr X t (κ t) j with x | (_ | q)
  · trivial
  · trivial
  · exact h.2.2.2.1 t j q ht hv
theorem ent_O {X : Cx} {ρ : Nat → Nat} {t ci N : Nat} {r : Nat → Int} (hk : kd X t = (ci, N)) (hci : ci < 20) : ent X ρ t r = .inr (ci, (List.range N).map (fun j => cv ρ (vr X t r j))) := by
  unfold ent entO
  rw [hk]
  rw [if_neg (by show ¬ ci = 20; omega), if_neg (by show ¬ ci = 21; omega), if_neg (by show ¬ ci = 22; omega), if_neg (by show ¬ ci = 23; omega)]
theorem ent_I {X : Cx} {ρ : Nat → Nat} {t N : Nat} {r : Nat → Int} (hk : kd X t = (20, N)) : ent X ρ t r = .inl (X.2.2.1 0, N, .inl (fun j => Int32.ofInt (r j))) := by
  unfold ent entI
  rw [hk]
  rfl
theorem ent_Z {X : Cx} {ρ : Nat → Nat} {t N : Nat} {r : Nat → Int} (hk : kd X t = (21, N)) : ent X ρ t r = .inl (X.2.2.1 1, N, .inl (fun j => Int32.ofInt (r j))) := by
  unfold ent entI
  rw [hk]
  rfl
theorem ent_A {X : Cx} {ρ : Nat → Nat} {t N : Nat} {r : Nat → Int} (hk : kd X t = (22, N)) : ent X ρ t r = .inl (X.2.2.1 2, N, .inr (.inr (.inr (.inr (fun j => rfo ρ (vr X t r j)))))) := by
  unfold ent entR
  rw [hk]
  rfl
theorem ent_W {X : Cx} {ρ : Nat → Nat} {t N : Nat} {r : Nat → Int} (hk : kd X t = (23, N)) : ent X ρ t r = .inl (X.2.2.1 3, N, .inr (.inr (.inr (.inr (fun j => rfo ρ (vr X t r j)))))) := by
  unfold ent entR
  rw [hk]
  rfl
theorem map_set {α : Type} {N k : Nat} {f g : Nat → α} {w : α} (h : ∀ j, j ≠ k → g j = f j) (hk : g k = w) : ((List.range N).map f).set k w = (List.range N).map g := by
  apply List.ext_getElem
  · simp
  · intro i h1 h2
    rw [List.getElem_set]
    split
    · rename_i e
      subst e
      simp [hk]
    · rename_i e
      simp [h i (Ne.symm e)]
theorem nar_int (x : Int32) : narrow .int (.int x) = .int x ∧ fits .int (.int x) = true := ⟨rfl, rfl⟩
theorem nar_z {v : Int} (hv : v = 0 ∨ v = 1) : narrow .boolean (.int (Int32.ofInt v)) = .int (Int32.ofInt v) ∧ fits .boolean (.int (Int32.ofInt v)) = true := by rcases hv with rfl | rfl <;> exact ⟨by decide, by decide⟩
theorem nar_o (C : String) (ρ : Nat → Nat) (v : Option Nat) : narrow (.object C) (cv ρ (.inr v)) = cv ρ (.inr v) ∧ fits (.object C) (cv ρ (.inr v)) = true := by rcases v with _ | t <;> exact ⟨rfl, rfl⟩
theorem nar_a (C : FieldType) (ρ : Nat → Nat) (v : Option Nat) : narrow (.array C) (cv ρ (.inr v)) = cv ρ (.inr v) ∧ fits (.array C) (cv ρ (.inr v)) = true := by rcases v with _ | t <;> exact ⟨rfl, rfl⟩
def FLd (own : String) (idx ci k N : Nat) : Prop := ∃ (C : String) (T : u_T) (ref : String), vwCl[ci]? = some (C, T, N) ∧ (∀ w ∈ u_ws C T N, w ∈ tbG) ∧ k < N ∧ ci < 20 ∧ Cond.fieldLink own idx ref (T k).2.1 (T k).2.2.1 ∈ tbG ∧ (ref = (T k).1 ∨ Cond.sameField ref (T k).1 (T k).2.1 (T k).2.2.1 ∈ tbG)
def FPt (own : String) (idx ci k N : Nat) (ty : FieldType) (fin : Bool) : Prop := ∃ (C : String) (T : u_T) (ref : String) (ty0 : Nat → FieldType), vwCl[ci]? = some (C, T, N) ∧ (∀ w ∈ u_ws C T N, w ∈ tbG) ∧ k < N ∧ ci < 20 ∧ Cond.fieldLink own idx ref (T k).2.1 (T k).2.2.1 ∈ tbG ∧ (ref = (T k).1 ∨ Cond.sameField ref (T k).1 (T k).2.1 (T k).2.2.1 ∈ tbG) ∧
  (∀ k, k < N → parseFieldDescriptor (T k).2.2.1 = some (ty0 k)) ∧ (∀ a, a < N → ∀ b, b < N → a ≠ b → (T a).2.1 ≠ (T b).2.1) ∧ parseFieldDescriptor (T k).2.2.1 = some ty ∧ (T k).2.2.2 = fin ∧ (fin = true → (T k).1 = own)
theorem sm_of {s : State} {args : Array Value} {ref owner name desc : String} (hts : ∀ w ∈ tbG, w.before args s = true) (h : ref = owner ∨ Cond.sameField ref owner name desc ∈ tbG) : ∀ x, s.fieldFound? owner name desc = some x → s.fieldFound? ref name desc = some x := fun x hx => by
  rcases h with rfl | h
  · exact hx
  · exact u_same (hts _ h) x hx
theorem clampI {i : Int} {N : Nat} (hi : 0 ≤ i ∧ i < N) (hN : N < 2147483648) : (Int32.ofInt i).toNatClampNeg = i.toNat := by
  show (Int32.ofInt i).toInt.toNat = i.toNat
  rw [inR_toInt ⟨by omega, by omega⟩]
theorem inI {i : Int} {N : Nat} (hi : 0 ≤ i ∧ i < N) (hN : N < 2147483648) : vp_in (Int32.ofInt i) N := vp_in_iff.mpr (by rw [inR_toInt ⟨by omega, by omega⟩]; exact hi)
theorem kd_lt {X : Cx} {t ci N : Nat} (hk : kd X t = (ci, N)) (h : ci < 30) : (kd X t).1 < 30 := by rw [hk]; exact h
theorem ofI_up (r : Nat → Int) (k : Nat) (x : Int) : upd (fun j => Int32.ofInt (r j)) k (Int32.ofInt x) = fun j => Int32.ofInt (up1 r k x j) := by
  funext j
  unfold up1
  by_cases h : j = k
  · simp [upd, h]
  · simp [upd, h]
section G6
variable {X : Cx} {mt : Mt} {d : Nat} {P : Po} {V0 : Vs} {bc bs pc : Nat} {L : Lc} {st : List Av} {V : Vs} {κ : Ks}
theorem g_getf (n' : Nat) {t ci N idx k : Nat} (hd : decode mt.2.1 pc = .ok (.getfield idx, 3)) (hf : FLd mt.1.cls idx ci k N) (hk : kd X t = (ci, N)) (hn : pc + 3 = n') (kk : inR (κ t k) → G X mt d P V0 bc bs n' L (vr X t (κ t) k :: st) V κ) : G X mt d P V0 bc bs pc L (Rf t :: st) V κ := fun p e R s m args below meth c mc ms ρ0 C H locs cells slots ls ρ hh => by
  obtain ⟨C', T, ref, hc, hin, hlt, hci, hw, hsm⟩ := hf
  have hM := hh.2.2.2.1
  obtain ⟨N0, hN⟩ := hM.2.2.2.2
  have hV : V t = true := hh.2.2.1.1
  obtain ⟨q0, hq0⟩ := lvl_pos hN hV (kd_lt hk (by omega))
  have he : (wsO X ρ κ (lvl X V N0))[q0]? = some (ρ t, .inr (ci, (List.range N).map fun j => cv ρ (vr X t (κ t) j))) := by rw [wsO_pos hq0, ent_O hk hci]
  refine va_get (D := X.2.1) (tys := tysG X) C.1 C.2.1 C.2.2.2.2.1 hin C.2.2.2.1 C.2.2.2.2.2.2.2.2.1.1 (hM.P N0) q0 he hc k hlt (C.2.2.2.2.1 _ hw) (sm_of C.2.2.2.2.1 hsm) (v := cv ρ (vr X t (κ t) k)) (by simp [hlt]) hd ?_
  rw [hn]
  exact kk (hM.2.2.1 t k) p e R s m args below meth c mc ms ρ0 C H locs cells slots ls ρ (hh.stk ⟨okA_vr hM hV, hh.2.2.1.2⟩)
theorem g_getI (n' : Nat) {t ci N idx k : Nat} (hd : decode mt.2.1 pc = .ok (.getfield idx, 3)) (hf : FLd mt.1.cls idx ci k N) (hk : kd X t = (ci, N)) (hl : X.2.2.2.2.2.2 t k = 0) (hn : pc + 3 = n') (kk : inR (κ t k) → G X mt d P V0 bc bs n' L (Iv (κ t k) :: st) V κ) : G X mt d P V0 bc bs pc L (Rf t :: st) V κ := g_getf n' hd hf hk hn (fun h => by rw [vr_0 hl]; exact kk h)
theorem g_getC (n' : Nat) {t ci N idx k c : Nat} (hd : decode mt.2.1 pc = .ok (.getfield idx, 3)) (hf : FLd mt.1.cls idx ci k N) (hk : kd X t = (ci, N)) (hl : X.2.2.2.2.2.2 t k = c + 2) (hn : pc + 3 = n') (kk : G X mt d P V0 bc bs n' L (Rf c :: st) V κ) : G X mt d P V0 bc bs pc L (Rf t :: st) V κ := g_getf n' hd hf hk hn (fun h => by rw [vr_c hl]; exact kk)
theorem g_getD (n' : Nat) {t ci N idx k : Nat} (hd : decode mt.2.1 pc = .ok (.getfield idx, 3)) (hf : FLd mt.1.cls idx ci k N) (hk : kd X t = (ci, N)) (hl : X.2.2.2.2.2.2 t k = 1) (hn : pc + 3 = n') (kk : inR (κ t k) → G X mt d P V0 bc bs n' L (.inr (dr (κ t k)) :: st) V κ) : G X mt d P V0 bc bs pc L (Rf t :: st) V κ := g_getf n' hd hf hk hn (fun h => by rw [vr_1 hl]; exact kk h)
theorem hhS.wr {ρ0 ρ : Nat → Nat} {st' : List Av} {κ' : Ks} {s : State} {H H1 : Heap} {locs locs1 : List Loc} {cells slots : Nat} {ls : Array Slot} {mc ms : Nat} (h : hhS X mt V0 ρ0 bc bs L st V κ s H locs cells slots ls mc ms ρ) (k : okS V st') (hM : mm X ρ V κ' s H1) (hS : va_S (frA X) s.heap H1 locs1) : hhS X mt V0 ρ0 bc bs L st' V κ' s H1 locs1 cells slots ls mc ms ρ := ⟨h.1, h.2.1, k, hM, hS, h.2.2.2.2.2⟩
theorem g_putf (n' : Nat) {t ci N idx k : Nat} {ty : FieldType} {fin : Bool} {v : Av} {x : Int} (hd : decode mt.2.1 pc = .ok (.putfield idx, 3)) (hf : FPt mt.1.cls idx ci k N ty fin) (hfin : fin = true → mt.1.name = "<init>") (hk : kd X t = (ci, N)) (hx : inR x) (hv : vr X t (up1 (κ t) k x) k = v) (hty : ∀ ρ : Nat → Nat, narrow ty (cv ρ v) = cv ρ v ∧ fits ty (cv ρ v) = true) (hn : pc + 3 = n') (kk : G X mt d P V0 bc bs n' L st V (st2 κ t k x)) : G X mt d P V0 bc bs pc L (v :: Rf t :: st) V κ := fun p e R s m args below meth c mc ms ρ0 C H locs cells slots ls ρ hh => by
  obtain ⟨C', T, ref, ty0, hc, hin, hlt, hci, hw, hsm, hty0, hnm, hpt, hfn, hdecl⟩ := hf
  have hM := hh.2.2.2.1
  obtain ⟨N0, hN⟩ := hM.2.2.2.2
  have hV : V t = true := hh.2.2.1.2.1
  have hVv : okA V v := hh.2.2.1.1
  obtain ⟨q0, hq0⟩ := lvl_pos hN hV (kd_lt hk (by omega))
  have he : (wsO X ρ κ (lvl X V N0))[q0]? = some (ρ t, .inr (ci, (List.range N).map fun j => cv ρ (vr X t (κ t) j))) := by rw [wsO_pos hq0, ent_O hk hci]
  have hset : ((List.range N).map fun j => cv ρ (vr X t (κ t) j)).set k (cv ρ v) = (List.range N).map fun j => cv ρ (vr X t (up1 (κ t) k x) j) := map_set (fun j hj => by rw [vr_up hj]) (by rw [hv])
  have kk' : ∀ (H1 : Heap) (locs1 : List Loc), va_P X.2.1 vwCl ((wsO X ρ κ (lvl X V N0)).set q0 (ρ t, .inr (ci, ((List.range N).map fun j => cv ρ (vr X t (κ t) j)).set k (cv ρ v)))) H1 → va_D (frA X) ((wsO X ρ κ (lvl X V N0)).set q0 (ρ t, .inr (ci, ((List.range N).map fun j => cv ρ (vr X t (κ t) j)).set k (cv ρ v)))) → va_S (frA X) s.heap H1 locs1 → W p X.1 e R s m args below meth c H1 locs1 cells slots (MQ below (qcG X P V0 ρ0) args s mc ms (frA X)) (F0 m (pc + 3) ls (st.map (cv ρ))) := fun H1 locs1 hP1 _ hS1 => by
    rw [hset, ← ent_O hk hci] at hP1
    rw [hn]
    refine kk p e R s m args below meth c mc ms ρ0 C H1 locs1 cells slots ls ρ (hh.wr hh.2.2.1.2.2 (hM.write C.2.2.2.2.2.2.2.2.2.2 hN hq0 hh.2.2.2.2.1 hS1 hP1 (up1_R (hM.2.2.1 t) hx) (fun j q hq => ?_)) hS1)
    by_cases hj : j = k
    · subst hj
      rw [hv] at hq
      subst hq
      exact hVv
    · rw [vr_up hj] at hq
      exact hM.2.2.2.1 t j q hV hq
  cases fin with
  | false => exact va_put (D := X.2.1) (tys := tysG X) C.1 C.2.1 C.2.2.2.2.1 hin ty0 hty0 hnm C.2.2.2.1 C.2.2.2.2.2.2.2.2.1.1 (hM.P N0) (hM.D N0) hh.2.2.2.2.1 q0 he hc k hlt (C.2.2.2.2.1 _ hw) (sm_of C.2.2.2.2.1 hsm) hfn hpt (hty ρ).1 (hty ρ).2 (by simp [hlt]) hd kk'
  | true => exact va_putF (D := X.2.1) (tys := tysG X) C.1 C.2.1 C.2.2.2.2.1 hin ty0 hty0 hnm C.2.2.2.1 C.2.2.2.2.2.2.2.2.1.1 (hM.P N0) (hM.D N0) hh.2.2.2.2.1 q0 he hc k hlt (C.2.2.2.2.1 _ hw) (sm_of C.2.2.2.2.1 hsm) hfn (C.2.2.2.2.2.2.2.1.trans (hfin rfl)) (hdecl rfl) hpt (hty ρ).1 (hty ρ).2 (by simp [hlt]) hd kk'
theorem g_putI (n' : Nat) {t ci N idx k : Nat} {fin : Bool} {x : Int} (hd : decode mt.2.1 pc = .ok (.putfield idx, 3)) (hf : FPt mt.1.cls idx ci k N .int fin) (hfin : fin = true → mt.1.name = "<init>") (hk : kd X t = (ci, N)) (hl : X.2.2.2.2.2.2 t k = 0) (hx : inR x) (hn : pc + 3 = n') (kk : G X mt d P V0 bc bs n' L st V (st2 κ t k x)) : G X mt d P V0 bc bs pc L (Iv x :: Rf t :: st) V κ := g_putf n' hd hf hfin hk hx ((vr_0 hl).trans (by rw [up1_s])) (fun ρ => nar_int _) hn kk
theorem g_putZ (n' : Nat) {t ci N idx k : Nat} {fin : Bool} {x : Int} (hd : decode mt.2.1 pc = .ok (.putfield idx, 3)) (hf : FPt mt.1.cls idx ci k N .boolean fin) (hfin : fin = true → mt.1.name = "<init>") (hk : kd X t = (ci, N)) (hl : X.2.2.2.2.2.2 t k = 0) (hx : x = 0 ∨ x = 1) (hn : pc + 3 = n') (kk : G X mt d P V0 bc bs n' L st V (st2 κ t k x)) : G X mt d P V0 bc bs pc L (Iv x :: Rf t :: st) V κ := g_putf n' hd hf hfin hk (by unfold inR; omega) ((vr_0 hl).trans (by rw [up1_s])) (fun ρ => nar_z hx) hn kk
def cd (v : Option Nat) : Int := match v with
  | none => 0
  | some q => (q : Int)
theorem dr_cd {v : Option Nat} (h : v ≠ some 0) : dr (cd v) = v := by
  rcases v with _ | q
  · rfl
  · show dr (q : Int) = some q
    unfold dr
    rw [if_neg (fun e => h (by have : q = 0 := by omega
                               rw [this]))]
    rfl
theorem cd_R {v : Option Nat} (h : ∀ q, v = some q → q < 2147483648) : inR (cd v) := by
  rcases v with _ | q
  · exact inR_0
  · have := h q rfl
    show inR (q : Int)
    unfold inR
    omega
theorem g_putR (n' : Nat) {t ci N idx k : Nat} {fin : Bool} {ty : FieldType} {v : Option Nat} (hd : decode mt.2.1 pc = .ok (.putfield idx, 3)) (hf : FPt mt.1.cls idx ci k N ty fin) (hty : (∃ C, ty = .object C) ∨ ∃ e, ty = .array e) (hfin : fin = true → mt.1.name = "<init>") (hk : kd X t = (ci, N)) (hl : X.2.2.2.2.2.2 t k = 1) (hv : ∀ q, v = some q → 0 < q ∧ q < 2147483648) (hn : pc + 3 = n') (kk : G X mt d P V0 bc bs n' L st V (st2 κ t k (cd v))) : G X mt d P V0 bc bs pc L (.inr v :: Rf t :: st) V κ := g_putf n' hd hf hfin hk (cd_R (fun q hq => (hv q hq).2)) ((vr_1 hl).trans (by rw [up1_s, dr_cd (fun e => absurd (hv 0 e).1 (Nat.lt_irrefl 0))])) (fun ρ => by rcases hty with ⟨C, rfl⟩ | ⟨e, rfl⟩; exact nar_o C ρ v; exact nar_a e ρ v) hn kk
-- arrays
theorem g_iald (n' : Nat) {t N : Nat} {i : Int} (hd : decode mt.2.1 pc = .ok (.iaload, 1)) (hk : kd X t = (20, N)) (hN : N < 2147483648) (hi : 0 ≤ i ∧ i < N) (hn : pc + 1 = n') (kk : inR (κ t i.toNat) → G X mt d P V0 bc bs n' L (Iv (κ t i.toNat) :: st) V κ) : G X mt d P V0 bc bs pc L (Iv i :: Rf t :: st) V κ := fun p e R s m args below meth c mc ms ρ0 C H locs cells slots ls ρ hh => by
  have hM := hh.2.2.2.1
  obtain ⟨N0, hN0⟩ := hM.2.2.2.2
  have hV : V t = true := hh.2.2.1.2.1
  obtain ⟨q0, hq0⟩ := lvl_pos hN0 hV (kd_lt hk (by omega))
  have he := wsO_pos (X := X) (ρ := ρ) (κ := κ) hq0
  rw [ent_I hk] at he
  refine va_iald (D := X.2.1) (tys := tysG X) C.1 C.2.1 C.2.2.2.2.2.2.2.2.1.1 (hM.P N0) q0 0 he rfl (inI hi hN) hd ?_
  rw [hn, clampI hi hN]
  exact kk (hM.2.2.1 t _) p e R s m args below meth c mc ms ρ0 C H locs cells slots ls ρ (hh.stk ⟨trivial, hh.2.2.1.2.2⟩)
theorem g_zald (n' : Nat) {t N : Nat} {i : Int} (hd : decode mt.2.1 pc = .ok (.baload, 1)) (hk : kd X t = (21, N)) (hN : N < 2147483648) (hi : 0 ≤ i ∧ i < N) (hn : pc + 1 = n') (kk : inR (κ t i.toNat) → G X mt d P V0 bc bs n' L (Iv (κ t i.toNat) :: st) V κ) : G X mt d P V0 bc bs pc L (Iv i :: Rf t :: st) V κ := fun p e R s m args below meth c mc ms ρ0 C H locs cells slots ls ρ hh => by
  have hM := hh.2.2.2.1
  obtain ⟨N0, hN0⟩ := hM.2.2.2.2
  have hV : V t = true := hh.2.2.1.2.1
  obtain ⟨q0, hq0⟩ := lvl_pos hN0 hV (kd_lt hk (by omega))
  have he := wsO_pos (X := X) (ρ := ρ) (κ := κ) hq0
  rw [ent_Z hk] at he
  refine va_zald (D := X.2.1) (tys := tysG X) C.1 C.2.1 C.2.2.2.2.2.2.2.2.1.1 (hM.P N0) q0 1 he rfl (inI hi hN) hd ?_
  rw [hn, clampI hi hN]
  exact kk (hM.2.2.1 t _) p e R s m args below meth c mc ms ρ0 C H locs cells slots ls ρ (hh.stk ⟨trivial, hh.2.2.1.2.2⟩)
theorem wr_cl {ρ : Nat → Nat} {U : State} {H : Heap} (hM : mm X ρ V κ U H) {t k : Nat} {x : Int} (hV : V t = true) (hx : ∀ q, vr X t (up1 (κ t) k x) k = .inr (some q) → V q = true) : ∀ j q, vr X t (up1 (κ t) k x) j = .inr (some q) → V q = true := fun j q hq => by
  by_cases hj : j = k
  · subst hj
    exact hx q hq
  · rw [vr_up hj] at hq
    exact hM.2.2.2.1 t j q hV hq
theorem g_iast (n' : Nat) {t N : Nat} {i x : Int} (hd : decode mt.2.1 pc = .ok (.iastore, 1)) (hk : kd X t = (20, N)) (hN : N < 2147483648) (hl : ∀ j, X.2.2.2.2.2.2 t j = 0) (hi : 0 ≤ i ∧ i < N) (hx : inR x) (hn : pc + 1 = n') (kk : G X mt d P V0 bc bs n' L st V (st2 κ t i.toNat x)) : G X mt d P V0 bc bs pc L (Iv x :: Iv i :: Rf t :: st) V κ := fun p e R s m args below meth c mc ms ρ0 C H locs cells slots ls ρ hh => by
  have hM := hh.2.2.2.1
  obtain ⟨N0, hN0⟩ := hM.2.2.2.2
  have hV : V t = true := hh.2.2.1.2.2.1
  obtain ⟨q0, hq0⟩ := lvl_pos hN0 hV (kd_lt hk (by omega))
  have he := wsO_pos (X := X) (ρ := ρ) (κ := κ) hq0
  rw [ent_I hk] at he
  refine va_iast (D := X.2.1) (tys := tysG X) C.1 C.2.1 C.2.2.2.2.2.2.2.2.1.1 (hM.P N0) (hM.D N0) hh.2.2.2.2.1 q0 0 he rfl (inI hi hN) hd (fun H1 locs1 hP1 _ hS1 => ?_)
  rw [clampI hi hN, ofI_up, ← ent_I hk] at hP1
  rw [hn]
  exact kk p e R s m args below meth c mc ms ρ0 C H1 locs1 cells slots ls ρ (hh.wr hh.2.2.1.2.2.2 (hM.write C.2.2.2.2.2.2.2.2.2.2 hN0 hq0 hh.2.2.2.2.1 hS1 hP1 (up1_R (hM.2.2.1 t) hx) (wr_cl hM hV (fun q hq => by rw [vr_0 (hl _)] at hq; cases hq))) hS1)
theorem nar_zI {x : Int} (hx : x = 0 ∨ x = 1) : vp_nar .boolean (Int32.ofInt x) = Int32.ofInt x := by rcases hx with rfl | rfl <;> decide
theorem g_zast (n' : Nat) {t N : Nat} {i x : Int} (hd : decode mt.2.1 pc = .ok (.bastore, 1)) (hk : kd X t = (21, N)) (hN : N < 2147483648) (hl : ∀ j, X.2.2.2.2.2.2 t j = 0) (hi : 0 ≤ i ∧ i < N) (hx : x = 0 ∨ x = 1) (hn : pc + 1 = n') (kk : G X mt d P V0 bc bs n' L st V (st2 κ t i.toNat x)) : G X mt d P V0 bc bs pc L (Iv x :: Iv i :: Rf t :: st) V κ := fun p e R s m args below meth c mc ms ρ0 C H locs cells slots ls ρ hh => by
  have hM := hh.2.2.2.1
  obtain ⟨N0, hN0⟩ := hM.2.2.2.2
  have hV : V t = true := hh.2.2.1.2.2.1
  obtain ⟨q0, hq0⟩ := lvl_pos hN0 hV (kd_lt hk (by omega))
  have he := wsO_pos (X := X) (ρ := ρ) (κ := κ) hq0
  rw [ent_Z hk] at he
  refine va_zast (D := X.2.1) (tys := tysG X) C.1 C.2.1 C.2.2.2.2.2.2.2.2.1.1 (hM.P N0) (hM.D N0) hh.2.2.2.2.1 q0 1 he rfl (inI hi hN) hd (fun H1 locs1 hP1 _ hS1 => ?_)
  rw [clampI hi hN, nar_zI hx, ofI_up, ← ent_Z hk] at hP1
  rw [hn]
  exact kk p e R s m args below meth c mc ms ρ0 C H1 locs1 cells slots ls ρ (hh.wr hh.2.2.1.2.2.2 (hM.write C.2.2.2.2.2.2.2.2.2.2 hN0 hq0 hh.2.2.2.2.1 hS1 hP1 (up1_R (hM.2.2.1 t) (by unfold inR; omega)) (wr_cl hM hV (fun q hq => by rw [vr_0 (hl _)] at hq; cases hq))) hS1)
theorem g_alen (n' : Nat) {t k N : Nat} (hd : decode mt.2.1 pc = .ok (.arraylength, 1)) (hk : kd X t = (k, N)) (hk2 : k = 20 ∨ k = 22) (hn : pc + 1 = n') (kk : G X mt d P V0 bc bs n' L (Iv (N : Int) :: st) V κ) : G X mt d P V0 bc bs pc L (Rf t :: st) V κ := fun p e R s m args below meth c mc ms ρ0 C H locs cells slots ls ρ hh => by
  have hM := hh.2.2.2.1
  obtain ⟨N0, hN0⟩ := hM.2.2.2.2
  have hV : V t = true := hh.2.2.1.1
  obtain ⟨q0, hq0⟩ := lvl_pos hN0 hV (kd_lt hk (by omega))
  have he := wsO_pos (X := X) (ρ := ρ) (κ := κ) hq0
  have h3 := kk p e R s m args below meth c mc ms ρ0 C H locs cells slots ls ρ (hh.stk ⟨trivial, hh.2.2.1.2⟩)
  rw [← hn] at h3
  rcases hk2 with rfl | rfl
  · rw [ent_I hk] at he
    exact va_alen (D := X.2.1) (tys := tysG X) C.1 C.2.1 C.2.2.2.2.2.2.2.2.1.1 (hM.P N0) q0 0 he (ty := .int) rfl (Int32.ofInt_eq_ofNat).symm hd h3
  · rw [ent_A hk] at he
    exact va_alen (D := X.2.1) (tys := tysG X) C.1 C.2.1 C.2.2.2.2.2.2.2.2.1.1 (hM.P N0) q0 2 he (ty := .object "java/lang/Object") rfl (Int32.ofInt_eq_ofNat).symm hd h3
theorem cv_rfo (ρ : Nat → Nat) (v : Av) (h : ∀ x, v ≠ .inl x) : va_rf (rfo ρ v) = cv ρ v := by
  rcases v with x | (_ | t)
  · exact absurd rfl (h x)
  · rfl
  · rfl
theorem g_aald (n' : Nat) {t k N : Nat} {i : Int} (hd : decode mt.2.1 pc = .ok (.aaload, 1)) (hk : kd X t = (k, N)) (hk2 : k = 22 ∨ k = 23) (hN : N < 2147483648) (hi : 0 ≤ i ∧ i < N) (hl : X.2.2.2.2.2.2 t i.toNat ≠ 0) (hn : pc + 1 = n') (kk : inR (κ t i.toNat) → G X mt d P V0 bc bs n' L (vr X t (κ t) i.toNat :: st) V κ) : G X mt d P V0 bc bs pc L (Iv i :: Rf t :: st) V κ := fun p e R s m args below meth c mc ms ρ0 C H locs cells slots ls ρ hh => by
  have hM := hh.2.2.2.1
  obtain ⟨N0, hN0⟩ := hM.2.2.2.2
  have hV : V t = true := hh.2.2.1.2.1
  obtain ⟨q0, hq0⟩ := lvl_pos hN0 hV (kd_lt hk (by omega))
  have he := wsO_pos (X := X) (ρ := ρ) (κ := κ) hq0
  have h3 := kk (hM.2.2.1 t _) p e R s m args below meth c mc ms ρ0 C H locs cells slots ls ρ (hh.stk ⟨okA_vr hM hV, hh.2.2.1.2.2⟩)
  rw [← hn] at h3
  have e1 : va_rf (rfo ρ (vr X t (κ t) i.toNat)) = cv ρ (vr X t (κ t) i.toNat) := cv_rfo ρ _ (fun x hx => by
    unfold vr at hx
    split at hx
    · rename_i h0
      exact hl h0
    · cases hx
    · cases hx)
  rcases hk2 with rfl | rfl
  · rw [ent_A hk] at he
    refine va_aldq (D := X.2.1) (tys := tysG X) C.1 C.2.1 C.2.2.2.2.2.2.2.2.1.1 (hM.P N0) q0 2 he (C := "java/lang/Object") rfl (inI hi hN) hd ?_
    rw [clampI hi hN, e1]
    exact h3
  · rw [ent_W hk] at he
    refine va_aldq (D := X.2.1) (tys := tysG X) C.1 C.2.1 C.2.2.2.2.2.2.2.2.1.1 (hM.P N0) q0 3 he (C := "WoodenMains$Row") rfl (inI hi hN) hd ?_
    rw [clampI hi hN, e1]
    exact h3
-- old arrays of ints
theorem oldI {ρ : Nat → Nat} {U : State} {H : Heap} (hM : mm X ρ V κ U H) {t N : Nat} (hV : V t = true) (hk : kd X t = (30, N)) : wkI U H (ρ t) N (fun j => Int32.ofInt (κ t j)) := by
  have h := (hM.old hV (by rw [hk]; exact Nat.le_refl 30)).2.2.2
  unfold oldOk at h
  rw [hk] at h
  exact h
theorem g_iald30 (n' : Nat) {t N : Nat} {i : Int} (hd : decode mt.2.1 pc = .ok (.iaload, 1)) (hk : kd X t = (30, N)) (hN : N < 2147483648) (hi : 0 ≤ i ∧ i < N) (hn : pc + 1 = n') (kk : inR (κ t i.toNat) → G X mt d P V0 bc bs n' L (Iv (κ t i.toNat) :: st) V κ) : G X mt d P V0 bc bs pc L (Iv i :: Rf t :: st) V κ := fun p e R s m args below meth c mc ms ρ0 C H locs cells slots ls ρ hh => by
  have hM := hh.2.2.2.1
  have hV : V t = true := hh.2.2.1.2.1
  obtain ⟨cell, h1, h2, h3, h4, h5⟩ := oldI hM hV hk
  refine W.iald C.1 C.2.1 h1 h2 h3 (by rw [h4]; exact inI hi hN) (by rw [clampI hi hN]; exact h5 i.toNat (by omega)) rfl rfl hd ?_
  show W p X.1 e R s m args below meth c H locs cells slots _ (F0 m (pc + 1) ls _)
  rw [hn]
  exact kk (hM.2.2.1 t _) p e R s m args below meth c mc ms ρ0 C H locs cells slots ls ρ (hh.stk ⟨trivial, hh.2.2.1.2.2⟩)
theorem g_alen30 (n' : Nat) {t N : Nat} (hd : decode mt.2.1 pc = .ok (.arraylength, 1)) (hk : kd X t = (30, N)) (hn : pc + 1 = n') (kk : G X mt d P V0 bc bs n' L (Iv (N : Int) :: st) V κ) : G X mt d P V0 bc bs pc L (Rf t :: st) V κ := fun p e R s m args below meth c mc ms ρ0 C H locs cells slots ls ρ hh => by
  have hM := hh.2.2.2.1
  have hV : V t = true := hh.2.2.1.1
  obtain ⟨cell, h1, h2, h3, h4, h5⟩ := oldI hM hV hk
  refine W.alen (n := Int32.ofInt (N : Int)) C.1 C.2.1 h1 h2 (by rw [h4]; exact Int32.ofInt_eq_ofNat.symm) rfl rfl hd ?_
  show W p X.1 e R s m args below meth c H locs cells slots _ (F0 m (pc + 1) ls _)
  rw [hn]
  exact kk p e R s m args below meth c mc ms ρ0 C H locs cells slots ls ρ (hh.stk ⟨trivial, hh.2.2.1.2⟩)
theorem g_alen31 (n' : Nat) {t N : Nat} (hd : decode mt.2.1 pc = .ok (.arraylength, 1)) (hk : kd X t = (31, N)) (hn : pc + 1 = n') (kk : G X mt d P V0 bc bs n' L (Iv 0 :: st) V κ) : G X mt d P V0 bc bs pc L (Rf t :: st) V κ := fun p e R s m args below meth c mc ms ρ0 C H locs cells slots ls ρ hh => by
  have hM := hh.2.2.2.1
  have hV : V t = true := hh.2.2.1.1
  have h := (hM.old hV (by rw [hk]; exact Nat.le_succ 30)).2.2.2
  unfold oldOk at h
  rw [hk] at h
  obtain ⟨cell, h1, h2, h3, h4⟩ := (show wkO s H (ρ t) from h)
  refine W.alen (n := Int32.ofInt 0) C.1 C.2.1 h1 h2 (by rw [h4]; rfl) rfl rfl hd ?_
  show W p X.1 e R s m args below meth c H locs cells slots _ (F0 m (pc + 1) ls _)
  rw [hn]
  exact kk p e R s m args below meth c mc ms ρ0 C H locs cells slots ls ρ (hh.stk ⟨trivial, hh.2.2.1.2⟩)
-- statics
theorem g_gets (n' : Nat) {t idx : Nat} {C0 n0 d0 ref : String} (hd : decode mt.2.1 pc = .ok (.getstatic idx, 3)) (hz : ∀ (s : State), am X s s.heap → va_Z C0 n0 d0 (.ref (X.2.2.2.2.1 t)) (frA X) s s.heap) (hr : ref = C0) (hw : Cond.fieldLink mt.1.cls idx ref n0 d0 ∈ tbG) (hV : V t = true) (hk : 30 ≤ (kd X t).1) (hn : pc + 3 = n') (kk : G X mt d P V0 bc bs n' L (Rf t :: st) V κ) : G X mt d P V0 bc bs pc L st V κ := fun p e R s m args below meth c mc ms ρ0 C H locs cells slots ls ρ hh => by
  subst hr
  have hM := hh.2.2.2.1
  refine va_gets C.1 C.2.1 (hz s C.2.2.2.2.2.2.2.2.1) hh.2.2.2.2.1 C.2.2.2.1 (C.2.2.2.2.1 _ hw) (fun _ h => h) hd ?_
  rw [hn, ← (hM.old hV hk).1]
  exact kk p e R s m args below meth c mc ms ρ0 C H locs cells slots ls ρ (hh.stk ⟨hV, hh.2.2.1⟩)
end G6
