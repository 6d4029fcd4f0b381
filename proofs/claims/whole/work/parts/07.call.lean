/-! ROWS of G: calls, new cells, natives, casts -/
theorem am.same {X : Cx} {U : State} {g : JFrame} {mk : MethodId} {a : Array Value} (h : am X U U.heap) : am X (U.calling g mk a) (U.calling g mk a).heap := am.moved (u := U) (U := U.calling g mk a) (State.WarmedH.refl U) h
theorem am.kept {X : Cx} {U : State} {H H1 : Heap} {locs : List Loc} (h : am X U H) (hS : va_S (frA X) H H1 locs) : am X U H1 := ⟨h.1, h.2.1, h.2.2.1, h.2.2.2.1.kept hS.2.1, h.2.2.2.2.1.kept hS.2.1, h.2.2.2.2.2.kept hS.2.1⟩
theorem blindG {X : Cx} {ρ : Nat → Nat} {V : Vs} {κ : Ks} {as : List Av} : FrameBlind (va_Pc (as.map (cv ρ)) (fun U => okS V as ∧ mm X ρ V κ U U.heap ∧ am X U U.heap ∧ X.2.2.2.1 ≤ U.heap.size)) := fun a U g mk h => ⟨h.1, h.2.1, mm.moved (u := U) (U := U.calling g mk a) (Vm.Alike.refl U.vm) h.2.2.1, am.same h.2.2.2.1, h.2.2.2.2⟩
def MWd (n : Nat) (mt' : Mt) : Prop := Cond.code mt'.1 mt'.2.1 mt'.2.2.1 mt'.2.2.2 ∈ tbG ∧ Cond.initialized mt'.1.cls ∈ tbG ∧ (mt'.1.cls ≠ "java/lang/invoke/MethodHandle" ∧ mt'.1.cls ≠ "java/lang/invoke/VarHandle" ∧ (parseMethodDescriptor mt'.1.desc).map (fun d => d.parameters.length) = some n) ∧ mt'.2.2.1 ≤ 40
theorem goodG {mt' : Mt} (h : Cond.code mt'.1 mt'.2.1 mt'.2.2.1 mt'.2.2.2 ∈ tbG) : GoodIn tbG (.code mt'.1 mt'.2.1 mt'.2.2.1 mt'.2.2.2 :: tbG) := fun w hw => by
  rcases List.mem_cons.mp hw with rfl | hw
  · exact ⟨h, good_of_word (tbG_good h)⟩
  · exact ⟨hw, good_of_word (tbG_good hw)⟩
theorem cat_sum (ρ : Nat → Nat) : ∀ (st : List Av), ((st.map (cv ρ)).map fun v => v.category).sum = st.length
  | [] => rfl
  | v :: st => by
    rw [List.map_cons, List.map_cons, List.sum_cons, cat_sum ρ st, cv_cat, List.length_cons]
    omega
section G7
variable {X : Cx} {mt : Mt} {d : Nat} {P : Po} {V0 : Vs} {bc bs pc : Nat} {L : Lc} {st : List Av} {V : Vs} {κ : Ks}
theorem after {n' bc' bs' bc2 bs2 : Nat} {rest : List Av} {P' : Po} {p : Program} {e : Env} {R : Room} {s : State} {m : MethodId} {args : Array Value} {below : List Frame} {meth : Method} {c : Code} {mc ms : Nat} {ρ0 : Nat → Nat} {H : Heap} {locs : List Loc} {cells slots : Nat} {ls : Array Slot} {ρ : Nat → Nat} {st0 : List Value} {a : Array Value} (C : cxC X mt d p R s m args meth c mc ms) (hh : hhS X mt V0 ρ0 (bc' + bc2) (bs' + bs2) L st V κ s H locs cells slots ls mc ms ρ) (hok : okS V rest)
    (hr : va_Run p X.1 e R s m args below meth c H locs cells slots bc' bs' (F0 m pc ls st0) (rest.map (cv ρ)) (qcG X P' V ρ a) (frA X)) (hn : pc + 3 = n') (kk : ∀ r V' κ', P' r V' κ' → G X mt d P V0 bc2 bs2 n' L (r.toList ++ rest) V' κ') : W p X.1 e R s m args below meth c H locs cells slots (MQ below (qcG X P V0 ρ0) args s mc ms (frA X)) (F0 m pc ls st0) := by
  intro T hT S
  obtain ⟨v, st₀, t, T', L', h0, S', hL, e1, e2, ⟨⟨r, V', κ', ρ', hv, hm, hp, hrok, hext⟩, hz, hk⟩, stp⟩ := hr T hT S
  have hv' : v = r.map (cv ρ') := by
    injection hv
  subst hv'
  rw [h0] at hz hk
  have hS := hh.2.2.2.2.1
  have hVV : ∀ t, V t = true → V' t = true := fun t ht => (hext t ht).1
  have hρρ : ∀ t, V t = true → ρ' t = ρ t := fun t ht => (hext t ht).2
  have hM' : mm X ρ' V' κ' s T'.heap := by
    rw [e1]
    exact hm.moved (by rw [← e2]; exact S'.warmed.alike.symm)
  have hS' : va_S (frA X) s.heap T'.heap (locs ++ L') := ⟨Nat.le_trans hS.1 (by rw [e1]; exact hz), fun q h1 h2 => by rw [e1, hk q (Nat.lt_of_lt_of_le h1 hS.1) h2]; exact hS.2.1 q h1 h2, fun q hq => by
    rcases List.mem_append.mp hq with h | h
    · exact hS.2.2 q h
    · exact hL q h⟩
  have hst : okS V' (r.toList ++ rest) := by
    cases r with
    | none => exact hok.mono hVV
    | some w => exact ⟨hrok w rfl, hok.mono hVV⟩
  have hfin := kk r V' κ' hp p e R s m args below meth c mc ms ρ0 C T'.heap (locs ++ L') (cells + bc') (slots + bs') ls ρ' ⟨lvL.ext hρρ hh.2.1 hh.1, hh.2.1.mono hVV, hst, hM', hS', ⟨by have := hh.2.2.2.2.2.1.1; omega, by have := hh.2.2.2.2.2.1.2; omega⟩, fun t ht => ⟨hVV t (hh.2.2.2.2.2.2 t ht).1, (hρρ t (hh.2.2.2.2.2.2 t ht).1).trans (hh.2.2.2.2.2.2 t ht).2⟩⟩ T' rfl S'
  obtain ⟨t2, a1, b1⟩ := hfin
  refine ⟨t2, stp t2 ?_, b1⟩
  have es : (r.toList ++ rest).map (cv ρ') = (r.map (cv ρ')).toList ++ rest.map (cv ρ) := by
    rw [List.map_append, cvS_ext hρρ hok]
    cases r <;> rfl
  rw [es, ← hn] at a1
  exact a1
theorem okS_app {V : Vs} : ∀ {a b : List Av}, okS V (a ++ b) → okS V a ∧ okS V b
  | [], _, h => ⟨trivial, h⟩
  | _ :: _, _, h => ⟨⟨h.1, (okS_app h.2).1⟩, (okS_app h.2).2⟩
theorem okS_mk {V : Vs} : ∀ {a b : List Av}, okS V a → okS V b → okS V (a ++ b)
  | [], _, _, h => h
  | _ :: _, _, h, h2 => ⟨h.1, okS_mk h.2 h2⟩
theorem okS_rev {V : Vs} : ∀ {a : List Av}, okS V a.reverse → okS V a
  | [], _ => trivial
  | v :: a, h => by
    rw [List.reverse_cons] at h
    exact ⟨(okS_app h).2.1, okS_rev (okS_app h).1⟩
def CVd (own : String) (idx ci : Nat) (mt' : Mt) : Prop := Cond.methodLink own idx mt'.1 ∈ tbG ∧ Cond.instanceMethod mt'.1 ∈ tbG ∧ Cond.selects mt'.1.cls mt'.1 mt'.1 ∈ tbG ∧ ci < 20 ∧ ∃ (T : u_T) (N : Nat), vwCl[ci]? = some (mt'.1.cls, T, N)
theorem room_ok {d' : Nat} {mt' : Mt} {n : Nat} {p : Program} {R : Room} {s : State} {m : MethodId} {args : Array Value} {meth : Method} {c : Code} {mc ms : Nat} (C : cxC X mt d p R s m args meth c mc ms) (hm : MWd n mt') (hdd : d' + 1 ≤ d) : d' + 1 ≤ R.frames ∧ 8 + (mt'.2.2.1 + 11) + 64 * d' ≤ R.locals := by
  have h1 := C.2.2.2.2.2.2.2.2.2.1.1
  have h2 := C.2.2.2.2.2.2.2.2.2.1.2.1
  have h3 := hm.2.2.2
  exact ⟨by omega, by omega⟩
theorem fits_ok {bc' bc2 bs' bs2 : Nat} {p : Program} {R : Room} {s : State} {m : MethodId} {args : Array Value} {meth : Method} {c : Code} {mc ms : Nat} {ρ0 ρ : Nat → Nat} {H : Heap} {locs : List Loc} {cells slots : Nat} {ls : Array Slot} (C : cxC X mt d p R s m args meth c mc ms) (hh : hhS X mt V0 ρ0 (bc' + bc2) (bs' + bs2) L st V κ s H locs cells slots ls mc ms ρ) : cells + bc' ≤ R.cells ∧ slots + bs' ≤ R.slots := by
  have h1 := C.2.2.2.2.2.2.2.2.2.1.2.2
  have h2 := hh.2.2.2.2.2.1
  exact ⟨by omega, by omega⟩
theorem g_callV (n' : Nat) (bc2 bs2 : Nat) {mt' : Mt} {d' bc' bs' idx ci N b : Nat} (as rest : List Av) {P' : Po} (hd : decode mt.2.1 pc = .ok (.invokevirtual idx, 3)) (hw : CVd mt.1.cls idx ci mt') (hm : MWd as.length mt') (hk : kd X b = (ci, N)) (hdd : d' + 1 ≤ d) (hst : st = as.reverse ++ Rf b :: rest) (hrl : rest.length ≤ 8) (hbc : bc = bc' + bc2) (hbs : bs = bs' + bs2) (hn : pc + 3 = n') (hC : Ct X mt' d' bc' bs' (Rf b :: as) V κ P') (kk : ∀ r V' κ', P' r V' κ' → G X mt d P V0 bc2 bs2 n' L (r.toList ++ rest) V' κ') : G X mt d P V0 bc bs pc L st V κ := fun p e R s m args below meth c mc ms ρ0 C H locs cells slots ls ρ hh => by
  subst hst hbc hbs
  have hM := hh.2.2.2.1
  have hok := okS_app hh.2.2.1
  obtain ⟨w1, w2, w3, hci, T, N1, hc⟩ := hw
  obtain ⟨N0, hN0⟩ := hM.2.2.2.2
  obtain ⟨q0, hq0⟩ := lvl_pos hN0 (show V b = true from hok.2.1) (kd_lt hk (by omega))
  have he : (wsO X ρ κ (lvl X V N0))[q0]? = some (ρ b, .inr (ci, (List.range N).map fun j => cv ρ (vr X b (κ b) j))) := by rw [wsO_pos hq0, ent_O hk hci]
  have hx := C.2.2.2.2.1
  have hrun := va_runV (e := e) (below := below) (meth := meth) (locs := locs) (g := F0 m pc ls ((as.reverse ++ Rf b :: rest).map (cv ρ))) (As := as.map (cv ρ)) (rest := rest.map (cv ρ)) (b := ρ b) ⟨C.1, C.2.1, C.2.2.1, C.2.2.2.1, hx⟩ (hC ρ) (own := mt.1.cls) (C := mt'.1.cls) (index := idx) (bytes := mt'.2.1) (maxL := mt'.2.2.1) (ret := mt'.2.2.2) (n := as.length) (R := R) (mc := bc') (ms := bs')
    ⟨callB_of as.length hx (goodG hm.1) rfl rfl rfl (hx _ hm.2.1) (hx _ w1) hm.2.2.1 (room_ok C hm hdd), hx _ w2, hx _ w3⟩
    ⟨blindG, va_recv C.2.2.2.2.2.2.2.2.1.1 (hM.P N0) hc he, fun U hU hW => ⟨rfl, ⟨hok.2.1, okS_rev hok.1⟩, by rw [hU]; exact hM.moved hW.alike, by rw [hU]; exact am.moved hW (am.kept C.2.2.2.2.2.2.2.2.1 hh.2.2.2.2.1), by rw [hU]; exact Nat.le_trans C.2.2.2.2.2.2.2.2.2.2 hh.2.2.2.2.1.1⟩⟩
    rfl (by rw [List.length_map]) hh.1.1 (by rw [List.map_append, List.map_reverse] <;> rfl) (by show 2 * 0 + _ ≤ 8; rw [cat_sum]; omega) hd (fits_ok C hh)
  exact after C hh hok.2.2 hrun hn kk
def CSd (own : String) (idx : Nat) (mt' : Mt) : Prop := Cond.methodLink own idx mt'.1 ∈ tbG ∧ Cond.static mt'.1 ∈ tbG
def CId (own : String) (idx : Nat) (mt' : Mt) : Prop := Cond.methodLink own idx mt'.1 ∈ tbG ∧ Cond.instanceMethod mt'.1 ∈ tbG ∧ mt'.1.name = "<init>" ∧ mt'.2.2.2 = none
def CSdN (own : String) (idx : Nat) (mt' : Mt) : Prop := ∃ host, Cond.methodLinkNest own idx mt'.1 host ∈ nwL ∧ Cond.static mt'.1 ∈ tbG
def CIdN (own : String) (idx : Nat) (mt' : Mt) : Prop := ∃ host, Cond.methodLinkNest own idx mt'.1 host ∈ nwL ∧ Cond.instanceMethod mt'.1 ∈ tbG ∧ mt'.1.name = "<init>" ∧ mt'.2.2.2 = none
theorem g_callS (n' : Nat) (bc2 bs2 : Nat) {mt' : Mt} {d' bc' bs' idx : Nat} (as rest : List Av) {P' : Po} (hd : decode mt.2.1 pc = .ok (.invokestatic idx, 3)) (hw : CSd mt.1.cls idx mt') (hm : MWd as.length mt') (hdd : d' + 1 ≤ d) (hst : st = as.reverse ++ rest) (hrl : rest.length ≤ 8) (hbc : bc = bc' + bc2) (hbs : bs = bs' + bs2) (hn : pc + 3 = n') (hC : Ct X mt' d' bc' bs' as V κ P') (kk : ∀ r V' κ', P' r V' κ' → G X mt d P V0 bc2 bs2 n' L (r.toList ++ rest) V' κ') : G X mt d P V0 bc bs pc L st V κ := fun p e R s m args below meth c mc ms ρ0 C H locs cells slots ls ρ hh => by
  subst hst hbc hbs
  have hM := hh.2.2.2.1
  have hok := okS_app hh.2.2.1
  obtain ⟨w1, w2⟩ := hw
  have hx := C.2.2.2.2.1
  have hrun := va_runS (e := e) (below := below) (meth := meth) (locs := locs) (g := F0 m pc ls ((as.reverse ++ rest).map (cv ρ))) (As := as.map (cv ρ)) (rest := rest.map (cv ρ)) ⟨C.1, C.2.1, C.2.2.1, C.2.2.2.1, hx⟩ (hC ρ) (own := mt.1.cls) (index := idx) (bytes := mt'.2.1) (maxL := mt'.2.2.1) (ret := mt'.2.2.2) (n := as.length) (R := R) (mc := bc') (ms := bs')
    ⟨callB_of as.length hx (goodG hm.1) rfl rfl rfl (hx _ hm.2.1) (hx _ w1) hm.2.2.1 (room_ok C hm hdd), hx _ w2⟩
    ⟨blindG, fun U hU hW => ⟨rfl, okS_rev hok.1, by rw [hU]; exact hM.moved hW.alike, by rw [hU]; exact am.moved hW (am.kept C.2.2.2.2.2.2.2.2.1 hh.2.2.2.2.1), by rw [hU]; exact Nat.le_trans C.2.2.2.2.2.2.2.2.2.2 hh.2.2.2.2.1.1⟩⟩
    rfl (by rw [List.length_map]) hh.1.1 (by rw [List.map_append, List.map_reverse] <;> rfl) (by show 2 * 0 + _ ≤ 8; rw [cat_sum]; omega) hd (fits_ok C hh)
  exact after C hh hok.2 hrun hn kk
theorem g_callI (n' : Nat) (bc2 bs2 : Nat) {mt' : Mt} {d' bc' bs' idx b : Nat} (as rest : List Av) {P' : Po} (hd : decode mt.2.1 pc = .ok (.invokespecial idx, 3)) (hw : CId mt.1.cls idx mt') (hm : MWd as.length mt') (hdd : d' + 1 ≤ d) (hst : st = as.reverse ++ Rf b :: rest) (hrl : rest.length ≤ 8) (hbc : bc = bc' + bc2) (hbs : bs = bs' + bs2) (hn : pc + 3 = n') (hC : Ct X mt' d' bc' bs' (Rf b :: as) V κ P') (kk : ∀ r V' κ', P' r V' κ' → G X mt d P V0 bc2 bs2 n' L (r.toList ++ rest) V' κ') : G X mt d P V0 bc bs pc L st V κ := fun p e R s m args below meth c mc ms ρ0 C H locs cells slots ls ρ hh => by
  subst hst hbc hbs
  have hM := hh.2.2.2.1
  have hok := okS_app hh.2.2.1
  obtain ⟨w1, w2, w3, w4⟩ := hw
  have hx := C.2.2.2.2.1
  have hrun := va_runI (e := e) (below := below) (meth := meth) (locs := locs) (g := F0 m pc ls ((as.reverse ++ Rf b :: rest).map (cv ρ))) (As := as.map (cv ρ)) (rest := rest.map (cv ρ)) (b := ρ b) ⟨C.1, C.2.1, C.2.2.1, C.2.2.2.1, hx⟩ (hC ρ) (own := mt.1.cls) (index := idx) (bytes := mt'.2.1) (maxL := mt'.2.2.1) (n := as.length) (R := R) (mc := bc') (ms := bs')
    ⟨callB_of as.length hx (goodG hm.1) (by rw [w4]) rfl rfl (hx _ hm.2.1) (hx _ w1) hm.2.2.1 (room_ok C hm hdd), w3, hx _ w2⟩
    ⟨blindG, fun U hU hW => ⟨rfl, ⟨hok.2.1, okS_rev hok.1⟩, by rw [hU]; exact hM.moved hW.alike, by rw [hU]; exact am.moved hW (am.kept C.2.2.2.2.2.2.2.2.1 hh.2.2.2.2.1), by rw [hU]; exact Nat.le_trans C.2.2.2.2.2.2.2.2.2.2 hh.2.2.2.2.1.1⟩⟩
    rfl (by rw [List.length_map]) hh.1.1 (by rw [List.map_append, List.map_reverse] <;> rfl) (by show 2 * 0 + _ ≤ 8; rw [cat_sum]; omega) hd (fits_ok C hh)
  exact after C hh hok.2.2 hrun hn kk
theorem g_callSN (n' : Nat) (bc2 bs2 : Nat) {mt' : Mt} {d' bc' bs' idx : Nat} (as rest : List Av) {P' : Po} (hd : decode mt.2.1 pc = .ok (.invokestatic idx, 3)) (hw : CSdN mt.1.cls idx mt') (hm : MWd as.length mt') (hdd : d' + 1 ≤ d) (hst : st = as.reverse ++ rest) (hrl : rest.length ≤ 8) (hbc : bc = bc' + bc2) (hbs : bs = bs' + bs2) (hn : pc + 3 = n') (hC : Ct X mt' d' bc' bs' as V κ P') (kk : ∀ r V' κ', P' r V' κ' → G X mt d P V0 bc2 bs2 n' L (r.toList ++ rest) V' κ') : G X mt d P V0 bc bs pc L st V κ := fun p e R s m args below meth c mc ms ρ0 C H locs cells slots ls ρ hh => by
  subst hst hbc hbs
  have hM := hh.2.2.2.1
  have hok := okS_app hh.2.2.1
  obtain ⟨host, w1, w2⟩ := hw
  have hx := C.2.2.2.2.1
  have hrun := va_runSN (e := e) (below := below) (meth := meth) (locs := locs) (g := F0 m pc ls ((as.reverse ++ rest).map (cv ρ))) (As := as.map (cv ρ)) (rest := rest.map (cv ρ)) ⟨C.1, C.2.1, C.2.2.1, C.2.2.2.1, hx⟩ (hC ρ) (own := mt.1.cls) (index := idx) (bytes := mt'.2.1) (maxL := mt'.2.2.1) (ret := mt'.2.2.2) (n := as.length) (R := R) (mc := bc') (ms := bs')
    ⟨va_cnB as.length hx (goodG hm.1) rfl rfl rfl (C.2.2.2.2.2.2.2.2.1.2.1 _ w1) (hx _ hm.2.1) hm.2.2.1 (room_ok C hm hdd), hx _ w2, trivial⟩
    ⟨blindG, fun U hU hW => ⟨rfl, okS_rev hok.1, by rw [hU]; exact hM.moved hW.alike, by rw [hU]; exact am.moved hW (am.kept C.2.2.2.2.2.2.2.2.1 hh.2.2.2.2.1), by rw [hU]; exact Nat.le_trans C.2.2.2.2.2.2.2.2.2.2 hh.2.2.2.2.1.1⟩⟩
    rfl (by rw [List.length_map]) hh.1.1 (by rw [List.map_append, List.map_reverse] <;> rfl) (by show 2 * 0 + _ ≤ 8; rw [cat_sum]; omega) hd (fits_ok C hh)
  exact after C hh hok.2 hrun hn kk
theorem g_callIN (n' : Nat) (bc2 bs2 : Nat) {mt' : Mt} {d' bc' bs' idx b : Nat} (as rest : List Av) {P' : Po} (hd : decode mt.2.1 pc = .ok (.invokespecial idx, 3)) (hw : CIdN mt.1.cls idx mt') (hm : MWd as.length mt') (hdd : d' + 1 ≤ d) (hst : st = as.reverse ++ Rf b :: rest) (hrl : rest.length ≤ 8) (hbc : bc = bc' + bc2) (hbs : bs = bs' + bs2) (hn : pc + 3 = n') (hC : Ct X mt' d' bc' bs' (Rf b :: as) V κ P') (kk : ∀ r V' κ', P' r V' κ' → G X mt d P V0 bc2 bs2 n' L (r.toList ++ rest) V' κ') : G X mt d P V0 bc bs pc L st V κ := fun p e R s m args below meth c mc ms ρ0 C H locs cells slots ls ρ hh => by
  subst hst hbc hbs
  have hM := hh.2.2.2.1
  have hok := okS_app hh.2.2.1
  obtain ⟨host, w1, w2, w3, w4⟩ := hw
  have hx := C.2.2.2.2.1
  have hrun := va_runIN (e := e) (below := below) (meth := meth) (locs := locs) (g := F0 m pc ls ((as.reverse ++ Rf b :: rest).map (cv ρ))) (As := as.map (cv ρ)) (rest := rest.map (cv ρ)) (b := ρ b) ⟨C.1, C.2.1, C.2.2.1, C.2.2.2.1, hx⟩ (hC ρ) (own := mt.1.cls) (index := idx) (bytes := mt'.2.1) (maxL := mt'.2.2.1) (n := as.length) (R := R) (mc := bc') (ms := bs')
    ⟨va_cnB as.length hx (goodG hm.1) (by rw [w4]) rfl rfl (C.2.2.2.2.2.2.2.2.1.2.1 _ w1) (hx _ hm.2.1) hm.2.2.1 (room_ok C hm hdd), w3, hx _ w2⟩
    ⟨blindG, fun U hU hW => ⟨rfl, ⟨hok.2.1, okS_rev hok.1⟩, by rw [hU]; exact hM.moved hW.alike, by rw [hU]; exact am.moved hW (am.kept C.2.2.2.2.2.2.2.2.1 hh.2.2.2.2.1), by rw [hU]; exact Nat.le_trans C.2.2.2.2.2.2.2.2.2.2 hh.2.2.2.2.1.1⟩⟩
    rfl (by rw [List.length_map]) hh.1.1 (by rw [List.map_append, List.map_reverse] <;> rfl) (by show 2 * 0 + _ ≤ 8; rw [cat_sum]; omega) hd (fits_ok C hh)
  exact after C hh hok.2.2 hrun hn kk
theorem g_objInit (n' : Nat) {idx b : Nat} (hd : decode mt.2.1 pc = .ok (.invokespecial idx, 3)) (h1 : Cond.methodLink mt.1.cls idx Lib.objectInit ∈ tbG) (h2 : Cond.instanceMethod Lib.objectInit ∈ tbG) (h3 : Cond.code Lib.objectInit ⟨#[0xb1]⟩ 1 none ∈ tbG) (hdd : 1 ≤ d) (hrl : st.length ≤ 8) (hn : pc + 3 = n') (kk : G X mt d P V0 bc bs n' L st V κ) : G X mt d P V0 bc bs pc L (Rf b :: st) V κ := fun p e R s m args below meth c mc ms ρ0 C H locs cells slots ls ρ hh => by
  have hx := C.2.2.2.2.1
  have g1 := C.2.2.2.2.2.2.2.2.2.1.1
  have g2 := C.2.2.2.2.2.2.2.2.2.1.2.1
  refine W.objInit C.1 C.2.1 C.2.2.2.1 (hx _ h1) (hx _ h2) (hx _ h3) rfl (hh.1.1.trans C.2.2.1.symm) rfl hd (by omega) (by show 2 * 0 + _ + 12 ≤ _; rw [cat_sum]; omega) ?_
  show W p X.1 e R s m args below meth c H locs cells slots _ (F0 m (pc + 3) ls _)
  rw [hn]
  exact kk p e R s m args below meth c mc ms ρ0 C H locs cells slots ls ρ (hh.stk hh.2.2.1.2)
theorem hhS.nw {ρ0 ρ : Nat → Nat} {t n q : Nat} {κ' : Ks} {s : State} {H H1 : Heap} {locs locs1 : List Loc} {cells slots : Nat} {ls : Array Slot} {mc ms : Nat} {st' : List Av} (h : hhS X mt V0 ρ0 (bc + 1) (bs + n) L st V κ s H locs cells slots ls mc ms ρ) (ht : V t = false) (hst : okS V st') (hM : mm X (fun a => if a = t then q else ρ a) (vset V t) κ' s H1) (hS : va_S (frA X) s.heap H1 locs1) : hhS X mt V0 ρ0 bc bs L (Rf t :: st') (vset V t) κ' s H1 locs1 (cells + 1) (slots + n) ls mc ms (fun a => if a = t then q else ρ a) := by
  have hρ : ∀ a, V a = true → (fun a => if a = t then q else ρ a) a = ρ a := fun a ha => if_neg (fun e => by rw [e, ht] at ha; cases ha)
  have hV : ∀ a, V a = true → vset V t a = true := fun a ha => by
    unfold vset
    split
    · rfl
    · exact ha
  have hb := h.2.2.2.2.2.1
  exact ⟨lvL.ext hρ h.2.1 h.1, h.2.1.mono hV, ⟨(if_pos rfl : vset V t t = true), hst.mono hV⟩, hM, hS, ⟨by omega, by omega⟩, fun a ha => ⟨hV a (h.2.2.2.2.2.2 a ha).1, (hρ a (h.2.2.2.2.2.2 a ha).1).trans (h.2.2.2.2.2.2 a ha).2⟩⟩
def FNw (own : String) (idx ci N : Nat) (lk : Nat → Nat) : Prop := ∃ (C : String) (T : u_T) (ty0 : Nat → FieldType), vwCl[ci]? = some (C, T, N) ∧ (∀ w ∈ u_ws C T N, w ∈ tbG) ∧ (∀ k, k < N → parseFieldDescriptor (T k).2.2.1 = some (ty0 k)) ∧ Cond.classLink own idx C ∈ tbG ∧ Cond.instantiable C N ∈ tbG ∧ Cond.initialized C ∈ tbG ∧ ci < 20 ∧ ∀ j, j < N → defaultValue (ty0 j) = if lk j = 0 then .int 0 else .null
theorem vr_z {t j : Nat} (hl : X.2.2.2.2.2.2 t j ≤ 1) : ∀ q, vr X t (fun _ => 0) j ≠ .inr (some q) := fun q h => by
  rcases Nat.le_one_iff_eq_zero_or_eq_one.mp hl with h0 | h0
  · rw [vr_0 h0] at h
    cases h
  · rw [vr_1 h0] at h
    cases h
theorem g_new (n' : Nat) (t : Nat) {idx ci N : Nat} {lk : Nat → Nat} (hd : decode mt.2.1 pc = .ok (.new idx, 3)) (hf : FNw mt.1.cls idx ci N lk) (hk : kd X t = (ci, N)) (hl : ∀ j, X.2.2.2.2.2.2 t j = lk j) (hl1 : ∀ j, lk j ≤ 1) (ht : V t = false) (hn : pc + 3 = n') (kk : G X mt d P V0 bc bs n' L (Rf t :: st) (vset V t) (rowset κ t (fun _ => 0))) : G X mt d P V0 (bc + 1) (bs + N) pc L st V κ := fun p e R s m args below meth c mc ms ρ0 C H locs cells slots ls ρ hh => by
  obtain ⟨C', T, ty0, hc, hin, hty, hw1, hw2, hw3, hci, hdf⟩ := hf
  have hM := hh.2.2.2.1
  have hx := C.2.2.2.2.1
  obtain ⟨N0, hN0⟩ := hM.2.2.2.2
  have hr := C.2.2.2.2.2.2.2.2.2.1.2.2
  have hb := hh.2.2.2.2.2.1
  refine va_new (D := X.2.1) (tys := tysG X) (fs := (List.range N).map fun j => cv ρ (vr X t (fun _ => 0) j)) C.1 C.2.1 hx hin ty0 hty C.2.2.2.1 (hx _ hw1) (hx _ hw2) (hx _ hw3) C.2.2.2.2.2.2.2.2.1.1 (hM.P N0) (hM.D N0) hh.2.2.2.2.1 (frA_new C.2.2.2.2.2.2.2.2.2.2) hc (fun j hj => ?_) (by omega) (by omega) hd (fun q H1 hP1 hD1 hS1 => ?_)
  · rw [hdf j hj]
    have e : vp_V ((List.range N).map fun j => cv ρ (vr X t (fun _ => 0) j)) j = cv ρ (vr X t (fun _ => 0) j) := by
      unfold vp_V
      rw [List.getD_eq_getElem?_getD, List.getElem?_map, List.getElem?_range hj]
      rfl
    rw [e]
    rcases Nat.le_one_iff_eq_zero_or_eq_one.mp (hl1 j) with h0 | h0
    · rw [vr_0 ((hl j).trans h0), h0]
      rfl
    · rw [vr_1 ((hl j).trans h0), h0]
      rfl
  · rw [← ent_O hk hci] at hP1 hD1
    rw [hn]
    have h2 := mm.push C.2.2.2.2.2.2.2.2.2.2 hM hN0 ht (kd_lt hk (by omega)) hh.2.2.2.2.1 hS1 hP1 hD1 (fun _ => inR_0) (fun j => vr_z (by rw [hl j]; exact hl1 j))
    have h3 := kk p e R s m args below meth c mc ms ρ0 C H1 locs (cells + 1) (slots + N) ls _ (hh.nw ht hh.2.2.1 h2 hS1)
    have e2 : (Rf t :: st).map (cv fun a => if a = t then q else ρ a) = .ref q :: st.map (cv ρ) := by
      rw [List.map_cons, cvS_ext (V := V) (ρ := ρ) (fun a ha => if_neg (fun e => by rw [e, ht] at ha; cases ha)) hh.2.2.1]
      show Value.ref (if t = t then q else ρ t) :: _ = _
      rw [if_pos rfl]
    rw [e2] at h3
    exact h3
theorem arr_same {X : Cx} {s : State} {k : Nat} {cA cB : ClassId} {ty : FieldType} (h : va_K X.2.1 vwCl (tysG X) s) (hk : (tysG X)[k]? = some (cA, ty)) {D : va_G} {cl : List vw_C} {tys : List (ClassId × FieldType)} (h1 : va_K D cl (tys ++ [(cB, ty)]) s) : cB = cA := by
  have e1 := (h.2 k _ hk).2
  have e2 := (h1.2 tys.length (cB, ty) (by rw [List.getElem?_append_right (Nat.le_refl _), Nat.sub_self]; rfl)).2
  cases ty with
  | object C =>
    obtain ⟨-, -, -, -, -, a4⟩ := e1
    obtain ⟨-, -, -, -, -, b4⟩ := e2
    exact Option.some.inj (b4.symm.trans a4)
  | _ => exact Option.some.inj (e2.symm.trans e1)
theorem g_newI (n' : Nat) (t : Nat) {N : Nat} (hd : decode mt.2.1 pc = .ok (.newarray .int, 2)) (hw : Cond.arrayClass .int ∈ tbG) (hk : kd X t = (20, N)) (hN : N < 100000) (hl : ∀ j, X.2.2.2.2.2.2 t j = 0) (ht : V t = false) (hn : pc + 2 = n') (kk : G X mt d P V0 bc bs n' L (Rf t :: st) (vset V t) (rowset κ t (fun _ => 0))) : G X mt d P V0 (bc + 1) (bs + N) pc L (Iv (N : Int) :: st) V κ := fun p e R s m args below meth c mc ms ρ0 C H locs cells slots ls ρ hh => by
  have hM := hh.2.2.2.1
  have hx := C.2.2.2.2.1
  obtain ⟨N0, hN0⟩ := hM.2.2.2.2
  have hr := C.2.2.2.2.2.2.2.2.2.1.2.2
  have hb := hh.2.2.2.2.2.1
  have hNR : inR (N : Int) := by unfold inR; omega
  refine va_newa (atype := .int) (ty := .int) (a0 := (N, .inl (fun _ => 0))) (N' := N) (D := X.2.1) (tys := tysG X) C.1 C.2.1 (hx _ hw) rfl C.2.2.2.2.2.2.2.2.1.1 (hM.P N0) (hM.D N0) hh.2.2.2.2.1 (frA_new C.2.2.2.2.2.2.2.2.2.2) (fun _ => rfl) (fun z => by have := (ofI_lt hNR inR_0).mp z; omega) (by show (Int32.ofInt (N : Int)).toInt.toNat = N; rw [inR_toInt hNR]; rfl) (by show N * 4 ≤ _; omega) (by omega) (by omega) hd (fun q cA H1 hK1 hP1 hD1 hS1 => ?_)
  have hcA := arr_same (k := 0) C.2.2.2.2.2.2.2.2.1.1 rfl hK1
  subst hcA
  have he : (Sum.inl (X.2.2.1 0, N, Sum.inl (fun _ => 0)) : va_E) = ent X ρ t (fun _ => 0) := by rw [ent_I hk]; rfl
  rw [he] at hP1 hD1
  rw [hn]
  have h2 := mm.push C.2.2.2.2.2.2.2.2.2.2 hM hN0 ht (kd_lt hk (by omega)) hh.2.2.2.2.1 hS1 hP1 hD1 (fun _ => inR_0) (fun j => vr_z (by rw [hl j]; omega))
  have h3 := kk p e R s m args below meth c mc ms ρ0 C H1 locs (cells + 1) (slots + N) ls _ (hh.nw ht hh.2.2.1.2 h2 hS1)
  have e2 : (Rf t :: st).map (cv fun a => if a = t then q else ρ a) = .ref q :: st.map (cv ρ) := by
    rw [List.map_cons, cvS_ext (V := V) (ρ := ρ) (fun a ha => if_neg (fun e => by rw [e, ht] at ha; cases ha)) hh.2.2.1.2]
    show Value.ref (if t = t then q else ρ t) :: _ = _
    rw [if_pos rfl]
  rw [e2] at h3
  exact h3
theorem g_newZ (n' : Nat) (t : Nat) {N : Nat} (hd : decode mt.2.1 pc = .ok (.newarray .boolean, 2)) (hw : Cond.arrayClass .boolean ∈ tbG) (hk : kd X t = (21, N)) (hN : N < 100000) (hl : ∀ j, X.2.2.2.2.2.2 t j = 0) (ht : V t = false) (hn : pc + 2 = n') (kk : G X mt d P V0 bc bs n' L (Rf t :: st) (vset V t) (rowset κ t (fun _ => 0))) : G X mt d P V0 (bc + 1) (bs + N) pc L (Iv (N : Int) :: st) V κ := fun p e R s m args below meth c mc ms ρ0 C H locs cells slots ls ρ hh => by
  have hM := hh.2.2.2.1
  have hx := C.2.2.2.2.1
  obtain ⟨N0, hN0⟩ := hM.2.2.2.2
  have hr := C.2.2.2.2.2.2.2.2.2.1.2.2
  have hb := hh.2.2.2.2.2.1
  have hNR : inR (N : Int) := by unfold inR; omega
  refine va_newa (atype := .boolean) (ty := .boolean) (a0 := (N, .inl (fun _ => 0))) (N' := N) (D := X.2.1) (tys := tysG X) C.1 C.2.1 (hx _ hw) rfl C.2.2.2.2.2.2.2.2.1.1 (hM.P N0) (hM.D N0) hh.2.2.2.2.1 (frA_new C.2.2.2.2.2.2.2.2.2.2) (fun _ => rfl) (fun z => by have := (ofI_lt hNR inR_0).mp z; omega) (by show (Int32.ofInt (N : Int)).toInt.toNat = N; rw [inR_toInt hNR]; rfl) (by show N * 1 ≤ _; omega) (by omega) (by omega) hd (fun q cA H1 hK1 hP1 hD1 hS1 => ?_)
  have hcA := arr_same (k := 1) C.2.2.2.2.2.2.2.2.1.1 rfl hK1
  subst hcA
  have he : (Sum.inl (X.2.2.1 1, N, Sum.inl (fun _ => 0)) : va_E) = ent X ρ t (fun _ => 0) := by rw [ent_Z hk]; rfl
  rw [he] at hP1 hD1
  rw [hn]
  have h2 := mm.push C.2.2.2.2.2.2.2.2.2.2 hM hN0 ht (kd_lt hk (by omega)) hh.2.2.2.2.1 hS1 hP1 hD1 (fun _ => inR_0) (fun j => vr_z (by rw [hl j]; omega))
  have h3 := kk p e R s m args below meth c mc ms ρ0 C H1 locs (cells + 1) (slots + N) ls _ (hh.nw ht hh.2.2.1.2 h2 hS1)
  have e2 : (Rf t :: st).map (cv fun a => if a = t then q else ρ a) = .ref q :: st.map (cv ρ) := by
    rw [List.map_cons, cvS_ext (V := V) (ρ := ρ) (fun a ha => if_neg (fun e => by rw [e, ht] at ha; cases ha)) hh.2.2.1.2]
    show Value.ref (if t = t then q else ρ t) :: _ = _
    rw [if_pos rfl]
  rw [e2] at h3
  exact h3
end G7
