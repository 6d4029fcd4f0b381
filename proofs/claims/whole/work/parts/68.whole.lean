/-! THE CLAIM OUT OF ONE WALK OF THE LAW'S BODY. Your part is whole_start (and what it stands on); all else here is the same for every law, but numbers. -/
def R_law : String := "WoodenMainsLaw"
def lw_P (b : Addr) (xs : List Int32) (args : Array Value) (s : State) : Prop := args = #[.ref b] ∧ s.IntsAt b xs ∧ xs.length ≤ 3072 ∧ (Jvm.Cond.and given_1 narrow_1).before args s = true
def lw_Q (_ : Array Value) (s : State) (o : Outcome) (t : State) : Prop := o = .returned (some (.int 1)) ∧ Framed s o t [] 600000 7302250
def lw_Z (below : List Frame) (a : Array Value) (s : State) : State → Prop := fun t => ∃ o, t.status = .running ∧ Ended t below o ∧ lw_Q a s o t
/-- the law's own end, with 1 on the stack, nothing written that was there before, its room as the claim has it -/
theorem lw_ret {p : Program} {l : Launch} {e : Env} {s : State} {m : MethodId} {below : List Frame} {meth : Method} {c : Code} {b : Nat} (hx : p.tables.exec = Jvm.exec) (hb : c.code = code) (hr : meth.sig.returnType = ret) (hlocks : meth.locks = false) {pc : Nat} {H : Heap} {ls : Array Slot} (hdg : decode code pc = .ok (.ireturn, 1)) : W p l e room_1 s m #[Value.ref b] below meth c H [] 600000 7302250 (lw_Z below #[Value.ref b] s) (F0 m pc ls [.int 1]) := by
  intro T hT X
  obtain ⟨fs, hret, hrun, hended, hW, hframe⟩ := X.leave (v := some (.int 1)) (hlocks := hlocks) (fun h => by rw [hr] at h; cases h)
  have hmeth' : T.vm.method? m = some meth := X.method'
  refine ⟨T.setFrames fs, ?_, .returned (some (.int 1)), hrun, hended, rfl, ⟨_, rfl⟩, hW, hframe⟩
  jvm_step X.here [X.here.top, hx, hb, hdg, hmeth', hr, ret, narrow_b1]
  (try refine ⟨rfl, ?_⟩); (try refine ⟨rfl, ?_⟩)
  first | (intro acts; rw [hret _ acts rfl rfl rfl]) | rw [hret _ _ rfl rfl rfl]
  exact Steps.refl _
/-- what holds at the law's entry: the machine, the code, the tables' words (any of lw_tbl by 'hts w (by decide +kernel)'), the script of L ints xs at the cell b, what the Statement gives of the start (any of its parts by flat_of_before) -/
def lw_At (p : Program) (s : State) (m : MethodId) (meth : Method) (c : Code) (b L : Nat) (xs : Nat → Int32) : Prop :=
  p.tables.exec = Jvm.exec ∧ c.code = code ∧ meth.sig.returnType = ret ∧ c.maxLocals = 4 ∧ s.vm.findClass R_law = some m.cls ∧ (∀ w ∈ lw_tbl, w.before #[Value.ref b] s = true) ∧ va_X b L xs s s.heap ∧ b < s.heap.size ∧ meth.locks = false ∧ (Jvm.Cond.and given_1 narrow_1).before #[Value.ref b] s = true ∧ meth.name = "law"
theorem kn_of {own : String} {idx ci N : Nat} {lk : Nat → Nat} (h : FNw own idx ci N lk) {s : State} {args : Array Value} (hts : ∀ w ∈ tbG, w.before args s = true) : ∃ (cC : ClassId) (iS : Nat → Nat), ∀ q, vwCl[ci]? = some q → u_Kn s q.1 q.2.1 q.2.2 cC iS := by
  obtain ⟨C, T, ty0, h1, h2, h3, h4, h5, h6, h7, h8⟩ := h
  obtain ⟨cC, iS, hk⟩ := u_known (n := N) hts h2 (hts _ h5)
  exact ⟨cC, iS, fun q hq => by
    rw [h1] at hq
    cases hq
    exact hk⟩
theorem kn_all {s : State} {args : Array Value} (hts : ∀ w ∈ tbG, w.before args s = true) : ∀ c : Nat, ∃ (cC : ClassId) (iS : Nat → Nat), ∀ q, vwCl[c]? = some q → u_Kn s q.1 q.2.1 q.2.2 cC iS := by
  intro c
  by_cases hc : c < 12
  · rcases (show c = 0 ∨ c = 1 ∨ c = 2 ∨ c = 3 ∨ c = 4 ∨ c = 5 ∨ c = 6 ∨ c = 7 ∨ c = 8 ∨ c = 9 ∨ c = 10 ∨ c = 11 by omega) with rfl | rfl | rfl | rfl | rfl | rfl | rfl | rfl | rfl | rfl | rfl | rfl
    · exact kn_of nwX9_7 hts
    · exact kn_of nwX9_62 hts
    · exact kn_of nwX9_109 hts
    · exact kn_of nwX9_55 hts
    · exact kn_of nwX9_264 hts
    · exact kn_of nwX9_25 hts
    · exact kn_of nwX9_82 hts
    · exact kn_of nwX9_48 hts
    · exact kn_of nwX9_173 hts
    · exact kn_of nwX9_41 hts
    · exact kn_of nwL_7 hts
    · exact kn_of nwL_10 hts
  · refine ⟨0, fun _ => 0, fun q hq => ?_⟩
    have : vwCl.length = 12 := rfl
    rw [List.getElem?_eq_none (by omega)] at hq
    cases hq
theorem len_small {args : Array Value} {s : State} {tm : Term} {z : Value} (h : (Term.length tm).eval args s none [] s = some z) : ∃ t cell, tm.eval args s none [] s = some (.ref t) ∧ s.arrayAt? t = some cell ∧ cell.slots.size < 2 ^ 31 := by
  obtain ⟨t, cell, ht, hat, hv⟩ := Term.length_spec h
  refine ⟨t, cell, ht, hat, Nat.not_le.mp (fun c => ?_)⟩
  have c2 : ¬ cell.slots.size < 2 ^ 31 := Nat.not_lt.mpr c
  simp [Term.eval, ht, hat] at h
  omega
/-- a static row of ints that nobody writes -/
theorem st_row {args : Array Value} {s : State} {C n : String} {N : Nat} {f : Nat → Int32} (hN : N < 2 ^ 31) (harr : (Cond.arrayOf (.static C n "[I") .int).before args s = true) (hlen : (Cond.eq (.length (.static C n "[I")) (.int (Int32.ofNat N))).before args s = true) (hel : ∀ j : Nat, j < N → (Cond.eq (.elem (.static C n "[I") (.int (Int32.ofNat j))) (.int (f j))).before args s = true) : ∃ t : Nat, (Term.static C n "[I").eval args s none [] s = some (.ref t) ∧ t < s.heap.size ∧ wkI s s.heap t N f := by
  have hl := va_eqt hlen
  obtain ⟨t, ht, cell, h1, h2, h3, h4, h5, h6, h7⟩ := va_Tof (A := fun q => s.heap.size ≤ q) (f := fun j => .int (f j)) hN harr hl (fun j hj => va_eqt (hel j hj)) (fun a ha => Nat.not_le.mpr ha)
  obtain ⟨t2, cell2, g1, g2, g3⟩ := len_small hl
  rw [ht] at g1
  cases g1
  obtain ⟨k1, -⟩ := State.arrayAt?_spec g2
  rw [h1] at k1
  cases k1
  have hz : cell.slots.size = N := by
    have e := congrArg Int32.toNatClampNeg h5
    rw [show cell.slots.size.toInt32 = Int32.ofNat cell.slots.size from rfl, Int32.toNatClampNeg_ofNat_of_lt g3, Int32.toNatClampNeg_ofNat_of_lt hN] at e
    exact e
  exact ⟨t, ht, (Array.getElem?_eq_some_iff.mp h1).1, cell, h1, h2, h3, hz, h6⟩
theorem st_none {args : Array Value} {s : State} {C n d : String} (harr : (Cond.arrayOf (.static C n d) (.object "java/lang/Object")).before args s = true) (hlen : (Cond.eq (.length (.static C n d)) (.int 0)).before args s = true) : ∃ t : Nat, (Term.static C n d).eval args s none [] s = some (.ref t) ∧ t < s.heap.size ∧ wkO s s.heap t := by
  have hl := va_eqt hlen
  obtain ⟨t, ht, cell, h1, h2, h3, h4, h5, h6, h7⟩ := va_Tof (N := 0) (A := fun q => s.heap.size ≤ q) (f := fun _ => .null) (by decide) harr hl (fun j hj => absurd hj (Nat.not_lt_zero j)) (fun a ha => Nat.not_le.mpr ha)
  obtain ⟨t2, cell2, g1, g2, g3⟩ := len_small hl
  rw [ht] at g1
  cases g1
  obtain ⟨k1, -⟩ := State.arrayAt?_spec g2
  rw [h1] at k1
  cases k1
  have hz : cell.slots.size = 0 := by
    have e := congrArg Int32.toNatClampNeg h5
    rw [show cell.slots.size.toInt32 = Int32.ofNat cell.slots.size from rfl, Int32.toNatClampNeg_ofNat_of_lt g3, Int32.toNatClampNeg_ofNat_of_lt (by decide)] at e
    exact e
  exact ⟨t, ht, (Array.getElem?_eq_some_iff.mp h1).1, cell, h1, h2, h3, hz⟩
def κ0 (xs : Nat → Int32) : Ks := fun t j => if t = 30 then ([0, 0, 1] : List Int).getD j 0 else if t = 31 then ([5000, 50, 99] : List Int).getD j 0 else if t = 33 then (xs j).toInt else 0
theorem gD_R (l : List Int) (h : l.all (fun x => decide (inR x)) = true) (j : Nat) : inR (l.getD j 0) := by
  rw [List.getD_eq_getElem?_getD]
  cases e : l[j]? with
  | none => exact inR_0
  | some x => exact of_decide_eq_true (List.all_eq_true.mp h x (List.mem_of_getElem? e))
theorem κ0_R (xs : Nat → Int32) (t j : Nat) : inR (κ0 xs t j) := by
  unfold κ0
  split
  · exact gD_R _ (by decide) j
  · split
    · exact gD_R _ (by decide) j
    · split
      · exact toInt_inR _
      · exact inR_0
def ρL (a b c d e : Nat) : Nat → Nat := fun t => if t = 30 then a else if t = 31 then b else if t = 32 then c else if t = 33 then d else e
theorem mm_0 {l : Launch} {D : va_G} {cA : Nat → ClassId} {a b c d e L : Nat} {xs : Nat → Int32} {s : State} (ha : a < s.heap.size ∧ wkI s s.heap a 3 (fun j => Int32.ofInt (κ0 xs 30 j))) (hb : b < s.heap.size ∧ wkI s s.heap b 3 (fun j => Int32.ofInt (κ0 xs 31 j))) (hc : c < s.heap.size ∧ wkO s s.heap c) (hd : d < s.heap.size ∧ wkI s s.heap d L (fun j => Int32.ofInt (κ0 xs 33 j))) (he : va_Mi "[Ljava/lang/Object;" e s) : mm (XI (l, D, cA, s.heap.size, ρL a b c d e) L) (ρL a b c d e) VL (κ0 xs) s s.heap := by
  have cs : ∀ t : Nat, VL t = true → t = 30 ∨ t = 31 ∨ t = 32 ∨ t = 33 ∨ t = 34 := fun t h => by
    have := of_decide_eq_true h
    omega
  have nk : ∀ t : Nat, VL t = true → ¬ (kd (XI (l, D, cA, s.heap.size, ρL a b c d e) L) t).1 < 30 := fun t h => by
    rcases cs t h with rfl | rfl | rfl | rfl | rfl
    · rw [ki_30]; decide
    · rw [ki_31]; decide
    · rw [ki_32]; decide
    · rw [ki_33]; exact Nat.lt_irrefl 30
    · rw [ki_34]; decide
  refine ⟨fun t ht => ?_, fun x y hx hy kx _ _ => absurd kx (nk x hx), κ0_R xs, fun t j q ht hq => ?_, 35, fun t ht => by have := cs t ht; omega⟩
  · rcases cs t ht with rfl | rfl | rfl | rfl | rfl
    · unfold cellOk
      rw [ki_30, if_pos (show 30 ≤ ((30, 3) : Nat × Nat).1 from by decide)]
      refine ⟨rfl, Or.inr (Nat.not_le.mpr ha.1), Or.inr ha.1, ?_⟩
      unfold oldOk
      rw [ki_30, if_pos rfl]
      exact ha.2
    · unfold cellOk
      rw [ki_31, if_pos (show 30 ≤ ((30, 3) : Nat × Nat).1 from by decide)]
      refine ⟨rfl, Or.inr (Nat.not_le.mpr hb.1), Or.inr hb.1, ?_⟩
      unfold oldOk
      rw [ki_31, if_pos rfl]
      exact hb.2
    · unfold cellOk
      rw [ki_32, if_pos (show 30 ≤ ((31, 0) : Nat × Nat).1 from by decide)]
      refine ⟨rfl, Or.inr (Nat.not_le.mpr hc.1), Or.inr hc.1, ?_⟩
      unfold oldOk
      rw [ki_32, if_neg (show ¬ ((31, 0) : Nat × Nat).1 = 30 from by decide), if_pos rfl]
      exact hc.2
    · unfold cellOk
      rw [ki_33, if_pos (show 30 ≤ ((30, L) : Nat × Nat).1 from Nat.le_refl 30)]
      refine ⟨rfl, Or.inr (Nat.not_le.mpr hd.1), Or.inr hd.1, ?_⟩
      unfold oldOk
      rw [ki_33, if_pos rfl]
      exact hd.2
    · unfold cellOk
      rw [ki_34, if_pos (show 30 ≤ ((32, 0) : Nat × Nat).1 from by decide)]
      refine ⟨rfl, Or.inl rfl, Or.inl rfl, ?_⟩
      unfold oldOk
      rw [ki_34, if_neg (show ¬ ((32, 0) : Nat × Nat).1 = 30 from by decide), if_neg (show ¬ ((32, 0) : Nat × Nat).1 = 31 from by decide)]
      exact he
  · rcases cs t ht with rfl | rfl | rfl | rfl | rfl <;> cases hq
theorem same_forget {s t : State} {locs : List Loc} {k n : Nat} (h : s.sameButNew t locs k n) (hf : ∀ q ∈ locs, s.heap.size ≤ q.base) : s.sameButNew t [] k n := by
  obtain ⟨a1, a2, a3, a4, a5, a6⟩ := h
  refine ⟨a1, a2, a3, a4, a5, fun a c hc => ?_⟩
  obtain ⟨c', b1, b2, b3, b4⟩ := a6 a c hc
  refine ⟨c', b1, b2, b3, fun i _ => b4 i (fun hm => ?_)⟩
  have q1 := hf _ hm
  have q2 := (Array.getElem?_eq_some_iff.mp hc).1
  exact absurd q1 (Nat.not_le.mpr q2)
set_option maxHeartbeats 4000000 in
theorem whole_start {p : Program} {e : Env} {s : State} {m : MethodId} {below : List Frame} {meth : Method} {c : Code} (l : Launch) (hflags : l.flags = flags0) {b L : Nat} {xs : Nat → Int32} (hL : L ≤ 3072) (C0 : lw_At p s m meth c b L xs) : W p l e room_1 s m #[Value.ref b] below meth c s.heap [] 0 0 (lw_Z below #[Value.ref b] s) (entryFrame m ([Value.ref b] : List Value).toArray 4) := by
  obtain ⟨hx, hb, hr, hml, hown, hts, hX, hbl, hlk, hgv, hname⟩ := C0
  have hg := flat_of_before _ hgv
  have htg : ∀ w ∈ tbG, w.before #[Value.ref b] s = true := fun w hw => hts w (tbG_tbl hw)
  -- the constant rows
  obtain ⟨t30, e30, l30, w30⟩ := st_row (C := "WoodenMains") (n := "LEAST_SETTINGS") (N := 3) (f := fun j => Int32.ofInt (([0, 0, 1] : List Int).getD j 0)) (by decide) (hg _ (by decide +kernel)) (hg _ (by decide +kernel)) (fun j hj => by
    rcases (show j = 0 ∨ j = 1 ∨ j = 2 by omega) with rfl | rfl | rfl <;> exact hg _ (by decide +kernel))
  obtain ⟨t31, e31, l31, w31⟩ := st_row (C := "WoodenMains") (n := "MOST_SETTINGS") (N := 3) (f := fun j => Int32.ofInt (([5000, 50, 99] : List Int).getD j 0)) (by decide) (hg _ (by decide +kernel)) (hg _ (by decide +kernel)) (fun j hj => by
    rcases (show j = 0 ∨ j = 1 ∨ j = 2 by omega) with rfl | rfl | rfl <;> exact hg _ (by decide +kernel))
  obtain ⟨t32, e32, l32, w32⟩ := st_none (C := "java/util/ArrayList") (n := "DEFAULTCAPACITY_EMPTY_ELEMENTDATA") (d := "[Ljava/lang/Object;") (hg _ (by decide +kernel)) (hg _ (by decide +kernel))
  obtain ⟨mi, hmi⟩ := va_Mi.of (args := #[Value.ref b]) (s := s) (C := "[Ljava/lang/Object;") (hg _ (by decide +kernel))
  -- classes and rows
  have hK := kn_all htg
  obtain ⟨cI, kI, oI, i1, i2, i3⟩ := Cond.arrayClass_spec (htg _ wAI)
  obtain ⟨cZ, kZ, oZ, z1, z2, z3⟩ := Cond.arrayClass_spec (htg _ wAZ)
  have aO : (Cond.arrayOver (.object "java/lang/Object")).before #[Value.ref b] s = true := hts _ (tbA 2 101 (by first | rfl | decide +kernel))
  have aR : (Cond.arrayOver (.object "WoodenMains$Row")).before #[Value.ref b] s = true := hts _ (tbA 1 57 (by first | rfl | decide +kernel))
  obtain ⟨oO, cO, kO, o1, o2, o3, o4, o5⟩ := Cond.arrayOver_spec aO
  obtain ⟨oR, cR, kR, r1, r2, r3, r4, r5⟩ := Cond.arrayOver_spec aR
  obtain ⟨D, hD⟩ : ∃ D : va_G, ∀ (k : Nat) (q : vw_C), vwCl[k]? = some q → u_Kn s q.1 q.2.1 q.2.2 (D.1 k) (D.2 k) := ⟨(fun k => (hK k).choose, fun k => (hK k).choose_spec.choose), fun k q hq => (hK k).choose_spec.choose_spec q hq⟩
  obtain ⟨cA, hcA⟩ : ∃ cA : Nat → ClassId, cA = fun k => if k = 0 then cI else if k = 1 then cZ else if k = 2 then cO else cR := ⟨_, rfl⟩
  have hA : ∀ a : Nat, a < s.heap.size → ¬ (fun q => s.heap.size ≤ q) a := fun a ha => Nat.not_le.mpr ha
  have am0 : am (XI (l, D, cA, s.heap.size, ρL t30 t31 t32 b mi) L) s s.heap := by
    refine ⟨⟨hD, fun k q hq => ?_⟩, fun w hw => ?_, ⟨va_AO.of aO, va_AO.of aR⟩, ?_, ?_, ?_⟩
    · subst hcA
      have hk : k < 4 := (List.getElem?_eq_some_iff.mp hq).1
      rcases (show k = 0 ∨ k = 1 ∨ k = 2 ∨ k = 3 by omega) with rfl | rfl | rfl | rfl
      · cases hq
        exact ⟨fun n z => ⟨fun k h => (by cases h), kI, i2, oI, i3⟩, i1⟩
      · cases hq
        exact ⟨fun n z => ⟨fun k h => (by cases h), kZ, z2, oZ, z3⟩, z1⟩
      · cases hq
        exact ⟨fun n z => ⟨fun k h => (by cases h), kO, o3, oO, o4⟩, kO, oO, o3, o4, o1, o5⟩
      · cases hq
        exact ⟨fun n z => ⟨fun k h => (by cases h), kR, r3, oR, r4⟩, kR, oR, r3, r4, r1, r5⟩
    · have h1 := hts w (List.mem_filter.mp hw).1
      have h2 := (List.mem_filter.mp hw).2
      cases w <;> first | exact va_Nw.of rfl h1 | cases h2
    · exact va_Zref (hts _ (tbA 2 116 (by first | rfl | decide +kernel))) (htg _ mwX9_street.2.1) e30 hA
    · exact va_Zref (hts _ (tbA 2 118 (by first | rfl | decide +kernel))) (htg _ mwX9_street.2.1) e31 hA
    · exact va_Zref (hts _ (tbA 1 43 (by first | rfl | decide +kernel))) (htg _ mwJx4a65c_size_8abf5.2.1) e32 hA
  have hM : mm (XI (l, D, cA, s.heap.size, ρL t30 t31 t32 b mi) L) (ρL t30 t31 t32 b mi) VL (κ0 xs) s s.heap := mm_0 ⟨l30, w30⟩ ⟨l31, w31⟩ ⟨l32, w32⟩ ⟨hbl, by
    obtain ⟨scr, h1, h2, h3, h4, h5⟩ := hX
    exact ⟨scr, h1, h2, h3, h4, fun j hj => by rw [h5 j hj]; exact congrArg (fun z => some (Value.int z)) (Int32.ofInt_toInt (xs j)).symm⟩⟩ hmi
  have C : cxC (XI (l, D, cA, s.heap.size, ρL t30 t31 t32 b mi) L) mL_law 20 p room_1 s m #[Value.ref b] meth c 600000 7302250 := ⟨hx, hb, hml, hown, htg, hr, hlk, hname, am0, ⟨by decide, by decide, Nat.le_refl _, Nat.le_refl _⟩, Nat.le_refl _⟩
  have hl := lv_entry ([Rf 33].map (cv (ρL t30 t31 t32 b mi))) (n := 4) (by rw [lg_sl_len]; decide)
  have G0 := law_G (B := (l, D, cA, s.heap.size, ρL t30 t31 t32 b mi)) (n0 := L) (κ := κ0 xs) hL ⟨rfl, rfl, rfl⟩ ⟨rfl, rfl, rfl⟩ p e room_1 s m #[Value.ref b] below meth c 600000 7302250 (ρL t30 t31 t32 b mi) C s.heap [] 0 0 _ (ρL t30 t31 t32 b mi) ⟨⟨hl.1, hl.2.1, fun i v hi => ?_⟩, okL_of VL [Rf 33] 3 ⟨rfl, trivial⟩, trivial, hM, va_S.rf, ⟨Nat.le_of_ble_eq_true rfl, Nat.le_of_ble_eq_true rfl⟩, fun t ht => (nomatch ht)⟩
  · rw [lg_entry_eq]
    refine W.post G0 (fun t ht => ?_)
    obtain ⟨o, h1, h2, ⟨⟨r, V', κ', ρ', ho, hm, hp, hok, hv⟩, hF⟩, L', h4, h5⟩ := ht
    have hp : r = some (Iv 1) := hp
    subst hp
    exact ⟨o, h1, h2, ho, h4.1, h4.2.1, same_forget h4.2.2 h5⟩
  · have h1 : ([Rf 33] : List Av)[i]? = some v := by
      rcases (show i = 0 ∨ 1 ≤ i by omega) with rfl | z
      · cases hi
        rfl
      · exfalso
        rcases (show i = 1 ∨ i = 2 ∨ i = 3 ∨ 4 ≤ i by omega) with rfl | rfl | rfl | y
        · cases hi
        · cases hi
        · cases hi
        · rw [List.getElem?_eq_none (by simpa using y)] at hi
          cases hi
    have h2 := lv_args_get (ρ := ρL t30 t31 t32 b mi) [Rf 33] 0 i v h1
    rw [Nat.zero_add] at h2
    exact hl.2.2 (i, cv (ρL t30 t31 t32 b mi) v) h2
-- ===== YOUR PART ENDS =====
set_option maxHeartbeats 4000000 in
theorem lw_walk (l : Launch) (hflags : l.flags = flags0) (b : Addr) (xs : List Int32) : MetFree l x (headSpec (Jvm.Cond.code x code maxLocals ret :: tables_1) room_1) (lw_P b xs) (fun _ _ _ _ _ => True) lw_Q := by
  refine MetFree.of_bodyS (code := code) (maxLocals := maxLocals) (ret := ret) (by decide) ?_ ?_
  · intro args s m h hn
    obtain ⟨meth, c, h1, h2, h3, h4, h5, h6, -, -⟩ := Cond.code_spec hn (atoms_spec (ws := Jvm.Cond.code x code maxLocals ret :: tables_1) h _ List.mem_cons_self)
    exact ⟨meth, c, h1, h2, h3, h4, h5, h6⟩
  · intro p e s m args below meth c s₁ B hml0 hP _
    obtain ⟨rfl, hx, hbd, hgv⟩ := hP
    obtain ⟨scr, harrAt, hlist, hof, hsmall⟩ := hx
    obtain ⟨hcb, hkn, -, -⟩ := State.arrayAt?_spec harrAt
    have hown : s.vm.findClass R_law = some m.cls := findClass_of_methodNamed B.named
    have hts0 : ∀ c ∈ (Jvm.Cond.code x code maxLocals ret :: tables_1), c.before #[Value.ref b] s = true := atoms_spec (ws := Jvm.Cond.code x code maxLocals ret :: tables_1) B.pre
    have hts : ∀ w ∈ lw_tbl, w.before #[Value.ref b] s = true := k2_hts_sels lw_privs (fun w hw => hts0 w (List.mem_cons_of_mem _ hw)) lw_privs_ok
    have hml : c.maxLocals = 4 := B.maxLocals_eq (hts0 _ List.mem_cons_self)
    have X₀ : Stand p l e room_1 s m #[Value.ref b] below meth c s₁ [] 0 0 := Stand.of_body B
    have hh0 : s₁.heap = s.heap := by rw [B.state]; rfl
    have hsz : scr.slots.size = xs.length := by rw [← Array.length_toList, hlist, List.length_map]
    have hval : ∀ j : Nat, j < xs.length → scr.slots[j]? = some (.int (xs.getD j 0)) := fun j hj => by
      rw [← Array.getElem?_toList, hlist]
      simp [hj]
    have hbl : b < s.heap.size := (Array.getElem?_eq_some_iff.mp hcb).1
    have hX : va_X b xs.length (fun j => xs.getD j 0) s s.heap := ⟨scr, hcb, hof, hkn, hsz, hval⟩
    have K : W p l e room_1 s m #[Value.ref b] below meth c s₁.heap [] 0 0 (lw_Z below #[Value.ref b] s) (entryFrame m ([Value.ref b] : List Value).toArray 4) := by
      rw [hh0]
      exact whole_start l hflags hbd ⟨B.exec, B.bytes, B.returns, hml, hown, hts, hX, hbl, B.notSynchronized, hgv, (name_of_methodNamed B.named B.method).1⟩
    obtain ⟨t, a1, o, b1, b2, b3⟩ := K s₁ rfl X₀
    exact ⟨t, o, a1, b1, b2, b3⟩
theorem lw_pre_spec {args : Array Value} {s : State} (h : (Jvm.Cond.and given_1 narrow_1).before args s = true) (hr : rest_1_c.before args s = true) : ∃ (b : Addr) (xs : List Int32), lw_P b xs args s := by
  have hs := flat_of_before _ h
  have hq := flat_of_before _ hr
  have hc : (Cond.count 1).before args s = true := hs _ (by decide +kernel)
  have harr : (Cond.arrayOf (.arg 0) .int).before args s = true := hs _ (by decide +kernel)
  have hle : (Cond.le (.length (.arg 0)) (.int 3072)).before args s = true := hs _ (by decide +kernel)
  have hlen : (Cond.isInt (.length (.arg 0))).before args s = true := hq _ (by decide +kernel)
  have hall : (Cond.all (.arg 0) (.isInt (.elem (.arg 0) (.index 0)))).before args s = true := hq _ (by decide +kernel)
  obtain ⟨b, xs, hb, hx⟩ := State.ints_of_pre rfl harr hlen hall
  have hsm : xs.length < 2 ^ 31 := hx.choose_spec.2.2.2
  have hev : (Term.length (.arg 0)).eval args s none [] s = some (.int xs.length.toInt32) := hx.length_eval hb
  have hv := Cond.le_ints hev (show (Term.int 3072).eval args s none [] s = some (.int 3072) from rfl)
  have hd : xs.length.toInt32 ≤ 3072 := by
    simpa [Cond.before, Cond.holds, hv] using hle
  have hN : xs.length ≤ 3072 := (Int32.ofNat_le_ofNat hsm (by decide)).mp (show Int32.ofNat xs.length ≤ Int32.ofNat 3072 from hd)
  exact ⟨b, xs, Cond.one_arg hc (show args[0]? = some (.ref b) from hb), hx, hN, h⟩
theorem lw_comes (l : Launch) (hflags : l.flags = flags0) : Comes l x (Jvm.Cond.code x code maxLocals ret :: tables_1) room_1 (fun tb e args s => Calls_1 tb e args s ∧ rest_1 tb e args s ∧ Pre_1 tb e args s)
    (fun _ _ args s o t => lw_Q args s o t) := by
  intro p e ha hc hk s m args below hf hfit hheap happ hpre
  obtain ⟨b, xs, hP⟩ := lw_pre_spec hpre.2.2 hpre.2.1
  obtain ⟨k, o, h1, h2, h3, hQ⟩ := lw_walk l hflags b xs p e ha hc hk s m args below hf ((Spec.applies_iff_loose hf).mp happ).1 hP trivial
  exact ⟨k, o, h1, h2, h3, hQ⟩
theorem lw_frame {s t : State} {o : Outcome} {args : Array Value} (h : Framed s o t [] 600000 7302250) :
    Framed s o t (fieldLocs frame_1_writes args s ++ arrayLocs frame_1_arrays args s ++ staticLocs frame_1_statics s) 600000 7302250 := h
theorem lw_limb (L : Cond) (hL : ∀ (args : Array Value) (s t : State), L.after args s (.returned (some (.int 1))) t = true) :
    ArmFor flags0 classFile x code maxLocals ret World_1 tables_1 room_1 Calls_1 rest_1 Pre_1
      (fun tb e a s o t => postC L tb e a s o t ∧ Framed s o t (fieldLocs frame_1_writes a s ++ arrayLocs frame_1_arrays a s ++ staticLocs frame_1_statics s) 600000 7302250) := by
  intro l hflags _ _ p e ha hc hk s m args below hf hfit hheap happ hpre
  obtain ⟨k, o, h1, h2, h3, rfl, hF⟩ := lw_comes l hflags p e ha hc hk s m args below hf hfit hheap happ hpre
  exact ⟨k, _, h1, h2, h3, hL args s _, lw_frame hF⟩
theorem i_vc : Claimed_1_1 ∧ Claimed_1_2 := ⟨lw_limb limb_1_1 (fun args s t => by simp [limb_1_1, Cond.after, Cond.holds, Cond.value]), lw_limb limb_1_2 (fun args s t => Cond.after_iff.mpr (by
  first | (rw [show limb_1_2 = Cond.eq .result (.int 1) from rfl, Cond.eq_ints (x := 1) (y := 1) rfl rfl]; simp; done) | (simp [limb_1_2, Cond.value, Term.eval]; done)))⟩
