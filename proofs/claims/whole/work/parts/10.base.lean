/-! what the walks use: reads after writes, exact ends, rows that name what they read -/
def bm (x : Int) : Int := (Int32.ofInt x).toInt
theorem bm_R (x : Int) : inR (bm x) := toInt_inR _
theorem bm_id {x : Int} (h : inR x) : bm x = x := inR_toInt h
theorem ofI_bm (x : Int) : Int32.ofInt (bm x) = Int32.ofInt x := Int32.ofInt_toInt _
theorem st2_s (κ : Ks) (t j : Nat) (v : Int) : st2 κ t j v t j = v := by
  unfold st2
  rw [rowset_s]
  exact if_pos rfl
theorem st2_t {κ : Ks} {t j t' : Nat} {v : Int} (h : t' ≠ t) : st2 κ t j v t' = κ t' := rowset_n κ _ h
theorem st2_j {κ : Ks} {t j j' : Nat} {v : Int} (h : j' ≠ j) : st2 κ t j v t j' = κ t j' := by
  unfold st2
  rw [rowset_s]
  exact if_neg h
theorem rd_t {κ : Ks} {t j t' j' : Nat} {v x : Int} (h : t' ≠ t) (hx : κ t' j' = x) : st2 κ t j v t' j' = x := (congrFun (st2_t h) j').trans hx
theorem rd_j {κ : Ks} {t j j' : Nat} {v x : Int} (h : j' ≠ j) (hx : κ t j' = x) : st2 κ t j v t j' = x := (st2_j h).trans hx
theorem rd_s {κ : Ks} {t j t' j' : Nat} {v x : Int} (ht : t' = t) (hj : j' = j) (hx : v = x) : st2 κ t j v t' j' = x := by
  subst ht hj
  exact (st2_s κ t' j' v).trans hx
theorem rr_t {κ : Ks} {t t' j' : Nat} {r : Nat → Int} {x : Int} (h : t' ≠ t) (hx : κ t' j' = x) : rowset κ t r t' j' = x := (congrFun (rowset_n κ r h) j').trans hx
theorem rr_s {κ : Ks} {t j' : Nat} {r : Nat → Int} {x : Int} (hx : r j' = x) : rowset κ t r t j' = x := (congrFun (rowset_s κ t r) j').trans hx
def Ex (r0 : Option Av) (V0 : Vs) (κ0 : Ks) : Po := fun r V κ => r = r0 ∧ V = V0 ∧ κ = κ0
theorem Ex.mk (r0 : Option Av) (V0 : Vs) (κ0 : Ks) : Ex r0 V0 κ0 r0 V0 κ0 := ⟨rfl, rfl, rfl⟩
section G10
variable {X : Cx} {mt : Mt} {d : Nat} {P : Po} {V0 : Vs} {bc bs pc : Nat} {L : Lc} {st : List Av} {V : Vs} {κ : Ks}
theorem Ct.mono {as : List Av} {bc' bs' d' : Nat} {P' : Po} (h : Ct X mt d bc bs as V κ P) (hP : ∀ r V κ, P r V κ → P' r V κ) (hx : d = d' ∧ bc = bc' ∧ bs = bs') : Ct X mt d' bc' bs' as V κ P' := by
  obtain ⟨rfl, rfl, rfl⟩ := hx
  intro ρ
  intro p e h1 h2 h3 s m args below h4 h5 h6 h7
  obtain ⟨k, o, g1, g2, g3, ⟨⟨⟨r, V', κ', ρ', q1, q2, q3, q4⟩, q5⟩, q6⟩⟩ := h ρ p e h1 h2 h3 s m args below h4 h5 h6 h7
  exact ⟨k, o, g1, g2, g3, ⟨⟨⟨r, V', κ', ρ', q1, q2, hP _ _ _ q3, q4⟩, q5⟩, q6⟩⟩
theorem r_getI (n' : Nat) (x : Int) {t ci N idx k : Nat} (hd : decode mt.2.1 pc = .ok (.getfield idx, 3)) (hf : FLd mt.1.cls idx ci k N) (hk : kd X t = (ci, N)) (hl : X.2.2.2.2.2.2 t k = 0) (hn : pc + 3 = n') (hx : κ t k = x) (kk : inR x → G X mt d P V0 bc bs n' L (Iv x :: st) V κ) : G X mt d P V0 bc bs pc L (Rf t :: st) V κ := by
  subst hx
  exact g_getI n' hd hf hk hl hn kk
theorem r_getD (n' : Nat) (o : Option Nat) {t ci N idx k : Nat} (hd : decode mt.2.1 pc = .ok (.getfield idx, 3)) (hf : FLd mt.1.cls idx ci k N) (hk : kd X t = (ci, N)) (hl : X.2.2.2.2.2.2 t k = 1) (hn : pc + 3 = n') (hx : dr (κ t k) = o) (kk : G X mt d P V0 bc bs n' L (.inr o :: st) V κ) : G X mt d P V0 bc bs pc L (Rf t :: st) V κ := by
  subst hx
  exact g_getD n' hd hf hk hl hn (fun _ => kk)
theorem r_iald (n' j : Nat) (x : Int) {t N : Nat} {i : Int} (hd : decode mt.2.1 pc = .ok (.iaload, 1)) (hk : kd X t = (20, N)) (hN : N < 2147483648) (hi : 0 ≤ i ∧ i < N) (hj : i.toNat = j) (hn : pc + 1 = n') (hx : κ t j = x) (kk : inR x → G X mt d P V0 bc bs n' L (Iv x :: st) V κ) : G X mt d P V0 bc bs pc L (Iv i :: Rf t :: st) V κ := by
  subst hj hx
  exact g_iald n' hd hk hN hi hn kk
theorem r_zald (n' j : Nat) (x : Int) {t N : Nat} {i : Int} (hd : decode mt.2.1 pc = .ok (.baload, 1)) (hk : kd X t = (21, N)) (hN : N < 2147483648) (hi : 0 ≤ i ∧ i < N) (hj : i.toNat = j) (hn : pc + 1 = n') (hx : κ t j = x) (kk : inR x → G X mt d P V0 bc bs n' L (Iv x :: st) V κ) : G X mt d P V0 bc bs pc L (Iv i :: Rf t :: st) V κ := by
  subst hj hx
  exact g_zald n' hd hk hN hi hn kk
theorem r_iald30 (n' j : Nat) (x : Int) {t N : Nat} {i : Int} (hd : decode mt.2.1 pc = .ok (.iaload, 1)) (hk : kd X t = (30, N)) (hN : N < 2147483648) (hi : 0 ≤ i ∧ i < N) (hj : i.toNat = j) (hn : pc + 1 = n') (hx : κ t j = x) (kk : inR x → G X mt d P V0 bc bs n' L (Iv x :: st) V κ) : G X mt d P V0 bc bs pc L (Iv i :: Rf t :: st) V κ := by
  subst hj hx
  exact g_iald30 n' hd hk hN hi hn kk
theorem r_iast (n' j : Nat) {t N : Nat} {i x : Int} (hd : decode mt.2.1 pc = .ok (.iastore, 1)) (hk : kd X t = (20, N)) (hN : N < 2147483648) (hl : ∀ j, X.2.2.2.2.2.2 t j = 0) (hi : 0 ≤ i ∧ i < N) (hj : i.toNat = j) (hx : inR x) (hn : pc + 1 = n') (kk : G X mt d P V0 bc bs n' L st V (st2 κ t j x)) : G X mt d P V0 bc bs pc L (Iv x :: Iv i :: Rf t :: st) V κ := by
  subst hj
  exact g_iast n' hd hk hN hl hi hx hn kk
theorem r_zast (n' j : Nat) {t N : Nat} {i x : Int} (hd : decode mt.2.1 pc = .ok (.bastore, 1)) (hk : kd X t = (21, N)) (hN : N < 2147483648) (hl : ∀ j, X.2.2.2.2.2.2 t j = 0) (hi : 0 ≤ i ∧ i < N) (hj : i.toNat = j) (hx : x = 0 ∨ x = 1) (hn : pc + 1 = n') (kk : G X mt d P V0 bc bs n' L st V (st2 κ t j x)) : G X mt d P V0 bc bs pc L (Iv x :: Iv i :: Rf t :: st) V κ := by
  subst hj
  exact g_zast n' hd hk hN hl hi hx hn kk
theorem G.top {x y : Int} (h : Int32.ofInt x = Int32.ofInt y) (k : G X mt d P V0 bc bs pc L (Iv y :: st) V κ) : G X mt d P V0 bc bs pc L (Iv x :: st) V κ := fun p e R s m args below meth c mc ms ρ0 C H locs cells slots ls ρ hh => by
  have h1 := k p e R s m args below meth c mc ms ρ0 C H locs cells slots ls ρ (hh.stk ⟨trivial, hh.2.2.1.2⟩)
  have e2 : (Iv x :: st).map (cv ρ) = (Iv y :: st).map (cv ρ) := by
    rw [List.map_cons, List.map_cons]
    congr 1
    show Value.int (Int32.ofInt x) = Value.int (Int32.ofInt y)
    rw [h]
  rw [e2]
  exact h1
theorem G.eqi {x y : Int} (h : x = y) (k : G X mt d P V0 bc bs pc L (Iv y :: st) V κ) : G X mt d P V0 bc bs pc L (Iv x :: st) V κ := by
  subst h
  exact k
/-- a store of what may wrap -/
theorem r_iastw (n' j : Nat) {t N : Nat} {i x : Int} (hd : decode mt.2.1 pc = .ok (.iastore, 1)) (hk : kd X t = (20, N)) (hN : N < 2147483648) (hl : ∀ j, X.2.2.2.2.2.2 t j = 0) (hi : 0 ≤ i ∧ i < N) (hj : i.toNat = j) (hn : pc + 1 = n') (kk : G X mt d P V0 bc bs n' L st V (st2 κ t j (bm x))) : G X mt d P V0 bc bs pc L (Iv x :: Iv i :: Rf t :: st) V κ := G.top (ofI_bm x).symm (r_iast n' j hd hk hN hl hi hj (bm_R x) hn kk)
theorem r_putIw (n' : Nat) {t ci N idx k : Nat} {fin : Bool} {x : Int} (hd : decode mt.2.1 pc = .ok (.putfield idx, 3)) (hf : FPt mt.1.cls idx ci k N .int fin) (hfin : fin = true → mt.1.name = "<init>") (hk : kd X t = (ci, N)) (hl : X.2.2.2.2.2.2 t k = 0) (hn : pc + 3 = n') (kk : G X mt d P V0 bc bs n' L st V (st2 κ t k (bm x))) : G X mt d P V0 bc bs pc L (Iv x :: Rf t :: st) V κ := G.top (ofI_bm x).symm (g_putI n' hd hf hfin hk hl (bm_R x) hn kk)
theorem r_ifnull_s (n' : Nat) {t : Nat} {off : Int} (tg : Nat) (hd : decode mt.2.1 pc = .ok (.ifnull off, 3)) (ht : (pc : Int) + off = (tg : Int)) (hn : pc + 3 = n') (k : G X mt d P V0 bc bs n' L st V κ) : G X mt d P V0 bc bs pc L (Rf t :: st) V κ := g_ifnull tg n' hd ht hn (fun z => by cases z) (fun _ => k)
theorem r_ifnull_n (tg : Nat) {off : Int} (hd : decode mt.2.1 pc = .ok (.ifnull off, 3)) (ht : (pc : Int) + off = (tg : Int)) (k : G X mt d P V0 bc bs tg L st V κ) : G X mt d P V0 bc bs pc L (Nl :: st) V κ := g_ifnull tg (pc + 3) hd ht rfl (fun _ => k) (fun z => absurd rfl z)
theorem r_ifnonnull_s (tg : Nat) {t : Nat} {off : Int} (hd : decode mt.2.1 pc = .ok (.ifnonnull off, 3)) (ht : (pc : Int) + off = (tg : Int)) (k : G X mt d P V0 bc bs tg L st V κ) : G X mt d P V0 bc bs pc L (Rf t :: st) V κ := g_ifnonnull tg (pc + 3) hd ht rfl (fun _ => k) (fun z => by cases z)
theorem r_ifnonnull_n (n' tg : Nat) {off : Int} (hd : decode mt.2.1 pc = .ok (.ifnonnull off, 3)) (ht : (pc : Int) + off = (tg : Int)) (hn : pc + 3 = n') (k : G X mt d P V0 bc bs n' L st V κ) : G X mt d P V0 bc bs pc L (Nl :: st) V κ := g_ifnonnull tg n' hd ht hn (fun z => absurd rfl z) (fun _ => k)
end G10
