/-! PURE: what an hour's steps keep -/
def HL (κ : Ks) : Prop := 0 ≤ κ 40 48 ∧ κ 40 48 ≤ 5000
/-- the same but for counters and scratch of the reference -/
def sm (κ κ' : Ks) : Prop := (κ' 40 0 = κ 40 0 ∧ κ' 40 1 = κ 40 1 ∧ κ' 40 2 = κ 40 2 ∧ κ' 40 3 = κ 40 3 ∧ κ' 40 11 = κ 40 11 ∧ κ' 40 20 = κ 40 20 ∧ κ' 40 31 = κ 40 31 ∧ κ' 40 37 = κ 40 37 ∧ κ' 40 41 = κ 40 41) ∧ ∀ t, t < 88 → t ≠ 40 → t ≠ 59 → t ≠ 68 → t ≠ 69 → κ' t = κ t
theorem sm.rf (κ : Ks) : sm κ κ := ⟨⟨rfl, rfl, rfl, rfl, rfl, rfl, rfl, rfl, rfl⟩, fun _ _ _ _ _ _ => rfl⟩
theorem sm.tr {a b c : Ks} (h1 : sm a b) (h2 : sm b c) : sm a c := by
  obtain ⟨⟨a0, a1, a2, a3, a4, a5, a6, a7, a8⟩, a9⟩ := h1
  obtain ⟨⟨b0, b1, b2, b3, b4, b5, b6, b7, b8⟩, b9⟩ := h2
  exact ⟨⟨b0.trans a0, b1.trans a1, b2.trans a2, b3.trans a3, b4.trans a4, b5.trans a5, b6.trans a6, b7.trans a7, b8.trans a8⟩, fun t h0 h1 h2 h3 h4 => (b9 t h0 h1 h2 h3 h4).trans (a9 t h0 h1 h2 h3 h4)⟩
theorem sm.s40 (κ : Ks) {j : Nat} {v : Int} (h : 4 ≤ j ∧ j ≠ 11 ∧ j ≠ 20 ∧ j ≠ 31 ∧ j ≠ 37 ∧ j ≠ 41) : sm κ (st2 κ 40 j v) :=
  ⟨⟨rd_j (by omega) rfl, rd_j (by omega) rfl, rd_j (by omega) rfl, rd_j (by omega) rfl, rd_j (by omega) rfl, rd_j (by omega) rfl, rd_j (by omega) rfl, rd_j (by omega) rfl, rd_j (by omega) rfl⟩, fun t _ h1 _ _ _ => st2_t h1⟩
theorem sm.sT (κ : Ks) {t j : Nat} {v : Int} (h : t = 59 ∨ t = 68 ∨ t = 69) : sm κ (st2 κ t j v) :=
  ⟨⟨rd_t (by omega) rfl, rd_t (by omega) rfl, rd_t (by omega) rfl, rd_t (by omega) rfl, rd_t (by omega) rfl, rd_t (by omega) rfl, rd_t (by omega) rfl, rd_t (by omega) rfl, rd_t (by omega) rfl⟩, fun t' h0 h1 h2 h3 h4 => st2_t (by omega)⟩
/-- what sm leaves open, and what MI asks of it -/
def MIv (κ : Ks) : Prop := (0 ≤ κ 40 4 ∧ κ 40 4 ≤ 100000) ∧ (∀ s : Nat, (s : Int) < κ 40 11 → (0 ≤ κ 59 s ∧ κ 59 s ≤ κ 58 s) ∧ (κ 57 s ≠ 2 → κ 59 s = 0)) ∧ (∀ h : Nat, (h : Int) < κ 40 20 → 0 ≤ κ 68 h ∧ κ 68 h ≤ κ 63 h) ∧ (∀ s : Nat, κ 40 11 ≤ s → s < 10 → κ 59 s = 0) ∧ ∀ h : Nat, κ 40 20 ≤ h → h < 24 → κ 68 h = 0 ∧ κ 69 h = 0
theorem MI.v {κ : Ks} (h : MI κ) : MIv κ := by
  obtain ⟨⟨i0, i1, i2, i3, i4, i5, i6, i7, i8, i9⟩, iS, iH, iR, iT, iC, iG, iL, iZ⟩ := h
  exact ⟨i4, fun s hs => ⟨(iS s hs).2.2.2.2.2.2.1, (iS s hs).2.2.2.2.2.2.2.2⟩, fun h hh => (iH h hh).2.2.2.2.2.2, fun s h1 h2 => (iZ.1 s h1 h2).2.2.1, iZ.2⟩
theorem MI.sm {κ κ' : Ks} (h : MI κ) (hs : sm κ κ') (hv : MIv κ') : MI κ' := by
  obtain ⟨⟨i0, i1, i2, i3, i4, i5, i6, i7, i8, i9⟩, iS, iH, iR, iT, iC, iG, iL, iZ⟩ := h
  obtain ⟨⟨e0, e1, e2, e3, e11, e20, e31, e37, e41⟩, et⟩ := hs
  obtain ⟨v0, v1, v2, v3, v4⟩ := hv
  have t53 := et 53 (by decide) (by decide) (by decide) (by decide) (by decide)
  have t54 := et 54 (by decide) (by decide) (by decide) (by decide) (by decide)
  have t55 := et 55 (by decide) (by decide) (by decide) (by decide) (by decide)
  have t56 := et 56 (by decide) (by decide) (by decide) (by decide) (by decide)
  have t57 := et 57 (by decide) (by decide) (by decide) (by decide) (by decide)
  have t58 := et 58 (by decide) (by decide) (by decide) (by decide) (by decide)
  have t60 := et 60 (by decide) (by decide) (by decide) (by decide) (by decide)
  have t62 := et 62 (by decide) (by decide) (by decide) (by decide) (by decide)
  have t63 := et 63 (by decide) (by decide) (by decide) (by decide) (by decide)
  have t64 := et 64 (by decide) (by decide) (by decide) (by decide) (by decide)
  have t65 := et 65 (by decide) (by decide) (by decide) (by decide) (by decide)
  have t66 := et 66 (by decide) (by decide) (by decide) (by decide) (by decide)
  have t67 := et 67 (by decide) (by decide) (by decide) (by decide) (by decide)
  have t70 := et 70 (by decide) (by decide) (by decide) (by decide) (by decide)
  have t71 := et 71 (by decide) (by decide) (by decide) (by decide) (by decide)
  have t73 := et 73 (by decide) (by decide) (by decide) (by decide) (by decide)
  have t74 := et 74 (by decide) (by decide) (by decide) (by decide) (by decide)
  have t75 := et 75 (by decide) (by decide) (by decide) (by decide) (by decide)
  have t76 := et 76 (by decide) (by decide) (by decide) (by decide) (by decide)
  have t77 := et 77 (by decide) (by decide) (by decide) (by decide) (by decide)
  have t79 := et 79 (by decide) (by decide) (by decide) (by decide) (by decide)
  have t80 := et 80 (by decide) (by decide) (by decide) (by decide) (by decide)
  have t81 := et 81 (by decide) (by decide) (by decide) (by decide) (by decide)
  have t83 := et 83 (by decide) (by decide) (by decide) (by decide) (by decide)
  have t84 := et 84 (by decide) (by decide) (by decide) (by decide) (by decide)
  have t85 := et 85 (by decide) (by decide) (by decide) (by decide) (by decide)
  have t86 := et 86 (by decide) (by decide) (by decide) (by decide) (by decide)
  refine ⟨⟨by omega, by omega, by omega, by omega, v0, by omega, by omega, by omega, by omega, by omega⟩, fun s hs => ?_, fun k hk => ?_, fun r hr => ?_, fun t ht => ?_, fun c hc => ?_, fun k hk => ?_, fun k hk => ?_, ⟨fun s h1 h2 => ?_, v4⟩⟩
  · have q := iS s (by omega)
    have q2 := v1 s hs
    rw [t53, t54, t55, t56, t57, t58, t60, e0]
    rw [t57, t58] at q2
    exact ⟨q.1, q.2.1, q.2.2.1, q.2.2.2.1, q.2.2.2.2.1, q.2.2.2.2.2.1, q2.1, q.2.2.2.2.2.2.2.1, q2.2⟩
  · have q := iH k (by omega)
    have q2 := v2 k hk
    rw [t62, t63, t64, t65, t66, t67, e11]
    rw [t63] at q2
    exact ⟨q.1, q.2.1, q.2.2.1, q.2.2.2.1, q.2.2.2.2.1, q.2.2.2.2.2.1, q2⟩
  · rw [t70, t71]
    exact iR r hr
  · rw [t73, t74, t75, t76, e11]
    exact iT t (by omega)
  · rw [t77, e11]
    exact iC c hc
  · rw [t79, t80, t81, e11]
    exact iG k (by omega)
  · rw [t83, t84, t85, t86]
    exact iL k (by omega)
  · have q := iZ.1 s (by omega) h2
    rw [t56, t57, t60]
    exact ⟨q.1, q.2.1, v3 s h1 h2, q.2.2.2⟩
theorem MIv.s40 {κ : Ks} {j : Nat} {v : Int} (h : MIv κ) (hj : 5 ≤ j ∧ j ≠ 11 ∧ j ≠ 20 ∧ j ≠ 31 ∧ j ≠ 37 ∧ j ≠ 41) : MIv (st2 κ 40 j v) := by
  have e4 : st2 κ 40 j v 40 4 = κ 40 4 := rd_j (by omega) rfl
  have e11 : st2 κ 40 j v 40 11 = κ 40 11 := rd_j (by omega) rfl
  have e20 : st2 κ 40 j v 40 20 = κ 40 20 := rd_j (by omega) rfl
  have e57 : st2 κ 40 j v 57 = κ 57 := st2_t (by decide)
  have e58 : st2 κ 40 j v 58 = κ 58 := st2_t (by decide)
  have e59 : st2 κ 40 j v 59 = κ 59 := st2_t (by decide)
  have e63 : st2 κ 40 j v 63 = κ 63 := st2_t (by decide)
  have e68 : st2 κ 40 j v 68 = κ 68 := st2_t (by decide)
  have e69 : st2 κ 40 j v 69 = κ 69 := st2_t (by decide)
  unfold MIv
  rw [e4, e11, e20, e57, e58, e59, e63, e68, e69]
  exact h
theorem MI.s40 {κ : Ks} {j : Nat} {v : Int} (h : MI κ) (hj : 5 ≤ j ∧ j ≠ 11 ∧ j ≠ 20 ∧ j ≠ 31 ∧ j ≠ 37 ∧ j ≠ 41) : MI (st2 κ 40 j v) := h.sm (sm.s40 κ (by omega)) (h.v.s40 hj)
theorem MI.coal {κ : Ks} {v : Int} (h : MI κ) (hv : 0 ≤ v ∧ v ≤ 100000) : MI (st2 κ 40 4 v) := by
  refine h.sm (sm.s40 κ (by decide)) ?_
  have h0 := h.v
  have e4 : st2 κ 40 4 v 40 4 = v := rd_s rfl rfl rfl
  have e11 : st2 κ 40 4 v 40 11 = κ 40 11 := rd_j (by decide) rfl
  have e20 : st2 κ 40 4 v 40 20 = κ 40 20 := rd_j (by decide) rfl
  have e57 : st2 κ 40 4 v 57 = κ 57 := st2_t (by decide)
  have e58 : st2 κ 40 4 v 58 = κ 58 := st2_t (by decide)
  have e59 : st2 κ 40 4 v 59 = κ 59 := st2_t (by decide)
  have e63 : st2 κ 40 4 v 63 = κ 63 := st2_t (by decide)
  have e68 : st2 κ 40 4 v 68 = κ 68 := st2_t (by decide)
  have e69 : st2 κ 40 4 v 69 = κ 69 := st2_t (by decide)
  unfold MIv
  rw [e4, e11, e20, e57, e58, e59, e63, e68, e69]
  exact ⟨hv, h0.2⟩
theorem MI.tun {κ : Ks} {s : Nat} {v : Int} (h : MI κ) (hs : (s : Int) < κ 40 11) (hv : 0 ≤ v ∧ v ≤ κ 58 s) (h2 : κ 57 s ≠ 2 → v = 0) : MI (st2 κ 59 s v) := by
  refine h.sm (sm.sT κ (by decide)) ?_
  obtain ⟨v0, v1, v2, v3, v4⟩ := h.v
  have e4 : st2 κ 59 s v 40 = κ 40 := st2_t (by decide)
  have e57 : st2 κ 59 s v 57 = κ 57 := st2_t (by decide)
  have e58 : st2 κ 59 s v 58 = κ 58 := st2_t (by decide)
  have e63 : st2 κ 59 s v 63 = κ 63 := st2_t (by decide)
  have e68 : st2 κ 59 s v 68 = κ 68 := st2_t (by decide)
  have e69 : st2 κ 59 s v 69 = κ 69 := st2_t (by decide)
  unfold MIv
  rw [e4, e57, e58, e63, e68, e69]
  refine ⟨v0, fun k hk => ?_, v2, fun k h1 h3 => ?_, v4⟩
  · by_cases hks : k = s
    · subst hks
      rw [st2_s]
      exact ⟨hv, h2⟩
    · rw [st2_j hks]
      exact v1 k hk
  · rw [st2_j (by omega)]
    exact v3 k h1 h3
theorem MI.wat {κ : Ks} {k : Nat} {v : Int} (h : MI κ) (hs : (k : Int) < κ 40 20) (hv : 0 ≤ v ∧ v ≤ κ 63 k) : MI (st2 κ 68 k v) := by
  refine h.sm (sm.sT κ (by decide)) ?_
  obtain ⟨v0, v1, v2, v3, v4⟩ := h.v
  have e4 : st2 κ 68 k v 40 = κ 40 := st2_t (by decide)
  have e57 : st2 κ 68 k v 57 = κ 57 := st2_t (by decide)
  have e58 : st2 κ 68 k v 58 = κ 58 := st2_t (by decide)
  have e63 : st2 κ 68 k v 63 = κ 63 := st2_t (by decide)
  have e59 : st2 κ 68 k v 59 = κ 59 := st2_t (by decide)
  have e69 : st2 κ 68 k v 69 = κ 69 := st2_t (by decide)
  unfold MIv
  rw [e4, e57, e58, e63, e59, e69]
  refine ⟨v0, v1, fun j hj => ?_, v3, fun j h1 h3 => ?_⟩
  · by_cases hks : j = k
    · subst hks
      rw [st2_s]
      exact hv
    · rw [st2_j hks]
      exact v2 j hj
  · rw [st2_j (by omega)]
    exact v4 j h1 h3
theorem MI.dry {κ : Ks} {k : Nat} {v : Int} (h : MI κ) (hs : (k : Int) < κ 40 20) : MI (st2 κ 69 k v) := by
  refine h.sm (sm.sT κ (by decide)) ?_
  obtain ⟨v0, v1, v2, v3, v4⟩ := h.v
  have e4 : st2 κ 69 k v 40 = κ 40 := st2_t (by decide)
  have e57 : st2 κ 69 k v 57 = κ 57 := st2_t (by decide)
  have e58 : st2 κ 69 k v 58 = κ 58 := st2_t (by decide)
  have e63 : st2 κ 69 k v 63 = κ 63 := st2_t (by decide)
  have e59 : st2 κ 69 k v 59 = κ 59 := st2_t (by decide)
  have e68 : st2 κ 69 k v 68 = κ 68 := st2_t (by decide)
  unfold MIv
  rw [e4, e57, e58, e63, e59, e68]
  refine ⟨v0, v1, v2, v3, fun j h1 h3 => ?_⟩
  rw [st2_j (by omega)]
  exact v4 j h1 h3
-- steps
theorem HL.tk {κ : Ks} {n : Int} (h : HL κ) (hn : 0 ≤ n) : HL (tkM κ n) := by
  have e : tkM κ n 40 48 = κ 40 48 - min n (κ 40 48) := rd_s rfl rfl rfl
  obtain ⟨h1, h2⟩ := h
  exact ⟨by rw [e]; omega, by rw [e]; omega⟩
theorem HL.of {κ κ' : Ks} (h : HL κ) (e : κ' 40 48 = κ 40 48) : HL κ' := ⟨by rw [e]; exact h.1, by rw [e]; exact h.2⟩
theorem MI.tk {κ : Ks} {n : Int} (h : MI κ) : MI (tkM κ n) := h.s40 (by decide)
theorem sm.tk (κ : Ks) (n : Int) : sm κ (tkM κ n) := sm.s40 κ (by decide)
theorem fill_ok {κ : Ks} (h : MI κ) (hl : HL κ) {k : Nat} (hk : (k : Int) < κ 40 20) : MI (fillM κ k) ∧ HL (fillM κ k) ∧ sm κ (fillM κ k) := by
  have q := h.2.2.1 k hk
  obtain ⟨l1, l2⟩ := id hl
  have e63 : ∀ n, tkM κ n 63 = κ 63 := fun n => st2_t (by decide)
  have e20 : ∀ n, tkM κ n 40 20 = κ 40 20 := fun n => rd_j (by decide) rfl
  unfold fillM
  split
  · refine ⟨h.tk.wat (by rw [e20]; exact hk) (by rw [e63]; omega), (hl.tk (by omega)).of (rd_t (by decide) rfl), (sm.tk κ _).tr (sm.sT _ (by decide))⟩
  · split
    · have e1 : st2 (st2 (tkM κ 30) 68 k (κ 68 k + min 30 (κ 40 48))) 40 7 (bm (κ 40 7 + (κ 68 k + min 30 (κ 40 48) - κ 63 k))) = st2 (st2 (tkM κ 30) 40 7 (bm (κ 40 7 + (κ 68 k + min 30 (κ 40 48) - κ 63 k)))) 68 k (κ 68 k + min 30 (κ 40 48)) := by
        funext a b
        unfold st2 rowset
        by_cases ha : a = 40
        · subst ha
          simp
        · by_cases hb : a = 68
          · subst hb
            simp
          · simp [ha, hb]
      have e2 : ∀ (κ : Ks) (a b : Int), st2 (st2 κ 68 k a) 68 k b = st2 κ 68 k b := fun κ a b => by
        funext x y
        unfold st2 rowset up1
        by_cases hx : x = 68
        · subst hx
          by_cases hy : y = k <;> simp [hy]
        · simp [hx]
      rw [e1, e2]
      refine ⟨(h.tk.s40 (by decide)).wat ?_ ?_, ((hl.tk (n := 30) (by omega)).of ?_), ((sm.tk κ _).tr (sm.s40 _ (by decide))).tr (sm.sT _ (by decide))⟩
      · rw [show st2 (tkM κ 30) 40 7 (bm (κ 40 7 + (κ 68 k + min 30 (κ 40 48) - κ 63 k))) 40 20 = κ 40 20 from rd_j (by decide) (e20 30)]
        exact hk
      · rw [show st2 (tkM κ 30) 40 7 (bm (κ 40 7 + (κ 68 k + min 30 (κ 40 48) - κ 63 k))) 63 k = κ 63 k from rd_t (by decide) (congrFun (e63 30) k)]
        omega
      · exact rd_t (by decide) (rd_j (by decide) rfl)
    · refine ⟨h.tk.wat (by rw [e20]; exact hk) (by rw [e63]; omega), (hl.tk (by omega)).of (rd_t (by decide) rfl), (sm.tk κ _).tr (sm.sT _ (by decide))⟩
theorem fold_ok : ∀ (l : List Nat) {κ : Ks}, MI κ → HL κ → (∀ k ∈ l, (k : Int) < κ 40 20) → MI (l.foldl fillM κ) ∧ HL (l.foldl fillM κ) ∧ sm κ (l.foldl fillM κ)
  | [], κ, h, hl, _ => ⟨h, hl, sm.rf κ⟩
  | k :: l, κ, h, hl, hk => by
    obtain ⟨a, b, c⟩ := fill_ok h hl (hk k List.mem_cons_self)
    obtain ⟨d, e, f⟩ := fold_ok l a b (fun j hj => by rw [c.1.2.2.2.2.2.1]; exact hk j (List.mem_cons_of_mem _ hj))
    exact ⟨d, e, c.tr f⟩
theorem plug_ok {κ : Ks} (h : MI κ) (hl : HL κ) (s : Nat) : MI (plugM κ s) ∧ HL (plugM κ s) ∧ sm κ (plugM κ s) := by
  unfold plugM
  split
  · exact ⟨h.tk.s40 (by decide), (hl.tk (by omega)).of (rd_j (by decide) rfl), (sm.tk κ _).tr (sm.s40 _ (by decide))⟩
  · exact ⟨h, hl, sm.rf κ⟩
theorem tun_ok {κ : Ks} (h : MI κ) (hl : HL κ) {s : Nat} (hs : (s : Int) < κ 40 11) : MI (tunM κ s) ∧ HL (tunM κ s) ∧ sm κ (tunM κ s) := by
  have q := h.2.1 s hs
  obtain ⟨l1, l2⟩ := id hl
  unfold tunM
  split
  · rename_i h2
    have e11 : ∀ n, tkM κ n 40 11 = κ 40 11 := fun n => rd_j (by decide) rfl
    have e58 : ∀ n, tkM κ n 58 = κ 58 := fun n => st2_t (by decide)
    have e57 : ∀ n, tkM κ n 57 = κ 57 := fun n => st2_t (by decide)
    refine ⟨(h.tk.tun (by rw [e11]; exact hs) (by rw [e58]; omega) (by rw [e57]; exact fun z => absurd h2 z)).s40 (by decide), (hl.tk (by omega)).of (rd_j (by decide) (rd_t (by decide) rfl)), ((sm.tk κ _).tr (sm.sT _ (by decide))).tr (sm.s40 _ (by decide))⟩
  · exact ⟨h, hl, sm.rf κ⟩
theorem hsf_lt {κ : Ks} {s f : Int} {n k : Nat} (h : k ∈ hsf κ s f n) : k < n := List.mem_range.mp (List.mem_filter.mp h).1
theorem hl_lt {κ : Ks} (h6 : 0 ≤ κ 40 20) {s : Int} {k : Nat} : ∀ {f : Nat}, k ∈ hl κ s f → (k : Int) < κ 40 20
  | 0, h => by cases h
  | f + 1, h => by
    rcases List.mem_append.mp h with q | q
    · exact hl_lt h6 q
    · have := hsf_lt q
      omega
theorem hsf_sm {κ κ' : Ks} (h : sm κ κ') (s f : Int) (n : Nat) : hsf κ' s f n = hsf κ s f n := by
  unfold hsf
  rw [h.2 62 (by decide) (by decide) (by decide) (by decide) (by decide), h.2 64 (by decide) (by decide) (by decide) (by decide) (by decide)]
theorem hl_sm {κ κ' : Ks} (h : sm κ κ') (s : Int) : ∀ f, hl κ' s f = hl κ s f
  | 0 => rfl
  | f + 1 => by
    unfold hl
    rw [hl_sm h s f, hsf_sm h, h.1.2.2.2.2.2.1]
theorem serve_ok {κ : Ks} (h : MI κ) (hl' : HL κ) {s : Nat} (hs : (s : Int) < κ 40 11) : MI (serveM κ s) ∧ HL (serveM κ s) ∧ sm κ (serveM κ s) := by
  obtain ⟨a, b, c⟩ := plug_ok h hl' s
  obtain ⟨d, e, f⟩ := tun_ok a b (s := s) (by rw [c.1.2.2.2.2.1]; exact hs)
  have g := c.tr f
  obtain ⟨p, q, r⟩ := fold_ok (hl κ s 10) d e (fun k hk => by rw [g.1.2.2.2.2.2.1]; exact hl_lt h.1.2.2.2.2.2.2.1.1 hk)
  exact ⟨p, q, g.tr r⟩
theorem drip_R {κ : Ks} (h : MI κ) {s : Nat} (hs : (s : Int) < κ 40 11) : 0 ≤ dripM κ s ∧ dripM κ s ≤ 40 := by
  have q := h.2.1 s hs
  have i0 := h.1.1
  unfold dripM
  split
  · omega
  · have p1 : 0 ≤ κ 54 s * (1 + (κ 40 0 / 168 - κ 55 s) / 4) := Int.mul_nonneg (by omega) (by omega)
    have p2 : κ 54 s * (1 + (κ 40 0 / 168 - κ 55 s) / 4) ≤ 50 * 8 := Int.mul_le_mul (by omega) (by omega) (by omega) (by omega)
    omega
theorem letB_sm {κ κ' : Ks} (h : sm κ κ') (s x : Int) : LetB κ' s x = LetB κ s x := by
  have e1 := h.2 73 (by decide) (by decide) (by decide) (by decide) (by decide)
  have e2 := h.2 75 (by decide) (by decide) (by decide) (by decide) (by decide)
  have e3 := h.2 76 (by decide) (by decide) (by decide) (by decide) (by decide)
  have e4 := h.1.2.2.2.2.2.2.1
  simp only [LetB, LetC, e1, e2, e3, e4]
theorem opB_sm {κ κ' : Ks} (h : sm κ κ') (x : Int) : ∀ (f : Nat) (s : Int), opB κ' x f s = opB κ x f s
  | 0, _ => rfl
  | f + 1, s => by
    unfold opB
    rw [letB_sm h, h.2 53 (by decide) (by decide) (by decide) (by decide) (by decide), opB_sm h x f]
theorem openB_sm {κ κ' : Ks} (h : sm κ κ') (s x : Int) : openB κ' s x = openB κ s x := opB_sm h x _ s
theorem leakS_ok {κ : Ks} (h : MI κ) (hl : HL κ) (x : Int) {s : Nat} (hs : (s : Int) < κ 40 11) : MI (leakS κ x s) ∧ HL (leakS κ x s) ∧ sm κ (leakS κ x s) := by
  have q := drip_R h hs
  unfold leakS
  split
  · exact ⟨h.tk.s40 (by decide), (hl.tk q.1).of (rd_j (by decide) rfl), (sm.tk κ _).tr (sm.s40 _ (by decide))⟩
  · exact ⟨h.s40 (by decide), hl.of (rd_j (by decide) rfl), sm.s40 _ (by decide)⟩
theorem leakM_ok {κ : Ks} (h : MI κ) (hl : HL κ) (x : Int) : ∀ s : Nat, (s : Int) ≤ κ 40 11 → MI (leakM κ x s) ∧ HL (leakM κ x s) ∧ sm κ (leakM κ x s)
  | 0, _ => ⟨h, hl, sm.rf κ⟩
  | s + 1, hs => by
    obtain ⟨a, b, c⟩ := leakM_ok h hl x s (by omega)
    obtain ⟨d, e, f⟩ := leakS_ok a b x (s := s) (by rw [c.1.2.2.2.2.1]; omega)
    exact ⟨d, e, c.tr f⟩
theorem srvM_ok {κ : Ks} (h : MI κ) (hl : HL κ) (x : Int) : ∀ s : Nat, (s : Int) ≤ κ 40 11 → MI (srvM κ x s) ∧ HL (srvM κ x s) ∧ sm κ (srvM κ x s)
  | 0, _ => ⟨h, hl, sm.rf κ⟩
  | s + 1, hs => by
    obtain ⟨a, b, c⟩ := srvM_ok h hl x s (by omega)
    unfold srvM
    split
    · obtain ⟨d, e, f⟩ := serve_ok a b (s := s) (by rw [c.1.2.2.2.2.1]; omega)
      exact ⟨d, e, c.tr f⟩
    · exact ⟨a, b, c⟩
theorem use_R {κ : Ks} (h : MI κ) {k : Nat} (hk : (k : Int) < κ 40 20) : 0 ≤ useM κ k ∧ useM κ k ≤ 20 := by
  have q := h.2.2.1 k hk
  unfold useM
  split
  · rename_i c
    have r := h.2.2.2.1 (κ 67 k).toNat (by omega)
    have q1 := Int.emod_nonneg (κ 40 0 % 24) (show κ 70 (κ 67 k).toNat ≠ 0 by omega)
    have q2 := Int.emod_lt_of_pos (κ 40 0 % 24) (show 0 < κ 70 (κ 67 k).toNat by omega)
    have r2 := r.2 (κ 40 0 % 24 % κ 70 (κ 67 k).toNat).toNat (by omega)
    rw [show (24 * κ 67 k + κ 40 0 % 24 % κ 70 (κ 67 k).toNat).toNat = 24 * (κ 67 k).toNat + (κ 40 0 % 24 % κ 70 (κ 67 k).toNat).toNat by omega]
    exact r2
  · omega
theorem drnkS_ok {κ : Ks} (h : MI κ) {k : Nat} (hk : (k : Int) < κ 40 20) : MI (drnkS κ k) ∧ sm κ (drnkS κ k) := by
  have u := use_R h hk
  have q := h.2.2.1 k hk
  have e20 : ∀ v, st2 κ 69 k v 40 20 = κ 40 20 := fun v => rd_t (by decide) rfl
  have e63 : ∀ v, st2 κ 69 k v 63 k = κ 63 k := fun v => rd_t (by decide) rfl
  unfold drnkS
  refine ⟨(h.dry hk).wat (by rw [e20]; exact hk) (by rw [e63]; split <;> omega), (sm.sT κ (by decide)).tr (sm.sT _ (by decide))⟩
theorem drnkM_ok {κ : Ks} (h : MI κ) : ∀ k : Nat, (k : Int) ≤ κ 40 20 → MI (drnkM κ k) ∧ sm κ (drnkM κ k)
  | 0, _ => ⟨h, sm.rf κ⟩
  | k + 1, hk => by
    obtain ⟨a, c⟩ := drnkM_ok h k (by omega)
    obtain ⟨d, f⟩ := drnkS_ok a (k := k) (by rw [c.1.2.2.2.2.2.1]; omega)
    exact ⟨d, c.tr f⟩
theorem pump_ok {κ : Ks} (h : MI κ) (o : Bool) : MI (pumpM κ o) ∧ HL (pumpM κ o) ∧ sm κ (pumpM κ o) := by
  have i1 := h.1.2.1
  have i2 := h.1.2.2.1
  have i4 := h.1.2.2.2.2.1
  unfold pumpM
  split
  · rename_i c
    have e1 : st2 (st2 (st2 (st2 κ 40 48 0) 40 4 (κ 40 4 - κ 40 2)) 40 48 (κ 40 1)) 40 9 (bm (κ 40 9 + 1)) 40 48 = κ 40 1 := rd_j (by decide) (rd_s rfl rfl rfl)
    refine ⟨(((h.s40 (by decide)).coal (by omega)).s40 (by decide)).s40 (by decide), ⟨by rw [e1]; omega, by rw [e1]; omega⟩, (((sm.s40 κ (by decide)).tr (sm.s40 _ (by decide))).tr (sm.s40 _ (by decide))).tr (sm.s40 _ (by decide))⟩
  · have e1 : st2 κ 40 48 0 40 48 = 0 := rd_s rfl rfl rfl
    exact ⟨h.s40 (by decide), ⟨by rw [e1]; omega, by rw [e1]; omega⟩, sm.s40 κ (by decide)⟩
theorem passA_ok {κ : Ks} (h : MI κ) : MI (passA κ) ∧ HL (passA κ) ∧ sm κ (passA κ) := pump_ok h _
theorem passB_ok {κ : Ks} (h : MI κ) : MI (passB κ) ∧ HL (passB κ) ∧ sm κ (passB κ) := by
  obtain ⟨a, b, c⟩ := passA_ok h
  have i5 := h.1.2.2.2.2.2.1
  obtain ⟨d, e, f⟩ := leakM_ok a b (κ 40 0 % 168) (κ 40 11).toNat (by rw [c.1.2.2.2.2.1]; omega)
  exact ⟨d, e, c.tr f⟩
theorem passC_ok {κ : Ks} (h : MI κ) : MI (passC κ) ∧ HL (passC κ) ∧ sm κ (passC κ) := by
  obtain ⟨a, b, c⟩ := passB_ok h
  have i5 := h.1.2.2.2.2.2.1
  obtain ⟨d, e, f⟩ := srvM_ok a b (κ 40 0 % 168) (κ 40 11).toNat (by rw [c.1.2.2.2.2.1]; omega)
  exact ⟨d, e, c.tr f⟩
theorem passD_ok {κ : Ks} (h : MI κ) : MI (passD κ) ∧ sm κ (passD κ) := by
  obtain ⟨a, b, c⟩ := passC_ok h
  have i6 := h.1.2.2.2.2.2.2.1
  obtain ⟨d, f⟩ := drnkM_ok (κ := st2 (passC κ) 40 8 (bm (passC κ 40 8 + passC κ 40 48))) (a.s40 (by decide)) (κ 40 20).toNat (by rw [(c.tr (sm.s40 (v := bm (passC κ 40 8 + passC κ 40 48)) _ (by decide))).1.2.2.2.2.2.1]; omega)
  exact ⟨d, (c.tr (sm.s40 _ (by decide))).tr f⟩
