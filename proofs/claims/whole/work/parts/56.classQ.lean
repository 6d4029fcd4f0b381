/-! the class: houses (printed by wip/whole/gen56.py) -/
theorem chn_ins {nx nx' : Nat → Int} {n b : Nat} : ∀ (pre : List Nat) {l : List Nat} {v : Int}, chn nx v (pre ++ b :: l) → (∀ h ∈ pre, nx' h = nx h) → nx' b = 200 + (n : Int) → nx' n = nx b → (∀ h ∈ l, nx' h = nx h) → chn nx' v (pre ++ b :: n :: l)
  | [], l, v, h, _, h2, h3, h4 => ⟨h.1, h2, by rw [h3]; exact chn_congr l h4 h.2⟩
  | k :: pre, l, v, h, h1, h2, h3, h4 => ⟨h.1, by rw [h1 k List.mem_cons_self]; exact chn_ins pre h.2 (fun a ha => h1 a (List.mem_cons_of_mem _ ha)) h2 h3 h4⟩
/-- what admitting a house does -/
def PAd (κ : Ks) (s n : Nat) (f : Int) (L : List Nat) (κ1 : Ks) : Prop := ∃ pre post, L = pre ++ post ∧ (∀ h ∈ pre, κ (200 + h) 2 ≤ f) ∧ (∀ h ∈ post.head?, f < κ (200 + h) 2) ∧ chn (fun h => κ1 (200 + h) 8) (κ1 (100 + s) 10) (pre ++ n :: post) ∧ (∀ t j : Nat, ¬ (t = 100 + s ∧ j = 10) → ¬ (200 ≤ t ∧ t < 300 ∧ j = 8) → κ1 t j = κ t j) ∧ ∀ h : Nat, h ∉ L → h ≠ n → κ1 (200 + h) 8 = κ (200 + h) 8
theorem PAd.fr3 {κ κ1 : Ks} {s n : Nat} {f : Int} {L : List Nat} (h : PAd κ s n f L κ1) {t j : Nat} (h1 : ¬ (t = 100 + s ∧ j = 10)) (h2 : ¬ (200 ≤ t ∧ t < 300 ∧ j = 8)) : κ1 t j = κ t j := by
  obtain ⟨_, _, _, _, _, _, h5, _⟩ := h
  exact h5 t j h1 h2
theorem PAd_mid {κ : Ks} {s n b : Nat} {f v : Int} {L pre l : List Nat} (lb : b < 90) (ln : n < 90) (hc : chn (fun h => κ (200 + h) 8) (κ (100 + s) 10) L) (hnd : L.Nodup) (hn : n ∉ L) (hL : L = pre ++ b :: l) (hle : ∀ h ∈ pre, κ (200 + h) 2 ≤ f) (hb : κ (200 + b) 2 ≤ f) (hp : ∀ h ∈ l.head?, f < κ (200 + h) 2) (hv : κ (200 + b) 8 = v) : PAd κ s n f L (st2 (st2 κ (200 + n) 8 v) (200 + b) 8 (cd (some (200 + n)))) := by
  subst hL
  have ebn : b ≠ n := fun e => hn (by rw [← e]; simp)
  have n1 : ∀ h ∈ pre, h ≠ n ∧ h ≠ b := fun h hh => ⟨fun e => hn (by rw [← e]; exact List.mem_append_left _ hh), fun e => by
    have := (List.nodup_append.mp hnd).2.2 h hh b List.mem_cons_self
    exact this e⟩
  have n2 : ∀ h ∈ l, h ≠ n ∧ h ≠ b := fun h hh => ⟨fun e => hn (by rw [← e]; exact List.mem_append_right _ (List.mem_cons_of_mem _ hh)), fun e => by
    have q := (List.nodup_cons.mp (List.nodup_append.mp hnd).2.1).1
    exact q (e ▸ hh)⟩
  refine ⟨pre ++ [b], l, by rw [List.append_assoc]; rfl, fun h hh => ?_, hp, ?_, fun t j h1 h2 => ?_, fun h h1 h2 => ?_⟩
  · rcases List.mem_append.mp hh with q | q
    · exact hle h q
    · rw [List.mem_singleton.mp q]
      exact hb
  · rw [List.append_assoc, rd_ne (by omega), rd_ne (by omega)]
    refine chn_ins (nx := fun h => κ (200 + h) 8) pre hc (fun h hh => ?_) ?_ ?_ (fun h hh => ?_)
    · have := n1 h hh
      show st2 (st2 κ (200 + n) 8 v) (200 + b) 8 (cd (some (200 + n))) (200 + h) 8 = κ (200 + h) 8
      rw [rd_ne (by omega), rd_ne (by omega)]
    · show st2 (st2 κ (200 + n) 8 v) (200 + b) 8 (cd (some (200 + n))) (200 + b) 8 = _
      rw [rd_eq rfl rfl]
      show ((200 + n : Nat) : Int) = _
      omega
    · show st2 (st2 κ (200 + n) 8 v) (200 + b) 8 (cd (some (200 + n))) (200 + n) 8 = κ (200 + b) 8
      rw [rd_ne (by omega), rd_eq rfl rfl, hv]
    · have := n2 h hh
      show st2 (st2 κ (200 + n) 8 v) (200 + b) 8 (cd (some (200 + n))) (200 + h) 8 = κ (200 + h) 8
      rw [rd_ne (by omega), rd_ne (by omega)]
  · rw [rd_ne (by omega), rd_ne (by omega)]
  · have : h ≠ b := fun e => h1 (by rw [e]; simp)
    rw [rd_ne (by omega), rd_ne (by omega)]
theorem PAd_front {κ : Ks} {s n : Nat} {f v : Int} {L : List Nat} (ln : n < 90) (hc : chn (fun h => κ (200 + h) 8) (κ (100 + s) 10) L) (hn : n ∉ L) (hp : ∀ h ∈ L.head?, f < κ (200 + h) 2) (hv : κ (100 + s) 10 = v) : PAd κ s n f L (st2 (st2 κ (200 + n) 8 v) (100 + s) 10 (cd (some (200 + n)))) := by
  refine ⟨[], L, rfl, fun h hh => (nomatch hh), hp, ⟨?_, ?_⟩, fun t j h1 h2 => ?_, fun h h1 h2 => ?_⟩
  · rw [rd_eq rfl rfl]
    show ((200 + n : Nat) : Int) = _
    omega
  · show chn _ (st2 (st2 κ (200 + n) 8 v) (100 + s) 10 (cd (some (200 + n))) (200 + n) 8) L
    rw [rd_ne (by omega), rd_eq rfl rfl, ← hv]
    refine chn_congr L (fun h hh => ?_) hc
    have : h ≠ n := fun e => hn (e ▸ hh)
    rw [rd_ne (by omega), rd_ne (by omega)]
  · rw [rd_ne (by omega), rd_ne (by omega)]
  · rw [rd_ne (by omega), rd_ne (by omega)]
-- lists of houses
theorem hsf_mem {κ : Ks} {s f : Int} {n k : Nat} : k ∈ hsf κ s f n ↔ k < n ∧ κ 62 k = s ∧ κ 64 k = f := by
  unfold hsf
  rw [List.mem_filter, List.mem_range, decide_eq_true_eq]
theorem hl_mem {κ : Ks} {s : Int} {k : Nat} : ∀ {f : Nat}, k ∈ hl κ s f → κ 62 k = s ∧ κ 64 k < f
  | 0, h => by cases h
  | f + 1, h => by
    rcases List.mem_append.mp h with q | q
    · have := hl_mem q
      exact ⟨this.1, by omega⟩
    · have := hsf_mem.mp q
      exact ⟨this.2.1, by omega⟩
theorem hl_nodup (κ : Ks) (s : Int) : ∀ f, (hl κ s f).Nodup
  | 0 => List.nodup_nil
  | f + 1 => by
    refine List.nodup_append.mpr ⟨hl_nodup κ s f, List.Pairwise.filter _ List.nodup_range, fun a ha b hb e => ?_⟩
    have h1 := hl_mem ha
    have h2 := hsf_mem.mp hb
    rw [e] at h1
    omega
theorem app_cut {g : Nat → Int} {f : Int} : ∀ (A pre : List Nat) {B post : List Nat}, A ++ B = pre ++ post → (∀ h ∈ A, g h ≤ f) → (∀ h ∈ B, f < g h) → (∀ h ∈ pre, g h ≤ f) → (∀ h ∈ post.head?, f < g h) → pre = A ∧ post = B
  | [], [], B, post, e, _, _, _, _ => ⟨rfl, e.symm⟩
  | [], p :: pre, B, post, e, _, h2, h3, _ => by
    have e : B = p :: (pre ++ post) := e
    have a := h2 p (by rw [e]; exact List.mem_cons_self)
    have b := h3 p List.mem_cons_self
    omega
  | a :: A, [], B, post, e, h1, _, _, h4 => by
    have e : a :: (A ++ B) = post := e
    have x := h1 a List.mem_cons_self
    have y := h4 a (by rw [← e]; rfl)
    omega
  | a :: A, p :: pre, B, post, e, h1, h2, h3, h4 => by
    have e : a :: (A ++ B) = p :: (pre ++ post) := e
    obtain ⟨rfl, e2⟩ := List.cons.inj e
    obtain ⟨q1, q2⟩ := app_cut A pre e2 (fun h hh => h1 h (List.mem_cons_of_mem _ hh)) h2 (fun h hh => h3 h (List.mem_cons_of_mem _ hh)) h4
    exact ⟨by rw [q1], q2⟩
section HL
variable {μ μ1 : Ks} {n : Nat} {S F : Int}
theorem hsf_add (w1 : ∀ j, μ1 62 j = if j = n then S else μ 62 j) (w2 : ∀ j, μ1 64 j = if j = n then F else μ 64 j) (s f : Int) : hsf μ1 s f (n + 1) = hsf μ s f n ++ (if S = s ∧ F = f then [n] else []) := by
  rw [hsf_s, w1 n, w2 n, if_pos rfl, if_pos rfl]
  congr 1
  unfold hsf
  refine List.filter_congr (fun k hk => ?_)
  have := List.mem_range.mp hk
  rw [w1, w2, if_neg (by omega), if_neg (by omega)]
theorem hl_no (hn : μ 40 20 = n) (mn : μ1 40 20 = (n : Int) + 1) (w1 : ∀ j, μ1 62 j = if j = n then S else μ 62 j) (w2 : ∀ j, μ1 64 j = if j = n then F else μ 64 j) {s : Int} : ∀ f : Nat, (S ≠ s ∨ f ≤ F) → hl μ1 s f = hl μ s f
  | 0, _ => rfl
  | f + 1, h => by
    have e1 : hl μ1 s (f + 1) = hl μ1 s f ++ hsf μ1 s f (μ1 40 20).toNat := rfl
    have e2 : hl μ s (f + 1) = hl μ s f ++ hsf μ s f (μ 40 20).toNat := rfl
    rw [e1, e2, hl_no hn mn w1 w2 f (h.imp id (by omega)), mn, hn, show ((n : Int) + 1).toNat = n + 1 by omega, hsf_add w1 w2, if_neg (by omega), List.append_nil]
    rfl
theorem hl_yes (hn : μ 40 20 = n) (mn : μ1 40 20 = (n : Int) + 1) (w1 : ∀ j, μ1 62 j = if j = n then S else μ 62 j) (w2 : ∀ j, μ1 64 j = if j = n then F else μ 64 j) (g : Nat) (hg : F = g) : ∀ d : Nat, ∃ m, hl μ S (g + 1 + d) = hl μ S (g + 1) ++ m ∧ hl μ1 S (g + 1 + d) = hl μ S (g + 1) ++ n :: m ∧ ∀ h ∈ m, F < μ 64 h
  | 0 => by
    refine ⟨[], (List.append_nil _).symm, ?_, fun h hh => (nomatch hh)⟩
    have e1 : hl μ1 S (g + 1) = hl μ1 S g ++ hsf μ1 S g (μ1 40 20).toNat := rfl
    have e2 : hl μ S (g + 1) = hl μ S g ++ hsf μ S g (μ 40 20).toNat := rfl
    show hl μ1 S (g + 1) = _
    rw [e1, e2, hl_no hn mn w1 w2 g (Or.inr (by omega)), mn, hn, show ((n : Int) + 1).toNat = n + 1 by omega, hsf_add w1 w2, if_pos ⟨rfl, hg⟩, List.append_assoc]
    rfl
  | d + 1 => by
    obtain ⟨m, h1, h2, h3⟩ := hl_yes hn mn w1 w2 g hg d
    refine ⟨m ++ hsf μ S ((g + 1 + d : Nat) : Int) n, ?_, ?_, fun h hh => ?_⟩
    · have e2 : hl μ S (g + 1 + d + 1) = hl μ S (g + 1 + d) ++ hsf μ S ((g + 1 + d : Nat) : Int) (μ 40 20).toNat := rfl
      show hl μ S (g + 1 + d + 1) = _
      rw [e2, h1, hn, List.append_assoc]
      rfl
    · have e2 : hl μ1 S (g + 1 + d + 1) = hl μ1 S (g + 1 + d) ++ hsf μ1 S ((g + 1 + d : Nat) : Int) (μ1 40 20).toNat := rfl
      show hl μ1 S (g + 1 + d + 1) = _
      rw [e2, h2, mn, show ((n : Int) + 1).toNat = n + 1 by omega, hsf_add w1 w2, if_neg (by omega), List.append_nil, List.append_assoc]
      rfl
    · rcases List.mem_append.mp hh with q | q
      · exact h3 h q
      · have := hsf_mem.mp q
        omega
end HL
theorem iniH_i {κ : Ks} {t : Nat} {s c f u b : Int} : iniH (rowset κ t (fun _ => 0)) t s c f u b t 0 = s ∧ iniH (rowset κ t (fun _ => 0)) t s c f u b t 1 = c ∧ iniH (rowset κ t (fun _ => 0)) t s c f u b t 2 = f ∧ iniH (rowset κ t (fun _ => 0)) t s c f u b t 3 = u ∧ iniH (rowset κ t (fun _ => 0)) t s c f u b t 4 = b ∧ iniH (rowset κ t (fun _ => 0)) t s c f u b t 5 = -1 ∧ iniH (rowset κ t (fun _ => 0)) t s c f u b t 6 = 0 ∧ iniH (rowset κ t (fun _ => 0)) t s c f u b t 7 = 0 := by
  unfold iniH
  refine ⟨?_, ?_, ?_, ?_, ?_, ?_, ?_, ?_⟩
  · rw [rd_ne (by omega), rd_ne (by omega), rd_ne (by omega), rd_ne (by omega), rd_eq rfl rfl]
  · rw [rd_ne (by omega), rd_ne (by omega), rd_ne (by omega), rd_eq rfl rfl]
  · rw [rd_ne (by omega), rd_ne (by omega), rd_eq rfl rfl]
  · rw [rd_ne (by omega), rd_eq rfl rfl]
  · rw [rd_eq rfl rfl]
  · rw [rd_ne (by omega), rd_ne (by omega), rd_ne (by omega), rd_ne (by omega), rd_ne (by omega), rd_eq rfl rfl]
  · rw [rd_ne (by omega), rd_ne (by omega), rd_ne (by omega), rd_ne (by omega), rd_ne (by omega), rd_ne (by omega), rowset_s]
  · rw [rd_ne (by omega), rd_ne (by omega), rd_ne (by omega), rd_ne (by omega), rd_ne (by omega), rd_ne (by omega), rowset_s]
theorem gN_house {κ κ2 κ3 μ μ1 : Ks} {n : Nat} {S F : Int} (hI : MI μ) (hC : CI κ μ) (hn : μ 40 20 = n) (m11 : μ1 40 11 = μ 40 11) (mn : μ1 40 20 = (n : Int) + 1) (w1 : ∀ j, μ1 62 j = if j = n then S else μ 62 j) (w2 : ∀ j, μ1 64 j = if j = n then F else μ 64 j) (hS : 0 ≤ S ∧ S < μ 40 11) (hF : 0 ≤ F ∧ F ≤ 9) (fS : ∀ s : Nat, s < 90 → κ2 (100 + s) = κ (100 + s)) (fH : ∀ h : Nat, h < n → κ2 (200 + h) = κ (200 + h)) (hA : PAd κ2 S.toNat n F (hl μ S 10) κ3) : gN κ3 μ1 := by
  have i5 := hI.1.2.2.2.2.2.1
  have i6 := hI.1.2.2.2.2.2.2.1
  have cH := hC.2.2.2.2.2.2.2.2.2.1
  have cN := hC.2.2.2.2.2.2.2.2.2.2.1
  obtain ⟨pre, post, h1, h2, h3, h4, h5, h6⟩ := hA
  intro s hs
  rw [m11] at hs
  have lt : ∀ {s' : Int} {k f : Nat}, k ∈ hl μ s' f → k < n := fun q => by have := hl_lt i6.1 q; omega
  have fl : ∀ k, k < n → κ2 (200 + k) 2 = μ 64 k := fun k hk => by rw [fH k hk]; exact (cH k (by omega)).2.2.1
  by_cases e : (s : Int) = S
  · obtain ⟨m, e1, e2, e3⟩ := hl_yes hn mn w1 w2 F.toNat (by omega) (9 - F.toNat)
    rw [show F.toNat + 1 + (9 - F.toNat) = 10 by omega] at e1 e2
    have mL : ∀ k, k ∈ pre ++ post → k < n := fun k hk => lt (h1 ▸ hk)
    have u := app_cut (g := μ 64) (f := F) (hl μ S (F.toNat + 1)) pre (B := m) (post := post) (e1.symm.trans h1) (fun k hk => by have := (hl_mem hk).2; omega) e3 (fun k hk => by have := h2 k hk; rw [fl k (mL k (List.mem_append_left _ hk))] at this; exact this) (fun k hk => by
      have := h3 k hk
      rw [fl k (mL k (List.mem_append_right _ (List.mem_of_mem_head? hk)))] at this
      exact this)
    rw [e, e2, ← u.1, ← u.2, show s = S.toNat by omega]
    exact h4
  · rw [hl_no hn mn w1 w2 10 (Or.inl (fun z => e z.symm)), h5 (100 + s) 10 (by omega) (by omega), fS s (by omega)]
    refine chn_congr _ (fun k hk => ?_) (cN s hs)
    have lk := lt hk
    have q := (hl_mem hk).1
    rw [h6 k (fun z => e (q.symm.trans (hl_mem z).1)) (by omega), fH k lk]
theorem PC_house {κ κ2 κ3 : Ks} {V V2 : Vs} {s c f u b x : Int} (h : Inv κ V) (n24 : κ 40 20 < 24) (hL : Lst κ2 1 (κ 40 20 + 1)) (pF : ∀ t, t ≠ 2 + 1 → t ≠ etg 1 (κ 40 20 + 1) → κ2 t = iniH (rowset κ (200 + (κ 40 20).toNat) (fun _ => 0)) (200 + (κ 40 20).toNat) s c f u b t) (pV : ∀ t, t ≠ etg 1 (κ 40 20 + 1) → V2 t = vset V (200 + (κ 40 20).toNat) t) (hs : 0 ≤ s ∧ s < κ 40 11) (hf : 0 ≤ f ∧ f ≤ 9) (hx : x = κ 40 20) (hA : PAd κ2 s.toNat (κ 40 20).toNat f (hl κ s 10) κ3) : PC κ (κ 40 20, st2 (st2 (st2 (st2 (st2 (st2 (st2 κ 62 (κ 40 20).toNat s) 63 (κ 40 20).toNat c) 64 (κ 40 20).toNat f) 65 (κ 40 20).toNat u) 66 (κ 40 20).toNat b) 67 (κ 40 20).toNat (-1)) 40 20 (κ 40 20 + 1)) (some (Iv x)) V2 κ3 := by
  obtain ⟨n, hn⟩ := Int.eq_ofNat_of_zero_le h.1.1.2.2.2.2.2.2.1.1
  have i5 := h.1.1.2.2.2.2.2.1
  rw [show (κ 40 20).toNat = n by omega] at pF pV hA ⊢
  rw [hn] at hL pF pV hx n24 ⊢
  have er := etg_R (k := 1) (n := (n : Int) + 1) (by omega)
  have f2 : ∀ t, t ≠ 3 → t ≠ 200 + n → t ≠ etg 1 ((n : Int) + 1) → κ2 t = κ t := fun t h1 h2 h3 => (pF t h1 h3).trans (iniH_o h2)
  obtain ⟨μ1, hμ⟩ : ∃ μ1, μ1 = st2 (st2 (st2 (st2 (st2 (st2 (st2 κ 62 n s) 63 n c) 64 n f) 65 n u) 66 n b) 67 n (-1)) 40 20 ((n : Int) + 1) := ⟨_, rfl⟩
  show _ ∧ LVP V2 (st2 (st2 (st2 (st2 (st2 (st2 (st2 κ 62 n s) 63 n c) 64 n f) 65 n u) 66 n b) 67 n (-1)) 40 20 ((n : Int) + 1)) ∧ eqM κ _ ∧ CI _ (st2 (st2 (st2 (st2 (st2 (st2 (st2 κ 62 n s) 63 n c) 64 n f) 65 n u) 66 n b) 67 n (-1)) 40 20 ((n : Int) + 1))
  rw [← hμ]
  have m40 : ∀ j, j ≠ 20 → μ1 40 j = κ 40 j := fun j hj => by rw [hμ, rd_ne (by omega), rd_ne (by omega), rd_ne (by omega), rd_ne (by omega), rd_ne (by omega), rd_ne (by omega), rd_ne (by omega)]
  have mn : μ1 40 20 = (n : Int) + 1 := by rw [hμ]; exact rd_eq rfl rfl
  have mt : ∀ t, (t < 62 ∧ t ≠ 40 ∨ 67 < t) → μ1 t = κ t := fun t ht => by rw [hμ, st2_t (by omega), st2_t (by omega), st2_t (by omega), st2_t (by omega), st2_t (by omega), st2_t (by omega), st2_t (by omega)]
  have w1 : ∀ j, μ1 62 j = if j = n then s else κ 62 j := fun j => by
    rw [hμ, rd_ne (by omega), rd_ne (by omega), rd_ne (by omega), rd_ne (by omega), rd_ne (by omega), rd_ne (by omega)]
    exact st2_w (fun _ => rfl) j
  have w2 : ∀ j, μ1 63 j = if j = n then c else κ 63 j := fun j => by
    rw [hμ, rd_ne (by omega), rd_ne (by omega), rd_ne (by omega), rd_ne (by omega), rd_ne (by omega)]
    exact st2_w (fun i => rd_ne (by omega)) j
  have w3 : ∀ j, μ1 64 j = if j = n then f else κ 64 j := fun j => by
    rw [hμ, rd_ne (by omega), rd_ne (by omega), rd_ne (by omega), rd_ne (by omega)]
    exact st2_w (fun i => by rw [rd_ne (by omega), rd_ne (by omega)]) j
  have w4 : ∀ j, μ1 65 j = if j = n then u else κ 65 j := fun j => by
    rw [hμ, rd_ne (by omega), rd_ne (by omega), rd_ne (by omega)]
    exact st2_w (fun i => by rw [rd_ne (by omega), rd_ne (by omega), rd_ne (by omega)]) j
  have w5 : ∀ j, μ1 66 j = if j = n then b else κ 66 j := fun j => by
    rw [hμ, rd_ne (by omega), rd_ne (by omega)]
    exact st2_w (fun i => by rw [rd_ne (by omega), rd_ne (by omega), rd_ne (by omega), rd_ne (by omega)]) j
  have w6 : ∀ j, μ1 67 j = if j = n then -1 else κ 67 j := fun j => by
    rw [hμ, rd_ne (by omega)]
    exact st2_w (fun i => by rw [rd_ne (by omega), rd_ne (by omega), rd_ne (by omega), rd_ne (by omega), rd_ne (by omega)]) j
  have g3 : ∀ t, (t < 100 ∨ 300 ≤ t) → κ3 t = κ2 t := fun t ht => by
    funext j
    exact hA.fr3 (by omega) (by omega)
  have gn : gN κ3 μ1 := gN_house (κ := κ) (κ2 := κ2) h.1 h.2.1 hn (m40 11 (by decide)) mn w1 w3 hs hf (fun k hk => f2 _ (by omega) (by omega) (by omega)) (fun k hk => f2 _ (by omega) (by omega) (by omega)) hA
  have r2 : ∀ j, j ≠ 8 → κ3 (200 + n) j = iniH (rowset κ (200 + n) (fun _ => 0)) (200 + n) s c f u b (200 + n) j := fun j hj => (hA.fr3 (by omega) (by omega)).trans (congrFun (pF (200 + n) (by omega) (by omega)) j)
  refine ⟨congrArg (fun z => some (Iv z)) hx, LVP_1 h.2.2 hn (by omega) m40 mn (fun t h1 h2 => (pV t h2).trans (vset_n h1)), fun t h1 h2 => (g3 t (by omega)).trans (f2 t (by omega) (by omega) (by omega)), CI_house h.1 h.2.1 hn m40 mn mt (hL.fr (g3 3 (by omega)) (fun z => g3 _ (by omega))) (fun t h1 h2 => (g3 t (by omega)).trans (f2 t h2 (by omega) (by omega))) (fun t q h1 h2 => (g3 t (by omega)).trans (f2 t (by omega) (by omega) (by omega))) (fun k j h1 h2 => (hA.fr3 (by omega) (by omega)).trans (congrFun (f2 _ (by omega) (by omega) (by omega)) j)) (fun k j h1 h2 => (hA.fr3 (by omega) (by omega)).trans (congrFun (f2 _ (by omega) (by omega) (by omega)) j)) (fun k h1 _ => (g3 _ (by omega)).trans (f2 _ (by omega) (by omega) (by omega))) (fun k h1 _ => (g3 _ (by omega)).trans (f2 _ (by omega) (by omega) (by omega))) ?_ ⟨w1, w2, w3, w4, w5, w6⟩ gn (by omega)⟩
  rw [r2 0 (by decide), r2 1 (by decide), r2 2 (by decide), r2 3 (by decide), r2 4 (by decide), r2 5 (by decide), r2 6 (by decide), r2 7 (by decide)]
  exact iniH_i
set_option maxHeartbeats 4000000 in
set_option maxRecDepth 20000 in
theorem c_X5_admit {B : Bs} {n0 : Nat} {V : Vs} {κ : Ks} {s n : Nat} {f : Int} {L : List Nat} (h_s : s < 90) (h_n : n < 90) (hf : κ (200 + n) 2 = f) (hch0 : chn (fun h => κ (200 + h) 8) (κ (100 + s) 10) L) (hnd : L.Nodup) (hnL : n ∉ L) (hlt : ∀ h ∈ L, h < 90) : Ct (XR B n0) mX5_admit 1 0 0 [Rf (100 + s), Rf (200 + n)] V κ (fun r V1 κ1 => r = none ∧ V1 = V ∧ PAd κ s n f L κ1) := by
  refine Ct.of (L := [some (Rf (100 + s)), some (Rf (200 + n)), none, none]) 2 (by decide +kernel) rfl rfl ?_
  have lp : ∀ (l : List Nat) (v : Int) (b : Nat) (pre : List Nat), chn (fun h => κ (200 + h) 8) v l → κ (200 + b) 8 = v → L = pre ++ b :: l → (∀ h ∈ pre, κ (200 + h) 2 ≤ f) → κ (200 + b) 2 ≤ f → G (XR B n0) mX5_admit 1 (fun r V1 κ1 => r = none ∧ V1 = V ∧ PAd κ s n f L κ1) V 0 0 7 [some (Rf (100 + s)), some (Rf (200 + n)), some (Rf (200 + b)), some (.inr (dr v))] [] V κ := by
    intro l
    induction l with
    | nil =>
      intro v b pre hch hv hLL hle hb
      have lb : b < 90 := hlt b (by rw [hLL]; simp)
      have ez : v = 0 := hch
      rw [show dr v = none from by rw [ez]; rfl]
      refine g_aload_n 8 dX5_admit_7 rfl rfl ?_
      refine r_ifnull_n 32 dX5_admit_8 (by decide) ?_
      refine g_aload_n 33 dX5_admit_32 rfl rfl ?_
      refine r_ifnonnull_s 52 dX5_admit_33 (by decide) ?_
      refine g_aload_n 53 dX5_admit_52 rfl rfl ?_
      refine g_aload_n 54 dX5_admit_53 rfl rfl ?_
      refine r_getD 57 (dr (κ (200 + b) 8)) dX5_admit_54 fgX5_61 (kd_H (by omega)) (ly_H (by omega) 8) rfl (congrArg dr (rfl)) ?_
      rw [show dr (κ (200 + b) 8) = none from by rw [hv, ez]; rfl]
      refine g_putR 60 dX5_admit_57 fpX5_61 (Or.inl ⟨_, rfl⟩) (fun h => (nomatch h)) (kd_H (by omega)) (ly_H (by omega) 8) (fun q hq => (nomatch hq)) rfl ?_
      refine g_aload_n 61 dX5_admit_60 rfl rfl ?_
      refine g_aload_n 62 dX5_admit_61 rfl rfl ?_
      refine g_putR 65 dX5_admit_62 fpX5_61 (Or.inl ⟨_, rfl⟩) (fun h => (nomatch h)) (kd_H (by omega)) (ly_H (by omega) 8) (fun q hq => by cases hq; omega) rfl ?_
      refine g_vret dX5_admit_65 rfl ?_
      exact ⟨rfl, rfl, PAd_mid lb h_n hch0 hnd hnL hLL hle hb (fun h hh => (nomatch hh)) (by rw [hv, ez]; rfl)⟩
    | cons h l ih =>
      intro v b pre hch hv hLL hle hb
      have lb : b < 90 := hlt b (by rw [hLL]; simp)
      have lh : h < 90 := hlt h (by rw [hLL]; simp)
      rw [show dr v = some (200 + h) from dr_n (hch.1.trans (by omega)) (by omega)]
      refine g_aload_n 8 dX5_admit_7 rfl rfl ?_
      refine r_ifnull_s 11 32 dX5_admit_8 (by decide) rfl ?_
      refine g_aload_n 12 dX5_admit_11 rfl rfl ?_
      refine r_getI 15 (κ (200 + h) 2) dX5_admit_12 fgX5_56 (kd_H (by omega)) (ly_H (by omega) 2) rfl (rfl) (fun r501 => ?_)
      refine g_aload_n 16 dX5_admit_15 rfl rfl ?_
      refine r_getI 19 (κ (200 + n) 2) dX5_admit_16 fgX5_56 (kd_H (by omega)) (ly_H (by omega) 2) rfl (rfl) (fun r502 => ?_)
      refine g_icmp_gt 32 22 dX5_admit_19 (by first | assumption | omega) (by first | assumption | omega) (by decide) rfl (fun h503 => ?_) (fun h503 => ?_)
      · refine g_aload_n 33 dX5_admit_32 rfl rfl ?_
        refine r_ifnonnull_s 52 dX5_admit_33 (by decide) ?_
        refine g_aload_n 53 dX5_admit_52 rfl rfl ?_
        refine g_aload_n 54 dX5_admit_53 rfl rfl ?_
        refine r_getD 57 (dr (κ (200 + b) 8)) dX5_admit_54 fgX5_61 (kd_H (by omega)) (ly_H (by omega) 8) rfl (congrArg dr (rfl)) ?_
        rw [show dr (κ (200 + b) 8) = some (200 + h) from dr_n (hv.trans (hch.1.trans (by omega))) (by omega)]
        refine g_putR 60 dX5_admit_57 fpX5_61 (Or.inl ⟨_, rfl⟩) (fun h => (nomatch h)) (kd_H (by omega)) (ly_H (by omega) 8) (fun q hq => by cases hq; omega) rfl ?_
        refine g_aload_n 61 dX5_admit_60 rfl rfl ?_
        refine g_aload_n 62 dX5_admit_61 rfl rfl ?_
        refine g_putR 65 dX5_admit_62 fpX5_61 (Or.inl ⟨_, rfl⟩) (fun h => (nomatch h)) (kd_H (by omega)) (ly_H (by omega) 8) (fun q hq => by cases hq; omega) rfl ?_
        refine g_vret dX5_admit_65 rfl ?_
        exact ⟨rfl, rfl, PAd_mid lb h_n hch0 hnd hnL hLL hle hb (fun k hk => by cases hk; omega) ((hv.trans hch.1).trans (show _ = ((200 + h : Nat) : Int) by omega))⟩
      refine g_aload_n 23 dX5_admit_22 rfl rfl ?_
      refine g_astore_n (L' := [some (Rf (100 + s)), some (Rf (200 + n)), some (Rf (200 + h)), some (Rf (200 + h))]) 24 dX5_admit_23 rfl (by decide) rfl ?_
      refine g_aload_n 25 dX5_admit_24 rfl rfl ?_
      refine r_getD 28 (dr (κ (200 + h) 8)) dX5_admit_25 fgX5_61 (kd_H (by omega)) (ly_H (by omega) 8) rfl (congrArg dr (rfl)) ?_
      refine g_astore_n (L' := [some (Rf (100 + s)), some (Rf (200 + n)), some (Rf (200 + h)), some (.inr (dr (κ (200 + h) 8)))]) 29 dX5_admit_28 rfl (by decide) rfl ?_
      refine g_goto 7 dX5_admit_29 (by decide) ?_
      exact ih _ h (pre ++ [b]) hch.2 rfl (by rw [hLL, List.append_assoc]; rfl) (fun k hk => by rcases List.mem_append.mp hk with q | q; exact hle k q; (rw [List.mem_singleton.mp q]; exact hb)) (by omega)
  refine g_null 1 dX5_admit_0 rfl ?_
  refine g_astore_n (L' := [some (Rf (100 + s)), some (Rf (200 + n)), some (Nl), none]) 2 dX5_admit_1 rfl (by decide) rfl ?_
  refine g_aload_n 3 dX5_admit_2 rfl rfl ?_
  refine r_getD 6 (dr (κ (100 + s) 10)) dX5_admit_3 fgX5_52 (kd_S (by omega)) (ly_S (by omega) 10) rfl (congrArg dr (rfl)) ?_
  refine g_astore_n (L' := [some (Rf (100 + s)), some (Rf (200 + n)), some (Nl), some (.inr (dr (κ (100 + s) 10)))]) 7 dX5_admit_6 rfl (by decide) rfl ?_
  cases hq : L with
  | nil =>
    rw [hq] at hch0
    have ez : κ (100 + s) 10 = 0 := hch0
    rw [show dr (κ (100 + s) 10) = none from by rw [ez]; rfl]
    refine g_aload_n 8 dX5_admit_7 rfl rfl ?_
    refine r_ifnull_n 32 dX5_admit_8 (by decide) ?_
    refine g_aload_n 33 dX5_admit_32 rfl rfl ?_
    refine r_ifnonnull_n 36 52 dX5_admit_33 (by decide) rfl ?_
    refine g_aload_n 37 dX5_admit_36 rfl rfl ?_
    refine g_aload_n 38 dX5_admit_37 rfl rfl ?_
    refine r_getD 41 (dr (κ (100 + s) 10)) dX5_admit_38 fgX5_52 (kd_S (by omega)) (ly_S (by omega) 10) rfl (congrArg dr (rfl)) ?_
    rw [show dr (κ (100 + s) 10) = none from by rw [ez]; rfl]
    refine g_putR 44 dX5_admit_41 fpX5_61 (Or.inl ⟨_, rfl⟩) (fun h => (nomatch h)) (kd_H (by omega)) (ly_H (by omega) 8) (fun q hq => (nomatch hq)) rfl ?_
    refine g_aload_n 45 dX5_admit_44 rfl rfl ?_
    refine g_aload_n 46 dX5_admit_45 rfl rfl ?_
    refine g_putR 49 dX5_admit_46 fpX5_52 (Or.inl ⟨_, rfl⟩) (fun h => (nomatch h)) (kd_S (by omega)) (ly_S (by omega) 10) (fun q hq => by cases hq; omega) rfl ?_
    refine g_goto 65 dX5_admit_49 (by decide) ?_
    refine g_vret dX5_admit_65 rfl ?_
    exact ⟨rfl, rfl, PAd_front h_n hch0 (by rw [← hq]; exact hnL) (fun h hh => (nomatch hh)) (by rw [ez]; rfl)⟩
  | cons h l =>
    rw [hq] at hch0
    have ez : κ (100 + s) 10 = ((200 + h : Nat) : Int) := hch0.1.trans (by omega)
    have lh : h < 90 := hlt h (by rw [hq]; simp)
    rw [show dr (κ (100 + s) 10) = some (200 + h) from dr_n ez (by omega)]
    refine g_aload_n 8 dX5_admit_7 rfl rfl ?_
    refine r_ifnull_s 11 32 dX5_admit_8 (by decide) rfl ?_
    refine g_aload_n 12 dX5_admit_11 rfl rfl ?_
    refine r_getI 15 (κ (200 + h) 2) dX5_admit_12 fgX5_56 (kd_H (by omega)) (ly_H (by omega) 2) rfl (rfl) (fun r701 => ?_)
    refine g_aload_n 16 dX5_admit_15 rfl rfl ?_
    refine r_getI 19 (κ (200 + n) 2) dX5_admit_16 fgX5_56 (kd_H (by omega)) (ly_H (by omega) 2) rfl (rfl) (fun r702 => ?_)
    refine g_icmp_gt 32 22 dX5_admit_19 (by first | assumption | omega) (by first | assumption | omega) (by decide) rfl (fun h703 => ?_) (fun h703 => ?_)
    · refine g_aload_n 33 dX5_admit_32 rfl rfl ?_
      refine r_ifnonnull_n 36 52 dX5_admit_33 (by decide) rfl ?_
      refine g_aload_n 37 dX5_admit_36 rfl rfl ?_
      refine g_aload_n 38 dX5_admit_37 rfl rfl ?_
      refine r_getD 41 (dr (κ (100 + s) 10)) dX5_admit_38 fgX5_52 (kd_S (by omega)) (ly_S (by omega) 10) rfl (congrArg dr (rfl)) ?_
      rw [show dr (κ (100 + s) 10) = some (200 + h) from dr_n (ez) (by omega)]
      refine g_putR 44 dX5_admit_41 fpX5_61 (Or.inl ⟨_, rfl⟩) (fun h => (nomatch h)) (kd_H (by omega)) (ly_H (by omega) 8) (fun q hq => by cases hq; omega) rfl ?_
      refine g_aload_n 45 dX5_admit_44 rfl rfl ?_
      refine g_aload_n 46 dX5_admit_45 rfl rfl ?_
      refine g_putR 49 dX5_admit_46 fpX5_52 (Or.inl ⟨_, rfl⟩) (fun h => (nomatch h)) (kd_S (by omega)) (ly_S (by omega) 10) (fun q hq => by cases hq; omega) rfl ?_
      refine g_goto 65 dX5_admit_49 (by decide) ?_
      refine g_vret dX5_admit_65 rfl ?_
      exact ⟨rfl, rfl, PAd_front h_n hch0 (by rw [← hq]; exact hnL) (fun k hk => by cases hk; omega) (by rw [ez]; rfl)⟩
    refine g_aload_n 23 dX5_admit_22 rfl rfl ?_
    refine g_astore_n (L' := [some (Rf (100 + s)), some (Rf (200 + n)), some (Rf (200 + h)), some (Rf (200 + h))]) 24 dX5_admit_23 rfl (by decide) rfl ?_
    refine g_aload_n 25 dX5_admit_24 rfl rfl ?_
    refine r_getD 28 (dr (κ (200 + h) 8)) dX5_admit_25 fgX5_61 (kd_H (by omega)) (ly_H (by omega) 8) rfl (congrArg dr (rfl)) ?_
    refine g_astore_n (L' := [some (Rf (100 + s)), some (Rf (200 + n)), some (Rf (200 + h)), some (.inr (dr (κ (200 + h) 8)))]) 29 dX5_admit_28 rfl (by decide) rfl ?_
    refine g_goto 7 dX5_admit_29 (by decide) ?_
    rw [← hq]
    exact lp l _ h [] hch0.2 rfl hq (fun k hk => (nomatch hk)) (by omega)
set_option maxHeartbeats 4000000 in
set_option maxRecDepth 20000 in
theorem c_X9_house {B : Bs} {n0 : Nat} {V : Vs} {κ : Ks} {s c f u b : Int} (r_s : inR s) (r_c : inR c) (r_f : inR f) (r_u : inR u) (z_b : b = 0 ∨ b = 1) (hInv : Inv κ V) : Ct (XR B n0) mX9_house 8 2 42 [Rf 1, Iv s, Iv c, Iv f, Iv u, Iv b] V κ (PC κ (M_house κ s c f u b)) := by
  obtain ⟨hI, hC, hV⟩ := id hInv
  obtain ⟨cA, cB, cC, cD, cE, cF, cG, cS, cL, cH, cN, cT, cW, cK, cZ⟩ := id hC
  obtain ⟨⟨i0, i1, i2, i3, i4, i5, i6, i7, i8, i9⟩, iS, iH, iR, iT, iC, iG, iL, iZ⟩ := id hI
  obtain ⟨⟨cV0, cV1, cV2, cV4⟩, _⟩ := id hV
  obtain ⟨cA0, cA1, cA2⟩ := id cA
  obtain ⟨cB0, cB1, cB2⟩ := id cB
  obtain ⟨⟨⟨⟨z0, z1, z2⟩, z3, z4, z5⟩, z6, z7⟩, z8⟩ := id cZ
  have en0 : κ 2 2 = κ 40 11 := cG.1.2.2.1
  have en1 : κ 3 2 = κ 40 20 := cG.2.1.2.2.1
  have en2 : κ 4 2 = κ 40 31 := cG.2.2.1.2.2.1
  have en3 : κ 5 2 = κ 40 41 := cG.2.2.2.2.2.1
  refine Ct.of (L := [some (Rf 1), some (Iv s), some (Iv c), some (Iv f), some (Iv u), some (Iv b), none, none]) 2 (by decide +kernel) rfl rfl ?_
  refine g_aload_n 1 dX9_house_0 rfl rfl ?_
  refine g_iload_n 2 dX9_house_1 rfl rfl ?_
  refine o_V 5 2 42 [Iv s] [] dX9_house_2 cvX9_105 mwX9_streetAt kd_1 (by decide) rfl (Nat.le_of_ble_eq_true rfl) rfl rfl rfl (c_X9_streetAt cG.1 (by omega) (by omega)) (fun h1 => ?_) (fun h1 => ?_)
  · have qS := cS (s).toNat (by omega)
    have qI := iS (s).toNat (by omega)
    refine g_astore (L' := [some (Rf 1), some (Iv s), some (Iv c), some (Iv f), some (Iv u), some (Iv b), some (Rf (100 + (s).toNat)), none]) 7 dX9_house_5 rfl (by decide) rfl ?_
    refine g_aload 9 dX9_house_7 rfl rfl ?_
    refine r_ifnonnull_s 18 dX9_house_9 (by decide) ?_
    refine g_iload_n 19 dX9_house_18 rfl rfl ?_
    refine g_bipush 21 dX9_house_19 (by decide) rfl ?_
    refine g_icmp_lt 33 24 dX9_house_21 (by first | assumption | omega) (by decide) (by decide) rfl (fun h2 => ?_) (fun h2 => ?_)
    · refine g_aload_n 34 dX9_house_33 rfl rfl ?_
      refine g_bipush 36 dX9_house_34 (by decide) rfl ?_
      refine e_V 39 2 42 [Iv (-4)] [] dX9_house_36 cvX9_74 mwX9_refuse kd_1 (by decide) rfl (Nat.le_of_ble_eq_true rfl) rfl rfl rfl (c_X9_refuse 4 (by decide) (by decide)) ?_
      refine g_iret dX9_house_39 rfl ?_
      unfold M_house
      (repeat' split) <;> first | (exfalso; omega) | exact PC_ref hInv (by decide) (by omega) rfl | exact PC_same hInv (by omega)
    refine g_iload_n 25 dX9_house_24 rfl rfl ?_
    refine g_if_lt 33 28 dX9_house_25 (by first | assumption | omega) (by decide) rfl (fun h3 => ?_) (fun h3 => ?_)
    · refine g_aload_n 34 dX9_house_33 rfl rfl ?_
      refine g_bipush 36 dX9_house_34 (by decide) rfl ?_
      refine e_V 39 2 42 [Iv (-4)] [] dX9_house_36 cvX9_74 mwX9_refuse kd_1 (by decide) rfl (Nat.le_of_ble_eq_true rfl) rfl rfl rfl (c_X9_refuse 4 (by decide) (by decide)) ?_
      refine g_iret dX9_house_39 rfl ?_
      unfold M_house
      (repeat' split) <;> first | (exfalso; omega) | exact PC_ref hInv (by decide) (by omega) rfl | exact PC_same hInv (by omega)
    refine g_iload 30 dX9_house_28 rfl rfl ?_
    refine g_if_ge 40 33 dX9_house_30 (by first | assumption | omega) (by decide) rfl (fun h4 => ?_) (fun h4 => ?_)
    · refine g_iload_n 41 dX9_house_40 rfl rfl ?_
      refine g_sipush 44 dX9_house_41 (by decide) rfl ?_
      refine g_icmp_gt 60 47 dX9_house_44 (by first | assumption | omega) (by decide) (by decide) rfl (fun h5 => ?_) (fun h5 => ?_)
      · refine g_aload_n 61 dX9_house_60 rfl rfl ?_
        refine g_bipush 63 dX9_house_61 (by decide) rfl ?_
        refine e_V 66 2 42 [Iv (-6)] [] dX9_house_63 cvX9_74 mwX9_refuse kd_1 (by decide) rfl (Nat.le_of_ble_eq_true rfl) rfl rfl rfl (c_X9_refuse 6 (by decide) (by decide)) ?_
        refine g_iret dX9_house_66 rfl ?_
        unfold M_house
        (repeat' split) <;> first | (exfalso; omega) | exact PC_ref hInv (by decide) (by omega) rfl | exact PC_same hInv (by omega)
      refine g_iload_n 48 dX9_house_47 rfl rfl ?_
      refine g_bipush 50 dX9_house_48 (by decide) rfl ?_
      refine g_icmp_gt 60 53 dX9_house_50 (by first | assumption | omega) (by decide) (by decide) rfl (fun h6 => ?_) (fun h6 => ?_)
      · refine g_aload_n 61 dX9_house_60 rfl rfl ?_
        refine g_bipush 63 dX9_house_61 (by decide) rfl ?_
        refine e_V 66 2 42 [Iv (-6)] [] dX9_house_63 cvX9_74 mwX9_refuse kd_1 (by decide) rfl (Nat.le_of_ble_eq_true rfl) rfl rfl rfl (c_X9_refuse 6 (by decide) (by decide)) ?_
        refine g_iret dX9_house_66 rfl ?_
        unfold M_house
        (repeat' split) <;> first | (exfalso; omega) | exact PC_ref hInv (by decide) (by omega) rfl | exact PC_same hInv (by omega)
      refine g_iload 55 dX9_house_53 rfl rfl ?_
      refine g_bipush 57 dX9_house_55 (by decide) rfl ?_
      refine g_icmp_le 67 60 dX9_house_57 (by first | assumption | omega) (by decide) (by decide) rfl (fun h7 => ?_) (fun h7 => ?_)
      · refine g_aload_n 68 dX9_house_67 rfl rfl ?_
        refine g_getC 71 dX9_house_68 fgX9_16 kd_1 ly_1_1 rfl ?_
        refine e_V 74 2 42 [] [] dX9_house_71 cvX9_78 mwJx4a65c_size_8abf5 kd_3 (by decide) rfl (Nat.le_of_ble_eq_true rfl) rfl rfl rfl (c_size_1) ?_
        refine g_bipush 76 dX9_house_74 (by decide) rfl ?_
        refine g_icmp_lt 86 79 dX9_house_76 (by first | assumption | omega) (by decide) (by decide) rfl (fun h8 => ?_) (fun h8 => ?_)
        · have hf0 : V (200 + (κ 40 20).toNat) = false := hV.2.2.1 (κ 40 20).toNat (by omega) (by omega)
          refine g_new 89 (200 + (κ 40 20).toNat) dX9_house_86 nwX9_109 (kd_H (by omega)) (ly_H (by omega)) (fun j => by first | (show (if j = _ then 1 else 0) ≤ 1; split <;> omega) | exact Nat.zero_le 1) hf0 rfl ?_
          refine g_dup 90 dX9_house_89 rfl ?_
          refine g_iload_n 91 dX9_house_90 rfl rfl ?_
          refine g_iload_n 92 dX9_house_91 rfl rfl ?_
          refine g_iload_n 93 dX9_house_92 rfl rfl ?_
          refine g_iload 95 dX9_house_93 rfl rfl ?_
          refine g_iload 97 dX9_house_95 rfl rfl ?_
          refine v_I 100 1 33 [Iv s, Iv c, Iv f, Iv u, Iv b] [Rf (200 + (κ 40 20).toNat)] dX9_house_97 ciX9_111 mwX1_init (by decide) rfl (Nat.le_of_ble_eq_true rfl) rfl rfl rfl (c_X1_init (v := (κ 40 20).toNat) (by omega) (by omega) (by omega) (by omega) (by omega) z_b) ?_
          refine g_astore (L' := [some (Rf 1), some (Iv s), some (Iv c), some (Iv f), some (Iv u), some (Iv b), some (Rf (100 + (s).toNat)), some (Rf (200 + (κ 40 20).toNat))]) 102 dX9_house_100 rfl (by decide) rfl ?_
          refine g_aload_n 103 dX9_house_102 rfl rfl ?_
          refine g_getC 106 dX9_house_103 fgX9_16 kd_1 ly_1_1 rfl ?_
          refine g_aload 108 dX9_house_106 rfl rfl ?_
          have hLk : Lst (iniH (rowset κ (200 + (κ 40 20).toNat) (fun _ => 0)) (200 + (κ 40 20).toNat) s c f u b) 1 (κ 40 20) := cG.2.1.fr (iniH_o (by omega)) (fun z => iniH_o (by have := etg_ge (k := 1) z; omega))
          refine p_V 111 0 0 [Rf (200 + (κ 40 20).toNat)] [] dX9_house_108 cvX9_90 mwJx4a65c_add_9ea2d kd_3 (by decide) rfl (Nat.le_of_ble_eq_true rfl) rfl rfl rfl (c_add_1 hLk (by omega) (by rw [vset_n (by omega)]; exact cV2) (by rw [vset_n (by omega)]; exact cV4) (fun c h1 h2 => by rw [vset_n (by omega)]; exact hV.2.2.2.2.2.2.1 c h1 h2)) ?_
          intro r1 V2 κ2 hp
          obtain ⟨hr1, pL, pF, pV⟩ := hp
          subst hr1
          refine ⟨[Iv 1], rfl, ?_⟩
          have pz : κ2 3 2 = κ 40 20 + 1 := pL.2.2.1
          have er := etg_R (k := 1) (n := κ 40 20 + 1) (by omega)
          have f3 : ∀ t, t ≠ 3 → t ≠ 200 + (κ 40 20).toNat → t ≠ etg 1 (κ 40 20 + 1) → κ2 t = κ t := fun t h1 h2 h3 => (pF t h1 h3).trans (iniH_o h2)
          have rw2 : κ2 (200 + (κ 40 20).toNat) 2 = f := by rw [pF (200 + (κ 40 20).toNat) (by omega) (by omega)]; exact iniH_i.2.2.1
          have hh0 : ∀ k ∈ hl κ s 10, (k : Int) < κ 40 20 := fun k hk => hl_lt i6.1 hk
          have hc2 : chn (fun k => κ2 (200 + k) 8) (κ2 (100 + s.toNat) 10) (hl κ s 10) := by
            have q := cN s.toNat (by omega)
            rw [show ((s.toNat : Nat) : Int) = s by omega] at q
            rw [f3 (100 + s.toNat) (by omega) (by omega) (by omega)]
            exact chn_congr _ (fun k hk => by have := hh0 k hk; rw [f3 (200 + k) (by omega) (by omega) (by omega)]) q
          refine g_pop 112 dX9_house_111 rfl ?_
          refine g_aload 114 dX9_house_112 rfl rfl ?_
          refine g_aload 116 dX9_house_114 rfl rfl ?_
          refine p_V 119 0 0 [Rf (200 + (κ 40 20).toNat)] [] dX9_house_116 cvX9_114 mwX5_admit (kd_S (by omega)) (by decide) rfl (Nat.le_of_ble_eq_true rfl) rfl rfl rfl (c_X5_admit (s := s.toNat) (n := (κ 40 20).toNat) (L := hl κ s 10) (by omega) (by omega) rw2 hc2 (hl_nodup κ s 10) (fun z => by have := hh0 _ z; omega) (fun k hk => by have := hh0 k hk; omega)) ?_
          intro r1 V3 κ3 hp
          obtain ⟨hr1, hv1, hA⟩ := hp
          subst hv1
          subst hr1
          refine ⟨[], rfl, ?_⟩
          have e3 : κ3 3 2 = κ 40 20 + 1 := (hA.fr3 (by omega) (by omega)).trans pz
          refine g_aload_n 120 dX9_house_119 rfl rfl ?_
          refine g_getC 123 dX9_house_120 fgX9_16 kd_1 ly_1_1 rfl ?_
          refine e_V 126 0 0 [] [] dX9_house_123 cvX9_78 mwJx4a65c_size_8abf5 kd_3 (by decide) rfl (Nat.le_of_ble_eq_true rfl) rfl rfl rfl (c_size_1) ?_
          refine g_iconst 127 dX9_house_126 (by decide) rfl ?_
          refine g_isub 128 dX9_house_127 rfl ?_
          refine g_iret dX9_house_128 rfl ?_
          unfold M_house
          rw [if_neg (by omega), if_neg (by omega), if_neg (by omega)]
          exact PC_house hInv (by omega) pL pF pV (by omega) (by omega) (by omega) hA
        refine g_aload_n 80 dX9_house_79 rfl rfl ?_
        refine g_bipush 82 dX9_house_80 (by decide) rfl ?_
        refine e_V 85 2 42 [Iv (-6)] [] dX9_house_82 cvX9_74 mwX9_refuse kd_1 (by decide) rfl (Nat.le_of_ble_eq_true rfl) rfl rfl rfl (c_X9_refuse 6 (by decide) (by decide)) ?_
        refine g_iret dX9_house_85 rfl ?_
        unfold M_house
        (repeat' split) <;> first | (exfalso; omega) | exact PC_ref hInv (by decide) (by omega) rfl | exact PC_same hInv (by omega)
      refine g_aload_n 61 dX9_house_60 rfl rfl ?_
      refine g_bipush 63 dX9_house_61 (by decide) rfl ?_
      refine e_V 66 2 42 [Iv (-6)] [] dX9_house_63 cvX9_74 mwX9_refuse kd_1 (by decide) rfl (Nat.le_of_ble_eq_true rfl) rfl rfl rfl (c_X9_refuse 6 (by decide) (by decide)) ?_
      refine g_iret dX9_house_66 rfl ?_
      unfold M_house
      (repeat' split) <;> first | (exfalso; omega) | exact PC_ref hInv (by decide) (by omega) rfl | exact PC_same hInv (by omega)
    refine g_aload_n 34 dX9_house_33 rfl rfl ?_
    refine g_bipush 36 dX9_house_34 (by decide) rfl ?_
    refine e_V 39 2 42 [Iv (-4)] [] dX9_house_36 cvX9_74 mwX9_refuse kd_1 (by decide) rfl (Nat.le_of_ble_eq_true rfl) rfl rfl rfl (c_X9_refuse 4 (by decide) (by decide)) ?_
    refine g_iret dX9_house_39 rfl ?_
    unfold M_house
    (repeat' split) <;> first | (exfalso; omega) | exact PC_ref hInv (by decide) (by omega) rfl | exact PC_same hInv (by omega)
  refine g_astore (L' := [some (Rf 1), some (Iv s), some (Iv c), some (Iv f), some (Iv u), some (Iv b), some (Nl), none]) 7 dX9_house_5 rfl (by decide) rfl ?_
  refine g_aload 9 dX9_house_7 rfl rfl ?_
  refine r_ifnonnull_n 12 18 dX9_house_9 (by decide) rfl ?_
  refine g_aload_n 13 dX9_house_12 rfl rfl ?_
  refine g_iconst 14 dX9_house_13 (by decide) rfl ?_
  refine e_V 17 2 42 [Iv (-1)] [] dX9_house_14 cvX9_74 mwX9_refuse kd_1 (by decide) rfl (Nat.le_of_ble_eq_true rfl) rfl rfl rfl (c_X9_refuse 1 (by decide) (by decide)) ?_
  refine g_iret dX9_house_17 rfl ?_
  unfold M_house
  (repeat' split) <;> first | (exfalso; omega) | exact PC_ref hInv (by decide) (by omega) rfl | exact PC_same hInv (by omega)
