/-! the class: turns (printed by wip/whole/gen55.py) -/
def opO (p : Nat → Int) (a : Int) : Nat → Int
  | 0 => 0
  | s + 1 => if (p s = -1 ∨ bitI (opO p a s) (p s).toNat = 1) ∧ bitI a s = 1 then bOr (opO p a s) (2 ^ s) else opO p a s
theorem opO_s (p : Nat → Int) (a : Int) (s : Nat) : opO p a (s + 1) = if (p s = -1 ∨ bitI (opO p a s) (p s).toNat = 1) ∧ bitI a s = 1 then bOr (opO p a s) (2 ^ s) else opO p a s := rfl
def wkN (κ : Ks) (p : Nat → Int) (m : Nat) (S F : Int) : Nat → Ks
  | 0 => κ
  | i + 1 => st2 (st2 (wkN κ p m S F i) 11 ((F + (i : Int)) % 168).toNat (bOr (wkN κ p m S F i 11 ((F + (i : Int)) % 168).toNat) (2 ^ S.toNat))) 12 ((F + (i : Int)) % 168).toNat (opO p (bOr (wkN κ p m S F i 11 ((F + (i : Int)) % 168).toNat) (2 ^ S.toNat)) m)
theorem wkN_s (κ : Ks) (p : Nat → Int) (m : Nat) (S F : Int) (i : Nat) : wkN κ p m S F (i + 1) = st2 (st2 (wkN κ p m S F i) 11 ((F + (i : Int)) % 168).toNat (bOr (wkN κ p m S F i 11 ((F + (i : Int)) % 168).toNat) (2 ^ S.toNat))) 12 ((F + (i : Int)) % 168).toNat (opO p (bOr (wkN κ p m S F i 11 ((F + (i : Int)) % 168).toNat) (2 ^ S.toNat)) m) := rfl
theorem wkN_o {κ : Ks} {p : Nat → Int} {m : Nat} {S F : Int} {t : Nat} (h1 : t ≠ 11) (h2 : t ≠ 12) : ∀ {i : Nat}, wkN κ p m S F i t = κ t
  | 0 => rfl
  | i + 1 => by rw [wkN_s, st2_t h2, st2_t h1, wkN_o h1 h2]
theorem wkN_11 {κ : Ks} {p : Nat → Int} {m : Nat} {S F : Int} (hk : ∀ x : Nat, x < 168 → 0 ≤ κ 11 x ∧ κ 11 x < 1024) (hS : 0 ≤ S ∧ S < 10) : ∀ (i : Nat), i ≤ 168 → ∀ x : Nat, x < 168 → (0 ≤ wkN κ p m S F i 11 x ∧ wkN κ p m S F i 11 x < 1024) ∧ ∀ s : Nat, s < 10 → bitI (wkN κ p m S F i 11 x) s = if (s : Int) = S ∧ ((x : Int) - F) % 168 < i then 1 else bitI (κ 11 x) s
  | 0, _, x, hx => ⟨hk x hx, fun s hs => by rw [if_neg (by omega)]; rfl⟩
  | i + 1, hi, x, hx => by
    obtain ⟨q1, q2⟩ := wkN_11 hk hS i (by omega) x hx
    rw [wkN_s, rd_ne (by omega)]
    by_cases e : x = ((F + (i : Int)) % 168).toNat
    · rw [rd_eq rfl e, ← e]
      have op := or_pow q1 (k := S.toNat) (by omega)
      refine ⟨op.1, fun s hs => ?_⟩
      rw [op.2 s hs]
      by_cases e2 : (s : Int) = S
      · rw [if_pos (by omega), if_pos (by omega)]
      · rw [if_neg (by omega), if_neg (by omega), q2 s hs, if_neg (by omega)]
    · rw [rd_ne (by omega)]
      refine ⟨q1, fun s hs => ?_⟩
      rw [q2 s hs]
      by_cases e2 : (s : Int) = S ∧ ((x : Int) - F) % 168 < i
      · rw [if_pos e2, if_pos (by omega)]
      · rw [if_neg e2, if_neg (by omega)]
theorem wkN_R {κ : Ks} {p : Nat → Int} {m : Nat} {S F : Int} (hk : ∀ x : Nat, x < 168 → 0 ≤ κ 11 x ∧ κ 11 x < 1024) (hS : 0 ≤ S ∧ S < 10) : ∀ (i x : Nat), x < 168 → 0 ≤ wkN κ p m S F i 11 x ∧ wkN κ p m S F i 11 x < 1024
  | 0, x, hx => hk x hx
  | i + 1, x, hx => by
    have q1 := wkN_R (p := p) (m := m) (F := F) hk hS i x hx
    rw [wkN_s, rd_ne (by omega)]
    by_cases e : x = ((F + (i : Int)) % 168).toNat
    · rw [rd_eq rfl e, ← e]
      exact (or_pow q1 (k := S.toNat) (by omega)).1
    · rw [rd_ne (by omega)]
      exact q1
theorem wkN_12 {κ : Ks} {p : Nat → Int} {m : Nat} {S F : Int} : ∀ (i : Nat), i ≤ 168 → ∀ x : Nat, x < 168 → wkN κ p m S F i 12 x = if ((x : Int) - F) % 168 < i then opO p (wkN κ p m S F i 11 x) m else κ 12 x
  | 0, _, x, hx => by
    rw [if_neg (by omega)]
    rfl
  | i + 1, hi, x, hx => by
    have q := wkN_12 (κ := κ) (p := p) (m := m) (S := S) (F := F) i (by omega) x hx
    rw [wkN_s]
    by_cases e : x = ((F + (i : Int)) % 168).toNat
    · rw [rd_eq rfl e, if_pos (by omega), rd_ne (by omega), rd_eq rfl e]
    · rw [rd_ne (by omega), rd_ne (by omega), q, rd_ne (by omega), rd_ne (by omega)]
      by_cases e2 : ((x : Int) - F) % 168 < i
      · rw [if_pos e2, if_pos (by omega)]
      · rw [if_neg e2, if_neg (by omega)]
theorem opO_R (p : Nat → Int) (a : Int) : ∀ n : Nat, n ≤ 10 → 0 ≤ opO p a n ∧ opO p a n < 1024
  | 0, _ => by
    show 0 ≤ (0 : Int) ∧ (0 : Int) < 1024
    omega
  | n + 1, h => by
    have q := opO_R p a n (by omega)
    rw [opO_s]
    split
    · exact (or_pow q (by omega)).1
    · exact q
theorem opO_ok {μ : Ks} (hI : MI μ) {m : Nat} (hm : μ 40 11 = m) {p : Nat → Int} (hp : ∀ s : Nat, s < m → p s = μ 53 s) {x a : Int} (hb : ∀ s : Nat, s < 10 → bitI a s = if LetB μ s x = true then 1 else 0) : ∀ n : Nat, n ≤ m → (0 ≤ opO p a n ∧ opO p a n < 1024) ∧ ∀ s : Nat, s < 10 → bitI (opO p a n) s = if s < n ∧ openB μ s x = true then 1 else 0
  | 0, _ => ⟨by show 0 ≤ (0 : Int) ∧ (0 : Int) < 1024; omega, fun s hs => by rw [if_neg (by omega)]; exact bit_0 s⟩
  | n + 1, hn => by
    obtain ⟨q1, q2⟩ := opO_ok hI hm hp hb n (by omega)
    have i5 := hI.1.2.2.2.2.2.1
    have pr := (hI.2.1 n (by omega)).1
    have ep := hp n (by omega)
    have bn := hb n (by omega)
    have on : openB μ n x = true ↔ LetB μ n x = true ∧ (p n = -1 ∨ openB μ (p n) x = true) := by
      rw [openB_iff hI.2.1 (by omega) (by omega), open_step (by omega), letB_iff, show ((n : Int)).toNat = n from rfl, ep]
      by_cases e : μ 53 n = -1
      · rw [e]
        exact ⟨fun z => ⟨z.1, Or.inl rfl⟩, fun z => ⟨z.1, open_neg (by omega)⟩⟩
      · rw [openB_iff hI.2.1 (by omega) (by omega)]
        exact ⟨fun z => ⟨z.1, Or.inr z.2⟩, fun z => ⟨z.1, z.2.resolve_left e⟩⟩
    have bp : p n ≠ -1 → bitI (opO p a n) (p n).toNat = if openB μ (p n) x = true then 1 else 0 := fun e => by
      rw [q2 (p n).toNat (by omega), show (((p n).toNat : Nat) : Int) = p n by omega]
      by_cases g : openB μ (p n) x = true
      · rw [if_pos ⟨by omega, g⟩, if_pos g]
      · rw [if_neg (fun z => g z.2), if_neg g]
    have cd : ((p n = -1 ∨ bitI (opO p a n) (p n).toNat = 1) ∧ bitI a n = 1) ↔ openB μ n x = true := by
      rw [on, bn]
      constructor
      · rintro ⟨h1, h2⟩
        refine ⟨by by_cases g : LetB μ n x = true; exact g; (rw [if_neg g] at h2; omega), ?_⟩
        by_cases e : p n = -1
        · exact Or.inl e
        · have h1 := h1.resolve_left e
          rw [bp e] at h1
          right
          by_cases g : openB μ (p n) x = true
          · exact g
          · rw [if_neg g] at h1
            omega
      · rintro ⟨h1, h2⟩
        refine ⟨?_, by rw [if_pos h1]⟩
        by_cases e : p n = -1
        · exact Or.inl e
        · right
          rw [bp e, if_pos (h2.resolve_left e)]
    rw [opO_s]
    by_cases c : (p n = -1 ∨ bitI (opO p a n) (p n).toNat = 1) ∧ bitI a n = 1
    · rw [if_pos c]
      have op := or_pow q1 (k := n) (by omega)
      refine ⟨op.1, fun s hs => ?_⟩
      rw [op.2 s hs]
      by_cases e : s = n
      · subst e
        rw [if_pos rfl, if_pos ⟨by omega, cd.mp c⟩]
      · rw [if_neg e, q2 s hs]
        by_cases g : s < n ∧ openB μ s x = true
        · rw [if_pos g, if_pos ⟨by omega, g.2⟩]
        · rw [if_neg g, if_neg (fun z => g ⟨by omega, z.2⟩)]
    · rw [if_neg c]
      refine ⟨q1, fun s hs => ?_⟩
      rw [q2 s hs]
      by_cases e : s = n
      · subst e
        rw [if_neg (by omega), if_neg (fun z => c (cd.mpr z.2))]
      · by_cases g : s < n ∧ openB μ s x = true
        · rw [if_pos g, if_pos ⟨by omega, g.2⟩]
        · rw [if_neg g, if_neg (fun z => g ⟨by omega, z.2⟩)]
theorem opB_cg {μ μ1 : Ks} {x : Int} (hL : ∀ s, LetB μ1 s x = LetB μ s x) (h53 : μ1 53 = μ 53) : ∀ (f : Nat) (s : Int), opB μ1 x f s = opB μ x f s
  | 0, _ => rfl
  | f + 1, s => by
    unfold opB
    rw [hL, h53, opB_cg hL h53 f]
theorem letB_add {μ μ1 : Ks} {n : Nat} {S F N : Int} (hn : μ 40 31 = n) (mn : μ1 40 31 = (n : Int) + 1) (w1 : ∀ j, μ1 73 j = if j = n then S else μ 73 j) (w2 : ∀ j, μ1 75 j = if j = n then F else μ 75 j) (w3 : ∀ j, μ1 76 j = if j = n then N else μ 76 j) (s x : Int) : LetB μ1 s x = true ↔ LetB μ s x = true ∨ (S = s ∧ (x - F + 168) % 168 < N) := by
  rw [letB_iff, letB_iff]
  constructor
  · rintro ⟨u, h1, h2, h3⟩
    rw [w1] at h2
    rw [w2, w3] at h3
    by_cases e : u = n
    · rw [if_pos e] at h2
      rw [if_pos e, if_pos e] at h3
      exact Or.inr ⟨h2, h3⟩
    · rw [if_neg e] at h2
      rw [if_neg e, if_neg e] at h3
      exact Or.inl ⟨u, by omega, h2, h3⟩
  · rintro (⟨u, h1, h2, h3⟩ | ⟨h2, h3⟩)
    · have e : u ≠ n := by omega
      exact ⟨u, by omega, by rw [w1, if_neg e]; exact h2, by rw [w2, w3, if_neg e, if_neg e]; exact h3⟩
    · exact ⟨n, by omega, by rw [w1, if_pos rfl]; exact h2, by rw [w2, w3, if_pos rfl, if_pos rfl]; exact h3⟩
theorem gK_turn {κ κ2 μ μ1 : Ks} {n m : Nat} {S F N : Int} (hI1 : MI μ1) (hK : gK κ μ) (k11 : κ2 11 = κ 11) (k12 : κ2 12 = κ 12) (hm : μ 40 11 = m) (hm1 : μ1 40 11 = m) (h53 : μ1 53 = μ 53) (hn : μ 40 31 = n) (mn : μ1 40 31 = (n : Int) + 1) (w1 : ∀ j, μ1 73 j = if j = n then S else μ 73 j) (w2 : ∀ j, μ1 75 j = if j = n then F else μ 75 j) (w3 : ∀ j, μ1 76 j = if j = n then N else μ 76 j) (hS : 0 ≤ S ∧ S < 10) (hN : 1 ≤ N ∧ N ≤ 6) : gK (wkN κ2 (μ 53) m S F N.toNat) μ1 := by
  intro x hx
  have q := hK x hx
  have la := letB_add hn mn w1 w2 w3
  have a := wkN_11 (κ := κ2) (p := μ 53) (m := m) (S := S) (F := F) (fun y hy => by rw [k11]; exact ⟨(hK y hy).1.1, (hK y hy).1.2.1⟩) hS N.toNat (by omega) x hx
  have b := wkN_12 (κ := κ2) (p := μ 53) (m := m) (S := S) (F := F) N.toNat (by omega) x hx
  have la2 : ∀ s : Nat, s < 10 → bitI (wkN κ2 (μ 53) m S F N.toNat 11 x) s = if LetB μ1 s x = true then 1 else 0 := fun s hs => by
    rw [a.2 s hs, k11, q.1.2.2 s hs]
    have l := la s x
    by_cases e : (s : Int) = S ∧ ((x : Int) - F) % 168 < N.toNat
    · rw [if_pos e, if_pos (l.mpr (Or.inr ⟨e.1.symm, by omega⟩))]
    · rw [if_neg e]
      by_cases g : LetB μ s x = true
      · rw [if_pos g, if_pos (l.mpr (Or.inl g))]
      · rw [if_neg g, if_neg (fun z => (l.mp z).elim g (fun v => e ⟨v.1.symm, by omega⟩))]
  refine ⟨⟨a.1.1, a.1.2, la2⟩, ?_⟩
  rw [b]
  by_cases c : ((x : Int) - F) % 168 < N.toNat
  · rw [if_pos c]
    have o := opO_ok hI1 hm1 (p := μ 53) (fun s _ => by rw [h53]) la2 m (Nat.le_refl m)
    refine ⟨o.1.1, o.1.2, fun s hs => ?_⟩
    rw [o.2 s hs, hm1]
    by_cases g : s < m ∧ openB μ1 s x = true
    · rw [if_pos g, if_pos ⟨by omega, g.2⟩]
    · rw [if_neg g, if_neg (fun z => g ⟨by omega, z.2⟩)]
  · rw [if_neg c, k12]
    have lE : ∀ s : Int, LetB μ1 s x = LetB μ s x := fun s => by
      have l := la s x
      by_cases g : LetB μ s x = true
      · rw [g]
        exact l.mpr (Or.inl g)
      · rw [Bool.not_eq_true _ |>.mp g]
        exact Bool.not_eq_true _ |>.mp (fun z => (l.mp z).elim g (fun v => c (by omega)))
    refine ⟨q.2.1, q.2.2.1, fun s hs => ?_⟩
    rw [q.2.2.2 s hs, hm, hm1, show openB μ1 s x = openB μ s x from opB_cg lE h53 _ _]
theorem PC_turn {κ κ2 : Ks} {V V2 : Vs} {s c f d x : Int} (h : Inv κ V) (n30 : κ 40 31 < 30) (hL : Lst κ2 2 (κ 40 31 + 1)) (pF : ∀ t, t ≠ 2 + 2 → t ≠ etg 2 (κ 40 31 + 1) → κ2 t = ini4 (rowset κ (300 + (κ 40 31).toNat) (fun _ => 0)) (300 + (κ 40 31).toNat) s c f d t) (pV : ∀ t, t ≠ etg 2 (κ 40 31 + 1) → V2 t = vset V (300 + (κ 40 31).toNat) t) (hx : x = κ 40 31) (hs : 0 ≤ s ∧ s < κ 40 11) (hd : 1 ≤ d ∧ d ≤ 6) (hI1 : MI (κ 40 31, st2 (st2 (st2 (st2 (st2 κ 73 (κ 40 31).toNat s) 74 (κ 40 31).toNat c) 75 (κ 40 31).toNat f) 76 (κ 40 31).toNat d) 40 31 (κ 40 31 + 1)).2) : PC κ (κ 40 31, st2 (st2 (st2 (st2 (st2 κ 73 (κ 40 31).toNat s) 74 (κ 40 31).toNat c) 75 (κ 40 31).toNat f) 76 (κ 40 31).toNat d) 40 31 (κ 40 31 + 1)) (some (Iv x)) V2 (wkN κ2 (κ 53) (κ 40 11).toNat s f d.toNat) := by
  obtain ⟨n, hn⟩ := Int.eq_ofNat_of_zero_le h.1.1.2.2.2.2.2.2.2.1.1
  have i5 := h.1.1.2.2.2.2.2.1
  rw [show (κ 40 31).toNat = n by omega] at pF pV hI1 ⊢
  rw [hn] at hL pF pV hx hI1 n30 ⊢
  have er := etg_R (k := 2) (n := (n : Int) + 1) (by omega)
  have f2 : ∀ t, t ≠ 4 → t ≠ 300 + n → t ≠ etg 2 ((n : Int) + 1) → κ2 t = κ t := fun t h1 h2 h3 => (pF t h1 h3).trans (ini4_o h2)
  have fr : ∀ t, t ≠ 4 → t ≠ 11 → t ≠ 12 → t ≠ 300 + n → t ≠ etg 2 ((n : Int) + 1) → wkN κ2 (κ 53) (κ 40 11).toNat s f d.toNat t = κ t := fun t h1 ha hb h2 h3 => (wkN_o ha hb).trans (f2 t h1 h2 h3)
  have ri : κ2 (300 + n) 0 = s ∧ κ2 (300 + n) 1 = c ∧ κ2 (300 + n) 2 = f ∧ κ2 (300 + n) 3 = d := by
    rw [pF (300 + n) (by omega) (by omega)]
    exact ini4_i
  show _ ∧ LVP V2 (st2 (st2 (st2 (st2 (st2 κ 73 n s) 74 n c) 75 n f) 76 n d) 40 31 ((n : Int) + 1)) ∧ eqM κ _ ∧ CI _ (st2 (st2 (st2 (st2 (st2 κ 73 n s) 74 n c) 75 n f) 76 n d) 40 31 ((n : Int) + 1))
  have m40 : ∀ j, j ≠ 31 → st2 (st2 (st2 (st2 (st2 κ 73 n s) 74 n c) 75 n f) 76 n d) 40 31 ((n : Int) + 1) 40 j = κ 40 j := fun j hj => by rw [rd_ne (by omega), rd_ne (by omega), rd_ne (by omega), rd_ne (by omega), rd_ne (by omega)]
  have mt : ∀ t, (t < 73 ∧ t ≠ 40 ∨ 76 < t) → st2 (st2 (st2 (st2 (st2 κ 73 n s) 74 n c) 75 n f) 76 n d) 40 31 ((n : Int) + 1) t = κ t := fun t ht => by rw [st2_t (by omega), st2_t (by omega), st2_t (by omega), st2_t (by omega), st2_t (by omega)]
  have w1 : ∀ j, st2 (st2 (st2 (st2 (st2 κ 73 n s) 74 n c) 75 n f) 76 n d) 40 31 ((n : Int) + 1) 73 j = if j = n then s else κ 73 j := fun j => by
    rw [rd_ne (by omega), rd_ne (by omega), rd_ne (by omega), rd_ne (by omega)]
    exact st2_w (fun _ => rfl) j
  have w2 : ∀ j, st2 (st2 (st2 (st2 (st2 κ 73 n s) 74 n c) 75 n f) 76 n d) 40 31 ((n : Int) + 1) 74 j = if j = n then c else κ 74 j := fun j => by
    rw [rd_ne (by omega), rd_ne (by omega), rd_ne (by omega)]
    exact st2_w (fun i => rd_ne (by omega)) j
  have w3 : ∀ j, st2 (st2 (st2 (st2 (st2 κ 73 n s) 74 n c) 75 n f) 76 n d) 40 31 ((n : Int) + 1) 75 j = if j = n then f else κ 75 j := fun j => by
    rw [rd_ne (by omega), rd_ne (by omega)]
    exact st2_w (fun i => by rw [rd_ne (by omega), rd_ne (by omega)]) j
  have w4 : ∀ j, st2 (st2 (st2 (st2 (st2 κ 73 n s) 74 n c) 75 n f) 76 n d) 40 31 ((n : Int) + 1) 76 j = if j = n then d else κ 76 j := fun j => by
    rw [rd_ne (by omega)]
    exact st2_w (fun i => by rw [rd_ne (by omega), rd_ne (by omega), rd_ne (by omega)]) j
  have gk := gK_turn (κ2 := κ2) (μ1 := st2 (st2 (st2 (st2 (st2 κ 73 n s) 74 n c) 75 n f) 76 n d) 40 31 ((n : Int) + 1)) (m := (κ 40 11).toNat) hI1 h.2.1.2.2.2.2.2.2.2.2.2.2.2.2.2.1 (f2 11 (by omega) (by omega) (by omega)) (f2 12 (by omega) (by omega) (by omega)) (by omega) ((m40 11 (by decide)).trans (by omega)) (mt 53 (by decide)) hn (rd_eq rfl rfl) w1 w3 w4 (by omega) hd
  exact ⟨congrArg (fun z => some (Iv z)) hx, LVP_2 h.2.2 hn (by omega) m40 (rd_eq rfl rfl) (fun t h1 h2 => (pV t h2).trans (vset_n h1)), fun t h1 h2 => fr t (by omega) (by omega) (by omega) (by omega) (by omega), CI_turn h.1 h.2.1 hn m40 (rd_eq rfl rfl) mt (hL.fr (wkN_o (by omega) (by omega)) (fun z => wkN_o (by omega) (by omega))) fr (by rw [wkN_o (by omega) (by omega)]; exact ri) ⟨w1, w2, w3, w4⟩ gk⟩
set_option maxHeartbeats 4000000 in
set_option maxRecDepth 20000 in
theorem c_X8_openOf {B : Bs} {n0 : Nat} {V : Vs} {κ : Ks} {a : Int} {m : Nat} {p : Nat → Int} (h_a : 0 ≤ a ∧ a < 1024) (hL : Lst κ 0 (m : Int)) (h_m : m ≤ 10) (hp : ∀ s, s < m → κ (100 + s) 0 = p s ∧ -1 ≤ p s ∧ p s < s) : Ct (XR B n0) mX8_openOf 4 0 0 [Iv a, Rf 2] V κ (Ex (some (Iv (opO p a m))) V κ) := by
  have en0 : κ 2 2 = (m : Int) := hL.2.2.1
  refine Ct.of (L := [some (Iv a), some (Rf 2), none, none, none, none]) 4 (by decide +kernel) rfl rfl ?_
  have lp : ∀ (k : Nat) (O s : Int) (u4 u5 : Option Av), 0 ≤ O ∧ O < 1024 → 0 ≤ s ∧ s ≤ (m : Int) → (k : Int) = (m : Int) - s → opO p a s.toNat = O → G (XR B n0) mX8_openOf 4 (Ex (some (Iv (opO p a m))) V κ) V 0 0 4 [some (Iv a), some (Rf 2), some (Iv O), some (Iv s), u4, u5] [] V κ := by
    intro k
    induction k using Nat.strongRecOn with
    | ind k ih =>
      intro O s u4 u5 hO hs hm he
      refine g_iload_n 5 dX8_openOf_4 rfl rfl ?_
      refine g_aload_n 6 dX8_openOf_5 rfl rfl ?_
      refine e_V 9 0 0 [] [Iv s] dX8_openOf_6 cvX8_40 mwJx4a65c_size_8abf5 kd_2 (by decide) rfl (Nat.le_of_ble_eq_true rfl) rfl rfl rfl (c_size_0) ?_
      refine g_icmp_ge 72 12 dX8_openOf_9 (by first | assumption | omega) (by first | assumption | omega) (by decide) rfl (fun h101 => ?_) (fun h101 => ?_)
      · refine g_iload_n 73 dX8_openOf_72 rfl rfl ?_
        refine g_iret dX8_openOf_73 rfl ?_
        rw [← he, show s.toNat = m by omega]
        exact ⟨rfl, rfl, rfl⟩
      refine g_aload_n 13 dX8_openOf_12 rfl rfl ?_
      refine g_iload_n 14 dX8_openOf_13 rfl rfl ?_
      refine e_V 17 0 0 [Iv s] [] dX8_openOf_14 cvX8_46 mwJx4a65c_get_915e3 kd_2 (by decide) rfl (Nat.le_of_ble_eq_true rfl) rfl rfl rfl (c_get_0 hL (by omega) (by omega)) ?_
      refine g_cast 20 dX8_openOf_17 clX8_50 (ci := 6) rfl (by decide) (kd_S (by omega)) rfl ?_
      refine r_getI 23 (κ (100 + (s).toNat) 0) dX8_openOf_20 fgX8_52 (kd_S (by omega)) (ly_S (by omega) 0) rfl (rfl) (fun r102 => ?_)
      have pr := hp s.toNat (by omega)
      refine G.eqi (show (κ (100 + (s).toNat) 0) = p s.toNat from pr.1) ?_
      refine g_istore (L' := [some (Iv a), some (Rf 2), some (Iv O), some (Iv s), some (Iv (p s.toNat)), u5]) 25 dX8_openOf_23 rfl (by decide) rfl ?_
      refine g_iload 27 dX8_openOf_25 rfl rfl ?_
      refine g_iconst 28 dX8_openOf_27 (by decide) rfl ?_
      refine g_icmp_eq 40 31 dX8_openOf_28 (by first | assumption | omega) (by decide) (by decide) rfl (fun h103 => ?_) (fun h103 => ?_)
      · refine g_iconst 41 dX8_openOf_40 (by decide) rfl ?_
        refine g_goto 45 dX8_openOf_41 (by decide) ?_
        refine g_istore (L' := [some (Iv a), some (Rf 2), some (Iv O), some (Iv s), some (Iv (p s.toNat)), some (Iv 1)]) 47 dX8_openOf_45 rfl (by decide) rfl ?_
        refine g_iload 49 dX8_openOf_47 rfl rfl ?_
        refine g_if_eq 66 52 dX8_openOf_49 (by decide) (by decide) rfl (fun z => absurd z (by decide)) (fun _ => ?_)
        refine g_iload_n 53 dX8_openOf_52 rfl rfl ?_
        refine g_iload_n 54 dX8_openOf_53 rfl rfl ?_
        refine o_SN 57 0 0 [Iv a, Iv s] [] dX8_openOf_54 csX8_55 mwX9_hasStreet (by decide) rfl (Nat.le_of_ble_eq_true rfl) rfl rfl rfl (c_X9_hasStreet (by omega) (by omega)) (fun h104 => ?_) (fun h104 => ?_)
        · refine g_if_eq 66 60 dX8_openOf_57 (by decide) (by decide) rfl (fun z => absurd z (by decide)) (fun _ => ?_)
          refine g_iload_n 61 dX8_openOf_60 rfl rfl ?_
          refine g_iconst 62 dX8_openOf_61 (by decide) rfl ?_
          refine g_iload_n 63 dX8_openOf_62 rfl rfl ?_
          refine g_ishl 64 dX8_openOf_63 rfl ?_
          refine G.eqi (pow_I (s := s) (by omega)) ?_
          refine g_ior 65 dX8_openOf_64 rfl ?_
          have op := or_pow hO (k := s.toNat) (by omega)
          refine g_istore_n (L' := [some (Iv a), some (Rf 2), some (Iv (bOr O (2 ^ s.toNat))), some (Iv s), some (Iv (p s.toNat)), some (Iv 1)]) 66 dX8_openOf_65 rfl (by decide) rfl ?_
          refine g_iinc (L' := [some (Iv a), some (Rf 2), some (Iv (bOr O (2 ^ s.toNat))), some (Iv (s + 1)), some (Iv (p s.toNat)), some (Iv 1)]) 69 dX8_openOf_66 rfl rfl (by decide) rfl ?_
          refine g_goto 4 dX8_openOf_69 (by decide) ?_
          refine ih (k - 1) (by omega) _ (s + 1) _ _ op.1 (by omega) (by omega) ?_
          rw [show (s + 1).toNat = s.toNat + 1 by omega, opO_s, he, if_pos (by omega)]
        refine g_if_eq 66 60 dX8_openOf_57 (by decide) (by decide) rfl (fun _ => ?_) (fun z => absurd z (by decide))
        refine g_iinc (L' := [some (Iv a), some (Rf 2), some (Iv O), some (Iv (s + 1)), some (Iv (p s.toNat)), some (Iv 1)]) 69 dX8_openOf_66 rfl rfl (by decide) rfl ?_
        refine g_goto 4 dX8_openOf_69 (by decide) ?_
        refine ih (k - 1) (by omega) _ (s + 1) _ _ hO (by omega) (by omega) ?_
        rw [show (s + 1).toNat = s.toNat + 1 by omega, opO_s, he, if_neg (by omega)]
      refine g_iload_n 32 dX8_openOf_31 rfl rfl ?_
      refine g_iload 34 dX8_openOf_32 rfl rfl ?_
      refine o_SN 37 0 0 [Iv O, Iv (p s.toNat)] [] dX8_openOf_34 csX8_55 mwX9_hasStreet (by decide) rfl (Nat.le_of_ble_eq_true rfl) rfl rfl rfl (c_X9_hasStreet (by omega) (by omega)) (fun h105 => ?_) (fun h105 => ?_)
      · refine g_if_eq 44 40 dX8_openOf_37 (by decide) (by decide) rfl (fun z => absurd z (by decide)) (fun _ => ?_)
        refine g_iconst 41 dX8_openOf_40 (by decide) rfl ?_
        refine g_goto 45 dX8_openOf_41 (by decide) ?_
        refine g_istore (L' := [some (Iv a), some (Rf 2), some (Iv O), some (Iv s), some (Iv (p s.toNat)), some (Iv 1)]) 47 dX8_openOf_45 rfl (by decide) rfl ?_
        refine g_iload 49 dX8_openOf_47 rfl rfl ?_
        refine g_if_eq 66 52 dX8_openOf_49 (by decide) (by decide) rfl (fun z => absurd z (by decide)) (fun _ => ?_)
        refine g_iload_n 53 dX8_openOf_52 rfl rfl ?_
        refine g_iload_n 54 dX8_openOf_53 rfl rfl ?_
        refine o_SN 57 0 0 [Iv a, Iv s] [] dX8_openOf_54 csX8_55 mwX9_hasStreet (by decide) rfl (Nat.le_of_ble_eq_true rfl) rfl rfl rfl (c_X9_hasStreet (by omega) (by omega)) (fun h106 => ?_) (fun h106 => ?_)
        · refine g_if_eq 66 60 dX8_openOf_57 (by decide) (by decide) rfl (fun z => absurd z (by decide)) (fun _ => ?_)
          refine g_iload_n 61 dX8_openOf_60 rfl rfl ?_
          refine g_iconst 62 dX8_openOf_61 (by decide) rfl ?_
          refine g_iload_n 63 dX8_openOf_62 rfl rfl ?_
          refine g_ishl 64 dX8_openOf_63 rfl ?_
          refine G.eqi (pow_I (s := s) (by omega)) ?_
          refine g_ior 65 dX8_openOf_64 rfl ?_
          have op := or_pow hO (k := s.toNat) (by omega)
          refine g_istore_n (L' := [some (Iv a), some (Rf 2), some (Iv (bOr O (2 ^ s.toNat))), some (Iv s), some (Iv (p s.toNat)), some (Iv 1)]) 66 dX8_openOf_65 rfl (by decide) rfl ?_
          refine g_iinc (L' := [some (Iv a), some (Rf 2), some (Iv (bOr O (2 ^ s.toNat))), some (Iv (s + 1)), some (Iv (p s.toNat)), some (Iv 1)]) 69 dX8_openOf_66 rfl rfl (by decide) rfl ?_
          refine g_goto 4 dX8_openOf_69 (by decide) ?_
          refine ih (k - 1) (by omega) _ (s + 1) _ _ op.1 (by omega) (by omega) ?_
          rw [show (s + 1).toNat = s.toNat + 1 by omega, opO_s, he, if_pos (by omega)]
        refine g_if_eq 66 60 dX8_openOf_57 (by decide) (by decide) rfl (fun _ => ?_) (fun z => absurd z (by decide))
        refine g_iinc (L' := [some (Iv a), some (Rf 2), some (Iv O), some (Iv (s + 1)), some (Iv (p s.toNat)), some (Iv 1)]) 69 dX8_openOf_66 rfl rfl (by decide) rfl ?_
        refine g_goto 4 dX8_openOf_69 (by decide) ?_
        refine ih (k - 1) (by omega) _ (s + 1) _ _ hO (by omega) (by omega) ?_
        rw [show (s + 1).toNat = s.toNat + 1 by omega, opO_s, he, if_neg (by omega)]
      refine g_if_eq 44 40 dX8_openOf_37 (by decide) (by decide) rfl (fun _ => ?_) (fun z => absurd z (by decide))
      refine g_iconst 45 dX8_openOf_44 (by decide) rfl ?_
      refine g_istore (L' := [some (Iv a), some (Rf 2), some (Iv O), some (Iv s), some (Iv (p s.toNat)), some (Iv 0)]) 47 dX8_openOf_45 rfl (by decide) rfl ?_
      refine g_iload 49 dX8_openOf_47 rfl rfl ?_
      refine g_if_eq 66 52 dX8_openOf_49 (by decide) (by decide) rfl (fun _ => ?_) (fun z => absurd z (by decide))
      refine g_iinc (L' := [some (Iv a), some (Rf 2), some (Iv O), some (Iv (s + 1)), some (Iv (p s.toNat)), some (Iv 0)]) 69 dX8_openOf_66 rfl rfl (by decide) rfl ?_
      refine g_goto 4 dX8_openOf_69 (by decide) ?_
      refine ih (k - 1) (by omega) _ (s + 1) _ _ hO (by omega) (by omega) ?_
      rw [show (s + 1).toNat = s.toNat + 1 by omega, opO_s, he, if_neg (by omega)]
  refine g_iconst 1 dX8_openOf_0 (by decide) rfl ?_
  refine g_istore_n (L' := [some (Iv a), some (Rf 2), some (Iv 0), none, none, none]) 2 dX8_openOf_1 rfl (by decide) rfl ?_
  refine g_iconst 3 dX8_openOf_2 (by decide) rfl ?_
  refine g_istore_n (L' := [some (Iv a), some (Rf 2), some (Iv 0), some (Iv 0), none, none]) 4 dX8_openOf_3 rfl (by decide) rfl ?_
  exact lp m 0 0 none none (by omega) (by omega) (by omega) rfl
set_option maxHeartbeats 4000000 in
set_option maxRecDepth 20000 in
theorem c_X8_add {B : Bs} {n0 : Nat} {V : Vs} {κ : Ks} {t m : Nat} {p : Nat → Int} {S F N : Int} (h_t : t < 100) (h_S : κ (300 + t) 0 = S ∧ 0 ≤ S ∧ S < 10) (h_F : κ (300 + t) 2 = F ∧ 0 ≤ F ∧ F ≤ 167) (h_N : κ (300 + t) 3 = N ∧ 1 ≤ N ∧ N ≤ 6) (hk : ∀ x : Nat, x < 168 → 0 ≤ κ 11 x ∧ κ 11 x < 1024) (hL : Lst κ 0 (m : Int)) (h_m : m ≤ 10) (hp : ∀ s, s < m → κ (100 + s) 0 = p s ∧ -1 ≤ p s ∧ p s < s) : Ct (XR B n0) mX8_add 5 0 0 [Rf 10, Rf (300 + t), Rf 2] V κ (Ex none V (wkN κ p m S F N.toNat)) := by
  refine Ct.of (L := [some (Rf 10), some (Rf (300 + t)), some (Rf 2), none, none]) 2 (by decide +kernel) rfl rfl ?_
  have lp : ∀ (k : Nat) (i : Int) (u4 : Option Av), 0 ≤ i ∧ i ≤ N → (k : Int) = N - i → G (XR B n0) mX8_add 5 (Ex none V (wkN κ p m S F N.toNat)) V 0 0 2 [some (Rf 10), some (Rf (300 + t)), some (Rf 2), some (Iv i), u4] [] V (wkN κ p m S F i.toNat) := by
    intro k
    induction k using Nat.strongRecOn with
    | ind k ih =>
      intro i u4 hi hm
      refine g_iload_n 3 dX8_add_2 rfl rfl ?_
      refine g_aload_n 4 dX8_add_3 rfl rfl ?_
      refine r_getI 7 ((wkN κ p m S F i.toNat) (300 + t) 3) dX8_add_4 fgX8_24 (kd_T (by omega)) (ly_T (by omega) 3) rfl (rfl) (fun r101 => ?_)
      refine G.eqi (show ((wkN κ p m S F i.toNat) (300 + t) 3) = N from (congrFun (wkN_o (by omega) (by omega)) 3).trans h_N.1) ?_
      refine g_icmp_ge 64 10 dX8_add_7 (by first | assumption | omega) (by first | assumption | omega) (by decide) rfl (fun h102 => ?_) (fun h102 => ?_)
      · refine g_vret dX8_add_64 rfl ?_
        have ei : i = N := by omega
        subst ei
        exact ⟨rfl, rfl, rfl⟩
      refine g_aload_n 11 dX8_add_10 rfl rfl ?_
      refine r_getI 14 ((wkN κ p m S F i.toNat) (300 + t) 2) dX8_add_11 fgX8_30 (kd_T (by omega)) (ly_T (by omega) 2) rfl (rfl) (fun r103 => ?_)
      refine G.eqi (show ((wkN κ p m S F i.toNat) (300 + t) 2) = F from (congrFun (wkN_o (by omega) (by omega)) 2).trans h_F.1) ?_
      refine g_iload_n 15 dX8_add_14 rfl rfl ?_
      refine g_iadd 16 dX8_add_15 rfl ?_
      refine g_sipush 19 dX8_add_16 (by decide) rfl ?_
      refine e_S 22 0 0 [Iv (F + i), Iv 168] [] dX8_add_19 csX8_18 mwJ9_floorMod_7cf53 (by decide) rfl (Nat.le_of_ble_eq_true rfl) rfl rfl rfl (c_J9_floorMod_7cf53 (by omega)) ?_
      refine g_istore (L' := [some (Rf 10), some (Rf (300 + t)), some (Rf 2), some (Iv i), some (Iv ((F + i) % 168))]) 24 dX8_add_22 rfl (by decide) rfl ?_
      refine g_aload_n 25 dX8_add_24 rfl rfl ?_
      refine g_getC 28 dX8_add_25 fgX8_9 kd_10 ly_10_0 rfl ?_
      refine g_iload 30 dX8_add_28 rfl rfl ?_
      refine g_dup2 31 dX8_add_30 rfl ?_
      refine r_iald 32 (((F + i) % 168).toNat) ((wkN κ p m S F i.toNat) 11 (((F + i) % 168).toNat)) dX8_add_31 kd_11 (by decide) (by omega) (rfl) rfl (rfl) (fun r104 => ?_)
      have hA : 0 ≤ ((wkN κ p m S F i.toNat) 11 (((F + i) % 168).toNat)) ∧ ((wkN κ p m S F i.toNat) 11 (((F + i) % 168).toNat)) < 1024 := wkN_R hk h_S.2 i.toNat ((F + i) % 168).toNat (by omega)
      obtain ⟨A, eA⟩ : ∃ A, A = ((wkN κ p m S F i.toNat) 11 (((F + i) % 168).toNat)) := ⟨_, rfl⟩
      refine G.eqi eA.symm ?_
      rw [← eA] at hA
      refine g_iconst 33 dX8_add_32 (by decide) rfl ?_
      refine g_aload_n 34 dX8_add_33 rfl rfl ?_
      refine r_getI 37 ((wkN κ p m S F i.toNat) (300 + t) 0) dX8_add_34 fgX8_33 (kd_T (by omega)) (ly_T (by omega) 0) rfl (rfl) (fun r105 => ?_)
      refine G.eqi (show ((wkN κ p m S F i.toNat) (300 + t) 0) = S from (congrFun (wkN_o (by omega) (by omega)) 0).trans h_S.1) ?_
      refine g_ishl 38 dX8_add_37 rfl ?_
      refine G.eqi (pow_I (s := S) (by omega)) ?_
      have op := or_pow hA (k := S.toNat) (by omega)
      refine g_ior 39 dX8_add_38 rfl ?_
      refine r_iast 40 (((F + i) % 168).toNat) dX8_add_39 kd_11 (by decide) ly_11 (by omega) (rfl) (by omega) rfl ?_
      refine g_aload_n 41 dX8_add_40 rfl rfl ?_
      refine g_getC 44 dX8_add_41 fgX8_15 kd_10 ly_10_1 rfl ?_
      refine g_iload 46 dX8_add_44 rfl rfl ?_
      refine g_aload_n 47 dX8_add_46 rfl rfl ?_
      refine g_getC 50 dX8_add_47 fgX8_9 kd_10 ly_10_0 rfl ?_
      refine g_iload 52 dX8_add_50 rfl rfl ?_
      refine r_iald 53 (((F + i) % 168).toNat) ((bOr A (2 ^ S.toNat))) dX8_add_52 kd_11 (by decide) (by omega) (rfl) rfl (rd_s rfl rfl rfl) (fun r106 => ?_)
      refine g_aload_n 54 dX8_add_53 rfl rfl ?_
      refine e_S 57 0 0 [Iv (bOr A (2 ^ S.toNat)), Rf 2] [Iv ((F + i) % 168), Rf 12] dX8_add_54 csX8_36 mwX8_openOf (by decide) rfl (Nat.le_of_ble_eq_true rfl) rfl rfl rfl (c_X8_openOf (m := m) (p := p) op.1 (hL.fr ((st2_t (by omega)).trans (wkN_o (by omega) (by omega))) (fun z => (st2_t (by have := etg_ge (k := 0) z; omega)).trans (wkN_o (by have := etg_ge (k := 0) z; omega) (by have := etg_ge (k := 0) z; omega)))) h_m (fun s hs => ⟨(congrFun ((st2_t (by omega)).trans (wkN_o (by omega) (by omega))) 0).trans (hp s hs).1, (hp s hs).2⟩)) ?_
      have oR := opO_R p (bOr A (2 ^ S.toNat)) m h_m
      refine r_iast 58 (((F + i) % 168).toNat) dX8_add_57 kd_12 (by decide) ly_12 (by omega) (rfl) (by omega) rfl ?_
      refine g_iinc (L' := [some (Rf 10), some (Rf (300 + t)), some (Rf 2), some (Iv (i + 1)), some (Iv ((F + i) % 168))]) 61 dX8_add_58 rfl rfl (by decide) rfl ?_
      refine g_goto 2 dX8_add_61 (by decide) ?_
      have e : wkN κ p m S F (i + 1).toNat = (st2 (st2 (wkN κ p m S F i.toNat) 11 (((F + i) % 168).toNat) (bOr A (2 ^ S.toNat))) 12 (((F + i) % 168).toNat) (opO p (bOr A (2 ^ S.toNat)) m)) := by rw [show (i + 1).toNat = i.toNat + 1 by omega, wkN_s, show ((i.toNat : Nat) : Int) = i by omega, eA]
      rw [← e]
      exact ih (k - 1) (by omega) (i + 1) _ (by omega) (by omega)
  refine g_iconst 1 dX8_add_0 (by decide) rfl ?_
  refine g_istore_n (L' := [some (Rf 10), some (Rf (300 + t)), some (Rf 2), some (Iv 0), none]) 2 dX8_add_1 rfl (by decide) rfl ?_
  exact lp N.toNat 0 none (by omega) (by omega)
set_option maxHeartbeats 4000000 in
set_option maxRecDepth 20000 in
theorem c_X9_turn {B : Bs} {n0 : Nat} {V : Vs} {κ : Ks} {s c y h n : Int} (r_s : inR s) (r_c : inR c) (r_y : inR y) (r_h : inR h) (r_n : inR n)  (hInv : Inv κ V) : Ct (XR B n0) mX9_turn 8 2 37 [Rf 1, Iv s, Iv c, Iv y, Iv h, Iv n] V κ (PC κ (M_turn κ s c y h n)) := by
  obtain ⟨hI, hC, hV⟩ := id hInv
  obtain ⟨cA, cB, cC, cD, cE, cF, cG, cS, cL, cH, cN, cT, cW, cK, cZ⟩ := id hC
  obtain ⟨⟨i0, i1, i2, i3, i4, i5, i6, i7, i8, i9⟩, iS, iH, iR, iT, iC, iG, iL, iZ⟩ := id hI
  obtain ⟨⟨cV0, cV1, cV2, cV4⟩, _⟩ := id hV
  obtain ⟨cA0, cA1, cA2⟩ := id cA
  obtain ⟨cB0, cB1, cB2⟩ := id cB
  obtain ⟨⟨⟨⟨z0, z1, z2⟩, z3, z4, z5⟩, z6, z7⟩, z8⟩ := id cZ
  have en0 : κ 2 2 = κ 40 11 := cG.1.2.2.1
  have en1 : κ 3 2 = κ 40 20 := cG.2.1.2.2.1
  have en2 : κ 4 2 = κ 40 31 := cG.2.2.1.2.2.1
  have en3 : κ 5 2 = κ 40 41 := cG.2.2.2.2.2.1
  refine Ct.of (L := [some (Rf 1), some (Iv s), some (Iv c), some (Iv y), some (Iv h), some (Iv n), none]) 1 (by decide +kernel) rfl rfl ?_
  refine g_aload_n 1 dX9_turn_0 rfl rfl ?_
  refine g_iload_n 2 dX9_turn_1 rfl rfl ?_
  refine o_V 5 2 37 [Iv s] [] dX9_turn_2 cvX9_105 mwX9_streetAt kd_1 (by decide) rfl (Nat.le_of_ble_eq_true rfl) rfl rfl rfl (c_X9_streetAt cG.1 (by omega) (by omega)) (fun h1 => ?_) (fun h1 => ?_)
  · have qS := cS (s).toNat (by omega)
    have qI := iS (s).toNat (by omega)
    refine r_ifnull_s 8 15 dX9_turn_5 (by decide) rfl ?_
    refine g_iload_n 9 dX9_turn_8 rfl rfl ?_
    refine o_S 12 2 37 [Iv c] [] dX9_turn_9 csX9_170 mwX9_isCock (by decide) rfl (Nat.le_of_ble_eq_true rfl) rfl rfl rfl (c_X9_isCock (by omega)) (fun h2 => ?_) (fun h2 => ?_)
    · refine g_if_ne 21 15 dX9_turn_12 (by decide) (by decide) rfl (fun _ => ?_) (fun z => absurd z (by decide))
      refine g_iload_n 22 dX9_turn_21 rfl rfl ?_
      refine g_if_lt 36 25 dX9_turn_22 (by first | assumption | omega) (by decide) rfl (fun h3 => ?_) (fun h3 => ?_)
      · refine g_aload_n 37 dX9_turn_36 rfl rfl ?_
        refine g_bipush 39 dX9_turn_37 (by decide) rfl ?_
        refine e_V 42 2 37 [Iv (-4)] [] dX9_turn_39 cvX9_74 mwX9_refuse kd_1 (by decide) rfl (Nat.le_of_ble_eq_true rfl) rfl rfl rfl (c_X9_refuse 4 (by decide) (by decide)) ?_
        refine g_iret dX9_turn_42 rfl ?_
        unfold M_turn
        (repeat' split) <;> first | (exfalso; omega) | exact PC_ref hInv (by decide) (by omega) rfl | exact PC_same hInv (by omega)
      refine g_iload 27 dX9_turn_25 rfl rfl ?_
      refine g_if_lt 36 30 dX9_turn_27 (by first | assumption | omega) (by decide) rfl (fun h4 => ?_) (fun h4 => ?_)
      · refine g_aload_n 37 dX9_turn_36 rfl rfl ?_
        refine g_bipush 39 dX9_turn_37 (by decide) rfl ?_
        refine e_V 42 2 37 [Iv (-4)] [] dX9_turn_39 cvX9_74 mwX9_refuse kd_1 (by decide) rfl (Nat.le_of_ble_eq_true rfl) rfl rfl rfl (c_X9_refuse 4 (by decide) (by decide)) ?_
        refine g_iret dX9_turn_42 rfl ?_
        unfold M_turn
        (repeat' split) <;> first | (exfalso; omega) | exact PC_ref hInv (by decide) (by omega) rfl | exact PC_same hInv (by omega)
      refine g_iload 32 dX9_turn_30 rfl rfl ?_
      refine g_iconst 33 dX9_turn_32 (by decide) rfl ?_
      refine g_icmp_ge 43 36 dX9_turn_33 (by first | assumption | omega) (by decide) (by decide) rfl (fun h5 => ?_) (fun h5 => ?_)
      · refine g_iload_n 44 dX9_turn_43 rfl rfl ?_
        refine g_bipush 46 dX9_turn_44 (by decide) rfl ?_
        refine g_icmp_ge 63 49 dX9_turn_46 (by first | assumption | omega) (by decide) (by decide) rfl (fun h6 => ?_) (fun h6 => ?_)
        · refine g_aload_n 64 dX9_turn_63 rfl rfl ?_
          refine g_bipush 66 dX9_turn_64 (by decide) rfl ?_
          refine e_V 69 2 37 [Iv (-6)] [] dX9_turn_66 cvX9_74 mwX9_refuse kd_1 (by decide) rfl (Nat.le_of_ble_eq_true rfl) rfl rfl rfl (c_X9_refuse 6 (by decide) (by decide)) ?_
          refine g_iret dX9_turn_69 rfl ?_
          unfold M_turn
          (repeat' split) <;> first | (exfalso; omega) | exact PC_ref hInv (by decide) (by omega) rfl | exact PC_same hInv (by omega)
        refine g_iload 51 dX9_turn_49 rfl rfl ?_
        refine g_bipush 53 dX9_turn_51 (by decide) rfl ?_
        refine g_icmp_ge 63 56 dX9_turn_53 (by first | assumption | omega) (by decide) (by decide) rfl (fun h7 => ?_) (fun h7 => ?_)
        · refine g_aload_n 64 dX9_turn_63 rfl rfl ?_
          refine g_bipush 66 dX9_turn_64 (by decide) rfl ?_
          refine e_V 69 2 37 [Iv (-6)] [] dX9_turn_66 cvX9_74 mwX9_refuse kd_1 (by decide) rfl (Nat.le_of_ble_eq_true rfl) rfl rfl rfl (c_X9_refuse 6 (by decide) (by decide)) ?_
          refine g_iret dX9_turn_69 rfl ?_
          unfold M_turn
          (repeat' split) <;> first | (exfalso; omega) | exact PC_ref hInv (by decide) (by omega) rfl | exact PC_same hInv (by omega)
        refine g_iload 58 dX9_turn_56 rfl rfl ?_
        refine g_bipush 60 dX9_turn_58 (by decide) rfl ?_
        refine g_icmp_le 70 63 dX9_turn_60 (by first | assumption | omega) (by decide) (by decide) rfl (fun h8 => ?_) (fun h8 => ?_)
        · refine g_aload_n 71 dX9_turn_70 rfl rfl ?_
          refine g_getC 74 dX9_turn_71 fgX9_19 kd_1 ly_1_2 rfl ?_
          refine e_V 77 2 37 [] [] dX9_turn_74 cvX9_78 mwJx4a65c_size_8abf5 kd_4 (by decide) rfl (Nat.le_of_ble_eq_true rfl) rfl rfl rfl (c_size_2) ?_
          refine g_bipush 79 dX9_turn_77 (by decide) rfl ?_
          refine g_icmp_lt 89 82 dX9_turn_79 (by first | assumption | omega) (by decide) (by decide) rfl (fun h9 => ?_) (fun h9 => ?_)
          · have hf0 : V (300 + (κ 40 31).toNat) = false := hV.2.2.2.1 (κ 40 31).toNat (by omega) (by omega)
            refine g_new 92 (300 + (κ 40 31).toNat) dX9_turn_89 nwX9_173 (kd_T (by omega)) (ly_T (by omega)) (fun j => by first | (show (if j = _ then 1 else 0) ≤ 1; split <;> omega) | exact Nat.zero_le 1) hf0 rfl ?_
            refine g_dup 93 dX9_turn_92 rfl ?_
            refine g_iload_n 94 dX9_turn_93 rfl rfl ?_
            refine g_iload_n 95 dX9_turn_94 rfl rfl ?_
            refine g_iload_n 96 dX9_turn_95 rfl rfl ?_
            refine g_bipush 98 dX9_turn_96 (by decide) rfl ?_
            refine g_imul 99 dX9_turn_98 rfl ?_
            refine g_iload 101 dX9_turn_99 rfl rfl ?_
            refine g_iadd 102 dX9_turn_101 rfl ?_
            refine g_iload 104 dX9_turn_102 rfl rfl ?_
            refine v_I 107 1 33 [Iv s, Iv c, Iv ((y * 24) + h), Iv n] [Rf (300 + (κ 40 31).toNat)] dX9_turn_104 ciX9_175 mwX7_init (by decide) rfl (Nat.le_of_ble_eq_true rfl) rfl rfl rfl (c_X7_init (v := (κ 40 31).toNat) (by omega) (by omega) (by omega) (by omega) (by omega)) ?_
            refine g_astore (L' := [some (Rf 1), some (Iv s), some (Iv c), some (Iv y), some (Iv h), some (Iv n), some (Rf (300 + (κ 40 31).toNat))]) 109 dX9_turn_107 rfl (by decide) rfl ?_
            refine g_aload_n 110 dX9_turn_109 rfl rfl ?_
            refine g_getC 113 dX9_turn_110 fgX9_19 kd_1 ly_1_2 rfl ?_
            refine g_aload 115 dX9_turn_113 rfl rfl ?_
            have hLk : Lst (ini4 (rowset κ (300 + (κ 40 31).toNat) (fun _ => 0)) (300 + (κ 40 31).toNat) s c ((y * 24) + h) n) 2 (κ 40 31) := cG.2.2.1.fr (ini4_o (by omega)) (fun z => ini4_o (by have := etg_ge (k := 2) z; omega))
            refine p_V 118 0 0 [Rf (300 + (κ 40 31).toNat)] [] dX9_turn_115 cvX9_90 mwJx4a65c_add_9ea2d kd_4 (by decide) rfl (Nat.le_of_ble_eq_true rfl) rfl rfl rfl (c_add_2 hLk (by omega) (by rw [vset_n (by omega)]; exact cV2) (by rw [vset_n (by omega)]; exact cV4) (fun c h1 h2 => by rw [vset_n (by omega)]; exact hV.2.2.2.2.2.2.2.1 c h1 h2)) ?_
            intro r1 V2 κ2 hp
            obtain ⟨hr1, pL, pF, pV⟩ := hp
            subst hr1
            refine ⟨[Iv 1], rfl, ?_⟩
            have pz : κ2 4 2 = κ 40 31 + 1 := pL.2.2.1
            have er := etg_R (k := 2) (n := κ 40 31 + 1) (by omega)
            have f3 : ∀ t, t ≠ 4 → t ≠ 300 + (κ 40 31).toNat → t ≠ etg 2 (κ 40 31 + 1) → κ2 t = κ t := fun t h1 h2 h3 => (pF t h1 h3).trans (ini4_o h2)
            have rw2 : κ2 (300 + (κ 40 31).toNat) 0 = s ∧ κ2 (300 + (κ 40 31).toNat) 1 = c ∧ κ2 (300 + (κ 40 31).toNat) 2 = ((y * 24) + h) ∧ κ2 (300 + (κ 40 31).toNat) 3 = n := by rw [pF (300 + (κ 40 31).toNat) (by omega) (by omega)]; exact ini4_i
            have hL0 : Lst κ2 0 (((κ 40 11).toNat : Nat) : Int) := by rw [show (((κ 40 11).toNat : Nat) : Int) = κ 40 11 by omega]; exact cG.1.fr (f3 2 (by omega) (by omega) (by omega)) (fun z => f3 _ (by have := etg_R (k := 0) z; omega) (by have := etg_R (k := 0) z; omega) (by have := etg_R (k := 0) z; omega))
            refine g_pop 119 dX9_turn_118 rfl ?_
            refine g_aload_n 120 dX9_turn_119 rfl rfl ?_
            refine g_getC 123 dX9_turn_120 fgX9_44 kd_1 ly_1_8 rfl ?_
            refine g_aload 125 dX9_turn_123 rfl rfl ?_
            refine g_aload_n 126 dX9_turn_125 rfl rfl ?_
            refine g_getC 129 dX9_turn_126 fgX9_10 kd_1 ly_1_0 rfl ?_
            refine v_V 132 0 0 [Rf (300 + (κ 40 31).toNat), Rf 2] [] dX9_turn_129 cvX9_178 mwX8_add kd_10 (by decide) rfl (Nat.le_of_ble_eq_true rfl) rfl rfl rfl (c_X8_add (t := (κ 40 31).toNat) (m := (κ 40 11).toNat) (p := κ 53) (S := s) (F := ((y * 24) + h)) (N := n) (by omega) ⟨rw2.1, by omega⟩ ⟨rw2.2.2.1, by omega⟩ ⟨rw2.2.2.2, by omega⟩ (fun x hx => by rw [f3 11 (by omega) (by omega) (by omega)]; exact ⟨(cK x hx).1.1, (cK x hx).1.2.1⟩) hL0 (by omega) (fun k hk => ⟨by rw [f3 (100 + k) (by omega) (by omega) (by omega)]; exact (cS k (by omega)).1, (iS k (by omega)).1⟩)) ?_
            refine g_aload_n 133 dX9_turn_132 rfl rfl ?_
            refine g_getC 136 dX9_turn_133 fgX9_19 kd_1 ly_1_2 rfl ?_
            refine e_V 139 0 0 [] [] dX9_turn_136 cvX9_78 mwJx4a65c_size_8abf5 kd_4 (by decide) rfl (Nat.le_of_ble_eq_true rfl) rfl rfl rfl (c_size_2) ?_
            refine g_iconst 140 dX9_turn_139 (by decide) rfl ?_
            refine g_isub 141 dX9_turn_140 rfl ?_
            refine g_iret dX9_turn_141 rfl ?_
            have e4 : (wkN κ2 (κ 53) (κ 40 11).toNat s ((y * 24) + h) n.toNat) 4 2 = κ 40 31 + 1 := (congrFun (wkN_o (by omega) (by omega)) 2).trans pz
            have em : (κ 40 31, st2 (st2 (st2 (st2 (st2 κ 73 (κ 40 31).toNat s) 74 (κ 40 31).toNat c) 75 (κ 40 31).toNat (24 * y + h)) 76 (κ 40 31).toNat n) 40 31 (κ 40 31 + 1)) = M_turn κ s c y h n := by unfold M_turn; rw [if_neg (by omega), if_neg (by omega), if_neg (by omega)]
            rw [← em]
            rw [show y * 24 + h = 24 * y + h by omega] at e4 pF ⊢
            exact PC_turn hInv (by omega) pL pF pV (by omega) (by omega) (by omega) (by rw [em]; exact K_turn hI)
          refine g_aload_n 83 dX9_turn_82 rfl rfl ?_
          refine g_bipush 85 dX9_turn_83 (by decide) rfl ?_
          refine e_V 88 2 37 [Iv (-6)] [] dX9_turn_85 cvX9_74 mwX9_refuse kd_1 (by decide) rfl (Nat.le_of_ble_eq_true rfl) rfl rfl rfl (c_X9_refuse 6 (by decide) (by decide)) ?_
          refine g_iret dX9_turn_88 rfl ?_
          unfold M_turn
          (repeat' split) <;> first | (exfalso; omega) | exact PC_ref hInv (by decide) (by omega) rfl | exact PC_same hInv (by omega)
        refine g_aload_n 64 dX9_turn_63 rfl rfl ?_
        refine g_bipush 66 dX9_turn_64 (by decide) rfl ?_
        refine e_V 69 2 37 [Iv (-6)] [] dX9_turn_66 cvX9_74 mwX9_refuse kd_1 (by decide) rfl (Nat.le_of_ble_eq_true rfl) rfl rfl rfl (c_X9_refuse 6 (by decide) (by decide)) ?_
        refine g_iret dX9_turn_69 rfl ?_
        unfold M_turn
        (repeat' split) <;> first | (exfalso; omega) | exact PC_ref hInv (by decide) (by omega) rfl | exact PC_same hInv (by omega)
      refine g_aload_n 37 dX9_turn_36 rfl rfl ?_
      refine g_bipush 39 dX9_turn_37 (by decide) rfl ?_
      refine e_V 42 2 37 [Iv (-4)] [] dX9_turn_39 cvX9_74 mwX9_refuse kd_1 (by decide) rfl (Nat.le_of_ble_eq_true rfl) rfl rfl rfl (c_X9_refuse 4 (by decide) (by decide)) ?_
      refine g_iret dX9_turn_42 rfl ?_
      unfold M_turn
      (repeat' split) <;> first | (exfalso; omega) | exact PC_ref hInv (by decide) (by omega) rfl | exact PC_same hInv (by omega)
    refine g_if_ne 21 15 dX9_turn_12 (by decide) (by decide) rfl (fun z => absurd z (by decide)) (fun _ => ?_)
    refine g_aload_n 16 dX9_turn_15 rfl rfl ?_
    refine g_iconst 17 dX9_turn_16 (by decide) rfl ?_
    refine e_V 20 2 37 [Iv (-1)] [] dX9_turn_17 cvX9_74 mwX9_refuse kd_1 (by decide) rfl (Nat.le_of_ble_eq_true rfl) rfl rfl rfl (c_X9_refuse 1 (by decide) (by decide)) ?_
    refine g_iret dX9_turn_20 rfl ?_
    unfold M_turn
    (repeat' split) <;> first | (exfalso; omega) | exact PC_ref hInv (by decide) (by omega) rfl | exact PC_same hInv (by omega)
  refine r_ifnull_n 15 dX9_turn_5 (by decide) ?_
  refine g_aload_n 16 dX9_turn_15 rfl rfl ?_
  refine g_iconst 17 dX9_turn_16 (by decide) rfl ?_
  refine e_V 20 2 37 [Iv (-1)] [] dX9_turn_17 cvX9_74 mwX9_refuse kd_1 (by decide) rfl (Nat.le_of_ble_eq_true rfl) rfl rfl rfl (c_X9_refuse 1 (by decide) (by decide)) ?_
  refine g_iret dX9_turn_20 rfl ?_
  unfold M_turn
  (repeat' split) <;> first | (exfalso; omega) | exact PC_ref hInv (by decide) (by omega) rfl | exact PC_same hInv (by omega)
