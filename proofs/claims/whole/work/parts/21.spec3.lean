/-! THE SPECIFICATION, on: fire, iron -/
def shL (κ : Ks) (h : Int) : Nat → Int → List Int
  | 0, _ => []
  | f + 1, x => if x < 0 then [] else if LetB κ x h then shL κ h f (κ 53 x.toNat) else x :: shL κ h f (κ 53 x.toNat)
theorem shL_s (κ : Ks) (h : Int) (f : Nat) (x : Int) : shL κ h (f + 1) x = if x < 0 then [] else if LetB κ x h then shL κ h f (κ 53 x.toNat) else x :: shL κ h f (κ 53 x.toNat) := rfl
theorem shL_neg {κ : Ks} {h x : Int} (hx : x < 0) : ∀ f : Nat, shL κ h f x = []
  | 0 => rfl
  | f + 1 => by rw [shL_s, if_pos hx]
theorem shL_fuel {κ : Ks} (hS : MIst κ) {h : Int} : ∀ (f g : Nat) (x : Int), x + 1 ≤ f → x + 1 ≤ g → -1 ≤ x → x < κ 40 11 → shL κ h f x = shL κ h g x
  | 0, g, x, h1, h2, h3, h4 => by rw [shL_neg (by omega), shL_neg (by omega)]
  | f + 1, 0, x, h1, h2, h3, h4 => by rw [shL_neg (by omega), shL_neg (by omega)]
  | f + 1, g + 1, x, h1, h2, h3, h4 => by
    rw [shL_s, shL_s]
    split
    · rfl
    · have := (hS x.toNat (by omega)).1
      rw [shL_fuel hS f g (κ 53 x.toNat) (by omega) (by omega) (by omega) (by omega)]
def shM (κ : Ks) (s : Int) : List Int := shL κ (κ 40 0 % 168) (s + 1).toNat s
def wkM (κ : Ks) (l : List Int) (c : Nat) : Int := if l.length = 0 then 0 else wayM κ (l.headD (-1)) (l.getLastD (-1)) + min (wayM κ (κ 77 c) (l.headD (-1))) (wayM κ (κ 77 c) (l.getLastD (-1)))
def whoM (κ : Ks) (l : List Int) : Nat := if wkM κ l 1 < wkM κ l 0 then (if wkM κ l 2 < wkM κ l 1 then 2 else 1) else (if wkM κ l 2 < wkM κ l 0 then 2 else 0)
def fireA (κ : Ks) (l : List Int) (w : Int) : Int := if w = 0 then 4 * wkM κ l (whoM κ l) + 2 * (l.length : Int) else if w = 1 then (whoM κ l : Int) else (l.length : Int)
def M_fire (κ : Ks) (s w : Int) : Int × Ks := if s < 0 ∨ κ 40 11 ≤ s then (-1, rfM κ 1) else if κ 57 s.toNat = 0 then (-5, rfM κ 5) else if κ 57 s.toNat = 2 ∨ w < 0 ∨ 2 < w then (-2, rfM κ 2) else (fireA κ (shM κ s) w, κ)
theorem wk_R (κ : Ks) (l : List Int) (c : Nat) : 0 ≤ wkM κ l c ∧ wkM κ l c ≤ 40 := by
  unfold wkM
  have a := way_R (κ := κ) (l.headD (-1)) (l.getLastD (-1))
  have b := way_R (κ := κ) (κ 77 c) (l.headD (-1))
  have d := way_R (κ := κ) (κ 77 c) (l.getLastD (-1))
  split <;> omega
def cntO (κ : Ks) (s : Int) : Nat → Int
  | 0 => 0
  | h + 1 => cntO κ s h + (if openB κ s h then 1 else 0)
theorem cntO_R (κ : Ks) (s : Int) : ∀ h : Nat, 0 ≤ cntO κ s h ∧ cntO κ s h ≤ h
  | 0 => ⟨by unfold cntO; omega, by unfold cntO; omega⟩
  | h + 1 => by
    have := cntO_R κ s h
    unfold cntO
    split <;> omega
def worthM (κ : Ks) (s : Nat) : Int := cntO κ s 168 * dripM κ s
theorem worth_R {κ : Ks} (h : MI κ) {s : Nat} (hs : (s : Int) < κ 40 11) : 0 ≤ worthM κ s ∧ worthM κ s ≤ 6720 := by
  have a := cntO_R κ s 168
  have b := drip_R h hs
  unfold worthM
  have p1 : 0 ≤ cntO κ s 168 * dripM κ s := Int.mul_nonneg a.1 b.1
  have p2 : cntO κ s 168 * dripM κ s ≤ 168 * 40 := Int.mul_le_mul a.2 b.2 b.1 (by omega)
  omega
/-- the same but for what searches write -/
def scr (κ κ' : Ks) : Prop := (∀ j : Nat, j ≠ 50 → j ≠ 51 → j ≠ 54 → κ' 40 j = κ 40 j) ∧ ∀ t : Nat, t ≠ 40 → t ≠ 90 → t ≠ 93 → t ≠ 94 → t ≠ 96 → t ≠ 97 → t ≠ 98 → κ' t = κ t
theorem scr.rf (κ : Ks) : scr κ κ := ⟨fun _ _ _ _ => rfl, fun _ _ _ _ _ _ _ _ => rfl⟩
theorem scr.tr {a b c : Ks} (h1 : scr a b) (h2 : scr b c) : scr a c := ⟨fun j a1 a2 a3 => (h2.1 j a1 a2 a3).trans (h1.1 j a1 a2 a3), fun t a1 a2 a3 a4 a5 a6 a7 => (h2.2 t a1 a2 a3 a4 a5 a6 a7).trans (h1.2 t a1 a2 a3 a4 a5 a6 a7)⟩
theorem scr.s40 (κ : Ks) {j : Nat} {v : Int} (h : j = 50 ∨ j = 51 ∨ j = 54) : scr κ (st2 κ 40 j v) := ⟨fun i a1 a2 a3 => rd_j (by omega) rfl, fun t a1 _ _ _ _ _ _ => st2_t a1⟩
theorem scr.sT (κ : Ks) {t j : Nat} {v : Int} (h : t = 90 ∨ t = 93 ∨ t = 94 ∨ t = 96 ∨ t = 97 ∨ t = 98) : scr κ (st2 κ t j v) := ⟨fun i _ _ _ => rd_t (by omega) rfl, fun t' a1 a2 a3 a4 a5 a6 a7 => st2_t (by omega)⟩
theorem scr.sm {κ κ' : Ks} (h : scr κ κ') : sm κ κ' := ⟨⟨h.1 0 (by decide) (by decide) (by decide), h.1 1 (by decide) (by decide) (by decide), h.1 2 (by decide) (by decide) (by decide), h.1 3 (by decide) (by decide) (by decide), h.1 11 (by decide) (by decide) (by decide), h.1 20 (by decide) (by decide) (by decide), h.1 31 (by decide) (by decide) (by decide), h.1 37 (by decide) (by decide) (by decide), h.1 41 (by decide) (by decide) (by decide)⟩, fun t h0 h1 h2 h3 h4 => h.2 t h1 (by omega) (by omega) (by omega) (by omega) (by omega) (by omega)⟩
theorem MI.scr {κ κ' : Ks} (h : MI κ) (hs : scr κ κ') : MI κ' := by
  refine h.sm hs.sm ?_
  have e4 := hs.1 4 (by decide) (by decide) (by decide)
  have e11 := hs.1 11 (by decide) (by decide) (by decide)
  have e20 := hs.1 20 (by decide) (by decide) (by decide)
  have et : ∀ t, t < 88 → t ≠ 40 → κ' t = κ t := fun t h0 h1 => hs.2 t h1 (by omega) (by omega) (by omega) (by omega) (by omega) (by omega)
  have v := h.v
  unfold MIv at v ⊢
  rw [e4, e11, e20, et 57 (by decide) (by decide), et 58 (by decide) (by decide), et 59 (by decide) (by decide), et 63 (by decide) (by decide), et 68 (by decide) (by decide), et 69 (by decide) (by decide)]
  exact v
theorem drip_sm {κ κ' : Ks} (h : sm κ κ') (s : Nat) : dripM κ' s = dripM κ s := by
  unfold dripM
  rw [h.2 54 (by decide) (by decide) (by decide) (by decide) (by decide), h.2 55 (by decide) (by decide) (by decide) (by decide) (by decide), h.2 56 (by decide) (by decide) (by decide) (by decide) (by decide), h.1.1]
theorem cntO_sm {κ κ' : Ks} (h : sm κ κ') (s : Int) : ∀ n : Nat, cntO κ' s n = cntO κ s n
  | 0 => rfl
  | n + 1 => by
    unfold cntO
    rw [cntO_sm h s n, openB_sm h]
theorem worth_sm {κ κ' : Ks} (h : sm κ κ') (s : Nat) : worthM κ' s = worthM κ s := by
  unfold worthM
  rw [cntO_sm h, drip_sm h]
def wdM (κ : Ks) (set : Int) : Nat → Int
  | 0 => 1
  | s + 1 => if wdM κ set s = 1 ∧ ¬ (bitI set s = 1 ∧ κ 56 s ≠ 0) then 1 else 0
def costM (κ : Ks) (set : Int) : Nat → Int
  | 0 => 0
  | s + 1 => costM κ set s + (if bitI set s = 1 then κ 54 s * κ 40 3 else 0)
def worM (κ : Ks) (set : Int) : Nat → Int
  | 0 => 0
  | s + 1 => worM κ set s + (if bitI set s = 1 then worthM κ s else 0)
abbrev bstC (κ : Ks) (sum set : Int) (p : Int × Int) : Prop := wdM κ set (κ 40 11).toNat = 1 ∧ costM κ set (κ 40 11).toNat ≤ sum ∧ (p.1 < worM κ set (κ 40 11).toNat ∨ worM κ set (κ 40 11).toNat = p.1 ∧ pc2 32 set < pc2 32 p.2)
/-- the best of the sets 1 .. k: worth, set -/
def bst (κ : Ks) (sum : Int) : Nat → Int × Int
  | 0 => (0, 0)
  | k + 1 => if bstC κ sum ((k : Int) + 1) (bst κ sum k) then (worM κ ((k : Int) + 1) (κ 40 11).toNat, (k : Int) + 1) else bst κ sum k
def bestM (κ : Ks) (sum : Int) : Int × Int := bst κ sum (2 ^ (κ 40 11).toNat - 1)
/-- posts of the calls that search -/
abbrev PS (p : Int × Ks) (V0 : Vs) : Po := fun r V κ => r = some (Iv p.1) ∧ V = V0 ∧ scr p.2 κ
def M_best (κ : Ks) (sum : Int) : Int × Ks := if sum < 0 then (-4, rfM κ 4) else if 10000 < sum then (-6, rfM κ 6) else ((bestM κ sum).2, κ)
def M_bestWorth (κ : Ks) (sum : Int) : Int × Ks := if sum < 0 then (-4, rfM κ 4) else if 10000 < sum then (-6, rfM κ 6) else ((bestM κ sum).1, κ)
theorem cost_R {κ : Ks} (h : MI κ) (set : Int) : ∀ s : Nat, (s : Int) ≤ κ 40 11 → 0 ≤ costM κ set s ∧ costM κ set s ≤ 4950 * s
  | 0, _ => ⟨by unfold costM; omega, by unfold costM; omega⟩
  | s + 1, hs => by
    have a := cost_R h set s (by omega)
    have b := (h.2.1 s (by omega)).2.1
    have c := h.1.2.2.2.1
    have p1 : 0 ≤ κ 54 s * κ 40 3 := Int.mul_nonneg (by omega) (by omega)
    have p2 : κ 54 s * κ 40 3 ≤ 50 * 99 := Int.mul_le_mul (by omega) (by omega) (by omega) (by omega)
    unfold costM
    split <;> omega
theorem wor_R {κ : Ks} (h : MI κ) (set : Int) : ∀ s : Nat, (s : Int) ≤ κ 40 11 → 0 ≤ worM κ set s ∧ worM κ set s ≤ 6720 * s
  | 0, _ => ⟨by unfold worM; omega, by unfold worM; omega⟩
  | s + 1, hs => by
    have a := wor_R h set s (by omega)
    have b := worth_R h (s := s) (by omega)
    unfold worM
    split <;> omega
theorem bst_R {κ : Ks} (h : MI κ) (sum : Int) : ∀ k : Nat, (0 ≤ (bst κ sum k).1 ∧ (bst κ sum k).1 ≤ 67200) ∧ 0 ≤ (bst κ sum k).2 ∧ (bst κ sum k).2 ≤ k
  | 0 => ⟨⟨by unfold bst; omega, by unfold bst; omega⟩, by unfold bst; omega, by unfold bst; omega⟩
  | k + 1 => by
    have a := bst_R h sum k
    have i5 := h.1.2.2.2.2.2.1
    have b := wor_R h ((k : Int) + 1) (κ 40 11).toNat (by omega)
    unfold bst
    split
    · exact ⟨⟨b.1, by show worM κ ((k : Int) + 1) (κ 40 11).toNat ≤ _; omega⟩, by show 0 ≤ (k : Int) + 1; omega, by show (k : Int) + 1 ≤ _; omega⟩
    · omega
