/-! THE SPECIFICATION: what each call answers and does to the reference's cells; what holds of these between calls -/
abbrev PM (p : Int × Ks) (V0 : Vs) : Po := fun r V κ => r = some (Iv p.1) ∧ V = V0 ∧ κ = p.2
def MIs (κ : Ks) : Prop := (0 ≤ κ 40 0 ∧ κ 40 0 ≤ 5000) ∧ (0 ≤ κ 40 1 ∧ κ 40 1 ≤ 5000) ∧ (0 ≤ κ 40 2 ∧ κ 40 2 ≤ 50) ∧ (1 ≤ κ 40 3 ∧ κ 40 3 ≤ 99) ∧ (0 ≤ κ 40 4 ∧ κ 40 4 ≤ 100000) ∧ (0 ≤ κ 40 11 ∧ κ 40 11 ≤ 10) ∧ (0 ≤ κ 40 20 ∧ κ 40 20 ≤ 24) ∧ (0 ≤ κ 40 31 ∧ κ 40 31 ≤ 30) ∧ (0 ≤ κ 40 37 ∧ κ 40 37 ≤ 40) ∧ (0 ≤ κ 40 41 ∧ κ 40 41 ≤ 20)
def MIst (κ : Ks) : Prop := ∀ s : Nat, (s : Int) < κ 40 11 → (-1 ≤ κ 53 s ∧ κ 53 s < s) ∧ (1 ≤ κ 54 s ∧ κ 54 s ≤ 50) ∧ (0 ≤ κ 55 s ∧ κ 55 s ≤ κ 40 0 / 168) ∧ (κ 56 s = 0 ∨ κ 56 s = 1) ∧ (0 ≤ κ 57 s ∧ κ 57 s ≤ 2) ∧ (0 ≤ κ 58 s ∧ κ 58 s ≤ 2000) ∧ (0 ≤ κ 59 s ∧ κ 59 s ≤ κ 58 s) ∧ (κ 60 s = 0 ∨ κ 60 s = 1) ∧ (κ 57 s ≠ 2 → κ 59 s = 0)
def MIh (κ : Ks) : Prop := ∀ h : Nat, (h : Int) < κ 40 20 → (0 ≤ κ 62 h ∧ κ 62 h < κ 40 11) ∧ (10 ≤ κ 63 h ∧ κ 63 h ≤ 500) ∧ (0 ≤ κ 64 h ∧ κ 64 h ≤ 9) ∧ (0 ≤ κ 65 h ∧ κ 65 h ≤ 20) ∧ (κ 66 h = 0 ∨ κ 66 h = 1) ∧ (-1 ≤ κ 67 h ∧ κ 67 h ≤ 3) ∧ (0 ≤ κ 68 h ∧ κ 68 h ≤ κ 63 h)
def MIr (κ : Ks) : Prop := ∀ r : Nat, r < 4 → (-1 ≤ κ 70 r ∧ κ 70 r ≤ 24) ∧ ∀ k : Nat, (k : Int) < κ 70 r → 0 ≤ κ 71 (24 * r + k) ∧ κ 71 (24 * r + k) ≤ 20
def MIt (κ : Ks) : Prop := ∀ t : Nat, (t : Int) < κ 40 31 → (0 ≤ κ 73 t ∧ κ 73 t < κ 40 11) ∧ (0 ≤ κ 74 t ∧ κ 74 t ≤ 2) ∧ (0 ≤ κ 75 t ∧ κ 75 t ≤ 167) ∧ (1 ≤ κ 76 t ∧ κ 76 t ≤ 6)
def MIc (κ : Ks) : Prop := ∀ c : Nat, c < 3 → -1 ≤ κ 77 c ∧ κ 77 c < κ 40 11
def MIg (κ : Ks) : Prop := ∀ k : Nat, (k : Int) < κ 40 37 → (0 ≤ κ 79 k ∧ κ 79 k < κ 40 11) ∧ (-5000 ≤ κ 80 k ∧ κ 80 k ≤ 5000) ∧ (0 ≤ κ 81 k ∧ κ 81 k ≤ 50)
def MIl (κ : Ks) : Prop := ∀ k : Nat, (k : Int) < κ 40 41 → (0 ≤ κ 83 k ∧ κ 83 k ≤ 999) ∧ (0 ≤ κ 84 k ∧ κ 84 k ≤ 99) ∧ (0 ≤ κ 85 k ∧ κ 85 k ≤ 99) ∧ (0 ≤ κ 86 k ∧ κ 86 k ≤ 300)
def MIz (κ : Ks) : Prop := (∀ s : Nat, κ 40 11 ≤ s → s < 10 → κ 56 s = 0 ∧ κ 57 s = 0 ∧ κ 59 s = 0 ∧ κ 60 s = 0) ∧ ∀ h : Nat, κ 40 20 ≤ h → h < 24 → κ 68 h = 0 ∧ κ 69 h = 0
def MI (κ : Ks) : Prop := MIs κ ∧ MIst κ ∧ MIh κ ∧ MIr κ ∧ MIt κ ∧ MIc κ ∧ MIg κ ∧ MIl κ ∧ MIz κ
def rfM (κ : Ks) (j : Nat) : Ks := st2 κ 87 j (bm (κ 87 j + 1))
def M_street (κ : Ks) (a l : Int) : Int × Ks := if a < -1 ∨ κ 40 11 ≤ a then (-1, rfM κ 1) else if l < 1 then (-4, rfM κ 4) else if 50 < l ∨ κ 40 11 = 10 then (-6, rfM κ 6) else (κ 40 11, st2 (st2 (st2 (st2 κ 53 (κ 40 11).toNat a) 54 (κ 40 11).toNat l) 55 (κ 40 11).toNat (κ 40 0 / 168)) 40 11 (κ 40 11 + 1))
def M_set (κ : Ks) (w v : Int) : Int × Ks := if w < 0 ∨ 2 < w then (-2, rfM κ 2) else if v < (if w = 2 then 1 else 0) then (-4, rfM κ 4) else if (if w = 0 then 5000 else if w = 1 then 50 else 99) < v then (-6, rfM κ 6) else (if w = 0 then κ 40 1 else if w = 1 then κ 40 2 else κ 40 3, st2 (st2 (st2 κ 40 1 (if w = 0 then v else κ 40 1)) 40 2 (if w = 1 then v else κ 40 2)) 40 3 (if w = 2 then v else κ 40 3))
def M_coal (κ : Ks) (n : Int) : Int × Ks := if n < 0 then (-4, rfM κ 4) else if 100000 - κ 40 4 < n then (-6, rfM κ 6) else (κ 40 4 + n, st2 κ 40 4 (κ 40 4 + n))
def M_house (κ : Ks) (s c f u b : Int) : Int × Ks := if s < 0 ∨ κ 40 11 ≤ s then (-1, rfM κ 1) else if c < 10 ∨ f < 0 ∨ u < 0 then (-4, rfM κ 4) else if 500 < c ∨ 9 < f ∨ 20 < u ∨ κ 40 20 = 24 then (-6, rfM κ 6) else (κ 40 20, st2 (st2 (st2 (st2 (st2 (st2 (st2 κ 62 (κ 40 20).toNat s) 63 (κ 40 20).toNat c) 64 (κ 40 20).toNat f) 65 (κ 40 20).toNat u) 66 (κ 40 20).toNat b) 67 (κ 40 20).toNat (-1)) 40 20 (κ 40 20 + 1))
def zrow (κ : Ks) (r : Nat) : Nat → Ks
  | 0 => κ
  | k + 1 => st2 (zrow κ r k) 71 (24 * r + k) 0
def M_row (κ : Ks) (r n : Int) : Int × Ks := if r < 0 ∨ 3 < r then (-1, rfM κ 1) else if n < 0 then (-4, rfM κ 4) else if 24 < n then (-6, rfM κ 6) else (n, zrow (st2 κ 70 r.toNat n) r.toNat n.toNat)
def M_lose (κ : Ks) (r : Int) : Int × Ks := if r < 0 ∨ 3 < r then (-1, rfM κ 1) else (if κ 70 r.toNat < 0 then 0 else 1, st2 κ 70 r.toNat (-1))
def M_put (κ : Ks) (r p n : Int) : Int × Ks := if r < 0 ∨ 3 < r then (-1, rfM κ 1) else if κ 70 r.toNat < 0 then (-5, rfM κ 5) else if p < 0 ∨ κ 70 r.toNat ≤ p then (-7, rfM κ 7) else if n < 0 then (-4, rfM κ 4) else if 20 < n then (-6, rfM κ 6) else (κ 71 (24 * r + p).toNat, st2 κ 71 (24 * r + p).toNat n)
def cpy1 (κ : Ks) (a : Nat) : Nat → Ks
  | 0 => κ
  | k + 1 => st2 (cpy1 κ a k) 88 k (κ 71 (a + k))
def cpy2 (κ : Ks) (b : Nat) : Nat → Ks
  | 0 => κ
  | k + 1 => st2 (cpy2 κ b k) 71 (b + k) (κ 88 k)
def M_copy (κ : Ks) (r i s j n : Int) : Int × Ks := if (r < 0 ∨ 3 < r) ∨ (s < 0 ∨ 3 < s) then (-1, rfM κ 1) else if κ 70 r.toNat < 0 ∨ κ 70 s.toNat < 0 then (-5, rfM κ 5) else if n < 0 ∨ 24 < n ∨ i < 0 ∨ j < 0 ∨ κ 70 r.toNat - n < i ∨ κ 70 s.toNat - n < j then (-7, rfM κ 7) else (n, cpy2 (cpy1 κ (24 * r + i).toNat n.toNat) (24 * s + j).toNat n.toNat)
def M_lead (κ : Ks) (h r : Int) : Int × Ks := if (h < 0 ∨ κ 40 20 ≤ h) ∨ (r < -1 ∨ 3 < r) then (2000000001, rfM κ 1) else (κ 67 h.toNat, st2 κ 67 h.toNat r)
def useM (κ : Ks) (h : Nat) : Int := if 0 ≤ κ 67 h ∧ 0 < κ 70 (κ 67 h).toNat then κ 71 (24 * κ 67 h + κ 40 0 % 24 % κ 70 (κ 67 h).toNat).toNat else κ 65 h
def M_end (κ : Ks) (s z : Int) : Int × Ks := if s < 0 ∨ κ 40 11 ≤ s then (-1, rfM κ 1) else if 0 < κ 57 s.toNat then (-3, rfM κ 3) else if z < 0 ∨ (1 ≤ z ∧ z ≤ 49) then (-4, rfM κ 4) else if 2000 < z then (-6, rfM κ 6) else (1, st2 (st2 (st2 (st2 κ 57 s.toNat (if z = 0 then 1 else 2)) 58 s.toNat z) 59 s.toNat 0) 60 s.toNat 0)
def M_clear (κ : Ks) (s : Int) : Int × Ks := if s < 0 ∨ κ 40 11 ≤ s then (-1, rfM κ 1) else if κ 57 s.toNat = 0 then (-5, rfM κ 5) else (if κ 57 s.toNat = 2 then κ 59 s.toNat else 0, st2 (st2 (st2 κ 57 s.toNat 0) 59 s.toNat 0) 60 s.toNat 0)
def M_draw (κ : Ks) (s b : Int) : Int × Ks := if s < 0 ∨ κ 40 11 ≤ s then (-1, rfM κ 1) else if κ 57 s.toNat = 0 then (-5, rfM κ 5) else if κ 57 s.toNat = 2 then (-2, rfM κ 2) else (if κ 60 s.toNat = b then 0 else 1, st2 κ 60 s.toNat b)
def M_brew (κ : Ks) (s n : Int) : Int × Ks := if s < 0 ∨ κ 40 11 ≤ s then (-1, rfM κ 1) else if κ 57 s.toNat = 0 then (-5, rfM κ 5) else if κ 57 s.toNat = 1 then (-2, rfM κ 2) else if n < 0 then (-4, rfM κ 4) else if κ 59 s.toNat < n then (-6, rfM κ 6) else (κ 59 s.toNat - n, st2 κ 59 s.toNat (κ 59 s.toNat - n))
def M_turn (κ : Ks) (s c y h n : Int) : Int × Ks := if (s < 0 ∨ κ 40 11 ≤ s) ∨ (c < 0 ∨ 2 < c) then (-1, rfM κ 1) else if y < 0 ∨ h < 0 ∨ n < 1 then (-4, rfM κ 4) else if 6 < y ∨ 23 < h ∨ 6 < n ∨ κ 40 31 = 30 then (-6, rfM κ 6) else (κ 40 31, st2 (st2 (st2 (st2 (st2 κ 73 (κ 40 31).toNat s) 74 (κ 40 31).toNat c) 75 (κ 40 31).toNat (24 * y + h)) 76 (κ 40 31).toNat n) 40 31 (κ 40 31 + 1))
def dripM (κ : Ks) (s : Nat) : Int := if κ 56 s ≠ 0 then 0 else κ 54 s * (1 + (κ 40 0 / 168 - κ 55 s) / 4) / 10
def M_iron (κ : Ks) (s : Int) : Int × Ks := if s < 0 ∨ κ 40 11 ≤ s then (-1, rfM κ 1) else if κ 56 s.toNat ≠ 0 then (-3, rfM κ 3) else (κ 40 0 / 168 - κ 55 s.toNat, st2 (st2 κ 56 s.toNat 1) 55 s.toNat (κ 40 0 / 168))
def M_renew (κ : Ks) (s : Int) : Int × Ks := if s < 0 ∨ κ 40 11 ≤ s then (-1, rfM κ 1) else if κ 56 s.toNat ≠ 0 then (-3, rfM κ 3) else (κ 40 0 / 168 - κ 55 s.toNat, st2 κ 55 s.toNat (κ 40 0 / 168))
def M_stand (κ : Ks) (c s : Int) : Int × Ks := if (c < 0 ∨ 2 < c) ∨ (s < -1 ∨ κ 40 11 ≤ s) then (2000000001, rfM κ 1) else (κ 77 c.toNat, st2 κ 77 c.toNat s)
def M_reading (κ : Ks) (s i t d : Int) : Int × Ks := if s < 0 ∨ κ 40 11 ≤ s then (-1, rfM κ 1) else if i < 0 ∨ t < 0 ∨ d < 0 then (-4, rfM κ 4) else if 5000 < i ∨ 5000 < t ∨ 50 < d ∨ κ 40 37 = 40 then (-6, rfM κ 6) else (κ 40 37 + 1, st2 (st2 (st2 (st2 κ 79 (κ 40 37).toNat s) 80 (κ 40 37).toNat (i - t)) 81 (κ 40 37).toNat d) 40 37 (κ 40 37 + 1))
def M_law (κ : Ks) (h f t d : Int) : Int × Ks := if h < 0 ∨ f < 0 ∨ t < 0 ∨ d < κ 40 0 / 24 then (-4, rfM κ 4) else if 999 < h ∨ 99 < f ∨ 99 < t ∨ 300 < d ∨ κ 40 41 = 20 then (-6, rfM κ 6) else (κ 40 41, st2 (st2 (st2 (st2 (st2 κ 83 (κ 40 41).toNat h) 84 (κ 40 41).toNat f) 85 (κ 40 41).toNat t) 86 (κ 40 41).toNat d) 40 41 (κ 40 41 + 1))
def M_houseOf (κ : Ks) (h w : Int) : Int × Ks := if h < 0 ∨ κ 40 20 ≤ h then (-1, rfM κ 1) else if w = 0 then (κ 68 h.toNat, κ) else if w = 1 then (κ 69 h.toNat, κ) else if w = 2 then (useM κ h.toNat, κ) else if w = 3 then (κ 62 h.toNat, κ) else (-2, rfM κ 2)
def M_count (κ : Ks) (w : Int) : Int × Ks := (if w = 0 then κ 40 0 else if w = 1 then κ 40 11 else if w = 2 then κ 40 20 else if w = 3 then κ 40 4 else if w = 4 then κ 40 5 else if w = 5 then κ 40 6 else if w = 6 then κ 40 7 else if w = 7 then κ 40 8 else if w = 8 then κ 40 31 else if w = 9 then κ 40 37 else if w = 10 then κ 40 41 else if w = 18 then κ 40 9 else if w = 19 then κ 40 10 else if 11 ≤ w ∧ w ≤ 17 then κ 87 (w - 10).toNat else -9, κ)
