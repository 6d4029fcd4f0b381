/-! THE SPECIFICATION, on: opening by decision, hours, clashes, needs, rates, spans -/
def LetB (κ : Ks) (s h : Int) : Bool := (List.range (κ 40 31).toNat).any (fun u => decide (LetC κ s h u))
theorem letB_iff {κ : Ks} {s h : Int} : LetB κ s h = true ↔ LetP κ s h := by
  unfold LetB LetP
  rw [List.any_eq_true]
  constructor
  · rintro ⟨u, h1, h2⟩
    exact ⟨u, by have := List.mem_range.mp h1; omega, of_decide_eq_true h2⟩
  · rintro ⟨u, h1, h2⟩
    exact ⟨u, List.mem_range.mpr (by omega), decide_eq_true h2⟩
def opB (κ : Ks) (h : Int) : Nat → Int → Bool
  | 0, _ => true
  | f + 1, x => if x < 0 then true else LetB κ x h && opB κ h f (κ 53 x.toNat)
def openB (κ : Ks) (x h : Int) : Bool := opB κ h (x + 1).toNat x
theorem opB_iff {κ : Ks} (hS : MIst κ) {h : Int} : ∀ (f : Nat) (x : Int), x + 1 ≤ f → -1 ≤ x → x < κ 40 11 → (opB κ h f x = true ↔ OpenP κ x h)
  | 0, x, h1, h2, h3 => ⟨fun _ => open_neg (by omega), fun _ => rfl⟩
  | f + 1, x, h1, h2, h3 => by
    unfold opB
    by_cases hx : x < 0
    · rw [if_pos hx]
      exact ⟨fun _ => open_neg hx, fun _ => rfl⟩
    · rw [if_neg hx]
      have hs := (hS x.toNat (by omega)).1
      rw [Bool.and_eq_true, letB_iff, opB_iff hS f _ (by omega) (by omega) (by omega), ← open_step (by omega)]
theorem openB_iff {κ : Ks} (hS : MIst κ) {x h : Int} (h2 : -1 ≤ x) (h3 : x < κ 40 11) : openB κ x h = true ↔ OpenP κ x h := opB_iff hS _ x (by omega) h2 h3
abbrev clashC (κ : Ks) (t u : Nat) : Prop := (κ 75 u - κ 75 t + 168) % 168 < κ 76 t ∨ (κ 75 t - κ 75 u + 168) % 168 < κ 76 u ∨ (κ 75 u - κ 75 t + 168) % 168 < (wayM κ (κ 73 t) (κ 73 u) + 1) / 2 ∨ (κ 75 t - κ 75 u + 168) % 168 < (wayM κ (κ 73 t) (κ 73 u) + 1) / 2
abbrev clshP (κ : Ks) (c : Int) (t u : Nat) : Prop := κ 74 t = c ∧ κ 74 u = c ∧ κ 73 t ≠ κ 73 u ∧ clashC κ t u
def clsI (κ : Ks) (c : Int) (t : Nat) : Nat → Int
  | 0 => 0
  | u + 1 => clsI κ c t u + (if clshP κ c t u then 1 else 0)
def clsO (κ : Ks) (c : Int) : Nat → Int
  | 0 => 0
  | t + 1 => clsO κ c t + clsI κ c t t
def M_clashes (κ : Ks) (c : Int) : Int × Ks := if c < 0 ∨ 2 < c then (-1, rfM κ 1) else (clsO κ c (κ 40 31).toNat, κ)
def M_way (κ : Ks) (a b : Int) : Int × Ks := if (a < -1 ∨ κ 40 11 ≤ a) ∨ (b < -1 ∨ κ 40 11 ≤ b) then (-1, rfM κ 1) else (wayM κ a b, κ)
def M_let (κ : Ks) (s h w : Int) : Int × Ks := if s < 0 ∨ κ 40 11 ≤ s then (-1, rfM κ 1) else if h < 0 then (-4, rfM κ 4) else if 167 < h then (-6, rfM κ 6) else if w < 0 ∨ 1 < w then (-2, rfM κ 2) else (if w = 0 then (if LetB κ s h then 1 else 0) else (if openB κ s h then 1 else 0), κ)
-- an hour
def tkM (κ : Ks) (n : Int) : Ks := st2 κ 40 48 (κ 40 48 - min n (κ 40 48))
def fillM (κ : Ks) (h : Nat) : Ks :=
  if κ 66 h ≠ 0 then st2 (tkM κ (min 30 (κ 63 h - κ 68 h))) 68 h (κ 68 h + min (min 30 (κ 63 h - κ 68 h)) (κ 40 48))
  else if κ 63 h < κ 68 h + min 30 (κ 40 48) then st2 (st2 (st2 (tkM κ 30) 68 h (κ 68 h + min 30 (κ 40 48))) 40 7 (bm (κ 40 7 + (κ 68 h + min 30 (κ 40 48) - κ 63 h)))) 68 h (κ 63 h)
  else st2 (tkM κ 30) 68 h (κ 68 h + min 30 (κ 40 48))
def hsf (κ : Ks) (s f : Int) (n : Nat) : List Nat := (List.range n).filter (fun h => decide (κ 62 h = s ∧ κ 64 h = f))
def hl (κ : Ks) (s : Int) : Nat → List Nat
  | 0 => []
  | f + 1 => hl κ s f ++ hsf κ s f (κ 40 20).toNat
def plugM (κ : Ks) (s : Nat) : Ks := if κ 60 s ≠ 0 then st2 (tkM κ 60) 40 6 (bm (κ 40 6 + min 60 (κ 40 48))) else κ
def tunM (κ : Ks) (s : Nat) : Ks := if κ 57 s = 2 then st2 (st2 (tkM κ (min 40 (κ 58 s - κ 59 s))) 59 s (κ 59 s + min (min 40 (κ 58 s - κ 59 s)) (κ 40 48))) 40 10 (bm (κ 40 10 + min (min 40 (κ 58 s - κ 59 s)) (κ 40 48))) else κ
def serveM (κ : Ks) (s : Nat) : Ks := (hl κ s 10).foldl fillM (tunM (plugM κ s) s)
def someM (κ : Ks) (h : Int) : Nat → Bool
  | 0 => false
  | s + 1 => someM κ h s || openB κ s h
def pumpM (κ : Ks) (o : Bool) : Ks := if o = true ∧ κ 40 2 ≤ κ 40 4 then st2 (st2 (st2 (st2 κ 40 48 0) 40 4 (κ 40 4 - κ 40 2)) 40 48 (κ 40 1)) 40 9 (bm (κ 40 9 + 1)) else st2 κ 40 48 0
def leakS (κ : Ks) (h : Int) (s : Nat) : Ks := if openB κ s h then st2 (tkM κ (dripM κ s)) 40 5 (bm (κ 40 5 + min (dripM κ s) (κ 40 48))) else st2 κ 40 5 (bm (κ 40 5 + 0))
def leakM (κ : Ks) (h : Int) : Nat → Ks
  | 0 => κ
  | s + 1 => leakS (leakM κ h s) h s
def srvM (κ : Ks) (h : Int) : Nat → Ks
  | 0 => κ
  | s + 1 => if openB (srvM κ h s) s h then serveM (srvM κ h s) s else srvM κ h s
def drnkS (κ : Ks) (k : Nat) : Ks := st2 (st2 κ 69 k (bm (κ 69 k + (if κ 68 k < useM κ k then 1 else 0)))) 68 k (if κ 68 k < useM κ k then 0 else κ 68 k - useM κ k)
def drnkM (κ : Ks) : Nat → Ks
  | 0 => κ
  | k + 1 => drnkS (drnkM κ k) k
def passA (κ : Ks) : Ks := pumpM κ (someM κ (κ 40 0 % 168) (κ 40 11).toNat)
def passB (κ : Ks) : Ks := leakM (passA κ) (κ 40 0 % 168) (κ 40 11).toNat
def passC (κ : Ks) : Ks := srvM (passB κ) (κ 40 0 % 168) (κ 40 11).toNat
def passD (κ : Ks) : Ks := drnkM (st2 (passC κ) 40 8 (bm (passC κ 40 8 + passC κ 40 48))) (κ 40 20).toNat
def passM (κ : Ks) : Ks := st2 (passD κ) 40 0 (κ 40 0 + 1)
def passN (κ : Ks) : Nat → Ks
  | 0 => κ
  | n + 1 => passM (passN κ n)
def M_hours (κ : Ks) (n : Int) : Int × Ks := if n < 1 then (-4, rfM κ 4) else if 5000 - κ 40 0 < n then (-6, rfM κ 6) else (κ 40 0 + n, passN κ n.toNat)
-- needs, rates, spans
def ndH (κ : Ks) (s : Int) : Nat → Int
  | 0 => 0
  | h + 1 => ndH κ s h + (if κ 62 h = s then κ 63 h - κ 68 h else 0)
def needM (κ : Ks) (s : Nat) : Int := (if κ 57 s = 2 then κ 58 s - κ 59 s else 0) + ndH κ s (κ 40 20).toNat
def M_streetOf (κ : Ks) (s w : Int) : Int × Ks := if s < 0 ∨ κ 40 11 ≤ s then (-1, rfM κ 1) else if w = 0 then (κ 57 s.toNat, κ) else if w = 1 then (κ 59 s.toNat, κ) else if w = 2 then (dripM κ s.toNat, κ) else if w = 3 then (if κ 56 s.toNat ≠ 0 then 1 else 0, κ) else if w = 4 then (if κ 53 s.toNat < 0 then -9 else κ 53 s.toNat, κ) else if w = 5 then (if κ 60 s.toNat ≠ 0 then 1 else 0, κ) else if w = 6 then (needM κ s.toNat, κ) else (-2, rfM κ 2)
def lawM (κ : Ks) (d : Int) : Nat → Int
  | 0 => -1
  | k + 1 => if κ 86 k ≤ d ∧ (lawM κ d k < 0 ∨ κ 86 (lawM κ d k).toNat ≤ κ 86 k) then k else lawM κ d k
def rateM (κ : Ks) (l : Int) (h : Nat) : Int := if l < 0 then 0 else κ 83 l.toNat + κ 84 l.toNat * κ 64 h + κ 85 l.toNat * (κ 63 h / 10)
def M_rate (κ : Ks) (h d : Int) : Int × Ks := if h < 0 ∨ κ 40 20 ≤ h then (-1, rfM κ 1) else if d < 0 then (-4, rfM κ 4) else if 300 < d then (-6, rfM κ 6) else (rateM κ (lawM κ d (κ 40 41).toNat) h.toNat, κ)
def lowM (κ : Ks) (s : Int) : Nat → Int
  | 0 => 0
  | k + 1 => if κ 79 k = s then max (lowM κ s k) (κ 80 k - κ 81 k) else lowM κ s k
def highM (κ : Ks) (s : Int) : Nat → Int
  | 0 => 5000
  | k + 1 => if κ 79 k = s then min (highM κ s k) (κ 80 k + κ 81 k) else highM κ s k
def M_span (κ : Ks) (s w : Int) : Int × Ks := if s < 0 ∨ κ 40 11 ≤ s then (-1, rfM κ 1) else if w < 0 ∨ 1 < w then (-2, rfM κ 2) else (if highM κ s (κ 40 37).toNat < lowM κ s (κ 40 37).toNat then -9 else if w = 0 then lowM κ s (κ 40 37).toNat else highM κ s (κ 40 37).toNat, κ)
