/-! THE LINK between the class's cells (of κ) and the reference's (of μ), in groups, and their frames -/
def gA (κ μ : Ks) : Prop := κ 1 12 = μ 40 0 ∧ κ 1 13 = μ 40 4 ∧ κ 1 14 = μ 40 37
def gB (κ μ : Ks) : Prop := κ 8 0 = μ 40 1 ∧ κ 8 1 = μ 40 2 ∧ κ 8 2 = μ 40 3
def gC (κ μ : Ks) : Prop := ∀ c : Nat, c < 3 → κ 7 c = μ 77 c
def gD (κ μ : Ks) : Prop := ∀ j : Nat, 1 ≤ j → j ≤ 7 → κ 9 j = μ 87 j
def gE (κ μ : Ks) : Prop := κ 13 0 = μ 40 5 ∧ κ 13 1 = μ 40 6 ∧ κ 13 2 = μ 40 7 ∧ κ 13 3 = μ 40 8 ∧ κ 13 4 = μ 40 10 ∧ κ 13 5 = μ 40 9
def gF (κ μ : Ks) : Prop := ∀ r : Nat, r < 4 → κ (22 + 2 * r) 1 = μ 70 r ∧ ∀ j : Nat, (j : Int) < μ 70 r → κ (23 + 2 * r) j = μ 71 (24 * r + j)
def capN (n : Int) : Nat := if n ≤ 0 then 0 else if n ≤ 10 then 10 else if n ≤ 15 then 15 else if n ≤ 22 then 22 else 33
def etg (k : Nat) (n : Int) : Nat := if n ≤ 0 then 32 else 1000 + 100 * k + capN n
/-- list k holds n things, its k-th family's first n -/
def Lst (κ : Ks) (k : Nat) (n : Int) : Prop := κ (2 + k) 0 = n ∧ κ (2 + k) 1 = (etg k n : Int) ∧ κ (2 + k) 2 = n ∧ ∀ j : Nat, j < 100 → 0 < n → κ (etg k n) j = if (j : Int) < n then 100 * (k : Int) + 100 + j else 0
def gG (κ μ : Ks) : Prop := Lst κ 0 (μ 40 11) ∧ Lst κ 1 (μ 40 20) ∧ Lst κ 2 (μ 40 31) ∧ Lst κ 3 (μ 40 41)
def gS (κ μ : Ks) : Prop := ∀ s : Nat, (s : Int) < μ 40 11 → κ (100 + s) 0 = μ 53 s ∧ κ (100 + s) 1 = μ 54 s ∧ κ (100 + s) 2 = μ 55 s ∧ κ (100 + s) 3 = μ 56 s ∧ κ (100 + s) 4 = μ 57 s ∧ κ (100 + s) 5 = (if μ 57 s = 2 then μ 58 s else 0) ∧ κ (100 + s) 6 = μ 59 s ∧ κ (100 + s) 7 = μ 60 s
def gL (κ μ : Ks) : Prop := ∀ s : Nat, (s : Int) < μ 40 11 → κ (100 + s) 8 = lowM μ s (μ 40 37).toNat ∧ κ (100 + s) 9 = highM μ s (μ 40 37).toNat
def gH (κ μ : Ks) : Prop := ∀ h : Nat, (h : Int) < μ 40 20 → κ (200 + h) 0 = μ 62 h ∧ κ (200 + h) 1 = μ 63 h ∧ κ (200 + h) 2 = μ 64 h ∧ κ (200 + h) 3 = μ 65 h ∧ κ (200 + h) 4 = μ 66 h ∧ κ (200 + h) 5 = μ 67 h ∧ κ (200 + h) 6 = μ 68 h ∧ κ (200 + h) 7 = μ 69 h
def chn (nx : Nat → Int) : Int → List Nat → Prop
  | v, [] => v = 0
  | v, h :: l => v = 200 + (h : Int) ∧ chn nx (nx h) l
def gN (κ μ : Ks) : Prop := ∀ s : Nat, (s : Int) < μ 40 11 → chn (fun h => κ (200 + h) 8) (κ (100 + s) 10) (hl μ s 10)
def gT (κ μ : Ks) : Prop := ∀ t : Nat, (t : Int) < μ 40 31 → κ (300 + t) 0 = μ 73 t ∧ κ (300 + t) 1 = μ 74 t ∧ κ (300 + t) 2 = μ 75 t ∧ κ (300 + t) 3 = μ 76 t
def gW (κ μ : Ks) : Prop := ∀ l : Nat, (l : Int) < μ 40 41 → κ (400 + l) 0 = μ 83 l ∧ κ (400 + l) 1 = μ 84 l ∧ κ (400 + l) 2 = μ 85 l ∧ κ (400 + l) 3 = μ 86 l
def gK (κ μ : Ks) : Prop := ∀ h : Nat, h < 168 → (0 ≤ κ 11 h ∧ κ 11 h < 1024 ∧ ∀ s : Nat, s < 10 → bitI (κ 11 h) s = if LetB μ s h then 1 else 0) ∧ (0 ≤ κ 12 h ∧ κ 12 h < 1024 ∧ ∀ s : Nat, s < 10 → bitI (κ 12 h) s = if (s : Int) < μ 40 11 ∧ openB μ s h = true then 1 else 0)
def gZ (κ μ : Ks) : Prop := (((κ 30 0 = 0 ∧ κ 30 1 = 0 ∧ κ 30 2 = 1) ∧ κ 31 0 = 5000 ∧ κ 31 1 = 50 ∧ κ 31 2 = 99) ∧ κ 16 0 = 0 ∧ ∀ d : Nat, d < 7 → κ 21 d = 0) ∧ κ 33 = μ 33
def CI (κ μ : Ks) : Prop := gA κ μ ∧ gB κ μ ∧ gC κ μ ∧ gD κ μ ∧ gE κ μ ∧ gF κ μ ∧ gG κ μ ∧ gS κ μ ∧ gL κ μ ∧ gH κ μ ∧ gN κ μ ∧ gT κ μ ∧ gW κ μ ∧ gK κ μ ∧ gZ κ μ
def LVP (V : Vs) (μ : Ks) : Prop := (V 30 = true ∧ V 31 = true ∧ V 32 = true ∧ V 34 = true) ∧ (∀ s : Nat, μ 40 11 ≤ s → s < 100 → V (100 + s) = false) ∧ (∀ s : Nat, μ 40 20 ≤ s → s < 100 → V (200 + s) = false) ∧ (∀ s : Nat, μ 40 31 ≤ s → s < 100 → V (300 + s) = false) ∧ (∀ s : Nat, μ 40 41 ≤ s → s < 100 → V (400 + s) = false) ∧
  (∀ c : Nat, capN (μ 40 11) < c → c < 100 → V (1000 + 100 * 0 + c) = false) ∧ (∀ c : Nat, capN (μ 40 20) < c → c < 100 → V (1000 + 100 * 1 + c) = false) ∧ (∀ c : Nat, capN (μ 40 31) < c → c < 100 → V (1000 + 100 * 2 + c) = false) ∧ ∀ c : Nat, capN (μ 40 41) < c → c < 100 → V (1000 + 100 * 3 + c) = false
def eqM (κ κ' : Ks) : Prop := ∀ t : Nat, 40 ≤ t → t < 100 → κ' t = κ t
theorem eqM.rf (κ : Ks) : eqM κ κ := fun _ _ _ => rfl
theorem eqM.st {κ κ' : Ks} (h : eqM κ κ') {t j : Nat} {v : Int} (ht : t < 40 ∨ 100 ≤ t) : eqM κ (st2 κ' t j v) := fun a h1 h2 => (st2_t (by omega)).trans (h a h1 h2)
def Inv (κ : Ks) (V : Vs) : Prop := MI κ ∧ CI κ κ ∧ LVP V κ
/-- the end of a call of the class: the answer, the reference's cells as they were, the link with what the reference will have -/
abbrev PC (κ0 : Ks) (p : Int × Ks) : Po := fun r V κ => r = some (Iv p.1) ∧ LVP V p.2 ∧ eqM κ0 κ ∧ CI κ p.2
-- frames
section FR
variable {κ κ' μ μ' : Ks}
theorem gA.fr (h : gA κ μ) (k12 : κ' 1 12 = κ 1 12) (k13 : κ' 1 13 = κ 1 13) (k14 : κ' 1 14 = κ 1 14) (m0 : μ' 40 0 = μ 40 0) (m4 : μ' 40 4 = μ 40 4) (m37 : μ' 40 37 = μ 40 37) : gA κ' μ' := by
  unfold gA at h ⊢
  rw [k12, k13, k14, m0, m4, m37]
  exact h
theorem gB.fr (h : gB κ μ) (k8 : κ' 8 = κ 8) (m1 : μ' 40 1 = μ 40 1) (m2 : μ' 40 2 = μ 40 2) (m3 : μ' 40 3 = μ 40 3) : gB κ' μ' := by
  unfold gB at h ⊢
  rw [k8, m1, m2, m3]
  exact h
theorem gC.fr (h : gC κ μ) (k7 : κ' 7 = κ 7) (m77 : μ' 77 = μ 77) : gC κ' μ' := by
  unfold gC at h ⊢
  rw [k7, m77]
  exact h
theorem gD.fr (h : gD κ μ) (k9 : κ' 9 = κ 9) (m87 : μ' 87 = μ 87) : gD κ' μ' := by
  unfold gD at h ⊢
  rw [k9, m87]
  exact h
theorem gE.fr (h : gE κ μ) (k13 : κ' 13 = κ 13) (m5 : μ' 40 5 = μ 40 5) (m6 : μ' 40 6 = μ 40 6) (m7 : μ' 40 7 = μ 40 7) (m8 : μ' 40 8 = μ 40 8) (m9 : μ' 40 9 = μ 40 9) (m10 : μ' 40 10 = μ 40 10) : gE κ' μ' := by
  unfold gE at h ⊢
  rw [k13, m5, m6, m7, m8, m9, m10]
  exact h
theorem gF.fr (h : gF κ μ) (kr : ∀ t, 22 ≤ t → t < 30 → κ' t = κ t) (m70 : μ' 70 = μ 70) (m71 : μ' 71 = μ 71) : gF κ' μ' := fun r hr => by
  rw [kr (22 + 2 * r) (by omega) (by omega), kr (23 + 2 * r) (by omega) (by omega), m70, m71]
  exact h r hr
theorem Lst.fr {k : Nat} {n : Int} (h : Lst κ k n) (kt : κ' (2 + k) = κ (2 + k)) (ke : 0 < n → κ' (etg k n) = κ (etg k n)) : Lst κ' k n := by
  unfold Lst at h ⊢
  rw [kt]
  exact ⟨h.1, h.2.1, h.2.2.1, fun j hj hn => by rw [ke hn]; exact h.2.2.2 j hj hn⟩
theorem etg_ge {k : Nat} {n : Int} (h : 0 < n) : 1000 ≤ etg k n := by
  unfold etg
  rw [if_neg (by omega)]
  omega
theorem gG.fr (h : gG κ μ) (k2 : κ' 2 = κ 2) (k3 : κ' 3 = κ 3) (k4 : κ' 4 = κ 4) (k5 : κ' 5 = κ 5) (ke : ∀ t, 1000 ≤ t → κ' t = κ t) (m11 : μ' 40 11 = μ 40 11) (m20 : μ' 40 20 = μ 40 20) (m31 : μ' 40 31 = μ 40 31) (m41 : μ' 40 41 = μ 40 41) : gG κ' μ' := by
  unfold gG at h ⊢
  rw [m11, m20, m31, m41]
  exact ⟨h.1.fr k2 (fun z => ke _ (etg_ge z)), h.2.1.fr k3 (fun z => ke _ (etg_ge z)), h.2.2.1.fr k4 (fun z => ke _ (etg_ge z)), h.2.2.2.fr k5 (fun z => ke _ (etg_ge z))⟩
theorem gS.fr (h : gS κ μ) (ks : ∀ s j : Nat, (s : Int) < μ 40 11 → j < 8 → κ' (100 + s) j = κ (100 + s) j) (m11 : μ' 40 11 = μ 40 11) (mt : ∀ t, 53 ≤ t → t ≤ 60 → μ' t = μ t) : gS κ' μ' := fun s hs => by
  rw [m11] at hs
  rw [ks s 0 hs (by decide), ks s 1 hs (by decide), ks s 2 hs (by decide), ks s 3 hs (by decide), ks s 4 hs (by decide), ks s 5 hs (by decide), ks s 6 hs (by decide), ks s 7 hs (by decide), mt 53 (by decide) (by decide), mt 54 (by decide) (by decide), mt 55 (by decide) (by decide), mt 56 (by decide) (by decide), mt 57 (by decide) (by decide), mt 58 (by decide) (by decide), mt 59 (by decide) (by decide), mt 60 (by decide) (by decide)]
  exact h s hs
theorem lowM_eq (h79 : μ' 79 = μ 79) (h80 : μ' 80 = μ 80) (h81 : μ' 81 = μ 81) (s : Int) : ∀ n, lowM μ' s n = lowM μ s n
  | 0 => rfl
  | n + 1 => by
    unfold lowM
    rw [lowM_eq h79 h80 h81 s n, h79, h80, h81]
theorem highM_eq (h79 : μ' 79 = μ 79) (h80 : μ' 80 = μ 80) (h81 : μ' 81 = μ 81) (s : Int) : ∀ n, highM μ' s n = highM μ s n
  | 0 => rfl
  | n + 1 => by
    unfold highM
    rw [highM_eq h79 h80 h81 s n, h79, h80, h81]
theorem gL.fr (h : gL κ μ) (ks : ∀ s j : Nat, (s : Int) < μ 40 11 → j = 8 ∨ j = 9 → κ' (100 + s) j = κ (100 + s) j) (m11 : μ' 40 11 = μ 40 11) (m37 : μ' 40 37 = μ 40 37) (m79 : μ' 79 = μ 79) (m80 : μ' 80 = μ 80) (m81 : μ' 81 = μ 81) : gL κ' μ' := fun s hs => by
  rw [m11] at hs
  rw [ks s 8 hs (by decide), ks s 9 hs (by decide), m37, lowM_eq m79 m80 m81, highM_eq m79 m80 m81]
  exact h s hs
theorem gH.fr (h : gH κ μ) (ks : ∀ s j : Nat, (s : Int) < μ 40 20 → j < 8 → κ' (200 + s) j = κ (200 + s) j) (m20 : μ' 40 20 = μ 40 20) (mt : ∀ t, 62 ≤ t → t ≤ 69 → μ' t = μ t) : gH κ' μ' := fun s hs => by
  rw [m20] at hs
  rw [ks s 0 hs (by decide), ks s 1 hs (by decide), ks s 2 hs (by decide), ks s 3 hs (by decide), ks s 4 hs (by decide), ks s 5 hs (by decide), ks s 6 hs (by decide), ks s 7 hs (by decide), mt 62 (by decide) (by decide), mt 63 (by decide) (by decide), mt 64 (by decide) (by decide), mt 65 (by decide) (by decide), mt 66 (by decide) (by decide), mt 67 (by decide) (by decide), mt 68 (by decide) (by decide), mt 69 (by decide) (by decide)]
  exact h s hs
theorem hsf_eq (h62 : μ' 62 = μ 62) (h64 : μ' 64 = μ 64) (s f : Int) (n : Nat) : hsf μ' s f n = hsf μ s f n := by
  unfold hsf
  rw [h62, h64]
theorem hl_eq (h62 : μ' 62 = μ 62) (h64 : μ' 64 = μ 64) (m20 : μ' 40 20 = μ 40 20) (s : Int) : ∀ f, hl μ' s f = hl μ s f
  | 0 => rfl
  | f + 1 => by
    unfold hl
    rw [hl_eq h62 h64 m20 s f, hsf_eq h62 h64, m20]
theorem chn_congr {nx nx' : Nat → Int} : ∀ (l : List Nat) {v : Int}, (∀ h ∈ l, nx' h = nx h) → chn nx v l → chn nx' v l
  | [], _, _, h => h
  | k :: l, v, e, h => ⟨h.1, by rw [e k List.mem_cons_self]; exact chn_congr l (fun a ha => e a (List.mem_cons_of_mem _ ha)) h.2⟩
theorem gN.fr (h : gN κ μ) (h6 : 0 ≤ μ 40 20) (ks : ∀ s : Nat, (s : Int) < μ 40 11 → κ' (100 + s) 10 = κ (100 + s) 10) (kh : ∀ s : Nat, (s : Int) < μ 40 20 → κ' (200 + s) 8 = κ (200 + s) 8) (m11 : μ' 40 11 = μ 40 11) (m20 : μ' 40 20 = μ 40 20) (m62 : μ' 62 = μ 62) (m64 : μ' 64 = μ 64) : gN κ' μ' := fun s hs => by
  rw [m11] at hs
  rw [ks s hs, hl_eq m62 m64 m20]
  exact chn_congr _ (fun k hk => kh k (hl_lt h6 hk)) (h s hs)
theorem gT.fr (h : gT κ μ) (ks : ∀ t : Nat, (t : Int) < μ 40 31 → κ' (300 + t) = κ (300 + t)) (m31 : μ' 40 31 = μ 40 31) (m73 : μ' 73 = μ 73) (m74 : μ' 74 = μ 74) (m75 : μ' 75 = μ 75) (m76 : μ' 76 = μ 76) : gT κ' μ' := fun t ht => by
  rw [m31] at ht
  rw [ks t ht, m73, m74, m75, m76]
  exact h t ht
theorem gW.fr (h : gW κ μ) (ks : ∀ t : Nat, (t : Int) < μ 40 41 → κ' (400 + t) = κ (400 + t)) (m41 : μ' 40 41 = μ 40 41) (m83 : μ' 83 = μ 83) (m84 : μ' 84 = μ 84) (m85 : μ' 85 = μ 85) (m86 : μ' 86 = μ 86) : gW κ' μ' := fun t ht => by
  rw [m41] at ht
  rw [ks t ht, m83, m84, m85, m86]
  exact h t ht
theorem letB_eq (m31 : μ' 40 31 = μ 40 31) (m73 : μ' 73 = μ 73) (m75 : μ' 75 = μ 75) (m76 : μ' 76 = μ 76) (s x : Int) : LetB μ' s x = LetB μ s x := by simp only [LetB, LetC, m31, m73, m75, m76]
theorem opB_eq (m31 : μ' 40 31 = μ 40 31) (m53 : μ' 53 = μ 53) (m73 : μ' 73 = μ 73) (m75 : μ' 75 = μ 75) (m76 : μ' 76 = μ 76) (x : Int) : ∀ (f : Nat) (s : Int), opB μ' x f s = opB μ x f s
  | 0, _ => rfl
  | f + 1, s => by
    unfold opB
    rw [letB_eq m31 m73 m75 m76, m53, opB_eq m31 m53 m73 m75 m76 x f]
theorem openB_eq (m31 : μ' 40 31 = μ 40 31) (m53 : μ' 53 = μ 53) (m73 : μ' 73 = μ 73) (m75 : μ' 75 = μ 75) (m76 : μ' 76 = μ 76) (s x : Int) : openB μ' s x = openB μ s x := opB_eq m31 m53 m73 m75 m76 x _ s
theorem gK.fr (h : gK κ μ) (k11 : κ' 11 = κ 11) (k12 : κ' 12 = κ 12) (m11 : μ' 40 11 = μ 40 11) (m31 : μ' 40 31 = μ 40 31) (m53 : μ' 53 = μ 53) (m73 : μ' 73 = μ 73) (m75 : μ' 75 = μ 75) (m76 : μ' 76 = μ 76) : gK κ' μ' := fun x hx => by
  have q := h x hx
  rw [k11, k12, m11]
  refine ⟨⟨q.1.1, q.1.2.1, fun s hs => ?_⟩, q.2.1, q.2.2.1, fun s hs => ?_⟩
  · rw [letB_eq m31 m73 m75 m76]
    exact q.1.2.2 s hs
  · rw [openB_eq m31 m53 m73 m75 m76]
    exact q.2.2.2 s hs
theorem gZ.fr (h : gZ κ μ) (k30 : κ' 30 = κ 30) (k31 : κ' 31 = κ 31) (k16 : κ' 16 = κ 16) (k21 : κ' 21 = κ 21) (k33 : κ' 33 = κ 33) (m33 : μ' 33 = μ 33) : gZ κ' μ' := by
  unfold gZ at h ⊢
  rw [k30, k31, k16, k21, k33, m33]
  exact h
theorem LVP.fr {V : Vs} (h : LVP V μ) (m11 : μ' 40 11 = μ 40 11) (m20 : μ' 40 20 = μ 40 20) (m31 : μ' 40 31 = μ 40 31) (m41 : μ' 40 41 = μ 40 41) : LVP V μ' := by
  unfold LVP at h ⊢
  rw [m11, m20, m31, m41]
  exact h
end FR
