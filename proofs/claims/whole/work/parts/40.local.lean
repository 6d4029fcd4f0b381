/-! a call of the reference reads and writes tags 40 to 99 only (printed by wip/whole/gen40.py) -/
def mrg (ρ κ : Ks) : Ks := fun t => if 40 ≤ t ∧ t < 100 then κ t else ρ t
theorem mrg_in {ρ κ : Ks} {t : Nat} (h : 40 ≤ t ∧ t < 100) : mrg ρ κ t = κ t := if_pos h
theorem mrg_out {ρ κ : Ks} {t : Nat} (h : ¬ (40 ≤ t ∧ t < 100)) : mrg ρ κ t = ρ t := if_neg h
theorem mrg_st {ρ κ : Ks} {t j : Nat} {v : Int} (h : 40 ≤ t ∧ t < 100) : st2 (mrg ρ κ) t j v = mrg ρ (st2 κ t j v) := by
  funext a
  by_cases e : a = t
  · subst e
    rw [mrg_in h]
    funext b
    by_cases c : b = j
    · rw [rd_eq rfl c, rd_eq rfl c]
    · rw [rd_ne (Or.inr c), rd_ne (Or.inr c), mrg_in h]
  · rw [st2_t e]
    by_cases g : 40 ≤ a ∧ a < 100
    · rw [mrg_in g, mrg_in g, st2_t e]
    · rw [mrg_out g, mrg_out g]
theorem mrg_eqM {κ κ' : Ks} (h : eqM κ κ') : κ' = mrg κ' κ := by
  funext t
  by_cases g : 40 ≤ t ∧ t < 100
  · rw [mrg_in g, h t g.1 g.2]
  · rw [mrg_out g]
theorem rfM_L {ρ κ : Ks} {j : Nat} : rfM (mrg ρ κ) j = mrg ρ (rfM κ j) := by
  unfold rfM
  rw [mrg_in (by decide), mrg_st (by decide)]
theorem L_street {ρ κ : Ks} {a l : Int} : M_street (mrg ρ κ) a l = ((M_street κ a l).1, mrg ρ (M_street κ a l).2) := by
  unfold M_street
  simp (disch := decide) only [mrg_in, mrg_st, rfM_L]
  (repeat' split) <;> rfl
theorem L_coal {ρ κ : Ks} {n : Int} : M_coal (mrg ρ κ) n = ((M_coal κ n).1, mrg ρ (M_coal κ n).2) := by
  unfold M_coal
  simp (disch := decide) only [mrg_in, mrg_st, rfM_L]
  (repeat' split) <;> rfl
theorem L_house {ρ κ : Ks} {s c f u b : Int} : M_house (mrg ρ κ) s c f u b = ((M_house κ s c f u b).1, mrg ρ (M_house κ s c f u b).2) := by
  unfold M_house
  simp (disch := decide) only [mrg_in, mrg_st, rfM_L]
  (repeat' split) <;> rfl
theorem L_lose {ρ κ : Ks} {r : Int} : M_lose (mrg ρ κ) r = ((M_lose κ r).1, mrg ρ (M_lose κ r).2) := by
  unfold M_lose
  simp (disch := decide) only [mrg_in, mrg_st, rfM_L]
  (repeat' split) <;> rfl
theorem L_put {ρ κ : Ks} {r p n : Int} : M_put (mrg ρ κ) r p n = ((M_put κ r p n).1, mrg ρ (M_put κ r p n).2) := by
  unfold M_put
  simp (disch := decide) only [mrg_in, mrg_st, rfM_L]
  (repeat' split) <;> rfl
theorem L_lead {ρ κ : Ks} {h r : Int} : M_lead (mrg ρ κ) h r = ((M_lead κ h r).1, mrg ρ (M_lead κ h r).2) := by
  unfold M_lead
  simp (disch := decide) only [mrg_in, mrg_st, rfM_L]
  (repeat' split) <;> rfl
theorem L_end {ρ κ : Ks} {s z : Int} : M_end (mrg ρ κ) s z = ((M_end κ s z).1, mrg ρ (M_end κ s z).2) := by
  unfold M_end
  simp (disch := decide) only [mrg_in, mrg_st, rfM_L]
  (repeat' split) <;> rfl
theorem L_clear {ρ κ : Ks} {s : Int} : M_clear (mrg ρ κ) s = ((M_clear κ s).1, mrg ρ (M_clear κ s).2) := by
  unfold M_clear
  simp (disch := decide) only [mrg_in, mrg_st, rfM_L]
  (repeat' split) <;> rfl
theorem L_draw {ρ κ : Ks} {s b : Int} : M_draw (mrg ρ κ) s b = ((M_draw κ s b).1, mrg ρ (M_draw κ s b).2) := by
  unfold M_draw
  simp (disch := decide) only [mrg_in, mrg_st, rfM_L]
  (repeat' split) <;> rfl
theorem L_brew {ρ κ : Ks} {s n : Int} : M_brew (mrg ρ κ) s n = ((M_brew κ s n).1, mrg ρ (M_brew κ s n).2) := by
  unfold M_brew
  simp (disch := decide) only [mrg_in, mrg_st, rfM_L]
  (repeat' split) <;> rfl
theorem L_turn {ρ κ : Ks} {s c y h n : Int} : M_turn (mrg ρ κ) s c y h n = ((M_turn κ s c y h n).1, mrg ρ (M_turn κ s c y h n).2) := by
  unfold M_turn
  simp (disch := decide) only [mrg_in, mrg_st, rfM_L]
  (repeat' split) <;> rfl
theorem L_iron {ρ κ : Ks} {s : Int} : M_iron (mrg ρ κ) s = ((M_iron κ s).1, mrg ρ (M_iron κ s).2) := by
  unfold M_iron
  simp (disch := decide) only [mrg_in, mrg_st, rfM_L]
  (repeat' split) <;> rfl
theorem L_renew {ρ κ : Ks} {s : Int} : M_renew (mrg ρ κ) s = ((M_renew κ s).1, mrg ρ (M_renew κ s).2) := by
  unfold M_renew
  simp (disch := decide) only [mrg_in, mrg_st, rfM_L]
  (repeat' split) <;> rfl
theorem L_stand {ρ κ : Ks} {c s : Int} : M_stand (mrg ρ κ) c s = ((M_stand κ c s).1, mrg ρ (M_stand κ c s).2) := by
  unfold M_stand
  simp (disch := decide) only [mrg_in, mrg_st, rfM_L]
  (repeat' split) <;> rfl
theorem L_reading {ρ κ : Ks} {s i t d : Int} : M_reading (mrg ρ κ) s i t d = ((M_reading κ s i t d).1, mrg ρ (M_reading κ s i t d).2) := by
  unfold M_reading
  simp (disch := decide) only [mrg_in, mrg_st, rfM_L]
  (repeat' split) <;> rfl
theorem L_law {ρ κ : Ks} {h f t d : Int} : M_law (mrg ρ κ) h f t d = ((M_law κ h f t d).1, mrg ρ (M_law κ h f t d).2) := by
  unfold M_law
  simp (disch := decide) only [mrg_in, mrg_st, rfM_L]
  (repeat' split) <;> rfl
theorem useM_L {ρ κ : Ks} {h : Nat} : useM (mrg ρ κ) h = useM κ h := by
  unfold useM
  simp (disch := decide) only [mrg_in]
theorem L_houseOf {ρ κ : Ks} {h w : Int} : M_houseOf (mrg ρ κ) h w = ((M_houseOf κ h w).1, mrg ρ (M_houseOf κ h w).2) := by
  unfold M_houseOf
  simp (disch := decide) only [mrg_in, mrg_st, rfM_L, useM_L]
  (repeat' split) <;> rfl
theorem L_count {ρ κ : Ks} {w : Int} : M_count (mrg ρ κ) w = ((M_count κ w).1, mrg ρ (M_count κ w).2) := by
  have e40 : mrg ρ κ 40 = κ 40 := mrg_in (by decide)
  have e87 : mrg ρ κ 87 = κ 87 := mrg_in (by decide)
  unfold M_count
  rw [e40, e87]
theorem L_set {ρ κ : Ks} {w v : Int} : M_set (mrg ρ κ) w v = ((M_set κ w v).1, mrg ρ (M_set κ w v).2) := by
  unfold M_set
  simp (disch := decide) only [mrg_in, mrg_st, rfM_L]
  by_cases a : w < 0 ∨ 2 < w
  · rw [if_pos a, if_pos a]
  · rw [if_neg a, if_neg a]
    by_cases b : v < (if w = 2 then 1 else 0)
    · rw [if_pos b, if_pos b]
    · rw [if_neg b, if_neg b]
      by_cases c : (if w = 0 then 5000 else if w = 1 then 50 else 99) < v
      · rw [if_pos c, if_pos c]
      · rw [if_neg c, if_neg c]
