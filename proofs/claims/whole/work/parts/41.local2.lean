/-! locality of the calls with loops (printed by wip/whole/gen41.py) -/
theorem zrow_L {ρ κ : Ks} {r : Nat} : ∀ k, zrow (mrg ρ κ) r k = mrg ρ (zrow κ r k)
  | 0 => rfl
  | k + 1 => by
    unfold zrow
    rw [zrow_L k, mrg_st (by decide)]
theorem cpy1_L {ρ κ : Ks} {a : Nat} : ∀ k, cpy1 (mrg ρ κ) a k = mrg ρ (cpy1 κ a k)
  | 0 => rfl
  | k + 1 => by
    unfold cpy1
    rw [cpy1_L k, mrg_in (by decide), mrg_st (by decide)]
theorem cpy2_L {ρ κ : Ks} {a : Nat} : ∀ k, cpy2 (mrg ρ κ) a k = mrg ρ (cpy2 κ a k)
  | 0 => rfl
  | k + 1 => by
    unfold cpy2
    rw [cpy2_L k, mrg_in (by decide), mrg_st (by decide)]
theorem stp_L {ρ κ : Ks} : ∀ (f : Nat) (a b : Int), stp (mrg ρ κ) f a b = stp κ f a b
  | 0, _, _ => rfl
  | f + 1, a, b => by
    rw [stp_s, stp_s, mrg_in (by decide), stp_L f, stp_L f]
theorem wayM_L {ρ κ : Ks} {a b : Int} : wayM (mrg ρ κ) a b = wayM κ a b := stp_L 20 a b
theorem clsI_L {ρ κ : Ks} {c : Int} {t : Nat} : ∀ u, clsI (mrg ρ κ) c t u = clsI κ c t u
  | 0 => rfl
  | u + 1 => by
    have e1 : clsI (mrg ρ κ) c t (u + 1) = clsI (mrg ρ κ) c t u + (if clshP (mrg ρ κ) c t u then 1 else 0) := rfl
    have e2 : clsI κ c t (u + 1) = clsI κ c t u + (if clshP κ c t u then 1 else 0) := rfl
    have e3 : clshP (mrg ρ κ) c t u = clshP κ c t u := by
      have a3 : mrg ρ κ 73 = κ 73 := mrg_in (by decide)
      have a4 : mrg ρ κ 74 = κ 74 := mrg_in (by decide)
      have a5 : mrg ρ κ 75 = κ 75 := mrg_in (by decide)
      have a6 : mrg ρ κ 76 = κ 76 := mrg_in (by decide)
      simp only [clshP, clashC, a3, a4, a5, a6, wayM_L]
    rw [e1, e2, clsI_L u]
    simp only [e3]
theorem clsO_L {ρ κ : Ks} {c : Int} : ∀ t, clsO (mrg ρ κ) c t = clsO κ c t
  | 0 => rfl
  | t + 1 => by
    unfold clsO
    rw [clsO_L t, clsI_L]
theorem LetB_L {ρ κ : Ks} {s x : Int} : LetB (mrg ρ κ) s x = LetB κ s x := letB_eq (by rw [mrg_in (by decide)]) (mrg_in (by decide)) (mrg_in (by decide)) (mrg_in (by decide)) s x
theorem openB_L {ρ κ : Ks} {s x : Int} : openB (mrg ρ κ) s x = openB κ s x := openB_eq (by rw [mrg_in (by decide)]) (mrg_in (by decide)) (mrg_in (by decide)) (mrg_in (by decide)) (mrg_in (by decide)) s x
theorem ndH_L {ρ κ : Ks} {s : Int} : ∀ h, ndH (mrg ρ κ) s h = ndH κ s h
  | 0 => rfl
  | h + 1 => by
    have e2 : mrg ρ κ 62 = κ 62 := mrg_in (by decide)
    have e3 : mrg ρ κ 63 = κ 63 := mrg_in (by decide)
    have e8 : mrg ρ κ 68 = κ 68 := mrg_in (by decide)
    unfold ndH
    rw [ndH_L h, e2, e3, e8]
theorem needM_L {ρ κ : Ks} {s : Nat} : needM (mrg ρ κ) s = needM κ s := by
  unfold needM
  simp (disch := decide) only [mrg_in, ndH_L]
theorem dripM_L {ρ κ : Ks} {s : Nat} : dripM (mrg ρ κ) s = dripM κ s := by
  unfold dripM
  simp (disch := decide) only [mrg_in]
theorem lawM_L {ρ κ : Ks} {d : Int} : ∀ k, lawM (mrg ρ κ) d k = lawM κ d k
  | 0 => rfl
  | k + 1 => by
    have e : mrg ρ κ 86 = κ 86 := mrg_in (by decide)
    unfold lawM
    rw [lawM_L k, e]
theorem rateM_L {ρ κ : Ks} {l : Int} {h : Nat} : rateM (mrg ρ κ) l h = rateM κ l h := by
  unfold rateM
  simp (disch := decide) only [mrg_in]
theorem low_L {ρ κ : Ks} {s : Int} {n : Nat} : lowM (mrg ρ κ) s n = lowM κ s n := lowM_eq (mrg_in (by decide)) (mrg_in (by decide)) (mrg_in (by decide)) s n
theorem high_L {ρ κ : Ks} {s : Int} {n : Nat} : highM (mrg ρ κ) s n = highM κ s n := highM_eq (mrg_in (by decide)) (mrg_in (by decide)) (mrg_in (by decide)) s n
theorem L_row {ρ κ : Ks} {r n : Int} : M_row (mrg ρ κ) r n = ((M_row κ r n).1, mrg ρ (M_row κ r n).2) := by
  unfold M_row
  simp (disch := decide) only [mrg_in, mrg_st, rfM_L, zrow_L]
  (repeat' split) <;> rfl
theorem L_copy {ρ κ : Ks} {r i s j n : Int} : M_copy (mrg ρ κ) r i s j n = ((M_copy κ r i s j n).1, mrg ρ (M_copy κ r i s j n).2) := by
  unfold M_copy
  simp (disch := decide) only [mrg_in, mrg_st, rfM_L, cpy1_L, cpy2_L]
  (repeat' split) <;> rfl
theorem L_way {ρ κ : Ks} {a b : Int} : M_way (mrg ρ κ) a b = ((M_way κ a b).1, mrg ρ (M_way κ a b).2) := by
  unfold M_way
  simp (disch := decide) only [mrg_in, mrg_st, rfM_L, wayM_L]
  (repeat' split) <;> rfl
theorem L_clashes {ρ κ : Ks} {c : Int} : M_clashes (mrg ρ κ) c = ((M_clashes κ c).1, mrg ρ (M_clashes κ c).2) := by
  unfold M_clashes
  simp (disch := decide) only [mrg_in, mrg_st, rfM_L, clsO_L]
  (repeat' split) <;> rfl
theorem L_streetOf {ρ κ : Ks} {s w : Int} : M_streetOf (mrg ρ κ) s w = ((M_streetOf κ s w).1, mrg ρ (M_streetOf κ s w).2) := by
  unfold M_streetOf
  simp (disch := decide) only [mrg_in, mrg_st, rfM_L, needM_L, dripM_L]
  (repeat' split) <;> rfl
theorem L_rate {ρ κ : Ks} {h d : Int} : M_rate (mrg ρ κ) h d = ((M_rate κ h d).1, mrg ρ (M_rate κ h d).2) := by
  unfold M_rate
  simp (disch := decide) only [mrg_in, mrg_st, rfM_L, lawM_L, rateM_L]
  (repeat' split) <;> rfl
theorem L_let {ρ κ : Ks} {s h w : Int} : M_let (mrg ρ κ) s h w = ((M_let κ s h w).1, mrg ρ (M_let κ s h w).2) := by
  unfold M_let
  simp (disch := decide) only [mrg_in, rfM_L, LetB_L, openB_L]
  (repeat' split) <;> rfl
theorem L_span {ρ κ : Ks} {s w : Int} : M_span (mrg ρ κ) s w = ((M_span κ s w).1, mrg ρ (M_span κ s w).2) := by
  unfold M_span
  simp (disch := decide) only [mrg_in, rfM_L, low_L, high_L]
  (repeat' split) <;> rfl
