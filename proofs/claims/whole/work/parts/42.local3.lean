/-! locality of an hour of the reference (printed by wip/whole/gen42.py) -/
theorem tkM_L {ρ κ : Ks} {n : Int} : tkM (mrg ρ κ) n = mrg ρ (tkM κ n) := by
  unfold tkM
  rw [mrg_in (by decide), mrg_st (by decide)]
theorem fillM_L {ρ κ : Ks} {h : Nat} : fillM (mrg ρ κ) h = mrg ρ (fillM κ h) := by
  unfold fillM
  simp (disch := decide) only [mrg_in, mrg_st, tkM_L]
  (repeat' split) <;> rfl
theorem hl_L {ρ κ : Ks} {s : Int} {f : Nat} : hl (mrg ρ κ) s f = hl κ s f := hl_eq (mrg_in (by decide)) (mrg_in (by decide)) (by rw [mrg_in (by decide)]) s f
theorem fold_L {ρ : Ks} : ∀ (l : List Nat) (κ : Ks), l.foldl fillM (mrg ρ κ) = mrg ρ (l.foldl fillM κ)
  | [], _ => rfl
  | h :: l, κ => by
    show l.foldl fillM (fillM (mrg ρ κ) h) = mrg ρ (l.foldl fillM (fillM κ h))
    rw [fillM_L, fold_L l]
theorem plugM_L {ρ κ : Ks} {s : Nat} : plugM (mrg ρ κ) s = mrg ρ (plugM κ s) := by
  unfold plugM
  simp (disch := decide) only [mrg_in, mrg_st, tkM_L]
  (repeat' split) <;> rfl
theorem tunM_L {ρ κ : Ks} {s : Nat} : tunM (mrg ρ κ) s = mrg ρ (tunM κ s) := by
  unfold tunM
  simp (disch := decide) only [mrg_in, mrg_st, tkM_L]
  (repeat' split) <;> rfl
theorem serveM_L {ρ κ : Ks} {s : Nat} : serveM (mrg ρ κ) s = mrg ρ (serveM κ s) := by
  unfold serveM
  rw [hl_L, plugM_L, tunM_L, fold_L]
theorem someM_L {ρ κ : Ks} {x : Int} : ∀ n, someM (mrg ρ κ) x n = someM κ x n
  | 0 => rfl
  | n + 1 => by
    unfold someM
    rw [someM_L n, openB_L]
theorem pumpM_L {ρ κ : Ks} {b : Bool} : pumpM (mrg ρ κ) b = mrg ρ (pumpM κ b) := by
  unfold pumpM
  simp (disch := decide) only [mrg_in, mrg_st]
  (repeat' split) <;> rfl
theorem leakS_L {ρ κ : Ks} {x : Int} {s : Nat} : leakS (mrg ρ κ) x s = mrg ρ (leakS κ x s) := by
  unfold leakS
  simp (disch := decide) only [mrg_in, mrg_st, tkM_L, openB_L, dripM_L]
  (repeat' split) <;> rfl
theorem leakM_L {ρ κ : Ks} {x : Int} : ∀ n, leakM (mrg ρ κ) x n = mrg ρ (leakM κ x n)
  | 0 => rfl
  | n + 1 => by
    unfold leakM
    rw [leakM_L n, leakS_L]
theorem srvM_L {ρ κ : Ks} {x : Int} : ∀ n, srvM (mrg ρ κ) x n = mrg ρ (srvM κ x n)
  | 0 => rfl
  | n + 1 => by
    unfold srvM
    rw [srvM_L n, openB_L, serveM_L]
    split <;> rfl
theorem drnkS_L {ρ κ : Ks} {k : Nat} : drnkS (mrg ρ κ) k = mrg ρ (drnkS κ k) := by
  unfold drnkS
  simp (disch := decide) only [mrg_in, mrg_st, useM_L]
theorem drnkM_L {ρ κ : Ks} : ∀ n, drnkM (mrg ρ κ) n = mrg ρ (drnkM κ n)
  | 0 => rfl
  | n + 1 => by
    unfold drnkM
    rw [drnkM_L n, drnkS_L]
theorem passM_L {ρ κ : Ks} : passM (mrg ρ κ) = mrg ρ (passM κ) := by
  have e : mrg ρ κ 40 = κ 40 := mrg_in (by decide)
  have a : passA (mrg ρ κ) = mrg ρ (passA κ) := by
    unfold passA
    rw [e, someM_L, pumpM_L]
  have b : passB (mrg ρ κ) = mrg ρ (passB κ) := by
    unfold passB
    rw [e, a, leakM_L]
  have c : passC (mrg ρ κ) = mrg ρ (passC κ) := by
    unfold passC
    rw [e, b, srvM_L]
  have d : passD (mrg ρ κ) = mrg ρ (passD κ) := by
    unfold passD
    rw [e, c, mrg_in (t := 40) (by decide), mrg_st (by decide), drnkM_L]
  unfold passM
  rw [d, e, mrg_st (by decide)]
theorem passN_L {ρ κ : Ks} : ∀ n, passN (mrg ρ κ) n = mrg ρ (passN κ n)
  | 0 => rfl
  | n + 1 => by
    unfold passN
    rw [passN_L n, passM_L]
theorem L_hours {ρ κ : Ks} {n : Int} : M_hours (mrg ρ κ) n = ((M_hours κ n).1, mrg ρ (M_hours κ n).2) := by
  unfold M_hours
  simp (disch := decide) only [mrg_in, rfM_L, passN_L]
  (repeat' split) <;> rfl
