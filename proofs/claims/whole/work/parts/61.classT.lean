/-! the class: days, the search (printed by wip/whole/gen61.py) -/
abbrev wghC (κ : Ks) (sum : Int) : Prop := lkD (κ 21) sum 7 < κ 17 7 ∨ lkD (κ 21) sum 7 = κ 17 7 ∧ msD (κ 21) 7 < κ 17 6
def wgh (κ : Ks) (k : Nat) (sum : Int) : Ks := if wghC κ sum then rowset (st2 (st2 κ 17 7 (lkD (κ 21) sum 7)) 17 6 (msD (κ 21) 7)) 20 (va_cpy ((st2 (st2 κ 17 7 (lkD (κ 21) sum 7)) 17 6 (msD (κ 21) 7)) 19) ((st2 (st2 κ 17 7 (lkD (κ 21) sum 7)) 17 6 (msD (κ 21) 7)) 20) 0 0 k) else κ
theorem wgh_o {κ : Ks} {k : Nat} {sum : Int} {t : Nat} (h : t < 17 ∨ 21 < t) : wgh κ k sum t = κ t := by
  unfold wgh
  split
  · rw [rowset_n _ _ (by omega), st2_t (by omega), st2_t (by omega)]
  · rfl
theorem wgh_p {κ : Ks} {k : Nat} {sum : Int} {t j : Nat} (h : t ≠ 20 ∧ (t ≠ 17 ∨ j < 6)) : wgh κ k sum t j = κ t j := by
  unfold wgh
  split
  · rw [rowset_n _ _ (by omega), rd_ne (by omega), rd_ne (by omega)]
  · rfl
def BS (κ : Ks) (k : Nat) (sum : Int) (nd : Nat → Int) (c : Nat) : Prop := (c = 0 ∧ κ 17 7 = 1000000 ∧ κ 17 6 = 1000000) ∨ (0 < c ∧ κ 17 7 = lkC nd sum k (dsB nd sum k (c - 1)) ∧ κ 17 6 = msC nd k (dsB nd sum k (c - 1)) ∧ ∀ i, i < k → κ 20 i = (dg k (dsB nd sum k (c - 1)) i : Int))
/-- the search's cells where the first p streets have the days of pre, and the ways below c are weighed -/
def DS (κ : Ks) (k : Nat) (sum : Int) (nd : Nat → Int) (p pre c : Nat) : Prop := κ 17 4 = ((k : Nat) : Int) ∧ κ 17 5 = sum ∧ (∀ i, i < k → κ 18 i = nd i) ∧ (∀ i, i < p → κ 19 i = (dg p pre i : Int)) ∧ (∀ d, d < 7 → κ 21 d = ldD nd (dg p pre) d p) ∧ BS κ k sum nd c
def PT (κ : Ks) (V : Vs) (k : Nat) (sum : Int) (nd : Nat → Int) (p pre c : Nat) : Po := fun r V1 κ1 => r = none ∧ V1 = V ∧ DS κ1 k sum nd p pre c ∧ ∀ t, (t < 17 ∨ 21 < t) → κ1 t = κ t
def TryC (B : Bs) (n0 k : Nat) (sum : Int) (nd : Nat → Int) (p dd : Nat) : Prop := ∀ (V : Vs) (κ : Ks) (u pre : Nat), u ≤ p → pre < 7 ^ p → (∀ i, i < p → dg p pre i < u) → DS κ k sum nd p pre (pre * 7 ^ (k - p)) → Ct (XR B n0) mX0_tryFrom dd 0 0 [Rf 17, Iv ((p : Nat) : Int), Iv ((u : Nat) : Int)] V κ (PT κ V k sum nd p pre ((pre + 1) * 7 ^ (k - p)))
theorem DS_leaf {κ : Ks} {k : Nat} {sum : Int} {nd : Nat → Int} {pre : Nat} (h_k : k ≤ 6) (hnd : ∀ i, i < k → 0 ≤ nd i ∧ nd i ≤ 14000) (h_s : 0 ≤ sum ∧ sum ≤ 100000) (h : DS κ k sum nd k pre pre) : DS (wgh κ k sum) k sum nd k pre (pre + 1) := by
  obtain ⟨h1, h2, h3, h4, h5, h6⟩ := h
  have eL : lkD (κ 21) sum 7 = lkC nd sum k pre := lkD_congr 7 h5
  have eM : msD (κ 21) 7 = msC nd k pre := msD_congr 7 h5
  have hl : ∀ d, d < 7 → 0 ≤ κ 21 d ∧ κ 21 d ≤ 84000 := fun d hd => by
    rw [h5 d hd]
    have := ldD_R hnd (dg k pre) d k (Nat.le_refl k)
    omega
  have rL := lkD_R (b := 84000) hl h_s.1 (by decide) 7 (Nat.le_refl 7)
  refine ⟨(wgh_p (by omega)).trans h1, (wgh_p (by omega)).trans h2, fun i hi => (wgh_p (by omega)).trans (h3 i hi), fun i hi => (wgh_p (by omega)).trans (h4 i hi), fun d hd => (wgh_p (by omega)).trans (h5 d hd), Or.inr ⟨by omega, ?_⟩⟩
  rw [show pre + 1 - 1 = pre by omega]
  have key : (wghC κ sum → dsB nd sum k pre = pre) ∧ (¬ wghC κ sum → κ 17 7 = lkC nd sum k (dsB nd sum k pre) ∧ κ 17 6 = msC nd k (dsB nd sum k pre) ∧ ∀ i, i < k → κ 20 i = (dg k (dsB nd sum k pre) i : Int)) := by
    rcases h6 with ⟨c0, a1, a2⟩ | ⟨c0, a1, a2, a3⟩
    · subst c0
      exact ⟨fun _ => rfl, fun z => absurd (Or.inl (by rw [a1]; omega)) z⟩
    · have es := dsB_s nd sum k (pre - 1)
      rw [show pre - 1 + 1 = pre by omega] at es
      have ei : wghC κ sum ↔ btr nd sum k pre (dsB nd sum k (pre - 1)) := by
        unfold wghC btr
        rw [eL, eM, a1, a2]
      constructor
      · intro z
        rw [es, if_pos (ei.mp z)]
      · intro z
        rw [es, if_neg (fun y => z (ei.mpr y))]
        exact ⟨a1, a2, a3⟩
  by_cases z : wghC κ sum
  · have e := key.1 z
    rw [e, ← eL, ← eM]
    unfold wgh
    rw [if_pos z]
    refine ⟨?_, ?_, fun i hi => ?_⟩
    · rw [rowset_n _ _ (by decide), rd_ne (by omega), rd_eq rfl rfl]
    · rw [rowset_n _ _ (by decide), rd_eq rfl rfl]
    · rw [rowset_s]
      have ec : va_cpy ((st2 (st2 κ 17 7 (lkD (κ 21) sum 7)) 17 6 (msD (κ 21) 7)) 19) ((st2 (st2 κ 17 7 (lkD (κ 21) sum 7)) 17 6 (msD (κ 21) 7)) 20) 0 0 k i = (st2 (st2 κ 17 7 (lkD (κ 21) sum 7)) 17 6 (msD (κ 21) 7)) 19 i := by
        unfold va_cpy
        rw [if_pos (by omega)]
        congr 1
        omega
      rw [ec, rd_ne (by omega), rd_ne (by omega)]
      exact h4 i hi
  · have e := key.2 z
    unfold wgh
    rw [if_neg z]
    exact e
theorem ld_app {nd : Nat → Int} {p pre day d : Nat} (hd : day < 7) : ldD nd (dg (p + 1) (pre * 7 + day)) d (p + 1) = ldD nd (dg p pre) d p + (if day = d then nd p else 0) := by
  have e : ldD nd (dg (p + 1) (pre * 7 + day)) d (p + 1) = ldD nd (dg (p + 1) (pre * 7 + day)) d p + (if dg (p + 1) (pre * 7 + day) p = d then nd p else 0) := rfl
  rw [e, dg_app hd (by omega), if_pos rfl, ldD_congr (nd' := nd) (a' := dg p pre) d p (fun j hj => ⟨rfl, by rw [dg_app hd (by omega), if_neg (by omega)]⟩)]
theorem dig_app {p pre u : Nat} {day : Nat} (hu : ∀ i, i < p → dg p pre i < u) (hd : day < 7) : ∀ i, i < p + 1 → dg (p + 1) (pre * 7 + day) i < max u (day + 1) := fun i hi => by
  rw [dg_app hd hi]
  by_cases e : i = p
  · rw [if_pos e]
    omega
  · rw [if_neg e]
    have := hu i (by omega)
    omega
theorem BS.fr {κ κ1 : Ks} {k : Nat} {sum : Int} {nd : Nat → Int} {c : Nat} (h : BS κ k sum nd c) (h1 : κ1 17 = κ 17) (h2 : κ1 20 = κ 20) : BS κ1 k sum nd c := by
  unfold BS at h ⊢
  rw [h1, h2]
  exact h
theorem DS_down {κ : Ks} {k : Nat} {sum : Int} {nd : Nat → Int} {p pre : Nat} {y : Int} (hp : p < k) (hy : 0 ≤ y ∧ y < 7) (h : DS κ k sum nd p pre ((pre * 7 + y.toNat) * 7 ^ (k - p - 1))) : DS (st2 (st2 κ 19 p y) 21 y.toNat (κ 21 y.toNat + κ 18 p)) k sum nd (p + 1) (pre * 7 + y.toNat) ((pre * 7 + y.toNat) * 7 ^ (k - (p + 1))) := by
  obtain ⟨h1, h2, h3, h4, h5, h6⟩ := h
  refine ⟨by rw [rd_ne (by omega), rd_ne (by omega)]; exact h1, by rw [rd_ne (by omega), rd_ne (by omega)]; exact h2, fun i hi => by rw [rd_ne (by omega), rd_ne (by omega)]; exact h3 i hi, fun i hi => ?_, fun d hd => ?_, ?_⟩
  · rw [rd_ne (by omega), dg_app (by omega) hi]
    by_cases e : i = p
    · rw [rd_eq rfl e, if_pos e]
      omega
    · rw [rd_ne (by omega), if_neg e]
      exact h4 i (by omega)
  · rw [ld_app (by omega)]
    by_cases e : d = y.toNat
    · rw [rd_eq rfl e, if_pos e.symm, ← e, h5 d hd, h3 p hp]
    · rw [rd_ne (by omega), rd_ne (by omega), if_neg (fun z => e z.symm), h5 d hd]
      omega
  · rw [show k - (p + 1) = k - p - 1 by omega]
    exact h6.fr (by rw [st2_t (by decide), st2_t (by decide)]) (by rw [st2_t (by decide), st2_t (by decide)])
theorem DS_back {κ : Ks} {k : Nat} {sum : Int} {nd : Nat → Int} {p pre c y : Nat} (hp : p < k) (hy : y < 7) (h : DS κ k sum nd (p + 1) (pre * 7 + y) c) : DS (st2 κ 21 y (κ 21 y - κ 18 p)) k sum nd p pre c := by
  obtain ⟨h1, h2, h3, h4, h5, h6⟩ := h
  refine ⟨by rw [rd_ne (by omega)]; exact h1, by rw [rd_ne (by omega)]; exact h2, fun i hi => by rw [rd_ne (by omega)]; exact h3 i hi, fun i hi => ?_, fun d hd => ?_, h6.fr (st2_t (by decide)) (st2_t (by decide))⟩
  · have := h4 i (by omega)
    rw [dg_app hy (by omega), if_neg (by omega)] at this
    rw [rd_ne (by omega)]
    exact this
  · have q := h5 d hd
    rw [ld_app hy] at q
    by_cases e : d = y
    · rw [rd_eq rfl e, ← e, q, if_pos e.symm, h3 p hp]
      omega
    · rw [rd_ne (by omega), q, if_neg (fun z => e z.symm)]
      omega
theorem DS_over {κ : Ks} {k : Nat} {sum : Int} {nd : Nat → Int} {p pre u : Nat} (hp : p < k) (hpre : pre < 7 ^ p) (hu : ∀ i, i < p → dg p pre i < u) (hu7 : u < 7) (h : DS κ k sum nd p pre ((pre * 7 + (u + 1)) * 7 ^ (k - p - 1))) : DS κ k sum nd p pre ((pre + 1) * 7 ^ (k - p)) := by
  obtain ⟨h1, h2, h3, h4, h5, h6⟩ := h
  refine ⟨h1, h2, h3, h4, h5, ?_⟩
  have pp : 0 < 7 ^ (k - p - 1) := Nat.pow_pos (by decide)
  have p1 : 7 ^ (k - p) = 7 * 7 ^ (k - p - 1) := by
    rw [show k - p = (k - p - 1) + 1 by omega, Nat.pow_succ, Nat.mul_comm]
    rfl
  have c1 : 0 < (pre * 7 + (u + 1)) * 7 ^ (k - p - 1) := Nat.mul_pos (by omega) pp
  have c2 : (pre * 7 + (u + 1)) * 7 ^ (k - p - 1) ≤ (pre + 1) * 7 ^ (k - p) := by
    rw [p1, ← Nat.mul_assoc]
    exact Nat.mul_le_mul_right _ (by omega)
  have e := dsB_over (nd := nd) (sum := sum) hp hpre hu hu7 ((pre + 1) * 7 ^ (k - p) - (pre * 7 + u + 1) * 7 ^ (k - p - 1)) (by rw [show pre * 7 + u + 1 = pre * 7 + (u + 1) by omega]; omega)
  rw [show pre * 7 + u + 1 = pre * 7 + (u + 1) by omega, show (pre * 7 + (u + 1)) * 7 ^ (k - p - 1) + ((pre + 1) * 7 ^ (k - p) - (pre * 7 + (u + 1)) * 7 ^ (k - p - 1)) = (pre + 1) * 7 ^ (k - p) by omega] at e
  rcases h6 with ⟨c0, _⟩ | ⟨_, a1, a2, a3⟩
  · omega
  · exact Or.inr ⟨by omega, by rw [e]; exact a1, by rw [e]; exact a2, by rw [e]; exact a3⟩
theorem DS_0 {κ : Ks} {k : Nat} {sum : Int} {nd : Nat → Int} (h4 : κ 17 4 = ((k : Nat) : Int)) (h5 : κ 17 5 = sum) (hn : ∀ i, i < k → κ 18 i = nd i) (hl : ∀ d : Nat, d < 7 → κ 21 d = 0) : DS (st2 (st2 κ 17 7 1000000) 17 6 1000000) k sum nd 0 0 (0 * 7 ^ (k - 0)) := by
  refine ⟨by rw [rd_ne (by omega), rd_ne (by omega)]; exact h4, by rw [rd_ne (by omega), rd_ne (by omega)]; exact h5, fun i hi => by rw [rd_ne (by omega), rd_ne (by omega)]; exact hn i hi, fun i hi => absurd hi (Nat.not_lt_zero i), fun d hd => by rw [rd_ne (by omega), rd_ne (by omega)]; exact hl d hd, Or.inl ⟨Nat.zero_mul _, ?_, rd_eq rfl rfl⟩⟩
  rw [rd_ne (by omega), rd_eq rfl rfl]
set_option maxHeartbeats 4000000 in
set_option maxRecDepth 20000 in
theorem c_X0_weigh {B : Bs} {n0 : Nat} {V : Vs} {κ : Ks} {k : Nat} {sum : Int} (h_k : k ≤ 6) (h4 : κ 17 4 = ((k : Nat) : Int)) (h5 : κ 17 5 = sum) (h_s : 0 ≤ sum ∧ sum ≤ 100000) (hl : ∀ d, d < 7 → 0 ≤ κ 21 d ∧ κ 21 d ≤ 84000) : Ct (XR B n0) mX0_weigh 2 0 0 [Rf 17] V κ (Ex none V (wgh κ k sum)) := by
  refine Ct.of (L := [some (Rf 17), none, none, none]) 3 (by decide +kernel) rfl rfl ?_
  have lp : ∀ (m : Nat) (n g x : Int), 0 ≤ x ∧ x ≤ 7 → (m : Int) = 7 - x → n = lkD (κ 21) sum x.toNat → g = msD (κ 21) x.toNat → G (XR B n0) mX0_weigh 2 (Ex none V (wgh κ k sum)) V 0 0 6 [some (Rf 17), some (Iv n), some (Iv g), some (Iv x)] [] V κ := by
    intro m
    induction m using Nat.strongRecOn with
    | ind m ih =>
      intro n g x hx hm hn hg
      have rn := lkD_R (b := 84000) hl h_s.1 (by decide) x.toNat (by omega)
      have rg := msD_R (b := 84000) hl (by decide) x.toNat (by omega)
      refine g_iload_n 7 dX0_weigh_6 rfl rfl ?_
      refine g_bipush 9 dX0_weigh_7 (by decide) rfl ?_
      refine g_icmp_ge 47 12 dX0_weigh_9 (by first | assumption | omega) (by decide) (by decide) rfl (fun h101 => ?_) (fun h101 => ?_)
      · refine g_iload_n 48 dX0_weigh_47 rfl rfl ?_
        refine g_aload_n 49 dX0_weigh_48 rfl rfl ?_
        refine r_getI 52 (κ 17 7) dX0_weigh_49 fgX0_32 kd_17 ly_17_7 rfl (rfl) (fun r102 => ?_)
        refine g_icmp_gt 71 55 dX0_weigh_52 (by first | assumption | omega) (by first | assumption | omega) (by decide) rfl (fun h103 => ?_) (fun h103 => ?_)
        · refine g_vret dX0_weigh_71 rfl ?_
          have ex : x = 7 := by omega
          subst ex
          have hn : n = lkD (κ 21) sum 7 := hn
          have hg : g = msD (κ 21) 7 := hg
          unfold wgh
          rw [if_neg (show ¬ wghC κ sum from by unfold wghC; rw [← hn, ← hg]; omega)]
          exact ⟨rfl, rfl, rfl⟩
        refine g_iload_n 56 dX0_weigh_55 rfl rfl ?_
        refine g_aload_n 57 dX0_weigh_56 rfl rfl ?_
        refine r_getI 60 (κ 17 7) dX0_weigh_57 fgX0_32 kd_17 ly_17_7 rfl (rfl) (fun r104 => ?_)
        refine g_icmp_ne 72 63 dX0_weigh_60 (by first | assumption | omega) (by first | assumption | omega) (by decide) rfl (fun h105 => ?_) (fun h105 => ?_)
        · refine g_aload_n 73 dX0_weigh_72 rfl rfl ?_
          refine g_iload_n 74 dX0_weigh_73 rfl rfl ?_
          refine g_putI 77 dX0_weigh_74 fpX0_32 (fun h => (nomatch h)) kd_17 ly_17_7 (by omega) rfl ?_
          refine g_aload_n 78 dX0_weigh_77 rfl rfl ?_
          refine g_iload_n 79 dX0_weigh_78 rfl rfl ?_
          refine g_putI 82 dX0_weigh_79 fpX0_35 (fun h => (nomatch h)) kd_17 ly_17_6 (by omega) rfl ?_
          refine g_aload_n 83 dX0_weigh_82 rfl rfl ?_
          refine g_getC 86 dX0_weigh_83 fgX0_15 kd_17 ly_17_1 rfl ?_
          refine g_iconst 87 dX0_weigh_86 (by decide) rfl ?_
          refine g_aload_n 88 dX0_weigh_87 rfl rfl ?_
          refine g_getC 91 dX0_weigh_88 fgX0_18 kd_17 ly_17_2 rfl ?_
          refine g_iconst 92 dX0_weigh_91 (by decide) rfl ?_
          refine g_aload_n 93 dX0_weigh_92 rfl rfl ?_
          refine r_getI 96 (κ 17 4) dX0_weigh_93 fgX0_24 kd_17 ly_17_4 rfl (rd_j (by decide) (rd_j (by decide) (rfl))) (fun r106 => ?_)
          refine G.eqi (show (κ 17 4) = ((k : Nat) : Int) from h4) ?_
          refine g_copyI 99 dX0_weigh_96 acX0_51 kd_19 kd_20 ly_20 (by decide) (by decide) (by omega) (by omega) (by omega) (by omega) (by omega) (by decide) (Nat.le_of_ble_eq_true rfl) rfl ?_
          refine g_vret dX0_weigh_99 rfl ?_
          have ex : x = 7 := by omega
          subst ex
          have hn : n = lkD (κ 21) sum 7 := hn
          have hg : g = msD (κ 21) 7 := hg
          unfold wgh
          rw [if_pos (show wghC κ sum from by unfold wghC; rw [← hn, ← hg]; omega), ← hn, ← hg]
          exact ⟨rfl, rfl, rfl⟩
        refine g_iload_n 64 dX0_weigh_63 rfl rfl ?_
        refine g_aload_n 65 dX0_weigh_64 rfl rfl ?_
        refine r_getI 68 (κ 17 6) dX0_weigh_65 fgX0_35 kd_17 ly_17_6 rfl (rfl) (fun r107 => ?_)
        refine g_icmp_lt 72 71 dX0_weigh_68 (by first | assumption | omega) (by first | assumption | omega) (by decide) rfl (fun h108 => ?_) (fun h108 => ?_)
        · refine g_aload_n 73 dX0_weigh_72 rfl rfl ?_
          refine g_iload_n 74 dX0_weigh_73 rfl rfl ?_
          refine g_putI 77 dX0_weigh_74 fpX0_32 (fun h => (nomatch h)) kd_17 ly_17_7 (by omega) rfl ?_
          refine g_aload_n 78 dX0_weigh_77 rfl rfl ?_
          refine g_iload_n 79 dX0_weigh_78 rfl rfl ?_
          refine g_putI 82 dX0_weigh_79 fpX0_35 (fun h => (nomatch h)) kd_17 ly_17_6 (by omega) rfl ?_
          refine g_aload_n 83 dX0_weigh_82 rfl rfl ?_
          refine g_getC 86 dX0_weigh_83 fgX0_15 kd_17 ly_17_1 rfl ?_
          refine g_iconst 87 dX0_weigh_86 (by decide) rfl ?_
          refine g_aload_n 88 dX0_weigh_87 rfl rfl ?_
          refine g_getC 91 dX0_weigh_88 fgX0_18 kd_17 ly_17_2 rfl ?_
          refine g_iconst 92 dX0_weigh_91 (by decide) rfl ?_
          refine g_aload_n 93 dX0_weigh_92 rfl rfl ?_
          refine r_getI 96 (κ 17 4) dX0_weigh_93 fgX0_24 kd_17 ly_17_4 rfl (rd_j (by decide) (rd_j (by decide) (rfl))) (fun r109 => ?_)
          refine G.eqi (show (κ 17 4) = ((k : Nat) : Int) from h4) ?_
          refine g_copyI 99 dX0_weigh_96 acX0_51 kd_19 kd_20 ly_20 (by decide) (by decide) (by omega) (by omega) (by omega) (by omega) (by omega) (by decide) (Nat.le_of_ble_eq_true rfl) rfl ?_
          refine g_vret dX0_weigh_99 rfl ?_
          have ex : x = 7 := by omega
          subst ex
          have hn : n = lkD (κ 21) sum 7 := hn
          have hg : g = msD (κ 21) 7 := hg
          unfold wgh
          rw [if_pos (show wghC κ sum from by unfold wghC; rw [← hn, ← hg]; omega), ← hn, ← hg]
          exact ⟨rfl, rfl, rfl⟩
        refine g_vret dX0_weigh_71 rfl ?_
        have ex : x = 7 := by omega
        subst ex
        have hn : n = lkD (κ 21) sum 7 := hn
        have hg : g = msD (κ 21) 7 := hg
        unfold wgh
        rw [if_neg (show ¬ wghC κ sum from by unfold wghC; rw [← hn, ← hg]; omega)]
        exact ⟨rfl, rfl, rfl⟩
      have lx := hl x.toNat (by omega)
      refine g_iload_n 13 dX0_weigh_12 rfl rfl ?_
      refine g_iconst 14 dX0_weigh_13 (by decide) rfl ?_
      refine g_aload_n 15 dX0_weigh_14 rfl rfl ?_
      refine g_getC 18 dX0_weigh_15 fgX0_21 kd_17 ly_17_3 rfl ?_
      refine g_iload_n 19 dX0_weigh_18 rfl rfl ?_
      refine r_iald 20 ((x).toNat) (κ 21 ((x).toNat)) dX0_weigh_19 kd_21 (by decide) (by omega) (rfl) rfl (rfl) (fun r110 => ?_)
      refine g_aload_n 21 dX0_weigh_20 rfl rfl ?_
      refine r_getI 24 (κ 17 5) dX0_weigh_21 fgX0_28 kd_17 ly_17_5 rfl (rfl) (fun r111 => ?_)
      refine g_isub 25 dX0_weigh_24 rfl ?_
      refine e_S 28 0 0 [Iv 0, Iv ((κ 21 ((x).toNat)) - (κ 17 5))] [Iv n] dX0_weigh_25 csX0_45 mwJ9_max_7cf53 (by decide) rfl (Nat.le_of_ble_eq_true rfl) rfl rfl rfl (c_J9_max_7cf53 (by omega) (by omega)) ?_
      refine g_iadd 29 dX0_weigh_28 rfl ?_
      refine g_istore_n (L' := [some (Rf 17), some (Iv (n + (max 0 ((κ 21 ((x).toNat)) - (κ 17 5))))), some (Iv g), some (Iv x)]) 30 dX0_weigh_29 rfl (by decide) rfl ?_
      refine g_iload_n 31 dX0_weigh_30 rfl rfl ?_
      refine g_aload_n 32 dX0_weigh_31 rfl rfl ?_
      refine g_getC 35 dX0_weigh_32 fgX0_21 kd_17 ly_17_3 rfl ?_
      refine g_iload_n 36 dX0_weigh_35 rfl rfl ?_
      refine r_iald 37 ((x).toNat) (κ 21 ((x).toNat)) dX0_weigh_36 kd_21 (by decide) (by omega) (rfl) rfl (rfl) (fun r112 => ?_)
      refine e_S 40 0 0 [Iv g, Iv (κ 21 ((x).toNat))] [] dX0_weigh_37 csX0_45 mwJ9_max_7cf53 (by decide) rfl (Nat.le_of_ble_eq_true rfl) rfl rfl rfl (c_J9_max_7cf53 (by omega) (by omega)) ?_
      refine g_istore_n (L' := [some (Rf 17), some (Iv (n + (max 0 ((κ 21 ((x).toNat)) - (κ 17 5))))), some (Iv (max g (κ 21 ((x).toNat)))), some (Iv x)]) 41 dX0_weigh_40 rfl (by decide) rfl ?_
      refine g_iinc (L' := [some (Rf 17), some (Iv (n + (max 0 ((κ 21 ((x).toNat)) - (κ 17 5))))), some (Iv (max g (κ 21 ((x).toNat)))), some (Iv (x + 1))]) 44 dX0_weigh_41 rfl rfl (by decide) rfl ?_
      refine g_goto 6 dX0_weigh_44 (by decide) ?_
      have e1 : lkD (κ 21) sum (x + 1).toNat = lkD (κ 21) sum x.toNat + (if sum < κ 21 x.toNat then κ 21 x.toNat - sum else 0) := by rw [show (x + 1).toNat = x.toNat + 1 by omega]; rfl
      have e2 : msD (κ 21) (x + 1).toNat = max (msD (κ 21) x.toNat) (κ 21 x.toNat) := by rw [show (x + 1).toNat = x.toNat + 1 by omega]; rfl
      exact ih (m - 1) (by omega) _ _ (x + 1) (by omega) (by omega) (by rw [e1, hn]; split <;> omega) (by rw [e2, hg])
  refine g_iconst 1 dX0_weigh_0 (by decide) rfl ?_
  refine g_istore_n (L' := [some (Rf 17), some (Iv 0), none, none]) 2 dX0_weigh_1 rfl (by decide) rfl ?_
  refine g_iconst 3 dX0_weigh_2 (by decide) rfl ?_
  refine g_istore_n (L' := [some (Rf 17), some (Iv 0), some (Iv 0), none]) 4 dX0_weigh_3 rfl (by decide) rfl ?_
  refine g_iconst 5 dX0_weigh_4 (by decide) rfl ?_
  refine g_istore_n (L' := [some (Rf 17), some (Iv 0), some (Iv 0), some (Iv 0)]) 6 dX0_weigh_5 rfl (by decide) rfl ?_
  exact lp 7 0 0 0 (by omega) (by omega) rfl rfl
set_option maxHeartbeats 4000000 in
set_option maxRecDepth 20000 in
theorem c_try0 {B : Bs} {n0 : Nat} {V : Vs} {κ : Ks} {k : Nat} {sum : Int} {nd : Nat → Int} {u pre : Nat} (h_k : k ≤ 6) (h_s : 0 ≤ sum ∧ sum ≤ 100000) (hnd : ∀ i, i < k → 0 ≤ nd i ∧ nd i ≤ 14000) (hD : DS κ k sum nd k pre pre) : Ct (XR B n0) mX0_tryFrom 3 0 0 [Rf 17, Iv ((k : Nat) : Int), Iv ((u : Nat) : Int)] V κ (PT κ V k sum nd k pre (pre + 1)) := by
  have h4 := hD.1
  refine Ct.of (L := [some (Rf 17), some (Iv ((k : Nat) : Int)), some (Iv ((u : Nat) : Int)), none]) 1 (by decide +kernel) rfl rfl ?_
  refine g_iload_n 1 dX0_tryFrom_0 rfl rfl ?_
  refine g_aload_n 2 dX0_tryFrom_1 rfl rfl ?_
  refine r_getI 5 (κ 17 4) dX0_tryFrom_2 fgX0_24 kd_17 ly_17_4 rfl (rfl) (fun r1 => ?_)
  refine g_icmp_lt 13 8 dX0_tryFrom_5 (by first | assumption | omega) (by first | assumption | omega) (by decide) rfl (fun h2 => ?_) (fun h2 => ?_)
  · exfalso
    omega
  refine g_aload_n 9 dX0_tryFrom_8 rfl rfl ?_
  refine v_V 12 0 0 [] [] dX0_tryFrom_9 cvX0_42 mwX0_weigh kd_17 (by omega) rfl (Nat.le_of_ble_eq_true rfl) rfl rfl rfl (c_X0_weigh h_k hD.1 hD.2.1 h_s (fun d hd => by rw [hD.2.2.2.2.1 d hd]; have := ldD_R hnd (dg k pre) d k (Nat.le_refl k); omega)) ?_
  refine g_vret dX0_tryFrom_12 rfl ?_
  exact ⟨rfl, rfl, DS_leaf h_k hnd h_s hD, fun t ht => wgh_o ht⟩
set_option maxHeartbeats 4000000 in
set_option maxRecDepth 20000 in
theorem c_tryS {B : Bs} {n0 : Nat} {V : Vs} {κ : Ks} {k : Nat} {sum : Int} {nd : Nat → Int} {p dd u pre : Nat} (h_k : k ≤ 6) (h_s : 0 ≤ sum ∧ sum ≤ 100000) (hnd : ∀ i, i < k → 0 ≤ nd i ∧ nd i ≤ 14000) (hdd : 3 ≤ dd) (hp : p < k) (ihT : TryC B n0 k sum nd (p + 1) dd) (hu0 : u ≤ p) (hpre : pre < 7 ^ p) (hu : ∀ i, i < p → dg p pre i < u) (hD0 : DS κ k sum nd p pre (pre * 7 ^ (k - p))) : Ct (XR B n0) mX0_tryFrom (dd + 1) 0 0 [Rf 17, Iv ((p : Nat) : Int), Iv ((u : Nat) : Int)] V κ (PT κ V k sum nd p pre ((pre + 1) * 7 ^ (k - p))) := by
  have h4 := hD0.1
  refine Ct.of (L := [some (Rf 17), some (Iv ((p : Nat) : Int)), some (Iv ((u : Nat) : Int)), none]) 1 (by decide +kernel) rfl rfl ?_
  have lp : ∀ (m : Nat) (y : Int) (κ2 : Ks), 0 ≤ y ∧ y ≤ ((u : Nat) : Int) + 1 → (m : Int) = ((u : Nat) : Int) + 1 - y → DS κ2 k sum nd p pre ((pre * 7 + y.toNat) * 7 ^ (k - p - 1)) → (∀ t, (t < 17 ∨ 21 < t) → κ2 t = κ t) → G (XR B n0) mX0_tryFrom (dd + 1) (PT κ V k sum nd p pre ((pre + 1) * 7 ^ (k - p))) V 0 0 15 [some (Rf 17), some (Iv ((p : Nat) : Int)), some (Iv ((u : Nat) : Int)), some (Iv y)] [] V κ2 := by
    intro m
    induction m using Nat.strongRecOn with
    | ind m ih =>
      intro y κ2 hy hm hD fr
      refine g_iload_n 16 dX0_tryFrom_15 rfl rfl ?_
      refine g_iload_n 17 dX0_tryFrom_16 rfl rfl ?_
      refine g_icmp_gt 83 20 dX0_tryFrom_17 (by first | assumption | omega) (by first | assumption | omega) (by decide) rfl (fun h101 => ?_) (fun h101 => ?_)
      · refine g_vret dX0_tryFrom_83 rfl ?_
        have ey : y.toNat = u + 1 := by omega
        rw [ey] at hD
        exact ⟨rfl, rfl, DS_over hp hpre hu (by omega) hD, fr⟩
      refine g_iload_n 21 dX0_tryFrom_20 rfl rfl ?_
      refine g_bipush 23 dX0_tryFrom_21 (by decide) rfl ?_
      refine g_icmp_ge 83 26 dX0_tryFrom_23 (by first | assumption | omega) (by decide) (by decide) rfl (fun h102 => ?_) (fun h102 => ?_)
      · refine g_vret dX0_tryFrom_83 rfl ?_
        have ey : y.toNat = u + 1 := by omega
        rw [ey] at hD
        exact ⟨rfl, rfl, DS_over hp hpre hu (by omega) hD, fr⟩
      have e1 := hD.2.2.2.2.1 y.toNat (by omega)
      have e2 := hD.2.2.1 p hp
      have l1 := ldD_R hnd (dg p pre) y.toNat p (by omega)
      have n1 := hnd p hp
      refine g_aload_n 27 dX0_tryFrom_26 rfl rfl ?_
      refine g_getC 30 dX0_tryFrom_27 fgX0_15 kd_17 ly_17_1 rfl ?_
      refine g_iload_n 31 dX0_tryFrom_30 rfl rfl ?_
      refine g_iload_n 32 dX0_tryFrom_31 rfl rfl ?_
      refine r_iast 33 p dX0_tryFrom_32 kd_19 (by decide) ly_19 (by omega) (rfl) (by omega) rfl ?_
      refine g_aload_n 34 dX0_tryFrom_33 rfl rfl ?_
      refine g_getC 37 dX0_tryFrom_34 fgX0_21 kd_17 ly_17_3 rfl ?_
      refine g_iload_n 38 dX0_tryFrom_37 rfl rfl ?_
      refine g_dup2 39 dX0_tryFrom_38 rfl ?_
      refine r_iald 40 ((y).toNat) (κ2 21 ((y).toNat)) dX0_tryFrom_39 kd_21 (by decide) (by omega) (rfl) rfl (rd_t (by decide) (rfl)) (fun r103 => ?_)
      refine g_aload_n 41 dX0_tryFrom_40 rfl rfl ?_
      refine g_getC 44 dX0_tryFrom_41 fgX0_9 kd_17 ly_17_0 rfl ?_
      refine g_iload_n 45 dX0_tryFrom_44 rfl rfl ?_
      refine r_iald 46 p (κ2 18 p) dX0_tryFrom_45 kd_18 (by decide) (by omega) (rfl) rfl (rd_t (by decide) (rfl)) (fun r104 => ?_)
      refine g_iadd 47 dX0_tryFrom_46 rfl ?_
      refine r_iast 48 ((y).toNat) dX0_tryFrom_47 kd_21 (by decide) ly_21 (by omega) (rfl) (by omega) rfl ?_
      refine g_aload_n 49 dX0_tryFrom_48 rfl rfl ?_
      refine g_iload_n 50 dX0_tryFrom_49 rfl rfl ?_
      refine g_iconst 51 dX0_tryFrom_50 (by decide) rfl ?_
      refine g_iadd 52 dX0_tryFrom_51 rfl ?_
      refine G.eqi (show (((p : Nat) : Int) + 1) = ((p + 1 : Nat) : Int) by omega) ?_
      refine g_iload_n 53 dX0_tryFrom_52 rfl rfl ?_
      refine g_iload_n 54 dX0_tryFrom_53 rfl rfl ?_
      refine g_iconst 55 dX0_tryFrom_54 (by decide) rfl ?_
      refine g_iadd 56 dX0_tryFrom_55 rfl ?_
      refine e_S 59 0 0 [Iv ((u : Nat) : Int), Iv (y + 1)] [Iv ((p + 1 : Nat) : Int), Rf 17] dX0_tryFrom_56 csX0_45 mwJ9_max_7cf53 (by omega) rfl (Nat.le_of_ble_eq_true rfl) rfl rfl rfl (c_J9_max_7cf53 (by omega) (by omega)) ?_
      refine G.eqi (show (max ((u : Nat) : Int) (y + 1)) = ((max u (y.toNat + 1) : Nat) : Int) by omega) ?_
      refine p_V 62 0 0 [Iv ((p + 1 : Nat) : Int), Iv ((max u (y.toNat + 1) : Nat) : Int)] [] dX0_tryFrom_59 cvX0_38 mwX0_tryFrom kd_17 (by omega) rfl (Nat.le_of_ble_eq_true rfl) rfl rfl rfl (ihT V _ (max u (y.toNat + 1)) (pre * 7 + y.toNat) (by omega) (app_lt hpre (by omega)) (dig_app hu (by omega)) (DS_down hp (by omega) hD)) ?_
      intro r1 V1 κ5 hp1
      obtain ⟨hr1, hv1, hD5, fr5⟩ := hp1
      subst hv1
      subst hr1
      refine ⟨[], rfl, ?_⟩
      have f1 := hD5.2.2.2.2.1 y.toNat (by omega)
      have f2 := hD5.2.2.1 p hp
      have l2 := ldD_R hnd (dg (p + 1) (pre * 7 + y.toNat)) y.toNat (p + 1) (by omega)
      refine g_aload_n 63 dX0_tryFrom_62 rfl rfl ?_
      refine g_getC 66 dX0_tryFrom_63 fgX0_21 kd_17 ly_17_3 rfl ?_
      refine g_iload_n 67 dX0_tryFrom_66 rfl rfl ?_
      refine g_dup2 68 dX0_tryFrom_67 rfl ?_
      refine r_iald 69 ((y).toNat) (κ5 21 ((y).toNat)) dX0_tryFrom_68 kd_21 (by decide) (by omega) (rfl) rfl (rfl) (fun r105 => ?_)
      refine g_aload_n 70 dX0_tryFrom_69 rfl rfl ?_
      refine g_getC 73 dX0_tryFrom_70 fgX0_9 kd_17 ly_17_0 rfl ?_
      refine g_iload_n 74 dX0_tryFrom_73 rfl rfl ?_
      refine r_iald 75 p (κ5 18 p) dX0_tryFrom_74 kd_18 (by decide) (by omega) (rfl) rfl (rfl) (fun r106 => ?_)
      refine g_isub 76 dX0_tryFrom_75 rfl ?_
      refine r_iast 77 ((y).toNat) dX0_tryFrom_76 kd_21 (by decide) ly_21 (by omega) (rfl) (by omega) rfl ?_
      refine g_iinc (L' := [some (Rf 17), some (Iv ((p : Nat) : Int)), some (Iv ((u : Nat) : Int)), some (Iv (y + 1))]) 80 dX0_tryFrom_77 rfl rfl (by decide) rfl ?_
      refine g_goto 15 dX0_tryFrom_80 (by decide) ?_
      exact ih (m - 1) (by omega) (y + 1) _ (by omega) (by omega) (by rw [show pre * 7 + (y + 1).toNat = pre * 7 + y.toNat + 1 by omega, show k - p - 1 = k - (p + 1) by omega]; exact DS_back hp (by omega) hD5) (fun t ht => (st2_t (by omega)).trans ((fr5 t ht).trans ((st2_t (by omega)).trans ((st2_t (by omega)).trans (fr t ht)))))
  refine g_iload_n 1 dX0_tryFrom_0 rfl rfl ?_
  refine g_aload_n 2 dX0_tryFrom_1 rfl rfl ?_
  refine r_getI 5 (κ 17 4) dX0_tryFrom_2 fgX0_24 kd_17 ly_17_4 rfl (rfl) (fun r1 => ?_)
  refine g_icmp_lt 13 8 dX0_tryFrom_5 (by first | assumption | omega) (by first | assumption | omega) (by decide) rfl (fun h2 => ?_) (fun h2 => ?_)
  · refine g_iconst 14 dX0_tryFrom_13 (by decide) rfl ?_
    refine g_istore_n (L' := [some (Rf 17), some (Iv ((p : Nat) : Int)), some (Iv ((u : Nat) : Int)), some (Iv 0)]) 15 dX0_tryFrom_14 rfl (by decide) rfl ?_
    exact lp (u + 1) 0 κ (by omega) (by omega) (by rw [show (pre * 7 + (0 : Int).toNat) * 7 ^ (k - p - 1) = pre * 7 ^ (k - p) by rw [show k - p = (k - p - 1) + 1 by omega, Nat.pow_succ, Nat.mul_comm (7 ^ (k - p - 1)) 7, ← Nat.mul_assoc]; rfl]; exact hD0) (fun _ _ => rfl)
  exfalso
  omega
theorem c_try {B : Bs} {n0 : Nat} {k : Nat} {sum : Int} {nd : Nat → Int} (h_k : k ≤ 6) (h_s : 0 ≤ sum ∧ sum ≤ 100000) (hnd : ∀ i, i < k → 0 ≤ nd i ∧ nd i ≤ 14000) : ∀ (r p : Nat), p + r = k → TryC B n0 k sum nd p (3 + r)
  | 0, p, h => fun V κ u pre _ _ _ hD => by
    have e : p = k := by omega
    subst e
    rw [Nat.sub_self, Nat.pow_zero, Nat.mul_one] at hD ⊢
    exact c_try0 h_k h_s hnd hD
  | r + 1, p, h => fun V κ u pre h1 h2 h3 hD => c_tryS (dd := 3 + r) h_k h_s hnd (by omega) (by omega) (c_try h_k h_s hnd r (p + 1) (by omega)) h1 h2 h3 hD
set_option maxHeartbeats 4000000 in
set_option maxRecDepth 20000 in
theorem c_X0_search {B : Bs} {n0 : Nat} {V : Vs} {κ : Ks} {k : Nat} {sum : Int} {nd : Nat → Int} (h_k : k ≤ 6) (h_s : 0 ≤ sum ∧ sum ≤ 100000) (hnd : ∀ i, i < k → 0 ≤ nd i ∧ nd i ≤ 14000) (h4 : κ 17 4 = ((k : Nat) : Int)) (h5 : κ 17 5 = sum) (hn : ∀ i, i < k → κ 18 i = nd i) (hl : ∀ d : Nat, d < 7 → κ 21 d = 0) : Ct (XR B n0) mX0_search (k + 4) 0 0 [Rf 17] V κ (PT κ V k sum nd 0 0 (7 ^ k)) := by
  refine Ct.of (L := [some (Rf 17)]) 0 (by decide +kernel) rfl rfl ?_
  refine g_aload_n 1 dX0_search_0 rfl rfl ?_
  refine g_ldc (n := 1000000) 3 dX0_search_1 kcX0_31 (by decide) rfl ?_
  refine g_putI 6 dX0_search_3 fpX0_32 (fun h => (nomatch h)) kd_17 ly_17_7 (by omega) rfl ?_
  refine g_aload_n 7 dX0_search_6 rfl rfl ?_
  refine g_ldc (n := 1000000) 9 dX0_search_7 kcX0_31 (by decide) rfl ?_
  refine g_putI 12 dX0_search_9 fpX0_35 (fun h => (nomatch h)) kd_17 ly_17_6 (by omega) rfl ?_
  refine g_aload_n 13 dX0_search_12 rfl rfl ?_
  refine g_iconst 14 dX0_search_13 (by decide) rfl ?_
  refine g_iconst 15 dX0_search_14 (by decide) rfl ?_
  refine p_V 18 0 0 [Iv 0, Iv 0] [] dX0_search_15 cvX0_38 mwX0_tryFrom kd_17 (by omega) rfl (Nat.le_of_ble_eq_true rfl) rfl rfl rfl (c_try (k := k) (sum := sum) (nd := nd) h_k h_s hnd k 0 (by omega) V _ 0 0 (Nat.le_refl 0) (by decide) (fun i hi => absurd hi (Nat.not_lt_zero i)) (DS_0 h4 h5 hn hl)) ?_
  intro r1 V1 κ5 hp1
  obtain ⟨hr1, hv1, hD5, fr5⟩ := hp1
  subst hv1
  subst hr1
  refine ⟨[], rfl, ?_⟩
  refine g_vret dX0_search_18 rfl ?_
  rw [Nat.sub_zero, Nat.zero_add, Nat.one_mul] at hD5
  exact ⟨rfl, rfl, hD5, fun t ht => (fr5 t ht).trans ((st2_t (by omega)).trans (st2_t (by omega)))⟩
